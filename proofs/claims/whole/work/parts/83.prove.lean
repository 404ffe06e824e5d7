/-! Oprf: prove -/
def bi (b : Bool) : Int32 := match b with
  | true => 1
  | false => 0
theorem pz_bi {p : Option (fq × fq)} : pz p = bi p.isSome := by cases p <;> rfl
def ptO (p : Option (fq × fq)) : List Nat := match p with
  | some q => ptb q
  | none => []
/-- what the challenge is made of -/
def chm (sh : List Nat) (M Z T U : Option (fq × fq)) : List Nat := nb 49 2 ++ sh ++ nb 49 2 ++ ptO M ++ nb 49 2 ++ ptO Z ++ nb 49 2 ++ ptO T ++ nb 49 2 ++ ptO U ++ tCh
theorem chl_5 {b : Nat → Nat} {sh : List Nat} {M Z T U : Option (fq × fq)} (h0 : sl b 0 49 = sh) (h1 : sl b 49 49 = ptO M) (h2 : sl b 98 49 = ptO Z) (h3 : sl b 147 49 = ptO T) (h4 : sl b 196 49 = ptO U) : chl b 5 ++ tCh = chm sh M Z T U := by
  show (((((([] ++ nb 49 2 ++ sl b (0 * 49) 49) ++ nb 49 2 ++ sl b (1 * 49) 49) ++ nb 49 2 ++ sl b (2 * 49) 49) ++ nb 49 2 ++ sl b (3 * 49) 49) ++ nb 49 2 ++ sl b (4 * 49) 49)) ++ tCh = _
  unfold chm
  rw [show 0 * 49 = 0 from rfl, show 1 * 49 = 49 from rfl, show 2 * 49 = 98 from rfl, show 3 * 49 = 147 from rfl, show 4 * 49 = 196 from rfl, h0, h1, h2, h3, h4, List.nil_append]
def smk (r c k : Nat) : Nat := (r + cQ - c * k % cQ) % cQ
section
variable {l : Launch} {O : Nat → vm_Ob} {f9 : Value} {a : Nat} {h : vm_H} {W : Nat → List Nat} {B : Nat → Nat → Nat} {V : Nat → Option Nat} {g : og} {st2 kk2 : Nat → Int32} {st3 kk3 : Nat → Int64}
theorem cs_1 {P : Option (fq × fq)} {f : Nat → Nat} : cs (fun _ => P) f 1 = ecM (-3) fiv (f 0) P := by
  show ecA (-3) fiv none (ecM (-3) fiv (f 0) P) = _
  rfl
/-- a multiple by combine -/
theorem o_mulp {i pl fa nb at9 : Nat} {b : Nat → Nat} {P : Option (fq × fq)} (k : OPc a h W B V g) (hi : i < 3) (hpl : pl < 10) (hb : bv h nb fa b) (hat : at9 + 48 ≤ nb) (hnb : nb < 65536) (ht : g.1 pl = some P) (hr : (∃ q, g.2 i = some q) ∨ ecM (-3) fiv (bn b at9 48) P ≠ none) :
    vm_Met (vm_env l O f9) mX2_combine 0 0 [.ref (a + 12), .int (nI pl), .int 1, .ref fa, .int (nI at9), .ref (a + pt (i + 1))] h (fun e h' => e = none ∧ OPc a h' W B V (g.1, fu g.2 i (some (ecM (-3) fiv (bn b at9 48) P))) ∧ fr h h' (CR a)) := by
  have hm := o_comb (l := l) (O := O) (f9 := f9) (many := 1) (pl := pl) (at9 := at9) (Pk := fun _ => P) k hi (by omega) hb (by omega) hnb (fun q hq => by rw [show pl + q = pl by omega]; exact ht) (by rw [cs_1]; exact hr)
  rw [cs_1] at hm
  exact hm
set_option maxHeartbeats 1000000 in
theorem p_prv {K ty sz bs sa sh se ki mo nsh nse fa nf at9 : Nat} {lv : Int32} {shb seb b : Nat → Nat} {M : Option (fq × fq)} (h9 : f9.category = 1) (k : OPc a h W B V g) (ev : EV st2 kk2 st3 kk3 h) (hK : KO h K ty sz bs sa sh se ki mo lv) (hKo : ¬ OR a K) (hsh : bv h nsh sh shb) (hsho : ¬ OR a sh) (hns : 49 ≤ nsh) (hns2 : nsh < 65536) (hse : bv h nse se seb) (hseo : ¬ OR a se) (hne : 48 ≤ nse) (hne2 : nse < 65536) (hf : bv h nf fa b) (hfo : ¬ OR a fa) (hat : at9 + 48 ≤ nf) (hnf : nf < 65536) (hq1 : bn seb 0 48 < cQ) (hq2 : bn b at9 48 < cQ) (hM : g.2 1 = some M) (hp : ∃ q, g.2 0 = some q) (hw : (W 0).length + 96 ≤ 488) :
    vm_Met (vm_env l O f9) mX7_prove 0 0 [.ref a, .ref K, .ref fa, .int (nI at9)] h (fun r h' => ∃ made : Bool, r = some (.int (bi made)) ∧ (made = true ↔ (M ≠ none ∧ ecM (-3) fiv (bn seb 0 48) M ≠ none ∧ ecM (-3) fiv (bn b at9 48) M ≠ none ∧ ecM (-3) fiv (bn b at9 48) gP ≠ none)) ∧ (∃ W' B' V' g', OPc a h' W' B' V' g' ∧ (∀ i, i ≠ 3 → i ≠ 4 → i ≠ 5 → i ≠ 8 → i ≠ 9 → B' i = B i) ∧ (made = true → W' 0 = W 0 ++ wb (hts st3 kk3 (chm (sl shb 0 49) M (ecM (-3) fiv (bn seb 0 48) M) (ecM (-3) fiv (bn b at9 48) gP) (ecM (-3) fiv (bn b at9 48) M))) 48 ++ wb (smk (bn b at9 48) (hts st3 kk3 (chm (sl shb 0 49) M (ecM (-3) fiv (bn seb 0 48) M) (ecM (-3) fiv (bn b at9 48) gP) (ecM (-3) fiv (bn b at9 48) M))) (bn seb 0 48)) 48)) ∧ fr h h' (OR a)) := by
  have k0 := k.1
  have ha695 : a + 695 < 1099511627776 := by omega
  have xc : ∀ q, CR a q → OR a q := fun q hq => (CR_HS q hq).1
  have xf : ∀ q, (CR a q ∨ q = a + oad 9) → OR a q := fun q hq => by
    have hq : CR a q ∨ q = a + 695 := hq
    unfold CR at hq; unfold OR; omega
  have xw : ∀ q, (q = a + rad 0 ∨ q = a + rad 0 + 1) → OR a q := fun q hq => by
    have hq : q = a + 4 ∨ q = a + 4 + 1 := hq
    unfold OR; omega
  generalize hZ : ecM (-3) fiv (bn seb 0 48) M = Z
  generalize hU : ecM (-3) fiv (bn b at9 48) M = U
  generalize hT : ecM (-3) fiv (bn b at9 48) gP = T
  suffices H : ∀ Q : Option Value → vm_H → Prop, (∀ r h', (∃ made : Bool, r = some (.int (bi made)) ∧ (made = true ↔ (M ≠ none ∧ Z ≠ none ∧ U ≠ none ∧ T ≠ none)) ∧ (∃ W' B' V' g', OPc a h' W' B' V' g' ∧ (∀ i, i ≠ 3 → i ≠ 4 → i ≠ 5 → i ≠ 8 → i ≠ 9 → B' i = B i) ∧ (made = true → W' 0 = W 0 ++ wb (hts st3 kk3 (chm (sl shb 0 49) M Z T U)) 48 ++ wb (smk (bn b at9 48) (hts st3 kk3 (chm (sl shb 0 49) M Z T U)) (bn seb 0 48)) 48)) ∧ fr h h' (OR a)) → Q r h') → vm_Met (vm_env l O f9) mX7_prove 0 0 [.ref a, .ref K, .ref fa, .int (nI at9)] h Q from H _ (fun _ _ z => z)
  intro Q hQ
  obtain ⟨fs, es, vs⟩ := id hsh
  obtain ⟨f5, e5, v5⟩ := OP_b k (j := 9) (by decide)
  refine vm_met rfl (Nat.le_of_ble_eq_true rfl) ?_
  refine vm_go rfl bX7_prove_0 oX7_prove_0 ⟨_, _, hK, rfl, ⟨_, _, OP_t k, rfl, ⟨49, 0, 0, nsh, 245, rfl, rfl, rfl, by omega, by decide, ha695, fs, f5, es, e5, ?_⟩⟩⟩
  generalize hq1' : vm_up h (a + 695) _ = h1
  have b1 : bv h1 (oln 9) (a + oad 9) (app (B 9) 0 shb 49) := by
    show bv h1 245 (a + 695) _
    rw [← hq1']
    refine ⟨_, vm_upe, fun j hj => ?_⟩
    unfold va_cpy app
    by_cases e : 0 ≤ j ∧ j < 0 + 49
    · rw [if_pos e, if_pos e, Nat.zero_add, Nat.sub_zero]; exact vs j (by omega)
    · rw [if_neg e, if_neg e]; exact v5 j hj
  have F1 : fr h h1 (fun q => q = a + oad 9) := by rw [← hq1']; exact fr_up rfl
  clear hq1'
  have k1 := OP_byt k (t := 9) (by decide) F1 b1
  have F1 := fr_mono F1 (fun q z => xf q (Or.inr z))
  have s0 : sl (app (B 9) 0 shb 49) 0 49 = sl shb 0 49 := sl_app_hi
  generalize app (B 9) 0 shb 49 = c1 at *
  refine ⟨_, _, OP_t k1, rfl, ⟨_, _, OP_t k1, rfl, ⟨_, _, OP_t k1, rfl, ⟨_, OP_Co k1, 0, 0, _, o_enc (i := 1) (t := 9) (at9 := 49) k1 (by decide) hM (by decide) (by decide), Nat.zero_le _, Nat.zero_le _, ?_⟩⟩⟩⟩
  rintro _ h2 ⟨rfl, k2, F2⟩
  have F2 := fr_trans F1 (fr_mono F2 xf)
  rw [fu_fu, fu_e] at k2
  rw [pz_bi]
  refine ⟨_, _, OP_t k2, rfl, ⟨_, _, OP_t k2, rfl, ⟨_, OP_Co k2, 0, 0, _, o_spr (i := 2) (pl := 8) k2 (by decide) (by decide) hM, Nat.zero_le _, Nat.zero_le _, ?_⟩⟩⟩
  rintro _ h3 ⟨rfl, k3, F3⟩
  have F3 := fr_trans F2 (fr_mono F3 xc)
  have hK3 := KO_fr hK F3 hKo
  have e3 := fr_bv F3 hse hseo
  refine ⟨_, _, OP_t k3, rfl, ⟨_, _, hK3, rfl, ⟨_, _, OP_t k3, rfl, ⟨_, OP_Co k3, 0, 0, _, o_mulp (i := 0) (pl := 8) (at9 := 0) k3 (by decide) (by decide) e3 hne hne2 rfl (Or.inl hp), Nat.zero_le _, Nat.zero_le _, ?_⟩⟩⟩⟩
  rintro _ h4 ⟨rfl, k4, F4⟩
  have F4 := fr_trans F3 (fr_mono F4 xc)
  rw [hZ] at k4
  refine ⟨_, _, OP_t k4, rfl, ⟨_, _, OP_t k4, rfl, ⟨_, _, OP_t k4, rfl, ⟨_, OP_Co k4, 0, 0, _, o_enc (i := 0) (t := 9) (at9 := 98) (p := Z) k4 (by decide) rfl (by decide) (by decide), Nat.zero_le _, Nat.zero_le _, ?_⟩⟩⟩⟩
  rintro _ h5 ⟨rfl, k5, F5⟩
  have F5 := fr_trans F4 (fr_mono F5 xf)
  rw [fu_fu, fu_e] at k5
  suffices h96 : vm_T (vm_env l O f9) mX7_prove 0 0 96 [(0, .ref a), (1, .ref K), (2, .ref fa), (3, .int (nI at9)), (4, .int (bi M.isSome))] [.int (bi (Z.isSome && M.isSome))] h5 Q by
    cases Z with
    | none => exact ⟨fun _ => vm_go rfl bX7_prove_95 oX7_prove_95 h96, fun q => absurd rfl q⟩
    | some z =>
      refine ⟨fun q => absurd q (by show ¬ (1 : Int32) = 0; decide), fun _ => ?_⟩
      cases M with
      | none => exact ⟨fun _ => vm_go rfl bX7_prove_95 oX7_prove_95 h96, fun q => absurd rfl q⟩
      | some z => exact ⟨fun q => absurd q (by show ¬ (1 : Int32) = 0; decide), fun _ => h96⟩
  have f5' := fr_bv F5 hf hfo
  refine vm_go rfl bX7_prove_96 oX7_prove_96 ⟨_, _, OP_t k5, rfl, ⟨_, _, OP_t k5, rfl, ⟨_, OP_Co k5, 0, 0, _, o_mulp (i := 0) (pl := 8) k5 (by decide) (by decide) f5' hat hnf rfl (Or.inl ⟨_, rfl⟩), Nat.zero_le _, Nat.zero_le _, ?_⟩⟩⟩
  rintro _ h6 ⟨rfl, k6, F6⟩
  have F6 := fr_trans F5 (fr_mono F6 xc)
  rw [hU] at k6
  refine ⟨_, _, OP_t k6, rfl, ⟨_, _, OP_t k6, rfl, ⟨_, _, OP_t k6, rfl, ⟨_, OP_Co k6, 0, 0, _, o_enc (i := 0) (t := 9) (at9 := 196) (p := U) k6 (by decide) rfl (by decide) (by decide), Nat.zero_le _, Nat.zero_le _, ?_⟩⟩⟩⟩
  rintro _ h7 ⟨rfl, k7, F7⟩
  have F7 := fr_trans F6 (fr_mono F7 xf)
  rw [fu_fu, fu_e] at k7
  suffices h145 : vm_T (vm_env l O f9) mX7_prove 0 0 145 [(0, .ref a), (1, .ref K), (2, .ref fa), (3, .int (nI at9)), (4, .int (bi (Z.isSome && M.isSome)))] [.int (bi (U.isSome && (Z.isSome && M.isSome)))] h7 Q by
    cases hu : U.isSome with
    | false =>
      rw [hu] at h145
      rw [pz_bi, hu]
      exact ⟨fun _ => vm_go rfl bX7_prove_144 oX7_prove_144 h145, fun q => absurd rfl q⟩
    | true =>
      rw [hu] at h145
      rw [pz_bi, hu]
      refine ⟨fun q => absurd q (by decide), fun _ => ?_⟩
      cases hm : (Z.isSome && M.isSome) with
      | false =>
        rw [hm] at h145
        exact ⟨fun _ => vm_go rfl bX7_prove_144 oX7_prove_144 h145, fun q => absurd rfl q⟩
      | true =>
        rw [hm] at h145
        exact ⟨fun q => absurd q (by decide), fun _ => h145⟩
  refine vm_go rfl bX7_prove_145 oX7_prove_145 ⟨_, _, OP_t k7, rfl, ⟨_, _, OP_t k7, rfl, ⟨_, _, OP_Co k7, rfl, ⟨_, OP_Co k7, 0, 0, _, o_spr (i := 0) (pl := 8) k7 (by decide) (by decide) rfl, Nat.zero_le _, Nat.zero_le _, ?_⟩⟩⟩⟩
  rintro _ h8 ⟨rfl, k8, F8⟩
  have F8 := fr_trans F7 (fr_mono F8 xc)
  have f8' := fr_bv F8 hf hfo
  refine ⟨_, _, OP_t k8, rfl, ⟨_, _, OP_t k8, rfl, ⟨_, OP_Co k8, 0, 0, _, o_mulp (i := 0) (pl := 8) k8 (by decide) (by decide) f8' hat hnf rfl (Or.inl ⟨_, rfl⟩), Nat.zero_le _, Nat.zero_le _, ?_⟩⟩⟩
  rintro _ hx9 ⟨rfl, k9, F9⟩
  have F9 := fr_trans F8 (fr_mono F9 xc)
  rw [hT] at k9
  refine ⟨_, _, OP_t k9, rfl, ⟨_, _, OP_t k9, rfl, ⟨_, _, OP_t k9, rfl, ⟨_, OP_Co k9, 0, 0, _, o_enc (i := 0) (t := 9) (at9 := 147) (p := T) k9 (by decide) rfl (by decide) (by decide), Nat.zero_le _, Nat.zero_le _, ?_⟩⟩⟩⟩
  rintro _ h10 ⟨rfl, k10, F10⟩
  have F10 := fr_trans F9 (fr_mono F10 xf)
  rw [fu_fu, fu_e] at k10
  suffices h210 : vm_T (vm_env l O f9) mX7_prove 0 0 210 [(0, .ref a), (1, .ref K), (2, .ref fa), (3, .int (nI at9)), (4, .int (bi (U.isSome && (Z.isSome && M.isSome))))] [.int (bi (T.isSome && (U.isSome && (Z.isSome && M.isSome))))] h10 Q by
    cases hu : T.isSome with
    | false =>
      rw [hu] at h210
      rw [pz_bi, hu]
      exact ⟨fun _ => vm_go rfl bX7_prove_209 oX7_prove_209 h210, fun q => absurd rfl q⟩
    | true =>
      rw [hu] at h210
      rw [pz_bi, hu]
      refine ⟨fun q => absurd q (by decide), fun _ => ?_⟩
      cases hm : (U.isSome && (Z.isSome && M.isSome)) with
      | false =>
        rw [hm] at h210
        exact ⟨fun _ => vm_go rfl bX7_prove_209 oX7_prove_209 h210, fun q => absurd rfl q⟩
      | true =>
        rw [hm] at h210
        exact ⟨fun q => absurd q (by decide), fun _ => h210⟩
  generalize hc5 : encb (encb (encb (encb c1 49 M) 98 Z) 196 U) 147 T = c5 at *
  have ev10 := EV_or ev k0 F10 (fun _ z => z)
  have z0 : sl c5 0 49 = sl shb 0 49 := by
    rw [← hc5, encb_sl (by omega), encb_sl (by omega), encb_sl (by omega), encb_sl (by omega), s0]
  refine vm_go rfl bX7_prove_210 oX7_prove_210 ⟨_, OP_t k10, 0, 0, _, p_cha h9 k10 ev10, Nat.zero_le _, Nat.zero_le _, ?_⟩
  rintro _ h11 ⟨rfl, ⟨W11, B11, V11, k11, w11, b11, hc⟩, F11⟩
  have F11 := fr_trans F10 (fr_mono F11 HS_OR)
  rw [fu_e] at hc
  rw [fu_n (by decide)] at hc
  have hK11 := KO_fr hK F11 hKo
  have e11 := fr_bv F11 hse hseo
  have f11 := fr_bv F11 hf hfo
  refine ⟨_, OP_t k11, 0, 0, _, p_ans k11 hK11 hKo e11 hseo hne hne2 f11 hfo hat hnf hq1 hq2, Nat.zero_le _, Nat.zero_le _, ?_⟩
  rintro _ h12 ⟨rfl, ⟨V12, k12⟩, F12⟩
  have F12 := fr_trans F11 (fr_mono F12 HS_OR)
  have k12 := OP_W k12 0
  refine ⟨_, _, OP_t k12, rfl, ⟨_, _, OP_t k12, rfl, ⟨_, OP_ro k12 (j := 0) (by decide), 0, 0, _, o_all (j := 0) (at9 := 0) (m := 96) k12 (by decide) (OP_b k12 (j := 8) (by decide)) (by decide) (by decide) (by show _ ≤ 488; rw [w11]; exact hw), Nat.zero_le _, Nat.zero_le _, ?_⟩⟩⟩
  rintro _ h13 ⟨rfl, k13, F13⟩
  have F13 := fr_trans F12 (fr_mono F13 xw)
  refine ⟨by cases (T.isSome && (U.isSome && (Z.isSome && M.isSome))) <;> rfl, hQ _ _ ⟨_, rfl, ?_, ⟨_, _, _, _, k13, fun i i3 i4 i5 i8 i9 => ?_, fun hm => ?_⟩, F13⟩⟩
  · cases T <;> cases U <;> cases Z <;> cases M <;> simp
  · rw [fu_n i8, b11 i i3 i4 i5 i8, fu_n i9]
  · rw [fu_e, w11]
    have hm : T.isSome = true ∧ U.isSome = true ∧ Z.isSome = true ∧ M.isSome = true := by simpa [Bool.and_eq_true] using hm
    obtain ⟨m1, m2, m3, m4⟩ := hm
    have y1 : sl c5 49 49 = ptO M := by
      obtain ⟨q, rfl⟩ := Option.isSome_iff_exists.mp m4
      rw [← hc5, encb_sl (by omega), encb_sl (by omega), encb_sl (by omega), encb_at]; rfl
    have y2 : sl c5 98 49 = ptO Z := by
      obtain ⟨q, hq⟩ := Option.isSome_iff_exists.mp m3
      rw [← hc5, encb_sl (by omega), encb_sl (by omega), hq, encb_at]; rfl
    have y3 : sl c5 147 49 = ptO T := by
      obtain ⟨q, hq⟩ := Option.isSome_iff_exists.mp m1
      rw [← hc5, hq, encb_at]; rfl
    have y4 : sl c5 196 49 = ptO U := by
      obtain ⟨q, hq⟩ := Option.isSome_iff_exists.mp m2
      rw [← hc5, encb_sl (by omega), hq, encb_at]; rfl
    rw [chl_5 z0 y1 y2 y3 y4] at hc
    have hlt : hts st3 kk3 (chm (sl shb 0 49) M Z T U) < cQ := hts_lt
    generalize hts st3 kk3 (chm (sl shb 0 49) M Z T U) = ch at *
    have hch : bn (B11 8) 0 48 = ch := by
      rw [hc]; exact wrb_bn (Nat.lt_trans hlt cQ_48)
    rw [fu_e, hch]
    show _ ++ sl (wrb (B11 8) 48 48 (smk (bn b at9 48) ch (bn seb 0 48))) 0 (48 + 48) = _
    rw [sl_app, Nat.zero_add, wrb_sl, List.append_assoc]
    congr 2
    rw [← wrb_sl (b := B 8) (p := 0), ← hc]
    exact sl_ext (fun j hj => wrb_off (by omega))
end
