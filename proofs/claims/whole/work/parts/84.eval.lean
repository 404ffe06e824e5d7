/-! Oprf: evaluate -/
noncomputable def evZ (k : Nat) (cw : Nat → List Nat) (i : Nat) : Option (fq × fq) := ecM (-3) fiv k (elL (cw i))
def evl (Z : Nat → Option (fq × fq)) : Nat → List Nat
  | 0 => []
  | i + 1 => evl Z i ++ ptO (Z i)
theorem ptO_len {p : Option (fq × fq)} (h : p ≠ none) : (ptO p).length = 49 := by
  cases p with
  | none => exact absurd rfl h
  | some q => exact ptb_len
theorem ptO_ok {p : Option (fq × fq)} : ok8 (ptO p) := by
  cases p with
  | none => intro x hx; cases hx
  | some q => exact ptb_ok
theorem evl_len {Z : Nat → Option (fq × fq)} : ∀ n, (∀ i, i < n → Z i ≠ none) → (evl Z n).length = 49 * n
  | 0, _ => rfl
  | n + 1, h => by
    show (evl Z n ++ ptO (Z n)).length = _
    rw [List.length_append, evl_len n (fun i hi => h i (by omega)), ptO_len (h n (by omega))]; omega
theorem evl_at {Z : Nat → Option (fq × fq)} {b : Nat → Nat} : ∀ n, (∀ i, i < n → Z i ≠ none) → sl b 0 (49 * n) = evl Z n → ∀ i, i < n → sl b (49 * i) 49 = ptO (Z i)
  | 0, _, _, i, hi => by omega
  | n + 1, h, e, i, hi => by
    have hl := evl_len n (fun i hi => h i (by omega))
    have e : sl b 0 (49 * n + 49) = evl Z n ++ ptO (Z n) := e
    rw [sl_app] at e
    obtain ⟨e1, e2⟩ := List.append_inj e (by rw [sl_len, hl])
    by_cases z : i = n
    · rw [z]; rw [Nat.zero_add] at e2; exact e2
    · exact evl_at n (fun i hi => h i (by omega)) e1 i (by omega)
noncomputable def evM (st kk : Nat → Int64) (k : Nat) (sh : List Nat) (cw : Nat → List Nat) (n : Nat) : Option (fq × fq) := cs (fun i => elL (cw i)) (fun i => wgt st kk (sdl st kk sh) (cw i) (ptO (evZ k cw i)) i) n
def evOK (st kk : Nat → Int64) (k r : Nat) (sh : List Nat) (cw : Nat → List Nat) (n : Nat) : Prop := (0 < r ∧ r < cQ) ∧ (∀ i, i < n → evZ k cw i ≠ none) ∧ evM st kk k sh cw n ≠ none ∧ ecM (-3) fiv k (evM st kk k sh cw n) ≠ none ∧ ecM (-3) fiv r (evM st kk k sh cw n) ≠ none ∧ ecM (-3) fiv r gP ≠ none
noncomputable def evC (st kk : Nat → Int64) (k r : Nat) (sh : List Nat) (cw : Nat → List Nat) (n : Nat) : Nat := hts st kk (chm sh (evM st kk k sh cw n) (ecM (-3) fiv k (evM st kk k sh cw n)) (ecM (-3) fiv r gP) (ecM (-3) fiv r (evM st kk k sh cw n)))
noncomputable def evA (st kk : Nat → Int64) (k r : Nat) (sh : List Nat) (cw : Nat → List Nat) (n : Nat) : List Nat := evl (evZ k cw) n ++ wb (evC st kk k r sh cw n) 48 ++ wb (smk r (evC st kk k r sh cw n) k) 48
section
variable {l : Launch} {O : Nat → vm_Ob} {f9 : Value} {a : Nat} {h : vm_H} {W : Nat → List Nat} {B : Nat → Nat → Nat} {V : Nat → Option Nat} {g : og} {st2 kk2 : Nat → Int32} {st3 kk3 : Nat → Int64}
set_option maxHeartbeats 1000000 in
theorem p_eva {K ty sz bs sa sh se ki mo nsh nse fa nf many : Nat} {lv : Int32} {shb seb b : Nat → Nat} (h9 : f9.category = 1) (k : OPc a h W B V g) (ev : EV st2 kk2 st3 kk3 h) (hK : KO h K ty sz bs sa sh se ki mo lv) (hKo : ¬ OR a K) (hsh : bv h nsh sh shb) (hsho : ¬ OR a sh) (hns : 49 ≤ nsh) (hns2 : nsh < 65536) (hse : bv h nse se seb) (hseo : ¬ OR a se) (hne : 48 ≤ nse) (hne2 : nse < 65536) (hf : bv h nf fa b) (hfo : ¬ OR a fa) (hat : 3 + 49 * many + 48 ≤ nf) (hnf : nf < 65536) (hq1 : bn seb 0 48 < cQ) (hm0 : 1 ≤ many) (hm1 : many ≤ 8) :
    vm_Met (vm_env l O f9) mX7_evaluate 0 0 [.ref a, .ref K, .ref fa, .int (nI many)] h (fun r h' => ∃ ok : Bool, r = some (.int (bi ok)) ∧ (ok = true ↔ evOK st3 kk3 (bn seb 0 48) (bn b (3 + 49 * many) 48) (sl shb 0 49) (fun i => sl b (3 + 49 * i) 49) many) ∧ (∃ W' B' V' g', OPc a h' W' B' V' g' ∧ (ok = true → W' 0 = evA st3 kk3 (bn seb 0 48) (bn b (3 + 49 * many) 48) (sl shb 0 49) (fun i => sl b (3 + 49 * i) 49) many)) ∧ fr h h' (OR a)) := by
  have k0 := k.1
  have xc : ∀ q, CR a q → OR a q := fun q hq => (CR_HS q hq).1
  have xf : ∀ q, (CR a q ∨ q = a + oad 9) → OR a q := fun q hq => by
    have hq : CR a q ∨ q = a + 695 := hq
    unfold CR at hq; unfold OR; omega
  have xw : ∀ q, (q = a + rad 0 ∨ q = a + rad 0 + 1) → OR a q := fun q hq => by
    have hq : q = a + 4 ∨ q = a + 4 + 1 := hq
    unfold OR; omega
  have xn : ∀ q, q = a + 697 + 0 → OR a q := fun q hq => by unfold OR; omega
  have eS : 3 + nI many * 49 = nI (3 + 49 * many) := by
    rw [show nI many * 49 = nI (many * 49) from nI_mul many 49, show (3 : Int32) = nI 3 from rfl, nI_add, Nat.mul_comm many 49]
  generalize hcw : (fun i => sl b (3 + 49 * i) 49) = cw
  have hcwi : ∀ i, sl b (3 + 49 * i) 49 = cw i := fun i => by rw [← hcw]
  generalize hks : bn seb 0 48 = ks at *
  generalize hrr : bn b (3 + 49 * many) 48 = rr at *
  suffices H : ∀ Q : Option Value → vm_H → Prop, (∀ r h', (∃ ok : Bool, r = some (.int (bi ok)) ∧ (ok = true ↔ evOK st3 kk3 ks rr (sl shb 0 49) cw many) ∧ (∃ W' B' V' g', OPc a h' W' B' V' g' ∧ (ok = true → W' 0 = evA st3 kk3 ks rr (sl shb 0 49) cw many)) ∧ fr h h' (OR a)) → Q r h') → vm_Met (vm_env l O f9) mX7_evaluate 0 0 [.ref a, .ref K, .ref fa, .int (nI many)] h Q from H _ (fun _ _ z => z)
  intro Q hQ
  have bad : ∀ h' W' B' V' g', OPc a h' W' B' V' g' → fr h h' (OR a) → ¬ evOK st3 kk3 ks rr (sl shb 0 49) cw many → Q (some (.int 0)) h' := fun h' W' B' V' g' k F n => hQ _ _ ⟨false, rfl, ⟨(fun z => nomatch z), fun z => absurd z n⟩, ⟨W', B', V', g', k, (fun z => nomatch z)⟩, F⟩
  refine vm_met rfl (Nat.le_of_ble_eq_true rfl) ?_
  refine vm_go rfl bX7_evaluate_0 oX7_evaluate_0 ⟨_, OP_t k, 0, 0, _, vm_metA (p_secr (at9 := 3 + 49 * many) k hf hat hnf) (by show [_, _, Value.int (nI (3 + 49 * many))] = [_, _, Value.int (3 + nI many * 49)]; rw [eS]), Nat.zero_le _, Nat.zero_le _, ?_⟩
  rintro _ h1 ⟨rfl, k1, F1⟩
  have F1 := fr_mono F1 xn
  rw [hrr]
  by_cases hsec : 0 < rr ∧ rr < cQ
  rotate_left
  · rw [if_neg hsec]
    exact ⟨fun q => absurd rfl q, fun _ => ⟨rfl, bad _ _ _ _ _ k1 F1 (fun z => hsec z.1)⟩⟩
  rw [if_pos hsec]
  refine ⟨fun _ => ?_, fun q => absurd q (by decide)⟩
  refine vm_Th (lv' := [(0, .ref a), (1, .ref K), (2, .ref fa), (3, .int (nI many)), (4, .int (nI (3 + 49 * many)))]) (h' := h1) (by rw [← eS]; rfl) rfl ?_
  have k1 := OP_W k1 0
  refine vm_go rfl bX7_evaluate_20 oX7_evaluate_20 ⟨_, _, OP_t k1, rfl, ⟨_, OP_ro k1 (j := 0) (by decide), 0, 0, _, o_clear (j := 0) k1 (by decide), Nat.zero_le _, Nat.zero_le _, ?_⟩⟩
  rintro _ h2 ⟨rfl, k2, F2⟩
  have F2 := fr_trans F1 (fr_mono F2 (fun q z => xw q (Or.inl z)))
  refine vm_Th (lv' := [(0, .ref a), (1, .ref K), (2, .ref fa), (3, .int (nI many)), (4, .int (nI (3 + 49 * many))), (5, .int (nI 0))]) (h' := h2) rfl rfl ?_
  refine vm_loop (fun i h2 => (∃ B' g', OPc a h2 (fu W 0 (evl (evZ ks cw) i)) B' (fu V 0 (some rr)) g' ∧ (i = 0 ∨ ∃ q, g'.2 0 = some q) ∧ (∀ j, j < i → g'.1 j = some (elL (cw j)) ∧ evZ ks cw j ≠ none)) ∧ fr h h2 (OR a)) many (fun i => [(0, .ref a), (1, .ref K), (2, .ref fa), (3, .int (nI many)), (4, .int (nI (3 + 49 * many))), (5, .int (nI i))]) 0 h2 (Nat.zero_le _) ⟨⟨_, _, by rw [hrr] at k2; exact k2, Or.inl rfl, fun j hj => by omega⟩, F2⟩ ?_ ?_
  rotate_left
  · rintro i h3 _ hi ⟨⟨B3, g3, k3, hgp, hg3⟩, F3⟩ ih
    have e49 : 3 + nI i * 49 = nI (3 + 49 * i) := by
      rw [show nI i * 49 = nI (i * 49) from nI_mul i 49, show (3 : Int32) = nI 3 from rfl, nI_add, Nat.mul_comm i 49]
    have f3 := fr_bv F3 hf hfo
    refine vm_go rfl bX7_evaluate_30 oX7_evaluate_30 ⟨fun q => absurd q (nI_ge hi (by omega)), fun _ => ?_⟩
    refine ⟨_, _, OP_t k3, rfl, ⟨_, _, OP_t k3, rfl, ⟨_, OP_Co k3, 0, 0, _, vm_metA (o_dec (at9 := 3 + 49 * i) k3 f3 (by omega) hnf) (by show [_, _, Value.int (nI (3 + 49 * i)), _] = [_, _, Value.int (3 + nI i * 49), _]; rw [e49]), Nat.zero_le _, Nat.zero_le _, ?_⟩⟩⟩
    rintro _ h4 ⟨rfl, k4, F4⟩
    have F4 := fr_trans F3 (fr_mono F4 xc)
    rw [hcwi i] at k4 ⊢
    cases hel : elL (cw i) with
    | none =>
      rw [hel] at k4
      refine ⟨fun q => absurd rfl q, fun _ => ⟨rfl, bad _ _ _ _ _ k4 F4 (fun z => z.2.1 i hi ?_)⟩⟩
      unfold evZ
      rw [hel]; exact ecM_none _
    | some pe =>
    rw [hel] at k4
    refine ⟨fun _ => ?_, fun q => absurd q (by show ¬ (1 : Int32) = 0; decide)⟩
    have hK4 := KO_fr hK F4 hKo
    refine vm_go rfl bX7_evaluate_60 oX7_evaluate_60 ⟨_, _, OP_t k4, rfl, ⟨_, _, OP_t k4, rfl, ⟨_, OP_Co k4, 0, 0, _, o_spr (i := 1) (pl := i) (p := some pe) k4 (by decide) (by omega) rfl, Nat.zero_le _, Nat.zero_le _, ?_⟩⟩⟩
    rintro _ h5 ⟨rfl, k5, F5⟩
    have F5 := fr_trans F4 (fr_mono F5 xc)
    have hK5 := KO_fr hK F5 hKo
    have e5 := fr_bv F5 hse hseo
    refine ⟨_, _, OP_t k5, rfl, ⟨_, _, hK5, rfl, ⟨_, _, OP_t k5, rfl, ⟨_, OP_Co k5, 0, 0, _, o_mulp (i := 0) (pl := i) (at9 := 0) (P := some pe) k5 (by decide) (by omega) e5 hne hne2 (by show fu _ i _ i = _; exact fu_e) (Or.inl ⟨_, rfl⟩), Nat.zero_le _, Nat.zero_le _, ?_⟩⟩⟩⟩
    rintro _ h6 ⟨rfl, k6, F6⟩
    have F6 := fr_trans F5 (fr_mono F6 xc)
    rw [hks] at k6
    have hzi : ecM (-3) fiv ks (some pe) = evZ ks cw i := by unfold evZ; rw [hel]
    rw [hzi] at k6
    refine ⟨_, _, OP_t k6, rfl, ⟨_, _, OP_t k6, rfl, ⟨_, _, OP_t k6, rfl, ⟨_, OP_Co k6, 0, 0, _, o_enc (i := 0) (t := 9) (at9 := 0) (p := evZ ks cw i) k6 (by decide) rfl (by decide) (by decide), Nat.zero_le _, Nat.zero_le _, ?_⟩⟩⟩⟩
    rintro _ h7 ⟨rfl, k7, F7⟩
    have F7 := fr_trans F6 (fr_mono F7 xf)
    by_cases hz : evZ ks cw i = none
    · rw [hz]
      exact ⟨fun q => absurd rfl q, fun _ => ⟨rfl, bad _ _ _ _ _ k7 F7 (fun z => z.2.1 i hi hz)⟩⟩
    obtain ⟨zp, hzp⟩ := Option.ne_none_iff_exists'.mp hz
    rw [hzp] at k7 ⊢
    refine ⟨fun _ => ?_, fun q => absurd q (by show ¬ (1 : Int32) = 0; decide)⟩
    have hl := evl_len (Z := evZ ks cw) i (fun j hj => (hg3 j hj).2)
    refine vm_go rfl bX7_evaluate_113 oX7_evaluate_113 ⟨_, _, OP_t k7, rfl, ⟨_, _, OP_t k7, rfl, ⟨_, OP_ro k7 (j := 0) (by decide), 0, 0, _, o_all (j := 0) (at9 := 0) (m := 49) k7 (by decide) (OP_b k7 (j := 9) (by decide)) (by decide) (by decide) (by show _ ≤ 488; rw [hl]; omega), Nat.zero_le _, Nat.zero_le _, ?_⟩⟩⟩
    rintro _ h8 ⟨rfl, k8, F8⟩
    have F8 := fr_trans F7 (fr_mono F8 xw)
    rw [fu_e, encb_at] at k8
    have ee : evl (evZ ks cw) i ++ ptb zp = evl (evZ ks cw) (i + 1) := by
      show _ = evl (evZ ks cw) i ++ ptO (evZ ks cw i)
      rw [hzp]; rfl
    rw [ee] at k8
    refine vm_Th (by rw [← nI_1]; rfl) rfl (ih h8 ⟨⟨_, _, k8, Or.inr ⟨_, rfl⟩, fun j hj => ?_⟩, F8⟩)
    show fu g3.1 i (some (some pe)) j = _ ∧ _
    by_cases e : j = i
    · rw [e, fu_e, hel]; exact ⟨rfl, hz⟩
    · rw [fu_n e]; exact hg3 j (by omega)
  rintro h3 ⟨⟨B3, g3, k3, hgp, hg3⟩, F3⟩
  refine vm_go rfl bX7_evaluate_30 oX7_evaluate_30 ⟨fun _ => ?_, fun q => absurd (nI_le (Nat.le_refl _) (by omega)) q⟩
  have hall : ∀ j, j < many → evZ ks cw j ≠ none := fun j hj => (hg3 j hj).2
  have hl := evl_len (Z := evZ ks cw) many hall
  obtain ⟨ab, ar, al⟩ := id (OP_we k3 (j := 0) (by decide))
  have ar : row h3 (a + 4) (a + 5) 488 ab (evl (evZ ks cw) many).length := ar
  rw [hl] at al
  have hz9 := evl_at many hall al
  have hK3 := KO_fr hK F3 hKo
  have ev3 := EV_or ev k0 F3 (fun _ z => z)
  refine vm_go rfl bX7_evaluate_133 oX7_evaluate_133 ⟨_, _, OP_t k3, rfl, ⟨_, _, ar.1, rfl, ⟨_, OP_t k3, 0, 0, _, p_wei (d := a + 5) (ct := 3) h9 k3 ev3 hK3 hKo (fr_bv F3 hsh hsho) hsho hns hns2 (fr_bv F3 hf hfo) (fun z => hfo z.1) (by omega) hnf ar.2.1 (fun z => z.2.1 rfl) (by omega) (by decide) hm1, Nat.zero_le _, Nat.zero_le _, ?_⟩⟩⟩
  rintro _ h4 ⟨rfl, ⟨W4, B4, V4, k4, w4, b4, hwt⟩, F4⟩
  have F4 := fr_trans F3 (fr_mono F4 HS_OR)
  rw [fu_e] at w4
  have hM : cs (fun j => elL (cw j)) (fun j => bn (B4 7) (0 + 48 * j) 48) many = evM st3 kk3 ks (sl shb 0 49) cw many := by
    unfold evM
    refine cs_cg many (fun j hj => ?_)
    rw [Nat.zero_add, hwt j hj, hcwi, hz9 j hj]
  obtain ⟨pm, hpm⟩ : ∃ q, g3.2 1 = some q := by
    obtain ⟨ni, ri, G, c, s⟩ := OP_C k4
    exact s.2.2.2.2.1
  refine ⟨_, _, OP_t k4, rfl, ⟨_, _, OP_t k4, rfl, ⟨_, _, OP_t k4, rfl, ⟨_, OP_Co k4, 0, 0, _, o_comb (i := 1) (pl := 0) (at9 := 0) (many := many) (Pk := fun j => elL (cw j)) k4 (by decide) (by omega) (OP_b k4 (j := 7) (by decide)) (by show 0 + 48 * many ≤ 384; omega) (by decide) (fun j hj => by rw [Nat.zero_add]; exact (hg3 j hj).1) (Or.inl ⟨pm, hpm⟩), Nat.zero_le _, Nat.zero_le _, ?_⟩⟩⟩⟩
  rintro _ h5 ⟨rfl, k5, F5⟩
  have F5 := fr_trans F4 (fr_mono F5 xc)
  rw [hM] at k5
  have hK5 := KO_fr hK F5 hKo
  have ev5 := EV_or ev k0 F5 (fun _ z => z)
  refine ⟨_, OP_t k5, 0, 0, _, p_prv (at9 := 3 + 49 * many) (M := evM st3 kk3 ks (sl shb 0 49) cw many) h9 k5 ev5 hK5 hKo (fr_bv F5 hsh hsho) hsho hns hns2 (fr_bv F5 hse hseo) hseo hne hne2 (fr_bv F5 hf hfo) hfo hat hnf (by rw [hks]; exact hq1) (by rw [hrr]; exact hsec.2) rfl (by rcases hgp with z | ⟨q, hq⟩; omega; exact ⟨q, hq⟩) (by rw [w4, hl]; omega), Nat.zero_le _, Nat.zero_le _, ?_⟩
  rintro _ h6 ⟨made, rfl, hmd, ⟨W6, B6, V6, g6, k6, _, hw6⟩, F6⟩
  have F6 := fr_trans F5 F6
  rw [hks, hrr] at hmd hw6
  refine ⟨by cases made <;> rfl, hQ _ _ ⟨made, rfl, ?_, ⟨W6, B6, V6, g6, k6, fun z => ?_⟩, F6⟩⟩
  · rw [hmd]
    exact ⟨fun z => ⟨hsec, hall, z⟩, fun z => z.2.2⟩
  · rw [hw6 z, w4]; rfl
end
