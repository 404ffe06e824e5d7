/-! Oprf: remind, unblind, isOutput, blind -/
/-- an ASKING's object: key, input, blinded, inverse, open -/
def AO (h : vm_H) (Y K ip bl iv : Nat) (op : Int32) : Prop := h.2 Y = .inr (0, [.ref K, .ref ip, .ref bl, .ref iv, .int op])
theorem AO_fr {h h' : vm_H} {S : Nat → Prop} {Y K ip bl iv : Nat} {op : Int32} (k : AO h Y K ip bl iv op) (F : fr h h' S) (hY : ¬ S Y) : AO h' Y K ip bl iv op := (F.2 Y hY).trans k
def outm (st kk : Nat → Int64) (inp : List Nat) (q : fq × fq) : List Nat := H3 st kk (nb 98 2 ++ inp ++ nb 49 2 ++ ptb q ++ tFi)
theorem bi_if {b : Bool} : narrow .boolean (.int (bi b)) = .int (bi b) := by cases b <;> rfl
theorem mul_ne {k : Nat} {P : Option (fq × fq)} (h0 : 0 < k) (h1 : k < cQ) (hP : ecO (-3) (fz (cB : Int)) P) (hn : P ≠ none) : ecM (-3) fiv k P ≠ none := ecM_ord cK hP pr_q (ec_ord hP) hn (fun z => by
  have := Nat.le_of_dvd h0 z
  omega)
theorem gcd_q {m : Nat} (h0 : 0 < m) (h1 : m < cQ) : Nat.gcd m cQ = 1 := by
  rw [Nat.gcd_comm]
  exact pr_cop pr_q (fun z => by
    have := Nat.le_of_dvd h0 z
    omega)
section
variable {l : Launch} {O : Nat → vm_Ob} {f9 : Value} {a : Nat} {h : vm_H} {W : Nat → List Nat} {B : Nat → Nat → Nat} {V : Nat → Option Nat} {g : og} {st2 kk2 : Nat → Int32} {st3 kk3 : Nat → Int64}
theorem p_rem {i fa nf : Nat} {b : Nat → Nat} (k : OPc a h W B V g) (hi : i < 8) (hf : bv h nf fa b) (hnf : 49 ≤ nf) :
    vm_Met (vm_env l O f9) mX7_remind 0 0 [.ref a, .int (nI i), .ref fa] h (fun r h' => r = none ∧ OPc a h' W (fu B 6 (app (B 6) (49 * i) b 49)) V g ∧ fr h h' (fun q => q = a + 692)) := by
  have k0 := k.1
  have ha692 : a + 692 < 1099511627776 := by omega
  have e49 : nI i * 49 = nI (49 * i) := by rw [show nI i * 49 = nI (i * 49) from nI_mul i 49, Nat.mul_comm i 49]
  obtain ⟨ff, ef, vf⟩ := hf
  obtain ⟨f6, e6, v6⟩ := OP_b k (j := 6) (by decide)
  refine vm_met rfl (Nat.le_of_ble_eq_true rfl) ?_
  refine vm_go rfl bX7_remind_0 oX7_remind_0 ⟨_, _, OP_t k, rfl, ⟨49, 49 * i, 0, nf, 392, rfl, e49, rfl, by omega, by omega, ha692, ff, f6, ef, e6, ?_⟩⟩
  generalize hq1 : vm_up h (a + 692) _ = h1
  have b1 : bv h1 (oln 6) (a + oad 6) (app (B 6) (49 * i) b 49) := by
    show bv h1 392 (a + 692) _
    rw [← hq1]
    refine ⟨_, vm_upe, fun j hj => ?_⟩
    unfold va_cpy app
    by_cases e : 49 * i ≤ j ∧ j < 49 * i + 49
    · rw [if_pos e, if_pos e, Nat.zero_add]; exact vf _ (by omega)
    · rw [if_neg e, if_neg e]; exact v6 j hj
  have F1 : fr h h1 (fun q => q = a + oad 6) := by rw [← hq1]; exact fr_up rfl
  exact ⟨rfl, OP_byt k (t := 6) (by decide) F1 b1, F1⟩
theorem p_unb {pl Y K ip bl iv nip niv : Nat} {op : Int32} {ipb ivb : Nat → Nat} {P : Option (fq × fq)} (h9 : f9.category = 1) (k : OPc a h W B V g) (ev : EV st2 kk2 st3 kk3 h) (hY : AO h Y K ip bl iv op) (hYo : ¬ OR a Y) (hip : bv h nip ip ipb) (hipo : ¬ OR a ip) (hnp : 98 ≤ nip) (hnp2 : nip < 65536) (hiv : bv h niv iv ivb) (hnv : 48 ≤ niv) (hnv2 : niv < 65536) (hpl : pl < 10) (hP : g.1 pl = some P) (hp : ∃ q, g.2 0 = some q) :
    vm_Met (vm_env l O f9) mX7_unblind 0 0 [.ref a, .int (nI pl), .ref Y] h (fun r h' => r = none ∧ (∃ W' B' V' g', OPc a h' W' B' V' g' ∧ W' 0 = W 0 ∧ g'.1 = g.1 ∧ (∃ q, g'.2 0 = some q) ∧ ∀ q, ecM (-3) fiv (bn ivb 0 48) P = some q → sl (B' 2) 0 48 = outm st3 kk3 (sl ipb 0 98) q) ∧ fr h h' (OR a)) := by
  have k0 := k.1
  have xc : ∀ q, CR a q → OR a q := fun q hq => (CR_HS q hq).1
  refine vm_met rfl (Nat.le_of_ble_eq_true rfl) ?_
  refine vm_go rfl bX7_unblind_0 oX7_unblind_0 ⟨_, _, OP_t k, rfl, ⟨_, _, hY, rfl, ⟨_, _, OP_t k, rfl, ⟨_, OP_Co k, 0, 0, _, o_mulp (i := 0) (at9 := 0) k (by decide) hpl hiv hnv hnv2 hP (Or.inl hp), Nat.zero_le _, Nat.zero_le _, ?_⟩⟩⟩⟩
  rintro _ h1 ⟨rfl, k1, F1⟩
  have F1 := fr_mono F1 xc
  have hY1 := AO_fr hY F1 hYo
  have ev1 := EV_or ev k0 F1 (fun _ z => z)
  refine ⟨_, _, hY1, rfl, ⟨_, OP_t k1, 0, 0, _, p_mko h9 k1 ev1 rfl (fr_bv F1 hip hipo) hnp hnp2 hipo, Nat.zero_le _, Nat.zero_le _, ?_⟩⟩
  rintro _ h2 ⟨rfl, ⟨W2, B2, V2, k2, w2, b2, ho⟩, F2⟩
  refine ⟨rfl, ⟨W2, B2, V2, _, k2, w2, rfl, ⟨_, rfl⟩, ho⟩, fr_trans F1 F2⟩
theorem p_iso {K ty sz bs sa sh se ki mo nse fa nf : Nat} {lv : Int32} {seb b : Nat → Nat} (h9 : f9.category = 1) (k : OPc a h W B V g) (ev : EV st2 kk2 st3 kk3 h) (hK : KO h K ty sz bs sa sh se ki mo lv) (hKo : ¬ OR a K) (hse : bv h nse se seb) (hseo : ¬ OR a se) (hne : 48 ≤ nse) (hne2 : nse < 65536) (hf : bv h nf fa b) (hfo : ¬ OR a fa) (hnf : 146 ≤ nf) (hnf2 : nf < 65536) :
    vm_Met (vm_env l O f9) mX7_isOutput 0 0 [.ref a, .ref K, .ref fa] h (fun r h' => (∃ ok : Bool, r = some (.int (bi ok)) ∧ (ok = true ↔ ∃ q, ecM (-3) fiv (bn seb 0 48) (htg st3 kk3 (sl b 0 98)) = some q ∧ outm st3 kk3 (sl b 0 98) q = sl b 98 48)) ∧ (∃ W' B' V' g', OPc a h' W' B' V' g' ∧ W' 0 = W 0) ∧ fr h h' (OR a)) := by
  have k0 := k.1
  have xc : ∀ q, CR a q → OR a q := fun q hq => (CR_HS q hq).1
  refine vm_met rfl (Nat.le_of_ble_eq_true rfl) ?_
  refine vm_go rfl bX7_isOutput_0 oX7_isOutput_0 ⟨_, OP_t k, 0, 0, _, p_htg h9 k ev hf (by omega) hnf2 hfo, Nat.zero_le _, Nat.zero_le _, ?_⟩
  rintro _ h1 ⟨rfl, ⟨W1, B1, V1, g1, k1, w1, b1, _, g10, _⟩, F1⟩
  have F1 := fr_mono F1 HS_OR
  refine ⟨_, _, OP_t k1, rfl, ⟨_, _, OP_t k1, rfl, ⟨_, OP_Co k1, 0, 0, _, o_spr (i := 1) (pl := 8) k1 (by decide) (by decide) g10, Nat.zero_le _, Nat.zero_le _, ?_⟩⟩⟩
  rintro _ h2 ⟨rfl, k2, F2⟩
  have F2 := fr_trans F1 (fr_mono F2 xc)
  have hK2 := KO_fr hK F2 hKo
  refine ⟨_, _, OP_t k2, rfl, ⟨_, _, hK2, rfl, ⟨_, _, OP_t k2, rfl, ⟨_, OP_Co k2, 0, 0, _, o_mulp (i := 0) (pl := 8) (at9 := 0) k2 (by decide) (by decide) (fr_bv F2 hse hseo) hne hne2 rfl (Or.inl ⟨_, g10⟩), Nat.zero_le _, Nat.zero_le _, ?_⟩⟩⟩⟩
  rintro _ h3 ⟨rfl, k3, F3⟩
  have F3 := fr_trans F2 (fr_mono F3 xc)
  have ev3 := EV_or ev k0 F3 (fun _ z => z)
  generalize ecM (-3) fiv (bn seb 0 48) (htg st3 kk3 (sl b 0 98)) = E at *
  refine ⟨_, OP_t k3, 0, 0, _, p_mko (p := E) h9 k3 ev3 rfl (fr_bv F3 hf hfo) (by omega) hnf2 hfo, Nat.zero_le _, Nat.zero_le _, ?_⟩
  rintro _ h4 ⟨rfl, ⟨W4, B4, V4, k4, w4, b4, ho⟩, F4⟩
  have F4 := fr_trans F3 F4
  have h66 : ∀ ok : Bool, (ok = true ↔ ∃ q, E = some q ∧ outm st3 kk3 (sl b 0 98) q = sl b 98 48) → vm_T (vm_env l O f9) mX7_isOutput 0 0 66 [(0, .ref a), (1, .ref K), (2, .ref fa)] [.int (bi ok)] h4 (fun r h' => (∃ ok : Bool, r = some (.int (bi ok)) ∧ (ok = true ↔ ∃ q, E = some q ∧ outm st3 kk3 (sl b 0 98) q = sl b 98 48)) ∧ (∃ W' B' V' g', OPc a h' W' B' V' g' ∧ W' 0 = W 0) ∧ fr h h' (OR a)) := fun ok hok => vm_go rfl bX7_isOutput_66 oX7_isOutput_66 ⟨bi_if, ⟨ok, rfl, hok⟩, ⟨W4, B4, V4, _, k4, w4.trans w1⟩, F4⟩
  cases E with
  | none => exact ⟨fun _ => vm_go rfl bX7_isOutput_65 oX7_isOutput_65 (h66 false ⟨(fun z => nomatch z), fun ⟨q, z, _⟩ => nomatch z⟩), fun q => absurd rfl q⟩
  | some e =>
  refine ⟨fun q => absurd q (by show ¬ (1 : Int32) = 0; decide), fun _ => ?_⟩
  have ho := ho e rfl
  have p4 := OP_b k4 (j := 2) (by decide)
  refine ⟨_, _, OP_t k4, rfl, ⟨0, 0, _, w_same (at9 := 0) (bt := 98) (many := 48) p4 (fr_bv F4 hf hfo) (by decide) (by omega) (by decide), Nat.zero_le _, Nat.zero_le _, ?_⟩⟩
  rintro _ h5 ⟨rfl, x, rfl, hx⟩
  rcases hx with ⟨rfl, hx⟩ | ⟨rfl, i, hi, hx⟩
  · refine ⟨fun q => absurd q (by decide), fun _ => h66 true ⟨fun _ => ⟨e, rfl, ?_⟩, fun _ => rfl⟩⟩
    have ho : sl (B4 2) 0 48 = outm st3 kk3 (sl b 0 98) e := ho
    rw [← ho]
    exact sl_ext (fun j hj => hx j hj)
  · refine ⟨fun _ => vm_go rfl bX7_isOutput_65 oX7_isOutput_65 (h66 false ⟨(fun z => nomatch z), fun ⟨q, z, w⟩ => ?_⟩), fun q => absurd rfl q⟩
    cases z
    have ho : sl (B4 2) 0 48 = outm st3 kk3 (sl b 0 98) e := ho
    exact absurd (sl_inj (ho.trans w) i hi) hx
theorem p_bli {fi ni9 fa nf at9 : Nat} {ib b : Nat → Nat} (h9 : f9.category = 1) (k : OPc a h W B V g) (ev : EV st2 kk2 st3 kk3 h) (hi : bv h ni9 fi ib) (hio : ¬ OR a fi) (hni : 98 ≤ ni9) (hni2 : ni9 < 65536) (hf : bv h nf fa b) (hfo : ¬ OR a fa) (hat : at9 + 48 ≤ nf) (hnf : nf < 65536) :
    vm_Met (vm_env l O f9) mX7_blind 0 0 [.ref a, .ref fi, .ref fa, .int (nI at9)] h (fun r h' => (∃ ok : Bool, r = some (.int (bi ok)) ∧ (ok = true ↔ (0 < bn b at9 48 ∧ bn b at9 48 < cQ) ∧ ecM (-3) fiv (bn b at9 48) (htg st3 kk3 (sl ib 0 98)) ≠ none) ∧ (∃ W' B' V' g', OPc a h' W' B' V' g' ∧ W' 0 = W 0 ∧ (ok = true → sl (B' 0) 0 49 = ptO (ecM (-3) fiv (bn b at9 48) (htg st3 kk3 (sl ib 0 98))) ∧ ∃ iv, iv < cQ ∧ bn b at9 48 * iv % cQ = 1 ∧ sl (B' 1) 0 48 = wb iv 48))) ∧ fr h h' (OR a)) := by
  have k0 := k.1
  have xc : ∀ q, CR a q → OR a q := fun q hq => (CR_HS q hq).1
  have xn : ∀ q, q = a + 697 + 0 → OR a q := fun q hq => by unfold OR; omega
  have xo : ∀ q, (q = a + 697 + 0 ∨ (a + 663 ≤ q ∧ q < a + 685)) → OR a q := fun q hq => by unfold OR; omega
  have x1 : ∀ q, q = a + oad 1 → OR a q := fun q hq => by
    have hq : q = a + 2 := hq
    unfold OR; omega
  have x0 : ∀ q, (CR a q ∨ q = a + oad 0) → OR a q := fun q hq => by
    have hq : CR a q ∨ q = a + 1 := hq
    unfold CR at hq; unfold OR; omega
  generalize hx : bn b at9 48 = x
  generalize hH : htg st3 kk3 (sl ib 0 98) = H9
  suffices H : ∀ Q : Option Value → vm_H → Prop, (∀ r h', ((∃ ok : Bool, r = some (.int (bi ok)) ∧ (ok = true ↔ (0 < x ∧ x < cQ) ∧ ecM (-3) fiv x H9 ≠ none) ∧ (∃ W' B' V' g', OPc a h' W' B' V' g' ∧ W' 0 = W 0 ∧ (ok = true → sl (B' 0) 0 49 = ptO (ecM (-3) fiv x H9) ∧ ∃ iv, iv < cQ ∧ x * iv % cQ = 1 ∧ sl (B' 1) 0 48 = wb iv 48))) ∧ fr h h' (OR a)) → Q r h') → vm_Met (vm_env l O f9) mX7_blind 0 0 [.ref a, .ref fi, .ref fa, .int (nI at9)] h Q from H _ (fun _ _ z => z)
  intro Q hQ
  refine vm_met rfl (Nat.le_of_ble_eq_true rfl) ?_
  refine vm_go rfl bX7_blind_0 oX7_blind_0 ⟨_, OP_t k, 0, 0, _, p_secr k hf hat hnf, Nat.zero_le _, Nat.zero_le _, ?_⟩
  rintro _ h1 ⟨rfl, k1, F1⟩
  have F1 := fr_mono F1 xn
  rw [hx] at k1 ⊢
  by_cases hs : 0 < x ∧ x < cQ
  rotate_left
  · rw [if_neg hs]
    exact ⟨fun q => absurd rfl q, fun _ => ⟨rfl, hQ _ _ ⟨⟨false, rfl, ⟨(fun z => nomatch z), fun z => absurd z.1 hs⟩, ⟨_, _, _, _, k1, rfl, (fun z => nomatch z)⟩⟩, F1⟩⟩⟩
  rw [if_pos hs]
  refine ⟨fun _ => ?_, fun q => absurd q (by decide)⟩
  have ev1 := EV_or ev k0 F1 (fun _ z => z)
  refine vm_go rfl bX7_blind_11 oX7_blind_11 ⟨_, OP_t k1, 0, 0, _, p_htg h9 k1 ev1 (fr_bv F1 hi hio) hni hni2 hio, Nat.zero_le _, Nat.zero_le _, ?_⟩
  rintro _ h2 ⟨rfl, ⟨W2, B2, V2, g2, k2, w2, b2, _, g20, _⟩, F2⟩
  have F2 := fr_trans F1 (fr_mono F2 HS_OR)
  rw [hH] at g20
  refine ⟨_, _, OP_t k2, rfl, ⟨_, _, OP_t k2, rfl, ⟨_, OP_Co k2, 0, 0, _, o_spr (i := 1) (pl := 8) k2 (by decide) (by decide) g20, Nat.zero_le _, Nat.zero_le _, ?_⟩⟩⟩
  rintro _ h3 ⟨rfl, k3, F3⟩
  have F3 := fr_trans F2 (fr_mono F3 xc)
  refine ⟨_, _, OP_t k3, rfl, ⟨_, _, OP_t k3, rfl, ⟨_, OP_Co k3, 0, 0, _, o_mulp (i := 0) (pl := 8) k3 (by decide) (by decide) (fr_bv F3 hf hfo) hat hnf rfl (Or.inl ⟨_, g20⟩), Nat.zero_le _, Nat.zero_le _, ?_⟩⟩⟩
  rintro _ h4 ⟨rfl, k4, F4⟩
  have F4 := fr_trans F3 (fr_mono F4 xc)
  rw [hx] at k4
  have f4 := fr_bv F4 hf hfo
  have x14 : x < 268435456 ^ 14 := by rw [← hx]; exact bn_14 f4 hat
  refine ⟨_, _, OP_t k4, rfl, ⟨_, _, _, .ref (a + 697 + 0), OP_n k4, by decide, rfl, 0, rfl, by decide, rfl, ⟨0, 0, _, o_read (t := 0) (size := 48) k4 (by decide) f4 hat hnf, Nat.zero_le _, Nat.zero_le _, ?_⟩⟩⟩
  rintro _ h5 ⟨rfl, k5, F5⟩
  have F5 := fr_trans F4 (fr_mono F5 xn)
  rw [hx] at k5
  refine ⟨_, _, OP_t k5, rfl, ⟨(OP_mo k5).choose, (OP_mo k5).choose_spec, 0, 0, _, o_ent (t := 0) (s := 0) k5 (by decide) (by decide) fu_e x14, Nat.zero_le _, Nat.zero_le _, ?_⟩⟩
  rintro _ h6 ⟨rfl, k6, F6⟩
  have F6 := fr_trans F5 (fr_mono F6 xo)
  refine ⟨_, _, OP_t k6, rfl, ⟨(OP_mo k6).choose, (OP_mo k6).choose_spec, 0, 0, _, o_inv (t := 0) k6 (by decide) fu_e, Nat.zero_le _, Nat.zero_le _, ?_⟩⟩
  rintro _ h7 ⟨Y, rfl, hY, k7, F7⟩
  have F7 := fr_trans F6 (fr_mono F7 xo)
  obtain ⟨nq, rq, hP, hM⟩ := OP_MD k7
  obtain ⟨n1, n2, n3⟩ := MP_N hP
  have hg1 : Nat.gcd (mt cQ 14 (x : Int)) cQ = 1 := by
    refine gcd_q (Nat.pos_of_ne_zero (fun z => ?_)) (mt_lt n1)
    have z := (mt_z n1 n3).mp z
    rw [← Int.natCast_emod, Nat.mod_eq_of_lt hs.2] at z
    omega
  have hY := hY hg1
  clear hP hM n1 n2 n3 hg1
  refine ⟨_, _, OP_t k7, rfl, ⟨(OP_mo k7).choose, (OP_mo k7).choose_spec, 0, 0, _, o_lev (t := 0) (s := 0) k7 (by decide) (by decide) fu_e, Nat.zero_le _, Nat.zero_le _, ?_⟩⟩
  rintro _ h8 ⟨rfl, k8, F8⟩
  have F8 := fr_trans F7 (fr_mono F8 xo)
  have hv0 : 0 ≤ Y % (cQ : Int) := Int.emod_nonneg _ (by have := cQ_pos; omega)
  have hvl : (Y % (cQ : Int)).toNat < cQ := by
    have := Int.emod_lt_of_pos Y (show (0 : Int) < cQ by have := cQ_pos; omega)
    omega
  have hxv : x * (Y % (cQ : Int)).toNat % cQ = 1 := by
    apply Int.ofNat_inj.mp
    rw [Int.natCast_emod, Int.natCast_mul, Int.toNat_of_nonneg hv0, Int.mul_emod, Int.emod_emod_of_dvd _ (Int.dvd_refl _), ← Int.mul_emod]
    exact hY
  generalize (Y % (cQ : Int)).toNat = iv at *
  refine ⟨_, _, OP_t k8, rfl, ⟨0, 0, _, o_write (t := 0) (s := 1) (at9 := 0) (size := 48) (v := iv) k8 (by decide) (by decide) fu_e (Nat.lt_trans hvl cQ_14) (by decide), Nat.zero_le _, Nat.zero_le _, ?_⟩⟩
  rintro _ hx9 ⟨rfl, k9, F9⟩
  have F9 := fr_trans F8 (fr_mono F9 x1)
  refine ⟨_, _, OP_t k9, rfl, ⟨_, _, OP_t k9, rfl, ⟨_, _, OP_t k9, rfl, ⟨_, OP_Co k9, 0, 0, _, o_enc (i := 0) (t := 0) (at9 := 0) (p := ecM (-3) fiv x H9) k9 (by decide) rfl (by decide) (by decide), Nat.zero_le _, Nat.zero_le _, ?_⟩⟩⟩⟩
  rintro _ h10 ⟨rfl, k10, F10⟩
  have F10 := fr_trans F9 (fr_mono F10 x0)
  rw [pz_bi]
  refine ⟨bi_if, hQ _ _ ⟨⟨_, rfl, ?_, ⟨_, _, _, _, k10, w2, fun z => ⟨?_, iv, hvl, hxv, ?_⟩⟩⟩, F10⟩⟩
  · rw [Option.isSome_iff_ne_none]
    exact ⟨fun z => ⟨hs, z⟩, fun z => z.2⟩
  · obtain ⟨q, hq⟩ := Option.isSome_iff_exists.mp z
    rw [fu_e, hq, encb_at]; rfl
  · rw [fu_n (by decide), fu_e]; exact wrb_sl
end
