/-! more on files of registers; Curve.cubic, isSquareOf, isOdd -/
theorem up1_up {u : Nat → Option Int} {c : Nat} {a b : Option Int} : up1 (up1 u c a) c b = up1 u c b := by
  funext k
  unfold up1
  split <;> rfl
section
variable {l : Launch} {O : Nat → vm_Ob} {f9 : Value} {m : Nat} {A R : Nat → Nat} {ni ri : Nat} {h : vm_H} {u : Nat → Option Int} {o1 o2 c : Nat} {a b : Int}
theorem r_raise {e n at9 size : Nat} {bb : Nat → Nat} (k : RG m A R ni ri h u) (ha : opd A h o1 a) (he9 : bv h n e bb) (hn : at9 + size ≤ n) (hn2 : n < 65536) (hc : c < m) :
    vm_Met (vm_env l O f9) mX6_raise 0 0 [.ref (A 0), .ref o1, .ref e, .int (nI at9), .int (nI size), .ref (R c)] h (fun r h' => r = none ∧ RG m A R ni ri h' (up1 u c (some (a ^ bn bb at9 size))) ∧ fr h h' (AR m A R)) := by
  refine vm_metP (v_raise k.1 k.2.1 ha.1 (k.2.2.2.2 c hc).1 he9 hn hn2 (k.2.2.2.1 c hc).1 (k.2.2.2.1 c hc).2) ?_
  rintro r h' ⟨rfl, w, M, F⟩
  exact ⟨rfl, RG_up k hc M F (nv_la w) (fun b hb => by cases hb; exact w), fr_mono F (rS_AR hc)⟩
theorem r_inv (k : RG m A R ni ri h u) (ha : opd A h o1 a) (hc : c < m) :
    vm_Met (vm_env l O f9) mX6_invert 0 0 [.ref (A 0), .ref o1, .ref (R c)] h (fun r h' => ∃ Y : Int, (∃ w : Int32, r = some (.int w) ∧ (w = 0 ↔ fz a = 0)) ∧ (fz a ≠ 0 → fz a * fz Y = 1) ∧ RG m A R ni ri h' (up1 u c (some Y)) ∧ fr h h' (AR m A R)) := by
  obtain ⟨p1, p2, p3⟩ := MP_N k.1
  have pp : pr cP := pr_P
  refine vm_metP (v_inv k.1 k.2.1 ha.1 (k.2.2.2.2 c hc).1 (k.2.2.2.1 c hc).1 (k.2.2.2.1 c hc).2) ?_
  rintro r h' ⟨Y, rfl, w, hY, M, F⟩
  have hg : Nat.gcd (mt cP 14 a) cP = 1 ↔ ¬ fz a = 0 := by
    rw [← fz_P, ← mt_z p1 p3]
    constructor
    · intro g z
      rw [z, Nat.gcd_zero_left] at g
      exact absurd g (by decide +kernel)
    · intro z
      rw [Nat.gcd_comm]
      refine pr_cop pp (fun d => z ?_)
      exact Nat.eq_zero_of_dvd_of_lt d (mt_lt p1)
  refine ⟨Y, ⟨_, rfl, ?_⟩, ?_, RG_up k hc M F (nv_la w) (fun b hb => by cases hb; exact w), fr_mono F (rS_AR hc)⟩
  · rw [if10, hg]; exact Classical.not_not
  · intro z
    have := hY (hg.mpr z)
    rw [← fz_mul, ← fz_1, ← fz_Pe]
    rw [this]; rfl
theorem r_lev (k : RG m A R ni ri h u) (ha : opd A h o1 a) (hc : c < m) :
    vm_Met (vm_env l O f9) mX6_leave 0 0 [.ref (A 0), .ref o1, .ref (R c)] h (fun r h' => r = none ∧ RG m A R ni ri h' (up1 u c none) ∧ nv h' 14 (R c) (fz a).val ∧ fr h h' (AR m A R)) := by
  refine vm_metP (v_lev k.1 k.2.1 ha.1 (k.2.2.2.2 c hc).1 ha.2 (k.2.2.2.1 c hc).1) ?_
  rintro r h' ⟨rfl, w, M, F⟩
  have F' := fr_mono F sc_rS
  refine ⟨rfl, RG_up k hc M F' (nv_la w) (fun b hb => by cases hb), ?_, fr_mono F' (rS_AR hc)⟩
  have e : (a % (cP : Int)).toNat = (fz a).val := by
    have := fz_v a
    show (a % ((cPm + 1 : Nat) : Int)).toNat = _
    omega
  rw [← e]; exact w
theorem r_read {e n at9 size : Nat} {bb : Nat → Nat} (k : RG m A R ni ri h u) (he9 : bv h n e bb) (hn : at9 + size ≤ n) (hn2 : n < 65536) (hc : c < m) :
    vm_Met (vm_env l O f9) mX6_read 0 0 [.ref e, .int (nI at9), .int (nI size), .ref (R c)] h (fun r h' => r = none ∧ RG m A R ni ri h' (up1 u c none) ∧ nv h' 14 (R c) (bn bb at9 size) ∧ fr h h' (AR m A R)) := by
  refine vm_metP (s_read he9 (k.2.2.2.2 c hc).1 hn hn2 (by decide) (k.2.2.2.1 c hc).1.2) ?_
  rintro r h' ⟨rfl, w, F⟩
  have F' : fr h h' (rS A 3 (R c)) := fr_mono F (fun q hq => Or.inl hq)
  exact ⟨rfl, RG_up k hc (MD_ch k.2.1 F (nv_la w) (k.2.2.2.1 c hc).1) F' (nv_la w) (fun b hb => by cases hb), w, fr_mono F' (rS_AR hc)⟩
theorem r_ent {x o : Nat} (k : RG m A R ni ri h u) (ha : nv h 14 o x) (ho : o ≠ A 6) (hx : x < 268435456 ^ 14) (hc : c < m) :
    vm_Met (vm_env l O f9) mX6_enter 0 0 [.ref (A 0), .ref o, .ref (R c)] h (fun r h' => r = none ∧ RG m A R ni ri h' (up1 u c (some (x : Int))) ∧ fr h h' (AR m A R)) := by
  refine vm_metP (v_ent k.1 k.2.1 ha (k.2.2.2.2 c hc).1 hx ho (k.2.2.2.1 c hc).1) ?_
  rintro r h' ⟨rfl, w, M, F⟩
  have F' := fr_mono F sc_rS
  exact ⟨rfl, RG_up k hc M F' (nv_la w) (fun b hb => by cases hb; exact w), fr_mono F' (rS_AR hc)⟩
end
theorem cu_e {F : Type} [Lean.Grind.CommRing F] (x b : F) : (x * x - 1 - 1 - 1) * x + b = x * x * x - 3 * x + b := by grind
section
variable {l : Launch} {O : Nat → vm_Ob} {f9 : Value}
theorem c_cubic {n : Nat} {X : Nat → Nat} {h0 : vm_H} {u : Nat → Option Int} {i c : Nat} {a b : Int} (k0 : RGX n X h0 u) (s : CSt n X h0) (hi : i < 14 + 3 * n) (hc : c < 14 + 3 * n) (hic : i ≠ c) (hc9 : c ≠ 9) (ha : u i = some a) (hb : u 9 = some b) :
    vm_Met (vm_env l O f9) mX2_cubic 0 0 [.ref (X 24), .ref (X (100 + i)), .ref (X (100 + c))] h0 (fun r h' => r = none ∧ (∃ v : Int, RGX n X h' (up1 u c (some v)) ∧ fz v = fz a * fz a * fz a - 3 * fz a + fz b) ∧ fr h0 h' (AG n X)) := by
  have C0 := s.1
  refine vm_met rfl (Nat.le_of_ble_eq_true rfl) ?_
  refine vm_go rfl bX2_cubic_0 oX2_cubic_0 ⟨_, _, C0, rfl, ⟨(RG_0 k0).choose, (RG_0 k0).choose_spec, 0, 0, _, r_sqr (R := fun i => X (100 + i)) k0 (RG_r k0 hi ha) hc, Nat.zero_le _, Nat.zero_le _, ?_⟩⟩
  rintro _ h1 ⟨rfl, k1, F1⟩
  have C1 := AR_ob k0 F1 C0
  refine ⟨_, _, C1, rfl, ⟨_, _, C1, rfl, ⟨(RG_2 k1).choose, _, (RG_2 k1).choose_spec.1, (RG_2 k1).choose_spec.2, ⟨(RG_0 k1).choose, (RG_0 k1).choose_spec, 0, 0, _, r_sub (R := fun i => X (100 + i)) k1 (RG_r k1 hc up1_e) (RG_1 k1) hc, Nat.zero_le _, Nat.zero_le _, ?_⟩⟩⟩⟩
  rintro _ h2 ⟨rfl, k2, F2⟩
  have C2 := AR_ob k1 F2 C1
  rw [up1_up] at k2
  refine ⟨_, _, C2, rfl, ⟨_, _, C2, rfl, ⟨(RG_2 k2).choose, _, (RG_2 k2).choose_spec.1, (RG_2 k2).choose_spec.2, ⟨(RG_0 k2).choose, (RG_0 k2).choose_spec, 0, 0, _, r_sub (R := fun i => X (100 + i)) k2 (RG_r k2 hc up1_e) (RG_1 k2) hc, Nat.zero_le _, Nat.zero_le _, ?_⟩⟩⟩⟩
  rintro _ h3 ⟨rfl, k3, F3⟩
  have C3 := AR_ob k2 F3 C2
  rw [up1_up] at k3
  refine ⟨_, _, C3, rfl, ⟨_, _, C3, rfl, ⟨(RG_2 k3).choose, _, (RG_2 k3).choose_spec.1, (RG_2 k3).choose_spec.2, ⟨(RG_0 k3).choose, (RG_0 k3).choose_spec, 0, 0, _, r_sub (R := fun i => X (100 + i)) k3 (RG_r k3 hc up1_e) (RG_1 k3) hc, Nat.zero_le _, Nat.zero_le _, ?_⟩⟩⟩⟩
  rintro _ h4 ⟨rfl, k4, F4⟩
  have C4 := AR_ob k3 F4 C3
  rw [up1_up] at k4
  refine ⟨_, _, C4, rfl, ⟨(RG_0 k4).choose, (RG_0 k4).choose_spec, 0, 0, _, r_mul (R := fun i => X (100 + i)) k4 (RG_r k4 hc up1_e) (RG_r k4 hi ((up1_n hic).trans ha)) hc, Nat.zero_le _, Nat.zero_le _, ?_⟩⟩
  rintro _ h5 ⟨rfl, k5, F5⟩
  have C5 := AR_ob k4 F5 C4
  rw [up1_up] at k5
  refine ⟨_, _, C5, rfl, ⟨_, _, C5, rfl, ⟨(RG_0 k5).choose, (RG_0 k5).choose_spec, 0, 0, _, r_add (R := fun i => X (100 + i)) k5 (RG_r k5 hc up1_e) (RG_r k5 (i := 9) (by omega) ((up1_n (Ne.symm hc9)).trans hb)) hc, Nat.zero_le _, Nat.zero_le _, ?_⟩⟩⟩
  rintro _ h6 ⟨rfl, k6, F6⟩
  rw [up1_up] at k6
  refine ⟨rfl, ⟨_, k6, ?_⟩, fr_trans (fr_trans (fr_trans (fr_trans (fr_trans F1 F2) F3) F4) F5) F6⟩
  simp only [fz_add, fz_mul, fz_sub, fz_1]
  exact cu_e _ _
theorem c_issq {n : Nat} {X : Nat → Nat} {h0 : vm_H} {u : Nat → Option Int} {i j : Nat} {a y : Int} (k0 : RGX n X h0 u) (s : CSt n X h0) (hi : i < 14 + 3 * n) (hj : j < 14 + 3 * n) (hi7 : i ≠ 7) (ha : u i = some a) (hy : u j = some y) :
    vm_Met (vm_env l O f9) mX2_isSquareOf 0 0 [.ref (X 24), .ref (X (100 + i)), .ref (X (100 + j))] h0 (fun r h' => (∃ w : Int32, r = some (.int w) ∧ (w = 0 ↔ fz y * fz y ≠ fz a)) ∧ (∃ v, RGX n X h' (up1 u 7 v)) ∧ fr h0 h' (AG n X)) := by
  have C0 := s.1
  have T0 := s.2.1
  refine vm_met rfl (Nat.le_of_ble_eq_true rfl) ?_
  refine vm_go rfl bX2_isSquareOf_0 oX2_isSquareOf_0 ⟨_, _, C0, rfl, ⟨_, _, C0, rfl, ⟨_, _, _, _, T0, by decide, rfl, 7, rfl, by decide, rfl, ⟨(RG_0 k0).choose, (RG_0 k0).choose_spec, 0, 0, _, r_sqr (R := fun i => X (100 + i)) k0 (RG_r k0 hj hy) (c := 7) (by omega), Nat.zero_le _, Nat.zero_le _, ?_⟩⟩⟩⟩
  rintro _ h1 ⟨rfl, k1, F1⟩
  have C1 := AR_ob k0 F1 C0
  have T1 := AR_aa k0 F1 T0
  refine ⟨_, _, C1, rfl, ⟨_, _, C1, rfl, ⟨_, _, _, _, T1, by decide, rfl, 7, rfl, by decide, rfl, ⟨(RG_0 k1).choose, (RG_0 k1).choose_spec, 0, 0, _, r_same (R := fun i => X (100 + i)) k1 (RG_r k1 (i := 7) (by omega) up1_e) (RG_r k1 hi ((up1_n hi7).trans ha)), Nat.zero_le _, Nat.zero_le _, ?_⟩⟩⟩⟩
  rintro _ h2 ⟨rfl, rfl⟩
  refine ⟨nar_b, ⟨_, rfl, ?_⟩, ⟨_, k1⟩, F1⟩
  rw [if10, fz_Pe, fz_mul]
theorem c_odd {n : Nat} {X : Nat → Nat} {h0 : vm_H} {u : Nat → Option Int} {o : Nat} {a : Int} (k0 : RGX n X h0 u) (s : CSt n X h0) (ha : opd X h0 o a) :
    vm_Met (vm_env l O f9) mX2_isOdd 0 0 [.ref (X 24), .ref o] h0 (fun r h' => r = some (.int (nI ((fz a).val % 2))) ∧ (∃ v, RGX n X h' (up1 u 7 v)) ∧ fr h0 h' (AG n X)) := by
  have C0 := s.1
  have T0 := s.2.1
  refine vm_met rfl (Nat.le_of_ble_eq_true rfl) ?_
  refine vm_go rfl bX2_isOdd_0 oX2_isOdd_0 ⟨_, _, C0, rfl, ⟨_, _, C0, rfl, ⟨_, _, _, _, T0, by decide, rfl, 7, rfl, by decide, rfl, ⟨(RG_0 k0).choose, (RG_0 k0).choose_spec, 0, 0, _, r_lev (R := fun i => X (100 + i)) k0 ha (c := 7) (by omega), Nat.zero_le _, Nat.zero_le _, ?_⟩⟩⟩⟩
  rintro _ h1 ⟨rfl, k1, ⟨f, hf, vf⟩, F1⟩
  have C1 := AR_ob k0 F1 C0
  have T1 := AR_aa k0 F1 T0
  have h0' := vf 0 (by decide)
  refine ⟨_, _, C1, rfl, ⟨_, _, _, _, T1, by decide, rfl, 7, rfl, by decide, rfl, ⟨14, f, hf, 0, rfl, by decide, ⟨fun w => ?_, fun w => ?_⟩⟩⟩⟩
  · have w := (lg_cmp_eq _ _).mp w
    rw [h0'] at w
    have := (odd_b _).mp w
    refine vm_go rfl bX2_isOdd_35 oX2_isOdd_35 (vm_go rfl bX2_isOdd_36 oX2_isOdd_36 ⟨rfl, ?_, ⟨_, k1⟩, F1⟩)
    rw [this]; rfl
  · have w : ¬ f 0 &&& 1 = 0 := fun z => w ((lg_cmp_eq _ _).mpr z)
    rw [h0'] at w
    have : ¬ (fz a).val % 2 = 0 := fun z => w ((odd_b _).mpr z)
    refine vm_go rfl bX2_isOdd_36 oX2_isOdd_36 ⟨rfl, ?_, ⟨_, k1⟩, F1⟩
    rw [show (fz a).val % 2 = 1 by omega]; rfl
end
