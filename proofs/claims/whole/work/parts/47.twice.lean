/-! Curve.twice -/
theorem tp_g {o : Option Nat} {r : Nat} (h : o = some r) : va_rf o = .ref r := by rw [h]; rfl
theorem RG_0 {m : Nat} {A R : Nat → Nat} {ni ri : Nat} {h : vm_H} {u : Nat → Option Int} (k : RG m A R ni ri h u) : ∃ fs, h.2 (A 0) = .inr (3, fs) := by
  obtain ⟨_, ⟨⟨fs, e, _⟩, _⟩, _⟩ := k
  exact ⟨fs, e⟩
theorem RG_2 {m : Nat} {A R : Nat → Nat} {ni ri : Nat} {h : vm_H} {u : Nat → Option Int} (k : RG m A R ni ri h u) : ∃ fs, h.2 (A 0) = .inr (3, fs) ∧ fs[2]? = some (.ref (A 2)) := by
  obtain ⟨_, ⟨⟨fs, e, _, _, e2, _⟩, _⟩, _⟩ := k
  exact ⟨fs, e, e2⟩
theorem tw_x {F : Type} [Lean.Grind.CommRing F] (x y z : F) : ((x - z * z) * (x + z * z) + (x - z * z) * (x + z * z) + (x - z * z) * (x + z * z)) * ((x - z * z) * (x + z * z) + (x - z * z) * (x + z * z) + (x - z * z) * (x + z * z)) - (x * (y * y) + x * (y * y) + (x * (y * y) + x * (y * y)) + (x * (y * y) + x * (y * y) + (x * (y * y) + x * (y * y)))) = jdX x y z := by
  unfold jdX jd1; grind
theorem tw_y {F : Type} [Lean.Grind.CommRing F] (x y z : F) : ((x - z * z) * (x + z * z) + (x - z * z) * (x + z * z) + (x - z * z) * (x + z * z)) * (x * (y * y) + x * (y * y) + (x * (y * y) + x * (y * y)) - (((x - z * z) * (x + z * z) + (x - z * z) * (x + z * z) + (x - z * z) * (x + z * z)) * ((x - z * z) * (x + z * z) + (x - z * z) * (x + z * z) + (x - z * z) * (x + z * z)) - (x * (y * y) + x * (y * y) + (x * (y * y) + x * (y * y)) + (x * (y * y) + x * (y * y) + (x * (y * y) + x * (y * y)))))) - ((y * y + y * y) * (y * y + y * y) + (y * y + y * y) * (y * y + y * y)) = jdY x y z := by
  rw [tw_x]; unfold jdY; generalize jdX x y z = X; unfold jd1; grind
section
variable {l : Launch} {O : Nat → vm_Ob} {f9 : Value}
theorem c_twice {A R : Nat → Nat} {ni ri : Nat} {h0 : vm_H} {u : Nat → Option Int} {C T p r : Nat} {g : Nat → Option Nat} {x y z : Int} {c1 c2 c3 c4 c5 c6 c7 c8 c9 : Value} (k0 : RG 14 A R ni ri h0 u) (C0 : h0.2 C = .inr (2, [.ref (A 0), c1, c2, c3, c4, c5, c6, c7, c8, .ref T, c9])) (T0 : h0.2 T = .inl (.array .long, 8, .inr (.inr (.inr (.inr g))))) (Tg : ∀ j, j < 8 → g j = some (R j)) (p0 : h0.2 p = .inr (8, [.ref (R 8), .ref (R 9), .ref (R 10)])) (r0 : h0.2 r = .inr (8, [.ref (R 11), .ref (R 12), .ref (R 13)])) (hx : u 8 = some x) (hy : u 9 = some y) (hz : u 10 = some z) :
    vm_Met (vm_env l O f9) mX2_twice 0 0 [.ref C, .ref p, .ref r] h0 (fun q h' => q = none ∧ ∃ (u' : Nat → Option Int) (x' y' z' : Int), RG 14 A R ni ri h' u' ∧ u' 11 = some x' ∧ u' 12 = some y' ∧ u' 13 = some z' ∧ fz x' = jdX (fz x) (fz y) (fz z) ∧ fz y' = jdY (fz x) (fz y) (fz z) ∧ fz z' = jdZ (fz y) (fz z) ∧ (∀ i, 8 ≤ i → i < 11 ∨ 13 < i → u' i = u i) ∧ fr h0 h' (AR 14 A R)) := by
  refine vm_met rfl (Nat.le_of_ble_eq_true rfl) ?_
  refine vm_go rfl bX2_twice_0 oX2_twice_0 ⟨_, _, C0, rfl, ⟨_, _, C0, rfl, ⟨_, _, _, _, T0, by decide, rfl, 0, rfl, by decide, tp_g (Tg 0 (by decide)), ⟨_, _, C0, rfl, ⟨_, _, _, _, T0, by decide, rfl, 1, rfl, by decide, tp_g (Tg 1 (by decide)), ?_⟩⟩⟩⟩⟩
  refine vm_Th (lv' := [(0, .ref C), (1, .ref p), (2, .ref r), (3, .ref (A 0)), (4, .ref (R 0)), (5, .ref (R 1))]) (h' := h0) rfl rfl ?_
  refine vm_go rfl bX2_twice_21 oX2_twice_21 ⟨_, _, C0, rfl, ⟨_, _, _, _, T0, by decide, rfl, 2, rfl, by decide, tp_g (Tg 2 (by decide)), ⟨_, _, C0, rfl, ⟨_, _, _, _, T0, by decide, rfl, 3, rfl, by decide, tp_g (Tg 3 (by decide)), ?_⟩⟩⟩⟩
  refine vm_Th (lv' := [(0, .ref C), (1, .ref p), (2, .ref r), (3, .ref (A 0)), (4, .ref (R 0)), (5, .ref (R 1)), (6, .ref (R 2)), (7, .ref (R 3))]) (h' := h0) rfl rfl ?_
  refine vm_go rfl bX2_twice_37 oX2_twice_37 ⟨_, _, C0, rfl, ⟨_, _, _, _, T0, by decide, rfl, 4, rfl, by decide, tp_g (Tg 4 (by decide)), ?_⟩⟩
  refine vm_Th (lv' := [(0, .ref C), (1, .ref p), (2, .ref r), (3, .ref (A 0)), (4, .ref (R 0)), (5, .ref (R 1)), (6, .ref (R 2)), (7, .ref (R 3)), (8, .ref (R 4))]) (h' := h0) rfl rfl ?_
  refine vm_go rfl bX2_twice_45 oX2_twice_45 ?_
  refine ⟨_, _, p0, rfl, ⟨(RG_0 k0).choose, (RG_0 k0).choose_spec, 0, 0, _, r_sqr k0 (RG_r k0 (i := 10) (by omega) hz) (c := 0) (by omega), Nat.zero_le _, Nat.zero_le _, ?_⟩⟩
  rintro _ h1 ⟨rfl, k1, F1⟩
  have C1 := AR_ob k0 F1 C0
  have T1 := AR_aa k0 F1 T0
  have p1 := AR_ob k0 F1 p0
  have r1 := AR_ob k0 F1 r0
  refine ⟨_, _, p1, rfl, ⟨(RG_0 k1).choose, (RG_0 k1).choose_spec, 0, 0, _, r_sqr k1 (RG_r k1 (i := 9) (by omega) hy) (c := 1) (by omega), Nat.zero_le _, Nat.zero_le _, ?_⟩⟩
  rintro _ h2 ⟨rfl, k2, F2⟩
  have C2 := AR_ob k1 F2 C1
  have T2 := AR_aa k1 F2 T1
  have p2 := AR_ob k1 F2 p1
  have r2 := AR_ob k1 F2 r1
  refine ⟨_, _, p2, rfl, ⟨(RG_0 k2).choose, (RG_0 k2).choose_spec, 0, 0, _, r_mul k2 (RG_r k2 (i := 8) (by omega) hx) (RG_r k2 (i := 1) (by omega) rfl) (c := 2) (by omega), Nat.zero_le _, Nat.zero_le _, ?_⟩⟩
  rintro _ h3 ⟨rfl, k3, F3⟩
  have C3 := AR_ob k2 F3 C2
  have T3 := AR_aa k2 F3 T2
  have p3 := AR_ob k2 F3 p2
  have r3 := AR_ob k2 F3 r2
  refine ⟨_, _, p3, rfl, ⟨(RG_0 k3).choose, (RG_0 k3).choose_spec, 0, 0, _, r_sub k3 (RG_r k3 (i := 8) (by omega) hx) (RG_r k3 (i := 0) (by omega) rfl) (c := 4) (by omega), Nat.zero_le _, Nat.zero_le _, ?_⟩⟩
  rintro _ h4 ⟨rfl, k4, F4⟩
  have C4 := AR_ob k3 F4 C3
  have T4 := AR_aa k3 F4 T3
  have p4 := AR_ob k3 F4 p3
  have r4 := AR_ob k3 F4 r3
  refine ⟨_, _, p4, rfl, ⟨(RG_0 k4).choose, (RG_0 k4).choose_spec, 0, 0, _, r_add k4 (RG_r k4 (i := 8) (by omega) hx) (RG_r k4 (i := 0) (by omega) rfl) (c := 3) (by omega), Nat.zero_le _, Nat.zero_le _, ?_⟩⟩
  rintro _ h5 ⟨rfl, k5, F5⟩
  have C5 := AR_ob k4 F5 C4
  have T5 := AR_aa k4 F5 T4
  have p5 := AR_ob k4 F5 p4
  have r5 := AR_ob k4 F5 r4
  refine ⟨(RG_0 k5).choose, (RG_0 k5).choose_spec, 0, 0, _, r_mul k5 (RG_r k5 (i := 4) (by omega) rfl) (RG_r k5 (i := 3) (by omega) rfl) (c := 4) (by omega), Nat.zero_le _, Nat.zero_le _, ?_⟩
  rintro _ h6 ⟨rfl, k6, F6⟩
  have C6 := AR_ob k5 F6 C5
  have T6 := AR_aa k5 F6 T5
  have p6 := AR_ob k5 F6 p5
  have r6 := AR_ob k5 F6 r5
  refine ⟨(RG_0 k6).choose, (RG_0 k6).choose_spec, 0, 0, _, r_add k6 (RG_r k6 (i := 4) (by omega) rfl) (RG_r k6 (i := 4) (by omega) rfl) (c := 3) (by omega), Nat.zero_le _, Nat.zero_le _, ?_⟩
  rintro _ h7 ⟨rfl, k7, F7⟩
  have C7 := AR_ob k6 F7 C6
  have T7 := AR_aa k6 F7 T6
  have p7 := AR_ob k6 F7 p6
  have r7 := AR_ob k6 F7 r6
  refine ⟨(RG_0 k7).choose, (RG_0 k7).choose_spec, 0, 0, _, r_add k7 (RG_r k7 (i := 3) (by omega) rfl) (RG_r k7 (i := 4) (by omega) rfl) (c := 3) (by omega), Nat.zero_le _, Nat.zero_le _, ?_⟩
  rintro _ h8 ⟨rfl, k8, F8⟩
  have C8 := AR_ob k7 F8 C7
  have T8 := AR_aa k7 F8 T7
  have p8 := AR_ob k7 F8 p7
  have r8 := AR_ob k7 F8 r7
  refine ⟨_, _, p8, rfl, ⟨_, _, p8, rfl, ⟨(RG_0 k8).choose, (RG_0 k8).choose_spec, 0, 0, _, r_add k8 (RG_r k8 (i := 9) (by omega) hy) (RG_r k8 (i := 10) (by omega) hz) (c := 4) (by omega), Nat.zero_le _, Nat.zero_le _, ?_⟩⟩⟩
  rintro _ h9 ⟨rfl, k9, F9⟩
  have C9 := AR_ob k8 F9 C8
  have T9 := AR_aa k8 F9 T8
  have p9 := AR_ob k8 F9 p8
  have r9 := AR_ob k8 F9 r8
  refine ⟨(RG_0 k9).choose, (RG_0 k9).choose_spec, 0, 0, _, r_sqr k9 (RG_r k9 (i := 4) (by omega) rfl) (c := 4) (by omega), Nat.zero_le _, Nat.zero_le _, ?_⟩
  rintro _ h10 ⟨rfl, k10, F10⟩
  have C10 := AR_ob k9 F10 C9
  have T10 := AR_aa k9 F10 T9
  have p10 := AR_ob k9 F10 p9
  have r10 := AR_ob k9 F10 r9
  refine ⟨(RG_0 k10).choose, (RG_0 k10).choose_spec, 0, 0, _, r_sub k10 (RG_r k10 (i := 4) (by omega) rfl) (RG_r k10 (i := 1) (by omega) rfl) (c := 4) (by omega), Nat.zero_le _, Nat.zero_le _, ?_⟩
  rintro _ h11 ⟨rfl, k11, F11⟩
  have C11 := AR_ob k10 F11 C10
  have T11 := AR_aa k10 F11 T10
  have p11 := AR_ob k10 F11 p10
  have r11 := AR_ob k10 F11 r10
  refine ⟨_, _, r11, rfl, ⟨(RG_0 k11).choose, (RG_0 k11).choose_spec, 0, 0, _, r_sub k11 (RG_r k11 (i := 4) (by omega) rfl) (RG_r k11 (i := 0) (by omega) rfl) (c := 13) (by omega), Nat.zero_le _, Nat.zero_le _, ?_⟩⟩
  rintro _ h12 ⟨rfl, k12, F12⟩
  have C12 := AR_ob k11 F12 C11
  have T12 := AR_aa k11 F12 T11
  have p12 := AR_ob k11 F12 p11
  have r12 := AR_ob k11 F12 r11
  refine ⟨(RG_0 k12).choose, (RG_0 k12).choose_spec, 0, 0, _, r_add k12 (RG_r k12 (i := 2) (by omega) rfl) (RG_r k12 (i := 2) (by omega) rfl) (c := 2) (by omega), Nat.zero_le _, Nat.zero_le _, ?_⟩
  rintro _ h13 ⟨rfl, k13, F13⟩
  have C13 := AR_ob k12 F13 C12
  have T13 := AR_aa k12 F13 T12
  have p13 := AR_ob k12 F13 p12
  have r13 := AR_ob k12 F13 r12
  refine ⟨(RG_0 k13).choose, (RG_0 k13).choose_spec, 0, 0, _, r_add k13 (RG_r k13 (i := 2) (by omega) rfl) (RG_r k13 (i := 2) (by omega) rfl) (c := 2) (by omega), Nat.zero_le _, Nat.zero_le _, ?_⟩
  rintro _ h14 ⟨rfl, k14, F14⟩
  have C14 := AR_ob k13 F14 C13
  have T14 := AR_aa k13 F14 T13
  have p14 := AR_ob k13 F14 p13
  have r14 := AR_ob k13 F14 r13
  refine ⟨(RG_0 k14).choose, (RG_0 k14).choose_spec, 0, 0, _, r_add k14 (RG_r k14 (i := 2) (by omega) rfl) (RG_r k14 (i := 2) (by omega) rfl) (c := 4) (by omega), Nat.zero_le _, Nat.zero_le _, ?_⟩
  rintro _ h15 ⟨rfl, k15, F15⟩
  have C15 := AR_ob k14 F15 C14
  have T15 := AR_aa k14 F15 T14
  have p15 := AR_ob k14 F15 p14
  have r15 := AR_ob k14 F15 r14
  refine ⟨(RG_0 k15).choose, (RG_0 k15).choose_spec, 0, 0, _, r_sqr k15 (RG_r k15 (i := 3) (by omega) rfl) (c := 0) (by omega), Nat.zero_le _, Nat.zero_le _, ?_⟩
  rintro _ h16 ⟨rfl, k16, F16⟩
  have C16 := AR_ob k15 F16 C15
  have T16 := AR_aa k15 F16 T15
  have p16 := AR_ob k15 F16 p15
  have r16 := AR_ob k15 F16 r15
  refine ⟨_, _, r16, rfl, ⟨(RG_0 k16).choose, (RG_0 k16).choose_spec, 0, 0, _, r_sub k16 (RG_r k16 (i := 0) (by omega) rfl) (RG_r k16 (i := 4) (by omega) rfl) (c := 11) (by omega), Nat.zero_le _, Nat.zero_le _, ?_⟩⟩
  rintro _ h17 ⟨rfl, k17, F17⟩
  have C17 := AR_ob k16 F17 C16
  have T17 := AR_aa k16 F17 T16
  have p17 := AR_ob k16 F17 p16
  have r17 := AR_ob k16 F17 r16
  refine ⟨_, _, r17, rfl, ⟨(RG_0 k17).choose, (RG_0 k17).choose_spec, 0, 0, _, r_sub k17 (RG_r k17 (i := 2) (by omega) rfl) (RG_r k17 (i := 11) (by omega) rfl) (c := 2) (by omega), Nat.zero_le _, Nat.zero_le _, ?_⟩⟩
  rintro _ h18 ⟨rfl, k18, F18⟩
  have C18 := AR_ob k17 F18 C17
  have T18 := AR_aa k17 F18 T17
  have p18 := AR_ob k17 F18 p17
  have r18 := AR_ob k17 F18 r17
  refine ⟨(RG_0 k18).choose, (RG_0 k18).choose_spec, 0, 0, _, r_mul k18 (RG_r k18 (i := 3) (by omega) rfl) (RG_r k18 (i := 2) (by omega) rfl) (c := 2) (by omega), Nat.zero_le _, Nat.zero_le _, ?_⟩
  rintro _ h19 ⟨rfl, k19, F19⟩
  have C19 := AR_ob k18 F19 C18
  have T19 := AR_aa k18 F19 T18
  have p19 := AR_ob k18 F19 p18
  have r19 := AR_ob k18 F19 r18
  refine ⟨(RG_0 k19).choose, (RG_0 k19).choose_spec, 0, 0, _, r_add k19 (RG_r k19 (i := 1) (by omega) rfl) (RG_r k19 (i := 1) (by omega) rfl) (c := 1) (by omega), Nat.zero_le _, Nat.zero_le _, ?_⟩
  rintro _ h20 ⟨rfl, k20, F20⟩
  have C20 := AR_ob k19 F20 C19
  have T20 := AR_aa k19 F20 T19
  have p20 := AR_ob k19 F20 p19
  have r20 := AR_ob k19 F20 r19
  refine ⟨(RG_0 k20).choose, (RG_0 k20).choose_spec, 0, 0, _, r_sqr k20 (RG_r k20 (i := 1) (by omega) rfl) (c := 1) (by omega), Nat.zero_le _, Nat.zero_le _, ?_⟩
  rintro _ h21 ⟨rfl, k21, F21⟩
  have C21 := AR_ob k20 F21 C20
  have T21 := AR_aa k20 F21 T20
  have p21 := AR_ob k20 F21 p20
  have r21 := AR_ob k20 F21 r20
  refine ⟨(RG_0 k21).choose, (RG_0 k21).choose_spec, 0, 0, _, r_add k21 (RG_r k21 (i := 1) (by omega) rfl) (RG_r k21 (i := 1) (by omega) rfl) (c := 1) (by omega), Nat.zero_le _, Nat.zero_le _, ?_⟩
  rintro _ h22 ⟨rfl, k22, F22⟩
  have C22 := AR_ob k21 F22 C21
  have T22 := AR_aa k21 F22 T21
  have p22 := AR_ob k21 F22 p21
  have r22 := AR_ob k21 F22 r21
  refine ⟨_, _, r22, rfl, ⟨(RG_0 k22).choose, (RG_0 k22).choose_spec, 0, 0, _, r_sub k22 (RG_r k22 (i := 2) (by omega) rfl) (RG_r k22 (i := 1) (by omega) rfl) (c := 12) (by omega), Nat.zero_le _, Nat.zero_le _, ?_⟩⟩
  rintro _ h23 ⟨rfl, k23, F23⟩
  have C23 := AR_ob k22 F23 C22
  have T23 := AR_aa k22 F23 T22
  have p23 := AR_ob k22 F23 p22
  have r23 := AR_ob k22 F23 r22
  refine ⟨rfl, _, _, _, _, k23, rfl, rfl, rfl, ?_, ?_, ?_, ?_, (fr_trans (fr_trans (fr_trans (fr_trans (fr_trans (fr_trans (fr_trans (fr_trans (fr_trans (fr_trans (fr_trans (fr_trans (fr_trans (fr_trans (fr_trans (fr_trans (fr_trans (fr_trans (fr_trans (fr_trans (fr_trans (fr_trans F1 F2) F3) F4) F5) F6) F7) F8) F9) F10) F11) F12) F13) F14) F15) F16) F17) F18) F19) F20) F21) F22) F23)⟩
  · simp only [fz_add, fz_mul, fz_sub]; exact tw_x _ _ _
  · simp only [fz_add, fz_mul, fz_sub]; exact tw_y _ _ _
  · simp only [fz_add, fz_mul, fz_sub]; rfl
  · intro i h8 hi
    simp only [up1]
    repeat rw [if_neg (by omega)]
theorem c_twice_s {A R : Nat → Nat} {ni ri : Nat} {h0 : vm_H} {u : Nat → Option Int} {C T p r : Nat} {g : Nat → Option Nat} {x y z : Int} {c1 c2 c3 c4 c5 c6 c7 c8 c9 : Value} (k0 : RG 11 A R ni ri h0 u) (C0 : h0.2 C = .inr (2, [.ref (A 0), c1, c2, c3, c4, c5, c6, c7, c8, .ref T, c9])) (T0 : h0.2 T = .inl (.array .long, 8, .inr (.inr (.inr (.inr g))))) (Tg : ∀ j, j < 8 → g j = some (R j)) (p0 : h0.2 p = .inr (8, [.ref (R 8), .ref (R 9), .ref (R 10)])) (r0 : h0.2 r = .inr (8, [.ref (R 8), .ref (R 9), .ref (R 10)])) (hx : u 8 = some x) (hy : u 9 = some y) (hz : u 10 = some z) :
    vm_Met (vm_env l O f9) mX2_twice 0 0 [.ref C, .ref p, .ref r] h0 (fun q h' => q = none ∧ ∃ (u' : Nat → Option Int) (x' y' z' : Int), RG 11 A R ni ri h' u' ∧ u' 8 = some x' ∧ u' 9 = some y' ∧ u' 10 = some z' ∧ fz x' = jdX (fz x) (fz y) (fz z) ∧ fz y' = jdY (fz x) (fz y) (fz z) ∧ fz z' = jdZ (fz y) (fz z) ∧ (∀ i, 8 ≤ i → i < 8 ∨ 10 < i → u' i = u i) ∧ fr h0 h' (AR 11 A R)) := by
  refine vm_met rfl (Nat.le_of_ble_eq_true rfl) ?_
  refine vm_go rfl bX2_twice_0 oX2_twice_0 ⟨_, _, C0, rfl, ⟨_, _, C0, rfl, ⟨_, _, _, _, T0, by decide, rfl, 0, rfl, by decide, tp_g (Tg 0 (by decide)), ⟨_, _, C0, rfl, ⟨_, _, _, _, T0, by decide, rfl, 1, rfl, by decide, tp_g (Tg 1 (by decide)), ?_⟩⟩⟩⟩⟩
  refine vm_Th (lv' := [(0, .ref C), (1, .ref p), (2, .ref r), (3, .ref (A 0)), (4, .ref (R 0)), (5, .ref (R 1))]) (h' := h0) rfl rfl ?_
  refine vm_go rfl bX2_twice_21 oX2_twice_21 ⟨_, _, C0, rfl, ⟨_, _, _, _, T0, by decide, rfl, 2, rfl, by decide, tp_g (Tg 2 (by decide)), ⟨_, _, C0, rfl, ⟨_, _, _, _, T0, by decide, rfl, 3, rfl, by decide, tp_g (Tg 3 (by decide)), ?_⟩⟩⟩⟩
  refine vm_Th (lv' := [(0, .ref C), (1, .ref p), (2, .ref r), (3, .ref (A 0)), (4, .ref (R 0)), (5, .ref (R 1)), (6, .ref (R 2)), (7, .ref (R 3))]) (h' := h0) rfl rfl ?_
  refine vm_go rfl bX2_twice_37 oX2_twice_37 ⟨_, _, C0, rfl, ⟨_, _, _, _, T0, by decide, rfl, 4, rfl, by decide, tp_g (Tg 4 (by decide)), ?_⟩⟩
  refine vm_Th (lv' := [(0, .ref C), (1, .ref p), (2, .ref r), (3, .ref (A 0)), (4, .ref (R 0)), (5, .ref (R 1)), (6, .ref (R 2)), (7, .ref (R 3)), (8, .ref (R 4))]) (h' := h0) rfl rfl ?_
  refine vm_go rfl bX2_twice_45 oX2_twice_45 ?_
  refine ⟨_, _, p0, rfl, ⟨(RG_0 k0).choose, (RG_0 k0).choose_spec, 0, 0, _, r_sqr k0 (RG_r k0 (i := 10) (by omega) hz) (c := 0) (by omega), Nat.zero_le _, Nat.zero_le _, ?_⟩⟩
  rintro _ h1 ⟨rfl, k1, F1⟩
  have C1 := AR_ob k0 F1 C0
  have T1 := AR_aa k0 F1 T0
  have p1 := AR_ob k0 F1 p0
  have r1 := AR_ob k0 F1 r0
  refine ⟨_, _, p1, rfl, ⟨(RG_0 k1).choose, (RG_0 k1).choose_spec, 0, 0, _, r_sqr k1 (RG_r k1 (i := 9) (by omega) hy) (c := 1) (by omega), Nat.zero_le _, Nat.zero_le _, ?_⟩⟩
  rintro _ h2 ⟨rfl, k2, F2⟩
  have C2 := AR_ob k1 F2 C1
  have T2 := AR_aa k1 F2 T1
  have p2 := AR_ob k1 F2 p1
  have r2 := AR_ob k1 F2 r1
  refine ⟨_, _, p2, rfl, ⟨(RG_0 k2).choose, (RG_0 k2).choose_spec, 0, 0, _, r_mul k2 (RG_r k2 (i := 8) (by omega) hx) (RG_r k2 (i := 1) (by omega) rfl) (c := 2) (by omega), Nat.zero_le _, Nat.zero_le _, ?_⟩⟩
  rintro _ h3 ⟨rfl, k3, F3⟩
  have C3 := AR_ob k2 F3 C2
  have T3 := AR_aa k2 F3 T2
  have p3 := AR_ob k2 F3 p2
  have r3 := AR_ob k2 F3 r2
  refine ⟨_, _, p3, rfl, ⟨(RG_0 k3).choose, (RG_0 k3).choose_spec, 0, 0, _, r_sub k3 (RG_r k3 (i := 8) (by omega) hx) (RG_r k3 (i := 0) (by omega) rfl) (c := 4) (by omega), Nat.zero_le _, Nat.zero_le _, ?_⟩⟩
  rintro _ h4 ⟨rfl, k4, F4⟩
  have C4 := AR_ob k3 F4 C3
  have T4 := AR_aa k3 F4 T3
  have p4 := AR_ob k3 F4 p3
  have r4 := AR_ob k3 F4 r3
  refine ⟨_, _, p4, rfl, ⟨(RG_0 k4).choose, (RG_0 k4).choose_spec, 0, 0, _, r_add k4 (RG_r k4 (i := 8) (by omega) hx) (RG_r k4 (i := 0) (by omega) rfl) (c := 3) (by omega), Nat.zero_le _, Nat.zero_le _, ?_⟩⟩
  rintro _ h5 ⟨rfl, k5, F5⟩
  have C5 := AR_ob k4 F5 C4
  have T5 := AR_aa k4 F5 T4
  have p5 := AR_ob k4 F5 p4
  have r5 := AR_ob k4 F5 r4
  refine ⟨(RG_0 k5).choose, (RG_0 k5).choose_spec, 0, 0, _, r_mul k5 (RG_r k5 (i := 4) (by omega) rfl) (RG_r k5 (i := 3) (by omega) rfl) (c := 4) (by omega), Nat.zero_le _, Nat.zero_le _, ?_⟩
  rintro _ h6 ⟨rfl, k6, F6⟩
  have C6 := AR_ob k5 F6 C5
  have T6 := AR_aa k5 F6 T5
  have p6 := AR_ob k5 F6 p5
  have r6 := AR_ob k5 F6 r5
  refine ⟨(RG_0 k6).choose, (RG_0 k6).choose_spec, 0, 0, _, r_add k6 (RG_r k6 (i := 4) (by omega) rfl) (RG_r k6 (i := 4) (by omega) rfl) (c := 3) (by omega), Nat.zero_le _, Nat.zero_le _, ?_⟩
  rintro _ h7 ⟨rfl, k7, F7⟩
  have C7 := AR_ob k6 F7 C6
  have T7 := AR_aa k6 F7 T6
  have p7 := AR_ob k6 F7 p6
  have r7 := AR_ob k6 F7 r6
  refine ⟨(RG_0 k7).choose, (RG_0 k7).choose_spec, 0, 0, _, r_add k7 (RG_r k7 (i := 3) (by omega) rfl) (RG_r k7 (i := 4) (by omega) rfl) (c := 3) (by omega), Nat.zero_le _, Nat.zero_le _, ?_⟩
  rintro _ h8 ⟨rfl, k8, F8⟩
  have C8 := AR_ob k7 F8 C7
  have T8 := AR_aa k7 F8 T7
  have p8 := AR_ob k7 F8 p7
  have r8 := AR_ob k7 F8 r7
  refine ⟨_, _, p8, rfl, ⟨_, _, p8, rfl, ⟨(RG_0 k8).choose, (RG_0 k8).choose_spec, 0, 0, _, r_add k8 (RG_r k8 (i := 9) (by omega) hy) (RG_r k8 (i := 10) (by omega) hz) (c := 4) (by omega), Nat.zero_le _, Nat.zero_le _, ?_⟩⟩⟩
  rintro _ h9 ⟨rfl, k9, F9⟩
  have C9 := AR_ob k8 F9 C8
  have T9 := AR_aa k8 F9 T8
  have p9 := AR_ob k8 F9 p8
  have r9 := AR_ob k8 F9 r8
  refine ⟨(RG_0 k9).choose, (RG_0 k9).choose_spec, 0, 0, _, r_sqr k9 (RG_r k9 (i := 4) (by omega) rfl) (c := 4) (by omega), Nat.zero_le _, Nat.zero_le _, ?_⟩
  rintro _ h10 ⟨rfl, k10, F10⟩
  have C10 := AR_ob k9 F10 C9
  have T10 := AR_aa k9 F10 T9
  have p10 := AR_ob k9 F10 p9
  have r10 := AR_ob k9 F10 r9
  refine ⟨(RG_0 k10).choose, (RG_0 k10).choose_spec, 0, 0, _, r_sub k10 (RG_r k10 (i := 4) (by omega) rfl) (RG_r k10 (i := 1) (by omega) rfl) (c := 4) (by omega), Nat.zero_le _, Nat.zero_le _, ?_⟩
  rintro _ h11 ⟨rfl, k11, F11⟩
  have C11 := AR_ob k10 F11 C10
  have T11 := AR_aa k10 F11 T10
  have p11 := AR_ob k10 F11 p10
  have r11 := AR_ob k10 F11 r10
  refine ⟨_, _, r11, rfl, ⟨(RG_0 k11).choose, (RG_0 k11).choose_spec, 0, 0, _, r_sub k11 (RG_r k11 (i := 4) (by omega) rfl) (RG_r k11 (i := 0) (by omega) rfl) (c := 10) (by omega), Nat.zero_le _, Nat.zero_le _, ?_⟩⟩
  rintro _ h12 ⟨rfl, k12, F12⟩
  have C12 := AR_ob k11 F12 C11
  have T12 := AR_aa k11 F12 T11
  have p12 := AR_ob k11 F12 p11
  have r12 := AR_ob k11 F12 r11
  refine ⟨(RG_0 k12).choose, (RG_0 k12).choose_spec, 0, 0, _, r_add k12 (RG_r k12 (i := 2) (by omega) rfl) (RG_r k12 (i := 2) (by omega) rfl) (c := 2) (by omega), Nat.zero_le _, Nat.zero_le _, ?_⟩
  rintro _ h13 ⟨rfl, k13, F13⟩
  have C13 := AR_ob k12 F13 C12
  have T13 := AR_aa k12 F13 T12
  have p13 := AR_ob k12 F13 p12
  have r13 := AR_ob k12 F13 r12
  refine ⟨(RG_0 k13).choose, (RG_0 k13).choose_spec, 0, 0, _, r_add k13 (RG_r k13 (i := 2) (by omega) rfl) (RG_r k13 (i := 2) (by omega) rfl) (c := 2) (by omega), Nat.zero_le _, Nat.zero_le _, ?_⟩
  rintro _ h14 ⟨rfl, k14, F14⟩
  have C14 := AR_ob k13 F14 C13
  have T14 := AR_aa k13 F14 T13
  have p14 := AR_ob k13 F14 p13
  have r14 := AR_ob k13 F14 r13
  refine ⟨(RG_0 k14).choose, (RG_0 k14).choose_spec, 0, 0, _, r_add k14 (RG_r k14 (i := 2) (by omega) rfl) (RG_r k14 (i := 2) (by omega) rfl) (c := 4) (by omega), Nat.zero_le _, Nat.zero_le _, ?_⟩
  rintro _ h15 ⟨rfl, k15, F15⟩
  have C15 := AR_ob k14 F15 C14
  have T15 := AR_aa k14 F15 T14
  have p15 := AR_ob k14 F15 p14
  have r15 := AR_ob k14 F15 r14
  refine ⟨(RG_0 k15).choose, (RG_0 k15).choose_spec, 0, 0, _, r_sqr k15 (RG_r k15 (i := 3) (by omega) rfl) (c := 0) (by omega), Nat.zero_le _, Nat.zero_le _, ?_⟩
  rintro _ h16 ⟨rfl, k16, F16⟩
  have C16 := AR_ob k15 F16 C15
  have T16 := AR_aa k15 F16 T15
  have p16 := AR_ob k15 F16 p15
  have r16 := AR_ob k15 F16 r15
  refine ⟨_, _, r16, rfl, ⟨(RG_0 k16).choose, (RG_0 k16).choose_spec, 0, 0, _, r_sub k16 (RG_r k16 (i := 0) (by omega) rfl) (RG_r k16 (i := 4) (by omega) rfl) (c := 8) (by omega), Nat.zero_le _, Nat.zero_le _, ?_⟩⟩
  rintro _ h17 ⟨rfl, k17, F17⟩
  have C17 := AR_ob k16 F17 C16
  have T17 := AR_aa k16 F17 T16
  have p17 := AR_ob k16 F17 p16
  have r17 := AR_ob k16 F17 r16
  refine ⟨_, _, r17, rfl, ⟨(RG_0 k17).choose, (RG_0 k17).choose_spec, 0, 0, _, r_sub k17 (RG_r k17 (i := 2) (by omega) rfl) (RG_r k17 (i := 8) (by omega) rfl) (c := 2) (by omega), Nat.zero_le _, Nat.zero_le _, ?_⟩⟩
  rintro _ h18 ⟨rfl, k18, F18⟩
  have C18 := AR_ob k17 F18 C17
  have T18 := AR_aa k17 F18 T17
  have p18 := AR_ob k17 F18 p17
  have r18 := AR_ob k17 F18 r17
  refine ⟨(RG_0 k18).choose, (RG_0 k18).choose_spec, 0, 0, _, r_mul k18 (RG_r k18 (i := 3) (by omega) rfl) (RG_r k18 (i := 2) (by omega) rfl) (c := 2) (by omega), Nat.zero_le _, Nat.zero_le _, ?_⟩
  rintro _ h19 ⟨rfl, k19, F19⟩
  have C19 := AR_ob k18 F19 C18
  have T19 := AR_aa k18 F19 T18
  have p19 := AR_ob k18 F19 p18
  have r19 := AR_ob k18 F19 r18
  refine ⟨(RG_0 k19).choose, (RG_0 k19).choose_spec, 0, 0, _, r_add k19 (RG_r k19 (i := 1) (by omega) rfl) (RG_r k19 (i := 1) (by omega) rfl) (c := 1) (by omega), Nat.zero_le _, Nat.zero_le _, ?_⟩
  rintro _ h20 ⟨rfl, k20, F20⟩
  have C20 := AR_ob k19 F20 C19
  have T20 := AR_aa k19 F20 T19
  have p20 := AR_ob k19 F20 p19
  have r20 := AR_ob k19 F20 r19
  refine ⟨(RG_0 k20).choose, (RG_0 k20).choose_spec, 0, 0, _, r_sqr k20 (RG_r k20 (i := 1) (by omega) rfl) (c := 1) (by omega), Nat.zero_le _, Nat.zero_le _, ?_⟩
  rintro _ h21 ⟨rfl, k21, F21⟩
  have C21 := AR_ob k20 F21 C20
  have T21 := AR_aa k20 F21 T20
  have p21 := AR_ob k20 F21 p20
  have r21 := AR_ob k20 F21 r20
  refine ⟨(RG_0 k21).choose, (RG_0 k21).choose_spec, 0, 0, _, r_add k21 (RG_r k21 (i := 1) (by omega) rfl) (RG_r k21 (i := 1) (by omega) rfl) (c := 1) (by omega), Nat.zero_le _, Nat.zero_le _, ?_⟩
  rintro _ h22 ⟨rfl, k22, F22⟩
  have C22 := AR_ob k21 F22 C21
  have T22 := AR_aa k21 F22 T21
  have p22 := AR_ob k21 F22 p21
  have r22 := AR_ob k21 F22 r21
  refine ⟨_, _, r22, rfl, ⟨(RG_0 k22).choose, (RG_0 k22).choose_spec, 0, 0, _, r_sub k22 (RG_r k22 (i := 2) (by omega) rfl) (RG_r k22 (i := 1) (by omega) rfl) (c := 9) (by omega), Nat.zero_le _, Nat.zero_le _, ?_⟩⟩
  rintro _ h23 ⟨rfl, k23, F23⟩
  have C23 := AR_ob k22 F23 C22
  have T23 := AR_aa k22 F23 T22
  have p23 := AR_ob k22 F23 p22
  have r23 := AR_ob k22 F23 r22
  refine ⟨rfl, _, _, _, _, k23, rfl, rfl, rfl, ?_, ?_, ?_, ?_, (fr_trans (fr_trans (fr_trans (fr_trans (fr_trans (fr_trans (fr_trans (fr_trans (fr_trans (fr_trans (fr_trans (fr_trans (fr_trans (fr_trans (fr_trans (fr_trans (fr_trans (fr_trans (fr_trans (fr_trans (fr_trans (fr_trans F1 F2) F3) F4) F5) F6) F7) F8) F9) F10) F11) F12) F13) F14) F15) F16) F17) F18) F19) F20) F21) F22) F23)⟩
  · simp only [fz_add, fz_mul, fz_sub]; exact tw_x _ _ _
  · simp only [fz_add, fz_mul, fz_sub]; exact tw_y _ _ _
  · simp only [fz_add, fz_mul, fz_sub]; rfl
  · intro i h8 hi
    simp only [up1]
    repeat rw [if_neg (by omega)]
end
