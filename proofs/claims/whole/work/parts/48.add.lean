/-! Curve.add: its rows of products -/
section
variable {l : Launch} {O : Nat → vm_Ob} {f9 : Value}
theorem c_add2 {A R : Nat → Nat} {ni ri : Nat} {h0 : vm_H} {u : Nat → Option Int} {C T p q r : Nat} {g : Nat → Option Nat} {c1 c2 c4 c5 c6 c7 c8 c9 : Value} {zr : Nat} (k0 : RG 17 A R ni ri h0 u) (C0 : h0.2 C = .inr (2, [.ref (A 0), c1, c2, .ref zr, c4, c5, c6, c7, c8, .ref T, c9])) (T0 : h0.2 T = .inl (.array .long, 8, .inr (.inr (.inr (.inr g))))) (Tg : ∀ j, j < 8 → g j = some (R j)) (p0 : h0.2 p = .inr (8, [.ref (R 8), .ref (R 9), .ref (R 10)])) (q0 : h0.2 q = .inr (8, [.ref (R 11), .ref (R 12), .ref (R 13)])) (r0 : h0.2 r = .inr (8, [.ref (R 14), .ref (R 15), .ref (R 16)])) {x y z x2 y2 z2 : Int} (hx : u 8 = some x) (hy : u 9 = some y) (hz : u 10 = some z) (hx2 : u 11 = some x2) (hy2 : u 12 = some y2) (hz2 : u 13 = some z2) {U H S D : Int} (u2 : u 2 = some U) (u3 : u 3 = some H) (u4 : u 4 = some S) (u5 : u 5 = some D) :
    vm_T (vm_env l O f9) mX2_add 0 0 283 [(0, .ref C), (1, .ref p), (2, .ref q), (3, .ref r), (4, .ref (A 0)), (5, .ref (R 2)), (6, .ref (R 3)), (7, .ref (R 4)), (8, .ref (R 5)), (9, .ref (R 6))] [] h0 (fun e h' => e = none ∧ ∃ (u' : Nat → Option Int) (x' y' z' : Int), RG 17 A R ni ri h' u' ∧ u' 14 = some x' ∧ u' 15 = some y' ∧ u' 16 = some z' ∧ fz x' = jaX (fz H) (fz D) (fz U) ∧ fz y' = jaY (fz H) (fz D) (fz U) (fz S) ∧ fz z' = fz z * fz z2 * fz H ∧ (∀ i, 8 ≤ i → i < 14 ∨ 16 < i → u' i = u i) ∧ fr h0 h' (AR 17 A R)) := by
  refine vm_go rfl bX2_add_283 oX2_add_283 ?_
  refine ⟨_, _, p0, rfl, ⟨_, _, q0, rfl, ⟨(RG_0 k0).choose, (RG_0 k0).choose_spec, 0, 0, _, r_mul k0 (RG_r k0 (i := 10) (by omega) hz) (RG_r k0 (i := 13) (by omega) hz2) (c := 6) (by omega), Nat.zero_le _, Nat.zero_le _, ?_⟩⟩⟩
  rintro _ h1 ⟨rfl, k1, F1⟩
  have C1 := AR_ob k0 F1 C0
  have T1 := AR_aa k0 F1 T0
  have p1 := AR_ob k0 F1 p0
  have q1 := AR_ob k0 F1 q0
  have r1 := AR_ob k0 F1 r0
  refine ⟨_, _, r1, rfl, ⟨(RG_0 k1).choose, (RG_0 k1).choose_spec, 0, 0, _, r_mul k1 (RG_r k1 (i := 6) (by omega) rfl) (RG_r k1 (i := 3) (by omega) u3) (c := 16) (by omega), Nat.zero_le _, Nat.zero_le _, ?_⟩⟩
  rintro _ h2 ⟨rfl, k2, F2⟩
  have C2 := AR_ob k1 F2 C1
  have T2 := AR_aa k1 F2 T1
  have p2 := AR_ob k1 F2 p1
  have q2 := AR_ob k1 F2 q1
  have r2 := AR_ob k1 F2 r1
  refine ⟨_, _, C2, rfl, ⟨_, _, _, _, T2, by decide, rfl, 0, rfl, by decide, tp_g (Tg 0 (by decide)), ⟨(RG_0 k2).choose, (RG_0 k2).choose_spec, 0, 0, _, r_sqr k2 (RG_r k2 (i := 3) (by omega) u3) (c := 0) (by omega), Nat.zero_le _, Nat.zero_le _, ?_⟩⟩⟩
  rintro _ h3 ⟨rfl, k3, F3⟩
  have C3 := AR_ob k2 F3 C2
  have T3 := AR_aa k2 F3 T2
  have p3 := AR_ob k2 F3 p2
  have q3 := AR_ob k2 F3 q2
  have r3 := AR_ob k2 F3 r2
  refine ⟨_, _, C3, rfl, ⟨_, _, _, _, T3, by decide, rfl, 0, rfl, by decide, tp_g (Tg 0 (by decide)), ⟨_, _, C3, rfl, ⟨_, _, _, _, T3, by decide, rfl, 1, rfl, by decide, tp_g (Tg 1 (by decide)), ⟨(RG_0 k3).choose, (RG_0 k3).choose_spec, 0, 0, _, r_mul k3 (RG_r k3 (i := 3) (by omega) u3) (RG_r k3 (i := 0) (by omega) rfl) (c := 1) (by omega), Nat.zero_le _, Nat.zero_le _, ?_⟩⟩⟩⟩⟩
  rintro _ h4 ⟨rfl, k4, F4⟩
  have C4 := AR_ob k3 F4 C3
  have T4 := AR_aa k3 F4 T3
  have p4 := AR_ob k3 F4 p3
  have q4 := AR_ob k3 F4 q3
  have r4 := AR_ob k3 F4 r3
  refine ⟨_, _, C4, rfl, ⟨_, _, _, _, T4, by decide, rfl, 0, rfl, by decide, tp_g (Tg 0 (by decide)), ⟨(RG_0 k4).choose, (RG_0 k4).choose_spec, 0, 0, _, r_mul k4 (RG_r k4 (i := 2) (by omega) u2) (RG_r k4 (i := 0) (by omega) rfl) (c := 6) (by omega), Nat.zero_le _, Nat.zero_le _, ?_⟩⟩⟩
  rintro _ h5 ⟨rfl, k5, F5⟩
  have C5 := AR_ob k4 F5 C4
  have T5 := AR_aa k4 F5 T4
  have p5 := AR_ob k4 F5 p4
  have q5 := AR_ob k4 F5 q4
  have r5 := AR_ob k4 F5 r4
  refine ⟨_, _, C5, rfl, ⟨_, _, _, _, T5, by decide, rfl, 0, rfl, by decide, tp_g (Tg 0 (by decide)), ⟨(RG_0 k5).choose, (RG_0 k5).choose_spec, 0, 0, _, r_sqr k5 (RG_r k5 (i := 5) (by omega) u5) (c := 0) (by omega), Nat.zero_le _, Nat.zero_le _, ?_⟩⟩⟩
  rintro _ h6 ⟨rfl, k6, F6⟩
  have C6 := AR_ob k5 F6 C5
  have T6 := AR_aa k5 F6 T5
  have p6 := AR_ob k5 F6 p5
  have q6 := AR_ob k5 F6 q5
  have r6 := AR_ob k5 F6 r5
  refine ⟨_, _, C6, rfl, ⟨_, _, _, _, T6, by decide, rfl, 0, rfl, by decide, tp_g (Tg 0 (by decide)), ⟨_, _, C6, rfl, ⟨_, _, _, _, T6, by decide, rfl, 1, rfl, by decide, tp_g (Tg 1 (by decide)), ⟨_, _, C6, rfl, ⟨_, _, _, _, T6, by decide, rfl, 0, rfl, by decide, tp_g (Tg 0 (by decide)), ⟨(RG_0 k6).choose, (RG_0 k6).choose_spec, 0, 0, _, r_sub k6 (RG_r k6 (i := 0) (by omega) rfl) (RG_r k6 (i := 1) (by omega) rfl) (c := 0) (by omega), Nat.zero_le _, Nat.zero_le _, ?_⟩⟩⟩⟩⟩⟩⟩
  rintro _ h7 ⟨rfl, k7, F7⟩
  have C7 := AR_ob k6 F7 C6
  have T7 := AR_aa k6 F7 T6
  have p7 := AR_ob k6 F7 p6
  have q7 := AR_ob k6 F7 q6
  have r7 := AR_ob k6 F7 r6
  refine ⟨_, _, C7, rfl, ⟨_, _, _, _, T7, by decide, rfl, 0, rfl, by decide, tp_g (Tg 0 (by decide)), ⟨_, _, C7, rfl, ⟨_, _, _, _, T7, by decide, rfl, 0, rfl, by decide, tp_g (Tg 0 (by decide)), ⟨(RG_0 k7).choose, (RG_0 k7).choose_spec, 0, 0, _, r_sub k7 (RG_r k7 (i := 0) (by omega) rfl) (RG_r k7 (i := 6) (by omega) rfl) (c := 0) (by omega), Nat.zero_le _, Nat.zero_le _, ?_⟩⟩⟩⟩⟩
  rintro _ h8 ⟨rfl, k8, F8⟩
  have C8 := AR_ob k7 F8 C7
  have T8 := AR_aa k7 F8 T7
  have p8 := AR_ob k7 F8 p7
  have q8 := AR_ob k7 F8 q7
  have r8 := AR_ob k7 F8 r7
  refine ⟨_, _, C8, rfl, ⟨_, _, _, _, T8, by decide, rfl, 0, rfl, by decide, tp_g (Tg 0 (by decide)), ⟨_, _, r8, rfl, ⟨(RG_0 k8).choose, (RG_0 k8).choose_spec, 0, 0, _, r_sub k8 (RG_r k8 (i := 0) (by omega) rfl) (RG_r k8 (i := 6) (by omega) rfl) (c := 14) (by omega), Nat.zero_le _, Nat.zero_le _, ?_⟩⟩⟩⟩
  rintro _ h9 ⟨rfl, k9, F9⟩
  have C9 := AR_ob k8 F9 C8
  have T9 := AR_aa k8 F9 T8
  have p9 := AR_ob k8 F9 p8
  have q9 := AR_ob k8 F9 q8
  have r9 := AR_ob k8 F9 r8
  refine ⟨_, _, r9, rfl, ⟨(RG_0 k9).choose, (RG_0 k9).choose_spec, 0, 0, _, r_sub k9 (RG_r k9 (i := 6) (by omega) rfl) (RG_r k9 (i := 14) (by omega) rfl) (c := 6) (by omega), Nat.zero_le _, Nat.zero_le _, ?_⟩⟩
  rintro _ h10 ⟨rfl, k10, F10⟩
  have C10 := AR_ob k9 F10 C9
  have T10 := AR_aa k9 F10 T9
  have p10 := AR_ob k9 F10 p9
  have q10 := AR_ob k9 F10 q9
  have r10 := AR_ob k9 F10 r9
  refine ⟨(RG_0 k10).choose, (RG_0 k10).choose_spec, 0, 0, _, r_mul k10 (RG_r k10 (i := 5) (by omega) u5) (RG_r k10 (i := 6) (by omega) rfl) (c := 6) (by omega), Nat.zero_le _, Nat.zero_le _, ?_⟩
  rintro _ h11 ⟨rfl, k11, F11⟩
  have C11 := AR_ob k10 F11 C10
  have T11 := AR_aa k10 F11 T10
  have p11 := AR_ob k10 F11 p10
  have q11 := AR_ob k10 F11 q10
  have r11 := AR_ob k10 F11 r10
  refine ⟨_, _, C11, rfl, ⟨_, _, _, _, T11, by decide, rfl, 1, rfl, by decide, tp_g (Tg 1 (by decide)), ⟨(RG_0 k11).choose, (RG_0 k11).choose_spec, 0, 0, _, r_mul k11 (RG_r k11 (i := 4) (by omega) u4) (RG_r k11 (i := 1) (by omega) rfl) (c := 4) (by omega), Nat.zero_le _, Nat.zero_le _, ?_⟩⟩⟩
  rintro _ h12 ⟨rfl, k12, F12⟩
  have C12 := AR_ob k11 F12 C11
  have T12 := AR_aa k11 F12 T11
  have p12 := AR_ob k11 F12 p11
  have q12 := AR_ob k11 F12 q11
  have r12 := AR_ob k11 F12 r11
  refine ⟨_, _, r12, rfl, ⟨(RG_0 k12).choose, (RG_0 k12).choose_spec, 0, 0, _, r_sub k12 (RG_r k12 (i := 6) (by omega) rfl) (RG_r k12 (i := 4) (by omega) rfl) (c := 15) (by omega), Nat.zero_le _, Nat.zero_le _, ?_⟩⟩
  rintro _ h13 ⟨rfl, k13, F13⟩
  have C13 := AR_ob k12 F13 C12
  have T13 := AR_aa k12 F13 T12
  have p13 := AR_ob k12 F13 p12
  have q13 := AR_ob k12 F13 q12
  have r13 := AR_ob k12 F13 r12
  refine ⟨rfl, _, _, _, _, k13, rfl, rfl, rfl, ?_, ?_, ?_, ?_, (fr_trans (fr_trans (fr_trans (fr_trans (fr_trans (fr_trans (fr_trans (fr_trans (fr_trans (fr_trans (fr_trans (fr_trans F1 F2) F3) F4) F5) F6) F7) F8) F9) F10) F11) F12) F13)⟩
  · simp only [fz_mul, fz_sub]; rfl
  · simp only [fz_mul, fz_sub]; rfl
  · simp only [fz_mul, fz_sub]
  · intro i h8 hi
    simp only [up1]
    repeat rw [if_neg (by omega)]
theorem c_add1 {A R : Nat → Nat} {ni ri : Nat} {h0 : vm_H} {u : Nat → Option Int} {C T p q r : Nat} {g : Nat → Option Nat} {c1 c2 c4 c5 c6 c7 c8 c9 : Value} {zr : Nat} (k0 : RG 17 A R ni ri h0 u) (C0 : h0.2 C = .inr (2, [.ref (A 0), c1, c2, .ref zr, c4, c5, c6, c7, c8, .ref T, c9])) (T0 : h0.2 T = .inl (.array .long, 8, .inr (.inr (.inr (.inr g))))) (Tg : ∀ j, j < 8 → g j = some (R j)) (p0 : h0.2 p = .inr (8, [.ref (R 8), .ref (R 9), .ref (R 10)])) (q0 : h0.2 q = .inr (8, [.ref (R 11), .ref (R 12), .ref (R 13)])) (r0 : h0.2 r = .inr (8, [.ref (R 14), .ref (R 15), .ref (R 16)])) {x y z x2 y2 z2 : Int} (hx : u 8 = some x) (hy : u 9 = some y) (hz : u 10 = some z) (hx2 : u 11 = some x2) (hy2 : u 12 = some y2) (hz2 : u 13 = some z2) {Q : Option Value → vm_H → Prop} (K : ∀ (h1 : vm_H) (u1 : Nat → Option Int), RG 17 A R ni ri h1 u1 → fr h0 h1 (AR 17 A R) → (∀ i, 8 ≤ i → u1 i = u i) → u1 2 = some (x * (z2 * z2)) → u1 3 = some (x2 * (z * z) - x * (z2 * z2)) → u1 4 = some (y * z2 * (z2 * z2)) → u1 5 = some (y2 * z * (z * z) - y * z2 * (z2 * z2)) →
      vm_T (vm_env l O f9) mX2_add 0 0 240 [(0, .ref C), (1, .ref p), (2, .ref q), (3, .ref r), (4, .ref (A 0)), (5, .ref (R 2)), (6, .ref (R 3)), (7, .ref (R 4)), (8, .ref (R 5)), (9, .ref (R 6))] [] h1 Q) :
    vm_T (vm_env l O f9) mX2_add 0 0 53 [(0, .ref C), (1, .ref p), (2, .ref q), (3, .ref r), (4, .ref (A 0))] [] h0 Q := by
  refine vm_go rfl bX2_add_53 oX2_add_53 ⟨_, _, C0, rfl, ⟨_, _, _, _, T0, by decide, rfl, 2, rfl, by decide, tp_g (Tg 2 (by decide)), ⟨_, _, C0, rfl, ⟨_, _, _, _, T0, by decide, rfl, 3, rfl, by decide, tp_g (Tg 3 (by decide)), ?_⟩⟩⟩⟩
  refine vm_Th (lv' := [(0, .ref C), (1, .ref p), (2, .ref q), (3, .ref r), (4, .ref (A 0)), (5, .ref (R 2)), (6, .ref (R 3))]) (h' := h0) rfl rfl ?_
  refine vm_go rfl bX2_add_69 oX2_add_69 ⟨_, _, C0, rfl, ⟨_, _, _, _, T0, by decide, rfl, 4, rfl, by decide, tp_g (Tg 4 (by decide)), ⟨_, _, C0, rfl, ⟨_, _, _, _, T0, by decide, rfl, 5, rfl, by decide, tp_g (Tg 5 (by decide)), ?_⟩⟩⟩⟩
  refine vm_Th (lv' := [(0, .ref C), (1, .ref p), (2, .ref q), (3, .ref r), (4, .ref (A 0)), (5, .ref (R 2)), (6, .ref (R 3)), (7, .ref (R 4)), (8, .ref (R 5))]) (h' := h0) rfl rfl ?_
  refine vm_go rfl bX2_add_85 oX2_add_85 ⟨_, _, C0, rfl, ⟨_, _, _, _, T0, by decide, rfl, 6, rfl, by decide, tp_g (Tg 6 (by decide)), ?_⟩⟩
  refine vm_Th (lv' := [(0, .ref C), (1, .ref p), (2, .ref q), (3, .ref r), (4, .ref (A 0)), (5, .ref (R 2)), (6, .ref (R 3)), (7, .ref (R 4)), (8, .ref (R 5)), (9, .ref (R 6))]) (h' := h0) rfl rfl ?_
  refine vm_go rfl bX2_add_94 oX2_add_94 ?_
  refine ⟨_, _, p0, rfl, ⟨_, _, C0, rfl, ⟨_, _, _, _, T0, by decide, rfl, 0, rfl, by decide, tp_g (Tg 0 (by decide)), ⟨(RG_0 k0).choose, (RG_0 k0).choose_spec, 0, 0, _, r_sqr k0 (RG_r k0 (i := 10) (by omega) hz) (c := 0) (by omega), Nat.zero_le _, Nat.zero_le _, ?_⟩⟩⟩⟩
  rintro _ h1 ⟨rfl, k1, F1⟩
  have C1 := AR_ob k0 F1 C0
  have T1 := AR_aa k0 F1 T0
  have p1 := AR_ob k0 F1 p0
  have q1 := AR_ob k0 F1 q0
  have r1 := AR_ob k0 F1 r0
  refine ⟨_, _, q1, rfl, ⟨_, _, C1, rfl, ⟨_, _, _, _, T1, by decide, rfl, 1, rfl, by decide, tp_g (Tg 1 (by decide)), ⟨(RG_0 k1).choose, (RG_0 k1).choose_spec, 0, 0, _, r_sqr k1 (RG_r k1 (i := 13) (by omega) hz2) (c := 1) (by omega), Nat.zero_le _, Nat.zero_le _, ?_⟩⟩⟩⟩
  rintro _ h2 ⟨rfl, k2, F2⟩
  have C2 := AR_ob k1 F2 C1
  have T2 := AR_aa k1 F2 T1
  have p2 := AR_ob k1 F2 p1
  have q2 := AR_ob k1 F2 q1
  have r2 := AR_ob k1 F2 r1
  refine ⟨_, _, p2, rfl, ⟨_, _, C2, rfl, ⟨_, _, _, _, T2, by decide, rfl, 1, rfl, by decide, tp_g (Tg 1 (by decide)), ⟨(RG_0 k2).choose, (RG_0 k2).choose_spec, 0, 0, _, r_mul k2 (RG_r k2 (i := 8) (by omega) hx) (RG_r k2 (i := 1) (by omega) rfl) (c := 2) (by omega), Nat.zero_le _, Nat.zero_le _, ?_⟩⟩⟩⟩
  rintro _ h3 ⟨rfl, k3, F3⟩
  have C3 := AR_ob k2 F3 C2
  have T3 := AR_aa k2 F3 T2
  have p3 := AR_ob k2 F3 p2
  have q3 := AR_ob k2 F3 q2
  have r3 := AR_ob k2 F3 r2
  refine ⟨_, _, q3, rfl, ⟨_, _, C3, rfl, ⟨_, _, _, _, T3, by decide, rfl, 0, rfl, by decide, tp_g (Tg 0 (by decide)), ⟨(RG_0 k3).choose, (RG_0 k3).choose_spec, 0, 0, _, r_mul k3 (RG_r k3 (i := 11) (by omega) hx2) (RG_r k3 (i := 0) (by omega) rfl) (c := 3) (by omega), Nat.zero_le _, Nat.zero_le _, ?_⟩⟩⟩⟩
  rintro _ h4 ⟨rfl, k4, F4⟩
  have C4 := AR_ob k3 F4 C3
  have T4 := AR_aa k3 F4 T3
  have p4 := AR_ob k3 F4 p3
  have q4 := AR_ob k3 F4 q3
  have r4 := AR_ob k3 F4 r3
  refine ⟨(RG_0 k4).choose, (RG_0 k4).choose_spec, 0, 0, _, r_sub k4 (RG_r k4 (i := 3) (by omega) rfl) (RG_r k4 (i := 2) (by omega) rfl) (c := 3) (by omega), Nat.zero_le _, Nat.zero_le _, ?_⟩
  rintro _ h5 ⟨rfl, k5, F5⟩
  have C5 := AR_ob k4 F5 C4
  have T5 := AR_aa k4 F5 T4
  have p5 := AR_ob k4 F5 p4
  have q5 := AR_ob k4 F5 q4
  have r5 := AR_ob k4 F5 r4
  refine ⟨_, _, p5, rfl, ⟨_, _, q5, rfl, ⟨(RG_0 k5).choose, (RG_0 k5).choose_spec, 0, 0, _, r_mul k5 (RG_r k5 (i := 9) (by omega) hy) (RG_r k5 (i := 13) (by omega) hz2) (c := 4) (by omega), Nat.zero_le _, Nat.zero_le _, ?_⟩⟩⟩
  rintro _ h6 ⟨rfl, k6, F6⟩
  have C6 := AR_ob k5 F6 C5
  have T6 := AR_aa k5 F6 T5
  have p6 := AR_ob k5 F6 p5
  have q6 := AR_ob k5 F6 q5
  have r6 := AR_ob k5 F6 r5
  refine ⟨_, _, C6, rfl, ⟨_, _, _, _, T6, by decide, rfl, 1, rfl, by decide, tp_g (Tg 1 (by decide)), ⟨(RG_0 k6).choose, (RG_0 k6).choose_spec, 0, 0, _, r_mul k6 (RG_r k6 (i := 4) (by omega) rfl) (RG_r k6 (i := 1) (by omega) rfl) (c := 4) (by omega), Nat.zero_le _, Nat.zero_le _, ?_⟩⟩⟩
  rintro _ h7 ⟨rfl, k7, F7⟩
  have C7 := AR_ob k6 F7 C6
  have T7 := AR_aa k6 F7 T6
  have p7 := AR_ob k6 F7 p6
  have q7 := AR_ob k6 F7 q6
  have r7 := AR_ob k6 F7 r6
  refine ⟨_, _, q7, rfl, ⟨_, _, p7, rfl, ⟨(RG_0 k7).choose, (RG_0 k7).choose_spec, 0, 0, _, r_mul k7 (RG_r k7 (i := 12) (by omega) hy2) (RG_r k7 (i := 10) (by omega) hz) (c := 5) (by omega), Nat.zero_le _, Nat.zero_le _, ?_⟩⟩⟩
  rintro _ h8 ⟨rfl, k8, F8⟩
  have C8 := AR_ob k7 F8 C7
  have T8 := AR_aa k7 F8 T7
  have p8 := AR_ob k7 F8 p7
  have q8 := AR_ob k7 F8 q7
  have r8 := AR_ob k7 F8 r7
  refine ⟨_, _, C8, rfl, ⟨_, _, _, _, T8, by decide, rfl, 0, rfl, by decide, tp_g (Tg 0 (by decide)), ⟨(RG_0 k8).choose, (RG_0 k8).choose_spec, 0, 0, _, r_mul k8 (RG_r k8 (i := 5) (by omega) rfl) (RG_r k8 (i := 0) (by omega) rfl) (c := 5) (by omega), Nat.zero_le _, Nat.zero_le _, ?_⟩⟩⟩
  rintro _ h9 ⟨rfl, k9, F9⟩
  have C9 := AR_ob k8 F9 C8
  have T9 := AR_aa k8 F9 T8
  have p9 := AR_ob k8 F9 p8
  have q9 := AR_ob k8 F9 q8
  have r9 := AR_ob k8 F9 r8
  refine ⟨(RG_0 k9).choose, (RG_0 k9).choose_spec, 0, 0, _, r_sub k9 (RG_r k9 (i := 5) (by omega) rfl) (RG_r k9 (i := 4) (by omega) rfl) (c := 5) (by omega), Nat.zero_le _, Nat.zero_le _, ?_⟩
  rintro _ h10 ⟨rfl, k10, F10⟩
  have C10 := AR_ob k9 F10 C9
  have T10 := AR_aa k9 F10 T9
  have p10 := AR_ob k9 F10 p9
  have q10 := AR_ob k9 F10 q9
  have r10 := AR_ob k9 F10 r9
  refine K h10 _ k10 (fr_trans (fr_trans (fr_trans (fr_trans (fr_trans (fr_trans (fr_trans (fr_trans (fr_trans F1 F2) F3) F4) F5) F6) F7) F8) F9) F10) ?_ rfl rfl rfl rfl
  intro i h8
  simp only [up1]
  repeat rw [if_neg (by omega)]
theorem c_add2_s {A R : Nat → Nat} {ni ri : Nat} {h0 : vm_H} {u : Nat → Option Int} {C T p q r : Nat} {g : Nat → Option Nat} {c1 c2 c4 c5 c6 c7 c8 c9 : Value} {zr : Nat} (k0 : RG 14 A R ni ri h0 u) (C0 : h0.2 C = .inr (2, [.ref (A 0), c1, c2, .ref zr, c4, c5, c6, c7, c8, .ref T, c9])) (T0 : h0.2 T = .inl (.array .long, 8, .inr (.inr (.inr (.inr g))))) (Tg : ∀ j, j < 8 → g j = some (R j)) (p0 : h0.2 p = .inr (8, [.ref (R 8), .ref (R 9), .ref (R 10)])) (q0 : h0.2 q = .inr (8, [.ref (R 11), .ref (R 12), .ref (R 13)])) (r0 : h0.2 r = .inr (8, [.ref (R 8), .ref (R 9), .ref (R 10)])) {x y z x2 y2 z2 : Int} (hx : u 8 = some x) (hy : u 9 = some y) (hz : u 10 = some z) (hx2 : u 11 = some x2) (hy2 : u 12 = some y2) (hz2 : u 13 = some z2) {U H S D : Int} (u2 : u 2 = some U) (u3 : u 3 = some H) (u4 : u 4 = some S) (u5 : u 5 = some D) :
    vm_T (vm_env l O f9) mX2_add 0 0 283 [(0, .ref C), (1, .ref p), (2, .ref q), (3, .ref r), (4, .ref (A 0)), (5, .ref (R 2)), (6, .ref (R 3)), (7, .ref (R 4)), (8, .ref (R 5)), (9, .ref (R 6))] [] h0 (fun e h' => e = none ∧ ∃ (u' : Nat → Option Int) (x' y' z' : Int), RG 14 A R ni ri h' u' ∧ u' 8 = some x' ∧ u' 9 = some y' ∧ u' 10 = some z' ∧ fz x' = jaX (fz H) (fz D) (fz U) ∧ fz y' = jaY (fz H) (fz D) (fz U) (fz S) ∧ fz z' = fz z * fz z2 * fz H ∧ (∀ i, 8 ≤ i → i < 8 ∨ 10 < i → u' i = u i) ∧ fr h0 h' (AR 14 A R)) := by
  refine vm_go rfl bX2_add_283 oX2_add_283 ?_
  refine ⟨_, _, p0, rfl, ⟨_, _, q0, rfl, ⟨(RG_0 k0).choose, (RG_0 k0).choose_spec, 0, 0, _, r_mul k0 (RG_r k0 (i := 10) (by omega) hz) (RG_r k0 (i := 13) (by omega) hz2) (c := 6) (by omega), Nat.zero_le _, Nat.zero_le _, ?_⟩⟩⟩
  rintro _ h1 ⟨rfl, k1, F1⟩
  have C1 := AR_ob k0 F1 C0
  have T1 := AR_aa k0 F1 T0
  have p1 := AR_ob k0 F1 p0
  have q1 := AR_ob k0 F1 q0
  have r1 := AR_ob k0 F1 r0
  refine ⟨_, _, r1, rfl, ⟨(RG_0 k1).choose, (RG_0 k1).choose_spec, 0, 0, _, r_mul k1 (RG_r k1 (i := 6) (by omega) rfl) (RG_r k1 (i := 3) (by omega) u3) (c := 10) (by omega), Nat.zero_le _, Nat.zero_le _, ?_⟩⟩
  rintro _ h2 ⟨rfl, k2, F2⟩
  have C2 := AR_ob k1 F2 C1
  have T2 := AR_aa k1 F2 T1
  have p2 := AR_ob k1 F2 p1
  have q2 := AR_ob k1 F2 q1
  have r2 := AR_ob k1 F2 r1
  refine ⟨_, _, C2, rfl, ⟨_, _, _, _, T2, by decide, rfl, 0, rfl, by decide, tp_g (Tg 0 (by decide)), ⟨(RG_0 k2).choose, (RG_0 k2).choose_spec, 0, 0, _, r_sqr k2 (RG_r k2 (i := 3) (by omega) u3) (c := 0) (by omega), Nat.zero_le _, Nat.zero_le _, ?_⟩⟩⟩
  rintro _ h3 ⟨rfl, k3, F3⟩
  have C3 := AR_ob k2 F3 C2
  have T3 := AR_aa k2 F3 T2
  have p3 := AR_ob k2 F3 p2
  have q3 := AR_ob k2 F3 q2
  have r3 := AR_ob k2 F3 r2
  refine ⟨_, _, C3, rfl, ⟨_, _, _, _, T3, by decide, rfl, 0, rfl, by decide, tp_g (Tg 0 (by decide)), ⟨_, _, C3, rfl, ⟨_, _, _, _, T3, by decide, rfl, 1, rfl, by decide, tp_g (Tg 1 (by decide)), ⟨(RG_0 k3).choose, (RG_0 k3).choose_spec, 0, 0, _, r_mul k3 (RG_r k3 (i := 3) (by omega) u3) (RG_r k3 (i := 0) (by omega) rfl) (c := 1) (by omega), Nat.zero_le _, Nat.zero_le _, ?_⟩⟩⟩⟩⟩
  rintro _ h4 ⟨rfl, k4, F4⟩
  have C4 := AR_ob k3 F4 C3
  have T4 := AR_aa k3 F4 T3
  have p4 := AR_ob k3 F4 p3
  have q4 := AR_ob k3 F4 q3
  have r4 := AR_ob k3 F4 r3
  refine ⟨_, _, C4, rfl, ⟨_, _, _, _, T4, by decide, rfl, 0, rfl, by decide, tp_g (Tg 0 (by decide)), ⟨(RG_0 k4).choose, (RG_0 k4).choose_spec, 0, 0, _, r_mul k4 (RG_r k4 (i := 2) (by omega) u2) (RG_r k4 (i := 0) (by omega) rfl) (c := 6) (by omega), Nat.zero_le _, Nat.zero_le _, ?_⟩⟩⟩
  rintro _ h5 ⟨rfl, k5, F5⟩
  have C5 := AR_ob k4 F5 C4
  have T5 := AR_aa k4 F5 T4
  have p5 := AR_ob k4 F5 p4
  have q5 := AR_ob k4 F5 q4
  have r5 := AR_ob k4 F5 r4
  refine ⟨_, _, C5, rfl, ⟨_, _, _, _, T5, by decide, rfl, 0, rfl, by decide, tp_g (Tg 0 (by decide)), ⟨(RG_0 k5).choose, (RG_0 k5).choose_spec, 0, 0, _, r_sqr k5 (RG_r k5 (i := 5) (by omega) u5) (c := 0) (by omega), Nat.zero_le _, Nat.zero_le _, ?_⟩⟩⟩
  rintro _ h6 ⟨rfl, k6, F6⟩
  have C6 := AR_ob k5 F6 C5
  have T6 := AR_aa k5 F6 T5
  have p6 := AR_ob k5 F6 p5
  have q6 := AR_ob k5 F6 q5
  have r6 := AR_ob k5 F6 r5
  refine ⟨_, _, C6, rfl, ⟨_, _, _, _, T6, by decide, rfl, 0, rfl, by decide, tp_g (Tg 0 (by decide)), ⟨_, _, C6, rfl, ⟨_, _, _, _, T6, by decide, rfl, 1, rfl, by decide, tp_g (Tg 1 (by decide)), ⟨_, _, C6, rfl, ⟨_, _, _, _, T6, by decide, rfl, 0, rfl, by decide, tp_g (Tg 0 (by decide)), ⟨(RG_0 k6).choose, (RG_0 k6).choose_spec, 0, 0, _, r_sub k6 (RG_r k6 (i := 0) (by omega) rfl) (RG_r k6 (i := 1) (by omega) rfl) (c := 0) (by omega), Nat.zero_le _, Nat.zero_le _, ?_⟩⟩⟩⟩⟩⟩⟩
  rintro _ h7 ⟨rfl, k7, F7⟩
  have C7 := AR_ob k6 F7 C6
  have T7 := AR_aa k6 F7 T6
  have p7 := AR_ob k6 F7 p6
  have q7 := AR_ob k6 F7 q6
  have r7 := AR_ob k6 F7 r6
  refine ⟨_, _, C7, rfl, ⟨_, _, _, _, T7, by decide, rfl, 0, rfl, by decide, tp_g (Tg 0 (by decide)), ⟨_, _, C7, rfl, ⟨_, _, _, _, T7, by decide, rfl, 0, rfl, by decide, tp_g (Tg 0 (by decide)), ⟨(RG_0 k7).choose, (RG_0 k7).choose_spec, 0, 0, _, r_sub k7 (RG_r k7 (i := 0) (by omega) rfl) (RG_r k7 (i := 6) (by omega) rfl) (c := 0) (by omega), Nat.zero_le _, Nat.zero_le _, ?_⟩⟩⟩⟩⟩
  rintro _ h8 ⟨rfl, k8, F8⟩
  have C8 := AR_ob k7 F8 C7
  have T8 := AR_aa k7 F8 T7
  have p8 := AR_ob k7 F8 p7
  have q8 := AR_ob k7 F8 q7
  have r8 := AR_ob k7 F8 r7
  refine ⟨_, _, C8, rfl, ⟨_, _, _, _, T8, by decide, rfl, 0, rfl, by decide, tp_g (Tg 0 (by decide)), ⟨_, _, r8, rfl, ⟨(RG_0 k8).choose, (RG_0 k8).choose_spec, 0, 0, _, r_sub k8 (RG_r k8 (i := 0) (by omega) rfl) (RG_r k8 (i := 6) (by omega) rfl) (c := 8) (by omega), Nat.zero_le _, Nat.zero_le _, ?_⟩⟩⟩⟩
  rintro _ h9 ⟨rfl, k9, F9⟩
  have C9 := AR_ob k8 F9 C8
  have T9 := AR_aa k8 F9 T8
  have p9 := AR_ob k8 F9 p8
  have q9 := AR_ob k8 F9 q8
  have r9 := AR_ob k8 F9 r8
  refine ⟨_, _, r9, rfl, ⟨(RG_0 k9).choose, (RG_0 k9).choose_spec, 0, 0, _, r_sub k9 (RG_r k9 (i := 6) (by omega) rfl) (RG_r k9 (i := 8) (by omega) rfl) (c := 6) (by omega), Nat.zero_le _, Nat.zero_le _, ?_⟩⟩
  rintro _ h10 ⟨rfl, k10, F10⟩
  have C10 := AR_ob k9 F10 C9
  have T10 := AR_aa k9 F10 T9
  have p10 := AR_ob k9 F10 p9
  have q10 := AR_ob k9 F10 q9
  have r10 := AR_ob k9 F10 r9
  refine ⟨(RG_0 k10).choose, (RG_0 k10).choose_spec, 0, 0, _, r_mul k10 (RG_r k10 (i := 5) (by omega) u5) (RG_r k10 (i := 6) (by omega) rfl) (c := 6) (by omega), Nat.zero_le _, Nat.zero_le _, ?_⟩
  rintro _ h11 ⟨rfl, k11, F11⟩
  have C11 := AR_ob k10 F11 C10
  have T11 := AR_aa k10 F11 T10
  have p11 := AR_ob k10 F11 p10
  have q11 := AR_ob k10 F11 q10
  have r11 := AR_ob k10 F11 r10
  refine ⟨_, _, C11, rfl, ⟨_, _, _, _, T11, by decide, rfl, 1, rfl, by decide, tp_g (Tg 1 (by decide)), ⟨(RG_0 k11).choose, (RG_0 k11).choose_spec, 0, 0, _, r_mul k11 (RG_r k11 (i := 4) (by omega) u4) (RG_r k11 (i := 1) (by omega) rfl) (c := 4) (by omega), Nat.zero_le _, Nat.zero_le _, ?_⟩⟩⟩
  rintro _ h12 ⟨rfl, k12, F12⟩
  have C12 := AR_ob k11 F12 C11
  have T12 := AR_aa k11 F12 T11
  have p12 := AR_ob k11 F12 p11
  have q12 := AR_ob k11 F12 q11
  have r12 := AR_ob k11 F12 r11
  refine ⟨_, _, r12, rfl, ⟨(RG_0 k12).choose, (RG_0 k12).choose_spec, 0, 0, _, r_sub k12 (RG_r k12 (i := 6) (by omega) rfl) (RG_r k12 (i := 4) (by omega) rfl) (c := 9) (by omega), Nat.zero_le _, Nat.zero_le _, ?_⟩⟩
  rintro _ h13 ⟨rfl, k13, F13⟩
  have C13 := AR_ob k12 F13 C12
  have T13 := AR_aa k12 F13 T12
  have p13 := AR_ob k12 F13 p12
  have q13 := AR_ob k12 F13 q12
  have r13 := AR_ob k12 F13 r12
  refine ⟨rfl, _, _, _, _, k13, rfl, rfl, rfl, ?_, ?_, ?_, ?_, (fr_trans (fr_trans (fr_trans (fr_trans (fr_trans (fr_trans (fr_trans (fr_trans (fr_trans (fr_trans (fr_trans (fr_trans F1 F2) F3) F4) F5) F6) F7) F8) F9) F10) F11) F12) F13)⟩
  · simp only [fz_mul, fz_sub]; rfl
  · simp only [fz_mul, fz_sub]; rfl
  · simp only [fz_mul, fz_sub]
  · intro i h8 hi
    simp only [up1]
    repeat rw [if_neg (by omega)]
theorem c_add1_s {A R : Nat → Nat} {ni ri : Nat} {h0 : vm_H} {u : Nat → Option Int} {C T p q r : Nat} {g : Nat → Option Nat} {c1 c2 c4 c5 c6 c7 c8 c9 : Value} {zr : Nat} (k0 : RG 14 A R ni ri h0 u) (C0 : h0.2 C = .inr (2, [.ref (A 0), c1, c2, .ref zr, c4, c5, c6, c7, c8, .ref T, c9])) (T0 : h0.2 T = .inl (.array .long, 8, .inr (.inr (.inr (.inr g))))) (Tg : ∀ j, j < 8 → g j = some (R j)) (p0 : h0.2 p = .inr (8, [.ref (R 8), .ref (R 9), .ref (R 10)])) (q0 : h0.2 q = .inr (8, [.ref (R 11), .ref (R 12), .ref (R 13)])) (r0 : h0.2 r = .inr (8, [.ref (R 8), .ref (R 9), .ref (R 10)])) {x y z x2 y2 z2 : Int} (hx : u 8 = some x) (hy : u 9 = some y) (hz : u 10 = some z) (hx2 : u 11 = some x2) (hy2 : u 12 = some y2) (hz2 : u 13 = some z2) {Q : Option Value → vm_H → Prop} (K : ∀ (h1 : vm_H) (u1 : Nat → Option Int), RG 14 A R ni ri h1 u1 → fr h0 h1 (AR 14 A R) → (∀ i, 8 ≤ i → u1 i = u i) → u1 2 = some (x * (z2 * z2)) → u1 3 = some (x2 * (z * z) - x * (z2 * z2)) → u1 4 = some (y * z2 * (z2 * z2)) → u1 5 = some (y2 * z * (z * z) - y * z2 * (z2 * z2)) →
      vm_T (vm_env l O f9) mX2_add 0 0 240 [(0, .ref C), (1, .ref p), (2, .ref q), (3, .ref r), (4, .ref (A 0)), (5, .ref (R 2)), (6, .ref (R 3)), (7, .ref (R 4)), (8, .ref (R 5)), (9, .ref (R 6))] [] h1 Q) :
    vm_T (vm_env l O f9) mX2_add 0 0 53 [(0, .ref C), (1, .ref p), (2, .ref q), (3, .ref r), (4, .ref (A 0))] [] h0 Q := by
  refine vm_go rfl bX2_add_53 oX2_add_53 ⟨_, _, C0, rfl, ⟨_, _, _, _, T0, by decide, rfl, 2, rfl, by decide, tp_g (Tg 2 (by decide)), ⟨_, _, C0, rfl, ⟨_, _, _, _, T0, by decide, rfl, 3, rfl, by decide, tp_g (Tg 3 (by decide)), ?_⟩⟩⟩⟩
  refine vm_Th (lv' := [(0, .ref C), (1, .ref p), (2, .ref q), (3, .ref r), (4, .ref (A 0)), (5, .ref (R 2)), (6, .ref (R 3))]) (h' := h0) rfl rfl ?_
  refine vm_go rfl bX2_add_69 oX2_add_69 ⟨_, _, C0, rfl, ⟨_, _, _, _, T0, by decide, rfl, 4, rfl, by decide, tp_g (Tg 4 (by decide)), ⟨_, _, C0, rfl, ⟨_, _, _, _, T0, by decide, rfl, 5, rfl, by decide, tp_g (Tg 5 (by decide)), ?_⟩⟩⟩⟩
  refine vm_Th (lv' := [(0, .ref C), (1, .ref p), (2, .ref q), (3, .ref r), (4, .ref (A 0)), (5, .ref (R 2)), (6, .ref (R 3)), (7, .ref (R 4)), (8, .ref (R 5))]) (h' := h0) rfl rfl ?_
  refine vm_go rfl bX2_add_85 oX2_add_85 ⟨_, _, C0, rfl, ⟨_, _, _, _, T0, by decide, rfl, 6, rfl, by decide, tp_g (Tg 6 (by decide)), ?_⟩⟩
  refine vm_Th (lv' := [(0, .ref C), (1, .ref p), (2, .ref q), (3, .ref r), (4, .ref (A 0)), (5, .ref (R 2)), (6, .ref (R 3)), (7, .ref (R 4)), (8, .ref (R 5)), (9, .ref (R 6))]) (h' := h0) rfl rfl ?_
  refine vm_go rfl bX2_add_94 oX2_add_94 ?_
  refine ⟨_, _, p0, rfl, ⟨_, _, C0, rfl, ⟨_, _, _, _, T0, by decide, rfl, 0, rfl, by decide, tp_g (Tg 0 (by decide)), ⟨(RG_0 k0).choose, (RG_0 k0).choose_spec, 0, 0, _, r_sqr k0 (RG_r k0 (i := 10) (by omega) hz) (c := 0) (by omega), Nat.zero_le _, Nat.zero_le _, ?_⟩⟩⟩⟩
  rintro _ h1 ⟨rfl, k1, F1⟩
  have C1 := AR_ob k0 F1 C0
  have T1 := AR_aa k0 F1 T0
  have p1 := AR_ob k0 F1 p0
  have q1 := AR_ob k0 F1 q0
  have r1 := AR_ob k0 F1 r0
  refine ⟨_, _, q1, rfl, ⟨_, _, C1, rfl, ⟨_, _, _, _, T1, by decide, rfl, 1, rfl, by decide, tp_g (Tg 1 (by decide)), ⟨(RG_0 k1).choose, (RG_0 k1).choose_spec, 0, 0, _, r_sqr k1 (RG_r k1 (i := 13) (by omega) hz2) (c := 1) (by omega), Nat.zero_le _, Nat.zero_le _, ?_⟩⟩⟩⟩
  rintro _ h2 ⟨rfl, k2, F2⟩
  have C2 := AR_ob k1 F2 C1
  have T2 := AR_aa k1 F2 T1
  have p2 := AR_ob k1 F2 p1
  have q2 := AR_ob k1 F2 q1
  have r2 := AR_ob k1 F2 r1
  refine ⟨_, _, p2, rfl, ⟨_, _, C2, rfl, ⟨_, _, _, _, T2, by decide, rfl, 1, rfl, by decide, tp_g (Tg 1 (by decide)), ⟨(RG_0 k2).choose, (RG_0 k2).choose_spec, 0, 0, _, r_mul k2 (RG_r k2 (i := 8) (by omega) hx) (RG_r k2 (i := 1) (by omega) rfl) (c := 2) (by omega), Nat.zero_le _, Nat.zero_le _, ?_⟩⟩⟩⟩
  rintro _ h3 ⟨rfl, k3, F3⟩
  have C3 := AR_ob k2 F3 C2
  have T3 := AR_aa k2 F3 T2
  have p3 := AR_ob k2 F3 p2
  have q3 := AR_ob k2 F3 q2
  have r3 := AR_ob k2 F3 r2
  refine ⟨_, _, q3, rfl, ⟨_, _, C3, rfl, ⟨_, _, _, _, T3, by decide, rfl, 0, rfl, by decide, tp_g (Tg 0 (by decide)), ⟨(RG_0 k3).choose, (RG_0 k3).choose_spec, 0, 0, _, r_mul k3 (RG_r k3 (i := 11) (by omega) hx2) (RG_r k3 (i := 0) (by omega) rfl) (c := 3) (by omega), Nat.zero_le _, Nat.zero_le _, ?_⟩⟩⟩⟩
  rintro _ h4 ⟨rfl, k4, F4⟩
  have C4 := AR_ob k3 F4 C3
  have T4 := AR_aa k3 F4 T3
  have p4 := AR_ob k3 F4 p3
  have q4 := AR_ob k3 F4 q3
  have r4 := AR_ob k3 F4 r3
  refine ⟨(RG_0 k4).choose, (RG_0 k4).choose_spec, 0, 0, _, r_sub k4 (RG_r k4 (i := 3) (by omega) rfl) (RG_r k4 (i := 2) (by omega) rfl) (c := 3) (by omega), Nat.zero_le _, Nat.zero_le _, ?_⟩
  rintro _ h5 ⟨rfl, k5, F5⟩
  have C5 := AR_ob k4 F5 C4
  have T5 := AR_aa k4 F5 T4
  have p5 := AR_ob k4 F5 p4
  have q5 := AR_ob k4 F5 q4
  have r5 := AR_ob k4 F5 r4
  refine ⟨_, _, p5, rfl, ⟨_, _, q5, rfl, ⟨(RG_0 k5).choose, (RG_0 k5).choose_spec, 0, 0, _, r_mul k5 (RG_r k5 (i := 9) (by omega) hy) (RG_r k5 (i := 13) (by omega) hz2) (c := 4) (by omega), Nat.zero_le _, Nat.zero_le _, ?_⟩⟩⟩
  rintro _ h6 ⟨rfl, k6, F6⟩
  have C6 := AR_ob k5 F6 C5
  have T6 := AR_aa k5 F6 T5
  have p6 := AR_ob k5 F6 p5
  have q6 := AR_ob k5 F6 q5
  have r6 := AR_ob k5 F6 r5
  refine ⟨_, _, C6, rfl, ⟨_, _, _, _, T6, by decide, rfl, 1, rfl, by decide, tp_g (Tg 1 (by decide)), ⟨(RG_0 k6).choose, (RG_0 k6).choose_spec, 0, 0, _, r_mul k6 (RG_r k6 (i := 4) (by omega) rfl) (RG_r k6 (i := 1) (by omega) rfl) (c := 4) (by omega), Nat.zero_le _, Nat.zero_le _, ?_⟩⟩⟩
  rintro _ h7 ⟨rfl, k7, F7⟩
  have C7 := AR_ob k6 F7 C6
  have T7 := AR_aa k6 F7 T6
  have p7 := AR_ob k6 F7 p6
  have q7 := AR_ob k6 F7 q6
  have r7 := AR_ob k6 F7 r6
  refine ⟨_, _, q7, rfl, ⟨_, _, p7, rfl, ⟨(RG_0 k7).choose, (RG_0 k7).choose_spec, 0, 0, _, r_mul k7 (RG_r k7 (i := 12) (by omega) hy2) (RG_r k7 (i := 10) (by omega) hz) (c := 5) (by omega), Nat.zero_le _, Nat.zero_le _, ?_⟩⟩⟩
  rintro _ h8 ⟨rfl, k8, F8⟩
  have C8 := AR_ob k7 F8 C7
  have T8 := AR_aa k7 F8 T7
  have p8 := AR_ob k7 F8 p7
  have q8 := AR_ob k7 F8 q7
  have r8 := AR_ob k7 F8 r7
  refine ⟨_, _, C8, rfl, ⟨_, _, _, _, T8, by decide, rfl, 0, rfl, by decide, tp_g (Tg 0 (by decide)), ⟨(RG_0 k8).choose, (RG_0 k8).choose_spec, 0, 0, _, r_mul k8 (RG_r k8 (i := 5) (by omega) rfl) (RG_r k8 (i := 0) (by omega) rfl) (c := 5) (by omega), Nat.zero_le _, Nat.zero_le _, ?_⟩⟩⟩
  rintro _ h9 ⟨rfl, k9, F9⟩
  have C9 := AR_ob k8 F9 C8
  have T9 := AR_aa k8 F9 T8
  have p9 := AR_ob k8 F9 p8
  have q9 := AR_ob k8 F9 q8
  have r9 := AR_ob k8 F9 r8
  refine ⟨(RG_0 k9).choose, (RG_0 k9).choose_spec, 0, 0, _, r_sub k9 (RG_r k9 (i := 5) (by omega) rfl) (RG_r k9 (i := 4) (by omega) rfl) (c := 5) (by omega), Nat.zero_le _, Nat.zero_le _, ?_⟩
  rintro _ h10 ⟨rfl, k10, F10⟩
  have C10 := AR_ob k9 F10 C9
  have T10 := AR_aa k9 F10 T9
  have p10 := AR_ob k9 F10 p9
  have q10 := AR_ob k9 F10 q9
  have r10 := AR_ob k9 F10 r9
  refine K h10 _ k10 (fr_trans (fr_trans (fr_trans (fr_trans (fr_trans (fr_trans (fr_trans (fr_trans (fr_trans F1 F2) F3) F4) F5) F6) F7) F8) F9) F10) ?_ rfl rfl rfl rfl
  intro i h8
  simp only [up1]
  repeat rw [if_neg (by omega)]
end
