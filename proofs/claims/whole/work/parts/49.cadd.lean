/-! Curve.copyPoint, Curve.add -/
section
variable {l : Launch} {O : Nat → vm_Ob} {f9 : Value}
theorem c_cpy {m : Nat} {A R : Nat → Nat} {ni ri : Nat} {h0 : vm_H} {u : Nat → Option Int} {C a b i j : Nat} {cs : List Value} {x y z : Int} (k0 : RG m A R ni ri h0 u) (C0 : h0.2 C = .inr (2, .ref (A 0) :: cs)) (a0 : h0.2 a = .inr (8, [.ref (R i), .ref (R (i + 1)), .ref (R (i + 2))])) (b0 : h0.2 b = .inr (8, [.ref (R j), .ref (R (j + 1)), .ref (R (j + 2))])) (hi : i + 2 < m) (hj : j + 2 < m) (hd : i = j ∨ i + 2 < j ∨ j + 2 < i) (hx : u i = some x) (hy : u (i + 1) = some y) (hz : u (i + 2) = some z) :
    vm_Met (vm_env l O f9) mX2_copyPoint 0 0 [.ref C, .ref a, .ref b] h0 (fun r h' => r = none ∧ RG m A R ni ri h' (up1 (up1 (up1 u j (some x)) (j + 1) (some y)) (j + 2) (some z)) ∧ fr h0 h' (AR m A R)) := by
  refine vm_met rfl (Nat.le_of_ble_eq_true rfl) ?_
  refine vm_go rfl bX2_copyPoint_0 oX2_copyPoint_0 ⟨_, _, C0, rfl, ⟨_, _, a0, rfl, ⟨_, _, b0, rfl, ⟨(RG_0 k0).choose, (RG_0 k0).choose_spec, 0, 0, _, r_copy k0 (RG_r k0 (i := i) (by omega) hx) (c := j) (by omega), Nat.zero_le _, Nat.zero_le _, ?_⟩⟩⟩⟩
  rintro _ h1 ⟨rfl, k1, F1⟩
  have C1 := AR_ob k0 F1 C0
  have a1 := AR_ob k0 F1 a0
  have b1 := AR_ob k0 F1 b0
  refine ⟨_, _, C1, rfl, ⟨_, _, a1, rfl, ⟨_, _, b1, rfl, ⟨(RG_0 k1).choose, (RG_0 k1).choose_spec, 0, 0, _, r_copy k1 (RG_r k1 (i := i + 1) (a := y) (by omega) (by rw [up1_n (by omega)]; exact hy)) (c := j + 1) (by omega), Nat.zero_le _, Nat.zero_le _, ?_⟩⟩⟩⟩
  rintro _ h2 ⟨rfl, k2, F2⟩
  have C2 := AR_ob k1 F2 C1
  have a2 := AR_ob k1 F2 a1
  have b2 := AR_ob k1 F2 b1
  refine ⟨_, _, C2, rfl, ⟨_, _, a2, rfl, ⟨_, _, b2, rfl, ⟨(RG_0 k2).choose, (RG_0 k2).choose_spec, 0, 0, _, r_copy k2 (RG_r k2 (i := i + 2) (a := z) (by omega) (by rw [up1_n (by omega), up1_n (by omega)]; exact hz)) (c := j + 2) (by omega), Nat.zero_le _, Nat.zero_le _, ?_⟩⟩⟩⟩
  rintro _ h3 ⟨rfl, k3, F3⟩
  exact ⟨rfl, k3, fr_trans (fr_trans F1 F2) F3⟩
end
/-- a part of a file -/
theorem RG_sub {m m' : Nat} {A R s : Nat → Nat} {ni ri : Nat} {h : vm_H} {u : Nat → Option Int} (k : RG m A R ni ri h u) (hs : ∀ i, i < m' → s i < m) (hi : ∀ i j, i < m' → j < m' → s i = s j → i = j) : RG m' A (fun i => R (s i)) ni ri h (fun i => u (s i)) :=
  ⟨k.1, k.2.1, fun i j h1 h2 e => hi i j h1 h2 (k.2.2.1 _ _ (hs i h1) (hs j h2) e), fun i h1 => k.2.2.2.1 _ (hs i h1), fun i h1 => k.2.2.2.2 _ (hs i h1)⟩
theorem AR_sub {m m' : Nat} {A R s : Nat → Nat} (hs : ∀ i, i < m' → s i < m) : ∀ q, AR m' A (fun i => R (s i)) q → AR m A R q := by
  rintro q (z | z | ⟨i, hi, z⟩)
  · exact Or.inl z
  · exact Or.inr (Or.inl z)
  · exact Or.inr (Or.inr ⟨s i, hs i hi, z⟩)
theorem RG_back {m m' : Nat} {A R s : Nat → Nat} {ni ri : Nat} {h h' : vm_H} {u u' w : Nat → Option Int} (k : RG m A R ni ri h u) (k' : RG m' A (fun i => R (s i)) ni ri h' u') (F : fr h h' (AR m' A (fun i => R (s i)))) (hs : ∀ i, i < m' → s i < m) (hw : ∀ i, i < m → (∃ j, j < m' ∧ s j = i ∧ ∀ a, w i = some a → u' j = some a) ∨ ((∀ j, j < m' → s j ≠ i) ∧ ∀ a, w i = some a → u i = some a)) : RG m A R ni ri h' w := by
  refine ⟨k.1, k'.2.1, k.2.2.1, k.2.2.2.1, fun i hi => ?_⟩
  rcases hw i hi with ⟨j, hj, e, hv⟩ | ⟨hn, hv⟩
  · obtain ⟨l1, l2⟩ := k'.2.2.2.2 j hj
    subst e
    exact ⟨l1, fun a ha => l2 a (hv a ha)⟩
  · obtain ⟨l1, l2⟩ := k.2.2.2.2 i hi
    have ns : ¬ AR m' A (fun i => R (s i)) (R i) := by
      rintro ((z | ⟨_, z⟩) | ⟨j, hj, z⟩ | ⟨j, hj, z⟩)
      · exact (k.2.2.2.1 i hi).1.1 6 (by decide) z
      · exact (k.2.2.2.1 i hi).1.1 5 (by decide) z
      · exact (k.2.2.2.1 i hi).2 j hj z
      · exact hn j hj (k.2.2.1 _ _ (hs j hj) hi z.symm)
    exact ⟨fr_la F l1 ns, fun a ha => fr_nv F (l2 a (hv a ha)) ns⟩
theorem if10 {p : Prop} [Decidable p] : (if p then (1 : Int32) else 0) = 0 ↔ ¬ p := by
  by_cases q : p
  · rw [if_pos q]; exact ⟨fun z => absurd z (by decide), fun z => absurd q z⟩
  · rw [if_neg q]; exact ⟨fun _ => q, fun _ => rfl⟩
section
variable {l : Launch} {O : Nat → vm_Ob} {f9 : Value}
theorem c_add {A R : Nat → Nat} {ni ri : Nat} {h0 : vm_H} {u : Nat → Option Int} {C T p q r : Nat} {g : Nat → Option Nat} {c1 c2 c4 c5 c6 c7 c8 c9 : Value} {zr : Nat} (k0 : RG 17 A R ni ri h0 u) (C0 : h0.2 C = .inr (2, [.ref (A 0), c1, c2, .ref zr, c4, c5, c6, c7, c8, .ref T, c9])) (T0 : h0.2 T = .inl (.array .long, 8, .inr (.inr (.inr (.inr g))))) (Tg : ∀ j, j < 8 → g j = some (R j)) (p0 : h0.2 p = .inr (8, [.ref (R 8), .ref (R 9), .ref (R 10)])) (q0 : h0.2 q = .inr (8, [.ref (R 11), .ref (R 12), .ref (R 13)])) (r0 : h0.2 r = .inr (8, [.ref (R 14), .ref (R 15), .ref (R 16)])) {x y z x2 y2 z2 x9 y9 : Int} (hx : u 8 = some x) (hy : u 9 = some y) (hz : u 10 = some z) (hx2 : u 11 = some x2) (hy2 : u 12 = some y2) (hz2 : u 13 = some z2) {P P2 : Option (fq × fq)} (hP : ecO (-3) (fz (cB : Int)) P) (hP2 : ecO (-3) (fz (cB : Int)) P2) (jP : jr (fz x) (fz y) (fz z) P) (jP2 : jr (fz x2) (fz y2) (fz z2) P2) (hx9 : u 14 = some x9) (hy9 : u 15 = some y9) (Z0 : mv h0 14 cP zr 0) (Zn : ¬ AR 17 A R zr) :
    vm_Met (vm_env l O f9) mX2_add 0 0 [.ref C, .ref p, .ref q, .ref r] h0 (fun e h' => e = none ∧ ∃ (u' : Nat → Option Int) (x' y' z' : Int), RG 17 A R ni ri h' u' ∧ u' 14 = some x' ∧ u' 15 = some y' ∧ u' 16 = some z' ∧ jr (fz x') (fz y') (fz z') (ecA (-3) fiv P P2) ∧ (∀ i, 8 ≤ i → i < 14 ∨ 16 < i → u' i = u i) ∧ fr h0 h' (AR 17 A R)) := by
  refine vm_met rfl (Nat.le_of_ble_eq_true rfl) ?_
  have cpQ : fz z = 0 → vm_Met (vm_env l O f9) mX2_copyPoint 0 0 [.ref C, .ref q, .ref r] h0 (fun e h' => e = none ∧ ∃ (u' : Nat → Option Int) (x' y' z' : Int), RG 17 A R ni ri h' u' ∧ u' 14 = some x' ∧ u' 15 = some y' ∧ u' 16 = some z' ∧ jr (fz x') (fz y') (fz z') (ecA (-3) fiv P P2) ∧ (∀ i, 8 ≤ i → i < 14 ∨ 16 < i → u' i = u i) ∧ fr h0 h' (AR 17 A R)) := by
    intro hz0
    refine vm_metP (c_cpy (i := 11) (j := 14) k0 C0 q0 r0 (by omega) (by omega) (by omega) hx2 hy2 hz2) ?_
    rintro _ h' ⟨rfl, k1, F1⟩
    refine ⟨rfl, _, x2, y2, z2, k1, rfl, rfl, rfl, ?_, ?_, F1⟩
    · rcases jP with ⟨_, rfl⟩ | ⟨w, _⟩
      · exact jP2
      · exact absurd hz0 w
    · intro i h8 hi
      rw [up1_n (by omega), up1_n (by omega), up1_n (by omega)]
  have cpP : fz z2 = 0 → vm_Met (vm_env l O f9) mX2_copyPoint 0 0 [.ref C, .ref p, .ref r] h0 (fun e h' => e = none ∧ ∃ (u' : Nat → Option Int) (x' y' z' : Int), RG 17 A R ni ri h' u' ∧ u' 14 = some x' ∧ u' 15 = some y' ∧ u' 16 = some z' ∧ jr (fz x') (fz y') (fz z') (ecA (-3) fiv P P2) ∧ (∀ i, 8 ≤ i → i < 14 ∨ 16 < i → u' i = u i) ∧ fr h0 h' (AR 17 A R)) := by
    intro hz0
    refine vm_metP (c_cpy (i := 8) (j := 14) k0 C0 p0 r0 (by omega) (by omega) (by omega) hx hy hz) ?_
    rintro _ h' ⟨rfl, k1, F1⟩
    refine ⟨rfl, _, x, y, z, k1, rfl, rfl, rfl, ?_, ?_, F1⟩
    · rcases jP2 with ⟨_, rfl⟩ | ⟨w, _⟩
      · rw [ecA_0]; exact jP
      · exact absurd hz0 w
    · intro i h8 hi
      rw [up1_n (by omega), up1_n (by omega), up1_n (by omega)]
  have h30 : (fz z = 0 ∨ fz z2 = 0) → vm_T (vm_env l O f9) mX2_add 0 0 30 [(0, .ref C), (1, .ref p), (2, .ref q), (3, .ref r), (4, .ref (A 0))] [] h0 (fun e h' => e = none ∧ ∃ (u' : Nat → Option Int) (x' y' z' : Int), RG 17 A R ni ri h' u' ∧ u' 14 = some x' ∧ u' 15 = some y' ∧ u' 16 = some z' ∧ jr (fz x') (fz y') (fz z') (ecA (-3) fiv P P2) ∧ (∀ i, 8 ≤ i → i < 14 ∨ 16 < i → u' i = u i) ∧ fr h0 h' (AR 17 A R)) := by
    intro hor
    refine vm_go rfl bX2_add_30 oX2_add_30 ⟨_, _, p0, rfl, ⟨(RG_0 k0).choose, (RG_0 k0).choose_spec, 0, 0, _, r_isz k0 (RG_r k0 (i := 10) (by omega) hz), Nat.zero_le _, Nat.zero_le _, ?_⟩⟩
    rintro _ h1 ⟨rfl, rfl⟩
    refine ⟨fun w => ?_, fun w => ?_⟩
    · have w := if10.mp w
      rw [fz_P] at w
      refine vm_go rfl bX2_add_47 oX2_add_47 (vm_go rfl bX2_add_48 oX2_add_48 ⟨_, C0, 0, 0, _, cpP (hor.resolve_left w), Nat.zero_le _, Nat.zero_le _, ?_⟩)
      rintro _ h1 ⟨rfl, k1⟩
      exact ⟨rfl, k1⟩
    · have w := Classical.not_not.mp (fun z => w (if10.mpr z))
      rw [fz_P] at w
      refine vm_go rfl bX2_add_48 oX2_add_48 ⟨_, C0, 0, 0, _, cpQ w, Nat.zero_le _, Nat.zero_le _, ?_⟩
      rintro _ h1 ⟨rfl, k1⟩
      exact ⟨rfl, k1⟩
  refine vm_go rfl bX2_add_0 oX2_add_0 ⟨_, _, C0, rfl, ⟨_, _, p0, rfl, ⟨(RG_0 k0).choose, (RG_0 k0).choose_spec, 0, 0, _, r_isz k0 (RG_r k0 (i := 10) (by omega) hz), Nat.zero_le _, Nat.zero_le _, ?_⟩⟩⟩
  rintro _ h1 ⟨rfl, rfl⟩
  refine ⟨fun w => ?_, fun w => ?_⟩
  · have w := Classical.not_not.mp (fun z => w (if10.mpr z))
    rw [fz_P] at w
    exact h30 (Or.inl w)
  have w := if10.mp w
  rw [fz_P] at w
  refine ⟨_, _, q0, rfl, ⟨(RG_0 k0).choose, (RG_0 k0).choose_spec, 0, 0, _, r_isz k0 (RG_r k0 (i := 13) (by omega) hz2), Nat.zero_le _, Nat.zero_le _, ?_⟩⟩
  rintro _ h1 ⟨rfl, rfl⟩
  refine ⟨fun w2 => ?_, fun w2 => ?_⟩
  rotate_left
  · have w2 := Classical.not_not.mp (fun z => w2 (if10.mpr z))
    rw [fz_P] at w2
    exact h30 (Or.inr w2)
  have w2 := if10.mp w2
  rw [fz_P] at w2
  have J := jr_add cK hP hP2 jP jP2 w w2
  refine c_add1 k0 C0 T0 Tg p0 q0 r0 hx hy hz hx2 hy2 hz2 ?_
  intro h1 u1 k1 F1 e1 u2 u3 u4 u5
  have C1 := AR_ob k0 F1 C0
  have T1 := AR_aa k0 F1 T0
  have p1 := AR_ob k0 F1 p0
  have q1 := AR_ob k0 F1 q0
  have r1 := AR_ob k0 F1 r0
  have eH : fz (x2 * (z * z) - x * (z2 * z2)) = jaH (fz x) (fz z) (fz x2) (fz z2) := by simp only [fz_mul, fz_sub]; rfl
  have eD : fz (y2 * z * (z * z) - y * z2 * (z2 * z2)) = jaD (fz y) (fz z) (fz y2) (fz z2) := by simp only [fz_mul, fz_sub]; rfl
  refine vm_go rfl bX2_add_240 oX2_add_240 ⟨(RG_0 k1).choose, (RG_0 k1).choose_spec, 0, 0, _, r_isz k1 (RG_r k1 (i := 3) (by omega) u3), Nat.zero_le _, Nat.zero_le _, ?_⟩
  rintro _ h2 ⟨rfl, rfl⟩
  refine ⟨fun w3 => ?_, fun w3 => ?_⟩
  · have w3 := if10.mp w3
    rw [fz_P, eH] at w3
    refine vm_post (c_add2 k1 C1 T1 Tg p1 q1 r1 ((e1 8 (by omega)).trans hx) ((e1 9 (by omega)).trans hy) ((e1 10 (by omega)).trans hz) ((e1 11 (by omega)).trans hx2) ((e1 12 (by omega)).trans hy2) ((e1 13 (by omega)).trans hz2) u2 u3 u4 u5) ?_
    rintro _ h3 ⟨rfl, u', x', y', z', k3, a1, a2, a3, b1, b2, b3, un, F3⟩
    refine ⟨rfl, u', x', y', z', k3, a1, a2, a3, ?_, fun i h8 hi => (un i h8 hi).trans (e1 i h8), fr_trans F1 F3⟩
    rw [b1, b2, b3, eH, eD]
    have := J.1 w3
    simp only [fz_mul]
    exact this
  have w3 := Classical.not_not.mp (fun z => w3 (if10.mpr z))
  rw [fz_P, eH] at w3
  refine ⟨(RG_0 k1).choose, (RG_0 k1).choose_spec, 0, 0, _, r_isz k1 (RG_r k1 (i := 5) (by omega) u5), Nat.zero_le _, Nat.zero_le _, ?_⟩
  rintro _ h2 ⟨rfl, rfl⟩
  refine ⟨fun w4 => ?_, fun w4 => ?_⟩
  · have w4 := if10.mp w4
    rw [fz_P, eD] at w4
    have z1 : opd A h2 zr 0 := ⟨fr_nv F1 Z0 Zn, fun e => Zn (Or.inl (Or.inl e))⟩
    refine vm_go rfl bX2_add_269 oX2_add_269 ⟨_, _, C1, rfl, ⟨_, _, r1, rfl, ⟨(RG_0 k1).choose, (RG_0 k1).choose_spec, 0, 0, _, r_copy k1 z1 (c := 16) (by omega), Nat.zero_le _, Nat.zero_le _, ?_⟩⟩⟩
    rintro _ h3 ⟨rfl, k3, F3⟩
    refine vm_go rfl bX2_add_282 oX2_add_282 ⟨rfl, _, x9, y9, 0, k3, ?_, ?_, rfl, ?_, ?_, fr_trans F1 F3⟩
    · rw [up1_n (by omega), e1 _ (by omega)]; exact hx9
    · rw [up1_n (by omega), e1 _ (by omega)]; exact hy9
    · rw [J.2.2 w3 w4, fz_0]
      exact Or.inl ⟨rfl, rfl⟩
    · intro i h8 hi
      rw [up1_n (by omega), e1 i h8]
  · have w4 := Classical.not_not.mp (fun z => w4 (if10.mpr z))
    rw [fz_P, eD] at w4
    have hPQ : P = P2 := J.2.1 w3 w4
    have ks := RG_sub (m' := 14) (s := fun i => if i < 11 then i else i + 3) k1 (fun i hi => by split <;> omega) (fun i j hi hj e => by split at e <;> split at e <;> omega)
    refine ⟨_, C1, 0, 0, _, c_twice (x := x) (y := y) (z := z) ks C1 T1 (fun j hj => by rw [if_pos (by omega)]; exact Tg j hj) p1 r1 (by show u1 8 = _; rw [e1 8 (by omega)]; exact hx) (by show u1 9 = _; rw [e1 9 (by omega)]; exact hy) (by show u1 10 = _; rw [e1 10 (by omega)]; exact hz), Nat.zero_le _, Nat.zero_le _, ?_⟩
    rintro _ h2 ⟨rfl, u2, x', y', z', k2, a1, a2, a3, b1, b2, b3, un, F2⟩
    refine vm_go rfl bX2_add_282 oX2_add_282 ⟨rfl, (fun i => if i < 11 then u2 i else if i < 14 then u i else u2 (i - 3)), x', y', z', ?_, a1, a2, a3, ?_, ?_, fr_trans F1 (fr_mono F2 (AR_sub (fun i hi => by split <;> omega)))⟩
    · refine RG_back k1 k2 F2 (fun i hi => by split <;> omega) (fun i hi => ?_)
      rcases Nat.lt_or_ge i 11 with z1 | z1
      · exact Or.inl ⟨i, by omega, if_pos z1, fun a ha => by rw [if_pos z1] at ha; exact ha⟩
      · rcases Nat.lt_or_ge i 14 with z2 | z2
        · refine Or.inr ⟨fun j hj e => ?_, fun a ha => ?_⟩
          · split at e <;> omega
          · rw [if_neg (by omega), if_pos z2] at ha; rw [e1 i (by omega)]; exact ha
        · refine Or.inl ⟨i - 3, by omega, ?_, fun a ha => ?_⟩
          · rw [if_neg (by omega)]; omega
          · rw [if_neg (by omega), if_neg (by omega)] at ha; exact ha
    · rw [b1, b2, b3]
      have := jr_dbl cK hP jP
      rw [← hPQ] ; exact this
    · intro i h8 hi
      dsimp only
      rcases Nat.lt_or_ge i 11 with z1 | z1
      · rw [if_pos z1, un i h8 (by omega)]
        show u1 (if i < 11 then i else i + 3) = _
        rw [if_pos z1, e1 i h8]
      · rcases Nat.lt_or_ge i 14 with z2 | z2
        · rw [if_neg (by omega), if_pos z2]
        · rw [if_neg (by omega), if_neg (by omega), un (i - 3) (by omega) (by omega)]
          show u1 (if i - 3 < 11 then i - 3 else i - 3 + 3) = _
          rw [if_neg (by omega), show i - 3 + 3 = i by omega, e1 i h8]
theorem c_add_s {A R : Nat → Nat} {ni ri : Nat} {h0 : vm_H} {u : Nat → Option Int} {C T p q r : Nat} {g : Nat → Option Nat} {c1 c2 c4 c5 c6 c7 c8 c9 : Value} {zr : Nat} (k0 : RG 14 A R ni ri h0 u) (C0 : h0.2 C = .inr (2, [.ref (A 0), c1, c2, .ref zr, c4, c5, c6, c7, c8, .ref T, c9])) (T0 : h0.2 T = .inl (.array .long, 8, .inr (.inr (.inr (.inr g))))) (Tg : ∀ j, j < 8 → g j = some (R j)) (p0 : h0.2 p = .inr (8, [.ref (R 8), .ref (R 9), .ref (R 10)])) (q0 : h0.2 q = .inr (8, [.ref (R 11), .ref (R 12), .ref (R 13)])) (r0 : h0.2 r = .inr (8, [.ref (R 8), .ref (R 9), .ref (R 10)])) {x y z x2 y2 z2 x9 y9 : Int} (hx : u 8 = some x) (hy : u 9 = some y) (hz : u 10 = some z) (hx2 : u 11 = some x2) (hy2 : u 12 = some y2) (hz2 : u 13 = some z2) {P P2 : Option (fq × fq)} (hP : ecO (-3) (fz (cB : Int)) P) (hP2 : ecO (-3) (fz (cB : Int)) P2) (jP : jr (fz x) (fz y) (fz z) P) (jP2 : jr (fz x2) (fz y2) (fz z2) P2) (hx9 : u 8 = some x9) (hy9 : u 9 = some y9) (Z0 : mv h0 14 cP zr 0) (Zn : ¬ AR 14 A R zr) :
    vm_Met (vm_env l O f9) mX2_add 0 0 [.ref C, .ref p, .ref q, .ref r] h0 (fun e h' => e = none ∧ ∃ (u' : Nat → Option Int) (x' y' z' : Int), RG 14 A R ni ri h' u' ∧ u' 8 = some x' ∧ u' 9 = some y' ∧ u' 10 = some z' ∧ jr (fz x') (fz y') (fz z') (ecA (-3) fiv P P2) ∧ (∀ i, 8 ≤ i → i < 8 ∨ 10 < i → u' i = u i) ∧ fr h0 h' (AR 14 A R)) := by
  refine vm_met rfl (Nat.le_of_ble_eq_true rfl) ?_
  have cpQ : fz z = 0 → vm_Met (vm_env l O f9) mX2_copyPoint 0 0 [.ref C, .ref q, .ref r] h0 (fun e h' => e = none ∧ ∃ (u' : Nat → Option Int) (x' y' z' : Int), RG 14 A R ni ri h' u' ∧ u' 8 = some x' ∧ u' 9 = some y' ∧ u' 10 = some z' ∧ jr (fz x') (fz y') (fz z') (ecA (-3) fiv P P2) ∧ (∀ i, 8 ≤ i → i < 8 ∨ 10 < i → u' i = u i) ∧ fr h0 h' (AR 14 A R)) := by
    intro hz0
    refine vm_metP (c_cpy (i := 11) (j := 8) k0 C0 q0 r0 (by omega) (by omega) (by omega) hx2 hy2 hz2) ?_
    rintro _ h' ⟨rfl, k1, F1⟩
    refine ⟨rfl, _, x2, y2, z2, k1, rfl, rfl, rfl, ?_, ?_, F1⟩
    · rcases jP with ⟨_, rfl⟩ | ⟨w, _⟩
      · exact jP2
      · exact absurd hz0 w
    · intro i h8 hi
      rw [up1_n (by omega), up1_n (by omega), up1_n (by omega)]
  have cpP : fz z2 = 0 → vm_Met (vm_env l O f9) mX2_copyPoint 0 0 [.ref C, .ref p, .ref r] h0 (fun e h' => e = none ∧ ∃ (u' : Nat → Option Int) (x' y' z' : Int), RG 14 A R ni ri h' u' ∧ u' 8 = some x' ∧ u' 9 = some y' ∧ u' 10 = some z' ∧ jr (fz x') (fz y') (fz z') (ecA (-3) fiv P P2) ∧ (∀ i, 8 ≤ i → i < 8 ∨ 10 < i → u' i = u i) ∧ fr h0 h' (AR 14 A R)) := by
    intro hz0
    refine vm_metP (c_cpy (i := 8) (j := 8) k0 C0 p0 r0 (by omega) (by omega) (by omega) hx hy hz) ?_
    rintro _ h' ⟨rfl, k1, F1⟩
    refine ⟨rfl, _, x, y, z, k1, rfl, rfl, rfl, ?_, ?_, F1⟩
    · rcases jP2 with ⟨_, rfl⟩ | ⟨w, _⟩
      · rw [ecA_0]; exact jP
      · exact absurd hz0 w
    · intro i h8 hi
      rw [up1_n (by omega), up1_n (by omega), up1_n (by omega)]
  have h30 : (fz z = 0 ∨ fz z2 = 0) → vm_T (vm_env l O f9) mX2_add 0 0 30 [(0, .ref C), (1, .ref p), (2, .ref q), (3, .ref r), (4, .ref (A 0))] [] h0 (fun e h' => e = none ∧ ∃ (u' : Nat → Option Int) (x' y' z' : Int), RG 14 A R ni ri h' u' ∧ u' 8 = some x' ∧ u' 9 = some y' ∧ u' 10 = some z' ∧ jr (fz x') (fz y') (fz z') (ecA (-3) fiv P P2) ∧ (∀ i, 8 ≤ i → i < 8 ∨ 10 < i → u' i = u i) ∧ fr h0 h' (AR 14 A R)) := by
    intro hor
    refine vm_go rfl bX2_add_30 oX2_add_30 ⟨_, _, p0, rfl, ⟨(RG_0 k0).choose, (RG_0 k0).choose_spec, 0, 0, _, r_isz k0 (RG_r k0 (i := 10) (by omega) hz), Nat.zero_le _, Nat.zero_le _, ?_⟩⟩
    rintro _ h1 ⟨rfl, rfl⟩
    refine ⟨fun w => ?_, fun w => ?_⟩
    · have w := if10.mp w
      rw [fz_P] at w
      refine vm_go rfl bX2_add_47 oX2_add_47 (vm_go rfl bX2_add_48 oX2_add_48 ⟨_, C0, 0, 0, _, cpP (hor.resolve_left w), Nat.zero_le _, Nat.zero_le _, ?_⟩)
      rintro _ h1 ⟨rfl, k1⟩
      exact ⟨rfl, k1⟩
    · have w := Classical.not_not.mp (fun z => w (if10.mpr z))
      rw [fz_P] at w
      refine vm_go rfl bX2_add_48 oX2_add_48 ⟨_, C0, 0, 0, _, cpQ w, Nat.zero_le _, Nat.zero_le _, ?_⟩
      rintro _ h1 ⟨rfl, k1⟩
      exact ⟨rfl, k1⟩
  refine vm_go rfl bX2_add_0 oX2_add_0 ⟨_, _, C0, rfl, ⟨_, _, p0, rfl, ⟨(RG_0 k0).choose, (RG_0 k0).choose_spec, 0, 0, _, r_isz k0 (RG_r k0 (i := 10) (by omega) hz), Nat.zero_le _, Nat.zero_le _, ?_⟩⟩⟩
  rintro _ h1 ⟨rfl, rfl⟩
  refine ⟨fun w => ?_, fun w => ?_⟩
  · have w := Classical.not_not.mp (fun z => w (if10.mpr z))
    rw [fz_P] at w
    exact h30 (Or.inl w)
  have w := if10.mp w
  rw [fz_P] at w
  refine ⟨_, _, q0, rfl, ⟨(RG_0 k0).choose, (RG_0 k0).choose_spec, 0, 0, _, r_isz k0 (RG_r k0 (i := 13) (by omega) hz2), Nat.zero_le _, Nat.zero_le _, ?_⟩⟩
  rintro _ h1 ⟨rfl, rfl⟩
  refine ⟨fun w2 => ?_, fun w2 => ?_⟩
  rotate_left
  · have w2 := Classical.not_not.mp (fun z => w2 (if10.mpr z))
    rw [fz_P] at w2
    exact h30 (Or.inr w2)
  have w2 := if10.mp w2
  rw [fz_P] at w2
  have J := jr_add cK hP hP2 jP jP2 w w2
  refine c_add1_s k0 C0 T0 Tg p0 q0 r0 hx hy hz hx2 hy2 hz2 ?_
  intro h1 u1 k1 F1 e1 u2 u3 u4 u5
  have C1 := AR_ob k0 F1 C0
  have T1 := AR_aa k0 F1 T0
  have p1 := AR_ob k0 F1 p0
  have q1 := AR_ob k0 F1 q0
  have r1 := AR_ob k0 F1 r0
  have eH : fz (x2 * (z * z) - x * (z2 * z2)) = jaH (fz x) (fz z) (fz x2) (fz z2) := by simp only [fz_mul, fz_sub]; rfl
  have eD : fz (y2 * z * (z * z) - y * z2 * (z2 * z2)) = jaD (fz y) (fz z) (fz y2) (fz z2) := by simp only [fz_mul, fz_sub]; rfl
  refine vm_go rfl bX2_add_240 oX2_add_240 ⟨(RG_0 k1).choose, (RG_0 k1).choose_spec, 0, 0, _, r_isz k1 (RG_r k1 (i := 3) (by omega) u3), Nat.zero_le _, Nat.zero_le _, ?_⟩
  rintro _ h2 ⟨rfl, rfl⟩
  refine ⟨fun w3 => ?_, fun w3 => ?_⟩
  · have w3 := if10.mp w3
    rw [fz_P, eH] at w3
    refine vm_post (c_add2_s k1 C1 T1 Tg p1 q1 r1 ((e1 8 (by omega)).trans hx) ((e1 9 (by omega)).trans hy) ((e1 10 (by omega)).trans hz) ((e1 11 (by omega)).trans hx2) ((e1 12 (by omega)).trans hy2) ((e1 13 (by omega)).trans hz2) u2 u3 u4 u5) ?_
    rintro _ h3 ⟨rfl, u', x', y', z', k3, a1, a2, a3, b1, b2, b3, un, F3⟩
    refine ⟨rfl, u', x', y', z', k3, a1, a2, a3, ?_, fun i h8 hi => (un i h8 hi).trans (e1 i h8), fr_trans F1 F3⟩
    rw [b1, b2, b3, eH, eD]
    have := J.1 w3
    simp only [fz_mul]
    exact this
  have w3 := Classical.not_not.mp (fun z => w3 (if10.mpr z))
  rw [fz_P, eH] at w3
  refine ⟨(RG_0 k1).choose, (RG_0 k1).choose_spec, 0, 0, _, r_isz k1 (RG_r k1 (i := 5) (by omega) u5), Nat.zero_le _, Nat.zero_le _, ?_⟩
  rintro _ h2 ⟨rfl, rfl⟩
  refine ⟨fun w4 => ?_, fun w4 => ?_⟩
  · have w4 := if10.mp w4
    rw [fz_P, eD] at w4
    have z1 : opd A h2 zr 0 := ⟨fr_nv F1 Z0 Zn, fun e => Zn (Or.inl (Or.inl e))⟩
    refine vm_go rfl bX2_add_269 oX2_add_269 ⟨_, _, C1, rfl, ⟨_, _, r1, rfl, ⟨(RG_0 k1).choose, (RG_0 k1).choose_spec, 0, 0, _, r_copy k1 z1 (c := 10) (by omega), Nat.zero_le _, Nat.zero_le _, ?_⟩⟩⟩
    rintro _ h3 ⟨rfl, k3, F3⟩
    refine vm_go rfl bX2_add_282 oX2_add_282 ⟨rfl, _, x9, y9, 0, k3, ?_, ?_, rfl, ?_, ?_, fr_trans F1 F3⟩
    · rw [up1_n (by omega), e1 _ (by omega)]; exact hx9
    · rw [up1_n (by omega), e1 _ (by omega)]; exact hy9
    · rw [J.2.2 w3 w4, fz_0]
      exact Or.inl ⟨rfl, rfl⟩
    · intro i h8 hi
      rw [up1_n (by omega), e1 i h8]
  · have w4 := Classical.not_not.mp (fun z => w4 (if10.mpr z))
    rw [fz_P, eD] at w4
    have hPQ : P = P2 := J.2.1 w3 w4
    have ks := RG_sub (m' := 11) (s := fun i => i) k1 (fun i hi => by omega) (fun i j hi hj e => e)
    refine ⟨_, C1, 0, 0, _, c_twice_s (x := x) (y := y) (z := z) ks C1 T1 Tg p1 r1 (by show u1 8 = _; rw [e1 8 (by omega)]; exact hx) (by show u1 9 = _; rw [e1 9 (by omega)]; exact hy) (by show u1 10 = _; rw [e1 10 (by omega)]; exact hz), Nat.zero_le _, Nat.zero_le _, ?_⟩
    rintro _ h2 ⟨rfl, u2, x', y', z', k2, a1, a2, a3, b1, b2, b3, un, F2⟩
    refine vm_go rfl bX2_add_282 oX2_add_282 ⟨rfl, (fun i => if i < 11 then u2 i else u i), x', y', z', ?_, a1, a2, a3, ?_, ?_, fr_trans F1 (fr_mono F2 (AR_sub (fun i hi => by omega)))⟩
    · refine RG_back k1 k2 F2 (fun i hi => by omega) (fun i hi => ?_)
      rcases Nat.lt_or_ge i 11 with z1 | z1
      · exact Or.inl ⟨i, by omega, rfl, fun a ha => by rw [if_pos z1] at ha; exact ha⟩
      · refine Or.inr ⟨fun j hj e => by omega, fun a ha => ?_⟩
        rw [if_neg (by omega)] at ha; rw [e1 i (by omega)]; exact ha
    · rw [b1, b2, b3]
      have := jr_dbl cK hP jP
      rw [← hPQ] ; exact this
    · intro i h8 hi
      dsimp only
      rw [if_neg (by omega)]
end
