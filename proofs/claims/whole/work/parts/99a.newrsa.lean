/-! new BlindRsa -/
def bX1_initx_0 : List vm_J := [(1, .aload_n 0, 0, 0, 0, .null), (3, .invokespecial 3, 9999, 0, 0, .null), (1, .aload_n 0, 0, 0, 0, .null), (3, .sipush 256, 0, 0, 0, .int 256), (2, .newarray .byte, 0, 0, 0, .null), (3, .putfield 11, 1, 0, 4, .null), (1, .aload_n 0, 0, 0, 0, .null), (3, .sipush 256, 0, 0, 0, .int 256), (2, .newarray .byte, 0, 0, 0, .null), (3, .putfield 15, 1, 1, 4, .null), (1, .aload_n 0, 0, 0, 0, .null), (3, .sipush 256, 0, 0, 0, .int 256), (2, .newarray .byte, 0, 0, 0, .null), (3, .putfield 18, 1, 2, 4, .null), (1, .aload_n 0, 0, 0, 0, .null), (3, .new 21, 4, 0, 0, .null), (1, .dup, 0, 0, 0, .null), (3, .invokespecial 23, 32, 0, 0, .null), (3, .putfield 24, 1, 3, 4, .null), (1, .aload_n 0, 0, 0, 0, .null), (3, .new 28, 9, 0, 0, .null), (1, .dup, 0, 0, 0, .null), (3, .sipush 200, 0, 0, 0, .int 200), (3, .invokespecial 30, 84, 1, 0, .null), (3, .putfield 33, 1, 4, 4, .null)]
set_option maxRecDepth 20000 in
theorem oX1_initx_0 : vm_okB 1 mX1_init 0 bX1_initx_0 = true := by decide +kernel
def bX1_initx_56 : List vm_J := [(1, .aload_n 0, 0, 0, 0, .null), (2, .bipush 48, 0, 0, 0, .int 48), (2, .newarray .byte, 0, 0, 0, .null), (3, .putfield 37, 1, 5, 4, .null), (1, .aload_n 0, 0, 0, 0, .null), (2, .bipush 48, 0, 0, 0, .int 48), (2, .newarray .byte, 0, 0, 0, .null), (3, .putfield 40, 1, 6, 4, .null), (1, .aload_n 0, 0, 0, 0, .null), (3, .sipush 304, 0, 0, 0, .int 304), (2, .newarray .byte, 0, 0, 0, .null), (3, .putfield 43, 1, 7, 4, .null), (1, .aload_n 0, 0, 0, 0, .null), (2, .bipush 48, 0, 0, 0, .int 48), (2, .newarray .byte, 0, 0, 0, .null), (3, .putfield 46, 1, 8, 4, .null), (1, .aload_n 0, 0, 0, 0, .null), (3, .sipush 256, 0, 0, 0, .int 256), (2, .newarray .byte, 0, 0, 0, .null), (3, .putfield 49, 1, 9, 4, .null), (1, .aload_n 0, 0, 0, 0, .null), (3, .sipush 256, 0, 0, 0, .int 256), (2, .newarray .byte, 0, 0, 0, .null), (3, .putfield 52, 1, 10, 4, .null), (1, .aload_n 0, 0, 0, 0, .null), (1, .iconst 3, 0, 0, 0, .int 3), (2, .bipush 74, 0, 0, 0, .int 74), (4, .multianewarray 57 2, 1, 0, 0, .null), (3, .putfield 59, 1, 11, 4, .null), (1, .return_, 0, 0, 0, .null)]
set_option maxRecDepth 20000 in
theorem oX1_initx_56 : vm_okB 1 mX1_init 56 bX1_initx_56 = true := by decide +kernel
section
variable {l : Launch} {O : Nat → vm_Ob} {f9 : Value}
theorem ri_1 {h : vm_H} {a : Nat} {Q : Option Value → vm_H → Prop} (m0 : h.2 a = .inr (1, vm_df 1)) (c0 : h.1 = a + 1) (hh : a + 1000 < 1099511627776) (K : ∀ (h1 : vm_H), h1.1 = a + 12 → h1.2 a = .inr (1, [.ref (a + 1), .ref (a + 2), .ref (a + 3), .ref (a + 4), .ref (a + 10), .null, .null, .null, .null, .null, .null, .null]) → bv h1 256 (a + 1) (fun _ => 0) → bv h1 256 (a + 2) (fun _ => 0) → bv h1 256 (a + 3) (fun _ => 0) → HA h1 (a + 4) (fun i => a + 5 + i) → row h1 (a + 10) (a + 11) 200 (fun _ => 0) 0 → (∀ q, q ≠ a → q < a + 1 ∨ 1099511627776 ≤ q → h1.2 q = h.2 q) → vm_T (vm_env l O f9) mX1_init 10 1185 56 [(0, .ref a)] [] h1 Q) : vm_T (vm_env l O f9) mX1_init 21 2448 0 [(0, .ref a)] [] h Q := by
  refine vm_go rfl bX1_initx_0 oX1_initx_0 ?_
  refine np_B (idx := 0) (N := 256) rfl (by decide) (by decide) (by decide) (by omega) m0 (by omega) (show 0 < 12 by decide) ?_
  rintro h1 ⟨d1, m1, a1, v1⟩
  rw [c0] at d1 m1 a1 v1
  have c1 : h1.1 = a + 2 := by omega
  have m1 : h1.2 a = .inr (1, [.ref (a + 1), .null, .null, .null, .null, .null, .null, .null, .null, .null, .null, .null]) := m1
  have u1 : ∀ q, q ≠ a → q < a + 1 ∨ 1099511627776 ≤ q → h1.2 q = h.2 q := fun q z1 z2 => v1 q z1 (by omega)
  refine np_B (idx := 0) (N := 256) rfl (by decide) (by decide) (by decide) (by omega) m1 (by omega) (show 1 < 12 by decide) ?_
  rintro h2 ⟨d2, m2, a2, v2⟩
  rw [c1] at d2 m2 a2 v2
  have c2 : h2.1 = a + 3 := by omega
  have m2 : h2.2 a = .inr (1, [.ref (a + 1), .ref (a + 2), .null, .null, .null, .null, .null, .null, .null, .null, .null, .null]) := m2
  have u2 : ∀ q, q ≠ a → q < a + 2 ∨ 1099511627776 ≤ q → h2.2 q = h1.2 q := fun q z1 z2 => v2 q z1 (by omega)
  refine np_B (idx := 0) (N := 256) rfl (by decide) (by decide) (by decide) (by omega) m2 (by omega) (show 2 < 12 by decide) ?_
  rintro h3 ⟨d3, m3, a3, v3⟩
  rw [c2] at d3 m3 a3 v3
  have c3 : h3.1 = a + 4 := by omega
  have m3 : h3.2 a = .inr (1, [.ref (a + 1), .ref (a + 2), .ref (a + 3), .null, .null, .null, .null, .null, .null, .null, .null, .null]) := m3
  have u3 : ∀ q, q ≠ a → q < a + 3 ∨ 1099511627776 ≤ q → h3.2 q = h2.2 q := fun q z1 z2 => v3 q z1 (by omega)
  refine ⟨by decide, by decide, by omega, ?_⟩
  generalize hq4 : vm_nw h3 _ = g4
  have gc4 : g4.1 = a + 5 := by rw [← hq4]; show h3.1 + 1 = _; omega
  have ga4 : g4.2 (a + 4) = .inr (4, vm_df 4) := by rw [← hq4, ← c3]; exact nw_e
  have gu4 : ∀ q, q ≠ a + 4 → g4.2 q = h3.2 q := fun q z => by rw [← hq4]; exact nw_n (by omega)
  clear hq4
  rw [c3]
  have gm4 : g4.2 a = .inr (1, [.ref (a + 1), .ref (a + 2), .ref (a + 3), .null, .null, .null, .null, .null, .null, .null, .null, .null]) := (gu4 _ (by omega)).trans m3
  refine ⟨5, 288, _, v_hash ga4 (by omega) (by omega), by decide, by decide, ?_⟩
  rintro _ f4 ⟨rfl, fc4, fH4, fv4⟩
  rw [gc4] at fc4 fH4 fv4
  have fu4 : ∀ q, q ≠ a + 4 → q < a + 5 ∨ 1099511627776 ≤ q → f4.2 q = g4.2 q := fun q z1 z2 => fv4 q z1 (by omega)
  refine np_p (idx := 0) (w := .ref (a + 4)) (k := 3) (tc := 4) ((fu4 _ (by omega) (Or.inl (by omega))).trans gm4) (by omega) (show 3 < 12 by decide) trivial ?_
  intro h4 d4 m4 v4
  have c4 : h4.1 = a + 10 := by omega
  have m4 : h4.2 a = .inr (1, [.ref (a + 1), .ref (a + 2), .ref (a + 3), .ref (a + 4), .null, .null, .null, .null, .null, .null, .null, .null]) := m4
  have u4 : ∀ q, q ≠ a → q < a + 4 ∨ 1099511627776 ≤ q → h4.2 q = h3.2 q := fun q z1 z2 => by rw [v4 q z1, fu4 q (by omega) (by omega), gu4 q (by omega)]
  have H4 : HA h4 (a + 4) (fun i => a + 5 + i) := HA_fr fH4 (v4 _ (by omega)) (fun i hi => v4 _ (by omega))
  refine ⟨by decide, by decide, by omega, ?_⟩
  generalize hq5 : vm_nw h4 _ = g5
  have gc5 : g5.1 = a + 11 := by rw [← hq5]; show h4.1 + 1 = _; omega
  have ga5 : g5.2 (a + 10) = .inr (9, vm_df 9) := by rw [← hq5, ← c4]; exact nw_e
  have gu5 : ∀ q, q ≠ a + 10 → g5.2 q = h4.2 q := fun q z => by rw [← hq5]; exact nw_n (by omega)
  clear hq5
  rw [c4]
  have gm5 : g5.2 a = .inr (1, [.ref (a + 1), .ref (a + 2), .ref (a + 3), .ref (a + 4), .null, .null, .null, .null, .null, .null, .null, .null]) := (gu5 _ (by omega)).trans m4
  refine ⟨1, 200, _, w_init (n := 200) ga5 (by omega) (by decide) (by omega), by decide, by decide, ?_⟩
  rintro _ f5 ⟨rfl, fc5, fr5, fv5⟩
  rw [gc5] at fc5 fr5 fv5
  have fu5 : ∀ q, q ≠ a + 10 → q < a + 11 ∨ 1099511627776 ≤ q → f5.2 q = g5.2 q := fun q z1 z2 => fv5 q z1 (by omega)
  refine np_p (idx := 0) (w := .ref (a + 10)) (k := 4) (tc := 4) ((fu5 _ (by omega) (Or.inl (by omega))).trans gm5) (by omega) (show 4 < 12 by decide) trivial ?_
  intro h5 d5 m5 v5
  have c5 : h5.1 = a + 12 := by omega
  have m5 : h5.2 a = .inr (1, [.ref (a + 1), .ref (a + 2), .ref (a + 3), .ref (a + 4), .ref (a + 10), .null, .null, .null, .null, .null, .null, .null]) := m5
  have u5 : ∀ q, q ≠ a → q < a + 10 ∨ 1099511627776 ≤ q → h5.2 q = h4.2 q := fun q z1 z2 => by rw [v5 q z1, fu5 q (by omega) (by omega), gu5 q (by omega)]
  have w5 : row h5 (a + 10) (a + 11) 200 (fun _ => 0) 0 := ⟨(v5 _ (by omega)).trans fr5.1, bv_cg fr5.2.1 (v5 _ (by omega)), fr5.2.2⟩
  have E5 : ∀ q, q ≠ a → q < a + 12 ∨ 1099511627776 ≤ q → h5.2 q = h5.2 q := fun q _ _ => rfl
  have E4 : ∀ q, q ≠ a → q < a + 10 ∨ 1099511627776 ≤ q → h5.2 q = h4.2 q := fun q z1 z2 => (E5 q z1 (by omega)).trans (u5 q z1 (by omega))
  have E3 : ∀ q, q ≠ a → q < a + 4 ∨ 1099511627776 ≤ q → h5.2 q = h3.2 q := fun q z1 z2 => (E4 q z1 (by omega)).trans (u4 q z1 (by omega))
  have E2 : ∀ q, q ≠ a → q < a + 3 ∨ 1099511627776 ≤ q → h5.2 q = h2.2 q := fun q z1 z2 => (E3 q z1 (by omega)).trans (u3 q z1 (by omega))
  have E1 : ∀ q, q ≠ a → q < a + 2 ∨ 1099511627776 ≤ q → h5.2 q = h1.2 q := fun q z1 z2 => (E2 q z1 (by omega)).trans (u2 q z1 (by omega))
  have E0 : ∀ q, q ≠ a → q < a + 1 ∨ 1099511627776 ≤ q → h5.2 q = h.2 q := fun q z1 z2 => (E1 q z1 (by omega)).trans (u1 q z1 (by omega))
  exact K h5 c5 m5 ⟨_, (E1 (a + 1) (by omega) (Or.inl (by omega))).trans a1, fun i _ => ⟨rfl, show 0 < 256 by decide⟩⟩ ⟨_, (E2 (a + 2) (by omega) (Or.inl (by omega))).trans a2, fun i _ => ⟨rfl, show 0 < 256 by decide⟩⟩ ⟨_, (E3 (a + 3) (by omega) (Or.inl (by omega))).trans a3, fun i _ => ⟨rfl, show 0 < 256 by decide⟩⟩ (HA_fr H4 (E4 _ (by omega) (Or.inl (by omega))) (fun i hi => E4 _ (by omega) (Or.inl (by omega)))) ⟨(E5 (a + 10) (by omega) (Or.inl (by omega))).trans w5.1, bv_cg w5.2.1 (E5 (a + 11) (by omega) (Or.inl (by omega))), w5.2.2⟩ E0
theorem v_rsa {h : vm_H} {a : Nat} (m0 : h.2 a = .inr (1, vm_df 1)) (c0 : h.1 = a + 1) (hh : a + 1000 < 1099511627776) : vm_Met (vm_env l O f9) mX1_init 21 2448 [.ref a] h (fun r h' => r = none ∧ h'.1 = a + 22 ∧ (∃ B, RSc a h' [] B) ∧ (∀ q, q ≠ a → q < a + 1 ∨ 1099511627776 ≤ q → h'.2 q = h.2 q)) := by
  refine vm_met rfl (Nat.le_of_ble_eq_true rfl) ?_
  refine ri_1 m0 c0 hh ?_
  clear m0 c0
  intro h0 c0 m0 b0 b1 b2 hH w0 u0
  refine vm_go rfl bX1_initx_56 oX1_initx_56 ?_
  refine np_B (idx := 0) (N := 48) rfl (by decide) (by decide) (by decide) (by omega) m0 (by omega) (show 5 < 12 by decide) ?_
  rintro h1 ⟨d1, m1, a1, v1⟩
  rw [c0] at d1 m1 a1 v1
  have c1 : h1.1 = a + 13 := by omega
  have m1 : h1.2 a = .inr (1, [.ref (a + 1), .ref (a + 2), .ref (a + 3), .ref (a + 4), .ref (a + 10), .ref (a + 12), .null, .null, .null, .null, .null, .null]) := m1
  have u1 : ∀ q, q ≠ a → q < a + 12 ∨ 1099511627776 ≤ q → h1.2 q = h0.2 q := fun q z1 z2 => v1 q z1 (by omega)
  refine np_B (idx := 0) (N := 48) rfl (by decide) (by decide) (by decide) (by omega) m1 (by omega) (show 6 < 12 by decide) ?_
  rintro h2 ⟨d2, m2, a2, v2⟩
  rw [c1] at d2 m2 a2 v2
  have c2 : h2.1 = a + 14 := by omega
  have m2 : h2.2 a = .inr (1, [.ref (a + 1), .ref (a + 2), .ref (a + 3), .ref (a + 4), .ref (a + 10), .ref (a + 12), .ref (a + 13), .null, .null, .null, .null, .null]) := m2
  have u2 : ∀ q, q ≠ a → q < a + 13 ∨ 1099511627776 ≤ q → h2.2 q = h1.2 q := fun q z1 z2 => v2 q z1 (by omega)
  refine np_B (idx := 0) (N := 304) rfl (by decide) (by decide) (by decide) (by omega) m2 (by omega) (show 7 < 12 by decide) ?_
  rintro h3 ⟨d3, m3, a3, v3⟩
  rw [c2] at d3 m3 a3 v3
  have c3 : h3.1 = a + 15 := by omega
  have m3 : h3.2 a = .inr (1, [.ref (a + 1), .ref (a + 2), .ref (a + 3), .ref (a + 4), .ref (a + 10), .ref (a + 12), .ref (a + 13), .ref (a + 14), .null, .null, .null, .null]) := m3
  have u3 : ∀ q, q ≠ a → q < a + 14 ∨ 1099511627776 ≤ q → h3.2 q = h2.2 q := fun q z1 z2 => v3 q z1 (by omega)
  refine np_B (idx := 0) (N := 48) rfl (by decide) (by decide) (by decide) (by omega) m3 (by omega) (show 8 < 12 by decide) ?_
  rintro h4 ⟨d4, m4, a4, v4⟩
  rw [c3] at d4 m4 a4 v4
  have c4 : h4.1 = a + 16 := by omega
  have m4 : h4.2 a = .inr (1, [.ref (a + 1), .ref (a + 2), .ref (a + 3), .ref (a + 4), .ref (a + 10), .ref (a + 12), .ref (a + 13), .ref (a + 14), .ref (a + 15), .null, .null, .null]) := m4
  have u4 : ∀ q, q ≠ a → q < a + 15 ∨ 1099511627776 ≤ q → h4.2 q = h3.2 q := fun q z1 z2 => v4 q z1 (by omega)
  refine np_B (idx := 0) (N := 256) rfl (by decide) (by decide) (by decide) (by omega) m4 (by omega) (show 9 < 12 by decide) ?_
  rintro h5 ⟨d5, m5, a5, v5⟩
  rw [c4] at d5 m5 a5 v5
  have c5 : h5.1 = a + 17 := by omega
  have m5 : h5.2 a = .inr (1, [.ref (a + 1), .ref (a + 2), .ref (a + 3), .ref (a + 4), .ref (a + 10), .ref (a + 12), .ref (a + 13), .ref (a + 14), .ref (a + 15), .ref (a + 16), .null, .null]) := m5
  have u5 : ∀ q, q ≠ a → q < a + 16 ∨ 1099511627776 ≤ q → h5.2 q = h4.2 q := fun q z1 z2 => v5 q z1 (by omega)
  refine np_B (idx := 0) (N := 256) rfl (by decide) (by decide) (by decide) (by omega) m5 (by omega) (show 10 < 12 by decide) ?_
  rintro h6 ⟨d6, m6, a6, v6⟩
  rw [c5] at d6 m6 a6 v6
  have c6 : h6.1 = a + 18 := by omega
  have m6 : h6.2 a = .inr (1, [.ref (a + 1), .ref (a + 2), .ref (a + 3), .ref (a + 4), .ref (a + 10), .ref (a + 12), .ref (a + 13), .ref (a + 14), .ref (a + 15), .ref (a + 16), .ref (a + 17), .null]) := m6
  have u6 : ∀ q, q ≠ a → q < a + 17 ∨ 1099511627776 ≤ q → h6.2 q = h5.2 q := fun q z1 z2 => v6 q z1 (by omega)
  refine ⟨3, 74, rfl, rfl, by decide, by decide, by decide, by decide, by omega, ?_⟩
  generalize hq7 : vm_nm h6 3 _ _ = g7
  have gm7 : g7.2 a = .inr (1, [.ref (a + 1), .ref (a + 2), .ref (a + 3), .ref (a + 4), .ref (a + 10), .ref (a + 12), .ref (a + 13), .ref (a + 14), .ref (a + 15), .ref (a + 16), .ref (a + 17), .null]) := by
    rw [← hq7]
    show (if a = h6.1 then _ else if h6.1 < a ∧ a ≤ h6.1 + 3 then _ else h6.2 a) = _
    rw [if_neg (by omega), if_neg (by omega)]; exact m6
  have gc7 : g7.1 = a + 22 := by rw [← hq7]; show h6.1 + 1 + 3 = _; omega
  have ga7 : g7.2 (a + 18) = .inl (.array .long, 3, .inr (.inr (.inr (.inr (fun j => if j < 3 then some (a + 18 + 1 + j) else none))))) := by
    rw [← hq7, ← c6]; exact if_pos rfl
  have gr7 : ∀ i, i < 3 → g7.2 (a + 18 + 1 + i) = .inl (.long, 74, .inr (.inl (fun _ => 0))) := by
    intro i hi
    rw [← hq7, ← c6]
    show (if h6.1 + 1 + i = h6.1 then _ else if h6.1 < h6.1 + 1 + i ∧ h6.1 + 1 + i ≤ h6.1 + 3 then _ else _) = _
    rw [if_neg (by omega), if_pos (by omega)]
  have gu7 : ∀ q, q < a + 18 ∨ a + 22 ≤ q → g7.2 q = h6.2 q := by
    intro q hq2
    rw [← hq7]
    show (if q = h6.1 then _ else if h6.1 < q ∧ q ≤ h6.1 + 3 then _ else h6.2 q) = _
    rw [if_neg (by omega), if_neg (by omega)]
  clear hq7
  rw [c6]
  refine np_p (idx := 0) (w := .ref (a + 18)) (k := 11) (tc := 4) gm7 (by omega) (show 11 < 12 by decide) trivial ?_
  intro h7 d7 m7 v7
  have c7 : h7.1 = a + 22 := by omega
  have m7 : h7.2 a = .inr (1, [.ref (a + 1), .ref (a + 2), .ref (a + 3), .ref (a + 4), .ref (a + 10), .ref (a + 12), .ref (a + 13), .ref (a + 14), .ref (a + 15), .ref (a + 16), .ref (a + 17), .ref (a + 18)]) := m7
  have a7 : h7.2 (a + 18) = _ := (v7 _ (by omega)).trans ga7
  have r7 : ∀ i, i < 3 → h7.2 (a + 18 + 1 + i) = _ := fun i hi => (v7 _ (by omega)).trans (gr7 i hi)
  have u7 : ∀ q, q ≠ a → q < a + 18 ∨ 1099511627776 ≤ q → h7.2 q = h6.2 q := fun q z1 z2 => by rw [v7 q z1, gu7 q (by omega)]
  have E7 : ∀ q, q ≠ a → q < a + 22 ∨ 1099511627776 ≤ q → h7.2 q = h7.2 q := fun q _ _ => rfl
  have E6 : ∀ q, q ≠ a → q < a + 18 ∨ 1099511627776 ≤ q → h7.2 q = h6.2 q := fun q z1 z2 => (E7 q z1 (by omega)).trans (u7 q z1 (by omega))
  have E5 : ∀ q, q ≠ a → q < a + 17 ∨ 1099511627776 ≤ q → h7.2 q = h5.2 q := fun q z1 z2 => (E6 q z1 (by omega)).trans (u6 q z1 (by omega))
  have E4 : ∀ q, q ≠ a → q < a + 16 ∨ 1099511627776 ≤ q → h7.2 q = h4.2 q := fun q z1 z2 => (E5 q z1 (by omega)).trans (u5 q z1 (by omega))
  have E3 : ∀ q, q ≠ a → q < a + 15 ∨ 1099511627776 ≤ q → h7.2 q = h3.2 q := fun q z1 z2 => (E4 q z1 (by omega)).trans (u4 q z1 (by omega))
  have E2 : ∀ q, q ≠ a → q < a + 14 ∨ 1099511627776 ≤ q → h7.2 q = h2.2 q := fun q z1 z2 => (E3 q z1 (by omega)).trans (u3 q z1 (by omega))
  have E1 : ∀ q, q ≠ a → q < a + 13 ∨ 1099511627776 ≤ q → h7.2 q = h1.2 q := fun q z1 z2 => (E2 q z1 (by omega)).trans (u2 q z1 (by omega))
  have E0 : ∀ q, q ≠ a → q < a + 12 ∨ 1099511627776 ≤ q → h7.2 q = h0.2 q := fun q z1 z2 => (E1 q z1 (by omega)).trans (u1 q z1 (by omega))
  refine ⟨rfl, c7, ⟨fun _ _ => 0, hh, m7, ?_, ⟨fun _ => 0, ⟨(E0 (a + 10) (by omega) (Or.inl (by omega))).trans w0.1, bv_cg w0.2.1 (E0 (a + 11) (by omega) (Or.inl (by omega))), w0.2.2⟩, rfl⟩, HA_fr hH (E0 _ (by omega) (Or.inl (by omega))) (fun i hi => E0 _ (by omega) (Or.inl (by omega))), (E7 (a + 18) (by omega) (Or.inl (by omega))).trans a7, ?_⟩, fun q z1 z2 => ?_⟩
  · intro j hj
    rcases (show j = 0 ∨ j = 1 ∨ j = 2 ∨ j = 3 ∨ j = 4 ∨ j = 5 ∨ j = 6 ∨ j = 7 ∨ j = 8 by omega) with rfl | rfl | rfl | rfl | rfl | rfl | rfl | rfl | rfl
    · exact bv_cg b0 (E0 (a + 1) (by omega) (Or.inl (by omega)))
    · exact bv_cg b1 (E0 (a + 2) (by omega) (Or.inl (by omega)))
    · exact bv_cg b2 (E0 (a + 3) (by omega) (Or.inl (by omega)))
    · exact ⟨_, (E1 (a + 12) (by omega) (Or.inl (by omega))).trans a1, fun i _ => ⟨rfl, show 0 < 256 by decide⟩⟩
    · exact ⟨_, (E2 (a + 13) (by omega) (Or.inl (by omega))).trans a2, fun i _ => ⟨rfl, show 0 < 256 by decide⟩⟩
    · exact ⟨_, (E3 (a + 14) (by omega) (Or.inl (by omega))).trans a3, fun i _ => ⟨rfl, show 0 < 256 by decide⟩⟩
    · exact ⟨_, (E4 (a + 15) (by omega) (Or.inl (by omega))).trans a4, fun i _ => ⟨rfl, show 0 < 256 by decide⟩⟩
    · exact ⟨_, (E5 (a + 16) (by omega) (Or.inl (by omega))).trans a5, fun i _ => ⟨rfl, show 0 < 256 by decide⟩⟩
    · exact ⟨_, (E6 (a + 17) (by omega) (Or.inl (by omega))).trans a6, fun i _ => ⟨rfl, show 0 < 256 by decide⟩⟩
  · intro j hj
    have := (E7 (a + 18 + 1 + j) (by omega) (Or.inl (by omega))).trans (r7 j hj)
    rw [show a + 19 + j = a + 18 + 1 + j by omega]
    exact ⟨0, ⟨_, this, fun i _ => by unfold dg; rw [Nat.zero_div]; rfl⟩, Nat.pow_pos (by decide)⟩
  · rw [E0 q z1 (by omega), u0 q z1 z2]
end
