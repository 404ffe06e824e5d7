/-! new Oprf -/
theorem x3_d {i j : Nat} (h : 151 ≤ i) (hj : j < 3) : (14 + 3 * i + j - 467) / 3 = i - 151 ∧ (14 + 3 * i + j - 467) % 3 = j := by
  obtain ⟨n, rfl⟩ : ∃ n, i = 151 + n := ⟨i - 151, by omega⟩
  rw [show 14 + 3 * (151 + n) + j - 467 = 3 * n + j by omega, show 151 + n - 151 = n by omega]
  omega
theorem CA_ext {h h' : vm_H} {e C ni ri e2 : Nat} {g : Nat → Option (Option (fq × fq))} (k : CA 151 (XC e C ni ri e2) h g) (h2 : e + 648 ≤ e2) (ho : e2 + 20 < 1099511627776) (hC : C < e) (hk : ∀ q, q = C ∨ (e ≤ q ∧ q < e + 647) → h'.2 q = h.2 q) (hp : ∀ i, i < 3 → h'.2 (e2 + 4 * i) = .inr (8, [.ref (e2 + 4 * i + 1), .ref (e2 + 4 * i + 2), .ref (e2 + 4 * i + 3)]) ∧ ∀ j, j < 3 → h'.2 (e2 + 4 * i + 1 + j) = .inl (.long, 14, .inr (.inl (fun _ => 0)))) :
    CA 154 (XC e C ni ri e2) h' (fun i => if i < 151 then g i else some none) := by
  obtain ⟨u, k⟩ := k
  have k := CAu_cg k (h' := h') (fun q hq => hk q (XC_own h2 hq))
  obtain ⟨⟨k1, k2, k3, k4, k5⟩, ⟨s1, s2, s3, s4, s5⟩, c, kp⟩ := k
  have xr : ∀ i, i < 900 → XC e C ni ri e2 (100 + i) = XR e e2 i := fun i hi => XC_R hi
  have xA : ∀ i, i < 24 → XC e C ni ri e2 i = Am e (e + 2) i := fun i hi => XC_A hi
  have xb : ∀ i, 467 ≤ i → XR e e2 i = e2 + 4 * ((i - 467) / 3) + 1 + (i - 467) % 3 := fun i hi => by
    unfold XR
    rw [if_neg (by omega), if_neg (by omega), if_neg (by omega), if_neg (by omega)]
  have zr : ∀ i, 467 ≤ i → i < 476 → h'.2 (XC e C ni ri e2 (100 + i)) = .inl (.long, 14, .inr (.inl (fun _ => 0))) := by
    intro i h1 h3
    rw [xr i (by omega), xb i h1]
    exact (hp ((i - 467) / 3) (by omega)).2 ((i - 467) % 3) (by omega)
  refine ⟨fun i => if i < 467 then u i else some 0, ⟨k1, k2, ?_, ?_, ?_⟩, ⟨s1, s2, s3, ?_, s5⟩, ?_, ?_⟩
  · intro i j hi hj z
    have z : XC e C ni ri e2 (100 + i) = XC e C ni ri e2 (100 + j) := z
    rw [xr i (by omega), xr j (by omega)] at z
    exact XR_inj h2 i j (by omega) (by omega) z
  · intro i hi
    rcases Nat.lt_or_ge i 467 with q | q
    · exact k4 i (by omega)
    · have e1 := xb i q
      refine ⟨⟨fun j hj => ?_, ?_⟩, fun j hj => ?_⟩
      · show XC e C ni ri e2 (100 + i) ≠ _
        rw [xr i (by omega), xA j (by omega), e1]
        have := Am_r (e := e) (i := j) (by omega); omega
      · show XC e C ni ri e2 (100 + i) < _
        rw [xr i (by omega), e1]; omega
      · show XC e C ni ri e2 (100 + i) ≠ _
        rw [xr i (by omega), xA (8 + j) (by omega), e1]
        have := Am_r (e := e) (i := 8 + j) (by omega); omega
  · intro i hi
    rcases Nat.lt_or_ge i 467 with q | q
    · refine ⟨(k5 i (by omega)).1, fun b hb => ?_⟩
      have hb : (if i < 467 then u i else some 0) = some b := hb
      rw [if_pos q] at hb
      exact (k5 i (by omega)).2 b hb
    · refine ⟨⟨_, zr i q (by omega)⟩, fun b hb => ?_⟩
      have hb : (if i < 467 then u i else some 0) = some b := hb
      rw [if_neg (by omega)] at hb
      cases hb
      exact mv_0 (zr i q (by omega))
  · intro i hi
    rcases Nat.lt_or_ge i 151 with q | q
    · exact s4 i q
    · have := (hp (i - 151) (by omega)).1
      rw [XC_W, xr _ (by omega), xr _ (by omega), xr _ (by omega), xb _ (by omega), xb _ (by omega), xb _ (by omega)]
      unfold XW
      rw [if_neg (by omega), if_neg (by omega), this]
      have a1 := (x3_d (i := i) (j := 0) q (by decide)).1
      have d1 := (x3_d (i := i) (j := 0) q (by decide)).2
      rw [Nat.add_zero] at a1 d1
      have a2 := (x3_d (i := i) (j := 1) q (by decide)).1
      have d2 := (x3_d (i := i) (j := 1) q (by decide)).2
      have a3 := (x3_d (i := i) (j := 2) q (by decide)).1
      have d3 := (x3_d (i := i) (j := 2) q (by decide)).2
      rw [a1, a2, a3, d1, d2, d3]
  · exact CC_cg c (fun i _ h14 => by show (if i < 467 then u i else some 0) = _; rw [if_pos (by omega)])
  · intro i hi p hpp
    have hpp : (if i < 151 then g i else some none) = some p := hpp
    rcases Nat.lt_or_ge i 151 with q | q
    · rw [if_pos q] at hpp
      obtain ⟨x, y, z, a1, a2, a3, a4⟩ := kp i q p hpp
      refine ⟨x, y, z, ?_, ?_, ?_, a4⟩
      · show (if _ < 467 then _ else _) = _
        rw [if_pos (by omega)]; exact a1
      · show (if _ < 467 then _ else _) = _
        rw [if_pos (by omega)]; exact a2
      · show (if _ < 467 then _ else _) = _
        rw [if_pos (by omega)]; exact a3
    · rw [if_neg (by omega)] at hpp
      cases hpp
      refine ⟨0, 0, 0, ?_, ?_, ?_, Or.inl ⟨fz_0, rfl⟩, trivial⟩
      · show (if _ < 467 then _ else _) = _
        rw [if_neg (by omega)]
      · show (if _ < 467 then _ else _) = _
        rw [if_neg (by omega)]
      · show (if _ < 467 then _ else _) = _
        rw [if_neg (by omega)]
/-- the Strings of the curve and of its order -/
def SV (h : vm_H) : Prop := sto h 1099511627806 (2 * 48) tP ∧ sto h 1099511627808 (2 * 48) tR ∧ sto h 1099511627810 (2 * 48) tB ∧ sto h 1099511627812 (2 * 49) tG ∧ sto h 1099511627814 (2 * 48) tQ
theorem SV_fr {h h' : vm_H} (k : SV h) (e : ∀ q, 1099511627776 ≤ q → h'.2 q = h.2 q) : SV h' := by
  obtain ⟨k1, k2, k3, k4, k5⟩ := k
  exact ⟨sto_fr k1 e, sto_fr k2 e, sto_fr k3 e, sto_fr k4 e, sto_fr k5 e⟩
theorem AQ_b {a i : Nat} (h : i < 24) (h5 : i ≠ 5) : AQ a i ≠ a ∧ AQ a i < a + 685 := by
  have := AQ_r5 (a := a) h h5
  omega
theorem cQ_odd : cQ % 2 = 1 := by decide +kernel

/-! code of the constructor in pieces -/
def bX7_initx_0 : List vm_J := [(1, .aload_n 0, 0, 0, 0, .null), (3, .invokespecial 3, 9999, 0, 0, .null), (1, .aload_n 0, 0, 0, 0, .null), (2, .bipush 49, 0, 0, 0, .int 49), (2, .newarray .byte, 0, 0, 0, .null), (3, .putfield 9, 7, 0, 4, .null), (1, .aload_n 0, 0, 0, 0, .null), (2, .bipush 48, 0, 0, 0, .int 48), (2, .newarray .byte, 0, 0, 0, .null), (3, .putfield 15, 7, 1, 4, .null), (1, .aload_n 0, 0, 0, 0, .null), (2, .bipush 48, 0, 0, 0, .int 48), (2, .newarray .byte, 0, 0, 0, .null), (3, .putfield 18, 7, 2, 4, .null), (1, .aload_n 0, 0, 0, 0, .null), (3, .new 21, 9, 0, 0, .null), (1, .dup, 0, 0, 0, .null), (3, .sipush 488, 0, 0, 0, .int 488), (3, .invokespecial 23, 84, 1, 0, .null), (3, .putfield 26, 7, 3, 4, .null), (1, .aload_n 0, 0, 0, 0, .null), (3, .new 30, 4, 0, 0, .null), (1, .dup, 0, 0, 0, .null), (3, .invokespecial 32, 32, 0, 0, .null), (3, .putfield 33, 7, 4, 4, .null), (1, .aload_n 0, 0, 0, 0, .null), (3, .new 37, 2, 0, 0, .null), (1, .dup, 0, 0, 0, .null), (3, .invokespecial 39, 14, 0, 0, .null), (3, .putfield 40, 7, 5, 4, .null)]
set_option maxRecDepth 20000 in
theorem oX7_initx_0 : vm_okB 7 mX7_init 0 bX7_initx_0 = true := by decide +kernel
def bX7_initx_64 : List vm_J := [(1, .aload_n 0, 0, 0, 0, .null), (3, .new 44, 6, 0, 0, .null), (1, .dup, 0, 0, 0, .null), (2, .ldc 46, 0, 0, 0, .ref 1099511627814), (3, .invokestatic 48, 15, 1, 0, .null), (1, .iconst 0, 0, 0, 0, .int 0), (2, .bipush 48, 0, 0, 0, .int 48), (3, .invokespecial 52, 41, 3, 0, .null), (3, .putfield 55, 7, 6, 4, .null), (1, .aload_n 0, 0, 0, 0, .null), (3, .new 21, 9, 0, 0, .null), (1, .dup, 0, 0, 0, .null), (3, .sipush 300, 0, 0, 0, .int 300), (3, .invokespecial 23, 84, 1, 0, .null), (3, .putfield 59, 7, 7, 4, .null), (1, .aload_n 0, 0, 0, 0, .null), (3, .new 21, 9, 0, 0, .null), (1, .dup, 0, 0, 0, .null), (3, .sipush 600, 0, 0, 0, .int 600), (3, .invokespecial 23, 84, 1, 0, .null), (3, .putfield 62, 7, 8, 4, .null)]
set_option maxRecDepth 20000 in
theorem oX7_initx_64 : vm_okB 7 mX7_init 64 bX7_initx_64 = true := by decide +kernel
def bX7_initx_111 : List vm_J := [(1, .aload_n 0, 0, 0, 0, .null), (2, .bipush 48, 0, 0, 0, .int 48), (2, .newarray .byte, 0, 0, 0, .null), (3, .putfield 65, 7, 9, 4, .null), (1, .aload_n 0, 0, 0, 0, .null), (2, .bipush 48, 0, 0, 0, .int 48), (2, .newarray .byte, 0, 0, 0, .null), (3, .putfield 68, 7, 10, 4, .null), (1, .aload_n 0, 0, 0, 0, .null), (3, .sipush 144, 0, 0, 0, .int 144), (2, .newarray .byte, 0, 0, 0, .null), (3, .putfield 71, 7, 11, 4, .null), (1, .aload_n 0, 0, 0, 0, .null), (3, .sipush 392, 0, 0, 0, .int 392), (2, .newarray .byte, 0, 0, 0, .null), (3, .putfield 74, 7, 12, 4, .null), (1, .aload_n 0, 0, 0, 0, .null), (3, .sipush 384, 0, 0, 0, .int 384), (2, .newarray .byte, 0, 0, 0, .null), (3, .putfield 77, 7, 13, 4, .null), (1, .aload_n 0, 0, 0, 0, .null), (2, .bipush 96, 0, 0, 0, .int 96), (2, .newarray .byte, 0, 0, 0, .null), (3, .putfield 80, 7, 14, 4, .null), (1, .aload_n 0, 0, 0, 0, .null), (3, .sipush 245, 0, 0, 0, .int 245), (2, .newarray .byte, 0, 0, 0, .null), (3, .putfield 83, 7, 15, 4, .null)]
set_option maxRecDepth 20000 in
theorem oX7_initx_111 : vm_okB 7 mX7_init 111 bX7_initx_111 = true := by decide +kernel
def bX7_initx_171 : List vm_J := [(1, .aload_n 0, 0, 0, 0, .null), (1, .iconst 2, 0, 0, 0, .int 2), (1, .aload_n 0, 0, 0, 0, .null), (3, .getfield 55, 7, 6, 0, .null), (3, .getfield 86, 6, 0, 0, .null), (4, .multianewarray 90 2, 1, 0, 0, .null), (3, .putfield 92, 7, 16, 4, .null), (1, .aload_n 0, 0, 0, 0, .null), (3, .new 95, 8, 0, 0, .null), (1, .dup, 0, 0, 0, .null), (1, .aload_n 0, 0, 0, 0, .null), (3, .getfield 40, 7, 5, 0, .null), (3, .getfield 97, 2, 0, 0, .null), (3, .getfield 101, 3, 0, 0, .null), (3, .invokespecial 104, 83, 1, 0, .null), (3, .putfield 105, 7, 17, 4, .null), (1, .aload_n 0, 0, 0, 0, .null), (3, .new 95, 8, 0, 0, .null), (1, .dup, 0, 0, 0, .null), (1, .aload_n 0, 0, 0, 0, .null), (3, .getfield 40, 7, 5, 0, .null), (3, .getfield 97, 2, 0, 0, .null), (3, .getfield 101, 3, 0, 0, .null), (3, .invokespecial 104, 83, 1, 0, .null), (3, .putfield 109, 7, 18, 4, .null), (1, .aload_n 0, 0, 0, 0, .null), (3, .new 95, 8, 0, 0, .null), (1, .dup, 0, 0, 0, .null), (1, .aload_n 0, 0, 0, 0, .null), (3, .getfield 40, 7, 5, 0, .null), (3, .getfield 97, 2, 0, 0, .null), (3, .getfield 101, 3, 0, 0, .null), (3, .invokespecial 104, 83, 1, 0, .null), (3, .putfield 112, 7, 19, 4, .null), (1, .return_, 0, 0, 0, .null)]
set_option maxRecDepth 20000 in
theorem oX7_initx_171 : vm_okB 7 mX7_init 171 bX7_initx_171 = true := by decide +kernel
section
variable {l : Launch} {O : Nat → vm_Ob} {f9 : Value}
theorem oi_1 {h : vm_H} {a : Nat} {Q : Option Value → vm_H → Prop} (h9 : f9.category = 1) (m0 : h.2 a = .inr (7, vm_df 7)) (c0 : h.1 = a + 1) (hh : a + 3000 < 1099511627776) (sv : SV h) (K : ∀ (h1 : vm_H) (ni ri : Nat), h1.1 = a + 661 → h1.2 a = .inr (7, [.ref (a + 1), .ref (a + 2), .ref (a + 3), .ref (a + 4), .ref (a + 6), .ref (a + 12), .null, .null, .null, .null, .null, .null, .null, .null, .null, .null, .null, .null, .null, .null]) → bv h1 49 (a + 1) (fun _ => 0) → bv h1 48 (a + 2) (fun _ => 0) → bv h1 48 (a + 3) (fun _ => 0) → row h1 (a + 4) (a + 5) 488 (fun _ => 0) 0 → HA h1 (a + 6) (fun i => a + 7 + i) → CA 151 (XC (a + 13) (a + 12) ni ri (a + 699)) h1 (gup (fun _ => some none) 0 (some gP)) → (∀ q, q ≠ a → q < a + 1 ∨ 1099511627776 ≤ q → h1.2 q = h.2 q) → vm_T (vm_env l O f9) mX7_init 50 2792 64 [(0, .ref a)] [] h1 Q) : vm_T (vm_env l O f9) mX7_init 710 11420 0 [(0, .ref a)] [] h Q := by
  refine vm_go rfl bX7_initx_0 oX7_initx_0 ?_
  refine np_B (idx := 0) (N := 49) rfl (by decide) (by decide) (by decide) (by omega) m0 (by omega) (show 0 < 20 by decide) ?_
  rintro h1 ⟨d1, m1, a1, v1⟩
  rw [c0] at d1 m1 a1 v1
  have c1 : h1.1 = a + 2 := by omega
  have m1 : h1.2 a = .inr (7, [.ref (a + 1), .null, .null, .null, .null, .null, .null, .null, .null, .null, .null, .null, .null, .null, .null, .null, .null, .null, .null, .null]) := m1
  have u1 : ∀ q, q ≠ a → q < a + 1 ∨ 1099511627776 ≤ q → h1.2 q = h.2 q := fun q z1 z2 => v1 q z1 (by omega)
  refine np_B (idx := 0) (N := 48) rfl (by decide) (by decide) (by decide) (by omega) m1 (by omega) (show 1 < 20 by decide) ?_
  rintro h2 ⟨d2, m2, a2, v2⟩
  rw [c1] at d2 m2 a2 v2
  have c2 : h2.1 = a + 3 := by omega
  have m2 : h2.2 a = .inr (7, [.ref (a + 1), .ref (a + 2), .null, .null, .null, .null, .null, .null, .null, .null, .null, .null, .null, .null, .null, .null, .null, .null, .null, .null]) := m2
  have u2 : ∀ q, q ≠ a → q < a + 2 ∨ 1099511627776 ≤ q → h2.2 q = h1.2 q := fun q z1 z2 => v2 q z1 (by omega)
  refine np_B (idx := 0) (N := 48) rfl (by decide) (by decide) (by decide) (by omega) m2 (by omega) (show 2 < 20 by decide) ?_
  rintro h3 ⟨d3, m3, a3, v3⟩
  rw [c2] at d3 m3 a3 v3
  have c3 : h3.1 = a + 4 := by omega
  have m3 : h3.2 a = .inr (7, [.ref (a + 1), .ref (a + 2), .ref (a + 3), .null, .null, .null, .null, .null, .null, .null, .null, .null, .null, .null, .null, .null, .null, .null, .null, .null]) := m3
  have u3 : ∀ q, q ≠ a → q < a + 3 ∨ 1099511627776 ≤ q → h3.2 q = h2.2 q := fun q z1 z2 => v3 q z1 (by omega)
  refine ⟨by decide, by decide, by omega, ?_⟩
  generalize hq4 : vm_nw h3 _ = g4
  have gc4 : g4.1 = a + 5 := by rw [← hq4]; show h3.1 + 1 = _; omega
  have ga4 : g4.2 (a + 4) = .inr (9, vm_df 9) := by rw [← hq4, ← c3]; exact nw_e
  have gu4 : ∀ q, q ≠ a + 4 → g4.2 q = h3.2 q := fun q z => by rw [← hq4]; exact nw_n (by omega)
  clear hq4
  rw [c3]
  have gm4 : g4.2 a = .inr (7, [.ref (a + 1), .ref (a + 2), .ref (a + 3), .null, .null, .null, .null, .null, .null, .null, .null, .null, .null, .null, .null, .null, .null, .null, .null, .null]) := (gu4 _ (by omega)).trans m3
  refine ⟨1, 488, _, w_init (n := 488) ga4 (by omega) (by decide) (by omega), by decide, by decide, ?_⟩
  rintro _ f4 ⟨rfl, fc4, fr4, fv4⟩
  rw [gc4] at fc4 fr4 fv4
  have fu4 : ∀ q, q ≠ a + 4 → q < a + 5 ∨ 1099511627776 ≤ q → f4.2 q = g4.2 q := fun q z1 z2 => fv4 q z1 (by omega)
  refine np_p (idx := 0) (w := .ref (a + 4)) (k := 3) (tc := 4) ((fu4 _ (by omega) (Or.inl (by omega))).trans gm4) (by omega) (show 3 < 20 by decide) trivial ?_
  intro h4 d4 m4 v4
  have c4 : h4.1 = a + 6 := by omega
  have m4 : h4.2 a = .inr (7, [.ref (a + 1), .ref (a + 2), .ref (a + 3), .ref (a + 4), .null, .null, .null, .null, .null, .null, .null, .null, .null, .null, .null, .null, .null, .null, .null, .null]) := m4
  have u4 : ∀ q, q ≠ a → q < a + 4 ∨ 1099511627776 ≤ q → h4.2 q = h3.2 q := fun q z1 z2 => by rw [v4 q z1, fu4 q (by omega) (by omega), gu4 q (by omega)]
  have w4 : row h4 (a + 4) (a + 5) 488 (fun _ => 0) 0 := ⟨(v4 _ (by omega)).trans fr4.1, bv_cg fr4.2.1 (v4 _ (by omega)), fr4.2.2⟩
  refine ⟨by decide, by decide, by omega, ?_⟩
  generalize hq5 : vm_nw h4 _ = g5
  have gc5 : g5.1 = a + 7 := by rw [← hq5]; show h4.1 + 1 = _; omega
  have ga5 : g5.2 (a + 6) = .inr (4, vm_df 4) := by rw [← hq5, ← c4]; exact nw_e
  have gu5 : ∀ q, q ≠ a + 6 → g5.2 q = h4.2 q := fun q z => by rw [← hq5]; exact nw_n (by omega)
  clear hq5
  rw [c4]
  have gm5 : g5.2 a = .inr (7, [.ref (a + 1), .ref (a + 2), .ref (a + 3), .ref (a + 4), .null, .null, .null, .null, .null, .null, .null, .null, .null, .null, .null, .null, .null, .null, .null, .null]) := (gu5 _ (by omega)).trans m4
  refine ⟨5, 288, _, v_hash ga5 (by omega) (by omega), by decide, by decide, ?_⟩
  rintro _ f5 ⟨rfl, fc5, fH5, fv5⟩
  rw [gc5] at fc5 fH5 fv5
  have fu5 : ∀ q, q ≠ a + 6 → q < a + 7 ∨ 1099511627776 ≤ q → f5.2 q = g5.2 q := fun q z1 z2 => fv5 q z1 (by omega)
  refine np_p (idx := 0) (w := .ref (a + 6)) (k := 4) (tc := 4) ((fu5 _ (by omega) (Or.inl (by omega))).trans gm5) (by omega) (show 4 < 20 by decide) trivial ?_
  intro h5 d5 m5 v5
  have c5 : h5.1 = a + 12 := by omega
  have m5 : h5.2 a = .inr (7, [.ref (a + 1), .ref (a + 2), .ref (a + 3), .ref (a + 4), .ref (a + 6), .null, .null, .null, .null, .null, .null, .null, .null, .null, .null, .null, .null, .null, .null, .null]) := m5
  have u5 : ∀ q, q ≠ a → q < a + 6 ∨ 1099511627776 ≤ q → h5.2 q = h4.2 q := fun q z1 z2 => by rw [v5 q z1, fu5 q (by omega) (by omega), gu5 q (by omega)]
  have H5 : HA h5 (a + 6) (fun i => a + 7 + i) := HA_fr fH5 (v5 _ (by omega)) (fun i hi => v5 _ (by omega))
  have sv5 : SV h5 := SV_fr sv (fun q hq => by rw [u5 q (by omega) (Or.inr hq), u4 q (by omega) (Or.inr hq), u3 q (by omega) (Or.inr hq), u2 q (by omega) (Or.inr hq), u1 q (by omega) (Or.inr hq)])
  refine ⟨by decide, by decide, by omega, ?_⟩
  generalize hq6 : vm_nw h5 _ = g6
  have gc6 : g6.1 = a + 13 := by rw [← hq6]; show h5.1 + 1 = _; omega
  have ga6 : g6.2 (a + 12) = .inr (2, vm_df 2) := by rw [← hq6, ← c5]; exact nw_e
  have gu6 : ∀ q, q ≠ a + 12 → g6.2 q = h5.2 q := fun q z => by rw [← hq6]; exact nw_n (by omega)
  clear hq6
  rw [c5]
  have gm6 : g6.2 a = .inr (7, [.ref (a + 1), .ref (a + 2), .ref (a + 3), .ref (a + 4), .ref (a + 6), .null, .null, .null, .null, .null, .null, .null, .null, .null, .null, .null, .null, .null, .null, .null]) := (gu6 _ (by omega)).trans m5
  refine ⟨648, 7689, _, v_curve (e2 := a + 699) (by omega) (by omega) h9 ga6 (by omega) (by omega) (sto_fr sv5.1 (fun q hq => gu6 q (by omega))) (sto_fr sv5.2.1 (fun q hq => gu6 q (by omega))) (sto_fr sv5.2.2.1 (fun q hq => gu6 q (by omega))) (sto_fr sv5.2.2.2.1 (fun q hq => gu6 q (by omega))), by decide, by decide, ?_⟩
  rintro _ f6 ⟨rfl, fc6, ⟨ni, ri, fC6⟩, fv6⟩
  rw [gc6] at fc6 fC6 fv6
  have fu6 : ∀ q, q ≠ a + 12 → q < a + 13 ∨ 1099511627776 ≤ q → f6.2 q = g6.2 q := fun q z1 z2 => fv6 q (by omega) z1
  refine np_p (idx := 0) (w := .ref (a + 12)) (k := 5) (tc := 4) ((fu6 _ (by omega) (Or.inl (by omega))).trans gm6) (by omega) (show 5 < 20 by decide) trivial ?_
  intro h6 d6 m6 v6
  have c6 : h6.1 = a + 661 := by omega
  have m6 : h6.2 a = .inr (7, [.ref (a + 1), .ref (a + 2), .ref (a + 3), .ref (a + 4), .ref (a + 6), .ref (a + 12), .null, .null, .null, .null, .null, .null, .null, .null, .null, .null, .null, .null, .null, .null]) := m6
  have u6 : ∀ q, q ≠ a → q < a + 12 ∨ 1099511627776 ≤ q → h6.2 q = h5.2 q := fun q z1 z2 => by rw [v6 q z1, fu6 q (by omega) (by omega), gu6 q (by omega)]
  have cc6 : CA 151 (XC (a + 13) (a + 12) ni ri (a + 699)) h6 (gup (fun _ => some none) 0 (some gP)) := by
    obtain ⟨u, fC6⟩ := fC6
    exact ⟨u, CAu_cg fC6 (fun q hq => v6 q (by have := XC_own (by omega) hq; omega))⟩
  have E6 : ∀ q, q ≠ a → q < a + 661 ∨ 1099511627776 ≤ q → h6.2 q = h6.2 q := fun q _ _ => rfl
  have E5 : ∀ q, q ≠ a → q < a + 12 ∨ 1099511627776 ≤ q → h6.2 q = h5.2 q := fun q z1 z2 => (E6 q z1 (by omega)).trans (u6 q z1 (by omega))
  have E4 : ∀ q, q ≠ a → q < a + 6 ∨ 1099511627776 ≤ q → h6.2 q = h4.2 q := fun q z1 z2 => (E5 q z1 (by omega)).trans (u5 q z1 (by omega))
  have E3 : ∀ q, q ≠ a → q < a + 4 ∨ 1099511627776 ≤ q → h6.2 q = h3.2 q := fun q z1 z2 => (E4 q z1 (by omega)).trans (u4 q z1 (by omega))
  have E2 : ∀ q, q ≠ a → q < a + 3 ∨ 1099511627776 ≤ q → h6.2 q = h2.2 q := fun q z1 z2 => (E3 q z1 (by omega)).trans (u3 q z1 (by omega))
  have E1 : ∀ q, q ≠ a → q < a + 2 ∨ 1099511627776 ≤ q → h6.2 q = h1.2 q := fun q z1 z2 => (E2 q z1 (by omega)).trans (u2 q z1 (by omega))
  have E0 : ∀ q, q ≠ a → q < a + 1 ∨ 1099511627776 ≤ q → h6.2 q = h.2 q := fun q z1 z2 => (E1 q z1 (by omega)).trans (u1 q z1 (by omega))
  exact K h6 ni ri c6 m6 ⟨_, (E1 (a + 1) (by omega) (Or.inl (by omega))).trans a1, fun i _ => ⟨rfl, show 0 < 256 by decide⟩⟩ ⟨_, (E2 (a + 2) (by omega) (Or.inl (by omega))).trans a2, fun i _ => ⟨rfl, show 0 < 256 by decide⟩⟩ ⟨_, (E3 (a + 3) (by omega) (Or.inl (by omega))).trans a3, fun i _ => ⟨rfl, show 0 < 256 by decide⟩⟩ ⟨(E4 (a + 4) (by omega) (Or.inl (by omega))).trans w4.1, bv_cg w4.2.1 (E4 (a + 5) (by omega) (Or.inl (by omega))), w4.2.2⟩ (HA_fr H5 (E5 _ (by omega) (Or.inl (by omega))) (fun i hi => E5 _ (by omega) (Or.inl (by omega)))) cc6 E0
theorem oi_2 {h : vm_H} {a : Nat} {Q : Option Value → vm_H → Prop} (h9 : f9.category = 1) (m0 : h.2 a = .inr (7, [.ref (a + 1), .ref (a + 2), .ref (a + 3), .ref (a + 4), .ref (a + 6), .ref (a + 12), .null, .null, .null, .null, .null, .null, .null, .null, .null, .null, .null, .null, .null, .null])) (c0 : h.1 = a + 661) (hh : a + 3000 < 1099511627776) (sq : sto h 1099511627814 (2 * 48) tQ) (K : ∀ (h1 : vm_H) (nq rq : Nat), h1.1 = a + 689 → h1.2 a = .inr (7, [.ref (a + 1), .ref (a + 2), .ref (a + 3), .ref (a + 4), .ref (a + 6), .ref (a + 12), .ref (a + 661), .ref (a + 685), .ref (a + 687), .null, .null, .null, .null, .null, .null, .null, .null, .null, .null, .null]) → MP (AQ a) 6 14 cQ nq rq → MD h1 (AQ a) 6 14 cQ nq → row h1 (a + 685) (a + 686) 300 (fun _ => 0) 0 → row h1 (a + 687) (a + 688) 600 (fun _ => 0) 0 → (∀ q, q ≠ a → q < a + 661 ∨ 1099511627776 ≤ q → h1.2 q = h.2 q) → vm_T (vm_env l O f9) mX7_init 22 1522 111 [(0, .ref a)] [] h1 Q) : vm_T (vm_env l O f9) mX7_init 50 2792 64 [(0, .ref a)] [] h Q := by
  refine vm_go rfl bX7_initx_64 oX7_initx_64 ?_
  refine ⟨by decide, by decide, by omega, ?_⟩
  generalize hq1 : vm_nw h _ = g1
  have gc1 : g1.1 = a + 662 := by rw [← hq1]; show h.1 + 1 = _; omega
  have ga1 : g1.2 (a + 661) = .inr (6, vm_df 6) := by rw [← hq1, ← c0]; exact nw_e
  have gu1 : ∀ q, q ≠ a + 661 → g1.2 q = h.2 q := fun q z => by rw [← hq1]; exact nw_n (by omega)
  clear hq1
  rw [c0]
  have gm1 : g1.2 a = .inr (7, [.ref (a + 1), .ref (a + 2), .ref (a + 3), .ref (a + 4), .ref (a + 6), .ref (a + 12), .null, .null, .null, .null, .null, .null, .null, .null, .null, .null, .null, .null, .null, .null]) := (gu1 _ (by omega)).trans m0
  have sq1 : sto g1 1099511627814 (2 * 48) tQ := sto_fr sq (fun q hq => gu1 q (by omega))
  refine ⟨1, 48, _, s_hexo h9 sq1 (by decide) tQ_ok (by omega), by decide, by decide, ?_⟩
  rintro _ e1 ⟨rfl, ec1, eb1, eu1⟩
  rw [gc1] at ec1 eb1 eu1
  rw [gc1]
  refine ⟨22, 310, _, v_new6 (L := 14) (at9 := 0) (size := 48) ((eu1 _ (by omega)).trans ga1) (by omega) eb1 (Or.inl (by omega)) (by decide) (by decide) (by decide) (by decide) (by omega) (by rw [tQ_n]; exact cQ_odd) (by rw [tQ_n]; decide +kernel) rfl, by decide, by decide, ?_⟩
  rintro _ f1 ⟨rfl, fc1, ⟨nq, rq, fP1, fM1⟩, fv1⟩
  rw [tQ_n] at fP1 fM1
  rw [ec1] at fc1 fP1 fM1 fv1
  have fu1 : ∀ q, q ≠ a + 661 → q < a + 662 ∨ 1099511627776 ≤ q → f1.2 q = g1.2 q := fun q z1 z2 => by rw [fv1 q (by omega) z1, eu1 q (by omega)]
  refine np_p (idx := 0) (w := .ref (a + 661)) (k := 6) (tc := 4) ((fu1 _ (by omega) (Or.inl (by omega))).trans gm1) (by omega) (show 6 < 20 by decide) trivial ?_
  intro h1 d1 m1 v1
  have c1 : h1.1 = a + 685 := by omega
  have m1 : h1.2 a = .inr (7, [.ref (a + 1), .ref (a + 2), .ref (a + 3), .ref (a + 4), .ref (a + 6), .ref (a + 12), .ref (a + 661), .null, .null, .null, .null, .null, .null, .null, .null, .null, .null, .null, .null, .null]) := m1
  have u1 : ∀ q, q ≠ a → q < a + 661 ∨ 1099511627776 ≤ q → h1.2 q = h.2 q := fun q z1 z2 => by rw [v1 q z1, fu1 q (by omega) (by omega), gu1 q (by omega)]
  have M1 : MD h1 (AQ a) 6 14 cQ nq := MD_cg fM1 (fun i hi h5 => v1 _ (AQ_b hi (h5.resolve_right (by decide))).1)
  refine ⟨by decide, by decide, by omega, ?_⟩
  generalize hq2 : vm_nw h1 _ = g2
  have gc2 : g2.1 = a + 686 := by rw [← hq2]; show h1.1 + 1 = _; omega
  have ga2 : g2.2 (a + 685) = .inr (9, vm_df 9) := by rw [← hq2, ← c1]; exact nw_e
  have gu2 : ∀ q, q ≠ a + 685 → g2.2 q = h1.2 q := fun q z => by rw [← hq2]; exact nw_n (by omega)
  clear hq2
  rw [c1]
  have gm2 : g2.2 a = .inr (7, [.ref (a + 1), .ref (a + 2), .ref (a + 3), .ref (a + 4), .ref (a + 6), .ref (a + 12), .ref (a + 661), .null, .null, .null, .null, .null, .null, .null, .null, .null, .null, .null, .null, .null]) := (gu2 _ (by omega)).trans m1
  refine ⟨1, 300, _, w_init (n := 300) ga2 (by omega) (by decide) (by omega), by decide, by decide, ?_⟩
  rintro _ f2 ⟨rfl, fc2, fr2, fv2⟩
  rw [gc2] at fc2 fr2 fv2
  have fu2 : ∀ q, q ≠ a + 685 → q < a + 686 ∨ 1099511627776 ≤ q → f2.2 q = g2.2 q := fun q z1 z2 => fv2 q z1 (by omega)
  refine np_p (idx := 0) (w := .ref (a + 685)) (k := 7) (tc := 4) ((fu2 _ (by omega) (Or.inl (by omega))).trans gm2) (by omega) (show 7 < 20 by decide) trivial ?_
  intro h2 d2 m2 v2
  have c2 : h2.1 = a + 687 := by omega
  have m2 : h2.2 a = .inr (7, [.ref (a + 1), .ref (a + 2), .ref (a + 3), .ref (a + 4), .ref (a + 6), .ref (a + 12), .ref (a + 661), .ref (a + 685), .null, .null, .null, .null, .null, .null, .null, .null, .null, .null, .null, .null]) := m2
  have u2 : ∀ q, q ≠ a → q < a + 685 ∨ 1099511627776 ≤ q → h2.2 q = h1.2 q := fun q z1 z2 => by rw [v2 q z1, fu2 q (by omega) (by omega), gu2 q (by omega)]
  have w2 : row h2 (a + 685) (a + 686) 300 (fun _ => 0) 0 := ⟨(v2 _ (by omega)).trans fr2.1, bv_cg fr2.2.1 (v2 _ (by omega)), fr2.2.2⟩
  refine ⟨by decide, by decide, by omega, ?_⟩
  generalize hq3 : vm_nw h2 _ = g3
  have gc3 : g3.1 = a + 688 := by rw [← hq3]; show h2.1 + 1 = _; omega
  have ga3 : g3.2 (a + 687) = .inr (9, vm_df 9) := by rw [← hq3, ← c2]; exact nw_e
  have gu3 : ∀ q, q ≠ a + 687 → g3.2 q = h2.2 q := fun q z => by rw [← hq3]; exact nw_n (by omega)
  clear hq3
  rw [c2]
  have gm3 : g3.2 a = .inr (7, [.ref (a + 1), .ref (a + 2), .ref (a + 3), .ref (a + 4), .ref (a + 6), .ref (a + 12), .ref (a + 661), .ref (a + 685), .null, .null, .null, .null, .null, .null, .null, .null, .null, .null, .null, .null]) := (gu3 _ (by omega)).trans m2
  refine ⟨1, 600, _, vm_metA (w_init (n := 600) ga3 (by omega) (by decide) (by omega)) (by show [_, Value.int (nI 600)] = [_, Value.int 600]; rw [show nI 600 = (600 : Int32) by decide]), by decide, by decide, ?_⟩
  rintro _ f3 ⟨rfl, fc3, fr3, fv3⟩
  rw [gc3] at fc3 fr3 fv3
  have fu3 : ∀ q, q ≠ a + 687 → q < a + 688 ∨ 1099511627776 ≤ q → f3.2 q = g3.2 q := fun q z1 z2 => fv3 q z1 (by omega)
  refine np_p (idx := 0) (w := .ref (a + 687)) (k := 8) (tc := 4) ((fu3 _ (by omega) (Or.inl (by omega))).trans gm3) (by omega) (show 8 < 20 by decide) trivial ?_
  intro h3 d3 m3 v3
  have c3 : h3.1 = a + 689 := by omega
  have m3 : h3.2 a = .inr (7, [.ref (a + 1), .ref (a + 2), .ref (a + 3), .ref (a + 4), .ref (a + 6), .ref (a + 12), .ref (a + 661), .ref (a + 685), .ref (a + 687), .null, .null, .null, .null, .null, .null, .null, .null, .null, .null, .null]) := m3
  have u3 : ∀ q, q ≠ a → q < a + 687 ∨ 1099511627776 ≤ q → h3.2 q = h2.2 q := fun q z1 z2 => by rw [v3 q z1, fu3 q (by omega) (by omega), gu3 q (by omega)]
  have w3 : row h3 (a + 687) (a + 688) 600 (fun _ => 0) 0 := ⟨(v3 _ (by omega)).trans fr3.1, bv_cg fr3.2.1 (v3 _ (by omega)), fr3.2.2⟩
  have E3 : ∀ q, q ≠ a → q < a + 689 ∨ 1099511627776 ≤ q → h3.2 q = h3.2 q := fun q _ _ => rfl
  have E2 : ∀ q, q ≠ a → q < a + 687 ∨ 1099511627776 ≤ q → h3.2 q = h2.2 q := fun q z1 z2 => (E3 q z1 (by omega)).trans (u3 q z1 (by omega))
  have E1 : ∀ q, q ≠ a → q < a + 685 ∨ 1099511627776 ≤ q → h3.2 q = h1.2 q := fun q z1 z2 => (E2 q z1 (by omega)).trans (u2 q z1 (by omega))
  have E0 : ∀ q, q ≠ a → q < a + 661 ∨ 1099511627776 ≤ q → h3.2 q = h.2 q := fun q z1 z2 => (E1 q z1 (by omega)).trans (u1 q z1 (by omega))
  exact K h3 nq rq c3 m3 fP1 (MD_cg M1 (fun i hi h5 => E1 _ (AQ_b hi (h5.resolve_right (by decide))).1 (Or.inl (AQ_b hi (h5.resolve_right (by decide))).2))) ⟨(E2 (a + 685) (by omega) (Or.inl (by omega))).trans w2.1, bv_cg w2.2.1 (E2 (a + 686) (by omega) (Or.inl (by omega))), w2.2.2⟩ ⟨(E3 (a + 687) (by omega) (Or.inl (by omega))).trans w3.1, bv_cg w3.2.1 (E3 (a + 688) (by omega) (Or.inl (by omega))), w3.2.2⟩ E0
theorem oi_3 {h : vm_H} {a : Nat} {Q : Option Value → vm_H → Prop} (m0 : h.2 a = .inr (7, [.ref (a + 1), .ref (a + 2), .ref (a + 3), .ref (a + 4), .ref (a + 6), .ref (a + 12), .ref (a + 661), .ref (a + 685), .ref (a + 687), .null, .null, .null, .null, .null, .null, .null, .null, .null, .null, .null])) (c0 : h.1 = a + 689) (hh : a + 3000 < 1099511627776) (K : ∀ (h1 : vm_H), h1.1 = a + 696 → h1.2 a = .inr (7, [.ref (a + 1), .ref (a + 2), .ref (a + 3), .ref (a + 4), .ref (a + 6), .ref (a + 12), .ref (a + 661), .ref (a + 685), .ref (a + 687), .ref (a + 689), .ref (a + 690), .ref (a + 691), .ref (a + 692), .ref (a + 693), .ref (a + 694), .ref (a + 695), .null, .null, .null, .null]) → bv h1 48 (a + 689) (fun _ => 0) → bv h1 48 (a + 690) (fun _ => 0) → bv h1 144 (a + 691) (fun _ => 0) → bv h1 392 (a + 692) (fun _ => 0) → bv h1 384 (a + 693) (fun _ => 0) → bv h1 96 (a + 694) (fun _ => 0) → bv h1 245 (a + 695) (fun _ => 0) → (∀ q, q ≠ a → q < a + 689 ∨ 1099511627776 ≤ q → h1.2 q = h.2 q) → vm_T (vm_env l O f9) mX7_init 15 165 171 [(0, .ref a)] [] h1 Q) : vm_T (vm_env l O f9) mX7_init 22 1522 111 [(0, .ref a)] [] h Q := by
  refine vm_go rfl bX7_initx_111 oX7_initx_111 ?_
  refine np_B (idx := 0) (N := 48) rfl (by decide) (by decide) (by decide) (by omega) m0 (by omega) (show 9 < 20 by decide) ?_
  rintro h1 ⟨d1, m1, a1, v1⟩
  rw [c0] at d1 m1 a1 v1
  have c1 : h1.1 = a + 690 := by omega
  have m1 : h1.2 a = .inr (7, [.ref (a + 1), .ref (a + 2), .ref (a + 3), .ref (a + 4), .ref (a + 6), .ref (a + 12), .ref (a + 661), .ref (a + 685), .ref (a + 687), .ref (a + 689), .null, .null, .null, .null, .null, .null, .null, .null, .null, .null]) := m1
  have u1 : ∀ q, q ≠ a → q < a + 689 ∨ 1099511627776 ≤ q → h1.2 q = h.2 q := fun q z1 z2 => v1 q z1 (by omega)
  refine np_B (idx := 0) (N := 48) rfl (by decide) (by decide) (by decide) (by omega) m1 (by omega) (show 10 < 20 by decide) ?_
  rintro h2 ⟨d2, m2, a2, v2⟩
  rw [c1] at d2 m2 a2 v2
  have c2 : h2.1 = a + 691 := by omega
  have m2 : h2.2 a = .inr (7, [.ref (a + 1), .ref (a + 2), .ref (a + 3), .ref (a + 4), .ref (a + 6), .ref (a + 12), .ref (a + 661), .ref (a + 685), .ref (a + 687), .ref (a + 689), .ref (a + 690), .null, .null, .null, .null, .null, .null, .null, .null, .null]) := m2
  have u2 : ∀ q, q ≠ a → q < a + 690 ∨ 1099511627776 ≤ q → h2.2 q = h1.2 q := fun q z1 z2 => v2 q z1 (by omega)
  refine np_B (idx := 0) (N := 144) rfl (by decide) (by decide) (by decide) (by omega) m2 (by omega) (show 11 < 20 by decide) ?_
  rintro h3 ⟨d3, m3, a3, v3⟩
  rw [c2] at d3 m3 a3 v3
  have c3 : h3.1 = a + 692 := by omega
  have m3 : h3.2 a = .inr (7, [.ref (a + 1), .ref (a + 2), .ref (a + 3), .ref (a + 4), .ref (a + 6), .ref (a + 12), .ref (a + 661), .ref (a + 685), .ref (a + 687), .ref (a + 689), .ref (a + 690), .ref (a + 691), .null, .null, .null, .null, .null, .null, .null, .null]) := m3
  have u3 : ∀ q, q ≠ a → q < a + 691 ∨ 1099511627776 ≤ q → h3.2 q = h2.2 q := fun q z1 z2 => v3 q z1 (by omega)
  refine np_B (idx := 0) (N := 392) rfl (by decide) (by decide) (by decide) (by omega) m3 (by omega) (show 12 < 20 by decide) ?_
  rintro h4 ⟨d4, m4, a4, v4⟩
  rw [c3] at d4 m4 a4 v4
  have c4 : h4.1 = a + 693 := by omega
  have m4 : h4.2 a = .inr (7, [.ref (a + 1), .ref (a + 2), .ref (a + 3), .ref (a + 4), .ref (a + 6), .ref (a + 12), .ref (a + 661), .ref (a + 685), .ref (a + 687), .ref (a + 689), .ref (a + 690), .ref (a + 691), .ref (a + 692), .null, .null, .null, .null, .null, .null, .null]) := m4
  have u4 : ∀ q, q ≠ a → q < a + 692 ∨ 1099511627776 ≤ q → h4.2 q = h3.2 q := fun q z1 z2 => v4 q z1 (by omega)
  refine np_B (idx := 0) (N := 384) rfl (by decide) (by decide) (by decide) (by omega) m4 (by omega) (show 13 < 20 by decide) ?_
  rintro h5 ⟨d5, m5, a5, v5⟩
  rw [c4] at d5 m5 a5 v5
  have c5 : h5.1 = a + 694 := by omega
  have m5 : h5.2 a = .inr (7, [.ref (a + 1), .ref (a + 2), .ref (a + 3), .ref (a + 4), .ref (a + 6), .ref (a + 12), .ref (a + 661), .ref (a + 685), .ref (a + 687), .ref (a + 689), .ref (a + 690), .ref (a + 691), .ref (a + 692), .ref (a + 693), .null, .null, .null, .null, .null, .null]) := m5
  have u5 : ∀ q, q ≠ a → q < a + 693 ∨ 1099511627776 ≤ q → h5.2 q = h4.2 q := fun q z1 z2 => v5 q z1 (by omega)
  refine np_B (idx := 0) (N := 96) rfl (by decide) (by decide) (by decide) (by omega) m5 (by omega) (show 14 < 20 by decide) ?_
  rintro h6 ⟨d6, m6, a6, v6⟩
  rw [c5] at d6 m6 a6 v6
  have c6 : h6.1 = a + 695 := by omega
  have m6 : h6.2 a = .inr (7, [.ref (a + 1), .ref (a + 2), .ref (a + 3), .ref (a + 4), .ref (a + 6), .ref (a + 12), .ref (a + 661), .ref (a + 685), .ref (a + 687), .ref (a + 689), .ref (a + 690), .ref (a + 691), .ref (a + 692), .ref (a + 693), .ref (a + 694), .null, .null, .null, .null, .null]) := m6
  have u6 : ∀ q, q ≠ a → q < a + 694 ∨ 1099511627776 ≤ q → h6.2 q = h5.2 q := fun q z1 z2 => v6 q z1 (by omega)
  refine np_B (idx := 0) (N := 245) rfl (by decide) (by decide) (by decide) (by omega) m6 (by omega) (show 15 < 20 by decide) ?_
  rintro h7 ⟨d7, m7, a7, v7⟩
  rw [c6] at d7 m7 a7 v7
  have c7 : h7.1 = a + 696 := by omega
  have m7 : h7.2 a = .inr (7, [.ref (a + 1), .ref (a + 2), .ref (a + 3), .ref (a + 4), .ref (a + 6), .ref (a + 12), .ref (a + 661), .ref (a + 685), .ref (a + 687), .ref (a + 689), .ref (a + 690), .ref (a + 691), .ref (a + 692), .ref (a + 693), .ref (a + 694), .ref (a + 695), .null, .null, .null, .null]) := m7
  have u7 : ∀ q, q ≠ a → q < a + 695 ∨ 1099511627776 ≤ q → h7.2 q = h6.2 q := fun q z1 z2 => v7 q z1 (by omega)
  have E7 : ∀ q, q ≠ a → q < a + 696 ∨ 1099511627776 ≤ q → h7.2 q = h7.2 q := fun q _ _ => rfl
  have E6 : ∀ q, q ≠ a → q < a + 695 ∨ 1099511627776 ≤ q → h7.2 q = h6.2 q := fun q z1 z2 => (E7 q z1 (by omega)).trans (u7 q z1 (by omega))
  have E5 : ∀ q, q ≠ a → q < a + 694 ∨ 1099511627776 ≤ q → h7.2 q = h5.2 q := fun q z1 z2 => (E6 q z1 (by omega)).trans (u6 q z1 (by omega))
  have E4 : ∀ q, q ≠ a → q < a + 693 ∨ 1099511627776 ≤ q → h7.2 q = h4.2 q := fun q z1 z2 => (E5 q z1 (by omega)).trans (u5 q z1 (by omega))
  have E3 : ∀ q, q ≠ a → q < a + 692 ∨ 1099511627776 ≤ q → h7.2 q = h3.2 q := fun q z1 z2 => (E4 q z1 (by omega)).trans (u4 q z1 (by omega))
  have E2 : ∀ q, q ≠ a → q < a + 691 ∨ 1099511627776 ≤ q → h7.2 q = h2.2 q := fun q z1 z2 => (E3 q z1 (by omega)).trans (u3 q z1 (by omega))
  have E1 : ∀ q, q ≠ a → q < a + 690 ∨ 1099511627776 ≤ q → h7.2 q = h1.2 q := fun q z1 z2 => (E2 q z1 (by omega)).trans (u2 q z1 (by omega))
  have E0 : ∀ q, q ≠ a → q < a + 689 ∨ 1099511627776 ≤ q → h7.2 q = h.2 q := fun q z1 z2 => (E1 q z1 (by omega)).trans (u1 q z1 (by omega))
  exact K h7 c7 m7 ⟨_, (E1 (a + 689) (by omega) (Or.inl (by omega))).trans a1, fun i _ => ⟨rfl, show 0 < 256 by decide⟩⟩ ⟨_, (E2 (a + 690) (by omega) (Or.inl (by omega))).trans a2, fun i _ => ⟨rfl, show 0 < 256 by decide⟩⟩ ⟨_, (E3 (a + 691) (by omega) (Or.inl (by omega))).trans a3, fun i _ => ⟨rfl, show 0 < 256 by decide⟩⟩ ⟨_, (E4 (a + 692) (by omega) (Or.inl (by omega))).trans a4, fun i _ => ⟨rfl, show 0 < 256 by decide⟩⟩ ⟨_, (E5 (a + 693) (by omega) (Or.inl (by omega))).trans a5, fun i _ => ⟨rfl, show 0 < 256 by decide⟩⟩ ⟨_, (E6 (a + 694) (by omega) (Or.inl (by omega))).trans a6, fun i _ => ⟨rfl, show 0 < 256 by decide⟩⟩ ⟨_, (E7 (a + 695) (by omega) (Or.inl (by omega))).trans a7, fun i _ => ⟨rfl, show 0 < 256 by decide⟩⟩ E0
theorem oi_4 {h : vm_H} {a : Nat} {ff fq9 : List Value} {Q : Option Value → vm_H → Prop} (m0 : h.2 a = .inr (7, [.ref (a + 1), .ref (a + 2), .ref (a + 3), .ref (a + 4), .ref (a + 6), .ref (a + 12), .ref (a + 661), .ref (a + 685), .ref (a + 687), .ref (a + 689), .ref (a + 690), .ref (a + 691), .ref (a + 692), .ref (a + 693), .ref (a + 694), .ref (a + 695), .null, .null, .null, .null])) (c0 : h.1 = a + 696) (hh : a + 3000 < 1099511627776) (co0 : h.2 (a + 12) = .inr (2, [.ref (a + 13), .ref (a + 38), .ref (a + 42), .ref (a + 43), .ref (a + 44), .ref (a + 45), .ref (a + 46), .ref (a + 47), .ref (a + 48), .ref (a + 49), .ref (a + 58)])) (fo0 : h.2 (a + 13) = .inr (3, ff)) (fl0 : ff[0]? = some (.int (nI 14))) (qo0 : h.2 (a + 661) = .inr (6, fq9)) (ql0 : fq9[0]? = some (.int (nI 14))) (K : ∀ (h1 : vm_H), h1.1 = a + 711 → h1.2 a = .inr (7, [.ref (a + 1), .ref (a + 2), .ref (a + 3), .ref (a + 4), .ref (a + 6), .ref (a + 12), .ref (a + 661), .ref (a + 685), .ref (a + 687), .ref (a + 689), .ref (a + 690), .ref (a + 691), .ref (a + 692), .ref (a + 693), .ref (a + 694), .ref (a + 695), .ref (a + 696), .ref (a + 699), .ref (a + 703), .ref (a + 707)]) → h1.2 (a + 696) = .inl (.array .long, 2, .inr (.inr (.inr (.inr (fun j => if j < 2 then some (a + 696 + 1 + j) else none))))) → (∀ i, i < 2 → h1.2 (a + 696 + 1 + i) = .inl (.long, 14, .inr (.inl (fun _ => 0)))) → (∀ i, i < 3 → h1.2 (a + 699 + 4 * i) = .inr (8, [.ref (a + 699 + 4 * i + 1), .ref (a + 699 + 4 * i + 2), .ref (a + 699 + 4 * i + 3)]) ∧ ∀ j, j < 3 → h1.2 (a + 699 + 4 * i + 1 + j) = .inl (.long, 14, .inr (.inl (fun _ => 0)))) → (∀ q, q ≠ a → q < a + 696 ∨ 1099511627776 ≤ q → h1.2 q = h.2 q) → Q none h1) : vm_T (vm_env l O f9) mX7_init 15 165 171 [(0, .ref a)] [] h Q := by
  refine vm_go rfl bX7_initx_171 oX7_initx_171 ?_
  refine ⟨_, _, m0, rfl, ⟨_, _, qo0, ql0, ⟨2, 14, rfl, rfl, by decide, by decide, by decide, by decide, by omega, ?_⟩⟩⟩
  generalize hq1 : vm_nm h 2 _ _ = g1
  have gm1 : g1.2 a = .inr (7, [.ref (a + 1), .ref (a + 2), .ref (a + 3), .ref (a + 4), .ref (a + 6), .ref (a + 12), .ref (a + 661), .ref (a + 685), .ref (a + 687), .ref (a + 689), .ref (a + 690), .ref (a + 691), .ref (a + 692), .ref (a + 693), .ref (a + 694), .ref (a + 695), .null, .null, .null, .null]) := by
    rw [← hq1]
    show (if a = h.1 then _ else if h.1 < a ∧ a ≤ h.1 + 2 then _ else h.2 a) = _
    rw [if_neg (by omega), if_neg (by omega)]; exact m0
  have gc1 : g1.1 = a + 699 := by rw [← hq1]; show h.1 + 1 + 2 = _; omega
  have ga1 : g1.2 (a + 696) = .inl (.array .long, 2, .inr (.inr (.inr (.inr (fun j => if j < 2 then some (a + 696 + 1 + j) else none))))) := by
    rw [← hq1, ← c0]; exact if_pos rfl
  have gr1 : ∀ i, i < 2 → g1.2 (a + 696 + 1 + i) = .inl (.long, 14, .inr (.inl (fun _ => 0))) := by
    intro i hi
    rw [← hq1, ← c0]
    show (if h.1 + 1 + i = h.1 then _ else if h.1 < h.1 + 1 + i ∧ h.1 + 1 + i ≤ h.1 + 2 then _ else _) = _
    rw [if_neg (by omega), if_pos (by omega)]
  have gu1 : ∀ q, q < a + 696 ∨ a + 699 ≤ q → g1.2 q = h.2 q := by
    intro q hq2
    rw [← hq1]
    show (if q = h.1 then _ else if h.1 < q ∧ q ≤ h.1 + 2 then _ else h.2 q) = _
    rw [if_neg (by omega), if_neg (by omega)]
  clear hq1
  rw [c0]
  refine np_p (idx := 0) (w := .ref (a + 696)) (k := 16) (tc := 4) gm1 (by omega) (show 16 < 20 by decide) trivial ?_
  intro h1 d1 m1 v1
  have c1 : h1.1 = a + 699 := by omega
  have m1 : h1.2 a = .inr (7, [.ref (a + 1), .ref (a + 2), .ref (a + 3), .ref (a + 4), .ref (a + 6), .ref (a + 12), .ref (a + 661), .ref (a + 685), .ref (a + 687), .ref (a + 689), .ref (a + 690), .ref (a + 691), .ref (a + 692), .ref (a + 693), .ref (a + 694), .ref (a + 695), .ref (a + 696), .null, .null, .null]) := m1
  have a1 : h1.2 (a + 696) = _ := (v1 _ (by omega)).trans ga1
  have r1 : ∀ i, i < 2 → h1.2 (a + 696 + 1 + i) = _ := fun i hi => (v1 _ (by omega)).trans (gr1 i hi)
  have u1 : ∀ q, q ≠ a → q < a + 696 ∨ 1099511627776 ≤ q → h1.2 q = h.2 q := fun q z1 z2 => by rw [v1 q z1, gu1 q (by omega)]
  have co_1 : h1.2 (a + 12) = _ := ((u1 _ (by omega) (Or.inl (by omega))).trans co0)
  have fo_1 : h1.2 (a + 13) = _ := ((u1 _ (by omega) (Or.inl (by omega))).trans fo0)
  refine ⟨by decide, by decide, by omega, ?_⟩
  generalize hq2 : vm_nw h1 _ = g2
  have gc2 : g2.1 = a + 700 := by rw [← hq2]; show h1.1 + 1 = _; omega
  have ga2 : g2.2 (a + 699) = .inr (8, vm_df 8) := by rw [← hq2, ← c1]; exact nw_e
  have gu2 : ∀ q, q ≠ a + 699 → g2.2 q = h1.2 q := fun q z => by rw [← hq2]; exact nw_n (by omega)
  clear hq2
  rw [c1]
  have gm2 : g2.2 a = .inr (7, [.ref (a + 1), .ref (a + 2), .ref (a + 3), .ref (a + 4), .ref (a + 6), .ref (a + 12), .ref (a + 661), .ref (a + 685), .ref (a + 687), .ref (a + 689), .ref (a + 690), .ref (a + 691), .ref (a + 692), .ref (a + 693), .ref (a + 694), .ref (a + 695), .ref (a + 696), .null, .null, .null]) := (gu2 _ (by omega)).trans m1
  refine ⟨_, _, gm2, rfl, ⟨_, _, (gu2 _ (by omega)).trans co_1, rfl, ⟨_, _, (gu2 _ (by omega)).trans fo_1, fl0, ⟨3, 42, _, v_point (L := 14) ga2 (by omega) (by decide) (by omega), by decide, by decide, ?_⟩⟩⟩⟩
  rintro _ f2 ⟨rfl, fc2, fw2, fz2, fv2⟩
  rw [gc2] at fc2 fw2 fz2 fv2
  have fu2 : ∀ q, q ≠ a + 699 → q < a + 700 ∨ 1099511627776 ≤ q → f2.2 q = g2.2 q := fun q z1 z2 => fv2 q z1 (by omega)
  refine np_p (idx := 0) (w := .ref (a + 699)) (k := 17) (tc := 4) ((fu2 _ (by omega) (Or.inl (by omega))).trans gm2) (by omega) (show 17 < 20 by decide) trivial ?_
  intro h2 d2 m2 v2
  have c2 : h2.1 = a + 703 := by omega
  have m2 : h2.2 a = .inr (7, [.ref (a + 1), .ref (a + 2), .ref (a + 3), .ref (a + 4), .ref (a + 6), .ref (a + 12), .ref (a + 661), .ref (a + 685), .ref (a + 687), .ref (a + 689), .ref (a + 690), .ref (a + 691), .ref (a + 692), .ref (a + 693), .ref (a + 694), .ref (a + 695), .ref (a + 696), .ref (a + 699), .null, .null]) := m2
  have u2 : ∀ q, q ≠ a → q < a + 699 ∨ 1099511627776 ≤ q → h2.2 q = h1.2 q := fun q z1 z2 => by rw [v2 q z1, fu2 q (by omega) (by omega), gu2 q (by omega)]
  have co_2 : h2.2 (a + 12) = _ := ((u2 _ (by omega) (Or.inl (by omega))).trans ((u1 _ (by omega) (Or.inl (by omega))).trans co0))
  have fo_2 : h2.2 (a + 13) = _ := ((u2 _ (by omega) (Or.inl (by omega))).trans ((u1 _ (by omega) (Or.inl (by omega))).trans fo0))
  refine ⟨by decide, by decide, by omega, ?_⟩
  generalize hq3 : vm_nw h2 _ = g3
  have gc3 : g3.1 = a + 704 := by rw [← hq3]; show h2.1 + 1 = _; omega
  have ga3 : g3.2 (a + 703) = .inr (8, vm_df 8) := by rw [← hq3, ← c2]; exact nw_e
  have gu3 : ∀ q, q ≠ a + 703 → g3.2 q = h2.2 q := fun q z => by rw [← hq3]; exact nw_n (by omega)
  clear hq3
  rw [c2]
  have gm3 : g3.2 a = .inr (7, [.ref (a + 1), .ref (a + 2), .ref (a + 3), .ref (a + 4), .ref (a + 6), .ref (a + 12), .ref (a + 661), .ref (a + 685), .ref (a + 687), .ref (a + 689), .ref (a + 690), .ref (a + 691), .ref (a + 692), .ref (a + 693), .ref (a + 694), .ref (a + 695), .ref (a + 696), .ref (a + 699), .null, .null]) := (gu3 _ (by omega)).trans m2
  refine ⟨_, _, gm3, rfl, ⟨_, _, (gu3 _ (by omega)).trans co_2, rfl, ⟨_, _, (gu3 _ (by omega)).trans fo_2, fl0, ⟨3, 42, _, v_point (L := 14) ga3 (by omega) (by decide) (by omega), by decide, by decide, ?_⟩⟩⟩⟩
  rintro _ f3 ⟨rfl, fc3, fw3, fz3, fv3⟩
  rw [gc3] at fc3 fw3 fz3 fv3
  have fu3 : ∀ q, q ≠ a + 703 → q < a + 704 ∨ 1099511627776 ≤ q → f3.2 q = g3.2 q := fun q z1 z2 => fv3 q z1 (by omega)
  refine np_p (idx := 0) (w := .ref (a + 703)) (k := 18) (tc := 4) ((fu3 _ (by omega) (Or.inl (by omega))).trans gm3) (by omega) (show 18 < 20 by decide) trivial ?_
  intro h3 d3 m3 v3
  have c3 : h3.1 = a + 707 := by omega
  have m3 : h3.2 a = .inr (7, [.ref (a + 1), .ref (a + 2), .ref (a + 3), .ref (a + 4), .ref (a + 6), .ref (a + 12), .ref (a + 661), .ref (a + 685), .ref (a + 687), .ref (a + 689), .ref (a + 690), .ref (a + 691), .ref (a + 692), .ref (a + 693), .ref (a + 694), .ref (a + 695), .ref (a + 696), .ref (a + 699), .ref (a + 703), .null]) := m3
  have u3 : ∀ q, q ≠ a → q < a + 703 ∨ 1099511627776 ≤ q → h3.2 q = h2.2 q := fun q z1 z2 => by rw [v3 q z1, fu3 q (by omega) (by omega), gu3 q (by omega)]
  have co_3 : h3.2 (a + 12) = _ := ((u3 _ (by omega) (Or.inl (by omega))).trans ((u2 _ (by omega) (Or.inl (by omega))).trans ((u1 _ (by omega) (Or.inl (by omega))).trans co0)))
  have fo_3 : h3.2 (a + 13) = _ := ((u3 _ (by omega) (Or.inl (by omega))).trans ((u2 _ (by omega) (Or.inl (by omega))).trans ((u1 _ (by omega) (Or.inl (by omega))).trans fo0)))
  refine ⟨by decide, by decide, by omega, ?_⟩
  generalize hq4 : vm_nw h3 _ = g4
  have gc4 : g4.1 = a + 708 := by rw [← hq4]; show h3.1 + 1 = _; omega
  have ga4 : g4.2 (a + 707) = .inr (8, vm_df 8) := by rw [← hq4, ← c3]; exact nw_e
  have gu4 : ∀ q, q ≠ a + 707 → g4.2 q = h3.2 q := fun q z => by rw [← hq4]; exact nw_n (by omega)
  clear hq4
  rw [c3]
  have gm4 : g4.2 a = .inr (7, [.ref (a + 1), .ref (a + 2), .ref (a + 3), .ref (a + 4), .ref (a + 6), .ref (a + 12), .ref (a + 661), .ref (a + 685), .ref (a + 687), .ref (a + 689), .ref (a + 690), .ref (a + 691), .ref (a + 692), .ref (a + 693), .ref (a + 694), .ref (a + 695), .ref (a + 696), .ref (a + 699), .ref (a + 703), .null]) := (gu4 _ (by omega)).trans m3
  refine ⟨_, _, gm4, rfl, ⟨_, _, (gu4 _ (by omega)).trans co_3, rfl, ⟨_, _, (gu4 _ (by omega)).trans fo_3, fl0, ⟨3, 42, _, v_point (L := 14) ga4 (by omega) (by decide) (by omega), by decide, by decide, ?_⟩⟩⟩⟩
  rintro _ f4 ⟨rfl, fc4, fw4, fz4, fv4⟩
  rw [gc4] at fc4 fw4 fz4 fv4
  have fu4 : ∀ q, q ≠ a + 707 → q < a + 708 ∨ 1099511627776 ≤ q → f4.2 q = g4.2 q := fun q z1 z2 => fv4 q z1 (by omega)
  refine np_p (idx := 0) (w := .ref (a + 707)) (k := 19) (tc := 4) ((fu4 _ (by omega) (Or.inl (by omega))).trans gm4) (by omega) (show 19 < 20 by decide) trivial ?_
  intro h4 d4 m4 v4
  have c4 : h4.1 = a + 711 := by omega
  have m4 : h4.2 a = .inr (7, [.ref (a + 1), .ref (a + 2), .ref (a + 3), .ref (a + 4), .ref (a + 6), .ref (a + 12), .ref (a + 661), .ref (a + 685), .ref (a + 687), .ref (a + 689), .ref (a + 690), .ref (a + 691), .ref (a + 692), .ref (a + 693), .ref (a + 694), .ref (a + 695), .ref (a + 696), .ref (a + 699), .ref (a + 703), .ref (a + 707)]) := m4
  have u4 : ∀ q, q ≠ a → q < a + 707 ∨ 1099511627776 ≤ q → h4.2 q = h3.2 q := fun q z1 z2 => by rw [v4 q z1, fu4 q (by omega) (by omega), gu4 q (by omega)]
  have E4 : ∀ q, q ≠ a → q < a + 711 ∨ 1099511627776 ≤ q → h4.2 q = h4.2 q := fun q _ _ => rfl
  have E3 : ∀ q, q ≠ a → q < a + 707 ∨ 1099511627776 ≤ q → h4.2 q = h3.2 q := fun q z1 z2 => (E4 q z1 (by omega)).trans (u4 q z1 (by omega))
  have E2 : ∀ q, q ≠ a → q < a + 703 ∨ 1099511627776 ≤ q → h4.2 q = h2.2 q := fun q z1 z2 => (E3 q z1 (by omega)).trans (u3 q z1 (by omega))
  have E1 : ∀ q, q ≠ a → q < a + 699 ∨ 1099511627776 ≤ q → h4.2 q = h1.2 q := fun q z1 z2 => (E2 q z1 (by omega)).trans (u2 q z1 (by omega))
  have E0 : ∀ q, q ≠ a → q < a + 696 ∨ 1099511627776 ≤ q → h4.2 q = h.2 q := fun q z1 z2 => (E1 q z1 (by omega)).trans (u1 q z1 (by omega))
  refine K h4 c4 m4 ((E1 (a + 696) (by omega) (Or.inl (by omega))).trans a1) (fun i hi => (E1 (a + 696 + 1 + i) (by omega) (Or.inl (by omega))).trans (r1 i hi)) (fun i hi => ?_) E0
  rcases (show i = 0 ∨ i = 1 ∨ i = 2 by omega) with rfl | rfl | rfl
  · refine ⟨(E2 (a + 699) (by omega) (Or.inl (by omega))).trans ((v2 _ (by omega)).trans fw2), fun j hj => ?_⟩
    exact (E2 (a + 700 + j) (by omega) (Or.inl (by omega))).trans ((v2 _ (by omega)).trans (fz2 j hj))
  · refine ⟨(E3 (a + 703) (by omega) (Or.inl (by omega))).trans ((v3 _ (by omega)).trans fw3), fun j hj => ?_⟩
    exact (E3 (a + 704 + j) (by omega) (Or.inl (by omega))).trans ((v3 _ (by omega)).trans (fz3 j hj))
  · refine ⟨(E4 (a + 707) (by omega) (Or.inl (by omega))).trans ((v4 _ (by omega)).trans fw4), fun j hj => ?_⟩
    exact (E4 (a + 708 + j) (by omega) (Or.inl (by omega))).trans ((v4 _ (by omega)).trans (fz4 j hj))
theorem v_oprf {h : vm_H} {a : Nat} (h9 : f9.category = 1) (hO : h.2 a = .inr (7, vm_df 7)) (hN : h.1 = a + 1) (hh : a + 3000 < 1099511627776) (sv : SV h) :
    vm_Met (vm_env l O f9) mX7_init 710 11420 [.ref a] h (fun r h' => r = none ∧ h'.1 = a + 711 ∧ (∃ W B V g, OPc a h' W B V g ∧ W 0 = []) ∧ ∀ q, q ≠ a → q < a + 1 ∨ 1099511627776 ≤ q → h'.2 q = h.2 q) := by
  refine vm_met rfl (Nat.le_of_ble_eq_true rfl) ?_
  refine oi_1 h9 hO hN hh sv ?_
  intro h1 ni ri c1 m1 b0 b1 b2 w0 hH cA u1
  have co1 : h1.2 (a + 12) = .inr (2, [.ref (a + 13), .ref (a + 38), .ref (a + 42), .ref (a + 43), .ref (a + 44), .ref (a + 45), .ref (a + 46), .ref (a + 47), .ref (a + 48), .ref (a + 49), .ref (a + 58)]) := by
    obtain ⟨u, k5⟩ := cA
    exact k5.2.1.1
  obtain ⟨ff, fo1, fl1⟩ : ∃ ff : List Value, h1.2 (a + 13) = .inr (3, ff) ∧ ff[0]? = some (.int (nI 14)) := by
    obtain ⟨u, k5⟩ := cA
    obtain ⟨⟨_, ⟨⟨fs, m0, m1, _⟩, _⟩, _⟩, _⟩ := k5
    exact ⟨fs, m0, m1⟩
  refine oi_2 h9 m1 c1 hh (sto_fr sv.2.2.2.2 (fun q hq => u1 q (by omega) (Or.inr hq))) ?_
  intro h2 nq rq c2 m2 hP hM w1 w2 u2
  refine oi_3 m2 c2 hh ?_
  intro h3 c3 m3 b3 b4 b5 b6 b7 b8 b9 u3
  obtain ⟨fq9, qo, ql⟩ : ∃ ff : List Value, h2.2 (a + 661) = .inr (6, ff) ∧ ff[0]? = some (.int (nI 14)) := by
    obtain ⟨⟨fs, m0, m1, _⟩, _⟩ := hM
    exact ⟨fs, m0, m1⟩
  refine oi_4 m3 c3 hh ((u3 _ (by omega) (Or.inl (by omega))).trans ((u2 _ (by omega) (Or.inl (by omega))).trans co1)) ((u3 _ (by omega) (Or.inl (by omega))).trans ((u2 _ (by omega) (Or.inl (by omega))).trans fo1)) fl1 ((u3 _ (by omega) (Or.inl (by omega))).trans qo) ql ?_
  intro h4 c4 m4 n4 r4 p4 u4
  have t1 : ∀ q, q ≠ a → q < a + 661 → h4.2 q = h1.2 q := fun q z1 z2 => by rw [u4 q z1 (by omega), u3 q z1 (by omega), u2 q z1 (by omega)]
  have t2 : ∀ q, q ≠ a → q < a + 689 → h4.2 q = h2.2 q := fun q z1 z2 => by rw [u4 q z1 (by omega), u3 q z1 (by omega)]
  have t3 : ∀ q, q ≠ a → q < a + 696 → h4.2 q = h3.2 q := fun q z1 z2 => u4 q z1 (by omega)
  refine ⟨rfl, c4, ⟨fun _ => [], fun _ _ => 0, fun _ => none, (fun _ => none, fun _ => some none), ⟨by omega, m4, ?_, ?_, ?_, ?_, ?_, n4, ?_⟩, rfl⟩, fun q z1 z2 => ?_⟩
  · intro j hj
    rcases (show j = 0 ∨ j = 1 ∨ j = 2 ∨ j = 3 ∨ j = 4 ∨ j = 5 ∨ j = 6 ∨ j = 7 ∨ j = 8 ∨ j = 9 by omega) with rfl | rfl | rfl | rfl | rfl | rfl | rfl | rfl | rfl | rfl
    · exact bv_cg b0 (t1 (a + 1) (by omega) (by omega))
    · exact bv_cg b1 (t1 (a + 2) (by omega) (by omega))
    · exact bv_cg b2 (t1 (a + 3) (by omega) (by omega))
    · exact bv_cg b3 (t3 (a + 689) (by omega) (by omega))
    · exact bv_cg b4 (t3 (a + 690) (by omega) (by omega))
    · exact bv_cg b5 (t3 (a + 691) (by omega) (by omega))
    · exact bv_cg b6 (t3 (a + 692) (by omega) (by omega))
    · exact bv_cg b7 (t3 (a + 693) (by omega) (by omega))
    · exact bv_cg b8 (t3 (a + 694) (by omega) (by omega))
    · exact bv_cg b9 (t3 (a + 695) (by omega) (by omega))
  · intro j hj
    rcases (show j = 0 ∨ j = 1 ∨ j = 2 by omega) with rfl | rfl | rfl
    · exact ⟨fun _ => 0, ⟨(t1 (a + 4) (by omega) (by omega)).trans w0.1, bv_cg w0.2.1 (t1 (a + 5) (by omega) (by omega)), w0.2.2⟩, rfl⟩
    · exact ⟨fun _ => 0, ⟨(t2 (a + 685) (by omega) (by omega)).trans w1.1, bv_cg w1.2.1 (t2 (a + 686) (by omega) (by omega)), w1.2.2⟩, rfl⟩
    · exact ⟨fun _ => 0, ⟨(t2 (a + 687) (by omega) (by omega)).trans w2.1, bv_cg w2.2.1 (t2 (a + 688) (by omega) (by omega)), w2.2.2⟩, rfl⟩
  · exact HA_fr hH (t1 _ (by omega) (by omega)) (fun i hi => t1 _ (by omega) (by omega))
  · exact ⟨ni, ri, _, CA_ext cA (by omega) (by omega) (by omega) (fun q hq => t1 q (by omega) (by omega)) p4, ⟨rfl, fun m _ h2 => (by
    show ∃ q, (if m < 151 then gup (fun _ => some none) 0 (some gP) m else some none) = some q
    rw [if_pos (by omega)]
    unfold gup
    split <;> exact ⟨_, rfl⟩), (fun pl p _ hp => nomatch hp), fun i hi => if_neg (by omega), ⟨_, rfl⟩, ⟨_, rfl⟩⟩⟩
  · exact ⟨nq, rq, hP, MD_cg hM (fun i hi h5 => t2 _ (AQ_b hi (h5.resolve_right (by decide))).1 (Nat.lt_trans (AQ_b hi (h5.resolve_right (by decide))).2 (by omega)))⟩
  · intro j hj
    exact ⟨⟨_, r4 j hj⟩, (fun v hv => nomatch hv)⟩
  · rw [u4 q z1 (by omega), u3 q z1 (by omega), u2 q z1 (by omega), u1 q z1 z2]
end
