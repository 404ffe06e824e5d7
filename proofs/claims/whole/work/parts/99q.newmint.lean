/-! new VeilMint -/
def bX11_initx_0 : List vm_J := [(1, .aload_n 0, 0, 0, 0, .null), (3, .invokespecial 3, 9999, 0, 0, .null), (1, .aload_n 0, 0, 0, 0, .null), (3, .new 9, 9, 0, 0, .null), (1, .dup, 0, 0, 0, .null), (3, .sipush 1200, 0, 0, 0, .int 1200), (3, .invokespecial 11, 84, 1, 0, .null), (3, .putfield 14, 11, 0, 4, .null), (1, .aload_n 0, 0, 0, 0, .null), (3, .new 9, 9, 0, 0, .null), (1, .dup, 0, 0, 0, .null), (3, .sipush 1168, 0, 0, 0, .int 1168), (3, .invokespecial 11, 84, 1, 0, .null), (3, .putfield 18, 11, 1, 4, .null), (1, .aload_n 0, 0, 0, 0, .null), (3, .new 9, 9, 0, 0, .null), (1, .dup, 0, 0, 0, .null), (3, .sipush 1168, 0, 0, 0, .int 1168), (3, .invokespecial 11, 84, 1, 0, .null), (3, .putfield 21, 11, 2, 4, .null), (1, .aload_n 0, 0, 0, 0, .null), (3, .new 24, 4, 0, 0, .null), (1, .dup, 0, 0, 0, .null), (3, .invokespecial 26, 32, 0, 0, .null), (3, .putfield 27, 11, 3, 4, .null)]
set_option maxRecDepth 20000 in
theorem oX11_initx_0 : vm_okB 11 mX11_init 0 bX11_initx_0 = true := by decide +kernel
def bX11_initx_57 : List vm_J := [(1, .aload_n 0, 0, 0, 0, .null), (3, .new 31, 7, 0, 0, .null), (1, .dup, 0, 0, 0, .null), (3, .invokespecial 33, 63, 0, 0, .null), (3, .putfield 34, 11, 4, 4, .null), (1, .aload_n 0, 0, 0, 0, .null), (3, .new 38, 1, 0, 0, .null), (1, .dup, 0, 0, 0, .null), (3, .invokespecial 40, 1, 0, 0, .null), (3, .putfield 41, 11, 5, 4, .null), (1, .aload_n 0, 0, 0, 0, .null), (3, .new 45, 10, 0, 0, .null), (1, .dup, 0, 0, 0, .null), (3, .invokespecial 47, 94, 0, 0, .null), (3, .putfield 48, 11, 6, 4, .null)]
set_option maxRecDepth 20000 in
theorem oX11_initx_57 : vm_okB 11 mX11_init 57 bX11_initx_57 = true := by decide +kernel
def bX11_initx_90 : List vm_J := [(1, .aload_n 0, 0, 0, 0, .null), (2, .bipush 6, 0, 0, 0, .int 6), (3, .anewarray 52, 5, 0, 0, .null), (3, .putfield 54, 11, 7, 4, .null), (1, .aload_n 0, 0, 0, 0, .null), (2, .bipush 60, 0, 0, 0, .int 60), (3, .anewarray 58, 0, 0, 0, .null), (3, .putfield 60, 11, 8, 4, .null), (1, .aload_n 0, 0, 0, 0, .null), (1, .iconst 0, 0, 0, 0, .int 0), (3, .putfield 64, 11, 9, 0, .null), (1, .aload_n 0, 0, 0, 0, .null), (1, .iconst 0, 0, 0, 0, .int 0), (3, .putfield 68, 11, 10, 0, .null), (1, .aload_n 0, 0, 0, 0, .null), (1, .iconst 0, 0, 0, 0, .int 0), (3, .putfield 71, 11, 11, 0, .null), (1, .return_, 0, 0, 0, .null)]
set_option maxRecDepth 20000 in
theorem oX11_initx_90 : vm_okB 11 mX11_init 90 bX11_initx_90 = true := by decide +kernel
section
variable {E : vm_E} {y : vm_M} {Q : Option Value → vm_H → Prop} {r : List vm_J} {kc ks pc : Nat} {lv : vm_L} {st : List Value} {h : vm_H} {m ci k : Nat} {fs : List Value} {n : Int32} {N idx idx2 c2 : Nat}
theorem np_O (en : n = Int32.ofNat N) (hN : N ≤ 65536) (hk : 1 ≤ kc) (hs : N ≤ ks) (hh : h.1 + 1 < 1099511627776) (hm : h.2 m = .inr (ci, fs)) (hm1 : m < h.1) (hf : k < fs.length) (K : ∀ h', NP h h' m ci (fs.set k (.ref h.1)) (.inl (.object (vm_cn c2), N, .inr (.inr (.inr (.inr (fun _ => none)))))) → vm_sx E y Q r (kc - 1) (ks - N) (pc + 3 + 3) lv st h') :
    vm_sx E y Q ((3, .anewarray idx2, c2, 0, 0, .null) :: (3, .putfield idx, ci, k, 4, .null) :: r) kc ks pc lv (.int n :: .ref m :: st) h := by
  have hmo : m < 1099511627776 := by omega
  have hmn : m ≠ h.1 := by omega
  exact ⟨N, en, hN, hk, hs, hh, fs, (nw_n hmn).trans hm, hmo, hf, trivial, K _ (NP_i hm1)⟩
end
section
variable {l : Launch} {O : Nat → vm_Ob} {f9 : Value} {st3 kk3 : Nat → Int64}
theorem vi_1 {h : vm_H} {a : Nat} {Q : Option Value → vm_H → Prop} (m0 : h.2 a = .inr (11, vm_df 11)) (c0 : h.1 = a + 1) (hh : a + 5000 < 1099511627776) (K : ∀ (h1 : vm_H), h1.1 = a + 13 → h1.2 a = .inr (11, [.ref (a + 1), .ref (a + 3), .ref (a + 5), .ref (a + 7), .null, .null, .null, .null, .null, .int 0, .int 0, .int 0]) → row h1 (a + 1) (a + 2) 1200 (fun _ => 0) 0 → row h1 (a + 3) (a + 4) 1168 (fun _ => 0) 0 → row h1 (a + 5) (a + 6) 1168 (fun _ => 0) 0 → HA h1 (a + 7) (fun i => a + 8 + i) → (∀ q, q ≠ a → q < a + 1 ∨ 1099511627776 ≤ q → h1.2 q = h.2 q) → vm_T (vm_env l O f9) mX11_init 737 18066 57 [(0, .ref a)] [] h1 Q) : vm_T (vm_env l O f9) mX11_init 749 21901 0 [(0, .ref a)] [] h Q := by
  refine vm_go rfl bX11_initx_0 oX11_initx_0 ?_
  refine ⟨by decide, by decide, by omega, ?_⟩
  generalize hq1 : vm_nw h _ = g1
  have gc1 : g1.1 = a + 2 := by rw [← hq1]; show h.1 + 1 = _; omega
  have ga1 : g1.2 (a + 1) = .inr (9, vm_df 9) := by rw [← hq1, ← c0]; exact nw_e
  have gu1 : ∀ q, q ≠ a + 1 → g1.2 q = h.2 q := fun q z => by rw [← hq1]; exact nw_n (by omega)
  clear hq1
  rw [c0]
  have gm1 : g1.2 a = .inr (11, [.null, .null, .null, .null, .null, .null, .null, .null, .null, .int 0, .int 0, .int 0]) := (gu1 _ (by omega)).trans m0
  refine ⟨1, 1200, _, vm_metA (w_init (n := 1200) ga1 (by omega) (by decide) (by omega)) (by show [_, Value.int (nI 1200)] = [_, Value.int 1200]; rw [show nI 1200 = (1200 : Int32) by decide]), by decide, by decide, ?_⟩
  rintro _ f1 ⟨rfl, fc1, fr1, fv1⟩
  rw [gc1] at fc1 fr1 fv1
  have fu1 : ∀ q, q ≠ a + 1 → q < a + 2 ∨ 1099511627776 ≤ q → f1.2 q = g1.2 q := fun q z1 z2 => fv1 q z1 (by omega)
  refine np_p (idx := 0) (w := .ref (a + 1)) (k := 0) (tc := 4) ((fu1 _ (by omega) (Or.inl (by omega))).trans gm1) (by omega) (show 0 < 12 by decide) trivial ?_
  intro h1 d1 m1 v1
  have c1 : h1.1 = a + 3 := by omega
  have m1 : h1.2 a = .inr (11, [.ref (a + 1), .null, .null, .null, .null, .null, .null, .null, .null, .int 0, .int 0, .int 0]) := m1
  have u1 : ∀ q, q ≠ a → q < a + 1 ∨ 1099511627776 ≤ q → h1.2 q = h.2 q := fun q z1 z2 => by rw [v1 q z1, fu1 q (by omega) (by omega), gu1 q (by omega)]
  have w1 : row h1 (a + 1) (a + 2) 1200 (fun _ => 0) 0 := ⟨(v1 _ (by omega)).trans fr1.1, bv_cg fr1.2.1 (v1 _ (by omega)), fr1.2.2⟩
  refine ⟨by decide, by decide, by omega, ?_⟩
  generalize hq2 : vm_nw h1 _ = g2
  have gc2 : g2.1 = a + 4 := by rw [← hq2]; show h1.1 + 1 = _; omega
  have ga2 : g2.2 (a + 3) = .inr (9, vm_df 9) := by rw [← hq2, ← c1]; exact nw_e
  have gu2 : ∀ q, q ≠ a + 3 → g2.2 q = h1.2 q := fun q z => by rw [← hq2]; exact nw_n (by omega)
  clear hq2
  rw [c1]
  have gm2 : g2.2 a = .inr (11, [.ref (a + 1), .null, .null, .null, .null, .null, .null, .null, .null, .int 0, .int 0, .int 0]) := (gu2 _ (by omega)).trans m1
  refine ⟨1, 1168, _, vm_metA (w_init (n := 1168) ga2 (by omega) (by decide) (by omega)) (by show [_, Value.int (nI 1168)] = [_, Value.int 1168]; rw [show nI 1168 = (1168 : Int32) by decide]), by decide, by decide, ?_⟩
  rintro _ f2 ⟨rfl, fc2, fr2, fv2⟩
  rw [gc2] at fc2 fr2 fv2
  have fu2 : ∀ q, q ≠ a + 3 → q < a + 4 ∨ 1099511627776 ≤ q → f2.2 q = g2.2 q := fun q z1 z2 => fv2 q z1 (by omega)
  refine np_p (idx := 0) (w := .ref (a + 3)) (k := 1) (tc := 4) ((fu2 _ (by omega) (Or.inl (by omega))).trans gm2) (by omega) (show 1 < 12 by decide) trivial ?_
  intro h2 d2 m2 v2
  have c2 : h2.1 = a + 5 := by omega
  have m2 : h2.2 a = .inr (11, [.ref (a + 1), .ref (a + 3), .null, .null, .null, .null, .null, .null, .null, .int 0, .int 0, .int 0]) := m2
  have u2 : ∀ q, q ≠ a → q < a + 3 ∨ 1099511627776 ≤ q → h2.2 q = h1.2 q := fun q z1 z2 => by rw [v2 q z1, fu2 q (by omega) (by omega), gu2 q (by omega)]
  have w2 : row h2 (a + 3) (a + 4) 1168 (fun _ => 0) 0 := ⟨(v2 _ (by omega)).trans fr2.1, bv_cg fr2.2.1 (v2 _ (by omega)), fr2.2.2⟩
  refine ⟨by decide, by decide, by omega, ?_⟩
  generalize hq3 : vm_nw h2 _ = g3
  have gc3 : g3.1 = a + 6 := by rw [← hq3]; show h2.1 + 1 = _; omega
  have ga3 : g3.2 (a + 5) = .inr (9, vm_df 9) := by rw [← hq3, ← c2]; exact nw_e
  have gu3 : ∀ q, q ≠ a + 5 → g3.2 q = h2.2 q := fun q z => by rw [← hq3]; exact nw_n (by omega)
  clear hq3
  rw [c2]
  have gm3 : g3.2 a = .inr (11, [.ref (a + 1), .ref (a + 3), .null, .null, .null, .null, .null, .null, .null, .int 0, .int 0, .int 0]) := (gu3 _ (by omega)).trans m2
  refine ⟨1, 1168, _, vm_metA (w_init (n := 1168) ga3 (by omega) (by decide) (by omega)) (by show [_, Value.int (nI 1168)] = [_, Value.int 1168]; rw [show nI 1168 = (1168 : Int32) by decide]), by decide, by decide, ?_⟩
  rintro _ f3 ⟨rfl, fc3, fr3, fv3⟩
  rw [gc3] at fc3 fr3 fv3
  have fu3 : ∀ q, q ≠ a + 5 → q < a + 6 ∨ 1099511627776 ≤ q → f3.2 q = g3.2 q := fun q z1 z2 => fv3 q z1 (by omega)
  refine np_p (idx := 0) (w := .ref (a + 5)) (k := 2) (tc := 4) ((fu3 _ (by omega) (Or.inl (by omega))).trans gm3) (by omega) (show 2 < 12 by decide) trivial ?_
  intro h3 d3 m3 v3
  have c3 : h3.1 = a + 7 := by omega
  have m3 : h3.2 a = .inr (11, [.ref (a + 1), .ref (a + 3), .ref (a + 5), .null, .null, .null, .null, .null, .null, .int 0, .int 0, .int 0]) := m3
  have u3 : ∀ q, q ≠ a → q < a + 5 ∨ 1099511627776 ≤ q → h3.2 q = h2.2 q := fun q z1 z2 => by rw [v3 q z1, fu3 q (by omega) (by omega), gu3 q (by omega)]
  have w3 : row h3 (a + 5) (a + 6) 1168 (fun _ => 0) 0 := ⟨(v3 _ (by omega)).trans fr3.1, bv_cg fr3.2.1 (v3 _ (by omega)), fr3.2.2⟩
  refine ⟨by decide, by decide, by omega, ?_⟩
  generalize hq4 : vm_nw h3 _ = g4
  have gc4 : g4.1 = a + 8 := by rw [← hq4]; show h3.1 + 1 = _; omega
  have ga4 : g4.2 (a + 7) = .inr (4, vm_df 4) := by rw [← hq4, ← c3]; exact nw_e
  have gu4 : ∀ q, q ≠ a + 7 → g4.2 q = h3.2 q := fun q z => by rw [← hq4]; exact nw_n (by omega)
  clear hq4
  rw [c3]
  have gm4 : g4.2 a = .inr (11, [.ref (a + 1), .ref (a + 3), .ref (a + 5), .null, .null, .null, .null, .null, .null, .int 0, .int 0, .int 0]) := (gu4 _ (by omega)).trans m3
  refine ⟨5, 288, _, v_hash ga4 (by omega) (by omega), by decide, by decide, ?_⟩
  rintro _ f4 ⟨rfl, fc4, fH4, fv4⟩
  rw [gc4] at fc4 fH4 fv4
  have fu4 : ∀ q, q ≠ a + 7 → q < a + 8 ∨ 1099511627776 ≤ q → f4.2 q = g4.2 q := fun q z1 z2 => fv4 q z1 (by omega)
  refine np_p (idx := 0) (w := .ref (a + 7)) (k := 3) (tc := 4) ((fu4 _ (by omega) (Or.inl (by omega))).trans gm4) (by omega) (show 3 < 12 by decide) trivial ?_
  intro h4 d4 m4 v4
  have c4 : h4.1 = a + 13 := by omega
  have m4 : h4.2 a = .inr (11, [.ref (a + 1), .ref (a + 3), .ref (a + 5), .ref (a + 7), .null, .null, .null, .null, .null, .int 0, .int 0, .int 0]) := m4
  have u4 : ∀ q, q ≠ a → q < a + 7 ∨ 1099511627776 ≤ q → h4.2 q = h3.2 q := fun q z1 z2 => by rw [v4 q z1, fu4 q (by omega) (by omega), gu4 q (by omega)]
  have H4 : HA h4 (a + 7) (fun i => a + 8 + i) := HA_fr fH4 (v4 _ (by omega)) (fun i hi => v4 _ (by omega))
  have E4 : ∀ q, q ≠ a → q < a + 13 ∨ 1099511627776 ≤ q → h4.2 q = h4.2 q := fun q _ _ => rfl
  have E3 : ∀ q, q ≠ a → q < a + 7 ∨ 1099511627776 ≤ q → h4.2 q = h3.2 q := fun q z1 z2 => (E4 q z1 (by omega)).trans (u4 q z1 (by omega))
  have E2 : ∀ q, q ≠ a → q < a + 5 ∨ 1099511627776 ≤ q → h4.2 q = h2.2 q := fun q z1 z2 => (E3 q z1 (by omega)).trans (u3 q z1 (by omega))
  have E1 : ∀ q, q ≠ a → q < a + 3 ∨ 1099511627776 ≤ q → h4.2 q = h1.2 q := fun q z1 z2 => (E2 q z1 (by omega)).trans (u2 q z1 (by omega))
  have E0 : ∀ q, q ≠ a → q < a + 1 ∨ 1099511627776 ≤ q → h4.2 q = h.2 q := fun q z1 z2 => (E1 q z1 (by omega)).trans (u1 q z1 (by omega))
  exact K h4 c4 m4 ⟨(E1 (a + 1) (by omega) (Or.inl (by omega))).trans w1.1, bv_cg w1.2.1 (E1 (a + 2) (by omega) (Or.inl (by omega))), w1.2.2⟩ ⟨(E2 (a + 3) (by omega) (Or.inl (by omega))).trans w2.1, bv_cg w2.2.1 (E2 (a + 4) (by omega) (Or.inl (by omega))), w2.2.2⟩ ⟨(E3 (a + 5) (by omega) (Or.inl (by omega))).trans w3.1, bv_cg w3.2.1 (E3 (a + 6) (by omega) (Or.inl (by omega))), w3.2.2⟩ (HA_fr H4 (E4 _ (by omega) (Or.inl (by omega))) (fun i hi => E4 _ (by omega) (Or.inl (by omega)))) E0
theorem vi_2 {h : vm_H} {a : Nat} {Q : Option Value → vm_H → Prop} (h9 : f9.category = 1) (m0 : h.2 a = .inr (11, [.ref (a + 1), .ref (a + 3), .ref (a + 5), .ref (a + 7), .null, .null, .null, .null, .null, .int 0, .int 0, .int 0])) (c0 : h.1 = a + 13) (hh : a + 5000 < 1099511627776) (sv : SV h) (K : ∀ (h1 : vm_H), h1.1 = a + 748 → h1.2 a = .inr (11, [.ref (a + 1), .ref (a + 3), .ref (a + 5), .ref (a + 7), .ref (a + 13), .ref (a + 724), .ref (a + 746), .null, .null, .int 0, .int 0, .int 0]) → (∃ W B V g, OPc (a + 13) h1 W B V g) → (∃ w B, RSc (a + 724) h1 w B) → dsk h1 (a + 746) (a + 747) (fun _ => 0) 0 (iZ (-1)) (nI 0) → (∀ q, q ≠ a → q < a + 13 ∨ 1099511627776 ≤ q → h1.2 q = h.2 q) → vm_T (vm_env l O f9) mX11_init 2 66 90 [(0, .ref a)] [] h1 Q) : vm_T (vm_env l O f9) mX11_init 737 18066 57 [(0, .ref a)] [] h Q := by
  refine vm_go rfl bX11_initx_57 oX11_initx_57 ?_
  refine ⟨by decide, by decide, by omega, ?_⟩
  generalize hq1 : vm_nw h _ = g1
  have gc1 : g1.1 = a + 14 := by rw [← hq1]; show h.1 + 1 = _; omega
  have ga1 : g1.2 (a + 13) = .inr (7, vm_df 7) := by rw [← hq1, ← c0]; exact nw_e
  have gu1 : ∀ q, q ≠ a + 13 → g1.2 q = h.2 q := fun q z => by rw [← hq1]; exact nw_n (by omega)
  clear hq1
  rw [c0]
  have gm1 : g1.2 a = .inr (11, [.ref (a + 1), .ref (a + 3), .ref (a + 5), .ref (a + 7), .null, .null, .null, .null, .null, .int 0, .int 0, .int 0]) := (gu1 _ (by omega)).trans m0
  refine ⟨710, 11420, _, v_oprf (a := a + 13) h9 ga1 gc1 (by omega) (SV_fr sv (fun q hq => gu1 q (by omega))), by decide, by decide, ?_⟩
  rintro _ f1 ⟨rfl, fc1, ⟨W1, B1, V1, g91, fO1, _⟩, fv1⟩
  have fu1 : ∀ q, q ≠ a + 13 → q < a + 14 ∨ 1099511627776 ≤ q → f1.2 q = g1.2 q := fun q z1 z2 => fv1 q z1 (by omega)
  refine np_p (idx := 0) (w := .ref (a + 13)) (k := 4) (tc := 4) ((fu1 _ (by omega) (Or.inl (by omega))).trans gm1) (by omega) (show 4 < 12 by decide) trivial ?_
  intro h1 d1 m1 v1
  have c1 : h1.1 = a + 724 := by omega
  have m1 : h1.2 a = .inr (11, [.ref (a + 1), .ref (a + 3), .ref (a + 5), .ref (a + 7), .ref (a + 13), .null, .null, .null, .null, .int 0, .int 0, .int 0]) := m1
  have u1 : ∀ q, q ≠ a → q < a + 13 ∨ 1099511627776 ≤ q → h1.2 q = h.2 q := fun q z1 z2 => by rw [v1 q z1, fu1 q (by omega) (by omega), gu1 q (by omega)]
  have O1 : OPc (a + 13) h1 W1 B1 V1 g91 := OP_out fO1 (fun q z1 z2 => v1 q (by omega))
  refine ⟨by decide, by decide, by omega, ?_⟩
  generalize hq2 : vm_nw h1 _ = g2
  have gc2 : g2.1 = a + 725 := by rw [← hq2]; show h1.1 + 1 = _; omega
  have ga2 : g2.2 (a + 724) = .inr (1, vm_df 1) := by rw [← hq2, ← c1]; exact nw_e
  have gu2 : ∀ q, q ≠ a + 724 → g2.2 q = h1.2 q := fun q z => by rw [← hq2]; exact nw_n (by omega)
  clear hq2
  rw [c1]
  have gm2 : g2.2 a = .inr (11, [.ref (a + 1), .ref (a + 3), .ref (a + 5), .ref (a + 7), .ref (a + 13), .null, .null, .null, .null, .int 0, .int 0, .int 0]) := (gu2 _ (by omega)).trans m1
  refine ⟨21, 2448, _, v_rsa (a := a + 724) ga2 gc2 (by omega), by decide, by decide, ?_⟩
  rintro _ f2 ⟨rfl, fc2, ⟨B2, fR2⟩, fv2⟩
  have fu2 : ∀ q, q ≠ a + 724 → q < a + 725 ∨ 1099511627776 ≤ q → f2.2 q = g2.2 q := fun q z1 z2 => fv2 q z1 (by omega)
  refine np_p (idx := 0) (w := .ref (a + 724)) (k := 5) (tc := 4) ((fu2 _ (by omega) (Or.inl (by omega))).trans gm2) (by omega) (show 5 < 12 by decide) trivial ?_
  intro h2 d2 m2 v2
  have c2 : h2.1 = a + 746 := by omega
  have m2 : h2.2 a = .inr (11, [.ref (a + 1), .ref (a + 3), .ref (a + 5), .ref (a + 7), .ref (a + 13), .ref (a + 724), .null, .null, .null, .int 0, .int 0, .int 0]) := m2
  have u2 : ∀ q, q ≠ a → q < a + 724 ∨ 1099511627776 ≤ q → h2.2 q = h1.2 q := fun q z1 z2 => by rw [v2 q z1, fu2 q (by omega) (by omega), gu2 q (by omega)]
  have R2 : RSc (a + 724) h2 [] B2 := RS_out fR2 (fun q z1 z2 => v2 q (by omega))
  refine ⟨by decide, by decide, by omega, ?_⟩
  generalize hq3 : vm_nw h2 _ = g3
  have gc3 : g3.1 = a + 747 := by rw [← hq3]; show h2.1 + 1 = _; omega
  have ga3 : g3.2 (a + 746) = .inr (10, vm_df 10) := by rw [← hq3, ← c2]; exact nw_e
  have gu3 : ∀ q, q ≠ a + 746 → g3.2 q = h2.2 q := fun q z => by rw [← hq3]; exact nw_n (by omega)
  clear hq3
  rw [c2]
  have gm3 : g3.2 a = .inr (11, [.ref (a + 1), .ref (a + 3), .ref (a + 5), .ref (a + 7), .ref (a + 13), .ref (a + 724), .null, .null, .null, .int 0, .int 0, .int 0]) := (gu3 _ (by omega)).trans m2
  refine ⟨1, 4096, _, v_disk ga3 (by omega) (by omega), by decide, by decide, ?_⟩
  rintro _ f3 ⟨rfl, fc3, fD3, fv3⟩
  rw [gc3] at fc3 fD3 fv3
  have fu3 : ∀ q, q ≠ a + 746 → q < a + 747 ∨ 1099511627776 ≤ q → f3.2 q = g3.2 q := fun q z1 z2 => fv3 q z1 (by omega)
  refine np_p (idx := 0) (w := .ref (a + 746)) (k := 6) (tc := 4) ((fu3 _ (by omega) (Or.inl (by omega))).trans gm3) (by omega) (show 6 < 12 by decide) trivial ?_
  intro h3 d3 m3 v3
  have c3 : h3.1 = a + 748 := by omega
  have m3 : h3.2 a = .inr (11, [.ref (a + 1), .ref (a + 3), .ref (a + 5), .ref (a + 7), .ref (a + 13), .ref (a + 724), .ref (a + 746), .null, .null, .int 0, .int 0, .int 0]) := m3
  have u3 : ∀ q, q ≠ a → q < a + 746 ∨ 1099511627776 ≤ q → h3.2 q = h2.2 q := fun q z1 z2 => by rw [v3 q z1, fu3 q (by omega) (by omega), gu3 q (by omega)]
  have D3 : dsk h3 (a + 746) (a + 747) (fun _ => 0) 0 (iZ (-1)) (nI 0) := dsk_cg fD3 (v3 _ (by omega)) (v3 _ (by omega))
  have E3 : ∀ q, q ≠ a → q < a + 748 ∨ 1099511627776 ≤ q → h3.2 q = h3.2 q := fun q _ _ => rfl
  have E2 : ∀ q, q ≠ a → q < a + 746 ∨ 1099511627776 ≤ q → h3.2 q = h2.2 q := fun q z1 z2 => (E3 q z1 (by omega)).trans (u3 q z1 (by omega))
  have E1 : ∀ q, q ≠ a → q < a + 724 ∨ 1099511627776 ≤ q → h3.2 q = h1.2 q := fun q z1 z2 => (E2 q z1 (by omega)).trans (u2 q z1 (by omega))
  have E0 : ∀ q, q ≠ a → q < a + 13 ∨ 1099511627776 ≤ q → h3.2 q = h.2 q := fun q z1 z2 => (E1 q z1 (by omega)).trans (u1 q z1 (by omega))
  exact K h3 c3 m3 ⟨_, _, _, _, OP_out O1 (fun q z1 z2 => E1 q (by omega) (Or.inl (by omega)))⟩ ⟨_, _, RS_out R2 (fun q z1 z2 => E2 q (by omega) (Or.inl (by omega)))⟩ D3 E0
theorem v_mint {h : vm_H} {a : Nat} (h9 : f9.category = 1) (m0 : h.2 a = .inr (11, vm_df 11)) (c0 : h.1 = a + 1) (hh : a + 5000 < 1099511627776) (sv : SV h) : vm_Met (vm_env l O f9) mX11_init 749 21901 [.ref a] h (fun r h' => r = none ∧ h'.1 = a + 750 ∧ (∀ lo kf af ke ae, a + 750 ≤ lo → lo ≤ h'.1 → MV st3 kk3 a lo (fun _ => 0) 0 [] 0 0 0 ke ae kf af (fun _ => 0) false (-1) 0 h') ∧ (∀ q, q ≠ a → q < a + 1 ∨ 1099511627776 ≤ q → h'.2 q = h.2 q)) := by
  refine vm_met rfl (Nat.le_of_ble_eq_true rfl) ?_
  refine vi_1 m0 c0 hh ?_
  clear m0 c0
  intro hA cA mA wA wB wC hH uA
  refine vi_2 h9 mA cA hh (SV_fr sv (fun q hq => uA q (by omega) (Or.inr hq))) ?_
  intro h0 c0 m0 ⟨W, B, V, g, oO⟩ ⟨w, B2, oR⟩ dD uB
  refine vm_go rfl bX11_initx_90 oX11_initx_90 ?_
  refine np_O (idx := 0) (idx2 := 0) (N := 6) (c2 := 5) rfl (by decide) (by decide) (by decide) (by omega) m0 (by omega) (show 7 < 12 by decide) ?_
  rintro h1 ⟨d1, m1, a1, v1⟩
  rw [c0] at d1 m1 a1 v1
  have c1 : h1.1 = a + 749 := by omega
  have m1 : h1.2 a = .inr (11, [.ref (a + 1), .ref (a + 3), .ref (a + 5), .ref (a + 7), .ref (a + 13), .ref (a + 724), .ref (a + 746), .ref (a + 748), .null, .int 0, .int 0, .int 0]) := m1
  have u1' := v1
  have u1 : ∀ q, q ≠ a → q < a + 748 ∨ 1099511627776 ≤ q → h1.2 q = h0.2 q := fun q z1 z2 => v1 q z1 (by omega)
  refine np_O (idx := 0) (idx2 := 0) (N := 60) (c2 := 0) rfl (by decide) (by decide) (by decide) (by omega) m1 (by omega) (show 8 < 12 by decide) ?_
  rintro h2 ⟨d2, m2, a2, v2⟩
  rw [c1] at d2 m2 a2 v2
  have c2 : h2.1 = a + 750 := by omega
  have m2 : h2.2 a = .inr (11, [.ref (a + 1), .ref (a + 3), .ref (a + 5), .ref (a + 7), .ref (a + 13), .ref (a + 724), .ref (a + 746), .ref (a + 748), .ref (a + 749), .int 0, .int 0, .int 0]) := m2
  have u2' := v2
  have u2 : ∀ q, q ≠ a → q < a + 749 ∨ 1099511627776 ≤ q → h2.2 q = h1.2 q := fun q z1 z2 => v2 q z1 (by omega)
  refine np_p (idx := 0) (w := .int 0) (k := 9) (tc := 0) m2 (by omega) (show 9 < 12 by decide) trivial ?_
  intro h3 d3 m3 u3'
  have c3 : h3.1 = a + 750 := by omega
  have m3 : h3.2 a = .inr (11, [.ref (a + 1), .ref (a + 3), .ref (a + 5), .ref (a + 7), .ref (a + 13), .ref (a + 724), .ref (a + 746), .ref (a + 748), .ref (a + 749), .int 0, .int 0, .int 0]) := m3
  have u3 : ∀ q, q ≠ a → q < a + 750 ∨ 1099511627776 ≤ q → h3.2 q = h2.2 q := fun q z1 _ => u3' q z1
  refine np_p (idx := 0) (w := .int 0) (k := 10) (tc := 0) m3 (by omega) (show 10 < 12 by decide) trivial ?_
  intro h4 d4 m4 u4'
  have c4 : h4.1 = a + 750 := by omega
  have m4 : h4.2 a = .inr (11, [.ref (a + 1), .ref (a + 3), .ref (a + 5), .ref (a + 7), .ref (a + 13), .ref (a + 724), .ref (a + 746), .ref (a + 748), .ref (a + 749), .int 0, .int 0, .int 0]) := m4
  have u4 : ∀ q, q ≠ a → q < a + 750 ∨ 1099511627776 ≤ q → h4.2 q = h3.2 q := fun q z1 _ => u4' q z1
  refine np_p (idx := 0) (w := .int 0) (k := 11) (tc := 0) m4 (by omega) (show 11 < 12 by decide) trivial ?_
  intro h5 d5 m5 u5'
  have c5 : h5.1 = a + 750 := by omega
  have m5 : h5.2 a = .inr (11, [.ref (a + 1), .ref (a + 3), .ref (a + 5), .ref (a + 7), .ref (a + 13), .ref (a + 724), .ref (a + 746), .ref (a + 748), .ref (a + 749), .int 0, .int 0, .int 0]) := m5
  have u5 : ∀ q, q ≠ a → q < a + 750 ∨ 1099511627776 ≤ q → h5.2 q = h4.2 q := fun q z1 _ => u5' q z1
  have E5 : ∀ q, q ≠ a → q < a + 750 ∨ 1099511627776 ≤ q → h5.2 q = h5.2 q := fun q _ _ => rfl
  have E4 : ∀ q, q ≠ a → q < a + 750 ∨ 1099511627776 ≤ q → h5.2 q = h4.2 q := fun q z1 z2 => (E5 q z1 (by omega)).trans (u5 q z1 (by omega))
  have E3 : ∀ q, q ≠ a → q < a + 750 ∨ 1099511627776 ≤ q → h5.2 q = h3.2 q := fun q z1 z2 => (E4 q z1 (by omega)).trans (u4 q z1 (by omega))
  have E2 : ∀ q, q ≠ a → q < a + 750 ∨ 1099511627776 ≤ q → h5.2 q = h2.2 q := fun q z1 z2 => (E3 q z1 (by omega)).trans (u3 q z1 (by omega))
  have E1 : ∀ q, q ≠ a → q < a + 749 ∨ 1099511627776 ≤ q → h5.2 q = h1.2 q := fun q z1 z2 => (E2 q z1 (by omega)).trans (u2 q z1 (by omega))
  have E0 : ∀ q, q ≠ a → q < a + 748 ∨ 1099511627776 ≤ q → h5.2 q = h0.2 q := fun q z1 z2 => (E1 q z1 (by omega)).trans (u1 q z1 (by omega))
  have ks : ∀ (q : Nat), q ≠ a → q < a + 748 → h5.2 q = h0.2 q := fun q z1 z2 => E0 q z1 (Or.inl (by omega))
  have kA : ∀ (q : Nat), q ≠ a → q < a + 13 → h5.2 q = hA.2 q := fun q z1 z2 => (ks q z1 (by omega)).trans (uB q z1 (Or.inl (by omega)))
  refine ⟨rfl, c5, fun lo kf af ke ae q1 q2 => ⟨⟨by omega, q1, q2⟩, ⟨m5, row_cg wA (kA _ (by omega) (by omega)) (kA _ (by omega) (by omega)), ⟨_, row_cg wB (kA _ (by omega) (by omega)) (kA _ (by omega) (by omega)), rfl⟩, ⟨[], _, row_cg wC (kA _ (by omega) (by omega)) (kA _ (by omega) (by omega)), rfl⟩, HA_fr hH (kA _ (by omega) (by omega)) (fun i hi => kA _ (by omega) (by omega)), ⟨_, _, _, _, OP_out oO (fun q z1 z2 => ks q (by omega) (by omega))⟩, ⟨_, _, RS_out oR (fun q z1 z2 => ks q (by omega) (by omega))⟩, dsk_cg dD (ks _ (by omega) (by omega)) (ks _ (by omega) (by omega)), ?_, ?_⟩, ⟨by decide, fun i hi => absurd hi (by omega), fun i j _ hj => absurd hj (by omega)⟩, ⟨by decide, fun i hi => absurd hi (by omega), (fun i j _ hj => absurd hj (by omega)), fun i j hi => absurd hi (by omega)⟩⟩, fun q z1 z2 => ?_⟩
  · exact (E1 (a + 748) (by omega) (Or.inl (by omega))).trans a1
  · exact (E2 (a + 749) (by omega) (Or.inl (by omega))).trans a2
  · rw [E0 q z1 (by omega), uB q z1 (by omega), uA q z1 z2]
end
