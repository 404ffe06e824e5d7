/-! new reference -/
def bX14_inity_683 : List vm_J := [(1, .aload_n 0, 0, 0, 0, .null), (3, .getfield 126, 14, 8, 0, .null), (3, .getstatic 173, 6, 0, 0, .null), (2, .bipush 12, 0, 0, 0, .int 12), (3, .invokevirtual 531, 133, 2, 12, .null), (1, .aload_n 0, 0, 0, 0, .null), (3, .getfield 322, 14, 9, 0, .null), (3, .getstatic 196, 7, 0, 0, .null), (2, .bipush 12, 0, 0, 0, .int 12), (3, .invokevirtual 531, 133, 2, 12, .null), (3, .getstatic 534, 12, 0, 0, .null), (1, .aload_n 0, 0, 0, 0, .null), (3, .getfield 423, 14, 10, 0, .null), (3, .getfield 123, 13, 0, 0, .null), (2, .bipush 12, 0, 0, 0, .int 12), (3, .invokestatic 68, 141, 3, 0, .null), (3, .getstatic 537, 13, 0, 0, .null), (1, .aload_n 0, 0, 0, 0, .null), (3, .getfield 423, 14, 10, 0, .null), (3, .getfield 130, 13, 1, 0, .null), (2, .bipush 12, 0, 0, 0, .int 12), (3, .invokestatic 68, 141, 3, 0, .null), (1, .iconst 0, 0, 0, 0, .int 0), (1, .istore_n 1, 0, 0, 0, .null)]
set_option maxRecDepth 20000 in
theorem oX14_inity_683 : vm_okB 14 mX14_init 683 bX14_inity_683 = true := by decide +kernel
def bX14_inity_739 : List vm_J := [(1, .iload_n 1, 0, 0, 0, .null), (2, .bipush 8, 0, 0, 0, .int 8), (3, .if_icmp .ge 35, 777, 0, 0, .null), (1, .aload_n 0, 0, 0, 0, .null), (3, .getfield 380, 14, 41, 0, .null), (1, .iload_n 1, 0, 0, 0, .null), (3, .new 114, 13, 0, 0, .null), (1, .dup, 0, 0, 0, .null), (3, .invokespecial 449, 135, 0, 0, .null), (1, .aastore, 13, 0, 0, .null)]
set_option maxRecDepth 20000 in
theorem oX14_inity_739 : vm_okB 14 mX14_init 739 bX14_inity_739 = true := by decide +kernel
def bX14_inity_758 : List vm_J := [(1, .aload_n 0, 0, 0, 0, .null), (3, .getfield 387, 14, 42, 0, .null), (1, .iload_n 1, 0, 0, 0, .null), (3, .new 114, 13, 0, 0, .null), (1, .dup, 0, 0, 0, .null), (3, .invokespecial 449, 135, 0, 0, .null), (1, .aastore, 13, 0, 0, .null)]
set_option maxRecDepth 20000 in
theorem oX14_inity_758 : vm_okB 14 mX14_init 758 bX14_inity_758 = true := by decide +kernel
def bX14_inity_771 : List vm_J := [(3, .iinc 1 1, 0, 0, 0, .int 1), (3, .goto (-35), 739, 0, 0, .null)]
set_option maxRecDepth 20000 in
theorem oX14_inity_771 : vm_okB 14 mX14_init 771 bX14_inity_771 = true := by decide +kernel
def bX14_inity_777 : List vm_J := [(1, .iconst 0, 0, 0, 0, .int 0), (1, .istore_n 1, 0, 0, 0, .null)]
set_option maxRecDepth 20000 in
theorem oX14_inity_777 : vm_okB 14 mX14_init 777 bX14_inity_777 = true := by decide +kernel
def bX14_inity_779 : List vm_J := [(1, .iload_n 1, 0, 0, 0, .null), (2, .bipush 6, 0, 0, 0, .int 6), (3, .if_icmp .ge 35, 817, 0, 0, .null), (1, .aload_n 0, 0, 0, 0, .null), (3, .getfield 416, 14, 58, 0, .null), (1, .iload_n 1, 0, 0, 0, .null), (3, .new 114, 13, 0, 0, .null), (1, .dup, 0, 0, 0, .null), (3, .invokespecial 449, 135, 0, 0, .null), (1, .aastore, 13, 0, 0, .null)]
set_option maxRecDepth 20000 in
theorem oX14_inity_779 : vm_okB 14 mX14_init 779 bX14_inity_779 = true := by decide +kernel
def bX14_inity_798 : List vm_J := [(1, .aload_n 0, 0, 0, 0, .null), (3, .getfield 461, 14, 59, 0, .null), (1, .iload_n 1, 0, 0, 0, .null), (3, .new 14, 12, 0, 0, .null), (1, .dup, 0, 0, 0, .null), (3, .invokespecial 448, 132, 0, 0, .null), (1, .aastore, 12, 0, 0, .null)]
set_option maxRecDepth 20000 in
theorem oX14_inity_798 : vm_okB 14 mX14_init 798 bX14_inity_798 = true := by decide +kernel
def bX14_inity_811 : List vm_J := [(3, .iinc 1 1, 0, 0, 0, .int 1), (3, .goto (-35), 779, 0, 0, .null)]
set_option maxRecDepth 20000 in
theorem oX14_inity_811 : vm_okB 14 mX14_init 811 bX14_inity_811 = true := by decide +kernel
def bX14_inity_817 : List vm_J := [(1, .iconst 1, 0, 0, 0, .int 1), (1, .aload_n 0, 0, 0, 0, .null), (3, .getfield 166, 14, 16, 0, .null), (2, .bipush 12, 0, 0, 0, .int 12), (3, .invokestatic 75, 142, 3, 0, .null), (1, .aload_n 0, 0, 0, 0, .null), (3, .getfield 166, 14, 16, 0, .null), (3, .getstatic 173, 6, 0, 0, .null), (1, .aload_n 0, 0, 0, 0, .null), (3, .getfield 166, 14, 16, 0, .null), (2, .bipush 12, 0, 0, 0, .int 12), (3, .invokestatic 18, 143, 4, 0, .null), (1, .istore_n 1, 0, 0, 0, .null)]
set_option maxRecDepth 20000 in
theorem oX14_inity_817 : vm_okB 14 mX14_init 817 bX14_inity_817 = true := by decide +kernel
def bX14_inity_844 : List vm_J := [(1, .aload_n 0, 0, 0, 0, .null), (3, .getfield 166, 14, 16, 0, .null), (2, .bipush 12, 0, 0, 0, .int 12), (1, .iload_n 1, 0, 0, 0, .null), (3, .invokestatic 83, 151, 3, 0, .null), (1, .aload_n 0, 0, 0, 0, .null), (3, .getfield 166, 14, 16, 0, .null), (2, .bipush 12, 0, 0, 0, .int 12), (1, .iconst 0, 0, 0, 0, .int 0), (3, .invokestatic 83, 151, 3, 0, .null), (1, .iconst 3, 0, 0, 0, .int 3), (1, .aload_n 0, 0, 0, 0, .null), (3, .getfield 133, 14, 14, 0, .null), (2, .bipush 12, 0, 0, 0, .int 12), (3, .invokestatic 75, 142, 3, 0, .null), (3, .getstatic 173, 6, 0, 0, .null), (1, .aload_n 0, 0, 0, 0, .null), (3, .getfield 133, 14, 14, 0, .null), (1, .aload_n 0, 0, 0, 0, .null), (3, .getfield 339, 14, 37, 0, .null), (2, .bipush 12, 0, 0, 0, .int 12), (3, .invokestatic 30, 144, 4, 0, .null), (1, .istore_n 1, 0, 0, 0, .null)]
set_option maxRecDepth 20000 in
theorem oX14_inity_844 : vm_okB 14 mX14_init 844 bX14_inity_844 = true := by decide +kernel
def bX14_inity_891 : List vm_J := [(2, .bipush 12, 0, 0, 0, .int 12), (1, .aload_n 0, 0, 0, 0, .null), (3, .getfield 133, 14, 14, 0, .null), (2, .bipush 12, 0, 0, 0, .int 12), (3, .invokestatic 75, 142, 3, 0, .null), (3, .getstatic 173, 6, 0, 0, .null), (1, .aload_n 0, 0, 0, 0, .null), (3, .getfield 133, 14, 14, 0, .null), (1, .aload_n 0, 0, 0, 0, .null), (3, .getfield 333, 14, 38, 0, .null), (2, .bipush 12, 0, 0, 0, .int 12), (3, .invokestatic 30, 144, 4, 0, .null), (1, .istore_n 1, 0, 0, 0, .null)]
set_option maxRecDepth 20000 in
theorem oX14_inity_891 : vm_okB 14 mX14_init 891 bX14_inity_891 = true := by decide +kernel
def bX14_inity_919 : List vm_J := [(1, .return_, 0, 0, 0, .null)]
set_option maxRecDepth 20000 in
theorem oX14_inity_919 : vm_okB 14 mX14_init 919 bX14_inity_919 = true := by decide +kernel
theorem MH_0 {h : vm_H} {M mm hg n N sh : Nat} (k : MH h M mm hg n N sh) (hN : 4294967296 ^ n ≤ 2 * N) : sh = 0 := by
  obtain ⟨_, _, _, h1, _⟩ := k
  rcases sh with _ | s
  · rfl
  · exfalso
    have : N * 2 ≤ N * 2 ^ (s + 1) := Nat.mul_le_mul_left _ (by rw [Nat.pow_succ]; have := Nat.one_le_two_pow (n := s); omega)
    omega
section
variable {l : Launch} {O : Nat → vm_Ob} {f9 : Value} {t : KT}
theorem va_upe {f : Nat → Option Nat} {k : Nat} {v : Option Nat} : va_up f k v k = v := if_pos rfl
theorem va_upn {f : Nat → Option Nat} {k j : Nat} {v : Option Nat} (h : j ≠ k) : va_up f k v j = f j := if_neg h
theorem ref_739 {h0 : vm_H} {a : Nat} {Q : Option Value → vm_H → Prop} (hh : a + 5000 < 1099511627776) (ho : h0.2 a = RO a g09) (c0 : h0.1 = a + 168) (b1' : h0.2 (a + 50) = .inl (.object "VeilMintModel$Spot", 8, .inr (.inr (.inr (.inr (fun _ => none)))))) (b2 : h0.2 (a + 51) = .inl (.object "VeilMintModel$Spot", 8, .inr (.inr (.inr (.inr (fun _ => none)))))) (K : ∀ h1 : vm_H, h1.1 = a + 216 → rr9 h1 (.object "VeilMintModel$Spot") 8 (a + 50) (fun i => a + 168 + 6 * i) → rr9 h1 (.object "VeilMintModel$Spot") 8 (a + 51) (fun i => a + 171 + 6 * i) → (∀ i, i < 8 → SQ h1 (a + 168 + 6 * i) ∧ SQ h1 (a + 171 + 6 * i)) → (∀ q, q ≠ a + 50 → q ≠ a + 51 → q < a + 168 ∨ 1099511627776 ≤ q → h1.2 q = h0.2 q) → vm_T (vm_env l O f9) mX14_init 36 954 739 [(0, .ref a), (1, .int (nI 8))] [] h1 Q) : vm_T (vm_env l O f9) mX14_init 84 1386 739 [(0, .ref a), (1, .int (nI 0))] [] h0 Q := by
  have main : ∀ d j, j + d = 8 → ∀ h : vm_H, h.1 = a + 168 + 6 * j → (∃ f1, h.2 (a + 50) = .inl (.object "VeilMintModel$Spot", 8, .inr (.inr (.inr (.inr f1)))) ∧ ∀ i, i < j → f1 i = some (a + 168 + 6 * i)) → (∃ f2, h.2 (a + 51) = .inl (.object "VeilMintModel$Spot", 8, .inr (.inr (.inr (.inr f2)))) ∧ ∀ i, i < j → f2 i = some (a + 171 + 6 * i)) → (∀ i, i < j → SQ h (a + 168 + 6 * i) ∧ SQ h (a + 171 + 6 * i)) → (∀ q, q ≠ a + 50 → q ≠ a + 51 → q < a + 168 ∨ 1099511627776 ≤ q → h.2 q = h0.2 q) → vm_T (vm_env l O f9) mX14_init (6 * d + 36) (54 * d + 954) 739 [(0, .ref a), (1, .int (nI j))] [] h Q := by
    intro d
    induction d with
    | zero =>
      intro j hj h c1 r1 r2 sq u
      have hj : j = 8 := by omega
      subst hj
      exact vm_more (K h (by omega) r1 r2 sq u) (by omega) (by omega)
    | succ d ih =>
      intro j hj h c1 ⟨fa, e1, v1⟩ ⟨fb, e2, v2⟩ sq u
      have d13 : (vm_df 13).length = 3 := rfl
      have d12 : (vm_df 12).length = 4 := rfl
      have ho1 := (u a (by omega) (by omega) (Or.inl (by omega))).trans ho
      have l1 : a + 50 < 1099511627776 := by omega
      have l2 : a + 51 < 1099511627776 := by omega
      refine vm_go rfl bX14_inity_739 oX14_inity_739 ⟨fun q => absurd q (nI_ge (b := 8) (by omega) (by decide)), fun _ => ⟨_, _, ho1, rfl, ?_⟩⟩
      refine ⟨by omega, show 3 ≤ _ by omega, by omega, ?_⟩
      generalize hq1 : vm_nw h _ = g1
      have gc1 : g1.1 = a + 168 + 6 * j + 1 := by rw [← hq1]; show h.1 + 1 = _; omega
      have ga1 : g1.2 (a + 168 + 6 * j) = .inr (13, vm_df 13) := by rw [← hq1, ← c1]; exact nw_e
      have gu1 : ∀ q, q ≠ a + 168 + 6 * j → g1.2 q = h.2 q := fun q z => by rw [← hq1]; exact nw_n (by omega)
      clear hq1
      rw [c1]
      refine ⟨2, 24, _, v_spot ga1 (by omega) (by omega), by omega, show 24 ≤ _ - 3 by omega, ?_⟩
      rintro _ f1 ⟨rfl, fc1, fo1, fx1, fy1, fv1⟩
      rw [gc1] at fc1 fo1 fx1 fy1 fv1
      have e1' : f1.2 (a + 50) = _ := ((fv1 _ (by omega) (Or.inl (by omega))).trans (gu1 _ (by omega))).trans e1
      have lw1 : a + 168 + 6 * j < 1099511627776 := by omega
      refine ⟨8, fa, _, e1', l1, fo1, lw1, j, rfl, by omega, ?_⟩
      obtain ⟨h2, eh2⟩ : ∃ h2, h2 = vm_up f1 (a + 50) (.inl (.object "VeilMintModel$Spot", 8, .inr (.inr (.inr (.inr (va_up fa j (some (a + 168 + 6 * j)))))))) := ⟨_, rfl⟩
      have w2 : h2.2 (a + 50) = .inl (.object "VeilMintModel$Spot", 8, .inr (.inr (.inr (.inr (va_up fa j (some (a + 168 + 6 * j))))))) := by rw [eh2]; exact vm_upe
      have u2 : ∀ q, q ≠ a + 50 → h2.2 q = f1.2 q := fun q z => by rw [eh2]; exact vm_upn z
      have c2 : h2.1 = a + 168 + 6 * j + 3 := by rw [eh2]; show f1.1 = _; omega
      refine vm_Th (lv' := [(0, .ref a), (1, .int (nI j))]) (h' := h2) rfl eh2 ?_
      have k2 : ∀ q, q < a + 168 + 6 * j ∨ 1099511627776 ≤ q → q ≠ a + 50 → h2.2 q = h.2 q := fun q z1 z2 => (u2 q z2).trans ((fv1 q (by omega) (by omega)).trans (gu1 q (by omega)))
      have ho2 : h2.2 a = RO a g09 := (k2 a (by omega) (by omega)).trans ho1
      refine vm_more (kc' := 6 * d + 36 + 3) (ks' := 54 * d + 954 + 27) ?_ (by omega) (by omega)
      refine vm_go rfl bX14_inity_758 oX14_inity_758 ⟨_, _, ho2, rfl, ?_⟩
      refine ⟨by omega, show 3 ≤ _ by omega, by omega, ?_⟩
      generalize hq2 : vm_nw h2 _ = g2
      have gc2 : g2.1 = a + 171 + 6 * j + 1 := by rw [← hq2]; show h2.1 + 1 = _; omega
      have ew : h2.1 = a + 171 + 6 * j := by omega
      have ga2 : g2.2 (a + 171 + 6 * j) = .inr (13, vm_df 13) := by rw [← hq2, ← ew]; exact nw_e
      have gu2 : ∀ q, q ≠ a + 171 + 6 * j → g2.2 q = h2.2 q := fun q z => by rw [← hq2]; exact nw_n (by omega)
      clear hq2
      rw [ew]
      refine ⟨2, 24, _, v_spot ga2 (by omega) (by omega), by omega, show 24 ≤ _ - 3 by omega, ?_⟩
      rintro _ f2 ⟨rfl, fc2, fo2, fx2, fy2, fv2⟩
      rw [gc2] at fc2 fo2 fx2 fy2 fv2
      have e2' : f2.2 (a + 51) = _ := (((fv2 _ (by omega) (Or.inl (by omega))).trans (gu2 _ (by omega))).trans (k2 _ (by omega) (by omega))).trans e2
      have lw2 : a + 171 + 6 * j < 1099511627776 := by omega
      refine ⟨8, fb, _, e2', l2, fo2, lw2, j, rfl, by omega, ?_⟩
      obtain ⟨h4, eh4⟩ : ∃ h4, h4 = vm_up f2 (a + 51) (.inl (.object "VeilMintModel$Spot", 8, .inr (.inr (.inr (.inr (va_up fb j (some (a + 171 + 6 * j)))))))) := ⟨_, rfl⟩
      have w4 : h4.2 (a + 51) = .inl (.object "VeilMintModel$Spot", 8, .inr (.inr (.inr (.inr (va_up fb j (some (a + 171 + 6 * j))))))) := by rw [eh4]; exact vm_upe
      have u4 : ∀ q, q ≠ a + 51 → h4.2 q = f2.2 q := fun q z => by rw [eh4]; exact vm_upn z
      have c4 : h4.1 = a + 168 + 6 * j + 6 := by rw [eh4]; show f2.1 = _; omega
      refine vm_Th (lv' := [(0, .ref a), (1, .int (nI j))]) (h' := h4) rfl eh4 ?_
      have k4 : ∀ q, q < a + 171 + 6 * j ∨ 1099511627776 ≤ q → q ≠ a + 51 → h4.2 q = h2.2 q := fun q z1 z2 => (u4 q z2).trans ((fv2 q (by omega) (by omega)).trans (gu2 q (by omega)))
      have x4 : ∀ q, q < a + 168 + 6 * j ∨ 1099511627776 ≤ q → q ≠ a + 50 → q ≠ a + 51 → h4.2 q = h.2 q := fun q z1 z2 z3 => (k4 q (by omega) z3).trans (k2 q z1 z2)
      refine vm_go rfl bX14_inity_771 oX14_inity_771 (vm_Th (by rw [← nI_1 j]; rfl) rfl (vm_more (ih (j + 1) (by omega) h4 (by omega) ⟨_, (k4 _ (by omega) (by omega)).trans w2, fun i hi => ?_⟩ ⟨_, w4, fun i hi => ?_⟩ (fun i hi => ?_) (fun q z1 z2 z3 => (x4 q (by omega) z1 z2).trans (u q z1 z2 z3))) (by omega) (by omega)))
      · by_cases e : i = j
        · rw [e]; exact va_upe
        · rw [va_upn e]; exact v1 i (by omega)
      · by_cases e : i = j
        · rw [e]; exact va_upe
        · rw [va_upn e]; exact v2 i (by omega)
      · by_cases e : i = j
        · rw [e]
          exact ⟨⟨⟨_, (k4 _ (by omega) (by omega)).trans ((u2 _ (by omega)).trans fo1)⟩, ⟨_, (k4 _ (by omega) (by omega)).trans ((u2 _ (by omega)).trans fx1)⟩, ⟨_, (k4 _ (by omega) (by omega)).trans ((u2 _ (by omega)).trans fy1)⟩⟩, ⟨⟨_, (u4 _ (by omega)).trans fo2⟩, ⟨_, (u4 _ (by omega)).trans fx2⟩, ⟨_, (u4 _ (by omega)).trans fy2⟩⟩⟩
        · have := sq i (by omega)
          exact ⟨SQ_cg this.1 (fun q z1 z2 => x4 q (by omega) (by omega) (by omega)), SQ_cg this.2 (fun q z1 z2 => x4 q (by omega) (by omega) (by omega))⟩
  exact vm_more (main 8 0 rfl h0 (by omega) ⟨_, b1', fun i hi => by omega⟩ ⟨_, b2, fun i hi => by omega⟩ (fun i hi => by omega) (fun q _ _ _ => rfl)) (by decide) (by decide)
theorem ref_779 {h0 : vm_H} {a : Nat} {Q : Option Value → vm_H → Prop} (hh : a + 5000 < 1099511627776) (ho : h0.2 a = RO a g09) (c0 : h0.1 = a + 216) (b1' : h0.2 (a + 83) = .inl (.object "VeilMintModel$Spot", 6, .inr (.inr (.inr (.inr (fun _ => none)))))) (b2 : h0.2 (a + 84) = .inl (.object "VeilMintModel$Mod", 6, .inr (.inr (.inr (.inr (fun _ => none)))))) (K : ∀ h1 : vm_H, h1.1 = a + 252 → rr9 h1 (.object "VeilMintModel$Spot") 6 (a + 83) (fun i => a + 216 + 6 * i) → rr9 h1 (.object "VeilMintModel$Mod") 6 (a + 84) (fun i => a + 219 + 6 * i) → (∀ i, i < 6 → SQ h1 (a + 216 + 6 * i) ∧ MQ9 h1 (a + 219 + 6 * i)) → (∀ q, q ≠ a + 83 → q ≠ a + 84 → q < a + 216 ∨ 1099511627776 ≤ q → h1.2 q = h0.2 q) → vm_T (vm_env l O f9) mX14_init 0 0 779 [(0, .ref a), (1, .int (nI 6))] [] h1 Q) : vm_T (vm_env l O f9) mX14_init 36 954 779 [(0, .ref a), (1, .int (nI 0))] [] h0 Q := by
  have main : ∀ d j, j + d = 6 → ∀ h : vm_H, h.1 = a + 216 + 6 * j → (∃ f1, h.2 (a + 83) = .inl (.object "VeilMintModel$Spot", 6, .inr (.inr (.inr (.inr f1)))) ∧ ∀ i, i < j → f1 i = some (a + 216 + 6 * i)) → (∃ f2, h.2 (a + 84) = .inl (.object "VeilMintModel$Mod", 6, .inr (.inr (.inr (.inr f2)))) ∧ ∀ i, i < j → f2 i = some (a + 219 + 6 * i)) → (∀ i, i < j → SQ h (a + 216 + 6 * i) ∧ MQ9 h (a + 219 + 6 * i)) → (∀ q, q ≠ a + 83 → q ≠ a + 84 → q < a + 216 ∨ 1099511627776 ≤ q → h.2 q = h0.2 q) → vm_T (vm_env l O f9) mX14_init (6 * d + 0) (159 * d + 0) 779 [(0, .ref a), (1, .int (nI j))] [] h Q := by
    intro d
    induction d with
    | zero =>
      intro j hj h c1 r1 r2 sq u
      have hj : j = 6 := by omega
      subst hj
      exact vm_more (K h (by omega) r1 r2 sq u) (by omega) (by omega)
    | succ d ih =>
      intro j hj h c1 ⟨fa, e1, v1⟩ ⟨fb, e2, v2⟩ sq u
      have d13 : (vm_df 13).length = 3 := rfl
      have d12 : (vm_df 12).length = 4 := rfl
      have ho1 := (u a (by omega) (by omega) (Or.inl (by omega))).trans ho
      have l1 : a + 83 < 1099511627776 := by omega
      have l2 : a + 84 < 1099511627776 := by omega
      refine vm_go rfl bX14_inity_779 oX14_inity_779 ⟨fun q => absurd q (nI_ge (b := 6) (by omega) (by decide)), fun _ => ⟨_, _, ho1, rfl, ?_⟩⟩
      refine ⟨by omega, show 3 ≤ _ by omega, by omega, ?_⟩
      generalize hq1 : vm_nw h _ = g1
      have gc1 : g1.1 = a + 216 + 6 * j + 1 := by rw [← hq1]; show h.1 + 1 = _; omega
      have ga1 : g1.2 (a + 216 + 6 * j) = .inr (13, vm_df 13) := by rw [← hq1, ← c1]; exact nw_e
      have gu1 : ∀ q, q ≠ a + 216 + 6 * j → g1.2 q = h.2 q := fun q z => by rw [← hq1]; exact nw_n (by omega)
      clear hq1
      rw [c1]
      refine ⟨2, 24, _, v_spot ga1 (by omega) (by omega), by omega, show 24 ≤ _ - 3 by omega, ?_⟩
      rintro _ f1 ⟨rfl, fc1, fo1, fx1, fy1, fv1⟩
      rw [gc1] at fc1 fo1 fx1 fy1 fv1
      have e1' : f1.2 (a + 83) = _ := ((fv1 _ (by omega) (Or.inl (by omega))).trans (gu1 _ (by omega))).trans e1
      have lw1 : a + 216 + 6 * j < 1099511627776 := by omega
      refine ⟨6, fa, _, e1', l1, fo1, lw1, j, rfl, by omega, ?_⟩
      obtain ⟨h2, eh2⟩ : ∃ h2, h2 = vm_up f1 (a + 83) (.inl (.object "VeilMintModel$Spot", 6, .inr (.inr (.inr (.inr (va_up fa j (some (a + 216 + 6 * j)))))))) := ⟨_, rfl⟩
      have w2 : h2.2 (a + 83) = .inl (.object "VeilMintModel$Spot", 6, .inr (.inr (.inr (.inr (va_up fa j (some (a + 216 + 6 * j))))))) := by rw [eh2]; exact vm_upe
      have u2 : ∀ q, q ≠ a + 83 → h2.2 q = f1.2 q := fun q z => by rw [eh2]; exact vm_upn z
      have c2 : h2.1 = a + 216 + 6 * j + 3 := by rw [eh2]; show f1.1 = _; omega
      refine vm_Th (lv' := [(0, .ref a), (1, .int (nI j))]) (h' := h2) rfl eh2 ?_
      have k2 : ∀ q, q < a + 216 + 6 * j ∨ 1099511627776 ≤ q → q ≠ a + 83 → h2.2 q = h.2 q := fun q z1 z2 => (u2 q z2).trans ((fv1 q (by omega) (by omega)).trans (gu1 q (by omega)))
      have ho2 : h2.2 a = RO a g09 := (k2 a (by omega) (by omega)).trans ho1
      refine vm_more (kc' := 6 * d + 0 + 3) (ks' := 159 * d + 0 + 132) ?_ (by omega) (by omega)
      refine vm_go rfl bX14_inity_798 oX14_inity_798 ⟨_, _, ho2, rfl, ?_⟩
      refine ⟨by omega, show 4 ≤ _ by omega, by omega, ?_⟩
      generalize hq2 : vm_nw h2 _ = g2
      have gc2 : g2.1 = a + 219 + 6 * j + 1 := by rw [← hq2]; show h2.1 + 1 = _; omega
      have ew : h2.1 = a + 219 + 6 * j := by omega
      have ga2 : g2.2 (a + 219 + 6 * j) = .inr (12, vm_df 12) := by rw [← hq2, ← ew]; exact nw_e
      have gu2 : ∀ q, q ≠ a + 219 + 6 * j → g2.2 q = h2.2 q := fun q z => by rw [← hq2]; exact nw_n (by omega)
      clear hq2
      rw [ew]
      refine ⟨2, 128, _, v_mod ga2 (by omega) (by omega), by omega, show 128 ≤ _ - 4 by omega, ?_⟩
      rintro _ f2 ⟨rfl, fc2, fo2, fx2, fy2, fv2⟩
      rw [gc2] at fc2 fo2 fx2 fy2 fv2
      have e2' : f2.2 (a + 84) = _ := (((fv2 _ (by omega) (Or.inl (by omega))).trans (gu2 _ (by omega))).trans (k2 _ (by omega) (by omega))).trans e2
      have lw2 : a + 219 + 6 * j < 1099511627776 := by omega
      refine ⟨6, fb, _, e2', l2, fo2, lw2, j, rfl, by omega, ?_⟩
      obtain ⟨h4, eh4⟩ : ∃ h4, h4 = vm_up f2 (a + 84) (.inl (.object "VeilMintModel$Mod", 6, .inr (.inr (.inr (.inr (va_up fb j (some (a + 219 + 6 * j)))))))) := ⟨_, rfl⟩
      have w4 : h4.2 (a + 84) = .inl (.object "VeilMintModel$Mod", 6, .inr (.inr (.inr (.inr (va_up fb j (some (a + 219 + 6 * j))))))) := by rw [eh4]; exact vm_upe
      have u4 : ∀ q, q ≠ a + 84 → h4.2 q = f2.2 q := fun q z => by rw [eh4]; exact vm_upn z
      have c4 : h4.1 = a + 216 + 6 * j + 6 := by rw [eh4]; show f2.1 = _; omega
      refine vm_Th (lv' := [(0, .ref a), (1, .int (nI j))]) (h' := h4) rfl eh4 ?_
      have k4 : ∀ q, q < a + 219 + 6 * j ∨ 1099511627776 ≤ q → q ≠ a + 84 → h4.2 q = h2.2 q := fun q z1 z2 => (u4 q z2).trans ((fv2 q (by omega) (by omega)).trans (gu2 q (by omega)))
      have x4 : ∀ q, q < a + 216 + 6 * j ∨ 1099511627776 ≤ q → q ≠ a + 83 → q ≠ a + 84 → h4.2 q = h.2 q := fun q z1 z2 z3 => (k4 q (by omega) z3).trans (k2 q z1 z2)
      refine vm_go rfl bX14_inity_811 oX14_inity_811 (vm_Th (by rw [← nI_1 j]; rfl) rfl (vm_more (ih (j + 1) (by omega) h4 (by omega) ⟨_, (k4 _ (by omega) (by omega)).trans w2, fun i hi => ?_⟩ ⟨_, w4, fun i hi => ?_⟩ (fun i hi => ?_) (fun q z1 z2 z3 => (x4 q (by omega) z1 z2).trans (u q z1 z2 z3))) (by omega) (by omega)))
      · by_cases e : i = j
        · rw [e]; exact va_upe
        · rw [va_upn e]; exact v1 i (by omega)
      · by_cases e : i = j
        · rw [e]; exact va_upe
        · rw [va_upn e]; exact v2 i (by omega)
      · by_cases e : i = j
        · rw [e]
          exact ⟨⟨⟨_, (k4 _ (by omega) (by omega)).trans ((u2 _ (by omega)).trans fo1)⟩, ⟨_, (k4 _ (by omega) (by omega)).trans ((u2 _ (by omega)).trans fx1)⟩, ⟨_, (k4 _ (by omega) (by omega)).trans ((u2 _ (by omega)).trans fy1)⟩⟩, ⟨⟨_, _, (u4 _ (by omega)).trans fo2⟩, ⟨_, (u4 _ (by omega)).trans fx2⟩, ⟨_, (u4 _ (by omega)).trans fy2⟩⟩⟩
        · have := sq i (by omega)
          exact ⟨SQ_cg this.1 (fun q z1 z2 => x4 q (by omega) (by omega) (by omega)), MQ9_cg this.2 (fun q z1 z2 => x4 q (by omega) (by omega) (by omega))⟩
  exact vm_more (main 6 0 rfl h0 (by omega) ⟨_, b1', fun i hi => by omega⟩ ⟨_, b2, fun i hi => by omega⟩ (fun i hi => by omega) (fun q _ _ _ => rfl)) (by decide) (by decide)
theorem ref_683 {h : vm_H} {a : Nat} {Q : Option Value → vm_H → Prop} (r0 : R0 h a) (hh : a + 5000 < 1099511627776) (rv : RV h) (gx : wv h 12 1099511627784 12 cGX) (gy : wv h 12 1099511627785 12 cGY) (K : ∀ h1 : vm_H, h1.1 = h.1 → MH h1 (a + 8) (a + 9) (a + 10) 12 (cPm + 1) 0 → MH h1 (a + 11) (a + 12) (a + 13) 12 cQ 0 → SP h1 (a + 14) gP → (∀ q, ¬ (a + 8 ≤ q ∧ q ≤ a + 16) → h1.2 q = h.2 q) → vm_T (vm_env l O f9) mX14_init 84 1386 739 [(0, .ref a), (1, .int (nI 0))] [] h1 Q) : vm_T (vm_env l O f9) mX14_init 84 1386 683 [(0, .ref a)] [] h Q := by
  obtain ⟨⟨c0, ho⟩, _, _, _, _, ⟨p1, p2, p3⟩, ⟨q1, q2, q3⟩, ⟨s1, s2, s3⟩, _⟩ := r0
  have bP : cPm + 1 < 4294967296 ^ 12 := by decide +kernel
  have bP2 : 4294967296 ^ 12 ≤ 2 * (cPm + 1) := by decide +kernel
  have bP1 : 4294967296 ^ (12 - 1) ≤ cPm + 1 := by decide +kernel
  have bQ : cQ < 4294967296 ^ 12 := by decide +kernel
  have bQ2 : 4294967296 ^ 12 ≤ 2 * cQ := by decide +kernel
  have bQ1 : 4294967296 ^ (12 - 1) ≤ cQ := by decide +kernel
  refine vm_go rfl bX14_inity_683 oX14_inity_683 ⟨_, _, ho, rfl, ⟨_, rfl, ⟨_, p1, 0, 0, _, rm_is (n := 12) p1 ⟨_, p2⟩ ⟨_, p3⟩ rv.2.1 (by decide) (by decide) (by decide) bP bP1 (by omega) (by omega), Nat.zero_le _, Nat.zero_le _, ?_⟩⟩⟩
  rintro _ h1 ⟨rfl, ⟨sh, mh⟩, F1⟩
  have e0 := MH_0 mh bP2
  subst e0
  have ho1 : h1.2 a = RO a g09 := (F1.2 a (by omega)).trans ho
  have rv1 : RV h1 := RV_fr rv F1 (fun q z => by omega)
  have q1' := (F1.2 _ (by omega)).trans q1
  refine ⟨_, _, ho1, rfl, ⟨_, rfl, ⟨_, q1', 0, 0, _, rm_is (n := 12) q1' ⟨_, (F1.2 _ (by omega)).trans q2⟩ ⟨_, (F1.2 _ (by omega)).trans q3⟩ rv1.2.2 (by decide) (by decide) (by decide) bQ bQ1 (by omega) (by omega), Nat.zero_le _, Nat.zero_le _, ?_⟩⟩⟩
  rintro _ h2 ⟨rfl, ⟨sh, mh2⟩, F2⟩
  have e0 := MH_0 mh2 bQ2
  subst e0
  have F02 : fr h h2 (fun q => a + 8 ≤ q ∧ q ≤ a + 13) := fr_trans (fr_mono F1 (fun q z => by omega)) (fr_mono F2 (fun q z => by omega))
  have ho2 : h2.2 a = RO a g09 := (F02.2 a (by omega)).trans ho
  have mh1 := MH_cg3 mh F2 (by omega)
  have s1' := (F02.2 _ (by omega)).trans s1
  obtain ⟨fx, ex, vx⟩ := wv_cg gx (F02.2 _ (by omega))
  refine ⟨_, rfl, ⟨_, _, ho2, rfl, ⟨_, _, s1', rfl, ⟨0, 0, _, rm_copy (n := 12) ex ((F02.2 _ (by omega)).trans s2) (by decide) (by decide) (by decide) (by omega), Nat.zero_le _, Nat.zero_le _, ?_⟩⟩⟩⟩
  rintro _ h3 ⟨rfl, ⟨f3, e3, v3, _⟩, F3⟩
  have w3 : wv h3 12 (a + 15) 12 cGX := ⟨f3, e3, fun j hj => by rw [v3 j hj]; exact vx j hj⟩
  have F03 : fr h h3 (fun q => a + 8 ≤ q ∧ q ≤ a + 15) := fr_trans (fr_mono F02 (fun q z => by omega)) (fr_mono F3 (fun q z => by omega))
  have ho3 : h3.2 a = RO a g09 := (F03.2 a (by omega)).trans ho
  have s3' := (F3.2 _ (by omega)).trans s1'
  obtain ⟨fy, ey, vy⟩ := wv_cg gy (F03.2 _ (by omega))
  refine ⟨_, rfl, ⟨_, _, ho3, rfl, ⟨_, _, s3', rfl, ⟨0, 0, _, rm_copy (n := 12) ey ((F03.2 _ (by omega)).trans s3) (by decide) (by decide) (by decide) (by omega), Nat.zero_le _, Nat.zero_le _, ?_⟩⟩⟩⟩
  rintro _ h4 ⟨rfl, ⟨f4, e4, v4, _⟩, F4⟩
  have w4 : wv h4 12 (a + 16) 12 cGY := ⟨f4, e4, fun j hj => by rw [v4 j hj]; exact vy j hj⟩
  have F24 : fr h2 h4 (fun q => q = a + 15 ∨ q = a + 16) := fr_trans (fr_mono F3 (fun q z => .inl z)) (fr_mono F4 (fun q z => .inr z))
  have F04 : fr h h4 (fun q => a + 8 ≤ q ∧ q ≤ a + 16) := fr_trans (fr_mono F02 (fun q z => by omega)) (fr_mono F24 (fun q z => by omega))
  have vX : (fz (cGX : Int)).val = cGX := by decide +kernel
  have vY : (fz (cGY : Int)).val = cGY := by decide +kernel
  refine vm_Th (lv' := [(0, .ref a), (1, .int (nI 0))]) (h' := h4) rfl rfl ?_
  refine K h4 F04.1 (MH_cg3 mh1 F24 (by omega)) (MH_cg3 mh2 F24 (by omega)) ⟨(F24.2 _ (by omega)).trans s1', ?_, ?_⟩ (fun q z => F04.2 q z)
  · show wv h4 12 (a + 15) 12 (fz (cGX : Int)).val
    rw [vX]; exact wv_cg w3 (F4.2 _ (by omega))
  · show wv h4 12 (a + 16) 12 (fz (cGY : Int)).val
    rw [vY]; exact w4
theorem ref_817 {h : vm_H} {a j9 : Nat} {Q : Option Value → vm_H → Prop} (ho : h.2 a = RO a g09) (hh : a + 5000 < 1099511627776) (rv : RV h) (r24 : iw h 12 (a + 24)) (r26 : iw h 12 (a + 26)) (r46 : iw h 12 (a + 46)) (r47 : iw h 12 (a + 47)) (K : ∀ h1 : vm_H, h1.1 = h.1 → wv h1 12 (a + 26) 12 rE9 → wq h1 (a + 46) (-3) → wq h1 (a + 47) (-12) → iw h1 12 (a + 24) → (∀ q, q ≠ a + 24 → q ≠ a + 26 → q ≠ a + 46 → q ≠ a + 47 → h1.2 q = h.2 q) → Q none h1) : vm_T (vm_env l O f9) mX14_init 0 0 817 [(0, .ref a), (1, .int (nI j9))] [] h Q := by
  have bP : cPm + 1 < 4294967296 ^ 12 := by decide +kernel
  have b1 : 1 < 4294967296 ^ 12 := by decide +kernel
  have b1P : 1 + (cPm + 1) < 4294967296 ^ 12 := by decide +kernel
  obtain ⟨f24, r24⟩ := r24
  obtain ⟨f26, r26⟩ := r26
  obtain ⟨f46, r46⟩ := r46
  obtain ⟨f47, r47⟩ := r47
  refine vm_go rfl bX14_inity_817 oX14_inity_817 ⟨_, _, ho, rfl, ⟨0, 0, _, rm_small (x := 1) (n := 12) r26 (by decide) (by decide) (by decide) (by omega), Nat.zero_le _, Nat.zero_le _, ?_⟩⟩
  rintro _ h1 ⟨rfl, ⟨g1, e1, x1, y1, _⟩, F1⟩
  have w1 : wv h1 12 (a + 26) 12 1 := wv_sm e1 (by decide) x1 y1
  have ho1 : h1.2 a = RO a g09 := (F1.2 a (by omega)).trans ho
  have rv1 : RV h1 := RV_fr rv F1 (fun q z => by omega)
  refine ⟨_, _, ho1, rfl, ⟨_, rfl, ⟨_, _, ho1, rfl, ⟨0, 0, _, rm_plus (n := 12) w1 rv1.2.1 e1 (by decide) (by decide) (by decide) (by decide) (by omega) b1 bP, Nat.zero_le _, Nat.zero_le _, ?_⟩⟩⟩⟩
  rintro _ h2 ⟨rfl, ⟨g2, e2, x2, _⟩, F2⟩
  have w2 : wv h2 12 (a + 26) 12 (1 + (cPm + 1)) := ⟨g2, e2, x2⟩
  rw [Nat.div_eq_of_lt b1P]
  have F02 : fr h h2 (fun q => q = a + 26) := fr_trans F1 F2
  have ho2 : h2.2 a = RO a g09 := (F02.2 a (by omega)).trans ho
  refine vm_Th (lv' := [(0, .ref a), (1, .int (nI 0))]) (h' := h2) rfl rfl ?_
  refine vm_go rfl bX14_inity_844 oX14_inity_844 ⟨_, _, ho2, rfl, ⟨0, 0, _, rm_half (n := 12) (o9 := 0) w2 (by decide) (by decide) (by omega) b1P (by decide), Nat.zero_le _, Nat.zero_le _, ?_⟩⟩
  rintro _ h3 ⟨rfl, w3, F3⟩
  rw [Nat.zero_mul, Nat.add_zero] at w3
  have F03 : fr h h3 (fun q => q = a + 26) := fr_trans F02 F3
  have ho3 : h3.2 a = RO a g09 := (F03.2 a (by omega)).trans ho
  refine ⟨_, _, ho3, rfl, ⟨0, 0, _, rm_half (n := 12) (o9 := 0) w3 (by decide) (by decide) (by omega) (by omega) (by decide), Nat.zero_le _, Nat.zero_le _, ?_⟩⟩
  rintro _ h4 ⟨rfl, w4, F4⟩
  rw [Nat.zero_mul, Nat.add_zero] at w4
  have eR : ((1 + (cPm + 1) + 0) / 2 + 0) / 2 = rE9 := by decide +kernel
  rw [eR] at w4
  have F04 : fr h h4 (fun q => q = a + 26) := fr_trans F03 F4
  have ho4 : h4.2 a = RO a g09 := (F04.2 a (by omega)).trans ho
  refine ⟨_, _, ho4, rfl, ⟨0, 0, _, rm_small (x := 3) (n := 12) (ia_cg9 r24 (F04.2 _ (by omega))) (by decide) (by decide) (by decide) (by omega), Nat.zero_le _, Nat.zero_le _, ?_⟩⟩
  rintro _ h5 ⟨rfl, ⟨g5, e5, x5, y5, _⟩, F5⟩
  have w5 : wv h5 12 (a + 24) 12 3 := wv_sm e5 (by decide) x5 y5
  have F05 : fr h h5 (fun q => q = a + 24 ∨ q = a + 26) := fr_trans (fr_mono F04 (fun q z => .inr z)) (fr_mono F5 (fun q z => .inl z))
  have ho5 : h5.2 a = RO a g09 := (F05.2 a (by omega)).trans ho
  have rv5 : RV h5 := RV_fr rv F05 (fun q z => by omega)
  refine ⟨_, rfl, ⟨_, _, ho5, rfl, ⟨_, _, ho5, rfl, ⟨0, 0, _, rm_minus (n := 12) rv5.2.1 w5 (ia_cg9 r46 (F05.2 _ (by omega))) (by decide) (by decide) (by decide) (by decide) (by omega), Nat.zero_le _, Nat.zero_le _, ?_⟩⟩⟩⟩
  rintro _ h6 ⟨rfl, ⟨g6, e6, x6, _⟩, F6⟩
  have g3 : 3 ≤ cPm + 1 := by decide +kernel
  have w6 : wv h6 12 (a + 46) 12 (cPm + 1 - 3) := ⟨g6, e6, fun k hk => by rw [x6 k hk, dz_ge g3]⟩
  have F06 : fr h h6 (fun q => q = a + 24 ∨ q = a + 26 ∨ q = a + 46) := fr_trans (fr_mono F05 (fun q z => by omega)) (fr_mono F6 (fun q z => by omega))
  have ho6 : h6.2 a = RO a g09 := (F06.2 a (by omega)).trans ho
  obtain ⟨vb6, evb6⟩ : ∃ vb6, iZ (bw9 (cPm + 1) 3 12) = vb6 := ⟨_, rfl⟩
  rw [evb6]
  refine vm_Th (lv' := [(0, .ref a), (1, .int vb6)]) (h' := h6) rfl rfl ?_
  refine vm_go rfl bX14_inity_891 oX14_inity_891 ⟨_, _, ho6, rfl, ⟨0, 0, _, rm_small (x := 12) (n := 12) (ia_cg9 e5 (F6.2 _ (by omega))) (by decide) (by decide) (by decide) (by omega), Nat.zero_le _, Nat.zero_le _, ?_⟩⟩
  rintro _ h7 ⟨rfl, ⟨g7, e7, x7, y7, _⟩, F7⟩
  have w7 : wv h7 12 (a + 24) 12 12 := wv_sm e7 (by decide) x7 y7
  have F07 : fr h h7 (fun q => q = a + 24 ∨ q = a + 26 ∨ q = a + 46) := fr_trans F06 (fr_mono F7 (fun q z => by omega))
  have ho7 : h7.2 a = RO a g09 := (F07.2 a (by omega)).trans ho
  have rv7 : RV h7 := RV_fr rv F07 (fun q z => by omega)
  refine ⟨_, rfl, ⟨_, _, ho7, rfl, ⟨_, _, ho7, rfl, ⟨0, 0, _, rm_minus (n := 12) rv7.2.1 w7 (ia_cg9 r47 (F07.2 _ (by omega))) (by decide) (by decide) (by decide) (by decide) (by omega), Nat.zero_le _, Nat.zero_le _, ?_⟩⟩⟩⟩
  rintro _ h8 ⟨rfl, ⟨g8, e8, x8, _⟩, F8⟩
  have g12 : 12 ≤ cPm + 1 := by decide +kernel
  have w8 : wv h8 12 (a + 47) 12 (cPm + 1 - 12) := ⟨g8, e8, fun k hk => by rw [x8 k hk, dz_ge g12]⟩
  have F08 : fr h h8 (fun q => q = a + 24 ∨ q = a + 26 ∨ q = a + 46 ∨ q = a + 47) := fr_trans (fr_mono F07 (fun q z => by omega)) (fr_mono F8 (fun q z => by omega))
  obtain ⟨vb8, evb8⟩ : ∃ vb8, iZ (bw9 (cPm + 1) 12 12) = vb8 := ⟨_, rfl⟩
  rw [evb8]
  refine vm_Th (lv' := [(0, .ref a), (1, .int vb8)]) (h' := h8) rfl rfl ?_
  have v3 : (-3 : fq).val = cPm + 1 - 3 := by decide +kernel
  have v12 : (-12 : fq).val = cPm + 1 - 12 := by decide +kernel
  have f48 : ∀ q, q ≠ a + 24 → q ≠ a + 46 → q ≠ a + 47 → h8.2 q = h4.2 q := fun q z1 z2 z3 => (F8.2 q z3).trans ((F7.2 q z1).trans ((F6.2 q z2).trans (F5.2 q z1)))
  refine vm_go rfl bX14_inity_919 oX14_inity_919 (K h8 F08.1 (wv_cg w4 (f48 _ (by omega) (by omega) (by omega))) ?_ ?_ (wv_iw (wv_cg w7 (F8.2 _ (by omega)))) (fun q z1 z2 z3 z4 => F08.2 q (by omega)))
  · show wv h8 12 (a + 46) 12 (-3 : fq).val
    rw [v3]; exact wv_cg w6 ((F8.2 _ (by omega)).trans (F7.2 _ (by omega)))
  · show wv h8 12 (a + 47) 12 (-12 : fq).val
    rw [v12]; exact w8
theorem RV_old {h h' : vm_H} (k : RV h) (e : ∀ q, 1099511627776 ≤ q → h'.2 q = h.2 q) : RV h' := ⟨wv_cg k.1 (e _ (by decide)), wv_cg k.2.1 (e _ (by decide)), wv_cg k.2.2 (e _ (by decide))⟩
theorem RT_old {h h' : vm_H} (k : RT h t) (e : ∀ q, 1099511627776 ≤ q → h'.2 q = h.2 q) : RT h' t := by
  obtain ⟨⟨w1, w2, w3, w4, w5, w6, w7, w8⟩, t1, t2, t3, t4⟩ := k
  exact ⟨⟨sto_fr w1 e, sto_fr w2 e, sto_fr w3 e, sto_fr w4 e, sto_fr w5 e, sto_fr w6 e, sto_fr w7 e, sto_fr w8 e⟩, (e _ (by decide)).trans t1, (e _ (by decide)).trans t2, (e _ (by decide)).trans t3, (e _ (by decide)).trans t4⟩
set_option maxHeartbeats 4000000 in
theorem v_ref {h : vm_H} {a : Nat} (m0 : h.2 a = .inr (14, vm_df 14)) (c0 : h.1 = a + 1) (hh : a + 5000 < 1099511627776) (rv : RV h) (rt : RT h t) (gx : wv h 12 1099511627784 12 cGX) (gy : wv h 12 1099511627785 12 cGY) : vm_Met (vm_env l O f9) mX14_init 251 26437 [.ref a] h (fun r h' => r = none ∧ h'.1 = a + 252 ∧ (∀ kf af, RM h' a t 0 [] [] 0 0 0 kf af (fun _ => 0) false (-1) 0) ∧ ∀ q, q ≠ a → q < a + 1 ∨ 1099511627776 ≤ q → h'.2 q = h.2 q) := by
  refine vm_met rfl (Nat.le_of_ble_eq_true rfl) ?_
  refine ref_0 m0 c0 hh ?_
  intro h1 r0 u1
  have o1 : ∀ q, 1099511627776 ≤ q → h1.2 q = h.2 q := fun q hq => u1 q (by omega) (Or.inr hq)
  refine ref_683 r0 hh (RV_old rv o1) (wv_cg gx (o1 _ (by decide))) (wv_cg gy (o1 _ (by decide))) ?_
  intro h2 c2 mp mq sp u2
  obtain ⟨⟨c1, ho1⟩, zi9, zb9, ⟨lw1, lw2⟩, zp9, _, _, _, ⟨r26, r46, r47⟩, ⟨r50, r51⟩, ⟨r83, r84⟩, ⟨s73, s74, s75, s76, s77, s85, s86, s87⟩, ⟨s88, s89, s90, s91, s92⟩, ⟨s152, s153, s154⟩⟩ := r0
  have ho2 : h2.2 a = RO a g09 := (u2 a (by omega)).trans ho1
  refine ref_739 hh ho2 (by omega) ((u2 _ (by omega)).trans r50) ((u2 _ (by omega)).trans r51) ?_
  intro h3 c3 r50' r51' sq3 u3'
  have ho3 : h3.2 a = RO a g09 := (u3' a (by omega) (by omega) (Or.inl (by omega))).trans ho2
  refine vm_go rfl bX14_inity_739 oX14_inity_739 ⟨fun _ => ?_, fun q => absurd (nI_le (a := 8) (b := 8) (by decide) (by decide)) q⟩
  refine vm_go rfl bX14_inity_777 oX14_inity_777 (vm_Th (lv' := [(0, .ref a), (1, .int (nI 0))]) (h' := h3) rfl rfl ?_)
  refine ref_779 hh ho3 c3 ((u3' _ (by omega) (by omega) (Or.inl (by omega))).trans ((u2 _ (by omega)).trans r83)) ((u3' _ (by omega) (by omega) (Or.inl (by omega))).trans ((u2 _ (by omega)).trans r84)) ?_
  intro h4 c4 r83' r84' sq4 u4
  have ho4 : h4.2 a = RO a g09 := (u4 a (by omega) (by omega) (Or.inl (by omega))).trans ho3
  refine vm_go rfl bX14_inity_779 oX14_inity_779 ⟨fun _ => ?_, fun q => absurd (nI_le (a := 6) (b := 6) (by decide) (by decide)) q⟩
  have u24 : ∀ q, ¬ (q = a + 50 ∨ q = a + 51 ∨ q = a + 83 ∨ q = a + 84) → q < a + 168 ∨ 1099511627776 ≤ q → h4.2 q = h2.2 q := fun q z1 z2 => (u4 q (by omega) (by omega) (by omega)).trans (u3' q (by omega) (by omega) z2)
  have u14 : ∀ q, ¬ ((a + 8 ≤ q ∧ q ≤ a + 16) ∨ q = a + 50 ∨ q = a + 51 ∨ q = a + 83 ∨ q = a + 84) → q < a + 168 ∨ 1099511627776 ≤ q → h4.2 q = h1.2 q := fun q z1 z2 => (u24 q (by omega) z2).trans (u2 q (by omega))
  have o4 : ∀ q, 1099511627776 ≤ q → h4.2 q = h.2 q := fun q hq => (u14 q (by omega) (Or.inr hq)).trans (o1 q hq)
  have i24 : iw h4 12 (a + 24) := ⟨_, (u14 _ (by omega) (Or.inl (by omega))).trans (zi9 24 (by unfold ZI; omega))⟩
  refine ref_817 ho4 hh (RV_old rv o4) i24 ⟨_, (u14 _ (by omega) (Or.inl (by omega))).trans r26⟩ ⟨_, (u14 _ (by omega) (Or.inl (by omega))).trans r46⟩ ⟨_, (u14 _ (by omega) (Or.inl (by omega))).trans r47⟩ ?_
  intro h5 c5 w26 w46 w47 w24 u5
  have ho5 : h5.2 a = RO a g09 := (u5 a (by omega) (by omega) (by omega) (by omega)).trans ho4
  have o5 : ∀ q, 1099511627776 ≤ q → h5.2 q = h.2 q := fun q hq => (u5 q (by omega) (by omega) (by omega) (by omega)).trans (o4 q hq)
  have x5 : ∀ q, ¬ ((a + 8 ≤ q ∧ q ≤ a + 16) ∨ q = a + 24 ∨ q = a + 26 ∨ q = a + 46 ∨ q = a + 47 ∨ q = a + 50 ∨ q = a + 51 ∨ q = a + 83 ∨ q = a + 84) → q < a + 168 → h5.2 q = h1.2 q := fun q z1 z2 => (u5 q (by omega) (by omega) (by omega) (by omega)).trans (u14 q (by omega) (Or.inl z2))
  have y5 : ∀ q, a + 168 ≤ q → q < a + 252 → h5.2 q = h4.2 q := fun q z1 z2 => u5 q (by omega) (by omega) (by omega) (by omega)
  have y4 : ∀ q, a + 168 ≤ q → q < a + 216 → h4.2 q = h3.2 q := fun q z1 z2 => u4 q (by omega) (by omega) (Or.inl z2)
  have e25 : ∀ q, a + 8 ≤ q → q ≤ a + 16 → h5.2 q = h2.2 q := fun q z1 z2 => (u5 q (by omega) (by omega) (by omega) (by omega)).trans (u24 q (by omega) (Or.inl (by omega)))
  have bz : ∀ (n q : Nat), h1.2 q = .inl (.byte, n, .inl z9) → h5.2 q = h1.2 q → bv h5 n q (fun _ => 0) := fun n q e1 e2 => ⟨z9, e2.trans e1, fun i _ => ⟨rfl, show 0 < 256 by decide⟩⟩
  have iz : ∀ i, ZI i → iw h5 (zi i) (a + i) := fun i z => by
    by_cases c : i = 24
    · subst c; exact w24
    · exact ⟨_, (x5 _ (by unfold ZI at z; omega) (by unfold ZI at z; omega)).trans (zi9 i z)⟩
  have ib9 : ∀ i, ZB i → bx9 h5 (zb i) (a + i) := fun i z => ⟨_, bz _ _ (zb9 i z) (x5 _ (by unfold ZB at z; omega) (by unfold ZB at z; omega))⟩
  have ip : ∀ s, ZP s → SQ h5 (a + s) := fun s z => by
    by_cases c : s < 168
    · exact SQ_cg (zp9 s z c) (fun q z1 z2 => x5 q (by unfold ZP at z; omega) (by unfold ZP at z; omega))
    · obtain ⟨k, hk⟩ : ∃ k, (s - 168) / 6 = k := ⟨_, rfl⟩
      have h3s : s = 168 + 6 * k ∨ s = 171 + 6 * k := by unfold ZP at z; omega
      have k8 : k < 8 := by unfold ZP at z; omega
      rcases h3s with e | e
      · rw [show a + s = a + 168 + 6 * k by omega]
        exact SQ_cg (sq3 k k8).1 (fun q z1 z2 => (y5 q (by omega) (by omega)).trans (y4 q (by omega) (by omega)))
      · rw [show a + s = a + 171 + 6 * k by omega]
        exact SQ_cg (sq3 k k8).2 (fun q z1 z2 => (y5 q (by omega) (by omega)).trans (y4 q (by omega) (by omega)))
  have v5 : ∀ q, q < a + 168 → q ≠ a + 24 → q ≠ a + 26 → q ≠ a + 46 → q ≠ a + 47 → h5.2 q = h4.2 q := fun q _ z1 z2 z3 z4 => u5 q z1 z2 z3 z4
  have w4 : ∀ q, q < a + 168 → q ≠ a + 83 → q ≠ a + 84 → h4.2 q = h3.2 q := fun q z1 z2 z3 => u4 q z2 z3 (Or.inl (by omega))
  have rc : RC h5 a := ⟨MH_cge (M := a + 8) mp (fun q z1 z2 => e25 q (by omega) (by omega)), MH_cge (M := a + 11) mq (fun q z1 z2 => e25 q (by omega) (by omega)), SP_cg sp (fun q z1 z2 => e25 q (by omega) (by omega)), w26, w46, w47, rr9_cg r50' ((v5 _ (by omega) (by omega) (by omega) (by omega) (by omega)).trans (w4 _ (by omega) (by omega) (by omega))), rr9_cg r51' ((v5 _ (by omega) (by omega) (by omega) (by omega) (by omega)).trans (w4 _ (by omega) (by omega) (by omega)))⟩
  have rk : RK h5 a t (u3 g09 (nI ([] : List Nat).length) (nI ([] : List Nat).length) (nI ([] : List Nat).length)) := ⟨ho5, by omega, ⟨RV_old rv o5, RT_old rt o5⟩, rc, iz, ib9, ⟨lw_cg lw1 (x5 _ (by omega) (by omega)), lw_cg lw2 (x5 _ (by omega) (by omega))⟩, ip⟩
  have sy : SY h5 a t g09 [] [] [] := ⟨rk, ⟨by decide, by decide, by decide⟩, ⟨_, bz 2600 _ (zb9 28 (by unfold ZB; omega)) (x5 _ (by omega) (by omega)), rfl⟩, ⟨_, bz 700 _ (zb9 34 (by unfold ZB; omega)) (x5 _ (by omega) (by omega)), rfl⟩, ⟨_, bz 48 _ (zb9 35 (by unfold ZB; omega)) (x5 _ (by omega) (by omega)), rfl⟩⟩
  have ee : ∀ q, (a + 73 ≤ q ∧ q ≤ a + 154 ∧ q ≠ a + 83 ∧ q ≠ a + 84) → h5.2 q = h1.2 q := fun q z => x5 q (by omega) (by omega)
  refine ⟨rfl, by omega, fun kf af => ⟨g09, [], [], sy, ⟨rfl, rfl, rfl, rfl, rfl, rfl, rfl, rfl, rfl⟩, ?_⟩, fun q z1 z2 => ?_⟩
  · refine ⟨⟨⟨_, ia_cg9 s73 (ee _ (by omega)), fun i hi => by omega⟩, ⟨_, (ee _ (by omega)).trans s74, fun i hi => by omega⟩, ⟨_, bz 192 _ s75 (ee _ (by omega)), fun i hi => by omega⟩, rr9_cg s76 (ee _ (by omega)), rr9_cg r83' (v5 _ (by omega) (by omega) (by omega) (by omega) (by omega)), rr9_cg r84' (v5 _ (by omega) (by omega) (by omega) (by omega) (by omega)), ⟨_, ia_cg9 s85 (ee _ (by omega)), fun i hi => by omega⟩, ⟨_, ia_cg9 s86 (ee _ (by omega)), fun i hi => by omega⟩, ⟨_, ia_cg9 s87 (ee _ (by omega)), fun i hi => by omega⟩, fun i hi => ⟨⟨_, ia_cg9 (s77 i hi) (ee _ (by omega))⟩, SQ_cg (sq4 i hi).1 (fun q z1 z2 => y5 q (by omega) (by omega)), MQ9_cg (sq4 i hi).2 (fun q z1 z2 => y5 q (by omega) (by omega))⟩, fun i hi => by omega⟩, ⟨⟨_, ia_cg9 s88 (ee _ (by omega)), fun i hi => by omega⟩, ⟨_, (ee _ (by omega)).trans s89, fun i hi => by omega⟩, ⟨_, bz 5880 _ s90 (ee _ (by omega)), fun i hi => by omega⟩, rr9_cg s91 (ee _ (by omega)), fun i hi => ⟨_, ia_cg9 (s92 i hi) (ee _ (by omega))⟩, fun i hi => by omega⟩, bz 4096 _ s152 (ee _ (by omega)), ⟨_, bz 1208 _ s153 (ee _ (by omega)), rfl⟩, ⟨_, bz 2900 _ s154 (ee _ (by omega)), rfl⟩, by decide, by decide, by decide, by decide⟩
  · rcases z2 with z2 | z2
    · exact (x5 q (by omega) (by omega)).trans (u1 q z1 (Or.inl z2))
    · exact o5 q z2

end
