/-! BlindRsa.makeKey -/
def bX1_makeKeyx_0 : List vm_J := [(1, .iload_n 1, 0, 0, 0, .null), (3, .invokestatic 62, 2, 1, 0, .null), (1, .istore_n 2, 0, 0, 0, .null)]
set_option maxRecDepth 20000 in
theorem oX1_makeKeyx_0 : vm_okB 1 mX1_makeKey 0 bX1_makeKeyx_0 = true := by decide +kernel
def bX1_makeKeyx_5 : List vm_J := [(1, .aload_n 0, 0, 0, 0, .null), (1, .iload_n 2, 0, 0, 0, .null), (1, .iconst 3, 0, 0, 0, .int 3), (1, .iadd, 0, 0, 0, .null), (3, .invokestatic 75, 258, 2, 0, .null), (1, .astore_n 3, 0, 0, 0, .null)]
set_option maxRecDepth 20000 in
theorem oX1_makeKeyx_5 : vm_okB 1 mX1_makeKey 5 bX1_makeKeyx_5 = true := by decide +kernel
def bX1_makeKeyx_13 : List vm_J := [(1, .aload_n 0, 0, 0, 0, .null), (1, .iload_n 2, 0, 0, 0, .null), (1, .iconst 3, 0, 0, 0, .int 3), (1, .iadd, 0, 0, 0, .null), (1, .iload_n 1, 0, 0, 0, .null), (1, .iconst 1, 0, 0, 0, .int 1), (1, .isub, 0, 0, 0, .null), (3, .invokestatic 81, 260, 3, 0, .null), (2, .astore 4, 0, 0, 0, .null)]
set_option maxRecDepth 20000 in
theorem oX1_makeKeyx_13 : vm_okB 1 mX1_makeKey 13 bX1_makeKeyx_13 = true := by decide +kernel
def bX1_makeKeyx_25 : List vm_J := [(3, .new 85, 5, 0, 0, .null), (1, .dup, 0, 0, 0, .null), (1, .iconst 2, 0, 0, 0, .int 2), (1, .iload_n 2, 0, 0, 0, .null), (1, .aload_n 0, 0, 0, 0, .null), (1, .iload_n 1, 0, 0, 0, .null), (1, .iconst 1, 0, 0, 0, .int 1), (1, .isub, 0, 0, 0, .null), (1, .baload, 0, 0, 0, .null), (1, .aload_n 3, 0, 0, 0, .null), (2, .aload 4, 0, 0, 0, .null), (3, .new 55, 6, 0, 0, .null), (1, .dup, 0, 0, 0, .null), (1, .aload_n 0, 0, 0, 0, .null), (1, .iconst 0, 0, 0, 0, .int 0), (1, .iload_n 2, 0, 0, 0, .null), (3, .invokespecial 87, 41, 3, 0, .null), (3, .invokespecial 90, 40, 6, 0, .null), (1, .areturn, 0, 0, 0, .null)]
set_option maxRecDepth 20000 in
theorem oX1_makeKeyx_25 : vm_okB 1 mX1_makeKey 25 bX1_makeKeyx_25 = true := by decide +kernel
section
variable {l : Launch} {O : Nat → vm_Ob} {f9 : Value}
theorem x_mkk {h : vm_H} {fa na size : Nat} {b : Nat → Nat} (hc9 : Jvm.Cond.castable "[B" "java/lang/Cloneable" ∈ vm_wt) (hf : bv h na fa b) (hfh : fa < h.1) (hn : size ≤ na) (hna : na < 65536) (hh : h.1 + 100 < 1099511627776) (hk : kOK b size) :
    vm_Met (vm_env l O f9) mX1_makeKey 27 2134 [.ref fa, .int (nI size)] h (fun r h' => r = some (.ref (h.1 + 2)) ∧ h'.1 = h.1 + 27 ∧ (∃ ni ri, K2 h' (h.1 + 2) ((size - 4) / 2) (b (size - 1)) h.1 (h.1 + 1) (h.1 + 26) 1 (Am (h.1 + 3) (h.1 + 4)) ni ri b (fun j => b ((size - 4) / 2 + 3 + j))) ∧ bv h' 32 (h.1 + 26) (fun _ => 0) ∧ ∀ q, q < h.1 ∨ 1099511627776 ≤ q → h'.2 q = h.2 q) := by
  have k1 := hk.1
  have k2 := hk.2.1
  have k3 := hk.2.2.1
  have k4 := hk.2.2.2.1
  have k5 := hk.2.2.2.2.1
  have k6 := hk.2.2.2.2.2.2.2.2.2.2
  clear hk
  have df5 : (vm_df 5).length = 9 := rfl
  have df6 : (vm_df 6).length = 8 := rfl
  refine vm_met rfl (Nat.le_of_ble_eq_true rfl) ?_
  refine vm_go rfl bX1_makeKeyx_0 oX1_makeKeyx_0 ⟨0, 0, _, s_szf4 (by omega) (by omega), Nat.zero_le _, Nat.zero_le _, ?_⟩
  rintro _ h0 ⟨rfl, e0⟩
  rw [e0]
  clear e0 h0
  obtain ⟨len, hlen⟩ : ∃ len, (size - 4) / 2 = len := ⟨_, rfl⟩
  rw [hlen] at k5 k6 ⊢
  refine vm_Th (lv' := [(0, .ref fa), (1, .int (nI size)), (2, .int (nI len))]) (h' := h) rfl rfl ?_
  have a3 : nI len + 3 = nI (len + 3) := nI_add _ 3
  have s1 : nI size - 1 = nI (size - 1) := nI_sub (b := 1) (by omega)
  have e9 : size - 1 - (len + 3) = len := by omega
  refine vm_go rfl bX1_makeKeyx_5 oX1_makeKeyx_5 ⟨1, len + 3, _, vm_metA (s_copyOf (m := len + 3) hc9 hf (by omega) (by omega) (by omega) hna (by omega)) (by show [_, Value.int (nI (len + 3))] = [_, Value.int (nI len + 3)]; rw [a3]), by decide, by omega, ?_⟩
  rintro _ h1 ⟨rfl, c1, b1, u1⟩
  refine vm_Th (lv' := [(0, .ref fa), (1, .int (nI size)), (2, .int (nI len)), (3, .ref h.1)]) (h' := h1) rfl rfl ?_
  have f1 := bv_cg hf (u1 fa (by omega))
  refine vm_go rfl bX1_makeKeyx_13 oX1_makeKeyx_13 ⟨1, size - 1 - (len + 3), _, vm_metA (s_copyR (x := len + 3) (y := size - 1) f1 (by omega) (by omega) (by omega) (by omega) hna (by omega)) (by show [_, Value.int (nI (len + 3)), Value.int (nI (size - 1))] = [_, Value.int (nI len + 3), Value.int (nI size - 1)]; rw [a3, s1]), by decide, by omega, ?_⟩
  rintro _ h2 ⟨rfl, c2, b2, u2⟩
  rw [c1] at c2 b2 u2
  rw [c1]
  rw [e9] at b2
  refine vm_Th (lv' := [(0, .ref fa), (1, .int (nI size)), (2, .int (nI len)), (3, .ref h.1), (4, .ref (h.1 + 1))]) (h' := h2) rfl rfl ?_
  have f2 := bv_cg f1 (u2 fa (by omega))
  refine vm_go rfl bX1_makeKeyx_25 oX1_makeKeyx_25 ⟨by decide, by omega, by omega, ?_⟩
  generalize hq3 : vm_nw h2 _ = h3
  have c3 : h3.1 = h.1 + 3 := by rw [← hq3]; show h2.1 + 1 = _; omega
  have a3' : h3.2 (h.1 + 2) = .inr (5, vm_df 5) := by rw [← hq3, show h.1 + 2 = h2.1 by omega]; exact nw_e
  have u3 : ∀ q, q ≠ h.1 + 2 → h3.2 q = h2.2 q := fun q z => by rw [← hq3]; exact nw_n (by omega)
  clear hq3
  rw [show h2.1 = h.1 + 2 by omega]
  have f3 := bv_cg f2 (u3 fa (by omega))
  obtain ⟨f, ef, vf⟩ := id f3
  refine ⟨na, f, ef, size - 1, s1, by omega, fun _ => ?_⟩
  have eS : sb (b (size - 1)) = nI (b (size - 1)) := by
    rcases k6 with e | ⟨e, _⟩ <;> rw [e] <;> rfl
  rw [(vf (size - 1) (by omega)).1, eS]
  refine ⟨by decide, by omega, by omega, ?_⟩
  generalize hq4 : vm_nw h3 _ = h4
  have c4 : h4.1 = h.1 + 4 := by rw [← hq4]; show h3.1 + 1 = _; omega
  have a4 : h4.2 (h.1 + 3) = .inr (6, vm_df 6) := by rw [← hq4, ← c3]; exact nw_e
  have u4 : ∀ q, q ≠ h.1 + 3 → h4.2 q = h3.2 q := fun q z => by rw [← hq4]; exact nw_n (by omega)
  clear hq4
  rw [c3]
  have f4 := bv_cg f3 (u4 fa (by omega))
  have hodd : bn b 0 len % 2 = 1 := by
    rw [show len = len - 1 + 1 by omega, bn_par, Nat.zero_add]; exact k5
  have hone : 1 < bn b 0 len := by
    have := bn_ge (b := b) (p := 0) (by omega) (len - 1)
    rw [show len - 1 + 1 = len by omega] at this
    have h9 : 256 ^ 1 ≤ 256 ^ (len - 1) := Nat.pow_le_pow_right (by decide) (by omega)
    omega
  refine ⟨22, 21 * (8 * len / 28 + 1) + 16, _, v_new6 (L := 8 * len / 28 + 1) (at9 := 0) (size := len) a4 (by omega) f4 (Or.inl (by omega)) (by omega) hna (by omega) (by omega) (by omega) hodd hone rfl, by decide, by omega, ?_⟩
  rintro _ h5 ⟨rfl, c5, ⟨ni, ri, hP, hM⟩, u5⟩
  rw [c4] at c5 hP hM u5
  have hj9 : 8 * len / 28 ≤ 73 := by omega
  have K5 : h5.2 (h.1 + 2) = .inr (5, vm_df 5) := (u5 _ (by omega) (by omega)).trans ((u4 _ (by omega)).trans a3')
  refine ⟨1, 32, _, v_key (ty := 2) (sz := len) (sa := b (size - 1)) K5 (by omega) (by omega) (Or.inr rfl), by decide, by omega, ?_⟩
  rintro _ h6 ⟨rfl, c6, k6', i6, u6⟩
  rw [show h5.1 = h.1 + 26 by omega] at k6' i6 u6
  have t2 : ∀ q, q < h.1 + 2 → h6.2 q = h2.2 q := fun q z => by rw [u6 q (by omega) (by omega), u5 q (by omega) (by omega), u4 q (by omega), u3 q (by omega)]
  refine ⟨rfl, by omega, ⟨ni, ri, k6', bv_cg (bv_cg b1 (u2 _ (by omega))) (t2 _ (by omega)), bv_cg b2 (t2 _ (by omega)), hP, MD_cg hM (fun i hi h5' => u6 _ ?_ ?_), ⟨by omega, by omega⟩, ?_, by omega⟩, i6, fun q hq => ?_⟩
  · unfold Am
    repeat' split
    all_goals omega
  · have := h5'.resolve_right (by decide)
    unfold Am
    repeat' split
    all_goals omega
  · rcases k6 with e | e
    · exact Or.inl e
    · exact Or.inr ⟨e.1, e.2⟩
  · rw [u6 q (by omega) (by omega), u5 q (by omega) (by omega), u4 q (by omega), u3 q (by omega), u2 q (by omega), u1 q (by omega)]
end
