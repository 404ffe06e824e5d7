/-! code of the constructor of Curve in smaller pieces; its Strings -/
def bX2_initx_0 : List vm_J := [(1, .aload_n 0, 0, 0, 0, .null), (3, .invokespecial 5, 9999, 0, 0, .null), (1, .aload_n 0, 0, 0, 0, .null), (3, .new 11, 3, 0, 0, .null), (1, .dup, 0, 0, 0, .null), (2, .ldc 13, 0, 0, 0, .ref 1099511627806), (3, .invokestatic 15, 15, 1, 0, .null), (3, .invokespecial 19, 28, 1, 0, .null), (3, .putfield 22, 2, 0, 4, .null), (1, .aload_n 0, 0, 0, 0, .null), (3, .new 26, 8, 0, 0, .null), (1, .dup, 0, 0, 0, .null), (1, .aload_n 0, 0, 0, 0, .null), (3, .getfield 22, 2, 0, 0, .null), (3, .getfield 28, 3, 0, 0, .null), (3, .invokespecial 32, 83, 1, 0, .null), (3, .putfield 35, 2, 1, 4, .null), (1, .aload_n 0, 0, 0, 0, .null), (2, .ldc 39, 0, 0, 0, .ref 1099511627808), (3, .invokestatic 15, 15, 1, 0, .null), (3, .putfield 41, 2, 2, 4, .null)]
set_option maxRecDepth 20000 in
theorem oX2_initx_0 : vm_okB 2 mX2_init 0 bX2_initx_0 = true := by decide +kernel
def bX2_initx_47 : List vm_J := [(1, .aload_n 0, 0, 0, 0, .null), (1, .aload_n 0, 0, 0, 0, .null), (3, .getfield 22, 2, 0, 0, .null), (3, .getfield 28, 3, 0, 0, .null), (2, .newarray .long, 0, 0, 0, .null), (3, .putfield 45, 2, 3, 4, .null), (1, .aload_n 0, 0, 0, 0, .null), (1, .aload_n 0, 0, 0, 0, .null), (3, .getfield 22, 2, 0, 0, .null), (3, .getfield 28, 3, 0, 0, .null), (2, .newarray .long, 0, 0, 0, .null), (3, .putfield 49, 2, 4, 4, .null), (1, .aload_n 0, 0, 0, 0, .null), (1, .aload_n 0, 0, 0, 0, .null), (3, .getfield 22, 2, 0, 0, .null), (3, .getfield 28, 3, 0, 0, .null), (2, .newarray .long, 0, 0, 0, .null), (3, .putfield 52, 2, 5, 4, .null), (1, .aload_n 0, 0, 0, 0, .null), (1, .aload_n 0, 0, 0, 0, .null), (3, .getfield 22, 2, 0, 0, .null), (3, .getfield 28, 3, 0, 0, .null), (2, .newarray .long, 0, 0, 0, .null), (3, .putfield 55, 2, 6, 4, .null), (1, .aload_n 0, 0, 0, 0, .null), (1, .aload_n 0, 0, 0, 0, .null), (3, .getfield 22, 2, 0, 0, .null), (3, .getfield 28, 3, 0, 0, .null), (2, .newarray .long, 0, 0, 0, .null), (3, .putfield 58, 2, 7, 4, .null), (1, .aload_n 0, 0, 0, 0, .null), (1, .aload_n 0, 0, 0, 0, .null), (3, .getfield 22, 2, 0, 0, .null), (3, .getfield 28, 3, 0, 0, .null), (2, .newarray .long, 0, 0, 0, .null), (3, .putfield 61, 2, 8, 4, .null)]
set_option maxRecDepth 20000 in
theorem oX2_initx_47 : vm_okB 2 mX2_init 47 bX2_initx_47 = true := by decide +kernel
def bX2_initx_125 : List vm_J := [(1, .aload_n 0, 0, 0, 0, .null), (2, .bipush 8, 0, 0, 0, .int 8), (1, .aload_n 0, 0, 0, 0, .null), (3, .getfield 22, 2, 0, 0, .null), (3, .getfield 28, 3, 0, 0, .null), (4, .multianewarray 64 2, 1, 0, 0, .null), (3, .putfield 66, 2, 9, 4, .null), (1, .aload_n 0, 0, 0, 0, .null), (3, .sipush 150, 0, 0, 0, .int 150), (3, .anewarray 26, 8, 0, 0, .null), (3, .putfield 69, 2, 10, 4, .null)]
set_option maxRecDepth 20000 in
theorem oX2_initx_125 : vm_okB 2 mX2_init 125 bX2_initx_125 = true := by decide +kernel
def bX2_initx_152 : List vm_J := [(1, .aload_n 0, 0, 0, 0, .null), (3, .getfield 22, 2, 0, 0, .null), (1, .astore_n 1, 0, 0, 0, .null), (2, .ldc 73, 0, 0, 0, .ref 1099511627810), (3, .invokestatic 15, 15, 1, 0, .null), (1, .iconst 0, 0, 0, 0, .int 0), (2, .bipush 48, 0, 0, 0, .int 48), (1, .aload_n 0, 0, 0, 0, .null), (3, .getfield 49, 2, 4, 0, .null), (3, .invokestatic 75, 42, 4, 0, .null), (1, .aload_n 1, 0, 0, 0, .null), (1, .aload_n 0, 0, 0, 0, .null), (3, .getfield 49, 2, 4, 0, .null), (1, .aload_n 0, 0, 0, 0, .null), (3, .getfield 49, 2, 4, 0, .null), (3, .invokevirtual 81, 49, 2, 3, .null), (1, .iconst 0, 0, 0, 0, .int 0), (1, .istore_n 2, 0, 0, 0, .null)]
set_option maxRecDepth 20000 in
theorem oX2_initx_152 : vm_okB 2 mX2_init 152 bX2_initx_152 = true := by decide +kernel
def tP (j : Nat) : Nat := ([102, 102, 102, 102, 102, 102, 102, 102, 102, 102, 102, 102, 102, 102, 102, 102, 102, 102, 102, 102, 102, 102, 102, 102, 102, 102, 102, 102, 102, 102, 102, 102, 102, 102, 102, 102, 102, 102, 102, 102, 102, 102, 102, 102, 102, 102, 102, 102, 102, 102, 102, 102, 102, 102, 102, 102, 102, 102, 102, 102, 102, 102, 102, 101, 102, 102, 102, 102, 102, 102, 102, 102, 48, 48, 48, 48, 48, 48, 48, 48, 48, 48, 48, 48, 48, 48, 48, 48, 102, 102, 102, 102, 102, 102, 102, 102] : List Nat).getD j 0
def tR (j : Nat) : Nat := ([51, 102, 102, 102, 102, 102, 102, 102, 102, 102, 102, 102, 102, 102, 102, 102, 102, 102, 102, 102, 102, 102, 102, 102, 102, 102, 102, 102, 102, 102, 102, 102, 102, 102, 102, 102, 102, 102, 102, 102, 102, 102, 102, 102, 102, 102, 102, 102, 102, 102, 102, 102, 102, 102, 102, 102, 102, 102, 102, 102, 102, 102, 102, 102, 98, 102, 102, 102, 102, 102, 102, 102, 99, 48, 48, 48, 48, 48, 48, 48, 48, 48, 48, 48, 48, 48, 48, 48, 52, 48, 48, 48, 48, 48, 48, 48] : List Nat).getD j 0
def tB (j : Nat) : Nat := ([98, 51, 51, 49, 50, 102, 97, 55, 101, 50, 51, 101, 101, 55, 101, 52, 57, 56, 56, 101, 48, 53, 54, 98, 101, 51, 102, 56, 50, 100, 49, 57, 49, 56, 49, 100, 57, 99, 54, 101, 102, 101, 56, 49, 52, 49, 49, 50, 48, 51, 49, 52, 48, 56, 56, 102, 53, 48, 49, 51, 56, 55, 53, 97, 99, 54, 53, 54, 51, 57, 56, 100, 56, 97, 50, 101, 100, 49, 57, 100, 50, 97, 56, 53, 99, 56, 101, 100, 100, 51, 101, 99, 50, 97, 101, 102] : List Nat).getD j 0
def tG (j : Nat) : Nat := ([48, 51, 97, 97, 56, 55, 99, 97, 50, 50, 98, 101, 56, 98, 48, 53, 51, 55, 56, 101, 98, 49, 99, 55, 49, 101, 102, 51, 50, 48, 97, 100, 55, 52, 54, 101, 49, 100, 51, 98, 54, 50, 56, 98, 97, 55, 57, 98, 57, 56, 53, 57, 102, 55, 52, 49, 101, 48, 56, 50, 53, 52, 50, 97, 51, 56, 53, 53, 48, 50, 102, 50, 53, 100, 98, 102, 53, 53, 50, 57, 54, 99, 51, 97, 53, 52, 53, 101, 51, 56, 55, 50, 55, 54, 48, 97, 98, 55] : List Nat).getD j 0
def tQ (j : Nat) : Nat := ([102, 102, 102, 102, 102, 102, 102, 102, 102, 102, 102, 102, 102, 102, 102, 102, 102, 102, 102, 102, 102, 102, 102, 102, 102, 102, 102, 102, 102, 102, 102, 102, 102, 102, 102, 102, 102, 102, 102, 102, 102, 102, 102, 102, 102, 102, 102, 102, 99, 55, 54, 51, 52, 100, 56, 49, 102, 52, 51, 55, 50, 100, 100, 102, 53, 56, 49, 97, 48, 100, 98, 50, 52, 56, 98, 48, 97, 55, 55, 97, 101, 99, 101, 99, 49, 57, 54, 97, 99, 99, 99, 53, 50, 57, 55, 51] : List Nat).getD j 0
theorem tP_ok : ∀ j, j < 2 * 48 → 48 ≤ tP j ∧ (tP j ≤ 57 ∨ 97 ≤ tP j) ∧ tP j ≤ 102 := by decide +kernel
theorem tR_ok : ∀ j, j < 2 * 48 → 48 ≤ tR j ∧ (tR j ≤ 57 ∨ 97 ≤ tR j) ∧ tR j ≤ 102 := by decide +kernel
theorem tB_ok : ∀ j, j < 2 * 48 → 48 ≤ tB j ∧ (tB j ≤ 57 ∨ 97 ≤ tB j) ∧ tB j ≤ 102 := by decide +kernel
theorem tG_ok : ∀ j, j < 2 * 49 → 48 ≤ tG j ∧ (tG j ≤ 57 ∨ 97 ≤ tG j) ∧ tG j ≤ 102 := by decide +kernel
theorem tQ_ok : ∀ j, j < 2 * 48 → 48 ≤ tQ j ∧ (tQ j ≤ 57 ∨ 97 ≤ tQ j) ∧ tQ j ≤ 102 := by decide +kernel
theorem tP_n : bn (hxb tP) 0 48 = cP := by decide +kernel
theorem tR_n : bn (hxb tR) 0 48 * 4 = cP + 1 := by decide +kernel
theorem tB_n : bn (hxb tB) 0 48 = cB := by decide +kernel
theorem tG_n : hxb tG 0 = 3 ∧ bn (hxb tG) 1 48 = cGX := by decide +kernel
theorem tQ_n : bn (hxb tQ) 0 48 = cQ := by decide +kernel
section
variable {l : Launch} {O : Nat → vm_Ob} {f9 : Value}
theorem v_point {h : vm_H} {m L : Nat} {v0 v1 v2 : Value} (hm : h.2 m = .inr (8, [v0, v1, v2])) (hm1 : m < h.1) (hL : L ≤ 65536) (hh : h.1 + 4 < 1099511627776) :
    vm_Met (vm_env l O f9) mX8_init 3 (3 * L) [.ref m, .int (nI L)] h (fun r h' => r = none ∧ h'.1 = h.1 + 3 ∧ h'.2 m = .inr (8, [.ref h.1, .ref (h.1 + 1), .ref (h.1 + 2)]) ∧ (∀ i, i < 3 → h'.2 (h.1 + i) = .inl (.long, L, .inr (.inl (fun _ => 0)))) ∧ ∀ q, q ≠ m → q < h.1 ∨ h.1 + 3 ≤ q → h'.2 q = h.2 q) := by
  refine vm_met rfl (Nat.le_of_ble_eq_true rfl) ?_
  refine vm_go rfl bX8_init_0 oX8_init_0 ?_
  refine np_L (idx := 0) rfl hL (by decide) (by omega) (by omega) hm hm1 (show 0 < 3 by decide) ?_
  rintro h1 ⟨c1, m1, a1, u1⟩
  refine np_L (idx := 0) rfl hL (by decide) (by omega) (by omega) m1 (by omega) (show 1 < 3 by decide) ?_
  rintro h2 ⟨c2, m2, a2, u2⟩
  refine np_L (idx := 0) rfl hL (by decide) (by omega) (by omega) m2 (by omega) (show 2 < 3 by decide) ?_
  rintro h3 ⟨c3, m3, a3, u3⟩
  have m3 : h3.2 m = .inr (8, [.ref h.1, .ref h1.1, .ref h2.1]) := m3
  refine ⟨rfl, by omega, by rw [m3, c1, c2, c1], fun i hi => ?_, fun q hq hq2 => ?_⟩
  · rcases i with _ | _ | _ | i
    · show h3.2 h.1 = _
      rw [u3 _ (by omega) (by omega), u2 _ (by omega) (by omega), a1]
    · show h3.2 (h.1 + 1) = _
      rw [← c1, u3 _ (by omega) (by omega), a2]
    · show h3.2 (h.1 + 2) = _
      rw [show h.1 + 2 = h2.1 by omega, a3]
    · omega
  · rw [u3 _ hq (by omega), u2 _ hq (by omega), u1 _ hq (by omega)]
end
