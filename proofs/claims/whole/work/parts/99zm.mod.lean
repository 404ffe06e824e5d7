/-! the reference: numberOfLeadingZeros, a Mod made -/
def bJ6_numberOfLeadingZeros_0f7a4x_0 : List vm_J := [(1, .iload_n 0, 0, 0, 0, .null), (3, .ifCond .gt 14, 15, 0, 0, .null), (1, .iload_n 0, 0, 0, 0, .null), (3, .ifCond .ne 8, 13, 0, 0, .null), (2, .bipush 32, 0, 0, 0, .int 32), (3, .goto 4, 14, 0, 0, .null)]
set_option maxRecDepth 20000 in
theorem oJ6_numberOfLeadingZeros_0f7a4x_0 : vm_okB 15 mJ6_numberOfLeadingZeros_0f7a4 0 bJ6_numberOfLeadingZeros_0f7a4x_0 = true := by decide +kernel
def bJ6_numberOfLeadingZeros_0f7a4x_13 : List vm_J := [(1, .iconst 0, 0, 0, 0, .int 0)]
set_option maxRecDepth 20000 in
theorem oJ6_numberOfLeadingZeros_0f7a4x_13 : vm_okB 15 mJ6_numberOfLeadingZeros_0f7a4 13 bJ6_numberOfLeadingZeros_0f7a4x_13 = true := by decide +kernel
def bJ6_numberOfLeadingZeros_0f7a4x_14 : List vm_J := [(1, .ireturn, 0, 0, 0, .null)]
set_option maxRecDepth 20000 in
theorem oJ6_numberOfLeadingZeros_0f7a4x_14 : vm_okB 15 mJ6_numberOfLeadingZeros_0f7a4 14 bJ6_numberOfLeadingZeros_0f7a4x_14 = true := by decide +kernel
def bJ6_numberOfLeadingZeros_0f7a4x_15 : List vm_J := [(2, .bipush 31, 0, 0, 0, .int 31), (1, .istore_n 1, 0, 0, 0, .null)]
set_option maxRecDepth 20000 in
theorem oJ6_numberOfLeadingZeros_0f7a4x_15 : vm_okB 15 mJ6_numberOfLeadingZeros_0f7a4 15 bJ6_numberOfLeadingZeros_0f7a4x_15 = true := by decide +kernel
def bJ6_numberOfLeadingZeros_0f7a4x_18 : List vm_J := [(1, .iload_n 0, 0, 0, 0, .null), (3, .ldc_w 264, 0, 0, 0, .int (65536)), (3, .if_icmp .lt 11, 33, 0, 0, .null), (3, .iinc 1 (-16), 0, 0, 0, .int (-16))]
set_option maxRecDepth 20000 in
theorem oJ6_numberOfLeadingZeros_0f7a4x_18 : vm_okB 15 mJ6_numberOfLeadingZeros_0f7a4 18 bJ6_numberOfLeadingZeros_0f7a4x_18 = true := by decide +kernel
def bJ6_numberOfLeadingZeros_0f7a4x_28 : List vm_J := [(1, .iload_n 0, 0, 0, 0, .null), (2, .bipush 16, 0, 0, 0, .int 16), (1, .iushr, 0, 0, 0, .null), (1, .istore_n 0, 0, 0, 0, .null)]
set_option maxRecDepth 20000 in
theorem oJ6_numberOfLeadingZeros_0f7a4x_28 : vm_okB 15 mJ6_numberOfLeadingZeros_0f7a4 28 bJ6_numberOfLeadingZeros_0f7a4x_28 = true := by decide +kernel
def bJ6_numberOfLeadingZeros_0f7a4x_33 : List vm_J := [(1, .iload_n 0, 0, 0, 0, .null), (3, .sipush 256, 0, 0, 0, .int 256), (3, .if_icmp .lt 11, 48, 0, 0, .null), (3, .iinc 1 (-8), 0, 0, 0, .int (-8))]
set_option maxRecDepth 20000 in
theorem oJ6_numberOfLeadingZeros_0f7a4x_33 : vm_okB 15 mJ6_numberOfLeadingZeros_0f7a4 33 bJ6_numberOfLeadingZeros_0f7a4x_33 = true := by decide +kernel
def bJ6_numberOfLeadingZeros_0f7a4x_43 : List vm_J := [(1, .iload_n 0, 0, 0, 0, .null), (2, .bipush 8, 0, 0, 0, .int 8), (1, .iushr, 0, 0, 0, .null), (1, .istore_n 0, 0, 0, 0, .null)]
set_option maxRecDepth 20000 in
theorem oJ6_numberOfLeadingZeros_0f7a4x_43 : vm_okB 15 mJ6_numberOfLeadingZeros_0f7a4 43 bJ6_numberOfLeadingZeros_0f7a4x_43 = true := by decide +kernel
def bJ6_numberOfLeadingZeros_0f7a4x_48 : List vm_J := [(1, .iload_n 0, 0, 0, 0, .null), (2, .bipush 16, 0, 0, 0, .int 16), (3, .if_icmp .lt 10, 61, 0, 0, .null), (3, .iinc 1 (-4), 0, 0, 0, .int (-4))]
set_option maxRecDepth 20000 in
theorem oJ6_numberOfLeadingZeros_0f7a4x_48 : vm_okB 15 mJ6_numberOfLeadingZeros_0f7a4 48 bJ6_numberOfLeadingZeros_0f7a4x_48 = true := by decide +kernel
def bJ6_numberOfLeadingZeros_0f7a4x_57 : List vm_J := [(1, .iload_n 0, 0, 0, 0, .null), (1, .iconst 4, 0, 0, 0, .int 4), (1, .iushr, 0, 0, 0, .null), (1, .istore_n 0, 0, 0, 0, .null)]
set_option maxRecDepth 20000 in
theorem oJ6_numberOfLeadingZeros_0f7a4x_57 : vm_okB 15 mJ6_numberOfLeadingZeros_0f7a4 57 bJ6_numberOfLeadingZeros_0f7a4x_57 = true := by decide +kernel
def bJ6_numberOfLeadingZeros_0f7a4x_61 : List vm_J := [(1, .iload_n 0, 0, 0, 0, .null), (1, .iconst 4, 0, 0, 0, .int 4), (3, .if_icmp .lt 10, 73, 0, 0, .null), (3, .iinc 1 (-2), 0, 0, 0, .int (-2))]
set_option maxRecDepth 20000 in
theorem oJ6_numberOfLeadingZeros_0f7a4x_61 : vm_okB 15 mJ6_numberOfLeadingZeros_0f7a4 61 bJ6_numberOfLeadingZeros_0f7a4x_61 = true := by decide +kernel
def bJ6_numberOfLeadingZeros_0f7a4x_69 : List vm_J := [(1, .iload_n 0, 0, 0, 0, .null), (1, .iconst 2, 0, 0, 0, .int 2), (1, .iushr, 0, 0, 0, .null), (1, .istore_n 0, 0, 0, 0, .null)]
set_option maxRecDepth 20000 in
theorem oJ6_numberOfLeadingZeros_0f7a4x_69 : vm_okB 15 mJ6_numberOfLeadingZeros_0f7a4 69 bJ6_numberOfLeadingZeros_0f7a4x_69 = true := by decide +kernel
def bJ6_numberOfLeadingZeros_0f7a4x_73 : List vm_J := [(1, .iload_n 1, 0, 0, 0, .null), (1, .iload_n 0, 0, 0, 0, .null), (1, .iconst 1, 0, 0, 0, .int 1), (1, .iushr, 0, 0, 0, .null), (1, .isub, 0, 0, 0, .null), (1, .ireturn, 0, 0, 0, .null)]
set_option maxRecDepth 20000 in
theorem oJ6_numberOfLeadingZeros_0f7a4x_73 : vm_okB 15 mJ6_numberOfLeadingZeros_0f7a4 73 bJ6_numberOfLeadingZeros_0f7a4x_73 = true := by decide +kernel
def bX12_isx_0 : List vm_J := [(1, .aload_n 0, 0, 0, 0, .null), (1, .iload_n 2, 0, 0, 0, .null), (3, .putfield 18, 12, 2, 0, .null), (1, .iconst 0, 0, 0, 0, .int 0), (1, .istore_n 3, 0, 0, 0, .null)]
set_option maxRecDepth 20000 in
theorem oX12_isx_0 : vm_okB 12 mX12_is 0 bX12_isx_0 = true := by decide +kernel
def bX12_isx_7 : List vm_J := [(1, .iload_n 3, 0, 0, 0, .null), (1, .aload_n 0, 0, 0, 0, .null), (3, .getfield 18, 12, 2, 0, .null), (3, .if_icmp .ge 18, 30, 0, 0, .null), (1, .aload_n 0, 0, 0, 0, .null), (3, .getfield 9, 12, 0, 0, .null), (1, .iload_n 3, 0, 0, 0, .null), (1, .aload_n 1, 0, 0, 0, .null), (1, .iload_n 3, 0, 0, 0, .null), (1, .iaload, 0, 0, 0, .null), (1, .iastore, 0, 0, 0, .null), (3, .iinc 3 1, 0, 0, 0, .int 1), (3, .goto (-20), 7, 0, 0, .null)]
set_option maxRecDepth 20000 in
theorem oX12_isx_7 : vm_okB 12 mX12_is 7 bX12_isx_7 = true := by decide +kernel
def bX12_isx_30 : List vm_J := [(1, .aload_n 0, 0, 0, 0, .null), (1, .aload_n 0, 0, 0, 0, .null), (3, .getfield 9, 12, 0, 0, .null), (1, .aload_n 0, 0, 0, 0, .null), (3, .getfield 18, 12, 2, 0, .null), (1, .iconst 1, 0, 0, 0, .int 1), (1, .isub, 0, 0, 0, .null), (1, .iaload, 0, 0, 0, .null), (3, .invokestatic 22, 239, 1, 0, .null), (3, .putfield 28, 12, 3, 0, .null), (1, .aload_n 0, 0, 0, 0, .null), (3, .getfield 18, 12, 2, 0, .null), (1, .iconst 1, 0, 0, 0, .int 1), (1, .isub, 0, 0, 0, .null), (1, .istore_n 3, 0, 0, 0, .null)]
set_option maxRecDepth 20000 in
theorem oX12_isx_30 : vm_okB 12 mX12_is 30 bX12_isx_30 = true := by decide +kernel
def bX12_isx_55 : List vm_J := [(1, .iload_n 3, 0, 0, 0, .null), (3, .ifCond .lt 58, 114, 0, 0, .null), (1, .aload_n 0, 0, 0, 0, .null), (3, .getfield 15, 12, 1, 0, .null), (1, .iload_n 3, 0, 0, 0, .null), (1, .aload_n 0, 0, 0, 0, .null), (3, .getfield 9, 12, 0, 0, .null), (1, .iload_n 3, 0, 0, 0, .null), (1, .iaload, 0, 0, 0, .null), (1, .aload_n 0, 0, 0, 0, .null), (3, .getfield 28, 12, 3, 0, .null), (1, .ishl, 0, 0, 0, .null), (1, .aload_n 0, 0, 0, 0, .null), (3, .getfield 28, 12, 3, 0, .null), (3, .ifCond .le 26, 105, 0, 0, .null), (1, .iload_n 3, 0, 0, 0, .null), (3, .ifCond .le 22, 105, 0, 0, .null), (1, .aload_n 0, 0, 0, 0, .null), (3, .getfield 9, 12, 0, 0, .null), (1, .iload_n 3, 0, 0, 0, .null), (1, .iconst 1, 0, 0, 0, .int 1), (1, .isub, 0, 0, 0, .null), (1, .iaload, 0, 0, 0, .null), (2, .bipush 32, 0, 0, 0, .int 32), (1, .aload_n 0, 0, 0, 0, .null), (3, .getfield 28, 12, 3, 0, .null), (1, .isub, 0, 0, 0, .null), (1, .iushr, 0, 0, 0, .null), (3, .goto 4, 106, 0, 0, .null)]
set_option maxRecDepth 20000 in
theorem oX12_isx_55 : vm_okB 12 mX12_is 55 bX12_isx_55 = true := by decide +kernel
def bX12_isx_105 : List vm_J := [(1, .iconst 0, 0, 0, 0, .int 0)]
set_option maxRecDepth 20000 in
theorem oX12_isx_105 : vm_okB 12 mX12_is 105 bX12_isx_105 = true := by decide +kernel
def bX12_isx_106 : List vm_J := [(1, .ior, 0, 0, 0, .null), (1, .iastore, 0, 0, 0, .null), (3, .iinc 3 (-1), 0, 0, 0, .int (-1)), (3, .goto (-56), 55, 0, 0, .null)]
set_option maxRecDepth 20000 in
theorem oX12_isx_106 : vm_okB 12 mX12_is 106 bX12_isx_106 = true := by decide +kernel
def bX12_isx_114 : List vm_J := [(1, .return_, 0, 0, 0, .null)]
set_option maxRecDepth 20000 in
theorem oX12_isx_114 : vm_okB 12 mX12_is 114 bX12_isx_114 = true := by decide +kernel
theorem nI_i16 {k w : Nat} (h : k + w ≤ 31) : nI (31 - k) + iZ (-(w : Int)) = nI (31 - (k + w)) := by
  rw [iZ_nI, iZ_nI, iZ_add]
  congr 1
  omega
section
variable {l : Launch} {O : Nat → vm_Ob} {f9 : Value} {h : vm_H}
/-- how far the number x is shifted so that its top bit is set -/
def shO (x s : Nat) : Prop := s < 32 ∧ 2147483648 ≤ x * 2 ^ s ∧ x * 2 ^ s < 4294967296
theorem sh_of {x k : Nat} (hk : k ≤ 31) (h1 : 2 ^ k ≤ x) (h2 : x < 2 ^ (k + 1)) : shO x (31 - k) := by
  have p : 0 < 2 ^ (31 - k) := Nat.pow_pos (by decide)
  refine ⟨by omega, ?_, ?_⟩
  · have : 2 ^ k * 2 ^ (31 - k) ≤ x * 2 ^ (31 - k) := Nat.mul_le_mul_right _ h1
    rw [← Nat.pow_add, show k + (31 - k) = 31 by omega] at this
    exact this
  · have : x * 2 ^ (31 - k) < 2 ^ (k + 1) * 2 ^ (31 - k) := Nat.mul_lt_mul_of_pos_right h2 p
    rw [← Nat.pow_add, show k + 1 + (31 - k) = 32 by omega] at this
    exact this
theorem s_nlz {x : Nat} (h0 : 0 < x) (hx : x < 4294967296) : vm_Met (vm_env l O f9) mJ6_numberOfLeadingZeros_0f7a4 0 0 [.int (nI x)] h (fun r h' => (∃ s, r = some (.int (nI s)) ∧ shO x s) ∧ h' = h) := by
  refine vm_metF (by decide +kernel) (Nat.le_of_ble_eq_true rfl) ?_
  by_cases big : 2147483648 ≤ x
  · have c1 : ¬ (0 : Int32) < nI x := by
      have e : nI x = iZ ((x : Int) - 4294967296) := by
        rw [iZ_nI, iZ_w (x : Int), iZ_w ((x : Int) - 4294967296)]
        congr 2
        omega
      rw [e, show (0 : Int32) = iZ 0 from rfl, iZ_lt (by omega) (by omega) (by omega) (by omega)]
      omega
    have c2 : ¬ nI x = (0 : Int32) := fun z => by
      have := nI_inj hx (by decide) (show nI x = nI 0 from z)
      omega
    refine vm_go rfl bJ6_numberOfLeadingZeros_0f7a4x_0 oJ6_numberOfLeadingZeros_0f7a4x_0 ⟨fun q => absurd q c1, fun _ => ⟨fun _ => ?_, fun q => absurd q c2⟩⟩
    refine vm_go rfl bJ6_numberOfLeadingZeros_0f7a4x_13 oJ6_numberOfLeadingZeros_0f7a4x_13 (vm_go rfl bJ6_numberOfLeadingZeros_0f7a4x_14 oJ6_numberOfLeadingZeros_0f7a4x_14 ⟨⟨0, rfl, by decide, ?_, ?_⟩, rfl⟩)
    · rw [Nat.pow_zero, Nat.mul_one]; exact big
    · rw [Nat.pow_zero, Nat.mul_one]; exact hx
  have c1 : (0 : Int32) < nI x := by
    show nI 0 < nI x
    rw [nI_ltI (by decide) (by omega)]; omega
  refine vm_go rfl bJ6_numberOfLeadingZeros_0f7a4x_0 oJ6_numberOfLeadingZeros_0f7a4x_0 ⟨fun _ => ?_, fun q => absurd c1 q⟩
  have S73 : ∀ k i, i = x / 2 ^ k → 0 < i → i < 4 → k ≤ 30 → vm_T (vm_env l O f9) mJ6_numberOfLeadingZeros_0f7a4 0 0 73 [(0, .int (nI i)), (1, .int (nI (31 - k)))] [] h (fun r h' => (∃ s, r = some (.int (nI s)) ∧ shO x s) ∧ h' = h) := by
    intro k i ei hi0 hi hk
    have p : 0 < 2 ^ k := Nat.pow_pos (by decide)
    have d := Nat.div_add_mod x (2 ^ k)
    have m := Nat.mod_lt x p
    rw [← ei] at d
    have ps : 2 ^ (k + 1) = 2 ^ k * 2 := Nat.pow_succ _ _
    have ps2 : 2 ^ (k + 1 + 1) = 2 ^ k * 2 * 2 := by rw [Nat.pow_succ, Nat.pow_succ]
    refine vm_go rfl bJ6_numberOfLeadingZeros_0f7a4x_73 oJ6_numberOfLeadingZeros_0f7a4x_73 ⟨⟨31 - k - i / 2, ?_, ?_⟩, rfl⟩
    · have e1 : ((nI i).toUInt32 >>> ((1 : Int32).toUInt32 &&& Int32.toUInt32 31)).toInt32 = nI (i / 2) := nI_us1 (by omega)
      show some (Value.int (nI (31 - k) - ((nI i).toUInt32 >>> ((1 : Int32).toUInt32 &&& Int32.toUInt32 31)).toInt32)) = _
      rw [e1, nI_sub (by omega)]
    · rcases (show i = 1 ∨ i = 2 ∨ i = 3 by omega) with rfl | rfl | rfl
      · exact sh_of (k := k) (by omega) (by omega) (by omega)
      · rw [show 31 - k - 2 / 2 = 31 - (k + 1) by omega]
        exact sh_of (k := k + 1) (by omega) (by omega) (by omega)
      · rw [show 31 - k - 3 / 2 = 31 - (k + 1) by omega]
        exact sh_of (k := k + 1) (by omega) (by omega) (by omega)
  have S61 : ∀ k i, i = x / 2 ^ k → 0 < i → i < 16 → k ≤ 28 → vm_T (vm_env l O f9) mJ6_numberOfLeadingZeros_0f7a4 0 0 61 [(0, .int (nI i)), (1, .int (nI (31 - k)))] [] h (fun r h' => (∃ s, r = some (.int (nI s)) ∧ shO x s) ∧ h' = h) := by
    intro k i ei hi0 hi hk
    by_cases c : i < 4
    · exact vm_go rfl bJ6_numberOfLeadingZeros_0f7a4x_61 oJ6_numberOfLeadingZeros_0f7a4x_61 ⟨fun _ => S73 k i ei hi0 (by omega) (by omega), fun q => absurd (show nI i < nI 4 by rw [nI_ltI (by omega) (by decide)]; exact c) q⟩
    · refine vm_go rfl bJ6_numberOfLeadingZeros_0f7a4x_61 oJ6_numberOfLeadingZeros_0f7a4x_61 ⟨fun q => absurd (show nI i < nI 4 from q) (by rw [nI_ltI (by omega) (by decide)]; exact c), fun _ => ?_⟩
      refine vm_Th (lv' := [(0, .int (nI i)), (1, .int (nI (31 - (k + 2))))]) (h' := h) ?_ rfl ?_
      · rw [← nI_i16 (k := k) (w := 2) (by omega)]
        rfl
      refine vm_go rfl bJ6_numberOfLeadingZeros_0f7a4x_69 oJ6_numberOfLeadingZeros_0f7a4x_69 ?_
      refine vm_Th (lv' := [(0, .int (nI (i / 4))), (1, .int (nI (31 - (k + 2))))]) (h' := h) ?_ rfl ?_
      · have e1 : ((nI i).toUInt32 >>> ((2 : Int32).toUInt32 &&& Int32.toUInt32 31)).toInt32 = nI (i / 4) := nI_ush (s := 2) (by omega) (by decide)
        rw [← e1]
        rfl
      refine S73 (k + 2) (i / 4) ?_ (by omega) (by omega) (by omega)
      rw [ei, Nat.pow_add, Nat.div_div_eq_div_mul]
  have S48 : ∀ k i, i = x / 2 ^ k → 0 < i → i < 256 → k ≤ 24 → vm_T (vm_env l O f9) mJ6_numberOfLeadingZeros_0f7a4 0 0 48 [(0, .int (nI i)), (1, .int (nI (31 - k)))] [] h (fun r h' => (∃ s, r = some (.int (nI s)) ∧ shO x s) ∧ h' = h) := by
    intro k i ei hi0 hi hk
    by_cases c : i < 16
    · exact vm_go rfl bJ6_numberOfLeadingZeros_0f7a4x_48 oJ6_numberOfLeadingZeros_0f7a4x_48 ⟨fun _ => S61 k i ei hi0 (by omega) (by omega), fun q => absurd (show nI i < nI 16 by rw [nI_ltI (by omega) (by decide)]; exact c) q⟩
    · refine vm_go rfl bJ6_numberOfLeadingZeros_0f7a4x_48 oJ6_numberOfLeadingZeros_0f7a4x_48 ⟨fun q => absurd (show nI i < nI 16 from q) (by rw [nI_ltI (by omega) (by decide)]; exact c), fun _ => ?_⟩
      refine vm_Th (lv' := [(0, .int (nI i)), (1, .int (nI (31 - (k + 4))))]) (h' := h) ?_ rfl ?_
      · rw [← nI_i16 (k := k) (w := 4) (by omega)]
        rfl
      refine vm_go rfl bJ6_numberOfLeadingZeros_0f7a4x_57 oJ6_numberOfLeadingZeros_0f7a4x_57 ?_
      refine vm_Th (lv' := [(0, .int (nI (i / 16))), (1, .int (nI (31 - (k + 4))))]) (h' := h) ?_ rfl ?_
      · have e1 : ((nI i).toUInt32 >>> ((4 : Int32).toUInt32 &&& Int32.toUInt32 31)).toInt32 = nI (i / 16) := nI_ush (s := 4) (by omega) (by decide)
        rw [← e1]
        rfl
      refine S61 (k + 4) (i / 16) ?_ (by omega) (by omega) (by omega)
      rw [ei, Nat.pow_add, Nat.div_div_eq_div_mul]
  have S33 : ∀ k i, i = x / 2 ^ k → 0 < i → i < 65536 → k ≤ 16 → vm_T (vm_env l O f9) mJ6_numberOfLeadingZeros_0f7a4 0 0 33 [(0, .int (nI i)), (1, .int (nI (31 - k)))] [] h (fun r h' => (∃ s, r = some (.int (nI s)) ∧ shO x s) ∧ h' = h) := by
    intro k i ei hi0 hi hk
    by_cases c : i < 256
    · exact vm_go rfl bJ6_numberOfLeadingZeros_0f7a4x_33 oJ6_numberOfLeadingZeros_0f7a4x_33 ⟨fun _ => S48 k i ei hi0 (by omega) (by omega), fun q => absurd (show nI i < nI 256 by rw [nI_ltI (by omega) (by decide)]; exact c) q⟩
    · refine vm_go rfl bJ6_numberOfLeadingZeros_0f7a4x_33 oJ6_numberOfLeadingZeros_0f7a4x_33 ⟨fun q => absurd (show nI i < nI 256 from q) (by rw [nI_ltI (by omega) (by decide)]; exact c), fun _ => ?_⟩
      refine vm_Th (lv' := [(0, .int (nI i)), (1, .int (nI (31 - (k + 8))))]) (h' := h) ?_ rfl ?_
      · rw [← nI_i16 (k := k) (w := 8) (by omega)]
        rfl
      refine vm_go rfl bJ6_numberOfLeadingZeros_0f7a4x_43 oJ6_numberOfLeadingZeros_0f7a4x_43 ?_
      refine vm_Th (lv' := [(0, .int (nI (i / 256))), (1, .int (nI (31 - (k + 8))))]) (h' := h) ?_ rfl ?_
      · have e1 : ((nI i).toUInt32 >>> ((8 : Int32).toUInt32 &&& Int32.toUInt32 31)).toInt32 = nI (i / 256) := nI_ush (s := 8) (by omega) (by decide)
        rw [← e1]
        rfl
      refine S48 (k + 8) (i / 256) ?_ (by omega) (by omega) (by omega)
      rw [ei, Nat.pow_add, Nat.div_div_eq_div_mul]
  refine vm_go rfl bJ6_numberOfLeadingZeros_0f7a4x_15 oJ6_numberOfLeadingZeros_0f7a4x_15 ?_
  refine vm_Th (lv' := [(0, .int (nI x)), (1, .int (nI (31 - 0)))]) (h' := h) rfl rfl ?_
  by_cases c : x < 65536
  · exact vm_go rfl bJ6_numberOfLeadingZeros_0f7a4x_18 oJ6_numberOfLeadingZeros_0f7a4x_18 ⟨fun _ => S33 0 x (by rw [Nat.pow_zero, Nat.div_one]) h0 c (by decide), fun q => absurd (show nI x < nI 65536 by rw [nI_ltI (by omega) (by decide)]; exact c) q⟩
  · refine vm_go rfl bJ6_numberOfLeadingZeros_0f7a4x_18 oJ6_numberOfLeadingZeros_0f7a4x_18 ⟨fun q => absurd (show nI x < nI 65536 from q) (by rw [nI_ltI (by omega) (by decide)]; exact c), fun _ => ?_⟩
    refine vm_Th (lv' := [(0, .int (nI x)), (1, .int (nI (31 - 16)))]) (h' := h) rfl rfl ?_
    refine vm_go rfl bJ6_numberOfLeadingZeros_0f7a4x_28 oJ6_numberOfLeadingZeros_0f7a4x_28 ?_
    refine vm_Th (lv' := [(0, .int (nI (x / 65536))), (1, .int (nI (31 - 16)))]) (h' := h) ?_ rfl ?_
    · have e1 : ((nI x).toUInt32 >>> ((16 : Int32).toUInt32 &&& Int32.toUInt32 31)).toInt32 = nI (x / 65536) := nI_ush (s := 16) (by omega) (by decide)
      rw [← e1]
      rfl
    exact S33 16 (x / 65536) rfl (by omega) (by omega) (by decide)
theorem rm_is {M mm hg L pf n N : Nat} {x y : Int32} (k1 : h.2 M = .inr (12, [.ref mm, .ref hg, .int x, .int y])) (r1 : iw h 64 mm) (r2 : iw h 64 hg) (ha : wv h L pf n N) (h1 : n ≤ L) (hn2 : 2 ≤ n) (hn : n ≤ 64) (hN : N < 4294967296 ^ n) (hN1 : 4294967296 ^ (n - 1) ≤ N) (hm : M < 1099511627776 ∧ mm < 1099511627776 ∧ hg < 1099511627776) (hd : pf ≠ mm ∧ pf ≠ hg ∧ mm ≠ hg) : vm_Met (vm_env l O f9) mX12_is 0 0 [.ref M, .ref pf, .int (nI n)] h (fun r h' => r = none ∧ (∃ sh, MH h' M mm hg n N sh) ∧ fr h h' (fun q => q = M ∨ q = mm ∨ q = hg)) := by
  obtain ⟨f, ef, vf⟩ := ha
  obtain ⟨t1, e1⟩ := r1
  obtain ⟨t2, e2⟩ := r2
  have nM : ∀ {q LL : Nat} {t : Nat → Int32}, ia h LL q t → q ≠ M := fun hq z => by
    have hq : h.2 _ = _ := hq
    rw [z, k1] at hq
    cases hq
  have nf := nM ef
  have n1 := nM e1
  have n2 := nM e2
  refine vm_met rfl (Nat.le_of_ble_eq_true rfl) ?_
  refine vm_go rfl bX12_isx_0 oX12_isx_0 ⟨_, k1, hm.1, show 2 < 4 by decide, trivial, ?_⟩
  refine vm_Th (lv' := [(0, .ref M), (1, .ref pf), (2, .int (nI n)), (3, .int (nI 0))]) (h' := vm_up h M (.inr (12, [.ref mm, .ref hg, .int (nI n), .int y]))) rfl rfl ?_
  obtain ⟨ha, eha⟩ : ∃ ha, vm_up h M (.inr (12, [.ref mm, .ref hg, .int (nI n), .int y])) = ha := ⟨_, rfl⟩
  have Fa : fr h ha (fun q => q = M) := by rw [← eha]; exact fr_up rfl
  have ka : ha.2 M = .inr (12, [.ref mm, .ref hg, .int (nI n), .int y]) := by rw [← eha]; exact vm_upe
  rw [eha]
  refine vm_loop (fun i h' => (∃ t', ia h' 64 mm t' ∧ ∀ k, k < i → t' k = nI (dw N k)) ∧ fr ha h' (fun q => q = mm)) n (fun i => [(0, .ref M), (1, .ref pf), (2, .int (nI n)), (3, .int (nI i))]) 0 ha (Nat.zero_le _) ⟨⟨t1, (Fa.2 mm n1).trans e1, fun k hk => by omega⟩, fr_refl⟩ ?_ ?_
  rotate_left
  · rintro i h4 _ hi ⟨⟨t', e1', e2'⟩, F4⟩ ih
    have m4 : h4.2 M = _ := (F4.2 M (fun z => n1 z.symm)).trans ka
    have ef4 : ia h4 L pf f := (F4.2 pf hd.1).trans ((Fa.2 pf nf).trans ef)
    refine vm_go rfl bX12_isx_7 oX12_isx_7 ⟨_, _, m4, rfl, ⟨fun q => absurd q (nI_ge hi (by omega)), fun _ => ⟨_, _, m4, rfl, ⟨L, f, ef4, i, rfl, by omega, fun _ => ⟨64, t', e1', hm.2.1, i, rfl, by omega, ?_⟩⟩⟩⟩⟩
    refine vm_Th (lv' := [(0, .ref M), (1, .ref pf), (2, .int (nI n)), (3, .int (nI (i + 1)))]) (h' := vm_up h4 mm (.inl (.int, 64, .inl (upd t' i (f i))))) (by rw [← nI_1]; rfl) rfl ?_
    refine ih _ ⟨⟨_, vm_upe, fun k hk => ?_⟩, fr_trans F4 (fr_up rfl)⟩
    by_cases e : k = i
    · rw [e, upd_e, vf i (by omega)]
    · rw [upd_n e]; exact e2' k (by omega)
  rintro hb ⟨⟨t', e1', e2'⟩, Fb⟩
  have m4 : hb.2 M = .inr (12, [.ref mm, .ref hg, .int (nI n), .int y]) := (Fb.2 M (fun z => n1 z.symm)).trans ka
  refine vm_go rfl bX12_isx_7 oX12_isx_7 ⟨_, _, m4, rfl, ⟨fun _ => ?_, fun q => absurd (nI_le (a := n) (b := n) (Nat.le_refl _) (by omega)) q⟩⟩
  have en1 : nI n - 1 = nI (n - 1) := nI_sub (b := 1) (by omega)
  have hNn : N < 4294967296 ^ (n - 1 + 1) := by rw [show n - 1 + 1 = n by omega]; exact hN
  have htop : dw N (n - 1) = N / 4294967296 ^ (n - 1) := dw_top hNn
  have pB : 0 < 4294967296 ^ (n - 1) := Nat.pow_pos (by decide)
  have ht0 : 0 < dw N (n - 1) := by
    rw [htop]
    exact Nat.div_pos hN1 pB
  have hdt := dw_lt N (n - 1)
  refine vm_go rfl bX12_isx_30 oX12_isx_30 ⟨_, _, m4, rfl, ⟨_, _, m4, rfl, ⟨64, t', e1', n - 1, en1, by omega, fun _ => ⟨0, 0, _, vm_metA (s_nlz ht0 hdt) (by rw [e2' (n - 1) (by omega)]; rfl), Nat.zero_le _, Nat.zero_le _, ?_⟩⟩⟩⟩
  rintro _ h5 ⟨⟨sh, rfl, hs1, hs2, hs3⟩, e5⟩
  rw [e5]; clear e5 h5
  have hP := p2_32 (s := sh) (by omega)
  have hR : 0 < 2 ^ sh := Nat.pow_pos (by decide)
  have dd := Nat.div_add_mod N (4294967296 ^ (n - 1))
  have dm := Nat.mod_lt N pB
  rw [← htop] at dd
  have epn : 4294967296 ^ n = 4294967296 ^ (n - 1) * 4294967296 := by rw [← Nat.pow_succ, show (n - 1).succ = n by omega]
  have hHl : N * 2 ^ sh < 4294967296 ^ n := by
    have h3 : N * 2 ^ sh < (4294967296 ^ (n - 1) * (dw N (n - 1) + 1)) * 2 ^ sh := Nat.mul_lt_mul_of_pos_right (by rw [Nat.mul_add, Nat.mul_one]; omega) hR
    have h4 : (dw N (n - 1) + 1) * 2 ^ sh ≤ 4294967296 := by
      have h5 : dw N (n - 1) < 2 ^ (32 - sh) := by
        rcases Nat.lt_or_ge (dw N (n - 1)) (2 ^ (32 - sh)) with z | z
        · exact z
        · exfalso
          have : 2 ^ (32 - sh) * 2 ^ sh ≤ dw N (n - 1) * 2 ^ sh := Nat.mul_le_mul_right _ z
          omega
      have : (dw N (n - 1) + 1) * 2 ^ sh ≤ 2 ^ (32 - sh) * 2 ^ sh := Nat.mul_le_mul_right _ h5
      omega
    have h6 : 4294967296 ^ (n - 1) * ((dw N (n - 1) + 1) * 2 ^ sh) ≤ 4294967296 ^ (n - 1) * 4294967296 := Nat.mul_le_mul_left _ h4
    rw [epn]
    rw [Nat.mul_assoc] at h3
    exact Nat.lt_of_lt_of_le h3 h6
  have hH2 : 4294967296 ^ n ≤ 2 * (N * 2 ^ sh) := by
    have h3 : 4294967296 ^ (n - 1) * 2147483648 ≤ 4294967296 ^ (n - 1) * (dw N (n - 1) * 2 ^ sh) := Nat.mul_le_mul_left _ hs2
    have h4 : 4294967296 ^ (n - 1) * dw N (n - 1) * 2 ^ sh ≤ N * 2 ^ sh := Nat.mul_le_mul_right _ (by omega)
    rw [Nat.mul_assoc] at h4
    have h5 : 4294967296 ^ (n - 1) * 4294967296 = 2 * (4294967296 ^ (n - 1) * 2147483648) := by
      rw [Nat.mul_left_comm]
    rw [epn, h5]
    exact Nat.mul_le_mul_left 2 (Nat.le_trans h3 h4)
  have hN2 : 1 < N := by
    have : 4294967296 ^ 1 ≤ 4294967296 ^ (n - 1) := Nat.pow_le_pow_right (by decide) (by omega)
    exact Nat.lt_of_lt_of_le (show 1 < 4294967296 ^ 1 by decide) (Nat.le_trans this hN1)
  refine ⟨_, m4, hm.1, show 3 < 4 by decide, trivial, ⟨_, _, vm_upe, rfl, ?_⟩⟩
  refine vm_Th (lv' := [(0, .ref M), (1, .ref pf), (2, .int (nI n)), (3, .int (iZ ((n : Int) - 1)))]) (h' := vm_up hb M (.inr (12, [.ref mm, .ref hg, .int (nI n), .int (nI sh)]))) ?_ rfl ?_
  · have : iZ ((n : Int) - 1) = nI n - 1 := by
      rw [iZ_nI, show (1 : Int32) = iZ 1 by decide, iZ_sub]
    rw [this]; rfl
  obtain ⟨hc, ehc⟩ : ∃ hc, vm_up hb M (.inr (12, [.ref mm, .ref hg, .int (nI n), .int (nI sh)])) = hc := ⟨_, rfl⟩
  have Fc : fr hb hc (fun q => q = M) := by rw [← ehc]; exact fr_up rfl
  have kc : hc.2 M = .inr (12, [.ref mm, .ref hg, .int (nI n), .int (nI sh)]) := by rw [← ehc]; exact vm_upe
  rw [ehc]
  have em : ia hc 64 mm t' := (Fc.2 mm n1).trans e1'
  have eg : ia hc 64 hg t2 := (Fc.2 hg n2).trans ((Fb.2 hg (fun z => hd.2.2 z.symm)).trans ((Fa.2 hg n2).trans e2))
  have FA : fr h hc (fun q => q = M ∨ q = mm ∨ q = hg) := fr_trans (fr_mono Fa (fun q z => Or.inl z)) (fr_trans (fr_mono Fb (fun q z => Or.inr (Or.inl z))) (fr_mono Fc (fun q z => Or.inl z)))
  have TT : ∀ i, i ≤ n → ∀ (h4 : vm_H) (t : Nat → Int32), ia h4 64 hg t → (∀ k, i ≤ k → k < n → t k = nI (dw (N * 2 ^ sh) k)) → fr hc h4 (fun q => q = hg) → vm_T (vm_env l O f9) mX12_is 0 0 55 [(0, .ref M), (1, .ref pf), (2, .int (nI n)), (3, .int (iZ ((i : Int) - 1)))] [] h4 (fun r h' => r = none ∧ (∃ sh, MH h' M mm hg n N sh) ∧ fr h h' (fun q => q = M ∨ q = mm ∨ q = hg)) := by
    intro i
    induction i with
    | zero =>
      intro _ h4 t q1 q3 F4
      refine vm_go rfl bX12_isx_55 oX12_isx_55 ⟨fun _ => ?_, fun q => absurd (show iZ (((0 : Nat) : Int) - 1) < 0 by decide) q⟩
      refine vm_go rfl bX12_isx_114 oX12_isx_114 ⟨rfl, ⟨sh, ⟨(F4.2 M (fun z => n2 z.symm)).trans kc, ⟨t', (F4.2 mm hd.2.2).trans em, e2'⟩, hn, hn2, hN, hN2⟩, ⟨t, q1, fun k hk => q3 k (by omega) hk⟩, hs1, hHl, hH2⟩, fr_trans FA (fr_mono F4 (fun q z => Or.inr (Or.inr z)))⟩
    | succ i ih =>
      intro hi h4 t q1 q3 F4
      have ei : iZ (((i + 1 : Nat) : Int) - 1) = nI i := by
        rw [iZ_nI]; congr 1; omega
      rw [ei]
      have m4 : h4.2 M = .inr (12, [.ref mm, .ref hg, .int (nI n), .int (nI sh)]) := (F4.2 M (fun z => n2 z.symm)).trans kc
      have em4 : ia h4 64 mm t' := (F4.2 mm hd.2.2).trans em
      have t96 : ∀ x : Int32, nI (dw N i) <<< (nI sh &&& 31) ||| x = nI (dw (N * 2 ^ sh) i) → vm_T (vm_env l O f9) mX12_is 0 0 106 [(0, .ref M), (1, .ref pf), (2, .int (nI n)), (3, .int (nI i))] [.int x, .int (nI (dw N i) <<< (nI sh &&& 31)), .int (nI i), .ref hg] h4 (fun r h' => r = none ∧ (∃ sh, MH h' M mm hg n N sh) ∧ fr h h' (fun q => q = M ∨ q = mm ∨ q = hg)) := by
        intro x hx
        refine vm_go rfl bX12_isx_106 oX12_isx_106 ⟨64, t, q1, hm.2.2, i, rfl, by omega, ?_⟩
        refine vm_Th (lv' := [(0, .ref M), (1, .ref pf), (2, .int (nI n)), (3, .int (iZ ((i : Int) - 1)))]) (h' := vm_up h4 hg (.inl (.int, 64, .inl (upd t i (nI (dw (N * 2 ^ sh) i)))))) ?_ (by rw [← hx]) ?_
        · have : iZ ((i : Int) - 1) = nI i + (-1) := by
            rw [iZ_nI, show (-1 : Int32) = iZ (-1) by decide, iZ_add]; rfl
          rw [this]; rfl
        refine ih (by omega) _ _ vm_upe (fun k h1 h2 => ?_) (fr_trans F4 (fr_up rfl))
        by_cases e : k = i
        · rw [e]; exact upd_e
        · rw [upd_n e]; exact q3 k (by omega) h2
      have n0 : ¬ nI i < (0 : Int32) := by
        show ¬ nI i < nI 0
        rw [nI_ltI (by omega) (by decide)]; omega
      have eA := nI_sx (x := dw N i) hs1
      have ev : t' i = nI (dw N i) := e2' i (by omega)
      have hdx := dw_lt N i
      by_cases s0 : sh = 0
      · have c1 : nI sh ≤ (0 : Int32) := by rw [s0]; decide
        refine vm_go rfl bX12_isx_55 oX12_isx_55 ⟨fun q => absurd q n0, fun _ => ⟨_, _, m4, rfl, ⟨_, _, m4, rfl, ⟨64, t', em4, i, rfl, by omega, fun _ => ⟨_, _, m4, rfl, ⟨_, _, m4, rfl, ⟨fun _ => ?_, fun q => absurd c1 q⟩⟩⟩⟩⟩⟩⟩
        rw [ev]
        refine vm_go rfl bX12_isx_105 oX12_isx_105 (t96 0 ?_)
        rw [eA, Int32.or_zero, s0]
        show nI (dw N i % 4294967296 * 1) = nI (dw (N * 1) i)
        rw [Nat.mul_one, Nat.mul_one, Nat.mod_eq_of_lt hdx]
      · have c1 : ¬ nI sh ≤ (0 : Int32) := by
          show ¬ nI sh ≤ nI 0
          rw [nI_leI (by omega) (by decide)]; omega
        by_cases i0 : i = 0
        · have c2 : nI i ≤ (0 : Int32) := by rw [i0]; decide
          refine vm_go rfl bX12_isx_55 oX12_isx_55 ⟨fun q => absurd q n0, fun _ => ⟨_, _, m4, rfl, ⟨_, _, m4, rfl, ⟨64, t', em4, i, rfl, by omega, fun _ => ⟨_, _, m4, rfl, ⟨_, _, m4, rfl, ⟨fun q => absurd q c1, fun _ => ⟨fun _ => ?_, fun q => absurd c2 q⟩⟩⟩⟩⟩⟩⟩⟩
          rw [ev]
          refine vm_go rfl bX12_isx_105 oX12_isx_105 (t96 0 ?_)
          rw [eA, Int32.or_zero, i0, shl_0 hP hR]
        · have c2 : ¬ nI i ≤ (0 : Int32) := by
            show ¬ nI i ≤ nI 0
            rw [nI_leI (by omega) (by decide)]; omega
          have ej : nI i - 1 = nI (i - 1) := nI_sub (b := 1) (by omega)
          refine vm_go rfl bX12_isx_55 oX12_isx_55 ⟨fun q => absurd q n0, fun _ => ⟨_, _, m4, rfl, ⟨_, _, m4, rfl, ⟨64, t', em4, i, rfl, by omega, fun _ => ⟨_, _, m4, rfl, ⟨_, _, m4, rfl, ⟨fun q => absurd q c1, fun _ => ⟨fun q => absurd q c2, fun _ => ⟨_, _, m4, rfl, ⟨64, t', em4, i - 1, ej, by omega, fun _ => ⟨_, _, m4, rfl, ?_⟩⟩⟩⟩⟩⟩⟩⟩⟩⟩⟩
          rw [ev]
          refine t96 _ ?_
          obtain ⟨j, rfl⟩ : ∃ j, i = j + 1 := ⟨i - 1, by omega⟩
          have hdj := dw_lt N j
          have hlow : dw N j / 2 ^ (32 - sh) < 2 ^ sh := by
            refine Nat.div_lt_of_lt_mul ?_
            rw [hP]; exact hdj
          have e5 : ((t' (j + 1 - 1)).toUInt32 >>> ((32 - nI sh).toUInt32 &&& Int32.toUInt32 31)).toInt32 = nI (dw N j / 2 ^ (32 - sh)) := by
            rw [show j + 1 - 1 = j from rfl, e2' j (by omega), show (32 : Int32) - nI sh = nI (32 - sh) from nI_sub (a := 32) (by omega)]
            exact nI_ush hdj (by omega)
          rw [show ((t' (j + 1 - 1)).toUInt32 >>> ((32 - nI sh).toUInt32 &&& Int32.toUInt32 31)).toInt32 = nI (dw N j / 2 ^ (32 - sh)) from e5, eA, or_l hdx hlow hs1, shl_dw hP hR]
  exact TT n (Nat.le_refl _) hc t2 eg (fun k h1 h2 => by omega) fr_refl
theorem rm_bits {M mm hg n N sh : Nat} (k : MH h M mm hg n N sh) : vm_Met (vm_env l O f9) mX12_bits 0 0 [.ref M] h (fun r h' => r = some (.int (nI (32 * n - sh))) ∧ h' = h) := by
  have k0 := k.2.2.1
  have k4 := k.1.2.2.2.1
  refine vm_met rfl (Nat.le_of_ble_eq_true rfl) ?_
  refine vm_go rfl bX12_bits_0 oX12_bits_0 ⟨_, _, k.1.1, rfl, ⟨_, _, k.1.1, rfl, ⟨?_, rfl⟩⟩⟩
  show some (Value.int (32 * nI n - nI sh)) = _
  rw [show (32 : Int32) * nI n = nI (32 * n) from nI_mul 32 n, nI_sub (by omega)]
end
