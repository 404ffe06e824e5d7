/-! Long.divideUnsigned, remainderUnsigned, compareUnsigned; how a digit of a quotient is guessed -/
def bJ13_divideUnsigned_f86c9x_0 : List vm_J := [(1, .lload_n 2, 0, 0, 0, .null), (1, .lconst 0, 0, 0, 0, .long 0), (1, .lcmp, 0, 0, 0, .null), (3, .ifCond .lt 38, 41, 0, 0, .null), (1, .lload_n 0, 0, 0, 0, .null), (1, .iconst 1, 0, 0, 0, .int 1), (1, .lushr, 0, 0, 0, .null), (1, .lload_n 2, 0, 0, 0, .null), (1, .ldiv, 0, 0, 0, .null), (1, .iconst 1, 0, 0, 0, .int 1), (1, .lshl, 0, 0, 0, .null), (2, .lstore 4, 0, 0, 0, .null)]
set_option maxRecDepth 20000 in
theorem oJ13_divideUnsigned_f86c9x_0 : vm_okB 16 mJ13_divideUnsigned_f86c9 0 bJ13_divideUnsigned_f86c9x_0 = true := by decide +kernel
def bJ13_divideUnsigned_f86c9x_15 : List vm_J := [(1, .lload_n 0, 0, 0, 0, .null), (2, .lload 4, 0, 0, 0, .null), (1, .lload_n 2, 0, 0, 0, .null), (1, .lmul, 0, 0, 0, .null), (1, .lsub, 0, 0, 0, .null), (2, .lstore 6, 0, 0, 0, .null)]
set_option maxRecDepth 20000 in
theorem oJ13_divideUnsigned_f86c9x_15 : vm_okB 16 mJ13_divideUnsigned_f86c9 15 bJ13_divideUnsigned_f86c9x_15 = true := by decide +kernel
def bJ13_divideUnsigned_f86c9x_23 : List vm_J := [(2, .lload 4, 0, 0, 0, .null), (2, .lload 6, 0, 0, 0, .null), (2, .lload 6, 0, 0, 0, .null), (1, .lload_n 2, 0, 0, 0, .null), (1, .lsub, 0, 0, 0, .null), (3, .ldc2_w 306, 0, 0, 0, .long (-1)), (1, .lxor, 0, 0, 0, .null), (1, .lor, 0, 0, 0, .null), (2, .bipush 63, 0, 0, 0, .int 63), (1, .lushr, 0, 0, 0, .null), (1, .ladd, 0, 0, 0, .null), (1, .lreturn, 0, 0, 0, .null)]
set_option maxRecDepth 20000 in
theorem oJ13_divideUnsigned_f86c9x_23 : vm_okB 16 mJ13_divideUnsigned_f86c9 23 bJ13_divideUnsigned_f86c9x_23 = true := by decide +kernel
def bJ13_divideUnsigned_f86c9x_41 : List vm_J := [(1, .lload_n 0, 0, 0, 0, .null), (1, .lload_n 0, 0, 0, 0, .null), (1, .lload_n 2, 0, 0, 0, .null), (1, .lsub, 0, 0, 0, .null), (3, .ldc2_w 306, 0, 0, 0, .long (-1)), (1, .lxor, 0, 0, 0, .null), (1, .land, 0, 0, 0, .null), (2, .bipush 63, 0, 0, 0, .int 63), (1, .lushr, 0, 0, 0, .null), (1, .lreturn, 0, 0, 0, .null)]
set_option maxRecDepth 20000 in
theorem oJ13_divideUnsigned_f86c9x_41 : vm_okB 16 mJ13_divideUnsigned_f86c9 41 bJ13_divideUnsigned_f86c9x_41 = true := by decide +kernel
def bJ13_remainderUnsigned_f86c9x_0 : List vm_J := [(1, .lload_n 2, 0, 0, 0, .null), (1, .lconst 0, 0, 0, 0, .long 0), (1, .lcmp, 0, 0, 0, .null), (3, .ifCond .lt 37, 40, 0, 0, .null), (1, .lload_n 0, 0, 0, 0, .null), (1, .iconst 1, 0, 0, 0, .int 1), (1, .lushr, 0, 0, 0, .null), (1, .lload_n 2, 0, 0, 0, .null), (1, .ldiv, 0, 0, 0, .null), (1, .iconst 1, 0, 0, 0, .int 1), (1, .lshl, 0, 0, 0, .null), (2, .lstore 4, 0, 0, 0, .null)]
set_option maxRecDepth 20000 in
theorem oJ13_remainderUnsigned_f86c9x_0 : vm_okB 16 mJ13_remainderUnsigned_f86c9 0 bJ13_remainderUnsigned_f86c9x_0 = true := by decide +kernel
def bJ13_remainderUnsigned_f86c9x_15 : List vm_J := [(1, .lload_n 0, 0, 0, 0, .null), (2, .lload 4, 0, 0, 0, .null), (1, .lload_n 2, 0, 0, 0, .null), (1, .lmul, 0, 0, 0, .null), (1, .lsub, 0, 0, 0, .null), (2, .lstore 6, 0, 0, 0, .null)]
set_option maxRecDepth 20000 in
theorem oJ13_remainderUnsigned_f86c9x_15 : vm_okB 16 mJ13_remainderUnsigned_f86c9 15 bJ13_remainderUnsigned_f86c9x_15 = true := by decide +kernel
def bJ13_remainderUnsigned_f86c9x_23 : List vm_J := [(2, .lload 6, 0, 0, 0, .null), (2, .lload 6, 0, 0, 0, .null), (1, .lload_n 2, 0, 0, 0, .null), (1, .lsub, 0, 0, 0, .null), (3, .ldc2_w 306, 0, 0, 0, .long (-1)), (1, .lxor, 0, 0, 0, .null), (2, .bipush 63, 0, 0, 0, .int 63), (1, .lshr, 0, 0, 0, .null), (1, .lload_n 2, 0, 0, 0, .null), (1, .land, 0, 0, 0, .null), (1, .lsub, 0, 0, 0, .null), (1, .lreturn, 0, 0, 0, .null)]
set_option maxRecDepth 20000 in
theorem oJ13_remainderUnsigned_f86c9x_23 : vm_okB 16 mJ13_remainderUnsigned_f86c9 23 bJ13_remainderUnsigned_f86c9x_23 = true := by decide +kernel
def bJ13_remainderUnsigned_f86c9x_40 : List vm_J := [(1, .lload_n 0, 0, 0, 0, .null), (1, .lload_n 0, 0, 0, 0, .null), (1, .lload_n 0, 0, 0, 0, .null), (1, .lload_n 2, 0, 0, 0, .null), (1, .lsub, 0, 0, 0, .null), (3, .ldc2_w 306, 0, 0, 0, .long (-1)), (1, .lxor, 0, 0, 0, .null), (1, .land, 0, 0, 0, .null), (2, .bipush 63, 0, 0, 0, .int 63), (1, .lshr, 0, 0, 0, .null), (1, .lload_n 2, 0, 0, 0, .null), (1, .land, 0, 0, 0, .null), (1, .lsub, 0, 0, 0, .null), (1, .lreturn, 0, 0, 0, .null)]
set_option maxRecDepth 20000 in
theorem oJ13_remainderUnsigned_f86c9x_40 : vm_okB 16 mJ13_remainderUnsigned_f86c9 40 bJ13_remainderUnsigned_f86c9x_40 = true := by decide +kernel
theorem lZ_dv {a b : Nat} (ha : a < 9223372036854775808) (hb : b < 9223372036854775808) : lZ (a : Int) / lZ (b : Int) = lZ ((a / b : Nat) : Int) := by
  have h1 : a / b < 9223372036854775808 := Nat.lt_of_le_of_lt (Nat.div_le_self _ _) ha
  apply Int64.toInt_inj.mp
  rw [Int64.toInt_div_of_ne_left]
  · rw [lZ_toInt (by omega) (by omega), lZ_toInt (by omega) (by omega), ← Int.ofNat_tdiv]
    generalize a / b = c at *
    rw [lZ_toInt (by omega) (by omega)]
  · intro z
    have := congrArg Int64.toInt z
    rw [lZ_toInt (by omega) (by omega)] at this
    have e : Int64.minValue.toInt = -9223372036854775808 := by decide
    omega
theorem lZ_not (z : Int) : lZ z ^^^ -1 = lZ (-z - 1) := by
  apply lZ_ext
  rw [Int64.toBitVec_xor, lZ_bv, lZ_bv, show (-1 : Int64).toBitVec = BitVec.allOnes 64 by decide, BitVec.xor_allOnes, BitVec.not_eq_neg_add, ← BitVec.ofInt_neg]
  show BitVec.ofInt 64 (-z) - BitVec.ofInt 64 1 = _
  have h1 : lZ (-z) - lZ 1 = lZ (-z - 1) := lZ_sub _ _
  have h2 := congrArg Int64.toBitVec h1
  rw [Int64.toBitVec_sub, lZ_bv, lZ_bv, lZ_bv] at h2
  exact h2
theorem lZ_msb {z : Int} (h1 : -9223372036854775808 ≤ z) (h2 : z < 9223372036854775808) : (lZ z).toBitVec.msb = decide (z < 0) := by
  rw [BitVec.msb_eq_toInt]
  have : (lZ z).toBitVec.toInt = z := lZ_toInt h1 h2
  rw [this]
theorem ush63 (x : Int64) : (x.toUInt64 >>> ((63 : Int32).toInt64.toUInt64 &&& Int64.toUInt64 63)).toInt64 = if x.toBitVec.msb = true then 1 else 0 := by
  have e9 : ((63 : Int32).toInt64.toUInt64 &&& Int64.toUInt64 63) = 63 := by decide
  rw [e9]
  apply Int64.toBitVec_inj.mp
  apply BitVec.eq_of_toNat_eq
  have e : ((x.toUInt64 >>> 63).toInt64).toBitVec.toNat = x.toBitVec.toNat / 2 ^ 63 := by
    show (x.toUInt64 >>> 63).toNat = _
    rw [UInt64.toNat_shiftRight]
    show x.toUInt64.toNat >>> (63 % 64) = _
    rw [Nat.shiftRight_eq_div_pow]
    rfl
  rw [e]
  have hl := x.toBitVec.isLt
  have hm := BitVec.msb_eq_decide x.toBitVec
  rw [hm]
  by_cases q : 2 ^ (64 - 1) ≤ x.toBitVec.toNat
  · rw [decide_eq_true q, if_pos rfl]
    show _ = 1
    omega
  · rw [decide_eq_false q, if_neg (by decide)]
    show _ = 0
    omega
theorem lZ_sg {r d : Nat} (hr : r < 17179869184) (hd : d < 4294967296) : ((lZ (r : Int) ||| (lZ (r : Int) - lZ (d : Int)) ^^^ -1).toUInt64 >>> ((63 : Int32).toInt64.toUInt64 &&& Int64.toUInt64 63)).toInt64 = lZ ((if r < d then 0 else 1 : Nat) : Int) := by
  rw [ush63, Int64.toBitVec_or, BitVec.msb_or, lZ_sub, lZ_not, lZ_msb (by omega) (by omega), lZ_msb (by omega) (by omega)]
  by_cases q : r < d
  · rw [if_pos q, decide_eq_false (by omega), decide_eq_false (by omega)]
    rfl
  · rw [if_neg q, decide_eq_false (by omega), decide_eq_true (by omega)]
    rfl
theorem lZ_an (z : Int) : lZ (-1) &&& lZ z = lZ z := by
  apply lZ_ext
  rw [Int64.toBitVec_and, show (lZ (-1)).toBitVec = BitVec.allOnes 64 by decide, BitVec.allOnes_and]
theorem lZ_a0 (z : Int) : lZ 0 &&& lZ z = lZ 0 := by
  apply lZ_ext
  rw [Int64.toBitVec_and, show (lZ 0).toBitVec = 0#64 by decide, BitVec.zero_and]
theorem lZ_u1 {S : Nat} (h : S < 18446744073709551616) : ((lZ (S : Int)).toUInt64 >>> ((1 : Int32).toInt64.toUInt64 &&& Int64.toUInt64 63)).toInt64 = lZ ((S / 2 : Nat) : Int) := by
  rw [lZ_ushr (z := (S : Int)) (k := 1) (by omega) (by omega) (by decide)]
  rfl
theorem lZ_s63 {z : Int} (h1 : -9223372036854775808 ≤ z) (h2 : z < 9223372036854775808) : lZ z >>> ((63 : Int32).toInt64 &&& 63) = lZ (if z < 0 then -1 else 0) := by
  rw [lZ_shr (k := 63) h1 h2 (by decide)]
  congr 1
  split <;> omega
theorem dv_2 {x d : Nat} (h0 : 0 < d) : x - x / 2 / d * 2 * d < 2 * d ∧ x / 2 / d * 2 * d ≤ x ∧ x / d = x / 2 / d * 2 + (if x - x / 2 / d * 2 * d < d then 0 else 1) ∧ x % d = x - x / 2 / d * 2 * d - (if x - x / 2 / d * 2 * d < d then 0 else d) := by
  have e1 := Nat.div_add_mod (x / 2) d
  have e2 := Nat.mod_lt (x / 2) h0
  have e3 : x / 2 / d * 2 * d = 2 * (d * (x / 2 / d)) := by rw [Nat.mul_comm (x / 2 / d) 2, Nat.mul_assoc, Nat.mul_comm (x / 2 / d) d]
  rw [e3]
  have h1 : x - 2 * (d * (x / 2 / d)) < 2 * d := by omega
  have h2 : 2 * (d * (x / 2 / d)) ≤ x := by omega
  refine ⟨h1, h2, ?_⟩
  generalize hq : x / 2 / d = q at *
  have e4 : d * (q * 2) = 2 * (d * q) := by rw [Nat.mul_comm q 2, ← Nat.mul_assoc, Nat.mul_comm d 2, Nat.mul_assoc]
  by_cases c : x - 2 * (d * q) < d
  · rw [if_pos c, if_pos c]
    have e5 : x = (x - 2 * (d * q)) + d * (q * 2) := by omega
    have e6 : x / d = q * 2 := by rw [e5, Nat.add_mul_div_left _ _ h0, Nat.div_eq_of_lt c, Nat.zero_add]
    have e7 : x % d = x - 2 * (d * q) := by
      have := Nat.add_mul_mod_self_left (x - 2 * (d * q)) d (q * 2)
      rw [← e5, Nat.mod_eq_of_lt c] at this
      exact this
    exact ⟨by rw [e6]; rfl, by rw [e7]; rfl⟩
  · rw [if_neg c, if_neg c]
    have e8 : d * (q * 2 + 1) = 2 * (d * q) + d := by rw [Nat.mul_add, e4, Nat.mul_one]
    have e5 : x = (x - 2 * (d * q) - d) + d * (q * 2 + 1) := by omega
    have c2 : x - 2 * (d * q) - d < d := by omega
    have e6 : x / d = q * 2 + 1 := by
      have := Nat.add_mul_div_left (x - 2 * (d * q) - d) (q * 2 + 1) h0
      rw [← e5, Nat.div_eq_of_lt c2, Nat.zero_add] at this
      exact this
    have e7 : x % d = x - 2 * (d * q) - d := by
      have := Nat.add_mul_mod_self_left (x - 2 * (d * q) - d) d (q * 2 + 1)
      rw [← e5, Nat.mod_eq_of_lt c2] at this
      exact this
    exact ⟨e6, e7⟩
theorem lc_nn {d : Nat} (hd : d < 4294967296) : ¬ lg_cmp (lZ (d : Int)) 0 < 0 := by
  by_cases e : d = 0
  · rw [e]; exact (by decide : ¬ lg_cmp (lZ ((0 : Nat) : Int)) 0 < 0)
  · rw [show (0 : Int64) = lZ ((0 : Nat) : Int) from rfl, lc_gt hd (by omega)]
    decide
section
variable {l : Launch} {O : Nat → vm_Ob} {f9 : Value} {h : vm_H}
theorem s_dvu {x d : Nat} (hx : x < 18446744073709551616) (h0 : 0 < d) (hd : d < 4294967296) : vm_Met (vm_env l O f9) mJ13_divideUnsigned_f86c9 0 0 [.long (lZ (x : Int)), .long (lZ (d : Int))] h (fun r h' => r = some (.long (lZ ((x / d : Nat) : Int))) ∧ h' = h) := by
  obtain ⟨d1, d2, d3, -⟩ := dv_2 (x := x) h0
  have hz : ¬ lZ (d : Int) = 0 := by
    intro z
    rw [show (0 : Int64) = lZ ((0 : Nat) : Int) from rfl, lZ_inj (by omega) (by omega) (by omega) (by omega)] at z
    omega
  refine vm_metF (by decide +kernel) (Nat.le_of_ble_eq_true rfl) ?_
  refine vm_go rfl bJ13_divideUnsigned_f86c9x_0 oJ13_divideUnsigned_f86c9x_0 ⟨fun y => absurd y (lc_nn hd), fun _ => ⟨hz, ?_⟩⟩
  refine vm_Th (lv' := [(0, .long (lZ (x : Int))), (2, .long (lZ (d : Int))), (4, .long (lZ ((x / 2 / d * 2 : Nat) : Int)))]) (h' := h) ?_ rfl ?_
  · have : lZ ((x / 2 / d * 2 : Nat) : Int) = (((lZ (x : Int)).toUInt64 >>> ((1 : Int32).toInt64.toUInt64 &&& Int64.toUInt64 63)).toInt64 / lZ (d : Int)) <<< ((1 : Int32).toInt64 &&& 63) := by
      rw [lZ_u1 hx, lZ_dv (by omega) (by omega), show ((1 : Int32).toInt64 &&& 63) = ((nI 1).toInt64 &&& 63) from rfl, lZ_sh _ 1 (by decide)]
    rw [this]; rfl
  refine vm_go rfl bJ13_divideUnsigned_f86c9x_15 oJ13_divideUnsigned_f86c9x_15 ?_
  generalize x / 2 / d * 2 = q at *
  obtain ⟨r, er⟩ : ∃ r, x - q * d = r := ⟨_, rfl⟩
  rw [er] at d1 d3
  refine vm_Th (lv' := [(0, .long (lZ (x : Int))), (2, .long (lZ (d : Int))), (4, .long (lZ (q : Int))), (6, .long (lZ (r : Int)))]) (h' := h) ?_ rfl ?_
  · have : lZ (r : Int) = lZ (x : Int) - lZ (q : Int) * lZ (d : Int) := by
      rw [lZ_mul, lZ_sub, ← er, Int.natCast_sub d2, Int.natCast_mul]
    rw [this]; rfl
  refine vm_go rfl bJ13_divideUnsigned_f86c9x_23 oJ13_divideUnsigned_f86c9x_23 ⟨?_, rfl⟩
  rw [d3, Int.natCast_add, ← lZ_add, ← lZ_sg (by omega) hd]
theorem s_rmu {x d : Nat} (hx : x < 18446744073709551616) (h0 : 0 < d) (hd : d < 4294967296) : vm_Met (vm_env l O f9) mJ13_remainderUnsigned_f86c9 0 0 [.long (lZ (x : Int)), .long (lZ (d : Int))] h (fun r h' => r = some (.long (lZ ((x % d : Nat) : Int))) ∧ h' = h) := by
  obtain ⟨d1, d2, -, d3⟩ := dv_2 (x := x) h0
  have hz : ¬ lZ (d : Int) = 0 := by
    intro z
    rw [show (0 : Int64) = lZ ((0 : Nat) : Int) from rfl, lZ_inj (by omega) (by omega) (by omega) (by omega)] at z
    omega
  refine vm_metF (by decide +kernel) (Nat.le_of_ble_eq_true rfl) ?_
  refine vm_go rfl bJ13_remainderUnsigned_f86c9x_0 oJ13_remainderUnsigned_f86c9x_0 ⟨fun y => absurd y (lc_nn hd), fun _ => ⟨hz, ?_⟩⟩
  refine vm_Th (lv' := [(0, .long (lZ (x : Int))), (2, .long (lZ (d : Int))), (4, .long (lZ ((x / 2 / d * 2 : Nat) : Int)))]) (h' := h) ?_ rfl ?_
  · have : lZ ((x / 2 / d * 2 : Nat) : Int) = (((lZ (x : Int)).toUInt64 >>> ((1 : Int32).toInt64.toUInt64 &&& Int64.toUInt64 63)).toInt64 / lZ (d : Int)) <<< ((1 : Int32).toInt64 &&& 63) := by
      rw [lZ_u1 hx, lZ_dv (by omega) (by omega), show ((1 : Int32).toInt64 &&& 63) = ((nI 1).toInt64 &&& 63) from rfl, lZ_sh _ 1 (by decide)]
    rw [this]; rfl
  refine vm_go rfl bJ13_remainderUnsigned_f86c9x_15 oJ13_remainderUnsigned_f86c9x_15 ?_
  generalize x / 2 / d * 2 = q at *
  obtain ⟨r, er⟩ : ∃ r, x - q * d = r := ⟨_, rfl⟩
  rw [er] at d1 d3
  refine vm_Th (lv' := [(0, .long (lZ (x : Int))), (2, .long (lZ (d : Int))), (4, .long (lZ (q : Int))), (6, .long (lZ (r : Int)))]) (h' := h) ?_ rfl ?_
  · have : lZ (r : Int) = lZ (x : Int) - lZ (q : Int) * lZ (d : Int) := by
      rw [lZ_mul, lZ_sub, ← er, Int.natCast_sub d2, Int.natCast_mul]
    rw [this]; rfl
  refine vm_go rfl bJ13_remainderUnsigned_f86c9x_23 oJ13_remainderUnsigned_f86c9x_23 ⟨?_, rfl⟩
  have : lZ ((x % d : Nat) : Int) = lZ (r : Int) - (((lZ (r : Int) - lZ (d : Int)) ^^^ -1) >>> ((63 : Int32).toInt64 &&& 63) &&& lZ (d : Int)) := by
    rw [lZ_sub, lZ_not, lZ_s63 (by omega) (by omega), d3]
    by_cases c : r < d
    · rw [if_pos c, if_neg (by omega), lZ_a0, lZ_sub]
      congr 1 <;> omega
    · rw [if_neg c, if_pos (by omega), lZ_an, lZ_sub]
      congr 1 <;> omega
  rw [this]
theorem s_cpu {x y : Nat} (hx : x < 18446744073709551616) (hy : y < 18446744073709551616) : vm_Met (vm_env l O f9) mJ13_compareUnsigned_74951 0 0 [.long (lZ (x : Int)), .long (lZ (y : Int))] h (fun r h' => (∃ z : Int32, r = some (.int z) ∧ (0 < z ↔ y < x)) ∧ h' = h) := by
  refine vm_metF (by decide +kernel) (Nat.le_of_ble_eq_true rfl) ?_
  have e9 : (-9223372036854775808 : Int64) = lZ (-9223372036854775808) := rfl
  have cmp : vm_Met (vm_env l O f9) mJ13_compare_74951 0 0 [.long (lZ ((x : Int) - 9223372036854775808)), .long (lZ ((y : Int) - 9223372036854775808))] h (fun r h' => (∃ z : Int32, r = some (.int z) ∧ (0 < z ↔ y < x)) ∧ h' = h) := by
    refine vm_metF (by decide +kernel) (Nat.le_of_ble_eq_true rfl) ?_
    obtain ⟨X, eX⟩ : ∃ X : Int, (x : Int) - 9223372036854775808 = X := ⟨_, rfl⟩
    obtain ⟨Y, eY⟩ : ∃ Y : Int, (y : Int) - 9223372036854775808 = Y := ⟨_, rfl⟩
    rw [eX, eY]
    have hlt := lZ_lt (a := X) (b := Y) (by omega) (by omega) (by omega) (by omega)
    have hgt := lZ_lt (a := Y) (b := X) (by omega) (by omega) (by omega) (by omega)
    have hin := lZ_inj (a := X) (b := Y) (by omega) (by omega) (by omega) (by omega)
    by_cases c1 : X < Y
    · have c : lg_cmp (lZ X) (lZ Y) = -1 := by
        unfold lg_cmp
        rw [if_neg (by show ¬ lZ Y < lZ X; rw [hgt]; omega), if_neg (by rw [hin]; omega)]
      refine vm_go rfl bJ13_compare_74951_0 oJ13_compare_74951_0 ⟨fun q => absurd (show 0 ≤ lg_cmp (lZ X) (lZ Y) from q) (by rw [c]; decide), fun _ => ?_⟩
      exact vm_go rfl bJ13_compare_74951_21 oJ13_compare_74951_21 ⟨⟨-1, rfl, ⟨fun q => absurd q (by decide), fun q => by omega⟩⟩, rfl⟩
    by_cases c2 : X = Y
    · have c : lg_cmp (lZ X) (lZ Y) = 0 := by rw [c2]; exact lc_ee
      refine vm_go rfl bJ13_compare_74951_0 oJ13_compare_74951_0 ⟨fun _ => ?_, fun q => absurd (show 0 ≤ lg_cmp (lZ X) (lZ Y) by rw [c]; decide) q⟩
      refine vm_go rfl bJ13_compare_74951_10 oJ13_compare_74951_10 ⟨fun q => absurd c q, fun _ => ?_⟩
      exact vm_go rfl bJ13_compare_74951_21 oJ13_compare_74951_21 ⟨⟨0, rfl, ⟨fun q => absurd q (by decide), fun q => by omega⟩⟩, rfl⟩
    · have c : lg_cmp (lZ X) (lZ Y) = 1 := by
        unfold lg_cmp
        rw [if_pos (by show lZ Y < lZ X; rw [hgt]; omega)]
      refine vm_go rfl bJ13_compare_74951_0 oJ13_compare_74951_0 ⟨fun _ => ?_, fun q => absurd (show 0 ≤ lg_cmp (lZ X) (lZ Y) by rw [c]; decide) q⟩
      refine vm_go rfl bJ13_compare_74951_10 oJ13_compare_74951_10 ⟨fun _ => ?_, fun q => absurd (show lg_cmp (lZ X) (lZ Y) = 0 from q) (by rw [c]; decide)⟩
      exact vm_go rfl bJ13_compare_74951_20 oJ13_compare_74951_20 (vm_go rfl bJ13_compare_74951_21 oJ13_compare_74951_21 ⟨⟨1, rfl, ⟨fun _ => by omega, fun _ => by decide⟩⟩, rfl⟩)
  refine vm_go rfl bJ13_compareUnsigned_74951_0 oJ13_compareUnsigned_74951_0 ⟨0, 0, _, vm_metA cmp ?_, Nat.zero_le _, Nat.zero_le _, ?_⟩
  · rw [show (x : Int) - 9223372036854775808 = (x : Int) + -9223372036854775808 by omega, show (y : Int) - 9223372036854775808 = (y : Int) + -9223372036854775808 by omega, ← lZ_add, ← lZ_add]
    rfl
  rintro r h' ⟨⟨z, rfl, hz⟩, e⟩
  exact ⟨⟨z, rfl, hz⟩, e⟩
end
/-- a guess q of a digit is right or one too large -/
theorem kn_up {B q r v1 v0 u2 u1 u0 U H W : Nat} (hW : 0 < W) (e1 : q * v1 + r = u2 * B + u1) (hle : q * v0 ≤ r * B + u0) (hU : ((u2 * B + u1) * B + u0) * W ≤ U) (hH : H < (v1 * B + v0 + 1) * W) (hq : q < B) (hHb : B * W ≤ H) : q * H ≤ U + H := by
  have h1 : q * (v1 * B + v0) ≤ (u2 * B + u1) * B + u0 := by
    have : q * (v1 * B + v0) = q * v1 * B + q * v0 := by grind
    rw [this]
    have h2 : (u2 * B + u1) * B = q * v1 * B + r * B := by rw [← e1]; grind
    omega
  have h3 : q * (v1 * B + v0) * W ≤ U := Nat.le_trans (Nat.mul_le_mul_right W h1) hU
  have h4 : q * H ≤ q * ((v1 * B + v0 + 1) * W) := Nat.mul_le_mul_left _ (Nat.le_of_lt hH)
  have h5 : q * ((v1 * B + v0 + 1) * W) = q * (v1 * B + v0) * W + q * W := by grind
  have h6 : q * W ≤ B * W := Nat.mul_le_mul_right W (Nat.le_of_lt hq)
  omega
/-- a guess that is too large is told -/
theorem kn_dn {B q r v1 v0 u2 u1 u0 U H W : Nat} (hW : 0 < W) (e1 : q * v1 + r = u2 * B + u1) (hgt : r * B + u0 < q * v0) (hU : U < ((u2 * B + u1) * B + u0 + 1) * W) (hH : (v1 * B + v0) * W ≤ H) : U < q * H := by
  have h1 : (u2 * B + u1) * B + u0 + 1 ≤ q * (v1 * B + v0) := by
    have : q * (v1 * B + v0) = q * v1 * B + q * v0 := by grind
    rw [this]
    have h2 : (u2 * B + u1) * B = q * v1 * B + r * B := by rw [← e1]; grind
    omega
  have h3 : ((u2 * B + u1) * B + u0 + 1) * W ≤ q * (v1 * B + v0) * W := Nat.mul_le_mul_right W h1
  have h4 : q * ((v1 * B + v0) * W) ≤ q * H := Nat.mul_le_mul_left _ hH
  have h5 : q * (v1 * B + v0) * W = q * ((v1 * B + v0) * W) := by grind
  omega
/-- the first guess is large enough -/
theorem kn_st {B q r v1 u2 u1 U H W : Nat} (hW : 0 < W) (e1 : q * v1 + r = u2 * B + u1) (hr : r < v1) (hU : U < (u2 * B + u1 + 1) * W) (hH : v1 * W ≤ H) : U < (q + 1) * H := by
  have h1 : u2 * B + u1 + 1 ≤ (q + 1) * v1 := by
    have : (q + 1) * v1 = q * v1 + v1 := by grind
    omega
  have h3 : (u2 * B + u1 + 1) * W ≤ (q + 1) * v1 * W := Nat.mul_le_mul_right W h1
  have h4 : (q + 1) * (v1 * W) ≤ (q + 1) * H := Nat.mul_le_mul_left _ hH
  have h5 : (q + 1) * v1 * W = (q + 1) * (v1 * W) := by grind
  omega
