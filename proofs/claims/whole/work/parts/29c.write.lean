/-! Modulus.write, digitAt, halve -/
/-- limbs taken before byte t is written -/
def wm (L t : Nat) : Nat := min L ((8 * t + 27) / 28)
theorem wr_byte {x L t m : Nat} (hx : x < 268435456 ^ L) (h : m = L ∨ 8 * t + 8 ≤ 28 * m) : x % 268435456 ^ m / 256 ^ t % 256 = x / 256 ^ t % 256 := by
  rcases h with rfl | h
  · rw [Nat.mod_eq_of_lt hx]
  · obtain ⟨d, hd⟩ : ∃ d, 28 * m = 8 * t + (8 + d) := ⟨28 * m - (8 * t + 8), by omega⟩
    have e : 268435456 ^ m = 256 ^ t * (256 * 2 ^ d) := by
      rw [p28, p8, show 256 = 2 ^ 8 from rfl, ← Nat.pow_add, ← Nat.pow_add, hd]
    rw [e, Nat.mod_mul_right_div_self, Nat.mod_mul_right_mod]
theorem wr_more {x t m : Nat} (h : 8 * t ≤ 28 * m) : x % 268435456 ^ m / 256 ^ t < 2 ^ (28 * m - 8 * t) ∧ x % 268435456 ^ m / 256 ^ t + dg x m * 2 ^ (28 * m - 8 * t) = x % 268435456 ^ (m + 1) / 256 ^ t := by
  have e : 268435456 ^ m = 256 ^ t * 2 ^ (28 * m - 8 * t) := by
    rw [p28, p8, ← Nat.pow_add, show 8 * t + (28 * m - 8 * t) = 28 * m by omega]
  have hp : 0 < 256 ^ t := Nat.pow_pos (by decide)
  constructor
  · apply (Nat.div_lt_iff_lt_mul hp).mpr
    rw [Nat.mul_comm, ← e]
    exact Nat.mod_lt _ (Nat.pow_pos (by decide))
  · rw [dg_split]
    have e2 : x % 268435456 ^ m + 268435456 ^ m * dg x m = x % 268435456 ^ m + 256 ^ t * (dg x m * 2 ^ (28 * m - 8 * t)) := by
      generalize x % 268435456 ^ m = y
      rw [e]; grind
    rw [e2, Nat.add_mul_div_left _ _ hp]
theorem lZ_u8 {z : Int} (h1 : 0 ≤ z) (h2 : z < 18446744073709551616) : ((lZ z).toUInt64 >>> ((8 : Int32).toInt64.toUInt64 &&& (63 : Int64).toUInt64)).toInt64 = lZ (z / 256) := lZ_ushr (k := 8) h1 h2 (by decide)
section
variable {l : Launch} {O : Nat → vm_Ob} {f9 : Value}
/-- size bytes of x from at9 on, the others as they were -/
def wrf (x at9 size : Nat) (f : Nat → Int32) (t j : Nat) : Int32 := if at9 + size - t ≤ j ∧ j < at9 + size then sb (x / 256 ^ (at9 + size - 1 - j) % 256) else f j
theorem s_write {h : vm_H} {a c n at9 size L x : Nat} {f : Nat → Int32} (ha : nv h L a x) (hc : h.2 c = .inl (.byte, n, .inl f)) (hn : at9 + size ≤ n) (hn2 : n < 65536) (hL : L < 65536) (hco : c < 1099511627776) (hx : x < 268435456 ^ L) :
    vm_Met (vm_env l O f9) mX6_write 0 0 [.ref a, .ref c, .int (nI at9), .int (nI size)] h (fun r h' => r = none ∧ h' = vm_up h c (.inl (.byte, n, .inl (wrf x at9 size f size)))) := by
  obtain ⟨fa, ha, va⟩ := ha
  have hac : a ≠ c := fun e => by rw [e, hc] at ha; cases ha
  refine vm_met rfl (Nat.le_of_ble_eq_true rfl) ?_
  refine vm_go rfl bX6_write_0 oX6_write_0 ?_
  refine vm_Th (lv' := [(0, .ref a), (1, .ref c), (2, .int (nI at9)), (3, .int (nI size)), (4, .long (lZ (x % 268435456 ^ wm L 0 / 256 ^ 0 : Nat))), (6, .int (iZ (28 * wm L 0 - 8 * (0 : Nat)))), (7, .int (nI (wm L 0))), (8, .int (nI (at9 + size - 0) - 1))]) (h' := vm_up h c (.inl (.byte, n, .inl (wrf x at9 size f 0)))) ?_ ?_ ?_
  · rw [show wm L 0 = 0 by unfold wm; omega, Nat.pow_zero, Nat.mod_one, Nat.zero_div, Nat.sub_zero, ← nI_add]; rfl
  · have : wrf x at9 size f 0 = f := by
      funext j; unfold wrf; rw [if_neg (by omega)]
    rw [this]; exact vm_ups hc
  refine vm_for size (fun t => [(0, .ref a), (1, .ref c), (2, .int (nI at9)), (3, .int (nI size)), (4, .long (lZ (x % 268435456 ^ wm L t / 256 ^ t : Nat))), (6, .int (iZ (28 * wm L t - 8 * (t : Nat)))), (7, .int (nI (wm L t))), (8, .int (nI (at9 + size - t) - 1))]) (fun t => vm_up h c (.inl (.byte, n, .inl (wrf x at9 size f t)))) 0 (Nat.zero_le _) ?_ ?_
  · refine vm_go rfl bX6_write_16 oX6_write_16 ⟨fun _ => ?_, fun q => absurd ?_ q⟩
    · exact vm_go rfl bX6_write_78 oX6_write_78 ⟨rfl, rfl⟩
    · rw [show at9 + size - size = at9 by omega]
      exact nI_m1 (by omega)
  · intro t _ ht ih
    have ei : nI (at9 + size - t) - 1 = nI (at9 + (size - 1 - t)) := by
      rw [show at9 + size - t = at9 + (size - 1 - t) + 1 by omega]; exact nI_pred _
    have hw1 : wm L t ≤ L := Nat.min_le_left _ _
    have hw2 : wm L t = L ∨ wm L t = (8 * t + 27) / 28 := by unfold wm; omega
    have hw3 : wm L (t + 1) = L ∨ wm L (t + 1) = (8 * (t + 1) + 27) / 28 := by unfold wm; omega
    have hw4 : wm L (t + 1) ≤ L := Nat.min_le_left _ _
    have hw5 : wm L t ≤ (8 * t + 27) / 28 := Nat.min_le_right _ _
    have hw6 : wm L (t + 1) ≤ (8 * (t + 1) + 27) / 28 := Nat.min_le_right _ _
    have hheld : x % 268435456 ^ wm L (t + 1) / 256 ^ t < 2 ^ 36 := by
      apply (Nat.div_lt_iff_lt_mul (Nat.pow_pos (by decide))).mpr
      refine Nat.lt_of_lt_of_le (Nat.mod_lt _ (Nat.pow_pos (by decide))) ?_
      rw [p28, p8, ← Nat.pow_add]
      exact Nat.pow_le_pow_right (by decide) (by omega)
    have hcont : vm_T (vm_env l O f9) mX6_write 0 0 54 [(0, .ref a), (1, .ref c), (2, .int (nI at9)), (3, .int (nI size)), (4, .long (lZ (x % 268435456 ^ wm L (t + 1) / 256 ^ t : Nat))), (6, .int (iZ (28 * wm L (t + 1) - 8 * (t : Nat)))), (7, .int (nI (wm L (t + 1)))), (8, .int (nI (at9 + size - t) - 1))] [] (vm_up h c (.inl (.byte, n, .inl (wrf x at9 size f t)))) (fun r h' => r = none ∧ h' = vm_up h c (.inl (.byte, n, .inl (wrf x at9 size f size)))) := by
      refine vm_go rfl bX6_write_54 oX6_write_54 ⟨n, _, vm_upe, hco, at9 + (size - 1 - t), ei, by omega, ?_⟩
      refine vm_Th ?_ ?_ ih
      · show _ = [(0, Value.ref a), (1, .ref c), (2, .int (nI at9)), (3, .int (nI size)), (4, .long (((lZ (x % 268435456 ^ wm L (t + 1) / 256 ^ t : Nat)).toUInt64 >>> ((8 : Int32).toInt64.toUInt64 &&& (63 : Int64).toUInt64)).toInt64)), (6, .int (iZ (28 * wm L (t + 1) - 8 * (t : Nat)) + (-8))), (7, .int (nI (wm L (t + 1)))), (8, .int (nI (at9 + size - t) - 1 + (-1)))]
        rw [lZ_u8 (Int.natCast_nonneg _) (by omega), show (-8 : Int32) = iZ (-8) from rfl, iZ_add, ei, i32_m1, Nat.pow_succ 256, ← Nat.div_div_eq_div_mul]
        generalize x % 268435456 ^ wm L (t + 1) / 256 ^ t = H
        rw [show ((H / 256 : Nat) : Int) = (H : Int) / 256 by omega, show (28 * (wm L (t + 1) : Int) - 8 * ((t + 1 : Nat) : Int)) = 28 * (wm L (t + 1) : Int) - 8 * (t : Int) + -8 by omega, show at9 + size - (t + 1) = at9 + (size - 1 - t) by omega]
      · rw [vm_upup]
        refine congrArg (fun f => vm_up h c (.inl (.byte, n, .inl f))) ?_
        funext j
        show _ = upd _ _ ((lZ (x % 268435456 ^ wm L (t + 1) / 256 ^ t : Nat)).toInt32.toInt8.toInt32).toInt8.toInt32 j
        have hby : (((x % 268435456 ^ wm L (t + 1) / 256 ^ t : Nat) : Int) % 256).toNat = x / 256 ^ t % 256 := by
          rw [← wr_byte (t := t) (m := wm L (t + 1)) hx (by omega)]
          omega
        rw [sb_L, hby, sb_self _ (Nat.mod_lt _ (by decide))]
        unfold upd wrf
        by_cases j1 : j = at9 + (size - 1 - t)
        · rw [if_pos j1, if_pos (by omega), show at9 + size - 1 - j = t by omega]
        · rw [if_neg j1]
          by_cases j2 : at9 + size - t ≤ j ∧ j < at9 + size
          · rw [if_pos j2, if_pos (by omega)]
          · rw [if_neg j2, if_neg (by omega)]
    refine vm_go rfl bX6_write_16 oX6_write_16 ⟨fun q => absurd q (by rw [ei]; exact nI_nlt (by omega) (by omega)), fun _ => ?_⟩
    refine ⟨fun q => ?_, fun q => ?_⟩
    · have q : iZ 8 ≤ iZ (28 * wm L t - 8 * (t : Nat)) := q
      rw [iZ_le (by omega) (by omega) (by omega) (by omega)] at q
      have e : wm L (t + 1) = wm L t := by omega
      rw [e] at hcont
      exact hcont
    · have q : ¬ iZ 8 ≤ iZ (28 * wm L t - 8 * (t : Nat)) := q
      rw [iZ_le (by omega) (by omega) (by omega) (by omega)] at q
      refine ⟨_, _, (vm_upn hac).trans ha, by decide, ⟨fun z => ?_, fun z => ?_⟩⟩
      · have z : nI L ≤ nI (wm L t) := z
        rw [nI_leI (by omega) (by omega)] at z
        have e : wm L (t + 1) = wm L t := by omega
        rw [e] at hcont
        exact hcont
      · have z : ¬ nI L ≤ nI (wm L t) := z
        rw [nI_leI (by omega) (by omega)] at z
        have e : wm L (t + 1) = wm L t + 1 := by unfold wm at *; omega
        have h8 : 8 * t ≤ 28 * wm L t := by omega
        obtain ⟨w1, w2⟩ := wr_more (x := x) h8
        rw [e] at hheld hcont
        refine ⟨L, fa, (vm_upn hac).trans ha, wm L t, rfl, by omega, ?_⟩
        rw [va _ (by omega)]
        have eb : iZ (28 * wm L t - 8 * (t : Nat)) = nI (28 * wm L t - 8 * t) := by rw [iZ_nI]; congr 1; omega
        have eh : lZ (x % 268435456 ^ wm L t / 256 ^ t : Nat) ||| lZ (dg x (wm L t)) <<< ((iZ (28 * wm L t - 8 * (t : Nat))).toInt64 &&& 63) = lZ (x % 268435456 ^ (wm L t + 1) / 256 ^ t : Nat) := by
          rw [eb, lZ_sh _ _ (by omega), lZ_or w1 (by rw [w2]; omega), w2]
        refine vm_Th ?_ rfl hcont
        show _ = [(0, Value.ref a), (1, .ref c), (2, .int (nI at9)), (3, .int (nI size)), (4, .long (lZ (x % 268435456 ^ wm L t / 256 ^ t : Nat) ||| lZ (dg x (wm L t)) <<< ((iZ (28 * wm L t - 8 * (t : Nat))).toInt64 &&& 63))), (6, .int (iZ (28 * wm L t - 8 * (t : Nat)) + 28)), (7, .int (nI (wm L t) + 1)), (8, .int (nI (at9 + size - t) - 1))]
        rw [eh, show (28 : Int32) = iZ 28 from rfl, iZ_add, nI_1, show (28 * ((wm L t + 1 : Nat) : Int) - 8 * (t : Int)) = 28 * (wm L t : Int) - 8 * (t : Int) + 28 by omega]
theorem nI_div {a b : Nat} (ha : a < 2147483648) (hb : b < 2147483648) : nI a / nI b = nI (a / b) := by
  apply Int32.toInt_inj.mp
  have h1 : a / b < 2147483648 := Nat.lt_of_le_of_lt (Nat.div_le_self _ _) ha
  rw [Int32.toInt_div, nI_toInt ha, nI_toInt hb, nI_toInt h1, ← Int.ofNat_tdiv]
  generalize a / b = d at *
  exact Int.bmod_eq_of_le (by omega) (by omega)
theorem nI_rem {a b : Nat} (ha : a < 2147483648) (hb : b < 2147483648) : nI a - nI a / nI b * nI b = nI (a % b) := by
  rw [nI_div ha hb, nI_mul, nI_sub (Nat.div_mul_le_self a b)]
  congr 1
  have := Nat.div_add_mod a b
  rw [Nat.mul_comm] at this
  omega
theorem s_dig {h : vm_H} {a n at9 i : Nat} {b : Nat → Nat} (hb : bv h n a b) (hn : at9 + i / 2 < n) (hn2 : n < 65536) :
    vm_Met (vm_env l O f9) mX6_digitAt 0 0 [.ref a, .int (nI at9), .int (nI i)] h (fun r h' => r = some (.int (nI (if i % 2 = 0 then b (at9 + i / 2) / 16 else b (at9 + i / 2) % 16))) ∧ h' = h) := by
  obtain ⟨f, ha, hf⟩ := hb
  have hi : i < 2147483648 := by omega
  have e1 : nI i - nI i / 2 * 2 = nI (i % 2) := nI_rem hi (by decide)
  have e2 : nI at9 + nI i / 2 = nI (at9 + i / 2) := by rw [show nI i / 2 = nI (i / 2) from nI_div hi (by decide), nI_add]
  have hb := hf (at9 + i / 2) hn
  refine vm_met rfl (Nat.le_of_ble_eq_true rfl) ?_
  refine vm_go rfl bX6_digitAt_0 oX6_digitAt_0 ⟨by decide, ⟨fun q => ?_, fun q => ?_⟩⟩
  · have q : ¬ nI i - nI i / 2 * 2 = 0 := q
    have hq : i % 2 ≠ 0 := fun z => q (by rw [e1, z]; rfl)
    refine vm_go rfl bX6_digitAt_18 oX6_digitAt_18 ⟨by decide, n, f, ha, at9 + i / 2, e2, hn, fun _ => ?_⟩
    refine vm_go rfl bX6_digitAt_25 oX6_digitAt_25 ⟨?_, rfl⟩
    rw [hb.1, sb_and15 _ hb.2, if_neg hq]
  · have q : nI i - nI i / 2 * 2 = 0 := q
    have hq : i % 2 = 0 := by
      rcases Nat.eq_zero_or_pos (i % 2) with z | z
      · exact z
      · rw [e1] at q; exact absurd q (nI_ne0 z (by omega))
    refine ⟨by decide, n, f, ha, at9 + i / 2, e2, hn, fun _ => ?_⟩
    refine vm_go rfl bX6_digitAt_25 oX6_digitAt_25 ⟨?_, rfl⟩
    rw [hb.1, sb_shr4 _ hb.2, if_pos hq]
theorem lZ_s1 {z : Int} (h1 : -9223372036854775808 ≤ z) (h2 : z < 9223372036854775808) : lZ z >>> ((1 : Int32).toInt64 &&& 63) = lZ (z / 2) := lZ_shr (k := 1) h1 h2 (by decide)
theorem lZ_a1 (z : Int) : lZ z &&& 1 = lZ (z % 2) := lZ_mask z (k := 1) (by decide)
theorem lZ_l27 (z : Nat) : lZ z <<< ((27 : Int32).toInt64 &&& 63) = lZ (z * 134217728 : Nat) := by
  rw [lZ_shl z (k := 27) (by decide)]
  refine congrArg lZ ?_
  omega
theorem dg_half (x i : Nat) : dg (x / 2) i = dg x i / 2 + dg x (i + 1) % 2 * 134217728 := by
  unfold dg
  rw [Nat.div_div_eq_div_mul, Nat.mul_comm 2, ← Nat.div_div_eq_div_mul, Nat.pow_succ, ← Nat.div_div_eq_div_mul]
  generalize x / 268435456 ^ i = y
  omega
theorem s_hal {h : vm_H} {ci m L a x : Nat} {fs : List Value} (hci : ci = 6 ∨ ci = 3) (hm : h.2 m = .inr (ci, fs)) (f0 : fs[0]? = some (.int (nI L))) (ha : nv h L a x) (hL : L < 65536) (hL0 : 0 < L) (hao : a < 1099511627776) (hx : x < 268435456 ^ L) :
    vm_Met (vm_env l O f9) mX6_halve 0 0 [.ref m, .ref a] h (fun r h' => r = none ∧ ∃ g : Nat → Int64, h' = vm_up h a (.inl (.long, L, .inr (.inl g))) ∧ ∀ j, j < L → g j = lZ (dg (x / 2) j)) := by
  obtain ⟨f, ha, hf⟩ := ha
  have hma : m ≠ a := fun e => by rw [e, ha] at hm; cases hm
  refine vm_met rfl (Nat.le_of_ble_eq_true rfl) ?_
  refine vm_go rfl bX6_halve_0 oX6_halve_0 ?_
  refine vm_Th (lv' := [(0, .ref m), (1, .ref a), (2, .int (nI 0))]) (h' := vm_up h a (.inl (.long, L, .inr (.inl (cutf (fun j => lZ (dg (x / 2) j)) f 0))))) rfl (by rw [cutf_0]; exact vm_ups ha) ?_
  have eL : nI L - 1 = nI (L - 1) := nI_sub hL0
  refine vm_for (L - 1) (fun i => [(0, .ref m), (1, .ref a), (2, .int (nI i))]) (fun i => vm_up h a (.inl (.long, L, .inr (.inl (cutf (fun j => lZ (dg (x / 2) j)) f i))))) 0 (Nat.zero_le _) ?_ ?_
  · refine vm_go rfl (bX6_halve_2 ci) (oX6_halve_2 hci) ⟨fs, _, (vm_upn hma).trans hm, f0, ⟨fun _ => ?_, fun q => absurd ?_ q⟩⟩
    · refine vm_go rfl (bX6_halve_37 ci) (oX6_halve_37 hci) ⟨fs, _, (vm_upn hma).trans hm, f0, ⟨L, _, vm_upe, L - 1, eL, by omega, ⟨L, _, vm_upe, hao, L - 1, eL, by omega, ⟨rfl, ?_⟩⟩⟩⟩
      refine ⟨_, vm_upup, fun j hj => ?_⟩
      unfold vp_updL
      by_cases j1 : j = L - 1
      · rw [if_pos j1, cutf_hi (Nat.le_refl _), hf _ (by omega), j1, dg_half, show L - 1 + 1 = L by omega, dg_big hx (Nat.le_refl _)]
        have := dg_lt x (L - 1)
        rw [lZ_s1 (by omega) (by omega)]
        refine congrArg lZ ?_
        omega
      · rw [if_neg j1, cutf_lo (by omega)]
    · show nI L - 1 ≤ nI (L - 1)
      rw [eL]; exact nI_le (Nat.le_refl _) (by omega)
  · intro i _ hi ih
    refine vm_go rfl (bX6_halve_2 ci) (oX6_halve_2 hci) ⟨fs, _, (vm_upn hma).trans hm, f0, ⟨fun q => absurd q ?_, fun _ => ?_⟩⟩
    · show ¬ nI L - 1 ≤ nI i
      rw [eL]; exact nI_ge hi (by omega)
    refine ⟨L, _, vm_upe, i, rfl, by omega, ⟨L, _, vm_upe, i + 1, nI_add i 1, by omega, ⟨L, _, vm_upe, hao, i, rfl, by omega, ?_⟩⟩⟩
    rw [cutf_hi (Nat.le_refl _), cutf_hi (by omega), hf i (by omega), hf (i + 1) (by omega)]
    have d1 := dg_lt x i
    have d2 := dg_lt x (i + 1)
    refine vm_Th ?_ ?_ ih
    · rw [← nI_1]; rfl
    · rw [vm_upup, cutf_sL]
      rw [lZ_s1 (by omega) (by omega), lZ_a1, dg_half]
      have e1 : ((dg x (i + 1) : Int) % 2) = ((dg x (i + 1) % 2 : Nat) : Int) := by omega
      have e2 : ((dg x i : Int) / 2) = ((dg x i / 2 : Nat) : Int) := by omega
      rw [e1, e2, lZ_l27]
      exact lZ_or (k := 27) (by omega) (by omega)
end
