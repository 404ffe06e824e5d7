/-! the reference: minus -/
def bX14_minusx_0 : List vm_J := [(1, .lconst 0, 0, 0, 0, .long 0), (2, .lstore 4, 0, 0, 0, .null), (1, .iconst 0, 0, 0, 0, .int 0), (2, .istore 6, 0, 0, 0, .null)]
set_option maxRecDepth 20000 in
theorem oX14_minusx_0 : vm_okB 14 mX14_minus 0 bX14_minusx_0 = true := by decide +kernel
def bX14_minusx_6 : List vm_J := [(2, .iload 6, 0, 0, 0, .null), (1, .iload_n 3, 0, 0, 0, .null), (3, .if_icmp .ge 43, 52, 0, 0, .null), (2, .lload 4, 0, 0, 0, .null), (1, .aload_n 0, 0, 0, 0, .null), (2, .iload 6, 0, 0, 0, .null), (1, .iaload, 0, 0, 0, .null), (3, .invokestatic 9, 138, 1, 0, .null), (1, .aload_n 1, 0, 0, 0, .null), (2, .iload 6, 0, 0, 0, .null), (1, .iaload, 0, 0, 0, .null), (3, .invokestatic 9, 138, 1, 0, .null), (1, .lsub, 0, 0, 0, .null), (1, .ladd, 0, 0, 0, .null), (2, .lstore 4, 0, 0, 0, .null)]
set_option maxRecDepth 20000 in
theorem oX14_minusx_6 : vm_okB 14 mX14_minus 6 bX14_minusx_6 = true := by decide +kernel
def bX14_minusx_32 : List vm_J := [(1, .aload_n 2, 0, 0, 0, .null), (2, .iload 6, 0, 0, 0, .null), (2, .lload 4, 0, 0, 0, .null), (1, .l2i, 0, 0, 0, .null), (1, .iastore, 0, 0, 0, .null), (2, .lload 4, 0, 0, 0, .null), (2, .bipush 32, 0, 0, 0, .int 32), (1, .lshr, 0, 0, 0, .null), (2, .lstore 4, 0, 0, 0, .null)]
set_option maxRecDepth 20000 in
theorem oX14_minusx_32 : vm_okB 14 mX14_minus 32 bX14_minusx_32 = true := by decide +kernel
def bX14_minusx_46 : List vm_J := [(3, .iinc 6 1, 0, 0, 0, .int 1), (3, .goto (-43), 6, 0, 0, .null)]
set_option maxRecDepth 20000 in
theorem oX14_minusx_46 : vm_okB 14 mX14_minus 46 bX14_minusx_46 = true := by decide +kernel
def bX14_minusx_52 : List vm_J := [(2, .lload 4, 0, 0, 0, .null), (1, .l2i, 0, 0, 0, .null), (1, .ireturn, 0, 0, 0, .null)]
set_option maxRecDepth 20000 in
theorem oX14_minusx_52 : vm_okB 14 mX14_minus 52 bX14_minusx_52 = true := by decide +kernel
/-- the borrow, and a limb of a difference -/
def bw9 (X Y i : Nat) : Int := ((X % 4294967296 ^ i : Nat) - (Y % 4294967296 ^ i : Nat) : Int) / (4294967296 ^ i : Nat)
def dz (X Y i : Nat) : Nat := (((X : Int) - Y) / (4294967296 ^ i : Nat) % 4294967296).toNat
theorem lZ_s32 {z : Int} (h1 : -9223372036854775808 ≤ z) (h2 : z < 9223372036854775808) : lZ z >>> ((32 : Int32).toInt64 &&& 63) = lZ (z / 4294967296) := lZ_shr (k := 32) h1 h2 (by decide)
theorem bw9_b (X Y i : Nat) : -1 ≤ bw9 X Y i ∧ bw9 X Y i ≤ 0 := by
  have p : 0 < 4294967296 ^ i := Nat.pow_pos (by decide)
  have q1 := Nat.mod_lt X p
  have q2 := Nat.mod_lt Y p
  unfold bw9
  generalize X % 4294967296 ^ i = x at *
  generalize Y % 4294967296 ^ i = y at *
  generalize 4294967296 ^ i = m at *
  constructor
  · rw [Int.le_ediv_iff_mul_le (by omega)]
    omega
  · have : ((x : Int) - y) / (m : Int) < 1 := by
      rw [Int.ediv_lt_iff_lt_mul (by omega)]
      omega
    omega
theorem mi_st {X Y : Nat} (i : Nat) : (bw9 X Y i + dw X i - dw Y i) % 4294967296 = ((X : Int) - Y) / (4294967296 ^ i : Nat) % 4294967296 ∧ (bw9 X Y i + dw X i - dw Y i) / 4294967296 = bw9 X Y (i + 1) := by
  have p : 0 < 4294967296 ^ i := Nat.pow_pos (by decide)
  have x0 := Nat.div_add_mod X (4294967296 ^ i)
  have y0 := Nat.div_add_mod Y (4294967296 ^ i)
  have x1 := dw_m X i
  have y1 := dw_m Y i
  have x2 : dw X i = X / 4294967296 ^ i % 4294967296 := rfl
  have y2 : dw Y i = Y / 4294967296 ^ i % 4294967296 := rfl
  have em : 4294967296 ^ (i + 1) = 4294967296 ^ i * 4294967296 := Nat.pow_succ _ _
  unfold bw9
  rw [x1, y1, em]
  generalize dw X i = dx at *
  generalize dw Y i = dy at *
  generalize X % 4294967296 ^ i = x at *
  generalize Y % 4294967296 ^ i = y at *
  generalize X / 4294967296 ^ i = qx at *
  generalize Y / 4294967296 ^ i = qy at *
  generalize 4294967296 ^ i = m at *
  have hm : (m : Int) ≠ 0 := by omega
  constructor
  · have e : (X : Int) - Y = ((x : Int) - y) + m * ((qx : Int) - qy) := by
      rw [Int.mul_sub, ← Int.natCast_mul, ← Int.natCast_mul]
      omega
    rw [e, Int.add_mul_ediv_left _ _ hm]
    omega
  · have e : (((x + m * dx : Nat) : Int) - ((y + m * dy : Nat) : Int)) = ((x : Int) - y) + m * ((dx : Int) - dy) := by
      rw [Int.mul_sub, ← Int.natCast_mul, ← Int.natCast_mul]
      omega
    rw [e, Int.natCast_mul, ← Int.ediv_ediv_of_nonneg (by omega), Int.add_mul_ediv_left _ _ hm]
    congr 1
    omega
section
variable {l : Launch} {O : Nat → vm_Ob} {f9 : Value} {h : vm_H}
set_option maxHeartbeats 1000000 in
theorem rm_minus {L1 L2 L3 a b c n X Y : Nat} {t : Nat → Int32} (ha : wv h L1 a n X) (hb : wv h L2 b n Y) (hc : ia h L3 c t) (h1 : n ≤ L1) (h2 : n ≤ L2) (h3 : n ≤ L3) (hn : n < 65536) (hco : c < 1099511627776) : vm_Met (vm_env l O f9) mX14_minus 0 0 [.ref a, .ref b, .ref c, .int (nI n)] h (fun r h' => r = some (.int (iZ (bw9 X Y n))) ∧ (∃ t', ia h' L3 c t' ∧ (∀ k, k < n → t' k = nI (dz X Y k)) ∧ ∀ k, n ≤ k → t' k = t k) ∧ fr h h' (fun q => q = c)) := by
  obtain ⟨f, ef, vf⟩ := ha
  obtain ⟨g, eg, vg⟩ := hb
  refine vm_met rfl (Nat.le_of_ble_eq_true rfl) ?_
  refine vm_go rfl bX14_minus_0 oX14_minus_0 ?_
  refine vm_Th (lv' := [(0, .ref a), (1, .ref b), (2, .ref c), (3, .int (nI n)), (4, .long (lZ (bw9 X Y 0))), (6, .int (nI 0))]) (h' := h) (by unfold bw9; rw [Nat.pow_zero, Nat.mod_one, Nat.mod_one]; rfl) rfl ?_
  refine vm_loop (fun i h' => (∃ t', ia h' L3 c t' ∧ (∀ k, k < i → t' k = nI (dz X Y k)) ∧ ∀ k, i ≤ k → t' k = t k) ∧ fr h h' (fun q => q = c)) n (fun i => [(0, .ref a), (1, .ref b), (2, .ref c), (3, .int (nI n)), (4, .long (lZ (bw9 X Y i))), (6, .int (nI i))]) 0 h (Nat.zero_le _) ⟨⟨t, hc, fun k hk => by omega, fun k _ => rfl⟩, fr_refl⟩ ?_ ?_
  · rintro h4 ⟨ht, F4⟩
    refine vm_go rfl bX14_minus_6 oX14_minus_6 ⟨fun _ => ?_, fun q => absurd (nI_le (a := n) (b := n) (Nat.le_refl _) (by omega)) q⟩
    refine vm_go rfl bX14_minus_52 oX14_minus_52 ⟨?_, ht, F4⟩
    show some (Value.int (lZ (bw9 X Y n)).toInt32) = _
    rw [lZ_i, ← iZ_w]
  · rintro i h4 _ hi ⟨⟨t', e1, e2, e3⟩, F4⟩ ih
    obtain ⟨f', ef', vf'⟩ := rd_al ef hc F4 e1 (e3 i (Nat.le_refl _))
    obtain ⟨g', eg', vg'⟩ := rd_al eg hc F4 e1 (e3 i (Nat.le_refl _))
    have x1 := dw_lt X i
    have x2 := dw_lt Y i
    have ci := bw9_b X Y i
    refine vm_go rfl bX14_minusx_6 oX14_minusx_6 ⟨fun q => absurd q (nI_ge hi (by omega)), fun _ => ⟨L1, f', ef', i, rfl, by omega, fun _ => ⟨0, 0, _, vm_metA (rm_u x1) (by rw [vf', vf i (by omega)]; rfl), Nat.zero_le _, Nat.zero_le _, ?_⟩⟩⟩
    rintro _ h5 ⟨rfl, e5⟩
    rw [e5]; clear e5 h5
    refine ⟨L2, g', eg', i, rfl, by omega, fun _ => ⟨0, 0, _, vm_metA (rm_u x2) (by rw [vg', vg i (by omega)]; rfl), Nat.zero_le _, Nat.zero_le _, ?_⟩⟩
    rintro _ h5 ⟨rfl, e5⟩
    rw [e5]; clear e5 h5
    obtain ⟨S, eS⟩ : ∃ S : Int, bw9 X Y i + dw X i - dw Y i = S := ⟨_, rfl⟩
    obtain ⟨m1, m2⟩ := mi_st (X := X) (Y := Y) i
    rw [eS] at m1 m2
    refine vm_Th (lv' := [(0, .ref a), (1, .ref b), (2, .ref c), (3, .int (nI n)), (4, .long (lZ S)), (6, .int (nI i))]) (h' := h4) ?_ rfl ?_
    · have : lZ S = lZ (bw9 X Y i) + (lZ (dw X i : Nat) - lZ (dw Y i : Nat)) := by
        rw [lZ_sub, lZ_add, ← eS]
        congr 1
        omega
      rw [this]; rfl
    refine vm_go rfl bX14_minusx_32 oX14_minusx_32 ⟨L3, t', e1, hco, i, rfl, by omega, ?_⟩
    refine vm_Th (lv' := [(0, .ref a), (1, .ref b), (2, .ref c), (3, .int (nI n)), (4, .long (lZ (bw9 X Y (i + 1)))), (6, .int (nI i))]) (h' := vm_up h4 c (.inl (.int, L3, .inl (upd t' i (nI (dz X Y i)))))) ?_ ?_ ?_
    · rw [← m2, ← lZ_s32 (z := S) (by omega) (by omega)]; rfl
    · rw [show nI (dz X Y i) = (lZ S).toInt32 by rw [lZ_i, m1]; rfl]
    refine vm_go rfl bX14_minusx_46 oX14_minusx_46 ?_
    refine vm_Th (lv' := [(0, .ref a), (1, .ref b), (2, .ref c), (3, .int (nI n)), (4, .long (lZ (bw9 X Y (i + 1)))), (6, .int (nI (i + 1)))]) (h' := vm_up h4 c (.inl (.int, L3, .inl (upd t' i (nI (dz X Y i)))))) (by rw [← nI_1]; rfl) rfl ?_
    refine ih _ ⟨⟨_, vm_upe, fun k hk => ?_, fun k hk => ?_⟩, fr_trans F4 (fr_up rfl)⟩
    · by_cases e : k = i
      · rw [e]; exact upd_e
      · rw [upd_n e]; exact e2 k (by omega)
    · rw [upd_n (by omega)]; exact e3 k (by omega)
end
