/-! the reference: h2, h3 -/
def bX14_padsx_0 : List vm_J := [(3, .ldc2_w 228, 0, 0, 0, .long (8)), (1, .aload_n 0, 0, 0, 0, .null), (3, .getfield 203, 14, 19, 0, .null), (1, .i2l, 0, 0, 0, .null), (1, .lmul, 0, 0, 0, .null), (1, .lstore_n 3, 0, 0, 0, .null)]
set_option maxRecDepth 20000 in
theorem oX14_padsx_0 : vm_okB 14 mX14_pads 0 bX14_padsx_0 = true := by decide +kernel
def bX14_padsx_10 : List vm_J := [(1, .aload_n 0, 0, 0, 0, .null), (3, .sipush 128, 0, 0, 0, .int 128), (3, .invokevirtual 206, 165, 1, 14, .null)]
set_option maxRecDepth 20000 in
theorem oX14_padsx_10 : vm_okB 14 mX14_pads 10 bX14_padsx_10 = true := by decide +kernel
def bX14_padsx_17 : List vm_J := [(1, .aload_n 0, 0, 0, 0, .null), (3, .getfield 203, 14, 19, 0, .null), (1, .iload_n 1, 0, 0, 0, .null), (1, .irem, 0, 0, 0, .null), (1, .iload_n 1, 0, 0, 0, .null), (1, .iload_n 2, 0, 0, 0, .null), (1, .isub, 0, 0, 0, .null), (3, .if_icmp .eq 11, 37, 0, 0, .null), (1, .aload_n 0, 0, 0, 0, .null), (1, .iconst 0, 0, 0, 0, .int 0), (3, .invokevirtual 206, 165, 1, 14, .null), (3, .goto (-17), 17, 0, 0, .null)]
set_option maxRecDepth 20000 in
theorem oX14_padsx_17 : vm_okB 14 mX14_pads 17 bX14_padsx_17 = true := by decide +kernel
def bX14_padsx_37 : List vm_J := [(1, .iload_n 2, 0, 0, 0, .null), (1, .iconst 1, 0, 0, 0, .int 1), (1, .isub, 0, 0, 0, .null), (2, .istore 5, 0, 0, 0, .null)]
set_option maxRecDepth 20000 in
theorem oX14_padsx_37 : vm_okB 14 mX14_pads 37 bX14_padsx_37 = true := by decide +kernel
def bX14_padsx_42 : List vm_J := [(2, .iload 5, 0, 0, 0, .null), (3, .ifCond .lt 32, 76, 0, 0, .null), (1, .aload_n 0, 0, 0, 0, .null), (2, .iload 5, 0, 0, 0, .null), (2, .bipush 8, 0, 0, 0, .int 8), (3, .if_icmp .ge 14, 66, 0, 0, .null), (1, .lload_n 3, 0, 0, 0, .null), (2, .bipush 8, 0, 0, 0, .int 8), (2, .iload 5, 0, 0, 0, .null), (1, .imul, 0, 0, 0, .null), (1, .lushr, 0, 0, 0, .null), (1, .l2i, 0, 0, 0, .null), (3, .goto 4, 67, 0, 0, .null)]
set_option maxRecDepth 20000 in
theorem oX14_padsx_42 : vm_okB 14 mX14_pads 42 bX14_padsx_42 = true := by decide +kernel
def bX14_padsx_66 : List vm_J := [(1, .iconst 0, 0, 0, 0, .int 0)]
set_option maxRecDepth 20000 in
theorem oX14_padsx_66 : vm_okB 14 mX14_pads 66 bX14_padsx_66 = true := by decide +kernel
def bX14_padsx_67 : List vm_J := [(3, .invokevirtual 206, 165, 1, 14, .null), (3, .iinc 5 (-1), 0, 0, 0, .int (-1)), (3, .goto (-31), 42, 0, 0, .null)]
set_option maxRecDepth 20000 in
theorem oX14_padsx_67 : vm_okB 14 mX14_pads 67 bX14_padsx_67 = true := by decide +kernel
def bX14_padsx_76 : List vm_J := [(1, .return_, 0, 0, 0, .null)]
set_option maxRecDepth 20000 in
theorem oX14_padsx_76 : vm_okB 14 mX14_pads 76 bX14_padsx_76 = true := by decide +kernel
def bX14_h2x_0 : List vm_J := [(1, .aload_n 0, 0, 0, 0, .null), (2, .bipush 64, 0, 0, 0, .int 64), (2, .bipush 8, 0, 0, 0, .int 8), (3, .invokevirtual 230, 170, 2, 14, .null), (1, .iconst 0, 0, 0, 0, .int 0), (1, .istore_n 1, 0, 0, 0, .null)]
set_option maxRecDepth 20000 in
theorem oX14_h2x_0 : vm_okB 14 mX14_h2 0 bX14_h2x_0 = true := by decide +kernel
def bX14_h2x_10 : List vm_J := [(1, .iload_n 1, 0, 0, 0, .null), (2, .bipush 8, 0, 0, 0, .int 8), (3, .if_icmp .ge 20, 33, 0, 0, .null), (1, .aload_n 0, 0, 0, 0, .null), (3, .getfield 234, 14, 21, 0, .null), (1, .iload_n 1, 0, 0, 0, .null), (3, .getstatic 237, 8, 0, 0, .null), (1, .iload_n 1, 0, 0, 0, .null), (1, .iaload, 0, 0, 0, .null), (1, .iastore, 0, 0, 0, .null)]
set_option maxRecDepth 20000 in
theorem oX14_h2x_10 : vm_okB 14 mX14_h2 10 bX14_h2x_10 = true := by decide +kernel
def bX14_h2x_27 : List vm_J := [(3, .iinc 1 1, 0, 0, 0, .int 1), (3, .goto (-20), 10, 0, 0, .null)]
set_option maxRecDepth 20000 in
theorem oX14_h2x_27 : vm_okB 14 mX14_h2 27 bX14_h2x_27 = true := by decide +kernel
def bX14_h2x_33 : List vm_J := [(1, .iconst 0, 0, 0, 0, .int 0), (1, .istore_n 1, 0, 0, 0, .null)]
set_option maxRecDepth 20000 in
theorem oX14_h2x_33 : vm_okB 14 mX14_h2 33 bX14_h2x_33 = true := by decide +kernel
def bX14_h2x_35 : List vm_J := [(1, .iload_n 1, 0, 0, 0, .null), (1, .aload_n 0, 0, 0, 0, .null), (3, .getfield 203, 14, 19, 0, .null), (3, .if_icmp .ge 14, 54, 0, 0, .null), (1, .aload_n 0, 0, 0, 0, .null), (1, .iload_n 1, 0, 0, 0, .null), (3, .invokevirtual 240, 174, 1, 14, .null), (3, .iinc 1 64, 0, 0, 0, .int 64), (3, .goto (-16), 35, 0, 0, .null)]
set_option maxRecDepth 20000 in
theorem oX14_h2x_35 : vm_okB 14 mX14_h2 35 bX14_h2x_35 = true := by decide +kernel
def bX14_h2x_54 : List vm_J := [(1, .iconst 0, 0, 0, 0, .int 0), (1, .istore_n 1, 0, 0, 0, .null)]
set_option maxRecDepth 20000 in
theorem oX14_h2x_54 : vm_okB 14 mX14_h2 54 bX14_h2x_54 = true := by decide +kernel
def bX14_h2x_56 : List vm_J := [(1, .iload_n 1, 0, 0, 0, .null), (2, .bipush 32, 0, 0, 0, .int 32), (3, .if_icmp .ge 34, 93, 0, 0, .null), (1, .aload_n 0, 0, 0, 0, .null), (3, .getfield 243, 14, 20, 0, .null), (1, .iload_n 1, 0, 0, 0, .null), (1, .aload_n 0, 0, 0, 0, .null), (3, .getfield 234, 14, 21, 0, .null), (1, .iload_n 1, 0, 0, 0, .null), (1, .iconst 4, 0, 0, 0, .int 4), (1, .idiv, 0, 0, 0, .null), (1, .iaload, 0, 0, 0, .null), (2, .bipush 24, 0, 0, 0, .int 24), (2, .bipush 8, 0, 0, 0, .int 8), (1, .iload_n 1, 0, 0, 0, .null), (1, .iconst 4, 0, 0, 0, .int 4), (1, .irem, 0, 0, 0, .null), (1, .imul, 0, 0, 0, .null), (1, .isub, 0, 0, 0, .null), (1, .ishr, 0, 0, 0, .null), (1, .i2b, 0, 0, 0, .null), (1, .bastore, 0, 0, 0, .null)]
set_option maxRecDepth 20000 in
theorem oX14_h2x_56 : vm_okB 14 mX14_h2 56 bX14_h2x_56 = true := by decide +kernel
def bX14_h2x_87 : List vm_J := [(3, .iinc 1 1, 0, 0, 0, .int 1), (3, .goto (-34), 56, 0, 0, .null)]
set_option maxRecDepth 20000 in
theorem oX14_h2x_87 : vm_okB 14 mX14_h2 87 bX14_h2x_87 = true := by decide +kernel
def bX14_h2x_93 : List vm_J := [(1, .aload_n 0, 0, 0, 0, .null), (1, .iconst 0, 0, 0, 0, .int 0), (3, .putfield 203, 14, 19, 0, .null)]
set_option maxRecDepth 20000 in
theorem oX14_h2x_93 : vm_okB 14 mX14_h2 93 bX14_h2x_93 = true := by decide +kernel
def bX14_h2x_98 : List vm_J := [(1, .return_, 0, 0, 0, .null)]
set_option maxRecDepth 20000 in
theorem oX14_h2x_98 : vm_okB 14 mX14_h2 98 bX14_h2x_98 = true := by decide +kernel
def bX14_h3x_0 : List vm_J := [(1, .aload_n 0, 0, 0, 0, .null), (3, .sipush 128, 0, 0, 0, .int 128), (2, .bipush 16, 0, 0, 0, .int 16), (3, .invokevirtual 230, 170, 2, 14, .null), (1, .iconst 0, 0, 0, 0, .int 0), (1, .istore_n 1, 0, 0, 0, .null)]
set_option maxRecDepth 20000 in
theorem oX14_h3x_0 : vm_okB 14 mX14_h3 0 bX14_h3x_0 = true := by decide +kernel
def bX14_h3x_11 : List vm_J := [(1, .iload_n 1, 0, 0, 0, .null), (2, .bipush 8, 0, 0, 0, .int 8), (3, .if_icmp .ge 20, 34, 0, 0, .null), (1, .aload_n 0, 0, 0, 0, .null), (3, .getfield 256, 14, 23, 0, .null), (1, .iload_n 1, 0, 0, 0, .null), (3, .getstatic 260, 10, 0, 0, .null), (1, .iload_n 1, 0, 0, 0, .null), (1, .laload, 0, 0, 0, .null), (1, .lastore, 0, 0, 0, .null)]
set_option maxRecDepth 20000 in
theorem oX14_h3x_11 : vm_okB 14 mX14_h3 11 bX14_h3x_11 = true := by decide +kernel
def bX14_h3x_28 : List vm_J := [(3, .iinc 1 1, 0, 0, 0, .int 1), (3, .goto (-20), 11, 0, 0, .null)]
set_option maxRecDepth 20000 in
theorem oX14_h3x_28 : vm_okB 14 mX14_h3 28 bX14_h3x_28 = true := by decide +kernel
def bX14_h3x_34 : List vm_J := [(1, .iconst 0, 0, 0, 0, .int 0), (1, .istore_n 1, 0, 0, 0, .null)]
set_option maxRecDepth 20000 in
theorem oX14_h3x_34 : vm_okB 14 mX14_h3 34 bX14_h3x_34 = true := by decide +kernel
def bX14_h3x_36 : List vm_J := [(1, .iload_n 1, 0, 0, 0, .null), (1, .aload_n 0, 0, 0, 0, .null), (3, .getfield 203, 14, 19, 0, .null), (3, .if_icmp .ge 17, 58, 0, 0, .null), (1, .aload_n 0, 0, 0, 0, .null), (1, .iload_n 1, 0, 0, 0, .null), (3, .invokevirtual 263, 176, 1, 14, .null), (6, .iinc 1 128, 0, 0, 0, .int 128), (3, .goto (-19), 36, 0, 0, .null)]
set_option maxRecDepth 20000 in
theorem oX14_h3x_36 : vm_okB 14 mX14_h3 36 bX14_h3x_36 = true := by decide +kernel
def bX14_h3x_58 : List vm_J := [(1, .iconst 0, 0, 0, 0, .int 0), (1, .istore_n 1, 0, 0, 0, .null)]
set_option maxRecDepth 20000 in
theorem oX14_h3x_58 : vm_okB 14 mX14_h3 58 bX14_h3x_58 = true := by decide +kernel
def bX14_h3x_60 : List vm_J := [(1, .iload_n 1, 0, 0, 0, .null), (2, .bipush 48, 0, 0, 0, .int 48), (3, .if_icmp .ge 37, 100, 0, 0, .null), (1, .aload_n 0, 0, 0, 0, .null), (3, .getfield 243, 14, 20, 0, .null), (1, .iload_n 1, 0, 0, 0, .null), (1, .aload_n 0, 0, 0, 0, .null), (3, .getfield 256, 14, 23, 0, .null), (1, .iload_n 1, 0, 0, 0, .null), (2, .bipush 8, 0, 0, 0, .int 8), (1, .idiv, 0, 0, 0, .null), (1, .laload, 0, 0, 0, .null), (2, .bipush 56, 0, 0, 0, .int 56), (2, .bipush 8, 0, 0, 0, .int 8), (1, .iload_n 1, 0, 0, 0, .null), (2, .bipush 8, 0, 0, 0, .int 8), (1, .irem, 0, 0, 0, .null), (1, .imul, 0, 0, 0, .null), (1, .isub, 0, 0, 0, .null), (1, .lshr, 0, 0, 0, .null), (1, .l2i, 0, 0, 0, .null), (1, .i2b, 0, 0, 0, .null), (1, .bastore, 0, 0, 0, .null)]
set_option maxRecDepth 20000 in
theorem oX14_h3x_60 : vm_okB 14 mX14_h3 60 bX14_h3x_60 = true := by decide +kernel
def bX14_h3x_94 : List vm_J := [(3, .iinc 1 1, 0, 0, 0, .int 1), (3, .goto (-37), 60, 0, 0, .null)]
set_option maxRecDepth 20000 in
theorem oX14_h3x_94 : vm_okB 14 mX14_h3 94 bX14_h3x_94 = true := by decide +kernel
def bX14_h3x_100 : List vm_J := [(1, .aload_n 0, 0, 0, 0, .null), (1, .iconst 0, 0, 0, 0, .int 0), (3, .putfield 203, 14, 19, 0, .null)]
set_option maxRecDepth 20000 in
theorem oX14_h3x_100 : vm_okB 14 mX14_h3 100 bX14_h3x_100 = true := by decide +kernel
def bX14_h3x_105 : List vm_J := [(1, .return_, 0, 0, 0, .null)]
set_option maxRecDepth 20000 in
theorem oX14_h3x_105 : vm_okB 14 mX14_h3 105 bX14_h3x_105 = true := by decide +kernel
def zN (B L s : Nat) : Nat := (B - L + B - (s + 1) % B) % B
def lby (L s j : Nat) : Nat := if L - 1 - j < 8 then 8 * s / 256 ^ (L - 1 - j) % 256 else 0
/-- what is said, padded -/
def pdl (B L : Nat) (w : List Nat) : List Nat := w ++ [128] ++ List.replicate (zN B L w.length) 0 ++ sl (lby L w.length) 0 L
theorem lby_lt {L s j : Nat} : lby L s j < 256 := by
  unfold lby
  split <;> omega
theorem pd_ush {X k : Nat} (hX : X < 1000000) (hk : k < 8) : (((lZ (X : Int)).toUInt64 >>> ((8 * nI k).toInt64.toUInt64 &&& Int64.toUInt64 63)).toInt64).toInt32.toInt8.toInt32 = sb (X / 256 ^ k % 256) := by
  have e3 : ∀ k, k < 8 → ((8 * nI k).toInt64.toUInt64 &&& Int64.toUInt64 63).toNat % 64 = 8 * k := by decide +kernel
  rw [lZ_ushr (by omega) (by omega) (e3 k hk), sb_L]
  have e4 : ∀ k, k < 8 → (2 : Int) ^ (8 * k) = ((256 ^ k : Nat) : Int) := by decide +kernel
  congr 1
  rw [e4 k hk, ← Int.natCast_ediv]
  omega

section
variable {l : Launch} {O : Nat → vm_Ob} {f9 : Value} {h : vm_H} {a : Nat} {t : KT} {g : Nat → Int32} {w m y : List Nat}

theorem rm_pads64 (k : SY h a t g w m y) (hl : w.length ≤ 2400) : vm_Met (vm_env l O f9) mX14_pads 0 0 [.ref a, .int 64, .int 8] h (fun r h' => r = none ∧ SY h' a t g (pdl 64 8 w) m y ∧ fr h h' (fun q => q = a ∨ q = a + 28)) := by
  refine vm_met rfl (Nat.le_of_ble_eq_true rfl) ?_
  refine vm_go rfl bX14_padsx_0 oX14_padsx_0 ⟨_, _, k.1.1, rfl, ?_⟩
  refine vm_Th (lv' := [(0, .ref a), (1, .int 64), (2, .int 8), (3, .long (lZ ((8 * w.length : Nat) : Int)))]) (h' := h) ?_ rfl ?_
  · have e : (8 : Int64) * (nI w.length).toInt64 = lZ ((8 * w.length : Nat) : Int) := by
      rw [lZ_i64 (by omega), show (8 : Int64) = lZ 8 from rfl, lZ_mul]
      congr 1
    rw [← e]; rfl
  refine vm_go rfl bX14_padsx_10 oX14_padsx_10 ⟨_, k.1.1, 0, 0, _, rm_say k (x := 128) (by decide) (by decide) (by omega), Nat.zero_le _, Nat.zero_le _, ?_⟩
  rintro _ h1 ⟨rfl, k1, F1⟩
  obtain ⟨z, ez⟩ : ∃ z, zN 64 8 w.length = z := ⟨_, rfl⟩
  have ez2 := ez
  unfold zN at ez2
  refine vm_loop (fun i h' => SY h' a t g (w ++ [128] ++ List.replicate i 0) m y ∧ fr h h' (fun q => q = a ∨ q = a + 28)) z (fun _ => [(0, .ref a), (1, .int 64), (2, .int 8), (3, .long (lZ ((8 * w.length : Nat) : Int)))]) 0 h1 (Nat.zero_le _) ⟨by rw [List.replicate_zero, List.append_nil]; exact k1, F1⟩ ?_ ?_
  rotate_left
  · rintro i h3 _ hi ⟨k3, F3⟩ ih
    have el : (w ++ [128] ++ List.replicate i 0).length = w.length + 1 + i := by rw [List.length_append, List.length_append, List.length_replicate]; rfl
    have er : nI (w ++ [128] ++ List.replicate i 0).length - nI (w ++ [128] ++ List.replicate i 0).length / 64 * 64 = nI ((w.length + 1 + i) % 64) := by
      rw [el]; exact nI_rem (b := 64) (by omega) (by decide)
    refine vm_go rfl bX14_padsx_17 oX14_padsx_17 ⟨_, _, k3.1.1, rfl, ⟨by decide, ⟨fun q => ?_, fun _ => ⟨_, k3.1.1, 0, 0, _, rm_say k3 (x := 0) (by decide) (by decide) (by rw [el]; omega), Nat.zero_le _, Nat.zero_le _, ?_⟩⟩⟩⟩
    · have q : nI (w ++ [128] ++ List.replicate i 0).length - nI (w ++ [128] ++ List.replicate i 0).length / 64 * 64 = nI 56 := q
      rw [er, nI_ij (by omega) (by omega)] at q
      omega
    · rintro _ h4 ⟨rfl, k4, F4⟩
      refine ih _ ⟨?_, fr_trans F3 F4⟩
      rw [List.append_assoc, rep_s] at k4
      exact k4
  · rintro h3 ⟨k3, F3⟩
    have el : (w ++ [128] ++ List.replicate z 0).length = w.length + 1 + z := by rw [List.length_append, List.length_append, List.length_replicate]; rfl
    have er : nI (w ++ [128] ++ List.replicate z 0).length - nI (w ++ [128] ++ List.replicate z 0).length / 64 * 64 = nI ((w.length + 1 + z) % 64) := by
      rw [el]; exact nI_rem (b := 64) (by omega) (by decide)
    have er : nI (w ++ [128] ++ List.replicate z 0).length - nI (w ++ [128] ++ List.replicate z 0).length / 64 * 64 = nI 56 := by
      rw [er, nI_ij (by omega) (by omega)]
      omega
    refine vm_go rfl bX14_padsx_17 oX14_padsx_17 ⟨_, _, k3.1.1, rfl, ⟨by decide, ⟨fun _ => ?_, fun q => absurd er q⟩⟩⟩
    refine vm_go rfl bX14_padsx_37 oX14_padsx_37 ?_
    refine vm_Th (lv' := [(0, .ref a), (1, .int 64), (2, .int 8), (3, .long (lZ ((8 * w.length : Nat) : Int))), (5, .int (iZ ((8 : Nat) - (0 : Nat) - 1)))]) (h' := h3) rfl rfl ?_
    refine vm_loop (fun i h' => SY h' a t g (w ++ [128] ++ List.replicate z 0 ++ sl (lby 8 w.length) 0 i) m y ∧ fr h h' (fun q => q = a ∨ q = a + 28)) 8 (fun i => [(0, .ref a), (1, .int 64), (2, .int 8), (3, .long (lZ ((8 * w.length : Nat) : Int))), (5, .int (iZ ((8 : Nat) - (i : Nat) - 1)))]) 0 h3 (Nat.zero_le _) ⟨by rw [sl_0, List.append_nil]; exact k3, F3⟩ ?_ ?_
    · rintro h5 ⟨k5, F5⟩
      refine vm_go rfl bX14_padsx_42 oX14_padsx_42 ⟨fun _ => ?_, fun q => absurd (show iZ (((8 : Nat) : Int) - ((8 : Nat) : Int) - 1) < 0 by decide) q⟩
      refine vm_go rfl bX14_padsx_76 oX14_padsx_76 ⟨rfl, ?_, F5⟩
      unfold pdl
      rw [ez]
      exact k5
    · rintro i h5 _ hi ⟨k5, F5⟩ ih
      obtain ⟨e, he⟩ : ∃ e, 8 - 1 - i = e := ⟨_, rfl⟩
      have ei : iZ (((8 : Nat) : Int) - (i : Int) - 1) = nI e := by
        rw [iZ_nI]; congr 1; omega
      rw [ei]
      have n0 : ¬ nI e < (0 : Int32) := nI_pos (by omega)
      have el5 : (w ++ [128] ++ List.replicate z 0 ++ sl (lby 8 w.length) 0 i).length = w.length + 1 + z + i := by rw [List.length_append, el, sl_len]
      have fin : ∀ v : Int32, v.toInt8.toInt32 = sb (lby 8 w.length i) → vm_T (vm_env l O f9) mX14_pads 0 0 67 [(0, .ref a), (1, .int 64), (2, .int 8), (3, .long (lZ ((8 * w.length : Nat) : Int))), (5, .int (nI e))] [.int v, .ref a] h5 (fun r h' => r = none ∧ SY h' a t g (pdl 64 8 w) m y ∧ fr h h' (fun q => q = a ∨ q = a + 28)) := by
        intro v hv
        refine vm_go rfl bX14_padsx_67 oX14_padsx_67 ⟨_, k5.1.1, 0, 0, _, rm_say k5 hv lby_lt (by rw [el5]; omega), Nat.zero_le _, Nat.zero_le _, ?_⟩
        rintro _ h6 ⟨rfl, k6, F6⟩
        refine vm_Th (lv' := [(0, .ref a), (1, .int 64), (2, .int 8), (3, .long (lZ ((8 * w.length : Nat) : Int))), (5, .int (iZ ((8 : Nat) - ((i + 1 : Nat) : Int) - 1)))]) (h' := h6) ?_ rfl (ih h6 ⟨?_, fr_trans F5 F6⟩)
        · have : iZ (((8 : Nat) : Int) - ((i + 1 : Nat) : Int) - 1) = nI e + (-1) := by
            rw [iZ_nI, show (-1 : Int32) = iZ (-1) by decide, iZ_add]; congr 1; omega
          rw [this]; rfl
        · rw [List.append_assoc, show [lby 8 w.length i] = sl (lby 8 w.length) (0 + i) 1 by rw [sl_1, Nat.zero_add], ← sl_app] at k6
          exact k6
      rcases Nat.lt_or_ge e 8 with h8 | h8
      · refine vm_go rfl bX14_padsx_42 oX14_padsx_42 ⟨fun q => absurd q n0, fun _ => ⟨fun q => absurd q (nI_ge (b := 8) h8 (by decide)), fun _ => ?_⟩⟩
        refine fin _ ?_
        unfold lby
        rw [he, if_pos h8]
        exact pd_ush (by omega) h8
      · refine vm_go rfl bX14_padsx_42 oX14_padsx_42 ⟨fun q => absurd q n0, fun _ => ⟨fun _ => ?_, fun q => absurd (nI_le (a := 8) h8 (by omega)) q⟩⟩
        refine vm_go rfl bX14_padsx_66 oX14_padsx_66 ?_
        refine fin _ ?_
        unfold lby
        rw [he, if_neg (by omega)]
        decide
theorem rm_pads128 (k : SY h a t g w m y) (hl : w.length ≤ 2400) : vm_Met (vm_env l O f9) mX14_pads 0 0 [.ref a, .int 128, .int 16] h (fun r h' => r = none ∧ SY h' a t g (pdl 128 16 w) m y ∧ fr h h' (fun q => q = a ∨ q = a + 28)) := by
  refine vm_met rfl (Nat.le_of_ble_eq_true rfl) ?_
  refine vm_go rfl bX14_padsx_0 oX14_padsx_0 ⟨_, _, k.1.1, rfl, ?_⟩
  refine vm_Th (lv' := [(0, .ref a), (1, .int 128), (2, .int 16), (3, .long (lZ ((8 * w.length : Nat) : Int)))]) (h' := h) ?_ rfl ?_
  · have e : (8 : Int64) * (nI w.length).toInt64 = lZ ((8 * w.length : Nat) : Int) := by
      rw [lZ_i64 (by omega), show (8 : Int64) = lZ 8 from rfl, lZ_mul]
      congr 1
    rw [← e]; rfl
  refine vm_go rfl bX14_padsx_10 oX14_padsx_10 ⟨_, k.1.1, 0, 0, _, rm_say k (x := 128) (by decide) (by decide) (by omega), Nat.zero_le _, Nat.zero_le _, ?_⟩
  rintro _ h1 ⟨rfl, k1, F1⟩
  obtain ⟨z, ez⟩ : ∃ z, zN 128 16 w.length = z := ⟨_, rfl⟩
  have ez2 := ez
  unfold zN at ez2
  refine vm_loop (fun i h' => SY h' a t g (w ++ [128] ++ List.replicate i 0) m y ∧ fr h h' (fun q => q = a ∨ q = a + 28)) z (fun _ => [(0, .ref a), (1, .int 128), (2, .int 16), (3, .long (lZ ((8 * w.length : Nat) : Int)))]) 0 h1 (Nat.zero_le _) ⟨by rw [List.replicate_zero, List.append_nil]; exact k1, F1⟩ ?_ ?_
  rotate_left
  · rintro i h3 _ hi ⟨k3, F3⟩ ih
    have el : (w ++ [128] ++ List.replicate i 0).length = w.length + 1 + i := by rw [List.length_append, List.length_append, List.length_replicate]; rfl
    have er : nI (w ++ [128] ++ List.replicate i 0).length - nI (w ++ [128] ++ List.replicate i 0).length / 128 * 128 = nI ((w.length + 1 + i) % 128) := by
      rw [el]; exact nI_rem (b := 128) (by omega) (by decide)
    refine vm_go rfl bX14_padsx_17 oX14_padsx_17 ⟨_, _, k3.1.1, rfl, ⟨by decide, ⟨fun q => ?_, fun _ => ⟨_, k3.1.1, 0, 0, _, rm_say k3 (x := 0) (by decide) (by decide) (by rw [el]; omega), Nat.zero_le _, Nat.zero_le _, ?_⟩⟩⟩⟩
    · have q : nI (w ++ [128] ++ List.replicate i 0).length - nI (w ++ [128] ++ List.replicate i 0).length / 128 * 128 = nI 112 := q
      rw [er, nI_ij (by omega) (by omega)] at q
      omega
    · rintro _ h4 ⟨rfl, k4, F4⟩
      refine ih _ ⟨?_, fr_trans F3 F4⟩
      rw [List.append_assoc, rep_s] at k4
      exact k4
  · rintro h3 ⟨k3, F3⟩
    have el : (w ++ [128] ++ List.replicate z 0).length = w.length + 1 + z := by rw [List.length_append, List.length_append, List.length_replicate]; rfl
    have er : nI (w ++ [128] ++ List.replicate z 0).length - nI (w ++ [128] ++ List.replicate z 0).length / 128 * 128 = nI ((w.length + 1 + z) % 128) := by
      rw [el]; exact nI_rem (b := 128) (by omega) (by decide)
    have er : nI (w ++ [128] ++ List.replicate z 0).length - nI (w ++ [128] ++ List.replicate z 0).length / 128 * 128 = nI 112 := by
      rw [er, nI_ij (by omega) (by omega)]
      omega
    refine vm_go rfl bX14_padsx_17 oX14_padsx_17 ⟨_, _, k3.1.1, rfl, ⟨by decide, ⟨fun _ => ?_, fun q => absurd er q⟩⟩⟩
    refine vm_go rfl bX14_padsx_37 oX14_padsx_37 ?_
    refine vm_Th (lv' := [(0, .ref a), (1, .int 128), (2, .int 16), (3, .long (lZ ((8 * w.length : Nat) : Int))), (5, .int (iZ ((16 : Nat) - (0 : Nat) - 1)))]) (h' := h3) rfl rfl ?_
    refine vm_loop (fun i h' => SY h' a t g (w ++ [128] ++ List.replicate z 0 ++ sl (lby 16 w.length) 0 i) m y ∧ fr h h' (fun q => q = a ∨ q = a + 28)) 16 (fun i => [(0, .ref a), (1, .int 128), (2, .int 16), (3, .long (lZ ((8 * w.length : Nat) : Int))), (5, .int (iZ ((16 : Nat) - (i : Nat) - 1)))]) 0 h3 (Nat.zero_le _) ⟨by rw [sl_0, List.append_nil]; exact k3, F3⟩ ?_ ?_
    · rintro h5 ⟨k5, F5⟩
      refine vm_go rfl bX14_padsx_42 oX14_padsx_42 ⟨fun _ => ?_, fun q => absurd (show iZ (((16 : Nat) : Int) - ((16 : Nat) : Int) - 1) < 0 by decide) q⟩
      refine vm_go rfl bX14_padsx_76 oX14_padsx_76 ⟨rfl, ?_, F5⟩
      unfold pdl
      rw [ez]
      exact k5
    · rintro i h5 _ hi ⟨k5, F5⟩ ih
      obtain ⟨e, he⟩ : ∃ e, 16 - 1 - i = e := ⟨_, rfl⟩
      have ei : iZ (((16 : Nat) : Int) - (i : Int) - 1) = nI e := by
        rw [iZ_nI]; congr 1; omega
      rw [ei]
      have n0 : ¬ nI e < (0 : Int32) := nI_pos (by omega)
      have el5 : (w ++ [128] ++ List.replicate z 0 ++ sl (lby 16 w.length) 0 i).length = w.length + 1 + z + i := by rw [List.length_append, el, sl_len]
      have fin : ∀ v : Int32, v.toInt8.toInt32 = sb (lby 16 w.length i) → vm_T (vm_env l O f9) mX14_pads 0 0 67 [(0, .ref a), (1, .int 128), (2, .int 16), (3, .long (lZ ((8 * w.length : Nat) : Int))), (5, .int (nI e))] [.int v, .ref a] h5 (fun r h' => r = none ∧ SY h' a t g (pdl 128 16 w) m y ∧ fr h h' (fun q => q = a ∨ q = a + 28)) := by
        intro v hv
        refine vm_go rfl bX14_padsx_67 oX14_padsx_67 ⟨_, k5.1.1, 0, 0, _, rm_say k5 hv lby_lt (by rw [el5]; omega), Nat.zero_le _, Nat.zero_le _, ?_⟩
        rintro _ h6 ⟨rfl, k6, F6⟩
        refine vm_Th (lv' := [(0, .ref a), (1, .int 128), (2, .int 16), (3, .long (lZ ((8 * w.length : Nat) : Int))), (5, .int (iZ ((16 : Nat) - ((i + 1 : Nat) : Int) - 1)))]) (h' := h6) ?_ rfl (ih h6 ⟨?_, fr_trans F5 F6⟩)
        · have : iZ (((16 : Nat) : Int) - ((i + 1 : Nat) : Int) - 1) = nI e + (-1) := by
            rw [iZ_nI, show (-1 : Int32) = iZ (-1) by decide, iZ_add]; congr 1; omega
          rw [this]; rfl
        · rw [List.append_assoc, show [lby 16 w.length i] = sl (lby 16 w.length) (0 + i) 1 by rw [sl_1, Nat.zero_add], ← sl_app] at k6
          exact k6
      rcases Nat.lt_or_ge e 8 with h8 | h8
      · refine vm_go rfl bX14_padsx_42 oX14_padsx_42 ⟨fun q => absurd q n0, fun _ => ⟨fun q => absurd q (nI_ge (b := 8) h8 (by decide)), fun _ => ?_⟩⟩
        refine fin _ ?_
        unfold lby
        rw [he, if_pos h8]
        exact pd_ush (by omega) h8
      · refine vm_go rfl bX14_padsx_42 oX14_padsx_42 ⟨fun q => absurd q n0, fun _ => ⟨fun _ => ?_, fun q => absurd (nI_le (a := 8) h8 (by omega)) q⟩⟩
        refine vm_go rfl bX14_padsx_66 oX14_padsx_66 ?_
        refine fin _ ?_
        unfold lby
        rw [he, if_neg (by omega)]
        decide
theorem pd_l2 {w : List Nat} (hl : w.length ≤ 2400) : (pdl 64 8 w).length = 64 * nb2 w.length ∧ 64 * nb2 w.length ≤ 2600 := by
  unfold pdl zN nb2
  rw [List.length_append, List.length_append, List.length_append, List.length_replicate, sl_len]
  show _ + 1 + _ + _ = _ ∧ _
  omega
theorem pd_b2 {w : List Nat} {k j : Nat} (hl : w.length ≤ 2400) (hk : k < nb2 w.length) (hj : j < 64) : gb (pdl 64 8 w) (64 * k + j) = hb2 (gb w) w.length k j := by
  have hll := pd_l2 hl
  obtain ⟨z, ez⟩ : ∃ z, zN 64 8 w.length = z := ⟨_, rfl⟩
  have hz : w.length + 1 + z + 8 = 64 * nb2 w.length := by
    have := hll.1
    unfold pdl at this
    rw [List.length_append, List.length_append, List.length_append, List.length_replicate, sl_len, ez] at this
    exact this
  have hnb : nb2 w.length = (w.length + 8) / 64 + 1 := rfl
  unfold hb2 fbk
  rw [if_pos hj]
  have l1 : (w ++ [128]).length = w.length + 1 := by rw [List.length_append]; rfl
  have l2 : (w ++ [128] ++ List.replicate z 0).length = w.length + 1 + z := by rw [List.length_append, l1, List.length_replicate]
  have hl2 : ∀ e, 4 ≤ e → 8 * w.length / 256 ^ e % 256 = 0 := fun e he => by
    rw [Nat.div_eq_of_lt]
    exact Nat.lt_of_lt_of_le (show 8 * w.length < 256 ^ 4 by rw [show (256 : Nat) ^ 4 = 4294967296 from rfl]; omega) (Nat.pow_le_pow_right (by decide) he)
  unfold pdl
  rw [ez]
  rcases Nat.lt_or_ge (64 * k + j) (w.length + 1 + z) with hp | hp
  · rw [gb_lo (by rw [l2]; exact hp), if_neg (by
      rintro ⟨q1, q2⟩
      have := of_decide_eq_true q1
      omega)]
    rcases Nat.lt_or_ge (64 * k + j) (w.length + 1) with hp2 | hp2
    · rw [gb_lo (by rw [l1]; exact hp2)]
      rcases Nat.lt_or_ge (64 * k + j) w.length with hp3 | hp3
      · rw [gb_lo hp3, if_pos hp3]
      · rw [gb_hi hp3 (by show _ < _ + 1; omega), if_neg (by omega), if_pos (by omega), show 64 * k + j - w.length = 0 by omega]; rfl
    · rw [gb_hi (by rw [l1]; exact hp2) (by rw [l1, List.length_replicate]; omega), if_neg (by omega), if_neg (by omega), gb_at (by rw [l1, List.length_replicate]; omega), List.getElem_replicate]
  · rw [gb_hi (by rw [l2]; exact hp) (by rw [l2, sl_len]; omega), l2, gb_sl (by omega), Nat.zero_add]
    have hlast : k + 1 = nb2 w.length := by omega
    have hd : decide (k + 1 = nb2 w.length) = true := decide_eq_true hlast
    have ei : 8 - 1 - (64 * k + j - (w.length + 1 + z)) = 64 - 1 - j := by omega
    unfold lby
    rw [ei]
    rcases Nat.lt_or_ge (j + 4) 64 with h4 | h4
    · rw [if_neg (show ¬ (decide (k + 1 = nb2 w.length) = true ∧ 64 ≤ j + 4) from fun q => absurd q.2 (by omega)), if_neg (show ¬ 64 * k + j < w.length by omega), if_neg (show ¬ 64 * k + j = w.length by omega)]
      split
      · exact hl2 _ (by omega)
      · rfl
    · rw [if_pos (by omega), if_pos ⟨hd, h4⟩]
theorem rm_h2 (k : SY h a t g w m y) (hl : w.length ≤ 2400) : vm_Met (vm_env l O f9) mX14_h2 0 0 [.ref a] h (fun r h' => r = none ∧ SY h' a t g [] m y ∧ (∃ c, bv h' 48 (a + 29) c ∧ sl c 0 32 = H2 t.1 t.2.1 w) ∧ fr h h' (fun q => q = a ∨ (a + 28 ≤ q ∧ q ≤ a + 33))) := by
  have ao := k.1.2.1
  have lc : (a + 30) < 1099511627776 := by omega
  have l29 : a + 29 < 1099511627776 := by omega
  have la : a < 1099511627776 := by omega
  have pl := pd_l2 (w := w) hl
  refine vm_met rfl (Nat.le_of_ble_eq_true rfl) ?_
  refine vm_go rfl bX14_h2x_0 oX14_h2x_0 ⟨_, k.1.1, 0, 0, _, rm_pads64 k hl, Nat.zero_le _, Nat.zero_le _, ?_⟩
  rintro _ h1 ⟨rfl, k1, F1⟩
  have F1 : fr h h1 (fun q => q = a ∨ (a + 28 ≤ q ∧ q ≤ a + 33)) := fr_mono F1 (fun q z => by omega)
  refine vm_Th (lv' := [(0, .ref a), (1, .int (nI 0))]) (h' := h1) rfl rfl ?_
  have hc1 : ∃ s : Nat → Int32, h1.2 (a + 30) = .inl (.int, 8, .inl s) := k1.1.2.2.2.2.1 30 (by unfold ZI; omega)
  refine vm_loop (fun i h' => SY h' a t g (pdl 64 8 w) m y ∧ (∃ s : Nat → Int32, h'.2 (a + 30) = .inl (.int, 8, .inl s) ∧ ∀ j, j < i → s j = t.1 j) ∧ fr h h' (fun q => q = a ∨ (a + 28 ≤ q ∧ q ≤ a + 33))) 8 (fun i => [(0, .ref a), (1, .int (nI i))]) 0 h1 (Nat.zero_le _) ⟨k1, ⟨hc1.choose, hc1.choose_spec, fun j hj => by omega⟩, F1⟩ ?_ ?_
  rotate_left
  · rintro i h3 _ hi ⟨k3, ⟨s, es, vs⟩, F3⟩ ih
    refine vm_go rfl bX14_h2x_10 oX14_h2x_10 ⟨fun q => absurd q (nI_ge (b := 8) hi (by decide)), fun _ => ⟨_, _, k3.1.1, rfl, ⟨_, rfl, ⟨8, _, k3.1.2.2.1.2.2.1, i, rfl, hi, fun _ => ⟨8, _, es, lc, i, rfl, hi, ?_⟩⟩⟩⟩⟩
    obtain ⟨h4, eh4⟩ : ∃ h4, h4 = vm_up h3 (a + 30) (.inl (.int, 8, .inl (upd s i (t.1 i)))) := ⟨_, rfl⟩
    have F4 : fr h3 h4 (fun q => q = (a + 30)) := eh4 ▸ fr_up rfl
    have e4 : h4.2 (a + 30) = .inl (.int, 8, .inl (upd s i (t.1 i))) := by rw [eh4]; exact vm_upe
    refine vm_Th (lv' := [(0, .ref a), (1, .int (nI i))]) (h' := h4) rfl eh4 ?_
    refine vm_go rfl bX14_h2x_27 oX14_h2x_27 (vm_Th (by rw [← nI_1]; rfl) rfl (ih h4 ⟨SY_fr k3 (RK_of k3.1 F4 ((F4.2 a (by omega)).trans k3.1.1) (fun q z => .inr (z ▸ ?_))) F4 (by omega), ⟨_, e4, fun j hj => ?_⟩, fr_trans F3 (fr_mono F4 (fun q z => .inr (by omega)))⟩))
    · exact GD_i (i := 30) (by unfold ZI; omega) ⟨_, e4⟩
    · unfold upd
      by_cases e : j = i
      · rw [if_pos e, e]
      · rw [if_neg e]; exact vs j (by omega)
  rintro h3 ⟨k3, ⟨s, es, vs⟩, F3⟩
  refine vm_go rfl bX14_h2x_10 oX14_h2x_10 ⟨fun _ => ?_, fun q => absurd (nI_le (a := 8) (b := 8) (by decide) (by decide)) q⟩
  refine vm_go rfl bX14_h2x_33 oX14_h2x_33 ?_
  refine vm_Th (lv' := [(0, .ref a), (1, .int (nI (64 * 0)))]) (h' := h3) rfl rfl ?_
  refine vm_loop (fun i h' => SY h' a t g (pdl 64 8 w) m y ∧ (∃ s : Nat → Int32, h'.2 (a + 30) = .inl (.int, 8, .inl s) ∧ ∀ j, j < 8 → s j = hs2 t.1 t.2.1 (gb w) w.length i j) ∧ fr h h' (fun q => q = a ∨ (a + 28 ≤ q ∧ q ≤ a + 33))) (nb2 w.length) (fun i => [(0, .ref a), (1, .int (nI (64 * i)))]) 0 h3 (Nat.zero_le _) ⟨k3, ⟨s, es, vs⟩, F3⟩ ?_ ?_
  rotate_left
  · rintro i h4 _ hi ⟨k4, ⟨s, es, vs⟩, F4⟩ ih
    obtain ⟨c, bc, ec⟩ := k4.2.2.1
    rw [pl.1] at ec
    have hle : 64 * i + 64 ≤ 64 * nb2 w.length := by omega
    refine vm_go rfl bX14_h2x_35 oX14_h2x_35 ⟨_, _, k4.1.1, rfl, ⟨fun q => ?_, fun _ => ⟨_, k4.1.1, 0, 0, _, rm_block k4.1 es bc (by omega), Nat.zero_le _, Nat.zero_le _, ?_⟩⟩⟩
    · have q : nI (pdl 64 8 w).length ≤ nI (64 * i) := q
      rw [pl.1] at q
      exact absurd q (nI_ge (by omega) (by omega))
    rintro _ h5 ⟨rfl, k5, ⟨s', es', vs'⟩, F5⟩
    refine vm_Th (lv' := [(0, .ref a), (1, .int (nI (64 * (i + 1))))]) (h' := h5) ?_ rfl (ih h5 ⟨SY_fr k4 k5 F5 (by omega), ⟨s', es', fun j hj => ?_⟩, fr_trans F4 (fr_mono F5 (fun q z => .inr (by omega)))⟩)
    · rw [show nI (64 * (i + 1)) = nI (64 * i) + 64 from (nI_add (64 * i) 64).symm]; rfl
    · rw [vs' j hj, vs j hj]
      show _ = hs2 t.1 t.2.1 (gb w) w.length i j + rds2 t.2.1 (wt2 (m2 (hb2 (gb w) w.length i))) (hs2 t.1 t.2.1 (gb w) w.length i) 64 j
      refine congrArg (fun q => hs2 t.1 t.2.1 (gb w) w.length i j + q) (rds2_cg vs _ (fun q hq => ⟨?_, rfl⟩) j hj)
      refine wt2_cg (m2_cg (fun q hq => ?_)) q
      have := sl_all ec (64 * i + q) (by omega)
      rw [Nat.zero_add] at this
      rw [this]
      exact pd_b2 hl hi hq
  rintro h4 ⟨k4, ⟨s, es, vs⟩, F4⟩
  refine vm_go rfl bX14_h2x_35 oX14_h2x_35 ⟨_, _, k4.1.1, rfl, ⟨fun _ => ?_, fun q => absurd (show nI (pdl 64 8 w).length ≤ nI (64 * nb2 w.length) by rw [pl.1]; exact nI_le (Nat.le_refl _) (by omega)) q⟩⟩
  refine vm_go rfl bX14_h2x_54 oX14_h2x_54 ?_
  refine vm_Th (lv' := [(0, .ref a), (1, .int (nI 0))]) (h' := h4) rfl rfl ?_
  obtain ⟨c0, bc0⟩ := k4.1.2.2.2.2.2.1 29 (by unfold ZB; omega)
  refine vm_loop (fun i h' => SY h' a t g (pdl 64 8 w) m y ∧ h'.2 (a + 30) = .inl (.int, 8, .inl s) ∧ (∃ c, bv h' 48 (a + 29) c ∧ ∀ j, j < i → c j = d2 t.1 t.2.1 (gb w) w.length j) ∧ fr h h' (fun q => q = a ∨ (a + 28 ≤ q ∧ q ≤ a + 33))) 32 (fun i => [(0, .ref a), (1, .int (nI i))]) 0 h4 (Nat.zero_le _) ⟨k4, es, ⟨c0, bc0, fun j hj => by omega⟩, F4⟩ ?_ ?_
  rotate_left
  · rintro i h5 _ hi ⟨k5, e5, ⟨c, ⟨f, ef, vf⟩, vc⟩, F5⟩ ih
    have ed : nI i / 4 = nI (i / 4) := nI_div (b := 4) (by omega) (by decide)
    have er : nI i - nI i / 4 * 4 = nI (i % 4) := nI_rem (b := 4) (by omega) (by decide)
    refine vm_go rfl bX14_h2x_56 oX14_h2x_56 ⟨fun z => absurd z (nI_ge (b := 32) hi (by decide)), fun _ => ⟨_, _, k5.1.1, rfl, ⟨_, _, k5.1.1, rfl, ⟨by decide, ⟨8, s, e5, i / 4, ed, by omega, fun _ => ⟨by decide, ⟨48, f, ef, l29, i, rfl, by omega, ?_⟩⟩⟩⟩⟩⟩⟩
    have EV : (s (i / 4) >>> (((24 : Int32) - 8 * (nI i - nI i / 4 * 4)) &&& 31)).toInt8.toInt32 = sb (d2 t.1 t.2.1 (gb w) w.length i) := by
      rw [er, vs _ (by omega)]
      unfold d2
      generalize hs2 t.1 t.2.1 (gb w) w.length (nb2 w.length) (i / 4) = x
      have e3 : ∀ r, r < 4 → ((((24 : Int32) - 8 * nI r) &&& 31).toBitVec.smod 32).toNat = 24 - 8 * r := by decide +kernel
      have e4 : x = iZ x.toInt := (Int32.ofInt_toInt x).symm
      conv => lhs; rw [e4]
      rw [iZ_shr (Int32.le_toInt x) (Int32.toInt_lt x) (e3 (i % 4) (by omega))]
      exact sb_I _
    have dl : d2 t.1 t.2.1 (gb w) w.length i < 256 := by unfold d2; omega
    have E2 : ((s (i / 4) >>> (((24 : Int32) - 8 * (nI i - nI i / 4 * 4)) &&& 31)).toInt8.toInt32).toInt8.toInt32 = sb (d2 t.1 t.2.1 (gb w) w.length i) := by rw [EV]; exact sb_self _ dl
    obtain ⟨h6, eh6⟩ : ∃ h6, h6 = vm_up h5 (a + 29) (.inl (.byte, 48, .inl (upd f i (sb (d2 t.1 t.2.1 (gb w) w.length i))))) := ⟨_, rfl⟩
    have F6 : fr h5 h6 (fun q => q = a + 29) := eh6 ▸ fr_up rfl
    have b6 : bv h6 48 (a + 29) (b1 c i (d2 t.1 t.2.1 (gb w) w.length i)) := eh6 ▸ bv_up vf dl
    refine vm_Th (lv' := [(0, .ref a), (1, .int (nI i))]) (h' := h6) rfl (by rw [eh6, ← E2]; rfl) ?_
    refine vm_go rfl bX14_h2x_87 oX14_h2x_87 (vm_Th (by rw [← nI_1]; rfl) rfl (ih h6 ⟨SY_fr k5 (RK_of k5.1 F6 ((F6.2 a (by omega)).trans k5.1.1) (fun q z => .inr (z ▸ GD_r (i := 29) (by unfold ZB; omega) rfl ⟨_, b6⟩))) F6 (by omega), (F6.2 _ (by omega)).trans e5, ⟨_, b6, fun j hj => ?_⟩, fr_trans F5 (fr_mono F6 (fun q z => .inr (by omega)))⟩))
    unfold b1
    by_cases e : j = i
    · rw [if_pos e, e]
    · rw [if_neg e]; exact vc j (by omega)
  rintro h5 ⟨k5, e5, ⟨c, bc, vc⟩, F5⟩
  refine vm_go rfl bX14_h2x_56 oX14_h2x_56 ⟨fun _ => ?_, fun q => absurd (nI_le (a := 32) (b := 32) (by decide) (by decide)) q⟩
  refine vm_go rfl bX14_h2x_93 oX14_h2x_93 ⟨_, k5.1.1, la, show 19 < 89 by decide, trivial, ?_⟩
  obtain ⟨h6, eh6⟩ : ∃ h6, h6 = vm_up h5 a (RO a (u3 g (nI ([] : List Nat).length) (nI m.length) (nI y.length))) := ⟨_, rfl⟩
  have F6 : fr h5 h6 (fun q => q = a) := eh6 ▸ fr_up rfl
  refine vm_Th (lv' := [(0, .ref a), (1, .int (nI 32))]) (h' := h6) rfl eh6 ?_
  obtain ⟨c9, b9, _⟩ := k5.2.2.1
  refine vm_go rfl bX14_h2x_98 oX14_h2x_98 ⟨rfl, SY_nw k5 F6 (fun q z => .inl z) (by rw [eh6]; exact vm_upe) ⟨by decide, k5.2.1.2⟩ ⟨c9, bv_cg b9 (F6.2 _ (by omega)), rfl⟩ (rl9_cg k5.2.2.2.1 (F6.2 _ (by omega))) (rl9_cg k5.2.2.2.2 (F6.2 _ (by omega))), ⟨c, bv_cg bc (F6.2 _ (by omega)), ?_⟩, fr_trans F5 (fr_mono F6 (fun q z => .inl z))⟩
  unfold H2
  exact sl_ext (fun j hj => by rw [Nat.zero_add]; exact vc j hj)
theorem pd_l3 {w : List Nat} (hl : w.length ≤ 2400) : (pdl 128 16 w).length = 128 * nb3 w.length ∧ 128 * nb3 w.length ≤ 2600 := by
  unfold pdl zN nb3
  rw [List.length_append, List.length_append, List.length_append, List.length_replicate, sl_len]
  show _ + 1 + _ + _ = _ ∧ _
  omega
theorem pd_b3 {w : List Nat} {k j : Nat} (hl : w.length ≤ 2400) (hk : k < nb3 w.length) (hj : j < 128) : gb (pdl 128 16 w) (128 * k + j) = hb3 (gb w) w.length k j := by
  have hll := pd_l3 hl
  obtain ⟨z, ez⟩ : ∃ z, zN 128 16 w.length = z := ⟨_, rfl⟩
  have hz : w.length + 1 + z + 16 = 128 * nb3 w.length := by
    have := hll.1
    unfold pdl at this
    rw [List.length_append, List.length_append, List.length_append, List.length_replicate, sl_len, ez] at this
    exact this
  have hnb : nb3 w.length = (w.length + 16) / 128 + 1 := rfl
  unfold hb3 fbk
  rw [if_pos hj]
  have l1 : (w ++ [128]).length = w.length + 1 := by rw [List.length_append]; rfl
  have l2 : (w ++ [128] ++ List.replicate z 0).length = w.length + 1 + z := by rw [List.length_append, l1, List.length_replicate]
  have hl2 : ∀ e, 4 ≤ e → 8 * w.length / 256 ^ e % 256 = 0 := fun e he => by
    rw [Nat.div_eq_of_lt]
    exact Nat.lt_of_lt_of_le (show 8 * w.length < 256 ^ 4 by rw [show (256 : Nat) ^ 4 = 4294967296 from rfl]; omega) (Nat.pow_le_pow_right (by decide) he)
  unfold pdl
  rw [ez]
  rcases Nat.lt_or_ge (128 * k + j) (w.length + 1 + z) with hp | hp
  · rw [gb_lo (by rw [l2]; exact hp), if_neg (by
      rintro ⟨q1, q2⟩
      have := of_decide_eq_true q1
      omega)]
    rcases Nat.lt_or_ge (128 * k + j) (w.length + 1) with hp2 | hp2
    · rw [gb_lo (by rw [l1]; exact hp2)]
      rcases Nat.lt_or_ge (128 * k + j) w.length with hp3 | hp3
      · rw [gb_lo hp3, if_pos hp3]
      · rw [gb_hi hp3 (by show _ < _ + 1; omega), if_neg (by omega), if_pos (by omega), show 128 * k + j - w.length = 0 by omega]; rfl
    · rw [gb_hi (by rw [l1]; exact hp2) (by rw [l1, List.length_replicate]; omega), if_neg (by omega), if_neg (by omega), gb_at (by rw [l1, List.length_replicate]; omega), List.getElem_replicate]
  · rw [gb_hi (by rw [l2]; exact hp) (by rw [l2, sl_len]; omega), l2, gb_sl (by omega), Nat.zero_add]
    have hlast : k + 1 = nb3 w.length := by omega
    have hd : decide (k + 1 = nb3 w.length) = true := decide_eq_true hlast
    have ei : 16 - 1 - (128 * k + j - (w.length + 1 + z)) = 128 - 1 - j := by omega
    unfold lby
    rw [ei]
    rcases Nat.lt_or_ge (j + 4) 128 with h4 | h4
    · rw [if_neg (show ¬ (decide (k + 1 = nb3 w.length) = true ∧ 128 ≤ j + 4) from fun q => absurd q.2 (by omega)), if_neg (show ¬ 128 * k + j < w.length by omega), if_neg (show ¬ 128 * k + j = w.length by omega)]
      split
      · exact hl2 _ (by omega)
      · rfl
    · rw [if_pos (by omega), if_pos ⟨hd, h4⟩]
theorem rm_h3 (k : SY h a t g w m y) (hl : w.length ≤ 2400) : vm_Met (vm_env l O f9) mX14_h3 0 0 [.ref a] h (fun r h' => r = none ∧ SY h' a t g [] m y ∧ (∃ c, bv h' 48 (a + 29) c ∧ sl c 0 48 = H3 t.2.2.1 t.2.2.2 w) ∧ fr h h' (fun q => q = a ∨ (a + 28 ≤ q ∧ q ≤ a + 33))) := by
  have ao := k.1.2.1
  have lc : (a + 32) < 1099511627776 := by omega
  have l29 : a + 29 < 1099511627776 := by omega
  have la : a < 1099511627776 := by omega
  have pl := pd_l3 (w := w) hl
  refine vm_met rfl (Nat.le_of_ble_eq_true rfl) ?_
  refine vm_go rfl bX14_h3x_0 oX14_h3x_0 ⟨_, k.1.1, 0, 0, _, rm_pads128 k hl, Nat.zero_le _, Nat.zero_le _, ?_⟩
  rintro _ h1 ⟨rfl, k1, F1⟩
  have F1 : fr h h1 (fun q => q = a ∨ (a + 28 ≤ q ∧ q ≤ a + 33)) := fr_mono F1 (fun q z => by omega)
  refine vm_Th (lv' := [(0, .ref a), (1, .int (nI 0))]) (h' := h1) rfl rfl ?_
  have hc1 : ∃ s : Nat → Int64, h1.2 (a + 32) = .inl (.long, 8, .inr (.inl s)) := k1.1.2.2.2.2.2.2.1.1
  refine vm_loop (fun i h' => SY h' a t g (pdl 128 16 w) m y ∧ (∃ s : Nat → Int64, h'.2 (a + 32) = .inl (.long, 8, .inr (.inl s)) ∧ ∀ j, j < i → s j = t.2.2.1 j) ∧ fr h h' (fun q => q = a ∨ (a + 28 ≤ q ∧ q ≤ a + 33))) 8 (fun i => [(0, .ref a), (1, .int (nI i))]) 0 h1 (Nat.zero_le _) ⟨k1, ⟨hc1.choose, hc1.choose_spec, fun j hj => by omega⟩, F1⟩ ?_ ?_
  rotate_left
  · rintro i h3 _ hi ⟨k3, ⟨s, es, vs⟩, F3⟩ ih
    refine vm_go rfl bX14_h3x_11 oX14_h3x_11 ⟨fun q => absurd q (nI_ge (b := 8) hi (by decide)), fun _ => ⟨_, _, k3.1.1, rfl, ⟨_, rfl, ⟨8, _, k3.1.2.2.1.2.2.2.2.1, i, rfl, hi, ⟨8, _, es, lc, i, rfl, hi, ?_⟩⟩⟩⟩⟩
    obtain ⟨h4, eh4⟩ : ∃ h4, h4 = vm_up h3 (a + 32) (.inl (.long, 8, .inr (.inl (vp_updL s i (t.2.2.1 i))))) := ⟨_, rfl⟩
    have F4 : fr h3 h4 (fun q => q = (a + 32)) := eh4 ▸ fr_up rfl
    have e4 : h4.2 (a + 32) = .inl (.long, 8, .inr (.inl (vp_updL s i (t.2.2.1 i)))) := by rw [eh4]; exact vm_upe
    refine vm_Th (lv' := [(0, .ref a), (1, .int (nI i))]) (h' := h4) rfl eh4 ?_
    refine vm_go rfl bX14_h3x_28 oX14_h3x_28 (vm_Th (by rw [← nI_1]; rfl) rfl (ih h4 ⟨SY_fr k3 (RK_of k3.1 F4 ((F4.2 a (by omega)).trans k3.1.1) (fun q z => .inr (z ▸ ?_))) F4 (by omega), ⟨_, e4, fun j hj => ?_⟩, fr_trans F3 (fr_mono F4 (fun q z => .inr (by omega)))⟩))
    · exact ⟨32, rfl, .inr (.inr (.inl ⟨rfl, _, e4⟩))⟩
    · unfold vp_updL
      by_cases e : j = i
      · rw [if_pos e, e]
      · rw [if_neg e]; exact vs j (by omega)
  rintro h3 ⟨k3, ⟨s, es, vs⟩, F3⟩
  refine vm_go rfl bX14_h3x_11 oX14_h3x_11 ⟨fun _ => ?_, fun q => absurd (nI_le (a := 8) (b := 8) (by decide) (by decide)) q⟩
  refine vm_go rfl bX14_h3x_34 oX14_h3x_34 ?_
  refine vm_Th (lv' := [(0, .ref a), (1, .int (nI (128 * 0)))]) (h' := h3) rfl rfl ?_
  refine vm_loop (fun i h' => SY h' a t g (pdl 128 16 w) m y ∧ (∃ s : Nat → Int64, h'.2 (a + 32) = .inl (.long, 8, .inr (.inl s)) ∧ ∀ j, j < 8 → s j = hs3 t.2.2.1 t.2.2.2 (gb w) w.length i j) ∧ fr h h' (fun q => q = a ∨ (a + 28 ≤ q ∧ q ≤ a + 33))) (nb3 w.length) (fun i => [(0, .ref a), (1, .int (nI (128 * i)))]) 0 h3 (Nat.zero_le _) ⟨k3, ⟨s, es, vs⟩, F3⟩ ?_ ?_
  rotate_left
  · rintro i h4 _ hi ⟨k4, ⟨s, es, vs⟩, F4⟩ ih
    obtain ⟨c, bc, ec⟩ := k4.2.2.1
    rw [pl.1] at ec
    have hle : 128 * i + 128 ≤ 128 * nb3 w.length := by omega
    refine vm_go rfl bX14_h3x_36 oX14_h3x_36 ⟨_, _, k4.1.1, rfl, ⟨fun q => ?_, fun _ => ⟨_, k4.1.1, 0, 0, _, rm_wblock k4.1 es bc (by omega), Nat.zero_le _, Nat.zero_le _, ?_⟩⟩⟩
    · have q : nI (pdl 128 16 w).length ≤ nI (128 * i) := q
      rw [pl.1] at q
      exact absurd q (nI_ge (by omega) (by omega))
    rintro _ h5 ⟨rfl, k5, ⟨s', es', vs'⟩, F5⟩
    refine vm_Th (lv' := [(0, .ref a), (1, .int (nI (128 * (i + 1))))]) (h' := h5) ?_ rfl (ih h5 ⟨SY_fr k4 k5 F5 (by omega), ⟨s', es', fun j hj => ?_⟩, fr_trans F4 (fr_mono F5 (fun q z => .inr (by omega)))⟩)
    · rw [show nI (128 * (i + 1)) = nI (128 * i) + 128 from (nI_add (128 * i) 128).symm]; rfl
    · rw [vs' j hj, vs j hj]
      show _ = hs3 t.2.2.1 t.2.2.2 (gb w) w.length i j + rds3 t.2.2.2 (wt3 (m3 (hb3 (gb w) w.length i))) (hs3 t.2.2.1 t.2.2.2 (gb w) w.length i) 80 j
      refine congrArg (fun q => hs3 t.2.2.1 t.2.2.2 (gb w) w.length i j + q) (rds3_cg vs _ (fun q hq => ⟨?_, rfl⟩) j hj)
      refine wt3_cg (m3_cg (fun q hq => ?_)) q
      have := sl_all ec (128 * i + q) (by omega)
      rw [Nat.zero_add] at this
      rw [this]
      exact pd_b3 hl hi hq
  rintro h4 ⟨k4, ⟨s, es, vs⟩, F4⟩
  refine vm_go rfl bX14_h3x_36 oX14_h3x_36 ⟨_, _, k4.1.1, rfl, ⟨fun _ => ?_, fun q => absurd (show nI (pdl 128 16 w).length ≤ nI (128 * nb3 w.length) by rw [pl.1]; exact nI_le (Nat.le_refl _) (by omega)) q⟩⟩
  refine vm_go rfl bX14_h3x_58 oX14_h3x_58 ?_
  refine vm_Th (lv' := [(0, .ref a), (1, .int (nI 0))]) (h' := h4) rfl rfl ?_
  obtain ⟨c0, bc0⟩ := k4.1.2.2.2.2.2.1 29 (by unfold ZB; omega)
  refine vm_loop (fun i h' => SY h' a t g (pdl 128 16 w) m y ∧ h'.2 (a + 32) = .inl (.long, 8, .inr (.inl s)) ∧ (∃ c, bv h' 48 (a + 29) c ∧ ∀ j, j < i → c j = d3 t.2.2.1 t.2.2.2 (gb w) w.length j) ∧ fr h h' (fun q => q = a ∨ (a + 28 ≤ q ∧ q ≤ a + 33))) 48 (fun i => [(0, .ref a), (1, .int (nI i))]) 0 h4 (Nat.zero_le _) ⟨k4, es, ⟨c0, bc0, fun j hj => by omega⟩, F4⟩ ?_ ?_
  rotate_left
  · rintro i h5 _ hi ⟨k5, e5, ⟨c, ⟨f, ef, vf⟩, vc⟩, F5⟩ ih
    have ed : nI i / 8 = nI (i / 8) := nI_div (b := 8) (by omega) (by decide)
    have er : nI i - nI i / 8 * 8 = nI (i % 8) := nI_rem (b := 8) (by omega) (by decide)
    refine vm_go rfl bX14_h3x_60 oX14_h3x_60 ⟨fun z => absurd z (nI_ge (b := 48) hi (by decide)), fun _ => ⟨_, _, k5.1.1, rfl, ⟨_, _, k5.1.1, rfl, ⟨by decide, ⟨8, s, e5, i / 8, ed, by omega, ⟨by decide, ⟨48, f, ef, l29, i, rfl, by omega, ?_⟩⟩⟩⟩⟩⟩⟩
    have EV : (s (i / 8) >>> (((56 : Int32) - 8 * (nI i - nI i / 8 * 8)).toInt64 &&& 63)).toInt32.toInt8.toInt32 = sb (d3 t.2.2.1 t.2.2.2 (gb w) w.length i) := by
      rw [er, vs _ (by omega)]
      unfold d3
      generalize hs3 t.2.2.1 t.2.2.2 (gb w) w.length (nb3 w.length) (i / 8) = x
      have e3 : ∀ r, r < 8 → ((((56 : Int32) - 8 * nI r).toInt64 &&& 63).toBitVec.smod 64).toNat = 56 - 8 * r := by decide +kernel
      have e4 : x = lZ x.toInt := (Int64.ofInt_toInt x).symm
      conv => lhs; rw [e4]
      rw [lZ_shr (Int64.le_toInt x) (Int64.toInt_lt x) (e3 (i % 8) (by omega))]
      exact sb_L _
    have dl : d3 t.2.2.1 t.2.2.2 (gb w) w.length i < 256 := by unfold d3; omega
    have E2 : ((s (i / 8) >>> (((56 : Int32) - 8 * (nI i - nI i / 8 * 8)).toInt64 &&& 63)).toInt32.toInt8.toInt32).toInt8.toInt32 = sb (d3 t.2.2.1 t.2.2.2 (gb w) w.length i) := by rw [EV]; exact sb_self _ dl
    obtain ⟨h6, eh6⟩ : ∃ h6, h6 = vm_up h5 (a + 29) (.inl (.byte, 48, .inl (upd f i (sb (d3 t.2.2.1 t.2.2.2 (gb w) w.length i))))) := ⟨_, rfl⟩
    have F6 : fr h5 h6 (fun q => q = a + 29) := eh6 ▸ fr_up rfl
    have b6 : bv h6 48 (a + 29) (b1 c i (d3 t.2.2.1 t.2.2.2 (gb w) w.length i)) := eh6 ▸ bv_up vf dl
    refine vm_Th (lv' := [(0, .ref a), (1, .int (nI i))]) (h' := h6) rfl (by rw [eh6, ← E2]; rfl) ?_
    refine vm_go rfl bX14_h3x_94 oX14_h3x_94 (vm_Th (by rw [← nI_1]; rfl) rfl (ih h6 ⟨SY_fr k5 (RK_of k5.1 F6 ((F6.2 a (by omega)).trans k5.1.1) (fun q z => .inr (z ▸ GD_r (i := 29) (by unfold ZB; omega) rfl ⟨_, b6⟩))) F6 (by omega), (F6.2 _ (by omega)).trans e5, ⟨_, b6, fun j hj => ?_⟩, fr_trans F5 (fr_mono F6 (fun q z => .inr (by omega)))⟩))
    unfold b1
    by_cases e : j = i
    · rw [if_pos e, e]
    · rw [if_neg e]; exact vc j (by omega)
  rintro h5 ⟨k5, e5, ⟨c, bc, vc⟩, F5⟩
  refine vm_go rfl bX14_h3x_60 oX14_h3x_60 ⟨fun _ => ?_, fun q => absurd (nI_le (a := 48) (b := 48) (by decide) (by decide)) q⟩
  refine vm_go rfl bX14_h3x_100 oX14_h3x_100 ⟨_, k5.1.1, la, show 19 < 89 by decide, trivial, ?_⟩
  obtain ⟨h6, eh6⟩ : ∃ h6, h6 = vm_up h5 a (RO a (u3 g (nI ([] : List Nat).length) (nI m.length) (nI y.length))) := ⟨_, rfl⟩
  have F6 : fr h5 h6 (fun q => q = a) := eh6 ▸ fr_up rfl
  refine vm_Th (lv' := [(0, .ref a), (1, .int (nI 48))]) (h' := h6) rfl eh6 ?_
  obtain ⟨c9, b9, _⟩ := k5.2.2.1
  refine vm_go rfl bX14_h3x_105 oX14_h3x_105 ⟨rfl, SY_nw k5 F6 (fun q z => .inl z) (by rw [eh6]; exact vm_upe) ⟨by decide, k5.2.1.2⟩ ⟨c9, bv_cg b9 (F6.2 _ (by omega)), rfl⟩ (rl9_cg k5.2.2.2.1 (F6.2 _ (by omega))) (rl9_cg k5.2.2.2.2 (F6.2 _ (by omega))), ⟨c, bv_cg bc (F6.2 _ (by omega)), ?_⟩, fr_trans F5 (fr_mono F6 (fun q z => .inl z))⟩
  unfold H3
  exact sl_ext (fun j hj => by rw [Nat.zero_add]; exact vc j hj)
end
