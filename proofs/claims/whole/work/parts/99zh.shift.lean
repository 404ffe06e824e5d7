/-! the reference: rest, its two shifts -/
def bX14_restx_0 : List vm_J := [(1, .aload_n 1, 0, 0, 0, .null), (3, .getfield 13, 12, 2, 0, .null), (2, .istore 4, 0, 0, 0, .null)]
set_option maxRecDepth 20000 in
theorem oX14_restx_0 : vm_okB 14 mX14_rest 0 bX14_restx_0 = true := by decide +kernel
def bX14_restx_6 : List vm_J := [(1, .aload_n 1, 0, 0, 0, .null), (3, .getfield 33, 12, 3, 0, .null), (2, .istore 5, 0, 0, 0, .null)]
set_option maxRecDepth 20000 in
theorem oX14_restx_6 : vm_okB 14 mX14_rest 6 bX14_restx_6 = true := by decide +kernel
def bX14_restx_12 : List vm_J := [(1, .aload_n 0, 0, 0, 0, .null), (3, .getfield 36, 14, 1, 0, .null), (1, .iload_n 2, 0, 0, 0, .null), (2, .iload 5, 0, 0, 0, .null), (3, .ifCond .le 20, 39, 0, 0, .null), (1, .aload_n 0, 0, 0, 0, .null), (3, .getfield 36, 14, 1, 0, .null), (1, .iload_n 2, 0, 0, 0, .null), (1, .iconst 1, 0, 0, 0, .int 1), (1, .isub, 0, 0, 0, .null), (1, .iaload, 0, 0, 0, .null), (2, .bipush 32, 0, 0, 0, .int 32), (2, .iload 5, 0, 0, 0, .null), (1, .isub, 0, 0, 0, .null), (1, .iushr, 0, 0, 0, .null), (3, .goto 4, 40, 0, 0, .null)]
set_option maxRecDepth 20000 in
theorem oX14_restx_12 : vm_okB 14 mX14_rest 12 bX14_restx_12 = true := by decide +kernel
def bX14_restx_39 : List vm_J := [(1, .iconst 0, 0, 0, 0, .int 0)]
set_option maxRecDepth 20000 in
theorem oX14_restx_39 : vm_okB 14 mX14_rest 39 bX14_restx_39 = true := by decide +kernel
def bX14_restx_40 : List vm_J := [(1, .iastore, 0, 0, 0, .null), (1, .iload_n 2, 0, 0, 0, .null), (1, .iconst 1, 0, 0, 0, .int 1), (1, .isub, 0, 0, 0, .null), (2, .istore 6, 0, 0, 0, .null)]
set_option maxRecDepth 20000 in
theorem oX14_restx_40 : vm_okB 14 mX14_rest 40 bX14_restx_40 = true := by decide +kernel
def bX14_restx_46 : List vm_J := [(2, .iload 6, 0, 0, 0, .null), (3, .ifCond .lt 56, 104, 0, 0, .null), (1, .aload_n 0, 0, 0, 0, .null), (3, .getfield 36, 14, 1, 0, .null), (2, .iload 6, 0, 0, 0, .null), (1, .aload_n 0, 0, 0, 0, .null), (3, .getfield 36, 14, 1, 0, .null), (2, .iload 6, 0, 0, 0, .null), (1, .iaload, 0, 0, 0, .null), (2, .iload 5, 0, 0, 0, .null), (1, .ishl, 0, 0, 0, .null), (2, .iload 5, 0, 0, 0, .null), (3, .ifCond .le 26, 95, 0, 0, .null), (2, .iload 6, 0, 0, 0, .null), (3, .ifCond .le 21, 95, 0, 0, .null), (1, .aload_n 0, 0, 0, 0, .null), (3, .getfield 36, 14, 1, 0, .null), (2, .iload 6, 0, 0, 0, .null), (1, .iconst 1, 0, 0, 0, .int 1), (1, .isub, 0, 0, 0, .null), (1, .iaload, 0, 0, 0, .null), (2, .bipush 32, 0, 0, 0, .int 32), (2, .iload 5, 0, 0, 0, .null), (1, .isub, 0, 0, 0, .null), (1, .iushr, 0, 0, 0, .null), (3, .goto 4, 96, 0, 0, .null)]
set_option maxRecDepth 20000 in
theorem oX14_restx_46 : vm_okB 14 mX14_rest 46 bX14_restx_46 = true := by decide +kernel
def bX14_restx_95 : List vm_J := [(1, .iconst 0, 0, 0, 0, .int 0)]
set_option maxRecDepth 20000 in
theorem oX14_restx_95 : vm_okB 14 mX14_rest 95 bX14_restx_95 = true := by decide +kernel
def bX14_restx_96 : List vm_J := [(1, .ior, 0, 0, 0, .null), (1, .iastore, 0, 0, 0, .null), (3, .iinc 6 (-1), 0, 0, 0, .int (-1)), (3, .goto (-55), 46, 0, 0, .null)]
set_option maxRecDepth 20000 in
theorem oX14_restx_96 : vm_okB 14 mX14_rest 96 bX14_restx_96 = true := by decide +kernel
def bX14_restx_104 : List vm_J := [(1, .aload_n 1, 0, 0, 0, .null), (3, .getfield 39, 12, 1, 0, .null), (2, .iload 4, 0, 0, 0, .null), (1, .iconst 1, 0, 0, 0, .int 1), (1, .isub, 0, 0, 0, .null), (1, .iaload, 0, 0, 0, .null), (3, .invokestatic 9, 138, 1, 0, .null), (2, .lstore 6, 0, 0, 0, .null)]
set_option maxRecDepth 20000 in
theorem oX14_restx_104 : vm_okB 14 mX14_rest 104 bX14_restx_104 = true := by decide +kernel
def bX14_restx_118 : List vm_J := [(1, .iload_n 2, 0, 0, 0, .null), (2, .iload 4, 0, 0, 0, .null), (1, .isub, 0, 0, 0, .null), (2, .istore 8, 0, 0, 0, .null)]
set_option maxRecDepth 20000 in
theorem oX14_restx_118 : vm_okB 14 mX14_rest 118 bX14_restx_118 = true := by decide +kernel
def bX14_restx_124 : List vm_J := [(2, .iload 8, 0, 0, 0, .null), (3, .ifCond .lt 184, 310, 0, 0, .null), (1, .aload_n 0, 0, 0, 0, .null), (3, .getfield 36, 14, 1, 0, .null), (2, .iload 8, 0, 0, 0, .null), (2, .iload 4, 0, 0, 0, .null), (1, .iadd, 0, 0, 0, .null), (1, .iaload, 0, 0, 0, .null), (3, .invokestatic 9, 138, 1, 0, .null), (2, .lload 6, 0, 0, 0, .null), (1, .lcmp, 0, 0, 0, .null), (3, .ifCond .ne 31, 176, 0, 0, .null), (3, .ldc2_w 7, 0, 0, 0, .long (4294967295)), (2, .lstore 9, 0, 0, 0, .null)]
set_option maxRecDepth 20000 in
theorem oX14_restx_124 : vm_okB 14 mX14_rest 124 bX14_restx_124 = true := by decide +kernel
def bX14_restx_153 : List vm_J := [(1, .aload_n 0, 0, 0, 0, .null), (3, .getfield 36, 14, 1, 0, .null), (2, .iload 8, 0, 0, 0, .null), (2, .iload 4, 0, 0, 0, .null), (1, .iadd, 0, 0, 0, .null), (1, .iconst 1, 0, 0, 0, .int 1), (1, .isub, 0, 0, 0, .null), (1, .iaload, 0, 0, 0, .null), (3, .invokestatic 9, 138, 1, 0, .null), (2, .lload 6, 0, 0, 0, .null), (1, .ladd, 0, 0, 0, .null), (2, .lstore 11, 0, 0, 0, .null)]
set_option maxRecDepth 20000 in
theorem oX14_restx_153 : vm_okB 14 mX14_rest 153 bX14_restx_153 = true := by decide +kernel
def bX14_restx_173 : List vm_J := [(3, .goto 55, 228, 0, 0, .null)]
set_option maxRecDepth 20000 in
theorem oX14_restx_173 : vm_okB 14 mX14_rest 173 bX14_restx_173 = true := by decide +kernel
def bX14_restx_176 : List vm_J := [(1, .aload_n 0, 0, 0, 0, .null), (3, .getfield 36, 14, 1, 0, .null), (2, .iload 8, 0, 0, 0, .null), (2, .iload 4, 0, 0, 0, .null), (1, .iadd, 0, 0, 0, .null), (1, .iaload, 0, 0, 0, .null), (3, .invokestatic 9, 138, 1, 0, .null), (2, .bipush 32, 0, 0, 0, .int 32), (1, .lshl, 0, 0, 0, .null), (1, .aload_n 0, 0, 0, 0, .null), (3, .getfield 36, 14, 1, 0, .null), (2, .iload 8, 0, 0, 0, .null), (2, .iload 4, 0, 0, 0, .null), (1, .iadd, 0, 0, 0, .null), (1, .iconst 1, 0, 0, 0, .int 1), (1, .isub, 0, 0, 0, .null), (1, .iaload, 0, 0, 0, .null), (3, .invokestatic 9, 138, 1, 0, .null), (1, .lor, 0, 0, 0, .null), (2, .lstore 13, 0, 0, 0, .null)]
set_option maxRecDepth 20000 in
theorem oX14_restx_176 : vm_okB 14 mX14_rest 176 bX14_restx_176 = true := by decide +kernel
def bX14_restx_210 : List vm_J := [(2, .lload 13, 0, 0, 0, .null), (2, .lload 6, 0, 0, 0, .null), (3, .invokestatic 42, 242, 2, 0, .null), (2, .lstore 9, 0, 0, 0, .null)]
set_option maxRecDepth 20000 in
theorem oX14_restx_210 : vm_okB 14 mX14_rest 210 bX14_restx_210 = true := by decide +kernel
def bX14_restx_219 : List vm_J := [(2, .lload 13, 0, 0, 0, .null), (2, .lload 6, 0, 0, 0, .null), (3, .invokestatic 48, 243, 2, 0, .null), (2, .lstore 11, 0, 0, 0, .null)]
set_option maxRecDepth 20000 in
theorem oX14_restx_219 : vm_okB 14 mX14_rest 219 bX14_restx_219 = true := by decide +kernel
def bX14_restx_228 : List vm_J := [(2, .lload 11, 0, 0, 0, .null), (3, .ldc2_w 51, 0, 0, 0, .long (4294967296)), (1, .lcmp, 0, 0, 0, .null), (3, .ifCond .ge 61, 295, 0, 0, .null), (2, .lload 9, 0, 0, 0, .null), (1, .aload_n 1, 0, 0, 0, .null), (3, .getfield 39, 12, 1, 0, .null), (2, .iload 4, 0, 0, 0, .null), (1, .iconst 2, 0, 0, 0, .int 2), (1, .isub, 0, 0, 0, .null), (1, .iaload, 0, 0, 0, .null), (3, .invokestatic 9, 138, 1, 0, .null), (1, .lmul, 0, 0, 0, .null), (2, .lload 11, 0, 0, 0, .null), (2, .bipush 32, 0, 0, 0, .int 32), (1, .lshl, 0, 0, 0, .null), (1, .aload_n 0, 0, 0, 0, .null), (3, .getfield 36, 14, 1, 0, .null), (2, .iload 8, 0, 0, 0, .null), (2, .iload 4, 0, 0, 0, .null), (1, .iadd, 0, 0, 0, .null), (1, .iconst 2, 0, 0, 0, .int 2), (1, .isub, 0, 0, 0, .null), (1, .iaload, 0, 0, 0, .null), (3, .invokestatic 9, 138, 1, 0, .null), (1, .lor, 0, 0, 0, .null), (3, .invokestatic 53, 241, 2, 0, .null), (3, .ifCond .le 19, 295, 0, 0, .null), (2, .lload 9, 0, 0, 0, .null), (1, .lconst 1, 0, 0, 0, .long 1), (1, .lsub, 0, 0, 0, .null), (2, .lstore 9, 0, 0, 0, .null)]
set_option maxRecDepth 20000 in
theorem oX14_restx_228 : vm_okB 14 mX14_rest 228 bX14_restx_228 = true := by decide +kernel
def bX14_restx_285 : List vm_J := [(2, .lload 11, 0, 0, 0, .null), (2, .lload 6, 0, 0, 0, .null), (1, .ladd, 0, 0, 0, .null), (2, .lstore 11, 0, 0, 0, .null)]
set_option maxRecDepth 20000 in
theorem oX14_restx_285 : vm_okB 14 mX14_rest 285 bX14_restx_285 = true := by decide +kernel
def bX14_restx_292 : List vm_J := [(3, .goto (-64), 228, 0, 0, .null)]
set_option maxRecDepth 20000 in
theorem oX14_restx_292 : vm_okB 14 mX14_rest 292 bX14_restx_292 = true := by decide +kernel
def bX14_restx_295 : List vm_J := [(1, .aload_n 0, 0, 0, 0, .null), (1, .aload_n 1, 0, 0, 0, .null), (2, .iload 8, 0, 0, 0, .null), (2, .lload 9, 0, 0, 0, .null), (3, .invokevirtual 57, 148, 3, 14, .null), (3, .iinc 8 (-1), 0, 0, 0, .int (-1)), (3, .goto (-183), 124, 0, 0, .null)]
set_option maxRecDepth 20000 in
theorem oX14_restx_295 : vm_okB 14 mX14_rest 295 bX14_restx_295 = true := by decide +kernel
def bX14_restx_310 : List vm_J := [(1, .iconst 0, 0, 0, 0, .int 0), (2, .istore 8, 0, 0, 0, .null)]
set_option maxRecDepth 20000 in
theorem oX14_restx_310 : vm_okB 14 mX14_rest 310 bX14_restx_310 = true := by decide +kernel
def bX14_restx_313 : List vm_J := [(2, .iload 8, 0, 0, 0, .null), (2, .iload 4, 0, 0, 0, .null), (3, .if_icmp .ge 48, 365, 0, 0, .null), (1, .aload_n 3, 0, 0, 0, .null), (2, .iload 8, 0, 0, 0, .null), (1, .aload_n 0, 0, 0, 0, .null), (3, .getfield 36, 14, 1, 0, .null), (2, .iload 8, 0, 0, 0, .null), (1, .iaload, 0, 0, 0, .null), (2, .iload 5, 0, 0, 0, .null), (1, .iushr, 0, 0, 0, .null), (2, .iload 5, 0, 0, 0, .null), (3, .ifCond .le 21, 356, 0, 0, .null), (1, .aload_n 0, 0, 0, 0, .null), (3, .getfield 36, 14, 1, 0, .null), (2, .iload 8, 0, 0, 0, .null), (1, .iconst 1, 0, 0, 0, .int 1), (1, .iadd, 0, 0, 0, .null), (1, .iaload, 0, 0, 0, .null), (2, .bipush 32, 0, 0, 0, .int 32), (2, .iload 5, 0, 0, 0, .null), (1, .isub, 0, 0, 0, .null), (1, .ishl, 0, 0, 0, .null), (3, .goto 4, 357, 0, 0, .null)]
set_option maxRecDepth 20000 in
theorem oX14_restx_313 : vm_okB 14 mX14_rest 313 bX14_restx_313 = true := by decide +kernel
def bX14_restx_356 : List vm_J := [(1, .iconst 0, 0, 0, 0, .int 0)]
set_option maxRecDepth 20000 in
theorem oX14_restx_356 : vm_okB 14 mX14_rest 356 bX14_restx_356 = true := by decide +kernel
def bX14_restx_357 : List vm_J := [(1, .ior, 0, 0, 0, .null), (1, .iastore, 0, 0, 0, .null), (3, .iinc 8 1, 0, 0, 0, .int 1), (3, .goto (-49), 313, 0, 0, .null)]
set_option maxRecDepth 20000 in
theorem oX14_restx_357 : vm_okB 14 mX14_rest 357 bX14_restx_357 = true := by decide +kernel
def bX14_restx_365 : List vm_J := [(1, .return_, 0, 0, 0, .null)]
set_option maxRecDepth 20000 in
theorem oX14_restx_365 : vm_okB 14 mX14_rest 365 bX14_restx_365 = true := by decide +kernel
theorem p2_32 {s : Nat} (h : s ≤ 32) : 2 ^ (32 - s) * 2 ^ s = 4294967296 := by
  rw [← Nat.pow_add, show 32 - s + s = 32 by omega]
/-- one limb of a number shifted to the left -/
theorem shl_x {A d P R : Nat} (hP : P * R = 4294967296) (hR : 0 < R) (e : Nat) (he : e < R) : (((A * 4294967296 + d) * R + e) / 4294967296) = A * R + d / P := by
  have hPp : 0 < P := by
    rcases Nat.eq_zero_or_pos P with z | z
    · rw [z, Nat.zero_mul] at hP; cases hP
    · exact z
  have h1 := Nat.div_add_mod d P
  have h2 := Nat.mod_lt d hPp
  have e1 : (A * 4294967296 + d) * R + e = d % P * R + e + 4294967296 * (A * R + d / P) := by
    have : d * R = (P * (d / P) + d % P) * R := by rw [h1]
    rw [Nat.add_mul, this, ← hP]
    grind
  have h3 : d % P * R + e < 4294967296 := by
    have : d % P * R ≤ (P - 1) * R := Nat.mul_le_mul_right R (by omega)
    have h4 : (P - 1) * R = P * R - R := by rw [Nat.sub_mul, Nat.one_mul]
    have h5 : R ≤ P * R := Nat.le_mul_of_pos_left R hPp
    omega
  rw [e1, Nat.add_mul_div_left _ _ (by decide), Nat.div_eq_of_lt h3, Nat.zero_add]
theorem shl_m {a b P R : Nat} (hP : P * R = 4294967296) (hR : 0 < R) (hb : b < R) : (a * R + b) % 4294967296 = a % P * R + b := by
  have hPp : 0 < P := by
    rcases Nat.eq_zero_or_pos P with z | z
    · rw [z, Nat.zero_mul] at hP; cases hP
    · exact z
  have h1 := Nat.div_add_mod a P
  have h2 := Nat.mod_lt a hPp
  have e1 : a * R + b = a % P * R + b + 4294967296 * (a / P) := by
    have : a * R = (P * (a / P) + a % P) * R := by rw [h1]
    rw [this, ← hP]
    grind
  have h3 : a % P * R + b < 4294967296 := by
    have : a % P * R ≤ (P - 1) * R := Nat.mul_le_mul_right R (by omega)
    have h4 : (P - 1) * R = P * R - R := by rw [Nat.sub_mul, Nat.one_mul]
    have h5 : R ≤ P * R := Nat.le_mul_of_pos_left R hPp
    omega
  rw [e1, Nat.add_mul_mod_self_left, Nat.mod_eq_of_lt h3]
theorem shl_0 {X P R : Nat} (hP : P * R = 4294967296) (hR : 0 < R) : dw (X * R) 0 = dw X 0 % P * R := by
  unfold dw
  rw [Nat.pow_zero, Nat.div_one, Nat.div_one]
  have h1 := shl_m (a := X) (b := 0) hP hR hR
  have h2 := shl_m (a := X % 4294967296) (b := 0) hP hR hR
  rw [Nat.add_zero, Nat.add_zero] at h1
  rw [h1, ← hP, Nat.mod_mul_right_mod]
theorem shl_dw {X P R : Nat} (hP : P * R = 4294967296) (hR : 0 < R) (k : Nat) : dw (X * R) (k + 1) = dw X (k + 1) % P * R + dw X k / P := by
  have p : 0 < 4294967296 ^ k := Nat.pow_pos (by decide)
  have hPp : 0 < P := by
    rcases Nat.eq_zero_or_pos P with z | z
    · rw [z, Nat.zero_mul] at hP; cases hP
    · exact z
  have h0 := Nat.div_add_mod X (4294967296 ^ k)
  have h1 := Nat.mod_lt X p
  have e1 : X * R / 4294967296 ^ k = X / 4294967296 ^ k * R + X % 4294967296 ^ k * R / 4294967296 ^ k := by
    have : X * R = X % 4294967296 ^ k * R + 4294967296 ^ k * (X / 4294967296 ^ k * R) := by
      have : X * R = (4294967296 ^ k * (X / 4294967296 ^ k) + X % 4294967296 ^ k) * R := by rw [h0]
      rw [this]
      grind
    rw [this, Nat.add_mul_div_left _ _ p, Nat.add_comm]
  have he : X % 4294967296 ^ k * R / 4294967296 ^ k < R := by
    refine Nat.div_lt_of_lt_mul ?_
    exact Nat.mul_lt_mul_of_pos_right h1 hR
  generalize X % 4294967296 ^ k * R / 4294967296 ^ k = e at *
  have e2 := dw_d X k
  have e3 : X * R / 4294967296 ^ (k + 1) = X / 4294967296 ^ (k + 1) * R + dw X k / P := by
    rw [Nat.pow_succ, ← Nat.div_div_eq_div_mul, e1, e2, Nat.mul_comm 4294967296 (X / _)]
    rw [Nat.pow_succ]
    exact shl_x hP hR e he
  have hb : dw X k / P < R := by
    refine Nat.div_lt_of_lt_mul ?_
    rw [hP]; exact dw_lt X k
  have e4 : dw (X * R) (k + 1) = X * R / 4294967296 ^ (k + 1) % 4294967296 := rfl
  rw [e4, e3, shl_m hP hR hb]
  congr 2
  unfold dw
  rw [← hP, Nat.mod_mul_right_mod]
/-- one limb of a number shifted to the right -/
theorem shr_dw {V P R : Nat} (hP : P * R = 4294967296) (hR : 0 < R) (k : Nat) : dw (V / R) k = dw V k / R + dw V (k + 1) % R * P := by
  have hPp : 0 < P := by
    rcases Nat.eq_zero_or_pos P with z | z
    · rw [z, Nat.zero_mul] at hP; cases hP
    · exact z
  have e1 : V / R / 4294967296 ^ k = V / 4294967296 ^ k / R := by rw [Nat.div_div_eq_div_mul, Nat.div_div_eq_div_mul, Nat.mul_comm]
  have e2 := dw_d V k
  have e3 := dw_d V (k + 1)
  have e4 : dw (V / R) k = V / 4294967296 ^ k / R % 4294967296 := by
    show V / R / 4294967296 ^ k % 4294967296 = _
    rw [e1]
  rw [e4, e2]
  have e5 : 4294967296 * (V / 4294967296 ^ (k + 1)) + dw V k = dw V k + R * (P * (V / 4294967296 ^ (k + 1))) := by
    rw [← hP]; grind
  rw [e5, Nat.add_mul_div_left _ _ hR]
  have hb : dw V k / R < P := by
    refine Nat.div_lt_of_lt_mul ?_
    rw [Nat.mul_comm, hP]; exact dw_lt V k
  have h6 := shl_m (a := V / 4294967296 ^ (k + 1)) (b := dw V k / R) (P := R) (R := P) (by rw [Nat.mul_comm]; exact hP) hPp hb
  rw [Nat.add_comm, Nat.mul_comm P, h6, Nat.add_comm]
  congr 2
  have e7 : dw V (k + 1) = V / 4294967296 ^ (k + 1) % 4294967296 := rfl
  rw [e7, show 4294967296 = R * P by rw [Nat.mul_comm]; exact hP.symm, Nat.mod_mul_right_mod]
theorem nI_sm : ∀ s, s < 32 → ((nI s &&& 31).toBitVec.smod 32).toNat = s := by decide +kernel
theorem nI_sx {x s : Nat} (hs : s < 32) : nI x <<< (nI s &&& 31) = nI (x % 2 ^ (32 - s) * 2 ^ s) := by
  rw [nI_shl (k := s) (nI_sm s hs)]
  refine nI_m ?_
  have hR : 0 < 2 ^ s := Nat.pow_pos (by decide)
  have h1 := shl_m (a := x) (b := 0) (p2_32 (s := s) (by omega)) hR hR
  have h2 := shl_m (a := x % 2 ^ (32 - s)) (b := 0) (p2_32 (s := s) (by omega)) hR hR
  rw [Nat.add_zero, Nat.add_zero] at h1 h2
  rw [h1, h2, Nat.mod_mod]
section
variable {l : Launch} {O : Nat → vm_Ob} {f9 : Value} {h : vm_H} {Q : Option Value → vm_H → Prop}
/-- a limb shifted to the left and what comes in from below -/
theorem or_l {x y s : Nat} (hx : x < 4294967296) (hy : y < 2 ^ s) (hs : s < 32) : nI (x % 2 ^ (32 - s) * 2 ^ s) ||| nI y = nI (x % 2 ^ (32 - s) * 2 ^ s + y) := by
  rw [Int32.or_comm, nI_or hy, Nat.add_comm]
  have h2 := Nat.mod_lt x (show 0 < 2 ^ (32 - s) from Nat.pow_pos (by decide))
  have h3 := p2_32 (s := s) (by omega)
  have h4 : x % 2 ^ (32 - s) * 2 ^ s ≤ (2 ^ (32 - s) - 1) * 2 ^ s := Nat.mul_le_mul_right _ (by omega)
  rw [Nat.sub_mul, Nat.one_mul, h3] at h4
  have h5 : 2 ^ s ≤ 4294967296 := by
    rw [← h3]
    exact Nat.le_mul_of_pos_left _ (Nat.pow_pos (by decide))
  omega
end
