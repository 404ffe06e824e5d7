/-! code of Modulus (written by wip/gen/code.py) -/
def bX6_init_0 (ci : Nat) : List vm_J := [(1, .aload_n 0, 0, 0, 0, .null), (3, .invokespecial 3, 9999, 0, 0, .null), (1, .aload_n 0, 0, 0, 0, .null), (2, .bipush 8, 0, 0, 0, .int 8), (1, .iload_n 3, 0, 0, 0, .null), (1, .imul, 0, 0, 0, .null), (2, .bipush 28, 0, 0, 0, .int 28), (1, .idiv, 0, 0, 0, .null), (1, .iconst 1, 0, 0, 0, .int 1), (1, .iadd, 0, 0, 0, .null), (3, .putfield 9, ci, 0, 0, .null), (1, .aload_n 0, 0, 0, 0, .null), (1, .aload_n 0, 0, 0, 0, .null), (3, .getfield 9, ci, 0, 0, .null), (2, .newarray .long, 0, 0, 0, .null), (3, .putfield 13, ci, 1, 4, .null), (1, .aload_n 0, 0, 0, 0, .null), (1, .aload_n 0, 0, 0, 0, .null), (3, .getfield 9, ci, 0, 0, .null), (2, .newarray .long, 0, 0, 0, .null), (3, .putfield 17, ci, 2, 4, .null), (1, .aload_n 0, 0, 0, 0, .null), (1, .aload_n 0, 0, 0, 0, .null), (3, .getfield 9, ci, 0, 0, .null), (2, .newarray .long, 0, 0, 0, .null), (3, .putfield 20, ci, 3, 4, .null), (1, .aload_n 0, 0, 0, 0, .null), (1, .aload_n 0, 0, 0, 0, .null), (3, .getfield 9, ci, 0, 0, .null), (2, .newarray .long, 0, 0, 0, .null), (3, .putfield 23, ci, 4, 4, .null), (1, .aload_n 0, 0, 0, 0, .null), (1, .aload_n 0, 0, 0, 0, .null), (3, .getfield 9, ci, 0, 0, .null), (2, .newarray .long, 0, 0, 0, .null), (3, .putfield 26, ci, 6, 4, .null), (1, .aload_n 0, 0, 0, 0, .null), (2, .bipush 16, 0, 0, 0, .int 16), (1, .aload_n 0, 0, 0, 0, .null), (3, .getfield 9, ci, 0, 0, .null), (4, .multianewarray 29 2, 1, 0, 0, .null), (3, .putfield 31, ci, 7, 4, .null), (1, .aload_n 0, 0, 0, 0, .null), (3, .getfield 23, ci, 4, 0, .null), (1, .iconst 0, 0, 0, 0, .int 0), (1, .lconst 1, 0, 0, 0, .long 1), (1, .lastore, 0, 0, 0, .null), (1, .aload_n 1, 0, 0, 0, .null), (1, .iload_n 2, 0, 0, 0, .null), (1, .iload_n 3, 0, 0, 0, .null), (1, .aload_n 0, 0, 0, 0, .null), (3, .getfield 13, ci, 1, 0, .null), (3, .invokestatic 34, 42, 4, 0, .null), (1, .lconst 1, 0, 0, 0, .long 1), (2, .lstore 4, 0, 0, 0, .null), (1, .iconst 0, 0, 0, 0, .int 0), (2, .istore 6, 0, 0, 0, .null)]
set_option maxRecDepth 20000 in
theorem oX6_init_0 {ci : Nat} (h : ci = 6 ∨ ci = 3) : vm_okB 6 mX6_init 0 (bX6_init_0 ci) = true := by
  rcases h with rfl | rfl
  · decide +kernel
  · decide +kernel
def bX6_init_104 (ci : Nat) : List vm_J := [(2, .iload 6, 0, 0, 0, .null), (1, .iconst 5, 0, 0, 0, .int 5), (3, .if_icmp .ge 27, 134, 0, 0, .null), (2, .lload 4, 0, 0, 0, .null), (3, .ldc2_w 38, 0, 0, 0, .long (2)), (1, .aload_n 0, 0, 0, 0, .null), (3, .getfield 13, ci, 1, 0, .null), (1, .iconst 0, 0, 0, 0, .int 0), (1, .laload, 0, 0, 0, .null), (2, .lload 4, 0, 0, 0, .null), (1, .lmul, 0, 0, 0, .null), (1, .lsub, 0, 0, 0, .null), (1, .lmul, 0, 0, 0, .null), (2, .lstore 4, 0, 0, 0, .null), (3, .iinc 6 1, 0, 0, 0, .int 1), (3, .goto (-27), 104, 0, 0, .null)]
set_option maxRecDepth 20000 in
theorem oX6_init_104 {ci : Nat} (h : ci = 6 ∨ ci = 3) : vm_okB 6 mX6_init 104 (bX6_init_104 ci) = true := by
  rcases h with rfl | rfl
  · decide +kernel
  · decide +kernel
def bX6_init_134 (ci : Nat) : List vm_J := [(1, .aload_n 0, 0, 0, 0, .null), (2, .lload 4, 0, 0, 0, .null), (1, .lneg, 0, 0, 0, .null), (3, .ldc2_w 40, 0, 0, 0, .long (268435455)), (1, .land, 0, 0, 0, .null), (3, .putfield 42, ci, 5, 1, .null), (1, .aload_n 0, 0, 0, 0, .null), (3, .getfield 17, ci, 2, 0, .null), (1, .iconst 0, 0, 0, 0, .int 0), (1, .lconst 1, 0, 0, 0, .long 1), (1, .lastore, 0, 0, 0, .null), (1, .iconst 0, 0, 0, 0, .int 0), (2, .istore 6, 0, 0, 0, .null)]
set_option maxRecDepth 20000 in
theorem oX6_init_134 {ci : Nat} (h : ci = 6 ∨ ci = 3) : vm_okB 6 mX6_init 134 (bX6_init_134 ci) = true := by
  rcases h with rfl | rfl
  · decide +kernel
  · decide +kernel
def bX6_init_155 (ci : Nat) : List vm_J := [(2, .iload 6, 0, 0, 0, .null), (2, .bipush 28, 0, 0, 0, .int 28), (1, .aload_n 0, 0, 0, 0, .null), (3, .getfield 9, ci, 0, 0, .null), (1, .imul, 0, 0, 0, .null), (3, .if_icmp .ge 25, 189, 0, 0, .null), (1, .aload_n 0, 0, 0, 0, .null), (1, .aload_n 0, 0, 0, 0, .null), (3, .getfield 17, ci, 2, 0, .null), (1, .aload_n 0, 0, 0, 0, .null), (3, .getfield 17, ci, 2, 0, .null), (1, .aload_n 0, 0, 0, 0, .null), (3, .getfield 17, ci, 2, 0, .null), (3, .invokevirtual 46, 52, 3, ci, .null), (3, .iinc 6 1, 0, 0, 0, .int 1), (3, .goto (-31), 155, 0, 0, .null)]
set_option maxRecDepth 20000 in
theorem oX6_init_155 {ci : Nat} (h : ci = 6 ∨ ci = 3) : vm_okB 6 mX6_init 155 (bX6_init_155 ci) = true := by
  rcases h with rfl | rfl
  · decide +kernel
  · decide +kernel
def bX6_init_189 (ci : Nat) : List vm_J := [(1, .aload_n 0, 0, 0, 0, .null), (1, .aload_n 0, 0, 0, 0, .null), (3, .getfield 17, ci, 2, 0, .null), (1, .aload_n 0, 0, 0, 0, .null), (3, .getfield 20, ci, 3, 0, .null), (3, .invokevirtual 50, 44, 2, ci, .null), (1, .iconst 0, 0, 0, 0, .int 0), (2, .istore 6, 0, 0, 0, .null)]
set_option maxRecDepth 20000 in
theorem oX6_init_189 {ci : Nat} (h : ci = 6 ∨ ci = 3) : vm_okB 6 mX6_init 189 (bX6_init_189 ci) = true := by
  rcases h with rfl | rfl
  · decide +kernel
  · decide +kernel
def bX6_init_204 (ci : Nat) : List vm_J := [(2, .iload 6, 0, 0, 0, .null), (2, .bipush 28, 0, 0, 0, .int 28), (1, .aload_n 0, 0, 0, 0, .null), (3, .getfield 9, ci, 0, 0, .null), (1, .imul, 0, 0, 0, .null), (3, .if_icmp .ge 25, 238, 0, 0, .null), (1, .aload_n 0, 0, 0, 0, .null), (1, .aload_n 0, 0, 0, 0, .null), (3, .getfield 20, ci, 3, 0, .null), (1, .aload_n 0, 0, 0, 0, .null), (3, .getfield 20, ci, 3, 0, .null), (1, .aload_n 0, 0, 0, 0, .null), (3, .getfield 20, ci, 3, 0, .null), (3, .invokevirtual 46, 52, 3, ci, .null), (3, .iinc 6 1, 0, 0, 0, .int 1), (3, .goto (-31), 204, 0, 0, .null)]
set_option maxRecDepth 20000 in
theorem oX6_init_204 {ci : Nat} (h : ci = 6 ∨ ci = 3) : vm_okB 6 mX6_init 204 (bX6_init_204 ci) = true := by
  rcases h with rfl | rfl
  · decide +kernel
  · decide +kernel
def bX6_init_238 : List vm_J := [(1, .return_, 0, 0, 0, .null)]
set_option maxRecDepth 20000 in
theorem oX6_init_238 : vm_okB 6 mX6_init 238 bX6_init_238 = true := by decide +kernel
def bX6_read_0 : List vm_J := [(1, .aload_n 3, 0, 0, 0, .null), (1, .lconst 0, 0, 0, 0, .long 0), (3, .invokestatic 54, 256, 2, 0, .null), (1, .lconst 0, 0, 0, 0, .long 0), (2, .lstore 4, 0, 0, 0, .null), (1, .iconst 0, 0, 0, 0, .int 0), (2, .istore 6, 0, 0, 0, .null), (1, .iconst 0, 0, 0, 0, .int 0), (2, .istore 7, 0, 0, 0, .null), (1, .iload_n 1, 0, 0, 0, .null), (1, .iload_n 2, 0, 0, 0, .null), (1, .iadd, 0, 0, 0, .null), (1, .iconst 1, 0, 0, 0, .int 1), (1, .isub, 0, 0, 0, .null), (2, .istore 8, 0, 0, 0, .null)]
set_option maxRecDepth 20000 in
theorem oX6_read_0 : vm_okB 6 mX6_read 0 bX6_read_0 = true := by decide +kernel
def bX6_read_21 : List vm_J := [(2, .iload 8, 0, 0, 0, .null), (1, .iload_n 1, 0, 0, 0, .null), (3, .if_icmp .lt 66, 90, 0, 0, .null), (2, .iload 7, 0, 0, 0, .null), (1, .aload_n 3, 0, 0, 0, .null), (1, .arraylength, 0, 0, 0, .null), (3, .if_icmp .ge 59, 90, 0, 0, .null), (2, .lload 4, 0, 0, 0, .null), (1, .aload_n 0, 0, 0, 0, .null), (2, .iload 8, 0, 0, 0, .null), (1, .baload, 0, 0, 0, .null), (1, .i2l, 0, 0, 0, .null), (3, .ldc2_w 60, 0, 0, 0, .long (255)), (1, .land, 0, 0, 0, .null), (2, .iload 6, 0, 0, 0, .null), (1, .lshl, 0, 0, 0, .null), (1, .lor, 0, 0, 0, .null), (2, .lstore 4, 0, 0, 0, .null), (3, .iinc 6 8, 0, 0, 0, .int 8), (2, .iload 6, 0, 0, 0, .null), (2, .bipush 28, 0, 0, 0, .int 28), (3, .if_icmp .lt 26, 84, 0, 0, .null), (1, .aload_n 3, 0, 0, 0, .null), (2, .iload 7, 0, 0, 0, .null), (2, .lload 4, 0, 0, 0, .null), (3, .ldc2_w 40, 0, 0, 0, .long (268435455)), (1, .land, 0, 0, 0, .null), (1, .lastore, 0, 0, 0, .null), (3, .iinc 7 1, 0, 0, 0, .int 1), (2, .lload 4, 0, 0, 0, .null), (2, .bipush 28, 0, 0, 0, .int 28), (1, .lushr, 0, 0, 0, .null), (2, .lstore 4, 0, 0, 0, .null), (3, .iinc 6 (-28), 0, 0, 0, .int (-28))]
set_option maxRecDepth 20000 in
theorem oX6_read_21 : vm_okB 6 mX6_read 21 bX6_read_21 = true := by decide +kernel
def bX6_read_84 : List vm_J := [(3, .iinc 8 (-1), 0, 0, 0, .int (-1)), (3, .goto (-66), 21, 0, 0, .null)]
set_option maxRecDepth 20000 in
theorem oX6_read_84 : vm_okB 6 mX6_read 84 bX6_read_84 = true := by decide +kernel
def bX6_read_90 : List vm_J := [(2, .iload 7, 0, 0, 0, .null), (1, .aload_n 3, 0, 0, 0, .null), (1, .arraylength, 0, 0, 0, .null), (3, .if_icmp .ge 9, 103, 0, 0, .null), (1, .aload_n 3, 0, 0, 0, .null), (2, .iload 7, 0, 0, 0, .null), (2, .lload 4, 0, 0, 0, .null), (1, .lastore, 0, 0, 0, .null)]
set_option maxRecDepth 20000 in
theorem oX6_read_90 : vm_okB 6 mX6_read 90 bX6_read_90 = true := by decide +kernel
def bX6_read_103 : List vm_J := [(1, .return_, 0, 0, 0, .null)]
set_option maxRecDepth 20000 in
theorem oX6_read_103 : vm_okB 6 mX6_read 103 bX6_read_103 = true := by decide +kernel
def bX6_write_0 : List vm_J := [(1, .lconst 0, 0, 0, 0, .long 0), (2, .lstore 4, 0, 0, 0, .null), (1, .iconst 0, 0, 0, 0, .int 0), (2, .istore 6, 0, 0, 0, .null), (1, .iconst 0, 0, 0, 0, .int 0), (2, .istore 7, 0, 0, 0, .null), (1, .iload_n 2, 0, 0, 0, .null), (1, .iload_n 3, 0, 0, 0, .null), (1, .iadd, 0, 0, 0, .null), (1, .iconst 1, 0, 0, 0, .int 1), (1, .isub, 0, 0, 0, .null), (2, .istore 8, 0, 0, 0, .null)]
set_option maxRecDepth 20000 in
theorem oX6_write_0 : vm_okB 6 mX6_write 0 bX6_write_0 = true := by decide +kernel
def bX6_write_16 : List vm_J := [(2, .iload 8, 0, 0, 0, .null), (1, .iload_n 2, 0, 0, 0, .null), (3, .if_icmp .lt 59, 78, 0, 0, .null), (2, .iload 6, 0, 0, 0, .null), (2, .bipush 8, 0, 0, 0, .int 8), (3, .if_icmp .ge 28, 54, 0, 0, .null), (2, .iload 7, 0, 0, 0, .null), (1, .aload_n 0, 0, 0, 0, .null), (1, .arraylength, 0, 0, 0, .null), (3, .if_icmp .ge 21, 54, 0, 0, .null), (2, .lload 4, 0, 0, 0, .null), (1, .aload_n 0, 0, 0, 0, .null), (2, .iload 7, 0, 0, 0, .null), (1, .laload, 0, 0, 0, .null), (2, .iload 6, 0, 0, 0, .null), (1, .lshl, 0, 0, 0, .null), (1, .lor, 0, 0, 0, .null), (2, .lstore 4, 0, 0, 0, .null), (3, .iinc 6 28, 0, 0, 0, .int 28), (3, .iinc 7 1, 0, 0, 0, .int 1)]
set_option maxRecDepth 20000 in
theorem oX6_write_16 : vm_okB 6 mX6_write 16 bX6_write_16 = true := by decide +kernel
def bX6_write_54 : List vm_J := [(1, .aload_n 1, 0, 0, 0, .null), (2, .iload 8, 0, 0, 0, .null), (2, .lload 4, 0, 0, 0, .null), (1, .l2i, 0, 0, 0, .null), (1, .i2b, 0, 0, 0, .null), (1, .bastore, 0, 0, 0, .null), (2, .lload 4, 0, 0, 0, .null), (2, .bipush 8, 0, 0, 0, .int 8), (1, .lushr, 0, 0, 0, .null), (2, .lstore 4, 0, 0, 0, .null), (3, .iinc 6 (-8), 0, 0, 0, .int (-8)), (3, .iinc 8 (-1), 0, 0, 0, .int (-1)), (3, .goto (-59), 16, 0, 0, .null)]
set_option maxRecDepth 20000 in
theorem oX6_write_54 : vm_okB 6 mX6_write 54 bX6_write_54 = true := by decide +kernel
def bX6_write_78 : List vm_J := [(1, .return_, 0, 0, 0, .null)]
set_option maxRecDepth 20000 in
theorem oX6_write_78 : vm_okB 6 mX6_write 78 bX6_write_78 = true := by decide +kernel
def bX6_copy_0 (ci : Nat) : List vm_J := [(1, .aload_n 1, 0, 0, 0, .null), (1, .iconst 0, 0, 0, 0, .int 0), (1, .aload_n 2, 0, 0, 0, .null), (1, .iconst 0, 0, 0, 0, .int 0), (1, .aload_n 0, 0, 0, 0, .null), (3, .getfield 9, ci, 0, 0, .null), (3, .invokestatic 62, 9999, 0, 1, .null), (1, .return_, 0, 0, 0, .null)]
set_option maxRecDepth 20000 in
theorem oX6_copy_0 {ci : Nat} (h : ci = 6 ∨ ci = 3) : vm_okB 6 mX6_copy 0 (bX6_copy_0 ci) = true := by
  rcases h with rfl | rfl
  · decide +kernel
  · decide +kernel
def bX6_isZero_0 : List vm_J := [(1, .iconst 0, 0, 0, 0, .int 0), (1, .istore_n 2, 0, 0, 0, .null)]
set_option maxRecDepth 20000 in
theorem oX6_isZero_0 : vm_okB 6 mX6_isZero 0 bX6_isZero_0 = true := by decide +kernel
def bX6_isZero_2 (ci : Nat) : List vm_J := [(1, .iload_n 2, 0, 0, 0, .null), (1, .aload_n 0, 0, 0, 0, .null), (3, .getfield 9, ci, 0, 0, .null), (3, .if_icmp .ge 19, 26, 0, 0, .null), (1, .aload_n 1, 0, 0, 0, .null), (1, .iload_n 2, 0, 0, 0, .null), (1, .laload, 0, 0, 0, .null), (1, .lconst 0, 0, 0, 0, .long 0), (1, .lcmp, 0, 0, 0, .null), (3, .ifCond .eq 5, 20, 0, 0, .null), (1, .iconst 0, 0, 0, 0, .int 0), (1, .ireturn, 0, 0, 0, .null)]
set_option maxRecDepth 20000 in
theorem oX6_isZero_2 {ci : Nat} (h : ci = 6 ∨ ci = 3) : vm_okB 6 mX6_isZero 2 (bX6_isZero_2 ci) = true := by
  rcases h with rfl | rfl
  · decide +kernel
  · decide +kernel
def bX6_isZero_20 : List vm_J := [(3, .iinc 2 1, 0, 0, 0, .int 1), (3, .goto (-21), 2, 0, 0, .null)]
set_option maxRecDepth 20000 in
theorem oX6_isZero_20 : vm_okB 6 mX6_isZero 20 bX6_isZero_20 = true := by decide +kernel
def bX6_isZero_26 : List vm_J := [(1, .iconst 1, 0, 0, 0, .int 1), (1, .ireturn, 0, 0, 0, .null)]
set_option maxRecDepth 20000 in
theorem oX6_isZero_26 : vm_okB 6 mX6_isZero 26 bX6_isZero_26 = true := by decide +kernel
def bX6_same_0 : List vm_J := [(1, .iconst 0, 0, 0, 0, .int 0), (1, .istore_n 3, 0, 0, 0, .null)]
set_option maxRecDepth 20000 in
theorem oX6_same_0 : vm_okB 6 mX6_same 0 bX6_same_0 = true := by decide +kernel
def bX6_same_2 (ci : Nat) : List vm_J := [(1, .iload_n 3, 0, 0, 0, .null), (1, .aload_n 0, 0, 0, 0, .null), (3, .getfield 9, ci, 0, 0, .null), (3, .if_icmp .ge 21, 28, 0, 0, .null), (1, .aload_n 1, 0, 0, 0, .null), (1, .iload_n 3, 0, 0, 0, .null), (1, .laload, 0, 0, 0, .null), (1, .aload_n 2, 0, 0, 0, .null), (1, .iload_n 3, 0, 0, 0, .null), (1, .laload, 0, 0, 0, .null), (1, .lcmp, 0, 0, 0, .null), (3, .ifCond .eq 5, 22, 0, 0, .null), (1, .iconst 0, 0, 0, 0, .int 0), (1, .ireturn, 0, 0, 0, .null)]
set_option maxRecDepth 20000 in
theorem oX6_same_2 {ci : Nat} (h : ci = 6 ∨ ci = 3) : vm_okB 6 mX6_same 2 (bX6_same_2 ci) = true := by
  rcases h with rfl | rfl
  · decide +kernel
  · decide +kernel
def bX6_same_22 : List vm_J := [(3, .iinc 3 1, 0, 0, 0, .int 1), (3, .goto (-23), 2, 0, 0, .null)]
set_option maxRecDepth 20000 in
theorem oX6_same_22 : vm_okB 6 mX6_same 22 bX6_same_22 = true := by decide +kernel
def bX6_same_28 : List vm_J := [(1, .iconst 1, 0, 0, 0, .int 1), (1, .ireturn, 0, 0, 0, .null)]
set_option maxRecDepth 20000 in
theorem oX6_same_28 : vm_okB 6 mX6_same 28 bX6_same_28 = true := by decide +kernel
def bX6_isLess_0 (ci : Nat) : List vm_J := [(1, .aload_n 0, 0, 0, 0, .null), (3, .getfield 9, ci, 0, 0, .null), (1, .iconst 1, 0, 0, 0, .int 1), (1, .isub, 0, 0, 0, .null), (1, .istore_n 3, 0, 0, 0, .null)]
set_option maxRecDepth 20000 in
theorem oX6_isLess_0 {ci : Nat} (h : ci = 6 ∨ ci = 3) : vm_okB 6 mX6_isLess 0 (bX6_isLess_0 ci) = true := by
  rcases h with rfl | rfl
  · decide +kernel
  · decide +kernel
def bX6_isLess_7 : List vm_J := [(1, .iload_n 3, 0, 0, 0, .null), (3, .ifCond .lt 35, 43, 0, 0, .null), (1, .aload_n 1, 0, 0, 0, .null), (1, .iload_n 3, 0, 0, 0, .null), (1, .laload, 0, 0, 0, .null), (1, .aload_n 2, 0, 0, 0, .null), (1, .iload_n 3, 0, 0, 0, .null), (1, .laload, 0, 0, 0, .null), (1, .lcmp, 0, 0, 0, .null), (3, .ifCond .eq 19, 37, 0, 0, .null), (1, .aload_n 1, 0, 0, 0, .null), (1, .iload_n 3, 0, 0, 0, .null), (1, .laload, 0, 0, 0, .null), (1, .aload_n 2, 0, 0, 0, .null), (1, .iload_n 3, 0, 0, 0, .null), (1, .laload, 0, 0, 0, .null), (1, .lcmp, 0, 0, 0, .null), (3, .ifCond .ge 7, 35, 0, 0, .null), (1, .iconst 1, 0, 0, 0, .int 1), (3, .goto 4, 36, 0, 0, .null)]
set_option maxRecDepth 20000 in
theorem oX6_isLess_7 : vm_okB 6 mX6_isLess 7 bX6_isLess_7 = true := by decide +kernel
def bX6_isLess_35 : List vm_J := [(1, .iconst 0, 0, 0, 0, .int 0)]
set_option maxRecDepth 20000 in
theorem oX6_isLess_35 : vm_okB 6 mX6_isLess 35 bX6_isLess_35 = true := by decide +kernel
def bX6_isLess_36 : List vm_J := [(1, .ireturn, 0, 0, 0, .null)]
set_option maxRecDepth 20000 in
theorem oX6_isLess_36 : vm_okB 6 mX6_isLess 36 bX6_isLess_36 = true := by decide +kernel
def bX6_isLess_37 : List vm_J := [(3, .iinc 3 (-1), 0, 0, 0, .int (-1)), (3, .goto (-33), 7, 0, 0, .null)]
set_option maxRecDepth 20000 in
theorem oX6_isLess_37 : vm_okB 6 mX6_isLess 37 bX6_isLess_37 = true := by decide +kernel
def bX6_isLess_43 : List vm_J := [(1, .iconst 0, 0, 0, 0, .int 0), (1, .ireturn, 0, 0, 0, .null)]
set_option maxRecDepth 20000 in
theorem oX6_isLess_43 : vm_okB 6 mX6_isLess 43 bX6_isLess_43 = true := by decide +kernel
def bX6_isAbove_0 (ci : Nat) : List vm_J := [(1, .aload_n 0, 0, 0, 0, .null), (1, .aload_n 1, 0, 0, 0, .null), (1, .aload_n 0, 0, 0, 0, .null), (3, .getfield 13, ci, 1, 0, .null), (3, .invokevirtual 68, 47, 2, ci, .null), (1, .ireturn, 0, 0, 0, .null)]
set_option maxRecDepth 20000 in
theorem oX6_isAbove_0 {ci : Nat} (h : ci = 6 ∨ ci = 3) : vm_okB 6 mX6_isAbove 0 (bX6_isAbove_0 ci) = true := by
  rcases h with rfl | rfl
  · decide +kernel
  · decide +kernel
def bX6_enter_0 (ci : Nat) : List vm_J := [(1, .aload_n 0, 0, 0, 0, .null), (1, .aload_n 1, 0, 0, 0, .null), (1, .aload_n 0, 0, 0, 0, .null), (3, .getfield 20, ci, 3, 0, .null), (1, .aload_n 2, 0, 0, 0, .null), (3, .invokevirtual 72, (if ci = 3 then 29 else 57), 3, ci, .null), (1, .return_, 0, 0, 0, .null)]
set_option maxRecDepth 20000 in
theorem oX6_enter_0 {ci : Nat} (h : ci = 6 ∨ ci = 3) : vm_okB 6 mX6_enter 0 (bX6_enter_0 ci) = true := by
  rcases h with rfl | rfl
  · decide +kernel
  · decide +kernel
def bX6_leave_0 (ci : Nat) : List vm_J := [(1, .aload_n 0, 0, 0, 0, .null), (1, .aload_n 1, 0, 0, 0, .null), (1, .aload_n 0, 0, 0, 0, .null), (3, .getfield 23, ci, 4, 0, .null), (1, .aload_n 2, 0, 0, 0, .null), (3, .invokevirtual 72, (if ci = 3 then 29 else 57), 3, ci, .null), (1, .return_, 0, 0, 0, .null)]
set_option maxRecDepth 20000 in
theorem oX6_leave_0 {ci : Nat} (h : ci = 6 ∨ ci = 3) : vm_okB 6 mX6_leave 0 (bX6_leave_0 ci) = true := by
  rcases h with rfl | rfl
  · decide +kernel
  · decide +kernel
def bX6_enterWide_0 (ci : Nat) : List vm_J := [(1, .iload_n 3, 0, 0, 0, .null), (2, .bipush 28, 0, 0, 0, .int 28), (1, .aload_n 0, 0, 0, 0, .null), (3, .getfield 9, ci, 0, 0, .null), (1, .imul, 0, 0, 0, .null), (2, .bipush 8, 0, 0, 0, .int 8), (1, .idiv, 0, 0, 0, .null), (3, .invokestatic 75, 245, 2, 0, .null), (2, .istore 5, 0, 0, 0, .null), (1, .aload_n 1, 0, 0, 0, .null), (1, .iload_n 2, 0, 0, 0, .null), (1, .iload_n 3, 0, 0, 0, .null), (2, .iload 5, 0, 0, 0, .null), (1, .isub, 0, 0, 0, .null), (1, .aload_n 0, 0, 0, 0, .null), (3, .getfield 31, ci, 7, 0, .null), (1, .iconst 0, 0, 0, 0, .int 0), (1, .aaload, 0, 0, 0, .null), (3, .invokestatic 34, 42, 4, 0, .null), (1, .aload_n 1, 0, 0, 0, .null), (1, .iload_n 2, 0, 0, 0, .null), (1, .iload_n 3, 0, 0, 0, .null), (1, .iadd, 0, 0, 0, .null), (2, .iload 5, 0, 0, 0, .null), (1, .isub, 0, 0, 0, .null), (2, .iload 5, 0, 0, 0, .null), (1, .aload_n 0, 0, 0, 0, .null), (3, .getfield 31, ci, 7, 0, .null), (1, .iconst 1, 0, 0, 0, .int 1), (1, .aaload, 0, 0, 0, .null), (3, .invokestatic 34, 42, 4, 0, .null), (1, .aload_n 0, 0, 0, 0, .null), (1, .aload_n 0, 0, 0, 0, .null), (3, .getfield 31, ci, 7, 0, .null), (1, .iconst 0, 0, 0, 0, .int 0), (1, .aaload, 0, 0, 0, .null), (1, .aload_n 0, 0, 0, 0, .null), (3, .getfield 20, ci, 3, 0, .null), (1, .aload_n 0, 0, 0, 0, .null), (3, .getfield 31, ci, 7, 0, .null), (1, .iconst 0, 0, 0, 0, .int 0), (1, .aaload, 0, 0, 0, .null), (3, .invokevirtual 72, (if ci = 3 then 29 else 57), 3, ci, .null), (1, .aload_n 0, 0, 0, 0, .null), (1, .aload_n 0, 0, 0, 0, .null), (3, .getfield 31, ci, 7, 0, .null), (1, .iconst 0, 0, 0, 0, .int 0), (1, .aaload, 0, 0, 0, .null), (1, .aload_n 0, 0, 0, 0, .null), (3, .getfield 20, ci, 3, 0, .null), (1, .aload_n 0, 0, 0, 0, .null), (3, .getfield 31, ci, 7, 0, .null), (1, .iconst 0, 0, 0, 0, .int 0), (1, .aaload, 0, 0, 0, .null), (3, .invokevirtual 72, (if ci = 3 then 29 else 57), 3, ci, .null), (1, .aload_n 0, 0, 0, 0, .null), (1, .aload_n 0, 0, 0, 0, .null), (3, .getfield 31, ci, 7, 0, .null), (1, .iconst 1, 0, 0, 0, .int 1), (1, .aaload, 0, 0, 0, .null), (1, .aload_n 0, 0, 0, 0, .null), (3, .getfield 20, ci, 3, 0, .null), (1, .aload_n 0, 0, 0, 0, .null), (3, .getfield 31, ci, 7, 0, .null), (1, .iconst 1, 0, 0, 0, .int 1), (1, .aaload, 0, 0, 0, .null), (3, .invokevirtual 72, (if ci = 3 then 29 else 57), 3, ci, .null), (1, .aload_n 0, 0, 0, 0, .null), (1, .aload_n 0, 0, 0, 0, .null), (3, .getfield 31, ci, 7, 0, .null), (1, .iconst 0, 0, 0, 0, .int 0), (1, .aaload, 0, 0, 0, .null), (1, .aload_n 0, 0, 0, 0, .null), (3, .getfield 31, ci, 7, 0, .null), (1, .iconst 1, 0, 0, 0, .int 1), (1, .aaload, 0, 0, 0, .null), (2, .aload 4, 0, 0, 0, .null), (3, .invokevirtual 46, 52, 3, ci, .null), (1, .return_, 0, 0, 0, .null)]
set_option maxRecDepth 20000 in
theorem oX6_enterWide_0 {ci : Nat} (h : ci = 6 ∨ ci = 3) : vm_okB 6 mX6_enterWide 0 (bX6_enterWide_0 ci) = true := by
  rcases h with rfl | rfl
  · decide +kernel
  · decide +kernel
def bX6_add_0 (ci : Nat) : List vm_J := [(1, .aload_n 0, 0, 0, 0, .null), (1, .aload_n 1, 0, 0, 0, .null), (1, .aload_n 2, 0, 0, 0, .null), (1, .aload_n 3, 0, 0, 0, .null), (3, .invokevirtual 81, 54, 3, ci, .null), (1, .aload_n 0, 0, 0, 0, .null), (1, .aload_n 3, 0, 0, 0, .null), (3, .invokevirtual 84, 56, 1, ci, .null), (1, .return_, 0, 0, 0, .null)]
set_option maxRecDepth 20000 in
theorem oX6_add_0 {ci : Nat} (h : ci = 6 ∨ ci = 3) : vm_okB 6 mX6_add 0 (bX6_add_0 ci) = true := by
  rcases h with rfl | rfl
  · decide +kernel
  · decide +kernel
def bX6_sub_0 (ci : Nat) : List vm_J := [(1, .aload_n 0, 0, 0, 0, .null), (1, .aload_n 1, 0, 0, 0, .null), (1, .aload_n 2, 0, 0, 0, .null), (1, .aload_n 3, 0, 0, 0, .null), (3, .invokevirtual 88, 55, 3, ci, .null), (3, .ifCond .eq 13, 20, 0, 0, .null), (1, .aload_n 0, 0, 0, 0, .null), (1, .aload_n 3, 0, 0, 0, .null), (1, .aload_n 0, 0, 0, 0, .null), (3, .getfield 13, ci, 1, 0, .null), (1, .aload_n 3, 0, 0, 0, .null), (3, .invokevirtual 81, 54, 3, ci, .null)]
set_option maxRecDepth 20000 in
theorem oX6_sub_0 {ci : Nat} (h : ci = 6 ∨ ci = 3) : vm_okB 6 mX6_sub 0 (bX6_sub_0 ci) = true := by
  rcases h with rfl | rfl
  · decide +kernel
  · decide +kernel
def bX6_sub_20 : List vm_J := [(1, .return_, 0, 0, 0, .null)]
set_option maxRecDepth 20000 in
theorem oX6_sub_20 : vm_okB 6 mX6_sub 20 bX6_sub_20 = true := by decide +kernel
def bX6_putTogether_0 : List vm_J := [(1, .lconst 0, 0, 0, 0, .long 0), (2, .lstore 4, 0, 0, 0, .null), (1, .iconst 0, 0, 0, 0, .int 0), (2, .istore 6, 0, 0, 0, .null)]
set_option maxRecDepth 20000 in
theorem oX6_putTogether_0 : vm_okB 6 mX6_putTogether 0 bX6_putTogether_0 = true := by decide +kernel
def bX6_putTogether_6 (ci : Nat) : List vm_J := [(2, .iload 6, 0, 0, 0, .null), (1, .aload_n 0, 0, 0, 0, .null), (3, .getfield 9, ci, 0, 0, .null), (3, .if_icmp .ge 40, 52, 0, 0, .null), (1, .aload_n 1, 0, 0, 0, .null), (2, .iload 6, 0, 0, 0, .null), (1, .laload, 0, 0, 0, .null), (1, .aload_n 2, 0, 0, 0, .null), (2, .iload 6, 0, 0, 0, .null), (1, .laload, 0, 0, 0, .null), (1, .ladd, 0, 0, 0, .null), (2, .lload 4, 0, 0, 0, .null), (1, .ladd, 0, 0, 0, .null), (2, .lstore 7, 0, 0, 0, .null), (1, .aload_n 3, 0, 0, 0, .null), (2, .iload 6, 0, 0, 0, .null), (2, .lload 7, 0, 0, 0, .null), (3, .ldc2_w 40, 0, 0, 0, .long (268435455)), (1, .land, 0, 0, 0, .null), (1, .lastore, 0, 0, 0, .null), (2, .lload 7, 0, 0, 0, .null), (2, .bipush 28, 0, 0, 0, .int 28), (1, .lshr, 0, 0, 0, .null), (2, .lstore 4, 0, 0, 0, .null), (3, .iinc 6 1, 0, 0, 0, .int 1), (3, .goto (-43), 6, 0, 0, .null)]
set_option maxRecDepth 20000 in
theorem oX6_putTogether_6 {ci : Nat} (h : ci = 6 ∨ ci = 3) : vm_okB 6 mX6_putTogether 6 (bX6_putTogether_6 ci) = true := by
  rcases h with rfl | rfl
  · decide +kernel
  · decide +kernel
def bX6_putTogether_52 : List vm_J := [(1, .return_, 0, 0, 0, .null)]
set_option maxRecDepth 20000 in
theorem oX6_putTogether_52 : vm_okB 6 mX6_putTogether 52 bX6_putTogether_52 = true := by decide +kernel
def bX6_takeAway_0 : List vm_J := [(1, .lconst 0, 0, 0, 0, .long 0), (2, .lstore 4, 0, 0, 0, .null), (1, .iconst 0, 0, 0, 0, .int 0), (2, .istore 6, 0, 0, 0, .null)]
set_option maxRecDepth 20000 in
theorem oX6_takeAway_0 : vm_okB 6 mX6_takeAway 0 bX6_takeAway_0 = true := by decide +kernel
def bX6_takeAway_6 (ci : Nat) : List vm_J := [(2, .iload 6, 0, 0, 0, .null), (1, .aload_n 0, 0, 0, 0, .null), (3, .getfield 9, ci, 0, 0, .null), (3, .if_icmp .ge 40, 52, 0, 0, .null), (1, .aload_n 1, 0, 0, 0, .null), (2, .iload 6, 0, 0, 0, .null), (1, .laload, 0, 0, 0, .null), (1, .aload_n 2, 0, 0, 0, .null), (2, .iload 6, 0, 0, 0, .null), (1, .laload, 0, 0, 0, .null), (1, .lsub, 0, 0, 0, .null), (2, .lload 4, 0, 0, 0, .null), (1, .ladd, 0, 0, 0, .null), (2, .lstore 7, 0, 0, 0, .null), (1, .aload_n 3, 0, 0, 0, .null), (2, .iload 6, 0, 0, 0, .null), (2, .lload 7, 0, 0, 0, .null), (3, .ldc2_w 40, 0, 0, 0, .long (268435455)), (1, .land, 0, 0, 0, .null), (1, .lastore, 0, 0, 0, .null), (2, .lload 7, 0, 0, 0, .null), (2, .bipush 28, 0, 0, 0, .int 28), (1, .lshr, 0, 0, 0, .null), (2, .lstore 4, 0, 0, 0, .null), (3, .iinc 6 1, 0, 0, 0, .int 1), (3, .goto (-43), 6, 0, 0, .null)]
set_option maxRecDepth 20000 in
theorem oX6_takeAway_6 {ci : Nat} (h : ci = 6 ∨ ci = 3) : vm_okB 6 mX6_takeAway 6 (bX6_takeAway_6 ci) = true := by
  rcases h with rfl | rfl
  · decide +kernel
  · decide +kernel
def bX6_takeAway_52 : List vm_J := [(2, .lload 4, 0, 0, 0, .null), (1, .lconst 0, 0, 0, 0, .long 0), (1, .lcmp, 0, 0, 0, .null), (3, .ifCond .eq 7, 63, 0, 0, .null), (1, .iconst 1, 0, 0, 0, .int 1), (3, .goto 4, 64, 0, 0, .null)]
set_option maxRecDepth 20000 in
theorem oX6_takeAway_52 : vm_okB 6 mX6_takeAway 52 bX6_takeAway_52 = true := by decide +kernel
def bX6_takeAway_63 : List vm_J := [(1, .iconst 0, 0, 0, 0, .int 0)]
set_option maxRecDepth 20000 in
theorem oX6_takeAway_63 : vm_okB 6 mX6_takeAway 63 bX6_takeAway_63 = true := by decide +kernel
def bX6_takeAway_64 : List vm_J := [(1, .ireturn, 0, 0, 0, .null)]
set_option maxRecDepth 20000 in
theorem oX6_takeAway_64 : vm_okB 6 mX6_takeAway 64 bX6_takeAway_64 = true := by decide +kernel
def bX6_lower_0 (ci : Nat) : List vm_J := [(1, .aload_n 0, 0, 0, 0, .null), (3, .getfield 9, ci, 0, 0, .null), (1, .iconst 1, 0, 0, 0, .int 1), (1, .isub, 0, 0, 0, .null), (1, .istore_n 2, 0, 0, 0, .null)]
set_option maxRecDepth 20000 in
theorem oX6_lower_0 {ci : Nat} (h : ci = 6 ∨ ci = 3) : vm_okB 6 mX6_lower 0 (bX6_lower_0 ci) = true := by
  rcases h with rfl | rfl
  · decide +kernel
  · decide +kernel
def bX6_lower_7 (ci : Nat) : List vm_J := [(1, .iload_n 2, 0, 0, 0, .null), (3, .ifCond .le 22, 30, 0, 0, .null), (1, .aload_n 1, 0, 0, 0, .null), (1, .iload_n 2, 0, 0, 0, .null), (1, .laload, 0, 0, 0, .null), (1, .aload_n 0, 0, 0, 0, .null), (3, .getfield 13, ci, 1, 0, .null), (1, .iload_n 2, 0, 0, 0, .null), (1, .laload, 0, 0, 0, .null), (1, .lcmp, 0, 0, 0, .null), (3, .ifCond .ne 9, 30, 0, 0, .null), (3, .iinc 2 (-1), 0, 0, 0, .int (-1)), (3, .goto (-20), 7, 0, 0, .null)]
set_option maxRecDepth 20000 in
theorem oX6_lower_7 {ci : Nat} (h : ci = 6 ∨ ci = 3) : vm_okB 6 mX6_lower 7 (bX6_lower_7 ci) = true := by
  rcases h with rfl | rfl
  · decide +kernel
  · decide +kernel
def bX6_lower_30 (ci : Nat) : List vm_J := [(1, .aload_n 1, 0, 0, 0, .null), (1, .iload_n 2, 0, 0, 0, .null), (1, .laload, 0, 0, 0, .null), (1, .aload_n 0, 0, 0, 0, .null), (3, .getfield 13, ci, 1, 0, .null), (1, .iload_n 2, 0, 0, 0, .null), (1, .laload, 0, 0, 0, .null), (1, .lcmp, 0, 0, 0, .null), (3, .ifCond .ge 4, 44, 0, 0, .null), (1, .return_, 0, 0, 0, .null)]
set_option maxRecDepth 20000 in
theorem oX6_lower_30 {ci : Nat} (h : ci = 6 ∨ ci = 3) : vm_okB 6 mX6_lower 30 (bX6_lower_30 ci) = true := by
  rcases h with rfl | rfl
  · decide +kernel
  · decide +kernel
def bX6_lower_44 : List vm_J := [(1, .lconst 0, 0, 0, 0, .long 0), (1, .lstore_n 3, 0, 0, 0, .null), (1, .iconst 0, 0, 0, 0, .int 0), (1, .istore_n 2, 0, 0, 0, .null)]
set_option maxRecDepth 20000 in
theorem oX6_lower_44 : vm_okB 6 mX6_lower 44 bX6_lower_44 = true := by decide +kernel
def bX6_lower_48 (ci : Nat) : List vm_J := [(1, .iload_n 2, 0, 0, 0, .null), (1, .aload_n 0, 0, 0, 0, .null), (3, .getfield 9, ci, 0, 0, .null), (3, .if_icmp .ge 38, 91, 0, 0, .null), (1, .aload_n 1, 0, 0, 0, .null), (1, .iload_n 2, 0, 0, 0, .null), (1, .laload, 0, 0, 0, .null), (1, .aload_n 0, 0, 0, 0, .null), (3, .getfield 13, ci, 1, 0, .null), (1, .iload_n 2, 0, 0, 0, .null), (1, .laload, 0, 0, 0, .null), (1, .lsub, 0, 0, 0, .null), (1, .lload_n 3, 0, 0, 0, .null), (1, .ladd, 0, 0, 0, .null), (2, .lstore 5, 0, 0, 0, .null), (1, .aload_n 1, 0, 0, 0, .null), (1, .iload_n 2, 0, 0, 0, .null), (2, .lload 5, 0, 0, 0, .null), (3, .ldc2_w 40, 0, 0, 0, .long (268435455)), (1, .land, 0, 0, 0, .null), (1, .lastore, 0, 0, 0, .null), (2, .lload 5, 0, 0, 0, .null), (2, .bipush 28, 0, 0, 0, .int 28), (1, .lshr, 0, 0, 0, .null), (1, .lstore_n 3, 0, 0, 0, .null), (3, .iinc 2 1, 0, 0, 0, .int 1), (3, .goto (-40), 48, 0, 0, .null)]
set_option maxRecDepth 20000 in
theorem oX6_lower_48 {ci : Nat} (h : ci = 6 ∨ ci = 3) : vm_okB 6 mX6_lower 48 (bX6_lower_48 ci) = true := by
  rcases h with rfl | rfl
  · decide +kernel
  · decide +kernel
def bX6_lower_91 : List vm_J := [(1, .return_, 0, 0, 0, .null)]
set_option maxRecDepth 20000 in
theorem oX6_lower_91 : vm_okB 6 mX6_lower 91 bX6_lower_91 = true := by decide +kernel
def bX6_mul_0 (ci : Nat) : List vm_J := [(1, .aload_n 0, 0, 0, 0, .null), (3, .getfield 26, ci, 6, 0, .null), (2, .astore 4, 0, 0, 0, .null), (2, .aload 4, 0, 0, 0, .null), (1, .lconst 0, 0, 0, 0, .long 0), (3, .invokestatic 54, 256, 2, 0, .null), (1, .iconst 0, 0, 0, 0, .int 0), (2, .istore 5, 0, 0, 0, .null)]
set_option maxRecDepth 20000 in
theorem oX6_mul_0 {ci : Nat} (h : ci = 6 ∨ ci = 3) : vm_okB 6 mX6_mul 0 (bX6_mul_0 ci) = true := by
  rcases h with rfl | rfl
  · decide +kernel
  · decide +kernel
def bX6_mul_15 (ci : Nat) : List vm_J := [(2, .iload 5, 0, 0, 0, .null), (1, .aload_n 0, 0, 0, 0, .null), (3, .getfield 9, ci, 0, 0, .null), (3, .if_icmp .ge 116, 137, 0, 0, .null), (1, .aload_n 1, 0, 0, 0, .null), (2, .iload 5, 0, 0, 0, .null), (1, .laload, 0, 0, 0, .null), (2, .lstore 6, 0, 0, 0, .null), (2, .aload 4, 0, 0, 0, .null), (1, .iconst 0, 0, 0, 0, .int 0), (1, .laload, 0, 0, 0, .null), (2, .lload 6, 0, 0, 0, .null), (1, .aload_n 2, 0, 0, 0, .null), (1, .iconst 0, 0, 0, 0, .int 0), (1, .laload, 0, 0, 0, .null), (1, .lmul, 0, 0, 0, .null), (1, .ladd, 0, 0, 0, .null), (2, .lstore 8, 0, 0, 0, .null), (2, .lload 8, 0, 0, 0, .null), (1, .aload_n 0, 0, 0, 0, .null), (3, .getfield 42, ci, 5, 0, .null), (1, .lmul, 0, 0, 0, .null), (3, .ldc2_w 40, 0, 0, 0, .long (268435455)), (1, .land, 0, 0, 0, .null), (2, .lstore 10, 0, 0, 0, .null), (2, .lload 8, 0, 0, 0, .null), (2, .lload 10, 0, 0, 0, .null), (1, .aload_n 0, 0, 0, 0, .null), (3, .getfield 13, ci, 1, 0, .null), (1, .iconst 0, 0, 0, 0, .int 0), (1, .laload, 0, 0, 0, .null), (1, .lmul, 0, 0, 0, .null), (1, .ladd, 0, 0, 0, .null), (2, .bipush 28, 0, 0, 0, .int 28), (1, .lushr, 0, 0, 0, .null), (2, .lstore 12, 0, 0, 0, .null), (1, .iconst 1, 0, 0, 0, .int 1), (2, .istore 14, 0, 0, 0, .null)]
set_option maxRecDepth 20000 in
theorem oX6_mul_15 {ci : Nat} (h : ci = 6 ∨ ci = 3) : vm_okB 6 mX6_mul 15 (bX6_mul_15 ci) = true := by
  rcases h with rfl | rfl
  · decide +kernel
  · decide +kernel
def bX6_mul_76 (ci : Nat) : List vm_J := [(2, .iload 14, 0, 0, 0, .null), (1, .aload_n 0, 0, 0, 0, .null), (3, .getfield 9, ci, 0, 0, .null), (3, .if_icmp .ge 40, 122, 0, 0, .null), (2, .aload 4, 0, 0, 0, .null), (2, .iload 14, 0, 0, 0, .null), (1, .iconst 1, 0, 0, 0, .int 1), (1, .isub, 0, 0, 0, .null), (2, .aload 4, 0, 0, 0, .null), (2, .iload 14, 0, 0, 0, .null), (1, .laload, 0, 0, 0, .null), (2, .lload 6, 0, 0, 0, .null), (1, .aload_n 2, 0, 0, 0, .null), (2, .iload 14, 0, 0, 0, .null), (1, .laload, 0, 0, 0, .null), (1, .lmul, 0, 0, 0, .null), (1, .ladd, 0, 0, 0, .null), (2, .lload 10, 0, 0, 0, .null), (1, .aload_n 0, 0, 0, 0, .null), (3, .getfield 13, ci, 1, 0, .null), (2, .iload 14, 0, 0, 0, .null), (1, .laload, 0, 0, 0, .null), (1, .lmul, 0, 0, 0, .null), (1, .ladd, 0, 0, 0, .null), (1, .lastore, 0, 0, 0, .null), (3, .iinc 14 1, 0, 0, 0, .int 1), (3, .goto (-43), 76, 0, 0, .null)]
set_option maxRecDepth 20000 in
theorem oX6_mul_76 {ci : Nat} (h : ci = 6 ∨ ci = 3) : vm_okB 6 mX6_mul 76 (bX6_mul_76 ci) = true := by
  rcases h with rfl | rfl
  · decide +kernel
  · decide +kernel
def bX6_mul_122 : List vm_J := [(2, .aload 4, 0, 0, 0, .null), (1, .iconst 0, 0, 0, 0, .int 0), (1, .dup2, 0, 0, 0, .null), (1, .laload, 0, 0, 0, .null), (2, .lload 12, 0, 0, 0, .null), (1, .ladd, 0, 0, 0, .null), (1, .lastore, 0, 0, 0, .null), (3, .iinc 5 1, 0, 0, 0, .int 1), (3, .goto (-119), 15, 0, 0, .null)]
set_option maxRecDepth 20000 in
theorem oX6_mul_122 : vm_okB 6 mX6_mul 122 bX6_mul_122 = true := by decide +kernel
def bX6_mul_137 : List vm_J := [(1, .lconst 0, 0, 0, 0, .long 0), (2, .lstore 5, 0, 0, 0, .null), (1, .iconst 0, 0, 0, 0, .int 0), (2, .istore 7, 0, 0, 0, .null)]
set_option maxRecDepth 20000 in
theorem oX6_mul_137 : vm_okB 6 mX6_mul 137 bX6_mul_137 = true := by decide +kernel
def bX6_mul_143 (ci : Nat) : List vm_J := [(2, .iload 7, 0, 0, 0, .null), (1, .aload_n 0, 0, 0, 0, .null), (3, .getfield 9, ci, 0, 0, .null), (3, .if_icmp .ge 36, 185, 0, 0, .null), (2, .aload 4, 0, 0, 0, .null), (2, .iload 7, 0, 0, 0, .null), (1, .laload, 0, 0, 0, .null), (2, .lload 5, 0, 0, 0, .null), (1, .ladd, 0, 0, 0, .null), (2, .lstore 8, 0, 0, 0, .null), (1, .aload_n 3, 0, 0, 0, .null), (2, .iload 7, 0, 0, 0, .null), (2, .lload 8, 0, 0, 0, .null), (3, .ldc2_w 40, 0, 0, 0, .long (268435455)), (1, .land, 0, 0, 0, .null), (1, .lastore, 0, 0, 0, .null), (2, .lload 8, 0, 0, 0, .null), (2, .bipush 28, 0, 0, 0, .int 28), (1, .lushr, 0, 0, 0, .null), (2, .lstore 5, 0, 0, 0, .null), (3, .iinc 7 1, 0, 0, 0, .int 1), (3, .goto (-39), 143, 0, 0, .null)]
set_option maxRecDepth 20000 in
theorem oX6_mul_143 {ci : Nat} (h : ci = 6 ∨ ci = 3) : vm_okB 6 mX6_mul 143 (bX6_mul_143 ci) = true := by
  rcases h with rfl | rfl
  · decide +kernel
  · decide +kernel
def bX6_mul_185 (ci : Nat) : List vm_J := [(1, .aload_n 0, 0, 0, 0, .null), (1, .aload_n 3, 0, 0, 0, .null), (3, .invokevirtual 84, 56, 1, ci, .null), (1, .return_, 0, 0, 0, .null)]
set_option maxRecDepth 20000 in
theorem oX6_mul_185 {ci : Nat} (h : ci = 6 ∨ ci = 3) : vm_okB 6 mX6_mul 185 (bX6_mul_185 ci) = true := by
  rcases h with rfl | rfl
  · decide +kernel
  · decide +kernel
def bX6_sqr_0 (ci : Nat) : List vm_J := [(1, .aload_n 0, 0, 0, 0, .null), (1, .aload_n 1, 0, 0, 0, .null), (1, .aload_n 1, 0, 0, 0, .null), (1, .aload_n 2, 0, 0, 0, .null), (3, .invokevirtual 72, (if ci = 3 then 29 else 57), 3, ci, .null), (1, .return_, 0, 0, 0, .null)]
set_option maxRecDepth 20000 in
theorem oX6_sqr_0 {ci : Nat} (h : ci = 6 ∨ ci = 3) : vm_okB 6 mX6_sqr 0 (bX6_sqr_0 ci) = true := by
  rcases h with rfl | rfl
  · decide +kernel
  · decide +kernel
def bX6_raise_0 : List vm_J := [(1, .iconst 1, 0, 0, 0, .int 1), (2, .istore 6, 0, 0, 0, .null), (1, .iconst 0, 0, 0, 0, .int 0), (2, .istore 7, 0, 0, 0, .null)]
set_option maxRecDepth 20000 in
theorem oX6_raise_0 : vm_okB 6 mX6_raise 0 bX6_raise_0 = true := by decide +kernel
def bX6_raise_6 : List vm_J := [(2, .iload 7, 0, 0, 0, .null), (1, .iconst 2, 0, 0, 0, .int 2), (2, .iload 4, 0, 0, 0, .null), (1, .imul, 0, 0, 0, .null), (3, .if_icmp .ge 23, 35, 0, 0, .null), (2, .iload 6, 0, 0, 0, .null), (1, .aload_n 2, 0, 0, 0, .null), (1, .iload_n 3, 0, 0, 0, .null), (2, .iload 7, 0, 0, 0, .null), (3, .invokestatic 92, 60, 3, 0, .null), (3, .invokestatic 96, 244, 2, 0, .null), (2, .istore 6, 0, 0, 0, .null), (3, .iinc 7 1, 0, 0, 0, .int 1), (3, .goto (-26), 6, 0, 0, .null)]
set_option maxRecDepth 20000 in
theorem oX6_raise_6 : vm_okB 6 mX6_raise 6 bX6_raise_6 = true := by decide +kernel
def bX6_raise_35 (ci : Nat) : List vm_J := [(1, .aload_n 0, 0, 0, 0, .null), (1, .aload_n 1, 0, 0, 0, .null), (1, .aload_n 0, 0, 0, 0, .null), (3, .getfield 31, ci, 7, 0, .null), (1, .iconst 1, 0, 0, 0, .int 1), (1, .aaload, 0, 0, 0, .null), (3, .invokevirtual 50, 44, 2, ci, .null), (1, .iconst 2, 0, 0, 0, .int 2), (2, .istore 7, 0, 0, 0, .null)]
set_option maxRecDepth 20000 in
theorem oX6_raise_35 {ci : Nat} (h : ci = 6 ∨ ci = 3) : vm_okB 6 mX6_raise 35 (bX6_raise_35 ci) = true := by
  rcases h with rfl | rfl
  · decide +kernel
  · decide +kernel
def bX6_raise_49 (ci : Nat) : List vm_J := [(2, .iload 7, 0, 0, 0, .null), (2, .iload 6, 0, 0, 0, .null), (3, .if_icmp .gt 35, 88, 0, 0, .null), (1, .aload_n 0, 0, 0, 0, .null), (1, .aload_n 0, 0, 0, 0, .null), (3, .getfield 31, ci, 7, 0, .null), (2, .iload 7, 0, 0, 0, .null), (1, .iconst 1, 0, 0, 0, .int 1), (1, .isub, 0, 0, 0, .null), (1, .aaload, 0, 0, 0, .null), (1, .aload_n 0, 0, 0, 0, .null), (3, .getfield 31, ci, 7, 0, .null), (1, .iconst 1, 0, 0, 0, .int 1), (1, .aaload, 0, 0, 0, .null), (1, .aload_n 0, 0, 0, 0, .null), (3, .getfield 31, ci, 7, 0, .null), (2, .iload 7, 0, 0, 0, .null), (1, .aaload, 0, 0, 0, .null), (3, .invokevirtual 72, (if ci = 3 then 29 else 57), 3, ci, .null), (3, .iinc 7 1, 0, 0, 0, .int 1), (3, .goto (-36), 49, 0, 0, .null)]
set_option maxRecDepth 20000 in
theorem oX6_raise_49 {ci : Nat} (h : ci = 6 ∨ ci = 3) : vm_okB 6 mX6_raise 49 (bX6_raise_49 ci) = true := by
  rcases h with rfl | rfl
  · decide +kernel
  · decide +kernel
def bX6_raise_88 (ci : Nat) : List vm_J := [(1, .aload_n 0, 0, 0, 0, .null), (1, .aload_n 0, 0, 0, 0, .null), (3, .getfield 17, ci, 2, 0, .null), (2, .aload 5, 0, 0, 0, .null), (3, .invokevirtual 50, 44, 2, ci, .null), (1, .iconst 0, 0, 0, 0, .int 0), (2, .istore 7, 0, 0, 0, .null), (1, .iconst 0, 0, 0, 0, .int 0), (2, .istore 8, 0, 0, 0, .null)]
set_option maxRecDepth 20000 in
theorem oX6_raise_88 {ci : Nat} (h : ci = 6 ∨ ci = 3) : vm_okB 6 mX6_raise 88 (bX6_raise_88 ci) = true := by
  rcases h with rfl | rfl
  · decide +kernel
  · decide +kernel
def bX6_raise_104 : List vm_J := [(2, .iload 8, 0, 0, 0, .null), (1, .iconst 2, 0, 0, 0, .int 2), (2, .iload 4, 0, 0, 0, .null), (1, .imul, 0, 0, 0, .null), (3, .if_icmp .ge 69, 179, 0, 0, .null), (1, .iconst 0, 0, 0, 0, .int 0), (2, .istore 9, 0, 0, 0, .null)]
set_option maxRecDepth 20000 in
theorem oX6_raise_104 : vm_okB 6 mX6_raise 104 bX6_raise_104 = true := by decide +kernel
def bX6_raise_116 (ci : Nat) : List vm_J := [(2, .iload 7, 0, 0, 0, .null), (3, .ifCond .eq 23, 141, 0, 0, .null), (2, .iload 9, 0, 0, 0, .null), (1, .iconst 4, 0, 0, 0, .int 4), (3, .if_icmp .ge 17, 141, 0, 0, .null), (1, .aload_n 0, 0, 0, 0, .null), (2, .aload 5, 0, 0, 0, .null), (2, .aload 5, 0, 0, 0, .null), (3, .invokevirtual 99, (if ci = 3 then 30 else 58), 2, ci, .null), (3, .iinc 9 1, 0, 0, 0, .int 1), (3, .goto (-22), 116, 0, 0, .null)]
set_option maxRecDepth 20000 in
theorem oX6_raise_116 {ci : Nat} (h : ci = 6 ∨ ci = 3) : vm_okB 6 mX6_raise 116 (bX6_raise_116 ci) = true := by
  rcases h with rfl | rfl
  · decide +kernel
  · decide +kernel
def bX6_raise_141 (ci : Nat) : List vm_J := [(1, .aload_n 2, 0, 0, 0, .null), (1, .iload_n 3, 0, 0, 0, .null), (2, .iload 8, 0, 0, 0, .null), (3, .invokestatic 92, 60, 3, 0, .null), (2, .istore 9, 0, 0, 0, .null), (2, .iload 9, 0, 0, 0, .null), (3, .ifCond .eq 21, 173, 0, 0, .null), (1, .aload_n 0, 0, 0, 0, .null), (2, .aload 5, 0, 0, 0, .null), (1, .aload_n 0, 0, 0, 0, .null), (3, .getfield 31, ci, 7, 0, .null), (2, .iload 9, 0, 0, 0, .null), (1, .aaload, 0, 0, 0, .null), (2, .aload 5, 0, 0, 0, .null), (3, .invokevirtual 72, (if ci = 3 then 29 else 57), 3, ci, .null), (1, .iconst 1, 0, 0, 0, .int 1), (2, .istore 7, 0, 0, 0, .null)]
set_option maxRecDepth 20000 in
theorem oX6_raise_141 {ci : Nat} (h : ci = 6 ∨ ci = 3) : vm_okB 6 mX6_raise 141 (bX6_raise_141 ci) = true := by
  rcases h with rfl | rfl
  · decide +kernel
  · decide +kernel
def bX6_raise_173 : List vm_J := [(3, .iinc 8 1, 0, 0, 0, .int 1), (3, .goto (-72), 104, 0, 0, .null)]
set_option maxRecDepth 20000 in
theorem oX6_raise_173 : vm_okB 6 mX6_raise 173 bX6_raise_173 = true := by decide +kernel
def bX6_raise_179 : List vm_J := [(1, .return_, 0, 0, 0, .null)]
set_option maxRecDepth 20000 in
theorem oX6_raise_179 : vm_okB 6 mX6_raise 179 bX6_raise_179 = true := by decide +kernel
def bX6_digitAt_0 : List vm_J := [(1, .iload_n 2, 0, 0, 0, .null), (1, .iconst 2, 0, 0, 0, .int 2), (1, .irem, 0, 0, 0, .null), (3, .ifCond .ne 15, 18, 0, 0, .null), (1, .aload_n 0, 0, 0, 0, .null), (1, .iload_n 1, 0, 0, 0, .null), (1, .iload_n 2, 0, 0, 0, .null), (1, .iconst 2, 0, 0, 0, .int 2), (1, .idiv, 0, 0, 0, .null), (1, .iadd, 0, 0, 0, .null), (1, .baload, 0, 0, 0, .null), (1, .iconst 4, 0, 0, 0, .int 4), (1, .ishr, 0, 0, 0, .null), (3, .goto 10, 25, 0, 0, .null)]
set_option maxRecDepth 20000 in
theorem oX6_digitAt_0 : vm_okB 6 mX6_digitAt 0 bX6_digitAt_0 = true := by decide +kernel
def bX6_digitAt_18 : List vm_J := [(1, .aload_n 0, 0, 0, 0, .null), (1, .iload_n 1, 0, 0, 0, .null), (1, .iload_n 2, 0, 0, 0, .null), (1, .iconst 2, 0, 0, 0, .int 2), (1, .idiv, 0, 0, 0, .null), (1, .iadd, 0, 0, 0, .null), (1, .baload, 0, 0, 0, .null)]
set_option maxRecDepth 20000 in
theorem oX6_digitAt_18 : vm_okB 6 mX6_digitAt 18 bX6_digitAt_18 = true := by decide +kernel
def bX6_digitAt_25 : List vm_J := [(2, .bipush 15, 0, 0, 0, .int 15), (1, .iand, 0, 0, 0, .null), (1, .ireturn, 0, 0, 0, .null)]
set_option maxRecDepth 20000 in
theorem oX6_digitAt_25 : vm_okB 6 mX6_digitAt 25 bX6_digitAt_25 = true := by decide +kernel
def bX6_invert_0 (ci : Nat) : List vm_J := [(1, .aload_n 0, 0, 0, 0, .null), (3, .getfield 31, ci, 7, 0, .null), (1, .iconst 0, 0, 0, 0, .int 0), (1, .aaload, 0, 0, 0, .null), (1, .astore_n 3, 0, 0, 0, .null), (1, .aload_n 0, 0, 0, 0, .null), (3, .getfield 31, ci, 7, 0, .null), (1, .iconst 1, 0, 0, 0, .int 1), (1, .aaload, 0, 0, 0, .null), (2, .astore 4, 0, 0, 0, .null), (1, .aload_n 0, 0, 0, 0, .null), (3, .getfield 31, ci, 7, 0, .null), (1, .iconst 2, 0, 0, 0, .int 2), (1, .aaload, 0, 0, 0, .null), (2, .astore 5, 0, 0, 0, .null), (1, .aload_n 0, 0, 0, 0, .null), (3, .getfield 31, ci, 7, 0, .null), (1, .iconst 3, 0, 0, 0, .int 3), (1, .aaload, 0, 0, 0, .null), (2, .astore 6, 0, 0, 0, .null), (1, .aload_n 0, 0, 0, 0, .null), (1, .aload_n 1, 0, 0, 0, .null), (1, .aload_n 3, 0, 0, 0, .null), (3, .invokevirtual 50, 44, 2, ci, .null), (1, .aload_n 0, 0, 0, 0, .null), (1, .aload_n 0, 0, 0, 0, .null), (3, .getfield 13, ci, 1, 0, .null), (2, .aload 4, 0, 0, 0, .null), (3, .invokevirtual 50, 44, 2, ci, .null), (1, .aload_n 0, 0, 0, 0, .null), (1, .aload_n 0, 0, 0, 0, .null), (3, .getfield 20, ci, 3, 0, .null), (2, .aload 5, 0, 0, 0, .null), (3, .invokevirtual 50, 44, 2, ci, .null), (2, .aload 6, 0, 0, 0, .null), (1, .lconst 0, 0, 0, 0, .long 0), (3, .invokestatic 54, 256, 2, 0, .null), (1, .iconst 0, 0, 0, 0, .int 0), (2, .istore 7, 0, 0, 0, .null)]
set_option maxRecDepth 20000 in
theorem oX6_invert_0 {ci : Nat} (h : ci = 6 ∨ ci = 3) : vm_okB 6 mX6_invert 0 (bX6_invert_0 ci) = true := by
  rcases h with rfl | rfl
  · decide +kernel
  · decide +kernel
def bX6_invert_66 (ci : Nat) : List vm_J := [(2, .iload 7, 0, 0, 0, .null), (2, .bipush 56, 0, 0, 0, .int 56), (1, .aload_n 0, 0, 0, 0, .null), (3, .getfield 9, ci, 0, 0, .null), (1, .imul, 0, 0, 0, .null), (3, .if_icmp .ge 112, 187, 0, 0, .null), (1, .aload_n 0, 0, 0, 0, .null), (1, .aload_n 3, 0, 0, 0, .null), (3, .invokevirtual 102, 45, 1, ci, .null), (3, .ifCond .ne 104, 187, 0, 0, .null), (1, .aload_n 3, 0, 0, 0, .null), (1, .iconst 0, 0, 0, 0, .int 0), (1, .laload, 0, 0, 0, .null), (1, .lconst 1, 0, 0, 0, .long 1), (1, .land, 0, 0, 0, .null), (1, .lconst 0, 0, 0, 0, .long 0), (1, .lcmp, 0, 0, 0, .null), (3, .ifCond .eq 54, 147, 0, 0, .null), (1, .aload_n 0, 0, 0, 0, .null), (1, .aload_n 3, 0, 0, 0, .null), (2, .aload 4, 0, 0, 0, .null), (3, .invokevirtual 68, 47, 2, ci, .null), (3, .ifCond .eq 25, 128, 0, 0, .null), (1, .aload_n 3, 0, 0, 0, .null), (2, .astore 8, 0, 0, 0, .null), (2, .aload 4, 0, 0, 0, .null), (1, .astore_n 3, 0, 0, 0, .null), (2, .aload 8, 0, 0, 0, .null), (2, .astore 4, 0, 0, 0, .null), (2, .aload 5, 0, 0, 0, .null), (2, .astore 8, 0, 0, 0, .null), (2, .aload 6, 0, 0, 0, .null), (2, .astore 5, 0, 0, 0, .null), (2, .aload 8, 0, 0, 0, .null), (2, .astore 6, 0, 0, 0, .null)]
set_option maxRecDepth 20000 in
theorem oX6_invert_66 {ci : Nat} (h : ci = 6 ∨ ci = 3) : vm_okB 6 mX6_invert 66 (bX6_invert_66 ci) = true := by
  rcases h with rfl | rfl
  · decide +kernel
  · decide +kernel
def bX6_invert_128 (ci : Nat) : List vm_J := [(1, .aload_n 0, 0, 0, 0, .null), (1, .aload_n 3, 0, 0, 0, .null), (2, .aload 4, 0, 0, 0, .null), (1, .aload_n 3, 0, 0, 0, .null), (3, .invokevirtual 88, 55, 3, ci, .null), (1, .pop, 0, 0, 0, .null), (1, .aload_n 0, 0, 0, 0, .null), (2, .aload 5, 0, 0, 0, .null), (2, .aload 6, 0, 0, 0, .null), (2, .aload 5, 0, 0, 0, .null), (3, .invokevirtual 106, 53, 3, ci, .null)]
set_option maxRecDepth 20000 in
theorem oX6_invert_128 {ci : Nat} (h : ci = 6 ∨ ci = 3) : vm_okB 6 mX6_invert 128 (bX6_invert_128 ci) = true := by
  rcases h with rfl | rfl
  · decide +kernel
  · decide +kernel
def bX6_invert_147 (ci : Nat) : List vm_J := [(1, .aload_n 0, 0, 0, 0, .null), (1, .aload_n 3, 0, 0, 0, .null), (3, .invokevirtual 109, 62, 1, ci, .null), (2, .aload 5, 0, 0, 0, .null), (1, .iconst 0, 0, 0, 0, .int 0), (1, .laload, 0, 0, 0, .null), (1, .lconst 1, 0, 0, 0, .long 1), (1, .land, 0, 0, 0, .null), (1, .lconst 0, 0, 0, 0, .long 0), (1, .lcmp, 0, 0, 0, .null), (3, .ifCond .eq 15, 175, 0, 0, .null), (1, .aload_n 0, 0, 0, 0, .null), (2, .aload 5, 0, 0, 0, .null), (1, .aload_n 0, 0, 0, 0, .null), (3, .getfield 13, ci, 1, 0, .null), (2, .aload 5, 0, 0, 0, .null), (3, .invokevirtual 81, 54, 3, ci, .null)]
set_option maxRecDepth 20000 in
theorem oX6_invert_147 {ci : Nat} (h : ci = 6 ∨ ci = 3) : vm_okB 6 mX6_invert 147 (bX6_invert_147 ci) = true := by
  rcases h with rfl | rfl
  · decide +kernel
  · decide +kernel
def bX6_invert_175 (ci : Nat) : List vm_J := [(1, .aload_n 0, 0, 0, 0, .null), (2, .aload 5, 0, 0, 0, .null), (3, .invokevirtual 109, 62, 1, ci, .null), (3, .iinc 7 1, 0, 0, 0, .int 1), (3, .goto (-118), 66, 0, 0, .null)]
set_option maxRecDepth 20000 in
theorem oX6_invert_175 {ci : Nat} (h : ci = 6 ∨ ci = 3) : vm_okB 6 mX6_invert 175 (bX6_invert_175 ci) = true := by
  rcases h with rfl | rfl
  · decide +kernel
  · decide +kernel
def bX6_invert_187 (ci : Nat) : List vm_J := [(1, .aload_n 0, 0, 0, 0, .null), (2, .aload 6, 0, 0, 0, .null), (1, .aload_n 2, 0, 0, 0, .null), (3, .invokevirtual 50, 44, 2, ci, .null), (1, .aload_n 0, 0, 0, 0, .null), (2, .aload 4, 0, 0, 0, .null), (1, .aload_n 0, 0, 0, 0, .null), (3, .getfield 23, ci, 4, 0, .null), (3, .invokevirtual 112, 46, 2, ci, .null), (1, .ireturn, 0, 0, 0, .null)]
set_option maxRecDepth 20000 in
theorem oX6_invert_187 {ci : Nat} (h : ci = 6 ∨ ci = 3) : vm_okB 6 mX6_invert 187 (bX6_invert_187 ci) = true := by
  rcases h with rfl | rfl
  · decide +kernel
  · decide +kernel
def bX6_halve_0 : List vm_J := [(1, .iconst 0, 0, 0, 0, .int 0), (1, .istore_n 2, 0, 0, 0, .null)]
set_option maxRecDepth 20000 in
theorem oX6_halve_0 : vm_okB 6 mX6_halve 0 bX6_halve_0 = true := by decide +kernel
def bX6_halve_2 (ci : Nat) : List vm_J := [(1, .iload_n 2, 0, 0, 0, .null), (1, .aload_n 0, 0, 0, 0, .null), (3, .getfield 9, ci, 0, 0, .null), (1, .iconst 1, 0, 0, 0, .int 1), (1, .isub, 0, 0, 0, .null), (3, .if_icmp .ge 28, 37, 0, 0, .null), (1, .aload_n 1, 0, 0, 0, .null), (1, .iload_n 2, 0, 0, 0, .null), (1, .aload_n 1, 0, 0, 0, .null), (1, .iload_n 2, 0, 0, 0, .null), (1, .laload, 0, 0, 0, .null), (1, .iconst 1, 0, 0, 0, .int 1), (1, .lshr, 0, 0, 0, .null), (1, .aload_n 1, 0, 0, 0, .null), (1, .iload_n 2, 0, 0, 0, .null), (1, .iconst 1, 0, 0, 0, .int 1), (1, .iadd, 0, 0, 0, .null), (1, .laload, 0, 0, 0, .null), (1, .lconst 1, 0, 0, 0, .long 1), (1, .land, 0, 0, 0, .null), (2, .bipush 27, 0, 0, 0, .int 27), (1, .lshl, 0, 0, 0, .null), (1, .lor, 0, 0, 0, .null), (1, .lastore, 0, 0, 0, .null), (3, .iinc 2 1, 0, 0, 0, .int 1), (3, .goto (-32), 2, 0, 0, .null)]
set_option maxRecDepth 20000 in
theorem oX6_halve_2 {ci : Nat} (h : ci = 6 ∨ ci = 3) : vm_okB 6 mX6_halve 2 (bX6_halve_2 ci) = true := by
  rcases h with rfl | rfl
  · decide +kernel
  · decide +kernel
def bX6_halve_37 (ci : Nat) : List vm_J := [(1, .aload_n 1, 0, 0, 0, .null), (1, .aload_n 0, 0, 0, 0, .null), (3, .getfield 9, ci, 0, 0, .null), (1, .iconst 1, 0, 0, 0, .int 1), (1, .isub, 0, 0, 0, .null), (1, .dup2, 0, 0, 0, .null), (1, .laload, 0, 0, 0, .null), (1, .iconst 1, 0, 0, 0, .int 1), (1, .lshr, 0, 0, 0, .null), (1, .lastore, 0, 0, 0, .null), (1, .return_, 0, 0, 0, .null)]
set_option maxRecDepth 20000 in
theorem oX6_halve_37 {ci : Nat} (h : ci = 6 ∨ ci = 3) : vm_okB 6 mX6_halve 37 (bX6_halve_37 ci) = true := by
  rcases h with rfl | rfl
  · decide +kernel
  · decide +kernel
