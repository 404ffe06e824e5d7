/-! code of the reference (written by wip/gen) -/
def bX12_init_0 : List vm_J := [(1, .aload_n 0, 0, 0, 0, .null), (3, .invokespecial 3, 9999, 0, 0, .null), (1, .aload_n 0, 0, 0, 0, .null), (2, .bipush 64, 0, 0, 0, .int 64), (2, .newarray .int, 0, 0, 0, .null), (3, .putfield 9, 12, 0, 4, .null), (1, .aload_n 0, 0, 0, 0, .null), (2, .bipush 64, 0, 0, 0, .int 64), (2, .newarray .int, 0, 0, 0, .null), (3, .putfield 15, 12, 1, 4, .null), (1, .return_, 0, 0, 0, .null)]
set_option maxRecDepth 20000 in
theorem oX12_init_0 : vm_okB 12 mX12_init 0 bX12_init_0 = true := by decide +kernel
def bX12_is_0 : List vm_J := [(1, .aload_n 0, 0, 0, 0, .null), (1, .iload_n 2, 0, 0, 0, .null), (3, .putfield 18, 12, 2, 0, .null), (1, .iconst 0, 0, 0, 0, .int 0), (1, .istore_n 3, 0, 0, 0, .null)]
set_option maxRecDepth 20000 in
theorem oX12_is_0 : vm_okB 12 mX12_is 0 bX12_is_0 = true := by decide +kernel
def bX12_is_7 : List vm_J := [(1, .iload_n 3, 0, 0, 0, .null), (1, .aload_n 0, 0, 0, 0, .null), (3, .getfield 18, 12, 2, 0, .null), (3, .if_icmp .ge 18, 30, 0, 0, .null), (1, .aload_n 0, 0, 0, 0, .null), (3, .getfield 9, 12, 0, 0, .null), (1, .iload_n 3, 0, 0, 0, .null), (1, .aload_n 1, 0, 0, 0, .null), (1, .iload_n 3, 0, 0, 0, .null), (1, .iaload, 0, 0, 0, .null), (1, .iastore, 0, 0, 0, .null), (3, .iinc 3 1, 0, 0, 0, .int 1), (3, .goto (-20), 7, 0, 0, .null)]
set_option maxRecDepth 20000 in
theorem oX12_is_7 : vm_okB 12 mX12_is 7 bX12_is_7 = true := by decide +kernel
def bX12_is_30 : List vm_J := [(1, .aload_n 0, 0, 0, 0, .null), (1, .aload_n 0, 0, 0, 0, .null), (3, .getfield 9, 12, 0, 0, .null), (1, .aload_n 0, 0, 0, 0, .null), (3, .getfield 18, 12, 2, 0, .null), (1, .iconst 1, 0, 0, 0, .int 1), (1, .isub, 0, 0, 0, .null), (1, .iaload, 0, 0, 0, .null), (3, .invokestatic 22, 239, 1, 0, .null), (3, .putfield 28, 12, 3, 0, .null), (1, .aload_n 0, 0, 0, 0, .null), (3, .getfield 18, 12, 2, 0, .null), (1, .iconst 1, 0, 0, 0, .int 1), (1, .isub, 0, 0, 0, .null), (1, .istore_n 3, 0, 0, 0, .null)]
set_option maxRecDepth 20000 in
theorem oX12_is_30 : vm_okB 12 mX12_is 30 bX12_is_30 = true := by decide +kernel
def bX12_is_55 : List vm_J := [(1, .iload_n 3, 0, 0, 0, .null), (3, .ifCond .lt 58, 114, 0, 0, .null), (1, .aload_n 0, 0, 0, 0, .null), (3, .getfield 15, 12, 1, 0, .null), (1, .iload_n 3, 0, 0, 0, .null), (1, .aload_n 0, 0, 0, 0, .null), (3, .getfield 9, 12, 0, 0, .null), (1, .iload_n 3, 0, 0, 0, .null), (1, .iaload, 0, 0, 0, .null), (1, .aload_n 0, 0, 0, 0, .null), (3, .getfield 28, 12, 3, 0, .null), (1, .ishl, 0, 0, 0, .null), (1, .aload_n 0, 0, 0, 0, .null), (3, .getfield 28, 12, 3, 0, .null), (3, .ifCond .le 26, 105, 0, 0, .null), (1, .iload_n 3, 0, 0, 0, .null), (3, .ifCond .le 22, 105, 0, 0, .null), (1, .aload_n 0, 0, 0, 0, .null), (3, .getfield 9, 12, 0, 0, .null), (1, .iload_n 3, 0, 0, 0, .null), (1, .iconst 1, 0, 0, 0, .int 1), (1, .isub, 0, 0, 0, .null), (1, .iaload, 0, 0, 0, .null), (2, .bipush 32, 0, 0, 0, .int 32), (1, .aload_n 0, 0, 0, 0, .null), (3, .getfield 28, 12, 3, 0, .null), (1, .isub, 0, 0, 0, .null), (1, .iushr, 0, 0, 0, .null), (3, .goto 4, 106, 0, 0, .null)]
set_option maxRecDepth 20000 in
theorem oX12_is_55 : vm_okB 12 mX12_is 55 bX12_is_55 = true := by decide +kernel
def bX12_is_105 : List vm_J := [(1, .iconst 0, 0, 0, 0, .int 0)]
set_option maxRecDepth 20000 in
theorem oX12_is_105 : vm_okB 12 mX12_is 105 bX12_is_105 = true := by decide +kernel
def bX12_is_106 : List vm_J := [(1, .ior, 0, 0, 0, .null), (1, .iastore, 0, 0, 0, .null), (3, .iinc 3 (-1), 0, 0, 0, .int (-1)), (3, .goto (-56), 55, 0, 0, .null)]
set_option maxRecDepth 20000 in
theorem oX12_is_106 : vm_okB 12 mX12_is 106 bX12_is_106 = true := by decide +kernel
def bX12_is_114 : List vm_J := [(1, .return_, 0, 0, 0, .null)]
set_option maxRecDepth 20000 in
theorem oX12_is_114 : vm_okB 12 mX12_is 114 bX12_is_114 = true := by decide +kernel
def bX12_bits_0 : List vm_J := [(2, .bipush 32, 0, 0, 0, .int 32), (1, .aload_n 0, 0, 0, 0, .null), (3, .getfield 18, 12, 2, 0, .null), (1, .imul, 0, 0, 0, .null), (1, .aload_n 0, 0, 0, 0, .null), (3, .getfield 28, 12, 3, 0, .null), (1, .isub, 0, 0, 0, .null), (1, .ireturn, 0, 0, 0, .null)]
set_option maxRecDepth 20000 in
theorem oX12_bits_0 : vm_okB 12 mX12_bits 0 bX12_bits_0 = true := by decide +kernel
def bX13_init_0 : List vm_J := [(1, .aload_n 0, 0, 0, 0, .null), (3, .invokespecial 3, 9999, 0, 0, .null), (1, .aload_n 0, 0, 0, 0, .null), (2, .bipush 12, 0, 0, 0, .int 12), (2, .newarray .int, 0, 0, 0, .null), (3, .putfield 9, 13, 0, 4, .null), (1, .aload_n 0, 0, 0, 0, .null), (2, .bipush 12, 0, 0, 0, .int 12), (2, .newarray .int, 0, 0, 0, .null), (3, .putfield 15, 13, 1, 4, .null), (1, .return_, 0, 0, 0, .null)]
set_option maxRecDepth 20000 in
theorem oX13_init_0 : vm_okB 13 mX13_init 0 bX13_init_0 = true := by decide +kernel
def bX13_is_0 : List vm_J := [(1, .aload_n 1, 0, 0, 0, .null), (3, .getfield 9, 13, 0, 0, .null), (1, .aload_n 0, 0, 0, 0, .null), (3, .getfield 9, 13, 0, 0, .null), (2, .bipush 12, 0, 0, 0, .int 12), (3, .invokestatic 18, 141, 3, 0, .null), (1, .aload_n 1, 0, 0, 0, .null), (3, .getfield 15, 13, 1, 0, .null), (1, .aload_n 0, 0, 0, 0, .null), (3, .getfield 15, 13, 1, 0, .null), (2, .bipush 12, 0, 0, 0, .int 12), (3, .invokestatic 18, 141, 3, 0, .null), (1, .aload_n 0, 0, 0, 0, .null), (1, .aload_n 1, 0, 0, 0, .null), (3, .getfield 22, 13, 2, 0, .null), (3, .putfield 22, 13, 2, 2, .null), (1, .return_, 0, 0, 0, .null)]
set_option maxRecDepth 20000 in
theorem oX13_is_0 : vm_okB 13 mX13_is 0 bX13_is_0 = true := by decide +kernel
def bX14_thrown_0 : List vm_J := [(1, .aload_n 0, 0, 0, 0, .null), (3, .getfield 1, 14, 0, 0, .null), (1, .ireturn, 0, 0, 0, .null)]
set_option maxRecDepth 20000 in
theorem oX14_thrown_0 : vm_okB 14 mX14_thrown 0 bX14_thrown_0 = true := by decide +kernel
def bX14_u_0 : List vm_J := [(1, .iload_n 0, 0, 0, 0, .null), (1, .i2l, 0, 0, 0, .null), (3, .ldc2_w 7, 0, 0, 0, .long (4294967295)), (1, .land, 0, 0, 0, .null), (1, .lreturn, 0, 0, 0, .null)]
set_option maxRecDepth 20000 in
theorem oX14_u_0 : vm_okB 14 mX14_u 0 bX14_u_0 = true := by decide +kernel
def bX14_compare_0 : List vm_J := [(1, .iload_n 2, 0, 0, 0, .null), (1, .iconst 1, 0, 0, 0, .int 1), (1, .isub, 0, 0, 0, .null), (1, .istore_n 3, 0, 0, 0, .null)]
set_option maxRecDepth 20000 in
theorem oX14_compare_0 : vm_okB 14 mX14_compare 0 bX14_compare_0 = true := by decide +kernel
def bX14_compare_4 : List vm_J := [(1, .iload_n 3, 0, 0, 0, .null), (3, .ifCond .lt 40, 45, 0, 0, .null), (1, .aload_n 0, 0, 0, 0, .null), (1, .iload_n 3, 0, 0, 0, .null), (1, .iaload, 0, 0, 0, .null), (1, .aload_n 1, 0, 0, 0, .null), (1, .iload_n 3, 0, 0, 0, .null), (1, .iaload, 0, 0, 0, .null), (3, .if_icmp .eq 25, 39, 0, 0, .null), (1, .aload_n 0, 0, 0, 0, .null), (1, .iload_n 3, 0, 0, 0, .null), (1, .iaload, 0, 0, 0, .null), (3, .invokestatic 9, 138, 1, 0, .null), (1, .aload_n 1, 0, 0, 0, .null), (1, .iload_n 3, 0, 0, 0, .null), (1, .iaload, 0, 0, 0, .null), (3, .invokestatic 9, 138, 1, 0, .null), (1, .lcmp, 0, 0, 0, .null), (3, .ifCond .ge 7, 37, 0, 0, .null), (1, .iconst (-1), 0, 0, 0, .int (-1)), (3, .goto 4, 38, 0, 0, .null)]
set_option maxRecDepth 20000 in
theorem oX14_compare_4 : vm_okB 14 mX14_compare 4 bX14_compare_4 = true := by decide +kernel
def bX14_compare_37 : List vm_J := [(1, .iconst 1, 0, 0, 0, .int 1)]
set_option maxRecDepth 20000 in
theorem oX14_compare_37 : vm_okB 14 mX14_compare 37 bX14_compare_37 = true := by decide +kernel
def bX14_compare_38 : List vm_J := [(1, .ireturn, 0, 0, 0, .null)]
set_option maxRecDepth 20000 in
theorem oX14_compare_38 : vm_okB 14 mX14_compare 38 bX14_compare_38 = true := by decide +kernel
def bX14_compare_39 : List vm_J := [(3, .iinc 3 (-1), 0, 0, 0, .int (-1)), (3, .goto (-38), 4, 0, 0, .null)]
set_option maxRecDepth 20000 in
theorem oX14_compare_39 : vm_okB 14 mX14_compare 39 bX14_compare_39 = true := by decide +kernel
def bX14_compare_45 : List vm_J := [(1, .iconst 0, 0, 0, 0, .int 0), (1, .ireturn, 0, 0, 0, .null)]
set_option maxRecDepth 20000 in
theorem oX14_compare_45 : vm_okB 14 mX14_compare 45 bX14_compare_45 = true := by decide +kernel
def bX14_isZero_0 : List vm_J := [(1, .iconst 1, 0, 0, 0, .int 1), (1, .istore_n 2, 0, 0, 0, .null), (1, .iconst 0, 0, 0, 0, .int 0), (1, .istore_n 3, 0, 0, 0, .null)]
set_option maxRecDepth 20000 in
theorem oX14_isZero_0 : vm_okB 14 mX14_isZero 0 bX14_isZero_0 = true := by decide +kernel
def bX14_isZero_4 : List vm_J := [(1, .iload_n 3, 0, 0, 0, .null), (1, .iload_n 1, 0, 0, 0, .null), (3, .if_icmp .ge 25, 31, 0, 0, .null), (1, .iload_n 2, 0, 0, 0, .null), (3, .ifCond .eq 13, 23, 0, 0, .null), (1, .aload_n 0, 0, 0, 0, .null), (1, .iload_n 3, 0, 0, 0, .null), (1, .iaload, 0, 0, 0, .null), (3, .ifCond .ne 7, 23, 0, 0, .null), (1, .iconst 1, 0, 0, 0, .int 1), (3, .goto 4, 24, 0, 0, .null)]
set_option maxRecDepth 20000 in
theorem oX14_isZero_4 : vm_okB 14 mX14_isZero 4 bX14_isZero_4 = true := by decide +kernel
def bX14_isZero_23 : List vm_J := [(1, .iconst 0, 0, 0, 0, .int 0)]
set_option maxRecDepth 20000 in
theorem oX14_isZero_23 : vm_okB 14 mX14_isZero 23 bX14_isZero_23 = true := by decide +kernel
def bX14_isZero_24 : List vm_J := [(1, .istore_n 2, 0, 0, 0, .null), (3, .iinc 3 1, 0, 0, 0, .int 1), (3, .goto (-24), 4, 0, 0, .null)]
set_option maxRecDepth 20000 in
theorem oX14_isZero_24 : vm_okB 14 mX14_isZero 24 bX14_isZero_24 = true := by decide +kernel
def bX14_isZero_31 : List vm_J := [(1, .iload_n 2, 0, 0, 0, .null), (1, .ireturn, 0, 0, 0, .null)]
set_option maxRecDepth 20000 in
theorem oX14_isZero_31 : vm_okB 14 mX14_isZero 31 bX14_isZero_31 = true := by decide +kernel
def bX14_copy_0 : List vm_J := [(1, .iconst 0, 0, 0, 0, .int 0), (1, .istore_n 3, 0, 0, 0, .null)]
set_option maxRecDepth 20000 in
theorem oX14_copy_0 : vm_okB 14 mX14_copy 0 bX14_copy_0 = true := by decide +kernel
def bX14_copy_2 : List vm_J := [(1, .iload_n 3, 0, 0, 0, .null), (1, .iload_n 2, 0, 0, 0, .null), (3, .if_icmp .ge 15, 19, 0, 0, .null), (1, .aload_n 1, 0, 0, 0, .null), (1, .iload_n 3, 0, 0, 0, .null), (1, .aload_n 0, 0, 0, 0, .null), (1, .iload_n 3, 0, 0, 0, .null), (1, .iaload, 0, 0, 0, .null), (1, .iastore, 0, 0, 0, .null), (3, .iinc 3 1, 0, 0, 0, .int 1), (3, .goto (-14), 2, 0, 0, .null)]
set_option maxRecDepth 20000 in
theorem oX14_copy_2 : vm_okB 14 mX14_copy 2 bX14_copy_2 = true := by decide +kernel
def bX14_copy_19 : List vm_J := [(1, .return_, 0, 0, 0, .null)]
set_option maxRecDepth 20000 in
theorem oX14_copy_19 : vm_okB 14 mX14_copy 19 bX14_copy_19 = true := by decide +kernel
def bX14_small_0 : List vm_J := [(1, .iconst 1, 0, 0, 0, .int 1), (1, .istore_n 3, 0, 0, 0, .null)]
set_option maxRecDepth 20000 in
theorem oX14_small_0 : vm_okB 14 mX14_small 0 bX14_small_0 = true := by decide +kernel
def bX14_small_2 : List vm_J := [(1, .iload_n 3, 0, 0, 0, .null), (1, .iload_n 2, 0, 0, 0, .null), (3, .if_icmp .ge 13, 17, 0, 0, .null), (1, .aload_n 1, 0, 0, 0, .null), (1, .iload_n 3, 0, 0, 0, .null), (1, .iconst 0, 0, 0, 0, .int 0), (1, .iastore, 0, 0, 0, .null), (3, .iinc 3 1, 0, 0, 0, .int 1), (3, .goto (-12), 2, 0, 0, .null)]
set_option maxRecDepth 20000 in
theorem oX14_small_2 : vm_okB 14 mX14_small 2 bX14_small_2 = true := by decide +kernel
def bX14_small_17 : List vm_J := [(1, .aload_n 1, 0, 0, 0, .null), (1, .iconst 0, 0, 0, 0, .int 0), (1, .iload_n 0, 0, 0, 0, .null), (1, .iastore, 0, 0, 0, .null), (1, .return_, 0, 0, 0, .null)]
set_option maxRecDepth 20000 in
theorem oX14_small_17 : vm_okB 14 mX14_small 17 bX14_small_17 = true := by decide +kernel
def bX14_plus_0 : List vm_J := [(1, .lconst 0, 0, 0, 0, .long 0), (2, .lstore 4, 0, 0, 0, .null), (1, .iconst 0, 0, 0, 0, .int 0), (2, .istore 6, 0, 0, 0, .null)]
set_option maxRecDepth 20000 in
theorem oX14_plus_0 : vm_okB 14 mX14_plus 0 bX14_plus_0 = true := by decide +kernel
def bX14_plus_6 : List vm_J := [(2, .iload 6, 0, 0, 0, .null), (1, .iload_n 3, 0, 0, 0, .null), (3, .if_icmp .ge 43, 52, 0, 0, .null), (2, .lload 4, 0, 0, 0, .null), (1, .aload_n 0, 0, 0, 0, .null), (2, .iload 6, 0, 0, 0, .null), (1, .iaload, 0, 0, 0, .null), (3, .invokestatic 9, 138, 1, 0, .null), (1, .aload_n 1, 0, 0, 0, .null), (2, .iload 6, 0, 0, 0, .null), (1, .iaload, 0, 0, 0, .null), (3, .invokestatic 9, 138, 1, 0, .null), (1, .ladd, 0, 0, 0, .null), (1, .ladd, 0, 0, 0, .null), (2, .lstore 4, 0, 0, 0, .null), (1, .aload_n 2, 0, 0, 0, .null), (2, .iload 6, 0, 0, 0, .null), (2, .lload 4, 0, 0, 0, .null), (1, .l2i, 0, 0, 0, .null), (1, .iastore, 0, 0, 0, .null), (2, .lload 4, 0, 0, 0, .null), (2, .bipush 32, 0, 0, 0, .int 32), (1, .lushr, 0, 0, 0, .null), (2, .lstore 4, 0, 0, 0, .null), (3, .iinc 6 1, 0, 0, 0, .int 1), (3, .goto (-43), 6, 0, 0, .null)]
set_option maxRecDepth 20000 in
theorem oX14_plus_6 : vm_okB 14 mX14_plus 6 bX14_plus_6 = true := by decide +kernel
def bX14_plus_52 : List vm_J := [(2, .lload 4, 0, 0, 0, .null), (1, .l2i, 0, 0, 0, .null), (1, .ireturn, 0, 0, 0, .null)]
set_option maxRecDepth 20000 in
theorem oX14_plus_52 : vm_okB 14 mX14_plus 52 bX14_plus_52 = true := by decide +kernel
def bX14_minus_0 : List vm_J := [(1, .lconst 0, 0, 0, 0, .long 0), (2, .lstore 4, 0, 0, 0, .null), (1, .iconst 0, 0, 0, 0, .int 0), (2, .istore 6, 0, 0, 0, .null)]
set_option maxRecDepth 20000 in
theorem oX14_minus_0 : vm_okB 14 mX14_minus 0 bX14_minus_0 = true := by decide +kernel
def bX14_minus_6 : List vm_J := [(2, .iload 6, 0, 0, 0, .null), (1, .iload_n 3, 0, 0, 0, .null), (3, .if_icmp .ge 43, 52, 0, 0, .null), (2, .lload 4, 0, 0, 0, .null), (1, .aload_n 0, 0, 0, 0, .null), (2, .iload 6, 0, 0, 0, .null), (1, .iaload, 0, 0, 0, .null), (3, .invokestatic 9, 138, 1, 0, .null), (1, .aload_n 1, 0, 0, 0, .null), (2, .iload 6, 0, 0, 0, .null), (1, .iaload, 0, 0, 0, .null), (3, .invokestatic 9, 138, 1, 0, .null), (1, .lsub, 0, 0, 0, .null), (1, .ladd, 0, 0, 0, .null), (2, .lstore 4, 0, 0, 0, .null), (1, .aload_n 2, 0, 0, 0, .null), (2, .iload 6, 0, 0, 0, .null), (2, .lload 4, 0, 0, 0, .null), (1, .l2i, 0, 0, 0, .null), (1, .iastore, 0, 0, 0, .null), (2, .lload 4, 0, 0, 0, .null), (2, .bipush 32, 0, 0, 0, .int 32), (1, .lshr, 0, 0, 0, .null), (2, .lstore 4, 0, 0, 0, .null), (3, .iinc 6 1, 0, 0, 0, .int 1), (3, .goto (-43), 6, 0, 0, .null)]
set_option maxRecDepth 20000 in
theorem oX14_minus_6 : vm_okB 14 mX14_minus 6 bX14_minus_6 = true := by decide +kernel
def bX14_minus_52 : List vm_J := [(2, .lload 4, 0, 0, 0, .null), (1, .l2i, 0, 0, 0, .null), (1, .ireturn, 0, 0, 0, .null)]
set_option maxRecDepth 20000 in
theorem oX14_minus_52 : vm_okB 14 mX14_minus 52 bX14_minus_52 = true := by decide +kernel
def bX14_add_0 : List vm_J := [(1, .aload_n 1, 0, 0, 0, .null), (1, .aload_n 2, 0, 0, 0, .null), (1, .aload_n 3, 0, 0, 0, .null), (1, .aload_n 0, 0, 0, 0, .null), (3, .getfield 13, 12, 2, 0, .null), (3, .invokestatic 18, 143, 4, 0, .null), (2, .istore 4, 0, 0, 0, .null), (2, .iload 4, 0, 0, 0, .null), (3, .ifCond .ne 18, 32, 0, 0, .null), (1, .aload_n 3, 0, 0, 0, .null), (1, .aload_n 0, 0, 0, 0, .null), (3, .getfield 22, 12, 0, 0, .null), (1, .aload_n 0, 0, 0, 0, .null), (3, .getfield 13, 12, 2, 0, .null), (3, .invokestatic 26, 139, 3, 0, .null), (3, .ifCond .lt 18, 47, 0, 0, .null)]
set_option maxRecDepth 20000 in
theorem oX14_add_0 : vm_okB 14 mX14_add 0 bX14_add_0 = true := by decide +kernel
def bX14_add_32 : List vm_J := [(1, .aload_n 3, 0, 0, 0, .null), (1, .aload_n 0, 0, 0, 0, .null), (3, .getfield 22, 12, 0, 0, .null), (1, .aload_n 3, 0, 0, 0, .null), (1, .aload_n 0, 0, 0, 0, .null), (3, .getfield 13, 12, 2, 0, .null), (3, .invokestatic 30, 144, 4, 0, .null), (2, .istore 4, 0, 0, 0, .null)]
set_option maxRecDepth 20000 in
theorem oX14_add_32 : vm_okB 14 mX14_add 32 bX14_add_32 = true := by decide +kernel
def bX14_add_47 : List vm_J := [(1, .return_, 0, 0, 0, .null)]
set_option maxRecDepth 20000 in
theorem oX14_add_47 : vm_okB 14 mX14_add 47 bX14_add_47 = true := by decide +kernel
def bX14_sub_0 : List vm_J := [(1, .aload_n 1, 0, 0, 0, .null), (1, .aload_n 2, 0, 0, 0, .null), (1, .aload_n 3, 0, 0, 0, .null), (1, .aload_n 0, 0, 0, 0, .null), (3, .getfield 13, 12, 2, 0, .null), (3, .invokestatic 30, 144, 4, 0, .null), (3, .ifCond .eq 18, 28, 0, 0, .null), (1, .aload_n 3, 0, 0, 0, .null), (1, .aload_n 0, 0, 0, 0, .null), (3, .getfield 22, 12, 0, 0, .null), (1, .aload_n 3, 0, 0, 0, .null), (1, .aload_n 0, 0, 0, 0, .null), (3, .getfield 13, 12, 2, 0, .null), (3, .invokestatic 18, 143, 4, 0, .null), (2, .istore 4, 0, 0, 0, .null)]
set_option maxRecDepth 20000 in
theorem oX14_sub_0 : vm_okB 14 mX14_sub 0 bX14_sub_0 = true := by decide +kernel
def bX14_sub_28 : List vm_J := [(1, .return_, 0, 0, 0, .null)]
set_option maxRecDepth 20000 in
theorem oX14_sub_28 : vm_okB 14 mX14_sub 28 bX14_sub_28 = true := by decide +kernel
def bX14_rest_0 : List vm_J := [(1, .aload_n 1, 0, 0, 0, .null), (3, .getfield 13, 12, 2, 0, .null), (2, .istore 4, 0, 0, 0, .null), (1, .aload_n 1, 0, 0, 0, .null), (3, .getfield 33, 12, 3, 0, .null), (2, .istore 5, 0, 0, 0, .null), (1, .aload_n 0, 0, 0, 0, .null), (3, .getfield 36, 14, 1, 0, .null), (1, .iload_n 2, 0, 0, 0, .null), (2, .iload 5, 0, 0, 0, .null), (3, .ifCond .le 20, 39, 0, 0, .null), (1, .aload_n 0, 0, 0, 0, .null), (3, .getfield 36, 14, 1, 0, .null), (1, .iload_n 2, 0, 0, 0, .null), (1, .iconst 1, 0, 0, 0, .int 1), (1, .isub, 0, 0, 0, .null), (1, .iaload, 0, 0, 0, .null), (2, .bipush 32, 0, 0, 0, .int 32), (2, .iload 5, 0, 0, 0, .null), (1, .isub, 0, 0, 0, .null), (1, .iushr, 0, 0, 0, .null), (3, .goto 4, 40, 0, 0, .null)]
set_option maxRecDepth 20000 in
theorem oX14_rest_0 : vm_okB 14 mX14_rest 0 bX14_rest_0 = true := by decide +kernel
def bX14_rest_39 : List vm_J := [(1, .iconst 0, 0, 0, 0, .int 0)]
set_option maxRecDepth 20000 in
theorem oX14_rest_39 : vm_okB 14 mX14_rest 39 bX14_rest_39 = true := by decide +kernel
def bX14_rest_40 : List vm_J := [(1, .iastore, 0, 0, 0, .null), (1, .iload_n 2, 0, 0, 0, .null), (1, .iconst 1, 0, 0, 0, .int 1), (1, .isub, 0, 0, 0, .null), (2, .istore 6, 0, 0, 0, .null)]
set_option maxRecDepth 20000 in
theorem oX14_rest_40 : vm_okB 14 mX14_rest 40 bX14_rest_40 = true := by decide +kernel
def bX14_rest_46 : List vm_J := [(2, .iload 6, 0, 0, 0, .null), (3, .ifCond .lt 56, 104, 0, 0, .null), (1, .aload_n 0, 0, 0, 0, .null), (3, .getfield 36, 14, 1, 0, .null), (2, .iload 6, 0, 0, 0, .null), (1, .aload_n 0, 0, 0, 0, .null), (3, .getfield 36, 14, 1, 0, .null), (2, .iload 6, 0, 0, 0, .null), (1, .iaload, 0, 0, 0, .null), (2, .iload 5, 0, 0, 0, .null), (1, .ishl, 0, 0, 0, .null), (2, .iload 5, 0, 0, 0, .null), (3, .ifCond .le 26, 95, 0, 0, .null), (2, .iload 6, 0, 0, 0, .null), (3, .ifCond .le 21, 95, 0, 0, .null), (1, .aload_n 0, 0, 0, 0, .null), (3, .getfield 36, 14, 1, 0, .null), (2, .iload 6, 0, 0, 0, .null), (1, .iconst 1, 0, 0, 0, .int 1), (1, .isub, 0, 0, 0, .null), (1, .iaload, 0, 0, 0, .null), (2, .bipush 32, 0, 0, 0, .int 32), (2, .iload 5, 0, 0, 0, .null), (1, .isub, 0, 0, 0, .null), (1, .iushr, 0, 0, 0, .null), (3, .goto 4, 96, 0, 0, .null)]
set_option maxRecDepth 20000 in
theorem oX14_rest_46 : vm_okB 14 mX14_rest 46 bX14_rest_46 = true := by decide +kernel
def bX14_rest_95 : List vm_J := [(1, .iconst 0, 0, 0, 0, .int 0)]
set_option maxRecDepth 20000 in
theorem oX14_rest_95 : vm_okB 14 mX14_rest 95 bX14_rest_95 = true := by decide +kernel
def bX14_rest_96 : List vm_J := [(1, .ior, 0, 0, 0, .null), (1, .iastore, 0, 0, 0, .null), (3, .iinc 6 (-1), 0, 0, 0, .int (-1)), (3, .goto (-55), 46, 0, 0, .null)]
set_option maxRecDepth 20000 in
theorem oX14_rest_96 : vm_okB 14 mX14_rest 96 bX14_rest_96 = true := by decide +kernel
def bX14_rest_104 : List vm_J := [(1, .aload_n 1, 0, 0, 0, .null), (3, .getfield 39, 12, 1, 0, .null), (2, .iload 4, 0, 0, 0, .null), (1, .iconst 1, 0, 0, 0, .int 1), (1, .isub, 0, 0, 0, .null), (1, .iaload, 0, 0, 0, .null), (3, .invokestatic 9, 138, 1, 0, .null), (2, .lstore 6, 0, 0, 0, .null), (1, .iload_n 2, 0, 0, 0, .null), (2, .iload 4, 0, 0, 0, .null), (1, .isub, 0, 0, 0, .null), (2, .istore 8, 0, 0, 0, .null)]
set_option maxRecDepth 20000 in
theorem oX14_rest_104 : vm_okB 14 mX14_rest 104 bX14_rest_104 = true := by decide +kernel
def bX14_rest_124 : List vm_J := [(2, .iload 8, 0, 0, 0, .null), (3, .ifCond .lt 184, 310, 0, 0, .null), (1, .aload_n 0, 0, 0, 0, .null), (3, .getfield 36, 14, 1, 0, .null), (2, .iload 8, 0, 0, 0, .null), (2, .iload 4, 0, 0, 0, .null), (1, .iadd, 0, 0, 0, .null), (1, .iaload, 0, 0, 0, .null), (3, .invokestatic 9, 138, 1, 0, .null), (2, .lload 6, 0, 0, 0, .null), (1, .lcmp, 0, 0, 0, .null), (3, .ifCond .ne 31, 176, 0, 0, .null), (3, .ldc2_w 7, 0, 0, 0, .long (4294967295)), (2, .lstore 9, 0, 0, 0, .null), (1, .aload_n 0, 0, 0, 0, .null), (3, .getfield 36, 14, 1, 0, .null), (2, .iload 8, 0, 0, 0, .null), (2, .iload 4, 0, 0, 0, .null), (1, .iadd, 0, 0, 0, .null), (1, .iconst 1, 0, 0, 0, .int 1), (1, .isub, 0, 0, 0, .null), (1, .iaload, 0, 0, 0, .null), (3, .invokestatic 9, 138, 1, 0, .null), (2, .lload 6, 0, 0, 0, .null), (1, .ladd, 0, 0, 0, .null), (2, .lstore 11, 0, 0, 0, .null), (3, .goto 55, 228, 0, 0, .null)]
set_option maxRecDepth 20000 in
theorem oX14_rest_124 : vm_okB 14 mX14_rest 124 bX14_rest_124 = true := by decide +kernel
def bX14_rest_176 : List vm_J := [(1, .aload_n 0, 0, 0, 0, .null), (3, .getfield 36, 14, 1, 0, .null), (2, .iload 8, 0, 0, 0, .null), (2, .iload 4, 0, 0, 0, .null), (1, .iadd, 0, 0, 0, .null), (1, .iaload, 0, 0, 0, .null), (3, .invokestatic 9, 138, 1, 0, .null), (2, .bipush 32, 0, 0, 0, .int 32), (1, .lshl, 0, 0, 0, .null), (1, .aload_n 0, 0, 0, 0, .null), (3, .getfield 36, 14, 1, 0, .null), (2, .iload 8, 0, 0, 0, .null), (2, .iload 4, 0, 0, 0, .null), (1, .iadd, 0, 0, 0, .null), (1, .iconst 1, 0, 0, 0, .int 1), (1, .isub, 0, 0, 0, .null), (1, .iaload, 0, 0, 0, .null), (3, .invokestatic 9, 138, 1, 0, .null), (1, .lor, 0, 0, 0, .null), (2, .lstore 13, 0, 0, 0, .null), (2, .lload 13, 0, 0, 0, .null), (2, .lload 6, 0, 0, 0, .null), (3, .invokestatic 42, 242, 2, 0, .null), (2, .lstore 9, 0, 0, 0, .null), (2, .lload 13, 0, 0, 0, .null), (2, .lload 6, 0, 0, 0, .null), (3, .invokestatic 48, 243, 2, 0, .null), (2, .lstore 11, 0, 0, 0, .null)]
set_option maxRecDepth 20000 in
theorem oX14_rest_176 : vm_okB 14 mX14_rest 176 bX14_rest_176 = true := by decide +kernel
def bX14_rest_228 : List vm_J := [(2, .lload 11, 0, 0, 0, .null), (3, .ldc2_w 51, 0, 0, 0, .long (4294967296)), (1, .lcmp, 0, 0, 0, .null), (3, .ifCond .ge 61, 295, 0, 0, .null), (2, .lload 9, 0, 0, 0, .null), (1, .aload_n 1, 0, 0, 0, .null), (3, .getfield 39, 12, 1, 0, .null), (2, .iload 4, 0, 0, 0, .null), (1, .iconst 2, 0, 0, 0, .int 2), (1, .isub, 0, 0, 0, .null), (1, .iaload, 0, 0, 0, .null), (3, .invokestatic 9, 138, 1, 0, .null), (1, .lmul, 0, 0, 0, .null), (2, .lload 11, 0, 0, 0, .null), (2, .bipush 32, 0, 0, 0, .int 32), (1, .lshl, 0, 0, 0, .null), (1, .aload_n 0, 0, 0, 0, .null), (3, .getfield 36, 14, 1, 0, .null), (2, .iload 8, 0, 0, 0, .null), (2, .iload 4, 0, 0, 0, .null), (1, .iadd, 0, 0, 0, .null), (1, .iconst 2, 0, 0, 0, .int 2), (1, .isub, 0, 0, 0, .null), (1, .iaload, 0, 0, 0, .null), (3, .invokestatic 9, 138, 1, 0, .null), (1, .lor, 0, 0, 0, .null), (3, .invokestatic 53, 241, 2, 0, .null), (3, .ifCond .le 19, 295, 0, 0, .null), (2, .lload 9, 0, 0, 0, .null), (1, .lconst 1, 0, 0, 0, .long 1), (1, .lsub, 0, 0, 0, .null), (2, .lstore 9, 0, 0, 0, .null), (2, .lload 11, 0, 0, 0, .null), (2, .lload 6, 0, 0, 0, .null), (1, .ladd, 0, 0, 0, .null), (2, .lstore 11, 0, 0, 0, .null), (3, .goto (-64), 228, 0, 0, .null)]
set_option maxRecDepth 20000 in
theorem oX14_rest_228 : vm_okB 14 mX14_rest 228 bX14_rest_228 = true := by decide +kernel
def bX14_rest_295 : List vm_J := [(1, .aload_n 0, 0, 0, 0, .null), (1, .aload_n 1, 0, 0, 0, .null), (2, .iload 8, 0, 0, 0, .null), (2, .lload 9, 0, 0, 0, .null), (3, .invokevirtual 57, 148, 3, 14, .null), (3, .iinc 8 (-1), 0, 0, 0, .int (-1)), (3, .goto (-183), 124, 0, 0, .null)]
set_option maxRecDepth 20000 in
theorem oX14_rest_295 : vm_okB 14 mX14_rest 295 bX14_rest_295 = true := by decide +kernel
def bX14_rest_310 : List vm_J := [(1, .iconst 0, 0, 0, 0, .int 0), (2, .istore 8, 0, 0, 0, .null)]
set_option maxRecDepth 20000 in
theorem oX14_rest_310 : vm_okB 14 mX14_rest 310 bX14_rest_310 = true := by decide +kernel
def bX14_rest_313 : List vm_J := [(2, .iload 8, 0, 0, 0, .null), (2, .iload 4, 0, 0, 0, .null), (3, .if_icmp .ge 48, 365, 0, 0, .null), (1, .aload_n 3, 0, 0, 0, .null), (2, .iload 8, 0, 0, 0, .null), (1, .aload_n 0, 0, 0, 0, .null), (3, .getfield 36, 14, 1, 0, .null), (2, .iload 8, 0, 0, 0, .null), (1, .iaload, 0, 0, 0, .null), (2, .iload 5, 0, 0, 0, .null), (1, .iushr, 0, 0, 0, .null), (2, .iload 5, 0, 0, 0, .null), (3, .ifCond .le 21, 356, 0, 0, .null), (1, .aload_n 0, 0, 0, 0, .null), (3, .getfield 36, 14, 1, 0, .null), (2, .iload 8, 0, 0, 0, .null), (1, .iconst 1, 0, 0, 0, .int 1), (1, .iadd, 0, 0, 0, .null), (1, .iaload, 0, 0, 0, .null), (2, .bipush 32, 0, 0, 0, .int 32), (2, .iload 5, 0, 0, 0, .null), (1, .isub, 0, 0, 0, .null), (1, .ishl, 0, 0, 0, .null), (3, .goto 4, 357, 0, 0, .null)]
set_option maxRecDepth 20000 in
theorem oX14_rest_313 : vm_okB 14 mX14_rest 313 bX14_rest_313 = true := by decide +kernel
def bX14_rest_356 : List vm_J := [(1, .iconst 0, 0, 0, 0, .int 0)]
set_option maxRecDepth 20000 in
theorem oX14_rest_356 : vm_okB 14 mX14_rest 356 bX14_rest_356 = true := by decide +kernel
def bX14_rest_357 : List vm_J := [(1, .ior, 0, 0, 0, .null), (1, .iastore, 0, 0, 0, .null), (3, .iinc 8 1, 0, 0, 0, .int 1), (3, .goto (-49), 313, 0, 0, .null)]
set_option maxRecDepth 20000 in
theorem oX14_rest_357 : vm_okB 14 mX14_rest 357 bX14_rest_357 = true := by decide +kernel
def bX14_rest_365 : List vm_J := [(1, .return_, 0, 0, 0, .null)]
set_option maxRecDepth 20000 in
theorem oX14_rest_365 : vm_okB 14 mX14_rest 365 bX14_rest_365 = true := by decide +kernel
def bX14_takes_0 : List vm_J := [(1, .lconst 0, 0, 0, 0, .long 0), (2, .lstore 5, 0, 0, 0, .null), (1, .lconst 0, 0, 0, 0, .long 0), (2, .lstore 7, 0, 0, 0, .null), (1, .iconst 0, 0, 0, 0, .int 0), (2, .istore 9, 0, 0, 0, .null)]
set_option maxRecDepth 20000 in
theorem oX14_takes_0 : vm_okB 14 mX14_takes 0 bX14_takes_0 = true := by decide +kernel
def bX14_takes_9 : List vm_J := [(2, .iload 9, 0, 0, 0, .null), (1, .aload_n 1, 0, 0, 0, .null), (3, .getfield 13, 12, 2, 0, .null), (3, .if_icmp .ge 76, 91, 0, 0, .null), (2, .lload 5, 0, 0, 0, .null), (1, .lload_n 3, 0, 0, 0, .null), (1, .aload_n 1, 0, 0, 0, .null), (3, .getfield 39, 12, 1, 0, .null), (2, .iload 9, 0, 0, 0, .null), (1, .iaload, 0, 0, 0, .null), (3, .invokestatic 9, 138, 1, 0, .null), (1, .lmul, 0, 0, 0, .null), (1, .ladd, 0, 0, 0, .null), (2, .lstore 5, 0, 0, 0, .null), (2, .lload 7, 0, 0, 0, .null), (1, .aload_n 0, 0, 0, 0, .null), (3, .getfield 36, 14, 1, 0, .null), (1, .iload_n 2, 0, 0, 0, .null), (2, .iload 9, 0, 0, 0, .null), (1, .iadd, 0, 0, 0, .null), (1, .iaload, 0, 0, 0, .null), (3, .invokestatic 9, 138, 1, 0, .null), (2, .lload 5, 0, 0, 0, .null), (3, .ldc2_w 7, 0, 0, 0, .long (4294967295)), (1, .land, 0, 0, 0, .null), (1, .lsub, 0, 0, 0, .null), (1, .ladd, 0, 0, 0, .null), (2, .lstore 7, 0, 0, 0, .null), (1, .aload_n 0, 0, 0, 0, .null), (3, .getfield 36, 14, 1, 0, .null), (1, .iload_n 2, 0, 0, 0, .null), (2, .iload 9, 0, 0, 0, .null), (1, .iadd, 0, 0, 0, .null), (2, .lload 7, 0, 0, 0, .null), (1, .l2i, 0, 0, 0, .null), (1, .iastore, 0, 0, 0, .null), (2, .lload 5, 0, 0, 0, .null), (2, .bipush 32, 0, 0, 0, .int 32), (1, .lushr, 0, 0, 0, .null), (2, .lstore 5, 0, 0, 0, .null), (2, .lload 7, 0, 0, 0, .null), (2, .bipush 32, 0, 0, 0, .int 32), (1, .lshr, 0, 0, 0, .null), (2, .lstore 7, 0, 0, 0, .null), (3, .iinc 9 1, 0, 0, 0, .int 1), (3, .goto (-79), 9, 0, 0, .null)]
set_option maxRecDepth 20000 in
theorem oX14_takes_9 : vm_okB 14 mX14_takes 9 bX14_takes_9 = true := by decide +kernel
def bX14_takes_91 : List vm_J := [(2, .lload 7, 0, 0, 0, .null), (1, .aload_n 0, 0, 0, 0, .null), (3, .getfield 36, 14, 1, 0, .null), (1, .iload_n 2, 0, 0, 0, .null), (1, .aload_n 1, 0, 0, 0, .null), (3, .getfield 13, 12, 2, 0, .null), (1, .iadd, 0, 0, 0, .null), (1, .iaload, 0, 0, 0, .null), (3, .invokestatic 9, 138, 1, 0, .null), (2, .lload 5, 0, 0, 0, .null), (1, .lsub, 0, 0, 0, .null), (1, .ladd, 0, 0, 0, .null), (2, .lstore 7, 0, 0, 0, .null), (1, .aload_n 0, 0, 0, 0, .null), (3, .getfield 36, 14, 1, 0, .null), (1, .iload_n 2, 0, 0, 0, .null), (1, .aload_n 1, 0, 0, 0, .null), (3, .getfield 13, 12, 2, 0, .null), (1, .iadd, 0, 0, 0, .null), (2, .lload 7, 0, 0, 0, .null), (1, .l2i, 0, 0, 0, .null), (1, .iastore, 0, 0, 0, .null), (2, .lload 7, 0, 0, 0, .null), (2, .bipush 32, 0, 0, 0, .int 32), (1, .lshr, 0, 0, 0, .null), (1, .lconst 0, 0, 0, 0, .long 0), (1, .lcmp, 0, 0, 0, .null), (3, .ifCond .ne 4, 138, 0, 0, .null), (1, .return_, 0, 0, 0, .null)]
set_option maxRecDepth 20000 in
theorem oX14_takes_91 : vm_okB 14 mX14_takes 91 bX14_takes_91 = true := by decide +kernel
def bX14_takes_138 : List vm_J := [(1, .lconst 0, 0, 0, 0, .long 0), (2, .lstore 7, 0, 0, 0, .null), (1, .iconst 0, 0, 0, 0, .int 0), (2, .istore 9, 0, 0, 0, .null)]
set_option maxRecDepth 20000 in
theorem oX14_takes_138 : vm_okB 14 mX14_takes 138 bX14_takes_138 = true := by decide +kernel
def bX14_takes_144 : List vm_J := [(2, .iload 9, 0, 0, 0, .null), (1, .aload_n 1, 0, 0, 0, .null), (3, .getfield 13, 12, 2, 0, .null), (3, .if_icmp .ge 56, 206, 0, 0, .null), (2, .lload 7, 0, 0, 0, .null), (1, .aload_n 0, 0, 0, 0, .null), (3, .getfield 36, 14, 1, 0, .null), (1, .iload_n 2, 0, 0, 0, .null), (2, .iload 9, 0, 0, 0, .null), (1, .iadd, 0, 0, 0, .null), (1, .iaload, 0, 0, 0, .null), (3, .invokestatic 9, 138, 1, 0, .null), (1, .aload_n 1, 0, 0, 0, .null), (3, .getfield 39, 12, 1, 0, .null), (2, .iload 9, 0, 0, 0, .null), (1, .iaload, 0, 0, 0, .null), (3, .invokestatic 9, 138, 1, 0, .null), (1, .ladd, 0, 0, 0, .null), (1, .ladd, 0, 0, 0, .null), (2, .lstore 7, 0, 0, 0, .null), (1, .aload_n 0, 0, 0, 0, .null), (3, .getfield 36, 14, 1, 0, .null), (1, .iload_n 2, 0, 0, 0, .null), (2, .iload 9, 0, 0, 0, .null), (1, .iadd, 0, 0, 0, .null), (2, .lload 7, 0, 0, 0, .null), (1, .l2i, 0, 0, 0, .null), (1, .iastore, 0, 0, 0, .null), (2, .lload 7, 0, 0, 0, .null), (2, .bipush 32, 0, 0, 0, .int 32), (1, .lushr, 0, 0, 0, .null), (2, .lstore 7, 0, 0, 0, .null), (3, .iinc 9 1, 0, 0, 0, .int 1), (3, .goto (-59), 144, 0, 0, .null)]
set_option maxRecDepth 20000 in
theorem oX14_takes_144 : vm_okB 14 mX14_takes 144 bX14_takes_144 = true := by decide +kernel
def bX14_takes_206 : List vm_J := [(1, .aload_n 0, 0, 0, 0, .null), (3, .getfield 36, 14, 1, 0, .null), (1, .iload_n 2, 0, 0, 0, .null), (1, .aload_n 1, 0, 0, 0, .null), (3, .getfield 13, 12, 2, 0, .null), (1, .iadd, 0, 0, 0, .null), (1, .dup2, 0, 0, 0, .null), (1, .iaload, 0, 0, 0, .null), (2, .lload 7, 0, 0, 0, .null), (1, .l2i, 0, 0, 0, .null), (1, .iadd, 0, 0, 0, .null), (1, .iastore, 0, 0, 0, .null), (1, .return_, 0, 0, 0, .null)]
set_option maxRecDepth 20000 in
theorem oX14_takes_206 : vm_okB 14 mX14_takes 206 bX14_takes_206 = true := by decide +kernel
def bX14_times_0 : List vm_J := [(1, .aload_n 1, 0, 0, 0, .null), (3, .getfield 13, 12, 2, 0, .null), (2, .istore 5, 0, 0, 0, .null), (1, .iconst 0, 0, 0, 0, .int 0), (2, .istore 6, 0, 0, 0, .null)]
set_option maxRecDepth 20000 in
theorem oX14_times_0 : vm_okB 14 mX14_times 0 bX14_times_0 = true := by decide +kernel
def bX14_times_9 : List vm_J := [(2, .iload 6, 0, 0, 0, .null), (1, .iconst 2, 0, 0, 0, .int 2), (2, .iload 5, 0, 0, 0, .null), (1, .imul, 0, 0, 0, .null), (3, .if_icmp .ge 17, 32, 0, 0, .null), (1, .aload_n 0, 0, 0, 0, .null), (3, .getfield 36, 14, 1, 0, .null), (2, .iload 6, 0, 0, 0, .null), (1, .iconst 0, 0, 0, 0, .int 0), (1, .iastore, 0, 0, 0, .null), (3, .iinc 6 1, 0, 0, 0, .int 1), (3, .goto (-20), 9, 0, 0, .null)]
set_option maxRecDepth 20000 in
theorem oX14_times_9 : vm_okB 14 mX14_times 9 bX14_times_9 = true := by decide +kernel
def bX14_times_32 : List vm_J := [(1, .iconst 0, 0, 0, 0, .int 0), (2, .istore 6, 0, 0, 0, .null)]
set_option maxRecDepth 20000 in
theorem oX14_times_32 : vm_okB 14 mX14_times 32 bX14_times_32 = true := by decide +kernel
def bX14_times_35 : List vm_J := [(2, .iload 6, 0, 0, 0, .null), (2, .iload 5, 0, 0, 0, .null), (3, .if_icmp .ge 95, 134, 0, 0, .null), (1, .lconst 0, 0, 0, 0, .long 0), (2, .lstore 7, 0, 0, 0, .null), (1, .iconst 0, 0, 0, 0, .int 0), (2, .istore 9, 0, 0, 0, .null)]
set_option maxRecDepth 20000 in
theorem oX14_times_35 : vm_okB 14 mX14_times 35 bX14_times_35 = true := by decide +kernel
def bX14_times_48 : List vm_J := [(2, .iload 9, 0, 0, 0, .null), (2, .iload 5, 0, 0, 0, .null), (3, .if_icmp .ge 63, 115, 0, 0, .null), (2, .lload 7, 0, 0, 0, .null), (1, .aload_n 2, 0, 0, 0, .null), (2, .iload 6, 0, 0, 0, .null), (1, .iaload, 0, 0, 0, .null), (3, .invokestatic 9, 138, 1, 0, .null), (1, .aload_n 3, 0, 0, 0, .null), (2, .iload 9, 0, 0, 0, .null), (1, .iaload, 0, 0, 0, .null), (3, .invokestatic 9, 138, 1, 0, .null), (1, .lmul, 0, 0, 0, .null), (1, .aload_n 0, 0, 0, 0, .null), (3, .getfield 36, 14, 1, 0, .null), (2, .iload 6, 0, 0, 0, .null), (2, .iload 9, 0, 0, 0, .null), (1, .iadd, 0, 0, 0, .null), (1, .iaload, 0, 0, 0, .null), (3, .invokestatic 9, 138, 1, 0, .null), (1, .ladd, 0, 0, 0, .null), (1, .ladd, 0, 0, 0, .null), (2, .lstore 7, 0, 0, 0, .null), (1, .aload_n 0, 0, 0, 0, .null), (3, .getfield 36, 14, 1, 0, .null), (2, .iload 6, 0, 0, 0, .null), (2, .iload 9, 0, 0, 0, .null), (1, .iadd, 0, 0, 0, .null), (2, .lload 7, 0, 0, 0, .null), (1, .l2i, 0, 0, 0, .null), (1, .iastore, 0, 0, 0, .null), (2, .lload 7, 0, 0, 0, .null), (2, .bipush 32, 0, 0, 0, .int 32), (1, .lushr, 0, 0, 0, .null), (2, .lstore 7, 0, 0, 0, .null), (3, .iinc 9 1, 0, 0, 0, .int 1), (3, .goto (-64), 48, 0, 0, .null)]
set_option maxRecDepth 20000 in
theorem oX14_times_48 : vm_okB 14 mX14_times 48 bX14_times_48 = true := by decide +kernel
def bX14_times_115 : List vm_J := [(1, .aload_n 0, 0, 0, 0, .null), (3, .getfield 36, 14, 1, 0, .null), (2, .iload 6, 0, 0, 0, .null), (2, .iload 5, 0, 0, 0, .null), (1, .iadd, 0, 0, 0, .null), (2, .lload 7, 0, 0, 0, .null), (1, .l2i, 0, 0, 0, .null), (1, .iastore, 0, 0, 0, .null), (3, .iinc 6 1, 0, 0, 0, .int 1), (3, .goto (-96), 35, 0, 0, .null)]
set_option maxRecDepth 20000 in
theorem oX14_times_115 : vm_okB 14 mX14_times 115 bX14_times_115 = true := by decide +kernel
def bX14_times_134 : List vm_J := [(1, .aload_n 0, 0, 0, 0, .null), (1, .aload_n 1, 0, 0, 0, .null), (1, .iconst 2, 0, 0, 0, .int 2), (2, .iload 5, 0, 0, 0, .null), (1, .imul, 0, 0, 0, .null), (2, .aload 4, 0, 0, 0, .null), (3, .invokevirtual 61, 147, 3, 14, .null), (1, .return_, 0, 0, 0, .null)]
set_option maxRecDepth 20000 in
theorem oX14_times_134 : vm_okB 14 mX14_times 134 bX14_times_134 = true := by decide +kernel
def bX14_power_0 : List vm_J := [(1, .aload_n 2, 0, 0, 0, .null), (1, .aload_n 0, 0, 0, 0, .null), (3, .getfield 65, 14, 2, 0, .null), (1, .aload_n 1, 0, 0, 0, .null), (3, .getfield 13, 12, 2, 0, .null), (3, .invokestatic 68, 141, 3, 0, .null), (1, .iconst 1, 0, 0, 0, .int 1), (1, .aload_n 0, 0, 0, 0, .null), (3, .getfield 72, 14, 3, 0, .null), (1, .aload_n 1, 0, 0, 0, .null), (3, .getfield 13, 12, 2, 0, .null), (3, .invokestatic 75, 142, 3, 0, .null), (2, .iload 4, 0, 0, 0, .null), (1, .iconst 1, 0, 0, 0, .int 1), (1, .isub, 0, 0, 0, .null), (2, .istore 6, 0, 0, 0, .null)]
set_option maxRecDepth 20000 in
theorem oX14_power_0 : vm_okB 14 mX14_power 0 bX14_power_0 = true := by decide +kernel
def bX14_power_30 : List vm_J := [(2, .iload 6, 0, 0, 0, .null), (3, .ifCond .lt 62, 94, 0, 0, .null), (1, .aload_n 0, 0, 0, 0, .null), (1, .aload_n 1, 0, 0, 0, .null), (1, .aload_n 0, 0, 0, 0, .null), (3, .getfield 72, 14, 3, 0, .null), (1, .aload_n 0, 0, 0, 0, .null), (3, .getfield 72, 14, 3, 0, .null), (1, .aload_n 0, 0, 0, 0, .null), (3, .getfield 72, 14, 3, 0, .null), (3, .invokevirtual 79, 149, 4, 14, .null), (1, .aload_n 3, 0, 0, 0, .null), (2, .iload 6, 0, 0, 0, .null), (2, .bipush 32, 0, 0, 0, .int 32), (1, .idiv, 0, 0, 0, .null), (1, .iaload, 0, 0, 0, .null), (2, .iload 6, 0, 0, 0, .null), (2, .bipush 32, 0, 0, 0, .int 32), (1, .irem, 0, 0, 0, .null), (1, .iushr, 0, 0, 0, .null), (1, .iconst 1, 0, 0, 0, .int 1), (1, .iand, 0, 0, 0, .null), (1, .iconst 1, 0, 0, 0, .int 1), (3, .if_icmp .ne 20, 88, 0, 0, .null), (1, .aload_n 0, 0, 0, 0, .null), (1, .aload_n 1, 0, 0, 0, .null), (1, .aload_n 0, 0, 0, 0, .null), (3, .getfield 72, 14, 3, 0, .null), (1, .aload_n 0, 0, 0, 0, .null), (3, .getfield 65, 14, 2, 0, .null), (1, .aload_n 0, 0, 0, 0, .null), (3, .getfield 72, 14, 3, 0, .null), (3, .invokevirtual 79, 149, 4, 14, .null)]
set_option maxRecDepth 20000 in
theorem oX14_power_30 : vm_okB 14 mX14_power 30 bX14_power_30 = true := by decide +kernel
def bX14_power_88 : List vm_J := [(3, .iinc 6 (-1), 0, 0, 0, .int (-1)), (3, .goto (-61), 30, 0, 0, .null)]
set_option maxRecDepth 20000 in
theorem oX14_power_88 : vm_okB 14 mX14_power 88 bX14_power_88 = true := by decide +kernel
def bX14_power_94 : List vm_J := [(1, .aload_n 0, 0, 0, 0, .null), (3, .getfield 72, 14, 3, 0, .null), (2, .aload 5, 0, 0, 0, .null), (1, .aload_n 1, 0, 0, 0, .null), (3, .getfield 13, 12, 2, 0, .null), (3, .invokestatic 68, 141, 3, 0, .null), (1, .return_, 0, 0, 0, .null)]
set_option maxRecDepth 20000 in
theorem oX14_power_94 : vm_okB 14 mX14_power 94 bX14_power_94 = true := by decide +kernel
def bX14_half_0 : List vm_J := [(1, .iconst 0, 0, 0, 0, .int 0), (1, .istore_n 3, 0, 0, 0, .null)]
set_option maxRecDepth 20000 in
theorem oX14_half_0 : vm_okB 14 mX14_half 0 bX14_half_0 = true := by decide +kernel
def bX14_half_2 : List vm_J := [(1, .iload_n 3, 0, 0, 0, .null), (1, .iload_n 1, 0, 0, 0, .null), (3, .if_icmp .ge 37, 41, 0, 0, .null), (1, .aload_n 0, 0, 0, 0, .null), (1, .iload_n 3, 0, 0, 0, .null), (1, .aload_n 0, 0, 0, 0, .null), (1, .iload_n 3, 0, 0, 0, .null), (1, .iaload, 0, 0, 0, .null), (1, .iconst 1, 0, 0, 0, .int 1), (1, .iushr, 0, 0, 0, .null), (1, .iload_n 3, 0, 0, 0, .null), (1, .iconst 1, 0, 0, 0, .int 1), (1, .iadd, 0, 0, 0, .null), (1, .iload_n 1, 0, 0, 0, .null), (3, .if_icmp .ge 11, 29, 0, 0, .null), (1, .aload_n 0, 0, 0, 0, .null), (1, .iload_n 3, 0, 0, 0, .null), (1, .iconst 1, 0, 0, 0, .int 1), (1, .iadd, 0, 0, 0, .null), (1, .iaload, 0, 0, 0, .null), (3, .goto 4, 30, 0, 0, .null)]
set_option maxRecDepth 20000 in
theorem oX14_half_2 : vm_okB 14 mX14_half 2 bX14_half_2 = true := by decide +kernel
def bX14_half_29 : List vm_J := [(1, .iload_n 2, 0, 0, 0, .null)]
set_option maxRecDepth 20000 in
theorem oX14_half_29 : vm_okB 14 mX14_half 29 bX14_half_29 = true := by decide +kernel
def bX14_half_30 : List vm_J := [(2, .bipush 31, 0, 0, 0, .int 31), (1, .ishl, 0, 0, 0, .null), (1, .ior, 0, 0, 0, .null), (1, .iastore, 0, 0, 0, .null), (3, .iinc 3 1, 0, 0, 0, .int 1), (3, .goto (-36), 2, 0, 0, .null)]
set_option maxRecDepth 20000 in
theorem oX14_half_30 : vm_okB 14 mX14_half 30 bX14_half_30 = true := by decide +kernel
def bX14_half_41 : List vm_J := [(1, .return_, 0, 0, 0, .null)]
set_option maxRecDepth 20000 in
theorem oX14_half_41 : vm_okB 14 mX14_half 41 bX14_half_41 = true := by decide +kernel
def bX14_halves_0 : List vm_J := [(1, .iconst 0, 0, 0, 0, .int 0), (1, .istore_n 2, 0, 0, 0, .null), (1, .aload_n 1, 0, 0, 0, .null), (1, .iconst 0, 0, 0, 0, .int 0), (1, .iaload, 0, 0, 0, .null), (1, .iconst 1, 0, 0, 0, .int 1), (1, .iand, 0, 0, 0, .null), (1, .iconst 1, 0, 0, 0, .int 1), (3, .if_icmp .ne 17, 25, 0, 0, .null), (1, .aload_n 1, 0, 0, 0, .null), (1, .aload_n 0, 0, 0, 0, .null), (3, .getfield 22, 12, 0, 0, .null), (1, .aload_n 1, 0, 0, 0, .null), (1, .aload_n 0, 0, 0, 0, .null), (3, .getfield 13, 12, 2, 0, .null), (3, .invokestatic 18, 143, 4, 0, .null), (1, .istore_n 2, 0, 0, 0, .null)]
set_option maxRecDepth 20000 in
theorem oX14_halves_0 : vm_okB 14 mX14_halves 0 bX14_halves_0 = true := by decide +kernel
def bX14_halves_25 : List vm_J := [(1, .aload_n 1, 0, 0, 0, .null), (1, .aload_n 0, 0, 0, 0, .null), (3, .getfield 13, 12, 2, 0, .null), (1, .iload_n 2, 0, 0, 0, .null), (3, .invokestatic 83, 151, 3, 0, .null), (1, .return_, 0, 0, 0, .null)]
set_option maxRecDepth 20000 in
theorem oX14_halves_25 : vm_okB 14 mX14_halves 25 bX14_halves_25 = true := by decide +kernel
def bX14_swap_0 : List vm_J := [(1, .iconst 0, 0, 0, 0, .int 0), (1, .istore_n 3, 0, 0, 0, .null)]
set_option maxRecDepth 20000 in
theorem oX14_swap_0 : vm_okB 14 mX14_swap 0 bX14_swap_0 = true := by decide +kernel
def bX14_swap_2 : List vm_J := [(1, .iload_n 3, 0, 0, 0, .null), (1, .iload_n 2, 0, 0, 0, .null), (3, .if_icmp .ge 25, 29, 0, 0, .null), (1, .aload_n 0, 0, 0, 0, .null), (1, .iload_n 3, 0, 0, 0, .null), (1, .iaload, 0, 0, 0, .null), (2, .istore 4, 0, 0, 0, .null), (1, .aload_n 0, 0, 0, 0, .null), (1, .iload_n 3, 0, 0, 0, .null), (1, .aload_n 1, 0, 0, 0, .null), (1, .iload_n 3, 0, 0, 0, .null), (1, .iaload, 0, 0, 0, .null), (1, .iastore, 0, 0, 0, .null), (1, .aload_n 1, 0, 0, 0, .null), (1, .iload_n 3, 0, 0, 0, .null), (2, .iload 4, 0, 0, 0, .null), (1, .iastore, 0, 0, 0, .null), (3, .iinc 3 1, 0, 0, 0, .int 1), (3, .goto (-24), 2, 0, 0, .null)]
set_option maxRecDepth 20000 in
theorem oX14_swap_2 : vm_okB 14 mX14_swap 2 bX14_swap_2 = true := by decide +kernel
def bX14_swap_29 : List vm_J := [(1, .return_, 0, 0, 0, .null)]
set_option maxRecDepth 20000 in
theorem oX14_swap_29 : vm_okB 14 mX14_swap 29 bX14_swap_29 = true := by decide +kernel
def bX14_inverse_0 : List vm_J := [(1, .aload_n 1, 0, 0, 0, .null), (3, .getfield 13, 12, 2, 0, .null), (2, .istore 4, 0, 0, 0, .null), (1, .aload_n 2, 0, 0, 0, .null), (1, .aload_n 0, 0, 0, 0, .null), (3, .getfield 87, 14, 4, 0, .null), (2, .iload 4, 0, 0, 0, .null), (3, .invokestatic 68, 141, 3, 0, .null), (1, .aload_n 1, 0, 0, 0, .null), (3, .getfield 22, 12, 0, 0, .null), (1, .aload_n 0, 0, 0, 0, .null), (3, .getfield 90, 14, 5, 0, .null), (2, .iload 4, 0, 0, 0, .null), (3, .invokestatic 68, 141, 3, 0, .null), (1, .iconst 1, 0, 0, 0, .int 1), (1, .aload_n 0, 0, 0, 0, .null), (3, .getfield 93, 14, 6, 0, .null), (2, .iload 4, 0, 0, 0, .null), (3, .invokestatic 75, 142, 3, 0, .null), (1, .iconst 0, 0, 0, 0, .int 0), (1, .aload_n 0, 0, 0, 0, .null), (3, .getfield 96, 14, 7, 0, .null), (2, .iload 4, 0, 0, 0, .null), (3, .invokestatic 75, 142, 3, 0, .null)]
set_option maxRecDepth 20000 in
theorem oX14_inverse_0 : vm_okB 14 mX14_inverse 0 bX14_inverse_0 = true := by decide +kernel
def bX14_inverse_49 : List vm_J := [(1, .aload_n 0, 0, 0, 0, .null), (3, .getfield 87, 14, 4, 0, .null), (2, .iload 4, 0, 0, 0, .null), (3, .invokestatic 99, 140, 2, 0, .null), (3, .ifCond .ne 118, 176, 0, 0, .null), (1, .aload_n 0, 0, 0, 0, .null), (3, .getfield 87, 14, 4, 0, .null), (1, .iconst 0, 0, 0, 0, .int 0), (1, .iaload, 0, 0, 0, .null), (1, .iconst 1, 0, 0, 0, .int 1), (1, .iand, 0, 0, 0, .null), (3, .ifCond .ne 24, 93, 0, 0, .null), (1, .aload_n 0, 0, 0, 0, .null), (3, .getfield 87, 14, 4, 0, .null), (2, .iload 4, 0, 0, 0, .null), (1, .iconst 0, 0, 0, 0, .int 0), (3, .invokestatic 83, 151, 3, 0, .null), (1, .aload_n 1, 0, 0, 0, .null), (1, .aload_n 0, 0, 0, 0, .null), (3, .getfield 93, 14, 6, 0, .null), (3, .invokestatic 103, 152, 2, 0, .null), (3, .goto (-41), 49, 0, 0, .null)]
set_option maxRecDepth 20000 in
theorem oX14_inverse_49 : vm_okB 14 mX14_inverse 49 bX14_inverse_49 = true := by decide +kernel
def bX14_inverse_93 : List vm_J := [(1, .aload_n 0, 0, 0, 0, .null), (3, .getfield 87, 14, 4, 0, .null), (1, .aload_n 0, 0, 0, 0, .null), (3, .getfield 90, 14, 5, 0, .null), (2, .iload 4, 0, 0, 0, .null), (3, .invokestatic 26, 139, 3, 0, .null), (3, .ifCond .lt 41, 147, 0, 0, .null), (1, .aload_n 0, 0, 0, 0, .null), (3, .getfield 87, 14, 4, 0, .null), (1, .aload_n 0, 0, 0, 0, .null), (3, .getfield 90, 14, 5, 0, .null), (1, .aload_n 0, 0, 0, 0, .null), (3, .getfield 87, 14, 4, 0, .null), (2, .iload 4, 0, 0, 0, .null), (3, .invokestatic 30, 144, 4, 0, .null), (2, .istore 5, 0, 0, 0, .null), (1, .aload_n 1, 0, 0, 0, .null), (1, .aload_n 0, 0, 0, 0, .null), (3, .getfield 93, 14, 6, 0, .null), (1, .aload_n 0, 0, 0, 0, .null), (3, .getfield 96, 14, 7, 0, .null), (1, .aload_n 0, 0, 0, 0, .null), (3, .getfield 93, 14, 6, 0, .null), (3, .invokestatic 107, 146, 4, 0, .null), (3, .goto (-95), 49, 0, 0, .null)]
set_option maxRecDepth 20000 in
theorem oX14_inverse_93 : vm_okB 14 mX14_inverse 93 bX14_inverse_93 = true := by decide +kernel
def bX14_inverse_147 : List vm_J := [(1, .aload_n 0, 0, 0, 0, .null), (3, .getfield 87, 14, 4, 0, .null), (1, .aload_n 0, 0, 0, 0, .null), (3, .getfield 90, 14, 5, 0, .null), (2, .iload 4, 0, 0, 0, .null), (3, .invokestatic 110, 153, 3, 0, .null), (1, .aload_n 0, 0, 0, 0, .null), (3, .getfield 93, 14, 6, 0, .null), (1, .aload_n 0, 0, 0, 0, .null), (3, .getfield 96, 14, 7, 0, .null), (2, .iload 4, 0, 0, 0, .null), (3, .invokestatic 110, 153, 3, 0, .null), (3, .goto (-124), 49, 0, 0, .null)]
set_option maxRecDepth 20000 in
theorem oX14_inverse_147 : vm_okB 14 mX14_inverse 147 bX14_inverse_147 = true := by decide +kernel
def bX14_inverse_176 : List vm_J := [(1, .aload_n 0, 0, 0, 0, .null), (3, .getfield 90, 14, 5, 0, .null), (1, .iconst 0, 0, 0, 0, .int 0), (1, .iaload, 0, 0, 0, .null), (1, .iconst 1, 0, 0, 0, .int 1), (3, .if_icmp .ne 7, 190, 0, 0, .null), (1, .iconst 1, 0, 0, 0, .int 1), (3, .goto 4, 191, 0, 0, .null)]
set_option maxRecDepth 20000 in
theorem oX14_inverse_176 : vm_okB 14 mX14_inverse 176 bX14_inverse_176 = true := by decide +kernel
def bX14_inverse_190 : List vm_J := [(1, .iconst 0, 0, 0, 0, .int 0)]
set_option maxRecDepth 20000 in
theorem oX14_inverse_190 : vm_okB 14 mX14_inverse 190 bX14_inverse_190 = true := by decide +kernel
def bX14_inverse_191 : List vm_J := [(2, .istore 5, 0, 0, 0, .null), (1, .iconst 1, 0, 0, 0, .int 1), (2, .istore 6, 0, 0, 0, .null)]
set_option maxRecDepth 20000 in
theorem oX14_inverse_191 : vm_okB 14 mX14_inverse 191 bX14_inverse_191 = true := by decide +kernel
def bX14_inverse_196 : List vm_J := [(2, .iload 6, 0, 0, 0, .null), (2, .iload 4, 0, 0, 0, .null), (3, .if_icmp .ge 31, 231, 0, 0, .null), (2, .iload 5, 0, 0, 0, .null), (3, .ifCond .eq 17, 222, 0, 0, .null), (1, .aload_n 0, 0, 0, 0, .null), (3, .getfield 90, 14, 5, 0, .null), (2, .iload 6, 0, 0, 0, .null), (1, .iaload, 0, 0, 0, .null), (3, .ifCond .ne 7, 222, 0, 0, .null), (1, .iconst 1, 0, 0, 0, .int 1), (3, .goto 4, 223, 0, 0, .null)]
set_option maxRecDepth 20000 in
theorem oX14_inverse_196 : vm_okB 14 mX14_inverse 196 bX14_inverse_196 = true := by decide +kernel
def bX14_inverse_222 : List vm_J := [(1, .iconst 0, 0, 0, 0, .int 0)]
set_option maxRecDepth 20000 in
theorem oX14_inverse_222 : vm_okB 14 mX14_inverse 222 bX14_inverse_222 = true := by decide +kernel
def bX14_inverse_223 : List vm_J := [(2, .istore 5, 0, 0, 0, .null), (3, .iinc 6 1, 0, 0, 0, .int 1), (3, .goto (-32), 196, 0, 0, .null)]
set_option maxRecDepth 20000 in
theorem oX14_inverse_223 : vm_okB 14 mX14_inverse 223 bX14_inverse_223 = true := by decide +kernel
def bX14_inverse_231 : List vm_J := [(1, .aload_n 0, 0, 0, 0, .null), (3, .getfield 96, 14, 7, 0, .null), (1, .aload_n 3, 0, 0, 0, .null), (2, .iload 4, 0, 0, 0, .null), (3, .invokestatic 68, 141, 3, 0, .null), (2, .iload 5, 0, 0, 0, .null), (1, .ireturn, 0, 0, 0, .null)]
set_option maxRecDepth 20000 in
theorem oX14_inverse_231 : vm_okB 14 mX14_inverse 231 bX14_inverse_231 = true := by decide +kernel
def bX14_load_0 : List vm_J := [(1, .iconst 0, 0, 0, 0, .int 0), (2, .istore 5, 0, 0, 0, .null)]
set_option maxRecDepth 20000 in
theorem oX14_load_0 : vm_okB 14 mX14_load 0 bX14_load_0 = true := by decide +kernel
def bX14_load_3 : List vm_J := [(2, .iload 5, 0, 0, 0, .null), (2, .iload 4, 0, 0, 0, .null), (3, .if_icmp .ge 14, 21, 0, 0, .null), (1, .aload_n 3, 0, 0, 0, .null), (2, .iload 5, 0, 0, 0, .null), (1, .iconst 0, 0, 0, 0, .int 0), (1, .iastore, 0, 0, 0, .null), (3, .iinc 5 1, 0, 0, 0, .int 1), (3, .goto (-15), 3, 0, 0, .null)]
set_option maxRecDepth 20000 in
theorem oX14_load_3 : vm_okB 14 mX14_load 3 bX14_load_3 = true := by decide +kernel
def bX14_load_21 : List vm_J := [(1, .iconst 0, 0, 0, 0, .int 0), (2, .istore 5, 0, 0, 0, .null)]
set_option maxRecDepth 20000 in
theorem oX14_load_21 : vm_okB 14 mX14_load 21 bX14_load_21 = true := by decide +kernel
def bX14_load_24 : List vm_J := [(2, .iload 5, 0, 0, 0, .null), (1, .iload_n 2, 0, 0, 0, .null), (3, .if_icmp .ge 40, 67, 0, 0, .null), (1, .aload_n 3, 0, 0, 0, .null), (2, .iload 5, 0, 0, 0, .null), (1, .iconst 4, 0, 0, 0, .int 4), (1, .idiv, 0, 0, 0, .null), (1, .dup2, 0, 0, 0, .null), (1, .iaload, 0, 0, 0, .null), (1, .aload_n 0, 0, 0, 0, .null), (1, .iload_n 1, 0, 0, 0, .null), (1, .iload_n 2, 0, 0, 0, .null), (1, .iadd, 0, 0, 0, .null), (1, .iconst 1, 0, 0, 0, .int 1), (1, .isub, 0, 0, 0, .null), (2, .iload 5, 0, 0, 0, .null), (1, .isub, 0, 0, 0, .null), (1, .baload, 0, 0, 0, .null), (3, .sipush 255, 0, 0, 0, .int 255), (1, .iand, 0, 0, 0, .null), (2, .bipush 8, 0, 0, 0, .int 8), (2, .iload 5, 0, 0, 0, .null), (1, .iconst 4, 0, 0, 0, .int 4), (1, .irem, 0, 0, 0, .null), (1, .imul, 0, 0, 0, .null), (1, .ishl, 0, 0, 0, .null), (1, .ior, 0, 0, 0, .null), (1, .iastore, 0, 0, 0, .null), (3, .iinc 5 1, 0, 0, 0, .int 1), (3, .goto (-40), 24, 0, 0, .null)]
set_option maxRecDepth 20000 in
theorem oX14_load_24 : vm_okB 14 mX14_load 24 bX14_load_24 = true := by decide +kernel
def bX14_load_67 : List vm_J := [(1, .return_, 0, 0, 0, .null)]
set_option maxRecDepth 20000 in
theorem oX14_load_67 : vm_okB 14 mX14_load 67 bX14_load_67 = true := by decide +kernel
def bX14_store_0 : List vm_J := [(1, .iconst 0, 0, 0, 0, .int 0), (2, .istore 4, 0, 0, 0, .null)]
set_option maxRecDepth 20000 in
theorem oX14_store_0 : vm_okB 14 mX14_store 0 bX14_store_0 = true := by decide +kernel
def bX14_store_3 : List vm_J := [(2, .iload 4, 0, 0, 0, .null), (1, .iload_n 3, 0, 0, 0, .null), (3, .if_icmp .ge 34, 40, 0, 0, .null), (1, .aload_n 1, 0, 0, 0, .null), (1, .iload_n 2, 0, 0, 0, .null), (1, .iload_n 3, 0, 0, 0, .null), (1, .iadd, 0, 0, 0, .null), (1, .iconst 1, 0, 0, 0, .int 1), (1, .isub, 0, 0, 0, .null), (2, .iload 4, 0, 0, 0, .null), (1, .isub, 0, 0, 0, .null), (1, .aload_n 0, 0, 0, 0, .null), (2, .iload 4, 0, 0, 0, .null), (1, .iconst 4, 0, 0, 0, .int 4), (1, .idiv, 0, 0, 0, .null), (1, .iaload, 0, 0, 0, .null), (2, .bipush 8, 0, 0, 0, .int 8), (2, .iload 4, 0, 0, 0, .null), (1, .iconst 4, 0, 0, 0, .int 4), (1, .irem, 0, 0, 0, .null), (1, .imul, 0, 0, 0, .null), (1, .iushr, 0, 0, 0, .null), (1, .i2b, 0, 0, 0, .null), (1, .bastore, 0, 0, 0, .null), (3, .iinc 4 1, 0, 0, 0, .int 1), (3, .goto (-34), 3, 0, 0, .null)]
set_option maxRecDepth 20000 in
theorem oX14_store_3 : vm_okB 14 mX14_store 3 bX14_store_3 = true := by decide +kernel
def bX14_store_40 : List vm_J := [(1, .return_, 0, 0, 0, .null)]
set_option maxRecDepth 20000 in
theorem oX14_store_40 : vm_okB 14 mX14_store 40 bX14_store_40 = true := by decide +kernel
def bX14_join_0 : List vm_J := [(1, .aload_n 1, 0, 0, 0, .null), (3, .getfield 113, 13, 2, 0, .null), (3, .ifCond .eq 9, 13, 0, 0, .null), (1, .aload_n 3, 0, 0, 0, .null), (1, .aload_n 2, 0, 0, 0, .null), (3, .invokevirtual 119, 136, 1, 13, .null), (1, .return_, 0, 0, 0, .null)]
set_option maxRecDepth 20000 in
theorem oX14_join_0 : vm_okB 14 mX14_join 0 bX14_join_0 = true := by decide +kernel
def bX14_join_13 : List vm_J := [(1, .aload_n 2, 0, 0, 0, .null), (3, .getfield 113, 13, 2, 0, .null), (3, .ifCond .eq 9, 26, 0, 0, .null), (1, .aload_n 3, 0, 0, 0, .null), (1, .aload_n 1, 0, 0, 0, .null), (3, .invokevirtual 119, 136, 1, 13, .null), (1, .return_, 0, 0, 0, .null)]
set_option maxRecDepth 20000 in
theorem oX14_join_13 : vm_okB 14 mX14_join 13 bX14_join_13 = true := by decide +kernel
def bX14_join_26 : List vm_J := [(1, .aload_n 1, 0, 0, 0, .null), (3, .getfield 123, 13, 0, 0, .null), (1, .aload_n 2, 0, 0, 0, .null), (3, .getfield 123, 13, 0, 0, .null), (2, .bipush 12, 0, 0, 0, .int 12), (3, .invokestatic 26, 139, 3, 0, .null), (3, .ifCond .ne 7, 46, 0, 0, .null), (1, .iconst 1, 0, 0, 0, .int 1), (3, .goto 4, 47, 0, 0, .null)]
set_option maxRecDepth 20000 in
theorem oX14_join_26 : vm_okB 14 mX14_join 26 bX14_join_26 = true := by decide +kernel
def bX14_join_46 : List vm_J := [(1, .iconst 0, 0, 0, 0, .int 0)]
set_option maxRecDepth 20000 in
theorem oX14_join_46 : vm_okB 14 mX14_join 46 bX14_join_46 = true := by decide +kernel
def bX14_join_47 : List vm_J := [(2, .istore 4, 0, 0, 0, .null), (1, .aload_n 0, 0, 0, 0, .null), (3, .getfield 126, 14, 8, 0, .null), (1, .aload_n 1, 0, 0, 0, .null), (3, .getfield 130, 13, 1, 0, .null), (1, .aload_n 2, 0, 0, 0, .null), (3, .getfield 130, 13, 1, 0, .null), (1, .aload_n 0, 0, 0, 0, .null), (3, .getfield 133, 14, 14, 0, .null), (3, .invokestatic 136, 145, 4, 0, .null), (2, .iload 4, 0, 0, 0, .null), (3, .ifCond .eq 21, 91, 0, 0, .null), (1, .aload_n 0, 0, 0, 0, .null), (3, .getfield 133, 14, 14, 0, .null), (2, .bipush 12, 0, 0, 0, .int 12), (3, .invokestatic 99, 140, 2, 0, .null), (3, .ifCond .eq 9, 91, 0, 0, .null), (1, .aload_n 3, 0, 0, 0, .null), (1, .iconst 1, 0, 0, 0, .int 1), (3, .putfield 113, 13, 2, 2, .null), (1, .return_, 0, 0, 0, .null)]
set_option maxRecDepth 20000 in
theorem oX14_join_47 : vm_okB 14 mX14_join 47 bX14_join_47 = true := by decide +kernel
def bX14_join_91 : List vm_J := [(2, .iload 4, 0, 0, 0, .null), (3, .ifCond .eq 111, 204, 0, 0, .null), (1, .aload_n 0, 0, 0, 0, .null), (1, .aload_n 0, 0, 0, 0, .null), (3, .getfield 126, 14, 8, 0, .null), (1, .aload_n 0, 0, 0, 0, .null), (3, .getfield 133, 14, 14, 0, .null), (1, .aload_n 0, 0, 0, 0, .null), (3, .getfield 139, 14, 13, 0, .null), (3, .invokevirtual 142, 154, 3, 14, .null), (2, .istore 5, 0, 0, 0, .null), (1, .aload_n 0, 0, 0, 0, .null), (1, .aload_n 0, 0, 0, 0, .null), (3, .getfield 126, 14, 8, 0, .null), (1, .aload_n 1, 0, 0, 0, .null), (3, .getfield 123, 13, 0, 0, .null), (1, .aload_n 1, 0, 0, 0, .null), (3, .getfield 123, 13, 0, 0, .null), (1, .aload_n 0, 0, 0, 0, .null), (3, .getfield 146, 14, 15, 0, .null), (3, .invokevirtual 79, 149, 4, 14, .null), (1, .iconst 1, 0, 0, 0, .int 1), (1, .aload_n 0, 0, 0, 0, .null), (3, .getfield 133, 14, 14, 0, .null), (2, .bipush 12, 0, 0, 0, .int 12), (3, .invokestatic 75, 142, 3, 0, .null), (1, .aload_n 0, 0, 0, 0, .null), (3, .getfield 126, 14, 8, 0, .null), (1, .aload_n 0, 0, 0, 0, .null), (3, .getfield 146, 14, 15, 0, .null), (1, .aload_n 0, 0, 0, 0, .null), (3, .getfield 133, 14, 14, 0, .null), (1, .aload_n 0, 0, 0, 0, .null), (3, .getfield 146, 14, 15, 0, .null), (3, .invokestatic 107, 146, 4, 0, .null), (1, .aload_n 0, 0, 0, 0, .null), (3, .getfield 126, 14, 8, 0, .null), (1, .aload_n 0, 0, 0, 0, .null), (3, .getfield 146, 14, 15, 0, .null), (1, .aload_n 0, 0, 0, 0, .null), (3, .getfield 146, 14, 15, 0, .null), (1, .aload_n 0, 0, 0, 0, .null), (3, .getfield 133, 14, 14, 0, .null), (3, .invokestatic 136, 145, 4, 0, .null), (1, .aload_n 0, 0, 0, 0, .null), (3, .getfield 126, 14, 8, 0, .null), (1, .aload_n 0, 0, 0, 0, .null), (3, .getfield 146, 14, 15, 0, .null), (1, .aload_n 0, 0, 0, 0, .null), (3, .getfield 133, 14, 14, 0, .null), (1, .aload_n 0, 0, 0, 0, .null), (3, .getfield 133, 14, 14, 0, .null), (3, .invokestatic 136, 145, 4, 0, .null), (3, .goto 59, 260, 0, 0, .null)]
set_option maxRecDepth 20000 in
theorem oX14_join_91 : vm_okB 14 mX14_join 91 bX14_join_91 = true := by decide +kernel
def bX14_join_204 : List vm_J := [(1, .aload_n 0, 0, 0, 0, .null), (3, .getfield 126, 14, 8, 0, .null), (1, .aload_n 2, 0, 0, 0, .null), (3, .getfield 123, 13, 0, 0, .null), (1, .aload_n 1, 0, 0, 0, .null), (3, .getfield 123, 13, 0, 0, .null), (1, .aload_n 0, 0, 0, 0, .null), (3, .getfield 133, 14, 14, 0, .null), (3, .invokestatic 107, 146, 4, 0, .null), (1, .aload_n 0, 0, 0, 0, .null), (1, .aload_n 0, 0, 0, 0, .null), (3, .getfield 126, 14, 8, 0, .null), (1, .aload_n 0, 0, 0, 0, .null), (3, .getfield 133, 14, 14, 0, .null), (1, .aload_n 0, 0, 0, 0, .null), (3, .getfield 139, 14, 13, 0, .null), (3, .invokevirtual 142, 154, 3, 14, .null), (2, .istore 5, 0, 0, 0, .null), (1, .aload_n 0, 0, 0, 0, .null), (3, .getfield 126, 14, 8, 0, .null), (1, .aload_n 2, 0, 0, 0, .null), (3, .getfield 130, 13, 1, 0, .null), (1, .aload_n 1, 0, 0, 0, .null), (3, .getfield 130, 13, 1, 0, .null), (1, .aload_n 0, 0, 0, 0, .null), (3, .getfield 133, 14, 14, 0, .null), (3, .invokestatic 107, 146, 4, 0, .null)]
set_option maxRecDepth 20000 in
theorem oX14_join_204 : vm_okB 14 mX14_join 204 bX14_join_204 = true := by decide +kernel
def bX14_join_260 : List vm_J := [(1, .aload_n 0, 0, 0, 0, .null), (1, .aload_n 0, 0, 0, 0, .null), (3, .getfield 126, 14, 8, 0, .null), (1, .aload_n 0, 0, 0, 0, .null), (3, .getfield 139, 14, 13, 0, .null), (1, .aload_n 0, 0, 0, 0, .null), (3, .getfield 133, 14, 14, 0, .null), (1, .aload_n 0, 0, 0, 0, .null), (3, .getfield 139, 14, 13, 0, .null), (3, .invokevirtual 79, 149, 4, 14, .null), (1, .aload_n 0, 0, 0, 0, .null), (1, .aload_n 0, 0, 0, 0, .null), (3, .getfield 126, 14, 8, 0, .null), (1, .aload_n 0, 0, 0, 0, .null), (3, .getfield 139, 14, 13, 0, .null), (1, .aload_n 0, 0, 0, 0, .null), (3, .getfield 139, 14, 13, 0, .null), (1, .aload_n 0, 0, 0, 0, .null), (3, .getfield 133, 14, 14, 0, .null), (3, .invokevirtual 79, 149, 4, 14, .null), (1, .aload_n 0, 0, 0, 0, .null), (3, .getfield 126, 14, 8, 0, .null), (1, .aload_n 0, 0, 0, 0, .null), (3, .getfield 133, 14, 14, 0, .null), (1, .aload_n 1, 0, 0, 0, .null), (3, .getfield 123, 13, 0, 0, .null), (1, .aload_n 0, 0, 0, 0, .null), (3, .getfield 133, 14, 14, 0, .null), (3, .invokestatic 107, 146, 4, 0, .null), (1, .aload_n 0, 0, 0, 0, .null), (3, .getfield 126, 14, 8, 0, .null), (1, .aload_n 0, 0, 0, 0, .null), (3, .getfield 133, 14, 14, 0, .null), (1, .aload_n 2, 0, 0, 0, .null), (3, .getfield 123, 13, 0, 0, .null), (1, .aload_n 0, 0, 0, 0, .null), (3, .getfield 133, 14, 14, 0, .null), (3, .invokestatic 107, 146, 4, 0, .null), (1, .aload_n 0, 0, 0, 0, .null), (3, .getfield 126, 14, 8, 0, .null), (1, .aload_n 1, 0, 0, 0, .null), (3, .getfield 123, 13, 0, 0, .null), (1, .aload_n 0, 0, 0, 0, .null), (3, .getfield 133, 14, 14, 0, .null), (1, .aload_n 0, 0, 0, 0, .null), (3, .getfield 146, 14, 15, 0, .null), (3, .invokestatic 107, 146, 4, 0, .null), (1, .aload_n 0, 0, 0, 0, .null), (1, .aload_n 0, 0, 0, 0, .null), (3, .getfield 126, 14, 8, 0, .null), (1, .aload_n 0, 0, 0, 0, .null), (3, .getfield 139, 14, 13, 0, .null), (1, .aload_n 0, 0, 0, 0, .null), (3, .getfield 146, 14, 15, 0, .null), (1, .aload_n 0, 0, 0, 0, .null), (3, .getfield 146, 14, 15, 0, .null), (3, .invokevirtual 79, 149, 4, 14, .null), (1, .aload_n 0, 0, 0, 0, .null), (3, .getfield 126, 14, 8, 0, .null), (1, .aload_n 0, 0, 0, 0, .null), (3, .getfield 146, 14, 15, 0, .null), (1, .aload_n 1, 0, 0, 0, .null), (3, .getfield 130, 13, 1, 0, .null), (1, .aload_n 0, 0, 0, 0, .null), (3, .getfield 146, 14, 15, 0, .null), (3, .invokestatic 107, 146, 4, 0, .null), (1, .aload_n 0, 0, 0, 0, .null), (3, .getfield 133, 14, 14, 0, .null), (1, .aload_n 3, 0, 0, 0, .null), (3, .getfield 123, 13, 0, 0, .null), (2, .bipush 12, 0, 0, 0, .int 12), (3, .invokestatic 68, 141, 3, 0, .null), (1, .aload_n 0, 0, 0, 0, .null), (3, .getfield 146, 14, 15, 0, .null), (1, .aload_n 3, 0, 0, 0, .null), (3, .getfield 130, 13, 1, 0, .null), (2, .bipush 12, 0, 0, 0, .int 12), (3, .invokestatic 68, 141, 3, 0, .null), (1, .aload_n 3, 0, 0, 0, .null), (1, .iconst 0, 0, 0, 0, .int 0), (3, .putfield 113, 13, 2, 2, .null), (1, .return_, 0, 0, 0, .null)]
set_option maxRecDepth 20000 in
theorem oX14_join_260 : vm_okB 14 mX14_join 260 bX14_join_260 = true := by decide +kernel
def bX14_multiply_0 : List vm_J := [(1, .aload_n 0, 0, 0, 0, .null), (3, .getfield 149, 14, 12, 0, .null), (1, .aload_n 2, 0, 0, 0, .null), (3, .invokevirtual 119, 136, 1, 13, .null), (1, .aload_n 0, 0, 0, 0, .null), (3, .getfield 153, 14, 11, 0, .null), (1, .iconst 1, 0, 0, 0, .int 1), (3, .putfield 113, 13, 2, 2, .null), (3, .sipush 383, 0, 0, 0, .int 383), (2, .istore 4, 0, 0, 0, .null)]
set_option maxRecDepth 20000 in
theorem oX14_multiply_0 : vm_okB 14 mX14_multiply 0 bX14_multiply_0 = true := by decide +kernel
def bX14_multiply_21 : List vm_J := [(2, .iload 4, 0, 0, 0, .null), (3, .ifCond .lt 60, 83, 0, 0, .null), (1, .aload_n 0, 0, 0, 0, .null), (1, .aload_n 0, 0, 0, 0, .null), (3, .getfield 153, 14, 11, 0, .null), (1, .aload_n 0, 0, 0, 0, .null), (3, .getfield 153, 14, 11, 0, .null), (1, .aload_n 0, 0, 0, 0, .null), (3, .getfield 153, 14, 11, 0, .null), (3, .invokevirtual 156, 157, 3, 14, .null), (1, .aload_n 1, 0, 0, 0, .null), (2, .iload 4, 0, 0, 0, .null), (2, .bipush 32, 0, 0, 0, .int 32), (1, .idiv, 0, 0, 0, .null), (1, .iaload, 0, 0, 0, .null), (2, .iload 4, 0, 0, 0, .null), (2, .bipush 32, 0, 0, 0, .int 32), (1, .irem, 0, 0, 0, .null), (1, .iushr, 0, 0, 0, .null), (1, .iconst 1, 0, 0, 0, .int 1), (1, .iand, 0, 0, 0, .null), (1, .iconst 1, 0, 0, 0, .int 1), (3, .if_icmp .ne 19, 77, 0, 0, .null), (1, .aload_n 0, 0, 0, 0, .null), (1, .aload_n 0, 0, 0, 0, .null), (3, .getfield 153, 14, 11, 0, .null), (1, .aload_n 0, 0, 0, 0, .null), (3, .getfield 149, 14, 12, 0, .null), (1, .aload_n 0, 0, 0, 0, .null), (3, .getfield 153, 14, 11, 0, .null), (3, .invokevirtual 156, 157, 3, 14, .null)]
set_option maxRecDepth 20000 in
theorem oX14_multiply_21 : vm_okB 14 mX14_multiply 21 bX14_multiply_21 = true := by decide +kernel
def bX14_multiply_77 : List vm_J := [(3, .iinc 4 (-1), 0, 0, 0, .int (-1)), (3, .goto (-59), 21, 0, 0, .null)]
set_option maxRecDepth 20000 in
theorem oX14_multiply_77 : vm_okB 14 mX14_multiply 77 bX14_multiply_77 = true := by decide +kernel
def bX14_multiply_83 : List vm_J := [(1, .aload_n 3, 0, 0, 0, .null), (1, .aload_n 0, 0, 0, 0, .null), (3, .getfield 153, 14, 11, 0, .null), (3, .invokevirtual 119, 136, 1, 13, .null), (1, .return_, 0, 0, 0, .null)]
set_option maxRecDepth 20000 in
theorem oX14_multiply_83 : vm_okB 14 mX14_multiply 83 bX14_multiply_83 = true := by decide +kernel
def bX14_curve_0 : List vm_J := [(1, .aload_n 0, 0, 0, 0, .null), (1, .aload_n 0, 0, 0, 0, .null), (3, .getfield 126, 14, 8, 0, .null), (1, .aload_n 1, 0, 0, 0, .null), (1, .aload_n 1, 0, 0, 0, .null), (1, .aload_n 0, 0, 0, 0, .null), (3, .getfield 146, 14, 15, 0, .null), (3, .invokevirtual 79, 149, 4, 14, .null), (1, .iconst 3, 0, 0, 0, .int 3), (1, .aload_n 0, 0, 0, 0, .null), (3, .getfield 133, 14, 14, 0, .null), (2, .bipush 12, 0, 0, 0, .int 12), (3, .invokestatic 75, 142, 3, 0, .null), (1, .aload_n 0, 0, 0, 0, .null), (3, .getfield 126, 14, 8, 0, .null), (1, .aload_n 0, 0, 0, 0, .null), (3, .getfield 146, 14, 15, 0, .null), (1, .aload_n 0, 0, 0, 0, .null), (3, .getfield 133, 14, 14, 0, .null), (1, .aload_n 0, 0, 0, 0, .null), (3, .getfield 146, 14, 15, 0, .null), (3, .invokestatic 107, 146, 4, 0, .null), (1, .aload_n 0, 0, 0, 0, .null), (1, .aload_n 0, 0, 0, 0, .null), (3, .getfield 126, 14, 8, 0, .null), (1, .aload_n 0, 0, 0, 0, .null), (3, .getfield 146, 14, 15, 0, .null), (1, .aload_n 1, 0, 0, 0, .null), (1, .aload_n 2, 0, 0, 0, .null), (3, .invokevirtual 79, 149, 4, 14, .null), (1, .aload_n 0, 0, 0, 0, .null), (3, .getfield 126, 14, 8, 0, .null), (1, .aload_n 2, 0, 0, 0, .null), (3, .getstatic 160, 5, 0, 0, .null), (1, .aload_n 2, 0, 0, 0, .null), (3, .invokestatic 136, 145, 4, 0, .null), (1, .return_, 0, 0, 0, .null)]
set_option maxRecDepth 20000 in
theorem oX14_curve_0 : vm_okB 14 mX14_curve 0 bX14_curve_0 = true := by decide +kernel
def bX14_root_0 : List vm_J := [(1, .aload_n 1, 0, 0, 0, .null), (1, .aload_n 0, 0, 0, 0, .null), (3, .getfield 163, 14, 17, 0, .null), (2, .bipush 12, 0, 0, 0, .int 12), (3, .invokestatic 68, 141, 3, 0, .null), (1, .aload_n 0, 0, 0, 0, .null), (1, .aload_n 0, 0, 0, 0, .null), (3, .getfield 126, 14, 8, 0, .null), (1, .aload_n 0, 0, 0, 0, .null), (3, .getfield 163, 14, 17, 0, .null), (1, .aload_n 0, 0, 0, 0, .null), (3, .getfield 166, 14, 16, 0, .null), (3, .sipush 384, 0, 0, 0, .int 384), (1, .aload_n 2, 0, 0, 0, .null), (3, .invokevirtual 169, 150, 5, 14, .null), (1, .aload_n 0, 0, 0, 0, .null), (1, .aload_n 0, 0, 0, 0, .null), (3, .getfield 126, 14, 8, 0, .null), (1, .aload_n 2, 0, 0, 0, .null), (1, .aload_n 2, 0, 0, 0, .null), (1, .aload_n 0, 0, 0, 0, .null), (3, .getfield 133, 14, 14, 0, .null), (3, .invokevirtual 79, 149, 4, 14, .null), (1, .aload_n 0, 0, 0, 0, .null), (3, .getfield 133, 14, 14, 0, .null), (1, .aload_n 0, 0, 0, 0, .null), (3, .getfield 163, 14, 17, 0, .null), (2, .bipush 12, 0, 0, 0, .int 12), (3, .invokestatic 26, 139, 3, 0, .null), (3, .ifCond .ne 7, 64, 0, 0, .null), (1, .iconst 1, 0, 0, 0, .int 1), (3, .goto 4, 65, 0, 0, .null)]
set_option maxRecDepth 20000 in
theorem oX14_root_0 : vm_okB 14 mX14_root 0 bX14_root_0 = true := by decide +kernel
def bX14_root_64 : List vm_J := [(1, .iconst 0, 0, 0, 0, .int 0)]
set_option maxRecDepth 20000 in
theorem oX14_root_64 : vm_okB 14 mX14_root 64 bX14_root_64 = true := by decide +kernel
def bX14_root_65 : List vm_J := [(1, .ireturn, 0, 0, 0, .null)]
set_option maxRecDepth 20000 in
theorem oX14_root_65 : vm_okB 14 mX14_root 65 bX14_root_65 = true := by decide +kernel
def bX14_turn_0 : List vm_J := [(3, .getstatic 173, 6, 0, 0, .null), (1, .aload_n 0, 0, 0, 0, .null), (1, .aload_n 0, 0, 0, 0, .null), (2, .bipush 12, 0, 0, 0, .int 12), (3, .invokestatic 30, 144, 4, 0, .null), (1, .istore_n 1, 0, 0, 0, .null), (1, .return_, 0, 0, 0, .null)]
set_option maxRecDepth 20000 in
theorem oX14_turn_0 : vm_okB 14 mX14_turn 0 bX14_turn_0 = true := by decide +kernel
def bX14_element_0 : List vm_J := [(1, .aload_n 1, 0, 0, 0, .null), (1, .iload_n 2, 0, 0, 0, .null), (1, .baload, 0, 0, 0, .null), (1, .iconst 2, 0, 0, 0, .int 2), (3, .if_icmp .eq 12, 16, 0, 0, .null), (1, .aload_n 1, 0, 0, 0, .null), (1, .iload_n 2, 0, 0, 0, .null), (1, .baload, 0, 0, 0, .null), (1, .iconst 3, 0, 0, 0, .int 3), (3, .if_icmp .eq 5, 16, 0, 0, .null), (1, .iconst 0, 0, 0, 0, .int 0), (1, .ireturn, 0, 0, 0, .null)]
set_option maxRecDepth 20000 in
theorem oX14_element_0 : vm_okB 14 mX14_element 0 bX14_element_0 = true := by decide +kernel
def bX14_element_16 : List vm_J := [(1, .aload_n 1, 0, 0, 0, .null), (1, .iload_n 2, 0, 0, 0, .null), (1, .iconst 1, 0, 0, 0, .int 1), (1, .iadd, 0, 0, 0, .null), (2, .bipush 48, 0, 0, 0, .int 48), (1, .aload_n 3, 0, 0, 0, .null), (3, .getfield 123, 13, 0, 0, .null), (2, .bipush 12, 0, 0, 0, .int 12), (3, .invokestatic 176, 155, 5, 0, .null), (1, .aload_n 3, 0, 0, 0, .null), (3, .getfield 123, 13, 0, 0, .null), (3, .getstatic 173, 6, 0, 0, .null), (2, .bipush 12, 0, 0, 0, .int 12), (3, .invokestatic 26, 139, 3, 0, .null), (3, .ifCond .lt 5, 48, 0, 0, .null), (1, .iconst 0, 0, 0, 0, .int 0), (1, .ireturn, 0, 0, 0, .null)]
set_option maxRecDepth 20000 in
theorem oX14_element_16 : vm_okB 14 mX14_element 16 bX14_element_16 = true := by decide +kernel
def bX14_element_48 : List vm_J := [(1, .aload_n 0, 0, 0, 0, .null), (1, .aload_n 3, 0, 0, 0, .null), (3, .getfield 123, 13, 0, 0, .null), (1, .aload_n 0, 0, 0, 0, .null), (3, .getfield 139, 14, 13, 0, .null), (3, .invokevirtual 180, 159, 2, 14, .null), (1, .aload_n 0, 0, 0, 0, .null), (1, .aload_n 0, 0, 0, 0, .null), (3, .getfield 139, 14, 13, 0, .null), (1, .aload_n 3, 0, 0, 0, .null), (3, .getfield 130, 13, 1, 0, .null), (3, .invokevirtual 184, 160, 2, 14, .null), (3, .ifCond .ne 5, 77, 0, 0, .null), (1, .iconst 0, 0, 0, 0, .int 0), (1, .ireturn, 0, 0, 0, .null)]
set_option maxRecDepth 20000 in
theorem oX14_element_48 : vm_okB 14 mX14_element 48 bX14_element_48 = true := by decide +kernel
def bX14_element_77 : List vm_J := [(1, .aload_n 3, 0, 0, 0, .null), (1, .iconst 0, 0, 0, 0, .int 0), (3, .putfield 113, 13, 2, 2, .null), (1, .aload_n 3, 0, 0, 0, .null), (3, .getfield 130, 13, 1, 0, .null), (2, .bipush 12, 0, 0, 0, .int 12), (3, .invokestatic 99, 140, 2, 0, .null), (3, .ifCond .eq 16, 107, 0, 0, .null), (1, .aload_n 1, 0, 0, 0, .null), (1, .iload_n 2, 0, 0, 0, .null), (1, .baload, 0, 0, 0, .null), (1, .iconst 2, 0, 0, 0, .int 2), (3, .if_icmp .ne 7, 105, 0, 0, .null), (1, .iconst 1, 0, 0, 0, .int 1), (3, .goto 4, 106, 0, 0, .null)]
set_option maxRecDepth 20000 in
theorem oX14_element_77 : vm_okB 14 mX14_element 77 bX14_element_77 = true := by decide +kernel
def bX14_element_105 : List vm_J := [(1, .iconst 0, 0, 0, 0, .int 0)]
set_option maxRecDepth 20000 in
theorem oX14_element_105 : vm_okB 14 mX14_element 105 bX14_element_105 = true := by decide +kernel
def bX14_element_106 : List vm_J := [(1, .ireturn, 0, 0, 0, .null)]
set_option maxRecDepth 20000 in
theorem oX14_element_106 : vm_okB 14 mX14_element 106 bX14_element_106 = true := by decide +kernel
def bX14_element_107 : List vm_J := [(1, .aload_n 3, 0, 0, 0, .null), (3, .getfield 130, 13, 1, 0, .null), (1, .iconst 0, 0, 0, 0, .int 0), (1, .iaload, 0, 0, 0, .null), (1, .iconst 1, 0, 0, 0, .int 1), (1, .iand, 0, 0, 0, .null), (1, .aload_n 1, 0, 0, 0, .null), (1, .iload_n 2, 0, 0, 0, .null), (1, .baload, 0, 0, 0, .null), (1, .iconst 2, 0, 0, 0, .int 2), (1, .isub, 0, 0, 0, .null), (3, .if_icmp .eq 10, 130, 0, 0, .null), (1, .aload_n 3, 0, 0, 0, .null), (3, .getfield 130, 13, 1, 0, .null), (3, .invokestatic 188, 161, 1, 0, .null)]
set_option maxRecDepth 20000 in
theorem oX14_element_107 : vm_okB 14 mX14_element 107 bX14_element_107 = true := by decide +kernel
def bX14_element_130 : List vm_J := [(1, .iconst 1, 0, 0, 0, .int 1), (1, .ireturn, 0, 0, 0, .null)]
set_option maxRecDepth 20000 in
theorem oX14_element_130 : vm_okB 14 mX14_element 130 bX14_element_130 = true := by decide +kernel
def bX14_bytes_0 : List vm_J := [(1, .aload_n 1, 0, 0, 0, .null), (1, .iload_n 2, 0, 0, 0, .null), (1, .iconst 2, 0, 0, 0, .int 2), (1, .aload_n 0, 0, 0, 0, .null), (3, .getfield 130, 13, 1, 0, .null), (1, .iconst 0, 0, 0, 0, .int 0), (1, .iaload, 0, 0, 0, .null), (1, .iconst 1, 0, 0, 0, .int 1), (1, .iand, 0, 0, 0, .null), (1, .iadd, 0, 0, 0, .null), (1, .i2b, 0, 0, 0, .null), (1, .bastore, 0, 0, 0, .null), (1, .aload_n 0, 0, 0, 0, .null), (3, .getfield 123, 13, 0, 0, .null), (1, .aload_n 1, 0, 0, 0, .null), (1, .iload_n 2, 0, 0, 0, .null), (1, .iconst 1, 0, 0, 0, .int 1), (1, .iadd, 0, 0, 0, .null), (2, .bipush 48, 0, 0, 0, .int 48), (3, .invokestatic 192, 156, 4, 0, .null), (1, .return_, 0, 0, 0, .null)]
set_option maxRecDepth 20000 in
theorem oX14_bytes_0 : vm_okB 14 mX14_bytes 0 bX14_bytes_0 = true := by decide +kernel
def bX14_isSecret_0 : List vm_J := [(1, .aload_n 0, 0, 0, 0, .null), (2, .bipush 12, 0, 0, 0, .int 12), (3, .invokestatic 99, 140, 2, 0, .null), (3, .ifCond .ne 19, 25, 0, 0, .null), (1, .aload_n 0, 0, 0, 0, .null), (3, .getstatic 196, 7, 0, 0, .null), (2, .bipush 12, 0, 0, 0, .int 12), (3, .invokestatic 26, 139, 3, 0, .null), (3, .ifCond .ge 7, 25, 0, 0, .null), (1, .iconst 1, 0, 0, 0, .int 1), (3, .goto 4, 26, 0, 0, .null)]
set_option maxRecDepth 20000 in
theorem oX14_isSecret_0 : vm_okB 14 mX14_isSecret 0 bX14_isSecret_0 = true := by decide +kernel
def bX14_isSecret_25 : List vm_J := [(1, .iconst 0, 0, 0, 0, .int 0)]
set_option maxRecDepth 20000 in
theorem oX14_isSecret_25 : vm_okB 14 mX14_isSecret 25 bX14_isSecret_25 = true := by decide +kernel
def bX14_isSecret_26 : List vm_J := [(1, .ireturn, 0, 0, 0, .null)]
set_option maxRecDepth 20000 in
theorem oX14_isSecret_26 : vm_okB 14 mX14_isSecret 26 bX14_isSecret_26 = true := by decide +kernel
def bX14_say_0 : List vm_J := [(1, .aload_n 0, 0, 0, 0, .null), (3, .getfield 199, 14, 18, 0, .null), (1, .aload_n 0, 0, 0, 0, .null), (3, .getfield 203, 14, 19, 0, .null), (1, .iload_n 1, 0, 0, 0, .null), (1, .i2b, 0, 0, 0, .null), (1, .bastore, 0, 0, 0, .null), (1, .aload_n 0, 0, 0, 0, .null), (1, .dup, 0, 0, 0, .null), (3, .getfield 203, 14, 19, 0, .null), (1, .iconst 1, 0, 0, 0, .int 1), (1, .iadd, 0, 0, 0, .null), (3, .putfield 203, 14, 19, 0, .null), (1, .return_, 0, 0, 0, .null)]
set_option maxRecDepth 20000 in
theorem oX14_say_0 : vm_okB 14 mX14_say 0 bX14_say_0 = true := by decide +kernel
def bX14_say__0 : List vm_J := [(1, .iconst 0, 0, 0, 0, .int 0), (2, .istore 4, 0, 0, 0, .null)]
set_option maxRecDepth 20000 in
theorem oX14_say__0 : vm_okB 14 mX14_say_ 0 bX14_say__0 = true := by decide +kernel
def bX14_say__3 : List vm_J := [(2, .iload 4, 0, 0, 0, .null), (1, .iload_n 3, 0, 0, 0, .null), (3, .if_icmp .ge 19, 25, 0, 0, .null), (1, .aload_n 0, 0, 0, 0, .null), (1, .aload_n 1, 0, 0, 0, .null), (1, .iload_n 2, 0, 0, 0, .null), (2, .iload 4, 0, 0, 0, .null), (1, .iadd, 0, 0, 0, .null), (1, .baload, 0, 0, 0, .null), (3, .invokevirtual 206, 165, 1, 14, .null), (3, .iinc 4 1, 0, 0, 0, .int 1), (3, .goto (-19), 3, 0, 0, .null)]
set_option maxRecDepth 20000 in
theorem oX14_say__3 : vm_okB 14 mX14_say_ 3 bX14_say__3 = true := by decide +kernel
def bX14_say__25 : List vm_J := [(1, .return_, 0, 0, 0, .null)]
set_option maxRecDepth 20000 in
theorem oX14_say__25 : vm_okB 14 mX14_say_ 25 bX14_say__25 = true := by decide +kernel
def bX14_both_0 : List vm_J := [(1, .aload_n 0, 0, 0, 0, .null), (1, .iload_n 1, 0, 0, 0, .null), (2, .bipush 8, 0, 0, 0, .int 8), (1, .ishr, 0, 0, 0, .null), (3, .invokevirtual 206, 165, 1, 14, .null), (1, .aload_n 0, 0, 0, 0, .null), (1, .iload_n 1, 0, 0, 0, .null), (3, .invokevirtual 206, 165, 1, 14, .null), (1, .return_, 0, 0, 0, .null)]
set_option maxRecDepth 20000 in
theorem oX14_both_0 : vm_okB 14 mX14_both 0 bX14_both_0 = true := by decide +kernel
def bX14_word_0 : List vm_J := [(1, .iconst 0, 0, 0, 0, .int 0), (1, .istore_n 2, 0, 0, 0, .null)]
set_option maxRecDepth 20000 in
theorem oX14_word_0 : vm_okB 14 mX14_word 0 bX14_word_0 = true := by decide +kernel
def bX14_word_2 : List vm_J := [(1, .iload_n 2, 0, 0, 0, .null), (1, .aload_n 1, 0, 0, 0, .null), (3, .invokevirtual 210, 246, 0, 600, .null), (3, .if_icmp .ge 18, 25, 0, 0, .null), (1, .aload_n 0, 0, 0, 0, .null), (1, .aload_n 1, 0, 0, 0, .null), (1, .iload_n 2, 0, 0, 0, .null), (3, .invokevirtual 216, 247, 1, 600, .null), (3, .invokevirtual 206, 165, 1, 14, .null), (3, .iinc 2 1, 0, 0, 0, .int 1), (3, .goto (-20), 2, 0, 0, .null)]
set_option maxRecDepth 20000 in
theorem oX14_word_2 : vm_okB 14 mX14_word 2 bX14_word_2 = true := by decide +kernel
def bX14_word_25 : List vm_J := [(1, .return_, 0, 0, 0, .null)]
set_option maxRecDepth 20000 in
theorem oX14_word_25 : vm_okB 14 mX14_word 25 bX14_word_25 = true := by decide +kernel
def bX14_context_0 : List vm_J := [(1, .aload_n 0, 0, 0, 0, .null), (2, .ldc 220, 0, 0, 0, .ref 1099511627838), (3, .invokevirtual 222, 168, 1, 14, .null), (1, .aload_n 0, 0, 0, 0, .null), (1, .iconst 1, 0, 0, 0, .int 1), (3, .invokevirtual 206, 165, 1, 14, .null), (1, .aload_n 0, 0, 0, 0, .null), (2, .ldc 226, 0, 0, 0, .ref 1099511627840), (3, .invokevirtual 222, 168, 1, 14, .null), (1, .return_, 0, 0, 0, .null)]
set_option maxRecDepth 20000 in
theorem oX14_context_0 : vm_okB 14 mX14_context 0 bX14_context_0 = true := by decide +kernel
def bX14_pads_0 : List vm_J := [(3, .ldc2_w 228, 0, 0, 0, .long (8)), (1, .aload_n 0, 0, 0, 0, .null), (3, .getfield 203, 14, 19, 0, .null), (1, .i2l, 0, 0, 0, .null), (1, .lmul, 0, 0, 0, .null), (1, .lstore_n 3, 0, 0, 0, .null), (1, .aload_n 0, 0, 0, 0, .null), (3, .sipush 128, 0, 0, 0, .int 128), (3, .invokevirtual 206, 165, 1, 14, .null)]
set_option maxRecDepth 20000 in
theorem oX14_pads_0 : vm_okB 14 mX14_pads 0 bX14_pads_0 = true := by decide +kernel
def bX14_pads_17 : List vm_J := [(1, .aload_n 0, 0, 0, 0, .null), (3, .getfield 203, 14, 19, 0, .null), (1, .iload_n 1, 0, 0, 0, .null), (1, .irem, 0, 0, 0, .null), (1, .iload_n 1, 0, 0, 0, .null), (1, .iload_n 2, 0, 0, 0, .null), (1, .isub, 0, 0, 0, .null), (3, .if_icmp .eq 11, 37, 0, 0, .null), (1, .aload_n 0, 0, 0, 0, .null), (1, .iconst 0, 0, 0, 0, .int 0), (3, .invokevirtual 206, 165, 1, 14, .null), (3, .goto (-17), 17, 0, 0, .null)]
set_option maxRecDepth 20000 in
theorem oX14_pads_17 : vm_okB 14 mX14_pads 17 bX14_pads_17 = true := by decide +kernel
def bX14_pads_37 : List vm_J := [(1, .iload_n 2, 0, 0, 0, .null), (1, .iconst 1, 0, 0, 0, .int 1), (1, .isub, 0, 0, 0, .null), (2, .istore 5, 0, 0, 0, .null)]
set_option maxRecDepth 20000 in
theorem oX14_pads_37 : vm_okB 14 mX14_pads 37 bX14_pads_37 = true := by decide +kernel
def bX14_pads_42 : List vm_J := [(2, .iload 5, 0, 0, 0, .null), (3, .ifCond .lt 32, 76, 0, 0, .null), (1, .aload_n 0, 0, 0, 0, .null), (2, .iload 5, 0, 0, 0, .null), (2, .bipush 8, 0, 0, 0, .int 8), (3, .if_icmp .ge 14, 66, 0, 0, .null), (1, .lload_n 3, 0, 0, 0, .null), (2, .bipush 8, 0, 0, 0, .int 8), (2, .iload 5, 0, 0, 0, .null), (1, .imul, 0, 0, 0, .null), (1, .lushr, 0, 0, 0, .null), (1, .l2i, 0, 0, 0, .null), (3, .goto 4, 67, 0, 0, .null)]
set_option maxRecDepth 20000 in
theorem oX14_pads_42 : vm_okB 14 mX14_pads 42 bX14_pads_42 = true := by decide +kernel
def bX14_pads_66 : List vm_J := [(1, .iconst 0, 0, 0, 0, .int 0)]
set_option maxRecDepth 20000 in
theorem oX14_pads_66 : vm_okB 14 mX14_pads 66 bX14_pads_66 = true := by decide +kernel
def bX14_pads_67 : List vm_J := [(3, .invokevirtual 206, 165, 1, 14, .null), (3, .iinc 5 (-1), 0, 0, 0, .int (-1)), (3, .goto (-31), 42, 0, 0, .null)]
set_option maxRecDepth 20000 in
theorem oX14_pads_67 : vm_okB 14 mX14_pads 67 bX14_pads_67 = true := by decide +kernel
def bX14_pads_76 : List vm_J := [(1, .return_, 0, 0, 0, .null)]
set_option maxRecDepth 20000 in
theorem oX14_pads_76 : vm_okB 14 mX14_pads 76 bX14_pads_76 = true := by decide +kernel
def bX14_roll_0 : List vm_J := [(1, .iload_n 0, 0, 0, 0, .null), (1, .iload_n 1, 0, 0, 0, .null), (1, .iushr, 0, 0, 0, .null), (1, .iload_n 0, 0, 0, 0, .null), (2, .bipush 32, 0, 0, 0, .int 32), (1, .iload_n 1, 0, 0, 0, .null), (1, .isub, 0, 0, 0, .null), (1, .ishl, 0, 0, 0, .null), (1, .ior, 0, 0, 0, .null), (1, .ireturn, 0, 0, 0, .null)]
set_option maxRecDepth 20000 in
theorem oX14_roll_0 : vm_okB 14 mX14_roll 0 bX14_roll_0 = true := by decide +kernel
def bX14_roll__0 : List vm_J := [(1, .lload_n 0, 0, 0, 0, .null), (1, .iload_n 2, 0, 0, 0, .null), (1, .lushr, 0, 0, 0, .null), (1, .lload_n 0, 0, 0, 0, .null), (2, .bipush 64, 0, 0, 0, .int 64), (1, .iload_n 2, 0, 0, 0, .null), (1, .isub, 0, 0, 0, .null), (1, .lshl, 0, 0, 0, .null), (1, .lor, 0, 0, 0, .null), (1, .lreturn, 0, 0, 0, .null)]
set_option maxRecDepth 20000 in
theorem oX14_roll__0 : vm_okB 14 mX14_roll_ 0 bX14_roll__0 = true := by decide +kernel
def bX14_h2_0 : List vm_J := [(1, .aload_n 0, 0, 0, 0, .null), (2, .bipush 64, 0, 0, 0, .int 64), (2, .bipush 8, 0, 0, 0, .int 8), (3, .invokevirtual 230, 170, 2, 14, .null), (1, .iconst 0, 0, 0, 0, .int 0), (1, .istore_n 1, 0, 0, 0, .null)]
set_option maxRecDepth 20000 in
theorem oX14_h2_0 : vm_okB 14 mX14_h2 0 bX14_h2_0 = true := by decide +kernel
def bX14_h2_10 : List vm_J := [(1, .iload_n 1, 0, 0, 0, .null), (2, .bipush 8, 0, 0, 0, .int 8), (3, .if_icmp .ge 20, 33, 0, 0, .null), (1, .aload_n 0, 0, 0, 0, .null), (3, .getfield 234, 14, 21, 0, .null), (1, .iload_n 1, 0, 0, 0, .null), (3, .getstatic 237, 8, 0, 0, .null), (1, .iload_n 1, 0, 0, 0, .null), (1, .iaload, 0, 0, 0, .null), (1, .iastore, 0, 0, 0, .null), (3, .iinc 1 1, 0, 0, 0, .int 1), (3, .goto (-20), 10, 0, 0, .null)]
set_option maxRecDepth 20000 in
theorem oX14_h2_10 : vm_okB 14 mX14_h2 10 bX14_h2_10 = true := by decide +kernel
def bX14_h2_33 : List vm_J := [(1, .iconst 0, 0, 0, 0, .int 0), (1, .istore_n 1, 0, 0, 0, .null)]
set_option maxRecDepth 20000 in
theorem oX14_h2_33 : vm_okB 14 mX14_h2 33 bX14_h2_33 = true := by decide +kernel
def bX14_h2_35 : List vm_J := [(1, .iload_n 1, 0, 0, 0, .null), (1, .aload_n 0, 0, 0, 0, .null), (3, .getfield 203, 14, 19, 0, .null), (3, .if_icmp .ge 14, 54, 0, 0, .null), (1, .aload_n 0, 0, 0, 0, .null), (1, .iload_n 1, 0, 0, 0, .null), (3, .invokevirtual 240, 174, 1, 14, .null), (3, .iinc 1 64, 0, 0, 0, .int 64), (3, .goto (-16), 35, 0, 0, .null)]
set_option maxRecDepth 20000 in
theorem oX14_h2_35 : vm_okB 14 mX14_h2 35 bX14_h2_35 = true := by decide +kernel
def bX14_h2_54 : List vm_J := [(1, .iconst 0, 0, 0, 0, .int 0), (1, .istore_n 1, 0, 0, 0, .null)]
set_option maxRecDepth 20000 in
theorem oX14_h2_54 : vm_okB 14 mX14_h2 54 bX14_h2_54 = true := by decide +kernel
def bX14_h2_56 : List vm_J := [(1, .iload_n 1, 0, 0, 0, .null), (2, .bipush 32, 0, 0, 0, .int 32), (3, .if_icmp .ge 34, 93, 0, 0, .null), (1, .aload_n 0, 0, 0, 0, .null), (3, .getfield 243, 14, 20, 0, .null), (1, .iload_n 1, 0, 0, 0, .null), (1, .aload_n 0, 0, 0, 0, .null), (3, .getfield 234, 14, 21, 0, .null), (1, .iload_n 1, 0, 0, 0, .null), (1, .iconst 4, 0, 0, 0, .int 4), (1, .idiv, 0, 0, 0, .null), (1, .iaload, 0, 0, 0, .null), (2, .bipush 24, 0, 0, 0, .int 24), (2, .bipush 8, 0, 0, 0, .int 8), (1, .iload_n 1, 0, 0, 0, .null), (1, .iconst 4, 0, 0, 0, .int 4), (1, .irem, 0, 0, 0, .null), (1, .imul, 0, 0, 0, .null), (1, .isub, 0, 0, 0, .null), (1, .ishr, 0, 0, 0, .null), (1, .i2b, 0, 0, 0, .null), (1, .bastore, 0, 0, 0, .null), (3, .iinc 1 1, 0, 0, 0, .int 1), (3, .goto (-34), 56, 0, 0, .null)]
set_option maxRecDepth 20000 in
theorem oX14_h2_56 : vm_okB 14 mX14_h2 56 bX14_h2_56 = true := by decide +kernel
def bX14_h2_93 : List vm_J := [(1, .aload_n 0, 0, 0, 0, .null), (1, .iconst 0, 0, 0, 0, .int 0), (3, .putfield 203, 14, 19, 0, .null), (1, .return_, 0, 0, 0, .null)]
set_option maxRecDepth 20000 in
theorem oX14_h2_93 : vm_okB 14 mX14_h2 93 bX14_h2_93 = true := by decide +kernel
def bX14_block_0 : List vm_J := [(1, .iconst 0, 0, 0, 0, .int 0), (1, .istore_n 2, 0, 0, 0, .null)]
set_option maxRecDepth 20000 in
theorem oX14_block_0 : vm_okB 14 mX14_block 0 bX14_block_0 = true := by decide +kernel
def bX14_block_2 : List vm_J := [(1, .iload_n 2, 0, 0, 0, .null), (2, .bipush 64, 0, 0, 0, .int 64), (3, .if_icmp .ge 155, 160, 0, 0, .null), (1, .iload_n 2, 0, 0, 0, .null), (2, .bipush 16, 0, 0, 0, .int 16), (3, .if_icmp .ge 58, 69, 0, 0, .null), (1, .aload_n 0, 0, 0, 0, .null), (3, .getfield 246, 14, 22, 0, .null), (1, .iload_n 2, 0, 0, 0, .null), (1, .iconst 0, 0, 0, 0, .int 0), (1, .iastore, 0, 0, 0, .null), (1, .iconst 0, 0, 0, 0, .int 0), (1, .istore_n 3, 0, 0, 0, .null)]
set_option maxRecDepth 20000 in
theorem oX14_block_2 : vm_okB 14 mX14_block 2 bX14_block_2 = true := by decide +kernel
def bX14_block_23 : List vm_J := [(1, .iload_n 3, 0, 0, 0, .null), (1, .iconst 4, 0, 0, 0, .int 4), (3, .if_icmp .ge 41, 66, 0, 0, .null), (1, .aload_n 0, 0, 0, 0, .null), (3, .getfield 246, 14, 22, 0, .null), (1, .iload_n 2, 0, 0, 0, .null), (1, .aload_n 0, 0, 0, 0, .null), (3, .getfield 246, 14, 22, 0, .null), (1, .iload_n 2, 0, 0, 0, .null), (1, .iaload, 0, 0, 0, .null), (2, .bipush 8, 0, 0, 0, .int 8), (1, .ishl, 0, 0, 0, .null), (1, .aload_n 0, 0, 0, 0, .null), (3, .getfield 199, 14, 18, 0, .null), (1, .iload_n 1, 0, 0, 0, .null), (1, .iconst 4, 0, 0, 0, .int 4), (1, .iload_n 2, 0, 0, 0, .null), (1, .imul, 0, 0, 0, .null), (1, .iadd, 0, 0, 0, .null), (1, .iload_n 3, 0, 0, 0, .null), (1, .iadd, 0, 0, 0, .null), (1, .baload, 0, 0, 0, .null), (3, .sipush 255, 0, 0, 0, .int 255), (1, .iand, 0, 0, 0, .null), (1, .ior, 0, 0, 0, .null), (1, .iastore, 0, 0, 0, .null), (3, .iinc 3 1, 0, 0, 0, .int 1), (3, .goto (-40), 23, 0, 0, .null)]
set_option maxRecDepth 20000 in
theorem oX14_block_23 : vm_okB 14 mX14_block 23 bX14_block_23 = true := by decide +kernel
def bX14_block_66 : List vm_J := [(3, .goto 88, 154, 0, 0, .null)]
set_option maxRecDepth 20000 in
theorem oX14_block_66 : vm_okB 14 mX14_block 66 bX14_block_66 = true := by decide +kernel
def bX14_block_69 : List vm_J := [(1, .aload_n 0, 0, 0, 0, .null), (3, .getfield 246, 14, 22, 0, .null), (1, .iload_n 2, 0, 0, 0, .null), (2, .bipush 15, 0, 0, 0, .int 15), (1, .isub, 0, 0, 0, .null), (1, .iaload, 0, 0, 0, .null), (1, .istore_n 3, 0, 0, 0, .null), (1, .aload_n 0, 0, 0, 0, .null), (3, .getfield 246, 14, 22, 0, .null), (1, .iload_n 2, 0, 0, 0, .null), (1, .iconst 2, 0, 0, 0, .int 2), (1, .isub, 0, 0, 0, .null), (1, .iaload, 0, 0, 0, .null), (2, .istore 4, 0, 0, 0, .null), (1, .aload_n 0, 0, 0, 0, .null), (3, .getfield 246, 14, 22, 0, .null), (1, .iload_n 2, 0, 0, 0, .null), (1, .aload_n 0, 0, 0, 0, .null), (3, .getfield 246, 14, 22, 0, .null), (1, .iload_n 2, 0, 0, 0, .null), (2, .bipush 16, 0, 0, 0, .int 16), (1, .isub, 0, 0, 0, .null), (1, .iaload, 0, 0, 0, .null), (1, .aload_n 0, 0, 0, 0, .null), (3, .getfield 246, 14, 22, 0, .null), (1, .iload_n 2, 0, 0, 0, .null), (2, .bipush 7, 0, 0, 0, .int 7), (1, .isub, 0, 0, 0, .null), (1, .iaload, 0, 0, 0, .null), (1, .iadd, 0, 0, 0, .null), (1, .iload_n 3, 0, 0, 0, .null), (2, .bipush 7, 0, 0, 0, .int 7), (3, .invokestatic 249, 171, 2, 0, .null), (1, .iload_n 3, 0, 0, 0, .null), (2, .bipush 18, 0, 0, 0, .int 18), (3, .invokestatic 249, 171, 2, 0, .null), (1, .ixor, 0, 0, 0, .null), (1, .iload_n 3, 0, 0, 0, .null), (1, .iconst 3, 0, 0, 0, .int 3), (1, .iushr, 0, 0, 0, .null), (1, .ixor, 0, 0, 0, .null), (1, .iadd, 0, 0, 0, .null), (2, .iload 4, 0, 0, 0, .null), (2, .bipush 17, 0, 0, 0, .int 17), (3, .invokestatic 249, 171, 2, 0, .null), (2, .iload 4, 0, 0, 0, .null), (2, .bipush 19, 0, 0, 0, .int 19), (3, .invokestatic 249, 171, 2, 0, .null), (1, .ixor, 0, 0, 0, .null), (2, .iload 4, 0, 0, 0, .null), (2, .bipush 10, 0, 0, 0, .int 10), (1, .iushr, 0, 0, 0, .null), (1, .ixor, 0, 0, 0, .null), (1, .iadd, 0, 0, 0, .null), (1, .iastore, 0, 0, 0, .null)]
set_option maxRecDepth 20000 in
theorem oX14_block_69 : vm_okB 14 mX14_block 69 bX14_block_69 = true := by decide +kernel
def bX14_block_154 : List vm_J := [(3, .iinc 2 1, 0, 0, 0, .int 1), (3, .goto (-155), 2, 0, 0, .null)]
set_option maxRecDepth 20000 in
theorem oX14_block_154 : vm_okB 14 mX14_block 154 bX14_block_154 = true := by decide +kernel
def bX14_block_160 : List vm_J := [(1, .aload_n 0, 0, 0, 0, .null), (3, .getfield 234, 14, 21, 0, .null), (1, .iconst 0, 0, 0, 0, .int 0), (1, .iaload, 0, 0, 0, .null), (1, .istore_n 2, 0, 0, 0, .null), (1, .aload_n 0, 0, 0, 0, .null), (3, .getfield 234, 14, 21, 0, .null), (1, .iconst 1, 0, 0, 0, .int 1), (1, .iaload, 0, 0, 0, .null), (1, .istore_n 3, 0, 0, 0, .null), (1, .aload_n 0, 0, 0, 0, .null), (3, .getfield 234, 14, 21, 0, .null), (1, .iconst 2, 0, 0, 0, .int 2), (1, .iaload, 0, 0, 0, .null), (2, .istore 4, 0, 0, 0, .null), (1, .aload_n 0, 0, 0, 0, .null), (3, .getfield 234, 14, 21, 0, .null), (1, .iconst 3, 0, 0, 0, .int 3), (1, .iaload, 0, 0, 0, .null), (2, .istore 5, 0, 0, 0, .null), (1, .aload_n 0, 0, 0, 0, .null), (3, .getfield 234, 14, 21, 0, .null), (1, .iconst 4, 0, 0, 0, .int 4), (1, .iaload, 0, 0, 0, .null), (2, .istore 6, 0, 0, 0, .null), (1, .aload_n 0, 0, 0, 0, .null), (3, .getfield 234, 14, 21, 0, .null), (1, .iconst 5, 0, 0, 0, .int 5), (1, .iaload, 0, 0, 0, .null), (2, .istore 7, 0, 0, 0, .null), (1, .aload_n 0, 0, 0, 0, .null), (3, .getfield 234, 14, 21, 0, .null), (2, .bipush 6, 0, 0, 0, .int 6), (1, .iaload, 0, 0, 0, .null), (2, .istore 8, 0, 0, 0, .null), (1, .aload_n 0, 0, 0, 0, .null), (3, .getfield 234, 14, 21, 0, .null), (2, .bipush 7, 0, 0, 0, .int 7), (1, .iaload, 0, 0, 0, .null), (2, .istore 9, 0, 0, 0, .null), (1, .iconst 0, 0, 0, 0, .int 0), (2, .istore 10, 0, 0, 0, .null)]
set_option maxRecDepth 20000 in
theorem oX14_block_160 : vm_okB 14 mX14_block 160 bX14_block_160 = true := by decide +kernel
def bX14_block_227 : List vm_J := [(2, .iload 10, 0, 0, 0, .null), (2, .bipush 64, 0, 0, 0, .int 64), (3, .if_icmp .ge 135, 366, 0, 0, .null), (2, .iload 9, 0, 0, 0, .null), (2, .iload 6, 0, 0, 0, .null), (2, .bipush 6, 0, 0, 0, .int 6), (3, .invokestatic 249, 171, 2, 0, .null), (2, .iload 6, 0, 0, 0, .null), (2, .bipush 11, 0, 0, 0, .int 11), (3, .invokestatic 249, 171, 2, 0, .null), (1, .ixor, 0, 0, 0, .null), (2, .iload 6, 0, 0, 0, .null), (2, .bipush 25, 0, 0, 0, .int 25), (3, .invokestatic 249, 171, 2, 0, .null), (1, .ixor, 0, 0, 0, .null), (1, .iadd, 0, 0, 0, .null), (2, .iload 6, 0, 0, 0, .null), (2, .iload 7, 0, 0, 0, .null), (1, .iand, 0, 0, 0, .null), (2, .iload 6, 0, 0, 0, .null), (1, .iconst (-1), 0, 0, 0, .int (-1)), (1, .ixor, 0, 0, 0, .null), (2, .iload 8, 0, 0, 0, .null), (1, .iand, 0, 0, 0, .null), (1, .ixor, 0, 0, 0, .null), (1, .iadd, 0, 0, 0, .null), (3, .getstatic 253, 9, 0, 0, .null), (2, .iload 10, 0, 0, 0, .null), (1, .iaload, 0, 0, 0, .null), (1, .iadd, 0, 0, 0, .null), (1, .aload_n 0, 0, 0, 0, .null), (3, .getfield 246, 14, 22, 0, .null), (2, .iload 10, 0, 0, 0, .null), (1, .iaload, 0, 0, 0, .null), (1, .iadd, 0, 0, 0, .null), (2, .istore 11, 0, 0, 0, .null), (1, .iload_n 2, 0, 0, 0, .null), (1, .iconst 2, 0, 0, 0, .int 2), (3, .invokestatic 249, 171, 2, 0, .null), (1, .iload_n 2, 0, 0, 0, .null), (2, .bipush 13, 0, 0, 0, .int 13), (3, .invokestatic 249, 171, 2, 0, .null), (1, .ixor, 0, 0, 0, .null), (1, .iload_n 2, 0, 0, 0, .null), (2, .bipush 22, 0, 0, 0, .int 22), (3, .invokestatic 249, 171, 2, 0, .null), (1, .ixor, 0, 0, 0, .null), (1, .iload_n 2, 0, 0, 0, .null), (1, .iload_n 3, 0, 0, 0, .null), (1, .iand, 0, 0, 0, .null), (1, .iload_n 2, 0, 0, 0, .null), (2, .iload 4, 0, 0, 0, .null), (1, .iand, 0, 0, 0, .null), (1, .ixor, 0, 0, 0, .null), (1, .iload_n 3, 0, 0, 0, .null), (2, .iload 4, 0, 0, 0, .null), (1, .iand, 0, 0, 0, .null), (1, .ixor, 0, 0, 0, .null), (1, .iadd, 0, 0, 0, .null), (2, .istore 12, 0, 0, 0, .null), (2, .iload 8, 0, 0, 0, .null), (2, .istore 9, 0, 0, 0, .null), (2, .iload 7, 0, 0, 0, .null), (2, .istore 8, 0, 0, 0, .null), (2, .iload 6, 0, 0, 0, .null), (2, .istore 7, 0, 0, 0, .null), (2, .iload 5, 0, 0, 0, .null), (2, .iload 11, 0, 0, 0, .null), (1, .iadd, 0, 0, 0, .null), (2, .istore 6, 0, 0, 0, .null), (2, .iload 4, 0, 0, 0, .null), (2, .istore 5, 0, 0, 0, .null), (1, .iload_n 3, 0, 0, 0, .null), (2, .istore 4, 0, 0, 0, .null), (1, .iload_n 2, 0, 0, 0, .null), (1, .istore_n 3, 0, 0, 0, .null), (2, .iload 11, 0, 0, 0, .null), (2, .iload 12, 0, 0, 0, .null), (1, .iadd, 0, 0, 0, .null), (1, .istore_n 2, 0, 0, 0, .null), (3, .iinc 10 1, 0, 0, 0, .int 1), (3, .goto (-136), 227, 0, 0, .null)]
set_option maxRecDepth 20000 in
theorem oX14_block_227 : vm_okB 14 mX14_block 227 bX14_block_227 = true := by decide +kernel
def bX14_block_366 : List vm_J := [(1, .aload_n 0, 0, 0, 0, .null), (3, .getfield 234, 14, 21, 0, .null), (1, .iconst 0, 0, 0, 0, .int 0), (1, .dup2, 0, 0, 0, .null), (1, .iaload, 0, 0, 0, .null), (1, .iload_n 2, 0, 0, 0, .null), (1, .iadd, 0, 0, 0, .null), (1, .iastore, 0, 0, 0, .null), (1, .aload_n 0, 0, 0, 0, .null), (3, .getfield 234, 14, 21, 0, .null), (1, .iconst 1, 0, 0, 0, .int 1), (1, .dup2, 0, 0, 0, .null), (1, .iaload, 0, 0, 0, .null), (1, .iload_n 3, 0, 0, 0, .null), (1, .iadd, 0, 0, 0, .null), (1, .iastore, 0, 0, 0, .null), (1, .aload_n 0, 0, 0, 0, .null), (3, .getfield 234, 14, 21, 0, .null), (1, .iconst 2, 0, 0, 0, .int 2), (1, .dup2, 0, 0, 0, .null), (1, .iaload, 0, 0, 0, .null), (2, .iload 4, 0, 0, 0, .null), (1, .iadd, 0, 0, 0, .null), (1, .iastore, 0, 0, 0, .null), (1, .aload_n 0, 0, 0, 0, .null), (3, .getfield 234, 14, 21, 0, .null), (1, .iconst 3, 0, 0, 0, .int 3), (1, .dup2, 0, 0, 0, .null), (1, .iaload, 0, 0, 0, .null), (2, .iload 5, 0, 0, 0, .null), (1, .iadd, 0, 0, 0, .null), (1, .iastore, 0, 0, 0, .null), (1, .aload_n 0, 0, 0, 0, .null), (3, .getfield 234, 14, 21, 0, .null), (1, .iconst 4, 0, 0, 0, .int 4), (1, .dup2, 0, 0, 0, .null), (1, .iaload, 0, 0, 0, .null), (2, .iload 6, 0, 0, 0, .null), (1, .iadd, 0, 0, 0, .null), (1, .iastore, 0, 0, 0, .null), (1, .aload_n 0, 0, 0, 0, .null), (3, .getfield 234, 14, 21, 0, .null), (1, .iconst 5, 0, 0, 0, .int 5), (1, .dup2, 0, 0, 0, .null), (1, .iaload, 0, 0, 0, .null), (2, .iload 7, 0, 0, 0, .null), (1, .iadd, 0, 0, 0, .null), (1, .iastore, 0, 0, 0, .null), (1, .aload_n 0, 0, 0, 0, .null), (3, .getfield 234, 14, 21, 0, .null), (2, .bipush 6, 0, 0, 0, .int 6), (1, .dup2, 0, 0, 0, .null), (1, .iaload, 0, 0, 0, .null), (2, .iload 8, 0, 0, 0, .null), (1, .iadd, 0, 0, 0, .null), (1, .iastore, 0, 0, 0, .null), (1, .aload_n 0, 0, 0, 0, .null), (3, .getfield 234, 14, 21, 0, .null), (2, .bipush 7, 0, 0, 0, .int 7), (1, .dup2, 0, 0, 0, .null), (1, .iaload, 0, 0, 0, .null), (2, .iload 9, 0, 0, 0, .null), (1, .iadd, 0, 0, 0, .null), (1, .iastore, 0, 0, 0, .null), (1, .return_, 0, 0, 0, .null)]
set_option maxRecDepth 20000 in
theorem oX14_block_366 : vm_okB 14 mX14_block 366 bX14_block_366 = true := by decide +kernel
def bX14_h3_0 : List vm_J := [(1, .aload_n 0, 0, 0, 0, .null), (3, .sipush 128, 0, 0, 0, .int 128), (2, .bipush 16, 0, 0, 0, .int 16), (3, .invokevirtual 230, 170, 2, 14, .null), (1, .iconst 0, 0, 0, 0, .int 0), (1, .istore_n 1, 0, 0, 0, .null)]
set_option maxRecDepth 20000 in
theorem oX14_h3_0 : vm_okB 14 mX14_h3 0 bX14_h3_0 = true := by decide +kernel
def bX14_h3_11 : List vm_J := [(1, .iload_n 1, 0, 0, 0, .null), (2, .bipush 8, 0, 0, 0, .int 8), (3, .if_icmp .ge 20, 34, 0, 0, .null), (1, .aload_n 0, 0, 0, 0, .null), (3, .getfield 256, 14, 23, 0, .null), (1, .iload_n 1, 0, 0, 0, .null), (3, .getstatic 260, 10, 0, 0, .null), (1, .iload_n 1, 0, 0, 0, .null), (1, .laload, 0, 0, 0, .null), (1, .lastore, 0, 0, 0, .null), (3, .iinc 1 1, 0, 0, 0, .int 1), (3, .goto (-20), 11, 0, 0, .null)]
set_option maxRecDepth 20000 in
theorem oX14_h3_11 : vm_okB 14 mX14_h3 11 bX14_h3_11 = true := by decide +kernel
def bX14_h3_34 : List vm_J := [(1, .iconst 0, 0, 0, 0, .int 0), (1, .istore_n 1, 0, 0, 0, .null)]
set_option maxRecDepth 20000 in
theorem oX14_h3_34 : vm_okB 14 mX14_h3 34 bX14_h3_34 = true := by decide +kernel
def bX14_h3_36 : List vm_J := [(1, .iload_n 1, 0, 0, 0, .null), (1, .aload_n 0, 0, 0, 0, .null), (3, .getfield 203, 14, 19, 0, .null), (3, .if_icmp .ge 17, 58, 0, 0, .null), (1, .aload_n 0, 0, 0, 0, .null), (1, .iload_n 1, 0, 0, 0, .null), (3, .invokevirtual 263, 176, 1, 14, .null), (6, .iinc 1 128, 0, 0, 0, .int 128), (3, .goto (-19), 36, 0, 0, .null)]
set_option maxRecDepth 20000 in
theorem oX14_h3_36 : vm_okB 14 mX14_h3 36 bX14_h3_36 = true := by decide +kernel
def bX14_h3_58 : List vm_J := [(1, .iconst 0, 0, 0, 0, .int 0), (1, .istore_n 1, 0, 0, 0, .null)]
set_option maxRecDepth 20000 in
theorem oX14_h3_58 : vm_okB 14 mX14_h3 58 bX14_h3_58 = true := by decide +kernel
def bX14_h3_60 : List vm_J := [(1, .iload_n 1, 0, 0, 0, .null), (2, .bipush 48, 0, 0, 0, .int 48), (3, .if_icmp .ge 37, 100, 0, 0, .null), (1, .aload_n 0, 0, 0, 0, .null), (3, .getfield 243, 14, 20, 0, .null), (1, .iload_n 1, 0, 0, 0, .null), (1, .aload_n 0, 0, 0, 0, .null), (3, .getfield 256, 14, 23, 0, .null), (1, .iload_n 1, 0, 0, 0, .null), (2, .bipush 8, 0, 0, 0, .int 8), (1, .idiv, 0, 0, 0, .null), (1, .laload, 0, 0, 0, .null), (2, .bipush 56, 0, 0, 0, .int 56), (2, .bipush 8, 0, 0, 0, .int 8), (1, .iload_n 1, 0, 0, 0, .null), (2, .bipush 8, 0, 0, 0, .int 8), (1, .irem, 0, 0, 0, .null), (1, .imul, 0, 0, 0, .null), (1, .isub, 0, 0, 0, .null), (1, .lshr, 0, 0, 0, .null), (1, .l2i, 0, 0, 0, .null), (1, .i2b, 0, 0, 0, .null), (1, .bastore, 0, 0, 0, .null), (3, .iinc 1 1, 0, 0, 0, .int 1), (3, .goto (-37), 60, 0, 0, .null)]
set_option maxRecDepth 20000 in
theorem oX14_h3_60 : vm_okB 14 mX14_h3 60 bX14_h3_60 = true := by decide +kernel
def bX14_h3_100 : List vm_J := [(1, .aload_n 0, 0, 0, 0, .null), (1, .iconst 0, 0, 0, 0, .int 0), (3, .putfield 203, 14, 19, 0, .null), (1, .return_, 0, 0, 0, .null)]
set_option maxRecDepth 20000 in
theorem oX14_h3_100 : vm_okB 14 mX14_h3 100 bX14_h3_100 = true := by decide +kernel
def bX14_wideBlock_0 : List vm_J := [(1, .iconst 0, 0, 0, 0, .int 0), (1, .istore_n 2, 0, 0, 0, .null)]
set_option maxRecDepth 20000 in
theorem oX14_wideBlock_0 : vm_okB 14 mX14_wideBlock 0 bX14_wideBlock_0 = true := by decide +kernel
def bX14_wideBlock_2 : List vm_J := [(1, .iload_n 2, 0, 0, 0, .null), (2, .bipush 80, 0, 0, 0, .int 80), (3, .if_icmp .ge 158, 163, 0, 0, .null), (1, .iload_n 2, 0, 0, 0, .null), (2, .bipush 16, 0, 0, 0, .int 16), (3, .if_icmp .ge 61, 72, 0, 0, .null), (1, .aload_n 0, 0, 0, 0, .null), (3, .getfield 266, 14, 24, 0, .null), (1, .iload_n 2, 0, 0, 0, .null), (1, .lconst 0, 0, 0, 0, .long 0), (1, .lastore, 0, 0, 0, .null), (1, .iconst 0, 0, 0, 0, .int 0), (1, .istore_n 3, 0, 0, 0, .null)]
set_option maxRecDepth 20000 in
theorem oX14_wideBlock_2 : vm_okB 14 mX14_wideBlock 2 bX14_wideBlock_2 = true := by decide +kernel
def bX14_wideBlock_23 : List vm_J := [(1, .iload_n 3, 0, 0, 0, .null), (2, .bipush 8, 0, 0, 0, .int 8), (3, .if_icmp .ge 43, 69, 0, 0, .null), (1, .aload_n 0, 0, 0, 0, .null), (3, .getfield 266, 14, 24, 0, .null), (1, .iload_n 2, 0, 0, 0, .null), (1, .aload_n 0, 0, 0, 0, .null), (3, .getfield 266, 14, 24, 0, .null), (1, .iload_n 2, 0, 0, 0, .null), (1, .laload, 0, 0, 0, .null), (2, .bipush 8, 0, 0, 0, .int 8), (1, .lshl, 0, 0, 0, .null), (1, .aload_n 0, 0, 0, 0, .null), (3, .getfield 199, 14, 18, 0, .null), (1, .iload_n 1, 0, 0, 0, .null), (2, .bipush 8, 0, 0, 0, .int 8), (1, .iload_n 2, 0, 0, 0, .null), (1, .imul, 0, 0, 0, .null), (1, .iadd, 0, 0, 0, .null), (1, .iload_n 3, 0, 0, 0, .null), (1, .iadd, 0, 0, 0, .null), (1, .baload, 0, 0, 0, .null), (3, .sipush 255, 0, 0, 0, .int 255), (1, .iand, 0, 0, 0, .null), (1, .i2l, 0, 0, 0, .null), (1, .lor, 0, 0, 0, .null), (1, .lastore, 0, 0, 0, .null), (3, .iinc 3 1, 0, 0, 0, .int 1), (3, .goto (-43), 23, 0, 0, .null)]
set_option maxRecDepth 20000 in
theorem oX14_wideBlock_23 : vm_okB 14 mX14_wideBlock 23 bX14_wideBlock_23 = true := by decide +kernel
def bX14_wideBlock_69 : List vm_J := [(3, .goto 88, 157, 0, 0, .null)]
set_option maxRecDepth 20000 in
theorem oX14_wideBlock_69 : vm_okB 14 mX14_wideBlock 69 bX14_wideBlock_69 = true := by decide +kernel
def bX14_wideBlock_72 : List vm_J := [(1, .aload_n 0, 0, 0, 0, .null), (3, .getfield 266, 14, 24, 0, .null), (1, .iload_n 2, 0, 0, 0, .null), (2, .bipush 15, 0, 0, 0, .int 15), (1, .isub, 0, 0, 0, .null), (1, .laload, 0, 0, 0, .null), (1, .lstore_n 3, 0, 0, 0, .null), (1, .aload_n 0, 0, 0, 0, .null), (3, .getfield 266, 14, 24, 0, .null), (1, .iload_n 2, 0, 0, 0, .null), (1, .iconst 2, 0, 0, 0, .int 2), (1, .isub, 0, 0, 0, .null), (1, .laload, 0, 0, 0, .null), (2, .lstore 5, 0, 0, 0, .null), (1, .aload_n 0, 0, 0, 0, .null), (3, .getfield 266, 14, 24, 0, .null), (1, .iload_n 2, 0, 0, 0, .null), (1, .aload_n 0, 0, 0, 0, .null), (3, .getfield 266, 14, 24, 0, .null), (1, .iload_n 2, 0, 0, 0, .null), (2, .bipush 16, 0, 0, 0, .int 16), (1, .isub, 0, 0, 0, .null), (1, .laload, 0, 0, 0, .null), (1, .aload_n 0, 0, 0, 0, .null), (3, .getfield 266, 14, 24, 0, .null), (1, .iload_n 2, 0, 0, 0, .null), (2, .bipush 7, 0, 0, 0, .int 7), (1, .isub, 0, 0, 0, .null), (1, .laload, 0, 0, 0, .null), (1, .ladd, 0, 0, 0, .null), (1, .lload_n 3, 0, 0, 0, .null), (1, .iconst 1, 0, 0, 0, .int 1), (3, .invokestatic 269, 172, 2, 0, .null), (1, .lload_n 3, 0, 0, 0, .null), (2, .bipush 8, 0, 0, 0, .int 8), (3, .invokestatic 269, 172, 2, 0, .null), (1, .lxor, 0, 0, 0, .null), (1, .lload_n 3, 0, 0, 0, .null), (2, .bipush 7, 0, 0, 0, .int 7), (1, .lushr, 0, 0, 0, .null), (1, .lxor, 0, 0, 0, .null), (1, .ladd, 0, 0, 0, .null), (2, .lload 5, 0, 0, 0, .null), (2, .bipush 19, 0, 0, 0, .int 19), (3, .invokestatic 269, 172, 2, 0, .null), (2, .lload 5, 0, 0, 0, .null), (2, .bipush 61, 0, 0, 0, .int 61), (3, .invokestatic 269, 172, 2, 0, .null), (1, .lxor, 0, 0, 0, .null), (2, .lload 5, 0, 0, 0, .null), (2, .bipush 6, 0, 0, 0, .int 6), (1, .lushr, 0, 0, 0, .null), (1, .lxor, 0, 0, 0, .null), (1, .ladd, 0, 0, 0, .null), (1, .lastore, 0, 0, 0, .null)]
set_option maxRecDepth 20000 in
theorem oX14_wideBlock_72 : vm_okB 14 mX14_wideBlock 72 bX14_wideBlock_72 = true := by decide +kernel
def bX14_wideBlock_157 : List vm_J := [(3, .iinc 2 1, 0, 0, 0, .int 1), (3, .goto (-158), 2, 0, 0, .null)]
set_option maxRecDepth 20000 in
theorem oX14_wideBlock_157 : vm_okB 14 mX14_wideBlock 157 bX14_wideBlock_157 = true := by decide +kernel
def bX14_wideBlock_163 : List vm_J := [(1, .aload_n 0, 0, 0, 0, .null), (3, .getfield 256, 14, 23, 0, .null), (1, .iconst 0, 0, 0, 0, .int 0), (1, .laload, 0, 0, 0, .null), (1, .lstore_n 2, 0, 0, 0, .null), (1, .aload_n 0, 0, 0, 0, .null), (3, .getfield 256, 14, 23, 0, .null), (1, .iconst 1, 0, 0, 0, .int 1), (1, .laload, 0, 0, 0, .null), (2, .lstore 4, 0, 0, 0, .null), (1, .aload_n 0, 0, 0, 0, .null), (3, .getfield 256, 14, 23, 0, .null), (1, .iconst 2, 0, 0, 0, .int 2), (1, .laload, 0, 0, 0, .null), (2, .lstore 6, 0, 0, 0, .null), (1, .aload_n 0, 0, 0, 0, .null), (3, .getfield 256, 14, 23, 0, .null), (1, .iconst 3, 0, 0, 0, .int 3), (1, .laload, 0, 0, 0, .null), (2, .lstore 8, 0, 0, 0, .null), (1, .aload_n 0, 0, 0, 0, .null), (3, .getfield 256, 14, 23, 0, .null), (1, .iconst 4, 0, 0, 0, .int 4), (1, .laload, 0, 0, 0, .null), (2, .lstore 10, 0, 0, 0, .null), (1, .aload_n 0, 0, 0, 0, .null), (3, .getfield 256, 14, 23, 0, .null), (1, .iconst 5, 0, 0, 0, .int 5), (1, .laload, 0, 0, 0, .null), (2, .lstore 12, 0, 0, 0, .null), (1, .aload_n 0, 0, 0, 0, .null), (3, .getfield 256, 14, 23, 0, .null), (2, .bipush 6, 0, 0, 0, .int 6), (1, .laload, 0, 0, 0, .null), (2, .lstore 14, 0, 0, 0, .null), (1, .aload_n 0, 0, 0, 0, .null), (3, .getfield 256, 14, 23, 0, .null), (2, .bipush 7, 0, 0, 0, .int 7), (1, .laload, 0, 0, 0, .null), (2, .lstore 16, 0, 0, 0, .null), (1, .iconst 0, 0, 0, 0, .int 0), (2, .istore 18, 0, 0, 0, .null)]
set_option maxRecDepth 20000 in
theorem oX14_wideBlock_163 : vm_okB 14 mX14_wideBlock 163 bX14_wideBlock_163 = true := by decide +kernel
def bX14_wideBlock_231 : List vm_J := [(2, .iload 18, 0, 0, 0, .null), (2, .bipush 80, 0, 0, 0, .int 80), (3, .if_icmp .ge 142, 377, 0, 0, .null), (2, .lload 16, 0, 0, 0, .null), (2, .lload 10, 0, 0, 0, .null), (2, .bipush 14, 0, 0, 0, .int 14), (3, .invokestatic 269, 172, 2, 0, .null), (2, .lload 10, 0, 0, 0, .null), (2, .bipush 18, 0, 0, 0, .int 18), (3, .invokestatic 269, 172, 2, 0, .null), (1, .lxor, 0, 0, 0, .null), (2, .lload 10, 0, 0, 0, .null), (2, .bipush 41, 0, 0, 0, .int 41), (3, .invokestatic 269, 172, 2, 0, .null), (1, .lxor, 0, 0, 0, .null), (1, .ladd, 0, 0, 0, .null), (2, .lload 10, 0, 0, 0, .null), (2, .lload 12, 0, 0, 0, .null), (1, .land, 0, 0, 0, .null), (2, .lload 10, 0, 0, 0, .null), (3, .ldc2_w 272, 0, 0, 0, .long (-1)), (1, .lxor, 0, 0, 0, .null), (2, .lload 14, 0, 0, 0, .null), (1, .land, 0, 0, 0, .null), (1, .lxor, 0, 0, 0, .null), (1, .ladd, 0, 0, 0, .null), (3, .getstatic 274, 11, 0, 0, .null), (2, .iload 18, 0, 0, 0, .null), (1, .laload, 0, 0, 0, .null), (1, .ladd, 0, 0, 0, .null), (1, .aload_n 0, 0, 0, 0, .null), (3, .getfield 266, 14, 24, 0, .null), (2, .iload 18, 0, 0, 0, .null), (1, .laload, 0, 0, 0, .null), (1, .ladd, 0, 0, 0, .null), (2, .lstore 19, 0, 0, 0, .null), (1, .lload_n 2, 0, 0, 0, .null), (2, .bipush 28, 0, 0, 0, .int 28), (3, .invokestatic 269, 172, 2, 0, .null), (1, .lload_n 2, 0, 0, 0, .null), (2, .bipush 34, 0, 0, 0, .int 34), (3, .invokestatic 269, 172, 2, 0, .null), (1, .lxor, 0, 0, 0, .null), (1, .lload_n 2, 0, 0, 0, .null), (2, .bipush 39, 0, 0, 0, .int 39), (3, .invokestatic 269, 172, 2, 0, .null), (1, .lxor, 0, 0, 0, .null), (1, .lload_n 2, 0, 0, 0, .null), (2, .lload 4, 0, 0, 0, .null), (1, .land, 0, 0, 0, .null), (1, .lload_n 2, 0, 0, 0, .null), (2, .lload 6, 0, 0, 0, .null), (1, .land, 0, 0, 0, .null), (1, .lxor, 0, 0, 0, .null), (2, .lload 4, 0, 0, 0, .null), (2, .lload 6, 0, 0, 0, .null), (1, .land, 0, 0, 0, .null), (1, .lxor, 0, 0, 0, .null), (1, .ladd, 0, 0, 0, .null), (2, .lstore 21, 0, 0, 0, .null), (2, .lload 14, 0, 0, 0, .null), (2, .lstore 16, 0, 0, 0, .null), (2, .lload 12, 0, 0, 0, .null), (2, .lstore 14, 0, 0, 0, .null), (2, .lload 10, 0, 0, 0, .null), (2, .lstore 12, 0, 0, 0, .null), (2, .lload 8, 0, 0, 0, .null), (2, .lload 19, 0, 0, 0, .null), (1, .ladd, 0, 0, 0, .null), (2, .lstore 10, 0, 0, 0, .null), (2, .lload 6, 0, 0, 0, .null), (2, .lstore 8, 0, 0, 0, .null), (2, .lload 4, 0, 0, 0, .null), (2, .lstore 6, 0, 0, 0, .null), (1, .lload_n 2, 0, 0, 0, .null), (2, .lstore 4, 0, 0, 0, .null), (2, .lload 19, 0, 0, 0, .null), (2, .lload 21, 0, 0, 0, .null), (1, .ladd, 0, 0, 0, .null), (1, .lstore_n 2, 0, 0, 0, .null), (3, .iinc 18 1, 0, 0, 0, .int 1), (3, .goto (-143), 231, 0, 0, .null)]
set_option maxRecDepth 20000 in
theorem oX14_wideBlock_231 : vm_okB 14 mX14_wideBlock 231 bX14_wideBlock_231 = true := by decide +kernel
def bX14_wideBlock_377 : List vm_J := [(1, .aload_n 0, 0, 0, 0, .null), (3, .getfield 256, 14, 23, 0, .null), (1, .iconst 0, 0, 0, 0, .int 0), (1, .dup2, 0, 0, 0, .null), (1, .laload, 0, 0, 0, .null), (1, .lload_n 2, 0, 0, 0, .null), (1, .ladd, 0, 0, 0, .null), (1, .lastore, 0, 0, 0, .null), (1, .aload_n 0, 0, 0, 0, .null), (3, .getfield 256, 14, 23, 0, .null), (1, .iconst 1, 0, 0, 0, .int 1), (1, .dup2, 0, 0, 0, .null), (1, .laload, 0, 0, 0, .null), (2, .lload 4, 0, 0, 0, .null), (1, .ladd, 0, 0, 0, .null), (1, .lastore, 0, 0, 0, .null), (1, .aload_n 0, 0, 0, 0, .null), (3, .getfield 256, 14, 23, 0, .null), (1, .iconst 2, 0, 0, 0, .int 2), (1, .dup2, 0, 0, 0, .null), (1, .laload, 0, 0, 0, .null), (2, .lload 6, 0, 0, 0, .null), (1, .ladd, 0, 0, 0, .null), (1, .lastore, 0, 0, 0, .null), (1, .aload_n 0, 0, 0, 0, .null), (3, .getfield 256, 14, 23, 0, .null), (1, .iconst 3, 0, 0, 0, .int 3), (1, .dup2, 0, 0, 0, .null), (1, .laload, 0, 0, 0, .null), (2, .lload 8, 0, 0, 0, .null), (1, .ladd, 0, 0, 0, .null), (1, .lastore, 0, 0, 0, .null), (1, .aload_n 0, 0, 0, 0, .null), (3, .getfield 256, 14, 23, 0, .null), (1, .iconst 4, 0, 0, 0, .int 4), (1, .dup2, 0, 0, 0, .null), (1, .laload, 0, 0, 0, .null), (2, .lload 10, 0, 0, 0, .null), (1, .ladd, 0, 0, 0, .null), (1, .lastore, 0, 0, 0, .null), (1, .aload_n 0, 0, 0, 0, .null), (3, .getfield 256, 14, 23, 0, .null), (1, .iconst 5, 0, 0, 0, .int 5), (1, .dup2, 0, 0, 0, .null), (1, .laload, 0, 0, 0, .null), (2, .lload 12, 0, 0, 0, .null), (1, .ladd, 0, 0, 0, .null), (1, .lastore, 0, 0, 0, .null), (1, .aload_n 0, 0, 0, 0, .null), (3, .getfield 256, 14, 23, 0, .null), (2, .bipush 6, 0, 0, 0, .int 6), (1, .dup2, 0, 0, 0, .null), (1, .laload, 0, 0, 0, .null), (2, .lload 14, 0, 0, 0, .null), (1, .ladd, 0, 0, 0, .null), (1, .lastore, 0, 0, 0, .null), (1, .aload_n 0, 0, 0, 0, .null), (3, .getfield 256, 14, 23, 0, .null), (2, .bipush 7, 0, 0, 0, .int 7), (1, .dup2, 0, 0, 0, .null), (1, .laload, 0, 0, 0, .null), (2, .lload 16, 0, 0, 0, .null), (1, .ladd, 0, 0, 0, .null), (1, .lastore, 0, 0, 0, .null), (1, .return_, 0, 0, 0, .null)]
set_option maxRecDepth 20000 in
theorem oX14_wideBlock_377 : vm_okB 14 mX14_wideBlock 377 bX14_wideBlock_377 = true := by decide +kernel
def bX14_tags_0 : List vm_J := [(1, .aload_n 0, 0, 0, 0, .null), (1, .iconst 0, 0, 0, 0, .int 0), (3, .putfield 203, 14, 19, 0, .null), (1, .aload_n 0, 0, 0, 0, .null), (1, .aload_n 1, 0, 0, 0, .null), (3, .invokevirtual 222, 168, 1, 14, .null), (1, .aload_n 0, 0, 0, 0, .null), (3, .invokevirtual 277, 169, 0, 14, .null), (1, .iconst 0, 0, 0, 0, .int 0), (1, .istore_n 2, 0, 0, 0, .null)]
set_option maxRecDepth 20000 in
theorem oX14_tags_0 : vm_okB 14 mX14_tags 0 bX14_tags_0 = true := by decide +kernel
def bX14_tags_16 : List vm_J := [(1, .iload_n 2, 0, 0, 0, .null), (1, .aload_n 0, 0, 0, 0, .null), (3, .getfield 203, 14, 19, 0, .null), (3, .if_icmp .ge 21, 42, 0, 0, .null), (1, .aload_n 0, 0, 0, 0, .null), (3, .getfield 281, 14, 27, 0, .null), (1, .iload_n 2, 0, 0, 0, .null), (1, .aload_n 0, 0, 0, 0, .null), (3, .getfield 199, 14, 18, 0, .null), (1, .iload_n 2, 0, 0, 0, .null), (1, .baload, 0, 0, 0, .null), (1, .bastore, 0, 0, 0, .null), (3, .iinc 2 1, 0, 0, 0, .int 1), (3, .goto (-23), 16, 0, 0, .null)]
set_option maxRecDepth 20000 in
theorem oX14_tags_16 : vm_okB 14 mX14_tags 16 bX14_tags_16 = true := by decide +kernel
def bX14_tags_42 : List vm_J := [(1, .aload_n 0, 0, 0, 0, .null), (1, .aload_n 0, 0, 0, 0, .null), (3, .getfield 203, 14, 19, 0, .null), (3, .putfield 284, 14, 28, 0, .null), (1, .aload_n 0, 0, 0, 0, .null), (1, .iconst 0, 0, 0, 0, .int 0), (3, .putfield 203, 14, 19, 0, .null), (1, .return_, 0, 0, 0, .null)]
set_option maxRecDepth 20000 in
theorem oX14_tags_42 : vm_okB 14 mX14_tags 42 bX14_tags_42 = true := by decide +kernel
def bX14_endsTag_0 : List vm_J := [(1, .aload_n 0, 0, 0, 0, .null), (1, .aload_n 0, 0, 0, 0, .null), (3, .getfield 281, 14, 27, 0, .null), (1, .iconst 0, 0, 0, 0, .int 0), (1, .aload_n 0, 0, 0, 0, .null), (3, .getfield 284, 14, 28, 0, .null), (3, .invokevirtual 287, 166, 3, 14, .null), (1, .aload_n 0, 0, 0, 0, .null), (1, .aload_n 0, 0, 0, 0, .null), (3, .getfield 284, 14, 28, 0, .null), (3, .invokevirtual 206, 165, 1, 14, .null), (1, .return_, 0, 0, 0, .null)]
set_option maxRecDepth 20000 in
theorem oX14_endsTag_0 : vm_okB 14 mX14_endsTag 0 bX14_endsTag_0 = true := by decide +kernel
