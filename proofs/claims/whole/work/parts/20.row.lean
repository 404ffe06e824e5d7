/-! code of Row, Point, Key, Asking, SpentDisk, and of the JDK: Math, Long, Integer (written by wip/gen/code.py) -/
def bX9_init_0 : List vm_J := [(1, .aload_n 0, 0, 0, 0, .null), (3, .invokespecial 1, 9999, 0, 0, .null), (1, .aload_n 0, 0, 0, 0, .null), (1, .iconst 0, 0, 0, 0, .int 0), (3, .putfield 7, 9, 1, 0, .null), (1, .aload_n 0, 0, 0, 0, .null), (1, .iload_n 1, 0, 0, 0, .null), (2, .newarray .byte, 0, 0, 0, .null), (3, .putfield 13, 9, 0, 4, .null), (1, .return_, 0, 0, 0, .null)]
set_option maxRecDepth 20000 in
theorem oX9_init_0 : vm_okB 9 mX9_init 0 bX9_init_0 = true := by decide +kernel
def bX9_same_0 : List vm_J := [(1, .iconst 0, 0, 0, 0, .int 0), (2, .istore 5, 0, 0, 0, .null)]
set_option maxRecDepth 20000 in
theorem oX9_same_0 : vm_okB 9 mX9_same 0 bX9_same_0 = true := by decide +kernel
def bX9_same_3 : List vm_J := [(2, .iload 5, 0, 0, 0, .null), (2, .iload 4, 0, 0, 0, .null), (3, .if_icmp .ge 26, 33, 0, 0, .null), (1, .aload_n 0, 0, 0, 0, .null), (1, .iload_n 1, 0, 0, 0, .null), (2, .iload 5, 0, 0, 0, .null), (1, .iadd, 0, 0, 0, .null), (1, .baload, 0, 0, 0, .null), (1, .aload_n 2, 0, 0, 0, .null), (1, .iload_n 3, 0, 0, 0, .null), (2, .iload 5, 0, 0, 0, .null), (1, .iadd, 0, 0, 0, .null), (1, .baload, 0, 0, 0, .null), (3, .if_icmp .eq 5, 27, 0, 0, .null), (1, .iconst 0, 0, 0, 0, .int 0), (1, .ireturn, 0, 0, 0, .null)]
set_option maxRecDepth 20000 in
theorem oX9_same_3 : vm_okB 9 mX9_same 3 bX9_same_3 = true := by decide +kernel
def bX9_same_27 : List vm_J := [(3, .iinc 5 1, 0, 0, 0, .int 1), (3, .goto (-27), 3, 0, 0, .null)]
set_option maxRecDepth 20000 in
theorem oX9_same_27 : vm_okB 9 mX9_same 27 bX9_same_27 = true := by decide +kernel
def bX9_same_33 : List vm_J := [(1, .iconst 1, 0, 0, 0, .int 1), (1, .ireturn, 0, 0, 0, .null)]
set_option maxRecDepth 20000 in
theorem oX9_same_33 : vm_okB 9 mX9_same 33 bX9_same_33 = true := by decide +kernel
def bX9_isLess_0 : List vm_J := [(1, .iconst 0, 0, 0, 0, .int 0), (2, .istore 5, 0, 0, 0, .null)]
set_option maxRecDepth 20000 in
theorem oX9_isLess_0 : vm_okB 9 mX9_isLess 0 bX9_isLess_0 = true := by decide +kernel
def bX9_isLess_3 : List vm_J := [(2, .iload 5, 0, 0, 0, .null), (2, .iload 4, 0, 0, 0, .null), (3, .if_icmp .ge 53, 60, 0, 0, .null), (1, .aload_n 0, 0, 0, 0, .null), (1, .iload_n 1, 0, 0, 0, .null), (2, .iload 5, 0, 0, 0, .null), (1, .iadd, 0, 0, 0, .null), (1, .baload, 0, 0, 0, .null), (3, .sipush 255, 0, 0, 0, .int 255), (1, .iand, 0, 0, 0, .null), (2, .istore 6, 0, 0, 0, .null), (1, .aload_n 2, 0, 0, 0, .null), (1, .iload_n 3, 0, 0, 0, .null), (2, .iload 5, 0, 0, 0, .null), (1, .iadd, 0, 0, 0, .null), (1, .baload, 0, 0, 0, .null), (3, .sipush 255, 0, 0, 0, .int 255), (1, .iand, 0, 0, 0, .null), (2, .istore 7, 0, 0, 0, .null), (2, .iload 6, 0, 0, 0, .null), (2, .iload 7, 0, 0, 0, .null), (3, .if_icmp .eq 16, 54, 0, 0, .null), (2, .iload 6, 0, 0, 0, .null), (2, .iload 7, 0, 0, 0, .null), (3, .if_icmp .ge 7, 52, 0, 0, .null), (1, .iconst 1, 0, 0, 0, .int 1), (3, .goto 4, 53, 0, 0, .null)]
set_option maxRecDepth 20000 in
theorem oX9_isLess_3 : vm_okB 9 mX9_isLess 3 bX9_isLess_3 = true := by decide +kernel
def bX9_isLess_52 : List vm_J := [(1, .iconst 0, 0, 0, 0, .int 0)]
set_option maxRecDepth 20000 in
theorem oX9_isLess_52 : vm_okB 9 mX9_isLess 52 bX9_isLess_52 = true := by decide +kernel
def bX9_isLess_53 : List vm_J := [(1, .ireturn, 0, 0, 0, .null)]
set_option maxRecDepth 20000 in
theorem oX9_isLess_53 : vm_okB 9 mX9_isLess 53 bX9_isLess_53 = true := by decide +kernel
def bX9_isLess_54 : List vm_J := [(3, .iinc 5 1, 0, 0, 0, .int 1), (3, .goto (-54), 3, 0, 0, .null)]
set_option maxRecDepth 20000 in
theorem oX9_isLess_54 : vm_okB 9 mX9_isLess 54 bX9_isLess_54 = true := by decide +kernel
def bX9_isLess_60 : List vm_J := [(1, .iconst 0, 0, 0, 0, .int 0), (1, .ireturn, 0, 0, 0, .null)]
set_option maxRecDepth 20000 in
theorem oX9_isLess_60 : vm_okB 9 mX9_isLess 60 bX9_isLess_60 = true := by decide +kernel
def bX9_isZero_0 : List vm_J := [(1, .iconst 0, 0, 0, 0, .int 0), (1, .istore_n 3, 0, 0, 0, .null)]
set_option maxRecDepth 20000 in
theorem oX9_isZero_0 : vm_okB 9 mX9_isZero 0 bX9_isZero_0 = true := by decide +kernel
def bX9_isZero_2 : List vm_J := [(1, .iload_n 3, 0, 0, 0, .null), (1, .iload_n 2, 0, 0, 0, .null), (3, .if_icmp .ge 19, 23, 0, 0, .null), (1, .aload_n 0, 0, 0, 0, .null), (1, .iload_n 1, 0, 0, 0, .null), (1, .iload_n 3, 0, 0, 0, .null), (1, .iadd, 0, 0, 0, .null), (1, .baload, 0, 0, 0, .null), (3, .ifCond .eq 5, 17, 0, 0, .null), (1, .iconst 0, 0, 0, 0, .int 0), (1, .ireturn, 0, 0, 0, .null)]
set_option maxRecDepth 20000 in
theorem oX9_isZero_2 : vm_okB 9 mX9_isZero 2 bX9_isZero_2 = true := by decide +kernel
def bX9_isZero_17 : List vm_J := [(3, .iinc 3 1, 0, 0, 0, .int 1), (3, .goto (-18), 2, 0, 0, .null)]
set_option maxRecDepth 20000 in
theorem oX9_isZero_17 : vm_okB 9 mX9_isZero 17 bX9_isZero_17 = true := by decide +kernel
def bX9_isZero_23 : List vm_J := [(1, .iconst 1, 0, 0, 0, .int 1), (1, .ireturn, 0, 0, 0, .null)]
set_option maxRecDepth 20000 in
theorem oX9_isZero_23 : vm_okB 9 mX9_isZero 23 bX9_isZero_23 = true := by decide +kernel
def bX9_hasRoom_0 : List vm_J := [(1, .iload_n 1, 0, 0, 0, .null), (1, .aload_n 0, 0, 0, 0, .null), (3, .getfield 13, 9, 0, 0, .null), (1, .arraylength, 0, 0, 0, .null), (1, .aload_n 0, 0, 0, 0, .null), (3, .getfield 7, 9, 1, 0, .null), (1, .isub, 0, 0, 0, .null), (3, .if_icmp .gt 7, 18, 0, 0, .null), (1, .iconst 1, 0, 0, 0, .int 1), (3, .goto 4, 19, 0, 0, .null)]
set_option maxRecDepth 20000 in
theorem oX9_hasRoom_0 : vm_okB 9 mX9_hasRoom 0 bX9_hasRoom_0 = true := by decide +kernel
def bX9_hasRoom_18 : List vm_J := [(1, .iconst 0, 0, 0, 0, .int 0)]
set_option maxRecDepth 20000 in
theorem oX9_hasRoom_18 : vm_okB 9 mX9_hasRoom 18 bX9_hasRoom_18 = true := by decide +kernel
def bX9_hasRoom_19 : List vm_J := [(1, .ireturn, 0, 0, 0, .null)]
set_option maxRecDepth 20000 in
theorem oX9_hasRoom_19 : vm_okB 9 mX9_hasRoom 19 bX9_hasRoom_19 = true := by decide +kernel
def bX9_clear_0 : List vm_J := [(1, .aload_n 0, 0, 0, 0, .null), (1, .iconst 0, 0, 0, 0, .int 0), (3, .putfield 7, 9, 1, 0, .null), (1, .return_, 0, 0, 0, .null)]
set_option maxRecDepth 20000 in
theorem oX9_clear_0 : vm_okB 9 mX9_clear 0 bX9_clear_0 = true := by decide +kernel
def bX9_putByte_0 : List vm_J := [(1, .aload_n 0, 0, 0, 0, .null), (3, .getfield 7, 9, 1, 0, .null), (1, .aload_n 0, 0, 0, 0, .null), (3, .getfield 13, 9, 0, 0, .null), (1, .arraylength, 0, 0, 0, .null), (3, .if_icmp .ge 24, 33, 0, 0, .null), (1, .aload_n 0, 0, 0, 0, .null), (3, .getfield 13, 9, 0, 0, .null), (1, .aload_n 0, 0, 0, 0, .null), (3, .getfield 7, 9, 1, 0, .null), (1, .iload_n 1, 0, 0, 0, .null), (1, .i2b, 0, 0, 0, .null), (1, .bastore, 0, 0, 0, .null), (1, .aload_n 0, 0, 0, 0, .null), (1, .dup, 0, 0, 0, .null), (3, .getfield 7, 9, 1, 0, .null), (1, .iconst 1, 0, 0, 0, .int 1), (1, .iadd, 0, 0, 0, .null), (3, .putfield 7, 9, 1, 0, .null)]
set_option maxRecDepth 20000 in
theorem oX9_putByte_0 : vm_okB 9 mX9_putByte 0 bX9_putByte_0 = true := by decide +kernel
def bX9_putByte_33 : List vm_J := [(1, .return_, 0, 0, 0, .null)]
set_option maxRecDepth 20000 in
theorem oX9_putByte_33 : vm_okB 9 mX9_putByte 33 bX9_putByte_33 = true := by decide +kernel
def bX9_putNumber_0 : List vm_J := [(1, .iload_n 2, 0, 0, 0, .null), (1, .iconst 1, 0, 0, 0, .int 1), (1, .isub, 0, 0, 0, .null), (1, .istore_n 3, 0, 0, 0, .null)]
set_option maxRecDepth 20000 in
theorem oX9_putNumber_0 : vm_okB 9 mX9_putNumber 0 bX9_putNumber_0 = true := by decide +kernel
def bX9_putNumber_4 : List vm_J := [(1, .iload_n 3, 0, 0, 0, .null), (3, .ifCond .lt 19, 24, 0, 0, .null), (1, .aload_n 0, 0, 0, 0, .null), (1, .iload_n 1, 0, 0, 0, .null), (2, .bipush 8, 0, 0, 0, .int 8), (1, .iload_n 3, 0, 0, 0, .null), (1, .imul, 0, 0, 0, .null), (1, .ishr, 0, 0, 0, .null), (3, .invokevirtual 17, 90, 1, 9, .null), (3, .iinc 3 (-1), 0, 0, 0, .int (-1)), (3, .goto (-17), 4, 0, 0, .null)]
set_option maxRecDepth 20000 in
theorem oX9_putNumber_4 : vm_okB 9 mX9_putNumber 4 bX9_putNumber_4 = true := by decide +kernel
def bX9_putNumber_24 : List vm_J := [(1, .return_, 0, 0, 0, .null)]
set_option maxRecDepth 20000 in
theorem oX9_putNumber_24 : vm_okB 9 mX9_putNumber 24 bX9_putNumber_24 = true := by decide +kernel
def bX9_putText_0 : List vm_J := [(1, .iconst 0, 0, 0, 0, .int 0), (1, .istore_n 2, 0, 0, 0, .null)]
set_option maxRecDepth 20000 in
theorem oX9_putText_0 : vm_okB 9 mX9_putText 0 bX9_putText_0 = true := by decide +kernel
def bX9_putText_2 : List vm_J := [(1, .iload_n 2, 0, 0, 0, .null), (1, .aload_n 1, 0, 0, 0, .null), (3, .invokevirtual 21, 246, 0, 600, .null), (3, .if_icmp .ge 18, 25, 0, 0, .null), (1, .aload_n 0, 0, 0, 0, .null), (1, .aload_n 1, 0, 0, 0, .null), (1, .iload_n 2, 0, 0, 0, .null), (3, .invokevirtual 27, 247, 1, 600, .null), (3, .invokevirtual 17, 90, 1, 9, .null), (3, .iinc 2 1, 0, 0, 0, .int 1), (3, .goto (-20), 2, 0, 0, .null)]
set_option maxRecDepth 20000 in
theorem oX9_putText_2 : vm_okB 9 mX9_putText 2 bX9_putText_2 = true := by decide +kernel
def bX9_putText_25 : List vm_J := [(1, .return_, 0, 0, 0, .null)]
set_option maxRecDepth 20000 in
theorem oX9_putText_25 : vm_okB 9 mX9_putText 25 bX9_putText_25 = true := by decide +kernel
def bX9_putAll_0 : List vm_J := [(1, .iload_n 2, 0, 0, 0, .null), (3, .ifCond .lt 23, 24, 0, 0, .null), (1, .iload_n 3, 0, 0, 0, .null), (3, .ifCond .lt 19, 24, 0, 0, .null), (1, .iload_n 2, 0, 0, 0, .null), (1, .aload_n 1, 0, 0, 0, .null), (1, .arraylength, 0, 0, 0, .null), (1, .iload_n 3, 0, 0, 0, .null), (1, .isub, 0, 0, 0, .null), (3, .if_icmp .gt 11, 24, 0, 0, .null), (1, .aload_n 0, 0, 0, 0, .null), (1, .iload_n 3, 0, 0, 0, .null), (3, .invokevirtual 31, 88, 1, 9, .null), (3, .ifCond .ne 4, 25, 0, 0, .null)]
set_option maxRecDepth 20000 in
theorem oX9_putAll_0 : vm_okB 9 mX9_putAll 0 bX9_putAll_0 = true := by decide +kernel
def bX9_putAll_24 : List vm_J := [(1, .return_, 0, 0, 0, .null)]
set_option maxRecDepth 20000 in
theorem oX9_putAll_24 : vm_okB 9 mX9_putAll 24 bX9_putAll_24 = true := by decide +kernel
def bX9_putAll_25 : List vm_J := [(1, .aload_n 1, 0, 0, 0, .null), (1, .iload_n 2, 0, 0, 0, .null), (1, .aload_n 0, 0, 0, 0, .null), (3, .getfield 13, 9, 0, 0, .null), (1, .aload_n 0, 0, 0, 0, .null), (3, .getfield 7, 9, 1, 0, .null), (1, .iload_n 3, 0, 0, 0, .null), (3, .invokestatic 35, 9999, 0, 3, .null), (1, .aload_n 0, 0, 0, 0, .null), (1, .dup, 0, 0, 0, .null), (3, .getfield 7, 9, 1, 0, .null), (1, .iload_n 3, 0, 0, 0, .null), (1, .iadd, 0, 0, 0, .null), (3, .putfield 7, 9, 1, 0, .null), (1, .return_, 0, 0, 0, .null)]
set_option maxRecDepth 20000 in
theorem oX9_putAll_25 : vm_okB 9 mX9_putAll 25 bX9_putAll_25 = true := by decide +kernel
def bX8_init_0 : List vm_J := [(1, .aload_n 0, 0, 0, 0, .null), (3, .invokespecial 1, 9999, 0, 0, .null), (1, .aload_n 0, 0, 0, 0, .null), (1, .iload_n 1, 0, 0, 0, .null), (2, .newarray .long, 0, 0, 0, .null), (3, .putfield 7, 8, 0, 4, .null), (1, .aload_n 0, 0, 0, 0, .null), (1, .iload_n 1, 0, 0, 0, .null), (2, .newarray .long, 0, 0, 0, .null), (3, .putfield 13, 8, 1, 4, .null), (1, .aload_n 0, 0, 0, 0, .null), (1, .iload_n 1, 0, 0, 0, .null), (2, .newarray .long, 0, 0, 0, .null), (3, .putfield 16, 8, 2, 4, .null), (1, .return_, 0, 0, 0, .null)]
set_option maxRecDepth 20000 in
theorem oX8_init_0 : vm_okB 8 mX8_init 0 bX8_init_0 = true := by decide +kernel
def bX5_init_0 : List vm_J := [(1, .aload_n 0, 0, 0, 0, .null), (3, .invokespecial 3, 9999, 0, 0, .null), (1, .aload_n 0, 0, 0, 0, .null), (2, .bipush 32, 0, 0, 0, .int 32), (2, .newarray .byte, 0, 0, 0, .null), (3, .putfield 9, 5, 6, 4, .null), (1, .aload_n 0, 0, 0, 0, .null), (1, .iconst 1, 0, 0, 0, .int 1), (3, .putfield 15, 5, 8, 2, .null), (1, .aload_n 0, 0, 0, 0, .null), (1, .iload_n 1, 0, 0, 0, .null), (3, .putfield 19, 5, 0, 0, .null), (1, .aload_n 0, 0, 0, 0, .null), (1, .iload_n 2, 0, 0, 0, .null), (3, .putfield 23, 5, 1, 0, .null), (1, .aload_n 0, 0, 0, 0, .null), (1, .iload_n 1, 0, 0, 0, .null), (1, .iconst 1, 0, 0, 0, .int 1), (3, .if_icmp .ne 8, 38, 0, 0, .null), (2, .bipush 49, 0, 0, 0, .int 49), (3, .goto 4, 39, 0, 0, .null)]
set_option maxRecDepth 20000 in
theorem oX5_init_0 : vm_okB 5 mX5_init 0 bX5_init_0 = true := by decide +kernel
def bX5_init_38 : List vm_J := [(1, .iload_n 2, 0, 0, 0, .null)]
set_option maxRecDepth 20000 in
theorem oX5_init_38 : vm_okB 5 mX5_init 38 bX5_init_38 = true := by decide +kernel
def bX5_init_39 : List vm_J := [(3, .putfield 26, 5, 2, 0, .null), (1, .aload_n 0, 0, 0, 0, .null), (1, .iload_n 3, 0, 0, 0, .null), (3, .putfield 29, 5, 3, 0, .null), (1, .aload_n 0, 0, 0, 0, .null), (2, .aload 4, 0, 0, 0, .null), (3, .putfield 32, 5, 4, 4, .null), (1, .aload_n 0, 0, 0, 0, .null), (2, .aload 5, 0, 0, 0, .null), (3, .putfield 35, 5, 5, 4, .null), (1, .aload_n 0, 0, 0, 0, .null), (2, .aload 6, 0, 0, 0, .null), (3, .putfield 38, 5, 7, 4, .null), (1, .return_, 0, 0, 0, .null)]
set_option maxRecDepth 20000 in
theorem oX5_init_39 : vm_okB 5 mX5_init 39 bX5_init_39 = true := by decide +kernel
def bX0_init_0 : List vm_J := [(1, .aload_n 0, 0, 0, 0, .null), (3, .invokespecial 3, 9999, 0, 0, .null), (1, .aload_n 0, 0, 0, 0, .null), (1, .iconst 1, 0, 0, 0, .int 1), (3, .putfield 9, 0, 4, 2, .null), (1, .aload_n 0, 0, 0, 0, .null), (1, .aload_n 1, 0, 0, 0, .null), (3, .putfield 15, 0, 0, 4, .null), (1, .aload_n 0, 0, 0, 0, .null), (1, .aload_n 2, 0, 0, 0, .null), (2, .bipush 98, 0, 0, 0, .int 98), (3, .invokestatic 19, 258, 2, 0, .null), (3, .putfield 25, 0, 1, 4, .null), (1, .aload_n 0, 0, 0, 0, .null), (1, .aload_n 3, 0, 0, 0, .null), (1, .aload_n 1, 0, 0, 0, .null), (3, .getfield 29, 5, 2, 0, .null), (3, .invokestatic 19, 258, 2, 0, .null), (3, .putfield 35, 0, 2, 4, .null), (1, .aload_n 0, 0, 0, 0, .null), (2, .aload 4, 0, 0, 0, .null), (1, .aload_n 1, 0, 0, 0, .null), (3, .getfield 38, 5, 1, 0, .null), (3, .invokestatic 19, 258, 2, 0, .null), (3, .putfield 41, 0, 3, 4, .null), (1, .return_, 0, 0, 0, .null)]
set_option maxRecDepth 20000 in
theorem oX0_init_0 : vm_okB 0 mX0_init 0 bX0_init_0 = true := by decide +kernel
def bX10_init_0 : List vm_J := [(1, .aload_n 0, 0, 0, 0, .null), (3, .invokespecial 5, 9999, 0, 0, .null), (1, .aload_n 0, 0, 0, 0, .null), (3, .sipush 4096, 0, 0, 0, .int 4096), (2, .newarray .byte, 0, 0, 0, .null), (3, .putfield 11, 10, 0, 4, .null), (1, .aload_n 0, 0, 0, 0, .null), (1, .iconst 0, 0, 0, 0, .int 0), (3, .putfield 15, 10, 1, 2, .null), (1, .aload_n 0, 0, 0, 0, .null), (1, .iconst (-1), 0, 0, 0, .int (-1)), (3, .putfield 19, 10, 2, 0, .null), (1, .aload_n 0, 0, 0, 0, .null), (1, .iconst 0, 0, 0, 0, .int 0), (3, .putfield 23, 10, 3, 0, .null), (1, .return_, 0, 0, 0, .null)]
set_option maxRecDepth 20000 in
theorem oX10_init_0 : vm_okB 10 mX10_init 0 bX10_init_0 = true := by decide +kernel
def bX10_placeOf_0 : List vm_J := [(1, .iload_n 0, 0, 0, 0, .null), (2, .bipush 14, 0, 0, 0, .int 14), (1, .idiv, 0, 0, 0, .null), (3, .sipush 512, 0, 0, 0, .int 512), (1, .imul, 0, 0, 0, .null), (1, .iload_n 0, 0, 0, 0, .null), (2, .bipush 14, 0, 0, 0, .int 14), (1, .irem, 0, 0, 0, .null), (2, .bipush 36, 0, 0, 0, .int 36), (1, .imul, 0, 0, 0, .null), (1, .iadd, 0, 0, 0, .null), (1, .ireturn, 0, 0, 0, .null)]
set_option maxRecDepth 20000 in
theorem oX10_placeOf_0 : vm_okB 10 mX10_placeOf 0 bX10_placeOf_0 = true := by decide +kernel
def bX10_isTaken_0 : List vm_J := [(1, .aload_n 0, 0, 0, 0, .null), (3, .getfield 11, 10, 0, 0, .null), (1, .iload_n 1, 0, 0, 0, .null), (3, .invokestatic 26, 95, 1, 0, .null), (1, .iconst 4, 0, 0, 0, .int 4), (3, .invokestatic 30, 87, 3, 0, .null), (3, .ifCond .ne 7, 19, 0, 0, .null), (1, .iconst 1, 0, 0, 0, .int 1), (3, .goto 4, 20, 0, 0, .null)]
set_option maxRecDepth 20000 in
theorem oX10_isTaken_0 : vm_okB 10 mX10_isTaken 0 bX10_isTaken_0 = true := by decide +kernel
def bX10_isTaken_19 : List vm_J := [(1, .iconst 0, 0, 0, 0, .int 0)]
set_option maxRecDepth 20000 in
theorem oX10_isTaken_19 : vm_okB 10 mX10_isTaken 19 bX10_isTaken_19 = true := by decide +kernel
def bX10_isTaken_20 : List vm_J := [(1, .ireturn, 0, 0, 0, .null)]
set_option maxRecDepth 20000 in
theorem oX10_isTaken_20 : vm_okB 10 mX10_isTaken 20 bX10_isTaken_20 = true := by decide +kernel
def bX10_spentNonces_0 : List vm_J := [(1, .iconst 0, 0, 0, 0, .int 0), (1, .istore_n 1, 0, 0, 0, .null), (1, .iconst 0, 0, 0, 0, .int 0), (1, .istore_n 2, 0, 0, 0, .null)]
set_option maxRecDepth 20000 in
theorem oX10_spentNonces_0 : vm_okB 10 mX10_spentNonces 0 bX10_spentNonces_0 = true := by decide +kernel
def bX10_spentNonces_4 : List vm_J := [(1, .iload_n 2, 0, 0, 0, .null), (2, .bipush 112, 0, 0, 0, .int 112), (3, .if_icmp .ge 25, 32, 0, 0, .null), (1, .iload_n 1, 0, 0, 0, .null), (1, .aload_n 0, 0, 0, 0, .null), (1, .iload_n 2, 0, 0, 0, .null), (3, .invokevirtual 36, 96, 1, 10, .null), (3, .ifCond .eq 7, 23, 0, 0, .null), (1, .iconst 1, 0, 0, 0, .int 1), (3, .goto 4, 24, 0, 0, .null)]
set_option maxRecDepth 20000 in
theorem oX10_spentNonces_4 : vm_okB 10 mX10_spentNonces 4 bX10_spentNonces_4 = true := by decide +kernel
def bX10_spentNonces_23 : List vm_J := [(1, .iconst 0, 0, 0, 0, .int 0)]
set_option maxRecDepth 20000 in
theorem oX10_spentNonces_23 : vm_okB 10 mX10_spentNonces 23 bX10_spentNonces_23 = true := by decide +kernel
def bX10_spentNonces_24 : List vm_J := [(1, .iadd, 0, 0, 0, .null), (1, .istore_n 1, 0, 0, 0, .null), (3, .iinc 2 1, 0, 0, 0, .int 1), (3, .goto (-25), 4, 0, 0, .null)]
set_option maxRecDepth 20000 in
theorem oX10_spentNonces_24 : vm_okB 10 mX10_spentNonces 24 bX10_spentNonces_24 = true := by decide +kernel
def bX10_spentNonces_32 : List vm_J := [(1, .iload_n 1, 0, 0, 0, .null), (1, .ireturn, 0, 0, 0, .null)]
set_option maxRecDepth 20000 in
theorem oX10_spentNonces_32 : vm_okB 10 mX10_spentNonces 32 bX10_spentNonces_32 = true := by decide +kernel
def bX10_find_0 : List vm_J := [(1, .lconst 0, 0, 0, 0, .long 0), (1, .lstore_n 3, 0, 0, 0, .null), (1, .iconst 0, 0, 0, 0, .int 0), (2, .istore 5, 0, 0, 0, .null)]
set_option maxRecDepth 20000 in
theorem oX10_find_0 : vm_okB 10 mX10_find 0 bX10_find_0 = true := by decide +kernel
def bX10_find_5 : List vm_J := [(2, .iload 5, 0, 0, 0, .null), (1, .iconst 4, 0, 0, 0, .int 4), (3, .if_icmp .ge 26, 34, 0, 0, .null), (1, .lload_n 3, 0, 0, 0, .null), (2, .bipush 8, 0, 0, 0, .int 8), (1, .lshl, 0, 0, 0, .null), (1, .aload_n 1, 0, 0, 0, .null), (1, .iload_n 2, 0, 0, 0, .null), (2, .iload 5, 0, 0, 0, .null), (1, .iadd, 0, 0, 0, .null), (1, .baload, 0, 0, 0, .null), (3, .sipush 255, 0, 0, 0, .int 255), (1, .iand, 0, 0, 0, .null), (1, .i2l, 0, 0, 0, .null), (1, .lor, 0, 0, 0, .null), (1, .lstore_n 3, 0, 0, 0, .null), (3, .iinc 5 1, 0, 0, 0, .int 1), (3, .goto (-26), 5, 0, 0, .null)]
set_option maxRecDepth 20000 in
theorem oX10_find_5 : vm_okB 10 mX10_find 5 bX10_find_5 = true := by decide +kernel
def bX10_find_34 : List vm_J := [(1, .lload_n 3, 0, 0, 0, .null), (3, .ldc2_w 40, 0, 0, 0, .long (112)), (1, .lrem, 0, 0, 0, .null), (1, .l2i, 0, 0, 0, .null), (2, .istore 5, 0, 0, 0, .null), (1, .iconst 0, 0, 0, 0, .int 0), (2, .istore 6, 0, 0, 0, .null)]
set_option maxRecDepth 20000 in
theorem oX10_find_34 : vm_okB 10 mX10_find 34 bX10_find_34 = true := by decide +kernel
def bX10_find_45 : List vm_J := [(2, .iload 6, 0, 0, 0, .null), (2, .bipush 112, 0, 0, 0, .int 112), (3, .if_icmp .ge 52, 101, 0, 0, .null), (2, .iload 5, 0, 0, 0, .null), (2, .iload 6, 0, 0, 0, .null), (1, .iadd, 0, 0, 0, .null), (2, .bipush 112, 0, 0, 0, .int 112), (1, .irem, 0, 0, 0, .null), (2, .istore 7, 0, 0, 0, .null), (1, .aload_n 0, 0, 0, 0, .null), (2, .iload 7, 0, 0, 0, .null), (3, .invokevirtual 36, 96, 1, 10, .null), (3, .ifCond .eq 24, 92, 0, 0, .null), (1, .aload_n 0, 0, 0, 0, .null), (3, .getfield 11, 10, 0, 0, .null), (2, .iload 7, 0, 0, 0, .null), (3, .invokestatic 26, 95, 1, 0, .null), (1, .iconst 4, 0, 0, 0, .int 4), (1, .iadd, 0, 0, 0, .null), (1, .aload_n 1, 0, 0, 0, .null), (1, .iload_n 2, 0, 0, 0, .null), (2, .bipush 32, 0, 0, 0, .int 32), (3, .invokestatic 42, 85, 5, 0, .null), (3, .ifCond .eq 6, 95, 0, 0, .null)]
set_option maxRecDepth 20000 in
theorem oX10_find_45 : vm_okB 10 mX10_find 45 bX10_find_45 = true := by decide +kernel
def bX10_find_92 : List vm_J := [(2, .iload 7, 0, 0, 0, .null), (1, .ireturn, 0, 0, 0, .null)]
set_option maxRecDepth 20000 in
theorem oX10_find_92 : vm_okB 10 mX10_find 92 bX10_find_92 = true := by decide +kernel
def bX10_find_95 : List vm_J := [(3, .iinc 6 1, 0, 0, 0, .int 1), (3, .goto (-53), 45, 0, 0, .null)]
set_option maxRecDepth 20000 in
theorem oX10_find_95 : vm_okB 10 mX10_find 95 bX10_find_95 = true := by decide +kernel
def bX10_find_101 : List vm_J := [(1, .iconst (-1), 0, 0, 0, .int (-1)), (1, .ireturn, 0, 0, 0, .null)]
set_option maxRecDepth 20000 in
theorem oX10_find_101 : vm_okB 10 mX10_find 101 bX10_find_101 = true := by decide +kernel
def bX10_spend_0 : List vm_J := [(1, .aload_n 0, 0, 0, 0, .null), (1, .aload_n 1, 0, 0, 0, .null), (1, .iload_n 2, 0, 0, 0, .null), (3, .invokevirtual 46, 98, 2, 10, .null), (1, .istore_n 3, 0, 0, 0, .null), (1, .iload_n 3, 0, 0, 0, .null), (1, .iconst (-1), 0, 0, 0, .int (-1)), (3, .if_icmp .ne 6, 15, 0, 0, .null), (2, .bipush (-6), 0, 0, 0, .int (-6)), (1, .ireturn, 0, 0, 0, .null)]
set_option maxRecDepth 20000 in
theorem oX10_spend_0 : vm_okB 10 mX10_spend 0 bX10_spend_0 = true := by decide +kernel
def bX10_spend_15 : List vm_J := [(1, .aload_n 0, 0, 0, 0, .null), (1, .iload_n 3, 0, 0, 0, .null), (3, .invokevirtual 36, 96, 1, 10, .null), (3, .ifCond .eq 6, 26, 0, 0, .null), (2, .bipush (-5), 0, 0, 0, .int (-5)), (1, .ireturn, 0, 0, 0, .null)]
set_option maxRecDepth 20000 in
theorem oX10_spend_15 : vm_okB 10 mX10_spend 15 bX10_spend_15 = true := by decide +kernel
def bX10_spend_26 : List vm_J := [(1, .aload_n 0, 0, 0, 0, .null), (3, .getfield 19, 10, 2, 0, .null), (3, .ifCond .ne 11, 41, 0, 0, .null), (1, .aload_n 0, 0, 0, 0, .null), (1, .iconst 1, 0, 0, 0, .int 1), (3, .putfield 15, 10, 1, 2, .null), (2, .bipush (-9), 0, 0, 0, .int (-9)), (1, .ireturn, 0, 0, 0, .null)]
set_option maxRecDepth 20000 in
theorem oX10_spend_26 : vm_okB 10 mX10_spend 26 bX10_spend_26 = true := by decide +kernel
def bX10_spend_41 : List vm_J := [(1, .aload_n 0, 0, 0, 0, .null), (3, .getfield 19, 10, 2, 0, .null), (3, .ifCond .le 13, 58, 0, 0, .null), (1, .aload_n 0, 0, 0, 0, .null), (1, .dup, 0, 0, 0, .null), (3, .getfield 19, 10, 2, 0, .null), (1, .iconst 1, 0, 0, 0, .int 1), (1, .isub, 0, 0, 0, .null), (3, .putfield 19, 10, 2, 0, .null)]
set_option maxRecDepth 20000 in
theorem oX10_spend_41 : vm_okB 10 mX10_spend 41 bX10_spend_41 = true := by decide +kernel
def bX10_spend_58 : List vm_J := [(1, .aload_n 0, 0, 0, 0, .null), (3, .getfield 11, 10, 0, 0, .null), (1, .iload_n 3, 0, 0, 0, .null), (3, .invokestatic 26, 95, 1, 0, .null), (1, .iconst 4, 0, 0, 0, .int 4), (1, .iadd, 0, 0, 0, .null), (1, .iconst 1, 0, 0, 0, .int 1), (1, .isub, 0, 0, 0, .null), (1, .iconst 1, 0, 0, 0, .int 1), (1, .bastore, 0, 0, 0, .null), (1, .aload_n 1, 0, 0, 0, .null), (1, .iload_n 2, 0, 0, 0, .null), (1, .aload_n 0, 0, 0, 0, .null), (3, .getfield 11, 10, 0, 0, .null), (1, .iload_n 3, 0, 0, 0, .null), (3, .invokestatic 26, 95, 1, 0, .null), (1, .iconst 4, 0, 0, 0, .int 4), (1, .iadd, 0, 0, 0, .null), (2, .bipush 32, 0, 0, 0, .int 32), (3, .invokestatic 50, 9999, 0, 3, .null), (1, .aload_n 0, 0, 0, 0, .null), (1, .dup, 0, 0, 0, .null), (3, .getfield 23, 10, 3, 0, .null), (1, .iconst 1, 0, 0, 0, .int 1), (1, .iadd, 0, 0, 0, .null), (3, .putfield 23, 10, 3, 0, .null), (1, .iconst 0, 0, 0, 0, .int 0), (1, .ireturn, 0, 0, 0, .null)]
set_option maxRecDepth 20000 in
theorem oX10_spend_58 : vm_okB 10 mX10_spend 58 bX10_spend_58 = true := by decide +kernel
def bJ9_max_7cf53_0 : List vm_J := [(1, .iload_n 0, 0, 0, 0, .null), (1, .iload_n 1, 0, 0, 0, .null), (3, .if_icmp .lt 7, 9, 0, 0, .null), (1, .iload_n 0, 0, 0, 0, .null), (3, .goto 4, 10, 0, 0, .null)]
set_option maxRecDepth 20000 in
theorem oJ9_max_7cf53_0 : vm_okB 17 mJ9_max_7cf53 0 bJ9_max_7cf53_0 = true := by decide +kernel
def bJ9_max_7cf53_9 : List vm_J := [(1, .iload_n 1, 0, 0, 0, .null)]
set_option maxRecDepth 20000 in
theorem oJ9_max_7cf53_9 : vm_okB 17 mJ9_max_7cf53 9 bJ9_max_7cf53_9 = true := by decide +kernel
def bJ9_max_7cf53_10 : List vm_J := [(1, .ireturn, 0, 0, 0, .null)]
set_option maxRecDepth 20000 in
theorem oJ9_max_7cf53_10 : vm_okB 17 mJ9_max_7cf53 10 bJ9_max_7cf53_10 = true := by decide +kernel
def bJ9_min_7cf53_0 : List vm_J := [(1, .iload_n 0, 0, 0, 0, .null), (1, .iload_n 1, 0, 0, 0, .null), (3, .if_icmp .gt 7, 9, 0, 0, .null), (1, .iload_n 0, 0, 0, 0, .null), (3, .goto 4, 10, 0, 0, .null)]
set_option maxRecDepth 20000 in
theorem oJ9_min_7cf53_0 : vm_okB 17 mJ9_min_7cf53 0 bJ9_min_7cf53_0 = true := by decide +kernel
def bJ9_min_7cf53_9 : List vm_J := [(1, .iload_n 1, 0, 0, 0, .null)]
set_option maxRecDepth 20000 in
theorem oJ9_min_7cf53_9 : vm_okB 17 mJ9_min_7cf53 9 bJ9_min_7cf53_9 = true := by decide +kernel
def bJ9_min_7cf53_10 : List vm_J := [(1, .ireturn, 0, 0, 0, .null)]
set_option maxRecDepth 20000 in
theorem oJ9_min_7cf53_10 : vm_okB 17 mJ9_min_7cf53 10 bJ9_min_7cf53_10 = true := by decide +kernel
def bJ13_compare_74951_0 : List vm_J := [(1, .lload_n 0, 0, 0, 0, .null), (1, .lload_n 2, 0, 0, 0, .null), (1, .lcmp, 0, 0, 0, .null), (3, .ifCond .ge 7, 10, 0, 0, .null), (1, .iconst (-1), 0, 0, 0, .int (-1)), (3, .goto 14, 21, 0, 0, .null)]
set_option maxRecDepth 20000 in
theorem oJ13_compare_74951_0 : vm_okB 16 mJ13_compare_74951 0 bJ13_compare_74951_0 = true := by decide +kernel
def bJ13_compare_74951_10 : List vm_J := [(1, .lload_n 0, 0, 0, 0, .null), (1, .lload_n 2, 0, 0, 0, .null), (1, .lcmp, 0, 0, 0, .null), (3, .ifCond .ne 7, 20, 0, 0, .null), (1, .iconst 0, 0, 0, 0, .int 0), (3, .goto 4, 21, 0, 0, .null)]
set_option maxRecDepth 20000 in
theorem oJ13_compare_74951_10 : vm_okB 16 mJ13_compare_74951 10 bJ13_compare_74951_10 = true := by decide +kernel
def bJ13_compare_74951_20 : List vm_J := [(1, .iconst 1, 0, 0, 0, .int 1)]
set_option maxRecDepth 20000 in
theorem oJ13_compare_74951_20 : vm_okB 16 mJ13_compare_74951 20 bJ13_compare_74951_20 = true := by decide +kernel
def bJ13_compare_74951_21 : List vm_J := [(1, .ireturn, 0, 0, 0, .null)]
set_option maxRecDepth 20000 in
theorem oJ13_compare_74951_21 : vm_okB 16 mJ13_compare_74951 21 bJ13_compare_74951_21 = true := by decide +kernel
def bJ13_compareUnsigned_74951_0 : List vm_J := [(1, .lload_n 0, 0, 0, 0, .null), (3, .ldc2_w 168, 0, 0, 0, .long (-9223372036854775808)), (1, .ladd, 0, 0, 0, .null), (1, .lload_n 2, 0, 0, 0, .null), (3, .ldc2_w 168, 0, 0, 0, .long (-9223372036854775808)), (1, .ladd, 0, 0, 0, .null), (3, .invokestatic 302, 240, 2, 0, .null), (1, .ireturn, 0, 0, 0, .null)]
set_option maxRecDepth 20000 in
theorem oJ13_compareUnsigned_74951_0 : vm_okB 16 mJ13_compareUnsigned_74951 0 bJ13_compareUnsigned_74951_0 = true := by decide +kernel
def bJ13_divideUnsigned_f86c9_0 : List vm_J := [(1, .lload_n 2, 0, 0, 0, .null), (1, .lconst 0, 0, 0, 0, .long 0), (1, .lcmp, 0, 0, 0, .null), (3, .ifCond .lt 38, 41, 0, 0, .null), (1, .lload_n 0, 0, 0, 0, .null), (1, .iconst 1, 0, 0, 0, .int 1), (1, .lushr, 0, 0, 0, .null), (1, .lload_n 2, 0, 0, 0, .null), (1, .ldiv, 0, 0, 0, .null), (1, .iconst 1, 0, 0, 0, .int 1), (1, .lshl, 0, 0, 0, .null), (2, .lstore 4, 0, 0, 0, .null), (1, .lload_n 0, 0, 0, 0, .null), (2, .lload 4, 0, 0, 0, .null), (1, .lload_n 2, 0, 0, 0, .null), (1, .lmul, 0, 0, 0, .null), (1, .lsub, 0, 0, 0, .null), (2, .lstore 6, 0, 0, 0, .null), (2, .lload 4, 0, 0, 0, .null), (2, .lload 6, 0, 0, 0, .null), (2, .lload 6, 0, 0, 0, .null), (1, .lload_n 2, 0, 0, 0, .null), (1, .lsub, 0, 0, 0, .null), (3, .ldc2_w 306, 0, 0, 0, .long (-1)), (1, .lxor, 0, 0, 0, .null), (1, .lor, 0, 0, 0, .null), (2, .bipush 63, 0, 0, 0, .int 63), (1, .lushr, 0, 0, 0, .null), (1, .ladd, 0, 0, 0, .null), (1, .lreturn, 0, 0, 0, .null)]
set_option maxRecDepth 20000 in
theorem oJ13_divideUnsigned_f86c9_0 : vm_okB 16 mJ13_divideUnsigned_f86c9 0 bJ13_divideUnsigned_f86c9_0 = true := by decide +kernel
def bJ13_divideUnsigned_f86c9_41 : List vm_J := [(1, .lload_n 0, 0, 0, 0, .null), (1, .lload_n 0, 0, 0, 0, .null), (1, .lload_n 2, 0, 0, 0, .null), (1, .lsub, 0, 0, 0, .null), (3, .ldc2_w 306, 0, 0, 0, .long (-1)), (1, .lxor, 0, 0, 0, .null), (1, .land, 0, 0, 0, .null), (2, .bipush 63, 0, 0, 0, .int 63), (1, .lushr, 0, 0, 0, .null), (1, .lreturn, 0, 0, 0, .null)]
set_option maxRecDepth 20000 in
theorem oJ13_divideUnsigned_f86c9_41 : vm_okB 16 mJ13_divideUnsigned_f86c9 41 bJ13_divideUnsigned_f86c9_41 = true := by decide +kernel
def bJ13_remainderUnsigned_f86c9_0 : List vm_J := [(1, .lload_n 2, 0, 0, 0, .null), (1, .lconst 0, 0, 0, 0, .long 0), (1, .lcmp, 0, 0, 0, .null), (3, .ifCond .lt 37, 40, 0, 0, .null), (1, .lload_n 0, 0, 0, 0, .null), (1, .iconst 1, 0, 0, 0, .int 1), (1, .lushr, 0, 0, 0, .null), (1, .lload_n 2, 0, 0, 0, .null), (1, .ldiv, 0, 0, 0, .null), (1, .iconst 1, 0, 0, 0, .int 1), (1, .lshl, 0, 0, 0, .null), (2, .lstore 4, 0, 0, 0, .null), (1, .lload_n 0, 0, 0, 0, .null), (2, .lload 4, 0, 0, 0, .null), (1, .lload_n 2, 0, 0, 0, .null), (1, .lmul, 0, 0, 0, .null), (1, .lsub, 0, 0, 0, .null), (2, .lstore 6, 0, 0, 0, .null), (2, .lload 6, 0, 0, 0, .null), (2, .lload 6, 0, 0, 0, .null), (1, .lload_n 2, 0, 0, 0, .null), (1, .lsub, 0, 0, 0, .null), (3, .ldc2_w 306, 0, 0, 0, .long (-1)), (1, .lxor, 0, 0, 0, .null), (2, .bipush 63, 0, 0, 0, .int 63), (1, .lshr, 0, 0, 0, .null), (1, .lload_n 2, 0, 0, 0, .null), (1, .land, 0, 0, 0, .null), (1, .lsub, 0, 0, 0, .null), (1, .lreturn, 0, 0, 0, .null)]
set_option maxRecDepth 20000 in
theorem oJ13_remainderUnsigned_f86c9_0 : vm_okB 16 mJ13_remainderUnsigned_f86c9 0 bJ13_remainderUnsigned_f86c9_0 = true := by decide +kernel
def bJ13_remainderUnsigned_f86c9_40 : List vm_J := [(1, .lload_n 0, 0, 0, 0, .null), (1, .lload_n 0, 0, 0, 0, .null), (1, .lload_n 0, 0, 0, 0, .null), (1, .lload_n 2, 0, 0, 0, .null), (1, .lsub, 0, 0, 0, .null), (3, .ldc2_w 306, 0, 0, 0, .long (-1)), (1, .lxor, 0, 0, 0, .null), (1, .land, 0, 0, 0, .null), (2, .bipush 63, 0, 0, 0, .int 63), (1, .lshr, 0, 0, 0, .null), (1, .lload_n 2, 0, 0, 0, .null), (1, .land, 0, 0, 0, .null), (1, .lsub, 0, 0, 0, .null), (1, .lreturn, 0, 0, 0, .null)]
set_option maxRecDepth 20000 in
theorem oJ13_remainderUnsigned_f86c9_40 : vm_okB 16 mJ13_remainderUnsigned_f86c9 40 bJ13_remainderUnsigned_f86c9_40 = true := by decide +kernel
def bJ6_numberOfLeadingZeros_0f7a4_0 : List vm_J := [(1, .iload_n 0, 0, 0, 0, .null), (3, .ifCond .gt 14, 15, 0, 0, .null), (1, .iload_n 0, 0, 0, 0, .null), (3, .ifCond .ne 8, 13, 0, 0, .null), (2, .bipush 32, 0, 0, 0, .int 32), (3, .goto 4, 14, 0, 0, .null)]
set_option maxRecDepth 20000 in
theorem oJ6_numberOfLeadingZeros_0f7a4_0 : vm_okB 15 mJ6_numberOfLeadingZeros_0f7a4 0 bJ6_numberOfLeadingZeros_0f7a4_0 = true := by decide +kernel
def bJ6_numberOfLeadingZeros_0f7a4_13 : List vm_J := [(1, .iconst 0, 0, 0, 0, .int 0)]
set_option maxRecDepth 20000 in
theorem oJ6_numberOfLeadingZeros_0f7a4_13 : vm_okB 15 mJ6_numberOfLeadingZeros_0f7a4 13 bJ6_numberOfLeadingZeros_0f7a4_13 = true := by decide +kernel
def bJ6_numberOfLeadingZeros_0f7a4_14 : List vm_J := [(1, .ireturn, 0, 0, 0, .null)]
set_option maxRecDepth 20000 in
theorem oJ6_numberOfLeadingZeros_0f7a4_14 : vm_okB 15 mJ6_numberOfLeadingZeros_0f7a4 14 bJ6_numberOfLeadingZeros_0f7a4_14 = true := by decide +kernel
def bJ6_numberOfLeadingZeros_0f7a4_15 : List vm_J := [(2, .bipush 31, 0, 0, 0, .int 31), (1, .istore_n 1, 0, 0, 0, .null), (1, .iload_n 0, 0, 0, 0, .null), (3, .ldc_w 264, 0, 0, 0, .int (65536)), (3, .if_icmp .lt 11, 33, 0, 0, .null), (3, .iinc 1 (-16), 0, 0, 0, .int (-16)), (1, .iload_n 0, 0, 0, 0, .null), (2, .bipush 16, 0, 0, 0, .int 16), (1, .iushr, 0, 0, 0, .null), (1, .istore_n 0, 0, 0, 0, .null)]
set_option maxRecDepth 20000 in
theorem oJ6_numberOfLeadingZeros_0f7a4_15 : vm_okB 15 mJ6_numberOfLeadingZeros_0f7a4 15 bJ6_numberOfLeadingZeros_0f7a4_15 = true := by decide +kernel
def bJ6_numberOfLeadingZeros_0f7a4_33 : List vm_J := [(1, .iload_n 0, 0, 0, 0, .null), (3, .sipush 256, 0, 0, 0, .int 256), (3, .if_icmp .lt 11, 48, 0, 0, .null), (3, .iinc 1 (-8), 0, 0, 0, .int (-8)), (1, .iload_n 0, 0, 0, 0, .null), (2, .bipush 8, 0, 0, 0, .int 8), (1, .iushr, 0, 0, 0, .null), (1, .istore_n 0, 0, 0, 0, .null)]
set_option maxRecDepth 20000 in
theorem oJ6_numberOfLeadingZeros_0f7a4_33 : vm_okB 15 mJ6_numberOfLeadingZeros_0f7a4 33 bJ6_numberOfLeadingZeros_0f7a4_33 = true := by decide +kernel
def bJ6_numberOfLeadingZeros_0f7a4_48 : List vm_J := [(1, .iload_n 0, 0, 0, 0, .null), (2, .bipush 16, 0, 0, 0, .int 16), (3, .if_icmp .lt 10, 61, 0, 0, .null), (3, .iinc 1 (-4), 0, 0, 0, .int (-4)), (1, .iload_n 0, 0, 0, 0, .null), (1, .iconst 4, 0, 0, 0, .int 4), (1, .iushr, 0, 0, 0, .null), (1, .istore_n 0, 0, 0, 0, .null)]
set_option maxRecDepth 20000 in
theorem oJ6_numberOfLeadingZeros_0f7a4_48 : vm_okB 15 mJ6_numberOfLeadingZeros_0f7a4 48 bJ6_numberOfLeadingZeros_0f7a4_48 = true := by decide +kernel
def bJ6_numberOfLeadingZeros_0f7a4_61 : List vm_J := [(1, .iload_n 0, 0, 0, 0, .null), (1, .iconst 4, 0, 0, 0, .int 4), (3, .if_icmp .lt 10, 73, 0, 0, .null), (3, .iinc 1 (-2), 0, 0, 0, .int (-2)), (1, .iload_n 0, 0, 0, 0, .null), (1, .iconst 2, 0, 0, 0, .int 2), (1, .iushr, 0, 0, 0, .null), (1, .istore_n 0, 0, 0, 0, .null)]
set_option maxRecDepth 20000 in
theorem oJ6_numberOfLeadingZeros_0f7a4_61 : vm_okB 15 mJ6_numberOfLeadingZeros_0f7a4 61 bJ6_numberOfLeadingZeros_0f7a4_61 = true := by decide +kernel
def bJ6_numberOfLeadingZeros_0f7a4_73 : List vm_J := [(1, .iload_n 1, 0, 0, 0, .null), (1, .iload_n 0, 0, 0, 0, .null), (1, .iconst 1, 0, 0, 0, .int 1), (1, .iushr, 0, 0, 0, .null), (1, .isub, 0, 0, 0, .null), (1, .ireturn, 0, 0, 0, .null)]
set_option maxRecDepth 20000 in
theorem oJ6_numberOfLeadingZeros_0f7a4_73 : vm_okB 15 mJ6_numberOfLeadingZeros_0f7a4 73 bJ6_numberOfLeadingZeros_0f7a4_73 = true := by decide +kernel
