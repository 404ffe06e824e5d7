/-! code of VeilMint$Row -/
def bX9_init_0 : List vm_J := [(1, .aload_n 0, 0, 0, 0, .null), (3, .invokespecial 1, 9999, 0, 0, .null), (1, .aload_n 0, 0, 0, 0, .null), (1, .iconst 0, 0, 0, 0, .int 0), (3, .putfield 7, 9, 1, 0, .null), (1, .aload_n 0, 0, 0, 0, .null), (1, .iload_n 1, 0, 0, 0, .null), (2, .newarray .byte, 0, 0, 0, .null), (3, .putfield 13, 9, 0, 4, .null), (1, .return_, 0, 0, 0, .null)]
set_option maxRecDepth 20000 in
theorem oX9_init_0 : vm_okB 9 mX9_init 0 bX9_init_0 = true := by decide +kernel
def bX9_same_0 : List vm_J := [(1, .iconst 0, 0, 0, 0, .int 0), (2, .istore 5, 0, 0, 0, .null)]
set_option maxRecDepth 20000 in
theorem oX9_same_0 : vm_okB 9 mX9_same 0 bX9_same_0 = true := by decide +kernel
def bX9_same_3 : List vm_J := [(2, .iload 5, 0, 0, 0, .null), (2, .iload 4, 0, 0, 0, .null), (3, .if_icmp .ge 26, 33, 0, 0, .null), (1, .aload_n 0, 0, 0, 0, .null), (1, .iload_n 1, 0, 0, 0, .null), (2, .iload 5, 0, 0, 0, .null), (1, .iadd, 0, 0, 0, .null), (1, .baload, 0, 0, 0, .null), (1, .aload_n 2, 0, 0, 0, .null), (1, .iload_n 3, 0, 0, 0, .null), (2, .iload 5, 0, 0, 0, .null), (1, .iadd, 0, 0, 0, .null), (1, .baload, 0, 0, 0, .null), (3, .if_icmp .eq 5, 27, 0, 0, .null), (1, .iconst 0, 0, 0, 0, .int 0), (1, .ireturn, 0, 0, 0, .null)]
set_option maxRecDepth 20000 in
theorem oX9_same_3 : vm_okB 9 mX9_same 3 bX9_same_3 = true := by decide +kernel
def bX9_same_27 : List vm_J := [(3, .iinc 5 1, 0, 0, 0, .int 1), (3, .goto (-27), 3, 0, 0, .null)]
set_option maxRecDepth 20000 in
theorem oX9_same_27 : vm_okB 9 mX9_same 27 bX9_same_27 = true := by decide +kernel
def bX9_same_33 : List vm_J := [(1, .iconst 1, 0, 0, 0, .int 1), (1, .ireturn, 0, 0, 0, .null)]
set_option maxRecDepth 20000 in
theorem oX9_same_33 : vm_okB 9 mX9_same 33 bX9_same_33 = true := by decide +kernel
def bX9_isLess_0 : List vm_J := [(1, .iconst 0, 0, 0, 0, .int 0), (2, .istore 5, 0, 0, 0, .null)]
set_option maxRecDepth 20000 in
theorem oX9_isLess_0 : vm_okB 9 mX9_isLess 0 bX9_isLess_0 = true := by decide +kernel
def bX9_isLess_3 : List vm_J := [(2, .iload 5, 0, 0, 0, .null), (2, .iload 4, 0, 0, 0, .null), (3, .if_icmp .ge 53, 60, 0, 0, .null), (1, .aload_n 0, 0, 0, 0, .null), (1, .iload_n 1, 0, 0, 0, .null), (2, .iload 5, 0, 0, 0, .null), (1, .iadd, 0, 0, 0, .null), (1, .baload, 0, 0, 0, .null), (3, .sipush 255, 0, 0, 0, .int 255), (1, .iand, 0, 0, 0, .null), (2, .istore 6, 0, 0, 0, .null), (1, .aload_n 2, 0, 0, 0, .null), (1, .iload_n 3, 0, 0, 0, .null), (2, .iload 5, 0, 0, 0, .null), (1, .iadd, 0, 0, 0, .null), (1, .baload, 0, 0, 0, .null), (3, .sipush 255, 0, 0, 0, .int 255), (1, .iand, 0, 0, 0, .null), (2, .istore 7, 0, 0, 0, .null), (2, .iload 6, 0, 0, 0, .null), (2, .iload 7, 0, 0, 0, .null), (3, .if_icmp .eq 16, 54, 0, 0, .null), (2, .iload 6, 0, 0, 0, .null), (2, .iload 7, 0, 0, 0, .null), (3, .if_icmp .ge 7, 52, 0, 0, .null), (1, .iconst 1, 0, 0, 0, .int 1), (3, .goto 4, 53, 0, 0, .null)]
set_option maxRecDepth 20000 in
theorem oX9_isLess_3 : vm_okB 9 mX9_isLess 3 bX9_isLess_3 = true := by decide +kernel
def bX9_isLess_52 : List vm_J := [(1, .iconst 0, 0, 0, 0, .int 0)]
set_option maxRecDepth 20000 in
theorem oX9_isLess_52 : vm_okB 9 mX9_isLess 52 bX9_isLess_52 = true := by decide +kernel
def bX9_isLess_53 : List vm_J := [(1, .ireturn, 0, 0, 0, .null)]
set_option maxRecDepth 20000 in
theorem oX9_isLess_53 : vm_okB 9 mX9_isLess 53 bX9_isLess_53 = true := by decide +kernel
def bX9_isLess_54 : List vm_J := [(3, .iinc 5 1, 0, 0, 0, .int 1), (3, .goto (-54), 3, 0, 0, .null)]
set_option maxRecDepth 20000 in
theorem oX9_isLess_54 : vm_okB 9 mX9_isLess 54 bX9_isLess_54 = true := by decide +kernel
def bX9_isLess_60 : List vm_J := [(1, .iconst 0, 0, 0, 0, .int 0), (1, .ireturn, 0, 0, 0, .null)]
set_option maxRecDepth 20000 in
theorem oX9_isLess_60 : vm_okB 9 mX9_isLess 60 bX9_isLess_60 = true := by decide +kernel
def bX9_isZero_0 : List vm_J := [(1, .iconst 0, 0, 0, 0, .int 0), (1, .istore_n 3, 0, 0, 0, .null)]
set_option maxRecDepth 20000 in
theorem oX9_isZero_0 : vm_okB 9 mX9_isZero 0 bX9_isZero_0 = true := by decide +kernel
def bX9_isZero_2 : List vm_J := [(1, .iload_n 3, 0, 0, 0, .null), (1, .iload_n 2, 0, 0, 0, .null), (3, .if_icmp .ge 19, 23, 0, 0, .null), (1, .aload_n 0, 0, 0, 0, .null), (1, .iload_n 1, 0, 0, 0, .null), (1, .iload_n 3, 0, 0, 0, .null), (1, .iadd, 0, 0, 0, .null), (1, .baload, 0, 0, 0, .null), (3, .ifCond .eq 5, 17, 0, 0, .null), (1, .iconst 0, 0, 0, 0, .int 0), (1, .ireturn, 0, 0, 0, .null)]
set_option maxRecDepth 20000 in
theorem oX9_isZero_2 : vm_okB 9 mX9_isZero 2 bX9_isZero_2 = true := by decide +kernel
def bX9_isZero_17 : List vm_J := [(3, .iinc 3 1, 0, 0, 0, .int 1), (3, .goto (-18), 2, 0, 0, .null)]
set_option maxRecDepth 20000 in
theorem oX9_isZero_17 : vm_okB 9 mX9_isZero 17 bX9_isZero_17 = true := by decide +kernel
def bX9_isZero_23 : List vm_J := [(1, .iconst 1, 0, 0, 0, .int 1), (1, .ireturn, 0, 0, 0, .null)]
set_option maxRecDepth 20000 in
theorem oX9_isZero_23 : vm_okB 9 mX9_isZero 23 bX9_isZero_23 = true := by decide +kernel
def bX9_hasRoom_0 : List vm_J := [(1, .iload_n 1, 0, 0, 0, .null), (1, .aload_n 0, 0, 0, 0, .null), (3, .getfield 13, 9, 0, 0, .null), (1, .arraylength, 0, 0, 0, .null), (1, .aload_n 0, 0, 0, 0, .null), (3, .getfield 7, 9, 1, 0, .null), (1, .isub, 0, 0, 0, .null), (3, .if_icmp .gt 7, 18, 0, 0, .null), (1, .iconst 1, 0, 0, 0, .int 1), (3, .goto 4, 19, 0, 0, .null)]
set_option maxRecDepth 20000 in
theorem oX9_hasRoom_0 : vm_okB 9 mX9_hasRoom 0 bX9_hasRoom_0 = true := by decide +kernel
def bX9_hasRoom_18 : List vm_J := [(1, .iconst 0, 0, 0, 0, .int 0)]
set_option maxRecDepth 20000 in
theorem oX9_hasRoom_18 : vm_okB 9 mX9_hasRoom 18 bX9_hasRoom_18 = true := by decide +kernel
def bX9_hasRoom_19 : List vm_J := [(1, .ireturn, 0, 0, 0, .null)]
set_option maxRecDepth 20000 in
theorem oX9_hasRoom_19 : vm_okB 9 mX9_hasRoom 19 bX9_hasRoom_19 = true := by decide +kernel
def bX9_clear_0 : List vm_J := [(1, .aload_n 0, 0, 0, 0, .null), (1, .iconst 0, 0, 0, 0, .int 0), (3, .putfield 7, 9, 1, 0, .null), (1, .return_, 0, 0, 0, .null)]
set_option maxRecDepth 20000 in
theorem oX9_clear_0 : vm_okB 9 mX9_clear 0 bX9_clear_0 = true := by decide +kernel
def bX9_putByte_0 : List vm_J := [(1, .aload_n 0, 0, 0, 0, .null), (3, .getfield 7, 9, 1, 0, .null), (1, .aload_n 0, 0, 0, 0, .null), (3, .getfield 13, 9, 0, 0, .null), (1, .arraylength, 0, 0, 0, .null), (3, .if_icmp .ge 24, 33, 0, 0, .null), (1, .aload_n 0, 0, 0, 0, .null), (3, .getfield 13, 9, 0, 0, .null), (1, .aload_n 0, 0, 0, 0, .null), (3, .getfield 7, 9, 1, 0, .null), (1, .iload_n 1, 0, 0, 0, .null), (1, .i2b, 0, 0, 0, .null), (1, .bastore, 0, 0, 0, .null), (1, .aload_n 0, 0, 0, 0, .null), (1, .dup, 0, 0, 0, .null), (3, .getfield 7, 9, 1, 0, .null), (1, .iconst 1, 0, 0, 0, .int 1), (1, .iadd, 0, 0, 0, .null), (3, .putfield 7, 9, 1, 0, .null)]
set_option maxRecDepth 20000 in
theorem oX9_putByte_0 : vm_okB 9 mX9_putByte 0 bX9_putByte_0 = true := by decide +kernel
def bX9_putByte_33 : List vm_J := [(1, .return_, 0, 0, 0, .null)]
set_option maxRecDepth 20000 in
theorem oX9_putByte_33 : vm_okB 9 mX9_putByte 33 bX9_putByte_33 = true := by decide +kernel
def bX9_putNumber_0 : List vm_J := [(1, .iload_n 2, 0, 0, 0, .null), (1, .iconst 1, 0, 0, 0, .int 1), (1, .isub, 0, 0, 0, .null), (1, .istore_n 3, 0, 0, 0, .null)]
set_option maxRecDepth 20000 in
theorem oX9_putNumber_0 : vm_okB 9 mX9_putNumber 0 bX9_putNumber_0 = true := by decide +kernel
def bX9_putNumber_4 : List vm_J := [(1, .iload_n 3, 0, 0, 0, .null), (3, .ifCond .lt 19, 24, 0, 0, .null), (1, .aload_n 0, 0, 0, 0, .null), (1, .iload_n 1, 0, 0, 0, .null), (2, .bipush 8, 0, 0, 0, .int 8), (1, .iload_n 3, 0, 0, 0, .null), (1, .imul, 0, 0, 0, .null), (1, .ishr, 0, 0, 0, .null), (3, .invokevirtual 17, 90, 1, 9, .null), (3, .iinc 3 (-1), 0, 0, 0, .int (-1)), (3, .goto (-17), 4, 0, 0, .null)]
set_option maxRecDepth 20000 in
theorem oX9_putNumber_4 : vm_okB 9 mX9_putNumber 4 bX9_putNumber_4 = true := by decide +kernel
def bX9_putNumber_24 : List vm_J := [(1, .return_, 0, 0, 0, .null)]
set_option maxRecDepth 20000 in
theorem oX9_putNumber_24 : vm_okB 9 mX9_putNumber 24 bX9_putNumber_24 = true := by decide +kernel
def bX9_putText_0 : List vm_J := [(1, .iconst 0, 0, 0, 0, .int 0), (1, .istore_n 2, 0, 0, 0, .null)]
set_option maxRecDepth 20000 in
theorem oX9_putText_0 : vm_okB 9 mX9_putText 0 bX9_putText_0 = true := by decide +kernel
def bX9_putText_2 : List vm_J := [(1, .iload_n 2, 0, 0, 0, .null), (1, .aload_n 1, 0, 0, 0, .null), (3, .invokevirtual 21, 246, 0, 600, .null), (3, .if_icmp .ge 18, 25, 0, 0, .null), (1, .aload_n 0, 0, 0, 0, .null), (1, .aload_n 1, 0, 0, 0, .null), (1, .iload_n 2, 0, 0, 0, .null), (3, .invokevirtual 27, 247, 1, 600, .null), (3, .invokevirtual 17, 90, 1, 9, .null), (3, .iinc 2 1, 0, 0, 0, .int 1), (3, .goto (-20), 2, 0, 0, .null)]
set_option maxRecDepth 20000 in
theorem oX9_putText_2 : vm_okB 9 mX9_putText 2 bX9_putText_2 = true := by decide +kernel
def bX9_putText_25 : List vm_J := [(1, .return_, 0, 0, 0, .null)]
set_option maxRecDepth 20000 in
theorem oX9_putText_25 : vm_okB 9 mX9_putText 25 bX9_putText_25 = true := by decide +kernel
def bX9_putAll_0 : List vm_J := [(1, .iload_n 2, 0, 0, 0, .null), (3, .ifCond .lt 23, 24, 0, 0, .null), (1, .iload_n 3, 0, 0, 0, .null), (3, .ifCond .lt 19, 24, 0, 0, .null), (1, .iload_n 2, 0, 0, 0, .null), (1, .aload_n 1, 0, 0, 0, .null), (1, .arraylength, 0, 0, 0, .null), (1, .iload_n 3, 0, 0, 0, .null), (1, .isub, 0, 0, 0, .null), (3, .if_icmp .gt 11, 24, 0, 0, .null), (1, .aload_n 0, 0, 0, 0, .null), (1, .iload_n 3, 0, 0, 0, .null), (3, .invokevirtual 31, 88, 1, 9, .null), (3, .ifCond .ne 4, 25, 0, 0, .null)]
set_option maxRecDepth 20000 in
theorem oX9_putAll_0 : vm_okB 9 mX9_putAll 0 bX9_putAll_0 = true := by decide +kernel
def bX9_putAll_24 : List vm_J := [(1, .return_, 0, 0, 0, .null)]
set_option maxRecDepth 20000 in
theorem oX9_putAll_24 : vm_okB 9 mX9_putAll 24 bX9_putAll_24 = true := by decide +kernel
def bX9_putAll_25 : List vm_J := [(1, .aload_n 1, 0, 0, 0, .null), (1, .iload_n 2, 0, 0, 0, .null), (1, .aload_n 0, 0, 0, 0, .null), (3, .getfield 13, 9, 0, 0, .null), (1, .aload_n 0, 0, 0, 0, .null), (3, .getfield 7, 9, 1, 0, .null), (1, .iload_n 3, 0, 0, 0, .null), (3, .invokestatic 35, 9999, 0, 3, .null), (1, .aload_n 0, 0, 0, 0, .null), (1, .dup, 0, 0, 0, .null), (3, .getfield 7, 9, 1, 0, .null), (1, .iload_n 3, 0, 0, 0, .null), (1, .iadd, 0, 0, 0, .null), (3, .putfield 7, 9, 1, 0, .null), (1, .return_, 0, 0, 0, .null)]
set_option maxRecDepth 20000 in
theorem oX9_putAll_25 : vm_okB 9 mX9_putAll 25 bX9_putAll_25 = true := by decide +kernel
