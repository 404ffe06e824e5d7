/-! code of String, StringLatin1, Preconditions, Arrays (written by wip/gen/code.py) -/
def bJ0_length_8abf5_0 : List vm_J := [(1, .aload_n 0, 0, 0, 0, .null), (3, .getfield 9, 500, 0, 0, .null), (1, .arraylength, 0, 0, 0, .null), (1, .aload_n 0, 0, 0, 0, .null), (3, .invokevirtual 335, 248, 0, 600, .null), (1, .ishr, 0, 0, 0, .null), (1, .ireturn, 0, 0, 0, .null)]
set_option maxRecDepth 20000 in
theorem oJ0_length_8abf5_0 : vm_okB 18 mJ0_length_8abf5 0 bJ0_length_8abf5_0 = true := by decide +kernel
def bJ0_charAt_5068e_0 : List vm_J := [(1, .aload_n 0, 0, 0, 0, .null), (3, .invokevirtual 492, 249, 0, 600, .null), (3, .ifCond .eq 12, 16, 0, 0, .null), (1, .aload_n 0, 0, 0, 0, .null), (3, .getfield 9, 500, 0, 0, .null), (1, .iload_n 1, 0, 0, 0, .null), (3, .invokestatic 495, 251, 2, 0, .null), (1, .ireturn, 0, 0, 0, .null)]
set_option maxRecDepth 20000 in
theorem oJ0_charAt_5068e_0 : vm_okB 18 mJ0_charAt_5068e 0 bJ0_charAt_5068e_0 = true := by decide +kernel
def bJ0_charAt_5068e_16 : List vm_J := [(1, .aload_n 0, 0, 0, 0, .null), (3, .getfield 9, 500, 0, 0, .null), (1, .iload_n 1, 0, 0, 0, .null), (3, .invokestatic 498, 254, 2, 0, .null), (1, .ireturn, 0, 0, 0, .null)]
set_option maxRecDepth 20000 in
theorem oJ0_charAt_5068e_16 : vm_okB 18 mJ0_charAt_5068e 16 bJ0_charAt_5068e_16 = true := by decide +kernel
def bJ0_coder_7d493_0 : List vm_J := [(3, .getstatic 38, 0, 0, 0, .null), (3, .ifCond .eq 10, 13, 0, 0, .null), (1, .aload_n 0, 0, 0, 0, .null), (3, .getfield 15, 500, 1, 0, .null), (3, .goto 4, 14, 0, 0, .null)]
set_option maxRecDepth 20000 in
theorem oJ0_coder_7d493_0 : vm_okB 18 mJ0_coder_7d493 0 bJ0_coder_7d493_0 = true := by decide +kernel
def bJ0_coder_7d493_13 : List vm_J := [(1, .iconst 1, 0, 0, 0, .int 1)]
set_option maxRecDepth 20000 in
theorem oJ0_coder_7d493_13 : vm_okB 18 mJ0_coder_7d493 13 bJ0_coder_7d493_13 = true := by decide +kernel
def bJ0_coder_7d493_14 : List vm_J := [(1, .ireturn, 0, 0, 0, .null)]
set_option maxRecDepth 20000 in
theorem oJ0_coder_7d493_14 : vm_okB 18 mJ0_coder_7d493 14 bJ0_coder_7d493_14 = true := by decide +kernel
def bJ0_isLatin1_aae02_0 : List vm_J := [(3, .getstatic 38, 0, 0, 0, .null), (3, .ifCond .eq 14, 17, 0, 0, .null), (1, .aload_n 0, 0, 0, 0, .null), (3, .getfield 15, 500, 1, 0, .null), (3, .ifCond .ne 7, 17, 0, 0, .null), (1, .iconst 1, 0, 0, 0, .int 1), (3, .goto 4, 18, 0, 0, .null)]
set_option maxRecDepth 20000 in
theorem oJ0_isLatin1_aae02_0 : vm_okB 18 mJ0_isLatin1_aae02 0 bJ0_isLatin1_aae02_0 = true := by decide +kernel
def bJ0_isLatin1_aae02_17 : List vm_J := [(1, .iconst 0, 0, 0, 0, .int 0)]
set_option maxRecDepth 20000 in
theorem oJ0_isLatin1_aae02_17 : vm_okB 18 mJ0_isLatin1_aae02 17 bJ0_isLatin1_aae02_17 = true := by decide +kernel
def bJ0_isLatin1_aae02_18 : List vm_J := [(1, .ireturn, 0, 0, 0, .null)]
set_option maxRecDepth 20000 in
theorem oJ0_isLatin1_aae02_18 : vm_okB 18 mJ0_isLatin1_aae02 18 bJ0_isLatin1_aae02_18 = true := by decide +kernel
def bJ0_checkIndex_df160_0 : List vm_J := [(1, .iload_n 0, 0, 0, 0, .null), (1, .iload_n 1, 0, 0, 0, .null), (3, .getstatic 1053, 1, 0, 0, .null), (3, .invokestatic 1059, 262, 3, 0, .null), (1, .pop, 0, 0, 0, .null), (1, .return_, 0, 0, 0, .null)]
set_option maxRecDepth 20000 in
theorem oJ0_checkIndex_df160_0 : vm_okB 18 mJ0_checkIndex_df160 0 bJ0_checkIndex_df160_0 = true := by decide +kernel
def bJ1_charAt_3b067_0 : List vm_J := [(1, .iload_n 1, 0, 0, 0, .null), (1, .aload_n 0, 0, 0, 0, .null), (1, .arraylength, 0, 0, 0, .null), (3, .invokestatic 9, 250, 2, 0, .null), (1, .aload_n 0, 0, 0, 0, .null), (1, .iload_n 1, 0, 0, 0, .null), (1, .baload, 0, 0, 0, .null), (3, .sipush 255, 0, 0, 0, .int 255), (1, .iand, 0, 0, 0, .null), (1, .i2c, 0, 0, 0, .null), (1, .ireturn, 0, 0, 0, .null)]
set_option maxRecDepth 20000 in
theorem oJ1_charAt_3b067_0 : vm_okB 19 mJ1_charAt_3b067 0 bJ1_charAt_3b067_0 = true := by decide +kernel
def bJ3_checkIndex_8e157_0 : List vm_J := [(1, .iload_n 0, 0, 0, 0, .null), (3, .ifCond .lt 8, 9, 0, 0, .null), (1, .iload_n 0, 0, 0, 0, .null), (1, .iload_n 1, 0, 0, 0, .null), (3, .if_icmp .lt 10, 16, 0, 0, .null)]
set_option maxRecDepth 20000 in
theorem oJ3_checkIndex_8e157_0 : vm_okB 22 mJ3_checkIndex_8e157 0 bJ3_checkIndex_8e157_0 = true := by decide +kernel
def bJ3_checkIndex_8e157_9 : List vm_J := [(1, .aload_n 2, 0, 0, 0, .null), (1, .iload_n 0, 0, 0, 0, .null), (1, .iload_n 1, 0, 0, 0, .null)]
set_option maxRecDepth 20000 in
theorem oJ3_checkIndex_8e157_9 : vm_okB 22 mJ3_checkIndex_8e157 9 bJ3_checkIndex_8e157_9 = true := by decide +kernel
def bJ3_checkIndex_8e157_16 : List vm_J := [(1, .iload_n 0, 0, 0, 0, .null), (1, .ireturn, 0, 0, 0, .null)]
set_option maxRecDepth 20000 in
theorem oJ3_checkIndex_8e157_16 : vm_okB 22 mJ3_checkIndex_8e157 16 bJ3_checkIndex_8e157_16 = true := by decide +kernel
def bJ7_fill_d0a16_0 : List vm_J := [(1, .iconst 0, 0, 0, 0, .int 0), (1, .istore_n 3, 0, 0, 0, .null), (1, .aload_n 0, 0, 0, 0, .null), (1, .arraylength, 0, 0, 0, .null), (2, .istore 4, 0, 0, 0, .null)]
set_option maxRecDepth 20000 in
theorem oJ7_fill_d0a16_0 : vm_okB 21 mJ7_fill_d0a16 0 bJ7_fill_d0a16_0 = true := by decide +kernel
def bJ7_fill_d0a16_6 : List vm_J := [(1, .iload_n 3, 0, 0, 0, .null), (2, .iload 4, 0, 0, 0, .null), (3, .if_icmp .ge 13, 22, 0, 0, .null), (1, .aload_n 0, 0, 0, 0, .null), (1, .iload_n 3, 0, 0, 0, .null), (1, .lload_n 1, 0, 0, 0, .null), (1, .lastore, 0, 0, 0, .null), (3, .iinc 3 1, 0, 0, 0, .int 1), (3, .goto (-13), 6, 0, 0, .null)]
set_option maxRecDepth 20000 in
theorem oJ7_fill_d0a16_6 : vm_okB 21 mJ7_fill_d0a16 6 bJ7_fill_d0a16_6 = true := by decide +kernel
def bJ7_fill_d0a16_22 : List vm_J := [(1, .return_, 0, 0, 0, .null)]
set_option maxRecDepth 20000 in
theorem oJ7_fill_d0a16_22 : vm_okB 21 mJ7_fill_d0a16 22 bJ7_fill_d0a16_22 = true := by decide +kernel
def bJ7_fill_031fb_0 : List vm_J := [(1, .iconst 0, 0, 0, 0, .int 0), (1, .istore_n 2, 0, 0, 0, .null), (1, .aload_n 0, 0, 0, 0, .null), (1, .arraylength, 0, 0, 0, .null), (1, .istore_n 3, 0, 0, 0, .null)]
set_option maxRecDepth 20000 in
theorem oJ7_fill_031fb_0 : vm_okB 21 mJ7_fill_031fb 0 bJ7_fill_031fb_0 = true := by decide +kernel
def bJ7_fill_031fb_5 : List vm_J := [(1, .iload_n 2, 0, 0, 0, .null), (1, .iload_n 3, 0, 0, 0, .null), (3, .if_icmp .ge 13, 20, 0, 0, .null), (1, .aload_n 0, 0, 0, 0, .null), (1, .iload_n 2, 0, 0, 0, .null), (1, .iload_n 1, 0, 0, 0, .null), (1, .bastore, 0, 0, 0, .null), (3, .iinc 2 1, 0, 0, 0, .int 1), (3, .goto (-12), 5, 0, 0, .null)]
set_option maxRecDepth 20000 in
theorem oJ7_fill_031fb_5 : vm_okB 21 mJ7_fill_031fb 5 bJ7_fill_031fb_5 = true := by decide +kernel
def bJ7_fill_031fb_20 : List vm_J := [(1, .return_, 0, 0, 0, .null)]
set_option maxRecDepth 20000 in
theorem oJ7_fill_031fb_20 : vm_okB 21 mJ7_fill_031fb 20 bJ7_fill_031fb_20 = true := by decide +kernel
def bJ7_copyOf_9075b_0 : List vm_J := [(1, .iload_n 1, 0, 0, 0, .null), (1, .aload_n 0, 0, 0, 0, .null), (1, .arraylength, 0, 0, 0, .null), (3, .if_icmp .ne 11, 14, 0, 0, .null), (1, .aload_n 0, 0, 0, 0, .null)]
set_option maxRecDepth 20000 in
theorem oJ7_copyOf_9075b_0 : vm_okB 21 mJ7_copyOf_9075b 0 bJ7_copyOf_9075b_0 = true := by decide +kernel
def bJ7_copyOf_9075b_14 : List vm_J := [(1, .iload_n 1, 0, 0, 0, .null), (2, .newarray .byte, 0, 0, 0, .null), (1, .astore_n 2, 0, 0, 0, .null), (1, .aload_n 0, 0, 0, 0, .null), (1, .iconst 0, 0, 0, 0, .int 0), (1, .aload_n 2, 0, 0, 0, .null), (1, .iconst 0, 0, 0, 0, .int 0), (1, .aload_n 0, 0, 0, 0, .null), (1, .arraylength, 0, 0, 0, .null), (1, .iload_n 1, 0, 0, 0, .null), (3, .invokestatic 304, 245, 2, 0, .null), (3, .invokestatic 150, 9999, 0, 3, .null), (1, .aload_n 2, 0, 0, 0, .null), (1, .areturn, 0, 0, 0, .null)]
set_option maxRecDepth 20000 in
theorem oJ7_copyOf_9075b_14 : vm_okB 21 mJ7_copyOf_9075b 14 bJ7_copyOf_9075b_14 = true := by decide +kernel
def bJ7_checkLength_df160_0 : List vm_J := [(1, .iload_n 1, 0, 0, 0, .null), (1, .iload_n 0, 0, 0, 0, .null), (3, .if_icmp .ge 35, 37, 0, 0, .null)]
set_option maxRecDepth 20000 in
theorem oJ7_checkLength_df160_0 : vm_okB 21 mJ7_checkLength_df160 0 bJ7_checkLength_df160_0 = true := by decide +kernel
def bJ7_checkLength_df160_37 : List vm_J := [(1, .return_, 0, 0, 0, .null)]
set_option maxRecDepth 20000 in
theorem oJ7_checkLength_df160_37 : vm_okB 21 mJ7_checkLength_df160 37 bJ7_checkLength_df160_37 = true := by decide +kernel
def bJ7_copyOfRange_39247_0 : List vm_J := [(1, .iload_n 1, 0, 0, 0, .null), (3, .ifCond .ne 9, 10, 0, 0, .null), (1, .iload_n 2, 0, 0, 0, .null), (1, .aload_n 0, 0, 0, 0, .null), (1, .arraylength, 0, 0, 0, .null), (3, .if_icmp .eq 10, 17, 0, 0, .null)]
set_option maxRecDepth 20000 in
theorem oJ7_copyOfRange_39247_0 : vm_okB 21 mJ7_copyOfRange_39247 0 bJ7_copyOfRange_39247_0 = true := by decide +kernel
def bJ7_copyOfRange_39247_10 : List vm_J := [(1, .aload_n 0, 0, 0, 0, .null), (1, .iload_n 1, 0, 0, 0, .null), (1, .iload_n 2, 0, 0, 0, .null), (3, .invokestatic 339, 261, 3, 0, .null), (1, .areturn, 0, 0, 0, .null)]
set_option maxRecDepth 20000 in
theorem oJ7_copyOfRange_39247_10 : vm_okB 21 mJ7_copyOfRange_39247 10 bJ7_copyOfRange_39247_10 = true := by decide +kernel
def bJ7_copyOfRange_39247_17 : List vm_J := [(1, .aload_n 0, 0, 0, 0, .null)]
set_option maxRecDepth 20000 in
theorem oJ7_copyOfRange_39247_17 : vm_okB 21 mJ7_copyOfRange_39247 17 bJ7_copyOfRange_39247_17 = true := by decide +kernel
def bJ7_copyOfRangeByte_39247_0 : List vm_J := [(1, .iload_n 1, 0, 0, 0, .null), (1, .iload_n 2, 0, 0, 0, .null), (3, .invokestatic 343, 259, 2, 0, .null), (1, .iload_n 2, 0, 0, 0, .null), (1, .iload_n 1, 0, 0, 0, .null), (1, .isub, 0, 0, 0, .null), (1, .istore_n 3, 0, 0, 0, .null), (1, .iload_n 3, 0, 0, 0, .null), (2, .newarray .byte, 0, 0, 0, .null), (2, .astore 4, 0, 0, 0, .null), (1, .aload_n 0, 0, 0, 0, .null), (1, .iload_n 1, 0, 0, 0, .null), (2, .aload 4, 0, 0, 0, .null), (1, .iconst 0, 0, 0, 0, .int 0), (1, .aload_n 0, 0, 0, 0, .null), (1, .arraylength, 0, 0, 0, .null), (1, .iload_n 1, 0, 0, 0, .null), (1, .isub, 0, 0, 0, .null), (1, .iload_n 3, 0, 0, 0, .null), (3, .invokestatic 304, 245, 2, 0, .null), (3, .invokestatic 150, 9999, 0, 3, .null), (2, .aload 4, 0, 0, 0, .null), (1, .areturn, 0, 0, 0, .null)]
set_option maxRecDepth 20000 in
theorem oJ7_copyOfRangeByte_39247_0 : vm_okB 21 mJ7_copyOfRangeByte_39247 0 bJ7_copyOfRangeByte_39247_0 = true := by decide +kernel
