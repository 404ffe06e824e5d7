/-! the reference: redeem -/
def bX14_isInx_0 : List vm_J := [(1, .iconst 1, 0, 0, 0, .int 1), (1, .istore_n 2, 0, 0, 0, .null)]
set_option maxRecDepth 20000 in
theorem oX14_isInx_0 : vm_okB 14 mX14_isIn 0 bX14_isInx_0 = true := by decide +kernel
def bX14_isInx_2 : List vm_J := [(1, .iconst 0, 0, 0, 0, .int 0), (1, .istore_n 3, 0, 0, 0, .null)]
set_option maxRecDepth 20000 in
theorem oX14_isInx_2 : vm_okB 14 mX14_isIn 2 bX14_isInx_2 = true := by decide +kernel
def bX14_isInx_4 : List vm_J := [(1, .iload_n 3, 0, 0, 0, .null), (2, .bipush 32, 0, 0, 0, .int 32), (3, .if_icmp .ge 43, 50, 0, 0, .null), (1, .iload_n 2, 0, 0, 0, .null), (3, .ifCond .eq 31, 42, 0, 0, .null), (1, .aload_n 0, 0, 0, 0, .null), (3, .getfield 486, 14, 69, 0, .null), (1, .iload_n 1, 0, 0, 0, .null), (3, .invokestatic 659, 229, 1, 0, .null), (1, .iconst 4, 0, 0, 0, .int 4), (1, .iadd, 0, 0, 0, .null), (1, .iload_n 3, 0, 0, 0, .null), (1, .iadd, 0, 0, 0, .null), (1, .baload, 0, 0, 0, .null), (1, .aload_n 0, 0, 0, 0, .null), (3, .getfield 492, 14, 74, 0, .null), (1, .iconst 2, 0, 0, 0, .int 2), (1, .iload_n 3, 0, 0, 0, .null), (1, .iadd, 0, 0, 0, .null), (1, .baload, 0, 0, 0, .null), (3, .if_icmp .ne 7, 42, 0, 0, .null), (1, .iconst 1, 0, 0, 0, .int 1), (3, .goto 4, 43, 0, 0, .null)]
set_option maxRecDepth 20000 in
theorem oX14_isInx_4 : vm_okB 14 mX14_isIn 4 bX14_isInx_4 = true := by decide +kernel
def bX14_isInx_42 : List vm_J := [(1, .iconst 0, 0, 0, 0, .int 0)]
set_option maxRecDepth 20000 in
theorem oX14_isInx_42 : vm_okB 14 mX14_isIn 42 bX14_isInx_42 = true := by decide +kernel
def bX14_isInx_43 : List vm_J := [(1, .istore_n 2, 0, 0, 0, .null)]
set_option maxRecDepth 20000 in
theorem oX14_isInx_43 : vm_okB 14 mX14_isIn 43 bX14_isInx_43 = true := by decide +kernel
def bX14_isInx_44 : List vm_J := [(3, .iinc 3 1, 0, 0, 0, .int 1), (3, .goto (-43), 4, 0, 0, .null)]
set_option maxRecDepth 20000 in
theorem oX14_isInx_44 : vm_okB 14 mX14_isIn 44 bX14_isInx_44 = true := by decide +kernel
def bX14_isInx_50 : List vm_J := [(1, .iload_n 2, 0, 0, 0, .null), (1, .ireturn, 0, 0, 0, .null)]
set_option maxRecDepth 20000 in
theorem oX14_isInx_50 : vm_okB 14 mX14_isIn 50 bX14_isInx_50 = true := by decide +kernel
def bX14_redeemx_0 : List vm_J := [(1, .aload_n 0, 0, 0, 0, .null), (3, .invokevirtual 570, 192, 0, 14, .null), (1, .istore_n 1, 0, 0, 0, .null)]
set_option maxRecDepth 20000 in
theorem oX14_redeemx_0 : vm_okB 14 mX14_redeem 0 bX14_redeemx_0 = true := by decide +kernel
def bX14_redeemx_5 : List vm_J := [(1, .aload_n 0, 0, 0, 0, .null), (3, .getfield 662, 14, 73, 0, .null), (3, .ifCond .eq 6, 15, 0, 0, .null), (2, .bipush (-9), 0, 0, 0, .int (-9)), (1, .ireturn, 0, 0, 0, .null)]
set_option maxRecDepth 20000 in
theorem oX14_redeemx_5 : vm_okB 14 mX14_redeem 5 bX14_redeemx_5 = true := by decide +kernel
def bX14_redeemx_15 : List vm_J := [(1, .iload_n 1, 0, 0, 0, .null), (2, .bipush 98, 0, 0, 0, .int 98), (3, .if_icmp .ge 6, 24, 0, 0, .null), (2, .bipush (-2), 0, 0, 0, .int (-2)), (1, .ireturn, 0, 0, 0, .null)]
set_option maxRecDepth 20000 in
theorem oX14_redeemx_15 : vm_okB 14 mX14_redeem 15 bX14_redeemx_15 = true := by decide +kernel
def bX14_redeemx_24 : List vm_J := [(1, .iconst (-1), 0, 0, 0, .int (-1)), (1, .istore_n 2, 0, 0, 0, .null)]
set_option maxRecDepth 20000 in
theorem oX14_redeemx_24 : vm_okB 14 mX14_redeem 24 bX14_redeemx_24 = true := by decide +kernel
def bX14_redeemx_26 : List vm_J := [(1, .aload_n 0, 0, 0, 0, .null), (3, .getfield 584, 14, 63, 0, .null), (1, .iconst 1, 0, 0, 0, .int 1), (1, .isub, 0, 0, 0, .null), (1, .istore_n 3, 0, 0, 0, .null)]
set_option maxRecDepth 20000 in
theorem oX14_redeemx_26 : vm_okB 14 mX14_redeem 26 bX14_redeemx_26 = true := by decide +kernel
def bX14_redeemx_33 : List vm_J := [(1, .iload_n 3, 0, 0, 0, .null), (3, .ifCond .lt 98, 132, 0, 0, .null), (1, .aload_n 0, 0, 0, 0, .null), (3, .getfield 453, 14, 55, 0, .null), (1, .iload_n 3, 0, 0, 0, .null), (1, .baload, 1, 0, 0, .null), (3, .ifCond .eq 20, 63, 0, 0, .null), (1, .aload_n 0, 0, 0, 0, .null), (1, .aload_n 0, 0, 0, 0, .null), (3, .getfield 450, 14, 54, 0, .null), (1, .iload_n 3, 0, 0, 0, .null), (1, .iaload, 0, 0, 0, .null), (3, .invokevirtual 616, 218, 1, 14, .null), (3, .ifCond .eq 7, 63, 0, 0, .null), (1, .iconst 1, 0, 0, 0, .int 1), (3, .goto 4, 64, 0, 0, .null)]
set_option maxRecDepth 20000 in
theorem oX14_redeemx_33 : vm_okB 14 mX14_redeem 33 bX14_redeemx_33 = true := by decide +kernel
def bX14_redeemx_63 : List vm_J := [(1, .iconst 0, 0, 0, 0, .int 0)]
set_option maxRecDepth 20000 in
theorem oX14_redeemx_63 : vm_okB 14 mX14_redeem 63 bX14_redeemx_63 = true := by decide +kernel
def bX14_redeemx_64 : List vm_J := [(2, .istore 4, 0, 0, 0, .null)]
set_option maxRecDepth 20000 in
theorem oX14_redeemx_64 : vm_okB 14 mX14_redeem 64 bX14_redeemx_64 = true := by decide +kernel
def bX14_redeemx_66 : List vm_J := [(1, .iconst 0, 0, 0, 0, .int 0), (2, .istore 5, 0, 0, 0, .null)]
set_option maxRecDepth 20000 in
theorem oX14_redeemx_66 : vm_okB 14 mX14_redeem 66 bX14_redeemx_66 = true := by decide +kernel
def bX14_redeemx_69 : List vm_J := [(2, .iload 5, 0, 0, 0, .null), (2, .bipush 32, 0, 0, 0, .int 32), (3, .if_icmp .ge 46, 119, 0, 0, .null), (2, .iload 4, 0, 0, 0, .null), (3, .ifCond .eq 32, 110, 0, 0, .null), (1, .aload_n 0, 0, 0, 0, .null), (3, .getfield 457, 14, 56, 0, .null), (2, .bipush 32, 0, 0, 0, .int 32), (1, .iload_n 3, 0, 0, 0, .null), (1, .imul, 0, 0, 0, .null), (2, .iload 5, 0, 0, 0, .null), (1, .iadd, 0, 0, 0, .null), (1, .baload, 0, 0, 0, .null), (1, .aload_n 0, 0, 0, 0, .null), (3, .getfield 492, 14, 74, 0, .null), (2, .bipush 66, 0, 0, 0, .int 66), (2, .iload 5, 0, 0, 0, .null), (1, .iadd, 0, 0, 0, .null), (1, .baload, 0, 0, 0, .null), (3, .if_icmp .ne 7, 110, 0, 0, .null), (1, .iconst 1, 0, 0, 0, .int 1), (3, .goto 4, 111, 0, 0, .null)]
set_option maxRecDepth 20000 in
theorem oX14_redeemx_69 : vm_okB 14 mX14_redeem 69 bX14_redeemx_69 = true := by decide +kernel
def bX14_redeemx_110 : List vm_J := [(1, .iconst 0, 0, 0, 0, .int 0)]
set_option maxRecDepth 20000 in
theorem oX14_redeemx_110 : vm_okB 14 mX14_redeem 110 bX14_redeemx_110 = true := by decide +kernel
def bX14_redeemx_111 : List vm_J := [(2, .istore 4, 0, 0, 0, .null)]
set_option maxRecDepth 20000 in
theorem oX14_redeemx_111 : vm_okB 14 mX14_redeem 111 bX14_redeemx_111 = true := by decide +kernel
def bX14_redeemx_113 : List vm_J := [(3, .iinc 5 1, 0, 0, 0, .int 1), (3, .goto (-47), 69, 0, 0, .null)]
set_option maxRecDepth 20000 in
theorem oX14_redeemx_113 : vm_okB 14 mX14_redeem 113 bX14_redeemx_113 = true := by decide +kernel
def bX14_redeemx_119 : List vm_J := [(2, .iload 4, 0, 0, 0, .null), (3, .ifCond .eq 5, 126, 0, 0, .null), (1, .iload_n 3, 0, 0, 0, .null), (1, .istore_n 2, 0, 0, 0, .null)]
set_option maxRecDepth 20000 in
theorem oX14_redeemx_119 : vm_okB 14 mX14_redeem 119 bX14_redeemx_119 = true := by decide +kernel
def bX14_redeemx_126 : List vm_J := [(3, .iinc 3 (-1), 0, 0, 0, .int (-1)), (3, .goto (-96), 33, 0, 0, .null)]
set_option maxRecDepth 20000 in
theorem oX14_redeemx_126 : vm_okB 14 mX14_redeem 126 bX14_redeemx_126 = true := by decide +kernel
def bX14_redeemx_132 : List vm_J := [(1, .iload_n 2, 0, 0, 0, .null), (3, .ifCond .ge 6, 139, 0, 0, .null), (2, .bipush (-3), 0, 0, 0, .int (-3)), (1, .ireturn, 0, 0, 0, .null)]
set_option maxRecDepth 20000 in
theorem oX14_redeemx_132 : vm_okB 14 mX14_redeem 132 bX14_redeemx_132 = true := by decide +kernel
def bX14_redeemx_139 : List vm_J := [(1, .iload_n 1, 0, 0, 0, .null), (2, .bipush 98, 0, 0, 0, .int 98), (1, .aload_n 0, 0, 0, 0, .null), (3, .getfield 468, 14, 61, 0, .null), (1, .iload_n 2, 0, 0, 0, .null), (1, .iaload, 0, 0, 0, .null), (1, .iadd, 0, 0, 0, .null), (3, .if_icmp .eq 6, 155, 0, 0, .null), (2, .bipush (-2), 0, 0, 0, .int (-2)), (1, .ireturn, 0, 0, 0, .null)]
set_option maxRecDepth 20000 in
theorem oX14_redeemx_139 : vm_okB 14 mX14_redeem 139 bX14_redeemx_139 = true := by decide +kernel
def bX14_redeemx_155 : List vm_J := [(1, .aload_n 0, 0, 0, 0, .null), (1, .iload_n 2, 0, 0, 0, .null), (3, .invokevirtual 665, 232, 1, 14, .null), (3, .ifCond .ne 6, 166, 0, 0, .null), (2, .bipush (-4), 0, 0, 0, .int (-4)), (1, .ireturn, 0, 0, 0, .null)]
set_option maxRecDepth 20000 in
theorem oX14_redeemx_155 : vm_okB 14 mX14_redeem 155 bX14_redeemx_155 = true := by decide +kernel
def bX14_redeemx_166 : List vm_J := [(1, .lconst 0, 0, 0, 0, .long 0), (1, .lstore_n 3, 0, 0, 0, .null)]
set_option maxRecDepth 20000 in
theorem oX14_redeemx_166 : vm_okB 14 mX14_redeem 166 bX14_redeemx_166 = true := by decide +kernel
def bX14_redeemx_168 : List vm_J := [(1, .iconst 0, 0, 0, 0, .int 0), (2, .istore 5, 0, 0, 0, .null)]
set_option maxRecDepth 20000 in
theorem oX14_redeemx_168 : vm_okB 14 mX14_redeem 168 bX14_redeemx_168 = true := by decide +kernel
def bX14_redeemx_171 : List vm_J := [(2, .iload 5, 0, 0, 0, .null), (1, .iconst 4, 0, 0, 0, .int 4), (3, .if_icmp .ge 29, 203, 0, 0, .null), (1, .lload_n 3, 0, 0, 0, .null), (2, .bipush 8, 0, 0, 0, .int 8), (1, .lshl, 0, 0, 0, .null), (1, .aload_n 0, 0, 0, 0, .null), (3, .getfield 492, 14, 74, 0, .null), (1, .iconst 2, 0, 0, 0, .int 2), (2, .iload 5, 0, 0, 0, .null), (1, .iadd, 0, 0, 0, .null), (1, .baload, 0, 0, 0, .null), (3, .sipush 255, 0, 0, 0, .int 255), (1, .iand, 0, 0, 0, .null), (1, .i2l, 0, 0, 0, .null), (1, .lor, 0, 0, 0, .null), (1, .lstore_n 3, 0, 0, 0, .null)]
set_option maxRecDepth 20000 in
theorem oX14_redeemx_171 : vm_okB 14 mX14_redeem 171 bX14_redeemx_171 = true := by decide +kernel
def bX14_redeemx_197 : List vm_J := [(3, .iinc 5 1, 0, 0, 0, .int 1), (3, .goto (-29), 171, 0, 0, .null)]
set_option maxRecDepth 20000 in
theorem oX14_redeemx_197 : vm_okB 14 mX14_redeem 197 bX14_redeemx_197 = true := by decide +kernel
def bX14_redeemx_203 : List vm_J := [(1, .lload_n 3, 0, 0, 0, .null), (3, .ldc2_w 668, 0, 0, 0, .long (112)), (1, .lrem, 0, 0, 0, .null), (1, .l2i, 0, 0, 0, .null), (2, .istore 5, 0, 0, 0, .null)]
set_option maxRecDepth 20000 in
theorem oX14_redeemx_203 : vm_okB 14 mX14_redeem 203 bX14_redeemx_203 = true := by decide +kernel
def bX14_redeemx_211 : List vm_J := [(1, .iconst (-1), 0, 0, 0, .int (-1)), (2, .istore 6, 0, 0, 0, .null)]
set_option maxRecDepth 20000 in
theorem oX14_redeemx_211 : vm_okB 14 mX14_redeem 211 bX14_redeemx_211 = true := by decide +kernel
def bX14_redeemx_214 : List vm_J := [(1, .iconst 0, 0, 0, 0, .int 0), (2, .istore 7, 0, 0, 0, .null)]
set_option maxRecDepth 20000 in
theorem oX14_redeemx_214 : vm_okB 14 mX14_redeem 214 bX14_redeemx_214 = true := by decide +kernel
def bX14_redeemx_217 : List vm_J := [(2, .iload 7, 0, 0, 0, .null), (2, .bipush 112, 0, 0, 0, .int 112), (3, .if_icmp .ge 52, 273, 0, 0, .null), (2, .iload 6, 0, 0, 0, .null), (3, .ifCond .ge 47, 273, 0, 0, .null), (2, .iload 5, 0, 0, 0, .null), (2, .iload 7, 0, 0, 0, .null), (1, .iadd, 0, 0, 0, .null), (2, .bipush 112, 0, 0, 0, .int 112), (1, .irem, 0, 0, 0, .null), (2, .istore 8, 0, 0, 0, .null)]
set_option maxRecDepth 20000 in
theorem oX14_redeemx_217 : vm_okB 14 mX14_redeem 217 bX14_redeemx_217 = true := by decide +kernel
def bX14_redeemx_239 : List vm_J := [(1, .aload_n 0, 0, 0, 0, .null), (2, .iload 8, 0, 0, 0, .null), (3, .invokevirtual 670, 230, 1, 14, .null), (3, .ifCond .eq 10, 255, 0, 0, .null), (2, .iload 8, 0, 0, 0, .null), (2, .istore 6, 0, 0, 0, .null)]
set_option maxRecDepth 20000 in
theorem oX14_redeemx_239 : vm_okB 14 mX14_redeem 239 bX14_redeemx_239 = true := by decide +kernel
def bX14_redeemx_252 : List vm_J := [(3, .goto 15, 267, 0, 0, .null)]
set_option maxRecDepth 20000 in
theorem oX14_redeemx_252 : vm_okB 14 mX14_redeem 252 bX14_redeemx_252 = true := by decide +kernel
def bX14_redeemx_255 : List vm_J := [(1, .aload_n 0, 0, 0, 0, .null), (2, .iload 8, 0, 0, 0, .null), (3, .invokevirtual 673, 231, 1, 14, .null), (3, .ifCond .eq 6, 267, 0, 0, .null), (2, .bipush (-5), 0, 0, 0, .int (-5)), (1, .ireturn, 0, 0, 0, .null)]
set_option maxRecDepth 20000 in
theorem oX14_redeemx_255 : vm_okB 14 mX14_redeem 255 bX14_redeemx_255 = true := by decide +kernel
def bX14_redeemx_267 : List vm_J := [(3, .iinc 7 1, 0, 0, 0, .int 1), (3, .goto (-53), 217, 0, 0, .null)]
set_option maxRecDepth 20000 in
theorem oX14_redeemx_267 : vm_okB 14 mX14_redeem 267 bX14_redeemx_267 = true := by decide +kernel
def bX14_redeemx_273 : List vm_J := [(2, .iload 6, 0, 0, 0, .null), (3, .ifCond .ge 6, 281, 0, 0, .null), (2, .bipush (-6), 0, 0, 0, .int (-6)), (1, .ireturn, 0, 0, 0, .null)]
set_option maxRecDepth 20000 in
theorem oX14_redeemx_273 : vm_okB 14 mX14_redeem 273 bX14_redeemx_273 = true := by decide +kernel
def bX14_redeemx_281 : List vm_J := [(1, .aload_n 0, 0, 0, 0, .null), (3, .getfield 489, 14, 71, 0, .null), (3, .ifCond .ne 11, 296, 0, 0, .null), (1, .aload_n 0, 0, 0, 0, .null), (1, .iconst 1, 0, 0, 0, .int 1), (3, .putfield 662, 14, 73, 2, .null)]
set_option maxRecDepth 20000 in
theorem oX14_redeemx_281 : vm_okB 14 mX14_redeem 281 bX14_redeemx_281 = true := by decide +kernel
def bX14_redeemx_293 : List vm_J := [(2, .bipush (-9), 0, 0, 0, .int (-9)), (1, .ireturn, 0, 0, 0, .null)]
set_option maxRecDepth 20000 in
theorem oX14_redeemx_293 : vm_okB 14 mX14_redeem 293 bX14_redeemx_293 = true := by decide +kernel
def bX14_redeemx_296 : List vm_J := [(1, .aload_n 0, 0, 0, 0, .null), (3, .getfield 489, 14, 71, 0, .null), (3, .ifCond .le 13, 313, 0, 0, .null), (1, .aload_n 0, 0, 0, 0, .null), (1, .dup, 0, 0, 0, .null), (3, .getfield 489, 14, 71, 0, .null), (1, .iconst 1, 0, 0, 0, .int 1), (1, .isub, 0, 0, 0, .null), (3, .putfield 489, 14, 71, 0, .null)]
set_option maxRecDepth 20000 in
theorem oX14_redeemx_296 : vm_okB 14 mX14_redeem 296 bX14_redeemx_296 = true := by decide +kernel
def bX14_redeemx_313 : List vm_J := [(1, .aload_n 0, 0, 0, 0, .null), (1, .dup, 0, 0, 0, .null), (3, .getfield 676, 14, 70, 0, .null), (1, .iconst 1, 0, 0, 0, .int 1), (1, .iadd, 0, 0, 0, .null), (3, .putfield 676, 14, 70, 0, .null)]
set_option maxRecDepth 20000 in
theorem oX14_redeemx_313 : vm_okB 14 mX14_redeem 313 bX14_redeemx_313 = true := by decide +kernel
def bX14_redeemx_323 : List vm_J := [(1, .aload_n 0, 0, 0, 0, .null), (1, .dup, 0, 0, 0, .null), (3, .getfield 679, 14, 72, 0, .null), (1, .iconst 1, 0, 0, 0, .int 1), (1, .iadd, 0, 0, 0, .null), (3, .putfield 679, 14, 72, 0, .null)]
set_option maxRecDepth 20000 in
theorem oX14_redeemx_323 : vm_okB 14 mX14_redeem 323 bX14_redeemx_323 = true := by decide +kernel
def bX14_redeemx_333 : List vm_J := [(1, .aload_n 0, 0, 0, 0, .null), (3, .getfield 486, 14, 69, 0, .null), (2, .iload 6, 0, 0, 0, .null), (3, .invokestatic 659, 229, 1, 0, .null), (1, .iconst 3, 0, 0, 0, .int 3), (1, .iadd, 0, 0, 0, .null), (1, .iconst 1, 0, 0, 0, .int 1), (1, .bastore, 0, 0, 0, .null)]
set_option maxRecDepth 20000 in
theorem oX14_redeemx_333 : vm_okB 14 mX14_redeem 333 bX14_redeemx_333 = true := by decide +kernel
def bX14_redeemx_346 : List vm_J := [(1, .iconst 0, 0, 0, 0, .int 0), (2, .istore 7, 0, 0, 0, .null)]
set_option maxRecDepth 20000 in
theorem oX14_redeemx_346 : vm_okB 14 mX14_redeem 346 bX14_redeemx_346 = true := by decide +kernel
def bX14_redeemx_349 : List vm_J := [(2, .iload 7, 0, 0, 0, .null), (2, .bipush 32, 0, 0, 0, .int 32), (3, .if_icmp .ge 33, 386, 0, 0, .null), (1, .aload_n 0, 0, 0, 0, .null), (3, .getfield 486, 14, 69, 0, .null), (2, .iload 6, 0, 0, 0, .null), (3, .invokestatic 659, 229, 1, 0, .null), (1, .iconst 4, 0, 0, 0, .int 4), (1, .iadd, 0, 0, 0, .null), (2, .iload 7, 0, 0, 0, .null), (1, .iadd, 0, 0, 0, .null), (1, .aload_n 0, 0, 0, 0, .null), (3, .getfield 492, 14, 74, 0, .null), (1, .iconst 2, 0, 0, 0, .int 2), (2, .iload 7, 0, 0, 0, .null), (1, .iadd, 0, 0, 0, .null), (1, .baload, 0, 0, 0, .null), (1, .bastore, 0, 0, 0, .null)]
set_option maxRecDepth 20000 in
theorem oX14_redeemx_349 : vm_okB 14 mX14_redeem 349 bX14_redeemx_349 = true := by decide +kernel
def bX14_redeemx_380 : List vm_J := [(3, .iinc 7 1, 0, 0, 0, .int 1), (3, .goto (-34), 349, 0, 0, .null)]
set_option maxRecDepth 20000 in
theorem oX14_redeemx_380 : vm_okB 14 mX14_redeem 380 bX14_redeemx_380 = true := by decide +kernel
def bX14_redeemx_386 : List vm_J := [(1, .iconst 0, 0, 0, 0, .int 0), (1, .ireturn, 0, 0, 0, .null)]
set_option maxRecDepth 20000 in
theorem oX14_redeemx_386 : vm_okB 14 mX14_redeem 386 bX14_redeemx_386 = true := by decide +kernel
section
variable {l : Launch} {O : Nat → vm_Ob} {f9 : Value} {h h' : vm_H} {a kn an rd wr : Nat} {t : KT} {g g' : Nat → Int32} {m y w ou : List Nat} {kf : Nat → aK} {af : Nat → aA} {D : Nat → Nat} {dn : Bool} {wl : Int} {th : Int32}
theorem rm_isIn {s : Nat} {c : Nat → Nat} {w9 : List Nat} (hs : s < 112) (k : SY h a t g w9 m y) (hD : bv h 4096 (a + 152) D) (bc : bv h 1208 (a + 153) c) : vm_Met (vm_env l O f9) mX14_isIn 0 0 [.ref a, .int (nI s)] h (fun r h' => (∃ ok : Bool, r = some (.int (bi ok)) ∧ (ok = true ↔ sam D c 2 s)) ∧ h' = h) := by
  suffices H : ∀ Q : Option Value → vm_H → Prop, (∀ ok : Bool, (ok = true ↔ sam D c 2 s) → Q (some (.int (bi ok))) h) → vm_Met (vm_env l O f9) mX14_isIn 0 0 [.ref a, .int (nI s)] h Q from H _ (fun v z => ⟨⟨v, rfl, z⟩, rfl⟩)
  intro Q hQ
  obtain ⟨fd, efd, vfd⟩ := hD
  obtain ⟨fc, efc, vfc⟩ := bc
  have hp := pl_lt hs
  have LP : ∀ d j, j + d = 32 → ∀ ok : Bool, (ok = true ↔ ∀ q, q < j → D (pl s + 4 + q) = c (2 + q)) → vm_T (vm_env l O f9) mX14_isIn 0 0 4 [(0, .ref a), (1, .int (nI s)), (2, .int (bi ok)), (3, .int (nI j))] [] h Q := by
    intro d
    induction d with
    | zero =>
      intro j hj ok hok
      have hj : j = 32 := by omega
      subst hj
      refine vm_go rfl bX14_isInx_4 oX14_isInx_4 ⟨fun _ => ?_, fun q => absurd (nI_le (a := 32) (b := 32) (by decide) (by decide)) q⟩
      exact vm_go rfl bX14_isInx_50 oX14_isInx_50 ⟨bi_if, hQ ok hok⟩
    | succ d ih =>
      intro j hj ok hok
      have nx : ∀ ok' : Bool, (ok' = true ↔ ∀ q, q < j + 1 → D (pl s + 4 + q) = c (2 + q)) → vm_T (vm_env l O f9) mX14_isIn 0 0 43 [(0, .ref a), (1, .int (nI s)), (2, .int (bi ok)), (3, .int (nI j))] [.int (bi ok')] h Q := fun ok' hok' => by
        refine vm_go rfl bX14_isInx_43 oX14_isInx_43 (vm_Th (lv' := [(0, .ref a), (1, .int (nI s)), (2, .int (bi ok')), (3, .int (nI j))]) (h' := h) rfl rfl ?_)
        refine vm_go rfl bX14_isInx_44 oX14_isInx_44 (vm_Th (by rw [← nI_1 j]; rfl) rfl (ih (j + 1) (by omega) ok' hok'))
      have no : ¬ (∀ q, q < j + 1 → D (pl s + 4 + q) = c (2 + q)) → vm_T (vm_env l O f9) mX14_isIn 0 0 42 [(0, .ref a), (1, .int (nI s)), (2, .int (bi ok)), (3, .int (nI j))] [] h Q := fun n => vm_go rfl bX14_isInx_42 oX14_isInx_42 (nx false ⟨fun z => (nomatch z), fun z => absurd z n⟩)
      refine vm_go rfl bX14_isInx_4 oX14_isInx_4 ⟨fun q => absurd q (nI_ge (b := 32) (by omega) (by decide)), fun _ => ?_⟩
      cases ok with
      | false => exact ⟨fun _ => no (fun z => nomatch hok.mpr (fun q hq => z q (by omega))), fun q => absurd rfl q⟩
      | true =>
      have p5 := vfd (pl s + 4 + j) (by omega)
      have p6 := vfc (2 + j) (by omega)
      refine ⟨fun q => absurd q (by decide), fun _ => ⟨_, _, k.1.1, rfl, ⟨0, 0, _, rm_slot hs, Nat.zero_le _, Nat.zero_le _, ?_⟩⟩⟩
      rintro _ h1 ⟨rfl, e1⟩
      rw [e1]; clear e1 h1
      refine ⟨4096, fd, efd, pl s + 4 + j, by rw [← nI_add, ← nI_add]; rfl, by omega, fun _ => ⟨_, _, k.1.1, rfl, ⟨1208, fc, efc, 2 + j, nI_add 2 j, by omega, fun _ => ?_⟩⟩⟩
      rw [p5.1, p6.1]
      refine ⟨fun q => no (fun z => q (by rw [z j (by omega)])), fun q => nx true ⟨fun _ q' hq' => ?_, fun _ => rfl⟩⟩
      by_cases e : q' = j
      · rw [e]; exact sb_inj p5.2 p6.2 q
      · exact hok.mp rfl q' (by omega)
  refine vm_met rfl (Nat.le_of_ble_eq_true rfl) ?_
  refine vm_go rfl bX14_isInx_0 oX14_isInx_0 (vm_Th (lv' := [(0, .ref a), (1, .int (nI s)), (2, .int (bi true))]) (h' := h) rfl rfl ?_)
  refine vm_go rfl bX14_isInx_2 oX14_isInx_2 (vm_Th (lv' := [(0, .ref a), (1, .int (nI s)), (2, .int (bi true)), (3, .int (nI 0))]) (h' := h) rfl rfl ?_)
  exact LP 32 0 rfl true ⟨fun _ q hq => by omega, fun _ => rfl⟩
theorem red_313 {Q : Option Value → vm_H → Prop} {p : Nat} {c : Nat → Nat} (hp : p < 112) (k : SY h a t g [] m y) (G : RG9 g 0 kn an rd dn wl wr ([] : List Nat).length ou.length) (st : ST h a kn an kf af D [] ou) (bc : bv h 1208 (a + 153) c) (hQ : ∀ h', RM h' a t 0 [] ou kn an (rd + 1) kf af (dpt D c 2 p) dn wl (wr + 1) → fr h h' (RF a) → Q (some (.int 0)) h') : vm_T (vm_env l O f9) mX14_redeem 0 0 313 [(0, .ref a), (6, .int (nI p))] [] h Q := by
  have ao := k.1.2.1
  have la : a < 1099511627776 := by omega
  have l152 : a + 152 < 1099511627776 := by omega
  have hpl := pl_lt hp
  have g70 : u3 g (nI ([] : List Nat).length) (nI m.length) (nI y.length) 70 = nI wr := G.2.2.2.1
  refine vm_go rfl bX14_redeemx_313 oX14_redeemx_313 ⟨_, _, k.1.1, rfl, ⟨_, k.1.1, la, show 70 < 89 by decide, trivial, ?_⟩⟩
  obtain ⟨h1, eh1⟩ : ∃ h1, h1 = vm_up h a (RO a (u3 (ug g 70 (nI (wr + 1))) (nI ([] : List Nat).length) (nI m.length) (nI y.length))) := ⟨_, rfl⟩
  obtain ⟨k1, F1⟩ := SY_g k eh1
  refine vm_Th (lv' := [(0, .ref a), (6, .int (nI p))]) (h' := h1) rfl (by rw [eh1, ← nI_1 wr, ← g70]; rfl) ?_
  have g72 : u3 (ug g 70 (nI (wr + 1))) (nI ([] : List Nat).length) (nI m.length) (nI y.length) 72 = nI rd := G.2.2.2.2.2.1
  refine vm_go rfl bX14_redeemx_323 oX14_redeemx_323 ⟨_, _, k1.1.1, rfl, ⟨_, k1.1.1, la, show 72 < 89 by decide, trivial, ?_⟩⟩
  obtain ⟨h2, eh2⟩ : ∃ h2, h2 = vm_up h1 a (RO a (u3 (ug (ug g 70 (nI (wr + 1))) 72 (nI (rd + 1))) (nI ([] : List Nat).length) (nI m.length) (nI y.length))) := ⟨_, rfl⟩
  obtain ⟨k2, F2⟩ := SY_g k1 eh2
  refine vm_Th (lv' := [(0, .ref a), (6, .int (nI p))]) (h' := h2) rfl (by rw [eh2, ← nI_1 rd, ← g72]; rfl) ?_
  have F02 : fr h h2 (fun q => q = a) := fr_trans F1 F2
  have G2 : RG9 (ug (ug g 70 (nI (wr + 1))) 72 (nI (rd + 1))) 0 kn an (rd + 1) dn wl (wr + 1) ([] : List Nat).length ou.length := ⟨G.1, G.2.1, G.2.2.1, rfl, G.2.2.2.2.1, rfl, G.2.2.2.2.2.2⟩
  have st2 := ST_fr st F02 (fun q z => by unfold scr; omega)
  obtain ⟨fd, efd, vfd⟩ := id st2.2.2.1
  refine vm_go rfl bX14_redeemx_333 oX14_redeemx_333 ⟨_, _, k2.1.1, rfl, ⟨0, 0, _, rm_slot hp, Nat.zero_le _, Nat.zero_le _, ?_⟩⟩
  rintro _ h3 ⟨rfl, e3⟩
  rw [e3]; clear e3 h3
  refine ⟨4096, fd, efd, l152, pl p + 3, nI_add _ 3, by omega, ?_⟩
  obtain ⟨h3, eh3⟩ : ∃ h3, h3 = vm_up h2 (a + 152) (.inl (.byte, 4096, .inl (upd fd (pl p + 3) (sb 1)))) := ⟨_, rfl⟩
  have F3 : fr h2 h3 (fun q => q = a + 152) := eh3 ▸ fr_up rfl
  have b3 : bv h3 4096 (a + 152) (b1 D (pl p + 3) 1) := eh3 ▸ bv_up vfd (by decide)
  refine vm_Th (lv' := [(0, .ref a), (6, .int (nI p))]) (h' := h3) rfl (by rw [eh3]; rfl) ?_
  have k3 := SY_off k2 F3 (fun q z => by omega)
  refine vm_go rfl bX14_redeemx_346 oX14_redeemx_346 (vm_Th (lv' := [(0, .ref a), (6, .int (nI p)), (7, .int (nI 0))]) (h' := h3) rfl rfl ?_)
  obtain ⟨fc, efc, vfc⟩ := bv_cg bc (F02.2 (a + 153) (by omega))
  refine vm_loop (fun j h' => SY h' a t (ug (ug g 70 (nI (wr + 1))) 72 (nI (rd + 1))) [] m y ∧ bv h' 4096 (a + 152) (app (b1 D (pl p + 3) 1) (pl p + 4) (fun q => c (2 + q)) j) ∧ fr h2 h' (fun q => q = a + 152)) 32 (fun j => [(0, .ref a), (6, .int (nI p)), (7, .int (nI j))]) 0 h3 (Nat.zero_le _) ⟨k3, by rw [app_0]; exact b3, F3⟩ ?_ ?_
  rotate_left
  · rintro j h7 _ hj ⟨k7, ⟨f7, ef7, vf7⟩, F7⟩ ih
    have vs9 := vfc (2 + j) (by omega)
    refine vm_go rfl bX14_redeemx_349 oX14_redeemx_349 ⟨fun q => absurd q (nI_ge (b := 32) hj (by decide)), fun _ => ⟨_, _, k7.1.1, rfl, ⟨0, 0, _, rm_slot hp, Nat.zero_le _, Nat.zero_le _, ?_⟩⟩⟩
    rintro _ h8 ⟨rfl, e8⟩
    rw [e8]; clear e8 h8
    refine ⟨_, _, k7.1.1, rfl, ⟨1208, fc, (F7.2 _ (by omega)).trans efc, 2 + j, nI_add 2 j, by omega, fun _ => ⟨4096, f7, ef7, l152, pl p + 4 + j, by rw [← nI_add, ← nI_add]; rfl, by omega, ?_⟩⟩⟩
    obtain ⟨h8, eh8⟩ : ∃ h8, h8 = vm_up h7 (a + 152) (.inl (.byte, 4096, .inl (upd f7 (pl p + 4 + j) (sb (c (2 + j)))))) := ⟨_, rfl⟩
    have F8 : fr h7 h8 (fun q => q = a + 152) := eh8 ▸ fr_up rfl
    have b8' : bv h8 4096 (a + 152) (b1 (app (b1 D (pl p + 3) 1) (pl p + 4) (fun q => c (2 + q)) j) (pl p + 4 + j) (c (2 + j))) := eh8 ▸ bv_up vf7 vs9.2
    rw [app_1 rfl] at b8'
    refine vm_Th (lv' := [(0, .ref a), (6, .int (nI p)), (7, .int (nI j))]) (h' := h8) rfl (by rw [eh8, ← sb_self _ vs9.2, ← vs9.1]; rfl) ?_
    refine vm_go rfl bX14_redeemx_380 oX14_redeemx_380 (vm_Th (by rw [← nI_1 j]; rfl) rfl (ih h8 ⟨SY_off k7 F8 (fun q z => by omega), b8', fr_trans F7 F8⟩))
  rintro h7 ⟨k7, b7, F7⟩
  refine vm_go rfl bX14_redeemx_349 oX14_redeemx_349 ⟨fun _ => ?_, fun q => absurd (nI_le (a := 32) (b := 32) (by decide) (by decide)) q⟩
  refine vm_go rfl bX14_redeemx_386 oX14_redeemx_386 (hQ h7 ⟨_, _, _, k7, G2, ?_⟩ (fr_trans (fr_mono F02 (fun q z => by unfold RF; omega)) (fr_mono F7 (fun q z => by unfold RF; omega))))
  obtain ⟨q1, q2, q3, q4, q5, q6, q7, q8, q9⟩ := st2
  exact ⟨SK_cg q1 q8 (fun q z => F7.2 q (by omega)), SA_cg q2 q9 (fun q z1 z2 => F7.2 q (by omega)), b7, rl9_cg q4 (F7.2 _ (by omega)), rl9_cg q5 (F7.2 _ (by omega)), q6, q7, q8, q9⟩
theorem red_281 {Q : Option Value → vm_H → Prop} {p : Nat} {c : Nat → Nat} (hp : p < 112) (k : SY h a t g [] m y) (G : RG9 g 0 kn an rd false wl wr ([] : List Nat).length ou.length) (st : ST h a kn an kf af D [] ou) (bc : bv h 1208 (a + 153) c) (hw1 : -1 ≤ wl) (hw2 : wl ≤ 1000) (hQ0 : wl = 0 → ∀ h', RM h' a t 0 [] ou kn an rd kf af D true wl wr → fr h h' (RF a) → Q (some (.int (-9))) h') (hQ : wl ≠ 0 → ∀ h', RM h' a t 0 [] ou kn an (rd + 1) kf af (dpt D c 2 p) false (if 0 < wl then wl - 1 else wl) (wr + 1) → fr h h' (RF a) → Q (some (.int 0)) h') : vm_T (vm_env l O f9) mX14_redeem 0 0 281 [(0, .ref a), (6, .int (nI p))] [] h Q := by
  have ao := k.1.2.1
  have la : a < 1099511627776 := by omega
  have g71 : u3 g (nI ([] : List Nat).length) (nI m.length) (nI y.length) 71 = iZ wl := G.2.2.2.2.1
  have z0 : iZ wl = 0 ↔ wl = 0 := iZ_inj (b := 0) (by omega) (by omega) (by decide) (by decide)
  by_cases c0 : wl = 0
  · refine vm_go rfl bX14_redeemx_281 oX14_redeemx_281 ⟨_, _, k.1.1, rfl, ⟨fun q => absurd (show u3 g (nI ([] : List Nat).length) (nI m.length) (nI y.length) 71 = 0 by rw [g71]; exact z0.mpr c0) q, fun _ => ⟨_, k.1.1, la, show 73 < 89 by decide, Or.inr rfl, ?_⟩⟩⟩
    obtain ⟨h1, eh1⟩ : ∃ h1, h1 = vm_up h a (RO a (u3 (ug g 73 1) (nI ([] : List Nat).length) (nI m.length) (nI y.length))) := ⟨_, rfl⟩
    obtain ⟨k1, F1⟩ := SY_g k eh1
    refine vm_Th (lv' := [(0, .ref a), (6, .int (nI p))]) (h' := h1) rfl eh1 ?_
    exact vm_go rfl bX14_redeemx_293 oX14_redeemx_293 (hQ0 c0 h1 ⟨_, _, _, k1, ⟨G.1, G.2.1, G.2.2.1, G.2.2.2.1, G.2.2.2.2.1, G.2.2.2.2.2.1, rfl, G.2.2.2.2.2.2.2⟩, ST_fr st F1 (fun q z => by unfold scr; omega)⟩ (fr_mono F1 (fun q z => by unfold RF; omega)))
  have hQ := hQ c0
  have n0 : ¬ u3 g (nI ([] : List Nat).length) (nI m.length) (nI y.length) 71 = 0 := by rw [g71]; exact fun z => c0 (z0.mp z)
  refine vm_go rfl bX14_redeemx_281 oX14_redeemx_281 ⟨_, _, k.1.1, rfl, ⟨fun _ => ?_, fun q => absurd q n0⟩⟩
  have le9 : iZ wl ≤ 0 ↔ wl ≤ 0 := iZ_le (b := 0) (by omega) (by omega) (by decide) (by decide)
  by_cases c1 : 0 < wl
  · rw [if_pos c1] at hQ
    have n1 : ¬ u3 g (nI ([] : List Nat).length) (nI m.length) (nI y.length) 71 ≤ 0 := by rw [g71, le9]; omega
    refine vm_go rfl bX14_redeemx_296 oX14_redeemx_296 ⟨_, _, k.1.1, rfl, ⟨fun q => absurd q n1, fun _ => ⟨_, _, k.1.1, rfl, ⟨_, k.1.1, la, show 71 < 89 by decide, trivial, ?_⟩⟩⟩⟩
    obtain ⟨h1, eh1⟩ : ∃ h1, h1 = vm_up h a (RO a (u3 (ug g 71 (iZ (wl - 1))) (nI ([] : List Nat).length) (nI m.length) (nI y.length))) := ⟨_, rfl⟩
    obtain ⟨k1, F1⟩ := SY_g k eh1
    refine vm_Th (lv' := [(0, .ref a), (6, .int (nI p))]) (h' := h1) rfl (by rw [eh1, ← iZ_sub, ← g71]; rfl) ?_
    exact red_313 hp k1 ⟨G.1, G.2.1, G.2.2.1, G.2.2.2.1, rfl, G.2.2.2.2.2⟩ (ST_fr st F1 (fun q z => by unfold scr; omega)) (bv_cg bc (F1.2 _ (by omega))) (fun h' r' F' => hQ h' r' (fr_trans (fr_mono F1 (fun q z => by unfold RF; omega)) F'))
  · rw [if_neg c1] at hQ
    have n1 : u3 g (nI ([] : List Nat).length) (nI m.length) (nI y.length) 71 ≤ 0 := by rw [g71, le9]; omega
    exact vm_go rfl bX14_redeemx_296 oX14_redeemx_296 ⟨_, _, k.1.1, rfl, ⟨fun _ => red_313 hp k G st bc hQ, fun q => absurd n1 q⟩⟩
theorem red_166 {Q : Option Value → vm_H → Prop} {i : Nat} (k : SY h a t g [] m y) (G : RG9 g 0 kn an rd false wl wr ([] : List Nat).length ou.length) (st : ST h a kn an kf af D [] ou) (tw : rl9 h 1208 (a + 153) w) (hw : 98 ≤ w.length) (hw1 : -1 ≤ wl) (hw2 : wl ≤ 1000) (hQ : ∀ h', RM h' a t 0 [] ou kn an (if (fSp D (gb w) wl wr).1 = 0 then rd + 1 else rd) kf af (fSp D (gb w) wl wr).2.1 (fSp D (gb w) wl wr).2.2.1 (fSp D (gb w) wl wr).2.2.2.1 (fSp D (gb w) wl wr).2.2.2.2 → fr h h' (RF a) → Q (some (.int (fSp D (gb w) wl wr).1)) h') : vm_T (vm_env l O f9) mX14_redeem 0 0 166 [(0, .ref a), (1, .int (nI w.length)), (2, .int (nI i))] [] h Q := by
  have ao := k.1.2.1
  obtain ⟨c, bc, ec⟩ := tw
  obtain ⟨fc, efc, vfc⟩ := id bc
  have cw : ∀ j, j < w.length → c j = gb w j := fun j hj => gb_w ec hj
  refine vm_go rfl bX14_redeemx_166 oX14_redeemx_166 (vm_Th (lv' := [(0, .ref a), (1, .int (nI w.length)), (2, .int (nI i)), (3, .long (bw3 c 2 0))]) (h' := h) rfl rfl ?_)
  refine vm_go rfl bX14_redeemx_168 oX14_redeemx_168 (vm_Th (lv' := [(0, .ref a), (1, .int (nI w.length)), (2, .int (nI i)), (3, .long (bw3 c 2 0)), (5, .int (nI 0))]) (h' := h) rfl rfl ?_)
  refine vm_for 4 (fun j => [(0, .ref a), (1, .int (nI w.length)), (2, .int (nI i)), (3, .long (bw3 c 2 j)), (5, .int (nI j))]) (fun _ => h) 0 (by decide) ?_ ?_
  rotate_left
  · intro j _ hj ih
    have a1 := vfc (2 + j) (by omega)
    refine vm_go rfl bX14_redeemx_171 oX14_redeemx_171 ⟨fun q => absurd q (nI_ge (b := 4) hj (by decide)), fun _ => ⟨_, _, k.1.1, rfl, ⟨1208, fc, efc, 2 + j, nI_add 2 j, by omega, fun _ => ?_⟩⟩⟩
    rw [a1.1]
    refine vm_Th (lv' := [(0, .ref a), (1, .int (nI w.length)), (2, .int (nI i)), (3, .long (bw3 c 2 (j + 1))), (5, .int (nI j))]) (h' := h) ?_ rfl ?_
    · show _ = [(0, Value.ref a), (1, .int (nI w.length)), (2, .int (nI i)), (3, .long (bw3 c 2 j <<< ((8 : Int32).toInt64 &&& 63) ||| (sb (c (2 + j)) &&& 255).toInt64)), (5, .int (nI j))]
      rw [sb_and _ a1.2]
      rfl
    exact vm_go rfl bX14_redeemx_197 oX14_redeemx_197 (vm_Th (by rw [← nI_1 j]; rfl) rfl ih)
  refine vm_go rfl bX14_redeemx_171 oX14_redeemx_171 ⟨fun _ => ?_, fun q => absurd (nI_le (a := 4) (b := 4) (by decide) (by decide)) q⟩
  rw [bw3_n 4 (by decide) (fun j hj => (vfc _ (by omega)).2)]
  have hv : bn c 2 4 < 4294967296 := by
    have := bn_lt (b := c) (at9 := 2) 4 (fun j h1 h2 => (vfc j (by omega)).2)
    omega
  have er := lZ_rem hv
  refine vm_go rfl bX14_redeemx_203 oX14_redeemx_203 ⟨by decide, ?_⟩
  refine vm_Th (lv' := [(0, .ref a), (1, .int (nI w.length)), (2, .int (nI i)), (3, .long (lZ (bn c 2 4 : Nat))), (5, .int (nI (bn c 2 4 % 112)))]) (h' := h) (by rw [← er]; rfl) rfl ?_
  refine vm_go rfl bX14_redeemx_211 oX14_redeemx_211 (vm_Th (lv' := [(0, .ref a), (1, .int (nI w.length)), (2, .int (nI i)), (3, .long (lZ (bn c 2 4 : Nat))), (5, .int (nI (bn c 2 4 % 112))), (6, .int (-1))]) (h' := h) rfl rfl ?_)
  refine vm_go rfl bX14_redeemx_214 oX14_redeemx_214 (vm_Th (lv' := [(0, .ref a), (1, .int (nI w.length)), (2, .int (nI i)), (3, .long (lZ (bn c 2 4 : Nat))), (5, .int (nI (bn c 2 4 % 112))), (6, .int (-1)), (7, .int (nI 0))]) (h' := h) rfl rfl ?_)
  have hs0 : bn c 2 4 % 112 < 112 := Nat.mod_lt _ (by decide)
  have hsl : ∀ i, slt (gb w) 2 i < 112 := fun i => Nat.mod_lt _ (by decide)
  have hsd : ∀ i, slt (gb w) 2 i = (bn c 2 4 % 112 + i) % 112 := fun i => by
    unfold slt
    rw [bn_w ec (by omega)]
  have hsam : ∀ s, sam D c 2 s ↔ samb D (gb w) 2 s = true := fun s => by
    rw [samb_i]
    unfold sam
    exact ⟨fun z q hq => by rw [z q hq]; exact cw _ (by omega), fun z q hq => by rw [z q hq]; exact (cw _ (by omega)).symm⟩
  have hdp : ∀ s, dpt D c 2 s = dpt D (gb w) 2 s := fun s => by
    unfold dpt
    funext q
    unfold app
    by_cases z : pl s + 4 ≤ q ∧ q < pl s + 4 + 32
    · rw [if_pos z, if_pos z]; exact cw _ (by omega)
    · rw [if_neg z, if_neg z]
  generalize bn c 2 4 % 112 = s0 at *
  generalize lZ (bn c 2 4 : Nat) = vv9 at *
  obtain ⟨Pq, hPq⟩ : ∃ Pq : Nat → Bool, Pq = (fun i => !(tkn D (slt (gb w) 2 i)) || samb D (gb w) 2 (slt (gb w) 2 i)) := ⟨_, rfl⟩
  have hfs : fsl D (gb w) 2 = fst9 Pq 112 := by rw [hPq]; rfl
  have pq : ∀ i, Pq i = true ↔ tkn D (slt (gb w) 2 i) = false ∨ samb D (gb w) 2 (slt (gb w) 2 i) = true := fun i => by
    rw [hPq]
    show (!(tkn D (slt (gb w) 2 i)) || samb D (gb w) 2 (slt (gb w) 2 i)) = true ↔ _
    rw [Bool.or_eq_true, Bool.not_eq_true']
  refine vm_loop (fun j h' => h' = h ∧ ∀ q, q < j → Pq q ≠ true) 112 (fun j => [(0, .ref a), (1, .int (nI w.length)), (2, .int (nI i)), (3, .long vv9), (5, .int (nI s0)), (6, .int (-1)), (7, .int (nI j))]) 0 h (Nat.zero_le _) ⟨rfl, fun q hq => by omega⟩ ?_ ?_
  · rintro h7 ⟨e7, np⟩
    rw [e7]; clear e7 h7
    have ef : fSp D (gb w) wl wr = (-6, D, false, wl, wr) := by unfold fSp; rw [hfs, fst9_no 112 np]
    rw [ef] at hQ
    refine vm_go rfl bX14_redeemx_217 oX14_redeemx_217 ⟨fun _ => ?_, fun q => absurd (nI_le (a := 112) (b := 112) (by decide) (by decide)) q⟩
    exact vm_go rfl bX14_redeemx_273 oX14_redeemx_273 ⟨fun q => absurd q (by decide), fun _ => hQ h ⟨_, _, _, k, G, st⟩ fr_refl⟩
  rintro j h7 _ hj ⟨e7, np⟩ ih
  rw [e7]; clear e7 h7
  have es : (nI s0 + nI j) - (nI s0 + nI j) / 112 * 112 = nI (slt (gb w) 2 j) := by
    rw [nI_add, hsd]; exact nI_rem (by omega) (by decide)
  have hl := hsl j
  refine vm_go rfl bX14_redeemx_217 oX14_redeemx_217 ⟨fun q => absurd q (nI_ge (b := 112) hj (by decide)), fun _ => ⟨fun q => absurd q (by decide), fun _ => ⟨by decide, ?_⟩⟩⟩
  obtain ⟨s, hs9⟩ : ∃ s, slt (gb w) 2 j = s := ⟨_, rfl⟩
  rw [hs9] at es hl
  refine vm_Th (lv' := [(0, .ref a), (1, .int (nI w.length)), (2, .int (nI i)), (3, .long vv9), (5, .int (nI s0)), (6, .int (-1)), (7, .int (nI j)), (8, .int (nI s))]) (h' := h) (by rw [← es]; rfl) rfl ?_
  refine vm_go rfl bX14_redeemx_239 oX14_redeemx_239 ⟨_, k.1.1, 0, 0, _, rm_isFree k st.2.2.1 hl, Nat.zero_le _, Nat.zero_le _, ?_⟩
  rintro _ h1 ⟨rfl, e1⟩
  rw [e1]; clear e1 h1
  cases etk : tkn D s with
  | false =>
    have ef : fSp D (gb w) wl wr = if wl = 0 then (-9, D, true, wl, wr) else (0, dpt D (gb w) 2 s, false, (if 0 < wl then wl - 1 else wl), wr + 1) := by
      unfold fSp
      rw [hfs, fst9_is hj ((pq j).mpr (.inl (by rw [hs9]; exact etk))) np]
      show (if tkn D (slt (gb w) 2 j) = true then _ else _) = _
      rw [hs9, etk, if_neg (by decide)]
    refine ⟨fun q => absurd q (by decide), fun _ => ?_⟩
    refine vm_Th (lv' := [(0, .ref a), (1, .int (nI w.length)), (2, .int (nI i)), (3, .long vv9), (5, .int (nI s0)), (6, .int (nI s)), (7, .int (nI j)), (8, .int (nI s))]) (h' := h) rfl rfl ?_
    refine vm_go rfl bX14_redeemx_252 oX14_redeemx_252 (vm_go rfl bX14_redeemx_267 oX14_redeemx_267 (vm_less [0, 1, 2, 3, 4, 5, 6] rfl (vm_Th (lv' := [(0, .ref a), (1, .int (nI w.length)), (2, .int (nI i)), (3, .long vv9), (5, .int (nI s0)), (6, .int (nI s)), (7, .int (nI (j + 1)))]) (h' := h) (by rw [← nI_1 j]; rfl) rfl ?_)))
    have s281 : vm_T (vm_env l O f9) mX14_redeem 0 0 281 [(0, .ref a), (6, .int (nI s))] [] h Q := by
      refine red_281 hl k G st bc hw1 hw2 (fun c0 h' r' F' => ?_) (fun c0 h' r' F' => ?_)
      · rw [ef, if_pos c0] at hQ
        exact hQ h' r' F'
      · rw [ef, if_neg c0] at hQ
        rw [hdp] at r'
        exact hQ h' r' F'
    have s273 : vm_T (vm_env l O f9) mX14_redeem 0 0 273 [(0, .ref a), (1, .int (nI w.length)), (2, .int (nI i)), (3, .long vv9), (5, .int (nI s0)), (6, .int (nI s)), (7, .int (nI (j + 1)))] [] h Q := vm_go rfl bX14_redeemx_273 oX14_redeemx_273 ⟨fun _ => vm_less [0, 5] rfl s281, fun q => absurd (show (0 : Int32) ≤ nI s from nI_le (a := 0) (Nat.zero_le _) (by omega)) q⟩
    exact vm_go rfl bX14_redeemx_217 oX14_redeemx_217 ⟨fun _ => s273, fun _ => ⟨fun _ => s273, fun q => absurd (show (0 : Int32) ≤ nI s from nI_le (a := 0) (Nat.zero_le _) (by omega)) q⟩⟩
  | true =>
    refine ⟨fun _ => ?_, fun q => absurd rfl q⟩
    refine vm_go rfl bX14_redeemx_255 oX14_redeemx_255 ⟨_, k.1.1, 0, 0, _, rm_isIn hl k st.2.2.1 bc, Nat.zero_le _, Nat.zero_le _, ?_⟩
    rintro _ h1 ⟨⟨ok, rfl, hok⟩, e1⟩
    rw [e1]; clear e1 h1
    rw [hsam] at hok
    cases ok with
    | true =>
      have ef : fSp D (gb w) wl wr = (-5, D, false, wl, wr) := by
        unfold fSp
        rw [hfs, fst9_is hj ((pq j).mpr (.inr (by rw [hs9]; exact hok.mp rfl))) np]
        show (if tkn D (slt (gb w) 2 j) = true then _ else _) = _
        rw [hs9, etk, if_pos rfl]
      rw [ef] at hQ
      exact ⟨fun q => absurd q (by decide), fun _ => hQ h ⟨_, _, _, k, G, st⟩ fr_refl⟩
    | false =>
      refine ⟨fun _ => vm_go rfl bX14_redeemx_267 oX14_redeemx_267 (vm_less [0, 1, 2, 3, 4, 5, 6] rfl (vm_Th (by rw [← nI_1 j]; rfl) rfl (ih h ⟨rfl, fun q hq => ?_⟩))), fun q => absurd rfl q⟩
      by_cases e : q = j
      · rw [e]
        intro z
        rcases (pq j).mp z with z | z
        · rw [hs9, etk] at z; cases z
        · rw [hs9] at z; exact nomatch hok.mpr z
      · exact np q (by omega)
set_option maxHeartbeats 2000000 in
theorem rp_redeem (h9 : f9.category = 1) (hKI : ∀ i, i < kn → KI (kf i)) (hw1 : -1 ≤ wl) (hw2 : wl ≤ 1000) (K : RM h a t th w ou kn an rd kf af D dn wl wr) : vm_Met (vm_env l O f9) mX14_redeem 0 0 [.ref a] h (fun r h' => (r = some (.int (fRe t.2.2.1 t.2.2.2 w kn rd kf D dn wl wr).1) ∧ RM h' a t 0 [] ou kn an (fRe t.2.2.1 t.2.2.2 w kn rd kf D dn wl wr).2.1 kf af (fRe t.2.2.1 t.2.2.2 w kn rd kf D dn wl wr).2.2.1 (fRe t.2.2.1 t.2.2.2 w kn rd kf D dn wl wr).2.2.2.1 (fRe t.2.2.1 t.2.2.2 w kn rd kf D dn wl wr).2.2.2.2.1 (fRe t.2.2.1 t.2.2.2 w kn rd kf D dn wl wr).2.2.2.2.2 ∧ fr h h' (RF a))) := by
  suffices H : ∀ Q : Option Value → vm_H → Prop, (∀ r h', (r = some (.int (fRe t.2.2.1 t.2.2.2 w kn rd kf D dn wl wr).1) ∧ RM h' a t 0 [] ou kn an (fRe t.2.2.1 t.2.2.2 w kn rd kf D dn wl wr).2.1 kf af (fRe t.2.2.1 t.2.2.2 w kn rd kf D dn wl wr).2.2.1 (fRe t.2.2.1 t.2.2.2 w kn rd kf D dn wl wr).2.2.2.1 (fRe t.2.2.1 t.2.2.2 w kn rd kf D dn wl wr).2.2.2.2.1 (fRe t.2.2.1 t.2.2.2 w kn rd kf D dn wl wr).2.2.2.2.2 ∧ fr h h' (RF a)) → Q r h') → vm_Met (vm_env l O f9) mX14_redeem 0 0 [.ref a] h Q from H _ (fun _ _ z => z)
  intro Q hQ
  have K0 := K
  obtain ⟨g0, m0, y0, k0, G0, st0⟩ := K
  have wl9 := st0.2.2.2.2.2.1
  have ao := k0.1.2.1
  refine vm_met rfl (Nat.le_of_ble_eq_true rfl) ?_
  refine vm_go rfl bX14_redeemx_0 oX14_redeemx_0 ⟨_, k0.1.1, 0, 0, _, rp_used K0, Nat.zero_le _, Nat.zero_le _, ?_⟩
  rintro _ h1 ⟨rfl, K1, tw, F1⟩
  have F1' : fr h h1 (RF a) := fr_mono F1 (fun q z => by unfold RF; omega)
  have K1' := K1
  obtain ⟨g, m, y, k, G, st⟩ := K1
  have hkn := st.2.2.2.2.2.2.2.1
  have tw0 := tw
  obtain ⟨c, bc, ec⟩ := tw
  obtain ⟨f, ef, vf⟩ := id bc
  have cw : ∀ j, j < w.length → c j = gb w j := fun j hj => gb_w ec hj
  refine vm_Th (lv' := [(0, .ref a), (1, .int (nI w.length))]) (h' := h1) rfl rfl ?_
  have g73 : u3 g (nI ([] : List Nat).length) (nI m.length) (nI y.length) 73 = bi dn := G.2.2.2.2.2.2.1
  cases edn : dn with
  | true =>
    have e9 : fRe t.2.2.1 t.2.2.2 w kn rd kf D dn wl wr = (-9, rd, D, dn, wl, wr) := by unfold fRe; rw [if_pos edn]
    rw [e9] at hQ
    refine vm_go rfl bX14_redeemx_5 oX14_redeemx_5 ⟨_, _, k.1.1, rfl, ⟨fun q => absurd (show u3 g (nI ([] : List Nat).length) (nI m.length) (nI y.length) 73 = 0 from q) (by rw [g73, edn]; decide), fun _ => hQ _ _ ⟨rfl, K1', F1'⟩⟩⟩
  | false =>
  refine vm_go rfl bX14_redeemx_5 oX14_redeemx_5 ⟨_, _, k.1.1, rfl, ⟨fun _ => ?_, fun q => absurd (show u3 g (nI ([] : List Nat).length) (nI m.length) (nI y.length) 73 = 0 by rw [g73, edn]; rfl) q⟩⟩
  by_cases h98 : w.length < 98
  · have e9 : fRe t.2.2.1 t.2.2.2 w kn rd kf D dn wl wr = (-2, rd, D, dn, wl, wr) := by unfold fRe; rw [if_neg (by rw [edn]; decide), if_pos h98]
    rw [e9] at hQ
    refine vm_go rfl bX14_redeemx_15 oX14_redeemx_15 ⟨fun q => ?_, fun _ => hQ _ _ ⟨rfl, K1', F1'⟩⟩
    have q : nI 98 ≤ nI w.length := q
    rw [nI_leI (by decide) (by omega)] at q
    omega
  refine vm_go rfl bX14_redeemx_15 oX14_redeemx_15 ⟨fun _ => ?_, fun q => absurd (show nI 98 ≤ nI w.length from nI_le (by omega) (by omega)) q⟩
  have eFR : fRe t.2.2.1 t.2.2.2 w kn rd kf D dn wl wr = (match fnt kf kn w with | none => (-3, rd, D, dn, wl, wr) | some i => if w.length = 98 + ksz (kf i) then cif (rtO t.2.2.1 t.2.2.2 (kf i) w) ((fSp D (gb w) wl wr).1, (if (fSp D (gb w) wl wr).1 = 0 then rd + 1 else rd), (fSp D (gb w) wl wr).2) (-4, rd, D, dn, wl, wr) else (-2, rd, D, dn, wl, wr)) := by
    unfold fRe
    rw [if_neg (by rw [edn]; decide), if_neg h98]
    cases fnt kf kn w <;> rfl
  obtain ⟨Pk, hP⟩ : ∃ Pk : Nat → Bool, Pk = (fun i => klv (kf i) && (decide ((kty (kf i) : Int) = tot (gb w) w.length 98) && decide (kid (kf i) = sl (gb w) 66 32))) := ⟨_, rfl⟩
  have hf : fnt kf kn w = fst9 Pk kn := by rw [hP]; rfl
  obtain ⟨⟨f1, ef1, v1⟩, ⟨f2, ef2, v2⟩, ⟨cid, bid, vid⟩, _, _, _, _, ⟨fl, efl, vl⟩, _⟩ := id st.1
  obtain ⟨fd, efd, vfd⟩ := id bid
  have pe : ∀ i, i < kn → (Pk i = true ↔ (klv (kf i) = true ∧ c 0 = 0 ∧ c 1 = kty (kf i)) ∧ ∀ q, q < 32 → cid (32 * i + q) = c (66 + q)) := fun i hi => by
    rw [hP]
    show (klv (kf i) && (decide ((kty (kf i) : Int) = tot (gb w) w.length 98) && decide (kid (kf i) = sl (gb w) 66 32))) = true ↔ _
    rw [Bool.and_eq_true, Bool.and_eq_true, decide_eq_true_iff, decide_eq_true_iff]
    have hty := (KI_sh (hKI i hi)).2.2.1
    have y1 : (kty (kf i) : Int) = tot (gb w) w.length 98 ↔ c 0 = 0 ∧ c 1 = kty (kf i) := by
      unfold tot
      rw [← cw 0 (by omega), ← cw 1 (by omega)]
      by_cases c0 : c 0 = 0
      · rw [if_neg (by omega)]
        by_cases c1 : c 1 = 1 ∨ c 1 = 2
        · rw [if_pos c1]; omega
        · rw [if_neg c1]; omega
      · rw [if_pos (.inr c0)]; omega
    have y2 : kid (kf i) = sl (gb w) 66 32 ↔ ∀ q, q < 32 → cid (32 * i + q) = c (66 + q) := by
      rw [← vid i hi, ← sl_w ec (by omega)]
      exact ⟨fun z q hq => sl_inj z q hq, fun z => sl_ext z⟩
    rw [y1, y2]
    exact ⟨fun z => ⟨⟨z.1, z.2.1⟩, z.2.2⟩, fun z => ⟨z.1.1, z.1.2, z.2⟩⟩
  -- what follows the search
  have fin : ∀ v, FD9 Pk kn 0 v → vm_T (vm_env l O f9) mX14_redeem 0 0 132 [(0, .ref a), (1, .int (nI w.length)), (2, .int v), (3, .int (iZ (-1)))] [] h1 Q := by
    intro v fd9
    rcases fd9 with ⟨ev, n⟩ | ⟨i, _, hi, ev, hp, n⟩
    · rw [hf, fst9_no kn (fun i hi => n i (by omega) hi)] at eFR
      rw [eFR] at hQ
      rw [ev]
      exact vm_go rfl bX14_redeemx_132 oX14_redeemx_132 ⟨fun q => absurd q (by decide), fun _ => hQ _ _ ⟨rfl, K1', F1'⟩⟩
    rw [hf, fst9_is hi hp (fun q hq => n q (by omega) hq)] at eFR
    have eFR : fRe t.2.2.1 t.2.2.2 w kn rd kf D dn wl wr = if w.length = 98 + ksz (kf i) then cif (rtO t.2.2.1 t.2.2.2 (kf i) w) ((fSp D (gb w) wl wr).1, (if (fSp D (gb w) wl wr).1 = 0 then rd + 1 else rd), (fSp D (gb w) wl wr).2) (-4, rd, D, dn, wl, wr) else (-2, rd, D, dn, wl, wr) := eFR
    rw [ev]
    refine vm_go rfl bX14_redeemx_132 oX14_redeemx_132 ⟨fun _ => ?_, fun q => absurd (show nI i ≥ 0 from nI_le (a := 0) (Nat.zero_le _) (by omega)) q⟩
    have ki := hKI i hi
    obtain ⟨osh, lid, hty, hsz⟩ := KI_sh ki
    refine vm_go rfl bX14_redeemx_139 oX14_redeemx_139 ⟨_, _, k.1.1, rfl, ⟨6, fl, efl, i, rfl, by omega, fun _ => ?_⟩⟩
    rw [vl i hi]
    have e98 : (98 : Int32) + nI (ksz (kf i)) = nI (98 + ksz (kf i)) := nI_add 98 _
    by_cases hl : w.length = 98 + ksz (kf i)
    case neg =>
      rw [if_neg hl] at eFR
      rw [eFR] at hQ
      refine ⟨fun q => ?_, fun _ => hQ _ _ ⟨rfl, K1', F1'⟩⟩
      have q : nI w.length = 98 + nI (ksz (kf i)) := q
      rw [e98, nI_ij (by omega) (by omega)] at q
      exact absurd q hl
    rw [if_pos hl] at eFR
    refine ⟨fun _ => ?_, fun q => absurd (show nI w.length = 98 + nI (ksz (kf i)) by rw [e98, hl]) q⟩
    refine vm_go rfl bX14_redeemx_155 oX14_redeemx_155 ⟨_, k.1.1, 0, 0, _, rm_isRight h9 k st.1 hkn tw0 wl9 hi ki hl, Nat.zero_le _, Nat.zero_le _, ?_⟩
    rintro _ h2 ⟨⟨ok, m2, y2, rfl, k2, hok⟩, F2⟩
    have st2 := ST_fr st F2 (fun q z => z)
    have F02 : fr h h2 (RF a) := fr_trans F1' (fr_mono F2 (fun q z => by unfold scr at z; unfold RF; omega))
    cases ok with
    | false =>
      rw [cif_f (fun z => nomatch hok.mpr z)] at eFR
      rw [eFR] at hQ
      exact ⟨fun q => absurd rfl q, fun _ => hQ _ _ ⟨rfl, ⟨_, _, _, k2, G, st2⟩, F02⟩⟩
    | true =>
    rw [cif_t (hok.mp rfl)] at eFR
    rw [eFR] at hQ
    refine ⟨fun _ => ?_, fun q => absurd q (by decide)⟩
    refine vm_less [0, 1, 2] rfl ?_
    rw [edn] at G
    exact red_166 k2 G st2 ⟨c, bv_cg bc (F2.2 _ (by unfold scr; omega)), ec⟩ (by omega) hw1 hw2 (fun h' r' F' => hQ _ _ ⟨rfl, r', fr_trans F02 F'⟩)
  have LP : ∀ j, j ≤ kn → ∀ v, FD9 Pk kn j v → vm_T (vm_env l O f9) mX14_redeem 0 0 33 [(0, .ref a), (1, .int (nI w.length)), (2, .int v), (3, .int (iZ ((j : Int) - 1)))] [] h1 Q := by
    intro j
    induction j with
    | zero =>
      intro _ v fd9
      exact vm_go rfl bX14_redeemx_33 oX14_redeemx_33 ⟨fun _ => fin v fd9, fun q => absurd (by decide) q⟩
    | succ j ih =>
      intro hj v fd9
      have ej : iZ (((j + 1 : Nat) : Int) - 1) = nI j := by rw [iZ_nI]; congr 1; omega
      rw [ej]
      have em : nI j + -1 = iZ ((j : Int) - 1) := by
        rw [iZ_nI]
        show iZ (j : Int) + iZ (-1) = _
        rw [iZ_add]; rfl
      have hjk : j < kn := by omega
      have nx : ∀ v' ok', FD9 Pk kn j v' → vm_T (vm_env l O f9) mX14_redeem 0 0 126 [(0, .ref a), (1, .int (nI w.length)), (2, .int v'), (3, .int (nI j)), (4, .int (bi ok')), (5, .int (nI 32))] [] h1 Q := fun v' ok' f' => by
        refine vm_go rfl bX14_redeemx_126 oX14_redeemx_126 (vm_less [0, 1, 2, 3] rfl (vm_Th (by rw [← em]; rfl) rfl (ih (by omega) v' f')))
      -- the 32 bytes
      have BY : ∀ d p, p + d = 32 → ∀ ok : Bool, (ok = true ↔ (klv (kf j) = true ∧ c 0 = 0 ∧ c 1 = kty (kf j)) ∧ ∀ q, q < p → cid (32 * j + q) = c (66 + q)) → vm_T (vm_env l O f9) mX14_redeem 0 0 69 [(0, .ref a), (1, .int (nI w.length)), (2, .int v), (3, .int (nI j)), (4, .int (bi ok)), (5, .int (nI p))] [] h1 Q := by
        intro d
        induction d with
        | zero =>
          intro p hp ok hok
          have hp : p = 32 := by omega
          subst hp
          rw [← pe j hjk] at hok
          refine vm_go rfl bX14_redeemx_69 oX14_redeemx_69 ⟨fun _ => ?_, fun q => absurd (nI_le (a := 32) (b := 32) (by decide) (by decide)) q⟩
          cases ok with
          | true =>
            refine vm_go rfl bX14_redeemx_119 oX14_redeemx_119 ⟨fun q => absurd q (by decide), fun _ => ?_⟩
            refine vm_Th (lv' := [(0, .ref a), (1, .int (nI w.length)), (2, .int (nI j)), (3, .int (nI j)), (4, .int (bi true)), (5, .int (nI 32))]) (h' := h1) rfl rfl ?_
            exact nx (nI j) true (.inr ⟨j, Nat.le_refl _, hjk, rfl, hok.mp rfl, fun q h1 h2 => by omega⟩)
          | false =>
            refine vm_go rfl bX14_redeemx_119 oX14_redeemx_119 ⟨fun _ => nx v false ?_, fun q => absurd rfl q⟩
            have n : Pk j ≠ true := fun z => nomatch hok.mpr z
            rcases fd9 with ⟨e, n9⟩ | ⟨i, h1, hi, e, hp, n9⟩
            · exact .inl ⟨e, fun i hi1 hi2 => by
                by_cases c : i = j
                · rw [c]; exact n
                · exact n9 i (by omega) hi2⟩
            · exact .inr ⟨i, by omega, hi, e, hp, fun q hq1 hq2 => by
                by_cases c : q = j
                · rw [c]; exact n
                · exact n9 q (by omega) hq2⟩
        | succ d ih2 =>
          intro p hp ok hok
          have nb : ∀ ok' : Bool, (ok' = true ↔ (klv (kf j) = true ∧ c 0 = 0 ∧ c 1 = kty (kf j)) ∧ ∀ q, q < p + 1 → cid (32 * j + q) = c (66 + q)) → vm_T (vm_env l O f9) mX14_redeem 0 0 111 [(0, .ref a), (1, .int (nI w.length)), (2, .int v), (3, .int (nI j)), (4, .int (bi ok)), (5, .int (nI p))] [.int (bi ok')] h1 Q := fun ok' hok' => by
            refine vm_go rfl bX14_redeemx_111 oX14_redeemx_111 (vm_Th (lv' := [(0, .ref a), (1, .int (nI w.length)), (2, .int v), (3, .int (nI j)), (4, .int (bi ok')), (5, .int (nI p))]) (h' := h1) rfl rfl ?_)
            exact vm_go rfl bX14_redeemx_113 oX14_redeemx_113 (vm_Th (by rw [← nI_1 p]; rfl) rfl (ih2 (p + 1) (by omega) ok' hok'))
          have no : ¬ ((klv (kf j) = true ∧ c 0 = 0 ∧ c 1 = kty (kf j)) ∧ ∀ q, q < p + 1 → cid (32 * j + q) = c (66 + q)) → vm_T (vm_env l O f9) mX14_redeem 0 0 110 [(0, .ref a), (1, .int (nI w.length)), (2, .int v), (3, .int (nI j)), (4, .int (bi ok)), (5, .int (nI p))] [] h1 Q := fun n => vm_go rfl bX14_redeemx_110 oX14_redeemx_110 (nb false ⟨fun z => (nomatch z), fun z => absurd z n⟩)
          refine vm_go rfl bX14_redeemx_69 oX14_redeemx_69 ⟨fun q => absurd q (nI_ge (b := 32) (by omega) (by decide)), fun _ => ?_⟩
          cases ok with
          | false => exact ⟨fun _ => no (fun z => nomatch hok.mpr ⟨z.1, fun q hq => z.2 q (by omega)⟩), fun q => absurd rfl q⟩
          | true =>
          have p5 := vfd (32 * j + p) (by omega)
          have p6 := vf (66 + p) (by omega)
          refine ⟨fun q => absurd q (by decide), fun _ => ⟨_, _, k.1.1, rfl, ⟨192, fd, efd, 32 * j + p, by rw [← nI_add, ← nI_mul]; rfl, by omega, fun _ => ⟨_, _, k.1.1, rfl, ⟨1208, f, ef, 66 + p, nI_add 66 p, by omega, fun _ => ?_⟩⟩⟩⟩⟩
          rw [p5.1, p6.1]
          refine ⟨fun q => no (fun z => q (by rw [z.2 p (by omega)])), fun q => nb true ⟨fun _ => ⟨(hok.mp rfl).1, fun q' hq' => ?_⟩, fun _ => rfl⟩⟩
          by_cases e : q' = p
          · rw [e]; exact sb_inj p5.2 p6.2 q
          · exact (hok.mp rfl).2 q' (by omega)
      have s64 : ∀ ok : Bool, (ok = true ↔ (klv (kf j) = true ∧ c 0 = 0 ∧ c 1 = kty (kf j))) → vm_T (vm_env l O f9) mX14_redeem 0 0 64 [(0, .ref a), (1, .int (nI w.length)), (2, .int v), (3, .int (nI j))] [.int (bi ok)] h1 Q := fun ok hok => by
        refine vm_go rfl bX14_redeemx_64 oX14_redeemx_64 (vm_Th (lv' := [(0, .ref a), (1, .int (nI w.length)), (2, .int v), (3, .int (nI j)), (4, .int (bi ok))]) (h' := h1) rfl rfl ?_)
        refine vm_go rfl bX14_redeemx_66 oX14_redeemx_66 (vm_Th (lv' := [(0, .ref a), (1, .int (nI w.length)), (2, .int v), (3, .int (nI j)), (4, .int (bi ok)), (5, .int (nI 0))]) (h' := h1) rfl rfl ?_)
        exact BY 32 0 rfl ok (hok.trans ⟨fun z => ⟨z, fun q hq => by omega⟩, fun z => z.1⟩)
      have s63 : ¬ (klv (kf j) = true ∧ c 0 = 0 ∧ c 1 = kty (kf j)) → vm_T (vm_env l O f9) mX14_redeem 0 0 63 [(0, .ref a), (1, .int (nI w.length)), (2, .int v), (3, .int (nI j))] [] h1 Q := fun n => vm_go rfl bX14_redeemx_63 oX14_redeemx_63 (s64 false ⟨fun z => (nomatch z), fun z => absurd z n⟩)
      refine vm_go rfl bX14_redeemx_33 oX14_redeemx_33 ⟨fun q => absurd q (nI_pos (by omega)), fun _ => ⟨_, _, k.1.1, rfl, ⟨6, f2, ef2, j, rfl, by omega, fun _ => ?_⟩⟩⟩
      rw [v2 j hjk]
      cases el : klv (kf j) with
      | false => exact ⟨fun _ => s63 (fun z => by rw [el] at z; exact nomatch z.1), fun q => absurd rfl q⟩
      | true =>
      refine ⟨fun q => absurd q (by decide), fun _ => ⟨_, _, k.1.1, rfl, ⟨6, f1, ef1, j, rfl, by omega, fun _ => ?_⟩⟩⟩
      rw [v1 j hjk]
      have hty := (KI_sh (hKI j hjk)).2.2.1
      refine ⟨_, k.1.1, 0, 0, _, rm_isType (by omega) k bc, Nat.zero_le _, Nat.zero_le _, ?_⟩
      rintro _ h2 ⟨⟨ok, rfl, hok⟩, eh2⟩
      rw [eh2]; clear eh2 h2
      cases ok with
      | false => exact ⟨fun _ => s63 (fun z => nomatch hok.mpr z.2), fun q => absurd rfl q⟩
      | true => exact ⟨fun q => absurd q (by decide), fun _ => s64 true ⟨fun _ => ⟨el, hok.mp rfl⟩, fun _ => rfl⟩⟩
  refine vm_go rfl bX14_redeemx_24 oX14_redeemx_24 (vm_Th (lv' := [(0, .ref a), (1, .int (nI w.length)), (2, .int (-1))]) (h' := h1) rfl rfl ?_)
  refine vm_go rfl bX14_redeemx_26 oX14_redeemx_26 ⟨_, _, k.1.1, rfl, ?_⟩
  have gk : u3 g (nI ([] : List Nat).length) (nI m.length) (nI y.length) 63 - 1 = iZ ((kn : Int) - 1) := by
    rw [show u3 g (nI ([] : List Nat).length) (nI m.length) (nI y.length) 63 = nI kn from G.2.1, iZ_nI]
    exact iZ_sub _ 1
  refine vm_Th (lv' := [(0, .ref a), (1, .int (nI w.length)), (2, .int (-1)), (3, .int (iZ ((kn : Int) - 1)))]) (h' := h1) (by rw [← gk]; rfl) rfl ?_
  exact LP kn (Nat.le_refl _) (-1) (.inl ⟨rfl, fun i h1 h2 => by omega⟩)
end
