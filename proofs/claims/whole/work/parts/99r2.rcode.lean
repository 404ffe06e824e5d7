/-! code of the reference (written by wip/gen) -/
def bX14_digest_0 : List vm_J := [(1, .aload_n 0, 0, 0, 0, .null), (3, .invokevirtual 570, 192, 0, 14, .null), (1, .istore_n 1, 0, 0, 0, .null), (1, .aload_n 0, 0, 0, 0, .null), (1, .iconst 0, 0, 0, 0, .int 0), (3, .putfield 203, 14, 19, 0, .null), (1, .aload_n 0, 0, 0, 0, .null), (1, .aload_n 0, 0, 0, 0, .null), (3, .getfield 492, 14, 74, 0, .null), (1, .iconst 0, 0, 0, 0, .int 0), (1, .iload_n 1, 0, 0, 0, .null), (3, .invokevirtual 287, 166, 3, 14, .null), (1, .aload_n 0, 0, 0, 0, .null), (3, .invokevirtual 567, 173, 0, 14, .null), (1, .iconst 0, 0, 0, 0, .int 0), (1, .istore_n 2, 0, 0, 0, .null)]
set_option maxRecDepth 20000 in
theorem oX14_digest_0 : vm_okB 14 mX14_digest 0 bX14_digest_0 = true := by decide +kernel
def bX14_digest_26 : List vm_J := [(1, .iload_n 2, 0, 0, 0, .null), (2, .bipush 32, 0, 0, 0, .int 32), (3, .if_icmp .ge 21, 50, 0, 0, .null), (1, .aload_n 0, 0, 0, 0, .null), (3, .getfield 495, 14, 76, 0, .null), (1, .iload_n 2, 0, 0, 0, .null), (1, .aload_n 0, 0, 0, 0, .null), (3, .getfield 243, 14, 20, 0, .null), (1, .iload_n 2, 0, 0, 0, .null), (1, .baload, 0, 0, 0, .null), (1, .bastore, 0, 0, 0, .null), (3, .iinc 2 1, 0, 0, 0, .int 1), (3, .goto (-21), 26, 0, 0, .null)]
set_option maxRecDepth 20000 in
theorem oX14_digest_26 : vm_okB 14 mX14_digest 26 bX14_digest_26 = true := by decide +kernel
def bX14_digest_50 : List vm_J := [(1, .aload_n 0, 0, 0, 0, .null), (2, .bipush 32, 0, 0, 0, .int 32), (3, .putfield 564, 14, 77, 0, .null), (2, .bipush 32, 0, 0, 0, .int 32), (1, .ireturn, 0, 0, 0, .null)]
set_option maxRecDepth 20000 in
theorem oX14_digest_50 : vm_okB 14 mX14_digest 50 bX14_digest_50 = true := by decide +kernel
def bX14_request_0 : List vm_J := [(1, .aload_n 0, 0, 0, 0, .null), (3, .invokevirtual 570, 192, 0, 14, .null), (1, .istore_n 2, 0, 0, 0, .null), (1, .aload_n 0, 0, 0, 0, .null), (1, .iload_n 1, 0, 0, 0, .null), (3, .invokevirtual 594, 210, 1, 14, .null), (3, .ifCond .ne 12, 22, 0, 0, .null), (1, .aload_n 0, 0, 0, 0, .null), (3, .getfield 453, 14, 55, 0, .null), (1, .iload_n 1, 0, 0, 0, .null), (1, .baload, 1, 0, 0, .null), (3, .ifCond .ne 6, 25, 0, 0, .null)]
set_option maxRecDepth 20000 in
theorem oX14_request_0 : vm_okB 14 mX14_request 0 bX14_request_0 = true := by decide +kernel
def bX14_request_22 : List vm_J := [(2, .bipush (-3), 0, 0, 0, .int (-3)), (1, .ireturn, 0, 0, 0, .null)]
set_option maxRecDepth 20000 in
theorem oX14_request_22 : vm_okB 14 mX14_request 22 bX14_request_22 = true := by decide +kernel
def bX14_request_25 : List vm_J := [(1, .aload_n 0, 0, 0, 0, .null), (3, .getfield 450, 14, 54, 0, .null), (1, .iload_n 1, 0, 0, 0, .null), (1, .iaload, 0, 0, 0, .null), (1, .iconst 1, 0, 0, 0, .int 1), (3, .if_icmp .ne 8, 40, 0, 0, .null), (2, .bipush 48, 0, 0, 0, .int 48), (3, .goto 16, 53, 0, 0, .null)]
set_option maxRecDepth 20000 in
theorem oX14_request_25 : vm_okB 14 mX14_request 25 bX14_request_25 = true := by decide +kernel
def bX14_request_40 : List vm_J := [(1, .aload_n 0, 0, 0, 0, .null), (3, .getfield 471, 14, 62, 0, .null), (1, .iload_n 1, 0, 0, 0, .null), (1, .iaload, 0, 0, 0, .null), (1, .aload_n 0, 0, 0, 0, .null), (3, .getfield 468, 14, 61, 0, .null), (1, .iload_n 1, 0, 0, 0, .null), (1, .iaload, 0, 0, 0, .null), (1, .iadd, 0, 0, 0, .null)]
set_option maxRecDepth 20000 in
theorem oX14_request_40 : vm_okB 14 mX14_request 40 bX14_request_40 = true := by decide +kernel
def bX14_request_53 : List vm_J := [(1, .istore_n 3, 0, 0, 0, .null), (1, .iload_n 2, 0, 0, 0, .null), (2, .bipush 64, 0, 0, 0, .int 64), (1, .iload_n 3, 0, 0, 0, .null), (1, .iadd, 0, 0, 0, .null), (3, .if_icmp .eq 6, 65, 0, 0, .null), (2, .bipush (-2), 0, 0, 0, .int (-2)), (1, .ireturn, 0, 0, 0, .null)]
set_option maxRecDepth 20000 in
theorem oX14_request_53 : vm_okB 14 mX14_request 53 bX14_request_53 = true := by decide +kernel
def bX14_request_65 : List vm_J := [(1, .aload_n 0, 0, 0, 0, .null), (3, .getfield 598, 14, 68, 0, .null), (2, .bipush 60, 0, 0, 0, .int 60), (3, .if_icmp .ne 6, 77, 0, 0, .null), (2, .bipush (-6), 0, 0, 0, .int (-6)), (1, .ireturn, 0, 0, 0, .null)]
set_option maxRecDepth 20000 in
theorem oX14_request_65 : vm_okB 14 mX14_request 65 bX14_request_65 = true := by decide +kernel
def bX14_request_77 : List vm_J := [(2, .bipush 98, 0, 0, 0, .int 98), (1, .aload_n 0, 0, 0, 0, .null), (3, .getfield 598, 14, 68, 0, .null), (1, .imul, 0, 0, 0, .null), (2, .istore 4, 0, 0, 0, .null), (1, .aload_n 0, 0, 0, 0, .null), (3, .getfield 480, 14, 66, 0, .null), (2, .iload 4, 0, 0, 0, .null), (1, .iconst 0, 0, 0, 0, .int 0), (1, .bastore, 0, 0, 0, .null), (1, .aload_n 0, 0, 0, 0, .null), (3, .getfield 480, 14, 66, 0, .null), (2, .iload 4, 0, 0, 0, .null), (1, .iconst 1, 0, 0, 0, .int 1), (1, .iadd, 0, 0, 0, .null), (1, .aload_n 0, 0, 0, 0, .null), (3, .getfield 450, 14, 54, 0, .null), (1, .iload_n 1, 0, 0, 0, .null), (1, .iaload, 0, 0, 0, .null), (1, .i2b, 0, 0, 0, .null), (1, .bastore, 0, 0, 0, .null), (1, .iconst 0, 0, 0, 0, .int 0), (2, .istore 5, 0, 0, 0, .null)]
set_option maxRecDepth 20000 in
theorem oX14_request_77 : vm_okB 14 mX14_request 77 bX14_request_77 = true := by decide +kernel
def bX14_request_113 : List vm_J := [(2, .iload 5, 0, 0, 0, .null), (2, .bipush 64, 0, 0, 0, .int 64), (3, .if_icmp .ge 28, 145, 0, 0, .null), (1, .aload_n 0, 0, 0, 0, .null), (3, .getfield 480, 14, 66, 0, .null), (2, .iload 4, 0, 0, 0, .null), (1, .iconst 2, 0, 0, 0, .int 2), (1, .iadd, 0, 0, 0, .null), (2, .iload 5, 0, 0, 0, .null), (1, .iadd, 0, 0, 0, .null), (1, .aload_n 0, 0, 0, 0, .null), (3, .getfield 492, 14, 74, 0, .null), (2, .iload 5, 0, 0, 0, .null), (1, .baload, 0, 0, 0, .null), (1, .bastore, 0, 0, 0, .null), (3, .iinc 5 1, 0, 0, 0, .int 1), (3, .goto (-29), 113, 0, 0, .null)]
set_option maxRecDepth 20000 in
theorem oX14_request_113 : vm_okB 14 mX14_request 113 bX14_request_113 = true := by decide +kernel
def bX14_request_145 : List vm_J := [(1, .iconst 0, 0, 0, 0, .int 0), (2, .istore 5, 0, 0, 0, .null)]
set_option maxRecDepth 20000 in
theorem oX14_request_145 : vm_okB 14 mX14_request 145 bX14_request_145 = true := by decide +kernel
def bX14_request_148 : List vm_J := [(2, .iload 5, 0, 0, 0, .null), (2, .bipush 32, 0, 0, 0, .int 32), (3, .if_icmp .ge 34, 186, 0, 0, .null), (1, .aload_n 0, 0, 0, 0, .null), (3, .getfield 480, 14, 66, 0, .null), (2, .iload 4, 0, 0, 0, .null), (2, .bipush 66, 0, 0, 0, .int 66), (1, .iadd, 0, 0, 0, .null), (2, .iload 5, 0, 0, 0, .null), (1, .iadd, 0, 0, 0, .null), (1, .aload_n 0, 0, 0, 0, .null), (3, .getfield 457, 14, 56, 0, .null), (2, .bipush 32, 0, 0, 0, .int 32), (1, .iload_n 1, 0, 0, 0, .null), (1, .imul, 0, 0, 0, .null), (2, .iload 5, 0, 0, 0, .null), (1, .iadd, 0, 0, 0, .null), (1, .baload, 0, 0, 0, .null), (1, .bastore, 0, 0, 0, .null), (3, .iinc 5 1, 0, 0, 0, .int 1), (3, .goto (-35), 148, 0, 0, .null)]
set_option maxRecDepth 20000 in
theorem oX14_request_148 : vm_okB 14 mX14_request 148 bX14_request_148 = true := by decide +kernel
def bX14_request_186 : List vm_J := [(1, .aload_n 0, 0, 0, 0, .null), (3, .getfield 450, 14, 54, 0, .null), (1, .iload_n 1, 0, 0, 0, .null), (1, .iaload, 0, 0, 0, .null), (1, .iconst 1, 0, 0, 0, .int 1), (3, .if_icmp .ne 12, 205, 0, 0, .null), (1, .aload_n 0, 0, 0, 0, .null), (2, .iload 4, 0, 0, 0, .null), (3, .invokevirtual 601, 215, 1, 14, .null), (3, .goto 10, 212, 0, 0, .null)]
set_option maxRecDepth 20000 in
theorem oX14_request_186 : vm_okB 14 mX14_request 186 bX14_request_186 = true := by decide +kernel
def bX14_request_205 : List vm_J := [(1, .aload_n 0, 0, 0, 0, .null), (1, .iload_n 1, 0, 0, 0, .null), (2, .iload 4, 0, 0, 0, .null), (3, .invokevirtual 604, 216, 2, 14, .null)]
set_option maxRecDepth 20000 in
theorem oX14_request_205 : vm_okB 14 mX14_request 205 bX14_request_205 = true := by decide +kernel
def bX14_request_212 : List vm_J := [(2, .istore 5, 0, 0, 0, .null), (2, .iload 5, 0, 0, 0, .null), (3, .ifCond .ne 6, 222, 0, 0, .null), (2, .bipush (-4), 0, 0, 0, .int (-4)), (1, .ireturn, 0, 0, 0, .null)]
set_option maxRecDepth 20000 in
theorem oX14_request_212 : vm_okB 14 mX14_request 212 bX14_request_212 = true := by decide +kernel
def bX14_request_222 : List vm_J := [(1, .aload_n 0, 0, 0, 0, .null), (3, .getfield 495, 14, 76, 0, .null), (1, .iconst 0, 0, 0, 0, .int 0), (1, .iconst 0, 0, 0, 0, .int 0), (1, .bastore, 0, 0, 0, .null), (1, .aload_n 0, 0, 0, 0, .null), (3, .getfield 495, 14, 76, 0, .null), (1, .iconst 1, 0, 0, 0, .int 1), (1, .aload_n 0, 0, 0, 0, .null), (3, .getfield 450, 14, 54, 0, .null), (1, .iload_n 1, 0, 0, 0, .null), (1, .iaload, 0, 0, 0, .null), (1, .i2b, 0, 0, 0, .null), (1, .bastore, 0, 0, 0, .null), (1, .aload_n 0, 0, 0, 0, .null), (3, .getfield 495, 14, 76, 0, .null), (1, .iconst 2, 0, 0, 0, .int 2), (1, .aload_n 0, 0, 0, 0, .null), (3, .getfield 457, 14, 56, 0, .null), (2, .bipush 32, 0, 0, 0, .int 32), (1, .iload_n 1, 0, 0, 0, .null), (1, .imul, 0, 0, 0, .null), (2, .bipush 31, 0, 0, 0, .int 31), (1, .iadd, 0, 0, 0, .null), (1, .baload, 0, 0, 0, .null), (1, .bastore, 0, 0, 0, .null), (1, .aload_n 0, 0, 0, 0, .null), (3, .getfield 450, 14, 54, 0, .null), (1, .iload_n 1, 0, 0, 0, .null), (1, .iaload, 0, 0, 0, .null), (1, .iconst 1, 0, 0, 0, .int 1), (3, .if_icmp .ne 24, 291, 0, 0, .null), (1, .aload_n 0, 0, 0, 0, .null), (3, .getfield 522, 14, 86, 0, .null), (1, .aload_n 0, 0, 0, 0, .null), (3, .getfield 495, 14, 76, 0, .null), (1, .iconst 3, 0, 0, 0, .int 3), (3, .invokestatic 363, 163, 3, 0, .null), (1, .aload_n 0, 0, 0, 0, .null), (2, .bipush 52, 0, 0, 0, .int 52), (3, .putfield 564, 14, 77, 0, .null), (3, .goto 33, 321, 0, 0, .null)]
set_option maxRecDepth 20000 in
theorem oX14_request_222 : vm_okB 14 mX14_request 222 bX14_request_222 = true := by decide +kernel
def bX14_request_291 : List vm_J := [(1, .aload_n 0, 0, 0, 0, .null), (3, .getfield 510, 14, 82, 0, .null), (1, .aload_n 0, 0, 0, 0, .null), (3, .getfield 495, 14, 76, 0, .null), (1, .iconst 3, 0, 0, 0, .int 3), (1, .aload_n 0, 0, 0, 0, .null), (3, .getfield 468, 14, 61, 0, .null), (1, .iload_n 1, 0, 0, 0, .null), (1, .iaload, 0, 0, 0, .null), (3, .invokestatic 192, 156, 4, 0, .null), (1, .aload_n 0, 0, 0, 0, .null), (1, .iconst 3, 0, 0, 0, .int 3), (1, .aload_n 0, 0, 0, 0, .null), (3, .getfield 468, 14, 61, 0, .null), (1, .iload_n 1, 0, 0, 0, .null), (1, .iaload, 0, 0, 0, .null), (1, .iadd, 0, 0, 0, .null), (3, .putfield 564, 14, 77, 0, .null)]
set_option maxRecDepth 20000 in
theorem oX14_request_291 : vm_okB 14 mX14_request 291 bX14_request_291 = true := by decide +kernel
def bX14_request_321 : List vm_J := [(1, .aload_n 0, 0, 0, 0, .null), (3, .getfield 474, 14, 64, 0, .null), (1, .aload_n 0, 0, 0, 0, .null), (3, .getfield 598, 14, 68, 0, .null), (1, .iload_n 1, 0, 0, 0, .null), (1, .iastore, 0, 0, 0, .null), (1, .aload_n 0, 0, 0, 0, .null), (3, .getfield 477, 14, 65, 0, .null), (1, .aload_n 0, 0, 0, 0, .null), (3, .getfield 598, 14, 68, 0, .null), (1, .iconst 1, 0, 0, 0, .int 1), (1, .bastore, 1, 0, 0, .null), (1, .aload_n 0, 0, 0, 0, .null), (1, .dup, 0, 0, 0, .null), (3, .getfield 598, 14, 68, 0, .null), (1, .iconst 1, 0, 0, 0, .int 1), (1, .iadd, 0, 0, 0, .null), (3, .putfield 598, 14, 68, 0, .null), (1, .aload_n 0, 0, 0, 0, .null), (3, .getfield 598, 14, 68, 0, .null), (1, .iconst 1, 0, 0, 0, .int 1), (1, .isub, 0, 0, 0, .null), (1, .ireturn, 0, 0, 0, .null)]
set_option maxRecDepth 20000 in
theorem oX14_request_321 : vm_okB 14 mX14_request 321 bX14_request_321 = true := by decide +kernel
def bX14_blindsOne_0 : List vm_J := [(1, .aload_n 0, 0, 0, 0, .null), (3, .getfield 492, 14, 74, 0, .null), (2, .bipush 64, 0, 0, 0, .int 64), (2, .bipush 48, 0, 0, 0, .int 48), (1, .aload_n 0, 0, 0, 0, .null), (3, .getfield 395, 14, 50, 0, .null), (2, .bipush 12, 0, 0, 0, .int 12), (3, .invokestatic 176, 155, 5, 0, .null), (1, .aload_n 0, 0, 0, 0, .null), (3, .getfield 395, 14, 50, 0, .null), (3, .invokestatic 580, 164, 1, 0, .null), (3, .ifCond .ne 5, 29, 0, 0, .null), (1, .iconst 0, 0, 0, 0, .int 0), (1, .ireturn, 0, 0, 0, .null)]
set_option maxRecDepth 20000 in
theorem oX14_blindsOne_0 : vm_okB 14 mX14_blindsOne 0 bX14_blindsOne_0 = true := by decide +kernel
def bX14_blindsOne_29 : List vm_J := [(1, .aload_n 0, 0, 0, 0, .null), (3, .getfield 395, 14, 50, 0, .null), (1, .aload_n 0, 0, 0, 0, .null), (3, .getfield 483, 14, 67, 0, .null), (1, .aload_n 0, 0, 0, 0, .null), (3, .getfield 598, 14, 68, 0, .null), (1, .aaload, 0, 0, 0, .null), (2, .bipush 12, 0, 0, 0, .int 12), (3, .invokestatic 68, 141, 3, 0, .null), (1, .aload_n 0, 0, 0, 0, .null), (1, .aload_n 0, 0, 0, 0, .null), (3, .getfield 480, 14, 66, 0, .null), (1, .iload_n 1, 0, 0, 0, .null), (2, .bipush 98, 0, 0, 0, .int 98), (1, .aload_n 0, 0, 0, 0, .null), (3, .getfield 522, 14, 86, 0, .null), (3, .invokevirtual 608, 183, 4, 14, .null), (1, .aload_n 0, 0, 0, 0, .null), (3, .getfield 522, 14, 86, 0, .null), (3, .getfield 113, 13, 2, 0, .null), (3, .ifCond .eq 5, 74, 0, 0, .null), (1, .iconst 0, 0, 0, 0, .int 0), (1, .ireturn, 0, 0, 0, .null)]
set_option maxRecDepth 20000 in
theorem oX14_blindsOne_29 : vm_okB 14 mX14_blindsOne 29 bX14_blindsOne_29 = true := by decide +kernel
def bX14_blindsOne_74 : List vm_J := [(1, .aload_n 0, 0, 0, 0, .null), (1, .aload_n 0, 0, 0, 0, .null), (3, .getfield 483, 14, 67, 0, .null), (1, .aload_n 0, 0, 0, 0, .null), (3, .getfield 598, 14, 68, 0, .null), (1, .aaload, 0, 0, 0, .null), (1, .aload_n 0, 0, 0, 0, .null), (3, .getfield 522, 14, 86, 0, .null), (1, .aload_n 0, 0, 0, 0, .null), (3, .getfield 522, 14, 86, 0, .null), (3, .invokevirtual 404, 158, 3, 14, .null), (1, .aload_n 0, 0, 0, 0, .null), (3, .getfield 522, 14, 86, 0, .null), (3, .getfield 113, 13, 2, 0, .null), (3, .ifCond .ne 7, 109, 0, 0, .null), (1, .iconst 1, 0, 0, 0, .int 1), (3, .goto 4, 110, 0, 0, .null)]
set_option maxRecDepth 20000 in
theorem oX14_blindsOne_74 : vm_okB 14 mX14_blindsOne 74 bX14_blindsOne_74 = true := by decide +kernel
def bX14_blindsOne_109 : List vm_J := [(1, .iconst 0, 0, 0, 0, .int 0)]
set_option maxRecDepth 20000 in
theorem oX14_blindsOne_109 : vm_okB 14 mX14_blindsOne 109 bX14_blindsOne_109 = true := by decide +kernel
def bX14_blindsOne_110 : List vm_J := [(1, .ireturn, 0, 0, 0, .null)]
set_option maxRecDepth 20000 in
theorem oX14_blindsOne_110 : vm_okB 14 mX14_blindsOne 110 bX14_blindsOne_110 = true := by decide +kernel
def bX14_blindsTwo_0 : List vm_J := [(1, .aload_n 0, 0, 0, 0, .null), (3, .getfield 461, 14, 59, 0, .null), (1, .iload_n 1, 0, 0, 0, .null), (1, .aaload, 0, 0, 0, .null), (1, .astore_n 3, 0, 0, 0, .null), (1, .aload_n 0, 0, 0, 0, .null), (3, .getfield 492, 14, 74, 0, .null), (2, .bipush 64, 0, 0, 0, .int 64), (1, .aload_n 0, 0, 0, 0, .null), (3, .getfield 471, 14, 62, 0, .null), (1, .iload_n 1, 0, 0, 0, .null), (1, .iaload, 0, 0, 0, .null), (1, .iadd, 0, 0, 0, .null), (1, .aload_n 0, 0, 0, 0, .null), (3, .getfield 468, 14, 61, 0, .null), (1, .iload_n 1, 0, 0, 0, .null), (1, .iaload, 0, 0, 0, .null), (1, .aload_n 0, 0, 0, 0, .null), (3, .getfield 507, 14, 81, 0, .null), (1, .aload_n 3, 0, 0, 0, .null), (3, .getfield 13, 12, 2, 0, .null), (3, .invokestatic 176, 155, 5, 0, .null), (1, .aload_n 0, 0, 0, 0, .null), (3, .getfield 507, 14, 81, 0, .null), (1, .aload_n 3, 0, 0, 0, .null), (3, .getfield 13, 12, 2, 0, .null), (3, .invokestatic 99, 140, 2, 0, .null), (3, .ifCond .ne 37, 85, 0, 0, .null), (1, .aload_n 0, 0, 0, 0, .null), (3, .getfield 507, 14, 81, 0, .null), (1, .aload_n 3, 0, 0, 0, .null), (3, .getfield 22, 12, 0, 0, .null), (1, .aload_n 3, 0, 0, 0, .null), (3, .getfield 13, 12, 2, 0, .null), (3, .invokestatic 26, 139, 3, 0, .null), (3, .ifCond .ge 19, 85, 0, 0, .null), (1, .aload_n 0, 0, 0, 0, .null), (1, .aload_n 3, 0, 0, 0, .null), (1, .aload_n 0, 0, 0, 0, .null), (3, .getfield 507, 14, 81, 0, .null), (1, .aload_n 0, 0, 0, 0, .null), (3, .getfield 513, 14, 83, 0, .null), (3, .invokevirtual 142, 154, 3, 14, .null), (3, .ifCond .ne 5, 87, 0, 0, .null)]
set_option maxRecDepth 20000 in
theorem oX14_blindsTwo_0 : vm_okB 14 mX14_blindsTwo 0 bX14_blindsTwo_0 = true := by decide +kernel
def bX14_blindsTwo_85 : List vm_J := [(1, .iconst 0, 0, 0, 0, .int 0), (1, .ireturn, 0, 0, 0, .null)]
set_option maxRecDepth 20000 in
theorem oX14_blindsTwo_85 : vm_okB 14 mX14_blindsTwo 85 bX14_blindsTwo_85 = true := by decide +kernel
def bX14_blindsTwo_87 : List vm_J := [(1, .aload_n 0, 0, 0, 0, .null), (3, .getfield 507, 14, 81, 0, .null), (1, .aload_n 0, 0, 0, 0, .null), (3, .getfield 483, 14, 67, 0, .null), (1, .aload_n 0, 0, 0, 0, .null), (3, .getfield 598, 14, 68, 0, .null), (1, .aaload, 0, 0, 0, .null), (1, .aload_n 3, 0, 0, 0, .null), (3, .getfield 13, 12, 2, 0, .null), (3, .invokestatic 68, 141, 3, 0, .null), (1, .aload_n 0, 0, 0, 0, .null), (1, .iload_n 1, 0, 0, 0, .null), (1, .aload_n 0, 0, 0, 0, .null), (3, .getfield 480, 14, 66, 0, .null), (1, .iload_n 2, 0, 0, 0, .null), (1, .aload_n 0, 0, 0, 0, .null), (3, .getfield 492, 14, 74, 0, .null), (2, .bipush 64, 0, 0, 0, .int 64), (1, .aload_n 0, 0, 0, 0, .null), (3, .getfield 507, 14, 81, 0, .null), (3, .invokevirtual 612, 197, 6, 14, .null), (1, .aload_n 0, 0, 0, 0, .null), (3, .getfield 507, 14, 81, 0, .null), (1, .aload_n 3, 0, 0, 0, .null), (3, .getfield 22, 12, 0, 0, .null), (1, .aload_n 3, 0, 0, 0, .null), (3, .getfield 13, 12, 2, 0, .null), (3, .invokestatic 26, 139, 3, 0, .null), (3, .ifCond .ge 19, 161, 0, 0, .null), (1, .aload_n 0, 0, 0, 0, .null), (1, .aload_n 3, 0, 0, 0, .null), (1, .aload_n 0, 0, 0, 0, .null), (3, .getfield 507, 14, 81, 0, .null), (1, .aload_n 0, 0, 0, 0, .null), (3, .getfield 513, 14, 83, 0, .null), (3, .invokevirtual 142, 154, 3, 14, .null), (3, .ifCond .ne 5, 163, 0, 0, .null)]
set_option maxRecDepth 20000 in
theorem oX14_blindsTwo_87 : vm_okB 14 mX14_blindsTwo 87 bX14_blindsTwo_87 = true := by decide +kernel
def bX14_blindsTwo_161 : List vm_J := [(1, .iconst 0, 0, 0, 0, .int 0), (1, .ireturn, 0, 0, 0, .null)]
set_option maxRecDepth 20000 in
theorem oX14_blindsTwo_161 : vm_okB 14 mX14_blindsTwo 161 bX14_blindsTwo_161 = true := by decide +kernel
def bX14_blindsTwo_163 : List vm_J := [(1, .aload_n 0, 0, 0, 0, .null), (1, .iload_n 1, 0, 0, 0, .null), (1, .aload_n 0, 0, 0, 0, .null), (3, .getfield 483, 14, 67, 0, .null), (1, .aload_n 0, 0, 0, 0, .null), (3, .getfield 598, 14, 68, 0, .null), (1, .aaload, 0, 0, 0, .null), (1, .aload_n 0, 0, 0, 0, .null), (3, .getfield 510, 14, 82, 0, .null), (3, .invokevirtual 560, 198, 3, 14, .null), (1, .aload_n 0, 0, 0, 0, .null), (1, .aload_n 3, 0, 0, 0, .null), (1, .aload_n 0, 0, 0, 0, .null), (3, .getfield 510, 14, 82, 0, .null), (1, .aload_n 0, 0, 0, 0, .null), (3, .getfield 507, 14, 81, 0, .null), (1, .aload_n 0, 0, 0, 0, .null), (3, .getfield 510, 14, 82, 0, .null), (3, .invokevirtual 79, 149, 4, 14, .null), (1, .iconst 1, 0, 0, 0, .int 1), (1, .ireturn, 0, 0, 0, .null)]
set_option maxRecDepth 20000 in
theorem oX14_blindsTwo_163 : vm_okB 14 mX14_blindsTwo 163 bX14_blindsTwo_163 = true := by decide +kernel
def bX14_keyOf_0 : List vm_J := [(1, .iconst (-1), 0, 0, 0, .int (-1)), (1, .istore_n 3, 0, 0, 0, .null), (1, .aload_n 0, 0, 0, 0, .null), (3, .getfield 584, 14, 63, 0, .null), (1, .iconst 1, 0, 0, 0, .int 1), (1, .isub, 0, 0, 0, .null), (2, .istore 4, 0, 0, 0, .null)]
set_option maxRecDepth 20000 in
theorem oX14_keyOf_0 : vm_okB 14 mX14_keyOf 0 bX14_keyOf_0 = true := by decide +kernel
def bX14_keyOf_10 : List vm_J := [(2, .iload 4, 0, 0, 0, .null), (3, .ifCond .lt 50, 62, 0, 0, .null), (1, .aload_n 0, 0, 0, 0, .null), (3, .getfield 453, 14, 55, 0, .null), (2, .iload 4, 0, 0, 0, .null), (1, .baload, 1, 0, 0, .null), (3, .ifCond .eq 34, 56, 0, 0, .null), (1, .aload_n 0, 0, 0, 0, .null), (3, .getfield 450, 14, 54, 0, .null), (2, .iload 4, 0, 0, 0, .null), (1, .iaload, 0, 0, 0, .null), (1, .iload_n 1, 0, 0, 0, .null), (3, .if_icmp .ne 23, 56, 0, 0, .null), (1, .aload_n 0, 0, 0, 0, .null), (3, .getfield 457, 14, 56, 0, .null), (2, .bipush 32, 0, 0, 0, .int 32), (2, .iload 4, 0, 0, 0, .null), (1, .imul, 0, 0, 0, .null), (2, .bipush 31, 0, 0, 0, .int 31), (1, .iadd, 0, 0, 0, .null), (1, .baload, 0, 0, 0, .null), (1, .iload_n 2, 0, 0, 0, .null), (3, .if_icmp .ne 6, 56, 0, 0, .null), (2, .iload 4, 0, 0, 0, .null), (1, .istore_n 3, 0, 0, 0, .null)]
set_option maxRecDepth 20000 in
theorem oX14_keyOf_10 : vm_okB 14 mX14_keyOf 10 bX14_keyOf_10 = true := by decide +kernel
def bX14_keyOf_56 : List vm_J := [(3, .iinc 4 (-1), 0, 0, 0, .int (-1)), (3, .goto (-49), 10, 0, 0, .null)]
set_option maxRecDepth 20000 in
theorem oX14_keyOf_56 : vm_okB 14 mX14_keyOf 56 bX14_keyOf_56 = true := by decide +kernel
def bX14_keyOf_62 : List vm_J := [(1, .iload_n 3, 0, 0, 0, .null), (1, .ireturn, 0, 0, 0, .null)]
set_option maxRecDepth 20000 in
theorem oX14_keyOf_62 : vm_okB 14 mX14_keyOf 62 bX14_keyOf_62 = true := by decide +kernel
def bX14_isType_0 : List vm_J := [(1, .aload_n 0, 0, 0, 0, .null), (3, .getfield 492, 14, 74, 0, .null), (1, .iconst 0, 0, 0, 0, .int 0), (1, .baload, 0, 0, 0, .null), (3, .ifCond .ne 17, 23, 0, 0, .null), (1, .aload_n 0, 0, 0, 0, .null), (3, .getfield 492, 14, 74, 0, .null), (1, .iconst 1, 0, 0, 0, .int 1), (1, .baload, 0, 0, 0, .null), (1, .iload_n 1, 0, 0, 0, .null), (3, .if_icmp .ne 7, 23, 0, 0, .null), (1, .iconst 1, 0, 0, 0, .int 1), (3, .goto 4, 24, 0, 0, .null)]
set_option maxRecDepth 20000 in
theorem oX14_isType_0 : vm_okB 14 mX14_isType 0 bX14_isType_0 = true := by decide +kernel
def bX14_isType_23 : List vm_J := [(1, .iconst 0, 0, 0, 0, .int 0)]
set_option maxRecDepth 20000 in
theorem oX14_isType_23 : vm_okB 14 mX14_isType 23 bX14_isType_23 = true := by decide +kernel
def bX14_isType_24 : List vm_J := [(1, .ireturn, 0, 0, 0, .null)]
set_option maxRecDepth 20000 in
theorem oX14_isType_24 : vm_okB 14 mX14_isType 24 bX14_isType_24 = true := by decide +kernel
def bX14_issue_0 : List vm_J := [(1, .aload_n 0, 0, 0, 0, .null), (3, .invokevirtual 570, 192, 0, 14, .null), (1, .istore_n 1, 0, 0, 0, .null), (1, .iload_n 1, 0, 0, 0, .null), (1, .iconst 3, 0, 0, 0, .int 3), (3, .if_icmp .lt 19, 26, 0, 0, .null), (1, .aload_n 0, 0, 0, 0, .null), (1, .iconst 1, 0, 0, 0, .int 1), (3, .invokevirtual 616, 218, 1, 14, .null), (3, .ifCond .ne 14, 29, 0, 0, .null), (1, .aload_n 0, 0, 0, 0, .null), (1, .iconst 2, 0, 0, 0, .int 2), (3, .invokevirtual 616, 218, 1, 14, .null), (3, .ifCond .ne 6, 29, 0, 0, .null)]
set_option maxRecDepth 20000 in
theorem oX14_issue_0 : vm_okB 14 mX14_issue 0 bX14_issue_0 = true := by decide +kernel
def bX14_issue_26 : List vm_J := [(2, .bipush (-2), 0, 0, 0, .int (-2)), (1, .ireturn, 0, 0, 0, .null)]
set_option maxRecDepth 20000 in
theorem oX14_issue_26 : vm_okB 14 mX14_issue 26 bX14_issue_26 = true := by decide +kernel
def bX14_issue_29 : List vm_J := [(1, .aload_n 0, 0, 0, 0, .null), (1, .aload_n 0, 0, 0, 0, .null), (3, .getfield 492, 14, 74, 0, .null), (1, .iconst 1, 0, 0, 0, .int 1), (1, .baload, 0, 0, 0, .null), (1, .aload_n 0, 0, 0, 0, .null), (3, .getfield 492, 14, 74, 0, .null), (1, .iconst 2, 0, 0, 0, .int 2), (1, .baload, 0, 0, 0, .null), (3, .invokevirtual 619, 217, 2, 14, .null), (1, .istore_n 2, 0, 0, 0, .null), (1, .iload_n 2, 0, 0, 0, .null), (3, .ifCond .ge 6, 53, 0, 0, .null), (2, .bipush (-3), 0, 0, 0, .int (-3)), (1, .ireturn, 0, 0, 0, .null)]
set_option maxRecDepth 20000 in
theorem oX14_issue_29 : vm_okB 14 mX14_issue 29 bX14_issue_29 = true := by decide +kernel
def bX14_issue_53 : List vm_J := [(1, .iload_n 1, 0, 0, 0, .null), (1, .iconst 3, 0, 0, 0, .int 3), (1, .aload_n 0, 0, 0, 0, .null), (3, .getfield 450, 14, 54, 0, .null), (1, .iload_n 2, 0, 0, 0, .null), (1, .iaload, 0, 0, 0, .null), (1, .iconst 1, 0, 0, 0, .int 1), (3, .if_icmp .ne 8, 70, 0, 0, .null), (2, .bipush 97, 0, 0, 0, .int 97), (3, .goto 9, 76, 0, 0, .null)]
set_option maxRecDepth 20000 in
theorem oX14_issue_53 : vm_okB 14 mX14_issue 53 bX14_issue_53 = true := by decide +kernel
def bX14_issue_70 : List vm_J := [(1, .aload_n 0, 0, 0, 0, .null), (3, .getfield 468, 14, 61, 0, .null), (1, .iload_n 2, 0, 0, 0, .null), (1, .iaload, 0, 0, 0, .null)]
set_option maxRecDepth 20000 in
theorem oX14_issue_70 : vm_okB 14 mX14_issue 70 bX14_issue_70 = true := by decide +kernel
def bX14_issue_76 : List vm_J := [(1, .iadd, 0, 0, 0, .null), (3, .if_icmp .eq 6, 83, 0, 0, .null), (2, .bipush (-2), 0, 0, 0, .int (-2)), (1, .ireturn, 0, 0, 0, .null)]
set_option maxRecDepth 20000 in
theorem oX14_issue_76 : vm_okB 14 mX14_issue 76 bX14_issue_76 = true := by decide +kernel
def bX14_issue_83 : List vm_J := [(1, .aload_n 0, 0, 0, 0, .null), (3, .getfield 450, 14, 54, 0, .null), (1, .iload_n 2, 0, 0, 0, .null), (1, .iaload, 0, 0, 0, .null), (1, .iconst 1, 0, 0, 0, .int 1), (3, .if_icmp .ne 12, 102, 0, 0, .null), (1, .aload_n 0, 0, 0, 0, .null), (1, .iload_n 2, 0, 0, 0, .null), (1, .iconst 1, 0, 0, 0, .int 1), (3, .invokevirtual 622, 221, 2, 14, .null), (3, .goto 8, 107, 0, 0, .null)]
set_option maxRecDepth 20000 in
theorem oX14_issue_83 : vm_okB 14 mX14_issue 83 bX14_issue_83 = true := by decide +kernel
def bX14_issue_102 : List vm_J := [(1, .aload_n 0, 0, 0, 0, .null), (1, .iload_n 2, 0, 0, 0, .null), (3, .invokevirtual 625, 222, 1, 14, .null)]
set_option maxRecDepth 20000 in
theorem oX14_issue_102 : vm_okB 14 mX14_issue 102 bX14_issue_102 = true := by decide +kernel
def bX14_issue_107 : List vm_J := [(1, .ireturn, 0, 0, 0, .null)]
set_option maxRecDepth 20000 in
theorem oX14_issue_107 : vm_okB 14 mX14_issue 107 bX14_issue_107 = true := by decide +kernel
def bX14_issueMany_0 : List vm_J := [(1, .aload_n 0, 0, 0, 0, .null), (3, .invokevirtual 570, 192, 0, 14, .null), (1, .istore_n 2, 0, 0, 0, .null), (1, .iload_n 1, 0, 0, 0, .null), (1, .iconst 1, 0, 0, 0, .int 1), (3, .if_icmp .lt 22, 29, 0, 0, .null), (1, .iload_n 1, 0, 0, 0, .null), (2, .bipush 8, 0, 0, 0, .int 8), (3, .if_icmp .gt 16, 29, 0, 0, .null), (1, .iload_n 2, 0, 0, 0, .null), (1, .iconst 3, 0, 0, 0, .int 3), (3, .if_icmp .lt 11, 29, 0, 0, .null), (1, .aload_n 0, 0, 0, 0, .null), (1, .iconst 1, 0, 0, 0, .int 1), (3, .invokevirtual 616, 218, 1, 14, .null), (3, .ifCond .ne 6, 32, 0, 0, .null)]
set_option maxRecDepth 20000 in
theorem oX14_issueMany_0 : vm_okB 14 mX14_issueMany 0 bX14_issueMany_0 = true := by decide +kernel
def bX14_issueMany_29 : List vm_J := [(2, .bipush (-2), 0, 0, 0, .int (-2)), (1, .ireturn, 0, 0, 0, .null)]
set_option maxRecDepth 20000 in
theorem oX14_issueMany_29 : vm_okB 14 mX14_issueMany 29 bX14_issueMany_29 = true := by decide +kernel
def bX14_issueMany_32 : List vm_J := [(1, .aload_n 0, 0, 0, 0, .null), (1, .iconst 1, 0, 0, 0, .int 1), (1, .aload_n 0, 0, 0, 0, .null), (3, .getfield 492, 14, 74, 0, .null), (1, .iconst 2, 0, 0, 0, .int 2), (1, .baload, 0, 0, 0, .null), (3, .invokevirtual 619, 217, 2, 14, .null), (1, .istore_n 3, 0, 0, 0, .null), (1, .iload_n 3, 0, 0, 0, .null), (3, .ifCond .ge 6, 51, 0, 0, .null), (2, .bipush (-3), 0, 0, 0, .int (-3)), (1, .ireturn, 0, 0, 0, .null)]
set_option maxRecDepth 20000 in
theorem oX14_issueMany_32 : vm_okB 14 mX14_issueMany 32 bX14_issueMany_32 = true := by decide +kernel
def bX14_issueMany_51 : List vm_J := [(1, .iload_n 2, 0, 0, 0, .null), (1, .iconst 3, 0, 0, 0, .int 3), (2, .bipush 49, 0, 0, 0, .int 49), (1, .iload_n 1, 0, 0, 0, .null), (1, .imul, 0, 0, 0, .null), (1, .iadd, 0, 0, 0, .null), (2, .bipush 48, 0, 0, 0, .int 48), (1, .iadd, 0, 0, 0, .null), (3, .if_icmp .eq 6, 67, 0, 0, .null), (2, .bipush (-2), 0, 0, 0, .int (-2)), (1, .ireturn, 0, 0, 0, .null)]
set_option maxRecDepth 20000 in
theorem oX14_issueMany_51 : vm_okB 14 mX14_issueMany 51 bX14_issueMany_51 = true := by decide +kernel
def bX14_issueMany_67 : List vm_J := [(1, .aload_n 0, 0, 0, 0, .null), (1, .iload_n 3, 0, 0, 0, .null), (1, .iload_n 1, 0, 0, 0, .null), (3, .invokevirtual 622, 221, 2, 14, .null), (1, .ireturn, 0, 0, 0, .null)]
set_option maxRecDepth 20000 in
theorem oX14_issueMany_67 : vm_okB 14 mX14_issueMany 67 bX14_issueMany_67 = true := by decide +kernel
def bX14_gives_0 : List vm_J := [(1, .iconst 1, 0, 0, 0, .int 1), (1, .istore_n 3, 0, 0, 0, .null), (1, .iconst 0, 0, 0, 0, .int 0), (2, .istore 4, 0, 0, 0, .null)]
set_option maxRecDepth 20000 in
theorem oX14_gives_0 : vm_okB 14 mX14_gives 0 bX14_gives_0 = true := by decide +kernel
def bX14_gives_5 : List vm_J := [(2, .iload 4, 0, 0, 0, .null), (1, .iload_n 2, 0, 0, 0, .null), (3, .if_icmp .ge 36, 44, 0, 0, .null), (1, .iload_n 3, 0, 0, 0, .null), (3, .ifCond .eq 32, 44, 0, 0, .null), (1, .aload_n 0, 0, 0, 0, .null), (1, .aload_n 0, 0, 0, 0, .null), (3, .getfield 492, 14, 74, 0, .null), (1, .iconst 3, 0, 0, 0, .int 3), (2, .bipush 49, 0, 0, 0, .int 49), (2, .iload 4, 0, 0, 0, .null), (1, .imul, 0, 0, 0, .null), (1, .iadd, 0, 0, 0, .null), (1, .aload_n 0, 0, 0, 0, .null), (3, .getfield 380, 14, 41, 0, .null), (2, .iload 4, 0, 0, 0, .null), (1, .aaload, 0, 0, 0, .null), (3, .invokevirtual 628, 162, 3, 14, .null), (1, .istore_n 3, 0, 0, 0, .null), (3, .iinc 4 1, 0, 0, 0, .int 1), (3, .goto (-36), 5, 0, 0, .null)]
set_option maxRecDepth 20000 in
theorem oX14_gives_5 : vm_okB 14 mX14_gives 5 bX14_gives_5 = true := by decide +kernel
def bX14_gives_44 : List vm_J := [(1, .aload_n 0, 0, 0, 0, .null), (3, .getfield 492, 14, 74, 0, .null), (1, .iconst 3, 0, 0, 0, .int 3), (2, .bipush 49, 0, 0, 0, .int 49), (1, .iload_n 2, 0, 0, 0, .null), (1, .imul, 0, 0, 0, .null), (1, .iadd, 0, 0, 0, .null), (2, .bipush 48, 0, 0, 0, .int 48), (1, .aload_n 0, 0, 0, 0, .null), (3, .getfield 525, 14, 87, 0, .null), (2, .bipush 12, 0, 0, 0, .int 12), (3, .invokestatic 176, 155, 5, 0, .null), (1, .iload_n 3, 0, 0, 0, .null), (3, .ifCond .eq 13, 79, 0, 0, .null), (1, .aload_n 0, 0, 0, 0, .null), (3, .getfield 525, 14, 87, 0, .null), (3, .invokestatic 580, 164, 1, 0, .null), (3, .ifCond .ne 6, 82, 0, 0, .null)]
set_option maxRecDepth 20000 in
theorem oX14_gives_44 : vm_okB 14 mX14_gives 44 bX14_gives_44 = true := by decide +kernel
def bX14_gives_79 : List vm_J := [(2, .bipush (-4), 0, 0, 0, .int (-4)), (1, .ireturn, 0, 0, 0, .null)]
set_option maxRecDepth 20000 in
theorem oX14_gives_79 : vm_okB 14 mX14_gives 79 bX14_gives_79 = true := by decide +kernel
def bX14_gives_82 : List vm_J := [(1, .iconst 0, 0, 0, 0, .int 0), (2, .istore 4, 0, 0, 0, .null)]
set_option maxRecDepth 20000 in
theorem oX14_gives_82 : vm_okB 14 mX14_gives 82 bX14_gives_82 = true := by decide +kernel
def bX14_gives_85 : List vm_J := [(2, .iload 4, 0, 0, 0, .null), (1, .iload_n 2, 0, 0, 0, .null), (3, .if_icmp .ge 33, 121, 0, 0, .null), (1, .aload_n 0, 0, 0, 0, .null), (1, .aload_n 0, 0, 0, 0, .null), (3, .getfield 433, 14, 57, 0, .null), (1, .iload_n 1, 0, 0, 0, .null), (1, .aaload, 0, 0, 0, .null), (1, .aload_n 0, 0, 0, 0, .null), (3, .getfield 380, 14, 41, 0, .null), (2, .iload 4, 0, 0, 0, .null), (1, .aaload, 0, 0, 0, .null), (1, .aload_n 0, 0, 0, 0, .null), (3, .getfield 387, 14, 42, 0, .null), (2, .iload 4, 0, 0, 0, .null), (1, .aaload, 0, 0, 0, .null), (3, .invokevirtual 404, 158, 3, 14, .null), (3, .iinc 4 1, 0, 0, 0, .int 1), (3, .goto (-33), 85, 0, 0, .null)]
set_option maxRecDepth 20000 in
theorem oX14_gives_85 : vm_okB 14 mX14_gives 85 bX14_gives_85 = true := by decide +kernel
def bX14_gives_121 : List vm_J := [(1, .iconst 0, 0, 0, 0, .int 0), (2, .istore 4, 0, 0, 0, .null)]
set_option maxRecDepth 20000 in
theorem oX14_gives_121 : vm_okB 14 mX14_gives 121 bX14_gives_121 = true := by decide +kernel
def bX14_gives_124 : List vm_J := [(2, .iload 4, 0, 0, 0, .null), (1, .iload_n 2, 0, 0, 0, .null), (3, .if_icmp .ge 25, 152, 0, 0, .null), (1, .aload_n 0, 0, 0, 0, .null), (3, .getfield 387, 14, 42, 0, .null), (2, .iload 4, 0, 0, 0, .null), (1, .aaload, 0, 0, 0, .null), (3, .getfield 113, 13, 2, 0, .null), (3, .ifCond .eq 6, 146, 0, 0, .null), (2, .bipush (-4), 0, 0, 0, .int (-4)), (1, .ireturn, 0, 0, 0, .null)]
set_option maxRecDepth 20000 in
theorem oX14_gives_124 : vm_okB 14 mX14_gives 124 bX14_gives_124 = true := by decide +kernel
def bX14_gives_146 : List vm_J := [(3, .iinc 4 1, 0, 0, 0, .int 1), (3, .goto (-25), 124, 0, 0, .null)]
set_option maxRecDepth 20000 in
theorem oX14_gives_146 : vm_okB 14 mX14_gives 146 bX14_gives_146 = true := by decide +kernel
def bX14_gives_152 : List vm_J := [(1, .aload_n 0, 0, 0, 0, .null), (1, .iload_n 1, 0, 0, 0, .null), (1, .iload_n 2, 0, 0, 0, .null), (1, .aload_n 0, 0, 0, 0, .null), (3, .getfield 525, 14, 87, 0, .null), (3, .invokevirtual 632, 189, 3, 14, .null), (3, .ifCond .ne 6, 168, 0, 0, .null), (2, .bipush (-4), 0, 0, 0, .int (-4)), (1, .ireturn, 0, 0, 0, .null)]
set_option maxRecDepth 20000 in
theorem oX14_gives_152 : vm_okB 14 mX14_gives 152 bX14_gives_152 = true := by decide +kernel
def bX14_gives_168 : List vm_J := [(1, .iconst 0, 0, 0, 0, .int 0), (2, .istore 4, 0, 0, 0, .null)]
set_option maxRecDepth 20000 in
theorem oX14_gives_168 : vm_okB 14 mX14_gives 168 bX14_gives_168 = true := by decide +kernel
def bX14_gives_171 : List vm_J := [(2, .iload 4, 0, 0, 0, .null), (1, .iload_n 2, 0, 0, 0, .null), (3, .if_icmp .ge 28, 202, 0, 0, .null), (1, .aload_n 0, 0, 0, 0, .null), (3, .getfield 387, 14, 42, 0, .null), (2, .iload 4, 0, 0, 0, .null), (1, .aaload, 0, 0, 0, .null), (1, .aload_n 0, 0, 0, 0, .null), (3, .getfield 495, 14, 76, 0, .null), (2, .bipush 49, 0, 0, 0, .int 49), (2, .iload 4, 0, 0, 0, .null), (1, .imul, 0, 0, 0, .null), (3, .invokestatic 363, 163, 3, 0, .null), (3, .iinc 4 1, 0, 0, 0, .int 1), (3, .goto (-28), 171, 0, 0, .null)]
set_option maxRecDepth 20000 in
theorem oX14_gives_171 : vm_okB 14 mX14_gives 171 bX14_gives_171 = true := by decide +kernel
def bX14_gives_202 : List vm_J := [(1, .aload_n 0, 0, 0, 0, .null), (3, .getfield 426, 14, 51, 0, .null), (1, .aload_n 0, 0, 0, 0, .null), (3, .getfield 495, 14, 76, 0, .null), (2, .bipush 49, 0, 0, 0, .int 49), (1, .iload_n 2, 0, 0, 0, .null), (1, .imul, 0, 0, 0, .null), (2, .bipush 48, 0, 0, 0, .int 48), (3, .invokestatic 192, 156, 4, 0, .null), (1, .aload_n 0, 0, 0, 0, .null), (3, .getfield 437, 14, 52, 0, .null), (1, .aload_n 0, 0, 0, 0, .null), (3, .getfield 495, 14, 76, 0, .null), (2, .bipush 49, 0, 0, 0, .int 49), (1, .iload_n 2, 0, 0, 0, .null), (1, .imul, 0, 0, 0, .null), (2, .bipush 48, 0, 0, 0, .int 48), (1, .iadd, 0, 0, 0, .null), (2, .bipush 48, 0, 0, 0, .int 48), (3, .invokestatic 192, 156, 4, 0, .null), (1, .aload_n 0, 0, 0, 0, .null), (2, .bipush 49, 0, 0, 0, .int 49), (1, .iload_n 2, 0, 0, 0, .null), (1, .imul, 0, 0, 0, .null), (2, .bipush 96, 0, 0, 0, .int 96), (1, .iadd, 0, 0, 0, .null), (3, .putfield 564, 14, 77, 0, .null), (1, .aload_n 0, 0, 0, 0, .null), (3, .getfield 564, 14, 77, 0, .null), (1, .ireturn, 0, 0, 0, .null)]
set_option maxRecDepth 20000 in
theorem oX14_gives_202 : vm_okB 14 mX14_gives 202 bX14_gives_202 = true := by decide +kernel
def bX14_signs_0 : List vm_J := [(1, .aload_n 0, 0, 0, 0, .null), (3, .getfield 461, 14, 59, 0, .null), (1, .iload_n 1, 0, 0, 0, .null), (1, .aaload, 0, 0, 0, .null), (1, .astore_n 2, 0, 0, 0, .null), (1, .aload_n 0, 0, 0, 0, .null), (3, .getfield 492, 14, 74, 0, .null), (1, .iconst 3, 0, 0, 0, .int 3), (1, .aload_n 0, 0, 0, 0, .null), (3, .getfield 468, 14, 61, 0, .null), (1, .iload_n 1, 0, 0, 0, .null), (1, .iaload, 0, 0, 0, .null), (1, .aload_n 0, 0, 0, 0, .null), (3, .getfield 507, 14, 81, 0, .null), (1, .aload_n 2, 0, 0, 0, .null), (3, .getfield 13, 12, 2, 0, .null), (3, .invokestatic 176, 155, 5, 0, .null), (1, .aload_n 0, 0, 0, 0, .null), (3, .getfield 507, 14, 81, 0, .null), (1, .aload_n 2, 0, 0, 0, .null), (3, .getfield 22, 12, 0, 0, .null), (1, .aload_n 2, 0, 0, 0, .null), (3, .getfield 13, 12, 2, 0, .null), (3, .invokestatic 26, 139, 3, 0, .null), (3, .ifCond .lt 6, 50, 0, 0, .null), (2, .bipush (-4), 0, 0, 0, .int (-4)), (1, .ireturn, 0, 0, 0, .null)]
set_option maxRecDepth 20000 in
theorem oX14_signs_0 : vm_okB 14 mX14_signs 0 bX14_signs_0 = true := by decide +kernel
def bX14_signs_50 : List vm_J := [(1, .aload_n 0, 0, 0, 0, .null), (1, .aload_n 2, 0, 0, 0, .null), (1, .aload_n 0, 0, 0, 0, .null), (3, .getfield 507, 14, 81, 0, .null), (1, .aload_n 0, 0, 0, 0, .null), (3, .getfield 433, 14, 57, 0, .null), (1, .iload_n 1, 0, 0, 0, .null), (1, .aaload, 0, 0, 0, .null), (2, .bipush 32, 0, 0, 0, .int 32), (1, .aload_n 2, 0, 0, 0, .null), (3, .getfield 13, 12, 2, 0, .null), (1, .imul, 0, 0, 0, .null), (1, .aload_n 0, 0, 0, 0, .null), (3, .getfield 510, 14, 82, 0, .null), (3, .invokevirtual 169, 150, 5, 14, .null), (1, .aload_n 0, 0, 0, 0, .null), (1, .iload_n 1, 0, 0, 0, .null), (1, .aload_n 0, 0, 0, 0, .null), (3, .getfield 510, 14, 82, 0, .null), (1, .aload_n 0, 0, 0, 0, .null), (3, .getfield 513, 14, 83, 0, .null), (3, .invokevirtual 560, 198, 3, 14, .null), (1, .aload_n 0, 0, 0, 0, .null), (3, .getfield 513, 14, 83, 0, .null), (1, .aload_n 0, 0, 0, 0, .null), (3, .getfield 507, 14, 81, 0, .null), (1, .aload_n 2, 0, 0, 0, .null), (3, .getfield 13, 12, 2, 0, .null), (3, .invokestatic 26, 139, 3, 0, .null), (3, .ifCond .eq 6, 110, 0, 0, .null), (2, .bipush (-4), 0, 0, 0, .int (-4)), (1, .ireturn, 0, 0, 0, .null)]
set_option maxRecDepth 20000 in
theorem oX14_signs_50 : vm_okB 14 mX14_signs 50 bX14_signs_50 = true := by decide +kernel
def bX14_signs_110 : List vm_J := [(1, .aload_n 0, 0, 0, 0, .null), (3, .getfield 510, 14, 82, 0, .null), (1, .aload_n 0, 0, 0, 0, .null), (3, .getfield 495, 14, 76, 0, .null), (1, .iconst 0, 0, 0, 0, .int 0), (1, .aload_n 0, 0, 0, 0, .null), (3, .getfield 468, 14, 61, 0, .null), (1, .iload_n 1, 0, 0, 0, .null), (1, .iaload, 0, 0, 0, .null), (3, .invokestatic 192, 156, 4, 0, .null), (1, .aload_n 0, 0, 0, 0, .null), (1, .aload_n 0, 0, 0, 0, .null), (3, .getfield 468, 14, 61, 0, .null), (1, .iload_n 1, 0, 0, 0, .null), (1, .iaload, 0, 0, 0, .null), (3, .putfield 564, 14, 77, 0, .null), (1, .aload_n 0, 0, 0, 0, .null), (3, .getfield 564, 14, 77, 0, .null), (1, .ireturn, 0, 0, 0, .null)]
set_option maxRecDepth 20000 in
theorem oX14_signs_110 : vm_okB 14 mX14_signs 110 bX14_signs_110 = true := by decide +kernel
def bX14_isAsking_0 : List vm_J := [(1, .iload_n 1, 0, 0, 0, .null), (3, .ifCond .lt 24, 25, 0, 0, .null), (1, .iload_n 1, 0, 0, 0, .null), (1, .aload_n 0, 0, 0, 0, .null), (3, .getfield 598, 14, 68, 0, .null), (3, .if_icmp .ge 16, 25, 0, 0, .null), (1, .aload_n 0, 0, 0, 0, .null), (3, .getfield 477, 14, 65, 0, .null), (1, .iload_n 1, 0, 0, 0, .null), (1, .baload, 1, 0, 0, .null), (3, .ifCond .eq 7, 25, 0, 0, .null), (1, .iconst 1, 0, 0, 0, .int 1), (3, .goto 4, 26, 0, 0, .null)]
set_option maxRecDepth 20000 in
theorem oX14_isAsking_0 : vm_okB 14 mX14_isAsking 0 bX14_isAsking_0 = true := by decide +kernel
def bX14_isAsking_25 : List vm_J := [(1, .iconst 0, 0, 0, 0, .int 0)]
set_option maxRecDepth 20000 in
theorem oX14_isAsking_25 : vm_okB 14 mX14_isAsking 25 bX14_isAsking_25 = true := by decide +kernel
def bX14_isAsking_26 : List vm_J := [(1, .ireturn, 0, 0, 0, .null)]
set_option maxRecDepth 20000 in
theorem oX14_isAsking_26 : vm_okB 14 mX14_isAsking 26 bX14_isAsking_26 = true := by decide +kernel
def bX14_finalize_0 : List vm_J := [(1, .aload_n 0, 0, 0, 0, .null), (3, .invokevirtual 570, 192, 0, 14, .null), (1, .istore_n 2, 0, 0, 0, .null), (1, .aload_n 0, 0, 0, 0, .null), (1, .iload_n 1, 0, 0, 0, .null), (3, .invokevirtual 636, 223, 1, 14, .null), (3, .ifCond .ne 10, 20, 0, 0, .null), (1, .aload_n 0, 0, 0, 0, .null), (1, .iconst 1, 0, 0, 0, .int 1), (3, .putfield 1, 14, 0, 0, .null), (1, .iconst 0, 0, 0, 0, .int 0), (1, .ireturn, 0, 0, 0, .null)]
set_option maxRecDepth 20000 in
theorem oX14_finalize_0 : vm_okB 14 mX14_finalize 0 bX14_finalize_0 = true := by decide +kernel
def bX14_finalize_20 : List vm_J := [(1, .aload_n 0, 0, 0, 0, .null), (3, .getfield 474, 14, 64, 0, .null), (1, .iload_n 1, 0, 0, 0, .null), (1, .iaload, 0, 0, 0, .null), (1, .istore_n 3, 0, 0, 0, .null), (1, .aload_n 0, 0, 0, 0, .null), (3, .getfield 450, 14, 54, 0, .null), (1, .iload_n 3, 0, 0, 0, .null), (1, .iaload, 0, 0, 0, .null), (1, .iconst 1, 0, 0, 0, .int 1), (3, .if_icmp .ne 11, 45, 0, 0, .null), (1, .aload_n 0, 0, 0, 0, .null), (1, .iload_n 1, 0, 0, 0, .null), (1, .iconst 1, 0, 0, 0, .int 1), (1, .iload_n 2, 0, 0, 0, .null), (3, .invokevirtual 639, 227, 3, 14, .null), (1, .ireturn, 0, 0, 0, .null)]
set_option maxRecDepth 20000 in
theorem oX14_finalize_20 : vm_okB 14 mX14_finalize 20 bX14_finalize_20 = true := by decide +kernel
def bX14_finalize_45 : List vm_J := [(1, .iload_n 2, 0, 0, 0, .null), (1, .aload_n 0, 0, 0, 0, .null), (3, .getfield 468, 14, 61, 0, .null), (1, .iload_n 3, 0, 0, 0, .null), (1, .iaload, 0, 0, 0, .null), (3, .if_icmp .eq 6, 58, 0, 0, .null), (2, .bipush (-2), 0, 0, 0, .int (-2)), (1, .ireturn, 0, 0, 0, .null)]
set_option maxRecDepth 20000 in
theorem oX14_finalize_45 : vm_okB 14 mX14_finalize 45 bX14_finalize_45 = true := by decide +kernel
def bX14_finalize_58 : List vm_J := [(1, .aload_n 0, 0, 0, 0, .null), (1, .iload_n 1, 0, 0, 0, .null), (1, .iload_n 3, 0, 0, 0, .null), (3, .invokevirtual 643, 228, 2, 14, .null), (1, .ireturn, 0, 0, 0, .null)]
set_option maxRecDepth 20000 in
theorem oX14_finalize_58 : vm_okB 14 mX14_finalize 58 bX14_finalize_58 = true := by decide +kernel
def bX14_finalizeMany_0 : List vm_J := [(1, .aload_n 0, 0, 0, 0, .null), (3, .invokevirtual 570, 192, 0, 14, .null), (1, .istore_n 3, 0, 0, 0, .null), (1, .iload_n 2, 0, 0, 0, .null), (1, .iconst 1, 0, 0, 0, .int 1), (3, .if_icmp .lt 13, 20, 0, 0, .null), (1, .iload_n 2, 0, 0, 0, .null), (2, .bipush 8, 0, 0, 0, .int 8), (3, .if_icmp .gt 7, 20, 0, 0, .null), (1, .iconst 1, 0, 0, 0, .int 1), (3, .goto 4, 21, 0, 0, .null)]
set_option maxRecDepth 20000 in
theorem oX14_finalizeMany_0 : vm_okB 14 mX14_finalizeMany 0 bX14_finalizeMany_0 = true := by decide +kernel
def bX14_finalizeMany_20 : List vm_J := [(1, .iconst 0, 0, 0, 0, .int 0)]
set_option maxRecDepth 20000 in
theorem oX14_finalizeMany_20 : vm_okB 14 mX14_finalizeMany 20 bX14_finalizeMany_20 = true := by decide +kernel
def bX14_finalizeMany_21 : List vm_J := [(2, .istore 4, 0, 0, 0, .null), (1, .iconst 0, 0, 0, 0, .int 0), (2, .istore 5, 0, 0, 0, .null)]
set_option maxRecDepth 20000 in
theorem oX14_finalizeMany_21 : vm_okB 14 mX14_finalizeMany 21 bX14_finalizeMany_21 = true := by decide +kernel
def bX14_finalizeMany_26 : List vm_J := [(2, .iload 4, 0, 0, 0, .null), (3, .ifCond .eq 43, 71, 0, 0, .null), (2, .iload 5, 0, 0, 0, .null), (1, .iload_n 2, 0, 0, 0, .null), (3, .if_icmp .ge 37, 71, 0, 0, .null), (1, .iload_n 1, 0, 0, 0, .null), (3, .ifCond .lt 24, 62, 0, 0, .null), (1, .iload_n 1, 0, 0, 0, .null), (2, .bipush 60, 0, 0, 0, .int 60), (3, .if_icmp .ge 18, 62, 0, 0, .null), (1, .aload_n 0, 0, 0, 0, .null), (1, .iload_n 1, 0, 0, 0, .null), (2, .iload 5, 0, 0, 0, .null), (1, .iadd, 0, 0, 0, .null), (3, .invokevirtual 636, 223, 1, 14, .null), (3, .ifCond .eq 7, 62, 0, 0, .null), (1, .iconst 1, 0, 0, 0, .int 1), (3, .goto 4, 63, 0, 0, .null)]
set_option maxRecDepth 20000 in
theorem oX14_finalizeMany_26 : vm_okB 14 mX14_finalizeMany 26 bX14_finalizeMany_26 = true := by decide +kernel
def bX14_finalizeMany_62 : List vm_J := [(1, .iconst 0, 0, 0, 0, .int 0)]
set_option maxRecDepth 20000 in
theorem oX14_finalizeMany_62 : vm_okB 14 mX14_finalizeMany 62 bX14_finalizeMany_62 = true := by decide +kernel
def bX14_finalizeMany_63 : List vm_J := [(2, .istore 4, 0, 0, 0, .null), (3, .iinc 5 1, 0, 0, 0, .int 1), (3, .goto (-42), 26, 0, 0, .null)]
set_option maxRecDepth 20000 in
theorem oX14_finalizeMany_63 : vm_okB 14 mX14_finalizeMany 63 bX14_finalizeMany_63 = true := by decide +kernel
def bX14_finalizeMany_71 : List vm_J := [(2, .iload 4, 0, 0, 0, .null), (3, .ifCond .ne 10, 83, 0, 0, .null), (1, .aload_n 0, 0, 0, 0, .null), (1, .iconst 1, 0, 0, 0, .int 1), (3, .putfield 1, 14, 0, 0, .null), (1, .iconst 0, 0, 0, 0, .int 0), (1, .ireturn, 0, 0, 0, .null)]
set_option maxRecDepth 20000 in
theorem oX14_finalizeMany_71 : vm_okB 14 mX14_finalizeMany 71 bX14_finalizeMany_71 = true := by decide +kernel
def bX14_finalizeMany_83 : List vm_J := [(1, .iconst 0, 0, 0, 0, .int 0), (2, .istore 5, 0, 0, 0, .null)]
set_option maxRecDepth 20000 in
theorem oX14_finalizeMany_83 : vm_okB 14 mX14_finalizeMany 83 bX14_finalizeMany_83 = true := by decide +kernel
def bX14_finalizeMany_86 : List vm_J := [(2, .iload 5, 0, 0, 0, .null), (1, .iload_n 2, 0, 0, 0, .null), (3, .if_icmp .ge 30, 119, 0, 0, .null), (1, .aload_n 0, 0, 0, 0, .null), (3, .getfield 474, 14, 64, 0, .null), (1, .iload_n 1, 0, 0, 0, .null), (2, .iload 5, 0, 0, 0, .null), (1, .iadd, 0, 0, 0, .null), (1, .iaload, 0, 0, 0, .null), (1, .aload_n 0, 0, 0, 0, .null), (3, .getfield 474, 14, 64, 0, .null), (1, .iload_n 1, 0, 0, 0, .null), (1, .iaload, 0, 0, 0, .null), (3, .if_icmp .eq 6, 113, 0, 0, .null), (2, .bipush (-2), 0, 0, 0, .int (-2)), (1, .ireturn, 0, 0, 0, .null)]
set_option maxRecDepth 20000 in
theorem oX14_finalizeMany_86 : vm_okB 14 mX14_finalizeMany 86 bX14_finalizeMany_86 = true := by decide +kernel
def bX14_finalizeMany_113 : List vm_J := [(3, .iinc 5 1, 0, 0, 0, .int 1), (3, .goto (-30), 86, 0, 0, .null)]
set_option maxRecDepth 20000 in
theorem oX14_finalizeMany_113 : vm_okB 14 mX14_finalizeMany 113 bX14_finalizeMany_113 = true := by decide +kernel
def bX14_finalizeMany_119 : List vm_J := [(1, .aload_n 0, 0, 0, 0, .null), (3, .getfield 450, 14, 54, 0, .null), (1, .aload_n 0, 0, 0, 0, .null), (3, .getfield 474, 14, 64, 0, .null), (1, .iload_n 1, 0, 0, 0, .null), (1, .iaload, 0, 0, 0, .null), (1, .iaload, 0, 0, 0, .null), (1, .iconst 1, 0, 0, 0, .int 1), (3, .if_icmp .eq 6, 137, 0, 0, .null), (2, .bipush (-2), 0, 0, 0, .int (-2)), (1, .ireturn, 0, 0, 0, .null)]
set_option maxRecDepth 20000 in
theorem oX14_finalizeMany_119 : vm_okB 14 mX14_finalizeMany 119 bX14_finalizeMany_119 = true := by decide +kernel
def bX14_finalizeMany_137 : List vm_J := [(1, .aload_n 0, 0, 0, 0, .null), (1, .iload_n 1, 0, 0, 0, .null), (1, .iload_n 2, 0, 0, 0, .null), (1, .iload_n 3, 0, 0, 0, .null), (3, .invokevirtual 639, 227, 3, 14, .null), (1, .ireturn, 0, 0, 0, .null)]
set_option maxRecDepth 20000 in
theorem oX14_finalizeMany_137 : vm_okB 14 mX14_finalizeMany 137 bX14_finalizeMany_137 = true := by decide +kernel
def bX14_output_0 : List vm_J := [(1, .aload_n 0, 0, 0, 0, .null), (1, .iconst 0, 0, 0, 0, .int 0), (3, .putfield 203, 14, 19, 0, .null), (1, .aload_n 0, 0, 0, 0, .null), (2, .bipush 98, 0, 0, 0, .int 98), (3, .invokevirtual 296, 167, 1, 14, .null), (1, .aload_n 0, 0, 0, 0, .null), (1, .aload_n 1, 0, 0, 0, .null), (1, .iload_n 2, 0, 0, 0, .null), (2, .bipush 98, 0, 0, 0, .int 98), (3, .invokevirtual 287, 166, 3, 14, .null), (1, .aload_n 0, 0, 0, 0, .null), (2, .bipush 49, 0, 0, 0, .int 49), (3, .invokevirtual 296, 167, 1, 14, .null), (1, .aload_n 3, 0, 0, 0, .null), (1, .aload_n 0, 0, 0, 0, .null), (3, .getfield 360, 14, 49, 0, .null), (1, .iconst 0, 0, 0, 0, .int 0), (3, .invokestatic 363, 163, 3, 0, .null), (1, .aload_n 0, 0, 0, 0, .null), (1, .aload_n 0, 0, 0, 0, .null), (3, .getfield 360, 14, 49, 0, .null), (1, .iconst 0, 0, 0, 0, .int 0), (2, .bipush 49, 0, 0, 0, .int 49), (3, .invokevirtual 287, 166, 3, 14, .null), (1, .aload_n 0, 0, 0, 0, .null)]
set_option maxRecDepth 20000 in
theorem oX14_output_0 : vm_okB 14 mX14_output 0 bX14_output_0 = true := by decide +kernel
def bX14_output_49 : List vm_J := [(3, .invokevirtual 222, 168, 1, 14, .null), (1, .aload_n 0, 0, 0, 0, .null), (3, .invokevirtual 302, 175, 0, 14, .null), (1, .return_, 0, 0, 0, .null)]
set_option maxRecDepth 20000 in
theorem oX14_output_49 : vm_okB 14 mX14_output 49 bX14_output_49 = true := by decide +kernel
def bX14_ends_0 : List vm_J := [(1, .aload_n 0, 0, 0, 0, .null), (3, .getfield 474, 14, 64, 0, .null), (1, .iload_n 1, 0, 0, 0, .null), (1, .iaload, 0, 0, 0, .null), (2, .istore 4, 0, 0, 0, .null), (1, .iload_n 3, 0, 0, 0, .null), (2, .bipush 49, 0, 0, 0, .int 49), (1, .iload_n 2, 0, 0, 0, .null), (1, .imul, 0, 0, 0, .null), (2, .bipush 96, 0, 0, 0, .int 96), (1, .iadd, 0, 0, 0, .null), (3, .if_icmp .eq 6, 22, 0, 0, .null), (2, .bipush (-2), 0, 0, 0, .int (-2)), (1, .ireturn, 0, 0, 0, .null)]
set_option maxRecDepth 20000 in
theorem oX14_ends_0 : vm_okB 14 mX14_ends 0 bX14_ends_0 = true := by decide +kernel
def bX14_ends_22 : List vm_J := [(1, .iconst 0, 0, 0, 0, .int 0), (2, .istore 5, 0, 0, 0, .null)]
set_option maxRecDepth 20000 in
theorem oX14_ends_22 : vm_okB 14 mX14_ends 22 bX14_ends_22 = true := by decide +kernel
def bX14_ends_25 : List vm_J := [(2, .iload 5, 0, 0, 0, .null), (1, .iload_n 2, 0, 0, 0, .null), (3, .if_icmp .ge 35, 63, 0, 0, .null), (1, .aload_n 0, 0, 0, 0, .null), (1, .aload_n 0, 0, 0, 0, .null), (3, .getfield 492, 14, 74, 0, .null), (2, .bipush 49, 0, 0, 0, .int 49), (2, .iload 5, 0, 0, 0, .null), (1, .imul, 0, 0, 0, .null), (1, .aload_n 0, 0, 0, 0, .null), (3, .getfield 387, 14, 42, 0, .null), (2, .iload 5, 0, 0, 0, .null), (1, .aaload, 0, 0, 0, .null), (3, .invokevirtual 628, 162, 3, 14, .null), (3, .ifCond .ne 6, 57, 0, 0, .null), (2, .bipush (-4), 0, 0, 0, .int (-4)), (1, .ireturn, 0, 0, 0, .null)]
set_option maxRecDepth 20000 in
theorem oX14_ends_25 : vm_okB 14 mX14_ends 25 bX14_ends_25 = true := by decide +kernel
def bX14_ends_57 : List vm_J := [(3, .iinc 5 1, 0, 0, 0, .int 1), (3, .goto (-35), 25, 0, 0, .null)]
set_option maxRecDepth 20000 in
theorem oX14_ends_57 : vm_okB 14 mX14_ends 57 bX14_ends_57 = true := by decide +kernel
def bX14_ends_63 : List vm_J := [(1, .aload_n 0, 0, 0, 0, .null), (3, .getfield 492, 14, 74, 0, .null), (2, .bipush 49, 0, 0, 0, .int 49), (1, .iload_n 2, 0, 0, 0, .null), (1, .imul, 0, 0, 0, .null), (2, .bipush 48, 0, 0, 0, .int 48), (1, .aload_n 0, 0, 0, 0, .null), (3, .getfield 426, 14, 51, 0, .null), (2, .bipush 12, 0, 0, 0, .int 12), (3, .invokestatic 176, 155, 5, 0, .null), (1, .aload_n 0, 0, 0, 0, .null), (3, .getfield 492, 14, 74, 0, .null), (2, .bipush 49, 0, 0, 0, .int 49), (1, .iload_n 2, 0, 0, 0, .null), (1, .imul, 0, 0, 0, .null), (2, .bipush 48, 0, 0, 0, .int 48), (1, .iadd, 0, 0, 0, .null), (2, .bipush 48, 0, 0, 0, .int 48), (1, .aload_n 0, 0, 0, 0, .null), (3, .getfield 437, 14, 52, 0, .null), (2, .bipush 12, 0, 0, 0, .int 12), (3, .invokestatic 176, 155, 5, 0, .null), (1, .aload_n 0, 0, 0, 0, .null), (3, .getfield 426, 14, 51, 0, .null), (3, .getstatic 196, 7, 0, 0, .null), (2, .bipush 12, 0, 0, 0, .int 12), (3, .invokestatic 26, 139, 3, 0, .null), (3, .ifCond .ge 18, 134, 0, 0, .null), (1, .aload_n 0, 0, 0, 0, .null), (3, .getfield 437, 14, 52, 0, .null), (3, .getstatic 196, 7, 0, 0, .null), (2, .bipush 12, 0, 0, 0, .int 12), (3, .invokestatic 26, 139, 3, 0, .null), (3, .ifCond .lt 6, 137, 0, 0, .null)]
set_option maxRecDepth 20000 in
theorem oX14_ends_63 : vm_okB 14 mX14_ends 63 bX14_ends_63 = true := by decide +kernel
def bX14_ends_134 : List vm_J := [(2, .bipush (-4), 0, 0, 0, .int (-4)), (1, .ireturn, 0, 0, 0, .null)]
set_option maxRecDepth 20000 in
theorem oX14_ends_134 : vm_okB 14 mX14_ends 134 bX14_ends_134 = true := by decide +kernel
def bX14_ends_137 : List vm_J := [(1, .iconst 0, 0, 0, 0, .int 0), (2, .istore 5, 0, 0, 0, .null)]
set_option maxRecDepth 20000 in
theorem oX14_ends_137 : vm_okB 14 mX14_ends 137 bX14_ends_137 = true := by decide +kernel
def bX14_ends_140 : List vm_J := [(2, .iload 5, 0, 0, 0, .null), (1, .iload_n 2, 0, 0, 0, .null), (3, .if_icmp .ge 54, 197, 0, 0, .null), (1, .aload_n 0, 0, 0, 0, .null), (1, .aload_n 0, 0, 0, 0, .null), (3, .getfield 480, 14, 66, 0, .null), (2, .bipush 98, 0, 0, 0, .int 98), (1, .iload_n 1, 0, 0, 0, .null), (2, .iload 5, 0, 0, 0, .null), (1, .iadd, 0, 0, 0, .null), (1, .imul, 0, 0, 0, .null), (2, .bipush 98, 0, 0, 0, .int 98), (1, .aload_n 0, 0, 0, 0, .null), (3, .getfield 522, 14, 86, 0, .null), (3, .invokevirtual 608, 183, 4, 14, .null), (1, .aload_n 0, 0, 0, 0, .null), (1, .aload_n 0, 0, 0, 0, .null), (3, .getfield 483, 14, 67, 0, .null), (1, .iload_n 1, 0, 0, 0, .null), (2, .iload 5, 0, 0, 0, .null), (1, .iadd, 0, 0, 0, .null), (1, .aaload, 0, 0, 0, .null), (1, .aload_n 0, 0, 0, 0, .null), (3, .getfield 522, 14, 86, 0, .null), (1, .aload_n 0, 0, 0, 0, .null), (3, .getfield 380, 14, 41, 0, .null), (2, .iload 5, 0, 0, 0, .null), (1, .aaload, 0, 0, 0, .null), (3, .invokevirtual 404, 158, 3, 14, .null), (3, .iinc 5 1, 0, 0, 0, .int 1), (3, .goto (-54), 140, 0, 0, .null)]
set_option maxRecDepth 20000 in
theorem oX14_ends_140 : vm_okB 14 mX14_ends 140 bX14_ends_140 = true := by decide +kernel
def bX14_ends_197 : List vm_J := [(1, .aload_n 0, 0, 0, 0, .null), (2, .iload 4, 0, 0, 0, .null), (1, .iload_n 2, 0, 0, 0, .null), (3, .invokevirtual 648, 190, 2, 14, .null), (3, .ifCond .ne 6, 210, 0, 0, .null), (2, .bipush (-4), 0, 0, 0, .int (-4)), (1, .ireturn, 0, 0, 0, .null)]
set_option maxRecDepth 20000 in
theorem oX14_ends_197 : vm_okB 14 mX14_ends 197 bX14_ends_197 = true := by decide +kernel
def bX14_ends_210 : List vm_J := [(1, .iconst 0, 0, 0, 0, .int 0), (2, .istore 5, 0, 0, 0, .null)]
set_option maxRecDepth 20000 in
theorem oX14_ends_210 : vm_okB 14 mX14_ends 210 bX14_ends_210 = true := by decide +kernel
def bX14_ends_213 : List vm_J := [(2, .iload 5, 0, 0, 0, .null), (1, .iload_n 2, 0, 0, 0, .null), (3, .if_icmp .ge 119, 335, 0, 0, .null), (1, .aload_n 0, 0, 0, 0, .null), (1, .aload_n 0, 0, 0, 0, .null), (3, .getfield 322, 14, 9, 0, .null), (1, .aload_n 0, 0, 0, 0, .null), (3, .getfield 483, 14, 67, 0, .null), (1, .iload_n 1, 0, 0, 0, .null), (2, .iload 5, 0, 0, 0, .null), (1, .iadd, 0, 0, 0, .null), (1, .aaload, 0, 0, 0, .null), (1, .aload_n 0, 0, 0, 0, .null), (3, .getfield 395, 14, 50, 0, .null), (3, .invokevirtual 142, 154, 3, 14, .null), (2, .istore 6, 0, 0, 0, .null), (1, .aload_n 0, 0, 0, 0, .null), (1, .aload_n 0, 0, 0, 0, .null), (3, .getfield 395, 14, 50, 0, .null), (1, .aload_n 0, 0, 0, 0, .null), (3, .getfield 387, 14, 42, 0, .null), (2, .iload 5, 0, 0, 0, .null), (1, .aaload, 0, 0, 0, .null), (1, .aload_n 0, 0, 0, 0, .null), (3, .getfield 522, 14, 86, 0, .null), (3, .invokevirtual 404, 158, 3, 14, .null), (1, .aload_n 0, 0, 0, 0, .null), (3, .getfield 522, 14, 86, 0, .null), (3, .getfield 113, 13, 2, 0, .null), (3, .ifCond .eq 6, 274, 0, 0, .null), (2, .bipush (-4), 0, 0, 0, .int (-4)), (1, .ireturn, 0, 0, 0, .null)]
set_option maxRecDepth 20000 in
theorem oX14_ends_213 : vm_okB 14 mX14_ends 213 bX14_ends_213 = true := by decide +kernel
def bX14_ends_274 : List vm_J := [(1, .aload_n 0, 0, 0, 0, .null), (1, .aload_n 0, 0, 0, 0, .null), (3, .getfield 480, 14, 66, 0, .null), (2, .bipush 98, 0, 0, 0, .int 98), (1, .iload_n 1, 0, 0, 0, .null), (2, .iload 5, 0, 0, 0, .null), (1, .iadd, 0, 0, 0, .null), (1, .imul, 0, 0, 0, .null), (1, .aload_n 0, 0, 0, 0, .null), (3, .getfield 522, 14, 86, 0, .null), (3, .invokevirtual 651, 226, 3, 14, .null), (1, .iconst 0, 0, 0, 0, .int 0), (2, .istore 7, 0, 0, 0, .null)]
set_option maxRecDepth 20000 in
theorem oX14_ends_274 : vm_okB 14 mX14_ends 274 bX14_ends_274 = true := by decide +kernel
def bX14_ends_296 : List vm_J := [(2, .iload 7, 0, 0, 0, .null), (2, .bipush 48, 0, 0, 0, .int 48), (3, .if_icmp .ge 29, 329, 0, 0, .null), (1, .aload_n 0, 0, 0, 0, .null), (3, .getfield 528, 14, 88, 0, .null), (2, .bipush 48, 0, 0, 0, .int 48), (2, .iload 5, 0, 0, 0, .null), (1, .imul, 0, 0, 0, .null), (2, .iload 7, 0, 0, 0, .null), (1, .iadd, 0, 0, 0, .null), (1, .aload_n 0, 0, 0, 0, .null), (3, .getfield 243, 14, 20, 0, .null), (2, .iload 7, 0, 0, 0, .null), (1, .baload, 0, 0, 0, .null), (1, .bastore, 0, 0, 0, .null), (3, .iinc 7 1, 0, 0, 0, .int 1), (3, .goto (-30), 296, 0, 0, .null)]
set_option maxRecDepth 20000 in
theorem oX14_ends_296 : vm_okB 14 mX14_ends 296 bX14_ends_296 = true := by decide +kernel
def bX14_ends_329 : List vm_J := [(3, .iinc 5 1, 0, 0, 0, .int 1), (3, .goto (-119), 213, 0, 0, .null)]
set_option maxRecDepth 20000 in
theorem oX14_ends_329 : vm_okB 14 mX14_ends 329 bX14_ends_329 = true := by decide +kernel
def bX14_ends_335 : List vm_J := [(1, .iconst 0, 0, 0, 0, .int 0), (2, .istore 5, 0, 0, 0, .null)]
set_option maxRecDepth 20000 in
theorem oX14_ends_335 : vm_okB 14 mX14_ends 335 bX14_ends_335 = true := by decide +kernel
def bX14_ends_338 : List vm_J := [(2, .iload 5, 0, 0, 0, .null), (1, .iload_n 2, 0, 0, 0, .null), (3, .if_icmp .ge 110, 451, 0, 0, .null), (1, .iconst 0, 0, 0, 0, .int 0), (2, .istore 6, 0, 0, 0, .null)]
set_option maxRecDepth 20000 in
theorem oX14_ends_338 : vm_okB 14 mX14_ends 338 bX14_ends_338 = true := by decide +kernel
def bX14_ends_347 : List vm_J := [(2, .iload 6, 0, 0, 0, .null), (2, .bipush 98, 0, 0, 0, .int 98), (3, .if_icmp .ge 38, 389, 0, 0, .null), (1, .aload_n 0, 0, 0, 0, .null), (3, .getfield 495, 14, 76, 0, .null), (3, .sipush 146, 0, 0, 0, .int 146), (2, .iload 5, 0, 0, 0, .null), (1, .imul, 0, 0, 0, .null), (2, .iload 6, 0, 0, 0, .null), (1, .iadd, 0, 0, 0, .null), (1, .aload_n 0, 0, 0, 0, .null), (3, .getfield 480, 14, 66, 0, .null), (2, .bipush 98, 0, 0, 0, .int 98), (1, .iload_n 1, 0, 0, 0, .null), (2, .iload 5, 0, 0, 0, .null), (1, .iadd, 0, 0, 0, .null), (1, .imul, 0, 0, 0, .null), (2, .iload 6, 0, 0, 0, .null), (1, .iadd, 0, 0, 0, .null), (1, .baload, 0, 0, 0, .null), (1, .bastore, 0, 0, 0, .null), (3, .iinc 6 1, 0, 0, 0, .int 1), (3, .goto (-39), 347, 0, 0, .null)]
set_option maxRecDepth 20000 in
theorem oX14_ends_347 : vm_okB 14 mX14_ends 347 bX14_ends_347 = true := by decide +kernel
def bX14_ends_389 : List vm_J := [(1, .iconst 0, 0, 0, 0, .int 0), (2, .istore 6, 0, 0, 0, .null)]
set_option maxRecDepth 20000 in
theorem oX14_ends_389 : vm_okB 14 mX14_ends 389 bX14_ends_389 = true := by decide +kernel
def bX14_ends_392 : List vm_J := [(2, .iload 6, 0, 0, 0, .null), (2, .bipush 48, 0, 0, 0, .int 48), (3, .if_icmp .ge 39, 435, 0, 0, .null), (1, .aload_n 0, 0, 0, 0, .null), (3, .getfield 495, 14, 76, 0, .null), (3, .sipush 146, 0, 0, 0, .int 146), (2, .iload 5, 0, 0, 0, .null), (1, .imul, 0, 0, 0, .null), (2, .bipush 98, 0, 0, 0, .int 98), (1, .iadd, 0, 0, 0, .null), (2, .iload 6, 0, 0, 0, .null), (1, .iadd, 0, 0, 0, .null), (1, .aload_n 0, 0, 0, 0, .null), (3, .getfield 528, 14, 88, 0, .null), (2, .bipush 48, 0, 0, 0, .int 48), (2, .iload 5, 0, 0, 0, .null), (1, .imul, 0, 0, 0, .null), (2, .iload 6, 0, 0, 0, .null), (1, .iadd, 0, 0, 0, .null), (1, .baload, 0, 0, 0, .null), (1, .bastore, 0, 0, 0, .null), (3, .iinc 6 1, 0, 0, 0, .int 1), (3, .goto (-40), 392, 0, 0, .null)]
set_option maxRecDepth 20000 in
theorem oX14_ends_392 : vm_okB 14 mX14_ends 392 bX14_ends_392 = true := by decide +kernel
def bX14_ends_435 : List vm_J := [(1, .aload_n 0, 0, 0, 0, .null), (3, .getfield 477, 14, 65, 0, .null), (1, .iload_n 1, 0, 0, 0, .null), (2, .iload 5, 0, 0, 0, .null), (1, .iadd, 0, 0, 0, .null), (1, .iconst 0, 0, 0, 0, .int 0), (1, .bastore, 1, 0, 0, .null), (3, .iinc 5 1, 0, 0, 0, .int 1), (3, .goto (-110), 338, 0, 0, .null)]
set_option maxRecDepth 20000 in
theorem oX14_ends_435 : vm_okB 14 mX14_ends 435 bX14_ends_435 = true := by decide +kernel
def bX14_ends_451 : List vm_J := [(1, .aload_n 0, 0, 0, 0, .null), (3, .sipush 146, 0, 0, 0, .int 146), (1, .iload_n 2, 0, 0, 0, .null), (1, .imul, 0, 0, 0, .null), (3, .putfield 564, 14, 77, 0, .null), (1, .aload_n 0, 0, 0, 0, .null), (3, .getfield 564, 14, 77, 0, .null), (1, .ireturn, 0, 0, 0, .null)]
set_option maxRecDepth 20000 in
theorem oX14_ends_451 : vm_okB 14 mX14_ends 451 bX14_ends_451 = true := by decide +kernel
def bX14_endsTwo_0 : List vm_J := [(1, .aload_n 0, 0, 0, 0, .null), (3, .getfield 461, 14, 59, 0, .null), (1, .iload_n 2, 0, 0, 0, .null), (1, .aaload, 0, 0, 0, .null), (1, .astore_n 3, 0, 0, 0, .null), (1, .aload_n 0, 0, 0, 0, .null), (3, .getfield 492, 14, 74, 0, .null), (1, .iconst 0, 0, 0, 0, .int 0), (1, .aload_n 0, 0, 0, 0, .null), (3, .getfield 468, 14, 61, 0, .null), (1, .iload_n 2, 0, 0, 0, .null), (1, .iaload, 0, 0, 0, .null), (1, .aload_n 0, 0, 0, 0, .null), (3, .getfield 507, 14, 81, 0, .null), (1, .aload_n 3, 0, 0, 0, .null), (3, .getfield 13, 12, 2, 0, .null), (3, .invokestatic 176, 155, 5, 0, .null), (1, .aload_n 0, 0, 0, 0, .null), (3, .getfield 507, 14, 81, 0, .null), (1, .aload_n 3, 0, 0, 0, .null), (3, .getfield 22, 12, 0, 0, .null), (1, .aload_n 3, 0, 0, 0, .null), (3, .getfield 13, 12, 2, 0, .null), (3, .invokestatic 26, 139, 3, 0, .null), (3, .ifCond .lt 6, 50, 0, 0, .null), (2, .bipush (-4), 0, 0, 0, .int (-4)), (1, .ireturn, 0, 0, 0, .null)]
set_option maxRecDepth 20000 in
theorem oX14_endsTwo_0 : vm_okB 14 mX14_endsTwo 0 bX14_endsTwo_0 = true := by decide +kernel
def bX14_endsTwo_50 : List vm_J := [(1, .aload_n 0, 0, 0, 0, .null), (1, .aload_n 3, 0, 0, 0, .null), (1, .aload_n 0, 0, 0, 0, .null), (3, .getfield 483, 14, 67, 0, .null), (1, .iload_n 1, 0, 0, 0, .null), (1, .aaload, 0, 0, 0, .null), (1, .aload_n 0, 0, 0, 0, .null), (3, .getfield 510, 14, 82, 0, .null), (3, .invokevirtual 142, 154, 3, 14, .null), (2, .istore 4, 0, 0, 0, .null), (1, .aload_n 0, 0, 0, 0, .null), (1, .aload_n 3, 0, 0, 0, .null), (1, .aload_n 0, 0, 0, 0, .null), (3, .getfield 507, 14, 81, 0, .null), (1, .aload_n 0, 0, 0, 0, .null), (3, .getfield 510, 14, 82, 0, .null), (1, .aload_n 0, 0, 0, 0, .null), (3, .getfield 507, 14, 81, 0, .null), (3, .invokevirtual 79, 149, 4, 14, .null), (1, .aload_n 0, 0, 0, 0, .null), (1, .iload_n 2, 0, 0, 0, .null), (1, .aload_n 0, 0, 0, 0, .null), (3, .getfield 480, 14, 66, 0, .null), (2, .bipush 98, 0, 0, 0, .int 98), (1, .iload_n 1, 0, 0, 0, .null), (1, .imul, 0, 0, 0, .null), (1, .aload_n 0, 0, 0, 0, .null), (3, .getfield 507, 14, 81, 0, .null), (3, .invokevirtual 655, 199, 4, 14, .null), (3, .ifCond .ne 6, 107, 0, 0, .null), (2, .bipush (-4), 0, 0, 0, .int (-4)), (1, .ireturn, 0, 0, 0, .null)]
set_option maxRecDepth 20000 in
theorem oX14_endsTwo_50 : vm_okB 14 mX14_endsTwo 50 bX14_endsTwo_50 = true := by decide +kernel
def bX14_endsTwo_107 : List vm_J := [(1, .iconst 0, 0, 0, 0, .int 0), (2, .istore 5, 0, 0, 0, .null)]
set_option maxRecDepth 20000 in
theorem oX14_endsTwo_107 : vm_okB 14 mX14_endsTwo 107 bX14_endsTwo_107 = true := by decide +kernel
def bX14_endsTwo_110 : List vm_J := [(2, .iload 5, 0, 0, 0, .null), (2, .bipush 98, 0, 0, 0, .int 98), (3, .if_icmp .ge 28, 142, 0, 0, .null), (1, .aload_n 0, 0, 0, 0, .null), (3, .getfield 495, 14, 76, 0, .null), (2, .iload 5, 0, 0, 0, .null), (1, .aload_n 0, 0, 0, 0, .null), (3, .getfield 480, 14, 66, 0, .null), (2, .bipush 98, 0, 0, 0, .int 98), (1, .iload_n 1, 0, 0, 0, .null), (1, .imul, 0, 0, 0, .null), (2, .iload 5, 0, 0, 0, .null), (1, .iadd, 0, 0, 0, .null), (1, .baload, 0, 0, 0, .null), (1, .bastore, 0, 0, 0, .null), (3, .iinc 5 1, 0, 0, 0, .int 1), (3, .goto (-29), 110, 0, 0, .null)]
set_option maxRecDepth 20000 in
theorem oX14_endsTwo_110 : vm_okB 14 mX14_endsTwo 110 bX14_endsTwo_110 = true := by decide +kernel
def bX14_endsTwo_142 : List vm_J := [(1, .aload_n 0, 0, 0, 0, .null), (3, .getfield 507, 14, 81, 0, .null), (1, .aload_n 0, 0, 0, 0, .null), (3, .getfield 495, 14, 76, 0, .null), (2, .bipush 98, 0, 0, 0, .int 98), (1, .aload_n 0, 0, 0, 0, .null), (3, .getfield 468, 14, 61, 0, .null), (1, .iload_n 2, 0, 0, 0, .null), (1, .iaload, 0, 0, 0, .null), (3, .invokestatic 192, 156, 4, 0, .null), (1, .aload_n 0, 0, 0, 0, .null), (2, .bipush 98, 0, 0, 0, .int 98), (1, .aload_n 0, 0, 0, 0, .null), (3, .getfield 468, 14, 61, 0, .null), (1, .iload_n 2, 0, 0, 0, .null), (1, .iaload, 0, 0, 0, .null), (1, .iadd, 0, 0, 0, .null), (3, .putfield 564, 14, 77, 0, .null), (1, .aload_n 0, 0, 0, 0, .null), (3, .getfield 477, 14, 65, 0, .null), (1, .iload_n 1, 0, 0, 0, .null), (1, .iconst 0, 0, 0, 0, .int 0), (1, .bastore, 1, 0, 0, .null), (1, .aload_n 0, 0, 0, 0, .null), (3, .getfield 564, 14, 77, 0, .null), (1, .ireturn, 0, 0, 0, .null)]
set_option maxRecDepth 20000 in
theorem oX14_endsTwo_142 : vm_okB 14 mX14_endsTwo 142 bX14_endsTwo_142 = true := by decide +kernel
def bX14_slot_0 : List vm_J := [(3, .sipush 512, 0, 0, 0, .int 512), (1, .iload_n 0, 0, 0, 0, .null), (2, .bipush 14, 0, 0, 0, .int 14), (1, .idiv, 0, 0, 0, .null), (1, .imul, 0, 0, 0, .null), (2, .bipush 36, 0, 0, 0, .int 36), (1, .iload_n 0, 0, 0, 0, .null), (2, .bipush 14, 0, 0, 0, .int 14), (1, .irem, 0, 0, 0, .null), (1, .imul, 0, 0, 0, .null), (1, .iadd, 0, 0, 0, .null), (1, .ireturn, 0, 0, 0, .null)]
set_option maxRecDepth 20000 in
theorem oX14_slot_0 : vm_okB 14 mX14_slot 0 bX14_slot_0 = true := by decide +kernel
def bX14_isFree_0 : List vm_J := [(1, .iload_n 1, 0, 0, 0, .null), (3, .invokestatic 659, 229, 1, 0, .null), (1, .istore_n 2, 0, 0, 0, .null), (1, .aload_n 0, 0, 0, 0, .null), (3, .getfield 486, 14, 69, 0, .null), (1, .iload_n 2, 0, 0, 0, .null), (1, .baload, 0, 0, 0, .null), (3, .ifCond .ne 40, 51, 0, 0, .null), (1, .aload_n 0, 0, 0, 0, .null), (3, .getfield 486, 14, 69, 0, .null), (1, .iload_n 2, 0, 0, 0, .null), (1, .iconst 1, 0, 0, 0, .int 1), (1, .iadd, 0, 0, 0, .null), (1, .baload, 0, 0, 0, .null), (3, .ifCond .ne 29, 51, 0, 0, .null), (1, .aload_n 0, 0, 0, 0, .null), (3, .getfield 486, 14, 69, 0, .null), (1, .iload_n 2, 0, 0, 0, .null), (1, .iconst 2, 0, 0, 0, .int 2), (1, .iadd, 0, 0, 0, .null), (1, .baload, 0, 0, 0, .null), (3, .ifCond .ne 18, 51, 0, 0, .null), (1, .aload_n 0, 0, 0, 0, .null), (3, .getfield 486, 14, 69, 0, .null), (1, .iload_n 2, 0, 0, 0, .null), (1, .iconst 3, 0, 0, 0, .int 3), (1, .iadd, 0, 0, 0, .null), (1, .baload, 0, 0, 0, .null), (3, .ifCond .ne 7, 51, 0, 0, .null), (1, .iconst 1, 0, 0, 0, .int 1), (3, .goto 4, 52, 0, 0, .null)]
set_option maxRecDepth 20000 in
theorem oX14_isFree_0 : vm_okB 14 mX14_isFree 0 bX14_isFree_0 = true := by decide +kernel
def bX14_isFree_51 : List vm_J := [(1, .iconst 0, 0, 0, 0, .int 0)]
set_option maxRecDepth 20000 in
theorem oX14_isFree_51 : vm_okB 14 mX14_isFree 51 bX14_isFree_51 = true := by decide +kernel
def bX14_isFree_52 : List vm_J := [(1, .ireturn, 0, 0, 0, .null)]
set_option maxRecDepth 20000 in
theorem oX14_isFree_52 : vm_okB 14 mX14_isFree 52 bX14_isFree_52 = true := by decide +kernel
def bX14_isIn_0 : List vm_J := [(1, .iconst 1, 0, 0, 0, .int 1), (1, .istore_n 2, 0, 0, 0, .null), (1, .iconst 0, 0, 0, 0, .int 0), (1, .istore_n 3, 0, 0, 0, .null)]
set_option maxRecDepth 20000 in
theorem oX14_isIn_0 : vm_okB 14 mX14_isIn 0 bX14_isIn_0 = true := by decide +kernel
def bX14_isIn_4 : List vm_J := [(1, .iload_n 3, 0, 0, 0, .null), (2, .bipush 32, 0, 0, 0, .int 32), (3, .if_icmp .ge 43, 50, 0, 0, .null), (1, .iload_n 2, 0, 0, 0, .null), (3, .ifCond .eq 31, 42, 0, 0, .null), (1, .aload_n 0, 0, 0, 0, .null), (3, .getfield 486, 14, 69, 0, .null), (1, .iload_n 1, 0, 0, 0, .null), (3, .invokestatic 659, 229, 1, 0, .null), (1, .iconst 4, 0, 0, 0, .int 4), (1, .iadd, 0, 0, 0, .null), (1, .iload_n 3, 0, 0, 0, .null), (1, .iadd, 0, 0, 0, .null), (1, .baload, 0, 0, 0, .null), (1, .aload_n 0, 0, 0, 0, .null), (3, .getfield 492, 14, 74, 0, .null), (1, .iconst 2, 0, 0, 0, .int 2), (1, .iload_n 3, 0, 0, 0, .null), (1, .iadd, 0, 0, 0, .null), (1, .baload, 0, 0, 0, .null), (3, .if_icmp .ne 7, 42, 0, 0, .null), (1, .iconst 1, 0, 0, 0, .int 1), (3, .goto 4, 43, 0, 0, .null)]
set_option maxRecDepth 20000 in
theorem oX14_isIn_4 : vm_okB 14 mX14_isIn 4 bX14_isIn_4 = true := by decide +kernel
def bX14_isIn_42 : List vm_J := [(1, .iconst 0, 0, 0, 0, .int 0)]
set_option maxRecDepth 20000 in
theorem oX14_isIn_42 : vm_okB 14 mX14_isIn 42 bX14_isIn_42 = true := by decide +kernel
def bX14_isIn_43 : List vm_J := [(1, .istore_n 2, 0, 0, 0, .null), (3, .iinc 3 1, 0, 0, 0, .int 1), (3, .goto (-43), 4, 0, 0, .null)]
set_option maxRecDepth 20000 in
theorem oX14_isIn_43 : vm_okB 14 mX14_isIn 43 bX14_isIn_43 = true := by decide +kernel
def bX14_isIn_50 : List vm_J := [(1, .iload_n 2, 0, 0, 0, .null), (1, .ireturn, 0, 0, 0, .null)]
set_option maxRecDepth 20000 in
theorem oX14_isIn_50 : vm_okB 14 mX14_isIn 50 bX14_isIn_50 = true := by decide +kernel
def bX14_isRight_0 : List vm_J := [(1, .aload_n 0, 0, 0, 0, .null), (3, .getfield 450, 14, 54, 0, .null), (1, .iload_n 1, 0, 0, 0, .null), (1, .iaload, 0, 0, 0, .null), (1, .iconst 2, 0, 0, 0, .int 2), (3, .if_icmp .ne 46, 53, 0, 0, .null), (1, .aload_n 0, 0, 0, 0, .null), (3, .getfield 492, 14, 74, 0, .null), (2, .bipush 98, 0, 0, 0, .int 98), (1, .aload_n 0, 0, 0, 0, .null), (3, .getfield 468, 14, 61, 0, .null), (1, .iload_n 1, 0, 0, 0, .null), (1, .iaload, 0, 0, 0, .null), (1, .aload_n 0, 0, 0, 0, .null), (3, .getfield 507, 14, 81, 0, .null), (1, .aload_n 0, 0, 0, 0, .null), (3, .getfield 461, 14, 59, 0, .null), (1, .iload_n 1, 0, 0, 0, .null), (1, .aaload, 0, 0, 0, .null), (3, .getfield 13, 12, 2, 0, .null), (3, .invokestatic 176, 155, 5, 0, .null), (1, .aload_n 0, 0, 0, 0, .null), (1, .iload_n 1, 0, 0, 0, .null), (1, .aload_n 0, 0, 0, 0, .null), (3, .getfield 492, 14, 74, 0, .null), (1, .iconst 0, 0, 0, 0, .int 0), (1, .aload_n 0, 0, 0, 0, .null), (3, .getfield 507, 14, 81, 0, .null), (3, .invokevirtual 655, 199, 4, 14, .null), (1, .ireturn, 0, 0, 0, .null)]
set_option maxRecDepth 20000 in
theorem oX14_isRight_0 : vm_okB 14 mX14_isRight 0 bX14_isRight_0 = true := by decide +kernel
def bX14_isRight_53 : List vm_J := [(1, .aload_n 0, 0, 0, 0, .null), (1, .aload_n 0, 0, 0, 0, .null), (3, .getfield 492, 14, 74, 0, .null), (1, .iconst 0, 0, 0, 0, .int 0), (2, .bipush 98, 0, 0, 0, .int 98), (1, .aload_n 0, 0, 0, 0, .null), (3, .getfield 522, 14, 86, 0, .null), (3, .invokevirtual 608, 183, 4, 14, .null), (1, .aload_n 0, 0, 0, 0, .null), (3, .getfield 522, 14, 86, 0, .null), (3, .getfield 113, 13, 2, 0, .null), (3, .ifCond .eq 5, 80, 0, 0, .null), (1, .iconst 0, 0, 0, 0, .int 0), (1, .ireturn, 0, 0, 0, .null)]
set_option maxRecDepth 20000 in
theorem oX14_isRight_53 : vm_okB 14 mX14_isRight 53 bX14_isRight_53 = true := by decide +kernel
def bX14_isRight_80 : List vm_J := [(1, .aload_n 0, 0, 0, 0, .null), (1, .aload_n 0, 0, 0, 0, .null), (3, .getfield 433, 14, 57, 0, .null), (1, .iload_n 1, 0, 0, 0, .null), (1, .aaload, 0, 0, 0, .null), (1, .aload_n 0, 0, 0, 0, .null), (3, .getfield 522, 14, 86, 0, .null), (1, .aload_n 0, 0, 0, 0, .null), (3, .getfield 522, 14, 86, 0, .null), (3, .invokevirtual 404, 158, 3, 14, .null), (1, .aload_n 0, 0, 0, 0, .null), (3, .getfield 522, 14, 86, 0, .null), (3, .getfield 113, 13, 2, 0, .null), (3, .ifCond .eq 5, 110, 0, 0, .null), (1, .iconst 0, 0, 0, 0, .int 0), (1, .ireturn, 0, 0, 0, .null)]
set_option maxRecDepth 20000 in
theorem oX14_isRight_80 : vm_okB 14 mX14_isRight 80 bX14_isRight_80 = true := by decide +kernel
def bX14_isRight_110 : List vm_J := [(1, .aload_n 0, 0, 0, 0, .null), (1, .aload_n 0, 0, 0, 0, .null), (3, .getfield 492, 14, 74, 0, .null), (1, .iconst 0, 0, 0, 0, .int 0), (1, .aload_n 0, 0, 0, 0, .null), (3, .getfield 522, 14, 86, 0, .null), (3, .invokevirtual 651, 226, 3, 14, .null), (1, .iconst 1, 0, 0, 0, .int 1), (1, .istore_n 2, 0, 0, 0, .null), (1, .iconst 0, 0, 0, 0, .int 0), (1, .istore_n 3, 0, 0, 0, .null)]
set_option maxRecDepth 20000 in
theorem oX14_isRight_110 : vm_okB 14 mX14_isRight 110 bX14_isRight_110 = true := by decide +kernel
def bX14_isRight_127 : List vm_J := [(1, .iload_n 3, 0, 0, 0, .null), (2, .bipush 48, 0, 0, 0, .int 48), (3, .if_icmp .ge 37, 167, 0, 0, .null), (1, .iload_n 2, 0, 0, 0, .null), (3, .ifCond .eq 25, 159, 0, 0, .null), (1, .aload_n 0, 0, 0, 0, .null), (3, .getfield 243, 14, 20, 0, .null), (1, .iload_n 3, 0, 0, 0, .null), (1, .baload, 0, 0, 0, .null), (1, .aload_n 0, 0, 0, 0, .null), (3, .getfield 492, 14, 74, 0, .null), (2, .bipush 98, 0, 0, 0, .int 98), (1, .iload_n 3, 0, 0, 0, .null), (1, .iadd, 0, 0, 0, .null), (1, .baload, 0, 0, 0, .null), (3, .if_icmp .ne 7, 159, 0, 0, .null), (1, .iconst 1, 0, 0, 0, .int 1), (3, .goto 4, 160, 0, 0, .null)]
set_option maxRecDepth 20000 in
theorem oX14_isRight_127 : vm_okB 14 mX14_isRight 127 bX14_isRight_127 = true := by decide +kernel
def bX14_isRight_159 : List vm_J := [(1, .iconst 0, 0, 0, 0, .int 0)]
set_option maxRecDepth 20000 in
theorem oX14_isRight_159 : vm_okB 14 mX14_isRight 159 bX14_isRight_159 = true := by decide +kernel
def bX14_isRight_160 : List vm_J := [(1, .istore_n 2, 0, 0, 0, .null), (3, .iinc 3 1, 0, 0, 0, .int 1), (3, .goto (-37), 127, 0, 0, .null)]
set_option maxRecDepth 20000 in
theorem oX14_isRight_160 : vm_okB 14 mX14_isRight 160 bX14_isRight_160 = true := by decide +kernel
def bX14_isRight_167 : List vm_J := [(1, .iload_n 2, 0, 0, 0, .null), (1, .ireturn, 0, 0, 0, .null)]
set_option maxRecDepth 20000 in
theorem oX14_isRight_167 : vm_okB 14 mX14_isRight 167 bX14_isRight_167 = true := by decide +kernel
def bX14_redeem_0 : List vm_J := [(1, .aload_n 0, 0, 0, 0, .null), (3, .invokevirtual 570, 192, 0, 14, .null), (1, .istore_n 1, 0, 0, 0, .null), (1, .aload_n 0, 0, 0, 0, .null), (3, .getfield 662, 14, 73, 0, .null), (3, .ifCond .eq 6, 15, 0, 0, .null), (2, .bipush (-9), 0, 0, 0, .int (-9)), (1, .ireturn, 0, 0, 0, .null)]
set_option maxRecDepth 20000 in
theorem oX14_redeem_0 : vm_okB 14 mX14_redeem 0 bX14_redeem_0 = true := by decide +kernel
def bX14_redeem_15 : List vm_J := [(1, .iload_n 1, 0, 0, 0, .null), (2, .bipush 98, 0, 0, 0, .int 98), (3, .if_icmp .ge 6, 24, 0, 0, .null), (2, .bipush (-2), 0, 0, 0, .int (-2)), (1, .ireturn, 0, 0, 0, .null)]
set_option maxRecDepth 20000 in
theorem oX14_redeem_15 : vm_okB 14 mX14_redeem 15 bX14_redeem_15 = true := by decide +kernel
def bX14_redeem_24 : List vm_J := [(1, .iconst (-1), 0, 0, 0, .int (-1)), (1, .istore_n 2, 0, 0, 0, .null), (1, .aload_n 0, 0, 0, 0, .null), (3, .getfield 584, 14, 63, 0, .null), (1, .iconst 1, 0, 0, 0, .int 1), (1, .isub, 0, 0, 0, .null), (1, .istore_n 3, 0, 0, 0, .null)]
set_option maxRecDepth 20000 in
theorem oX14_redeem_24 : vm_okB 14 mX14_redeem 24 bX14_redeem_24 = true := by decide +kernel
def bX14_redeem_33 : List vm_J := [(1, .iload_n 3, 0, 0, 0, .null), (3, .ifCond .lt 98, 132, 0, 0, .null), (1, .aload_n 0, 0, 0, 0, .null), (3, .getfield 453, 14, 55, 0, .null), (1, .iload_n 3, 0, 0, 0, .null), (1, .baload, 1, 0, 0, .null), (3, .ifCond .eq 20, 63, 0, 0, .null), (1, .aload_n 0, 0, 0, 0, .null), (1, .aload_n 0, 0, 0, 0, .null), (3, .getfield 450, 14, 54, 0, .null), (1, .iload_n 3, 0, 0, 0, .null), (1, .iaload, 0, 0, 0, .null), (3, .invokevirtual 616, 218, 1, 14, .null), (3, .ifCond .eq 7, 63, 0, 0, .null), (1, .iconst 1, 0, 0, 0, .int 1), (3, .goto 4, 64, 0, 0, .null)]
set_option maxRecDepth 20000 in
theorem oX14_redeem_33 : vm_okB 14 mX14_redeem 33 bX14_redeem_33 = true := by decide +kernel
def bX14_redeem_63 : List vm_J := [(1, .iconst 0, 0, 0, 0, .int 0)]
set_option maxRecDepth 20000 in
theorem oX14_redeem_63 : vm_okB 14 mX14_redeem 63 bX14_redeem_63 = true := by decide +kernel
def bX14_redeem_64 : List vm_J := [(2, .istore 4, 0, 0, 0, .null), (1, .iconst 0, 0, 0, 0, .int 0), (2, .istore 5, 0, 0, 0, .null)]
set_option maxRecDepth 20000 in
theorem oX14_redeem_64 : vm_okB 14 mX14_redeem 64 bX14_redeem_64 = true := by decide +kernel
def bX14_redeem_69 : List vm_J := [(2, .iload 5, 0, 0, 0, .null), (2, .bipush 32, 0, 0, 0, .int 32), (3, .if_icmp .ge 46, 119, 0, 0, .null), (2, .iload 4, 0, 0, 0, .null), (3, .ifCond .eq 32, 110, 0, 0, .null), (1, .aload_n 0, 0, 0, 0, .null), (3, .getfield 457, 14, 56, 0, .null), (2, .bipush 32, 0, 0, 0, .int 32), (1, .iload_n 3, 0, 0, 0, .null), (1, .imul, 0, 0, 0, .null), (2, .iload 5, 0, 0, 0, .null), (1, .iadd, 0, 0, 0, .null), (1, .baload, 0, 0, 0, .null), (1, .aload_n 0, 0, 0, 0, .null), (3, .getfield 492, 14, 74, 0, .null), (2, .bipush 66, 0, 0, 0, .int 66), (2, .iload 5, 0, 0, 0, .null), (1, .iadd, 0, 0, 0, .null), (1, .baload, 0, 0, 0, .null), (3, .if_icmp .ne 7, 110, 0, 0, .null), (1, .iconst 1, 0, 0, 0, .int 1), (3, .goto 4, 111, 0, 0, .null)]
set_option maxRecDepth 20000 in
theorem oX14_redeem_69 : vm_okB 14 mX14_redeem 69 bX14_redeem_69 = true := by decide +kernel
def bX14_redeem_110 : List vm_J := [(1, .iconst 0, 0, 0, 0, .int 0)]
set_option maxRecDepth 20000 in
theorem oX14_redeem_110 : vm_okB 14 mX14_redeem 110 bX14_redeem_110 = true := by decide +kernel
def bX14_redeem_111 : List vm_J := [(2, .istore 4, 0, 0, 0, .null), (3, .iinc 5 1, 0, 0, 0, .int 1), (3, .goto (-47), 69, 0, 0, .null)]
set_option maxRecDepth 20000 in
theorem oX14_redeem_111 : vm_okB 14 mX14_redeem 111 bX14_redeem_111 = true := by decide +kernel
def bX14_redeem_119 : List vm_J := [(2, .iload 4, 0, 0, 0, .null), (3, .ifCond .eq 5, 126, 0, 0, .null), (1, .iload_n 3, 0, 0, 0, .null), (1, .istore_n 2, 0, 0, 0, .null)]
set_option maxRecDepth 20000 in
theorem oX14_redeem_119 : vm_okB 14 mX14_redeem 119 bX14_redeem_119 = true := by decide +kernel
def bX14_redeem_126 : List vm_J := [(3, .iinc 3 (-1), 0, 0, 0, .int (-1)), (3, .goto (-96), 33, 0, 0, .null)]
set_option maxRecDepth 20000 in
theorem oX14_redeem_126 : vm_okB 14 mX14_redeem 126 bX14_redeem_126 = true := by decide +kernel
def bX14_redeem_132 : List vm_J := [(1, .iload_n 2, 0, 0, 0, .null), (3, .ifCond .ge 6, 139, 0, 0, .null), (2, .bipush (-3), 0, 0, 0, .int (-3)), (1, .ireturn, 0, 0, 0, .null)]
set_option maxRecDepth 20000 in
theorem oX14_redeem_132 : vm_okB 14 mX14_redeem 132 bX14_redeem_132 = true := by decide +kernel
def bX14_redeem_139 : List vm_J := [(1, .iload_n 1, 0, 0, 0, .null), (2, .bipush 98, 0, 0, 0, .int 98), (1, .aload_n 0, 0, 0, 0, .null), (3, .getfield 468, 14, 61, 0, .null), (1, .iload_n 2, 0, 0, 0, .null), (1, .iaload, 0, 0, 0, .null), (1, .iadd, 0, 0, 0, .null), (3, .if_icmp .eq 6, 155, 0, 0, .null), (2, .bipush (-2), 0, 0, 0, .int (-2)), (1, .ireturn, 0, 0, 0, .null)]
set_option maxRecDepth 20000 in
theorem oX14_redeem_139 : vm_okB 14 mX14_redeem 139 bX14_redeem_139 = true := by decide +kernel
def bX14_redeem_155 : List vm_J := [(1, .aload_n 0, 0, 0, 0, .null), (1, .iload_n 2, 0, 0, 0, .null), (3, .invokevirtual 665, 232, 1, 14, .null), (3, .ifCond .ne 6, 166, 0, 0, .null), (2, .bipush (-4), 0, 0, 0, .int (-4)), (1, .ireturn, 0, 0, 0, .null)]
set_option maxRecDepth 20000 in
theorem oX14_redeem_155 : vm_okB 14 mX14_redeem 155 bX14_redeem_155 = true := by decide +kernel
def bX14_redeem_166 : List vm_J := [(1, .lconst 0, 0, 0, 0, .long 0), (1, .lstore_n 3, 0, 0, 0, .null), (1, .iconst 0, 0, 0, 0, .int 0), (2, .istore 5, 0, 0, 0, .null)]
set_option maxRecDepth 20000 in
theorem oX14_redeem_166 : vm_okB 14 mX14_redeem 166 bX14_redeem_166 = true := by decide +kernel
def bX14_redeem_171 : List vm_J := [(2, .iload 5, 0, 0, 0, .null), (1, .iconst 4, 0, 0, 0, .int 4), (3, .if_icmp .ge 29, 203, 0, 0, .null), (1, .lload_n 3, 0, 0, 0, .null), (2, .bipush 8, 0, 0, 0, .int 8), (1, .lshl, 0, 0, 0, .null), (1, .aload_n 0, 0, 0, 0, .null), (3, .getfield 492, 14, 74, 0, .null), (1, .iconst 2, 0, 0, 0, .int 2), (2, .iload 5, 0, 0, 0, .null), (1, .iadd, 0, 0, 0, .null), (1, .baload, 0, 0, 0, .null), (3, .sipush 255, 0, 0, 0, .int 255), (1, .iand, 0, 0, 0, .null), (1, .i2l, 0, 0, 0, .null), (1, .lor, 0, 0, 0, .null), (1, .lstore_n 3, 0, 0, 0, .null), (3, .iinc 5 1, 0, 0, 0, .int 1), (3, .goto (-29), 171, 0, 0, .null)]
set_option maxRecDepth 20000 in
theorem oX14_redeem_171 : vm_okB 14 mX14_redeem 171 bX14_redeem_171 = true := by decide +kernel
def bX14_redeem_203 : List vm_J := [(1, .lload_n 3, 0, 0, 0, .null), (3, .ldc2_w 668, 0, 0, 0, .long (112)), (1, .lrem, 0, 0, 0, .null), (1, .l2i, 0, 0, 0, .null), (2, .istore 5, 0, 0, 0, .null), (1, .iconst (-1), 0, 0, 0, .int (-1)), (2, .istore 6, 0, 0, 0, .null), (1, .iconst 0, 0, 0, 0, .int 0), (2, .istore 7, 0, 0, 0, .null)]
set_option maxRecDepth 20000 in
theorem oX14_redeem_203 : vm_okB 14 mX14_redeem 203 bX14_redeem_203 = true := by decide +kernel
def bX14_redeem_217 : List vm_J := [(2, .iload 7, 0, 0, 0, .null), (2, .bipush 112, 0, 0, 0, .int 112), (3, .if_icmp .ge 52, 273, 0, 0, .null), (2, .iload 6, 0, 0, 0, .null), (3, .ifCond .ge 47, 273, 0, 0, .null), (2, .iload 5, 0, 0, 0, .null), (2, .iload 7, 0, 0, 0, .null), (1, .iadd, 0, 0, 0, .null), (2, .bipush 112, 0, 0, 0, .int 112), (1, .irem, 0, 0, 0, .null), (2, .istore 8, 0, 0, 0, .null), (1, .aload_n 0, 0, 0, 0, .null), (2, .iload 8, 0, 0, 0, .null), (3, .invokevirtual 670, 230, 1, 14, .null), (3, .ifCond .eq 10, 255, 0, 0, .null), (2, .iload 8, 0, 0, 0, .null), (2, .istore 6, 0, 0, 0, .null), (3, .goto 15, 267, 0, 0, .null)]
set_option maxRecDepth 20000 in
theorem oX14_redeem_217 : vm_okB 14 mX14_redeem 217 bX14_redeem_217 = true := by decide +kernel
def bX14_redeem_255 : List vm_J := [(1, .aload_n 0, 0, 0, 0, .null), (2, .iload 8, 0, 0, 0, .null), (3, .invokevirtual 673, 231, 1, 14, .null), (3, .ifCond .eq 6, 267, 0, 0, .null), (2, .bipush (-5), 0, 0, 0, .int (-5)), (1, .ireturn, 0, 0, 0, .null)]
set_option maxRecDepth 20000 in
theorem oX14_redeem_255 : vm_okB 14 mX14_redeem 255 bX14_redeem_255 = true := by decide +kernel
def bX14_redeem_267 : List vm_J := [(3, .iinc 7 1, 0, 0, 0, .int 1), (3, .goto (-53), 217, 0, 0, .null)]
set_option maxRecDepth 20000 in
theorem oX14_redeem_267 : vm_okB 14 mX14_redeem 267 bX14_redeem_267 = true := by decide +kernel
def bX14_redeem_273 : List vm_J := [(2, .iload 6, 0, 0, 0, .null), (3, .ifCond .ge 6, 281, 0, 0, .null), (2, .bipush (-6), 0, 0, 0, .int (-6)), (1, .ireturn, 0, 0, 0, .null)]
set_option maxRecDepth 20000 in
theorem oX14_redeem_273 : vm_okB 14 mX14_redeem 273 bX14_redeem_273 = true := by decide +kernel
def bX14_redeem_281 : List vm_J := [(1, .aload_n 0, 0, 0, 0, .null), (3, .getfield 489, 14, 71, 0, .null), (3, .ifCond .ne 11, 296, 0, 0, .null), (1, .aload_n 0, 0, 0, 0, .null), (1, .iconst 1, 0, 0, 0, .int 1), (3, .putfield 662, 14, 73, 2, .null), (2, .bipush (-9), 0, 0, 0, .int (-9)), (1, .ireturn, 0, 0, 0, .null)]
set_option maxRecDepth 20000 in
theorem oX14_redeem_281 : vm_okB 14 mX14_redeem 281 bX14_redeem_281 = true := by decide +kernel
def bX14_redeem_296 : List vm_J := [(1, .aload_n 0, 0, 0, 0, .null), (3, .getfield 489, 14, 71, 0, .null), (3, .ifCond .le 13, 313, 0, 0, .null), (1, .aload_n 0, 0, 0, 0, .null), (1, .dup, 0, 0, 0, .null), (3, .getfield 489, 14, 71, 0, .null), (1, .iconst 1, 0, 0, 0, .int 1), (1, .isub, 0, 0, 0, .null), (3, .putfield 489, 14, 71, 0, .null)]
set_option maxRecDepth 20000 in
theorem oX14_redeem_296 : vm_okB 14 mX14_redeem 296 bX14_redeem_296 = true := by decide +kernel
def bX14_redeem_313 : List vm_J := [(1, .aload_n 0, 0, 0, 0, .null), (1, .dup, 0, 0, 0, .null), (3, .getfield 676, 14, 70, 0, .null), (1, .iconst 1, 0, 0, 0, .int 1), (1, .iadd, 0, 0, 0, .null), (3, .putfield 676, 14, 70, 0, .null), (1, .aload_n 0, 0, 0, 0, .null), (1, .dup, 0, 0, 0, .null), (3, .getfield 679, 14, 72, 0, .null), (1, .iconst 1, 0, 0, 0, .int 1), (1, .iadd, 0, 0, 0, .null), (3, .putfield 679, 14, 72, 0, .null), (1, .aload_n 0, 0, 0, 0, .null), (3, .getfield 486, 14, 69, 0, .null), (2, .iload 6, 0, 0, 0, .null), (3, .invokestatic 659, 229, 1, 0, .null), (1, .iconst 3, 0, 0, 0, .int 3), (1, .iadd, 0, 0, 0, .null), (1, .iconst 1, 0, 0, 0, .int 1), (1, .bastore, 0, 0, 0, .null), (1, .iconst 0, 0, 0, 0, .int 0), (2, .istore 7, 0, 0, 0, .null)]
set_option maxRecDepth 20000 in
theorem oX14_redeem_313 : vm_okB 14 mX14_redeem 313 bX14_redeem_313 = true := by decide +kernel
def bX14_redeem_349 : List vm_J := [(2, .iload 7, 0, 0, 0, .null), (2, .bipush 32, 0, 0, 0, .int 32), (3, .if_icmp .ge 33, 386, 0, 0, .null), (1, .aload_n 0, 0, 0, 0, .null), (3, .getfield 486, 14, 69, 0, .null), (2, .iload 6, 0, 0, 0, .null), (3, .invokestatic 659, 229, 1, 0, .null), (1, .iconst 4, 0, 0, 0, .int 4), (1, .iadd, 0, 0, 0, .null), (2, .iload 7, 0, 0, 0, .null), (1, .iadd, 0, 0, 0, .null), (1, .aload_n 0, 0, 0, 0, .null), (3, .getfield 492, 14, 74, 0, .null), (1, .iconst 2, 0, 0, 0, .int 2), (2, .iload 7, 0, 0, 0, .null), (1, .iadd, 0, 0, 0, .null), (1, .baload, 0, 0, 0, .null), (1, .bastore, 0, 0, 0, .null), (3, .iinc 7 1, 0, 0, 0, .int 1), (3, .goto (-34), 349, 0, 0, .null)]
set_option maxRecDepth 20000 in
theorem oX14_redeem_349 : vm_okB 14 mX14_redeem 349 bX14_redeem_349 = true := by decide +kernel
def bX14_redeem_386 : List vm_J := [(1, .iconst 0, 0, 0, 0, .int 0), (1, .ireturn, 0, 0, 0, .null)]
set_option maxRecDepth 20000 in
theorem oX14_redeem_386 : vm_okB 14 mX14_redeem 386 bX14_redeem_386 = true := by decide +kernel
def bX14_cut_0 : List vm_J := [(1, .aload_n 0, 0, 0, 0, .null), (1, .iconst 0, 0, 0, 0, .int 0), (3, .putfield 1, 14, 0, 0, .null), (1, .iload_n 1, 0, 0, 0, .null), (3, .ifCond .lt 17, 23, 0, 0, .null), (1, .iload_n 1, 0, 0, 0, .null), (3, .sipush 1000, 0, 0, 0, .int 1000), (3, .if_icmp .gt 10, 23, 0, 0, .null), (1, .aload_n 0, 0, 0, 0, .null), (3, .getfield 662, 14, 73, 0, .null), (3, .ifCond .eq 5, 25, 0, 0, .null)]
set_option maxRecDepth 20000 in
theorem oX14_cut_0 : vm_okB 14 mX14_cut 0 bX14_cut_0 = true := by decide +kernel
def bX14_cut_23 : List vm_J := [(1, .iconst 0, 0, 0, 0, .int 0), (1, .ireturn, 0, 0, 0, .null)]
set_option maxRecDepth 20000 in
theorem oX14_cut_23 : vm_okB 14 mX14_cut 23 bX14_cut_23 = true := by decide +kernel
def bX14_cut_25 : List vm_J := [(1, .aload_n 0, 0, 0, 0, .null), (1, .iload_n 1, 0, 0, 0, .null), (3, .putfield 489, 14, 71, 0, .null), (1, .iconst 1, 0, 0, 0, .int 1), (1, .ireturn, 0, 0, 0, .null)]
set_option maxRecDepth 20000 in
theorem oX14_cut_25 : vm_okB 14 mX14_cut 25 bX14_cut_25 = true := by decide +kernel
def bX14_spent_0 : List vm_J := [(1, .iconst 0, 0, 0, 0, .int 0), (1, .istore_n 1, 0, 0, 0, .null), (1, .iconst 0, 0, 0, 0, .int 0), (1, .istore_n 2, 0, 0, 0, .null)]
set_option maxRecDepth 20000 in
theorem oX14_spent_0 : vm_okB 14 mX14_spent 0 bX14_spent_0 = true := by decide +kernel
def bX14_spent_4 : List vm_J := [(1, .iload_n 2, 0, 0, 0, .null), (2, .bipush 112, 0, 0, 0, .int 112), (3, .if_icmp .ge 25, 32, 0, 0, .null), (1, .iload_n 1, 0, 0, 0, .null), (1, .aload_n 0, 0, 0, 0, .null), (1, .iload_n 2, 0, 0, 0, .null), (3, .invokevirtual 670, 230, 1, 14, .null), (3, .ifCond .eq 7, 23, 0, 0, .null), (1, .iconst 0, 0, 0, 0, .int 0), (3, .goto 4, 24, 0, 0, .null)]
set_option maxRecDepth 20000 in
theorem oX14_spent_4 : vm_okB 14 mX14_spent 4 bX14_spent_4 = true := by decide +kernel
def bX14_spent_23 : List vm_J := [(1, .iconst 1, 0, 0, 0, .int 1)]
set_option maxRecDepth 20000 in
theorem oX14_spent_23 : vm_okB 14 mX14_spent 23 bX14_spent_23 = true := by decide +kernel
def bX14_spent_24 : List vm_J := [(1, .iadd, 0, 0, 0, .null), (1, .istore_n 1, 0, 0, 0, .null), (3, .iinc 2 1, 0, 0, 0, .int 1), (3, .goto (-25), 4, 0, 0, .null)]
set_option maxRecDepth 20000 in
theorem oX14_spent_24 : vm_okB 14 mX14_spent 24 bX14_spent_24 = true := by decide +kernel
def bX14_spent_32 : List vm_J := [(1, .iload_n 1, 0, 0, 0, .null), (1, .ireturn, 0, 0, 0, .null)]
set_option maxRecDepth 20000 in
theorem oX14_spent_32 : vm_okB 14 mX14_spent 32 bX14_spent_32 = true := by decide +kernel
def bX14_power__0 : List vm_J := [(1, .aload_n 0, 0, 0, 0, .null), (1, .iconst 0, 0, 0, 0, .int 0), (3, .putfield 1, 14, 0, 0, .null), (1, .aload_n 0, 0, 0, 0, .null), (1, .iconst 0, 0, 0, 0, .int 0), (3, .putfield 662, 14, 73, 2, .null), (1, .aload_n 0, 0, 0, 0, .null), (1, .iconst (-1), 0, 0, 0, .int (-1)), (3, .putfield 489, 14, 71, 0, .null), (1, .aload_n 0, 0, 0, 0, .null), (3, .invokevirtual 682, 235, 0, 14, .null), (1, .ireturn, 0, 0, 0, .null)]
set_option maxRecDepth 20000 in
theorem oX14_power__0 : vm_okB 14 mX14_power_ 0 bX14_power__0 = true := by decide +kernel
def bX14_disk_0 : List vm_J := [(1, .aload_n 0, 0, 0, 0, .null), (1, .iconst 0, 0, 0, 0, .int 0), (3, .putfield 1, 14, 0, 0, .null), (1, .iload_n 1, 0, 0, 0, .null), (3, .ifCond .lt 10, 16, 0, 0, .null), (1, .iload_n 1, 0, 0, 0, .null), (3, .sipush 4096, 0, 0, 0, .int 4096), (3, .if_icmp .lt 7, 20, 0, 0, .null)]
set_option maxRecDepth 20000 in
theorem oX14_disk_0 : vm_okB 14 mX14_disk 0 bX14_disk_0 = true := by decide +kernel
def bX14_disk_16 : List vm_J := [(1, .iconst (-1), 0, 0, 0, .int (-1)), (3, .goto 13, 30, 0, 0, .null)]
set_option maxRecDepth 20000 in
theorem oX14_disk_16 : vm_okB 14 mX14_disk 16 bX14_disk_16 = true := by decide +kernel
def bX14_disk_20 : List vm_J := [(1, .aload_n 0, 0, 0, 0, .null), (3, .getfield 486, 14, 69, 0, .null), (1, .iload_n 1, 0, 0, 0, .null), (1, .baload, 0, 0, 0, .null), (3, .sipush 255, 0, 0, 0, .int 255), (1, .iand, 0, 0, 0, .null)]
set_option maxRecDepth 20000 in
theorem oX14_disk_20 : vm_okB 14 mX14_disk 20 bX14_disk_20 = true := by decide +kernel
def bX14_disk_30 : List vm_J := [(1, .ireturn, 0, 0, 0, .null)]
set_option maxRecDepth 20000 in
theorem oX14_disk_30 : vm_okB 14 mX14_disk 30 bX14_disk_30 = true := by decide +kernel
def bX14_count_0 : List vm_J := [(1, .aload_n 0, 0, 0, 0, .null), (1, .iconst 0, 0, 0, 0, .int 0), (3, .putfield 1, 14, 0, 0, .null), (1, .iconst 0, 0, 0, 0, .int 0), (1, .istore_n 2, 0, 0, 0, .null), (1, .iload_n 1, 0, 0, 0, .null), (56, .tableswitch 185 0 9 #[56, 61, 96, 101, 136, 141, 146, 159, 175, 180], 0, 0, 0, .null)]
set_option maxRecDepth 20000 in
theorem oX14_count_0 : vm_okB 14 mX14_count 0 bX14_count_0 = true := by decide +kernel
def bX14_count_64 : List vm_J := [(1, .aload_n 0, 0, 0, 0, .null), (3, .getfield 584, 14, 63, 0, .null), (1, .ireturn, 0, 0, 0, .null)]
set_option maxRecDepth 20000 in
theorem oX14_count_64 : vm_okB 14 mX14_count 64 bX14_count_64 = true := by decide +kernel
def bX14_count_69 : List vm_J := [(1, .iconst 0, 0, 0, 0, .int 0), (1, .istore_n 3, 0, 0, 0, .null)]
set_option maxRecDepth 20000 in
theorem oX14_count_69 : vm_okB 14 mX14_count 69 bX14_count_69 = true := by decide +kernel
def bX14_count_71 : List vm_J := [(1, .iload_n 3, 0, 0, 0, .null), (1, .aload_n 0, 0, 0, 0, .null), (3, .getfield 584, 14, 63, 0, .null), (3, .if_icmp .ge 26, 102, 0, 0, .null), (1, .iload_n 2, 0, 0, 0, .null), (1, .aload_n 0, 0, 0, 0, .null), (3, .getfield 453, 14, 55, 0, .null), (1, .iload_n 3, 0, 0, 0, .null), (1, .baload, 1, 0, 0, .null), (3, .ifCond .eq 7, 93, 0, 0, .null), (1, .iconst 1, 0, 0, 0, .int 1), (3, .goto 4, 94, 0, 0, .null)]
set_option maxRecDepth 20000 in
theorem oX14_count_71 : vm_okB 14 mX14_count 71 bX14_count_71 = true := by decide +kernel
def bX14_count_93 : List vm_J := [(1, .iconst 0, 0, 0, 0, .int 0)]
set_option maxRecDepth 20000 in
theorem oX14_count_93 : vm_okB 14 mX14_count 93 bX14_count_93 = true := by decide +kernel
def bX14_count_94 : List vm_J := [(1, .iadd, 0, 0, 0, .null), (1, .istore_n 2, 0, 0, 0, .null), (3, .iinc 3 1, 0, 0, 0, .int 1), (3, .goto (-28), 71, 0, 0, .null)]
set_option maxRecDepth 20000 in
theorem oX14_count_94 : vm_okB 14 mX14_count 94 bX14_count_94 = true := by decide +kernel
def bX14_count_102 : List vm_J := [(1, .iload_n 2, 0, 0, 0, .null), (1, .ireturn, 0, 0, 0, .null)]
set_option maxRecDepth 20000 in
theorem oX14_count_102 : vm_okB 14 mX14_count 102 bX14_count_102 = true := by decide +kernel
def bX14_count_104 : List vm_J := [(1, .aload_n 0, 0, 0, 0, .null), (3, .getfield 598, 14, 68, 0, .null), (1, .ireturn, 0, 0, 0, .null)]
set_option maxRecDepth 20000 in
theorem oX14_count_104 : vm_okB 14 mX14_count 104 bX14_count_104 = true := by decide +kernel
def bX14_count_109 : List vm_J := [(1, .iconst 0, 0, 0, 0, .int 0), (1, .istore_n 3, 0, 0, 0, .null)]
set_option maxRecDepth 20000 in
theorem oX14_count_109 : vm_okB 14 mX14_count 109 bX14_count_109 = true := by decide +kernel
def bX14_count_111 : List vm_J := [(1, .iload_n 3, 0, 0, 0, .null), (1, .aload_n 0, 0, 0, 0, .null), (3, .getfield 598, 14, 68, 0, .null), (3, .if_icmp .ge 26, 142, 0, 0, .null), (1, .iload_n 2, 0, 0, 0, .null), (1, .aload_n 0, 0, 0, 0, .null), (3, .getfield 477, 14, 65, 0, .null), (1, .iload_n 3, 0, 0, 0, .null), (1, .baload, 1, 0, 0, .null), (3, .ifCond .eq 7, 133, 0, 0, .null), (1, .iconst 1, 0, 0, 0, .int 1), (3, .goto 4, 134, 0, 0, .null)]
set_option maxRecDepth 20000 in
theorem oX14_count_111 : vm_okB 14 mX14_count 111 bX14_count_111 = true := by decide +kernel
def bX14_count_133 : List vm_J := [(1, .iconst 0, 0, 0, 0, .int 0)]
set_option maxRecDepth 20000 in
theorem oX14_count_133 : vm_okB 14 mX14_count 133 bX14_count_133 = true := by decide +kernel
def bX14_count_134 : List vm_J := [(1, .iadd, 0, 0, 0, .null), (1, .istore_n 2, 0, 0, 0, .null), (3, .iinc 3 1, 0, 0, 0, .int 1), (3, .goto (-28), 111, 0, 0, .null)]
set_option maxRecDepth 20000 in
theorem oX14_count_134 : vm_okB 14 mX14_count 134 bX14_count_134 = true := by decide +kernel
def bX14_count_142 : List vm_J := [(1, .iload_n 2, 0, 0, 0, .null), (1, .ireturn, 0, 0, 0, .null)]
set_option maxRecDepth 20000 in
theorem oX14_count_142 : vm_okB 14 mX14_count 142 bX14_count_142 = true := by decide +kernel
def bX14_count_144 : List vm_J := [(1, .aload_n 0, 0, 0, 0, .null), (3, .invokevirtual 682, 235, 0, 14, .null), (1, .ireturn, 0, 0, 0, .null)]
set_option maxRecDepth 20000 in
theorem oX14_count_144 : vm_okB 14 mX14_count 144 bX14_count_144 = true := by decide +kernel
def bX14_count_149 : List vm_J := [(1, .aload_n 0, 0, 0, 0, .null), (3, .getfield 676, 14, 70, 0, .null), (1, .ireturn, 0, 0, 0, .null)]
set_option maxRecDepth 20000 in
theorem oX14_count_149 : vm_okB 14 mX14_count 149 bX14_count_149 = true := by decide +kernel
def bX14_count_154 : List vm_J := [(1, .aload_n 0, 0, 0, 0, .null), (3, .getfield 662, 14, 73, 0, .null), (3, .ifCond .eq 7, 165, 0, 0, .null), (1, .iconst 1, 0, 0, 0, .int 1), (3, .goto 4, 166, 0, 0, .null)]
set_option maxRecDepth 20000 in
theorem oX14_count_154 : vm_okB 14 mX14_count 154 bX14_count_154 = true := by decide +kernel
def bX14_count_165 : List vm_J := [(1, .iconst 0, 0, 0, 0, .int 0)]
set_option maxRecDepth 20000 in
theorem oX14_count_165 : vm_okB 14 mX14_count 165 bX14_count_165 = true := by decide +kernel
def bX14_count_166 : List vm_J := [(1, .ireturn, 0, 0, 0, .null)]
set_option maxRecDepth 20000 in
theorem oX14_count_166 : vm_okB 14 mX14_count 166 bX14_count_166 = true := by decide +kernel
def bX14_count_167 : List vm_J := [(1, .aload_n 0, 0, 0, 0, .null), (3, .getfield 662, 14, 73, 0, .null), (3, .ifCond .eq 7, 178, 0, 0, .null), (1, .iconst 0, 0, 0, 0, .int 0), (3, .goto 7, 182, 0, 0, .null)]
set_option maxRecDepth 20000 in
theorem oX14_count_167 : vm_okB 14 mX14_count 167 bX14_count_167 = true := by decide +kernel
def bX14_count_178 : List vm_J := [(1, .aload_n 0, 0, 0, 0, .null), (3, .getfield 489, 14, 71, 0, .null)]
set_option maxRecDepth 20000 in
theorem oX14_count_178 : vm_okB 14 mX14_count 178 bX14_count_178 = true := by decide +kernel
def bX14_count_182 : List vm_J := [(1, .ireturn, 0, 0, 0, .null)]
set_option maxRecDepth 20000 in
theorem oX14_count_182 : vm_okB 14 mX14_count 182 bX14_count_182 = true := by decide +kernel
def bX14_count_183 : List vm_J := [(1, .aload_n 0, 0, 0, 0, .null), (3, .getfield 540, 14, 75, 0, .null), (1, .ireturn, 0, 0, 0, .null)]
set_option maxRecDepth 20000 in
theorem oX14_count_183 : vm_okB 14 mX14_count 183 bX14_count_183 = true := by decide +kernel
def bX14_count_188 : List vm_J := [(1, .aload_n 0, 0, 0, 0, .null), (3, .getfield 679, 14, 72, 0, .null), (1, .ireturn, 0, 0, 0, .null)]
set_option maxRecDepth 20000 in
theorem oX14_count_188 : vm_okB 14 mX14_count 188 bX14_count_188 = true := by decide +kernel
def bX14_count_193 : List vm_J := [(1, .iconst (-1), 0, 0, 0, .int (-1)), (1, .ireturn, 0, 0, 0, .null)]
set_option maxRecDepth 20000 in
theorem oX14_count_193 : vm_okB 14 mX14_count 193 bX14_count_193 = true := by decide +kernel
