/-! code of VeilMint (written by wip/gen) -/
def bX11_init_0 : List vm_J := [(1, .aload_n 0, 0, 0, 0, .null), (3, .invokespecial 3, 9999, 0, 0, .null), (1, .aload_n 0, 0, 0, 0, .null), (3, .new 9, 9, 0, 0, .null), (1, .dup, 0, 0, 0, .null), (3, .sipush 1200, 0, 0, 0, .int 1200), (3, .invokespecial 11, 84, 1, 0, .null), (3, .putfield 14, 11, 0, 4, .null), (1, .aload_n 0, 0, 0, 0, .null), (3, .new 9, 9, 0, 0, .null), (1, .dup, 0, 0, 0, .null), (3, .sipush 1168, 0, 0, 0, .int 1168), (3, .invokespecial 11, 84, 1, 0, .null), (3, .putfield 18, 11, 1, 4, .null), (1, .aload_n 0, 0, 0, 0, .null), (3, .new 9, 9, 0, 0, .null), (1, .dup, 0, 0, 0, .null), (3, .sipush 1168, 0, 0, 0, .int 1168), (3, .invokespecial 11, 84, 1, 0, .null), (3, .putfield 21, 11, 2, 4, .null), (1, .aload_n 0, 0, 0, 0, .null), (3, .new 24, 4, 0, 0, .null), (1, .dup, 0, 0, 0, .null), (3, .invokespecial 26, 32, 0, 0, .null), (3, .putfield 27, 11, 3, 4, .null), (1, .aload_n 0, 0, 0, 0, .null), (3, .new 31, 7, 0, 0, .null), (1, .dup, 0, 0, 0, .null), (3, .invokespecial 33, 63, 0, 0, .null), (3, .putfield 34, 11, 4, 4, .null), (1, .aload_n 0, 0, 0, 0, .null), (3, .new 38, 1, 0, 0, .null), (1, .dup, 0, 0, 0, .null), (3, .invokespecial 40, 1, 0, 0, .null), (3, .putfield 41, 11, 5, 4, .null), (1, .aload_n 0, 0, 0, 0, .null), (3, .new 45, 10, 0, 0, .null), (1, .dup, 0, 0, 0, .null), (3, .invokespecial 47, 94, 0, 0, .null), (3, .putfield 48, 11, 6, 4, .null), (1, .aload_n 0, 0, 0, 0, .null), (2, .bipush 6, 0, 0, 0, .int 6), (3, .anewarray 52, 5, 0, 0, .null), (3, .putfield 54, 11, 7, 4, .null), (1, .aload_n 0, 0, 0, 0, .null), (2, .bipush 60, 0, 0, 0, .int 60), (3, .anewarray 58, 0, 0, 0, .null), (3, .putfield 60, 11, 8, 4, .null), (1, .aload_n 0, 0, 0, 0, .null), (1, .iconst 0, 0, 0, 0, .int 0), (3, .putfield 64, 11, 9, 0, .null), (1, .aload_n 0, 0, 0, 0, .null), (1, .iconst 0, 0, 0, 0, .int 0), (3, .putfield 68, 11, 10, 0, .null), (1, .aload_n 0, 0, 0, 0, .null), (1, .iconst 0, 0, 0, 0, .int 0), (3, .putfield 71, 11, 11, 0, .null), (1, .return_, 0, 0, 0, .null)]
set_option maxRecDepth 20000 in
theorem oX11_init_0 : vm_okB 11 mX11_init 0 bX11_init_0 = true := by decide +kernel
def bX11_feed_0 : List vm_J := [(1, .aload_n 0, 0, 0, 0, .null), (3, .getfield 14, 11, 0, 0, .null), (2, .bipush 20, 0, 0, 0, .int 20), (3, .invokevirtual 74, 88, 1, 9, .null), (3, .ifCond .ne 5, 14, 0, 0, .null), (1, .iconst (-1), 0, 0, 0, .int (-1)), (1, .ireturn, 0, 0, 0, .null)]
set_option maxRecDepth 20000 in
theorem oX11_feed_0 : vm_okB 11 mX11_feed 0 bX11_feed_0 = true := by decide +kernel
def bX11_feed_14 : List vm_J := [(1, .aload_n 0, 0, 0, 0, .null), (3, .getfield 14, 11, 0, 0, .null), (1, .iload_n 1, 0, 0, 0, .null), (1, .iconst 4, 0, 0, 0, .int 4), (3, .invokevirtual 78, 91, 2, 9, .null), (1, .aload_n 0, 0, 0, 0, .null), (3, .getfield 14, 11, 0, 0, .null), (1, .iload_n 2, 0, 0, 0, .null), (1, .iconst 4, 0, 0, 0, .int 4), (3, .invokevirtual 78, 91, 2, 9, .null), (1, .aload_n 0, 0, 0, 0, .null), (3, .getfield 14, 11, 0, 0, .null), (1, .iload_n 3, 0, 0, 0, .null), (1, .iconst 4, 0, 0, 0, .int 4), (3, .invokevirtual 78, 91, 2, 9, .null), (1, .aload_n 0, 0, 0, 0, .null), (3, .getfield 14, 11, 0, 0, .null), (2, .iload 4, 0, 0, 0, .null), (1, .iconst 4, 0, 0, 0, .int 4), (3, .invokevirtual 78, 91, 2, 9, .null), (1, .aload_n 0, 0, 0, 0, .null), (3, .getfield 14, 11, 0, 0, .null), (2, .iload 5, 0, 0, 0, .null), (1, .iconst 4, 0, 0, 0, .int 4), (3, .invokevirtual 78, 91, 2, 9, .null), (1, .aload_n 0, 0, 0, 0, .null), (3, .getfield 14, 11, 0, 0, .null), (3, .getfield 82, 9, 1, 0, .null), (1, .ireturn, 0, 0, 0, .null)]
set_option maxRecDepth 20000 in
theorem oX11_feed_14 : vm_okB 11 mX11_feed 14 bX11_feed_14 = true := by decide +kernel
def bX11_end_0 : List vm_J := [(1, .iload_n 1, 0, 0, 0, .null), (3, .ifCond .lt 14, 15, 0, 0, .null), (1, .iload_n 1, 0, 0, 0, .null), (1, .aload_n 0, 0, 0, 0, .null), (3, .getfield 14, 11, 0, 0, .null), (3, .getfield 82, 9, 1, 0, .null), (3, .if_icmp .le 5, 17, 0, 0, .null)]
set_option maxRecDepth 20000 in
theorem oX11_end_0 : vm_okB 11 mX11_end 0 bX11_end_0 = true := by decide +kernel
def bX11_end_15 : List vm_J := [(1, .iconst 0, 0, 0, 0, .int 0), (1, .ireturn, 0, 0, 0, .null)]
set_option maxRecDepth 20000 in
theorem oX11_end_15 : vm_okB 11 mX11_end 15 bX11_end_15 = true := by decide +kernel
def bX11_end_17 : List vm_J := [(1, .aload_n 0, 0, 0, 0, .null), (3, .getfield 14, 11, 0, 0, .null), (1, .iload_n 1, 0, 0, 0, .null), (3, .putfield 82, 9, 1, 0, .null), (1, .iconst 1, 0, 0, 0, .int 1), (1, .ireturn, 0, 0, 0, .null)]
set_option maxRecDepth 20000 in
theorem oX11_end_17 : vm_okB 11 mX11_end 17 bX11_end_17 = true := by decide +kernel
def bX11_again_0 : List vm_J := [(1, .iload_n 1, 0, 0, 0, .null), (3, .ifCond .lt 31, 32, 0, 0, .null), (1, .iload_n 2, 0, 0, 0, .null), (3, .ifCond .lt 27, 32, 0, 0, .null), (1, .iload_n 1, 0, 0, 0, .null), (1, .aload_n 0, 0, 0, 0, .null), (3, .getfield 18, 11, 1, 0, .null), (3, .getfield 82, 9, 1, 0, .null), (1, .iload_n 2, 0, 0, 0, .null), (1, .isub, 0, 0, 0, .null), (3, .if_icmp .gt 14, 32, 0, 0, .null), (1, .aload_n 0, 0, 0, 0, .null), (3, .getfield 14, 11, 0, 0, .null), (1, .iload_n 2, 0, 0, 0, .null), (3, .invokevirtual 74, 88, 1, 9, .null), (3, .ifCond .ne 5, 34, 0, 0, .null)]
set_option maxRecDepth 20000 in
theorem oX11_again_0 : vm_okB 11 mX11_again 0 bX11_again_0 = true := by decide +kernel
def bX11_again_32 : List vm_J := [(1, .iconst (-1), 0, 0, 0, .int (-1)), (1, .ireturn, 0, 0, 0, .null)]
set_option maxRecDepth 20000 in
theorem oX11_again_32 : vm_okB 11 mX11_again 32 bX11_again_32 = true := by decide +kernel
def bX11_again_34 : List vm_J := [(1, .aload_n 0, 0, 0, 0, .null), (3, .getfield 14, 11, 0, 0, .null), (1, .aload_n 0, 0, 0, 0, .null), (3, .getfield 18, 11, 1, 0, .null), (3, .getfield 85, 9, 0, 0, .null), (1, .iload_n 1, 0, 0, 0, .null), (1, .iload_n 2, 0, 0, 0, .null), (3, .invokevirtual 89, 93, 3, 9, .null), (1, .aload_n 0, 0, 0, 0, .null), (3, .getfield 14, 11, 0, 0, .null), (3, .getfield 82, 9, 1, 0, .null), (1, .ireturn, 0, 0, 0, .null)]
set_option maxRecDepth 20000 in
theorem oX11_again_34 : vm_okB 11 mX11_again 34 bX11_again_34 = true := by decide +kernel
def bX11_out_0 : List vm_J := [(1, .iload_n 1, 0, 0, 0, .null), (3, .ifCond .lt 30, 31, 0, 0, .null), (1, .iload_n 1, 0, 0, 0, .null), (1, .aload_n 0, 0, 0, 0, .null), (3, .getfield 18, 11, 1, 0, .null), (3, .getfield 82, 9, 1, 0, .null), (3, .if_icmp .ge 19, 31, 0, 0, .null), (1, .aload_n 0, 0, 0, 0, .null), (3, .getfield 18, 11, 1, 0, .null), (3, .getfield 85, 9, 0, 0, .null), (1, .iload_n 1, 0, 0, 0, .null), (1, .baload, 0, 0, 0, .null), (3, .sipush 255, 0, 0, 0, .int 255), (1, .iand, 0, 0, 0, .null), (3, .goto 4, 32, 0, 0, .null)]
set_option maxRecDepth 20000 in
theorem oX11_out_0 : vm_okB 11 mX11_out 0 bX11_out_0 = true := by decide +kernel
def bX11_out_31 : List vm_J := [(1, .iconst (-1), 0, 0, 0, .int (-1))]
set_option maxRecDepth 20000 in
theorem oX11_out_31 : vm_okB 11 mX11_out 31 bX11_out_31 = true := by decide +kernel
def bX11_out_32 : List vm_J := [(1, .ireturn, 0, 0, 0, .null)]
set_option maxRecDepth 20000 in
theorem oX11_out_32 : vm_okB 11 mX11_out 32 bX11_out_32 = true := by decide +kernel
def bX11_outs_0 : List vm_J := [(1, .aload_n 0, 0, 0, 0, .null), (3, .getfield 18, 11, 1, 0, .null), (3, .getfield 82, 9, 1, 0, .null), (1, .ireturn, 0, 0, 0, .null)]
set_option maxRecDepth 20000 in
theorem oX11_outs_0 : vm_okB 11 mX11_outs 0 bX11_outs_0 = true := by decide +kernel
def bX11_key_0 : List vm_J := [(1, .aload_n 0, 0, 0, 0, .null), (3, .invokevirtual 93, 120, 0, 11, .null), (1, .istore_n 2, 0, 0, 0, .null), (1, .iconst 0, 0, 0, 0, .int 0), (1, .istore_n 3, 0, 0, 0, .null), (1, .iload_n 1, 0, 0, 0, .null), (1, .iconst 1, 0, 0, 0, .int 1), (3, .if_icmp .ne 36, 45, 0, 0, .null), (1, .iload_n 2, 0, 0, 0, .null), (2, .bipush 48, 0, 0, 0, .int 48), (3, .if_icmp .ne 25, 40, 0, 0, .null), (1, .aload_n 0, 0, 0, 0, .null), (3, .getfield 34, 11, 4, 0, .null), (1, .aload_n 0, 0, 0, 0, .null), (3, .getfield 14, 11, 0, 0, .null), (3, .getfield 85, 9, 0, 0, .null), (1, .iconst 0, 0, 0, 0, .int 0), (3, .invokevirtual 97, 64, 2, 7, .null), (3, .ifCond .eq 7, 40, 0, 0, .null), (1, .iconst 1, 0, 0, 0, .int 1), (3, .goto 4, 41, 0, 0, .null)]
set_option maxRecDepth 20000 in
theorem oX11_key_0 : vm_okB 11 mX11_key 0 bX11_key_0 = true := by decide +kernel
def bX11_key_40 : List vm_J := [(1, .iconst 0, 0, 0, 0, .int 0)]
set_option maxRecDepth 20000 in
theorem oX11_key_40 : vm_okB 11 mX11_key 40 bX11_key_40 = true := by decide +kernel
def bX11_key_41 : List vm_J := [(1, .istore_n 3, 0, 0, 0, .null), (3, .goto 20, 62, 0, 0, .null)]
set_option maxRecDepth 20000 in
theorem oX11_key_41 : vm_okB 11 mX11_key 41 bX11_key_41 = true := by decide +kernel
def bX11_key_45 : List vm_J := [(1, .iload_n 1, 0, 0, 0, .null), (1, .iconst 2, 0, 0, 0, .int 2), (3, .if_icmp .ne 15, 62, 0, 0, .null), (1, .aload_n 0, 0, 0, 0, .null), (3, .getfield 14, 11, 0, 0, .null), (3, .getfield 85, 9, 0, 0, .null), (1, .iload_n 2, 0, 0, 0, .null), (3, .invokestatic 101, 3, 2, 0, .null), (1, .istore_n 3, 0, 0, 0, .null)]
set_option maxRecDepth 20000 in
theorem oX11_key_45 : vm_okB 11 mX11_key 45 bX11_key_45 = true := by decide +kernel
def bX11_key_62 : List vm_J := [(1, .iload_n 3, 0, 0, 0, .null), (3, .ifCond .ne 6, 69, 0, 0, .null), (2, .bipush (-2), 0, 0, 0, .int (-2)), (1, .ireturn, 0, 0, 0, .null)]
set_option maxRecDepth 20000 in
theorem oX11_key_62 : vm_okB 11 mX11_key 62 bX11_key_62 = true := by decide +kernel
def bX11_key_69 : List vm_J := [(1, .aload_n 0, 0, 0, 0, .null), (3, .getfield 64, 11, 9, 0, .null), (2, .bipush 6, 0, 0, 0, .int 6), (3, .if_icmp .lt 6, 81, 0, 0, .null), (2, .bipush (-6), 0, 0, 0, .int (-6)), (1, .ireturn, 0, 0, 0, .null)]
set_option maxRecDepth 20000 in
theorem oX11_key_69 : vm_okB 11 mX11_key 69 bX11_key_69 = true := by decide +kernel
def bX11_key_81 : List vm_J := [(1, .iload_n 1, 0, 0, 0, .null), (1, .iconst 1, 0, 0, 0, .int 1), (3, .if_icmp .ne 20, 103, 0, 0, .null), (1, .aload_n 0, 0, 0, 0, .null), (3, .getfield 34, 11, 4, 0, .null), (1, .aload_n 0, 0, 0, 0, .null), (3, .getfield 14, 11, 0, 0, .null), (3, .getfield 85, 9, 0, 0, .null), (3, .invokevirtual 104, 66, 1, 7, .null), (3, .goto 14, 114, 0, 0, .null)]
set_option maxRecDepth 20000 in
theorem oX11_key_81 : vm_okB 11 mX11_key 81 bX11_key_81 = true := by decide +kernel
def bX11_key_103 : List vm_J := [(1, .aload_n 0, 0, 0, 0, .null), (3, .getfield 14, 11, 0, 0, .null), (3, .getfield 85, 9, 0, 0, .null), (1, .iload_n 2, 0, 0, 0, .null), (3, .invokestatic 108, 4, 2, 0, .null)]
set_option maxRecDepth 20000 in
theorem oX11_key_103 : vm_okB 11 mX11_key 103 bX11_key_103 = true := by decide +kernel
def bX11_key_114 : List vm_J := [(2, .astore 4, 0, 0, 0, .null), (1, .aload_n 0, 0, 0, 0, .null), (3, .getfield 21, 11, 2, 0, .null), (3, .invokevirtual 111, 89, 0, 9, .null), (1, .aload_n 0, 0, 0, 0, .null), (3, .getfield 21, 11, 2, 0, .null), (2, .aload 4, 0, 0, 0, .null), (3, .getfield 114, 5, 4, 0, .null), (1, .iconst 0, 0, 0, 0, .int 0), (2, .aload 4, 0, 0, 0, .null), (3, .getfield 114, 5, 4, 0, .null), (1, .arraylength, 0, 0, 0, .null), (3, .invokevirtual 89, 93, 3, 9, .null), (1, .iload_n 1, 0, 0, 0, .null), (1, .iconst 2, 0, 0, 0, .int 2), (3, .if_icmp .ne 15, 159, 0, 0, .null), (1, .aload_n 0, 0, 0, 0, .null), (3, .getfield 21, 11, 2, 0, .null), (2, .aload 4, 0, 0, 0, .null), (3, .getfield 117, 5, 3, 0, .null), (3, .invokevirtual 120, 90, 1, 9, .null)]
set_option maxRecDepth 20000 in
theorem oX11_key_114 : vm_okB 11 mX11_key 114 bX11_key_114 = true := by decide +kernel
def bX11_key_159 : List vm_J := [(1, .aload_n 0, 0, 0, 0, .null), (3, .getfield 27, 11, 3, 0, .null), (1, .aload_n 0, 0, 0, 0, .null), (3, .getfield 21, 11, 2, 0, .null), (2, .aload 4, 0, 0, 0, .null), (3, .getfield 123, 5, 6, 0, .null), (3, .invokevirtual 126, 33, 2, 4, .null), (1, .aload_n 0, 0, 0, 0, .null), (3, .getfield 54, 11, 7, 0, .null), (1, .aload_n 0, 0, 0, 0, .null), (3, .getfield 64, 11, 9, 0, .null), (2, .aload 4, 0, 0, 0, .null), (1, .aastore, 5, 0, 0, .null), (1, .aload_n 0, 0, 0, 0, .null), (1, .dup, 0, 0, 0, .null), (3, .getfield 64, 11, 9, 0, .null), (1, .iconst 1, 0, 0, 0, .int 1), (1, .iadd, 0, 0, 0, .null), (3, .putfield 64, 11, 9, 0, .null), (1, .aload_n 0, 0, 0, 0, .null), (3, .getfield 64, 11, 9, 0, .null), (1, .iconst 1, 0, 0, 0, .int 1), (1, .isub, 0, 0, 0, .null), (1, .ireturn, 0, 0, 0, .null)]
set_option maxRecDepth 20000 in
theorem oX11_key_159 : vm_okB 11 mX11_key 159 bX11_key_159 = true := by decide +kernel
def bX11_digest_0 : List vm_J := [(1, .aload_n 0, 0, 0, 0, .null), (3, .getfield 27, 11, 3, 0, .null), (1, .aload_n 0, 0, 0, 0, .null), (3, .getfield 14, 11, 0, 0, .null), (1, .aload_n 0, 0, 0, 0, .null), (3, .getfield 21, 11, 2, 0, .null), (3, .getfield 85, 9, 0, 0, .null), (3, .invokevirtual 126, 33, 2, 4, .null), (1, .aload_n 0, 0, 0, 0, .null), (3, .invokevirtual 93, 120, 0, 11, .null), (1, .pop, 0, 0, 0, .null), (1, .aload_n 0, 0, 0, 0, .null), (1, .aload_n 0, 0, 0, 0, .null), (3, .getfield 21, 11, 2, 0, .null), (3, .getfield 85, 9, 0, 0, .null), (2, .bipush 32, 0, 0, 0, .int 32), (3, .invokevirtual 145, 121, 2, 11, .null), (1, .ireturn, 0, 0, 0, .null)]
set_option maxRecDepth 20000 in
theorem oX11_digest_0 : vm_okB 11 mX11_digest 0 bX11_digest_0 = true := by decide +kernel
def bX11_request_0 : List vm_J := [(1, .aload_n 0, 0, 0, 0, .null), (3, .invokevirtual 93, 120, 0, 11, .null), (1, .istore_n 2, 0, 0, 0, .null), (1, .aload_n 0, 0, 0, 0, .null), (1, .iload_n 1, 0, 0, 0, .null), (3, .invokevirtual 130, 122, 1, 11, .null), (1, .astore_n 3, 0, 0, 0, .null), (1, .aload_n 3, 0, 0, 0, .null), (3, .ifnull 10, 22, 0, 0, .null), (1, .aload_n 3, 0, 0, 0, .null), (3, .getfield 141, 5, 8, 0, .null), (3, .ifCond .ne 6, 25, 0, 0, .null)]
set_option maxRecDepth 20000 in
theorem oX11_request_0 : vm_okB 11 mX11_request 0 bX11_request_0 = true := by decide +kernel
def bX11_request_22 : List vm_J := [(2, .bipush (-3), 0, 0, 0, .int (-3)), (1, .ireturn, 0, 0, 0, .null)]
set_option maxRecDepth 20000 in
theorem oX11_request_22 : vm_okB 11 mX11_request 22 bX11_request_22 = true := by decide +kernel
def bX11_request_25 : List vm_J := [(1, .iload_n 2, 0, 0, 0, .null), (2, .bipush 64, 0, 0, 0, .int 64), (1, .aload_n 3, 0, 0, 0, .null), (3, .getfield 117, 5, 3, 0, .null), (1, .iadd, 0, 0, 0, .null), (1, .aload_n 3, 0, 0, 0, .null), (3, .getfield 152, 5, 1, 0, .null), (1, .iadd, 0, 0, 0, .null), (3, .if_icmp .eq 6, 44, 0, 0, .null), (2, .bipush (-2), 0, 0, 0, .int (-2)), (1, .ireturn, 0, 0, 0, .null)]
set_option maxRecDepth 20000 in
theorem oX11_request_25 : vm_okB 11 mX11_request 25 bX11_request_25 = true := by decide +kernel
def bX11_request_44 : List vm_J := [(1, .aload_n 0, 0, 0, 0, .null), (3, .getfield 68, 11, 10, 0, .null), (2, .bipush 60, 0, 0, 0, .int 60), (3, .if_icmp .lt 6, 56, 0, 0, .null), (2, .bipush (-6), 0, 0, 0, .int (-6)), (1, .ireturn, 0, 0, 0, .null)]
set_option maxRecDepth 20000 in
theorem oX11_request_44 : vm_okB 11 mX11_request 44 bX11_request_44 = true := by decide +kernel
def bX11_request_56 : List vm_J := [(1, .aload_n 0, 0, 0, 0, .null), (3, .getfield 21, 11, 2, 0, .null), (3, .invokevirtual 111, 89, 0, 9, .null), (1, .aload_n 0, 0, 0, 0, .null), (3, .getfield 21, 11, 2, 0, .null), (1, .aload_n 3, 0, 0, 0, .null), (3, .getfield 149, 5, 0, 0, .null), (1, .iconst 2, 0, 0, 0, .int 2), (3, .invokevirtual 78, 91, 2, 9, .null), (1, .aload_n 0, 0, 0, 0, .null), (3, .getfield 21, 11, 2, 0, .null), (1, .aload_n 0, 0, 0, 0, .null), (3, .getfield 14, 11, 0, 0, .null), (3, .getfield 85, 9, 0, 0, .null), (1, .iconst 0, 0, 0, 0, .int 0), (2, .bipush 64, 0, 0, 0, .int 64), (3, .invokevirtual 89, 93, 3, 9, .null), (1, .aload_n 0, 0, 0, 0, .null), (3, .getfield 21, 11, 2, 0, .null), (1, .aload_n 3, 0, 0, 0, .null), (3, .getfield 123, 5, 6, 0, .null), (1, .iconst 0, 0, 0, 0, .int 0), (2, .bipush 32, 0, 0, 0, .int 32), (3, .invokevirtual 89, 93, 3, 9, .null), (1, .aload_n 3, 0, 0, 0, .null), (3, .getfield 149, 5, 0, 0, .null), (1, .iconst 1, 0, 0, 0, .int 1), (3, .if_icmp .ne 29, 140, 0, 0, .null), (1, .aload_n 0, 0, 0, 0, .null), (3, .getfield 34, 11, 4, 0, .null), (1, .aload_n 0, 0, 0, 0, .null), (3, .getfield 21, 11, 2, 0, .null), (3, .getfield 85, 9, 0, 0, .null), (1, .aload_n 0, 0, 0, 0, .null), (3, .getfield 14, 11, 0, 0, .null), (3, .getfield 85, 9, 0, 0, .null), (2, .bipush 64, 0, 0, 0, .int 64), (3, .invokevirtual 155, 67, 3, 7, .null), (3, .goto 27, 164, 0, 0, .null)]
set_option maxRecDepth 20000 in
theorem oX11_request_56 : vm_okB 11 mX11_request 56 bX11_request_56 = true := by decide +kernel
def bX11_request_140 : List vm_J := [(1, .aload_n 0, 0, 0, 0, .null), (3, .getfield 41, 11, 5, 0, .null), (1, .aload_n 3, 0, 0, 0, .null), (1, .aload_n 0, 0, 0, 0, .null), (3, .getfield 21, 11, 2, 0, .null), (3, .getfield 85, 9, 0, 0, .null), (1, .aload_n 0, 0, 0, 0, .null), (3, .getfield 14, 11, 0, 0, .null), (3, .getfield 85, 9, 0, 0, .null), (2, .bipush 64, 0, 0, 0, .int 64), (3, .invokevirtual 159, 6, 4, 1, .null)]
set_option maxRecDepth 20000 in
theorem oX11_request_140 : vm_okB 11 mX11_request 140 bX11_request_140 = true := by decide +kernel
def bX11_request_164 : List vm_J := [(2, .istore 4, 0, 0, 0, .null), (2, .iload 4, 0, 0, 0, .null), (3, .ifCond .ne 6, 174, 0, 0, .null), (2, .bipush (-4), 0, 0, 0, .int (-4)), (1, .ireturn, 0, 0, 0, .null)]
set_option maxRecDepth 20000 in
theorem oX11_request_164 : vm_okB 11 mX11_request 164 bX11_request_164 = true := by decide +kernel
def bX11_request_174 : List vm_J := [(1, .aload_n 3, 0, 0, 0, .null), (3, .getfield 149, 5, 0, 0, .null), (1, .iconst 1, 0, 0, 0, .int 1), (3, .if_icmp .ne 35, 214, 0, 0, .null), (3, .new 58, 0, 0, 0, .null), (1, .dup, 0, 0, 0, .null), (1, .aload_n 3, 0, 0, 0, .null), (1, .aload_n 0, 0, 0, 0, .null), (3, .getfield 21, 11, 2, 0, .null), (3, .getfield 85, 9, 0, 0, .null), (1, .aload_n 0, 0, 0, 0, .null), (3, .getfield 34, 11, 4, 0, .null), (3, .getfield 162, 7, 0, 0, .null), (1, .aload_n 0, 0, 0, 0, .null), (3, .getfield 34, 11, 4, 0, .null), (3, .getfield 165, 7, 1, 0, .null), (3, .invokespecial 168, 0, 4, 0, .null), (3, .goto 32, 243, 0, 0, .null)]
set_option maxRecDepth 20000 in
theorem oX11_request_174 : vm_okB 11 mX11_request 174 bX11_request_174 = true := by decide +kernel
def bX11_request_214 : List vm_J := [(3, .new 58, 0, 0, 0, .null), (1, .dup, 0, 0, 0, .null), (1, .aload_n 3, 0, 0, 0, .null), (1, .aload_n 0, 0, 0, 0, .null), (3, .getfield 21, 11, 2, 0, .null), (3, .getfield 85, 9, 0, 0, .null), (1, .aload_n 0, 0, 0, 0, .null), (3, .getfield 41, 11, 5, 0, .null), (3, .getfield 171, 1, 0, 0, .null), (1, .aload_n 0, 0, 0, 0, .null), (3, .getfield 41, 11, 5, 0, .null), (3, .getfield 172, 1, 1, 0, .null), (3, .invokespecial 168, 0, 4, 0, .null)]
set_option maxRecDepth 20000 in
theorem oX11_request_214 : vm_okB 11 mX11_request 214 bX11_request_214 = true := by decide +kernel
def bX11_request_243 : List vm_J := [(2, .astore 5, 0, 0, 0, .null), (1, .aload_n 0, 0, 0, 0, .null), (3, .getfield 60, 11, 8, 0, .null), (1, .aload_n 0, 0, 0, 0, .null), (3, .getfield 68, 11, 10, 0, .null), (2, .aload 5, 0, 0, 0, .null), (1, .aastore, 0, 0, 0, .null), (1, .aload_n 0, 0, 0, 0, .null), (1, .dup, 0, 0, 0, .null), (3, .getfield 68, 11, 10, 0, .null), (1, .iconst 1, 0, 0, 0, .int 1), (1, .iadd, 0, 0, 0, .null), (3, .putfield 68, 11, 10, 0, .null), (1, .aload_n 0, 0, 0, 0, .null), (3, .getfield 18, 11, 1, 0, .null), (3, .invokevirtual 111, 89, 0, 9, .null), (1, .aload_n 0, 0, 0, 0, .null), (3, .getfield 18, 11, 1, 0, .null), (1, .aload_n 3, 0, 0, 0, .null), (3, .getfield 149, 5, 0, 0, .null), (1, .iconst 2, 0, 0, 0, .int 2), (3, .invokevirtual 78, 91, 2, 9, .null), (1, .aload_n 0, 0, 0, 0, .null), (3, .getfield 18, 11, 1, 0, .null), (1, .aload_n 3, 0, 0, 0, .null), (3, .getfield 123, 5, 6, 0, .null), (2, .bipush 31, 0, 0, 0, .int 31), (1, .baload, 0, 0, 0, .null), (3, .invokevirtual 120, 90, 1, 9, .null), (1, .aload_n 0, 0, 0, 0, .null), (3, .getfield 18, 11, 1, 0, .null), (2, .aload 5, 0, 0, 0, .null), (3, .getfield 173, 0, 2, 0, .null), (1, .iconst 0, 0, 0, 0, .int 0), (2, .aload 5, 0, 0, 0, .null), (3, .getfield 173, 0, 2, 0, .null), (1, .arraylength, 0, 0, 0, .null), (3, .invokevirtual 89, 93, 3, 9, .null), (1, .aload_n 0, 0, 0, 0, .null), (3, .getfield 68, 11, 10, 0, .null), (1, .iconst 1, 0, 0, 0, .int 1), (1, .isub, 0, 0, 0, .null), (1, .ireturn, 0, 0, 0, .null)]
set_option maxRecDepth 20000 in
theorem oX11_request_243 : vm_okB 11 mX11_request 243 bX11_request_243 = true := by decide +kernel
def bX11_issue_0 : List vm_J := [(1, .aload_n 0, 0, 0, 0, .null), (3, .invokevirtual 93, 120, 0, 11, .null), (1, .istore_n 1, 0, 0, 0, .null), (1, .aload_n 0, 0, 0, 0, .null), (1, .iload_n 1, 0, 0, 0, .null), (1, .iconst 3, 0, 0, 0, .int 3), (3, .invokevirtual 174, 123, 2, 11, .null), (1, .istore_n 2, 0, 0, 0, .null), (1, .iload_n 2, 0, 0, 0, .null), (1, .iconst (-1), 0, 0, 0, .int (-1)), (3, .if_icmp .ne 6, 20, 0, 0, .null), (2, .bipush (-2), 0, 0, 0, .int (-2)), (1, .ireturn, 0, 0, 0, .null)]
set_option maxRecDepth 20000 in
theorem oX11_issue_0 : vm_okB 11 mX11_issue 0 bX11_issue_0 = true := by decide +kernel
def bX11_issue_20 : List vm_J := [(1, .aload_n 0, 0, 0, 0, .null), (1, .iload_n 2, 0, 0, 0, .null), (3, .invokevirtual 178, 124, 1, 11, .null), (1, .astore_n 3, 0, 0, 0, .null), (1, .aload_n 3, 0, 0, 0, .null), (3, .ifnonnull 6, 33, 0, 0, .null), (2, .bipush (-3), 0, 0, 0, .int (-3)), (1, .ireturn, 0, 0, 0, .null)]
set_option maxRecDepth 20000 in
theorem oX11_issue_20 : vm_okB 11 mX11_issue 20 bX11_issue_20 = true := by decide +kernel
def bX11_issue_33 : List vm_J := [(1, .iload_n 1, 0, 0, 0, .null), (1, .iconst 3, 0, 0, 0, .int 3), (1, .iload_n 2, 0, 0, 0, .null), (1, .iconst 1, 0, 0, 0, .int 1), (3, .if_icmp .ne 8, 45, 0, 0, .null), (2, .bipush 97, 0, 0, 0, .int 97), (3, .goto 7, 49, 0, 0, .null)]
set_option maxRecDepth 20000 in
theorem oX11_issue_33 : vm_okB 11 mX11_issue 33 bX11_issue_33 = true := by decide +kernel
def bX11_issue_45 : List vm_J := [(1, .aload_n 3, 0, 0, 0, .null), (3, .getfield 152, 5, 1, 0, .null)]
set_option maxRecDepth 20000 in
theorem oX11_issue_45 : vm_okB 11 mX11_issue 45 bX11_issue_45 = true := by decide +kernel
def bX11_issue_49 : List vm_J := [(1, .iadd, 0, 0, 0, .null), (3, .if_icmp .eq 6, 56, 0, 0, .null), (2, .bipush (-2), 0, 0, 0, .int (-2)), (1, .ireturn, 0, 0, 0, .null)]
set_option maxRecDepth 20000 in
theorem oX11_issue_49 : vm_okB 11 mX11_issue 49 bX11_issue_49 = true := by decide +kernel
def bX11_issue_56 : List vm_J := [(1, .iload_n 2, 0, 0, 0, .null), (1, .iconst 1, 0, 0, 0, .int 1), (3, .if_icmp .ne 52, 110, 0, 0, .null), (1, .aload_n 0, 0, 0, 0, .null), (3, .getfield 34, 11, 4, 0, .null), (1, .aload_n 3, 0, 0, 0, .null), (1, .aload_n 0, 0, 0, 0, .null), (3, .getfield 14, 11, 0, 0, .null), (3, .getfield 85, 9, 0, 0, .null), (1, .iconst 1, 0, 0, 0, .int 1), (3, .invokevirtual 181, 68, 3, 7, .null), (3, .ifCond .eq 30, 107, 0, 0, .null), (1, .aload_n 0, 0, 0, 0, .null), (1, .aload_n 0, 0, 0, 0, .null), (3, .getfield 34, 11, 4, 0, .null), (3, .getfield 185, 7, 3, 0, .null), (3, .getfield 85, 9, 0, 0, .null), (1, .aload_n 0, 0, 0, 0, .null), (3, .getfield 34, 11, 4, 0, .null), (3, .getfield 185, 7, 3, 0, .null), (3, .getfield 82, 9, 1, 0, .null), (3, .invokevirtual 145, 121, 2, 11, .null), (3, .goto 5, 109, 0, 0, .null)]
set_option maxRecDepth 20000 in
theorem oX11_issue_56 : vm_okB 11 mX11_issue 56 bX11_issue_56 = true := by decide +kernel
def bX11_issue_107 : List vm_J := [(2, .bipush (-4), 0, 0, 0, .int (-4))]
set_option maxRecDepth 20000 in
theorem oX11_issue_107 : vm_okB 11 mX11_issue 107 bX11_issue_107 = true := by decide +kernel
def bX11_issue_109 : List vm_J := [(1, .ireturn, 0, 0, 0, .null)]
set_option maxRecDepth 20000 in
theorem oX11_issue_109 : vm_okB 11 mX11_issue 109 bX11_issue_109 = true := by decide +kernel
def bX11_issue_110 : List vm_J := [(1, .aload_n 0, 0, 0, 0, .null), (3, .getfield 41, 11, 5, 0, .null), (1, .aload_n 3, 0, 0, 0, .null), (1, .aload_n 0, 0, 0, 0, .null), (3, .getfield 14, 11, 0, 0, .null), (3, .getfield 85, 9, 0, 0, .null), (1, .iconst 3, 0, 0, 0, .int 3), (3, .invokevirtual 188, 7, 3, 1, .null), (3, .ifCond .eq 21, 147, 0, 0, .null), (1, .aload_n 0, 0, 0, 0, .null), (1, .aload_n 0, 0, 0, 0, .null), (3, .getfield 41, 11, 5, 0, .null), (3, .getfield 191, 1, 2, 0, .null), (1, .aload_n 3, 0, 0, 0, .null), (3, .getfield 152, 5, 1, 0, .null), (3, .invokevirtual 145, 121, 2, 11, .null), (3, .goto 5, 149, 0, 0, .null)]
set_option maxRecDepth 20000 in
theorem oX11_issue_110 : vm_okB 11 mX11_issue 110 bX11_issue_110 = true := by decide +kernel
def bX11_issue_147 : List vm_J := [(2, .bipush (-4), 0, 0, 0, .int (-4))]
set_option maxRecDepth 20000 in
theorem oX11_issue_147 : vm_okB 11 mX11_issue 147 bX11_issue_147 = true := by decide +kernel
def bX11_issue_149 : List vm_J := [(1, .ireturn, 0, 0, 0, .null)]
set_option maxRecDepth 20000 in
theorem oX11_issue_149 : vm_okB 11 mX11_issue 149 bX11_issue_149 = true := by decide +kernel
def bX11_issueMany_0 : List vm_J := [(1, .aload_n 0, 0, 0, 0, .null), (3, .invokevirtual 93, 120, 0, 11, .null), (1, .istore_n 2, 0, 0, 0, .null), (1, .aload_n 0, 0, 0, 0, .null), (1, .iload_n 2, 0, 0, 0, .null), (1, .iconst 3, 0, 0, 0, .int 3), (3, .invokevirtual 174, 123, 2, 11, .null), (1, .iconst 1, 0, 0, 0, .int 1), (3, .if_icmp .ne 14, 26, 0, 0, .null), (1, .iload_n 1, 0, 0, 0, .null), (1, .iconst 1, 0, 0, 0, .int 1), (3, .if_icmp .lt 9, 26, 0, 0, .null), (1, .iload_n 1, 0, 0, 0, .null), (2, .bipush 8, 0, 0, 0, .int 8), (3, .if_icmp .le 6, 29, 0, 0, .null)]
set_option maxRecDepth 20000 in
theorem oX11_issueMany_0 : vm_okB 11 mX11_issueMany 0 bX11_issueMany_0 = true := by decide +kernel
def bX11_issueMany_26 : List vm_J := [(2, .bipush (-2), 0, 0, 0, .int (-2)), (1, .ireturn, 0, 0, 0, .null)]
set_option maxRecDepth 20000 in
theorem oX11_issueMany_26 : vm_okB 11 mX11_issueMany 26 bX11_issueMany_26 = true := by decide +kernel
def bX11_issueMany_29 : List vm_J := [(1, .aload_n 0, 0, 0, 0, .null), (1, .iconst 1, 0, 0, 0, .int 1), (3, .invokevirtual 178, 124, 1, 11, .null), (1, .astore_n 3, 0, 0, 0, .null), (1, .aload_n 3, 0, 0, 0, .null), (3, .ifnonnull 6, 42, 0, 0, .null), (2, .bipush (-3), 0, 0, 0, .int (-3)), (1, .ireturn, 0, 0, 0, .null)]
set_option maxRecDepth 20000 in
theorem oX11_issueMany_29 : vm_okB 11 mX11_issueMany 29 bX11_issueMany_29 = true := by decide +kernel
def bX11_issueMany_42 : List vm_J := [(1, .iload_n 2, 0, 0, 0, .null), (1, .iconst 3, 0, 0, 0, .int 3), (1, .iload_n 1, 0, 0, 0, .null), (2, .bipush 49, 0, 0, 0, .int 49), (1, .imul, 0, 0, 0, .null), (1, .iadd, 0, 0, 0, .null), (2, .bipush 48, 0, 0, 0, .int 48), (1, .iadd, 0, 0, 0, .null), (3, .if_icmp .eq 6, 58, 0, 0, .null), (2, .bipush (-2), 0, 0, 0, .int (-2)), (1, .ireturn, 0, 0, 0, .null)]
set_option maxRecDepth 20000 in
theorem oX11_issueMany_42 : vm_okB 11 mX11_issueMany 42 bX11_issueMany_42 = true := by decide +kernel
def bX11_issueMany_58 : List vm_J := [(1, .aload_n 0, 0, 0, 0, .null), (3, .getfield 34, 11, 4, 0, .null), (1, .aload_n 3, 0, 0, 0, .null), (1, .aload_n 0, 0, 0, 0, .null), (3, .getfield 14, 11, 0, 0, .null), (3, .getfield 85, 9, 0, 0, .null), (1, .iload_n 1, 0, 0, 0, .null), (3, .invokevirtual 181, 68, 3, 7, .null), (3, .ifCond .eq 30, 104, 0, 0, .null), (1, .aload_n 0, 0, 0, 0, .null), (1, .aload_n 0, 0, 0, 0, .null), (3, .getfield 34, 11, 4, 0, .null), (3, .getfield 185, 7, 3, 0, .null), (3, .getfield 85, 9, 0, 0, .null), (1, .aload_n 0, 0, 0, 0, .null), (3, .getfield 34, 11, 4, 0, .null), (3, .getfield 185, 7, 3, 0, .null), (3, .getfield 82, 9, 1, 0, .null), (3, .invokevirtual 145, 121, 2, 11, .null), (3, .goto 5, 106, 0, 0, .null)]
set_option maxRecDepth 20000 in
theorem oX11_issueMany_58 : vm_okB 11 mX11_issueMany 58 bX11_issueMany_58 = true := by decide +kernel
def bX11_issueMany_104 : List vm_J := [(2, .bipush (-4), 0, 0, 0, .int (-4))]
set_option maxRecDepth 20000 in
theorem oX11_issueMany_104 : vm_okB 11 mX11_issueMany 104 bX11_issueMany_104 = true := by decide +kernel
def bX11_issueMany_106 : List vm_J := [(1, .ireturn, 0, 0, 0, .null)]
set_option maxRecDepth 20000 in
theorem oX11_issueMany_106 : vm_okB 11 mX11_issueMany 106 bX11_issueMany_106 = true := by decide +kernel
def bX11_redeem_0 : List vm_J := [(1, .aload_n 0, 0, 0, 0, .null), (3, .invokevirtual 93, 120, 0, 11, .null), (1, .istore_n 1, 0, 0, 0, .null), (1, .aload_n 0, 0, 0, 0, .null), (3, .getfield 48, 11, 6, 0, .null), (3, .getfield 223, 10, 1, 0, .null), (3, .ifCond .eq 6, 18, 0, 0, .null), (2, .bipush (-9), 0, 0, 0, .int (-9)), (1, .ireturn, 0, 0, 0, .null)]
set_option maxRecDepth 20000 in
theorem oX11_redeem_0 : vm_okB 11 mX11_redeem 0 bX11_redeem_0 = true := by decide +kernel
def bX11_redeem_18 : List vm_J := [(1, .aload_n 0, 0, 0, 0, .null), (1, .iload_n 1, 0, 0, 0, .null), (2, .bipush 98, 0, 0, 0, .int 98), (3, .invokevirtual 174, 123, 2, 11, .null), (1, .istore_n 2, 0, 0, 0, .null), (1, .iload_n 1, 0, 0, 0, .null), (2, .bipush 98, 0, 0, 0, .int 98), (3, .if_icmp .ge 6, 35, 0, 0, .null), (2, .bipush (-2), 0, 0, 0, .int (-2)), (1, .ireturn, 0, 0, 0, .null)]
set_option maxRecDepth 20000 in
theorem oX11_redeem_18 : vm_okB 11 mX11_redeem 18 bX11_redeem_18 = true := by decide +kernel
def bX11_redeem_35 : List vm_J := [(1, .aload_n 0, 0, 0, 0, .null), (1, .iload_n 2, 0, 0, 0, .null), (3, .invokevirtual 226, 125, 1, 11, .null), (1, .astore_n 3, 0, 0, 0, .null), (1, .aload_n 3, 0, 0, 0, .null), (3, .ifnonnull 6, 48, 0, 0, .null), (2, .bipush (-3), 0, 0, 0, .int (-3)), (1, .ireturn, 0, 0, 0, .null)]
set_option maxRecDepth 20000 in
theorem oX11_redeem_35 : vm_okB 11 mX11_redeem 35 bX11_redeem_35 = true := by decide +kernel
def bX11_redeem_48 : List vm_J := [(1, .iload_n 1, 0, 0, 0, .null), (2, .bipush 98, 0, 0, 0, .int 98), (1, .aload_n 3, 0, 0, 0, .null), (3, .getfield 152, 5, 1, 0, .null), (1, .iadd, 0, 0, 0, .null), (3, .if_icmp .eq 6, 62, 0, 0, .null), (2, .bipush (-2), 0, 0, 0, .int (-2)), (1, .ireturn, 0, 0, 0, .null)]
set_option maxRecDepth 20000 in
theorem oX11_redeem_48 : vm_okB 11 mX11_redeem 48 bX11_redeem_48 = true := by decide +kernel
def bX11_redeem_62 : List vm_J := [(1, .iload_n 2, 0, 0, 0, .null), (1, .iconst 1, 0, 0, 0, .int 1), (3, .if_icmp .ne 21, 85, 0, 0, .null), (1, .aload_n 0, 0, 0, 0, .null), (3, .getfield 34, 11, 4, 0, .null), (1, .aload_n 3, 0, 0, 0, .null), (1, .aload_n 0, 0, 0, 0, .null), (3, .getfield 14, 11, 0, 0, .null), (3, .getfield 85, 9, 0, 0, .null), (3, .invokevirtual 229, 75, 2, 7, .null), (3, .goto 18, 100, 0, 0, .null)]
set_option maxRecDepth 20000 in
theorem oX11_redeem_62 : vm_okB 11 mX11_redeem 62 bX11_redeem_62 = true := by decide +kernel
def bX11_redeem_85 : List vm_J := [(1, .aload_n 0, 0, 0, 0, .null), (3, .getfield 41, 11, 5, 0, .null), (1, .aload_n 3, 0, 0, 0, .null), (1, .aload_n 0, 0, 0, 0, .null), (3, .getfield 14, 11, 0, 0, .null), (3, .getfield 85, 9, 0, 0, .null), (3, .invokevirtual 233, 9, 2, 1, .null)]
set_option maxRecDepth 20000 in
theorem oX11_redeem_85 : vm_okB 11 mX11_redeem 85 bX11_redeem_85 = true := by decide +kernel
def bX11_redeem_100 : List vm_J := [(2, .istore 4, 0, 0, 0, .null), (2, .iload 4, 0, 0, 0, .null), (3, .ifCond .ne 6, 110, 0, 0, .null), (2, .bipush (-4), 0, 0, 0, .int (-4)), (1, .ireturn, 0, 0, 0, .null)]
set_option maxRecDepth 20000 in
theorem oX11_redeem_100 : vm_okB 11 mX11_redeem 100 bX11_redeem_100 = true := by decide +kernel
def bX11_redeem_110 : List vm_J := [(1, .aload_n 0, 0, 0, 0, .null), (3, .getfield 48, 11, 6, 0, .null), (1, .aload_n 0, 0, 0, 0, .null), (3, .getfield 14, 11, 0, 0, .null), (3, .getfield 85, 9, 0, 0, .null), (1, .iconst 2, 0, 0, 0, .int 2), (3, .invokevirtual 236, 99, 2, 10, .null), (2, .istore 5, 0, 0, 0, .null), (2, .iload 5, 0, 0, 0, .null), (3, .ifCond .ne 13, 142, 0, 0, .null), (1, .aload_n 0, 0, 0, 0, .null), (1, .dup, 0, 0, 0, .null), (3, .getfield 71, 11, 11, 0, .null), (1, .iconst 1, 0, 0, 0, .int 1), (1, .iadd, 0, 0, 0, .null), (3, .putfield 71, 11, 11, 0, .null)]
set_option maxRecDepth 20000 in
theorem oX11_redeem_110 : vm_okB 11 mX11_redeem 110 bX11_redeem_110 = true := by decide +kernel
def bX11_redeem_142 : List vm_J := [(2, .iload 5, 0, 0, 0, .null), (1, .ireturn, 0, 0, 0, .null)]
set_option maxRecDepth 20000 in
theorem oX11_redeem_142 : vm_okB 11 mX11_redeem 142 bX11_redeem_142 = true := by decide +kernel
def bX11_cut_0 : List vm_J := [(1, .iload_n 1, 0, 0, 0, .null), (3, .ifCond .lt 20, 21, 0, 0, .null), (1, .iload_n 1, 0, 0, 0, .null), (3, .sipush 1000, 0, 0, 0, .int 1000), (3, .if_icmp .gt 13, 21, 0, 0, .null), (1, .aload_n 0, 0, 0, 0, .null), (3, .getfield 48, 11, 6, 0, .null), (3, .getfield 223, 10, 1, 0, .null), (3, .ifCond .eq 5, 23, 0, 0, .null)]
set_option maxRecDepth 20000 in
theorem oX11_cut_0 : vm_okB 11 mX11_cut 0 bX11_cut_0 = true := by decide +kernel
def bX11_cut_21 : List vm_J := [(1, .iconst 0, 0, 0, 0, .int 0), (1, .ireturn, 0, 0, 0, .null)]
set_option maxRecDepth 20000 in
theorem oX11_cut_21 : vm_okB 11 mX11_cut 21 bX11_cut_21 = true := by decide +kernel
def bX11_cut_23 : List vm_J := [(1, .aload_n 0, 0, 0, 0, .null), (3, .getfield 48, 11, 6, 0, .null), (1, .iload_n 1, 0, 0, 0, .null), (3, .putfield 239, 10, 2, 0, .null), (1, .iconst 1, 0, 0, 0, .int 1), (1, .ireturn, 0, 0, 0, .null)]
set_option maxRecDepth 20000 in
theorem oX11_cut_23 : vm_okB 11 mX11_cut 23 bX11_cut_23 = true := by decide +kernel
def bX11_power_0 : List vm_J := [(1, .aload_n 0, 0, 0, 0, .null), (3, .getfield 48, 11, 6, 0, .null), (1, .iconst 0, 0, 0, 0, .int 0), (3, .putfield 223, 10, 1, 2, .null), (1, .aload_n 0, 0, 0, 0, .null), (3, .getfield 48, 11, 6, 0, .null), (1, .iconst (-1), 0, 0, 0, .int (-1)), (3, .putfield 239, 10, 2, 0, .null), (1, .aload_n 0, 0, 0, 0, .null), (3, .getfield 48, 11, 6, 0, .null), (3, .invokevirtual 242, 97, 0, 10, .null), (1, .ireturn, 0, 0, 0, .null)]
set_option maxRecDepth 20000 in
theorem oX11_power_0 : vm_okB 11 mX11_power 0 bX11_power_0 = true := by decide +kernel
def bX11_disk_0 : List vm_J := [(1, .iload_n 1, 0, 0, 0, .null), (3, .ifCond .lt 31, 32, 0, 0, .null), (1, .iload_n 1, 0, 0, 0, .null), (1, .aload_n 0, 0, 0, 0, .null), (3, .getfield 48, 11, 6, 0, .null), (3, .getfield 245, 10, 0, 0, .null), (1, .arraylength, 0, 0, 0, .null), (3, .if_icmp .ge 19, 32, 0, 0, .null), (1, .aload_n 0, 0, 0, 0, .null), (3, .getfield 48, 11, 6, 0, .null), (3, .getfield 245, 10, 0, 0, .null), (1, .iload_n 1, 0, 0, 0, .null), (1, .baload, 0, 0, 0, .null), (3, .sipush 255, 0, 0, 0, .int 255), (1, .iand, 0, 0, 0, .null), (3, .goto 4, 33, 0, 0, .null)]
set_option maxRecDepth 20000 in
theorem oX11_disk_0 : vm_okB 11 mX11_disk 0 bX11_disk_0 = true := by decide +kernel
def bX11_disk_32 : List vm_J := [(1, .iconst (-1), 0, 0, 0, .int (-1))]
set_option maxRecDepth 20000 in
theorem oX11_disk_32 : vm_okB 11 mX11_disk 32 bX11_disk_32 = true := by decide +kernel
def bX11_disk_33 : List vm_J := [(1, .ireturn, 0, 0, 0, .null)]
set_option maxRecDepth 20000 in
theorem oX11_disk_33 : vm_okB 11 mX11_disk 33 bX11_disk_33 = true := by decide +kernel
def bX11_count_0 : List vm_J := [(1, .iload_n 1, 0, 0, 0, .null), (55, .tableswitch 128 0 9 #[55, 60, 65, 70, 75, 83, 91, 107, 115, 123], 0, 0, 0, .null)]
set_option maxRecDepth 20000 in
theorem oX11_count_0 : vm_okB 11 mX11_count 0 bX11_count_0 = true := by decide +kernel
def bX11_count_56 : List vm_J := [(1, .aload_n 0, 0, 0, 0, .null), (3, .getfield 64, 11, 9, 0, .null), (1, .ireturn, 0, 0, 0, .null)]
set_option maxRecDepth 20000 in
theorem oX11_count_56 : vm_okB 11 mX11_count 56 bX11_count_56 = true := by decide +kernel
def bX11_count_61 : List vm_J := [(1, .aload_n 0, 0, 0, 0, .null), (3, .invokevirtual 246, 126, 0, 11, .null), (1, .ireturn, 0, 0, 0, .null)]
set_option maxRecDepth 20000 in
theorem oX11_count_61 : vm_okB 11 mX11_count 61 bX11_count_61 = true := by decide +kernel
def bX11_count_66 : List vm_J := [(1, .aload_n 0, 0, 0, 0, .null), (3, .getfield 68, 11, 10, 0, .null), (1, .ireturn, 0, 0, 0, .null)]
set_option maxRecDepth 20000 in
theorem oX11_count_66 : vm_okB 11 mX11_count 66 bX11_count_66 = true := by decide +kernel
def bX11_count_71 : List vm_J := [(1, .aload_n 0, 0, 0, 0, .null), (3, .invokevirtual 249, 127, 0, 11, .null), (1, .ireturn, 0, 0, 0, .null)]
set_option maxRecDepth 20000 in
theorem oX11_count_71 : vm_okB 11 mX11_count 71 bX11_count_71 = true := by decide +kernel
def bX11_count_76 : List vm_J := [(1, .aload_n 0, 0, 0, 0, .null), (3, .getfield 48, 11, 6, 0, .null), (3, .invokevirtual 242, 97, 0, 10, .null), (1, .ireturn, 0, 0, 0, .null)]
set_option maxRecDepth 20000 in
theorem oX11_count_76 : vm_okB 11 mX11_count 76 bX11_count_76 = true := by decide +kernel
def bX11_count_84 : List vm_J := [(1, .aload_n 0, 0, 0, 0, .null), (3, .getfield 48, 11, 6, 0, .null), (3, .getfield 252, 10, 3, 0, .null), (1, .ireturn, 0, 0, 0, .null)]
set_option maxRecDepth 20000 in
theorem oX11_count_84 : vm_okB 11 mX11_count 84 bX11_count_84 = true := by decide +kernel
def bX11_count_92 : List vm_J := [(1, .aload_n 0, 0, 0, 0, .null), (3, .getfield 48, 11, 6, 0, .null), (3, .getfield 223, 10, 1, 0, .null), (3, .ifCond .eq 7, 106, 0, 0, .null), (1, .iconst 1, 0, 0, 0, .int 1), (3, .goto 4, 107, 0, 0, .null)]
set_option maxRecDepth 20000 in
theorem oX11_count_92 : vm_okB 11 mX11_count 92 bX11_count_92 = true := by decide +kernel
def bX11_count_106 : List vm_J := [(1, .iconst 0, 0, 0, 0, .int 0)]
set_option maxRecDepth 20000 in
theorem oX11_count_106 : vm_okB 11 mX11_count 106 bX11_count_106 = true := by decide +kernel
def bX11_count_107 : List vm_J := [(1, .ireturn, 0, 0, 0, .null)]
set_option maxRecDepth 20000 in
theorem oX11_count_107 : vm_okB 11 mX11_count 107 bX11_count_107 = true := by decide +kernel
def bX11_count_108 : List vm_J := [(1, .aload_n 0, 0, 0, 0, .null), (3, .getfield 48, 11, 6, 0, .null), (3, .getfield 239, 10, 2, 0, .null), (1, .ireturn, 0, 0, 0, .null)]
set_option maxRecDepth 20000 in
theorem oX11_count_108 : vm_okB 11 mX11_count 108 bX11_count_108 = true := by decide +kernel
def bX11_count_116 : List vm_J := [(1, .aload_n 0, 0, 0, 0, .null), (3, .getfield 14, 11, 0, 0, .null), (3, .getfield 82, 9, 1, 0, .null), (1, .ireturn, 0, 0, 0, .null)]
set_option maxRecDepth 20000 in
theorem oX11_count_116 : vm_okB 11 mX11_count 116 bX11_count_116 = true := by decide +kernel
def bX11_count_124 : List vm_J := [(1, .aload_n 0, 0, 0, 0, .null), (3, .getfield 71, 11, 11, 0, .null), (1, .ireturn, 0, 0, 0, .null)]
set_option maxRecDepth 20000 in
theorem oX11_count_124 : vm_okB 11 mX11_count 124 bX11_count_124 = true := by decide +kernel
def bX11_count_129 : List vm_J := [(1, .iconst (-1), 0, 0, 0, .int (-1)), (1, .ireturn, 0, 0, 0, .null)]
set_option maxRecDepth 20000 in
theorem oX11_count_129 : vm_okB 11 mX11_count 129 bX11_count_129 = true := by decide +kernel
def bX11_useUpTape_0 : List vm_J := [(1, .aload_n 0, 0, 0, 0, .null), (3, .getfield 14, 11, 0, 0, .null), (3, .getfield 82, 9, 1, 0, .null), (1, .istore_n 1, 0, 0, 0, .null), (1, .aload_n 0, 0, 0, 0, .null), (3, .getfield 14, 11, 0, 0, .null), (3, .invokevirtual 111, 89, 0, 9, .null), (1, .iload_n 1, 0, 0, 0, .null), (1, .ireturn, 0, 0, 0, .null)]
set_option maxRecDepth 20000 in
theorem oX11_useUpTape_0 : vm_okB 11 mX11_useUpTape 0 bX11_useUpTape_0 = true := by decide +kernel
def bX11_leave_0 : List vm_J := [(1, .aload_n 0, 0, 0, 0, .null), (3, .getfield 18, 11, 1, 0, .null), (3, .invokevirtual 111, 89, 0, 9, .null), (1, .aload_n 0, 0, 0, 0, .null), (3, .getfield 18, 11, 1, 0, .null), (1, .aload_n 1, 0, 0, 0, .null), (1, .iconst 0, 0, 0, 0, .int 0), (1, .iload_n 2, 0, 0, 0, .null), (3, .invokevirtual 89, 93, 3, 9, .null), (1, .iload_n 2, 0, 0, 0, .null), (1, .ireturn, 0, 0, 0, .null)]
set_option maxRecDepth 20000 in
theorem oX11_leave_0 : vm_okB 11 mX11_leave 0 bX11_leave_0 = true := by decide +kernel
def bX11_keyAt_0 : List vm_J := [(1, .iload_n 1, 0, 0, 0, .null), (3, .ifCond .lt 20, 21, 0, 0, .null), (1, .iload_n 1, 0, 0, 0, .null), (1, .aload_n 0, 0, 0, 0, .null), (3, .getfield 64, 11, 9, 0, .null), (3, .if_icmp .ge 12, 21, 0, 0, .null), (1, .aload_n 0, 0, 0, 0, .null), (3, .getfield 54, 11, 7, 0, .null), (1, .iload_n 1, 0, 0, 0, .null), (1, .aaload, 0, 0, 0, .null), (3, .goto 4, 22, 0, 0, .null)]
set_option maxRecDepth 20000 in
theorem oX11_keyAt_0 : vm_okB 11 mX11_keyAt 0 bX11_keyAt_0 = true := by decide +kernel
def bX11_keyAt_21 : List vm_J := [(1, .aconst_null, 0, 0, 0, .null)]
set_option maxRecDepth 20000 in
theorem oX11_keyAt_21 : vm_okB 11 mX11_keyAt 21 bX11_keyAt_21 = true := by decide +kernel
def bX11_keyAt_22 : List vm_J := [(1, .areturn, 0, 0, 0, .null)]
set_option maxRecDepth 20000 in
theorem oX11_keyAt_22 : vm_okB 11 mX11_keyAt 22 bX11_keyAt_22 = true := by decide +kernel
def bX11_typeOfTape_0 : List vm_J := [(1, .iload_n 1, 0, 0, 0, .null), (1, .iload_n 2, 0, 0, 0, .null), (3, .if_icmp .lt 15, 17, 0, 0, .null), (1, .aload_n 0, 0, 0, 0, .null), (3, .getfield 14, 11, 0, 0, .null), (3, .getfield 85, 9, 0, 0, .null), (1, .iconst 0, 0, 0, 0, .int 0), (1, .baload, 0, 0, 0, .null), (3, .ifCond .eq 5, 19, 0, 0, .null)]
set_option maxRecDepth 20000 in
theorem oX11_typeOfTape_0 : vm_okB 11 mX11_typeOfTape 0 bX11_typeOfTape_0 = true := by decide +kernel
def bX11_typeOfTape_17 : List vm_J := [(1, .iconst (-1), 0, 0, 0, .int (-1)), (1, .ireturn, 0, 0, 0, .null)]
set_option maxRecDepth 20000 in
theorem oX11_typeOfTape_17 : vm_okB 11 mX11_typeOfTape 17 bX11_typeOfTape_17 = true := by decide +kernel
def bX11_typeOfTape_19 : List vm_J := [(1, .aload_n 0, 0, 0, 0, .null), (3, .getfield 14, 11, 0, 0, .null), (3, .getfield 85, 9, 0, 0, .null), (1, .iconst 1, 0, 0, 0, .int 1), (1, .baload, 0, 0, 0, .null), (1, .istore_n 3, 0, 0, 0, .null), (1, .iload_n 3, 0, 0, 0, .null), (1, .iconst 1, 0, 0, 0, .int 1), (3, .if_icmp .eq 8, 39, 0, 0, .null), (1, .iload_n 3, 0, 0, 0, .null), (1, .iconst 2, 0, 0, 0, .int 2), (3, .if_icmp .ne 7, 43, 0, 0, .null)]
set_option maxRecDepth 20000 in
theorem oX11_typeOfTape_19 : vm_okB 11 mX11_typeOfTape 19 bX11_typeOfTape_19 = true := by decide +kernel
def bX11_typeOfTape_39 : List vm_J := [(1, .iload_n 3, 0, 0, 0, .null), (3, .goto 4, 44, 0, 0, .null)]
set_option maxRecDepth 20000 in
theorem oX11_typeOfTape_39 : vm_okB 11 mX11_typeOfTape 39 bX11_typeOfTape_39 = true := by decide +kernel
def bX11_typeOfTape_43 : List vm_J := [(1, .iconst (-1), 0, 0, 0, .int (-1))]
set_option maxRecDepth 20000 in
theorem oX11_typeOfTape_43 : vm_okB 11 mX11_typeOfTape 43 bX11_typeOfTape_43 = true := by decide +kernel
def bX11_typeOfTape_44 : List vm_J := [(1, .ireturn, 0, 0, 0, .null)]
set_option maxRecDepth 20000 in
theorem oX11_typeOfTape_44 : vm_okB 11 mX11_typeOfTape 44 bX11_typeOfTape_44 = true := by decide +kernel
def bX11_liveByLastByte_0 : List vm_J := [(1, .iconst 0, 0, 0, 0, .int 0), (1, .istore_n 2, 0, 0, 0, .null)]
set_option maxRecDepth 20000 in
theorem oX11_liveByLastByte_0 : vm_okB 11 mX11_liveByLastByte 0 bX11_liveByLastByte_0 = true := by decide +kernel
def bX11_liveByLastByte_2 : List vm_J := [(1, .iload_n 2, 0, 0, 0, .null), (1, .aload_n 0, 0, 0, 0, .null), (3, .getfield 64, 11, 9, 0, .null), (3, .if_icmp .ge 52, 59, 0, 0, .null), (1, .aload_n 0, 0, 0, 0, .null), (3, .getfield 54, 11, 7, 0, .null), (1, .iload_n 2, 0, 0, 0, .null), (1, .aaload, 0, 0, 0, .null), (1, .astore_n 3, 0, 0, 0, .null), (1, .aload_n 3, 0, 0, 0, .null), (3, .getfield 141, 5, 8, 0, .null), (3, .ifCond .eq 32, 53, 0, 0, .null), (1, .aload_n 3, 0, 0, 0, .null), (3, .getfield 149, 5, 0, 0, .null), (1, .iload_n 1, 0, 0, 0, .null), (3, .if_icmp .ne 24, 53, 0, 0, .null), (1, .aload_n 3, 0, 0, 0, .null), (3, .getfield 123, 5, 6, 0, .null), (2, .bipush 31, 0, 0, 0, .int 31), (1, .baload, 0, 0, 0, .null), (1, .aload_n 0, 0, 0, 0, .null), (3, .getfield 14, 11, 0, 0, .null), (3, .getfield 85, 9, 0, 0, .null), (1, .iconst 2, 0, 0, 0, .int 2), (1, .baload, 0, 0, 0, .null), (3, .if_icmp .ne 5, 53, 0, 0, .null), (1, .aload_n 3, 0, 0, 0, .null), (1, .areturn, 0, 0, 0, .null)]
set_option maxRecDepth 20000 in
theorem oX11_liveByLastByte_2 : vm_okB 11 mX11_liveByLastByte 2 bX11_liveByLastByte_2 = true := by decide +kernel
def bX11_liveByLastByte_53 : List vm_J := [(3, .iinc 2 1, 0, 0, 0, .int 1), (3, .goto (-54), 2, 0, 0, .null)]
set_option maxRecDepth 20000 in
theorem oX11_liveByLastByte_53 : vm_okB 11 mX11_liveByLastByte 53 bX11_liveByLastByte_53 = true := by decide +kernel
def bX11_liveByLastByte_59 : List vm_J := [(1, .aconst_null, 0, 0, 0, .null), (1, .areturn, 0, 0, 0, .null)]
set_option maxRecDepth 20000 in
theorem oX11_liveByLastByte_59 : vm_okB 11 mX11_liveByLastByte 59 bX11_liveByLastByte_59 = true := by decide +kernel
def bX11_liveById_0 : List vm_J := [(1, .iconst 0, 0, 0, 0, .int 0), (1, .istore_n 2, 0, 0, 0, .null)]
set_option maxRecDepth 20000 in
theorem oX11_liveById_0 : vm_okB 11 mX11_liveById 0 bX11_liveById_0 = true := by decide +kernel
def bX11_liveById_2 : List vm_J := [(1, .iload_n 2, 0, 0, 0, .null), (1, .aload_n 0, 0, 0, 0, .null), (3, .getfield 64, 11, 9, 0, .null), (3, .if_icmp .ge 55, 62, 0, 0, .null), (1, .aload_n 0, 0, 0, 0, .null), (3, .getfield 54, 11, 7, 0, .null), (1, .iload_n 2, 0, 0, 0, .null), (1, .aaload, 0, 0, 0, .null), (1, .astore_n 3, 0, 0, 0, .null), (1, .aload_n 3, 0, 0, 0, .null), (3, .getfield 141, 5, 8, 0, .null), (3, .ifCond .eq 35, 56, 0, 0, .null), (1, .aload_n 3, 0, 0, 0, .null), (3, .getfield 149, 5, 0, 0, .null), (1, .iload_n 1, 0, 0, 0, .null), (3, .if_icmp .ne 27, 56, 0, 0, .null), (1, .aload_n 3, 0, 0, 0, .null), (3, .getfield 123, 5, 6, 0, .null), (1, .iconst 0, 0, 0, 0, .int 0), (1, .aload_n 0, 0, 0, 0, .null), (3, .getfield 14, 11, 0, 0, .null), (3, .getfield 85, 9, 0, 0, .null), (2, .bipush 66, 0, 0, 0, .int 66), (2, .bipush 32, 0, 0, 0, .int 32), (3, .invokestatic 255, 85, 5, 0, .null), (3, .ifCond .eq 5, 56, 0, 0, .null), (1, .aload_n 3, 0, 0, 0, .null), (1, .areturn, 0, 0, 0, .null)]
set_option maxRecDepth 20000 in
theorem oX11_liveById_2 : vm_okB 11 mX11_liveById 2 bX11_liveById_2 = true := by decide +kernel
def bX11_liveById_56 : List vm_J := [(3, .iinc 2 1, 0, 0, 0, .int 1), (3, .goto (-57), 2, 0, 0, .null)]
set_option maxRecDepth 20000 in
theorem oX11_liveById_56 : vm_okB 11 mX11_liveById 56 bX11_liveById_56 = true := by decide +kernel
def bX11_liveById_62 : List vm_J := [(1, .aconst_null, 0, 0, 0, .null), (1, .areturn, 0, 0, 0, .null)]
set_option maxRecDepth 20000 in
theorem oX11_liveById_62 : vm_okB 11 mX11_liveById 62 bX11_liveById_62 = true := by decide +kernel
def bX11_liveKeys_0 : List vm_J := [(1, .iconst 0, 0, 0, 0, .int 0), (1, .istore_n 1, 0, 0, 0, .null), (1, .iconst 0, 0, 0, 0, .int 0), (1, .istore_n 2, 0, 0, 0, .null)]
set_option maxRecDepth 20000 in
theorem oX11_liveKeys_0 : vm_okB 11 mX11_liveKeys 0 bX11_liveKeys_0 = true := by decide +kernel
def bX11_liveKeys_4 : List vm_J := [(1, .iload_n 2, 0, 0, 0, .null), (1, .aload_n 0, 0, 0, 0, .null), (3, .getfield 64, 11, 9, 0, .null), (3, .if_icmp .ge 29, 38, 0, 0, .null), (1, .iload_n 1, 0, 0, 0, .null), (1, .aload_n 0, 0, 0, 0, .null), (3, .getfield 54, 11, 7, 0, .null), (1, .iload_n 2, 0, 0, 0, .null), (1, .aaload, 0, 0, 0, .null), (3, .getfield 141, 5, 8, 0, .null), (3, .ifCond .eq 7, 29, 0, 0, .null), (1, .iconst 1, 0, 0, 0, .int 1), (3, .goto 4, 30, 0, 0, .null)]
set_option maxRecDepth 20000 in
theorem oX11_liveKeys_4 : vm_okB 11 mX11_liveKeys 4 bX11_liveKeys_4 = true := by decide +kernel
def bX11_liveKeys_29 : List vm_J := [(1, .iconst 0, 0, 0, 0, .int 0)]
set_option maxRecDepth 20000 in
theorem oX11_liveKeys_29 : vm_okB 11 mX11_liveKeys 29 bX11_liveKeys_29 = true := by decide +kernel
def bX11_liveKeys_30 : List vm_J := [(1, .iadd, 0, 0, 0, .null), (1, .istore_n 1, 0, 0, 0, .null), (3, .iinc 2 1, 0, 0, 0, .int 1), (3, .goto (-31), 4, 0, 0, .null)]
set_option maxRecDepth 20000 in
theorem oX11_liveKeys_30 : vm_okB 11 mX11_liveKeys 30 bX11_liveKeys_30 = true := by decide +kernel
def bX11_liveKeys_38 : List vm_J := [(1, .iload_n 1, 0, 0, 0, .null), (1, .ireturn, 0, 0, 0, .null)]
set_option maxRecDepth 20000 in
theorem oX11_liveKeys_38 : vm_okB 11 mX11_liveKeys 38 bX11_liveKeys_38 = true := by decide +kernel
def bX11_openAskings_0 : List vm_J := [(1, .iconst 0, 0, 0, 0, .int 0), (1, .istore_n 1, 0, 0, 0, .null), (1, .iconst 0, 0, 0, 0, .int 0), (1, .istore_n 2, 0, 0, 0, .null)]
set_option maxRecDepth 20000 in
theorem oX11_openAskings_0 : vm_okB 11 mX11_openAskings 0 bX11_openAskings_0 = true := by decide +kernel
def bX11_openAskings_4 : List vm_J := [(1, .iload_n 2, 0, 0, 0, .null), (1, .aload_n 0, 0, 0, 0, .null), (3, .getfield 68, 11, 10, 0, .null), (3, .if_icmp .ge 29, 38, 0, 0, .null), (1, .iload_n 1, 0, 0, 0, .null), (1, .aload_n 0, 0, 0, 0, .null), (3, .getfield 60, 11, 8, 0, .null), (1, .iload_n 2, 0, 0, 0, .null), (1, .aaload, 0, 0, 0, .null), (3, .getfield 259, 0, 4, 0, .null), (3, .ifCond .eq 7, 29, 0, 0, .null), (1, .iconst 1, 0, 0, 0, .int 1), (3, .goto 4, 30, 0, 0, .null)]
set_option maxRecDepth 20000 in
theorem oX11_openAskings_4 : vm_okB 11 mX11_openAskings 4 bX11_openAskings_4 = true := by decide +kernel
def bX11_openAskings_29 : List vm_J := [(1, .iconst 0, 0, 0, 0, .int 0)]
set_option maxRecDepth 20000 in
theorem oX11_openAskings_29 : vm_okB 11 mX11_openAskings 29 bX11_openAskings_29 = true := by decide +kernel
def bX11_openAskings_30 : List vm_J := [(1, .iadd, 0, 0, 0, .null), (1, .istore_n 1, 0, 0, 0, .null), (3, .iinc 2 1, 0, 0, 0, .int 1), (3, .goto (-31), 4, 0, 0, .null)]
set_option maxRecDepth 20000 in
theorem oX11_openAskings_30 : vm_okB 11 mX11_openAskings 30 bX11_openAskings_30 = true := by decide +kernel
def bX11_openAskings_38 : List vm_J := [(1, .iload_n 1, 0, 0, 0, .null), (1, .ireturn, 0, 0, 0, .null)]
set_option maxRecDepth 20000 in
theorem oX11_openAskings_38 : vm_okB 11 mX11_openAskings 38 bX11_openAskings_38 = true := by decide +kernel
def bX11_areOpen_0 : List vm_J := [(1, .iload_n 1, 0, 0, 0, .null), (3, .ifCond .lt 13, 14, 0, 0, .null), (1, .iload_n 1, 0, 0, 0, .null), (1, .aload_n 0, 0, 0, 0, .null), (3, .getfield 68, 11, 10, 0, .null), (1, .iload_n 2, 0, 0, 0, .null), (1, .isub, 0, 0, 0, .null), (3, .if_icmp .le 5, 16, 0, 0, .null)]
set_option maxRecDepth 20000 in
theorem oX11_areOpen_0 : vm_okB 11 mX11_areOpen 0 bX11_areOpen_0 = true := by decide +kernel
def bX11_areOpen_14 : List vm_J := [(1, .iconst 0, 0, 0, 0, .int 0), (1, .ireturn, 0, 0, 0, .null)]
set_option maxRecDepth 20000 in
theorem oX11_areOpen_14 : vm_okB 11 mX11_areOpen 14 bX11_areOpen_14 = true := by decide +kernel
def bX11_areOpen_16 : List vm_J := [(1, .iload_n 1, 0, 0, 0, .null), (1, .istore_n 3, 0, 0, 0, .null)]
set_option maxRecDepth 20000 in
theorem oX11_areOpen_16 : vm_okB 11 mX11_areOpen 16 bX11_areOpen_16 = true := by decide +kernel
def bX11_areOpen_18 : List vm_J := [(1, .iload_n 3, 0, 0, 0, .null), (1, .iload_n 1, 0, 0, 0, .null), (1, .iload_n 2, 0, 0, 0, .null), (1, .iadd, 0, 0, 0, .null), (3, .if_icmp .ge 23, 45, 0, 0, .null), (1, .aload_n 0, 0, 0, 0, .null), (3, .getfield 60, 11, 8, 0, .null), (1, .iload_n 3, 0, 0, 0, .null), (1, .aaload, 0, 0, 0, .null), (3, .getfield 259, 0, 4, 0, .null), (3, .ifCond .ne 5, 39, 0, 0, .null), (1, .iconst 0, 0, 0, 0, .int 0), (1, .ireturn, 0, 0, 0, .null)]
set_option maxRecDepth 20000 in
theorem oX11_areOpen_18 : vm_okB 11 mX11_areOpen 18 bX11_areOpen_18 = true := by decide +kernel
def bX11_areOpen_39 : List vm_J := [(3, .iinc 3 1, 0, 0, 0, .int 1), (3, .goto (-24), 18, 0, 0, .null)]
set_option maxRecDepth 20000 in
theorem oX11_areOpen_39 : vm_okB 11 mX11_areOpen 39 bX11_areOpen_39 = true := by decide +kernel
def bX11_areOpen_45 : List vm_J := [(1, .iconst 1, 0, 0, 0, .int 1), (1, .ireturn, 0, 0, 0, .null)]
set_option maxRecDepth 20000 in
theorem oX11_areOpen_45 : vm_okB 11 mX11_areOpen 45 bX11_areOpen_45 = true := by decide +kernel
def bX11_remindOf_0 : List vm_J := [(1, .iconst 0, 0, 0, 0, .int 0), (1, .istore_n 3, 0, 0, 0, .null)]
set_option maxRecDepth 20000 in
theorem oX11_remindOf_0 : vm_okB 11 mX11_remindOf 0 bX11_remindOf_0 = true := by decide +kernel
def bX11_remindOf_2 : List vm_J := [(1, .iload_n 3, 0, 0, 0, .null), (1, .iload_n 2, 0, 0, 0, .null), (3, .if_icmp .ge 28, 32, 0, 0, .null), (1, .aload_n 0, 0, 0, 0, .null), (3, .getfield 34, 11, 4, 0, .null), (1, .iload_n 3, 0, 0, 0, .null), (1, .aload_n 0, 0, 0, 0, .null), (3, .getfield 60, 11, 8, 0, .null), (1, .iload_n 1, 0, 0, 0, .null), (1, .iload_n 3, 0, 0, 0, .null), (1, .iadd, 0, 0, 0, .null), (1, .aaload, 0, 0, 0, .null), (3, .getfield 173, 0, 2, 0, .null), (3, .invokevirtual 262, 71, 2, 7, .null), (3, .iinc 3 1, 0, 0, 0, .int 1), (3, .goto (-27), 2, 0, 0, .null)]
set_option maxRecDepth 20000 in
theorem oX11_remindOf_2 : vm_okB 11 mX11_remindOf 2 bX11_remindOf_2 = true := by decide +kernel
def bX11_remindOf_32 : List vm_J := [(1, .return_, 0, 0, 0, .null)]
set_option maxRecDepth 20000 in
theorem oX11_remindOf_32 : vm_okB 11 mX11_remindOf 32 bX11_remindOf_32 = true := by decide +kernel
def bX11_takeOutputs_0 : List vm_J := [(1, .aload_n 0, 0, 0, 0, .null), (3, .getfield 18, 11, 1, 0, .null), (3, .invokevirtual 111, 89, 0, 9, .null), (1, .iconst 0, 0, 0, 0, .int 0), (1, .istore_n 3, 0, 0, 0, .null)]
set_option maxRecDepth 20000 in
theorem oX11_takeOutputs_0 : vm_okB 11 mX11_takeOutputs 0 bX11_takeOutputs_0 = true := by decide +kernel
def bX11_takeOutputs_9 : List vm_J := [(1, .iload_n 3, 0, 0, 0, .null), (1, .iload_n 2, 0, 0, 0, .null), (3, .if_icmp .ge 67, 78, 0, 0, .null), (1, .aload_n 0, 0, 0, 0, .null), (3, .getfield 60, 11, 8, 0, .null), (1, .iload_n 1, 0, 0, 0, .null), (1, .iload_n 3, 0, 0, 0, .null), (1, .iadd, 0, 0, 0, .null), (1, .aaload, 0, 0, 0, .null), (2, .astore 4, 0, 0, 0, .null), (1, .aload_n 0, 0, 0, 0, .null), (3, .getfield 34, 11, 4, 0, .null), (1, .iload_n 3, 0, 0, 0, .null), (2, .aload 4, 0, 0, 0, .null), (3, .invokevirtual 266, 74, 2, 7, .null), (2, .aload 4, 0, 0, 0, .null), (1, .iconst 0, 0, 0, 0, .int 0), (3, .putfield 259, 0, 4, 2, .null), (1, .aload_n 0, 0, 0, 0, .null), (3, .getfield 18, 11, 1, 0, .null), (2, .aload 4, 0, 0, 0, .null), (3, .getfield 269, 0, 1, 0, .null), (1, .iconst 0, 0, 0, 0, .int 0), (2, .bipush 98, 0, 0, 0, .int 98), (3, .invokevirtual 89, 93, 3, 9, .null), (1, .aload_n 0, 0, 0, 0, .null), (3, .getfield 18, 11, 1, 0, .null), (1, .aload_n 0, 0, 0, 0, .null), (3, .getfield 34, 11, 4, 0, .null), (3, .getfield 272, 7, 2, 0, .null), (1, .iconst 0, 0, 0, 0, .int 0), (2, .bipush 48, 0, 0, 0, .int 48), (3, .invokevirtual 89, 93, 3, 9, .null), (3, .iinc 3 1, 0, 0, 0, .int 1), (3, .goto (-66), 9, 0, 0, .null)]
set_option maxRecDepth 20000 in
theorem oX11_takeOutputs_9 : vm_okB 11 mX11_takeOutputs 9 bX11_takeOutputs_9 = true := by decide +kernel
def bX11_takeOutputs_78 : List vm_J := [(1, .aload_n 0, 0, 0, 0, .null), (3, .getfield 18, 11, 1, 0, .null), (3, .getfield 82, 9, 1, 0, .null), (1, .ireturn, 0, 0, 0, .null)]
set_option maxRecDepth 20000 in
theorem oX11_takeOutputs_78 : vm_okB 11 mX11_takeOutputs 78 bX11_takeOutputs_78 = true := by decide +kernel
def bX11_takeSignature_0 : List vm_J := [(1, .aload_n 1, 0, 0, 0, .null), (1, .iconst 0, 0, 0, 0, .int 0), (3, .putfield 259, 0, 4, 2, .null), (1, .aload_n 0, 0, 0, 0, .null), (3, .getfield 18, 11, 1, 0, .null), (3, .invokevirtual 111, 89, 0, 9, .null), (1, .aload_n 0, 0, 0, 0, .null), (3, .getfield 18, 11, 1, 0, .null), (1, .aload_n 1, 0, 0, 0, .null), (3, .getfield 269, 0, 1, 0, .null), (1, .iconst 0, 0, 0, 0, .int 0), (2, .bipush 98, 0, 0, 0, .int 98), (3, .invokevirtual 89, 93, 3, 9, .null), (1, .aload_n 0, 0, 0, 0, .null), (3, .getfield 18, 11, 1, 0, .null), (1, .aload_n 0, 0, 0, 0, .null), (3, .getfield 41, 11, 5, 0, .null), (3, .getfield 191, 1, 2, 0, .null), (1, .iconst 0, 0, 0, 0, .int 0), (1, .aload_n 1, 0, 0, 0, .null), (3, .getfield 200, 0, 0, 0, .null), (3, .getfield 152, 5, 1, 0, .null), (3, .invokevirtual 89, 93, 3, 9, .null), (1, .aload_n 0, 0, 0, 0, .null), (3, .getfield 18, 11, 1, 0, .null), (3, .getfield 82, 9, 1, 0, .null), (1, .ireturn, 0, 0, 0, .null)]
set_option maxRecDepth 20000 in
theorem oX11_takeSignature_0 : vm_okB 11 mX11_takeSignature 0 bX11_takeSignature_0 = true := by decide +kernel
