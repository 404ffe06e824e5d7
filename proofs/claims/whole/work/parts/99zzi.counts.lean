/-! the reference: feed, again, spent, power, count -/
def bX14_feedx_0 : List vm_J := [(1, .aload_n 0, 0, 0, 0, .null), (1, .iconst 0, 0, 0, 0, .int 0), (3, .putfield 1, 14, 0, 0, .null)]
set_option maxRecDepth 20000 in
theorem oX14_feedx_0 : vm_okB 14 mX14_feed 0 bX14_feedx_0 = true := by decide +kernel
def bX14_feedx_5 : List vm_J := [(1, .aload_n 0, 0, 0, 0, .null), (3, .getfield 540, 14, 75, 0, .null), (2, .bipush 20, 0, 0, 0, .int 20), (1, .iadd, 0, 0, 0, .null), (3, .sipush 1200, 0, 0, 0, .int 1200), (3, .if_icmp .le 5, 20, 0, 0, .null), (1, .iconst (-1), 0, 0, 0, .int (-1)), (1, .ireturn, 0, 0, 0, .null)]
set_option maxRecDepth 20000 in
theorem oX14_feedx_5 : vm_okB 14 mX14_feed 5 bX14_feedx_5 = true := by decide +kernel
def bX14_feedx_20 : List vm_J := [(1, .aload_n 0, 0, 0, 0, .null), (3, .getfield 519, 14, 85, 0, .null), (1, .iconst 0, 0, 0, 0, .int 0), (1, .iload_n 1, 0, 0, 0, .null), (1, .iastore, 0, 0, 0, .null)]
set_option maxRecDepth 20000 in
theorem oX14_feedx_20 : vm_okB 14 mX14_feed 20 bX14_feedx_20 = true := by decide +kernel
def bX14_feedx_27 : List vm_J := [(1, .aload_n 0, 0, 0, 0, .null), (3, .getfield 519, 14, 85, 0, .null), (1, .iconst 1, 0, 0, 0, .int 1), (1, .iload_n 2, 0, 0, 0, .null), (1, .iastore, 0, 0, 0, .null)]
set_option maxRecDepth 20000 in
theorem oX14_feedx_27 : vm_okB 14 mX14_feed 27 bX14_feedx_27 = true := by decide +kernel
def bX14_feedx_34 : List vm_J := [(1, .aload_n 0, 0, 0, 0, .null), (3, .getfield 519, 14, 85, 0, .null), (1, .iconst 2, 0, 0, 0, .int 2), (1, .iload_n 3, 0, 0, 0, .null), (1, .iastore, 0, 0, 0, .null)]
set_option maxRecDepth 20000 in
theorem oX14_feedx_34 : vm_okB 14 mX14_feed 34 bX14_feedx_34 = true := by decide +kernel
def bX14_feedx_41 : List vm_J := [(1, .aload_n 0, 0, 0, 0, .null), (3, .getfield 519, 14, 85, 0, .null), (1, .iconst 3, 0, 0, 0, .int 3), (2, .iload 4, 0, 0, 0, .null), (1, .iastore, 0, 0, 0, .null)]
set_option maxRecDepth 20000 in
theorem oX14_feedx_41 : vm_okB 14 mX14_feed 41 bX14_feedx_41 = true := by decide +kernel
def bX14_feedx_49 : List vm_J := [(1, .aload_n 0, 0, 0, 0, .null), (3, .getfield 519, 14, 85, 0, .null), (1, .iconst 4, 0, 0, 0, .int 4), (2, .iload 5, 0, 0, 0, .null), (1, .iastore, 0, 0, 0, .null)]
set_option maxRecDepth 20000 in
theorem oX14_feedx_49 : vm_okB 14 mX14_feed 49 bX14_feedx_49 = true := by decide +kernel
def bX14_feedx_57 : List vm_J := [(1, .iconst 0, 0, 0, 0, .int 0), (2, .istore 6, 0, 0, 0, .null)]
set_option maxRecDepth 20000 in
theorem oX14_feedx_57 : vm_okB 14 mX14_feed 57 bX14_feedx_57 = true := by decide +kernel
def bX14_feedx_60 : List vm_J := [(2, .iload 6, 0, 0, 0, .null), (2, .bipush 20, 0, 0, 0, .int 20), (3, .if_icmp .ge 42, 106, 0, 0, .null), (1, .aload_n 0, 0, 0, 0, .null), (3, .getfield 492, 14, 74, 0, .null), (1, .aload_n 0, 0, 0, 0, .null), (3, .getfield 540, 14, 75, 0, .null), (2, .iload 6, 0, 0, 0, .null), (1, .iadd, 0, 0, 0, .null), (1, .aload_n 0, 0, 0, 0, .null), (3, .getfield 519, 14, 85, 0, .null), (2, .iload 6, 0, 0, 0, .null), (1, .iconst 4, 0, 0, 0, .int 4), (1, .idiv, 0, 0, 0, .null), (1, .iaload, 0, 0, 0, .null), (2, .bipush 24, 0, 0, 0, .int 24), (2, .bipush 8, 0, 0, 0, .int 8), (2, .iload 6, 0, 0, 0, .null), (1, .iconst 4, 0, 0, 0, .int 4), (1, .irem, 0, 0, 0, .null), (1, .imul, 0, 0, 0, .null), (1, .isub, 0, 0, 0, .null), (1, .ishr, 0, 0, 0, .null), (1, .i2b, 0, 0, 0, .null), (1, .bastore, 0, 0, 0, .null)]
set_option maxRecDepth 20000 in
theorem oX14_feedx_60 : vm_okB 14 mX14_feed 60 bX14_feedx_60 = true := by decide +kernel
def bX14_feedx_100 : List vm_J := [(3, .iinc 6 1, 0, 0, 0, .int 1), (3, .goto (-43), 60, 0, 0, .null)]
set_option maxRecDepth 20000 in
theorem oX14_feedx_100 : vm_okB 14 mX14_feed 100 bX14_feedx_100 = true := by decide +kernel
def bX14_feedx_106 : List vm_J := [(1, .aload_n 0, 0, 0, 0, .null), (1, .dup, 0, 0, 0, .null), (3, .getfield 540, 14, 75, 0, .null), (2, .bipush 20, 0, 0, 0, .int 20), (1, .iadd, 0, 0, 0, .null), (3, .putfield 540, 14, 75, 0, .null)]
set_option maxRecDepth 20000 in
theorem oX14_feedx_106 : vm_okB 14 mX14_feed 106 bX14_feedx_106 = true := by decide +kernel
def bX14_feedx_117 : List vm_J := [(1, .aload_n 0, 0, 0, 0, .null), (3, .getfield 540, 14, 75, 0, .null), (1, .ireturn, 0, 0, 0, .null)]
set_option maxRecDepth 20000 in
theorem oX14_feedx_117 : vm_okB 14 mX14_feed 117 bX14_feedx_117 = true := by decide +kernel
def bX14_againx_0 : List vm_J := [(1, .aload_n 0, 0, 0, 0, .null), (1, .iconst 0, 0, 0, 0, .int 0), (3, .putfield 1, 14, 0, 0, .null)]
set_option maxRecDepth 20000 in
theorem oX14_againx_0 : vm_okB 14 mX14_again 0 bX14_againx_0 = true := by decide +kernel
def bX14_againx_5 : List vm_J := [(1, .iload_n 1, 0, 0, 0, .null), (3, .ifCond .lt 33, 39, 0, 0, .null), (1, .iload_n 2, 0, 0, 0, .null), (3, .ifCond .lt 29, 39, 0, 0, .null), (1, .iload_n 1, 0, 0, 0, .null), (1, .i2l, 0, 0, 0, .null), (1, .iload_n 2, 0, 0, 0, .null), (1, .i2l, 0, 0, 0, .null), (1, .ladd, 0, 0, 0, .null), (1, .aload_n 0, 0, 0, 0, .null), (3, .getfield 564, 14, 77, 0, .null), (1, .i2l, 0, 0, 0, .null), (1, .lcmp, 0, 0, 0, .null), (3, .ifCond .gt 15, 39, 0, 0, .null), (1, .aload_n 0, 0, 0, 0, .null), (3, .getfield 540, 14, 75, 0, .null), (1, .iload_n 2, 0, 0, 0, .null), (1, .iadd, 0, 0, 0, .null), (3, .sipush 1200, 0, 0, 0, .int 1200), (3, .if_icmp .le 5, 41, 0, 0, .null)]
set_option maxRecDepth 20000 in
theorem oX14_againx_5 : vm_okB 14 mX14_again 5 bX14_againx_5 = true := by decide +kernel
def bX14_againx_39 : List vm_J := [(1, .iconst (-1), 0, 0, 0, .int (-1)), (1, .ireturn, 0, 0, 0, .null)]
set_option maxRecDepth 20000 in
theorem oX14_againx_39 : vm_okB 14 mX14_again 39 bX14_againx_39 = true := by decide +kernel
def bX14_againx_41 : List vm_J := [(1, .iconst 0, 0, 0, 0, .int 0), (1, .istore_n 3, 0, 0, 0, .null)]
set_option maxRecDepth 20000 in
theorem oX14_againx_41 : vm_okB 14 mX14_again 41 bX14_againx_41 = true := by decide +kernel
def bX14_againx_43 : List vm_J := [(1, .iload_n 3, 0, 0, 0, .null), (1, .iload_n 2, 0, 0, 0, .null), (3, .if_icmp .ge 28, 73, 0, 0, .null), (1, .aload_n 0, 0, 0, 0, .null), (3, .getfield 492, 14, 74, 0, .null), (1, .aload_n 0, 0, 0, 0, .null), (3, .getfield 540, 14, 75, 0, .null), (1, .iload_n 3, 0, 0, 0, .null), (1, .iadd, 0, 0, 0, .null), (1, .aload_n 0, 0, 0, 0, .null), (3, .getfield 495, 14, 76, 0, .null), (1, .iload_n 1, 0, 0, 0, .null), (1, .iload_n 3, 0, 0, 0, .null), (1, .iadd, 0, 0, 0, .null), (1, .baload, 0, 0, 0, .null), (1, .bastore, 0, 0, 0, .null)]
set_option maxRecDepth 20000 in
theorem oX14_againx_43 : vm_okB 14 mX14_again 43 bX14_againx_43 = true := by decide +kernel
def bX14_againx_67 : List vm_J := [(3, .iinc 3 1, 0, 0, 0, .int 1), (3, .goto (-27), 43, 0, 0, .null)]
set_option maxRecDepth 20000 in
theorem oX14_againx_67 : vm_okB 14 mX14_again 67 bX14_againx_67 = true := by decide +kernel
def bX14_againx_73 : List vm_J := [(1, .aload_n 0, 0, 0, 0, .null), (1, .dup, 0, 0, 0, .null), (3, .getfield 540, 14, 75, 0, .null), (1, .iload_n 2, 0, 0, 0, .null), (1, .iadd, 0, 0, 0, .null), (3, .putfield 540, 14, 75, 0, .null)]
set_option maxRecDepth 20000 in
theorem oX14_againx_73 : vm_okB 14 mX14_again 73 bX14_againx_73 = true := by decide +kernel
def bX14_againx_83 : List vm_J := [(1, .aload_n 0, 0, 0, 0, .null), (3, .getfield 540, 14, 75, 0, .null), (1, .ireturn, 0, 0, 0, .null)]
set_option maxRecDepth 20000 in
theorem oX14_againx_83 : vm_okB 14 mX14_again 83 bX14_againx_83 = true := by decide +kernel
def bX14_isFreex_0 : List vm_J := [(1, .iload_n 1, 0, 0, 0, .null), (3, .invokestatic 659, 229, 1, 0, .null), (1, .istore_n 2, 0, 0, 0, .null)]
set_option maxRecDepth 20000 in
theorem oX14_isFreex_0 : vm_okB 14 mX14_isFree 0 bX14_isFreex_0 = true := by decide +kernel
def bX14_isFreex_5 : List vm_J := [(1, .aload_n 0, 0, 0, 0, .null), (3, .getfield 486, 14, 69, 0, .null), (1, .iload_n 2, 0, 0, 0, .null), (1, .baload, 0, 0, 0, .null), (3, .ifCond .ne 40, 51, 0, 0, .null), (1, .aload_n 0, 0, 0, 0, .null), (3, .getfield 486, 14, 69, 0, .null), (1, .iload_n 2, 0, 0, 0, .null), (1, .iconst 1, 0, 0, 0, .int 1), (1, .iadd, 0, 0, 0, .null), (1, .baload, 0, 0, 0, .null), (3, .ifCond .ne 29, 51, 0, 0, .null), (1, .aload_n 0, 0, 0, 0, .null), (3, .getfield 486, 14, 69, 0, .null), (1, .iload_n 2, 0, 0, 0, .null), (1, .iconst 2, 0, 0, 0, .int 2), (1, .iadd, 0, 0, 0, .null), (1, .baload, 0, 0, 0, .null), (3, .ifCond .ne 18, 51, 0, 0, .null), (1, .aload_n 0, 0, 0, 0, .null), (3, .getfield 486, 14, 69, 0, .null), (1, .iload_n 2, 0, 0, 0, .null), (1, .iconst 3, 0, 0, 0, .int 3), (1, .iadd, 0, 0, 0, .null), (1, .baload, 0, 0, 0, .null), (3, .ifCond .ne 7, 51, 0, 0, .null), (1, .iconst 1, 0, 0, 0, .int 1), (3, .goto 4, 52, 0, 0, .null)]
set_option maxRecDepth 20000 in
theorem oX14_isFreex_5 : vm_okB 14 mX14_isFree 5 bX14_isFreex_5 = true := by decide +kernel
def bX14_isFreex_51 : List vm_J := [(1, .iconst 0, 0, 0, 0, .int 0)]
set_option maxRecDepth 20000 in
theorem oX14_isFreex_51 : vm_okB 14 mX14_isFree 51 bX14_isFreex_51 = true := by decide +kernel
def bX14_isFreex_52 : List vm_J := [(1, .ireturn, 0, 0, 0, .null)]
set_option maxRecDepth 20000 in
theorem oX14_isFreex_52 : vm_okB 14 mX14_isFree 52 bX14_isFreex_52 = true := by decide +kernel
def bX14_spentx_0 : List vm_J := [(1, .iconst 0, 0, 0, 0, .int 0), (1, .istore_n 1, 0, 0, 0, .null)]
set_option maxRecDepth 20000 in
theorem oX14_spentx_0 : vm_okB 14 mX14_spent 0 bX14_spentx_0 = true := by decide +kernel
def bX14_spentx_2 : List vm_J := [(1, .iconst 0, 0, 0, 0, .int 0), (1, .istore_n 2, 0, 0, 0, .null)]
set_option maxRecDepth 20000 in
theorem oX14_spentx_2 : vm_okB 14 mX14_spent 2 bX14_spentx_2 = true := by decide +kernel
def bX14_spentx_4 : List vm_J := [(1, .iload_n 2, 0, 0, 0, .null), (2, .bipush 112, 0, 0, 0, .int 112), (3, .if_icmp .ge 25, 32, 0, 0, .null), (1, .iload_n 1, 0, 0, 0, .null), (1, .aload_n 0, 0, 0, 0, .null), (1, .iload_n 2, 0, 0, 0, .null), (3, .invokevirtual 670, 230, 1, 14, .null), (3, .ifCond .eq 7, 23, 0, 0, .null), (1, .iconst 0, 0, 0, 0, .int 0), (3, .goto 4, 24, 0, 0, .null)]
set_option maxRecDepth 20000 in
theorem oX14_spentx_4 : vm_okB 14 mX14_spent 4 bX14_spentx_4 = true := by decide +kernel
def bX14_spentx_23 : List vm_J := [(1, .iconst 1, 0, 0, 0, .int 1)]
set_option maxRecDepth 20000 in
theorem oX14_spentx_23 : vm_okB 14 mX14_spent 23 bX14_spentx_23 = true := by decide +kernel
def bX14_spentx_24 : List vm_J := [(1, .iadd, 0, 0, 0, .null), (1, .istore_n 1, 0, 0, 0, .null)]
set_option maxRecDepth 20000 in
theorem oX14_spentx_24 : vm_okB 14 mX14_spent 24 bX14_spentx_24 = true := by decide +kernel
def bX14_spentx_26 : List vm_J := [(3, .iinc 2 1, 0, 0, 0, .int 1), (3, .goto (-25), 4, 0, 0, .null)]
set_option maxRecDepth 20000 in
theorem oX14_spentx_26 : vm_okB 14 mX14_spent 26 bX14_spentx_26 = true := by decide +kernel
def bX14_spentx_32 : List vm_J := [(1, .iload_n 1, 0, 0, 0, .null), (1, .ireturn, 0, 0, 0, .null)]
set_option maxRecDepth 20000 in
theorem oX14_spentx_32 : vm_okB 14 mX14_spent 32 bX14_spentx_32 = true := by decide +kernel
def bX14_power_x_0 : List vm_J := [(1, .aload_n 0, 0, 0, 0, .null), (1, .iconst 0, 0, 0, 0, .int 0), (3, .putfield 1, 14, 0, 0, .null)]
set_option maxRecDepth 20000 in
theorem oX14_power_x_0 : vm_okB 14 mX14_power_ 0 bX14_power_x_0 = true := by decide +kernel
def bX14_power_x_5 : List vm_J := [(1, .aload_n 0, 0, 0, 0, .null), (1, .iconst 0, 0, 0, 0, .int 0), (3, .putfield 662, 14, 73, 2, .null)]
set_option maxRecDepth 20000 in
theorem oX14_power_x_5 : vm_okB 14 mX14_power_ 5 bX14_power_x_5 = true := by decide +kernel
def bX14_power_x_10 : List vm_J := [(1, .aload_n 0, 0, 0, 0, .null), (1, .iconst (-1), 0, 0, 0, .int (-1)), (3, .putfield 489, 14, 71, 0, .null)]
set_option maxRecDepth 20000 in
theorem oX14_power_x_10 : vm_okB 14 mX14_power_ 10 bX14_power_x_10 = true := by decide +kernel
def bX14_power_x_15 : List vm_J := [(1, .aload_n 0, 0, 0, 0, .null), (3, .invokevirtual 682, 235, 0, 14, .null), (1, .ireturn, 0, 0, 0, .null)]
set_option maxRecDepth 20000 in
theorem oX14_power_x_15 : vm_okB 14 mX14_power_ 15 bX14_power_x_15 = true := by decide +kernel
def bX14_countx_0 : List vm_J := [(1, .aload_n 0, 0, 0, 0, .null), (1, .iconst 0, 0, 0, 0, .int 0), (3, .putfield 1, 14, 0, 0, .null)]
set_option maxRecDepth 20000 in
theorem oX14_countx_0 : vm_okB 14 mX14_count 0 bX14_countx_0 = true := by decide +kernel
def bX14_countx_5 : List vm_J := [(1, .iconst 0, 0, 0, 0, .int 0), (1, .istore_n 2, 0, 0, 0, .null)]
set_option maxRecDepth 20000 in
theorem oX14_countx_5 : vm_okB 14 mX14_count 5 bX14_countx_5 = true := by decide +kernel
def bX14_countx_7 : List vm_J := [(1, .iload_n 1, 0, 0, 0, .null), (56, .tableswitch 185 0 9 #[56, 61, 96, 101, 136, 141, 146, 159, 175, 180], 0, 0, 0, .null)]
set_option maxRecDepth 20000 in
theorem oX14_countx_7 : vm_okB 14 mX14_count 7 bX14_countx_7 = true := by decide +kernel
def bX14_countx_64 : List vm_J := [(1, .aload_n 0, 0, 0, 0, .null), (3, .getfield 584, 14, 63, 0, .null), (1, .ireturn, 0, 0, 0, .null)]
set_option maxRecDepth 20000 in
theorem oX14_countx_64 : vm_okB 14 mX14_count 64 bX14_countx_64 = true := by decide +kernel
def bX14_countx_69 : List vm_J := [(1, .iconst 0, 0, 0, 0, .int 0), (1, .istore_n 3, 0, 0, 0, .null)]
set_option maxRecDepth 20000 in
theorem oX14_countx_69 : vm_okB 14 mX14_count 69 bX14_countx_69 = true := by decide +kernel
def bX14_countx_71 : List vm_J := [(1, .iload_n 3, 0, 0, 0, .null), (1, .aload_n 0, 0, 0, 0, .null), (3, .getfield 584, 14, 63, 0, .null), (3, .if_icmp .ge 26, 102, 0, 0, .null), (1, .iload_n 2, 0, 0, 0, .null), (1, .aload_n 0, 0, 0, 0, .null), (3, .getfield 453, 14, 55, 0, .null), (1, .iload_n 3, 0, 0, 0, .null), (1, .baload, 1, 0, 0, .null), (3, .ifCond .eq 7, 93, 0, 0, .null), (1, .iconst 1, 0, 0, 0, .int 1), (3, .goto 4, 94, 0, 0, .null)]
set_option maxRecDepth 20000 in
theorem oX14_countx_71 : vm_okB 14 mX14_count 71 bX14_countx_71 = true := by decide +kernel
def bX14_countx_93 : List vm_J := [(1, .iconst 0, 0, 0, 0, .int 0)]
set_option maxRecDepth 20000 in
theorem oX14_countx_93 : vm_okB 14 mX14_count 93 bX14_countx_93 = true := by decide +kernel
def bX14_countx_94 : List vm_J := [(1, .iadd, 0, 0, 0, .null), (1, .istore_n 2, 0, 0, 0, .null)]
set_option maxRecDepth 20000 in
theorem oX14_countx_94 : vm_okB 14 mX14_count 94 bX14_countx_94 = true := by decide +kernel
def bX14_countx_96 : List vm_J := [(3, .iinc 3 1, 0, 0, 0, .int 1), (3, .goto (-28), 71, 0, 0, .null)]
set_option maxRecDepth 20000 in
theorem oX14_countx_96 : vm_okB 14 mX14_count 96 bX14_countx_96 = true := by decide +kernel
def bX14_countx_102 : List vm_J := [(1, .iload_n 2, 0, 0, 0, .null), (1, .ireturn, 0, 0, 0, .null)]
set_option maxRecDepth 20000 in
theorem oX14_countx_102 : vm_okB 14 mX14_count 102 bX14_countx_102 = true := by decide +kernel
def bX14_countx_104 : List vm_J := [(1, .aload_n 0, 0, 0, 0, .null), (3, .getfield 598, 14, 68, 0, .null), (1, .ireturn, 0, 0, 0, .null)]
set_option maxRecDepth 20000 in
theorem oX14_countx_104 : vm_okB 14 mX14_count 104 bX14_countx_104 = true := by decide +kernel
def bX14_countx_109 : List vm_J := [(1, .iconst 0, 0, 0, 0, .int 0), (1, .istore_n 3, 0, 0, 0, .null)]
set_option maxRecDepth 20000 in
theorem oX14_countx_109 : vm_okB 14 mX14_count 109 bX14_countx_109 = true := by decide +kernel
def bX14_countx_111 : List vm_J := [(1, .iload_n 3, 0, 0, 0, .null), (1, .aload_n 0, 0, 0, 0, .null), (3, .getfield 598, 14, 68, 0, .null), (3, .if_icmp .ge 26, 142, 0, 0, .null), (1, .iload_n 2, 0, 0, 0, .null), (1, .aload_n 0, 0, 0, 0, .null), (3, .getfield 477, 14, 65, 0, .null), (1, .iload_n 3, 0, 0, 0, .null), (1, .baload, 1, 0, 0, .null), (3, .ifCond .eq 7, 133, 0, 0, .null), (1, .iconst 1, 0, 0, 0, .int 1), (3, .goto 4, 134, 0, 0, .null)]
set_option maxRecDepth 20000 in
theorem oX14_countx_111 : vm_okB 14 mX14_count 111 bX14_countx_111 = true := by decide +kernel
def bX14_countx_133 : List vm_J := [(1, .iconst 0, 0, 0, 0, .int 0)]
set_option maxRecDepth 20000 in
theorem oX14_countx_133 : vm_okB 14 mX14_count 133 bX14_countx_133 = true := by decide +kernel
def bX14_countx_134 : List vm_J := [(1, .iadd, 0, 0, 0, .null), (1, .istore_n 2, 0, 0, 0, .null)]
set_option maxRecDepth 20000 in
theorem oX14_countx_134 : vm_okB 14 mX14_count 134 bX14_countx_134 = true := by decide +kernel
def bX14_countx_136 : List vm_J := [(3, .iinc 3 1, 0, 0, 0, .int 1), (3, .goto (-28), 111, 0, 0, .null)]
set_option maxRecDepth 20000 in
theorem oX14_countx_136 : vm_okB 14 mX14_count 136 bX14_countx_136 = true := by decide +kernel
def bX14_countx_142 : List vm_J := [(1, .iload_n 2, 0, 0, 0, .null), (1, .ireturn, 0, 0, 0, .null)]
set_option maxRecDepth 20000 in
theorem oX14_countx_142 : vm_okB 14 mX14_count 142 bX14_countx_142 = true := by decide +kernel
def bX14_countx_144 : List vm_J := [(1, .aload_n 0, 0, 0, 0, .null), (3, .invokevirtual 682, 235, 0, 14, .null), (1, .ireturn, 0, 0, 0, .null)]
set_option maxRecDepth 20000 in
theorem oX14_countx_144 : vm_okB 14 mX14_count 144 bX14_countx_144 = true := by decide +kernel
def bX14_countx_149 : List vm_J := [(1, .aload_n 0, 0, 0, 0, .null), (3, .getfield 676, 14, 70, 0, .null), (1, .ireturn, 0, 0, 0, .null)]
set_option maxRecDepth 20000 in
theorem oX14_countx_149 : vm_okB 14 mX14_count 149 bX14_countx_149 = true := by decide +kernel
def bX14_countx_154 : List vm_J := [(1, .aload_n 0, 0, 0, 0, .null), (3, .getfield 662, 14, 73, 0, .null), (3, .ifCond .eq 7, 165, 0, 0, .null), (1, .iconst 1, 0, 0, 0, .int 1), (3, .goto 4, 166, 0, 0, .null)]
set_option maxRecDepth 20000 in
theorem oX14_countx_154 : vm_okB 14 mX14_count 154 bX14_countx_154 = true := by decide +kernel
def bX14_countx_165 : List vm_J := [(1, .iconst 0, 0, 0, 0, .int 0)]
set_option maxRecDepth 20000 in
theorem oX14_countx_165 : vm_okB 14 mX14_count 165 bX14_countx_165 = true := by decide +kernel
def bX14_countx_166 : List vm_J := [(1, .ireturn, 0, 0, 0, .null)]
set_option maxRecDepth 20000 in
theorem oX14_countx_166 : vm_okB 14 mX14_count 166 bX14_countx_166 = true := by decide +kernel
def bX14_countx_167 : List vm_J := [(1, .aload_n 0, 0, 0, 0, .null), (3, .getfield 662, 14, 73, 0, .null), (3, .ifCond .eq 7, 178, 0, 0, .null), (1, .iconst 0, 0, 0, 0, .int 0), (3, .goto 7, 182, 0, 0, .null)]
set_option maxRecDepth 20000 in
theorem oX14_countx_167 : vm_okB 14 mX14_count 167 bX14_countx_167 = true := by decide +kernel
def bX14_countx_178 : List vm_J := [(1, .aload_n 0, 0, 0, 0, .null), (3, .getfield 489, 14, 71, 0, .null)]
set_option maxRecDepth 20000 in
theorem oX14_countx_178 : vm_okB 14 mX14_count 178 bX14_countx_178 = true := by decide +kernel
def bX14_countx_182 : List vm_J := [(1, .ireturn, 0, 0, 0, .null)]
set_option maxRecDepth 20000 in
theorem oX14_countx_182 : vm_okB 14 mX14_count 182 bX14_countx_182 = true := by decide +kernel
def bX14_countx_183 : List vm_J := [(1, .aload_n 0, 0, 0, 0, .null), (3, .getfield 540, 14, 75, 0, .null), (1, .ireturn, 0, 0, 0, .null)]
set_option maxRecDepth 20000 in
theorem oX14_countx_183 : vm_okB 14 mX14_count 183 bX14_countx_183 = true := by decide +kernel
def bX14_countx_188 : List vm_J := [(1, .aload_n 0, 0, 0, 0, .null), (3, .getfield 679, 14, 72, 0, .null), (1, .ireturn, 0, 0, 0, .null)]
set_option maxRecDepth 20000 in
theorem oX14_countx_188 : vm_okB 14 mX14_count 188 bX14_countx_188 = true := by decide +kernel
def bX14_countx_193 : List vm_J := [(1, .iconst (-1), 0, 0, 0, .int (-1)), (1, .ireturn, 0, 0, 0, .null)]
set_option maxRecDepth 20000 in
theorem oX14_countx_193 : vm_okB 14 mX14_count 193 bX14_countx_193 = true := by decide +kernel
theorem lc_9 {a b : Nat} (ha : a < 4294967296) (hb : b < 4294967296) : 0 < lg_cmp (lZ (a : Int)) (lZ (b : Int)) ↔ b < a := by
  rcases Nat.lt_trichotomy a b with z | z | z
  · rw [lc_lt hb z]
    exact ⟨fun q => absurd q (by decide), fun q => by omega⟩
  · rw [z, lc_ee]
    exact ⟨fun q => absurd q (by decide), fun q => by omega⟩
  · rw [lc_gt ha z]
    exact ⟨fun _ => z, fun _ => by decide⟩
theorem pl_e (k : Nat) : 512 * (k / 14) + 36 * (k % 14) = pl k := by unfold pl; rw [Nat.mul_comm, Nat.mul_comm 36]
section
variable {l : Launch} {O : Nat → vm_Ob} {f9 : Value} {h h' : vm_H} {a kn an rd wr : Nat} {t : KT} {g g' : Nat → Int32} {m y w ou : List Nat} {kf : Nat → aK} {af : Nat → aA} {D : Nat → Nat} {dn : Bool} {wl : Int} {th : Int32}
theorem rm_slot {k : Nat} (hk : k < 112) : vm_Met (vm_env l O f9) mX14_slot 0 0 [.int (nI k)] h (fun r h' => r = some (.int (nI (pl k))) ∧ h' = h) := by
  refine vm_met rfl (Nat.le_of_ble_eq_true rfl) ?_
  have ed : nI k / 14 = nI (k / 14) := nI_div (b := 14) (by omega) (by decide)
  have er : nI k - nI k / 14 * 14 = nI (k % 14) := nI_rem (b := 14) (by omega) (by decide)
  refine vm_go rfl bX14_slot_0 oX14_slot_0 ⟨by decide, ⟨by decide, ⟨?_, rfl⟩⟩⟩
  have e : (512 : Int32) * (nI k / 14) + 36 * (nI k - nI k / 14 * 14) = nI (pl k) := by
    rw [er, ed, show (512 : Int32) * nI (k / 14) = nI (512 * (k / 14)) from nI_mul 512 _, show (36 : Int32) * nI (k % 14) = nI (36 * (k % 14)) from nI_mul 36 _, nI_add, pl_e]
  exact congrArg (fun q => some (Value.int q)) e
theorem rm_isFree {k : Nat} {w9 : List Nat} (kk : SY h a t g w9 m y) (hD : bv h 4096 (a + 152) D) (hk : k < 112) : vm_Met (vm_env l O f9) mX14_isFree 0 0 [.ref a, .int (nI k)] h (fun r h' => r = some (.int (bi (!tkn D k))) ∧ h' = h) := by
  obtain ⟨f, ef, vf⟩ := hD
  have hp := pl_lt hk
  have p0 : pl k < 4096 := by omega
  have p1 : pl k + 1 < 4096 := by omega
  have p2 : pl k + 2 < 4096 := by omega
  have p3 : pl k + 3 < 4096 := by omega
  refine vm_met rfl (Nat.le_of_ble_eq_true rfl) ?_
  refine vm_go rfl bX14_isFreex_0 oX14_isFreex_0 ⟨0, 0, _, rm_slot hk, Nat.zero_le _, Nat.zero_le _, ?_⟩
  rintro _ h1 ⟨rfl, e1⟩
  rw [e1]; clear e1 h1
  refine vm_Th (lv' := [(0, .ref a), (1, .int (nI k)), (2, .int (nI (pl k)))]) (h' := h) rfl rfl ?_
  have yes : tkn D k = true → vm_T (vm_env l O f9) mX14_isFree 0 0 51 [(0, .ref a), (1, .int (nI k)), (2, .int (nI (pl k)))] [] h (fun r h' => r = some (.int (bi (!tkn D k))) ∧ h' = h) := fun e => vm_go rfl bX14_isFreex_51 oX14_isFreex_51 (vm_go rfl bX14_isFreex_52 oX14_isFreex_52 ⟨rfl, by rw [e]; rfl, rfl⟩)
  have z0 : ∀ j, j < 4096 → (f j = 0 ↔ D j = 0) := fun j hj => by
    rw [(vf j hj).1]; exact sb_eq _ (vf j hj).2 0 (by decide)
  have nz0 : D (pl k) ≠ 0 → tkn D k = true := fun n9 => by
    unfold tkn
    simp [n9]
  have nz : ∀ j, (j = 0 ∨ j = 1 ∨ j = 2 ∨ j = 3) → D (pl k + j) ≠ 0 → tkn D k = true := fun j hj n9 => by
    unfold tkn
    rcases hj with rfl | rfl | rfl | rfl
    · rw [Nat.add_zero] at n9
      simp [n9]
    · simp [n9]
    · simp [n9]
    · simp [n9]
  refine vm_go rfl bX14_isFreex_5 oX14_isFreex_5 ⟨_, _, kk.1.1, rfl, ⟨4096, f, ef, pl k, rfl, p0, fun _ => ⟨fun q => yes (nz0 (fun z => q ((z0 (pl k) p0).mpr z))), fun q0 => ⟨_, _, kk.1.1, rfl, ⟨4096, f, ef, pl k + 1, nI_add _ 1, p1, fun _ => ⟨fun q => yes (nz 1 (by decide) (fun z => q ((z0 (pl k + 1) p1).mpr z))), fun q1 => ⟨_, _, kk.1.1, rfl, ⟨4096, f, ef, pl k + 2, nI_add _ 2, p2, fun _ => ⟨fun q => yes (nz 2 (by decide) (fun z => q ((z0 (pl k + 2) p2).mpr z))), fun q2 => ⟨_, _, kk.1.1, rfl, ⟨4096, f, ef, pl k + 3, nI_add _ 3, p3, fun _ => ⟨fun q => yes (nz 3 (by decide) (fun z => q ((z0 (pl k + 3) p3).mpr z))), fun q3 => ?_⟩⟩⟩⟩⟩⟩⟩⟩⟩⟩⟩⟩
  have e9 : tkn D k = false := by
    unfold tkn
    rw [(z0 (pl k) p0).mp q0, (z0 (pl k + 1) p1).mp q1, (z0 (pl k + 2) p2).mp q2, (z0 (pl k + 3) p3).mp q3]
    rfl
  exact vm_go rfl bX14_isFreex_52 oX14_isFreex_52 ⟨rfl, by rw [e9]; rfl, rfl⟩
theorem rm_spent {w9 : List Nat} (kk : SY h a t g w9 m y) (hD : bv h 4096 (a + 152) D) : vm_Met (vm_env l O f9) mX14_spent 0 0 [.ref a] h (fun r h' => r = some (.int (nI (cnt D 112))) ∧ h' = h) := by
  refine vm_met rfl (Nat.le_of_ble_eq_true rfl) ?_
  refine vm_go rfl bX14_spentx_0 oX14_spentx_0 ?_
  refine vm_Th (lv' := [(0, .ref a), (1, .int (nI 0))]) (h' := h) rfl rfl ?_
  refine vm_go rfl bX14_spentx_2 oX14_spentx_2 ?_
  refine vm_Th (lv' := [(0, .ref a), (1, .int (nI (cnt D 0))), (2, .int (nI 0))]) (h' := h) rfl rfl ?_
  refine vm_for 112 (fun i => [(0, .ref a), (1, .int (nI (cnt D i))), (2, .int (nI i))]) (fun _ => h) 0 (by decide) ?_ ?_
  · refine vm_go rfl bX14_spentx_4 oX14_spentx_4 ⟨fun _ => ?_, fun z => absurd (nI_le (a := 112) (b := 112) (by decide) (by decide)) z⟩
    exact vm_go rfl bX14_spentx_32 oX14_spentx_32 ⟨rfl, rfl⟩
  · intro i _ hi ih
    refine vm_go rfl bX14_spentx_4 oX14_spentx_4 ⟨fun z => absurd z (nI_ge (b := 112) hi (by decide)), fun _ => ⟨_, kk.1.1, 0, 0, _, rm_isFree kk hD hi, Nat.zero_le _, Nat.zero_le _, ?_⟩⟩
    rintro _ h1 ⟨rfl, e1⟩
    rw [e1]; clear e1 h1
    have nx : ∀ x : Nat, cnt D i + x = cnt D (i + 1) → vm_T (vm_env l O f9) mX14_spent 0 0 24 [(0, .ref a), (1, .int (nI (cnt D i))), (2, .int (nI i))] [.int (nI x), .int (nI (cnt D i))] h (fun r h' => r = some (.int (nI (cnt D 112))) ∧ h' = h) := fun x ex => by
      refine vm_go rfl bX14_spentx_24 oX14_spentx_24 ?_
      refine vm_Th (lv' := [(0, .ref a), (1, .int (nI (cnt D (i + 1)))), (2, .int (nI i))]) (h' := h) (by rw [← ex, ← nI_add]; rfl) rfl ?_
      refine vm_go rfl bX14_spentx_26 oX14_spentx_26 ?_
      exact vm_Th (by rw [← nI_1 i]; rfl) rfl ih
    cases e : tkn D i with
    | true =>
      refine ⟨fun _ => vm_go rfl bX14_spentx_23 oX14_spentx_23 (nx 1 ?_), fun q => absurd rfl q⟩
      show _ = cnt D i + (if tkn D i = true then 1 else 0)
      rw [if_pos e]
    | false =>
      refine ⟨fun q => absurd q (by decide), fun _ => nx 0 ?_⟩
      show _ = cnt D i + (if tkn D i = true then 1 else 0)
      rw [e]; rfl

theorem rp_power (K : RM h a t th w ou kn an rd kf af D dn wl wr) : vm_Met (vm_env l O f9) mX14_power_ 0 0 [.ref a] h (fun r h' => r = some (.int (nI (cnt D 112))) ∧ RM h' a t 0 w ou kn an rd kf af D false (-1) wr ∧ fr h h' (RF a)) := by
  obtain ⟨g, m, y, k, G, st⟩ := K
  have ao := k.1.2.1
  have la : a < 1099511627776 := by omega
  refine vm_met rfl (Nat.le_of_ble_eq_true rfl) ?_
  refine vm_go rfl bX14_power_x_0 oX14_power_x_0 ⟨_, k.1.1, la, show 0 < 89 by decide, trivial, ?_⟩
  obtain ⟨h1, eh1⟩ : ∃ h1, h1 = vm_up h a (RO a (u3 (ug g 0 0) (nI ([] : List Nat).length) (nI m.length) (nI y.length))) := ⟨_, rfl⟩
  obtain ⟨k1, F1⟩ := SY_g k eh1
  have st1 := ST_fr st F1 (fun q z => by unfold scr; omega)
  have G1 := RG_th G
  have F1 : fr h h1 (RF a) := fr_mono F1 (fun q z => by unfold RF; omega)
  refine vm_Th (lv' := [(0, .ref a)]) (h' := h1) rfl eh1 ?_
  refine vm_go rfl bX14_power_x_5 oX14_power_x_5 ⟨_, k1.1.1, la, show 73 < 89 by decide, Or.inl rfl, ?_⟩
  obtain ⟨h2, eh2⟩ : ∃ h2, h2 = vm_up h1 a (RO a (u3 (ug (ug g 0 0) 73 0) (nI ([] : List Nat).length) (nI m.length) (nI y.length))) := ⟨_, rfl⟩
  obtain ⟨k2, F2⟩ := SY_g k1 eh2
  refine vm_Th (lv' := [(0, .ref a)]) (h' := h2) rfl eh2 ?_
  refine vm_go rfl bX14_power_x_10 oX14_power_x_10 ⟨_, k2.1.1, la, show 71 < 89 by decide, trivial, ?_⟩
  obtain ⟨h3, eh3⟩ : ∃ h3, h3 = vm_up h2 a (RO a (u3 (ug (ug (ug g 0 0) 73 0) 71 (-1)) (nI ([] : List Nat).length) (nI m.length) (nI y.length))) := ⟨_, rfl⟩
  obtain ⟨k3, F3⟩ := SY_g k2 eh3
  refine vm_Th (lv' := [(0, .ref a)]) (h' := h3) rfl eh3 ?_
  have F13 : fr h1 h3 (fun q => q = a) := fr_trans F2 F3
  have st3 := ST_fr st1 F13 (fun q z => by unfold scr; omega)
  refine vm_go rfl bX14_power_x_15 oX14_power_x_15 ⟨_, k3.1.1, 0, 0, _, rm_spent k3 st3.2.2.1, Nat.zero_le _, Nat.zero_le _, ?_⟩
  rintro _ h4 ⟨rfl, e4⟩
  rw [e4]
  exact ⟨rfl, ⟨_, _, _, k3, ⟨G1.1, G1.2.1, G1.2.2.1, G1.2.2.2.1, rfl, G1.2.2.2.2.2.1, rfl, G1.2.2.2.2.2.2.2.1, G1.2.2.2.2.2.2.2.2⟩, st3⟩, fr_trans F1 (fr_mono F13 (fun q z => by unfold RF; omega))⟩
theorem rp_count {z : Int} (hz : i32 z) (hdn : dn = true → wl = 0) (K : RM h a t th w ou kn an rd kf af D dn wl wr) : vm_Met (vm_env l O f9) mX14_count 0 0 [.ref a, .int (iZ z)] h (fun r h' => r = some (.int (ctF z kn (cb (fun i => klv (kf i)) kn) an (cb (fun i => aop (af i)) an) (cnt D 112) wr dn wl w.length rd)) ∧ RM h' a t 0 w ou kn an rd kf af D dn wl wr ∧ fr h h' (RF a)) := by
  obtain ⟨g, m, y, k, G, st⟩ := K
  have ao := k.1.2.1
  have la : a < 1099511627776 := by omega
  refine vm_met rfl (Nat.le_of_ble_eq_true rfl) ?_
  refine vm_go rfl bX14_countx_0 oX14_countx_0 ⟨_, k.1.1, la, show 0 < 89 by decide, trivial, ?_⟩
  obtain ⟨h1, eh1⟩ : ∃ h1, h1 = vm_up h a (RO a (u3 (ug g 0 0) (nI ([] : List Nat).length) (nI m.length) (nI y.length))) := ⟨_, rfl⟩
  obtain ⟨k1, F1⟩ := SY_g k eh1
  have st1 := ST_fr st F1 (fun q z => by unfold scr; omega)
  have G1 := RG_th G
  have F1 : fr h h1 (RF a) := fr_mono F1 (fun q z => by unfold RF; omega)
  refine vm_Th (lv' := [(0, .ref a), (1, .int (iZ z))]) (h' := h1) rfl eh1 ?_
  have ez := iZ_toInt hz.1 hz.2
  have K1 : RM h1 a t 0 w ou kn an rd kf af D dn wl wr := ⟨_, _, _, k1, G1, st1⟩
  have hkn := st1.2.2.2.2.2.2.2.1
  have han := st1.2.2.2.2.2.2.2.2
  refine vm_go rfl bX14_countx_5 oX14_countx_5 ?_
  refine vm_Th (lv' := [(0, .ref a), (1, .int (iZ z)), (2, .int (nI 0))]) (h' := h1) rfl rfl ?_
  suffices H : ∀ Q : Option Value → vm_H → Prop, (∀ v, v = ctF z kn (cb (fun i => klv (kf i)) kn) an (cb (fun i => aop (af i)) an) (cnt D 112) wr dn wl w.length rd → Q (some (.int v)) h1) → vm_T (vm_env l O f9) mX14_count 0 0 7 [(0, .ref a), (1, .int (iZ z)), (2, .int (nI 0))] [] h1 Q from H _ (fun v e => ⟨by rw [e], K1, F1⟩)
  intro Q hQ
  by_cases ho : z < 0 ∨ 9 < z
  · refine vm_go rfl bX14_countx_7 oX14_countx_7 ⟨193, Or.inl ⟨by rw [ez]; exact ho, rfl⟩, ?_⟩
    refine vm_go rfl bX14_countx_193 oX14_countx_193 (hQ _ ?_)
    unfold ctF
    rw [if_neg (by omega), if_neg (by omega), if_neg (by omega), if_neg (by omega), if_neg (by omega), if_neg (by omega), if_neg (by omega), if_neg (by omega), if_neg (by omega), if_neg (by omega)]
  rcases (show z = 0 ∨ z = 1 ∨ z = 2 ∨ z = 3 ∨ z = 4 ∨ z = 5 ∨ z = 6 ∨ z = 7 ∨ z = 8 ∨ z = 9 by omega) with rfl | rfl | rfl | rfl | rfl | rfl | rfl | rfl | rfl | rfl
  · refine vm_go rfl bX14_countx_7 oX14_countx_7 ⟨64, Or.inr ⟨by rw [ez]; decide, by rw [ez]; decide, 56, by rw [ez]; rfl, rfl⟩, ?_⟩
    exact vm_go rfl bX14_countx_64 oX14_countx_64 ⟨_, _, k1.1.1, rfl, hQ _ G1.2.1⟩
  · refine vm_go rfl bX14_countx_7 oX14_countx_7 ⟨69, Or.inr ⟨by rw [ez]; decide, by rw [ez]; decide, 61, by rw [ez]; rfl, rfl⟩, ?_⟩
    obtain ⟨fl, el, vl⟩ := st1.1.2.1
    refine vm_go rfl bX14_countx_69 oX14_countx_69 ?_
    refine vm_Th (lv' := [(0, .ref a), (1, .int (iZ 1)), (2, .int (nI (cb (fun i => klv (kf i)) 0))), (3, .int (nI 0))]) (h' := h1) rfl rfl ?_
    refine vm_for kn (fun j => [(0, .ref a), (1, .int (iZ 1)), (2, .int (nI (cb (fun i => klv (kf i)) j))), (3, .int (nI j))]) (fun _ => h1) 0 (Nat.zero_le _) ?_ ?_
    · refine vm_go rfl bX14_countx_71 oX14_countx_71 ⟨_, _, k1.1.1, rfl, ⟨fun _ => ?_, fun q => ?_⟩⟩
      · exact vm_go rfl bX14_countx_102 oX14_countx_102 (hQ _ rfl)
      · have q : ¬ ug g 0 0 63 ≤ nI kn := q
        rw [G1.2.1] at q
        exact absurd (nI_le (Nat.le_refl _) (by omega)) q
    · intro j _ hj ih
      have nx : ∀ x : Nat, cb (fun i => klv (kf i)) j + x = cb (fun i => klv (kf i)) (j + 1) → vm_T (vm_env l O f9) mX14_count 0 0 94 [(0, .ref a), (1, .int (iZ 1)), (2, .int (nI (cb (fun i => klv (kf i)) j))), (3, .int (nI j))] [.int (nI x), .int (nI (cb (fun i => klv (kf i)) j))] h1 Q := fun x ex => by
        refine vm_go rfl bX14_countx_94 oX14_countx_94 ?_
        refine vm_Th (lv' := [(0, .ref a), (1, .int (iZ 1)), (2, .int (nI (cb (fun i => klv (kf i)) (j + 1)))), (3, .int (nI j))]) (h' := h1) (by rw [← ex, ← nI_add]; rfl) rfl ?_
        refine vm_go rfl bX14_countx_96 oX14_countx_96 ?_
        exact vm_Th (by rw [← nI_1 j]; rfl) rfl ih
      have vj := vl j hj
      refine vm_go rfl bX14_countx_71 oX14_countx_71 ⟨_, _, k1.1.1, rfl, ⟨fun q => ?_, fun _ => ⟨_, _, k1.1.1, rfl, ⟨6, fl, el, j, rfl, by omega, fun _ => ?_⟩⟩⟩⟩
      · have q : ug g 0 0 63 ≤ nI j := q
        rw [G1.2.1] at q
        exact absurd q (nI_ge hj (by omega))
      rw [vj]
      cases e : (fun i => klv (kf i)) j with
      | true =>
        refine ⟨fun q => absurd (show bi ((fun i => klv (kf i)) j) = 0 from q) (by rw [e]; decide), fun _ => nx 1 ?_⟩
        show _ = cb _ j + (if (fun i => klv (kf i)) j = true then 1 else 0)
        rw [if_pos e]
      | false =>
        refine ⟨fun _ => vm_go rfl bX14_countx_93 oX14_countx_93 (nx 0 ?_), fun q => absurd (show bi ((fun i => klv (kf i)) j) = 0 by rw [e]; rfl) q⟩
        show _ = cb _ j + (if (fun i => klv (kf i)) j = true then 1 else 0)
        rw [e]; rfl
  · refine vm_go rfl bX14_countx_7 oX14_countx_7 ⟨104, Or.inr ⟨by rw [ez]; decide, by rw [ez]; decide, 96, by rw [ez]; rfl, rfl⟩, ?_⟩
    exact vm_go rfl bX14_countx_104 oX14_countx_104 ⟨_, _, k1.1.1, rfl, hQ _ G1.2.2.1⟩
  · refine vm_go rfl bX14_countx_7 oX14_countx_7 ⟨109, Or.inr ⟨by rw [ez]; decide, by rw [ez]; decide, 101, by rw [ez]; rfl, rfl⟩, ?_⟩
    obtain ⟨fl, el, vl⟩ := st1.2.1.2.1
    refine vm_go rfl bX14_countx_109 oX14_countx_109 ?_
    refine vm_Th (lv' := [(0, .ref a), (1, .int (iZ 3)), (2, .int (nI (cb (fun i => aop (af i)) 0))), (3, .int (nI 0))]) (h' := h1) rfl rfl ?_
    refine vm_for an (fun j => [(0, .ref a), (1, .int (iZ 3)), (2, .int (nI (cb (fun i => aop (af i)) j))), (3, .int (nI j))]) (fun _ => h1) 0 (Nat.zero_le _) ?_ ?_
    · refine vm_go rfl bX14_countx_111 oX14_countx_111 ⟨_, _, k1.1.1, rfl, ⟨fun _ => ?_, fun q => ?_⟩⟩
      · exact vm_go rfl bX14_countx_142 oX14_countx_142 (hQ _ rfl)
      · have q : ¬ ug g 0 0 68 ≤ nI an := q
        rw [G1.2.2.1] at q
        exact absurd (nI_le (Nat.le_refl _) (by omega)) q
    · intro j _ hj ih
      have nx : ∀ x : Nat, cb (fun i => aop (af i)) j + x = cb (fun i => aop (af i)) (j + 1) → vm_T (vm_env l O f9) mX14_count 0 0 134 [(0, .ref a), (1, .int (iZ 3)), (2, .int (nI (cb (fun i => aop (af i)) j))), (3, .int (nI j))] [.int (nI x), .int (nI (cb (fun i => aop (af i)) j))] h1 Q := fun x ex => by
        refine vm_go rfl bX14_countx_134 oX14_countx_134 ?_
        refine vm_Th (lv' := [(0, .ref a), (1, .int (iZ 3)), (2, .int (nI (cb (fun i => aop (af i)) (j + 1)))), (3, .int (nI j))]) (h' := h1) (by rw [← ex, ← nI_add]; rfl) rfl ?_
        refine vm_go rfl bX14_countx_136 oX14_countx_136 ?_
        exact vm_Th (by rw [← nI_1 j]; rfl) rfl ih
      have vj := vl j hj
      refine vm_go rfl bX14_countx_111 oX14_countx_111 ⟨_, _, k1.1.1, rfl, ⟨fun q => ?_, fun _ => ⟨_, _, k1.1.1, rfl, ⟨60, fl, el, j, rfl, by omega, fun _ => ?_⟩⟩⟩⟩
      · have q : ug g 0 0 68 ≤ nI j := q
        rw [G1.2.2.1] at q
        exact absurd q (nI_ge hj (by omega))
      rw [vj]
      cases e : (fun i => aop (af i)) j with
      | true =>
        refine ⟨fun q => absurd (show bi ((fun i => aop (af i)) j) = 0 from q) (by rw [e]; decide), fun _ => nx 1 ?_⟩
        show _ = cb _ j + (if (fun i => aop (af i)) j = true then 1 else 0)
        rw [if_pos e]
      | false =>
        refine ⟨fun _ => vm_go rfl bX14_countx_133 oX14_countx_133 (nx 0 ?_), fun q => absurd (show bi ((fun i => aop (af i)) j) = 0 by rw [e]; rfl) q⟩
        show _ = cb _ j + (if (fun i => aop (af i)) j = true then 1 else 0)
        rw [e]; rfl
  · refine vm_go rfl bX14_countx_7 oX14_countx_7 ⟨144, Or.inr ⟨by rw [ez]; decide, by rw [ez]; decide, 136, by rw [ez]; rfl, rfl⟩, ?_⟩
    refine vm_go rfl bX14_countx_144 oX14_countx_144 ⟨_, k1.1.1, 0, 0, _, rm_spent k1 st1.2.2.1, Nat.zero_le _, Nat.zero_le _, ?_⟩
    rintro _ h4 ⟨rfl, e4⟩
    rw [e4]
    exact hQ _ rfl
  · refine vm_go rfl bX14_countx_7 oX14_countx_7 ⟨149, Or.inr ⟨by rw [ez]; decide, by rw [ez]; decide, 141, by rw [ez]; rfl, rfl⟩, ?_⟩
    exact vm_go rfl bX14_countx_149 oX14_countx_149 ⟨_, _, k1.1.1, rfl, hQ _ G1.2.2.2.1⟩
  · refine vm_go rfl bX14_countx_7 oX14_countx_7 ⟨154, Or.inr ⟨by rw [ez]; decide, by rw [ez]; decide, 146, by rw [ez]; rfl, rfl⟩, ?_⟩
    have e9 := G1.2.2.2.2.2.2.1
    cases dn with
    | true => exact vm_go rfl bX14_countx_154 oX14_countx_154 ⟨_, _, k1.1.1, rfl, ⟨fun q => absurd (e9.symm.trans q) (by decide), fun _ => vm_go rfl bX14_countx_166 oX14_countx_166 (hQ _ rfl)⟩⟩
    | false => exact vm_go rfl bX14_countx_154 oX14_countx_154 ⟨_, _, k1.1.1, rfl, ⟨fun _ => vm_go rfl bX14_countx_165 oX14_countx_165 (vm_go rfl bX14_countx_166 oX14_countx_166 (hQ _ rfl)), fun q => absurd e9 q⟩⟩
  · refine vm_go rfl bX14_countx_7 oX14_countx_7 ⟨167, Or.inr ⟨by rw [ez]; decide, by rw [ez]; decide, 159, by rw [ez]; rfl, rfl⟩, ?_⟩
    have e9 := G1.2.2.2.2.2.2.1
    cases dn with
    | true => exact vm_go rfl bX14_countx_167 oX14_countx_167 ⟨_, _, k1.1.1, rfl, ⟨fun q => absurd (e9.symm.trans q) (by decide), fun _ => vm_go rfl bX14_countx_182 oX14_countx_182 (hQ _ (by rw [hdn rfl]; rfl))⟩⟩
    | false => exact vm_go rfl bX14_countx_167 oX14_countx_167 ⟨_, _, k1.1.1, rfl, ⟨fun _ => vm_go rfl bX14_countx_178 oX14_countx_178 ⟨_, _, k1.1.1, rfl, vm_go rfl bX14_countx_182 oX14_countx_182 (hQ _ G1.2.2.2.2.1)⟩, fun q => absurd e9 q⟩⟩
  · refine vm_go rfl bX14_countx_7 oX14_countx_7 ⟨183, Or.inr ⟨by rw [ez]; decide, by rw [ez]; decide, 175, by rw [ez]; rfl, rfl⟩, ?_⟩
    exact vm_go rfl bX14_countx_183 oX14_countx_183 ⟨_, _, k1.1.1, rfl, hQ _ G1.2.2.2.2.2.2.2.1⟩
  · refine vm_go rfl bX14_countx_7 oX14_countx_7 ⟨188, Or.inr ⟨by rw [ez]; decide, by rw [ez]; decide, 180, by rw [ez]; rfl, rfl⟩, ?_⟩
    exact vm_go rfl bX14_countx_188 oX14_countx_188 ⟨_, _, k1.1.1, rfl, hQ _ G1.2.2.2.2.2.1⟩
end
