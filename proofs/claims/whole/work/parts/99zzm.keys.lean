/-! the reference: key -/
def bX14_keyOnex_0 : List vm_J := [(1, .aload_n 0, 0, 0, 0, .null), (3, .getfield 492, 14, 74, 0, .null), (1, .iconst 0, 0, 0, 0, .int 0), (2, .bipush 48, 0, 0, 0, .int 48), (1, .aload_n 0, 0, 0, 0, .null), (3, .getfield 395, 14, 50, 0, .null), (2, .bipush 12, 0, 0, 0, .int 12), (3, .invokestatic 176, 155, 5, 0, .null), (1, .iload_n 1, 0, 0, 0, .null), (2, .bipush 48, 0, 0, 0, .int 48), (3, .if_icmp .ne 13, 32, 0, 0, .null), (1, .aload_n 0, 0, 0, 0, .null), (3, .getfield 395, 14, 50, 0, .null), (3, .invokestatic 580, 164, 1, 0, .null), (3, .ifCond .ne 6, 35, 0, 0, .null)]
set_option maxRecDepth 20000 in
theorem oX14_keyOnex_0 : vm_okB 14 mX14_keyOne 0 bX14_keyOnex_0 = true := by decide +kernel
def bX14_keyOnex_32 : List vm_J := [(2, .bipush (-2), 0, 0, 0, .int (-2)), (1, .ireturn, 0, 0, 0, .null)]
set_option maxRecDepth 20000 in
theorem oX14_keyOnex_32 : vm_okB 14 mX14_keyOne 32 bX14_keyOnex_32 = true := by decide +kernel
def bX14_keyOnex_35 : List vm_J := [(1, .aload_n 0, 0, 0, 0, .null), (3, .getfield 584, 14, 63, 0, .null), (2, .bipush 6, 0, 0, 0, .int 6), (3, .if_icmp .ne 6, 47, 0, 0, .null), (2, .bipush (-6), 0, 0, 0, .int (-6)), (1, .ireturn, 0, 0, 0, .null)]
set_option maxRecDepth 20000 in
theorem oX14_keyOnex_35 : vm_okB 14 mX14_keyOne 35 bX14_keyOnex_35 = true := by decide +kernel
def bX14_keyOnex_47 : List vm_J := [(1, .aload_n 0, 0, 0, 0, .null), (3, .getfield 395, 14, 50, 0, .null), (1, .aload_n 0, 0, 0, 0, .null), (3, .getfield 433, 14, 57, 0, .null), (1, .aload_n 0, 0, 0, 0, .null), (3, .getfield 584, 14, 63, 0, .null), (1, .aaload, 0, 0, 0, .null), (2, .bipush 12, 0, 0, 0, .int 12), (3, .invokestatic 68, 141, 3, 0, .null), (1, .aload_n 0, 0, 0, 0, .null), (1, .aload_n 0, 0, 0, 0, .null), (3, .getfield 395, 14, 50, 0, .null), (1, .aload_n 0, 0, 0, 0, .null), (3, .getfield 423, 14, 10, 0, .null), (1, .aload_n 0, 0, 0, 0, .null), (3, .getfield 416, 14, 58, 0, .null), (1, .aload_n 0, 0, 0, 0, .null), (3, .getfield 584, 14, 63, 0, .null), (1, .aaload, 0, 0, 0, .null), (3, .invokevirtual 404, 158, 3, 14, .null), (1, .aload_n 0, 0, 0, 0, .null), (3, .getfield 468, 14, 61, 0, .null), (1, .aload_n 0, 0, 0, 0, .null), (3, .getfield 584, 14, 63, 0, .null), (2, .bipush 48, 0, 0, 0, .int 48), (1, .iastore, 0, 0, 0, .null)]
set_option maxRecDepth 20000 in
theorem oX14_keyOnex_47 : vm_okB 14 mX14_keyOne 47 bX14_keyOnex_47 = true := by decide +kernel
def bX14_keyOnex_97 : List vm_J := [(1, .aload_n 0, 0, 0, 0, .null), (1, .iconst 1, 0, 0, 0, .int 1), (3, .invokevirtual 587, 208, 1, 14, .null), (1, .ireturn, 0, 0, 0, .null)]
set_option maxRecDepth 20000 in
theorem oX14_keyOnex_97 : vm_okB 14 mX14_keyOne 97 bX14_keyOnex_97 = true := by decide +kernel
def bX14_keyTwox_0 : List vm_J := [(1, .iload_n 1, 0, 0, 0, .null), (1, .iconst 4, 0, 0, 0, .int 4), (1, .isub, 0, 0, 0, .null), (1, .iconst 2, 0, 0, 0, .int 2), (1, .idiv, 0, 0, 0, .null), (1, .istore_n 2, 0, 0, 0, .null)]
set_option maxRecDepth 20000 in
theorem oX14_keyTwox_0 : vm_okB 14 mX14_keyTwo 0 bX14_keyTwox_0 = true := by decide +kernel
def bX14_keyTwox_6 : List vm_J := [(1, .iload_n 1, 0, 0, 0, .null), (1, .iconst 2, 0, 0, 0, .int 2), (1, .irem, 0, 0, 0, .null), (3, .ifCond .ne 16, 25, 0, 0, .null), (1, .iload_n 2, 0, 0, 0, .null), (2, .bipush 66, 0, 0, 0, .int 66), (3, .if_icmp .lt 10, 25, 0, 0, .null), (1, .iload_n 2, 0, 0, 0, .null), (3, .sipush 256, 0, 0, 0, .int 256), (3, .if_icmp .le 6, 28, 0, 0, .null)]
set_option maxRecDepth 20000 in
theorem oX14_keyTwox_6 : vm_okB 14 mX14_keyTwo 6 bX14_keyTwox_6 = true := by decide +kernel
def bX14_keyTwox_25 : List vm_J := [(2, .bipush (-2), 0, 0, 0, .int (-2)), (1, .ireturn, 0, 0, 0, .null)]
set_option maxRecDepth 20000 in
theorem oX14_keyTwox_25 : vm_okB 14 mX14_keyTwo 25 bX14_keyTwox_25 = true := by decide +kernel
def bX14_keyTwox_28 : List vm_J := [(1, .aload_n 0, 0, 0, 0, .null), (3, .getfield 492, 14, 74, 0, .null), (1, .iload_n 2, 0, 0, 0, .null), (1, .baload, 0, 0, 0, .null), (3, .sipush 255, 0, 0, 0, .int 255), (1, .iand, 0, 0, 0, .null), (2, .bipush 16, 0, 0, 0, .int 16), (1, .ishl, 0, 0, 0, .null), (1, .aload_n 0, 0, 0, 0, .null), (3, .getfield 492, 14, 74, 0, .null), (1, .iload_n 2, 0, 0, 0, .null), (1, .iconst 1, 0, 0, 0, .int 1), (1, .iadd, 0, 0, 0, .null), (1, .baload, 0, 0, 0, .null), (3, .sipush 255, 0, 0, 0, .int 255), (1, .iand, 0, 0, 0, .null), (2, .bipush 8, 0, 0, 0, .int 8), (1, .ishl, 0, 0, 0, .null), (1, .ior, 0, 0, 0, .null), (1, .aload_n 0, 0, 0, 0, .null), (3, .getfield 492, 14, 74, 0, .null), (1, .iload_n 2, 0, 0, 0, .null), (1, .iconst 2, 0, 0, 0, .int 2), (1, .iadd, 0, 0, 0, .null), (1, .baload, 0, 0, 0, .null), (3, .sipush 255, 0, 0, 0, .int 255), (1, .iand, 0, 0, 0, .null), (1, .ior, 0, 0, 0, .null), (1, .istore_n 3, 0, 0, 0, .null)]
set_option maxRecDepth 20000 in
theorem oX14_keyTwox_28 : vm_okB 14 mX14_keyTwo 28 bX14_keyTwox_28 = true := by decide +kernel
def bX14_keyTwox_71 : List vm_J := [(1, .aload_n 0, 0, 0, 0, .null), (3, .getfield 492, 14, 74, 0, .null), (1, .iload_n 1, 0, 0, 0, .null), (1, .iconst 1, 0, 0, 0, .int 1), (1, .isub, 0, 0, 0, .null), (1, .baload, 0, 0, 0, .null), (2, .istore 4, 0, 0, 0, .null)]
set_option maxRecDepth 20000 in
theorem oX14_keyTwox_71 : vm_okB 14 mX14_keyTwo 71 bX14_keyTwox_71 = true := by decide +kernel
def bX14_keyTwox_81 : List vm_J := [(1, .aload_n 0, 0, 0, 0, .null), (3, .getfield 492, 14, 74, 0, .null), (1, .iconst 0, 0, 0, 0, .int 0), (1, .baload, 0, 0, 0, .null), (3, .ifCond .eq 34, 121, 0, 0, .null), (1, .aload_n 0, 0, 0, 0, .null), (3, .getfield 492, 14, 74, 0, .null), (1, .iload_n 2, 0, 0, 0, .null), (1, .iconst 1, 0, 0, 0, .int 1), (1, .isub, 0, 0, 0, .null), (1, .baload, 0, 0, 0, .null), (1, .iconst 1, 0, 0, 0, .int 1), (1, .iand, 0, 0, 0, .null), (3, .ifCond .eq 21, 121, 0, 0, .null), (1, .iload_n 3, 0, 0, 0, .null), (1, .iconst 1, 0, 0, 0, .int 1), (1, .iand, 0, 0, 0, .null), (3, .ifCond .eq 15, 121, 0, 0, .null), (1, .iload_n 3, 0, 0, 0, .null), (1, .iconst 3, 0, 0, 0, .int 3), (3, .if_icmp .lt 10, 121, 0, 0, .null), (1, .iload_n 3, 0, 0, 0, .null), (3, .ldc_w 593, 0, 0, 0, .int (65537)), (3, .if_icmp .le 6, 124, 0, 0, .null)]
set_option maxRecDepth 20000 in
theorem oX14_keyTwox_81 : vm_okB 14 mX14_keyTwo 81 bX14_keyTwox_81 = true := by decide +kernel
def bX14_keyTwox_121 : List vm_J := [(2, .bipush (-2), 0, 0, 0, .int (-2)), (1, .ireturn, 0, 0, 0, .null)]
set_option maxRecDepth 20000 in
theorem oX14_keyTwox_121 : vm_okB 14 mX14_keyTwo 121 bX14_keyTwox_121 = true := by decide +kernel
def bX14_keyTwox_124 : List vm_J := [(2, .iload 4, 0, 0, 0, .null), (3, .ifCond .eq 10, 136, 0, 0, .null), (2, .iload 4, 0, 0, 0, .null), (2, .bipush 48, 0, 0, 0, .int 48), (3, .if_icmp .ne 16, 149, 0, 0, .null)]
set_option maxRecDepth 20000 in
theorem oX14_keyTwox_124 : vm_okB 14 mX14_keyTwo 124 bX14_keyTwox_124 = true := by decide +kernel
def bX14_keyTwox_136 : List vm_J := [(2, .iload 4, 0, 0, 0, .null), (2, .bipush 48, 0, 0, 0, .int 48), (3, .if_icmp .ne 12, 152, 0, 0, .null), (1, .iload_n 2, 0, 0, 0, .null), (2, .bipush 100, 0, 0, 0, .int 100), (3, .if_icmp .ge 6, 152, 0, 0, .null)]
set_option maxRecDepth 20000 in
theorem oX14_keyTwox_136 : vm_okB 14 mX14_keyTwo 136 bX14_keyTwox_136 = true := by decide +kernel
def bX14_keyTwox_149 : List vm_J := [(2, .bipush (-2), 0, 0, 0, .int (-2)), (1, .ireturn, 0, 0, 0, .null)]
set_option maxRecDepth 20000 in
theorem oX14_keyTwox_149 : vm_okB 14 mX14_keyTwo 149 bX14_keyTwox_149 = true := by decide +kernel
def bX14_keyTwox_152 : List vm_J := [(1, .iload_n 2, 0, 0, 0, .null), (1, .iconst 3, 0, 0, 0, .int 3), (1, .iadd, 0, 0, 0, .null), (1, .iconst 4, 0, 0, 0, .int 4), (1, .idiv, 0, 0, 0, .null), (2, .istore 5, 0, 0, 0, .null)]
set_option maxRecDepth 20000 in
theorem oX14_keyTwox_152 : vm_okB 14 mX14_keyTwo 152 bX14_keyTwox_152 = true := by decide +kernel
def bX14_keyTwox_159 : List vm_J := [(1, .aload_n 0, 0, 0, 0, .null), (3, .getfield 492, 14, 74, 0, .null), (1, .iconst 0, 0, 0, 0, .int 0), (1, .iload_n 2, 0, 0, 0, .null), (1, .aload_n 0, 0, 0, 0, .null), (3, .getfield 507, 14, 81, 0, .null), (2, .iload 5, 0, 0, 0, .null), (3, .invokestatic 176, 155, 5, 0, .null), (1, .aload_n 0, 0, 0, 0, .null), (3, .getfield 492, 14, 74, 0, .null), (1, .iload_n 2, 0, 0, 0, .null), (1, .iconst 3, 0, 0, 0, .int 3), (1, .iadd, 0, 0, 0, .null), (1, .iload_n 2, 0, 0, 0, .null), (1, .aload_n 0, 0, 0, 0, .null), (3, .getfield 510, 14, 82, 0, .null), (2, .iload 5, 0, 0, 0, .null), (3, .invokestatic 176, 155, 5, 0, .null), (1, .aload_n 0, 0, 0, 0, .null), (3, .getfield 510, 14, 82, 0, .null), (2, .iload 5, 0, 0, 0, .null), (3, .invokestatic 99, 140, 2, 0, .null), (3, .ifCond .ne 19, 219, 0, 0, .null), (1, .aload_n 0, 0, 0, 0, .null), (3, .getfield 510, 14, 82, 0, .null), (1, .aload_n 0, 0, 0, 0, .null), (3, .getfield 507, 14, 81, 0, .null), (2, .iload 5, 0, 0, 0, .null), (3, .invokestatic 26, 139, 3, 0, .null), (3, .ifCond .lt 6, 222, 0, 0, .null)]
set_option maxRecDepth 20000 in
theorem oX14_keyTwox_159 : vm_okB 14 mX14_keyTwo 159 bX14_keyTwox_159 = true := by decide +kernel
def bX14_keyTwox_219 : List vm_J := [(2, .bipush (-2), 0, 0, 0, .int (-2)), (1, .ireturn, 0, 0, 0, .null)]
set_option maxRecDepth 20000 in
theorem oX14_keyTwox_219 : vm_okB 14 mX14_keyTwo 219 bX14_keyTwox_219 = true := by decide +kernel
def bX14_keyTwox_222 : List vm_J := [(1, .aload_n 0, 0, 0, 0, .null), (3, .getfield 584, 14, 63, 0, .null), (2, .bipush 6, 0, 0, 0, .int 6), (3, .if_icmp .ne 6, 234, 0, 0, .null), (2, .bipush (-6), 0, 0, 0, .int (-6)), (1, .ireturn, 0, 0, 0, .null)]
set_option maxRecDepth 20000 in
theorem oX14_keyTwox_222 : vm_okB 14 mX14_keyTwo 222 bX14_keyTwox_222 = true := by decide +kernel
def bX14_keyTwox_234 : List vm_J := [(1, .aload_n 0, 0, 0, 0, .null), (3, .getfield 461, 14, 59, 0, .null), (1, .aload_n 0, 0, 0, 0, .null), (3, .getfield 584, 14, 63, 0, .null), (1, .aaload, 0, 0, 0, .null), (1, .aload_n 0, 0, 0, 0, .null), (3, .getfield 507, 14, 81, 0, .null), (2, .iload 5, 0, 0, 0, .null), (3, .invokevirtual 531, 133, 2, 12, .null), (1, .aload_n 0, 0, 0, 0, .null), (3, .getfield 510, 14, 82, 0, .null), (1, .aload_n 0, 0, 0, 0, .null), (3, .getfield 433, 14, 57, 0, .null), (1, .aload_n 0, 0, 0, 0, .null), (3, .getfield 584, 14, 63, 0, .null), (1, .aaload, 0, 0, 0, .null), (2, .iload 5, 0, 0, 0, .null), (3, .invokestatic 68, 141, 3, 0, .null), (1, .aload_n 0, 0, 0, 0, .null), (3, .getfield 465, 14, 60, 0, .null), (1, .aload_n 0, 0, 0, 0, .null), (3, .getfield 584, 14, 63, 0, .null), (1, .iload_n 3, 0, 0, 0, .null), (1, .iastore, 0, 0, 0, .null)]
set_option maxRecDepth 20000 in
theorem oX14_keyTwox_234 : vm_okB 14 mX14_keyTwo 234 bX14_keyTwox_234 = true := by decide +kernel
def bX14_keyTwox_280 : List vm_J := [(1, .aload_n 0, 0, 0, 0, .null), (3, .getfield 468, 14, 61, 0, .null), (1, .aload_n 0, 0, 0, 0, .null), (3, .getfield 584, 14, 63, 0, .null), (1, .iload_n 2, 0, 0, 0, .null), (1, .iastore, 0, 0, 0, .null)]
set_option maxRecDepth 20000 in
theorem oX14_keyTwox_280 : vm_okB 14 mX14_keyTwo 280 bX14_keyTwox_280 = true := by decide +kernel
def bX14_keyTwox_290 : List vm_J := [(1, .aload_n 0, 0, 0, 0, .null), (3, .getfield 471, 14, 62, 0, .null), (1, .aload_n 0, 0, 0, 0, .null), (3, .getfield 584, 14, 63, 0, .null), (2, .iload 4, 0, 0, 0, .null), (1, .iastore, 0, 0, 0, .null)]
set_option maxRecDepth 20000 in
theorem oX14_keyTwox_290 : vm_okB 14 mX14_keyTwo 290 bX14_keyTwox_290 = true := by decide +kernel
def bX14_keyTwox_301 : List vm_J := [(1, .aload_n 0, 0, 0, 0, .null), (1, .iconst 2, 0, 0, 0, .int 2), (3, .invokevirtual 587, 208, 1, 14, .null), (1, .ireturn, 0, 0, 0, .null)]
set_option maxRecDepth 20000 in
theorem oX14_keyTwox_301 : vm_okB 14 mX14_keyTwo 301 bX14_keyTwox_301 = true := by decide +kernel
def bX14_keyx_0 : List vm_J := [(1, .aload_n 0, 0, 0, 0, .null), (3, .invokevirtual 570, 192, 0, 14, .null), (1, .istore_n 2, 0, 0, 0, .null)]
set_option maxRecDepth 20000 in
theorem oX14_keyx_0 : vm_okB 14 mX14_key 0 bX14_keyx_0 = true := by decide +kernel
def bX14_keyx_5 : List vm_J := [(1, .iload_n 1, 0, 0, 0, .null), (1, .iconst 1, 0, 0, 0, .int 1), (3, .if_icmp .ne 9, 16, 0, 0, .null), (1, .aload_n 0, 0, 0, 0, .null), (1, .iload_n 2, 0, 0, 0, .null), (3, .invokevirtual 573, 207, 1, 14, .null), (1, .ireturn, 0, 0, 0, .null)]
set_option maxRecDepth 20000 in
theorem oX14_keyx_5 : vm_okB 14 mX14_key 5 bX14_keyx_5 = true := by decide +kernel
def bX14_keyx_16 : List vm_J := [(1, .iload_n 1, 0, 0, 0, .null), (1, .iconst 2, 0, 0, 0, .int 2), (3, .if_icmp .ne 9, 27, 0, 0, .null), (1, .aload_n 0, 0, 0, 0, .null), (1, .iload_n 2, 0, 0, 0, .null), (3, .invokevirtual 577, 209, 1, 14, .null), (1, .ireturn, 0, 0, 0, .null)]
set_option maxRecDepth 20000 in
theorem oX14_keyx_16 : vm_okB 14 mX14_key 16 bX14_keyx_16 = true := by decide +kernel
def bX14_keyx_27 : List vm_J := [(2, .bipush (-2), 0, 0, 0, .int (-2)), (1, .ireturn, 0, 0, 0, .null)]
set_option maxRecDepth 20000 in
theorem oX14_keyx_27 : vm_okB 14 mX14_key 27 bX14_keyx_27 = true := by decide +kernel
section
variable {l : Launch} {O : Nat → vm_Ob} {f9 : Value} {h h' : vm_H} {a kn an rd wr : Nat} {t : KT} {g g' : Nat → Int32} {m y w ou : List Nat} {kf : Nat → aK} {af : Nat → aA} {D : Nat → Nat} {dn : Bool} {wl : Int} {th : Int32}
theorem rq_multo {pk Lk s1 s K : Nat} {P : Option (fq × fq)} (k : RK h a t g) (hK : wv h Lk pk 12 K) (hLk : 12 ≤ Lk) (hb : K < 4294967296 ^ 12) (hP : SP h s1 P) (oP : ecO (-3) (fz (cB : Int)) P) (z : SQ h (a + s)) (hs : 216 ≤ s ∧ s ≤ 249) (os : s1 + 2 < a + 17 ∨ a + 22 < s1) (opk : a + 25 < pk) (opt : pk ≠ a + s ∧ pk ≠ a + s + 1 ∧ pk ≠ a + s + 2) : vm_Met (vm_env l O f9) mX14_multiply 0 0 [.ref a, .ref pk, .ref s1, .ref (a + s)] h (fun r h' => r = none ∧ RK h' a t g ∧ SP h' (a + s) (ecM (-3) fiv K P) ∧ fr h h' (fun q => JM a q ∨ (a + s ≤ q ∧ q ≤ a + s + 2))) := by
  have ao := k.2.1
  refine vm_metP (rm_multiply (RK_cu k) hK hLk hP oP (RK_p k (s := 17) (by unfold ZP; omega)) (RK_p k (s := 20) (by unfold ZP; omega)) z ⟨by omega, by omega, by omega⟩ (by unfold apS; omega) (by omega) (by omega) opk opt) ?_
  rintro r h' ⟨e1, e2, e3, ⟨e4, e5⟩, F⟩
  rw [Nat.mod_eq_of_lt (Nat.lt_of_lt_of_le hb (by decide +kernel))] at e3
  refine ⟨e1, RK_mix k F e2.1 (fun q y => ?_), e3, fr_mono F (fun q y => y.elim (fun y => .inl (.inl y)) (fun y => y.elim (fun y => .inl (.inr y)) .inr))⟩
  rcases y with y | y | y
  · exact .inr (.inl (GD_cu e2 y))
  · rcases (show (a + 17 ≤ q ∧ q ≤ a + 17 + 2) ∨ (a + 20 ≤ q ∧ q ≤ a + 20 + 2) by omega) with w | w
    · exact .inr (.inl (GD_p (s := 17) (by unfold ZP; omega) e4 w.1 w.2))
    · exact .inr (.inl (GD_p (s := 20) (by unfold ZP; omega) e5 w.1 w.2))
  · exact .inr (.inr (by unfold off; omega))
/-- the place kn of the KEYS is written -/
theorem ST_pl (k : ST h a kn an kf af D w ou) (hk : kn < 6) (F : fr h h' (fun q => scr a q ∨ q = a + 77 + kn ∨ (a + 216 + 6 * kn ≤ q ∧ q ≤ a + 216 + 6 * kn + 5) ∨ q = a + 85 ∨ q = a + 86 ∨ q = a + 87)) (r1 : iw h' 64 (a + 77 + kn)) (r2 : SQ h' (a + 216 + 6 * kn)) (r3 : MQ9 h' (a + 219 + 6 * kn)) (e7 : ∀ f, ia h 6 (a + 85) f → ∃ f', ia h' 6 (a + 85) f' ∧ ∀ i, i ≠ kn → f' i = f i) (e8 : ∀ f, ia h 6 (a + 86) f → ∃ f', ia h' 6 (a + 86) f' ∧ ∀ i, i ≠ kn → f' i = f i) (e9 : ∀ f, ia h 6 (a + 87) f → ∃ f', ia h' 6 (a + 87) f' ∧ ∀ i, i ≠ kn → f' i = f i) : ST h' a kn an kf af D w ou := by
  obtain ⟨sk, q2, q3, q4, q5, q6, q7, q8, q9⟩ := k
  have e : ∀ q, ¬ (scr a q ∨ q = a + 77 + kn ∨ (a + 216 + 6 * kn ≤ q ∧ q ≤ a + 216 + 6 * kn + 5) ∨ q = a + 85 ∨ q = a + 86 ∨ q = a + 87) → h'.2 q = h.2 q := fun q z => F.2 q z
  refine ⟨?_, SA_cg q2 q9 (fun q z1 z2 => e q (by unfold scr; omega)), bv_cg q3 (e _ (by unfold scr; omega)), rl9_cg q4 (e _ (by unfold scr; omega)), rl9_cg q5 (e _ (by unfold scr; omega)), q6, q7, q8, q9⟩
  obtain ⟨⟨f1, k1, v1⟩, ⟨f2, k2, v2⟩, ⟨f3, k3, v3⟩, k4, k5, k6, ⟨f7, k7, v7⟩, ⟨f8, k8, v8⟩, ⟨f9, k9, v9⟩, k10, k11⟩ := sk
  obtain ⟨g7, y7, x7⟩ := e7 _ k7
  obtain ⟨g8, y8, x8⟩ := e8 _ k8
  obtain ⟨g9, y9, x9⟩ := e9 _ k9
  refine ⟨⟨f1, ia_cg9 k1 (e _ (by unfold scr; omega)), v1⟩, ⟨f2, (e _ (by unfold scr; omega)).trans k2, v2⟩, ⟨f3, bv_cg k3 (e _ (by unfold scr; omega)), v3⟩, rr9_cg k4 (e _ (by unfold scr; omega)), rr9_cg k5 (e _ (by unfold scr; omega)), rr9_cg k6 (e _ (by unfold scr; omega)), ⟨g7, y7, fun i hi h2 => by rw [x7 i (by omega)]; exact v7 i hi h2⟩, ⟨g8, y8, fun i hi => by rw [x8 i (by omega)]; exact v8 i hi⟩, ⟨g9, y9, fun i hi h2 => by rw [x9 i (by omega)]; exact v9 i hi h2⟩, fun i hi => ?_, fun i hi => KR_cg (k11 i hi) (e _ (by unfold scr; omega)) (fun q z1 z2 => e _ (by unfold scr; omega))⟩
  by_cases c : i = kn
  · rw [c]; exact ⟨r1, r2, r3⟩
  obtain ⟨q1, q2, q3⟩ := k10 i hi
  exact ⟨iw_cg q1 (e _ (by unfold scr; omega)), SQ_cg q2 (fun q z1 z2 => e _ (by unfold scr; omega)), MQ9_cg q3 (fun q z1 z2 => e _ (by unfold scr; omega))⟩
theorem bv_lt {n q : Nat} {c : Nat → Nat} (k : bv h n q c) (j : Nat) (hj : j < n) : c j < 256 := by
  obtain ⟨f, _, v⟩ := k
  exact (v j hj).2
theorem ia_keep {L q : Nat} (e : h'.2 q = h.2 q) (kn : Nat) : ∀ f, ia h L q f → ∃ f', ia h' L q f' ∧ ∀ i, i ≠ kn → f' i = f i := fun f k => ⟨f, ia_cg9 k e, fun _ _ => rfl⟩
theorem rp_keyOne (k : SY h a t g [] m y) (G : RG9 g 0 kn an rd dn wl wr ([] : List Nat).length ou.length) (st : ST h a kn an kf af D [] ou) (tw : rl9 h 1208 (a + 153) w) (hw : w.length ≤ 1200) : vm_Met (vm_env l O f9) mX14_keyOne 0 0 [.ref a, .int (nI w.length)] h (fun r h' => r = some (.int (fKy t.1 t.2.1 1 w kn kf).1) ∧ RM h' a t 0 [] ou (fKy t.1 t.2.1 1 w kn kf).2.1 an rd (fKy t.1 t.2.1 1 w kn kf).2.2 af D dn wl wr ∧ fr h h' (RF a)) := by
  have ao := k.1.2.1
  have la : a < 1099511627776 := by omega
  have l86 : a + 86 < 1099511627776 := by omega
  obtain ⟨c, bc, ec⟩ := tw
  obtain ⟨fs, hs⟩ : iw h 12 (a + 69) := k.1.2.2.2.2.1 69 (by unfold ZI; omega)
  refine vm_met rfl (Nat.le_of_ble_eq_true rfl) ?_
  refine vm_go rfl bX14_keyOnex_0 oX14_keyOnex_0 ⟨_, _, k.1.1, rfl, ⟨_, _, k.1.1, rfl, ⟨0, 0, _, rm_load (at9 := 0) (size := 48) (n := 12) bc (by decide) (by decide) hs (by omega) (by decide) (by decide) (by decide), Nat.zero_le _, Nat.zero_le _, ?_⟩⟩⟩
  rintro _ h1 ⟨rfl, w1, F1⟩
  have k1 : SY h1 a t g [] m y := SY_fr k (RK_of k.1 F1 ((F1.2 a (by omega)).trans k.1.1) (fun q z => .inr (z ▸ GD_i (i := 69) (by unfold ZI; omega) (wv_iw w1)))) F1 (by omega)
  have st1 := ST_fr st F1 (fun q z => by unfold scr; omega)
  have bX : bn c 0 48 < 4294967296 ^ 12 := Nat.lt_of_lt_of_le (bn_lt 48 (fun j _ hj => (bv_lt bc j (by omega)))) (by decide +kernel)
  have F1' : fr h h1 (RF a) := fr_mono F1 (fun q z => by unfold RF; omega)
  have bad : ¬ okK 1 w → vm_T (vm_env l O f9) mX14_keyOne 0 0 32 [(0, .ref a), (1, .int (nI w.length))] [] h1 (fun r h' => r = some (.int (fKy t.1 t.2.1 1 w kn kf).1) ∧ RM h' a t 0 [] ou (fKy t.1 t.2.1 1 w kn kf).2.1 an rd (fKy t.1 t.2.1 1 w kn kf).2.2 af D dn wl wr ∧ fr h h' (RF a)) := fun n => by
    have ef : fKy t.1 t.2.1 1 w kn kf = (-2, kn, kf) := by unfold fKy; exact cif_f n
    rw [ef]
    exact vm_go rfl bX14_keyOnex_32 oX14_keyOnex_32 ⟨rfl, ⟨_, _, _, k1, G, st1⟩, F1'⟩
  by_cases hl : w.length = 48
  case neg =>
    refine ⟨fun _ => bad (fun z => ?_), fun q => absurd ((nI_ij (b := 48) (by omega) (by decide)).mp q) hl⟩
    rcases z with z | z
    · exact hl z.2.1
    · exact absurd z.1 (by decide)
  refine ⟨fun q => absurd (show nI w.length = 48 by rw [hl]; rfl) q, fun _ => ⟨_, _, k1.1.1, rfl, ⟨0, 0, _, rm_isSecret k1.1.2.2.1.1 w1 (by decide) bX, Nat.zero_le _, Nat.zero_le _, ?_⟩⟩⟩
  rintro _ h2 ⟨⟨ok, rfl, hok⟩, e2⟩
  rw [e2]; clear e2 h2
  have eX : bn c 0 48 = bn (gb w) 0 48 := bn_w ec (by omega)
  rw [eX] at hok w1 bX
  obtain ⟨X, hX⟩ : ∃ X, bn (gb w) 0 48 = X := ⟨_, rfl⟩
  rw [hX] at hok w1 bX
  cases ok with
  | false => exact ⟨fun q => absurd rfl q, fun _ => bad (fun z => by
      rcases z with z | z
      · rw [hX] at z; exact nomatch hok.mpr z.2.2
      · exact absurd z.1 (by decide))⟩
  | true =>
  have hX9 := hok.mp rfl
  have good : okK 1 w := .inl ⟨rfl, hl, by rw [hX]; exact hX9⟩
  refine ⟨fun _ => ?_, fun q => absurd q (by decide)⟩
  have gk : u3 g (nI ([] : List Nat).length) (nI m.length) (nI y.length) 63 = nI kn := G.2.1
  have hkn := st.2.2.2.2.2.2.2.1
  by_cases c6 : kn = 6
  · have ef : fKy t.1 t.2.1 1 w kn kf = (-6, kn, kf) := by unfold fKy; rw [cif_t good, if_pos (by omega)]
    rw [ef]
    refine vm_go rfl bX14_keyOnex_35 oX14_keyOnex_35 ⟨_, _, k1.1.1, rfl, ⟨fun q => absurd (show u3 g (nI ([] : List Nat).length) (nI m.length) (nI y.length) 63 = 6 by rw [gk, c6]; rfl) q, fun _ => ?_⟩⟩
    exact ⟨rfl, ⟨_, _, _, k1, G, st1⟩, F1'⟩
  have hk : kn < 6 := by omega
  have ef : fKy t.1 t.2.1 1 w kn kf = (nI kn, kn + 1, fu kf kn (kwi (mkK 1 w) (kdi t.1 t.2.1 (mkK 1 w)))) := by unfold fKy; rw [cif_t good, if_neg (by omega)]
  rw [ef]
  have n6 : ¬ u3 g (nI ([] : List Nat).length) (nI m.length) (nI y.length) 63 = nI 6 := by
    rw [gk, nI_ij (by omega) (by decide)]; exact c6
  refine vm_go rfl bX14_keyOnex_35 oX14_keyOnex_35 ⟨_, _, k1.1.1, rfl, ⟨fun _ => ?_, fun q => absurd q n6⟩⟩
  obtain ⟨⟨f1, e1', v1⟩, ⟨f2, e2, v2⟩, ⟨f3, e3, v3⟩, ⟨fr4, e4, v4⟩, ⟨fr5, e5, v5⟩, e6, ⟨f7, e7, v7⟩, ⟨f8, e8, v8⟩, ⟨f9', e9, v9⟩, e10, e11⟩ := id st1.1
  dsimp only at v4 v5
  obtain ⟨⟨fx, s1⟩, s2, s3⟩ := e10 kn hk
  obtain ⟨fw, ew, vw⟩ := id w1
  refine vm_go rfl bX14_keyOnex_47 oX14_keyOnex_47 ⟨_, _, k1.1.1, rfl, ⟨_, _, k1.1.1, rfl, ⟨_, _, k1.1.1, rfl, ⟨_, _, _, _, e4, by decide, rfl, kn, gk, hk, va_e (v4 kn hk), ⟨0, 0, _, rm_copy (n := 12) ew s1 (by decide) (by decide) (by decide) (by omega), Nat.zero_le _, Nat.zero_le _, ?_⟩⟩⟩⟩⟩
  rintro _ h2 ⟨rfl, ⟨fy, ey, vy, _⟩, F2⟩
  have w2 : wv h2 64 (a + 77 + kn) 12 X := ⟨fy, ey, fun j hj => by rw [vy j hj]; exact vw j hj⟩
  have w12 : wv h2 12 (a + 69) 12 X := wv_cg w1 (F2.2 _ (by omega))
  have k2 := SY_off k1 F2 (fun q z => by omega)
  refine ⟨_, _, k2.1.1, rfl, ⟨_, _, k2.1.1, rfl, ⟨_, _, k2.1.1, rfl, ⟨_, _, k2.1.1, rfl, ⟨_, _, _, _, (F2.2 _ (by omega)).trans e5, by decide, rfl, kn, gk, hk, va_e (v5 kn hk), ⟨_, k2.1.1, 0, 0, _, (?mc : vm_Met (vm_env l O f9) mX14_multiply 0 0 [.ref a, .ref (a + 69), .ref (a + 14), .ref (a + 216 + 6 * kn)] h2 (fun r h' => r = none ∧ RK h' a t (u3 g (nI ([] : List Nat).length) (nI m.length) (nI y.length)) ∧ SP h' (a + 216 + 6 * kn) (ecM (-3) fiv X gP) ∧ fr h2 h' (fun q => JM a q ∨ (a + 216 + 6 * kn ≤ q ∧ q ≤ a + 216 + 6 * kn + 2)))), Nat.zero_le _, Nat.zero_le _, ?_⟩⟩⟩⟩⟩⟩
  case mc =>
    have := rq_multo (l := l) (O := O) (f9 := f9) (s := 216 + 6 * kn) k2.1 w12 (by decide) bX k2.1.2.2.2.1.2.2.1 gP_o (by rw [← Nat.add_assoc]; exact SQ_cg s2 (fun q z1 z2 => F2.2 q (by omega))) (by omega) (by omega) (by omega) (by omega)
    rw [← Nat.add_assoc] at this
    exact this
  rintro _ h3 ⟨rfl, r3, sA, F3⟩
  have hne : ecM (-3) fiv X gP ≠ none := mul_ne hX9.1 hX9.2 gP_o (fun z => nomatch z)
  obtain ⟨A, eA⟩ := Option.ne_none_iff_exists'.mp hne
  rw [eA] at sA
  have JMo : ∀ q, JM a q → q < a + 28 ∧ a < q ∧ q ≠ a := fun q z => by unfold JM JW at z; omega
  have k3 : SY h3 a t g [] m y := SY_fr k2 r3 F3 ⟨fun z => by rcases z with z | z; exact absurd (JMo _ z) (by omega); omega, fun z => by rcases z with z | z; exact absurd (JMo _ z) (by omega); omega, fun z => by rcases z with z | z; exact absurd (JMo _ z) (by omega); omega⟩
  have o3 : ∀ q, a + 28 ≤ q → ¬ (a + 216 + 6 * kn ≤ q ∧ q ≤ a + 216 + 6 * kn + 2) → h3.2 q = h2.2 q := fun q z1 z2 => F3.2 q (fun z => z.elim (fun z => by have := JMo q z; omega) z2)
  have e83 : ia h3 6 (a + 86) f8 := ia_cg9 e8 ((o3 _ (by omega) (by omega)).trans (F2.2 _ (by omega)))
  refine ⟨_, _, k3.1.1, rfl, ⟨_, _, k3.1.1, rfl, ⟨6, f8, e83, l86, kn, gk, hk, ?_⟩⟩⟩
  obtain ⟨h4, eh4⟩ : ∃ h4, h4 = vm_up h3 (a + 86) (.inl (.int, 6, .inl (upd f8 kn 48))) := ⟨_, rfl⟩
  have F4 : fr h3 h4 (fun q => q = a + 86) := eh4 ▸ fr_up rfl
  have t4 : ia h4 6 (a + 86) (upd f8 kn 48) := by rw [eh4]; exact vm_upe
  refine vm_Th (lv' := [(0, .ref a), (1, .int (nI w.length))]) (h' := h4) rfl eh4 ?_
  have k4 := SY_off k3 F4 (fun q z => by omega)
  have F14 : fr h1 h4 (fun q => scr a q ∨ q = a + 77 + kn ∨ (a + 216 + 6 * kn ≤ q ∧ q ≤ a + 216 + 6 * kn + 5) ∨ q = a + 85 ∨ q = a + 86 ∨ q = a + 87) := fr_trans (fr_mono F2 (fun q z => by omega)) (fr_trans (fr_mono F3 (fun q z => by
    rcases z with z | z
    · have := JMo q z; unfold scr; omega
    · omega)) (fr_mono F4 (fun q z => by omega)))
  have o14 : ∀ q, a + 73 ≤ q → q ≠ a + 86 → q ≠ a + 77 + kn → ¬ (a + 216 + 6 * kn ≤ q ∧ q ≤ a + 216 + 6 * kn + 2) → h4.2 q = h1.2 q := fun q z1 z2 z3 z4 => (F4.2 q z2).trans ((o3 q (by omega) z4).trans (F2.2 q z3))
  have w4 : wv h4 64 (a + 77 + kn) 12 X := wv_cg w2 ((F4.2 _ (by omega)).trans (o3 _ (by omega) (by omega)))
  have sA4 : SP h4 (a + 216 + 6 * kn) (some A) := SP_fr sA F4 (fun q z1 z2 => by omega)
  have st4 : ST h4 a kn an kf af D [] ou := ST_pl st1 hk F14 (wv_iw w4) (SP_q sA4) (MQ9_cg s3 (fun q z1 z2 => o14 q (by omega) (by omega) (by omega) (by omega))) (ia_keep (o14 _ (by omega) (by omega) (by omega) (by omega)) kn) (fun f kk => by
    cases ia_u kk e8
    exact ⟨_, t4, fun i hi => upd_n hi⟩) (ia_keep (o14 _ (by omega) (by omega) (by omega) (by omega)) kn)
  have ex : mkK 1 w = (1, 48, 0, true, ptb A, w, []) := by
    unfold mkK
    rw [if_pos rfl, hX, eA]; rfl
  rw [ex]
  obtain ⟨x, hx⟩ : ∃ x : aK, x = (1, 48, 0, true, ptb A, w, []) := ⟨_, rfl⟩
  rw [← hx]
  have x1 : kty x = 1 := by rw [hx]
  have x2 : ksz x = 48 := by rw [hx]
  have x3 : klv x = true := by rw [hx]
  have x4 : ksh x = ptb A := by rw [hx]
  have x5 : kse x = w := by rw [hx]
  have nk : NK h4 a kn x := ⟨⟨fun _ => by rw [x4, x5, hX]; exact ⟨w4, A, rfl, eA.symm, sA4⟩, fun z => by omega⟩, ⟨f7, ia_cg9 e7 (o14 _ (by omega) (by omega) (by omega) (by omega)), fun z => by omega⟩, ⟨_, t4, by rw [x2]; exact upd_e⟩, ⟨f9', ia_cg9 e9 (o14 _ (by omega) (by omega) (by omega) (by omega)), fun z => by omega⟩⟩
  have rc := rp_comes (l := l) (O := O) (f9 := f9) k4 G st4 hk nk x3 (.inl x1)
  rw [x1] at rc
  refine vm_go rfl bX14_keyOnex_97 oX14_keyOnex_97 ⟨_, k4.1.1, 0, 0, _, rc, Nat.zero_le _, Nat.zero_le _, ?_⟩
  rintro _ h5 ⟨rfl, k5, F5⟩
  exact ⟨rfl, k5, fr_trans F1' (fr_trans (fr_mono F14 (fun q z => by unfold scr at z; unfold RF; omega)) F5)⟩

theorem rp_keyTwo (k : SY h a t g [] m y) (G : RG9 g 0 kn an rd dn wl wr ([] : List Nat).length ou.length) (st : ST h a kn an kf af D [] ou) (tw : rl9 h 1208 (a + 153) w) (hw : w.length ≤ 1200) : vm_Met (vm_env l O f9) mX14_keyTwo 0 0 [.ref a, .int (nI w.length)] h (fun r h' => r = some (.int (fKy t.1 t.2.1 2 w kn kf).1) ∧ RM h' a t 0 [] ou (fKy t.1 t.2.1 2 w kn kf).2.1 an rd (fKy t.1 t.2.1 2 w kn kf).2.2 af D dn wl wr ∧ fr h h' (RF a)) := by
  have ao := k.1.2.1
  have la : a < 1099511627776 := by omega
  have l85 : a + 85 < 1099511627776 := by omega
  have l86 : a + 86 < 1099511627776 := by omega
  have l87 : a + 87 < 1099511627776 := by omega
  obtain ⟨c, bc, ec⟩ := tw
  obtain ⟨f, ef, vf⟩ := id bc
  refine vm_met rfl (Nat.le_of_ble_eq_true rfl) ?_
  refine vm_go rfl bX14_keyTwox_0 oX14_keyTwox_0 ⟨by decide, ?_⟩
  obtain ⟨V, eV⟩ : ∃ V : Int32, V = (nI w.length - 4) / 2 := ⟨_, rfl⟩
  refine vm_Th (lv' := [(0, .ref a), (1, .int (nI w.length)), (2, .int V)]) (h' := h) (by rw [eV]; rfl) rfl ?_
  have bad25 : ¬ okK 2 w → vm_T (vm_env l O f9) mX14_keyTwo 0 0 25 [(0, .ref a), (1, .int (nI w.length)), (2, .int V)] [] h (fun r h' => r = some (.int (fKy t.1 t.2.1 2 w kn kf).1) ∧ RM h' a t 0 [] ou (fKy t.1 t.2.1 2 w kn kf).2.1 an rd (fKy t.1 t.2.1 2 w kn kf).2.2 af D dn wl wr ∧ fr h h' (RF a)) := fun n => by
    have ef : fKy t.1 t.2.1 2 w kn kf = (-2, kn, kf) := by unfold fKy; exact cif_f n
    rw [ef]
    exact vm_go rfl bX14_keyTwox_25 oX14_keyTwox_25 ⟨rfl, ⟨_, _, _, k, G, st⟩, fr_refl⟩
  by_cases hlo : w.length < 136
  · refine vm_go rfl bX14_keyTwox_6 oX14_keyTwox_6 ⟨by decide, ⟨fun _ => bad25 (fun z => ?_), fun _ => ⟨fun _ => bad25 (fun z => ?_), fun q => absurd ?_ q⟩⟩⟩
    · rcases z with z | z
      · exact absurd z.1 (by decide)
      · have := z.2.1; omega
    · rcases z with z | z
      · exact absurd z.1 (by decide)
      · have := z.2.1; omega
    · show V < nI 66
      rw [eV]
      by_cases h4 : 4 ≤ w.length
      · rw [show nI w.length - 4 = nI (w.length - 4) from nI_sub (b := 4) h4, show nI (w.length - 4) / 2 = nI ((w.length - 4) / 2) from nI_div (b := 2) (by omega) (by decide), nI_ltI (by omega) (by decide)]
        omega
      · rcases (show w.length = 0 ∨ w.length = 1 ∨ w.length = 2 ∨ w.length = 3 by omega) with e | e | e | e <;> rw [e] <;> decide
  have eT : V = nI ((w.length - 4) / 2) := by
    rw [eV, show nI w.length - 4 = nI (w.length - 4) from nI_sub (b := 4) (by omega)]
    exact nI_div (b := 2) (by omega) (by decide)
  obtain ⟨len, hlen⟩ : ∃ len, (w.length - 4) / 2 = len := ⟨_, rfl⟩
  rw [hlen] at eT
  rw [eT] at bad25 ⊢
  have er : nI w.length - nI w.length / 2 * 2 = nI (w.length % 2) := nI_rem (b := 2) (by omega) (by decide)
  have nok : ∀ z : okK 2 w, kOK (gb w) w.length := fun z => by
    rcases z with z | z
    · exact absurd z.1 (by decide)
    · exact z.2
  by_cases hp : w.length % 2 = 0
  case neg =>
    have q9 : ¬ (nI w.length - nI w.length / 2 * 2 = 0) := fun q => by
      have q : nI w.length - nI w.length / 2 * 2 = nI 0 := q
      rw [er, nI_ij (by omega) (by decide)] at q
      exact hp q
    exact vm_go rfl bX14_keyTwox_6 oX14_keyTwox_6 ⟨by decide, ⟨fun _ => bad25 (fun z => hp (nok z).2.2.1), fun q => absurd q q9⟩⟩
  have hn : w.length = 2 * len + 4 := by omega
  by_cases hb : len ≤ 256
  case neg =>
    refine vm_go rfl bX14_keyTwox_6 oX14_keyTwox_6 ⟨by decide, ⟨fun _ => bad25 (fun z => by have := (nok z).2.1; omega), fun _ => ⟨fun _ => bad25 (fun z => by have := (nok z).2.1; omega), fun _ => ⟨fun q => ?_, fun _ => bad25 (fun z => by have := (nok z).2.1; omega)⟩⟩⟩⟩
    have q : nI len ≤ nI 256 := q
    rw [nI_leI (by omega) (by decide)] at q
    omega
  have er0 : nI w.length - nI w.length / 2 * 2 = 0 := by rw [er, hp]; rfl
  refine vm_go rfl bX14_keyTwox_6 oX14_keyTwox_6 ⟨by decide, ⟨fun q => absurd er0 q, fun _ => ⟨fun q => ?_, fun _ => ⟨fun _ => ?_, fun q => absurd (show nI len ≤ nI 256 from nI_le hb (by decide)) q⟩⟩⟩⟩
  · have q : nI len < nI 66 := q
    rw [nI_ltI (by omega) (by decide)] at q
    omega
  have cw : ∀ j, j < w.length → c j = gb w j := fun j hj => gb_w ec hj
  have hk : okK 2 w ↔ c 0 ≠ 0 ∧ c (len - 1) % 2 = 1 ∧ 3 ≤ bn c len 3 ∧ bn c len 3 ≤ 65537 ∧ bn c len 3 % 2 = 1 ∧ 0 < bn c (len + 3) len ∧ bn c (len + 3) len < bn c 0 len ∧ (c (w.length - 1) = 0 ∨ c (w.length - 1) = 48 ∧ 100 ≤ len) := by
    have y1 : okK 2 w ↔ kOK c w.length := ⟨fun z => (kOK_c9 cw).mpr (nok z), fun z => .inr ⟨rfl, (kOK_c9 cw).mp z⟩⟩
    rw [y1]
    unfold kOK
    rw [hlen]
    exact ⟨fun z => z.2.2.2, fun z => ⟨by omega, by omega, by omega, z⟩⟩
  have v0 := vf len (by omega)
  have v1 := vf (len + 1) (by omega)
  have v2 := vf (len + 2) (by omega)
  have v9 := vf (w.length - 1) (by omega)
  have a1 : nI len + 1 = nI (len + 1) := by rw [nI_1]
  have a2 : nI len + 2 = nI (len + 2) := nI_add _ 2
  have a3 : nI len + 3 = nI (len + 3) := nI_add _ 3
  have s1 : nI w.length - 1 = nI (w.length - 1) := nI_sub (b := 1) (by omega)
  have s2 : nI len - 1 = nI (len - 1) := nI_sub (b := 1) (by omega)
  refine vm_go rfl bX14_keyTwox_28 oX14_keyTwox_28 ⟨_, _, k.1.1, rfl, ⟨1208, f, ef, len, rfl, by omega, fun _ => ⟨_, _, k.1.1, rfl, ⟨1208, f, ef, len + 1, a1, by omega, fun _ => ⟨_, _, k.1.1, rfl, ⟨1208, f, ef, len + 2, a2, by omega, fun _ => ?_⟩⟩⟩⟩⟩⟩
  rw [v0.1, v1.1, v2.1]
  have eE : (((sb (c len) &&& 255) <<< ((16 : Int32) &&& 31)) ||| ((sb (c (len + 1)) &&& 255) <<< ((8 : Int32) &&& 31))) ||| (sb (c (len + 2)) &&& 255) = nI (bn c len 3) := by
    rw [sb_and _ v0.2, sb_and _ v1.2, sb_and _ v2.2, e3_e v0.2 v1.2 v2.2]
    show _ = nI (((bn c len 0 * 256 + c (len + 0)) * 256 + c (len + 1)) * 256 + c (len + 2))
    rw [show bn c len 0 = 0 from rfl, Nat.zero_mul, Nat.zero_add]; rfl
  have hE : bn c len 3 < 16777216 := by
    have := bn_lt (b := c) (at9 := len) 3 (fun j h1 h2 => (vf j (by omega)).2)
    omega
  refine vm_Th (lv' := [(0, .ref a), (1, .int (nI w.length)), (2, .int (nI len)), (3, .int (nI (bn c len 3)))]) (h' := h) (by rw [← eE]; rfl) rfl ?_
  refine vm_go rfl bX14_keyTwox_71 oX14_keyTwox_71 ⟨_, _, k.1.1, rfl, ⟨1208, f, ef, w.length - 1, s1, by omega, fun _ => ?_⟩⟩
  rw [v9.1]
  refine vm_Th (lv' := [(0, .ref a), (1, .int (nI w.length)), (2, .int (nI len)), (3, .int (nI (bn c len 3))), (4, .int (sb (c (w.length - 1))))]) (h' := h) rfl rfl ?_
  have bad121 : ¬ okK 2 w → vm_T (vm_env l O f9) mX14_keyTwo 0 0 121 [(0, .ref a), (1, .int (nI w.length)), (2, .int (nI len)), (3, .int (nI (bn c len 3))), (4, .int (sb (c (w.length - 1))))] [] h (fun r h' => r = some (.int (fKy t.1 t.2.1 2 w kn kf).1) ∧ RM h' a t 0 [] ou (fKy t.1 t.2.1 2 w kn kf).2.1 an rd (fKy t.1 t.2.1 2 w kn kf).2.2 af D dn wl wr ∧ fr h h' (RF a)) := fun n => by
    have ef : fKy t.1 t.2.1 2 w kn kf = (-2, kn, kf) := by unfold fKy; exact cif_f n
    rw [ef]
    exact vm_go rfl bX14_keyTwox_121 oX14_keyTwox_121 ⟨rfl, ⟨_, _, _, k, G, st⟩, fr_refl⟩
  have bad149 : ¬ okK 2 w → vm_T (vm_env l O f9) mX14_keyTwo 0 0 149 [(0, .ref a), (1, .int (nI w.length)), (2, .int (nI len)), (3, .int (nI (bn c len 3))), (4, .int (sb (c (w.length - 1))))] [] h (fun r h' => r = some (.int (fKy t.1 t.2.1 2 w kn kf).1) ∧ RM h' a t 0 [] ou (fKy t.1 t.2.1 2 w kn kf).2.1 an rd (fKy t.1 t.2.1 2 w kn kf).2.2 af D dn wl wr ∧ fr h h' (RF a)) := fun n => by
    have ef : fKy t.1 t.2.1 2 w kn kf = (-2, kn, kf) := by unfold fKy; exact cif_f n
    rw [ef]
    exact vm_go rfl bX14_keyTwox_149 oX14_keyTwox_149 ⟨rfl, ⟨_, _, _, k, G, st⟩, fr_refl⟩
  have w0 := vf 0 (by omega)
  have wl9 := vf (len - 1) (by omega)
  refine vm_go rfl bX14_keyTwox_81 oX14_keyTwox_81 ⟨_, _, k.1.1, rfl, ⟨1208, f, ef, 0, rfl, by omega, fun _ => ?_⟩⟩
  rw [w0.1]
  refine ⟨fun q => bad121 (fun z => (hk.mp z).1 ((sb_eq _ w0.2 0 (by decide)).mp q)), fun q0 => ⟨_, _, k.1.1, rfl, ⟨1208, f, ef, len - 1, s2, by omega, fun _ => ?_⟩⟩⟩
  have q0 : c 0 ≠ 0 := fun z => q0 ((sb_eq _ w0.2 0 (by decide)).mpr z)
  rw [wl9.1]
  have po : ∀ x, x < 256 → (sb x &&& 1 = 0 ↔ x % 2 = 0) := by decide +kernel
  refine ⟨fun q => bad121 (fun z => by have := (hk.mp z).2.1; have := (po _ wl9.2).mp q; omega), fun q1 => ?_⟩
  have q1 : c (len - 1) % 2 = 1 := by
    have : ¬ c (len - 1) % 2 = 0 := fun z => q1 ((po _ wl9.2).mpr z)
    omega
  refine ⟨fun q => bad121 (fun z => ?_), fun q4 => ?_⟩
  · have q : nI (bn c len 3) &&& 1 = nI 0 := q
    rw [nI_par, nI_ij (by omega) (by decide)] at q
    have := (hk.mp z).2.2.2.2.1; omega
  have q4 : ¬ nI (bn c len 3) &&& 1 = nI 0 := q4
  rw [nI_par, nI_ij (by omega) (by decide)] at q4
  refine ⟨fun q => bad121 (fun z => ?_), fun q2 => ⟨fun q3 => ?_, fun q => bad121 (fun z => ?_)⟩⟩
  · have q : nI (bn c len 3) < nI 3 := q
    rw [nI_ltI (by omega) (by decide)] at q
    have := (hk.mp z).2.2.1; omega
  rotate_left
  · have q : ¬ nI (bn c len 3) ≤ nI 65537 := q
    rw [nI_leI (by omega) (by decide)] at q
    have := (hk.mp z).2.2.2.1; omega
  have q2 : ¬ nI (bn c len 3) < nI 3 := q2
  rw [nI_ltI (by omega) (by decide)] at q2
  have q3 : nI (bn c len 3) ≤ nI 65537 := q3
  rw [nI_leI (by omega) (by decide)] at q3
  have s0 := sb_eq _ v9.2 0 (by decide)
  have s48 := sb_eq _ v9.2 48 (by decide)
  have l100 : nI len ≥ nI 100 ↔ 100 ≤ len := nI_leI (by decide) (by omega)
  have c152 : (c (w.length - 1) = 0 ∨ c (w.length - 1) = 48 ∧ 100 ≤ len) → vm_T (vm_env l O f9) mX14_keyTwo 0 0 152 [(0, .ref a), (1, .int (nI w.length)), (2, .int (nI len)), (3, .int (nI (bn c len 3))), (4, .int (sb (c (w.length - 1))))] [] h (fun r h' => r = some (.int (fKy t.1 t.2.1 2 w kn kf).1) ∧ RM h' a t 0 [] ou (fKy t.1 t.2.1 2 w kn kf).2.1 an rd (fKy t.1 t.2.1 2 w kn kf).2.2 af D dn wl wr ∧ fr h h' (RF a)) := fun hs => by
    obtain ⟨lim, hlim⟩ : ∃ lim, (len + 3) / 4 = lim := ⟨_, rfl⟩
    have elim : (nI len + 3) / 4 = nI lim := by rw [a3, ← hlim]; exact nI_div (b := 4) (by omega) (by decide)
    refine vm_go rfl bX14_keyTwox_152 oX14_keyTwox_152 ⟨by decide, ?_⟩
    refine vm_Th (lv' := [(0, .ref a), (1, .int (nI w.length)), (2, .int (nI len)), (3, .int (nI (bn c len 3))), (4, .int (sb (c (w.length - 1)))), (5, .int (nI lim))]) (h' := h) (by rw [← elim]; rfl) rfl ?_
    obtain ⟨fa, ia1⟩ : iw h 64 (a + 158) := k.1.2.2.2.2.1 158 (by unfold ZI; omega)
    refine vm_go rfl bX14_keyTwox_159 oX14_keyTwox_159 ⟨_, _, k.1.1, rfl, ⟨_, _, k.1.1, rfl, ⟨0, 0, _, rm_load (at9 := 0) (size := len) (n := lim) bc (by omega) (by decide) ia1 (by omega) (by omega) (by omega) (by omega), Nat.zero_le _, Nat.zero_le _, ?_⟩⟩⟩
    rintro _ h1 ⟨rfl, w1, F1⟩
    have k1 : SY h1 a t g [] m y := SY_fr k (RK_of k.1 F1 ((F1.2 a (by omega)).trans k.1.1) (fun q z => .inr (z ▸ GD_i (i := 158) (by unfold ZI; omega) (wv_iw w1)))) F1 (by omega)
    obtain ⟨fb, ib1⟩ : iw h1 64 (a + 159) := k1.1.2.2.2.2.1 159 (by unfold ZI; omega)
    refine ⟨_, _, k1.1.1, rfl, ⟨_, _, k1.1.1, rfl, ⟨0, 0, _, vm_metE (by rw [← a3]; rfl) (rm_load (at9 := len + 3) (size := len) (n := lim) (bv_cg bc (F1.2 _ (by omega))) (by omega) (by decide) ib1 (by omega) (by omega) (by omega) (by omega)), Nat.zero_le _, Nat.zero_le _, ?_⟩⟩⟩
    rintro _ h2 ⟨rfl, w2, F2⟩
    have k2 : SY h2 a t g [] m y := SY_fr k1 (RK_of k1.1 F2 ((F2.2 a (by omega)).trans k1.1.1) (fun q z => .inr (z ▸ GD_i (i := 159) (by unfold ZI; omega) (wv_iw w2)))) F2 (by omega)
    have w12 : wv h2 64 (a + 158) lim (bn c 0 len) := wv_cg w1 (F2.2 _ (by omega))
    have F02 : fr h h2 (fun q => q = a + 158 ∨ q = a + 159) := fr_trans (fr_mono F1 (fun q z => .inl z)) (fr_mono F2 (fun q z => .inr z))
    have st2 := ST_fr st F02 (fun q z => by unfold scr; omega)
    have FF2 : fr h h2 (RF a) := fr_mono F02 (fun q z => by unfold RF; omega)
    have pw : (256 : Nat) ^ len ≤ 4294967296 ^ lim := by
      rw [show (4294967296 : Nat) = 256 ^ 4 by decide, ← Nat.pow_mul]
      exact Nat.pow_le_pow_right (by decide) (by omega)
    have bN : bn c 0 len < 4294967296 ^ lim := Nat.lt_of_lt_of_le (bn_lt len (fun j _ hj => bv_lt bc j (by omega))) pw
    have bD : bn c (len + 3) len < 4294967296 ^ lim := Nat.lt_of_lt_of_le (bn_lt len (fun j _ hj => bv_lt bc j (by omega))) pw
    have bad219 : ¬ okK 2 w → vm_T (vm_env l O f9) mX14_keyTwo 0 0 219 [(0, .ref a), (1, .int (nI w.length)), (2, .int (nI len)), (3, .int (nI (bn c len 3))), (4, .int (sb (c (w.length - 1)))), (5, .int (nI lim))] [] h2 (fun r h' => r = some (.int (fKy t.1 t.2.1 2 w kn kf).1) ∧ RM h' a t 0 [] ou (fKy t.1 t.2.1 2 w kn kf).2.1 an rd (fKy t.1 t.2.1 2 w kn kf).2.2 af D dn wl wr ∧ fr h h' (RF a)) := fun n => by
      have ef : fKy t.1 t.2.1 2 w kn kf = (-2, kn, kf) := by unfold fKy; exact cif_f n
      rw [ef]
      exact vm_go rfl bX14_keyTwox_219 oX14_keyTwox_219 ⟨rfl, ⟨_, _, _, k2, G, st2⟩, FF2⟩
    obtain ⟨fz2, ez2, vz2⟩ := id w2
    refine ⟨_, _, k2.1.1, rfl, ⟨0, 0, _, rm_zero ez2 (by omega) (by omega), Nat.zero_le _, Nat.zero_le _, ?_⟩⟩
    rintro _ h3 ⟨⟨ok, rfl, hok⟩, e3⟩
    rw [e3]; clear e3 h3
    rw [wv_z (h := h2) (L := 64) (p := a + 159) bD vz2] at hok
    cases ok with
    | true => exact ⟨fun _ => bad219 (fun z => by have := (hk.mp z).2.2.2.2.2.1; have := hok.mp rfl; omega), fun q => absurd q (by decide)⟩
    | false =>
    have hd0 : 0 < bn c (len + 3) len := Nat.pos_of_ne_zero (fun z => nomatch hok.mpr z)
    refine ⟨fun q => absurd rfl q, fun _ => ⟨_, _, k2.1.1, rfl, ⟨_, _, k2.1.1, rfl, ⟨0, 0, _, rm_cmp w2 w12 (by omega) (by omega) (by omega) bD bN, Nat.zero_le _, Nat.zero_le _, ?_⟩⟩⟩⟩
    rintro _ h3 ⟨hc, e3⟩
    rw [e3]; clear e3 h3
    rcases hc with ⟨hc, rfl⟩ | ⟨hc, rfl⟩ | ⟨hc, rfl⟩
    rotate_left
    · exact ⟨fun q => absurd q (by decide), fun _ => bad219 (fun z => by have := (hk.mp z).2.2.2.2.2.2.1; omega)⟩
    · exact ⟨fun q => absurd q (by decide), fun _ => bad219 (fun z => by have := (hk.mp z).2.2.2.2.2.2.1; omega)⟩
    have good : okK 2 w := hk.mpr ⟨q0, q1, by omega, by omega, by omega, hd0, hc, hs⟩
    refine ⟨fun _ => ?_, fun q => absurd (by decide) q⟩
    have gk : u3 g (nI ([] : List Nat).length) (nI m.length) (nI y.length) 63 = nI kn := G.2.1
    have hkn := st.2.2.2.2.2.2.2.1
    by_cases c6 : kn = 6
    · have ef : fKy t.1 t.2.1 2 w kn kf = (-6, kn, kf) := by unfold fKy; rw [cif_t good, if_pos (by omega)]
      rw [ef]
      refine vm_go rfl bX14_keyTwox_222 oX14_keyTwox_222 ⟨_, _, k2.1.1, rfl, ⟨fun q => absurd (show u3 g (nI ([] : List Nat).length) (nI m.length) (nI y.length) 63 = 6 by rw [gk, c6]; rfl) q, fun _ => ?_⟩⟩
      exact ⟨rfl, ⟨_, _, _, k2, G, st2⟩, FF2⟩
    have hk6 : kn < 6 := by omega
    have ef9 : fKy t.1 t.2.1 2 w kn kf = (nI kn, kn + 1, fu kf kn (kwi (mkK 2 w) (kdi t.1 t.2.1 (mkK 2 w)))) := by unfold fKy; rw [cif_t good, if_neg (by omega)]
    rw [ef9]
    have n6 : ¬ u3 g (nI ([] : List Nat).length) (nI m.length) (nI y.length) 63 = nI 6 := by
      rw [gk, nI_ij (by omega) (by decide)]; exact c6
    refine vm_go rfl bX14_keyTwox_222 oX14_keyTwox_222 ⟨_, _, k2.1.1, rfl, ⟨fun _ => ?_, fun q => absurd q n6⟩⟩
    obtain ⟨⟨f1, e1', _⟩, _, _, ⟨fr4, e4, v4⟩, _, ⟨fr6, e6, v6⟩, ⟨f7, e7, v7⟩, ⟨f8, e8, v8⟩, ⟨f9', e9, v9'⟩, e10, e11⟩ := id st2.1
    dsimp only at v4 v6
    obtain ⟨⟨fx, r1⟩, r2, ⟨⟨xm, ym, r3⟩, r4, r5⟩⟩ := e10 kn hk6
    have hN1 : 4294967296 ^ (lim - 1) ≤ bn c 0 len := by
      have y1 := bn_ge (b := c) (p := 0) (Nat.pos_of_ne_zero q0) (len - 1)
      rw [show len - 1 + 1 = len by omega] at y1
      refine Nat.le_trans ?_ y1
      rw [show (4294967296 : Nat) = 256 ^ 4 by decide, ← Nat.pow_mul]
      exact Nat.pow_le_pow_right (by decide) (by omega)
    refine vm_go rfl bX14_keyTwox_234 oX14_keyTwox_234 ⟨_, _, k2.1.1, rfl, ⟨_, _, k2.1.1, rfl, ⟨_, _, _, _, e6, by decide, rfl, kn, gk, hk6, va_e (v6 kn hk6), ⟨_, _, k2.1.1, rfl, ⟨_, r3, 0, 0, _, rm_is (n := lim) r3 r4 r5 w12 (by omega) (by omega) (by omega) bN hN1 (by omega) (by omega), Nat.zero_le _, Nat.zero_le _, ?_⟩⟩⟩⟩⟩
    rintro _ h3 ⟨rfl, ⟨sh, mh⟩, F3⟩
    have k3 := SY_off k2 F3 (fun q z => by omega)
    have w23 : wv h3 64 (a + 159) lim (bn c (len + 3) len) := wv_cg w2 (F3.2 _ (by omega))
    obtain ⟨fw, ew, vw⟩ := id w23
    refine ⟨_, _, k3.1.1, rfl, ⟨_, _, k3.1.1, rfl, ⟨_, _, k3.1.1, rfl, ⟨_, _, _, _, (F3.2 _ (by omega)).trans e4, by decide, rfl, kn, gk, hk6, va_e (v4 kn hk6), ⟨0, 0, _, rm_copy (n := lim) ew (ia_cg9 r1 (F3.2 _ (by omega))) (by omega) (by omega) (by omega) (by omega), Nat.zero_le _, Nat.zero_le _, ?_⟩⟩⟩⟩⟩
    rintro _ h4 ⟨rfl, ⟨fy, ey, vy, _⟩, F4⟩
    have w4 : wv h4 64 (a + 77 + kn) lim (bn c (len + 3) len) := ⟨fy, ey, fun j hj => by rw [vy j hj]; exact vw j hj⟩
    have k4 := SY_off k3 F4 (fun q z => by omega)
    have F24 : fr h2 h4 (fun q => q = a + 77 + kn ∨ (a + 219 + 6 * kn ≤ q ∧ q ≤ a + 219 + 6 * kn + 2)) := fr_trans (fr_mono F3 (fun q z => by omega)) (fr_mono F4 (fun q z => by omega))
    refine ⟨_, _, k4.1.1, rfl, ⟨_, _, k4.1.1, rfl, ⟨6, f7, ia_cg9 e7 (F24.2 _ (by omega)), l85, kn, gk, hk6, ?_⟩⟩⟩
    obtain ⟨h5, eh5⟩ : ∃ h5, h5 = vm_up h4 (a + 85) (.inl (.int, 6, .inl (upd f7 kn (nI (bn c len 3))))) := ⟨_, rfl⟩
    have F5 : fr h4 h5 (fun q => q = a + 85) := eh5 ▸ fr_up rfl
    have t5 : ia h5 6 (a + 85) (upd f7 kn (nI (bn c len 3))) := by rw [eh5]; exact vm_upe
    refine vm_Th (lv' := [(0, .ref a), (1, .int (nI w.length)), (2, .int (nI len)), (3, .int (nI (bn c len 3))), (4, .int (sb (c (w.length - 1)))), (5, .int (nI lim))]) (h' := h5) rfl eh5 ?_
    have k5 := SY_off k4 F5 (fun q z => by omega)
    refine vm_go rfl bX14_keyTwox_280 oX14_keyTwox_280 ⟨_, _, k5.1.1, rfl, ⟨_, _, k5.1.1, rfl, ⟨6, f8, ia_cg9 e8 ((F5.2 _ (by omega)).trans (F24.2 _ (by omega))), l86, kn, gk, hk6, ?_⟩⟩⟩
    obtain ⟨h6, eh6⟩ : ∃ h6, h6 = vm_up h5 (a + 86) (.inl (.int, 6, .inl (upd f8 kn (nI len)))) := ⟨_, rfl⟩
    have F6 : fr h5 h6 (fun q => q = a + 86) := eh6 ▸ fr_up rfl
    have t6 : ia h6 6 (a + 86) (upd f8 kn (nI len)) := by rw [eh6]; exact vm_upe
    refine vm_Th (lv' := [(0, .ref a), (1, .int (nI w.length)), (2, .int (nI len)), (3, .int (nI (bn c len 3))), (4, .int (sb (c (w.length - 1)))), (5, .int (nI lim))]) (h' := h6) rfl eh6 ?_
    have k6 := SY_off k5 F6 (fun q z => by omega)
    refine vm_go rfl bX14_keyTwox_290 oX14_keyTwox_290 ⟨_, _, k6.1.1, rfl, ⟨_, _, k6.1.1, rfl, ⟨6, f9', ia_cg9 e9 ((F6.2 _ (by omega)).trans ((F5.2 _ (by omega)).trans (F24.2 _ (by omega)))), l87, kn, gk, hk6, ?_⟩⟩⟩
    obtain ⟨h7, eh7⟩ : ∃ h7, h7 = vm_up h6 (a + 87) (.inl (.int, 6, .inl (upd f9' kn (sb (c (w.length - 1)))))) := ⟨_, rfl⟩
    have F7 : fr h6 h7 (fun q => q = a + 87) := eh7 ▸ fr_up rfl
    have t7 : ia h7 6 (a + 87) (upd f9' kn (sb (c (w.length - 1)))) := by rw [eh7]; exact vm_upe
    refine vm_Th (lv' := [(0, .ref a), (1, .int (nI w.length)), (2, .int (nI len)), (3, .int (nI (bn c len 3))), (4, .int (sb (c (w.length - 1)))), (5, .int (nI lim))]) (h' := h7) rfl eh7 ?_
    have k7 := SY_off k6 F7 (fun q z => by omega)
    have F47 : fr h4 h7 (fun q => q = a + 85 ∨ q = a + 86 ∨ q = a + 87) := fr_trans (fr_mono F5 (fun q z => by omega)) (fr_trans (fr_mono F6 (fun q z => by omega)) (fr_mono F7 (fun q z => by omega)))
    have F27 : fr h2 h7 (fun q => scr a q ∨ q = a + 77 + kn ∨ (a + 216 + 6 * kn ≤ q ∧ q ≤ a + 216 + 6 * kn + 5) ∨ q = a + 85 ∨ q = a + 86 ∨ q = a + 87) := fr_trans (fr_mono F24 (fun q z => by omega)) (fr_mono F47 (fun q z => by omega))
    have w7 : wv h7 64 (a + 77 + kn) lim (bn c (len + 3) len) := wv_cg w4 (F47.2 _ (by omega))
    have mh7 : MH h7 (a + 219 + 6 * kn) (a + 219 + 6 * kn + 1) (a + 219 + 6 * kn + 2) lim (bn c 0 len) sh := MH_cge mh (fun q z1 z2 => (F47.2 q (by omega)).trans (F4.2 q (by omega)))
    have t57 : ia h7 6 (a + 85) (upd f7 kn (nI (bn c len 3))) := ia_cg9 t5 ((F7.2 _ (by omega)).trans (F6.2 _ (by omega)))
    have t67 : ia h7 6 (a + 86) (upd f8 kn (nI len)) := ia_cg9 t6 (F7.2 _ (by omega))
    have st7 : ST h7 a kn an kf af D [] ou := ST_pl st2 hk6 F27 (wv_iw w7) (SQ_cg r2 (fun q z1 z2 => (F47.2 q (by omega)).trans (F24.2 q (by omega)))) ⟨⟨_, _, mh7.1.1⟩, wv_iw mh7.1.2.1, wv_iw mh7.2.1⟩ (fun f kk => by
      cases ia_u kk e7
      exact ⟨_, t57, fun i hi => upd_n hi⟩) (fun f kk => by
      cases ia_u kk e8
      exact ⟨_, t67, fun i hi => upd_n hi⟩) (fun f kk => by
      cases ia_u kk e9
      exact ⟨_, t7, fun i hi => upd_n hi⟩)
    have ex : mkK 2 w = (2, len, gb w (w.length - 1), true, sl (gb w) 0 (len + 3), sl (gb w) (len + 3) len, []) := by
      unfold mkK
      rw [if_neg (by decide), hlen]
    rw [ex]
    obtain ⟨x, hx⟩ : ∃ x : aK, x = (2, len, gb w (w.length - 1), true, sl (gb w) 0 (len + 3), sl (gb w) (len + 3) len, []) := ⟨_, rfl⟩
    rw [← hx]
    have x1 : kty x = 2 := by rw [hx]
    have x2 : ksz x = len := by rw [hx]
    have x3 : klv x = true := by rw [hx]
    have x4 : ksh x = sl (gb w) 0 (len + 3) := by rw [hx]
    have x5 : kse x = sl (gb w) (len + 3) len := by rw [hx]
    have x6 : ksa x = c (w.length - 1) := by rw [cw _ (by omega), hx]
    have b1' : bn (gb (ksh x)) 0 len = bn c 0 len := by
      rw [x4]
      exact bn_ext len (fun j hj => by rw [gb_sl (by omega), cw _ (by omega), Nat.zero_add])
    have b2' : bn (gb (ksh x)) len 3 = bn c len 3 := by
      rw [x4]
      exact bn_ext 3 (fun j hj => by rw [gb_sl (by omega), cw _ (by omega), Nat.zero_add])
    have b3' : bn (gb (kse x)) 0 len = bn c (len + 3) len := by
      rw [x5, bn_gb]
      exact (bn_w ec (by omega)).symm
    have es : sb (c (w.length - 1)) = nI (c (w.length - 1)) := by
      have : c (w.length - 1) < 128 := by omega
      exact (sb_eq _ v9.2 _ this).mpr rfl
    have nk : NK h7 a kn x := ⟨⟨fun z => by omega, fun _ => by rw [x2, hlim, b1', b3']; exact ⟨sh, mh7, w7⟩⟩, ⟨_, t57, fun _ => by rw [upd_e, x2, b2']⟩, ⟨_, t67, by rw [upd_e, x2]⟩, ⟨_, t7, fun _ => by rw [upd_e, x6, es]⟩⟩
    have kb : k2b x := .inr ⟨x1, by omega, by rw [x4, x2]; exact sl_len, by rw [x4]; exact ok8_sl (fun j hj => by rw [← cw _ (by omega)]; exact bv_lt bc _ (by omega)), by rw [x2, b2']; omega, by omega⟩
    have rc := rp_comes (l := l) (O := O) (f9 := f9) k7 G st7 hk6 nk x3 kb
    rw [x1] at rc
    refine vm_go rfl bX14_keyTwox_301 oX14_keyTwox_301 ⟨_, k7.1.1, 0, 0, _, rc, Nat.zero_le _, Nat.zero_le _, ?_⟩
    rintro _ h8 ⟨rfl, k8, F8⟩
    exact ⟨rfl, k8, fr_trans FF2 (fr_trans (fr_mono F27 (fun q z => by unfold scr at z; unfold RF; omega)) F8)⟩
  have c136 : (c (w.length - 1) = 0 ∨ c (w.length - 1) = 48) → vm_T (vm_env l O f9) mX14_keyTwo 0 0 136 [(0, .ref a), (1, .int (nI w.length)), (2, .int (nI len)), (3, .int (nI (bn c len 3))), (4, .int (sb (c (w.length - 1))))] [] h (fun r h' => r = some (.int (fKy t.1 t.2.1 2 w kn kf).1) ∧ RM h' a t 0 [] ou (fKy t.1 t.2.1 2 w kn kf).2.1 an rd (fKy t.1 t.2.1 2 w kn kf).2.2 af D dn wl wr ∧ fr h h' (RF a)) := fun hs => by
    refine vm_go rfl bX14_keyTwox_136 oX14_keyTwox_136 ⟨fun q => c152 (.inl (hs.resolve_right (fun z => q (s48.mpr z)))), fun q => ⟨fun q2 => c152 (hs.elim .inl (fun z => .inr ⟨z, l100.mp q2⟩)), fun q2 => bad149 (fun z => ?_)⟩⟩
    have e48 : c (w.length - 1) = 48 := s48.mp q
    rcases (hk.mp z).2.2.2.2.2.2.2 with y9 | y9
    · omega
    · exact q2 (l100.mpr y9.2)
  refine vm_go rfl bX14_keyTwox_124 oX14_keyTwox_124 ⟨fun q => c136 (.inl (s0.mp q)), fun q => ⟨fun q2 => bad149 (fun z => ?_), fun q2 => c136 (.inr (s48.mp q2))⟩⟩
  rcases (hk.mp z).2.2.2.2.2.2.2 with y9 | y9
  · exact q (s0.mpr y9)
  · exact q2 (s48.mpr y9.1)
theorem rp_key {z : Int} (hz : i32 z) (K : RM h a t th w ou kn an rd kf af D dn wl wr) : vm_Met (vm_env l O f9) mX14_key 0 0 [.ref a, .int (iZ z)] h (fun r h' => r = some (.int (fKy t.1 t.2.1 z w kn kf).1) ∧ RM h' a t 0 [] ou (fKy t.1 t.2.1 z w kn kf).2.1 an rd (fKy t.1 t.2.1 z w kn kf).2.2 af D dn wl wr ∧ fr h h' (RF a)) := by
  have K0 := K
  obtain ⟨g0, m0, y0, k0, G0, st0⟩ := K
  have wl9 := st0.2.2.2.2.2.1
  have ao := k0.1.2.1
  refine vm_met rfl (Nat.le_of_ble_eq_true rfl) ?_
  refine vm_go rfl bX14_keyx_0 oX14_keyx_0 ⟨_, k0.1.1, 0, 0, _, rp_used K0, Nat.zero_le _, Nat.zero_le _, ?_⟩
  rintro _ h1 ⟨rfl, K1, tw, F1⟩
  have F1' : fr h h1 (RF a) := fr_mono F1 (fun q z => by unfold RF; omega)
  have K1' := K1
  obtain ⟨g, m, y, k, G, st⟩ := K1
  refine vm_Th (lv' := [(0, .ref a), (1, .int (iZ z)), (2, .int (nI w.length))]) (h' := h1) rfl rfl ?_
  by_cases c1 : z = 1
  · rw [c1]
    refine vm_go rfl bX14_keyx_5 oX14_keyx_5 ⟨fun q => absurd rfl q, fun _ => ⟨_, k.1.1, 0, 0, _, rp_keyOne k G st tw wl9, Nat.zero_le _, Nat.zero_le _, ?_⟩⟩
    rintro _ h2 ⟨rfl, k2, F2⟩
    exact ⟨rfl, k2, fr_trans F1' F2⟩
  refine vm_go rfl bX14_keyx_5 oX14_keyx_5 ⟨fun _ => ?_, fun q => absurd ((iZ_inj (b := 1) hz.1 hz.2 (by decide) (by decide)).mp q) c1⟩
  by_cases c2 : z = 2
  · rw [c2]
    refine vm_go rfl bX14_keyx_16 oX14_keyx_16 ⟨fun q => absurd rfl q, fun _ => ⟨_, k.1.1, 0, 0, _, rp_keyTwo k G st tw wl9, Nat.zero_le _, Nat.zero_le _, ?_⟩⟩
    rintro _ h2 ⟨rfl, k2, F2⟩
    exact ⟨rfl, k2, fr_trans F1' F2⟩
  have ef : fKy t.1 t.2.1 z w kn kf = (-2, kn, kf) := by
    unfold fKy
    refine cif_f (fun n => ?_)
    rcases n with n | n
    · exact c1 n.1
    · exact c2 n.1
  rw [ef]
  exact vm_go rfl bX14_keyx_16 oX14_keyx_16 ⟨fun _ => vm_go rfl bX14_keyx_27 oX14_keyx_27 ⟨rfl, K1', F1'⟩, fun q => absurd ((iZ_inj (b := 2) hz.1 hz.2 (by decide) (by decide)).mp q) c2⟩

end
