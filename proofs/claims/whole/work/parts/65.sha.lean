/-! code of Hash in smaller pieces (written by wip/gen/hcode.py) -/
def bX4_mix2x_0 : List vm_J := [(1, .aload_n 0, 0, 0, 0, .null), (3, .getfield 9, 4, 0, 0, .null), (1, .astore_n 1, 0, 0, 0, .null)]
set_option maxRecDepth 20000 in
theorem oX4_mix2x_0 : vm_okB 4 mX4_mix2 0 bX4_mix2x_0 = true := by decide +kernel
def bX4_mix2x_5 : List vm_J := [(1, .aload_n 1, 0, 0, 0, .null), (1, .iconst 0, 0, 0, 0, .int 0), (1, .iaload, 0, 0, 0, .null), (1, .istore_n 2, 0, 0, 0, .null)]
set_option maxRecDepth 20000 in
theorem oX4_mix2x_5 : vm_okB 4 mX4_mix2 5 bX4_mix2x_5 = true := by decide +kernel
def bX4_mix2x_9 : List vm_J := [(1, .aload_n 1, 0, 0, 0, .null), (1, .iconst 1, 0, 0, 0, .int 1), (1, .iaload, 0, 0, 0, .null), (1, .istore_n 3, 0, 0, 0, .null)]
set_option maxRecDepth 20000 in
theorem oX4_mix2x_9 : vm_okB 4 mX4_mix2 9 bX4_mix2x_9 = true := by decide +kernel
def bX4_mix2x_13 : List vm_J := [(1, .aload_n 1, 0, 0, 0, .null), (1, .iconst 2, 0, 0, 0, .int 2), (1, .iaload, 0, 0, 0, .null), (2, .istore 4, 0, 0, 0, .null)]
set_option maxRecDepth 20000 in
theorem oX4_mix2x_13 : vm_okB 4 mX4_mix2 13 bX4_mix2x_13 = true := by decide +kernel
def bX4_mix2x_18 : List vm_J := [(1, .aload_n 1, 0, 0, 0, .null), (1, .iconst 3, 0, 0, 0, .int 3), (1, .iaload, 0, 0, 0, .null), (2, .istore 5, 0, 0, 0, .null)]
set_option maxRecDepth 20000 in
theorem oX4_mix2x_18 : vm_okB 4 mX4_mix2 18 bX4_mix2x_18 = true := by decide +kernel
def bX4_mix2x_23 : List vm_J := [(1, .aload_n 1, 0, 0, 0, .null), (1, .iconst 4, 0, 0, 0, .int 4), (1, .iaload, 0, 0, 0, .null), (2, .istore 6, 0, 0, 0, .null)]
set_option maxRecDepth 20000 in
theorem oX4_mix2x_23 : vm_okB 4 mX4_mix2 23 bX4_mix2x_23 = true := by decide +kernel
def bX4_mix2x_28 : List vm_J := [(1, .aload_n 1, 0, 0, 0, .null), (1, .iconst 5, 0, 0, 0, .int 5), (1, .iaload, 0, 0, 0, .null), (2, .istore 7, 0, 0, 0, .null)]
set_option maxRecDepth 20000 in
theorem oX4_mix2x_28 : vm_okB 4 mX4_mix2 28 bX4_mix2x_28 = true := by decide +kernel
def bX4_mix2x_33 : List vm_J := [(1, .aload_n 1, 0, 0, 0, .null), (2, .bipush 6, 0, 0, 0, .int 6), (1, .iaload, 0, 0, 0, .null), (2, .istore 8, 0, 0, 0, .null)]
set_option maxRecDepth 20000 in
theorem oX4_mix2x_33 : vm_okB 4 mX4_mix2 33 bX4_mix2x_33 = true := by decide +kernel
def bX4_mix2x_39 : List vm_J := [(1, .aload_n 1, 0, 0, 0, .null), (2, .bipush 7, 0, 0, 0, .int 7), (1, .iaload, 0, 0, 0, .null), (2, .istore 9, 0, 0, 0, .null)]
set_option maxRecDepth 20000 in
theorem oX4_mix2x_39 : vm_okB 4 mX4_mix2 39 bX4_mix2x_39 = true := by decide +kernel
def bX4_mix2x_45 : List vm_J := [(1, .iconst 0, 0, 0, 0, .int 0), (2, .istore 10, 0, 0, 0, .null)]
set_option maxRecDepth 20000 in
theorem oX4_mix2x_45 : vm_okB 4 mX4_mix2 45 bX4_mix2x_45 = true := by decide +kernel
def bX4_mix2x_48 : List vm_J := [(2, .iload 10, 0, 0, 0, .null), (2, .bipush 64, 0, 0, 0, .int 64), (3, .if_icmp .ge 156, 208, 0, 0, .null), (2, .iload 9, 0, 0, 0, .null), (2, .iload 6, 0, 0, 0, .null), (2, .bipush 6, 0, 0, 0, .int 6), (1, .iushr, 0, 0, 0, .null), (2, .iload 6, 0, 0, 0, .null), (2, .bipush 26, 0, 0, 0, .int 26), (1, .ishl, 0, 0, 0, .null), (1, .ior, 0, 0, 0, .null), (2, .iload 6, 0, 0, 0, .null), (2, .bipush 11, 0, 0, 0, .int 11), (1, .iushr, 0, 0, 0, .null), (2, .iload 6, 0, 0, 0, .null), (2, .bipush 21, 0, 0, 0, .int 21), (1, .ishl, 0, 0, 0, .null), (1, .ior, 0, 0, 0, .null), (1, .ixor, 0, 0, 0, .null), (2, .iload 6, 0, 0, 0, .null), (2, .bipush 25, 0, 0, 0, .int 25), (1, .iushr, 0, 0, 0, .null), (2, .iload 6, 0, 0, 0, .null), (2, .bipush 7, 0, 0, 0, .int 7), (1, .ishl, 0, 0, 0, .null), (1, .ior, 0, 0, 0, .null), (1, .ixor, 0, 0, 0, .null), (1, .iadd, 0, 0, 0, .null), (2, .iload 6, 0, 0, 0, .null), (2, .iload 7, 0, 0, 0, .null), (1, .iand, 0, 0, 0, .null), (2, .iload 6, 0, 0, 0, .null), (1, .iconst (-1), 0, 0, 0, .int (-1)), (1, .ixor, 0, 0, 0, .null), (2, .iload 8, 0, 0, 0, .null), (1, .iand, 0, 0, 0, .null), (1, .ixor, 0, 0, 0, .null), (1, .iadd, 0, 0, 0, .null), (3, .getstatic 66, 16, 0, 0, .null), (2, .iload 10, 0, 0, 0, .null), (1, .iaload, 0, 0, 0, .null), (1, .iadd, 0, 0, 0, .null), (1, .aload_n 0, 0, 0, 0, .null), (3, .getfield 15, 4, 1, 0, .null), (2, .iload 10, 0, 0, 0, .null), (1, .iaload, 0, 0, 0, .null), (1, .iadd, 0, 0, 0, .null), (2, .istore 11, 0, 0, 0, .null)]
set_option maxRecDepth 20000 in
theorem oX4_mix2x_48 : vm_okB 4 mX4_mix2 48 bX4_mix2x_48 = true := by decide +kernel
def bX4_mix2x_124 : List vm_J := [(1, .iload_n 2, 0, 0, 0, .null), (1, .iconst 2, 0, 0, 0, .int 2), (1, .iushr, 0, 0, 0, .null), (1, .iload_n 2, 0, 0, 0, .null), (2, .bipush 30, 0, 0, 0, .int 30), (1, .ishl, 0, 0, 0, .null), (1, .ior, 0, 0, 0, .null), (1, .iload_n 2, 0, 0, 0, .null), (2, .bipush 13, 0, 0, 0, .int 13), (1, .iushr, 0, 0, 0, .null), (1, .iload_n 2, 0, 0, 0, .null), (2, .bipush 19, 0, 0, 0, .int 19), (1, .ishl, 0, 0, 0, .null), (1, .ior, 0, 0, 0, .null), (1, .ixor, 0, 0, 0, .null), (1, .iload_n 2, 0, 0, 0, .null), (2, .bipush 22, 0, 0, 0, .int 22), (1, .iushr, 0, 0, 0, .null), (1, .iload_n 2, 0, 0, 0, .null), (2, .bipush 10, 0, 0, 0, .int 10), (1, .ishl, 0, 0, 0, .null), (1, .ior, 0, 0, 0, .null), (1, .ixor, 0, 0, 0, .null), (1, .iload_n 2, 0, 0, 0, .null), (1, .iload_n 3, 0, 0, 0, .null), (1, .iand, 0, 0, 0, .null), (1, .iload_n 2, 0, 0, 0, .null), (2, .iload 4, 0, 0, 0, .null), (1, .iand, 0, 0, 0, .null), (1, .ixor, 0, 0, 0, .null), (1, .iload_n 3, 0, 0, 0, .null), (2, .iload 4, 0, 0, 0, .null), (1, .iand, 0, 0, 0, .null), (1, .ixor, 0, 0, 0, .null), (1, .iadd, 0, 0, 0, .null), (2, .istore 12, 0, 0, 0, .null)]
set_option maxRecDepth 20000 in
theorem oX4_mix2x_124 : vm_okB 4 mX4_mix2 124 bX4_mix2x_124 = true := by decide +kernel
def bX4_mix2x_168 : List vm_J := [(2, .iload 8, 0, 0, 0, .null), (2, .istore 9, 0, 0, 0, .null)]
set_option maxRecDepth 20000 in
theorem oX4_mix2x_168 : vm_okB 4 mX4_mix2 168 bX4_mix2x_168 = true := by decide +kernel
def bX4_mix2x_172 : List vm_J := [(2, .iload 7, 0, 0, 0, .null), (2, .istore 8, 0, 0, 0, .null)]
set_option maxRecDepth 20000 in
theorem oX4_mix2x_172 : vm_okB 4 mX4_mix2 172 bX4_mix2x_172 = true := by decide +kernel
def bX4_mix2x_176 : List vm_J := [(2, .iload 6, 0, 0, 0, .null), (2, .istore 7, 0, 0, 0, .null)]
set_option maxRecDepth 20000 in
theorem oX4_mix2x_176 : vm_okB 4 mX4_mix2 176 bX4_mix2x_176 = true := by decide +kernel
def bX4_mix2x_180 : List vm_J := [(2, .iload 5, 0, 0, 0, .null), (2, .iload 11, 0, 0, 0, .null), (1, .iadd, 0, 0, 0, .null), (2, .istore 6, 0, 0, 0, .null)]
set_option maxRecDepth 20000 in
theorem oX4_mix2x_180 : vm_okB 4 mX4_mix2 180 bX4_mix2x_180 = true := by decide +kernel
def bX4_mix2x_187 : List vm_J := [(2, .iload 4, 0, 0, 0, .null), (2, .istore 5, 0, 0, 0, .null)]
set_option maxRecDepth 20000 in
theorem oX4_mix2x_187 : vm_okB 4 mX4_mix2 187 bX4_mix2x_187 = true := by decide +kernel
def bX4_mix2x_191 : List vm_J := [(1, .iload_n 3, 0, 0, 0, .null), (2, .istore 4, 0, 0, 0, .null)]
set_option maxRecDepth 20000 in
theorem oX4_mix2x_191 : vm_okB 4 mX4_mix2 191 bX4_mix2x_191 = true := by decide +kernel
def bX4_mix2x_194 : List vm_J := [(1, .iload_n 2, 0, 0, 0, .null), (1, .istore_n 3, 0, 0, 0, .null)]
set_option maxRecDepth 20000 in
theorem oX4_mix2x_194 : vm_okB 4 mX4_mix2 194 bX4_mix2x_194 = true := by decide +kernel
def bX4_mix2x_196 : List vm_J := [(2, .iload 11, 0, 0, 0, .null), (2, .iload 12, 0, 0, 0, .null), (1, .iadd, 0, 0, 0, .null), (1, .istore_n 2, 0, 0, 0, .null)]
set_option maxRecDepth 20000 in
theorem oX4_mix2x_196 : vm_okB 4 mX4_mix2 196 bX4_mix2x_196 = true := by decide +kernel
def bX4_mix2x_202 : List vm_J := [(3, .iinc 10 1, 0, 0, 0, .int 1), (3, .goto (-157), 48, 0, 0, .null)]
set_option maxRecDepth 20000 in
theorem oX4_mix2x_202 : vm_okB 4 mX4_mix2 202 bX4_mix2x_202 = true := by decide +kernel
def bX4_mix2x_208 : List vm_J := [(1, .aload_n 1, 0, 0, 0, .null), (1, .iconst 0, 0, 0, 0, .int 0), (1, .dup2, 0, 0, 0, .null), (1, .iaload, 0, 0, 0, .null), (1, .iload_n 2, 0, 0, 0, .null), (1, .iadd, 0, 0, 0, .null), (1, .iastore, 0, 0, 0, .null), (1, .aload_n 1, 0, 0, 0, .null), (1, .iconst 1, 0, 0, 0, .int 1), (1, .dup2, 0, 0, 0, .null), (1, .iaload, 0, 0, 0, .null), (1, .iload_n 3, 0, 0, 0, .null), (1, .iadd, 0, 0, 0, .null), (1, .iastore, 0, 0, 0, .null), (1, .aload_n 1, 0, 0, 0, .null), (1, .iconst 2, 0, 0, 0, .int 2), (1, .dup2, 0, 0, 0, .null), (1, .iaload, 0, 0, 0, .null), (2, .iload 4, 0, 0, 0, .null), (1, .iadd, 0, 0, 0, .null), (1, .iastore, 0, 0, 0, .null), (1, .aload_n 1, 0, 0, 0, .null), (1, .iconst 3, 0, 0, 0, .int 3), (1, .dup2, 0, 0, 0, .null), (1, .iaload, 0, 0, 0, .null), (2, .iload 5, 0, 0, 0, .null), (1, .iadd, 0, 0, 0, .null), (1, .iastore, 0, 0, 0, .null), (1, .aload_n 1, 0, 0, 0, .null), (1, .iconst 4, 0, 0, 0, .int 4), (1, .dup2, 0, 0, 0, .null), (1, .iaload, 0, 0, 0, .null), (2, .iload 6, 0, 0, 0, .null), (1, .iadd, 0, 0, 0, .null), (1, .iastore, 0, 0, 0, .null), (1, .aload_n 1, 0, 0, 0, .null), (1, .iconst 5, 0, 0, 0, .int 5), (1, .dup2, 0, 0, 0, .null), (1, .iaload, 0, 0, 0, .null), (2, .iload 7, 0, 0, 0, .null), (1, .iadd, 0, 0, 0, .null), (1, .iastore, 0, 0, 0, .null), (1, .aload_n 1, 0, 0, 0, .null), (2, .bipush 6, 0, 0, 0, .int 6), (1, .dup2, 0, 0, 0, .null), (1, .iaload, 0, 0, 0, .null), (2, .iload 8, 0, 0, 0, .null), (1, .iadd, 0, 0, 0, .null), (1, .iastore, 0, 0, 0, .null), (1, .aload_n 1, 0, 0, 0, .null), (2, .bipush 7, 0, 0, 0, .int 7), (1, .dup2, 0, 0, 0, .null), (1, .iaload, 0, 0, 0, .null), (2, .iload 9, 0, 0, 0, .null), (1, .iadd, 0, 0, 0, .null), (1, .iastore, 0, 0, 0, .null), (1, .return_, 0, 0, 0, .null)]
set_option maxRecDepth 20000 in
theorem oX4_mix2x_208 : vm_okB 4 mX4_mix2 208 bX4_mix2x_208 = true := by decide +kernel
def bX4_mix3x_0 : List vm_J := [(1, .aload_n 0, 0, 0, 0, .null), (3, .getfield 18, 4, 2, 0, .null), (1, .astore_n 1, 0, 0, 0, .null)]
set_option maxRecDepth 20000 in
theorem oX4_mix3x_0 : vm_okB 4 mX4_mix3 0 bX4_mix3x_0 = true := by decide +kernel
def bX4_mix3x_5 : List vm_J := [(1, .aload_n 1, 0, 0, 0, .null), (1, .iconst 0, 0, 0, 0, .int 0), (1, .laload, 0, 0, 0, .null), (1, .lstore_n 2, 0, 0, 0, .null)]
set_option maxRecDepth 20000 in
theorem oX4_mix3x_5 : vm_okB 4 mX4_mix3 5 bX4_mix3x_5 = true := by decide +kernel
def bX4_mix3x_9 : List vm_J := [(1, .aload_n 1, 0, 0, 0, .null), (1, .iconst 1, 0, 0, 0, .int 1), (1, .laload, 0, 0, 0, .null), (2, .lstore 4, 0, 0, 0, .null)]
set_option maxRecDepth 20000 in
theorem oX4_mix3x_9 : vm_okB 4 mX4_mix3 9 bX4_mix3x_9 = true := by decide +kernel
def bX4_mix3x_14 : List vm_J := [(1, .aload_n 1, 0, 0, 0, .null), (1, .iconst 2, 0, 0, 0, .int 2), (1, .laload, 0, 0, 0, .null), (2, .lstore 6, 0, 0, 0, .null)]
set_option maxRecDepth 20000 in
theorem oX4_mix3x_14 : vm_okB 4 mX4_mix3 14 bX4_mix3x_14 = true := by decide +kernel
def bX4_mix3x_19 : List vm_J := [(1, .aload_n 1, 0, 0, 0, .null), (1, .iconst 3, 0, 0, 0, .int 3), (1, .laload, 0, 0, 0, .null), (2, .lstore 8, 0, 0, 0, .null)]
set_option maxRecDepth 20000 in
theorem oX4_mix3x_19 : vm_okB 4 mX4_mix3 19 bX4_mix3x_19 = true := by decide +kernel
def bX4_mix3x_24 : List vm_J := [(1, .aload_n 1, 0, 0, 0, .null), (1, .iconst 4, 0, 0, 0, .int 4), (1, .laload, 0, 0, 0, .null), (2, .lstore 10, 0, 0, 0, .null)]
set_option maxRecDepth 20000 in
theorem oX4_mix3x_24 : vm_okB 4 mX4_mix3 24 bX4_mix3x_24 = true := by decide +kernel
def bX4_mix3x_29 : List vm_J := [(1, .aload_n 1, 0, 0, 0, .null), (1, .iconst 5, 0, 0, 0, .int 5), (1, .laload, 0, 0, 0, .null), (2, .lstore 12, 0, 0, 0, .null)]
set_option maxRecDepth 20000 in
theorem oX4_mix3x_29 : vm_okB 4 mX4_mix3 29 bX4_mix3x_29 = true := by decide +kernel
def bX4_mix3x_34 : List vm_J := [(1, .aload_n 1, 0, 0, 0, .null), (2, .bipush 6, 0, 0, 0, .int 6), (1, .laload, 0, 0, 0, .null), (2, .lstore 14, 0, 0, 0, .null)]
set_option maxRecDepth 20000 in
theorem oX4_mix3x_34 : vm_okB 4 mX4_mix3 34 bX4_mix3x_34 = true := by decide +kernel
def bX4_mix3x_40 : List vm_J := [(1, .aload_n 1, 0, 0, 0, .null), (2, .bipush 7, 0, 0, 0, .int 7), (1, .laload, 0, 0, 0, .null), (2, .lstore 16, 0, 0, 0, .null)]
set_option maxRecDepth 20000 in
theorem oX4_mix3x_40 : vm_okB 4 mX4_mix3 40 bX4_mix3x_40 = true := by decide +kernel
def bX4_mix3x_46 : List vm_J := [(1, .iconst 0, 0, 0, 0, .int 0), (2, .istore 18, 0, 0, 0, .null)]
set_option maxRecDepth 20000 in
theorem oX4_mix3x_46 : vm_okB 4 mX4_mix3 46 bX4_mix3x_46 = true := by decide +kernel
def bX4_mix3x_49 : List vm_J := [(2, .iload 18, 0, 0, 0, .null), (2, .bipush 80, 0, 0, 0, .int 80), (3, .if_icmp .ge 163, 216, 0, 0, .null), (2, .lload 16, 0, 0, 0, .null), (2, .lload 10, 0, 0, 0, .null), (2, .bipush 14, 0, 0, 0, .int 14), (1, .lushr, 0, 0, 0, .null), (2, .lload 10, 0, 0, 0, .null), (2, .bipush 50, 0, 0, 0, .int 50), (1, .lshl, 0, 0, 0, .null), (1, .lor, 0, 0, 0, .null), (2, .lload 10, 0, 0, 0, .null), (2, .bipush 18, 0, 0, 0, .int 18), (1, .lushr, 0, 0, 0, .null), (2, .lload 10, 0, 0, 0, .null), (2, .bipush 46, 0, 0, 0, .int 46), (1, .lshl, 0, 0, 0, .null), (1, .lor, 0, 0, 0, .null), (1, .lxor, 0, 0, 0, .null), (2, .lload 10, 0, 0, 0, .null), (2, .bipush 41, 0, 0, 0, .int 41), (1, .lushr, 0, 0, 0, .null), (2, .lload 10, 0, 0, 0, .null), (2, .bipush 23, 0, 0, 0, .int 23), (1, .lshl, 0, 0, 0, .null), (1, .lor, 0, 0, 0, .null), (1, .lxor, 0, 0, 0, .null), (1, .ladd, 0, 0, 0, .null), (2, .lload 10, 0, 0, 0, .null), (2, .lload 12, 0, 0, 0, .null), (1, .land, 0, 0, 0, .null), (2, .lload 10, 0, 0, 0, .null), (3, .ldc2_w 69, 0, 0, 0, .long (-1)), (1, .lxor, 0, 0, 0, .null), (2, .lload 14, 0, 0, 0, .null), (1, .land, 0, 0, 0, .null), (1, .lxor, 0, 0, 0, .null), (1, .ladd, 0, 0, 0, .null), (3, .getstatic 71, 17, 0, 0, .null), (2, .iload 18, 0, 0, 0, .null), (1, .laload, 0, 0, 0, .null), (1, .ladd, 0, 0, 0, .null), (1, .aload_n 0, 0, 0, 0, .null), (3, .getfield 22, 4, 3, 0, .null), (2, .iload 18, 0, 0, 0, .null), (1, .laload, 0, 0, 0, .null), (1, .ladd, 0, 0, 0, .null), (2, .lstore 19, 0, 0, 0, .null)]
set_option maxRecDepth 20000 in
theorem oX4_mix3x_49 : vm_okB 4 mX4_mix3 49 bX4_mix3x_49 = true := by decide +kernel
def bX4_mix3x_127 : List vm_J := [(1, .lload_n 2, 0, 0, 0, .null), (2, .bipush 28, 0, 0, 0, .int 28), (1, .lushr, 0, 0, 0, .null), (1, .lload_n 2, 0, 0, 0, .null), (2, .bipush 36, 0, 0, 0, .int 36), (1, .lshl, 0, 0, 0, .null), (1, .lor, 0, 0, 0, .null), (1, .lload_n 2, 0, 0, 0, .null), (2, .bipush 34, 0, 0, 0, .int 34), (1, .lushr, 0, 0, 0, .null), (1, .lload_n 2, 0, 0, 0, .null), (2, .bipush 30, 0, 0, 0, .int 30), (1, .lshl, 0, 0, 0, .null), (1, .lor, 0, 0, 0, .null), (1, .lxor, 0, 0, 0, .null), (1, .lload_n 2, 0, 0, 0, .null), (2, .bipush 39, 0, 0, 0, .int 39), (1, .lushr, 0, 0, 0, .null), (1, .lload_n 2, 0, 0, 0, .null), (2, .bipush 25, 0, 0, 0, .int 25), (1, .lshl, 0, 0, 0, .null), (1, .lor, 0, 0, 0, .null), (1, .lxor, 0, 0, 0, .null), (1, .lload_n 2, 0, 0, 0, .null), (2, .lload 4, 0, 0, 0, .null), (1, .land, 0, 0, 0, .null), (1, .lload_n 2, 0, 0, 0, .null), (2, .lload 6, 0, 0, 0, .null), (1, .land, 0, 0, 0, .null), (1, .lxor, 0, 0, 0, .null), (2, .lload 4, 0, 0, 0, .null), (2, .lload 6, 0, 0, 0, .null), (1, .land, 0, 0, 0, .null), (1, .lxor, 0, 0, 0, .null), (1, .ladd, 0, 0, 0, .null), (2, .lstore 21, 0, 0, 0, .null)]
set_option maxRecDepth 20000 in
theorem oX4_mix3x_127 : vm_okB 4 mX4_mix3 127 bX4_mix3x_127 = true := by decide +kernel
def bX4_mix3x_174 : List vm_J := [(2, .lload 14, 0, 0, 0, .null), (2, .lstore 16, 0, 0, 0, .null)]
set_option maxRecDepth 20000 in
theorem oX4_mix3x_174 : vm_okB 4 mX4_mix3 174 bX4_mix3x_174 = true := by decide +kernel
def bX4_mix3x_178 : List vm_J := [(2, .lload 12, 0, 0, 0, .null), (2, .lstore 14, 0, 0, 0, .null)]
set_option maxRecDepth 20000 in
theorem oX4_mix3x_178 : vm_okB 4 mX4_mix3 178 bX4_mix3x_178 = true := by decide +kernel
def bX4_mix3x_182 : List vm_J := [(2, .lload 10, 0, 0, 0, .null), (2, .lstore 12, 0, 0, 0, .null)]
set_option maxRecDepth 20000 in
theorem oX4_mix3x_182 : vm_okB 4 mX4_mix3 182 bX4_mix3x_182 = true := by decide +kernel
def bX4_mix3x_186 : List vm_J := [(2, .lload 8, 0, 0, 0, .null), (2, .lload 19, 0, 0, 0, .null), (1, .ladd, 0, 0, 0, .null), (2, .lstore 10, 0, 0, 0, .null)]
set_option maxRecDepth 20000 in
theorem oX4_mix3x_186 : vm_okB 4 mX4_mix3 186 bX4_mix3x_186 = true := by decide +kernel
def bX4_mix3x_193 : List vm_J := [(2, .lload 6, 0, 0, 0, .null), (2, .lstore 8, 0, 0, 0, .null)]
set_option maxRecDepth 20000 in
theorem oX4_mix3x_193 : vm_okB 4 mX4_mix3 193 bX4_mix3x_193 = true := by decide +kernel
def bX4_mix3x_197 : List vm_J := [(2, .lload 4, 0, 0, 0, .null), (2, .lstore 6, 0, 0, 0, .null)]
set_option maxRecDepth 20000 in
theorem oX4_mix3x_197 : vm_okB 4 mX4_mix3 197 bX4_mix3x_197 = true := by decide +kernel
def bX4_mix3x_201 : List vm_J := [(1, .lload_n 2, 0, 0, 0, .null), (2, .lstore 4, 0, 0, 0, .null)]
set_option maxRecDepth 20000 in
theorem oX4_mix3x_201 : vm_okB 4 mX4_mix3 201 bX4_mix3x_201 = true := by decide +kernel
def bX4_mix3x_204 : List vm_J := [(2, .lload 19, 0, 0, 0, .null), (2, .lload 21, 0, 0, 0, .null), (1, .ladd, 0, 0, 0, .null), (1, .lstore_n 2, 0, 0, 0, .null)]
set_option maxRecDepth 20000 in
theorem oX4_mix3x_204 : vm_okB 4 mX4_mix3 204 bX4_mix3x_204 = true := by decide +kernel
def bX4_mix3x_210 : List vm_J := [(3, .iinc 18 1, 0, 0, 0, .int 1), (3, .goto (-164), 49, 0, 0, .null)]
set_option maxRecDepth 20000 in
theorem oX4_mix3x_210 : vm_okB 4 mX4_mix3 210 bX4_mix3x_210 = true := by decide +kernel
def bX4_mix3x_216 : List vm_J := [(1, .aload_n 1, 0, 0, 0, .null), (1, .iconst 0, 0, 0, 0, .int 0), (1, .dup2, 0, 0, 0, .null), (1, .laload, 0, 0, 0, .null), (1, .lload_n 2, 0, 0, 0, .null), (1, .ladd, 0, 0, 0, .null), (1, .lastore, 0, 0, 0, .null), (1, .aload_n 1, 0, 0, 0, .null), (1, .iconst 1, 0, 0, 0, .int 1), (1, .dup2, 0, 0, 0, .null), (1, .laload, 0, 0, 0, .null), (2, .lload 4, 0, 0, 0, .null), (1, .ladd, 0, 0, 0, .null), (1, .lastore, 0, 0, 0, .null), (1, .aload_n 1, 0, 0, 0, .null), (1, .iconst 2, 0, 0, 0, .int 2), (1, .dup2, 0, 0, 0, .null), (1, .laload, 0, 0, 0, .null), (2, .lload 6, 0, 0, 0, .null), (1, .ladd, 0, 0, 0, .null), (1, .lastore, 0, 0, 0, .null), (1, .aload_n 1, 0, 0, 0, .null), (1, .iconst 3, 0, 0, 0, .int 3), (1, .dup2, 0, 0, 0, .null), (1, .laload, 0, 0, 0, .null), (2, .lload 8, 0, 0, 0, .null), (1, .ladd, 0, 0, 0, .null), (1, .lastore, 0, 0, 0, .null), (1, .aload_n 1, 0, 0, 0, .null), (1, .iconst 4, 0, 0, 0, .int 4), (1, .dup2, 0, 0, 0, .null), (1, .laload, 0, 0, 0, .null), (2, .lload 10, 0, 0, 0, .null), (1, .ladd, 0, 0, 0, .null), (1, .lastore, 0, 0, 0, .null), (1, .aload_n 1, 0, 0, 0, .null), (1, .iconst 5, 0, 0, 0, .int 5), (1, .dup2, 0, 0, 0, .null), (1, .laload, 0, 0, 0, .null), (2, .lload 12, 0, 0, 0, .null), (1, .ladd, 0, 0, 0, .null), (1, .lastore, 0, 0, 0, .null), (1, .aload_n 1, 0, 0, 0, .null), (2, .bipush 6, 0, 0, 0, .int 6), (1, .dup2, 0, 0, 0, .null), (1, .laload, 0, 0, 0, .null), (2, .lload 14, 0, 0, 0, .null), (1, .ladd, 0, 0, 0, .null), (1, .lastore, 0, 0, 0, .null), (1, .aload_n 1, 0, 0, 0, .null), (2, .bipush 7, 0, 0, 0, .int 7), (1, .dup2, 0, 0, 0, .null), (1, .laload, 0, 0, 0, .null), (2, .lload 16, 0, 0, 0, .null), (1, .ladd, 0, 0, 0, .null), (1, .lastore, 0, 0, 0, .null), (1, .return_, 0, 0, 0, .null)]
set_option maxRecDepth 20000 in
theorem oX4_mix3x_216 : vm_okB 4 mX4_mix3 216 bX4_mix3x_216 = true := by decide +kernel
/-! SHA: words and rounds of 64 bits -/
def ro (x : Int64) (a b : Int32) : Int64 := (x.toUInt64 >>> (a.toInt64.toUInt64 &&& Int64.toUInt64 63)).toInt64 ||| x <<< (b.toInt64 &&& 63)
def su (x : Int64) (a : Int32) : Int64 := (x.toUInt64 >>> (a.toInt64.toUInt64 &&& Int64.toUInt64 63)).toInt64
def wt3 (m : Nat → Int64) (n : Nat) : Int64 :=
  if n < 16 then m n else wt3 m (n - 16) + wt3 m (n - 7) + (ro (wt3 m (n - 15)) 1 63 ^^^ ro (wt3 m (n - 15)) 8 56 ^^^ su (wt3 m (n - 15)) 7) + (ro (wt3 m (n - 2)) 19 45 ^^^ ro (wt3 m (n - 2)) 61 3 ^^^ su (wt3 m (n - 2)) 6)
termination_by n
decreasing_by all_goals omega
def t13 (k w : Int64) (s : Nat → Int64) : Int64 := s 7 + (ro (s 4) 14 50 ^^^ ro (s 4) 18 46 ^^^ ro (s 4) 41 23) + (s 4 &&& s 5 ^^^ ((s 4 ^^^ -1) &&& s 6)) + k + w
def t23 (s : Nat → Int64) : Int64 := (ro (s 0) 28 36 ^^^ ro (s 0) 34 30 ^^^ ro (s 0) 39 25) + (s 0 &&& s 1 ^^^ s 0 &&& s 2 ^^^ s 1 &&& s 2)
def rd3 (k w : Int64) (s : Nat → Int64) (j : Nat) : Int64 := if j = 0 then t13 k w s + t23 s else if j = 4 then s 3 + t13 k w s else s (j - 1)
def rds3 (kk w : Nat → Int64) (s : Nat → Int64) : Nat → Nat → Int64
  | 0 => s
  | i + 1 => rd3 (kk i) (w i) (rds3 kk w s i)
/-! the same of 32 bits -/
def ro2 (x : Int32) (a b : Int32) : Int32 := (x.toUInt32 >>> (a.toUInt32 &&& Int32.toUInt32 31)).toInt32 ||| x <<< (b &&& 31)
def su2 (x : Int32) (a : Int32) : Int32 := (x.toUInt32 >>> (a.toUInt32 &&& Int32.toUInt32 31)).toInt32
def wt2 (m : Nat → Int32) (n : Nat) : Int32 :=
  if n < 16 then m n else wt2 m (n - 16) + wt2 m (n - 7) + (ro2 (wt2 m (n - 15)) 7 25 ^^^ ro2 (wt2 m (n - 15)) 18 14 ^^^ su2 (wt2 m (n - 15)) 3) + (ro2 (wt2 m (n - 2)) 17 15 ^^^ ro2 (wt2 m (n - 2)) 19 13 ^^^ su2 (wt2 m (n - 2)) 10)
termination_by n
decreasing_by all_goals omega
def t12 (k w : Int32) (s : Nat → Int32) : Int32 := s 7 + (ro2 (s 4) 6 26 ^^^ ro2 (s 4) 11 21 ^^^ ro2 (s 4) 25 7) + (s 4 &&& s 5 ^^^ ((s 4 ^^^ -1) &&& s 6)) + k + w
def t22 (s : Nat → Int32) : Int32 := (ro2 (s 0) 2 30 ^^^ ro2 (s 0) 13 19 ^^^ ro2 (s 0) 22 10) + (s 0 &&& s 1 ^^^ s 0 &&& s 2 ^^^ s 1 &&& s 2)
def rd2 (k w : Int32) (s : Nat → Int32) (j : Nat) : Int32 := if j = 0 then t12 k w s + t22 s else if j = 4 then s 3 + t12 k w s else s (j - 1)
def rds2 (kk w : Nat → Int32) (s : Nat → Int32) : Nat → Nat → Int32
  | 0 => s
  | i + 1 => rd2 (kk i) (w i) (rds2 kk w s i)
section
variable {l : Launch} {O : Nat → vm_Ob} {f9 : Value}
theorem s_mix3 {h : vm_H} {H S W : Nat} {o0 o1 o2 : Value} {s w kk : Nat → Int64} (hH : h.2 H = .inr (4, [o0, o1, .ref S, .ref W, o2])) (hS : h.2 S = .inl (.long, 8, .inr (.inl s))) (hW : h.2 W = .inl (.long, 80, .inr (.inl w))) (hK : h.2 1099511627789 = .inl (.long, 80, .inr (.inl kk))) (hSo : S < 1099511627776) :
    vm_Met (vm_env l O f9) mX4_mix3 0 0 [.ref H] h (fun r h' => r = none ∧ ∃ g : Nat → Int64, h' = vm_up h S (.inl (.long, 8, .inr (.inl g))) ∧ ∀ j, j < 8 → g j = s j + rds3 kk w s 80 j) := by
  refine vm_met rfl (Nat.le_of_ble_eq_true rfl) ?_
  refine vm_go rfl bX4_mix3x_0 oX4_mix3x_0 ⟨_, _, hH, rfl, ?_⟩
  refine vm_Th (lv' := [(0, .ref H), (1, .ref S)]) (h' := h) rfl rfl ?_
  refine vm_go rfl bX4_mix3x_5 oX4_mix3x_5 ⟨8, s, hS, 0, rfl, by decide, ?_⟩
  refine vm_Th (lv' := [(0, .ref H), (1, .ref S), (2, .long (s 0))]) (h' := h) rfl rfl ?_
  refine vm_go rfl bX4_mix3x_9 oX4_mix3x_9 ⟨8, s, hS, 1, rfl, by decide, ?_⟩
  refine vm_Th (lv' := [(0, .ref H), (1, .ref S), (2, .long (s 0)), (4, .long (s 1))]) (h' := h) rfl rfl ?_
  refine vm_go rfl bX4_mix3x_14 oX4_mix3x_14 ⟨8, s, hS, 2, rfl, by decide, ?_⟩
  refine vm_Th (lv' := [(0, .ref H), (1, .ref S), (2, .long (s 0)), (4, .long (s 1)), (6, .long (s 2))]) (h' := h) rfl rfl ?_
  refine vm_go rfl bX4_mix3x_19 oX4_mix3x_19 ⟨8, s, hS, 3, rfl, by decide, ?_⟩
  refine vm_Th (lv' := [(0, .ref H), (1, .ref S), (2, .long (s 0)), (4, .long (s 1)), (6, .long (s 2)), (8, .long (s 3))]) (h' := h) rfl rfl ?_
  refine vm_go rfl bX4_mix3x_24 oX4_mix3x_24 ⟨8, s, hS, 4, rfl, by decide, ?_⟩
  refine vm_Th (lv' := [(0, .ref H), (1, .ref S), (2, .long (s 0)), (4, .long (s 1)), (6, .long (s 2)), (8, .long (s 3)), (10, .long (s 4))]) (h' := h) rfl rfl ?_
  refine vm_go rfl bX4_mix3x_29 oX4_mix3x_29 ⟨8, s, hS, 5, rfl, by decide, ?_⟩
  refine vm_Th (lv' := [(0, .ref H), (1, .ref S), (2, .long (s 0)), (4, .long (s 1)), (6, .long (s 2)), (8, .long (s 3)), (10, .long (s 4)), (12, .long (s 5))]) (h' := h) rfl rfl ?_
  refine vm_go rfl bX4_mix3x_34 oX4_mix3x_34 ⟨8, s, hS, 6, rfl, by decide, ?_⟩
  refine vm_Th (lv' := [(0, .ref H), (1, .ref S), (2, .long (s 0)), (4, .long (s 1)), (6, .long (s 2)), (8, .long (s 3)), (10, .long (s 4)), (12, .long (s 5)), (14, .long (s 6))]) (h' := h) rfl rfl ?_
  refine vm_go rfl bX4_mix3x_40 oX4_mix3x_40 ⟨8, s, hS, 7, rfl, by decide, ?_⟩
  refine vm_Th (lv' := [(0, .ref H), (1, .ref S), (2, .long (s 0)), (4, .long (s 1)), (6, .long (s 2)), (8, .long (s 3)), (10, .long (s 4)), (12, .long (s 5)), (14, .long (s 6)), (16, .long (s 7))]) (h' := h) rfl rfl ?_
  refine vm_go rfl bX4_mix3x_46 oX4_mix3x_46 ?_
  refine vm_Th (lv' := [(0, .ref H), (1, .ref S), (2, .long (rds3 kk w s 0 0)), (4, .long (rds3 kk w s 0 1)), (6, .long (rds3 kk w s 0 2)), (8, .long (rds3 kk w s 0 3)), (10, .long (rds3 kk w s 0 4)), (12, .long (rds3 kk w s 0 5)), (14, .long (rds3 kk w s 0 6)), (16, .long (rds3 kk w s 0 7)), (18, .int (nI 0))]) (h' := h) rfl rfl ?_
  refine vm_for 80 (fun i => [(0, .ref H), (1, .ref S), (2, .long (rds3 kk w s i 0)), (4, .long (rds3 kk w s i 1)), (6, .long (rds3 kk w s i 2)), (8, .long (rds3 kk w s i 3)), (10, .long (rds3 kk w s i 4)), (12, .long (rds3 kk w s i 5)), (14, .long (rds3 kk w s i 6)), (16, .long (rds3 kk w s i 7)), (18, .int (nI i))]) (fun _ => h) 0 (by decide) ?_ ?_
  rotate_left
  · intro i _ hi ih
    have er : rds3 kk w s (i + 1) = rd3 (kk i) (w i) (rds3 kk w s i) := rfl
    rw [er] at ih
    generalize rds3 kk w s i = q at *
    rw [show rd3 (kk i) (w i) q 0 = t13 (kk i) (w i) q + t23 q from rfl, show rd3 (kk i) (w i) q 1 = q 0 from rfl, show rd3 (kk i) (w i) q 2 = q 1 from rfl, show rd3 (kk i) (w i) q 3 = q 2 from rfl, show rd3 (kk i) (w i) q 4 = q 3 + t13 (kk i) (w i) q from rfl, show rd3 (kk i) (w i) q 5 = q 4 from rfl, show rd3 (kk i) (w i) q 6 = q 5 from rfl, show rd3 (kk i) (w i) q 7 = q 6 from rfl] at ih
    refine vm_go rfl bX4_mix3x_49 oX4_mix3x_49 ⟨fun z => absurd z (nI_ge (b := 80) hi (by decide)), fun _ => ⟨_, rfl, ⟨80, kk, hK, i, rfl, hi, ⟨_, _, hH, rfl, ⟨80, w, hW, i, rfl, hi, ?_⟩⟩⟩⟩⟩
    refine vm_Th (lv' := [(0, .ref H), (1, .ref S), (2, .long (q 0)), (4, .long (q 1)), (6, .long (q 2)), (8, .long (q 3)), (10, .long (q 4)), (12, .long (q 5)), (14, .long (q 6)), (16, .long (q 7)), (18, .int (nI i)), (19, .long (t13 (kk i) (w i) q))]) (h' := h) rfl rfl ?_
    refine vm_go rfl bX4_mix3x_127 oX4_mix3x_127 ?_
    refine vm_Th (lv' := [(0, .ref H), (1, .ref S), (2, .long (q 0)), (4, .long (q 1)), (6, .long (q 2)), (8, .long (q 3)), (10, .long (q 4)), (12, .long (q 5)), (14, .long (q 6)), (16, .long (q 7)), (18, .int (nI i)), (19, .long (t13 (kk i) (w i) q)), (21, .long (t23 q))]) (h' := h) rfl rfl ?_
    refine vm_go rfl bX4_mix3x_174 oX4_mix3x_174 ?_
    refine vm_Th (lv' := [(0, .ref H), (1, .ref S), (2, .long (q 0)), (4, .long (q 1)), (6, .long (q 2)), (8, .long (q 3)), (10, .long (q 4)), (12, .long (q 5)), (14, .long (q 6)), (16, .long (q 6)), (18, .int (nI i)), (19, .long (t13 (kk i) (w i) q)), (21, .long (t23 q))]) (h' := h) rfl rfl ?_
    refine vm_go rfl bX4_mix3x_178 oX4_mix3x_178 ?_
    refine vm_Th (lv' := [(0, .ref H), (1, .ref S), (2, .long (q 0)), (4, .long (q 1)), (6, .long (q 2)), (8, .long (q 3)), (10, .long (q 4)), (12, .long (q 5)), (14, .long (q 5)), (16, .long (q 6)), (18, .int (nI i)), (19, .long (t13 (kk i) (w i) q)), (21, .long (t23 q))]) (h' := h) rfl rfl ?_
    refine vm_go rfl bX4_mix3x_182 oX4_mix3x_182 ?_
    refine vm_Th (lv' := [(0, .ref H), (1, .ref S), (2, .long (q 0)), (4, .long (q 1)), (6, .long (q 2)), (8, .long (q 3)), (10, .long (q 4)), (12, .long (q 4)), (14, .long (q 5)), (16, .long (q 6)), (18, .int (nI i)), (19, .long (t13 (kk i) (w i) q)), (21, .long (t23 q))]) (h' := h) rfl rfl ?_
    refine vm_go rfl bX4_mix3x_186 oX4_mix3x_186 ?_
    refine vm_Th (lv' := [(0, .ref H), (1, .ref S), (2, .long (q 0)), (4, .long (q 1)), (6, .long (q 2)), (8, .long (q 3)), (10, .long (q 3 + t13 (kk i) (w i) q)), (12, .long (q 4)), (14, .long (q 5)), (16, .long (q 6)), (18, .int (nI i)), (19, .long (t13 (kk i) (w i) q)), (21, .long (t23 q))]) (h' := h) rfl rfl ?_
    refine vm_go rfl bX4_mix3x_193 oX4_mix3x_193 ?_
    refine vm_Th (lv' := [(0, .ref H), (1, .ref S), (2, .long (q 0)), (4, .long (q 1)), (6, .long (q 2)), (8, .long (q 2)), (10, .long (q 3 + t13 (kk i) (w i) q)), (12, .long (q 4)), (14, .long (q 5)), (16, .long (q 6)), (18, .int (nI i)), (19, .long (t13 (kk i) (w i) q)), (21, .long (t23 q))]) (h' := h) rfl rfl ?_
    refine vm_go rfl bX4_mix3x_197 oX4_mix3x_197 ?_
    refine vm_Th (lv' := [(0, .ref H), (1, .ref S), (2, .long (q 0)), (4, .long (q 1)), (6, .long (q 1)), (8, .long (q 2)), (10, .long (q 3 + t13 (kk i) (w i) q)), (12, .long (q 4)), (14, .long (q 5)), (16, .long (q 6)), (18, .int (nI i)), (19, .long (t13 (kk i) (w i) q)), (21, .long (t23 q))]) (h' := h) rfl rfl ?_
    refine vm_go rfl bX4_mix3x_201 oX4_mix3x_201 ?_
    refine vm_Th (lv' := [(0, .ref H), (1, .ref S), (2, .long (q 0)), (4, .long (q 0)), (6, .long (q 1)), (8, .long (q 2)), (10, .long (q 3 + t13 (kk i) (w i) q)), (12, .long (q 4)), (14, .long (q 5)), (16, .long (q 6)), (18, .int (nI i)), (19, .long (t13 (kk i) (w i) q)), (21, .long (t23 q))]) (h' := h) rfl rfl ?_
    refine vm_go rfl bX4_mix3x_204 oX4_mix3x_204 ?_
    refine vm_Th (lv' := [(0, .ref H), (1, .ref S), (2, .long (t13 (kk i) (w i) q + t23 q)), (4, .long (q 0)), (6, .long (q 1)), (8, .long (q 2)), (10, .long (q 3 + t13 (kk i) (w i) q)), (12, .long (q 4)), (14, .long (q 5)), (16, .long (q 6)), (18, .int (nI i)), (19, .long (t13 (kk i) (w i) q)), (21, .long (t23 q))]) (h' := h) rfl rfl ?_
    refine vm_go rfl bX4_mix3x_210 oX4_mix3x_210 ?_
    refine vm_less [0, 1, 2, 3, 4, 5, 6, 7, 8, 9, 10] rfl ?_
    exact vm_Th (by rw [← nI_1]; rfl) rfl ih
  · refine vm_go rfl bX4_mix3x_49 oX4_mix3x_49 ⟨fun _ => ?_, fun z => absurd (nI_le (a := 80) (b := 80) (by decide) (by decide)) z⟩
    generalize rds3 kk w s 80 = q at *
    refine vm_go rfl bX4_mix3x_216 oX4_mix3x_216 ?_
    refine ⟨8, _, hS, 0, rfl, by decide, ⟨8, _, hS, hSo, 0, rfl, by decide, ?_⟩⟩
    refine ⟨8, _, vm_upe, 1, rfl, by decide, ⟨8, _, vm_upe, hSo, 1, rfl, by decide, ?_⟩⟩
    refine ⟨8, _, vm_upe, 2, rfl, by decide, ⟨8, _, vm_upe, hSo, 2, rfl, by decide, ?_⟩⟩
    refine ⟨8, _, vm_upe, 3, rfl, by decide, ⟨8, _, vm_upe, hSo, 3, rfl, by decide, ?_⟩⟩
    refine ⟨8, _, vm_upe, 4, rfl, by decide, ⟨8, _, vm_upe, hSo, 4, rfl, by decide, ?_⟩⟩
    refine ⟨8, _, vm_upe, 5, rfl, by decide, ⟨8, _, vm_upe, hSo, 5, rfl, by decide, ?_⟩⟩
    refine ⟨8, _, vm_upe, 6, rfl, by decide, ⟨8, _, vm_upe, hSo, 6, rfl, by decide, ?_⟩⟩
    refine ⟨8, _, vm_upe, 7, rfl, by decide, ⟨8, _, vm_upe, hSo, 7, rfl, by decide, ?_⟩⟩
    rw [vm_upup, vm_upup, vm_upup, vm_upup, vm_upup, vm_upup, vm_upup]
    refine ⟨rfl, _, rfl, fun j hj => ?_⟩
    rcases j with _ | _ | _ | _ | _ | _ | _ | _ | j
    · rfl
    · rfl
    · rfl
    · rfl
    · rfl
    · rfl
    · rfl
    · rfl
    · omega
end
section
variable {l : Launch} {O : Nat → vm_Ob} {f9 : Value}
theorem s_mix2 {h : vm_H} {H S W : Nat} {o0 o1 o2 : Value} {s w kk : Nat → Int32} (hH : h.2 H = .inr (4, [.ref S, .ref W, o0, o1, o2])) (hS : h.2 S = .inl (.int, 8, .inl s)) (hW : h.2 W = .inl (.int, 64, .inl w)) (hK : h.2 1099511627788 = .inl (.int, 64, .inl kk)) (hSo : S < 1099511627776) :
    vm_Met (vm_env l O f9) mX4_mix2 0 0 [.ref H] h (fun r h' => r = none ∧ ∃ g : Nat → Int32, h' = vm_up h S (.inl (.int, 8, .inl g)) ∧ ∀ j, j < 8 → g j = s j + rds2 kk w s 64 j) := by
  refine vm_met rfl (Nat.le_of_ble_eq_true rfl) ?_
  refine vm_go rfl bX4_mix2x_0 oX4_mix2x_0 ⟨_, _, hH, rfl, ?_⟩
  refine vm_Th (lv' := [(0, .ref H), (1, .ref S)]) (h' := h) rfl rfl ?_
  refine vm_go rfl bX4_mix2x_5 oX4_mix2x_5 ⟨8, s, hS, 0, rfl, by decide, fun _ => ?_⟩
  refine vm_Th (lv' := [(0, .ref H), (1, .ref S), (2, .int (s 0))]) (h' := h) rfl rfl ?_
  refine vm_go rfl bX4_mix2x_9 oX4_mix2x_9 ⟨8, s, hS, 1, rfl, by decide, fun _ => ?_⟩
  refine vm_Th (lv' := [(0, .ref H), (1, .ref S), (2, .int (s 0)), (3, .int (s 1))]) (h' := h) rfl rfl ?_
  refine vm_go rfl bX4_mix2x_13 oX4_mix2x_13 ⟨8, s, hS, 2, rfl, by decide, fun _ => ?_⟩
  refine vm_Th (lv' := [(0, .ref H), (1, .ref S), (2, .int (s 0)), (3, .int (s 1)), (4, .int (s 2))]) (h' := h) rfl rfl ?_
  refine vm_go rfl bX4_mix2x_18 oX4_mix2x_18 ⟨8, s, hS, 3, rfl, by decide, fun _ => ?_⟩
  refine vm_Th (lv' := [(0, .ref H), (1, .ref S), (2, .int (s 0)), (3, .int (s 1)), (4, .int (s 2)), (5, .int (s 3))]) (h' := h) rfl rfl ?_
  refine vm_go rfl bX4_mix2x_23 oX4_mix2x_23 ⟨8, s, hS, 4, rfl, by decide, fun _ => ?_⟩
  refine vm_Th (lv' := [(0, .ref H), (1, .ref S), (2, .int (s 0)), (3, .int (s 1)), (4, .int (s 2)), (5, .int (s 3)), (6, .int (s 4))]) (h' := h) rfl rfl ?_
  refine vm_go rfl bX4_mix2x_28 oX4_mix2x_28 ⟨8, s, hS, 5, rfl, by decide, fun _ => ?_⟩
  refine vm_Th (lv' := [(0, .ref H), (1, .ref S), (2, .int (s 0)), (3, .int (s 1)), (4, .int (s 2)), (5, .int (s 3)), (6, .int (s 4)), (7, .int (s 5))]) (h' := h) rfl rfl ?_
  refine vm_go rfl bX4_mix2x_33 oX4_mix2x_33 ⟨8, s, hS, 6, rfl, by decide, fun _ => ?_⟩
  refine vm_Th (lv' := [(0, .ref H), (1, .ref S), (2, .int (s 0)), (3, .int (s 1)), (4, .int (s 2)), (5, .int (s 3)), (6, .int (s 4)), (7, .int (s 5)), (8, .int (s 6))]) (h' := h) rfl rfl ?_
  refine vm_go rfl bX4_mix2x_39 oX4_mix2x_39 ⟨8, s, hS, 7, rfl, by decide, fun _ => ?_⟩
  refine vm_Th (lv' := [(0, .ref H), (1, .ref S), (2, .int (s 0)), (3, .int (s 1)), (4, .int (s 2)), (5, .int (s 3)), (6, .int (s 4)), (7, .int (s 5)), (8, .int (s 6)), (9, .int (s 7))]) (h' := h) rfl rfl ?_
  refine vm_go rfl bX4_mix2x_45 oX4_mix2x_45 ?_
  refine vm_Th (lv' := [(0, .ref H), (1, .ref S), (2, .int (rds2 kk w s 0 0)), (3, .int (rds2 kk w s 0 1)), (4, .int (rds2 kk w s 0 2)), (5, .int (rds2 kk w s 0 3)), (6, .int (rds2 kk w s 0 4)), (7, .int (rds2 kk w s 0 5)), (8, .int (rds2 kk w s 0 6)), (9, .int (rds2 kk w s 0 7)), (10, .int (nI 0))]) (h' := h) rfl rfl ?_
  refine vm_for 64 (fun i => [(0, .ref H), (1, .ref S), (2, .int (rds2 kk w s i 0)), (3, .int (rds2 kk w s i 1)), (4, .int (rds2 kk w s i 2)), (5, .int (rds2 kk w s i 3)), (6, .int (rds2 kk w s i 4)), (7, .int (rds2 kk w s i 5)), (8, .int (rds2 kk w s i 6)), (9, .int (rds2 kk w s i 7)), (10, .int (nI i))]) (fun _ => h) 0 (by decide) ?_ ?_
  rotate_left
  · intro i _ hi ih
    have er : rds2 kk w s (i + 1) = rd2 (kk i) (w i) (rds2 kk w s i) := rfl
    rw [er] at ih
    generalize rds2 kk w s i = q at *
    rw [show rd2 (kk i) (w i) q 0 = t12 (kk i) (w i) q + t22 q from rfl, show rd2 (kk i) (w i) q 1 = q 0 from rfl, show rd2 (kk i) (w i) q 2 = q 1 from rfl, show rd2 (kk i) (w i) q 3 = q 2 from rfl, show rd2 (kk i) (w i) q 4 = q 3 + t12 (kk i) (w i) q from rfl, show rd2 (kk i) (w i) q 5 = q 4 from rfl, show rd2 (kk i) (w i) q 6 = q 5 from rfl, show rd2 (kk i) (w i) q 7 = q 6 from rfl] at ih
    refine vm_go rfl bX4_mix2x_48 oX4_mix2x_48 ⟨fun z => absurd z (nI_ge (b := 64) hi (by decide)), fun _ => ⟨_, rfl, ⟨64, kk, hK, i, rfl, hi, fun _ => ⟨_, _, hH, rfl, ⟨64, w, hW, i, rfl, hi, fun _ => ?_⟩⟩⟩⟩⟩
    refine vm_Th (lv' := [(0, .ref H), (1, .ref S), (2, .int (q 0)), (3, .int (q 1)), (4, .int (q 2)), (5, .int (q 3)), (6, .int (q 4)), (7, .int (q 5)), (8, .int (q 6)), (9, .int (q 7)), (10, .int (nI i)), (11, .int (t12 (kk i) (w i) q))]) (h' := h) rfl rfl ?_
    refine vm_go rfl bX4_mix2x_124 oX4_mix2x_124 ?_
    refine vm_Th (lv' := [(0, .ref H), (1, .ref S), (2, .int (q 0)), (3, .int (q 1)), (4, .int (q 2)), (5, .int (q 3)), (6, .int (q 4)), (7, .int (q 5)), (8, .int (q 6)), (9, .int (q 7)), (10, .int (nI i)), (11, .int (t12 (kk i) (w i) q)), (12, .int (t22 q))]) (h' := h) rfl rfl ?_
    refine vm_go rfl bX4_mix2x_168 oX4_mix2x_168 ?_
    refine vm_Th (lv' := [(0, .ref H), (1, .ref S), (2, .int (q 0)), (3, .int (q 1)), (4, .int (q 2)), (5, .int (q 3)), (6, .int (q 4)), (7, .int (q 5)), (8, .int (q 6)), (9, .int (q 6)), (10, .int (nI i)), (11, .int (t12 (kk i) (w i) q)), (12, .int (t22 q))]) (h' := h) rfl rfl ?_
    refine vm_go rfl bX4_mix2x_172 oX4_mix2x_172 ?_
    refine vm_Th (lv' := [(0, .ref H), (1, .ref S), (2, .int (q 0)), (3, .int (q 1)), (4, .int (q 2)), (5, .int (q 3)), (6, .int (q 4)), (7, .int (q 5)), (8, .int (q 5)), (9, .int (q 6)), (10, .int (nI i)), (11, .int (t12 (kk i) (w i) q)), (12, .int (t22 q))]) (h' := h) rfl rfl ?_
    refine vm_go rfl bX4_mix2x_176 oX4_mix2x_176 ?_
    refine vm_Th (lv' := [(0, .ref H), (1, .ref S), (2, .int (q 0)), (3, .int (q 1)), (4, .int (q 2)), (5, .int (q 3)), (6, .int (q 4)), (7, .int (q 4)), (8, .int (q 5)), (9, .int (q 6)), (10, .int (nI i)), (11, .int (t12 (kk i) (w i) q)), (12, .int (t22 q))]) (h' := h) rfl rfl ?_
    refine vm_go rfl bX4_mix2x_180 oX4_mix2x_180 ?_
    refine vm_Th (lv' := [(0, .ref H), (1, .ref S), (2, .int (q 0)), (3, .int (q 1)), (4, .int (q 2)), (5, .int (q 3)), (6, .int (q 3 + t12 (kk i) (w i) q)), (7, .int (q 4)), (8, .int (q 5)), (9, .int (q 6)), (10, .int (nI i)), (11, .int (t12 (kk i) (w i) q)), (12, .int (t22 q))]) (h' := h) rfl rfl ?_
    refine vm_go rfl bX4_mix2x_187 oX4_mix2x_187 ?_
    refine vm_Th (lv' := [(0, .ref H), (1, .ref S), (2, .int (q 0)), (3, .int (q 1)), (4, .int (q 2)), (5, .int (q 2)), (6, .int (q 3 + t12 (kk i) (w i) q)), (7, .int (q 4)), (8, .int (q 5)), (9, .int (q 6)), (10, .int (nI i)), (11, .int (t12 (kk i) (w i) q)), (12, .int (t22 q))]) (h' := h) rfl rfl ?_
    refine vm_go rfl bX4_mix2x_191 oX4_mix2x_191 ?_
    refine vm_Th (lv' := [(0, .ref H), (1, .ref S), (2, .int (q 0)), (3, .int (q 1)), (4, .int (q 1)), (5, .int (q 2)), (6, .int (q 3 + t12 (kk i) (w i) q)), (7, .int (q 4)), (8, .int (q 5)), (9, .int (q 6)), (10, .int (nI i)), (11, .int (t12 (kk i) (w i) q)), (12, .int (t22 q))]) (h' := h) rfl rfl ?_
    refine vm_go rfl bX4_mix2x_194 oX4_mix2x_194 ?_
    refine vm_Th (lv' := [(0, .ref H), (1, .ref S), (2, .int (q 0)), (3, .int (q 0)), (4, .int (q 1)), (5, .int (q 2)), (6, .int (q 3 + t12 (kk i) (w i) q)), (7, .int (q 4)), (8, .int (q 5)), (9, .int (q 6)), (10, .int (nI i)), (11, .int (t12 (kk i) (w i) q)), (12, .int (t22 q))]) (h' := h) rfl rfl ?_
    refine vm_go rfl bX4_mix2x_196 oX4_mix2x_196 ?_
    refine vm_Th (lv' := [(0, .ref H), (1, .ref S), (2, .int (t12 (kk i) (w i) q + t22 q)), (3, .int (q 0)), (4, .int (q 1)), (5, .int (q 2)), (6, .int (q 3 + t12 (kk i) (w i) q)), (7, .int (q 4)), (8, .int (q 5)), (9, .int (q 6)), (10, .int (nI i)), (11, .int (t12 (kk i) (w i) q)), (12, .int (t22 q))]) (h' := h) rfl rfl ?_
    refine vm_go rfl bX4_mix2x_202 oX4_mix2x_202 ?_
    refine vm_less [0, 1, 2, 3, 4, 5, 6, 7, 8, 9, 10] rfl ?_
    exact vm_Th (by rw [← nI_1]; rfl) rfl ih
  · refine vm_go rfl bX4_mix2x_48 oX4_mix2x_48 ⟨fun _ => ?_, fun z => absurd (nI_le (a := 64) (b := 64) (by decide) (by decide)) z⟩
    generalize rds2 kk w s 64 = q at *
    refine vm_go rfl bX4_mix2x_208 oX4_mix2x_208 ?_
    refine ⟨8, _, hS, 0, rfl, by decide, fun _ => ⟨8, _, hS, hSo, 0, rfl, by decide, ?_⟩⟩
    refine ⟨8, _, vm_upe, 1, rfl, by decide, fun _ => ⟨8, _, vm_upe, hSo, 1, rfl, by decide, ?_⟩⟩
    refine ⟨8, _, vm_upe, 2, rfl, by decide, fun _ => ⟨8, _, vm_upe, hSo, 2, rfl, by decide, ?_⟩⟩
    refine ⟨8, _, vm_upe, 3, rfl, by decide, fun _ => ⟨8, _, vm_upe, hSo, 3, rfl, by decide, ?_⟩⟩
    refine ⟨8, _, vm_upe, 4, rfl, by decide, fun _ => ⟨8, _, vm_upe, hSo, 4, rfl, by decide, ?_⟩⟩
    refine ⟨8, _, vm_upe, 5, rfl, by decide, fun _ => ⟨8, _, vm_upe, hSo, 5, rfl, by decide, ?_⟩⟩
    refine ⟨8, _, vm_upe, 6, rfl, by decide, fun _ => ⟨8, _, vm_upe, hSo, 6, rfl, by decide, ?_⟩⟩
    refine ⟨8, _, vm_upe, 7, rfl, by decide, fun _ => ⟨8, _, vm_upe, hSo, 7, rfl, by decide, ?_⟩⟩
    rw [vm_upup, vm_upup, vm_upup, vm_upup, vm_upup, vm_upup, vm_upup]
    refine ⟨rfl, _, rfl, fun j hj => ?_⟩
    rcases j with _ | _ | _ | _ | _ | _ | _ | _ | j
    · rfl
    · rfl
    · rfl
    · rfl
    · rfl
    · rfl
    · rfl
    · rfl
    · omega
end
