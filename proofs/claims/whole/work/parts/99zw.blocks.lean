/-! the reference: the blocks of the hashes -/
def bX14_blockx_0 : List vm_J := [(1, .iconst 0, 0, 0, 0, .int 0), (1, .istore_n 2, 0, 0, 0, .null)]
set_option maxRecDepth 20000 in
theorem oX14_blockx_0 : vm_okB 14 mX14_block 0 bX14_blockx_0 = true := by decide +kernel
def bX14_blockx_2 : List vm_J := [(1, .iload_n 2, 0, 0, 0, .null), (2, .bipush 64, 0, 0, 0, .int 64), (3, .if_icmp .ge 155, 160, 0, 0, .null), (1, .iload_n 2, 0, 0, 0, .null), (2, .bipush 16, 0, 0, 0, .int 16), (3, .if_icmp .ge 58, 69, 0, 0, .null), (1, .aload_n 0, 0, 0, 0, .null), (3, .getfield 246, 14, 22, 0, .null), (1, .iload_n 2, 0, 0, 0, .null), (1, .iconst 0, 0, 0, 0, .int 0), (1, .iastore, 0, 0, 0, .null)]
set_option maxRecDepth 20000 in
theorem oX14_blockx_2 : vm_okB 14 mX14_block 2 bX14_blockx_2 = true := by decide +kernel
def bX14_blockx_21 : List vm_J := [(1, .iconst 0, 0, 0, 0, .int 0), (1, .istore_n 3, 0, 0, 0, .null)]
set_option maxRecDepth 20000 in
theorem oX14_blockx_21 : vm_okB 14 mX14_block 21 bX14_blockx_21 = true := by decide +kernel
def bX14_blockx_23 : List vm_J := [(1, .iload_n 3, 0, 0, 0, .null), (1, .iconst 4, 0, 0, 0, .int 4), (3, .if_icmp .ge 41, 66, 0, 0, .null), (1, .aload_n 0, 0, 0, 0, .null), (3, .getfield 246, 14, 22, 0, .null), (1, .iload_n 2, 0, 0, 0, .null), (1, .aload_n 0, 0, 0, 0, .null), (3, .getfield 246, 14, 22, 0, .null), (1, .iload_n 2, 0, 0, 0, .null), (1, .iaload, 0, 0, 0, .null), (2, .bipush 8, 0, 0, 0, .int 8), (1, .ishl, 0, 0, 0, .null), (1, .aload_n 0, 0, 0, 0, .null), (3, .getfield 199, 14, 18, 0, .null), (1, .iload_n 1, 0, 0, 0, .null), (1, .iconst 4, 0, 0, 0, .int 4), (1, .iload_n 2, 0, 0, 0, .null), (1, .imul, 0, 0, 0, .null), (1, .iadd, 0, 0, 0, .null), (1, .iload_n 3, 0, 0, 0, .null), (1, .iadd, 0, 0, 0, .null), (1, .baload, 0, 0, 0, .null), (3, .sipush 255, 0, 0, 0, .int 255), (1, .iand, 0, 0, 0, .null), (1, .ior, 0, 0, 0, .null), (1, .iastore, 0, 0, 0, .null)]
set_option maxRecDepth 20000 in
theorem oX14_blockx_23 : vm_okB 14 mX14_block 23 bX14_blockx_23 = true := by decide +kernel
def bX14_blockx_60 : List vm_J := [(3, .iinc 3 1, 0, 0, 0, .int 1), (3, .goto (-40), 23, 0, 0, .null)]
set_option maxRecDepth 20000 in
theorem oX14_blockx_60 : vm_okB 14 mX14_block 60 bX14_blockx_60 = true := by decide +kernel
def bX14_blockx_66 : List vm_J := [(3, .goto 88, 154, 0, 0, .null)]
set_option maxRecDepth 20000 in
theorem oX14_blockx_66 : vm_okB 14 mX14_block 66 bX14_blockx_66 = true := by decide +kernel
def bX14_blockx_69 : List vm_J := [(1, .aload_n 0, 0, 0, 0, .null), (3, .getfield 246, 14, 22, 0, .null), (1, .iload_n 2, 0, 0, 0, .null), (2, .bipush 15, 0, 0, 0, .int 15), (1, .isub, 0, 0, 0, .null), (1, .iaload, 0, 0, 0, .null), (1, .istore_n 3, 0, 0, 0, .null)]
set_option maxRecDepth 20000 in
theorem oX14_blockx_69 : vm_okB 14 mX14_block 69 bX14_blockx_69 = true := by decide +kernel
def bX14_blockx_79 : List vm_J := [(1, .aload_n 0, 0, 0, 0, .null), (3, .getfield 246, 14, 22, 0, .null), (1, .iload_n 2, 0, 0, 0, .null), (1, .iconst 2, 0, 0, 0, .int 2), (1, .isub, 0, 0, 0, .null), (1, .iaload, 0, 0, 0, .null), (2, .istore 4, 0, 0, 0, .null)]
set_option maxRecDepth 20000 in
theorem oX14_blockx_79 : vm_okB 14 mX14_block 79 bX14_blockx_79 = true := by decide +kernel
def bX14_blockx_89 : List vm_J := [(1, .aload_n 0, 0, 0, 0, .null), (3, .getfield 246, 14, 22, 0, .null), (1, .iload_n 2, 0, 0, 0, .null), (1, .aload_n 0, 0, 0, 0, .null), (3, .getfield 246, 14, 22, 0, .null), (1, .iload_n 2, 0, 0, 0, .null), (2, .bipush 16, 0, 0, 0, .int 16), (1, .isub, 0, 0, 0, .null), (1, .iaload, 0, 0, 0, .null), (1, .aload_n 0, 0, 0, 0, .null), (3, .getfield 246, 14, 22, 0, .null), (1, .iload_n 2, 0, 0, 0, .null), (2, .bipush 7, 0, 0, 0, .int 7), (1, .isub, 0, 0, 0, .null), (1, .iaload, 0, 0, 0, .null), (1, .iadd, 0, 0, 0, .null), (1, .iload_n 3, 0, 0, 0, .null), (2, .bipush 7, 0, 0, 0, .int 7), (3, .invokestatic 249, 171, 2, 0, .null), (1, .iload_n 3, 0, 0, 0, .null), (2, .bipush 18, 0, 0, 0, .int 18), (3, .invokestatic 249, 171, 2, 0, .null), (1, .ixor, 0, 0, 0, .null), (1, .iload_n 3, 0, 0, 0, .null), (1, .iconst 3, 0, 0, 0, .int 3), (1, .iushr, 0, 0, 0, .null), (1, .ixor, 0, 0, 0, .null), (1, .iadd, 0, 0, 0, .null), (2, .iload 4, 0, 0, 0, .null), (2, .bipush 17, 0, 0, 0, .int 17), (3, .invokestatic 249, 171, 2, 0, .null), (2, .iload 4, 0, 0, 0, .null), (2, .bipush 19, 0, 0, 0, .int 19), (3, .invokestatic 249, 171, 2, 0, .null), (1, .ixor, 0, 0, 0, .null), (2, .iload 4, 0, 0, 0, .null), (2, .bipush 10, 0, 0, 0, .int 10), (1, .iushr, 0, 0, 0, .null), (1, .ixor, 0, 0, 0, .null), (1, .iadd, 0, 0, 0, .null), (1, .iastore, 0, 0, 0, .null)]
set_option maxRecDepth 20000 in
theorem oX14_blockx_89 : vm_okB 14 mX14_block 89 bX14_blockx_89 = true := by decide +kernel
def bX14_blockx_154 : List vm_J := [(3, .iinc 2 1, 0, 0, 0, .int 1), (3, .goto (-155), 2, 0, 0, .null)]
set_option maxRecDepth 20000 in
theorem oX14_blockx_154 : vm_okB 14 mX14_block 154 bX14_blockx_154 = true := by decide +kernel
def bX14_blockx_160 : List vm_J := [(1, .aload_n 0, 0, 0, 0, .null), (3, .getfield 234, 14, 21, 0, .null), (1, .iconst 0, 0, 0, 0, .int 0), (1, .iaload, 0, 0, 0, .null), (1, .istore_n 2, 0, 0, 0, .null)]
set_option maxRecDepth 20000 in
theorem oX14_blockx_160 : vm_okB 14 mX14_block 160 bX14_blockx_160 = true := by decide +kernel
def bX14_blockx_167 : List vm_J := [(1, .aload_n 0, 0, 0, 0, .null), (3, .getfield 234, 14, 21, 0, .null), (1, .iconst 1, 0, 0, 0, .int 1), (1, .iaload, 0, 0, 0, .null), (1, .istore_n 3, 0, 0, 0, .null)]
set_option maxRecDepth 20000 in
theorem oX14_blockx_167 : vm_okB 14 mX14_block 167 bX14_blockx_167 = true := by decide +kernel
def bX14_blockx_174 : List vm_J := [(1, .aload_n 0, 0, 0, 0, .null), (3, .getfield 234, 14, 21, 0, .null), (1, .iconst 2, 0, 0, 0, .int 2), (1, .iaload, 0, 0, 0, .null), (2, .istore 4, 0, 0, 0, .null)]
set_option maxRecDepth 20000 in
theorem oX14_blockx_174 : vm_okB 14 mX14_block 174 bX14_blockx_174 = true := by decide +kernel
def bX14_blockx_182 : List vm_J := [(1, .aload_n 0, 0, 0, 0, .null), (3, .getfield 234, 14, 21, 0, .null), (1, .iconst 3, 0, 0, 0, .int 3), (1, .iaload, 0, 0, 0, .null), (2, .istore 5, 0, 0, 0, .null)]
set_option maxRecDepth 20000 in
theorem oX14_blockx_182 : vm_okB 14 mX14_block 182 bX14_blockx_182 = true := by decide +kernel
def bX14_blockx_190 : List vm_J := [(1, .aload_n 0, 0, 0, 0, .null), (3, .getfield 234, 14, 21, 0, .null), (1, .iconst 4, 0, 0, 0, .int 4), (1, .iaload, 0, 0, 0, .null), (2, .istore 6, 0, 0, 0, .null)]
set_option maxRecDepth 20000 in
theorem oX14_blockx_190 : vm_okB 14 mX14_block 190 bX14_blockx_190 = true := by decide +kernel
def bX14_blockx_198 : List vm_J := [(1, .aload_n 0, 0, 0, 0, .null), (3, .getfield 234, 14, 21, 0, .null), (1, .iconst 5, 0, 0, 0, .int 5), (1, .iaload, 0, 0, 0, .null), (2, .istore 7, 0, 0, 0, .null)]
set_option maxRecDepth 20000 in
theorem oX14_blockx_198 : vm_okB 14 mX14_block 198 bX14_blockx_198 = true := by decide +kernel
def bX14_blockx_206 : List vm_J := [(1, .aload_n 0, 0, 0, 0, .null), (3, .getfield 234, 14, 21, 0, .null), (2, .bipush 6, 0, 0, 0, .int 6), (1, .iaload, 0, 0, 0, .null), (2, .istore 8, 0, 0, 0, .null)]
set_option maxRecDepth 20000 in
theorem oX14_blockx_206 : vm_okB 14 mX14_block 206 bX14_blockx_206 = true := by decide +kernel
def bX14_blockx_215 : List vm_J := [(1, .aload_n 0, 0, 0, 0, .null), (3, .getfield 234, 14, 21, 0, .null), (2, .bipush 7, 0, 0, 0, .int 7), (1, .iaload, 0, 0, 0, .null), (2, .istore 9, 0, 0, 0, .null)]
set_option maxRecDepth 20000 in
theorem oX14_blockx_215 : vm_okB 14 mX14_block 215 bX14_blockx_215 = true := by decide +kernel
def bX14_blockx_224 : List vm_J := [(1, .iconst 0, 0, 0, 0, .int 0), (2, .istore 10, 0, 0, 0, .null)]
set_option maxRecDepth 20000 in
theorem oX14_blockx_224 : vm_okB 14 mX14_block 224 bX14_blockx_224 = true := by decide +kernel
def bX14_blockx_227 : List vm_J := [(2, .iload 10, 0, 0, 0, .null), (2, .bipush 64, 0, 0, 0, .int 64), (3, .if_icmp .ge 135, 366, 0, 0, .null), (2, .iload 9, 0, 0, 0, .null), (2, .iload 6, 0, 0, 0, .null), (2, .bipush 6, 0, 0, 0, .int 6), (3, .invokestatic 249, 171, 2, 0, .null), (2, .iload 6, 0, 0, 0, .null), (2, .bipush 11, 0, 0, 0, .int 11), (3, .invokestatic 249, 171, 2, 0, .null), (1, .ixor, 0, 0, 0, .null), (2, .iload 6, 0, 0, 0, .null), (2, .bipush 25, 0, 0, 0, .int 25), (3, .invokestatic 249, 171, 2, 0, .null), (1, .ixor, 0, 0, 0, .null), (1, .iadd, 0, 0, 0, .null), (2, .iload 6, 0, 0, 0, .null), (2, .iload 7, 0, 0, 0, .null), (1, .iand, 0, 0, 0, .null), (2, .iload 6, 0, 0, 0, .null), (1, .iconst (-1), 0, 0, 0, .int (-1)), (1, .ixor, 0, 0, 0, .null), (2, .iload 8, 0, 0, 0, .null), (1, .iand, 0, 0, 0, .null), (1, .ixor, 0, 0, 0, .null), (1, .iadd, 0, 0, 0, .null), (3, .getstatic 253, 9, 0, 0, .null), (2, .iload 10, 0, 0, 0, .null), (1, .iaload, 0, 0, 0, .null), (1, .iadd, 0, 0, 0, .null), (1, .aload_n 0, 0, 0, 0, .null), (3, .getfield 246, 14, 22, 0, .null), (2, .iload 10, 0, 0, 0, .null), (1, .iaload, 0, 0, 0, .null), (1, .iadd, 0, 0, 0, .null), (2, .istore 11, 0, 0, 0, .null)]
set_option maxRecDepth 20000 in
theorem oX14_blockx_227 : vm_okB 14 mX14_block 227 bX14_blockx_227 = true := by decide +kernel
def bX14_blockx_291 : List vm_J := [(1, .iload_n 2, 0, 0, 0, .null), (1, .iconst 2, 0, 0, 0, .int 2), (3, .invokestatic 249, 171, 2, 0, .null), (1, .iload_n 2, 0, 0, 0, .null), (2, .bipush 13, 0, 0, 0, .int 13), (3, .invokestatic 249, 171, 2, 0, .null), (1, .ixor, 0, 0, 0, .null), (1, .iload_n 2, 0, 0, 0, .null), (2, .bipush 22, 0, 0, 0, .int 22), (3, .invokestatic 249, 171, 2, 0, .null), (1, .ixor, 0, 0, 0, .null), (1, .iload_n 2, 0, 0, 0, .null), (1, .iload_n 3, 0, 0, 0, .null), (1, .iand, 0, 0, 0, .null), (1, .iload_n 2, 0, 0, 0, .null), (2, .iload 4, 0, 0, 0, .null), (1, .iand, 0, 0, 0, .null), (1, .ixor, 0, 0, 0, .null), (1, .iload_n 3, 0, 0, 0, .null), (2, .iload 4, 0, 0, 0, .null), (1, .iand, 0, 0, 0, .null), (1, .ixor, 0, 0, 0, .null), (1, .iadd, 0, 0, 0, .null), (2, .istore 12, 0, 0, 0, .null)]
set_option maxRecDepth 20000 in
theorem oX14_blockx_291 : vm_okB 14 mX14_block 291 bX14_blockx_291 = true := by decide +kernel
def bX14_blockx_326 : List vm_J := [(2, .iload 8, 0, 0, 0, .null), (2, .istore 9, 0, 0, 0, .null)]
set_option maxRecDepth 20000 in
theorem oX14_blockx_326 : vm_okB 14 mX14_block 326 bX14_blockx_326 = true := by decide +kernel
def bX14_blockx_330 : List vm_J := [(2, .iload 7, 0, 0, 0, .null), (2, .istore 8, 0, 0, 0, .null)]
set_option maxRecDepth 20000 in
theorem oX14_blockx_330 : vm_okB 14 mX14_block 330 bX14_blockx_330 = true := by decide +kernel
def bX14_blockx_334 : List vm_J := [(2, .iload 6, 0, 0, 0, .null), (2, .istore 7, 0, 0, 0, .null)]
set_option maxRecDepth 20000 in
theorem oX14_blockx_334 : vm_okB 14 mX14_block 334 bX14_blockx_334 = true := by decide +kernel
def bX14_blockx_338 : List vm_J := [(2, .iload 5, 0, 0, 0, .null), (2, .iload 11, 0, 0, 0, .null), (1, .iadd, 0, 0, 0, .null), (2, .istore 6, 0, 0, 0, .null)]
set_option maxRecDepth 20000 in
theorem oX14_blockx_338 : vm_okB 14 mX14_block 338 bX14_blockx_338 = true := by decide +kernel
def bX14_blockx_345 : List vm_J := [(2, .iload 4, 0, 0, 0, .null), (2, .istore 5, 0, 0, 0, .null)]
set_option maxRecDepth 20000 in
theorem oX14_blockx_345 : vm_okB 14 mX14_block 345 bX14_blockx_345 = true := by decide +kernel
def bX14_blockx_349 : List vm_J := [(1, .iload_n 3, 0, 0, 0, .null), (2, .istore 4, 0, 0, 0, .null)]
set_option maxRecDepth 20000 in
theorem oX14_blockx_349 : vm_okB 14 mX14_block 349 bX14_blockx_349 = true := by decide +kernel
def bX14_blockx_352 : List vm_J := [(1, .iload_n 2, 0, 0, 0, .null), (1, .istore_n 3, 0, 0, 0, .null)]
set_option maxRecDepth 20000 in
theorem oX14_blockx_352 : vm_okB 14 mX14_block 352 bX14_blockx_352 = true := by decide +kernel
def bX14_blockx_354 : List vm_J := [(2, .iload 11, 0, 0, 0, .null), (2, .iload 12, 0, 0, 0, .null), (1, .iadd, 0, 0, 0, .null), (1, .istore_n 2, 0, 0, 0, .null)]
set_option maxRecDepth 20000 in
theorem oX14_blockx_354 : vm_okB 14 mX14_block 354 bX14_blockx_354 = true := by decide +kernel
def bX14_blockx_360 : List vm_J := [(3, .iinc 10 1, 0, 0, 0, .int 1), (3, .goto (-136), 227, 0, 0, .null)]
set_option maxRecDepth 20000 in
theorem oX14_blockx_360 : vm_okB 14 mX14_block 360 bX14_blockx_360 = true := by decide +kernel
def bX14_blockx_366 : List vm_J := [(1, .aload_n 0, 0, 0, 0, .null), (3, .getfield 234, 14, 21, 0, .null), (1, .iconst 0, 0, 0, 0, .int 0), (1, .dup2, 0, 0, 0, .null), (1, .iaload, 0, 0, 0, .null), (1, .iload_n 2, 0, 0, 0, .null), (1, .iadd, 0, 0, 0, .null), (1, .iastore, 0, 0, 0, .null)]
set_option maxRecDepth 20000 in
theorem oX14_blockx_366 : vm_okB 14 mX14_block 366 bX14_blockx_366 = true := by decide +kernel
def bX14_blockx_376 : List vm_J := [(1, .aload_n 0, 0, 0, 0, .null), (3, .getfield 234, 14, 21, 0, .null), (1, .iconst 1, 0, 0, 0, .int 1), (1, .dup2, 0, 0, 0, .null), (1, .iaload, 0, 0, 0, .null), (1, .iload_n 3, 0, 0, 0, .null), (1, .iadd, 0, 0, 0, .null), (1, .iastore, 0, 0, 0, .null)]
set_option maxRecDepth 20000 in
theorem oX14_blockx_376 : vm_okB 14 mX14_block 376 bX14_blockx_376 = true := by decide +kernel
def bX14_blockx_386 : List vm_J := [(1, .aload_n 0, 0, 0, 0, .null), (3, .getfield 234, 14, 21, 0, .null), (1, .iconst 2, 0, 0, 0, .int 2), (1, .dup2, 0, 0, 0, .null), (1, .iaload, 0, 0, 0, .null), (2, .iload 4, 0, 0, 0, .null), (1, .iadd, 0, 0, 0, .null), (1, .iastore, 0, 0, 0, .null)]
set_option maxRecDepth 20000 in
theorem oX14_blockx_386 : vm_okB 14 mX14_block 386 bX14_blockx_386 = true := by decide +kernel
def bX14_blockx_397 : List vm_J := [(1, .aload_n 0, 0, 0, 0, .null), (3, .getfield 234, 14, 21, 0, .null), (1, .iconst 3, 0, 0, 0, .int 3), (1, .dup2, 0, 0, 0, .null), (1, .iaload, 0, 0, 0, .null), (2, .iload 5, 0, 0, 0, .null), (1, .iadd, 0, 0, 0, .null), (1, .iastore, 0, 0, 0, .null)]
set_option maxRecDepth 20000 in
theorem oX14_blockx_397 : vm_okB 14 mX14_block 397 bX14_blockx_397 = true := by decide +kernel
def bX14_blockx_408 : List vm_J := [(1, .aload_n 0, 0, 0, 0, .null), (3, .getfield 234, 14, 21, 0, .null), (1, .iconst 4, 0, 0, 0, .int 4), (1, .dup2, 0, 0, 0, .null), (1, .iaload, 0, 0, 0, .null), (2, .iload 6, 0, 0, 0, .null), (1, .iadd, 0, 0, 0, .null), (1, .iastore, 0, 0, 0, .null)]
set_option maxRecDepth 20000 in
theorem oX14_blockx_408 : vm_okB 14 mX14_block 408 bX14_blockx_408 = true := by decide +kernel
def bX14_blockx_419 : List vm_J := [(1, .aload_n 0, 0, 0, 0, .null), (3, .getfield 234, 14, 21, 0, .null), (1, .iconst 5, 0, 0, 0, .int 5), (1, .dup2, 0, 0, 0, .null), (1, .iaload, 0, 0, 0, .null), (2, .iload 7, 0, 0, 0, .null), (1, .iadd, 0, 0, 0, .null), (1, .iastore, 0, 0, 0, .null)]
set_option maxRecDepth 20000 in
theorem oX14_blockx_419 : vm_okB 14 mX14_block 419 bX14_blockx_419 = true := by decide +kernel
def bX14_blockx_430 : List vm_J := [(1, .aload_n 0, 0, 0, 0, .null), (3, .getfield 234, 14, 21, 0, .null), (2, .bipush 6, 0, 0, 0, .int 6), (1, .dup2, 0, 0, 0, .null), (1, .iaload, 0, 0, 0, .null), (2, .iload 8, 0, 0, 0, .null), (1, .iadd, 0, 0, 0, .null), (1, .iastore, 0, 0, 0, .null)]
set_option maxRecDepth 20000 in
theorem oX14_blockx_430 : vm_okB 14 mX14_block 430 bX14_blockx_430 = true := by decide +kernel
def bX14_blockx_442 : List vm_J := [(1, .aload_n 0, 0, 0, 0, .null), (3, .getfield 234, 14, 21, 0, .null), (2, .bipush 7, 0, 0, 0, .int 7), (1, .dup2, 0, 0, 0, .null), (1, .iaload, 0, 0, 0, .null), (2, .iload 9, 0, 0, 0, .null), (1, .iadd, 0, 0, 0, .null), (1, .iastore, 0, 0, 0, .null)]
set_option maxRecDepth 20000 in
theorem oX14_blockx_442 : vm_okB 14 mX14_block 442 bX14_blockx_442 = true := by decide +kernel
def bX14_blockx_454 : List vm_J := [(1, .return_, 0, 0, 0, .null)]
set_option maxRecDepth 20000 in
theorem oX14_blockx_454 : vm_okB 14 mX14_block 454 bX14_blockx_454 = true := by decide +kernel
def bX14_wideBlockx_0 : List vm_J := [(1, .iconst 0, 0, 0, 0, .int 0), (1, .istore_n 2, 0, 0, 0, .null)]
set_option maxRecDepth 20000 in
theorem oX14_wideBlockx_0 : vm_okB 14 mX14_wideBlock 0 bX14_wideBlockx_0 = true := by decide +kernel
def bX14_wideBlockx_2 : List vm_J := [(1, .iload_n 2, 0, 0, 0, .null), (2, .bipush 80, 0, 0, 0, .int 80), (3, .if_icmp .ge 158, 163, 0, 0, .null), (1, .iload_n 2, 0, 0, 0, .null), (2, .bipush 16, 0, 0, 0, .int 16), (3, .if_icmp .ge 61, 72, 0, 0, .null), (1, .aload_n 0, 0, 0, 0, .null), (3, .getfield 266, 14, 24, 0, .null), (1, .iload_n 2, 0, 0, 0, .null), (1, .lconst 0, 0, 0, 0, .long 0), (1, .lastore, 0, 0, 0, .null)]
set_option maxRecDepth 20000 in
theorem oX14_wideBlockx_2 : vm_okB 14 mX14_wideBlock 2 bX14_wideBlockx_2 = true := by decide +kernel
def bX14_wideBlockx_21 : List vm_J := [(1, .iconst 0, 0, 0, 0, .int 0), (1, .istore_n 3, 0, 0, 0, .null)]
set_option maxRecDepth 20000 in
theorem oX14_wideBlockx_21 : vm_okB 14 mX14_wideBlock 21 bX14_wideBlockx_21 = true := by decide +kernel
def bX14_wideBlockx_23 : List vm_J := [(1, .iload_n 3, 0, 0, 0, .null), (2, .bipush 8, 0, 0, 0, .int 8), (3, .if_icmp .ge 43, 69, 0, 0, .null), (1, .aload_n 0, 0, 0, 0, .null), (3, .getfield 266, 14, 24, 0, .null), (1, .iload_n 2, 0, 0, 0, .null), (1, .aload_n 0, 0, 0, 0, .null), (3, .getfield 266, 14, 24, 0, .null), (1, .iload_n 2, 0, 0, 0, .null), (1, .laload, 0, 0, 0, .null), (2, .bipush 8, 0, 0, 0, .int 8), (1, .lshl, 0, 0, 0, .null), (1, .aload_n 0, 0, 0, 0, .null), (3, .getfield 199, 14, 18, 0, .null), (1, .iload_n 1, 0, 0, 0, .null), (2, .bipush 8, 0, 0, 0, .int 8), (1, .iload_n 2, 0, 0, 0, .null), (1, .imul, 0, 0, 0, .null), (1, .iadd, 0, 0, 0, .null), (1, .iload_n 3, 0, 0, 0, .null), (1, .iadd, 0, 0, 0, .null), (1, .baload, 0, 0, 0, .null), (3, .sipush 255, 0, 0, 0, .int 255), (1, .iand, 0, 0, 0, .null), (1, .i2l, 0, 0, 0, .null), (1, .lor, 0, 0, 0, .null), (1, .lastore, 0, 0, 0, .null)]
set_option maxRecDepth 20000 in
theorem oX14_wideBlockx_23 : vm_okB 14 mX14_wideBlock 23 bX14_wideBlockx_23 = true := by decide +kernel
def bX14_wideBlockx_63 : List vm_J := [(3, .iinc 3 1, 0, 0, 0, .int 1), (3, .goto (-43), 23, 0, 0, .null)]
set_option maxRecDepth 20000 in
theorem oX14_wideBlockx_63 : vm_okB 14 mX14_wideBlock 63 bX14_wideBlockx_63 = true := by decide +kernel
def bX14_wideBlockx_69 : List vm_J := [(3, .goto 88, 157, 0, 0, .null)]
set_option maxRecDepth 20000 in
theorem oX14_wideBlockx_69 : vm_okB 14 mX14_wideBlock 69 bX14_wideBlockx_69 = true := by decide +kernel
def bX14_wideBlockx_72 : List vm_J := [(1, .aload_n 0, 0, 0, 0, .null), (3, .getfield 266, 14, 24, 0, .null), (1, .iload_n 2, 0, 0, 0, .null), (2, .bipush 15, 0, 0, 0, .int 15), (1, .isub, 0, 0, 0, .null), (1, .laload, 0, 0, 0, .null), (1, .lstore_n 3, 0, 0, 0, .null)]
set_option maxRecDepth 20000 in
theorem oX14_wideBlockx_72 : vm_okB 14 mX14_wideBlock 72 bX14_wideBlockx_72 = true := by decide +kernel
def bX14_wideBlockx_82 : List vm_J := [(1, .aload_n 0, 0, 0, 0, .null), (3, .getfield 266, 14, 24, 0, .null), (1, .iload_n 2, 0, 0, 0, .null), (1, .iconst 2, 0, 0, 0, .int 2), (1, .isub, 0, 0, 0, .null), (1, .laload, 0, 0, 0, .null), (2, .lstore 5, 0, 0, 0, .null)]
set_option maxRecDepth 20000 in
theorem oX14_wideBlockx_82 : vm_okB 14 mX14_wideBlock 82 bX14_wideBlockx_82 = true := by decide +kernel
def bX14_wideBlockx_92 : List vm_J := [(1, .aload_n 0, 0, 0, 0, .null), (3, .getfield 266, 14, 24, 0, .null), (1, .iload_n 2, 0, 0, 0, .null), (1, .aload_n 0, 0, 0, 0, .null), (3, .getfield 266, 14, 24, 0, .null), (1, .iload_n 2, 0, 0, 0, .null), (2, .bipush 16, 0, 0, 0, .int 16), (1, .isub, 0, 0, 0, .null), (1, .laload, 0, 0, 0, .null), (1, .aload_n 0, 0, 0, 0, .null), (3, .getfield 266, 14, 24, 0, .null), (1, .iload_n 2, 0, 0, 0, .null), (2, .bipush 7, 0, 0, 0, .int 7), (1, .isub, 0, 0, 0, .null), (1, .laload, 0, 0, 0, .null), (1, .ladd, 0, 0, 0, .null), (1, .lload_n 3, 0, 0, 0, .null), (1, .iconst 1, 0, 0, 0, .int 1), (3, .invokestatic 269, 172, 2, 0, .null), (1, .lload_n 3, 0, 0, 0, .null), (2, .bipush 8, 0, 0, 0, .int 8), (3, .invokestatic 269, 172, 2, 0, .null), (1, .lxor, 0, 0, 0, .null), (1, .lload_n 3, 0, 0, 0, .null), (2, .bipush 7, 0, 0, 0, .int 7), (1, .lushr, 0, 0, 0, .null), (1, .lxor, 0, 0, 0, .null), (1, .ladd, 0, 0, 0, .null), (2, .lload 5, 0, 0, 0, .null), (2, .bipush 19, 0, 0, 0, .int 19), (3, .invokestatic 269, 172, 2, 0, .null), (2, .lload 5, 0, 0, 0, .null), (2, .bipush 61, 0, 0, 0, .int 61), (3, .invokestatic 269, 172, 2, 0, .null), (1, .lxor, 0, 0, 0, .null), (2, .lload 5, 0, 0, 0, .null), (2, .bipush 6, 0, 0, 0, .int 6), (1, .lushr, 0, 0, 0, .null), (1, .lxor, 0, 0, 0, .null), (1, .ladd, 0, 0, 0, .null), (1, .lastore, 0, 0, 0, .null)]
set_option maxRecDepth 20000 in
theorem oX14_wideBlockx_92 : vm_okB 14 mX14_wideBlock 92 bX14_wideBlockx_92 = true := by decide +kernel
def bX14_wideBlockx_157 : List vm_J := [(3, .iinc 2 1, 0, 0, 0, .int 1), (3, .goto (-158), 2, 0, 0, .null)]
set_option maxRecDepth 20000 in
theorem oX14_wideBlockx_157 : vm_okB 14 mX14_wideBlock 157 bX14_wideBlockx_157 = true := by decide +kernel
def bX14_wideBlockx_163 : List vm_J := [(1, .aload_n 0, 0, 0, 0, .null), (3, .getfield 256, 14, 23, 0, .null), (1, .iconst 0, 0, 0, 0, .int 0), (1, .laload, 0, 0, 0, .null), (1, .lstore_n 2, 0, 0, 0, .null)]
set_option maxRecDepth 20000 in
theorem oX14_wideBlockx_163 : vm_okB 14 mX14_wideBlock 163 bX14_wideBlockx_163 = true := by decide +kernel
def bX14_wideBlockx_170 : List vm_J := [(1, .aload_n 0, 0, 0, 0, .null), (3, .getfield 256, 14, 23, 0, .null), (1, .iconst 1, 0, 0, 0, .int 1), (1, .laload, 0, 0, 0, .null), (2, .lstore 4, 0, 0, 0, .null)]
set_option maxRecDepth 20000 in
theorem oX14_wideBlockx_170 : vm_okB 14 mX14_wideBlock 170 bX14_wideBlockx_170 = true := by decide +kernel
def bX14_wideBlockx_178 : List vm_J := [(1, .aload_n 0, 0, 0, 0, .null), (3, .getfield 256, 14, 23, 0, .null), (1, .iconst 2, 0, 0, 0, .int 2), (1, .laload, 0, 0, 0, .null), (2, .lstore 6, 0, 0, 0, .null)]
set_option maxRecDepth 20000 in
theorem oX14_wideBlockx_178 : vm_okB 14 mX14_wideBlock 178 bX14_wideBlockx_178 = true := by decide +kernel
def bX14_wideBlockx_186 : List vm_J := [(1, .aload_n 0, 0, 0, 0, .null), (3, .getfield 256, 14, 23, 0, .null), (1, .iconst 3, 0, 0, 0, .int 3), (1, .laload, 0, 0, 0, .null), (2, .lstore 8, 0, 0, 0, .null)]
set_option maxRecDepth 20000 in
theorem oX14_wideBlockx_186 : vm_okB 14 mX14_wideBlock 186 bX14_wideBlockx_186 = true := by decide +kernel
def bX14_wideBlockx_194 : List vm_J := [(1, .aload_n 0, 0, 0, 0, .null), (3, .getfield 256, 14, 23, 0, .null), (1, .iconst 4, 0, 0, 0, .int 4), (1, .laload, 0, 0, 0, .null), (2, .lstore 10, 0, 0, 0, .null)]
set_option maxRecDepth 20000 in
theorem oX14_wideBlockx_194 : vm_okB 14 mX14_wideBlock 194 bX14_wideBlockx_194 = true := by decide +kernel
def bX14_wideBlockx_202 : List vm_J := [(1, .aload_n 0, 0, 0, 0, .null), (3, .getfield 256, 14, 23, 0, .null), (1, .iconst 5, 0, 0, 0, .int 5), (1, .laload, 0, 0, 0, .null), (2, .lstore 12, 0, 0, 0, .null)]
set_option maxRecDepth 20000 in
theorem oX14_wideBlockx_202 : vm_okB 14 mX14_wideBlock 202 bX14_wideBlockx_202 = true := by decide +kernel
def bX14_wideBlockx_210 : List vm_J := [(1, .aload_n 0, 0, 0, 0, .null), (3, .getfield 256, 14, 23, 0, .null), (2, .bipush 6, 0, 0, 0, .int 6), (1, .laload, 0, 0, 0, .null), (2, .lstore 14, 0, 0, 0, .null)]
set_option maxRecDepth 20000 in
theorem oX14_wideBlockx_210 : vm_okB 14 mX14_wideBlock 210 bX14_wideBlockx_210 = true := by decide +kernel
def bX14_wideBlockx_219 : List vm_J := [(1, .aload_n 0, 0, 0, 0, .null), (3, .getfield 256, 14, 23, 0, .null), (2, .bipush 7, 0, 0, 0, .int 7), (1, .laload, 0, 0, 0, .null), (2, .lstore 16, 0, 0, 0, .null)]
set_option maxRecDepth 20000 in
theorem oX14_wideBlockx_219 : vm_okB 14 mX14_wideBlock 219 bX14_wideBlockx_219 = true := by decide +kernel
def bX14_wideBlockx_228 : List vm_J := [(1, .iconst 0, 0, 0, 0, .int 0), (2, .istore 18, 0, 0, 0, .null)]
set_option maxRecDepth 20000 in
theorem oX14_wideBlockx_228 : vm_okB 14 mX14_wideBlock 228 bX14_wideBlockx_228 = true := by decide +kernel
def bX14_wideBlockx_231 : List vm_J := [(2, .iload 18, 0, 0, 0, .null), (2, .bipush 80, 0, 0, 0, .int 80), (3, .if_icmp .ge 142, 377, 0, 0, .null), (2, .lload 16, 0, 0, 0, .null), (2, .lload 10, 0, 0, 0, .null), (2, .bipush 14, 0, 0, 0, .int 14), (3, .invokestatic 269, 172, 2, 0, .null), (2, .lload 10, 0, 0, 0, .null), (2, .bipush 18, 0, 0, 0, .int 18), (3, .invokestatic 269, 172, 2, 0, .null), (1, .lxor, 0, 0, 0, .null), (2, .lload 10, 0, 0, 0, .null), (2, .bipush 41, 0, 0, 0, .int 41), (3, .invokestatic 269, 172, 2, 0, .null), (1, .lxor, 0, 0, 0, .null), (1, .ladd, 0, 0, 0, .null), (2, .lload 10, 0, 0, 0, .null), (2, .lload 12, 0, 0, 0, .null), (1, .land, 0, 0, 0, .null), (2, .lload 10, 0, 0, 0, .null), (3, .ldc2_w 272, 0, 0, 0, .long (-1)), (1, .lxor, 0, 0, 0, .null), (2, .lload 14, 0, 0, 0, .null), (1, .land, 0, 0, 0, .null), (1, .lxor, 0, 0, 0, .null), (1, .ladd, 0, 0, 0, .null), (3, .getstatic 274, 11, 0, 0, .null), (2, .iload 18, 0, 0, 0, .null), (1, .laload, 0, 0, 0, .null), (1, .ladd, 0, 0, 0, .null), (1, .aload_n 0, 0, 0, 0, .null), (3, .getfield 266, 14, 24, 0, .null), (2, .iload 18, 0, 0, 0, .null), (1, .laload, 0, 0, 0, .null), (1, .ladd, 0, 0, 0, .null), (2, .lstore 19, 0, 0, 0, .null)]
set_option maxRecDepth 20000 in
theorem oX14_wideBlockx_231 : vm_okB 14 mX14_wideBlock 231 bX14_wideBlockx_231 = true := by decide +kernel
def bX14_wideBlockx_297 : List vm_J := [(1, .lload_n 2, 0, 0, 0, .null), (2, .bipush 28, 0, 0, 0, .int 28), (3, .invokestatic 269, 172, 2, 0, .null), (1, .lload_n 2, 0, 0, 0, .null), (2, .bipush 34, 0, 0, 0, .int 34), (3, .invokestatic 269, 172, 2, 0, .null), (1, .lxor, 0, 0, 0, .null), (1, .lload_n 2, 0, 0, 0, .null), (2, .bipush 39, 0, 0, 0, .int 39), (3, .invokestatic 269, 172, 2, 0, .null), (1, .lxor, 0, 0, 0, .null), (1, .lload_n 2, 0, 0, 0, .null), (2, .lload 4, 0, 0, 0, .null), (1, .land, 0, 0, 0, .null), (1, .lload_n 2, 0, 0, 0, .null), (2, .lload 6, 0, 0, 0, .null), (1, .land, 0, 0, 0, .null), (1, .lxor, 0, 0, 0, .null), (2, .lload 4, 0, 0, 0, .null), (2, .lload 6, 0, 0, 0, .null), (1, .land, 0, 0, 0, .null), (1, .lxor, 0, 0, 0, .null), (1, .ladd, 0, 0, 0, .null), (2, .lstore 21, 0, 0, 0, .null)]
set_option maxRecDepth 20000 in
theorem oX14_wideBlockx_297 : vm_okB 14 mX14_wideBlock 297 bX14_wideBlockx_297 = true := by decide +kernel
def bX14_wideBlockx_335 : List vm_J := [(2, .lload 14, 0, 0, 0, .null), (2, .lstore 16, 0, 0, 0, .null)]
set_option maxRecDepth 20000 in
theorem oX14_wideBlockx_335 : vm_okB 14 mX14_wideBlock 335 bX14_wideBlockx_335 = true := by decide +kernel
def bX14_wideBlockx_339 : List vm_J := [(2, .lload 12, 0, 0, 0, .null), (2, .lstore 14, 0, 0, 0, .null)]
set_option maxRecDepth 20000 in
theorem oX14_wideBlockx_339 : vm_okB 14 mX14_wideBlock 339 bX14_wideBlockx_339 = true := by decide +kernel
def bX14_wideBlockx_343 : List vm_J := [(2, .lload 10, 0, 0, 0, .null), (2, .lstore 12, 0, 0, 0, .null)]
set_option maxRecDepth 20000 in
theorem oX14_wideBlockx_343 : vm_okB 14 mX14_wideBlock 343 bX14_wideBlockx_343 = true := by decide +kernel
def bX14_wideBlockx_347 : List vm_J := [(2, .lload 8, 0, 0, 0, .null), (2, .lload 19, 0, 0, 0, .null), (1, .ladd, 0, 0, 0, .null), (2, .lstore 10, 0, 0, 0, .null)]
set_option maxRecDepth 20000 in
theorem oX14_wideBlockx_347 : vm_okB 14 mX14_wideBlock 347 bX14_wideBlockx_347 = true := by decide +kernel
def bX14_wideBlockx_354 : List vm_J := [(2, .lload 6, 0, 0, 0, .null), (2, .lstore 8, 0, 0, 0, .null)]
set_option maxRecDepth 20000 in
theorem oX14_wideBlockx_354 : vm_okB 14 mX14_wideBlock 354 bX14_wideBlockx_354 = true := by decide +kernel
def bX14_wideBlockx_358 : List vm_J := [(2, .lload 4, 0, 0, 0, .null), (2, .lstore 6, 0, 0, 0, .null)]
set_option maxRecDepth 20000 in
theorem oX14_wideBlockx_358 : vm_okB 14 mX14_wideBlock 358 bX14_wideBlockx_358 = true := by decide +kernel
def bX14_wideBlockx_362 : List vm_J := [(1, .lload_n 2, 0, 0, 0, .null), (2, .lstore 4, 0, 0, 0, .null)]
set_option maxRecDepth 20000 in
theorem oX14_wideBlockx_362 : vm_okB 14 mX14_wideBlock 362 bX14_wideBlockx_362 = true := by decide +kernel
def bX14_wideBlockx_365 : List vm_J := [(2, .lload 19, 0, 0, 0, .null), (2, .lload 21, 0, 0, 0, .null), (1, .ladd, 0, 0, 0, .null), (1, .lstore_n 2, 0, 0, 0, .null)]
set_option maxRecDepth 20000 in
theorem oX14_wideBlockx_365 : vm_okB 14 mX14_wideBlock 365 bX14_wideBlockx_365 = true := by decide +kernel
def bX14_wideBlockx_371 : List vm_J := [(3, .iinc 18 1, 0, 0, 0, .int 1), (3, .goto (-143), 231, 0, 0, .null)]
set_option maxRecDepth 20000 in
theorem oX14_wideBlockx_371 : vm_okB 14 mX14_wideBlock 371 bX14_wideBlockx_371 = true := by decide +kernel
def bX14_wideBlockx_377 : List vm_J := [(1, .aload_n 0, 0, 0, 0, .null), (3, .getfield 256, 14, 23, 0, .null), (1, .iconst 0, 0, 0, 0, .int 0), (1, .dup2, 0, 0, 0, .null), (1, .laload, 0, 0, 0, .null), (1, .lload_n 2, 0, 0, 0, .null), (1, .ladd, 0, 0, 0, .null), (1, .lastore, 0, 0, 0, .null)]
set_option maxRecDepth 20000 in
theorem oX14_wideBlockx_377 : vm_okB 14 mX14_wideBlock 377 bX14_wideBlockx_377 = true := by decide +kernel
def bX14_wideBlockx_387 : List vm_J := [(1, .aload_n 0, 0, 0, 0, .null), (3, .getfield 256, 14, 23, 0, .null), (1, .iconst 1, 0, 0, 0, .int 1), (1, .dup2, 0, 0, 0, .null), (1, .laload, 0, 0, 0, .null), (2, .lload 4, 0, 0, 0, .null), (1, .ladd, 0, 0, 0, .null), (1, .lastore, 0, 0, 0, .null)]
set_option maxRecDepth 20000 in
theorem oX14_wideBlockx_387 : vm_okB 14 mX14_wideBlock 387 bX14_wideBlockx_387 = true := by decide +kernel
def bX14_wideBlockx_398 : List vm_J := [(1, .aload_n 0, 0, 0, 0, .null), (3, .getfield 256, 14, 23, 0, .null), (1, .iconst 2, 0, 0, 0, .int 2), (1, .dup2, 0, 0, 0, .null), (1, .laload, 0, 0, 0, .null), (2, .lload 6, 0, 0, 0, .null), (1, .ladd, 0, 0, 0, .null), (1, .lastore, 0, 0, 0, .null)]
set_option maxRecDepth 20000 in
theorem oX14_wideBlockx_398 : vm_okB 14 mX14_wideBlock 398 bX14_wideBlockx_398 = true := by decide +kernel
def bX14_wideBlockx_409 : List vm_J := [(1, .aload_n 0, 0, 0, 0, .null), (3, .getfield 256, 14, 23, 0, .null), (1, .iconst 3, 0, 0, 0, .int 3), (1, .dup2, 0, 0, 0, .null), (1, .laload, 0, 0, 0, .null), (2, .lload 8, 0, 0, 0, .null), (1, .ladd, 0, 0, 0, .null), (1, .lastore, 0, 0, 0, .null)]
set_option maxRecDepth 20000 in
theorem oX14_wideBlockx_409 : vm_okB 14 mX14_wideBlock 409 bX14_wideBlockx_409 = true := by decide +kernel
def bX14_wideBlockx_420 : List vm_J := [(1, .aload_n 0, 0, 0, 0, .null), (3, .getfield 256, 14, 23, 0, .null), (1, .iconst 4, 0, 0, 0, .int 4), (1, .dup2, 0, 0, 0, .null), (1, .laload, 0, 0, 0, .null), (2, .lload 10, 0, 0, 0, .null), (1, .ladd, 0, 0, 0, .null), (1, .lastore, 0, 0, 0, .null)]
set_option maxRecDepth 20000 in
theorem oX14_wideBlockx_420 : vm_okB 14 mX14_wideBlock 420 bX14_wideBlockx_420 = true := by decide +kernel
def bX14_wideBlockx_431 : List vm_J := [(1, .aload_n 0, 0, 0, 0, .null), (3, .getfield 256, 14, 23, 0, .null), (1, .iconst 5, 0, 0, 0, .int 5), (1, .dup2, 0, 0, 0, .null), (1, .laload, 0, 0, 0, .null), (2, .lload 12, 0, 0, 0, .null), (1, .ladd, 0, 0, 0, .null), (1, .lastore, 0, 0, 0, .null)]
set_option maxRecDepth 20000 in
theorem oX14_wideBlockx_431 : vm_okB 14 mX14_wideBlock 431 bX14_wideBlockx_431 = true := by decide +kernel
def bX14_wideBlockx_442 : List vm_J := [(1, .aload_n 0, 0, 0, 0, .null), (3, .getfield 256, 14, 23, 0, .null), (2, .bipush 6, 0, 0, 0, .int 6), (1, .dup2, 0, 0, 0, .null), (1, .laload, 0, 0, 0, .null), (2, .lload 14, 0, 0, 0, .null), (1, .ladd, 0, 0, 0, .null), (1, .lastore, 0, 0, 0, .null)]
set_option maxRecDepth 20000 in
theorem oX14_wideBlockx_442 : vm_okB 14 mX14_wideBlock 442 bX14_wideBlockx_442 = true := by decide +kernel
def bX14_wideBlockx_454 : List vm_J := [(1, .aload_n 0, 0, 0, 0, .null), (3, .getfield 256, 14, 23, 0, .null), (2, .bipush 7, 0, 0, 0, .int 7), (1, .dup2, 0, 0, 0, .null), (1, .laload, 0, 0, 0, .null), (2, .lload 16, 0, 0, 0, .null), (1, .ladd, 0, 0, 0, .null), (1, .lastore, 0, 0, 0, .null)]
set_option maxRecDepth 20000 in
theorem oX14_wideBlockx_454 : vm_okB 14 mX14_wideBlock 454 bX14_wideBlockx_454 = true := by decide +kernel
def bX14_wideBlockx_466 : List vm_J := [(1, .return_, 0, 0, 0, .null)]
set_option maxRecDepth 20000 in
theorem oX14_wideBlockx_466 : vm_okB 14 mX14_wideBlock 466 bX14_wideBlockx_466 = true := by decide +kernel
theorem upd_2 {f : Nat → Int32} {i : Nat} {x y : Int32} : upd (upd f i x) i y = upd f i y := by
  funext j
  by_cases e : j = i
  · subst e; exact upd_e.trans upd_e.symm
  · rw [upd_n e, upd_n e, upd_n e]
theorem vp_updL_2 {f : Nat → Int64} {i : Nat} {x y : Int64} : vp_updL (vp_updL f i x) i y = vp_updL f i y := by
  funext j
  unfold vp_updL
  by_cases e : j = i
  · rw [if_pos e, if_pos e]
  · rw [if_neg e, if_neg e, if_neg e]
theorem bw_2 {b : Nat → Nat} {p k : Nat} (hk : k < 4) (h : ∀ j, p ≤ j → j < p + 4 → b j < 256) : (nI (bn b p k) <<< ((8 : Int32) &&& 31)) ||| nI (b (p + k)) = nI (bn b p (k + 1)) := by
  have h1 : bn b p k < 256 ^ k := bn_lt k (fun j h1 h2 => h j h1 (by omega))
  have h2 : (256 : Nat) ^ k ≤ 256 ^ 3 := Nat.pow_le_pow_right (by decide) (by omega)
  have h3 : (256 : Nat) ^ 3 = 16777216 := by decide
  have h4 := h (p + k) (by omega) (by omega)
  rw [nI_shl (k := 8) (by decide), Int32.or_comm, nI_or (by omega) (by omega)]
  congr 1
  show b (p + k) + bn b p k * 2 ^ 8 = bn b p k * 256 + b (p + k)
  omega
section
variable {l : Launch} {O : Nat → vm_Ob} {f9 : Value} {h : vm_H} {a : Nat} {t : KT} {g : Nat → Int32}
theorem rm_roll {v b b' : Int32} (hb : 32 - b = b') : vm_Met (vm_env l O f9) mX14_roll 0 0 [.int v, .int b] h (fun r h' => r = some (.int (ro2 v b b')) ∧ h' = h) := by
  subst hb
  refine vm_met rfl (Nat.le_of_ble_eq_true rfl) ?_
  exact vm_go rfl bX14_roll_0 oX14_roll_0 ⟨rfl, rfl⟩
theorem rm_rollL {v : Int64} {b b' : Int32} (hb : 64 - b = b') : vm_Met (vm_env l O f9) mX14_roll_ 0 0 [.long v, .int b] h (fun r h' => r = some (.long (ro v b b')) ∧ h' = h) := by
  subst hb
  refine vm_met rfl (Nat.le_of_ble_eq_true rfl) ?_
  exact vm_go rfl bX14_roll__0 oX14_roll__0 ⟨rfl, rfl⟩

theorem rm_block {at9 : Nat} {s : Nat → Int32} {c : Nat → Nat} (k : RK h a t g) (hc : h.2 (a + 30) = (.inl (.int, 8, .inl s))) (hb : bv h 2600 (a + 28) c) (hat : at9 + 64 ≤ 2600) : vm_Met (vm_env l O f9) mX14_block 0 0 [.ref a, .int (nI at9)] h (fun r h' => r = none ∧ RK h' a t g ∧ (∃ s' : Nat → Int32, h'.2 (a + 30) = (.inl (.int, 8, .inl s')) ∧ ∀ j, j < 8 → s' j = s j + rds2 t.2.1 (wt2 (m2 (fun j => c (at9 + j)))) s 64 j) ∧ fr h h' (fun q => q = (a + 30) ∨ q = (a + 31))) := by
  have ao := k.2.1
  have lc : (a + 30) < 1099511627776 := by omega
  have ls : (a + 31) < 1099511627776 := by omega
  obtain ⟨fb, eb, vb⟩ := hb
  obtain ⟨w, ew⟩ : ∃ w, h.2 (a + 31) = .inl (.int, 64, .inl w) := RK_64 k (i := 31) (by unfold ZI; omega) rfl
  have r0 : ∀ F : Nat → Int32, (vm_up h (a + 31) (.inl (.int, 64, .inl F))).2 a = RO a g := fun F => (vm_upn (by omega)).trans k.1
  have b0 : ∀ F : Nat → Int32, (vm_up h (a + 31) (.inl (.int, 64, .inl F))).2 (a + 28) = _ := fun F => (vm_upn (by omega)).trans eb
  refine vm_met rfl (Nat.le_of_ble_eq_true rfl) ?_
  refine vm_go rfl bX14_blockx_0 oX14_blockx_0 ?_
  refine vm_Th (lv' := [(0, .ref a), (1, .int (nI at9)), (2, .int (nI 0))]) (h' := vm_up h (a + 31) (.inl (.int, 64, .inl (cutf (wt2 (m2 (fun j => c (at9 + j)))) w 0)))) rfl (by rw [cutf_0, vm_ups ew]) ?_
  refine vm_for 64 (fun i => [(0, .ref a), (1, .int (nI at9)), (2, .int (nI i))]) (fun i => vm_up h (a + 31) (.inl (.int, 64, .inl (cutf (wt2 (m2 (fun j => c (at9 + j)))) w i)))) 0 (by decide) ?_ ?_
  rotate_left
  · intro i _ hi ih
    have tail : vm_T (vm_env l O f9) mX14_block 0 0 154 [(0, .ref a), (1, .int (nI at9)), (2, .int (nI i))] [] (vm_up h (a + 31) (.inl (.int, 64, .inl (cutf (wt2 (m2 (fun j => c (at9 + j)))) w (i + 1))))) _ := vm_go rfl bX14_blockx_154 oX14_blockx_154 (vm_Th (by rw [← nI_1]; rfl) rfl ih)
    rcases Nat.lt_or_ge i 16 with h16 | h16
    · refine vm_go rfl bX14_blockx_2 oX14_blockx_2 ⟨fun q => absurd q (nI_ge (b := 64) hi (by decide)), fun _ => ⟨fun q => absurd q (nI_ge (b := 16) h16 (by decide)), fun _ => ⟨_, _, r0 _, rfl, ⟨64, _, vm_upe, ls, i, rfl, hi, ?_⟩⟩⟩⟩
      refine vm_Th (lv' := [(0, .ref a), (1, .int (nI at9)), (2, .int (nI i))]) (h' := vm_up h (a + 31) (.inl (.int, 64, .inl (upd (cutf (wt2 (m2 (fun j => c (at9 + j)))) w i) i (nI (bn (fun j => c (at9 + j)) (4 * i) 0)))))) rfl (by rw [vm_upup]; rfl) ?_
      refine vm_go rfl bX14_blockx_21 oX14_blockx_21 ?_
      refine vm_Th (lv' := [(0, .ref a), (1, .int (nI at9)), (2, .int (nI i)), (3, .int (nI 0))]) (h' := vm_up h (a + 31) (.inl (.int, 64, .inl (upd (cutf (wt2 (m2 (fun j => c (at9 + j)))) w i) i (nI (bn (fun j => c (at9 + j)) (4 * i) 0)))))) rfl rfl ?_
      refine vm_for 4 (fun q => [(0, .ref a), (1, .int (nI at9)), (2, .int (nI i)), (3, .int (nI q))]) (fun q => vm_up h (a + 31) (.inl (.int, 64, .inl (upd (cutf (wt2 (m2 (fun j => c (at9 + j)))) w i) i (nI (bn (fun j => c (at9 + j)) (4 * i) q)))))) 0 (by decide) ?_ ?_
      · refine vm_go rfl bX14_blockx_23 oX14_blockx_23 ⟨fun _ => ?_, fun q => absurd (nI_le (a := 4) (b := 4) (by decide) (by decide)) q⟩
        refine vm_go rfl bX14_blockx_66 oX14_blockx_66 ?_
        refine vm_less [0, 1, 2] rfl ?_
        refine vm_Th (lv' := [(0, .ref a), (1, .int (nI at9)), (2, .int (nI i))]) (h' := vm_up h (a + 31) (.inl (.int, 64, .inl (cutf (wt2 (m2 (fun j => c (at9 + j)))) w (i + 1))))) rfl ?_ tail
        rw [cutf_sI (g := wt2 (m2 (fun j => c (at9 + j)))) (i := i)]
        rw [wt2_lo h16]; rfl
      · intro q _ hq ih2
        have vs := vb (at9 + 4 * i + q) (by omega)
        have ea : nI at9 + 4 * nI i + nI q = nI (at9 + 4 * i + q) := by
          rw [show (4 : Int32) * nI i = nI (4 * i) from nI_mul 4 i, nI_add, nI_add]
        have ez : upd (cutf (wt2 (m2 (fun j => c (at9 + j)))) w i) i (nI (bn (fun j => c (at9 + j)) (4 * i) q)) i = (nI (bn (fun j => c (at9 + j)) (4 * i) q)) := if_pos rfl
        refine vm_go rfl bX14_blockx_23 oX14_blockx_23 ⟨fun q => absurd q (nI_ge (b := 4) hq (by decide)), fun _ => ⟨_, _, r0 _, rfl, ⟨_, _, r0 _, rfl, ⟨64, _, vm_upe, i, rfl, hi, fun _ => ⟨_, _, r0 _, rfl, ⟨2600, fb, b0 _, _, ea, by omega, fun _ => ⟨64, _, vm_upe, ls, i, rfl, hi, ?_⟩⟩⟩⟩⟩⟩⟩
        refine vm_Th (lv' := [(0, .ref a), (1, .int (nI at9)), (2, .int (nI i)), (3, .int (nI q))]) (h' := vm_up h (a + 31) (.inl (.int, 64, .inl (upd (cutf (wt2 (m2 (fun j => c (at9 + j)))) w i) i (nI (bn (fun j => c (at9 + j)) (4 * i) (q + 1))))))) rfl ?_ (vm_go rfl bX14_blockx_60 oX14_blockx_60 (vm_Th (by rw [← nI_1]; rfl) rfl ih2))
        rw [vm_upup, ez, vs.1, sb_and _ vs.2]
        have e9 := bw_2 (b := (fun j => c (at9 + j))) (p := 4 * i) hq (fun j h1 h2 => (vb (at9 + j) (by omega)).2)
        have e9 : nI (bn (fun j => c (at9 + j)) (4 * i) q) <<< ((8 : Int32) &&& 31) ||| nI (c (at9 + 4 * i + q)) = nI (bn (fun j => c (at9 + j)) (4 * i) (q + 1)) := by
          rw [Nat.add_assoc]; exact e9
        rw [← e9]
        show _ = vm_up h _ (.inl (.int, 64, .inl (upd (upd _ i _) i _)))
        rw [upd_2]
    · have e15 : nI i - 15 = nI (i - 15) := nI_sub (b := 15) (by omega)
      have e2 : nI i - 2 = nI (i - 2) := nI_sub (b := 2) (by omega)
      have e16 : nI i - 16 = nI (i - 16) := nI_sub (b := 16) (by omega)
      have e7 : nI i - 7 = nI (i - 7) := nI_sub (b := 7) (by omega)
      refine vm_go rfl bX14_blockx_2 oX14_blockx_2 ⟨fun q => absurd q (nI_ge (b := 64) hi (by decide)), fun _ => ⟨fun _ => ?_, fun q => absurd (nI_le (a := 16) h16 (by omega)) q⟩⟩
      refine vm_go rfl bX14_blockx_69 oX14_blockx_69 ⟨_, _, r0 _, rfl, ⟨64, _, vm_upe, i - 15, e15, by omega, fun _ => ?_⟩⟩
      rw [cutf_lo (show i - 15 < i by omega)]
      refine vm_Th (lv' := [(0, .ref a), (1, .int (nI at9)), (2, .int (nI i)), (3, .int (wt2 (m2 (fun j => c (at9 + j))) (i - 15)))]) (h' := vm_up h (a + 31) (.inl (.int, 64, .inl (cutf (wt2 (m2 (fun j => c (at9 + j)))) w i)))) rfl rfl ?_
      refine vm_go rfl bX14_blockx_79 oX14_blockx_79 ⟨_, _, r0 _, rfl, ⟨64, _, vm_upe, i - 2, e2, by omega, fun _ => ?_⟩⟩
      rw [cutf_lo (show i - 2 < i by omega)]
      refine vm_Th (lv' := [(0, .ref a), (1, .int (nI at9)), (2, .int (nI i)), (3, .int (wt2 (m2 (fun j => c (at9 + j))) (i - 15))), (4, .int (wt2 (m2 (fun j => c (at9 + j))) (i - 2)))]) (h' := vm_up h (a + 31) (.inl (.int, 64, .inl (cutf (wt2 (m2 (fun j => c (at9 + j)))) w i)))) rfl rfl ?_
      refine vm_go rfl bX14_blockx_89 oX14_blockx_89 ⟨_, _, r0 _, rfl, ⟨_, _, r0 _, rfl, ⟨64, _, vm_upe, i - 16, e16, by omega, fun _ => ⟨_, _, r0 _, rfl, ⟨64, _, vm_upe, i - 7, e7, by omega, fun _ => ⟨0, 0, _, rm_roll (b' := 25) (by decide), Nat.zero_le _, Nat.zero_le _, ?_⟩⟩⟩⟩⟩⟩
      rintro _ _ ⟨rfl, rfl⟩
      refine ⟨0, 0, _, rm_roll (b' := 14) (by decide), Nat.zero_le _, Nat.zero_le _, ?_⟩
      rintro _ _ ⟨rfl, rfl⟩
      refine ⟨0, 0, _, rm_roll (b' := 15) (by decide), Nat.zero_le _, Nat.zero_le _, ?_⟩
      rintro _ _ ⟨rfl, rfl⟩
      refine ⟨0, 0, _, rm_roll (b' := 13) (by decide), Nat.zero_le _, Nat.zero_le _, ?_⟩
      rintro _ _ ⟨rfl, rfl⟩
      refine ⟨64, _, vm_upe, ls, i, rfl, hi, ?_⟩
      rw [cutf_lo (show i - 16 < i by omega), cutf_lo (show i - 7 < i by omega)]
      refine vm_less [0, 1, 2] rfl ?_
      refine vm_Th (lv' := [(0, .ref a), (1, .int (nI at9)), (2, .int (nI i))]) (h' := vm_up h (a + 31) (.inl (.int, 64, .inl (cutf (wt2 (m2 (fun j => c (at9 + j)))) w (i + 1))))) rfl ?_ tail
      rw [vm_upup]
      have E := (wt2_hi (m := m2 (fun j => c (at9 + j))) h16).symm
      rw [← cutf_sI (g := wt2 (m2 (fun j => c (at9 + j)))) (i := i) E]; rfl
  · obtain ⟨W9, eW9⟩ : ∃ W9, wt2 (m2 (fun j => c (at9 + j))) = W9 := ⟨_, rfl⟩
    rw [eW9]
    obtain ⟨h1, eh1⟩ : ∃ h1, h1 = vm_up h (a + 31) (.inl (.int, 64, .inl (cutf W9 w 64))) := ⟨_, rfl⟩
    have F1 : fr h h1 (fun q => q = (a + 31)) := eh1 ▸ fr_up rfl
    have s1 : h1.2 (a + 31) = (.inl (.int, 64, .inl (cutf W9 w 64))) := by rw [eh1]; exact vm_upe
    have o1 : h1.2 a = RO a g := (F1.2 a (by omega)).trans k.1
    have c1 : h1.2 (a + 30) = (.inl (.int, 8, .inl s)) := (F1.2 _ (by omega)).trans hc
    have kk1 := (F1.2 _ (by omega)).trans k.2.2.1.2.2.2.1
    rw [← eh1]
    refine vm_go rfl bX14_blockx_2 oX14_blockx_2 ⟨fun _ => ?_, fun q => absurd (nI_le (a := 64) (b := 64) (by decide) (by decide)) q⟩
    refine vm_go rfl bX14_blockx_160 oX14_blockx_160 ⟨_, _, o1, rfl, ⟨8, s, c1, 0, rfl, by decide, fun _ => ?_⟩⟩
    refine vm_Th (lv' := [(0, .ref a), (1, .int (nI at9)), (2, .int (s 0))]) (h' := h1) rfl rfl ?_
    refine vm_go rfl bX14_blockx_167 oX14_blockx_167 ⟨_, _, o1, rfl, ⟨8, s, c1, 1, rfl, by decide, fun _ => ?_⟩⟩
    refine vm_Th (lv' := [(0, .ref a), (1, .int (nI at9)), (2, .int (s 0)), (3, .int (s 1))]) (h' := h1) rfl rfl ?_
    refine vm_go rfl bX14_blockx_174 oX14_blockx_174 ⟨_, _, o1, rfl, ⟨8, s, c1, 2, rfl, by decide, fun _ => ?_⟩⟩
    refine vm_Th (lv' := [(0, .ref a), (1, .int (nI at9)), (2, .int (s 0)), (3, .int (s 1)), (4, .int (s 2))]) (h' := h1) rfl rfl ?_
    refine vm_go rfl bX14_blockx_182 oX14_blockx_182 ⟨_, _, o1, rfl, ⟨8, s, c1, 3, rfl, by decide, fun _ => ?_⟩⟩
    refine vm_Th (lv' := [(0, .ref a), (1, .int (nI at9)), (2, .int (s 0)), (3, .int (s 1)), (4, .int (s 2)), (5, .int (s 3))]) (h' := h1) rfl rfl ?_
    refine vm_go rfl bX14_blockx_190 oX14_blockx_190 ⟨_, _, o1, rfl, ⟨8, s, c1, 4, rfl, by decide, fun _ => ?_⟩⟩
    refine vm_Th (lv' := [(0, .ref a), (1, .int (nI at9)), (2, .int (s 0)), (3, .int (s 1)), (4, .int (s 2)), (5, .int (s 3)), (6, .int (s 4))]) (h' := h1) rfl rfl ?_
    refine vm_go rfl bX14_blockx_198 oX14_blockx_198 ⟨_, _, o1, rfl, ⟨8, s, c1, 5, rfl, by decide, fun _ => ?_⟩⟩
    refine vm_Th (lv' := [(0, .ref a), (1, .int (nI at9)), (2, .int (s 0)), (3, .int (s 1)), (4, .int (s 2)), (5, .int (s 3)), (6, .int (s 4)), (7, .int (s 5))]) (h' := h1) rfl rfl ?_
    refine vm_go rfl bX14_blockx_206 oX14_blockx_206 ⟨_, _, o1, rfl, ⟨8, s, c1, 6, rfl, by decide, fun _ => ?_⟩⟩
    refine vm_Th (lv' := [(0, .ref a), (1, .int (nI at9)), (2, .int (s 0)), (3, .int (s 1)), (4, .int (s 2)), (5, .int (s 3)), (6, .int (s 4)), (7, .int (s 5)), (8, .int (s 6))]) (h' := h1) rfl rfl ?_
    refine vm_go rfl bX14_blockx_215 oX14_blockx_215 ⟨_, _, o1, rfl, ⟨8, s, c1, 7, rfl, by decide, fun _ => ?_⟩⟩
    refine vm_Th (lv' := [(0, .ref a), (1, .int (nI at9)), (2, .int (s 0)), (3, .int (s 1)), (4, .int (s 2)), (5, .int (s 3)), (6, .int (s 4)), (7, .int (s 5)), (8, .int (s 6)), (9, .int (s 7))]) (h' := h1) rfl rfl ?_
    refine vm_go rfl bX14_blockx_224 oX14_blockx_224 ?_
    refine vm_Th (lv' := [(0, .ref a), (1, .int (nI at9)), (2, .int (rds2 t.2.1 W9 s 0 0)), (3, .int (rds2 t.2.1 W9 s 0 1)), (4, .int (rds2 t.2.1 W9 s 0 2)), (5, .int (rds2 t.2.1 W9 s 0 3)), (6, .int (rds2 t.2.1 W9 s 0 4)), (7, .int (rds2 t.2.1 W9 s 0 5)), (8, .int (rds2 t.2.1 W9 s 0 6)), (9, .int (rds2 t.2.1 W9 s 0 7)), (10, .int (nI 0))]) (h' := h1) rfl rfl ?_
    refine vm_for 64 (fun i => [(0, .ref a), (1, .int (nI at9)), (2, .int (rds2 t.2.1 W9 s i 0)), (3, .int (rds2 t.2.1 W9 s i 1)), (4, .int (rds2 t.2.1 W9 s i 2)), (5, .int (rds2 t.2.1 W9 s i 3)), (6, .int (rds2 t.2.1 W9 s i 4)), (7, .int (rds2 t.2.1 W9 s i 5)), (8, .int (rds2 t.2.1 W9 s i 6)), (9, .int (rds2 t.2.1 W9 s i 7)), (10, .int (nI i))]) (fun _ => h1) 0 (by decide) ?_ ?_
    rotate_left
    · intro i _ hi ih
      have er : rds2 t.2.1 W9 s (i + 1) = rd2 (t.2.1 i) (W9 i) (rds2 t.2.1 W9 s i) := rfl
      rw [er] at ih
      generalize rds2 t.2.1 W9 s i = q at *
      rw [show rd2 (t.2.1 i) (W9 i) q 0 = t12 (t.2.1 i) (W9 i) q + t22 q from rfl, show rd2 (t.2.1 i) (W9 i) q 1 = q 0 from rfl, show rd2 (t.2.1 i) (W9 i) q 2 = q 1 from rfl, show rd2 (t.2.1 i) (W9 i) q 3 = q 2 from rfl, show rd2 (t.2.1 i) (W9 i) q 4 = q 3 + t12 (t.2.1 i) (W9 i) q from rfl, show rd2 (t.2.1 i) (W9 i) q 5 = q 4 from rfl, show rd2 (t.2.1 i) (W9 i) q 6 = q 5 from rfl, show rd2 (t.2.1 i) (W9 i) q 7 = q 6 from rfl] at ih
      refine vm_go rfl bX14_blockx_227 oX14_blockx_227 ⟨fun z => absurd z (nI_ge (b := 64) hi (by decide)), fun _ => ⟨0, 0, _, rm_roll (b' := 26) (by decide), Nat.zero_le _, Nat.zero_le _, ?_⟩⟩
      rintro _ h9 ⟨rfl, e9⟩
      rw [e9]; clear e9 h9
      refine ⟨0, 0, _, rm_roll (b' := 21) (by decide), Nat.zero_le _, Nat.zero_le _, ?_⟩
      rintro _ h9 ⟨rfl, e9⟩
      rw [e9]; clear e9 h9
      refine ⟨0, 0, _, rm_roll (b' := 7) (by decide), Nat.zero_le _, Nat.zero_le _, ?_⟩
      rintro _ h9 ⟨rfl, e9⟩
      rw [e9]; clear e9 h9
      refine ⟨_, rfl, ⟨64, t.2.1, kk1, i, rfl, hi, fun _ => ⟨_, _, o1, rfl, ⟨64, _, s1, i, rfl, hi, fun _ => ?_⟩⟩⟩⟩
      rw [cutf_lo hi]
      refine vm_Th (lv' := [(0, .ref a), (1, .int (nI at9)), (2, .int (q 0)), (3, .int (q 1)), (4, .int (q 2)), (5, .int (q 3)), (6, .int (q 4)), (7, .int (q 5)), (8, .int (q 6)), (9, .int (q 7)), (10, .int (nI i)), (11, .int (t12 (t.2.1 i) (W9 i) q))]) (h' := h1) rfl rfl ?_
      refine vm_go rfl bX14_blockx_291 oX14_blockx_291 ⟨0, 0, _, rm_roll (b' := 30) (by decide), Nat.zero_le _, Nat.zero_le _, ?_⟩
      rintro _ h9 ⟨rfl, e9⟩
      rw [e9]; clear e9 h9
      refine ⟨0, 0, _, rm_roll (b' := 19) (by decide), Nat.zero_le _, Nat.zero_le _, ?_⟩
      rintro _ h9 ⟨rfl, e9⟩
      rw [e9]; clear e9 h9
      refine ⟨0, 0, _, rm_roll (b' := 10) (by decide), Nat.zero_le _, Nat.zero_le _, ?_⟩
      rintro _ h9 ⟨rfl, e9⟩
      rw [e9]; clear e9 h9
      refine vm_Th (lv' := [(0, .ref a), (1, .int (nI at9)), (2, .int (q 0)), (3, .int (q 1)), (4, .int (q 2)), (5, .int (q 3)), (6, .int (q 4)), (7, .int (q 5)), (8, .int (q 6)), (9, .int (q 7)), (10, .int (nI i)), (11, .int (t12 (t.2.1 i) (W9 i) q)), (12, .int (t22 q))]) (h' := h1) rfl rfl ?_
      refine vm_go rfl bX14_blockx_326 oX14_blockx_326 ?_
      refine vm_Th (lv' := [(0, .ref a), (1, .int (nI at9)), (2, .int (q 0)), (3, .int (q 1)), (4, .int (q 2)), (5, .int (q 3)), (6, .int (q 4)), (7, .int (q 5)), (8, .int (q 6)), (9, .int (q 6)), (10, .int (nI i)), (11, .int (t12 (t.2.1 i) (W9 i) q)), (12, .int (t22 q))]) (h' := h1) rfl rfl ?_
      refine vm_go rfl bX14_blockx_330 oX14_blockx_330 ?_
      refine vm_Th (lv' := [(0, .ref a), (1, .int (nI at9)), (2, .int (q 0)), (3, .int (q 1)), (4, .int (q 2)), (5, .int (q 3)), (6, .int (q 4)), (7, .int (q 5)), (8, .int (q 5)), (9, .int (q 6)), (10, .int (nI i)), (11, .int (t12 (t.2.1 i) (W9 i) q)), (12, .int (t22 q))]) (h' := h1) rfl rfl ?_
      refine vm_go rfl bX14_blockx_334 oX14_blockx_334 ?_
      refine vm_Th (lv' := [(0, .ref a), (1, .int (nI at9)), (2, .int (q 0)), (3, .int (q 1)), (4, .int (q 2)), (5, .int (q 3)), (6, .int (q 4)), (7, .int (q 4)), (8, .int (q 5)), (9, .int (q 6)), (10, .int (nI i)), (11, .int (t12 (t.2.1 i) (W9 i) q)), (12, .int (t22 q))]) (h' := h1) rfl rfl ?_
      refine vm_go rfl bX14_blockx_338 oX14_blockx_338 ?_
      refine vm_Th (lv' := [(0, .ref a), (1, .int (nI at9)), (2, .int (q 0)), (3, .int (q 1)), (4, .int (q 2)), (5, .int (q 3)), (6, .int (q 3 + t12 (t.2.1 i) (W9 i) q)), (7, .int (q 4)), (8, .int (q 5)), (9, .int (q 6)), (10, .int (nI i)), (11, .int (t12 (t.2.1 i) (W9 i) q)), (12, .int (t22 q))]) (h' := h1) rfl rfl ?_
      refine vm_go rfl bX14_blockx_345 oX14_blockx_345 ?_
      refine vm_Th (lv' := [(0, .ref a), (1, .int (nI at9)), (2, .int (q 0)), (3, .int (q 1)), (4, .int (q 2)), (5, .int (q 2)), (6, .int (q 3 + t12 (t.2.1 i) (W9 i) q)), (7, .int (q 4)), (8, .int (q 5)), (9, .int (q 6)), (10, .int (nI i)), (11, .int (t12 (t.2.1 i) (W9 i) q)), (12, .int (t22 q))]) (h' := h1) rfl rfl ?_
      refine vm_go rfl bX14_blockx_349 oX14_blockx_349 ?_
      refine vm_Th (lv' := [(0, .ref a), (1, .int (nI at9)), (2, .int (q 0)), (3, .int (q 1)), (4, .int (q 1)), (5, .int (q 2)), (6, .int (q 3 + t12 (t.2.1 i) (W9 i) q)), (7, .int (q 4)), (8, .int (q 5)), (9, .int (q 6)), (10, .int (nI i)), (11, .int (t12 (t.2.1 i) (W9 i) q)), (12, .int (t22 q))]) (h' := h1) rfl rfl ?_
      refine vm_go rfl bX14_blockx_352 oX14_blockx_352 ?_
      refine vm_Th (lv' := [(0, .ref a), (1, .int (nI at9)), (2, .int (q 0)), (3, .int (q 0)), (4, .int (q 1)), (5, .int (q 2)), (6, .int (q 3 + t12 (t.2.1 i) (W9 i) q)), (7, .int (q 4)), (8, .int (q 5)), (9, .int (q 6)), (10, .int (nI i)), (11, .int (t12 (t.2.1 i) (W9 i) q)), (12, .int (t22 q))]) (h' := h1) rfl rfl ?_
      refine vm_go rfl bX14_blockx_354 oX14_blockx_354 ?_
      refine vm_Th (lv' := [(0, .ref a), (1, .int (nI at9)), (2, .int (t12 (t.2.1 i) (W9 i) q + t22 q)), (3, .int (q 0)), (4, .int (q 1)), (5, .int (q 2)), (6, .int (q 3 + t12 (t.2.1 i) (W9 i) q)), (7, .int (q 4)), (8, .int (q 5)), (9, .int (q 6)), (10, .int (nI i)), (11, .int (t12 (t.2.1 i) (W9 i) q)), (12, .int (t22 q))]) (h' := h1) rfl rfl ?_
      refine vm_go rfl bX14_blockx_360 oX14_blockx_360 ?_
      refine vm_less [0, 1, 2, 3, 4, 5, 6, 7, 8, 9, 10] rfl ?_
      exact vm_Th (by rw [← nI_1]; rfl) rfl ih
    · refine vm_go rfl bX14_blockx_227 oX14_blockx_227 ⟨fun _ => ?_, fun z => absurd (nI_le (a := 64) (b := 64) (by decide) (by decide)) z⟩
      generalize eq9 : rds2 t.2.1 W9 s 64 = q
      have oo : ∀ F : Nat → Int32, (vm_up h1 (a + 30) (.inl (.int, 8, .inl F))).2 a = RO a g := fun F => (vm_upn (by omega)).trans o1
      refine vm_go rfl bX14_blockx_366 oX14_blockx_366 ⟨_, _, o1, rfl, ⟨8, _, c1, 0, rfl, by decide, fun _ => ⟨8, _, c1, lc, 0, rfl, by decide, ?_⟩⟩⟩
      refine vm_Th (lv' := [(0, .ref a), (1, .int (nI at9)), (2, .int (q 0)), (3, .int (q 1)), (4, .int (q 2)), (5, .int (q 3)), (6, .int (q 4)), (7, .int (q 5)), (8, .int (q 6)), (9, .int (q 7)), (10, .int (nI 64))]) (h' := vm_up h1 (a + 30) (.inl (.int, 8, .inl (upd s 0 (s 0 + q 0))))) rfl (by rfl) ?_
      refine vm_go rfl bX14_blockx_376 oX14_blockx_376 ⟨_, _, oo _, rfl, ⟨8, _, vm_upe, 1, rfl, by decide, fun _ => ⟨8, _, vm_upe, lc, 1, rfl, by decide, ?_⟩⟩⟩
      refine vm_Th (lv' := [(0, .ref a), (1, .int (nI at9)), (2, .int (q 0)), (3, .int (q 1)), (4, .int (q 2)), (5, .int (q 3)), (6, .int (q 4)), (7, .int (q 5)), (8, .int (q 6)), (9, .int (q 7)), (10, .int (nI 64))]) (h' := vm_up h1 (a + 30) (.inl (.int, 8, .inl (upd (upd s 0 (s 0 + q 0)) 1 (s 1 + q 1))))) rfl (by rw [vm_upup]; rfl) ?_
      refine vm_go rfl bX14_blockx_386 oX14_blockx_386 ⟨_, _, oo _, rfl, ⟨8, _, vm_upe, 2, rfl, by decide, fun _ => ⟨8, _, vm_upe, lc, 2, rfl, by decide, ?_⟩⟩⟩
      refine vm_Th (lv' := [(0, .ref a), (1, .int (nI at9)), (2, .int (q 0)), (3, .int (q 1)), (4, .int (q 2)), (5, .int (q 3)), (6, .int (q 4)), (7, .int (q 5)), (8, .int (q 6)), (9, .int (q 7)), (10, .int (nI 64))]) (h' := vm_up h1 (a + 30) (.inl (.int, 8, .inl (upd (upd (upd s 0 (s 0 + q 0)) 1 (s 1 + q 1)) 2 (s 2 + q 2))))) rfl (by rw [vm_upup]; rfl) ?_
      refine vm_go rfl bX14_blockx_397 oX14_blockx_397 ⟨_, _, oo _, rfl, ⟨8, _, vm_upe, 3, rfl, by decide, fun _ => ⟨8, _, vm_upe, lc, 3, rfl, by decide, ?_⟩⟩⟩
      refine vm_Th (lv' := [(0, .ref a), (1, .int (nI at9)), (2, .int (q 0)), (3, .int (q 1)), (4, .int (q 2)), (5, .int (q 3)), (6, .int (q 4)), (7, .int (q 5)), (8, .int (q 6)), (9, .int (q 7)), (10, .int (nI 64))]) (h' := vm_up h1 (a + 30) (.inl (.int, 8, .inl (upd (upd (upd (upd s 0 (s 0 + q 0)) 1 (s 1 + q 1)) 2 (s 2 + q 2)) 3 (s 3 + q 3))))) rfl (by rw [vm_upup]; rfl) ?_
      refine vm_go rfl bX14_blockx_408 oX14_blockx_408 ⟨_, _, oo _, rfl, ⟨8, _, vm_upe, 4, rfl, by decide, fun _ => ⟨8, _, vm_upe, lc, 4, rfl, by decide, ?_⟩⟩⟩
      refine vm_Th (lv' := [(0, .ref a), (1, .int (nI at9)), (2, .int (q 0)), (3, .int (q 1)), (4, .int (q 2)), (5, .int (q 3)), (6, .int (q 4)), (7, .int (q 5)), (8, .int (q 6)), (9, .int (q 7)), (10, .int (nI 64))]) (h' := vm_up h1 (a + 30) (.inl (.int, 8, .inl (upd (upd (upd (upd (upd s 0 (s 0 + q 0)) 1 (s 1 + q 1)) 2 (s 2 + q 2)) 3 (s 3 + q 3)) 4 (s 4 + q 4))))) rfl (by rw [vm_upup]; rfl) ?_
      refine vm_go rfl bX14_blockx_419 oX14_blockx_419 ⟨_, _, oo _, rfl, ⟨8, _, vm_upe, 5, rfl, by decide, fun _ => ⟨8, _, vm_upe, lc, 5, rfl, by decide, ?_⟩⟩⟩
      refine vm_Th (lv' := [(0, .ref a), (1, .int (nI at9)), (2, .int (q 0)), (3, .int (q 1)), (4, .int (q 2)), (5, .int (q 3)), (6, .int (q 4)), (7, .int (q 5)), (8, .int (q 6)), (9, .int (q 7)), (10, .int (nI 64))]) (h' := vm_up h1 (a + 30) (.inl (.int, 8, .inl (upd (upd (upd (upd (upd (upd s 0 (s 0 + q 0)) 1 (s 1 + q 1)) 2 (s 2 + q 2)) 3 (s 3 + q 3)) 4 (s 4 + q 4)) 5 (s 5 + q 5))))) rfl (by rw [vm_upup]; rfl) ?_
      refine vm_go rfl bX14_blockx_430 oX14_blockx_430 ⟨_, _, oo _, rfl, ⟨8, _, vm_upe, 6, rfl, by decide, fun _ => ⟨8, _, vm_upe, lc, 6, rfl, by decide, ?_⟩⟩⟩
      refine vm_Th (lv' := [(0, .ref a), (1, .int (nI at9)), (2, .int (q 0)), (3, .int (q 1)), (4, .int (q 2)), (5, .int (q 3)), (6, .int (q 4)), (7, .int (q 5)), (8, .int (q 6)), (9, .int (q 7)), (10, .int (nI 64))]) (h' := vm_up h1 (a + 30) (.inl (.int, 8, .inl (upd (upd (upd (upd (upd (upd (upd s 0 (s 0 + q 0)) 1 (s 1 + q 1)) 2 (s 2 + q 2)) 3 (s 3 + q 3)) 4 (s 4 + q 4)) 5 (s 5 + q 5)) 6 (s 6 + q 6))))) rfl (by rw [vm_upup]; rfl) ?_
      refine vm_go rfl bX14_blockx_442 oX14_blockx_442 ⟨_, _, oo _, rfl, ⟨8, _, vm_upe, 7, rfl, by decide, fun _ => ⟨8, _, vm_upe, lc, 7, rfl, by decide, ?_⟩⟩⟩
      refine vm_Th (lv' := [(0, .ref a), (1, .int (nI at9)), (2, .int (q 0)), (3, .int (q 1)), (4, .int (q 2)), (5, .int (q 3)), (6, .int (q 4)), (7, .int (q 5)), (8, .int (q 6)), (9, .int (q 7)), (10, .int (nI 64))]) (h' := vm_up h1 (a + 30) (.inl (.int, 8, .inl (upd (upd (upd (upd (upd (upd (upd (upd s 0 (s 0 + q 0)) 1 (s 1 + q 1)) 2 (s 2 + q 2)) 3 (s 3 + q 3)) 4 (s 4 + q 4)) 5 (s 5 + q 5)) 6 (s 6 + q 6)) 7 (s 7 + q 7))))) rfl (by rw [vm_upup]; rfl) ?_
      obtain ⟨h2, eh2⟩ : ∃ h2, h2 = vm_up h1 (a + 30) (.inl (.int, 8, .inl (upd (upd (upd (upd (upd (upd (upd (upd s 0 (s 0 + q 0)) 1 (s 1 + q 1)) 2 (s 2 + q 2)) 3 (s 3 + q 3)) 4 (s 4 + q 4)) 5 (s 5 + q 5)) 6 (s 6 + q 6)) 7 (s 7 + q 7)))) := ⟨_, rfl⟩
      rw [← eh2]
      have F2 : fr h1 h2 (fun q => q = (a + 30)) := eh2 ▸ fr_up rfl
      have FF : fr h h2 (fun q => q = (a + 30) ∨ q = (a + 31)) := fr_trans (fr_mono F1 (fun q z => .inr z)) (fr_mono F2 (fun q z => .inl z))
      have c2 : h2.2 (a + 30) = (.inl (.int, 8, .inl (upd (upd (upd (upd (upd (upd (upd (upd s 0 (s 0 + q 0)) 1 (s 1 + q 1)) 2 (s 2 + q 2)) 3 (s 3 + q 3)) 4 (s 4 + q 4)) 5 (s 5 + q 5)) 6 (s 6 + q 6)) 7 (s 7 + q 7)))) := by rw [eh2]; exact vm_upe
      have s2 : h2.2 (a + 31) = (.inl (.int, 64, .inl (cutf W9 w 64))) := (F2.2 _ (by omega)).trans s1
      refine vm_go rfl bX14_blockx_454 oX14_blockx_454 ⟨rfl, RK_of k FF ((F2.2 a (by omega)).trans o1) (fun q z => ?_), ⟨_, c2, fun j hj => ?_⟩, FF⟩
      · rcases z with rfl | rfl
        · exact .inr (GD_i (i := 30) (by unfold ZI; omega) ⟨_, c2⟩)
        · exact .inr (GD_i (i := 31) (by unfold ZI; omega) ⟨_, s2⟩)
      · rcases j with _ | _ | _ | _ | _ | _ | _ | _ | j
        · rfl
        · rfl
        · rfl
        · rfl
        · rfl
        · rfl
        · rfl
        · rfl
        · omega
theorem rm_wblock {at9 : Nat} {s : Nat → Int64} {c : Nat → Nat} (k : RK h a t g) (hc : h.2 (a + 32) = (.inl (.long, 8, .inr (.inl s)))) (hb : bv h 2600 (a + 28) c) (hat : at9 + 128 ≤ 2600) : vm_Met (vm_env l O f9) mX14_wideBlock 0 0 [.ref a, .int (nI at9)] h (fun r h' => r = none ∧ RK h' a t g ∧ (∃ s' : Nat → Int64, h'.2 (a + 32) = (.inl (.long, 8, .inr (.inl s'))) ∧ ∀ j, j < 8 → s' j = s j + rds3 t.2.2.2 (wt3 (m3 (fun j => c (at9 + j)))) s 80 j) ∧ fr h h' (fun q => q = (a + 32) ∨ q = (a + 33))) := by
  have ao := k.2.1
  have lc : (a + 32) < 1099511627776 := by omega
  have ls : (a + 33) < 1099511627776 := by omega
  obtain ⟨fb, eb, vb⟩ := hb
  obtain ⟨w, ew⟩ := k.2.2.2.2.2.2.1.2
  have r0 : ∀ F : Nat → Int64, (vm_up h (a + 33) (.inl (.long, 80, .inr (.inl F)))).2 a = RO a g := fun F => (vm_upn (by omega)).trans k.1
  have b0 : ∀ F : Nat → Int64, (vm_up h (a + 33) (.inl (.long, 80, .inr (.inl F)))).2 (a + 28) = _ := fun F => (vm_upn (by omega)).trans eb
  refine vm_met rfl (Nat.le_of_ble_eq_true rfl) ?_
  refine vm_go rfl bX14_wideBlockx_0 oX14_wideBlockx_0 ?_
  refine vm_Th (lv' := [(0, .ref a), (1, .int (nI at9)), (2, .int (nI 0))]) (h' := vm_up h (a + 33) (.inl (.long, 80, .inr (.inl (cutf (wt3 (m3 (fun j => c (at9 + j)))) w 0))))) rfl (by rw [cutf_0, vm_ups ew]) ?_
  refine vm_for 80 (fun i => [(0, .ref a), (1, .int (nI at9)), (2, .int (nI i))]) (fun i => vm_up h (a + 33) (.inl (.long, 80, .inr (.inl (cutf (wt3 (m3 (fun j => c (at9 + j)))) w i))))) 0 (by decide) ?_ ?_
  rotate_left
  · intro i _ hi ih
    have tail : vm_T (vm_env l O f9) mX14_wideBlock 0 0 157 [(0, .ref a), (1, .int (nI at9)), (2, .int (nI i))] [] (vm_up h (a + 33) (.inl (.long, 80, .inr (.inl (cutf (wt3 (m3 (fun j => c (at9 + j)))) w (i + 1)))))) _ := vm_go rfl bX14_wideBlockx_157 oX14_wideBlockx_157 (vm_Th (by rw [← nI_1]; rfl) rfl ih)
    rcases Nat.lt_or_ge i 16 with h16 | h16
    · refine vm_go rfl bX14_wideBlockx_2 oX14_wideBlockx_2 ⟨fun q => absurd q (nI_ge (b := 80) hi (by decide)), fun _ => ⟨fun q => absurd q (nI_ge (b := 16) h16 (by decide)), fun _ => ⟨_, _, r0 _, rfl, ⟨80, _, vm_upe, ls, i, rfl, hi, ?_⟩⟩⟩⟩
      refine vm_Th (lv' := [(0, .ref a), (1, .int (nI at9)), (2, .int (nI i))]) (h' := vm_up h (a + 33) (.inl (.long, 80, .inr (.inl (vp_updL (cutf (wt3 (m3 (fun j => c (at9 + j)))) w i) i (bw3 (fun j => c (at9 + j)) (8 * i) 0)))))) rfl (by rw [vm_upup]; rfl) ?_
      refine vm_go rfl bX14_wideBlockx_21 oX14_wideBlockx_21 ?_
      refine vm_Th (lv' := [(0, .ref a), (1, .int (nI at9)), (2, .int (nI i)), (3, .int (nI 0))]) (h' := vm_up h (a + 33) (.inl (.long, 80, .inr (.inl (vp_updL (cutf (wt3 (m3 (fun j => c (at9 + j)))) w i) i (bw3 (fun j => c (at9 + j)) (8 * i) 0)))))) rfl rfl ?_
      refine vm_for 8 (fun q => [(0, .ref a), (1, .int (nI at9)), (2, .int (nI i)), (3, .int (nI q))]) (fun q => vm_up h (a + 33) (.inl (.long, 80, .inr (.inl (vp_updL (cutf (wt3 (m3 (fun j => c (at9 + j)))) w i) i (bw3 (fun j => c (at9 + j)) (8 * i) q)))))) 0 (by decide) ?_ ?_
      · refine vm_go rfl bX14_wideBlockx_23 oX14_wideBlockx_23 ⟨fun _ => ?_, fun q => absurd (nI_le (a := 8) (b := 8) (by decide) (by decide)) q⟩
        refine vm_go rfl bX14_wideBlockx_69 oX14_wideBlockx_69 ?_
        refine vm_less [0, 1, 2] rfl ?_
        refine vm_Th (lv' := [(0, .ref a), (1, .int (nI at9)), (2, .int (nI i))]) (h' := vm_up h (a + 33) (.inl (.long, 80, .inr (.inl (cutf (wt3 (m3 (fun j => c (at9 + j)))) w (i + 1)))))) rfl ?_ tail
        rw [cutf_sL (g := wt3 (m3 (fun j => c (at9 + j)))) (i := i)]
        rw [wt3_lo h16]; rfl
      · intro q _ hq ih2
        have vs := vb (at9 + 8 * i + q) (by omega)
        have ea : nI at9 + 8 * nI i + nI q = nI (at9 + 8 * i + q) := by
          rw [show (8 : Int32) * nI i = nI (8 * i) from nI_mul 8 i, nI_add, nI_add]
        have ez : vp_updL (cutf (wt3 (m3 (fun j => c (at9 + j)))) w i) i (bw3 (fun j => c (at9 + j)) (8 * i) q) i = (bw3 (fun j => c (at9 + j)) (8 * i) q) := if_pos rfl
        refine vm_go rfl bX14_wideBlockx_23 oX14_wideBlockx_23 ⟨fun q => absurd q (nI_ge (b := 8) hq (by decide)), fun _ => ⟨_, _, r0 _, rfl, ⟨_, _, r0 _, rfl, ⟨80, _, vm_upe, i, rfl, hi, ⟨_, _, r0 _, rfl, ⟨2600, fb, b0 _, _, ea, by omega, fun _ => ⟨80, _, vm_upe, ls, i, rfl, hi, ?_⟩⟩⟩⟩⟩⟩⟩
        refine vm_Th (lv' := [(0, .ref a), (1, .int (nI at9)), (2, .int (nI i)), (3, .int (nI q))]) (h' := vm_up h (a + 33) (.inl (.long, 80, .inr (.inl (vp_updL (cutf (wt3 (m3 (fun j => c (at9 + j)))) w i) i (bw3 (fun j => c (at9 + j)) (8 * i) (q + 1))))))) rfl ?_ (vm_go rfl bX14_wideBlockx_63 oX14_wideBlockx_63 (vm_Th (by rw [← nI_1]; rfl) rfl ih2))
        rw [vm_upup, ez, vs.1, sb_and _ vs.2]
        have e9 : (bw3 (fun j => c (at9 + j)) (8 * i) (q + 1)) = bw3 (fun j => c (at9 + j)) (8 * i) q <<< ((8 : Int32).toInt64 &&& 63) ||| (nI (c (at9 + 8 * i + q))).toInt64 := by
          show _ ||| (nI (c (at9 + (8 * i + q)))).toInt64 = _
          rw [← Nat.add_assoc]
        rw [e9]
        rw [vp_updL_2]
    · have e15 : nI i - 15 = nI (i - 15) := nI_sub (b := 15) (by omega)
      have e2 : nI i - 2 = nI (i - 2) := nI_sub (b := 2) (by omega)
      have e16 : nI i - 16 = nI (i - 16) := nI_sub (b := 16) (by omega)
      have e7 : nI i - 7 = nI (i - 7) := nI_sub (b := 7) (by omega)
      refine vm_go rfl bX14_wideBlockx_2 oX14_wideBlockx_2 ⟨fun q => absurd q (nI_ge (b := 80) hi (by decide)), fun _ => ⟨fun _ => ?_, fun q => absurd (nI_le (a := 16) h16 (by omega)) q⟩⟩
      refine vm_go rfl bX14_wideBlockx_72 oX14_wideBlockx_72 ⟨_, _, r0 _, rfl, ⟨80, _, vm_upe, i - 15, e15, by omega, ?_⟩⟩
      rw [cutf_lo (show i - 15 < i by omega)]
      refine vm_Th (lv' := [(0, .ref a), (1, .int (nI at9)), (2, .int (nI i)), (3, .long (wt3 (m3 (fun j => c (at9 + j))) (i - 15)))]) (h' := vm_up h (a + 33) (.inl (.long, 80, .inr (.inl (cutf (wt3 (m3 (fun j => c (at9 + j)))) w i))))) rfl rfl ?_
      refine vm_go rfl bX14_wideBlockx_82 oX14_wideBlockx_82 ⟨_, _, r0 _, rfl, ⟨80, _, vm_upe, i - 2, e2, by omega, ?_⟩⟩
      rw [cutf_lo (show i - 2 < i by omega)]
      refine vm_Th (lv' := [(0, .ref a), (1, .int (nI at9)), (2, .int (nI i)), (3, .long (wt3 (m3 (fun j => c (at9 + j))) (i - 15))), (5, .long (wt3 (m3 (fun j => c (at9 + j))) (i - 2)))]) (h' := vm_up h (a + 33) (.inl (.long, 80, .inr (.inl (cutf (wt3 (m3 (fun j => c (at9 + j)))) w i))))) rfl rfl ?_
      refine vm_go rfl bX14_wideBlockx_92 oX14_wideBlockx_92 ⟨_, _, r0 _, rfl, ⟨_, _, r0 _, rfl, ⟨80, _, vm_upe, i - 16, e16, by omega, ⟨_, _, r0 _, rfl, ⟨80, _, vm_upe, i - 7, e7, by omega, ⟨0, 0, _, rm_rollL (b' := 63) (by decide), Nat.zero_le _, Nat.zero_le _, ?_⟩⟩⟩⟩⟩⟩
      rintro _ _ ⟨rfl, rfl⟩
      refine ⟨0, 0, _, rm_rollL (b' := 56) (by decide), Nat.zero_le _, Nat.zero_le _, ?_⟩
      rintro _ _ ⟨rfl, rfl⟩
      refine ⟨0, 0, _, rm_rollL (b' := 45) (by decide), Nat.zero_le _, Nat.zero_le _, ?_⟩
      rintro _ _ ⟨rfl, rfl⟩
      refine ⟨0, 0, _, rm_rollL (b' := 3) (by decide), Nat.zero_le _, Nat.zero_le _, ?_⟩
      rintro _ _ ⟨rfl, rfl⟩
      refine ⟨80, _, vm_upe, ls, i, rfl, hi, ?_⟩
      rw [cutf_lo (show i - 16 < i by omega), cutf_lo (show i - 7 < i by omega)]
      refine vm_less [0, 1, 2] rfl ?_
      refine vm_Th (lv' := [(0, .ref a), (1, .int (nI at9)), (2, .int (nI i))]) (h' := vm_up h (a + 33) (.inl (.long, 80, .inr (.inl (cutf (wt3 (m3 (fun j => c (at9 + j)))) w (i + 1)))))) rfl ?_ tail
      rw [vm_upup]
      have E := (wt3_hi (m := m3 (fun j => c (at9 + j))) h16).symm
      rw [← cutf_sL (g := wt3 (m3 (fun j => c (at9 + j)))) (i := i) E]; rfl
  · obtain ⟨W9, eW9⟩ : ∃ W9, wt3 (m3 (fun j => c (at9 + j))) = W9 := ⟨_, rfl⟩
    rw [eW9]
    obtain ⟨h1, eh1⟩ : ∃ h1, h1 = vm_up h (a + 33) (.inl (.long, 80, .inr (.inl (cutf W9 w 80)))) := ⟨_, rfl⟩
    have F1 : fr h h1 (fun q => q = (a + 33)) := eh1 ▸ fr_up rfl
    have s1 : h1.2 (a + 33) = (.inl (.long, 80, .inr (.inl (cutf W9 w 80)))) := by rw [eh1]; exact vm_upe
    have o1 : h1.2 a = RO a g := (F1.2 a (by omega)).trans k.1
    have c1 : h1.2 (a + 32) = (.inl (.long, 8, .inr (.inl s))) := (F1.2 _ (by omega)).trans hc
    have kk1 := (F1.2 _ (by omega)).trans k.2.2.1.2.2.2.2.2
    rw [← eh1]
    refine vm_go rfl bX14_wideBlockx_2 oX14_wideBlockx_2 ⟨fun _ => ?_, fun q => absurd (nI_le (a := 80) (b := 80) (by decide) (by decide)) q⟩
    refine vm_go rfl bX14_wideBlockx_163 oX14_wideBlockx_163 ⟨_, _, o1, rfl, ⟨8, s, c1, 0, rfl, by decide, ?_⟩⟩
    refine vm_Th (lv' := [(0, .ref a), (1, .int (nI at9)), (2, .long (s 0))]) (h' := h1) rfl rfl ?_
    refine vm_go rfl bX14_wideBlockx_170 oX14_wideBlockx_170 ⟨_, _, o1, rfl, ⟨8, s, c1, 1, rfl, by decide, ?_⟩⟩
    refine vm_Th (lv' := [(0, .ref a), (1, .int (nI at9)), (2, .long (s 0)), (4, .long (s 1))]) (h' := h1) rfl rfl ?_
    refine vm_go rfl bX14_wideBlockx_178 oX14_wideBlockx_178 ⟨_, _, o1, rfl, ⟨8, s, c1, 2, rfl, by decide, ?_⟩⟩
    refine vm_Th (lv' := [(0, .ref a), (1, .int (nI at9)), (2, .long (s 0)), (4, .long (s 1)), (6, .long (s 2))]) (h' := h1) rfl rfl ?_
    refine vm_go rfl bX14_wideBlockx_186 oX14_wideBlockx_186 ⟨_, _, o1, rfl, ⟨8, s, c1, 3, rfl, by decide, ?_⟩⟩
    refine vm_Th (lv' := [(0, .ref a), (1, .int (nI at9)), (2, .long (s 0)), (4, .long (s 1)), (6, .long (s 2)), (8, .long (s 3))]) (h' := h1) rfl rfl ?_
    refine vm_go rfl bX14_wideBlockx_194 oX14_wideBlockx_194 ⟨_, _, o1, rfl, ⟨8, s, c1, 4, rfl, by decide, ?_⟩⟩
    refine vm_Th (lv' := [(0, .ref a), (1, .int (nI at9)), (2, .long (s 0)), (4, .long (s 1)), (6, .long (s 2)), (8, .long (s 3)), (10, .long (s 4))]) (h' := h1) rfl rfl ?_
    refine vm_go rfl bX14_wideBlockx_202 oX14_wideBlockx_202 ⟨_, _, o1, rfl, ⟨8, s, c1, 5, rfl, by decide, ?_⟩⟩
    refine vm_Th (lv' := [(0, .ref a), (1, .int (nI at9)), (2, .long (s 0)), (4, .long (s 1)), (6, .long (s 2)), (8, .long (s 3)), (10, .long (s 4)), (12, .long (s 5))]) (h' := h1) rfl rfl ?_
    refine vm_go rfl bX14_wideBlockx_210 oX14_wideBlockx_210 ⟨_, _, o1, rfl, ⟨8, s, c1, 6, rfl, by decide, ?_⟩⟩
    refine vm_Th (lv' := [(0, .ref a), (1, .int (nI at9)), (2, .long (s 0)), (4, .long (s 1)), (6, .long (s 2)), (8, .long (s 3)), (10, .long (s 4)), (12, .long (s 5)), (14, .long (s 6))]) (h' := h1) rfl rfl ?_
    refine vm_go rfl bX14_wideBlockx_219 oX14_wideBlockx_219 ⟨_, _, o1, rfl, ⟨8, s, c1, 7, rfl, by decide, ?_⟩⟩
    refine vm_Th (lv' := [(0, .ref a), (1, .int (nI at9)), (2, .long (s 0)), (4, .long (s 1)), (6, .long (s 2)), (8, .long (s 3)), (10, .long (s 4)), (12, .long (s 5)), (14, .long (s 6)), (16, .long (s 7))]) (h' := h1) rfl rfl ?_
    refine vm_go rfl bX14_wideBlockx_228 oX14_wideBlockx_228 ?_
    refine vm_Th (lv' := [(0, .ref a), (1, .int (nI at9)), (2, .long (rds3 t.2.2.2 W9 s 0 0)), (4, .long (rds3 t.2.2.2 W9 s 0 1)), (6, .long (rds3 t.2.2.2 W9 s 0 2)), (8, .long (rds3 t.2.2.2 W9 s 0 3)), (10, .long (rds3 t.2.2.2 W9 s 0 4)), (12, .long (rds3 t.2.2.2 W9 s 0 5)), (14, .long (rds3 t.2.2.2 W9 s 0 6)), (16, .long (rds3 t.2.2.2 W9 s 0 7)), (18, .int (nI 0))]) (h' := h1) rfl rfl ?_
    refine vm_for 80 (fun i => [(0, .ref a), (1, .int (nI at9)), (2, .long (rds3 t.2.2.2 W9 s i 0)), (4, .long (rds3 t.2.2.2 W9 s i 1)), (6, .long (rds3 t.2.2.2 W9 s i 2)), (8, .long (rds3 t.2.2.2 W9 s i 3)), (10, .long (rds3 t.2.2.2 W9 s i 4)), (12, .long (rds3 t.2.2.2 W9 s i 5)), (14, .long (rds3 t.2.2.2 W9 s i 6)), (16, .long (rds3 t.2.2.2 W9 s i 7)), (18, .int (nI i))]) (fun _ => h1) 0 (by decide) ?_ ?_
    rotate_left
    · intro i _ hi ih
      have er : rds3 t.2.2.2 W9 s (i + 1) = rd3 (t.2.2.2 i) (W9 i) (rds3 t.2.2.2 W9 s i) := rfl
      rw [er] at ih
      generalize rds3 t.2.2.2 W9 s i = q at *
      rw [show rd3 (t.2.2.2 i) (W9 i) q 0 = t13 (t.2.2.2 i) (W9 i) q + t23 q from rfl, show rd3 (t.2.2.2 i) (W9 i) q 1 = q 0 from rfl, show rd3 (t.2.2.2 i) (W9 i) q 2 = q 1 from rfl, show rd3 (t.2.2.2 i) (W9 i) q 3 = q 2 from rfl, show rd3 (t.2.2.2 i) (W9 i) q 4 = q 3 + t13 (t.2.2.2 i) (W9 i) q from rfl, show rd3 (t.2.2.2 i) (W9 i) q 5 = q 4 from rfl, show rd3 (t.2.2.2 i) (W9 i) q 6 = q 5 from rfl, show rd3 (t.2.2.2 i) (W9 i) q 7 = q 6 from rfl] at ih
      refine vm_go rfl bX14_wideBlockx_231 oX14_wideBlockx_231 ⟨fun z => absurd z (nI_ge (b := 80) hi (by decide)), fun _ => ⟨0, 0, _, rm_rollL (b' := 50) (by decide), Nat.zero_le _, Nat.zero_le _, ?_⟩⟩
      rintro _ h9 ⟨rfl, e9⟩
      rw [e9]; clear e9 h9
      refine ⟨0, 0, _, rm_rollL (b' := 46) (by decide), Nat.zero_le _, Nat.zero_le _, ?_⟩
      rintro _ h9 ⟨rfl, e9⟩
      rw [e9]; clear e9 h9
      refine ⟨0, 0, _, rm_rollL (b' := 23) (by decide), Nat.zero_le _, Nat.zero_le _, ?_⟩
      rintro _ h9 ⟨rfl, e9⟩
      rw [e9]; clear e9 h9
      refine ⟨_, rfl, ⟨80, t.2.2.2, kk1, i, rfl, hi, ⟨_, _, o1, rfl, ⟨80, _, s1, i, rfl, hi, ?_⟩⟩⟩⟩
      rw [cutf_lo hi]
      refine vm_Th (lv' := [(0, .ref a), (1, .int (nI at9)), (2, .long (q 0)), (4, .long (q 1)), (6, .long (q 2)), (8, .long (q 3)), (10, .long (q 4)), (12, .long (q 5)), (14, .long (q 6)), (16, .long (q 7)), (18, .int (nI i)), (19, .long (t13 (t.2.2.2 i) (W9 i) q))]) (h' := h1) rfl rfl ?_
      refine vm_go rfl bX14_wideBlockx_297 oX14_wideBlockx_297 ⟨0, 0, _, rm_rollL (b' := 36) (by decide), Nat.zero_le _, Nat.zero_le _, ?_⟩
      rintro _ h9 ⟨rfl, e9⟩
      rw [e9]; clear e9 h9
      refine ⟨0, 0, _, rm_rollL (b' := 30) (by decide), Nat.zero_le _, Nat.zero_le _, ?_⟩
      rintro _ h9 ⟨rfl, e9⟩
      rw [e9]; clear e9 h9
      refine ⟨0, 0, _, rm_rollL (b' := 25) (by decide), Nat.zero_le _, Nat.zero_le _, ?_⟩
      rintro _ h9 ⟨rfl, e9⟩
      rw [e9]; clear e9 h9
      refine vm_Th (lv' := [(0, .ref a), (1, .int (nI at9)), (2, .long (q 0)), (4, .long (q 1)), (6, .long (q 2)), (8, .long (q 3)), (10, .long (q 4)), (12, .long (q 5)), (14, .long (q 6)), (16, .long (q 7)), (18, .int (nI i)), (19, .long (t13 (t.2.2.2 i) (W9 i) q)), (21, .long (t23 q))]) (h' := h1) rfl rfl ?_
      refine vm_go rfl bX14_wideBlockx_335 oX14_wideBlockx_335 ?_
      refine vm_Th (lv' := [(0, .ref a), (1, .int (nI at9)), (2, .long (q 0)), (4, .long (q 1)), (6, .long (q 2)), (8, .long (q 3)), (10, .long (q 4)), (12, .long (q 5)), (14, .long (q 6)), (16, .long (q 6)), (18, .int (nI i)), (19, .long (t13 (t.2.2.2 i) (W9 i) q)), (21, .long (t23 q))]) (h' := h1) rfl rfl ?_
      refine vm_go rfl bX14_wideBlockx_339 oX14_wideBlockx_339 ?_
      refine vm_Th (lv' := [(0, .ref a), (1, .int (nI at9)), (2, .long (q 0)), (4, .long (q 1)), (6, .long (q 2)), (8, .long (q 3)), (10, .long (q 4)), (12, .long (q 5)), (14, .long (q 5)), (16, .long (q 6)), (18, .int (nI i)), (19, .long (t13 (t.2.2.2 i) (W9 i) q)), (21, .long (t23 q))]) (h' := h1) rfl rfl ?_
      refine vm_go rfl bX14_wideBlockx_343 oX14_wideBlockx_343 ?_
      refine vm_Th (lv' := [(0, .ref a), (1, .int (nI at9)), (2, .long (q 0)), (4, .long (q 1)), (6, .long (q 2)), (8, .long (q 3)), (10, .long (q 4)), (12, .long (q 4)), (14, .long (q 5)), (16, .long (q 6)), (18, .int (nI i)), (19, .long (t13 (t.2.2.2 i) (W9 i) q)), (21, .long (t23 q))]) (h' := h1) rfl rfl ?_
      refine vm_go rfl bX14_wideBlockx_347 oX14_wideBlockx_347 ?_
      refine vm_Th (lv' := [(0, .ref a), (1, .int (nI at9)), (2, .long (q 0)), (4, .long (q 1)), (6, .long (q 2)), (8, .long (q 3)), (10, .long (q 3 + t13 (t.2.2.2 i) (W9 i) q)), (12, .long (q 4)), (14, .long (q 5)), (16, .long (q 6)), (18, .int (nI i)), (19, .long (t13 (t.2.2.2 i) (W9 i) q)), (21, .long (t23 q))]) (h' := h1) rfl rfl ?_
      refine vm_go rfl bX14_wideBlockx_354 oX14_wideBlockx_354 ?_
      refine vm_Th (lv' := [(0, .ref a), (1, .int (nI at9)), (2, .long (q 0)), (4, .long (q 1)), (6, .long (q 2)), (8, .long (q 2)), (10, .long (q 3 + t13 (t.2.2.2 i) (W9 i) q)), (12, .long (q 4)), (14, .long (q 5)), (16, .long (q 6)), (18, .int (nI i)), (19, .long (t13 (t.2.2.2 i) (W9 i) q)), (21, .long (t23 q))]) (h' := h1) rfl rfl ?_
      refine vm_go rfl bX14_wideBlockx_358 oX14_wideBlockx_358 ?_
      refine vm_Th (lv' := [(0, .ref a), (1, .int (nI at9)), (2, .long (q 0)), (4, .long (q 1)), (6, .long (q 1)), (8, .long (q 2)), (10, .long (q 3 + t13 (t.2.2.2 i) (W9 i) q)), (12, .long (q 4)), (14, .long (q 5)), (16, .long (q 6)), (18, .int (nI i)), (19, .long (t13 (t.2.2.2 i) (W9 i) q)), (21, .long (t23 q))]) (h' := h1) rfl rfl ?_
      refine vm_go rfl bX14_wideBlockx_362 oX14_wideBlockx_362 ?_
      refine vm_Th (lv' := [(0, .ref a), (1, .int (nI at9)), (2, .long (q 0)), (4, .long (q 0)), (6, .long (q 1)), (8, .long (q 2)), (10, .long (q 3 + t13 (t.2.2.2 i) (W9 i) q)), (12, .long (q 4)), (14, .long (q 5)), (16, .long (q 6)), (18, .int (nI i)), (19, .long (t13 (t.2.2.2 i) (W9 i) q)), (21, .long (t23 q))]) (h' := h1) rfl rfl ?_
      refine vm_go rfl bX14_wideBlockx_365 oX14_wideBlockx_365 ?_
      refine vm_Th (lv' := [(0, .ref a), (1, .int (nI at9)), (2, .long (t13 (t.2.2.2 i) (W9 i) q + t23 q)), (4, .long (q 0)), (6, .long (q 1)), (8, .long (q 2)), (10, .long (q 3 + t13 (t.2.2.2 i) (W9 i) q)), (12, .long (q 4)), (14, .long (q 5)), (16, .long (q 6)), (18, .int (nI i)), (19, .long (t13 (t.2.2.2 i) (W9 i) q)), (21, .long (t23 q))]) (h' := h1) rfl rfl ?_
      refine vm_go rfl bX14_wideBlockx_371 oX14_wideBlockx_371 ?_
      refine vm_less [0, 1, 2, 3, 4, 5, 6, 7, 8, 9, 10] rfl ?_
      exact vm_Th (by rw [← nI_1]; rfl) rfl ih
    · refine vm_go rfl bX14_wideBlockx_231 oX14_wideBlockx_231 ⟨fun _ => ?_, fun z => absurd (nI_le (a := 80) (b := 80) (by decide) (by decide)) z⟩
      generalize eq9 : rds3 t.2.2.2 W9 s 80 = q
      have oo : ∀ F : Nat → Int64, (vm_up h1 (a + 32) (.inl (.long, 8, .inr (.inl F)))).2 a = RO a g := fun F => (vm_upn (by omega)).trans o1
      refine vm_go rfl bX14_wideBlockx_377 oX14_wideBlockx_377 ⟨_, _, o1, rfl, ⟨8, _, c1, 0, rfl, by decide, ⟨8, _, c1, lc, 0, rfl, by decide, ?_⟩⟩⟩
      refine vm_Th (lv' := [(0, .ref a), (1, .int (nI at9)), (2, .long (q 0)), (4, .long (q 1)), (6, .long (q 2)), (8, .long (q 3)), (10, .long (q 4)), (12, .long (q 5)), (14, .long (q 6)), (16, .long (q 7)), (18, .int (nI 80))]) (h' := vm_up h1 (a + 32) (.inl (.long, 8, .inr (.inl (vp_updL s 0 (s 0 + q 0)))))) rfl (by rfl) ?_
      refine vm_go rfl bX14_wideBlockx_387 oX14_wideBlockx_387 ⟨_, _, oo _, rfl, ⟨8, _, vm_upe, 1, rfl, by decide, ⟨8, _, vm_upe, lc, 1, rfl, by decide, ?_⟩⟩⟩
      refine vm_Th (lv' := [(0, .ref a), (1, .int (nI at9)), (2, .long (q 0)), (4, .long (q 1)), (6, .long (q 2)), (8, .long (q 3)), (10, .long (q 4)), (12, .long (q 5)), (14, .long (q 6)), (16, .long (q 7)), (18, .int (nI 80))]) (h' := vm_up h1 (a + 32) (.inl (.long, 8, .inr (.inl (vp_updL (vp_updL s 0 (s 0 + q 0)) 1 (s 1 + q 1)))))) rfl (by rw [vm_upup]; rfl) ?_
      refine vm_go rfl bX14_wideBlockx_398 oX14_wideBlockx_398 ⟨_, _, oo _, rfl, ⟨8, _, vm_upe, 2, rfl, by decide, ⟨8, _, vm_upe, lc, 2, rfl, by decide, ?_⟩⟩⟩
      refine vm_Th (lv' := [(0, .ref a), (1, .int (nI at9)), (2, .long (q 0)), (4, .long (q 1)), (6, .long (q 2)), (8, .long (q 3)), (10, .long (q 4)), (12, .long (q 5)), (14, .long (q 6)), (16, .long (q 7)), (18, .int (nI 80))]) (h' := vm_up h1 (a + 32) (.inl (.long, 8, .inr (.inl (vp_updL (vp_updL (vp_updL s 0 (s 0 + q 0)) 1 (s 1 + q 1)) 2 (s 2 + q 2)))))) rfl (by rw [vm_upup]; rfl) ?_
      refine vm_go rfl bX14_wideBlockx_409 oX14_wideBlockx_409 ⟨_, _, oo _, rfl, ⟨8, _, vm_upe, 3, rfl, by decide, ⟨8, _, vm_upe, lc, 3, rfl, by decide, ?_⟩⟩⟩
      refine vm_Th (lv' := [(0, .ref a), (1, .int (nI at9)), (2, .long (q 0)), (4, .long (q 1)), (6, .long (q 2)), (8, .long (q 3)), (10, .long (q 4)), (12, .long (q 5)), (14, .long (q 6)), (16, .long (q 7)), (18, .int (nI 80))]) (h' := vm_up h1 (a + 32) (.inl (.long, 8, .inr (.inl (vp_updL (vp_updL (vp_updL (vp_updL s 0 (s 0 + q 0)) 1 (s 1 + q 1)) 2 (s 2 + q 2)) 3 (s 3 + q 3)))))) rfl (by rw [vm_upup]; rfl) ?_
      refine vm_go rfl bX14_wideBlockx_420 oX14_wideBlockx_420 ⟨_, _, oo _, rfl, ⟨8, _, vm_upe, 4, rfl, by decide, ⟨8, _, vm_upe, lc, 4, rfl, by decide, ?_⟩⟩⟩
      refine vm_Th (lv' := [(0, .ref a), (1, .int (nI at9)), (2, .long (q 0)), (4, .long (q 1)), (6, .long (q 2)), (8, .long (q 3)), (10, .long (q 4)), (12, .long (q 5)), (14, .long (q 6)), (16, .long (q 7)), (18, .int (nI 80))]) (h' := vm_up h1 (a + 32) (.inl (.long, 8, .inr (.inl (vp_updL (vp_updL (vp_updL (vp_updL (vp_updL s 0 (s 0 + q 0)) 1 (s 1 + q 1)) 2 (s 2 + q 2)) 3 (s 3 + q 3)) 4 (s 4 + q 4)))))) rfl (by rw [vm_upup]; rfl) ?_
      refine vm_go rfl bX14_wideBlockx_431 oX14_wideBlockx_431 ⟨_, _, oo _, rfl, ⟨8, _, vm_upe, 5, rfl, by decide, ⟨8, _, vm_upe, lc, 5, rfl, by decide, ?_⟩⟩⟩
      refine vm_Th (lv' := [(0, .ref a), (1, .int (nI at9)), (2, .long (q 0)), (4, .long (q 1)), (6, .long (q 2)), (8, .long (q 3)), (10, .long (q 4)), (12, .long (q 5)), (14, .long (q 6)), (16, .long (q 7)), (18, .int (nI 80))]) (h' := vm_up h1 (a + 32) (.inl (.long, 8, .inr (.inl (vp_updL (vp_updL (vp_updL (vp_updL (vp_updL (vp_updL s 0 (s 0 + q 0)) 1 (s 1 + q 1)) 2 (s 2 + q 2)) 3 (s 3 + q 3)) 4 (s 4 + q 4)) 5 (s 5 + q 5)))))) rfl (by rw [vm_upup]; rfl) ?_
      refine vm_go rfl bX14_wideBlockx_442 oX14_wideBlockx_442 ⟨_, _, oo _, rfl, ⟨8, _, vm_upe, 6, rfl, by decide, ⟨8, _, vm_upe, lc, 6, rfl, by decide, ?_⟩⟩⟩
      refine vm_Th (lv' := [(0, .ref a), (1, .int (nI at9)), (2, .long (q 0)), (4, .long (q 1)), (6, .long (q 2)), (8, .long (q 3)), (10, .long (q 4)), (12, .long (q 5)), (14, .long (q 6)), (16, .long (q 7)), (18, .int (nI 80))]) (h' := vm_up h1 (a + 32) (.inl (.long, 8, .inr (.inl (vp_updL (vp_updL (vp_updL (vp_updL (vp_updL (vp_updL (vp_updL s 0 (s 0 + q 0)) 1 (s 1 + q 1)) 2 (s 2 + q 2)) 3 (s 3 + q 3)) 4 (s 4 + q 4)) 5 (s 5 + q 5)) 6 (s 6 + q 6)))))) rfl (by rw [vm_upup]; rfl) ?_
      refine vm_go rfl bX14_wideBlockx_454 oX14_wideBlockx_454 ⟨_, _, oo _, rfl, ⟨8, _, vm_upe, 7, rfl, by decide, ⟨8, _, vm_upe, lc, 7, rfl, by decide, ?_⟩⟩⟩
      refine vm_Th (lv' := [(0, .ref a), (1, .int (nI at9)), (2, .long (q 0)), (4, .long (q 1)), (6, .long (q 2)), (8, .long (q 3)), (10, .long (q 4)), (12, .long (q 5)), (14, .long (q 6)), (16, .long (q 7)), (18, .int (nI 80))]) (h' := vm_up h1 (a + 32) (.inl (.long, 8, .inr (.inl (vp_updL (vp_updL (vp_updL (vp_updL (vp_updL (vp_updL (vp_updL (vp_updL s 0 (s 0 + q 0)) 1 (s 1 + q 1)) 2 (s 2 + q 2)) 3 (s 3 + q 3)) 4 (s 4 + q 4)) 5 (s 5 + q 5)) 6 (s 6 + q 6)) 7 (s 7 + q 7)))))) rfl (by rw [vm_upup]; rfl) ?_
      obtain ⟨h2, eh2⟩ : ∃ h2, h2 = vm_up h1 (a + 32) (.inl (.long, 8, .inr (.inl (vp_updL (vp_updL (vp_updL (vp_updL (vp_updL (vp_updL (vp_updL (vp_updL s 0 (s 0 + q 0)) 1 (s 1 + q 1)) 2 (s 2 + q 2)) 3 (s 3 + q 3)) 4 (s 4 + q 4)) 5 (s 5 + q 5)) 6 (s 6 + q 6)) 7 (s 7 + q 7))))) := ⟨_, rfl⟩
      rw [← eh2]
      have F2 : fr h1 h2 (fun q => q = (a + 32)) := eh2 ▸ fr_up rfl
      have FF : fr h h2 (fun q => q = (a + 32) ∨ q = (a + 33)) := fr_trans (fr_mono F1 (fun q z => .inr z)) (fr_mono F2 (fun q z => .inl z))
      have c2 : h2.2 (a + 32) = (.inl (.long, 8, .inr (.inl (vp_updL (vp_updL (vp_updL (vp_updL (vp_updL (vp_updL (vp_updL (vp_updL s 0 (s 0 + q 0)) 1 (s 1 + q 1)) 2 (s 2 + q 2)) 3 (s 3 + q 3)) 4 (s 4 + q 4)) 5 (s 5 + q 5)) 6 (s 6 + q 6)) 7 (s 7 + q 7))))) := by rw [eh2]; exact vm_upe
      have s2 : h2.2 (a + 33) = (.inl (.long, 80, .inr (.inl (cutf W9 w 80)))) := (F2.2 _ (by omega)).trans s1
      refine vm_go rfl bX14_wideBlockx_466 oX14_wideBlockx_466 ⟨rfl, RK_of k FF ((F2.2 a (by omega)).trans o1) (fun q z => ?_), ⟨_, c2, fun j hj => ?_⟩, FF⟩
      · rcases z with rfl | rfl
        · exact .inr ⟨32, rfl, .inr (.inr (.inl ⟨rfl, _, c2⟩))⟩
        · exact .inr ⟨33, rfl, .inr (.inr (.inr (.inl ⟨rfl, _, s2⟩)))⟩
      · rcases j with _ | _ | _ | _ | _ | _ | _ | _ | j
        · rfl
        · rfl
        · rfl
        · rfl
        · rfl
        · rfl
        · rfl
        · rfl
        · omega
end
