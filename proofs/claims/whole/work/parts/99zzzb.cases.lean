/-! the law -/
def mL_law : vm_M := (⟨"VeilMintLaw", "law", "([I)Z"⟩, code, 7, (some .boolean), 15, 578)
def bL_law_0 : List vm_J := [(3, .new 8, 11, 0, 0, .null), (1, .dup, 0, 0, 0, .null), (3, .invokespecial 26, 100, 0, 0, .null), (1, .astore_n 1, 0, 0, 0, .null)]
set_option maxRecDepth 20000 in
theorem oL_law_0 : vm_okB 23 mL_law 0 bL_law_0 = true := by decide +kernel
def bL_law_8 : List vm_J := [(3, .new 27, 14, 0, 0, .null), (1, .dup, 0, 0, 0, .null), (3, .invokespecial 29, 191, 0, 0, .null), (1, .astore_n 2, 0, 0, 0, .null)]
set_option maxRecDepth 20000 in
theorem oL_law_8 : vm_okB 23 mL_law 8 bL_law_8 = true := by decide +kernel
def bL_law_16 : List vm_J := [(1, .iconst 1, 0, 0, 0, .int 1), (2, .newarray .long, 0, 0, 0, .null), (1, .astore_n 3, 0, 0, 0, .null)]
set_option maxRecDepth 20000 in
theorem oL_law_16 : vm_okB 23 mL_law 16 bL_law_16 = true := by decide +kernel
def bL_law_20 : List vm_J := [(1, .iconst 0, 0, 0, 0, .int 0), (2, .istore 4, 0, 0, 0, .null)]
set_option maxRecDepth 20000 in
theorem oL_law_20 : vm_okB 23 mL_law 20 bL_law_20 = true := by decide +kernel
def bL_law_23 : List vm_J := [(2, .iload 4, 0, 0, 0, .null), (1, .aload_n 0, 0, 0, 0, .null), (1, .arraylength, 0, 0, 0, .null), (2, .bipush 6, 0, 0, 0, .int 6), (1, .isub, 0, 0, 0, .null), (3, .if_icmp .gt 738, 768, 0, 0, .null), (1, .aload_n 0, 0, 0, 0, .null), (2, .iload 4, 0, 0, 0, .null), (1, .iaload, 0, 0, 0, .null), (2, .bipush 31, 0, 0, 0, .int 31), (1, .iand, 0, 0, 0, .null), (92, .tableswitch 722 0 18 #[92, 165, 190, 227, 252, 265, 290, 353, 421, 434, 459, 472, 497, 553, 621, 634, 659, 672, 697], 0, 0, 0, .null)]
set_option maxRecDepth 20000 in
theorem oL_law_23 : vm_okB 23 mL_law 23 bL_law_23 = true := by decide +kernel
def bL_law_132 : List vm_J := [(1, .aload_n 1, 0, 0, 0, .null), (1, .aload_n 0, 0, 0, 0, .null), (2, .iload 4, 0, 0, 0, .null), (1, .iconst 1, 0, 0, 0, .int 1), (1, .iadd, 0, 0, 0, .null), (1, .iaload, 0, 0, 0, .null), (1, .aload_n 0, 0, 0, 0, .null), (2, .iload 4, 0, 0, 0, .null), (1, .iconst 2, 0, 0, 0, .int 2), (1, .iadd, 0, 0, 0, .null), (1, .iaload, 0, 0, 0, .null), (1, .aload_n 0, 0, 0, 0, .null), (2, .iload 4, 0, 0, 0, .null), (1, .iconst 3, 0, 0, 0, .int 3), (1, .iadd, 0, 0, 0, .null), (1, .iaload, 0, 0, 0, .null), (1, .aload_n 0, 0, 0, 0, .null), (2, .iload 4, 0, 0, 0, .null), (1, .iconst 4, 0, 0, 0, .int 4), (1, .iadd, 0, 0, 0, .null), (1, .iaload, 0, 0, 0, .null), (1, .aload_n 0, 0, 0, 0, .null), (2, .iload 4, 0, 0, 0, .null), (1, .iconst 5, 0, 0, 0, .int 5), (1, .iadd, 0, 0, 0, .null), (1, .iaload, 0, 0, 0, .null), (3, .invokevirtual 30, 101, 5, 11, .null), (1, .aload_n 2, 0, 0, 0, .null), (1, .aload_n 0, 0, 0, 0, .null), (2, .iload 4, 0, 0, 0, .null), (1, .iconst 1, 0, 0, 0, .int 1), (1, .iadd, 0, 0, 0, .null), (1, .iaload, 0, 0, 0, .null), (1, .aload_n 0, 0, 0, 0, .null), (2, .iload 4, 0, 0, 0, .null), (1, .iconst 2, 0, 0, 0, .int 2), (1, .iadd, 0, 0, 0, .null), (1, .iaload, 0, 0, 0, .null), (1, .aload_n 0, 0, 0, 0, .null), (2, .iload 4, 0, 0, 0, .null), (1, .iconst 3, 0, 0, 0, .int 3), (1, .iadd, 0, 0, 0, .null), (1, .iaload, 0, 0, 0, .null), (1, .aload_n 0, 0, 0, 0, .null), (2, .iload 4, 0, 0, 0, .null), (1, .iconst 4, 0, 0, 0, .int 4), (1, .iadd, 0, 0, 0, .null), (1, .iaload, 0, 0, 0, .null), (1, .aload_n 0, 0, 0, 0, .null), (2, .iload 4, 0, 0, 0, .null), (1, .iconst 5, 0, 0, 0, .int 5), (1, .iadd, 0, 0, 0, .null), (1, .iaload, 0, 0, 0, .null), (3, .invokevirtual 34, 200, 5, 14, .null), (3, .if_icmp .eq 562, 762, 0, 0, .null), (1, .iconst 0, 0, 0, 0, .int 0), (1, .ireturn, 0, 0, 0, .null)]
set_option maxRecDepth 20000 in
theorem oL_law_132 : vm_okB 23 mL_law 132 bL_law_132 = true := by decide +kernel
def bL_law_205 : List vm_J := [(1, .aload_n 1, 0, 0, 0, .null), (1, .aload_n 0, 0, 0, 0, .null), (2, .iload 4, 0, 0, 0, .null), (1, .iconst 1, 0, 0, 0, .int 1), (1, .iadd, 0, 0, 0, .null), (1, .iaload, 0, 0, 0, .null), (3, .invokevirtual 35, 102, 1, 11, .null), (1, .aload_n 2, 0, 0, 0, .null), (1, .aload_n 0, 0, 0, 0, .null), (2, .iload 4, 0, 0, 0, .null), (1, .iconst 1, 0, 0, 0, .int 1), (1, .iadd, 0, 0, 0, .null), (1, .iaload, 0, 0, 0, .null), (3, .invokevirtual 38, 201, 1, 14, .null), (3, .if_icmp .eq 537, 762, 0, 0, .null), (1, .iconst 0, 0, 0, 0, .int 0), (1, .ireturn, 0, 0, 0, .null)]
set_option maxRecDepth 20000 in
theorem oL_law_205 : vm_okB 23 mL_law 205 bL_law_205 = true := by decide +kernel
def bL_law_230 : List vm_J := [(1, .aload_n 1, 0, 0, 0, .null), (1, .aload_n 0, 0, 0, 0, .null), (2, .iload 4, 0, 0, 0, .null), (1, .iconst 1, 0, 0, 0, .int 1), (1, .iadd, 0, 0, 0, .null), (1, .iaload, 0, 0, 0, .null), (1, .aload_n 0, 0, 0, 0, .null), (2, .iload 4, 0, 0, 0, .null), (1, .iconst 2, 0, 0, 0, .int 2), (1, .iadd, 0, 0, 0, .null), (1, .iaload, 0, 0, 0, .null), (3, .invokevirtual 39, 103, 2, 11, .null), (1, .aload_n 2, 0, 0, 0, .null), (1, .aload_n 0, 0, 0, 0, .null), (2, .iload 4, 0, 0, 0, .null), (1, .iconst 1, 0, 0, 0, .int 1), (1, .iadd, 0, 0, 0, .null), (1, .iaload, 0, 0, 0, .null), (1, .aload_n 0, 0, 0, 0, .null), (2, .iload 4, 0, 0, 0, .null), (1, .iconst 2, 0, 0, 0, .int 2), (1, .iadd, 0, 0, 0, .null), (1, .iaload, 0, 0, 0, .null), (3, .invokevirtual 42, 202, 2, 14, .null), (3, .if_icmp .eq 500, 762, 0, 0, .null), (1, .iconst 0, 0, 0, 0, .int 0), (1, .ireturn, 0, 0, 0, .null)]
set_option maxRecDepth 20000 in
theorem oL_law_230 : vm_okB 23 mL_law 230 bL_law_230 = true := by decide +kernel
def bL_law_267 : List vm_J := [(1, .aload_n 1, 0, 0, 0, .null), (1, .aload_n 0, 0, 0, 0, .null), (2, .iload 4, 0, 0, 0, .null), (1, .iconst 1, 0, 0, 0, .int 1), (1, .iadd, 0, 0, 0, .null), (1, .iaload, 0, 0, 0, .null), (3, .invokevirtual 43, 104, 1, 11, .null), (1, .aload_n 2, 0, 0, 0, .null), (1, .aload_n 0, 0, 0, 0, .null), (2, .iload 4, 0, 0, 0, .null), (1, .iconst 1, 0, 0, 0, .int 1), (1, .iadd, 0, 0, 0, .null), (1, .iaload, 0, 0, 0, .null), (3, .invokevirtual 46, 203, 1, 14, .null), (3, .if_icmp .eq 475, 762, 0, 0, .null), (1, .iconst 0, 0, 0, 0, .int 0), (1, .ireturn, 0, 0, 0, .null)]
set_option maxRecDepth 20000 in
theorem oL_law_267 : vm_okB 23 mL_law 267 bL_law_267 = true := by decide +kernel
def bL_law_292 : List vm_J := [(1, .aload_n 1, 0, 0, 0, .null), (3, .invokevirtual 47, 105, 0, 11, .null), (1, .aload_n 2, 0, 0, 0, .null), (3, .invokevirtual 51, 204, 0, 14, .null), (3, .if_icmp .eq 462, 762, 0, 0, .null), (1, .iconst 0, 0, 0, 0, .int 0), (1, .ireturn, 0, 0, 0, .null)]
set_option maxRecDepth 20000 in
theorem oL_law_292 : vm_okB 23 mL_law 292 bL_law_292 = true := by decide +kernel
def bL_law_305 : List vm_J := [(1, .aload_n 1, 0, 0, 0, .null), (1, .aload_n 0, 0, 0, 0, .null), (2, .iload 4, 0, 0, 0, .null), (1, .iconst 1, 0, 0, 0, .int 1), (1, .iadd, 0, 0, 0, .null), (1, .iaload, 0, 0, 0, .null), (3, .invokevirtual 52, 106, 1, 11, .null), (1, .aload_n 2, 0, 0, 0, .null), (1, .aload_n 0, 0, 0, 0, .null), (2, .iload 4, 0, 0, 0, .null), (1, .iconst 1, 0, 0, 0, .int 1), (1, .iadd, 0, 0, 0, .null), (1, .iaload, 0, 0, 0, .null), (3, .invokevirtual 55, 206, 1, 14, .null), (3, .if_icmp .eq 437, 762, 0, 0, .null), (1, .iconst 0, 0, 0, 0, .int 0), (1, .ireturn, 0, 0, 0, .null)]
set_option maxRecDepth 20000 in
theorem oL_law_305 : vm_okB 23 mL_law 305 bL_law_305 = true := by decide +kernel
def bL_law_330 : List vm_J := [(1, .aload_n 1, 0, 0, 0, .null), (1, .aload_n 0, 0, 0, 0, .null), (2, .iload 4, 0, 0, 0, .null), (1, .iconst 1, 0, 0, 0, .int 1), (1, .iadd, 0, 0, 0, .null), (1, .iaload, 0, 0, 0, .null), (1, .aload_n 3, 0, 0, 0, .null)]
set_option maxRecDepth 20000 in
theorem oL_law_330 : vm_okB 23 mL_law 330 bL_law_330 = true := by decide +kernel
def bL_law_341 : List vm_J := [(2, .istore 5, 0, 0, 0, .null)]
set_option maxRecDepth 20000 in
theorem oL_law_341 : vm_okB 23 mL_law 341 bL_law_341 = true := by decide +kernel
def bL_law_343 : List vm_J := [(1, .aload_n 2, 0, 0, 0, .null), (1, .aload_n 0, 0, 0, 0, .null), (2, .iload 4, 0, 0, 0, .null), (1, .iconst 1, 0, 0, 0, .int 1), (1, .iadd, 0, 0, 0, .null), (1, .iaload, 0, 0, 0, .null), (3, .invokevirtual 61, 211, 1, 14, .null), (2, .istore 6, 0, 0, 0, .null)]
set_option maxRecDepth 20000 in
theorem oL_law_343 : vm_okB 23 mL_law 343 bL_law_343 = true := by decide +kernel
def bL_law_355 : List vm_J := [(1, .aload_n 2, 0, 0, 0, .null), (3, .invokevirtual 62, 137, 0, 14, .null), (2, .iload 5, 0, 0, 0, .null), (3, .if_icmp .eq 5, 366, 0, 0, .null), (1, .iconst 0, 0, 0, 0, .int 0), (1, .ireturn, 0, 0, 0, .null)]
set_option maxRecDepth 20000 in
theorem oL_law_355 : vm_okB 23 mL_law 355 bL_law_355 = true := by decide +kernel
def bL_law_366 : List vm_J := [(2, .iload 5, 0, 0, 0, .null), (3, .ifCond .ne 22, 390, 0, 0, .null), (1, .aload_n 3, 0, 0, 0, .null), (1, .iconst 0, 0, 0, 0, .int 0), (1, .laload, 0, 0, 0, .null), (2, .iload 6, 0, 0, 0, .null), (3, .ifCond .eq 7, 383, 0, 0, .null), (1, .lconst 1, 0, 0, 0, .long 1), (3, .goto 4, 384, 0, 0, .null)]
set_option maxRecDepth 20000 in
theorem oL_law_366 : vm_okB 23 mL_law 366 bL_law_366 = true := by decide +kernel
def bL_law_383 : List vm_J := [(1, .lconst 0, 0, 0, 0, .long 0)]
set_option maxRecDepth 20000 in
theorem oL_law_383 : vm_okB 23 mL_law 383 bL_law_383 = true := by decide +kernel
def bL_law_384 : List vm_J := [(1, .lcmp, 0, 0, 0, .null), (3, .ifCond .eq 5, 390, 0, 0, .null), (1, .iconst 0, 0, 0, 0, .int 0), (1, .ireturn, 0, 0, 0, .null)]
set_option maxRecDepth 20000 in
theorem oL_law_384 : vm_okB 23 mL_law 384 bL_law_384 = true := by decide +kernel
def bL_law_390 : List vm_J := [(3, .goto 372, 762, 0, 0, .null)]
set_option maxRecDepth 20000 in
theorem oL_law_390 : vm_okB 23 mL_law 390 bL_law_390 = true := by decide +kernel
def bL_law_393 : List vm_J := [(1, .aload_n 1, 0, 0, 0, .null), (1, .aload_n 0, 0, 0, 0, .null), (2, .iload 4, 0, 0, 0, .null), (1, .iconst 1, 0, 0, 0, .int 1), (1, .iadd, 0, 0, 0, .null), (1, .iaload, 0, 0, 0, .null), (1, .aload_n 0, 0, 0, 0, .null), (2, .iload 4, 0, 0, 0, .null), (1, .iconst 2, 0, 0, 0, .int 2), (1, .iadd, 0, 0, 0, .null), (1, .iaload, 0, 0, 0, .null), (1, .aload_n 3, 0, 0, 0, .null)]
set_option maxRecDepth 20000 in
theorem oL_law_393 : vm_okB 23 mL_law 393 bL_law_393 = true := by decide +kernel
def bL_law_410 : List vm_J := [(2, .istore 5, 0, 0, 0, .null)]
set_option maxRecDepth 20000 in
theorem oL_law_410 : vm_okB 23 mL_law 410 bL_law_410 = true := by decide +kernel
def bL_law_412 : List vm_J := [(1, .aload_n 2, 0, 0, 0, .null), (1, .aload_n 0, 0, 0, 0, .null), (2, .iload 4, 0, 0, 0, .null), (1, .iconst 1, 0, 0, 0, .int 1), (1, .iadd, 0, 0, 0, .null), (1, .iaload, 0, 0, 0, .null), (1, .aload_n 0, 0, 0, 0, .null), (2, .iload 4, 0, 0, 0, .null), (1, .iconst 2, 0, 0, 0, .int 2), (1, .iadd, 0, 0, 0, .null), (1, .iaload, 0, 0, 0, .null), (3, .invokevirtual 68, 212, 2, 14, .null), (2, .istore 6, 0, 0, 0, .null)]
set_option maxRecDepth 20000 in
theorem oL_law_412 : vm_okB 23 mL_law 412 bL_law_412 = true := by decide +kernel
def bL_law_430 : List vm_J := [(1, .aload_n 2, 0, 0, 0, .null), (3, .invokevirtual 62, 137, 0, 14, .null), (2, .iload 5, 0, 0, 0, .null), (3, .if_icmp .eq 5, 441, 0, 0, .null), (1, .iconst 0, 0, 0, 0, .int 0), (1, .ireturn, 0, 0, 0, .null)]
set_option maxRecDepth 20000 in
theorem oL_law_430 : vm_okB 23 mL_law 430 bL_law_430 = true := by decide +kernel
def bL_law_441 : List vm_J := [(2, .iload 5, 0, 0, 0, .null), (3, .ifCond .ne 15, 458, 0, 0, .null), (1, .aload_n 3, 0, 0, 0, .null), (1, .iconst 0, 0, 0, 0, .int 0), (1, .laload, 0, 0, 0, .null), (2, .iload 6, 0, 0, 0, .null), (1, .i2l, 0, 0, 0, .null), (1, .lcmp, 0, 0, 0, .null), (3, .ifCond .eq 5, 458, 0, 0, .null), (1, .iconst 0, 0, 0, 0, .int 0), (1, .ireturn, 0, 0, 0, .null)]
set_option maxRecDepth 20000 in
theorem oL_law_441 : vm_okB 23 mL_law 441 bL_law_441 = true := by decide +kernel
def bL_law_458 : List vm_J := [(3, .goto 304, 762, 0, 0, .null)]
set_option maxRecDepth 20000 in
theorem oL_law_458 : vm_okB 23 mL_law 458 bL_law_458 = true := by decide +kernel
def bL_law_461 : List vm_J := [(1, .aload_n 1, 0, 0, 0, .null), (3, .invokevirtual 69, 109, 0, 11, .null), (1, .aload_n 2, 0, 0, 0, .null), (3, .invokevirtual 72, 213, 0, 14, .null), (3, .if_icmp .eq 293, 762, 0, 0, .null), (1, .iconst 0, 0, 0, 0, .int 0), (1, .ireturn, 0, 0, 0, .null)]
set_option maxRecDepth 20000 in
theorem oL_law_461 : vm_okB 23 mL_law 461 bL_law_461 = true := by decide +kernel
def bL_law_474 : List vm_J := [(1, .aload_n 1, 0, 0, 0, .null), (1, .aload_n 0, 0, 0, 0, .null), (2, .iload 4, 0, 0, 0, .null), (1, .iconst 1, 0, 0, 0, .int 1), (1, .iadd, 0, 0, 0, .null), (1, .iaload, 0, 0, 0, .null), (3, .invokevirtual 73, 110, 1, 11, .null), (1, .aload_n 2, 0, 0, 0, .null), (1, .aload_n 0, 0, 0, 0, .null), (2, .iload 4, 0, 0, 0, .null), (1, .iconst 1, 0, 0, 0, .int 1), (1, .iadd, 0, 0, 0, .null), (1, .iaload, 0, 0, 0, .null), (3, .invokevirtual 76, 214, 1, 14, .null), (3, .if_icmp .eq 268, 762, 0, 0, .null), (1, .iconst 0, 0, 0, 0, .int 0), (1, .ireturn, 0, 0, 0, .null)]
set_option maxRecDepth 20000 in
theorem oL_law_474 : vm_okB 23 mL_law 474 bL_law_474 = true := by decide +kernel
def bL_law_499 : List vm_J := [(1, .aload_n 1, 0, 0, 0, .null), (3, .invokevirtual 77, 111, 0, 11, .null), (1, .aload_n 2, 0, 0, 0, .null), (3, .invokevirtual 80, 219, 0, 14, .null), (3, .if_icmp .eq 255, 762, 0, 0, .null), (1, .iconst 0, 0, 0, 0, .int 0), (1, .ireturn, 0, 0, 0, .null)]
set_option maxRecDepth 20000 in
theorem oL_law_499 : vm_okB 23 mL_law 499 bL_law_499 = true := by decide +kernel
def bL_law_512 : List vm_J := [(1, .aload_n 1, 0, 0, 0, .null), (1, .aload_n 0, 0, 0, 0, .null), (2, .iload 4, 0, 0, 0, .null), (1, .iconst 1, 0, 0, 0, .int 1), (1, .iadd, 0, 0, 0, .null), (1, .iaload, 0, 0, 0, .null), (3, .invokevirtual 81, 112, 1, 11, .null), (1, .aload_n 2, 0, 0, 0, .null), (1, .aload_n 0, 0, 0, 0, .null), (2, .iload 4, 0, 0, 0, .null), (1, .iconst 1, 0, 0, 0, .int 1), (1, .iadd, 0, 0, 0, .null), (1, .iaload, 0, 0, 0, .null), (3, .invokevirtual 84, 220, 1, 14, .null), (3, .if_icmp .eq 230, 762, 0, 0, .null), (1, .iconst 0, 0, 0, 0, .int 0), (1, .ireturn, 0, 0, 0, .null)]
set_option maxRecDepth 20000 in
theorem oL_law_512 : vm_okB 23 mL_law 512 bL_law_512 = true := by decide +kernel
def bL_law_537 : List vm_J := [(1, .aload_n 1, 0, 0, 0, .null), (1, .aload_n 0, 0, 0, 0, .null), (2, .iload 4, 0, 0, 0, .null), (1, .iconst 1, 0, 0, 0, .int 1), (1, .iadd, 0, 0, 0, .null), (1, .iaload, 0, 0, 0, .null), (1, .aload_n 3, 0, 0, 0, .null)]
set_option maxRecDepth 20000 in
theorem oL_law_537 : vm_okB 23 mL_law 537 bL_law_537 = true := by decide +kernel
def bL_law_548 : List vm_J := [(2, .istore 5, 0, 0, 0, .null)]
set_option maxRecDepth 20000 in
theorem oL_law_548 : vm_okB 23 mL_law 548 bL_law_548 = true := by decide +kernel
def bL_law_550 : List vm_J := [(1, .aload_n 2, 0, 0, 0, .null), (1, .aload_n 0, 0, 0, 0, .null), (2, .iload 4, 0, 0, 0, .null), (1, .iconst 1, 0, 0, 0, .int 1), (1, .iadd, 0, 0, 0, .null), (1, .iaload, 0, 0, 0, .null), (3, .invokevirtual 87, 224, 1, 14, .null), (2, .istore 6, 0, 0, 0, .null)]
set_option maxRecDepth 20000 in
theorem oL_law_550 : vm_okB 23 mL_law 550 bL_law_550 = true := by decide +kernel
def bL_law_562 : List vm_J := [(1, .aload_n 2, 0, 0, 0, .null), (3, .invokevirtual 62, 137, 0, 14, .null), (2, .iload 5, 0, 0, 0, .null), (3, .if_icmp .eq 5, 573, 0, 0, .null), (1, .iconst 0, 0, 0, 0, .int 0), (1, .ireturn, 0, 0, 0, .null)]
set_option maxRecDepth 20000 in
theorem oL_law_562 : vm_okB 23 mL_law 562 bL_law_562 = true := by decide +kernel
def bL_law_573 : List vm_J := [(2, .iload 5, 0, 0, 0, .null), (3, .ifCond .ne 15, 590, 0, 0, .null), (1, .aload_n 3, 0, 0, 0, .null), (1, .iconst 0, 0, 0, 0, .int 0), (1, .laload, 0, 0, 0, .null), (2, .iload 6, 0, 0, 0, .null), (1, .i2l, 0, 0, 0, .null), (1, .lcmp, 0, 0, 0, .null), (3, .ifCond .eq 5, 590, 0, 0, .null), (1, .iconst 0, 0, 0, 0, .int 0), (1, .ireturn, 0, 0, 0, .null)]
set_option maxRecDepth 20000 in
theorem oL_law_573 : vm_okB 23 mL_law 573 bL_law_573 = true := by decide +kernel
def bL_law_590 : List vm_J := [(3, .goto 172, 762, 0, 0, .null)]
set_option maxRecDepth 20000 in
theorem oL_law_590 : vm_okB 23 mL_law 590 bL_law_590 = true := by decide +kernel
def bL_law_593 : List vm_J := [(1, .aload_n 1, 0, 0, 0, .null), (1, .aload_n 0, 0, 0, 0, .null), (2, .iload 4, 0, 0, 0, .null), (1, .iconst 1, 0, 0, 0, .int 1), (1, .iadd, 0, 0, 0, .null), (1, .iaload, 0, 0, 0, .null), (1, .aload_n 0, 0, 0, 0, .null), (2, .iload 4, 0, 0, 0, .null), (1, .iconst 2, 0, 0, 0, .int 2), (1, .iadd, 0, 0, 0, .null), (1, .iaload, 0, 0, 0, .null), (1, .aload_n 3, 0, 0, 0, .null)]
set_option maxRecDepth 20000 in
theorem oL_law_593 : vm_okB 23 mL_law 593 bL_law_593 = true := by decide +kernel
def bL_law_610 : List vm_J := [(2, .istore 5, 0, 0, 0, .null)]
set_option maxRecDepth 20000 in
theorem oL_law_610 : vm_okB 23 mL_law 610 bL_law_610 = true := by decide +kernel
def bL_law_612 : List vm_J := [(1, .aload_n 2, 0, 0, 0, .null), (1, .aload_n 0, 0, 0, 0, .null), (2, .iload 4, 0, 0, 0, .null), (1, .iconst 1, 0, 0, 0, .int 1), (1, .iadd, 0, 0, 0, .null), (1, .iaload, 0, 0, 0, .null), (1, .aload_n 0, 0, 0, 0, .null), (2, .iload 4, 0, 0, 0, .null), (1, .iconst 2, 0, 0, 0, .int 2), (1, .iadd, 0, 0, 0, .null), (1, .iaload, 0, 0, 0, .null), (3, .invokevirtual 90, 225, 2, 14, .null), (2, .istore 6, 0, 0, 0, .null)]
set_option maxRecDepth 20000 in
theorem oL_law_612 : vm_okB 23 mL_law 612 bL_law_612 = true := by decide +kernel
def bL_law_630 : List vm_J := [(1, .aload_n 2, 0, 0, 0, .null), (3, .invokevirtual 62, 137, 0, 14, .null), (2, .iload 5, 0, 0, 0, .null), (3, .if_icmp .eq 5, 641, 0, 0, .null), (1, .iconst 0, 0, 0, 0, .int 0), (1, .ireturn, 0, 0, 0, .null)]
set_option maxRecDepth 20000 in
theorem oL_law_630 : vm_okB 23 mL_law 630 bL_law_630 = true := by decide +kernel
def bL_law_641 : List vm_J := [(2, .iload 5, 0, 0, 0, .null), (3, .ifCond .ne 15, 658, 0, 0, .null), (1, .aload_n 3, 0, 0, 0, .null), (1, .iconst 0, 0, 0, 0, .int 0), (1, .laload, 0, 0, 0, .null), (2, .iload 6, 0, 0, 0, .null), (1, .i2l, 0, 0, 0, .null), (1, .lcmp, 0, 0, 0, .null), (3, .ifCond .eq 5, 658, 0, 0, .null), (1, .iconst 0, 0, 0, 0, .int 0), (1, .ireturn, 0, 0, 0, .null)]
set_option maxRecDepth 20000 in
theorem oL_law_641 : vm_okB 23 mL_law 641 bL_law_641 = true := by decide +kernel
def bL_law_658 : List vm_J := [(3, .goto 104, 762, 0, 0, .null)]
set_option maxRecDepth 20000 in
theorem oL_law_658 : vm_okB 23 mL_law 658 bL_law_658 = true := by decide +kernel
def bL_law_661 : List vm_J := [(1, .aload_n 1, 0, 0, 0, .null), (3, .invokevirtual 91, 115, 0, 11, .null), (1, .aload_n 2, 0, 0, 0, .null), (3, .invokevirtual 94, 233, 0, 14, .null), (3, .if_icmp .eq 93, 762, 0, 0, .null), (1, .iconst 0, 0, 0, 0, .int 0), (1, .ireturn, 0, 0, 0, .null)]
set_option maxRecDepth 20000 in
theorem oL_law_661 : vm_okB 23 mL_law 661 bL_law_661 = true := by decide +kernel
def bL_law_674 : List vm_J := [(1, .aload_n 1, 0, 0, 0, .null), (1, .aload_n 0, 0, 0, 0, .null), (2, .iload 4, 0, 0, 0, .null), (1, .iconst 1, 0, 0, 0, .int 1), (1, .iadd, 0, 0, 0, .null), (1, .iaload, 0, 0, 0, .null), (3, .invokevirtual 95, 116, 1, 11, .null), (1, .aload_n 2, 0, 0, 0, .null), (1, .aload_n 0, 0, 0, 0, .null), (2, .iload 4, 0, 0, 0, .null), (1, .iconst 1, 0, 0, 0, .int 1), (1, .iadd, 0, 0, 0, .null), (1, .iaload, 0, 0, 0, .null), (3, .invokevirtual 98, 234, 1, 14, .null), (3, .if_icmp .eq 68, 762, 0, 0, .null), (1, .iconst 0, 0, 0, 0, .int 0), (1, .ireturn, 0, 0, 0, .null)]
set_option maxRecDepth 20000 in
theorem oL_law_674 : vm_okB 23 mL_law 674 bL_law_674 = true := by decide +kernel
def bL_law_699 : List vm_J := [(1, .aload_n 1, 0, 0, 0, .null), (3, .invokevirtual 99, 117, 0, 11, .null), (1, .aload_n 2, 0, 0, 0, .null), (3, .invokevirtual 102, 236, 0, 14, .null), (3, .if_icmp .eq 55, 762, 0, 0, .null), (1, .iconst 0, 0, 0, 0, .int 0), (1, .ireturn, 0, 0, 0, .null)]
set_option maxRecDepth 20000 in
theorem oL_law_699 : vm_okB 23 mL_law 699 bL_law_699 = true := by decide +kernel
def bL_law_712 : List vm_J := [(1, .aload_n 1, 0, 0, 0, .null), (1, .aload_n 0, 0, 0, 0, .null), (2, .iload 4, 0, 0, 0, .null), (1, .iconst 1, 0, 0, 0, .int 1), (1, .iadd, 0, 0, 0, .null), (1, .iaload, 0, 0, 0, .null), (3, .invokevirtual 103, 118, 1, 11, .null), (1, .aload_n 2, 0, 0, 0, .null), (1, .aload_n 0, 0, 0, 0, .null), (2, .iload 4, 0, 0, 0, .null), (1, .iconst 1, 0, 0, 0, .int 1), (1, .iadd, 0, 0, 0, .null), (1, .iaload, 0, 0, 0, .null), (3, .invokevirtual 106, 237, 1, 14, .null), (3, .if_icmp .eq 30, 762, 0, 0, .null), (1, .iconst 0, 0, 0, 0, .int 0), (1, .ireturn, 0, 0, 0, .null)]
set_option maxRecDepth 20000 in
theorem oL_law_712 : vm_okB 23 mL_law 712 bL_law_712 = true := by decide +kernel
def bL_law_737 : List vm_J := [(1, .aload_n 1, 0, 0, 0, .null), (1, .aload_n 0, 0, 0, 0, .null), (2, .iload 4, 0, 0, 0, .null), (1, .iconst 1, 0, 0, 0, .int 1), (1, .iadd, 0, 0, 0, .null), (1, .iaload, 0, 0, 0, .null), (3, .invokevirtual 107, 119, 1, 11, .null), (1, .aload_n 2, 0, 0, 0, .null), (1, .aload_n 0, 0, 0, 0, .null), (2, .iload 4, 0, 0, 0, .null), (1, .iconst 1, 0, 0, 0, .int 1), (1, .iadd, 0, 0, 0, .null), (1, .iaload, 0, 0, 0, .null), (3, .invokevirtual 110, 238, 1, 14, .null), (3, .if_icmp .eq 5, 762, 0, 0, .null), (1, .iconst 0, 0, 0, 0, .int 0), (1, .ireturn, 0, 0, 0, .null)]
set_option maxRecDepth 20000 in
theorem oL_law_737 : vm_okB 23 mL_law 737 bL_law_737 = true := by decide +kernel
def bL_law_762 : List vm_J := [(3, .iinc 4 6, 0, 0, 0, .int 6), (3, .goto (-742), 23, 0, 0, .null)]
set_option maxRecDepth 20000 in
theorem oL_law_762 : vm_okB 23 mL_law 762 bL_law_762 = true := by decide +kernel
def bL_law_768 : List vm_J := [(1, .iconst 1, 0, 0, 0, .int 1), (1, .ireturn, 0, 0, 0, .null)]
set_option maxRecDepth 20000 in
theorem oL_law_768 : vm_okB 23 mL_law 768 bL_law_768 = true := by decide +kernel
theorem and_31 (x : Int32) : ∃ k, k < 32 ∧ x &&& 31 = nI k := by
  refine ⟨(x.toBitVec &&& 31#32).toNat, ?_, ?_⟩
  · rw [BitVec.toNat_and]
    exact Nat.lt_of_le_of_lt Nat.and_le_right (by decide)
  · apply Int32.toBitVec_inj.mp
    rw [Int32.toBitVec_and]
    show x.toBitVec &&& 31#32 = BitVec.ofNat 32 (x.toBitVec &&& 31#32).toNat
    rw [BitVec.ofNat_toNat, BitVec.setWidth_eq]
theorem is_z (x : Int32) : ∃ z : Int, x = iZ z ∧ i32 z := ⟨x.toInt, (Int32.ofInt_toInt x).symm, Int32.le_toInt x, Int32.toInt_lt x⟩
theorem J_v {v L n : Nat} {xs : Nat → Int32} {t : KT} {h : vm_H} (J : JS v L xs t n h) : (∃ fs, h.2 v = .inr (11, fs)) ∧ (∃ fs, h.2 (v + 750) = .inr (14, fs)) ∧ h.2 1099511627776 = .inl (.int, L, .inl xs) := by
  obtain ⟨th, w, ou, kn, an, rd, ke, ae, kf, af, D, dn, wl, wr, J⟩ := J
  refine ⟨?_, ?_, J.2.2.2.1⟩
  · obtain ⟨tb, k, _⟩ := J.1
    exact ⟨_, MV_0 k⟩
  · obtain ⟨g, m, y, k, _⟩ := J.2.1
    exact ⟨_, k.1.1⟩
section
variable {l : Launch} {O : Nat → vm_Ob} {f9 : Value} {h : vm_H} {v L n d : Nat} {t : KT} {xs : Nat → Int32} {Q : Option Value → vm_H → Prop}
theorem ca_0 (h9 : f9.category = 1) (hn : n < 512) (hi : 6 * n + 6 ≤ L) (hL : L ≤ 3072) (J : JS v L xs t n h) (nx : ∀ h2, JS v L xs t (n + 1) h2 → vm_T (vm_env l O f9) mL_law (27 * d) (2134 * d) 762 [(0, .ref 1099511627776), (1, .ref v), (2, .ref (v + 750)), (3, .ref (v + 1002)), (4, .int (nI (6 * n)))] [] h2 Q) : vm_T (vm_env l O f9) mL_law (27 * (d + 1)) (2134 * (d + 1)) 132 [(0, .ref 1099511627776), (1, .ref v), (2, .ref (v + 750)), (3, .ref (v + 1002)), (4, .int (nI (6 * n)))] [] h Q := by
  obtain ⟨⟨fs, hv⟩, _, sc⟩ := J_v J
  obtain ⟨z1, ez1, hz1⟩ := is_z (xs (6 * n + 1))
  have a1 : nI (6 * n) + 1 = nI (6 * n + 1) := nI_add _ 1
  obtain ⟨z2, ez2, hz2⟩ := is_z (xs (6 * n + 2))
  have a2 : nI (6 * n) + 2 = nI (6 * n + 2) := nI_add _ 2
  obtain ⟨z3, ez3, hz3⟩ := is_z (xs (6 * n + 3))
  have a3 : nI (6 * n) + 3 = nI (6 * n + 3) := nI_add _ 3
  obtain ⟨z4, ez4, hz4⟩ := is_z (xs (6 * n + 4))
  have a4 : nI (6 * n) + 4 = nI (6 * n + 4) := nI_add _ 4
  obtain ⟨z5, ez5, hz5⟩ := is_z (xs (6 * n + 5))
  have a5 : nI (6 * n) + 5 = nI (6 * n + 5) := nI_add _ 5
  refine vm_go rfl bL_law_132 oL_law_132 ⟨L, xs, sc, 6 * n + 1, a1, by omega, fun _ => ?_⟩
  rw [ez1]
  refine ⟨L, xs, sc, 6 * n + 2, a2, by omega, fun _ => ?_⟩
  rw [ez2]
  refine ⟨L, xs, sc, 6 * n + 3, a3, by omega, fun _ => ?_⟩
  rw [ez3]
  refine ⟨L, xs, sc, 6 * n + 4, a4, by omega, fun _ => ?_⟩
  rw [ez4]
  refine ⟨L, xs, sc, 6 * n + 5, a5, by omega, fun _ => ?_⟩
  rw [ez5]
  refine ⟨_, hv, 0, 0, _, pj_feed h9 hz1 hz2 hz3 hz4 hz5 hn J, (by omega), (by omega), ?_⟩
  rintro _ h1 ⟨x, rfl, C2, ⟨fs1, hv1⟩, sc1⟩
  refine ⟨L, xs, sc1, 6 * n + 1, a1, by omega, fun _ => ?_⟩
  rw [ez1]
  refine ⟨L, xs, sc1, 6 * n + 2, a2, by omega, fun _ => ?_⟩
  rw [ez2]
  refine ⟨L, xs, sc1, 6 * n + 3, a3, by omega, fun _ => ?_⟩
  rw [ez3]
  refine ⟨L, xs, sc1, 6 * n + 4, a4, by omega, fun _ => ?_⟩
  rw [ez4]
  refine ⟨L, xs, sc1, 6 * n + 5, a5, by omega, fun _ => ?_⟩
  rw [ez5]
  refine ⟨_, hv1, 0, 0, _, C2, Nat.zero_le _, Nat.zero_le _, ?_⟩
  rintro _ h2 ⟨rfl, J2⟩
  exact ⟨fun _ => vm_more (nx h2 J2) (by omega) (by omega), fun q => absurd rfl q⟩
theorem ca_1 (h9 : f9.category = 1) (hn : n < 512) (hi : 6 * n + 6 ≤ L) (hL : L ≤ 3072) (J : JS v L xs t n h) (nx : ∀ h2, JS v L xs t (n + 1) h2 → vm_T (vm_env l O f9) mL_law (27 * d) (2134 * d) 762 [(0, .ref 1099511627776), (1, .ref v), (2, .ref (v + 750)), (3, .ref (v + 1002)), (4, .int (nI (6 * n)))] [] h2 Q) : vm_T (vm_env l O f9) mL_law (27 * (d + 1)) (2134 * (d + 1)) 205 [(0, .ref 1099511627776), (1, .ref v), (2, .ref (v + 750)), (3, .ref (v + 1002)), (4, .int (nI (6 * n)))] [] h Q := by
  obtain ⟨⟨fs, hv⟩, _, sc⟩ := J_v J
  obtain ⟨z1, ez1, hz1⟩ := is_z (xs (6 * n + 1))
  have a1 : nI (6 * n) + 1 = nI (6 * n + 1) := nI_add _ 1
  refine vm_go rfl bL_law_205 oL_law_205 ⟨L, xs, sc, 6 * n + 1, a1, by omega, fun _ => ?_⟩
  rw [ez1]
  refine ⟨_, hv, 0, 0, _, pj_end h9 hz1 hn J, (by omega), (by omega), ?_⟩
  rintro _ h1 ⟨x, rfl, C2, ⟨fs1, hv1⟩, sc1⟩
  refine ⟨L, xs, sc1, 6 * n + 1, a1, by omega, fun _ => ?_⟩
  rw [ez1]
  refine ⟨_, hv1, 0, 0, _, C2, Nat.zero_le _, Nat.zero_le _, ?_⟩
  rintro _ h2 ⟨rfl, J2⟩
  exact ⟨fun _ => vm_more (nx h2 J2) (by omega) (by omega), fun q => absurd rfl q⟩
theorem ca_2 (h9 : f9.category = 1) (hn : n < 512) (hi : 6 * n + 6 ≤ L) (hL : L ≤ 3072) (J : JS v L xs t n h) (nx : ∀ h2, JS v L xs t (n + 1) h2 → vm_T (vm_env l O f9) mL_law (27 * d) (2134 * d) 762 [(0, .ref 1099511627776), (1, .ref v), (2, .ref (v + 750)), (3, .ref (v + 1002)), (4, .int (nI (6 * n)))] [] h2 Q) : vm_T (vm_env l O f9) mL_law (27 * (d + 1)) (2134 * (d + 1)) 230 [(0, .ref 1099511627776), (1, .ref v), (2, .ref (v + 750)), (3, .ref (v + 1002)), (4, .int (nI (6 * n)))] [] h Q := by
  obtain ⟨⟨fs, hv⟩, _, sc⟩ := J_v J
  obtain ⟨z1, ez1, hz1⟩ := is_z (xs (6 * n + 1))
  have a1 : nI (6 * n) + 1 = nI (6 * n + 1) := nI_add _ 1
  obtain ⟨z2, ez2, hz2⟩ := is_z (xs (6 * n + 2))
  have a2 : nI (6 * n) + 2 = nI (6 * n + 2) := nI_add _ 2
  refine vm_go rfl bL_law_230 oL_law_230 ⟨L, xs, sc, 6 * n + 1, a1, by omega, fun _ => ?_⟩
  rw [ez1]
  refine ⟨L, xs, sc, 6 * n + 2, a2, by omega, fun _ => ?_⟩
  rw [ez2]
  refine ⟨_, hv, 0, 0, _, pj_again h9 hz1 hz2 hn J, (by omega), (by omega), ?_⟩
  rintro _ h1 ⟨x, rfl, C2, ⟨fs1, hv1⟩, sc1⟩
  refine ⟨L, xs, sc1, 6 * n + 1, a1, by omega, fun _ => ?_⟩
  rw [ez1]
  refine ⟨L, xs, sc1, 6 * n + 2, a2, by omega, fun _ => ?_⟩
  rw [ez2]
  refine ⟨_, hv1, 0, 0, _, C2, Nat.zero_le _, Nat.zero_le _, ?_⟩
  rintro _ h2 ⟨rfl, J2⟩
  exact ⟨fun _ => vm_more (nx h2 J2) (by omega) (by omega), fun q => absurd rfl q⟩
theorem ca_3 (h9 : f9.category = 1) (hn : n < 512) (hi : 6 * n + 6 ≤ L) (hL : L ≤ 3072) (J : JS v L xs t n h) (nx : ∀ h2, JS v L xs t (n + 1) h2 → vm_T (vm_env l O f9) mL_law (27 * d) (2134 * d) 762 [(0, .ref 1099511627776), (1, .ref v), (2, .ref (v + 750)), (3, .ref (v + 1002)), (4, .int (nI (6 * n)))] [] h2 Q) : vm_T (vm_env l O f9) mL_law (27 * (d + 1)) (2134 * (d + 1)) 267 [(0, .ref 1099511627776), (1, .ref v), (2, .ref (v + 750)), (3, .ref (v + 1002)), (4, .int (nI (6 * n)))] [] h Q := by
  obtain ⟨⟨fs, hv⟩, _, sc⟩ := J_v J
  obtain ⟨z1, ez1, hz1⟩ := is_z (xs (6 * n + 1))
  have a1 : nI (6 * n) + 1 = nI (6 * n + 1) := nI_add _ 1
  refine vm_go rfl bL_law_267 oL_law_267 ⟨L, xs, sc, 6 * n + 1, a1, by omega, fun _ => ?_⟩
  rw [ez1]
  refine ⟨_, hv, 0, 0, _, pj_out h9 hz1 hn J, (by omega), (by omega), ?_⟩
  rintro _ h1 ⟨x, rfl, C2, ⟨fs1, hv1⟩, sc1⟩
  refine ⟨L, xs, sc1, 6 * n + 1, a1, by omega, fun _ => ?_⟩
  rw [ez1]
  refine ⟨_, hv1, 0, 0, _, C2, Nat.zero_le _, Nat.zero_le _, ?_⟩
  rintro _ h2 ⟨rfl, J2⟩
  exact ⟨fun _ => vm_more (nx h2 J2) (by omega) (by omega), fun q => absurd rfl q⟩
theorem ca_4 (h9 : f9.category = 1) (hn : n < 512) (hi : 6 * n + 6 ≤ L) (hL : L ≤ 3072) (J : JS v L xs t n h) (nx : ∀ h2, JS v L xs t (n + 1) h2 → vm_T (vm_env l O f9) mL_law (27 * d) (2134 * d) 762 [(0, .ref 1099511627776), (1, .ref v), (2, .ref (v + 750)), (3, .ref (v + 1002)), (4, .int (nI (6 * n)))] [] h2 Q) : vm_T (vm_env l O f9) mL_law (27 * (d + 1)) (2134 * (d + 1)) 292 [(0, .ref 1099511627776), (1, .ref v), (2, .ref (v + 750)), (3, .ref (v + 1002)), (4, .int (nI (6 * n)))] [] h Q := by
  obtain ⟨⟨fs, hv⟩, _, sc⟩ := J_v J
  refine vm_go rfl bL_law_292 oL_law_292 ⟨_, hv, 0, 0, _, pj_outs h9  hn J, (by omega), (by omega), ?_⟩
  rintro _ h1 ⟨x, rfl, C2, ⟨fs1, hv1⟩, sc1⟩
  refine ⟨_, hv1, 0, 0, _, C2, Nat.zero_le _, Nat.zero_le _, ?_⟩
  rintro _ h2 ⟨rfl, J2⟩
  exact ⟨fun _ => vm_more (nx h2 J2) (by omega) (by omega), fun q => absurd rfl q⟩
theorem ca_5 (h9 : f9.category = 1) (hn : n < 512) (hi : 6 * n + 6 ≤ L) (hL : L ≤ 3072) (J : JS v L xs t n h) (nx : ∀ h2, JS v L xs t (n + 1) h2 → vm_T (vm_env l O f9) mL_law (27 * d) (2134 * d) 762 [(0, .ref 1099511627776), (1, .ref v), (2, .ref (v + 750)), (3, .ref (v + 1002)), (4, .int (nI (6 * n)))] [] h2 Q) : vm_T (vm_env l O f9) mL_law (27 * (d + 1)) (2134 * (d + 1)) 305 [(0, .ref 1099511627776), (1, .ref v), (2, .ref (v + 750)), (3, .ref (v + 1002)), (4, .int (nI (6 * n)))] [] h Q := by
  obtain ⟨⟨fs, hv⟩, _, sc⟩ := J_v J
  obtain ⟨z1, ez1, hz1⟩ := is_z (xs (6 * n + 1))
  have a1 : nI (6 * n) + 1 = nI (6 * n + 1) := nI_add _ 1
  refine vm_go rfl bL_law_305 oL_law_305 ⟨L, xs, sc, 6 * n + 1, a1, by omega, fun _ => ?_⟩
  rw [ez1]
  refine ⟨_, hv, 27, 2134, _, pj_key h9 hz1 hn J, (by omega), (by omega), ?_⟩
  rintro _ h1 ⟨x, rfl, C2, ⟨fs1, hv1⟩, sc1⟩
  refine ⟨L, xs, sc1, 6 * n + 1, a1, by omega, fun _ => ?_⟩
  rw [ez1]
  refine ⟨_, hv1, 0, 0, _, C2, Nat.zero_le _, Nat.zero_le _, ?_⟩
  rintro _ h2 ⟨rfl, J2⟩
  exact ⟨fun _ => vm_more (nx h2 J2) (by omega) (by omega), fun q => absurd rfl q⟩
theorem ca_8 (h9 : f9.category = 1) (hn : n < 512) (hi : 6 * n + 6 ≤ L) (hL : L ≤ 3072) (J : JS v L xs t n h) (nx : ∀ h2, JS v L xs t (n + 1) h2 → vm_T (vm_env l O f9) mL_law (27 * d) (2134 * d) 762 [(0, .ref 1099511627776), (1, .ref v), (2, .ref (v + 750)), (3, .ref (v + 1002)), (4, .int (nI (6 * n)))] [] h2 Q) : vm_T (vm_env l O f9) mL_law (27 * (d + 1)) (2134 * (d + 1)) 461 [(0, .ref 1099511627776), (1, .ref v), (2, .ref (v + 750)), (3, .ref (v + 1002)), (4, .int (nI (6 * n)))] [] h Q := by
  obtain ⟨⟨fs, hv⟩, _, sc⟩ := J_v J
  refine vm_go rfl bL_law_461 oL_law_461 ⟨_, hv, 0, 0, _, pj_digest h9  hn J, (by omega), (by omega), ?_⟩
  rintro _ h1 ⟨x, rfl, C2, ⟨fs1, hv1⟩, sc1⟩
  refine ⟨_, hv1, 0, 0, _, C2, Nat.zero_le _, Nat.zero_le _, ?_⟩
  rintro _ h2 ⟨rfl, J2⟩
  exact ⟨fun _ => vm_more (nx h2 J2) (by omega) (by omega), fun q => absurd rfl q⟩
theorem ca_9 (h9 : f9.category = 1) (hn : n < 512) (hi : 6 * n + 6 ≤ L) (hL : L ≤ 3072) (J : JS v L xs t n h) (nx : ∀ h2, JS v L xs t (n + 1) h2 → vm_T (vm_env l O f9) mL_law (27 * d) (2134 * d) 762 [(0, .ref 1099511627776), (1, .ref v), (2, .ref (v + 750)), (3, .ref (v + 1002)), (4, .int (nI (6 * n)))] [] h2 Q) : vm_T (vm_env l O f9) mL_law (27 * (d + 1)) (2134 * (d + 1)) 474 [(0, .ref 1099511627776), (1, .ref v), (2, .ref (v + 750)), (3, .ref (v + 1002)), (4, .int (nI (6 * n)))] [] h Q := by
  obtain ⟨⟨fs, hv⟩, _, sc⟩ := J_v J
  obtain ⟨z1, ez1, hz1⟩ := is_z (xs (6 * n + 1))
  have a1 : nI (6 * n) + 1 = nI (6 * n + 1) := nI_add _ 1
  refine vm_go rfl bL_law_474 oL_law_474 ⟨L, xs, sc, 6 * n + 1, a1, by omega, fun _ => ?_⟩
  rw [ez1]
  refine ⟨_, hv, 4, 615, _, pj_request h9 hz1 hn J, (by omega), (by omega), ?_⟩
  rintro _ h1 ⟨x, rfl, C2, ⟨fs1, hv1⟩, sc1⟩
  refine ⟨L, xs, sc1, 6 * n + 1, a1, by omega, fun _ => ?_⟩
  rw [ez1]
  refine ⟨_, hv1, 0, 0, _, C2, Nat.zero_le _, Nat.zero_le _, ?_⟩
  rintro _ h2 ⟨rfl, J2⟩
  exact ⟨fun _ => vm_more (nx h2 J2) (by omega) (by omega), fun q => absurd rfl q⟩
theorem ca_10 (h9 : f9.category = 1) (hn : n < 512) (hi : 6 * n + 6 ≤ L) (hL : L ≤ 3072) (J : JS v L xs t n h) (nx : ∀ h2, JS v L xs t (n + 1) h2 → vm_T (vm_env l O f9) mL_law (27 * d) (2134 * d) 762 [(0, .ref 1099511627776), (1, .ref v), (2, .ref (v + 750)), (3, .ref (v + 1002)), (4, .int (nI (6 * n)))] [] h2 Q) : vm_T (vm_env l O f9) mL_law (27 * (d + 1)) (2134 * (d + 1)) 499 [(0, .ref 1099511627776), (1, .ref v), (2, .ref (v + 750)), (3, .ref (v + 1002)), (4, .int (nI (6 * n)))] [] h Q := by
  obtain ⟨⟨fs, hv⟩, _, sc⟩ := J_v J
  refine vm_go rfl bL_law_499 oL_law_499 ⟨_, hv, 0, 0, _, pj_issue h9  hn J, (by omega), (by omega), ?_⟩
  rintro _ h1 ⟨x, rfl, C2, ⟨fs1, hv1⟩, sc1⟩
  refine ⟨_, hv1, 0, 0, _, C2, Nat.zero_le _, Nat.zero_le _, ?_⟩
  rintro _ h2 ⟨rfl, J2⟩
  exact ⟨fun _ => vm_more (nx h2 J2) (by omega) (by omega), fun q => absurd rfl q⟩
theorem ca_11 (h9 : f9.category = 1) (hn : n < 512) (hi : 6 * n + 6 ≤ L) (hL : L ≤ 3072) (J : JS v L xs t n h) (nx : ∀ h2, JS v L xs t (n + 1) h2 → vm_T (vm_env l O f9) mL_law (27 * d) (2134 * d) 762 [(0, .ref 1099511627776), (1, .ref v), (2, .ref (v + 750)), (3, .ref (v + 1002)), (4, .int (nI (6 * n)))] [] h2 Q) : vm_T (vm_env l O f9) mL_law (27 * (d + 1)) (2134 * (d + 1)) 512 [(0, .ref 1099511627776), (1, .ref v), (2, .ref (v + 750)), (3, .ref (v + 1002)), (4, .int (nI (6 * n)))] [] h Q := by
  obtain ⟨⟨fs, hv⟩, _, sc⟩ := J_v J
  obtain ⟨z1, ez1, hz1⟩ := is_z (xs (6 * n + 1))
  have a1 : nI (6 * n) + 1 = nI (6 * n + 1) := nI_add _ 1
  refine vm_go rfl bL_law_512 oL_law_512 ⟨L, xs, sc, 6 * n + 1, a1, by omega, fun _ => ?_⟩
  rw [ez1]
  refine ⟨_, hv, 0, 0, _, pj_issueMany h9 hz1 hn J, (by omega), (by omega), ?_⟩
  rintro _ h1 ⟨x, rfl, C2, ⟨fs1, hv1⟩, sc1⟩
  refine ⟨L, xs, sc1, 6 * n + 1, a1, by omega, fun _ => ?_⟩
  rw [ez1]
  refine ⟨_, hv1, 0, 0, _, C2, Nat.zero_le _, Nat.zero_le _, ?_⟩
  rintro _ h2 ⟨rfl, J2⟩
  exact ⟨fun _ => vm_more (nx h2 J2) (by omega) (by omega), fun q => absurd rfl q⟩
theorem ca_14 (h9 : f9.category = 1) (hn : n < 512) (hi : 6 * n + 6 ≤ L) (hL : L ≤ 3072) (J : JS v L xs t n h) (nx : ∀ h2, JS v L xs t (n + 1) h2 → vm_T (vm_env l O f9) mL_law (27 * d) (2134 * d) 762 [(0, .ref 1099511627776), (1, .ref v), (2, .ref (v + 750)), (3, .ref (v + 1002)), (4, .int (nI (6 * n)))] [] h2 Q) : vm_T (vm_env l O f9) mL_law (27 * (d + 1)) (2134 * (d + 1)) 661 [(0, .ref 1099511627776), (1, .ref v), (2, .ref (v + 750)), (3, .ref (v + 1002)), (4, .int (nI (6 * n)))] [] h Q := by
  obtain ⟨⟨fs, hv⟩, _, sc⟩ := J_v J
  refine vm_go rfl bL_law_661 oL_law_661 ⟨_, hv, 0, 0, _, pj_redeem h9  hn J, (by omega), (by omega), ?_⟩
  rintro _ h1 ⟨x, rfl, C2, ⟨fs1, hv1⟩, sc1⟩
  refine ⟨_, hv1, 0, 0, _, C2, Nat.zero_le _, Nat.zero_le _, ?_⟩
  rintro _ h2 ⟨rfl, J2⟩
  exact ⟨fun _ => vm_more (nx h2 J2) (by omega) (by omega), fun q => absurd rfl q⟩
theorem ca_15 (h9 : f9.category = 1) (hn : n < 512) (hi : 6 * n + 6 ≤ L) (hL : L ≤ 3072) (J : JS v L xs t n h) (nx : ∀ h2, JS v L xs t (n + 1) h2 → vm_T (vm_env l O f9) mL_law (27 * d) (2134 * d) 762 [(0, .ref 1099511627776), (1, .ref v), (2, .ref (v + 750)), (3, .ref (v + 1002)), (4, .int (nI (6 * n)))] [] h2 Q) : vm_T (vm_env l O f9) mL_law (27 * (d + 1)) (2134 * (d + 1)) 674 [(0, .ref 1099511627776), (1, .ref v), (2, .ref (v + 750)), (3, .ref (v + 1002)), (4, .int (nI (6 * n)))] [] h Q := by
  obtain ⟨⟨fs, hv⟩, _, sc⟩ := J_v J
  obtain ⟨z1, ez1, hz1⟩ := is_z (xs (6 * n + 1))
  have a1 : nI (6 * n) + 1 = nI (6 * n + 1) := nI_add _ 1
  refine vm_go rfl bL_law_674 oL_law_674 ⟨L, xs, sc, 6 * n + 1, a1, by omega, fun _ => ?_⟩
  rw [ez1]
  refine ⟨_, hv, 0, 0, _, pj_cut h9 hz1 hn J, (by omega), (by omega), ?_⟩
  rintro _ h1 ⟨x, rfl, C2, ⟨fs1, hv1⟩, sc1⟩
  refine ⟨L, xs, sc1, 6 * n + 1, a1, by omega, fun _ => ?_⟩
  rw [ez1]
  refine ⟨_, hv1, 0, 0, _, C2, Nat.zero_le _, Nat.zero_le _, ?_⟩
  rintro _ h2 ⟨rfl, J2⟩
  exact ⟨fun _ => vm_more (nx h2 J2) (by omega) (by omega), fun q => absurd rfl q⟩
theorem ca_16 (h9 : f9.category = 1) (hn : n < 512) (hi : 6 * n + 6 ≤ L) (hL : L ≤ 3072) (J : JS v L xs t n h) (nx : ∀ h2, JS v L xs t (n + 1) h2 → vm_T (vm_env l O f9) mL_law (27 * d) (2134 * d) 762 [(0, .ref 1099511627776), (1, .ref v), (2, .ref (v + 750)), (3, .ref (v + 1002)), (4, .int (nI (6 * n)))] [] h2 Q) : vm_T (vm_env l O f9) mL_law (27 * (d + 1)) (2134 * (d + 1)) 699 [(0, .ref 1099511627776), (1, .ref v), (2, .ref (v + 750)), (3, .ref (v + 1002)), (4, .int (nI (6 * n)))] [] h Q := by
  obtain ⟨⟨fs, hv⟩, _, sc⟩ := J_v J
  refine vm_go rfl bL_law_699 oL_law_699 ⟨_, hv, 0, 0, _, pj_power h9  hn J, (by omega), (by omega), ?_⟩
  rintro _ h1 ⟨x, rfl, C2, ⟨fs1, hv1⟩, sc1⟩
  refine ⟨_, hv1, 0, 0, _, C2, Nat.zero_le _, Nat.zero_le _, ?_⟩
  rintro _ h2 ⟨rfl, J2⟩
  exact ⟨fun _ => vm_more (nx h2 J2) (by omega) (by omega), fun q => absurd rfl q⟩
theorem ca_17 (h9 : f9.category = 1) (hn : n < 512) (hi : 6 * n + 6 ≤ L) (hL : L ≤ 3072) (J : JS v L xs t n h) (nx : ∀ h2, JS v L xs t (n + 1) h2 → vm_T (vm_env l O f9) mL_law (27 * d) (2134 * d) 762 [(0, .ref 1099511627776), (1, .ref v), (2, .ref (v + 750)), (3, .ref (v + 1002)), (4, .int (nI (6 * n)))] [] h2 Q) : vm_T (vm_env l O f9) mL_law (27 * (d + 1)) (2134 * (d + 1)) 712 [(0, .ref 1099511627776), (1, .ref v), (2, .ref (v + 750)), (3, .ref (v + 1002)), (4, .int (nI (6 * n)))] [] h Q := by
  obtain ⟨⟨fs, hv⟩, _, sc⟩ := J_v J
  obtain ⟨z1, ez1, hz1⟩ := is_z (xs (6 * n + 1))
  have a1 : nI (6 * n) + 1 = nI (6 * n + 1) := nI_add _ 1
  refine vm_go rfl bL_law_712 oL_law_712 ⟨L, xs, sc, 6 * n + 1, a1, by omega, fun _ => ?_⟩
  rw [ez1]
  refine ⟨_, hv, 0, 0, _, pj_disk h9 hz1 hn J, (by omega), (by omega), ?_⟩
  rintro _ h1 ⟨x, rfl, C2, ⟨fs1, hv1⟩, sc1⟩
  refine ⟨L, xs, sc1, 6 * n + 1, a1, by omega, fun _ => ?_⟩
  rw [ez1]
  refine ⟨_, hv1, 0, 0, _, C2, Nat.zero_le _, Nat.zero_le _, ?_⟩
  rintro _ h2 ⟨rfl, J2⟩
  exact ⟨fun _ => vm_more (nx h2 J2) (by omega) (by omega), fun q => absurd rfl q⟩
theorem ca_18 (h9 : f9.category = 1) (hn : n < 512) (hi : 6 * n + 6 ≤ L) (hL : L ≤ 3072) (J : JS v L xs t n h) (nx : ∀ h2, JS v L xs t (n + 1) h2 → vm_T (vm_env l O f9) mL_law (27 * d) (2134 * d) 762 [(0, .ref 1099511627776), (1, .ref v), (2, .ref (v + 750)), (3, .ref (v + 1002)), (4, .int (nI (6 * n)))] [] h2 Q) : vm_T (vm_env l O f9) mL_law (27 * (d + 1)) (2134 * (d + 1)) 737 [(0, .ref 1099511627776), (1, .ref v), (2, .ref (v + 750)), (3, .ref (v + 1002)), (4, .int (nI (6 * n)))] [] h Q := by
  obtain ⟨⟨fs, hv⟩, _, sc⟩ := J_v J
  obtain ⟨z1, ez1, hz1⟩ := is_z (xs (6 * n + 1))
  have a1 : nI (6 * n) + 1 = nI (6 * n + 1) := nI_add _ 1
  refine vm_go rfl bL_law_737 oL_law_737 ⟨L, xs, sc, 6 * n + 1, a1, by omega, fun _ => ?_⟩
  rw [ez1]
  refine ⟨_, hv, 0, 0, _, pj_count h9 hz1 hn J, (by omega), (by omega), ?_⟩
  rintro _ h1 ⟨x, rfl, C2, ⟨fs1, hv1⟩, sc1⟩
  refine ⟨L, xs, sc1, 6 * n + 1, a1, by omega, fun _ => ?_⟩
  rw [ez1]
  refine ⟨_, hv1, 0, 0, _, C2, Nat.zero_le _, Nat.zero_le _, ?_⟩
  rintro _ h2 ⟨rfl, J2⟩
  exact ⟨fun _ => vm_more (nx h2 J2) (by omega) (by omega), fun q => absurd rfl q⟩
theorem ca_6 (hl : l.stackTraces = false) (h9 : f9.category = 1) (hn : n < 512) (hi : 6 * n + 6 ≤ L) (hL : L ≤ 3072) (J : JS v L xs t n h) (nx : ∀ h2, JS v L xs t (n + 1) h2 → vm_T (vm_env l O f9) mL_law (27 * d) (2134 * d) 762 [(0, .ref 1099511627776), (1, .ref v), (2, .ref (v + 750)), (3, .ref (v + 1002)), (4, .int (nI (6 * n)))] [] h2 Q) : vm_T (vm_env l O f9) mL_law (27 * (d + 1)) (2134 * (d + 1)) 330 [(0, .ref 1099511627776), (1, .ref v), (2, .ref (v + 750)), (3, .ref (v + 1002)), (4, .int (nI (6 * n)))] [] h Q := by
  obtain ⟨⟨fs, hv⟩, _, sc⟩ := J_v J
  obtain ⟨z1, ez1, hz1⟩ := is_z (xs (6 * n + 1))
  have a1 : nI (6 * n) + 1 = nI (6 * n + 1) := nI_add _ 1
  refine vm_go rfl bL_law_330 oL_law_330 ⟨L, xs, sc, 6 * n + 1, a1, by omega, fun _ => ?_⟩
  rw [ez1]
  refine vm_r_callSW (As := [.ref v, .int (iZ z1), .ref (v + 1002)]) (st := []) (z := mL_retire) (by decide +kernel) vm_ww (vm_t5 (List.mem_of_getElem? (i := 145) rfl) rfl) (vm_t1 (List.mem_of_getElem? (i := 0) rfl) rfl) ⟨by decide, by decide⟩ (show (parseMethodDescriptor mL_retire.1.desc).map (fun d => d.parameters.length) = some 3 by decide +kernel) (by decide) (by decide) (vm_t5 (List.mem_of_getElem? (i := 143) rfl) rfl) (vm_t5 (List.mem_of_getElem? (i := 144) rfl) rfl) (pt_retire hl h9 hz1 hn J) (Nat.le_of_ble_eq_true rfl) (by omega) (by omega) ?_
  rintro _ h1 ⟨k5, rfl, C2, ⟨fs1, hv1⟩, sc1⟩
  refine vm_go rfl bL_law_341 oL_law_341 (vm_Th (lv' := [(0, .ref 1099511627776), (1, .ref v), (2, .ref (v + 750)), (3, .ref (v + 1002)), (4, .int (nI (6 * n))), (5, .int k5)]) (h' := h1) rfl rfl ?_)
  refine vm_go rfl bL_law_343 oL_law_343 ⟨L, xs, sc1, 6 * n + 1, a1, by omega, fun _ => ?_⟩
  rw [ez1]
  refine ⟨_, hv1, 0, 0, _, C2, Nat.zero_le _, Nat.zero_le _, ?_⟩
  rintro _ h2 ⟨x6, rfl, J2, T2, out2⟩
  obtain ⟨_, ⟨fs2, hv2⟩, _⟩ := J_v J2
  refine vm_Th (lv' := [(0, .ref 1099511627776), (1, .ref v), (2, .ref (v + 750)), (3, .ref (v + 1002)), (4, .int (nI (6 * n))), (5, .int k5), (6, .int x6)]) (h' := h2) rfl rfl ?_
  refine vm_go rfl bL_law_355 oL_law_355 ⟨_, hv2, 0, 0, _, T2, Nat.zero_le _, Nat.zero_le _, ?_⟩
  rintro _ h3 ⟨rfl, e3⟩
  rw [e3]; clear e3 h3
  refine ⟨fun _ => ?_, fun q => absurd rfl q⟩
  have fin : vm_T (vm_env l O f9) mL_law (27 * d) (2134 * d) 390 [(0, .ref 1099511627776), (1, .ref v), (2, .ref (v + 750)), (3, .ref (v + 1002)), (4, .int (nI (6 * n))), (5, .int k5), (6, .int x6)] [] h2 Q := vm_go rfl bL_law_390 oL_law_390 (vm_less [0, 1, 2, 3, 4] rfl (nx h2 J2))
  by_cases c5 : k5 = 0
  · obtain ⟨gg, eg, vg⟩ := out2 c5
    obtain ⟨b, eb, vg⟩ := vg
    have s384 : vm_T (vm_env l O f9) mL_law (27 * d) (2134 * d) 384 [(0, .ref 1099511627776), (1, .ref v), (2, .ref (v + 750)), (3, .ref (v + 1002)), (4, .int (nI (6 * n))), (5, .int k5), (6, .int x6)] [.long (gg 0), .long (gg 0)] h2 Q := vm_go rfl bL_law_384 oL_law_384 ⟨fun _ => fin, fun q => absurd lc_ee q⟩
    refine vm_go rfl bL_law_366 oL_law_366 ⟨fun q => absurd c5 q, fun _ => ⟨1, gg, eg, 0, rfl, by decide, ?_⟩⟩
    cases b with
    | true =>
      rw [eb]
      refine ⟨fun q => absurd q (by decide), fun _ => ?_⟩
      rw [vg, eb] at s384
      rw [vg]
      exact vm_more s384 (by omega) (by omega)
    | false =>
      rw [eb]
      refine ⟨fun _ => ?_, fun q => absurd rfl q⟩
      rw [vg, eb] at s384
      rw [vg]
      exact vm_go rfl bL_law_383 oL_law_383 (vm_more s384 (by omega) (by omega))
  · exact vm_go rfl bL_law_366 oL_law_366 ⟨fun _ => vm_more fin (by omega) (by omega), fun q => absurd q c5⟩
theorem ca_7 (hl : l.stackTraces = false) (h9 : f9.category = 1) (hn : n < 512) (hi : 6 * n + 6 ≤ L) (hL : L ≤ 3072) (J : JS v L xs t n h) (nx : ∀ h2, JS v L xs t (n + 1) h2 → vm_T (vm_env l O f9) mL_law (27 * d) (2134 * d) 762 [(0, .ref 1099511627776), (1, .ref v), (2, .ref (v + 750)), (3, .ref (v + 1002)), (4, .int (nI (6 * n)))] [] h2 Q) : vm_T (vm_env l O f9) mL_law (27 * (d + 1)) (2134 * (d + 1)) 393 [(0, .ref 1099511627776), (1, .ref v), (2, .ref (v + 750)), (3, .ref (v + 1002)), (4, .int (nI (6 * n)))] [] h Q := by
  obtain ⟨⟨fs, hv⟩, _, sc⟩ := J_v J
  obtain ⟨z1, ez1, hz1⟩ := is_z (xs (6 * n + 1))
  have a1 : nI (6 * n) + 1 = nI (6 * n + 1) := nI_add _ 1
  obtain ⟨z2, ez2, hz2⟩ := is_z (xs (6 * n + 2))
  have a2 : nI (6 * n) + 2 = nI (6 * n + 2) := nI_add _ 2
  refine vm_go rfl bL_law_393 oL_law_393 ⟨L, xs, sc, 6 * n + 1, a1, by omega, fun _ => ?_⟩
  rw [ez1]
  refine ⟨L, xs, sc, 6 * n + 2, a2, by omega, fun _ => ?_⟩
  rw [ez2]
  refine vm_r_callSW (As := [.ref v, .int (iZ z1), .int (iZ z2), .ref (v + 1002)]) (st := []) (z := mL_look) (by decide +kernel) vm_ww (vm_t5 (List.mem_of_getElem? (i := 218) rfl) rfl) (vm_t1 (List.mem_of_getElem? (i := 0) rfl) rfl) ⟨by decide, by decide⟩ (show (parseMethodDescriptor mL_look.1.desc).map (fun d => d.parameters.length) = some 4 by decide +kernel) (by decide) (by decide) (vm_t5 (List.mem_of_getElem? (i := 216) rfl) rfl) (vm_t5 (List.mem_of_getElem? (i := 217) rfl) rfl) (pt_look hl h9 hz1 hz2 hn J) (Nat.le_of_ble_eq_true rfl) (by omega) (by omega) ?_
  rintro _ h1 ⟨k5, rfl, C2, ⟨fs1, hv1⟩, sc1⟩
  refine vm_go rfl bL_law_410 oL_law_410 (vm_Th (lv' := [(0, .ref 1099511627776), (1, .ref v), (2, .ref (v + 750)), (3, .ref (v + 1002)), (4, .int (nI (6 * n))), (5, .int k5)]) (h' := h1) rfl rfl ?_)
  refine vm_go rfl bL_law_412 oL_law_412 ⟨L, xs, sc1, 6 * n + 1, a1, by omega, fun _ => ?_⟩
  rw [ez1]
  refine ⟨L, xs, sc1, 6 * n + 2, a2, by omega, fun _ => ?_⟩
  rw [ez2]
  refine ⟨_, hv1, 0, 0, _, C2, Nat.zero_le _, Nat.zero_le _, ?_⟩
  rintro _ h2 ⟨x6, rfl, J2, T2, out2⟩
  obtain ⟨_, ⟨fs2, hv2⟩, _⟩ := J_v J2
  refine vm_Th (lv' := [(0, .ref 1099511627776), (1, .ref v), (2, .ref (v + 750)), (3, .ref (v + 1002)), (4, .int (nI (6 * n))), (5, .int k5), (6, .int x6)]) (h' := h2) rfl rfl ?_
  refine vm_go rfl bL_law_430 oL_law_430 ⟨_, hv2, 0, 0, _, T2, Nat.zero_le _, Nat.zero_le _, ?_⟩
  rintro _ h3 ⟨rfl, e3⟩
  rw [e3]; clear e3 h3
  refine ⟨fun _ => ?_, fun q => absurd rfl q⟩
  have fin : vm_T (vm_env l O f9) mL_law (27 * d) (2134 * d) 458 [(0, .ref 1099511627776), (1, .ref v), (2, .ref (v + 750)), (3, .ref (v + 1002)), (4, .int (nI (6 * n))), (5, .int k5), (6, .int x6)] [] h2 Q := vm_go rfl bL_law_458 oL_law_458 (vm_less [0, 1, 2, 3, 4] rfl (nx h2 J2))
  by_cases c5 : k5 = 0
  · obtain ⟨gg, eg, vg⟩ := out2 c5
    refine vm_go rfl bL_law_441 oL_law_441 ⟨fun q => absurd c5 q, fun _ => ⟨1, gg, eg, 0, rfl, by decide, ?_⟩⟩
    rw [vg]
    exact ⟨fun _ => vm_more fin (by omega) (by omega), fun q => absurd lc_ee q⟩
  · exact vm_go rfl bL_law_441 oL_law_441 ⟨fun _ => vm_more fin (by omega) (by omega), fun q => absurd q c5⟩
theorem ca_12 (hl : l.stackTraces = false) (h9 : f9.category = 1) (hn : n < 512) (hi : 6 * n + 6 ≤ L) (hL : L ≤ 3072) (J : JS v L xs t n h) (nx : ∀ h2, JS v L xs t (n + 1) h2 → vm_T (vm_env l O f9) mL_law (27 * d) (2134 * d) 762 [(0, .ref 1099511627776), (1, .ref v), (2, .ref (v + 750)), (3, .ref (v + 1002)), (4, .int (nI (6 * n)))] [] h2 Q) : vm_T (vm_env l O f9) mL_law (27 * (d + 1)) (2134 * (d + 1)) 537 [(0, .ref 1099511627776), (1, .ref v), (2, .ref (v + 750)), (3, .ref (v + 1002)), (4, .int (nI (6 * n)))] [] h Q := by
  obtain ⟨⟨fs, hv⟩, _, sc⟩ := J_v J
  obtain ⟨z1, ez1, hz1⟩ := is_z (xs (6 * n + 1))
  have a1 : nI (6 * n) + 1 = nI (6 * n + 1) := nI_add _ 1
  refine vm_go rfl bL_law_537 oL_law_537 ⟨L, xs, sc, 6 * n + 1, a1, by omega, fun _ => ?_⟩
  rw [ez1]
  refine vm_r_callSW (As := [.ref v, .int (iZ z1), .ref (v + 1002)]) (st := []) (z := mL_finalize) (by decide +kernel) vm_ww (vm_t5 (List.mem_of_getElem? (i := 226) rfl) rfl) (vm_t1 (List.mem_of_getElem? (i := 0) rfl) rfl) ⟨by decide, by decide⟩ (show (parseMethodDescriptor mL_finalize.1.desc).map (fun d => d.parameters.length) = some 3 by decide +kernel) (by decide) (by decide) (vm_t5 (List.mem_of_getElem? (i := 224) rfl) rfl) (vm_t5 (List.mem_of_getElem? (i := 225) rfl) rfl) (pt_finalize hl h9 hz1 hn J) (Nat.le_of_ble_eq_true rfl) (by omega) (by omega) ?_
  rintro _ h1 ⟨k5, rfl, C2, ⟨fs1, hv1⟩, sc1⟩
  refine vm_go rfl bL_law_548 oL_law_548 (vm_Th (lv' := [(0, .ref 1099511627776), (1, .ref v), (2, .ref (v + 750)), (3, .ref (v + 1002)), (4, .int (nI (6 * n))), (5, .int k5)]) (h' := h1) rfl rfl ?_)
  refine vm_go rfl bL_law_550 oL_law_550 ⟨L, xs, sc1, 6 * n + 1, a1, by omega, fun _ => ?_⟩
  rw [ez1]
  refine ⟨_, hv1, 0, 0, _, C2, Nat.zero_le _, Nat.zero_le _, ?_⟩
  rintro _ h2 ⟨x6, rfl, J2, T2, out2⟩
  obtain ⟨_, ⟨fs2, hv2⟩, _⟩ := J_v J2
  refine vm_Th (lv' := [(0, .ref 1099511627776), (1, .ref v), (2, .ref (v + 750)), (3, .ref (v + 1002)), (4, .int (nI (6 * n))), (5, .int k5), (6, .int x6)]) (h' := h2) rfl rfl ?_
  refine vm_go rfl bL_law_562 oL_law_562 ⟨_, hv2, 0, 0, _, T2, Nat.zero_le _, Nat.zero_le _, ?_⟩
  rintro _ h3 ⟨rfl, e3⟩
  rw [e3]; clear e3 h3
  refine ⟨fun _ => ?_, fun q => absurd rfl q⟩
  have fin : vm_T (vm_env l O f9) mL_law (27 * d) (2134 * d) 590 [(0, .ref 1099511627776), (1, .ref v), (2, .ref (v + 750)), (3, .ref (v + 1002)), (4, .int (nI (6 * n))), (5, .int k5), (6, .int x6)] [] h2 Q := vm_go rfl bL_law_590 oL_law_590 (vm_less [0, 1, 2, 3, 4] rfl (nx h2 J2))
  by_cases c5 : k5 = 0
  · obtain ⟨gg, eg, vg⟩ := out2 c5
    refine vm_go rfl bL_law_573 oL_law_573 ⟨fun q => absurd c5 q, fun _ => ⟨1, gg, eg, 0, rfl, by decide, ?_⟩⟩
    rw [vg]
    exact ⟨fun _ => vm_more fin (by omega) (by omega), fun q => absurd lc_ee q⟩
  · exact vm_go rfl bL_law_573 oL_law_573 ⟨fun _ => vm_more fin (by omega) (by omega), fun q => absurd q c5⟩
theorem ca_13 (hl : l.stackTraces = false) (h9 : f9.category = 1) (hn : n < 512) (hi : 6 * n + 6 ≤ L) (hL : L ≤ 3072) (J : JS v L xs t n h) (nx : ∀ h2, JS v L xs t (n + 1) h2 → vm_T (vm_env l O f9) mL_law (27 * d) (2134 * d) 762 [(0, .ref 1099511627776), (1, .ref v), (2, .ref (v + 750)), (3, .ref (v + 1002)), (4, .int (nI (6 * n)))] [] h2 Q) : vm_T (vm_env l O f9) mL_law (27 * (d + 1)) (2134 * (d + 1)) 593 [(0, .ref 1099511627776), (1, .ref v), (2, .ref (v + 750)), (3, .ref (v + 1002)), (4, .int (nI (6 * n)))] [] h Q := by
  obtain ⟨⟨fs, hv⟩, _, sc⟩ := J_v J
  obtain ⟨z1, ez1, hz1⟩ := is_z (xs (6 * n + 1))
  have a1 : nI (6 * n) + 1 = nI (6 * n + 1) := nI_add _ 1
  obtain ⟨z2, ez2, hz2⟩ := is_z (xs (6 * n + 2))
  have a2 : nI (6 * n) + 2 = nI (6 * n + 2) := nI_add _ 2
  refine vm_go rfl bL_law_593 oL_law_593 ⟨L, xs, sc, 6 * n + 1, a1, by omega, fun _ => ?_⟩
  rw [ez1]
  refine ⟨L, xs, sc, 6 * n + 2, a2, by omega, fun _ => ?_⟩
  rw [ez2]
  refine vm_r_callSW (As := [.ref v, .int (iZ z1), .int (iZ z2), .ref (v + 1002)]) (st := []) (z := mL_finalizeMany) (by decide +kernel) vm_ww (vm_t6 (List.mem_of_getElem? (i := 30) rfl) rfl) (vm_t1 (List.mem_of_getElem? (i := 0) rfl) rfl) ⟨by decide, by decide⟩ (show (parseMethodDescriptor mL_finalizeMany.1.desc).map (fun d => d.parameters.length) = some 4 by decide +kernel) (by decide) (by decide) (vm_t6 (List.mem_of_getElem? (i := 28) rfl) rfl) (vm_t6 (List.mem_of_getElem? (i := 29) rfl) rfl) (pt_finalizeMany hl h9 hz1 hz2 hn J) (Nat.le_of_ble_eq_true rfl) (by omega) (by omega) ?_
  rintro _ h1 ⟨k5, rfl, C2, ⟨fs1, hv1⟩, sc1⟩
  refine vm_go rfl bL_law_610 oL_law_610 (vm_Th (lv' := [(0, .ref 1099511627776), (1, .ref v), (2, .ref (v + 750)), (3, .ref (v + 1002)), (4, .int (nI (6 * n))), (5, .int k5)]) (h' := h1) rfl rfl ?_)
  refine vm_go rfl bL_law_612 oL_law_612 ⟨L, xs, sc1, 6 * n + 1, a1, by omega, fun _ => ?_⟩
  rw [ez1]
  refine ⟨L, xs, sc1, 6 * n + 2, a2, by omega, fun _ => ?_⟩
  rw [ez2]
  refine ⟨_, hv1, 0, 0, _, C2, Nat.zero_le _, Nat.zero_le _, ?_⟩
  rintro _ h2 ⟨x6, rfl, J2, T2, out2⟩
  obtain ⟨_, ⟨fs2, hv2⟩, _⟩ := J_v J2
  refine vm_Th (lv' := [(0, .ref 1099511627776), (1, .ref v), (2, .ref (v + 750)), (3, .ref (v + 1002)), (4, .int (nI (6 * n))), (5, .int k5), (6, .int x6)]) (h' := h2) rfl rfl ?_
  refine vm_go rfl bL_law_630 oL_law_630 ⟨_, hv2, 0, 0, _, T2, Nat.zero_le _, Nat.zero_le _, ?_⟩
  rintro _ h3 ⟨rfl, e3⟩
  rw [e3]; clear e3 h3
  refine ⟨fun _ => ?_, fun q => absurd rfl q⟩
  have fin : vm_T (vm_env l O f9) mL_law (27 * d) (2134 * d) 658 [(0, .ref 1099511627776), (1, .ref v), (2, .ref (v + 750)), (3, .ref (v + 1002)), (4, .int (nI (6 * n))), (5, .int k5), (6, .int x6)] [] h2 Q := vm_go rfl bL_law_658 oL_law_658 (vm_less [0, 1, 2, 3, 4] rfl (nx h2 J2))
  by_cases c5 : k5 = 0
  · obtain ⟨gg, eg, vg⟩ := out2 c5
    refine vm_go rfl bL_law_641 oL_law_641 ⟨fun q => absurd c5 q, fun _ => ⟨1, gg, eg, 0, rfl, by decide, ?_⟩⟩
    rw [vg]
    exact ⟨fun _ => vm_more fin (by omega) (by omega), fun q => absurd lc_ee q⟩
  · exact vm_go rfl bL_law_641 oL_law_641 ⟨fun _ => vm_more fin (by omega) (by omega), fun q => absurd q c5⟩
end
