/-! new Mod, new Spot, new reference -/
def bX14_initx_0 : List vm_J := [(1, .aload_n 0, 0, 0, 0, .null), (3, .invokespecial 443, 9999, 0, 0, .null), (1, .aload_n 0, 0, 0, 0, .null), (3, .sipush 130, 0, 0, 0, .int 130), (2, .newarray .int, 0, 0, 0, .null), (3, .putfield 36, 14, 1, 4, .null), (1, .aload_n 0, 0, 0, 0, .null), (2, .bipush 64, 0, 0, 0, .int 64), (2, .newarray .int, 0, 0, 0, .null), (3, .putfield 65, 14, 2, 4, .null), (1, .aload_n 0, 0, 0, 0, .null), (2, .bipush 64, 0, 0, 0, .int 64), (2, .newarray .int, 0, 0, 0, .null), (3, .putfield 72, 14, 3, 4, .null), (1, .aload_n 0, 0, 0, 0, .null), (2, .bipush 64, 0, 0, 0, .int 64), (2, .newarray .int, 0, 0, 0, .null), (3, .putfield 87, 14, 4, 4, .null), (1, .aload_n 0, 0, 0, 0, .null), (2, .bipush 64, 0, 0, 0, .int 64), (2, .newarray .int, 0, 0, 0, .null), (3, .putfield 90, 14, 5, 4, .null), (1, .aload_n 0, 0, 0, 0, .null), (2, .bipush 64, 0, 0, 0, .int 64), (2, .newarray .int, 0, 0, 0, .null), (3, .putfield 93, 14, 6, 4, .null)]
set_option maxRecDepth 20000 in
theorem oX14_initx_0 : vm_okB 14 mX14_init 0 bX14_initx_0 = true := by decide +kernel
def bX14_initx_53 : List vm_J := [(1, .aload_n 0, 0, 0, 0, .null), (2, .bipush 64, 0, 0, 0, .int 64), (2, .newarray .int, 0, 0, 0, .null), (3, .putfield 96, 14, 7, 4, .null), (1, .aload_n 0, 0, 0, 0, .null), (3, .new 14, 12, 0, 0, .null), (1, .dup, 0, 0, 0, .null), (3, .invokespecial 448, 132, 0, 0, .null), (3, .putfield 126, 14, 8, 4, .null), (1, .aload_n 0, 0, 0, 0, .null), (3, .new 14, 12, 0, 0, .null), (1, .dup, 0, 0, 0, .null), (3, .invokespecial 448, 132, 0, 0, .null), (3, .putfield 322, 14, 9, 4, .null), (1, .aload_n 0, 0, 0, 0, .null), (3, .new 114, 13, 0, 0, .null), (1, .dup, 0, 0, 0, .null), (3, .invokespecial 449, 135, 0, 0, .null), (3, .putfield 423, 14, 10, 4, .null), (1, .aload_n 0, 0, 0, 0, .null), (3, .new 114, 13, 0, 0, .null), (1, .dup, 0, 0, 0, .null), (3, .invokespecial 449, 135, 0, 0, .null), (3, .putfield 153, 14, 11, 4, .null), (1, .aload_n 0, 0, 0, 0, .null), (3, .new 114, 13, 0, 0, .null), (1, .dup, 0, 0, 0, .null), (3, .invokespecial 449, 135, 0, 0, .null), (3, .putfield 149, 14, 12, 4, .null)]
set_option maxRecDepth 20000 in
theorem oX14_initx_53 : vm_okB 14 mX14_init 53 bX14_initx_53 = true := by decide +kernel
def bX14_initx_116 : List vm_J := [(1, .aload_n 0, 0, 0, 0, .null), (2, .bipush 12, 0, 0, 0, .int 12), (2, .newarray .int, 0, 0, 0, .null), (3, .putfield 139, 14, 13, 4, .null), (1, .aload_n 0, 0, 0, 0, .null), (2, .bipush 12, 0, 0, 0, .int 12), (2, .newarray .int, 0, 0, 0, .null), (3, .putfield 133, 14, 14, 4, .null), (1, .aload_n 0, 0, 0, 0, .null), (2, .bipush 12, 0, 0, 0, .int 12), (2, .newarray .int, 0, 0, 0, .null), (3, .putfield 146, 14, 15, 4, .null), (1, .aload_n 0, 0, 0, 0, .null), (2, .bipush 12, 0, 0, 0, .int 12), (2, .newarray .int, 0, 0, 0, .null), (3, .putfield 166, 14, 16, 4, .null), (1, .aload_n 0, 0, 0, 0, .null), (2, .bipush 12, 0, 0, 0, .int 12), (2, .newarray .int, 0, 0, 0, .null), (3, .putfield 163, 14, 17, 4, .null), (1, .aload_n 0, 0, 0, 0, .null), (3, .sipush 2600, 0, 0, 0, .int 2600), (2, .newarray .byte, 0, 0, 0, .null), (3, .putfield 199, 14, 18, 4, .null)]
set_option maxRecDepth 20000 in
theorem oX14_initx_116 : vm_okB 14 mX14_init 116 bX14_initx_116 = true := by decide +kernel
def bX14_initx_165 : List vm_J := [(1, .aload_n 0, 0, 0, 0, .null), (2, .bipush 48, 0, 0, 0, .int 48), (2, .newarray .byte, 0, 0, 0, .null), (3, .putfield 243, 14, 20, 4, .null), (1, .aload_n 0, 0, 0, 0, .null), (2, .bipush 8, 0, 0, 0, .int 8), (2, .newarray .int, 0, 0, 0, .null), (3, .putfield 234, 14, 21, 4, .null), (1, .aload_n 0, 0, 0, 0, .null), (2, .bipush 64, 0, 0, 0, .int 64), (2, .newarray .int, 0, 0, 0, .null), (3, .putfield 246, 14, 22, 4, .null), (1, .aload_n 0, 0, 0, 0, .null), (2, .bipush 8, 0, 0, 0, .int 8), (2, .newarray .long, 0, 0, 0, .null), (3, .putfield 256, 14, 23, 4, .null), (1, .aload_n 0, 0, 0, 0, .null), (2, .bipush 80, 0, 0, 0, .int 80), (2, .newarray .long, 0, 0, 0, .null), (3, .putfield 266, 14, 24, 4, .null), (1, .aload_n 0, 0, 0, 0, .null), (3, .sipush 700, 0, 0, 0, .int 700), (2, .newarray .byte, 0, 0, 0, .null), (3, .putfield 290, 14, 25, 4, .null)]
set_option maxRecDepth 20000 in
theorem oX14_initx_165 : vm_okB 14 mX14_init 165 bX14_initx_165 = true := by decide +kernel
def bX14_initx_214 : List vm_J := [(1, .aload_n 0, 0, 0, 0, .null), (2, .bipush 48, 0, 0, 0, .int 48), (2, .newarray .byte, 0, 0, 0, .null), (3, .putfield 281, 14, 27, 4, .null), (1, .aload_n 0, 0, 0, 0, .null), (2, .bipush 48, 0, 0, 0, .int 48), (2, .newarray .byte, 0, 0, 0, .null), (3, .putfield 305, 14, 29, 4, .null), (1, .aload_n 0, 0, 0, 0, .null), (2, .bipush 48, 0, 0, 0, .int 48), (2, .newarray .byte, 0, 0, 0, .null), (3, .putfield 308, 14, 30, 4, .null), (1, .aload_n 0, 0, 0, 0, .null), (3, .sipush 144, 0, 0, 0, .int 144), (2, .newarray .byte, 0, 0, 0, .null), (3, .putfield 311, 14, 31, 4, .null), (1, .aload_n 0, 0, 0, 0, .null), (3, .new 114, 13, 0, 0, .null), (1, .dup, 0, 0, 0, .null), (3, .invokespecial 449, 135, 0, 0, .null), (3, .putfield 353, 14, 32, 4, .null), (1, .aload_n 0, 0, 0, 0, .null), (2, .bipush 12, 0, 0, 0, .int 12), (2, .newarray .int, 0, 0, 0, .null), (3, .putfield 328, 14, 33, 4, .null)]
set_option maxRecDepth 20000 in
theorem oX14_initx_214 : vm_okB 14 mX14_init 214 bX14_initx_214 = true := by decide +kernel
def bX14_initx_266 : List vm_J := [(1, .aload_n 0, 0, 0, 0, .null), (2, .bipush 12, 0, 0, 0, .int 12), (2, .newarray .int, 0, 0, 0, .null), (3, .putfield 330, 14, 34, 4, .null), (1, .aload_n 0, 0, 0, 0, .null), (2, .bipush 12, 0, 0, 0, .int 12), (2, .newarray .int, 0, 0, 0, .null), (3, .putfield 336, 14, 35, 4, .null), (1, .aload_n 0, 0, 0, 0, .null), (2, .bipush 12, 0, 0, 0, .int 12), (2, .newarray .int, 0, 0, 0, .null), (3, .putfield 342, 14, 36, 4, .null), (1, .aload_n 0, 0, 0, 0, .null), (2, .bipush 12, 0, 0, 0, .int 12), (2, .newarray .int, 0, 0, 0, .null), (3, .putfield 339, 14, 37, 4, .null), (1, .aload_n 0, 0, 0, 0, .null), (2, .bipush 12, 0, 0, 0, .int 12), (2, .newarray .int, 0, 0, 0, .null), (3, .putfield 333, 14, 38, 4, .null), (1, .aload_n 0, 0, 0, 0, .null), (2, .bipush 12, 0, 0, 0, .int 12), (2, .newarray .int, 0, 0, 0, .null), (3, .putfield 347, 14, 39, 4, .null)]
set_option maxRecDepth 20000 in
theorem oX14_initx_266 : vm_okB 14 mX14_init 266 bX14_initx_266 = true := by decide +kernel
def bX14_initx_314 : List vm_J := [(1, .aload_n 0, 0, 0, 0, .null), (2, .bipush 12, 0, 0, 0, .int 12), (2, .newarray .int, 0, 0, 0, .null), (3, .putfield 350, 14, 40, 4, .null), (1, .aload_n 0, 0, 0, 0, .null), (2, .bipush 8, 0, 0, 0, .int 8), (3, .anewarray 114, 13, 0, 0, .null), (3, .putfield 380, 14, 41, 4, .null), (1, .aload_n 0, 0, 0, 0, .null), (2, .bipush 8, 0, 0, 0, .int 8), (3, .anewarray 114, 13, 0, 0, .null), (3, .putfield 387, 14, 42, 4, .null), (1, .aload_n 0, 0, 0, 0, .null), (3, .new 114, 13, 0, 0, .null), (1, .dup, 0, 0, 0, .null), (3, .invokespecial 449, 135, 0, 0, .null), (3, .putfield 375, 14, 43, 4, .null), (1, .aload_n 0, 0, 0, 0, .null), (3, .new 114, 13, 0, 0, .null), (1, .dup, 0, 0, 0, .null), (3, .invokespecial 449, 135, 0, 0, .null), (3, .putfield 377, 14, 44, 4, .null), (1, .aload_n 0, 0, 0, 0, .null), (3, .new 114, 13, 0, 0, .null), (1, .dup, 0, 0, 0, .null), (3, .invokespecial 449, 135, 0, 0, .null), (3, .putfield 408, 14, 45, 4, .null)]
set_option maxRecDepth 20000 in
theorem oX14_initx_314 : vm_okB 14 mX14_init 314 bX14_initx_314 = true := by decide +kernel
def bX14_initx_373 : List vm_J := [(1, .aload_n 0, 0, 0, 0, .null), (3, .new 114, 13, 0, 0, .null), (1, .dup, 0, 0, 0, .null), (3, .invokespecial 449, 135, 0, 0, .null), (3, .putfield 411, 14, 46, 4, .null), (1, .aload_n 0, 0, 0, 0, .null), (3, .new 114, 13, 0, 0, .null), (1, .dup, 0, 0, 0, .null), (3, .invokespecial 449, 135, 0, 0, .null), (3, .putfield 401, 14, 47, 4, .null), (1, .aload_n 0, 0, 0, 0, .null), (2, .bipush 48, 0, 0, 0, .int 48), (2, .newarray .byte, 0, 0, 0, .null), (3, .putfield 372, 14, 48, 4, .null), (1, .aload_n 0, 0, 0, 0, .null), (2, .bipush 49, 0, 0, 0, .int 49), (2, .newarray .byte, 0, 0, 0, .null), (3, .putfield 360, 14, 49, 4, .null), (1, .aload_n 0, 0, 0, 0, .null), (2, .bipush 12, 0, 0, 0, .int 12), (2, .newarray .int, 0, 0, 0, .null), (3, .putfield 395, 14, 50, 4, .null), (1, .aload_n 0, 0, 0, 0, .null), (2, .bipush 12, 0, 0, 0, .int 12), (2, .newarray .int, 0, 0, 0, .null), (3, .putfield 426, 14, 51, 4, .null)]
set_option maxRecDepth 20000 in
theorem oX14_initx_373 : vm_okB 14 mX14_init 373 bX14_initx_373 = true := by decide +kernel
def bX14_initx_427 : List vm_J := [(1, .aload_n 0, 0, 0, 0, .null), (2, .bipush 12, 0, 0, 0, .int 12), (2, .newarray .int, 0, 0, 0, .null), (3, .putfield 437, 14, 52, 4, .null), (1, .aload_n 0, 0, 0, 0, .null), (2, .bipush 12, 0, 0, 0, .int 12), (2, .newarray .int, 0, 0, 0, .null), (3, .putfield 440, 14, 53, 4, .null), (1, .aload_n 0, 0, 0, 0, .null), (2, .bipush 6, 0, 0, 0, .int 6), (2, .newarray .int, 0, 0, 0, .null), (3, .putfield 450, 14, 54, 4, .null), (1, .aload_n 0, 0, 0, 0, .null), (2, .bipush 6, 0, 0, 0, .int 6), (2, .newarray .boolean, 0, 0, 0, .null), (3, .putfield 453, 14, 55, 4, .null), (1, .aload_n 0, 0, 0, 0, .null), (3, .sipush 192, 0, 0, 0, .int 192), (2, .newarray .byte, 0, 0, 0, .null), (3, .putfield 457, 14, 56, 4, .null), (1, .aload_n 0, 0, 0, 0, .null), (2, .bipush 6, 0, 0, 0, .int 6), (2, .bipush 64, 0, 0, 0, .int 64), (4, .multianewarray 460 2, 0, 0, 0, .null), (3, .putfield 433, 14, 57, 4, .null)]
set_option maxRecDepth 20000 in
theorem oX14_initx_427 : vm_okB 14 mX14_init 427 bX14_initx_427 = true := by decide +kernel
def bX14_initx_480 : List vm_J := [(1, .aload_n 0, 0, 0, 0, .null), (2, .bipush 6, 0, 0, 0, .int 6), (3, .anewarray 114, 13, 0, 0, .null), (3, .putfield 416, 14, 58, 4, .null), (1, .aload_n 0, 0, 0, 0, .null), (2, .bipush 6, 0, 0, 0, .int 6), (3, .anewarray 14, 12, 0, 0, .null), (3, .putfield 461, 14, 59, 4, .null), (1, .aload_n 0, 0, 0, 0, .null), (2, .bipush 6, 0, 0, 0, .int 6), (2, .newarray .int, 0, 0, 0, .null), (3, .putfield 465, 14, 60, 4, .null), (1, .aload_n 0, 0, 0, 0, .null), (2, .bipush 6, 0, 0, 0, .int 6), (2, .newarray .int, 0, 0, 0, .null), (3, .putfield 468, 14, 61, 4, .null), (1, .aload_n 0, 0, 0, 0, .null), (2, .bipush 6, 0, 0, 0, .int 6), (2, .newarray .int, 0, 0, 0, .null), (3, .putfield 471, 14, 62, 4, .null), (1, .aload_n 0, 0, 0, 0, .null), (2, .bipush 60, 0, 0, 0, .int 60), (2, .newarray .int, 0, 0, 0, .null), (3, .putfield 474, 14, 64, 4, .null)]
set_option maxRecDepth 20000 in
theorem oX14_initx_480 : vm_okB 14 mX14_init 480 bX14_initx_480 = true := by decide +kernel
def bX14_initx_530 : List vm_J := [(1, .aload_n 0, 0, 0, 0, .null), (2, .bipush 60, 0, 0, 0, .int 60), (2, .newarray .boolean, 0, 0, 0, .null), (3, .putfield 477, 14, 65, 4, .null), (1, .aload_n 0, 0, 0, 0, .null), (3, .sipush 5880, 0, 0, 0, .int 5880), (2, .newarray .byte, 0, 0, 0, .null), (3, .putfield 480, 14, 66, 4, .null), (1, .aload_n 0, 0, 0, 0, .null), (2, .bipush 60, 0, 0, 0, .int 60), (2, .bipush 64, 0, 0, 0, .int 64), (4, .multianewarray 460 2, 0, 0, 0, .null), (3, .putfield 483, 14, 67, 4, .null), (1, .aload_n 0, 0, 0, 0, .null), (3, .sipush 4096, 0, 0, 0, .int 4096), (2, .newarray .byte, 0, 0, 0, .null), (3, .putfield 486, 14, 69, 4, .null), (1, .aload_n 0, 0, 0, 0, .null), (1, .iconst (-1), 0, 0, 0, .int (-1)), (3, .putfield 489, 14, 71, 0, .null), (1, .aload_n 0, 0, 0, 0, .null), (3, .sipush 1208, 0, 0, 0, .int 1208), (2, .newarray .byte, 0, 0, 0, .null), (3, .putfield 492, 14, 74, 4, .null)]
set_option maxRecDepth 20000 in
theorem oX14_initx_530 : vm_okB 14 mX14_init 530 bX14_initx_530 = true := by decide +kernel
def bX14_initx_582 : List vm_J := [(1, .aload_n 0, 0, 0, 0, .null), (3, .sipush 2900, 0, 0, 0, .int 2900), (2, .newarray .byte, 0, 0, 0, .null), (3, .putfield 495, 14, 76, 4, .null), (1, .aload_n 0, 0, 0, 0, .null), (3, .sipush 260, 0, 0, 0, .int 260), (2, .newarray .byte, 0, 0, 0, .null), (3, .putfield 498, 14, 78, 4, .null), (1, .aload_n 0, 0, 0, 0, .null), (3, .sipush 260, 0, 0, 0, .int 260), (2, .newarray .byte, 0, 0, 0, .null), (3, .putfield 501, 14, 79, 4, .null), (1, .aload_n 0, 0, 0, 0, .null), (2, .bipush 48, 0, 0, 0, .int 48), (2, .newarray .byte, 0, 0, 0, .null), (3, .putfield 504, 14, 80, 4, .null), (1, .aload_n 0, 0, 0, 0, .null), (2, .bipush 64, 0, 0, 0, .int 64), (2, .newarray .int, 0, 0, 0, .null), (3, .putfield 507, 14, 81, 4, .null), (1, .aload_n 0, 0, 0, 0, .null), (2, .bipush 64, 0, 0, 0, .int 64), (2, .newarray .int, 0, 0, 0, .null), (3, .putfield 510, 14, 82, 4, .null)]
set_option maxRecDepth 20000 in
theorem oX14_initx_582 : vm_okB 14 mX14_init 582 bX14_initx_582 = true := by decide +kernel
def bX14_initx_633 : List vm_J := [(1, .aload_n 0, 0, 0, 0, .null), (2, .bipush 64, 0, 0, 0, .int 64), (2, .newarray .int, 0, 0, 0, .null), (3, .putfield 513, 14, 83, 4, .null), (1, .aload_n 0, 0, 0, 0, .null), (1, .iconst 1, 0, 0, 0, .int 1), (2, .newarray .int, 0, 0, 0, .null), (3, .putfield 516, 14, 84, 4, .null), (1, .aload_n 0, 0, 0, 0, .null), (1, .iconst 5, 0, 0, 0, .int 5), (2, .newarray .int, 0, 0, 0, .null), (3, .putfield 519, 14, 85, 4, .null), (1, .aload_n 0, 0, 0, 0, .null), (3, .new 114, 13, 0, 0, .null), (1, .dup, 0, 0, 0, .null), (3, .invokespecial 449, 135, 0, 0, .null), (3, .putfield 522, 14, 86, 4, .null), (1, .aload_n 0, 0, 0, 0, .null), (2, .bipush 12, 0, 0, 0, .int 12), (2, .newarray .int, 0, 0, 0, .null), (3, .putfield 525, 14, 87, 4, .null), (1, .aload_n 0, 0, 0, 0, .null), (3, .sipush 384, 0, 0, 0, .int 384), (2, .newarray .byte, 0, 0, 0, .null), (3, .putfield 528, 14, 88, 4, .null)]
set_option maxRecDepth 20000 in
theorem oX14_initx_633 : vm_okB 14 mX14_init 633 bX14_initx_633 = true := by decide +kernel
def bX14_initx_683 : List vm_J := [(1, .aload_n 0, 0, 0, 0, .null), (3, .getfield 126, 14, 8, 0, .null), (3, .getstatic 173, 6, 0, 0, .null), (2, .bipush 12, 0, 0, 0, .int 12), (3, .invokevirtual 531, 133, 2, 12, .null), (1, .aload_n 0, 0, 0, 0, .null), (3, .getfield 322, 14, 9, 0, .null), (3, .getstatic 196, 7, 0, 0, .null), (2, .bipush 12, 0, 0, 0, .int 12), (3, .invokevirtual 531, 133, 2, 12, .null), (3, .getstatic 534, 12, 0, 0, .null), (1, .aload_n 0, 0, 0, 0, .null), (3, .getfield 423, 14, 10, 0, .null), (3, .getfield 123, 13, 0, 0, .null), (2, .bipush 12, 0, 0, 0, .int 12), (3, .invokestatic 68, 141, 3, 0, .null), (3, .getstatic 537, 13, 0, 0, .null), (1, .aload_n 0, 0, 0, 0, .null), (3, .getfield 423, 14, 10, 0, .null), (3, .getfield 130, 13, 1, 0, .null), (2, .bipush 12, 0, 0, 0, .int 12), (3, .invokestatic 68, 141, 3, 0, .null), (1, .iconst 0, 0, 0, 0, .int 0), (1, .istore_n 1, 0, 0, 0, .null)]
set_option maxRecDepth 20000 in
theorem oX14_initx_683 : vm_okB 14 mX14_init 683 bX14_initx_683 = true := by decide +kernel
def bX14_initx_739 : List vm_J := [(1, .iload_n 1, 0, 0, 0, .null), (2, .bipush 8, 0, 0, 0, .int 8), (3, .if_icmp .ge 35, 777, 0, 0, .null), (1, .aload_n 0, 0, 0, 0, .null), (3, .getfield 380, 14, 41, 0, .null), (1, .iload_n 1, 0, 0, 0, .null), (3, .new 114, 13, 0, 0, .null), (1, .dup, 0, 0, 0, .null), (3, .invokespecial 449, 135, 0, 0, .null), (1, .aastore, 13, 0, 0, .null), (1, .aload_n 0, 0, 0, 0, .null), (3, .getfield 387, 14, 42, 0, .null), (1, .iload_n 1, 0, 0, 0, .null), (3, .new 114, 13, 0, 0, .null), (1, .dup, 0, 0, 0, .null), (3, .invokespecial 449, 135, 0, 0, .null), (1, .aastore, 13, 0, 0, .null), (3, .iinc 1 1, 0, 0, 0, .int 1), (3, .goto (-35), 739, 0, 0, .null)]
set_option maxRecDepth 20000 in
theorem oX14_initx_739 : vm_okB 14 mX14_init 739 bX14_initx_739 = true := by decide +kernel
def bX14_initx_777 : List vm_J := [(1, .iconst 0, 0, 0, 0, .int 0), (1, .istore_n 1, 0, 0, 0, .null)]
set_option maxRecDepth 20000 in
theorem oX14_initx_777 : vm_okB 14 mX14_init 777 bX14_initx_777 = true := by decide +kernel
def bX14_initx_779 : List vm_J := [(1, .iload_n 1, 0, 0, 0, .null), (2, .bipush 6, 0, 0, 0, .int 6), (3, .if_icmp .ge 35, 817, 0, 0, .null), (1, .aload_n 0, 0, 0, 0, .null), (3, .getfield 416, 14, 58, 0, .null), (1, .iload_n 1, 0, 0, 0, .null), (3, .new 114, 13, 0, 0, .null), (1, .dup, 0, 0, 0, .null), (3, .invokespecial 449, 135, 0, 0, .null), (1, .aastore, 13, 0, 0, .null), (1, .aload_n 0, 0, 0, 0, .null), (3, .getfield 461, 14, 59, 0, .null), (1, .iload_n 1, 0, 0, 0, .null), (3, .new 14, 12, 0, 0, .null), (1, .dup, 0, 0, 0, .null), (3, .invokespecial 448, 132, 0, 0, .null), (1, .aastore, 12, 0, 0, .null), (3, .iinc 1 1, 0, 0, 0, .int 1), (3, .goto (-35), 779, 0, 0, .null)]
set_option maxRecDepth 20000 in
theorem oX14_initx_779 : vm_okB 14 mX14_init 779 bX14_initx_779 = true := by decide +kernel
def bX14_initx_817 : List vm_J := [(1, .iconst 1, 0, 0, 0, .int 1), (1, .aload_n 0, 0, 0, 0, .null), (3, .getfield 166, 14, 16, 0, .null), (2, .bipush 12, 0, 0, 0, .int 12), (3, .invokestatic 75, 142, 3, 0, .null), (1, .aload_n 0, 0, 0, 0, .null), (3, .getfield 166, 14, 16, 0, .null), (3, .getstatic 173, 6, 0, 0, .null), (1, .aload_n 0, 0, 0, 0, .null), (3, .getfield 166, 14, 16, 0, .null), (2, .bipush 12, 0, 0, 0, .int 12), (3, .invokestatic 18, 143, 4, 0, .null), (1, .istore_n 1, 0, 0, 0, .null)]
set_option maxRecDepth 20000 in
theorem oX14_initx_817 : vm_okB 14 mX14_init 817 bX14_initx_817 = true := by decide +kernel
def bX14_initx_844 : List vm_J := [(1, .aload_n 0, 0, 0, 0, .null), (3, .getfield 166, 14, 16, 0, .null), (2, .bipush 12, 0, 0, 0, .int 12), (1, .iload_n 1, 0, 0, 0, .null), (3, .invokestatic 83, 151, 3, 0, .null), (1, .aload_n 0, 0, 0, 0, .null), (3, .getfield 166, 14, 16, 0, .null), (2, .bipush 12, 0, 0, 0, .int 12), (1, .iconst 0, 0, 0, 0, .int 0), (3, .invokestatic 83, 151, 3, 0, .null), (1, .iconst 3, 0, 0, 0, .int 3), (1, .aload_n 0, 0, 0, 0, .null), (3, .getfield 133, 14, 14, 0, .null), (2, .bipush 12, 0, 0, 0, .int 12), (3, .invokestatic 75, 142, 3, 0, .null), (3, .getstatic 173, 6, 0, 0, .null), (1, .aload_n 0, 0, 0, 0, .null), (3, .getfield 133, 14, 14, 0, .null), (1, .aload_n 0, 0, 0, 0, .null), (3, .getfield 339, 14, 37, 0, .null), (2, .bipush 12, 0, 0, 0, .int 12), (3, .invokestatic 30, 144, 4, 0, .null), (1, .istore_n 1, 0, 0, 0, .null)]
set_option maxRecDepth 20000 in
theorem oX14_initx_844 : vm_okB 14 mX14_init 844 bX14_initx_844 = true := by decide +kernel
def bX14_initx_891 : List vm_J := [(2, .bipush 12, 0, 0, 0, .int 12), (1, .aload_n 0, 0, 0, 0, .null), (3, .getfield 133, 14, 14, 0, .null), (2, .bipush 12, 0, 0, 0, .int 12), (3, .invokestatic 75, 142, 3, 0, .null), (3, .getstatic 173, 6, 0, 0, .null), (1, .aload_n 0, 0, 0, 0, .null), (3, .getfield 133, 14, 14, 0, .null), (1, .aload_n 0, 0, 0, 0, .null), (3, .getfield 333, 14, 38, 0, .null), (2, .bipush 12, 0, 0, 0, .int 12), (3, .invokestatic 30, 144, 4, 0, .null), (1, .istore_n 1, 0, 0, 0, .null)]
set_option maxRecDepth 20000 in
theorem oX14_initx_891 : vm_okB 14 mX14_init 891 bX14_initx_891 = true := by decide +kernel
def bX14_initx_919 : List vm_J := [(1, .return_, 0, 0, 0, .null)]
set_option maxRecDepth 20000 in
theorem oX14_initx_919 : vm_okB 14 mX14_init 919 bX14_initx_919 = true := by decide +kernel
section
variable {l : Launch} {O : Nat → vm_Ob} {f9 : Value}
theorem v_mod {h : vm_H} {K : Nat} (hK : h.2 K = .inr (12, vm_df 12)) (hK1 : K < h.1) (hh : h.1 + 10 < 1099511627776) : vm_Met (vm_env l O f9) mX12_init 2 128 [.ref K] h (fun r h' => r = none ∧ h'.1 = h.1 + 2 ∧ h'.2 K = .inr (12, [.ref h.1, .ref (h.1 + 1), .int 0, .int 0]) ∧ h'.2 h.1 = .inl (.int, 64, .inl (fun _ => 0)) ∧ h'.2 (h.1 + 1) = .inl (.int, 64, .inl (fun _ => 0)) ∧ ∀ q, q ≠ K → q < h.1 ∨ h.1 + 2 ≤ q → h'.2 q = h.2 q) := by
  refine vm_met rfl (Nat.le_of_ble_eq_true rfl) ?_
  refine vm_go rfl bX12_init_0 oX12_init_0 ?_
  refine np_I (idx := 0) (N := 64) rfl (by decide) (by decide) (by decide) (by omega) hK hK1 (show 0 < 4 by decide) ?_
  rintro h1 ⟨c1, m1, a1, u1⟩
  refine np_I (idx := 0) (N := 64) rfl (by decide) (by decide) (by decide) (by omega) m1 (by omega) (show 1 < 4 by decide) ?_
  rintro h2 ⟨c2, m2, a2, u2⟩
  rw [c1] at m2 a2 u2
  refine ⟨rfl, by omega, m2, ?_, a2, fun q z1 z2 => ?_⟩
  · rw [u2 _ (by omega) (by omega)]; exact a1
  · rw [u2 q z1 (by omega), u1 q z1 (by omega)]
theorem v_spot {h : vm_H} {K : Nat} (hK : h.2 K = .inr (13, vm_df 13)) (hK1 : K < h.1) (hh : h.1 + 10 < 1099511627776) : vm_Met (vm_env l O f9) mX13_init 2 24 [.ref K] h (fun r h' => r = none ∧ h'.1 = h.1 + 2 ∧ h'.2 K = .inr (13, [.ref h.1, .ref (h.1 + 1), .int 0]) ∧ h'.2 h.1 = .inl (.int, 12, .inl (fun _ => 0)) ∧ h'.2 (h.1 + 1) = .inl (.int, 12, .inl (fun _ => 0)) ∧ ∀ q, q ≠ K → q < h.1 ∨ h.1 + 2 ≤ q → h'.2 q = h.2 q) := by
  refine vm_met rfl (Nat.le_of_ble_eq_true rfl) ?_
  refine vm_go rfl bX13_init_0 oX13_init_0 ?_
  refine np_I (idx := 0) (N := 12) rfl (by decide) (by decide) (by decide) (by omega) hK hK1 (show 0 < 3 by decide) ?_
  rintro h1 ⟨c1, m1, a1, u1⟩
  refine np_I (idx := 0) (N := 12) rfl (by decide) (by decide) (by decide) (by omega) m1 (by omega) (show 1 < 3 by decide) ?_
  rintro h2 ⟨c2, m2, a2, u2⟩
  rw [c1] at m2 a2 u2
  refine ⟨rfl, by omega, m2, ?_, a2, fun q z1 z2 => ?_⟩
  · rw [u2 _ (by omega) (by omega)]; exact a1
  · rw [u2 q z1 (by omega), u1 q z1 (by omega)]
theorem rj_1 {h : vm_H} {a : Nat} {fs0 : List Value} {Q : Option Value → vm_H → Prop} (m0 : h.2 a = .inr (14, fs0)) (hl0 : fs0.length = 89) (c0 : h.1 = a + 1) (hh : a + 5000 < 1099511627776) (K : ∀ (h1 : vm_H), h1.1 = a + 7 → h1.2 a = .inr (14, ((((((fs0.set 1 (.ref (a + 1))).set 2 (.ref (a + 2))).set 3 (.ref (a + 3))).set 4 (.ref (a + 4))).set 5 (.ref (a + 5))).set 6 (.ref (a + 6)))) → h1.2 (a + 1) = .inl (.int, 130, .inl (fun _ => 0)) → h1.2 (a + 2) = .inl (.int, 64, .inl (fun _ => 0)) → h1.2 (a + 3) = .inl (.int, 64, .inl (fun _ => 0)) → h1.2 (a + 4) = .inl (.int, 64, .inl (fun _ => 0)) → h1.2 (a + 5) = .inl (.int, 64, .inl (fun _ => 0)) → h1.2 (a + 6) = .inl (.int, 64, .inl (fun _ => 0)) → (∀ q, q ≠ a → q < a + 1 ∨ 1099511627776 ≤ q → h1.2 q = h.2 q) → vm_T (vm_env l O f9) mX14_init 245 25987 53 [(0, .ref a)] [] h1 Q) : vm_T (vm_env l O f9) mX14_init 251 26437 0 [(0, .ref a)] [] h Q := by
  refine vm_go rfl bX14_initx_0 oX14_initx_0 ?_
  refine np_I (idx := 0) (N := 130) rfl (by decide) (by decide) (by decide) (by omega) m0 (by omega) (show 1 < fs0.length by omega) ?_
  rintro h1 ⟨d1, m1, a1, v1⟩
  rw [c0] at d1 m1 a1 v1
  have c1 : h1.1 = a + 2 := by omega
  have u1 : ∀ q, q ≠ a → q < a + 1 ∨ 1099511627776 ≤ q → h1.2 q = h.2 q := fun q z1 z2 => v1 q z1 (by omega)
  obtain ⟨fs1, ef1⟩ : ∃ fs1, fs1 = fs0.set 1 (.ref (a + 1)) := ⟨_, rfl⟩
  rw [← ef1] at m1
  have hl1 : fs1.length = 89 := by rw [ef1, List.length_set]; exact hl0
  refine np_I (idx := 0) (N := 64) rfl (by decide) (by decide) (by decide) (by omega) m1 (by omega) (show 2 < fs1.length by omega) ?_
  rintro h2 ⟨d2, m2, a2, v2⟩
  rw [c1] at d2 m2 a2 v2
  have c2 : h2.1 = a + 3 := by omega
  have u2 : ∀ q, q ≠ a → q < a + 2 ∨ 1099511627776 ≤ q → h2.2 q = h1.2 q := fun q z1 z2 => v2 q z1 (by omega)
  obtain ⟨fs2, ef2⟩ : ∃ fs2, fs2 = fs1.set 2 (.ref (a + 2)) := ⟨_, rfl⟩
  rw [← ef2] at m2
  have hl2 : fs2.length = 89 := by rw [ef2, List.length_set]; exact hl1
  refine np_I (idx := 0) (N := 64) rfl (by decide) (by decide) (by decide) (by omega) m2 (by omega) (show 3 < fs2.length by omega) ?_
  rintro h3 ⟨d3, m3, a3, v3⟩
  rw [c2] at d3 m3 a3 v3
  have c3 : h3.1 = a + 4 := by omega
  have u3 : ∀ q, q ≠ a → q < a + 3 ∨ 1099511627776 ≤ q → h3.2 q = h2.2 q := fun q z1 z2 => v3 q z1 (by omega)
  obtain ⟨fs3, ef3⟩ : ∃ fs3, fs3 = fs2.set 3 (.ref (a + 3)) := ⟨_, rfl⟩
  rw [← ef3] at m3
  have hl3 : fs3.length = 89 := by rw [ef3, List.length_set]; exact hl2
  refine np_I (idx := 0) (N := 64) rfl (by decide) (by decide) (by decide) (by omega) m3 (by omega) (show 4 < fs3.length by omega) ?_
  rintro h4 ⟨d4, m4, a4, v4⟩
  rw [c3] at d4 m4 a4 v4
  have c4 : h4.1 = a + 5 := by omega
  have u4 : ∀ q, q ≠ a → q < a + 4 ∨ 1099511627776 ≤ q → h4.2 q = h3.2 q := fun q z1 z2 => v4 q z1 (by omega)
  obtain ⟨fs4, ef4⟩ : ∃ fs4, fs4 = fs3.set 4 (.ref (a + 4)) := ⟨_, rfl⟩
  rw [← ef4] at m4
  have hl4 : fs4.length = 89 := by rw [ef4, List.length_set]; exact hl3
  refine np_I (idx := 0) (N := 64) rfl (by decide) (by decide) (by decide) (by omega) m4 (by omega) (show 5 < fs4.length by omega) ?_
  rintro h5 ⟨d5, m5, a5, v5⟩
  rw [c4] at d5 m5 a5 v5
  have c5 : h5.1 = a + 6 := by omega
  have u5 : ∀ q, q ≠ a → q < a + 5 ∨ 1099511627776 ≤ q → h5.2 q = h4.2 q := fun q z1 z2 => v5 q z1 (by omega)
  obtain ⟨fs5, ef5⟩ : ∃ fs5, fs5 = fs4.set 5 (.ref (a + 5)) := ⟨_, rfl⟩
  rw [← ef5] at m5
  have hl5 : fs5.length = 89 := by rw [ef5, List.length_set]; exact hl4
  refine np_I (idx := 0) (N := 64) rfl (by decide) (by decide) (by decide) (by omega) m5 (by omega) (show 6 < fs5.length by omega) ?_
  rintro h6 ⟨d6, m6, a6, v6⟩
  rw [c5] at d6 m6 a6 v6
  have c6 : h6.1 = a + 7 := by omega
  have u6 : ∀ q, q ≠ a → q < a + 6 ∨ 1099511627776 ≤ q → h6.2 q = h5.2 q := fun q z1 z2 => v6 q z1 (by omega)
  obtain ⟨fs6, ef6⟩ : ∃ fs6, fs6 = fs5.set 6 (.ref (a + 6)) := ⟨_, rfl⟩
  rw [← ef6] at m6
  have hl6 : fs6.length = 89 := by rw [ef6, List.length_set]; exact hl5
  have E6 : ∀ q, q ≠ a → q < a + 7 ∨ 1099511627776 ≤ q → h6.2 q = h6.2 q := fun q _ _ => rfl
  have E5 : ∀ q, q ≠ a → q < a + 6 ∨ 1099511627776 ≤ q → h6.2 q = h5.2 q := fun q z1 z2 => (E6 q z1 (by omega)).trans (u6 q z1 (by omega))
  have E4 : ∀ q, q ≠ a → q < a + 5 ∨ 1099511627776 ≤ q → h6.2 q = h4.2 q := fun q z1 z2 => (E5 q z1 (by omega)).trans (u5 q z1 (by omega))
  have E3 : ∀ q, q ≠ a → q < a + 4 ∨ 1099511627776 ≤ q → h6.2 q = h3.2 q := fun q z1 z2 => (E4 q z1 (by omega)).trans (u4 q z1 (by omega))
  have E2 : ∀ q, q ≠ a → q < a + 3 ∨ 1099511627776 ≤ q → h6.2 q = h2.2 q := fun q z1 z2 => (E3 q z1 (by omega)).trans (u3 q z1 (by omega))
  have E1 : ∀ q, q ≠ a → q < a + 2 ∨ 1099511627776 ≤ q → h6.2 q = h1.2 q := fun q z1 z2 => (E2 q z1 (by omega)).trans (u2 q z1 (by omega))
  have E0 : ∀ q, q ≠ a → q < a + 1 ∨ 1099511627776 ≤ q → h6.2 q = h.2 q := fun q z1 z2 => (E1 q z1 (by omega)).trans (u1 q z1 (by omega))
  exact K h6 c6 (show h6.2 a = .inr (14, ((((((fs0.set 1 (.ref (a + 1))).set 2 (.ref (a + 2))).set 3 (.ref (a + 3))).set 4 (.ref (a + 4))).set 5 (.ref (a + 5))).set 6 (.ref (a + 6)))) by rw [m6, ef6, ef5, ef4, ef3, ef2, ef1]) ((E1 (a + 1) (by omega) (Or.inl (by omega))).trans a1) ((E2 (a + 2) (by omega) (Or.inl (by omega))).trans a2) ((E3 (a + 3) (by omega) (Or.inl (by omega))).trans a3) ((E4 (a + 4) (by omega) (Or.inl (by omega))).trans a4) ((E5 (a + 5) (by omega) (Or.inl (by omega))).trans a5) ((E6 (a + 6) (by omega) (Or.inl (by omega))).trans a6) E0
theorem rj_2 {h : vm_H} {a : Nat} {fs0 : List Value} {Q : Option Value → vm_H → Prop} (m0 : h.2 a = .inr (14, fs0)) (hl0 : fs0.length = 89) (c0 : h.1 = a + 7) (hh : a + 5000 < 1099511627776) (K : ∀ (h1 : vm_H), h1.1 = a + 23 → h1.2 a = .inr (14, ((((((fs0.set 7 (.ref (a + 7))).set 8 (.ref (a + 8))).set 9 (.ref (a + 11))).set 10 (.ref (a + 14))).set 11 (.ref (a + 17))).set 12 (.ref (a + 20)))) → h1.2 (a + 7) = .inl (.int, 64, .inl (fun _ => 0)) → h1.2 (a + 8) = .inr (12, [.ref (a + 9), .ref (a + 10), .int 0, .int 0]) → h1.2 (a + 9) = .inl (.int, 64, .inl (fun _ => 0)) → h1.2 (a + 10) = .inl (.int, 64, .inl (fun _ => 0)) → h1.2 (a + 11) = .inr (12, [.ref (a + 12), .ref (a + 13), .int 0, .int 0]) → h1.2 (a + 12) = .inl (.int, 64, .inl (fun _ => 0)) → h1.2 (a + 13) = .inl (.int, 64, .inl (fun _ => 0)) → h1.2 (a + 14) = .inr (13, [.ref (a + 15), .ref (a + 16), .int 0]) → h1.2 (a + 15) = .inl (.int, 12, .inl (fun _ => 0)) → h1.2 (a + 16) = .inl (.int, 12, .inl (fun _ => 0)) → h1.2 (a + 17) = .inr (13, [.ref (a + 18), .ref (a + 19), .int 0]) → h1.2 (a + 18) = .inl (.int, 12, .inl (fun _ => 0)) → h1.2 (a + 19) = .inl (.int, 12, .inl (fun _ => 0)) → h1.2 (a + 20) = .inr (13, [.ref (a + 21), .ref (a + 22), .int 0]) → h1.2 (a + 21) = .inl (.int, 12, .inl (fun _ => 0)) → h1.2 (a + 22) = .inl (.int, 12, .inl (fun _ => 0)) → (∀ q, q ≠ a → q < a + 7 ∨ 1099511627776 ≤ q → h1.2 q = h.2 q) → vm_T (vm_env l O f9) mX14_init 229 25578 116 [(0, .ref a)] [] h1 Q) : vm_T (vm_env l O f9) mX14_init 245 25987 53 [(0, .ref a)] [] h Q := by
  refine vm_go rfl bX14_initx_53 oX14_initx_53 ?_
  refine np_I (idx := 0) (N := 64) rfl (by decide) (by decide) (by decide) (by omega) m0 (by omega) (show 7 < fs0.length by omega) ?_
  rintro h1 ⟨d1, m1, a1, v1⟩
  rw [c0] at d1 m1 a1 v1
  have c1 : h1.1 = a + 8 := by omega
  have u1 : ∀ q, q ≠ a → q < a + 7 ∨ 1099511627776 ≤ q → h1.2 q = h.2 q := fun q z1 z2 => v1 q z1 (by omega)
  obtain ⟨fs1, ef1⟩ : ∃ fs1, fs1 = fs0.set 7 (.ref (a + 7)) := ⟨_, rfl⟩
  rw [← ef1] at m1
  have hl1 : fs1.length = 89 := by rw [ef1, List.length_set]; exact hl0
  refine ⟨by decide, by decide, by omega, ?_⟩
  generalize hq2 : vm_nw h1 _ = g2
  have gc2 : g2.1 = a + 9 := by rw [← hq2]; show h1.1 + 1 = _; omega
  have ga2 : g2.2 (a + 8) = .inr (12, vm_df 12) := by rw [← hq2, ← c1]; exact nw_e
  have gu2 : ∀ q, q ≠ a + 8 → g2.2 q = h1.2 q := fun q z => by rw [← hq2]; exact nw_n (by omega)
  clear hq2
  rw [c1]
  have gm2 : g2.2 a = .inr (14, fs1) := (gu2 _ (by omega)).trans m1
  refine ⟨2, 128, _, v_mod ga2 (by omega) (by omega), by decide, by decide, ?_⟩
  rintro _ f2 ⟨rfl, fc2, fo2, fx2, fy2, fv2⟩
  rw [gc2] at fc2 fo2 fx2 fy2 fv2
  refine np_p (idx := 0) (w := .ref (a + 8)) (k := 8) (tc := 4) ((fv2 _ (by omega) (Or.inl (by omega))).trans gm2) (by omega) (show 8 < fs1.length by omega) trivial ?_
  intro h2 d2 m2 v2
  have c2 : h2.1 = a + 11 := by omega
  have u2 : ∀ q, q ≠ a → q < a + 8 ∨ 1099511627776 ≤ q → h2.2 q = h1.2 q := fun q z1 z2 => by rw [v2 q z1, fv2 q (by omega) (by omega), gu2 q (by omega)]
  have o2 : h2.2 (a + 8) = .inr (12, [.ref (a + 9), .ref (a + 10), .int 0, .int 0]) := (v2 _ (by omega)).trans fo2
  have x2 : h2.2 (a + 9) = .inl (.int, 64, .inl (fun _ => 0)) := (v2 _ (by omega)).trans fx2
  have y2 : h2.2 (a + 10) = .inl (.int, 64, .inl (fun _ => 0)) := (v2 _ (by omega)).trans fy2
  obtain ⟨fs2, ef2⟩ : ∃ fs2, fs2 = fs1.set 8 (.ref (a + 8)) := ⟨_, rfl⟩
  rw [← ef2] at m2
  have hl2 : fs2.length = 89 := by rw [ef2, List.length_set]; exact hl1
  refine ⟨by decide, by decide, by omega, ?_⟩
  generalize hq3 : vm_nw h2 _ = g3
  have gc3 : g3.1 = a + 12 := by rw [← hq3]; show h2.1 + 1 = _; omega
  have ga3 : g3.2 (a + 11) = .inr (12, vm_df 12) := by rw [← hq3, ← c2]; exact nw_e
  have gu3 : ∀ q, q ≠ a + 11 → g3.2 q = h2.2 q := fun q z => by rw [← hq3]; exact nw_n (by omega)
  clear hq3
  rw [c2]
  have gm3 : g3.2 a = .inr (14, fs2) := (gu3 _ (by omega)).trans m2
  refine ⟨2, 128, _, v_mod ga3 (by omega) (by omega), by decide, by decide, ?_⟩
  rintro _ f3 ⟨rfl, fc3, fo3, fx3, fy3, fv3⟩
  rw [gc3] at fc3 fo3 fx3 fy3 fv3
  refine np_p (idx := 0) (w := .ref (a + 11)) (k := 9) (tc := 4) ((fv3 _ (by omega) (Or.inl (by omega))).trans gm3) (by omega) (show 9 < fs2.length by omega) trivial ?_
  intro h3 d3 m3 v3
  have c3 : h3.1 = a + 14 := by omega
  have u3 : ∀ q, q ≠ a → q < a + 11 ∨ 1099511627776 ≤ q → h3.2 q = h2.2 q := fun q z1 z2 => by rw [v3 q z1, fv3 q (by omega) (by omega), gu3 q (by omega)]
  have o3 : h3.2 (a + 11) = .inr (12, [.ref (a + 12), .ref (a + 13), .int 0, .int 0]) := (v3 _ (by omega)).trans fo3
  have x3 : h3.2 (a + 12) = .inl (.int, 64, .inl (fun _ => 0)) := (v3 _ (by omega)).trans fx3
  have y3 : h3.2 (a + 13) = .inl (.int, 64, .inl (fun _ => 0)) := (v3 _ (by omega)).trans fy3
  obtain ⟨fs3, ef3⟩ : ∃ fs3, fs3 = fs2.set 9 (.ref (a + 11)) := ⟨_, rfl⟩
  rw [← ef3] at m3
  have hl3 : fs3.length = 89 := by rw [ef3, List.length_set]; exact hl2
  refine ⟨by decide, by decide, by omega, ?_⟩
  generalize hq4 : vm_nw h3 _ = g4
  have gc4 : g4.1 = a + 15 := by rw [← hq4]; show h3.1 + 1 = _; omega
  have ga4 : g4.2 (a + 14) = .inr (13, vm_df 13) := by rw [← hq4, ← c3]; exact nw_e
  have gu4 : ∀ q, q ≠ a + 14 → g4.2 q = h3.2 q := fun q z => by rw [← hq4]; exact nw_n (by omega)
  clear hq4
  rw [c3]
  have gm4 : g4.2 a = .inr (14, fs3) := (gu4 _ (by omega)).trans m3
  refine ⟨2, 24, _, v_spot ga4 (by omega) (by omega), by decide, by decide, ?_⟩
  rintro _ f4 ⟨rfl, fc4, fo4, fx4, fy4, fv4⟩
  rw [gc4] at fc4 fo4 fx4 fy4 fv4
  refine np_p (idx := 0) (w := .ref (a + 14)) (k := 10) (tc := 4) ((fv4 _ (by omega) (Or.inl (by omega))).trans gm4) (by omega) (show 10 < fs3.length by omega) trivial ?_
  intro h4 d4 m4 v4
  have c4 : h4.1 = a + 17 := by omega
  have u4 : ∀ q, q ≠ a → q < a + 14 ∨ 1099511627776 ≤ q → h4.2 q = h3.2 q := fun q z1 z2 => by rw [v4 q z1, fv4 q (by omega) (by omega), gu4 q (by omega)]
  have o4 : h4.2 (a + 14) = .inr (13, [.ref (a + 15), .ref (a + 16), .int 0]) := (v4 _ (by omega)).trans fo4
  have x4 : h4.2 (a + 15) = .inl (.int, 12, .inl (fun _ => 0)) := (v4 _ (by omega)).trans fx4
  have y4 : h4.2 (a + 16) = .inl (.int, 12, .inl (fun _ => 0)) := (v4 _ (by omega)).trans fy4
  obtain ⟨fs4, ef4⟩ : ∃ fs4, fs4 = fs3.set 10 (.ref (a + 14)) := ⟨_, rfl⟩
  rw [← ef4] at m4
  have hl4 : fs4.length = 89 := by rw [ef4, List.length_set]; exact hl3
  refine ⟨by decide, by decide, by omega, ?_⟩
  generalize hq5 : vm_nw h4 _ = g5
  have gc5 : g5.1 = a + 18 := by rw [← hq5]; show h4.1 + 1 = _; omega
  have ga5 : g5.2 (a + 17) = .inr (13, vm_df 13) := by rw [← hq5, ← c4]; exact nw_e
  have gu5 : ∀ q, q ≠ a + 17 → g5.2 q = h4.2 q := fun q z => by rw [← hq5]; exact nw_n (by omega)
  clear hq5
  rw [c4]
  have gm5 : g5.2 a = .inr (14, fs4) := (gu5 _ (by omega)).trans m4
  refine ⟨2, 24, _, v_spot ga5 (by omega) (by omega), by decide, by decide, ?_⟩
  rintro _ f5 ⟨rfl, fc5, fo5, fx5, fy5, fv5⟩
  rw [gc5] at fc5 fo5 fx5 fy5 fv5
  refine np_p (idx := 0) (w := .ref (a + 17)) (k := 11) (tc := 4) ((fv5 _ (by omega) (Or.inl (by omega))).trans gm5) (by omega) (show 11 < fs4.length by omega) trivial ?_
  intro h5 d5 m5 v5
  have c5 : h5.1 = a + 20 := by omega
  have u5 : ∀ q, q ≠ a → q < a + 17 ∨ 1099511627776 ≤ q → h5.2 q = h4.2 q := fun q z1 z2 => by rw [v5 q z1, fv5 q (by omega) (by omega), gu5 q (by omega)]
  have o5 : h5.2 (a + 17) = .inr (13, [.ref (a + 18), .ref (a + 19), .int 0]) := (v5 _ (by omega)).trans fo5
  have x5 : h5.2 (a + 18) = .inl (.int, 12, .inl (fun _ => 0)) := (v5 _ (by omega)).trans fx5
  have y5 : h5.2 (a + 19) = .inl (.int, 12, .inl (fun _ => 0)) := (v5 _ (by omega)).trans fy5
  obtain ⟨fs5, ef5⟩ : ∃ fs5, fs5 = fs4.set 11 (.ref (a + 17)) := ⟨_, rfl⟩
  rw [← ef5] at m5
  have hl5 : fs5.length = 89 := by rw [ef5, List.length_set]; exact hl4
  refine ⟨by decide, by decide, by omega, ?_⟩
  generalize hq6 : vm_nw h5 _ = g6
  have gc6 : g6.1 = a + 21 := by rw [← hq6]; show h5.1 + 1 = _; omega
  have ga6 : g6.2 (a + 20) = .inr (13, vm_df 13) := by rw [← hq6, ← c5]; exact nw_e
  have gu6 : ∀ q, q ≠ a + 20 → g6.2 q = h5.2 q := fun q z => by rw [← hq6]; exact nw_n (by omega)
  clear hq6
  rw [c5]
  have gm6 : g6.2 a = .inr (14, fs5) := (gu6 _ (by omega)).trans m5
  refine ⟨2, 24, _, v_spot ga6 (by omega) (by omega), by decide, by decide, ?_⟩
  rintro _ f6 ⟨rfl, fc6, fo6, fx6, fy6, fv6⟩
  rw [gc6] at fc6 fo6 fx6 fy6 fv6
  refine np_p (idx := 0) (w := .ref (a + 20)) (k := 12) (tc := 4) ((fv6 _ (by omega) (Or.inl (by omega))).trans gm6) (by omega) (show 12 < fs5.length by omega) trivial ?_
  intro h6 d6 m6 v6
  have c6 : h6.1 = a + 23 := by omega
  have u6 : ∀ q, q ≠ a → q < a + 20 ∨ 1099511627776 ≤ q → h6.2 q = h5.2 q := fun q z1 z2 => by rw [v6 q z1, fv6 q (by omega) (by omega), gu6 q (by omega)]
  have o6 : h6.2 (a + 20) = .inr (13, [.ref (a + 21), .ref (a + 22), .int 0]) := (v6 _ (by omega)).trans fo6
  have x6 : h6.2 (a + 21) = .inl (.int, 12, .inl (fun _ => 0)) := (v6 _ (by omega)).trans fx6
  have y6 : h6.2 (a + 22) = .inl (.int, 12, .inl (fun _ => 0)) := (v6 _ (by omega)).trans fy6
  obtain ⟨fs6, ef6⟩ : ∃ fs6, fs6 = fs5.set 12 (.ref (a + 20)) := ⟨_, rfl⟩
  rw [← ef6] at m6
  have hl6 : fs6.length = 89 := by rw [ef6, List.length_set]; exact hl5
  have E6 : ∀ q, q ≠ a → q < a + 23 ∨ 1099511627776 ≤ q → h6.2 q = h6.2 q := fun q _ _ => rfl
  have E5 : ∀ q, q ≠ a → q < a + 20 ∨ 1099511627776 ≤ q → h6.2 q = h5.2 q := fun q z1 z2 => (E6 q z1 (by omega)).trans (u6 q z1 (by omega))
  have E4 : ∀ q, q ≠ a → q < a + 17 ∨ 1099511627776 ≤ q → h6.2 q = h4.2 q := fun q z1 z2 => (E5 q z1 (by omega)).trans (u5 q z1 (by omega))
  have E3 : ∀ q, q ≠ a → q < a + 14 ∨ 1099511627776 ≤ q → h6.2 q = h3.2 q := fun q z1 z2 => (E4 q z1 (by omega)).trans (u4 q z1 (by omega))
  have E2 : ∀ q, q ≠ a → q < a + 11 ∨ 1099511627776 ≤ q → h6.2 q = h2.2 q := fun q z1 z2 => (E3 q z1 (by omega)).trans (u3 q z1 (by omega))
  have E1 : ∀ q, q ≠ a → q < a + 8 ∨ 1099511627776 ≤ q → h6.2 q = h1.2 q := fun q z1 z2 => (E2 q z1 (by omega)).trans (u2 q z1 (by omega))
  have E0 : ∀ q, q ≠ a → q < a + 7 ∨ 1099511627776 ≤ q → h6.2 q = h.2 q := fun q z1 z2 => (E1 q z1 (by omega)).trans (u1 q z1 (by omega))
  exact K h6 c6 (show h6.2 a = .inr (14, ((((((fs0.set 7 (.ref (a + 7))).set 8 (.ref (a + 8))).set 9 (.ref (a + 11))).set 10 (.ref (a + 14))).set 11 (.ref (a + 17))).set 12 (.ref (a + 20)))) by rw [m6, ef6, ef5, ef4, ef3, ef2, ef1]) ((E1 (a + 7) (by omega) (Or.inl (by omega))).trans a1) ((E2 (a + 8) (by omega) (Or.inl (by omega))).trans o2) ((E2 (a + 9) (by omega) (Or.inl (by omega))).trans x2) ((E2 (a + 10) (by omega) (Or.inl (by omega))).trans y2) ((E3 (a + 11) (by omega) (Or.inl (by omega))).trans o3) ((E3 (a + 12) (by omega) (Or.inl (by omega))).trans x3) ((E3 (a + 13) (by omega) (Or.inl (by omega))).trans y3) ((E4 (a + 14) (by omega) (Or.inl (by omega))).trans o4) ((E4 (a + 15) (by omega) (Or.inl (by omega))).trans x4) ((E4 (a + 16) (by omega) (Or.inl (by omega))).trans y4) ((E5 (a + 17) (by omega) (Or.inl (by omega))).trans o5) ((E5 (a + 18) (by omega) (Or.inl (by omega))).trans x5) ((E5 (a + 19) (by omega) (Or.inl (by omega))).trans y5) ((E6 (a + 20) (by omega) (Or.inl (by omega))).trans o6) ((E6 (a + 21) (by omega) (Or.inl (by omega))).trans x6) ((E6 (a + 22) (by omega) (Or.inl (by omega))).trans y6) E0
theorem rj_3 {h : vm_H} {a : Nat} {fs0 : List Value} {Q : Option Value → vm_H → Prop} (m0 : h.2 a = .inr (14, fs0)) (hl0 : fs0.length = 89) (c0 : h.1 = a + 23) (hh : a + 5000 < 1099511627776) (K : ∀ (h1 : vm_H), h1.1 = a + 29 → h1.2 a = .inr (14, ((((((fs0.set 13 (.ref (a + 23))).set 14 (.ref (a + 24))).set 15 (.ref (a + 25))).set 16 (.ref (a + 26))).set 17 (.ref (a + 27))).set 18 (.ref (a + 28)))) → h1.2 (a + 23) = .inl (.int, 12, .inl (fun _ => 0)) → h1.2 (a + 24) = .inl (.int, 12, .inl (fun _ => 0)) → h1.2 (a + 25) = .inl (.int, 12, .inl (fun _ => 0)) → h1.2 (a + 26) = .inl (.int, 12, .inl (fun _ => 0)) → h1.2 (a + 27) = .inl (.int, 12, .inl (fun _ => 0)) → h1.2 (a + 28) = .inl (.byte, 2600, .inl (fun _ => 0)) → (∀ q, q ≠ a → q < a + 23 ∨ 1099511627776 ≤ q → h1.2 q = h.2 q) → vm_T (vm_env l O f9) mX14_init 223 22918 165 [(0, .ref a)] [] h1 Q) : vm_T (vm_env l O f9) mX14_init 229 25578 116 [(0, .ref a)] [] h Q := by
  refine vm_go rfl bX14_initx_116 oX14_initx_116 ?_
  refine np_I (idx := 0) (N := 12) rfl (by decide) (by decide) (by decide) (by omega) m0 (by omega) (show 13 < fs0.length by omega) ?_
  rintro h1 ⟨d1, m1, a1, v1⟩
  rw [c0] at d1 m1 a1 v1
  have c1 : h1.1 = a + 24 := by omega
  have u1 : ∀ q, q ≠ a → q < a + 23 ∨ 1099511627776 ≤ q → h1.2 q = h.2 q := fun q z1 z2 => v1 q z1 (by omega)
  obtain ⟨fs1, ef1⟩ : ∃ fs1, fs1 = fs0.set 13 (.ref (a + 23)) := ⟨_, rfl⟩
  rw [← ef1] at m1
  have hl1 : fs1.length = 89 := by rw [ef1, List.length_set]; exact hl0
  refine np_I (idx := 0) (N := 12) rfl (by decide) (by decide) (by decide) (by omega) m1 (by omega) (show 14 < fs1.length by omega) ?_
  rintro h2 ⟨d2, m2, a2, v2⟩
  rw [c1] at d2 m2 a2 v2
  have c2 : h2.1 = a + 25 := by omega
  have u2 : ∀ q, q ≠ a → q < a + 24 ∨ 1099511627776 ≤ q → h2.2 q = h1.2 q := fun q z1 z2 => v2 q z1 (by omega)
  obtain ⟨fs2, ef2⟩ : ∃ fs2, fs2 = fs1.set 14 (.ref (a + 24)) := ⟨_, rfl⟩
  rw [← ef2] at m2
  have hl2 : fs2.length = 89 := by rw [ef2, List.length_set]; exact hl1
  refine np_I (idx := 0) (N := 12) rfl (by decide) (by decide) (by decide) (by omega) m2 (by omega) (show 15 < fs2.length by omega) ?_
  rintro h3 ⟨d3, m3, a3, v3⟩
  rw [c2] at d3 m3 a3 v3
  have c3 : h3.1 = a + 26 := by omega
  have u3 : ∀ q, q ≠ a → q < a + 25 ∨ 1099511627776 ≤ q → h3.2 q = h2.2 q := fun q z1 z2 => v3 q z1 (by omega)
  obtain ⟨fs3, ef3⟩ : ∃ fs3, fs3 = fs2.set 15 (.ref (a + 25)) := ⟨_, rfl⟩
  rw [← ef3] at m3
  have hl3 : fs3.length = 89 := by rw [ef3, List.length_set]; exact hl2
  refine np_I (idx := 0) (N := 12) rfl (by decide) (by decide) (by decide) (by omega) m3 (by omega) (show 16 < fs3.length by omega) ?_
  rintro h4 ⟨d4, m4, a4, v4⟩
  rw [c3] at d4 m4 a4 v4
  have c4 : h4.1 = a + 27 := by omega
  have u4 : ∀ q, q ≠ a → q < a + 26 ∨ 1099511627776 ≤ q → h4.2 q = h3.2 q := fun q z1 z2 => v4 q z1 (by omega)
  obtain ⟨fs4, ef4⟩ : ∃ fs4, fs4 = fs3.set 16 (.ref (a + 26)) := ⟨_, rfl⟩
  rw [← ef4] at m4
  have hl4 : fs4.length = 89 := by rw [ef4, List.length_set]; exact hl3
  refine np_I (idx := 0) (N := 12) rfl (by decide) (by decide) (by decide) (by omega) m4 (by omega) (show 17 < fs4.length by omega) ?_
  rintro h5 ⟨d5, m5, a5, v5⟩
  rw [c4] at d5 m5 a5 v5
  have c5 : h5.1 = a + 28 := by omega
  have u5 : ∀ q, q ≠ a → q < a + 27 ∨ 1099511627776 ≤ q → h5.2 q = h4.2 q := fun q z1 z2 => v5 q z1 (by omega)
  obtain ⟨fs5, ef5⟩ : ∃ fs5, fs5 = fs4.set 17 (.ref (a + 27)) := ⟨_, rfl⟩
  rw [← ef5] at m5
  have hl5 : fs5.length = 89 := by rw [ef5, List.length_set]; exact hl4
  refine np_B (idx := 0) (N := 2600) (by decide) (by decide) (by decide) (by decide) (by omega) m5 (by omega) (show 18 < fs5.length by omega) ?_
  rintro h6 ⟨d6, m6, a6, v6⟩
  rw [c5] at d6 m6 a6 v6
  have c6 : h6.1 = a + 29 := by omega
  have u6 : ∀ q, q ≠ a → q < a + 28 ∨ 1099511627776 ≤ q → h6.2 q = h5.2 q := fun q z1 z2 => v6 q z1 (by omega)
  obtain ⟨fs6, ef6⟩ : ∃ fs6, fs6 = fs5.set 18 (.ref (a + 28)) := ⟨_, rfl⟩
  rw [← ef6] at m6
  have hl6 : fs6.length = 89 := by rw [ef6, List.length_set]; exact hl5
  have E6 : ∀ q, q ≠ a → q < a + 29 ∨ 1099511627776 ≤ q → h6.2 q = h6.2 q := fun q _ _ => rfl
  have E5 : ∀ q, q ≠ a → q < a + 28 ∨ 1099511627776 ≤ q → h6.2 q = h5.2 q := fun q z1 z2 => (E6 q z1 (by omega)).trans (u6 q z1 (by omega))
  have E4 : ∀ q, q ≠ a → q < a + 27 ∨ 1099511627776 ≤ q → h6.2 q = h4.2 q := fun q z1 z2 => (E5 q z1 (by omega)).trans (u5 q z1 (by omega))
  have E3 : ∀ q, q ≠ a → q < a + 26 ∨ 1099511627776 ≤ q → h6.2 q = h3.2 q := fun q z1 z2 => (E4 q z1 (by omega)).trans (u4 q z1 (by omega))
  have E2 : ∀ q, q ≠ a → q < a + 25 ∨ 1099511627776 ≤ q → h6.2 q = h2.2 q := fun q z1 z2 => (E3 q z1 (by omega)).trans (u3 q z1 (by omega))
  have E1 : ∀ q, q ≠ a → q < a + 24 ∨ 1099511627776 ≤ q → h6.2 q = h1.2 q := fun q z1 z2 => (E2 q z1 (by omega)).trans (u2 q z1 (by omega))
  have E0 : ∀ q, q ≠ a → q < a + 23 ∨ 1099511627776 ≤ q → h6.2 q = h.2 q := fun q z1 z2 => (E1 q z1 (by omega)).trans (u1 q z1 (by omega))
  exact K h6 c6 (show h6.2 a = .inr (14, ((((((fs0.set 13 (.ref (a + 23))).set 14 (.ref (a + 24))).set 15 (.ref (a + 25))).set 16 (.ref (a + 26))).set 17 (.ref (a + 27))).set 18 (.ref (a + 28)))) by rw [m6, ef6, ef5, ef4, ef3, ef2, ef1]) ((E1 (a + 23) (by omega) (Or.inl (by omega))).trans a1) ((E2 (a + 24) (by omega) (Or.inl (by omega))).trans a2) ((E3 (a + 25) (by omega) (Or.inl (by omega))).trans a3) ((E4 (a + 26) (by omega) (Or.inl (by omega))).trans a4) ((E5 (a + 27) (by omega) (Or.inl (by omega))).trans a5) ((E6 (a + 28) (by omega) (Or.inl (by omega))).trans a6) E0
theorem rj_4 {h : vm_H} {a : Nat} {fs0 : List Value} {Q : Option Value → vm_H → Prop} (m0 : h.2 a = .inr (14, fs0)) (hl0 : fs0.length = 89) (c0 : h.1 = a + 29) (hh : a + 5000 < 1099511627776) (K : ∀ (h1 : vm_H), h1.1 = a + 35 → h1.2 a = .inr (14, ((((((fs0.set 20 (.ref (a + 29))).set 21 (.ref (a + 30))).set 22 (.ref (a + 31))).set 23 (.ref (a + 32))).set 24 (.ref (a + 33))).set 25 (.ref (a + 34)))) → h1.2 (a + 29) = .inl (.byte, 48, .inl (fun _ => 0)) → h1.2 (a + 30) = .inl (.int, 8, .inl (fun _ => 0)) → h1.2 (a + 31) = .inl (.int, 64, .inl (fun _ => 0)) → h1.2 (a + 32) = .inl (.long, 8, .inr (.inl (fun _ => 0))) → h1.2 (a + 33) = .inl (.long, 80, .inr (.inl (fun _ => 0))) → h1.2 (a + 34) = .inl (.byte, 700, .inl (fun _ => 0)) → (∀ q, q ≠ a → q < a + 29 ∨ 1099511627776 ≤ q → h1.2 q = h.2 q) → vm_T (vm_env l O f9) mX14_init 217 22010 214 [(0, .ref a)] [] h1 Q) : vm_T (vm_env l O f9) mX14_init 223 22918 165 [(0, .ref a)] [] h Q := by
  refine vm_go rfl bX14_initx_165 oX14_initx_165 ?_
  refine np_B (idx := 0) (N := 48) rfl (by decide) (by decide) (by decide) (by omega) m0 (by omega) (show 20 < fs0.length by omega) ?_
  rintro h1 ⟨d1, m1, a1, v1⟩
  rw [c0] at d1 m1 a1 v1
  have c1 : h1.1 = a + 30 := by omega
  have u1 : ∀ q, q ≠ a → q < a + 29 ∨ 1099511627776 ≤ q → h1.2 q = h.2 q := fun q z1 z2 => v1 q z1 (by omega)
  obtain ⟨fs1, ef1⟩ : ∃ fs1, fs1 = fs0.set 20 (.ref (a + 29)) := ⟨_, rfl⟩
  rw [← ef1] at m1
  have hl1 : fs1.length = 89 := by rw [ef1, List.length_set]; exact hl0
  refine np_I (idx := 0) (N := 8) rfl (by decide) (by decide) (by decide) (by omega) m1 (by omega) (show 21 < fs1.length by omega) ?_
  rintro h2 ⟨d2, m2, a2, v2⟩
  rw [c1] at d2 m2 a2 v2
  have c2 : h2.1 = a + 31 := by omega
  have u2 : ∀ q, q ≠ a → q < a + 30 ∨ 1099511627776 ≤ q → h2.2 q = h1.2 q := fun q z1 z2 => v2 q z1 (by omega)
  obtain ⟨fs2, ef2⟩ : ∃ fs2, fs2 = fs1.set 21 (.ref (a + 30)) := ⟨_, rfl⟩
  rw [← ef2] at m2
  have hl2 : fs2.length = 89 := by rw [ef2, List.length_set]; exact hl1
  refine np_I (idx := 0) (N := 64) rfl (by decide) (by decide) (by decide) (by omega) m2 (by omega) (show 22 < fs2.length by omega) ?_
  rintro h3 ⟨d3, m3, a3, v3⟩
  rw [c2] at d3 m3 a3 v3
  have c3 : h3.1 = a + 32 := by omega
  have u3 : ∀ q, q ≠ a → q < a + 31 ∨ 1099511627776 ≤ q → h3.2 q = h2.2 q := fun q z1 z2 => v3 q z1 (by omega)
  obtain ⟨fs3, ef3⟩ : ∃ fs3, fs3 = fs2.set 22 (.ref (a + 31)) := ⟨_, rfl⟩
  rw [← ef3] at m3
  have hl3 : fs3.length = 89 := by rw [ef3, List.length_set]; exact hl2
  refine np_L (idx := 0) (N := 8) rfl (by decide) (by decide) (by decide) (by omega) m3 (by omega) (show 23 < fs3.length by omega) ?_
  rintro h4 ⟨d4, m4, a4, v4⟩
  rw [c3] at d4 m4 a4 v4
  have c4 : h4.1 = a + 33 := by omega
  have u4 : ∀ q, q ≠ a → q < a + 32 ∨ 1099511627776 ≤ q → h4.2 q = h3.2 q := fun q z1 z2 => v4 q z1 (by omega)
  obtain ⟨fs4, ef4⟩ : ∃ fs4, fs4 = fs3.set 23 (.ref (a + 32)) := ⟨_, rfl⟩
  rw [← ef4] at m4
  have hl4 : fs4.length = 89 := by rw [ef4, List.length_set]; exact hl3
  refine np_L (idx := 0) (N := 80) rfl (by decide) (by decide) (by decide) (by omega) m4 (by omega) (show 24 < fs4.length by omega) ?_
  rintro h5 ⟨d5, m5, a5, v5⟩
  rw [c4] at d5 m5 a5 v5
  have c5 : h5.1 = a + 34 := by omega
  have u5 : ∀ q, q ≠ a → q < a + 33 ∨ 1099511627776 ≤ q → h5.2 q = h4.2 q := fun q z1 z2 => v5 q z1 (by omega)
  obtain ⟨fs5, ef5⟩ : ∃ fs5, fs5 = fs4.set 24 (.ref (a + 33)) := ⟨_, rfl⟩
  rw [← ef5] at m5
  have hl5 : fs5.length = 89 := by rw [ef5, List.length_set]; exact hl4
  refine np_B (idx := 0) (N := 700) (by decide) (by decide) (by decide) (by decide) (by omega) m5 (by omega) (show 25 < fs5.length by omega) ?_
  rintro h6 ⟨d6, m6, a6, v6⟩
  rw [c5] at d6 m6 a6 v6
  have c6 : h6.1 = a + 35 := by omega
  have u6 : ∀ q, q ≠ a → q < a + 34 ∨ 1099511627776 ≤ q → h6.2 q = h5.2 q := fun q z1 z2 => v6 q z1 (by omega)
  obtain ⟨fs6, ef6⟩ : ∃ fs6, fs6 = fs5.set 25 (.ref (a + 34)) := ⟨_, rfl⟩
  rw [← ef6] at m6
  have hl6 : fs6.length = 89 := by rw [ef6, List.length_set]; exact hl5
  have E6 : ∀ q, q ≠ a → q < a + 35 ∨ 1099511627776 ≤ q → h6.2 q = h6.2 q := fun q _ _ => rfl
  have E5 : ∀ q, q ≠ a → q < a + 34 ∨ 1099511627776 ≤ q → h6.2 q = h5.2 q := fun q z1 z2 => (E6 q z1 (by omega)).trans (u6 q z1 (by omega))
  have E4 : ∀ q, q ≠ a → q < a + 33 ∨ 1099511627776 ≤ q → h6.2 q = h4.2 q := fun q z1 z2 => (E5 q z1 (by omega)).trans (u5 q z1 (by omega))
  have E3 : ∀ q, q ≠ a → q < a + 32 ∨ 1099511627776 ≤ q → h6.2 q = h3.2 q := fun q z1 z2 => (E4 q z1 (by omega)).trans (u4 q z1 (by omega))
  have E2 : ∀ q, q ≠ a → q < a + 31 ∨ 1099511627776 ≤ q → h6.2 q = h2.2 q := fun q z1 z2 => (E3 q z1 (by omega)).trans (u3 q z1 (by omega))
  have E1 : ∀ q, q ≠ a → q < a + 30 ∨ 1099511627776 ≤ q → h6.2 q = h1.2 q := fun q z1 z2 => (E2 q z1 (by omega)).trans (u2 q z1 (by omega))
  have E0 : ∀ q, q ≠ a → q < a + 29 ∨ 1099511627776 ≤ q → h6.2 q = h.2 q := fun q z1 z2 => (E1 q z1 (by omega)).trans (u1 q z1 (by omega))
  exact K h6 c6 (show h6.2 a = .inr (14, ((((((fs0.set 20 (.ref (a + 29))).set 21 (.ref (a + 30))).set 22 (.ref (a + 31))).set 23 (.ref (a + 32))).set 24 (.ref (a + 33))).set 25 (.ref (a + 34)))) by rw [m6, ef6, ef5, ef4, ef3, ef2, ef1]) ((E1 (a + 29) (by omega) (Or.inl (by omega))).trans a1) ((E2 (a + 30) (by omega) (Or.inl (by omega))).trans a2) ((E3 (a + 31) (by omega) (Or.inl (by omega))).trans a3) ((E4 (a + 32) (by omega) (Or.inl (by omega))).trans a4) ((E5 (a + 33) (by omega) (Or.inl (by omega))).trans a5) ((E6 (a + 34) (by omega) (Or.inl (by omega))).trans a6) E0
theorem rj_5 {h : vm_H} {a : Nat} {fs0 : List Value} {Q : Option Value → vm_H → Prop} (m0 : h.2 a = .inr (14, fs0)) (hl0 : fs0.length = 89) (c0 : h.1 = a + 35) (hh : a + 5000 < 1099511627776) (K : ∀ (h1 : vm_H), h1.1 = a + 43 → h1.2 a = .inr (14, ((((((fs0.set 27 (.ref (a + 35))).set 29 (.ref (a + 36))).set 30 (.ref (a + 37))).set 31 (.ref (a + 38))).set 32 (.ref (a + 39))).set 33 (.ref (a + 42)))) → h1.2 (a + 35) = .inl (.byte, 48, .inl (fun _ => 0)) → h1.2 (a + 36) = .inl (.byte, 48, .inl (fun _ => 0)) → h1.2 (a + 37) = .inl (.byte, 48, .inl (fun _ => 0)) → h1.2 (a + 38) = .inl (.byte, 144, .inl (fun _ => 0)) → h1.2 (a + 39) = .inr (13, [.ref (a + 40), .ref (a + 41), .int 0]) → h1.2 (a + 40) = .inl (.int, 12, .inl (fun _ => 0)) → h1.2 (a + 41) = .inl (.int, 12, .inl (fun _ => 0)) → h1.2 (a + 42) = .inl (.int, 12, .inl (fun _ => 0)) → (∀ q, q ≠ a → q < a + 35 ∨ 1099511627776 ≤ q → h1.2 q = h.2 q) → vm_T (vm_env l O f9) mX14_init 209 21683 266 [(0, .ref a)] [] h1 Q) : vm_T (vm_env l O f9) mX14_init 217 22010 214 [(0, .ref a)] [] h Q := by
  refine vm_go rfl bX14_initx_214 oX14_initx_214 ?_
  refine np_B (idx := 0) (N := 48) rfl (by decide) (by decide) (by decide) (by omega) m0 (by omega) (show 27 < fs0.length by omega) ?_
  rintro h1 ⟨d1, m1, a1, v1⟩
  rw [c0] at d1 m1 a1 v1
  have c1 : h1.1 = a + 36 := by omega
  have u1 : ∀ q, q ≠ a → q < a + 35 ∨ 1099511627776 ≤ q → h1.2 q = h.2 q := fun q z1 z2 => v1 q z1 (by omega)
  obtain ⟨fs1, ef1⟩ : ∃ fs1, fs1 = fs0.set 27 (.ref (a + 35)) := ⟨_, rfl⟩
  rw [← ef1] at m1
  have hl1 : fs1.length = 89 := by rw [ef1, List.length_set]; exact hl0
  refine np_B (idx := 0) (N := 48) rfl (by decide) (by decide) (by decide) (by omega) m1 (by omega) (show 29 < fs1.length by omega) ?_
  rintro h2 ⟨d2, m2, a2, v2⟩
  rw [c1] at d2 m2 a2 v2
  have c2 : h2.1 = a + 37 := by omega
  have u2 : ∀ q, q ≠ a → q < a + 36 ∨ 1099511627776 ≤ q → h2.2 q = h1.2 q := fun q z1 z2 => v2 q z1 (by omega)
  obtain ⟨fs2, ef2⟩ : ∃ fs2, fs2 = fs1.set 29 (.ref (a + 36)) := ⟨_, rfl⟩
  rw [← ef2] at m2
  have hl2 : fs2.length = 89 := by rw [ef2, List.length_set]; exact hl1
  refine np_B (idx := 0) (N := 48) rfl (by decide) (by decide) (by decide) (by omega) m2 (by omega) (show 30 < fs2.length by omega) ?_
  rintro h3 ⟨d3, m3, a3, v3⟩
  rw [c2] at d3 m3 a3 v3
  have c3 : h3.1 = a + 38 := by omega
  have u3 : ∀ q, q ≠ a → q < a + 37 ∨ 1099511627776 ≤ q → h3.2 q = h2.2 q := fun q z1 z2 => v3 q z1 (by omega)
  obtain ⟨fs3, ef3⟩ : ∃ fs3, fs3 = fs2.set 30 (.ref (a + 37)) := ⟨_, rfl⟩
  rw [← ef3] at m3
  have hl3 : fs3.length = 89 := by rw [ef3, List.length_set]; exact hl2
  refine np_B (idx := 0) (N := 144) rfl (by decide) (by decide) (by decide) (by omega) m3 (by omega) (show 31 < fs3.length by omega) ?_
  rintro h4 ⟨d4, m4, a4, v4⟩
  rw [c3] at d4 m4 a4 v4
  have c4 : h4.1 = a + 39 := by omega
  have u4 : ∀ q, q ≠ a → q < a + 38 ∨ 1099511627776 ≤ q → h4.2 q = h3.2 q := fun q z1 z2 => v4 q z1 (by omega)
  obtain ⟨fs4, ef4⟩ : ∃ fs4, fs4 = fs3.set 31 (.ref (a + 38)) := ⟨_, rfl⟩
  rw [← ef4] at m4
  have hl4 : fs4.length = 89 := by rw [ef4, List.length_set]; exact hl3
  refine ⟨by decide, by decide, by omega, ?_⟩
  generalize hq5 : vm_nw h4 _ = g5
  have gc5 : g5.1 = a + 40 := by rw [← hq5]; show h4.1 + 1 = _; omega
  have ga5 : g5.2 (a + 39) = .inr (13, vm_df 13) := by rw [← hq5, ← c4]; exact nw_e
  have gu5 : ∀ q, q ≠ a + 39 → g5.2 q = h4.2 q := fun q z => by rw [← hq5]; exact nw_n (by omega)
  clear hq5
  rw [c4]
  have gm5 : g5.2 a = .inr (14, fs4) := (gu5 _ (by omega)).trans m4
  refine ⟨2, 24, _, v_spot ga5 (by omega) (by omega), by decide, by decide, ?_⟩
  rintro _ f5 ⟨rfl, fc5, fo5, fx5, fy5, fv5⟩
  rw [gc5] at fc5 fo5 fx5 fy5 fv5
  refine np_p (idx := 0) (w := .ref (a + 39)) (k := 32) (tc := 4) ((fv5 _ (by omega) (Or.inl (by omega))).trans gm5) (by omega) (show 32 < fs4.length by omega) trivial ?_
  intro h5 d5 m5 v5
  have c5 : h5.1 = a + 42 := by omega
  have u5 : ∀ q, q ≠ a → q < a + 39 ∨ 1099511627776 ≤ q → h5.2 q = h4.2 q := fun q z1 z2 => by rw [v5 q z1, fv5 q (by omega) (by omega), gu5 q (by omega)]
  have o5 : h5.2 (a + 39) = .inr (13, [.ref (a + 40), .ref (a + 41), .int 0]) := (v5 _ (by omega)).trans fo5
  have x5 : h5.2 (a + 40) = .inl (.int, 12, .inl (fun _ => 0)) := (v5 _ (by omega)).trans fx5
  have y5 : h5.2 (a + 41) = .inl (.int, 12, .inl (fun _ => 0)) := (v5 _ (by omega)).trans fy5
  obtain ⟨fs5, ef5⟩ : ∃ fs5, fs5 = fs4.set 32 (.ref (a + 39)) := ⟨_, rfl⟩
  rw [← ef5] at m5
  have hl5 : fs5.length = 89 := by rw [ef5, List.length_set]; exact hl4
  refine np_I (idx := 0) (N := 12) rfl (by decide) (by decide) (by decide) (by omega) m5 (by omega) (show 33 < fs5.length by omega) ?_
  rintro h6 ⟨d6, m6, a6, v6⟩
  rw [c5] at d6 m6 a6 v6
  have c6 : h6.1 = a + 43 := by omega
  have u6 : ∀ q, q ≠ a → q < a + 42 ∨ 1099511627776 ≤ q → h6.2 q = h5.2 q := fun q z1 z2 => v6 q z1 (by omega)
  obtain ⟨fs6, ef6⟩ : ∃ fs6, fs6 = fs5.set 33 (.ref (a + 42)) := ⟨_, rfl⟩
  rw [← ef6] at m6
  have hl6 : fs6.length = 89 := by rw [ef6, List.length_set]; exact hl5
  have E6 : ∀ q, q ≠ a → q < a + 43 ∨ 1099511627776 ≤ q → h6.2 q = h6.2 q := fun q _ _ => rfl
  have E5 : ∀ q, q ≠ a → q < a + 42 ∨ 1099511627776 ≤ q → h6.2 q = h5.2 q := fun q z1 z2 => (E6 q z1 (by omega)).trans (u6 q z1 (by omega))
  have E4 : ∀ q, q ≠ a → q < a + 39 ∨ 1099511627776 ≤ q → h6.2 q = h4.2 q := fun q z1 z2 => (E5 q z1 (by omega)).trans (u5 q z1 (by omega))
  have E3 : ∀ q, q ≠ a → q < a + 38 ∨ 1099511627776 ≤ q → h6.2 q = h3.2 q := fun q z1 z2 => (E4 q z1 (by omega)).trans (u4 q z1 (by omega))
  have E2 : ∀ q, q ≠ a → q < a + 37 ∨ 1099511627776 ≤ q → h6.2 q = h2.2 q := fun q z1 z2 => (E3 q z1 (by omega)).trans (u3 q z1 (by omega))
  have E1 : ∀ q, q ≠ a → q < a + 36 ∨ 1099511627776 ≤ q → h6.2 q = h1.2 q := fun q z1 z2 => (E2 q z1 (by omega)).trans (u2 q z1 (by omega))
  have E0 : ∀ q, q ≠ a → q < a + 35 ∨ 1099511627776 ≤ q → h6.2 q = h.2 q := fun q z1 z2 => (E1 q z1 (by omega)).trans (u1 q z1 (by omega))
  exact K h6 c6 (show h6.2 a = .inr (14, ((((((fs0.set 27 (.ref (a + 35))).set 29 (.ref (a + 36))).set 30 (.ref (a + 37))).set 31 (.ref (a + 38))).set 32 (.ref (a + 39))).set 33 (.ref (a + 42)))) by rw [m6, ef6, ef5, ef4, ef3, ef2, ef1]) ((E1 (a + 35) (by omega) (Or.inl (by omega))).trans a1) ((E2 (a + 36) (by omega) (Or.inl (by omega))).trans a2) ((E3 (a + 37) (by omega) (Or.inl (by omega))).trans a3) ((E4 (a + 38) (by omega) (Or.inl (by omega))).trans a4) ((E5 (a + 39) (by omega) (Or.inl (by omega))).trans o5) ((E5 (a + 40) (by omega) (Or.inl (by omega))).trans x5) ((E5 (a + 41) (by omega) (Or.inl (by omega))).trans y5) ((E6 (a + 42) (by omega) (Or.inl (by omega))).trans a6) E0
theorem rj_6 {h : vm_H} {a : Nat} {fs0 : List Value} {Q : Option Value → vm_H → Prop} (m0 : h.2 a = .inr (14, fs0)) (hl0 : fs0.length = 89) (c0 : h.1 = a + 43) (hh : a + 5000 < 1099511627776) (K : ∀ (h1 : vm_H), h1.1 = a + 49 → h1.2 a = .inr (14, ((((((fs0.set 34 (.ref (a + 43))).set 35 (.ref (a + 44))).set 36 (.ref (a + 45))).set 37 (.ref (a + 46))).set 38 (.ref (a + 47))).set 39 (.ref (a + 48)))) → h1.2 (a + 43) = .inl (.int, 12, .inl (fun _ => 0)) → h1.2 (a + 44) = .inl (.int, 12, .inl (fun _ => 0)) → h1.2 (a + 45) = .inl (.int, 12, .inl (fun _ => 0)) → h1.2 (a + 46) = .inl (.int, 12, .inl (fun _ => 0)) → h1.2 (a + 47) = .inl (.int, 12, .inl (fun _ => 0)) → h1.2 (a + 48) = .inl (.int, 12, .inl (fun _ => 0)) → (∀ q, q ≠ a → q < a + 43 ∨ 1099511627776 ≤ q → h1.2 q = h.2 q) → vm_T (vm_env l O f9) mX14_init 203 21611 314 [(0, .ref a)] [] h1 Q) : vm_T (vm_env l O f9) mX14_init 209 21683 266 [(0, .ref a)] [] h Q := by
  refine vm_go rfl bX14_initx_266 oX14_initx_266 ?_
  refine np_I (idx := 0) (N := 12) rfl (by decide) (by decide) (by decide) (by omega) m0 (by omega) (show 34 < fs0.length by omega) ?_
  rintro h1 ⟨d1, m1, a1, v1⟩
  rw [c0] at d1 m1 a1 v1
  have c1 : h1.1 = a + 44 := by omega
  have u1 : ∀ q, q ≠ a → q < a + 43 ∨ 1099511627776 ≤ q → h1.2 q = h.2 q := fun q z1 z2 => v1 q z1 (by omega)
  obtain ⟨fs1, ef1⟩ : ∃ fs1, fs1 = fs0.set 34 (.ref (a + 43)) := ⟨_, rfl⟩
  rw [← ef1] at m1
  have hl1 : fs1.length = 89 := by rw [ef1, List.length_set]; exact hl0
  refine np_I (idx := 0) (N := 12) rfl (by decide) (by decide) (by decide) (by omega) m1 (by omega) (show 35 < fs1.length by omega) ?_
  rintro h2 ⟨d2, m2, a2, v2⟩
  rw [c1] at d2 m2 a2 v2
  have c2 : h2.1 = a + 45 := by omega
  have u2 : ∀ q, q ≠ a → q < a + 44 ∨ 1099511627776 ≤ q → h2.2 q = h1.2 q := fun q z1 z2 => v2 q z1 (by omega)
  obtain ⟨fs2, ef2⟩ : ∃ fs2, fs2 = fs1.set 35 (.ref (a + 44)) := ⟨_, rfl⟩
  rw [← ef2] at m2
  have hl2 : fs2.length = 89 := by rw [ef2, List.length_set]; exact hl1
  refine np_I (idx := 0) (N := 12) rfl (by decide) (by decide) (by decide) (by omega) m2 (by omega) (show 36 < fs2.length by omega) ?_
  rintro h3 ⟨d3, m3, a3, v3⟩
  rw [c2] at d3 m3 a3 v3
  have c3 : h3.1 = a + 46 := by omega
  have u3 : ∀ q, q ≠ a → q < a + 45 ∨ 1099511627776 ≤ q → h3.2 q = h2.2 q := fun q z1 z2 => v3 q z1 (by omega)
  obtain ⟨fs3, ef3⟩ : ∃ fs3, fs3 = fs2.set 36 (.ref (a + 45)) := ⟨_, rfl⟩
  rw [← ef3] at m3
  have hl3 : fs3.length = 89 := by rw [ef3, List.length_set]; exact hl2
  refine np_I (idx := 0) (N := 12) rfl (by decide) (by decide) (by decide) (by omega) m3 (by omega) (show 37 < fs3.length by omega) ?_
  rintro h4 ⟨d4, m4, a4, v4⟩
  rw [c3] at d4 m4 a4 v4
  have c4 : h4.1 = a + 47 := by omega
  have u4 : ∀ q, q ≠ a → q < a + 46 ∨ 1099511627776 ≤ q → h4.2 q = h3.2 q := fun q z1 z2 => v4 q z1 (by omega)
  obtain ⟨fs4, ef4⟩ : ∃ fs4, fs4 = fs3.set 37 (.ref (a + 46)) := ⟨_, rfl⟩
  rw [← ef4] at m4
  have hl4 : fs4.length = 89 := by rw [ef4, List.length_set]; exact hl3
  refine np_I (idx := 0) (N := 12) rfl (by decide) (by decide) (by decide) (by omega) m4 (by omega) (show 38 < fs4.length by omega) ?_
  rintro h5 ⟨d5, m5, a5, v5⟩
  rw [c4] at d5 m5 a5 v5
  have c5 : h5.1 = a + 48 := by omega
  have u5 : ∀ q, q ≠ a → q < a + 47 ∨ 1099511627776 ≤ q → h5.2 q = h4.2 q := fun q z1 z2 => v5 q z1 (by omega)
  obtain ⟨fs5, ef5⟩ : ∃ fs5, fs5 = fs4.set 38 (.ref (a + 47)) := ⟨_, rfl⟩
  rw [← ef5] at m5
  have hl5 : fs5.length = 89 := by rw [ef5, List.length_set]; exact hl4
  refine np_I (idx := 0) (N := 12) rfl (by decide) (by decide) (by decide) (by omega) m5 (by omega) (show 39 < fs5.length by omega) ?_
  rintro h6 ⟨d6, m6, a6, v6⟩
  rw [c5] at d6 m6 a6 v6
  have c6 : h6.1 = a + 49 := by omega
  have u6 : ∀ q, q ≠ a → q < a + 48 ∨ 1099511627776 ≤ q → h6.2 q = h5.2 q := fun q z1 z2 => v6 q z1 (by omega)
  obtain ⟨fs6, ef6⟩ : ∃ fs6, fs6 = fs5.set 39 (.ref (a + 48)) := ⟨_, rfl⟩
  rw [← ef6] at m6
  have hl6 : fs6.length = 89 := by rw [ef6, List.length_set]; exact hl5
  have E6 : ∀ q, q ≠ a → q < a + 49 ∨ 1099511627776 ≤ q → h6.2 q = h6.2 q := fun q _ _ => rfl
  have E5 : ∀ q, q ≠ a → q < a + 48 ∨ 1099511627776 ≤ q → h6.2 q = h5.2 q := fun q z1 z2 => (E6 q z1 (by omega)).trans (u6 q z1 (by omega))
  have E4 : ∀ q, q ≠ a → q < a + 47 ∨ 1099511627776 ≤ q → h6.2 q = h4.2 q := fun q z1 z2 => (E5 q z1 (by omega)).trans (u5 q z1 (by omega))
  have E3 : ∀ q, q ≠ a → q < a + 46 ∨ 1099511627776 ≤ q → h6.2 q = h3.2 q := fun q z1 z2 => (E4 q z1 (by omega)).trans (u4 q z1 (by omega))
  have E2 : ∀ q, q ≠ a → q < a + 45 ∨ 1099511627776 ≤ q → h6.2 q = h2.2 q := fun q z1 z2 => (E3 q z1 (by omega)).trans (u3 q z1 (by omega))
  have E1 : ∀ q, q ≠ a → q < a + 44 ∨ 1099511627776 ≤ q → h6.2 q = h1.2 q := fun q z1 z2 => (E2 q z1 (by omega)).trans (u2 q z1 (by omega))
  have E0 : ∀ q, q ≠ a → q < a + 43 ∨ 1099511627776 ≤ q → h6.2 q = h.2 q := fun q z1 z2 => (E1 q z1 (by omega)).trans (u1 q z1 (by omega))
  exact K h6 c6 (show h6.2 a = .inr (14, ((((((fs0.set 34 (.ref (a + 43))).set 35 (.ref (a + 44))).set 36 (.ref (a + 45))).set 37 (.ref (a + 46))).set 38 (.ref (a + 47))).set 39 (.ref (a + 48)))) by rw [m6, ef6, ef5, ef4, ef3, ef2, ef1]) ((E1 (a + 43) (by omega) (Or.inl (by omega))).trans a1) ((E2 (a + 44) (by omega) (Or.inl (by omega))).trans a2) ((E3 (a + 45) (by omega) (Or.inl (by omega))).trans a3) ((E4 (a + 46) (by omega) (Or.inl (by omega))).trans a4) ((E5 (a + 47) (by omega) (Or.inl (by omega))).trans a5) ((E6 (a + 48) (by omega) (Or.inl (by omega))).trans a6) E0
theorem rj_7 {h : vm_H} {a : Nat} {fs0 : List Value} {Q : Option Value → vm_H → Prop} (m0 : h.2 a = .inr (14, fs0)) (hl0 : fs0.length = 89) (c0 : h.1 = a + 49) (hh : a + 5000 < 1099511627776) (K : ∀ (h1 : vm_H), h1.1 = a + 61 → h1.2 a = .inr (14, ((((((fs0.set 40 (.ref (a + 49))).set 41 (.ref (a + 50))).set 42 (.ref (a + 51))).set 43 (.ref (a + 52))).set 44 (.ref (a + 55))).set 45 (.ref (a + 58)))) → h1.2 (a + 49) = .inl (.int, 12, .inl (fun _ => 0)) → h1.2 (a + 50) = .inl (.object "VeilMintModel$Spot", 8, .inr (.inr (.inr (.inr (fun _ => none))))) → h1.2 (a + 51) = .inl (.object "VeilMintModel$Spot", 8, .inr (.inr (.inr (.inr (fun _ => none))))) → h1.2 (a + 52) = .inr (13, [.ref (a + 53), .ref (a + 54), .int 0]) → h1.2 (a + 53) = .inl (.int, 12, .inl (fun _ => 0)) → h1.2 (a + 54) = .inl (.int, 12, .inl (fun _ => 0)) → h1.2 (a + 55) = .inr (13, [.ref (a + 56), .ref (a + 57), .int 0]) → h1.2 (a + 56) = .inl (.int, 12, .inl (fun _ => 0)) → h1.2 (a + 57) = .inl (.int, 12, .inl (fun _ => 0)) → h1.2 (a + 58) = .inr (13, [.ref (a + 59), .ref (a + 60), .int 0]) → h1.2 (a + 59) = .inl (.int, 12, .inl (fun _ => 0)) → h1.2 (a + 60) = .inl (.int, 12, .inl (fun _ => 0)) → (∀ q, q ≠ a → q < a + 49 ∨ 1099511627776 ≤ q → h1.2 q = h.2 q) → vm_T (vm_env l O f9) mX14_init 191 21502 373 [(0, .ref a)] [] h1 Q) : vm_T (vm_env l O f9) mX14_init 203 21611 314 [(0, .ref a)] [] h Q := by
  refine vm_go rfl bX14_initx_314 oX14_initx_314 ?_
  refine np_I (idx := 0) (N := 12) rfl (by decide) (by decide) (by decide) (by omega) m0 (by omega) (show 40 < fs0.length by omega) ?_
  rintro h1 ⟨d1, m1, a1, v1⟩
  rw [c0] at d1 m1 a1 v1
  have c1 : h1.1 = a + 50 := by omega
  have u1 : ∀ q, q ≠ a → q < a + 49 ∨ 1099511627776 ≤ q → h1.2 q = h.2 q := fun q z1 z2 => v1 q z1 (by omega)
  obtain ⟨fs1, ef1⟩ : ∃ fs1, fs1 = fs0.set 40 (.ref (a + 49)) := ⟨_, rfl⟩
  rw [← ef1] at m1
  have hl1 : fs1.length = 89 := by rw [ef1, List.length_set]; exact hl0
  refine np_O (idx := 0) (idx2 := 0) (c2 := 13) (N := 8) rfl (by decide) (by decide) (by decide) (by omega) m1 (by omega) (show 41 < fs1.length by omega) ?_
  rintro h2 ⟨d2, m2, a2, v2⟩
  rw [c1] at d2 m2 a2 v2
  have c2 : h2.1 = a + 51 := by omega
  have u2 : ∀ q, q ≠ a → q < a + 50 ∨ 1099511627776 ≤ q → h2.2 q = h1.2 q := fun q z1 z2 => v2 q z1 (by omega)
  obtain ⟨fs2, ef2⟩ : ∃ fs2, fs2 = fs1.set 41 (.ref (a + 50)) := ⟨_, rfl⟩
  rw [← ef2] at m2
  have hl2 : fs2.length = 89 := by rw [ef2, List.length_set]; exact hl1
  refine np_O (idx := 0) (idx2 := 0) (c2 := 13) (N := 8) rfl (by decide) (by decide) (by decide) (by omega) m2 (by omega) (show 42 < fs2.length by omega) ?_
  rintro h3 ⟨d3, m3, a3, v3⟩
  rw [c2] at d3 m3 a3 v3
  have c3 : h3.1 = a + 52 := by omega
  have u3 : ∀ q, q ≠ a → q < a + 51 ∨ 1099511627776 ≤ q → h3.2 q = h2.2 q := fun q z1 z2 => v3 q z1 (by omega)
  obtain ⟨fs3, ef3⟩ : ∃ fs3, fs3 = fs2.set 42 (.ref (a + 51)) := ⟨_, rfl⟩
  rw [← ef3] at m3
  have hl3 : fs3.length = 89 := by rw [ef3, List.length_set]; exact hl2
  refine ⟨by decide, by decide, by omega, ?_⟩
  generalize hq4 : vm_nw h3 _ = g4
  have gc4 : g4.1 = a + 53 := by rw [← hq4]; show h3.1 + 1 = _; omega
  have ga4 : g4.2 (a + 52) = .inr (13, vm_df 13) := by rw [← hq4, ← c3]; exact nw_e
  have gu4 : ∀ q, q ≠ a + 52 → g4.2 q = h3.2 q := fun q z => by rw [← hq4]; exact nw_n (by omega)
  clear hq4
  rw [c3]
  have gm4 : g4.2 a = .inr (14, fs3) := (gu4 _ (by omega)).trans m3
  refine ⟨2, 24, _, v_spot ga4 (by omega) (by omega), by decide, by decide, ?_⟩
  rintro _ f4 ⟨rfl, fc4, fo4, fx4, fy4, fv4⟩
  rw [gc4] at fc4 fo4 fx4 fy4 fv4
  refine np_p (idx := 0) (w := .ref (a + 52)) (k := 43) (tc := 4) ((fv4 _ (by omega) (Or.inl (by omega))).trans gm4) (by omega) (show 43 < fs3.length by omega) trivial ?_
  intro h4 d4 m4 v4
  have c4 : h4.1 = a + 55 := by omega
  have u4 : ∀ q, q ≠ a → q < a + 52 ∨ 1099511627776 ≤ q → h4.2 q = h3.2 q := fun q z1 z2 => by rw [v4 q z1, fv4 q (by omega) (by omega), gu4 q (by omega)]
  have o4 : h4.2 (a + 52) = .inr (13, [.ref (a + 53), .ref (a + 54), .int 0]) := (v4 _ (by omega)).trans fo4
  have x4 : h4.2 (a + 53) = .inl (.int, 12, .inl (fun _ => 0)) := (v4 _ (by omega)).trans fx4
  have y4 : h4.2 (a + 54) = .inl (.int, 12, .inl (fun _ => 0)) := (v4 _ (by omega)).trans fy4
  obtain ⟨fs4, ef4⟩ : ∃ fs4, fs4 = fs3.set 43 (.ref (a + 52)) := ⟨_, rfl⟩
  rw [← ef4] at m4
  have hl4 : fs4.length = 89 := by rw [ef4, List.length_set]; exact hl3
  refine ⟨by decide, by decide, by omega, ?_⟩
  generalize hq5 : vm_nw h4 _ = g5
  have gc5 : g5.1 = a + 56 := by rw [← hq5]; show h4.1 + 1 = _; omega
  have ga5 : g5.2 (a + 55) = .inr (13, vm_df 13) := by rw [← hq5, ← c4]; exact nw_e
  have gu5 : ∀ q, q ≠ a + 55 → g5.2 q = h4.2 q := fun q z => by rw [← hq5]; exact nw_n (by omega)
  clear hq5
  rw [c4]
  have gm5 : g5.2 a = .inr (14, fs4) := (gu5 _ (by omega)).trans m4
  refine ⟨2, 24, _, v_spot ga5 (by omega) (by omega), by decide, by decide, ?_⟩
  rintro _ f5 ⟨rfl, fc5, fo5, fx5, fy5, fv5⟩
  rw [gc5] at fc5 fo5 fx5 fy5 fv5
  refine np_p (idx := 0) (w := .ref (a + 55)) (k := 44) (tc := 4) ((fv5 _ (by omega) (Or.inl (by omega))).trans gm5) (by omega) (show 44 < fs4.length by omega) trivial ?_
  intro h5 d5 m5 v5
  have c5 : h5.1 = a + 58 := by omega
  have u5 : ∀ q, q ≠ a → q < a + 55 ∨ 1099511627776 ≤ q → h5.2 q = h4.2 q := fun q z1 z2 => by rw [v5 q z1, fv5 q (by omega) (by omega), gu5 q (by omega)]
  have o5 : h5.2 (a + 55) = .inr (13, [.ref (a + 56), .ref (a + 57), .int 0]) := (v5 _ (by omega)).trans fo5
  have x5 : h5.2 (a + 56) = .inl (.int, 12, .inl (fun _ => 0)) := (v5 _ (by omega)).trans fx5
  have y5 : h5.2 (a + 57) = .inl (.int, 12, .inl (fun _ => 0)) := (v5 _ (by omega)).trans fy5
  obtain ⟨fs5, ef5⟩ : ∃ fs5, fs5 = fs4.set 44 (.ref (a + 55)) := ⟨_, rfl⟩
  rw [← ef5] at m5
  have hl5 : fs5.length = 89 := by rw [ef5, List.length_set]; exact hl4
  refine ⟨by decide, by decide, by omega, ?_⟩
  generalize hq6 : vm_nw h5 _ = g6
  have gc6 : g6.1 = a + 59 := by rw [← hq6]; show h5.1 + 1 = _; omega
  have ga6 : g6.2 (a + 58) = .inr (13, vm_df 13) := by rw [← hq6, ← c5]; exact nw_e
  have gu6 : ∀ q, q ≠ a + 58 → g6.2 q = h5.2 q := fun q z => by rw [← hq6]; exact nw_n (by omega)
  clear hq6
  rw [c5]
  have gm6 : g6.2 a = .inr (14, fs5) := (gu6 _ (by omega)).trans m5
  refine ⟨2, 24, _, v_spot ga6 (by omega) (by omega), by decide, by decide, ?_⟩
  rintro _ f6 ⟨rfl, fc6, fo6, fx6, fy6, fv6⟩
  rw [gc6] at fc6 fo6 fx6 fy6 fv6
  refine np_p (idx := 0) (w := .ref (a + 58)) (k := 45) (tc := 4) ((fv6 _ (by omega) (Or.inl (by omega))).trans gm6) (by omega) (show 45 < fs5.length by omega) trivial ?_
  intro h6 d6 m6 v6
  have c6 : h6.1 = a + 61 := by omega
  have u6 : ∀ q, q ≠ a → q < a + 58 ∨ 1099511627776 ≤ q → h6.2 q = h5.2 q := fun q z1 z2 => by rw [v6 q z1, fv6 q (by omega) (by omega), gu6 q (by omega)]
  have o6 : h6.2 (a + 58) = .inr (13, [.ref (a + 59), .ref (a + 60), .int 0]) := (v6 _ (by omega)).trans fo6
  have x6 : h6.2 (a + 59) = .inl (.int, 12, .inl (fun _ => 0)) := (v6 _ (by omega)).trans fx6
  have y6 : h6.2 (a + 60) = .inl (.int, 12, .inl (fun _ => 0)) := (v6 _ (by omega)).trans fy6
  obtain ⟨fs6, ef6⟩ : ∃ fs6, fs6 = fs5.set 45 (.ref (a + 58)) := ⟨_, rfl⟩
  rw [← ef6] at m6
  have hl6 : fs6.length = 89 := by rw [ef6, List.length_set]; exact hl5
  have E6 : ∀ q, q ≠ a → q < a + 61 ∨ 1099511627776 ≤ q → h6.2 q = h6.2 q := fun q _ _ => rfl
  have E5 : ∀ q, q ≠ a → q < a + 58 ∨ 1099511627776 ≤ q → h6.2 q = h5.2 q := fun q z1 z2 => (E6 q z1 (by omega)).trans (u6 q z1 (by omega))
  have E4 : ∀ q, q ≠ a → q < a + 55 ∨ 1099511627776 ≤ q → h6.2 q = h4.2 q := fun q z1 z2 => (E5 q z1 (by omega)).trans (u5 q z1 (by omega))
  have E3 : ∀ q, q ≠ a → q < a + 52 ∨ 1099511627776 ≤ q → h6.2 q = h3.2 q := fun q z1 z2 => (E4 q z1 (by omega)).trans (u4 q z1 (by omega))
  have E2 : ∀ q, q ≠ a → q < a + 51 ∨ 1099511627776 ≤ q → h6.2 q = h2.2 q := fun q z1 z2 => (E3 q z1 (by omega)).trans (u3 q z1 (by omega))
  have E1 : ∀ q, q ≠ a → q < a + 50 ∨ 1099511627776 ≤ q → h6.2 q = h1.2 q := fun q z1 z2 => (E2 q z1 (by omega)).trans (u2 q z1 (by omega))
  have E0 : ∀ q, q ≠ a → q < a + 49 ∨ 1099511627776 ≤ q → h6.2 q = h.2 q := fun q z1 z2 => (E1 q z1 (by omega)).trans (u1 q z1 (by omega))
  exact K h6 c6 (show h6.2 a = .inr (14, ((((((fs0.set 40 (.ref (a + 49))).set 41 (.ref (a + 50))).set 42 (.ref (a + 51))).set 43 (.ref (a + 52))).set 44 (.ref (a + 55))).set 45 (.ref (a + 58)))) by rw [m6, ef6, ef5, ef4, ef3, ef2, ef1]) ((E1 (a + 49) (by omega) (Or.inl (by omega))).trans a1) ((E2 (a + 50) (by omega) (Or.inl (by omega))).trans a2) ((E3 (a + 51) (by omega) (Or.inl (by omega))).trans a3) ((E4 (a + 52) (by omega) (Or.inl (by omega))).trans o4) ((E4 (a + 53) (by omega) (Or.inl (by omega))).trans x4) ((E4 (a + 54) (by omega) (Or.inl (by omega))).trans y4) ((E5 (a + 55) (by omega) (Or.inl (by omega))).trans o5) ((E5 (a + 56) (by omega) (Or.inl (by omega))).trans x5) ((E5 (a + 57) (by omega) (Or.inl (by omega))).trans y5) ((E6 (a + 58) (by omega) (Or.inl (by omega))).trans o6) ((E6 (a + 59) (by omega) (Or.inl (by omega))).trans x6) ((E6 (a + 60) (by omega) (Or.inl (by omega))).trans y6) E0
theorem rj_8 {h : vm_H} {a : Nat} {fs0 : List Value} {Q : Option Value → vm_H → Prop} (m0 : h.2 a = .inr (14, fs0)) (hl0 : fs0.length = 89) (c0 : h.1 = a + 61) (hh : a + 5000 < 1099511627776) (K : ∀ (h1 : vm_H), h1.1 = a + 71 → h1.2 a = .inr (14, ((((((fs0.set 46 (.ref (a + 61))).set 47 (.ref (a + 64))).set 48 (.ref (a + 67))).set 49 (.ref (a + 68))).set 50 (.ref (a + 69))).set 51 (.ref (a + 70)))) → h1.2 (a + 61) = .inr (13, [.ref (a + 62), .ref (a + 63), .int 0]) → h1.2 (a + 62) = .inl (.int, 12, .inl (fun _ => 0)) → h1.2 (a + 63) = .inl (.int, 12, .inl (fun _ => 0)) → h1.2 (a + 64) = .inr (13, [.ref (a + 65), .ref (a + 66), .int 0]) → h1.2 (a + 65) = .inl (.int, 12, .inl (fun _ => 0)) → h1.2 (a + 66) = .inl (.int, 12, .inl (fun _ => 0)) → h1.2 (a + 67) = .inl (.byte, 48, .inl (fun _ => 0)) → h1.2 (a + 68) = .inl (.byte, 49, .inl (fun _ => 0)) → h1.2 (a + 69) = .inl (.int, 12, .inl (fun _ => 0)) → h1.2 (a + 70) = .inl (.int, 12, .inl (fun _ => 0)) → (∀ q, q ≠ a → q < a + 61 ∨ 1099511627776 ≤ q → h1.2 q = h.2 q) → vm_T (vm_env l O f9) mX14_init 181 21327 427 [(0, .ref a)] [] h1 Q) : vm_T (vm_env l O f9) mX14_init 191 21502 373 [(0, .ref a)] [] h Q := by
  refine vm_go rfl bX14_initx_373 oX14_initx_373 ?_
  refine ⟨by decide, by decide, by omega, ?_⟩
  generalize hq1 : vm_nw h _ = g1
  have gc1 : g1.1 = a + 62 := by rw [← hq1]; show h.1 + 1 = _; omega
  have ga1 : g1.2 (a + 61) = .inr (13, vm_df 13) := by rw [← hq1, ← c0]; exact nw_e
  have gu1 : ∀ q, q ≠ a + 61 → g1.2 q = h.2 q := fun q z => by rw [← hq1]; exact nw_n (by omega)
  clear hq1
  rw [c0]
  have gm1 : g1.2 a = .inr (14, fs0) := (gu1 _ (by omega)).trans m0
  refine ⟨2, 24, _, v_spot ga1 (by omega) (by omega), by decide, by decide, ?_⟩
  rintro _ f1 ⟨rfl, fc1, fo1, fx1, fy1, fv1⟩
  rw [gc1] at fc1 fo1 fx1 fy1 fv1
  refine np_p (idx := 0) (w := .ref (a + 61)) (k := 46) (tc := 4) ((fv1 _ (by omega) (Or.inl (by omega))).trans gm1) (by omega) (show 46 < fs0.length by omega) trivial ?_
  intro h1 d1 m1 v1
  have c1 : h1.1 = a + 64 := by omega
  have u1 : ∀ q, q ≠ a → q < a + 61 ∨ 1099511627776 ≤ q → h1.2 q = h.2 q := fun q z1 z2 => by rw [v1 q z1, fv1 q (by omega) (by omega), gu1 q (by omega)]
  have o1 : h1.2 (a + 61) = .inr (13, [.ref (a + 62), .ref (a + 63), .int 0]) := (v1 _ (by omega)).trans fo1
  have x1 : h1.2 (a + 62) = .inl (.int, 12, .inl (fun _ => 0)) := (v1 _ (by omega)).trans fx1
  have y1 : h1.2 (a + 63) = .inl (.int, 12, .inl (fun _ => 0)) := (v1 _ (by omega)).trans fy1
  obtain ⟨fs1, ef1⟩ : ∃ fs1, fs1 = fs0.set 46 (.ref (a + 61)) := ⟨_, rfl⟩
  rw [← ef1] at m1
  have hl1 : fs1.length = 89 := by rw [ef1, List.length_set]; exact hl0
  refine ⟨by decide, by decide, by omega, ?_⟩
  generalize hq2 : vm_nw h1 _ = g2
  have gc2 : g2.1 = a + 65 := by rw [← hq2]; show h1.1 + 1 = _; omega
  have ga2 : g2.2 (a + 64) = .inr (13, vm_df 13) := by rw [← hq2, ← c1]; exact nw_e
  have gu2 : ∀ q, q ≠ a + 64 → g2.2 q = h1.2 q := fun q z => by rw [← hq2]; exact nw_n (by omega)
  clear hq2
  rw [c1]
  have gm2 : g2.2 a = .inr (14, fs1) := (gu2 _ (by omega)).trans m1
  refine ⟨2, 24, _, v_spot ga2 (by omega) (by omega), by decide, by decide, ?_⟩
  rintro _ f2 ⟨rfl, fc2, fo2, fx2, fy2, fv2⟩
  rw [gc2] at fc2 fo2 fx2 fy2 fv2
  refine np_p (idx := 0) (w := .ref (a + 64)) (k := 47) (tc := 4) ((fv2 _ (by omega) (Or.inl (by omega))).trans gm2) (by omega) (show 47 < fs1.length by omega) trivial ?_
  intro h2 d2 m2 v2
  have c2 : h2.1 = a + 67 := by omega
  have u2 : ∀ q, q ≠ a → q < a + 64 ∨ 1099511627776 ≤ q → h2.2 q = h1.2 q := fun q z1 z2 => by rw [v2 q z1, fv2 q (by omega) (by omega), gu2 q (by omega)]
  have o2 : h2.2 (a + 64) = .inr (13, [.ref (a + 65), .ref (a + 66), .int 0]) := (v2 _ (by omega)).trans fo2
  have x2 : h2.2 (a + 65) = .inl (.int, 12, .inl (fun _ => 0)) := (v2 _ (by omega)).trans fx2
  have y2 : h2.2 (a + 66) = .inl (.int, 12, .inl (fun _ => 0)) := (v2 _ (by omega)).trans fy2
  obtain ⟨fs2, ef2⟩ : ∃ fs2, fs2 = fs1.set 47 (.ref (a + 64)) := ⟨_, rfl⟩
  rw [← ef2] at m2
  have hl2 : fs2.length = 89 := by rw [ef2, List.length_set]; exact hl1
  refine np_B (idx := 0) (N := 48) rfl (by decide) (by decide) (by decide) (by omega) m2 (by omega) (show 48 < fs2.length by omega) ?_
  rintro h3 ⟨d3, m3, a3, v3⟩
  rw [c2] at d3 m3 a3 v3
  have c3 : h3.1 = a + 68 := by omega
  have u3 : ∀ q, q ≠ a → q < a + 67 ∨ 1099511627776 ≤ q → h3.2 q = h2.2 q := fun q z1 z2 => v3 q z1 (by omega)
  obtain ⟨fs3, ef3⟩ : ∃ fs3, fs3 = fs2.set 48 (.ref (a + 67)) := ⟨_, rfl⟩
  rw [← ef3] at m3
  have hl3 : fs3.length = 89 := by rw [ef3, List.length_set]; exact hl2
  refine np_B (idx := 0) (N := 49) rfl (by decide) (by decide) (by decide) (by omega) m3 (by omega) (show 49 < fs3.length by omega) ?_
  rintro h4 ⟨d4, m4, a4, v4⟩
  rw [c3] at d4 m4 a4 v4
  have c4 : h4.1 = a + 69 := by omega
  have u4 : ∀ q, q ≠ a → q < a + 68 ∨ 1099511627776 ≤ q → h4.2 q = h3.2 q := fun q z1 z2 => v4 q z1 (by omega)
  obtain ⟨fs4, ef4⟩ : ∃ fs4, fs4 = fs3.set 49 (.ref (a + 68)) := ⟨_, rfl⟩
  rw [← ef4] at m4
  have hl4 : fs4.length = 89 := by rw [ef4, List.length_set]; exact hl3
  refine np_I (idx := 0) (N := 12) rfl (by decide) (by decide) (by decide) (by omega) m4 (by omega) (show 50 < fs4.length by omega) ?_
  rintro h5 ⟨d5, m5, a5, v5⟩
  rw [c4] at d5 m5 a5 v5
  have c5 : h5.1 = a + 70 := by omega
  have u5 : ∀ q, q ≠ a → q < a + 69 ∨ 1099511627776 ≤ q → h5.2 q = h4.2 q := fun q z1 z2 => v5 q z1 (by omega)
  obtain ⟨fs5, ef5⟩ : ∃ fs5, fs5 = fs4.set 50 (.ref (a + 69)) := ⟨_, rfl⟩
  rw [← ef5] at m5
  have hl5 : fs5.length = 89 := by rw [ef5, List.length_set]; exact hl4
  refine np_I (idx := 0) (N := 12) rfl (by decide) (by decide) (by decide) (by omega) m5 (by omega) (show 51 < fs5.length by omega) ?_
  rintro h6 ⟨d6, m6, a6, v6⟩
  rw [c5] at d6 m6 a6 v6
  have c6 : h6.1 = a + 71 := by omega
  have u6 : ∀ q, q ≠ a → q < a + 70 ∨ 1099511627776 ≤ q → h6.2 q = h5.2 q := fun q z1 z2 => v6 q z1 (by omega)
  obtain ⟨fs6, ef6⟩ : ∃ fs6, fs6 = fs5.set 51 (.ref (a + 70)) := ⟨_, rfl⟩
  rw [← ef6] at m6
  have hl6 : fs6.length = 89 := by rw [ef6, List.length_set]; exact hl5
  have E6 : ∀ q, q ≠ a → q < a + 71 ∨ 1099511627776 ≤ q → h6.2 q = h6.2 q := fun q _ _ => rfl
  have E5 : ∀ q, q ≠ a → q < a + 70 ∨ 1099511627776 ≤ q → h6.2 q = h5.2 q := fun q z1 z2 => (E6 q z1 (by omega)).trans (u6 q z1 (by omega))
  have E4 : ∀ q, q ≠ a → q < a + 69 ∨ 1099511627776 ≤ q → h6.2 q = h4.2 q := fun q z1 z2 => (E5 q z1 (by omega)).trans (u5 q z1 (by omega))
  have E3 : ∀ q, q ≠ a → q < a + 68 ∨ 1099511627776 ≤ q → h6.2 q = h3.2 q := fun q z1 z2 => (E4 q z1 (by omega)).trans (u4 q z1 (by omega))
  have E2 : ∀ q, q ≠ a → q < a + 67 ∨ 1099511627776 ≤ q → h6.2 q = h2.2 q := fun q z1 z2 => (E3 q z1 (by omega)).trans (u3 q z1 (by omega))
  have E1 : ∀ q, q ≠ a → q < a + 64 ∨ 1099511627776 ≤ q → h6.2 q = h1.2 q := fun q z1 z2 => (E2 q z1 (by omega)).trans (u2 q z1 (by omega))
  have E0 : ∀ q, q ≠ a → q < a + 61 ∨ 1099511627776 ≤ q → h6.2 q = h.2 q := fun q z1 z2 => (E1 q z1 (by omega)).trans (u1 q z1 (by omega))
  exact K h6 c6 (show h6.2 a = .inr (14, ((((((fs0.set 46 (.ref (a + 61))).set 47 (.ref (a + 64))).set 48 (.ref (a + 67))).set 49 (.ref (a + 68))).set 50 (.ref (a + 69))).set 51 (.ref (a + 70)))) by rw [m6, ef6, ef5, ef4, ef3, ef2, ef1]) ((E1 (a + 61) (by omega) (Or.inl (by omega))).trans o1) ((E1 (a + 62) (by omega) (Or.inl (by omega))).trans x1) ((E1 (a + 63) (by omega) (Or.inl (by omega))).trans y1) ((E2 (a + 64) (by omega) (Or.inl (by omega))).trans o2) ((E2 (a + 65) (by omega) (Or.inl (by omega))).trans x2) ((E2 (a + 66) (by omega) (Or.inl (by omega))).trans y2) ((E3 (a + 67) (by omega) (Or.inl (by omega))).trans a3) ((E4 (a + 68) (by omega) (Or.inl (by omega))).trans a4) ((E5 (a + 69) (by omega) (Or.inl (by omega))).trans a5) ((E6 (a + 70) (by omega) (Or.inl (by omega))).trans a6) E0
theorem rj_9 {h : vm_H} {a : Nat} {fs0 : List Value} {Q : Option Value → vm_H → Prop} (m0 : h.2 a = .inr (14, fs0)) (hl0 : fs0.length = 89) (c0 : h.1 = a + 71) (hh : a + 5000 < 1099511627776) (K : ∀ (h1 : vm_H), h1.1 = a + 83 → h1.2 a = .inr (14, ((((((fs0.set 52 (.ref (a + 71))).set 53 (.ref (a + 72))).set 54 (.ref (a + 73))).set 55 (.ref (a + 74))).set 56 (.ref (a + 75))).set 57 (.ref (a + 76)))) → h1.2 (a + 71) = .inl (.int, 12, .inl (fun _ => 0)) → h1.2 (a + 72) = .inl (.int, 12, .inl (fun _ => 0)) → h1.2 (a + 73) = .inl (.int, 6, .inl (fun _ => 0)) → h1.2 (a + 74) = .inl (.boolean, 6, .inl (fun _ => 0)) → h1.2 (a + 75) = .inl (.byte, 192, .inl (fun _ => 0)) → h1.2 (a + 76) = .inl (.array .int, 6, .inr (.inr (.inr (.inr (fun j => if j < 6 then some (a + 76 + 1 + j) else none))))) → (∀ i, i < 6 → h1.2 (a + 76 + 1 + i) = .inl (.int, 64, .inl (fun _ => 0))) → (∀ q, q ≠ a → q < a + 71 ∨ 1099511627776 ≤ q → h1.2 q = h.2 q) → vm_T (vm_env l O f9) mX14_init 169 20709 480 [(0, .ref a)] [] h1 Q) : vm_T (vm_env l O f9) mX14_init 181 21327 427 [(0, .ref a)] [] h Q := by
  refine vm_go rfl bX14_initx_427 oX14_initx_427 ?_
  refine np_I (idx := 0) (N := 12) rfl (by decide) (by decide) (by decide) (by omega) m0 (by omega) (show 52 < fs0.length by omega) ?_
  rintro h1 ⟨d1, m1, a1, v1⟩
  rw [c0] at d1 m1 a1 v1
  have c1 : h1.1 = a + 72 := by omega
  have u1 : ∀ q, q ≠ a → q < a + 71 ∨ 1099511627776 ≤ q → h1.2 q = h.2 q := fun q z1 z2 => v1 q z1 (by omega)
  obtain ⟨fs1, ef1⟩ : ∃ fs1, fs1 = fs0.set 52 (.ref (a + 71)) := ⟨_, rfl⟩
  rw [← ef1] at m1
  have hl1 : fs1.length = 89 := by rw [ef1, List.length_set]; exact hl0
  refine np_I (idx := 0) (N := 12) rfl (by decide) (by decide) (by decide) (by omega) m1 (by omega) (show 53 < fs1.length by omega) ?_
  rintro h2 ⟨d2, m2, a2, v2⟩
  rw [c1] at d2 m2 a2 v2
  have c2 : h2.1 = a + 73 := by omega
  have u2 : ∀ q, q ≠ a → q < a + 72 ∨ 1099511627776 ≤ q → h2.2 q = h1.2 q := fun q z1 z2 => v2 q z1 (by omega)
  obtain ⟨fs2, ef2⟩ : ∃ fs2, fs2 = fs1.set 53 (.ref (a + 72)) := ⟨_, rfl⟩
  rw [← ef2] at m2
  have hl2 : fs2.length = 89 := by rw [ef2, List.length_set]; exact hl1
  refine np_I (idx := 0) (N := 6) rfl (by decide) (by decide) (by decide) (by omega) m2 (by omega) (show 54 < fs2.length by omega) ?_
  rintro h3 ⟨d3, m3, a3, v3⟩
  rw [c2] at d3 m3 a3 v3
  have c3 : h3.1 = a + 74 := by omega
  have u3 : ∀ q, q ≠ a → q < a + 73 ∨ 1099511627776 ≤ q → h3.2 q = h2.2 q := fun q z1 z2 => v3 q z1 (by omega)
  obtain ⟨fs3, ef3⟩ : ∃ fs3, fs3 = fs2.set 54 (.ref (a + 73)) := ⟨_, rfl⟩
  rw [← ef3] at m3
  have hl3 : fs3.length = 89 := by rw [ef3, List.length_set]; exact hl2
  refine np_Z (idx := 0) (N := 6) rfl (by decide) (by decide) (by decide) (by omega) m3 (by omega) (show 55 < fs3.length by omega) ?_
  rintro h4 ⟨d4, m4, a4, v4⟩
  rw [c3] at d4 m4 a4 v4
  have c4 : h4.1 = a + 75 := by omega
  have u4 : ∀ q, q ≠ a → q < a + 74 ∨ 1099511627776 ≤ q → h4.2 q = h3.2 q := fun q z1 z2 => v4 q z1 (by omega)
  obtain ⟨fs4, ef4⟩ : ∃ fs4, fs4 = fs3.set 55 (.ref (a + 74)) := ⟨_, rfl⟩
  rw [← ef4] at m4
  have hl4 : fs4.length = 89 := by rw [ef4, List.length_set]; exact hl3
  refine np_B (idx := 0) (N := 192) rfl (by decide) (by decide) (by decide) (by omega) m4 (by omega) (show 56 < fs4.length by omega) ?_
  rintro h5 ⟨d5, m5, a5, v5⟩
  rw [c4] at d5 m5 a5 v5
  have c5 : h5.1 = a + 76 := by omega
  have u5 : ∀ q, q ≠ a → q < a + 75 ∨ 1099511627776 ≤ q → h5.2 q = h4.2 q := fun q z1 z2 => v5 q z1 (by omega)
  obtain ⟨fs5, ef5⟩ : ∃ fs5, fs5 = fs4.set 56 (.ref (a + 75)) := ⟨_, rfl⟩
  rw [← ef5] at m5
  have hl5 : fs5.length = 89 := by rw [ef5, List.length_set]; exact hl4
  refine ⟨6, 64, rfl, rfl, by decide, by decide, by decide, by decide, by omega, ?_⟩
  generalize hq6 : vm_nm h5 6 _ _ = g6
  have gm6 : g6.2 a = .inr (14, fs5) := by
    rw [← hq6]
    show (if a = h5.1 then _ else if h5.1 < a ∧ a ≤ h5.1 + 6 then _ else h5.2 a) = _
    rw [if_neg (by omega), if_neg (by omega)]; exact m5
  have gc6 : g6.1 = a + 83 := by rw [← hq6]; show h5.1 + 1 + 6 = _; omega
  have ga6 : g6.2 (a + 76) = .inl (.array .int, 6, .inr (.inr (.inr (.inr (fun j => if j < 6 then some (a + 76 + 1 + j) else none))))) := by
    rw [← hq6, ← c5]; exact if_pos rfl
  have gr6 : ∀ i, i < 6 → g6.2 (a + 76 + 1 + i) = .inl (.int, 64, .inl (fun _ => 0)) := by
    intro i hi
    rw [← hq6, ← c5]
    show (if h5.1 + 1 + i = h5.1 then _ else if h5.1 < h5.1 + 1 + i ∧ h5.1 + 1 + i ≤ h5.1 + 6 then _ else _) = _
    rw [if_neg (by omega), if_pos (by omega)]
  have gu6 : ∀ q, q < a + 76 ∨ a + 83 ≤ q → g6.2 q = h5.2 q := by
    intro q hq2
    rw [← hq6]
    show (if q = h5.1 then _ else if h5.1 < q ∧ q ≤ h5.1 + 6 then _ else h5.2 q) = _
    rw [if_neg (by omega), if_neg (by omega)]
  clear hq6
  rw [c5]
  refine np_p (idx := 0) (w := .ref (a + 76)) (k := 57) (tc := 4) gm6 (by omega) (show 57 < fs5.length by omega) trivial ?_
  intro h6 d6 m6 v6
  have c6 : h6.1 = a + 83 := by omega
  have a6 : h6.2 (a + 76) = _ := (v6 _ (by omega)).trans ga6
  have r6 : ∀ i, i < 6 → h6.2 (a + 76 + 1 + i) = _ := fun i hi => (v6 _ (by omega)).trans (gr6 i hi)
  have u6 : ∀ q, q ≠ a → q < a + 76 ∨ 1099511627776 ≤ q → h6.2 q = h5.2 q := fun q z1 z2 => by rw [v6 q z1, gu6 q (by omega)]
  obtain ⟨fs6, ef6⟩ : ∃ fs6, fs6 = fs5.set 57 (.ref (a + 76)) := ⟨_, rfl⟩
  rw [← ef6] at m6
  have hl6 : fs6.length = 89 := by rw [ef6, List.length_set]; exact hl5
  have E6 : ∀ q, q ≠ a → q < a + 83 ∨ 1099511627776 ≤ q → h6.2 q = h6.2 q := fun q _ _ => rfl
  have E5 : ∀ q, q ≠ a → q < a + 76 ∨ 1099511627776 ≤ q → h6.2 q = h5.2 q := fun q z1 z2 => (E6 q z1 (by omega)).trans (u6 q z1 (by omega))
  have E4 : ∀ q, q ≠ a → q < a + 75 ∨ 1099511627776 ≤ q → h6.2 q = h4.2 q := fun q z1 z2 => (E5 q z1 (by omega)).trans (u5 q z1 (by omega))
  have E3 : ∀ q, q ≠ a → q < a + 74 ∨ 1099511627776 ≤ q → h6.2 q = h3.2 q := fun q z1 z2 => (E4 q z1 (by omega)).trans (u4 q z1 (by omega))
  have E2 : ∀ q, q ≠ a → q < a + 73 ∨ 1099511627776 ≤ q → h6.2 q = h2.2 q := fun q z1 z2 => (E3 q z1 (by omega)).trans (u3 q z1 (by omega))
  have E1 : ∀ q, q ≠ a → q < a + 72 ∨ 1099511627776 ≤ q → h6.2 q = h1.2 q := fun q z1 z2 => (E2 q z1 (by omega)).trans (u2 q z1 (by omega))
  have E0 : ∀ q, q ≠ a → q < a + 71 ∨ 1099511627776 ≤ q → h6.2 q = h.2 q := fun q z1 z2 => (E1 q z1 (by omega)).trans (u1 q z1 (by omega))
  exact K h6 c6 (show h6.2 a = .inr (14, ((((((fs0.set 52 (.ref (a + 71))).set 53 (.ref (a + 72))).set 54 (.ref (a + 73))).set 55 (.ref (a + 74))).set 56 (.ref (a + 75))).set 57 (.ref (a + 76)))) by rw [m6, ef6, ef5, ef4, ef3, ef2, ef1]) ((E1 (a + 71) (by omega) (Or.inl (by omega))).trans a1) ((E2 (a + 72) (by omega) (Or.inl (by omega))).trans a2) ((E3 (a + 73) (by omega) (Or.inl (by omega))).trans a3) ((E4 (a + 74) (by omega) (Or.inl (by omega))).trans a4) ((E5 (a + 75) (by omega) (Or.inl (by omega))).trans a5) ((E6 (a + 76) (by omega) (Or.inl (by omega))).trans a6) (fun i hi => (E6 _ (by omega) (Or.inl (by omega))).trans (r6 i hi)) E0
theorem rj_10 {h : vm_H} {a : Nat} {fs0 : List Value} {Q : Option Value → vm_H → Prop} (m0 : h.2 a = .inr (14, fs0)) (hl0 : fs0.length = 89) (c0 : h.1 = a + 83) (hh : a + 5000 < 1099511627776) (K : ∀ (h1 : vm_H), h1.1 = a + 89 → h1.2 a = .inr (14, ((((((fs0.set 58 (.ref (a + 83))).set 59 (.ref (a + 84))).set 60 (.ref (a + 85))).set 61 (.ref (a + 86))).set 62 (.ref (a + 87))).set 64 (.ref (a + 88)))) → h1.2 (a + 83) = .inl (.object "VeilMintModel$Spot", 6, .inr (.inr (.inr (.inr (fun _ => none))))) → h1.2 (a + 84) = .inl (.object "VeilMintModel$Mod", 6, .inr (.inr (.inr (.inr (fun _ => none))))) → h1.2 (a + 85) = .inl (.int, 6, .inl (fun _ => 0)) → h1.2 (a + 86) = .inl (.int, 6, .inl (fun _ => 0)) → h1.2 (a + 87) = .inl (.int, 6, .inl (fun _ => 0)) → h1.2 (a + 88) = .inl (.int, 60, .inl (fun _ => 0)) → (∀ q, q ≠ a → q < a + 83 ∨ 1099511627776 ≤ q → h1.2 q = h.2 q) → vm_T (vm_env l O f9) mX14_init 163 20619 530 [(0, .ref a)] [] h1 Q) : vm_T (vm_env l O f9) mX14_init 169 20709 480 [(0, .ref a)] [] h Q := by
  refine vm_go rfl bX14_initx_480 oX14_initx_480 ?_
  refine np_O (idx := 0) (idx2 := 0) (c2 := 13) (N := 6) rfl (by decide) (by decide) (by decide) (by omega) m0 (by omega) (show 58 < fs0.length by omega) ?_
  rintro h1 ⟨d1, m1, a1, v1⟩
  rw [c0] at d1 m1 a1 v1
  have c1 : h1.1 = a + 84 := by omega
  have u1 : ∀ q, q ≠ a → q < a + 83 ∨ 1099511627776 ≤ q → h1.2 q = h.2 q := fun q z1 z2 => v1 q z1 (by omega)
  obtain ⟨fs1, ef1⟩ : ∃ fs1, fs1 = fs0.set 58 (.ref (a + 83)) := ⟨_, rfl⟩
  rw [← ef1] at m1
  have hl1 : fs1.length = 89 := by rw [ef1, List.length_set]; exact hl0
  refine np_O (idx := 0) (idx2 := 0) (c2 := 12) (N := 6) rfl (by decide) (by decide) (by decide) (by omega) m1 (by omega) (show 59 < fs1.length by omega) ?_
  rintro h2 ⟨d2, m2, a2, v2⟩
  rw [c1] at d2 m2 a2 v2
  have c2 : h2.1 = a + 85 := by omega
  have u2 : ∀ q, q ≠ a → q < a + 84 ∨ 1099511627776 ≤ q → h2.2 q = h1.2 q := fun q z1 z2 => v2 q z1 (by omega)
  obtain ⟨fs2, ef2⟩ : ∃ fs2, fs2 = fs1.set 59 (.ref (a + 84)) := ⟨_, rfl⟩
  rw [← ef2] at m2
  have hl2 : fs2.length = 89 := by rw [ef2, List.length_set]; exact hl1
  refine np_I (idx := 0) (N := 6) rfl (by decide) (by decide) (by decide) (by omega) m2 (by omega) (show 60 < fs2.length by omega) ?_
  rintro h3 ⟨d3, m3, a3, v3⟩
  rw [c2] at d3 m3 a3 v3
  have c3 : h3.1 = a + 86 := by omega
  have u3 : ∀ q, q ≠ a → q < a + 85 ∨ 1099511627776 ≤ q → h3.2 q = h2.2 q := fun q z1 z2 => v3 q z1 (by omega)
  obtain ⟨fs3, ef3⟩ : ∃ fs3, fs3 = fs2.set 60 (.ref (a + 85)) := ⟨_, rfl⟩
  rw [← ef3] at m3
  have hl3 : fs3.length = 89 := by rw [ef3, List.length_set]; exact hl2
  refine np_I (idx := 0) (N := 6) rfl (by decide) (by decide) (by decide) (by omega) m3 (by omega) (show 61 < fs3.length by omega) ?_
  rintro h4 ⟨d4, m4, a4, v4⟩
  rw [c3] at d4 m4 a4 v4
  have c4 : h4.1 = a + 87 := by omega
  have u4 : ∀ q, q ≠ a → q < a + 86 ∨ 1099511627776 ≤ q → h4.2 q = h3.2 q := fun q z1 z2 => v4 q z1 (by omega)
  obtain ⟨fs4, ef4⟩ : ∃ fs4, fs4 = fs3.set 61 (.ref (a + 86)) := ⟨_, rfl⟩
  rw [← ef4] at m4
  have hl4 : fs4.length = 89 := by rw [ef4, List.length_set]; exact hl3
  refine np_I (idx := 0) (N := 6) rfl (by decide) (by decide) (by decide) (by omega) m4 (by omega) (show 62 < fs4.length by omega) ?_
  rintro h5 ⟨d5, m5, a5, v5⟩
  rw [c4] at d5 m5 a5 v5
  have c5 : h5.1 = a + 88 := by omega
  have u5 : ∀ q, q ≠ a → q < a + 87 ∨ 1099511627776 ≤ q → h5.2 q = h4.2 q := fun q z1 z2 => v5 q z1 (by omega)
  obtain ⟨fs5, ef5⟩ : ∃ fs5, fs5 = fs4.set 62 (.ref (a + 87)) := ⟨_, rfl⟩
  rw [← ef5] at m5
  have hl5 : fs5.length = 89 := by rw [ef5, List.length_set]; exact hl4
  refine np_I (idx := 0) (N := 60) rfl (by decide) (by decide) (by decide) (by omega) m5 (by omega) (show 64 < fs5.length by omega) ?_
  rintro h6 ⟨d6, m6, a6, v6⟩
  rw [c5] at d6 m6 a6 v6
  have c6 : h6.1 = a + 89 := by omega
  have u6 : ∀ q, q ≠ a → q < a + 88 ∨ 1099511627776 ≤ q → h6.2 q = h5.2 q := fun q z1 z2 => v6 q z1 (by omega)
  obtain ⟨fs6, ef6⟩ : ∃ fs6, fs6 = fs5.set 64 (.ref (a + 88)) := ⟨_, rfl⟩
  rw [← ef6] at m6
  have hl6 : fs6.length = 89 := by rw [ef6, List.length_set]; exact hl5
  have E6 : ∀ q, q ≠ a → q < a + 89 ∨ 1099511627776 ≤ q → h6.2 q = h6.2 q := fun q _ _ => rfl
  have E5 : ∀ q, q ≠ a → q < a + 88 ∨ 1099511627776 ≤ q → h6.2 q = h5.2 q := fun q z1 z2 => (E6 q z1 (by omega)).trans (u6 q z1 (by omega))
  have E4 : ∀ q, q ≠ a → q < a + 87 ∨ 1099511627776 ≤ q → h6.2 q = h4.2 q := fun q z1 z2 => (E5 q z1 (by omega)).trans (u5 q z1 (by omega))
  have E3 : ∀ q, q ≠ a → q < a + 86 ∨ 1099511627776 ≤ q → h6.2 q = h3.2 q := fun q z1 z2 => (E4 q z1 (by omega)).trans (u4 q z1 (by omega))
  have E2 : ∀ q, q ≠ a → q < a + 85 ∨ 1099511627776 ≤ q → h6.2 q = h2.2 q := fun q z1 z2 => (E3 q z1 (by omega)).trans (u3 q z1 (by omega))
  have E1 : ∀ q, q ≠ a → q < a + 84 ∨ 1099511627776 ≤ q → h6.2 q = h1.2 q := fun q z1 z2 => (E2 q z1 (by omega)).trans (u2 q z1 (by omega))
  have E0 : ∀ q, q ≠ a → q < a + 83 ∨ 1099511627776 ≤ q → h6.2 q = h.2 q := fun q z1 z2 => (E1 q z1 (by omega)).trans (u1 q z1 (by omega))
  exact K h6 c6 (show h6.2 a = .inr (14, ((((((fs0.set 58 (.ref (a + 83))).set 59 (.ref (a + 84))).set 60 (.ref (a + 85))).set 61 (.ref (a + 86))).set 62 (.ref (a + 87))).set 64 (.ref (a + 88)))) by rw [m6, ef6, ef5, ef4, ef3, ef2, ef1]) ((E1 (a + 83) (by omega) (Or.inl (by omega))).trans a1) ((E2 (a + 84) (by omega) (Or.inl (by omega))).trans a2) ((E3 (a + 85) (by omega) (Or.inl (by omega))).trans a3) ((E4 (a + 86) (by omega) (Or.inl (by omega))).trans a4) ((E5 (a + 87) (by omega) (Or.inl (by omega))).trans a5) ((E6 (a + 88) (by omega) (Or.inl (by omega))).trans a6) E0
theorem rj_11 {h : vm_H} {a : Nat} {fs0 : List Value} {Q : Option Value → vm_H → Prop} (m0 : h.2 a = .inr (14, fs0)) (hl0 : fs0.length = 89) (c0 : h.1 = a + 89) (hh : a + 5000 < 1099511627776) (K : ∀ (h1 : vm_H), h1.1 = a + 154 → h1.2 a = .inr (14, ((((((fs0.set 65 (.ref (a + 89))).set 66 (.ref (a + 90))).set 67 (.ref (a + 91))).set 69 (.ref (a + 152))).set 71 (.int (-1))).set 74 (.ref (a + 153)))) → h1.2 (a + 89) = .inl (.boolean, 60, .inl (fun _ => 0)) → h1.2 (a + 90) = .inl (.byte, 5880, .inl (fun _ => 0)) → h1.2 (a + 91) = .inl (.array .int, 60, .inr (.inr (.inr (.inr (fun j => if j < 60 then some (a + 91 + 1 + j) else none))))) → (∀ i, i < 60 → h1.2 (a + 91 + 1 + i) = .inl (.int, 64, .inl (fun _ => 0))) → h1.2 (a + 152) = .inl (.byte, 4096, .inl (fun _ => 0)) → h1.2 (a + 153) = .inl (.byte, 1208, .inl (fun _ => 0)) → (∀ q, q ≠ a → q < a + 89 ∨ 1099511627776 ≤ q → h1.2 q = h.2 q) → vm_T (vm_env l O f9) mX14_init 98 5475 582 [(0, .ref a)] [] h1 Q) : vm_T (vm_env l O f9) mX14_init 163 20619 530 [(0, .ref a)] [] h Q := by
  refine vm_go rfl bX14_initx_530 oX14_initx_530 ?_
  refine np_Z (idx := 0) (N := 60) rfl (by decide) (by decide) (by decide) (by omega) m0 (by omega) (show 65 < fs0.length by omega) ?_
  rintro h1 ⟨d1, m1, a1, v1⟩
  rw [c0] at d1 m1 a1 v1
  have c1 : h1.1 = a + 90 := by omega
  have u1 : ∀ q, q ≠ a → q < a + 89 ∨ 1099511627776 ≤ q → h1.2 q = h.2 q := fun q z1 z2 => v1 q z1 (by omega)
  obtain ⟨fs1, ef1⟩ : ∃ fs1, fs1 = fs0.set 65 (.ref (a + 89)) := ⟨_, rfl⟩
  rw [← ef1] at m1
  have hl1 : fs1.length = 89 := by rw [ef1, List.length_set]; exact hl0
  refine np_B (idx := 0) (N := 5880) (by decide) (by decide) (by decide) (by decide) (by omega) m1 (by omega) (show 66 < fs1.length by omega) ?_
  rintro h2 ⟨d2, m2, a2, v2⟩
  rw [c1] at d2 m2 a2 v2
  have c2 : h2.1 = a + 91 := by omega
  have u2 : ∀ q, q ≠ a → q < a + 90 ∨ 1099511627776 ≤ q → h2.2 q = h1.2 q := fun q z1 z2 => v2 q z1 (by omega)
  obtain ⟨fs2, ef2⟩ : ∃ fs2, fs2 = fs1.set 66 (.ref (a + 90)) := ⟨_, rfl⟩
  rw [← ef2] at m2
  have hl2 : fs2.length = 89 := by rw [ef2, List.length_set]; exact hl1
  refine ⟨60, 64, rfl, rfl, by decide, by decide, by decide, by decide, by omega, ?_⟩
  generalize hq3 : vm_nm h2 60 _ _ = g3
  have gm3 : g3.2 a = .inr (14, fs2) := by
    rw [← hq3]
    show (if a = h2.1 then _ else if h2.1 < a ∧ a ≤ h2.1 + 60 then _ else h2.2 a) = _
    rw [if_neg (by omega), if_neg (by omega)]; exact m2
  have gc3 : g3.1 = a + 152 := by rw [← hq3]; show h2.1 + 1 + 60 = _; omega
  have ga3 : g3.2 (a + 91) = .inl (.array .int, 60, .inr (.inr (.inr (.inr (fun j => if j < 60 then some (a + 91 + 1 + j) else none))))) := by
    rw [← hq3, ← c2]; exact if_pos rfl
  have gr3 : ∀ i, i < 60 → g3.2 (a + 91 + 1 + i) = .inl (.int, 64, .inl (fun _ => 0)) := by
    intro i hi
    rw [← hq3, ← c2]
    show (if h2.1 + 1 + i = h2.1 then _ else if h2.1 < h2.1 + 1 + i ∧ h2.1 + 1 + i ≤ h2.1 + 60 then _ else _) = _
    rw [if_neg (by omega), if_pos (by omega)]
  have gu3 : ∀ q, q < a + 91 ∨ a + 152 ≤ q → g3.2 q = h2.2 q := by
    intro q hq2
    rw [← hq3]
    show (if q = h2.1 then _ else if h2.1 < q ∧ q ≤ h2.1 + 60 then _ else h2.2 q) = _
    rw [if_neg (by omega), if_neg (by omega)]
  clear hq3
  rw [c2]
  refine np_p (idx := 0) (w := .ref (a + 91)) (k := 67) (tc := 4) gm3 (by omega) (show 67 < fs2.length by omega) trivial ?_
  intro h3 d3 m3 v3
  have c3 : h3.1 = a + 152 := by omega
  have a3 : h3.2 (a + 91) = _ := (v3 _ (by omega)).trans ga3
  have r3 : ∀ i, i < 60 → h3.2 (a + 91 + 1 + i) = _ := fun i hi => (v3 _ (by omega)).trans (gr3 i hi)
  have u3 : ∀ q, q ≠ a → q < a + 91 ∨ 1099511627776 ≤ q → h3.2 q = h2.2 q := fun q z1 z2 => by rw [v3 q z1, gu3 q (by omega)]
  obtain ⟨fs3, ef3⟩ : ∃ fs3, fs3 = fs2.set 67 (.ref (a + 91)) := ⟨_, rfl⟩
  rw [← ef3] at m3
  have hl3 : fs3.length = 89 := by rw [ef3, List.length_set]; exact hl2
  refine np_B (idx := 0) (N := 4096) (by decide) (by decide) (by decide) (by decide) (by omega) m3 (by omega) (show 69 < fs3.length by omega) ?_
  rintro h4 ⟨d4, m4, a4, v4⟩
  rw [c3] at d4 m4 a4 v4
  have c4 : h4.1 = a + 153 := by omega
  have u4 : ∀ q, q ≠ a → q < a + 152 ∨ 1099511627776 ≤ q → h4.2 q = h3.2 q := fun q z1 z2 => v4 q z1 (by omega)
  obtain ⟨fs4, ef4⟩ : ∃ fs4, fs4 = fs3.set 69 (.ref (a + 152)) := ⟨_, rfl⟩
  rw [← ef4] at m4
  have hl4 : fs4.length = 89 := by rw [ef4, List.length_set]; exact hl3
  refine np_p (idx := 0) (w := .int (-1)) (k := 71) (tc := 0) m4 (by omega) (show 71 < fs4.length by omega) trivial ?_
  intro h5 d5 m5 v5
  have c5 : h5.1 = a + 153 := by omega
  have u5 : ∀ q, q ≠ a → q < a + 153 ∨ 1099511627776 ≤ q → h5.2 q = h4.2 q := fun q z1 _ => v5 q z1
  obtain ⟨fs5, ef5⟩ : ∃ fs5, fs5 = fs4.set 71 (.int (-1)) := ⟨_, rfl⟩
  rw [← ef5] at m5
  have hl5 : fs5.length = 89 := by rw [ef5, List.length_set]; exact hl4
  refine np_B (idx := 0) (N := 1208) (by decide) (by decide) (by decide) (by decide) (by omega) m5 (by omega) (show 74 < fs5.length by omega) ?_
  rintro h6 ⟨d6, m6, a6, v6⟩
  rw [c5] at d6 m6 a6 v6
  have c6 : h6.1 = a + 154 := by omega
  have u6 : ∀ q, q ≠ a → q < a + 153 ∨ 1099511627776 ≤ q → h6.2 q = h5.2 q := fun q z1 z2 => v6 q z1 (by omega)
  obtain ⟨fs6, ef6⟩ : ∃ fs6, fs6 = fs5.set 74 (.ref (a + 153)) := ⟨_, rfl⟩
  rw [← ef6] at m6
  have hl6 : fs6.length = 89 := by rw [ef6, List.length_set]; exact hl5
  have E6 : ∀ q, q ≠ a → q < a + 154 ∨ 1099511627776 ≤ q → h6.2 q = h6.2 q := fun q _ _ => rfl
  have E5 : ∀ q, q ≠ a → q < a + 153 ∨ 1099511627776 ≤ q → h6.2 q = h5.2 q := fun q z1 z2 => (E6 q z1 (by omega)).trans (u6 q z1 (by omega))
  have E4 : ∀ q, q ≠ a → q < a + 153 ∨ 1099511627776 ≤ q → h6.2 q = h4.2 q := fun q z1 z2 => (E5 q z1 (by omega)).trans (u5 q z1 (by omega))
  have E3 : ∀ q, q ≠ a → q < a + 152 ∨ 1099511627776 ≤ q → h6.2 q = h3.2 q := fun q z1 z2 => (E4 q z1 (by omega)).trans (u4 q z1 (by omega))
  have E2 : ∀ q, q ≠ a → q < a + 91 ∨ 1099511627776 ≤ q → h6.2 q = h2.2 q := fun q z1 z2 => (E3 q z1 (by omega)).trans (u3 q z1 (by omega))
  have E1 : ∀ q, q ≠ a → q < a + 90 ∨ 1099511627776 ≤ q → h6.2 q = h1.2 q := fun q z1 z2 => (E2 q z1 (by omega)).trans (u2 q z1 (by omega))
  have E0 : ∀ q, q ≠ a → q < a + 89 ∨ 1099511627776 ≤ q → h6.2 q = h.2 q := fun q z1 z2 => (E1 q z1 (by omega)).trans (u1 q z1 (by omega))
  exact K h6 c6 (show h6.2 a = .inr (14, ((((((fs0.set 65 (.ref (a + 89))).set 66 (.ref (a + 90))).set 67 (.ref (a + 91))).set 69 (.ref (a + 152))).set 71 (.int (-1))).set 74 (.ref (a + 153)))) by rw [m6, ef6, ef5, ef4, ef3, ef2, ef1]) ((E1 (a + 89) (by omega) (Or.inl (by omega))).trans a1) ((E2 (a + 90) (by omega) (Or.inl (by omega))).trans a2) ((E3 (a + 91) (by omega) (Or.inl (by omega))).trans a3) (fun i hi => (E3 _ (by omega) (Or.inl (by omega))).trans (r3 i hi)) ((E4 (a + 152) (by omega) (Or.inl (by omega))).trans a4) ((E6 (a + 153) (by omega) (Or.inl (by omega))).trans a6) E0
theorem rj_12 {h : vm_H} {a : Nat} {fs0 : List Value} {Q : Option Value → vm_H → Prop} (m0 : h.2 a = .inr (14, fs0)) (hl0 : fs0.length = 89) (c0 : h.1 = a + 154) (hh : a + 5000 < 1099511627776) (K : ∀ (h1 : vm_H), h1.1 = a + 160 → h1.2 a = .inr (14, ((((((fs0.set 76 (.ref (a + 154))).set 78 (.ref (a + 155))).set 79 (.ref (a + 156))).set 80 (.ref (a + 157))).set 81 (.ref (a + 158))).set 82 (.ref (a + 159)))) → h1.2 (a + 154) = .inl (.byte, 2900, .inl (fun _ => 0)) → h1.2 (a + 155) = .inl (.byte, 260, .inl (fun _ => 0)) → h1.2 (a + 156) = .inl (.byte, 260, .inl (fun _ => 0)) → h1.2 (a + 157) = .inl (.byte, 48, .inl (fun _ => 0)) → h1.2 (a + 158) = .inl (.int, 64, .inl (fun _ => 0)) → h1.2 (a + 159) = .inl (.int, 64, .inl (fun _ => 0)) → (∀ q, q ≠ a → q < a + 154 ∨ 1099511627776 ≤ q → h1.2 q = h.2 q) → vm_T (vm_env l O f9) mX14_init 92 1879 633 [(0, .ref a)] [] h1 Q) : vm_T (vm_env l O f9) mX14_init 98 5475 582 [(0, .ref a)] [] h Q := by
  refine vm_go rfl bX14_initx_582 oX14_initx_582 ?_
  refine np_B (idx := 0) (N := 2900) (by decide) (by decide) (by decide) (by decide) (by omega) m0 (by omega) (show 76 < fs0.length by omega) ?_
  rintro h1 ⟨d1, m1, a1, v1⟩
  rw [c0] at d1 m1 a1 v1
  have c1 : h1.1 = a + 155 := by omega
  have u1 : ∀ q, q ≠ a → q < a + 154 ∨ 1099511627776 ≤ q → h1.2 q = h.2 q := fun q z1 z2 => v1 q z1 (by omega)
  obtain ⟨fs1, ef1⟩ : ∃ fs1, fs1 = fs0.set 76 (.ref (a + 154)) := ⟨_, rfl⟩
  rw [← ef1] at m1
  have hl1 : fs1.length = 89 := by rw [ef1, List.length_set]; exact hl0
  refine np_B (idx := 0) (N := 260) rfl (by decide) (by decide) (by decide) (by omega) m1 (by omega) (show 78 < fs1.length by omega) ?_
  rintro h2 ⟨d2, m2, a2, v2⟩
  rw [c1] at d2 m2 a2 v2
  have c2 : h2.1 = a + 156 := by omega
  have u2 : ∀ q, q ≠ a → q < a + 155 ∨ 1099511627776 ≤ q → h2.2 q = h1.2 q := fun q z1 z2 => v2 q z1 (by omega)
  obtain ⟨fs2, ef2⟩ : ∃ fs2, fs2 = fs1.set 78 (.ref (a + 155)) := ⟨_, rfl⟩
  rw [← ef2] at m2
  have hl2 : fs2.length = 89 := by rw [ef2, List.length_set]; exact hl1
  refine np_B (idx := 0) (N := 260) rfl (by decide) (by decide) (by decide) (by omega) m2 (by omega) (show 79 < fs2.length by omega) ?_
  rintro h3 ⟨d3, m3, a3, v3⟩
  rw [c2] at d3 m3 a3 v3
  have c3 : h3.1 = a + 157 := by omega
  have u3 : ∀ q, q ≠ a → q < a + 156 ∨ 1099511627776 ≤ q → h3.2 q = h2.2 q := fun q z1 z2 => v3 q z1 (by omega)
  obtain ⟨fs3, ef3⟩ : ∃ fs3, fs3 = fs2.set 79 (.ref (a + 156)) := ⟨_, rfl⟩
  rw [← ef3] at m3
  have hl3 : fs3.length = 89 := by rw [ef3, List.length_set]; exact hl2
  refine np_B (idx := 0) (N := 48) rfl (by decide) (by decide) (by decide) (by omega) m3 (by omega) (show 80 < fs3.length by omega) ?_
  rintro h4 ⟨d4, m4, a4, v4⟩
  rw [c3] at d4 m4 a4 v4
  have c4 : h4.1 = a + 158 := by omega
  have u4 : ∀ q, q ≠ a → q < a + 157 ∨ 1099511627776 ≤ q → h4.2 q = h3.2 q := fun q z1 z2 => v4 q z1 (by omega)
  obtain ⟨fs4, ef4⟩ : ∃ fs4, fs4 = fs3.set 80 (.ref (a + 157)) := ⟨_, rfl⟩
  rw [← ef4] at m4
  have hl4 : fs4.length = 89 := by rw [ef4, List.length_set]; exact hl3
  refine np_I (idx := 0) (N := 64) rfl (by decide) (by decide) (by decide) (by omega) m4 (by omega) (show 81 < fs4.length by omega) ?_
  rintro h5 ⟨d5, m5, a5, v5⟩
  rw [c4] at d5 m5 a5 v5
  have c5 : h5.1 = a + 159 := by omega
  have u5 : ∀ q, q ≠ a → q < a + 158 ∨ 1099511627776 ≤ q → h5.2 q = h4.2 q := fun q z1 z2 => v5 q z1 (by omega)
  obtain ⟨fs5, ef5⟩ : ∃ fs5, fs5 = fs4.set 81 (.ref (a + 158)) := ⟨_, rfl⟩
  rw [← ef5] at m5
  have hl5 : fs5.length = 89 := by rw [ef5, List.length_set]; exact hl4
  refine np_I (idx := 0) (N := 64) rfl (by decide) (by decide) (by decide) (by omega) m5 (by omega) (show 82 < fs5.length by omega) ?_
  rintro h6 ⟨d6, m6, a6, v6⟩
  rw [c5] at d6 m6 a6 v6
  have c6 : h6.1 = a + 160 := by omega
  have u6 : ∀ q, q ≠ a → q < a + 159 ∨ 1099511627776 ≤ q → h6.2 q = h5.2 q := fun q z1 z2 => v6 q z1 (by omega)
  obtain ⟨fs6, ef6⟩ : ∃ fs6, fs6 = fs5.set 82 (.ref (a + 159)) := ⟨_, rfl⟩
  rw [← ef6] at m6
  have hl6 : fs6.length = 89 := by rw [ef6, List.length_set]; exact hl5
  have E6 : ∀ q, q ≠ a → q < a + 160 ∨ 1099511627776 ≤ q → h6.2 q = h6.2 q := fun q _ _ => rfl
  have E5 : ∀ q, q ≠ a → q < a + 159 ∨ 1099511627776 ≤ q → h6.2 q = h5.2 q := fun q z1 z2 => (E6 q z1 (by omega)).trans (u6 q z1 (by omega))
  have E4 : ∀ q, q ≠ a → q < a + 158 ∨ 1099511627776 ≤ q → h6.2 q = h4.2 q := fun q z1 z2 => (E5 q z1 (by omega)).trans (u5 q z1 (by omega))
  have E3 : ∀ q, q ≠ a → q < a + 157 ∨ 1099511627776 ≤ q → h6.2 q = h3.2 q := fun q z1 z2 => (E4 q z1 (by omega)).trans (u4 q z1 (by omega))
  have E2 : ∀ q, q ≠ a → q < a + 156 ∨ 1099511627776 ≤ q → h6.2 q = h2.2 q := fun q z1 z2 => (E3 q z1 (by omega)).trans (u3 q z1 (by omega))
  have E1 : ∀ q, q ≠ a → q < a + 155 ∨ 1099511627776 ≤ q → h6.2 q = h1.2 q := fun q z1 z2 => (E2 q z1 (by omega)).trans (u2 q z1 (by omega))
  have E0 : ∀ q, q ≠ a → q < a + 154 ∨ 1099511627776 ≤ q → h6.2 q = h.2 q := fun q z1 z2 => (E1 q z1 (by omega)).trans (u1 q z1 (by omega))
  exact K h6 c6 (show h6.2 a = .inr (14, ((((((fs0.set 76 (.ref (a + 154))).set 78 (.ref (a + 155))).set 79 (.ref (a + 156))).set 80 (.ref (a + 157))).set 81 (.ref (a + 158))).set 82 (.ref (a + 159)))) by rw [m6, ef6, ef5, ef4, ef3, ef2, ef1]) ((E1 (a + 154) (by omega) (Or.inl (by omega))).trans a1) ((E2 (a + 155) (by omega) (Or.inl (by omega))).trans a2) ((E3 (a + 156) (by omega) (Or.inl (by omega))).trans a3) ((E4 (a + 157) (by omega) (Or.inl (by omega))).trans a4) ((E5 (a + 158) (by omega) (Or.inl (by omega))).trans a5) ((E6 (a + 159) (by omega) (Or.inl (by omega))).trans a6) E0
theorem rj_13 {h : vm_H} {a : Nat} {fs0 : List Value} {Q : Option Value → vm_H → Prop} (m0 : h.2 a = .inr (14, fs0)) (hl0 : fs0.length = 89) (c0 : h.1 = a + 160) (hh : a + 5000 < 1099511627776) (K : ∀ (h1 : vm_H), h1.1 = a + 168 → h1.2 a = .inr (14, ((((((fs0.set 83 (.ref (a + 160))).set 84 (.ref (a + 161))).set 85 (.ref (a + 162))).set 86 (.ref (a + 163))).set 87 (.ref (a + 166))).set 88 (.ref (a + 167)))) → h1.2 (a + 160) = .inl (.int, 64, .inl (fun _ => 0)) → h1.2 (a + 161) = .inl (.int, 1, .inl (fun _ => 0)) → h1.2 (a + 162) = .inl (.int, 5, .inl (fun _ => 0)) → h1.2 (a + 163) = .inr (13, [.ref (a + 164), .ref (a + 165), .int 0]) → h1.2 (a + 164) = .inl (.int, 12, .inl (fun _ => 0)) → h1.2 (a + 165) = .inl (.int, 12, .inl (fun _ => 0)) → h1.2 (a + 166) = .inl (.int, 12, .inl (fun _ => 0)) → h1.2 (a + 167) = .inl (.byte, 384, .inl (fun _ => 0)) → (∀ q, q ≠ a → q < a + 160 ∨ 1099511627776 ≤ q → h1.2 q = h.2 q) → vm_T (vm_env l O f9) mX14_init 84 1386 683 [(0, .ref a)] [] h1 Q) : vm_T (vm_env l O f9) mX14_init 92 1879 633 [(0, .ref a)] [] h Q := by
  refine vm_go rfl bX14_initx_633 oX14_initx_633 ?_
  refine np_I (idx := 0) (N := 64) rfl (by decide) (by decide) (by decide) (by omega) m0 (by omega) (show 83 < fs0.length by omega) ?_
  rintro h1 ⟨d1, m1, a1, v1⟩
  rw [c0] at d1 m1 a1 v1
  have c1 : h1.1 = a + 161 := by omega
  have u1 : ∀ q, q ≠ a → q < a + 160 ∨ 1099511627776 ≤ q → h1.2 q = h.2 q := fun q z1 z2 => v1 q z1 (by omega)
  obtain ⟨fs1, ef1⟩ : ∃ fs1, fs1 = fs0.set 83 (.ref (a + 160)) := ⟨_, rfl⟩
  rw [← ef1] at m1
  have hl1 : fs1.length = 89 := by rw [ef1, List.length_set]; exact hl0
  refine np_I (idx := 0) (N := 1) rfl (by decide) (by decide) (by decide) (by omega) m1 (by omega) (show 84 < fs1.length by omega) ?_
  rintro h2 ⟨d2, m2, a2, v2⟩
  rw [c1] at d2 m2 a2 v2
  have c2 : h2.1 = a + 162 := by omega
  have u2 : ∀ q, q ≠ a → q < a + 161 ∨ 1099511627776 ≤ q → h2.2 q = h1.2 q := fun q z1 z2 => v2 q z1 (by omega)
  obtain ⟨fs2, ef2⟩ : ∃ fs2, fs2 = fs1.set 84 (.ref (a + 161)) := ⟨_, rfl⟩
  rw [← ef2] at m2
  have hl2 : fs2.length = 89 := by rw [ef2, List.length_set]; exact hl1
  refine np_I (idx := 0) (N := 5) rfl (by decide) (by decide) (by decide) (by omega) m2 (by omega) (show 85 < fs2.length by omega) ?_
  rintro h3 ⟨d3, m3, a3, v3⟩
  rw [c2] at d3 m3 a3 v3
  have c3 : h3.1 = a + 163 := by omega
  have u3 : ∀ q, q ≠ a → q < a + 162 ∨ 1099511627776 ≤ q → h3.2 q = h2.2 q := fun q z1 z2 => v3 q z1 (by omega)
  obtain ⟨fs3, ef3⟩ : ∃ fs3, fs3 = fs2.set 85 (.ref (a + 162)) := ⟨_, rfl⟩
  rw [← ef3] at m3
  have hl3 : fs3.length = 89 := by rw [ef3, List.length_set]; exact hl2
  refine ⟨by decide, by decide, by omega, ?_⟩
  generalize hq4 : vm_nw h3 _ = g4
  have gc4 : g4.1 = a + 164 := by rw [← hq4]; show h3.1 + 1 = _; omega
  have ga4 : g4.2 (a + 163) = .inr (13, vm_df 13) := by rw [← hq4, ← c3]; exact nw_e
  have gu4 : ∀ q, q ≠ a + 163 → g4.2 q = h3.2 q := fun q z => by rw [← hq4]; exact nw_n (by omega)
  clear hq4
  rw [c3]
  have gm4 : g4.2 a = .inr (14, fs3) := (gu4 _ (by omega)).trans m3
  refine ⟨2, 24, _, v_spot ga4 (by omega) (by omega), by decide, by decide, ?_⟩
  rintro _ f4 ⟨rfl, fc4, fo4, fx4, fy4, fv4⟩
  rw [gc4] at fc4 fo4 fx4 fy4 fv4
  refine np_p (idx := 0) (w := .ref (a + 163)) (k := 86) (tc := 4) ((fv4 _ (by omega) (Or.inl (by omega))).trans gm4) (by omega) (show 86 < fs3.length by omega) trivial ?_
  intro h4 d4 m4 v4
  have c4 : h4.1 = a + 166 := by omega
  have u4 : ∀ q, q ≠ a → q < a + 163 ∨ 1099511627776 ≤ q → h4.2 q = h3.2 q := fun q z1 z2 => by rw [v4 q z1, fv4 q (by omega) (by omega), gu4 q (by omega)]
  have o4 : h4.2 (a + 163) = .inr (13, [.ref (a + 164), .ref (a + 165), .int 0]) := (v4 _ (by omega)).trans fo4
  have x4 : h4.2 (a + 164) = .inl (.int, 12, .inl (fun _ => 0)) := (v4 _ (by omega)).trans fx4
  have y4 : h4.2 (a + 165) = .inl (.int, 12, .inl (fun _ => 0)) := (v4 _ (by omega)).trans fy4
  obtain ⟨fs4, ef4⟩ : ∃ fs4, fs4 = fs3.set 86 (.ref (a + 163)) := ⟨_, rfl⟩
  rw [← ef4] at m4
  have hl4 : fs4.length = 89 := by rw [ef4, List.length_set]; exact hl3
  refine np_I (idx := 0) (N := 12) rfl (by decide) (by decide) (by decide) (by omega) m4 (by omega) (show 87 < fs4.length by omega) ?_
  rintro h5 ⟨d5, m5, a5, v5⟩
  rw [c4] at d5 m5 a5 v5
  have c5 : h5.1 = a + 167 := by omega
  have u5 : ∀ q, q ≠ a → q < a + 166 ∨ 1099511627776 ≤ q → h5.2 q = h4.2 q := fun q z1 z2 => v5 q z1 (by omega)
  obtain ⟨fs5, ef5⟩ : ∃ fs5, fs5 = fs4.set 87 (.ref (a + 166)) := ⟨_, rfl⟩
  rw [← ef5] at m5
  have hl5 : fs5.length = 89 := by rw [ef5, List.length_set]; exact hl4
  refine np_B (idx := 0) (N := 384) rfl (by decide) (by decide) (by decide) (by omega) m5 (by omega) (show 88 < fs5.length by omega) ?_
  rintro h6 ⟨d6, m6, a6, v6⟩
  rw [c5] at d6 m6 a6 v6
  have c6 : h6.1 = a + 168 := by omega
  have u6 : ∀ q, q ≠ a → q < a + 167 ∨ 1099511627776 ≤ q → h6.2 q = h5.2 q := fun q z1 z2 => v6 q z1 (by omega)
  obtain ⟨fs6, ef6⟩ : ∃ fs6, fs6 = fs5.set 88 (.ref (a + 167)) := ⟨_, rfl⟩
  rw [← ef6] at m6
  have hl6 : fs6.length = 89 := by rw [ef6, List.length_set]; exact hl5
  have E6 : ∀ q, q ≠ a → q < a + 168 ∨ 1099511627776 ≤ q → h6.2 q = h6.2 q := fun q _ _ => rfl
  have E5 : ∀ q, q ≠ a → q < a + 167 ∨ 1099511627776 ≤ q → h6.2 q = h5.2 q := fun q z1 z2 => (E6 q z1 (by omega)).trans (u6 q z1 (by omega))
  have E4 : ∀ q, q ≠ a → q < a + 166 ∨ 1099511627776 ≤ q → h6.2 q = h4.2 q := fun q z1 z2 => (E5 q z1 (by omega)).trans (u5 q z1 (by omega))
  have E3 : ∀ q, q ≠ a → q < a + 163 ∨ 1099511627776 ≤ q → h6.2 q = h3.2 q := fun q z1 z2 => (E4 q z1 (by omega)).trans (u4 q z1 (by omega))
  have E2 : ∀ q, q ≠ a → q < a + 162 ∨ 1099511627776 ≤ q → h6.2 q = h2.2 q := fun q z1 z2 => (E3 q z1 (by omega)).trans (u3 q z1 (by omega))
  have E1 : ∀ q, q ≠ a → q < a + 161 ∨ 1099511627776 ≤ q → h6.2 q = h1.2 q := fun q z1 z2 => (E2 q z1 (by omega)).trans (u2 q z1 (by omega))
  have E0 : ∀ q, q ≠ a → q < a + 160 ∨ 1099511627776 ≤ q → h6.2 q = h.2 q := fun q z1 z2 => (E1 q z1 (by omega)).trans (u1 q z1 (by omega))
  exact K h6 c6 (show h6.2 a = .inr (14, ((((((fs0.set 83 (.ref (a + 160))).set 84 (.ref (a + 161))).set 85 (.ref (a + 162))).set 86 (.ref (a + 163))).set 87 (.ref (a + 166))).set 88 (.ref (a + 167)))) by rw [m6, ef6, ef5, ef4, ef3, ef2, ef1]) ((E1 (a + 160) (by omega) (Or.inl (by omega))).trans a1) ((E2 (a + 161) (by omega) (Or.inl (by omega))).trans a2) ((E3 (a + 162) (by omega) (Or.inl (by omega))).trans a3) ((E4 (a + 163) (by omega) (Or.inl (by omega))).trans o4) ((E4 (a + 164) (by omega) (Or.inl (by omega))).trans x4) ((E4 (a + 165) (by omega) (Or.inl (by omega))).trans y4) ((E5 (a + 166) (by omega) (Or.inl (by omega))).trans a5) ((E6 (a + 167) (by omega) (Or.inl (by omega))).trans a6) E0
end
