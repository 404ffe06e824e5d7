/-! the reference: ends -/
def bX14_endsx_0 : List vm_J := [(1, .aload_n 0, 0, 0, 0, .null), (3, .getfield 474, 14, 64, 0, .null), (1, .iload_n 1, 0, 0, 0, .null), (1, .iaload, 0, 0, 0, .null), (2, .istore 4, 0, 0, 0, .null)]
set_option maxRecDepth 20000 in
theorem oX14_endsx_0 : vm_okB 14 mX14_ends 0 bX14_endsx_0 = true := by decide +kernel
def bX14_endsx_8 : List vm_J := [(1, .iload_n 3, 0, 0, 0, .null), (2, .bipush 49, 0, 0, 0, .int 49), (1, .iload_n 2, 0, 0, 0, .null), (1, .imul, 0, 0, 0, .null), (2, .bipush 96, 0, 0, 0, .int 96), (1, .iadd, 0, 0, 0, .null), (3, .if_icmp .eq 6, 22, 0, 0, .null), (2, .bipush (-2), 0, 0, 0, .int (-2)), (1, .ireturn, 0, 0, 0, .null)]
set_option maxRecDepth 20000 in
theorem oX14_endsx_8 : vm_okB 14 mX14_ends 8 bX14_endsx_8 = true := by decide +kernel
def bX14_endsx_22 : List vm_J := [(1, .iconst 0, 0, 0, 0, .int 0), (2, .istore 5, 0, 0, 0, .null)]
set_option maxRecDepth 20000 in
theorem oX14_endsx_22 : vm_okB 14 mX14_ends 22 bX14_endsx_22 = true := by decide +kernel
def bX14_endsx_25 : List vm_J := [(2, .iload 5, 0, 0, 0, .null), (1, .iload_n 2, 0, 0, 0, .null), (3, .if_icmp .ge 35, 63, 0, 0, .null), (1, .aload_n 0, 0, 0, 0, .null), (1, .aload_n 0, 0, 0, 0, .null), (3, .getfield 492, 14, 74, 0, .null), (2, .bipush 49, 0, 0, 0, .int 49), (2, .iload 5, 0, 0, 0, .null), (1, .imul, 0, 0, 0, .null), (1, .aload_n 0, 0, 0, 0, .null), (3, .getfield 387, 14, 42, 0, .null), (2, .iload 5, 0, 0, 0, .null), (1, .aaload, 0, 0, 0, .null), (3, .invokevirtual 628, 162, 3, 14, .null), (3, .ifCond .ne 6, 57, 0, 0, .null), (2, .bipush (-4), 0, 0, 0, .int (-4)), (1, .ireturn, 0, 0, 0, .null)]
set_option maxRecDepth 20000 in
theorem oX14_endsx_25 : vm_okB 14 mX14_ends 25 bX14_endsx_25 = true := by decide +kernel
def bX14_endsx_57 : List vm_J := [(3, .iinc 5 1, 0, 0, 0, .int 1), (3, .goto (-35), 25, 0, 0, .null)]
set_option maxRecDepth 20000 in
theorem oX14_endsx_57 : vm_okB 14 mX14_ends 57 bX14_endsx_57 = true := by decide +kernel
def bX14_endsx_63 : List vm_J := [(1, .aload_n 0, 0, 0, 0, .null), (3, .getfield 492, 14, 74, 0, .null), (2, .bipush 49, 0, 0, 0, .int 49), (1, .iload_n 2, 0, 0, 0, .null), (1, .imul, 0, 0, 0, .null), (2, .bipush 48, 0, 0, 0, .int 48), (1, .aload_n 0, 0, 0, 0, .null), (3, .getfield 426, 14, 51, 0, .null), (2, .bipush 12, 0, 0, 0, .int 12), (3, .invokestatic 176, 155, 5, 0, .null), (1, .aload_n 0, 0, 0, 0, .null), (3, .getfield 492, 14, 74, 0, .null), (2, .bipush 49, 0, 0, 0, .int 49), (1, .iload_n 2, 0, 0, 0, .null), (1, .imul, 0, 0, 0, .null), (2, .bipush 48, 0, 0, 0, .int 48), (1, .iadd, 0, 0, 0, .null), (2, .bipush 48, 0, 0, 0, .int 48), (1, .aload_n 0, 0, 0, 0, .null), (3, .getfield 437, 14, 52, 0, .null), (2, .bipush 12, 0, 0, 0, .int 12), (3, .invokestatic 176, 155, 5, 0, .null), (1, .aload_n 0, 0, 0, 0, .null), (3, .getfield 426, 14, 51, 0, .null), (3, .getstatic 196, 7, 0, 0, .null), (2, .bipush 12, 0, 0, 0, .int 12), (3, .invokestatic 26, 139, 3, 0, .null), (3, .ifCond .ge 18, 134, 0, 0, .null), (1, .aload_n 0, 0, 0, 0, .null), (3, .getfield 437, 14, 52, 0, .null), (3, .getstatic 196, 7, 0, 0, .null), (2, .bipush 12, 0, 0, 0, .int 12), (3, .invokestatic 26, 139, 3, 0, .null), (3, .ifCond .lt 6, 137, 0, 0, .null)]
set_option maxRecDepth 20000 in
theorem oX14_endsx_63 : vm_okB 14 mX14_ends 63 bX14_endsx_63 = true := by decide +kernel
def bX14_endsx_134 : List vm_J := [(2, .bipush (-4), 0, 0, 0, .int (-4)), (1, .ireturn, 0, 0, 0, .null)]
set_option maxRecDepth 20000 in
theorem oX14_endsx_134 : vm_okB 14 mX14_ends 134 bX14_endsx_134 = true := by decide +kernel
def bX14_endsx_137 : List vm_J := [(1, .iconst 0, 0, 0, 0, .int 0), (2, .istore 5, 0, 0, 0, .null)]
set_option maxRecDepth 20000 in
theorem oX14_endsx_137 : vm_okB 14 mX14_ends 137 bX14_endsx_137 = true := by decide +kernel
def bX14_endsx_140 : List vm_J := [(2, .iload 5, 0, 0, 0, .null), (1, .iload_n 2, 0, 0, 0, .null), (3, .if_icmp .ge 54, 197, 0, 0, .null), (1, .aload_n 0, 0, 0, 0, .null), (1, .aload_n 0, 0, 0, 0, .null), (3, .getfield 480, 14, 66, 0, .null), (2, .bipush 98, 0, 0, 0, .int 98), (1, .iload_n 1, 0, 0, 0, .null), (2, .iload 5, 0, 0, 0, .null), (1, .iadd, 0, 0, 0, .null), (1, .imul, 0, 0, 0, .null), (2, .bipush 98, 0, 0, 0, .int 98), (1, .aload_n 0, 0, 0, 0, .null), (3, .getfield 522, 14, 86, 0, .null), (3, .invokevirtual 608, 183, 4, 14, .null), (1, .aload_n 0, 0, 0, 0, .null), (1, .aload_n 0, 0, 0, 0, .null), (3, .getfield 483, 14, 67, 0, .null), (1, .iload_n 1, 0, 0, 0, .null), (2, .iload 5, 0, 0, 0, .null), (1, .iadd, 0, 0, 0, .null), (1, .aaload, 0, 0, 0, .null), (1, .aload_n 0, 0, 0, 0, .null), (3, .getfield 522, 14, 86, 0, .null), (1, .aload_n 0, 0, 0, 0, .null), (3, .getfield 380, 14, 41, 0, .null), (2, .iload 5, 0, 0, 0, .null), (1, .aaload, 0, 0, 0, .null), (3, .invokevirtual 404, 158, 3, 14, .null), (3, .iinc 5 1, 0, 0, 0, .int 1), (3, .goto (-54), 140, 0, 0, .null)]
set_option maxRecDepth 20000 in
theorem oX14_endsx_140 : vm_okB 14 mX14_ends 140 bX14_endsx_140 = true := by decide +kernel
def bX14_endsx_197 : List vm_J := [(1, .aload_n 0, 0, 0, 0, .null), (2, .iload 4, 0, 0, 0, .null), (1, .iload_n 2, 0, 0, 0, .null), (3, .invokevirtual 648, 190, 2, 14, .null), (3, .ifCond .ne 6, 210, 0, 0, .null), (2, .bipush (-4), 0, 0, 0, .int (-4)), (1, .ireturn, 0, 0, 0, .null)]
set_option maxRecDepth 20000 in
theorem oX14_endsx_197 : vm_okB 14 mX14_ends 197 bX14_endsx_197 = true := by decide +kernel
def bX14_endsx_210 : List vm_J := [(1, .iconst 0, 0, 0, 0, .int 0), (2, .istore 5, 0, 0, 0, .null)]
set_option maxRecDepth 20000 in
theorem oX14_endsx_210 : vm_okB 14 mX14_ends 210 bX14_endsx_210 = true := by decide +kernel
def bX14_endsx_213 : List vm_J := [(2, .iload 5, 0, 0, 0, .null), (1, .iload_n 2, 0, 0, 0, .null), (3, .if_icmp .ge 119, 335, 0, 0, .null), (1, .aload_n 0, 0, 0, 0, .null), (1, .aload_n 0, 0, 0, 0, .null), (3, .getfield 322, 14, 9, 0, .null), (1, .aload_n 0, 0, 0, 0, .null), (3, .getfield 483, 14, 67, 0, .null), (1, .iload_n 1, 0, 0, 0, .null), (2, .iload 5, 0, 0, 0, .null), (1, .iadd, 0, 0, 0, .null), (1, .aaload, 0, 0, 0, .null), (1, .aload_n 0, 0, 0, 0, .null), (3, .getfield 395, 14, 50, 0, .null), (3, .invokevirtual 142, 154, 3, 14, .null), (2, .istore 6, 0, 0, 0, .null)]
set_option maxRecDepth 20000 in
theorem oX14_endsx_213 : vm_okB 14 mX14_ends 213 bX14_endsx_213 = true := by decide +kernel
def bX14_endsx_242 : List vm_J := [(1, .aload_n 0, 0, 0, 0, .null), (1, .aload_n 0, 0, 0, 0, .null), (3, .getfield 395, 14, 50, 0, .null), (1, .aload_n 0, 0, 0, 0, .null), (3, .getfield 387, 14, 42, 0, .null), (2, .iload 5, 0, 0, 0, .null), (1, .aaload, 0, 0, 0, .null), (1, .aload_n 0, 0, 0, 0, .null), (3, .getfield 522, 14, 86, 0, .null), (3, .invokevirtual 404, 158, 3, 14, .null), (1, .aload_n 0, 0, 0, 0, .null), (3, .getfield 522, 14, 86, 0, .null), (3, .getfield 113, 13, 2, 0, .null), (3, .ifCond .eq 6, 274, 0, 0, .null), (2, .bipush (-4), 0, 0, 0, .int (-4)), (1, .ireturn, 0, 0, 0, .null)]
set_option maxRecDepth 20000 in
theorem oX14_endsx_242 : vm_okB 14 mX14_ends 242 bX14_endsx_242 = true := by decide +kernel
def bX14_endsx_274 : List vm_J := [(1, .aload_n 0, 0, 0, 0, .null), (1, .aload_n 0, 0, 0, 0, .null), (3, .getfield 480, 14, 66, 0, .null), (2, .bipush 98, 0, 0, 0, .int 98), (1, .iload_n 1, 0, 0, 0, .null), (2, .iload 5, 0, 0, 0, .null), (1, .iadd, 0, 0, 0, .null), (1, .imul, 0, 0, 0, .null), (1, .aload_n 0, 0, 0, 0, .null), (3, .getfield 522, 14, 86, 0, .null), (3, .invokevirtual 651, 226, 3, 14, .null), (1, .iconst 0, 0, 0, 0, .int 0), (2, .istore 7, 0, 0, 0, .null)]
set_option maxRecDepth 20000 in
theorem oX14_endsx_274 : vm_okB 14 mX14_ends 274 bX14_endsx_274 = true := by decide +kernel
def bX14_endsx_296 : List vm_J := [(2, .iload 7, 0, 0, 0, .null), (2, .bipush 48, 0, 0, 0, .int 48), (3, .if_icmp .ge 29, 329, 0, 0, .null), (1, .aload_n 0, 0, 0, 0, .null), (3, .getfield 528, 14, 88, 0, .null), (2, .bipush 48, 0, 0, 0, .int 48), (2, .iload 5, 0, 0, 0, .null), (1, .imul, 0, 0, 0, .null), (2, .iload 7, 0, 0, 0, .null), (1, .iadd, 0, 0, 0, .null), (1, .aload_n 0, 0, 0, 0, .null), (3, .getfield 243, 14, 20, 0, .null), (2, .iload 7, 0, 0, 0, .null), (1, .baload, 0, 0, 0, .null), (1, .bastore, 0, 0, 0, .null)]
set_option maxRecDepth 20000 in
theorem oX14_endsx_296 : vm_okB 14 mX14_ends 296 bX14_endsx_296 = true := by decide +kernel
def bX14_endsx_323 : List vm_J := [(3, .iinc 7 1, 0, 0, 0, .int 1), (3, .goto (-30), 296, 0, 0, .null)]
set_option maxRecDepth 20000 in
theorem oX14_endsx_323 : vm_okB 14 mX14_ends 323 bX14_endsx_323 = true := by decide +kernel
def bX14_endsx_329 : List vm_J := [(3, .iinc 5 1, 0, 0, 0, .int 1), (3, .goto (-119), 213, 0, 0, .null)]
set_option maxRecDepth 20000 in
theorem oX14_endsx_329 : vm_okB 14 mX14_ends 329 bX14_endsx_329 = true := by decide +kernel
def bX14_endsx_335 : List vm_J := [(1, .iconst 0, 0, 0, 0, .int 0), (2, .istore 5, 0, 0, 0, .null)]
set_option maxRecDepth 20000 in
theorem oX14_endsx_335 : vm_okB 14 mX14_ends 335 bX14_endsx_335 = true := by decide +kernel
def bX14_endsx_338 : List vm_J := [(2, .iload 5, 0, 0, 0, .null), (1, .iload_n 2, 0, 0, 0, .null), (3, .if_icmp .ge 110, 451, 0, 0, .null), (1, .iconst 0, 0, 0, 0, .int 0), (2, .istore 6, 0, 0, 0, .null)]
set_option maxRecDepth 20000 in
theorem oX14_endsx_338 : vm_okB 14 mX14_ends 338 bX14_endsx_338 = true := by decide +kernel
def bX14_endsx_347 : List vm_J := [(2, .iload 6, 0, 0, 0, .null), (2, .bipush 98, 0, 0, 0, .int 98), (3, .if_icmp .ge 38, 389, 0, 0, .null), (1, .aload_n 0, 0, 0, 0, .null), (3, .getfield 495, 14, 76, 0, .null), (3, .sipush 146, 0, 0, 0, .int 146), (2, .iload 5, 0, 0, 0, .null), (1, .imul, 0, 0, 0, .null), (2, .iload 6, 0, 0, 0, .null), (1, .iadd, 0, 0, 0, .null), (1, .aload_n 0, 0, 0, 0, .null), (3, .getfield 480, 14, 66, 0, .null), (2, .bipush 98, 0, 0, 0, .int 98), (1, .iload_n 1, 0, 0, 0, .null), (2, .iload 5, 0, 0, 0, .null), (1, .iadd, 0, 0, 0, .null), (1, .imul, 0, 0, 0, .null), (2, .iload 6, 0, 0, 0, .null), (1, .iadd, 0, 0, 0, .null), (1, .baload, 0, 0, 0, .null), (1, .bastore, 0, 0, 0, .null)]
set_option maxRecDepth 20000 in
theorem oX14_endsx_347 : vm_okB 14 mX14_ends 347 bX14_endsx_347 = true := by decide +kernel
def bX14_endsx_383 : List vm_J := [(3, .iinc 6 1, 0, 0, 0, .int 1), (3, .goto (-39), 347, 0, 0, .null)]
set_option maxRecDepth 20000 in
theorem oX14_endsx_383 : vm_okB 14 mX14_ends 383 bX14_endsx_383 = true := by decide +kernel
def bX14_endsx_389 : List vm_J := [(1, .iconst 0, 0, 0, 0, .int 0), (2, .istore 6, 0, 0, 0, .null)]
set_option maxRecDepth 20000 in
theorem oX14_endsx_389 : vm_okB 14 mX14_ends 389 bX14_endsx_389 = true := by decide +kernel
def bX14_endsx_392 : List vm_J := [(2, .iload 6, 0, 0, 0, .null), (2, .bipush 48, 0, 0, 0, .int 48), (3, .if_icmp .ge 39, 435, 0, 0, .null), (1, .aload_n 0, 0, 0, 0, .null), (3, .getfield 495, 14, 76, 0, .null), (3, .sipush 146, 0, 0, 0, .int 146), (2, .iload 5, 0, 0, 0, .null), (1, .imul, 0, 0, 0, .null), (2, .bipush 98, 0, 0, 0, .int 98), (1, .iadd, 0, 0, 0, .null), (2, .iload 6, 0, 0, 0, .null), (1, .iadd, 0, 0, 0, .null), (1, .aload_n 0, 0, 0, 0, .null), (3, .getfield 528, 14, 88, 0, .null), (2, .bipush 48, 0, 0, 0, .int 48), (2, .iload 5, 0, 0, 0, .null), (1, .imul, 0, 0, 0, .null), (2, .iload 6, 0, 0, 0, .null), (1, .iadd, 0, 0, 0, .null), (1, .baload, 0, 0, 0, .null), (1, .bastore, 0, 0, 0, .null)]
set_option maxRecDepth 20000 in
theorem oX14_endsx_392 : vm_okB 14 mX14_ends 392 bX14_endsx_392 = true := by decide +kernel
def bX14_endsx_429 : List vm_J := [(3, .iinc 6 1, 0, 0, 0, .int 1), (3, .goto (-40), 392, 0, 0, .null)]
set_option maxRecDepth 20000 in
theorem oX14_endsx_429 : vm_okB 14 mX14_ends 429 bX14_endsx_429 = true := by decide +kernel
def bX14_endsx_435 : List vm_J := [(1, .aload_n 0, 0, 0, 0, .null), (3, .getfield 477, 14, 65, 0, .null), (1, .iload_n 1, 0, 0, 0, .null), (2, .iload 5, 0, 0, 0, .null), (1, .iadd, 0, 0, 0, .null), (1, .iconst 0, 0, 0, 0, .int 0), (1, .bastore, 1, 0, 0, .null)]
set_option maxRecDepth 20000 in
theorem oX14_endsx_435 : vm_okB 14 mX14_ends 435 bX14_endsx_435 = true := by decide +kernel
def bX14_endsx_445 : List vm_J := [(3, .iinc 5 1, 0, 0, 0, .int 1), (3, .goto (-110), 338, 0, 0, .null)]
set_option maxRecDepth 20000 in
theorem oX14_endsx_445 : vm_okB 14 mX14_ends 445 bX14_endsx_445 = true := by decide +kernel
def bX14_endsx_451 : List vm_J := [(1, .aload_n 0, 0, 0, 0, .null), (3, .sipush 146, 0, 0, 0, .int 146), (1, .iload_n 2, 0, 0, 0, .null), (1, .imul, 0, 0, 0, .null), (3, .putfield 564, 14, 77, 0, .null)]
set_option maxRecDepth 20000 in
theorem oX14_endsx_451 : vm_okB 14 mX14_ends 451 bX14_endsx_451 = true := by decide +kernel
def bX14_endsx_460 : List vm_J := [(1, .aload_n 0, 0, 0, 0, .null), (3, .getfield 564, 14, 77, 0, .null), (1, .ireturn, 0, 0, 0, .null)]
set_option maxRecDepth 20000 in
theorem oX14_endsx_460 : vm_okB 14 mX14_ends 460 bX14_endsx_460 = true := by decide +kernel
section
variable {l : Launch} {O : Nat → vm_Ob} {f9 : Value} {h h' : vm_H} {a kn an rd wr : Nat} {t : KT} {g g' : Nat → Int32} {m y w ou : List Nat} {kf : Nat → aK} {af : Nat → aA} {D : Nat → Nat} {dn : Bool} {wl : Int} {th : Int32}
theorem ST_e (k : ST h a kn an kf af D w ou) : ST h a kn an kf af D w [] := by
  obtain ⟨q1, q2, q3, q4, ⟨c, q5, _⟩, q6, q7, q8⟩ := k
  exact ⟨q1, q2, q3, q4, ⟨c, q5, rfl⟩, q6, Nat.zero_le _, q8⟩
/-- bytes are copied into OUT -/
theorem ends_out {Q : Option Value → vm_H → Prop} {ask n i wl9 j9 : Nat} {co : Nat → Nat} {Pq : Nat → Option (fq × fq)} (k : SY h a t g [] m y) (G : RG9 g 0 kn an rd dn wl wr ([] : List Nat).length ou.length) (st : ST h a kn an kf af D [] []) (hn : n ≤ 8) (hask : ask + n ≤ an) (bo9' : bv h 384 (a + 167) co) (hco : ∀ q, q < n → tkP t.2.2.1 t.2.2.2 (af (ask + q)) (Pq q) = ain (af (ask + q)) ++ sl co (48 * q) 48) (hin : ∀ q, q < n → (ain (af (ask + q))).length = 98) (hQ : ∀ h', RM h' a t 0 [] (tko t.2.2.1 t.2.2.2 af ask Pq n) kn an rd kf (clz af ask n) D dn wl wr → fr h h' (RF a) → Q (some (.int (nI (146 * n)))) h') : vm_T (vm_env l O f9) mX14_ends 0 0 335 [(0, .ref a), (1, .int (nI ask)), (2, .int (nI n)), (3, .int (nI wl9)), (4, .int (nI i)), (5, .int (nI j9))] [] h Q := by
  have ao := k.1.2.1
  have la : a < 1099511627776 := by omega
  have l154 : a + 154 < 1099511627776 := by omega
  have l89 : a + 89 < 1099511627776 := by omega
  have han := st.2.2.2.2.2.2.2.2
  have ltk : ∀ q, q ≤ n → (tko t.2.2.1 t.2.2.2 af ask Pq q).length = 146 * q := by
    intro q
    induction q with
    | zero => intro _; rfl
    | succ q ih =>
      intro hq
      show (tko t.2.2.1 t.2.2.2 af ask Pq q ++ tkP t.2.2.1 t.2.2.2 (af (ask + q)) (Pq q)).length = _
      rw [List.length_append, ih (by omega), hco q (by omega), List.length_append, hin q (by omega), sl_len]; omega
  refine vm_go rfl bX14_endsx_335 oX14_endsx_335 (vm_Th (lv' := [(0, .ref a), (1, .int (nI ask)), (2, .int (nI n)), (3, .int (nI wl9)), (4, .int (nI i)), (5, .int (nI 0))]) (h' := h) rfl rfl ?_)
  obtain ⟨c0, b0, _⟩ := st.2.2.2.2.1
  refine vm_loop (fun j h' => SY h' a t g [] m y ∧ ST h' a kn an kf (clz af ask j) D [] [] ∧ bv h' 384 (a + 167) co ∧ (∃ c', bv h' 2900 (a + 154) c' ∧ sl c' 0 (146 * j) = tko t.2.2.1 t.2.2.2 af ask Pq j) ∧ fr h h' (RF a)) n (fun j => [(0, .ref a), (1, .int (nI ask)), (2, .int (nI n)), (3, .int (nI wl9)), (4, .int (nI i)), (5, .int (nI j))]) 0 h (Nat.zero_le _) ⟨k, st, bo9', ⟨c0, b0, rfl⟩, fr_refl⟩ ?_ ?_
  · rintro h1 ⟨k1, st1, _, ⟨c1, b1', e1⟩, F1⟩
    refine vm_go rfl bX14_endsx_338 oX14_endsx_338 ⟨fun _ => ?_, fun q => absurd (nI_le (a := n) (b := n) (Nat.le_refl _) (by omega)) q⟩
    have e146 : (146 : Int32) * nI n = nI (146 * n) := nI_mul 146 n
    refine vm_go rfl bX14_endsx_451 oX14_endsx_451 ⟨_, k1.1.1, la, show 77 < 89 by decide, trivial, ?_⟩
    obtain ⟨h2, eh2⟩ : ∃ h2, h2 = vm_up h1 a (RO a (u3 (ug g 77 (nI (146 * n))) (nI ([] : List Nat).length) (nI m.length) (nI y.length))) := ⟨_, rfl⟩
    obtain ⟨k2, F2⟩ := SY_g k1 eh2
    refine vm_Th (lv' := [(0, .ref a), (1, .int (nI ask)), (2, .int (nI n)), (3, .int (nI wl9)), (4, .int (nI i)), (5, .int (nI n))]) (h' := h2) rfl (by rw [eh2, ← e146]; rfl) ?_
    refine vm_go rfl bX14_endsx_460 oX14_endsx_460 ⟨_, _, k2.1.1, rfl, ?_⟩
    have lt9 := ltk n (Nat.le_refl _)
    refine hQ h2 ⟨_, _, _, k2, ?_, ST_ou st1 F2 (fun q z => by unfold scr; omega) ⟨c1, bv_cg b1' (F2.2 _ (by omega)), by rw [lt9]; exact e1⟩ (by omega)⟩ (fr_trans F1 (fr_mono F2 (fun q z => by unfold RF; omega)))
    rw [lt9]; exact RG_ol (w := []) G
  rintro j h1 _ hj ⟨k1, st1, b1', ⟨c1, bo1, e1⟩, F1⟩ ih
  have ca : clz af ask j (ask + j) = af (ask + j) := clz_o j (.inl (Nat.le_refl _))
  obtain ⟨ci, bi1, vi⟩ := st1.2.1.2.2.1
  have ei : sl ci (98 * (ask + j)) 98 = ain (af (ask + j)) := by rw [vi (ask + j) (by omega), ca]
  obtain ⟨fi, efi, vfi⟩ := id bi1
  obtain ⟨fo, efo, vfo⟩ := id b1'
  refine vm_go rfl bX14_endsx_338 oX14_endsx_338 ⟨fun q => absurd q (nI_ge (b := n) hj (by omega)), fun _ => ?_⟩
  refine vm_Th (lv' := [(0, .ref a), (1, .int (nI ask)), (2, .int (nI n)), (3, .int (nI wl9)), (4, .int (nI i)), (5, .int (nI j)), (6, .int (nI 0))]) (h' := h1) rfl rfl ?_
  have ea : nI ask + nI j = nI (ask + j) := nI_add _ _
  refine vm_loop (fun p h' => SY h' a t g [] m y ∧ (∃ c', bv h' 2900 (a + 154) c' ∧ (∀ q, q < p → c' (146 * j + q) = ci (98 * (ask + j) + q)) ∧ ∀ q, q < 146 * j → c' q = c1 q) ∧ fr h1 h' (fun q => q = a + 154)) 98 (fun p => [(0, .ref a), (1, .int (nI ask)), (2, .int (nI n)), (3, .int (nI wl9)), (4, .int (nI i)), (5, .int (nI j)), (6, .int (nI p))]) 0 h1 (Nat.zero_le _) ⟨k1, ⟨c1, bo1, fun q hq => by omega, fun _ _ => rfl⟩, fr_refl⟩ ?_ ?_
  rotate_left
  · rintro p h7 _ hp ⟨k7, ⟨c7, ⟨f7, ef7, vf7⟩, v7, w7⟩, F7⟩ ih2
    have vs9 := vfi (98 * (ask + j) + p) (by omega)
    have e1' : (98 : Int32) * (nI ask + nI j) + nI p = nI (98 * (ask + j) + p) := by rw [ea, show (98 : Int32) * nI (ask + j) = nI (98 * (ask + j)) from nI_mul 98 _, nI_add]
    have e2' : (146 : Int32) * nI j + nI p = nI (146 * j + p) := by rw [show (146 : Int32) * nI j = nI (146 * j) from nI_mul 146 _, nI_add]
    refine vm_go rfl bX14_endsx_347 oX14_endsx_347 ⟨fun q => absurd q (nI_ge (b := 98) hp (by decide)), fun _ => ⟨_, _, k7.1.1, rfl, ⟨_, _, k7.1.1, rfl, ⟨5880, fi, (F7.2 _ (by omega)).trans efi, 98 * (ask + j) + p, e1', by omega, fun _ => ⟨2900, f7, ef7, l154, 146 * j + p, e2', by omega, ?_⟩⟩⟩⟩⟩
    obtain ⟨h8, eh8⟩ : ∃ h8, h8 = vm_up h7 (a + 154) (.inl (.byte, 2900, .inl (upd f7 (146 * j + p) (sb (ci (98 * (ask + j) + p)))))) := ⟨_, rfl⟩
    have F8 : fr h7 h8 (fun q => q = a + 154) := eh8 ▸ fr_up rfl
    have b8' : bv h8 2900 (a + 154) (b1 c7 (146 * j + p) (ci (98 * (ask + j) + p))) := eh8 ▸ bv_up vf7 vs9.2
    refine vm_Th (lv' := [(0, .ref a), (1, .int (nI ask)), (2, .int (nI n)), (3, .int (nI wl9)), (4, .int (nI i)), (5, .int (nI j)), (6, .int (nI p))]) (h' := h8) rfl (by rw [eh8, ← sb_self _ vs9.2, ← vs9.1]; rfl) ?_
    refine vm_go rfl bX14_endsx_383 oX14_endsx_383 (vm_Th (by rw [← nI_1 p]; rfl) rfl (ih2 h8 ⟨SY_off k7 F8 (fun q z => by omega), ⟨_, b8', bstp (v := fun q => ci (98 * (ask + j) + q)) v7 rfl, fun q hq => by unfold b1; rw [if_neg (by omega)]; exact w7 q hq⟩, fr_trans F7 F8⟩))
  rintro h2 ⟨k2, ⟨c2, b2, v2, w2⟩, F2⟩
  refine vm_go rfl bX14_endsx_347 oX14_endsx_347 ⟨fun _ => ?_, fun q => absurd (nI_le (a := 98) (b := 98) (by decide) (by decide)) q⟩
  refine vm_go rfl bX14_endsx_389 oX14_endsx_389 (vm_Th (lv' := [(0, .ref a), (1, .int (nI ask)), (2, .int (nI n)), (3, .int (nI wl9)), (4, .int (nI i)), (5, .int (nI j)), (6, .int (nI 0))]) (h' := h2) rfl rfl ?_)
  refine vm_loop (fun p h' => SY h' a t g [] m y ∧ (∃ c', bv h' 2900 (a + 154) c' ∧ (∀ q, q < p → c' (146 * j + 98 + q) = co (48 * j + q)) ∧ ∀ q, q < 146 * j + 98 → c' q = c2 q) ∧ fr h1 h' (fun q => q = a + 154)) 48 (fun p => [(0, .ref a), (1, .int (nI ask)), (2, .int (nI n)), (3, .int (nI wl9)), (4, .int (nI i)), (5, .int (nI j)), (6, .int (nI p))]) 0 h2 (Nat.zero_le _) ⟨k2, ⟨c2, b2, fun q hq => by omega, fun _ _ => rfl⟩, F2⟩ ?_ ?_
  rotate_left
  · rintro p h7 _ hp ⟨k7, ⟨c7, ⟨f7, ef7, vf7⟩, v7, w7⟩, F7⟩ ih2
    have vs9 := vfo (48 * j + p) (by omega)
    have e1' : (48 : Int32) * nI j + nI p = nI (48 * j + p) := by rw [show (48 : Int32) * nI j = nI (48 * j) from nI_mul 48 _, nI_add]
    have e2' : (146 : Int32) * nI j + 98 + nI p = nI (146 * j + 98 + p) := by rw [show (146 : Int32) * nI j = nI (146 * j) from nI_mul 146 _, show nI (146 * j) + 98 = nI (146 * j + 98) from nI_add _ 98, nI_add]
    refine vm_go rfl bX14_endsx_392 oX14_endsx_392 ⟨fun q => absurd q (nI_ge (b := 48) hp (by decide)), fun _ => ⟨_, _, k7.1.1, rfl, ⟨_, _, k7.1.1, rfl, ⟨384, fo, (F7.2 _ (by omega)).trans efo, 48 * j + p, e1', by omega, fun _ => ⟨2900, f7, ef7, l154, 146 * j + 98 + p, e2', by omega, ?_⟩⟩⟩⟩⟩
    obtain ⟨h8, eh8⟩ : ∃ h8, h8 = vm_up h7 (a + 154) (.inl (.byte, 2900, .inl (upd f7 (146 * j + 98 + p) (sb (co (48 * j + p)))))) := ⟨_, rfl⟩
    have F8 : fr h7 h8 (fun q => q = a + 154) := eh8 ▸ fr_up rfl
    have b8' : bv h8 2900 (a + 154) (b1 c7 (146 * j + 98 + p) (co (48 * j + p))) := eh8 ▸ bv_up vf7 vs9.2
    refine vm_Th (lv' := [(0, .ref a), (1, .int (nI ask)), (2, .int (nI n)), (3, .int (nI wl9)), (4, .int (nI i)), (5, .int (nI j)), (6, .int (nI p))]) (h' := h8) rfl (by rw [eh8, ← sb_self _ vs9.2, ← vs9.1]; rfl) ?_
    refine vm_go rfl bX14_endsx_429 oX14_endsx_429 (vm_Th (by rw [← nI_1 p]; rfl) rfl (ih2 h8 ⟨SY_off k7 F8 (fun q z => by omega), ⟨_, b8', bstp (v := fun q => co (48 * j + q)) v7 rfl, fun q hq => by unfold b1; rw [if_neg (by omega)]; exact w7 q hq⟩, fr_trans F7 F8⟩))
  rintro h3 ⟨k3, ⟨c3, b3, v3, w3⟩, F3⟩
  refine vm_go rfl bX14_endsx_392 oX14_endsx_392 ⟨fun _ => ?_, fun q => absurd (nI_le (a := 48) (b := 48) (by decide) (by decide)) q⟩
  have st3 : ST h3 a kn an kf (clz af ask j) D [] [] := ST_ou st1 F3 (fun q z => by unfold scr; omega) ⟨c3, b3, rfl⟩ (Nat.zero_le _)
  obtain ⟨f2, ef2, _⟩ := st3.2.1.2.1
  refine vm_go rfl bX14_endsx_435 oX14_endsx_435 ⟨_, _, k3.1.1, rfl, ⟨60, f2, ef2, l89, ask + j, ea, by omega, ?_⟩⟩
  obtain ⟨h4, eh4⟩ : ∃ h4, h4 = vm_up h3 (a + 89) (.inl (.boolean, 60, .inl (upd f2 (ask + j) 0))) := ⟨_, rfl⟩
  have F4 : fr h3 h4 (fun q => q = a + 89) := eh4 ▸ fr_up rfl
  have n4 : bo9 h4 60 (a + 89) (upd f2 (ask + j) 0) := by rw [eh4]; exact vm_upe
  refine vm_Th (lv' := [(0, .ref a), (1, .int (nI ask)), (2, .int (nI n)), (3, .int (nI wl9)), (4, .int (nI i)), (5, .int (nI j)), (6, .int (nI 48))]) (h' := h4) rfl eh4 ?_
  have k4 := SY_off k3 F4 (fun q z => by omega)
  have st4 : ST h4 a kn an kf (clz af ask (j + 1)) D [] [] := by
    have := ST_cl st3 (j := ask + j) (by omega) ef2 F4 n4
    rw [ca] at this
    exact this
  refine vm_go rfl bX14_endsx_445 oX14_endsx_445 (vm_less [0, 1, 2, 3, 4, 5] rfl (vm_Th (by rw [← nI_1 j]; rfl) rfl (ih h4 ⟨k4, st4, bv_cg b1' ((F4.2 _ (by omega)).trans (F3.2 _ (by omega))), ⟨c3, bv_cg b3 (F4.2 _ (by omega)), ?_⟩, fr_trans F1 (fr_trans (fr_mono F3 (fun q z => by unfold RF; omega)) (fr_mono F4 (fun q z => by unfold RF; omega)))⟩)))
  show _ = tko t.2.2.1 t.2.2.2 af ask Pq j ++ tkP t.2.2.1 t.2.2.2 (af (ask + j)) (Pq j)
  rw [hco j hj, show 146 * (j + 1) = 146 * j + (98 + 48) by omega, sl_app, sl_app, Nat.zero_add, ← e1, ← ei]
  congr 1
  · exact sl_ext (fun q hq => by rw [Nat.zero_add, w3 q (by omega), w2 q (by omega)])
  · congr 1
    · exact sl_ext (fun q hq => by rw [w3 _ (by omega), v2 q hq])
    · exact sl_ext (fun q hq => v3 q hq)
theorem ends_tok {Q : Option Value → vm_H → Prop} {ask n i wl9 j9 : Nat} {Dp : Nat → fq × fq} (h9 : f9.category = 1) (k : SY h a t g [] m y) (G : RG9 g 0 kn an rd dn wl wr ([] : List Nat).length ou.length) (st : ST h a kn an kf af D [] ou) (hn : n ≤ 8) (hask : ask + n ≤ an) (hky : ∀ q, q < n → aky (af (ask + q)) = i) (ht : kty (kf i) = 1) (hAI : ∀ q, q < n → ∃ bl iv, AI t.2.2.1 t.2.2.2 (af (ask + q)) (kf i) bl iv) (hg : ∀ q, q < n → SP h (a + 171 + 6 * q) (some (Dp q))) (oD : ∀ q, q < n → ecO (-3) (fz (cB : Int)) (some (Dp q))) (hQ : ∀ h', RM h' a t 0 [] (tko t.2.2.1 t.2.2.2 af ask (fun q => some (Dp q)) n) kn an rd kf (clz af ask n) D dn wl wr → fr h h' (RF a) → Q (some (.int (nI (146 * n)))) h') : vm_T (vm_env l O f9) mX14_ends 0 0 210 [(0, .ref a), (1, .int (nI ask)), (2, .int (nI n)), (3, .int (nI wl9)), (4, .int (nI i)), (5, .int (nI j9))] [] h Q := by
  have ao := k.1.2.1
  have l167 : a + 167 < 1099511627776 := by omega
  have han := st.2.2.2.2.2.2.2.2
  obtain ⟨_, _, ⟨ci, bi9, vi⟩, ⟨fb, efb, vfb⟩, _, k6⟩ := id st.2.1
  dsimp only at vfb
  have AIq : ∀ q, q < n → (0 < abl (af (ask + q)) ∧ abl (af (ask + q)) < cQ) ∧ (ain (af (ask + q))).length = 98 ∧ ∃ v, v < cQ ∧ abl (af (ask + q)) * v % cQ = 1 := fun q hq => by
    obtain ⟨bl, iv, o1, l1, z | z⟩ := hAI q hq
    · obtain ⟨v, z1, z2, _⟩ := z.2.2.2.2
      exact ⟨z.2.1, l1, v, z1, z2⟩
    · have := z.1; omega
  have wbq : ∀ q, q < n → wv h 64 (a + 92 + (ask + q)) 12 (abl (af (ask + q))) := fun q hq => by
    have := (k6 (ask + q) (by omega)).2
    unfold nlm at this
    rw [hky q hq, if_pos ht] at this
    exact this
  have hne : ∀ q, q < n → ∃ p, ecM (-3) fiv (ivm cQ (abl (af (ask + q)))) (some (Dp q)) = some p := fun q hq => by
    obtain ⟨⟨r0, r1⟩, _, v, v1, v2⟩ := AIq q hq
    rw [ivm_e v1 v2]
    have v0 : 0 < v := Nat.pos_of_ne_zero (fun z => by rw [z, Nat.mul_zero, Nat.zero_mod] at v2; omega)
    exact Option.ne_none_iff_exists'.mp (mul_ne v0 v1 (oD q hq) (fun z => nomatch z))
  obtain ⟨pt9, hpt⟩ : ∃ pt9 : Nat → fq × fq, ∀ q, q < n → ecM (-3) fiv (ivm cQ (abl (af (ask + q)))) (some (Dp q)) = some (pt9 q) := ⟨fun q => (ecM (-3) fiv (ivm cQ (abl (af (ask + q)))) (some (Dp q))).getD (0, 0), fun q hq => by
    obtain ⟨p, ep⟩ := hne q hq
    show _ = some ((ecM (-3) fiv (ivm cQ (abl (af (ask + q)))) (some (Dp q))).getD (0, 0))
    rw [ep]; rfl⟩
  obtain ⟨c0, b0⟩ := k.1.2.2.2.2.2.1 167 (by unfold ZB; omega)
  have b0 : bv h 384 (a + 167) c0 := b0
  refine vm_go rfl bX14_endsx_210 oX14_endsx_210 (vm_Th (lv' := [(0, .ref a), (1, .int (nI ask)), (2, .int (nI n)), (3, .int (nI wl9)), (4, .int (nI i)), (5, .int (nI 0))]) (h' := h) rfl rfl ?_)
  refine vm_loop (fun j h' => SY h' a t g [] m y ∧ (∀ q, q < n → SP h' (a + 171 + 6 * q) (some (Dp q))) ∧ (∃ co, bv h' 384 (a + 167) co ∧ ∀ q, q < j → sl co (48 * q) 48 = outm t.2.2.1 t.2.2.2 (ain (af (ask + q))) (pt9 q)) ∧ fr h h' (fun q => scr a q)) n (fun j => [(0, .ref a), (1, .int (nI ask)), (2, .int (nI n)), (3, .int (nI wl9)), (4, .int (nI i)), (5, .int (nI j))]) 0 h (Nat.zero_le _) ⟨k, hg, ⟨c0, b0, fun q hq => by omega⟩, fr_refl⟩ ?_ ?_
  · rintro h1 ⟨k1, g1, ⟨co, bo1, e1⟩, F1⟩
    refine vm_go rfl bX14_endsx_213 oX14_endsx_213 ⟨fun _ => ?_, fun q => absurd (nI_le (a := n) (b := n) (Nat.le_refl _) (by omega)) q⟩
    refine ends_out k1 G (ST_e (ST_fr st F1 (fun q z => z))) hn hask bo1 (fun q hq => ?_) (fun q hq => (AIq q hq).2.1) (fun h' r' F' => hQ h' r' (fr_trans (fr_mono F1 (fun q z => by unfold scr at z; unfold RF; omega)) F'))
    unfold tkP
    rw [hpt q hq, e1 q hq]
  rintro j h1 _ hj ⟨k1, g1, ⟨co, bo1, e1⟩, F1⟩ ih
  obtain ⟨⟨r0, r1⟩, lin, v, v1, v2⟩ := AIq j hj
  have ea : nI ask + nI j = nI (ask + j) := nI_add _ _
  have cQo : cQ % 2 = 1 := by decide +kernel
  have mq := k1.1.2.2.2.1.2.1
  have wb1 : wv h1 64 (a + 92 + (ask + j)) 12 (abl (af (ask + j))) := wv_cg (wbq j hj) (F1.2 _ (by unfold scr; omega))
  refine vm_go rfl bX14_endsx_213 oX14_endsx_213 ⟨fun q => absurd q (nI_ge (b := n) hj (by omega)), fun _ => ⟨_, _, k1.1.1, rfl, ⟨_, _, k1.1.1, rfl, ⟨_, _, _, _, (F1.2 _ (by unfold scr; omega)).trans efb, by decide, rfl, ask + j, ea, by omega, va_e (vfb (ask + j) (by omega)), ⟨_, _, k1.1.1, rfl, ⟨_, k1.1.1, 0, 0, _, rm_inv (A := abl (af (ask + j))) (L3 := 12) mq.1 k1.1.1 (CU_6 (RK_cu k1.1) (by decide) (by decide)) (CU_6 (RK_cu k1.1) (by decide) (by decide)) (CU_6 (RK_cu k1.1) (by decide) (by decide)) (CU_6 (RK_cu k1.1) (by decide) (by decide)) wb1 (by decide) (RK_12 k1.1 (i := 69) (by unfold ZI; omega) rfl) (by decide) r1 cQo ao (by omega) (by omega) (by omega) (by omega) (by omega), Nat.zero_le _, Nat.zero_le _, ?_⟩⟩⟩⟩⟩⟩
  rintro _ h2 ⟨⟨ok, T, rfl, hok, lT, hT, wT⟩, ⟨r4, r5, r6, r7⟩, F2⟩
  have hok1 : ok = true := hok.mpr (inv_gcd (by decide +kernel) v2)
  have eT : T = v := ivm_u lT v1 (hT hok1) v2
  have eI := ivm_e v1 v2
  rw [eT] at wT
  rw [hok1]
  have k2 : SY h2 a t g [] m y := SY_fr k1 (RK_of k1.1 F2 ((F2.2 a (by omega)).trans k1.1.1) (fun q z => by
    rcases z with z | rfl
    · rcases (show q = a + 4 ∨ q = a + 5 ∨ q = a + 6 ∨ q = a + 7 by omega) with rfl | rfl | rfl | rfl
      · exact .inr (GD_i (by unfold ZI; omega) r4)
      · exact .inr (GD_i (by unfold ZI; omega) r5)
      · exact .inr (GD_i (by unfold ZI; omega) r6)
      · exact .inr (GD_i (by unfold ZI; omega) r7)
    · exact .inr (GD_i (by unfold ZI; omega) (wv_iw wT)))) F2 (by omega)
  refine vm_Th (lv' := [(0, .ref a), (1, .int (nI ask)), (2, .int (nI n)), (3, .int (nI wl9)), (4, .int (nI i)), (5, .int (nI j)), (6, .int 1)]) (h' := h2) rfl rfl ?_
  have g2 : ∀ q, q < n → SP h2 (a + 171 + 6 * q) (some (Dp q)) := fun q hq => SP_cg (g1 q hq) (fun q' z1 z2 => F2.2 q' (by omega))
  have bo2 : bv h2 384 (a + 167) co := bv_cg bo1 (F2.2 _ (by omega))
  have F02 : fr h h2 (fun q => scr a q) := fr_trans F1 (fr_mono F2 (fun q z => by unfold scr; omega))
  obtain ⟨fg, efg, vfg⟩ := k2.1.2.2.2.1.2.2.2.2.2.2.2
  refine vm_go rfl bX14_endsx_242 oX14_endsx_242 ⟨_, _, k2.1.1, rfl, ⟨_, _, k2.1.1, rfl, ⟨_, _, _, _, efg, by decide, rfl, j, rfl, by omega, va_e (vfg j (by omega)), ⟨_, _, k2.1.1, rfl, ⟨_, k2.1.1, 0, 0, _, rq_mult (s := 163) k2.1 wT (by decide) (Nat.lt_trans v1 (by decide +kernel)) (g2 j hj) (oD j hj) (by unfold ZP; omega) (by decide) (by omega) (by omega) (by omega), Nat.zero_le _, Nat.zero_le _, ?_⟩⟩⟩⟩⟩
  rintro _ h3 ⟨rfl, r3, s3, F3⟩
  have k3 : SY h3 a t g [] m y := SY_fr k2 r3 F3 (by unfold JM JW; omega)
  have e3 := hpt j hj
  rw [eI] at e3
  rw [e3] at s3
  have g3 : ∀ q, q < n → SP h3 (a + 171 + 6 * q) (some (Dp q)) := fun q hq => SP_cg (g2 q hq) (fun q' z1 z2 => F3.2 q' (by unfold JM JW; omega))
  have bo3 : bv h3 384 (a + 167) co := bv_cg bo2 (F3.2 _ (by unfold JM JW; omega))
  have F03 : fr h h3 (fun q => scr a q) := fr_trans F02 (fr_mono F3 (fun q z => by unfold JM JW at z; unfold scr; omega))
  refine ⟨_, _, k3.1.1, rfl, ⟨_, _, SP_fl s3, rfl, ⟨fun _ => ?_, fun q => absurd rfl q⟩⟩⟩
  have bi3 : bv h3 5880 (a + 90) ci := bv_cg bi9 (F03.2 _ (by unfold scr; omega))
  have e98 : (98 : Int32) * (nI ask + nI j) = nI (98 * (ask + j)) := by rw [ea]; exact nI_mul 98 _
  refine vm_go rfl bX14_endsx_274 oX14_endsx_274 ⟨_, _, k3.1.1, rfl, ⟨_, _, k3.1.1, rfl, ⟨_, k3.1.1, 0, 0, _, vm_metE (by rw [← e98]; rfl) (rm_output (p := 98 * (ask + j)) h9 k3 bi3 (by omega) (by omega) (by decide) s3 (by omega)), Nat.zero_le _, Nat.zero_le _, ?_⟩⟩⟩
  rintro _ h4 ⟨rfl, k4, ⟨cd, bd, ed⟩, F4⟩
  have ei : sl ci (98 * (ask + j)) 98 = ain (af (ask + j)) := vi (ask + j) (by omega)
  rw [ei] at ed
  have g4 : ∀ q, q < n → SP h4 (a + 171 + 6 * q) (some (Dp q)) := fun q hq => SP_cg (g3 q hq) (fun q' z1 z2 => F4.2 q' (by omega))
  have bo4 : bv h4 384 (a + 167) co := bv_cg bo3 (F4.2 _ (by omega))
  have F04 : fr h h4 (fun q => scr a q) := fr_trans F03 (fr_mono F4 (fun q z => by unfold scr; omega))
  obtain ⟨fd, efd, vfd⟩ := id bd
  refine vm_Th (lv' := [(0, .ref a), (1, .int (nI ask)), (2, .int (nI n)), (3, .int (nI wl9)), (4, .int (nI i)), (5, .int (nI j)), (6, .int 1), (7, .int (nI 0))]) (h' := h4) rfl rfl ?_
  refine vm_loop (fun p h' => SY h' a t g [] m y ∧ (∃ c', bv h' 384 (a + 167) c' ∧ (∀ q, q < p → c' (48 * j + q) = cd q) ∧ ∀ q, q < 48 * j → c' q = co q) ∧ fr h4 h' (fun q => q = a + 167)) 48 (fun p => [(0, .ref a), (1, .int (nI ask)), (2, .int (nI n)), (3, .int (nI wl9)), (4, .int (nI i)), (5, .int (nI j)), (6, .int 1), (7, .int (nI p))]) 0 h4 (Nat.zero_le _) ⟨k4, ⟨co, bo4, fun q hq => by omega, fun _ _ => rfl⟩, fr_refl⟩ ?_ ?_
  rotate_left
  · rintro p h7 _ hp ⟨k7, ⟨c7, ⟨f7, ef7, vf7⟩, v7, w7⟩, F7⟩ ih2
    have vs9 := vfd p (by omega)
    have e2' : (48 : Int32) * nI j + nI p = nI (48 * j + p) := by rw [show (48 : Int32) * nI j = nI (48 * j) from nI_mul 48 _, nI_add]
    refine vm_go rfl bX14_endsx_296 oX14_endsx_296 ⟨fun q => absurd q (nI_ge (b := 48) hp (by decide)), fun _ => ⟨_, _, k7.1.1, rfl, ⟨_, _, k7.1.1, rfl, ⟨48, fd, (F7.2 _ (by omega)).trans efd, p, rfl, by omega, fun _ => ⟨384, f7, ef7, l167, 48 * j + p, e2', by omega, ?_⟩⟩⟩⟩⟩
    obtain ⟨h8, eh8⟩ : ∃ h8, h8 = vm_up h7 (a + 167) (.inl (.byte, 384, .inl (upd f7 (48 * j + p) (sb (cd p))))) := ⟨_, rfl⟩
    have F8 : fr h7 h8 (fun q => q = a + 167) := eh8 ▸ fr_up rfl
    have b8' : bv h8 384 (a + 167) (b1 c7 (48 * j + p) (cd p)) := eh8 ▸ bv_up vf7 vs9.2
    refine vm_Th (lv' := [(0, .ref a), (1, .int (nI ask)), (2, .int (nI n)), (3, .int (nI wl9)), (4, .int (nI i)), (5, .int (nI j)), (6, .int 1), (7, .int (nI p))]) (h' := h8) rfl (by rw [eh8, ← sb_self _ vs9.2, ← vs9.1]; rfl) ?_
    have k8 : SY h8 a t g [] m y := SY_fr k7 (RK_of k7.1 F8 ((F8.2 a (by omega)).trans k7.1.1) (fun q z => .inr (z ▸ GD_r (i := 167) (by unfold ZB; omega) rfl ⟨_, b8'⟩))) F8 (by omega)
    refine vm_go rfl bX14_endsx_323 oX14_endsx_323 (vm_Th (by rw [← nI_1 p]; rfl) rfl (ih2 h8 ⟨k8, ⟨_, b8', bstp (v := cd) v7 rfl, fun q hq => by unfold b1; rw [if_neg (by omega)]; exact w7 q hq⟩, fr_trans F7 F8⟩))
  rintro h5 ⟨k5, ⟨c5, b5, v5, w5⟩, F5⟩
  refine vm_go rfl bX14_endsx_296 oX14_endsx_296 ⟨fun _ => ?_, fun q => absurd (nI_le (a := 48) (b := 48) (by decide) (by decide)) q⟩
  refine vm_go rfl bX14_endsx_329 oX14_endsx_329 (vm_less [0, 1, 2, 3, 4, 5] rfl (vm_Th (by rw [← nI_1 j]; rfl) rfl (ih h5 ⟨k5, fun q hq => SP_cg (g4 q hq) (fun q' z1 z2 => F5.2 q' (by omega)), ⟨c5, b5, fun q hq => ?_⟩, fr_trans F04 (fr_mono F5 (fun q z => by unfold scr; omega))⟩)))
  by_cases c : q = j
  · rw [c, ← ed]
    exact sl_ext (fun p hp => by rw [v5 p hp, Nat.zero_add])
  · rw [← e1 q (by omega)]
    exact sl_ext (fun p hp => w5 _ (by omega))
end
