/-! the reference: request -/
def bX14_requestx_0 : List vm_J := [(1, .aload_n 0, 0, 0, 0, .null), (3, .invokevirtual 570, 192, 0, 14, .null), (1, .istore_n 2, 0, 0, 0, .null)]
set_option maxRecDepth 20000 in
theorem oX14_requestx_0 : vm_okB 14 mX14_request 0 bX14_requestx_0 = true := by decide +kernel
def bX14_requestx_5 : List vm_J := [(1, .aload_n 0, 0, 0, 0, .null), (1, .iload_n 1, 0, 0, 0, .null), (3, .invokevirtual 594, 210, 1, 14, .null), (3, .ifCond .ne 12, 22, 0, 0, .null), (1, .aload_n 0, 0, 0, 0, .null), (3, .getfield 453, 14, 55, 0, .null), (1, .iload_n 1, 0, 0, 0, .null), (1, .baload, 1, 0, 0, .null), (3, .ifCond .ne 6, 25, 0, 0, .null)]
set_option maxRecDepth 20000 in
theorem oX14_requestx_5 : vm_okB 14 mX14_request 5 bX14_requestx_5 = true := by decide +kernel
def bX14_requestx_22 : List vm_J := [(2, .bipush (-3), 0, 0, 0, .int (-3)), (1, .ireturn, 0, 0, 0, .null)]
set_option maxRecDepth 20000 in
theorem oX14_requestx_22 : vm_okB 14 mX14_request 22 bX14_requestx_22 = true := by decide +kernel
def bX14_requestx_25 : List vm_J := [(1, .aload_n 0, 0, 0, 0, .null), (3, .getfield 450, 14, 54, 0, .null), (1, .iload_n 1, 0, 0, 0, .null), (1, .iaload, 0, 0, 0, .null), (1, .iconst 1, 0, 0, 0, .int 1), (3, .if_icmp .ne 8, 40, 0, 0, .null), (2, .bipush 48, 0, 0, 0, .int 48), (3, .goto 16, 53, 0, 0, .null)]
set_option maxRecDepth 20000 in
theorem oX14_requestx_25 : vm_okB 14 mX14_request 25 bX14_requestx_25 = true := by decide +kernel
def bX14_requestx_40 : List vm_J := [(1, .aload_n 0, 0, 0, 0, .null), (3, .getfield 471, 14, 62, 0, .null), (1, .iload_n 1, 0, 0, 0, .null), (1, .iaload, 0, 0, 0, .null), (1, .aload_n 0, 0, 0, 0, .null), (3, .getfield 468, 14, 61, 0, .null), (1, .iload_n 1, 0, 0, 0, .null), (1, .iaload, 0, 0, 0, .null), (1, .iadd, 0, 0, 0, .null)]
set_option maxRecDepth 20000 in
theorem oX14_requestx_40 : vm_okB 14 mX14_request 40 bX14_requestx_40 = true := by decide +kernel
def bX14_requestx_53 : List vm_J := [(1, .istore_n 3, 0, 0, 0, .null)]
set_option maxRecDepth 20000 in
theorem oX14_requestx_53 : vm_okB 14 mX14_request 53 bX14_requestx_53 = true := by decide +kernel
def bX14_requestx_54 : List vm_J := [(1, .iload_n 2, 0, 0, 0, .null), (2, .bipush 64, 0, 0, 0, .int 64), (1, .iload_n 3, 0, 0, 0, .null), (1, .iadd, 0, 0, 0, .null), (3, .if_icmp .eq 6, 65, 0, 0, .null), (2, .bipush (-2), 0, 0, 0, .int (-2)), (1, .ireturn, 0, 0, 0, .null)]
set_option maxRecDepth 20000 in
theorem oX14_requestx_54 : vm_okB 14 mX14_request 54 bX14_requestx_54 = true := by decide +kernel
def bX14_requestx_65 : List vm_J := [(1, .aload_n 0, 0, 0, 0, .null), (3, .getfield 598, 14, 68, 0, .null), (2, .bipush 60, 0, 0, 0, .int 60), (3, .if_icmp .ne 6, 77, 0, 0, .null), (2, .bipush (-6), 0, 0, 0, .int (-6)), (1, .ireturn, 0, 0, 0, .null)]
set_option maxRecDepth 20000 in
theorem oX14_requestx_65 : vm_okB 14 mX14_request 65 bX14_requestx_65 = true := by decide +kernel
def bX14_requestx_77 : List vm_J := [(2, .bipush 98, 0, 0, 0, .int 98), (1, .aload_n 0, 0, 0, 0, .null), (3, .getfield 598, 14, 68, 0, .null), (1, .imul, 0, 0, 0, .null), (2, .istore 4, 0, 0, 0, .null)]
set_option maxRecDepth 20000 in
theorem oX14_requestx_77 : vm_okB 14 mX14_request 77 bX14_requestx_77 = true := by decide +kernel
def bX14_requestx_86 : List vm_J := [(1, .aload_n 0, 0, 0, 0, .null), (3, .getfield 480, 14, 66, 0, .null), (2, .iload 4, 0, 0, 0, .null), (1, .iconst 0, 0, 0, 0, .int 0), (1, .bastore, 0, 0, 0, .null)]
set_option maxRecDepth 20000 in
theorem oX14_requestx_86 : vm_okB 14 mX14_request 86 bX14_requestx_86 = true := by decide +kernel
def bX14_requestx_94 : List vm_J := [(1, .aload_n 0, 0, 0, 0, .null), (3, .getfield 480, 14, 66, 0, .null), (2, .iload 4, 0, 0, 0, .null), (1, .iconst 1, 0, 0, 0, .int 1), (1, .iadd, 0, 0, 0, .null), (1, .aload_n 0, 0, 0, 0, .null), (3, .getfield 450, 14, 54, 0, .null), (1, .iload_n 1, 0, 0, 0, .null), (1, .iaload, 0, 0, 0, .null), (1, .i2b, 0, 0, 0, .null), (1, .bastore, 0, 0, 0, .null)]
set_option maxRecDepth 20000 in
theorem oX14_requestx_94 : vm_okB 14 mX14_request 94 bX14_requestx_94 = true := by decide +kernel
def bX14_requestx_110 : List vm_J := [(1, .iconst 0, 0, 0, 0, .int 0), (2, .istore 5, 0, 0, 0, .null)]
set_option maxRecDepth 20000 in
theorem oX14_requestx_110 : vm_okB 14 mX14_request 110 bX14_requestx_110 = true := by decide +kernel
def bX14_requestx_113 : List vm_J := [(2, .iload 5, 0, 0, 0, .null), (2, .bipush 64, 0, 0, 0, .int 64), (3, .if_icmp .ge 28, 145, 0, 0, .null), (1, .aload_n 0, 0, 0, 0, .null), (3, .getfield 480, 14, 66, 0, .null), (2, .iload 4, 0, 0, 0, .null), (1, .iconst 2, 0, 0, 0, .int 2), (1, .iadd, 0, 0, 0, .null), (2, .iload 5, 0, 0, 0, .null), (1, .iadd, 0, 0, 0, .null), (1, .aload_n 0, 0, 0, 0, .null), (3, .getfield 492, 14, 74, 0, .null), (2, .iload 5, 0, 0, 0, .null), (1, .baload, 0, 0, 0, .null), (1, .bastore, 0, 0, 0, .null)]
set_option maxRecDepth 20000 in
theorem oX14_requestx_113 : vm_okB 14 mX14_request 113 bX14_requestx_113 = true := by decide +kernel
def bX14_requestx_139 : List vm_J := [(3, .iinc 5 1, 0, 0, 0, .int 1), (3, .goto (-29), 113, 0, 0, .null)]
set_option maxRecDepth 20000 in
theorem oX14_requestx_139 : vm_okB 14 mX14_request 139 bX14_requestx_139 = true := by decide +kernel
def bX14_requestx_145 : List vm_J := [(1, .iconst 0, 0, 0, 0, .int 0), (2, .istore 5, 0, 0, 0, .null)]
set_option maxRecDepth 20000 in
theorem oX14_requestx_145 : vm_okB 14 mX14_request 145 bX14_requestx_145 = true := by decide +kernel
def bX14_requestx_148 : List vm_J := [(2, .iload 5, 0, 0, 0, .null), (2, .bipush 32, 0, 0, 0, .int 32), (3, .if_icmp .ge 34, 186, 0, 0, .null), (1, .aload_n 0, 0, 0, 0, .null), (3, .getfield 480, 14, 66, 0, .null), (2, .iload 4, 0, 0, 0, .null), (2, .bipush 66, 0, 0, 0, .int 66), (1, .iadd, 0, 0, 0, .null), (2, .iload 5, 0, 0, 0, .null), (1, .iadd, 0, 0, 0, .null), (1, .aload_n 0, 0, 0, 0, .null), (3, .getfield 457, 14, 56, 0, .null), (2, .bipush 32, 0, 0, 0, .int 32), (1, .iload_n 1, 0, 0, 0, .null), (1, .imul, 0, 0, 0, .null), (2, .iload 5, 0, 0, 0, .null), (1, .iadd, 0, 0, 0, .null), (1, .baload, 0, 0, 0, .null), (1, .bastore, 0, 0, 0, .null)]
set_option maxRecDepth 20000 in
theorem oX14_requestx_148 : vm_okB 14 mX14_request 148 bX14_requestx_148 = true := by decide +kernel
def bX14_requestx_180 : List vm_J := [(3, .iinc 5 1, 0, 0, 0, .int 1), (3, .goto (-35), 148, 0, 0, .null)]
set_option maxRecDepth 20000 in
theorem oX14_requestx_180 : vm_okB 14 mX14_request 180 bX14_requestx_180 = true := by decide +kernel
def bX14_requestx_186 : List vm_J := [(1, .aload_n 0, 0, 0, 0, .null), (3, .getfield 450, 14, 54, 0, .null), (1, .iload_n 1, 0, 0, 0, .null), (1, .iaload, 0, 0, 0, .null), (1, .iconst 1, 0, 0, 0, .int 1), (3, .if_icmp .ne 12, 205, 0, 0, .null), (1, .aload_n 0, 0, 0, 0, .null), (2, .iload 4, 0, 0, 0, .null), (3, .invokevirtual 601, 215, 1, 14, .null), (3, .goto 10, 212, 0, 0, .null)]
set_option maxRecDepth 20000 in
theorem oX14_requestx_186 : vm_okB 14 mX14_request 186 bX14_requestx_186 = true := by decide +kernel
def bX14_requestx_205 : List vm_J := [(1, .aload_n 0, 0, 0, 0, .null), (1, .iload_n 1, 0, 0, 0, .null), (2, .iload 4, 0, 0, 0, .null), (3, .invokevirtual 604, 216, 2, 14, .null)]
set_option maxRecDepth 20000 in
theorem oX14_requestx_205 : vm_okB 14 mX14_request 205 bX14_requestx_205 = true := by decide +kernel
def bX14_requestx_212 : List vm_J := [(2, .istore 5, 0, 0, 0, .null)]
set_option maxRecDepth 20000 in
theorem oX14_requestx_212 : vm_okB 14 mX14_request 212 bX14_requestx_212 = true := by decide +kernel
def bX14_requestx_214 : List vm_J := [(2, .iload 5, 0, 0, 0, .null), (3, .ifCond .ne 6, 222, 0, 0, .null), (2, .bipush (-4), 0, 0, 0, .int (-4)), (1, .ireturn, 0, 0, 0, .null)]
set_option maxRecDepth 20000 in
theorem oX14_requestx_214 : vm_okB 14 mX14_request 214 bX14_requestx_214 = true := by decide +kernel
def bX14_requestx_222 : List vm_J := [(1, .aload_n 0, 0, 0, 0, .null), (3, .getfield 495, 14, 76, 0, .null), (1, .iconst 0, 0, 0, 0, .int 0), (1, .iconst 0, 0, 0, 0, .int 0), (1, .bastore, 0, 0, 0, .null)]
set_option maxRecDepth 20000 in
theorem oX14_requestx_222 : vm_okB 14 mX14_request 222 bX14_requestx_222 = true := by decide +kernel
def bX14_requestx_229 : List vm_J := [(1, .aload_n 0, 0, 0, 0, .null), (3, .getfield 495, 14, 76, 0, .null), (1, .iconst 1, 0, 0, 0, .int 1), (1, .aload_n 0, 0, 0, 0, .null), (3, .getfield 450, 14, 54, 0, .null), (1, .iload_n 1, 0, 0, 0, .null), (1, .iaload, 0, 0, 0, .null), (1, .i2b, 0, 0, 0, .null), (1, .bastore, 0, 0, 0, .null)]
set_option maxRecDepth 20000 in
theorem oX14_requestx_229 : vm_okB 14 mX14_request 229 bX14_requestx_229 = true := by decide +kernel
def bX14_requestx_242 : List vm_J := [(1, .aload_n 0, 0, 0, 0, .null), (3, .getfield 495, 14, 76, 0, .null), (1, .iconst 2, 0, 0, 0, .int 2), (1, .aload_n 0, 0, 0, 0, .null), (3, .getfield 457, 14, 56, 0, .null), (2, .bipush 32, 0, 0, 0, .int 32), (1, .iload_n 1, 0, 0, 0, .null), (1, .imul, 0, 0, 0, .null), (2, .bipush 31, 0, 0, 0, .int 31), (1, .iadd, 0, 0, 0, .null), (1, .baload, 0, 0, 0, .null), (1, .bastore, 0, 0, 0, .null)]
set_option maxRecDepth 20000 in
theorem oX14_requestx_242 : vm_okB 14 mX14_request 242 bX14_requestx_242 = true := by decide +kernel
def bX14_requestx_260 : List vm_J := [(1, .aload_n 0, 0, 0, 0, .null), (3, .getfield 450, 14, 54, 0, .null), (1, .iload_n 1, 0, 0, 0, .null), (1, .iaload, 0, 0, 0, .null), (1, .iconst 1, 0, 0, 0, .int 1), (3, .if_icmp .ne 24, 291, 0, 0, .null), (1, .aload_n 0, 0, 0, 0, .null), (3, .getfield 522, 14, 86, 0, .null), (1, .aload_n 0, 0, 0, 0, .null), (3, .getfield 495, 14, 76, 0, .null), (1, .iconst 3, 0, 0, 0, .int 3), (3, .invokestatic 363, 163, 3, 0, .null), (1, .aload_n 0, 0, 0, 0, .null), (2, .bipush 52, 0, 0, 0, .int 52), (3, .putfield 564, 14, 77, 0, .null)]
set_option maxRecDepth 20000 in
theorem oX14_requestx_260 : vm_okB 14 mX14_request 260 bX14_requestx_260 = true := by decide +kernel
def bX14_requestx_288 : List vm_J := [(3, .goto 33, 321, 0, 0, .null)]
set_option maxRecDepth 20000 in
theorem oX14_requestx_288 : vm_okB 14 mX14_request 288 bX14_requestx_288 = true := by decide +kernel
def bX14_requestx_291 : List vm_J := [(1, .aload_n 0, 0, 0, 0, .null), (3, .getfield 510, 14, 82, 0, .null), (1, .aload_n 0, 0, 0, 0, .null), (3, .getfield 495, 14, 76, 0, .null), (1, .iconst 3, 0, 0, 0, .int 3), (1, .aload_n 0, 0, 0, 0, .null), (3, .getfield 468, 14, 61, 0, .null), (1, .iload_n 1, 0, 0, 0, .null), (1, .iaload, 0, 0, 0, .null), (3, .invokestatic 192, 156, 4, 0, .null), (1, .aload_n 0, 0, 0, 0, .null), (1, .iconst 3, 0, 0, 0, .int 3), (1, .aload_n 0, 0, 0, 0, .null), (3, .getfield 468, 14, 61, 0, .null), (1, .iload_n 1, 0, 0, 0, .null), (1, .iaload, 0, 0, 0, .null), (1, .iadd, 0, 0, 0, .null), (3, .putfield 564, 14, 77, 0, .null)]
set_option maxRecDepth 20000 in
theorem oX14_requestx_291 : vm_okB 14 mX14_request 291 bX14_requestx_291 = true := by decide +kernel
def bX14_requestx_321 : List vm_J := [(1, .aload_n 0, 0, 0, 0, .null), (3, .getfield 474, 14, 64, 0, .null), (1, .aload_n 0, 0, 0, 0, .null), (3, .getfield 598, 14, 68, 0, .null), (1, .iload_n 1, 0, 0, 0, .null), (1, .iastore, 0, 0, 0, .null)]
set_option maxRecDepth 20000 in
theorem oX14_requestx_321 : vm_okB 14 mX14_request 321 bX14_requestx_321 = true := by decide +kernel
def bX14_requestx_331 : List vm_J := [(1, .aload_n 0, 0, 0, 0, .null), (3, .getfield 477, 14, 65, 0, .null), (1, .aload_n 0, 0, 0, 0, .null), (3, .getfield 598, 14, 68, 0, .null), (1, .iconst 1, 0, 0, 0, .int 1), (1, .bastore, 1, 0, 0, .null)]
set_option maxRecDepth 20000 in
theorem oX14_requestx_331 : vm_okB 14 mX14_request 331 bX14_requestx_331 = true := by decide +kernel
def bX14_requestx_341 : List vm_J := [(1, .aload_n 0, 0, 0, 0, .null), (1, .dup, 0, 0, 0, .null), (3, .getfield 598, 14, 68, 0, .null), (1, .iconst 1, 0, 0, 0, .int 1), (1, .iadd, 0, 0, 0, .null), (3, .putfield 598, 14, 68, 0, .null)]
set_option maxRecDepth 20000 in
theorem oX14_requestx_341 : vm_okB 14 mX14_request 341 bX14_requestx_341 = true := by decide +kernel
def bX14_requestx_351 : List vm_J := [(1, .aload_n 0, 0, 0, 0, .null), (3, .getfield 598, 14, 68, 0, .null), (1, .iconst 1, 0, 0, 0, .int 1), (1, .isub, 0, 0, 0, .null), (1, .ireturn, 0, 0, 0, .null)]
set_option maxRecDepth 20000 in
theorem oX14_requestx_351 : vm_okB 14 mX14_request 351 bX14_requestx_351 = true := by decide +kernel
theorem inp_0 {x : aK} {w : List Nat} (ht : kty x = 1 ∨ kty x = 2) (lw9 : 64 ≤ w.length) (lid : (kid x).length = 32) : (inpF x w).length = 98 ∧ gb (inpF x w) 0 = 0 ∧ gb (inpF x w) 1 = kty x ∧ (∀ j, j < 64 → gb (inpF x w) (2 + j) = gb w j) ∧ ∀ j, j < 32 → gb (inpF x w) (66 + j) = gb (kid x) j := by
  have l1 : (nb (kty x : Nat) 2).length = 2 := nb_len
  have l2 : (nb (kty x : Nat) 2 ++ sl (gb w) 0 64).length = 66 := by rw [List.length_append, l1, sl_len]
  have e2 : nb (kty x : Nat) 2 = [0, kty x] := by
    rw [nb_two]
    rcases ht with e | e <;> rw [e]
  unfold inpF
  refine ⟨by rw [List.length_append, l2, lid], ?_, ?_, fun j hj => ?_, fun j hj => ?_⟩
  · rw [gb_lo (by omega), gb_lo (by omega), e2]; rfl
  · rw [gb_lo (by omega), gb_lo (by omega), e2]; rfl
  · rw [gb_lo (by omega), gb_hi (by omega) (by rw [l1, sl_len]; omega), l1, show 2 + j - 2 = j by omega, gb_sl hj, Nat.zero_add]
  · rw [gb_hi (by omega) (by omega), l2, show 66 + j - 66 = j by omega]
theorem bv_u {h : vm_H} {n q : Nat} {c c' : Nat → Nat} (k : bv h n q c) (k' : bv h n q c') : ∀ j, j < n → c j = c' j := by
  obtain ⟨f, e, v⟩ := k
  obtain ⟨f', e', v'⟩ := k'
  have e9 : (Sum.inl (FieldType.byte, n, Sum.inl f) : vm_Ob) = .inl (.byte, n, .inl f') := e.symm.trans e'
  injection e9 with e9
  injection e9 with _ e9
  injection e9 with _ e9
  injection e9 with e9
  intro j hj
  exact sb_inj (v j hj).2 (v' j hj).2 (by rw [← (v j hj).1, ← (v' j hj).1, e9])
section
variable {l : Launch} {O : Nat → vm_Ob} {f9 : Value} {h h' : vm_H} {a kn an rd wr : Nat} {t : KT} {g g' : Nat → Int32} {m y w ou : List Nat} {kf : Nat → aK} {af : Nat → aA} {D : Nat → Nat} {dn : Bool} {wl : Int} {th : Int32}
/-- one byte more of a list that is written -/
def lis (h : vm_H) (a p j : Nat) (V c0 : Nat → Nat) : Prop := ∃ c', bv h 5880 (a + 90) c' ∧ (∀ q, q < j → c' (p + q) = V q) ∧ ∀ q, q < p → c' q = c0 q
theorem lis_s {p j x : Nat} {V c0 : Nat → Nat} {f : Nat → Int32} {c : Nat → Nat} (vf : ∀ j, j < 5880 → f j = sb (c j) ∧ c j < 256) (v1 : ∀ q, q < j → c (p + q) = V q) (v2 : ∀ q, q < p → c q = c0 q) (hx : x = V j) (hx2 : x < 256) (e : h' = vm_up h (a + 90) (.inl (.byte, 5880, .inl (upd f (p + j) (sb x))))) : lis h' a p (j + 1) V c0 := by
  subst e
  exact ⟨_, bv_up vf hx2, bstp v1 hx, fun q hq => by unfold b1; rw [if_neg (by omega)]; exact v2 q hq⟩
theorem rp_request {z : Int} (h9 : f9.category = 1) (hz : i32 z) (hKI : ∀ i, i < kn → KI (kf i)) (K : RM h a t th w ou kn an rd kf af D dn wl wr) : vm_Met (vm_env l O f9) mX14_request 0 0 [.ref a, .int (iZ z)] h (fun r h' => (r = some (.int (fRq t.2.2.1 t.2.2.2 z w ou kn an kf af).1) ∧ RM h' a t 0 [] (fRq t.2.2.1 t.2.2.2 z w ou kn an kf af).2.1 kn (fRq t.2.2.1 t.2.2.2 z w ou kn an kf af).2.2.1 rd kf (fRq t.2.2.1 t.2.2.2 z w ou kn an kf af).2.2.2 D dn wl wr ∧ fr h h' (RF a))) := by
  suffices H : ∀ Q : Option Value → vm_H → Prop, (∀ r h', (r = some (.int (fRq t.2.2.1 t.2.2.2 z w ou kn an kf af).1) ∧ RM h' a t 0 [] (fRq t.2.2.1 t.2.2.2 z w ou kn an kf af).2.1 kn (fRq t.2.2.1 t.2.2.2 z w ou kn an kf af).2.2.1 rd kf (fRq t.2.2.1 t.2.2.2 z w ou kn an kf af).2.2.2 D dn wl wr ∧ fr h h' (RF a)) → Q r h') → vm_Met (vm_env l O f9) mX14_request 0 0 [.ref a, .int (iZ z)] h Q from H _ (fun _ _ z => z)
  intro Q hQ
  have K0 := K
  obtain ⟨g0, m0, y0, k0, G0, st0⟩ := K
  have wl9 := st0.2.2.2.2.2.1
  have ao := k0.1.2.1
  have la : a < 1099511627776 := by omega
  have l88 : a + 88 < 1099511627776 := by omega
  have l89 : a + 89 < 1099511627776 := by omega
  have l90 : a + 90 < 1099511627776 := by omega
  have l154 : a + 154 < 1099511627776 := by omega
  refine vm_met rfl (Nat.le_of_ble_eq_true rfl) ?_
  refine vm_go rfl bX14_requestx_0 oX14_requestx_0 ⟨_, k0.1.1, 0, 0, _, rp_used K0, Nat.zero_le _, Nat.zero_le _, ?_⟩
  rintro _ h1 ⟨rfl, K1, tw, F1⟩
  have F1' : fr h h1 (RF a) := fr_mono F1 (fun q z => by unfold RF; omega)
  have K1' := K1
  obtain ⟨g, m, y, k, G, st⟩ := K1
  refine vm_Th (lv' := [(0, .ref a), (1, .int (iZ z)), (2, .int (nI w.length))]) (h' := h1) rfl rfl ?_
  have hkn := st.2.2.2.2.2.2.2.1
  have han := st.2.2.2.2.2.2.2.2
  have no3 : ¬ ((0 ≤ z ∧ z < (kn : Int)) ∧ klv (kf z.toNat) = true) → vm_T (vm_env l O f9) mX14_request 0 0 22 [(0, .ref a), (1, .int (iZ z)), (2, .int (nI w.length))] [] h1 Q := fun n => by
    have ef : fRq t.2.2.1 t.2.2.2 z w ou kn an kf af = (-3, ou, an, af) := by unfold fRq; rw [if_neg n]
    rw [ef] at hQ
    exact vm_go rfl bX14_requestx_22 oX14_requestx_22 (hQ _ _ ⟨rfl, K1', F1'⟩)
  refine vm_go rfl bX14_requestx_5 oX14_requestx_5 ⟨_, k.1.1, 0, 0, _, rm_noKey hz hkn k G.2.1, Nat.zero_le _, Nat.zero_le _, ?_⟩
  rintro _ h2 ⟨⟨ok, rfl, hok⟩, e2⟩
  rw [e2]; clear e2 h2
  cases ok with
  | true => exact ⟨fun _ => no3 (fun n => hok.mp rfl n.1), fun q => absurd q (by decide)⟩
  | false =>
  have c : 0 ≤ z ∧ z < (kn : Int) := Classical.not_not.mp (fun n => nomatch hok.mpr n)
  obtain ⟨i, ei⟩ : ∃ i, z.toNat = i := ⟨_, rfl⟩
  have hi : i < kn := by omega
  have ez : iZ z = nI i := by rw [iZ_tn c.1, ei]
  obtain ⟨⟨f1, ef1, v1⟩, ⟨f2, ef2, v2⟩, ⟨cid, bid, vid⟩, _, _, _, ⟨fe, efe, ve⟩, ⟨fl, efl, vl⟩, ⟨fs, efs, vs⟩, _⟩ := id st.1
  refine ⟨fun q => absurd rfl q, fun _ => ⟨_, _, k.1.1, rfl, ⟨6, f2, ef2, i, ez, by omega, fun _ => ?_⟩⟩⟩
  rw [v2 i hi]
  cases elv : klv (kf i) with
  | false => exact ⟨fun q => absurd rfl q, fun _ => no3 (fun n => by rw [ei, elv] at n; exact nomatch n.2)⟩
  | true =>
  refine ⟨fun _ => ?_, fun q => absurd q (by decide)⟩
  rw [ez]
  have cc : (0 ≤ z ∧ z < (kn : Int)) ∧ klv (kf z.toNat) = true := ⟨c, by rw [ei]; exact elv⟩
  have ki := hKI i hi
  obtain ⟨osh, lid, hty, hsz⟩ := KI_sh ki
  have hk1 : kty (kf i) = 1 → ksz (kf i) = 48 ∧ ksa (kf i) = 0 := fun e => by
    obtain ⟨o1, o2, o3, l3, q | q⟩ := id ki
    · exact ⟨q.2.1, q.2.2.1⟩
    · have := q.1; omega
  have hsa : ksa (kf i) ≤ 48 := by
    rcases hty with e | e
    · have := (hk1 e).2; omega
    · obtain ⟨n, N, e', d, t0, kk⟩ := KI_2 ki e
      have := kk.2.2.2.2.2.2.1; omega
  obtain ⟨x, hx⟩ : ∃ x, kf i = x := ⟨_, rfl⟩
  have ef0 : fRq t.2.2.1 t.2.2.2 z w ou kn an kf af = (if w.length = 64 + ksa x + ksz x then (if 60 ≤ an then (-6, ou, an, af) else cif (okB t.2.2.1 t.2.2.2 x w) (nI an, nb (kty x : Nat) 2 ++ [gb (kid x) 31] ++ blF t.2.2.1 t.2.2.2 x w, an + 1, fu af an (i, true, inpF x w, rF x w)) (-4, ou, an, af)) else (-2, ou, an, af)) := by
    unfold fRq; rw [if_pos cc, ei, hx]
  obtain ⟨sz3, esz3⟩ : ∃ sz3, ksa (kf i) + ksz (kf i) = sz3 := ⟨_, rfl⟩
  -- from 53
  have s53 : vm_T (vm_env l O f9) mX14_request 0 0 53 [(0, .ref a), (1, .int (nI i)), (2, .int (nI w.length))] [.int (nI sz3)] h1 Q := by
    refine vm_go rfl bX14_requestx_53 oX14_requestx_53 (vm_Th (lv' := [(0, .ref a), (1, .int (nI i)), (2, .int (nI w.length)), (3, .int (nI sz3))]) (h' := h1) rfl rfl ?_)
    have e64 : (64 : Int32) + nI sz3 = nI (64 + ksa x + ksz x) := by rw [← esz3, hx, Nat.add_assoc]; exact nI_add 64 _
    by_cases hl : w.length = 64 + ksa x + ksz x
    case neg =>
      rw [if_neg hl] at ef0
      rw [ef0] at hQ
      refine vm_go rfl bX14_requestx_54 oX14_requestx_54 ⟨fun q => ?_, fun _ => hQ _ _ ⟨rfl, K1', F1'⟩⟩
      have q : nI w.length = 64 + nI sz3 := q
      rw [hx] at hsa hsz
      rw [e64, nI_ij (by omega) (by omega)] at q
      exact absurd q hl
    rw [if_pos hl] at ef0
    refine vm_go rfl bX14_requestx_54 oX14_requestx_54 ⟨fun _ => ?_, fun q => absurd (show nI w.length = 64 + nI sz3 by rw [e64, hl]) q⟩
    have gk : u3 g (nI ([] : List Nat).length) (nI m.length) (nI y.length) 68 = nI an := G.2.2.1
    by_cases c6 : an = 60
    · rw [if_pos (by omega)] at ef0
      rw [ef0] at hQ
      refine vm_go rfl bX14_requestx_65 oX14_requestx_65 ⟨_, _, k.1.1, rfl, ⟨fun q => absurd (show u3 g (nI ([] : List Nat).length) (nI m.length) (nI y.length) 68 = 60 by rw [gk, c6]; rfl) q, fun _ => hQ _ _ ⟨rfl, K1', F1'⟩⟩⟩
    have ha : an < 60 := by omega
    rw [if_neg (by omega)] at ef0
    have n6 : ¬ u3 g (nI ([] : List Nat).length) (nI m.length) (nI y.length) 68 = nI 60 := by
      rw [gk, nI_ij (by omega) (by decide)]; exact c6
    refine vm_go rfl bX14_requestx_65 oX14_requestx_65 ⟨_, _, k.1.1, rfl, ⟨fun _ => ?_, fun q => absurd q n6⟩⟩
    -- the INPUT
    have e98 : 98 * u3 g (nI ([] : List Nat).length) (nI m.length) (nI y.length) 68 = nI (98 * an) := by rw [gk]; exact nI_mul 98 _
    refine vm_go rfl bX14_requestx_77 oX14_requestx_77 ⟨_, _, k.1.1, rfl, ?_⟩
    refine vm_Th (lv' := [(0, .ref a), (1, .int (nI i)), (2, .int (nI w.length)), (3, .int (nI sz3)), (4, .int (nI (98 * an)))]) (h' := h1) (by rw [← e98]; rfl) rfl ?_
    obtain ⟨ci, bi0, vi0⟩ := st.2.1.2.2.1
    obtain ⟨fi, efi, vfi⟩ := id bi0
    have ht9 : kty x = 2 → kty (kf i) = 2 := fun e => by rw [hx]; exact e
    rw [hx] at hty lid hk1 hsa hsz
    have lw9 : 64 ≤ w.length := by omega
    obtain ⟨li, i0, i1, i2, i3⟩ := inp_0 (w := w) hty lw9 lid
    obtain ⟨inp, hinp⟩ : ∃ inp, inpF x w = inp := ⟨_, rfl⟩
    rw [hinp] at li i0 i1 i2 i3
    refine vm_go rfl bX14_requestx_86 oX14_requestx_86 ⟨_, _, k.1.1, rfl, ⟨5880, fi, efi, l90, 98 * an + 0, rfl, by omega, ?_⟩⟩
    obtain ⟨h2, eh2⟩ : ∃ h2, h2 = vm_up h1 (a + 90) (.inl (.byte, 5880, .inl (upd fi (98 * an + 0) (sb 0)))) := ⟨_, rfl⟩
    have F2 : fr h1 h2 (fun q => q = a + 90) := eh2 ▸ fr_up rfl
    obtain ⟨c2, b2, u2, o2⟩ := lis_s (a := a) (c0 := ci) (V := gb inp) (p := 98 * an) (j := 0) vfi (fun q hq => by omega) (fun q hq => rfl) i0.symm (by decide) eh2
    refine vm_Th (lv' := [(0, .ref a), (1, .int (nI i)), (2, .int (nI w.length)), (3, .int (nI sz3)), (4, .int (nI (98 * an)))]) (h' := h2) rfl (by rw [eh2]; rfl) ?_
    have k2 := SY_off k F2 (fun q z => by omega)
    obtain ⟨fi2, efi2, vfi2⟩ := id b2
    have et : (nI (kty x)).toInt8.toInt32.toInt8.toInt32 = sb (kty x) := by
      rcases hty with e | e <;> rw [e] <;> decide
    refine vm_go rfl bX14_requestx_94 oX14_requestx_94 ⟨_, _, k2.1.1, rfl, ⟨_, _, k2.1.1, rfl, ⟨6, f1, (F2.2 _ (by omega)).trans ef1, i, rfl, by omega, fun _ => ?_⟩⟩⟩
    rw [v1 i hi, hx]
    refine ⟨5880, fi2, efi2, l90, 98 * an + 1, by rw [← nI_1], by omega, ?_⟩
    obtain ⟨h3, eh3⟩ : ∃ h3, h3 = vm_up h2 (a + 90) (.inl (.byte, 5880, .inl (upd fi2 (98 * an + 1) (sb (kty x))))) := ⟨_, rfl⟩
    have F3 : fr h2 h3 (fun q => q = a + 90) := eh3 ▸ fr_up rfl
    have lis3 := lis_s (a := a) (c0 := ci) (V := gb inp) (p := 98 * an) (j := 1) vfi2 u2 o2 i1.symm (by omega) eh3
    refine vm_Th (lv' := [(0, .ref a), (1, .int (nI i)), (2, .int (nI w.length)), (3, .int (nI sz3)), (4, .int (nI (98 * an)))]) (h' := h3) rfl (by rw [eh3, ← et]; rfl) ?_
    have k3 := SY_off k2 F3 (fun q z => by omega)
    refine vm_go rfl bX14_requestx_110 oX14_requestx_110 (vm_Th (lv' := [(0, .ref a), (1, .int (nI i)), (2, .int (nI w.length)), (3, .int (nI sz3)), (4, .int (nI (98 * an))), (5, .int (nI 0))]) (h' := h3) rfl rfl ?_)
    have F13 : fr h1 h3 (fun q => q = a + 90) := fr_trans F2 F3
    obtain ⟨ct, bt, et9⟩ := tw
    obtain ⟨ft, eft, vft⟩ := id bt
    refine vm_loop (fun j h' => SY h' a t g [] m y ∧ lis h' a (98 * an) (2 + j) (gb inp) ci ∧ fr h1 h' (fun q => q = a + 90)) 64 (fun j => [(0, .ref a), (1, .int (nI i)), (2, .int (nI w.length)), (3, .int (nI sz3)), (4, .int (nI (98 * an))), (5, .int (nI j))]) 0 h3 (Nat.zero_le _) ⟨k3, lis3, F13⟩ ?_ ?_
    rotate_left
    · rintro j h7 _ hj ⟨k7, ⟨c7, ⟨f7, ef7, vf7⟩, v7, o7⟩, F7⟩ ih
      have vs9 := vft j (by omega)
      have e9 : nI (98 * an) + 2 + nI j = nI (98 * an + (2 + j)) := by rw [← Nat.add_assoc, ← nI_add, ← nI_add]; rfl
      refine vm_go rfl bX14_requestx_113 oX14_requestx_113 ⟨fun q => absurd q (nI_ge (b := 64) hj (by decide)), fun _ => ⟨_, _, k7.1.1, rfl, ⟨_, _, k7.1.1, rfl, ⟨1208, ft, (F7.2 _ (by omega)).trans eft, j, rfl, by omega, fun _ => ⟨5880, f7, ef7, l90, 98 * an + (2 + j), e9, by omega, ?_⟩⟩⟩⟩⟩
      obtain ⟨h8, eh8⟩ : ∃ h8, h8 = vm_up h7 (a + 90) (.inl (.byte, 5880, .inl (upd f7 (98 * an + (2 + j)) (sb (ct j))))) := ⟨_, rfl⟩
      have F8 : fr h7 h8 (fun q => q = a + 90) := eh8 ▸ fr_up rfl
      have lis8 := lis_s (a := a) (c0 := ci) (V := gb inp) (p := 98 * an) (j := 2 + j) vf7 v7 o7 (by rw [i2 j hj]; exact gb_w et9 (by omega)) vs9.2 eh8
      refine vm_Th (lv' := [(0, .ref a), (1, .int (nI i)), (2, .int (nI w.length)), (3, .int (nI sz3)), (4, .int (nI (98 * an))), (5, .int (nI j))]) (h' := h8) rfl (by rw [eh8, ← sb_self _ vs9.2, ← vs9.1]; rfl) ?_
      refine vm_go rfl bX14_requestx_139 oX14_requestx_139 (vm_Th (by rw [← nI_1 j]; rfl) rfl (ih h8 ⟨SY_off k7 F8 (fun q z => by omega), lis8, fr_trans F7 F8⟩))
    rintro h4 ⟨k4, lis4, F14⟩
    refine vm_go rfl bX14_requestx_113 oX14_requestx_113 ⟨fun _ => ?_, fun q => absurd (nI_le (a := 64) (b := 64) (by decide) (by decide)) q⟩
    refine vm_go rfl bX14_requestx_145 oX14_requestx_145 (vm_Th (lv' := [(0, .ref a), (1, .int (nI i)), (2, .int (nI w.length)), (3, .int (nI sz3)), (4, .int (nI (98 * an))), (5, .int (nI 0))]) (h' := h4) rfl rfl ?_)
    obtain ⟨fd, efd, vfd⟩ := id bid
    refine vm_loop (fun j h' => SY h' a t g [] m y ∧ lis h' a (98 * an) (66 + j) (gb inp) ci ∧ fr h1 h' (fun q => q = a + 90)) 32 (fun j => [(0, .ref a), (1, .int (nI i)), (2, .int (nI w.length)), (3, .int (nI sz3)), (4, .int (nI (98 * an))), (5, .int (nI j))]) 0 h4 (Nat.zero_le _) ⟨k4, lis4, F14⟩ ?_ ?_
    rotate_left
    · rintro j h7 _ hj ⟨k7, ⟨c7, ⟨f7, ef7, vf7⟩, v7, o7⟩, F7⟩ ih
      have vs9 := vfd (32 * i + j) (by omega)
      have e9 : nI (98 * an) + 66 + nI j = nI (98 * an + (66 + j)) := by rw [← Nat.add_assoc, ← nI_add, ← nI_add]; rfl
      refine vm_go rfl bX14_requestx_148 oX14_requestx_148 ⟨fun q => absurd q (nI_ge (b := 32) hj (by decide)), fun _ => ⟨_, _, k7.1.1, rfl, ⟨_, _, k7.1.1, rfl, ⟨192, fd, (F7.2 _ (by omega)).trans efd, 32 * i + j, by rw [← nI_add, ← nI_mul]; rfl, by omega, fun _ => ⟨5880, f7, ef7, l90, 98 * an + (66 + j), e9, by omega, ?_⟩⟩⟩⟩⟩
      obtain ⟨h8, eh8⟩ : ∃ h8, h8 = vm_up h7 (a + 90) (.inl (.byte, 5880, .inl (upd f7 (98 * an + (66 + j)) (sb (cid (32 * i + j)))))) := ⟨_, rfl⟩
      have F8 : fr h7 h8 (fun q => q = a + 90) := eh8 ▸ fr_up rfl
      have lis8 := lis_s (a := a) (c0 := ci) (V := gb inp) (p := 98 * an) (j := 66 + j) vf7 v7 o7 (by rw [i3 j hj, ← hx, ← vid i hi, gb_sl hj]) vs9.2 eh8
      refine vm_Th (lv' := [(0, .ref a), (1, .int (nI i)), (2, .int (nI w.length)), (3, .int (nI sz3)), (4, .int (nI (98 * an))), (5, .int (nI j))]) (h' := h8) rfl (by rw [eh8, ← sb_self _ vs9.2, ← vs9.1]; rfl) ?_
      refine vm_go rfl bX14_requestx_180 oX14_requestx_180 (vm_Th (by rw [← nI_1 j]; rfl) rfl (ih h8 ⟨SY_off k7 F8 (fun q z => by omega), lis8, fr_trans F7 F8⟩))
    rintro h5 ⟨k5, ⟨c5, b5, v5, o5⟩, F15⟩
    refine vm_go rfl bX14_requestx_148 oX14_requestx_148 ⟨fun _ => ?_, fun q => absurd (nI_le (a := 32) (b := 32) (by decide) (by decide)) q⟩
    have es5 : sl c5 (98 * an) 98 = inp := by
      have e9 := sl_of (b := c5) (p := 98 * an) (w := inp) (fun j hj => v5 j (by omega))
      rw [li] at e9
      exact e9
    -- what is left
    have fin : ∀ (h6 : vm_H) (ok : Bool) (m' y' : List Nat), SY h6 a t g [] m' y' → iw h6 64 (a + 92 + an) → fr h5 h6 (fun q => scr a q ∨ q = a + 92 + an) → (ok = true ↔ okB t.2.2.1 t.2.2.2 x w) → (ok = true → wv h6 64 (a + 92 + an) (nlm x) (rF x w) ∧ ((kty x = 1 ∧ ∃ p, SP h6 (a + 163) (some p) ∧ blF t.2.2.1 t.2.2.2 x w = ptb p) ∨ (kty x = 2 ∧ ∃ X, wv h6 64 (a + 159) ((ksz x + 3) / 4) X ∧ blF t.2.2.1 t.2.2.2 x w = wb X (ksz x) ∧ 66 ≤ ksz x))) → vm_T (vm_env l O f9) mX14_request 0 0 212 [(0, .ref a), (1, .int (nI i)), (2, .int (nI w.length)), (3, .int (nI sz3)), (4, .int (nI (98 * an))), (5, .int (nI 32))] [.int (bi ok)] h6 Q := by
      intro h6 ok m' y' k6 i6 F6 hok9 hyes
      have F16 : fr h1 h6 (fun q => scr a q ∨ q = a + 90 ∨ q = a + 92 + an) := fr_trans (fr_mono F15 (fun q z => .inr (.inl z))) (fr_mono F6 (fun q z => z.elim .inl (fun z => .inr (.inr z))))
      have F06 : fr h h6 (RF a) := fr_trans F1' (fr_mono F16 (fun q z => by unfold scr at z; unfold RF; omega))
      have b6 : bv h6 5880 (a + 90) c5 := bv_cg b5 (F6.2 _ (by unfold scr; omega))
      have st6 : ST h6 a kn an kf af D [] ou := ST_ap st ha F16 i6 (fun c9 bc9 => by
        have e9 : ∀ j, j < 5880 → ci j = c9 j := bv_u bi0 bc9
        exact ⟨c5, b6, fun j hj => by rw [o5 j hj]; exact e9 j (by omega)⟩)
      refine vm_go rfl bX14_requestx_212 oX14_requestx_212 (vm_Th (lv' := [(0, .ref a), (1, .int (nI i)), (2, .int (nI w.length)), (3, .int (nI sz3)), (4, .int (nI (98 * an))), (5, .int (bi ok))]) (h' := h6) rfl rfl ?_)
      cases ok with
      | false =>
        rw [cif_f (fun z => nomatch hok9.mpr z)] at ef0
        rw [ef0] at hQ
        exact vm_go rfl bX14_requestx_214 oX14_requestx_214 ⟨fun q => absurd rfl q, fun _ => hQ _ _ ⟨rfl, ⟨_, _, _, k6, G, st6⟩, F06⟩⟩
      | true =>
      have okb := hok9.mp rfl
      rw [cif_t okb] at ef0
      obtain ⟨wR, hB⟩ := hyes rfl
      rw [ef0] at hQ
      refine vm_go rfl bX14_requestx_214 oX14_requestx_214 ⟨fun _ => ?_, fun q => absurd q (by decide)⟩
      obtain ⟨co, bo, eo⟩ := st6.2.2.2.2.1
      obtain ⟨fo, efo, vfo⟩ := id bo
      refine vm_go rfl bX14_requestx_222 oX14_requestx_222 ⟨_, _, k6.1.1, rfl, ⟨2900, fo, efo, l154, 0, rfl, by omega, ?_⟩⟩
      obtain ⟨h7, eh7⟩ : ∃ h7, h7 = vm_up h6 (a + 154) (.inl (.byte, 2900, .inl (upd fo 0 (sb 0)))) := ⟨_, rfl⟩
      have F7 : fr h6 h7 (fun q => q = a + 154) := eh7 ▸ fr_up rfl
      have b7 : bv h7 2900 (a + 154) (b1 co 0 0) := eh7 ▸ bv_up vfo (by decide)
      refine vm_Th (lv' := [(0, .ref a), (1, .int (nI i)), (2, .int (nI w.length)), (3, .int (nI sz3)), (4, .int (nI (98 * an))), (5, .int (bi true))]) (h' := h7) rfl (by rw [eh7]; rfl) ?_
      have k7 := SY_off k6 F7 (fun q z => by omega)
      obtain ⟨fo7, efo7, vfo7⟩ := id b7
      have F17 : fr h1 h7 (fun q => scr a q ∨ q = a + 90 ∨ q = a + 92 + an ∨ q = a + 154) := fr_trans (fr_mono F16 (fun q z => z.elim .inl (fun z => .inr (by omega)))) (fr_mono F7 (fun q z => by omega))
      refine vm_go rfl bX14_requestx_229 oX14_requestx_229 ⟨_, _, k7.1.1, rfl, ⟨_, _, k7.1.1, rfl, ⟨6, f1, (F17.2 _ (by unfold scr; omega)).trans ef1, i, rfl, by omega, fun _ => ?_⟩⟩⟩
      rw [v1 i hi, hx]
      refine ⟨2900, fo7, efo7, l154, 1, rfl, by omega, ?_⟩
      obtain ⟨h8, eh8⟩ : ∃ h8, h8 = vm_up h7 (a + 154) (.inl (.byte, 2900, .inl (upd fo7 1 (sb (kty x))))) := ⟨_, rfl⟩
      have F8 : fr h7 h8 (fun q => q = a + 154) := eh8 ▸ fr_up rfl
      have b8 : bv h8 2900 (a + 154) (b1 (b1 co 0 0) 1 (kty x)) := eh8 ▸ bv_up vfo7 (by omega)
      refine vm_Th (lv' := [(0, .ref a), (1, .int (nI i)), (2, .int (nI w.length)), (3, .int (nI sz3)), (4, .int (nI (98 * an))), (5, .int (bi true))]) (h' := h8) rfl (by rw [eh8, ← et]; rfl) ?_
      have k8 := SY_off k7 F8 (fun q z => by omega)
      obtain ⟨fo8, efo8, vfo8⟩ := id b8
      have F18 : fr h1 h8 (fun q => scr a q ∨ q = a + 90 ∨ q = a + 92 + an ∨ q = a + 154) := fr_trans F17 (fr_mono F8 (fun q z => by omega))
      have vs9 := vfd (32 * i + 31) (by omega)
      refine vm_go rfl bX14_requestx_242 oX14_requestx_242 ⟨_, _, k8.1.1, rfl, ⟨_, _, k8.1.1, rfl, ⟨192, fd, (F18.2 _ (by unfold scr; omega)).trans efd, 32 * i + 31, by rw [← nI_add, ← nI_mul]; rfl, by omega, fun _ => ⟨2900, fo8, efo8, l154, 2, rfl, by omega, ?_⟩⟩⟩⟩
      obtain ⟨h9', eh9⟩ : ∃ h9', h9' = vm_up h8 (a + 154) (.inl (.byte, 2900, .inl (upd fo8 2 (sb (cid (32 * i + 31)))))) := ⟨_, rfl⟩
      have F9 : fr h8 h9' (fun q => q = a + 154) := eh9 ▸ fr_up rfl
      obtain ⟨c9, ec9⟩ : ∃ c9, c9 = b1 (b1 (b1 co 0 0) 1 (kty x)) 2 (cid (32 * i + 31)) := ⟨_, rfl⟩
      have b9 : bv h9' 2900 (a + 154) c9 := by rw [ec9]; exact eh9 ▸ bv_up vfo8 vs9.2
      refine vm_Th (lv' := [(0, .ref a), (1, .int (nI i)), (2, .int (nI w.length)), (3, .int (nI sz3)), (4, .int (nI (98 * an))), (5, .int (bi true))]) (h' := h9') rfl (by rw [eh9, ← sb_self _ vs9.2, ← vs9.1]; rfl) ?_
      have k9 := SY_off k8 F9 (fun q z => by omega)
      have F69 : fr h6 h9' (fun q => q = a + 154) := fr_trans F7 (fr_trans F8 F9)
      have F19 : fr h1 h9' (fun q => scr a q ∨ q = a + 90 ∨ q = a + 92 + an ∨ q = a + 154) := fr_trans F18 (fr_mono F9 (fun q z => by omega))
      have e31 : cid (32 * i + 31) = gb (kid x) 31 := by rw [← hx, ← vid i hi, gb_sl (by decide)]
      have hd9 : sl c9 0 3 = nb (kty x : Nat) 2 ++ [gb (kid x) 31] := by
        rw [nb_two, ec9, e31]
        rcases hty with e | e <;> rw [e] <;> rfl
      -- the last steps
      have last : ∀ (hx9 : vm_H) (c' : Nat → Nat), SY hx9 a t (ug g 77 (nI (3 + (blF t.2.2.1 t.2.2.2 x w).length))) [] m' y' → fr h6 hx9 (fun q => q = a ∨ q = a + 154) → bv hx9 2900 (a + 154) c' → sl c' 3 (blF t.2.2.1 t.2.2.2 x w).length = blF t.2.2.1 t.2.2.2 x w → (∀ j, j < 3 → c' j = c9 j) → (blF t.2.2.1 t.2.2.2 x w).length ≤ 256 → vm_T (vm_env l O f9) mX14_request 0 0 321 [(0, .ref a), (1, .int (nI i)), (2, .int (nI w.length)), (3, .int (nI sz3)), (4, .int (nI (98 * an))), (5, .int (bi true))] [] hx9 Q := by
        intro ha9 c' ka Fa ba e1 e2 lb
        have lo : (nb (kty x : Nat) 2 ++ [gb (kid x) 31] ++ blF t.2.2.1 t.2.2.2 x w).length = 3 + (blF t.2.2.1 t.2.2.2 x w).length := by
          rw [List.length_append, List.length_append, nb_len]; rfl
        have eo9 : sl c' 0 (3 + (blF t.2.2.1 t.2.2.2 x w).length) = nb (kty x : Nat) 2 ++ [gb (kid x) 31] ++ blF t.2.2.1 t.2.2.2 x w := by
          rw [sl_app, Nat.zero_add, e1, ← hd9]
          congr 1
          exact sl_ext (fun j hj => by rw [Nat.zero_add, e2 j hj])
        have sta : ST ha9 a kn an kf af D [] (nb (kty x : Nat) 2 ++ [gb (kid x) 31] ++ blF t.2.2.1 t.2.2.2 x w) := ST_ou st6 Fa (fun q z => by unfold scr; omega) ⟨c', ba, by rw [lo]; exact eo9⟩ (by omega)
        obtain ⟨⟨g1, a1, x1⟩, ⟨g2, a2, x2⟩, ⟨g3, a3, x3⟩, a4, a5, a6⟩ := id sta.2.1
        have gka : u3 (ug g 77 (nI (3 + (blF t.2.2.1 t.2.2.2 x w).length))) (nI ([] : List Nat).length) (nI m'.length) (nI y'.length) 68 = nI an := G.2.2.1
        refine vm_go rfl bX14_requestx_321 oX14_requestx_321 ⟨_, _, ka.1.1, rfl, ⟨_, _, ka.1.1, rfl, ⟨60, g1, a1, l88, an, gka, ha, ?_⟩⟩⟩
        obtain ⟨hb, ehb⟩ : ∃ hb, hb = vm_up ha9 (a + 88) (.inl (.int, 60, .inl (upd g1 an (nI i)))) := ⟨_, rfl⟩
        have Fb : fr ha9 hb (fun q => q = a + 88) := ehb ▸ fr_up rfl
        have tb : ia hb 60 (a + 88) (upd g1 an (nI i)) := by rw [ehb]; exact vm_upe
        refine vm_Th (lv' := [(0, .ref a), (1, .int (nI i)), (2, .int (nI w.length)), (3, .int (nI sz3)), (4, .int (nI (98 * an))), (5, .int (bi true))]) (h' := hb) rfl ehb ?_
        have kb := SY_off ka Fb (fun q z => by omega)
        refine vm_go rfl bX14_requestx_331 oX14_requestx_331 ⟨_, _, kb.1.1, rfl, ⟨_, _, kb.1.1, rfl, ⟨60, g2, (Fb.2 _ (by omega)).trans a2, l89, an, gka, ha, ?_⟩⟩⟩
        obtain ⟨hc, ehc⟩ : ∃ hc, hc = vm_up hb (a + 89) (.inl (.boolean, 60, .inl (upd g2 an 1))) := ⟨_, rfl⟩
        have Fc : fr hb hc (fun q => q = a + 89) := ehc ▸ fr_up rfl
        have tc : bo9 hc 60 (a + 89) (upd g2 an 1) := by rw [ehc]; exact vm_upe
        refine vm_Th (lv' := [(0, .ref a), (1, .int (nI i)), (2, .int (nI w.length)), (3, .int (nI sz3)), (4, .int (nI (98 * an))), (5, .int (bi true))]) (h' := hc) rfl ehc ?_
        have kc := SY_off kb Fc (fun q z => by omega)
        refine vm_go rfl bX14_requestx_341 oX14_requestx_341 ⟨_, _, kc.1.1, rfl, ⟨_, kc.1.1, la, show 68 < 89 by decide, trivial, ?_⟩⟩
        obtain ⟨hd, ehd⟩ : ∃ hd, hd = vm_up hc a (RO a (u3 (ug (ug g 77 (nI (3 + (blF t.2.2.1 t.2.2.2 x w).length))) 68 (nI (an + 1))) (nI ([] : List Nat).length) (nI m'.length) (nI y'.length))) := ⟨_, rfl⟩
        obtain ⟨kd, Fd⟩ := SY_g kc ehd
        refine vm_Th (lv' := [(0, .ref a), (1, .int (nI i)), (2, .int (nI w.length)), (3, .int (nI sz3)), (4, .int (nI (98 * an))), (5, .int (bi true))]) (h' := hd) rfl (by rw [ehd, ← nI_1 an, ← gka]; rfl) ?_
        have Fad : fr ha9 hd (fun q => q = a ∨ q = a + 88 ∨ q = a + 89) := fr_trans (fr_mono Fb (fun q z => by omega)) (fr_trans (fr_mono Fc (fun q z => by omega)) (fr_mono Fd (fun q z => by omega)))
        have F6d : fr h6 hd (fun q => q = a ∨ q = a + 154 ∨ q = a + 88 ∨ q = a + 89) := fr_trans (fr_mono Fa (fun q z => by omega)) (fr_mono Fad (fun q z => by omega))
        have go9 : ∀ (P : Nat → aA → Prop), (∀ j, j < an → P j (af j)) → P an (i, true, inpF x w, rF x w) → ∀ j, j < an + 1 → P j (fu af an (i, true, inpF x w, rF x w) j) := fun P p1 p2 j hj => by
          by_cases c : j = an
          · rw [c, fu_e]; exact p2
          · rw [fu_n c]; exact p1 j (by omega)
        have std : ST hd a kn (an + 1) kf (fu af an (i, true, inpF x w, rF x w)) D [] (nb (kty x : Nat) 2 ++ [gb (kid x) 31] ++ blF t.2.2.1 t.2.2.2 x w) := by
          obtain ⟨sk9, _, q3, q4, q5, q6, q7, q8, q9⟩ := sta
          refine ⟨SK_cg sk9 q8 (fun q z => Fad.2 q (by omega)), ⟨⟨_, ia_cg9 tb ((Fd.2 _ (by omega)).trans (Fc.2 _ (by omega))), go9 (fun j v => upd g1 an (nI i) j = nI (aky v)) (fun j hj => by rw [upd_n (by omega)]; exact x1 j hj) upd_e⟩, ⟨_, (Fd.2 _ (by omega)).trans tc, go9 (fun j v => upd g2 an 1 j = bi (aop v)) (fun j hj => by rw [upd_n (by omega)]; exact x2 j hj) upd_e⟩, ⟨g3, bv_cg a3 (Fad.2 _ (by omega)), go9 (fun j v => sl g3 (98 * j) 98 = ain v) x3 ?_⟩, rr9_cg a4 (Fad.2 _ (by omega)), fun j hj => iw_cg (a5 j hj) (Fad.2 _ (by omega)), go9 (fun j v => aky v < kn ∧ wv hd 64 (a + 92 + j) (nlm (kf (aky v))) (abl v)) (fun j hj => ⟨(a6 j hj).1, wv_cg (a6 j hj).2 (Fad.2 _ (by omega))⟩) ⟨hi, by rw [show kf (aky (i, true, inpF x w, rF x w)) = x from hx]; exact wv_cg wR (F6d.2 _ (by omega))⟩⟩, bv_cg q3 (Fad.2 _ (by omega)), rl9_cg q4 (Fad.2 _ (by omega)), rl9_cg q5 (Fad.2 _ (by omega)), q6, q7, q8, ha⟩
          have e9 : ∀ j, j < 5880 → g3 j = c5 j := bv_u (bv_cg a3 (Fa.2 (a + 90) (by omega)).symm) b6
          show sl g3 (98 * an) 98 = inpF x w
          rw [hinp, ← es5]
          exact sl_ext (fun j hj => e9 _ (by omega))
        refine vm_go rfl bX14_requestx_351 oX14_requestx_351 ⟨_, _, kd.1.1, rfl, ?_⟩
        have er : nI (an + 1) - 1 = nI an := by
          have := nI_sub (a := an + 1) (b := 1) (by omega)
          rw [Nat.add_sub_cancel] at this
          exact this
        refine hQ _ _ ⟨congrArg (fun v => some (Value.int v)) er, ⟨_, _, _, kd, ⟨G.1, G.2.1, rfl, G.2.2.2.1, G.2.2.2.2.1, G.2.2.2.2.2.1, G.2.2.2.2.2.2.1, G.2.2.2.2.2.2.2.1, by rw [lo]; rfl⟩, std⟩, fr_trans F06 (fr_mono F6d (fun q z => by unfold RF; omega))⟩
      obtain ⟨hB | hB, hB2⟩ : (_ ∨ _) ∧ True := ⟨hB, trivial⟩
      · obtain ⟨ht, p, sp, eb⟩ := hB
        refine vm_go rfl bX14_requestx_260 oX14_requestx_260 ⟨_, _, k9.1.1, rfl, ⟨6, f1, (F19.2 _ (by unfold scr; omega)).trans ef1, i, rfl, by omega, fun _ => ?_⟩⟩
        rw [v1 i hi, hx, ht]
        refine ⟨fun q => absurd rfl q, fun _ => ⟨_, _, k9.1.1, rfl, ⟨_, _, k9.1.1, rfl, ⟨0, 0, _, rm_bytes (at9 := 3) (SP_fr sp F69 (fun q z1 z2 => by omega)) b9 l154 (by decide) (by decide), Nat.zero_le _, Nat.zero_le _, ?_⟩⟩⟩⟩
        rintro _ ha9 ⟨rfl, ⟨ca, ba, ea, oa⟩, Fa⟩
        have ka := SY_off k9 Fa (fun q z => by omega)
        refine ⟨_, ka.1.1, la, show 77 < 89 by decide, trivial, ?_⟩
        have lb : (blF t.2.2.1 t.2.2.2 x w).length = 49 := by rw [eb]; exact ptb_len
        obtain ⟨hb, ehb⟩ : ∃ hb, hb = vm_up ha9 a (RO a (u3 (ug g 77 (nI (3 + (blF t.2.2.1 t.2.2.2 x w).length))) (nI ([] : List Nat).length) (nI m'.length) (nI y'.length))) := ⟨_, rfl⟩
        obtain ⟨kb, Fb⟩ := SY_g ka ehb
        refine vm_Th (lv' := [(0, .ref a), (1, .int (nI i)), (2, .int (nI w.length)), (3, .int (nI sz3)), (4, .int (nI (98 * an))), (5, .int (bi true))]) (h' := hb) rfl (by rw [ehb, lb]; rfl) ?_
        refine vm_go rfl bX14_requestx_288 oX14_requestx_288 (last hb ca kb (fr_trans (fr_mono F69 (fun q z => .inr z)) (fr_trans (fr_mono Fa (fun q z => .inr z)) (fr_mono Fb (fun q z => .inl z)))) (bv_cg ba (Fb.2 _ (by omega))) (by rw [lb, ea, eb]) (fun j hj => oa j (by omega)) (by omega))
      · obtain ⟨ht, X, wX, eb, hsz2⟩ := hB
        refine vm_go rfl bX14_requestx_260 oX14_requestx_260 ⟨_, _, k9.1.1, rfl, ⟨6, f1, (F19.2 _ (by unfold scr; omega)).trans ef1, i, rfl, by omega, fun _ => ?_⟩⟩
        rw [v1 i hi, hx, ht]
        refine ⟨fun _ => ?_, fun q => absurd q (show ¬ nI 2 = 1 by decide)⟩
        have efl9 := (F19.2 _ (by unfold scr; omega)).trans efl
        refine vm_go rfl bX14_requestx_291 oX14_requestx_291 ⟨_, _, k9.1.1, rfl, ⟨_, _, k9.1.1, rfl, ⟨_, _, k9.1.1, rfl, ⟨6, fl, efl9, i, rfl, by omega, fun _ => ?_⟩⟩⟩⟩
        rw [vl i hi, hx]
        refine ⟨0, 0, _, rm_store (at9 := 3) (size := ksz x) (n := (ksz x + 3) / 4) (wv_cg wX (F69.2 _ (by omega))) (by omega) b9 l154 (by omega) (by omega) (by omega) (by decide), Nat.zero_le _, Nat.zero_le _, ?_⟩
        rintro _ ha9 ⟨rfl, ⟨ca, ba, ea, oa⟩, Fa⟩
        have ka := SY_off k9 Fa (fun q z => by omega)
        refine ⟨_, _, ka.1.1, rfl, ⟨6, fl, (Fa.2 _ (by omega)).trans efl9, i, rfl, by omega, fun _ => ?_⟩⟩
        rw [vl i hi, hx]
        refine ⟨_, ka.1.1, la, show 77 < 89 by decide, trivial, ?_⟩
        have lb : (blF t.2.2.1 t.2.2.2 x w).length = ksz x := by rw [eb]; exact wb_len
        obtain ⟨hb, ehb⟩ : ∃ hb, hb = vm_up ha9 a (RO a (u3 (ug g 77 (nI (3 + (blF t.2.2.1 t.2.2.2 x w).length))) (nI ([] : List Nat).length) (nI m'.length) (nI y'.length))) := ⟨_, rfl⟩
        obtain ⟨kb, Fb⟩ := SY_g ka ehb
        refine vm_Th (lv' := [(0, .ref a), (1, .int (nI i)), (2, .int (nI w.length)), (3, .int (nI sz3)), (4, .int (nI (98 * an))), (5, .int (bi true))]) (h' := hb) rfl (by rw [ehb, lb, ← nI_add]; rfl) ?_
        exact last hb ca kb (fr_trans (fr_mono F69 (fun q z => .inr z)) (fr_trans (fr_mono Fa (fun q z => .inr z)) (fr_mono Fb (fun q z => .inl z)))) (bv_cg ba (Fb.2 _ (by omega))) (by rw [lb, ea, eb]) (fun j hj => oa j (by omega)) (by omega)
    have rr5 : rr9 h5 (.array .int) 60 (a + 91) (fun i => a + 92 + i) := rr9_cg st.2.1.2.2.2.1 (F15.2 _ (by omega))
    have ir5 : iw h5 64 (a + 92 + an) := iw_cg (st.2.1.2.2.2.2.1 an ha) (F15.2 _ (by omega))
    have bt5 : bv h5 1208 (a + 153) ct := bv_cg bt (F15.2 _ (by omega))
    have ef15 := (F15.2 (a + 73) (by omega)).trans ef1
    rcases id hty with ht | ht
    · refine vm_go rfl bX14_requestx_186 oX14_requestx_186 ⟨_, _, k5.1.1, rfl, ⟨6, f1, ef15, i, rfl, by omega, fun _ => ?_⟩⟩
      rw [v1 i hi, hx, ht]
      have hr : bn ct 64 48 = rF x w := by
        unfold rF
        rw [if_pos ht]
        exact bn_w et9 (by have := (hk1 ht).1; omega)
      refine ⟨fun q => absurd rfl q, fun _ => ⟨_, k5.1.1, 0, 0, _, rm_blindsOne (R := rF x w) h9 k5 G.2.2.1 ha bt5 hr b5 es5 rr5 ir5, Nat.zero_le _, Nat.zero_le _, ?_⟩⟩
      rintro _ h6 ⟨⟨ok, m', y', rfl, k6, hok6, hyes⟩, i6, F6⟩
      rw [← hinp] at hok6 hyes
      refine fin h6 ok m' y' k6 i6 F6 (hok6.trans ⟨fun z => .inl ⟨ht, z⟩, fun z => z.elim (fun z => z.2) (fun z => by have := z.1; omega)⟩) (fun e => ?_)
      obtain ⟨sp, wr9⟩ := hyes e
      have hne := (hok6.mp e).2
      obtain ⟨p, ep⟩ := Option.ne_none_iff_exists'.mp hne
      rw [ep] at sp
      refine ⟨by unfold nlm; rw [if_pos ht]; exact wr9, .inl ⟨ht, p, sp, ?_⟩⟩
      unfold blF
      rw [if_pos ht, ep]; rfl
    · obtain ⟨n, N, e', d, t0, kk⟩ := KI_2 ki (ht9 ht)
      have kk9 := kk
      obtain ⟨⟨ql1, ql2, qn⟩, ⟨qN, qe, _, qt⟩, _⟩ := kk9
      refine vm_go rfl bX14_requestx_186 oX14_requestx_186 ⟨_, _, k5.1.1, rfl, ⟨6, f1, ef15, i, rfl, by omega, fun _ => ?_⟩⟩
      rw [v1 i hi, hx, ht]
      refine ⟨fun _ => ?_, fun q => absurd q (show ¬ nI 2 = 1 by decide)⟩
      have hr : bn ct (64 + ksa (kf i)) (ksz (kf i)) = rF x w := by
        unfold rF
        rw [if_neg (by omega), hx]
        exact bn_w et9 (by omega)
      have hE : eF t.2.2.1 t.2.2.2 x w = bn (gb (EM t.2.2.1 t.2.2.2 (ksz (kf i)) t0 (ksa (kf i)) inp (sl ct 64 (ksa (kf i))))) 0 (ksz (kf i)) := by
        unfold eF
        rw [hinp, hx, qt, hx, sl_w et9 (by omega)]
      have sk5 : SK h5 a kn kf := SK_cg st.1 hkn (fun q z => F15.2 q (by omega))
      refine vm_go rfl bX14_requestx_205 oX14_requestx_205 ⟨_, k5.1.1, 0, 0, _, rm_blindsTwo (R := rF x w) k5 G.2.2.1 ha sk5 hkn hi (by rw [hx]; exact ht) kk bt5 hr b5 es5 hE rr5 ir5, Nat.zero_le _, Nat.zero_le _, ?_⟩
      rintro _ h6 ⟨⟨ok, rfl, k6, hok6, hyes⟩, i6, F6⟩
      rw [hx] at qN qe qn ql1
      refine fin h6 ok _ _ k6 i6 F6 (hok6.trans ⟨fun z => .inr ⟨ht, by rw [← qN]; exact z⟩, fun z => z.elim (fun z => by have := z.1; omega) (fun z => by rw [qN]; exact z.2)⟩) (fun e => ?_)
      obtain ⟨wX, wr9⟩ := hyes e
      refine ⟨by unfold nlm; rw [if_neg (by omega), ← qn]; exact wr9, .inr ⟨ht, _, by rw [← qn]; exact wX, ?_, ql1⟩⟩
      unfold blF
      rw [if_neg (by omega), ← qN, ← qe]
  rcases hty with ht | ht
  · refine vm_go rfl bX14_requestx_25 oX14_requestx_25 ⟨_, _, k.1.1, rfl, ⟨6, f1, ef1, i, rfl, by omega, fun _ => ?_⟩⟩
    rw [v1 i hi, ht]
    have e48 : nI sz3 = 48 := by rw [← esz3, (hk1 ht).1, (hk1 ht).2]; rfl
    rw [e48] at s53
    exact ⟨fun q => absurd rfl q, fun _ => s53⟩
  · refine vm_go rfl bX14_requestx_25 oX14_requestx_25 ⟨_, _, k.1.1, rfl, ⟨6, f1, ef1, i, rfl, by omega, fun _ => ?_⟩⟩
    rw [v1 i hi, ht]
    refine ⟨fun _ => ?_, fun q => absurd q (show ¬ nI 2 = 1 by decide)⟩
    refine vm_go rfl bX14_requestx_40 oX14_requestx_40 ⟨_, _, k.1.1, rfl, ⟨6, fs, efs, i, rfl, by omega, fun _ => ⟨_, _, k.1.1, rfl, ⟨6, fl, efl, i, rfl, by omega, fun _ => ?_⟩⟩⟩⟩
    rw [vs i hi ht, vl i hi]
    rw [← esz3, ← nI_add] at s53
    exact s53
end
