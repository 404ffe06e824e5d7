/-! the reference: isSigned -/
def bX14_isSignedx_0 : List vm_J := [(1, .aload_n 0, 0, 0, 0, .null), (3, .getfield 461, 14, 59, 0, .null), (1, .iload_n 1, 0, 0, 0, .null), (1, .aaload, 0, 0, 0, .null), (2, .astore 5, 0, 0, 0, .null)]
set_option maxRecDepth 20000 in
theorem oX14_isSignedx_0 : vm_okB 14 mX14_isSigned 0 bX14_isSignedx_0 = true := by decide +kernel
def bX14_isSignedx_8 : List vm_J := [(2, .aload 4, 0, 0, 0, .null), (2, .aload 5, 0, 0, 0, .null), (3, .getfield 22, 12, 0, 0, .null), (2, .aload 5, 0, 0, 0, .null), (3, .getfield 13, 12, 2, 0, .null), (3, .invokestatic 26, 139, 3, 0, .null), (3, .ifCond .lt 5, 28, 0, 0, .null), (1, .iconst 0, 0, 0, 0, .int 0), (1, .ireturn, 0, 0, 0, .null)]
set_option maxRecDepth 20000 in
theorem oX14_isSignedx_8 : vm_okB 14 mX14_isSigned 8 bX14_isSignedx_8 = true := by decide +kernel
def bX14_isSignedx_28 : List vm_J := [(1, .aload_n 0, 0, 0, 0, .null), (1, .iload_n 1, 0, 0, 0, .null), (2, .aload 4, 0, 0, 0, .null), (1, .aload_n 0, 0, 0, 0, .null), (3, .getfield 513, 14, 83, 0, .null), (3, .invokevirtual 560, 198, 3, 14, .null), (2, .aload 5, 0, 0, 0, .null), (3, .invokestatic 546, 195, 1, 0, .null), (2, .istore 6, 0, 0, 0, .null)]
set_option maxRecDepth 20000 in
theorem oX14_isSignedx_28 : vm_okB 14 mX14_isSigned 28 bX14_isSignedx_28 = true := by decide +kernel
def bX14_isSignedx_46 : List vm_J := [(2, .iload 6, 0, 0, 0, .null), (2, .istore 7, 0, 0, 0, .null)]
set_option maxRecDepth 20000 in
theorem oX14_isSignedx_46 : vm_okB 14 mX14_isSigned 46 bX14_isSignedx_46 = true := by decide +kernel
def bX14_isSignedx_50 : List vm_J := [(2, .iload 7, 0, 0, 0, .null), (1, .iconst 4, 0, 0, 0, .int 4), (2, .aload 5, 0, 0, 0, .null), (3, .getfield 13, 12, 2, 0, .null), (1, .imul, 0, 0, 0, .null), (3, .if_icmp .ge 35, 94, 0, 0, .null), (1, .aload_n 0, 0, 0, 0, .null), (3, .getfield 513, 14, 83, 0, .null), (2, .iload 7, 0, 0, 0, .null), (1, .iconst 4, 0, 0, 0, .int 4), (1, .idiv, 0, 0, 0, .null), (1, .iaload, 0, 0, 0, .null), (2, .bipush 8, 0, 0, 0, .int 8), (2, .iload 7, 0, 0, 0, .null), (1, .iconst 4, 0, 0, 0, .int 4), (1, .irem, 0, 0, 0, .null), (1, .imul, 0, 0, 0, .null), (1, .iushr, 0, 0, 0, .null), (3, .sipush 255, 0, 0, 0, .int 255), (1, .iand, 0, 0, 0, .null), (3, .ifCond .eq 5, 88, 0, 0, .null), (1, .iconst 0, 0, 0, 0, .int 0), (1, .ireturn, 0, 0, 0, .null)]
set_option maxRecDepth 20000 in
theorem oX14_isSignedx_50 : vm_okB 14 mX14_isSigned 50 bX14_isSignedx_50 = true := by decide +kernel
def bX14_isSignedx_88 : List vm_J := [(3, .iinc 7 1, 0, 0, 0, .int 1), (3, .goto (-41), 50, 0, 0, .null)]
set_option maxRecDepth 20000 in
theorem oX14_isSignedx_88 : vm_okB 14 mX14_isSigned 88 bX14_isSignedx_88 = true := by decide +kernel
def bX14_isSignedx_94 : List vm_J := [(1, .aload_n 0, 0, 0, 0, .null), (3, .getfield 513, 14, 83, 0, .null), (1, .aload_n 0, 0, 0, 0, .null), (3, .getfield 498, 14, 78, 0, .null), (1, .iconst 0, 0, 0, 0, .int 0), (2, .iload 6, 0, 0, 0, .null), (3, .invokestatic 192, 156, 4, 0, .null), (2, .iload 6, 0, 0, 0, .null), (2, .bipush 49, 0, 0, 0, .int 49), (1, .isub, 0, 0, 0, .null), (2, .istore 7, 0, 0, 0, .null)]
set_option maxRecDepth 20000 in
theorem oX14_isSignedx_94 : vm_okB 14 mX14_isSigned 94 bX14_isSignedx_94 = true := by decide +kernel
def bX14_isSignedx_115 : List vm_J := [(1, .aload_n 0, 0, 0, 0, .null), (3, .getfield 471, 14, 62, 0, .null), (1, .iload_n 1, 0, 0, 0, .null), (1, .iaload, 0, 0, 0, .null), (2, .istore 8, 0, 0, 0, .null)]
set_option maxRecDepth 20000 in
theorem oX14_isSignedx_115 : vm_okB 14 mX14_isSigned 115 bX14_isSignedx_115 = true := by decide +kernel
def bX14_isSignedx_123 : List vm_J := [(1, .aload_n 0, 0, 0, 0, .null), (3, .getfield 498, 14, 78, 0, .null), (2, .iload 6, 0, 0, 0, .null), (1, .iconst 1, 0, 0, 0, .int 1), (1, .isub, 0, 0, 0, .null), (1, .baload, 0, 0, 0, .null), (2, .bipush (-68), 0, 0, 0, .int (-68)), (3, .if_icmp .ne 24, 158, 0, 0, .null), (1, .aload_n 0, 0, 0, 0, .null), (3, .getfield 498, 14, 78, 0, .null), (1, .iconst 0, 0, 0, 0, .int 0), (1, .baload, 0, 0, 0, .null), (2, .aload 5, 0, 0, 0, .null), (3, .invokestatic 557, 196, 1, 0, .null), (1, .iconst (-1), 0, 0, 0, .int (-1)), (1, .ixor, 0, 0, 0, .null), (1, .iand, 0, 0, 0, .null), (3, .sipush 255, 0, 0, 0, .int 255), (1, .iand, 0, 0, 0, .null), (3, .ifCond .eq 5, 160, 0, 0, .null)]
set_option maxRecDepth 20000 in
theorem oX14_isSignedx_123 : vm_okB 14 mX14_isSigned 123 bX14_isSignedx_123 = true := by decide +kernel
def bX14_isSignedx_158 : List vm_J := [(1, .iconst 0, 0, 0, 0, .int 0), (1, .ireturn, 0, 0, 0, .null)]
set_option maxRecDepth 20000 in
theorem oX14_isSignedx_158 : vm_okB 14 mX14_isSigned 158 bX14_isSignedx_158 = true := by decide +kernel
def bX14_isSignedx_160 : List vm_J := [(1, .aload_n 0, 0, 0, 0, .null), (1, .aload_n 0, 0, 0, 0, .null), (3, .getfield 498, 14, 78, 0, .null), (2, .iload 7, 0, 0, 0, .null), (2, .iload 7, 0, 0, 0, .null), (3, .invokevirtual 554, 194, 3, 14, .null), (1, .iconst 0, 0, 0, 0, .int 0), (2, .istore 9, 0, 0, 0, .null)]
set_option maxRecDepth 20000 in
theorem oX14_isSignedx_160 : vm_okB 14 mX14_isSigned 160 bX14_isSignedx_160 = true := by decide +kernel
def bX14_isSignedx_175 : List vm_J := [(2, .iload 9, 0, 0, 0, .null), (2, .iload 7, 0, 0, 0, .null), (3, .if_icmp .ge 27, 206, 0, 0, .null), (1, .aload_n 0, 0, 0, 0, .null), (3, .getfield 498, 14, 78, 0, .null), (2, .iload 9, 0, 0, 0, .null), (1, .dup2, 0, 0, 0, .null), (1, .baload, 0, 0, 0, .null), (1, .aload_n 0, 0, 0, 0, .null), (3, .getfield 501, 14, 79, 0, .null), (2, .iload 9, 0, 0, 0, .null), (1, .baload, 0, 0, 0, .null), (1, .ixor, 0, 0, 0, .null), (1, .i2b, 0, 0, 0, .null), (1, .bastore, 0, 0, 0, .null)]
set_option maxRecDepth 20000 in
theorem oX14_isSignedx_175 : vm_okB 14 mX14_isSigned 175 bX14_isSignedx_175 = true := by decide +kernel
def bX14_isSignedx_200 : List vm_J := [(3, .iinc 9 1, 0, 0, 0, .int 1), (3, .goto (-28), 175, 0, 0, .null)]
set_option maxRecDepth 20000 in
theorem oX14_isSignedx_200 : vm_okB 14 mX14_isSigned 200 bX14_isSignedx_200 = true := by decide +kernel
def bX14_isSignedx_206 : List vm_J := [(1, .aload_n 0, 0, 0, 0, .null), (3, .getfield 498, 14, 78, 0, .null), (1, .iconst 0, 0, 0, 0, .int 0), (1, .dup2, 0, 0, 0, .null), (1, .baload, 0, 0, 0, .null), (2, .aload 5, 0, 0, 0, .null), (3, .invokestatic 557, 196, 1, 0, .null), (1, .i2b, 0, 0, 0, .null), (1, .iand, 0, 0, 0, .null), (1, .i2b, 0, 0, 0, .null), (1, .bastore, 0, 0, 0, .null)]
set_option maxRecDepth 20000 in
theorem oX14_isSignedx_206 : vm_okB 14 mX14_isSigned 206 bX14_isSignedx_206 = true := by decide +kernel
def bX14_isSignedx_222 : List vm_J := [(1, .iconst 0, 0, 0, 0, .int 0), (2, .istore 9, 0, 0, 0, .null)]
set_option maxRecDepth 20000 in
theorem oX14_isSignedx_222 : vm_okB 14 mX14_isSigned 222 bX14_isSignedx_222 = true := by decide +kernel
def bX14_isSignedx_225 : List vm_J := [(2, .iload 9, 0, 0, 0, .null), (2, .iload 7, 0, 0, 0, .null), (2, .iload 8, 0, 0, 0, .null), (1, .isub, 0, 0, 0, .null), (1, .iconst 1, 0, 0, 0, .int 1), (1, .isub, 0, 0, 0, .null), (3, .if_icmp .ge 21, 255, 0, 0, .null), (1, .aload_n 0, 0, 0, 0, .null), (3, .getfield 498, 14, 78, 0, .null), (2, .iload 9, 0, 0, 0, .null), (1, .baload, 0, 0, 0, .null), (3, .ifCond .eq 5, 249, 0, 0, .null), (1, .iconst 0, 0, 0, 0, .int 0), (1, .ireturn, 0, 0, 0, .null)]
set_option maxRecDepth 20000 in
theorem oX14_isSignedx_225 : vm_okB 14 mX14_isSigned 225 bX14_isSignedx_225 = true := by decide +kernel
def bX14_isSignedx_249 : List vm_J := [(3, .iinc 9 1, 0, 0, 0, .int 1), (3, .goto (-27), 225, 0, 0, .null)]
set_option maxRecDepth 20000 in
theorem oX14_isSignedx_249 : vm_okB 14 mX14_isSigned 249 bX14_isSignedx_249 = true := by decide +kernel
def bX14_isSignedx_255 : List vm_J := [(1, .aload_n 0, 0, 0, 0, .null), (3, .getfield 498, 14, 78, 0, .null), (2, .iload 7, 0, 0, 0, .null), (2, .iload 8, 0, 0, 0, .null), (1, .isub, 0, 0, 0, .null), (1, .iconst 1, 0, 0, 0, .int 1), (1, .isub, 0, 0, 0, .null), (1, .baload, 0, 0, 0, .null), (1, .iconst 1, 0, 0, 0, .int 1), (3, .if_icmp .eq 5, 273, 0, 0, .null), (1, .iconst 0, 0, 0, 0, .int 0), (1, .ireturn, 0, 0, 0, .null)]
set_option maxRecDepth 20000 in
theorem oX14_isSignedx_255 : vm_okB 14 mX14_isSigned 255 bX14_isSignedx_255 = true := by decide +kernel
def bX14_isSignedx_273 : List vm_J := [(1, .aload_n 0, 0, 0, 0, .null), (1, .aload_n 2, 0, 0, 0, .null), (1, .iload_n 3, 0, 0, 0, .null), (1, .aload_n 0, 0, 0, 0, .null), (3, .getfield 498, 14, 78, 0, .null), (2, .iload 7, 0, 0, 0, .null), (2, .iload 8, 0, 0, 0, .null), (1, .isub, 0, 0, 0, .null), (2, .iload 8, 0, 0, 0, .null), (3, .invokevirtual 550, 193, 5, 14, .null), (1, .iconst 1, 0, 0, 0, .int 1), (2, .istore 9, 0, 0, 0, .null)]
set_option maxRecDepth 20000 in
theorem oX14_isSignedx_273 : vm_okB 14 mX14_isSigned 273 bX14_isSignedx_273 = true := by decide +kernel
def bX14_isSignedx_293 : List vm_J := [(1, .iconst 0, 0, 0, 0, .int 0), (2, .istore 10, 0, 0, 0, .null)]
set_option maxRecDepth 20000 in
theorem oX14_isSignedx_293 : vm_okB 14 mX14_isSigned 293 bX14_isSignedx_293 = true := by decide +kernel
def bX14_isSignedx_296 : List vm_J := [(2, .iload 10, 0, 0, 0, .null), (2, .bipush 48, 0, 0, 0, .int 48), (3, .if_icmp .ge 41, 341, 0, 0, .null), (2, .iload 9, 0, 0, 0, .null), (3, .ifCond .eq 27, 332, 0, 0, .null), (1, .aload_n 0, 0, 0, 0, .null), (3, .getfield 504, 14, 80, 0, .null), (2, .iload 10, 0, 0, 0, .null), (1, .baload, 0, 0, 0, .null), (1, .aload_n 0, 0, 0, 0, .null), (3, .getfield 498, 14, 78, 0, .null), (2, .iload 7, 0, 0, 0, .null), (2, .iload 10, 0, 0, 0, .null), (1, .iadd, 0, 0, 0, .null), (1, .baload, 0, 0, 0, .null), (3, .if_icmp .ne 7, 332, 0, 0, .null), (1, .iconst 1, 0, 0, 0, .int 1), (3, .goto 4, 333, 0, 0, .null)]
set_option maxRecDepth 20000 in
theorem oX14_isSignedx_296 : vm_okB 14 mX14_isSigned 296 bX14_isSignedx_296 = true := by decide +kernel
def bX14_isSignedx_332 : List vm_J := [(1, .iconst 0, 0, 0, 0, .int 0)]
set_option maxRecDepth 20000 in
theorem oX14_isSignedx_332 : vm_okB 14 mX14_isSigned 332 bX14_isSignedx_332 = true := by decide +kernel
def bX14_isSignedx_333 : List vm_J := [(2, .istore 9, 0, 0, 0, .null)]
set_option maxRecDepth 20000 in
theorem oX14_isSignedx_333 : vm_okB 14 mX14_isSigned 333 bX14_isSignedx_333 = true := by decide +kernel
def bX14_isSignedx_335 : List vm_J := [(3, .iinc 10 1, 0, 0, 0, .int 1), (3, .goto (-42), 296, 0, 0, .null)]
set_option maxRecDepth 20000 in
theorem oX14_isSignedx_335 : vm_okB 14 mX14_isSigned 335 bX14_isSignedx_335 = true := by decide +kernel
def bX14_isSignedx_341 : List vm_J := [(2, .iload 9, 0, 0, 0, .null), (1, .ireturn, 0, 0, 0, .null)]
set_option maxRecDepth 20000 in
theorem oX14_isSignedx_341 : vm_okB 14 mX14_isSigned 341 bX14_isSignedx_341 = true := by decide +kernel
noncomputable def dcd (P : Prop) : Bool := @decide P (Classical.propDecidable P)
theorem dcd_iff {P : Prop} : dcd P = true ↔ P := @decide_eq_true_iff P (Classical.propDecidable P)
theorem dcd_t {P : Prop} (h : P) : dcd P = true := dcd_iff.mpr h
theorem dcd_f {P : Prop} (h : ¬ P) : dcd P = false := by
  cases e : dcd P with
  | true => exact absurd (dcd_iff.mp e) h
  | false => rfl
theorem nclr : ∀ k, k < 9 → ∀ x, x < 256 → ((sb x &&& (nI (2 ^ k - 1) ^^^ -1)) &&& 255 = 0 ↔ x &&& (2 ^ k - 1) = x) := by decide +kernel
theorem clr_k : ∀ t0, t0 < 256 → 1 ≤ t0 → ∃ k, k < 9 ∧ clr t0 = 2 ^ k - 1 := by unfold clr kep; decide +kernel
theorem nclr2 {t0 x : Nat} (h1 : t0 < 256) (h2 : 1 ≤ t0) (hx : x < 256) : ((sb x &&& (nI (clr t0) ^^^ -1)) &&& 255 = 0 ↔ x &&& clr t0 = x) := by
  obtain ⟨k, hk, e⟩ := clr_k t0 h1 h2
  rw [e]; exact nclr k hk x hx
theorem gb_wb {V len j : Nat} (hj : j < len) : gb (wb V len) j = V / 256 ^ (len - 1 - j) % 256 := by
  unfold wb
  rw [gb_sl hj, Nat.zero_add]
section
variable {l : Launch} {O : Nat → vm_Ob} {f9 : Value} {h : vm_H} {a : Nat} {t : KT} {g : Nat → Int32} {m y : List Nat}
theorem rm_isSigned {kn i bi9 ni p1 n N e d t0 sh S : Nat} {kf : Nat → aK} {ci : Nat → Nat} (k : SY h a t g [] m y) (sk : SK h a kn kf) (hkn : kn ≤ 6) (hi : i < kn) (q : K2N (kf i) n N e d t0) (hM : MH h (a + 219 + 6 * i) (a + 219 + 6 * i + 1) (a + 219 + 6 * i + 2) n N sh) (he : ∃ f, ia h 6 (a + 85) f ∧ f i = nI e) (hsa : ∃ f, ia h 6 (a + 87) f ∧ f i = nI (ksa (kf i))) (hi9 : bv h ni bi9 ci) (ni1 : p1 + 98 ≤ ni) (ni2 : ni < 65536) (nb1 : bi9 ≠ a ∧ (bi9 < a + 1 ∨ a + 36 < bi9) ∧ (bi9 < a + 155 ∨ a + 161 < bi9)) (hS : wv h 64 (a + 158) n S) (lS : S < 4294967296 ^ n) : vm_Met (vm_env l O f9) mX14_isSigned 0 0 [.ref a, .int (nI i), .ref bi9, .int (nI p1), .ref (a + 158)] h (fun r h' => (∃ ok : Bool, r = some (.int (bi ok)) ∧ (ok = true ↔ S < N ∧ sgOK t.2.2.1 t.2.2.2 (ksz (kf i)) t0 (ksa (kf i)) (sl ci p1 98) (wb (S ^ e % N) (ksz (kf i))))) ∧ SY h' a t g [] m y ∧ fr h h' (fun q => q = a ∨ (a + 1 ≤ q ∧ q ≤ a + 3) ∨ (a + 28 ≤ q ∧ q ≤ a + 33) ∨ q = a + 36 ∨ (a + 155 ≤ q ∧ q ≤ a + 157) ∨ (a + 160 ≤ q ∧ q ≤ a + 161))) := by
  have ao := k.1.2.1
  have l155 : a + 155 < 1099511627776 := by omega
  have q9 := q
  obtain ⟨fs, es, vs⟩ := hsa
  obtain ⟨fm, em, vm9⟩ := sk.2.2.2.2.2.1
  obtain ⟨len, elen⟩ : ∃ len, ksz (kf i) = len := ⟨_, rfl⟩
  obtain ⟨s, esa⟩ : ∃ s, ksa (kf i) = s := ⟨_, rfl⟩
  obtain ⟨inp, einp⟩ : ∃ inp, sl ci p1 98 = inp := ⟨_, rfl⟩
  obtain ⟨V, eV⟩ : ∃ V, S ^ e % N = V := ⟨_, rfl⟩
  obtain ⟨⟨ql1, ql2, qn⟩, _, ⟨qt1, qt2⟩, _, _, qd, qs, qN, qlo, qhi⟩ := q
  rw [elen] at ql1 ql2 qn qs qlo qhi qN ⊢
  rw [esa] at qs vs ⊢
  rw [einp, eV]
  suffices H : ∀ Q : Option Value → vm_H → Prop, (∀ (ok : Bool) (h' : vm_H), (ok = true ↔ (S < N ∧ sgOK t.2.2.1 t.2.2.2 len t0 s inp (wb V len))) → SY h' a t g [] m y → fr h h' (fun q => q = a ∨ (a + 1 ≤ q ∧ q ≤ a + 3) ∨ (a + 28 ≤ q ∧ q ≤ a + 33) ∨ q = a + 36 ∨ (a + 155 ≤ q ∧ q ≤ a + 157) ∨ (a + 160 ≤ q ∧ q ≤ a + 161)) → Q (some (.int (bi ok))) h') → vm_Met (vm_env l O f9) mX14_isSigned 0 0 [.ref a, .int (nI i), .ref bi9, .int (nI p1), .ref (a + 158)] h Q from H _ (fun ok h' a1 a2 a3 => ⟨⟨ok, rfl, a1⟩, a2, a3⟩)
  intro Q hQ
  have bad : ∀ h', ¬ (S < N ∧ sgOK t.2.2.1 t.2.2.2 len t0 s inp (wb V len)) → SY h' a t g [] m y → fr h h' (fun q => q = a ∨ (a + 1 ≤ q ∧ q ≤ a + 3) ∨ (a + 28 ≤ q ∧ q ≤ a + 33) ∨ q = a + 36 ∨ (a + 155 ≤ q ∧ q ≤ a + 157) ∨ (a + 160 ≤ q ∧ q ≤ a + 161)) → Q (some (.int 0)) h' := fun h' n9 k' F' => hQ false h' ⟨fun y => (nomatch y), fun y => absurd y n9⟩ k' F'
  have lV : V < N := by rw [← eV]; exact Nat.mod_lt _ (by omega)
  have hah := (lg_f t0 qt2 qt1).2.2
  obtain ⟨ah, eah⟩ : ∃ ah, ahd t0 = ah := ⟨_, rfl⟩
  rw [eah] at hah
  obtain ⟨size, esz⟩ : ∃ size, len - ah = size := ⟨_, rfl⟩
  obtain ⟨db, edb⟩ : ∃ db, size - 49 = db := ⟨_, rfl⟩
  have hs48 : s ≤ 48 ∧ s + 2 ≤ db ∧ db + 49 = size ∧ size ≤ 256 ∧ db + ah = len - 49 ∧ size + ah = len := by omega
  obtain ⟨OO, eO⟩ : ∃ OO, gb (wb V len) = OO := ⟨_, rfl⟩
  have vO : ∀ j, j < len → OO j = V / 256 ^ (len - 1 - j) % 256 := fun j hj => by rw [← eO]; exact gb_wb hj
  have hO : ∀ j, OO j < 256 := fun j => by rw [← eO]; exact ok8_gb wb_ok j
  have SI := sg_iff (st := t.2.2.1) (kk := t.2.2.2) (inp := inp) ql1 ⟨qt1, qt2⟩ qs (wb_len (x := V) (m := len)) wb_ok
  rw [eO, eah, show len - ah - 49 = db by omega] at SI
  have hn4 : n ≤ 64 ∧ len ≤ 4 * n ∧ 4 * n ≤ len + 3 := by omega
  have VN : V < 256 ^ len := Nat.lt_trans lV qN
  refine vm_met rfl (Nat.le_of_ble_eq_true rfl) ?_
  refine vm_go rfl bX14_isSignedx_0 oX14_isSignedx_0 ⟨_, _, k.1.1, rfl, ⟨_, _, _, .ref (a + 219 + 6 * i), em, by decide, rfl, i, rfl, by omega, by rw [vm9 i (by omega)]; rfl, ?_⟩⟩
  refine vm_Th (lv' := [(0, .ref a), (1, .int (nI i)), (2, .ref bi9), (3, .int (nI p1)), (4, .ref (a + 158)), (5, .ref (a + 219 + 6 * i))]) (h' := h) rfl rfl ?_
  refine vm_go rfl bX14_isSignedx_8 oX14_isSignedx_8 ⟨_, _, hM.1.1, rfl, ⟨_, _, hM.1.1, rfl, ⟨0, 0, _, rm_cmp hS hM.1.2.1 hn4.1 hn4.1 (by omega) lS hM.1.2.2.2.2.1, Nat.zero_le _, Nat.zero_le _, ?_⟩⟩⟩
  rintro z h1 ⟨hz, e1⟩
  rw [e1]; clear e1 h1
  obtain ⟨u, rfl, _, hu, _⟩ := cmp_0 hz
  by_cases lSN : S < N
  case neg => exact ⟨fun z => absurd (hu.mp z) lSN, fun _ => ⟨rfl, bad h (fun z => lSN z.1) k fr_refl⟩⟩
  refine ⟨fun _ => ?_, fun z => absurd (hu.mpr lSN) z⟩
  refine vm_go rfl bX14_isSignedx_28 oX14_isSignedx_28 ⟨_, _, k.1.1, rfl, ⟨_, k.1.1, 0, 0, _, rm_byE k.1 sk hkn hi q9 hM he hS hn4.1 (by omega) lSN (.inr rfl), Nat.zero_le _, Nat.zero_le _, ?_⟩⟩
  rintro _ h1 ⟨rfl, k1, w1, F1⟩
  rw [eV] at w1
  have k1 := SY_fr k k1 F1 (by omega)
  have M1 := MH_cg3 hM F1 (by omega)
  have F1' : fr h h1 (fun q => q = a ∨ (a + 1 ≤ q ∧ q ≤ a + 3) ∨ (a + 28 ≤ q ∧ q ≤ a + 33) ∨ q = a + 36 ∨ (a + 155 ≤ q ∧ q ≤ a + 157) ∨ (a + 160 ≤ q ∧ q ≤ a + 161)) := fr_mono F1 (fun q z => by omega)
  refine ⟨0, 0, _, rm_esize M1 ⟨by omega, ql2⟩ ⟨qt1, qt2⟩ qlo qhi, Nat.zero_le _, Nat.zero_le _, ?_⟩
  rintro _ h2 ⟨rfl, e2⟩
  rw [e2, eah, esz]; clear e2 h2
  refine vm_Th (lv' := [(0, .ref a), (1, .int (nI i)), (2, .ref bi9), (3, .int (nI p1)), (4, .ref (a + 158)), (5, .ref (a + 219 + 6 * i)), (6, .int (nI size))]) (h' := h1) rfl rfl ?_
  refine vm_go rfl bX14_isSignedx_46 oX14_isSignedx_46 ?_
  refine vm_Th (lv' := [(0, .ref a), (1, .int (nI i)), (2, .ref bi9), (3, .int (nI p1)), (4, .ref (a + 158)), (5, .ref (a + 219 + 6 * i)), (6, .int (nI size)), (7, .int (nI (size + 0)))]) (h' := h1) rfl rfl ?_
  obtain ⟨fc, efc, vfc⟩ := id w1
  -- the bytes above
  refine vm_loop (fun j h' => h' = h1 ∧ ∀ q, q < j → V / 256 ^ (size + q) % 256 = 0) (4 * n - size) (fun j => [(0, .ref a), (1, .int (nI i)), (2, .ref bi9), (3, .int (nI p1)), (4, .ref (a + 158)), (5, .ref (a + 219 + 6 * i)), (6, .int (nI size)), (7, .int (nI (size + j)))]) 0 h1 (Nat.zero_le _) ⟨rfl, fun q hq => by omega⟩ ?_ ?_
  rotate_left
  · rintro j h2 _ hj ⟨e2, v2⟩ ih
    rw [e2]
    have ed : nI (size + j) / 4 = nI ((size + j) / 4) := nI_div (b := 4) (by omega) (by decide)
    have er : nI (size + j) - nI (size + j) / 4 * 4 = nI ((size + j) % 4) := nI_rem (b := 4) (by omega) (by decide)
    have e4 : (4 : Int32) * nI n = nI (4 * n) := nI_mul 4 n
    refine vm_go rfl bX14_isSignedx_50 oX14_isSignedx_50 ⟨_, _, M1.1.1, rfl, ⟨fun z => ?_, fun _ => ⟨_, _, k1.1.1, rfl, ⟨by decide, ⟨64, fc, efc, (size + j) / 4, ed, by omega, fun _ => ⟨by decide, ?_⟩⟩⟩⟩⟩⟩
    · have z : (4 : Int32) * nI n ≤ nI (size + j) := z
      rw [e4] at z
      exact absurd z (nI_ge (by omega) (by omega))
    have ev : ((fc ((size + j) / 4)).toUInt32 >>> (((8 : Int32) * (nI (size + j) - nI (size + j) / 4 * 4)).toUInt32 &&& Int32.toUInt32 31)).toInt32 &&& 255 = nI (V / 256 ^ (size + j) % 256) := by
      rw [vfc _ (by omega), er, show (8 : Int32) * nI ((size + j) % 4) = nI (8 * ((size + j) % 4)) from nI_mul 8 _, nI_ush (dw_lt _ _) (by omega), ← dw_byte]
      generalize dw V ((size + j) / 4) / 2 ^ (8 * ((size + j) % 4)) = xx
      apply Int32.toBitVec_inj.mp
      show BitVec.ofNat 32 xx &&& BitVec.ofNat 32 255 = BitVec.ofNat 32 (xx % 256)
      rw [← BitVec.ofNat_and]
      congr 1
      exact Nat.and_two_pow_sub_one_eq_mod xx 8
    by_cases c0 : V / 256 ^ (size + j) % 256 = 0
    · refine ⟨fun _ => ?_, fun z => absurd (show ((fc ((size + j) / 4)).toUInt32 >>> (((8 : Int32) * (nI (size + j) - nI (size + j) / 4 * 4)).toUInt32 &&& Int32.toUInt32 31)).toInt32 &&& 255 = 0 by rw [ev, c0]; rfl) z⟩
      refine vm_go rfl bX14_isSignedx_88 oX14_isSignedx_88 ?_
      refine vm_Th (lv' := [(0, .ref a), (1, .int (nI i)), (2, .ref bi9), (3, .int (nI p1)), (4, .ref (a + 158)), (5, .ref (a + 219 + 6 * i)), (6, .int (nI size)), (7, .int (nI (size + (j + 1))))]) (h' := h1) (by rw [← Nat.add_assoc, ← nI_1]; rfl) rfl (ih h1 ⟨rfl, fun q hq => ?_⟩)
      by_cases e9 : q = j
      · rw [e9]; exact c0
      · exact v2 q (by omega)
    · refine ⟨fun z => ?_, fun _ => ⟨rfl, bad h1 (fun z => ?_) k1 F1'⟩⟩
      · have z : ((fc ((size + j) / 4)).toUInt32 >>> (((8 : Int32) * (nI (size + j) - nI (size + j) / 4 * 4)).toUInt32 &&& Int32.toUInt32 31)).toInt32 &&& 255 = nI 0 := z
        rw [ev] at z
        exact absurd (nI_inj (by omega) (by decide) z) c0
      · have c := (SI.mp z.2).1
        rcases Nat.lt_or_ge (size + j) len with h3 | h3
        · have h4 : ah = 1 ∧ j = 0 := by omega
          have := c h4.1
          rw [vO 0 (by omega), show len - 1 - 0 = size + j by omega] at this
          exact c0 this
        · refine c0 ?_
          rw [Nat.div_eq_of_lt (Nat.lt_of_lt_of_le VN (Nat.pow_le_pow_right (by decide) h3))]
  rintro h2 ⟨e2, v2⟩
  rw [e2]; clear e2 h2
  have cah : ah = 1 → OO 0 = 0 := fun e9 => by
    rw [vO 0 (by omega), show len - 1 - 0 = size + 0 by omega]
    exact v2 0 (by omega)
  have e4 : (4 : Int32) * nI n = nI (4 * n) := nI_mul 4 n
  refine vm_go rfl bX14_isSignedx_50 oX14_isSignedx_50 ⟨_, _, M1.1.1, rfl, ⟨fun _ => ?_, fun z => absurd (show (4 : Int32) * nI n ≤ nI (size + (4 * n - size)) by rw [e4]; exact nI_le (by omega) (by omega)) z⟩⟩
  obtain ⟨c155, b155⟩ : ∃ c155, bv h1 260 (a + 155) c155 := k1.1.2.2.2.2.2.1 155 (by unfold ZB; omega)
  refine vm_go rfl bX14_isSignedx_94 oX14_isSignedx_94 ⟨_, _, k1.1.1, rfl, ⟨_, _, k1.1.1, rfl, ⟨0, 0, _, rm_store (at9 := 0) (size := size) w1 hn4.1 b155 l155 (by omega) (by omega) (show 0 + size ≤ 260 by omega) (by decide), Nat.zero_le _, Nat.zero_le _, ?_⟩⟩⟩
  rintro _ h2 ⟨rfl, ⟨c2, b2, e2, _⟩, F2⟩
  have k2 : SY h2 a t g [] m y := SY_fr k1 (RK_of k1.1 F2 ((F2.2 a (by omega)).trans k1.1.1) (fun q z => GDb (i := 155) (by unfold ZB; omega) rfl b2 z)) F2 (by omega)
  have F2' : fr h h2 (fun q => q = a ∨ (a + 1 ≤ q ∧ q ≤ a + 3) ∨ (a + 28 ≤ q ∧ q ≤ a + 33) ∨ q = a + 36 ∨ (a + 155 ≤ q ∧ q ≤ a + 157) ∨ (a + 160 ≤ q ∧ q ≤ a + 161)) := fr_trans F1' (fr_mono F2 (fun q z => by omega))
  have M2 := MH_cg3 M1 F2 (by omega)
  have v2' : ∀ j, j < size → c2 j = OO (j + ah) := fun j hj => by
    have := sl_all e2 j hj
    rw [Nat.zero_add] at this
    rw [this, gb_wb hj, vO _ (by omega), show len - 1 - (j + ah) = size - 1 - j by omega]
  clear v2
  refine vm_Th (lv' := [(0, .ref a), (1, .int (nI i)), (2, .ref bi9), (3, .int (nI p1)), (4, .ref (a + 158)), (5, .ref (a + 219 + 6 * i)), (6, .int (nI size)), (7, .int (nI db))]) (h' := h2) (by rw [show nI db = nI size - 49 by rw [← edb]; exact (nI_sub (b := 49) (by omega)).symm]; rfl) rfl ?_
  refine vm_go rfl bX14_isSignedx_115 oX14_isSignedx_115 ⟨_, _, k2.1.1, rfl, ⟨6, fs, (F2'.2 _ (by omega)).trans es, i, rfl, by omega, fun _ => ?_⟩⟩
  rw [vs]
  refine vm_Th (lv' := [(0, .ref a), (1, .int (nI i)), (2, .ref bi9), (3, .int (nI p1)), (4, .ref (a + 158)), (5, .ref (a + 219 + 6 * i)), (6, .int (nI size)), (7, .int (nI db)), (8, .int (nI s))]) (h' := h2) rfl rfl ?_
  obtain ⟨f2, ef2, vf2⟩ := id b2
  have vl := vf2 (size - 1) (by omega)
  have bad2 : ¬ (S < N ∧ sgOK t.2.2.1 t.2.2.2 len t0 s inp (wb V len)) → vm_T (vm_env l O f9) mX14_isSigned 0 0 158 [(0, .ref a), (1, .int (nI i)), (2, .ref bi9), (3, .int (nI p1)), (4, .ref (a + 158)), (5, .ref (a + 219 + 6 * i)), (6, .int (nI size)), (7, .int (nI db)), (8, .int (nI s))] [] h2 Q := fun n9 => vm_go rfl bX14_isSignedx_158 oX14_isSignedx_158 ⟨rfl, bad h2 n9 k2 F2'⟩
  refine vm_go rfl bX14_isSignedx_123 oX14_isSignedx_123 ⟨_, _, k2.1.1, rfl, ⟨260, f2, ef2, size - 1, nI_sub (b := 1) (by omega), by omega, fun _ => ⟨fun z => ?_, fun z => ?_⟩⟩⟩
  · have z : ¬ f2 (size - 1) = -68 := z
    refine bad2 (fun y9 => z ?_)
    have c := (SI.mp y9.2).2.1
    rw [vl.1, v2' _ (by omega), show size - 1 + ah = len - 1 by omega, c]; decide
  have z : f2 (size - 1) = -68 := z
  have cbc : OO (len - 1) = 188 := by
    rw [vl.1, show (-68 : Int32) = sb 188 by decide] at z
    have := sb_inj vl.2 (by decide) z
    rw [v2' _ (by omega), show size - 1 + ah = len - 1 by omega] at this
    exact this
  clear z
  have v0 := vf2 0 (by decide)
  have e0 : c2 0 = OO ah := by rw [v2' 0 (by omega), Nat.zero_add]
  refine ⟨_, _, k2.1.1, rfl, ⟨260, f2, ef2, 0, rfl, by decide, fun _ => ⟨0, 0, _, rm_clear M2 ⟨by omega, ql2⟩ ⟨qt1, qt2⟩ qlo qhi, Nat.zero_le _, Nat.zero_le _, ?_⟩⟩⟩
  rintro _ h3 ⟨rfl, e3⟩
  rw [e3]; clear e3 h3
  have ncl := nclr2 qt2 qt1 v0.2
  rw [← v0.1] at ncl
  by_cases ccl : c2 0 &&& clr t0 = c2 0
  case neg =>
    refine ⟨fun z => absurd (ncl.mp z) ccl, fun _ => bad2 (fun y9 => ccl ?_)⟩
    rw [e0]; exact (SI.mp y9.2).2.2.1
  refine ⟨fun _ => ?_, fun z => absurd (ncl.mpr ccl) z⟩
  rw [e0] at ccl
  refine vm_go rfl bX14_isSignedx_160 oX14_isSignedx_160 ⟨_, _, k2.1.1, rfl, ⟨_, k2.1.1, 0, 0, _, rm_masks (p := db) (many := db) k2 b2 (by omega) (by decide) (by omega) (by omega), Nat.zero_le _, Nat.zero_le _, ?_⟩⟩
  rintro _ h3 ⟨rfl, k3, ⟨cm, bm, vm3⟩, F3⟩
  have emk9 : sl c2 db 48 = sl OO (len - 49) 48 := sl_ext (fun j hj => by rw [v2' _ (by omega)]; congr 1; omega)
  rw [emk9] at vm3
  have b3 := bv_cg b2 (F3.2 (a + 155) (by omega))
  have F3' : fr h h3 (fun q => q = a ∨ (a + 1 ≤ q ∧ q ≤ a + 3) ∨ (a + 28 ≤ q ∧ q ≤ a + 33) ∨ q = a + 36 ∨ (a + 155 ≤ q ∧ q ≤ a + 157) ∨ (a + 160 ≤ q ∧ q ≤ a + 161)) := fr_trans F2' (fr_mono F3 (fun q z => by omega))
  have M3 := MH_cg3 M2 F3 (by omega)
  obtain ⟨fm3, efm3, vfm3⟩ := id bm
  refine vm_Th (lv' := [(0, .ref a), (1, .int (nI i)), (2, .ref bi9), (3, .int (nI p1)), (4, .ref (a + 158)), (5, .ref (a + 219 + 6 * i)), (6, .int (nI size)), (7, .int (nI db)), (8, .int (nI s)), (9, .int (nI 0))]) (h' := h3) rfl rfl ?_
  refine vm_loop (fun j h' => SY h' a t g [] m y ∧ (∃ c, bv h' 260 (a + 155) c ∧ (∀ q, q < j → c (0 + q) = OO (q + ah) ^^^ mgb t.2.2.1 t.2.2.2 (sl OO (len - 49) 48) q) ∧ ∀ q, q < 0 ∨ 0 + j ≤ q → c q = c2 q) ∧ fr h3 h' (fun q => q = a + 155)) db (fun j => [(0, .ref a), (1, .int (nI i)), (2, .ref bi9), (3, .int (nI p1)), (4, .ref (a + 158)), (5, .ref (a + 219 + 6 * i)), (6, .int (nI size)), (7, .int (nI db)), (8, .int (nI s)), (9, .int (nI j))]) 0 h3 (Nat.zero_le _) ⟨k3, ⟨c2, b3, fun q hq => by omega, fun _ _ => rfl⟩, fr_refl⟩ ?_ ?_
  rotate_left
  · rintro j h4 _ hj ⟨k4, ⟨c4, bc4, v4, u4⟩, F4⟩ ih
    obtain ⟨f4, ef4, vf4⟩ := id bc4
    have vmj := vfm3 j (by omega)
    have v4j := vf4 j (by omega)
    have hx : c4 j ^^^ cm j < 256 := xor_lt v4j.2 vmj.2
    have ex : (f4 j ^^^ fm3 j).toInt8.toInt32 = sb (c4 j ^^^ cm j) := by rw [v4j.1, vmj.1]; exact xor_b
    refine vm_go rfl bX14_isSignedx_175 oX14_isSignedx_175 ⟨fun z => absurd z (nI_ge hj (by omega)), fun _ => ⟨_, _, k4.1.1, rfl, ⟨260, f4, ef4, j, rfl, by omega, fun _ => ⟨_, _, k4.1.1, rfl, ⟨260, fm3, (F4.2 _ (by omega)).trans efm3, j, rfl, by omega, fun _ => ⟨260, f4, ef4, l155, j, rfl, by omega, ?_⟩⟩⟩⟩⟩⟩
    obtain ⟨h5, eh5⟩ : ∃ h5, h5 = vm_up h4 (a + 155) (.inl (.byte, 260, .inl (upd f4 j (sb (c4 j ^^^ cm j))))) := ⟨_, rfl⟩
    have F5 : fr h4 h5 (fun q => q = a + 155) := eh5 ▸ fr_up rfl
    have b5' : bv h5 260 (a + 155) (b1 c4 j (c4 j ^^^ cm j)) := eh5 ▸ bv_up vf4 hx
    refine vm_Th (lv' := [(0, .ref a), (1, .int (nI i)), (2, .ref bi9), (3, .int (nI p1)), (4, .ref (a + 158)), (5, .ref (a + 219 + 6 * i)), (6, .int (nI size)), (7, .int (nI db)), (8, .int (nI s)), (9, .int (nI j))]) (h' := h5) rfl (by rw [eh5, ← sb_self _ hx, ← ex]; rfl) ?_
    have k5 : SY h5 a t g [] m y := SY_fr k4 (RK_of k4.1 F5 ((F5.2 a (by omega)).trans k4.1.1) (fun q z => GDb (i := 155) (by unfold ZB; omega) rfl b5' z)) F5 (by omega)
    have b5' : bv h5 260 (a + 155) (b1 c4 (0 + j) (c4 j ^^^ cm j)) := by rw [Nat.zero_add]; exact b5'
    refine vm_go rfl bX14_isSignedx_200 oX14_isSignedx_200 (vm_Th (by rw [← nI_1 j]; rfl) rfl (ih h5 ⟨k5, ⟨_, b5', bstp v4 ?_, bstq u4⟩, fr_trans F4 F5⟩))
    rw [u4 j (.inr (by omega)), v2' j (by omega), vm3 j hj]
  rintro h4 ⟨k4, ⟨c4, bc4, v4, u4⟩, F4⟩
  refine vm_go rfl bX14_isSignedx_175 oX14_isSignedx_175 ⟨fun _ => ?_, fun z => absurd (nI_le (a := db) (b := db) (Nat.le_refl _) (by omega)) z⟩
  obtain ⟨f4, ef4, vf4⟩ := id bc4
  have v40 := vf4 0 (by decide)
  have M4 := MH_cg3 M3 F4 (by omega)
  refine vm_go rfl bX14_isSignedx_206 oX14_isSignedx_206 ⟨_, _, k4.1.1, rfl, ⟨260, f4, ef4, 0, rfl, by decide, fun _ => ⟨0, 0, _, rm_clear M4 ⟨by omega, ql2⟩ ⟨qt1, qt2⟩ qlo qhi, Nat.zero_le _, Nat.zero_le _, ?_⟩⟩⟩
  rintro _ h5 ⟨rfl, e5⟩
  rw [e5]; clear e5 h5
  have hclr := (clr_e t0 qt2 qt1).2.2
  refine ⟨260, f4, ef4, l155, 0, rfl, by decide, ?_⟩
  have ex : (f4 0 &&& (nI (clr t0)).toInt8.toInt32).toInt8.toInt32 = sb (c4 0 &&& clr t0) := by
    rw [v40.1, sb_nI, Nat.mod_eq_of_lt hclr]; exact and_bb
  have hx0 : c4 0 &&& clr t0 < 256 := Nat.lt_of_le_of_lt Nat.and_le_left v40.2
  obtain ⟨h5, eh5⟩ : ∃ h5, h5 = vm_up h4 (a + 155) (.inl (.byte, 260, .inl (upd f4 0 (sb (c4 0 &&& clr t0))))) := ⟨_, rfl⟩
  have F5 : fr h4 h5 (fun q => q = a + 155) := eh5 ▸ fr_up rfl
  have b5' : bv h5 260 (a + 155) (b1 c4 0 (c4 0 &&& clr t0)) := eh5 ▸ bv_up vf4 hx0
  refine vm_Th (lv' := [(0, .ref a), (1, .int (nI i)), (2, .ref bi9), (3, .int (nI p1)), (4, .ref (a + 158)), (5, .ref (a + 219 + 6 * i)), (6, .int (nI size)), (7, .int (nI db)), (8, .int (nI s)), (9, .int (nI db))]) (h' := h5) rfl (by rw [eh5, ← sb_self _ hx0, ← ex]; rfl) ?_
  have k5 : SY h5 a t g [] m y := SY_fr k4 (RK_of k4.1 F5 ((F5.2 a (by omega)).trans k4.1.1) (fun q z => GDb (i := 155) (by unfold ZB; omega) rfl b5' z)) F5 (by omega)
  obtain ⟨c5, ec5⟩ : ∃ c5, b1 c4 0 (c4 0 &&& clr t0) = c5 := ⟨_, rfl⟩
  rw [ec5] at b5'
  have F5' : fr h h5 (fun q => q = a ∨ (a + 1 ≤ q ∧ q ≤ a + 3) ∨ (a + 28 ≤ q ∧ q ≤ a + 33) ∨ q = a + 36 ∨ (a + 155 ≤ q ∧ q ≤ a + 157) ∨ (a + 160 ≤ q ∧ q ≤ a + 161)) := fr_trans F3' (fr_trans (fr_mono F4 (fun q z => by omega)) (fr_mono F5 (fun q z => by omega)))
  have vX : ∀ q, q < db → c5 q = sgX t.2.2.1 t.2.2.2 len t0 OO q := fun q hq => by
    rw [← ec5]
    unfold b1 sgX
    rw [eah]
    by_cases e9 : q = 0
    · rw [if_pos e9, if_pos e9]
      have := v4 0 (by omega)
      rw [Nat.zero_add, Nat.zero_add] at this
      rw [this]
    · rw [if_neg e9, if_neg e9]
      have := v4 q hq
      rw [Nat.zero_add] at this
      exact this
  have vT : ∀ q, q < 48 → c5 (db + q) = OO (len - 49 + q) := fun q hq => by
    rw [← ec5]
    unfold b1
    rw [if_neg (by omega), u4 _ (.inr (by omega)), v2' _ (by omega)]
    congr 1; omega
  obtain ⟨f5, ef5, vf5⟩ := id b5'
  clear F4 F5 F3 F2 v4 u4 vf4 ef4 k4 k3 k2
  refine vm_go rfl bX14_isSignedx_222 oX14_isSignedx_222 ?_
  refine vm_Th (lv' := [(0, .ref a), (1, .int (nI i)), (2, .ref bi9), (3, .int (nI p1)), (4, .ref (a + 158)), (5, .ref (a + 219 + 6 * i)), (6, .int (nI size)), (7, .int (nI db)), (8, .int (nI s)), (9, .int (nI 0))]) (h' := h5) rfl rfl ?_
  have edbs : nI db - nI s - 1 = nI (db - s - 1) := by rw [nI_sub (by omega)]; exact nI_sub (b := 1) (by omega)
  refine vm_loop (fun j h' => h' = h5 ∧ ∀ q, q < j → sgX t.2.2.1 t.2.2.2 len t0 OO q = 0) (db - s - 1) (fun j => [(0, .ref a), (1, .int (nI i)), (2, .ref bi9), (3, .int (nI p1)), (4, .ref (a + 158)), (5, .ref (a + 219 + 6 * i)), (6, .int (nI size)), (7, .int (nI db)), (8, .int (nI s)), (9, .int (nI j))]) 0 h5 (Nat.zero_le _) ⟨rfl, fun q hq => by omega⟩ ?_ ?_
  rotate_left
  · rintro j h6 _ hj ⟨e6, v6⟩ ih
    rw [e6]
    have vj := vf5 j (by omega)
    refine vm_go rfl bX14_isSignedx_225 oX14_isSignedx_225 ⟨fun z => ?_, fun _ => ⟨_, _, k5.1.1, rfl, ⟨260, f5, ef5, j, rfl, by omega, fun _ => ⟨fun z => ?_, fun z => ?_⟩⟩⟩⟩
    · have z : nI db - nI s - 1 ≤ nI j := z
      rw [edbs] at z
      exact absurd z (nI_ge hj (by omega))
    · have z : f5 j = nI 0 := z
      rw [vj.1, sb_eq _ vj.2 0 (by decide), vX j (by omega)] at z
      refine vm_go rfl bX14_isSignedx_249 oX14_isSignedx_249 (vm_Th (by rw [← nI_1 j]; rfl) rfl (ih h5 ⟨rfl, fun q hq => ?_⟩))
      by_cases e9 : q = j
      · rw [e9]; exact z
      · exact v6 q (by omega)
    · have z : ¬ f5 j = nI 0 := z
      rw [vj.1, sb_eq _ vj.2 0 (by decide), vX j (by omega)] at z
      exact ⟨rfl, bad h5 (fun y9 => z ((SI.mp y9.2).2.2.2.1 j hj)) k5 F5'⟩
  rintro h6 ⟨e6, v6⟩
  rw [e6]; clear e6 h6
  refine vm_go rfl bX14_isSignedx_225 oX14_isSignedx_225 ⟨fun _ => ?_, fun z => absurd (show nI db - nI s - 1 ≤ nI (db - s - 1) by rw [edbs]; exact nI_le (Nat.le_refl _) (by omega)) z⟩
  have v1 := vf5 (db - s - 1) (by omega)
  refine vm_go rfl bX14_isSignedx_255 oX14_isSignedx_255 ⟨_, _, k5.1.1, rfl, ⟨260, f5, ef5, db - s - 1, edbs, by omega, fun _ => ⟨fun z => ?_, fun z => ?_⟩⟩⟩
  rotate_left
  · have z : ¬ f5 (db - s - 1) = nI 1 := z
    rw [v1.1, sb_eq _ v1.2 1 (by decide), vX _ (by omega)] at z
    exact ⟨rfl, bad h5 (fun y9 => z (SI.mp y9.2).2.2.2.2.1) k5 F5'⟩
  have z : f5 (db - s - 1) = nI 1 := z
  rw [v1.1, sb_eq _ v1.2 1 (by decide), vX _ (by omega)] at z
  refine vm_go rfl bX14_isSignedx_273 oX14_isSignedx_273 ⟨_, _, k5.1.1, rfl, ⟨_, k5.1.1, 0, 0, _, vm_metA (rm_salted (p2 := db - s) (s := s) k5 (bv_cg hi9 (F5'.2 _ (by omega))) ni1 ni2 b5' (by omega) (by decide) hs48.1 (by omega) (by omega)) (by rw [← nI_sub (by omega)]; rfl), Nat.zero_le _, Nat.zero_le _, ?_⟩⟩
  rintro _ h6 ⟨rfl, k6, ⟨ck, bk, ek⟩, F6⟩
  have esl : sl c5 (db - s) s = sl (sgX t.2.2.1 t.2.2.2 len t0 OO) (db - s) s := sl_ext (fun j hj => vX _ (by omega))
  rw [esl, einp] at ek
  have F6' : fr h h6 (fun q => q = a ∨ (a + 1 ≤ q ∧ q ≤ a + 3) ∨ (a + 28 ≤ q ∧ q ≤ a + 33) ∨ q = a + 36 ∨ (a + 155 ≤ q ∧ q ≤ a + 157) ∨ (a + 160 ≤ q ∧ q ≤ a + 161)) := fr_trans F5' (fr_mono F6 (fun q z => by omega))
  have e56 := (F6.2 (a + 155) (by omega)).trans ef5
  obtain ⟨fk, efk, vfk⟩ := id bk
  refine vm_Th (lv' := [(0, .ref a), (1, .int (nI i)), (2, .ref bi9), (3, .int (nI p1)), (4, .ref (a + 158)), (5, .ref (a + 219 + 6 * i)), (6, .int (nI size)), (7, .int (nI db)), (8, .int (nI s)), (9, .int (bi true))]) (h' := h6) rfl rfl ?_
  refine vm_go rfl bX14_isSignedx_293 oX14_isSignedx_293 ?_
  refine vm_Th (lv' := [(0, .ref a), (1, .int (nI i)), (2, .ref bi9), (3, .int (nI p1)), (4, .ref (a + 158)), (5, .ref (a + 219 + 6 * i)), (6, .int (nI size)), (7, .int (nI db)), (8, .int (nI s)), (9, .int (bi (dcd (∀ q, q < 0 → ck q = c5 (db + q))))), (10, .int (nI 0))]) (h' := h6) (by rw [dcd_t (fun q hq => by omega)]; rfl) rfl ?_
  refine vm_loop (fun j h' => h' = h6) 48 (fun j => [(0, .ref a), (1, .int (nI i)), (2, .ref bi9), (3, .int (nI p1)), (4, .ref (a + 158)), (5, .ref (a + 219 + 6 * i)), (6, .int (nI size)), (7, .int (nI db)), (8, .int (nI s)), (9, .int (bi (dcd (∀ q, q < j → ck q = c5 (db + q))))), (10, .int (nI j))]) 0 h6 (Nat.zero_le _) rfl ?_ ?_
  · rintro h7 rfl
    refine vm_go rfl bX14_isSignedx_296 oX14_isSignedx_296 ⟨fun _ => ?_, fun z => absurd (nI_le (a := 48) (b := 48) (by decide) (by decide)) z⟩
    refine vm_go rfl bX14_isSignedx_341 oX14_isSignedx_341 ⟨bi_if, hQ _ h7 ?_ k6 F6'⟩
    rw [dcd_iff, SI]
    have e9 : emk t.2.2.1 t.2.2.2 inp (sl (sgX t.2.2.1 t.2.2.2 len t0 OO) (db - s) s) = sl OO (len - 49) 48 ↔ ∀ q, q < 48 → ck q = c5 (db + q) := by
      rw [← ek]
      constructor
      · intro hh q hq
        have := sl_inj hh q hq
        rw [Nat.zero_add] at this
        rw [this, vT q hq]
      · intro hh
        exact sl_ext (fun q hq => by rw [Nat.zero_add, hh q hq, vT q hq])
    rw [e9]
    exact ⟨fun hh => ⟨lSN, cah, cbc, ccl, v6, z, hh⟩, fun hh => hh.2.2.2.2.2.2⟩
  · rintro j h7 _ hj rfl ih
    obtain ⟨b9, eb9⟩ : ∃ b9, dcd (∀ q, q < j → ck q = c5 (db + q)) = b9 := ⟨_, rfl⟩
    rw [eb9]
    have nx : ∀ b' : Bool, b' = dcd (∀ q, q < j + 1 → ck q = c5 (db + q)) → vm_T (vm_env l O f9) mX14_isSigned 0 0 333 [(0, .ref a), (1, .int (nI i)), (2, .ref bi9), (3, .int (nI p1)), (4, .ref (a + 158)), (5, .ref (a + 219 + 6 * i)), (6, .int (nI size)), (7, .int (nI db)), (8, .int (nI s)), (9, .int (bi b9)), (10, .int (nI j))] [.int (bi b')] h7 Q := fun b' eb' => by
      refine vm_go rfl bX14_isSignedx_333 oX14_isSignedx_333 ?_
      refine vm_Th (lv' := [(0, .ref a), (1, .int (nI i)), (2, .ref bi9), (3, .int (nI p1)), (4, .ref (a + 158)), (5, .ref (a + 219 + 6 * i)), (6, .int (nI size)), (7, .int (nI db)), (8, .int (nI s)), (9, .int (bi b')), (10, .int (nI j))]) (h' := h7) rfl rfl ?_
      refine vm_go rfl bX14_isSignedx_335 oX14_isSignedx_335 ?_
      exact vm_Th (by rw [← nI_1 j, eb']; rfl) rfl (ih h7 rfl)
    have nf : ¬ (∀ q, q < j + 1 → ck q = c5 (db + q)) → vm_T (vm_env l O f9) mX14_isSigned 0 0 332 [(0, .ref a), (1, .int (nI i)), (2, .ref bi9), (3, .int (nI p1)), (4, .ref (a + 158)), (5, .ref (a + 219 + 6 * i)), (6, .int (nI size)), (7, .int (nI db)), (8, .int (nI s)), (9, .int (bi b9)), (10, .int (nI j))] [] h7 Q := fun n9 => vm_go rfl bX14_isSignedx_332 oX14_isSignedx_332 (nx false (dcd_f n9).symm)
    have a1 := vfk j hj
    have a2 := vf5 (db + j) (by omega)
    cases b9 with
    | false =>
      have n9 : ¬ (∀ q, q < j → ck q = c5 (db + q)) := fun y => by rw [dcd_t y] at eb9; cases eb9
      refine vm_go rfl bX14_isSignedx_296 oX14_isSignedx_296 ⟨fun z => absurd z (nI_ge (b := 48) hj (by decide)), fun _ => ⟨fun _ => nf (fun hh => n9 (fun q hq => hh q (by omega))), fun z => absurd rfl z⟩⟩
    | true =>
      have y9 := dcd_iff.mp eb9
      refine vm_go rfl bX14_isSignedx_296 oX14_isSignedx_296 ⟨fun z => absurd z (nI_ge (b := 48) hj (by decide)), fun _ => ⟨fun z => absurd z (by decide), fun _ => ⟨_, _, k6.1.1, rfl, ⟨48, fk, efk, j, rfl, hj, fun _ => ⟨_, _, k6.1.1, rfl, ⟨260, f5, e56, db + j, nI_add _ _, by omega, fun _ => ⟨fun z => ?_, fun z => ?_⟩⟩⟩⟩⟩⟩⟩
      · have z : ¬ fk j = f5 (db + j) := z
        refine nf (fun hh => z ?_)
        rw [a1.1, a2.1, hh j (by omega)]
      · have z : fk j = f5 (db + j) := z
        rw [a1.1, a2.1] at z
        have z := sb_inj a1.2 a2.2 z
        refine nx true (dcd_t (fun q hq => ?_)).symm
        by_cases e9 : q = j
        · rw [e9]; exact z
        · exact y9 q (by omega)
end
