/-! the reference: encodes -/
def bX14_encodesx_0 : List vm_J := [(1, .aload_n 0, 0, 0, 0, .null), (3, .getfield 461, 14, 59, 0, .null), (1, .iload_n 1, 0, 0, 0, .null), (1, .aaload, 0, 0, 0, .null), (2, .astore 7, 0, 0, 0, .null)]
set_option maxRecDepth 20000 in
theorem oX14_encodesx_0 : vm_okB 14 mX14_encodes 0 bX14_encodesx_0 = true := by decide +kernel
def bX14_encodesx_8 : List vm_J := [(2, .aload 7, 0, 0, 0, .null), (3, .invokestatic 546, 195, 1, 0, .null), (2, .istore 8, 0, 0, 0, .null)]
set_option maxRecDepth 20000 in
theorem oX14_encodesx_8 : vm_okB 14 mX14_encodes 8 bX14_encodesx_8 = true := by decide +kernel
def bX14_encodesx_15 : List vm_J := [(1, .aload_n 0, 0, 0, 0, .null), (3, .getfield 471, 14, 62, 0, .null), (1, .iload_n 1, 0, 0, 0, .null), (1, .iaload, 0, 0, 0, .null), (2, .istore 9, 0, 0, 0, .null)]
set_option maxRecDepth 20000 in
theorem oX14_encodesx_15 : vm_okB 14 mX14_encodes 15 bX14_encodesx_15 = true := by decide +kernel
def bX14_encodesx_23 : List vm_J := [(1, .aload_n 0, 0, 0, 0, .null), (1, .aload_n 2, 0, 0, 0, .null), (1, .iload_n 3, 0, 0, 0, .null), (2, .aload 4, 0, 0, 0, .null), (2, .iload 5, 0, 0, 0, .null), (2, .iload 9, 0, 0, 0, .null), (3, .invokevirtual 550, 193, 5, 14, .null), (2, .iload 8, 0, 0, 0, .null), (2, .bipush 49, 0, 0, 0, .int 49), (1, .isub, 0, 0, 0, .null), (2, .istore 10, 0, 0, 0, .null)]
set_option maxRecDepth 20000 in
theorem oX14_encodesx_23 : vm_okB 14 mX14_encodes 23 bX14_encodesx_23 = true := by decide +kernel
def bX14_encodesx_42 : List vm_J := [(1, .aload_n 0, 0, 0, 0, .null), (1, .aload_n 0, 0, 0, 0, .null), (3, .getfield 504, 14, 80, 0, .null), (1, .iconst 0, 0, 0, 0, .int 0), (2, .iload 10, 0, 0, 0, .null), (3, .invokevirtual 554, 194, 3, 14, .null), (1, .iconst 0, 0, 0, 0, .int 0), (2, .istore 11, 0, 0, 0, .null)]
set_option maxRecDepth 20000 in
theorem oX14_encodesx_42 : vm_okB 14 mX14_encodes 42 bX14_encodesx_42 = true := by decide +kernel
def bX14_encodesx_56 : List vm_J := [(2, .iload 11, 0, 0, 0, .null), (2, .iload 10, 0, 0, 0, .null), (3, .if_icmp .ge 75, 135, 0, 0, .null), (2, .iload 11, 0, 0, 0, .null), (2, .iload 10, 0, 0, 0, .null), (2, .iload 9, 0, 0, 0, .null), (1, .isub, 0, 0, 0, .null), (1, .iconst 1, 0, 0, 0, .int 1), (1, .isub, 0, 0, 0, .null), (3, .if_icmp .ge 7, 79, 0, 0, .null), (1, .iconst 0, 0, 0, 0, .int 0), (3, .goto 33, 109, 0, 0, .null)]
set_option maxRecDepth 20000 in
theorem oX14_encodesx_56 : vm_okB 14 mX14_encodes 56 bX14_encodesx_56 = true := by decide +kernel
def bX14_encodesx_79 : List vm_J := [(2, .iload 11, 0, 0, 0, .null), (2, .iload 10, 0, 0, 0, .null), (2, .iload 9, 0, 0, 0, .null), (1, .isub, 0, 0, 0, .null), (1, .iconst 1, 0, 0, 0, .int 1), (1, .isub, 0, 0, 0, .null), (3, .if_icmp .ne 7, 95, 0, 0, .null), (1, .iconst 1, 0, 0, 0, .int 1), (3, .goto 17, 109, 0, 0, .null)]
set_option maxRecDepth 20000 in
theorem oX14_encodesx_79 : vm_okB 14 mX14_encodes 79 bX14_encodesx_79 = true := by decide +kernel
def bX14_encodesx_95 : List vm_J := [(2, .aload 4, 0, 0, 0, .null), (2, .iload 5, 0, 0, 0, .null), (2, .iload 11, 0, 0, 0, .null), (1, .iadd, 0, 0, 0, .null), (2, .iload 10, 0, 0, 0, .null), (2, .iload 9, 0, 0, 0, .null), (1, .isub, 0, 0, 0, .null), (1, .isub, 0, 0, 0, .null), (1, .baload, 0, 0, 0, .null)]
set_option maxRecDepth 20000 in
theorem oX14_encodesx_95 : vm_okB 14 mX14_encodes 95 bX14_encodesx_95 = true := by decide +kernel
def bX14_encodesx_109 : List vm_J := [(2, .istore 12, 0, 0, 0, .null)]
set_option maxRecDepth 20000 in
theorem oX14_encodesx_109 : vm_okB 14 mX14_encodes 109 bX14_encodesx_109 = true := by decide +kernel
def bX14_encodesx_111 : List vm_J := [(1, .aload_n 0, 0, 0, 0, .null), (3, .getfield 498, 14, 78, 0, .null), (2, .iload 11, 0, 0, 0, .null), (2, .iload 12, 0, 0, 0, .null), (1, .aload_n 0, 0, 0, 0, .null), (3, .getfield 501, 14, 79, 0, .null), (2, .iload 11, 0, 0, 0, .null), (1, .baload, 0, 0, 0, .null), (1, .ixor, 0, 0, 0, .null), (1, .i2b, 0, 0, 0, .null), (1, .bastore, 0, 0, 0, .null)]
set_option maxRecDepth 20000 in
theorem oX14_encodesx_111 : vm_okB 14 mX14_encodes 111 bX14_encodesx_111 = true := by decide +kernel
def bX14_encodesx_129 : List vm_J := [(3, .iinc 11 1, 0, 0, 0, .int 1), (3, .goto (-76), 56, 0, 0, .null)]
set_option maxRecDepth 20000 in
theorem oX14_encodesx_129 : vm_okB 14 mX14_encodes 129 bX14_encodesx_129 = true := by decide +kernel
def bX14_encodesx_135 : List vm_J := [(1, .aload_n 0, 0, 0, 0, .null), (3, .getfield 498, 14, 78, 0, .null), (1, .iconst 0, 0, 0, 0, .int 0), (1, .dup2, 0, 0, 0, .null), (1, .baload, 0, 0, 0, .null), (2, .aload 7, 0, 0, 0, .null), (3, .invokestatic 557, 196, 1, 0, .null), (1, .i2b, 0, 0, 0, .null), (1, .iand, 0, 0, 0, .null), (1, .i2b, 0, 0, 0, .null), (1, .bastore, 0, 0, 0, .null)]
set_option maxRecDepth 20000 in
theorem oX14_encodesx_135 : vm_okB 14 mX14_encodes 135 bX14_encodesx_135 = true := by decide +kernel
def bX14_encodesx_151 : List vm_J := [(1, .iconst 0, 0, 0, 0, .int 0), (2, .istore 11, 0, 0, 0, .null)]
set_option maxRecDepth 20000 in
theorem oX14_encodesx_151 : vm_okB 14 mX14_encodes 151 bX14_encodesx_151 = true := by decide +kernel
def bX14_encodesx_154 : List vm_J := [(2, .iload 11, 0, 0, 0, .null), (2, .bipush 48, 0, 0, 0, .int 48), (3, .if_icmp .ge 26, 184, 0, 0, .null), (1, .aload_n 0, 0, 0, 0, .null), (3, .getfield 498, 14, 78, 0, .null), (2, .iload 10, 0, 0, 0, .null), (2, .iload 11, 0, 0, 0, .null), (1, .iadd, 0, 0, 0, .null), (1, .aload_n 0, 0, 0, 0, .null), (3, .getfield 504, 14, 80, 0, .null), (2, .iload 11, 0, 0, 0, .null), (1, .baload, 0, 0, 0, .null), (1, .bastore, 0, 0, 0, .null)]
set_option maxRecDepth 20000 in
theorem oX14_encodesx_154 : vm_okB 14 mX14_encodes 154 bX14_encodesx_154 = true := by decide +kernel
def bX14_encodesx_178 : List vm_J := [(3, .iinc 11 1, 0, 0, 0, .int 1), (3, .goto (-27), 154, 0, 0, .null)]
set_option maxRecDepth 20000 in
theorem oX14_encodesx_178 : vm_okB 14 mX14_encodes 178 bX14_encodesx_178 = true := by decide +kernel
def bX14_encodesx_184 : List vm_J := [(1, .aload_n 0, 0, 0, 0, .null), (3, .getfield 498, 14, 78, 0, .null), (2, .iload 8, 0, 0, 0, .null), (1, .iconst 1, 0, 0, 0, .int 1), (1, .isub, 0, 0, 0, .null), (2, .bipush (-68), 0, 0, 0, .int (-68)), (1, .bastore, 0, 0, 0, .null)]
set_option maxRecDepth 20000 in
theorem oX14_encodesx_184 : vm_okB 14 mX14_encodes 184 bX14_encodesx_184 = true := by decide +kernel
def bX14_encodesx_195 : List vm_J := [(1, .aload_n 0, 0, 0, 0, .null), (3, .getfield 498, 14, 78, 0, .null), (1, .iconst 0, 0, 0, 0, .int 0), (2, .iload 8, 0, 0, 0, .null), (2, .aload 6, 0, 0, 0, .null), (2, .aload 7, 0, 0, 0, .null), (3, .getfield 13, 12, 2, 0, .null), (3, .invokestatic 176, 155, 5, 0, .null), (1, .return_, 0, 0, 0, .null)]
set_option maxRecDepth 20000 in
theorem oX14_encodesx_195 : vm_okB 14 mX14_encodes 195 bX14_encodesx_195 = true := by decide +kernel
theorem and_bb {x y : Nat} : (sb x &&& sb y).toInt8.toInt32 = sb (x &&& y) := by
  have e : Int32.ofNat (x &&& y) = Int32.ofNat x &&& Int32.ofNat y := by
    apply Int32.toBitVec_inj.mp
    rw [Int32.toBitVec_and]
    exact BitVec.ofNat_and
  unfold sb
  rw [e, Int32.toInt8_and, Int32.toInt8_and, Int8.toInt8_toInt32, Int8.toInt8_toInt32]
theorem and_255 {x : Nat} (hx : x < 256) : x &&& 255 = x := by
  have : x &&& (2 ^ 8 - 1) = x % 2 ^ 8 := Nat.and_two_pow_sub_one_eq_mod x 8
  rw [show (255 : Nat) = 2 ^ 8 - 1 from rfl, this]
  exact Nat.mod_eq_of_lt hx
theorem pdf_lt {len s j : Nat} {salt : List Nat} (h : ok8 salt) : pdf len s salt j < 256 := by
  unfold pdf
  split
  · decide
  · split
    · exact ok8_gb h _
    · decide
theorem emX_lt {st kk : Nat → Int64} {mk : List Nat} {len t0 s j : Nat} {salt : List Nat} (h : ok8 salt) : emX st kk mk len t0 s salt j < 256 := xor_lt mgb_lt (pdf_lt h)
theorem EM_bn {st kk : Nat → Int64} {len t0 s : Nat} {inp salt : List Nat} {c : Nat → Nat} (hl : 66 ≤ len) (ht : 1 ≤ t0) (h : ∀ j, j < len - ahd t0 → c j = emf st kk (emk st kk inp salt) len t0 s salt (j + ahd t0)) : bn c 0 (len - ahd t0) = bn (gb (EM st kk len t0 s inp salt)) 0 len := by
  have e : ∀ j, j < len → gb (EM st kk len t0 s inp salt) j = emf st kk (emk st kk inp salt) len t0 s salt j := fun j hj => by
    unfold EM
    rw [gb_sl hj, Nat.zero_add]
  by_cases h1 : t0 = 1
  · have ea : ahd t0 = 1 := if_pos h1
    rw [ea] at h ⊢
    obtain ⟨l', el⟩ : ∃ l', len = l' + 1 := ⟨len - 1, by omega⟩
    have e0 : gb (EM st kk len t0 s inp salt) 0 = 0 := by
      rw [e 0 (by omega)]
      unfold emf
      rw [if_pos (by omega), if_pos rfl, h1]
      have : kep 1 = 0 := by decide
      rw [this, Nat.and_zero]
    rw [show bn (gb (EM st kk len t0 s inp salt)) 0 len = bn (gb (EM st kk len t0 s inp salt)) 0 (l' + 1) by rw [el], bn_hd, e0, Nat.zero_mul, Nat.zero_add, Nat.zero_add, show len - 1 = l' by omega, ← bn_gb (b := c), ← bn_gb (b := gb _) (p := 1)]
    congr 2
    exact sl_ext (fun j hj => by rw [Nat.zero_add, h j (by omega), e _ (by omega), Nat.add_comm 1 j])
  · have ea : ahd t0 = 0 := if_neg h1
    rw [ea] at h ⊢
    exact bn_ext len (fun j hj => by rw [Nat.zero_add, h j (by omega), e _ (by omega)]; rfl)
section
variable {l : Launch} {O : Nat → vm_Ob} {f9 : Value} {h : vm_H} {a : Nat} {t : KT} {g : Nat → Int32} {w m y : List Nat}
theorem rm_encodes {kn i bi9 ni p1 bs9 ns p2 n N e d t0 sh : Nat} {kf : Nat → aK} {ci cs9 : Nat → Nat} (k : SY h a t g w m y) (sk : SK h a kn kf) (hkn : kn ≤ 6) (hi : i < kn) (q : K2N (kf i) n N e d t0) (hM : MH h (a + 219 + 6 * i) (a + 219 + 6 * i + 1) (a + 219 + 6 * i + 2) n N sh) (hsa : ∃ f, ia h 6 (a + 87) f ∧ f i = nI (ksa (kf i))) (hi9 : bv h ni bi9 ci) (ni1 : p1 + 98 ≤ ni) (ni2 : ni < 65536) (hs9 : bv h ns bs9 cs9) (ns1 : p2 + ksa (kf i) ≤ ns) (ns2 : ns < 65536) (nb1 : bi9 ≠ a ∧ (bi9 < a + 28 ∨ a + 36 < bi9) ∧ (bi9 < a + 155 ∨ a + 158 < bi9)) (nb2' : bs9 ≠ a ∧ (bs9 < a + 28 ∨ a + 36 < bs9) ∧ (bs9 < a + 155 ∨ a + 158 < bs9)) : vm_Met (vm_env l O f9) mX14_encodes 0 0 [.ref a, .int (nI i), .ref bi9, .int (nI p1), .ref bs9, .int (nI p2), .ref (a + 158)] h (fun r h' => r = none ∧ SY h' a t g [] m y ∧ wv h' 64 (a + 158) n (bn (gb (EM t.2.2.1 t.2.2.2 (ksz (kf i)) t0 (ksa (kf i)) (sl ci p1 98) (sl cs9 p2 (ksa (kf i))))) 0 (ksz (kf i))) ∧ fr h h' (fun q => q = a ∨ (a + 28 ≤ q ∧ q ≤ a + 33) ∨ q = a + 36 ∨ (a + 155 ≤ q ∧ q ≤ a + 158))) := by
  have ao := k.1.2.1
  have l155 : a + 155 < 1099511627776 := by omega
  obtain ⟨fs, es, vs⟩ := hsa
  obtain ⟨fm, em, vm9⟩ := sk.2.2.2.2.2.1
  obtain ⟨len, elen⟩ : ∃ len, ksz (kf i) = len := ⟨_, rfl⟩
  obtain ⟨s, esa⟩ : ∃ s, ksa (kf i) = s := ⟨_, rfl⟩
  obtain ⟨⟨ql1, ql2, qn⟩, _, ⟨qt1, qt2⟩, _, _, _, qs, _, qlo, qhi⟩ := q
  rw [elen] at ql1 ql2 qn qs qlo qhi ⊢
  rw [esa] at qs vs ns1 ⊢
  have hah := (lg_f t0 qt2 qt1).2.2
  obtain ⟨size, esz⟩ : ∃ size, len - ahd t0 = size := ⟨_, rfl⟩
  obtain ⟨db, edb⟩ : ∃ db, size - 49 = db := ⟨_, rfl⟩
  have hs48 : s ≤ 48 ∧ s + 2 ≤ db ∧ db + 49 = size ∧ size ≤ 256 ∧ db + ahd t0 = len - 49 := by omega
  refine vm_met rfl (Nat.le_of_ble_eq_true rfl) ?_
  refine vm_go rfl bX14_encodesx_0 oX14_encodesx_0 ⟨_, _, k.1.1, rfl, ⟨_, _, _, .ref (a + 219 + 6 * i), em, by decide, rfl, i, rfl, by omega, by rw [vm9 i (by omega)]; rfl, ?_⟩⟩
  refine vm_Th (lv' := [(0, .ref a), (1, .int (nI i)), (2, .ref bi9), (3, .int (nI p1)), (4, .ref bs9), (5, .int (nI p2)), (6, .ref (a + 158)), (7, .ref (a + 219 + 6 * i))]) (h' := h) rfl rfl ?_
  refine vm_go rfl bX14_encodesx_8 oX14_encodesx_8 ⟨0, 0, _, rm_esize hM ⟨by omega, ql2⟩ ⟨qt1, qt2⟩ qlo qhi, Nat.zero_le _, Nat.zero_le _, ?_⟩
  rintro _ h1 ⟨rfl, e1⟩
  rw [e1, esz]; clear e1 h1
  refine vm_Th (lv' := [(0, .ref a), (1, .int (nI i)), (2, .ref bi9), (3, .int (nI p1)), (4, .ref bs9), (5, .int (nI p2)), (6, .ref (a + 158)), (7, .ref (a + 219 + 6 * i)), (8, .int (nI size))]) (h' := h) rfl rfl ?_
  refine vm_go rfl bX14_encodesx_15 oX14_encodesx_15 ⟨_, _, k.1.1, rfl, ⟨6, fs, es, i, rfl, by omega, fun _ => ?_⟩⟩
  rw [vs]
  refine vm_Th (lv' := [(0, .ref a), (1, .int (nI i)), (2, .ref bi9), (3, .int (nI p1)), (4, .ref bs9), (5, .int (nI p2)), (6, .ref (a + 158)), (7, .ref (a + 219 + 6 * i)), (8, .int (nI size)), (9, .int (nI s))]) (h' := h) rfl rfl ?_
  refine vm_go rfl bX14_encodesx_23 oX14_encodesx_23 ⟨_, k.1.1, 0, 0, _, rm_salted k hi9 ni1 ni2 hs9 ns1 ns2 hs48.1 (by omega) (by omega), Nat.zero_le _, Nat.zero_le _, ?_⟩
  rintro _ h1 ⟨rfl, k1, ⟨ck, bk, ek⟩, F1⟩
  obtain ⟨salt, esalt⟩ : ∃ salt, sl cs9 p2 s = salt := ⟨_, rfl⟩
  obtain ⟨inp, einp⟩ : ∃ inp, sl ci p1 98 = inp := ⟨_, rfl⟩
  obtain ⟨mk, emk9⟩ : ∃ mk, emk t.2.2.1 t.2.2.2 inp salt = mk := ⟨_, rfl⟩
  rw [esalt, einp] at ek ⊢
  have lmk : mk.length = 48 := by rw [← emk9]; exact H3_len
  rw [emk9] at ek
  have osalt : ok8 salt := by
    obtain ⟨_, _, v9⟩ := hs9
    rw [← esalt]
    exact ok8_sl (fun j hj => (v9 _ (by omega)).2)
  have hs1 := bv_cg hs9 (F1.2 bs9 (by omega))
  have M1 := MH_cg3 hM F1 (by omega)
  refine vm_Th (lv' := [(0, .ref a), (1, .int (nI i)), (2, .ref bi9), (3, .int (nI p1)), (4, .ref bs9), (5, .int (nI p2)), (6, .ref (a + 158)), (7, .ref (a + 219 + 6 * i)), (8, .int (nI size)), (9, .int (nI s)), (10, .int (nI db))]) (h' := h1) (by rw [show nI db = nI size - 49 by rw [← edb]; exact (nI_sub (b := 49) (by omega)).symm]; rfl) rfl ?_
  refine vm_go rfl bX14_encodesx_42 oX14_encodesx_42 ⟨_, _, k1.1.1, rfl, ⟨_, k1.1.1, 0, 0, _, rm_masks (p := 0) (many := db) k1 bk (by decide) (by decide) (by omega) (by omega), Nat.zero_le _, Nat.zero_le _, ?_⟩⟩
  rintro _ h2 ⟨rfl, k2, ⟨cm, bm, vm2⟩, F2⟩
  rw [ek] at vm2
  have bk2 := bv_cg bk (F2.2 (a + 157) (by omega))
  have hs2 := bv_cg hs1 (F2.2 bs9 (by omega))
  have M2 := MH_cg3 M1 F2 (by omega)
  have FF : fr h h2 (fun q => q = a ∨ (a + 28 ≤ q ∧ q ≤ a + 33) ∨ q = a + 36 ∨ (a + 155 ≤ q ∧ q ≤ a + 158)) := fr_trans (fr_mono F1 (fun q z => by omega)) (fr_mono F2 (fun q z => by omega))
  obtain ⟨fm2, efm2, vfm2⟩ := id bm
  obtain ⟨fk, efk, vfk⟩ := id bk2
  obtain ⟨f9s, ef9s, vf9s⟩ := id hs2
  obtain ⟨c155, b155⟩ := k2.1.2.2.2.2.2.1 155 (by unfold ZB; omega)
  refine vm_Th (lv' := [(0, .ref a), (1, .int (nI i)), (2, .ref bi9), (3, .int (nI p1)), (4, .ref bs9), (5, .int (nI p2)), (6, .ref (a + 158)), (7, .ref (a + 219 + 6 * i)), (8, .int (nI size)), (9, .int (nI s)), (10, .int (nI db)), (11, .int (nI 0))]) (h' := h2) rfl rfl ?_
  refine vm_loop (fun j h' => SY h' a t g [] m y ∧ (∃ c, bv h' 260 (a + 155) c ∧ ∀ q, q < j → c (0 + q) = emX t.2.2.1 t.2.2.2 mk len t0 s salt (q + ahd t0)) ∧ fr h2 h' (fun q => q = a + 155)) db (fun j => [(0, .ref a), (1, .int (nI i)), (2, .ref bi9), (3, .int (nI p1)), (4, .ref bs9), (5, .int (nI p2)), (6, .ref (a + 158)), (7, .ref (a + 219 + 6 * i)), (8, .int (nI size)), (9, .int (nI s)), (10, .int (nI db)), (11, .int (nI j))]) 0 h2 (Nat.zero_le _) ⟨k2, ⟨c155, b155, fun j hj => by omega⟩, fr_refl⟩ ?_ ?_
  rotate_left
  · rintro j h3 _ hj ⟨k3, ⟨c3, bc3, v3⟩, F3⟩ ih
    have edbs : nI db - nI s - 1 = nI (db - s - 1) := by rw [nI_sub (by omega)]; exact nI_sub (b := 1) (by omega)
    have tail : vm_T (vm_env l O f9) mX14_encodes 0 0 109 [(0, .ref a), (1, .int (nI i)), (2, .ref bi9), (3, .int (nI p1)), (4, .ref bs9), (5, .int (nI p2)), (6, .ref (a + 158)), (7, .ref (a + 219 + 6 * i)), (8, .int (nI size)), (9, .int (nI s)), (10, .int (nI db)), (11, .int (nI j))] [.int (sb (pdf len s salt (j + ahd t0)))] h3 (fun r h' => r = none ∧ SY h' a t g [] m y ∧ wv h' 64 (a + 158) n (bn (gb (EM t.2.2.1 t.2.2.2 len t0 s inp salt)) 0 len) ∧ fr h h' (fun q => q = a ∨ (a + 28 ≤ q ∧ q ≤ a + 33) ∨ q = a + 36 ∨ (a + 155 ≤ q ∧ q ≤ a + 158))) := by
      refine vm_go rfl bX14_encodesx_109 oX14_encodesx_109 ?_
      refine vm_Th (lv' := [(0, .ref a), (1, .int (nI i)), (2, .ref bi9), (3, .int (nI p1)), (4, .ref bs9), (5, .int (nI p2)), (6, .ref (a + 158)), (7, .ref (a + 219 + 6 * i)), (8, .int (nI size)), (9, .int (nI s)), (10, .int (nI db)), (11, .int (nI j)), (12, .int (sb (pdf len s salt (j + ahd t0))))]) (h' := h3) rfl rfl ?_
      obtain ⟨f3, ef3, vf3⟩ := id bc3
      have vmj := vfm2 j (by omega)
      refine vm_go rfl bX14_encodesx_111 oX14_encodesx_111 ⟨_, _, k3.1.1, rfl, ⟨_, _, k3.1.1, rfl, ⟨260, fm2, (F3.2 _ (by omega)).trans efm2, j, rfl, by omega, fun _ => ⟨260, f3, ef3, l155, j, rfl, by omega, ?_⟩⟩⟩⟩
      have ex : (sb (pdf len s salt (j + ahd t0)) ^^^ fm2 j).toInt8.toInt32 = sb (emX t.2.2.1 t.2.2.2 mk len t0 s salt (j + ahd t0)) := by
        rw [vmj.1, xor_b, vm2 j hj]
        unfold emX
        rw [show j + ahd t0 - ahd t0 = j by omega, Nat.xor_comm]
      obtain ⟨h4, eh4⟩ : ∃ h4, h4 = vm_up h3 (a + 155) (.inl (.byte, 260, .inl (upd f3 j (sb (emX t.2.2.1 t.2.2.2 mk len t0 s salt (j + ahd t0)))))) := ⟨_, rfl⟩
      have F4 : fr h3 h4 (fun q => q = a + 155) := eh4 ▸ fr_up rfl
      have b4' : bv h4 260 (a + 155) (b1 c3 j (emX t.2.2.1 t.2.2.2 mk len t0 s salt (j + ahd t0))) := eh4 ▸ bv_up vf3 (emX_lt osalt)
      refine vm_Th (lv' := [(0, .ref a), (1, .int (nI i)), (2, .ref bi9), (3, .int (nI p1)), (4, .ref bs9), (5, .int (nI p2)), (6, .ref (a + 158)), (7, .ref (a + 219 + 6 * i)), (8, .int (nI size)), (9, .int (nI s)), (10, .int (nI db)), (11, .int (nI j)), (12, .int (sb (pdf len s salt (j + ahd t0))))]) (h' := h4) rfl (by rw [eh4, ← sb_self _ (emX_lt osalt), ← ex]; rfl) ?_
      have b4' : bv h4 260 (a + 155) (b1 c3 (0 + j) (emX t.2.2.1 t.2.2.2 mk len t0 s salt (j + ahd t0))) := by rw [Nat.zero_add]; exact b4'
      have k4 : SY h4 a t g [] m y := SY_fr k3 (RK_of k3.1 F4 ((F4.2 a (by omega)).trans k3.1.1) (fun q z => GDb (i := 155) (by unfold ZB; omega) rfl b4' z)) F4 (by omega)
      refine vm_go rfl bX14_encodesx_129 oX14_encodesx_129 ?_
      refine vm_less [0, 1, 2, 3, 4, 5, 6, 7, 8, 9, 10, 11] rfl ?_
      exact vm_Th (by rw [← nI_1 j]; rfl) rfl (ih h4 ⟨k4, ⟨_, b4', bstp v3 rfl⟩, fr_trans F3 F4⟩)
    rcases Nat.lt_or_ge j (db - s - 1) with c1 | c1
    · refine vm_go rfl bX14_encodesx_56 oX14_encodesx_56 ⟨fun z => absurd z (nI_ge hj (by omega)), fun _ => ⟨fun z => ?_, fun _ => ?_⟩⟩
      · have z : nI db - nI s - 1 ≤ nI j := z
        rw [edbs] at z
        exact absurd z (nI_ge c1 (by omega))
      have ep : pdf len s salt (j + ahd t0) = 0 := by
        unfold pdf
        rw [if_neg (by omega), if_neg (by omega)]
      rw [ep] at tail
      exact tail
    · have go79 : ∀ X : vm_T (vm_env l O f9) mX14_encodes 0 0 79 [(0, .ref a), (1, .int (nI i)), (2, .ref bi9), (3, .int (nI p1)), (4, .ref bs9), (5, .int (nI p2)), (6, .ref (a + 158)), (7, .ref (a + 219 + 6 * i)), (8, .int (nI size)), (9, .int (nI s)), (10, .int (nI db)), (11, .int (nI j))] [] h3 (fun r h' => r = none ∧ SY h' a t g [] m y ∧ wv h' 64 (a + 158) n (bn (gb (EM t.2.2.1 t.2.2.2 len t0 s inp salt)) 0 len) ∧ fr h h' (fun q => q = a ∨ (a + 28 ≤ q ∧ q ≤ a + 33) ∨ q = a + 36 ∨ (a + 155 ≤ q ∧ q ≤ a + 158))), vm_T (vm_env l O f9) mX14_encodes 0 0 56 [(0, .ref a), (1, .int (nI i)), (2, .ref bi9), (3, .int (nI p1)), (4, .ref bs9), (5, .int (nI p2)), (6, .ref (a + 158)), (7, .ref (a + 219 + 6 * i)), (8, .int (nI size)), (9, .int (nI s)), (10, .int (nI db)), (11, .int (nI j))] [] h3 (fun r h' => r = none ∧ SY h' a t g [] m y ∧ wv h' 64 (a + 158) n (bn (gb (EM t.2.2.1 t.2.2.2 len t0 s inp salt)) 0 len) ∧ fr h h' (fun q => q = a ∨ (a + 28 ≤ q ∧ q ≤ a + 33) ∨ q = a + 36 ∨ (a + 155 ≤ q ∧ q ≤ a + 158))) := fun X => vm_go rfl bX14_encodesx_56 oX14_encodesx_56 ⟨fun z => absurd z (nI_ge hj (by omega)), fun _ => ⟨fun _ => X, fun z => absurd (show nI db - nI s - 1 ≤ nI j by rw [edbs]; exact nI_le c1 (by omega)) z⟩⟩
      refine go79 ?_
      by_cases c2 : j = db - s - 1
      · refine vm_go rfl bX14_encodesx_79 oX14_encodesx_79 ⟨fun z => absurd (show nI j = nI db - nI s - 1 by rw [edbs, c2]) z, fun _ => ?_⟩
        have ep : pdf len s salt (j + ahd t0) = 1 := by
          unfold pdf
          rw [if_pos (by omega)]
        rw [ep] at tail
        exact tail
      · refine vm_go rfl bX14_encodesx_79 oX14_encodesx_79 ⟨fun _ => ?_, fun z => ?_⟩
        rotate_left
        · have z : nI j = nI db - nI s - 1 := z
          rw [edbs, nI_ij (by omega) (by omega)] at z
          exact absurd z c2
        have eix : nI p2 + nI j - (nI db - nI s) = nI (p2 + (j - (db - s))) := by
          rw [nI_sub (by omega), nI_add, nI_sub (by omega)]
          congr 1; omega
        have vsj := vf9s (p2 + (j - (db - s))) (by omega)
        refine vm_go rfl bX14_encodesx_95 oX14_encodesx_95 ⟨ns, f9s, (F3.2 bs9 (by omega)).trans ef9s, _, eix, by omega, fun _ => ?_⟩
        have ep : sb (pdf len s salt (j + ahd t0)) = f9s (p2 + (j - (db - s))) := by
          rw [vsj.1]
          congr 1
          unfold pdf
          rw [if_neg (by omega), if_pos (by omega), show j + ahd t0 - (len - 49 - s) = j - (db - s) by omega, ← esalt, gb_sl (by omega)]
        rw [ep] at tail
        exact tail
  rintro h3 ⟨k3, ⟨c3, bc3, v3⟩, F3⟩
  refine vm_go rfl bX14_encodesx_56 oX14_encodesx_56 ⟨fun _ => ?_, fun z => absurd (nI_le (a := db) (b := db) (Nat.le_refl _) (by omega)) z⟩
  have v3 : ∀ q, q < db → c3 q = emX t.2.2.1 t.2.2.2 mk len t0 s salt (q + ahd t0) := fun q hq => by
    have := v3 q hq
    rwa [Nat.zero_add] at this
  have M3 := MH_cg3 M2 F3 (by omega)
  obtain ⟨f3, ef3, vf3⟩ := id bc3
  have v30 := vf3 0 (by decide)
  refine vm_go rfl bX14_encodesx_135 oX14_encodesx_135 ⟨_, _, k3.1.1, rfl, ⟨260, f3, ef3, 0, rfl, by decide, fun _ => ⟨0, 0, _, rm_clear M3 ⟨by omega, ql2⟩ ⟨qt1, qt2⟩ qlo qhi, Nat.zero_le _, Nat.zero_le _, ?_⟩⟩⟩
  rintro _ h4 ⟨rfl, e4⟩
  rw [e4]; clear e4 h4
  have hclr := (clr_e t0 qt2 qt1).2.2
  refine ⟨260, f3, ef3, l155, 0, rfl, by decide, ?_⟩
  have ex : (f3 0 &&& (nI (clr t0)).toInt8.toInt32).toInt8.toInt32 = sb (c3 0 &&& clr t0) := by
    rw [v30.1, sb_nI, Nat.mod_eq_of_lt hclr]; exact and_bb
  have hx0 : c3 0 &&& clr t0 < 256 := Nat.lt_of_le_of_lt Nat.and_le_left v30.2
  obtain ⟨h4, eh4⟩ : ∃ h4, h4 = vm_up h3 (a + 155) (.inl (.byte, 260, .inl (upd f3 0 (sb (c3 0 &&& clr t0))))) := ⟨_, rfl⟩
  have F4 : fr h3 h4 (fun q => q = a + 155) := eh4 ▸ fr_up rfl
  have b4' : bv h4 260 (a + 155) (b1 c3 0 (c3 0 &&& clr t0)) := eh4 ▸ bv_up vf3 hx0
  refine vm_Th (lv' := [(0, .ref a), (1, .int (nI i)), (2, .ref bi9), (3, .int (nI p1)), (4, .ref bs9), (5, .int (nI p2)), (6, .ref (a + 158)), (7, .ref (a + 219 + 6 * i)), (8, .int (nI size)), (9, .int (nI s)), (10, .int (nI db)), (11, .int (nI db))]) (h' := h4) rfl (by rw [eh4, ← sb_self _ hx0, ← ex]; rfl) ?_
  have k4 : SY h4 a t g [] m y := SY_fr k3 (RK_of k3.1 F4 ((F4.2 a (by omega)).trans k3.1.1) (fun q z => GDb (i := 155) (by unfold ZB; omega) rfl b4' z)) F4 (by omega)
  obtain ⟨c4, ec4⟩ : ∃ c4, b1 c3 0 (c3 0 &&& clr t0) = c4 := ⟨_, rfl⟩
  rw [ec4] at b4'
  have F4' : fr h2 h4 (fun q => q = a + 155) := fr_trans F3 F4
  refine vm_go rfl bX14_encodesx_151 oX14_encodesx_151 ?_
  refine vm_Th (lv' := [(0, .ref a), (1, .int (nI i)), (2, .ref bi9), (3, .int (nI p1)), (4, .ref bs9), (5, .int (nI p2)), (6, .ref (a + 158)), (7, .ref (a + 219 + 6 * i)), (8, .int (nI size)), (9, .int (nI s)), (10, .int (nI db)), (11, .int (nI 0))]) (h' := h4) rfl rfl ?_
  refine vm_loop (fun j h' => SY h' a t g [] m y ∧ (∃ c, bv h' 260 (a + 155) c ∧ (∀ q, q < j → c (db + q) = gb mk q) ∧ ∀ q, q < db ∨ db + j ≤ q → c q = c4 q) ∧ fr h2 h' (fun q => q = a + 155)) 48 (fun j => [(0, .ref a), (1, .int (nI i)), (2, .ref bi9), (3, .int (nI p1)), (4, .ref bs9), (5, .int (nI p2)), (6, .ref (a + 158)), (7, .ref (a + 219 + 6 * i)), (8, .int (nI size)), (9, .int (nI s)), (10, .int (nI db)), (11, .int (nI j))]) 0 h4 (Nat.zero_le _) ⟨k4, ⟨c4, b4', fun j hj => by omega, fun _ _ => rfl⟩, F4'⟩ ?_ ?_
  rotate_left
  · rintro j h5 _ hj ⟨k5, ⟨c5, bc5, v5, u5⟩, F5⟩ ih
    obtain ⟨f5, ef5, vf5⟩ := id bc5
    have vkj := vfk j (by omega)
    refine vm_go rfl bX14_encodesx_154 oX14_encodesx_154 ⟨fun z => absurd z (nI_ge (b := 48) hj (by decide)), fun _ => ⟨_, _, k5.1.1, rfl, ⟨_, _, k5.1.1, rfl, ⟨48, fk, (F5.2 _ (by omega)).trans efk, j, rfl, hj, fun _ => ⟨260, f5, ef5, l155, db + j, nI_add _ _, by omega, ?_⟩⟩⟩⟩⟩
    obtain ⟨h6, eh6⟩ : ∃ h6, h6 = vm_up h5 (a + 155) (.inl (.byte, 260, .inl (upd f5 (db + j) (sb (ck j))))) := ⟨_, rfl⟩
    have F6 : fr h5 h6 (fun q => q = a + 155) := eh6 ▸ fr_up rfl
    have b6' : bv h6 260 (a + 155) (b1 c5 (db + j) (ck j)) := eh6 ▸ bv_up vf5 vkj.2
    refine vm_Th (lv' := [(0, .ref a), (1, .int (nI i)), (2, .ref bi9), (3, .int (nI p1)), (4, .ref bs9), (5, .int (nI p2)), (6, .ref (a + 158)), (7, .ref (a + 219 + 6 * i)), (8, .int (nI size)), (9, .int (nI s)), (10, .int (nI db)), (11, .int (nI j))]) (h' := h6) rfl (by rw [eh6, ← sb_self _ vkj.2, ← vkj.1]; rfl) ?_
    have k6 : SY h6 a t g [] m y := SY_fr k5 (RK_of k5.1 F6 ((F6.2 a (by omega)).trans k5.1.1) (fun q z => GDb (i := 155) (by unfold ZB; omega) rfl b6' z)) F6 (by omega)
    refine vm_go rfl bX14_encodesx_178 oX14_encodesx_178 (vm_Th (by rw [← nI_1 j]; rfl) rfl (ih h6 ⟨k6, ⟨_, b6', bstp v5 ?_, bstq u5⟩, fr_trans F5 F6⟩))
    have := sl_all ek j hj
    rwa [Nat.zero_add] at this
  rintro h5 ⟨k5, ⟨c5, bc5, v5, u5⟩, F5⟩
  refine vm_go rfl bX14_encodesx_154 oX14_encodesx_154 ⟨fun _ => ?_, fun z => absurd (nI_le (a := 48) (b := 48) (by decide) (by decide)) z⟩
  obtain ⟨f5, ef5, vf5⟩ := id bc5
  refine vm_go rfl bX14_encodesx_184 oX14_encodesx_184 ⟨_, _, k5.1.1, rfl, ⟨260, f5, ef5, l155, size - 1, nI_sub (b := 1) (by omega), by omega, ?_⟩⟩
  obtain ⟨h6, eh6⟩ : ∃ h6, h6 = vm_up h5 (a + 155) (.inl (.byte, 260, .inl (upd f5 (size - 1) (sb 188)))) := ⟨_, rfl⟩
  have F6 : fr h5 h6 (fun q => q = a + 155) := eh6 ▸ fr_up rfl
  have b6' : bv h6 260 (a + 155) (b1 c5 (size - 1) 188) := eh6 ▸ bv_up vf5 (by decide)
  refine vm_Th (lv' := [(0, .ref a), (1, .int (nI i)), (2, .ref bi9), (3, .int (nI p1)), (4, .ref bs9), (5, .int (nI p2)), (6, .ref (a + 158)), (7, .ref (a + 219 + 6 * i)), (8, .int (nI size)), (9, .int (nI s)), (10, .int (nI db)), (11, .int (nI 48))]) (h' := h6) rfl (by rw [eh6, show sb 188 = ((-68 : Int32)).toInt8.toInt32 by decide]; rfl) ?_
  have k6 : SY h6 a t g [] m y := SY_fr k5 (RK_of k5.1 F6 ((F6.2 a (by omega)).trans k5.1.1) (fun q z => GDb (i := 155) (by unfold ZB; omega) rfl b6' z)) F6 (by omega)
  have F6' : fr h h6 (fun q => q = a ∨ (a + 28 ≤ q ∧ q ≤ a + 33) ∨ q = a + 36 ∨ (a + 155 ≤ q ∧ q ≤ a + 158)) := fr_trans FF (fr_trans (fr_mono F5 (fun q z => by omega)) (fr_mono F6 (fun q z => by omega)))
  have M6 := MH_cg3 hM F6' (by omega)
  obtain ⟨f158, e158⟩ := RK_64 k6.1 (i := 158) (by unfold ZI; omega) rfl
  have hn4 : n = (len + 3) / 4 := qn
  refine vm_go rfl bX14_encodesx_195 oX14_encodesx_195 ⟨_, _, k6.1.1, rfl, ⟨_, _, M6.1.1, rfl, ⟨0, 0, _, rm_load (at9 := 0) (size := size) (n := n) b6' (by omega) (by decide) e158 (by omega) (by omega) (by omega) (by omega), Nat.zero_le _, Nat.zero_le _, ?_⟩⟩⟩
  rintro _ h7 ⟨rfl, w7, F7⟩
  have k7 : SY h7 a t g [] m y := SY_fr k6 (RK_of k6.1 F7 ((F7.2 a (by omega)).trans k6.1.1) (fun q z => .inr (z ▸ GD_i (i := 158) (by unfold ZI; omega) (wv_iw w7)))) F7 (by omega)
  refine ⟨rfl, k7, ?_, fr_trans F6' (fr_mono F7 (fun q z => by omega))⟩
  rw [← EM_bn (c := b1 c5 (size - 1) 188) ql1 qt1 (fun j hj => ?_), esz]
  · exact w7
  rw [esz] at hj
  rw [emk9]
  unfold emf b1
  by_cases j1 : j = size - 1
  · rw [if_pos j1, if_neg (by omega), if_neg (by omega)]
  rw [if_neg j1]
  by_cases j2 : j < db
  · rw [if_pos (show j + ahd t0 < len - 49 by omega), u5 j (.inl j2), ← ec4]
    unfold b1
    by_cases j3 : j = 0
    · rw [if_pos j3, j3, Nat.zero_add]
      rw [v3 0 (by omega), Nat.zero_add]
      by_cases h1 : t0 = 1
      · have ea : ahd t0 = 1 := if_pos h1
        have ec : clr t0 = 255 := if_pos h1
        rw [ea, ec, if_neg (by omega), and_255 (emX_lt osalt)]
      · have ea : ahd t0 = 0 := if_neg h1
        have ec : clr t0 = kep t0 := if_neg h1
        rw [ea, ec, if_pos rfl]
    · rw [if_neg j3, v3 j j2, if_neg (by omega)]
  · rw [if_neg (show ¬ j + ahd t0 < len - 49 by omega), if_pos (by omega)]
    have := v5 (j - db) (by omega)
    rw [show db + (j - db) = j by omega] at this
    rw [this, show j + ahd t0 - (len - 49) = j - db by omega]
end
