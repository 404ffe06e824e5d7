/-! the reference: keyId, comes -/
def bX14_keyIdx_0 : List vm_J := [(1, .aload_n 0, 0, 0, 0, .null), (1, .iconst 0, 0, 0, 0, .int 0), (3, .putfield 203, 14, 19, 0, .null)]
set_option maxRecDepth 20000 in
theorem oX14_keyIdx_0 : vm_okB 14 mX14_keyId 0 bX14_keyIdx_0 = true := by decide +kernel
def bX14_keyIdx_5 : List vm_J := [(1, .aload_n 0, 0, 0, 0, .null), (3, .getfield 450, 14, 54, 0, .null), (1, .iload_n 1, 0, 0, 0, .null), (1, .iaload, 0, 0, 0, .null), (1, .iconst 1, 0, 0, 0, .int 1), (3, .if_icmp .ne 31, 43, 0, 0, .null), (1, .aload_n 0, 0, 0, 0, .null), (3, .getfield 416, 14, 58, 0, .null), (1, .iload_n 1, 0, 0, 0, .null), (1, .aaload, 0, 0, 0, .null), (1, .aload_n 0, 0, 0, 0, .null), (3, .getfield 360, 14, 49, 0, .null), (1, .iconst 0, 0, 0, 0, .int 0), (3, .invokestatic 363, 163, 3, 0, .null), (1, .aload_n 0, 0, 0, 0, .null), (1, .aload_n 0, 0, 0, 0, .null), (3, .getfield 360, 14, 49, 0, .null), (1, .iconst 0, 0, 0, 0, .int 0), (2, .bipush 49, 0, 0, 0, .int 49), (3, .invokevirtual 287, 166, 3, 14, .null), (3, .goto 74, 114, 0, 0, .null)]
set_option maxRecDepth 20000 in
theorem oX14_keyIdx_5 : vm_okB 14 mX14_keyId 5 bX14_keyIdx_5 = true := by decide +kernel
def bX14_keyIdx_43 : List vm_J := [(1, .aload_n 0, 0, 0, 0, .null), (3, .getfield 461, 14, 59, 0, .null), (1, .iload_n 1, 0, 0, 0, .null), (1, .aaload, 0, 0, 0, .null), (3, .getfield 22, 12, 0, 0, .null), (1, .aload_n 0, 0, 0, 0, .null), (3, .getfield 498, 14, 78, 0, .null), (1, .iconst 0, 0, 0, 0, .int 0), (1, .aload_n 0, 0, 0, 0, .null), (3, .getfield 468, 14, 61, 0, .null), (1, .iload_n 1, 0, 0, 0, .null), (1, .iaload, 0, 0, 0, .null), (3, .invokestatic 192, 156, 4, 0, .null), (1, .aload_n 0, 0, 0, 0, .null), (1, .aload_n 0, 0, 0, 0, .null), (3, .getfield 498, 14, 78, 0, .null), (1, .iconst 0, 0, 0, 0, .int 0), (1, .aload_n 0, 0, 0, 0, .null), (3, .getfield 468, 14, 61, 0, .null), (1, .iload_n 1, 0, 0, 0, .null), (1, .iaload, 0, 0, 0, .null), (3, .invokevirtual 287, 166, 3, 14, .null), (1, .aload_n 0, 0, 0, 0, .null), (1, .aload_n 0, 0, 0, 0, .null), (3, .getfield 465, 14, 60, 0, .null), (1, .iload_n 1, 0, 0, 0, .null), (1, .iaload, 0, 0, 0, .null), (2, .bipush 16, 0, 0, 0, .int 16), (1, .ishr, 0, 0, 0, .null), (3, .invokevirtual 206, 165, 1, 14, .null), (1, .aload_n 0, 0, 0, 0, .null), (1, .aload_n 0, 0, 0, 0, .null), (3, .getfield 465, 14, 60, 0, .null), (1, .iload_n 1, 0, 0, 0, .null), (1, .iaload, 0, 0, 0, .null), (3, .invokevirtual 296, 167, 1, 14, .null), (1, .aload_n 0, 0, 0, 0, .null), (1, .aload_n 0, 0, 0, 0, .null), (3, .getfield 471, 14, 62, 0, .null), (1, .iload_n 1, 0, 0, 0, .null), (1, .iaload, 0, 0, 0, .null), (3, .invokevirtual 206, 165, 1, 14, .null)]
set_option maxRecDepth 20000 in
theorem oX14_keyIdx_43 : vm_okB 14 mX14_keyId 43 bX14_keyIdx_43 = true := by decide +kernel
def bX14_keyIdx_114 : List vm_J := [(1, .aload_n 0, 0, 0, 0, .null), (3, .invokevirtual 567, 173, 0, 14, .null), (1, .iconst 0, 0, 0, 0, .int 0), (1, .istore_n 2, 0, 0, 0, .null)]
set_option maxRecDepth 20000 in
theorem oX14_keyIdx_114 : vm_okB 14 mX14_keyId 114 bX14_keyIdx_114 = true := by decide +kernel
def bX14_keyIdx_120 : List vm_J := [(1, .iload_n 2, 0, 0, 0, .null), (2, .bipush 32, 0, 0, 0, .int 32), (3, .if_icmp .ge 26, 149, 0, 0, .null), (1, .aload_n 0, 0, 0, 0, .null), (3, .getfield 457, 14, 56, 0, .null), (2, .bipush 32, 0, 0, 0, .int 32), (1, .iload_n 1, 0, 0, 0, .null), (1, .imul, 0, 0, 0, .null), (1, .iload_n 2, 0, 0, 0, .null), (1, .iadd, 0, 0, 0, .null), (1, .aload_n 0, 0, 0, 0, .null), (3, .getfield 243, 14, 20, 0, .null), (1, .iload_n 2, 0, 0, 0, .null), (1, .baload, 0, 0, 0, .null), (1, .bastore, 0, 0, 0, .null)]
set_option maxRecDepth 20000 in
theorem oX14_keyIdx_120 : vm_okB 14 mX14_keyId 120 bX14_keyIdx_120 = true := by decide +kernel
def bX14_keyIdx_143 : List vm_J := [(3, .iinc 2 1, 0, 0, 0, .int 1), (3, .goto (-26), 120, 0, 0, .null)]
set_option maxRecDepth 20000 in
theorem oX14_keyIdx_143 : vm_okB 14 mX14_keyId 143 bX14_keyIdx_143 = true := by decide +kernel
def bX14_keyIdx_149 : List vm_J := [(1, .return_, 0, 0, 0, .null)]
set_option maxRecDepth 20000 in
theorem oX14_keyIdx_149 : vm_okB 14 mX14_keyId 149 bX14_keyIdx_149 = true := by decide +kernel
def bX14_comesx_0 : List vm_J := [(1, .aload_n 0, 0, 0, 0, .null), (3, .getfield 450, 14, 54, 0, .null), (1, .aload_n 0, 0, 0, 0, .null), (3, .getfield 584, 14, 63, 0, .null), (1, .iload_n 1, 0, 0, 0, .null), (1, .iastore, 0, 0, 0, .null)]
set_option maxRecDepth 20000 in
theorem oX14_comesx_0 : vm_okB 14 mX14_comes 0 bX14_comesx_0 = true := by decide +kernel
def bX14_comesx_10 : List vm_J := [(1, .aload_n 0, 0, 0, 0, .null), (3, .getfield 453, 14, 55, 0, .null), (1, .aload_n 0, 0, 0, 0, .null), (3, .getfield 584, 14, 63, 0, .null), (1, .iconst 1, 0, 0, 0, .int 1), (1, .bastore, 1, 0, 0, .null)]
set_option maxRecDepth 20000 in
theorem oX14_comesx_10 : vm_okB 14 mX14_comes 10 bX14_comesx_10 = true := by decide +kernel
def bX14_comesx_20 : List vm_J := [(1, .aload_n 0, 0, 0, 0, .null), (1, .aload_n 0, 0, 0, 0, .null), (3, .getfield 584, 14, 63, 0, .null), (3, .invokevirtual 590, 205, 1, 14, .null), (1, .aload_n 0, 0, 0, 0, .null), (1, .dup, 0, 0, 0, .null), (3, .getfield 584, 14, 63, 0, .null), (1, .iconst 1, 0, 0, 0, .int 1), (1, .iadd, 0, 0, 0, .null), (3, .putfield 584, 14, 63, 0, .null)]
set_option maxRecDepth 20000 in
theorem oX14_comesx_20 : vm_okB 14 mX14_comes 20 bX14_comesx_20 = true := by decide +kernel
def bX14_comesx_38 : List vm_J := [(1, .aload_n 0, 0, 0, 0, .null), (3, .getfield 584, 14, 63, 0, .null), (1, .iconst 1, 0, 0, 0, .int 1), (1, .isub, 0, 0, 0, .null), (1, .ireturn, 0, 0, 0, .null)]
set_option maxRecDepth 20000 in
theorem oX14_comesx_38 : vm_okB 14 mX14_comes 38 bX14_comesx_38 = true := by decide +kernel
theorem vm_metE {E : vm_E} {y : vm_M} {kc ks : Nat} {as as' : List Value} {h : vm_H} {Q : Option Value → vm_H → Prop} (e : as = as') (c : vm_Met E y kc ks as' h Q) : vm_Met E y kc ks as h Q := e ▸ c
def off (a q : Nat) : Prop := (a + 73 ≤ q ∧ q ≤ a + 154) ∨ (a + 216 ≤ q ∧ q < 1099511627776)
theorem GD_cg {h h' : vm_H} {a q : Nat} (k : GD h a q) (e : h'.2 q = h.2 q) : GD h' a q := by
  obtain ⟨i, e1, k⟩ := k
  refine ⟨i, e1, ?_⟩
  rcases k with ⟨z, k⟩ | ⟨z, k⟩ | ⟨z, k⟩ | ⟨z, k⟩ | ⟨z, b, k⟩ | ⟨s, z, z2, k⟩
  · exact .inl ⟨z, iw_cg k e⟩
  · exact .inr (.inl ⟨z, bx9_cg k e⟩)
  · exact .inr (.inr (.inl ⟨z, lw_cg k e⟩))
  · exact .inr (.inr (.inr (.inl ⟨z, lw_cg k e⟩)))
  · exact .inr (.inr (.inr (.inr (.inl ⟨z, b, e.trans k⟩))))
  · exact .inr (.inr (.inr (.inr (.inr ⟨s, z, z2, iw_cg k e⟩))))
theorem RK_off {h h' : vm_H} {a : Nat} {t : KT} {g : Nat → Int32} {S : Nat → Prop} (k : RK h a t g) (F : fr h h' S) (hS : ∀ q, S q → off a q) : RK h' a t g := by
  have ao := k.2.1
  have e : ∀ q, (q ≤ a + 72 ∨ (a + 155 ≤ q ∧ q ≤ a + 215) ∨ 1099511627776 ≤ q) → h'.2 q = h.2 q := fun q z => F.2 q (fun y => by have := hS q y; unfold off at this; omega)
  have F2 : fr h h' (fun q => q ≠ a ∧ ¬ (q ≤ a + 72 ∨ (a + 155 ≤ q ∧ q ≤ a + 215) ∨ 1099511627776 ≤ q)) := ⟨F.1, fun q z => e q (by omega)⟩
  obtain ⟨k1, k2, ⟨kv, ⟨w1, w2, w3, w4, w5, w6, w7, w8⟩, t1, t2, t3, t4⟩, ⟨c1, c2, c3, c4, c5, c6, ⟨fa, ea, va⟩, ⟨fb, eb, vb⟩⟩, k5, k6, ⟨k7, k8⟩, k9⟩ := k
  have oo : ∀ q, 1099511627776 ≤ q → h'.2 q = h.2 q := fun q hq => e q (by omega)
  exact ⟨(e a (by omega)).trans k1, k2, ⟨RV_fr kv F2 (fun q z => by omega), ⟨sto_fr w1 oo, sto_fr w2 oo, sto_fr w3 oo, sto_fr w4 oo, sto_fr w5 oo, sto_fr w6 oo, sto_fr w7 oo, sto_fr w8 oo⟩, (oo _ (by decide)).trans t1, (oo _ (by decide)).trans t2, (oo _ (by decide)).trans t3, (oo _ (by decide)).trans t4⟩, ⟨MH_cg3 c1 F2 (by omega), MH_cg3 c2 F2 (by omega), SP_fr c3 F2 (fun q z1 z2 => by omega), wv_cg c4 (e _ (by omega)), wq_cg c5 (e _ (by omega)), wq_cg c6 (e _ (by omega)), ⟨fa, (e _ (by omega)).trans ea, va⟩, ⟨fb, (e _ (by omega)).trans eb, vb⟩⟩, fun i hi => iw_cg (k5 i hi) (e _ (by unfold ZI at hi; omega)), fun i hi => bx9_cg (k6 i hi) (e _ (by unfold ZB at hi; omega)), ⟨lw_cg k7 (e _ (by omega)), lw_cg k8 (e _ (by omega))⟩, fun s hs => SQ_cg (k9 s hs) (fun q z1 z2 => e _ (by unfold ZP at hs; omega))⟩
theorem RK_mix {h h' : vm_H} {a : Nat} {t : KT} {g g' : Nat → Int32} {S : Nat → Prop} (k : RK h a t g) (F : fr h h' S) (ho : h'.2 a = RO a g') (hS : ∀ q, S q → q = a ∨ GD h' a q ∨ off a q) : RK h' a t g' := by
  have ao := k.2.1
  obtain ⟨hm, em⟩ : ∃ hm : vm_H, hm = (h.1, fun q => if (a + 73 ≤ q ∧ q ≤ a + 154) ∨ (a + 216 ≤ q ∧ q < 1099511627776) then h.2 q else h'.2 q) := ⟨_, rfl⟩
  have y1 : ∀ q, off a q → hm.2 q = h.2 q := fun q z => by rw [em]; exact if_pos z
  have y2 : ∀ q, ¬ off a q → hm.2 q = h'.2 q := fun q z => by rw [em]; exact if_neg z
  have e1 : hm.1 = h.1 := by rw [em]
  have na : ¬ off a a := by unfold off; omega
  have F1 : fr h hm (fun q => S q ∧ ¬ off a q) := ⟨e1, fun q z => by
    by_cases c : off a q
    · exact y1 q c
    · rw [y2 q c]; exact F.2 q (fun s => z ⟨s, c⟩)⟩
  have km : RK hm a t g' := RK_of k F1 ((y2 a na).trans ho) (fun q z => by
    rcases hS q z.1 with c | c | c
    · exact .inl c
    · exact .inr (GD_cg c (y2 q z.2))
    · exact absurd c z.2)
  have F2 : fr hm h' (fun q => off a q) := ⟨F.1.trans e1.symm, fun q z => (y2 q z).symm⟩
  exact RK_off km F2 (fun q z => z)
theorem SY_mix {h h' : vm_H} {a : Nat} {t : KT} {g : Nat → Int32} {w m y : List Nat} {S : Nat → Prop} (k : SY h a t g w m y) (F : fr h h' S) (ha : ¬ S a) (hS : ∀ q, S q → GD h' a q ∨ off a q) (n : ¬ S (a + 28) ∧ ¬ S (a + 34) ∧ ¬ S (a + 35)) : SY h' a t g w m y :=
  SY_fr k (RK_mix k.1 F ((F.2 a ha).trans k.1.1) (fun q z => .inr (hS q z))) F n
/-- a KEY that comes in the place i -/
def NK (h : vm_H) (a i : Nat) (x : aK) : Prop := KR h a i x ∧ (∃ f, ia h 6 (a + 85) f ∧ (kty x = 2 → f i = nI (bn (gb (ksh x)) (ksz x) 3))) ∧ (∃ f, ia h 6 (a + 86) f ∧ f i = nI (ksz x)) ∧ (∃ f, ia h 6 (a + 87) f ∧ (kty x = 2 → f i = nI (ksa x)))
theorem NK_cg {h h' : vm_H} {a i : Nat} {x : aK} (k : NK h a i x) (hi : i < 6) (e : ∀ q, (a + 77 ≤ q ∧ q ≤ a + 87) ∨ (a + 216 ≤ q ∧ q ≤ a + 251) → h'.2 q = h.2 q) : NK h' a i x := by
  obtain ⟨k1, ⟨f2, k2, v2⟩, ⟨f3, k3, v3⟩, ⟨f4, k4, v4⟩⟩ := k
  exact ⟨KR_cg k1 (e _ (by omega)) (fun q z1 z2 => e _ (by omega)), ⟨f2, ia_cg9 k2 (e _ (by omega)), v2⟩, ⟨f3, ia_cg9 k3 (e _ (by omega)), v3⟩, ⟨f4, ia_cg9 k4 (e _ (by omega)), v4⟩⟩
theorem ia_u {h : vm_H} {L q : Nat} {f f' : Nat → Int32} (k : ia h L q f) (k' : ia h L q f') : f = f' := by
  have e : (Sum.inl (FieldType.int, L, Sum.inl f) : vm_Ob) = .inl (.int, L, .inl f') := k.symm.trans k'
  injection e with e
  injection e with _ e
  injection e with _ e
  injection e
theorem KR_i {h : vm_H} {a i : Nat} {x : aK} {id : List Nat} (k : KR h a i x) : KR h a i (kwi x id) := k
theorem SK_nw {h : vm_H} {a kn : Nat} {kf : Nat → aK} {x : aK} {id : List Nat} {ft fl : Nat → Int32} {c : Nat → Nat} (k : SK h a kn kf) (hk : kn < 6) (nk : NK h a kn x) (lx : klv x = true) {h' : vm_H} (F : fr h h' (fun q => q = a + 73 ∨ q = a + 74 ∨ q = a + 75)) (t1 : ia h' 6 (a + 73) ft) (t2 : ∀ i, i < kn + 1 → ft i = nI (kty (fu kf kn (kwi x id) i))) (t3 : bo9 h' 6 (a + 74) fl) (t4 : ∀ i, i < kn + 1 → fl i = bi (klv (fu kf kn (kwi x id) i))) (t5 : bv h' 192 (a + 75) c) (t6 : ∀ i, i < kn + 1 → sl c (32 * i) 32 = kid (fu kf kn (kwi x id) i)) : SK h' a (kn + 1) (fu kf kn (kwi x id)) := by
  obtain ⟨⟨f1, k1, v1⟩, ⟨f2, k2, v2⟩, ⟨f3, k3, v3⟩, k4, k5, k6, ⟨f7, k7, v7⟩, ⟨f8, k8, v8⟩, ⟨f9, k9, v9⟩, k10, k11⟩ := k
  obtain ⟨n1, ⟨g2, n2, w2⟩, ⟨g3, n3, w3⟩, ⟨g4, n4, w4⟩⟩ := nk
  cases ia_u k7 n2
  cases ia_u k8 n3
  cases ia_u k9 n4
  have e : ∀ q, ¬ (q = a + 73 ∨ q = a + 74 ∨ q = a + 75) → h'.2 q = h.2 q := fun q z => F.2 q z
  have go9 : ∀ (P : Nat → aK → Prop), (∀ i, i < kn → P i (kf i)) → P kn (kwi x id) → ∀ i, i < kn + 1 → P i (fu kf kn (kwi x id) i) := fun P p1 p2 i hi => by
    by_cases c : i = kn
    · rw [c, fu_e]; exact p2
    · rw [fu_n c]; exact p1 i (by omega)
  refine ⟨⟨ft, t1, t2⟩, ⟨fl, t3, t4⟩, ⟨c, t5, t6⟩, rr9_cg k4 (e _ (by omega)), rr9_cg k5 (e _ (by omega)), rr9_cg k6 (e _ (by omega)), ⟨f7, ia_cg9 k7 (e _ (by omega)), go9 (fun i z => kty z = 2 → f7 i = nI (bn (gb (ksh z)) (ksz z) 3)) v7 w2⟩, ⟨f8, ia_cg9 k8 (e _ (by omega)), go9 (fun i z => f8 i = nI (ksz z)) v8 w3⟩, ⟨f9, ia_cg9 k9 (e _ (by omega)), go9 (fun i z => kty z = 2 → f9 i = nI (ksa z)) v9 w4⟩, fun i hi => ?_, fun i hi => KR_cg (go9 (fun i z => KR h a i z) k11 (KR_i n1) i hi) (e _ (by omega)) (fun q z1 z2 => e _ (by omega))⟩
  obtain ⟨q1, q2, q3⟩ := k10 i hi
  exact ⟨iw_cg q1 (e _ (by omega)), SQ_cg q2 (fun q z1 z2 => e _ (by omega)), MQ9_cg q3 (fun q z1 z2 => e _ (by omega))⟩
section
variable {l : Launch} {O : Nat → vm_Ob} {f9 : Value} {h h' : vm_H} {a kn an rd wr : Nat} {t : KT} {g g' : Nat → Int32} {m y w ou : List Nat} {kf : Nat → aK} {af : Nat → aA} {D : Nat → Nat} {dn : Bool} {wl : Int} {th : Int32}
/-- what keyId asks of a KEY -/
def k2b (x : aK) : Prop := kty x = 1 ∨ (kty x = 2 ∧ (66 ≤ ksz x ∧ ksz x ≤ 256) ∧ (ksh x).length = ksz x + 3 ∧ ok8 (ksh x) ∧ bn (gb (ksh x)) (ksz x) 3 ≤ 65537 ∧ ksa x < 256)
theorem rm_keyId {i : Nat} {x : aK} {w9 : List Nat} {c0 : Nat → Nat} (hi : i < 6) (k : SY h a t g w9 m y) (hty : ∃ f, ia h 6 (a + 73) f ∧ f i = nI (kty x)) (hid : bv h 192 (a + 75) c0) (hp : rr9 h (.object "VeilMintModel$Spot") 6 (a + 83) (fun i => a + 216 + 6 * i)) (hm : rr9 h (.object "VeilMintModel$Mod") 6 (a + 84) (fun i => a + 219 + 6 * i)) (nk : NK h a i x) (ki : k2b x) : vm_Met (vm_env l O f9) mX14_keyId 0 0 [.ref a, .int (nI i)] h (fun r h' => r = none ∧ SY h' a t g [] m y ∧ (∃ c', bv h' 192 (a + 75) c' ∧ sl c' (32 * i) 32 = kdi t.1 t.2.1 x ∧ ∀ j, j < 32 * i ∨ 32 * i + 32 ≤ j → c' j = c0 j) ∧ fr h h' (fun q => q = a ∨ (a + 28 ≤ q ∧ q ≤ a + 33) ∨ q = a + 68 ∨ q = a + 75 ∨ q = a + 155)) := by
  have ao := k.1.2.1
  have la : a < 1099511627776 := by omega
  have l75 : a + 75 < 1099511627776 := by omega
  refine vm_met rfl (Nat.le_of_ble_eq_true rfl) ?_
  refine vm_go rfl bX14_keyIdx_0 oX14_keyIdx_0 ⟨_, k.1.1, la, show 19 < 89 by decide, trivial, ?_⟩
  obtain ⟨h1, eh1⟩ : ∃ h1, h1 = vm_up h a (RO a (u3 g (nI ([] : List Nat).length) (nI m.length) (nI y.length))) := ⟨_, rfl⟩
  obtain ⟨k1, F1⟩ := SY_clr k eh1
  refine vm_Th (lv' := [(0, .ref a), (1, .int (nI i))]) (h' := h1) rfl eh1 ?_
  have fin : ∀ (h2 : vm_H) (W : List Nat), SY h2 a t g W m y → W.length ≤ 300 → W = ksh x ++ (if kty x = 2 then [ksa x] else []) → fr h h2 (fun q => q = a ∨ q = a + 28 ∨ q = a + 68 ∨ q = a + 155) → vm_T (vm_env l O f9) mX14_keyId 0 0 114 [(0, .ref a), (1, .int (nI i))] [] h2 (fun r h' => r = none ∧ SY h' a t g [] m y ∧ (∃ c', bv h' 192 (a + 75) c' ∧ sl c' (32 * i) 32 = kdi t.1 t.2.1 x ∧ ∀ j, j < 32 * i ∨ 32 * i + 32 ≤ j → c' j = c0 j) ∧ fr h h' (fun q => q = a ∨ (a + 28 ≤ q ∧ q ≤ a + 33) ∨ q = a + 68 ∨ q = a + 75 ∨ q = a + 155)) := by
    intro h2 W k2 hW eW F2
    refine vm_go rfl bX14_keyIdx_114 oX14_keyIdx_114 ⟨_, k2.1.1, 0, 0, _, rm_h2 k2 (by omega), Nat.zero_le _, Nat.zero_le _, ?_⟩
    rintro _ h3 ⟨rfl, k3, ⟨cd, bd, ed⟩, F3⟩
    have F03 : fr h h3 (fun q => q = a ∨ (a + 28 ≤ q ∧ q ≤ a + 33) ∨ q = a + 68 ∨ q = a + 155) := fr_trans (fr_mono F2 (fun q z => by omega)) (fr_mono F3 (fun q z => by omega))
    obtain ⟨fd, efd, vfd⟩ := id bd
    have bi3 : bv h3 192 (a + 75) c0 := bv_cg hid (F03.2 _ (by omega))
    refine vm_Th (lv' := [(0, .ref a), (1, .int (nI i)), (2, .int (nI 0))]) (h' := h3) rfl rfl ?_
    refine vm_loop (fun j h' => SY h' a t g [] m y ∧ (∃ c', bv h' 192 (a + 75) c' ∧ (∀ q, q < j → c' (32 * i + q) = cd q) ∧ (∀ q, q < 32 * i ∨ 32 * i + j ≤ q → c' q = c0 q)) ∧ fr h3 h' (fun q => q = a + 75)) 32 (fun j => [(0, .ref a), (1, .int (nI i)), (2, .int (nI j))]) 0 h3 (Nat.zero_le _) ⟨k3, ⟨c0, bi3, fun j hj => by omega, fun _ _ => rfl⟩, fr_refl⟩ ?_ ?_
    rotate_left
    · rintro j h7 _ hj ⟨k7, ⟨c7, ⟨f7, ef7, vf7⟩, v7, w7⟩, F7⟩ ih
      have vs := vfd j (by omega)
      refine vm_go rfl bX14_keyIdx_120 oX14_keyIdx_120 ⟨fun q => absurd q (nI_ge (b := 32) hj (by decide)), fun _ => ⟨_, _, k7.1.1, rfl, ⟨_, _, k7.1.1, rfl, ⟨48, fd, (F7.2 _ (by omega)).trans efd, j, rfl, by omega, fun _ => ⟨192, f7, ef7, l75, 32 * i + j, by rw [← nI_add, ← nI_mul]; rfl, by omega, ?_⟩⟩⟩⟩⟩
      obtain ⟨h8, eh8⟩ : ∃ h8, h8 = vm_up h7 (a + 75) (.inl (.byte, 192, .inl (upd f7 (32 * i + j) (sb (cd j))))) := ⟨_, rfl⟩
      have F8 : fr h7 h8 (fun q => q = a + 75) := eh8 ▸ fr_up rfl
      have b8' : bv h8 192 (a + 75) (b1 c7 (32 * i + j) (cd j)) := eh8 ▸ bv_up vf7 vs.2
      refine vm_Th (lv' := [(0, .ref a), (1, .int (nI i)), (2, .int (nI j))]) (h' := h8) rfl (by rw [eh8, ← sb_self _ vs.2, ← vs.1]; rfl) ?_
      refine vm_go rfl bX14_keyIdx_143 oX14_keyIdx_143 (vm_Th (by rw [← nI_1 j]; rfl) rfl (ih h8 ⟨SY_off k7 F8 (fun q z => by omega), ⟨_, b8', bstp (v := cd) v7 rfl, bstq w7⟩, fr_trans F7 F8⟩))
    rintro h7 ⟨k7, ⟨c7, b7, v7, w7⟩, F7⟩
    refine vm_go rfl bX14_keyIdx_120 oX14_keyIdx_120 ⟨fun _ => ?_, fun q => absurd (nI_le (a := 32) (b := 32) (by decide) (by decide)) q⟩
    refine vm_go rfl bX14_keyIdx_149 oX14_keyIdx_149 ⟨rfl, k7, ⟨c7, b7, ?_, w7⟩, fr_trans (fr_mono F03 (fun q z => by omega)) (fr_mono F7 (fun q z => by omega))⟩
    have e9 : sl c7 (32 * i) 32 = sl cd 0 32 := sl_ext (fun j hj => by rw [v7 j hj, Nat.zero_add])
    rw [e9, ed, eW]; rfl
  obtain ⟨ft, et, vt⟩ := hty
  refine vm_go rfl bX14_keyIdx_5 oX14_keyIdx_5 ⟨_, _, k1.1.1, rfl, ⟨6, ft, (F1.2 _ (by omega)).trans et, i, rfl, by omega, fun _ => ?_⟩⟩
  rw [vt]
  have nk1 := NK_cg nk hi (fun q z => F1.2 q (by omega))
  have n68 : bx9 h1 49 (a + 68) := k1.1.2.2.2.2.2.1 68 (by unfold ZB; omega)
  have n155 : bx9 h1 260 (a + 155) := k1.1.2.2.2.2.2.1 155 (by unfold ZB; omega)
  rcases ki with ht | ⟨ht, ⟨s1, s2⟩, lsh, osh, he, hsa⟩
  · obtain ⟨A, eA, _, sA⟩ := (nk1.1.1 ht).2
    obtain ⟨fp, efp, vp⟩ := hp
    obtain ⟨cs9, b68⟩ := n68
    rw [ht]
    refine ⟨fun q => absurd rfl q, fun _ => ⟨_, _, k1.1.1, rfl, ⟨_, _, _, _, (F1.2 _ (by omega)).trans efp, by decide, rfl, i, rfl, by omega, va_e (vp i (by omega)), ⟨_, _, k1.1.1, rfl, ⟨0, 0, _, rm_bytes (at9 := 0) sA b68 (by omega) (by decide) (by decide), Nat.zero_le _, Nat.zero_le _, ?_⟩⟩⟩⟩⟩
    rintro _ h2 ⟨rfl, ⟨c2, b2, s2, _⟩, F2⟩
    have k2 : SY h2 a t g [] m y := SY_fr k1 (RK_of k1.1 F2 ((F2.2 a (by omega)).trans k1.1.1) (fun q z => .inr (z ▸ GD_r (i := 68) (by unfold ZB; omega) rfl ⟨_, b2⟩))) F2 (by omega)
    refine ⟨_, _, k2.1.1, rfl, ⟨_, k2.1.1, 0, 0, _, rm_says (at9 := 0) (n := 49) k2 b2 (by omega) (by omega) (by decide) (by decide), Nat.zero_le _, Nat.zero_le _, ?_⟩⟩
    rintro _ h3 ⟨rfl, k3, F3⟩
    rw [s2, ← eA, List.nil_append] at k3
    have lA : (ksh x).length = 49 := by rw [eA]; exact ptb_len
    exact fin h3 _ k3 (by omega) (by rw [if_neg (by omega), List.append_nil]) (fr_trans (fr_mono F1 (fun q z => .inl z)) (fr_trans (fr_mono F2 (fun q z => by omega)) (fr_mono F3 (fun q z => by omega))))
  obtain ⟨sh, mh, _⟩ := nk1.1.2 ht
  obtain ⟨fm, efm, vm⟩ := hm
  obtain ⟨_, ⟨fe, efe, ve⟩, ⟨fl, efl, vl⟩, ⟨fs, efs, vs9⟩⟩ := nk1
  obtain ⟨ce, b155⟩ := n155
  rw [ht]
  refine ⟨fun _ => ?_, fun q => absurd q (show ¬ nI 2 = 1 by decide)⟩
  refine vm_go rfl bX14_keyIdx_43 oX14_keyIdx_43 ⟨_, _, k1.1.1, rfl, ⟨_, _, _, _, (F1.2 _ (by omega)).trans efm, by decide, rfl, i, rfl, by omega, va_e (vm i (by omega)), ⟨_, _, mh.1.1, rfl, ⟨_, _, k1.1.1, rfl, ⟨_, _, k1.1.1, rfl, ⟨6, fl, efl, i, rfl, by omega, fun _ => ?_⟩⟩⟩⟩⟩⟩
  rw [vl]
  refine ⟨0, 0, _, rm_store (at9 := 0) (size := ksz x) (n := (ksz x + 3) / 4) mh.1.2.1 (by omega) b155 (by omega) (by omega) (by omega) (by omega) (by decide), Nat.zero_le _, Nat.zero_le _, ?_⟩
  rintro _ h2 ⟨rfl, ⟨c2, b2, s2', _⟩, F2⟩
  have k2 : SY h2 a t g [] m y := SY_fr k1 (RK_of k1.1 F2 ((F2.2 a (by omega)).trans k1.1.1) (fun q z => .inr (z ▸ GD_r (i := 155) (by unfold ZB; omega) rfl ⟨_, b2⟩))) F2 (by omega)
  have efl2 := (F2.2 _ (by omega)).trans efl
  refine ⟨_, _, k2.1.1, rfl, ⟨_, _, k2.1.1, rfl, ⟨6, fl, efl2, i, rfl, by omega, fun _ => ?_⟩⟩⟩
  rw [vl]
  refine ⟨_, k2.1.1, 0, 0, _, rm_says (at9 := 0) (n := ksz x) k2 b2 (by omega) (by omega) (by decide) (by rw [List.length_nil]; omega), Nat.zero_le _, Nat.zero_le _, ?_⟩
  rintro _ h3 ⟨rfl, k3, F3⟩
  rw [s2', List.nil_append] at k3
  have efe3 := (F3.2 _ (by omega)).trans ((F2.2 _ (by omega)).trans efe)
  refine ⟨_, _, k3.1.1, rfl, ⟨6, fe, efe3, i, rfl, by omega, fun _ => ?_⟩⟩
  rw [ve ht]
  obtain ⟨e, ee⟩ : ∃ e, bn (gb (ksh x)) (ksz x) 3 = e := ⟨_, rfl⟩
  rw [ee] at he ⊢
  have lk := look_sh (j := 0) he (by decide)
  rw [show ((16 : Int32) - 8 * nI 0) = 16 by decide] at lk
  have l3 : (wb (bn (gb (ksh x)) 0 (ksz x)) (ksz x)).length = ksz x := wb_len
  refine ⟨_, k3.1.1, 0, 0, _, rm_say k3 lk (by omega) (by omega), Nat.zero_le _, Nat.zero_le _, ?_⟩
  rintro _ h4 ⟨rfl, k4, F4⟩
  have efe4 := (F4.2 _ (by omega)).trans efe3
  refine ⟨_, _, k4.1.1, rfl, ⟨6, fe, efe4, i, rfl, by omega, fun _ => ?_⟩⟩
  rw [ve ht, ee]
  refine ⟨_, k4.1.1, 0, 0, _, rm_both k4 (by omega) (by rw [List.length_append, l3]; show ksz x + 1 + 2 ≤ 2600; omega), Nat.zero_le _, Nat.zero_le _, ?_⟩
  rintro _ h5 ⟨rfl, k5, F5⟩
  have efs5 := (F5.2 _ (by omega)).trans ((F4.2 _ (by omega)).trans ((F3.2 _ (by omega)).trans ((F2.2 _ (by omega)).trans efs)))
  refine ⟨_, _, k5.1.1, rfl, ⟨6, fs, efs5, i, rfl, by omega, fun _ => ?_⟩⟩
  rw [vs9 ht]
  have ls9 := sb_nI (v := ksa x)
  rw [Nat.mod_eq_of_lt hsa] at ls9
  refine ⟨_, k5.1.1, 0, 0, _, rm_say k5 ls9 hsa (by rw [List.length_append, List.length_append, l3, nb_len]; show ksz x + 1 + 2 < 2600; omega), Nat.zero_le _, Nat.zero_le _, ?_⟩
  rintro _ h6 ⟨rfl, k6, F6⟩
  have e3 : [e / 256 ^ (2 - 0) % 256] ++ nb (e : Nat) 2 = sl (gb (ksh x)) (ksz x) 3 := by
    rw [nb_two, ← ee]
    have d0 := bn_dig (b := gb (ksh x)) (at9 := ksz x) 3 2 (fun q _ hq => ok8_gb osh _) (by omega)
    have d1 := bn_dig (b := gb (ksh x)) (at9 := ksz x) 3 1 (fun q _ hq => ok8_gb osh _) (by omega)
    have d2 := bn_dig (b := gb (ksh x)) (at9 := ksz x) 3 0 (fun q _ hq => ok8_gb osh _) (by omega)
    rw [Nat.pow_zero, Nat.div_one] at d2
    rw [Nat.pow_one] at d1
    show [_ / 256 ^ 2 % 256, _, _] = [gb (ksh x) (ksz x + 0), gb (ksh x) (ksz x + 1), gb (ksh x) (ksz x + 2)]
    rw [d0, d1, d2]
    rfl
  have eW : wb (bn (gb (ksh x)) 0 (ksz x)) (ksz x) ++ [e / 256 ^ (2 - 0) % 256] ++ nb (e : Nat) 2 ++ [ksa x] = ksh x ++ (if kty x = 2 then [ksa x] else []) := by
    rw [if_pos ht, List.append_assoc (wb _ _), e3, bn_wb (fun j _ _ => ok8_gb osh _)]
    have : sl (gb (ksh x)) 0 (ksz x + 3) = ksh x := by rw [← lsh]; exact sl_gb _
    rw [sl_app, Nat.zero_add] at this
    rw [this]
  rw [eW] at k6
  exact fin h6 _ k6 (by rw [if_pos ht, List.length_append, lsh]; show ksz x + 3 + 1 ≤ 300; omega) rfl (fr_trans (fr_mono F1 (fun q z => .inl z)) (fr_trans (fr_mono F2 (fun q z => by omega)) (fr_trans (fr_mono F3 (fun q z => by omega)) (fr_trans (fr_mono F4 (fun q z => by omega)) (fr_trans (fr_mono F5 (fun q z => by omega)) (fr_mono F6 (fun q z => by omega)))))))

theorem rp_comes {x : aK} (k : SY h a t g [] m y) (G : RG9 g 0 kn an rd dn wl wr w.length ou.length) (st : ST h a kn an kf af D w ou) (hkn : kn < 6) (nk : NK h a kn x) (lx : klv x = true) (ki : k2b x) : vm_Met (vm_env l O f9) mX14_comes 0 0 [.ref a, .int (nI (kty x))] h (fun r h' => r = some (.int (nI kn)) ∧ RM h' a t 0 w ou (kn + 1) an rd (fu kf kn (kwi x (kdi t.1 t.2.1 x))) af D dn wl wr ∧ fr h h' (RF a)) := by
  have ao := k.1.2.1
  have la : a < 1099511627776 := by omega
  have l73 : a + 73 < 1099511627776 := by omega
  have l74 : a + 74 < 1099511627776 := by omega
  have sk := st.1
  obtain ⟨⟨f1, k1, v1⟩, ⟨f2, k2, v2⟩, ⟨f3, k3, v3⟩, k4, k5, k6, _⟩ := id sk
  refine vm_met rfl (Nat.le_of_ble_eq_true rfl) ?_
  refine vm_go rfl bX14_comesx_0 oX14_comesx_0 ⟨_, _, k.1.1, rfl, ⟨_, _, k.1.1, rfl, ⟨6, f1, k1, l73, kn, G.2.1, hkn, ?_⟩⟩⟩
  obtain ⟨h1, eh1⟩ : ∃ h1, h1 = vm_up h (a + 73) (.inl (.int, 6, .inl (upd f1 kn (nI (kty x))))) := ⟨_, rfl⟩
  have F1 : fr h h1 (fun q => q = a + 73) := eh1 ▸ fr_up rfl
  have t1 : ia h1 6 (a + 73) (upd f1 kn (nI (kty x))) := by rw [eh1]; exact vm_upe
  refine vm_Th (lv' := [(0, .ref a), (1, .int (nI (kty x)))]) (h' := h1) rfl eh1 ?_
  have y1 := SY_off k F1 (fun q z => by omega)
  refine vm_go rfl bX14_comesx_10 oX14_comesx_10 ⟨_, _, y1.1.1, rfl, ⟨_, _, y1.1.1, rfl, ⟨6, f2, (F1.2 _ (by omega)).trans k2, l74, kn, G.2.1, hkn, ?_⟩⟩⟩
  obtain ⟨h2, eh2⟩ : ∃ h2, h2 = vm_up h1 (a + 74) (.inl (.boolean, 6, .inl (upd f2 kn 1))) := ⟨_, rfl⟩
  have F2 : fr h1 h2 (fun q => q = a + 74) := eh2 ▸ fr_up rfl
  have t2 : bo9 h2 6 (a + 74) (upd f2 kn 1) := by rw [eh2]; exact vm_upe
  refine vm_Th (lv' := [(0, .ref a), (1, .int (nI (kty x)))]) (h' := h2) rfl eh2 ?_
  have y2 := SY_off y1 F2 (fun q z => by omega)
  have F02 : fr h h2 (fun q => q = a + 73 ∨ q = a + 74) := fr_trans (fr_mono F1 (fun q z => .inl z)) (fr_mono F2 (fun q z => .inr z))
  have t12 : ia h2 6 (a + 73) (upd f1 kn (nI (kty x))) := ia_cg9 t1 (F2.2 _ (by omega))
  have gk : u3 g (nI ([] : List Nat).length) (nI m.length) (nI y.length) 63 = nI kn := G.2.1
  refine vm_go rfl bX14_comesx_20 oX14_comesx_20 ⟨_, _, y2.1.1, rfl, ?_⟩
  rw [gk]
  refine ⟨_, y2.1.1, 0, 0, _, rm_keyId hkn y2 ⟨_, t12, upd_e⟩ (bv_cg k3 (F02.2 _ (by omega))) (rr9_cg k5 (F02.2 _ (by omega))) (rr9_cg k6 (F02.2 _ (by omega))) (NK_cg nk hkn (fun q z => F02.2 q (by omega))) ki, Nat.zero_le _, Nat.zero_le _, ?_⟩
  rintro _ h3 ⟨rfl, y3, ⟨c3, b3, e3, o3⟩, F3⟩
  refine ⟨_, _, y3.1.1, rfl, ⟨_, y3.1.1, la, show 63 < 89 by decide, trivial, ?_⟩⟩
  obtain ⟨h4, eh4⟩ : ∃ h4, h4 = vm_up h3 a (RO a (u3 (ug g 63 (nI (kn + 1))) (nI ([] : List Nat).length) (nI m.length) (nI y.length))) := ⟨_, rfl⟩
  obtain ⟨y4, F4⟩ := SY_g y3 eh4
  refine vm_Th (lv' := [(0, .ref a), (1, .int (nI (kty x)))]) (h' := h4) rfl (by rw [eh4, ← nI_1 kn, ← gk]; rfl) ?_
  have F24 : fr h2 h4 (fun q => q = a ∨ (a + 28 ≤ q ∧ q ≤ a + 33) ∨ q = a + 68 ∨ q = a + 75 ∨ q = a + 155) := fr_trans F3 (fr_mono F4 (fun q z => by omega))
  have F04 : fr h h4 (fun q => scr a q ∨ q = a + 73 ∨ q = a + 74 ∨ q = a + 75) := fr_trans (fr_mono F02 (fun q z => by omega)) (fr_mono F24 (fun q z => by unfold scr; omega))
  -- the KEYS as they are, with other cells kept
  obtain ⟨hm, em⟩ : ∃ hm : vm_H, hm = (h.1, fun q => if q = a + 73 ∨ q = a + 74 ∨ q = a + 75 then h.2 q else h4.2 q) := ⟨_, rfl⟩
  have m1 : ∀ q, (q = a + 73 ∨ q = a + 74 ∨ q = a + 75) → hm.2 q = h.2 q := fun q z => by rw [em]; exact if_pos z
  have m2 : ∀ q, ¬ (q = a + 73 ∨ q = a + 74 ∨ q = a + 75) → hm.2 q = h4.2 q := fun q z => by rw [em]; exact if_neg z
  have em1 : hm.1 = h.1 := by rw [em]
  have Fm : fr h hm (fun q => scr a q) := ⟨em1, fun q z => by
    by_cases c : q = a + 73 ∨ q = a + 74 ∨ q = a + 75
    · exact m1 q c
    · rw [m2 q c]; exact F04.2 q (fun s => s.elim z c)⟩
  have Fn : fr hm h4 (fun q => q = a + 73 ∨ q = a + 74 ∨ q = a + 75) := ⟨F04.1.trans em1.symm, fun q z => (m2 q z).symm⟩
  have stm := ST_fr st Fm (fun q z => z)
  have nkm : NK hm a kn x := NK_cg nk hkn (fun q z => Fm.2 q (by unfold scr; omega))
  have go9 : ∀ (P : Nat → aK → Prop), (∀ i, i < kn → P i (kf i)) → P kn (kwi x (kdi t.1 t.2.1 x)) → ∀ i, i < kn + 1 → P i (fu kf kn (kwi x (kdi t.1 t.2.1 x)) i) := fun P p1 p2 i hi => by
    by_cases c : i = kn
    · rw [c, fu_e]; exact p2
    · rw [fu_n c]; exact p1 i (by omega)
  have sk4 : SK h4 a (kn + 1) (fu kf kn (kwi x (kdi t.1 t.2.1 x))) := SK_nw stm.1 hkn nkm lx Fn (ia_cg9 t12 (F24.2 _ (by omega))) (go9 (fun i z => upd f1 kn (nI (kty x)) i = nI (kty z)) (fun i hi => by rw [upd_n (by omega)]; exact v1 i hi) upd_e) ((F24.2 _ (by omega)).trans t2) (go9 (fun i z => upd f2 kn 1 i = bi (klv z)) (fun i hi => by rw [upd_n (by omega)]; exact v2 i hi) (by rw [upd_e]; show (1 : Int32) = bi (klv x); rw [lx]; rfl)) (bv_cg b3 (F4.2 _ (by omega))) (go9 (fun i z => sl c3 (32 * i) 32 = kid z) (fun i hi => by rw [← v3 i hi]; exact sl_ext (fun j hj => o3 _ (by omega))) e3)
  have st4 : ST h4 a (kn + 1) an (fu kf kn (kwi x (kdi t.1 t.2.1 x))) af D w ou := by
    obtain ⟨q1, q2, q3, q4, q5, q6, q7, q8, q9⟩ := stm
    refine ⟨sk4, ?_, bv_cg q3 (Fn.2 _ (by omega)), rl9_cg q4 (Fn.2 _ (by omega)), rl9_cg q5 (Fn.2 _ (by omega)), q6, q7, hkn, q9⟩
    obtain ⟨r1, r2, r3, r4, r5, r6⟩ := SA_cg q2 q9 (fun q z1 z2 => Fn.2 q (by omega))
    refine ⟨r1, r2, r3, r4, r5, fun i hi => ?_⟩
    obtain ⟨r7, r8⟩ := r6 i hi
    refine ⟨by omega, ?_⟩
    rw [fu_n (by omega)]; exact r8
  refine vm_go rfl bX14_comesx_38 oX14_comesx_38 ⟨_, _, y4.1.1, rfl, ?_⟩
  refine ⟨?_, ⟨_, _, _, y4, ⟨G.1, rfl, G.2.2⟩, st4⟩, fr_mono F04 (fun q z => by unfold scr at z; unfold RF; omega)⟩
  show some (Value.int (nI (kn + 1) - 1)) = _
  have := nI_sub (a := kn + 1) (b := 1) (by omega)
  rw [Nat.add_sub_cancel] at this
  exact congrArg (fun v => some (Value.int v)) this
end
