/-! the reference: field, toScalar, toPoint, lays -/
def bX14_toPointx_0 : List vm_J := [(1, .iconst 0, 0, 0, 0, .int 0), (2, .istore 5, 0, 0, 0, .null)]
set_option maxRecDepth 20000 in
theorem oX14_toPointx_0 : vm_okB 14 mX14_toPoint 0 bX14_toPointx_0 = true := by decide +kernel
def bX14_toPointx_3 : List vm_J := [(2, .iload 5, 0, 0, 0, .null), (1, .iload_n 3, 0, 0, 0, .null), (3, .if_icmp .ge 22, 28, 0, 0, .null), (1, .aload_n 0, 0, 0, 0, .null), (3, .getfield 290, 14, 25, 0, .null), (2, .iload 5, 0, 0, 0, .null), (1, .aload_n 1, 0, 0, 0, .null), (1, .iload_n 2, 0, 0, 0, .null), (2, .iload 5, 0, 0, 0, .null), (1, .iadd, 0, 0, 0, .null), (1, .baload, 0, 0, 0, .null), (1, .bastore, 0, 0, 0, .null)]
set_option maxRecDepth 20000 in
theorem oX14_toPointx_3 : vm_okB 14 mX14_toPoint 3 bX14_toPointx_3 = true := by decide +kernel
def bX14_toPointx_22 : List vm_J := [(3, .iinc 5 1, 0, 0, 0, .int 1), (3, .goto (-22), 3, 0, 0, .null)]
set_option maxRecDepth 20000 in
theorem oX14_toPointx_22 : vm_okB 14 mX14_toPoint 22 bX14_toPointx_22 = true := by decide +kernel
def bX14_toPointx_28 : List vm_J := [(1, .aload_n 0, 0, 0, 0, .null), (1, .iload_n 3, 0, 0, 0, .null), (3, .putfield 293, 14, 26, 0, .null)]
set_option maxRecDepth 20000 in
theorem oX14_toPointx_28 : vm_okB 14 mX14_toPoint 28 bX14_toPointx_28 = true := by decide +kernel
def bX14_toPointx_33 : List vm_J := [(1, .aload_n 0, 0, 0, 0, .null)]
set_option maxRecDepth 20000 in
theorem oX14_toPointx_33 : vm_okB 14 mX14_toPoint 33 bX14_toPointx_33 = true := by decide +kernel
def bX14_toPointx_37 : List vm_J := [(3, .invokevirtual 316, 177, 1, 14, .null), (1, .aload_n 0, 0, 0, 0, .null), (3, .sipush 144, 0, 0, 0, .int 144), (3, .invokevirtual 319, 179, 1, 14, .null), (1, .aload_n 0, 0, 0, 0, .null), (1, .aload_n 0, 0, 0, 0, .null), (3, .getfield 126, 14, 8, 0, .null), (1, .iconst 0, 0, 0, 0, .int 0), (1, .aload_n 0, 0, 0, 0, .null), (3, .getfield 347, 14, 39, 0, .null), (3, .invokevirtual 325, 180, 3, 14, .null), (1, .aload_n 0, 0, 0, 0, .null), (1, .aload_n 0, 0, 0, 0, .null), (3, .getfield 126, 14, 8, 0, .null), (2, .bipush 72, 0, 0, 0, .int 72), (1, .aload_n 0, 0, 0, 0, .null), (3, .getfield 350, 14, 40, 0, .null), (3, .invokevirtual 325, 180, 3, 14, .null), (1, .aload_n 0, 0, 0, 0, .null), (1, .aload_n 0, 0, 0, 0, .null), (3, .getfield 347, 14, 39, 0, .null), (1, .aload_n 0, 0, 0, 0, .null), (3, .getfield 353, 14, 32, 0, .null), (3, .invokevirtual 356, 182, 2, 14, .null), (1, .aload_n 0, 0, 0, 0, .null), (1, .aload_n 0, 0, 0, 0, .null), (3, .getfield 350, 14, 40, 0, .null), (2, .aload 4, 0, 0, 0, .null), (3, .invokevirtual 356, 182, 2, 14, .null), (1, .aload_n 0, 0, 0, 0, .null), (1, .aload_n 0, 0, 0, 0, .null), (3, .getfield 353, 14, 32, 0, .null), (2, .aload 4, 0, 0, 0, .null), (2, .aload 4, 0, 0, 0, .null), (3, .invokevirtual 156, 157, 3, 14, .null), (1, .return_, 0, 0, 0, .null)]
set_option maxRecDepth 20000 in
theorem oX14_toPointx_37 : vm_okB 14 mX14_toPoint 37 bX14_toPointx_37 = true := by decide +kernel
def bX14_laysx_0 : List vm_J := [(1, .aload_n 0, 0, 0, 0, .null), (3, .getfield 290, 14, 25, 0, .null), (1, .aload_n 0, 0, 0, 0, .null), (3, .getfield 293, 14, 26, 0, .null), (1, .iload_n 3, 0, 0, 0, .null), (2, .bipush 8, 0, 0, 0, .int 8), (1, .ishr, 0, 0, 0, .null), (1, .i2b, 0, 0, 0, .null), (1, .bastore, 0, 0, 0, .null)]
set_option maxRecDepth 20000 in
theorem oX14_laysx_0 : vm_okB 14 mX14_lays 0 bX14_laysx_0 = true := by decide +kernel
def bX14_laysx_14 : List vm_J := [(1, .aload_n 0, 0, 0, 0, .null), (3, .getfield 290, 14, 25, 0, .null), (1, .aload_n 0, 0, 0, 0, .null), (3, .getfield 293, 14, 26, 0, .null), (1, .iconst 1, 0, 0, 0, .int 1), (1, .iadd, 0, 0, 0, .null), (1, .iload_n 3, 0, 0, 0, .null), (1, .i2b, 0, 0, 0, .null), (1, .bastore, 0, 0, 0, .null)]
set_option maxRecDepth 20000 in
theorem oX14_laysx_14 : vm_okB 14 mX14_lays 14 bX14_laysx_14 = true := by decide +kernel
def bX14_laysx_27 : List vm_J := [(1, .aload_n 0, 0, 0, 0, .null), (1, .dup, 0, 0, 0, .null), (3, .getfield 293, 14, 26, 0, .null), (1, .iconst 2, 0, 0, 0, .int 2), (1, .iadd, 0, 0, 0, .null), (3, .putfield 293, 14, 26, 0, .null)]
set_option maxRecDepth 20000 in
theorem oX14_laysx_27 : vm_okB 14 mX14_lays 27 bX14_laysx_27 = true := by decide +kernel
def bX14_laysx_37 : List vm_J := [(1, .iconst 0, 0, 0, 0, .int 0), (2, .istore 4, 0, 0, 0, .null)]
set_option maxRecDepth 20000 in
theorem oX14_laysx_37 : vm_okB 14 mX14_lays 37 bX14_laysx_37 = true := by decide +kernel
def bX14_laysx_40 : List vm_J := [(2, .iload 4, 0, 0, 0, .null), (1, .iload_n 3, 0, 0, 0, .null), (3, .if_icmp .ge 27, 70, 0, 0, .null), (1, .aload_n 0, 0, 0, 0, .null), (3, .getfield 290, 14, 25, 0, .null), (1, .aload_n 0, 0, 0, 0, .null), (3, .getfield 293, 14, 26, 0, .null), (2, .iload 4, 0, 0, 0, .null), (1, .iadd, 0, 0, 0, .null), (1, .aload_n 1, 0, 0, 0, .null), (1, .iload_n 2, 0, 0, 0, .null), (2, .iload 4, 0, 0, 0, .null), (1, .iadd, 0, 0, 0, .null), (1, .baload, 0, 0, 0, .null), (1, .bastore, 0, 0, 0, .null)]
set_option maxRecDepth 20000 in
theorem oX14_laysx_40 : vm_okB 14 mX14_lays 40 bX14_laysx_40 = true := by decide +kernel
def bX14_laysx_64 : List vm_J := [(3, .iinc 4 1, 0, 0, 0, .int 1), (3, .goto (-27), 40, 0, 0, .null)]
set_option maxRecDepth 20000 in
theorem oX14_laysx_64 : vm_okB 14 mX14_lays 64 bX14_laysx_64 = true := by decide +kernel
def bX14_laysx_70 : List vm_J := [(1, .aload_n 0, 0, 0, 0, .null), (1, .dup, 0, 0, 0, .null), (3, .getfield 293, 14, 26, 0, .null), (1, .iload_n 3, 0, 0, 0, .null), (1, .iadd, 0, 0, 0, .null), (3, .putfield 293, 14, 26, 0, .null)]
set_option maxRecDepth 20000 in
theorem oX14_laysx_70 : vm_okB 14 mX14_lays 70 bX14_laysx_70 = true := by decide +kernel
def bX14_laysx_80 : List vm_J := [(1, .return_, 0, 0, 0, .null)]
set_option maxRecDepth 20000 in
theorem oX14_laysx_80 : vm_okB 14 mX14_lays 80 bX14_laysx_80 = true := by decide +kernel
def bX14_laysWordx_0 : List vm_J := [(1, .iconst 0, 0, 0, 0, .int 0), (1, .istore_n 2, 0, 0, 0, .null)]
set_option maxRecDepth 20000 in
theorem oX14_laysWordx_0 : vm_okB 14 mX14_laysWord 0 bX14_laysWordx_0 = true := by decide +kernel
def bX14_laysWordx_2 : List vm_J := [(1, .iload_n 2, 0, 0, 0, .null), (1, .aload_n 1, 0, 0, 0, .null), (3, .invokevirtual 210, 246, 0, 600, .null), (3, .if_icmp .ge 26, 33, 0, 0, .null), (1, .aload_n 0, 0, 0, 0, .null), (3, .getfield 290, 14, 25, 0, .null), (1, .aload_n 0, 0, 0, 0, .null), (3, .getfield 293, 14, 26, 0, .null), (1, .iload_n 2, 0, 0, 0, .null), (1, .iadd, 0, 0, 0, .null), (1, .aload_n 1, 0, 0, 0, .null), (1, .iload_n 2, 0, 0, 0, .null), (3, .invokevirtual 216, 247, 1, 600, .null), (1, .i2b, 0, 0, 0, .null), (1, .bastore, 0, 0, 0, .null)]
set_option maxRecDepth 20000 in
theorem oX14_laysWordx_2 : vm_okB 14 mX14_laysWord 2 bX14_laysWordx_2 = true := by decide +kernel
def bX14_laysWordx_27 : List vm_J := [(3, .iinc 2 1, 0, 0, 0, .int 1), (3, .goto (-28), 2, 0, 0, .null)]
set_option maxRecDepth 20000 in
theorem oX14_laysWordx_27 : vm_okB 14 mX14_laysWord 27 bX14_laysWordx_27 = true := by decide +kernel
def bX14_laysWordx_33 : List vm_J := [(1, .aload_n 0, 0, 0, 0, .null), (1, .dup, 0, 0, 0, .null), (3, .getfield 293, 14, 26, 0, .null), (1, .aload_n 1, 0, 0, 0, .null), (3, .invokevirtual 210, 246, 0, 600, .null), (1, .iadd, 0, 0, 0, .null), (3, .putfield 293, 14, 26, 0, .null)]
set_option maxRecDepth 20000 in
theorem oX14_laysWordx_33 : vm_okB 14 mX14_laysWord 33 bX14_laysWordx_33 = true := by decide +kernel
def bX14_laysWordx_46 : List vm_J := [(1, .return_, 0, 0, 0, .null)]
set_option maxRecDepth 20000 in
theorem oX14_laysWordx_46 : vm_okB 14 mX14_laysWord 46 bX14_laysWordx_46 = true := by decide +kernel
theorem wq_m {h : vm_H} {c X : Nat} (w : wv h 12 c 12 (X % (cPm + 1))) : wq h c (fz (X : Int)) := by
  have e : (fz (X : Int)).val = X % (cPm + 1) := by
    have h1 := fz_v (X : Int)
    rw [← Int.natCast_emod] at h1
    exact Int.ofNat.inj h1
  unfold wq
  rw [e]; exact w
theorem bn_gbm {c : Nat → Nat} {x : List Nat} {p k many : Nat} (h : ∀ j, j < many → c j = gb x j) (hp : p + k ≤ many) : bn c p k = bn (gb x) p k := bn_ext k (fun j hj => h _ (by omega))
section
variable {l : Launch} {O : Nat → vm_Ob} {f9 : Value} {h : vm_H} {a : Nat} {t : KT} {g : Nat → Int32} {w m y : List Nat}
theorem rm_field {M N c at9 : Nat} {cu : Nat → Nat} (k : RK h a t g) (kM : MH h M (M + 1) (M + 2) 12 N 0) (hM : a + 7 < M ∧ M + 2 < a + 300) (hb : bv h 144 (a + 38) cu) (hat : at9 + 72 ≤ 144) (z : TG a c) : vm_Met (vm_env l O f9) mX14_field 0 0 [.ref a, .ref M, .int (nI at9), .ref c] h (fun r h' => r = none ∧ RK h' a t g ∧ wv h' 12 c 12 (bn cu at9 72 % N) ∧ fr h h' (fun q => q = a + 1 ∨ q = c)) := by
  have ao := k.2.1
  obtain ⟨⟨o1, o2⟩, o3⟩ := TG_ok ao z
  obtain ⟨f1, e1⟩ := CU_1 (RK_cu k)
  obtain ⟨fb, eb, vb⟩ := id hb
  refine vm_met rfl (Nat.le_of_ble_eq_true rfl) ?_
  refine vm_go rfl bX14_field_0 oX14_field_0 ⟨_, _, k.1, rfl, ⟨_, _, k.1, rfl, ⟨0, 0, _, rm_load (at9 := at9) (size := 72) (n := 18) hb hat (by decide) e1 (by omega) (by decide) (by decide) (by decide), Nat.zero_le _, Nat.zero_le _, ?_⟩⟩⟩
  rintro _ h1 ⟨rfl, w1, F1⟩
  have r1 := (F1.2 a (by omega)).trans k.1
  have hX : bn cu at9 72 < 4294967296 ^ 18 := Nat.lt_of_lt_of_le (bn_lt 72 (fun j _ hj => (vb j (by omega)).2)) (by decide +kernel)
  refine ⟨_, r1, 0, 0, _, rm_rest (many := 18) (MH_cg3 kM F1 (by omega)) r1 w1 hX (by decide) (by decide) (iw_cg (TG_iw k z) (F1.2 _ (by omega))) (by decide) o2 (by omega) (by omega) ao, Nat.zero_le _, Nat.zero_le _, ?_⟩
  rintro _ h2 ⟨rfl, w2, i2, F2⟩
  have FF : fr h h2 (fun q => q = a + 1 ∨ q = c) := fr_trans (fr_mono F1 (fun q z => .inl z)) F2
  refine ⟨rfl, RK_of k FF ((F2.2 a (by omega)).trans r1) (fun q y => ?_), w2, FF⟩
  rcases y with rfl | rfl
  · exact .inr (GD_i (by unfold ZI; omega) i2)
  · exact .inr (TG_gd z (wv_iw w2))

theorem tg_S : wHS ++ wCX = tgS := by decide
theorem tg_G : wHG ++ wCX = tgG := by decide
theorem tg_E : wSD ++ wCX = tgE := by decide
theorem rm_toScalar {c : Nat} (h9 : f9.category = 1) (k : SY h a t g w m y) (z : TG a c) (hc : a + 38 < c) : vm_Met (vm_env l O f9) mX14_toScalar 0 0 [.ref a, .ref c] h (fun r h' => r = none ∧ SY h' a t g [] m tgS ∧ wv h' 12 c 12 (hts t.2.2.1 t.2.2.2 m) ∧ fr h h' (fun q => q = a ∨ (a + 28 ≤ q ∧ q ≤ a + 38) ∨ q = a + 1 ∨ q = c)) := by
  have ao := k.1.2.1
  have o3 := (TG_ok ao z).2
  refine vm_met rfl (Nat.le_of_ble_eq_true rfl) ?_
  refine vm_go rfl bX14_toScalar_0 oX14_toScalar_0 ?_
  refine vm_ldw (idx := 314) (id := 1099511627844) (by decide +kernel) (List.mem_of_getElem? (i := 20) rfl) ?_
  refine vm_go rfl bX14_toScalar_4 oX14_toScalar_4 ⟨_, k.1.1, 0, 0, _, rm_tags h9 k k.1.2.2.1.2.1.2.1 (by decide), Nat.zero_le _, Nat.zero_le _, ?_⟩
  rintro _ h1 ⟨rfl, k1, F1⟩
  rw [tg_S] at k1
  refine ⟨_, k1.1.1, 0, 0, _, rm_expands (many := 72) (n := 2) k1 (by decide), Nat.zero_le _, Nat.zero_le _, ?_⟩
  rintro _ h2 ⟨rfl, k2, ⟨cu, bu, vu⟩, F2⟩
  refine ⟨_, _, k2.1.1, rfl, ⟨_, k2.1.1, 0, 0, _, rm_field (at9 := 0) k2.1 k2.1.2.2.2.1.2.1 (by omega) bu (by decide) z, Nat.zero_le _, Nat.zero_le _, ?_⟩⟩
  rintro _ h3 ⟨rfl, k3, w3, F3⟩
  rw [bn_gbm vu (by decide)] at w3
  exact ⟨rfl, SY_fr k2 k3 F3 (by omega), w3, fr_trans (fr_mono F1 (fun q z => by omega)) (fr_trans (fr_mono F2 (fun q z => by omega)) (fr_mono F3 (fun q z => by omega)))⟩
theorem SY_m {h' : vm_H} (k : SY h a t g w m y) (F : fr h h' (fun q => q = a + 34)) (r : rl9 h' 700 (a + 34) m) : SY h' a t g w m y :=
  SY_nw k F (fun q z => .inr (.inr (.inl z))) ((F.2 a (by omega)).trans k.1.1) k.2.1 (rl9_cg k.2.2.1 (F.2 _ (by omega))) r (rl9_cg k.2.2.2.2 (F.2 _ (by omega)))
theorem SY_ms {h' : vm_H} {m' : List Nat} {S : Nat → Prop} (k : SY h a t g w m y) (F : fr h h' S) (hS : ∀ q, S q → q = a ∨ q = a + 34) (ho : h'.2 a = RO a (u3 g (nI w.length) (nI m'.length) (nI y.length))) (hm : m'.length ≤ 700) (r : rl9 h' 700 (a + 34) m') : SY h' a t g w m' y :=
  SY_nw k F (fun q z => (hS q z).elim .inl (fun z => .inr (.inr (.inl z)))) ho ⟨k.2.1.1, hm, k.2.1.2.2⟩ (rl9_cg k.2.2.1 (F.2 _ (fun z => by have := hS _ z; omega))) r (rl9_cg k.2.2.2.2 (F.2 _ (fun z => by have := hS _ z; omega)))
theorem rm_toPoint {b nt n at9 : Nat} {c : Nat → Nat} (h9 : f9.category = 1) (k : SY h a t g w m y) (hb : bv h nt b c) (hbn : b ≠ a + 34) (hat : at9 + n ≤ nt) (hnt : nt < 65536) (hn : n ≤ 700) : vm_Met (vm_env l O f9) mX14_toPoint 0 0 [.ref a, .ref b, .int (nI at9), .int (nI n), .ref (a + 163)] h (fun r h' => r = none ∧ SY h' a t g [] (sl c at9 n) tgG ∧ SP h' (a + 163) (htg t.2.2.1 t.2.2.2 (sl c at9 n)) ∧ fr h h' (fun q => q = a ∨ JV a q ∨ (a + 28 ≤ q ∧ q ≤ a + 49 ∧ q ≠ a + 46 ∧ q ≠ a + 47) ∨ (a + 163 ≤ q ∧ q ≤ a + 165))) := by
  have ao := k.1.2.1
  have la : a < 1099511627776 := by omega
  have l34 : a + 34 < 1099511627776 := by omega
  obtain ⟨f, ef, vf⟩ := id hb
  obtain ⟨c34, b34, _⟩ := k.2.2.2.1
  refine vm_met rfl (Nat.le_of_ble_eq_true rfl) ?_
  refine vm_go rfl bX14_toPointx_0 oX14_toPointx_0 ?_
  refine vm_Th (lv' := [(0, .ref a), (1, .ref b), (2, .int (nI at9)), (3, .int (nI n)), (4, .ref (a + 163)), (5, .int (nI 0))]) (h' := h) rfl rfl ?_
  refine vm_loop (fun i h' => RK h' a t (u3 g (nI w.length) (nI m.length) (nI y.length)) ∧ (∃ c', bv h' 700 (a + 34) c' ∧ ∀ j, j < i → c' (0 + j) = c (at9 + j)) ∧ fr h h' (fun q => q = a + 34)) n (fun i => [(0, .ref a), (1, .ref b), (2, .int (nI at9)), (3, .int (nI n)), (4, .ref (a + 163)), (5, .int (nI i))]) 0 h (Nat.zero_le _) ⟨k.1, ⟨c34, b34, fun j hj => by omega⟩, fr_refl⟩ ?_ ?_
  rotate_left
  · rintro i h5 _ hi ⟨k5, ⟨c5, ⟨f5, ef5, vf5⟩, v5⟩, F5⟩ ih
    have vs := vf (at9 + i) (by omega)
    refine vm_go rfl bX14_toPointx_3 oX14_toPointx_3 ⟨fun q => absurd q (nI_ge hi (by omega)), fun _ => ⟨_, _, k5.1, rfl, ⟨nt, f, (F5.2 _ hbn).trans ef, at9 + i, nI_add _ _, by omega, fun _ => ⟨700, f5, ef5, l34, i, rfl, by omega, ?_⟩⟩⟩⟩
    obtain ⟨h6, eh6⟩ : ∃ h6, h6 = vm_up h5 (a + 34) (.inl (.byte, 700, .inl (upd f5 i (sb (c (at9 + i)))))) := ⟨_, rfl⟩
    have F6 : fr h5 h6 (fun q => q = a + 34) := eh6 ▸ fr_up rfl
    have b6' : bv h6 700 (a + 34) (b1 c5 i (c (at9 + i))) := eh6 ▸ bv_up vf5 vs.2
    refine vm_Th (lv' := [(0, .ref a), (1, .ref b), (2, .int (nI at9)), (3, .int (nI n)), (4, .ref (a + 163)), (5, .int (nI i))]) (h' := h6) rfl (by rw [eh6, ← sb_self _ vs.2, ← vs.1]; rfl) ?_
    have b6' : bv h6 700 (a + 34) (b1 c5 (0 + i) (c (at9 + i))) := by rw [Nat.zero_add]; exact b6'
    refine vm_go rfl bX14_toPointx_22 oX14_toPointx_22 (vm_Th (by rw [← nI_1]; rfl) rfl (ih h6 ⟨RK_of k5 F6 ((F6.2 a (by omega)).trans k5.1) (fun q z => .inr (z ▸ GD_r (i := 34) (by unfold ZB; omega) rfl ⟨_, b6'⟩)), ⟨_, b6', bstp v5 rfl⟩, fr_trans F5 F6⟩))
  rintro h1 ⟨k1, ⟨c5, b5, v5⟩, F1⟩
  refine vm_go rfl bX14_toPointx_3 oX14_toPointx_3 ⟨fun _ => ?_, fun q => absurd (nI_le (a := n) (b := n) (Nat.le_refl _) (by omega)) q⟩
  refine vm_go rfl bX14_toPointx_28 oX14_toPointx_28 ⟨_, k1.1, la, show 26 < 89 by decide, trivial, ?_⟩
  obtain ⟨m', em'⟩ : ∃ m', sl c at9 n = m' := ⟨_, rfl⟩
  have lm' : m'.length = n := by rw [← em', sl_len]
  rw [em']
  obtain ⟨h2, eh2⟩ : ∃ h2, h2 = vm_up h1 a (RO a (u3 g (nI w.length) (nI n) (nI y.length))) := ⟨_, rfl⟩
  have F2 : fr h1 h2 (fun q => q = a) := eh2 ▸ fr_up rfl
  refine vm_Th (lv' := [(0, .ref a), (1, .ref b), (2, .int (nI at9)), (3, .int (nI n)), (4, .ref (a + 163)), (5, .int (nI n))]) (h' := h2) rfl eh2 ?_
  have G2 : fr h h2 (fun q => q = a ∨ q = a + 34) := fr_trans (fr_mono F1 (fun q z => .inr z)) (fr_mono F2 (fun q z => .inl z))
  have k2 : SY h2 a t g w m' y := SY_ms k G2 (fun q z => z) (by rw [eh2, lm']; exact vm_upe) (by omega) ⟨c5, bv_cg b5 (F2.2 _ (by omega)), by
    rw [lm']
    conv => rhs; rw [← em']
    exact sl_ext (fun j hj => v5 j hj)⟩
  refine vm_go rfl bX14_toPointx_33 oX14_toPointx_33 ?_
  refine vm_ldw (idx := 345) (id := 1099511627836) (by decide +kernel) (List.mem_of_getElem? (i := 15) rfl) ?_
  refine vm_go rfl bX14_toPointx_37 oX14_toPointx_37 ⟨_, k2.1.1, 0, 0, _, rm_tags h9 k2 k2.1.2.2.1.2.1.1 (by decide), Nat.zero_le _, Nat.zero_le _, ?_⟩
  rintro _ h3 ⟨rfl, k3, F3⟩
  rw [tg_G] at k3
  refine ⟨_, k3.1.1, 0, 0, _, rm_expands (many := 144) (n := 3) k3 (by decide), Nat.zero_le _, Nat.zero_le _, ?_⟩
  rintro _ h4 ⟨rfl, k4, ⟨cu, bu, vu⟩, F4⟩
  refine ⟨_, _, k4.1.1, rfl, ⟨_, _, k4.1.1, rfl, ⟨_, k4.1.1, 0, 0, _, rm_field (at9 := 0) (c := a + 48) k4.1 k4.1.2.2.2.1.1 (by omega) bu (by decide) (TG_i (by unfold ZI; omega) rfl), Nat.zero_le _, Nat.zero_le _, ?_⟩⟩⟩
  rintro _ h5 ⟨rfl, k5, w5, F5⟩
  have bu5 := bv_cg bu (F5.2 (a + 38) (by omega))
  refine ⟨_, _, k5.1, rfl, ⟨_, _, k5.1, rfl, ⟨_, k5.1, 0, 0, _, rm_field (at9 := 72) (c := a + 49) k5 k5.2.2.2.1.1 (by omega) bu5 (by decide) (TG_i (by unfold ZI; omega) rfl), Nat.zero_le _, Nat.zero_le _, ?_⟩⟩⟩
  rintro _ h6 ⟨rfl, k6, w6, F6⟩
  have u1 := wq_m (wv_cg w5 (F6.2 (a + 48) (by omega)))
  have u2 := wq_m w6
  rw [bn_gbm vu (by decide)] at u1 u2
  refine ⟨_, _, k6.1, rfl, ⟨_, _, k6.1, rfl, ⟨_, k6.1, 0, 0, _, rm_map (s := 39) k6 (by unfold ZP; omega) (by omega) (by omega) u1, Nat.zero_le _, Nat.zero_le _, ?_⟩⟩⟩
  rintro _ h7 ⟨rfl, k7, s7, F7⟩
  have u2 := wq_cg u2 (F7.2 (a + 49) (by unfold JV JW; omega))
  refine ⟨_, _, k7.1, rfl, ⟨_, k7.1, 0, 0, _, rm_map (s := 163) k7 (by unfold ZP; omega) (by omega) (by omega) u2, Nat.zero_le _, Nat.zero_le _, ?_⟩⟩
  rintro _ h8 ⟨rfl, k8, s8, F8⟩
  have s7 := SP_fr s7 F8 (fun q z1 z2 z3 => by unfold JV JW at z3; omega)
  refine ⟨_, _, k8.1, rfl, ⟨_, k8.1, 0, 0, _, rq_join (s := 163) k8 s7 s8 (by unfold ZP; omega) (okP (by unfold ZP; omega) ao) (okP (by unfold ZP; omega) ao) (by unfold apS; omega) (.inl rfl), Nat.zero_le _, Nat.zero_le _, ?_⟩⟩
  rintro _ h9' ⟨rfl, k9, s9, F9⟩
  have G : fr h4 h9' (fun q => JV a q ∨ (a + 39 ≤ q ∧ q ≤ a + 49 ∧ q ≠ a + 46 ∧ q ≠ a + 47) ∨ (a + 163 ≤ q ∧ q ≤ a + 165)) := fr_trans (fr_mono F5 (fun q z => by unfold JV JW; omega)) (fr_trans (fr_mono F6 (fun q z => by unfold JV JW; omega)) (fr_trans (fr_mono F7 (fun q z => by unfold JV JW at *; omega)) (fr_trans (fr_mono F8 (fun q z => by unfold JV JW at *; omega)) (fr_mono F9 (fun q z => by unfold JV JW at *; omega)))))
  refine ⟨rfl, SY_fr k4 k9 G (by unfold JV JW; omega), s9, fr_trans (fr_mono G2 (fun q z => by omega)) (fr_trans (fr_mono F3 (fun q z => by omega)) (fr_trans (fr_mono F4 (fun q z => by omega)) (fr_mono G (fun q z => by unfold JV JW at *; omega))))⟩
theorem sb_hi {n : Nat} (hn : n < 65536) : (nI n >>> ((8 : Int32) &&& 31)).toInt8.toInt32 = sb (n / 256 % 256) := by
  have e1 : ib (n : Int) 1 = n / 256 % 256 := by
    show ((n : Int) / 256 ^ 1 % 256).toNat = _
    rw [show (256 : Int) ^ 1 = 256 from rfl]; omega
  have e2 := ib_sh (z := (n : Int)) (by omega) (by omega) (i := 1) (by decide)
  rw [← e1, ← e2, iZ_nI]; rfl
theorem rl9_k {L q x i : Nat} {c : Nat → Nat} (e : sl c 0 m.length = m) (hi : m.length ≤ i) : sl (b1 c i x) 0 m.length = m := by
  conv => rhs; rw [← e]
  exact sl_ext (fun j hj => by unfold b1; rw [if_neg (by omega)])
theorem rm_lays {b nt n at9 : Nat} {c : Nat → Nat} (k : SY h a t g w m y) (hb : bv h nt b c) (hbn : b ≠ a + 34) (hat : at9 + n ≤ nt) (hnt : nt < 65536) (hn : m.length + 2 + n ≤ 700) : vm_Met (vm_env l O f9) mX14_lays 0 0 [.ref a, .ref b, .int (nI at9), .int (nI n)] h (fun r h' => r = none ∧ SY h' a t g w (m ++ nb (n : Nat) 2 ++ sl c at9 n) y ∧ fr h h' (fun q => q = a ∨ q = a + 34)) := by
  have ao := k.1.2.1
  have la : a < 1099511627776 := by omega
  have l34 : a + 34 < 1099511627776 := by omega
  obtain ⟨f, ef, vf⟩ := id hb
  have hba : b ≠ a := fun e => by rw [e, k.1.1] at ef; cases ef
  obtain ⟨cm, ⟨fm, efm, vfm⟩, ecm⟩ := k.2.2.2.1
  refine vm_met rfl (Nat.le_of_ble_eq_true rfl) ?_
  refine vm_go rfl bX14_laysx_0 oX14_laysx_0 ⟨_, _, k.1.1, rfl, ⟨_, _, k.1.1, rfl, ⟨700, fm, efm, l34, m.length, rfl, by omega, ?_⟩⟩⟩
  obtain ⟨h1, eh1⟩ : ∃ h1, h1 = vm_up h (a + 34) (.inl (.byte, 700, .inl (upd fm m.length (sb (n / 256 % 256))))) := ⟨_, rfl⟩
  have F1 : fr h h1 (fun q => q = a + 34) := eh1 ▸ fr_up rfl
  have b1' : bv h1 700 (a + 34) (b1 cm m.length (n / 256 % 256)) := eh1 ▸ bv_up vfm (by omega)
  refine vm_Th (lv' := [(0, .ref a), (1, .ref b), (2, .int (nI at9)), (3, .int (nI n))]) (h' := h1) rfl (by rw [eh1, ← sb_self _ (by omega), ← sb_hi (by omega)]; rfl) ?_
  have k1 : SY h1 a t g w m y := SY_m k F1 ⟨_, b1', rl9_k (L := 0) (q := 0) ecm (Nat.le_refl _)⟩
  obtain ⟨f1, ef1, vf1⟩ := id b1'
  refine vm_go rfl bX14_laysx_14 oX14_laysx_14 ⟨_, _, k1.1.1, rfl, ⟨_, _, k1.1.1, rfl, ⟨700, f1, ef1, l34, m.length + 1, nI_1 _, by omega, ?_⟩⟩⟩
  obtain ⟨h2, eh2⟩ : ∃ h2, h2 = vm_up h1 (a + 34) (.inl (.byte, 700, .inl (upd f1 (m.length + 1) (sb (n % 256))))) := ⟨_, rfl⟩
  have F2 : fr h1 h2 (fun q => q = a + 34) := eh2 ▸ fr_up rfl
  have b2' : bv h2 700 (a + 34) (b1 (b1 cm m.length (n / 256 % 256)) (m.length + 1) (n % 256)) := eh2 ▸ bv_up vf1 (by omega)
  refine vm_Th (lv' := [(0, .ref a), (1, .ref b), (2, .int (nI at9)), (3, .int (nI n))]) (h' := h2) rfl (by rw [eh2, ← sb_self _ (by omega), ← sb_nI]; rfl) ?_
  refine vm_go rfl bX14_laysx_27 oX14_laysx_27 ⟨_, _, (F2.2 a (by omega)).trans k1.1.1, rfl, ⟨_, (F2.2 a (by omega)).trans k1.1.1, la, show 26 < 89 by decide, trivial, ?_⟩⟩
  obtain ⟨h3, eh3⟩ : ∃ h3, h3 = vm_up h2 a (RO a (u3 g (nI w.length) (nI (m ++ nb (n : Nat) 2).length) (nI y.length))) := ⟨_, rfl⟩
  have F3 : fr h2 h3 (fun q => q = a) := eh3 ▸ fr_up rfl
  have lm : (m ++ nb (n : Nat) 2).length = m.length + 2 := by rw [List.length_append, nb_len]
  refine vm_Th (lv' := [(0, .ref a), (1, .ref b), (2, .int (nI at9)), (3, .int (nI n))]) (h' := h3) rfl (by rw [eh3, lm, show nI (m.length + 2) = nI m.length + 2 from (nI_add _ 2).symm]; rfl) ?_
  have G : fr h h3 (fun q => q = a ∨ q = a + 34) := fr_trans (fr_mono F1 (fun q z => .inr z)) (fr_trans (fr_mono F2 (fun q z => .inr z)) (fr_mono F3 (fun q z => .inl z)))
  have k3 : SY h3 a t g w (m ++ nb (n : Nat) 2) y := SY_ms k G (fun q z => z) (by rw [eh3]; exact vm_upe) (by omega) ⟨_, bv_cg b2' (F3.2 _ (by omega)), by
    rw [lm, sl_app, nb_two]
    congr 1
    · conv => rhs; rw [← ecm]
      exact sl_ext (fun j hj => by unfold b1; rw [if_neg (by omega), if_neg (by omega)])
    · show [_, _] = _
      unfold b1
      dsimp only
      rw [if_neg (by omega), if_pos (by omega), if_pos (by omega)]⟩
  obtain ⟨M, eM⟩ : ∃ M, m ++ nb (n : Nat) 2 = M := ⟨_, rfl⟩
  rw [eM] at k3 lm ⊢
  clear F1 F2 F3 k1
  refine vm_go rfl bX14_laysx_37 oX14_laysx_37 ?_
  refine vm_Th (lv' := [(0, .ref a), (1, .ref b), (2, .int (nI at9)), (3, .int (nI n)), (4, .int (nI 0))]) (h' := h3) rfl rfl ?_
  have c3 := k3.2.2.2.1
  refine vm_loop (fun i h' => SY h' a t g w M y ∧ (∃ c', bv h' 700 (a + 34) c' ∧ sl c' 0 M.length = M ∧ ∀ j, j < i → c' (M.length + j) = c (at9 + j)) ∧ fr h h' (fun q => q = a ∨ q = a + 34)) n (fun i => [(0, .ref a), (1, .ref b), (2, .int (nI at9)), (3, .int (nI n)), (4, .int (nI i))]) 0 h3 (Nat.zero_le _) ⟨k3, ⟨c3.choose, c3.choose_spec.1, c3.choose_spec.2, fun j hj => by omega⟩, G⟩ ?_ ?_
  rotate_left
  · rintro i h5 _ hi ⟨k5, ⟨c5, ⟨f5, ef5, vf5⟩, q5, v5⟩, F5⟩ ih
    have vs := vf (at9 + i) (by omega)
    refine vm_go rfl bX14_laysx_40 oX14_laysx_40 ⟨fun q => absurd q (nI_ge hi (by omega)), fun _ => ⟨_, _, k5.1.1, rfl, ⟨_, _, k5.1.1, rfl, ⟨nt, f, (F5.2 _ (by omega)).trans ef, at9 + i, nI_add _ _, by omega, fun _ => ⟨700, f5, ef5, l34, M.length + i, nI_add _ _, by omega, ?_⟩⟩⟩⟩⟩
    obtain ⟨h6, eh6⟩ : ∃ h6, h6 = vm_up h5 (a + 34) (.inl (.byte, 700, .inl (upd f5 (M.length + i) (sb (c (at9 + i)))))) := ⟨_, rfl⟩
    have F6 : fr h5 h6 (fun q => q = a + 34) := eh6 ▸ fr_up rfl
    have b6' : bv h6 700 (a + 34) (b1 c5 (M.length + i) (c (at9 + i))) := eh6 ▸ bv_up vf5 vs.2
    refine vm_Th (lv' := [(0, .ref a), (1, .ref b), (2, .int (nI at9)), (3, .int (nI n)), (4, .int (nI i))]) (h' := h6) rfl (by rw [eh6, ← sb_self _ vs.2, ← vs.1]; rfl) ?_
    refine vm_go rfl bX14_laysx_64 oX14_laysx_64 (vm_Th (by rw [← nI_1]; rfl) rfl (ih h6 ⟨SY_m k5 F6 ⟨_, b6', rl9_k (L := 0) (q := 0) q5 (by omega)⟩, ⟨_, b6', rl9_k (L := 0) (q := 0) q5 (by omega), bstp v5 rfl⟩, fr_trans F5 (fr_mono F6 (fun q z => .inr z))⟩))
  rintro h5 ⟨k5, ⟨c5, b5, q5, v5⟩, F5⟩
  refine vm_go rfl bX14_laysx_40 oX14_laysx_40 ⟨fun _ => ?_, fun q => absurd (nI_le (a := n) (b := n) (Nat.le_refl _) (by omega)) q⟩
  refine vm_go rfl bX14_laysx_70 oX14_laysx_70 ⟨_, _, k5.1.1, rfl, ⟨_, k5.1.1, la, show 26 < 89 by decide, trivial, ?_⟩⟩
  have lm5 : (M ++ sl c at9 n).length = M.length + n := by rw [List.length_append, sl_len]
  obtain ⟨h6, eh6⟩ : ∃ h6, h6 = vm_up h5 a (RO a (u3 g (nI w.length) (nI (M ++ sl c at9 n).length) (nI y.length))) := ⟨_, rfl⟩
  have F6 : fr h5 h6 (fun q => q = a) := eh6 ▸ fr_up rfl
  refine vm_Th (lv' := [(0, .ref a), (1, .ref b), (2, .int (nI at9)), (3, .int (nI n)), (4, .int (nI n))]) (h' := h6) rfl (by rw [eh6, lm5, ← nI_add]; rfl) ?_
  refine vm_go rfl bX14_laysx_80 oX14_laysx_80 ⟨rfl, SY_ms k5 F6 (fun q z => .inl z) (by rw [eh6]; exact vm_upe) (by omega) ⟨_, bv_cg b5 (F6.2 _ (by omega)), ?_⟩, fr_trans F5 (fr_mono F6 (fun q z => .inl z))⟩
  rw [lm5, sl_app, q5, Nat.zero_add]
  congr 1
  exact sl_ext (fun j hj => v5 j hj)
theorem rm_laysSpot {s : Nat} {p : fq × fq} (k : SY h a t g w m y) (hs : SP h s (some p)) (hn : m.length + 51 ≤ 700) : vm_Met (vm_env l O f9) mX14_laysSpot 0 0 [.ref a, .ref s] h (fun r h' => r = none ∧ SY h' a t g w (m ++ nb 49 2 ++ ptb p) y ∧ fr h h' (fun q => q = a ∨ q = a + 34 ∨ q = a + 68)) := by
  have ao := k.1.2.1
  obtain ⟨c, bc⟩ := k.1.2.2.2.2.2.1 68 (by unfold ZB; omega)
  refine vm_met rfl (Nat.le_of_ble_eq_true rfl) ?_
  refine vm_go rfl bX14_laysSpot_0 oX14_laysSpot_0 ⟨_, _, k.1.1, rfl, ⟨0, 0, _, rm_bytes (at9 := 0) hs bc (by omega) (by decide) (by decide), Nat.zero_le _, Nat.zero_le _, ?_⟩⟩
  rintro _ h1 ⟨rfl, ⟨c', b', e', _⟩, F1⟩
  have k1 : SY h1 a t g w m y := SY_fr k (RK_of k.1 F1 ((F1.2 a (by omega)).trans k.1.1) (fun q z => .inr (z ▸ GD_r (i := 68) (by unfold ZB; omega) rfl ⟨_, b'⟩))) F1 (by omega)
  refine ⟨_, _, k1.1.1, rfl, ⟨_, k1.1.1, 0, 0, _, rm_lays (at9 := 0) (n := 49) k1 b' (by omega) (by decide) (by decide) (by omega), Nat.zero_le _, Nat.zero_le _, ?_⟩⟩
  rintro _ h2 ⟨rfl, k2, F2⟩
  rw [e'] at k2
  exact ⟨rfl, k2, fr_trans (fr_mono F1 (fun q z => by omega)) (fr_mono F2 (fun q z => by omega))⟩
theorem rm_laysWord {s : Nat} {v : List Nat} (h9 : f9.category = 1) (k : SY h a t g w m y) (hs : sto h s v.length (gb v)) (hl : m.length + v.length ≤ 700) : vm_Met (vm_env l O f9) mX14_laysWord 0 0 [.ref a, .ref s] h (fun r h' => r = none ∧ SY h' a t g w (m ++ v) y ∧ fr h h' (fun q => q = a ∨ q = a + 34)) := by
  have ao := k.1.2.1
  have la : a < 1099511627776 := by omega
  have l34 : a + 34 < 1099511627776 := by omega
  have vo : ∀ i, i < v.length → gb v i < 256 := by
    obtain ⟨_, p, _, _, f, _, vf⟩ := hs
    exact fun i hi => (vf i hi).2
  refine vm_met rfl (Nat.le_of_ble_eq_true rfl) ?_
  refine vm_go rfl bX14_laysWordx_0 oX14_laysWordx_0 ?_
  refine vm_Th (lv' := [(0, .ref a), (1, .ref s), (2, .int (nI 0))]) (h' := h) rfl rfl ?_
  have c3 := k.2.2.2.1
  refine vm_loop (fun i h' => SY h' a t g w m y ∧ (∃ c', bv h' 700 (a + 34) c' ∧ sl c' 0 m.length = m ∧ ∀ j, j < i → c' (m.length + j) = gb v j) ∧ fr h h' (fun q => q = a ∨ q = a + 34)) v.length (fun i => [(0, .ref a), (1, .ref s), (2, .int (nI i))]) 0 h (Nat.zero_le _) ⟨k, ⟨c3.choose, c3.choose_spec.1, c3.choose_spec.2, fun j hj => by omega⟩, fr_refl⟩ ?_ ?_
  rotate_left
  · rintro i h3 _ hi ⟨k3, ⟨c5, ⟨f5, ef5, vf5⟩, q5, v5⟩, F3⟩ ih
    have s1 := sto_s (sto_fr hs (fun q hq => F3.2 q (by omega)))
    refine vm_go rfl bX14_laysWordx_2 oX14_laysWordx_2 ⟨_, s1.choose_spec.1, 0, 0, _, s_len s1 (by omega), Nat.zero_le _, Nat.zero_le _, ?_⟩
    rintro _ h2 ⟨rfl, e2⟩
    rw [e2]; clear e2 h2
    refine ⟨fun q => absurd q (nI_ge hi (by omega)), fun _ => ⟨_, _, k3.1.1, rfl, ⟨_, _, k3.1.1, rfl, ⟨_, s1.choose_spec.1, 0, 0, _, s_char h9 s1 hi (by omega), Nat.zero_le _, Nat.zero_le _, ?_⟩⟩⟩⟩
    rintro _ h4 ⟨rfl, e4⟩
    rw [e4]; clear e4 h4
    refine ⟨700, f5, ef5, l34, m.length + i, nI_add _ _, by omega, ?_⟩
    obtain ⟨h6, eh6⟩ : ∃ h6, h6 = vm_up h3 (a + 34) (.inl (.byte, 700, .inl (upd f5 (m.length + i) (sb (gb v i))))) := ⟨_, rfl⟩
    have F6 : fr h3 h6 (fun q => q = a + 34) := eh6 ▸ fr_up rfl
    have b6' : bv h6 700 (a + 34) (b1 c5 (m.length + i) (gb v i)) := eh6 ▸ bv_up vf5 (vo i hi)
    refine vm_Th (lv' := [(0, .ref a), (1, .ref s), (2, .int (nI i))]) (h' := h6) rfl (by rw [eh6, ← sb_self _ (vo i hi), show sb (gb v i) = (nI (gb v i)).toInt8.toInt32 by rw [sb_nI, Nat.mod_eq_of_lt (vo i hi)]]; rfl) ?_
    refine vm_go rfl bX14_laysWordx_27 oX14_laysWordx_27 (vm_Th (by rw [← nI_1]; rfl) rfl (ih h6 ⟨SY_m k3 F6 ⟨_, b6', rl9_k (L := 0) (q := 0) q5 (by omega)⟩, ⟨_, b6', rl9_k (L := 0) (q := 0) q5 (by omega), bstp v5 rfl⟩, fr_trans F3 (fr_mono F6 (fun q z => .inr z))⟩))
  rintro h5 ⟨k5, ⟨c5, b5, q5, v5⟩, F5⟩
  have s1 := sto_s (sto_fr hs (fun q hq => F5.2 q (by omega)))
  refine vm_go rfl bX14_laysWordx_2 oX14_laysWordx_2 ⟨_, s1.choose_spec.1, 0, 0, _, s_len s1 (by omega), Nat.zero_le _, Nat.zero_le _, ?_⟩
  rintro _ h2 ⟨rfl, e2⟩
  rw [e2]; clear e2 h2
  refine ⟨fun _ => ?_, fun q => absurd (nI_le (a := v.length) (b := v.length) (Nat.le_refl _) (by omega)) q⟩
  refine vm_go rfl bX14_laysWordx_33 oX14_laysWordx_33 ⟨_, _, k5.1.1, rfl, ⟨_, s1.choose_spec.1, 0, 0, _, s_len s1 (by omega), Nat.zero_le _, Nat.zero_le _, ?_⟩⟩
  rintro _ h2 ⟨rfl, e2⟩
  rw [e2]; clear e2 h2
  refine ⟨_, k5.1.1, la, show 26 < 89 by decide, trivial, ?_⟩
  have lm5 : (m ++ v).length = m.length + v.length := List.length_append
  obtain ⟨h6, eh6⟩ : ∃ h6, h6 = vm_up h5 a (RO a (u3 g (nI w.length) (nI (m ++ v).length) (nI y.length))) := ⟨_, rfl⟩
  have F6 : fr h5 h6 (fun q => q = a) := eh6 ▸ fr_up rfl
  refine vm_Th (lv' := [(0, .ref a), (1, .ref s), (2, .int (nI v.length))]) (h' := h6) rfl (by rw [eh6, lm5, ← nI_add]; rfl) ?_
  refine vm_go rfl bX14_laysWordx_46 oX14_laysWordx_46 ⟨rfl, SY_ms k5 F6 (fun q z => .inl z) (by rw [eh6]; exact vm_upe) (by omega) ⟨_, bv_cg b5 (F6.2 _ (by omega)), ?_⟩, fr_trans F5 (fr_mono F6 (fun q z => .inl z))⟩
  rw [lm5, sl_app, q5, Nat.zero_add]
  congr 1
  exact sl_of (fun j hj => v5 j hj)
end
