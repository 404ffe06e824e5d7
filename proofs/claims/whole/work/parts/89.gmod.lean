/-! Modulus over rows that are longer than its limbs: n longs, the lowest L of them a number -/
def nz (n : Nat) (h : vm_H) (L a x : Nat) : Prop := ∃ X, nv h n a X ∧ X < 268435456 ^ n ∧ X % 268435456 ^ L = x
def lz (n : Nat) (h : vm_H) (a : Nat) : Prop := ∃ X, nv h n a X ∧ X < 268435456 ^ n
def mz (n : Nat) (h : vm_H) (L N a : Nat) (X : Int) : Prop := nz n h L a (mt N L X)
theorem nz_lz {n L a x : Nat} {h : vm_H} (k : nz n h L a x) : lz n h a := by
  obtain ⟨X, k1, k2, _⟩ := k
  exact ⟨X, k1, k2⟩
theorem nz_lt {n L a x : Nat} {h : vm_H} (k : nz n h L a x) : x < 268435456 ^ L := by
  obtain ⟨X, _, _, k3⟩ := k
  rw [← k3]
  exact Nat.mod_lt _ (Nat.pow_pos (by decide))
theorem nz_f {n L a x : Nat} {h : vm_H} (k : nz n h L a x) (hL : L ≤ n) : ∃ f : Nat → Int64, h.2 a = .inl (.long, n, .inr (.inl f)) ∧ ∀ j, j < L → f j = lZ (dg x j) := by
  obtain ⟨X, ⟨f, e, v⟩, _, k3⟩ := k
  refine ⟨f, e, fun j hj => ?_⟩
  rw [v j (by omega), ← k3, dg_mod hj]
theorem nv_nz {L a x : Nat} {h : vm_H} (k : nv h L a x) (hx : x < 268435456 ^ L) : nz L h L a x := ⟨x, k, hx, Nat.mod_eq_of_lt hx⟩
theorem nz_fr {n L a x : Nat} {h h' : vm_H} {S : Nat → Prop} (F : fr h h' S) (k : nz n h L a x) (ha : ¬ S a) : nz n h' L a x := by
  obtain ⟨X, k1, k2, k3⟩ := k
  exact ⟨X, fr_nv F k1 ha, k2, k3⟩
theorem lz_fr {n a : Nat} {h h' : vm_H} {S : Nat → Prop} (F : fr h h' S) (k : lz n h a) (ha : ¬ S a) : lz n h' a := by
  obtain ⟨X, k1, k2⟩ := k
  exact ⟨X, fr_nv F k1 ha, k2⟩
theorem dg_join {X v L j : Nat} (hv : v < 268435456 ^ L) : dg (X / 268435456 ^ L * 268435456 ^ L + v) j = if j < L then dg v j else dg X j := by
  by_cases hj : j < L
  · rw [if_pos hj, ← dg_mod hj, Nat.mul_comm, Nat.mul_add_mod, Nat.mod_eq_of_lt hv]
  · rw [if_neg hj]
    unfold dg
    obtain ⟨k, rfl⟩ : ∃ k, j = L + k := ⟨j - L, by omega⟩
    have hB : 0 < 268435456 ^ L := Nat.pow_pos (by decide)
    rw [Nat.pow_add, ← Nat.div_div_eq_div_mul, ← Nat.div_div_eq_div_mul, Nat.mul_comm (X / 268435456 ^ L), Nat.mul_add_div hB, Nat.div_eq_of_lt hv, Nat.add_zero]
theorem nz_cut {n L c v : Nat} {h h1 : vm_H} {fc : Nat → Int64} (k : lz n h c) (hfc : h.2 c = .inl (.long, n, .inr (.inl fc))) (hL : L ≤ n) (hv : v < 268435456 ^ L) : nz n (vm_up h1 c (.inl (.long, n, .inr (.inl (cutf (fun j => lZ (dg v j)) fc L))))) L c v := by
  obtain ⟨X, ⟨f, e, w⟩, hX⟩ := k
  have ef : ∀ j, f j = fc j := by
    intro j
    rw [e] at hfc
    injection hfc with hfc
    injection hfc with _ hfc
    injection hfc with _ hfc
    injection hfc with hfc
    injection hfc with hfc
    rw [hfc]
  refine ⟨X / 268435456 ^ L * 268435456 ^ L + v, ⟨_, vm_upe, fun j hj => ?_⟩, ?_, ?_⟩
  · rw [dg_join hv]
    unfold cutf
    by_cases q : j < L
    · rw [if_pos q, if_pos q]
    · rw [if_neg q, if_neg q, ← ef, w j hj]
  · obtain ⟨k, rfl⟩ : ∃ k, n = L + k := ⟨n - L, by omega⟩
    rw [Nat.pow_add] at hX ⊢
    have hB : 0 < 268435456 ^ L := Nat.pow_pos (by decide)
    have h2 : X / 268435456 ^ L < 268435456 ^ k := (Nat.div_lt_iff_lt_mul hB).mpr (by rw [Nat.mul_comm]; exact hX)
    have h3 : (X / 268435456 ^ L + 1) * 268435456 ^ L ≤ 268435456 ^ k * 268435456 ^ L := Nat.mul_le_mul_right _ h2
    rw [Nat.add_mul, Nat.one_mul] at h3
    rw [Nat.mul_comm (268435456 ^ L) (268435456 ^ k)]
    omega
  · rw [Nat.mul_comm, Nat.mul_add_mod, Nat.mod_eq_of_lt hv]
theorem MD_ext {h h' : vm_H} {A : Nat → Nat} {L N ni c : Nat} {S : Nat → Prop} (hM : MD h A 6 L N ni) (F : fr h h' S) (oc : okc A c) (ocs : ∀ i, i < 16 → c ≠ A (8 + i)) (hS : ∀ q, S q → q = c) : MD h' A 6 L N ni := by
  refine MD_cg hM (fun i hi h5 => F.2 _ (fun z => ?_))
  have e := hS _ z
  by_cases q : i < 8
  · exact oc.1 i q e.symm
  · exact ocs (i - 8) (by omega) (by rw [show 8 + (i - 8) = i by omega]; exact e.symm)
section
variable {l : Launch} {O : Nat → vm_Ob} {f9 : Value}
theorem z_mul {h : vm_H} {A : Nat → Nat} {L N ni ri a b c na nb nc x y : Nat} (hP : MP A 6 L N ni ri) (hM : MD h A 6 L N ni) (ha : nz na h L a x) (hb : nz nb h L b y) (hc : lz nc h c) (hna : L ≤ na) (hnb : L ≤ nb) (hnc : L ≤ nc) (hy : y < N) (oa : a ≠ A 6) (ob : b ≠ A 6) (oc : okc A c) (ocs : ∀ i, i < 16 → c ≠ A (8 + i)) :
    vm_Met (vm_env l O f9) mX6_mul 0 0 [.ref (A 0), .ref a, .ref b, .ref c] h (fun r h' => r = none ∧ nz nc h' L c (x * y * ri % N) ∧ MD h' A 6 L N ni ∧ fr h h' (fun q => q = c ∨ sc A 6 q)) := by
  have hP' := hP
  have hM' := hM
  have hx := nz_lt ha
  obtain ⟨hci, L1, L74, N1, N2, hni, hri, hin, ho⟩ := hP
  obtain ⟨⟨fs, m0, f0, f1, f2, f3, f4, f5, f6, f7, f8⟩, ⟨g1, n1, n1'⟩, _, _, _, ⟨gw, hw⟩, m7, m8, m5⟩ := hM
  obtain ⟨fa, ha, va⟩ := nz_f ha hna
  obtain ⟨fb, hb, vb⟩ := nz_f hb hnb
  obtain ⟨Xc, ⟨fc, hc1, vc⟩, hXc⟩ := id hc
  refine vm_metP (s_mul (ri := ri) (Or.inl rfl) m0 f0 f1 f5 f6 ha hb hc1 n1 hw (oc.1 1 (by decide)) (fun e => absurd (hin _ _ (by decide) (by decide) e) (by decide)) (Ne.symm oa) (Ne.symm ob) (Ne.symm (oc.1 6 (by decide))) hna hnb hnc (Nat.le_refl _) (Nat.le_refl _) (by omega) L74 L1 oc.2 (ho 6 (by decide) (Or.inl (by decide))) va vb n1' hx hy N2 hni hri) ?_
  rintro r h' ⟨rfl, g, rfl⟩
  refine ⟨rfl, nz_cut hc hc1 hnc ?_, MD_ext (MD_up hP' hM' (Or.inr rfl)) (fr_up (S := fun q => q = c) rfl) oc ocs (fun _ z => z), fr_trans (fr_up (Or.inr (Or.inl rfl))) (fr_up (Or.inl rfl))⟩
  have := Nat.mod_lt (x * y * ri) (show 0 < N by omega)
  omega
theorem z_sqr {h : vm_H} {A : Nat → Nat} {L N ni ri a c na nc x : Nat} (hP : MP A 6 L N ni ri) (hM : MD h A 6 L N ni) (ha : nz na h L a x) (hc : lz nc h c) (hna : L ≤ na) (hnc : L ≤ nc) (hx : x < N) (oa : a ≠ A 6) (oc : okc A c) (ocs : ∀ i, i < 16 → c ≠ A (8 + i)) :
    vm_Met (vm_env l O f9) mX6_sqr 0 0 [.ref (A 0), .ref a, .ref c] h (fun r h' => r = none ∧ nz nc h' L c (x * x * ri % N) ∧ MD h' A 6 L N ni ∧ fr h h' (fun q => q = c ∨ sc A 6 q)) := by
  obtain ⟨⟨fs, m0, _⟩, _⟩ := id hM
  refine vm_met rfl (Nat.le_of_ble_eq_true rfl) ?_
  refine vm_go rfl (bX6_sqr_0 6) (oX6_sqr_0 (Or.inl rfl)) ⟨fs, m0, 0, 0, _, z_mul hP hM ha ha hc hna hna hnc hx oa oa oc ocs, Nat.le_refl _, Nat.le_refl _, ?_⟩
  rintro r h' ⟨rfl, k⟩
  exact ⟨rfl, k⟩
theorem z_copyi {h : vm_H} {A : Nat → Nat} {L N ni ri a c na x : Nat} (hP : MP A 6 L N ni ri) (hM : MD h A 6 L N ni) (ha : nz na h L a x) (hna : L ≤ na) (hc : la h L c) (oc : okc A c) :
    vm_Met (vm_env l O f9) mX6_copy 0 0 [.ref (A 0), .ref a, .ref c] h (fun r h' => r = none ∧ nv h' L c x ∧ MD h' A 6 L N ni ∧ fr h h' (fun q => q = c)) := by
  obtain ⟨⟨fs, m0, f0, _⟩, _⟩ := id hM
  obtain ⟨fa, ha, va⟩ := nz_f ha hna
  obtain ⟨fc, hc⟩ := hc
  refine vm_metP (s_mcopy (Or.inl rfl) m0 f0 ha hc hna (Nat.le_refl _) oc.2) ?_
  rintro r h' ⟨rfl, rfl⟩
  exact ⟨rfl, ⟨_, vm_upe, fun j hj => by rw [cutf_lo hj, va j hj]⟩, MD_up hP hM (Or.inl oc), fr_up rfl⟩
theorem z_copyo {h : vm_H} {A : Nat → Nat} {L N ni ri a c nc x : Nat} (hP : MP A 6 L N ni ri) (hM : MD h A 6 L N ni) (ha : nv h L a x) (hx : x < 268435456 ^ L) (hc : lz nc h c) (hnc : L ≤ nc) (oc : okc A c) (ocs : ∀ i, i < 16 → c ≠ A (8 + i)) :
    vm_Met (vm_env l O f9) mX6_copy 0 0 [.ref (A 0), .ref a, .ref c] h (fun r h' => r = none ∧ nz nc h' L c x ∧ MD h' A 6 L N ni ∧ fr h h' (fun q => q = c)) := by
  obtain ⟨⟨fs, m0, f0, _⟩, _⟩ := id hM
  obtain ⟨fa, ha, va⟩ := ha
  obtain ⟨Xc, ⟨fc, hc1, vc⟩, hXc⟩ := id hc
  refine vm_metP (s_mcopy (Or.inl rfl) m0 f0 ha hc1 (Nat.le_refl _) hnc oc.2) ?_
  rintro r h' ⟨rfl, rfl⟩
  refine ⟨rfl, ?_, MD_ext hM (fr_up (S := fun q => q = c) rfl) oc ocs (fun _ z => z), fr_up rfl⟩
  rw [cutf_e va]
  exact nz_cut hc hc1 hnc hx
theorem z_abo {h : vm_H} {A : Nat → Nat} {L N ni ri a na x : Nat} (hP : MP A 6 L N ni ri) (hM : MD h A 6 L N ni) (ha : nz na h L a x) (hna : L ≤ na) :
    vm_Met (vm_env l O f9) mX6_isAbove 0 0 [.ref (A 0), .ref a] h (fun r h' => r = some (.int (if x < N then 1 else 0)) ∧ h' = h) := by
  have hx := nz_lt ha
  obtain ⟨hci, L1, L74, N1, N2, _⟩ := hP
  obtain ⟨⟨fs, m0, f0, f1, _⟩, ⟨g1, n1, n1'⟩, _⟩ := hM
  obtain ⟨fa, ha, va⟩ := nz_f ha hna
  exact s_abo (Or.inl rfl) m0 f0 f1 ha n1 hna (Nat.le_refl _) (by omega) va n1' hx (by omega)
theorem z_same {h : vm_H} {A : Nat → Nat} {L N ni ri a b na nb x y : Nat} (hP : MP A 6 L N ni ri) (hM : MD h A 6 L N ni) (ha : nz na h L a x) (hb : nz nb h L b y) (hna : L ≤ na) (hnb : L ≤ nb) :
    vm_Met (vm_env l O f9) mX6_same 0 0 [.ref (A 0), .ref a, .ref b] h (fun r h' => r = some (.int (if x = y then 1 else 0)) ∧ h' = h) := by
  have hx := nz_lt ha
  have hy := nz_lt hb
  obtain ⟨hci, L1, L74, N1, N2, _⟩ := hP
  obtain ⟨⟨fs, m0, f0, f1, _⟩, _⟩ := hM
  obtain ⟨fa, ha, va⟩ := nz_f ha hna
  obtain ⟨fb, hb, vb⟩ := nz_f hb hnb
  exact s_msame (Or.inl rfl) m0 f0 ha hb hna hnb (by omega) va vb hx hy
theorem z_ent {h : vm_H} {A : Nat → Nat} {L N ni ri a c na nc x : Nat} (hP : MP A 6 L N ni ri) (hM : MD h A 6 L N ni) (ha : nz na h L a x) (hc : lz nc h c) (hna : L ≤ na) (hnc : L ≤ nc) (oa : a ≠ A 6) (oc : okc A c) (ocs : ∀ i, i < 16 → c ≠ A (8 + i)) :
    vm_Met (vm_env l O f9) mX6_enter 0 0 [.ref (A 0), .ref a, .ref c] h (fun r h' => r = none ∧ mz nc h' L N c x ∧ MD h' A 6 L N ni ∧ fr h h' (fun q => q = c ∨ sc A 6 q)) := by
  have hP' := hP
  have hM' := hM
  have hN := (MP_N hP).1
  obtain ⟨hci, L1, L74, N1, N2, hni, hri, hin, ho⟩ := hP
  obtain ⟨⟨fs, m0, f0, f1, f2, f3, f4, f5, f6, f7, f8⟩, _, _, m3, _⟩ := hM
  refine vm_met rfl (Nat.le_of_ble_eq_true rfl) ?_
  have hm3 := Nat.mod_lt (268435456 ^ L * 268435456 ^ L) hN
  refine vm_go rfl (bX6_enter_0 6) (oX6_enter_0 (Or.inl rfl)) ⟨fs, _, m0, f3, ⟨fs, m0, 0, 0, _, z_mul hP' hM' ha (nv_nz m3 (by omega)) hc hna (Nat.le_refl _) hnc hm3 oa (fun e => absurd (hin _ _ (by decide) (by decide) e) (by decide)) oc ocs, Nat.le_refl _, Nat.le_refl _, ?_⟩⟩
  rintro r h' ⟨rfl, k1, k2⟩
  refine ⟨rfl, ?_, k2⟩
  have e : x * (268435456 ^ L * 268435456 ^ L % N) * ri % N = mt N L (x : Int) := by
    have e1 : x * (268435456 ^ L * 268435456 ^ L % N) * ri % N = (x * 268435456 ^ L) * (268435456 ^ L * ri) % N := by
      rw [Nat.mul_right_comm, Nat.mul_mod_mod]
      congr 1
      grind
    rw [e1, Nat.mul_mod, hri, ← Nat.mul_mod, Nat.mul_one, mt_ent hN]
  unfold mz
  rwa [e] at k1
theorem z_lev {h : vm_H} {A : Nat → Nat} {L N ni ri a c na nc : Nat} {X : Int} (hP : MP A 6 L N ni ri) (hM : MD h A 6 L N ni) (ha : mz na h L N a X) (hc : lz nc h c) (hna : L ≤ na) (hnc : L ≤ nc) (oa : a ≠ A 6) (oc : okc A c) (ocs : ∀ i, i < 16 → c ≠ A (8 + i)) :
    vm_Met (vm_env l O f9) mX6_leave 0 0 [.ref (A 0), .ref a, .ref c] h (fun r h' => r = none ∧ nz nc h' L c (X % (N : Int)).toNat ∧ MD h' A 6 L N ni ∧ fr h h' (fun q => q = c ∨ sc A 6 q)) := by
  have hP' := hP
  have hM' := hM
  have hN := MP_N hP
  obtain ⟨hci, L1, L74, N1, N2, hni, hri, hin, ho⟩ := hP
  obtain ⟨⟨fs, m0, f0, f1, f2, f3, f4, f5, f6, f7, f8⟩, _, _, _, m4, _⟩ := hM
  refine vm_met rfl (Nat.le_of_ble_eq_true rfl) ?_
  refine vm_go rfl (bX6_leave_0 6) (oX6_leave_0 (Or.inl rfl)) ⟨fs, _, m0, f4, ⟨fs, m0, 0, 0, _, z_mul hP' hM' ha (nv_nz m4 (by omega)) hc hna (Nat.le_refl _) hnc N1 oa (fun e => absurd (hin _ _ (by decide) (by decide) e) (by decide)) oc ocs, Nat.le_refl _, Nat.le_refl _, ?_⟩⟩
  rintro r h' ⟨rfl, k1, k2⟩
  rw [Nat.mul_one, mt_lev hN.1 hN.2.2] at k1
  exact ⟨rfl, k1, k2⟩
theorem y_mul {h : vm_H} {A : Nat → Nat} {L N ni ri a b c na nb nc : Nat} {X Y : Int} (hP : MP A 6 L N ni ri) (hM : MD h A 6 L N ni) (ha : mz na h L N a X) (hb : mz nb h L N b Y) (hc : lz nc h c) (hna : L ≤ na) (hnb : L ≤ nb) (hnc : L ≤ nc) (oa : a ≠ A 6) (ob : b ≠ A 6) (oc : okc A c) (ocs : ∀ i, i < 16 → c ≠ A (8 + i)) :
    vm_Met (vm_env l O f9) mX6_mul 0 0 [.ref (A 0), .ref a, .ref b, .ref c] h (fun r h' => r = none ∧ mz nc h' L N c (X * Y) ∧ MD h' A 6 L N ni ∧ fr h h' (fun q => q = c ∨ sc A 6 q)) := by
  have hN := MP_N hP
  refine vm_metP (z_mul hP hM ha hb hc hna hnb hnc (mt_lt hN.1) oa ob oc ocs) ?_
  rintro r h' ⟨e, k1, k2⟩
  refine ⟨e, ?_, k2⟩
  unfold mz
  rw [← mt_mul hN.1 hN.2.2]
  exact k1
theorem y_sqr {h : vm_H} {A : Nat → Nat} {L N ni ri a c na nc : Nat} {X : Int} (hP : MP A 6 L N ni ri) (hM : MD h A 6 L N ni) (ha : mz na h L N a X) (hc : lz nc h c) (hna : L ≤ na) (hnc : L ≤ nc) (oa : a ≠ A 6) (oc : okc A c) (ocs : ∀ i, i < 16 → c ≠ A (8 + i)) :
    vm_Met (vm_env l O f9) mX6_sqr 0 0 [.ref (A 0), .ref a, .ref c] h (fun r h' => r = none ∧ mz nc h' L N c (X * X) ∧ MD h' A 6 L N ni ∧ fr h h' (fun q => q = c ∨ sc A 6 q)) := by
  have hN := MP_N hP
  refine vm_metP (z_sqr hP hM ha hc hna hnc (mt_lt hN.1) oa oc ocs) ?_
  rintro r h' ⟨e, k1, k2⟩
  refine ⟨e, ?_, k2⟩
  unfold mz
  rw [← mt_mul hN.1 hN.2.2]
  exact k1
end
