/-! numbers in arrays; a Modulus (or a Field) as a whole -/
theorem vm_metP {E : vm_E} {y : vm_M} {kc ks : Nat} {av : List Value} {h : vm_H} {Q Q' : Option Value → vm_H → Prop} (k : vm_Met E y kc ks av h Q') (hq : ∀ r h', Q' r h' → Q r h') : vm_Met E y kc ks av h Q :=
  fun G => MetFree.mono (k G) (fun _ _ h => h) (fun _ _ _ _ _ h => h) (fun _ _ _ _ _ ⟨⟨r, h', b3, b4, b5⟩, b6⟩ => ⟨⟨r, h', b3, hq r h' b4, b5⟩, b6⟩)
/-- array a is of L longs -/
def la (h : vm_H) (L a : Nat) : Prop := ∃ f : Nat → Int64, h.2 a = .inl (.long, L, .inr (.inl f))
/-- array a holds the number v in L limbs -/
def nv (h : vm_H) (L a v : Nat) : Prop := ∃ f : Nat → Int64, h.2 a = .inl (.long, L, .inr (.inl f)) ∧ ∀ j, j < L → f j = lZ (dg v j)
/-- the same heap but at the places of S -/
def fr (h h' : vm_H) (S : Nat → Prop) : Prop := h'.1 = h.1 ∧ ∀ a, ¬ S a → h'.2 a = h.2 a
theorem nv_la {h : vm_H} {L a v : Nat} (k : nv h L a v) : la h L a := by
  obtain ⟨f, h1, _⟩ := k
  exact ⟨f, h1⟩
theorem fr_refl {h : vm_H} {S : Nat → Prop} : fr h h S := ⟨rfl, fun _ _ => rfl⟩
theorem fr_up {h : vm_H} {c : Nat} {o : vm_Ob} {S : Nat → Prop} (hc : S c) : fr h (vm_up h c o) S := ⟨rfl, fun a ha => vm_upn (fun e => ha (e ▸ hc))⟩
theorem fr_trans {h h' h'' : vm_H} {S : Nat → Prop} (k : fr h h' S) (k' : fr h' h'' S) : fr h h'' S := ⟨k'.1.trans k.1, fun a ha => (k'.2 a ha).trans (k.2 a ha)⟩
theorem fr_mono {h h' : vm_H} {S S' : Nat → Prop} (k : fr h h' S) (hS : ∀ a, S a → S' a) : fr h h' S' := ⟨k.1, fun a ha => k.2 a (fun z => ha (hS a z))⟩
theorem fr_nv {h h' : vm_H} {S : Nat → Prop} {L a v : Nat} (k : fr h h' S) (n : nv h L a v) (ha : ¬ S a) : nv h' L a v := by
  obtain ⟨f, h1, h2⟩ := n
  exact ⟨f, (k.2 a ha).trans h1, h2⟩
theorem fr_la {h h' : vm_H} {S : Nat → Prop} {L a : Nat} (k : fr h h' S) (n : la h L a) (ha : ¬ S a) : la h' L a := by
  obtain ⟨f, h1⟩ := n
  exact ⟨f, (k.2 a ha).trans h1⟩
/-- the places of a Modulus: 0 itself, 1 n, 2 one, 3 square, 4 unit, 5 w (of a Field), 6 work, 7 spare, 8 to 23 the rows of spare -/
def MP (A : Nat → Nat) (ci L N ni ri : Nat) : Prop :=
  (ci = 6 ∨ (ci = 3 ∧ L = 14 ∧ N = cP)) ∧ 1 < L ∧ L ≤ 74 ∧ 1 < N ∧ 2 * N ≤ 268435456 ^ L ∧ (ni * dg N 0 + 1) % 268435456 = 0 ∧ 268435456 ^ L * ri % N = 1 % N ∧ (∀ i j, i < 24 → j < 24 → A i = A j → i = j) ∧ ∀ i, i < 24 → i ≠ 5 ∨ ci = 3 → A i < 1099511627776
def MD (h : vm_H) (A : Nat → Nat) (ci L N ni : Nat) : Prop :=
  (∃ fs : List Value, h.2 (A 0) = .inr (ci, fs) ∧ fs[0]? = some (.int (nI L)) ∧ fs[1]? = some (.ref (A 1)) ∧ fs[2]? = some (.ref (A 2)) ∧ fs[3]? = some (.ref (A 3)) ∧ fs[4]? = some (.ref (A 4)) ∧ fs[5]? = some (.long (lZ ni)) ∧ fs[6]? = some (.ref (A 6)) ∧ fs[7]? = some (.ref (A 7)) ∧ (ci = 3 → fs[8]? = some (.ref (A 5)))) ∧
  nv h L (A 1) N ∧ nv h L (A 2) (268435456 ^ L % N) ∧ nv h L (A 3) (268435456 ^ L * 268435456 ^ L % N) ∧ nv h L (A 4) 1 ∧ la h L (A 6) ∧ h.2 (A 7) = .inl (.array .long, 16, .inr (.inr (.inr (.inr (fun j => if j < 16 then some (A (8 + j)) else none))))) ∧ (∀ i, i < 16 → la h L (A (8 + i))) ∧ (ci = 3 → la h 28 (A 5))
/-- what a product writes besides its result -/
def sc (A : Nat → Nat) (ci q : Nat) : Prop := q = A 6 ∨ (ci = 3 ∧ q = A 5)
/-- a place for results -/
def okc (A : Nat → Nat) (c : Nat) : Prop := (∀ i, i < 8 → c ≠ A i) ∧ c < 1099511627776
theorem MP_ci {A : Nat → Nat} {ci L N ni ri : Nat} (h : MP A ci L N ni ri) : ci = 6 ∨ ci = 3 := by
  rcases h.1 with q | q
  · exact Or.inl q
  · exact Or.inr q.1
theorem okc_sp {A : Nat → Nat} {ci L N ni ri i : Nat} (h : MP A ci L N ni ri) (hi : i < 16) : okc A (A (8 + i)) := by
  obtain ⟨_, _, _, _, _, _, _, hj, ho⟩ := h
  refine ⟨fun j hj8 e => ?_, ho _ (by omega) (Or.inl (by omega))⟩
  have := hj _ _ (by omega) (by omega) e
  omega
/-- other contents, same shape -/
theorem MD_fr {h h' : vm_H} {A : Nat → Nat} {ci L N ni : Nat} (hM : MD h A ci L N ni) (hk : ∀ i, i < 8 → i ≠ 5 → i ≠ 6 → h'.2 (A i) = h.2 (A i)) (h6 : la h' L (A 6)) (h8 : ∀ i, i < 16 → la h' L (A (8 + i))) (h5 : ci = 3 → la h' 28 (A 5)) : MD h' A ci L N ni := by
  obtain ⟨⟨fs, m0, m1⟩, ⟨g1, n1, n1'⟩, ⟨g2, n2, n2'⟩, ⟨g3, n3, n3'⟩, ⟨g4, n4, n4'⟩, _, m7, _, _⟩ := hM
  exact ⟨⟨fs, (hk 0 (by decide) (by decide) (by decide)).trans m0, m1⟩, ⟨g1, (hk 1 (by decide) (by decide) (by decide)).trans n1, n1'⟩, ⟨g2, (hk 2 (by decide) (by decide) (by decide)).trans n2, n2'⟩, ⟨g3, (hk 3 (by decide) (by decide) (by decide)).trans n3, n3'⟩, ⟨g4, (hk 4 (by decide) (by decide) (by decide)).trans n4, n4'⟩, h6, (hk 7 (by decide) (by decide) (by decide)).trans m7, h8, h5⟩
theorem la_up {h : vm_H} {L a c : Nat} {f : Nat → Int64} (k : la h L a) : la (vm_up h c (.inl (.long, L, .inr (.inl f)))) L a := by
  by_cases e : a = c
  · subst e; exact ⟨f, vm_upe⟩
  · obtain ⟨g, hg⟩ := k; exact ⟨g, (vm_upn e).trans hg⟩
theorem MD_up {h : vm_H} {A : Nat → Nat} {ci L N ni ri c : Nat} {f : Nat → Int64} (hP : MP A ci L N ni ri) (hM : MD h A ci L N ni) (hc : okc A c ∨ c = A 6) : MD (vm_up h c (.inl (.long, L, .inr (.inl f)))) A ci L N ni := by
  have hin := hP.2.2.2.2.2.2.2.1
  have hne : ∀ i, i < 8 → i ≠ 6 → A i ≠ c := by
    intro i hi h6 e
    rcases hc with q | q
    · exact q.1 i hi e.symm
    · exact h6 (hin _ _ (by omega) (by omega) (e.trans q))
  refine MD_fr hM (fun i hi h5 h6 => vm_upn (hne i hi h6)) (la_up hM.2.2.2.2.2.1) (fun i hi => la_up (hM.2.2.2.2.2.2.2.1 i hi)) (fun q => ?_)
  obtain ⟨g, hg⟩ := hM.2.2.2.2.2.2.2.2 q
  exact ⟨g, (vm_upn (hne 5 (by decide) (by decide))).trans hg⟩
theorem MD_up5 {h : vm_H} {A : Nat → Nat} {ci L N ni ri : Nat} {f : Nat → Int64} (hP : MP A ci L N ni ri) (hM : MD h A ci L N ni) : MD (vm_up h (A 5) (.inl (.long, 28, .inr (.inl f)))) A ci L N ni := by
  have hin := hP.2.2.2.2.2.2.2.1
  have hne : ∀ i, i < 24 → i ≠ 5 → A i ≠ A 5 := by
    intro i hi h6 e
    exact h6 (hin _ _ hi (by omega) e)
  refine MD_fr hM (fun i hi h5 h6 => vm_upn (hne i (by omega) h5)) ?_ (fun i hi => ?_) (fun _ => ⟨f, vm_upe⟩)
  · obtain ⟨g, hg⟩ := hM.2.2.2.2.2.1
    exact ⟨g, (vm_upn (hne 6 (by decide) (by decide))).trans hg⟩
  · obtain ⟨g, hg⟩ := hM.2.2.2.2.2.2.2.1 i hi
    exact ⟨g, (vm_upn (hne (8 + i) (by omega) (by omega))).trans hg⟩
theorem nv_e {h : vm_H} {L c v : Nat} {fc : Nat → Int64} : nv (vm_up h c (.inl (.long, L, .inr (.inl (cutf (fun j => lZ (dg v j)) fc L))))) L c v := ⟨_, vm_upe, fun j hj => cutf_lo hj⟩
section
variable {l : Launch} {O : Nat → vm_Ob} {f9 : Value}
theorem m_mul {h : vm_H} {A : Nat → Nat} {ci L N ni ri a b c x y : Nat} (hP : MP A ci L N ni ri) (hM : MD h A ci L N ni) (ha : nv h L a x) (hb : nv h L b y) (hc : la h L c) (hx : x < 268435456 ^ L) (hy : y < N) (oa : a ≠ A 6) (ob : b ≠ A 6) (oc : okc A c) :
    vm_Met (vm_env l O f9) (vm_mt (if ci = 3 then 29 else 57)) 0 0 [.ref (A 0), .ref a, .ref b, .ref c] h (fun r h' => r = none ∧ nv h' L c (x * y * ri % N) ∧ MD h' A ci L N ni ∧ fr h h' (fun q => q = c ∨ sc A ci q)) := by
  have hP' := hP
  have hM' := hM
  obtain ⟨hci, L1, L74, N1, N2, hni, hri, hin, ho⟩ := hP
  obtain ⟨⟨fs, m0, f0, f1, f2, f3, f4, f5, f6, f7, f8⟩, ⟨g1, n1, n1'⟩, _, _, _, ⟨gw, hw⟩, m7, m8, m5⟩ := hM
  obtain ⟨fa, ha, va⟩ := ha
  obtain ⟨fb, hb, vb⟩ := hb
  obtain ⟨fc, hc⟩ := hc
  rcases hci with rfl | ⟨rfl, rfl, rfl⟩
  · refine vm_metP (s_mul (ri := ri) (Or.inl rfl) m0 f0 f1 f5 f6 ha hb hc n1 hw (oc.1 1 (by decide)) (fun e => absurd (hin _ _ (by decide) (by decide) e) (by decide)) (Ne.symm oa) (Ne.symm ob) (Ne.symm (oc.1 6 (by decide))) (Nat.le_refl _) (Nat.le_refl _) (Nat.le_refl _) (Nat.le_refl _) (Nat.le_refl _) (by omega) L74 L1 oc.2 (ho 6 (by decide) (Or.inl (by decide))) va vb n1' hx hy N2 hni hri) ?_
    rintro r h' ⟨rfl, g, rfl⟩
    refine ⟨rfl, nv_e, MD_up hP' (MD_up hP' hM' (Or.inr rfl)) (Or.inl oc), fr_trans (fr_up (Or.inr (Or.inl rfl))) (fr_up (Or.inl rfl))⟩
  · obtain ⟨gw5, hw5⟩ := m5 rfl
    refine vm_metP (s_fmul m0 f0 f1 (f8 rfl) ha hb hc n1 hw5 (oc.1 1 (by decide)) (fun e => absurd (hin _ _ (by decide) (by decide) e) (by decide)) (Ne.symm (oc.1 5 (by decide))) oc.2 (ho 5 (by decide) (Or.inr rfl)) va vb n1' hx hy) ?_
    rintro r h' ⟨rfl, g, rfl⟩
    refine ⟨rfl, ?_, MD_up hP' (MD_up5 hP' hM') (Or.inl oc), fr_trans (fr_up (Or.inr (Or.inr ⟨rfl, rfl⟩))) (fr_up (Or.inl rfl))⟩
    rw [fT_mod hx hy hri]
    exact nv_e
theorem m_sqr {h : vm_H} {A : Nat → Nat} {ci L N ni ri a c x : Nat} (hP : MP A ci L N ni ri) (hM : MD h A ci L N ni) (ha : nv h L a x) (hc : la h L c) (hx : x < N) (oa : a ≠ A 6) (oc : okc A c) :
    vm_Met (vm_env l O f9) (vm_mt (if ci = 3 then 30 else 58)) 0 0 [.ref (A 0), .ref a, .ref c] h (fun r h' => r = none ∧ nv h' L c (x * x * ri % N) ∧ MD h' A ci L N ni ∧ fr h h' (fun q => q = c ∨ sc A ci q)) := by
  have hP' := hP
  have hM' := hM
  have ha' := ha
  have hc' := hc
  obtain ⟨hci, L1, L74, N1, N2, hni, hri, hin, ho⟩ := hP
  obtain ⟨⟨fs, m0, f0, f1, f2, f3, f4, f5, f6, f7, f8⟩, ⟨g1, n1, n1'⟩, _, _, _, ⟨gw, hw⟩, m7, m8, m5⟩ := hM
  obtain ⟨fa, ha, va⟩ := ha
  obtain ⟨fc, hc⟩ := hc
  rcases hci with rfl | ⟨rfl, rfl, rfl⟩
  · show vm_Met (vm_env l O f9) mX6_sqr 0 0 _ h _
    refine vm_met rfl (Nat.le_of_ble_eq_true rfl) ?_
    refine vm_go rfl (bX6_sqr_0 6) (oX6_sqr_0 (Or.inl rfl)) ⟨fs, m0, 0, 0, _, m_mul hP' hM' ha' ha' hc' (by omega) hx oa oa oc, Nat.le_refl _, Nat.le_refl _, ?_⟩
    rintro r h' ⟨rfl, k⟩
    exact ⟨rfl, k⟩
  · obtain ⟨gw5, hw5⟩ := m5 rfl
    refine vm_metP (s_fsqr m0 f0 f1 (f8 rfl) ha hc n1 hw5 (oc.1 1 (by decide)) (fun e => absurd (hin _ _ (by decide) (by decide) e) (by decide)) (Ne.symm (oc.1 5 (by decide))) oc.2 (ho 5 (by decide) (Or.inr rfl)) va n1' hx) ?_
    rintro r h' ⟨rfl, g, rfl⟩
    refine ⟨rfl, ?_, MD_up hP' (MD_up5 hP' hM') (Or.inl oc), fr_trans (fr_up (Or.inr (Or.inr ⟨rfl, rfl⟩))) (fr_up (Or.inl rfl))⟩
    rw [fT_mod (by omega) hx hri]
    exact nv_e
theorem m_add {h : vm_H} {A : Nat → Nat} {ci L N ni ri a b c x y : Nat} (hP : MP A ci L N ni ri) (hM : MD h A ci L N ni) (ha : nv h L a x) (hb : nv h L b y) (hc : la h L c) (hx : x < N) (hy : y < N) (oc : okc A c) :
    vm_Met (vm_env l O f9) mX6_add 0 0 [.ref (A 0), .ref a, .ref b, .ref c] h (fun r h' => r = none ∧ nv h' L c ((x + y) % N) ∧ MD h' A ci L N ni ∧ fr h h' (fun q => q = c)) := by
  have hP' := hP
  have hM' := hM
  have hci2 := MP_ci hP
  obtain ⟨hci, L1, L74, N1, N2, hni, hri, hin, ho⟩ := hP
  obtain ⟨⟨fs, m0, f0, f1, f2, f3, f4, f5, f6, f7, f8⟩, ⟨g1, n1, n1'⟩, _, _, _, ⟨gw, hw⟩, m7, m8, m5⟩ := hM
  obtain ⟨fa, ha, va⟩ := ha
  obtain ⟨fb, hb, vb⟩ := hb
  obtain ⟨fc, hc⟩ := hc
  refine vm_metP (s_add hci2 m0 f0 f1 ha hb hc n1 (oc.1 1 (by decide)) (Nat.le_refl _) (Nat.le_refl _) (Nat.le_refl _) (Nat.le_refl _) (by omega) (by omega) oc.2 va vb n1' (by omega) (by omega) (by omega)) ?_
  rintro r h' ⟨rfl, rfl⟩
  exact ⟨rfl, nv_e, MD_up hP' hM' (Or.inl oc), fr_up rfl⟩
theorem m_sub {h : vm_H} {A : Nat → Nat} {ci L N ni ri a b c x y : Nat} (hP : MP A ci L N ni ri) (hM : MD h A ci L N ni) (ha : nv h L a x) (hb : nv h L b y) (hc : la h L c) (hx : x < N) (hy : y < N) (oc : okc A c) :
    vm_Met (vm_env l O f9) mX6_sub 0 0 [.ref (A 0), .ref a, .ref b, .ref c] h (fun r h' => r = none ∧ nv h' L c ((x + N - y) % N) ∧ MD h' A ci L N ni ∧ fr h h' (fun q => q = c)) := by
  have hP' := hP
  have hM' := hM
  have hci2 := MP_ci hP
  obtain ⟨hci, L1, L74, N1, N2, hni, hri, hin, ho⟩ := hP
  obtain ⟨⟨fs, m0, f0, f1, f2, f3, f4, f5, f6, f7, f8⟩, ⟨g1, n1, n1'⟩, _, _, _, ⟨gw, hw⟩, m7, m8, m5⟩ := hM
  obtain ⟨fa, ha, va⟩ := ha
  obtain ⟨fb, hb, vb⟩ := hb
  obtain ⟨fc, hc⟩ := hc
  refine vm_metP (s_sub hci2 m0 f0 f1 ha hb hc n1 (oc.1 1 (by decide)) (Nat.le_refl _) (Nat.le_refl _) (Nat.le_refl _) (Nat.le_refl _) (by omega) oc.2 va vb n1' hx hy (by omega)) ?_
  rintro r h' ⟨rfl, rfl⟩
  exact ⟨rfl, nv_e, MD_up hP' hM' (Or.inl oc), fr_up rfl⟩
theorem m_copy {h : vm_H} {A : Nat → Nat} {ci L N ni ri a c x : Nat} (hP : MP A ci L N ni ri) (hM : MD h A ci L N ni) (ha : nv h L a x) (hc : la h L c) (oc : okc A c) :
    vm_Met (vm_env l O f9) mX6_copy 0 0 [.ref (A 0), .ref a, .ref c] h (fun r h' => r = none ∧ nv h' L c x ∧ MD h' A ci L N ni ∧ fr h h' (fun q => q = c)) := by
  have hP' := hP
  have hM' := hM
  have hci2 := MP_ci hP
  obtain ⟨⟨fs, m0, f0, _⟩, _⟩ := hM
  obtain ⟨fa, ha, va⟩ := ha
  obtain ⟨fc, hc⟩ := hc
  refine vm_metP (s_mcopy hci2 m0 f0 ha hc (Nat.le_refl _) (Nat.le_refl _) oc.2) ?_
  rintro r h' ⟨rfl, rfl⟩
  exact ⟨rfl, ⟨_, vm_upe, fun j hj => by rw [cutf_lo hj, va j hj]⟩, MD_up hP' hM' (Or.inl oc), fr_up rfl⟩
theorem m_isz {h : vm_H} {A : Nat → Nat} {ci L N ni ri a x : Nat} (hP : MP A ci L N ni ri) (hM : MD h A ci L N ni) (ha : nv h L a x) (hx : x < 268435456 ^ L) :
    vm_Met (vm_env l O f9) mX6_isZero 0 0 [.ref (A 0), .ref a] h (fun r h' => r = some (.int (if x = 0 then 1 else 0)) ∧ h' = h) := by
  have hci2 := MP_ci hP
  obtain ⟨hci, L1, L74, _⟩ := hP
  obtain ⟨⟨fs, m0, f0, _⟩, _⟩ := hM
  obtain ⟨fa, ha, va⟩ := ha
  exact s_isz hci2 m0 f0 ha (Nat.le_refl _) (by omega) va hx
theorem m_same {h : vm_H} {A : Nat → Nat} {ci L N ni ri a b x y : Nat} (hP : MP A ci L N ni ri) (hM : MD h A ci L N ni) (ha : nv h L a x) (hb : nv h L b y) (hx : x < 268435456 ^ L) (hy : y < 268435456 ^ L) :
    vm_Met (vm_env l O f9) mX6_same 0 0 [.ref (A 0), .ref a, .ref b] h (fun r h' => r = some (.int (if x = y then 1 else 0)) ∧ h' = h) := by
  have hci2 := MP_ci hP
  obtain ⟨hci, L1, L74, _⟩ := hP
  obtain ⟨⟨fs, m0, f0, _⟩, _⟩ := hM
  obtain ⟨fa, ha, va⟩ := ha
  obtain ⟨fb, hb, vb⟩ := hb
  exact s_msame hci2 m0 f0 ha hb (Nat.le_refl _) (Nat.le_refl _) (by omega) va vb hx hy
theorem m_abo {h : vm_H} {A : Nat → Nat} {ci L N ni ri a x : Nat} (hP : MP A ci L N ni ri) (hM : MD h A ci L N ni) (ha : nv h L a x) (hx : x < 268435456 ^ L) :
    vm_Met (vm_env l O f9) mX6_isAbove 0 0 [.ref (A 0), .ref a] h (fun r h' => r = some (.int (if x < N then 1 else 0)) ∧ h' = h) := by
  have hci2 := MP_ci hP
  obtain ⟨hci, L1, L74, N1, N2, _⟩ := hP
  obtain ⟨⟨fs, m0, f0, f1, _⟩, ⟨g1, n1, n1'⟩, _⟩ := hM
  obtain ⟨fa, ha, va⟩ := ha
  exact s_abo hci2 m0 f0 f1 ha n1 (Nat.le_refl _) (Nat.le_refl _) (by omega) va n1' hx (by omega)
theorem m_ent {h : vm_H} {A : Nat → Nat} {ci L N ni ri a c x : Nat} (hP : MP A ci L N ni ri) (hM : MD h A ci L N ni) (ha : nv h L a x) (hc : la h L c) (hx : x < 268435456 ^ L) (oa : a ≠ A 6) (oc : okc A c) :
    vm_Met (vm_env l O f9) mX6_enter 0 0 [.ref (A 0), .ref a, .ref c] h (fun r h' => r = none ∧ nv h' L c (x * 268435456 ^ L % N) ∧ MD h' A ci L N ni ∧ fr h h' (fun q => q = c ∨ sc A ci q)) := by
  have hci2 := MP_ci hP
  have hif : (if ci = 600 then 500 else ci) = ci := by rcases hci2 with rfl | rfl <;> rfl
  have hP' := hP
  have hM' := hM
  obtain ⟨hci, L1, L74, N1, N2, hni, hri, hin, ho⟩ := hP
  obtain ⟨⟨fs, m0, f0, f1, f2, f3, f4, f5, f6, f7, f8⟩, _, _, m3, _⟩ := hM
  refine vm_met rfl (Nat.le_of_ble_eq_true rfl) ?_
  refine vm_go rfl (bX6_enter_0 ci) (oX6_enter_0 hci2) ⟨fs, _, m0, f3, ⟨fs, by rw [hif]; exact m0, 0, 0, _, m_mul hP' hM' ha m3 hc hx (Nat.mod_lt _ (by omega)) oa (fun e => absurd (hin _ _ (by decide) (by decide) e) (by decide)) oc, Nat.le_refl _, Nat.le_refl _, ?_⟩⟩
  rintro r h' ⟨rfl, k1, k2⟩
  refine ⟨rfl, ?_, k2⟩
  have e : x * (268435456 ^ L * 268435456 ^ L % N) * ri % N = x * 268435456 ^ L % N := by
    have e1 : x * (268435456 ^ L * 268435456 ^ L % N) * ri % N = (x * 268435456 ^ L) * (268435456 ^ L * ri) % N := by
      rw [Nat.mul_right_comm, Nat.mul_mod_mod]
      congr 1
      grind
    rw [e1, Nat.mul_mod, hri, ← Nat.mul_mod, Nat.mul_one]
  rwa [e] at k1
theorem m_lev {h : vm_H} {A : Nat → Nat} {ci L N ni ri a c x : Nat} (hP : MP A ci L N ni ri) (hM : MD h A ci L N ni) (ha : nv h L a x) (hc : la h L c) (hx : x < 268435456 ^ L) (oa : a ≠ A 6) (oc : okc A c) :
    vm_Met (vm_env l O f9) mX6_leave 0 0 [.ref (A 0), .ref a, .ref c] h (fun r h' => r = none ∧ nv h' L c (x * ri % N) ∧ MD h' A ci L N ni ∧ fr h h' (fun q => q = c ∨ sc A ci q)) := by
  have hci2 := MP_ci hP
  have hif : (if ci = 600 then 500 else ci) = ci := by rcases hci2 with rfl | rfl <;> rfl
  have hP' := hP
  have hM' := hM
  obtain ⟨hci, L1, L74, N1, N2, hni, hri, hin, ho⟩ := hP
  obtain ⟨⟨fs, m0, f0, f1, f2, f3, f4, f5, f6, f7, f8⟩, _, _, _, m4, _⟩ := hM
  refine vm_met rfl (Nat.le_of_ble_eq_true rfl) ?_
  refine vm_go rfl (bX6_leave_0 ci) (oX6_leave_0 hci2) ⟨fs, _, m0, f4, ⟨fs, by rw [hif]; exact m0, 0, 0, _, m_mul hP' hM' ha m4 hc hx N1 oa (fun e => absurd (hin _ _ (by decide) (by decide) e) (by decide)) oc, Nat.le_refl _, Nat.le_refl _, ?_⟩⟩
  rintro r h' ⟨rfl, k1, k2⟩
  rw [Nat.mul_one] at k1
  exact ⟨rfl, k1, k2⟩
end
