/-! Modulus.invert -/
section
variable {l : Launch} {O : Nat → vm_Ob} {f9 : Value}
theorem m_tak {h : vm_H} {A : Nat → Nat} {ci L N ni ri a b c x y : Nat} (hP : MP A ci L N ni ri) (hM : MD h A ci L N ni) (ha : nv h L a x) (hb : nv h L b y) (hc : la h L c) (hx : x < 268435456 ^ L) (hyx : y ≤ x) (oc : okc A c) :
    vm_Met (vm_env l O f9) mX6_takeAway 0 0 [.ref (A 0), .ref a, .ref b, .ref c] h (fun r h' => r = some (.int 0) ∧ nv h' L c (x - y) ∧ MD h' A ci L N ni ∧ fr h h' (fun q => q = c)) := by
  have hci2 := MP_ci hP
  have hP' := hP
  have hM' := hM
  obtain ⟨hci, L1, L74, _⟩ := hP
  obtain ⟨⟨fs, m0, f0, _⟩, _⟩ := hM
  obtain ⟨fa, ha, va⟩ := ha
  obtain ⟨fb, hb, vb⟩ := hb
  obtain ⟨fc, hc⟩ := hc
  refine vm_metP (s_tak hci2 m0 f0 ha hb hc (Nat.le_refl _) (Nat.le_refl _) (Nat.le_refl _) (by omega) oc.2 va vb hx (by omega)) ?_
  rintro r h' ⟨rfl, rfl⟩
  rw [if_neg (by omega), sbR_ge hx hyx]
  exact ⟨rfl, nv_e, MD_up hP' hM' (Or.inl oc), fr_up rfl⟩
theorem m_put {h : vm_H} {A : Nat → Nat} {ci L N ni ri a b c x y : Nat} (hP : MP A ci L N ni ri) (hM : MD h A ci L N ni) (ha : nv h L a x) (hb : nv h L b y) (hc : la h L c) (oc : okc A c) :
    vm_Met (vm_env l O f9) mX6_putTogether 0 0 [.ref (A 0), .ref a, .ref b, .ref c] h (fun r h' => r = none ∧ nv h' L c (x + y) ∧ MD h' A ci L N ni ∧ fr h h' (fun q => q = c)) := by
  have hci2 := MP_ci hP
  have hP' := hP
  have hM' := hM
  obtain ⟨hci, L1, L74, _⟩ := hP
  obtain ⟨⟨fs, m0, f0, _⟩, _⟩ := hM
  obtain ⟨fa, ha, va⟩ := ha
  obtain ⟨fb, hb, vb⟩ := hb
  obtain ⟨fc, hc⟩ := hc
  refine vm_metP (s_put hci2 m0 f0 ha hb hc (Nat.le_refl _) (Nat.le_refl _) (Nat.le_refl _) (by omega) oc.2 va vb) ?_
  rintro r h' ⟨rfl, rfl⟩
  exact ⟨rfl, nv_e, MD_up hP' hM' (Or.inl oc), fr_up rfl⟩
theorem m_les {h : vm_H} {A : Nat → Nat} {ci L N ni ri a b x y : Nat} (hP : MP A ci L N ni ri) (hM : MD h A ci L N ni) (ha : nv h L a x) (hb : nv h L b y) (hx : x < 268435456 ^ L) (hy : y < 268435456 ^ L) :
    vm_Met (vm_env l O f9) mX6_isLess 0 0 [.ref (A 0), .ref a, .ref b] h (fun r h' => r = some (.int (if x < y then 1 else 0)) ∧ h' = h) := by
  have hci2 := MP_ci hP
  obtain ⟨hci, L1, L74, _⟩ := hP
  obtain ⟨⟨fs, m0, f0, _⟩, _⟩ := hM
  obtain ⟨fa, ha, va⟩ := ha
  obtain ⟨fb, hb, vb⟩ := hb
  exact s_les hci2 m0 f0 ha hb (Nat.le_refl _) (Nat.le_refl _) (by omega) va vb hx hy
theorem m_hal {h : vm_H} {A : Nat → Nat} {ci L N ni ri a x : Nat} (hP : MP A ci L N ni ri) (hM : MD h A ci L N ni) (ha : nv h L a x) (hx : x < 268435456 ^ L) (oc : okc A a) :
    vm_Met (vm_env l O f9) mX6_halve 0 0 [.ref (A 0), .ref a] h (fun r h' => r = none ∧ nv h' L a (x / 2) ∧ MD h' A ci L N ni ∧ fr h h' (fun q => q = a)) := by
  have hci2 := MP_ci hP
  have hP' := hP
  have hM' := hM
  obtain ⟨hci, L1, L74, _⟩ := hP
  obtain ⟨⟨fs, m0, f0, _⟩, _⟩ := hM
  refine vm_metP (s_hal hci2 m0 f0 ha (by omega) (by omega) oc.2 hx) ?_
  rintro r h' ⟨rfl, g, rfl, hg⟩
  exact ⟨rfl, ⟨g, vm_upe, hg⟩, MD_up hP' hM' (Or.inl oc), fr_up rfl⟩
theorem m_fil {h : vm_H} {A : Nat → Nat} {ci L N ni ri a : Nat} (hP : MP A ci L N ni ri) (hM : MD h A ci L N ni) (ha : la h L a) (oc : okc A a) :
    vm_Met (vm_env l O f9) mJ7_fill_d0a16 0 0 [.ref a, .long 0] h (fun r h' => r = none ∧ nv h' L a 0 ∧ MD h' A ci L N ni ∧ fr h h' (fun q => q = a)) := by
  have hP' := hP
  obtain ⟨hci, L1, L74, _⟩ := hP
  obtain ⟨f, ha⟩ := ha
  refine vm_metP (s_fillL ha oc.2 (by omega)) ?_
  rintro r h' ⟨rfl, rfl⟩
  refine ⟨rfl, ⟨_, vm_upe, fun j hj => ?_⟩, MD_up hP' hM (Or.inl oc), fr_up rfl⟩
  rw [cutf_lo hj]
  unfold dg
  rw [Nat.zero_div]
  rfl
end
theorem MP_odd {A : Nat → Nat} {ci L N ni ri : Nat} (h : MP A ci L N ni ri) : N % 2 = 1 := by
  obtain ⟨_, _, _, _, _, hni, _⟩ := h
  unfold dg at hni
  rw [Nat.pow_zero, Nat.div_one] at hni
  have h1 : N % 268435456 % 2 = N % 2 := by omega
  rcases Nat.mod_two_eq_zero_or_one N with q | q
  · exfalso
    obtain ⟨k, hk⟩ : ∃ k, N % 268435456 = 2 * k := ⟨N % 268435456 / 2, by omega⟩
    rw [hk] at hni
    have : ni * (2 * k) = 2 * (ni * k) := by grind
    omega
  · exact q
/-- any number below N is some residue's form -/
theorem mt_of {N L ri y : Nat} (hy : y < N) (hri : 268435456 ^ L * ri % N = 1 % N) : y = mt N L ((y : Int) * ri) := by
  obtain ⟨k, hk⟩ := ri_e hri
  refine mt_i (k := -(y * k)) hy ?_
  generalize (268435456 : Int) ^ L = R at *
  grind
theorem iv_gcd_even {u v : Nat} (hu : u % 2 = 0) (hv : v % 2 = 1) : Nat.gcd (u / 2) v = Nat.gcd u v := by
  have h2 : Nat.Coprime 2 v := by
    unfold Nat.Coprime
    rw [Nat.gcd_rec, hv]
    decide
  have e : u = 2 * (u / 2) := by omega
  conv => rhs; rw [e]
  exact (Nat.Coprime.gcd_mul_left_cancel _ h2).symm
theorem iv_gcd_odd {u v : Nat} (h : v ≤ u) : Nat.gcd (u - v) v = Nat.gcd u v := by
  obtain ⟨d, rfl⟩ : ∃ d, u = d + v := ⟨u - v, by omega⟩
  rw [Nat.add_sub_cancel, Nat.gcd_add_self_left]
/-- halving keeps x a = u S modulo N -/
theorem iv_half {x u a S N k : Int} (hN : N % 2 = 1) (hx : x % 2 = 0) (hu : u % 2 = 0) (h : x * a = u * S + N * k) : ∃ k', x / 2 * a = u / 2 * S + N * k' := by
  obtain ⟨x', rfl⟩ : ∃ x', x = 2 * x' := ⟨x / 2, by omega⟩
  obtain ⟨u', rfl⟩ : ∃ u', u = 2 * u' := ⟨u / 2, by omega⟩
  have hk : k % 2 = 0 := by
    have e : N * k = 2 * (x' * a - u' * S) := by grind
    have h2 : (N * k) % 2 = 0 := by rw [e]; exact Int.mul_emod_right 2 _
    rw [Int.mul_emod, hN, Int.one_mul, Int.emod_emod_of_dvd _ (Int.dvd_refl 2)] at h2
    exact h2
  obtain ⟨k', rfl⟩ : ∃ k', k = 2 * k' := ⟨k / 2, by omega⟩
  refine ⟨k', ?_⟩
  rw [show 2 * x' / 2 = x' by omega, show 2 * u' / 2 = u' by omega]
  have : 2 * (x' * a) = 2 * (u' * S + N * k') := by grind
  omega
/-- what holds at each turn: s says which row is u -/
def IV (h0 : vm_H) (A : Nat → Nat) (ci L N ni c al g s U V x y : Nat) (h' : vm_H) : Prop :=
  s ≤ 1 ∧ MD h' A ci L N ni ∧ nv h' L (A (8 + s)) U ∧ nv h' L (A (9 - s)) V ∧ nv h' L (A (10 + s)) x ∧ nv h' L (A (11 - s)) y ∧ U ≤ N ∧ V ≤ N ∧ x < N ∧ y < N ∧ V % 2 = 1 ∧ Nat.gcd U V = g ∧ (∃ k : Int, (x : Int) * al = U * (268435456 ^ L * 268435456 ^ L) + N * k) ∧ (∃ k : Int, (y : Int) * al = V * (268435456 ^ L * 268435456 ^ L) + N * k) ∧ fr h0 h' (rS A ci c)
theorem IV_swap {h0 h' : vm_H} {A : Nat → Nat} {ci L N ni c al g s U V x y : Nat} (k : IV h0 A ci L N ni c al g s U V x y h') (hU : U % 2 = 1) : IV h0 A ci L N ni c al g (1 - s) V U y x h' := by
  obtain ⟨k1, k2, k3, k4, k5, k6, k7, k8, k9, k10, k11, k12, k13, k14, k15⟩ := k
  refine ⟨by omega, k2, ?_, ?_, ?_, ?_, k8, k7, k10, k9, hU, by rw [Nat.gcd_comm]; exact k12, k14, k13, k15⟩
  · rw [show 8 + (1 - s) = 9 - s by omega]; exact k4
  · rw [show 9 - (1 - s) = 8 + s by omega]; exact k3
  · rw [show 10 + (1 - s) = 11 - s by omega]; exact k6
  · rw [show 11 - (1 - s) = 10 + s by omega]; exact k5
theorem dg0_2 (x : Nat) : dg x 0 % 2 = x % 2 := by
  unfold dg; rw [Nat.pow_zero, Nat.div_one]; omega
section
variable {l : Launch} {O : Nat → vm_Ob} {f9 : Value}
theorem odd_b (x : Nat) : lZ (dg x 0) &&& 1 = 0 ↔ x % 2 = 0 := by
  have h1 := dg0_2 x
  have h2 := dg_lt x 0
  rw [lZ_a1]
  show lZ _ = lZ 0 ↔ _
  rw [lZ_inj (by omega) (by omega) (by omega) (by omega)]
  omega
theorem nar_b {p : Prop} [Decidable p] : narrow .boolean (.int (if p then 1 else 0)) = .int (if p then 1 else 0) := by
  by_cases q : p
  · rw [if_pos q]; rfl
  · rw [if_neg q]; rfl
theorem inv_lv (a c a8 a9 a10 a11 A0 : Nat) (t : Int32) : lv_pick (vm_st1 (vm_st1 (vm_st1 (vm_st1 (vm_st1 (vm_st1 [(0, Value.ref A0), (1, Value.ref a), (2, Value.ref c), (3, Value.ref a8), (4, Value.ref a9), (5, Value.ref a10), (6, Value.ref a11), (7, Value.int t)] 8 (Value.ref a8)) 3 (Value.ref a9)) 4 (Value.ref a8)) 8 (Value.ref a10)) 5 (Value.ref a11)) 6 (Value.ref a10)) [0, 1, 2, 3, 4, 5, 6, 7] = [(0, .ref A0), (1, .ref a), (2, .ref c), (3, .ref a9), (4, .ref a8), (5, .ref a11), (6, .ref a10), (7, .int t)] := by
  have e1 : vm_st1 [(0, Value.ref A0), (1, Value.ref a), (2, Value.ref c), (3, Value.ref a8), (4, Value.ref a9), (5, Value.ref a10), (6, Value.ref a11), (7, Value.int t)] 8 (Value.ref a8) = [(0, Value.ref A0), (1, Value.ref a), (2, Value.ref c), (3, Value.ref a8), (4, Value.ref a9), (5, Value.ref a10), (6, Value.ref a11), (7, Value.int t), (8, Value.ref a8)] := rfl
  have e2 : vm_st1 [(0, Value.ref A0), (1, Value.ref a), (2, Value.ref c), (3, Value.ref a8), (4, Value.ref a9), (5, Value.ref a10), (6, Value.ref a11), (7, Value.int t), (8, Value.ref a8)] 3 (Value.ref a9) = [(0, Value.ref A0), (1, Value.ref a), (2, Value.ref c), (3, Value.ref a9), (4, Value.ref a9), (5, Value.ref a10), (6, Value.ref a11), (7, Value.int t), (8, Value.ref a8)] := rfl
  have e3 : vm_st1 [(0, Value.ref A0), (1, Value.ref a), (2, Value.ref c), (3, Value.ref a9), (4, Value.ref a9), (5, Value.ref a10), (6, Value.ref a11), (7, Value.int t), (8, Value.ref a8)] 4 (Value.ref a8) = [(0, Value.ref A0), (1, Value.ref a), (2, Value.ref c), (3, Value.ref a9), (4, Value.ref a8), (5, Value.ref a10), (6, Value.ref a11), (7, Value.int t), (8, Value.ref a8)] := rfl
  have e4 : vm_st1 [(0, Value.ref A0), (1, Value.ref a), (2, Value.ref c), (3, Value.ref a9), (4, Value.ref a8), (5, Value.ref a10), (6, Value.ref a11), (7, Value.int t), (8, Value.ref a8)] 8 (Value.ref a10) = [(0, Value.ref A0), (1, Value.ref a), (2, Value.ref c), (3, Value.ref a9), (4, Value.ref a8), (5, Value.ref a10), (6, Value.ref a11), (7, Value.int t), (8, Value.ref a10)] := rfl
  have e5 : vm_st1 [(0, Value.ref A0), (1, Value.ref a), (2, Value.ref c), (3, Value.ref a9), (4, Value.ref a8), (5, Value.ref a10), (6, Value.ref a11), (7, Value.int t), (8, Value.ref a10)] 5 (Value.ref a11) = [(0, Value.ref A0), (1, Value.ref a), (2, Value.ref c), (3, Value.ref a9), (4, Value.ref a8), (5, Value.ref a11), (6, Value.ref a11), (7, Value.int t), (8, Value.ref a10)] := rfl
  have e6 : vm_st1 [(0, Value.ref A0), (1, Value.ref a), (2, Value.ref c), (3, Value.ref a9), (4, Value.ref a8), (5, Value.ref a11), (6, Value.ref a11), (7, Value.int t), (8, Value.ref a10)] 6 (Value.ref a10) = [(0, Value.ref A0), (1, Value.ref a), (2, Value.ref c), (3, Value.ref a9), (4, Value.ref a8), (5, Value.ref a11), (6, Value.ref a10), (7, Value.int t), (8, Value.ref a10)] := rfl
  rw [e1, e2, e3, e4, e5, e6]
  rfl
theorem inv_loop {h : vm_H} {A : Nat → Nat} {ci L N ni ri a c al : Nat} {X ka : Int} (hP : MP A ci L N ni ri) (oc : okc A c) (ocs : ∀ i, i < 16 → c ≠ A (8 + i)) (hal : al < N) (hka : (al : Int) = X * 268435456 ^ L + N * ka) (t s U V x y : Nat) (h5 : vm_H) (t1 : t ≤ 56 * L) (t2 : U * V * 2 ^ t ≤ al * N) (I5 : IV h A ci L N ni c al (Nat.gcd al N) s U V x y h5) (lc : la h5 L c) :
    vm_T (vm_env l O f9) mX6_invert 0 0 66 [(0, .ref (A 0)), (1, .ref a), (2, .ref c), (3, .ref (A (8 + s))), (4, .ref (A (9 - s))), (5, .ref (A (10 + s))), (6, .ref (A (11 - s))), (7, .int (nI t))] [] h5 (fun r h' => ∃ Y : Int, r = some (.int (if Nat.gcd al N = 1 then 1 else 0)) ∧ mv h' L N c Y ∧ (Nat.gcd al N = 1 → X * Y % N = 1) ∧ MD h' A ci L N ni ∧ fr h h' (rS A ci c)) := by
  have hci2 := MP_ci hP
  have hif : (if ci = 600 then 500 else ci) = ci := by rcases hci2 with rfl | rfl <;> rfl
  have hodd := MP_odd hP
  obtain ⟨p1, p2, p3⟩ := MP_N hP
  have hP' := hP
  obtain ⟨hci, L1, L74, N1, N2, hni, hri, _, ho⟩ := hP'
  have sne : ∀ i j, 8 ≤ i → i < 24 → 8 ≤ j → j < 24 → i ≠ j → A i ≠ A j := fun i j _ hi _ hj hn => MP_6 hP hi hj hn
  have hbig : al * N < 2 ^ (56 * L) := by
    have e : 2 ^ (56 * L) = 268435456 ^ L * 268435456 ^ L := by rw [p28, ← Nat.pow_add]; congr 1; omega
    rw [e]
    exact Nat.mul_lt_mul_of_lt_of_lt (by omega) p2
  refine vm_while (σ := Nat × Nat × Nat × Nat × Nat × Nat × vm_H) (fun z => z.1 ≤ 56 * L ∧ z.2.2.1 * z.2.2.2.1 * 2 ^ z.1 ≤ al * N ∧ IV h A ci L N ni c al (Nat.gcd al N) z.2.1 z.2.2.1 z.2.2.2.1 z.2.2.2.2.1 z.2.2.2.2.2.1 z.2.2.2.2.2.2 ∧ la z.2.2.2.2.2.2 L c) (fun z => 56 * L - z.1) (fun z => [(0, .ref (A 0)), (1, .ref a), (2, .ref c), (3, .ref (A (8 + z.2.1))), (4, .ref (A (9 - z.2.1))), (5, .ref (A (10 + z.2.1))), (6, .ref (A (11 - z.2.1))), (7, .int (nI z.1))]) (fun z => z.2.2.2.2.2.2) ?_ (t, s, U, V, x, y, h5) ⟨t1, t2, I5, lc⟩
  clear t1 t2 I5 lc
  rintro ⟨t, s, U, V, x, y, h5⟩ ⟨t1, t2, I5, lc⟩ ih
  dsimp only at t1 t2 I5 lc ih ⊢
  have I5' := I5
  obtain ⟨k1, k2, k3, k4, k5, k6, k7, k8, k9, k10, k11, k12, ⟨k13, k13'⟩, ⟨k14, k14'⟩, k15⟩ := I5'
  have hend : U = 0 → vm_T (vm_env l O f9) mX6_invert 0 0 187 [(0, .ref (A 0)), (1, .ref a), (2, .ref c), (3, .ref (A (8 + s))), (4, .ref (A (9 - s))), (5, .ref (A (10 + s))), (6, .ref (A (11 - s))), (7, .int (nI t))] [] h5 (fun r h' => ∃ Y : Int, r = some (.int (if Nat.gcd al N = 1 then 1 else 0)) ∧ mv h' L N c Y ∧ (Nat.gcd al N = 1 → X * Y % N = 1) ∧ MD h' A ci L N ni ∧ fr h h' (rS A ci c)) := by
    intro hU
    have k2' := k2
    obtain ⟨⟨fs, m0, f0, f1, f2, f3, f4, f5, f6, f7, f8⟩, _⟩ := k2'
    rw [hU, Nat.gcd_zero_left] at k12
    refine vm_go rfl (bX6_invert_187 ci) (oX6_invert_187 hci2) ⟨fs, by rw [hif]; exact m0, 0, 0, _, m_copy hP k2 k6 lc oc, Nat.le_refl _, Nat.le_refl _, ?_⟩
    rintro r h6 ⟨rfl, y6, M6, F6⟩
    have M6' := M6
    obtain ⟨⟨fs6, m06, f06, f16, f26, f36, f46, f56, f66, f76, f86⟩, _, _, _, n46, _⟩ := M6'
    refine ⟨fs6, _, m06, f46, ⟨fs6, by rw [hif]; exact m06, 0, 0, _, m_same hP M6 (fr_nv F6 k4 (fun z => ocs (1 - s) (by omega) (by rw [show 8 + (1 - s) = 9 - s by omega]; exact z.symm))) n46 (by omega) (by omega), Nat.le_refl _, Nat.le_refl _, ?_⟩⟩
    rintro r h7 ⟨rfl, rfl⟩
    refine ⟨nar_b, (y : Int) * ri, by
      by_cases q : V = 1
      · rw [if_pos q, if_pos (by rw [← k12]; exact q)]
      · rw [if_neg q, if_neg (fun z => q (by rw [k12]; exact z))], ?_, ?_, M6, fr_trans k15 (fr_mono F6 (fun q hq => Or.inl hq))⟩
    · unfold mv; rw [← mt_of k10 hri]; exact y6
    · intro hg
      rw [← k12] at hg
      obtain ⟨k4', hk4⟩ := ri_e hri
      rw [hg, hka] at k14'
      have e : X * ((y : Int) * ri) = 1 + N * (2 * k4' + N * k4' * k4' + (k14 - y * ka) * ri * ri - k4' * X * y * ri) := by
        rw [Int.natCast_one] at k14'
        generalize (268435456 : Int) ^ L = R at *
        grind
      rw [e, Int.add_mul_emod_self_left]
      exact Int.emod_eq_of_lt (by decide) (by omega)
  have h147 : ∀ (s U V x y : Nat) (h5 : vm_H), t < 56 * L → U % 2 = 0 → U * V * 2 ^ t ≤ al * N → IV h A ci L N ni c al (Nat.gcd al N) s U V x y h5 → la h5 L c → vm_T (vm_env l O f9) mX6_invert 0 0 147 [(0, .ref (A 0)), (1, .ref a), (2, .ref c), (3, .ref (A (8 + s))), (4, .ref (A (9 - s))), (5, .ref (A (10 + s))), (6, .ref (A (11 - s))), (7, .int (nI t))] [] h5 (fun r h' => ∃ Y : Int, r = some (.int (if Nat.gcd al N = 1 then 1 else 0)) ∧ mv h' L N c Y ∧ (Nat.gcd al N = 1 → X * Y % N = 1) ∧ MD h' A ci L N ni ∧ fr h h' (rS A ci c)) := by
    clear k1 k2 k3 k4 k5 k6 k7 k8 k9 k10 k11 k12 k13' k13 k14' k14 k15 hend t2 I5 lc
    clear s U V x y h5
    intro s U V x y h5 ht hU t2 I5 lc
    obtain ⟨k1, k2, k3, k4, k5, k6, k7, k8, k9, k10, k11, k12, ⟨k13, k13'⟩, ⟨k14, k14'⟩, k15⟩ := I5
    have oc10 : okc A (A (10 + s)) := by
      have := okc_sp (i := 2 + s) hP (by omega)
      rwa [show 8 + (2 + s) = 10 + s by omega] at this
    have oc8 : okc A (A (8 + s)) := okc_sp hP (by omega)
    have h175 : ∀ (x2 : Nat) (h6 : vm_H), x2 % 2 = 0 → x2 < 2 * N → MD h6 A ci L N ni → nv h6 L (A (8 + s)) (U / 2) → nv h6 L (A (9 - s)) V → nv h6 L (A (10 + s)) x2 → nv h6 L (A (11 - s)) y → (∃ k : Int, (x2 : Int) * al = U * (268435456 ^ L * 268435456 ^ L) + N * k) → fr h h6 (rS A ci c) → la h6 L c → vm_T (vm_env l O f9) mX6_invert 0 0 175 [(0, .ref (A 0)), (1, .ref a), (2, .ref c), (3, .ref (A (8 + s))), (4, .ref (A (9 - s))), (5, .ref (A (10 + s))), (6, .ref (A (11 - s))), (7, .int (nI t))] [] h6 (fun r h' => ∃ Y : Int, r = some (.int (if Nat.gcd al N = 1 then 1 else 0)) ∧ mv h' L N c Y ∧ (Nat.gcd al N = 1 → X * Y % N = 1) ∧ MD h' A ci L N ni ∧ fr h h' (rS A ci c)) := by
      intro x2 h6 hx2 hx2N M6 w3 w4 w5 w6 ⟨kk, hkk⟩ w15 lc6
      have M6' := M6
      obtain ⟨⟨fs, m0, f0, f1, f2, f3, f4, f5, f6, f7, f8⟩, _⟩ := M6'
      refine vm_go rfl (bX6_invert_175 ci) (oX6_invert_175 hci2) ⟨fs, by rw [hif]; exact m0, 0, 0, _, m_hal hP M6 w5 (by omega) oc10, Nat.le_refl _, Nat.le_refl _, ?_⟩
      rintro r h7 ⟨rfl, x7, M7, F7⟩
      obtain ⟨k', hk'⟩ := iv_half (N := (N : Int)) (by omega) (by omega) (by omega) hkk
      have I7 : IV h A ci L N ni c al (Nat.gcd al N) s (U / 2) V (x2 / 2) y h7 := by
        refine ⟨k1, M7, ?_, ?_, x7, ?_, by omega, k8, by omega, k10, k11, ?_, ⟨k', ?_⟩, ⟨k14, k14'⟩, ?_⟩
        · exact fr_nv F7 w3 (sne _ _ (by omega) (by omega) (by omega) (by omega) (by omega))
        · exact fr_nv F7 w4 (sne _ _ (by omega) (by omega) (by omega) (by omega) (by omega))
        · exact fr_nv F7 w6 (sne _ _ (by omega) (by omega) (by omega) (by omega) (by omega))
        · rw [← k12]; exact iv_gcd_even hU k11
        · rw [show ((x2 / 2 : Nat) : Int) = (x2 : Int) / 2 by omega, show ((U / 2 : Nat) : Int) = (U : Int) / 2 by omega]
          exact hk'
        · exact fr_trans w15 (fr_mono F7 (fun q hq => Or.inr (Or.inr ⟨2 + s, by omega, by rw [show 8 + (2 + s) = 10 + s by omega]; exact hq⟩)))
      have e : U / 2 * V * 2 ^ (t + 1) = U * V * 2 ^ t := by
        obtain ⟨d, hd⟩ : ∃ d, U = 2 * d := ⟨U / 2, by omega⟩
        rw [hd, show 2 * d / 2 = d by omega, Nat.pow_succ]; grind
      refine vm_Th (by rw [← nI_1]; rfl) rfl (ih (t + 1, s, U / 2, V, x2 / 2, y, h7) ⟨by show t + 1 ≤ 56 * L; omega, by show U / 2 * V * 2 ^ (t + 1) ≤ al * N; omega, I7, fr_la F7 lc6 (fun z => ocs (2 + s) (by omega) (by rw [show 8 + (2 + s) = 10 + s by omega]; exact z))⟩ (by show 56 * L - (t + 1) < 56 * L - t; omega))
    have k2' := k2
    obtain ⟨⟨fs, m0, f0, f1, f2, f3, f4, f5, f6, f7, f8⟩, _⟩ := k2'
    refine vm_go rfl (bX6_invert_147 ci) (oX6_invert_147 hci2) ⟨fs, by rw [hif]; exact m0, 0, 0, _, m_hal hP k2 k3 (by omega) oc8, Nat.le_refl _, Nat.le_refl _, ?_⟩
    rintro r h6 ⟨rfl, u6, M6, F6⟩
    have w4 := fr_nv F6 k4 (sne _ _ (by omega) (by omega) (by omega) (by omega) (by omega))
    have w5 := fr_nv F6 k5 (sne _ _ (by omega) (by omega) (by omega) (by omega) (by omega))
    have w6 := fr_nv F6 k6 (sne _ _ (by omega) (by omega) (by omega) (by omega) (by omega))
    have F6' : fr h h6 (rS A ci c) := fr_trans k15 (fr_mono F6 (fun q hq => Or.inr (Or.inr ⟨s, by omega, hq⟩)))
    have lc6 := fr_la F6 lc (ocs s (by omega))
    have w5' := w5
    obtain ⟨fx, hx, vx⟩ := w5'
    have hx0 := vx 0 (by omega)
    refine ⟨L, fx, hx, 0, rfl, by omega, ⟨fun w => ?_, fun w => ?_⟩⟩
    · have w := (lg_cmp_eq _ _).mp w
      rw [hx0] at w
      exact h175 x h6 ((odd_b x).mp w) (by omega) M6 u6 w4 w5 w6 ⟨k13, k13'⟩ F6' lc6
    · have w : ¬ fx 0 &&& 1 = 0 := fun z => w ((lg_cmp_eq _ _).mpr z)
      rw [hx0] at w
      have hxo : ¬ x % 2 = 0 := fun z => w ((odd_b x).mpr z)
      have M6' := M6
      obtain ⟨⟨fs6, m06, f06, f16, f26, f36, f46, f56, f66, f76, f86⟩, n16, _⟩ := M6'
      refine ⟨fs6, _, m06, f16, ⟨fs6, by rw [hif]; exact m06, 0, 0, _, m_put hP M6 w5 n16 (nv_la w5) oc10, Nat.le_refl _, Nat.le_refl _, ?_⟩⟩
      rintro r h7 ⟨rfl, x7, M7, F7⟩
      refine h175 (x + N) h7 (by omega) (by omega) M7 (fr_nv F7 u6 (sne _ _ (by omega) (by omega) (by omega) (by omega) (by omega))) (fr_nv F7 w4 (sne _ _ (by omega) (by omega) (by omega) (by omega) (by omega))) x7 (fr_nv F7 w6 (sne _ _ (by omega) (by omega) (by omega) (by omega) (by omega))) ⟨k13 + al, ?_⟩ (fr_trans F6' (fr_mono F7 (fun q hq => Or.inr (Or.inr ⟨2 + s, by omega, by rw [show 8 + (2 + s) = 10 + s by omega]; exact hq⟩)))) (fr_la F7 lc6 (fun z => ocs (2 + s) (by omega) (by rw [show 8 + (2 + s) = 10 + s by omega]; exact z)))
      rw [Int.natCast_add, Int.add_mul, k13']
      grind
  have h128 : ∀ (s U V x y : Nat) (h5 : vm_H), t < 56 * L → U % 2 = 1 → V ≤ U → U * V * 2 ^ t ≤ al * N → IV h A ci L N ni c al (Nat.gcd al N) s U V x y h5 → la h5 L c → vm_T (vm_env l O f9) mX6_invert 0 0 128 [(0, .ref (A 0)), (1, .ref a), (2, .ref c), (3, .ref (A (8 + s))), (4, .ref (A (9 - s))), (5, .ref (A (10 + s))), (6, .ref (A (11 - s))), (7, .int (nI t))] [] h5 (fun r h' => ∃ Y : Int, r = some (.int (if Nat.gcd al N = 1 then 1 else 0)) ∧ mv h' L N c Y ∧ (Nat.gcd al N = 1 → X * Y % N = 1) ∧ MD h' A ci L N ni ∧ fr h h' (rS A ci c)) := by
    clear k1 k2 k3 k4 k5 k6 k7 k8 k9 k10 k11 k12 k13' k13 k14' k14 k15 hend t2 I5 lc
    clear s U V x y h5
    intro s U V x y h5 ht hU hVU t2 I5 lc
    obtain ⟨k1, k2, k3, k4, k5, k6, k7, k8, k9, k10, k11, k12, ⟨k13, k13'⟩, ⟨k14, k14'⟩, k15⟩ := I5
    have oc10 : okc A (A (10 + s)) := by
      have := okc_sp (i := 2 + s) hP (by omega)
      rwa [show 8 + (2 + s) = 10 + s by omega] at this
    have oc8 : okc A (A (8 + s)) := okc_sp hP (by omega)
    have k2' := k2
    obtain ⟨⟨fs, m0, f0, f1, f2, f3, f4, f5, f6, f7, f8⟩, _⟩ := k2'
    refine vm_go rfl (bX6_invert_128 ci) (oX6_invert_128 hci2) ⟨fs, by rw [hif]; exact m0, 0, 0, _, m_tak hP k2 k3 k4 (nv_la k3) (by omega) hVU oc8, Nat.le_refl _, Nat.le_refl _, ?_⟩
    rintro r h6 ⟨rfl, u6, M6, F6⟩
    have w4 := fr_nv F6 k4 (sne _ _ (by omega) (by omega) (by omega) (by omega) (by omega))
    have w5 := fr_nv F6 k5 (sne _ _ (by omega) (by omega) (by omega) (by omega) (by omega))
    have w6 := fr_nv F6 k6 (sne _ _ (by omega) (by omega) (by omega) (by omega) (by omega))
    have F6' : fr h h6 (rS A ci c) := fr_trans k15 (fr_mono F6 (fun q hq => Or.inr (Or.inr ⟨s, by omega, hq⟩)))
    have lc6 := fr_la F6 lc (ocs s (by omega))
    have M6' := M6
    obtain ⟨⟨fs6, m06, _⟩, _⟩ := M6'
    refine ⟨fs6, by rw [hif]; exact m06, 0, 0, _, m_sub hP M6 w5 w6 (nv_la w5) k9 k10 oc10, Nat.le_refl _, Nat.le_refl _, ?_⟩
    rintro r h7 ⟨rfl, x7, M7, F7⟩
    have lc7 := fr_la F7 lc6 (fun z => ocs (2 + s) (by omega) (by rw [show 8 + (2 + s) = 10 + s by omega]; exact z))
    refine h147 s (U - V) V ((x + N - y) % N) y h7 ht (by omega) ?_ ⟨k1, M7, ?_, ?_, x7, ?_, by omega, k8, Nat.mod_lt _ p1, k10, k11, ?_, ?_, ⟨k14, k14'⟩, ?_⟩ lc7
    · refine Nat.le_trans (Nat.mul_le_mul_right _ (Nat.mul_le_mul_right _ (Nat.sub_le U V))) t2
    · exact fr_nv F7 u6 (sne _ _ (by omega) (by omega) (by omega) (by omega) (by omega))
    · exact fr_nv F7 w4 (sne _ _ (by omega) (by omega) (by omega) (by omega) (by omega))
    · exact fr_nv F7 w6 (sne _ _ (by omega) (by omega) (by omega) (by omega) (by omega))
    · rw [iv_gcd_odd hVU]; exact k12
    · obtain ⟨k, hk⟩ := nmod_e (x + N - y) N
      refine ⟨k13 - k14 + (1 + k) * al, ?_⟩
      rw [hk, Int.ofNat_sub (by omega), Int.natCast_add, Int.ofNat_sub hVU]
      generalize (268435456 : Int) ^ L * 268435456 ^ L = S at *
      grind
    · exact fr_trans F6' (fr_mono F7 (fun q hq => Or.inr (Or.inr ⟨2 + s, by omega, by rw [show 8 + (2 + s) = 10 + s by omega]; exact hq⟩)))
  have k2' := k2
  obtain ⟨⟨fs, m0, f0, f1, f2, f3, f4, f5, f6, f7, f8⟩, _⟩ := k2'
  have e56 : (56 : Int32) * nI L = nI (56 * L) := nI_mul 56 L
  refine vm_go rfl (bX6_invert_66 ci) (oX6_invert_66 hci2) ⟨fs, _, m0, f0, ⟨fun q => ?_, fun q => ?_⟩⟩
  · have q : (56 : Int32) * nI L ≤ nI t := q
    rw [e56, nI_leI (by omega) (by omega)] at q
    refine hend ?_
    have ht : t = 56 * L := by omega
    subst ht
    rcases Nat.eq_zero_or_pos U with z | z
    · exact z
    · exfalso
      have h1 : 1 ≤ U * V := Nat.mul_pos z (by omega)
      have h2 : 1 * 2 ^ (56 * L) ≤ U * V * 2 ^ (56 * L) := Nat.mul_le_mul_right _ h1
      omega
  · have q : ¬ (56 : Int32) * nI L ≤ nI t := q
    rw [e56, nI_leI (by omega) (by omega)] at q
    refine ⟨fs, by rw [hif]; exact m0, 0, 0, _, m_isz hP k2 k3 (by omega), Nat.le_refl _, Nat.le_refl _, ?_⟩
    rintro r h6 ⟨rfl, rfl⟩
    refine ⟨fun z => ?_, fun z => ?_⟩
    · have z : ¬ (if U = 0 then (1 : Int32) else 0) = 0 := z
      refine hend ?_
      by_cases w : U = 0
      · exact w
      · rw [if_neg w] at z; exact absurd rfl z
    · have z : (if U = 0 then (1 : Int32) else 0) = 0 := z
      have hU0 : U ≠ 0 := by
        intro w; rw [if_pos w] at z; exact absurd z (by decide)
      have k3' := k3
      obtain ⟨fu, hu, vu⟩ := k3'
      have hu0 := vu 0 (by omega)
      refine ⟨L, fu, hu, 0, rfl, by omega, ⟨fun w => ?_, fun w => ?_⟩⟩
      · have w := (lg_cmp_eq _ _).mp w
        rw [hu0] at w
        exact h147 s U V x y h6 (by omega) ((odd_b U).mp w) t2 I5 lc
      · have w : ¬ fu 0 &&& 1 = 0 := fun z => w ((lg_cmp_eq _ _).mpr z)
        rw [hu0] at w
        have hUo : U % 2 = 1 := by
          rcases Nat.mod_two_eq_zero_or_one U with q | q
          · exact absurd ((odd_b U).mpr q) w
          · exact q
        refine ⟨fs, by rw [hif]; exact m0, 0, 0, _, m_les hP k2 k3 k4 (by omega) (by omega), Nat.le_refl _, Nat.le_refl _, ?_⟩
        rintro r h7 ⟨rfl, rfl⟩
        by_cases hUV : U < V
        · rw [if_pos hUV]
          refine ⟨fun q => absurd q (by decide), fun _ => ?_⟩
          have := h128 (1 - s) V U y x h7 (by omega) k11 (by omega) (by rw [Nat.mul_comm V]; exact t2) (IV_swap I5 hUo) lc
          rw [show 8 + (1 - s) = 9 - s by omega, show 9 - (1 - s) = 8 + s by omega, show 10 + (1 - s) = 11 - s by omega, show 11 - (1 - s) = 10 + s by omega] at this
          generalize A (8 + s) = a8 at this ⊢
          generalize A (9 - s) = a9 at this ⊢
          generalize A (10 + s) = a10 at this ⊢
          generalize A (11 - s) = a11 at this ⊢
          exact vm_less [0, 1, 2, 3, 4, 5, 6, 7] (inv_lv a c a8 a9 a10 a11 (A 0) (nI t)) this
        · rw [if_neg hUV]
          refine ⟨fun _ => ?_, fun q => absurd rfl q⟩
          exact h128 s U V x y h7 (by omega) hUo (by omega) t2 I5 lc
end
