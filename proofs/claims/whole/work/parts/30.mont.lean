/-! residues in Montgomery's form: mt X is X R modulo N -/
def mt (N L : Nat) (X : Int) : Nat := ((X * 268435456 ^ L) % (N : Int)).toNat
theorem mt_e {N : Nat} (L : Nat) (X : Int) (hN : 0 < N) : ∃ k : Int, ((mt N L X : Nat) : Int) = X * 268435456 ^ L + N * k := by
  refine ⟨-((X * 268435456 ^ L) / N), ?_⟩
  unfold mt
  have h1 := Int.emod_nonneg (X * 268435456 ^ L) (show (N : Int) ≠ 0 by omega)
  rw [Int.toNat_of_nonneg h1]
  have := Int.mul_ediv_add_emod (X * 268435456 ^ L) N
  grind
theorem mt_i {v N L : Nat} {Z k : Int} (hv : v < N) (h : (v : Int) = Z * 268435456 ^ L + N * k) : v = mt N L Z := by
  unfold mt
  have e : (Z * 268435456 ^ L) % (N : Int) = v := by
    have : Z * 268435456 ^ L = (v : Int) + N * (-k) := by rw [h]; grind
    rw [this, Int.add_mul_emod_self_left]
    exact Int.emod_eq_of_lt (Int.natCast_nonneg _) (by omega)
  rw [e]; rfl
theorem mt_lt {N L : Nat} {X : Int} (hN : 0 < N) : mt N L X < N := by
  unfold mt
  have h1 := Int.emod_nonneg (X * 268435456 ^ L) (show (N : Int) ≠ 0 by omega)
  have h2 := Int.emod_lt_of_pos (X * 268435456 ^ L) (show (0 : Int) < N by omega)
  omega
theorem nmod_e (a N : Nat) : ∃ k : Int, ((a % N : Nat) : Int) = a + N * k := by
  refine ⟨-((a / N : Nat) : Int), ?_⟩
  have := Nat.div_add_mod a N
  have h2 : ((N * (a / N) + a % N : Nat) : Int) = (a : Int) := by rw [this]
  rw [Int.natCast_add, Int.natCast_mul] at h2
  grind
theorem ri_e {L ri N : Nat} (hri : 268435456 ^ L * ri % N = 1 % N) : ∃ k : Int, (268435456 : Int) ^ L * ri = 1 + N * k := by
  obtain ⟨k1, h1⟩ := nmod_e (268435456 ^ L * ri) N
  obtain ⟨k2, h2⟩ := nmod_e 1 N
  rw [hri, h2, Int.natCast_mul, Int.natCast_pow] at h1
  refine ⟨k2 - k1, ?_⟩
  have h3 : ((1 : Nat) : Int) + N * k2 = (268435456 : Int) ^ L * ri + N * k1 := h1
  grind
theorem mt_mul {N L ri : Nat} {X Y : Int} (hN : 0 < N) (hri : 268435456 ^ L * ri % N = 1 % N) : mt N L X * mt N L Y * ri % N = mt N L (X * Y) := by
  obtain ⟨k1, h1⟩ := mt_e L X hN
  obtain ⟨k2, h2⟩ := mt_e L Y hN
  obtain ⟨k3, h3⟩ := nmod_e (mt N L X * mt N L Y * ri) N
  obtain ⟨k4, h4⟩ := ri_e hri
  refine mt_i (k := X * Y * 268435456 ^ L * k4 + k1 * (Y * 268435456 ^ L + N * k2) * ri + X * 268435456 ^ L * k2 * ri + k3) (Nat.mod_lt _ hN) ?_
  rw [h3, Int.natCast_mul, Int.natCast_mul, h1, h2]
  generalize (268435456 : Int) ^ L = R at *
  grind
theorem mt_add {N L : Nat} {X Y : Int} (hN : 0 < N) : (mt N L X + mt N L Y) % N = mt N L (X + Y) := by
  obtain ⟨k1, h1⟩ := mt_e L X hN
  obtain ⟨k2, h2⟩ := mt_e L Y hN
  obtain ⟨k3, h3⟩ := nmod_e (mt N L X + mt N L Y) N
  refine mt_i (k := k1 + k2 + k3) (Nat.mod_lt _ hN) ?_
  rw [h3, Int.natCast_add, h1, h2]
  grind
theorem mt_sub {N L : Nat} {X Y : Int} (hN : 0 < N) : (mt N L X + N - mt N L Y) % N = mt N L (X - Y) := by
  obtain ⟨k1, h1⟩ := mt_e L X hN
  obtain ⟨k2, h2⟩ := mt_e L Y hN
  obtain ⟨k3, h3⟩ := nmod_e (mt N L X + N - mt N L Y) N
  have := mt_lt (L := L) (X := Y) hN
  refine mt_i (k := k1 - k2 + k3 + 1) (Nat.mod_lt _ hN) ?_
  rw [h3, Int.ofNat_sub (by omega), Int.natCast_add, h1, h2]
  grind
theorem mt_one {N L : Nat} (hN : 0 < N) : 268435456 ^ L % N = mt N L 1 := by
  obtain ⟨k3, h3⟩ := nmod_e (268435456 ^ L) N
  refine mt_i (k := k3) (Nat.mod_lt _ hN) ?_
  rw [h3, Int.natCast_pow]
  grind
theorem mt_ent {N L x : Nat} (hN : 0 < N) : x * 268435456 ^ L % N = mt N L x := by
  obtain ⟨k3, h3⟩ := nmod_e (x * 268435456 ^ L) N
  refine mt_i (k := k3) (Nat.mod_lt _ hN) ?_
  rw [h3, Int.natCast_mul, Int.natCast_pow]
  grind
theorem mt_lev {N L ri : Nat} {X : Int} (hN : 0 < N) (hri : 268435456 ^ L * ri % N = 1 % N) : mt N L X * ri % N = (X % N).toNat := by
  obtain ⟨k1, h1⟩ := mt_e L X hN
  obtain ⟨k3, h3⟩ := nmod_e (mt N L X * ri) N
  obtain ⟨k4, h4⟩ := ri_e hri
  have e : ((mt N L X * ri % N : Nat) : Int) = X % N := by
    have e2 : X = ((mt N L X * ri % N : Nat) : Int) + N * (-(X * k4 + k1 * ri + k3)) := by
      rw [h3, Int.natCast_mul, h1]
      generalize (268435456 : Int) ^ L = R at *
      grind
    have e3 : ((mt N L X * ri % N : Nat) : Int) < N := by
      have := Nat.mod_lt (mt N L X * ri) hN
      omega
    generalize mt N L X * ri % N = v at *
    rw [e2, Int.add_mul_emod_self_left, Int.emod_eq_of_lt (Int.natCast_nonneg _) e3]
  rw [← e]; rfl
theorem mt_0 (N L : Nat) : mt N L 0 = 0 := by unfold mt; rw [Int.zero_mul, Int.zero_emod]; rfl
theorem mt_cg {N L : Nat} {X Y : Int} (h : X % N = Y % N) : mt N L X = mt N L Y := by
  unfold mt
  rw [Int.mul_emod, h, ← Int.mul_emod]
theorem mt_eq {N L ri : Nat} {X Y : Int} (hN : 0 < N) (hri : 268435456 ^ L * ri % N = 1 % N) : mt N L X = mt N L Y ↔ X % N = Y % N := by
  constructor
  · intro h
    have h1 := mt_lev (X := X) hN hri
    have h2 := mt_lev (X := Y) hN hri
    rw [h, h2] at h1
    have p1 := Int.emod_nonneg X (show (N : Int) ≠ 0 by omega)
    have p2 := Int.emod_nonneg Y (show (N : Int) ≠ 0 by omega)
    omega
  · exact mt_cg
theorem mt_z {N L ri : Nat} {X : Int} (hN : 0 < N) (hri : 268435456 ^ L * ri % N = 1 % N) : mt N L X = 0 ↔ X % N = 0 := by
  have := mt_eq (X := X) (Y := 0) hN hri
  rw [mt_0, Int.zero_emod] at this
  exact this
/-- array a holds the residue X -/
def mv (h : vm_H) (L N a : Nat) (X : Int) : Prop := nv h L a (mt N L X)
theorem mv_cg {h : vm_H} {L N a : Nat} {X Y : Int} (k : mv h L N a X) (e : X % N = Y % N) : mv h L N a Y := by
  unfold mv at *; rwa [← mt_cg e]
theorem MP_N {A : Nat → Nat} {ci L N ni ri : Nat} (h : MP A ci L N ni ri) : 0 < N ∧ N < 268435456 ^ L ∧ 268435456 ^ L * ri % N = 1 % N := by
  obtain ⟨hci, L1, L74, N1, N2, hni, hri, hin, ho⟩ := h
  exact ⟨by omega, by omega, hri⟩
section
variable {l : Launch} {O : Nat → vm_Ob} {f9 : Value}
theorem v_mul {h : vm_H} {A : Nat → Nat} {ci L N ni ri a b c : Nat} {X Y : Int} (hP : MP A ci L N ni ri) (hM : MD h A ci L N ni) (ha : mv h L N a X) (hb : mv h L N b Y) (hc : la h L c) (oa : a ≠ A 6) (ob : b ≠ A 6) (oc : okc A c) :
    vm_Met (vm_env l O f9) (vm_mt (if ci = 3 then 29 else 57)) 0 0 [.ref (A 0), .ref a, .ref b, .ref c] h (fun r h' => r = none ∧ mv h' L N c (X * Y) ∧ MD h' A ci L N ni ∧ fr h h' (fun q => q = c ∨ sc A ci q)) := by
  obtain ⟨p1, p2, p3⟩ := MP_N hP
  refine vm_metP (m_mul hP hM ha hb hc (Nat.lt_trans (mt_lt p1) p2) (mt_lt p1) oa ob oc) ?_
  rintro r h' ⟨rfl, k1, k2⟩
  rw [mt_mul p1 p3] at k1
  exact ⟨rfl, k1, k2⟩
theorem v_sqr {h : vm_H} {A : Nat → Nat} {ci L N ni ri a c : Nat} {X : Int} (hP : MP A ci L N ni ri) (hM : MD h A ci L N ni) (ha : mv h L N a X) (hc : la h L c) (oa : a ≠ A 6) (oc : okc A c) :
    vm_Met (vm_env l O f9) (vm_mt (if ci = 3 then 30 else 58)) 0 0 [.ref (A 0), .ref a, .ref c] h (fun r h' => r = none ∧ mv h' L N c (X * X) ∧ MD h' A ci L N ni ∧ fr h h' (fun q => q = c ∨ sc A ci q)) := by
  obtain ⟨p1, p2, p3⟩ := MP_N hP
  refine vm_metP (m_sqr hP hM ha hc (mt_lt p1) oa oc) ?_
  rintro r h' ⟨rfl, k1, k2⟩
  rw [mt_mul p1 p3] at k1
  exact ⟨rfl, k1, k2⟩
theorem v_add {h : vm_H} {A : Nat → Nat} {ci L N ni ri a b c : Nat} {X Y : Int} (hP : MP A ci L N ni ri) (hM : MD h A ci L N ni) (ha : mv h L N a X) (hb : mv h L N b Y) (hc : la h L c) (oc : okc A c) :
    vm_Met (vm_env l O f9) mX6_add 0 0 [.ref (A 0), .ref a, .ref b, .ref c] h (fun r h' => r = none ∧ mv h' L N c (X + Y) ∧ MD h' A ci L N ni ∧ fr h h' (fun q => q = c)) := by
  obtain ⟨p1, p2, p3⟩ := MP_N hP
  refine vm_metP (m_add hP hM ha hb hc (mt_lt p1) (mt_lt p1) oc) ?_
  rintro r h' ⟨rfl, k1, k2⟩
  rw [mt_add p1] at k1
  exact ⟨rfl, k1, k2⟩
theorem v_sub {h : vm_H} {A : Nat → Nat} {ci L N ni ri a b c : Nat} {X Y : Int} (hP : MP A ci L N ni ri) (hM : MD h A ci L N ni) (ha : mv h L N a X) (hb : mv h L N b Y) (hc : la h L c) (oc : okc A c) :
    vm_Met (vm_env l O f9) mX6_sub 0 0 [.ref (A 0), .ref a, .ref b, .ref c] h (fun r h' => r = none ∧ mv h' L N c (X - Y) ∧ MD h' A ci L N ni ∧ fr h h' (fun q => q = c)) := by
  obtain ⟨p1, p2, p3⟩ := MP_N hP
  refine vm_metP (m_sub hP hM ha hb hc (mt_lt p1) (mt_lt p1) oc) ?_
  rintro r h' ⟨rfl, k1, k2⟩
  rw [mt_sub p1] at k1
  exact ⟨rfl, k1, k2⟩
theorem v_copy {h : vm_H} {A : Nat → Nat} {ci L N ni ri a c : Nat} {X : Int} (hP : MP A ci L N ni ri) (hM : MD h A ci L N ni) (ha : mv h L N a X) (hc : la h L c) (oc : okc A c) :
    vm_Met (vm_env l O f9) mX6_copy 0 0 [.ref (A 0), .ref a, .ref c] h (fun r h' => r = none ∧ mv h' L N c X ∧ MD h' A ci L N ni ∧ fr h h' (fun q => q = c)) := m_copy hP hM ha hc oc
theorem v_isz {h : vm_H} {A : Nat → Nat} {ci L N ni ri a : Nat} {X : Int} (hP : MP A ci L N ni ri) (hM : MD h A ci L N ni) (ha : mv h L N a X) :
    vm_Met (vm_env l O f9) mX6_isZero 0 0 [.ref (A 0), .ref a] h (fun r h' => r = some (.int (if X % N = 0 then 1 else 0)) ∧ h' = h) := by
  obtain ⟨p1, p2, p3⟩ := MP_N hP
  refine vm_metP (m_isz hP hM ha (Nat.lt_trans (mt_lt p1) p2)) ?_
  rintro r h' ⟨rfl, rfl⟩
  refine ⟨?_, rfl⟩
  by_cases q : X % N = 0
  · rw [if_pos q, if_pos ((mt_z p1 p3).mpr q)]
  · rw [if_neg q, if_neg (fun z => q ((mt_z p1 p3).mp z))]
theorem v_same {h : vm_H} {A : Nat → Nat} {ci L N ni ri a b : Nat} {X Y : Int} (hP : MP A ci L N ni ri) (hM : MD h A ci L N ni) (ha : mv h L N a X) (hb : mv h L N b Y) :
    vm_Met (vm_env l O f9) mX6_same 0 0 [.ref (A 0), .ref a, .ref b] h (fun r h' => r = some (.int (if X % N = Y % N then 1 else 0)) ∧ h' = h) := by
  obtain ⟨p1, p2, p3⟩ := MP_N hP
  refine vm_metP (m_same hP hM ha hb (Nat.lt_trans (mt_lt p1) p2) (Nat.lt_trans (mt_lt p1) p2)) ?_
  rintro r h' ⟨rfl, rfl⟩
  refine ⟨?_, rfl⟩
  by_cases q : X % N = Y % N
  · rw [if_pos q, if_pos ((mt_eq p1 p3).mpr q)]
  · rw [if_neg q, if_neg (fun z => q ((mt_eq p1 p3).mp z))]
theorem v_ent {h : vm_H} {A : Nat → Nat} {ci L N ni ri a c x : Nat} (hP : MP A ci L N ni ri) (hM : MD h A ci L N ni) (ha : nv h L a x) (hc : la h L c) (hx : x < 268435456 ^ L) (oa : a ≠ A 6) (oc : okc A c) :
    vm_Met (vm_env l O f9) mX6_enter 0 0 [.ref (A 0), .ref a, .ref c] h (fun r h' => r = none ∧ mv h' L N c x ∧ MD h' A ci L N ni ∧ fr h h' (fun q => q = c ∨ sc A ci q)) := by
  obtain ⟨p1, p2, p3⟩ := MP_N hP
  refine vm_metP (m_ent hP hM ha hc hx oa oc) ?_
  rintro r h' ⟨rfl, k1, k2⟩
  rw [mt_ent p1] at k1
  exact ⟨rfl, k1, k2⟩
theorem v_lev {h : vm_H} {A : Nat → Nat} {ci L N ni ri a c : Nat} {X : Int} (hP : MP A ci L N ni ri) (hM : MD h A ci L N ni) (ha : mv h L N a X) (hc : la h L c) (oa : a ≠ A 6) (oc : okc A c) :
    vm_Met (vm_env l O f9) mX6_leave 0 0 [.ref (A 0), .ref a, .ref c] h (fun r h' => r = none ∧ nv h' L c (X % N).toNat ∧ MD h' A ci L N ni ∧ fr h h' (fun q => q = c ∨ sc A ci q)) := by
  obtain ⟨p1, p2, p3⟩ := MP_N hP
  refine vm_metP (m_lev hP hM ha hc (Nat.lt_trans (mt_lt p1) p2) oa oc) ?_
  rintro r h' ⟨rfl, k1, k2⟩
  rw [mt_lev p1 p3] at k1
  exact ⟨rfl, k1, k2⟩
theorem MD_one {h : vm_H} {A : Nat → Nat} {ci L N ni ri : Nat} (hP : MP A ci L N ni ri) (hM : MD h A ci L N ni) : mv h L N (A 2) 1 := by
  obtain ⟨p1, p2, p3⟩ := MP_N hP
  have := hM.2.2.1
  rw [mt_one p1] at this
  exact this
end
