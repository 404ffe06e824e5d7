/-! the constructor of Modulus -/
theorem nw_n {h : vm_H} {o : vm_Ob} {q : Nat} (e : q ≠ h.1) : (vm_nw h o).2 q = h.2 q := if_neg e
theorem nw_e {h : vm_H} {o : vm_Ob} : (vm_nw h o).2 h.1 = o := if_pos rfl
def nx (n0 : Int) : Nat → Int
  | 0 => 1
  | k + 1 => nx n0 k * (2 - n0 * nx n0 k)
theorem nx_e {n0 : Int} (h : n0 % 2 = 1) : ∀ k, ∃ t, n0 * nx n0 k = 1 + 2 ^ (2 ^ k) * t
  | 0 => ⟨n0 / 2, by unfold nx; rw [Nat.pow_zero, Int.mul_one]; omega⟩
  | k + 1 => by
    obtain ⟨t, ht⟩ := nx_e h k
    refine ⟨-(t * t), ?_⟩
    have e : (2 : Int) ^ 2 ^ (k + 1) = 2 ^ 2 ^ k * 2 ^ 2 ^ k := by rw [Nat.pow_succ, Nat.mul_two, Int.pow_add]
    unfold nx
    rw [e]
    generalize (2 : Int) ^ 2 ^ k = s at *
    generalize nx n0 k = x at *
    grind
theorem ri_ex {N : Nat} (L : Nat) (hN : N % 2 = 1) : ∃ ri, 268435456 ^ L * ri % N = 1 % N := by
  refine ⟨((N + 1) / 2) ^ (28 * L), ?_⟩
  rw [p28, ← Nat.mul_pow, show 2 * ((N + 1) / 2) = N + 1 by omega, Nat.pow_mod, Nat.add_mod_left, ← Nat.pow_mod, Nat.one_pow]
theorem pw_mod {N : Nat} (i : Nat) : (2 ^ i % N + 2 ^ i % N) % N = 2 ^ (i + 1) % N := by
  rw [← Nat.add_mod, ← Nat.mul_two, Nat.pow_succ]
/-- a new cell, and a field of m set -/
def NP (h h' : vm_H) (m ci : Nat) (fs : List Value) (o : vm_Ob) : Prop := h'.1 = h.1 + 1 ∧ h'.2 m = .inr (ci, fs) ∧ h'.2 h.1 = o ∧ ∀ q, q ≠ m → q ≠ h.1 → h'.2 q = h.2 q
theorem NP_i {h : vm_H} {m ci : Nat} {fs : List Value} {o : vm_Ob} (hm : m < h.1) : NP h (vm_up (vm_nw h o) m (.inr (ci, fs))) m ci fs o :=
  ⟨rfl, vm_upe, (vm_upn (by omega)).trans nw_e, fun q h1 h2 => (vm_upn h1).trans (nw_n h2)⟩
section
variable {E : vm_E} {y : vm_M} {Q : Option Value → vm_H → Prop} {r : List vm_J} {kc ks pc : Nat} {lv : vm_L} {st : List Value} {h : vm_H} {ci k m N idx : Nat} {fs : List Value} {n : Int32}
theorem np_L (en : n = Int32.ofNat N) (hN : N ≤ 65536) (hk : 1 ≤ kc) (hs : N ≤ ks) (hh : h.1 + 1 < 1099511627776) (hm : h.2 m = .inr (ci, fs)) (hm1 : m < h.1) (hf : k < fs.length) (K : ∀ h', NP h h' m ci (fs.set k (.ref h.1)) (.inl (.long, N, .inr (.inl (fun _ => 0)))) → vm_sx E y Q r (kc - 1) (ks - N) (pc + 2 + 3) lv st h') :
    vm_sx E y Q ((2, .newarray .long, 0, 0, 0, .null) :: (3, .putfield idx, ci, k, 4, .null) :: r) kc ks pc lv (.int n :: .ref m :: st) h := by
  have hmo : m < 1099511627776 := by omega
  have hmn : m ≠ h.1 := by omega
  exact ⟨N, en, hN, hk, hs, hh, fs, (nw_n hmn).trans hm, hmo, hf, trivial, K _ (NP_i hm1)⟩
theorem np_B (en : n = Int32.ofNat N) (hN : N ≤ 65536) (hk : 1 ≤ kc) (hs : N ≤ ks) (hh : h.1 + 1 < 1099511627776) (hm : h.2 m = .inr (ci, fs)) (hm1 : m < h.1) (hf : k < fs.length) (K : ∀ h', NP h h' m ci (fs.set k (.ref h.1)) (.inl (.byte, N, .inl (fun _ => 0))) → vm_sx E y Q r (kc - 1) (ks - N) (pc + 2 + 3) lv st h') :
    vm_sx E y Q ((2, .newarray .byte, 0, 0, 0, .null) :: (3, .putfield idx, ci, k, 4, .null) :: r) kc ks pc lv (.int n :: .ref m :: st) h := by
  have hmo : m < 1099511627776 := by omega
  have hmn : m ≠ h.1 := by omega
  exact ⟨N, en, hN, hk, hs, hh, fs, (nw_n hmn).trans hm, hmo, hf, trivial, K _ (NP_i hm1)⟩
theorem np_I (en : n = Int32.ofNat N) (hN : N ≤ 65536) (hk : 1 ≤ kc) (hs : N ≤ ks) (hh : h.1 + 1 < 1099511627776) (hm : h.2 m = .inr (ci, fs)) (hm1 : m < h.1) (hf : k < fs.length) (K : ∀ h', NP h h' m ci (fs.set k (.ref h.1)) (.inl (.int, N, .inl (fun _ => 0))) → vm_sx E y Q r (kc - 1) (ks - N) (pc + 2 + 3) lv st h') :
    vm_sx E y Q ((2, .newarray .int, 0, 0, 0, .null) :: (3, .putfield idx, ci, k, 4, .null) :: r) kc ks pc lv (.int n :: .ref m :: st) h := by
  have hmo : m < 1099511627776 := by omega
  have hmn : m ≠ h.1 := by omega
  exact ⟨N, en, hN, hk, hs, hh, fs, (nw_n hmn).trans hm, hmo, hf, trivial, K _ (NP_i hm1)⟩
theorem np_Z (en : n = Int32.ofNat N) (hN : N ≤ 65536) (hk : 1 ≤ kc) (hs : N ≤ ks) (hh : h.1 + 1 < 1099511627776) (hm : h.2 m = .inr (ci, fs)) (hm1 : m < h.1) (hf : k < fs.length) (K : ∀ h', NP h h' m ci (fs.set k (.ref h.1)) (.inl (.boolean, N, .inl (fun _ => 0))) → vm_sx E y Q r (kc - 1) (ks - N) (pc + 2 + 3) lv st h') :
    vm_sx E y Q ((2, .newarray .boolean, 0, 0, 0, .null) :: (3, .putfield idx, ci, k, 4, .null) :: r) kc ks pc lv (.int n :: .ref m :: st) h := by
  have hmo : m < 1099511627776 := by omega
  have hmn : m ≠ h.1 := by omega
  exact ⟨N, en, hN, hk, hs, hh, fs, (nw_n hmn).trans hm, hmo, hf, trivial, K _ (NP_i hm1)⟩
/-- a field of m set -/
theorem np_p {w : Value} {tc : Nat} (hm : h.2 m = .inr (ci, fs)) (hm1 : m < 1099511627776) (hf : k < fs.length) (ht : vx_fit tc w) (K : ∀ h', h'.1 = h.1 → h'.2 m = .inr (ci, fs.set k w) → (∀ q, q ≠ m → h'.2 q = h.2 q) → vm_sx E y Q r kc ks (pc + 3) lv st h') :
    vm_sx E y Q ((3, .putfield idx, ci, k, tc, .null) :: r) kc ks pc lv (w :: .ref m :: st) h :=
  ⟨fs, hm, hm1, hf, ht, K _ rfl vm_upe (fun _ e => vm_upn e)⟩
end
section
variable {l : Launch} {O : Nat → vm_Ob} {f9 : Value}
theorem mi_a {Q : Option Value → vm_H → Prop} {h : vm_H} {m ci at9 size a : Nat} {v0 v1 v2 v3 v4 v5 v6 v7 : Value} {tl : List Value} (hci : ci = 6 ∨ ci = 3) (hm : h.2 m = .inr (ci, v0 :: v1 :: v2 :: v3 :: v4 :: v5 :: v6 :: v7 :: tl)) (hm1 : m < h.1) (hs4 : 4 ≤ size) (hs : size ≤ 256) (hh : h.1 + 30 < 1099511627776) {L : Nat} (hL : L = 8 * size / 28 + 1)
    (K : ∀ h7 : vm_H, h7.1 = h.1 + 22 → h7.2 m = .inr (ci, .int (nI L) :: .ref h.1 :: .ref (h.1 + 1) :: .ref (h.1 + 2) :: .ref (h.1 + 3) :: v5 :: .ref (h.1 + 4) :: .ref (h.1 + 5) :: tl) → (∀ i, i < 5 → h7.2 (h.1 + i) = .inl (.long, L, .inr (.inl (fun _ => 0)))) → h7.2 (h.1 + 5) = .inl (.array .long, 16, .inr (.inr (.inr (.inr (fun j => if j < 16 then some (h.1 + 5 + 1 + j) else none))))) → (∀ j, j < 16 → la h7 L (h.1 + 5 + 1 + j)) → (∀ q, q < h.1 ∨ 1099511627776 ≤ q → q ≠ m → h7.2 q = h.2 q) →
      vm_sx (vm_env l O f9) mX6_init Q [(1, .aload_n 0, 0, 0, 0, .null), (3, .getfield 23, ci, 4, 0, .null), (1, .iconst 0, 0, 0, 0, .int 0), (1, .lconst 1, 0, 0, 0, .long 1), (1, .lastore, 0, 0, 0, .null), (1, .aload_n 1, 0, 0, 0, .null), (1, .iload_n 2, 0, 0, 0, .null), (1, .iload_n 3, 0, 0, 0, .null), (1, .aload_n 0, 0, 0, 0, .null), (3, .getfield 13, ci, 1, 0, .null), (3, .invokestatic 34, 42, 4, 0, .null), (1, .lconst 1, 0, 0, 0, .long 1), (2, .lstore 4, 0, 0, 0, .null), (1, .iconst 0, 0, 0, 0, .int 0), (2, .istore 6, 0, 0, 0, .null)] (22 - 1 - 1 - 1 - 1 - 1 - (1 + 16)) (21 * L + 16 - L - L - L - L - L - (16 + 16 * L)) (14 + 64 + 3) (lv_args 0 [.ref m, .ref a, .int (nI at9), .int (nI size)]) [] h7) :
    vm_T (vm_env l O f9) mX6_init 22 (21 * L + 16) 0 (lv_args 0 [.ref m, .ref a, .int (nI at9), .int (nI size)]) [] h Q := by
  have eL : (8 : Int32) * nI size / 28 + 1 = nI L := by
    rw [show (8 : Int32) * nI size = nI (8 * size) from nI_mul 8 size, show nI (8 * size) / 28 = nI (8 * size / 28) from nI_div (by omega) (by decide), hL]
    exact nI_add _ 1
  have hL2 : 1 < L := by omega
  have hL74 : L ≤ 74 := by omega
  have hmo : m < 1099511627776 := by omega
  have lt8 : ∀ (k : Nat) (x0 x1 x2 x3 x4 x5 x6 x7 : Value), k < 8 → k < (x0 :: x1 :: x2 :: x3 :: x4 :: x5 :: x6 :: x7 :: tl).length := by
    intro k x0 x1 x2 x3 x4 x5 x6 x7 hk
    show k < tl.length + 8
    omega
  refine vm_go rfl (bX6_init_0 ci) (oX6_init_0 hci) ⟨by decide, ?_⟩
  show vm_sx _ _ _ _ _ _ _ _ (_ :: .ref m :: []) h
  refine np_p (idx := 0) hm hmo (lt8 0 _ _ _ _ _ _ _ _ (by decide)) trivial ?_
  intro h0 c0 m0 u0
  have m0 : h0.2 m = .inr (ci, .int ((8 : Int32) * nI size / 28 + 1) :: v1 :: v2 :: v3 :: v4 :: v5 :: v6 :: v7 :: tl) := m0
  rw [eL] at m0
  have m0 : h0.2 m = .inr (ci, .int (nI L) :: v1 :: v2 :: v3 :: v4 :: v5 :: v6 :: v7 :: tl) := m0
  refine ⟨_, _, m0, rfl, ?_⟩
  refine np_L (idx := 0) rfl (by omega) (by omega) (by omega) (by omega) m0 (by omega) (lt8 1 _ _ _ _ _ _ _ _ (by decide)) ?_
  rintro h1 ⟨c1, m1, a1, u1⟩
  have m1 : h1.2 m = .inr (ci, .int (nI L) :: .ref h0.1 :: v2 :: v3 :: v4 :: v5 :: v6 :: v7 :: tl) := m1
  refine ⟨_, _, m1, rfl, ?_⟩
  refine np_L (idx := 0) rfl (by omega) (by omega) (by omega) (by omega) m1 (by omega) (lt8 2 _ _ _ _ _ _ _ _ (by decide)) ?_
  rintro h2 ⟨c2, m2, a2, u2⟩
  have m2 : h2.2 m = .inr (ci, .int (nI L) :: .ref h0.1 :: .ref h1.1 :: v3 :: v4 :: v5 :: v6 :: v7 :: tl) := m2
  refine ⟨_, _, m2, rfl, ?_⟩
  refine np_L (idx := 0) rfl (by omega) (by omega) (by omega) (by omega) m2 (by omega) (lt8 3 _ _ _ _ _ _ _ _ (by decide)) ?_
  rintro h3 ⟨c3, m3, a3, u3⟩
  have m3 : h3.2 m = .inr (ci, .int (nI L) :: .ref h0.1 :: .ref h1.1 :: .ref h2.1 :: v4 :: v5 :: v6 :: v7 :: tl) := m3
  refine ⟨_, _, m3, rfl, ?_⟩
  refine np_L (idx := 0) rfl (by omega) (by omega) (by omega) (by omega) m3 (by omega) (lt8 4 _ _ _ _ _ _ _ _ (by decide)) ?_
  rintro h4 ⟨c4, m4, a4, u4⟩
  have m4 : h4.2 m = .inr (ci, .int (nI L) :: .ref h0.1 :: .ref h1.1 :: .ref h2.1 :: .ref h3.1 :: v5 :: v6 :: v7 :: tl) := m4
  refine ⟨_, _, m4, rfl, ?_⟩
  refine np_L (idx := 0) rfl (by omega) (by omega) (by omega) (by omega) m4 (by omega) (lt8 6 _ _ _ _ _ _ _ _ (by decide)) ?_
  rintro h5 ⟨c5, m5, a5, u5⟩
  have m5 : h5.2 m = .inr (ci, .int (nI L) :: .ref h0.1 :: .ref h1.1 :: .ref h2.1 :: .ref h3.1 :: v5 :: .ref h4.1 :: v7 :: tl) := m5
  refine ⟨_, _, m5, rfl, ⟨16, L, rfl, rfl, by decide, by omega, by omega, by omega, by omega, ?_⟩⟩
  generalize hq : vm_nm h5 16 _ _ = h6
  have g6 : h6.2 m = .inr (ci, .int (nI L) :: .ref h0.1 :: .ref h1.1 :: .ref h2.1 :: .ref h3.1 :: v5 :: .ref h4.1 :: v7 :: tl) := by
    rw [← hq]
    show (if m = h5.1 then _ else if h5.1 < m ∧ m ≤ h5.1 + 16 then _ else h5.2 m) = _
    rw [if_neg (by omega), if_neg (by omega)]; exact m5
  have c6 : h6.1 = h5.1 + 17 := by rw [← hq]; show h5.1 + 1 + 16 = _; omega
  have a6 : h6.2 h5.1 = .inl (.array .long, 16, .inr (.inr (.inr (.inr (fun j => if j < 16 then some (h5.1 + 1 + j) else none))))) := by
    rw [← hq]; exact if_pos rfl
  have r6 : ∀ j, j < 16 → la h6 L (h5.1 + 1 + j) := by
    intro j hj
    refine ⟨fun _ => 0, ?_⟩
    rw [← hq]
    show (if h5.1 + 1 + j = h5.1 then _ else if h5.1 < h5.1 + 1 + j ∧ h5.1 + 1 + j ≤ h5.1 + 16 then _ else _) = _
    rw [if_neg (by omega), if_pos (by omega)]
  have u6 : ∀ q, q < h5.1 ∨ h5.1 + 17 ≤ q → h6.2 q = h5.2 q := by
    intro q hq2
    rw [← hq]
    show (if q = h5.1 then _ else if h5.1 < q ∧ q ≤ h5.1 + 16 then _ else h5.2 q) = _
    rw [if_neg (by omega), if_neg (by omega)]
  clear hq
  refine np_p (idx := 0) g6 hmo (lt8 7 _ _ _ _ _ _ _ _ (by decide)) trivial ?_
  intro h7 c7 m7 u7
  have m7 : h7.2 m = .inr (ci, .int (nI L) :: .ref h0.1 :: .ref h1.1 :: .ref h2.1 :: .ref h3.1 :: v5 :: .ref h4.1 :: .ref h5.1 :: tl) := m7
  have k1 : h7.2 h0.1 = .inl (.long, L, .inr (.inl (fun _ => 0))) := by
    rw [u7 _ (by omega), u6 _ (by omega), u5 _ (by omega) (by omega), u4 _ (by omega) (by omega), u3 _ (by omega) (by omega), u2 _ (by omega) (by omega), a1]
  have k2 : h7.2 h1.1 = .inl (.long, L, .inr (.inl (fun _ => 0))) := by
    rw [u7 _ (by omega), u6 _ (by omega), u5 _ (by omega) (by omega), u4 _ (by omega) (by omega), u3 _ (by omega) (by omega), a2]
  have k3 : h7.2 h2.1 = .inl (.long, L, .inr (.inl (fun _ => 0))) := by
    rw [u7 _ (by omega), u6 _ (by omega), u5 _ (by omega) (by omega), u4 _ (by omega) (by omega), a3]
  have k4 : h7.2 h3.1 = .inl (.long, L, .inr (.inl (fun _ => 0))) := by
    rw [u7 _ (by omega), u6 _ (by omega), u5 _ (by omega) (by omega), a4]
  have k5 : h7.2 h4.1 = .inl (.long, L, .inr (.inl (fun _ => 0))) := by
    rw [u7 _ (by omega), u6 _ (by omega), a5]
  have k6 : h7.2 h5.1 = .inl (.array .long, 16, .inr (.inr (.inr (.inr (fun j => if j < 16 then some (h5.1 + 1 + j) else none))))) := by
    rw [u7 _ (by omega), a6]
  have k7 : ∀ j, j < 16 → la h7 L (h5.1 + 1 + j) := by
    intro j hj
    obtain ⟨f, hf⟩ := r6 j hj
    exact ⟨f, (u7 _ (by omega)).trans hf⟩
  have k8 : ∀ q, q < h.1 ∨ 1099511627776 ≤ q → q ≠ m → h7.2 q = h.2 q := by
    intro q hq hqm
    rw [u7 _ hqm, u6 _ (by omega), u5 _ hqm (by omega), u4 _ hqm (by omega), u3 _ hqm (by omega), u2 _ hqm (by omega), u1 _ hqm (by omega), u0 _ hqm]
  have e1 : h0.1 = h.1 := c0
  have e2 : h1.1 = h.1 + 1 := by omega
  have e3 : h2.1 = h.1 + 2 := by omega
  have e4 : h3.1 = h.1 + 3 := by omega
  have e5 : h4.1 = h.1 + 4 := by omega
  have e6 : h5.1 = h.1 + 5 := by omega
  have e7 : h7.1 = h.1 + 22 := by omega
  rw [e1, e2, e3, e4, e5, e6] at m7
  rw [e1] at k1
  rw [e2] at k2
  rw [e3] at k3
  rw [e4] at k4
  rw [e5] at k5
  rw [e6] at k6 k7
  refine K h7 e7 m7 (fun i hi => ?_) k6 k7 k8
  rcases i with _ | _ | _ | _ | _ | i
  · exact k1
  · exact k2
  · exact k3
  · exact k4
  · exact k5
  · omega
end
theorem dg_0 (x : Nat) : dg x 0 = x % 268435456 := by unfold dg; rw [Nat.pow_zero, Nat.div_one]
theorem nv_one {h : vm_H} {L c : Nat} {f : Nat → Int64} (hf : h.2 c = .inl (.long, L, .inr (.inl f))) (h0 : f 0 = 1) (hr : ∀ j, 0 < j → f j = 0) : nv h L c 1 := by
  refine ⟨f, hf, fun j hj => ?_⟩
  rcases Nat.eq_zero_or_pos j with z | z
  · subst z; rw [h0, dg_0]; rfl
  · rw [hr j z]
    have : dg 1 j = 0 := by
      unfold dg
      rw [Nat.div_eq_of_lt (Nat.one_lt_pow (by omega) (by decide))]
    rw [this]; rfl
section
variable {l : Launch} {O : Nat → vm_Ob} {f9 : Value}
theorem s_minit {h : vm_H} {m ci a n at9 size : Nat} {b : Nat → Nat} {v0 v1 v2 v3 v4 v5 v6 v7 : Value} {tl : List Value} (hci : ci = 6 ∨ ci = 3) (hm : h.2 m = .inr (ci, v0 :: v1 :: v2 :: v3 :: v4 :: v5 :: v6 :: v7 :: tl)) (hm1 : m < h.1) (ha : bv h n a b) (ha1 : a < h.1 ∨ 1099511627776 ≤ a) (hn : at9 + size ≤ n) (hn2 : n < 65536) (hs4 : 4 ≤ size) (hs : size ≤ 256) (hh : h.1 + 30 < 1099511627776) (hodd : bn b at9 size % 2 = 1) (hN1 : 1 < bn b at9 size) {L : Nat} (hL : L = 8 * size / 28 + 1) :
    vm_Met (vm_env l O f9) mX6_init 22 (21 * L + 16) [.ref m, .ref a, .int (nI at9), .int (nI size)] h (fun r h' => r = none ∧ h'.1 = h.1 + 22 ∧ ∃ ni : Nat, (ni * dg (bn b at9 size) 0 + 1) % 268435456 = 0 ∧ h'.2 m = .inr (ci, .int (nI L) :: .ref h.1 :: .ref (h.1 + 1) :: .ref (h.1 + 2) :: .ref (h.1 + 3) :: .long (lZ ni) :: .ref (h.1 + 4) :: .ref (h.1 + 5) :: tl) ∧ nv h' L h.1 (bn b at9 size) ∧ nv h' L (h.1 + 1) (268435456 ^ L % bn b at9 size) ∧ nv h' L (h.1 + 2) (268435456 ^ L * 268435456 ^ L % bn b at9 size) ∧ nv h' L (h.1 + 3) 1 ∧ la h' L (h.1 + 4) ∧ h'.2 (h.1 + 5) = .inl (.array .long, 16, .inr (.inr (.inr (.inr (fun j => if j < 16 then some (h.1 + 5 + 1 + j) else none))))) ∧ (∀ j, j < 16 → la h' L (h.1 + 5 + 1 + j)) ∧ (∀ q, q < h.1 ∨ 1099511627776 ≤ q → q ≠ m → h'.2 q = h.2 q)) := by
  have hif : (if ci = 600 then 500 else ci) = ci := by rcases hci with rfl | rfl <;> rfl
  have hL2 : 1 < L := by omega
  have hL74 : L ≤ 74 := by omega
  have hmo : m < 1099511627776 := by omega
  have ham : a ≠ m := by
    obtain ⟨f, hf, _⟩ := ha
    intro e; rw [e, hm] at hf; cases hf
  have hbl : ∀ j, at9 ≤ j → j < at9 + size → b j < 256 := by
    obtain ⟨f, hf, hf2⟩ := ha
    exact fun j _ hj => (hf2 j (by omega)).2
  have hNs : bn b at9 size < 256 ^ size := bn_lt size hbl
  have hN2 : 2 * bn b at9 size ≤ 268435456 ^ L := by
    have e : 2 * 256 ^ size ≤ 268435456 ^ L := by
      rw [p8, p28, ← Nat.pow_succ']
      exact Nat.pow_le_pow_right (by decide) (by omega)
    omega
  refine vm_met rfl (Nat.le_of_ble_eq_true rfl) ?_
  refine mi_a hci hm hm1 hs4 hs hh hL ?_
  intro h7 c7 m7 k1 k6 k7 k8
  have ha7 : bv h7 n a b := by
    obtain ⟨f, hf, hf2⟩ := ha
    exact ⟨f, (k8 a ha1 ham).trans hf, hf2⟩
  generalize hNe : bn b at9 size = N at *
  have o3 : h.1 + 3 < 1099511627776 := by omega
  have o0 : h.1 < 1099511627776 := by omega
  have o1 : h.1 + 1 < 1099511627776 := by omega
  have o2 : h.1 + 2 < 1099511627776 := by omega
  refine ⟨_, _, m7, rfl, ⟨L, _, k1 3 (by decide), o3, 0, rfl, by omega, ?_⟩⟩
  generalize hq8 : vm_up h7 (h.1 + 3) _ = h8
  have m8 : h8.2 m = .inr (ci, .int (nI L) :: .ref h.1 :: .ref (h.1 + 1) :: .ref (h.1 + 2) :: .ref (h.1 + 3) :: v5 :: .ref (h.1 + 4) :: .ref (h.1 + 5) :: tl) := by rw [← hq8, vm_upn (by omega)]; exact m7
  have u8 : ∀ q, q ≠ h.1 + 3 → h8.2 q = h7.2 q := by intro q hq; rw [← hq8, vm_upn hq]
  have n8 : nv h8 L (h.1 + 3) 1 := by
    refine nv_one (by rw [← hq8]; exact vm_upe) rfl (fun j hj => ?_)
    show vp_updL (fun _ => 0) 0 1 j = 0
    unfold vp_updL
    rw [if_neg (by omega)]
  have c8 : h8.1 = h.1 + 22 := by rw [← hq8]; exact c7
  clear hq8
  have ha8 : bv h8 n a b := by
    obtain ⟨f, hf, hf2⟩ := ha7
    exact ⟨f, (u8 a (by omega)).trans hf, hf2⟩
  refine ⟨_, _, m8, rfl, ⟨0, 0, _, s_read ha8 ⟨_, (u8 h.1 (by omega)).trans (k1 0 (by decide))⟩ hn hn2 (by omega) o0, Nat.zero_le _, Nat.zero_le _, ?_⟩⟩
  rintro r h9 ⟨rfl, n9, F9⟩
  rw [hNe] at n9
  have m9 := (F9.2 m (by omega)).trans m8
  refine vm_more (kc' := 0) (ks' := 0) ?_ (Nat.zero_le _) (Nat.zero_le _)
  refine vm_Th (lv' := [(0, .ref m), (1, .ref a), (2, .int (nI at9)), (3, .int (nI size)), (4, .long (lZ (nx (dg N 0) 0))), (6, .int (nI 0))]) (h' := h9) rfl rfl ?_
  have d0 : (dg N 0 : Int) % 2 = 1 := by have := dg0_2 N; omega
  obtain ⟨f9n, g9, v9⟩ := n9
  refine vm_for 5 (fun i => [(0, .ref m), (1, .ref a), (2, .int (nI at9)), (3, .int (nI size)), (4, .long (lZ (nx (dg N 0) i))), (6, .int (nI i))]) (fun _ => h9) 0 (by decide) ?_ ?_
  rotate_left
  · intro i _ hi ih
    refine vm_go rfl (bX6_init_104 ci) (oX6_init_104 hci) ⟨fun q => absurd q (nI_ge (b := 5) hi (by decide)), fun _ => ?_⟩
    refine ⟨_, _, m9, rfl, ⟨L, f9n, g9, 0, rfl, by omega, ?_⟩⟩
    rw [v9 0 (by omega)]
    refine vm_Th ?_ rfl ih
    show _ = [(0, Value.ref m), (1, .ref a), (2, .int (nI at9)), (3, .int (nI size)), (4, .long (lZ (nx (dg N 0) i) * (lZ 2 - lZ (dg N 0) * lZ (nx (dg N 0) i)))), (6, .int (nI i + 1))]
    rw [lZ_mul, lZ_sub, lZ_mul, nI_1]
    rfl
  refine vm_go rfl (bX6_init_104 ci) (oX6_init_104 hci) ⟨fun _ => ?_, fun q => absurd (nI_le (Nat.le_refl 5) (by decide)) q⟩
  refine vm_go rfl (bX6_init_134 ci) (oX6_init_134 hci) ?_
  obtain ⟨t5, ht5⟩ := nx_e d0 5
  have eni : -lZ (nx (dg N 0) 5) &&& 268435455 = lZ (((-nx (dg N 0) 5) % 268435456).toNat : Nat) := by
    have e1 : -lZ (nx (dg N 0) 5) = lZ (-nx (dg N 0) 5) := by
      rw [← Int64.zero_sub]
      exact (lZ_sub 0 _).trans (by rw [Int.zero_sub])
    rw [e1, lZ_m28, Int.toNat_of_nonneg (Int.emod_nonneg _ (by decide))]
  have hni : (((-nx (dg N 0) 5) % 268435456).toNat * dg N 0 + 1) % 268435456 = 0 := by
    have e2 : (((-nx (dg N 0) 5) % 268435456).toNat : Int) = -nx (dg N 0) 5 % 268435456 := Int.toNat_of_nonneg (Int.emod_nonneg _ (by decide))
    have e3 : -nx (dg N 0) 5 % 268435456 = -nx (dg N 0) 5 - 268435456 * (-nx (dg N 0) 5 / 268435456) := by omega
    generalize ((-nx (dg N 0) 5) % 268435456).toNat = w at *
    have e4 : ((w * dg N 0 + 1 : Nat) : Int) = 268435456 * (-(16 * t5) - (-nx (dg N 0) 5 / 268435456) * dg N 0) := by
      rw [Int.natCast_add, Int.natCast_mul, e2, e3]
      have : (2 : Int) ^ 2 ^ 5 = 4294967296 := by decide
      rw [this] at ht5
      generalize nx (dg N 0) 5 = x at *
      generalize -x / 268435456 = z at *
      generalize (dg N 0 : Int) = d at *
      show (-x - 268435456 * z) * d + 1 = _
      grind
    have : ((w * dg N 0 + 1 : Nat) : Int) % 268435456 = 0 := by rw [e4]; exact Int.mul_emod_right _ _
    omega
  generalize ((-nx (dg N 0) 5) % 268435456).toNat = ni at *
  have lt8 : ∀ (k : Nat) (x0 x1 x2 x3 x4 x5 x6 x7 : Value), k < 8 → k < (x0 :: x1 :: x2 :: x3 :: x4 :: x5 :: x6 :: x7 :: tl).length := by
    intro k x0 x1 x2 x3 x4 x5 x6 x7 hk
    show k < tl.length + 8
    omega
  refine np_p (idx := 0) (w := .long (-lZ (nx (dg N 0) 5) &&& 268435455)) (k := 5) (tc := 1) m9 hmo (lt8 5 _ _ _ _ _ _ _ _ (by decide)) trivial ?_
  intro h10 c10 m10 u10
  rw [eni] at m10
  have m10 : h10.2 m = .inr (ci, .int (nI L) :: .ref h.1 :: .ref (h.1 + 1) :: .ref (h.1 + 2) :: .ref (h.1 + 3) :: .long (lZ ni) :: .ref (h.1 + 4) :: .ref (h.1 + 5) :: tl) := m10
  have w1 : h10.2 (h.1 + 1) = .inl (.long, L, .inr (.inl (fun _ => 0))) := by
    rw [u10 _ (by omega), F9.2 _ (by omega), u8 _ (by omega)]; exact k1 1 (by decide)
  refine ⟨_, _, m10, rfl, ⟨L, _, w1, o1, 0, rfl, by omega, ?_⟩⟩
  generalize hq11 : vm_up h10 (h.1 + 1) _ = h11
  have u11 : ∀ q, q ≠ h.1 + 1 → h11.2 q = h10.2 q := by intro q hq; rw [← hq11, vm_upn hq]
  have n11 : nv h11 L (h.1 + 1) 1 := by
    refine nv_one (by rw [← hq11]; exact vm_upe) rfl (fun j hj => ?_)
    show vp_updL (fun _ => 0) 0 1 j = 0
    unfold vp_updL
    rw [if_neg (by omega)]
  have c11 : h11.1 = h.1 + 22 := by
    have : h11.1 = h10.1 := by rw [← hq11]; rfl
    have := F9.1
    omega
  clear hq11
  have m11 := (u11 m (by omega)).trans m10
  have nn11 : nv h11 L h.1 N := ⟨f9n, by rw [u11 _ (by omega), u10 _ (by omega)]; exact g9, v9⟩
  have a11 : ∀ q, q ≠ m → q ≠ h.1 → q ≠ h.1 + 1 → q ≠ h.1 + 3 → h11.2 q = h7.2 q := by
    intro q q1 q2 q3 q4
    rw [u11 _ q3, u10 _ q1, F9.2 _ q2, u8 _ q4]
  have n311 : nv h11 L (h.1 + 3) 1 := by
    obtain ⟨f, hf, vf⟩ := n8
    exact ⟨f, by rw [u11 _ (by omega), u10 _ (by omega), F9.2 _ (by omega)]; exact hf, vf⟩
  refine vm_Th (lv' := [(0, .ref m), (1, .ref a), (2, .int (nI at9)), (3, .int (nI size)), (4, .long (lZ (nx (dg N 0) 5))), (6, .int (nI 0))]) (h' := h11) rfl rfl ?_
  generalize lZ (nx (dg N 0) 5) = xx
  clear eni ht5 t5 w1 m9 m8 m7 n8 g9 v9 f9n ha8 ha7 u8 u10 u11 F9 hNe
  have e28 : (28 : Int32) * nI L = nI (28 * L) := nI_mul 28 L
  refine vm_while (σ := Nat × vm_H) (fun z => z.1 ≤ 28 * L ∧ nv z.2 L (h.1 + 1) (2 ^ z.1 % N) ∧ fr h11 z.2 (fun q => q = h.1 + 1)) (fun z => 28 * L - z.1) (fun z => [(0, .ref m), (1, .ref a), (2, .int (nI at9)), (3, .int (nI size)), (4, .long xx), (6, .int (nI z.1))]) (fun z => z.2) ?_ (0, h11) ⟨Nat.zero_le _, by show nv h11 L (h.1 + 1) (2 ^ 0 % N); rw [Nat.pow_zero, Nat.mod_eq_of_lt hN1]; exact n11, fr_refl⟩
  rintro ⟨i, h12⟩ ⟨p1, p2, p3⟩ ih
  dsimp only at p1 p2 p3 ih ⊢
  have m12 := (p3.2 m (by omega)).trans m11
  have nn12 := fr_nv p3 nn11 (by omega)
  rcases Nat.lt_or_ge i (28 * L) with hi | hi
  · refine vm_go rfl (bX6_init_155 ci) (oX6_init_155 hci) ⟨_, _, m12, rfl, ⟨fun q => absurd q (by rw [e28]; exact nI_ge hi (by omega)), fun _ => ?_⟩⟩
    obtain ⟨fo, go, vo⟩ := p2
    obtain ⟨fn, gn, vn⟩ := nn12
    have hlt := Nat.mod_lt (2 ^ i) (show N > 0 by omega)
    refine ⟨_, _, m12, rfl, ⟨_, _, m12, rfl, ⟨_, _, m12, rfl, ⟨_, by rw [hif]; exact m12, 0, 0, _, s_add hci m12 rfl rfl go go go gn (by omega) (Nat.le_refl _) (Nat.le_refl _) (Nat.le_refl _) (Nat.le_refl _) (by omega) (by omega) o1 vo vo vn (by omega) (by omega) (by omega), Nat.le_refl _, Nat.le_refl _, ?_⟩⟩⟩⟩
    rintro r h13 ⟨rfl, rfl⟩
    refine vm_Th (by rw [← nI_1]; rfl) rfl (ih (i + 1, _) ⟨by show i + 1 ≤ 28 * L; omega, ?_, fr_trans p3 (fr_up rfl)⟩ (by show 28 * L - (i + 1) < 28 * L - i; omega))
    show nv _ L (h.1 + 1) (2 ^ (i + 1) % N)
    rw [← pw_mod]
    exact nv_e
  · have hi : i = 28 * L := by omega
    subst hi
    clear ih
    refine vm_go rfl (bX6_init_155 ci) (oX6_init_155 hci) ⟨_, _, m12, rfl, ⟨fun _ => ?_, fun q => absurd (by rw [e28]; exact nI_le (Nat.le_refl _) (by omega)) q⟩⟩
    obtain ⟨fo, go, vo⟩ := p2
    obtain ⟨fs2, gs2⟩ : la h12 L (h.1 + 2) := fr_la p3 ⟨_, (a11 (h.1 + 2) (by omega) (by omega) (by omega) (by omega)).trans (k1 2 (by decide))⟩ (by omega)
    refine vm_go rfl (bX6_init_189 ci) (oX6_init_189 hci) ⟨_, _, m12, rfl, ⟨_, _, m12, rfl, ⟨_, by rw [hif]; exact m12, 0, 0, _, s_mcopy hci m12 rfl go gs2 (Nat.le_refl _) (Nat.le_refl _) o2, Nat.le_refl _, Nat.le_refl _, ?_⟩⟩⟩
    rintro r h13 ⟨rfl, hq13⟩
    have n13 : nv h13 L (h.1 + 2) (2 ^ (28 * L) % N) := by
      rw [hq13]
      exact ⟨_, vm_upe, fun j hj => by rw [cutf_lo hj, vo j hj]⟩
    have F13 : fr h12 h13 (fun q => q = h.1 + 2) := by rw [hq13]; exact fr_up rfl
    have F13b : fr h11 h13 (fun q => q = h.1 + 1 ∨ q = h.1 + 2) := fr_trans (fr_mono p3 (fun q hq => Or.inl hq)) (fr_mono F13 (fun q hq => Or.inr hq))
    have no13 : nv h13 L (h.1 + 1) (2 ^ (28 * L) % N) := fr_nv F13 ⟨fo, go, vo⟩ (by omega)
    clear hq13
    refine vm_Th (lv' := [(0, .ref m), (1, .ref a), (2, .int (nI at9)), (3, .int (nI size)), (4, .long xx), (6, .int (nI 0))]) (h' := h13) rfl rfl ?_
    refine vm_while (σ := Nat × vm_H) (fun z => z.1 ≤ 28 * L ∧ nv z.2 L (h.1 + 2) (2 ^ (28 * L + z.1) % N) ∧ fr h13 z.2 (fun q => q = h.1 + 2)) (fun z => 28 * L - z.1) (fun z => [(0, .ref m), (1, .ref a), (2, .int (nI at9)), (3, .int (nI size)), (4, .long xx), (6, .int (nI z.1))]) (fun z => z.2) ?_ (0, h13) ⟨Nat.zero_le _, n13, fr_refl⟩
    rintro ⟨i, h14⟩ ⟨r1, r2, r3⟩ ih
    dsimp only at r1 r2 r3 ih ⊢
    have m14 := (r3.2 m (by omega)).trans ((F13.2 m (by omega)).trans m12)
    have nn14 := fr_nv r3 (fr_nv F13 nn12 (by omega)) (by omega)
    rcases Nat.lt_or_ge i (28 * L) with hi | hi
    · refine vm_go rfl (bX6_init_204 ci) (oX6_init_204 hci) ⟨_, _, m14, rfl, ⟨fun q => absurd q (by rw [e28]; exact nI_ge hi (by omega)), fun _ => ?_⟩⟩
      obtain ⟨fo, go, vo⟩ := r2
      obtain ⟨fn, gn, vn⟩ := nn14
      have hlt := Nat.mod_lt (2 ^ (28 * L + i)) (show N > 0 by omega)
      refine ⟨_, _, m14, rfl, ⟨_, _, m14, rfl, ⟨_, _, m14, rfl, ⟨_, by rw [hif]; exact m14, 0, 0, _, s_add hci m14 rfl rfl go go go gn (by omega) (Nat.le_refl _) (Nat.le_refl _) (Nat.le_refl _) (Nat.le_refl _) (by omega) (by omega) o2 vo vo vn (by omega) (by omega) (by omega), Nat.le_refl _, Nat.le_refl _, ?_⟩⟩⟩⟩
      rintro r h15 ⟨rfl, rfl⟩
      refine vm_Th (by rw [← nI_1]; rfl) rfl (ih (i + 1, _) ⟨by show i + 1 ≤ 28 * L; omega, ?_, fr_trans r3 (fr_up rfl)⟩ (by show 28 * L - (i + 1) < 28 * L - i; omega))
      show nv _ L (h.1 + 2) (2 ^ (28 * L + i + 1) % N)
      rw [← pw_mod]
      exact nv_e
    · have hi : i = 28 * L := by omega
      subst hi
      clear ih
      refine vm_go rfl (bX6_init_204 ci) (oX6_init_204 hci) ⟨_, _, m14, rfl, ⟨fun _ => ?_, fun q => absurd (by rw [e28]; exact nI_le (Nat.le_refl _) (by omega)) q⟩⟩
      refine vm_go rfl bX6_init_238 oX6_init_238 ?_
      have F14 : fr h11 h14 (fun q => q = h.1 + 1 ∨ q = h.1 + 2) := fr_trans F13b (fr_mono r3 (fun q hq => Or.inr hq))
      have up : ∀ q, q ≠ m → q ≠ h.1 → q ≠ h.1 + 1 → q ≠ h.1 + 2 → q ≠ h.1 + 3 → h14.2 q = h7.2 q := by
        intro q q1 q2 q3 q4 q5
        rw [F14.2 q (by omega), a11 q q1 q2 q3 q5]
      refine ⟨rfl, by rw [F14.1, c11], ni, hni, m14, nn14, ?_, ?_, fr_nv F14 n311 (by omega), ?_, ?_, ?_, ?_⟩
      · rw [p28]; exact fr_nv r3 no13 (by omega)
      · rw [p28, ← Nat.pow_add]; exact r2
      · exact ⟨_, (up _ (by omega) (by omega) (by omega) (by omega) (by omega)).trans (k1 4 (by decide))⟩
      · rw [up _ (by omega) (by omega) (by omega) (by omega) (by omega)]; exact k6
      · intro j hj
        obtain ⟨f, hf⟩ := k7 j hj
        exact ⟨f, (up _ (by omega) (by omega) (by omega) (by omega) (by omega)).trans hf⟩
      · intro q hq hqm
        rw [up q hqm (by omega) (by omega) (by omega) (by omega)]
        exact k8 q hq hqm
end
