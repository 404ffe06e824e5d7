/-! new Modulus, new Field; enterWide -/
def Am (m e i : Nat) : Nat := if i = 0 then m else if i = 5 then e + 22 else if i < 5 then e + i - 1 else e + i - 2
theorem Am_inj {m e : Nat} (hm : m < e) : ∀ i j, i < 24 → j < 24 → Am m e i = Am m e j → i = j := by
  intro i j hi hj h
  unfold Am at h
  repeat' split at h
  all_goals omega
theorem Am_lt {m e i : Nat} (hm : m < e) (hi : i < 24) : Am m e i ≤ e + 22 := by
  unfold Am
  split
  · omega
  · split
    · omega
    · split <;> omega
theorem MP_new {m e ci L N ni : Nat} (hci : ci = 6 ∨ (ci = 3 ∧ L = 14 ∧ N = cP)) (hm : m < e) (he : e + 30 < 1099511627776) (h1 : 1 < L) (h2 : L ≤ 74) (h3 : 1 < N) (h4 : 2 * N ≤ 268435456 ^ L) (h5 : (ni * dg N 0 + 1) % 268435456 = 0) (ho : N % 2 = 1) : ∃ ri, MP (Am m e) ci L N ni ri := by
  obtain ⟨ri, hri⟩ := ri_ex L ho
  exact ⟨ri, hci, h1, h2, h3, h4, h5, hri, Am_inj hm, fun i hi _ => by have := Am_lt (e := e) hm hi; omega⟩
theorem MD_ch {h h' : vm_H} {A : Nat → Nat} {ci L N ni c : Nat} (hM : MD h A ci L N ni) (F : fr h h' (fun q => q = c)) (hc : la h' L c) (oc : okc A c) : MD h' A ci L N ni := by
  have k : ∀ i, i < 8 → h'.2 (A i) = h.2 (A i) := fun i hi => F.2 _ (fun e => oc.1 i hi e.symm)
  refine MD_fr hM (fun i hi _ _ => k i hi) ?_ (fun i hi => ?_) (fun q => ?_)
  · obtain ⟨g, hg⟩ := hM.2.2.2.2.2.1
    exact ⟨g, (k 6 (by decide)).trans hg⟩
  · by_cases e : A (8 + i) = c
    · rw [e]; exact hc
    · exact fr_la F (hM.2.2.2.2.2.2.2.1 i hi) e
  · obtain ⟨g, hg⟩ := hM.2.2.2.2.2.2.2.2 q
    exact ⟨g, (k 5 (by decide)).trans hg⟩
section
variable {l : Launch} {O : Nat → vm_Ob} {f9 : Value}
theorem vm_metA {E : vm_E} {y : vm_M} {kc ks : Nat} {av av' : List Value} {h : vm_H} {Q : Option Value → vm_H → Prop} (k : vm_Met E y kc ks av h Q) (e : av = av') : vm_Met E y kc ks av' h Q := e ▸ k
theorem v_new6 {h : vm_H} {m a n at9 size : Nat} {b : Nat → Nat} (hm : h.2 m = .inr (6, vm_df 6)) (hm1 : m < h.1) (ha : bv h n a b) (ha1 : a < h.1 ∨ 1099511627776 ≤ a) (hn : at9 + size ≤ n) (hn2 : n < 65536) (hs4 : 4 ≤ size) (hs : size ≤ 256) (hh : h.1 + 30 < 1099511627776) (hodd : bn b at9 size % 2 = 1) (hN1 : 1 < bn b at9 size) {L : Nat} (hL : L = 8 * size / 28 + 1) :
    vm_Met (vm_env l O f9) mX6_init 22 (21 * L + 16) [.ref m, .ref a, .int (nI at9), .int (nI size)] h (fun r h' => r = none ∧ h'.1 = h.1 + 22 ∧ (∃ ni ri : Nat, MP (Am m h.1) 6 L (bn b at9 size) ni ri ∧ MD h' (Am m h.1) 6 L (bn b at9 size) ni) ∧ ∀ q, q < h.1 ∨ 1099511627776 ≤ q → q ≠ m → h'.2 q = h.2 q) := by
  refine vm_metP (s_minit (Or.inl rfl) hm hm1 ha ha1 hn hn2 hs4 hs hh hodd hN1 hL) ?_
  rintro r h' ⟨rfl, c1, ni, g1, m1, n1, n2, n3, n4, l6, a7, l8, u⟩
  have hNs : bn b at9 size < 256 ^ size := by
    obtain ⟨f, hf, hf2⟩ := ha
    exact bn_lt size (fun j _ hj => (hf2 j (by omega)).2)
  have hN2 : 2 * bn b at9 size ≤ 268435456 ^ L := by
    have e : 2 * 256 ^ size ≤ 268435456 ^ L := by
      rw [p8, p28, ← Nat.pow_succ']
      exact Nat.pow_le_pow_right (by decide) (by omega)
    omega
  obtain ⟨ri, hP⟩ := MP_new (Or.inl rfl) hm1 hh (by omega) (by omega) hN1 hN2 g1 hodd
  refine ⟨rfl, c1, ⟨ni, ri, hP, ?_⟩, u⟩
  refine ⟨⟨_, m1, rfl, rfl, rfl, rfl, rfl, rfl, rfl, rfl, fun z => absurd z (by decide)⟩, n1, n2, n3, n4, l6, ?_, ?_, fun z => absurd z (by decide)⟩
  · refine a7.trans ?_
    congr 8
    funext j
    show (if j < 16 then some (h.1 + 5 + 1 + j) else none) = if j < 16 then some (Am m h.1 (8 + j)) else none
    split
    · unfold Am
      rw [if_neg (by omega), if_neg (by omega), if_neg (by omega)]
      congr 1; omega
    · rfl
  · intro i hi
    have := l8 i hi
    unfold Am
    rw [if_neg (by omega), if_neg (by omega), if_neg (by omega)]
    rwa [show h.1 + (8 + i) - 2 = h.1 + 5 + 1 + i by omega]
theorem v_new3 {h : vm_H} {m a : Nat} {b : Nat → Nat} (hm : h.2 m = .inr (3, vm_df 3)) (hm1 : m < h.1) (ha : bv h 48 a b) (ha1 : a < h.1 ∨ 1099511627776 ≤ a) (hh : h.1 + 30 < 1099511627776) (hN : bn b 0 48 = cP) :
    vm_Met (vm_env l O f9) mX3_init 23 338 [.ref m, .ref a] h (fun r h' => r = none ∧ h'.1 = h.1 + 23 ∧ (∃ ni ri : Nat, MP (Am m h.1) 3 14 cP ni ri ∧ MD h' (Am m h.1) 3 14 cP ni) ∧ ∀ q, q < h.1 ∨ 1099511627776 ≤ q → q ≠ m → h'.2 q = h.2 q) := by
  have hodd : cP % 2 = 1 := by decide +kernel
  have hN1 : 1 < cP := by decide +kernel
  have hN2 : 2 * cP ≤ 268435456 ^ 14 := by decide +kernel
  obtain ⟨fa, ga, va⟩ := ha
  refine vm_met rfl (Nat.le_of_ble_eq_true rfl) ?_
  refine vm_go rfl bX3_init_0 oX3_init_0 ⟨_, _, ga, by decide, ⟨22, 310, _, s_minit (L := 14) (at9 := 0) (size := 48) (n := 48) (Or.inr rfl) hm hm1 ⟨fa, ga, va⟩ ha1 (by decide) (by decide) (by decide) (by decide) hh (by rw [hN]; exact hodd) (by rw [hN]; exact hN1) rfl, by decide, by decide, ?_⟩⟩
  rintro r h1 ⟨rfl, c1, ni, g1, m1, n1, n2, n3, n4, l6, a7, l8, u⟩
  rw [hN] at g1 n1 n2 n3
  refine np_L (idx := 0) (N := 28) rfl (by decide) (by decide) (by decide) (by omega) m1 (by omega) (show 8 < 9 by decide) ?_
  rintro h2 ⟨c2, m2, a2, u2⟩
  obtain ⟨ri, hP⟩ := MP_new (m := m) (e := h.1) (ci := 3) (L := 14) (N := cP) (Or.inr ⟨rfl, rfl, rfl⟩) hm1 hh (by decide) (by decide) hN1 hN2 g1 hodd
  have ot : ∀ q, q ≠ m → q ≤ h.1 + 21 → h2.2 q = h1.2 q := fun q q1 q2 => u2 q q1 (by omega)
  refine ⟨rfl, by omega, ⟨ni, ri, hP, ?_⟩, fun q hq hqm => (u2 q hqm (by omega)).trans (u q hq hqm)⟩
  have F : ∀ {q v : Nat}, q ≠ m → q ≤ h.1 + 21 → nv h1 14 q v → nv h2 14 q v := fun q1 q2 ⟨f, w1, w2⟩ => ⟨f, (ot _ q1 q2).trans w1, w2⟩
  have F' : ∀ {q : Nat}, q ≠ m → q ≤ h.1 + 21 → la h1 14 q → la h2 14 q := fun q1 q2 ⟨f, w1⟩ => ⟨f, (ot _ q1 q2).trans w1⟩
  refine ⟨⟨_, m2, rfl, rfl, rfl, rfl, rfl, rfl, rfl, rfl, fun _ => ?_⟩, F (q := h.1) (by omega) (by omega) n1, F (q := h.1 + 1) (by omega) (by omega) n2, F (q := h.1 + 2) (by omega) (by omega) n3, F (q := h.1 + 3) (by omega) (by omega) n4, F' (q := h.1 + 4) (by omega) (by omega) l6, ?_, ?_, fun _ => ⟨fun _ => 0, ?_⟩⟩
  · show some (Value.ref h1.1) = some (.ref (h.1 + 22))
    rw [c1]
  · refine (ot (h.1 + 5) (by omega) (by omega)).trans (a7.trans ?_)
    congr 8
    funext j
    show (if j < 16 then some (h.1 + 5 + 1 + j) else none) = if j < 16 then some (Am m h.1 (8 + j)) else none
    split
    · unfold Am
      rw [if_neg (by omega), if_neg (by omega), if_neg (by omega)]
      congr 1; omega
    · rfl
  · intro i hi
    have := F' (q := h.1 + 5 + 1 + i) (by omega) (by omega) (l8 i hi)
    unfold Am
    rw [if_neg (by omega), if_neg (by omega), if_neg (by omega)]
    rwa [show h.1 + (8 + i) - 2 = h.1 + 5 + 1 + i by omega]
  · show h2.2 (h.1 + 22) = _
    rw [← c1]; exact a2
/-- a product with R^2 enters -/
theorem v_ems {h : vm_H} {A : Nat → Nat} {ci L N ni ri a c x : Nat} (hP : MP A ci L N ni ri) (hM : MD h A ci L N ni) (ha : nv h L a x) (hc : la h L c) (hx : x < 268435456 ^ L) (oa : a ≠ A 6) (oc : okc A c) :
    vm_Met (vm_env l O f9) (vm_mt (if ci = 3 then 29 else 57)) 0 0 [.ref (A 0), .ref a, .ref (A 3), .ref c] h (fun r h' => r = none ∧ mv h' L N c x ∧ MD h' A ci L N ni ∧ fr h h' (fun q => q = c ∨ sc A ci q)) := by
  obtain ⟨p1, p2, p3⟩ := MP_N hP
  have hri := p3
  refine vm_metP (m_mul hP hM ha hM.2.2.2.1 hc hx (Nat.mod_lt _ p1) oa (MP_6 hP (by decide) (by decide) (by decide)) oc) ?_
  rintro r h' ⟨rfl, k1, k2⟩
  refine ⟨rfl, ?_, k2⟩
  have e : x * (268435456 ^ L * 268435456 ^ L % N) * ri % N = x * 268435456 ^ L % N := by
    have e1 : x * (268435456 ^ L * 268435456 ^ L % N) * ri % N = (x * 268435456 ^ L) * (268435456 ^ L * ri) % N := by
      rw [Nat.mul_right_comm, Nat.mul_mod_mod]
      congr 1
      grind
    rw [e1, Nat.mul_mod, hri, ← Nat.mul_mod, Nat.mul_one]
  rw [e, mt_ent p1] at k1
  exact k1
theorem v_entw {h : vm_H} {A : Nat → Nat} {ci N ni ri c e n at9 : Nat} {b : Nat → Nat} (hP : MP A ci 14 N ni ri) (hM : MD h A ci 14 N ni) (he9 : bv h n e b) (hn : at9 + 72 ≤ n) (hn2 : n < 65536) (hc : la h 14 c) (oc : okc A c) (ocs : ∀ i, i < 16 → c ≠ A (8 + i)) :
    vm_Met (vm_env l O f9) mX6_enterWide 0 0 [.ref (A 0), .ref e, .int (nI at9), .int 72, .ref c] h (fun r h' => r = none ∧ mv h' 14 N c (bn b at9 72) ∧ MD h' A ci 14 N ni ∧ fr h h' (rS A ci c)) := by
  have hci2 := MP_ci hP
  have hif : (if ci = 600 then 500 else ci) = ci := by rcases hci2 with rfl | rfl <;> rfl
  obtain ⟨p1, p2, p3⟩ := MP_N hP
  have hM' := hM
  obtain ⟨⟨fs, m0, f0, f1, f2, f3, f4, f5, f6, f7, f8⟩, _, _, _, _, _, m7, m8, _⟩ := hM'
  have o8 := okc_sp (i := 0) hP (by decide)
  have o9 := okc_sp (i := 1) hP (by decide)
  have ne89 : A 8 ≠ A 9 := MP_6 hP (by decide) (by decide) (by decide)
  have ne86 : A 8 ≠ A 6 := MP_6 hP (by decide) (by decide) (by decide)
  have ne96 : A 9 ≠ A 6 := MP_6 hP (by decide) (by decide) (by decide)
  have ne85 : A 8 ≠ A 5 := MP_6 hP (by decide) (by decide) (by decide)
  have ne95 : A 9 ≠ A 5 := MP_6 hP (by decide) (by decide) (by decide)
  have s8 : ¬ (A 8 = A 9 ∨ sc A ci (A 8)) := by
    rintro (z | z | ⟨_, z⟩)
    · exact ne89 z
    · exact ne86 z
    · exact ne85 z
  have s9 : ¬ (A 9 = A 8 ∨ sc A ci (A 9)) := by
    rintro (z | z | ⟨_, z⟩)
    · exact ne89 z.symm
    · exact ne96 z
    · exact ne95 z
  have sC : ∀ i, i < 16 → ¬ (c = A (8 + i) ∨ sc A ci c) := by
    rintro i hi (z | z | ⟨_, z⟩)
    · exact ocs i hi z
    · exact oc.1 6 (by decide) z
    · exact oc.1 5 (by decide) z
  refine vm_met rfl (Nat.le_of_ble_eq_true rfl) ?_
  refine vm_go rfl (bX6_enterWide_0 ci) (oX6_enterWide_0 hci2) ⟨fs, _, m0, f0, ⟨by decide, 0, 0, _, s_min (a := 72) (b := 49) (by decide) (by decide), Nat.le_refl _, Nat.le_refl _, ?_⟩⟩
  rintro r h0 ⟨rfl, rfl⟩
  refine ⟨fs, _, m0, f7, ⟨_, _, _, _, m7, by decide, rfl, 0, rfl, by decide, sp_rf (by decide), ⟨0, 0, _, s_read (at9 := at9) (size := 23) he9 (m8 0 (by decide)) (by omega) hn2 (by decide) o8.2, Nat.le_refl _, Nat.le_refl _, ?_⟩⟩⟩
  rintro r h1 ⟨rfl, w1, F1⟩
  have M1 : MD h1 A ci 14 N ni := MD_ch hM F1 (nv_la w1) o8
  have he1 : bv h1 n e b := fr_bv F1 he9 (bv_ne he9 (m8 0 (by decide)))
  have M1' := M1
  obtain ⟨⟨fs1, m01, f01, f11, f21, f31, f41, f51, f61, f71, f81⟩, _, _, _, _, _, m71, m81, _⟩ := M1'
  have eat : nI at9 + 72 - nI 49 = nI (at9 + 23) := by
    rw [show nI at9 + 72 = nI (at9 + 72) from nI_add at9 72, nI_sub (by omega)]
    congr 1
  refine ⟨fs1, _, m01, f71, ⟨_, _, _, _, m71, by decide, rfl, 1, rfl, by decide, sp_rf (by decide), ⟨0, 0, _, vm_metA (s_read (at9 := at9 + 23) (size := 49) he1 (m81 1 (by decide)) (by omega) hn2 (by decide) o9.2) (by show [_, Value.int (nI (at9 + 23)), _, _] = [_, Value.int (nI at9 + 72 - nI 49), _, _]; rw [eat]; rfl), Nat.le_refl _, Nat.le_refl _, ?_⟩⟩⟩
  rintro r h2 ⟨rfl, w2, F2⟩
  have M2 : MD h2 A ci 14 N ni := MD_ch M1 F2 (nv_la w2) o9
  have w12 := fr_nv F2 w1 ne89
  have hx1 : bn b at9 23 < 268435456 ^ 14 := by
    obtain ⟨f, hf, hf2⟩ := he9
    refine Nat.lt_of_lt_of_le (bn_lt 23 (fun j _ hj => (hf2 j (by omega)).2)) ?_
    decide +kernel
  have hx2 : bn b (at9 + 23) 49 < 268435456 ^ 14 := by
    obtain ⟨f, hf, hf2⟩ := he9
    refine Nat.lt_of_lt_of_le (bn_lt 49 (fun j _ hj => (hf2 j (by omega)).2)) ?_
    decide +kernel
  have M2' := M2
  obtain ⟨⟨fs2, m02, f02, f12, f22, f32, f42, f52, f62, f72, f82⟩, _, _, _, _, _, m72, m82, _⟩ := M2'
  refine ⟨fs2, _, m02, f72, ⟨_, _, _, _, m72, by decide, rfl, 0, rfl, by decide, sp_rf (by decide), ⟨fs2, _, m02, f32, ⟨fs2, _, m02, f72, ⟨_, _, _, _, m72, by decide, rfl, 0, rfl, by decide, sp_rf (by decide), ⟨fs2, by rw [hif]; exact m02, 0, 0, _, v_ems hP M2 w12 (nv_la w12) hx1 ne86 o8, Nat.le_refl _, Nat.le_refl _, ?_⟩⟩⟩⟩⟩⟩
  rintro r h3 ⟨rfl, w3, M3, F3⟩
  have w23 := fr_nv F3 w2 s9
  have M3' := M3
  obtain ⟨⟨fs3, m03, f03, f13, f23, f33, f43, f53, f63, f73, f83⟩, _, _, _, _, _, m73, m83, _⟩ := M3'
  refine ⟨fs3, _, m03, f73, ⟨_, _, _, _, m73, by decide, rfl, 0, rfl, by decide, sp_rf (by decide), ⟨fs3, _, m03, f33, ⟨fs3, _, m03, f73, ⟨_, _, _, _, m73, by decide, rfl, 0, rfl, by decide, sp_rf (by decide), ⟨fs3, by rw [hif]; exact m03, 0, 0, _, v_ems hP M3 w3 (nv_la w3) (Nat.lt_trans (mt_lt p1) p2) ne86 o8, Nat.le_refl _, Nat.le_refl _, ?_⟩⟩⟩⟩⟩⟩
  rintro r h4 ⟨rfl, w4, M4, F4⟩
  have w24 := fr_nv F4 w23 s9
  have M4' := M4
  obtain ⟨⟨fs4, m04, f04, f14, f24, f34, f44, f54, f64, f74, f84⟩, _, _, _, _, _, m74, m84, _⟩ := M4'
  refine ⟨fs4, _, m04, f74, ⟨_, _, _, _, m74, by decide, rfl, 1, rfl, by decide, sp_rf (by decide), ⟨fs4, _, m04, f34, ⟨fs4, _, m04, f74, ⟨_, _, _, _, m74, by decide, rfl, 1, rfl, by decide, sp_rf (by decide), ⟨fs4, by rw [hif]; exact m04, 0, 0, _, v_ems hP M4 w24 (nv_la w24) hx2 ne96 o9, Nat.le_refl _, Nat.le_refl _, ?_⟩⟩⟩⟩⟩⟩
  rintro r h5 ⟨rfl, w5, M5, F5⟩
  have w45 := fr_nv F5 w4 s8
  have M5' := M5
  obtain ⟨⟨fs5, m05, f05, f15, f25, f35, f45, f55, f65, f75, f85⟩, _, _, _, _, _, m75, m85, _⟩ := M5'
  have lc5 : la h5 14 c := fr_la F5 (fr_la F4 (fr_la F3 (fr_la F2 (fr_la F1 hc (ocs 0 (by decide))) (ocs 1 (by decide))) (sC 0 (by decide))) (sC 0 (by decide))) (sC 1 (by decide))
  refine ⟨fs5, _, m05, f75, ⟨_, _, _, _, m75, by decide, rfl, 0, rfl, by decide, sp_rf (by decide), ⟨fs5, _, m05, f75, ⟨_, _, _, _, m75, by decide, rfl, 1, rfl, by decide, sp_rf (by decide), ⟨fs5, by rw [hif]; exact m05, 0, 0, _, v_add hP M5 w45 w5 lc5 oc, Nat.le_refl _, Nat.le_refl _, ?_⟩⟩⟩⟩⟩
  rintro r h6 ⟨rfl, w6, M6, F6⟩
  refine ⟨rfl, mv_cg w6 ?_, M6, ?_⟩
  · obtain ⟨k, hk⟩ := mt_e 14 (bn b at9 23 : Int) p1
    have e := bn_cut (b := b) (at9 := at9) (i := 23) 49
    have e2 : (256 : Nat) ^ 49 = 268435456 ^ 14 := by decide +kernel
    rw [show 72 = 23 + 49 from rfl, e, hk, e2, Int.natCast_add, Int.natCast_mul, Int.natCast_pow]
    rw [show ((268435456 : Nat) : Int) = 268435456 from rfl]
    generalize (268435456 : Int) ^ 14 = R
    rw [Int.add_right_comm, Int.add_mul_emod_self_left]
  · refine fr_trans (fr_trans (fr_trans (fr_trans (fr_trans (fr_mono F1 ?_) (fr_mono F2 ?_)) (fr_mono F3 ?_)) (fr_mono F4 ?_)) (fr_mono F5 ?_)) (fr_mono F6 ?_)
    · exact fun q hq => Or.inr (Or.inr ⟨0, by decide, hq⟩)
    · exact fun q hq => Or.inr (Or.inr ⟨1, by decide, hq⟩)
    · exact fun q hq => hq.elim (fun z => Or.inr (Or.inr ⟨0, by decide, z⟩)) (fun z => Or.inr (Or.inl z))
    · exact fun q hq => hq.elim (fun z => Or.inr (Or.inr ⟨0, by decide, z⟩)) (fun z => Or.inr (Or.inl z))
    · exact fun q hq => hq.elim (fun z => Or.inr (Or.inr ⟨1, by decide, z⟩)) (fun z => Or.inr (Or.inl z))
    · exact fun q hq => Or.inl hq
end
