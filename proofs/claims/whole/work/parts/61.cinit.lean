/-! the constructor of Curve -/
/-- a String from before -/
def sto (h : vm_H) (s n : Nat) (c : Nat → Nat) : Prop := 1099511627776 ≤ s ∧ ∃ v : Nat, 1099511627776 ≤ v ∧ h.2 s = .inr (500, [.ref v, .int 0]) ∧ bv h n v c
theorem sto_fr {h h' : vm_H} {s n : Nat} {c : Nat → Nat} (k : sto h s n c) (e : ∀ q, 1099511627776 ≤ q → h'.2 q = h.2 q) : sto h' s n c := by
  obtain ⟨k1, v, k2, k3, f, k4, k5⟩ := k
  exact ⟨k1, v, k2, (e s k1).trans k3, f, (e v k2).trans k4, k5⟩
theorem sto_s {h : vm_H} {s n : Nat} {c : Nat → Nat} (k : sto h s n c) : str h s n c := by
  obtain ⟨k1, v, k2, k3, k4⟩ := k
  exact ⟨v, k3, k4⟩
section
variable {l : Launch} {O : Nat → vm_Ob} {f9 : Value}
theorem s_hexo {h : vm_H} {s n : Nat} {c : Nat → Nat} (h9 : f9.category = 1) (hs : sto h s (2 * n) c) (hn : n < 1000) (hc : ∀ j, j < 2 * n → 48 ≤ c j ∧ (c j ≤ 57 ∨ 97 ≤ c j) ∧ c j ≤ 102) (hh : h.1 + 1 < 1099511627776) :
    vm_Met (vm_env l O f9) mX2_hex 1 n [.ref s] h (fun r h' => r = some (.ref h.1) ∧ h'.1 = h.1 + 1 ∧ bv h' n h.1 (hxb c) ∧ ∀ q, q ≠ h.1 → h'.2 q = h.2 q) := by
  refine s_hex h9 (sto_s hs) hs.1 hn hc hh (fun v hv => ?_)
  obtain ⟨k1, w, k2, k3, k4⟩ := hs
  rw [k3] at hv
  have : w = v := by injection hv with e; injection e with _ e; injection e with e _; injection e
  rw [← this]; exact k2
theorem ci_1 {h : vm_H} {C : Nat} {v0 v1 v2 v3 v4 v5 v6 v7 v8 v9 v10 : Value} {Q : Option Value → vm_H → Prop} (h9 : f9.category = 1) (hC : h.2 C = .inr (2, [v0, v1, v2, v3, v4, v5, v6, v7, v8, v9, v10])) (hC1 : C < h.1) (hh : h.1 + 1000 < 1099511627776) (sP : sto h 1099511627806 (2 * 48) tP) (sR : sto h 1099511627808 (2 * 48) tR)
    (K : ∀ (h1 : vm_H) (ni ri : Nat), h1.1 = h.1 + 30 → h1.2 C = .inr (2, [.ref h.1, .ref (h.1 + 25), .ref (h.1 + 29), v3, v4, v5, v6, v7, v8, v9, v10]) → MP (Am h.1 (h.1 + 2)) 3 14 cP ni ri → MD h1 (Am h.1 (h.1 + 2)) 3 14 cP ni → h1.2 (h.1 + 25) = .inr (8, [.ref (h.1 + 26), .ref (h.1 + 27), .ref (h.1 + 28)]) → (∀ i, i < 3 → h1.2 (h.1 + 26 + i) = .inl (.long, 14, .inr (.inl (fun _ => 0)))) → bv h1 48 (h.1 + 29) (hxb tR) → (∀ q, q < h.1 ∨ 1099511627776 ≤ q → q ≠ C → h1.2 q = h.2 q) → vm_T (vm_env l O f9) mX2_init 618 7201 47 [(0, .ref C)] [] h1 Q) :
    vm_T (vm_env l O f9) mX2_init 648 7689 0 [(0, .ref C)] [] h Q := by
  have hCo : C < 1099511627776 := by omega
  refine vm_go rfl bX2_initx_0 oX2_initx_0 ⟨by decide, by decide, by omega, ?_⟩
  generalize hq1 : vm_nw h (.inr (3, vm_df 3)) = h1
  have c1 : h1.1 = h.1 + 1 := by rw [← hq1]; rfl
  have a1 : h1.2 h.1 = .inr (3, vm_df 3) := by rw [← hq1]; exact nw_e
  have u1 : ∀ q, q ≠ h.1 → h1.2 q = h.2 q := fun q hq => by rw [← hq1]; exact nw_n hq
  clear hq1
  refine ⟨1, 48, _, s_hexo h9 (sto_fr sP (fun q hq => u1 q (by omega))) (by decide) tP_ok (by omega), by decide, by decide, ?_⟩
  rintro _ h2 ⟨rfl, c2, b2, u2⟩
  have a2 : h2.2 h.1 = .inr (3, vm_df 3) := (u2 _ (by omega)).trans a1
  refine ⟨23, 338, _, v_new3 a2 (by omega) b2 (Or.inl (by omega)) (by omega) tP_n, by decide, by decide, ?_⟩
  rintro _ h3 ⟨rfl, c3, ⟨ni, ri, hP, hM3⟩, u3⟩
  rw [show h2.1 = h.1 + 2 by omega] at hP hM3
  have C3 : h3.2 C = .inr (2, [v0, v1, v2, v3, v4, v5, v6, v7, v8, v9, v10]) := by
    rw [u3 _ (Or.inl (by omega)) (by omega), u2 _ (by omega), u1 _ (by omega)]; exact hC
  refine np_p (idx := 0) C3 hCo (show 0 < 11 by decide) trivial ?_
  intro h4 c4 m4 u4
  have m4 : h4.2 C = .inr (2, [.ref h.1, v1, v2, v3, v4, v5, v6, v7, v8, v9, v10]) := m4
  have hM4 : MD h4 (Am h.1 (h.1 + 2)) 3 14 cP ni := MD_cg hM3 (fun i hi _ => u4 _ (by
    have := Am_lt (m := h.1) (e := h.1 + 2) (i := i) (by omega) hi
    unfold Am
    split
    · omega
    · split
      · omega
      · split <;> omega))
  obtain ⟨⟨ff, f0, f1, _⟩, _⟩ := id hM4
  have f0 : h4.2 h.1 = .inr (3, ff) := f0
  refine ⟨by decide, by decide, by omega, ?_⟩
  generalize hq5 : vm_nw h4 (.inr (8, vm_df 8)) = h5
  have c5 : h5.1 = h.1 + 26 := by rw [← hq5]; show h4.1 + 1 = _; omega
  have e4 : h4.1 = h.1 + 25 := by omega
  have a5 : h5.2 (h.1 + 25) = .inr (8, [.null, .null, .null]) := by rw [← hq5, ← e4]; exact nw_e
  have u5 : ∀ q, q ≠ h.1 + 25 → h5.2 q = h4.2 q := fun q hq => by rw [← hq5]; exact nw_n (by omega)
  rw [e4]
  clear hq5
  refine ⟨_, _, (u5 _ (by omega)).trans m4, rfl, ⟨_, _, (u5 _ (by omega)).trans f0, f1, ⟨3, 42, _, v_point (L := 14) a5 (by omega) (by decide) (by omega), by decide, by decide, ?_⟩⟩⟩
  rintro _ h6 ⟨rfl, c6, a6, z6, u6⟩
  have m6 : h6.2 C = .inr (2, [.ref h.1, v1, v2, v3, v4, v5, v6, v7, v8, v9, v10]) := by
    rw [u6 _ (by omega) (by omega), u5 _ (by omega)]; exact m4
  refine np_p (idx := 0) m6 hCo (show 1 < 11 by decide) trivial ?_
  intro h7 c7 m7 u7
  have m7 : h7.2 C = .inr (2, [.ref h.1, .ref (h.1 + 25), v2, v3, v4, v5, v6, v7, v8, v9, v10]) := m7
  have old7 : ∀ q, q < h.1 ∨ 1099511627776 ≤ q → q ≠ C → h7.2 q = h.2 q := by
    intro q hq hqC
    rw [u7 _ hqC, u6 _ (by omega) (by omega), u5 _ (by omega), u4 _ hqC, u3 _ (by omega) (by omega), u2 _ (by omega), u1 _ (by omega)]
  refine ⟨1, 48, _, s_hexo h9 (sto_fr sR (fun q hq => old7 q (Or.inr hq) (by omega))) (by decide) tR_ok (by omega), by decide, by decide, ?_⟩
  rintro _ h8 ⟨rfl, c8, b8, u8⟩
  have e7 : h7.1 = h.1 + 29 := by omega
  rw [e7] at b8 u8 c8
  rw [e7]
  have m8 := (u8 C (by omega)).trans m7
  refine np_p (idx := 0) m8 hCo (show 2 < 11 by decide) trivial ?_
  intro h10 c10 m10 u10
  have m10 : h10.2 C = .inr (2, [.ref h.1, .ref (h.1 + 25), .ref (h.1 + 29), v3, v4, v5, v6, v7, v8, v9, v10]) := m10
  refine K h10 ni ri (by omega) m10 hP ?_ ?_ ?_ ?_ ?_
  · refine MD_cg hM4 (fun i hi _ => ?_)
    have k1 := Am_lt (m := h.1) (e := h.1 + 2) (i := i) (by omega) hi
    have k2 : Am h.1 (h.1 + 2) i ≠ C := by
      unfold Am
      split
      · omega
      · split
        · omega
        · split <;> omega
    rw [u10 _ k2, u8 _ (by omega), u7 _ k2, u6 _ (by omega) (by omega), u5 _ (by omega)]
  · rw [u10 _ (by omega), u8 _ (by omega), u7 _ (by omega), a6, c5]
  · intro i hi
    have := z6 i hi
    rw [c5] at this
    rw [u10 _ (by omega), u8 _ (by omega), u7 _ (by omega)]
    exact this
  · obtain ⟨f, b1, b2⟩ := b8
    exact ⟨f, (u10 _ (by omega)).trans b1, b2⟩
  · intro q hq hqC
    rw [u10 _ hqC, u8 _ (by omega)]
    exact old7 q hq hqC
end
section
variable {l : Launch} {O : Nat → vm_Ob} {f9 : Value}
theorem ci_2 {h : vm_H} {C e w0 rb : Nat} {ff : List Value} {v3 v4 v5 v6 v7 v8 v9 v10 : Value} {Q : Option Value → vm_H → Prop} (m0 : h.2 C = .inr (2, [.ref e, .ref w0, .ref rb, v3, v4, v5, v6, v7, v8, v9, v10])) (hC1 : C < h.1) (he : e < h.1) (hCe : C ≠ e) (g0 : h.2 e = .inr (3, ff)) (f1 : ff[0]? = some (.int (nI 14))) (hh : h.1 + 900 < 1099511627776)
    (K : ∀ h1 : vm_H, h1.1 = h.1 + 6 → h1.2 C = .inr (2, [.ref e, .ref w0, .ref rb, .ref h.1, .ref (h.1 + 1), .ref (h.1 + 2), .ref (h.1 + 3), .ref (h.1 + 4), .ref (h.1 + 5), v9, v10]) → (∀ i, i < 6 → h1.2 (h.1 + i) = .inl (.long, 14, .inr (.inl (fun _ => 0)))) → (∀ q, q < h.1 ∨ 1099511627776 ≤ q → q ≠ C → h1.2 q = h.2 q) → vm_T (vm_env l O f9) mX2_init 612 7117 125 [(0, .ref C)] [] h1 Q) :
    vm_T (vm_env l O f9) mX2_init 618 7201 47 [(0, .ref C)] [] h Q := by
  refine vm_go rfl bX2_initx_47 oX2_initx_47 ?_
  refine ⟨_, _, m0, rfl, ⟨_, _, g0, f1, ?_⟩⟩
  refine np_L (idx := 0) (N := 14) rfl (by decide) (by decide) (by decide) (by omega) m0 (by omega) (show 3 < 11 by decide) ?_
  rintro h1 ⟨c1, m1, a1, u1⟩
  have m1 : h1.2 C = .inr (2, [.ref e, .ref w0, .ref rb, .ref h.1, v4, v5, v6, v7, v8, v9, v10]) := m1
  have g1 := (u1 e (by omega) (by omega)).trans g0
  refine ⟨_, _, m1, rfl, ⟨_, _, g1, f1, ?_⟩⟩
  refine np_L (idx := 0) (N := 14) rfl (by decide) (by decide) (by decide) (by omega) m1 (by omega) (show 4 < 11 by decide) ?_
  rintro h2 ⟨c2, m2, a2, u2⟩
  have m2 : h2.2 C = .inr (2, [.ref e, .ref w0, .ref rb, .ref h.1, .ref h1.1, v5, v6, v7, v8, v9, v10]) := m2
  have g2 := (u2 e (by omega) (by omega)).trans g1
  refine ⟨_, _, m2, rfl, ⟨_, _, g2, f1, ?_⟩⟩
  refine np_L (idx := 0) (N := 14) rfl (by decide) (by decide) (by decide) (by omega) m2 (by omega) (show 5 < 11 by decide) ?_
  rintro h3 ⟨c3, m3, a3, u3⟩
  have m3 : h3.2 C = .inr (2, [.ref e, .ref w0, .ref rb, .ref h.1, .ref h1.1, .ref h2.1, v6, v7, v8, v9, v10]) := m3
  have g3 := (u3 e (by omega) (by omega)).trans g2
  refine ⟨_, _, m3, rfl, ⟨_, _, g3, f1, ?_⟩⟩
  refine np_L (idx := 0) (N := 14) rfl (by decide) (by decide) (by decide) (by omega) m3 (by omega) (show 6 < 11 by decide) ?_
  rintro h4 ⟨c4, m4, a4, u4⟩
  have m4 : h4.2 C = .inr (2, [.ref e, .ref w0, .ref rb, .ref h.1, .ref h1.1, .ref h2.1, .ref h3.1, v7, v8, v9, v10]) := m4
  have g4 := (u4 e (by omega) (by omega)).trans g3
  refine ⟨_, _, m4, rfl, ⟨_, _, g4, f1, ?_⟩⟩
  refine np_L (idx := 0) (N := 14) rfl (by decide) (by decide) (by decide) (by omega) m4 (by omega) (show 7 < 11 by decide) ?_
  rintro h5 ⟨c5, m5, a5, u5⟩
  have m5 : h5.2 C = .inr (2, [.ref e, .ref w0, .ref rb, .ref h.1, .ref h1.1, .ref h2.1, .ref h3.1, .ref h4.1, v8, v9, v10]) := m5
  have g5 := (u5 e (by omega) (by omega)).trans g4
  refine ⟨_, _, m5, rfl, ⟨_, _, g5, f1, ?_⟩⟩
  refine np_L (idx := 0) (N := 14) rfl (by decide) (by decide) (by decide) (by omega) m5 (by omega) (show 8 < 11 by decide) ?_
  rintro h6 ⟨c6, m6, a6, u6⟩
  have m6 : h6.2 C = .inr (2, [.ref e, .ref w0, .ref rb, .ref h.1, .ref h1.1, .ref h2.1, .ref h3.1, .ref h4.1, .ref h5.1, v9, v10]) := m6
  have g6 := (u6 e (by omega) (by omega)).trans g5
  have e1 : h1.1 = h.1 + 1 := by omega
  have e2 : h2.1 = h.1 + 2 := by omega
  have e3 : h3.1 = h.1 + 3 := by omega
  have e4 : h4.1 = h.1 + 4 := by omega
  have e5 : h5.1 = h.1 + 5 := by omega
  rw [e1, e2, e3, e4, e5] at m6
  refine K h6 (by omega) m6 (fun i hi => ?_) (fun q hq hqC => ?_)
  · rcases i with _ | _ | _ | _ | _ | _ | i
    · show h6.2 h.1 = _
      rw [u6 _ (by omega) (by omega), u5 _ (by omega) (by omega), u4 _ (by omega) (by omega), u3 _ (by omega) (by omega), u2 _ (by omega) (by omega), a1]
    · show h6.2 (h.1 + 1) = _
      rw [← e1, u6 _ (by omega) (by omega), u5 _ (by omega) (by omega), u4 _ (by omega) (by omega), u3 _ (by omega) (by omega), a2]
    · show h6.2 (h.1 + 2) = _
      rw [← e2, u6 _ (by omega) (by omega), u5 _ (by omega) (by omega), u4 _ (by omega) (by omega), a3]
    · show h6.2 (h.1 + 3) = _
      rw [← e3, u6 _ (by omega) (by omega), u5 _ (by omega) (by omega), a4]
    · show h6.2 (h.1 + 4) = _
      rw [← e4, u6 _ (by omega) (by omega), a5]
    · show h6.2 (h.1 + 5) = _
      rw [← e5, a6]
    · omega
  · rw [u6 _ hqC (by omega), u5 _ hqC (by omega), u4 _ hqC (by omega), u3 _ hqC (by omega), u2 _ hqC (by omega), u1 _ hqC (by omega)]
theorem ci_3 {h : vm_H} {C e : Nat} {ff : List Value} {v1 v2 v3 v4 v5 v6 v7 v8 v9 v10 : Value} {Q : Option Value → vm_H → Prop} (m0 : h.2 C = .inr (2, [.ref e, v1, v2, v3, v4, v5, v6, v7, v8, v9, v10])) (hC1 : C < h.1) (he : e < h.1) (hCe : C ≠ e) (g0 : h.2 e = .inr (3, ff)) (f1 : ff[0]? = some (.int (nI 14))) (hh : h.1 + 900 < 1099511627776)
    (K : ∀ h1 : vm_H, h1.1 = h.1 + 10 → h1.2 C = .inr (2, [.ref e, v1, v2, v3, v4, v5, v6, v7, v8, .ref h.1, .ref (h.1 + 9)]) → h1.2 h.1 = .inl (.array .long, 8, .inr (.inr (.inr (.inr (fun j => if j < 8 then some (h.1 + 1 + j) else none))))) → (∀ i, i < 8 → h1.2 (h.1 + 1 + i) = .inl (.long, 14, .inr (.inl (fun _ => 0)))) → h1.2 (h.1 + 9) = .inl (.object "VeilMint$Point", 150, .inr (.inr (.inr (.inr (fun _ => none))))) → (∀ q, q < h.1 ∨ 1099511627776 ≤ q → q ≠ C → h1.2 q = h.2 q) → vm_T (vm_env l O f9) mX2_init 602 6847 152 [(0, .ref C)] [] h1 Q) :
    vm_T (vm_env l O f9) mX2_init 612 7117 125 [(0, .ref C)] [] h Q := by
  have hCo : C < 1099511627776 := by omega
  refine vm_go rfl bX2_initx_125 oX2_initx_125 ⟨_, _, m0, rfl, ⟨_, _, g0, f1, ⟨8, 14, rfl, rfl, by decide, by decide, by decide, by decide, by omega, ?_⟩⟩⟩
  generalize hq : vm_nm h 8 _ _ = h1
  have m1 : h1.2 C = .inr (2, [.ref e, v1, v2, v3, v4, v5, v6, v7, v8, v9, v10]) := by
    rw [← hq]
    show (if C = h.1 then _ else if h.1 < C ∧ C ≤ h.1 + 8 then _ else h.2 C) = _
    rw [if_neg (by omega), if_neg (by omega)]; exact m0
  have c1 : h1.1 = h.1 + 9 := by rw [← hq]; show h.1 + 1 + 8 = _; omega
  have a1 : h1.2 h.1 = .inl (.array .long, 8, .inr (.inr (.inr (.inr (fun j => if j < 8 then some (h.1 + 1 + j) else none))))) := by
    rw [← hq]; exact if_pos rfl
  have r1 : ∀ j, j < 8 → h1.2 (h.1 + 1 + j) = .inl (.long, 14, .inr (.inl (fun _ => 0))) := by
    intro j hj
    rw [← hq]
    show (if h.1 + 1 + j = h.1 then _ else if h.1 < h.1 + 1 + j ∧ h.1 + 1 + j ≤ h.1 + 8 then _ else _) = _
    rw [if_neg (by omega), if_pos (by omega)]
  have u1 : ∀ q, q < h.1 ∨ h.1 + 9 ≤ q → h1.2 q = h.2 q := by
    intro q hq2
    rw [← hq]
    show (if q = h.1 then _ else if h.1 < q ∧ q ≤ h.1 + 8 then _ else h.2 q) = _
    rw [if_neg (by omega), if_neg (by omega)]
  clear hq
  refine np_p (idx := 0) m1 hCo (show 9 < 11 by decide) trivial ?_
  intro h2 c2 m2 u2
  have m2 : h2.2 C = .inr (2, [.ref e, v1, v2, v3, v4, v5, v6, v7, v8, .ref h.1, v10]) := m2
  refine ⟨150, rfl, by decide, by decide, by decide, by omega, ?_⟩
  generalize hq3 : vm_nw h2 _ = h3
  have e2 : h2.1 = h.1 + 9 := by omega
  have a3 : h3.2 (h.1 + 9) = .inl (.object "VeilMint$Point", 150, .inr (.inr (.inr (.inr (fun _ => none))))) := by rw [← hq3, ← e2]; exact nw_e
  have u3 : ∀ q, q ≠ h.1 + 9 → h3.2 q = h2.2 q := fun q hq => by rw [← hq3]; exact nw_n (by omega)
  have c3 : h3.1 = h.1 + 10 := by rw [← hq3]; show h2.1 + 1 = _; omega
  rw [e2]
  clear hq3
  refine np_p (idx := 0) ((u3 _ (by omega)).trans m2) hCo (show 10 < 11 by decide) trivial ?_
  intro h4 c4 m4 u4
  have m4 : h4.2 C = .inr (2, [.ref e, v1, v2, v3, v4, v5, v6, v7, v8, .ref h.1, .ref (h.1 + 9)]) := m4
  refine K h4 (by omega) m4 ?_ ?_ ?_ ?_
  · rw [u4 _ (by omega), u3 _ (by omega), u2 _ (by omega), a1]
  · intro i hi
    rw [u4 _ (by omega), u3 _ (by omega), u2 _ (by omega), r1 i hi]
  · rw [u4 _ (by omega), a3]
  · intro q hq hqC
    rw [u4 _ hqC, u3 _ (by omega), u2 _ hqC, u1 _ (by omega)]
end
