/-! Curve.spread -/
theorem tb_g {X : Nat → Nat} {k : Nat} (h : k < 150) : va_rf ((fun j => if j < 150 then some (X (1001 + j)) else none) k) = .ref (X (1000 + (1 + k))) := by
  show va_rf (if k < 150 then some (X (1001 + k)) else none) = _
  rw [if_pos h, show 1000 + (1 + k) = 1001 + k by omega]; rfl
theorem CA_st {n : Nat} {X : Nat → Nat} {h : vm_H} {g : Nat → Option (Option (fq × fq))} (k : CA n X h g) : CSt n X h := by
  obtain ⟨u, _, s, _⟩ := k
  exact s
theorem CA_o {n : Nat} {X : Nat → Nat} {h : vm_H} {g : Nat → Option (Option (fq × fq))} (k : CA n X h g) {i : Nat} {p : Option (fq × fq)} (hi : i < n) (hp : g i = some p) : ecO (-3) (fz (cB : Int)) p := by
  obtain ⟨u, _, _, _, k4⟩ := k
  obtain ⟨_, _, _, _, _, _, _, o⟩ := k4 i hi p hp
  exact o
theorem gup_e {g : Nat → Option (Option (fq × fq))} {j : Nat} {p : Option (Option (fq × fq))} : gup g j p j = p := if_pos rfl
theorem gup_n {g : Nat → Option (Option (fq × fq))} {j k : Nat} {p : Option (Option (fq × fq))} (h : k ≠ j) : gup g j p k = g k := if_neg h
section
variable {l : Launch} {O : Nat → vm_Ob} {f9 : Value}
theorem a_spread {n : Nat} {X : Nat → Nat} {h : vm_H} {g : Nat → Option (Option (fq × fq))} {i pl : Nat} {p : Option (fq × fq)} (hk : CA n X h g) (hn : 151 ≤ n) (hi : i < n) (hpl : pl < 10) (hio : i = 0 ∨ 151 ≤ i) (hp : g i = some p) (hkn : ∀ m, 1 ≤ m → m ≤ 15 → ∃ q, g (15 * pl + m) = some q) :
    vm_Met (vm_env l O f9) mX2_spread 0 0 [.ref (X 24), .int (nI pl), .ref (X (1000 + i))] h (fun r h' => r = none ∧ (∃ g', CA n X h' g' ∧ (∀ m, 1 ≤ m → m ≤ 15 → g' (15 * pl + m) = some (ecM (-3) fiv m p)) ∧ ∀ k, k ≤ 15 * pl ∨ 15 * pl + 15 < k → g' k = g k) ∧ fr h h' (AG n X)) := by
  have op := CA_o hk hi hp
  have hk0 := hk
  obtain ⟨s1, s2, s3', s4, s5⟩ := CA_st hk
  have e0 : nI pl * 15 = nI (15 * pl) := by rw [show nI pl * 15 = nI (pl * 15) from nI_mul pl 15, Nat.mul_comm]
  refine vm_met rfl (Nat.le_of_ble_eq_true rfl) ?_
  refine vm_go rfl bX2_spread_0 oX2_spread_0 ?_
  show vm_sx _ _ _ _ _ _ _ _ _ _
  refine ⟨_, _, s1, rfl, ⟨_, _, _, _, s3', by decide, rfl, 15 * pl, e0, by omega, tb_g (by omega), ⟨_, s1, 0, 0, _, a_cpy hk hi (by omega) hp, Nat.zero_le _, Nat.zero_le _, ?_⟩⟩⟩
  rintro _ h1 ⟨rfl, k1, F1⟩
  have e1 : 15 * pl + 1 = 1 + 15 * pl := by omega
  refine vm_Th (lv' := [(0, .ref (X 24)), (1, .int (nI pl)), (2, .ref (X (1000 + i))), (3, .int (nI (15 * pl))), (4, .int (nI 2))]) (h' := h1) (by rw [← e0]; rfl) rfl ?_
  refine vm_while (σ := Nat × vm_H × (Nat → Option (Option (fq × fq)))) (fun z => 2 ≤ z.1 ∧ z.1 ≤ 16 ∧ CA n X z.2.1 z.2.2 ∧ (∀ m, 1 ≤ m → m < z.1 → z.2.2 (15 * pl + m) = some (ecM (-3) fiv m p)) ∧ (∀ m, 1 ≤ m → m ≤ 15 → ∃ q, z.2.2 (15 * pl + m) = some q) ∧ (∀ k, k ≤ 15 * pl ∨ 15 * pl + 15 < k → z.2.2 k = g k) ∧ fr h z.2.1 (AG n X)) (fun z => 16 - z.1) (fun z => [(0, .ref (X 24)), (1, .int (nI pl)), (2, .ref (X (1000 + i))), (3, .int (nI (15 * pl))), (4, .int (nI z.1))]) (fun z => z.2.1) ?_ (2, h1, gup g (1 + 15 * pl) (some p)) ⟨show 2 ≤ 2 by decide, show 2 ≤ 16 by decide, k1, ?_, ?_, ?_, F1⟩
  rotate_left
  · intro m m1 m2
    have : m = 1 := by have : m < 2 := m2; omega
    subst this
    show gup g (1 + 15 * pl) (some p) (15 * pl + 1) = _
    rw [e1, gup_e]; rfl
  · intro m m1 m2
    show ∃ q, gup g (1 + 15 * pl) (some p) (15 * pl + m) = _
    by_cases e : m = 1
    · exact ⟨p, by rw [e, e1, gup_e]⟩
    · rw [gup_n (by omega)]; exact hkn m m1 m2
  · intro k hk
    show gup g (1 + 15 * pl) (some p) k = g k
    rw [gup_n (by omega)]
  rintro ⟨k, h2, g2⟩ ⟨q1, q2, q3, q4, q5, q6, q7⟩ ih
  dsimp only at q1 q2 q3 q4 q5 q6 q7 ih ⊢
  obtain ⟨t1, t2, t3, t4, t5⟩ := CA_st q3
  rcases Nat.lt_or_ge 15 k with hk | hk
  · have : k = 16 := by omega
    subst this
    refine vm_go rfl bX2_spread_19 oX2_spread_19 ⟨fun _ => ?_, fun q => absurd (nI_lt (a := 15) (b := 16) (by decide) (by decide)) q⟩
    exact vm_go rfl bX2_spread_102 oX2_spread_102 ⟨rfl, ⟨g2, q3, fun m m1 m2 => q4 m m1 (by omega), q6⟩, q7⟩
  have er : nI k - nI k / 2 * 2 = nI (k % 2) := nI_rem (by omega) (by decide)
  have ed : nI k / 2 = nI (k / 2) := nI_div (by omega) (by decide)
  have ek : nI (15 * pl) + nI k - 1 = nI (15 * pl + k - 1) := by rw [nI_add]; exact nI_sub (b := 1) (by omega)
  have ek2 : nI (15 * pl) + nI k - 2 = nI (15 * pl + k - 2) := by rw [nI_add]; exact nI_sub (b := 2) (by omega)
  have eh : nI (15 * pl) + nI k / 2 - 1 = nI (15 * pl + k / 2 - 1) := by rw [ed, nI_add]; exact nI_sub (b := 1) (by omega)
  have eJ : 1 + (15 * pl + k - 1) = 15 * pl + k := by omega
  have nxt : ∀ h3, CA n X h3 (gup g2 (15 * pl + k) (some (ecM (-3) fiv k p))) → fr h2 h3 (AG n X) → vm_T (vm_env l O f9) mX2_spread 0 0 96 [(0, .ref (X 24)), (1, .int (nI pl)), (2, .ref (X (1000 + i))), (3, .int (nI (15 * pl))), (4, .int (nI k))] [] h3 (fun r h' => r = none ∧ (∃ g', CA n X h' g' ∧ (∀ m, 1 ≤ m → m ≤ 15 → g' (15 * pl + m) = some (ecM (-3) fiv m p)) ∧ ∀ k, k ≤ 15 * pl ∨ 15 * pl + 15 < k → g' k = g k) ∧ fr h h' (AG n X)) := by
    intro h3 k3 F3
    refine vm_go rfl bX2_spread_96 oX2_spread_96 ?_
    refine vm_Th (by rw [← nI_1]; rfl) rfl (ih (k + 1, h3, gup g2 (15 * pl + k) (some (ecM (-3) fiv k p))) ⟨by show 2 ≤ k + 1; omega, by show k + 1 ≤ 16; omega, k3, ?_, ?_, ?_, fr_trans q7 F3⟩ (by show 16 - (k + 1) < 16 - k; omega))
    · intro m m1 m2
      have m2 : m < k + 1 := m2
      show gup g2 (15 * pl + k) (some (ecM (-3) fiv k p)) (15 * pl + m) = _
      by_cases e : m = k
      · rw [e, gup_e]
      · rw [gup_n (by omega)]; exact q4 m m1 (by omega)
    · intro m m1 m2
      show ∃ q, gup g2 (15 * pl + k) (some (ecM (-3) fiv k p)) (15 * pl + m) = some q
      by_cases e : m = k
      · exact ⟨_, by rw [e, gup_e]⟩
      · rw [gup_n (by omega)]; exact q5 m m1 m2
    · intro m hm
      show gup g2 (15 * pl + k) (some (ecM (-3) fiv k p)) m = _
      rw [gup_n (by omega)]; exact q6 m hm
  refine vm_go rfl bX2_spread_19 oX2_spread_19 ⟨fun q => absurd q (nI_nlt (a := 15) (by omega) (by omega)), fun _ => ⟨by decide, ⟨fun q => ?_, fun q => ?_⟩⟩⟩
  · have q : ¬ nI k - nI k / 2 * 2 = 0 := q
    have hq : k % 2 ≠ 0 := fun z => q (by rw [er, z]; rfl)
    obtain ⟨p3, hp3⟩ := q5 k (by omega) (by omega)
    have c := a_add (l := l) (O := O) (f9 := f9) (i := 1 + (15 * pl + k - 2)) (j := 1 + 15 * pl) (k := 1 + (15 * pl + k - 1)) (p := ecM (-3) fiv (k - 1) p) (p2 := p) (p3 := p3) q3 (by omega) (by omega) (by omega) (by omega) (by omega) (by rw [show 1 + (15 * pl + k - 2) = 15 * pl + (k - 1) by omega]; exact q4 (k - 1) (by omega) (by omega)) (by rw [← e1]; exact q4 1 (by omega) (by omega)) (by rw [show 1 + (15 * pl + k - 1) = 15 * pl + k by omega]; exact hp3)
    refine vm_go rfl bX2_spread_64 oX2_spread_64 ⟨_, _, t1, rfl, ⟨_, _, _, _, t3, by decide, rfl, 15 * pl + k - 2, ek2, by omega, tb_g (by omega), ⟨_, _, t1, rfl, ⟨_, _, _, _, t3, by decide, rfl, 15 * pl, rfl, by omega, tb_g (by omega), ⟨_, _, t1, rfl, ⟨_, _, _, _, t3, by decide, rfl, 15 * pl + k - 1, ek, by omega, tb_g (by omega), ⟨_, t1, 0, 0, _, c, Nat.zero_le _, Nat.zero_le _, ?_⟩⟩⟩⟩⟩⟩⟩
    rintro _ h3 ⟨rfl, k3, F3⟩
    rw [eJ] at k3
    refine nxt h3 ?_ F3
    have e9 : ecA (-3) fiv (ecM (-3) fiv (k - 1) p) p = ecM (-3) fiv k p := by
      conv => rhs; rw [show k = (k - 1) + 1 by omega]
      rfl
    rw [← e9]; exact k3
  · have q : nI k - nI k / 2 * 2 = 0 := q
    have hq : k % 2 = 0 := by
      rcases Nat.eq_zero_or_pos (k % 2) with z | z
      · exact z
      · rw [er] at q; exact absurd q (nI_ne0 z (by omega))
    have c := a_twice (l := l) (O := O) (f9 := f9) (i := 1 + (15 * pl + k / 2 - 1)) (j := 1 + (15 * pl + k - 1)) (p := ecM (-3) fiv (k / 2) p) q3 (by omega) (by omega) (by rw [show 1 + (15 * pl + k / 2 - 1) = 15 * pl + k / 2 by omega]; exact q4 (k / 2) (by omega) (by omega))
    refine ⟨_, _, t1, rfl, ⟨by decide, ⟨_, _, _, _, t3, by decide, rfl, 15 * pl + k / 2 - 1, eh, by omega, tb_g (by omega), ⟨_, _, t1, rfl, ⟨_, _, _, _, t3, by decide, rfl, 15 * pl + k - 1, ek, by omega, tb_g (by omega), ⟨_, t1, 0, 0, _, c, Nat.zero_le _, Nat.zero_le _, ?_⟩⟩⟩⟩⟩⟩
    rintro _ h3 ⟨rfl, k3, F3⟩
    rw [eJ] at k3
    refine nxt h3 ?_ F3
    have e9 : ecA (-3) fiv (ecM (-3) fiv (k / 2) p) (ecM (-3) fiv (k / 2) p) = ecM (-3) fiv k p := by
      rw [← ecM_add cK op]; congr 1; omega
    rw [← e9]; exact k3
end
