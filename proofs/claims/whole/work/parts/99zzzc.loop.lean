/-! the law: its loop and its beginning -/
section
variable {l : Launch} {O : Nat → vm_Ob} {f9 : Value} {v L : Nat} {t : KT} {xs : Nat → Int32}
theorem J_up {n : Nat} {h : vm_H} (J : JS v L xs t n h) (hn : n < 512) : JS v L xs t (n + 1) h := by
  obtain ⟨th, w, ou, kn, an, rd, ke, ae, kf, af, D, dn, wl, wr, M, R, ev, sc, oc, b1, b2, b3, c0, hv⟩ := J
  exact ⟨th, w, ou, kn, an, rd, ke, ae, kf, af, D, dn, wl, wr, M, R, ev, sc, oc, b1, b2, ⟨by omega, by omega, by omega⟩, by omega, hv⟩
theorem law_loop {Q : Option Value → vm_H → Prop} (hl : l.stackTraces = false) (h9 : f9.category = 1) (hL : L ≤ 3072) (hQ : ∀ h, Q (some (.int 1)) h) : ∀ d n, n + d = 512 → ∀ h, JS v L xs t n h → vm_T (vm_env l O f9) mL_law (27 * d) (2134 * d) 23 [(0, .ref 1099511627776), (1, .ref v), (2, .ref (v + 750)), (3, .ref (v + 1002)), (4, .int (nI (6 * n)))] [] h Q := by
  intro d
  induction d with
  | zero =>
    intro n hn h J
    obtain ⟨_, _, sc⟩ := J_v J
    have eL : nI L - 6 = iZ ((L : Int) - 6) := by rw [iZ_nI]; exact iZ_sub _ 6
    have e6 : nI (6 * n) = iZ (((6 * n : Nat) : Int)) := iZ_nI _
    have gt9 : iZ ((L : Int) - 6) < nI (6 * n) := by
      rw [e6, iZ_lt (by omega) (by omega) (by omega) (by omega)]; omega
    refine vm_go rfl bL_law_23 oL_law_23 ⟨_, (L, .inl xs), sc, by decide, ⟨fun _ => ?_, fun q => absurd (show nI L - 6 < nI (6 * n) by rw [eL]; exact gt9) q⟩⟩
    exact vm_go rfl bL_law_768 oL_law_768 ⟨rfl, hQ h⟩
  | succ d ih =>
    intro n hn h J
    obtain ⟨_, _, sc⟩ := J_v J
    have eL : nI L - 6 = iZ ((L : Int) - 6) := by rw [iZ_nI]; exact iZ_sub _ 6
    have e6 : nI (6 * n) = iZ (((6 * n : Nat) : Int)) := iZ_nI _
    by_cases hi : 6 * n + 6 ≤ L
    case neg =>
      have gt9 : iZ ((L : Int) - 6) < nI (6 * n) := by
        rw [e6, iZ_lt (by omega) (by omega) (by omega) (by omega)]; omega
      refine vm_go rfl bL_law_23 oL_law_23 ⟨_, (L, .inl xs), sc, by decide, ⟨fun _ => ?_, fun q => absurd (show nI L - 6 < nI (6 * n) by rw [eL]; exact gt9) q⟩⟩
      exact vm_go rfl bL_law_768 oL_law_768 ⟨rfl, hQ h⟩
    have le9 : ¬ iZ ((L : Int) - 6) < nI (6 * n) := by
      rw [e6, iZ_lt (by omega) (by omega) (by omega) (by omega)]; omega
    have nx : ∀ h2, JS v L xs t (n + 1) h2 → vm_T (vm_env l O f9) mL_law (27 * d) (2134 * d) 762 [(0, .ref 1099511627776), (1, .ref v), (2, .ref (v + 750)), (3, .ref (v + 1002)), (4, .int (nI (6 * n)))] [] h2 Q := fun h2 J2 => by
      refine vm_go rfl bL_law_762 oL_law_762 (vm_Th ?_ rfl (ih (n + 1) (by omega) h2 J2))
      rw [show 6 * (n + 1) = 6 * n + 6 by omega, ← nI_add]; rfl
    refine vm_go rfl bL_law_23 oL_law_23 ⟨_, (L, .inl xs), sc, by decide, ⟨fun q => absurd (show nI L - 6 < nI (6 * n) from q) (by rw [eL]; exact le9), fun _ => ⟨L, xs, sc, 6 * n, rfl, by omega, fun _ => ?_⟩⟩⟩
    obtain ⟨y, hy, eY⟩ := and_31 (xs (6 * n))
    have ey : (xs (6 * n) &&& 31).toInt = (y : Int) := by rw [eY, iZ_nI]; exact iZ_toInt (by omega) (by omega)
    rcases (show y = 0 ∨ y = 1 ∨ y = 2 ∨ y = 3 ∨ y = 4 ∨ y = 5 ∨ y = 6 ∨ y = 7 ∨ y = 8 ∨ y = 9 ∨ y = 10 ∨ y = 11 ∨ y = 12 ∨ y = 13 ∨ y = 14 ∨ y = 15 ∨ y = 16 ∨ y = 17 ∨ y = 18 ∨ 19 ≤ y by omega) with rfl | rfl | rfl | rfl | rfl | rfl | rfl | rfl | rfl | rfl | rfl | rfl | rfl | rfl | rfl | rfl | rfl | rfl | rfl | hy2
    · exact ⟨132, .inr ⟨by rw [ey]; decide, by rw [ey]; decide, 92, by rw [ey]; rfl, rfl⟩, ca_0 h9 (by omega) (by omega) hL J nx⟩
    · exact ⟨205, .inr ⟨by rw [ey]; decide, by rw [ey]; decide, 165, by rw [ey]; rfl, rfl⟩, ca_1 h9 (by omega) (by omega) hL J nx⟩
    · exact ⟨230, .inr ⟨by rw [ey]; decide, by rw [ey]; decide, 190, by rw [ey]; rfl, rfl⟩, ca_2 h9 (by omega) (by omega) hL J nx⟩
    · exact ⟨267, .inr ⟨by rw [ey]; decide, by rw [ey]; decide, 227, by rw [ey]; rfl, rfl⟩, ca_3 h9 (by omega) (by omega) hL J nx⟩
    · exact ⟨292, .inr ⟨by rw [ey]; decide, by rw [ey]; decide, 252, by rw [ey]; rfl, rfl⟩, ca_4 h9 (by omega) (by omega) hL J nx⟩
    · exact ⟨305, .inr ⟨by rw [ey]; decide, by rw [ey]; decide, 265, by rw [ey]; rfl, rfl⟩, ca_5 h9 (by omega) (by omega) hL J nx⟩
    · exact ⟨330, .inr ⟨by rw [ey]; decide, by rw [ey]; decide, 290, by rw [ey]; rfl, rfl⟩, ca_6 hl h9 (by omega) (by omega) hL J nx⟩
    · exact ⟨393, .inr ⟨by rw [ey]; decide, by rw [ey]; decide, 353, by rw [ey]; rfl, rfl⟩, ca_7 hl h9 (by omega) (by omega) hL J nx⟩
    · exact ⟨461, .inr ⟨by rw [ey]; decide, by rw [ey]; decide, 421, by rw [ey]; rfl, rfl⟩, ca_8 h9 (by omega) (by omega) hL J nx⟩
    · exact ⟨474, .inr ⟨by rw [ey]; decide, by rw [ey]; decide, 434, by rw [ey]; rfl, rfl⟩, ca_9 h9 (by omega) (by omega) hL J nx⟩
    · exact ⟨499, .inr ⟨by rw [ey]; decide, by rw [ey]; decide, 459, by rw [ey]; rfl, rfl⟩, ca_10 h9 (by omega) (by omega) hL J nx⟩
    · exact ⟨512, .inr ⟨by rw [ey]; decide, by rw [ey]; decide, 472, by rw [ey]; rfl, rfl⟩, ca_11 h9 (by omega) (by omega) hL J nx⟩
    · exact ⟨537, .inr ⟨by rw [ey]; decide, by rw [ey]; decide, 497, by rw [ey]; rfl, rfl⟩, ca_12 hl h9 (by omega) (by omega) hL J nx⟩
    · exact ⟨593, .inr ⟨by rw [ey]; decide, by rw [ey]; decide, 553, by rw [ey]; rfl, rfl⟩, ca_13 hl h9 (by omega) (by omega) hL J nx⟩
    · exact ⟨661, .inr ⟨by rw [ey]; decide, by rw [ey]; decide, 621, by rw [ey]; rfl, rfl⟩, ca_14 h9 (by omega) (by omega) hL J nx⟩
    · exact ⟨674, .inr ⟨by rw [ey]; decide, by rw [ey]; decide, 634, by rw [ey]; rfl, rfl⟩, ca_15 h9 (by omega) (by omega) hL J nx⟩
    · exact ⟨699, .inr ⟨by rw [ey]; decide, by rw [ey]; decide, 659, by rw [ey]; rfl, rfl⟩, ca_16 h9 (by omega) (by omega) hL J nx⟩
    · exact ⟨712, .inr ⟨by rw [ey]; decide, by rw [ey]; decide, 672, by rw [ey]; rfl, rfl⟩, ca_17 h9 (by omega) (by omega) hL J nx⟩
    · exact ⟨737, .inr ⟨by rw [ey]; decide, by rw [ey]; decide, 697, by rw [ey]; rfl, rfl⟩, ca_18 h9 (by omega) (by omega) hL J nx⟩
    · refine ⟨762, .inl ⟨.inr (by rw [ey]; omega), rfl⟩, ?_⟩
      exact vm_more (nx h (J_up J (by omega))) (by omega) (by omega)
end
