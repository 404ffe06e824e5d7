/-! the law from its beginning -/
section
variable {l : Launch} {O : Nat → vm_Ob} {f9 : Value} {v L : Nat} {t : KT} {xs : Nat → Int32} {h : vm_H}
theorem law_T {Q : Option Value → vm_H → Prop} (hl : l.stackTraces = false) (h9 : f9.category = 1) (hL : L ≤ 3072) (hQ : ∀ h, Q (some (.int 1)) h) (c0 : h.1 = v) (hv : v + 100000 < 1099511627776) (sv : SV h) (ev : EV t.1 t.2.1 t.2.2.1 t.2.2.2 h) (rv : RV h) (rt : RT h t) (gx : wv h 12 1099511627784 12 cGX) (gy : wv h 12 1099511627785 12 cGY) (sc : h.2 1099511627776 = .inl (.int, L, .inl xs)) : vm_T (vm_env l O f9) mL_law 601024 7293034 0 [(0, .ref 1099511627776)] [] h Q := by
  refine vm_go rfl bL_law_0 oL_law_0 ⟨by decide, by decide, by omega, ?_⟩
  generalize hq1 : vm_nw h _ = g1
  have gc1 : g1.1 = v + 1 := by rw [← hq1]; show h.1 + 1 = _; omega
  have ga1 : g1.2 v = .inr (11, vm_df 11) := by rw [← hq1, ← c0]; exact nw_e
  have gu1 : ∀ q, q ≠ v → g1.2 q = h.2 q := fun q z => by rw [← hq1]; exact nw_n (by omega)
  clear hq1
  rw [c0]
  refine ⟨749, 21901, _, v_mint (st3 := t.2.2.1) (kk3 := t.2.2.2) h9 ga1 gc1 (by omega) (SV_fr sv (fun q hq => gu1 q (by omega))), by decide, by decide, ?_⟩
  rintro _ h1 ⟨rfl, c1, MV1, u1⟩
  have o1 : ∀ q, 1099511627776 ≤ q → h1.2 q = h.2 q := fun q hq => (u1 q (by omega) (Or.inr hq)).trans (gu1 q (by omega))
  refine vm_Th (lv' := [(0, .ref 1099511627776), (1, .ref v)]) (h' := h1) rfl rfl ?_
  refine vm_go rfl bL_law_8 oL_law_8 ⟨by decide, by decide, by omega, ?_⟩
  generalize hq2 : vm_nw h1 _ = g2
  have gc2 : g2.1 = v + 750 + 1 := by rw [← hq2]; show h1.1 + 1 = _; omega
  have ga2 : g2.2 (v + 750) = .inr (14, vm_df 14) := by rw [← hq2, ← c1]; exact nw_e
  have gu2 : ∀ q, q ≠ v + 750 → g2.2 q = h1.2 q := fun q z => by rw [← hq2]; exact nw_n (by omega)
  clear hq2
  rw [c1]
  have o2 : ∀ q, 1099511627776 ≤ q → g2.2 q = h.2 q := fun q hq => (gu2 q (by omega)).trans (o1 q hq)
  refine ⟨251, 26437, _, v_ref (t := t) ga2 gc2 (by omega) (RV_old rv o2) (RT_old rt o2) (wv_cg gx (o2 _ (by decide))) (wv_cg gy (o2 _ (by decide))), by decide, by decide, ?_⟩
  rintro _ h2 ⟨rfl, c2, RM2, u2⟩
  have o3 : ∀ q, 1099511627776 ≤ q → h2.2 q = h.2 q := fun q hq => (u2 q (by omega) (Or.inr hq)).trans (o2 q hq)
  have c2' : h2.1 = v + 1002 := by omega
  refine vm_Th (lv' := [(0, .ref 1099511627776), (1, .ref v), (2, .ref (v + 750))]) (h' := h2) rfl rfl ?_
  refine vm_go rfl bL_law_16 oL_law_16 ⟨1, rfl, by decide, by decide, by decide, by omega, ?_⟩
  obtain ⟨h3, eh3⟩ : ∃ h3, h3 = vm_nw h2 (.inl (.long, 1, .inr (.inl (fun _ => 0)))) := ⟨_, rfl⟩
  have c3 : h3.1 = v + 1003 := by rw [eh3]; show h2.1 + 1 = _; omega
  have a3 : h3.2 (v + 1002) = .inl (.long, 1, .inr (.inl (fun _ => 0))) := by rw [eh3, ← c2']; exact nw_e
  have u3' : ∀ q, q ≠ v + 1002 → h3.2 q = h2.2 q := fun q z => by rw [eh3]; exact nw_n (by omega)
  rw [c2']
  refine vm_Th (lv' := [(0, .ref 1099511627776), (1, .ref v), (2, .ref (v + 750)), (3, .ref (v + 1002))]) (h' := h3) rfl eh3 ?_
  refine vm_go rfl bL_law_20 oL_law_20 (vm_Th (lv' := [(0, .ref 1099511627776), (1, .ref v), (2, .ref (v + 750)), (3, .ref (v + 1002)), (4, .int (nI (6 * 0)))]) (h' := h3) rfl rfl ?_)
  have o4 : ∀ q, 1099511627776 ≤ q → h3.2 q = h.2 q := fun q hq => (u3' q (by omega)).trans (o3 q hq)
  have e31 : ∀ q, v ≤ q → q < v + 750 → h3.2 q = h1.2 q := fun q z1 z2 => (u3' q (by omega)).trans ((u2 q (by omega) (Or.inl (by omega))).trans (gu2 q (by omega)))
  have J : JS v L xs t 0 h3 := by
    obtain ⟨⟨b1, b2, b3⟩, mb, _⟩ := MV1 (v + 750) (fun _ => (0, 0, 0, false, [], [], [])) (fun _ => (0, false, [], 0)) (fun _ => 0) (fun _ => 0) (Nat.le_refl _) (by omega)
    refine ⟨0, [], [], 0, 0, 0, fun _ => 0, fun _ => 0, fun _ => (0, 0, 0, false, [], [], []), fun _ => (0, false, [], 0), fun _ => 0, false, -1, 0, MS_0 (tb := fun _ => 0) ⟨⟨by omega, by omega, by omega⟩, MB_cg mb e31, ⟨by decide, fun i hi => absurd hi (by omega), fun i j _ hj => absurd hj (by omega)⟩, ⟨by decide, fun i hi => absurd hi (by omega), (fun i j _ hj => absurd hj (by omega)), fun i j hi => absurd hi (by omega)⟩⟩, RM_cells (RM2 _ _) (fun q z => u3' q (by omega)), EV_fr ev o4, (o4 _ (by decide)).trans sc, ⟨_, a3⟩, fun e => (nomatch e), ⟨by decide, by decide⟩, ⟨by decide, by decide, by decide⟩, by omega, hv⟩
  exact vm_more (law_loop hl h9 hL hQ 512 0 rfl h3 J) (by decide) (by decide)
end
