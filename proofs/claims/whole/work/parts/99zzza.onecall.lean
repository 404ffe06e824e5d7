/-! the law, one call of those that may throw -/
section
variable {l : Launch} {O : Nat → vm_Ob} {f9 : Value} {h h' h1 h2 : vm_H} {v L n kn an rd wr : Nat} {t : KT} {xs : Nat → Int32} {w ou : List Nat} {ke ae : Nat → Nat} {kf : Nat → aK} {af : Nat → aA} {D : Nat → Nat} {dn : Bool} {wl : Int} {th : Int32}
theorem J_mk2 {w' ou' : List Nat} {kf' : Nat → aK} {af' : Nat → aA} {th' : Int32} (J : JP v L xs t n h th w ou kn an rd ke ae kf af D dn wl wr) (hn : n < 512) (F1 : ∀ q, q < v ∨ (v + 750 ≤ q ∧ q < v + 1002) ∨ 1099511627776 ≤ q → h1.2 q = h.2 q) (c1 : h1.1 ≤ h.1 + 1) (M1 : MS t.2.2.1 t.2.2.2 v (v + 1003) w' ou' kn an rd ke ae kf' af' D dn wl wr h1) (oc : ∃ f, h1.2 (v + 1002) = .inl (.long, 1, .inr (.inl f))) (F2 : fr h1 h2 (RF (v + 750))) (R2 : RM h2 (v + 750) t th' w' ou' kn an rd kf' af' D dn wl wr) : JS v L xs t (n + 1) h2 ∧ (∀ g, h1.2 (v + 1002) = .inl (.long, 1, .inr (.inl g)) → h2.2 (v + 1002) = .inl (.long, 1, .inr (.inl g))) := by
  obtain ⟨_, _, ev, sc, _, b1, b2, b3, c0, hv⟩ := J
  have o2 : ∀ q, 1099511627776 ≤ q → h2.2 q = h.2 q := fun q hq => (F2.2 q (by unfold RF; omega)).trans (F1 q (Or.inr (Or.inr hq)))
  have e2 : h2.2 (v + 1002) = h1.2 (v + 1002) := F2.2 _ (by unfold RF; omega)
  obtain ⟨f, oc⟩ := oc
  exact ⟨⟨_, _, _, _, _, _, _, _, _, _, _, _, _, _, J_m (h0 := h) M1 F2 (fun q z => by unfold RF at z; omega), R2, EV_fr ev o2, (o2 _ (by decide)).trans sc, ⟨f, e2.trans oc⟩, b1, b2, ⟨by omega, by omega, by omega⟩, by rw [F2.1]; omega, hv⟩, fun g e => e2.trans e⟩
theorem vm_metWP {E : vm_E} {y : vm_M} {kc ks : Nat} {av : List Value} {h : vm_H} {Q Q' : Option Value → vm_H → Prop} (k : vm_MetW E y kc ks av h Q') (hq : ∀ r h', Q' r h' → Q r h') : vm_MetW E y kc ks av h Q := by
  intro G p e ha hf hc s m args below h1 h2 h3 h4
  obtain ⟨n, o, a1, a2, a3, ⟨⟨r, h', e1, e2, e3⟩, L, e4, e5⟩⟩ := k G p e ha hf hc s m args below h1 h2 h3 h4
  exact ⟨n, o, a1, a2, a3, ⟨⟨r, h', e1, hq r h' e2, e3⟩, L, e4, e5⟩⟩
theorem J_thr (R : RM h2 (v + 750) t th w ou kn an rd kf af D dn wl wr) : vm_Met (vm_env l O f9) mX14_thrown 0 0 [.ref (v + 750)] h2 (fun r h' => r = some (.int th) ∧ h' = h2) := rp_thr R
theorem pt_retire {z : Int} (hl : l.stackTraces = false) (h9 : f9.category = 1) (hz : i32 z) (hn : n < 512) (J : JS v L xs t n h) : vm_MetW (vm_env l O f9) mL_retire 1 6 [.ref v, .int (iZ z), .ref (v + 1002)] h (fun r h1 => ∃ k5 : Int32, r = some (.int k5) ∧ vm_Met (vm_env l O f9) mX14_retire 0 0 [.ref (v + 750), .int (iZ z)] h1 (fun r' h2 => ∃ x6 : Int32, r' = some (.int x6) ∧ JS v L xs t (n + 1) h2 ∧ vm_Met (vm_env l O f9) mX14_thrown 0 0 [.ref (v + 750)] h2 (fun r h' => r = some (.int k5) ∧ h' = h2) ∧ (k5 = 0 → ∃ g, h2.2 (v + 1002) = .inl (.long, 1, .inr (.inl g)) ∧ (∃ b : Bool, x6 = bi b ∧ g 0 = (if b = true then 1 else 0)))) ∧ ((∃ fs, h1.2 (v + 750) = .inr (14, fs)) ∧ h1.2 1099511627776 = .inl (.int, L, .inl xs))) := by
  obtain ⟨th, w, ou, kn, an, rd, ke, ae, kf, af, D, dn, wl, wr, J⟩ := J
  have hm := vm_metWC (lw_retire (l := l) (O := O) (f9 := f9) hl h9 hz J)
  intro G
  refine vm_metWP hm ?_ G
  rintro r h1 ⟨⟨q, FF⟩, c1⟩
  have R1 : RM h1 (v + 750) t th w ou kn an rd kf af D dn wl wr := RM_cells J.2.1 (fun q z => FF q (by omega))
  have rcv : (∃ fs, h1.2 (v + 750) = .inr (14, fs)) ∧ h1.2 1099511627776 = .inl (.int, L, .inl xs) := ⟨by
    obtain ⟨g, m, y, k, _⟩ := id R1
    exact ⟨_, k.1.1⟩, (FF _ (Or.inr (Or.inr (Nat.le_refl _)))).trans J.2.2.2.1⟩
  rcases q with ⟨b, kf2, eF, rfl, M1, g, eg1, eg⟩ | ⟨eF, rfl, M1, oc⟩
  · refine ⟨0, rfl, ?_, rcv⟩
    refine vm_metP (rp_retire hz R1) ?_
    rintro r' h2 ⟨q1, _, F2⟩
    obtain ⟨rfl, R2⟩ := q1 _ _ eF
    obtain ⟨J2, e2⟩ := J_mk2 J hn FF c1 M1 ⟨_, eg1⟩ F2 R2
    exact ⟨_, rfl, J2, J_thr R2, fun _ => ⟨g, e2 g eg1, ⟨b, rfl, eg⟩⟩⟩
  · refine ⟨1, rfl, ?_, rcv⟩
    refine vm_metP (rp_retire hz R1) ?_
    rintro r' h2 ⟨_, q1, F2⟩
    obtain ⟨⟨x6, rfl⟩, R2⟩ := q1 eF
    obtain ⟨J2, _⟩ := J_mk2 J hn FF c1 M1 oc F2 R2
    exact ⟨x6, rfl, J2, J_thr R2, fun e => absurd e (by decide)⟩
theorem pt_look {z y9 : Int} (hl : l.stackTraces = false) (h9 : f9.category = 1) (hz : i32 z) (hy9 : i32 y9) (hn : n < 512) (J : JS v L xs t n h) : vm_MetW (vm_env l O f9) mL_look 1 6 [.ref v, .int (iZ z), .int (iZ y9), .ref (v + 1002)] h (fun r h1 => ∃ k5 : Int32, r = some (.int k5) ∧ vm_Met (vm_env l O f9) mX14_look 0 0 [.ref (v + 750), .int (iZ z), .int (iZ y9)] h1 (fun r' h2 => ∃ x6 : Int32, r' = some (.int x6) ∧ JS v L xs t (n + 1) h2 ∧ vm_Met (vm_env l O f9) mX14_thrown 0 0 [.ref (v + 750)] h2 (fun r h' => r = some (.int k5) ∧ h' = h2) ∧ (k5 = 0 → ∃ g, h2.2 (v + 1002) = .inl (.long, 1, .inr (.inl g)) ∧ g 0 = x6.toInt64)) ∧ ((∃ fs, h1.2 (v + 750) = .inr (14, fs)) ∧ h1.2 1099511627776 = .inl (.int, L, .inl xs))) := by
  obtain ⟨th, w, ou, kn, an, rd, ke, ae, kf, af, D, dn, wl, wr, J⟩ := J
  have hm := vm_metWC (lw_look (l := l) (O := O) (f9 := f9) hl h9 hz hy9 J)
  intro G
  refine vm_metWP hm ?_ G
  rintro r h1 ⟨⟨q, FF⟩, c1⟩
  have R1 : RM h1 (v + 750) t th w ou kn an rd kf af D dn wl wr := RM_cells J.2.1 (fun q z => FF q (by omega))
  have rcv : (∃ fs, h1.2 (v + 750) = .inr (14, fs)) ∧ h1.2 1099511627776 = .inl (.int, L, .inl xs) := ⟨by
    obtain ⟨g, m, y, k, _⟩ := id R1
    exact ⟨_, k.1.1⟩, (FF _ (Or.inr (Or.inr (Nat.le_refl _)))).trans J.2.2.2.1⟩
  rcases q with ⟨x, ou2, eF, rfl, M1, g, eg1, eg⟩ | ⟨eF, rfl, M1, oc⟩
  · refine ⟨0, rfl, ?_, rcv⟩
    refine vm_metP (rp_look hz hy9 (J_ki J) R1) ?_
    rintro r' h2 ⟨q1, _, F2⟩
    obtain ⟨rfl, R2⟩ := q1 _ _ eF
    obtain ⟨J2, e2⟩ := J_mk2 J hn FF c1 M1 ⟨_, eg1⟩ F2 R2
    exact ⟨_, rfl, J2, J_thr R2, fun _ => ⟨g, e2 g eg1, eg⟩⟩
  · refine ⟨1, rfl, ?_, rcv⟩
    refine vm_metP (rp_look hz hy9 (J_ki J) R1) ?_
    rintro r' h2 ⟨_, q1, F2⟩
    obtain ⟨⟨x6, rfl⟩, R2⟩ := q1 eF
    obtain ⟨J2, _⟩ := J_mk2 J hn FF c1 M1 oc F2 R2
    exact ⟨x6, rfl, J2, J_thr R2, fun e => absurd e (by decide)⟩
theorem pt_finalize {z : Int} (hl : l.stackTraces = false) (h9 : f9.category = 1) (hz : i32 z) (hn : n < 512) (J : JS v L xs t n h) : vm_MetW (vm_env l O f9) mL_finalize 1 6 [.ref v, .int (iZ z), .ref (v + 1002)] h (fun r h1 => ∃ k5 : Int32, r = some (.int k5) ∧ vm_Met (vm_env l O f9) mX14_finalize 0 0 [.ref (v + 750), .int (iZ z)] h1 (fun r' h2 => ∃ x6 : Int32, r' = some (.int x6) ∧ JS v L xs t (n + 1) h2 ∧ vm_Met (vm_env l O f9) mX14_thrown 0 0 [.ref (v + 750)] h2 (fun r h' => r = some (.int k5) ∧ h' = h2) ∧ (k5 = 0 → ∃ g, h2.2 (v + 1002) = .inl (.long, 1, .inr (.inl g)) ∧ g 0 = x6.toInt64)) ∧ ((∃ fs, h1.2 (v + 750) = .inr (14, fs)) ∧ h1.2 1099511627776 = .inl (.int, L, .inl xs))) := by
  obtain ⟨th, w, ou, kn, an, rd, ke, ae, kf, af, D, dn, wl, wr, J⟩ := J
  have hm := vm_metWC (lw_finalize (l := l) (O := O) (f9 := f9) hl h9 hz J)
  intro G
  refine vm_metWP hm ?_ G
  rintro r h1 ⟨⟨q, FF⟩, c1⟩
  have R1 : RM h1 (v + 750) t th w ou kn an rd kf af D dn wl wr := RM_cells J.2.1 (fun q z => FF q (by omega))
  have rcv : (∃ fs, h1.2 (v + 750) = .inr (14, fs)) ∧ h1.2 1099511627776 = .inl (.int, L, .inl xs) := ⟨by
    obtain ⟨g, m, y, k, _⟩ := id R1
    exact ⟨_, k.1.1⟩, (FF _ (Or.inr (Or.inr (Nat.le_refl _)))).trans J.2.2.2.1⟩
  rcases q with ⟨x, ou2, af2, eF, rfl, M1, g, eg1, eg⟩ | ⟨eF, rfl, M1, oc⟩
  · refine ⟨0, rfl, ?_, rcv⟩
    refine vm_metP (rp_finalize hz h9 (J_ki J) (J_ai J) R1) ?_
    rintro r' h2 ⟨q1, _, F2⟩
    obtain ⟨rfl, R2⟩ := q1 _ _ _ eF
    obtain ⟨J2, e2⟩ := J_mk2 J hn FF c1 M1 ⟨_, eg1⟩ F2 R2
    exact ⟨_, rfl, J2, J_thr R2, fun _ => ⟨g, e2 g eg1, eg⟩⟩
  · refine ⟨1, rfl, ?_, rcv⟩
    refine vm_metP (rp_finalize hz h9 (J_ki J) (J_ai J) R1) ?_
    rintro r' h2 ⟨_, q1, F2⟩
    obtain ⟨⟨x6, rfl⟩, R2⟩ := q1 eF
    obtain ⟨J2, _⟩ := J_mk2 J hn FF c1 M1 oc F2 R2
    exact ⟨x6, rfl, J2, J_thr R2, fun e => absurd e (by decide)⟩
theorem pt_finalizeMany {z y9 : Int} (hl : l.stackTraces = false) (h9 : f9.category = 1) (hz : i32 z) (hy9 : i32 y9) (hn : n < 512) (J : JS v L xs t n h) : vm_MetW (vm_env l O f9) mL_finalizeMany 1 6 [.ref v, .int (iZ z), .int (iZ y9), .ref (v + 1002)] h (fun r h1 => ∃ k5 : Int32, r = some (.int k5) ∧ vm_Met (vm_env l O f9) mX14_finalizeMany 0 0 [.ref (v + 750), .int (iZ z), .int (iZ y9)] h1 (fun r' h2 => ∃ x6 : Int32, r' = some (.int x6) ∧ JS v L xs t (n + 1) h2 ∧ vm_Met (vm_env l O f9) mX14_thrown 0 0 [.ref (v + 750)] h2 (fun r h' => r = some (.int k5) ∧ h' = h2) ∧ (k5 = 0 → ∃ g, h2.2 (v + 1002) = .inl (.long, 1, .inr (.inl g)) ∧ g 0 = x6.toInt64)) ∧ ((∃ fs, h1.2 (v + 750) = .inr (14, fs)) ∧ h1.2 1099511627776 = .inl (.int, L, .inl xs))) := by
  obtain ⟨th, w, ou, kn, an, rd, ke, ae, kf, af, D, dn, wl, wr, J⟩ := J
  have hm := vm_metWC (lw_finalizeMany (l := l) (O := O) (f9 := f9) hl h9 hz hy9 J)
  intro G
  refine vm_metWP hm ?_ G
  rintro r h1 ⟨⟨q, FF⟩, c1⟩
  have R1 : RM h1 (v + 750) t th w ou kn an rd kf af D dn wl wr := RM_cells J.2.1 (fun q z => FF q (by omega))
  have rcv : (∃ fs, h1.2 (v + 750) = .inr (14, fs)) ∧ h1.2 1099511627776 = .inl (.int, L, .inl xs) := ⟨by
    obtain ⟨g, m, y, k, _⟩ := id R1
    exact ⟨_, k.1.1⟩, (FF _ (Or.inr (Or.inr (Nat.le_refl _)))).trans J.2.2.2.1⟩
  rcases q with ⟨x, ou2, af2, eF, rfl, M1, g, eg1, eg⟩ | ⟨eF, rfl, M1, oc⟩
  · refine ⟨0, rfl, ?_, rcv⟩
    refine vm_metP (rp_finalizeMany hz hy9 h9 (J_ki J) (J_ai J) R1) ?_
    rintro r' h2 ⟨q1, _, F2⟩
    obtain ⟨rfl, R2⟩ := q1 _ _ _ eF
    obtain ⟨J2, e2⟩ := J_mk2 J hn FF c1 M1 ⟨_, eg1⟩ F2 R2
    exact ⟨_, rfl, J2, J_thr R2, fun _ => ⟨g, e2 g eg1, eg⟩⟩
  · refine ⟨1, rfl, ?_, rcv⟩
    refine vm_metP (rp_finalizeMany hz hy9 h9 (J_ki J) (J_ai J) R1) ?_
    rintro r' h2 ⟨_, q1, F2⟩
    obtain ⟨⟨x6, rfl⟩, R2⟩ := q1 eF
    obtain ⟨J2, _⟩ := J_mk2 J hn FF c1 M1 oc F2 R2
    exact ⟨x6, rfl, J2, J_thr R2, fun e => absurd e (by decide)⟩
end
