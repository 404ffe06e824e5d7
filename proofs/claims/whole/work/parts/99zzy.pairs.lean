/-! the class and the reference side by side -/
theorem RK_cells {h h' : vm_H} {a : Nat} {t : KT} {g : Nat → Int32} (k : RK h a t g) (e : ∀ q, (a ≤ q ∧ q ≤ a + 251) ∨ 1099511627776 ≤ q → h'.2 q = h.2 q) : RK h' a t g := by
  have ao := k.2.1
  obtain ⟨k1, k2, ⟨kv, kt⟩, ⟨c1, c2, c3, c4, c5, c6, c7, c8⟩, k5, k6, ⟨k7, k8⟩, k9⟩ := k
  have oo : ∀ q, 1099511627776 ≤ q → h'.2 q = h.2 q := fun q hq => e q (Or.inr hq)
  exact ⟨(e a (by omega)).trans k1, k2, ⟨RV_old kv oo, RT_old kt oo⟩, ⟨MH_cge (M := a + 8) c1 (fun q z1 z2 => e q (by omega)), MH_cge (M := a + 11) c2 (fun q z1 z2 => e q (by omega)), SP_cg c3 (fun q z1 z2 => e q (by omega)), wv_cg c4 (e _ (by omega)), wq_cg c5 (e _ (by omega)), wq_cg c6 (e _ (by omega)), rr9_cg (F := fun k => a + 168 + 6 * k) c7 (e _ (by omega)), rr9_cg (F := fun k => a + 171 + 6 * k) c8 (e _ (by omega))⟩, fun i hi => iw_cg (k5 i hi) (e _ (by unfold ZI at hi; omega)), fun i hi => bx9_cg (k6 i hi) (e _ (by unfold ZB at hi; omega)), ⟨lw_cg k7 (e _ (by omega)), lw_cg k8 (e _ (by omega))⟩, fun s hs => SQ_cg (k9 s hs) (fun q z1 z2 => e _ (by unfold ZP at hs; omega))⟩
section
variable {l : Launch} {O : Nat → vm_Ob} {f9 : Value} {h h' h1 h2 : vm_H} {v L n kn an rd wr : Nat} {t : KT} {xs : Nat → Int32} {w ou : List Nat} {ke ae : Nat → Nat} {kf : Nat → aK} {af : Nat → aA} {D : Nat → Nat} {dn : Bool} {wl : Int} {th : Int32}
theorem RM_cells {a : Nat} (k : RM h a t th w ou kn an rd kf af D dn wl wr) (e : ∀ q, (a ≤ q ∧ q ≤ a + 251) ∨ 1099511627776 ≤ q → h'.2 q = h.2 q) : RM h' a t th w ou kn an rd kf af D dn wl wr := by
  obtain ⟨g, m, y, ⟨k1, k2, k3, k4, k5⟩, G, st⟩ := k
  exact ⟨g, m, y, ⟨RK_cells k1 e, k2, rl9_cg k3 (e _ (by omega)), rl9_cg k4 (e _ (by omega)), rl9_cg k5 (e _ (by omega))⟩, G, ST_cg st (fun q z => e q (by omega))⟩
/-- the class and the reference, in one state -/
def JP (v L : Nat) (xs : Nat → Int32) (t : KT) (n : Nat) (h : vm_H) (th : Int32) (w ou : List Nat) (kn an rd : Nat) (ke ae : Nat → Nat) (kf : Nat → aK) (af : Nat → aA) (D : Nat → Nat) (dn : Bool) (wl : Int) (wr : Nat) : Prop := MS t.2.2.1 t.2.2.2 v (v + 1003) w ou kn an rd ke ae kf af D dn wl wr h ∧ RM h (v + 750) t th w ou kn an rd kf af D dn wl wr ∧ EV t.1 t.2.1 t.2.2.1 t.2.2.2 h ∧ h.2 1099511627776 = .inl (.int, L, .inl xs) ∧ (∃ f, h.2 (v + 1002) = .inl (.long, 1, .inr (.inl f))) ∧ (dn = true → wl = 0) ∧ (-1 ≤ wl ∧ wl ≤ 1000) ∧ (wr ≤ n ∧ rd ≤ n ∧ n ≤ 512) ∧ h.1 ≤ v + 1003 + 27 * n ∧ v + 100000 < 1099511627776
def JS (v L : Nat) (xs : Nat → Int32) (t : KT) (n : Nat) (h : vm_H) : Prop := ∃ th w ou kn an rd ke ae kf af D dn wl wr, JP v L xs t n h th w ou kn an rd ke ae kf af D dn wl wr
theorem J_ki (J : JP v L xs t n h th w ou kn an rd ke ae kf af D dn wl wr) : ∀ i, i < kn → KI (kf i) := by
  obtain ⟨⟨tb, k, _⟩, _⟩ := J
  exact fun i hi => (k.2.2.1.2.1 i hi).2.1
theorem J_ai (J : JP v L xs t n h th w ou kn an rd ke ae kf af D dn wl wr) : ∀ i, i < an → ∃ bl iv, AI t.2.2.1 t.2.2.2 (af i) (kf (aky (af i))) bl iv := by
  obtain ⟨⟨tb, k, _⟩, _⟩ := J
  intro i hi
  obtain ⟨bl, iv, q, _⟩ := (k.2.2.2.2.1 i hi).2.2.2.2
  exact ⟨bl, iv, q⟩
theorem J_r (J : JP v L xs t n h th w ou kn an rd ke ae kf af D dn wl wr) (F : VF v (v + 1003) h h1) : RM h1 (v + 750) t th w ou kn an rd kf af D dn wl wr := RM_cells J.2.1 (fun q z => F.2 q (by omega))
theorem J_m {h0 : vm_H} {S : Nat → Prop} (M : MS t.2.2.1 t.2.2.2 v (v + 1003) w ou kn an rd ke ae kf af D dn wl wr h1) (F : fr h1 h2 S) (hS : ∀ q, S q → v + 750 ≤ q ∧ q < v + 1003) : MS t.2.2.1 t.2.2.2 v (v + 1003) w ou kn an rd ke ae kf af D dn wl wr h2 := by
  obtain ⟨tb, k, e⟩ := M
  exact ⟨tb, MV_cg k (by rw [F.1]; exact Nat.le_refl _) (fun q z1 z2 => F.2 q (fun s => by have := hS q s; omega)), e⟩
theorem J_mk {w' ou' : List Nat} {kn' an' rd' wr' : Nat} {ke' ae' : Nat → Nat} {kf' : Nat → aK} {af' : Nat → aA} {D' : Nat → Nat} {dn' : Bool} {wl' : Int} {th' : Int32} (J : JP v L xs t n h th w ou kn an rd ke ae kf af D dn wl wr) (hn : n < 512) (F1 : VF v (v + 1003) h h1) (c1 : h1.1 ≤ h.1 + 27) (M1 : MS t.2.2.1 t.2.2.2 v (v + 1003) w' ou' kn' an' rd' ke' ae' kf' af' D' dn' wl' wr' h1) (F2 : fr h1 h2 (RF (v + 750))) (R2 : RM h2 (v + 750) t th' w' ou' kn' an' rd' kf' af' D' dn' wl' wr') (b1 : dn' = true → wl' = 0) (b2 : -1 ≤ wl' ∧ wl' ≤ 1000) (b3 : wr' ≤ n + 1 ∧ rd' ≤ n + 1) : JS v L xs t (n + 1) h2 := by
  obtain ⟨_, _, ev, sc, ⟨f, oc⟩, _, _, _, c0, hv⟩ := J
  have o2 : ∀ q, 1099511627776 ≤ q → h2.2 q = h.2 q := fun q hq => (F2.2 q (by unfold RF; omega)).trans (F1.2 q (Or.inr (Or.inr hq)))
  exact ⟨_, _, _, _, _, _, _, _, _, _, _, _, _, _, J_m (h0 := h) M1 F2 (fun q z => by unfold RF at z; omega), R2, EV_fr ev o2, (o2 _ (by decide)).trans sc, ⟨f, (F2.2 _ (by unfold RF; omega)).trans ((F1.2 _ (Or.inr (Or.inl (by omega)))).trans oc)⟩, b1, b2, ⟨b3.1, b3.2, by omega⟩, by rw [F2.1]; omega, hv⟩

theorem pj_outs (h9 : f9.category = 1) (hn : n < 512) (J : JS v L xs t n h) : vm_Met (vm_env l O f9) mX11_outs 0 0 [.ref v] h (fun r h1 => ∃ x : Int32, r = some (.int x) ∧ vm_Met (vm_env l O f9) mX14_outs 0 0 [.ref (v + 750)] h1 (fun r' h2 => r' = some (.int x) ∧ JS v L xs t (n + 1) h2) ∧ ((∃ fs, h1.2 (v + 750) = .inr (14, fs)) ∧ h1.2 1099511627776 = .inl (.int, L, .inl xs))) := by
  obtain ⟨th, w, ou, kn, an, rd, ke, ae, kf, af, D, dn, wl, wr, J⟩ := J
  have hv := J.2.2.2.2.2.2.2.2.2
  have hc := J.2.2.2.2.2.2.2.2.1
  have b1 := J.2.2.2.2.2.1
  have b2 := J.2.2.2.2.2.2.1
  have b3 := J.2.2.2.2.2.2.2.1
  have ev := J.2.2.1
  have M := J.1
  have hx : ∀ h1, VF v (v + 1003) h h1 → ((∃ fs, h1.2 (v + 750) = .inr (14, fs)) ∧ h1.2 1099511627776 = .inl (.int, L, .inl xs)) := fun h1 F => ⟨by
    obtain ⟨g, m, y, k, _⟩ := J_r J F
    exact ⟨_, k.1.1⟩, (F.2 _ (Or.inr (Or.inr (Nat.le_refl _)))).trans J.2.2.2.1⟩
  obtain ⟨tb, k, ew⟩ := id M
  refine vm_metP (m_outs k) ?_
  rintro r h1 ⟨rfl, e1⟩
  rw [e1]; clear e1 h1
  refine ⟨_, rfl, ?_, hx h VF_r⟩
  refine vm_metP (rp_outs (J_r J VF_r)) ?_
  rintro r' h2 ⟨rfl, R2, F2⟩
  exact ⟨rfl, J_mk J hn VF_r (by omega) M F2 R2 b1 b2 ⟨by omega, by omega⟩⟩

theorem pj_count {z : Int} (h9 : f9.category = 1) (hz : i32 z) (hn : n < 512) (J : JS v L xs t n h) : vm_Met (vm_env l O f9) mX11_count 0 0 [.ref v, .int (iZ z)] h (fun r h1 => ∃ x : Int32, r = some (.int x) ∧ vm_Met (vm_env l O f9) mX14_count 0 0 [.ref (v + 750), .int (iZ z)] h1 (fun r' h2 => r' = some (.int x) ∧ JS v L xs t (n + 1) h2) ∧ ((∃ fs, h1.2 (v + 750) = .inr (14, fs)) ∧ h1.2 1099511627776 = .inl (.int, L, .inl xs))) := by
  obtain ⟨th, w, ou, kn, an, rd, ke, ae, kf, af, D, dn, wl, wr, J⟩ := J
  have hv := J.2.2.2.2.2.2.2.2.2
  have hc := J.2.2.2.2.2.2.2.2.1
  have b1 := J.2.2.2.2.2.1
  have b2 := J.2.2.2.2.2.2.1
  have b3 := J.2.2.2.2.2.2.2.1
  have ev := J.2.2.1
  have M := J.1
  have hx : ∀ h1, VF v (v + 1003) h h1 → ((∃ fs, h1.2 (v + 750) = .inr (14, fs)) ∧ h1.2 1099511627776 = .inl (.int, L, .inl xs)) := fun h1 F => ⟨by
    obtain ⟨g, m, y, k, _⟩ := J_r J F
    exact ⟨_, k.1.1⟩, (F.2 _ (Or.inr (Or.inr (Nat.le_refl _)))).trans J.2.2.2.1⟩
  obtain ⟨tb, k, ew⟩ := id M
  refine vm_metP (m_cnt k hz) ?_
  rintro r h1 ⟨rfl, e1⟩
  rw [e1]; clear e1 h1
  refine ⟨_, rfl, ?_, hx h VF_r⟩
  refine vm_metP (rp_count hz b1 (J_r J VF_r)) ?_
  rintro r' h2 ⟨rfl, R2, F2⟩
  exact ⟨rfl, J_mk J hn VF_r (by omega) M F2 R2 b1 b2 ⟨by omega, by omega⟩⟩

theorem pj_feed {z1 z2 z3 z4 z5 : Int} (h9 : f9.category = 1) (hz1 : i32 z1) (hz2 : i32 z2) (hz3 : i32 z3) (hz4 : i32 z4) (hz5 : i32 z5) (hn : n < 512) (J : JS v L xs t n h) : vm_Met (vm_env l O f9) mX11_feed 0 0 [.ref v, .int (iZ z1), .int (iZ z2), .int (iZ z3), .int (iZ z4), .int (iZ z5)] h (fun r h1 => ∃ x : Int32, r = some (.int x) ∧ vm_Met (vm_env l O f9) mX14_feed 0 0 [.ref (v + 750), .int (iZ z1), .int (iZ z2), .int (iZ z3), .int (iZ z4), .int (iZ z5)] h1 (fun r' h2 => r' = some (.int x) ∧ JS v L xs t (n + 1) h2) ∧ ((∃ fs, h1.2 (v + 750) = .inr (14, fs)) ∧ h1.2 1099511627776 = .inl (.int, L, .inl xs))) := by
  obtain ⟨th, w, ou, kn, an, rd, ke, ae, kf, af, D, dn, wl, wr, J⟩ := J
  have hv := J.2.2.2.2.2.2.2.2.2
  have hc := J.2.2.2.2.2.2.2.2.1
  have b1 := J.2.2.2.2.2.1
  have b2 := J.2.2.2.2.2.2.1
  have b3 := J.2.2.2.2.2.2.2.1
  have ev := J.2.2.1
  have M := J.1
  have hx : ∀ h1, VF v (v + 1003) h h1 → ((∃ fs, h1.2 (v + 750) = .inr (14, fs)) ∧ h1.2 1099511627776 = .inl (.int, L, .inl xs)) := fun h1 F => ⟨by
    obtain ⟨g, m, y, k, _⟩ := J_r J F
    exact ⟨_, k.1.1⟩, (F.2 _ (Or.inr (Or.inr (Nat.le_refl _)))).trans J.2.2.2.1⟩
  have k := M
  by_cases c : w.length + 20 ≤ 1200
  · refine vm_metP (vm_metC (m_feed k hz1 hz2 hz3 hz4 hz5)) ?_
    rintro r h1 ⟨q1, c1⟩
    obtain ⟨er, M1⟩ := q1.1 c
    refine ⟨_, er, ?_, hx h1 q1.2.2⟩
    refine vm_metP (rp_feed hz1 hz2 hz3 hz4 hz5 (J_r J q1.2.2)) ?_
    rintro r' h2 q2
    obtain ⟨er2, R2⟩ := q2.1 c
    exact ⟨er2, J_mk J hn q1.2.2 (by omega) M1 q2.2.2 R2 b1 b2 ⟨by omega, by omega⟩⟩
  · refine vm_metP (vm_metC (m_feed k hz1 hz2 hz3 hz4 hz5)) ?_
    rintro r h1 ⟨q1, c1⟩
    obtain ⟨er, M1⟩ := q1.2.1 c
    refine ⟨_, er, ?_, hx h1 q1.2.2⟩
    refine vm_metP (rp_feed hz1 hz2 hz3 hz4 hz5 (J_r J q1.2.2)) ?_
    rintro r' h2 q2
    obtain ⟨er2, R2⟩ := q2.2.1 c
    exact ⟨er2, J_mk J hn q1.2.2 (by omega) M1 q2.2.2 R2 b1 b2 ⟨by omega, by omega⟩⟩

theorem pj_end {z : Int} (h9 : f9.category = 1) (hz : i32 z) (hn : n < 512) (J : JS v L xs t n h) : vm_Met (vm_env l O f9) mX11_end 0 0 [.ref v, .int (iZ z)] h (fun r h1 => ∃ x : Int32, r = some (.int x) ∧ vm_Met (vm_env l O f9) mX14_end 0 0 [.ref (v + 750), .int (iZ z)] h1 (fun r' h2 => r' = some (.int x) ∧ JS v L xs t (n + 1) h2) ∧ ((∃ fs, h1.2 (v + 750) = .inr (14, fs)) ∧ h1.2 1099511627776 = .inl (.int, L, .inl xs))) := by
  obtain ⟨th, w, ou, kn, an, rd, ke, ae, kf, af, D, dn, wl, wr, J⟩ := J
  have hv := J.2.2.2.2.2.2.2.2.2
  have hc := J.2.2.2.2.2.2.2.2.1
  have b1 := J.2.2.2.2.2.1
  have b2 := J.2.2.2.2.2.2.1
  have b3 := J.2.2.2.2.2.2.2.1
  have ev := J.2.2.1
  have M := J.1
  have hx : ∀ h1, VF v (v + 1003) h h1 → ((∃ fs, h1.2 (v + 750) = .inr (14, fs)) ∧ h1.2 1099511627776 = .inl (.int, L, .inl xs)) := fun h1 F => ⟨by
    obtain ⟨g, m, y, k, _⟩ := J_r J F
    exact ⟨_, k.1.1⟩, (F.2 _ (Or.inr (Or.inr (Nat.le_refl _)))).trans J.2.2.2.1⟩
  have k := M
  by_cases c : 0 ≤ z ∧ z ≤ (w.length : Int)
  · refine vm_metP (vm_metC (m_end k hz)) ?_
    rintro r h1 ⟨q1, c1⟩
    obtain ⟨er, M1⟩ := q1.1 c
    refine ⟨_, er, ?_, hx h1 q1.2.2⟩
    refine vm_metP (rp_end hz (J_r J q1.2.2)) ?_
    rintro r' h2 q2
    obtain ⟨er2, R2⟩ := q2.1 c
    exact ⟨er2, J_mk J hn q1.2.2 (by omega) M1 q2.2.2 R2 b1 b2 ⟨by omega, by omega⟩⟩
  · refine vm_metP (vm_metC (m_end k hz)) ?_
    rintro r h1 ⟨q1, c1⟩
    obtain ⟨er, M1⟩ := q1.2.1 c
    refine ⟨_, er, ?_, hx h1 q1.2.2⟩
    refine vm_metP (rp_end hz (J_r J q1.2.2)) ?_
    rintro r' h2 q2
    obtain ⟨er2, R2⟩ := q2.2.1 c
    exact ⟨er2, J_mk J hn q1.2.2 (by omega) M1 q2.2.2 R2 b1 b2 ⟨by omega, by omega⟩⟩

theorem pj_again {z y9 : Int} (h9 : f9.category = 1) (hz : i32 z) (hy9 : i32 y9) (hn : n < 512) (J : JS v L xs t n h) : vm_Met (vm_env l O f9) mX11_again 0 0 [.ref v, .int (iZ z), .int (iZ y9)] h (fun r h1 => ∃ x : Int32, r = some (.int x) ∧ vm_Met (vm_env l O f9) mX14_again 0 0 [.ref (v + 750), .int (iZ z), .int (iZ y9)] h1 (fun r' h2 => r' = some (.int x) ∧ JS v L xs t (n + 1) h2) ∧ ((∃ fs, h1.2 (v + 750) = .inr (14, fs)) ∧ h1.2 1099511627776 = .inl (.int, L, .inl xs))) := by
  obtain ⟨th, w, ou, kn, an, rd, ke, ae, kf, af, D, dn, wl, wr, J⟩ := J
  have hv := J.2.2.2.2.2.2.2.2.2
  have hc := J.2.2.2.2.2.2.2.2.1
  have b1 := J.2.2.2.2.2.1
  have b2 := J.2.2.2.2.2.2.1
  have b3 := J.2.2.2.2.2.2.2.1
  have ev := J.2.2.1
  have M := J.1
  have hx : ∀ h1, VF v (v + 1003) h h1 → ((∃ fs, h1.2 (v + 750) = .inr (14, fs)) ∧ h1.2 1099511627776 = .inl (.int, L, .inl xs)) := fun h1 F => ⟨by
    obtain ⟨g, m, y, k, _⟩ := J_r J F
    exact ⟨_, k.1.1⟩, (F.2 _ (Or.inr (Or.inr (Nat.le_refl _)))).trans J.2.2.2.1⟩
  have k := M
  by_cases c : (0 ≤ z ∧ 0 ≤ y9) ∧ z + y9 ≤ (ou.length : Int) ∧ (w.length : Int) + y9 ≤ 1200
  · refine vm_metP (vm_metC (m_agn k hz hy9)) ?_
    rintro r h1 ⟨q1, c1⟩
    obtain ⟨er, M1⟩ := q1.1 c
    refine ⟨_, er, ?_, hx h1 q1.2.2⟩
    refine vm_metP (rp_again hz hy9 (J_r J q1.2.2)) ?_
    rintro r' h2 q2
    obtain ⟨er2, R2⟩ := q2.1 c
    exact ⟨er2, J_mk J hn q1.2.2 (by omega) M1 q2.2.2 R2 b1 b2 ⟨by omega, by omega⟩⟩
  · refine vm_metP (vm_metC (m_agn k hz hy9)) ?_
    rintro r h1 ⟨q1, c1⟩
    obtain ⟨er, M1⟩ := q1.2.1 c
    refine ⟨_, er, ?_, hx h1 q1.2.2⟩
    refine vm_metP (rp_again hz hy9 (J_r J q1.2.2)) ?_
    rintro r' h2 q2
    obtain ⟨er2, R2⟩ := q2.2.1 c
    exact ⟨er2, J_mk J hn q1.2.2 (by omega) M1 q2.2.2 R2 b1 b2 ⟨by omega, by omega⟩⟩

theorem pj_out {z : Int} (h9 : f9.category = 1) (hz : i32 z) (hn : n < 512) (J : JS v L xs t n h) : vm_Met (vm_env l O f9) mX11_out 0 0 [.ref v, .int (iZ z)] h (fun r h1 => ∃ x : Int32, r = some (.int x) ∧ vm_Met (vm_env l O f9) mX14_out 0 0 [.ref (v + 750), .int (iZ z)] h1 (fun r' h2 => r' = some (.int x) ∧ JS v L xs t (n + 1) h2) ∧ ((∃ fs, h1.2 (v + 750) = .inr (14, fs)) ∧ h1.2 1099511627776 = .inl (.int, L, .inl xs))) := by
  obtain ⟨th, w, ou, kn, an, rd, ke, ae, kf, af, D, dn, wl, wr, J⟩ := J
  have hv := J.2.2.2.2.2.2.2.2.2
  have hc := J.2.2.2.2.2.2.2.2.1
  have b1 := J.2.2.2.2.2.1
  have b2 := J.2.2.2.2.2.2.1
  have b3 := J.2.2.2.2.2.2.2.1
  have ev := J.2.2.1
  have M := J.1
  have hx : ∀ h1, VF v (v + 1003) h h1 → ((∃ fs, h1.2 (v + 750) = .inr (14, fs)) ∧ h1.2 1099511627776 = .inl (.int, L, .inl xs)) := fun h1 F => ⟨by
    obtain ⟨g, m, y, k, _⟩ := J_r J F
    exact ⟨_, k.1.1⟩, (F.2 _ (Or.inr (Or.inr (Nat.le_refl _)))).trans J.2.2.2.1⟩
  obtain ⟨tb, k, ew⟩ := id M
  by_cases c : 0 ≤ z ∧ z < (ou.length : Int)
  · refine vm_metP (m_out k hz) ?_
    rintro r h1 q1
    have e1 := q1.2.2
    have er := q1.1 c
    rw [e1]; clear e1
    refine ⟨_, er, ?_, hx h VF_r⟩
    refine vm_metP (rp_out hz (J_r J VF_r)) ?_
    rintro r' h2 q2
    exact ⟨q2.1 c, J_mk J hn VF_r (by omega) M q2.2.2.2 q2.2.2.1 b1 b2 ⟨by omega, by omega⟩⟩
  · refine vm_metP (m_out k hz) ?_
    rintro r h1 q1
    have e1 := q1.2.2
    have er := q1.2.1 c
    rw [e1]; clear e1
    refine ⟨_, er, ?_, hx h VF_r⟩
    refine vm_metP (rp_out hz (J_r J VF_r)) ?_
    rintro r' h2 q2
    exact ⟨q2.2.1 c, J_mk J hn VF_r (by omega) M q2.2.2.2 q2.2.2.1 b1 b2 ⟨by omega, by omega⟩⟩

theorem pj_disk {z : Int} (h9 : f9.category = 1) (hz : i32 z) (hn : n < 512) (J : JS v L xs t n h) : vm_Met (vm_env l O f9) mX11_disk 0 0 [.ref v, .int (iZ z)] h (fun r h1 => ∃ x : Int32, r = some (.int x) ∧ vm_Met (vm_env l O f9) mX14_disk 0 0 [.ref (v + 750), .int (iZ z)] h1 (fun r' h2 => r' = some (.int x) ∧ JS v L xs t (n + 1) h2) ∧ ((∃ fs, h1.2 (v + 750) = .inr (14, fs)) ∧ h1.2 1099511627776 = .inl (.int, L, .inl xs))) := by
  obtain ⟨th, w, ou, kn, an, rd, ke, ae, kf, af, D, dn, wl, wr, J⟩ := J
  have hv := J.2.2.2.2.2.2.2.2.2
  have hc := J.2.2.2.2.2.2.2.2.1
  have b1 := J.2.2.2.2.2.1
  have b2 := J.2.2.2.2.2.2.1
  have b3 := J.2.2.2.2.2.2.2.1
  have ev := J.2.2.1
  have M := J.1
  have hx : ∀ h1, VF v (v + 1003) h h1 → ((∃ fs, h1.2 (v + 750) = .inr (14, fs)) ∧ h1.2 1099511627776 = .inl (.int, L, .inl xs)) := fun h1 F => ⟨by
    obtain ⟨g, m, y, k, _⟩ := J_r J F
    exact ⟨_, k.1.1⟩, (F.2 _ (Or.inr (Or.inr (Nat.le_refl _)))).trans J.2.2.2.1⟩
  obtain ⟨tb, k, ew⟩ := id M
  by_cases c : 0 ≤ z ∧ z < 4096
  · refine vm_metP (m_dsk k hz) ?_
    rintro r h1 q1
    have e1 := q1.2.2
    have er := q1.1 c
    rw [e1]; clear e1
    refine ⟨_, er, ?_, hx h VF_r⟩
    refine vm_metP (rp_disk hz (J_r J VF_r)) ?_
    rintro r' h2 q2
    exact ⟨q2.1 c, J_mk J hn VF_r (by omega) M q2.2.2.2 q2.2.2.1 b1 b2 ⟨by omega, by omega⟩⟩
  · refine vm_metP (m_dsk k hz) ?_
    rintro r h1 q1
    have e1 := q1.2.2
    have er := q1.2.1 c
    rw [e1]; clear e1
    refine ⟨_, er, ?_, hx h VF_r⟩
    refine vm_metP (rp_disk hz (J_r J VF_r)) ?_
    rintro r' h2 q2
    exact ⟨q2.2.1 c, J_mk J hn VF_r (by omega) M q2.2.2.2 q2.2.2.1 b1 b2 ⟨by omega, by omega⟩⟩

theorem pj_cut {z : Int} (h9 : f9.category = 1) (hz : i32 z) (hn : n < 512) (J : JS v L xs t n h) : vm_Met (vm_env l O f9) mX11_cut 0 0 [.ref v, .int (iZ z)] h (fun r h1 => ∃ x : Int32, r = some (.int x) ∧ vm_Met (vm_env l O f9) mX14_cut 0 0 [.ref (v + 750), .int (iZ z)] h1 (fun r' h2 => r' = some (.int x) ∧ JS v L xs t (n + 1) h2) ∧ ((∃ fs, h1.2 (v + 750) = .inr (14, fs)) ∧ h1.2 1099511627776 = .inl (.int, L, .inl xs))) := by
  obtain ⟨th, w, ou, kn, an, rd, ke, ae, kf, af, D, dn, wl, wr, J⟩ := J
  have hv := J.2.2.2.2.2.2.2.2.2
  have hc := J.2.2.2.2.2.2.2.2.1
  have b1 := J.2.2.2.2.2.1
  have b2 := J.2.2.2.2.2.2.1
  have b3 := J.2.2.2.2.2.2.2.1
  have ev := J.2.2.1
  have M := J.1
  have hx : ∀ h1, VF v (v + 1003) h h1 → ((∃ fs, h1.2 (v + 750) = .inr (14, fs)) ∧ h1.2 1099511627776 = .inl (.int, L, .inl xs)) := fun h1 F => ⟨by
    obtain ⟨g, m, y, k, _⟩ := J_r J F
    exact ⟨_, k.1.1⟩, (F.2 _ (Or.inr (Or.inr (Nat.le_refl _)))).trans J.2.2.2.1⟩
  obtain ⟨tb, k, ew⟩ := id M
  by_cases c : (0 ≤ z ∧ z ≤ 1000) ∧ dn = false
  · refine vm_metP (vm_metC (m_cut k hz)) ?_
    rintro r h1 ⟨q1, c1⟩
    obtain ⟨er, M1⟩ := q1.1 c
    refine ⟨_, er, ?_, hx h1 q1.2.2⟩
    refine vm_metP (rp_cut hz (J_r J q1.2.2)) ?_
    rintro r' h2 q2
    obtain ⟨er2, R2⟩ := q2.1 c
    exact ⟨er2, J_mk J hn q1.2.2 (by omega) ⟨tb, M1, ew⟩ q2.2.2 R2 (fun e => by rw [c.2] at e; cases e) ⟨by omega, by omega⟩ ⟨by omega, by omega⟩⟩
  · refine vm_metP (vm_metC (m_cut k hz)) ?_
    rintro r h1 ⟨q1, c1⟩
    obtain ⟨er, M1⟩ := q1.2.1 c
    refine ⟨_, er, ?_, hx h1 q1.2.2⟩
    refine vm_metP (rp_cut hz (J_r J q1.2.2)) ?_
    rintro r' h2 q2
    obtain ⟨er2, R2⟩ := q2.2.1 c
    exact ⟨er2, J_mk J hn q1.2.2 (by omega) ⟨tb, M1, ew⟩ q2.2.2 R2 b1 b2 ⟨by omega, by omega⟩⟩

theorem pj_power (h9 : f9.category = 1) (hn : n < 512) (J : JS v L xs t n h) : vm_Met (vm_env l O f9) mX11_power 0 0 [.ref v] h (fun r h1 => ∃ x : Int32, r = some (.int x) ∧ vm_Met (vm_env l O f9) mX14_power_ 0 0 [.ref (v + 750)] h1 (fun r' h2 => r' = some (.int x) ∧ JS v L xs t (n + 1) h2) ∧ ((∃ fs, h1.2 (v + 750) = .inr (14, fs)) ∧ h1.2 1099511627776 = .inl (.int, L, .inl xs))) := by
  obtain ⟨th, w, ou, kn, an, rd, ke, ae, kf, af, D, dn, wl, wr, J⟩ := J
  have hv := J.2.2.2.2.2.2.2.2.2
  have hc := J.2.2.2.2.2.2.2.2.1
  have b1 := J.2.2.2.2.2.1
  have b2 := J.2.2.2.2.2.2.1
  have b3 := J.2.2.2.2.2.2.2.1
  have ev := J.2.2.1
  have M := J.1
  have hx : ∀ h1, VF v (v + 1003) h h1 → ((∃ fs, h1.2 (v + 750) = .inr (14, fs)) ∧ h1.2 1099511627776 = .inl (.int, L, .inl xs)) := fun h1 F => ⟨by
    obtain ⟨g, m, y, k, _⟩ := J_r J F
    exact ⟨_, k.1.1⟩, (F.2 _ (Or.inr (Or.inr (Nat.le_refl _)))).trans J.2.2.2.1⟩
  obtain ⟨tb, k, ew⟩ := id M
  refine vm_metP (vm_metC (m_pow k)) ?_
  rintro r h1 ⟨⟨rfl, M1, F1⟩, c1⟩
  refine ⟨_, rfl, ?_, hx h1 F1⟩
  refine vm_metP (rp_power (J_r J F1)) ?_
  rintro r' h2 ⟨rfl, R2, F2⟩
  exact ⟨rfl, J_mk J hn F1 (by omega) ⟨tb, M1, ew⟩ F2 R2 (fun e => (nomatch e)) ⟨by decide, by decide⟩ ⟨by omega, by omega⟩⟩

theorem pj_digest (h9 : f9.category = 1) (hn : n < 512) (J : JS v L xs t n h) : vm_Met (vm_env l O f9) mX11_digest 0 0 [.ref v] h (fun r h1 => ∃ x : Int32, r = some (.int x) ∧ vm_Met (vm_env l O f9) mX14_digest 0 0 [.ref (v + 750)] h1 (fun r' h2 => r' = some (.int x) ∧ JS v L xs t (n + 1) h2) ∧ ((∃ fs, h1.2 (v + 750) = .inr (14, fs)) ∧ h1.2 1099511627776 = .inl (.int, L, .inl xs))) := by
  obtain ⟨th, w, ou, kn, an, rd, ke, ae, kf, af, D, dn, wl, wr, J⟩ := J
  have hv := J.2.2.2.2.2.2.2.2.2
  have hc := J.2.2.2.2.2.2.2.2.1
  have b1 := J.2.2.2.2.2.1
  have b2 := J.2.2.2.2.2.2.1
  have b3 := J.2.2.2.2.2.2.2.1
  have ev := J.2.2.1
  have M := J.1
  have hx : ∀ h1, VF v (v + 1003) h h1 → ((∃ fs, h1.2 (v + 750) = .inr (14, fs)) ∧ h1.2 1099511627776 = .inl (.int, L, .inl xs)) := fun h1 F => ⟨by
    obtain ⟨g, m, y, k, _⟩ := J_r J F
    exact ⟨_, k.1.1⟩, (F.2 _ (Or.inr (Or.inr (Nat.le_refl _)))).trans J.2.2.2.1⟩
  obtain ⟨tb, k, ew⟩ := id M
  refine vm_metP (vm_metC (m_dig k ev)) ?_
  rintro r h1 ⟨⟨rfl, M1, F1⟩, c1⟩
  rw [ew] at M1
  refine ⟨_, rfl, ?_, hx h1 F1⟩
  refine vm_metP (rp_digest (J_r J F1)) ?_
  rintro r' h2 ⟨rfl, R2, F2⟩
  exact ⟨rfl, J_mk J hn F1 (by omega) (MS_0 M1) F2 R2 b1 b2 ⟨by omega, by omega⟩⟩

theorem pj_key {z : Int} (h9 : f9.category = 1) (hz : i32 z) (hn : n < 512) (J : JS v L xs t n h) : vm_Met (vm_env l O f9) mX11_key 27 2134 [.ref v, .int (iZ z)] h (fun r h1 => ∃ x : Int32, r = some (.int x) ∧ vm_Met (vm_env l O f9) mX14_key 0 0 [.ref (v + 750), .int (iZ z)] h1 (fun r' h2 => r' = some (.int x) ∧ JS v L xs t (n + 1) h2) ∧ ((∃ fs, h1.2 (v + 750) = .inr (14, fs)) ∧ h1.2 1099511627776 = .inl (.int, L, .inl xs))) := by
  obtain ⟨th, w, ou, kn, an, rd, ke, ae, kf, af, D, dn, wl, wr, J⟩ := J
  have hv := J.2.2.2.2.2.2.2.2.2
  have hc := J.2.2.2.2.2.2.2.2.1
  have b1 := J.2.2.2.2.2.1
  have b2 := J.2.2.2.2.2.2.1
  have b3 := J.2.2.2.2.2.2.2.1
  have ev := J.2.2.1
  have M := J.1
  have hx : ∀ h1, VF v (v + 1003) h h1 → ((∃ fs, h1.2 (v + 750) = .inr (14, fs)) ∧ h1.2 1099511627776 = .inl (.int, L, .inl xs)) := fun h1 F => ⟨by
    obtain ⟨g, m, y, k, _⟩ := J_r J F
    exact ⟨_, k.1.1⟩, (F.2 _ (Or.inr (Or.inr (Nat.le_refl _)))).trans J.2.2.2.1⟩
  refine vm_metP (vm_metC (m_key (vm_i cl_6 rfl) M ev hz (by omega))) ?_
  rintro r h1 ⟨⟨rfl, ⟨ke2, M1⟩, F1, _⟩, c1⟩
  refine ⟨_, rfl, ?_, hx h1 F1⟩
  refine vm_metP (rp_key hz (J_r J F1)) ?_
  rintro r' h2 ⟨rfl, R2, F2⟩
  exact ⟨rfl, J_mk J hn F1 (by omega) M1 F2 R2 b1 b2 ⟨by omega, by omega⟩⟩

theorem pj_request {z : Int} (h9 : f9.category = 1) (hz : i32 z) (hn : n < 512) (J : JS v L xs t n h) : vm_Met (vm_env l O f9) mX11_request 4 615 [.ref v, .int (iZ z)] h (fun r h1 => ∃ x : Int32, r = some (.int x) ∧ vm_Met (vm_env l O f9) mX14_request 0 0 [.ref (v + 750), .int (iZ z)] h1 (fun r' h2 => r' = some (.int x) ∧ JS v L xs t (n + 1) h2) ∧ ((∃ fs, h1.2 (v + 750) = .inr (14, fs)) ∧ h1.2 1099511627776 = .inl (.int, L, .inl xs))) := by
  obtain ⟨th, w, ou, kn, an, rd, ke, ae, kf, af, D, dn, wl, wr, J⟩ := J
  have hv := J.2.2.2.2.2.2.2.2.2
  have hc := J.2.2.2.2.2.2.2.2.1
  have b1 := J.2.2.2.2.2.1
  have b2 := J.2.2.2.2.2.2.1
  have b3 := J.2.2.2.2.2.2.2.1
  have ev := J.2.2.1
  have M := J.1
  have hx : ∀ h1, VF v (v + 1003) h h1 → ((∃ fs, h1.2 (v + 750) = .inr (14, fs)) ∧ h1.2 1099511627776 = .inl (.int, L, .inl xs)) := fun h1 F => ⟨by
    obtain ⟨g, m, y, k, _⟩ := J_r J F
    exact ⟨_, k.1.1⟩, (F.2 _ (Or.inr (Or.inr (Nat.le_refl _)))).trans J.2.2.2.1⟩
  refine vm_metP (vm_metC (m_req (vm_i cl_6 rfl) M ev h9 hz (by omega))) ?_
  rintro r h1 ⟨⟨rfl, ⟨ae2, M1⟩, F1, _⟩, c1⟩
  refine ⟨_, rfl, ?_, hx h1 F1⟩
  refine vm_metP (rp_request h9 hz (J_ki J) (J_r J F1)) ?_
  rintro r' h2 ⟨rfl, R2, F2⟩
  exact ⟨rfl, J_mk J hn F1 (by omega) M1 F2 R2 b1 b2 ⟨by omega, by omega⟩⟩

theorem pj_issue (h9 : f9.category = 1) (hn : n < 512) (J : JS v L xs t n h) : vm_Met (vm_env l O f9) mX11_issue 0 0 [.ref v] h (fun r h1 => ∃ x : Int32, r = some (.int x) ∧ vm_Met (vm_env l O f9) mX14_issue 0 0 [.ref (v + 750)] h1 (fun r' h2 => r' = some (.int x) ∧ JS v L xs t (n + 1) h2) ∧ ((∃ fs, h1.2 (v + 750) = .inr (14, fs)) ∧ h1.2 1099511627776 = .inl (.int, L, .inl xs))) := by
  obtain ⟨th, w, ou, kn, an, rd, ke, ae, kf, af, D, dn, wl, wr, J⟩ := J
  have hv := J.2.2.2.2.2.2.2.2.2
  have hc := J.2.2.2.2.2.2.2.2.1
  have b1 := J.2.2.2.2.2.1
  have b2 := J.2.2.2.2.2.2.1
  have b3 := J.2.2.2.2.2.2.2.1
  have ev := J.2.2.1
  have M := J.1
  have hx : ∀ h1, VF v (v + 1003) h h1 → ((∃ fs, h1.2 (v + 750) = .inr (14, fs)) ∧ h1.2 1099511627776 = .inl (.int, L, .inl xs)) := fun h1 F => ⟨by
    obtain ⟨g, m, y, k, _⟩ := J_r J F
    exact ⟨_, k.1.1⟩, (F.2 _ (Or.inr (Or.inr (Nat.le_refl _)))).trans J.2.2.2.1⟩
  refine vm_metP (vm_metC (m_iss M ev h9 (by omega))) ?_
  rintro r h1 ⟨⟨rfl, M1, F1⟩, c1⟩
  refine ⟨_, rfl, ?_, hx h1 F1⟩
  refine vm_metP (rp_issue h9 (J_ki J) (J_r J F1)) ?_
  rintro r' h2 ⟨rfl, R2, F2⟩
  exact ⟨rfl, J_mk J hn F1 (by omega) M1 F2 R2 b1 b2 ⟨by omega, by omega⟩⟩

theorem pj_issueMany {z : Int} (h9 : f9.category = 1) (hz : i32 z) (hn : n < 512) (J : JS v L xs t n h) : vm_Met (vm_env l O f9) mX11_issueMany 0 0 [.ref v, .int (iZ z)] h (fun r h1 => ∃ x : Int32, r = some (.int x) ∧ vm_Met (vm_env l O f9) mX14_issueMany 0 0 [.ref (v + 750), .int (iZ z)] h1 (fun r' h2 => r' = some (.int x) ∧ JS v L xs t (n + 1) h2) ∧ ((∃ fs, h1.2 (v + 750) = .inr (14, fs)) ∧ h1.2 1099511627776 = .inl (.int, L, .inl xs))) := by
  obtain ⟨th, w, ou, kn, an, rd, ke, ae, kf, af, D, dn, wl, wr, J⟩ := J
  have hv := J.2.2.2.2.2.2.2.2.2
  have hc := J.2.2.2.2.2.2.2.2.1
  have b1 := J.2.2.2.2.2.1
  have b2 := J.2.2.2.2.2.2.1
  have b3 := J.2.2.2.2.2.2.2.1
  have ev := J.2.2.1
  have M := J.1
  have hx : ∀ h1, VF v (v + 1003) h h1 → ((∃ fs, h1.2 (v + 750) = .inr (14, fs)) ∧ h1.2 1099511627776 = .inl (.int, L, .inl xs)) := fun h1 F => ⟨by
    obtain ⟨g, m, y, k, _⟩ := J_r J F
    exact ⟨_, k.1.1⟩, (F.2 _ (Or.inr (Or.inr (Nat.le_refl _)))).trans J.2.2.2.1⟩
  refine vm_metP (vm_metC (m_ism M ev h9 hz)) ?_
  rintro r h1 ⟨⟨rfl, M1, F1⟩, c1⟩
  refine ⟨_, rfl, ?_, hx h1 F1⟩
  refine vm_metP (rp_issueMany hz h9 (J_ki J) (J_r J F1)) ?_
  rintro r' h2 ⟨rfl, R2, F2⟩
  exact ⟨rfl, J_mk J hn F1 (by omega) M1 F2 R2 b1 b2 ⟨by omega, by omega⟩⟩

theorem fRe_b {st3 kk3 : Nat → Int64} (b1 : dn = true → wl = 0) (b2 : -1 ≤ wl ∧ wl ≤ 1000) (b3 : wr ≤ n ∧ rd ≤ n) : ((fRe st3 kk3 w kn rd kf D dn wl wr).2.2.2.1 = true → (fRe st3 kk3 w kn rd kf D dn wl wr).2.2.2.2.1 = 0) ∧ (-1 ≤ (fRe st3 kk3 w kn rd kf D dn wl wr).2.2.2.2.1 ∧ (fRe st3 kk3 w kn rd kf D dn wl wr).2.2.2.2.1 ≤ 1000) ∧ (fRe st3 kk3 w kn rd kf D dn wl wr).2.2.2.2.2 ≤ n + 1 ∧ (fRe st3 kk3 w kn rd kf D dn wl wr).2.1 ≤ n + 1 := by
  have base : ∀ x : Int32, (((x, rd, D, dn, wl, wr) : Int32 × Nat × (Nat → Nat) × Bool × Int × Nat).2.2.2.1 = true → wl = 0) ∧ (-1 ≤ wl ∧ wl ≤ 1000) ∧ wr ≤ n + 1 ∧ rd ≤ n + 1 := fun x => ⟨b1, b2, by omega, by omega⟩
  have sp : ((fSp D (gb w) wl wr).2.2.1 = true → (fSp D (gb w) wl wr).2.2.2.1 = 0) ∧ (-1 ≤ (fSp D (gb w) wl wr).2.2.2.1 ∧ (fSp D (gb w) wl wr).2.2.2.1 ≤ 1000) ∧ (fSp D (gb w) wl wr).2.2.2.2 ≤ n + 1 := by
    unfold fSp
    split
    · exact ⟨fun e => (nomatch e), b2, show wr ≤ n + 1 by omega⟩
    · split
      · exact ⟨fun e => (nomatch e), b2, show wr ≤ n + 1 by omega⟩
      · split
        · next z => exact ⟨fun _ => z, b2, show wr ≤ n + 1 by omega⟩
        · refine ⟨fun e => (nomatch e), ?_, ?_⟩
          · show -1 ≤ (if 0 < wl then wl - 1 else wl) ∧ (if 0 < wl then wl - 1 else wl) ≤ 1000
            split <;> omega
          · show wr + 1 ≤ n + 1
            omega
  unfold fRe
  split
  · exact base _
  · split
    · exact base _
    · split
      · exact base _
      · next i _ =>
        split
        · by_cases c : rtO st3 kk3 (kf i) w
          · rw [cif_t c]
            refine ⟨sp.1, sp.2.1, sp.2.2, ?_⟩
            show (if (fSp D (gb w) wl wr).1 = 0 then rd + 1 else rd) ≤ n + 1
            split <;> omega
          · rw [cif_f c]; exact base _
        · exact base _
theorem pj_redeem (h9 : f9.category = 1) (hn : n < 512) (J : JS v L xs t n h) : vm_Met (vm_env l O f9) mX11_redeem 0 0 [.ref v] h (fun r h1 => ∃ x : Int32, r = some (.int x) ∧ vm_Met (vm_env l O f9) mX14_redeem 0 0 [.ref (v + 750)] h1 (fun r' h2 => r' = some (.int x) ∧ JS v L xs t (n + 1) h2) ∧ ((∃ fs, h1.2 (v + 750) = .inr (14, fs)) ∧ h1.2 1099511627776 = .inl (.int, L, .inl xs))) := by
  obtain ⟨th, w, ou, kn, an, rd, ke, ae, kf, af, D, dn, wl, wr, J⟩ := J
  have hv := J.2.2.2.2.2.2.2.2.2
  have hc := J.2.2.2.2.2.2.2.2.1
  have b1 := J.2.2.2.2.2.1
  have b2 := J.2.2.2.2.2.2.1
  have b3 := J.2.2.2.2.2.2.2.1
  have ev := J.2.2.1
  have M := J.1
  have hx : ∀ h1, VF v (v + 1003) h h1 → ((∃ fs, h1.2 (v + 750) = .inr (14, fs)) ∧ h1.2 1099511627776 = .inl (.int, L, .inl xs)) := fun h1 F => ⟨by
    obtain ⟨g, m, y, k, _⟩ := J_r J F
    exact ⟨_, k.1.1⟩, (F.2 _ (Or.inr (Or.inr (Nat.le_refl _)))).trans J.2.2.2.1⟩
  have fb := fRe_b (st3 := t.2.2.1) (kk3 := t.2.2.2) (w := w) (kn := kn) (kf := kf) (D := D) (n := n) (rd := rd) (wr := wr) b1 b2 ⟨by omega, by omega⟩
  refine vm_metP (vm_metC (m_red M ev h9 (by omega) b2.1 b2.2 (by omega) (by omega))) ?_
  rintro r h1 ⟨⟨rfl, M1, F1⟩, c1⟩
  refine ⟨_, rfl, ?_, hx h1 F1⟩
  refine vm_metP (rp_redeem h9 (J_ki J) b2.1 b2.2 (J_r J F1)) ?_
  rintro r' h2 ⟨rfl, R2, F2⟩
  exact ⟨rfl, J_mk J hn F1 (by omega) M1 F2 R2 fb.1 fb.2.1 ⟨fb.2.2.1, fb.2.2.2⟩⟩

end
