/-! the mint: key, whole -/
theorem K2_e {h : vm_H} {K len s sh se ki : Nat} {lv : Int32} {A : Nat → Nat} {ni ri : Nat} {shb seb shb' seb' : Nat → Nat} (k : K2 h K len s sh se ki lv A ni ri shb seb) (e1 : ∀ j, j < len + 3 → shb' j = shb j) (e2 : ∀ j, j < len → seb' j = seb j) : K2 h K len s sh se ki lv A ni ri shb' seb' := by
  obtain ⟨k1, k2, k3, k4, k5, k6, k7, k8⟩ := k
  have e : bn shb' 0 len = bn shb 0 len := bn_ext len (fun j hj => by rw [Nat.zero_add]; exact e1 j (by omega))
  refine ⟨k1, bv_ext k2 e1, bv_ext k3 e2, ?_, ?_, k6, k7, ?_⟩
  · rw [e]; exact k4
  · rw [e]; exact k5
  · rw [e1 0 (by omega)]; exact k8
/-- whether so many bytes are a KEY -/
def okK (z : Int) (w : List Nat) : Prop := (z = 1 ∧ w.length = 48 ∧ 0 < bn (gb w) 0 48 ∧ bn (gb w) 0 48 < cQ) ∨ (z = 2 ∧ kOK (gb w) w.length)
noncomputable def mkK (z : Int) (w : List Nat) : aK := if z = 1 then (1, 48, 0, true, ptO (ecM (-3) fiv (bn (gb w) 0 48) gP), w, []) else (2, (w.length - 4) / 2, gb w (w.length - 1), true, sl (gb w) 0 ((w.length - 4) / 2 + 3), sl (gb w) ((w.length - 4) / 2 + 3) ((w.length - 4) / 2), [])
noncomputable def fKy (st2 kk2 : Nat → Int32) (z : Int) (w : List Nat) (kn : Nat) (kf : Nat → aK) : Int32 × Nat × (Nat → aK) := cif (okK z w) (if 6 ≤ kn then (-6, kn, kf) else (nI kn, kn + 1, fu kf kn (kwi (mkK z w) (kdi st2 kk2 (mkK z w))))) (-2, kn, kf)
theorem kOK_c9 {b c : Nat → Nat} {n : Nat} (e : ∀ j, j < n → b j = c j) : kOK b n ↔ kOK c n := by
  by_cases h : 136 ≤ n ∧ n ≤ 516 ∧ n % 2 = 0
  · obtain ⟨h1, h2, h3⟩ := h
    unfold kOK
    rw [e 0 (by omega), e ((n - 4) / 2 - 1) (by omega), e (n - 1) (by omega), bn_ext (b := b) (b' := c) (at9 := (n - 4) / 2) (at8 := (n - 4) / 2) 3 (fun j hj => e _ (by omega)), bn_ext (b := b) (b' := c) (at9 := (n - 4) / 2 + 3) (at8 := (n - 4) / 2 + 3) ((n - 4) / 2) (fun j hj => e _ (by omega)), bn_ext (b := b) (b' := c) (at9 := 0) (at8 := 0) ((n - 4) / 2) (fun j hj => e _ (by omega))]
  · exact ⟨fun z => absurd ⟨z.1, z.2.1, z.2.2.1⟩ h, fun z => absurd ⟨z.1, z.2.1, z.2.2.1⟩ h⟩
theorem w_all3 {w : List Nat} {len : Nat} (h : w.length = 2 * len + 4) : sl (gb w) 0 (len + 3) ++ sl (gb w) (len + 3) len ++ [gb w (w.length - 1)] = w := by
  have e1 : [gb w (w.length - 1)] = sl (gb w) (len + 3 + len) 1 := by
    rw [show w.length - 1 = len + 3 + len by omega]; rfl
  have e2 := sl_app (b := gb w) (p := 0) (i := len + 3) (k := len)
  have e3 := sl_app (b := gb w) (p := 0) (i := len + 3 + len) (k := 1)
  rw [Nat.zero_add] at e2 e3
  rw [e1, ← e2, ← e3, show len + 3 + len + 1 = w.length by omega, sl_gb]
section
variable {l : Launch} {O : Nat → vm_Ob} {f9 : Value} {v lo ts kn an rd wr : Nat} {tb : Nat → Nat} {w ou : List Nat} {ke ae : Nat → Nat} {kf : Nat → aK} {af : Nat → aA} {D : Nat → Nat} {dn : Bool} {wl : Int} {st2 kk2 : Nat → Int32} {st3 kk3 : Nat → Int64} {h : vm_H}
set_option maxHeartbeats 1000000 in
theorem m_key {z : Int} (hc9 : Jvm.Cond.castable "[B" "java/lang/Cloneable" ∈ vm_wt) (k : MS st3 kk3 v lo w ou kn an rd ke ae kf af D dn wl wr h) (ev : EV st2 kk2 st3 kk3 h) (hz : i32 z) (hh : h.1 + 100 < 1099511627776) : vm_Met (vm_env l O f9) mX11_key 27 2134 [.ref v, .int (iZ z)] h (fun r h' => r = some (.int (fKy st2 kk2 z w kn kf).1) ∧ (∃ ke', MS st3 kk3 v lo [] ou (fKy st2 kk2 z w kn kf).2.1 an rd ke' ae (fKy st2 kk2 z w kn kf).2.2 af D dn wl wr h') ∧ VF v lo h h' ∧ h'.1 ≤ h.1 + 27 * ((fKy st2 kk2 z w kn kf).2.1 - kn)) := by
  obtain ⟨tb, k, ew⟩ := k
  have hts := MV_ts k
  have kb := k.1
  suffices H : ∀ Q : Option Value → vm_H → Prop, (∀ x kn' ke' kf' h', fKy st2 kk2 z w kn kf = (x, kn', kf') → MS st3 kk3 v lo [] ou kn' an rd ke' ae kf' af D dn wl wr h' → VF v lo h h' → h'.1 ≤ h.1 + 27 * (kn' - kn) → Q (some (.int x)) h') → vm_Met (vm_env l O f9) mX11_key 27 2134 [.ref v, .int (iZ z)] h Q from H _ (fun x kn' ke' kf' h' e a b c => by rw [e]; exact ⟨rfl, ⟨ke', a⟩, b, c⟩)
  have o0 : ok8 (sl (fun _ => 0) 0 32) := ok8_sl (fun j hj => by decide)
  have l0 : (sl (fun _ => 0) 0 32).length = 32 := sl_len
  intro Q hQ
  refine vm_met rfl (Nat.le_of_ble_eq_true rfl) ?_
  refine vm_go rfl bX11_keyx_0 oX11_keyx_0 ⟨_, MV_0 k, 0, 0, _, m_use k, Nat.zero_le _, Nat.zero_le _, ?_⟩
  rintro _ h1 ⟨rfl, k1, V1, F1⟩
  have hh1 : h1.1 = h.1 := F1.1
  refine vm_Th (lv' := [(0, .ref v), (1, .int (iZ z)), (2, .int (nI w.length))]) (h' := h1) rfl rfl ?_
  refine vm_go rfl bX11_keyx_5 oX11_keyx_5 ?_
  refine vm_Th (lv' := [(0, .ref v), (1, .int (iZ z)), (2, .int (nI w.length)), (3, .int 0)]) (h' := h1) rfl rfl ?_
  -- it is none
  have bad : ∀ (h2 : vm_H), MV st3 kk3 v lo tb 0 ou kn an rd ke ae kf af D dn wl wr h2 → VF v lo h h2 → h2.1 = h.1 → ¬ okK z w → vm_T (vm_env l O f9) mX11_key 27 2134 62 [(0, .ref v), (1, .int (iZ z)), (2, .int (nI w.length)), (3, .int 0)] [] h2 Q := fun h2 k2 V2 c2 n =>
    vm_go rfl bX11_keyx_62 oX11_keyx_62 ⟨fun q => absurd rfl q, fun _ => hQ _ _ _ _ _ (cif_f n) (MS_0 k2) V2 (by omega)⟩
  -- it is one
  have good : ∀ (h2 : vm_H), MV st3 kk3 v lo tb 0 ou kn an rd ke ae kf af D dn wl wr h2 → VF v lo h h2 → h2.1 = h.1 → okK z w → vm_T (vm_env l O f9) mX11_key 27 2134 62 [(0, .ref v), (1, .int (iZ z)), (2, .int (nI w.length)), (3, .int 1)] [] h2 Q := by
    intro h2 k2 V2 c2 hok
    have e0 : fKy st2 kk2 z w kn kf = _ := cif_t hok
    have ev2 := EV_vf ev V2
    have kb2 := k2.1
    refine vm_go rfl bX11_keyx_62 oX11_keyx_62 ⟨fun _ => ?_, fun q => absurd q (by decide)⟩
    by_cases hkn : 6 ≤ kn
    · rw [if_pos hkn] at e0
      have := MV_kn k2
      exact vm_go rfl bX11_keyx_69 oX11_keyx_69 ⟨_, _, MV_0 k2, rfl, ⟨fun q => absurd (show nI kn < nI 6 from q) (by rw [nI_ltI (by omega) (by decide)]; omega), fun _ => hQ _ _ _ _ _ e0 (MS_0 k2) V2 (by omega)⟩⟩
    rw [if_neg hkn] at e0
    refine vm_go rfl bX11_keyx_69 oX11_keyx_69 ⟨_, _, MV_0 k2, rfl, ⟨fun _ => ?_, fun q => absurd (show nI kn < nI 6 by rw [nI_ltI (by omega) (by decide)]; omega) q⟩⟩
    have fin : ∀ (h4 : vm_H) (n4 : Nat), MV st3 kk3 v lo tb 0 ou (kn + 1) an rd (fu ke kn h2.1) ae (fu kf kn (kwi (mkK z w) (kdi st2 kk2 (mkK z w)))) af D dn wl wr h4 → VF v lo h2 h4 → h4.1 = n4 → n4 ≤ h.1 + 27 → Q (some (.int (nI kn))) h4 := by
      intro h4 n4 k4 V4 c4 d4
      exact hQ _ _ _ _ _ e0 (MS_0 k4) (VF_t V2 V4) (by omega)
    rcases hok with ⟨z1, l48, p1, p2⟩ | ⟨z2, kO⟩
    · obtain ⟨W, B, V, g, o2⟩ := MV_op k2
      have eb : bn tb 0 48 = bn (gb w) 0 48 := bn_w ew (by omega)
      have ew48 : sl tb 0 48 = w := by have := ew; rwa [l48] at this
      have em : mkK z w = (1, 48, 0, true, ptO (ecM (-3) fiv (bn (gb w) 0 48) gP), w, []) := if_pos z1
      rw [z1]
      refine vm_go rfl bX11_keyx_81 oX11_keyx_81 ⟨fun q => absurd rfl q, fun _ => ⟨_, _, MV_0 k2, rfl, ⟨_, _, MV_0 k2, rfl, ⟨_, _, (MV_tp k2).1, rfl, ⟨_, OP_t o2, 4, 138, _, p_mkk hc9 o2 (by omega) (by omega) (MV_tp k2).2.1 (by unfold OR; omega) (by omega) (by decide) (by decide) (by rw [eb]; exact p1) (by rw [eb]; exact p2), by decide, by decide, ?_⟩⟩⟩⟩⟩
      rintro _ h3 ⟨rfl, c3, K3, s3, ⟨shb, sh3, es3⟩, i3, ⟨g3, o3⟩, u3⟩
      rw [eb] at es3
      have hx4 : kx (kwi (mkK z w) (sl (fun _ => 0) 0 32)) = 4 := if_pos (by rw [em]; rfl)
      have kY : KY h3 v h2.1 (kwi (mkK z w) (sl (fun _ => 0) 0 32)) := by
        rw [em]
        have ow : ok8 w := by
          rw [← ew48]
          obtain ⟨f, ef, vf⟩ := s3
          exact ok8_sl (fun j hj => by rw [Nat.zero_add]; exact (vf j hj).2)
        have os : ok8 (ptO (ecM (-3) fiv (bn (gb w) 0 48) gP)) := ptO_ok
        refine ⟨⟨os, ow, o0, l0, Or.inl ⟨rfl, rfl, rfl, l48, ⟨p1, p2⟩, rfl⟩⟩, Or.inl ⟨rfl, K3, ?_, ?_, bw_of i3⟩⟩
        · show bw h3 h2.1 w
          have := bw_of s3
          rwa [ew48] at this
        · show bw h3 (h2.1 + 1) (ptO (ecM (-3) fiv (bn (gb w) 0 48) gP))
          have := bw_of sh3
          rwa [es3] at this
      have et : (kty (kwi (mkK z w) (sl (fun _ => 0) 0 32))) = 1 := by rw [em]; rfl
      have := m_kt (l := l) (O := O) (f9 := f9) (kc := 27 - 0 - 4) (ks := 2134 - 0 - 138) (y2 := nI w.length) (y3 := 1) (Q := Q) k2 (EV_fr ev2 (fun q hq => u3 q (by unfold OR; omega) (Or.inr hq))) (by omega) rfl (by rw [c3, hx4]) (by omega) (fun q z1 z2 => u3 q (by unfold OR; omega) z2) ⟨_, _, _, _, o3⟩ kY (fun h4 k4 V4 c4 => fin h4 h3.1 k4 V4 c4 (by omega))
      rw [et] at this
      exact vm_more this (by decide) (by decide)
    · obtain ⟨q1, q2, q3, _⟩ := id kO
      have em : mkK z w = _ := if_neg (by omega)
      have kO2 : kOK tb w.length := (kOK_c9 (fun j hj => gb_w ew hj)).mpr kO
      rw [z2]
      refine vm_go rfl bX11_keyx_81 oX11_keyx_81 ⟨fun _ => ?_, fun q => absurd q (by decide)⟩
      refine vm_go rfl bX11_keyx_103 oX11_keyx_103 ⟨_, _, MV_0 k2, rfl, ⟨_, _, (MV_tp k2).1, rfl, ⟨27, 2134, _, x_mkk hc9 (MV_tp k2).2.1 (by omega) (by omega) (by decide) (by omega) kO2, by decide, by decide, ?_⟩⟩⟩
      rintro _ h3 ⟨rfl, c3, ⟨ni, ri, K3⟩, i3, u3⟩
      obtain ⟨len, hlen⟩ : ∃ len, (w.length - 4) / 2 = len := ⟨_, rfl⟩
      rw [hlen] at em K3
      have e9 : tb (w.length - 1) = gb w (w.length - 1) := gb_w ew (by omega)
      rw [e9] at K3
      have wl9 : w.length = 2 * len + 4 := by omega
      have hx27 : kx (kwi (mkK z w) (sl (fun _ => 0) 0 32)) = 27 := if_neg (by rw [em]; show ¬ (2 = 1); decide)
      have ow : ∀ j, gb w j < 256 := by
        intro j
        by_cases hj : j < w.length
        · obtain ⟨f, ef, vf⟩ := (MV_tp k2).2.1
          rw [← gb_w ew hj]; exact (vf j (by omega)).2
        · unfold gb
          rw [List.getD_eq_getElem?_getD, List.getElem?_eq_none (by omega)]; decide
      have kY : KY h3 v h2.1 (kwi (mkK z w) (sl (fun _ => 0) 0 32)) := by
        rw [em]
        have os : ok8 (sl (gb w) 0 (len + 3)) := ok8_sl (fun j hj => ow _)
        have oe : ok8 (sl (gb w) (len + 3) len) := ok8_sl (fun j hj => ow _)
        refine ⟨⟨os, oe, o0, l0, Or.inr ⟨rfl, ?_, (sl_len : (sl (gb w) 0 (len + 3)).length = len + 3), (sl_len : (sl (gb w) (len + 3) len).length = len)⟩⟩, Or.inr ⟨rfl, ⟨ni, ri, K2_e K3 (fun j hj => ?_) (fun j hj => ?_)⟩, bw_of i3⟩⟩
        · show kOK (gb (sl (gb w) 0 (len + 3) ++ sl (gb w) (len + 3) len ++ [gb w (w.length - 1)])) (2 * len + 4)
          rw [w_all3 wl9, ← wl9]; exact kO
        · show gb (sl (gb w) 0 (len + 3)) j = tb j
          have hj : j < len + 3 := hj
          rw [gb_sl hj, Nat.zero_add, gb_w ew (show j < w.length by omega)]
        · show gb (sl (gb w) (len + 3) len) j = tb (len + 3 + j)
          have hj : j < len := hj
          rw [gb_sl hj, gb_w ew (show len + 3 + j < w.length by omega)]
      have et : (kty (kwi (mkK z w) (sl (fun _ => 0) 0 32))) = 2 := by rw [em]; rfl
      obtain ⟨W, B, V, g, o2⟩ := MV_op k2
      have := m_kt (l := l) (O := O) (f9 := f9) (kc := 27 - 0 - 27) (ks := 2134 - 0 - 2134) (y2 := nI w.length) (y3 := 1) (Q := Q) k2 (EV_fr ev2 (fun q hq => u3 q (Or.inr hq))) (by omega) rfl (by rw [c3, hx27]) (by omega) (fun q z1 z2 => u3 q z2) ⟨_, _, _, _, OP_out o2 (fun q z1 z2 => u3 q (Or.inl (by omega)))⟩ kY (fun h4 k4 V4 c4 => fin h4 h3.1 k4 V4 c4 (by omega))
      rw [et] at this
      exact vm_more this (by decide) (by decide)
  have kb1 := k1.1
  by_cases z1 : z = 1
  · have h40 : ∀ (h2 : vm_H), MV st3 kk3 v lo tb 0 ou kn an rd ke ae kf af D dn wl wr h2 → VF v lo h h2 → h2.1 = h.1 → ¬ okK z w → vm_T (vm_env l O f9) mX11_key 27 2134 40 [(0, .ref v), (1, .int (iZ z)), (2, .int (nI w.length)), (3, .int 0)] [] h2 Q := fun h2 k2 V2 c2 n =>
      vm_go rfl bX11_keyx_40 oX11_keyx_40 (vm_go rfl bX11_keyx_41 oX11_keyx_41 (vm_Th (lv' := [(0, .ref v), (1, .int (iZ z)), (2, .int (nI w.length)), (3, .int 0)]) (h' := h2) rfl rfl (vm_go rfl bX11_keyx_42 oX11_keyx_42 (bad h2 k2 V2 c2 n))))
    by_cases l48 : w.length = 48
    · obtain ⟨W, B, V, g, o1⟩ := MV_op k1
      have eb : bn tb 0 48 = bn (gb w) 0 48 := bn_w ew (by omega)
      refine vm_go rfl bX11_keyx_7 oX11_keyx_7 ⟨fun q => absurd (show iZ z = 1 by rw [z1]; rfl) q, fun _ => ⟨fun q => absurd (show nI w.length = 48 by rw [l48]; rfl) q, fun _ => ⟨_, _, MV_0 k1, rfl, ⟨_, _, MV_0 k1, rfl, ⟨_, _, (MV_tp k1).1, rfl, ⟨_, OP_t o1, 0, 0, _, p_secr (at9 := 0) o1 (MV_tp k1).2.1 (by decide) (by decide), Nat.zero_le _, Nat.zero_le _, ?_⟩⟩⟩⟩⟩⟩
      rintro _ h2 ⟨rfl, o2, F2⟩
      obtain ⟨k2, V2⟩ := MV_uO k1 F2 (fun q z => by omega) ⟨_, _, _, _, o2⟩
      have c2 : h2.1 = h.1 := F2.1.trans hh1
      rw [eb]
      by_cases p : 0 < bn (gb w) 0 48 ∧ bn (gb w) 0 48 < cQ
      · rw [if_pos p]
        refine ⟨fun q => absurd q (by decide), fun _ => ?_⟩
        exact vm_go rfl bX11_keyx_41 oX11_keyx_41 (vm_Th (lv' := [(0, .ref v), (1, .int (iZ z)), (2, .int (nI w.length)), (3, .int 1)]) (h' := h2) rfl rfl (vm_go rfl bX11_keyx_42 oX11_keyx_42 (good h2 k2 (VF_t V1 V2) c2 (Or.inl ⟨z1, l48, p⟩))))
      · rw [if_neg p]
        exact ⟨fun _ => h40 h2 k2 (VF_t V1 V2) c2 (fun y => y.elim (fun y => p y.2.2) (fun y => absurd y.1 (by omega))), fun q => absurd rfl q⟩
    · refine vm_go rfl bX11_keyx_7 oX11_keyx_7 ⟨fun q => absurd (show iZ z = 1 by rw [z1]; rfl) q, fun _ => ⟨fun _ => h40 h1 k1 V1 hh1 (fun y => y.elim (fun y => l48 y.2.1) (fun y => absurd y.1 (by omega))), fun q => absurd (show nI w.length = nI 48 from q) (by rw [nI_ij (by omega) (by decide)]; exact l48)⟩⟩
  · refine vm_go rfl bX11_keyx_7 oX11_keyx_7 ⟨fun _ => ?_, fun q => absurd (show iZ z = iZ 1 from q) (by rw [iZ_inj hz.1 hz.2 (by decide) (by decide)]; exact z1)⟩
    by_cases z2 : z = 2
    · refine vm_go rfl bX11_keyx_45 oX11_keyx_45 ⟨fun q => absurd (show iZ z = 2 by rw [z2]; rfl) q, fun _ => ⟨_, _, MV_0 k1, rfl, ⟨_, _, (MV_tp k1).1, rfl, ⟨0, 0, _, x_isk (size := w.length) (MV_tp k1).2.1 (by omega) (by decide), Nat.zero_le _, Nat.zero_le _, ?_⟩⟩⟩⟩
      rintro _ h2 ⟨⟨ok, rfl, hok⟩, e2⟩
      rw [e2]; clear e2 h2
      rw [kOK_c9 (fun j hj => gb_w ew hj)] at hok
      cases ok with
      | true => exact vm_Th (lv' := [(0, .ref v), (1, .int (iZ z)), (2, .int (nI w.length)), (3, .int 1)]) (h' := h1) rfl rfl (good h1 k1 V1 hh1 (Or.inr ⟨z2, hok.mp rfl⟩))
      | false => exact vm_Th (lv' := [(0, .ref v), (1, .int (iZ z)), (2, .int (nI w.length)), (3, .int 0)]) (h' := h1) rfl rfl (bad h1 k1 V1 hh1 (fun y => y.elim (fun y => z1 y.1) (fun y => nomatch (hok.mpr y.2))))
    · exact vm_go rfl bX11_keyx_45 oX11_keyx_45 ⟨fun _ => bad h1 k1 V1 hh1 (fun y => y.elim (fun y => z1 y.1) (fun y => z2 y.1)), fun q => absurd (show iZ z = iZ 2 from q) (by rw [iZ_inj hz.1 hz.2 (by decide) (by decide)]; exact z2)⟩
end
