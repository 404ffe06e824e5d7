/-! the mint: request, whole -/
/-- the INPUT of a REQUEST -/
def inpF (x : aK) (w : List Nat) : List Nat := nb (kty x : Nat) 2 ++ sl (gb w) 0 64 ++ kid x
/-- the blind -/
def rF (x : aK) (w : List Nat) : Nat := if kty x = 1 then bn (gb w) 64 48 else bn (gb w) (64 + ksa x) (ksz x)
noncomputable def eF (st3 kk3 : Nat → Int64) (x : aK) (w : List Nat) : Nat := bn (gb (EM st3 kk3 (ksz x) (gb (ksh x) 0) (ksa x) (inpF x w) (sl (gb w) 64 (ksa x)))) 0 (ksz x)
def okB (st3 kk3 : Nat → Int64) (x : aK) (w : List Nat) : Prop := (kty x = 1 ∧ (0 < rF x w ∧ rF x w < cQ) ∧ ecM (-3) fiv (rF x w) (htg st3 kk3 (inpF x w)) ≠ none) ∨ (kty x = 2 ∧ rF x w < bn (gb (ksh x)) 0 (ksz x) ∧ Nat.gcd (rF x w) (bn (gb (ksh x)) 0 (ksz x)) = 1 ∧ Nat.gcd (eF st3 kk3 x w) (bn (gb (ksh x)) 0 (ksz x)) = 1)
noncomputable def blF (st3 kk3 : Nat → Int64) (x : aK) (w : List Nat) : List Nat := if kty x = 1 then ptO (ecM (-3) fiv (rF x w) (htg st3 kk3 (inpF x w))) else wb (rF x w ^ bn (gb (ksh x)) (ksz x) 3 * eF st3 kk3 x w % bn (gb (ksh x)) 0 (ksz x)) (ksz x)
noncomputable def fRq (st3 kk3 : Nat → Int64) (z : Int) (w ou : List Nat) (kn an : Nat) (kf : Nat → aK) (af : Nat → aA) : Int32 × List Nat × Nat × (Nat → aA) := if (0 ≤ z ∧ z < (kn : Int)) ∧ klv (kf z.toNat) = true then (if w.length = 64 + ksa (kf z.toNat) + ksz (kf z.toNat) then (if 60 ≤ an then (-6, ou, an, af) else cif (okB st3 kk3 (kf z.toNat) w) (nI an, nb (kty (kf z.toNat) : Nat) 2 ++ [gb (kid (kf z.toNat)) 31] ++ blF st3 kk3 (kf z.toNat) w, an + 1, fu af an (z.toNat, true, inpF (kf z.toNat) w, rF (kf z.toNat) w)) (-4, ou, an, af)) else (-2, ou, an, af)) else (-3, ou, an, af)
section
variable {l : Launch} {O : Nat → vm_Ob} {f9 : Value} {v lo ts kn an rd wr : Nat} {tb : Nat → Nat} {w ou : List Nat} {ke ae : Nat → Nat} {kf : Nat → aK} {af : Nat → aA} {D : Nat → Nat} {dn : Bool} {wl : Int} {st2 kk2 : Nat → Int32} {st3 kk3 : Nat → Int64} {h : vm_H}
set_option maxHeartbeats 2000000 in
theorem m_req {z : Int} (hc9 : Jvm.Cond.castable "[B" "java/lang/Cloneable" ∈ vm_wt) (k : MS st3 kk3 v lo w ou kn an rd ke ae kf af D dn wl wr h) (ev : EV st2 kk2 st3 kk3 h) (h9 : f9.category = 1) (hz : i32 z) (hh : h.1 + 100 < 1099511627776) : vm_Met (vm_env l O f9) mX11_request 4 615 [.ref v, .int (iZ z)] h (fun r h' => r = some (.int (fRq st3 kk3 z w ou kn an kf af).1) ∧ (∃ ae', MS st3 kk3 v lo [] (fRq st3 kk3 z w ou kn an kf af).2.1 kn (fRq st3 kk3 z w ou kn an kf af).2.2.1 rd ke ae' kf (fRq st3 kk3 z w ou kn an kf af).2.2.2 D dn wl wr h') ∧ VF v lo h h' ∧ h'.1 ≤ h.1 + 4 * ((fRq st3 kk3 z w ou kn an kf af).2.2.1 - an)) := by
  obtain ⟨tb, k, ew⟩ := k
  have hts := MV_ts k
  have kb := k.1
  suffices H : ∀ Q : Option Value → vm_H → Prop, (∀ x ou' an' ae' af' h', fRq st3 kk3 z w ou kn an kf af = (x, ou', an', af') → MS st3 kk3 v lo [] ou' kn an' rd ke ae' kf af' D dn wl wr h' → VF v lo h h' → h'.1 ≤ h.1 + 4 * (an' - an) → Q (some (.int x)) h') → vm_Met (vm_env l O f9) mX11_request 4 615 [.ref v, .int (iZ z)] h Q from H _ (fun x ou' an' ae' af' h' e a b c => by rw [e]; exact ⟨rfl, ⟨ae', a⟩, b, c⟩)
  intro Q hQ
  refine vm_met rfl (Nat.le_of_ble_eq_true rfl) ?_
  refine vm_go rfl bX11_requestx_0 oX11_requestx_0 ⟨_, MV_0 k, 0, 0, _, m_use k, Nat.zero_le _, Nat.zero_le _, ?_⟩
  rintro _ h1 ⟨rfl, k1, V1, F1⟩
  have hh1 : h1.1 = h.1 := F1.1
  have kb1 := k1.1
  have ev1 := EV_vf ev V1
  refine vm_Th (lv' := [(0, .ref v), (1, .int (iZ z)), (2, .int (nI w.length))]) (h' := h1) rfl rfl ?_
  refine vm_go rfl bX11_requestx_5 oX11_requestx_5 ⟨_, MV_0 k1, 0, 0, _, m_kat k1 hz, Nat.zero_le _, Nat.zero_le _, ?_⟩
  rintro _ h1' ⟨hf, e1⟩
  rw [e1]; clear e1 h1'
  rcases hf with ⟨i, rfl, hi, rfl⟩ | ⟨ho, rfl⟩
  rotate_left
  · have e0 : fRq st3 kk3 z w ou kn an kf af = (-3, ou, an, af) := if_neg (by omega)
    refine vm_Th (lv' := [(0, .ref v), (1, .int (iZ z)), (2, .int (nI w.length)), (3, .null)]) (h' := h1) rfl rfl ?_
    exact vm_go rfl bX11_requestx_11 oX11_requestx_11 (vm_go rfl bX11_requestx_22 oX11_requestx_22 (hQ _ _ _ _ _ _ e0 (MS_0 k1) V1 (by omega)))
  rw [iZ_n]
  refine vm_Th (lv' := [(0, .ref v), (1, .int (nI i)), (2, .int (nI w.length)), (3, .ref (ke i + 2))]) (h' := h1) rfl rfl ?_
  obtain ⟨⟨rk1, rk2⟩, kY⟩ := MV_ky k1 hi
  have hkx := kx_le (kf i)
  have hT := KY_ty kY
  obtain ⟨bs, sh, se, ia, mo, kO, _, _, kI, rr, hb1, hb2⟩ := KY_o kY
  have l32 : (kid (kf i)).length = 32 := kY.1.2.2.2.1
  have kI : bv h1 32 ia (gb (kid (kf i))) := bw_n kI l32
  have eT : ((i : Int)).toNat = i := Int.toNat_natCast i
  have e0 : fRq st3 kk3 (i : Int) w ou kn an kf af = if klv (kf i) = true then (if w.length = 64 + ksa (kf i) + ksz (kf i) then (if 60 ≤ an then (-6, ou, an, af) else cif (okB st3 kk3 (kf i) w) (nI an, nb (kty (kf i) : Nat) 2 ++ [gb (kid (kf i)) 31] ++ blF st3 kk3 (kf i) w, an + 1, fu af an (i, true, inpF (kf i) w, rF (kf i) w)) (-4, ou, an, af)) else (-2, ou, an, af)) else (-3, ou, an, af) := by
    unfold fRq
    rw [eT]
    by_cases hl : klv (kf i) = true
    · rw [if_pos ⟨by omega, hl⟩, if_pos hl]
    · rw [if_neg (fun y => hl y.2), if_neg hl]
  cases hl : klv (kf i) with
  | false =>
    rw [hl, if_neg (by decide)] at e0
    rw [hl] at kO
    exact vm_go rfl bX11_requestx_11 oX11_requestx_11 ⟨_, _, kO, rfl, ⟨fun q => absurd rfl q, fun _ => vm_go rfl bX11_requestx_22 oX11_requestx_22 (hQ _ _ _ _ _ _ e0 (MS_0 k1) V1 (by omega))⟩⟩
  | true =>
  rw [if_pos hl] at e0
  rw [hl] at kO
  refine vm_go rfl bX11_requestx_11 oX11_requestx_11 ⟨_, _, kO, rfl, ⟨fun _ => ?_, fun q => absurd q (by decide)⟩⟩
  have hsz : ksz (kf i) ≤ 256 ∧ ksa (kf i) ≤ 48 := by
    rcases kY.1.2.2.2.2 with z | z
    · rw [z.2.1, z.2.2.1]; decide
    · obtain ⟨⟨ni, ri, q⟩, _⟩ := MV_k2 k1 hi z.1
      have := q.2.2.2.2.2.1.2
      have := q.2.2.2.2.2.2.1
      omega
  have es : (64 : Int32) + nI (ksa (kf i)) + nI (ksz (kf i)) = nI (64 + ksa (kf i) + ksz (kf i)) := by
    rw [show (64 : Int32) + nI (ksa (kf i)) = nI (64 + ksa (kf i)) from nI_add 64 _]; exact nI_add _ _
  by_cases hwl : w.length = 64 + ksa (kf i) + ksz (kf i)
  rotate_left
  · rw [if_neg hwl] at e0
    exact vm_go rfl bX11_requestx_25 oX11_requestx_25 ⟨_, _, kO, rfl, ⟨_, _, kO, rfl, ⟨fun q => absurd (show nI w.length = 64 + nI (ksa (kf i)) + nI (ksz (kf i)) from q) (by rw [es, nI_ij (by omega) (by omega)]; exact hwl), fun _ => hQ _ _ _ _ _ _ e0 (MS_0 k1) V1 (by omega)⟩⟩⟩
  rw [if_pos hwl] at e0
  refine vm_go rfl bX11_requestx_25 oX11_requestx_25 ⟨_, _, kO, rfl, ⟨_, _, kO, rfl, ⟨fun _ => ?_, fun q => absurd (show nI w.length = 64 + nI (ksa (kf i)) + nI (ksz (kf i)) by rw [es, hwl]) q⟩⟩⟩
  have han9 := MV_an k1
  by_cases han : 60 ≤ an
  · rw [if_pos han] at e0
    exact vm_go rfl bX11_requestx_44 oX11_requestx_44 ⟨_, _, MV_0 k1, rfl, ⟨fun q => absurd (show nI an < nI 60 from q) (by rw [nI_ltI (by omega) (by decide)]; omega), fun _ => hQ _ _ _ _ _ _ e0 (MS_0 k1) V1 (by omega)⟩⟩
  rw [if_neg han] at e0
  refine vm_go rfl bX11_requestx_44 oX11_requestx_44 ⟨_, _, MV_0 k1, rfl, ⟨fun _ => ?_, fun q => absurd (show nI an < nI 60 by rw [nI_ltI (by omega) (by decide)]; omega) q⟩⟩
  -- the INPUT is laid into the draft
  obtain ⟨wd, d1⟩ := MV_dr k1
  obtain ⟨bd1, d1', _⟩ := id d1
  refine vm_go rfl bX11_requestx_56 oX11_requestx_56 ⟨_, _, MV_0 k1, rfl, ⟨_, d1'.1, 0, 0, _, l_clear d1, Nat.zero_le _, Nat.zero_le _, ?_⟩⟩
  rintro _ h2 ⟨rfl, d2, F2⟩
  have G2 : fr h1 h2 (fun q => q = v + 5 ∨ q = v + 6) := fr_mono F2 (fun q z => Or.inl z)
  obtain ⟨k2, V2⟩ := MV_uD k1 G2 (fun q z => z) ⟨_, d2⟩
  obtain ⟨bd2, d2', _⟩ := id d2
  refine ⟨_, _, MV_0 k2, rfl, ⟨_, _, KO_fr kO G2 (by omega), rfl, ⟨_, d2'.1, 0, 0, _, l_nn (m := 2) (x := kty (kf i)) d2 (by decide) (by decide) (by omega), Nat.zero_le _, Nat.zero_le _, ?_⟩⟩⟩
  rintro _ h3 ⟨rfl, d3, F3⟩
  rw [List.nil_append] at d3
  obtain ⟨k3, V3⟩ := MV_uD k2 F3 (fun q z => z) ⟨_, d3⟩
  obtain ⟨bd3, d3', _⟩ := id d3
  have G3 := fr_trans G2 F3
  refine ⟨_, _, MV_0 k3, rfl, ⟨_, _, MV_0 k3, rfl, ⟨_, _, (MV_tp k3).1, rfl, ⟨_, d3'.1, 0, 0, _, l_all (at9 := 0) (m := 64) d3 (MV_tp k3).2.1 (by decide) (by decide) (by rw [nb_len]; decide), Nat.zero_le _, Nat.zero_le _, ?_⟩⟩⟩⟩
  rintro _ h4 ⟨rfl, d4, F4⟩
  obtain ⟨k4, V4⟩ := MV_uD k3 F4 (fun q z => z) ⟨_, d4⟩
  obtain ⟨bd4, d4', _⟩ := id d4
  have G4 := fr_trans G3 F4
  refine ⟨_, _, MV_0 k4, rfl, ⟨_, _, KO_fr kO G4 (by omega), rfl, ⟨_, d4'.1, 0, 0, _, l_all (at9 := 0) (m := 32) d4 (fr_bv G4 kI (by omega)) (by decide) (by decide) (by rw [List.length_append, nb_len, sl_len]; decide), Nat.zero_le _, Nat.zero_le _, ?_⟩⟩⟩
  rintro _ h5 ⟨rfl, d5, F5⟩
  obtain ⟨k5, V5⟩ := MV_uD k4 F5 (fun q z => z) ⟨_, d5⟩
  have G5 := fr_trans G4 F5
  have c5 : h5.1 = h.1 := G5.1.trans hh1
  have V5 := VF_t V1 (VF_t V2 (VF_t V3 (VF_t V4 V5)))
  clear V2 V3 V4
  have ein : nb (kty (kf i) : Nat) 2 ++ sl tb 0 64 ++ sl (gb (kid (kf i))) 0 32 = inpF (kf i) w := by
    unfold inpF
    rw [sl_w ew (by omega), ← l32, sl_gb]
  rw [ein] at d5
  have lin : (inpF (kf i) w).length = 98 := by unfold inpF; rw [List.length_append, List.length_append, nb_len, sl_len, l32]
  obtain ⟨bd, d5', sd⟩ := id d5
  rw [lin] at sd
  have ev5 := EV_vf ev V5
  have kO5 := KO_fr kO G5 (by omega)
  have hin : ok8 (inpF (kf i) w) := by
    rw [← sd]
    obtain ⟨f, ef, vf⟩ := d5'.2.1
    exact ok8_sl (fun j hj => (vf _ (by omega)).2)
  -- behind the blinding
  have bad : ∀ (h6 : vm_H), MV st3 kk3 v lo tb 0 ou kn an rd ke ae kf af D dn wl wr h6 → VF v lo h h6 → h6.1 = h.1 → ¬ okB st3 kk3 (kf i) w → vm_T (vm_env l O f9) mX11_request 4 615 164 [(0, .ref v), (1, .int (nI i)), (2, .int (nI w.length)), (3, .ref (ke i + 2))] [.int 0] h6 Q := by
    intro h6 k6 V6 c6 n
    refine vm_go rfl bX11_requestx_164 oX11_requestx_164 ?_
    refine vm_Th (lv' := [(0, .ref v), (1, .int (nI i)), (2, .int (nI w.length)), (3, .ref (ke i + 2)), (4, .int 0)]) (h' := h6) rfl rfl ?_
    exact vm_go rfl bX11_requestx_166 oX11_requestx_166 ⟨fun q => absurd rfl q, fun _ => hQ _ _ _ _ _ _ (e0.trans (cif_f n)) (MS_0 k6) V6 (by omega)⟩
  have toA : ∀ (h6 : vm_H), vm_T (vm_env l O f9) mX11_request 4 615 174 [(0, .ref v), (1, .int (nI i)), (2, .int (nI w.length)), (3, .ref (ke i + 2)), (4, .int 1)] [] h6 Q → vm_T (vm_env l O f9) mX11_request 4 615 164 [(0, .ref v), (1, .int (nI i)), (2, .int (nI w.length)), (3, .ref (ke i + 2))] [.int 1] h6 Q := by
    intro h6 T
    refine vm_go rfl bX11_requestx_164 oX11_requestx_164 ?_
    refine vm_Th (lv' := [(0, .ref v), (1, .int (nI i)), (2, .int (nI w.length)), (3, .ref (ke i + 2)), (4, .int 1)]) (h' := h6) rfl rfl ?_
    exact vm_go rfl bX11_requestx_166 oX11_requestx_166 ⟨fun _ => T, fun q => absurd q (by decide)⟩
  have fin : ∀ (h6 h8 : vm_H) (bl iv : List Nat) (n1 n2 : Nat) (c1 c2 : Nat → Nat), MV st3 kk3 v lo tb 0 ou kn an rd ke ae kf af D dn wl wr h6 → VF v lo h h6 → h6.1 = h.1 → okB st3 kk3 (kf i) w → h8.1 = h6.1 + 4 → (∀ q, q < h6.1 ∨ 1099511627776 ≤ q → h8.2 q = h6.2 q) → AO h8 h6.1 (ke i + 2) (h6.1 + 1) (h6.1 + 2) (h6.1 + 3) 1 → bv h8 98 (h6.1 + 1) bd → bv h8 n1 (h6.1 + 2) c1 → bv h8 n2 (h6.1 + 3) c2 → sl c1 0 n1 = blF st3 kk3 (kf i) w → sl c2 0 n2 = iv → n1 ≤ 256 → AI st3 kk3 (i, true, inpF (kf i) w, rF (kf i) w) (kf i) (blF st3 kk3 (kf i) w) iv → ∀ kc ks, vm_T (vm_env l O f9) mX11_request kc ks 243 [(0, .ref v), (1, .int (nI i)), (2, .int (nI w.length)), (3, .ref (ke i + 2)), (4, .int 1)] [.ref h6.1] h8 Q := by
    intro h6 h8 bl iv n1 n2 c1 c2 k6 V6 c6 hok c8 u8 a8 i8 b8 v8 e8 e9 hn1 ai kc ks
    have i8' := bw_of i8
    rw [sd] at i8'
    have b8' := bw_of b8
    rw [e8] at b8'
    have v8' := bw_of v8
    rw [e9] at v8'
    refine m_rt (x := (i, true, inpF (kf i) w, rF (kf i) w)) (bl := blF st3 kk3 (kf i) w) k6 (by omega) rfl c8 (by omega) hi rfl u8 ⟨a8, i8', _, iv, ai, b8', v8'⟩ b8' (by rw [← e8, sl_len]; exact hn1) (fun h9 k9 V9 c9 => hQ _ _ _ _ _ _ (e0.trans (cif_t hok)) (MS_0 k9) (VF_t V6 V9) (by omega))
  rcases hT with t1 | t2
  · obtain ⟨z2, z3⟩ : ksz (kf i) = 48 ∧ ksa (kf i) = 0 := by
      rcases kY.1.2.2.2.2 with y | y
      · exact ⟨y.2.1, y.2.2.1⟩
      · exact absurd y.1 (by omega)
    have er : bn tb 64 48 = rF (kf i) w := by
      unfold rF
      rw [if_pos t1]; exact bn_w ew (by omega)
    obtain ⟨W0, B0, P0, g0, o0⟩ := MV_op k5
    refine ⟨_, _, kO5, rfl, ⟨fun q => absurd (show nI (kty (kf i)) = 1 by rw [t1]; rfl) q, fun _ => ⟨_, _, MV_0 k5, rfl, ⟨_, _, MV_0 k5, rfl, ⟨_, _, d5'.1, rfl, ⟨_, _, MV_0 k5, rfl, ⟨_, _, (MV_tp k5).1, rfl, ⟨_, OP_t o0, 0, 0, _, p_bli (at9 := 64) h9 o0 ev5 d5'.2.1 (by unfold OR; omega) (by decide) (by decide) (MV_tp k5).2.1 (by unfold OR; omega) (by decide) (by decide), Nat.zero_le _, Nat.zero_le _, ?_⟩⟩⟩⟩⟩⟩⟩⟩
    rintro _ h6 ⟨⟨ok, rfl, hok, W6, B6, P6, g6, o6, _, h6b⟩, F6⟩
    rw [sd, er] at hok h6b
    obtain ⟨k6, V6⟩ := MV_uO k5 F6 (fun q z => by unfold OR at z; omega) ⟨W6, B6, P6, g6, o6⟩
    have c6 : h6.1 = h.1 := F6.1.trans c5
    have V6 := VF_t V5 V6
    cases ok with
    | false => exact bad h6 k6 V6 c6 (fun y => y.elim (fun y => nomatch (hok.mpr y.2)) (fun y => absurd y.1 (by omega)))
    | true =>
      have hok := hok.mp rfl
      obtain ⟨hb6, iv, iv1, iv2, hv6⟩ := h6b rfl
      have hokB : okB st3 kk3 (kf i) w := Or.inl ⟨t1, hok⟩
      have kO6 := KO_fr kO5 F6 (by unfold OR; omega)
      have eB : ptO (ecM (-3) fiv (rF (kf i) w) (htg st3 kk3 (inpF (kf i) w))) = blF st3 kk3 (kf i) w := by unfold blF; rw [if_pos t1]
      refine toA h6 ?_
      have df0 : (vm_df 0).length = 5 := rfl
      refine vm_go rfl bX11_requestx_174 oX11_requestx_174 ⟨_, _, kO6, rfl, ⟨fun q => absurd (show nI (kty (kf i)) = 1 by rw [t1]; rfl) q, fun _ => ⟨by decide, by decide, by omega, ?_⟩⟩⟩
      generalize hq7 : vm_nw h6 _ = h7
      have c7 : h7.1 = h6.1 + 1 := by rw [← hq7]; rfl
      have a7 : h7.2 h6.1 = .inr (0, vm_df 0) := by rw [← hq7]; exact nw_e
      have u7 : ∀ q, q ≠ h6.1 → h7.2 q = h6.2 q := fun q y => by rw [← hq7]; exact nw_n y
      clear hq7
      have v7 := (u7 v (by omega)).trans (MV_0 k6)
      have kO7 : KO h7 (ke i + 2) _ _ _ _ _ _ _ _ _ := (u7 _ (by omega)).trans kO6
      have o7 : OPc (v + 13) h7 W6 B6 P6 g6 := OP_out o6 (fun q y1 y2 => u7 q (by omega))
      have d7 := (u7 (v + 5) (by omega)).trans ((F6.2 (v + 5) (by unfold OR; omega)).trans d5'.1)
      have bd7 := bv_cg (fr_bv F6 d5'.2.1 (by unfold OR; omega)) (u7 (v + 6) (by omega))
      have hbs : bs = 49 := hb1 t1
      rw [hbs, z2, z3, t1] at kO7
      refine ⟨_, _, v7, rfl, ⟨_, _, d7, rfl, ⟨_, _, v7, rfl, ⟨_, _, OP_t o7, rfl, ⟨_, _, v7, rfl, ⟨_, _, OP_t o7, rfl, ⟨3, 98 + 49 + 48, _, v_ask hc9 a7 (by omega) kO7 (by omega) bd7 (OP_b o7 (j := 0) (by decide)) (OP_b o7 (j := 1) (by decide)) (by omega) (show v + 13 + 1 < h7.1 by omega) (show v + 13 + 2 < h7.1 by omega) (by decide) (by decide) (by decide) (by decide) (by decide) (by decide) (by omega), by decide, by decide, ?_⟩⟩⟩⟩⟩⟩⟩
      rintro _ h8 ⟨rfl, c8, a8, i8, b8, w8, u8⟩
      rw [c7] at c8 a8 i8 b8 w8 u8
      refine fin h6 h8 [] (wb iv 48) 49 48 (B6 0) (B6 1) k6 V6 c6 hokB (by omega) (fun q y => by rw [u8 q (by omega) (by omega), u7 q (by omega)]) a8 i8 b8 w8 (hb6.trans eB) hv6 (by decide) ⟨hin, lin, Or.inl ⟨t1, hok.1, hok.2, eB.symm, iv, iv1, iv2, rfl⟩⟩ _ _
  · obtain ⟨⟨ni, ri, q5⟩, ka⟩ := MV_k2 k5 hi t2
    have hlen := q5.2.2.2.2.2.1
    obtain ⟨w0, B0, o0⟩ := MV_rs k5
    have er : bn tb (64 + ksa (kf i)) (ksz (kf i)) = rF (kf i) w := by
      unfold rF
      rw [if_neg (by omega)]; exact bn_w ew (by omega)
    have ee : bn (gb (EM st3 kk3 (ksz (kf i)) (gb (ksh (kf i)) 0) (ksa (kf i)) (inpF (kf i) w) (sl tb 64 (ksa (kf i))))) 0 (ksz (kf i)) = eF st3 kk3 (kf i) w := by
      unfold eF
      rw [sl_w ew (by omega)]
    refine ⟨_, _, kO5, rfl, ⟨fun _ => ?_, fun q => absurd (show nI (kty (kf i)) = 1 from q) (by rw [t2]; decide)⟩⟩
    refine vm_go rfl bX11_requestx_140 oX11_requestx_140 ⟨_, _, MV_0 k5, rfl, ⟨_, _, MV_0 k5, rfl, ⟨_, _, d5'.1, rfl, ⟨_, _, MV_0 k5, rfl, ⟨_, _, (MV_tp k5).1, rfl, ⟨_, RS_t o0, 0, 0, _, x_bli (at9 := 64) o0 ev5 q5 ka d5'.2.1 (by unfold RA; omega) (by decide) (by decide) (MV_tp k5).2.1 (by unfold RA; omega) (by omega) (by decide), Nat.zero_le _, Nat.zero_le _, ?_⟩⟩⟩⟩⟩⟩
    rintro _ h6 ⟨⟨ok, rfl, hok, w6, B6, o6, h6b⟩, q6, F6⟩
    rw [sd, er, ee] at hok h6b
    obtain ⟨k6, V6⟩ := MV_uF k5 hi t2 (by omega) F6 ⟨w6, B6, o6⟩ q6
    have c6 : h6.1 = h.1 := F6.1.trans c5
    have V6 := VF_t V5 V6
    have hFM := fun q (y : FM (v + 724) (Am (ke i + 3) (ke i + 4)) q) => FM_in kb1.2.1 rk1 y
    cases ok with
    | false => exact bad h6 k6 V6 c6 (fun y => y.elim (fun y => absurd y.1 (by omega)) (fun y => nomatch (hok.mpr y.2)))
    | true =>
      have hok := hok.mp rfl
      obtain ⟨hb6, iv, iv1, iv2, hv6⟩ := h6b rfl
      have hokB : okB st3 kk3 (kf i) w := Or.inr ⟨t2, hok⟩
      have kO6 := q6.1
      have eB : wb (rF (kf i) w ^ bn (gb (ksh (kf i))) (ksz (kf i)) 3 * eF st3 kk3 (kf i) w % bn (gb (ksh (kf i))) 0 (ksz (kf i))) (ksz (kf i)) = blF st3 kk3 (kf i) w := by unfold blF; rw [if_neg (by omega)]
      refine toA h6 ?_
      have df0 : (vm_df 0).length = 5 := rfl
      refine vm_go rfl bX11_requestx_174 oX11_requestx_174 ⟨_, _, kO6, rfl, ⟨fun _ => ?_, fun q => absurd (show nI 2 = 1 from q) (by decide)⟩⟩
      refine vm_go rfl bX11_requestx_214 oX11_requestx_214 ⟨by decide, by decide, by omega, ?_⟩
      generalize hq7 : vm_nw h6 _ = h7
      have c7 : h7.1 = h6.1 + 1 := by rw [← hq7]; rfl
      have a7 : h7.2 h6.1 = .inr (0, vm_df 0) := by rw [← hq7]; exact nw_e
      have u7 : ∀ q, q ≠ h6.1 → h7.2 q = h6.2 q := fun q y => by rw [← hq7]; exact nw_n y
      clear hq7
      have v7 := (u7 v (by omega)).trans (MV_0 k6)
      have kO7 : KO h7 (ke i + 2) _ _ _ _ _ _ _ _ _ := (u7 _ (by omega)).trans kO6
      have o7 : RSc (v + 724) h7 w6 B6 := RS_out o6 (fun q y1 y2 => u7 q (by omega))
      have d7 := (u7 (v + 5) (by omega)).trans ((F6.2 (v + 5) (fun y => by have := hFM _ y; omega)).trans d5'.1)
      have bd7 := bv_cg (fr_bv F6 d5'.2.1 (fun y => by have := hFM _ y; omega)) (u7 (v + 6) (by omega))
      refine ⟨_, _, v7, rfl, ⟨_, _, d7, rfl, ⟨_, _, v7, rfl, ⟨_, _, RS_t o7, rfl, ⟨_, _, v7, rfl, ⟨_, _, RS_t o7, rfl, ⟨3, 98 + ksz (kf i) + ksz (kf i), _, v_ask hc9 a7 (by omega) kO7 (by omega) bd7 (RS_b o7 (j := 0) (by decide)) (RS_b o7 (j := 1) (by decide)) (by omega) (show v + 724 + 1 < h7.1 by omega) (show v + 724 + 2 < h7.1 by omega) (by decide) (show ksz (kf i) ≤ 256 by omega) (show ksz (kf i) ≤ 256 by omega) (by decide) (by decide) (by decide) (by omega), by decide, by omega, ?_⟩⟩⟩⟩⟩⟩⟩
      rintro _ h8 ⟨rfl, c8, a8, i8, b8, w8, u8⟩
      rw [c7] at c8 a8 i8 b8 w8 u8
      refine fin h6 h8 [] (wb iv (ksz (kf i))) (ksz (kf i)) (ksz (kf i)) (B6 0) (B6 1) k6 V6 c6 hokB (by omega) (fun q y => by rw [u8 q (by omega) (by omega), u7 q (by omega)]) a8 i8 b8 w8 (hb6.trans eB) hv6 (by omega) ⟨hin, lin, Or.inr ⟨t2, hok.1, by rw [← eB, wb_len], iv, iv1, iv2, rfl⟩⟩ _ _
end
