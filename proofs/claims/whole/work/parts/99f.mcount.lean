/-! the mint: counts, the disk, digest -/
section
variable {l : Launch} {O : Nat → vm_Ob} {f9 : Value} {v lo ts kn an rd wr : Nat} {tb : Nat → Nat} {w ou : List Nat} {ke ae : Nat → Nat} {kf : Nat → aK} {af : Nat → aA} {D : Nat → Nat} {dn : Bool} {wl : Int} {st2 kk2 : Nat → Int32} {st3 kk3 : Nat → Int64} {h : vm_H}
theorem m_tot {s m : Nat} (k : MV st3 kk3 v lo tb ts ou kn an rd ke ae kf af D dn wl wr h) (hs : s < 2147483648) (hm : m < 2147483648) : vm_Met (vm_env l O f9) mX11_typeOfTape 0 0 [.ref v, .int (nI s), .int (nI m)] h (fun r h' => r = some (.int (iZ (tot tb s m))) ∧ h' = h) := by
  have r0 := MV_tp k
  obtain ⟨f, ef, vf⟩ := r0.2.1
  have v0 := vf 0 (by decide)
  have v1 := vf 1 (by decide)
  refine vm_met rfl (Nat.le_of_ble_eq_true rfl) ?_
  have bad : tot tb s m = -1 → vm_T (vm_env l O f9) mX11_typeOfTape 0 0 17 [(0, .ref v), (1, .int (nI s)), (2, .int (nI m))] [] h (fun r h' => r = some (.int (iZ (tot tb s m))) ∧ h' = h) := by
    intro n
    rw [n]
    exact vm_go rfl bX11_typeOfTape_17 oX11_typeOfTape_17 ⟨rfl, rfl⟩
  refine vm_go rfl bX11_typeOfTape_0 oX11_typeOfTape_0 ⟨fun q => bad ?_, fun q => ⟨_, _, MV_0 k, rfl, ⟨_, _, r0.1, rfl, ⟨_, f, ef, 0, rfl, by decide, fun _ => ⟨fun q2 => ?_, fun q2 => bad ?_⟩⟩⟩⟩⟩
  · have q : nI s < nI m := q
    rw [nI_ltI hs hm] at q
    exact if_pos (Or.inl q)
  · have q : ¬ nI s < nI m := q
    rw [nI_ltI hs hm] at q
    have q2 : f 0 = nI 0 := q2
    rw [v0.1, sb_eq _ v0.2 0 (by decide)] at q2
    have e1 : tot tb s m = if tb 1 = 1 ∨ tb 1 = 2 then (tb 1 : Int) else -1 := if_neg (by omega)
    have tail : ∀ x : Int32, x = iZ (tot tb s m) → vm_T (vm_env l O f9) mX11_typeOfTape 0 0 44 [(0, .ref v), (1, .int (nI s)), (2, .int (nI m)), (3, .int (f 1))] [.int x] h (fun r h' => r = some (.int (iZ (tot tb s m))) ∧ h' = h) := fun x hx => vm_go rfl bX11_typeOfTape_44 oX11_typeOfTape_44 ⟨by rw [hx], rfl⟩
    have h39 : tb 1 = 1 ∨ tb 1 = 2 → vm_T (vm_env l O f9) mX11_typeOfTape 0 0 39 [(0, .ref v), (1, .int (nI s)), (2, .int (nI m)), (3, .int (f 1))] [] h (fun r h' => r = some (.int (iZ (tot tb s m))) ∧ h' = h) := by
      intro n
      refine vm_go rfl bX11_typeOfTape_39 oX11_typeOfTape_39 (tail _ ?_)
      rw [e1, if_pos n, v1.1, iZ_n]
      rcases n with n | n <;> rw [n] <;> rfl
    refine vm_go rfl bX11_typeOfTape_19 oX11_typeOfTape_19 ⟨_, _, MV_0 k, rfl, ⟨_, _, r0.1, rfl, ⟨_, f, ef, 1, rfl, by decide, fun _ => ⟨fun q3 => h39 ?_, fun q3 => ⟨fun q4 => ?_, fun q4 => h39 ?_⟩⟩⟩⟩⟩
    · have q3 : f 1 = nI 1 := q3
      rw [v1.1, sb_eq _ v1.2 1 (by decide)] at q3
      exact Or.inl q3
    · have q3 : ¬ f 1 = nI 1 := q3
      rw [v1.1, sb_eq _ v1.2 1 (by decide)] at q3
      have q4 : ¬ f 1 = nI 2 := q4
      rw [v1.1, sb_eq _ v1.2 2 (by decide)] at q4
      refine vm_go rfl bX11_typeOfTape_43 oX11_typeOfTape_43 (tail _ ?_)
      rw [e1, if_neg (by omega)]; rfl
    · have q4 : f 1 = nI 2 := q4
      rw [v1.1, sb_eq _ v1.2 2 (by decide)] at q4
      exact Or.inr q4
  · have q2 : ¬ f 0 = nI 0 := q2
    rw [v0.1, sb_eq _ v0.2 0 (by decide)] at q2
    exact if_pos (Or.inr q2)
theorem m_cut {z : Int} (k : MV st3 kk3 v lo tb ts ou kn an rd ke ae kf af D dn wl wr h) (hz : i32 z) : vm_Met (vm_env l O f9) mX11_cut 0 0 [.ref v, .int (iZ z)] h (fun r h' => ((0 ≤ z ∧ z ≤ 1000) ∧ dn = false → r = some (.int 1) ∧ MV st3 kk3 v lo tb ts ou kn an rd ke ae kf af D dn z wr h') ∧ (¬ ((0 ≤ z ∧ z ≤ 1000) ∧ dn = false) → r = some (.int 0) ∧ MV st3 kk3 v lo tb ts ou kn an rd ke ae kf af D dn wl wr h') ∧ VF v lo h h') := by
  have r0 := MV_dk k
  have kb := k.1
  refine vm_met rfl (Nat.le_of_ble_eq_true rfl) ?_
  have bad : ¬ ((0 ≤ z ∧ z ≤ 1000) ∧ dn = false) → vm_T (vm_env l O f9) mX11_cut 0 0 21 [(0, .ref v), (1, .int (iZ z))] [] h (fun r h' => ((0 ≤ z ∧ z ≤ 1000) ∧ dn = false → r = some (.int 1) ∧ MV st3 kk3 v lo tb ts ou kn an rd ke ae kf af D dn z wr h') ∧ (¬ ((0 ≤ z ∧ z ≤ 1000) ∧ dn = false) → r = some (.int 0) ∧ MV st3 kk3 v lo tb ts ou kn an rd ke ae kf af D dn wl wr h') ∧ VF v lo h h') := fun n =>
    vm_go rfl bX11_cut_21 oX11_cut_21 ⟨rfl, fun c => absurd c n, fun _ => ⟨rfl, k⟩, VF_r⟩
  have ha1 : v + 746 < 1099511627776 := by omega
  have hn2 : v + 747 ≠ v + 746 := by omega
  refine vm_go rfl bX11_cut_0 oX11_cut_0 ⟨fun q => bad (fun c => ?_), fun q => ⟨fun q2 => bad (fun c => ?_), fun q2 => ⟨_, _, MV_0 k, rfl, ⟨_, _, r0.1, rfl, ⟨fun q3 => ?_, fun q3 => bad (fun c => ?_)⟩⟩⟩⟩⟩
  · have q : iZ z < 0 := q
    rw [iZ_ng hz] at q
    omega
  · have q2 : iZ 1000 < iZ z := q2
    rw [iZ_lt (by decide) (by decide) hz.1 hz.2] at q2
    omega
  · have q : ¬ iZ z < 0 := q
    rw [iZ_ng hz] at q
    have q2 : ¬ iZ 1000 < iZ z := q2
    rw [iZ_lt (by decide) (by decide) hz.1 hz.2] at q2
    have ed : dn = false := by
      cases dn with
      | false => rfl
      | true => exact absurd q3 (by decide)
    refine vm_go rfl bX11_cut_23 oX11_cut_23 ⟨_, _, MV_0 k, rfl, ⟨_, r0.1, ha1, show 2 < 4 by decide, trivial, ⟨rfl, ?_⟩⟩⟩
    have F : fr h (vm_up h (v + 746) (.inr (10, [.ref (v + 747), .int (bi dn), .int (iZ z), .int (nI wr)]))) (fun q => q = v + 746) := ⟨rfl, fun q hq => vm_upn hq⟩
    have r1 : dsk (vm_up h (v + 746) (.inr (10, [.ref (v + 747), .int (bi dn), .int (iZ z), .int (nI wr)]))) (v + 746) (v + 747) D (bi dn) (iZ z) (nI wr) := ⟨vm_upe, bv_cg r0.2.1 (vm_upn hn2), r0.2.2⟩
    have r2 := MV_uK k F (fun q z => Or.inl z) r1
    exact ⟨fun _ => ⟨rfl, r2.1⟩, fun c => absurd ⟨⟨by omega, by omega⟩, ed⟩ c, r2.2⟩
  · rw [c.2] at q3
    exact absurd rfl q3
theorem m_pow (k : MV st3 kk3 v lo tb ts ou kn an rd ke ae kf af D dn wl wr h) : vm_Met (vm_env l O f9) mX11_power 0 0 [.ref v] h (fun r h' => r = some (.int (nI (cnt D 112))) ∧ MV st3 kk3 v lo tb ts ou kn an rd ke ae kf af D false (-1) wr h' ∧ VF v lo h h') := by
  have r0 := MV_dk k
  have kb := k.1
  refine vm_met rfl (Nat.le_of_ble_eq_true rfl) ?_
  have ha1 : v + 746 < 1099511627776 := by omega
  have hn2 : v + 747 ≠ v + 746 := by omega
  have hnv : v ≠ v + 746 := by omega
  refine vm_go rfl bX11_power_0 oX11_power_0 ⟨_, _, MV_0 k, rfl, ⟨_, r0.1, ha1, show 1 < 4 by decide, Or.inl rfl, ?_⟩⟩
  have F1 : fr h (vm_up h (v + 746) (.inr (10, [.ref (v + 747), .int (bi false), .int (iZ wl), .int (nI wr)]))) (fun q => q = v + 746) := ⟨rfl, fun q hq => vm_upn hq⟩
  have r1 : dsk (vm_up h (v + 746) (.inr (10, [.ref (v + 747), .int (bi false), .int (iZ wl), .int (nI wr)]))) (v + 746) (v + 747) D (bi false) (iZ wl) (nI wr) := ⟨vm_upe, bv_cg r0.2.1 (vm_upn hn2), r0.2.2⟩
  obtain ⟨k1, V1⟩ := MV_uK k F1 (fun q z => Or.inl z) r1
  refine ⟨_, _, MV_0 k1, rfl, ⟨_, r1.1, ha1, show 2 < 4 by decide, trivial, ?_⟩⟩
  have F2 : fr (vm_up h (v + 746) (.inr (10, [.ref (v + 747), .int (bi false), .int (iZ wl), .int (nI wr)]))) (vm_up (vm_up h (v + 746) (.inr (10, [.ref (v + 747), .int (bi false), .int (iZ wl), .int (nI wr)]))) (v + 746) (.inr (10, [.ref (v + 747), .int (bi false), .int (iZ (-1)), .int (nI wr)]))) (fun q => q = v + 746) := fr_up rfl
  have r2 : dsk (vm_up (vm_up h (v + 746) (.inr (10, [.ref (v + 747), .int (bi false), .int (iZ wl), .int (nI wr)]))) (v + 746) (.inr (10, [.ref (v + 747), .int (bi false), .int (iZ (-1)), .int (nI wr)]))) (v + 746) (v + 747) D (bi false) (iZ (-1)) (nI wr) := ⟨vm_upe, bv_cg r1.2.1 (vm_upn hn2), r1.2.2⟩
  obtain ⟨k2, V2⟩ := MV_uK k1 F2 (fun q z => Or.inl z) r2
  refine ⟨_, _, MV_0 k2, rfl, ⟨_, r2.1, 0, 0, _, s_spent r2, Nat.zero_le _, Nat.zero_le _, ?_⟩⟩
  rintro _ h3 ⟨rfl, rfl⟩
  exact ⟨rfl, k2, VF_t V1 V2⟩
theorem m_lvk (k : MV st3 kk3 v lo tb ts ou kn an rd ke ae kf af D dn wl wr h) : vm_Met (vm_env l O f9) mX11_liveKeys 0 0 [.ref v] h (fun r h' => r = some (.int (nI (cb (fun i => klv (kf i)) kn))) ∧ h' = h) := by
  have hkn := MV_kn k
  refine vm_met rfl (Nat.le_of_ble_eq_true rfl) ?_
  refine vm_go rfl bX11_liveKeys_0 oX11_liveKeys_0 ?_
  refine vm_Th (lv' := [(0, .ref v), (1, .int (nI (cb (fun i => klv (kf i)) 0))), (2, .int (nI 0))]) (h' := h) rfl rfl ?_
  refine vm_for kn (fun i => [(0, .ref v), (1, .int (nI (cb (fun i => klv (kf i)) i))), (2, .int (nI i))]) (fun _ => h) 0 (Nat.zero_le _) ?_ ?_
  · refine vm_go rfl bX11_liveKeys_4 oX11_liveKeys_4 ⟨_, _, MV_0 k, rfl, ⟨fun _ => ?_, fun q => absurd (nI_le (a := kn) (b := kn) (Nat.le_refl _) (by omega)) q⟩⟩
    exact vm_go rfl bX11_liveKeys_38 oX11_liveKeys_38 ⟨rfl, rfl⟩
  · intro i _ hi ih
    have h30 : ∀ x : Nat, cb (fun i => klv (kf i)) i + x = cb (fun i => klv (kf i)) (i + 1) → vm_T (vm_env l O f9) mX11_liveKeys 0 0 30 [(0, .ref v), (1, .int (nI (cb (fun i => klv (kf i)) i))), (2, .int (nI i))] [.int (nI x), .int (nI (cb (fun i => klv (kf i)) i))] h (fun r h' => r = some (.int (nI (cb (fun i => klv (kf i)) kn))) ∧ h' = h) := by
      intro x hx
      refine vm_go rfl bX11_liveKeys_30 oX11_liveKeys_30 ?_
      refine vm_Th ?_ rfl ih
      show _ = [(0, Value.ref v), (1, .int (nI (cb (fun i => klv (kf i)) i) + nI x)), (2, .int (nI i + 1))]
      rw [nI_add, hx, nI_1]
    obtain ⟨fs, ef, el⟩ : ∃ fs : List Value, h.2 (ke i + 2) = .inr (5, fs) ∧ fs[8]? = some (.int (bi (klv (kf i)))) := by
      rcases (MV_ky k hi).2.2 with z | ⟨_, ⟨ni, ri, z⟩, _⟩
      · exact ⟨_, z.2.1, rfl⟩
      · exact ⟨_, z.1, rfl⟩
    refine vm_go rfl bX11_liveKeys_4 oX11_liveKeys_4 ⟨_, _, MV_0 k, rfl, ⟨fun q => absurd q (nI_ge hi (by omega)), fun _ => ⟨_, _, MV_0 k, rfl, ⟨_, _, _, _, MV_kr k, by decide, rfl, i, rfl, by omega, KQR_at hi, ⟨_, _, ef, el, ?_⟩⟩⟩⟩⟩
    cases ht : (fun i => klv (kf i)) i with
    | true =>
      have ht2 : (klv (kf i)) = true := ht
      rw [ht2]
      refine ⟨fun q => absurd q (by decide), fun _ => h30 1 ?_⟩
      show _ = cb (fun i => klv (kf i)) i + (if (fun i => klv (kf i)) i = true then 1 else 0)
      rw [ht]; rfl
    | false =>
      have ht2 : (klv (kf i)) = false := ht
      rw [ht2]
      refine ⟨fun _ => ?_, fun q => absurd rfl q⟩
      refine vm_go rfl bX11_liveKeys_29 oX11_liveKeys_29 (h30 0 ?_)
      show _ = cb (fun i => klv (kf i)) i + (if (fun i => klv (kf i)) i = true then 1 else 0)
      rw [ht]; rfl
theorem m_opa (k : MV st3 kk3 v lo tb ts ou kn an rd ke ae kf af D dn wl wr h) : vm_Met (vm_env l O f9) mX11_openAskings 0 0 [.ref v] h (fun r h' => r = some (.int (nI (cb (fun i => aop (af i)) an))) ∧ h' = h) := by
  have hkn := MV_an k
  refine vm_met rfl (Nat.le_of_ble_eq_true rfl) ?_
  refine vm_go rfl bX11_openAskings_0 oX11_openAskings_0 ?_
  refine vm_Th (lv' := [(0, .ref v), (1, .int (nI (cb (fun i => aop (af i)) 0))), (2, .int (nI 0))]) (h' := h) rfl rfl ?_
  refine vm_for an (fun i => [(0, .ref v), (1, .int (nI (cb (fun i => aop (af i)) i))), (2, .int (nI i))]) (fun _ => h) 0 (Nat.zero_le _) ?_ ?_
  · refine vm_go rfl bX11_openAskings_4 oX11_openAskings_4 ⟨_, _, MV_0 k, rfl, ⟨fun _ => ?_, fun q => absurd (nI_le (a := an) (b := an) (Nat.le_refl _) (by omega)) q⟩⟩
    exact vm_go rfl bX11_openAskings_38 oX11_openAskings_38 ⟨rfl, rfl⟩
  · intro i _ hi ih
    have h30 : ∀ x : Nat, cb (fun i => aop (af i)) i + x = cb (fun i => aop (af i)) (i + 1) → vm_T (vm_env l O f9) mX11_openAskings 0 0 30 [(0, .ref v), (1, .int (nI (cb (fun i => aop (af i)) i))), (2, .int (nI i))] [.int (nI x), .int (nI (cb (fun i => aop (af i)) i))] h (fun r h' => r = some (.int (nI (cb (fun i => aop (af i)) an))) ∧ h' = h) := by
      intro x hx
      refine vm_go rfl bX11_openAskings_30 oX11_openAskings_30 ?_
      refine vm_Th ?_ rfl ih
      show _ = [(0, Value.ref v), (1, .int (nI (cb (fun i => aop (af i)) i) + nI x)), (2, .int (nI i + 1))]
      rw [nI_add, hx, nI_1]
    obtain ⟨fs, ef, el⟩ : ∃ fs : List Value, h.2 (ae i) = .inr (0, fs) ∧ fs[4]? = some (.int (bi (aop (af i)))) := ⟨_, (MV_ay k hi).2.2.1, rfl⟩
    refine vm_go rfl bX11_openAskings_4 oX11_openAskings_4 ⟨_, _, MV_0 k, rfl, ⟨fun q => absurd q (nI_ge hi (by omega)), fun _ => ⟨_, _, MV_0 k, rfl, ⟨_, _, _, _, MV_ar k, by decide, rfl, i, rfl, by omega, AQR_at hi, ⟨_, _, ef, el, ?_⟩⟩⟩⟩⟩
    cases ht : (fun i => aop (af i)) i with
    | true =>
      have ht2 : (aop (af i)) = true := ht
      rw [ht2]
      refine ⟨fun q => absurd q (by decide), fun _ => h30 1 ?_⟩
      show _ = cb (fun i => aop (af i)) i + (if (fun i => aop (af i)) i = true then 1 else 0)
      rw [ht]; rfl
    | false =>
      have ht2 : (aop (af i)) = false := ht
      rw [ht2]
      refine ⟨fun _ => ?_, fun q => absurd rfl q⟩
      refine vm_go rfl bX11_openAskings_29 oX11_openAskings_29 (h30 0 ?_)
      show _ = cb (fun i => aop (af i)) i + (if (fun i => aop (af i)) i = true then 1 else 0)
      rw [ht]; rfl
/-- what count(z) answers -/
def ctF (z : Int) (kn lk an oa sp wr : Nat) (dn : Bool) (wl : Int) (ts rd : Nat) : Int32 := if z = 0 then nI kn else if z = 1 then nI lk else if z = 2 then nI an else if z = 3 then nI oa else if z = 4 then nI sp else if z = 5 then nI wr else if z = 6 then bi dn else if z = 7 then iZ wl else if z = 8 then nI ts else if z = 9 then nI rd else -1
theorem m_cnt {z : Int} (k : MV st3 kk3 v lo tb ts ou kn an rd ke ae kf af D dn wl wr h) (hz : i32 z) : vm_Met (vm_env l O f9) mX11_count 0 0 [.ref v, .int (iZ z)] h (fun r h' => r = some (.int (ctF z kn (cb (fun i => klv (kf i)) kn) an (cb (fun i => aop (af i)) an) (cnt D 112) wr dn wl ts rd)) ∧ h' = h) := by
  have ez := iZ_toInt hz.1 hz.2
  have r0 := MV_dk k
  refine vm_met rfl (Nat.le_of_ble_eq_true rfl) ?_
  by_cases ho : z < 0 ∨ 9 < z
  · refine vm_go rfl bX11_count_0 oX11_count_0 ⟨129, Or.inl ⟨by rw [ez]; exact ho, rfl⟩, ?_⟩
    refine vm_go rfl bX11_count_129 oX11_count_129 ⟨?_, rfl⟩
    unfold ctF
    rw [if_neg (by omega), if_neg (by omega), if_neg (by omega), if_neg (by omega), if_neg (by omega), if_neg (by omega), if_neg (by omega), if_neg (by omega), if_neg (by omega), if_neg (by omega)]
  rcases (show z = 0 ∨ z = 1 ∨ z = 2 ∨ z = 3 ∨ z = 4 ∨ z = 5 ∨ z = 6 ∨ z = 7 ∨ z = 8 ∨ z = 9 by omega) with rfl | rfl | rfl | rfl | rfl | rfl | rfl | rfl | rfl | rfl
  · refine vm_go rfl bX11_count_0 oX11_count_0 ⟨56, Or.inr ⟨by rw [ez]; decide, by rw [ez]; decide, 55, by rw [ez]; rfl, rfl⟩, ?_⟩
    exact vm_go rfl bX11_count_56 oX11_count_56 ⟨_, _, MV_0 k, rfl, ⟨rfl, rfl⟩⟩
  · refine vm_go rfl bX11_count_0 oX11_count_0 ⟨61, Or.inr ⟨by rw [ez]; decide, by rw [ez]; decide, 60, by rw [ez]; rfl, rfl⟩, ?_⟩
    refine vm_go rfl bX11_count_61 oX11_count_61 ⟨_, MV_0 k, 0, 0, _, m_lvk k, Nat.zero_le _, Nat.zero_le _, ?_⟩
    rintro _ h1 ⟨rfl, e⟩
    exact ⟨rfl, e⟩
  · refine vm_go rfl bX11_count_0 oX11_count_0 ⟨66, Or.inr ⟨by rw [ez]; decide, by rw [ez]; decide, 65, by rw [ez]; rfl, rfl⟩, ?_⟩
    exact vm_go rfl bX11_count_66 oX11_count_66 ⟨_, _, MV_0 k, rfl, ⟨rfl, rfl⟩⟩
  · refine vm_go rfl bX11_count_0 oX11_count_0 ⟨71, Or.inr ⟨by rw [ez]; decide, by rw [ez]; decide, 70, by rw [ez]; rfl, rfl⟩, ?_⟩
    refine vm_go rfl bX11_count_71 oX11_count_71 ⟨_, MV_0 k, 0, 0, _, m_opa k, Nat.zero_le _, Nat.zero_le _, ?_⟩
    rintro _ h1 ⟨rfl, e⟩
    exact ⟨rfl, e⟩
  · refine vm_go rfl bX11_count_0 oX11_count_0 ⟨76, Or.inr ⟨by rw [ez]; decide, by rw [ez]; decide, 75, by rw [ez]; rfl, rfl⟩, ?_⟩
    refine vm_go rfl bX11_count_76 oX11_count_76 ⟨_, _, MV_0 k, rfl, ⟨_, r0.1, 0, 0, _, s_spent r0, Nat.zero_le _, Nat.zero_le _, ?_⟩⟩
    rintro _ h1 ⟨rfl, e⟩
    exact ⟨rfl, e⟩
  · refine vm_go rfl bX11_count_0 oX11_count_0 ⟨84, Or.inr ⟨by rw [ez]; decide, by rw [ez]; decide, 83, by rw [ez]; rfl, rfl⟩, ?_⟩
    exact vm_go rfl bX11_count_84 oX11_count_84 ⟨_, _, MV_0 k, rfl, ⟨_, _, r0.1, rfl, ⟨rfl, rfl⟩⟩⟩
  · refine vm_go rfl bX11_count_0 oX11_count_0 ⟨92, Or.inr ⟨by rw [ez]; decide, by rw [ez]; decide, 91, by rw [ez]; rfl, rfl⟩, ?_⟩
    refine vm_go rfl bX11_count_92 oX11_count_92 ⟨_, _, MV_0 k, rfl, ⟨_, _, r0.1, rfl, ?_⟩⟩
    clear r0
    cases dn with
    | true => exact ⟨fun q => absurd q (by decide), fun _ => vm_go rfl bX11_count_107 oX11_count_107 ⟨rfl, rfl⟩⟩
    | false => exact ⟨fun _ => vm_go rfl bX11_count_106 oX11_count_106 (vm_go rfl bX11_count_107 oX11_count_107 ⟨rfl, rfl⟩), fun q => absurd rfl q⟩
  · refine vm_go rfl bX11_count_0 oX11_count_0 ⟨108, Or.inr ⟨by rw [ez]; decide, by rw [ez]; decide, 107, by rw [ez]; rfl, rfl⟩, ?_⟩
    exact vm_go rfl bX11_count_108 oX11_count_108 ⟨_, _, MV_0 k, rfl, ⟨_, _, r0.1, rfl, ⟨rfl, rfl⟩⟩⟩
  · refine vm_go rfl bX11_count_0 oX11_count_0 ⟨116, Or.inr ⟨by rw [ez]; decide, by rw [ez]; decide, 115, by rw [ez]; rfl, rfl⟩, ?_⟩
    exact vm_go rfl bX11_count_116 oX11_count_116 ⟨_, _, MV_0 k, rfl, ⟨_, _, (MV_tp k).1, rfl, ⟨rfl, rfl⟩⟩⟩
  · refine vm_go rfl bX11_count_0 oX11_count_0 ⟨124, Or.inr ⟨by rw [ez]; decide, by rw [ez]; decide, 123, by rw [ez]; rfl, rfl⟩, ?_⟩
    exact vm_go rfl bX11_count_124 oX11_count_124 ⟨_, _, MV_0 k, rfl, ⟨rfl, rfl⟩⟩
theorem m_are {z : Int} {m : Nat} (k : MV st3 kk3 v lo tb ts ou kn an rd ke ae kf af D dn wl wr h) (hz : i32 z) (hm : m ≤ 8) : vm_Met (vm_env l O f9) mX11_areOpen 0 0 [.ref v, .int (iZ z), .int (nI m)] h (fun r h' => (∃ ok : Bool, r = some (.int (bi ok)) ∧ (ok = true ↔ 0 ≤ z ∧ z + (m : Int) ≤ (an : Int) ∧ ∀ i, i < m → aop (af (z.toNat + i)) = true)) ∧ h' = h) := by
  have han := MV_an k
  suffices H : ∀ Q : Option Value → vm_H → Prop, (∀ r h', ((∃ ok : Bool, r = some (.int (bi ok)) ∧ (ok = true ↔ 0 ≤ z ∧ z + (m : Int) ≤ (an : Int) ∧ ∀ i, i < m → aop (af (z.toNat + i)) = true)) ∧ h' = h) → Q r h') → vm_Met (vm_env l O f9) mX11_areOpen 0 0 [.ref v, .int (iZ z), .int (nI m)] h Q from H _ (fun _ _ z => z)
  intro Q hQ
  refine vm_met rfl (Nat.le_of_ble_eq_true rfl) ?_
  have bad : ¬ (0 ≤ z ∧ z + (m : Int) ≤ (an : Int)) → vm_T (vm_env l O f9) mX11_areOpen 0 0 14 [(0, .ref v), (1, .int (iZ z)), (2, .int (nI m))] [] h Q := fun n =>
    vm_go rfl bX11_areOpen_14 oX11_areOpen_14 ⟨rfl, hQ _ _ ⟨⟨false, rfl, (fun x => nomatch x), fun x => absurd ⟨x.1, x.2.1⟩ n⟩, rfl⟩⟩
  refine vm_go rfl bX11_areOpen_0 oX11_areOpen_0 ⟨fun q => bad (fun c => ?_), fun q => ⟨_, _, MV_0 k, rfl, ⟨fun q2 => ?_, fun q2 => bad (fun c => ?_)⟩⟩⟩
  · have q : iZ z < 0 := q
    rw [iZ_ng hz] at q
    omega
  · have q : ¬ iZ z < 0 := q
    rw [iZ_ng hz] at q
    have q2 : iZ z ≤ nI an - nI m := q2
    rw [iZ_nI, iZ_nI, iZ_sub, iZ_le hz.1 hz.2 (by omega) (by omega)] at q2
    obtain ⟨n, rfl⟩ := iZ_nn (z := z) (by omega)
    rw [iZ_n]
    refine vm_go rfl bX11_areOpen_16 oX11_areOpen_16 ?_
    refine vm_Th (lv' := [(0, .ref v), (1, .int (nI n)), (2, .int (nI m)), (3, .int (nI (n + 0)))]) (h' := h) rfl rfl ?_
    refine vm_loop (fun i h1 => h1 = h ∧ ∀ j, j < i → aop (af (n + j)) = true) m (fun i => [(0, .ref v), (1, .int (nI n)), (2, .int (nI m)), (3, .int (nI (n + i)))]) 0 h (Nat.zero_le _) ⟨rfl, fun j hj => by omega⟩ ?_ ?_
    · rintro h1 ⟨rfl, hall⟩
      refine vm_go rfl bX11_areOpen_18 oX11_areOpen_18 ⟨fun _ => ?_, fun q => absurd (show nI n + nI m ≤ nI (n + m) by rw [nI_add]; exact nI_le (Nat.le_refl _) (by omega)) q⟩
      exact vm_go rfl bX11_areOpen_45 oX11_areOpen_45 ⟨rfl, hQ _ _ ⟨⟨true, rfl, fun _ => ⟨by omega, by omega, fun i hi => by rw [Int.toNat_natCast]; exact hall i hi⟩, fun _ => rfl⟩, rfl⟩⟩
    · rintro i h1 _ hi ⟨rfl, hall⟩ ih
      refine vm_go rfl bX11_areOpen_18 oX11_areOpen_18 ⟨fun q => absurd (show nI n + nI m ≤ nI (n + i) from q) (by rw [nI_add]; exact nI_ge (by omega) (by omega)), fun _ => ⟨_, _, MV_0 k, rfl, ⟨_, _, _, _, MV_ar k, by decide, rfl, n + i, rfl, by omega, AQR_at (by omega), ⟨_, _, (MV_ay k (i := n + i) (by omega)).2.2.1, rfl, ?_⟩⟩⟩⟩
      cases ht : aop (af (n + i)) with
      | true =>
        refine ⟨fun _ => ?_, fun q => absurd q (by decide)⟩
        refine vm_go rfl bX11_areOpen_39 oX11_areOpen_39 ?_
        refine vm_Th ?_ rfl (ih h1 ⟨rfl, fun j hj => ?_⟩)
        · show _ = [(0, Value.ref v), (1, .int (nI n)), (2, .int (nI m)), (3, .int (nI (n + i) + 1))]
          rw [nI_1]; rfl
        · rcases Nat.lt_or_ge j i with y | y
          · exact hall j y
          · rw [show j = i by omega]; exact ht
      | false =>
        refine ⟨fun q => absurd rfl q, fun _ => ⟨rfl, hQ _ _ ⟨⟨false, rfl, (fun x => nomatch x), fun x => ?_⟩, rfl⟩⟩⟩
        have := x.2.2 i hi
        rw [Int.toNat_natCast, ht] at this
        exact this
  · have q2 : ¬ iZ z ≤ nI an - nI m := q2
    rw [iZ_nI, iZ_nI, iZ_sub, iZ_le hz.1 hz.2 (by omega) (by omega)] at q2
    omega
end
