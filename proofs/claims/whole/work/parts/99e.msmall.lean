/-! the mint: its small methods -/
theorem rwl_row {h : vm_H} {R B n s : Nat} {b : Nat → Nat} (k : row h R B n b s) : rwl h R B n (sl b 0 s) := ⟨b, by rw [sl_len]; exact k, by rw [sl_len]⟩
/-- how many of n -/
def cb (f : Nat → Bool) : Nat → Nat
  | 0 => 0
  | n + 1 => cb f n + (if f n = true then 1 else 0)
theorem cb_le (f : Nat → Bool) : ∀ n, cb f n ≤ n
  | 0 => Nat.le_refl _
  | n + 1 => by
    have := cb_le f n
    show cb f n + _ ≤ n + 1
    split <;> omega
/-- the TYPE that so many bytes begin with -/
def tot (b : Nat → Nat) (s m : Nat) : Int := if s < m ∨ b 0 ≠ 0 then -1 else if b 1 = 1 ∨ b 1 = 2 then (b 1 : Int) else -1
section
variable {l : Launch} {O : Nat → vm_Ob} {f9 : Value} {v lo ts kn an rd wr : Nat} {tb : Nat → Nat} {w ou : List Nat} {ke ae : Nat → Nat} {kf : Nat → aK} {af : Nat → aA} {D : Nat → Nat} {dn : Bool} {wl : Int} {st2 kk2 : Nat → Int32} {st3 kk3 : Nat → Int64} {h : vm_H}
theorem m_feed {a b c d e : Int} (k : MS st3 kk3 v lo w ou kn an rd ke ae kf af D dn wl wr h) (ia : i32 a) (ib9 : i32 b) (ic : i32 c) (id9 : i32 d) (ie : i32 e) : vm_Met (vm_env l O f9) mX11_feed 0 0 [.ref v, .int (iZ a), .int (iZ b), .int (iZ c), .int (iZ d), .int (iZ e)] h (fun r h' => (w.length + 20 ≤ 1200 → r = some (.int (nI (w.length + 20))) ∧ MS st3 kk3 v lo (w ++ nb a 4 ++ nb b 4 ++ nb c 4 ++ nb d 4 ++ nb e 4) ou kn an rd ke ae kf af D dn wl wr h') ∧ (¬ w.length + 20 ≤ 1200 → r = some (.int (-1)) ∧ MS st3 kk3 v lo w ou kn an rd ke ae kf af D dn wl wr h') ∧ VF v lo h h') := by
  obtain ⟨tb, k, ew⟩ := k
  refine vm_met rfl (Nat.le_of_ble_eq_true rfl) ?_
  refine vm_go rfl bX11_feed_0 oX11_feed_0 ⟨_, _, MV_0 k, rfl, ⟨_, (MV_tp k).1, 0, 0, _, w_room (m := 20) (MV_tp k) (by decide), Nat.zero_le _, Nat.zero_le _, ?_⟩⟩
  rintro _ h1 ⟨rfl, e1⟩
  rw [e1]; clear e1 h1
  by_cases hr : w.length + 20 ≤ 1200
  rotate_left
  · rw [if_neg hr]
    exact ⟨fun q => absurd rfl q, fun _ => ⟨fun c => absurd c hr, fun _ => ⟨rfl, tb, k, ew⟩, VF_r⟩⟩
  rw [if_pos hr]
  refine ⟨fun _ => ?_, fun q => absurd q (by decide)⟩
  have r0 : rwl h (v + 1) (v + 2) 1200 w := ⟨tb, MV_tp k, ew⟩
  have tp : ∀ {h' : vm_H} {w' : List Nat} {h0 : vm_H} {w0 : List Nat}, MS st3 kk3 v lo w0 ou kn an rd ke ae kf af D dn wl wr h0 → rwl h' (v + 1) (v + 2) 1200 w' → fr h0 h' (fun q => q = v + 1 ∨ q = v + 2) → MS st3 kk3 v lo w' ou kn an rd ke ae kf af D dn wl wr h' ∧ VF v lo h0 h' := by
    rintro h' w' h0 w0 ⟨tb0, k0, _⟩ ⟨b', r', s'⟩ F
    have := MV_uT k0 F (fun q z => z) r'
    exact ⟨⟨b', this.1, s'⟩, this.2⟩
  have to : ∀ {h0 : vm_H} {w0 : List Nat}, MS st3 kk3 v lo w0 ou kn an rd ke ae kf af D dn wl wr h0 → ∃ b, MV st3 kk3 v lo b w0.length ou kn an rd ke ae kf af D dn wl wr h0 ∧ rwl h0 (v + 1) (v + 2) 1200 w0 := by
    rintro h0 w0 ⟨tb0, k0, e0⟩
    exact ⟨tb0, k0, tb0, MV_tp k0, e0⟩
  have s0 : MS st3 kk3 v lo w ou kn an rd ke ae kf af D dn wl wr h := ⟨tb, k, ew⟩
  have V0 : VF v lo h h := VF_r
  refine vm_go rfl bX11_feed_14 oX11_feed_14 ⟨_, _, MV_0 k, rfl, ⟨_, (MV_tp k).1, 0, 0, _, l_num (m := 4) r0 (by omega) (by decide) ia.1 ia.2, Nat.zero_le _, Nat.zero_le _, ?_⟩⟩
  rintro _ h1 ⟨rfl, r1', F1⟩
  obtain ⟨s1, W1⟩ := tp s0 r1' F1
  have V1 := VF_t V0 W1
  obtain ⟨b1, k1, r1⟩ := to s1
  refine ⟨_, _, MV_0 k1, rfl, ⟨_, (MV_tp k1).1, 0, 0, _, l_num (m := 4) r1 (by simp only [List.length_append, nb_len]; omega) (by decide) ib9.1 ib9.2, Nat.zero_le _, Nat.zero_le _, ?_⟩⟩
  rintro _ h2 ⟨rfl, r2', F2⟩
  obtain ⟨s2, W2⟩ := tp s1 r2' F2
  have V2 := VF_t V1 W2
  obtain ⟨b2, k2, r2⟩ := to s2
  refine ⟨_, _, MV_0 k2, rfl, ⟨_, (MV_tp k2).1, 0, 0, _, l_num (m := 4) r2 (by simp only [List.length_append, nb_len]; omega) (by decide) ic.1 ic.2, Nat.zero_le _, Nat.zero_le _, ?_⟩⟩
  rintro _ h3 ⟨rfl, r3', F3⟩
  obtain ⟨s3, W3⟩ := tp s2 r3' F3
  have V3 := VF_t V2 W3
  obtain ⟨b3, k3, r3⟩ := to s3
  refine ⟨_, _, MV_0 k3, rfl, ⟨_, (MV_tp k3).1, 0, 0, _, l_num (m := 4) r3 (by simp only [List.length_append, nb_len]; omega) (by decide) id9.1 id9.2, Nat.zero_le _, Nat.zero_le _, ?_⟩⟩
  rintro _ h4 ⟨rfl, r4', F4⟩
  obtain ⟨s4, W4⟩ := tp s3 r4' F4
  have V4 := VF_t V3 W4
  obtain ⟨b4, k4, r4⟩ := to s4
  refine ⟨_, _, MV_0 k4, rfl, ⟨_, (MV_tp k4).1, 0, 0, _, l_num (m := 4) r4 (by simp only [List.length_append, nb_len]; omega) (by decide) ie.1 ie.2, Nat.zero_le _, Nat.zero_le _, ?_⟩⟩
  rintro _ h5 ⟨rfl, r5', F5⟩
  obtain ⟨s5, W5⟩ := tp s4 r5' F5
  have V5 := VF_t V4 W5
  obtain ⟨b5, k5, r5⟩ := to s5
  refine ⟨_, _, MV_0 k5, rfl, ⟨_, _, (MV_tp k5).1, rfl, ⟨fun _ => ⟨?_, s5⟩, fun c => absurd hr c, V5⟩⟩⟩
  · show some (Value.int (nI (w ++ nb a 4 ++ nb b 4 ++ nb c 4 ++ nb d 4 ++ nb e 4).length)) = _
    simp only [List.length_append, nb_len]
theorem m_end {z : Int} (k : MS st3 kk3 v lo w ou kn an rd ke ae kf af D dn wl wr h) (hz : i32 z) : vm_Met (vm_env l O f9) mX11_end 0 0 [.ref v, .int (iZ z)] h (fun r h' => (0 ≤ z ∧ z ≤ (w.length : Int) → r = some (.int 1) ∧ MS st3 kk3 v lo (w.take z.toNat) ou kn an rd ke ae kf af D dn wl wr h') ∧ (¬ (0 ≤ z ∧ z ≤ (w.length : Int)) → r = some (.int 0) ∧ MS st3 kk3 v lo w ou kn an rd ke ae kf af D dn wl wr h') ∧ VF v lo h h') := by
  obtain ⟨tb, k, ew⟩ := k
  have hts := MV_ts k
  have kb := k.1
  refine vm_met rfl (Nat.le_of_ble_eq_true rfl) ?_
  have bad : ¬ (0 ≤ z ∧ z ≤ (w.length : Int)) → vm_T (vm_env l O f9) mX11_end 0 0 15 [(0, .ref v), (1, .int (iZ z))] [] h (fun r h' => (0 ≤ z ∧ z ≤ (w.length : Int) → r = some (.int 1) ∧ MS st3 kk3 v lo (w.take z.toNat) ou kn an rd ke ae kf af D dn wl wr h') ∧ (¬ (0 ≤ z ∧ z ≤ (w.length : Int)) → r = some (.int 0) ∧ MS st3 kk3 v lo w ou kn an rd ke ae kf af D dn wl wr h') ∧ VF v lo h h') := by
    intro n
    exact vm_go rfl bX11_end_15 oX11_end_15 ⟨rfl, fun c => absurd c n, fun _ => ⟨rfl, tb, k, ew⟩, VF_r⟩
  refine vm_go rfl bX11_end_0 oX11_end_0 ⟨fun q => bad (fun y => ?_), fun q => ⟨_, _, MV_0 k, rfl, ⟨_, _, (MV_tp k).1, rfl, ⟨fun q2 => ?_, fun q2 => bad (fun y => ?_)⟩⟩⟩⟩
  · have q : iZ z < 0 := q
    rw [iZ_ng hz] at q
    omega
  · have q : ¬ iZ z < 0 := q
    rw [iZ_ng hz] at q
    have q2 : iZ z ≤ nI w.length := q2
    rw [iZ_nI, iZ_le hz.1 hz.2 (by omega) (by omega)] at q2
    obtain ⟨n, rfl⟩ := iZ_nn (z := z) (by omega)
    have r0 := MV_tp k
    have ha1 : v + 1 < 1099511627776 := by omega
    refine vm_go rfl bX11_end_17 oX11_end_17 ⟨_, _, MV_0 k, rfl, ⟨_, r0.1, ha1, show 1 < 2 by decide, trivial, ⟨rfl, ?_⟩⟩⟩
    have hn2 : v + 2 ≠ v + 1 := by omega
    have F : fr h (vm_up h (v + 1) (.inr (9, [.ref (v + 2), .int (iZ (n : Int))]))) (fun q => q = v + 1) := ⟨rfl, fun q hq => vm_upn hq⟩
    have r1 : row (vm_up h (v + 1) (.inr (9, [.ref (v + 2), .int (iZ (n : Int))]))) (v + 1) (v + 2) 1200 tb n := ⟨by rw [vm_upe, iZ_n], bv_cg r0.2.1 (vm_upn hn2), by omega, r0.2.2.2⟩
    have r2 := MV_uT k F (fun q z => Or.inl z) r1
    have el : (w.take n).length = n := by rw [List.length_take]; omega
    refine ⟨fun _ => ⟨rfl, tb, by rw [Int.toNat_natCast, el]; exact r2.1, ?_⟩, fun c => absurd ⟨by omega, by omega⟩ c, r2.2⟩
    rw [Int.toNat_natCast, el, ← ew]
    apply List.ext_getElem
    · rw [List.length_take, sl_len, sl_len]; omega
    · intro i h1 h2
      rw [List.getElem_take, sl_at, sl_at]
  · have q2 : ¬ iZ z ≤ nI w.length := q2
    rw [iZ_nI, iZ_le hz.1 hz.2 (by omega) (by omega)] at q2
    omega
theorem m_out {z : Int} (k : MV st3 kk3 v lo tb ts ou kn an rd ke ae kf af D dn wl wr h) (hz : i32 z) : vm_Met (vm_env l O f9) mX11_out 0 0 [.ref v, .int (iZ z)] h (fun r h' => (0 ≤ z ∧ z < (ou.length : Int) → r = some (.int (nI (gb ou z.toNat)))) ∧ (¬ (0 ≤ z ∧ z < (ou.length : Int)) → r = some (.int (-1))) ∧ h' = h) := by
  obtain ⟨b, r0, eo⟩ := MV_lf k
  obtain ⟨f, ef, vf⟩ := r0.2.1
  have hou := MV_ou k
  refine vm_met rfl (Nat.le_of_ble_eq_true rfl) ?_
  have bad : ¬ (0 ≤ z ∧ z < (ou.length : Int)) → vm_T (vm_env l O f9) mX11_out 0 0 31 [(0, .ref v), (1, .int (iZ z))] [] h (fun r h' => (0 ≤ z ∧ z < (ou.length : Int) → r = some (.int (nI (gb ou z.toNat)))) ∧ (¬ (0 ≤ z ∧ z < (ou.length : Int)) → r = some (.int (-1))) ∧ h' = h) := by
    intro n
    exact vm_go rfl bX11_out_31 oX11_out_31 (vm_go rfl bX11_out_32 oX11_out_32 ⟨fun c => absurd c n, fun _ => rfl, rfl⟩)
  refine vm_go rfl bX11_out_0 oX11_out_0 ⟨fun q => bad (fun y => ?_), fun q => ⟨_, _, MV_0 k, rfl, ⟨_, _, MV_lo k, rfl, ⟨fun q2 => bad (fun y => ?_), fun q2 => ?_⟩⟩⟩⟩
  · have q : iZ z < 0 := q
    rw [iZ_ng hz] at q
    omega
  · have q2 : nI ou.length ≤ iZ z := q2
    rw [iZ_nI, iZ_le (by omega) (by omega) hz.1 hz.2] at q2
    omega
  · have q : ¬ iZ z < 0 := q
    rw [iZ_ng hz] at q
    have q2 : ¬ nI ou.length ≤ iZ z := q2
    rw [iZ_nI, iZ_le (by omega) (by omega) hz.1 hz.2] at q2
    obtain ⟨n, rfl⟩ := iZ_nn (z := z) (by omega)
    refine ⟨_, _, MV_0 k, rfl, ⟨_, _, MV_lo k, rfl, ⟨_, f, ef, n, iZ_n, by omega, fun _ => ?_⟩⟩⟩
    refine vm_go rfl bX11_out_32 oX11_out_32 ⟨fun _ => ?_, fun c => absurd ⟨by omega, by omega⟩ c, rfl⟩
    have e1 := vf n (by omega)
    show some (Value.int (f n &&& 255)) = _
    rw [e1.1, sb_and _ e1.2, Int.toNat_natCast, ← eo, gb_sl (by omega), Nat.zero_add]
theorem m_dsk {z : Int} (k : MV st3 kk3 v lo tb ts ou kn an rd ke ae kf af D dn wl wr h) (hz : i32 z) : vm_Met (vm_env l O f9) mX11_disk 0 0 [.ref v, .int (iZ z)] h (fun r h' => (0 ≤ z ∧ z < 4096 → r = some (.int (nI (D z.toNat)))) ∧ (¬ (0 ≤ z ∧ z < 4096) → r = some (.int (-1))) ∧ h' = h) := by
  have r0 := MV_dk k
  obtain ⟨f, ef, vf⟩ := r0.2.1
  refine vm_met rfl (Nat.le_of_ble_eq_true rfl) ?_
  have bad : ¬ (0 ≤ z ∧ z < 4096) → vm_T (vm_env l O f9) mX11_disk 0 0 32 [(0, .ref v), (1, .int (iZ z))] [] h (fun r h' => (0 ≤ z ∧ z < 4096 → r = some (.int (nI (D z.toNat)))) ∧ (¬ (0 ≤ z ∧ z < 4096) → r = some (.int (-1))) ∧ h' = h) := by
    intro n
    exact vm_go rfl bX11_disk_32 oX11_disk_32 (vm_go rfl bX11_disk_33 oX11_disk_33 ⟨fun c => absurd c n, fun _ => rfl, rfl⟩)
  refine vm_go rfl bX11_disk_0 oX11_disk_0 ⟨fun q => bad (fun y => ?_), fun q => ⟨_, _, MV_0 k, rfl, ⟨_, _, r0.1, rfl, ⟨_, _, ef, by decide, ⟨fun q2 => bad (fun y => ?_), fun q2 => ?_⟩⟩⟩⟩⟩
  · have q : iZ z < 0 := q
    rw [iZ_ng hz] at q
    omega
  · have q2 : nI 4096 ≤ iZ z := q2
    rw [iZ_nI, iZ_le (by decide) (by decide) hz.1 hz.2] at q2
    omega
  · have q : ¬ iZ z < 0 := q
    rw [iZ_ng hz] at q
    have q2 : ¬ nI 4096 ≤ iZ z := q2
    rw [iZ_nI, iZ_le (by decide) (by decide) hz.1 hz.2] at q2
    obtain ⟨n, rfl⟩ := iZ_nn (z := z) (by omega)
    refine ⟨_, _, MV_0 k, rfl, ⟨_, _, r0.1, rfl, ⟨_, f, ef, n, iZ_n, by omega, fun _ => ?_⟩⟩⟩
    refine vm_go rfl bX11_disk_33 oX11_disk_33 ⟨fun _ => ?_, fun c => absurd ⟨by omega, by omega⟩ c, rfl⟩
    have e1 := vf n (by omega)
    show some (Value.int (f n &&& 255)) = _
    rw [e1.1, sb_and _ e1.2, Int.toNat_natCast]
theorem m_agn {z y : Int} (k : MS st3 kk3 v lo w ou kn an rd ke ae kf af D dn wl wr h) (hz : i32 z) (hy : i32 y) : vm_Met (vm_env l O f9) mX11_again 0 0 [.ref v, .int (iZ z), .int (iZ y)] h (fun r h' => ((0 ≤ z ∧ 0 ≤ y) ∧ z + y ≤ (ou.length : Int) ∧ (w.length : Int) + y ≤ 1200 → r = some (.int (nI (w.length + y.toNat))) ∧ MS st3 kk3 v lo (w ++ sl (gb ou) z.toNat y.toNat) ou kn an rd ke ae kf af D dn wl wr h') ∧ (¬ ((0 ≤ z ∧ 0 ≤ y) ∧ z + y ≤ (ou.length : Int) ∧ (w.length : Int) + y ≤ 1200) → r = some (.int (-1)) ∧ MS st3 kk3 v lo w ou kn an rd ke ae kf af D dn wl wr h') ∧ VF v lo h h') := by
  obtain ⟨tb, k, ew⟩ := k
  obtain ⟨b, r0, eo⟩ := MV_lf k
  have hou := MV_ou k
  have hts := MV_ts k
  refine vm_met rfl (Nat.le_of_ble_eq_true rfl) ?_
  have bad : ¬ ((0 ≤ z ∧ 0 ≤ y) ∧ z + y ≤ (ou.length : Int) ∧ (w.length : Int) + y ≤ 1200) → vm_T (vm_env l O f9) mX11_again 0 0 32 [(0, .ref v), (1, .int (iZ z)), (2, .int (iZ y))] [] h (fun r h' => ((0 ≤ z ∧ 0 ≤ y) ∧ z + y ≤ (ou.length : Int) ∧ (w.length : Int) + y ≤ 1200 → r = some (.int (nI (w.length + y.toNat))) ∧ MS st3 kk3 v lo (w ++ sl (gb ou) z.toNat y.toNat) ou kn an rd ke ae kf af D dn wl wr h') ∧ (¬ ((0 ≤ z ∧ 0 ≤ y) ∧ z + y ≤ (ou.length : Int) ∧ (w.length : Int) + y ≤ 1200) → r = some (.int (-1)) ∧ MS st3 kk3 v lo w ou kn an rd ke ae kf af D dn wl wr h') ∧ VF v lo h h') := by
    intro n
    exact vm_go rfl bX11_again_32 oX11_again_32 ⟨fun c => absurd c n, fun _ => ⟨rfl, tb, k, ew⟩, VF_r⟩
  refine vm_go rfl bX11_again_0 oX11_again_0 ⟨fun q => bad (fun x => ?_), fun q => ⟨fun q2 => bad (fun x => ?_), fun q2 => ⟨_, _, MV_0 k, rfl, ⟨_, _, MV_lo k, rfl, ⟨fun q3 => bad (fun x => ?_), fun q3 => ?_⟩⟩⟩⟩⟩
  · have q : iZ z < 0 := q
    rw [iZ_ng hz] at q
    omega
  · have q2 : iZ y < 0 := q2
    rw [iZ_ng hy] at q2
    omega
  · have q3 : nI ou.length - iZ y < iZ z := q3
    rw [iZ_nI, iZ_sub, iZ_lt (by omega) (by omega) hz.1 hz.2] at q3
    omega
  · have q : ¬ iZ z < 0 := q
    rw [iZ_ng hz] at q
    have q2 : ¬ iZ y < 0 := q2
    rw [iZ_ng hy] at q2
    have hy2 := hy.2
    have q3 : ¬ nI ou.length - iZ y < iZ z := q3
    rw [iZ_nI, iZ_sub, iZ_lt (by omega) (by omega) hz.1 hz.2] at q3
    obtain ⟨n, rfl⟩ := iZ_nn (z := z) (by omega)
    obtain ⟨m, rfl⟩ := iZ_nn (z := y) (by omega)
    rw [iZ_n, iZ_n]
    rw [iZ_n, iZ_n] at bad
    refine ⟨_, _, MV_0 k, rfl, ⟨_, (MV_tp k).1, 0, 0, _, w_room (m := m) (MV_tp k) (by omega), Nat.zero_le _, Nat.zero_le _, ?_⟩⟩
    rintro _ h1 ⟨rfl, e1⟩
    rw [e1]; clear e1 h1
    by_cases hr : w.length + m ≤ 1200
    rotate_left
    · rw [if_neg hr]
      exact ⟨fun q => absurd rfl q, fun _ => bad (fun x => by omega)⟩
    rw [if_pos hr]
    refine ⟨fun _ => ?_, fun q => absurd q (by decide)⟩
    refine vm_go rfl bX11_again_34 oX11_again_34 ⟨_, _, MV_0 k, rfl, ⟨_, _, MV_0 k, rfl, ⟨_, _, MV_lo k, rfl, ⟨_, (MV_tp k).1, 0, 0, _, l_all (w := w) ⟨tb, MV_tp k, ew⟩ r0.2.1 (by omega) (by decide) hr, Nat.zero_le _, Nat.zero_le _, ?_⟩⟩⟩⟩
    rintro _ h1 ⟨rfl, ⟨b1, r1, s1⟩, F1⟩
    obtain ⟨k1, V1⟩ := MV_uT k F1 (fun q z => z) r1
    have es : sl b n m = sl (gb ou) n m := sl_ext (fun j hj => by rw [← eo, gb_sl (by omega), Nat.zero_add])
    refine ⟨_, _, MV_0 k1, rfl, ⟨_, _, (MV_tp k1).1, rfl, ⟨fun _ => ⟨?_, ⟨b1, ?_, ?_⟩⟩, fun c => absurd ⟨⟨by omega, by omega⟩, by omega, by omega⟩ c, V1⟩⟩⟩
    · show some (Value.int (nI (w ++ sl b n m).length)) = _
      rw [List.length_append, sl_len, Int.toNat_natCast]
    · rw [Int.toNat_natCast, Int.toNat_natCast, ← es]; exact k1
    · rw [Int.toNat_natCast, Int.toNat_natCast, ← es]; exact s1
end
