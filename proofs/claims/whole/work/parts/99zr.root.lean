/-! the reference: root, turn, element, bytes, isSecret -/
section
variable {l : Launch} {O : Nat → vm_Ob} {f9 : Value} {h : vm_H}
theorem cmp_0 {x y : Nat} {z : Option Value} (hz : (x < y ∧ z = some (.int (-1))) ∨ (x = y ∧ z = some (.int 0)) ∨ (y < x ∧ z = some (.int 1))) : ∃ u : Int32, z = some (.int u) ∧ (u = 0 ↔ x = y) ∧ (u < 0 ↔ x < y) ∧ (0 ≤ u ↔ y ≤ x) := by
  rcases hz with y | y | y
  · exact ⟨-1, y.2, ⟨fun q => absurd q (by decide), fun q => by omega⟩, ⟨fun _ => y.1, fun _ => by decide⟩, ⟨fun q => absurd q (by decide), fun q => by omega⟩⟩
  · exact ⟨0, y.2, ⟨fun _ => y.1, fun _ => rfl⟩, ⟨fun q => absurd q (by decide), fun q => by omega⟩, ⟨fun _ => by omega, fun _ => by decide⟩⟩
  · exact ⟨1, y.2, ⟨fun q => absurd q (by decide), fun q => by omega⟩, ⟨fun q => absurd q (by decide), fun q => by omega⟩, ⟨fun _ => by omega, fun _ => by decide⟩⟩
theorem cq_root {a pa c : Nat} {A : fq} {g : Nat → Int32} (k : CV h a g) (hA : wq h pa A) (hc : iw h 12 c) (oc : okC a c) (n2 : c ≠ a + 24 ∧ c ≠ a + 26 ∧ c ≠ a + 27) : vm_Met (vm_env l O f9) mX14_root 0 0 [.ref a, .ref pa, .ref c] h (fun r h' => (∃ ok : Bool, r = some (.int (bi ok)) ∧ (ok = true ↔ rtF A * rtF A = A)) ∧ CV h' a g ∧ wq h' c (rtF A) ∧ fr h h' (fun q => JV a q ∨ q = c)) := by
  have ao := k.1.2.2.2
  have o24 : okC a (a + 24) := ⟨by omega, by omega⟩
  have o27 : okC a (a + 27) := ⟨by omega, by omega⟩
  have oc' := oc
  obtain ⟨o1, o2⟩ := oc'
  refine vm_met rfl (Nat.le_of_ble_eq_true rfl) ?_
  refine vm_go rfl bX14_root_0 oX14_root_0 ⟨_, _, k.1.1, rfl, ⟨0, 0, _, cq_cp k.1 hA k.2.2.1 o27, Nat.zero_le _, Nat.zero_le _, ?_⟩⟩
  rintro _ h2 ⟨rfl, k2, w2, F2⟩
  have e26 : wv h2 12 (a + 26) 12 rE9 := wv_cg k.2.2.2 (F2.2 _ (by omega))
  have hc2 : iw h2 12 c := iw_cg hc (F2.2 c (by omega))
  refine ⟨_, _, k2.1, rfl, ⟨_, _, k2.1, rfl, ⟨_, _, k2.1, rfl, ⟨_, k2.1, 0, 0, _, rm_power (bits := 384) k2.2.1 k2.1 (CU_1 k2) (CU_6 k2 (by decide) (by decide)) (CU_6 k2 (by decide) (by decide)) w2 (by decide) A.isLt e26 (by decide) (by decide) (by decide) hc2 (by decide) o2 (by omega) (by omega) (by omega) (by omega) k2.2.2.2, Nat.zero_le _, Nat.zero_le _, ?_⟩⟩⟩⟩
  rintro _ h3 ⟨rfl, w3, ⟨r1, r2, r3⟩, F3⟩
  rw [Nat.mod_eq_of_lt rE_lt] at w3
  have w3 : wq h3 c (rtF A) := by
    unfold wq
    rw [rtF_v]; exact w3
  have k3 : CU h3 a g := CU_c k2 F3 oc w3 (fun q z => by omega) (fun q h1 h2 z => by
    unfold jl
    rcases (show q = a + 1 ∨ q = a + 2 ∨ q = a + 3 by omega) with rfl | rfl | rfl
    · rw [if_pos rfl]; exact r1
    · rw [if_neg (by omega), if_pos (by omega)]; exact r2
    · rw [if_neg (by omega), if_pos (by omega)]; exact r3)
  have w2 := wq_cg w2 (F3.2 (a + 27) (by omega))
  refine ⟨_, _, k3.1, rfl, ⟨_, _, k3.1, rfl, ⟨_, k3.1, 0, 0, _, cq_mul k3 w3 w3 (CU_w k3 (by decide) (by decide)) o24 (by omega) (by omega), Nat.zero_le _, Nat.zero_le _, ?_⟩⟩⟩
  rintro _ h4 ⟨rfl, k4, w4, F4⟩
  have w3 := wq_cg w3 (F4.2 c (by omega))
  have w2 := wq_cg w2 (F4.2 (a + 27) (by omega))
  have FF : fr h h4 (fun q => JV a q ∨ q = c) := fr_trans (fr_mono F2 (fun q z => by unfold JV JW; omega)) (fr_trans (fr_mono F3 (fun q z => by unfold JV JW; omega)) (fr_mono F4 (fun q z => by unfold JV JW; omega)))
  have kv : CV h4 a g := CV_of k k4 FF (fun q z => by unfold JV JW at z; omega) (fun _ => wv_iw w2)
  refine ⟨_, _, k4.1, rfl, ⟨_, _, k4.1, rfl, ⟨0, 0, _, rm_cmp w4 w2 (by decide) (by decide) (by decide) (fq_b12 _) (fq_b12 _), Nat.zero_le _, Nat.zero_le _, ?_⟩⟩⟩
  rintro z h5 ⟨hz, e5⟩
  rw [e5]; clear e5 h5
  obtain ⟨u, rfl, hu, _, _⟩ := cmp_0 hz
  by_cases ce : rtF A * rtF A = A
  · have u0 : u = 0 := hu.mpr (by rw [ce])
    refine ⟨fun q => absurd u0 q, fun _ => ?_⟩
    exact vm_go rfl bX14_root_65 oX14_root_65 ⟨rfl, ⟨true, rfl, fun _ => ce, fun _ => rfl⟩, kv, w3, FF⟩
  · have u0 : ¬ u = 0 := fun q => ce (Fin.ext (hu.mp q))
    refine ⟨fun _ => ?_, fun q => absurd q u0⟩
    exact vm_go rfl bX14_root_64 oX14_root_64 (vm_go rfl bX14_root_65 oX14_root_65 ⟨rfl, ⟨false, rfl, fun y => (nomatch y), fun y => absurd y ce⟩, kv, w3, FF⟩)
theorem neg_v {y : fq} (h : y ≠ 0) : (-y).val = cPm + 1 - y.val := by
  have h0 : y.val ≠ 0 := fun z => h (Fin.ext z)
  have hl := y.isLt
  rw [Fin.val_neg]
  split
  · next e => exact absurd e h
  · rfl
theorem cq_turn {c : Nat} {y : fq} (rv : RV h) (hy : wq h c y) (hn : y ≠ 0) (hco : c < 1099511627776) : vm_Met (vm_env l O f9) mX14_turn 0 0 [.ref c] h (fun r h' => r = none ∧ wq h' c (-y) ∧ fr h h' (fun q => q = c)) := by
  obtain ⟨t, et, vt⟩ := id hy
  refine vm_met rfl (Nat.le_of_ble_eq_true rfl) ?_
  refine vm_go rfl bX14_turnx_0 oX14_turnx_0 ⟨_, rfl, ⟨0, 0, _, rm_minus rv.2.1 hy et (by decide) (by decide) (by decide) (by decide) hco, Nat.zero_le _, Nat.zero_le _, ?_⟩⟩
  rintro _ h2 ⟨rfl, ⟨t', e1, e2, _⟩, F2⟩
  refine ⟨rfl, ⟨t', e1, fun k hk => ?_⟩, F2⟩
  have hl := y.isLt
  rw [e2 k hk, dz_ge (by omega), neg_v hn]
theorem rm_isSecret {L p X : Nat} (rv : RV h) (hX : wv h L p 12 X) (hL : 12 ≤ L) (hb : X < 4294967296 ^ 12) : vm_Met (vm_env l O f9) mX14_isSecret 0 0 [.ref p] h (fun r h' => (∃ ok : Bool, r = some (.int (bi ok)) ∧ (ok = true ↔ 0 < X ∧ X < cQ)) ∧ h' = h) := by
  obtain ⟨f, ef, vf⟩ := id hX
  refine vm_met rfl (Nat.le_of_ble_eq_true rfl) ?_
  refine vm_go rfl bX14_isSecret_0 oX14_isSecret_0 ⟨0, 0, _, rm_zero ef hL (by decide), Nat.zero_le _, Nat.zero_le _, ?_⟩
  rintro _ h1 ⟨⟨ok, rfl, hok⟩, e1⟩
  rw [e1]; clear e1 h1
  have hz0 : ok = true ↔ X = 0 := by
    rw [hok]
    constructor
    · intro y
      refine dw_eq (n := 12) hb (by decide) (fun k hk => ?_)
      have := y k hk
      rw [vf k hk] at this
      rw [nI_inj (dw_lt _ _) (by decide) (show nI (dw X k) = nI 0 from this)]
      unfold dw
      rw [Nat.zero_div]
    · intro y k hk
      rw [vf k hk, y]
      unfold dw
      rw [Nat.zero_div]
      rfl
  cases ok with
  | true =>
    have := hz0.mp rfl
    refine ⟨fun _ => ?_, fun q => absurd q (by decide)⟩
    exact vm_go rfl bX14_isSecret_25 oX14_isSecret_25 (vm_go rfl bX14_isSecret_26 oX14_isSecret_26 ⟨rfl, ⟨false, rfl, fun y => (nomatch y), fun y => by omega⟩, rfl⟩)
  | false =>
    have hX0 : X ≠ 0 := fun y => nomatch hz0.mpr y
    refine ⟨fun q => absurd rfl q, fun _ => ⟨_, rfl, ⟨0, 0, _, rm_cmp hX rv.2.2 hL (by decide) (by decide) hb (by decide +kernel), Nat.zero_le _, Nat.zero_le _, ?_⟩⟩⟩
    rintro z h5 ⟨hz, e5⟩
    rw [e5]; clear e5 h5
    obtain ⟨u, rfl, _, _, hu⟩ := cmp_0 hz
    by_cases ce : X < cQ
    · refine ⟨fun q => absurd (hu.mp q) (by omega), fun _ => ?_⟩
      exact vm_go rfl bX14_isSecret_26 oX14_isSecret_26 ⟨rfl, ⟨true, rfl, fun _ => ⟨by omega, ce⟩, fun _ => rfl⟩, rfl⟩
    · refine ⟨fun _ => ?_, fun q => absurd (hu.mpr (by omega)) q⟩
      exact vm_go rfl bX14_isSecret_25 oX14_isSecret_25 (vm_go rfl bX14_isSecret_26 oX14_isSecret_26 ⟨rfl, ⟨false, rfl, fun y => (nomatch y), fun y => absurd y.2 ce⟩, rfl⟩)
end
