/-! VeilMint$Modulus, on -/
theorem i32_m1 (x : Int32) : x + (-1) = x - 1 := (Int32.sub_eq_add_neg x 1).symm
theorem dg_top {x i : Nat} : x / 268435456 ^ i = 268435456 * (x / 268435456 ^ (i + 1)) + dg x i := by
  unfold dg
  rw [Nat.pow_succ, ← Nat.div_div_eq_div_mul]
  have := Nat.div_add_mod (x / 268435456 ^ i) 268435456
  omega
theorem dg_cmp {x y i : Nat} (h : x / 268435456 ^ (i + 1) = y / 268435456 ^ (i + 1)) (hlt : dg x i < dg y i) : x < y := by
  have h1 := dg_top (x := x) (i := i)
  have h2 := dg_top (x := y) (i := i)
  have hB : 0 < 268435456 ^ i := Nat.pow_pos (by decide)
  have h3 : x / 268435456 ^ i < y / 268435456 ^ i := by omega
  rcases Nat.lt_or_ge x y with q | q
  · exact q
  · have := Nat.div_le_div_right (c := 268435456 ^ i) q
    omega
theorem lZ_dlt {a b : Nat} (ha : a < 268435456) (hb : b < 268435456) : (lZ a < lZ b ↔ a < b) ∧ (lZ a ≤ lZ b ↔ a ≤ b) ∧ (lZ a = lZ b ↔ a = b) := by
  refine ⟨?_, ?_, ?_⟩
  · rw [lZ_lt (by omega) (by omega) (by omega) (by omega)]; omega
  · rw [lZ_le (by omega) (by omega) (by omega) (by omega)]; omega
  · rw [lZ_inj (by omega) (by omega) (by omega) (by omega)]; omega
section
variable {l : Launch} {O : Nat → vm_Ob} {f9 : Value}
theorem s_les {h : vm_H} {ci m L a b na nb x y : Nat} {fs : List Value} {fa fb : Nat → Int64} (hci : ci = 6 ∨ ci = 3) (hm : h.2 m = .inr (ci, fs)) (f0 : fs[0]? = some (.int (nI L))) (ha : h.2 a = .inl (.long, na, .inr (.inl fa))) (hb : h.2 b = .inl (.long, nb, .inr (.inl fb))) (hna : L ≤ na) (hnb : L ≤ nb) (hL : L < 65536) (va : ∀ j, j < L → fa j = lZ (dg x j)) (vb : ∀ j, j < L → fb j = lZ (dg y j)) (hx : x < 268435456 ^ L) (hy : y < 268435456 ^ L) :
    vm_Met (vm_env l O f9) mX6_isLess 0 0 [.ref m, .ref a, .ref b] h (fun r h' => r = some (.int (if x < y then 1 else 0)) ∧ h' = h) := by
  refine vm_met rfl (Nat.le_of_ble_eq_true rfl) ?_
  refine vm_go rfl (bX6_isLess_0 ci) (oX6_isLess_0 hci) ⟨fs, _, hm, f0, ?_⟩
  refine vm_while (σ := Nat) (fun k => k ≤ L ∧ x / 268435456 ^ k = y / 268435456 ^ k) (fun k => k) (fun k => [(0, .ref m), (1, .ref a), (2, .ref b), (3, .int (nI k - 1))]) (fun _ => h) ?_ L ⟨Nat.le_refl _, by rw [Nat.div_eq_of_lt hx, Nat.div_eq_of_lt hy]⟩
  intro k ⟨hk, hp⟩ ih
  cases k with
  | zero =>
    refine vm_go rfl bX6_isLess_7 oX6_isLess_7 ⟨fun _ => ?_, fun q => absurd (by decide) q⟩
    rw [Nat.pow_zero, Nat.div_one, Nat.div_one] at hp
    exact vm_go rfl bX6_isLess_43 oX6_isLess_43 ⟨rfl, by rw [if_neg (by omega)], rfl⟩
  | succ i =>
    have e0 : nI (i + 1) - 1 = nI i := nI_pred i
    have e2 := dg_lt x i
    have e3 := dg_lt y i
    obtain ⟨c1, c2, c3⟩ := lZ_dlt e2 e3
    refine vm_go rfl bX6_isLess_7 oX6_isLess_7 ⟨fun q => absurd q (by rw [e0]; exact nI_pos (by omega)), fun _ => ?_⟩
    refine ⟨na, fa, ha, i, e0, by omega, ⟨nb, fb, hb, i, e0, by omega, ?_⟩⟩
    rw [va i (by omega), vb i (by omega)]
    refine ⟨fun q => ?_, fun q => ?_⟩
    · have q := c3.mp ((lg_cmp_eq _ _).mp q)
      refine vm_go rfl bX6_isLess_37 oX6_isLess_37 ?_
      have t1 := dg_top (x := x) (i := i)
      have t2 := dg_top (x := y) (i := i)
      refine vm_Th ?_ rfl (ih i ⟨by omega, by omega⟩ (Nat.lt_succ_self i))
      show _ = [(0, Value.ref m), (1, .ref a), (2, .ref b), (3, .int (nI (i + 1) - 1 + (-1)))]
      rw [e0, i32_m1]
    · have q : ¬ dg x i = dg y i := fun z => q ((lg_cmp_eq _ _).mpr (c3.mpr z))
      refine ⟨na, fa, ha, i, e0, by omega, ⟨nb, fb, hb, i, e0, by omega, ?_⟩⟩
      rw [va i (by omega), vb i (by omega)]
      refine ⟨fun z => ?_, fun z => ?_⟩
      · have z := (lg_cmp_ge _ _).mp z
        have z : ¬ dg x i < dg y i := fun w => by
          have := c1.mpr w
          exact absurd z (Int64.not_le.mpr this)
        refine vm_go rfl bX6_isLess_35 oX6_isLess_35 ?_
        refine vm_go rfl bX6_isLess_36 oX6_isLess_36 ⟨rfl, ?_, rfl⟩
        have := dg_cmp hp.symm (show dg y i < dg x i by omega)
        rw [if_neg (by omega)]
      · have z : dg x i < dg y i := c1.mp (Int64.not_le.mp fun w => z ((lg_cmp_ge _ _).mpr w))
        refine vm_go rfl bX6_isLess_36 oX6_isLess_36 ⟨rfl, ?_, rfl⟩
        rw [if_pos (dg_cmp hp z)]
theorem s_abo {h : vm_H} {ci m L a n na nn x N : Nat} {fs : List Value} {fa fn : Nat → Int64} (hci : ci = 6 ∨ ci = 3) (hm : h.2 m = .inr (ci, fs)) (f0 : fs[0]? = some (.int (nI L))) (f1 : fs[1]? = some (.ref n)) (ha : h.2 a = .inl (.long, na, .inr (.inl fa))) (hn : h.2 n = .inl (.long, nn, .inr (.inl fn))) (hna : L ≤ na) (hnn : L ≤ nn) (hL : L < 65536) (va : ∀ j, j < L → fa j = lZ (dg x j)) (vn : ∀ j, j < L → fn j = lZ (dg N j)) (hx : x < 268435456 ^ L) (hN : N < 268435456 ^ L) :
    vm_Met (vm_env l O f9) mX6_isAbove 0 0 [.ref m, .ref a] h (fun r h' => r = some (.int (if x < N then 1 else 0)) ∧ h' = h) := by
  refine vm_met rfl (Nat.le_of_ble_eq_true rfl) ?_
  refine vm_go rfl (bX6_isAbove_0 ci) (oX6_isAbove_0 hci) ⟨fs, _, hm, f1, ?_⟩
  have hif : (if ci = 600 then 500 else ci) = ci := by rcases hci with rfl | rfl <;> rfl
  refine ⟨fs, by rw [hif]; exact hm, 0, 0, _, s_les hci hm f0 ha hn hna hnn hL va vn hx hN, Nat.le_refl _, Nat.le_refl _, ?_⟩
  rintro r h' ⟨rfl, rfl⟩
  refine ⟨?_, rfl, rfl⟩
  by_cases q : x < N
  · rw [if_pos q]; rfl
  · rw [if_neg q]; rfl
theorem sbR_ge {L x y : Nat} (hx : x < 268435456 ^ L) (h : y ≤ x) : sbR L x y = x - y := by
  unfold sbR
  rw [show x + 268435456 ^ L - y = (x - y) + 268435456 ^ L by omega, Nat.add_mod_right, Nat.mod_eq_of_lt (by omega)]
theorem sbR_lt {L x y : Nat} (hy : y < 268435456 ^ L) (h : x < y) : sbR L x y = x + 268435456 ^ L - y := by
  unfold sbR
  rw [Nat.mod_eq_of_lt (by omega)]
theorem s_low {h : vm_H} {ci m L c n nc nn v N : Nat} {fs : List Value} {fc fn : Nat → Int64} (hci : ci = 6 ∨ ci = 3) (hm : h.2 m = .inr (ci, fs)) (f0 : fs[0]? = some (.int (nI L))) (f1 : fs[1]? = some (.ref n)) (hc : h.2 c = .inl (.long, nc, .inr (.inl fc))) (hn : h.2 n = .inl (.long, nn, .inr (.inl fn))) (hcn : c ≠ n) (hnc : L ≤ nc) (hnn : L ≤ nn) (hL : L < 65536) (hL0 : 0 < L) (hco : c < 1099511627776) (vc : ∀ j, j < L → fc j = lZ (dg v j)) (vn : ∀ j, j < L → fn j = lZ (dg N j)) (hv : v < 268435456 ^ L) (hN : N < 268435456 ^ L) :
    vm_Met (vm_env l O f9) mX6_lower 0 0 [.ref m, .ref c] h (fun r h' => r = none ∧ h' = vm_up h c (.inl (.long, nc, .inr (.inl (cutf (fun j => lZ (dg (if v < N then v else v - N) j)) fc L))))) := by
  have hmc : m ≠ c := fun e => by rw [e, hc] at hm; cases hm
  refine vm_met rfl (Nat.le_of_ble_eq_true rfl) ?_
  refine vm_go rfl (bX6_lower_0 ci) (oX6_lower_0 hci) ⟨fs, _, hm, f0, ?_⟩
  have sub : N ≤ v → vm_T (vm_env l O f9) mX6_lower 0 0 44 [(0, .ref m), (1, .ref c)] [] h (fun r h' => r = none ∧ h' = vm_up h c (.inl (.long, nc, .inr (.inl (cutf (fun j => lZ (dg (if v < N then v else v - N) j)) fc L))))) := by
    intro hge
    rw [if_neg (by omega), ← sbR_ge hv hge]
    refine vm_go rfl bX6_lower_44 oX6_lower_44 ?_
    refine vm_Th (lv' := [(0, .ref m), (1, .ref c), (2, .int (nI 0)), (3, .long (lZ (-(bwA v N 0 : Int))))]) (h' := vm_up h c (.inl (.long, nc, .inr (.inl (cutf (fun j => lZ (dg (sbR L v N) j)) fc 0))))) (by rw [bwA_0]; rfl) (by rw [cutf_0]; exact vm_ups hc) ?_
    refine vm_for L (fun i => [(0, .ref m), (1, .ref c), (2, .int (nI i)), (3, .long (lZ (-(bwA v N i : Int))))]) (fun i => vm_up h c (.inl (.long, nc, .inr (.inl (cutf (fun j => lZ (dg (sbR L v N) j)) fc i))))) 0 (Nat.zero_le _) ?_ ?_
    · refine vm_go rfl (bX6_lower_48 ci) (oX6_lower_48 hci) ⟨fs, _, (vm_upn hmc).trans hm, f0, ⟨fun _ => ?_, fun q => absurd (nI_get (Nat.le_refl _) (by omega)) q⟩⟩
      exact vm_go rfl bX6_lower_91 oX6_lower_91 ⟨rfl, rfl⟩
    · intro i _ hi ih
      refine vm_go rfl (bX6_lower_48 ci) (oX6_lower_48 hci) ⟨fs, _, (vm_upn hmc).trans hm, f0, ⟨fun q => absurd q (nI_ge hi (by omega)), fun _ => ?_⟩⟩
      refine ⟨nc, _, vm_upe, i, rfl, by omega, ⟨fs, _, (vm_upn hmc).trans hm, f1, ⟨nn, fn, (vm_upn (Ne.symm hcn)).trans hn, i, rfl, by omega, ?_⟩⟩⟩
      rw [cutf_hi (Nat.le_refl i), vc i hi, vn i hi]
      refine ⟨nc, _, vm_upe, hco, i, rfl, by omega, ?_⟩
      refine vm_less [0, 1, 2, 3] rfl ?_
      have e1 := bwA_s (x := v) (y := N) hi (by omega)
      have e2 := dg_lt (sbR L v N) i
      have e3 := dg_lt v i
      have e4 := dg_lt N i
      have e5 := bwA_le v N i
      have e6 := bwA_le v N (i + 1)
      refine vm_Th ?_ ?_ ih
      · show _ = [(0, Value.ref m), (1, .ref c), (2, .int (nI i + 1)), (3, .long ((lZ (dg v i) - lZ (dg N i) + lZ (-(bwA v N i : Int))) >>> ((28 : Int32).toInt64 &&& 63)))]
        rw [lZ_sub, lZ_add, lZ_28 (by omega) (by omega), nI_1, show ((dg v i : Int) - dg N i + -(bwA v N i : Int)) / 268435456 = -(bwA v N (i + 1) : Int) by omega]
      · rw [vm_upup, cutf_sL]
        rw [lZ_sub, lZ_add, lZ_m28]
        congr 1
        omega
  have fin : ∀ i, i < L → v / 268435456 ^ (i + 1) = N / 268435456 ^ (i + 1) → (i = 0 ∨ dg v i ≠ dg N i) → vm_T (vm_env l O f9) mX6_lower 0 0 30 [(0, .ref m), (1, .ref c), (2, .int (nI i))] [] h (fun r h' => r = none ∧ h' = vm_up h c (.inl (.long, nc, .inr (.inl (cutf (fun j => lZ (dg (if v < N then v else v - N) j)) fc L))))) := by
    intro i hi hp hq
    have e3 := dg_lt v i
    have e4 := dg_lt N i
    obtain ⟨c1, c2, c3⟩ := lZ_dlt e3 e4
    refine vm_go rfl (bX6_lower_30 ci) (oX6_lower_30 hci) ⟨nc, fc, hc, i, rfl, by omega, ⟨fs, _, hm, f1, ⟨nn, fn, hn, i, rfl, by omega, ?_⟩⟩⟩
    rw [vc i hi, vn i hi]
    refine ⟨fun z => ?_, fun z => ?_⟩
    · have z := (lg_cmp_ge _ _).mp z
      have z : ¬ dg v i < dg N i := fun w => absurd z (Int64.not_le.mpr (c1.mpr w))
      refine vm_less [0, 1] rfl (sub ?_)
      rcases Nat.lt_or_ge (dg N i) (dg v i) with w | w
      · exact Nat.le_of_lt (dg_cmp hp.symm w)
      · rcases hq with rfl | hq
        · have t1 := dg_top (x := v) (i := 0)
          have t2 := dg_top (x := N) (i := 0)
          rw [Nat.pow_zero, Nat.div_one] at t1 t2
          omega
        · omega
    · have z : dg v i < dg N i := c1.mp (Int64.not_le.mp fun w => z ((lg_cmp_ge _ _).mpr w))
      have z := dg_cmp hp z
      refine ⟨rfl, ?_⟩
      rw [if_pos z]
      refine (vm_ups ?_).symm
      rw [hc]
      congr 5
      funext j
      unfold cutf
      by_cases hj : j < L
      · rw [if_pos hj, vc j hj]
      · rw [if_neg hj]
  refine vm_Th (lv' := [(0, .ref m), (1, .ref c), (2, .int (nI (L - 1)))]) (by rw [show nI (L - 1) = nI L - 1 from by rw [← nI_pred (L - 1), show L - 1 + 1 = L by omega]]; rfl) rfl ?_
  refine vm_while (σ := Nat) (fun i => i < L ∧ v / 268435456 ^ (i + 1) = N / 268435456 ^ (i + 1)) (fun k => k) (fun i => [(0, .ref m), (1, .ref c), (2, .int (nI i))]) (fun _ => h) ?_ (L - 1) ⟨by omega, by rw [show L - 1 + 1 = L by omega, Nat.div_eq_of_lt hv, Nat.div_eq_of_lt hN]⟩
  intro i ⟨hi, hp⟩ ih
  cases i with
  | zero => exact vm_go rfl (bX6_lower_7 ci) (oX6_lower_7 hci) ⟨fun _ => fin 0 hi hp (Or.inl rfl), fun q => absurd (by decide) q⟩
  | succ i =>
    have e3 := dg_lt v (i + 1)
    have e4 := dg_lt N (i + 1)
    obtain ⟨c1, c2, c3⟩ := lZ_dlt e3 e4
    refine vm_go rfl (bX6_lower_7 ci) (oX6_lower_7 hci) ⟨fun q => absurd q (nI_nle (Nat.succ_pos i) (by omega)), fun _ => ?_⟩
    refine ⟨nc, fc, hc, i + 1, rfl, by omega, ⟨fs, _, hm, f1, ⟨nn, fn, hn, i + 1, rfl, by omega, ?_⟩⟩⟩
    rw [vc _ hi, vn _ hi]
    refine ⟨fun q => ?_, fun q => ?_⟩
    · exact fin (i + 1) hi hp (Or.inr fun z => q ((lg_cmp_eq _ _).mpr (c3.mpr z)))
    · have q := c3.mp ((lg_cmp_eq _ _).mp q)
      have t1 := dg_top (x := v) (i := i + 1)
      have t2 := dg_top (x := N) (i := i + 1)
      refine vm_Th ?_ rfl (ih i ⟨by omega, by rw [t1, t2, hp, q]⟩ (Nat.lt_succ_self i))
      show _ = [(0, Value.ref m), (1, .ref c), (2, .int (nI (i + 1) + (-1)))]
      rw [i32_m1, nI_pred]
end
