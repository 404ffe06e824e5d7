/-! VeilMint$Modulus: what its methods do (objects of class ci: 6 Modulus, 3 Field) -/
theorem vm_Th {E : vm_E} {y : vm_M} {kc ks pc : Nat} {lv lv' : vm_L} {st : List Value} {h h' : vm_H} {Q : Option Value → vm_H → Prop} (el : lv' = lv) (e : h' = h) (k : vm_T E y kc ks pc lv' st h' Q) : vm_T E y kc ks pc lv st h Q := by
  subst el; subst e; exact k
theorem lZ_28 {z : Int} (h1 : -9223372036854775808 ≤ z) (h2 : z < 9223372036854775808) : lZ z >>> ((28 : Int32).toInt64 &&& 63) = lZ (z / 268435456) := lZ_shr (k := 28) h1 h2 (by decide)
theorem lZ_m28 (z : Int) : lZ z &&& 268435455 = lZ (z % 268435456) := lZ_mask z (k := 28) (by decide)
theorem nI_get {L i : Nat} (h : L ≤ i) (hi : i < 2147483648) : nI L ≤ nI i := nI_le h hi
section
variable {l : Launch} {O : Nat → vm_Ob} {f9 : Value}
theorem s_put {h : vm_H} {ci m L a b c na nb nc x y : Nat} {fs : List Value} {fa fb fc : Nat → Int64} (hci : ci = 6 ∨ ci = 3) (hm : h.2 m = .inr (ci, fs)) (f0 : fs[0]? = some (.int (nI L))) (ha : h.2 a = .inl (.long, na, .inr (.inl fa))) (hb : h.2 b = .inl (.long, nb, .inr (.inl fb))) (hc : h.2 c = .inl (.long, nc, .inr (.inl fc))) (hna : L ≤ na) (hnb : L ≤ nb) (hnc : L ≤ nc) (hL : L < 65536) (hco : c < 1099511627776) (va : ∀ j, j < L → fa j = lZ (dg x j)) (vb : ∀ j, j < L → fb j = lZ (dg y j)) :
    vm_Met (vm_env l O f9) mX6_putTogether 0 0 [.ref m, .ref a, .ref b, .ref c] h (fun r h' => r = none ∧ h' = vm_up h c (.inl (.long, nc, .inr (.inl (cutf (fun j => lZ (dg (x + y) j)) fc L))))) := by
  have hmc : m ≠ c := fun e => by rw [e, hc] at hm; cases hm
  refine vm_met rfl (Nat.le_of_ble_eq_true rfl) ?_
  refine vm_go rfl bX6_putTogether_0 oX6_putTogether_0 ?_
  refine vm_Th (lv' := [(0, .ref m), (1, .ref a), (2, .ref b), (3, .ref c), (4, .long (lZ (cyA x y 0))), (6, .int (nI 0))]) (h' := vm_up h c (.inl (.long, nc, .inr (.inl (cutf (fun j => lZ (dg (x + y) j)) fc 0))))) (by rw [cyA_0]; rfl) (by rw [cutf_0]; exact vm_ups hc) ?_
  refine vm_for L (fun i => [(0, .ref m), (1, .ref a), (2, .ref b), (3, .ref c), (4, .long (lZ (cyA x y i))), (6, .int (nI i))]) (fun i => vm_up h c (.inl (.long, nc, .inr (.inl (cutf (fun j => lZ (dg (x + y) j)) fc i))))) 0 (Nat.zero_le _) ?_ ?_
  · refine vm_go rfl (bX6_putTogether_6 ci) (oX6_putTogether_6 hci) ⟨fs, _, (vm_upn hmc).trans hm, f0, ⟨fun _ => ?_, fun q => absurd (nI_get (Nat.le_refl _) (by omega)) q⟩⟩
    exact vm_go rfl bX6_putTogether_52 oX6_putTogether_52 ⟨rfl, rfl⟩
  · intro i _ hi ih
    obtain ⟨ga, ga1, ga2⟩ := vL_rd ha hc (cutf (fun j => lZ (dg (x + y) j)) fc i) i (cutf_hi (Nat.le_refl _))
    obtain ⟨gb, gb1, gb2⟩ := vL_rd hb hc (cutf (fun j => lZ (dg (x + y) j)) fc i) i (cutf_hi (Nat.le_refl _))
    refine vm_go rfl (bX6_putTogether_6 ci) (oX6_putTogether_6 hci) ⟨fs, _, (vm_upn hmc).trans hm, f0, ⟨fun q => absurd q (nI_ge hi (by omega)), fun _ => ?_⟩⟩
    refine ⟨na, ga, ga1, i, rfl, by omega, ⟨nb, gb, gb1, i, rfl, by omega, ?_⟩⟩
    rw [ga2, gb2, va i hi, vb i hi]
    refine ⟨nc, _, vm_upe, hco, i, rfl, by omega, ?_⟩
    refine vm_less [0, 1, 2, 3, 4, 5] rfl ?_
    have e1 := cyA_s x y i
    have e2 := dg_lt (x + y) i
    have e3 := dg_lt x i
    have e4 := dg_lt y i
    have e5 : cyA x y i ≤ 1 := by
      unfold cyA
      have hB : 0 < 268435456 ^ i := Nat.pow_pos (by decide)
      have := Nat.mod_lt x hB
      have := Nat.mod_lt y hB
      have : (x % 268435456 ^ i + y % 268435456 ^ i) / 268435456 ^ i < 2 := (Nat.div_lt_iff_lt_mul hB).mpr (by omega)
      omega
    refine vm_Th ?_ ?_ ih
    · show _ = [(0, Value.ref m), (1, .ref a), (2, .ref b), (3, .ref c), (4, .long ((lZ (dg x i) + lZ (dg y i) + lZ (cyA x y i)) >>> ((28 : Int32).toInt64 &&& 63))), (6, .int (nI i + 1))]
      rw [lZ_add, lZ_add, lZ_28 (by omega) (by omega), nI_1, show ((dg x i : Int) + dg y i + cyA x y i) / 268435456 = cyA x y (i + 1) by omega]
    · rw [vm_upup, cutf_sL]
      rw [lZ_add, lZ_add, lZ_m28]
      congr 1
      omega
theorem bwA_le (x y i : Nat) : bwA x y i ≤ 1 := by unfold bwA; split <;> omega
theorem s_tak {h : vm_H} {ci m L a b c na nb nc x y : Nat} {fs : List Value} {fa fb fc : Nat → Int64} (hci : ci = 6 ∨ ci = 3) (hm : h.2 m = .inr (ci, fs)) (f0 : fs[0]? = some (.int (nI L))) (ha : h.2 a = .inl (.long, na, .inr (.inl fa))) (hb : h.2 b = .inl (.long, nb, .inr (.inl fb))) (hc : h.2 c = .inl (.long, nc, .inr (.inl fc))) (hna : L ≤ na) (hnb : L ≤ nb) (hnc : L ≤ nc) (hL : L < 65536) (hco : c < 1099511627776) (va : ∀ j, j < L → fa j = lZ (dg x j)) (vb : ∀ j, j < L → fb j = lZ (dg y j)) (hx : x < 268435456 ^ L) (hy : y < 268435456 ^ L) :
    vm_Met (vm_env l O f9) mX6_takeAway 0 0 [.ref m, .ref a, .ref b, .ref c] h (fun r h' => r = some (.int (if x < y then 1 else 0)) ∧ h' = vm_up h c (.inl (.long, nc, .inr (.inl (cutf (fun j => lZ (dg (sbR L x y) j)) fc L))))) := by
  have hmc : m ≠ c := fun e => by rw [e, hc] at hm; cases hm
  refine vm_met rfl (Nat.le_of_ble_eq_true rfl) ?_
  refine vm_go rfl bX6_takeAway_0 oX6_takeAway_0 ?_
  refine vm_Th (lv' := [(0, .ref m), (1, .ref a), (2, .ref b), (3, .ref c), (4, .long (lZ (-(bwA x y 0 : Int)))), (6, .int (nI 0))]) (h' := vm_up h c (.inl (.long, nc, .inr (.inl (cutf (fun j => lZ (dg (sbR L x y) j)) fc 0))))) (by rw [bwA_0]; rfl) (by rw [cutf_0]; exact vm_ups hc) ?_
  refine vm_for L (fun i => [(0, .ref m), (1, .ref a), (2, .ref b), (3, .ref c), (4, .long (lZ (-(bwA x y i : Int)))), (6, .int (nI i))]) (fun i => vm_up h c (.inl (.long, nc, .inr (.inl (cutf (fun j => lZ (dg (sbR L x y) j)) fc i))))) 0 (Nat.zero_le _) ?_ ?_
  · refine vm_go rfl (bX6_takeAway_6 ci) (oX6_takeAway_6 hci) ⟨fs, _, (vm_upn hmc).trans hm, f0, ⟨fun _ => ?_, fun q => absurd (nI_get (Nat.le_refl _) (by omega)) q⟩⟩
    have e1 : bwA x y L = if x < y then 1 else 0 := by unfold bwA; rw [Nat.mod_eq_of_lt hx, Nat.mod_eq_of_lt hy]
    refine vm_go rfl bX6_takeAway_52 oX6_takeAway_52 ⟨fun q => ?_, fun q => ?_⟩
    · have q := (lg_cmp_eq _ _).mp q
      have q : lZ (-(bwA x y L : Int)) = lZ 0 := q
      rw [lZ_inj (by have := bwA_le x y L; omega) (by omega) (by omega) (by omega)] at q
      refine vm_go rfl bX6_takeAway_63 oX6_takeAway_63 ?_
      refine vm_go rfl bX6_takeAway_64 oX6_takeAway_64 ⟨rfl, ?_, rfl⟩
      rw [e1] at q
      split at q
      · omega
      · next hlt => rw [if_neg hlt]
    · have q : ¬ lZ (-(bwA x y L : Int)) = lZ 0 := fun z => q ((lg_cmp_eq _ _).mpr z)
      refine vm_go rfl bX6_takeAway_64 oX6_takeAway_64 ⟨rfl, ?_, rfl⟩
      rw [e1] at q
      split at q
      · next hlt => rw [if_pos hlt]
      · exact absurd rfl q
  · intro i _ hi ih
    obtain ⟨ga, ga1, ga2⟩ := vL_rd ha hc (cutf (fun j => lZ (dg (sbR L x y) j)) fc i) i (cutf_hi (Nat.le_refl _))
    obtain ⟨gb, gb1, gb2⟩ := vL_rd hb hc (cutf (fun j => lZ (dg (sbR L x y) j)) fc i) i (cutf_hi (Nat.le_refl _))
    refine vm_go rfl (bX6_takeAway_6 ci) (oX6_takeAway_6 hci) ⟨fs, _, (vm_upn hmc).trans hm, f0, ⟨fun q => absurd q (nI_ge hi (by omega)), fun _ => ?_⟩⟩
    refine ⟨na, ga, ga1, i, rfl, by omega, ⟨nb, gb, gb1, i, rfl, by omega, ?_⟩⟩
    rw [ga2, gb2, va i hi, vb i hi]
    refine ⟨nc, _, vm_upe, hco, i, rfl, by omega, ?_⟩
    refine vm_less [0, 1, 2, 3, 4, 5] rfl ?_
    have e1 := bwA_s (x := x) (y := y) hi (by omega)
    have e2 := dg_lt (sbR L x y) i
    have e3 := dg_lt x i
    have e4 := dg_lt y i
    have e5 := bwA_le x y i
    have e6 := bwA_le x y (i + 1)
    refine vm_Th ?_ ?_ ih
    · show _ = [(0, Value.ref m), (1, .ref a), (2, .ref b), (3, .ref c), (4, .long ((lZ (dg x i) - lZ (dg y i) + lZ (-(bwA x y i : Int))) >>> ((28 : Int32).toInt64 &&& 63))), (6, .int (nI i + 1))]
      rw [lZ_sub, lZ_add, lZ_28 (by omega) (by omega), nI_1, show ((dg x i : Int) - dg y i + -(bwA x y i : Int)) / 268435456 = -(bwA x y (i + 1) : Int) by omega]
    · rw [vm_upup, cutf_sL]
      rw [lZ_sub, lZ_add, lZ_m28]
      congr 1
      omega
theorem s_mcopy {h : vm_H} {ci m L a c na nc : Nat} {fs : List Value} {fa fc : Nat → Int64} (hci : ci = 6 ∨ ci = 3) (hm : h.2 m = .inr (ci, fs)) (f0 : fs[0]? = some (.int (nI L))) (ha : h.2 a = .inl (.long, na, .inr (.inl fa))) (hc : h.2 c = .inl (.long, nc, .inr (.inl fc))) (hna : L ≤ na) (hnc : L ≤ nc) (hco : c < 1099511627776) :
    vm_Met (vm_env l O f9) mX6_copy 0 0 [.ref m, .ref a, .ref c] h (fun r h' => r = none ∧ h' = vm_up h c (.inl (.long, nc, .inr (.inl (cutf fa fc L))))) := by
  refine vm_met rfl (Nat.le_of_ble_eq_true rfl) ?_
  refine vm_go rfl (bX6_copy_0 ci) (oX6_copy_0 hci) ⟨fs, _, hm, f0, L, 0, 0, na, nc, rfl, rfl, rfl, by omega, by omega, hco, fa, fc, ha, hc, rfl, ?_⟩
  congr 6
  funext j
  unfold va_cpy cutf
  by_cases hj : j < L
  · rw [if_pos ⟨Nat.zero_le _, by omega⟩, if_pos hj]; congr 1; omega
  · rw [if_neg (by omega), if_neg hj]
theorem s_isz {h : vm_H} {ci m L a na x : Nat} {fs : List Value} {fa : Nat → Int64} (hci : ci = 6 ∨ ci = 3) (hm : h.2 m = .inr (ci, fs)) (f0 : fs[0]? = some (.int (nI L))) (ha : h.2 a = .inl (.long, na, .inr (.inl fa))) (hna : L ≤ na) (hL : L < 65536) (va : ∀ j, j < L → fa j = lZ (dg x j)) (hx : x < 268435456 ^ L) :
    vm_Met (vm_env l O f9) mX6_isZero 0 0 [.ref m, .ref a] h (fun r h' => r = some (.int (if x = 0 then 1 else 0)) ∧ h' = h) := by
  refine vm_met rfl (Nat.le_of_ble_eq_true rfl) ?_
  refine vm_go rfl bX6_isZero_0 oX6_isZero_0 ?_
  refine vm_forP (fun i => x % 268435456 ^ i = 0) L (fun i => [(0, .ref m), (1, .ref a), (2, .int (nI i))]) (fun _ => h) 0 (Nat.zero_le _) (by rw [Nat.pow_zero, Nat.mod_one]) (fun hp => ?_) ?_
  · rw [Nat.mod_eq_of_lt hx] at hp
    refine vm_go rfl (bX6_isZero_2 ci) (oX6_isZero_2 hci) ⟨fs, _, hm, f0, ⟨fun _ => ?_, fun q => absurd (nI_get (Nat.le_refl _) (by omega)) q⟩⟩
    exact vm_go rfl bX6_isZero_26 oX6_isZero_26 ⟨rfl, by rw [if_pos hp], rfl⟩
  · intro i _ hi hp ih
    refine vm_go rfl (bX6_isZero_2 ci) (oX6_isZero_2 hci) ⟨fs, _, hm, f0, ⟨fun q => absurd q (nI_ge hi (by omega)), fun _ => ?_⟩⟩
    refine ⟨na, fa, ha, i, rfl, by omega, ?_⟩
    rw [va i hi]
    have e2 := dg_lt x i
    have e3 := dg_split x i
    refine ⟨fun q => ?_, fun q => ?_⟩
    · have q : lZ (dg x i) = lZ 0 := (lg_cmp_eq _ _).mp q
      rw [lZ_inj (by omega) (by omega) (by omega) (by omega)] at q
      refine vm_go rfl bX6_isZero_20 oX6_isZero_20 ?_
      refine vm_Th ?_ rfl (ih (by rw [e3, hp, show dg x i = 0 by omega]; rfl))
      rw [← nI_1]; rfl
    · have q : ¬ lZ (dg x i) = lZ 0 := fun z => q ((lg_cmp_eq _ _).mpr z)
      refine ⟨rfl, ?_, rfl⟩
      rw [if_neg]
      intro hx0
      apply q
      rw [hx0]
      unfold dg
      rw [Nat.zero_div]; rfl
theorem dg_ext {x y L : Nat} (hx : x < 268435456 ^ L) (hy : y < 268435456 ^ L) (h : ∀ j, j < L → dg x j = dg y j) : x = y := by
  have key : ∀ i, i ≤ L → x % 268435456 ^ i = y % 268435456 ^ i := by
    intro i
    induction i with
    | zero => intro _; rw [Nat.pow_zero, Nat.mod_one, Nat.mod_one]
    | succ i ih => intro hi; rw [dg_split, dg_split y, ih (by omega), h i (by omega)]
  have := key L (Nat.le_refl _)
  rwa [Nat.mod_eq_of_lt hx, Nat.mod_eq_of_lt hy] at this
theorem s_msame {h : vm_H} {ci m L a b na nb x y : Nat} {fs : List Value} {fa fb : Nat → Int64} (hci : ci = 6 ∨ ci = 3) (hm : h.2 m = .inr (ci, fs)) (f0 : fs[0]? = some (.int (nI L))) (ha : h.2 a = .inl (.long, na, .inr (.inl fa))) (hb : h.2 b = .inl (.long, nb, .inr (.inl fb))) (hna : L ≤ na) (hnb : L ≤ nb) (hL : L < 65536) (va : ∀ j, j < L → fa j = lZ (dg x j)) (vb : ∀ j, j < L → fb j = lZ (dg y j)) (hx : x < 268435456 ^ L) (hy : y < 268435456 ^ L) :
    vm_Met (vm_env l O f9) mX6_same 0 0 [.ref m, .ref a, .ref b] h (fun r h' => r = some (.int (if x = y then 1 else 0)) ∧ h' = h) := by
  refine vm_met rfl (Nat.le_of_ble_eq_true rfl) ?_
  refine vm_go rfl bX6_same_0 oX6_same_0 ?_
  refine vm_forP (fun i => ∀ j, j < i → dg x j = dg y j) L (fun i => [(0, .ref m), (1, .ref a), (2, .ref b), (3, .int (nI i))]) (fun _ => h) 0 (Nat.zero_le _) (fun j hj => by omega) (fun hp => ?_) ?_
  · refine vm_go rfl (bX6_same_2 ci) (oX6_same_2 hci) ⟨fs, _, hm, f0, ⟨fun _ => ?_, fun q => absurd (nI_get (Nat.le_refl _) (by omega)) q⟩⟩
    exact vm_go rfl bX6_same_28 oX6_same_28 ⟨rfl, by rw [if_pos (dg_ext hx hy hp)], rfl⟩
  · intro i _ hi hp ih
    refine vm_go rfl (bX6_same_2 ci) (oX6_same_2 hci) ⟨fs, _, hm, f0, ⟨fun q => absurd q (nI_ge hi (by omega)), fun _ => ?_⟩⟩
    refine ⟨na, fa, ha, i, rfl, by omega, ⟨nb, fb, hb, i, rfl, by omega, ?_⟩⟩
    rw [va i hi, vb i hi]
    have e2 := dg_lt x i
    have e3 := dg_lt y i
    refine ⟨fun q => ?_, fun q => ?_⟩
    · have q : lZ (dg x i) = lZ (dg y i) := (lg_cmp_eq _ _).mp q
      rw [lZ_inj (by omega) (by omega) (by omega) (by omega)] at q
      refine vm_go rfl bX6_same_22 oX6_same_22 ?_
      refine vm_Th ?_ rfl (ih (fun j hj => by
        rcases Nat.lt_or_ge j i with z | z
        · exact hp j z
        · rw [show j = i by omega]; omega))
      rw [← nI_1]; rfl
    · have q : ¬ lZ (dg x i) = lZ (dg y i) := fun z => q ((lg_cmp_eq _ _).mpr z)
      refine ⟨rfl, ?_, rfl⟩
      rw [if_neg]
      intro hxy
      apply q
      rw [hxy]
end
