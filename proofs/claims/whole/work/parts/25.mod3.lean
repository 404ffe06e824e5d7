/-! VeilMint$Modulus, on: add, sub, halve; Arrays.fill -/
theorem cutf_c {α : Type} {g g' f : Nat → α} {L : Nat} : cutf g' (cutf g f L) L = cutf g' f L := by
  funext j
  unfold cutf
  by_cases h : j < L
  · rw [if_pos h, if_pos h]
  · rw [if_neg h, if_neg h, if_neg h]
theorem cutf_e {α : Type} {g g' f : Nat → α} {L : Nat} (h : ∀ j, j < L → g j = g' j) : cutf g f L = cutf g' f L := by
  funext j
  unfold cutf
  by_cases q : j < L
  · rw [if_pos q, if_pos q, h j q]
  · rw [if_neg q, if_neg q]
theorem cutf_s {α : Type} {f : Nat → α} {L : Nat} : cutf f f L = f := by
  funext j; unfold cutf; split <;> rfl
section
variable {l : Launch} {O : Nat → vm_Ob} {f9 : Value}
theorem s_add {h : vm_H} {ci m L a b c n na nb nc nn x y N : Nat} {fs : List Value} {fa fb fc fn : Nat → Int64} (hci : ci = 6 ∨ ci = 3) (hm : h.2 m = .inr (ci, fs)) (f0 : fs[0]? = some (.int (nI L))) (f1 : fs[1]? = some (.ref n)) (ha : h.2 a = .inl (.long, na, .inr (.inl fa))) (hb : h.2 b = .inl (.long, nb, .inr (.inl fb))) (hc : h.2 c = .inl (.long, nc, .inr (.inl fc))) (hn : h.2 n = .inl (.long, nn, .inr (.inl fn))) (hcn : c ≠ n) (hna : L ≤ na) (hnb : L ≤ nb) (hnc : L ≤ nc) (hnn : L ≤ nn) (hL : L < 65536) (hL0 : 0 < L) (hco : c < 1099511627776) (va : ∀ j, j < L → fa j = lZ (dg x j)) (vb : ∀ j, j < L → fb j = lZ (dg y j)) (vn : ∀ j, j < L → fn j = lZ (dg N j)) (hxy : x + y < 268435456 ^ L) (hx2 : x + y < 2 * N) (hN : N < 268435456 ^ L) :
    vm_Met (vm_env l O f9) mX6_add 0 0 [.ref m, .ref a, .ref b, .ref c] h (fun r h' => r = none ∧ h' = vm_up h c (.inl (.long, nc, .inr (.inl (cutf (fun j => lZ (dg ((x + y) % N) j)) fc L))))) := by
  have hmc : m ≠ c := fun e => by rw [e, hc] at hm; cases hm
  have hif : (if ci = 600 then 500 else ci) = ci := by rcases hci with rfl | rfl <;> rfl
  refine vm_met rfl (Nat.le_of_ble_eq_true rfl) ?_
  refine vm_go rfl (bX6_add_0 ci) (oX6_add_0 hci) ⟨fs, by rw [hif]; exact hm, 0, 0, _, s_put hci hm f0 ha hb hc hna hnb hnc hL hco va vb, Nat.le_refl _, Nat.le_refl _, ?_⟩
  rintro r h' ⟨rfl, rfl⟩
  refine ⟨fs, by rw [hif]; exact (vm_upn hmc).trans hm, 0, 0, _, s_low (v := x + y) hci ((vm_upn hmc).trans hm) f0 f1 vm_upe ((vm_upn (Ne.symm hcn)).trans hn) hcn hnc hnn hL hL0 hco (fun j hj => cutf_lo hj) vn hxy hN, Nat.le_refl _, Nat.le_refl _, ?_⟩
  rintro r h' ⟨rfl, rfl⟩
  refine ⟨rfl, ?_⟩
  rw [vm_upup, cutf_c]
  have e : (if x + y < N then x + y else x + y - N) = (x + y) % N := by
    split
    · next q => exact (Nat.mod_eq_of_lt q).symm
    · next q => rw [Nat.mod_eq_sub_mod (by omega), Nat.mod_eq_of_lt (by omega)]
  rw [e]
theorem s_sub {h : vm_H} {ci m L a b c n na nb nc nn x y N : Nat} {fs : List Value} {fa fb fc fn : Nat → Int64} (hci : ci = 6 ∨ ci = 3) (hm : h.2 m = .inr (ci, fs)) (f0 : fs[0]? = some (.int (nI L))) (f1 : fs[1]? = some (.ref n)) (ha : h.2 a = .inl (.long, na, .inr (.inl fa))) (hb : h.2 b = .inl (.long, nb, .inr (.inl fb))) (hc : h.2 c = .inl (.long, nc, .inr (.inl fc))) (hn : h.2 n = .inl (.long, nn, .inr (.inl fn))) (hcn : c ≠ n) (hna : L ≤ na) (hnb : L ≤ nb) (hnc : L ≤ nc) (hnn : L ≤ nn) (hL : L < 65536) (hco : c < 1099511627776) (va : ∀ j, j < L → fa j = lZ (dg x j)) (vb : ∀ j, j < L → fb j = lZ (dg y j)) (vn : ∀ j, j < L → fn j = lZ (dg N j)) (hx : x < N) (hy : y < N) (hN : N < 268435456 ^ L) :
    vm_Met (vm_env l O f9) mX6_sub 0 0 [.ref m, .ref a, .ref b, .ref c] h (fun r h' => r = none ∧ h' = vm_up h c (.inl (.long, nc, .inr (.inl (cutf (fun j => lZ (dg ((x + N - y) % N) j)) fc L))))) := by
  have hmc : m ≠ c := fun e => by rw [e, hc] at hm; cases hm
  have hif : (if ci = 600 then 500 else ci) = ci := by rcases hci with rfl | rfl <;> rfl
  refine vm_met rfl (Nat.le_of_ble_eq_true rfl) ?_
  refine vm_go rfl (bX6_sub_0 ci) (oX6_sub_0 hci) ⟨fs, by rw [hif]; exact hm, 0, 0, _, s_tak hci hm f0 ha hb hc hna hnb hnc hL hco va vb (by omega) (by omega), Nat.le_refl _, Nat.le_refl _, ?_⟩
  rintro r h' ⟨rfl, rfl⟩
  by_cases hlt : x < y
  · rw [if_pos hlt]
    refine ⟨fun q => absurd q (by decide), fun _ => ?_⟩
    refine ⟨fs, _, (vm_upn hmc).trans hm, f1, ?_⟩
    refine ⟨fs, by rw [hif]; exact (vm_upn hmc).trans hm, 0, 0, _, s_put (x := sbR L x y) (y := N) hci ((vm_upn hmc).trans hm) f0 vm_upe ((vm_upn (Ne.symm hcn)).trans hn) vm_upe hnc hnn hnc hL hco (fun j hj => cutf_lo hj) vn, Nat.le_refl _, Nat.le_refl _, ?_⟩
    rintro r h' ⟨rfl, rfl⟩
    refine vm_go rfl bX6_sub_20 oX6_sub_20 ⟨rfl, ?_⟩
    rw [vm_upup, cutf_c]
    refine congrArg (fun f => vm_up h c (.inl (.long, nc, .inr (.inl f)))) (cutf_e (fun j hj => ?_))
    rw [sbR_lt (by omega) hlt, show x + 268435456 ^ L - y + N = (x + N - y) + 268435456 ^ L by omega, ← dg_mod hj, Nat.add_mod_right, Nat.mod_eq_of_lt (a := x + N - y) (b := 268435456 ^ L) (by omega), Nat.mod_eq_of_lt (a := x + N - y) (b := N) (by omega)]
  · rw [if_neg hlt]
    refine ⟨fun _ => ?_, fun q => absurd rfl q⟩
    refine vm_go rfl bX6_sub_20 oX6_sub_20 ⟨rfl, ?_⟩
    rw [sbR_ge (by omega) (by omega), show x + N - y = (x - y) + N by omega, Nat.add_mod_right, Nat.mod_eq_of_lt (by omega)]
theorem s_fillL {h : vm_H} {a na : Nat} {fa : Nat → Int64} {v : Int64} (ha : h.2 a = .inl (.long, na, .inr (.inl fa))) (hao : a < 1099511627776) (hna : na < 2147483648) :
    vm_Met (vm_env l O f9) mJ7_fill_d0a16 0 0 [.ref a, .long v] h (fun r h' => r = none ∧ h' = vm_up h a (.inl (.long, na, .inr (.inl (cutf (fun _ => v) fa na))))) := by
  refine vm_met (by decide +kernel) (Nat.le_of_ble_eq_true rfl) ?_
  refine vm_go rfl bJ7_fill_d0a16_0 oJ7_fill_d0a16_0 ⟨_, _, ha, by decide, ?_⟩
  refine vm_Th (lv' := [(0, .ref a), (1, .long v), (3, .int (nI 0)), (4, .int (nI na))]) (h' := vm_up h a (.inl (.long, na, .inr (.inl (cutf (fun _ => v) fa 0))))) rfl (by rw [cutf_0]; exact vm_ups ha) ?_
  refine vm_for na (fun i => [(0, .ref a), (1, .long v), (3, .int (nI i)), (4, .int (nI na))]) (fun i => vm_up h a (.inl (.long, na, .inr (.inl (cutf (fun _ => v) fa i))))) 0 (Nat.zero_le _) ?_ ?_
  · refine vm_go rfl bJ7_fill_d0a16_6 oJ7_fill_d0a16_6 ⟨fun _ => ?_, fun q => absurd (nI_get (Nat.le_refl _) hna) q⟩
    exact vm_go rfl bJ7_fill_d0a16_22 oJ7_fill_d0a16_22 ⟨rfl, rfl⟩
  · intro i _ hi ih
    refine vm_go rfl bJ7_fill_d0a16_6 oJ7_fill_d0a16_6 ⟨fun q => absurd q (nI_ge hi (by omega)), fun _ => ?_⟩
    refine ⟨na, _, vm_upe, hao, i, rfl, hi, ?_⟩
    refine vm_Th ?_ ?_ ih
    · rw [← nI_1]; rfl
    · rw [vm_upup, cutf_sL rfl]
end
