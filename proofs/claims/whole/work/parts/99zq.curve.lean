/-! the reference: the curve, roots, elements -/
def bX14_turnx_0 : List vm_J := [(3, .getstatic 173, 6, 0, 0, .null), (1, .aload_n 0, 0, 0, 0, .null), (1, .aload_n 0, 0, 0, 0, .null), (2, .bipush 12, 0, 0, 0, .int 12), (3, .invokestatic 30, 144, 4, 0, .null), (1, .istore_n 1, 0, 0, 0, .null), (1, .return_, 0, 0, 0, .null)]
set_option maxRecDepth 20000 in
theorem oX14_turnx_0 : vm_okB 14 mX14_turn 0 bX14_turnx_0 = true := by decide +kernel
/-- the exponent of a root -/
def rE9 : Nat := (cPm + 1 + 1) / 4
theorem rE_4 : rE9 * 4 = cPm + 1 + 1 := by decide +kernel
theorem rE_lt : rE9 < 2 ^ 384 := by decide +kernel
theorem cB_v : (fz (cB : Int)).val = cB := by decide +kernel
/-- the reference's constants -/
def RV (h : vm_H) : Prop := wv h 12 1099511627777 12 cB ∧ wv h 12 1099511627778 12 (cPm + 1) ∧ wv h 12 1099511627779 12 cQ
theorem RV_fr {h h' : vm_H} {S : Nat → Prop} (k : RV h) (F : fr h h' S) (n : ∀ q, S q → q < 1099511627776) : RV h' :=
  ⟨wv_cg k.1 (F.2 _ (fun z => by have := n _ z; omega)), wv_cg k.2.1 (F.2 _ (fun z => by have := n _ z; omega)), wv_cg k.2.2 (F.2 _ (fun z => by have := n _ z; omega))⟩
/-- what roots need besides -/
def CV (h : vm_H) (a : Nat) (g : Nat → Int32) : Prop := CU h a g ∧ RV h ∧ iw h 12 (a + 27) ∧ wv h 12 (a + 26) 12 rE9
def JV (a q : Nat) : Prop := JW a q ∨ q = a + 27
theorem CV_of {h h' : vm_H} {a : Nat} {g : Nat → Int32} {S : Nat → Prop} (k : CV h a g) (k' : CU h' a g) (F : fr h h' S) (n : ∀ q, S q → q < 1099511627776 ∧ q ≠ a + 26) (w : S (a + 27) → iw h' 12 (a + 27)) : CV h' a g := by
  refine ⟨k', RV_fr k.2.1 F (fun q z => (n q z).1), ?_, wv_cg k.2.2.2 (F.2 _ (fun z => (n _ z).2 rfl))⟩
  by_cases z : S (a + 27)
  · exact w z
  · exact iw_cg k.2.2.1 (F.2 _ z)
/-- the root, if there is one -/
def rtF (A : fq) : fq := fz ((A.val : Int) ^ rE9)
theorem rtF_v (A : fq) : (rtF A).val = A.val ^ rE9 % (cPm + 1) := by
  have h1 := fz_v ((A.val : Int) ^ rE9)
  rw [← Int.natCast_pow, ← Int.natCast_emod] at h1
  exact Int.ofNat.inj h1
theorem rtF_sq {A s : fq} (h : s * s = A) : rtF A * rtF A = A := by
  have := rt_sq (a := (A.val : Int)) rE_4 (s := s) (by rw [fz_val]; exact h)
  rw [fz_val] at this
  exact this
theorem rtF_pm (A : fq) : rtF A * rtF A = A ∨ rtF A * rtF A = -A := by
  have := rt_pm (a := (A.val : Int)) rE_4
  rw [fz_val] at this
  exact this
section
variable {l : Launch} {O : Nat → vm_Ob} {f9 : Value} {h : vm_H}
theorem cq_curve {a px c : Nat} {x : fq} {g : Nat → Int32} (k : CU h a g) (rv : RV h) (hx : wq h px x) (hc : iw h 12 c) (oc : okC a c) (op : a + 13 < px) (n1 : px ≠ a + 24 ∧ px ≠ a + 25) (n2 : c ≠ a + 24 ∧ c ≠ a + 25) (n3 : c ≠ px) : vm_Met (vm_env l O f9) mX14_curve 0 0 [.ref a, .ref px, .ref c] h (fun r h' => r = none ∧ CU h' a g ∧ wq h' c (cu x) ∧ fr h h' (fun q => JW a q ∨ q = c)) := by
  have ao := k.2.2.2
  have o24 : okC a (a + 24) := ⟨by omega, by omega⟩
  have o25 : okC a (a + 25) := ⟨by omega, by omega⟩
  have oc' := oc
  obtain ⟨o1, o2⟩ := oc'
  refine vm_met rfl (Nat.le_of_ble_eq_true rfl) ?_
  refine vm_go rfl bX14_curve_0 oX14_curve_0 ⟨_, _, k.1, rfl, ⟨_, _, k.1, rfl, ⟨_, k.1, 0, 0, _, cq_mul k hx hx (CU_w k (by decide) (by decide)) o25 (by omega) (by omega), Nat.zero_le _, Nat.zero_le _, ?_⟩⟩⟩
  rintro _ h2 ⟨rfl, k2, w2, F2⟩
  refine ⟨_, _, k2.1, rfl, ⟨0, 0, _, cq_sm (x := 3) k2 (CU_w k2 (by decide) (by decide)) o24 (by decide), Nat.zero_le _, Nat.zero_le _, ?_⟩⟩
  rintro _ h3 ⟨rfl, k3, w3, F3⟩
  have w2 := wq_cg w2 (F3.2 (a + 25) (by omega))
  refine ⟨_, _, k3.1, rfl, ⟨_, _, k3.1, rfl, ⟨_, _, k3.1, rfl, ⟨_, _, k3.1, rfl, ⟨0, 0, _, cq_sub k3 w2 w3 (wv_iw w2) o25, Nat.zero_le _, Nat.zero_le _, ?_⟩⟩⟩⟩⟩
  rintro _ h4 ⟨rfl, k4, w4, F4⟩
  have F4o := F4
  have F4 : fr h h4 (fun q => JW a q) := fr_trans (fr_mono F2 (fun q z => by unfold JW; omega)) (fr_trans (fr_mono F3 (fun q z => by unfold JW; omega)) (fr_mono F4 (fun q z => by unfold JW; omega)))
  have hx4 : wq h4 px x := wq_cg hx ((F4o.2 px (by omega)).trans ((F3.2 px (by omega)).trans (F2.2 px (by omega))))
  have hc4 : iw h4 12 c := by
    by_cases e : c = a + 23
    · rw [e]; exact CU_w k4 (by decide) (by decide)
    · exact iw_cg hc (F4.2 c (fun z => by unfold JW at z; omega))
  refine ⟨_, _, k4.1, rfl, ⟨_, _, k4.1, rfl, ⟨_, k4.1, 0, 0, _, cq_mul k4 w4 hx4 hc4 oc (by omega) (by omega), Nat.zero_le _, Nat.zero_le _, ?_⟩⟩⟩
  rintro _ h5 ⟨rfl, k5, w5, F5⟩
  have F5 : fr h h5 (fun q => JW a q ∨ q = c) := fr_trans (fr_mono F4 (fun q z => Or.inl z)) (fr_mono F5 (fun q z => by unfold JW; omega))
  have rv5 := RV_fr rv F5 (fun q z => by unfold JW at z; omega)
  have wB : wq h5 1099511627777 (fz (cB : Int)) := by
    unfold wq
    rw [cB_v]; exact rv5.1
  refine ⟨_, _, k5.1, rfl, ⟨_, rfl, ⟨0, 0, _, cq_add k5 w5 wB (wv_iw w5) oc, Nat.zero_le _, Nat.zero_le _, ?_⟩⟩⟩
  rintro _ h6 ⟨rfl, k6, w6, F6⟩
  refine ⟨rfl, k6, ?_, fr_trans F5 (fr_mono F6 (fun q z => Or.inr z))⟩
  have : cu x = (x * x - fz ((3 : Nat) : Int)) * x + fz (cB : Int) := by
    unfold cu
    rw [fz_3]
    grind
  rw [this]
  exact w6
end
