/-! new Asking -/
section
variable {l : Launch} {O : Nat → vm_Ob} {f9 : Value}
theorem v_ask {h : vm_H} {Y K i0 i1 i2 n0 n1 n2 bs sz : Nat} {c0 c1 c2 : Nat → Nat} {t0 t3 : Value} {tl : List Value} (hc9 : Jvm.Cond.castable "[B" "java/lang/Cloneable" ∈ vm_wt) (hY : h.2 Y = .inr (0, vm_df 0)) (hY1 : Y < h.1) (hK : h.2 K = .inr (5, t0 :: .int (nI sz) :: .int (nI bs) :: t3 :: tl)) (hK1 : K < h.1) (b0 : bv h n0 i0 c0) (b1 : bv h n1 i1 c1) (b2 : bv h n2 i2 c2) (o0 : i0 < h.1) (o1 : i1 < h.1) (o2 : i2 < h.1) (l0 : 98 ≤ n0) (l1 : bs ≤ n1) (l2 : sz ≤ n2) (s0 : n0 < 65536) (s1 : n1 < 65536) (s2 : n2 < 65536) (hh : h.1 + 10 < 1099511627776) :
    vm_Met (vm_env l O f9) mX0_init 3 (98 + bs + sz) [.ref Y, .ref K, .ref i0, .ref i1, .ref i2] h (fun r h' => r = none ∧ h'.1 = h.1 + 3 ∧ h'.2 Y = .inr (0, [.ref K, .ref h.1, .ref (h.1 + 1), .ref (h.1 + 2), .int 1]) ∧ bv h' 98 h.1 c0 ∧ bv h' bs (h.1 + 1) c1 ∧ bv h' sz (h.1 + 2) c2 ∧ ∀ q, q ≠ Y → q < h.1 ∨ h.1 + 3 ≤ q → h'.2 q = h.2 q) := by
  have hYo : Y < 1099511627776 := by omega
  have hYK : Y ≠ K := fun z => by rw [z, hK] at hY; cases hY
  have bb : ∀ {h h' : vm_H} {n a : Nat} {c : Nat → Nat}, bv h n a c → h'.2 a = h.2 a → bv h' n a c := fun ⟨f, e, v⟩ z => ⟨f, z.trans e, v⟩
  have n0Y : i0 ≠ Y := fun z => by obtain ⟨f, e, _⟩ := b0; rw [z, hY] at e; cases e
  have n1Y : i1 ≠ Y := fun z => by obtain ⟨f, e, _⟩ := b1; rw [z, hY] at e; cases e
  have n2Y : i2 ≠ Y := fun z => by obtain ⟨f, e, _⟩ := b2; rw [z, hY] at e; cases e
  refine vm_met rfl (Nat.le_of_ble_eq_true rfl) ?_
  refine vm_go rfl bX0_init_0 oX0_init_0 ?_
  refine np_p (idx := 0) (w := .int 1) (k := 4) (tc := 2) hY hYo (show 4 < 5 by decide) (Or.inr rfl) ?_
  intro h1 a1 m1 u1
  refine np_p (idx := 0) (w := .ref K) (k := 0) (tc := 4) m1 hYo (show 0 < 5 by decide) trivial ?_
  intro h2 a2 m2 u2
  have e2 : h2.1 = h.1 := by omega
  have b02 := bb b0 ((u2 _ n0Y).trans (u1 _ n0Y))
  refine ⟨1, 98, _, s_copyOf hc9 b02 (by omega) (by omega) l0 s0 (by omega), by decide, by omega, ?_⟩
  rintro _ h3 ⟨rfl, a3, d3, u3⟩
  rw [e2] at a3 d3 u3
  rw [e2]
  refine np_p (idx := 0) (w := .ref h.1) (k := 1) (tc := 4) ((u3 _ (by omega)).trans m2) hYo (show 1 < 5 by decide) trivial ?_
  intro h4 a4 m4 u4
  have e4 : h4.1 = h.1 + 1 := by omega
  have K4 : h4.2 K = _ := (u4 _ (Ne.symm hYK)).trans ((u3 _ (by omega)).trans ((u2 _ (Ne.symm hYK)).trans ((u1 _ (Ne.symm hYK)).trans hK)))
  have b14 := bb b1 ((u4 _ n1Y).trans ((u3 _ (by omega)).trans ((u2 _ n1Y).trans (u1 _ n1Y))))
  refine ⟨_, _, K4, rfl, ⟨1, bs, _, s_copyOf hc9 b14 (by omega) (by omega) l1 s1 (by omega), by decide, by omega, ?_⟩⟩
  rintro _ h5 ⟨rfl, a5, d5, u5⟩
  rw [e4] at a5 d5 u5
  rw [e4]
  refine np_p (idx := 0) (w := .ref (h.1 + 1)) (k := 2) (tc := 4) ((u5 _ (by omega)).trans m4) hYo (show 2 < 5 by decide) trivial ?_
  intro h6 a6 m6 u6
  have e6 : h6.1 = h.1 + 2 := by omega
  have K6 := (u6 _ (Ne.symm hYK)).trans ((u5 _ (by omega)).trans K4)
  have b26 := bb b2 ((u6 _ n2Y).trans ((u5 _ (by omega)).trans ((u4 _ n2Y).trans ((u3 _ (by omega)).trans ((u2 _ n2Y).trans (u1 _ n2Y))))))
  refine ⟨_, _, K6, rfl, ⟨1, sz, _, s_copyOf hc9 b26 (by omega) (by omega) l2 s2 (by omega), by decide, by omega, ?_⟩⟩
  rintro _ h7 ⟨rfl, a7, d7, u7⟩
  rw [e6] at a7 d7 u7
  rw [e6]
  refine np_p (idx := 0) (w := .ref (h.1 + 2)) (k := 3) (tc := 4) ((u7 _ (by omega)).trans m6) hYo (show 3 < 5 by decide) trivial ?_
  intro h8 a8 m8 u8
  refine ⟨rfl, by omega, m8, bb d3 ?_, bb d5 ?_, bb d7 (u8 _ (by omega)), fun q hq hq2 => ?_⟩
  · rw [u8 _ (by omega), u7 _ (by omega), u6 _ (by omega), u5 _ (by omega), u4 _ (by omega)]
  · rw [u8 _ (by omega), u7 _ (by omega), u6 _ (by omega)]
  · rw [u8 _ hq, u7 _ (by omega), u6 _ hq, u5 _ (by omega), u4 _ hq, u3 _ (by omega), u2 _ hq, u1 _ hq]
end
