/-! new Hash, new SpentDisk, new Key -/
section
variable {l : Launch} {O : Nat → vm_Ob} {f9 : Value}
theorem v_hash {h : vm_H} {H : Nat} (hH : h.2 H = .inr (4, vm_df 4)) (hH1 : H < h.1) (hh : h.1 + 10 < 1099511627776) : vm_Met (vm_env l O f9) mX4_init 5 288 [.ref H] h (fun r h' => r = none ∧ h'.1 = h.1 + 5 ∧ HA h' H (fun i => h.1 + i) ∧ ∀ q, q ≠ H → q < h.1 ∨ h.1 + 5 ≤ q → h'.2 q = h.2 q) := by
  refine vm_met rfl (Nat.le_of_ble_eq_true rfl) ?_
  refine vm_go rfl bX4_init_0 oX4_init_0 ?_
  refine np_I (idx := 0) (N := 8) rfl (by decide) (by decide) (by decide) (by omega) hH hH1 (show 0 < 5 by decide) ?_
  rintro h1 ⟨c1, m1, a1, u1⟩
  refine np_I (idx := 0) (N := 64) rfl (by decide) (by decide) (by decide) (by omega) m1 (by omega) (show 1 < 5 by decide) ?_
  rintro h2 ⟨c2, m2, a2, u2⟩
  refine np_L (idx := 0) (N := 8) rfl (by decide) (by decide) (by decide) (by omega) m2 (by omega) (show 2 < 5 by decide) ?_
  rintro h3 ⟨c3, m3, a3, u3⟩
  refine np_L (idx := 0) (N := 80) rfl (by decide) (by decide) (by decide) (by omega) m3 (by omega) (show 3 < 5 by decide) ?_
  rintro h4 ⟨c4, m4, a4, u4⟩
  refine np_B (idx := 0) (N := 128) rfl (by decide) (by decide) (by decide) (by omega) m4 (by omega) (show 4 < 5 by decide) ?_
  rintro h5 ⟨c5, m5, a5, u5⟩
  have m5 : h5.2 H = .inr (4, [.ref h.1, .ref h1.1, .ref h2.1, .ref h3.1, .ref h4.1]) := m5
  have e1 : h1.1 = h.1 + 1 := by omega
  have e2 : h2.1 = h.1 + 2 := by omega
  have e3 : h3.1 = h.1 + 3 := by omega
  have e4 : h4.1 = h.1 + 4 := by omega
  rw [e1, e2, e3, e4] at m5
  refine ⟨rfl, by omega, ⟨m5, ⟨fun _ => 0, ?_⟩, ⟨fun _ => 0, ?_⟩, ⟨fun _ => 0, ?_⟩, ⟨fun _ => 0, ?_⟩, ⟨fun _ => 0, fun _ => 0, ?_, fun j hj => ⟨rfl, show 0 < 256 by decide⟩⟩, fun i hi => by show h.1 + i < _; omega⟩, fun q hq hq2 => ?_⟩
  · show h5.2 h.1 = _
    rw [u5 _ (by omega) (by omega), u4 _ (by omega) (by omega), u3 _ (by omega) (by omega), u2 _ (by omega) (by omega), a1]
  · show h5.2 (h.1 + 1) = _
    rw [← e1, u5 _ (by omega) (by omega), u4 _ (by omega) (by omega), u3 _ (by omega) (by omega), a2]
  · show h5.2 (h.1 + 2) = _
    rw [← e2, u5 _ (by omega) (by omega), u4 _ (by omega) (by omega), a3]
  · show h5.2 (h.1 + 3) = _
    rw [← e3, u5 _ (by omega) (by omega), a4]
  · show h5.2 (h.1 + 4) = _
    rw [← e4, a5]
  · rw [u5 _ hq (by omega), u4 _ hq (by omega), u3 _ hq (by omega), u2 _ hq (by omega), u1 _ hq (by omega)]
theorem v_disk {h : vm_H} {K : Nat} (hK : h.2 K = .inr (10, vm_df 10)) (hK1 : K < h.1) (hh : h.1 + 10 < 1099511627776) : vm_Met (vm_env l O f9) mX10_init 1 4096 [.ref K] h (fun r h' => r = none ∧ h'.1 = h.1 + 1 ∧ dsk h' K h.1 (fun _ => 0) 0 (iZ (-1)) (nI 0) ∧ ∀ q, q ≠ K → q ≠ h.1 → h'.2 q = h.2 q) := by
  have hKo : K < 1099511627776 := by omega
  refine vm_met rfl (Nat.le_of_ble_eq_true rfl) ?_
  refine vm_go rfl bX10_init_0 oX10_init_0 ?_
  have e40 : (4096 : Int32) = Int32.ofNat 4096 := by decide
  refine np_B (idx := 0) (N := 4096) e40 (by decide) (by decide) (by decide) (by omega) hK hK1 (show 0 < 4 by decide) ?_
  rintro h1 ⟨c1, m1, a1, u1⟩
  refine np_p (idx := 0) (w := .int 0) (k := 1) (tc := 2) m1 hKo (show 1 < 4 by decide) (Or.inl rfl) ?_
  intro h2 c2 m2 u2
  refine np_p (idx := 0) (w := .int (-1)) (k := 2) (tc := 0) m2 hKo (show 2 < 4 by decide) trivial ?_
  intro h3 c3 m3 u3
  refine np_p (idx := 0) (w := .int 0) (k := 3) (tc := 0) m3 hKo (show 3 < 4 by decide) trivial ?_
  intro h4 c4 m4 u4
  refine ⟨rfl, by omega, ⟨m4, ⟨fun _ => 0, ?_, fun j hj => ⟨rfl, show 0 < 256 by decide⟩⟩, hKo, by omega⟩, fun q hq hq2 => ?_⟩
  · rw [u4 _ (by omega), u3 _ (by omega), u2 _ (by omega), a1]
  · rw [u4 _ hq, u3 _ hq, u2 _ hq, u1 _ hq hq2]
/-- a Key: type, size, salt, shown, secret, id, modulus -/
theorem v_key {h : vm_H} {K ty sz sa sh se mo : Nat} (hK : h.2 K = .inr (5, vm_df 5)) (hK1 : K < h.1) (hh : h.1 + 10 < 1099511627776) (hty : ty = 1 ∨ ty = 2) : vm_Met (vm_env l O f9) mX5_init 1 32 [.ref K, .int (nI ty), .int (nI sz), .int (nI sa), .ref sh, .ref se, .ref mo] h (fun r h' => r = none ∧ h'.1 = h.1 + 1 ∧ h'.2 K = .inr (5, [.int (nI ty), .int (nI sz), .int (nI (if ty = 1 then 49 else sz)), .int (nI sa), .ref sh, .ref se, .ref h.1, .ref mo, .int 1]) ∧ bv h' 32 h.1 (fun _ => 0) ∧ ∀ q, q ≠ K → q ≠ h.1 → h'.2 q = h.2 q) := by
  have hKo : K < 1099511627776 := by omega
  refine vm_met rfl (Nat.le_of_ble_eq_true rfl) ?_
  refine vm_go rfl bX5_init_0 oX5_init_0 ?_
  refine np_B (idx := 0) (N := 32) rfl (by decide) (by decide) (by decide) (by omega) hK hK1 (show 6 < 9 by decide) ?_
  rintro h1 ⟨c1, m1, a1, u1⟩
  refine np_p (idx := 0) (w := .int 1) (k := 8) (tc := 2) m1 hKo (show 8 < 9 by decide) (Or.inr rfl) ?_
  intro h2 c2 m2 u2
  refine np_p (idx := 0) (w := .int (nI ty)) (k := 0) (tc := 0) m2 hKo (show 0 < 9 by decide) trivial ?_
  intro h3 c3 m3 u3
  refine np_p (idx := 0) (w := .int (nI sz)) (k := 1) (tc := 0) m3 hKo (show 1 < 9 by decide) trivial ?_
  intro h4 c4 m4 u4
  have m4 : h4.2 K = .inr (5, [.int (nI ty), .int (nI sz), .int 0, .int 0, .null, .null, .ref h.1, .null, .int 1]) := m4
  have h39 : ∀ w : Nat, w = (if ty = 1 then 49 else sz) → vm_T (vm_env l O f9) mX5_init 0 0 39 [(0, .ref K), (1, .int (nI ty)), (2, .int (nI sz)), (3, .int (nI sa)), (4, .ref sh), (5, .ref se), (6, .ref mo)] [.int (nI w), .ref K] h4 (fun r h' => r = none ∧ h'.1 = h.1 + 1 ∧ h'.2 K = .inr (5, [.int (nI ty), .int (nI sz), .int (nI (if ty = 1 then 49 else sz)), .int (nI sa), .ref sh, .ref se, .ref h.1, .ref mo, .int 1]) ∧ bv h' 32 h.1 (fun _ => 0) ∧ ∀ q, q ≠ K → q ≠ h.1 → h'.2 q = h.2 q) := by
    intro w hw
    refine vm_go rfl bX5_init_39 oX5_init_39 ?_
    refine np_p (idx := 0) (w := .int (nI w)) (k := 2) (tc := 0) m4 hKo (show 2 < 9 by decide) trivial ?_
    intro h5 c5 m5 u5
    refine np_p (idx := 0) (w := .int (nI sa)) (k := 3) (tc := 0) m5 hKo (show 3 < 9 by decide) trivial ?_
    intro h6 c6 m6 u6
    refine np_p (idx := 0) (w := .ref sh) (k := 4) (tc := 4) m6 hKo (show 4 < 9 by decide) trivial ?_
    intro h7 c7 m7 u7
    refine np_p (idx := 0) (w := .ref se) (k := 5) (tc := 4) m7 hKo (show 5 < 9 by decide) trivial ?_
    intro h8 c8 m8 u8
    refine np_p (idx := 0) (w := .ref mo) (k := 7) (tc := 4) m8 hKo (show 7 < 9 by decide) trivial ?_
    intro h9 c9 m9 u9
    refine ⟨rfl, by omega, ?_, ⟨fun _ => 0, ?_, fun j hj => ⟨rfl, show 0 < 256 by decide⟩⟩, fun q hq hq2 => ?_⟩
    · rw [m9, ← hw]; rfl
    · rw [u9 _ (by omega), u8 _ (by omega), u7 _ (by omega), u6 _ (by omega), u5 _ (by omega), u4 _ (by omega), u3 _ (by omega), u2 _ (by omega), a1]
    · rw [u9 _ hq, u8 _ hq, u7 _ hq, u6 _ hq, u5 _ hq, u4 _ hq, u3 _ hq, u2 _ hq, u1 _ hq hq2]
  refine ⟨fun q => ?_, fun q => ?_⟩
  · have q : ¬ nI ty = nI 1 := q
    rw [nI_ij (by omega) (by decide)] at q
    exact vm_go rfl bX5_init_38 oX5_init_38 (h39 sz (by rw [if_neg q]))
  · have q : nI ty = nI 1 := q
    rw [nI_ij (by omega) (by decide)] at q
    exact h39 49 (by rw [if_pos q])
end
