/-! Modulus.invert from its beginning; enterWide -/
section
variable {l : Launch} {O : Nat → vm_Ob} {f9 : Value}
theorem v_inv {h : vm_H} {A : Nat → Nat} {ci L N ni ri a c : Nat} {X : Int} (hP : MP A ci L N ni ri) (hM : MD h A ci L N ni) (ha : mv h L N a X) (hc : la h L c) (oc : okc A c) (ocs : ∀ i, i < 16 → c ≠ A (8 + i)) :
    vm_Met (vm_env l O f9) mX6_invert 0 0 [.ref (A 0), .ref a, .ref c] h (fun r h' => ∃ Y : Int, r = some (.int (if Nat.gcd (mt N L X) N = 1 then 1 else 0)) ∧ mv h' L N c Y ∧ (Nat.gcd (mt N L X) N = 1 → X * Y % N = 1) ∧ MD h' A ci L N ni ∧ fr h h' (rS A ci c)) := by
  have hci2 := MP_ci hP
  have hif : (if ci = 600 then 500 else ci) = ci := by rcases hci2 with rfl | rfl <;> rfl
  have hodd := MP_odd hP
  obtain ⟨p1, p2, p3⟩ := MP_N hP
  have hP' := hP
  obtain ⟨hci, L1, L74, N1, N2, hni, hri, _, ho⟩ := hP'
  have hal := mt_lt (L := L) (X := X) p1
  obtain ⟨ka, hka⟩ := mt_e L X p1
  unfold mv at ha
  generalize mt N L X = al at *
  have sne : ∀ i j, i < 24 → j < 24 → i ≠ j → A i ≠ A j := fun i j hi hj hn => MP_6 hP hi hj hn
  have hM' := hM
  obtain ⟨⟨fs, m0, f0, f1, f2, f3, f4, f5, f6, f7, f8⟩, _, _, _, _, _, m7, m8, _⟩ := hM'
  refine vm_met rfl (Nat.le_of_ble_eq_true rfl) ?_
  refine vm_go rfl (bX6_invert_0 ci) (oX6_invert_0 hci2) ⟨fs, _, m0, f7, ⟨_, _, _, _, m7, by decide, rfl, 0, rfl, by decide, sp_rf (by decide), ⟨fs, _, m0, f7, ⟨_, _, _, _, m7, by decide, rfl, 1, rfl, by decide, sp_rf (by decide), ⟨fs, _, m0, f7, ⟨_, _, _, _, m7, by decide, rfl, 2, rfl, by decide, sp_rf (by decide), ⟨fs, _, m0, f7, ⟨_, _, _, _, m7, by decide, rfl, 3, rfl, by decide, sp_rf (by decide), ⟨fs, by rw [hif]; exact m0, 0, 0, _, m_copy hP hM ha (m8 0 (by decide)) (okc_sp hP (by decide)), Nat.le_refl _, Nat.le_refl _, ?_⟩⟩⟩⟩⟩⟩⟩⟩⟩
  rintro r h1 ⟨rfl, w1, M1, F1⟩
  have M1' := M1
  obtain ⟨⟨fs1, m01, _, f11, _⟩, n11, _, _, _, _, _, m81, _⟩ := M1'
  refine ⟨fs1, _, m01, f11, ⟨fs1, by rw [hif]; exact m01, 0, 0, _, m_copy hP M1 n11 (m81 1 (by decide)) (okc_sp hP (by decide)), Nat.le_refl _, Nat.le_refl _, ?_⟩⟩
  rintro r h2 ⟨rfl, w2, M2, F2⟩
  have M2' := M2
  obtain ⟨⟨fs2, m02, _, _, _, f32, _⟩, _, _, n32, _, _, _, m82, _⟩ := M2'
  refine ⟨fs2, _, m02, f32, ⟨fs2, by rw [hif]; exact m02, 0, 0, _, m_copy hP M2 n32 (m82 2 (by decide)) (okc_sp hP (by decide)), Nat.le_refl _, Nat.le_refl _, ?_⟩⟩
  rintro r h3 ⟨rfl, w3, M3, F3⟩
  have m83 := M3.2.2.2.2.2.2.2.1
  refine ⟨0, 0, _, m_fil hP M3 (m83 3 (by decide)) (okc_sp hP (by decide)), Nat.le_refl _, Nat.le_refl _, ?_⟩
  rintro r h4 ⟨rfl, w4, M4, F4⟩
  have I0 : IV h A ci L N ni c al (Nat.gcd al N) 0 al N (268435456 ^ L * 268435456 ^ L % N) 0 h4 := by
    refine ⟨Nat.zero_le _, M4, ?_, ?_, ?_, w4, by omega, Nat.le_refl _, Nat.mod_lt _ p1, p1, hodd, rfl, ?_, ⟨-(268435456 ^ L * 268435456 ^ L), by grind⟩, ?_⟩
    · exact fr_nv F4 (fr_nv F3 (fr_nv F2 w1 (sne 8 9 (by decide) (by decide) (by decide))) (sne 8 10 (by decide) (by decide) (by decide))) (sne 8 11 (by decide) (by decide) (by decide))
    · exact fr_nv F4 (fr_nv F3 w2 (sne 9 10 (by decide) (by decide) (by decide))) (sne 9 11 (by decide) (by decide) (by decide))
    · exact fr_nv F4 w3 (sne 10 11 (by decide) (by decide) (by decide))
    · obtain ⟨k3, hk3⟩ := nmod_e (268435456 ^ L * 268435456 ^ L) N
      refine ⟨k3 * al, ?_⟩
      rw [hk3, Int.natCast_mul, Int.natCast_pow, show ((268435456 : Nat) : Int) = 268435456 from rfl]
      generalize (268435456 : Int) ^ L = R
      grind
    · refine fr_trans (fr_trans (fr_trans (fr_mono F1 ?_) (fr_mono F2 ?_)) (fr_mono F3 ?_)) (fr_mono F4 ?_)
      · exact fun q hq => Or.inr (Or.inr ⟨0, by decide, hq⟩)
      · exact fun q hq => Or.inr (Or.inr ⟨1, by decide, hq⟩)
      · exact fun q hq => Or.inr (Or.inr ⟨2, by decide, hq⟩)
      · exact fun q hq => Or.inr (Or.inr ⟨3, by decide, hq⟩)
  exact inv_loop hP oc ocs hal hka 0 0 al N _ 0 h4 (Nat.zero_le _) (by rw [Nat.pow_zero, Nat.mul_one]; exact Nat.le_refl _) I0 (fr_la F4 (fr_la F3 (fr_la F2 (fr_la F1 hc (ocs 0 (by decide))) (ocs 1 (by decide))) (ocs 2 (by decide))) (ocs 3 (by decide)))
end
