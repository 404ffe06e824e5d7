/-! Strings; Curve.digit, Curve.hex -/
/-- a String of n characters c -/
def str (h : vm_H) (s n : Nat) (c : Nat → Nat) : Prop := ∃ v : Nat, h.2 s = .inr (500, [.ref v, .int 0]) ∧ bv h n v c
section
variable {l : Launch} {O : Nat → vm_Ob} {f9 : Value}
theorem s_coder {h : vm_H} {s v : Nat} (hs : h.2 s = .inr (500, [.ref v, .int 0])) : vm_Met (vm_env l O f9) mJ0_coder_7d493 0 0 [.ref s] h (fun r h' => r = some (.int 0) ∧ h' = h) := by
  refine vm_met (by decide +kernel) (Nat.le_of_ble_eq_true rfl) ?_
  refine vm_go rfl bJ0_coder_7d493_0 oJ0_coder_7d493_0 ⟨_, rfl, ⟨fun q => absurd q (by decide), fun _ => ⟨_, _, hs, rfl, ?_⟩⟩⟩
  exact vm_go rfl bJ0_coder_7d493_14 oJ0_coder_7d493_14 ⟨rfl, rfl, rfl⟩
theorem s_latin {h : vm_H} {s v : Nat} (hs : h.2 s = .inr (500, [.ref v, .int 0])) : vm_Met (vm_env l O f9) mJ0_isLatin1_aae02 0 0 [.ref s] h (fun r h' => r = some (.int 1) ∧ h' = h) := by
  refine vm_met (by decide +kernel) (Nat.le_of_ble_eq_true rfl) ?_
  refine vm_go rfl bJ0_isLatin1_aae02_0 oJ0_isLatin1_aae02_0 ⟨_, rfl, ⟨fun q => absurd q (by decide), fun _ => ⟨_, _, hs, rfl, ⟨fun q => absurd rfl q, fun _ => ?_⟩⟩⟩⟩
  exact vm_go rfl bJ0_isLatin1_aae02_18 oJ0_isLatin1_aae02_18 ⟨rfl, rfl, rfl⟩
theorem s_len {h : vm_H} {s n : Nat} {c : Nat → Nat} (hs : str h s n c) (hn : n < 65536) : vm_Met (vm_env l O f9) mJ0_length_8abf5 0 0 [.ref s] h (fun r h' => r = some (.int (nI n)) ∧ h' = h) := by
  obtain ⟨v, hs, f, hf, hf2⟩ := hs
  refine vm_met (by decide +kernel) (Nat.le_of_ble_eq_true rfl) ?_
  refine vm_go rfl bJ0_length_8abf5_0 oJ0_length_8abf5_0 ⟨_, _, hs, rfl, ⟨_, _, hf, by decide, ⟨_, hs, 0, 0, _, s_coder hs, Nat.zero_le _, Nat.zero_le _, ?_⟩⟩⟩
  rintro _ h1 ⟨rfl, rfl⟩
  refine ⟨?_, rfl⟩
  show some (Value.int (nI n >>> ((0 : Int32) &&& 31))) = some (.int (nI n))
  have : ∀ x : Int32, x >>> ((0 : Int32) &&& 31) = x := by
    intro x
    have e : (0 : Int32) &&& 31 = 0 := by decide
    rw [e]
    exact Int32.shiftRight_zero
  rw [this]
theorem s_chk {h : vm_H} {i n : Nat} {w : Value} (hw : w.category = 1) (hi : i < n) (hn : n < 65536) : vm_Met (vm_env l O f9) mJ3_checkIndex_8e157 0 0 [.int (nI i), .int (nI n), w] h (fun r h' => r = some (.int (nI i)) ∧ h' = h) := by
  refine vm_metF (by decide +kernel) ?_ ?_
  · show 1 + (1 + (w.category + 0)) ≤ 3
    omega
  refine vm_go rfl bJ3_checkIndex_8e157_0 oJ3_checkIndex_8e157_0 ⟨fun q => absurd q (nI_pos (by omega)), fun _ => ⟨fun _ => ?_, fun q => absurd (nI_lt hi (by omega)) q⟩⟩
  exact vm_go rfl bJ3_checkIndex_8e157_16 oJ3_checkIndex_8e157_16 ⟨rfl, rfl⟩
theorem s_chk0 {h : vm_H} {i n : Nat} (h9 : f9.category = 1) (hi : i < n) (hn : n < 65536) : vm_Met (vm_env l O f9) mJ0_checkIndex_df160 0 0 [.int (nI i), .int (nI n)] h (fun r h' => r = none ∧ h' = h) := by
  refine vm_met (by decide +kernel) (Nat.le_of_ble_eq_true rfl) ?_
  refine vm_go rfl bJ0_checkIndex_df160_0 oJ0_checkIndex_df160_0 ⟨_, rfl, ⟨0, 0, _, s_chk h9 hi hn, Nat.zero_le _, Nat.zero_le _, ?_⟩⟩
  rintro _ h1 ⟨rfl, rfl⟩
  exact ⟨rfl, rfl⟩
theorem s_char1 {h : vm_H} {v i n : Nat} {c : Nat → Nat} (h9 : f9.category = 1) (hv : bv h n v c) (hi : i < n) (hn : n < 65536) : vm_Met (vm_env l O f9) mJ1_charAt_3b067 0 0 [.ref v, .int (nI i)] h (fun r h' => r = some (.int (nI (c i))) ∧ h' = h) := by
  obtain ⟨f, hf, hf2⟩ := hv
  refine vm_metF (by decide +kernel) (Nat.le_of_ble_eq_true rfl) ?_
  refine vm_go rfl bJ1_charAt_3b067_0 oJ1_charAt_3b067_0 ⟨_, _, hf, by decide, ⟨0, 0, _, s_chk0 h9 hi hn, Nat.zero_le _, Nat.zero_le _, ?_⟩⟩
  rintro _ h1 ⟨rfl, rfl⟩
  refine ⟨n, f, hf, i, rfl, hi, fun _ => ?_⟩
  have h2 := hf2 i hi
  have e : ∀ c, c < 256 → ((sb c &&& 255).toUInt32 % 65536).toInt32 = nI c ∧ narrow .char (.int ((sb c &&& 255).toUInt32 % 65536).toInt32) = .int ((sb c &&& 255).toUInt32 % 65536).toInt32 := by decide +kernel
  rw [h2.1]
  refine ⟨(e _ h2.2).2, ?_, rfl⟩
  rw [(e _ h2.2).1]
theorem s_char {h : vm_H} {s i n : Nat} {c : Nat → Nat} (h9 : f9.category = 1) (hs : str h s n c) (hi : i < n) (hn : n < 65536) : vm_Met (vm_env l O f9) mJ0_charAt_5068e 0 0 [.ref s, .int (nI i)] h (fun r h' => r = some (.int (nI (c i))) ∧ h' = h) := by
  obtain ⟨v, hs, hv⟩ := hs
  refine vm_met (by decide +kernel) (Nat.le_of_ble_eq_true rfl) ?_
  refine vm_go rfl bJ0_charAt_5068e_0 oJ0_charAt_5068e_0 ⟨_, hs, 0, 0, _, s_latin hs, Nat.zero_le _, Nat.zero_le _, ?_⟩
  rintro _ h1 ⟨rfl, rfl⟩
  refine ⟨fun q => absurd q (by decide), fun _ => ⟨_, _, hs, rfl, ⟨0, 0, _, s_char1 h9 hv hi hn, Nat.zero_le _, Nat.zero_le _, ?_⟩⟩⟩
  rintro _ h1 ⟨rfl, rfl⟩
  obtain ⟨f, hf, hf2⟩ := hv
  have h2 := hf2 i hi
  have e : ∀ c, c < 256 → narrow .char (.int (nI c)) = .int (nI c) := by decide +kernel
  exact ⟨e _ h2.2, rfl, rfl⟩
/-- a digit of 16 -/
def hx (c : Nat) : Nat := if c ≤ 57 then c - 48 else c - 87
theorem s_digit {h : vm_H} {c : Nat} (h1 : 48 ≤ c) (h2 : c ≤ 57 ∨ 97 ≤ c) (h3 : c ≤ 102) : vm_Met (vm_env l O f9) mX2_digit 0 0 [.int (nI c)] h (fun r h' => r = some (.int (nI (hx c))) ∧ h' = h) := by
  refine vm_met rfl (Nat.le_of_ble_eq_true rfl) ?_
  refine vm_go rfl bX2_digit_0 oX2_digit_0 ⟨fun q => ?_, fun q => ?_⟩
  · have q : nI 57 < nI c := q
    rw [nI_ltI (by omega) (by omega)] at q
    refine vm_go rfl bX2_digit_13 oX2_digit_13 (vm_go rfl bX2_digit_20 oX2_digit_20 ⟨?_, rfl⟩)
    show some (Value.int (nI c - nI 97 + nI 10)) = _
    rw [nI_sub (by omega), nI_add]
    unfold hx
    rw [if_neg (by omega), show c - 97 + 10 = c - 87 by omega]
  · have q : ¬ nI 57 < nI c := q
    rw [nI_ltI (by omega) (by omega)] at q
    refine vm_go rfl bX2_digit_20 oX2_digit_20 ⟨?_, rfl⟩
    show some (Value.int (nI c - nI 48)) = _
    rw [nI_sub (by omega)]
    unfold hx
    rw [if_pos (by omega)]
/-- the bytes of a row of digits of 16 -/
def hxb (c : Nat → Nat) (j : Nat) : Nat := 16 * hx (c (2 * j)) + hx (c (2 * j + 1))
theorem hx_lt {c : Nat} (h1 : 48 ≤ c) (h2 : c ≤ 57 ∨ 97 ≤ c) (h3 : c ≤ 102) : hx c < 16 := by
  unfold hx
  split <;> omega
theorem s_hex {h : vm_H} {s n : Nat} {c : Nat → Nat} (h9 : f9.category = 1) (hs : str h s (2 * n) c) (hso : 1099511627776 ≤ s) (hn : n < 1000) (hc : ∀ j, j < 2 * n → 48 ≤ c j ∧ (c j ≤ 57 ∨ 97 ≤ c j) ∧ c j ≤ 102) (hh : h.1 + 1 < 1099511627776) (hvo : ∀ v : Nat, h.2 s = .inr (500, [.ref v, .int 0]) → 1099511627776 ≤ v) :
    vm_Met (vm_env l O f9) mX2_hex 1 n [.ref s] h (fun r h' => r = some (.ref h.1) ∧ h'.1 = h.1 + 1 ∧ bv h' n h.1 (hxb c) ∧ ∀ q, q ≠ h.1 → h'.2 q = h.2 q) := by
  refine vm_met rfl (Nat.le_of_ble_eq_true rfl) ?_
  refine vm_go rfl bX2_hex_0 oX2_hex_0 ?_
  obtain ⟨v, hs1, f, hf, hf2⟩ := hs
  have hs : str h s (2 * n) c := ⟨v, hs1, f, hf, hf2⟩
  have hvo9 : 1099511627776 ≤ v := hvo v hs1
  clear hvo
  refine ⟨_, hs1, 0, 0, _, s_len hs (by omega), Nat.zero_le _, Nat.zero_le _, ?_⟩
  rintro _ h1 ⟨rfl, rfl⟩
  have e2 : nI (2 * n) / 2 = nI n := by
    rw [show nI (2 * n) / 2 = nI (2 * n / 2) from nI_div (by omega) (by decide)]
    congr 1; omega
  refine ⟨by decide, n, e2, by omega, by decide, Nat.le_refl _, hh, ?_⟩
  have str' : ∀ F : Nat → Int32, str (vm_up (vm_nw h1 (.inl (.byte, n, .inl (fun _ => 0)))) h1.1 (.inl (.byte, n, .inl F))) s (2 * n) c := by
    intro F
    refine ⟨v, ?_, f, ?_, hf2⟩
    · rw [vm_upn (by omega), nw_n (by omega)]; exact hs1
    · rw [vm_upn (by omega), nw_n (by omega)]; exact hf
  have e0 : vm_nw h1 (.inl (.byte, n, .inl (fun _ => 0))) = vm_up (vm_nw h1 (.inl (.byte, n, .inl (fun _ => 0)))) h1.1 (.inl (.byte, n, .inl (cutf (fun j => sb (hxb c j)) (fun _ => 0) 0))) := by
    rw [vm_ups]
    rw [nw_e]
    congr 4
  refine vm_Th (lv' := [(0, .ref s), (1, .ref h1.1), (2, .int (nI 0))]) (h' := vm_up (vm_nw h1 (.inl (.byte, n, .inl (fun _ => 0)))) h1.1 (.inl (.byte, n, .inl (cutf (fun j => sb (hxb c j)) (fun _ => 0) 0)))) rfl e0.symm ?_
  refine vm_more (kc' := 0) (ks' := 0) ?_ (Nat.zero_le _) (Nat.zero_le _)
  refine vm_for n (fun i => [(0, .ref s), (1, .ref h1.1), (2, .int (nI i))]) (fun i => vm_up (vm_nw h1 (.inl (.byte, n, .inl (fun _ => 0)))) h1.1 (.inl (.byte, n, .inl (cutf (fun j => sb (hxb c j)) (fun _ => 0) i)))) 0 (Nat.zero_le _) ?_ ?_
  · refine vm_go rfl bX2_hex_11 oX2_hex_11 ⟨_, _, vm_upe, by decide, ⟨fun _ => ?_, fun q => absurd (nI_le (Nat.le_refl _) (by omega)) q⟩⟩
    refine vm_go rfl bX2_hex_53 oX2_hex_53 ⟨rfl, rfl, ⟨_, vm_upe, fun j hj => ⟨cutf_lo hj, ?_⟩⟩, fun q hq => ?_⟩
    · have a := hc (2 * j) (by omega)
      have b := hc (2 * j + 1) (by omega)
      have a2 := hx_lt a.1 a.2.1 a.2.2
      have b2 := hx_lt b.1 b.2.1 b.2.2
      unfold hxb; omega
    · rw [vm_upn hq, nw_n hq]
  · intro i _ hi ih
    have a := hc (2 * i) (by omega)
    have b := hc (2 * i + 1) (by omega)
    have a2 := hx_lt a.1 a.2.1 a.2.2
    have b2 := hx_lt b.1 b.2.1 b.2.2
    have ei : (2 : Int32) * nI i = nI (2 * i) := nI_mul 2 i
    have ei1 : (2 : Int32) * nI i + 1 = nI (2 * i + 1) := by rw [ei]; exact nI_1 _
    refine vm_go rfl bX2_hex_11 oX2_hex_11 ⟨_, _, vm_upe, by decide, ⟨fun q => absurd q (nI_ge hi (by omega)), fun _ => ⟨_, (str' _).choose_spec.1, 0, 0, _, vm_metA (s_char (i := 2 * i) h9 (str' _) (by omega) (by omega)) (by show [_, Value.int (nI (2 * i))] = [_, Value.int ((2 : Int32) * nI i)]; rw [ei]), Nat.zero_le _, Nat.zero_le _, ?_⟩⟩⟩
    rintro _ h2 ⟨rfl, rfl⟩
    refine ⟨0, 0, _, s_digit a.1 a.2.1 a.2.2, Nat.zero_le _, Nat.zero_le _, ?_⟩
    rintro _ h2 ⟨rfl, rfl⟩
    refine ⟨_, (str' _).choose_spec.1, 0, 0, _, vm_metA (s_char (i := 2 * i + 1) h9 (str' _) (by omega) (by omega)) (by show [_, Value.int (nI (2 * i + 1))] = [_, Value.int ((2 : Int32) * nI i + 1)]; rw [ei1]), Nat.zero_le _, Nat.zero_le _, ?_⟩
    rintro _ h2 ⟨rfl, rfl⟩
    refine ⟨0, 0, _, s_digit b.1 b.2.1 b.2.2, Nat.zero_le _, Nat.zero_le _, ?_⟩
    rintro _ h2 ⟨rfl, rfl⟩
    have ho : h1.1 < 1099511627776 := by omega
    refine ⟨n, _, vm_upe, ho, i, rfl, hi, ?_⟩
    have ev : (16 * nI (hx (c (2 * i))) + nI (hx (c (2 * i + 1)))).toInt8.toInt32 = sb (hxb c i) := by
      rw [show (16 : Int32) * nI (hx (c (2 * i))) = nI (16 * hx (c (2 * i))) from nI_mul 16 _, nI_add]
      rfl
    have E : (16 * nI (hx (c (2 * i))) + nI (hx (c (2 * i + 1)))).toInt8.toInt32.toInt8.toInt32 = (fun j => sb (hxb c j)) i := by
      rw [ev]
      exact sb_self _ (by unfold hxb; omega)
    refine vm_Th (by rw [← nI_1]; rfl) ?_ ih
    rw [← cutf_sI (g := fun j => sb (hxb c j)) (i := i) E, vm_upup]; rfl
end
