/-! the reference: load -/
theorem ld_st {V y k j : Nat} (hV : V < 256 ^ k) (hy : y < 256) : dw (y * 256 ^ k + V) j = if j = k / 4 then dw V j + y * 2 ^ (8 * (k % 4)) else dw V j := by
  have pj : 0 < 4294967296 ^ j := Nat.pow_pos (by decide)
  have q8 : ∀ m, 256 ^ m = 2 ^ (8 * m) := fun m => by rw [show 256 = 2 ^ 8 from rfl, ← Nat.pow_mul]
  have q32 : ∀ m, 4294967296 ^ m = 2 ^ (32 * m) := fun m => by rw [show 4294967296 = 2 ^ 32 from rfl, ← Nat.pow_mul]
  rcases Nat.lt_trichotomy j (k / 4) with h | h | h
  · rw [if_neg (by omega)]
    have e : 256 ^ k = 4294967296 ^ j * (4294967296 * 2 ^ (8 * k - 32 * j - 32)) := by
      rw [q8, q32, show 4294967296 = 2 ^ 32 from rfl, ← Nat.pow_add, ← Nat.pow_add]
      congr 1; omega
    unfold dw
    rw [e, Nat.add_comm, Nat.mul_left_comm, Nat.add_mul_div_left _ _ pj, Nat.mul_left_comm]
    exact Nat.add_mul_mod_self_left _ _ _
  · rw [if_pos h]
    have e : 256 ^ k = 4294967296 ^ j * 2 ^ (8 * (k % 4)) := by
      rw [q8, q32, ← Nat.pow_add]
      congr 1; omega
    have hq : V / 4294967296 ^ j < 2 ^ (8 * (k % 4)) := by
      rw [Nat.div_lt_iff_lt_mul pj, Nat.mul_comm, ← e]; exact hV
    unfold dw
    rw [e, Nat.add_comm, Nat.mul_left_comm, Nat.add_mul_div_left _ _ pj]
    generalize V / 4294967296 ^ j = z at *
    rcases (show k % 4 = 0 ∨ k % 4 = 1 ∨ k % 4 = 2 ∨ k % 4 = 3 by omega) with e | e | e | e <;> rw [e] at hq ⊢ <;> omega
  · rw [if_neg (by omega)]
    have e : 256 ^ (k + 1) ≤ 4294967296 ^ j := by
      rw [q8, q32]
      exact Nat.pow_le_pow_right (by decide) (by omega)
    have hs : y * 256 ^ k + V < 256 ^ (k + 1) := by
      rw [Nat.pow_succ]
      have : y * 256 ^ k ≤ 255 * 256 ^ k := Nat.mul_le_mul_right _ (by omega)
      omega
    have hp : 256 ^ k ≤ 256 ^ (k + 1) := Nat.pow_le_pow_right (by decide) (by omega)
    unfold dw
    rw [Nat.div_eq_of_lt (by omega), Nat.div_eq_of_lt (by omega)]
theorem bn_hd {b : Nat → Nat} {p : Nat} : ∀ k, bn b p (k + 1) = b p * 256 ^ k + bn b (p + 1) k
  | 0 => by show bn b p 0 * 256 + b (p + 0) = _; rw [show bn b p 0 = 0 from rfl, show bn b (p + 1) 0 = 0 from rfl, Nat.pow_zero, Nat.add_zero p]; omega
  | k + 1 => by
    show bn b p (k + 1) * 256 + b (p + (k + 1)) = b p * 256 ^ (k + 1) + (bn b (p + 1) k * 256 + b (p + 1 + k))
    rw [bn_hd k, Nat.pow_succ, Nat.add_mul, Nat.mul_assoc, show p + (k + 1) = p + 1 + k by omega]
    omega
theorem ld_or {x y r : Nat} (hr : r < 4) (hx : x < 2 ^ (8 * r)) (hy : y < 256) : nI x ||| (nI y <<< (nI (8 * r) &&& 31)) = nI (x + y * 2 ^ (8 * r)) := by
  have e : ∀ s, s < 32 → ((nI s &&& 31).toBitVec.smod 32).toNat = s := by decide +kernel
  rw [nI_shl (k := 8 * r) (e _ (by omega))]
  refine nI_or hx ?_
  rcases (show r = 0 ∨ r = 1 ∨ r = 2 ∨ r = 3 by omega) with rfl | rfl | rfl | rfl <;> omega
section
variable {l : Launch} {O : Nat → vm_Ob} {f9 : Value} {h : vm_H}
set_option maxHeartbeats 1000000 in
theorem rm_load {L a n nt b at9 size : Nat} {g : Nat → Int32} {c : Nat → Nat} (hb : bv h nt b c) (hat : at9 + size ≤ nt) (hnt : nt < 65536) (ha : ia h L a g) (hao : a < 1099511627776) (h1 : n ≤ L) (hn : n < 10000) (hs : size ≤ 4 * n) : vm_Met (vm_env l O f9) mX14_load 0 0 [.ref b, .int (nI at9), .int (nI size), .ref a, .int (nI n)] h (fun r h' => r = none ∧ wv h' L a n (bn c at9 size) ∧ fr h h' (fun q => q = a)) := by
  obtain ⟨fb, eb, vb⟩ := hb
  have hba : b ≠ a := fun z => by
    have ha : h.2 a = _ := ha
    rw [← z, eb] at ha
    cases ha
  refine vm_met rfl (Nat.le_of_ble_eq_true rfl) ?_
  refine vm_go rfl bX14_load_0 oX14_load_0 ?_
  refine vm_Th (lv' := [(0, .ref b), (1, .int (nI at9)), (2, .int (nI size)), (3, .ref a), (4, .int (nI n)), (5, .int (nI 0))]) (h' := h) rfl rfl ?_
  refine vm_loop (fun i h' => (∃ g', ia h' L a g' ∧ ∀ k, k < i → g' k = 0) ∧ fr h h' (fun q => q = a)) n (fun i => [(0, .ref b), (1, .int (nI at9)), (2, .int (nI size)), (3, .ref a), (4, .int (nI n)), (5, .int (nI i))]) 0 h (Nat.zero_le _) ⟨⟨g, ha, fun k hk => by omega⟩, fr_refl⟩ ?_ ?_
  rotate_left
  · rintro i h4 _ hi ⟨⟨g', e1, e2⟩, F4⟩ ih
    refine vm_go rfl bX14_load_3 oX14_load_3 ⟨fun q => absurd q (nI_ge hi (by omega)), fun _ => ⟨L, g', e1, hao, i, rfl, by omega, ?_⟩⟩
    refine vm_Th (lv' := [(0, .ref b), (1, .int (nI at9)), (2, .int (nI size)), (3, .ref a), (4, .int (nI n)), (5, .int (nI (i + 1)))]) (h' := vm_up h4 a (.inl (.int, L, .inl (upd g' i 0)))) (by rw [← nI_1]; rfl) rfl ?_
    refine ih _ ⟨⟨_, vm_upe, fun k hk => ?_⟩, fr_trans F4 (fr_up rfl)⟩
    by_cases e : k = i
    · rw [e]; exact upd_e
    · rw [upd_n e]; exact e2 k (by omega)
  rintro h3 ⟨⟨g3, z1, z2⟩, F3⟩
  refine vm_go rfl bX14_load_3 oX14_load_3 ⟨fun _ => ?_, fun q => absurd (nI_le (a := n) (b := n) (Nat.le_refl _) (by omega)) q⟩
  refine vm_go rfl bX14_load_21 oX14_load_21 ?_
  refine vm_Th (lv' := [(0, .ref b), (1, .int (nI at9)), (2, .int (nI size)), (3, .ref a), (4, .int (nI n)), (5, .int (nI 0))]) (h' := h3) rfl rfl ?_
  refine vm_loop (fun i h' => wv h' L a n (bn c (at9 + size - i) i) ∧ fr h h' (fun q => q = a)) size (fun i => [(0, .ref b), (1, .int (nI at9)), (2, .int (nI size)), (3, .ref a), (4, .int (nI n)), (5, .int (nI i))]) 0 h3 (Nat.zero_le _) ⟨⟨g3, z1, fun k hk => by rw [z2 k hk, show bn c (at9 + size - 0) 0 = 0 from rfl]; unfold dw; rw [Nat.zero_div]; rfl⟩, F3⟩ ?_ ?_
  · rintro h4 ⟨w4, F4⟩
    refine vm_go rfl bX14_load_24 oX14_load_24 ⟨fun _ => ?_, fun q => absurd (nI_le (a := size) (b := size) (Nat.le_refl _) (by omega)) q⟩
    rw [show at9 + size - size = at9 by omega] at w4
    exact vm_go rfl bX14_load_67 oX14_load_67 ⟨rfl, w4, F4⟩
  · rintro i h4 _ hi ⟨⟨g', e1, e2⟩, F4⟩ ih
    have eb4 : h4.2 b = _ := (F4.2 b hba).trans eb
    have ed : nI i / 4 = nI (i / 4) := nI_div (b := 4) (by omega) (by decide)
    have er : nI i - nI i / 4 * 4 = nI (i % 4) := nI_rem (b := 4) (by omega) (by decide)
    have ix : nI at9 + nI size - 1 - nI i = nI (at9 + size - 1 - i) := by
      rw [nI_add, show nI (at9 + size) - 1 = nI (at9 + size - 1) from nI_sub (b := 1) (by omega), nI_sub (by omega)]
    have vi := vb (at9 + size - 1 - i) (by omega)
    obtain ⟨V, eV⟩ : ∃ V, bn c (at9 + size - i) i = V := ⟨_, rfl⟩
    have hV : V < 256 ^ i := by rw [← eV]; exact bn_lt i (fun j _ hj => (vb j (by omega)).2)
    rw [eV] at e2
    have eV2 : bn c (at9 + size - (i + 1)) (i + 1) = c (at9 + size - 1 - i) * 256 ^ i + V := by
      rw [bn_hd, show at9 + size - (i + 1) + 1 = at9 + size - i by omega, eV, show at9 + size - (i + 1) = at9 + size - 1 - i by omega]
    have hq : dw V (i / 4) < 2 ^ (8 * (i % 4)) := by
      have := ld_st (V := V) (y := 0) (k := i) (j := i / 4) hV (by decide)
      have e : 256 ^ i = 4294967296 ^ (i / 4) * 2 ^ (8 * (i % 4)) := by
        rw [show 256 = 2 ^ 8 from rfl, show 4294967296 = 2 ^ 32 from rfl, ← Nat.pow_mul, ← Nat.pow_mul, ← Nat.pow_add]
        congr 1; omega
      have h5 : V / 4294967296 ^ (i / 4) < 2 ^ (8 * (i % 4)) := by
        rw [Nat.div_lt_iff_lt_mul (Nat.pow_pos (by decide)), Nat.mul_comm, ← e]; exact hV
      exact Nat.lt_of_le_of_lt (Nat.mod_le _ _) h5
    refine vm_go rfl bX14_load_24 oX14_load_24 ⟨fun q => absurd q (nI_ge hi (by omega)), fun _ => ⟨by decide, ⟨L, g', e1, i / 4, ed, by omega, fun _ => ⟨nt, fb, eb4, at9 + size - 1 - i, ix, by omega, fun _ => ⟨by decide, ⟨L, g', e1, hao, i / 4, ed, by omega, ?_⟩⟩⟩⟩⟩⟩
    have ev : g' (i / 4) ||| ((fb (at9 + size - 1 - i) &&& 255) <<< ((8 * (nI i - nI i / 4 * 4)) &&& 31)) = nI (dw V (i / 4) + c (at9 + size - 1 - i) * 2 ^ (8 * (i % 4))) := by
      rw [e2 (i / 4) (by omega), vi.1, sb_and _ vi.2, er, show (8 : Int32) * nI (i % 4) = nI (8 * (i % 4)) from nI_mul 8 _, ld_or (by omega) hq vi.2]
    refine vm_Th (lv' := [(0, .ref b), (1, .int (nI at9)), (2, .int (nI size)), (3, .ref a), (4, .int (nI n)), (5, .int (nI (i + 1)))]) (h' := vm_up h4 a (.inl (.int, L, .inl (upd g' (i / 4) (nI (dw V (i / 4) + c (at9 + size - 1 - i) * 2 ^ (8 * (i % 4)))))))) (by rw [← nI_1]; rfl) (by rw [← ev]) ?_
    refine ih _ ⟨⟨_, vm_upe, fun k hk => ?_⟩, fr_trans F4 (fr_up rfl)⟩
    rw [eV2, ld_st hV vi.2]
    by_cases e : k = i / 4
    · rw [if_pos e, e]; exact upd_e
    · rw [if_neg e, upd_n e]; exact e2 k hk
end
