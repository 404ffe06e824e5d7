/-! the reference: numbers below a modulus -/
theorem dz_ge {X Y k : Nat} (h : Y ≤ X) : dz X Y k = dw (X - Y) k := by
  unfold dz dw
  rw [show (X : Int) - Y = ((X - Y : Nat) : Int) by omega, ← Int.natCast_ediv, show (4294967296 : Int) = ((4294967296 : Nat) : Int) from rfl, ← Int.natCast_emod, Int.toNat_natCast]
theorem dz_lt {X Y n k : Nat} (h : X < Y) (h2 : Y ≤ X + 4294967296 ^ n) (hk : k < n) : dz X Y k = dw (X + 4294967296 ^ n - Y) k := by
  have p : 0 < 4294967296 ^ k := Nat.pow_pos (by decide)
  have e : 4294967296 ^ n = 4294967296 ^ k * (4294967296 * 4294967296 ^ (n - k - 1)) := by
    rw [← Nat.pow_succ', ← Nat.pow_add]
    congr 1; omega
  unfold dz dw
  have e2 : (X : Int) - Y = ((X + 4294967296 ^ n - Y : Nat) : Int) + ((4294967296 ^ k : Nat) : Int) * -((4294967296 * 4294967296 ^ (n - k - 1) : Nat) : Int) := by
    rw [Int.mul_neg, ← Int.natCast_mul, ← e]
    omega
  rw [e2, Int.add_mul_ediv_left _ _ (by omega)]
  generalize 4294967296 ^ (n - k - 1) = q
  rw [← Int.natCast_ediv]
  generalize (X + 4294967296 ^ n - Y) / 4294967296 ^ k = r
  omega
theorem dw_mod {X n k : Nat} (hk : k < n) : dw (X % 4294967296 ^ n) k = dw X k := by
  have e : 4294967296 ^ n = 4294967296 ^ k * (4294967296 * 4294967296 ^ (n - k - 1)) := by
    rw [← Nat.pow_succ', ← Nat.pow_add]
    congr 1; omega
  unfold dw
  rw [e, Nat.mod_mul_right_div_self, Nat.mod_mul_right_mod]
theorem bw9_n {X Y n : Nat} (hX : X < 4294967296 ^ n) (hY : Y < 4294967296 ^ n) : bw9 X Y n = if X < Y then -1 else 0 := by
  have b := bw9_b X Y n
  have p : 0 < 4294967296 ^ n := Nat.pow_pos (by decide)
  unfold bw9 at *
  rw [Nat.mod_eq_of_lt hX, Nat.mod_eq_of_lt hY] at *
  generalize 4294967296 ^ n = m at *
  by_cases h : X < Y
  · rw [if_pos h]
    have : ((X : Int) - Y) / (m : Int) < 0 := by
      rw [Int.ediv_lt_iff_lt_mul (by omega)]
      omega
    omega
  · rw [if_neg h]
    have : 0 ≤ ((X : Int) - Y) / (m : Int) := by
      rw [Int.le_ediv_iff_mul_le (by omega)]
      omega
    omega
/-- a Mod -/
def MM (h : vm_H) (M mm hi n N : Nat) (s : Int32) : Prop := h.2 M = .inr (12, [.ref mm, .ref hi, .int (nI n), .int s]) ∧ wv h 64 mm n N ∧ n ≤ 64 ∧ 2 ≤ n ∧ N < 4294967296 ^ n ∧ 1 < N
theorem wv_cg {h h' : vm_H} {L a n X : Nat} (k : wv h L a n X) (e : h'.2 a = h.2 a) : wv h' L a n X := by
  obtain ⟨f, k1, k2⟩ := k
  exact ⟨f, e.trans k1, k2⟩
section
variable {l : Launch} {O : Nat → vm_Ob} {f9 : Value} {h : vm_H}
theorem rm_sub {M mm hi n N L1 L2 L3 a b c X Y : Nat} {s : Int32} {t : Nat → Int32} (k : MM h M mm hi n N s) (ha : wv h L1 a n X) (hb : wv h L2 b n Y) (hc : ia h L3 c t) (h1 : n ≤ L1) (h2 : n ≤ L2) (h3 : n ≤ L3) (hco : c < 1099511627776) (hcm : c ≠ mm) (hX : X < N) (hY : Y < N) : vm_Met (vm_env l O f9) mX14_sub 0 0 [.ref M, .ref a, .ref b, .ref c] h (fun r h' => r = none ∧ (∃ t', ia h' L3 c t' ∧ (∀ k, k < n → t' k = nI (dw ((X + N - Y) % N) k)) ∧ ∀ k, n ≤ k → t' k = t k) ∧ fr h h' (fun q => q = c)) := by
  obtain ⟨k1, k2, k3, k4, k5, k6⟩ := k
  have hcM : c ≠ M := fun z => by
    have hc : h.2 c = _ := hc
    rw [z, k1] at hc
    cases hc
  refine vm_met rfl (Nat.le_of_ble_eq_true rfl) ?_
  refine vm_go rfl bX14_sub_0 oX14_sub_0 ⟨_, _, k1, rfl, ⟨0, 0, _, rm_minus ha hb hc h1 h2 h3 (by omega) hco, Nat.zero_le _, Nat.zero_le _, ?_⟩⟩
  rintro _ h4 ⟨rfl, ⟨t1, e1, e2, e3⟩, F4⟩
  rw [bw9_n (by omega) (by omega)]
  by_cases q : X < Y
  · rw [if_pos q]
    have m4 : h4.2 M = _ := (F4.2 M (fun z => hcM z.symm)).trans k1
    have n4 := wv_cg k2 (F4.2 mm (fun z => hcm z.symm))
    have w4 : wv h4 L3 c n (X + 4294967296 ^ n - Y) := ⟨t1, e1, fun j hj => by rw [e2 j hj, dz_lt (n := n) q (by omega) hj]⟩
    refine ⟨fun z => absurd z (by decide), fun _ => ⟨_, _, m4, rfl, ⟨_, _, m4, rfl, ⟨0, 0, _, rm_plus w4 n4 e1 h3 (by omega) h3 (by omega) hco (by omega) k5, Nat.zero_le _, Nat.zero_le _, ?_⟩⟩⟩⟩
    rintro _ h5 ⟨rfl, ⟨t2, e4, e5, e6⟩, F5⟩
    refine vm_Th (lv' := [(0, .ref M), (1, .ref a), (2, .ref b), (3, .ref c), (4, .int (nI ((X + 4294967296 ^ n - Y + N) / 4294967296 ^ n)))]) (h' := h5) rfl rfl ?_
    refine vm_less [0] (lv' := [(0, .ref M)]) rfl ?_
    refine vm_go rfl bX14_sub_28 oX14_sub_28 ⟨rfl, ⟨t2, e4, fun j hj => ?_, fun j hj => ?_⟩, fr_trans F4 F5⟩
    · rw [e5 j hj, ← dw_mod (n := n) hj, Nat.mod_eq_of_lt (show X + N - Y < N by omega), show X + 4294967296 ^ n - Y + N = X + N - Y + 4294967296 ^ n by omega, Nat.add_mod_right, Nat.mod_eq_of_lt (by omega)]
    · rw [e6 j hj, e3 j hj]
  · rw [if_neg q]
    refine ⟨fun _ => ?_, fun z => absurd rfl z⟩
    refine vm_less [0] (lv' := [(0, .ref M)]) rfl ?_
    refine vm_go rfl bX14_sub_28 oX14_sub_28 ⟨rfl, ⟨t1, e1, fun j hj => ?_, e3⟩, F4⟩
    rw [e2 j hj, dz_ge (by omega), show X + N - Y = X - Y + N by omega, Nat.add_mod_right, Nat.mod_eq_of_lt (by omega)]
end
