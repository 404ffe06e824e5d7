/-! the reference: half, swap -/
theorem nI_us1 {a : Nat} (h : a < 4294967296) : ((nI a).toUInt32 >>> ((1 : Int32).toUInt32 &&& Int32.toUInt32 31)).toInt32 = nI (a / 2) := by
  apply Int32.toBitVec_inj.mp
  apply BitVec.eq_of_toNat_eq
  show (BitVec.ofNat 32 a >>> ((1 : Int32).toUInt32 &&& Int32.toUInt32 31).toBitVec.umod 32).toNat = (BitVec.ofNat 32 (a / 2)).toNat
  have e : (((1 : Int32).toUInt32 &&& Int32.toUInt32 31).toBitVec.umod 32) = 1#32 := by decide
  rw [e, BitVec.ushiftRight_eq', BitVec.toNat_ushiftRight, BitVec.toNat_ofNat, BitVec.toNat_ofNat, BitVec.toNat_ofNat, Nat.shiftRight_eq_div_pow, Nat.mod_eq_of_lt (show a < 2 ^ 32 by omega), Nat.mod_eq_of_lt (show a / 2 < 2 ^ 32 by omega)]
theorem nI_m {a b : Nat} (h : a % 4294967296 = b % 4294967296) : nI a = nI b := by
  rw [iZ_nI, iZ_nI, iZ_w (a : Int), iZ_w (b : Int), show (a : Int) % 4294967296 = (b : Int) % 4294967296 by omega]
theorem dw_half (Z k : Nat) : dw (Z / 2) k = dw Z k / 2 + dw Z (k + 1) % 2 * 2147483648 := by
  have e1 := dw_d Z k
  have e2 : Z / 2 / 4294967296 ^ k = Z / 4294967296 ^ k / 2 := by
    rw [Nat.div_div_eq_div_mul, Nat.div_div_eq_div_mul, Nat.mul_comm]
  have e3 : dw Z (k + 1) = Z / 4294967296 ^ (k + 1) % 4294967296 := rfl
  unfold dw at *
  rw [e2]
  omega
theorem half_o {x y : Nat} (hx : x < 4294967296) : nI (x / 2) ||| (nI y <<< ((31 : Int32) &&& 31)) = nI (x / 2 + y % 2 * 2147483648) := by
  rw [nI_shl (k := 31) (by decide), show nI (y * 2 ^ 31) = nI (y % 2 * 2 ^ 31) from nI_m (by omega), nI_or (k := 31) (by omega) (by omega)]
section
variable {l : Launch} {O : Nat → vm_Ob} {f9 : Value} {h : vm_H}
theorem rm_half {L a n X o9 : Nat} (ha : wv h L a n X) (h1 : n ≤ L) (hn : n < 65536) (hao : a < 1099511627776) (hX : X < 4294967296 ^ n) (ho : o9 < 2) : vm_Met (vm_env l O f9) mX14_half 0 0 [.ref a, .int (nI n), .int (nI o9)] h (fun r h' => r = none ∧ wv h' L a n ((X + o9 * 4294967296 ^ n) / 2) ∧ fr h h' (fun q => q = a)) := by
  obtain ⟨f, ef, vf⟩ := ha
  obtain ⟨Z, eZ⟩ : ∃ Z, X + o9 * 4294967296 ^ n = Z := ⟨_, rfl⟩
  rw [eZ]
  have p : 0 < 4294967296 ^ n := Nat.pow_pos (by decide)
  have zk : ∀ k, k < n → dw X k = dw Z k := fun k hk => by
    rw [← dw_mod (X := Z) hk, ← eZ, Nat.mul_comm, Nat.add_mul_mod_self_left, Nat.mod_eq_of_lt hX]
  have zn : dw Z n = o9 := by
    unfold dw
    rw [← eZ, Nat.mul_comm, Nat.add_mul_div_left _ _ p, Nat.div_eq_of_lt hX, Nat.zero_add, Nat.mod_eq_of_lt (by omega)]
  refine vm_met rfl (Nat.le_of_ble_eq_true rfl) ?_
  refine vm_go rfl bX14_half_0 oX14_half_0 ?_
  refine vm_Th (lv' := [(0, .ref a), (1, .int (nI n)), (2, .int (nI o9)), (3, .int (nI 0))]) (h' := h) rfl rfl ?_
  refine vm_loop (fun i h' => (∃ g, ia h' L a g ∧ (∀ k, k < i → g k = nI (dw (Z / 2) k)) ∧ ∀ k, i ≤ k → g k = f k) ∧ fr h h' (fun q => q = a)) n (fun i => [(0, .ref a), (1, .int (nI n)), (2, .int (nI o9)), (3, .int (nI i))]) 0 h (Nat.zero_le _) ⟨⟨f, ef, fun k hk => by omega, fun k _ => rfl⟩, fr_refl⟩ ?_ ?_
  · rintro h4 ⟨⟨g, e1, e2, _⟩, F4⟩
    refine vm_go rfl bX14_half_2 oX14_half_2 ⟨fun _ => ?_, fun q => absurd (nI_le (a := n) (b := n) (Nat.le_refl _) (by omega)) q⟩
    exact vm_go rfl bX14_half_41 oX14_half_41 ⟨rfl, ⟨g, e1, e2⟩, F4⟩
  · rintro i h4 _ hi ⟨⟨g, e1, e2, e3⟩, F4⟩ ih
    have x1 := dw_lt Z i
    have gi : g i = nI (dw Z i) := by rw [e3 i (Nat.le_refl _), vf i hi, zk i hi]
    have ei : nI i + 1 = nI (i + 1) := by rw [nI_1]
    have tail : ∀ y : Nat, y % 2 = dw Z (i + 1) % 2 → vm_T (vm_env l O f9) mX14_half 0 0 30 [(0, .ref a), (1, .int (nI n)), (2, .int (nI o9)), (3, .int (nI i))] [.int (nI y), .int (nI (dw Z i / 2)), .int (nI i), .ref a] h4 (fun r h' => r = none ∧ wv h' L a n (Z / 2) ∧ fr h h' (fun q => q = a)) := by
      intro y hy
      refine vm_go rfl bX14_half_30 oX14_half_30 ⟨L, g, e1, hao, i, rfl, by omega, ?_⟩
      refine vm_Th (lv' := [(0, .ref a), (1, .int (nI n)), (2, .int (nI o9)), (3, .int (nI (i + 1)))]) (h' := vm_up h4 a (.inl (.int, L, .inl (upd g i (nI (dw (Z / 2) i)))))) (by rw [← nI_1]; rfl) ?_ ?_
      · rw [dw_half, ← hy, ← half_o x1]
      refine ih _ ⟨⟨_, vm_upe, fun k hk => ?_, fun k hk => ?_⟩, fr_trans F4 (fr_up rfl)⟩
      · by_cases e : k = i
        · rw [e]; exact upd_e
        · rw [upd_n e]; exact e2 k (by omega)
      · rw [upd_n (by omega)]; exact e3 k (by omega)
    by_cases hl : i + 1 < n
    · have gj : g (i + 1) = nI (dw Z (i + 1)) := by rw [e3 (i + 1) (by omega), vf _ hl, zk _ hl]
      refine vm_go rfl bX14_half_2 oX14_half_2 ⟨fun q => absurd q (nI_ge hi (by omega)), fun _ => ⟨L, g, e1, i, rfl, by omega, fun _ => ⟨fun q => absurd (show nI n ≤ nI i + 1 from q) (by rw [ei]; exact nI_ge hl (by omega)), fun _ => ⟨L, g, e1, i + 1, ei, by omega, fun _ => ?_⟩⟩⟩⟩
      rw [gi, gj]
      have := tail (dw Z (i + 1)) rfl
      rw [← nI_us1 x1] at this
      exact this
    · refine vm_go rfl bX14_half_2 oX14_half_2 ⟨fun q => absurd q (nI_ge hi (by omega)), fun _ => ⟨L, g, e1, i, rfl, by omega, fun _ => ⟨fun _ => ?_, fun q => absurd (show nI n ≤ nI i + 1 by rw [ei]; exact nI_le (by omega) (by omega)) q⟩⟩⟩
      rw [gi]
      have := tail o9 (by rw [show i + 1 = n by omega, zn])
      rw [← nI_us1 x1] at this
      exact vm_go rfl bX14_half_29 oX14_half_29 this
end
