/-! the table of spent NONCES -/
def pl (k : Nat) : Nat := k / 14 * 512 + k % 14 * 36
/-- whether a slot is taken -/
def tkn (D : Nat → Nat) (k : Nat) : Bool := !(D (pl k) == 0 && D (pl k + 1) == 0 && D (pl k + 2) == 0 && D (pl k + 3) == 0)
theorem pl_lt {k : Nat} (h : k < 112) : pl k + 36 ≤ 4096 := by unfold pl; omega
def cnt (D : Nat → Nat) : Nat → Nat
  | 0 => 0
  | k + 1 => cnt D k + (if tkn D k = true then 1 else 0)
theorem cnt_le (D : Nat → Nat) : ∀ k, cnt D k ≤ k
  | 0 => Nat.le_refl _
  | k + 1 => by
    have := cnt_le D k
    unfold cnt
    split <;> omega
theorem tkn_z {D : Nat → Nat} {k : Nat} : tkn D k = false ↔ ∀ i, i < 4 → D (pl k + i) = 0 := by
  unfold tkn
  constructor
  · intro h i hi
    simp only [Bool.not_eq_false', Bool.and_eq_true, beq_iff_eq] at h
    obtain ⟨⟨⟨h0, h1⟩, h2⟩, h3⟩ := h
    rcases i with _ | _ | _ | _ | i
    · rw [Nat.add_zero]; exact h0
    · exact h1
    · exact h2
    · exact h3
    · omega
  · intro h
    have h0 := h 0 (by decide)
    rw [Nat.add_zero] at h0
    rw [h0, h 1 (by decide), h 2 (by decide), h 3 (by decide)]
    rfl
def dsk (h : vm_H) (K B : Nat) (D : Nat → Nat) (dn wl wr : Int32) : Prop := h.2 K = .inr (10, [.ref B, .int dn, .int wl, .int wr]) ∧ bv h 4096 B D ∧ K < 1099511627776 ∧ B < 1099511627776
section
variable {l : Launch} {O : Nat → vm_Ob} {f9 : Value}
theorem s_place {h : vm_H} {k : Nat} (hk : k < 112) : vm_Met (vm_env l O f9) mX10_placeOf 0 0 [.int (nI k)] h (fun r h' => r = some (.int (nI (pl k))) ∧ h' = h) := by
  refine vm_met rfl (Nat.le_of_ble_eq_true rfl) ?_
  have e1 : nI k / 14 = nI (k / 14) := nI_div (by omega) (by decide)
  have e2 : nI k - nI k / 14 * 14 = nI (k % 14) := nI_rem (by omega) (by decide)
  refine vm_go rfl bX10_placeOf_0 oX10_placeOf_0 ⟨by decide, by decide, ?_, rfl⟩
  show some (Value.int (nI k / 14 * 512 + (nI k - nI k / 14 * 14) * 36)) = _
  have e5 : (512 : Int32) = nI 512 := by decide
  have e6 : (36 : Int32) = nI 36 := by decide
  rw [e2, e1, e5, e6, nI_mul, nI_mul, nI_add]
  rfl
theorem s_taken {h : vm_H} {K B k : Nat} {D : Nat → Nat} {dn wl wr : Int32} (hd : dsk h K B D dn wl wr) (hk : k < 112) : vm_Met (vm_env l O f9) mX10_isTaken 0 0 [.ref K, .int (nI k)] h (fun r h' => r = some (.int (if tkn D k = true then 1 else 0)) ∧ h' = h) := by
  obtain ⟨k1, k2, k3, k4⟩ := hd
  have := pl_lt hk
  refine vm_met rfl (Nat.le_of_ble_eq_true rfl) ?_
  refine vm_go rfl bX10_isTaken_0 oX10_isTaken_0 ⟨_, _, k1, rfl, ⟨0, 0, _, s_place hk, Nat.zero_le _, Nat.zero_le _, ?_⟩⟩
  rintro _ h1 ⟨rfl, rfl⟩
  refine ⟨0, 0, _, w_zero (many := 4) k2 (by omega) (by decide), Nat.zero_le _, Nat.zero_le _, ?_⟩
  rintro _ h2 ⟨rfl, x, rfl, hx⟩
  rcases hx with ⟨rfl, hz⟩ | ⟨rfl, i, hi, hz⟩
  · refine ⟨fun _ => ?_, fun q => absurd q (by decide)⟩
    refine vm_go rfl bX10_isTaken_19 oX10_isTaken_19 (vm_go rfl bX10_isTaken_20 oX10_isTaken_20 ⟨rfl, ?_, rfl⟩)
    rw [tkn_z.mpr hz]; rfl
  · refine ⟨fun q => absurd rfl q, fun _ => ?_⟩
    refine vm_go rfl bX10_isTaken_20 oX10_isTaken_20 ⟨rfl, ?_, rfl⟩
    have : tkn D k = true := by
      cases ht : tkn D k with
      | true => rfl
      | false => exact absurd (tkn_z.mp ht i hi) hz
    rw [this]; rfl
theorem s_spent {h : vm_H} {K B : Nat} {D : Nat → Nat} {dn wl wr : Int32} (hd : dsk h K B D dn wl wr) : vm_Met (vm_env l O f9) mX10_spentNonces 0 0 [.ref K] h (fun r h' => r = some (.int (nI (cnt D 112))) ∧ h' = h) := by
  refine vm_met rfl (Nat.le_of_ble_eq_true rfl) ?_
  refine vm_go rfl bX10_spentNonces_0 oX10_spentNonces_0 ?_
  refine vm_Th (lv' := [(0, .ref K), (1, .int (nI (cnt D 0))), (2, .int (nI 0))]) (h' := h) rfl rfl ?_
  refine vm_for 112 (fun i => [(0, .ref K), (1, .int (nI (cnt D i))), (2, .int (nI i))]) (fun _ => h) 0 (by decide) ?_ ?_
  · refine vm_go rfl bX10_spentNonces_4 oX10_spentNonces_4 ⟨fun _ => ?_, fun q => absurd (nI_le (a := 112) (b := 112) (by decide) (by decide)) q⟩
    exact vm_go rfl bX10_spentNonces_32 oX10_spentNonces_32 ⟨rfl, rfl⟩
  · intro i _ hi ih
    refine vm_go rfl bX10_spentNonces_4 oX10_spentNonces_4 ⟨fun q => absurd q (nI_ge (b := 112) hi (by decide)), fun _ => ⟨_, hd.1, 0, 0, _, s_taken hd hi, Nat.zero_le _, Nat.zero_le _, ?_⟩⟩
    rintro _ h1 ⟨rfl, rfl⟩
    have h24 : ∀ v : Nat, cnt D i + v = cnt D (i + 1) → vm_T (vm_env l O f9) mX10_spentNonces 0 0 24 [(0, .ref K), (1, .int (nI (cnt D i))), (2, .int (nI i))] [.int (nI v), .int (nI (cnt D i))] h1 (fun r h' => r = some (.int (nI (cnt D 112))) ∧ h' = h1) := by
      intro v hv
      refine vm_go rfl bX10_spentNonces_24 oX10_spentNonces_24 ?_
      refine vm_Th ?_ rfl ih
      show _ = [(0, Value.ref K), (1, .int (nI (cnt D i) + nI v)), (2, .int (nI i + 1))]
      rw [nI_add, hv, nI_1]
    cases ht : tkn D i with
    | true =>
      refine ⟨fun q => absurd q (by decide), fun _ => h24 1 ?_⟩
      show _ = cnt D i + (if tkn D i = true then 1 else 0)
      rw [ht]; rfl
    | false =>
      refine ⟨fun _ => ?_, fun q => absurd rfl q⟩
      refine vm_go rfl bX10_spentNonces_23 oX10_spentNonces_23 (h24 0 ?_)
      show _ = cnt D i + (if tkn D i = true then 1 else 0)
      rw [ht]; rfl
end
theorem lZ_i64 {a : Nat} (h : a < 2147483648) : (nI a).toInt64 = lZ (a : Int) := by
  apply Int64.toInt_inj.mp
  rw [Int32.toInt_toInt64, iZ_nI, iZ_toInt (by omega) (by omega), lZ_toInt (by omega) (by omega)]
theorem bw3_n {b : Nat → Nat} {p : Nat} : ∀ k, k ≤ 7 → (∀ j, j < k → b (p + j) < 256) → bw3 b p k = lZ (bn b p k : Nat)
  | 0, _, _ => rfl
  | k + 1, hk, hb => by
    have ih := bw3_n k (by omega) (fun j hj => hb j (by omega))
    have hl : bn b p k < 256 ^ k := bn_lt k (fun j h1 h2 => by
      have := hb (j - p) (by omega)
      rwa [show p + (j - p) = j by omega] at this)
    have hl2 : 256 ^ k ≤ 256 ^ 6 := Nat.pow_le_pow_right (by decide) (by omega)
    have hbk := hb k (by omega)
    show bw3 b p k <<< ((8 : Int32).toInt64 &&& 63) ||| (nI (b (p + k))).toInt64 = lZ ((bn b p k * 256 + b (p + k) : Nat) : Int)
    have e8 : ((8 : Int32).toInt64 &&& 63) = ((nI 8).toInt64 &&& 63) := rfl
    rw [ih, lZ_i64 (by omega), e8, lZ_sh (bn b p k) 8 (by decide), Int64.or_comm, lZ_or (k := 8) (by omega) (by omega), Nat.add_comm]
theorem lZ_rem {v : Nat} (hv : v < 4294967296) : (lZ (v : Int) - lZ (v : Int) / 112 * 112).toInt32 = nI (v % 112) := by
  have e1 : lZ (v : Int) / 112 = lZ ((v / 112 : Nat) : Int) := by
    apply Int64.toInt_inj.mp
    rw [Int64.toInt_div_of_ne_left]
    · rw [lZ_toInt (by omega) (by omega), lZ_toInt (by omega) (by omega)]
      show (v : Int).tdiv 112 = _
      rw [Int.tdiv_eq_ediv_of_nonneg (by omega)]
      omega
    · intro z
      have := congrArg Int64.toInt z
      rw [lZ_toInt (by omega) (by omega)] at this
      have e : Int64.minValue.toInt = -9223372036854775808 := by decide
      omega
  have e2 : (112 : Int64) = lZ 112 := rfl
  rw [e1, e2, lZ_mul, lZ_sub]
  have e3 : (v : Int) - ((v / 112 : Nat) : Int) * 112 = ((v % 112 : Nat) : Int) := by omega
  rw [e3]
  apply Int32.toInt_inj.mp
  rw [iZ_nI, iZ_toInt (by omega) (by omega), Int64.toInt_toInt32, lZ_toInt (by omega) (by omega)]
  have : ((v % 112 : Nat) : Int) < 2147483648 := by omega
  exact Int.bmod_eq_of_le (by omega) (by omega)
def slt (c : Nat → Nat) (at9 i : Nat) : Nat := (bn c at9 4 % 112 + i) % 112
def sam (D c : Nat → Nat) (at9 k : Nat) : Prop := ∀ i, i < 32 → D (pl k + 4 + i) = c (at9 + i)
section
variable {l : Launch} {O : Nat → vm_Ob} {f9 : Value}
theorem s_find {h : vm_H} {K B fa nf at9 : Nat} {D c : Nat → Nat} {dn wl wr : Int32} (hd : dsk h K B D dn wl wr) (hf : bv h nf fa c) (hat : at9 + 32 ≤ nf) (hnf : nf < 65536) : vm_Met (vm_env l O f9) mX10_find 0 0 [.ref K, .ref fa, .int (nI at9)] h (fun r h' => h' = h ∧ ((∃ i, i < 112 ∧ r = some (.int (nI (slt c at9 i))) ∧ (tkn D (slt c at9 i) = false ∨ sam D c at9 (slt c at9 i)) ∧ ∀ j, j < i → tkn D (slt c at9 j) = true ∧ ¬ sam D c at9 (slt c at9 j)) ∨ (r = some (.int (-1)) ∧ ∀ j, j < 112 → tkn D (slt c at9 j) = true ∧ ¬ sam D c at9 (slt c at9 j)))) := by
  obtain ⟨g, hf1, hf2⟩ := id hf
  obtain ⟨k1, k2, k3, k4⟩ := id hd
  refine vm_met rfl (Nat.le_of_ble_eq_true rfl) ?_
  refine vm_go rfl bX10_find_0 oX10_find_0 ?_
  refine vm_Th (lv' := [(0, .ref K), (1, .ref fa), (2, .int (nI at9)), (3, .long (bw3 c at9 0)), (5, .int (nI 0))]) (h' := h) rfl rfl ?_
  refine vm_for 4 (fun i => [(0, .ref K), (1, .ref fa), (2, .int (nI at9)), (3, .long (bw3 c at9 i)), (5, .int (nI i))]) (fun _ => h) 0 (by decide) ?_ ?_
  rotate_left
  · intro i _ hi ih
    have a1 := hf2 (at9 + i) (by omega)
    refine vm_go rfl bX10_find_5 oX10_find_5 ⟨fun q => absurd q (nI_ge (b := 4) hi (by decide)), fun _ => ⟨nf, g, hf1, at9 + i, nI_add _ _, by omega, fun _ => ?_⟩⟩
    rw [a1.1]
    refine vm_Th ?_ rfl ih
    show _ = [(0, Value.ref K), (1, .ref fa), (2, .int (nI at9)), (3, .long (bw3 c at9 i <<< ((8 : Int32).toInt64 &&& 63) ||| (sb (c (at9 + i)) &&& 255).toInt64)), (5, .int (nI i + 1))]
    rw [sb_and _ a1.2, nI_1]
    rfl
  refine vm_go rfl bX10_find_5 oX10_find_5 ⟨fun _ => ?_, fun q => absurd (nI_le (a := 4) (b := 4) (by decide) (by decide)) q⟩
  rw [bw3_n 4 (by decide) (fun j hj => (hf2 _ (by omega)).2)]
  have hv : bn c at9 4 < 4294967296 := by
    have := bn_lt (b := c) (at9 := at9) 4 (fun j h1 h2 => (hf2 j (by omega)).2)
    omega
  have er := lZ_rem hv
  refine vm_go rfl bX10_find_34 oX10_find_34 ⟨by decide, ?_⟩
  refine vm_Th (lv' := [(0, .ref K), (1, .ref fa), (2, .int (nI at9)), (3, .long (lZ (bn c at9 4 : Nat))), (5, .int (nI (bn c at9 4 % 112))), (6, .int (nI 0))]) (h' := h) (by rw [← er]; rfl) rfl ?_
  have hs0 : bn c at9 4 % 112 < 112 := Nat.mod_lt _ (by decide)
  have hsl : ∀ i, slt c at9 i < 112 := fun i => Nat.mod_lt _ (by decide)
  have hsd : ∀ i, slt c at9 i = (bn c at9 4 % 112 + i) % 112 := fun _ => rfl
  generalize bn c at9 4 % 112 = s0 at *
  generalize lZ (bn c at9 4 : Nat) = vv9 at *
  refine vm_forP (fun i => ∀ j, j < i → tkn D (slt c at9 j) = true ∧ ¬ sam D c at9 (slt c at9 j)) 112 (fun i => [(0, .ref K), (1, .ref fa), (2, .int (nI at9)), (3, .long vv9), (5, .int (nI s0)), (6, .int (nI i))]) (fun _ => h) 0 (by decide) (fun j hj => by omega) ?_ ?_
  · intro hp
    refine vm_go rfl bX10_find_45 oX10_find_45 ⟨fun _ => ?_, fun q => absurd (nI_le (a := 112) (b := 112) (by decide) (by decide)) q⟩
    exact vm_go rfl bX10_find_101 oX10_find_101 ⟨rfl, Or.inr ⟨rfl, hp⟩⟩
  · intro i _ hi hp ih
    have es : (nI s0 + nI i) - (nI s0 + nI i) / 112 * 112 = nI (slt c at9 i) := by
      rw [nI_add, hsd]; exact nI_rem (by omega) (by decide)
    have hl := hsl i
    have hpl := pl_lt hl
    refine vm_go rfl bX10_find_45 oX10_find_45 ⟨fun q => absurd q (nI_ge (b := 112) hi (by decide)), fun _ => ⟨by decide, ?_⟩⟩
    show vm_sx _ _ _ _ _ _ _ (vm_st1 _ 7 (.int ((nI s0 + nI i) - (nI s0 + nI i) / 112 * 112))) _ _
    rw [es]
    refine ⟨_, k1, 0, 0, _, s_taken hd hl, Nat.zero_le _, Nat.zero_le _, ?_⟩
    rintro _ h1 ⟨rfl, rfl⟩
    have fin : (tkn D (slt c at9 i) = false ∨ sam D c at9 (slt c at9 i)) → vm_T (vm_env l O f9) mX10_find 0 0 92 [(0, .ref K), (1, .ref fa), (2, .int (nI at9)), (3, .long vv9), (5, .int (nI s0)), (6, .int (nI i)), (7, .int (nI (slt c at9 i)))] [] h1 (fun r h' => h' = h1 ∧ ((∃ i, i < 112 ∧ r = some (.int (nI (slt c at9 i))) ∧ (tkn D (slt c at9 i) = false ∨ sam D c at9 (slt c at9 i)) ∧ ∀ j, j < i → tkn D (slt c at9 j) = true ∧ ¬ sam D c at9 (slt c at9 j)) ∨ (r = some (.int (-1)) ∧ ∀ j, j < 112 → tkn D (slt c at9 j) = true ∧ ¬ sam D c at9 (slt c at9 j)))) := by
      intro hc
      exact vm_go rfl bX10_find_92 oX10_find_92 ⟨rfl, Or.inl ⟨i, hi, rfl, hc, hp⟩⟩
    cases ht : tkn D (slt c at9 i) with
    | false => exact ⟨fun _ => fin (Or.inl ht), fun q => absurd rfl q⟩
    | true =>
      refine ⟨fun q => absurd q (by decide), fun _ => ⟨_, _, k1, rfl, ⟨0, 0, _, s_place hl, Nat.zero_le _, Nat.zero_le _, ?_⟩⟩⟩
      rintro _ h2 ⟨rfl, rfl⟩
      have e4 : nI (pl (slt c at9 i)) + 4 = nI (pl (slt c at9 i) + 4) := nI_add _ 4
      refine ⟨0, 0, _, vm_metA (w_same (at9 := pl (slt c at9 i) + 4) (bt := at9) (many := 32) k2 hf (by omega) hat (by decide)) (by show [_, Value.int (nI (pl (slt c at9 i) + 4)), _, _, _] = [_, Value.int (nI (pl (slt c at9 i)) + 4), _, _, _]; rw [e4]; rfl), Nat.zero_le _, Nat.zero_le _, ?_⟩
      rintro _ h3 ⟨rfl, x, rfl, hx⟩
      rcases hx with ⟨rfl, hz⟩ | ⟨rfl, q, hq, hz⟩
      · exact ⟨fun q => absurd q (by decide), fun _ => fin (Or.inr hz)⟩
      · refine ⟨fun _ => ?_, fun q => absurd rfl q⟩
        refine vm_go rfl bX10_find_95 oX10_find_95 ?_
        refine vm_less [0, 1, 2, 3, 4, 5] rfl ?_
        refine vm_Th (by rw [← nI_1]; rfl) rfl (ih (fun j hj => ?_))
        rcases Nat.lt_or_ge j i with z | z
        · exact hp j z
        · rw [show j = i by omega]; exact ⟨ht, fun w => hz (w q hq)⟩
end
/-- the disk with a NONCE more -/
def dpt (D c : Nat → Nat) (at9 k : Nat) : Nat → Nat := app (b1 D (pl k + 3) 1) (pl k + 4) (fun j => c (at9 + j)) 32
section
variable {l : Launch} {O : Nat → vm_Ob} {f9 : Value}
theorem s_spend {h : vm_H} {K B fa nf at9 : Nat} {D c : Nat → Nat} {wl : Int} {wr : Nat} (hd : dsk h K B D 0 (iZ wl) (nI wr)) (hf : bv h nf fa c) (hat : at9 + 32 ≤ nf) (hnf : nf < 65536) (hfB : fa ≠ B) (hw1 : -1 ≤ wl) (hw2 : wl ≤ 1000) (hwr : wr < 1000000) : vm_Met (vm_env l O f9) mX10_spend 0 0 [.ref K, .ref fa, .int (nI at9)] h (fun r h' => fr h h' (fun q => q = K ∨ q = B) ∧ (
      (∃ i, i < 112 ∧ (∀ j, j < i → tkn D (slt c at9 j) = true ∧ ¬ sam D c at9 (slt c at9 j)) ∧ (
        (tkn D (slt c at9 i) = true ∧ sam D c at9 (slt c at9 i) ∧ r = some (.int (-5)) ∧ dsk h' K B D 0 (iZ wl) (nI wr)) ∨
        (tkn D (slt c at9 i) = false ∧ wl = 0 ∧ r = some (.int (-9)) ∧ dsk h' K B D 1 (iZ wl) (nI wr)) ∨
        (tkn D (slt c at9 i) = false ∧ wl ≠ 0 ∧ r = some (.int 0) ∧ dsk h' K B (dpt D c at9 (slt c at9 i)) 0 (iZ (if 0 < wl then wl - 1 else wl)) (nI (wr + 1))))) ∨
      ((∀ j, j < 112 → tkn D (slt c at9 j) = true ∧ ¬ sam D c at9 (slt c at9 j)) ∧ r = some (.int (-6)) ∧ dsk h' K B D 0 (iZ wl) (nI wr)))) := by
  obtain ⟨g, hf1, hf2⟩ := id hf
  obtain ⟨k1, k2, k3, k4⟩ := id hd
  have hKB : K ≠ B := fun z => by obtain ⟨f, e, _⟩ := k2; rw [z, e] at k1; cases k1
  have hKf : K ≠ fa := fun z => by rw [z, hf1] at k1; cases k1
  refine vm_met rfl (Nat.le_of_ble_eq_true rfl) ?_
  refine vm_go rfl bX10_spend_0 oX10_spend_0 ⟨_, k1, 0, 0, _, s_find hd hf hat hnf, Nat.zero_le _, Nat.zero_le _, ?_⟩
  rintro _ h1 ⟨rfl, hx⟩
  rcases hx with ⟨i, hi, rfl, hc, hp⟩ | ⟨rfl, hp⟩
  rotate_left
  · refine ⟨fun q => absurd rfl q, fun _ => ⟨fr_refl, Or.inr ⟨hp, rfl, hd⟩⟩⟩
  have hl : slt c at9 i < 112 := Nat.mod_lt _ (by decide)
  have hpl := pl_lt hl
  have hm1 : ¬ nI (slt c at9 i) = (-1 : Int32) := by
    rw [iZ_nI, show (-1 : Int32) = iZ (-1) by decide, iZ_inj (by omega) (by omega) (by decide) (by decide)]; omega
  refine ⟨fun _ => ?_, fun q => absurd q hm1⟩
  generalize hk9 : slt c at9 i = k at *
  refine vm_go rfl bX10_spend_15 oX10_spend_15 ⟨_, k1, 0, 0, _, s_taken hd hl, Nat.zero_le _, Nat.zero_le _, ?_⟩
  rintro _ h2 ⟨rfl, rfl⟩
  cases ht : tkn D k with
  | true =>
    refine ⟨fun q => absurd q (by decide), fun _ => ⟨fr_refl, Or.inl ⟨i, hi, hp, Or.inl ?_⟩⟩⟩
    rw [hk9]
    exact ⟨ht, hc.resolve_left (by rw [ht]; decide), rfl, hd⟩
  | false =>
    refine ⟨fun _ => ?_, fun q => absurd rfl q⟩
    have ewl : iZ wl = 0 ↔ wl = 0 := by
      rw [show (0 : Int32) = iZ 0 by decide, iZ_inj (by omega) (by omega) (by decide) (by decide)]
    refine vm_go rfl bX10_spend_26 oX10_spend_26 ⟨_, _, k1, rfl, ⟨fun q => ?_, fun q => ?_⟩⟩
    rotate_left
    · have q := ewl.mp q
      refine ⟨_, k1, k3, show 1 < 4 by decide, Or.inr rfl, ⟨fr_up (Or.inl rfl), Or.inl ⟨i, hi, hp, Or.inr (Or.inl ?_)⟩⟩⟩
      rw [hk9]
      refine ⟨ht, q, rfl, vm_upe, ?_, k3, k4⟩
      obtain ⟨f, e, v⟩ := k2
      exact ⟨f, (vm_upn (Ne.symm hKB)).trans e, v⟩
    · have q : wl ≠ 0 := fun z => q (ewl.mpr z)
      have h58 : ∀ (h3 : vm_H) (wl' : Int), wl' = (if 0 < wl then wl - 1 else wl) → h3.2 K = .inr (10, [.ref B, .int 0, .int (iZ wl'), .int (nI wr)]) → (∀ z, z ≠ K → h3.2 z = h2.2 z) → h3.1 = h2.1 → vm_T (vm_env l O f9) mX10_spend 0 0 58 [(0, .ref K), (1, .ref fa), (2, .int (nI at9)), (3, .int (nI k))] [] h3 (fun r h' => fr h2 h' (fun q => q = K ∨ q = B) ∧ (
      (∃ i, i < 112 ∧ (∀ j, j < i → tkn D (slt c at9 j) = true ∧ ¬ sam D c at9 (slt c at9 j)) ∧ (
        (tkn D (slt c at9 i) = true ∧ sam D c at9 (slt c at9 i) ∧ r = some (.int (-5)) ∧ dsk h' K B D 0 (iZ wl) (nI wr)) ∨
        (tkn D (slt c at9 i) = false ∧ wl = 0 ∧ r = some (.int (-9)) ∧ dsk h' K B D 1 (iZ wl) (nI wr)) ∨
        (tkn D (slt c at9 i) = false ∧ wl ≠ 0 ∧ r = some (.int 0) ∧ dsk h' K B (dpt D c at9 (slt c at9 i)) 0 (iZ (if 0 < wl then wl - 1 else wl)) (nI (wr + 1))))) ∨
      ((∀ j, j < 112 → tkn D (slt c at9 j) = true ∧ ¬ sam D c at9 (slt c at9 j)) ∧ r = some (.int (-6)) ∧ dsk h' K B D 0 (iZ wl) (nI wr)))) := by
        intro h3 wl' hwl' K3 u3 c3
        obtain ⟨fB, B0, vB⟩ := k2
        have B3 := (u3 B (Ne.symm hKB)).trans B0
        refine vm_go rfl bX10_spend_58 oX10_spend_58 ⟨_, _, K3, rfl, ⟨0, 0, _, s_place hl, Nat.zero_le _, Nat.zero_le _, ?_⟩⟩
        rintro _ h4 ⟨rfl, rfl⟩
        have e3 : nI (pl k) + 4 - 1 = nI (pl k + 3) := by
          rw [show nI (pl k) + 4 = nI (pl k + 4) from nI_add _ 4]; exact nI_sub (b := 1) (by omega)
        have e4 : nI (pl k) + 4 = nI (pl k + 4) := nI_add _ 4
        refine ⟨4096, fB, B3, k4, pl k + 3, e3, by omega, ?_⟩
        have hb5 := bv_up (h := h4) (fa := B) (k := pl k + 3) (v := 1) vB (by decide)
        generalize hq5 : vm_up h4 B _ = h5
        have hq5' : vm_up h4 B (.inl (.byte, 4096, .inl (upd fB (pl k + 3) (sb 1)))) = h5 := hq5
        rw [hq5'] at hb5
        have u5 : ∀ z, z ≠ B → h5.2 z = h4.2 z := fun z hz => by rw [← hq5]; exact vm_upn hz
        have c5 : h5.1 = h4.1 := by rw [← hq5]; rfl
        clear hq5 hq5'
        obtain ⟨f5, B5, v5⟩ := hb5
        have K5 := (u5 K hKB).trans K3
        have f5a := (u5 fa hfB).trans ((u3 fa (Ne.symm hKf)).trans hf1)
        refine ⟨_, _, K5, rfl, ⟨0, 0, _, s_place hl, Nat.zero_le _, Nat.zero_le _, ?_⟩⟩
        rintro _ h6 ⟨rfl, rfl⟩
        refine ⟨32, pl k + 4, at9, nf, 4096, rfl, e4, rfl, hat, by omega, k4, g, f5, f5a, B5, ?_⟩
        generalize hq7 : vm_up h6 B _ = h7
        have b7 : bv h7 4096 B (dpt D c at9 k) := by
          rw [← hq7]
          refine ⟨_, vm_upe, fun j hj => ?_⟩
          unfold va_cpy dpt app
          by_cases e : pl k + 4 ≤ j ∧ j < pl k + 4 + 32
          · rw [if_pos e, if_pos e]
            exact hf2 (at9 + (j - (pl k + 4))) (by omega)
          · rw [if_neg e, if_neg e]; exact v5 j hj
        have u7 : ∀ z, z ≠ B → h7.2 z = h6.2 z := fun z hz => by rw [← hq7]; exact vm_upn hz
        have c7 : h7.1 = h6.1 := by rw [← hq7]; rfl
        clear hq7
        have K7 := (u7 K hKB).trans K5
        refine ⟨_, _, K7, rfl, ⟨_, K7, k3, show 3 < 4 by decide, trivial, ⟨?_, Or.inl ⟨i, hi, hp, Or.inr (Or.inr ?_)⟩⟩⟩⟩
        · refine ⟨by show h7.1 = _; rw [c7, c5, c3], fun z hz => ?_⟩
          rw [vm_upn (fun e => hz (Or.inl e)), u7 z (fun e => hz (Or.inr e)), u5 z (fun e => hz (Or.inr e)), u3 z (fun e => hz (Or.inl e))]
        · rw [hk9]
          refine ⟨ht, q, rfl, ?_, ?_, k3, k4⟩
          · rw [vm_upe, ← hwl', ← nI_1]; rfl
          · obtain ⟨f, e, v⟩ := b7
            exact ⟨f, (vm_upn (Ne.symm hKB)).trans e, v⟩
      refine vm_go rfl bX10_spend_41 oX10_spend_41 ⟨_, _, k1, rfl, ⟨fun z => ?_, fun z => ?_⟩⟩
      · have z : iZ wl ≤ iZ 0 := z
        rw [iZ_le (by omega) (by omega) (by decide) (by decide)] at z
        exact h58 h2 wl (by rw [if_neg (by omega)]) k1 (fun _ _ => rfl) rfl
      · have z : ¬ iZ wl ≤ iZ 0 := z
        rw [iZ_le (by omega) (by omega) (by decide) (by decide)] at z
        refine ⟨_, _, k1, rfl, ⟨_, k1, k3, show 2 < 4 by decide, trivial, ?_⟩⟩
        refine h58 _ (wl - 1) (by rw [if_pos (by omega)]) ?_ (fun z hz => vm_upn hz) rfl
        rw [vm_upe]
        have : iZ wl - 1 = iZ (wl - 1) := iZ_sub wl 1
        rw [← this]; rfl
end
