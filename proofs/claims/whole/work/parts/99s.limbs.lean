/-! the reference: rows of 32 bit limbs -/
def dw (X k : Nat) : Nat := X / 4294967296 ^ k % 4294967296
theorem dw_lt (X k : Nat) : dw X k < 4294967296 := Nat.mod_lt _ (by decide)
/-- a row of ints -/
def ia (h : vm_H) (L a : Nat) (f : Nat → Int32) : Prop := h.2 a = .inl (.int, L, .inl f)
/-- n limbs of a row are the number X -/
def wv (h : vm_H) (L a n X : Nat) : Prop := ∃ f, ia h L a f ∧ ∀ k, k < n → f k = nI (dw X k)
theorem iZ_m32 (z : Int) : iZ (z % 4294967296) = iZ z := by
  have e : z = z % 4294967296 + 4294967296 * (z / 4294967296) := by omega
  have e0 : iZ 4294967296 = 0 := by decide
  have : iZ z = iZ (z % 4294967296) + iZ 4294967296 * iZ (z / 4294967296) := by
    rw [iZ_mul, iZ_add, ← e]
  rw [this, e0, Int32.zero_mul, Int32.add_zero]
theorem iZ_w (z : Int) : iZ z = nI (z % 4294967296).toNat := by
  rw [← iZ_m32 z, iZ_nI]
  congr 1
  omega
theorem iZ_l {z : Int} (h1 : -2147483648 ≤ z) (h2 : z < 2147483648) : (iZ z).toInt64 = lZ z := by
  apply Int64.toInt_inj.mp
  rw [Int32.toInt_toInt64, iZ_toInt h1 h2, lZ_toInt (by omega) (by omega)]
theorem nI_u {x : Nat} (h : x < 4294967296) : (nI x).toInt64 &&& 4294967295 = lZ (x : Int) := by
  have hm : ∀ z : Int, lZ z &&& 4294967295 = lZ (z % 4294967296) := fun z => lZ_mask z (k := 32) (by decide)
  rcases Nat.lt_or_ge x 2147483648 with q | q
  · rw [iZ_nI, iZ_l (by omega) (by omega), hm]
    congr 1; omega
  · have e : nI x = iZ ((x : Int) - 4294967296) := by
      rw [iZ_nI, ← iZ_m32 ((x : Int) - 4294967296), ← iZ_m32 (x : Int)]
      congr 1; omega
    rw [e, iZ_l (by omega) (by omega), hm]
    congr 1; omega
theorem lZ_i (z : Int) : (lZ z).toInt32 = nI (z % 4294967296).toNat := by
  rw [← iZ_w]
  exact Int64.toInt32_ofInt
theorem nI_inj {a b : Nat} (ha : a < 4294967296) (hb : b < 4294967296) (e : nI a = nI b) : a = b := by
  have e1 := nI_u ha
  rw [e, nI_u hb, lZ_inj (by omega) (by omega) (by omega) (by omega)] at e1
  omega
section
variable {l : Launch} {O : Nat → vm_Ob} {f9 : Value} {h : vm_H}
theorem rm_u {x : Nat} (hx : x < 4294967296) : vm_Met (vm_env l O f9) mX14_u 0 0 [.int (nI x)] h (fun r h' => r = some (.long (lZ (x : Int))) ∧ h' = h) := by
  refine vm_met rfl (Nat.le_of_ble_eq_true rfl) ?_
  refine vm_go rfl bX14_u_0 oX14_u_0 ⟨?_, rfl⟩
  rw [← nI_u hx]
theorem upd_e {f : Nat → Int32} {k : Nat} {x : Int32} : upd f k x k = x := if_pos rfl
theorem upd_n {f : Nat → Int32} {k j : Nat} {x : Int32} (e : j ≠ k) : upd f k x j = f j := if_neg e
theorem rm_copy {L1 L2 a b n : Nat} {f g : Nat → Int32} (ha : ia h L1 a f) (hb : ia h L2 b g) (h1 : n ≤ L1) (h2 : n ≤ L2) (hn : n < 65536) (hbo : b < 1099511627776) : vm_Met (vm_env l O f9) mX14_copy 0 0 [.ref a, .ref b, .int (nI n)] h (fun r h' => r = none ∧ (∃ g', ia h' L2 b g' ∧ (∀ k, k < n → g' k = f k) ∧ ∀ k, n ≤ k → g' k = g k) ∧ fr h h' (fun q => q = b)) := by
  refine vm_met rfl (Nat.le_of_ble_eq_true rfl) ?_
  refine vm_go rfl bX14_copy_0 oX14_copy_0 ?_
  refine vm_Th (lv' := [(0, .ref a), (1, .ref b), (2, .int (nI n)), (3, .int (nI 0))]) (h' := h) rfl rfl ?_
  refine vm_loop (fun i h' => (∃ g', ia h' L2 b g' ∧ (∀ k, k < i → g' k = f k) ∧ ∀ k, i ≤ k → g' k = g k) ∧ fr h h' (fun q => q = b)) n (fun i => [(0, .ref a), (1, .ref b), (2, .int (nI n)), (3, .int (nI i))]) 0 h (Nat.zero_le _) ⟨⟨g, hb, fun k hk => by omega, fun k _ => rfl⟩, fr_refl⟩ ?_ ?_
  · rintro h1 ⟨hg, F1⟩
    refine vm_go rfl bX14_copy_2 oX14_copy_2 ⟨fun _ => ?_, fun q => absurd (nI_le (a := n) (b := n) (Nat.le_refl _) (by omega)) q⟩
    exact vm_go rfl bX14_copy_19 oX14_copy_19 ⟨rfl, hg, F1⟩
  · rintro i h3 _ hi ⟨⟨g', e1, e2, e3⟩, F3⟩ ih
    obtain ⟨f', ef, eff⟩ : ∃ f', ia h3 L1 a f' ∧ f' i = f i := by
      by_cases e : a = b
      · have : L1 = L2 ∧ f = g := by
          have ha : h.2 a = _ := ha
          have hb : h.2 b = _ := hb
          rw [e, hb] at ha
          injection ha with ha
          injection ha with _ ha
          injection ha with q1 ha
          injection ha with ha
          exact ⟨q1.symm, ha.symm⟩
        refine ⟨g', by rw [e, this.1]; exact e1, ?_⟩
        rw [e3 i (Nat.le_refl _), this.2]
      · exact ⟨f, (F3.2 a e).trans ha, rfl⟩
    refine vm_go rfl bX14_copy_2 oX14_copy_2 ⟨fun q => absurd q (nI_ge hi (by omega)), fun _ => ⟨L1, f', ef, i, rfl, by omega, fun _ => ⟨L2, g', e1, hbo, i, rfl, by omega, ?_⟩⟩⟩
    refine vm_Th (lv' := [(0, .ref a), (1, .ref b), (2, .int (nI n)), (3, .int (nI (i + 1)))]) (h' := vm_up h3 b (.inl (.int, L2, .inl (upd g' i (f' i))))) (by rw [← nI_1]; rfl) rfl ?_
    refine ih _ ⟨⟨upd g' i (f' i), vm_upe, fun k hk => ?_, fun k hk => ?_⟩, fr_trans F3 (fr_up rfl)⟩
    · by_cases e : k = i
      · rw [e, ← eff]; exact upd_e
      · rw [← e2 k (by omega)]; exact upd_n e
    · rw [← e3 k (by omega)]; exact upd_n (by omega)
theorem rm_small {L b n x : Nat} {g : Nat → Int32} (hb : ia h L b g) (h2 : n ≤ L) (h0 : 1 ≤ n) (hn : n < 65536) (hbo : b < 1099511627776) : vm_Met (vm_env l O f9) mX14_small 0 0 [.int (nI x), .ref b, .int (nI n)] h (fun r h' => r = none ∧ (∃ g', ia h' L b g' ∧ g' 0 = nI x ∧ (∀ k, 1 ≤ k → k < n → g' k = 0) ∧ ∀ k, n ≤ k → g' k = g k) ∧ fr h h' (fun q => q = b)) := by
  refine vm_met rfl (Nat.le_of_ble_eq_true rfl) ?_
  refine vm_go rfl bX14_small_0 oX14_small_0 ?_
  refine vm_Th (lv' := [(0, .int (nI x)), (1, .ref b), (2, .int (nI n)), (3, .int (nI 1))]) (h' := h) rfl rfl ?_
  refine vm_loop (fun i h' => (∃ g', ia h' L b g' ∧ (∀ k, 1 ≤ k → k < i → g' k = 0) ∧ ∀ k, i ≤ k → g' k = g k) ∧ fr h h' (fun q => q = b)) n (fun i => [(0, .int (nI x)), (1, .ref b), (2, .int (nI n)), (3, .int (nI i))]) 1 h h0 ⟨⟨g, hb, fun k hk hk2 => by omega, fun k _ => rfl⟩, fr_refl⟩ ?_ ?_
  · rintro h1 ⟨⟨g', e1, e2, e3⟩, F1⟩
    refine vm_go rfl bX14_small_2 oX14_small_2 ⟨fun _ => ?_, fun q => absurd (nI_le (a := n) (b := n) (Nat.le_refl _) (by omega)) q⟩
    refine vm_go rfl bX14_small_17 oX14_small_17 ⟨L, g', e1, hbo, 0, rfl, by omega, ?_⟩
    refine ⟨rfl, ⟨upd g' 0 (nI x), vm_upe, upd_e, fun k hk hk2 => ?_, fun k hk => ?_⟩, fr_trans F1 (fr_up rfl)⟩
    · rw [upd_n (by omega)]; exact e2 k hk hk2
    · rw [upd_n (by omega)]; exact e3 k hk
  · rintro i h3 hi1 hi ⟨⟨g', e1, e2, e3⟩, F3⟩ ih
    refine vm_go rfl bX14_small_2 oX14_small_2 ⟨fun q => absurd q (nI_ge hi (by omega)), fun _ => ⟨L, g', e1, hbo, i, rfl, by omega, ?_⟩⟩
    refine vm_Th (lv' := [(0, .int (nI x)), (1, .ref b), (2, .int (nI n)), (3, .int (nI (i + 1)))]) (h' := vm_up h3 b (.inl (.int, L, .inl (upd g' i 0)))) (by rw [← nI_1]; rfl) rfl ?_
    refine ih _ ⟨⟨upd g' i 0, vm_upe, fun k hk hk2 => ?_, fun k hk => ?_⟩, fr_trans F3 (fr_up rfl)⟩
    · by_cases e : k = i
      · rw [e]; exact upd_e
      · rw [upd_n e]; exact e2 k hk (by omega)
    · rw [upd_n (by omega)]; exact e3 k (by omega)
theorem rm_zero {L a n : Nat} {f : Nat → Int32} (ha : ia h L a f) (h1 : n ≤ L) (hn : n < 65536) : vm_Met (vm_env l O f9) mX14_isZero 0 0 [.ref a, .int (nI n)] h (fun r h' => (∃ ok : Bool, r = some (.int (bi ok)) ∧ (ok = true ↔ ∀ k, k < n → f k = 0)) ∧ h' = h) := by
  suffices H : ∀ Q : Option Value → vm_H → Prop, (∀ ok : Bool, (ok = true ↔ ∀ k, k < n → f k = 0) → Q (some (.int (bi ok))) h) → vm_Met (vm_env l O f9) mX14_isZero 0 0 [.ref a, .int (nI n)] h Q from H _ (fun ok e => ⟨⟨ok, rfl, e⟩, rfl⟩)
  intro Q hQ
  refine vm_met rfl (Nat.le_of_ble_eq_true rfl) ?_
  refine vm_go rfl bX14_isZero_0 oX14_isZero_0 ?_
  have L0 : ∀ m i, m + i = n → ∀ ok : Bool, (ok = true ↔ ∀ k, k < i → f k = 0) → vm_T (vm_env l O f9) mX14_isZero 0 0 4 [(0, .ref a), (1, .int (nI n)), (2, .int (bi ok)), (3, .int (nI i))] [] h Q := by
    intro m
    induction m with
    | zero =>
      intro i hi ok hok
      refine vm_go rfl bX14_isZero_4 oX14_isZero_4 ⟨fun _ => ?_, fun q => absurd (nI_le (a := n) (b := i) (by omega) (by omega)) q⟩
      exact vm_go rfl bX14_isZero_31 oX14_isZero_31 ⟨bi_if, hQ ok (by rw [← show i = n by omega]; exact hok)⟩
    | succ m ih =>
      intro i hi ok hok
      have st : ∀ ok2 : Bool, (ok2 = true ↔ ∀ k, k < i + 1 → f k = 0) → vm_T (vm_env l O f9) mX14_isZero 0 0 24 [(0, .ref a), (1, .int (nI n)), (2, .int (bi ok)), (3, .int (nI i))] [.int (bi ok2)] h Q := by
        intro ok2 hk2
        refine vm_go rfl bX14_isZero_24 oX14_isZero_24 ?_
        exact vm_Th (lv' := [(0, .ref a), (1, .int (nI n)), (2, .int (bi ok2)), (3, .int (nI (i + 1)))]) (h' := h) (by rw [← nI_1]; rfl) rfl (ih (i + 1) (by omega) ok2 hk2)
      have no : ¬ (∀ k, k < i + 1 → f k = 0) → vm_T (vm_env l O f9) mX14_isZero 0 0 23 [(0, .ref a), (1, .int (nI n)), (2, .int (bi ok)), (3, .int (nI i))] [] h Q := fun q => vm_go rfl bX14_isZero_23 oX14_isZero_23 (st false ⟨(fun y => nomatch y), fun y => absurd y q⟩)
      refine vm_go rfl bX14_isZero_4 oX14_isZero_4 ⟨fun q => absurd q (nI_ge (by omega) (by omega)), fun _ => ⟨fun q => ?_, fun q => ⟨L, f, ha, i, rfl, by omega, fun _ => ⟨fun q2 => no (fun y => q2 (y i (by omega))), fun q2 => st true ⟨fun _ => ?_, fun _ => rfl⟩⟩⟩⟩⟩
      · refine no (fun y => ?_)
        have := hok.mpr (fun k hk => y k (by omega))
        rw [this] at q
        exact absurd q (by decide)
      · have hokt : ok = true := by
          cases ok with
          | true => rfl
          | false => exact absurd rfl q
        intro k hk
        by_cases e : k = i
        · rw [e]; exact q2
        · exact hok.mp hokt k (by omega)
  exact L0 n 0 (by omega) true ⟨fun _ k hk => by omega, fun _ => rfl⟩
end
