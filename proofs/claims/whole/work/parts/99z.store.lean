/-! the reference: store -/
theorem nI_ush {a s : Nat} (h : a < 4294967296) (hs : s < 32) : ((nI a).toUInt32 >>> ((nI s).toUInt32 &&& Int32.toUInt32 31)).toInt32 = nI (a / 2 ^ s) := by
  apply Int32.toBitVec_inj.mp
  apply BitVec.eq_of_toNat_eq
  show (BitVec.ofNat 32 a >>> ((nI s).toUInt32 &&& Int32.toUInt32 31).toBitVec.umod 32).toNat = (BitVec.ofNat 32 (a / 2 ^ s)).toNat
  have e : ∀ s, s < 32 → (((nI s).toUInt32 &&& Int32.toUInt32 31).toBitVec.umod 32).toNat = s := by decide +kernel
  have l : a / 2 ^ s ≤ a := Nat.div_le_self _ _
  rw [BitVec.ushiftRight_eq', BitVec.toNat_ushiftRight, e s hs, BitVec.toNat_ofNat, BitVec.toNat_ofNat, Nat.shiftRight_eq_div_pow, Nat.mod_eq_of_lt (show a < 2 ^ 32 by omega), Nat.mod_eq_of_lt (show a / 2 ^ s < 2 ^ 32 by omega)]
theorem dw_byte (X k : Nat) : dw X (k / 4) / 2 ^ (8 * (k % 4)) % 256 = X / 256 ^ k % 256 := by
  have e1 : 256 ^ k = 4294967296 ^ (k / 4) * 2 ^ (8 * (k % 4)) := by
    rw [show 256 = 2 ^ 8 from rfl, show 4294967296 = 2 ^ 32 from rfl, ← Nat.pow_mul, ← Nat.pow_mul, ← Nat.pow_add]
    congr 1; omega
  unfold dw
  rw [e1, ← Nat.div_div_eq_div_mul]
  generalize X / 4294967296 ^ (k / 4) = z
  rcases (show k % 4 = 0 ∨ k % 4 = 1 ∨ k % 4 = 2 ∨ k % 4 = 3 by omega) with e | e | e | e <;> rw [e] <;> omega
section
variable {l : Launch} {O : Nat → vm_Ob} {f9 : Value} {h : vm_H}
theorem rm_store {L a n X nt b at9 size : Nat} {c : Nat → Nat} (ha : wv h L a n X) (h1 : n ≤ L) (hb : bv h nt b c) (hbo : b < 1099511627776) (hs : size ≤ 4 * n) (hn : n < 10000) (hat : at9 + size ≤ nt) (hnt : nt < 65536) : vm_Met (vm_env l O f9) mX14_store 0 0 [.ref a, .ref b, .int (nI at9), .int (nI size)] h (fun r h' => r = none ∧ (∃ c', bv h' nt b c' ∧ sl c' at9 size = wb X size ∧ ∀ j, j < at9 ∨ at9 + size ≤ j → c' j = c j) ∧ fr h h' (fun q => q = b)) := by
  obtain ⟨f, ef, vf⟩ := ha
  have hab : a ≠ b := fun z => by
    obtain ⟨fb, eb, _⟩ := hb
    have ef : h.2 a = _ := ef
    rw [z, eb] at ef
    cases ef
  refine vm_met rfl (Nat.le_of_ble_eq_true rfl) ?_
  refine vm_go rfl bX14_store_0 oX14_store_0 ?_
  refine vm_Th (lv' := [(0, .ref a), (1, .ref b), (2, .int (nI at9)), (3, .int (nI size)), (4, .int (nI 0))]) (h' := h) rfl rfl ?_
  refine vm_loop (fun i h' => (∃ c', bv h' nt b c' ∧ (∀ k, k < i → c' (at9 + size - 1 - k) = X / 256 ^ k % 256) ∧ ∀ j, j < at9 + size - i ∨ at9 + size ≤ j → c' j = c j) ∧ fr h h' (fun q => q = b)) size (fun i => [(0, .ref a), (1, .ref b), (2, .int (nI at9)), (3, .int (nI size)), (4, .int (nI i))]) 0 h (Nat.zero_le _) ⟨⟨c, hb, fun k hk => by omega, fun j _ => rfl⟩, fr_refl⟩ ?_ ?_
  · rintro h4 ⟨⟨c', e1, e2, e3⟩, F4⟩
    refine vm_go rfl bX14_store_3 oX14_store_3 ⟨fun _ => ?_, fun q => absurd (nI_le (a := size) (b := size) (Nat.le_refl _) (by omega)) q⟩
    refine vm_go rfl bX14_store_40 oX14_store_40 ⟨rfl, ⟨c', e1, ?_, fun j hj => e3 j (by omega)⟩, F4⟩
    unfold wb
    refine sl_ext (fun j hj => ?_)
    rw [Nat.zero_add, ← e2 (size - 1 - j) (by omega), show at9 + size - 1 - (size - 1 - j) = at9 + j by omega]
  · rintro i h4 _ hi ⟨⟨c', e1, e2, e3⟩, F4⟩ ih
    obtain ⟨fb, eb, vb⟩ := e1
    have ef4 : h4.2 a = _ := (F4.2 a hab).trans ef
    have x1 := dw_lt X (i / 4)
    have ed : nI i / 4 = nI (i / 4) := nI_div (b := 4) (by omega) (by decide)
    have er : nI i - nI i / 4 * 4 = nI (i % 4) := nI_rem (b := 4) (by omega) (by decide)
    have ix : nI at9 + nI size - 1 - nI i = nI (at9 + size - 1 - i) := by
      rw [nI_add, show nI (at9 + size) - 1 = nI (at9 + size - 1) from nI_sub (b := 1) (by omega), nI_sub (by omega)]
    refine vm_go rfl bX14_store_3 oX14_store_3 ⟨fun q => absurd q (nI_ge hi (by omega)), fun _ => ⟨by decide, ⟨L, f, ef4, i / 4, ed, by omega, fun _ => ⟨by decide, ⟨nt, fb, eb, hbo, at9 + size - 1 - i, ix, by omega, ?_⟩⟩⟩⟩⟩
    have ev : (((f (i / 4)).toUInt32 >>> ((8 * (nI i - nI i / 4 * 4)).toUInt32 &&& Int32.toUInt32 31)).toInt32.toInt8.toInt32).toInt8.toInt32 = sb (X / 256 ^ i % 256) := by
      rw [vf (i / 4) (by omega), er, show (8 : Int32) * nI (i % 4) = nI (8 * (i % 4)) from nI_mul 8 _, nI_ush x1 (by omega), sb_nI, dw_byte]
      exact sb_self _ (Nat.mod_lt _ (by decide))
    refine vm_Th (lv' := [(0, .ref a), (1, .ref b), (2, .int (nI at9)), (3, .int (nI size)), (4, .int (nI (i + 1)))]) (h' := vm_up h4 b (.inl (.byte, nt, .inl (upd fb (at9 + size - 1 - i) (sb (X / 256 ^ i % 256)))))) (by rw [← nI_1]; rfl) (by rw [← ev]; rfl) ?_
    refine ih _ ⟨⟨b1 c' (at9 + size - 1 - i) (X / 256 ^ i % 256), ⟨_, vm_upe, fun j hj => ?_⟩, fun k hk => ?_, fun j hj => ?_⟩, fr_trans F4 (fr_up rfl)⟩
    · unfold b1 upd
      by_cases e : j = at9 + size - 1 - i
      · rw [if_pos e, if_pos e]
        exact ⟨rfl, Nat.mod_lt _ (by decide)⟩
      · rw [if_neg e, if_neg e]; exact vb j hj
    · unfold b1
      by_cases e : k = i
      · rw [e, if_pos rfl]
      · rw [if_neg (by omega)]; exact e2 k (by omega)
    · unfold b1
      rw [if_neg (by omega)]
      exact e3 j (by omega)
end
