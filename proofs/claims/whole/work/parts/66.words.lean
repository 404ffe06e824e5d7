/-! SHA: the words of a block -/
def bw3 (b : Nat → Nat) (p : Nat) : Nat → Int64
  | 0 => 0
  | k + 1 => bw3 b p k <<< ((8 : Int32).toInt64 &&& 63) ||| (nI (b (p + k))).toInt64
def m3 (b : Nat → Nat) (i : Nat) : Int64 := bw3 b (8 * i) 8
def m2 (b : Nat → Nat) (i : Nat) : Int32 := nI (bn b (4 * i) 4)
theorem wt3_lo {m : Nat → Int64} {n : Nat} (h : n < 16) : wt3 m n = m n := by rw [wt3, if_pos h]
theorem wt3_hi {m : Nat → Int64} {n : Nat} (h : 16 ≤ n) : wt3 m n = wt3 m (n - 16) + wt3 m (n - 7) + (ro (wt3 m (n - 15)) 1 63 ^^^ ro (wt3 m (n - 15)) 8 56 ^^^ su (wt3 m (n - 15)) 7) + (ro (wt3 m (n - 2)) 19 45 ^^^ ro (wt3 m (n - 2)) 61 3 ^^^ su (wt3 m (n - 2)) 6) := by
  rw [wt3, if_neg (by omega)]
theorem wt2_lo {m : Nat → Int32} {n : Nat} (h : n < 16) : wt2 m n = m n := by rw [wt2, if_pos h]
theorem wt2_hi {m : Nat → Int32} {n : Nat} (h : 16 ≤ n) : wt2 m n = wt2 m (n - 16) + wt2 m (n - 7) + (ro2 (wt2 m (n - 15)) 7 25 ^^^ ro2 (wt2 m (n - 15)) 18 14 ^^^ su2 (wt2 m (n - 15)) 3) + (ro2 (wt2 m (n - 2)) 17 15 ^^^ ro2 (wt2 m (n - 2)) 19 13 ^^^ su2 (wt2 m (n - 2)) 10) := by
  rw [wt2, if_neg (by omega)]
theorem nI_or {a b k : Nat} (ha : a < 2 ^ k) (hb : a + b * 2 ^ k < 2 ^ 32) : nI a ||| nI (b * 2 ^ k) = nI (a + b * 2 ^ k) := by
  apply Int32.toBitVec_inj.mp
  show BitVec.ofNat 32 a ||| BitVec.ofNat 32 (b * 2 ^ k) = BitVec.ofNat 32 (a + b * 2 ^ k)
  apply BitVec.eq_of_toNat_eq
  rw [BitVec.toNat_or, BitVec.toNat_ofNat, BitVec.toNat_ofNat, BitVec.toNat_ofNat, Nat.mod_eq_of_lt (by omega), Nat.mod_eq_of_lt (by omega), Nat.mod_eq_of_lt hb, Nat.or_comm, ← Nat.shiftLeft_eq, ← Nat.shiftLeft_add_eq_or_of_lt ha b, Nat.add_comm]
theorem nI_shl {a k : Nat} {x : Int32} (hx : (x.toBitVec.smod 32).toNat = k) : nI a <<< x = nI (a * 2 ^ k) := by
  apply Int32.toBitVec_inj.mp
  show (BitVec.ofNat 32 a) <<< (x.toBitVec.smod 32) = BitVec.ofNat 32 (a * 2 ^ k)
  apply BitVec.eq_of_toNat_eq
  rw [BitVec.shiftLeft_eq', hx, BitVec.toNat_shiftLeft, BitVec.toNat_ofNat, BitVec.toNat_ofNat, Nat.shiftLeft_eq, Nat.mod_mul_mod]
theorem m2_e {b : Nat → Nat} {p : Nat} (h : ∀ j, j < 4 → b (p + j) < 256) : (((nI (b p) <<< ((24 : Int32) &&& 31)) ||| (nI (b (p + 1)) <<< ((16 : Int32) &&& 31))) ||| (nI (b (p + 2)) <<< ((8 : Int32) &&& 31))) ||| nI (b (p + 3)) = nI (bn b p 4) := by
  have h0 := h 0 (by decide)
  have h1 := h 1 (by decide)
  have h2 := h 2 (by decide)
  have h3 := h 3 (by decide)
  rw [Nat.add_zero] at h0
  rw [nI_shl (k := 24) (by decide), nI_shl (k := 16) (by decide), nI_shl (k := 8) (by decide)]
  have e : bn b p 4 = b (p + 3) + (b (p + 2) + (b (p + 1) + b p * 2 ^ 8) * 2 ^ 8) * 2 ^ 8 := by
    show (((0 * 256 + b (p + 0)) * 256 + b (p + 1)) * 256 + b (p + 2)) * 256 + b (p + 3) = _
    rw [Nat.add_zero]
    omega
  rw [e, ← nI_or h3 (by omega), Int32.or_comm (nI (b (p + 3)))]
  congr 1
  have e2 : (b (p + 2) + (b (p + 1) + b p * 2 ^ 8) * 2 ^ 8) * 2 ^ 8 = b (p + 2) * 2 ^ 8 + (b (p + 1) + b p * 2 ^ 8) * 2 ^ 16 := by omega
  rw [e2, ← nI_or (by omega) (by omega), Int32.or_comm (nI (b (p + 2) * 2 ^ 8))]
  congr 1
  have e3 : (b (p + 1) + b p * 2 ^ 8) * 2 ^ 16 = b (p + 1) * 2 ^ 16 + b p * 2 ^ 24 := by rw [Nat.add_mul, Nat.mul_assoc, ← Nat.pow_add]
  rw [e3, ← nI_or (by omega) (by omega), Int32.or_comm]
section
variable {l : Launch} {O : Nat → vm_Ob} {f9 : Value}
theorem s_spr3 {h : vm_H} {H W Bk : Nat} {o0 o1 o2 : Value} {w : Nat → Int64} {b : Nat → Nat} (hH : h.2 H = .inr (4, [o0, o1, o2, .ref W, .ref Bk])) (hW : h.2 W = .inl (.long, 80, .inr (.inl w))) (hB : bv h 128 Bk b) (hWo : W < 1099511627776) :
    vm_Met (vm_env l O f9) mX4_spreadWords3 0 0 [.ref H] h (fun r h' => r = none ∧ h' = vm_up h W (.inl (.long, 80, .inr (.inl (cutf (wt3 (m3 b)) w 80))))) := by
  obtain ⟨fb, hB, vB⟩ := hB
  have hHW : H ≠ W := fun e => by rw [e, hW] at hH; cases hH
  have hBW : Bk ≠ W := fun e => by rw [e, hW] at hB; cases hB
  refine vm_met rfl (Nat.le_of_ble_eq_true rfl) ?_
  refine vm_go rfl bX4_spreadWords3_0 oX4_spreadWords3_0 ⟨_, _, hH, rfl, ?_⟩
  refine vm_Th (lv' := [(0, .ref H), (1, .ref W), (2, .int (nI 0))]) (h' := vm_up h W (.inl (.long, 80, .inr (.inl (cutf (wt3 (m3 b)) w 0))))) rfl (by rw [cutf_0, vm_ups hW]) ?_
  refine vm_for 16 (fun i => [(0, .ref H), (1, .ref W), (2, .int (nI i))]) (fun i => vm_up h W (.inl (.long, 80, .inr (.inl (cutf (wt3 (m3 b)) w i))))) 0 (by decide) ?_ ?_
  rotate_left
  · intro i _ hi ih
    refine vm_go rfl bX4_spreadWords3_7 oX4_spreadWords3_7 ⟨fun q => absurd q (nI_ge (b := 16) hi (by decide)), fun _ => ?_⟩
    refine vm_Th (lv' := [(0, .ref H), (1, .ref W), (2, .int (nI i)), (3, .long (bw3 b (8 * i) 0)), (5, .int (nI 0))]) (h' := vm_up h W (.inl (.long, 80, .inr (.inl (cutf (wt3 (m3 b)) w i))))) rfl rfl ?_
    refine vm_for 8 (fun k => [(0, .ref H), (1, .ref W), (2, .int (nI i)), (3, .long (bw3 b (8 * i) k)), (5, .int (nI k))]) (fun _ => vm_up h W (.inl (.long, 80, .inr (.inl (cutf (wt3 (m3 b)) w i))))) 0 (by decide) ?_ ?_
    · refine vm_go rfl bX4_spreadWords3_18 oX4_spreadWords3_18 ⟨fun _ => ?_, fun q => absurd (nI_le (a := 8) (b := 8) (by decide) (by decide)) q⟩
      refine vm_go rfl bX4_spreadWords3_54 oX4_spreadWords3_54 ⟨80, _, vm_upe, hWo, i, rfl, by omega, ?_⟩
      refine vm_less [0, 1, 2] rfl ?_
      refine vm_Th (by rw [← nI_1]; rfl) ?_ ih
      rw [vm_upup, cutf_sL]
      rw [wt3_lo hi]; rfl
    · intro k _ hk ih2
      have ei : (8 : Int32) * nI i + nI k = nI (8 * i + k) := by rw [show (8 : Int32) * nI i = nI (8 * i) from nI_mul 8 i, nI_add]
      have a1 := vB (8 * i + k) (by omega)
      refine vm_go rfl bX4_spreadWords3_18 oX4_spreadWords3_18 ⟨fun q => absurd q (nI_ge (b := 8) hk (by decide)), fun _ => ⟨_, _, (vm_upn hHW).trans hH, rfl, ⟨128, fb, (vm_upn hBW).trans hB, 8 * i + k, ei, by omega, fun _ => ?_⟩⟩⟩
      rw [a1.1]
      refine vm_Th ?_ rfl ih2
      show _ = [(0, Value.ref H), (1, .ref W), (2, .int (nI i)), (3, .long (bw3 b (8 * i) k <<< ((8 : Int32).toInt64 &&& 63) ||| (sb (b (8 * i + k)) &&& 255).toInt64)), (5, .int (nI k + 1))]
      rw [sb_and _ a1.2, nI_1]
      rfl
  refine vm_go rfl bX4_spreadWords3_7 oX4_spreadWords3_7 ⟨fun _ => ?_, fun q => absurd (nI_le (a := 16) (b := 16) (by decide) (by decide)) q⟩
  refine vm_go rfl bX4_spreadWords3_64 oX4_spreadWords3_64 ?_
  refine vm_Th (lv' := [(0, .ref H), (1, .ref W), (2, .int (nI 16))]) (h' := vm_up h W (.inl (.long, 80, .inr (.inl (cutf (wt3 (m3 b)) w 16))))) rfl rfl ?_
  refine vm_for 80 (fun i => [(0, .ref H), (1, .ref W), (2, .int (nI i))]) (fun i => vm_up h W (.inl (.long, 80, .inr (.inl (cutf (wt3 (m3 b)) w i))))) 16 (by decide) ?_ ?_
  · refine vm_go rfl bX4_spreadWords3_67 oX4_spreadWords3_67 ⟨fun _ => ?_, fun q => absurd (nI_le (a := 80) (b := 80) (by decide) (by decide)) q⟩
    exact vm_go rfl bX4_spreadWords3_162 oX4_spreadWords3_162 ⟨rfl, rfl⟩
  · intro i h16 hi ih
    have e15 : nI i - 15 = nI (i - 15) := nI_sub (b := 15) (by omega)
    have e2 : nI i - 2 = nI (i - 2) := nI_sub (b := 2) (by omega)
    have e16 : nI i - 16 = nI (i - 16) := nI_sub (b := 16) (by omega)
    have e7 : nI i - 7 = nI (i - 7) := nI_sub (b := 7) (by omega)
    refine vm_go rfl bX4_spreadWords3_67 oX4_spreadWords3_67 ⟨fun q => absurd q (nI_ge (b := 80) hi (by decide)), fun _ => ⟨80, _, vm_upe, i - 15, e15, by omega, ⟨80, _, vm_upe, i - 2, e2, by omega, ⟨80, _, vm_upe, i - 16, e16, by omega, ⟨80, _, vm_upe, i - 7, e7, by omega, ⟨80, _, vm_upe, hWo, i, rfl, hi, ?_⟩⟩⟩⟩⟩⟩
    rw [cutf_lo (show i - 15 < i by omega), cutf_lo (show i - 2 < i by omega), cutf_lo (show i - 16 < i by omega), cutf_lo (show i - 7 < i by omega)]
    refine vm_less [0, 1, 2] rfl ?_
    refine vm_Th (by rw [← nI_1]; rfl) ?_ ih
    rw [vm_upup, cutf_sL]
    rw [wt3_hi h16]; rfl
theorem s_spr2 {h : vm_H} {H W Bk : Nat} {o0 o1 o2 : Value} {w : Nat → Int32} {b : Nat → Nat} (hH : h.2 H = .inr (4, [o0, .ref W, o1, o2, .ref Bk])) (hW : h.2 W = .inl (.int, 64, .inl w)) (hB : bv h 128 Bk b) (hWo : W < 1099511627776) :
    vm_Met (vm_env l O f9) mX4_spreadWords2 0 0 [.ref H] h (fun r h' => r = none ∧ h' = vm_up h W (.inl (.int, 64, .inl (cutf (wt2 (m2 b)) w 64)))) := by
  obtain ⟨fb, hB, vB⟩ := hB
  have hHW : H ≠ W := fun e => by rw [e, hW] at hH; cases hH
  have hBW : Bk ≠ W := fun e => by rw [e, hW] at hB; cases hB
  refine vm_met rfl (Nat.le_of_ble_eq_true rfl) ?_
  refine vm_go rfl bX4_spreadWords2_0 oX4_spreadWords2_0 ⟨_, _, hH, rfl, ?_⟩
  refine vm_Th (lv' := [(0, .ref H), (1, .ref W), (2, .int (nI 0))]) (h' := vm_up h W (.inl (.int, 64, .inl (cutf (wt2 (m2 b)) w 0)))) rfl (by rw [cutf_0, vm_ups hW]) ?_
  refine vm_for 16 (fun i => [(0, .ref H), (1, .ref W), (2, .int (nI i))]) (fun i => vm_up h W (.inl (.int, 64, .inl (cutf (wt2 (m2 b)) w i)))) 0 (by decide) ?_ ?_
  rotate_left
  · intro i _ hi ih
    have ei : (4 : Int32) * nI i = nI (4 * i) := nI_mul 4 i
    have ei1 : (4 : Int32) * nI i + 1 = nI (4 * i + 1) := by rw [ei]; exact nI_1 _
    have ei2 : (4 : Int32) * nI i + 2 = nI (4 * i + 2) := by rw [ei]; exact nI_add _ 2
    have ei3 : (4 : Int32) * nI i + 3 = nI (4 * i + 3) := by rw [ei]; exact nI_add _ 3
    have a0 := vB (4 * i) (by omega)
    have a1 := vB (4 * i + 1) (by omega)
    have a2 := vB (4 * i + 2) (by omega)
    have a3 := vB (4 * i + 3) (by omega)
    have hH' : ∀ F : Nat → Int32, (vm_up h W (.inl (.int, 64, .inl F))).2 H = _ := fun F => (vm_upn hHW).trans hH
    have hB' : ∀ F : Nat → Int32, (vm_up h W (.inl (.int, 64, .inl F))).2 Bk = _ := fun F => (vm_upn hBW).trans hB
    refine vm_go rfl bX4_spreadWords2_7 oX4_spreadWords2_7 ⟨fun q => absurd q (nI_ge (b := 16) hi (by decide)), fun _ => ⟨_, _, hH' _, rfl, ⟨128, fb, hB' _, 4 * i, ei, by omega, fun _ => ⟨_, _, hH' _, rfl, ⟨128, fb, hB' _, 4 * i + 1, ei1, by omega, fun _ => ⟨_, _, hH' _, rfl, ⟨128, fb, hB' _, 4 * i + 2, ei2, by omega, fun _ => ⟨_, _, hH' _, rfl, ⟨128, fb, hB' _, 4 * i + 3, ei3, by omega, fun _ => ⟨64, _, vm_upe, hWo, i, rfl, by omega, ?_⟩⟩⟩⟩⟩⟩⟩⟩⟩⟩
    rw [a0.1, a1.1, a2.1, a3.1]
    have E : ((((sb (b (4 * i)) &&& 255) <<< ((24 : Int32) &&& 31)) ||| ((sb (b (4 * i + 1)) &&& 255) <<< ((16 : Int32) &&& 31))) ||| ((sb (b (4 * i + 2)) &&& 255) <<< ((8 : Int32) &&& 31))) ||| (sb (b (4 * i + 3)) &&& 255) = wt2 (m2 b) i := by
      rw [sb_and _ a0.2, sb_and _ a1.2, sb_and _ a2.2, sb_and _ a3.2, m2_e (fun j hj => (vB _ (by omega)).2), wt2_lo hi]
      rfl
    refine vm_Th (by rw [← nI_1]; rfl) ?_ ih
    rw [vm_upup, ← cutf_sI (g := wt2 (m2 b)) (i := i) E]
  refine vm_go rfl bX4_spreadWords2_7 oX4_spreadWords2_7 ⟨fun _ => ?_, fun q => absurd (nI_le (a := 16) (b := 16) (by decide) (by decide)) q⟩
  refine vm_go rfl bX4_spreadWords2_88 oX4_spreadWords2_88 ?_
  refine vm_Th (lv' := [(0, .ref H), (1, .ref W), (2, .int (nI 16))]) (h' := vm_up h W (.inl (.int, 64, .inl (cutf (wt2 (m2 b)) w 16)))) rfl rfl ?_
  refine vm_for 64 (fun i => [(0, .ref H), (1, .ref W), (2, .int (nI i))]) (fun i => vm_up h W (.inl (.int, 64, .inl (cutf (wt2 (m2 b)) w i)))) 16 (by decide) ?_ ?_
  · refine vm_go rfl bX4_spreadWords2_91 oX4_spreadWords2_91 ⟨fun _ => ?_, fun q => absurd (nI_le (a := 64) (b := 64) (by decide) (by decide)) q⟩
    exact vm_go rfl bX4_spreadWords2_187 oX4_spreadWords2_187 ⟨rfl, rfl⟩
  · intro i h16 hi ih
    have e15 : nI i - 15 = nI (i - 15) := nI_sub (b := 15) (by omega)
    have e2 : nI i - 2 = nI (i - 2) := nI_sub (b := 2) (by omega)
    have e16 : nI i - 16 = nI (i - 16) := nI_sub (b := 16) (by omega)
    have e7 : nI i - 7 = nI (i - 7) := nI_sub (b := 7) (by omega)
    refine vm_go rfl bX4_spreadWords2_91 oX4_spreadWords2_91 ⟨fun q => absurd q (nI_ge (b := 64) hi (by decide)), fun _ => ⟨64, _, vm_upe, i - 15, e15, by omega, fun _ => ⟨64, _, vm_upe, i - 2, e2, by omega, fun _ => ⟨64, _, vm_upe, i - 16, e16, by omega, fun _ => ⟨64, _, vm_upe, i - 7, e7, by omega, fun _ => ⟨64, _, vm_upe, hWo, i, rfl, hi, ?_⟩⟩⟩⟩⟩⟩
    rw [cutf_lo (show i - 15 < i by omega), cutf_lo (show i - 2 < i by omega), cutf_lo (show i - 16 < i by omega), cutf_lo (show i - 7 < i by omega)]
    refine vm_less [0, 1, 2] rfl ?_
    refine vm_Th (by rw [← nI_1]; rfl) ?_ ih
    rw [vm_upup]
    have E := (wt2_hi (m := m2 b) h16).symm
    rw [← cutf_sI (g := wt2 (m2 b)) (i := i) E]; rfl
end
