/-! Modulus.read, write, digitAt, halve -/
/-- array a holds bytes -/
def bv (h : vm_H) (n a : Nat) (b : Nat → Nat) : Prop := ∃ f : Nat → Int32, h.2 a = .inl (.byte, n, .inl f) ∧ ∀ j, j < n → f j = sb (b j) ∧ b j < 256
theorem p28 (m : Nat) : 268435456 ^ m = 2 ^ (28 * m) := by
  rw [show 268435456 = 2 ^ 28 from rfl, ← Nat.pow_mul]
theorem p8 (m : Nat) : 256 ^ m = 2 ^ (8 * m) := by
  rw [show 256 = 2 ^ 8 from rfl, ← Nat.pow_mul]
/-- what is held after t bytes -/
theorem rd_held (x t : Nat) : x % 256 ^ t / 268435456 ^ (8 * t / 28) < 2 ^ (8 * t % 28) := by
  apply (Nat.div_lt_iff_lt_mul (Nat.pow_pos (by decide))).mpr
  rw [p28, ← Nat.pow_add]
  have := Nat.mod_lt x (show 0 < 256 ^ t from Nat.pow_pos (by decide))
  rw [p8] at this
  rwa [p8, show 8 * t % 28 + 28 * (8 * t / 28) = 8 * t by omega]
theorem rd_more (x t : Nat) : x % 256 ^ t / 268435456 ^ (8 * t / 28) + x / 256 ^ t % 256 * 2 ^ (8 * t % 28) = x % 256 ^ (t + 1) / 268435456 ^ (8 * t / 28) := by
  rw [Nat.pow_succ, Nat.mod_mul]
  have e : 256 ^ t = 268435456 ^ (8 * t / 28) * 2 ^ (8 * t % 28) := by
    rw [p28, p8, ← Nat.pow_add, show 28 * (8 * t / 28) + 8 * t % 28 = 8 * t by omega]
  have e2 : x % 256 ^ t + 256 ^ t * (x / 256 ^ t % 256) = x % 256 ^ t + 268435456 ^ (8 * t / 28) * (x / 256 ^ t % 256 * 2 ^ (8 * t % 28)) := by
    generalize x / 256 ^ t % 256 = d
    generalize x % 256 ^ t = y
    rw [e]; grind
  rw [e2, Nat.add_mul_div_left _ _ (Nat.pow_pos (by decide))]
/-- a limb that is full -/
theorem rd_full (x t m : Nat) (h : 28 * m + 28 ≤ 8 * t) : x % 256 ^ t / 268435456 ^ m % 268435456 = dg x m := by
  obtain ⟨d, hd⟩ : ∃ d, 8 * t = 28 * m + 28 + d := ⟨8 * t - (28 * m + 28), by omega⟩
  have e : 256 ^ t = 268435456 ^ m * (268435456 * 2 ^ d) := by
    rw [p28, p8, show 268435456 = 2 ^ 28 from rfl, ← Nat.pow_add, ← Nat.pow_add, hd]
    congr 1; omega
  unfold dg
  rw [e, Nat.mod_mul_right_div_self, Nat.mod_mul_right_mod]
section
variable {l : Launch} {O : Nat → vm_Ob} {f9 : Value}
theorem s_read {h : vm_H} {a n at9 size c L : Nat} {b : Nat → Nat} (hb : bv h n a b) (hc : la h L c) (hn : at9 + size ≤ n) (hn2 : n < 65536) (hL : L < 65536) (hco : c < 1099511627776) :
    vm_Met (vm_env l O f9) mX6_read 0 0 [.ref a, .int (nI at9), .int (nI size), .ref c] h (fun r h' => r = none ∧ nv h' L c (bn b at9 size) ∧ fr h h' (fun q => q = c)) := by
  obtain ⟨f, ha, hf⟩ := hb
  obtain ⟨fc, hc⟩ := hc
  have hac : a ≠ c := fun e => by rw [e, hc] at ha; cases ha
  generalize hx : bn b at9 size = x
  have hxl : x < 256 ^ size := by rw [← hx]; exact bn_lt size (fun j _ q => (hf j (by omega)).2)
  have hxd : ∀ t, t < size → x / 256 ^ t % 256 = b (at9 + size - 1 - t) := by
    intro t ht; rw [← hx]; exact bn_dig size t (fun j _ q => (hf j (by omega)).2) ht
  refine vm_met rfl (Nat.le_of_ble_eq_true rfl) ?_
  refine vm_go rfl bX6_read_0 oX6_read_0 ⟨0, 0, _, s_fillL hc hco (by omega), Nat.le_refl _, Nat.le_refl _, ?_⟩
  rintro r h' ⟨rfl, rfl⟩
  generalize hZ : cutf (fun _ => (0 : Int64)) fc L = Z
  have hZ0 : ∀ j, j < L → Z j = lZ 0 := by intro j hj; rw [← hZ, cutf_lo hj]; rfl
  refine vm_Th (lv' := [(0, .ref a), (1, .int (nI at9)), (2, .int (nI size)), (3, .ref c), (4, .long (lZ (x % 256 ^ 0 / 268435456 ^ (8 * 0 / 28) : Nat))), (6, .int (nI (8 * 0 % 28))), (7, .int (nI (8 * 0 / 28))), (8, .int (nI (at9 + size - 0) - 1))]) (h' := vm_up h c (.inl (.long, L, .inr (.inl (cutf (fun q => lZ (dg x q)) Z (8 * 0 / 28)))))) ?_ ?_ ?_
  · rw [Nat.pow_zero, Nat.mod_one, Nat.zero_div, Nat.sub_zero, ← nI_add]; rfl
  · show vm_up h c (.inl (.long, L, .inr (.inl (cutf (fun q => lZ (dg x q)) Z 0)))) = _
    rw [cutf_0]
  refine vm_while (σ := Nat) (fun t => t ≤ size ∧ 8 * t / 28 ≤ L) (fun t => size - t) (fun t => [(0, .ref a), (1, .int (nI at9)), (2, .int (nI size)), (3, .ref c), (4, .long (lZ (x % 256 ^ t / 268435456 ^ (8 * t / 28) : Nat))), (6, .int (nI (8 * t % 28))), (7, .int (nI (8 * t / 28))), (8, .int (nI (at9 + size - t) - 1))]) (fun t => vm_up h c (.inl (.long, L, .inr (.inl (cutf (fun q => lZ (dg x q)) Z (8 * t / 28)))))) ?_ 0 ⟨Nat.zero_le _, Nat.zero_le _⟩
  intro t ⟨ht, htL⟩ ih
  have hq : (vm_up h c (.inl (.long, L, .inr (.inl (cutf (fun q => lZ (dg x q)) Z (8 * t / 28)))))).2 a = .inl (.byte, n, .inl f) := (vm_upn hac).trans ha
  have hend : 8 * t / 28 < L → t = size → vm_T (vm_env l O f9) mX6_read 0 0 90 [(0, .ref a), (1, .int (nI at9)), (2, .int (nI size)), (3, .ref c), (4, .long (lZ (x % 256 ^ t / 268435456 ^ (8 * t / 28) : Nat))), (6, .int (nI (8 * t % 28))), (7, .int (nI (8 * t / 28))), (8, .int (nI (at9 + size - t) - 1))] [] (vm_up h c (.inl (.long, L, .inr (.inl (cutf (fun q => lZ (dg x q)) Z (8 * t / 28)))))) (fun r h' => r = none ∧ nv h' L c x ∧ fr h h' (fun q => q = c)) := by
    intro hlt hts
    refine vm_go rfl bX6_read_90 oX6_read_90 ⟨_, _, vm_upe, by decide, ⟨fun q => absurd q (nI_ge hlt (by omega)), fun _ => ?_⟩⟩
    refine ⟨L, _, vm_upe, hco, 8 * t / 28, rfl, hlt, ?_⟩
    refine vm_go rfl bX6_read_103 oX6_read_103 ⟨rfl, ?_, fr_trans (fr_up rfl) (fr_up rfl)⟩
    refine ⟨_, vm_upe, fun j hj => ?_⟩
    unfold vp_updL
    by_cases j1 : j = 8 * t / 28
    · rw [if_pos j1, j1]
      refine congrArg (fun q : Nat => lZ q) ?_
      have := rd_held x t
      unfold dg
      rw [hts] at *
      rw [Nat.mod_eq_of_lt hxl] at this ⊢
      have h2 : 2 ^ (8 * size % 28) ≤ 2 ^ 28 := Nat.pow_le_pow_right (by decide) (by omega)
      exact (Nat.mod_eq_of_lt (Nat.lt_of_lt_of_le this h2)).symm
    · rw [if_neg j1]
      by_cases j2 : j < 8 * t / 28
      · rw [cutf_lo j2]
      · rw [cutf_hi (by omega), hZ0 j hj]
        have h3 : x < 268435456 ^ j := by
          refine Nat.lt_of_lt_of_le hxl ?_
          rw [p8, p28]
          exact Nat.pow_le_pow_right (by decide) (by omega)
        rw [dg_big h3 (Nat.le_refl _)]
        rfl
  have hend2 : ¬ 8 * t / 28 < L → vm_T (vm_env l O f9) mX6_read 0 0 90 [(0, .ref a), (1, .int (nI at9)), (2, .int (nI size)), (3, .ref c), (4, .long (lZ (x % 256 ^ t / 268435456 ^ (8 * t / 28) : Nat))), (6, .int (nI (8 * t % 28))), (7, .int (nI (8 * t / 28))), (8, .int (nI (at9 + size - t) - 1))] [] (vm_up h c (.inl (.long, L, .inr (.inl (cutf (fun q => lZ (dg x q)) Z (8 * t / 28)))))) (fun r h' => r = none ∧ nv h' L c x ∧ fr h h' (fun q => q = c)) := by
    intro hlt
    refine vm_go rfl bX6_read_90 oX6_read_90 ⟨_, _, vm_upe, by decide, ⟨fun _ => ?_, fun q => absurd (nI_le (by omega) (by omega)) q⟩⟩
    refine vm_go rfl bX6_read_103 oX6_read_103 ⟨rfl, ?_, fr_up rfl⟩
    exact ⟨_, vm_upe, fun j hj => cutf_lo (by omega)⟩
  have hi : ∀ k, t = size - k → k ≤ size → nI (at9 + size - t) - 1 = nI (at9 + k) - 1 := by
    intro k e1 e2; rw [show at9 + size - t = at9 + k by omega]
  rcases Nat.lt_or_ge t size with h1 | h1
  · have ei : nI (at9 + size - t) - 1 = nI (at9 + (size - 1 - t)) := by
      rw [show at9 + size - t = at9 + (size - 1 - t) + 1 by omega]; exact nI_pred _
    refine vm_go rfl bX6_read_21 oX6_read_21 ⟨fun q => absurd q (by rw [ei]; exact nI_nlt (by omega) (by omega)), fun _ => ?_⟩
    refine ⟨_, _, vm_upe, by decide, ⟨fun q => hend2 (fun z => nI_ge z (by omega) q), fun q => ?_⟩⟩
    have hlt : 8 * t / 28 < L := by
      rcases Nat.lt_or_ge (8 * t / 28) L with z | z
      · exact z
      · exact absurd (nI_le z (by omega)) q
    refine ⟨n, f, hq, at9 + (size - 1 - t), ei, by omega, fun _ => ?_⟩
    have hbb := hf (at9 + (size - 1 - t)) (by omega)
    rw [hbb.1]
    have hh := rd_held x t
    have hm := rd_more x t
    have hd := hxd t h1
    rw [show at9 + size - 1 - t = at9 + (size - 1 - t) by omega] at hd
    have hb2 : 2 ^ (8 * t % 28) ≤ 2 ^ 28 := Nat.pow_le_pow_right (by decide) (by omega)
    have hb3 : x / 256 ^ t % 256 * 2 ^ (8 * t % 28) ≤ 255 * 2 ^ 28 := Nat.mul_le_mul (by have := Nat.mod_lt (x / 256 ^ t) (show 0 < 256 by decide); omega) hb2
    have eh : lZ (x % 256 ^ t / 268435456 ^ (8 * t / 28) : Nat) ||| ((sb (b (at9 + (size - 1 - t)))).toInt64 &&& 255) <<< ((nI (8 * t % 28)).toInt64 &&& 63) = lZ (x % 256 ^ (t + 1) / 268435456 ^ (8 * t / 28) : Nat) := by
      rw [sb_long _ hbb.2, lZ_sh _ _ (by omega), lZ_or hh (by rw [← hd]; omega), ← hd, hm]
    have hlim : x % 256 ^ (t + 1) / 268435456 ^ (8 * t / 28) < 256 * 2 ^ 28 := by rw [← hm]; omega
    have ei2 : nI (at9 + size - t) - 1 + (-1) = nI (at9 + size - (t + 1)) - 1 := by
      rw [ei, i32_m1]
      congr 2
      omega
    refine ⟨fun q => ?_, fun q => ?_⟩
    · have q : nI (8 * t % 28) + 8 < 28 := q
      rw [show (8 : Int32) = nI 8 from rfl, show (28 : Int32) = nI 28 from rfl, nI_add, nI_ltI (by omega) (by decide)] at q
      refine vm_go rfl bX6_read_84 oX6_read_84 ?_
      rw [eh]
      refine vm_Th ?_ ?_ (ih (t + 1) ⟨by omega, by omega⟩ (by omega))
      · show _ = [(0, Value.ref a), (1, .int (nI at9)), (2, .int (nI size)), (3, .ref c), (4, .long (lZ (x % 256 ^ (t + 1) / 268435456 ^ (8 * t / 28) : Nat))), (6, .int (nI (8 * t % 28) + 8)), (7, .int (nI (8 * t / 28))), (8, .int (nI (at9 + size - t) - 1 + (-1)))]
        rw [ei2, show (8 : Int32) = nI 8 from rfl, nI_add, show 8 * (t + 1) / 28 = 8 * t / 28 by omega, show 8 * (t + 1) % 28 = 8 * t % 28 + 8 by omega]
      · rw [show 8 * (t + 1) / 28 = 8 * t / 28 by omega]
    · have q : ¬ nI (8 * t % 28) + 8 < 28 := q
      rw [show (8 : Int32) = nI 8 from rfl, show (28 : Int32) = nI 28 from rfl, nI_add, nI_ltI (by omega) (by decide)] at q
      refine ⟨L, _, vm_upe, hco, 8 * t / 28, rfl, hlt, ?_⟩
      refine vm_go rfl bX6_read_84 oX6_read_84 ?_
      rw [eh]
      refine vm_Th ?_ ?_ (ih (t + 1) ⟨by omega, by omega⟩ (by omega))
      · show _ = [(0, Value.ref a), (1, .int (nI at9)), (2, .int (nI size)), (3, .ref c), (4, .long (((lZ (x % 256 ^ (t + 1) / 268435456 ^ (8 * t / 28) : Nat)).toUInt64 >>> ((28 : Int32).toInt64.toUInt64 &&& (63 : Int64).toUInt64)).toInt64)), (6, .int (nI (8 * t % 28) + 8 + (-28))), (7, .int (nI (8 * t / 28) + 1)), (8, .int (nI (at9 + size - t) - 1 + (-1)))]
        rw [ei2, show (8 : Int32) = nI 8 from rfl, nI_add, nI_1, show 8 * (t + 1) / 28 = 8 * t / 28 + 1 by omega, show 8 * (t + 1) % 28 = 8 * t % 28 - 20 by omega, lZ_u28 (Int.natCast_nonneg _) (by omega), iZ_nI (8 * t % 28 + 8), show (-28 : Int32) = iZ (-28) from rfl, iZ_add, iZ_nI (8 * t % 28 - 20), Nat.pow_succ 268435456, ← Nat.div_div_eq_div_mul]
        generalize x % 256 ^ (t + 1) / 268435456 ^ (8 * t / 28) = H
        rw [show ((H / 268435456 : Nat) : Int) = (H : Int) / 268435456 by omega, show ((8 * t % 28 - 20 : Nat) : Int) = ((8 * t % 28 + 8 : Nat) : Int) + -28 by omega]
      · rw [vm_upup, cutf_sL, show 8 * (t + 1) / 28 = 8 * t / 28 + 1 by omega]
        rw [lZ_m28, ← rd_full x (t + 1) (8 * t / 28) (by omega)]
        generalize x % 256 ^ (t + 1) / 268435456 ^ (8 * t / 28) = H
        refine congrArg lZ ?_
        omega
  · refine vm_go rfl bX6_read_21 oX6_read_21 ⟨fun _ => ?_, fun q => absurd ?_ q⟩
    · by_cases z : 8 * t / 28 < L
      · exact hend z (by omega)
      · exact hend2 z
    · rw [show at9 + size - t = at9 by omega]
      exact nI_m1 (by omega)
end
