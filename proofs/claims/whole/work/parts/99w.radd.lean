/-! the reference: add -/
def bX14_addx_0 : List vm_J := [(1, .aload_n 1, 0, 0, 0, .null), (1, .aload_n 2, 0, 0, 0, .null), (1, .aload_n 3, 0, 0, 0, .null), (1, .aload_n 0, 0, 0, 0, .null), (3, .getfield 13, 12, 2, 0, .null), (3, .invokestatic 18, 143, 4, 0, .null), (2, .istore 4, 0, 0, 0, .null)]
set_option maxRecDepth 20000 in
theorem oX14_addx_0 : vm_okB 14 mX14_add 0 bX14_addx_0 = true := by decide +kernel
def bX14_addx_12 : List vm_J := [(2, .iload 4, 0, 0, 0, .null), (3, .ifCond .ne 18, 32, 0, 0, .null), (1, .aload_n 3, 0, 0, 0, .null), (1, .aload_n 0, 0, 0, 0, .null), (3, .getfield 22, 12, 0, 0, .null), (1, .aload_n 0, 0, 0, 0, .null), (3, .getfield 13, 12, 2, 0, .null), (3, .invokestatic 26, 139, 3, 0, .null), (3, .ifCond .lt 18, 47, 0, 0, .null)]
set_option maxRecDepth 20000 in
theorem oX14_addx_12 : vm_okB 14 mX14_add 12 bX14_addx_12 = true := by decide +kernel
def bX14_addx_32 : List vm_J := [(1, .aload_n 3, 0, 0, 0, .null), (1, .aload_n 0, 0, 0, 0, .null), (3, .getfield 22, 12, 0, 0, .null), (1, .aload_n 3, 0, 0, 0, .null), (1, .aload_n 0, 0, 0, 0, .null), (3, .getfield 13, 12, 2, 0, .null), (3, .invokestatic 30, 144, 4, 0, .null), (2, .istore 4, 0, 0, 0, .null)]
set_option maxRecDepth 20000 in
theorem oX14_addx_32 : vm_okB 14 mX14_add 32 bX14_addx_32 = true := by decide +kernel
def bX14_addx_47 : List vm_J := [(1, .return_, 0, 0, 0, .null)]
set_option maxRecDepth 20000 in
theorem oX14_addx_47 : vm_okB 14 mX14_add 47 bX14_addx_47 = true := by decide +kernel
section
variable {l : Launch} {O : Nat → vm_Ob} {f9 : Value} {h : vm_H}
theorem rm_add {M mm hi n N L1 L2 L3 a b c X Y : Nat} {s : Int32} {t : Nat → Int32} (k : MM h M mm hi n N s) (ha : wv h L1 a n X) (hb : wv h L2 b n Y) (hc : ia h L3 c t) (h1 : n ≤ L1) (h2 : n ≤ L2) (h3 : n ≤ L3) (hco : c < 1099511627776) (hcm : c ≠ mm) (hX : X < N) (hY : Y < N) : vm_Met (vm_env l O f9) mX14_add 0 0 [.ref M, .ref a, .ref b, .ref c] h (fun r h' => r = none ∧ (∃ t', ia h' L3 c t' ∧ (∀ k, k < n → t' k = nI (dw ((X + Y) % N) k)) ∧ ∀ k, n ≤ k → t' k = t k) ∧ fr h h' (fun q => q = c)) := by
  obtain ⟨k1, k2, k3, k4, k5, k6⟩ := k
  have hcM : c ≠ M := fun z => by
    have hc : h.2 c = _ := hc
    rw [z, k1] at hc
    cases hc
  have p : 0 < 4294967296 ^ n := Nat.pow_pos (by decide)
  suffices H : ∀ Q : Option Value → vm_H → Prop, (∀ h', (∃ t', ia h' L3 c t' ∧ (∀ k, k < n → t' k = nI (dw ((X + Y) % N) k)) ∧ ∀ k, n ≤ k → t' k = t k) → fr h h' (fun q => q = c) → Q none h') → vm_Met (vm_env l O f9) mX14_add 0 0 [.ref M, .ref a, .ref b, .ref c] h Q from H _ (fun h' a b => ⟨rfl, a, b⟩)
  intro Q hQ
  refine vm_met rfl (Nat.le_of_ble_eq_true rfl) ?_
  refine vm_go rfl bX14_addx_0 oX14_addx_0 ⟨_, _, k1, rfl, ⟨0, 0, _, rm_plus ha hb hc h1 h2 h3 (by omega) hco (by omega) (by omega), Nat.zero_le _, Nat.zero_le _, ?_⟩⟩
  rintro _ h4 ⟨rfl, ⟨t1, e1, e2, e3⟩, F4⟩
  obtain ⟨cy, ecy⟩ : ∃ cy, (X + Y) / 4294967296 ^ n = cy := ⟨_, rfl⟩
  have hcy : cy < 2 := by rw [← ecy, Nat.div_lt_iff_lt_mul p]; omega
  rw [ecy]
  refine vm_Th (lv' := [(0, .ref M), (1, .ref a), (2, .ref b), (3, .ref c), (4, .int (nI cy))]) (h' := h4) rfl rfl ?_
  have m4 : h4.2 M = _ := (F4.2 M (fun z => hcM z.symm)).trans k1
  have n4 := wv_cg k2 (F4.2 mm (fun z => hcm z.symm))
  obtain ⟨T, eT⟩ : ∃ T, (X + Y) % 4294967296 ^ n = T := ⟨_, rfl⟩
  have hT : T < 4294967296 ^ n := by rw [← eT]; exact Nat.mod_lt _ p
  have eXY : X + Y = 4294967296 ^ n * cy + T := by rw [← ecy, ← eT]; exact (Nat.div_add_mod _ _).symm
  have w4 : wv h4 L3 c n T := ⟨t1, e1, fun j hj => by rw [e2 j hj, ← eT, dw_mod hj]⟩
  have h32 : N ≤ X + Y → vm_T (vm_env l O f9) mX14_add 0 0 32 [(0, .ref M), (1, .ref a), (2, .ref b), (3, .ref c), (4, .int (nI cy))] [] h4 Q := by
    intro hN
    refine vm_go rfl bX14_addx_32 oX14_addx_32 ⟨_, _, m4, rfl, ⟨_, _, m4, rfl, ⟨0, 0, _, rm_minus w4 n4 e1 h3 (by omega) h3 (by omega) hco, Nat.zero_le _, Nat.zero_le _, ?_⟩⟩⟩
    rintro _ h5 ⟨rfl, ⟨t2, e4, e5, e6⟩, F5⟩
    refine vm_Th (lv' := [(0, .ref M), (1, .ref a), (2, .ref b), (3, .ref c), (4, .int (iZ (bw9 T N n)))]) (h' := h5) rfl rfl ?_
    refine vm_go rfl bX14_addx_47 oX14_addx_47 (hQ h5 ⟨t2, e4, fun j hj => ?_, fun j hj => ?_⟩ (fr_trans F4 F5))
    · have er : (X + Y) % N = X + Y - N := by
        rw [Nat.mod_eq_sub_mod hN, Nat.mod_eq_of_lt (by omega)]
      rw [e5 j hj, er]
      rcases (show cy = 0 ∨ cy = 1 by omega) with z | z
      · rw [z, Nat.mul_zero] at eXY
        rw [dz_ge (by omega), show T - N = X + Y - N by omega]
      · rw [z, Nat.mul_one] at eXY
        rw [dz_lt (n := n) (by omega) (by omega) hj, show T + 4294967296 ^ n - N = X + Y - N by omega]
    · rw [e6 j hj, e3 j hj]
  rcases (show cy = 1 ∨ cy = 0 by omega) with z | z
  · rw [z, Nat.mul_one] at eXY
    refine vm_go rfl bX14_addx_12 oX14_addx_12 ⟨fun _ => h32 (by omega), fun q => absurd (show nI cy = 0 from q) (by rw [z]; decide)⟩
  · rw [z, Nat.mul_zero] at eXY
    refine vm_go rfl bX14_addx_12 oX14_addx_12 ⟨fun q => absurd (show nI cy = 0 by rw [z]; rfl) q, fun _ => ⟨_, _, m4, rfl, ⟨_, _, m4, rfl, ⟨0, 0, _, rm_cmp w4 n4 h3 (by omega) (by omega) hT k5, Nat.zero_le _, Nat.zero_le _, ?_⟩⟩⟩⟩
    rintro _ h5 ⟨hr, e5⟩
    rw [e5]; clear e5 h5
    rcases hr with ⟨q, rfl⟩ | ⟨q, rfl⟩ | ⟨q, rfl⟩
    · refine ⟨fun _ => vm_go rfl bX14_addx_47 oX14_addx_47 (hQ h4 ⟨t1, e1, fun j hj => ?_, e3⟩ F4), fun y => absurd (show (-1 : Int32) < 0 by decide) y⟩
      rw [e2 j hj, Nat.mod_eq_of_lt (show X + Y < N by omega)]
    · exact ⟨fun y => absurd y (by decide), fun _ => h32 (by omega)⟩
    · exact ⟨fun y => absurd y (by decide), fun _ => h32 (by omega)⟩
end
