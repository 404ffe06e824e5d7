/-! the reference: times, power -/
def bX14_timesx_0 : List vm_J := [(1, .aload_n 1, 0, 0, 0, .null), (3, .getfield 13, 12, 2, 0, .null), (2, .istore 5, 0, 0, 0, .null)]
set_option maxRecDepth 20000 in
theorem oX14_timesx_0 : vm_okB 14 mX14_times 0 bX14_timesx_0 = true := by decide +kernel
def bX14_timesx_6 : List vm_J := [(1, .iconst 0, 0, 0, 0, .int 0), (2, .istore 6, 0, 0, 0, .null)]
set_option maxRecDepth 20000 in
theorem oX14_timesx_6 : vm_okB 14 mX14_times 6 bX14_timesx_6 = true := by decide +kernel
def bX14_timesx_9 : List vm_J := [(2, .iload 6, 0, 0, 0, .null), (1, .iconst 2, 0, 0, 0, .int 2), (2, .iload 5, 0, 0, 0, .null), (1, .imul, 0, 0, 0, .null), (3, .if_icmp .ge 17, 32, 0, 0, .null), (1, .aload_n 0, 0, 0, 0, .null), (3, .getfield 36, 14, 1, 0, .null), (2, .iload 6, 0, 0, 0, .null), (1, .iconst 0, 0, 0, 0, .int 0), (1, .iastore, 0, 0, 0, .null), (3, .iinc 6 1, 0, 0, 0, .int 1), (3, .goto (-20), 9, 0, 0, .null)]
set_option maxRecDepth 20000 in
theorem oX14_timesx_9 : vm_okB 14 mX14_times 9 bX14_timesx_9 = true := by decide +kernel
def bX14_timesx_32 : List vm_J := [(1, .iconst 0, 0, 0, 0, .int 0), (2, .istore 6, 0, 0, 0, .null)]
set_option maxRecDepth 20000 in
theorem oX14_timesx_32 : vm_okB 14 mX14_times 32 bX14_timesx_32 = true := by decide +kernel
def bX14_timesx_35 : List vm_J := [(2, .iload 6, 0, 0, 0, .null), (2, .iload 5, 0, 0, 0, .null), (3, .if_icmp .ge 95, 134, 0, 0, .null), (1, .lconst 0, 0, 0, 0, .long 0), (2, .lstore 7, 0, 0, 0, .null)]
set_option maxRecDepth 20000 in
theorem oX14_timesx_35 : vm_okB 14 mX14_times 35 bX14_timesx_35 = true := by decide +kernel
def bX14_timesx_45 : List vm_J := [(1, .iconst 0, 0, 0, 0, .int 0), (2, .istore 9, 0, 0, 0, .null)]
set_option maxRecDepth 20000 in
theorem oX14_timesx_45 : vm_okB 14 mX14_times 45 bX14_timesx_45 = true := by decide +kernel
def bX14_timesx_48 : List vm_J := [(2, .iload 9, 0, 0, 0, .null), (2, .iload 5, 0, 0, 0, .null), (3, .if_icmp .ge 63, 115, 0, 0, .null), (2, .lload 7, 0, 0, 0, .null), (1, .aload_n 2, 0, 0, 0, .null), (2, .iload 6, 0, 0, 0, .null), (1, .iaload, 0, 0, 0, .null), (3, .invokestatic 9, 138, 1, 0, .null), (1, .aload_n 3, 0, 0, 0, .null), (2, .iload 9, 0, 0, 0, .null), (1, .iaload, 0, 0, 0, .null), (3, .invokestatic 9, 138, 1, 0, .null), (1, .lmul, 0, 0, 0, .null), (1, .aload_n 0, 0, 0, 0, .null), (3, .getfield 36, 14, 1, 0, .null), (2, .iload 6, 0, 0, 0, .null), (2, .iload 9, 0, 0, 0, .null), (1, .iadd, 0, 0, 0, .null), (1, .iaload, 0, 0, 0, .null), (3, .invokestatic 9, 138, 1, 0, .null), (1, .ladd, 0, 0, 0, .null), (1, .ladd, 0, 0, 0, .null), (2, .lstore 7, 0, 0, 0, .null)]
set_option maxRecDepth 20000 in
theorem oX14_timesx_48 : vm_okB 14 mX14_times 48 bX14_timesx_48 = true := by decide +kernel
def bX14_timesx_89 : List vm_J := [(1, .aload_n 0, 0, 0, 0, .null), (3, .getfield 36, 14, 1, 0, .null), (2, .iload 6, 0, 0, 0, .null), (2, .iload 9, 0, 0, 0, .null), (1, .iadd, 0, 0, 0, .null), (2, .lload 7, 0, 0, 0, .null), (1, .l2i, 0, 0, 0, .null), (1, .iastore, 0, 0, 0, .null), (2, .lload 7, 0, 0, 0, .null), (2, .bipush 32, 0, 0, 0, .int 32), (1, .lushr, 0, 0, 0, .null), (2, .lstore 7, 0, 0, 0, .null)]
set_option maxRecDepth 20000 in
theorem oX14_timesx_89 : vm_okB 14 mX14_times 89 bX14_timesx_89 = true := by decide +kernel
def bX14_timesx_109 : List vm_J := [(3, .iinc 9 1, 0, 0, 0, .int 1), (3, .goto (-64), 48, 0, 0, .null)]
set_option maxRecDepth 20000 in
theorem oX14_timesx_109 : vm_okB 14 mX14_times 109 bX14_timesx_109 = true := by decide +kernel
def bX14_timesx_115 : List vm_J := [(1, .aload_n 0, 0, 0, 0, .null), (3, .getfield 36, 14, 1, 0, .null), (2, .iload 6, 0, 0, 0, .null), (2, .iload 5, 0, 0, 0, .null), (1, .iadd, 0, 0, 0, .null), (2, .lload 7, 0, 0, 0, .null), (1, .l2i, 0, 0, 0, .null), (1, .iastore, 0, 0, 0, .null), (3, .iinc 6 1, 0, 0, 0, .int 1), (3, .goto (-96), 35, 0, 0, .null)]
set_option maxRecDepth 20000 in
theorem oX14_timesx_115 : vm_okB 14 mX14_times 115 bX14_timesx_115 = true := by decide +kernel
def bX14_timesx_134 : List vm_J := [(1, .aload_n 0, 0, 0, 0, .null), (1, .aload_n 1, 0, 0, 0, .null), (1, .iconst 2, 0, 0, 0, .int 2), (2, .iload 5, 0, 0, 0, .null), (1, .imul, 0, 0, 0, .null), (2, .aload 4, 0, 0, 0, .null), (3, .invokevirtual 61, 147, 3, 14, .null), (1, .return_, 0, 0, 0, .null)]
set_option maxRecDepth 20000 in
theorem oX14_timesx_134 : vm_okB 14 mX14_times 134 bX14_timesx_134 = true := by decide +kernel
def bX14_powerx_0 : List vm_J := [(1, .aload_n 2, 0, 0, 0, .null), (1, .aload_n 0, 0, 0, 0, .null), (3, .getfield 65, 14, 2, 0, .null), (1, .aload_n 1, 0, 0, 0, .null), (3, .getfield 13, 12, 2, 0, .null), (3, .invokestatic 68, 141, 3, 0, .null), (1, .iconst 1, 0, 0, 0, .int 1), (1, .aload_n 0, 0, 0, 0, .null), (3, .getfield 72, 14, 3, 0, .null), (1, .aload_n 1, 0, 0, 0, .null), (3, .getfield 13, 12, 2, 0, .null), (3, .invokestatic 75, 142, 3, 0, .null), (2, .iload 4, 0, 0, 0, .null), (1, .iconst 1, 0, 0, 0, .int 1), (1, .isub, 0, 0, 0, .null), (2, .istore 6, 0, 0, 0, .null)]
set_option maxRecDepth 20000 in
theorem oX14_powerx_0 : vm_okB 14 mX14_power 0 bX14_powerx_0 = true := by decide +kernel
def bX14_powerx_30 : List vm_J := [(2, .iload 6, 0, 0, 0, .null), (3, .ifCond .lt 62, 94, 0, 0, .null), (1, .aload_n 0, 0, 0, 0, .null), (1, .aload_n 1, 0, 0, 0, .null), (1, .aload_n 0, 0, 0, 0, .null), (3, .getfield 72, 14, 3, 0, .null), (1, .aload_n 0, 0, 0, 0, .null), (3, .getfield 72, 14, 3, 0, .null), (1, .aload_n 0, 0, 0, 0, .null), (3, .getfield 72, 14, 3, 0, .null), (3, .invokevirtual 79, 149, 4, 14, .null), (1, .aload_n 3, 0, 0, 0, .null), (2, .iload 6, 0, 0, 0, .null), (2, .bipush 32, 0, 0, 0, .int 32), (1, .idiv, 0, 0, 0, .null), (1, .iaload, 0, 0, 0, .null), (2, .iload 6, 0, 0, 0, .null), (2, .bipush 32, 0, 0, 0, .int 32), (1, .irem, 0, 0, 0, .null), (1, .iushr, 0, 0, 0, .null), (1, .iconst 1, 0, 0, 0, .int 1), (1, .iand, 0, 0, 0, .null), (1, .iconst 1, 0, 0, 0, .int 1), (3, .if_icmp .ne 20, 88, 0, 0, .null), (1, .aload_n 0, 0, 0, 0, .null), (1, .aload_n 1, 0, 0, 0, .null), (1, .aload_n 0, 0, 0, 0, .null), (3, .getfield 72, 14, 3, 0, .null), (1, .aload_n 0, 0, 0, 0, .null), (3, .getfield 65, 14, 2, 0, .null), (1, .aload_n 0, 0, 0, 0, .null), (3, .getfield 72, 14, 3, 0, .null), (3, .invokevirtual 79, 149, 4, 14, .null)]
set_option maxRecDepth 20000 in
theorem oX14_powerx_30 : vm_okB 14 mX14_power 30 bX14_powerx_30 = true := by decide +kernel
def bX14_powerx_88 : List vm_J := [(3, .iinc 6 (-1), 0, 0, 0, .int (-1)), (3, .goto (-61), 30, 0, 0, .null)]
set_option maxRecDepth 20000 in
theorem oX14_powerx_88 : vm_okB 14 mX14_power 88 bX14_powerx_88 = true := by decide +kernel
def bX14_powerx_94 : List vm_J := [(1, .aload_n 0, 0, 0, 0, .null), (3, .getfield 72, 14, 3, 0, .null), (2, .aload 5, 0, 0, 0, .null), (1, .aload_n 1, 0, 0, 0, .null), (3, .getfield 13, 12, 2, 0, .null), (3, .invokestatic 68, 141, 3, 0, .null), (1, .return_, 0, 0, 0, .null)]
set_option maxRecDepth 20000 in
theorem oX14_powerx_94 : vm_okB 14 mX14_power 94 bX14_powerx_94 = true := by decide +kernel
theorem ml_st {U Y d : Nat} (hd : d < 4294967296) (k : Nat) : ((U % 4294967296 ^ k + d * (Y % 4294967296 ^ k)) / 4294967296 ^ k + (d * dw Y k + dw U k)) % 4294967296 = dw (U + d * Y) k ∧ ((U % 4294967296 ^ k + d * (Y % 4294967296 ^ k)) / 4294967296 ^ k + (d * dw Y k + dw U k)) / 4294967296 = (U % 4294967296 ^ (k + 1) + d * (Y % 4294967296 ^ (k + 1))) / 4294967296 ^ (k + 1) ∧ (U % 4294967296 ^ k + d * (Y % 4294967296 ^ k)) / 4294967296 ^ k < 4294967296 ∧ (U % 4294967296 ^ k + d * (Y % 4294967296 ^ k)) / 4294967296 ^ k + (d * dw Y k + dw U k) < 18446744073709551616 := by
  have p : 0 < 4294967296 ^ k := Nat.pow_pos (by decide)
  have e : (U % 4294967296 ^ k + d * (Y % 4294967296 ^ k)) / 4294967296 ^ k + (d * dw Y k + dw U k) = (U % 4294967296 ^ (k + 1) + d * (Y % 4294967296 ^ (k + 1))) / 4294967296 ^ k := by
    rw [dw_m U, dw_m Y]
    have : U % 4294967296 ^ k + 4294967296 ^ k * dw U k + d * (Y % 4294967296 ^ k + 4294967296 ^ k * dw Y k) = U % 4294967296 ^ k + d * (Y % 4294967296 ^ k) + 4294967296 ^ k * (d * dw Y k + dw U k) := by grind
    rw [this, Nat.add_mul_div_left _ _ p]
  have c0 : (U % 4294967296 ^ k + d * (Y % 4294967296 ^ k)) / 4294967296 ^ k ≤ d := by
    have h1 := Nat.mod_lt U p
    have h2 := Nat.mod_lt Y p
    have h3 : d * (Y % 4294967296 ^ k) ≤ d * 4294967296 ^ k := Nat.mul_le_mul_left _ (Nat.le_of_lt h2)
    have : (U % 4294967296 ^ k + d * (Y % 4294967296 ^ k)) / 4294967296 ^ k < d + 1 := by
      rw [Nat.div_lt_iff_lt_mul p, Nat.add_mul, Nat.one_mul]
      omega
    omega
  refine ⟨?_, ?_, by omega, ?_⟩
  · rw [e, ← dw_mod (X := U + d * Y) (n := k + 1) (Nat.lt_succ_self k), Nat.add_mod, ← Nat.mul_mod_mod, ← Nat.add_mod, dw_mod (Nat.lt_succ_self k)]
    rw [← dw_mod (X := U + d * (Y % 4294967296 ^ (k + 1))) (n := k + 1) (Nat.lt_succ_self k), Nat.add_mod, ← Nat.mod_mod U, ← Nat.add_mod, Nat.mod_mod, dw_mod (Nat.lt_succ_self k)]
    rfl
  · rw [e, Nat.div_div_eq_div_mul, ← Nat.pow_succ]
  · have h2 : d * dw Y k ≤ 4294967295 * 4294967295 := Nat.mul_le_mul (by omega) (by have := dw_lt Y k; omega)
    have h3 := dw_lt U k
    omega
section
variable {l : Launch} {O : Nat → vm_Ob} {f9 : Value} {h : vm_H} {Q : Option Value → vm_H → Prop}
theorem MH_cg {h' : vm_H} {M mm hg n N sh : Nat} (k : MH h M mm hg n N sh) (e1 : h'.2 M = h.2 M) (e2 : h'.2 mm = h.2 mm) (e3 : h'.2 hg = h.2 hg) : MH h' M mm hg n N sh := by
  obtain ⟨⟨k1, k2, k3⟩, k4, k5⟩ := k
  exact ⟨⟨e1.trans k1, wv_cg k2 e2, k3⟩, wv_cg k4 e3, k5⟩
theorem MH_i {M mm hg n N sh q L : Nat} {f : Nat → Int32} (k : MH h M mm hg n N sh) (hq : ia h L q f) : M ≠ q := fun z => by
  have e := k.1.1
  have hq : h.2 q = _ := hq
  rw [z, hq] at e
  cases e
theorem rm_times {a M mm hg n N sh pa pb c L1 L2 L3 X Y : Nat} {g : Nat → Int32} (k : MH h M mm hg n N sh) (ho : h.2 a = RO a g) (r1 : iw h 130 (a + 1)) (ha : wv h L1 pa n X) (hb : wv h L2 pb n Y) (h1 : n ≤ L1) (h2 : n ≤ L2) (hX : X < 4294967296 ^ n) (hY : Y < 4294967296 ^ n) (hc : iw h L3 c) (h3 : n ≤ L3) (hco : c < 1099511627776) (hca : c ≠ a + 1) (hpa : pa ≠ a + 1) (hpb : pb ≠ a + 1) (hhi : hg ≠ a + 1) (hmi : mm ≠ a + 1) (hao : a + 300 < 1099511627776) : vm_Met (vm_env l O f9) mX14_times 0 0 [.ref a, .ref M, .ref pa, .ref pb, .ref c] h (fun r h' => r = none ∧ wv h' L3 c n (X * Y % N) ∧ iw h' 130 (a + 1) ∧ fr h h' (fun q => q = a + 1 ∨ q = c)) := by
  have kk := k
  obtain ⟨⟨k1, k2, k3, k4, k5, k6⟩, kh, hs, hHl, hH2⟩ := kk
  obtain ⟨fa, ea, va⟩ := ha
  obtain ⟨fb, eb, vb⟩ := hb
  obtain ⟨f, ef⟩ := r1
  have haM := MH_i k ef
  have hlt : a + 1 < 1099511627776 := by omega
  have e2n : (2 : Int32) * nI n = nI (2 * n) := nI_mul 2 n
  refine vm_met rfl (Nat.le_of_ble_eq_true rfl) ?_
  refine vm_go rfl bX14_timesx_0 oX14_timesx_0 ⟨_, _, k1, rfl, ?_⟩
  refine vm_Th (lv' := [(0, .ref a), (1, .ref M), (2, .ref pa), (3, .ref pb), (4, .ref c), (5, .int (nI n))]) (h' := h) rfl rfl ?_
  refine vm_go rfl bX14_timesx_6 oX14_timesx_6 ?_
  refine vm_Th (lv' := [(0, .ref a), (1, .ref M), (2, .ref pa), (3, .ref pb), (4, .ref c), (5, .int (nI n)), (6, .int (nI 0))]) (h' := h) rfl rfl ?_
  refine vm_loop (fun i h' => (∃ t', ia h' 130 (a + 1) t' ∧ ∀ k, k < i → t' k = 0) ∧ fr h h' (fun q => q = a + 1)) (2 * n) (fun i => [(0, .ref a), (1, .ref M), (2, .ref pa), (3, .ref pb), (4, .ref c), (5, .int (nI n)), (6, .int (nI i))]) 0 h (Nat.zero_le _) ⟨⟨f, ef, fun k hk => by omega⟩, fr_refl⟩ ?_ ?_
  rotate_left
  · rintro i h4 _ hi ⟨⟨t', e1, e2⟩, F4⟩ ih
    have o4 : h4.2 a = RO a g := (F4.2 a (by omega)).trans ho
    refine vm_go rfl bX14_timesx_9 oX14_timesx_9 ⟨fun q => absurd (show 2 * nI n ≤ nI i from q) (by rw [e2n]; exact nI_ge hi (by omega)), fun _ => ⟨_, _, o4, rfl, ⟨130, t', e1, hlt, i, rfl, by omega, ?_⟩⟩⟩
    refine vm_Th (lv' := [(0, .ref a), (1, .ref M), (2, .ref pa), (3, .ref pb), (4, .ref c), (5, .int (nI n)), (6, .int (nI (i + 1)))]) (h' := vm_up h4 (a + 1) (.inl (.int, 130, .inl (upd t' i 0)))) (by rw [← nI_1]; rfl) rfl ?_
    refine ih _ ⟨⟨_, vm_upe, fun k hk => ?_⟩, fr_trans F4 (fr_up rfl)⟩
    by_cases e : k = i
    · rw [e]; exact upd_e
    · rw [upd_n e]; exact e2 k (by omega)
  rintro h4 ⟨⟨t0, e1, e2⟩, F4⟩
  refine vm_go rfl bX14_timesx_9 oX14_timesx_9 ⟨fun _ => ?_, fun q => absurd (show 2 * nI n ≤ nI (2 * n) by rw [e2n]; exact nI_le (a := 2 * n) (b := 2 * n) (Nat.le_refl _) (by omega)) q⟩
  refine vm_less [0, 1, 2, 3, 4, 5] rfl ?_
  refine vm_go rfl bX14_timesx_32 oX14_timesx_32 ?_
  refine vm_Th (lv' := [(0, .ref a), (1, .ref M), (2, .ref pa), (3, .ref pb), (4, .ref c), (5, .int (nI n)), (6, .int (nI 0))]) (h' := h4) rfl rfl ?_
  have w0 : wv h4 130 (a + 1) (2 * n) (X % 4294967296 ^ 0 * Y) := ⟨t0, e1, fun k hk => by rw [e2 k hk, Nat.pow_zero, Nat.mod_one, Nat.zero_mul]; unfold dw; rw [Nat.zero_div]; rfl⟩
  have TT : ∀ (dd i : Nat) (h5 : vm_H), i + dd = n → wv h5 130 (a + 1) (2 * n) (X % 4294967296 ^ i * Y) → fr h h5 (fun q => q = a + 1) → vm_T (vm_env l O f9) mX14_times 0 0 35 [(0, .ref a), (1, .ref M), (2, .ref pa), (3, .ref pb), (4, .ref c), (5, .int (nI n)), (6, .int (nI i))] [] h5 (fun r h' => r = none ∧ wv h' L3 c n (X * Y % N) ∧ iw h' 130 (a + 1) ∧ fr h h' (fun q => q = a + 1 ∨ q = c)) := by
    intro dd
    induction dd with
    | zero =>
      intro i h5 hi w5 F5
      have ei : i = n := by omega
      rw [ei] at w5 ⊢
      rw [Nat.mod_eq_of_lt hX] at w5
      refine vm_go rfl bX14_timesx_35 oX14_timesx_35 ⟨fun _ => ?_, fun q => absurd (nI_le (a := n) (b := n) (Nat.le_refl _) (by omega)) q⟩
      have kM : MH h5 M mm hg n N sh := MH_cg k (F5.2 M haM) (F5.2 mm hmi) (F5.2 hg hhi)
      have o5 : h5.2 a = RO a g := (F5.2 a (by omega)).trans ho
      have hXY : X * Y < 4294967296 ^ (2 * n) := by
        rw [Nat.two_mul, Nat.pow_add]
        exact Nat.mul_lt_mul'' hX hY
      refine vm_go rfl bX14_timesx_134 oX14_timesx_134 ⟨_, o5, 0, 0, _, vm_metA (rm_rest (many := 2 * n) kM o5 w5 hXY (by omega) (by omega) (iw_cg hc (F5.2 c hca)) h3 hco hca hhi hao) (by rw [← e2n]; rfl), Nat.zero_le _, Nat.zero_le _, ?_⟩
      rintro _ h6 ⟨rfl, w6, r6, F6⟩
      exact ⟨rfl, w6, r6, fr_trans (fr_mono F5 (fun q z => Or.inl z)) F6⟩
    | succ dd ih =>
      intro i h5 hi w5 F5
      have hin : i < n := by omega
      obtain ⟨f5, ef5, vf5⟩ := id w5
      obtain ⟨V, eV⟩ : ∃ V, X % 4294967296 ^ i * Y = V := ⟨_, rfl⟩
      rw [eV] at vf5
      have p : 0 < 4294967296 ^ i := Nat.pow_pos (by decide)
      have hV : V < 4294967296 ^ (i + n) := by
        rw [← eV, Nat.pow_add]
        exact Nat.mul_lt_mul'' (Nat.mod_lt _ p) hY
      obtain ⟨U, eU⟩ : ∃ U, V / 4294967296 ^ i = U := ⟨_, rfl⟩
      have hU : U < 4294967296 ^ n := by
        rw [← eU]
        refine Nat.div_lt_of_lt_mul ?_
        rw [← Nat.pow_add]; exact hV
      obtain ⟨d, ed⟩ : ∃ d, dw X i = d := ⟨_, rfl⟩
      have hd : d < 4294967296 := by rw [← ed]; exact dw_lt X i
      have vj : ∀ k, i + k < 2 * n → f5 (i + k) = nI (dw U k) := fun k hk => by rw [vf5 (i + k) hk, dw_sh, eU]
      refine vm_go rfl bX14_timesx_35 oX14_timesx_35 ⟨fun q => absurd q (nI_ge hin (by omega)), fun _ => ?_⟩
      refine vm_Th (lv' := [(0, .ref a), (1, .ref M), (2, .ref pa), (3, .ref pb), (4, .ref c), (5, .int (nI n)), (6, .int (nI i)), (7, .long 0)]) (h' := h5) rfl rfl ?_
      refine vm_go rfl bX14_timesx_45 oX14_timesx_45 ?_
      refine vm_Th (lv' := [(0, .ref a), (1, .ref M), (2, .ref pa), (3, .ref pb), (4, .ref c), (5, .int (nI n)), (6, .int (nI i)), (7, .long (lZ ((U % 4294967296 ^ 0 + d * (Y % 4294967296 ^ 0)) / 4294967296 ^ 0 : Nat))), (9, .int (nI 0))]) (h' := h5) (by rw [Nat.pow_zero, Nat.mod_one, Nat.mod_one, Nat.mul_zero]; rfl) rfl ?_
      refine vm_loop (fun k h' => (∃ t', ia h' 130 (a + 1) t' ∧ (∀ q, q < k → t' (i + q) = nI (dw (U + d * Y) q)) ∧ ∀ q, q < i ∨ i + k ≤ q → t' q = f5 q) ∧ fr h h' (fun q => q = a + 1)) n (fun k => [(0, .ref a), (1, .ref M), (2, .ref pa), (3, .ref pb), (4, .ref c), (5, .int (nI n)), (6, .int (nI i)), (7, .long (lZ ((U % 4294967296 ^ k + d * (Y % 4294967296 ^ k)) / 4294967296 ^ k : Nat))), (9, .int (nI k))]) 0 h5 (Nat.zero_le _) ⟨⟨f5, ef5, fun q hq => by omega, fun q _ => rfl⟩, F5⟩ ?_ ?_
      rotate_left
      · rintro k h6 _ hk ⟨⟨t', e1, e2, e3⟩, F6⟩ ihk
        have o6 : h6.2 a = RO a g := (F6.2 a (by omega)).trans ho
        have ea6 : ia h6 L1 pa fa := (F6.2 pa hpa).trans ea
        have eb6 : ia h6 L2 pb fb := (F6.2 pb hpb).trans eb
        have x1 := dw_lt Y k
        have x2 := dw_lt U k
        obtain ⟨s1, s2, s3, s4⟩ := ml_st (U := U) (Y := Y) hd k
        obtain ⟨c0, ec0⟩ : ∃ c0, (U % 4294967296 ^ k + d * (Y % 4294967296 ^ k)) / 4294967296 ^ k = c0 := ⟨_, rfl⟩
        rw [ec0] at s1 s2 s3 s4 ⊢
        refine vm_go rfl bX14_timesx_48 oX14_timesx_48 ⟨fun q => absurd q (nI_ge hk (by omega)), fun _ => ⟨L1, fa, ea6, i, rfl, by omega, fun _ => ⟨0, 0, _, vm_metA (rm_u hd) (by rw [va i (by omega), ed]; rfl), Nat.zero_le _, Nat.zero_le _, ?_⟩⟩⟩
        rintro _ h7 ⟨rfl, e7⟩
        rw [e7]; clear e7 h7
        refine ⟨L2, fb, eb6, k, rfl, by omega, fun _ => ⟨0, 0, _, vm_metA (rm_u x1) (by rw [vb k (by omega)]; rfl), Nat.zero_le _, Nat.zero_le _, ?_⟩⟩
        rintro _ h7 ⟨rfl, e7⟩
        rw [e7]; clear e7 h7
        refine ⟨_, _, o6, rfl, ⟨130, t', e1, i + k, nI_add i k, by omega, fun _ => ⟨0, 0, _, vm_metA (rm_u x2) (by rw [e3 (i + k) (by omega), vj k (by omega)]; rfl), Nat.zero_le _, Nat.zero_le _, ?_⟩⟩⟩
        rintro _ h7 ⟨rfl, e7⟩
        rw [e7]; clear e7 h7
        obtain ⟨S, eS⟩ : ∃ S, c0 + (d * dw Y k + dw U k) = S := ⟨_, rfl⟩
        rw [eS] at s1 s2 s4
        refine vm_Th (lv' := [(0, .ref a), (1, .ref M), (2, .ref pa), (3, .ref pb), (4, .ref c), (5, .int (nI n)), (6, .int (nI i)), (7, .long (lZ (S : Int))), (9, .int (nI k))]) (h' := h6) ?_ rfl ?_
        · have : lZ (S : Int) = lZ (c0 : Int) + (lZ (d : Int) * lZ (dw Y k : Nat) + lZ (dw U k : Nat)) := by
            rw [lZ_mul, lZ_add, lZ_add, ← eS, Int.natCast_add, Int.natCast_add, Int.natCast_mul]
          rw [this]; rfl
        refine vm_go rfl bX14_timesx_89 oX14_timesx_89 ⟨_, _, o6, rfl, ⟨130, t', e1, hlt, i + k, nI_add i k, by omega, ?_⟩⟩
        refine vm_Th (lv' := [(0, .ref a), (1, .ref M), (2, .ref pa), (3, .ref pb), (4, .ref c), (5, .int (nI n)), (6, .int (nI i)), (7, .long (lZ ((U % 4294967296 ^ (k + 1) + d * (Y % 4294967296 ^ (k + 1))) / 4294967296 ^ (k + 1) : Nat))), (9, .int (nI k))]) (h' := vm_up h6 (a + 1) (.inl (.int, 130, .inl (upd t' (i + k) (nI (dw (U + d * Y) k)))))) ?_ ?_ ?_
        · rw [← s2, ← lZ_u32 (S := S) s4]; rfl
        · rw [← s1, show nI (S % 4294967296) = (lZ (S : Int)).toInt32 by rw [lZ_i]; rfl]
        refine vm_go rfl bX14_timesx_109 oX14_timesx_109 ?_
        refine vm_Th (lv' := [(0, .ref a), (1, .ref M), (2, .ref pa), (3, .ref pb), (4, .ref c), (5, .int (nI n)), (6, .int (nI i)), (7, .long (lZ ((U % 4294967296 ^ (k + 1) + d * (Y % 4294967296 ^ (k + 1))) / 4294967296 ^ (k + 1) : Nat))), (9, .int (nI (k + 1)))]) (h' := vm_up h6 (a + 1) (.inl (.int, 130, .inl (upd t' (i + k) (nI (dw (U + d * Y) k)))))) (by rw [← nI_1]; rfl) rfl ?_
        refine ihk _ ⟨⟨_, vm_upe, fun q hq => ?_, fun q hq => ?_⟩, fr_trans F6 (fr_up rfl)⟩
        · by_cases e : q = k
          · rw [e]; exact upd_e
          · rw [upd_n (by omega)]; exact e2 q (by omega)
        · rw [upd_n (by omega)]; exact e3 q (by omega)
      rintro h6 ⟨⟨t', e1, e2, e3⟩, F6⟩
      have o6 : h6.2 a = RO a g := (F6.2 a (by omega)).trans ho
      refine vm_go rfl bX14_timesx_48 oX14_timesx_48 ⟨fun _ => ?_, fun q => absurd (nI_le (a := n) (b := n) (Nat.le_refl _) (by omega)) q⟩
      have hS : U + d * Y < 4294967296 ^ (n + 1) := by
        have h9 : d * Y ≤ 4294967295 * 4294967296 ^ n := Nat.mul_le_mul (by omega) (Nat.le_of_lt hY)
        rw [Nat.pow_succ]
        omega
      have ecn : (U % 4294967296 ^ n + d * (Y % 4294967296 ^ n)) / 4294967296 ^ n = dw (U + d * Y) n := by rw [Nat.mod_eq_of_lt hU, Nat.mod_eq_of_lt hY, dw_top hS]
      have hdn := dw_lt (U + d * Y) n
      rw [ecn]
      have ev : (lZ (dw (U + d * Y) n : Nat)).toInt32 = nI (dw (U + d * Y) n) := by
        rw [lZ_i]; congr 1; omega
      refine vm_go rfl bX14_timesx_115 oX14_timesx_115 ⟨_, _, o6, rfl, ⟨130, t', e1, hlt, i + n, nI_add i n, by omega, ?_⟩⟩
      refine vm_less [0, 1, 2, 3, 4, 5, 6] rfl ?_
      refine vm_Th (lv' := [(0, .ref a), (1, .ref M), (2, .ref pa), (3, .ref pb), (4, .ref c), (5, .int (nI n)), (6, .int (nI (i + 1)))]) (h' := vm_up h6 (a + 1) (.inl (.int, 130, .inl (upd t' (i + n) (nI (dw (U + d * Y) n)))))) (by rw [← nI_1]; rfl) (by rw [← ev]) ?_
      refine ih (i + 1) _ (by omega) ?_ (fr_trans F6 (fr_up rfl))
      have eV2 : X % 4294967296 ^ (i + 1) * Y = V % 4294967296 ^ i + 4294967296 ^ i * (U + d * Y) := by
        have h8 := Nat.div_add_mod V (4294967296 ^ i)
        rw [eU] at h8
        rw [dw_m, ed, Nat.add_mul, eV]
        have : 4294967296 ^ i * d * Y = 4294967296 ^ i * (d * Y) := Nat.mul_assoc _ _ _
        rw [this, Nat.mul_add]
        omega
      rw [eV2]
      have hlo := Nat.mod_lt V p
      refine ⟨_, vm_upe, fun q hq => ?_⟩
      by_cases c1 : q < i
      · rw [upd_n (by omega), e3 q (by omega), vf5 q hq, dw_lo hlo c1, dw_mod c1]
      · obtain ⟨q', rfl⟩ : ∃ q', q = i + q' := ⟨q - i, by omega⟩
        rw [dw_hi hlo]
        by_cases c2 : q' = n
        · rw [c2]; exact upd_e
        · rw [upd_n (by omega)]
          by_cases c3 : q' < n
          · exact e2 q' c3
          · rw [e3 (i + q') (by omega), vj q' hq, dw_ab hU (by omega), dw_ab hS (by omega)]
  exact TT n 0 h4 (by omega) w0 F4
end
