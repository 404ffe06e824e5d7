/-! the reference: takes (one step of a long division) -/
def bX14_takesx_0 : List vm_J := [(1, .lconst 0, 0, 0, 0, .long 0), (2, .lstore 5, 0, 0, 0, .null), (1, .lconst 0, 0, 0, 0, .long 0), (2, .lstore 7, 0, 0, 0, .null)]
set_option maxRecDepth 20000 in
theorem oX14_takesx_0 : vm_okB 14 mX14_takes 0 bX14_takesx_0 = true := by decide +kernel
def bX14_takesx_6 : List vm_J := [(1, .iconst 0, 0, 0, 0, .int 0), (2, .istore 9, 0, 0, 0, .null)]
set_option maxRecDepth 20000 in
theorem oX14_takesx_6 : vm_okB 14 mX14_takes 6 bX14_takesx_6 = true := by decide +kernel
def bX14_takesx_9 : List vm_J := [(2, .iload 9, 0, 0, 0, .null), (1, .aload_n 1, 0, 0, 0, .null), (3, .getfield 13, 12, 2, 0, .null), (3, .if_icmp .ge 76, 91, 0, 0, .null), (2, .lload 5, 0, 0, 0, .null), (1, .lload_n 3, 0, 0, 0, .null), (1, .aload_n 1, 0, 0, 0, .null), (3, .getfield 39, 12, 1, 0, .null), (2, .iload 9, 0, 0, 0, .null), (1, .iaload, 0, 0, 0, .null), (3, .invokestatic 9, 138, 1, 0, .null), (1, .lmul, 0, 0, 0, .null), (1, .ladd, 0, 0, 0, .null), (2, .lstore 5, 0, 0, 0, .null)]
set_option maxRecDepth 20000 in
theorem oX14_takesx_9 : vm_okB 14 mX14_takes 9 bX14_takesx_9 = true := by decide +kernel
def bX14_takesx_35 : List vm_J := [(2, .lload 7, 0, 0, 0, .null), (1, .aload_n 0, 0, 0, 0, .null), (3, .getfield 36, 14, 1, 0, .null), (1, .iload_n 2, 0, 0, 0, .null), (2, .iload 9, 0, 0, 0, .null), (1, .iadd, 0, 0, 0, .null), (1, .iaload, 0, 0, 0, .null), (3, .invokestatic 9, 138, 1, 0, .null), (2, .lload 5, 0, 0, 0, .null), (3, .ldc2_w 7, 0, 0, 0, .long (4294967295)), (1, .land, 0, 0, 0, .null), (1, .lsub, 0, 0, 0, .null), (1, .ladd, 0, 0, 0, .null), (2, .lstore 7, 0, 0, 0, .null)]
set_option maxRecDepth 20000 in
theorem oX14_takesx_35 : vm_okB 14 mX14_takes 35 bX14_takesx_35 = true := by decide +kernel
def bX14_takesx_59 : List vm_J := [(1, .aload_n 0, 0, 0, 0, .null), (3, .getfield 36, 14, 1, 0, .null), (1, .iload_n 2, 0, 0, 0, .null), (2, .iload 9, 0, 0, 0, .null), (1, .iadd, 0, 0, 0, .null), (2, .lload 7, 0, 0, 0, .null), (1, .l2i, 0, 0, 0, .null), (1, .iastore, 0, 0, 0, .null), (2, .lload 5, 0, 0, 0, .null), (2, .bipush 32, 0, 0, 0, .int 32), (1, .lushr, 0, 0, 0, .null), (2, .lstore 5, 0, 0, 0, .null)]
set_option maxRecDepth 20000 in
theorem oX14_takesx_59 : vm_okB 14 mX14_takes 59 bX14_takesx_59 = true := by decide +kernel
def bX14_takesx_78 : List vm_J := [(2, .lload 7, 0, 0, 0, .null), (2, .bipush 32, 0, 0, 0, .int 32), (1, .lshr, 0, 0, 0, .null), (2, .lstore 7, 0, 0, 0, .null)]
set_option maxRecDepth 20000 in
theorem oX14_takesx_78 : vm_okB 14 mX14_takes 78 bX14_takesx_78 = true := by decide +kernel
def bX14_takesx_85 : List vm_J := [(3, .iinc 9 1, 0, 0, 0, .int 1), (3, .goto (-79), 9, 0, 0, .null)]
set_option maxRecDepth 20000 in
theorem oX14_takesx_85 : vm_okB 14 mX14_takes 85 bX14_takesx_85 = true := by decide +kernel
def bX14_takesx_91 : List vm_J := [(2, .lload 7, 0, 0, 0, .null), (1, .aload_n 0, 0, 0, 0, .null), (3, .getfield 36, 14, 1, 0, .null), (1, .iload_n 2, 0, 0, 0, .null), (1, .aload_n 1, 0, 0, 0, .null), (3, .getfield 13, 12, 2, 0, .null), (1, .iadd, 0, 0, 0, .null), (1, .iaload, 0, 0, 0, .null), (3, .invokestatic 9, 138, 1, 0, .null), (2, .lload 5, 0, 0, 0, .null), (1, .lsub, 0, 0, 0, .null), (1, .ladd, 0, 0, 0, .null), (2, .lstore 7, 0, 0, 0, .null)]
set_option maxRecDepth 20000 in
theorem oX14_takesx_91 : vm_okB 14 mX14_takes 91 bX14_takesx_91 = true := by decide +kernel
def bX14_takesx_113 : List vm_J := [(1, .aload_n 0, 0, 0, 0, .null), (3, .getfield 36, 14, 1, 0, .null), (1, .iload_n 2, 0, 0, 0, .null), (1, .aload_n 1, 0, 0, 0, .null), (3, .getfield 13, 12, 2, 0, .null), (1, .iadd, 0, 0, 0, .null), (2, .lload 7, 0, 0, 0, .null), (1, .l2i, 0, 0, 0, .null), (1, .iastore, 0, 0, 0, .null)]
set_option maxRecDepth 20000 in
theorem oX14_takesx_113 : vm_okB 14 mX14_takes 113 bX14_takesx_113 = true := by decide +kernel
def bX14_takesx_127 : List vm_J := [(2, .lload 7, 0, 0, 0, .null), (2, .bipush 32, 0, 0, 0, .int 32), (1, .lshr, 0, 0, 0, .null), (1, .lconst 0, 0, 0, 0, .long 0), (1, .lcmp, 0, 0, 0, .null), (3, .ifCond .ne 4, 138, 0, 0, .null), (1, .return_, 0, 0, 0, .null)]
set_option maxRecDepth 20000 in
theorem oX14_takesx_127 : vm_okB 14 mX14_takes 127 bX14_takesx_127 = true := by decide +kernel
def bX14_takesx_138 : List vm_J := [(1, .lconst 0, 0, 0, 0, .long 0), (2, .lstore 7, 0, 0, 0, .null), (1, .iconst 0, 0, 0, 0, .int 0), (2, .istore 9, 0, 0, 0, .null)]
set_option maxRecDepth 20000 in
theorem oX14_takesx_138 : vm_okB 14 mX14_takes 138 bX14_takesx_138 = true := by decide +kernel
def bX14_takesx_144 : List vm_J := [(2, .iload 9, 0, 0, 0, .null), (1, .aload_n 1, 0, 0, 0, .null), (3, .getfield 13, 12, 2, 0, .null), (3, .if_icmp .ge 56, 206, 0, 0, .null), (2, .lload 7, 0, 0, 0, .null), (1, .aload_n 0, 0, 0, 0, .null), (3, .getfield 36, 14, 1, 0, .null), (1, .iload_n 2, 0, 0, 0, .null), (2, .iload 9, 0, 0, 0, .null), (1, .iadd, 0, 0, 0, .null), (1, .iaload, 0, 0, 0, .null), (3, .invokestatic 9, 138, 1, 0, .null), (1, .aload_n 1, 0, 0, 0, .null), (3, .getfield 39, 12, 1, 0, .null), (2, .iload 9, 0, 0, 0, .null), (1, .iaload, 0, 0, 0, .null), (3, .invokestatic 9, 138, 1, 0, .null), (1, .ladd, 0, 0, 0, .null), (1, .ladd, 0, 0, 0, .null), (2, .lstore 7, 0, 0, 0, .null)]
set_option maxRecDepth 20000 in
theorem oX14_takesx_144 : vm_okB 14 mX14_takes 144 bX14_takesx_144 = true := by decide +kernel
def bX14_takesx_181 : List vm_J := [(1, .aload_n 0, 0, 0, 0, .null), (3, .getfield 36, 14, 1, 0, .null), (1, .iload_n 2, 0, 0, 0, .null), (2, .iload 9, 0, 0, 0, .null), (1, .iadd, 0, 0, 0, .null), (2, .lload 7, 0, 0, 0, .null), (1, .l2i, 0, 0, 0, .null), (1, .iastore, 0, 0, 0, .null), (2, .lload 7, 0, 0, 0, .null), (2, .bipush 32, 0, 0, 0, .int 32), (1, .lushr, 0, 0, 0, .null), (2, .lstore 7, 0, 0, 0, .null)]
set_option maxRecDepth 20000 in
theorem oX14_takesx_181 : vm_okB 14 mX14_takes 181 bX14_takesx_181 = true := by decide +kernel
def bX14_takesx_200 : List vm_J := [(3, .iinc 9 1, 0, 0, 0, .int 1), (3, .goto (-59), 144, 0, 0, .null)]
set_option maxRecDepth 20000 in
theorem oX14_takesx_200 : vm_okB 14 mX14_takes 200 bX14_takesx_200 = true := by decide +kernel
def bX14_takesx_206 : List vm_J := [(1, .aload_n 0, 0, 0, 0, .null), (3, .getfield 36, 14, 1, 0, .null), (1, .iload_n 2, 0, 0, 0, .null), (1, .aload_n 1, 0, 0, 0, .null), (3, .getfield 13, 12, 2, 0, .null), (1, .iadd, 0, 0, 0, .null), (1, .dup2, 0, 0, 0, .null), (1, .iaload, 0, 0, 0, .null), (2, .lload 7, 0, 0, 0, .null), (1, .l2i, 0, 0, 0, .null), (1, .iadd, 0, 0, 0, .null), (1, .iastore, 0, 0, 0, .null), (1, .return_, 0, 0, 0, .null)]
set_option maxRecDepth 20000 in
theorem oX14_takesx_206 : vm_okB 14 mX14_takes 206 bX14_takesx_206 = true := by decide +kernel
theorem dw_sh (V j k : Nat) : dw V (j + k) = dw (V / 4294967296 ^ j) k := by
  unfold dw
  rw [Nat.pow_add, Nat.div_div_eq_div_mul]
theorem dw_lo {W T j k : Nat} (hW : W < 4294967296 ^ j) (hk : k < j) : dw (W + 4294967296 ^ j * T) k = dw W k := by
  rw [← dw_mod (X := W + 4294967296 ^ j * T) (n := j) hk, Nat.add_mul_mod_self_left, dw_mod hk]
theorem dw_hi {W T j k : Nat} (hW : W < 4294967296 ^ j) : dw (W + 4294967296 ^ j * T) (j + k) = dw T k := by
  have p : 0 < 4294967296 ^ j := Nat.pow_pos (by decide)
  rw [dw_sh, Nat.add_mul_div_left _ _ p, Nat.div_eq_of_lt hW, Nat.zero_add]
theorem dw_top {Y n : Nat} (h : Y < 4294967296 ^ (n + 1)) : dw Y n = Y / 4294967296 ^ n := by
  unfold dw
  refine Nat.mod_eq_of_lt ?_
  refine Nat.div_lt_of_lt_mul ?_
  rw [Nat.mul_comm, ← Nat.pow_succ']
  exact h
theorem dw_ab {Y n k : Nat} (h : Y < 4294967296 ^ n) (hk : n ≤ k) : dw Y k = 0 := by
  unfold dw
  rw [Nat.div_eq_of_lt (Nat.lt_of_lt_of_le h (Nat.pow_le_pow_right (by decide) hk)), Nat.zero_mod]
/-- the carry of q * H -/
theorem tk_st {q H : Nat} (hq : q < 4294967296) (i : Nat) : (q * (H % 4294967296 ^ i) / 4294967296 ^ i + q * dw H i) % 4294967296 = dw (q * H) i ∧ (q * (H % 4294967296 ^ i) / 4294967296 ^ i + q * dw H i) / 4294967296 = q * (H % 4294967296 ^ (i + 1)) / 4294967296 ^ (i + 1) ∧ q * (H % 4294967296 ^ i) / 4294967296 ^ i < 4294967296 ∧ q * (H % 4294967296 ^ i) / 4294967296 ^ i + q * dw H i < 18446744073709551616 := by
  have p : 0 < 4294967296 ^ i := Nat.pow_pos (by decide)
  have e : q * (H % 4294967296 ^ i) / 4294967296 ^ i + q * dw H i = q * (H % 4294967296 ^ (i + 1)) / 4294967296 ^ i := by
    rw [dw_m, Nat.mul_add, ← Nat.mul_assoc, Nat.mul_comm q (4294967296 ^ i), Nat.mul_assoc, Nat.add_mul_div_left _ _ p]
  have c0 : q * (H % 4294967296 ^ i) / 4294967296 ^ i < 4294967296 := by
    refine Nat.div_lt_of_lt_mul ?_
    have h1 := Nat.mod_lt H p
    calc q * (H % 4294967296 ^ i) ≤ q * 4294967296 ^ i := Nat.mul_le_mul_left _ (Nat.le_of_lt h1)
      _ < 4294967296 * 4294967296 ^ i := Nat.mul_lt_mul_of_pos_right hq p
      _ = 4294967296 ^ i * 4294967296 := Nat.mul_comm _ _
  refine ⟨?_, ?_, c0, ?_⟩
  · rw [e, ← dw_mod (X := q * H) (n := i + 1) (Nat.lt_succ_self i), ← Nat.mul_mod_mod, dw_mod (Nat.lt_succ_self i)]
    rfl
  · rw [e, Nat.div_div_eq_div_mul, ← Nat.pow_succ]
  · have h2 : q * dw H i ≤ 4294967295 * 4294967295 := Nat.mul_le_mul (by omega) (by have := dw_lt H i; omega)
    omega
theorem lZ_m32 (z : Int) : lZ z &&& 4294967295 = lZ (z % 4294967296) := lZ_mask z (k := 32) (by decide)
theorem lc_ee {x : Int64} : lg_cmp x x = 0 := by
  unfold lg_cmp
  simp
theorem lc_n1 : lg_cmp (lZ (-1)) 0 ≠ 0 := by decide
section
variable {l : Launch} {O : Nat → vm_Ob} {f9 : Value} {h : vm_H}
/-- limbs j .. j+n of a row come to be T's -/
theorem wv_win {f : Nat → Int32} {a j n V T : Nat} (hf : ia h 130 a f) (h1 : ∀ k, k < j → f k = nI (dw V k)) (h2 : ∀ k, k < n → f (j + k) = nI (dw T k)) : wv h 130 a (j + n) (V % 4294967296 ^ j + 4294967296 ^ j * T) := by
  have p : 0 < 4294967296 ^ j := Nat.pow_pos (by decide)
  have hW := Nat.mod_lt V p
  refine ⟨f, hf, fun k hk => ?_⟩
  by_cases e : k < j
  · rw [dw_lo hW e, dw_mod e]; exact h1 k e
  · obtain ⟨i, rfl⟩ : ∃ i, k = j + i := ⟨k - j, by omega⟩
    rw [dw_hi hW]; exact h2 i (by omega)
theorem rm_takes {a M mm hg n H j q V : Nat} {s : Int32} {g : Nat → Int32} (k1 : h.2 M = .inr (12, [.ref mm, .ref hg, .int (nI n), .int s])) (ho : h.2 a = RO a g) (hH : wv h 64 hg n H) (hHl : H < 4294967296 ^ n) (hn1 : 1 ≤ n) (hn : n ≤ 64) (w : wv h 130 (a + 1) (j + (n + 1)) V) (hV : V < 4294967296 ^ (j + (n + 1))) (hj : j + n + 1 ≤ 130) (hq : q < 4294967296) (hqH : q * H ≤ V / 4294967296 ^ j + H) (hao : a + 300 < 1099511627776) (hhi : hg ≠ a + 1) : vm_Met (vm_env l O f9) mX14_takes 0 0 [.ref a, .ref M, .int (nI j), .long (lZ (q : Int))] h (fun r h' => r = none ∧ wv h' 130 (a + 1) (j + (n + 1)) (V % 4294967296 ^ j + 4294967296 ^ j * (if q * H ≤ V / 4294967296 ^ j then V / 4294967296 ^ j - q * H else V / 4294967296 ^ j + H - q * H)) ∧ fr h h' (fun x => x = a + 1)) := by
  obtain ⟨f, ef, vf⟩ := w
  obtain ⟨fh, eh, vh⟩ := hH
  obtain ⟨U, eU⟩ : ∃ U, V / 4294967296 ^ j = U := ⟨_, rfl⟩
  obtain ⟨Y, eY⟩ : ∃ Y, q * H = Y := ⟨_, rfl⟩
  have hU : U < 4294967296 ^ (n + 1) := by
    rw [← eU]
    refine Nat.div_lt_of_lt_mul ?_
    rw [← Nat.pow_add]; exact hV
  have hY : Y < 4294967296 ^ (n + 1) := by
    rw [← eY, Nat.pow_succ, Nat.mul_comm (4294967296 ^ n)]
    exact Nat.mul_lt_mul'' hq hHl
  rw [eU, eY] at hqH
  rw [eU, eY]
  have vj : ∀ k, k < n + 1 → f (j + k) = nI (dw U k) := fun k hk => by rw [vf (j + k) (by omega), dw_sh, eU]
  have hlt : a + 1 < 1099511627776 := by omega
  have haM : M ≠ a + 1 := fun z => by
    have ef : h.2 (a + 1) = _ := ef
    rw [← z, k1] at ef
    cases ef
  have fin : ∀ (h' : vm_H) (t : Nat → Int32) (T : Nat), ia h' 130 (a + 1) t → (∀ k, k < j → t k = f k) → (∀ k, k < n + 1 → t (j + k) = nI (dw T k)) → wv h' 130 (a + 1) (j + (n + 1)) (V % 4294967296 ^ j + 4294967296 ^ j * T) := fun h' t T e1 e2 e3 => wv_win e1 (fun k hk => by rw [e2 k hk, vf k (by omega)]) e3
  refine vm_met rfl (Nat.le_of_ble_eq_true rfl) ?_
  refine vm_go rfl bX14_takesx_0 oX14_takesx_0 ?_
  refine vm_Th (lv' := [(0, .ref a), (1, .ref M), (2, .int (nI j)), (3, .long (lZ (q : Int))), (5, .long 0), (7, .long 0)]) (h' := h) rfl rfl ?_
  refine vm_go rfl bX14_takesx_6 oX14_takesx_6 ?_
  refine vm_Th (lv' := [(0, .ref a), (1, .ref M), (2, .int (nI j)), (3, .long (lZ (q : Int))), (5, .long (lZ ((q * (H % 4294967296 ^ 0) / 4294967296 ^ 0 : Nat) : Int))), (7, .long (lZ (bw9 U Y 0))), (9, .int (nI 0))]) (h' := h) (by unfold bw9; rw [Nat.pow_zero, Nat.mod_one, Nat.mod_one, Nat.mod_one, Nat.mul_zero]; rfl) rfl ?_
  refine vm_loop (fun i h' => (∃ t', ia h' 130 (a + 1) t' ∧ (∀ k, k < i → t' (j + k) = nI (dz U Y k)) ∧ ∀ k, k < j ∨ j + i ≤ k → t' k = f k) ∧ fr h h' (fun x => x = a + 1)) n (fun i => [(0, .ref a), (1, .ref M), (2, .int (nI j)), (3, .long (lZ (q : Int))), (5, .long (lZ ((q * (H % 4294967296 ^ i) / 4294967296 ^ i : Nat) : Int))), (7, .long (lZ (bw9 U Y i))), (9, .int (nI i))]) 0 h (Nat.zero_le _) ⟨⟨f, ef, fun k hk => by omega, fun k _ => rfl⟩, fr_refl⟩ ?_ ?_
  rotate_left
  · rintro i h4 _ hi ⟨⟨t', e1, e2, e3⟩, F4⟩ ih
    have m4 : h4.2 M = _ := (F4.2 M haM).trans k1
    have o4 : h4.2 a = RO a g := (F4.2 a (by omega)).trans ho
    have eh4 : ia h4 64 hg fh := (F4.2 hg hhi).trans eh
    have x1 := dw_lt H i
    have x2 := dw_lt U i
    have ci := bw9_b U Y i
    obtain ⟨s1, s2, s3, s4⟩ := tk_st (H := H) hq i
    rw [eY] at s1
    obtain ⟨c0, ec0⟩ : ∃ c0, q * (H % 4294967296 ^ i) / 4294967296 ^ i = c0 := ⟨_, rfl⟩
    rw [ec0] at s1 s2 s3 s4 ⊢
    refine vm_go rfl bX14_takesx_9 oX14_takesx_9 ⟨_, _, m4, rfl, ⟨fun q => absurd q (nI_ge hi (by omega)), fun _ => ⟨_, _, m4, rfl, ⟨64, fh, eh4, i, rfl, by omega, fun _ => ⟨0, 0, _, vm_metA (rm_u x1) (by rw [vh i hi]; rfl), Nat.zero_le _, Nat.zero_le _, ?_⟩⟩⟩⟩⟩
    rintro _ h5 ⟨rfl, e5⟩
    rw [e5]; clear e5 h5
    obtain ⟨S, eS⟩ : ∃ S, c0 + q * dw H i = S := ⟨_, rfl⟩
    rw [eS] at s1 s2 s4
    refine vm_Th (lv' := [(0, .ref a), (1, .ref M), (2, .int (nI j)), (3, .long (lZ (q : Int))), (5, .long (lZ (S : Int))), (7, .long (lZ (bw9 U Y i))), (9, .int (nI i))]) (h' := h4) ?_ rfl ?_
    · have : lZ (S : Int) = lZ (c0 : Int) + lZ (q : Int) * lZ (dw H i : Nat) := by
        rw [lZ_mul, lZ_add, ← eS, Int.natCast_add, Int.natCast_mul]
      rw [this]; rfl
    refine vm_go rfl bX14_takesx_35 oX14_takesx_35 ⟨_, _, o4, rfl, ⟨130, t', e1, j + i, nI_add j i, by omega, fun _ => ⟨0, 0, _, vm_metA (rm_u x2) (by rw [e3 (j + i) (by omega), vj i (by omega)]; rfl), Nat.zero_le _, Nat.zero_le _, ?_⟩⟩⟩
    rintro _ h5 ⟨rfl, e5⟩
    rw [e5]; clear e5 h5
    obtain ⟨Z, eZ⟩ : ∃ Z : Int, bw9 U Y i + dw U i - dw Y i = Z := ⟨_, rfl⟩
    obtain ⟨m1, m2⟩ := mi_st (X := U) (Y := Y) i
    rw [eZ] at m1 m2
    have hdy := dw_lt Y i
    refine vm_Th (lv' := [(0, .ref a), (1, .ref M), (2, .int (nI j)), (3, .long (lZ (q : Int))), (5, .long (lZ (S : Int))), (7, .long (lZ Z)), (9, .int (nI i))]) (h' := h4) ?_ rfl ?_
    · have : lZ Z = lZ (bw9 U Y i) + (lZ (dw U i : Nat) - (lZ (S : Int) &&& 4294967295)) := by
        rw [lZ_m32, lZ_sub, lZ_add, ← eZ, ← s1]
        congr 1
        omega
      rw [this]; rfl
    refine vm_go rfl bX14_takesx_59 oX14_takesx_59 ⟨_, _, o4, rfl, ⟨130, t', e1, hlt, j + i, nI_add j i, by omega, ?_⟩⟩
    refine vm_Th (lv' := [(0, .ref a), (1, .ref M), (2, .int (nI j)), (3, .long (lZ (q : Int))), (5, .long (lZ ((q * (H % 4294967296 ^ (i + 1)) / 4294967296 ^ (i + 1) : Nat) : Int))), (7, .long (lZ Z)), (9, .int (nI i))]) (h' := vm_up h4 (a + 1) (.inl (.int, 130, .inl (upd t' (j + i) (nI (dz U Y i)))))) ?_ ?_ ?_
    · rw [← s2, ← lZ_u32 (S := S) s4]; rfl
    · rw [show nI (dz U Y i) = (lZ Z).toInt32 by rw [lZ_i, m1]; rfl]
    refine vm_go rfl bX14_takesx_78 oX14_takesx_78 ?_
    refine vm_Th (lv' := [(0, .ref a), (1, .ref M), (2, .int (nI j)), (3, .long (lZ (q : Int))), (5, .long (lZ ((q * (H % 4294967296 ^ (i + 1)) / 4294967296 ^ (i + 1) : Nat) : Int))), (7, .long (lZ (bw9 U Y (i + 1)))), (9, .int (nI i))]) (h' := vm_up h4 (a + 1) (.inl (.int, 130, .inl (upd t' (j + i) (nI (dz U Y i)))))) ?_ rfl ?_
    · rw [← m2, ← lZ_s32 (z := Z) (by omega) (by omega)]; rfl
    refine vm_go rfl bX14_takesx_85 oX14_takesx_85 ?_
    refine vm_Th (lv' := [(0, .ref a), (1, .ref M), (2, .int (nI j)), (3, .long (lZ (q : Int))), (5, .long (lZ ((q * (H % 4294967296 ^ (i + 1)) / 4294967296 ^ (i + 1) : Nat) : Int))), (7, .long (lZ (bw9 U Y (i + 1)))), (9, .int (nI (i + 1)))]) (h' := vm_up h4 (a + 1) (.inl (.int, 130, .inl (upd t' (j + i) (nI (dz U Y i)))))) (by rw [← nI_1]; rfl) rfl ?_
    refine ih _ ⟨⟨_, vm_upe, fun k hk => ?_, fun k hk => ?_⟩, fr_trans F4 (fr_up rfl)⟩
    · by_cases e : k = i
      · rw [e]; exact upd_e
      · rw [upd_n (by omega)]; exact e2 k (by omega)
    · rw [upd_n (by omega)]; exact e3 k (by omega)
  rintro h4 ⟨⟨t', e1, e2, e3⟩, F4⟩
  have m4 : h4.2 M = _ := (F4.2 M haM).trans k1
  have o4 : h4.2 a = RO a g := (F4.2 a (by omega)).trans ho
  have eh4 : ia h4 64 hg fh := (F4.2 hg hhi).trans eh
  refine vm_go rfl bX14_takesx_9 oX14_takesx_9 ⟨_, _, m4, rfl, ⟨fun _ => ?_, fun q => absurd (nI_le (a := n) (b := n) (Nat.le_refl _) (by omega)) q⟩⟩
  have x2 := dw_lt U n
  have ci := bw9_b U Y n
  have ecn : q * (H % 4294967296 ^ n) / 4294967296 ^ n = dw Y n := by rw [Nat.mod_eq_of_lt hHl, eY, dw_top hY]
  rw [ecn]
  have hdy := dw_lt Y n
  refine vm_go rfl bX14_takesx_91 oX14_takesx_91 ⟨_, _, o4, rfl, ⟨_, _, m4, rfl, ⟨130, t', e1, j + n, nI_add j n, by omega, fun _ => ⟨0, 0, _, vm_metA (rm_u x2) (by rw [e3 (j + n) (by omega), vj n (by omega)]; rfl), Nat.zero_le _, Nat.zero_le _, ?_⟩⟩⟩⟩
  rintro _ h5 ⟨rfl, e5⟩
  rw [e5]; clear e5 h5
  obtain ⟨Z, eZ⟩ : ∃ Z : Int, bw9 U Y n + dw U n - dw Y n = Z := ⟨_, rfl⟩
  obtain ⟨m1, m2⟩ := mi_st (X := U) (Y := Y) n
  rw [eZ] at m1 m2
  refine vm_Th (lv' := [(0, .ref a), (1, .ref M), (2, .int (nI j)), (3, .long (lZ (q : Int))), (5, .long (lZ (dw Y n : Nat))), (7, .long (lZ Z)), (9, .int (nI n))]) (h' := h4) ?_ rfl ?_
  · have : lZ Z = lZ (bw9 U Y n) + (lZ (dw U n : Nat) - lZ (dw Y n : Nat)) := by
      rw [lZ_sub, lZ_add, ← eZ]
      congr 1
      omega
    rw [this]; rfl
  obtain ⟨h6, eh6⟩ : ∃ h6, vm_up h4 (a + 1) (.inl (.int, 130, .inl (upd t' (j + n) (nI (dz U Y n))))) = h6 := ⟨_, rfl⟩
  have F6 : fr h h6 (fun x => x = a + 1) := by rw [← eh6]; exact fr_trans F4 (fr_up rfl)
  have e6 : ia h6 130 (a + 1) (upd t' (j + n) (nI (dz U Y n))) := by rw [← eh6]; exact vm_upe
  have d6 : ∀ k, k < n + 1 → upd t' (j + n) (nI (dz U Y n)) (j + k) = nI (dz U Y k) := fun k hk => by
    by_cases e : k = n
    · rw [e]; exact upd_e
    · rw [upd_n (by omega)]; exact e2 k (by omega)
  have l6 : ∀ k, k < j → upd t' (j + n) (nI (dz U Y n)) k = f k := fun k hk => by rw [upd_n (by omega)]; exact e3 k (by omega)
  have es : lZ Z >>> ((32 : Int32).toInt64 &&& 63) = lZ (bw9 U Y (n + 1)) := by rw [lZ_s32 (z := Z) (by omega) (by omega), m2]
  have ed : (lZ Z).toInt32 = nI (dz U Y n) := by rw [lZ_i, m1]; rfl
  obtain ⟨t6, et6⟩ : ∃ t6, upd t' (j + n) (nI (dz U Y n)) = t6 := ⟨_, rfl⟩
  rw [et6] at e6 eh6
  simp only [et6] at d6 l6
  refine vm_go rfl bX14_takesx_113 oX14_takesx_113 ⟨_, _, o4, rfl, ⟨_, _, m4, rfl, ⟨130, t', e1, hlt, j + n, nI_add j n, by omega, ?_⟩⟩⟩
  refine vm_Th (lv' := [(0, .ref a), (1, .ref M), (2, .int (nI j)), (3, .long (lZ (q : Int))), (5, .long (lZ (dw Y n : Nat))), (7, .long (lZ Z)), (9, .int (nI n))]) (h' := h6) rfl (by rw [← eh6, ← et6, ← ed]) ?_
  have m6 : h6.2 M = _ := (F6.2 M haM).trans k1
  have o6 : h6.2 a = RO a g := (F6.2 a (by omega)).trans ho
  by_cases hle : Y ≤ U
  · rw [if_pos hle]
    have b0 : bw9 U Y (n + 1) = 0 := by rw [bw9_n hU hY, if_neg (by omega)]
    refine vm_go rfl bX14_takesx_127 oX14_takesx_127 ⟨fun y => absurd (show lg_cmp (lZ Z >>> ((32 : Int32).toInt64 &&& 63)) 0 = 0 by rw [es, b0]; exact lc_ee) y, fun _ => ⟨rfl, fin h6 t6 _ e6 l6 (fun k hk => by rw [d6 k hk, dz_ge hle]), F6⟩⟩
  rw [if_neg hle]
  have b1 : bw9 U Y (n + 1) = -1 := by rw [bw9_n hU hY, if_pos (by omega)]
  refine vm_go rfl bX14_takesx_127 oX14_takesx_127 ⟨fun _ => ?_, fun y => absurd (show lg_cmp (lZ Z >>> ((32 : Int32).toInt64 &&& 63)) 0 = 0 from y) (by rw [es, b1]; exact lc_n1)⟩
  obtain ⟨X, eX⟩ : ∃ X, U + 4294967296 ^ (n + 1) - Y = X := ⟨_, rfl⟩
  have dX : ∀ k, k < n + 1 → t6 (j + k) = nI (dw X k) := fun k hk => by rw [d6 k hk, dz_lt (n := n + 1) (by omega) (by omega) hk, eX]
  have cl : ∀ i, (X % 4294967296 ^ i + H % 4294967296 ^ i) / 4294967296 ^ i < 2 := by
    intro i
    have p : 0 < 4294967296 ^ i := Nat.pow_pos (by decide)
    have q1 := Nat.mod_lt X p
    have q2 := Nat.mod_lt H p
    rw [Nat.div_lt_iff_lt_mul p]
    omega
  refine vm_less [0, 1, 2] rfl ?_
  refine vm_go rfl bX14_takesx_138 oX14_takesx_138 ?_
  refine vm_Th (lv' := [(0, .ref a), (1, .ref M), (2, .int (nI j)), (7, .long (lZ ((X % 4294967296 ^ 0 + H % 4294967296 ^ 0) / 4294967296 ^ 0 : Nat))), (9, .int (nI 0))]) (h' := h6) (by rw [Nat.pow_zero, Nat.mod_one, Nat.mod_one]; rfl) rfl ?_
  refine vm_loop (fun i h' => (∃ t', ia h' 130 (a + 1) t' ∧ (∀ k, k < i → t' (j + k) = nI (dw (X + H) k)) ∧ ∀ k, k < j ∨ j + i ≤ k → t' k = t6 k) ∧ fr h h' (fun x => x = a + 1)) n (fun i => [(0, .ref a), (1, .ref M), (2, .int (nI j)), (7, .long (lZ ((X % 4294967296 ^ i + H % 4294967296 ^ i) / 4294967296 ^ i : Nat))), (9, .int (nI i))]) 0 h6 (Nat.zero_le _) ⟨⟨t6, e6, fun k hk => by omega, fun k _ => rfl⟩, F6⟩ ?_ ?_
  rotate_left
  · rintro i h7 _ hi ⟨⟨t', e1, e2, e3⟩, F7⟩ ih
    have m7 : h7.2 M = _ := (F7.2 M haM).trans k1
    have o7 : h7.2 a = RO a g := (F7.2 a (by omega)).trans ho
    have eh7 : ia h7 64 hg fh := (F7.2 hg hhi).trans eh
    have x1 := dw_lt X i
    have x2 := dw_lt H i
    have ci := cl i
    refine vm_go rfl bX14_takesx_144 oX14_takesx_144 ⟨_, _, m7, rfl, ⟨fun q => absurd q (nI_ge hi (by omega)), fun _ => ⟨_, _, o7, rfl, ⟨130, t', e1, j + i, nI_add j i, by omega, fun _ => ⟨0, 0, _, vm_metA (rm_u x1) (by rw [e3 (j + i) (by omega), dX i (by omega)]; rfl), Nat.zero_le _, Nat.zero_le _, ?_⟩⟩⟩⟩⟩
    rintro _ h5 ⟨rfl, e5⟩
    rw [e5]; clear e5 h5
    refine ⟨_, _, m7, rfl, ⟨64, fh, eh7, i, rfl, by omega, fun _ => ⟨0, 0, _, vm_metA (rm_u x2) (by rw [vh i hi]; rfl), Nat.zero_le _, Nat.zero_le _, ?_⟩⟩⟩
    rintro _ h5 ⟨rfl, e5⟩
    rw [e5]; clear e5 h5
    obtain ⟨S, eS⟩ : ∃ S, (X % 4294967296 ^ i + H % 4294967296 ^ i) / 4294967296 ^ i + dw X i + dw H i = S := ⟨_, rfl⟩
    obtain ⟨m1, m2⟩ := pl_st (X := X) (Y := H) i
    rw [eS] at m1 m2
    refine vm_Th (lv' := [(0, .ref a), (1, .ref M), (2, .int (nI j)), (7, .long (lZ (S : Int))), (9, .int (nI i))]) (h' := h7) ?_ rfl ?_
    · have : lZ (S : Int) = lZ (((X % 4294967296 ^ i + H % 4294967296 ^ i) / 4294967296 ^ i : Nat) : Int) + (lZ (dw X i : Nat) + lZ (dw H i : Nat)) := by
        rw [lZ_add, lZ_add, ← eS]
        congr 1
        omega
      rw [this]; rfl
    refine vm_go rfl bX14_takesx_181 oX14_takesx_181 ⟨_, _, o7, rfl, ⟨130, t', e1, hlt, j + i, nI_add j i, by omega, ?_⟩⟩
    refine vm_Th (lv' := [(0, .ref a), (1, .ref M), (2, .int (nI j)), (7, .long (lZ ((X % 4294967296 ^ (i + 1) + H % 4294967296 ^ (i + 1)) / 4294967296 ^ (i + 1) : Nat))), (9, .int (nI i))]) (h' := vm_up h7 (a + 1) (.inl (.int, 130, .inl (upd t' (j + i) (nI (dw (X + H) i)))))) ?_ ?_ ?_
    · rw [← m2, ← lZ_u32 (S := S) (by omega)]; rfl
    · rw [← m1, show nI (S % 4294967296) = (lZ (S : Int)).toInt32 by rw [lZ_i]; rfl]
    refine vm_go rfl bX14_takesx_200 oX14_takesx_200 ?_
    refine vm_Th (lv' := [(0, .ref a), (1, .ref M), (2, .int (nI j)), (7, .long (lZ ((X % 4294967296 ^ (i + 1) + H % 4294967296 ^ (i + 1)) / 4294967296 ^ (i + 1) : Nat))), (9, .int (nI (i + 1)))]) (h' := vm_up h7 (a + 1) (.inl (.int, 130, .inl (upd t' (j + i) (nI (dw (X + H) i)))))) (by rw [← nI_1]; rfl) rfl ?_
    refine ih _ ⟨⟨_, vm_upe, fun k hk => ?_, fun k hk => ?_⟩, fr_trans F7 (fr_up rfl)⟩
    · by_cases e : k = i
      · rw [e]; exact upd_e
      · rw [upd_n (by omega)]; exact e2 k (by omega)
    · rw [upd_n (by omega)]; exact e3 k (by omega)
  rintro h7 ⟨⟨t', e1, e2, e3⟩, F7⟩
  have m7 : h7.2 M = _ := (F7.2 M haM).trans k1
  have o7 : h7.2 a = RO a g := (F7.2 a (by omega)).trans ho
  refine vm_go rfl bX14_takesx_144 oX14_takesx_144 ⟨_, _, m7, rfl, ⟨fun _ => ?_, fun q => absurd (nI_le (a := n) (b := n) (Nat.le_refl _) (by omega)) q⟩⟩
  have ci := cl n
  obtain ⟨cy, ecy⟩ : ∃ cy, (X % 4294967296 ^ n + H % 4294967296 ^ n) / 4294967296 ^ n = cy := ⟨_, rfl⟩
  rw [ecy] at ci ⊢
  obtain ⟨m1, _⟩ := pl_st (X := X) (Y := H) n
  rw [ecy, dw_ab hHl (Nat.le_refl n), Nat.add_zero] at m1
  have eT : ∀ k, k < n + 1 → dw (X + H) k = dw (U + H - Y) k := fun k hk => by
    rw [← dw_mod (X := X + H) (n := n + 1) hk, show X + H = U + H - Y + 4294967296 ^ (n + 1) by omega, Nat.add_mod_right, dw_mod hk]
  have ev : t' (j + n) + (lZ (cy : Int)).toInt32 = nI (dw (X + H) n) := by
    rw [e3 (j + n) (by omega), dX n (by omega), lZ_i, ← m1]
    rw [show nI (dw X n) + nI ((cy : Int) % 4294967296).toNat = nI (dw X n + ((cy : Int) % 4294967296).toNat) from nI_add _ _]
    refine nI_m ?_
    rw [Nat.mod_mod]
    omega
  refine vm_go rfl bX14_takesx_206 oX14_takesx_206 ⟨_, _, o7, rfl, ⟨_, _, m7, rfl, ⟨130, t', e1, j + n, nI_add j n, by omega, fun _ => ⟨130, t', e1, hlt, j + n, nI_add j n, by omega, ⟨rfl, ?_, fr_trans F7 (fr_up rfl)⟩⟩⟩⟩⟩
  refine fin _ (upd t' (j + n) (t' (j + n) + (lZ (cy : Int)).toInt32)) _ vm_upe (fun k hk => ?_) (fun k hk => ?_)
  · rw [upd_n (by omega), e3 k (by omega)]; exact l6 k hk
  · by_cases e : k = n
    · rw [e, upd_e, ev, eT n (by omega)]
    · rw [upd_n (by omega), e2 k (by omega), eT k hk]
end
