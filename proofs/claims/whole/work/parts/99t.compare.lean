/-! the reference: compare, plus -/
def bX14_plusx_0 : List vm_J := [(1, .lconst 0, 0, 0, 0, .long 0), (2, .lstore 4, 0, 0, 0, .null), (1, .iconst 0, 0, 0, 0, .int 0), (2, .istore 6, 0, 0, 0, .null)]
set_option maxRecDepth 20000 in
theorem oX14_plusx_0 : vm_okB 14 mX14_plus 0 bX14_plusx_0 = true := by decide +kernel
def bX14_plusx_6 : List vm_J := [(2, .iload 6, 0, 0, 0, .null), (1, .iload_n 3, 0, 0, 0, .null), (3, .if_icmp .ge 43, 52, 0, 0, .null), (2, .lload 4, 0, 0, 0, .null), (1, .aload_n 0, 0, 0, 0, .null), (2, .iload 6, 0, 0, 0, .null), (1, .iaload, 0, 0, 0, .null), (3, .invokestatic 9, 138, 1, 0, .null), (1, .aload_n 1, 0, 0, 0, .null), (2, .iload 6, 0, 0, 0, .null), (1, .iaload, 0, 0, 0, .null), (3, .invokestatic 9, 138, 1, 0, .null), (1, .ladd, 0, 0, 0, .null), (1, .ladd, 0, 0, 0, .null), (2, .lstore 4, 0, 0, 0, .null)]
set_option maxRecDepth 20000 in
theorem oX14_plusx_6 : vm_okB 14 mX14_plus 6 bX14_plusx_6 = true := by decide +kernel
def bX14_plusx_32 : List vm_J := [(1, .aload_n 2, 0, 0, 0, .null), (2, .iload 6, 0, 0, 0, .null), (2, .lload 4, 0, 0, 0, .null), (1, .l2i, 0, 0, 0, .null), (1, .iastore, 0, 0, 0, .null), (2, .lload 4, 0, 0, 0, .null), (2, .bipush 32, 0, 0, 0, .int 32), (1, .lushr, 0, 0, 0, .null), (2, .lstore 4, 0, 0, 0, .null)]
set_option maxRecDepth 20000 in
theorem oX14_plusx_32 : vm_okB 14 mX14_plus 32 bX14_plusx_32 = true := by decide +kernel
def bX14_plusx_46 : List vm_J := [(3, .iinc 6 1, 0, 0, 0, .int 1), (3, .goto (-43), 6, 0, 0, .null)]
set_option maxRecDepth 20000 in
theorem oX14_plusx_46 : vm_okB 14 mX14_plus 46 bX14_plusx_46 = true := by decide +kernel
def bX14_plusx_52 : List vm_J := [(2, .lload 4, 0, 0, 0, .null), (1, .l2i, 0, 0, 0, .null), (1, .ireturn, 0, 0, 0, .null)]
set_option maxRecDepth 20000 in
theorem oX14_plusx_52 : vm_okB 14 mX14_plus 52 bX14_plusx_52 = true := by decide +kernel
theorem dw_d (X k : Nat) : X / 4294967296 ^ k = 4294967296 * (X / 4294967296 ^ (k + 1)) + dw X k := by
  unfold dw
  rw [Nat.pow_succ, ← Nat.div_div_eq_div_mul]
  omega
theorem dw_m (X k : Nat) : X % 4294967296 ^ (k + 1) = X % 4294967296 ^ k + 4294967296 ^ k * dw X k := Nat.mod_pow_succ
theorem dw_lt9 {X Y k : Nat} (h : X / 4294967296 ^ k < Y / 4294967296 ^ k) : X < Y := by
  rcases Nat.lt_or_ge X Y with q | q
  · exact q
  · exact absurd (Nat.div_le_div_right (c := 4294967296 ^ k) q) (by omega)
theorem rd_al {h h1 : vm_H} {L1 L3 a c i : Nat} {f t t' : Nat → Int32} (ha : ia h L1 a f) (hc : ia h L3 c t) (F : fr h h1 (fun q => q = c)) (e1 : ia h1 L3 c t') (e3 : t' i = t i) : ∃ f', ia h1 L1 a f' ∧ f' i = f i := by
  by_cases e : a = c
  · have : L1 = L3 ∧ f = t := by
      have ha : h.2 a = _ := ha
      have hb : h.2 c = _ := hc
      rw [e, hb] at ha
      injection ha with ha
      injection ha with _ ha
      injection ha with q1 ha
      injection ha with ha
      exact ⟨q1.symm, ha.symm⟩
    refine ⟨t', by rw [e, this.1]; exact e1, ?_⟩
    rw [e3, this.2]
  · exact ⟨f, (F.2 a e).trans ha, rfl⟩
theorem lc_lt {a b : Nat} (hb : b < 4294967296) (h : a < b) : lg_cmp (lZ (a : Int)) (lZ (b : Int)) = -1 := by
  unfold lg_cmp
  rw [if_neg, if_neg]
  · intro e
    rw [lZ_inj (by omega) (by omega) (by omega) (by omega)] at e
    omega
  · intro e
    have e : lZ (b : Int) < lZ (a : Int) := e
    rw [lZ_lt (by omega) (by omega) (by omega) (by omega)] at e
    omega
theorem lc_gt {a b : Nat} (ha : a < 4294967296) (h : b < a) : lg_cmp (lZ (a : Int)) (lZ (b : Int)) = 1 := by
  unfold lg_cmp
  rw [if_pos]
  show lZ (b : Int) < lZ (a : Int)
  rw [lZ_lt (by omega) (by omega) (by omega) (by omega)]
  omega
theorem lZ_u32 {S : Nat} (h : S < 18446744073709551616) : ((lZ (S : Int)).toUInt64 >>> ((32 : Int32).toInt64.toUInt64 &&& Int64.toUInt64 63)).toInt64 = lZ ((S / 4294967296 : Nat) : Int) := by
  rw [lZ_ushr (z := (S : Int)) (k := 32) (by omega) (by omega) (by decide)]
  rfl
theorem pl_st {X Y : Nat} (i : Nat) : ((X % 4294967296 ^ i + Y % 4294967296 ^ i) / 4294967296 ^ i + dw X i + dw Y i) % 4294967296 = dw (X + Y) i ∧ ((X % 4294967296 ^ i + Y % 4294967296 ^ i) / 4294967296 ^ i + dw X i + dw Y i) / 4294967296 = (X % 4294967296 ^ (i + 1) + Y % 4294967296 ^ (i + 1)) / 4294967296 ^ (i + 1) := by
  have p : 0 < 4294967296 ^ i := Nat.pow_pos (by decide)
  constructor
  · have e : (X + Y) / 4294967296 ^ i = X / 4294967296 ^ i + Y / 4294967296 ^ i + (X % 4294967296 ^ i + Y % 4294967296 ^ i) / 4294967296 ^ i := by
      have q1 := Nat.div_add_mod X (4294967296 ^ i)
      have q2 := Nat.div_add_mod Y (4294967296 ^ i)
      have : X + Y = X % 4294967296 ^ i + Y % 4294967296 ^ i + 4294967296 ^ i * (X / 4294967296 ^ i + Y / 4294967296 ^ i) := by
        rw [Nat.mul_add]; omega
      rw [this, Nat.add_mul_div_left _ _ p]
      omega
    unfold dw
    rw [e]
    omega
  · have e : (X % 4294967296 ^ i + Y % 4294967296 ^ i) / 4294967296 ^ i + dw X i + dw Y i = (X % 4294967296 ^ (i + 1) + Y % 4294967296 ^ (i + 1)) / 4294967296 ^ i := by
      rw [dw_m, dw_m, show X % 4294967296 ^ i + 4294967296 ^ i * dw X i + (Y % 4294967296 ^ i + 4294967296 ^ i * dw Y i) = X % 4294967296 ^ i + Y % 4294967296 ^ i + 4294967296 ^ i * (dw X i + dw Y i) by rw [Nat.mul_add]; omega, Nat.add_mul_div_left _ _ p]
      omega
    rw [e, Nat.div_div_eq_div_mul, ← Nat.pow_succ]
section
variable {l : Launch} {O : Nat → vm_Ob} {f9 : Value} {h : vm_H}
theorem rm_cmp {L1 L2 a b n X Y : Nat} (ha : wv h L1 a n X) (hb : wv h L2 b n Y) (h1 : n ≤ L1) (h2 : n ≤ L2) (hn : n < 65536) (hX : X < 4294967296 ^ n) (hY : Y < 4294967296 ^ n) : vm_Met (vm_env l O f9) mX14_compare 0 0 [.ref a, .ref b, .int (nI n)] h (fun r h' => ((X < Y ∧ r = some (.int (-1))) ∨ (X = Y ∧ r = some (.int 0)) ∨ (Y < X ∧ r = some (.int 1))) ∧ h' = h) := by
  obtain ⟨f, ef, vf⟩ := ha
  obtain ⟨g, eg, vg⟩ := hb
  suffices H : ∀ Q : Option Value → vm_H → Prop, (X < Y → Q (some (.int (-1))) h) → (X = Y → Q (some (.int 0)) h) → (Y < X → Q (some (.int 1)) h) → vm_Met (vm_env l O f9) mX14_compare 0 0 [.ref a, .ref b, .int (nI n)] h Q from H _ (fun q => ⟨Or.inl ⟨q, rfl⟩, rfl⟩) (fun q => ⟨Or.inr (Or.inl ⟨q, rfl⟩), rfl⟩) (fun q => ⟨Or.inr (Or.inr ⟨q, rfl⟩), rfl⟩)
  intro Q q1 q2 q3
  refine vm_met rfl (Nat.le_of_ble_eq_true rfl) ?_
  refine vm_go rfl bX14_compare_0 oX14_compare_0 ?_
  have T : ∀ i, i ≤ n → X / 4294967296 ^ i = Y / 4294967296 ^ i → vm_T (vm_env l O f9) mX14_compare 0 0 4 [(0, .ref a), (1, .ref b), (2, .int (nI n)), (3, .int (iZ ((i : Int) - 1)))] [] h Q := by
    intro i
    induction i with
    | zero =>
      intro _ e
      refine vm_go rfl bX14_compare_4 oX14_compare_4 ⟨fun _ => vm_go rfl bX14_compare_45 oX14_compare_45 (q2 ?_), fun q => absurd (show iZ (((0 : Nat) : Int) - 1) < 0 by decide) q⟩
      rw [Nat.pow_zero, Nat.div_one, Nat.div_one] at e
      exact e
    | succ i ih =>
      intro hi e
      have ei : iZ (((i + 1 : Nat) : Int) - 1) = nI i := by
        rw [iZ_nI]; congr 1; omega
      rw [ei]
      have hx := dw_d X i
      have hy := dw_d Y i
      rw [e] at hx
      have x1 := dw_lt X i
      have x2 := dw_lt Y i
      refine vm_go rfl bX14_compare_4 oX14_compare_4 ⟨fun q => absurd (show nI i < nI 0 from q) (by rw [nI_ltI (by omega) (by decide)]; omega), fun _ => ⟨L1, f, ef, i, rfl, by omega, fun _ => ⟨L2, g, eg, i, rfl, by omega, fun _ => ⟨fun q => ?_, fun q => ?_⟩⟩⟩⟩
      · have q : f i = g i := q
        rw [vf i (by omega), vg i (by omega)] at q
        have := nI_inj x1 x2 q
        refine vm_go rfl bX14_compare_39 oX14_compare_39 ?_
        refine vm_Th (lv' := [(0, .ref a), (1, .ref b), (2, .int (nI n)), (3, .int (iZ ((i : Int) - 1)))]) (h' := h) ?_ rfl (ih (by omega) (by omega))
        have : iZ ((i : Int) - 1) = nI i + (-1) := by
          rw [iZ_nI, show (-1 : Int32) = iZ (-1) by decide, iZ_add]; rfl
        rw [this]; rfl
      · have q : ¬ f i = g i := q
        rw [vf i (by omega), vg i (by omega)] at q
        have hne : dw X i ≠ dw Y i := fun z => q (by rw [z])
        refine ⟨L1, f, ef, i, rfl, by omega, fun _ => ⟨0, 0, _, vm_metA (rm_u x1) (by rw [vf i (by omega)]; rfl), Nat.zero_le _, Nat.zero_le _, ?_⟩⟩
        rintro _ h3 ⟨rfl, e3⟩
        rw [e3]; clear e3 h3
        refine ⟨L2, g, eg, i, rfl, by omega, fun _ => ⟨0, 0, _, vm_metA (rm_u x2) (by rw [vg i (by omega)]; rfl), Nat.zero_le _, Nat.zero_le _, ?_⟩⟩
        rintro _ h3 ⟨rfl, e3⟩
        rw [e3]; clear e3 h3
        rcases Nat.lt_or_ge (dw X i) (dw Y i) with y | y
        · refine ⟨fun q => absurd (show 0 ≤ lg_cmp (lZ (dw X i : Nat)) (lZ (dw Y i : Nat)) from q) ?_, fun _ => vm_go rfl bX14_compare_38 oX14_compare_38 (q1 (dw_lt9 (k := i) (by omega)))⟩
          rw [lc_lt x2 y]; decide
        · refine ⟨fun _ => vm_go rfl bX14_compare_37 oX14_compare_37 (vm_go rfl bX14_compare_38 oX14_compare_38 (q3 (dw_lt9 (k := i) (by omega)))), fun q => absurd (show 0 ≤ lg_cmp (lZ (dw X i : Nat)) (lZ (dw Y i : Nat)) from ?_) q⟩
          rw [lc_gt x1 (by omega)]; decide
  refine vm_Th (lv' := [(0, .ref a), (1, .ref b), (2, .int (nI n)), (3, .int (iZ ((n : Int) - 1)))]) (h' := h) ?_ rfl (T n (Nat.le_refl _) ?_)
  · have : iZ ((n : Int) - 1) = nI n - 1 := by
      rw [iZ_nI, show (1 : Int32) = iZ 1 by decide, iZ_sub]
    rw [this]; rfl
  · rw [Nat.div_eq_of_lt hX, Nat.div_eq_of_lt hY]
set_option maxHeartbeats 1000000 in
theorem rm_plus {L1 L2 L3 a b c n X Y : Nat} {t : Nat → Int32} (ha : wv h L1 a n X) (hb : wv h L2 b n Y) (hc : ia h L3 c t) (h1 : n ≤ L1) (h2 : n ≤ L2) (h3 : n ≤ L3) (hn : n < 65536) (hco : c < 1099511627776) (hX : X < 4294967296 ^ n) (hY : Y < 4294967296 ^ n) : vm_Met (vm_env l O f9) mX14_plus 0 0 [.ref a, .ref b, .ref c, .int (nI n)] h (fun r h' => r = some (.int (nI ((X + Y) / 4294967296 ^ n))) ∧ (∃ t', ia h' L3 c t' ∧ (∀ k, k < n → t' k = nI (dw (X + Y) k)) ∧ ∀ k, n ≤ k → t' k = t k) ∧ fr h h' (fun q => q = c)) := by
  obtain ⟨f, ef, vf⟩ := ha
  obtain ⟨g, eg, vg⟩ := hb
  refine vm_met rfl (Nat.le_of_ble_eq_true rfl) ?_
  refine vm_go rfl bX14_plus_0 oX14_plus_0 ?_
  have cl : ∀ i, (X % 4294967296 ^ i + Y % 4294967296 ^ i) / 4294967296 ^ i < 2 := by
    intro i
    have p : 0 < 4294967296 ^ i := Nat.pow_pos (by decide)
    have q1 := Nat.mod_lt X p
    have q2 := Nat.mod_lt Y p
    rw [Nat.div_lt_iff_lt_mul p]
    omega
  refine vm_Th (lv' := [(0, .ref a), (1, .ref b), (2, .ref c), (3, .int (nI n)), (4, .long (lZ ((X % 4294967296 ^ 0 + Y % 4294967296 ^ 0) / 4294967296 ^ 0 : Nat))), (6, .int (nI 0))]) (h' := h) (by rw [Nat.pow_zero, Nat.mod_one, Nat.mod_one]; rfl) rfl ?_
  refine vm_loop (fun i h' => (∃ t', ia h' L3 c t' ∧ (∀ k, k < i → t' k = nI (dw (X + Y) k)) ∧ ∀ k, i ≤ k → t' k = t k) ∧ fr h h' (fun q => q = c)) n (fun i => [(0, .ref a), (1, .ref b), (2, .ref c), (3, .int (nI n)), (4, .long (lZ ((X % 4294967296 ^ i + Y % 4294967296 ^ i) / 4294967296 ^ i : Nat))), (6, .int (nI i))]) 0 h (Nat.zero_le _) ⟨⟨t, hc, fun k hk => by omega, fun k _ => rfl⟩, fr_refl⟩ ?_ ?_
  · rintro h4 ⟨ht, F4⟩
    refine vm_go rfl bX14_plus_6 oX14_plus_6 ⟨fun _ => ?_, fun q => absurd (nI_le (a := n) (b := n) (Nat.le_refl _) (by omega)) q⟩
    refine vm_go rfl bX14_plus_52 oX14_plus_52 ⟨?_, ht, F4⟩
    have cn := cl n
    rw [Nat.mod_eq_of_lt hX, Nat.mod_eq_of_lt hY] at cn ⊢
    obtain ⟨u, eu⟩ : ∃ u, (X + Y) / 4294967296 ^ n = u := ⟨_, rfl⟩
    rw [eu] at cn ⊢
    rw [lZ_i]
    congr 3
    omega
  · rintro i h4 _ hi ⟨⟨t', e1, e2, e3⟩, F4⟩ ih
    obtain ⟨f', ef', vf'⟩ := rd_al ef hc F4 e1 (e3 i (Nat.le_refl _))
    obtain ⟨g', eg', vg'⟩ := rd_al eg hc F4 e1 (e3 i (Nat.le_refl _))
    have x1 := dw_lt X i
    have x2 := dw_lt Y i
    have ci := cl i
    refine vm_go rfl bX14_plusx_6 oX14_plusx_6 ⟨fun q => absurd q (nI_ge hi (by omega)), fun _ => ⟨L1, f', ef', i, rfl, by omega, fun _ => ⟨0, 0, _, vm_metA (rm_u x1) (by rw [vf', vf i (by omega)]; rfl), Nat.zero_le _, Nat.zero_le _, ?_⟩⟩⟩
    rintro _ h5 ⟨rfl, e5⟩
    rw [e5]; clear e5 h5
    refine ⟨L2, g', eg', i, rfl, by omega, fun _ => ⟨0, 0, _, vm_metA (rm_u x2) (by rw [vg', vg i (by omega)]; rfl), Nat.zero_le _, Nat.zero_le _, ?_⟩⟩
    rintro _ h5 ⟨rfl, e5⟩
    rw [e5]; clear e5 h5
    obtain ⟨S, eS⟩ : ∃ S, (X % 4294967296 ^ i + Y % 4294967296 ^ i) / 4294967296 ^ i + dw X i + dw Y i = S := ⟨_, rfl⟩
    obtain ⟨m1, m2⟩ := pl_st (X := X) (Y := Y) i
    rw [eS] at m1 m2
    refine vm_Th (lv' := [(0, .ref a), (1, .ref b), (2, .ref c), (3, .int (nI n)), (4, .long (lZ (S : Int))), (6, .int (nI i))]) (h' := h4) ?_ rfl ?_
    · have : lZ (S : Int) = lZ (((X % 4294967296 ^ i + Y % 4294967296 ^ i) / 4294967296 ^ i : Nat) : Int) + (lZ (dw X i : Nat) + lZ (dw Y i : Nat)) := by
        rw [lZ_add, lZ_add, ← eS]
        congr 1
        omega
      rw [this]; rfl
    refine vm_go rfl bX14_plusx_32 oX14_plusx_32 ⟨L3, t', e1, hco, i, rfl, by omega, ?_⟩
    refine vm_Th (lv' := [(0, .ref a), (1, .ref b), (2, .ref c), (3, .int (nI n)), (4, .long (lZ ((X % 4294967296 ^ (i + 1) + Y % 4294967296 ^ (i + 1)) / 4294967296 ^ (i + 1) : Nat))), (6, .int (nI i))]) (h' := vm_up h4 c (.inl (.int, L3, .inl (upd t' i (nI (dw (X + Y) i)))))) ?_ ?_ ?_
    · rw [← m2, ← lZ_u32 (S := S) (by omega)]; rfl
    · rw [← m1, show nI (S % 4294967296) = (lZ (S : Int)).toInt32 by rw [lZ_i]; rfl]
    refine vm_go rfl bX14_plusx_46 oX14_plusx_46 ?_
    refine vm_Th (lv' := [(0, .ref a), (1, .ref b), (2, .ref c), (3, .int (nI n)), (4, .long (lZ ((X % 4294967296 ^ (i + 1) + Y % 4294967296 ^ (i + 1)) / 4294967296 ^ (i + 1) : Nat))), (6, .int (nI (i + 1)))]) (h' := vm_up h4 c (.inl (.int, L3, .inl (upd t' i (nI (dw (X + Y) i)))))) (by rw [← nI_1]; rfl) rfl ?_
    refine ih _ ⟨⟨_, vm_upe, fun k hk => ?_, fun k hk => ?_⟩, fr_trans F4 (fr_up rfl)⟩
    · by_cases e : k = i
      · rw [e]; exact upd_e
      · rw [upd_n e]; exact e2 k (by omega)
    · rw [upd_n (by omega)]; exact e3 k (by omega)
end
