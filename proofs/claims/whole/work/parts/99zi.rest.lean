/-! the reference: rest (long division) -/
section
variable {l : Launch} {O : Nat → vm_Ob} {f9 : Value} {h : vm_H} {Q : Option Value → vm_H → Prop}
theorem rest_A {a M c n many sh X : Nat} {g : Nat → Int32} (ho : h.2 a = RO a g) (w : wv h 130 (a + 1) many X) (hX : X < 4294967296 ^ many) (hm0 : 1 ≤ many) (hm : many ≤ 128) (hs : sh < 32) (hao : a + 300 < 1099511627776) (k : ∀ h', wv h' 130 (a + 1) (many + 1) (X * 2 ^ sh) → fr h h' (fun q => q = a + 1) → vm_T (vm_env l O f9) mX14_rest 0 0 104 [(0, .ref a), (1, .ref M), (2, .int (nI many)), (3, .ref c), (4, .int (nI n)), (5, .int (nI sh))] [] h' Q) : vm_T (vm_env l O f9) mX14_rest 0 0 12 [(0, .ref a), (1, .ref M), (2, .int (nI many)), (3, .ref c), (4, .int (nI n)), (5, .int (nI sh))] [] h Q := by
  have hP := p2_32 (s := sh) (by omega)
  have hR : 0 < 2 ^ sh := Nat.pow_pos (by decide)
  have hlt : a + 1 < 1099511627776 := by omega
  obtain ⟨f, ef, vf⟩ := w
  have TT : ∀ i, i ≤ many → ∀ (h4 : vm_H) (t : Nat → Int32), ia h4 130 (a + 1) t → (∀ k, k < i → t k = nI (dw X k)) → (∀ k, i ≤ k → k ≤ many → t k = nI (dw (X * 2 ^ sh) k)) → fr h h4 (fun q => q = a + 1) → vm_T (vm_env l O f9) mX14_rest 0 0 46 [(0, .ref a), (1, .ref M), (2, .int (nI many)), (3, .ref c), (4, .int (nI n)), (5, .int (nI sh)), (6, .int (iZ ((i : Int) - 1)))] [] h4 Q := by
    intro i
    induction i with
    | zero =>
      intro _ h4 t e1 e2 e3 F4
      refine vm_go rfl bX14_restx_46 oX14_restx_46 ⟨fun _ => ?_, fun q => absurd (show iZ (((0 : Nat) : Int) - 1) < 0 by decide) q⟩
      exact vm_less [0, 1, 2, 3, 4, 5] rfl (k h4 ⟨t, e1, fun k hk => e3 k (by omega) (by omega)⟩ F4)
    | succ i ih =>
      intro hi h4 t e1 e2 e3 F4
      have ei : iZ (((i + 1 : Nat) : Int) - 1) = nI i := by
        rw [iZ_nI]; congr 1; omega
      rw [ei]
      have o4 : h4.2 a = RO a g := (F4.2 a (by omega)).trans ho
      have t96 : ∀ x : Int32, nI (dw X i) <<< (nI sh &&& 31) ||| x = nI (dw (X * 2 ^ sh) i) → vm_T (vm_env l O f9) mX14_rest 0 0 96 [(0, .ref a), (1, .ref M), (2, .int (nI many)), (3, .ref c), (4, .int (nI n)), (5, .int (nI sh)), (6, .int (nI i))] [.int x, .int (nI (dw X i) <<< (nI sh &&& 31)), .int (nI i), .ref (a + 1)] h4 Q := by
        intro x hx
        refine vm_go rfl bX14_restx_96 oX14_restx_96 ⟨130, t, e1, hlt, i, rfl, by omega, ?_⟩
        refine vm_Th (lv' := [(0, .ref a), (1, .ref M), (2, .int (nI many)), (3, .ref c), (4, .int (nI n)), (5, .int (nI sh)), (6, .int (iZ ((i : Int) - 1)))]) (h' := vm_up h4 (a + 1) (.inl (.int, 130, .inl (upd t i (nI (dw (X * 2 ^ sh) i)))))) ?_ (by rw [← hx]) ?_
        · have : iZ ((i : Int) - 1) = nI i + (-1) := by
            rw [iZ_nI, show (-1 : Int32) = iZ (-1) by decide, iZ_add]; rfl
          rw [this]; rfl
        refine ih (by omega) _ _ vm_upe (fun k hk => ?_) (fun k h1 h2 => ?_) (fr_trans F4 (fr_up rfl))
        · rw [upd_n (by omega)]; exact e2 k (by omega)
        · by_cases e : k = i
          · rw [e]; exact upd_e
          · rw [upd_n e]; exact e3 k (by omega) h2
      have n0 : ¬ nI i < (0 : Int32) := by
        show ¬ nI i < nI 0
        rw [nI_ltI (by omega) (by decide)]; omega
      have eA := nI_sx (x := dw X i) hs
      have ev : t i = nI (dw X i) := e2 i (by omega)
      have hdx := dw_lt X i
      by_cases s0 : sh = 0
      · have c1 : nI sh ≤ (0 : Int32) := by rw [s0]; decide
        refine vm_go rfl bX14_restx_46 oX14_restx_46 ⟨fun q => absurd q n0, fun _ => ⟨_, _, o4, rfl, ⟨_, _, o4, rfl, ⟨130, t, e1, i, rfl, by omega, fun _ => ⟨fun _ => ?_, fun q => absurd c1 q⟩⟩⟩⟩⟩
        rw [ev]
        refine vm_go rfl bX14_restx_95 oX14_restx_95 (t96 0 ?_)
        rw [eA, Int32.or_zero, s0]
        show nI (dw X i % 4294967296 * 1) = nI (dw (X * 1) i)
        rw [Nat.mul_one, Nat.mul_one, Nat.mod_eq_of_lt hdx]
      · have c1 : ¬ nI sh ≤ (0 : Int32) := by
          show ¬ nI sh ≤ nI 0
          rw [nI_leI (by omega) (by decide)]; omega
        by_cases i0 : i = 0
        · have c2 : nI i ≤ (0 : Int32) := by rw [i0]; decide
          refine vm_go rfl bX14_restx_46 oX14_restx_46 ⟨fun q => absurd q n0, fun _ => ⟨_, _, o4, rfl, ⟨_, _, o4, rfl, ⟨130, t, e1, i, rfl, by omega, fun _ => ⟨fun q => absurd q c1, fun _ => ⟨fun _ => ?_, fun q => absurd c2 q⟩⟩⟩⟩⟩⟩
          rw [ev]
          refine vm_go rfl bX14_restx_95 oX14_restx_95 (t96 0 ?_)
          rw [eA, Int32.or_zero, i0, shl_0 hP hR]
        · have c2 : ¬ nI i ≤ (0 : Int32) := by
            show ¬ nI i ≤ nI 0
            rw [nI_leI (by omega) (by decide)]; omega
          have ej : nI i - 1 = nI (i - 1) := nI_sub (b := 1) (by omega)
          refine vm_go rfl bX14_restx_46 oX14_restx_46 ⟨fun q => absurd q n0, fun _ => ⟨_, _, o4, rfl, ⟨_, _, o4, rfl, ⟨130, t, e1, i, rfl, by omega, fun _ => ⟨fun q => absurd q c1, fun _ => ⟨fun q => absurd q c2, fun _ => ⟨_, _, o4, rfl, ⟨130, t, e1, i - 1, ej, by omega, fun _ => ?_⟩⟩⟩⟩⟩⟩⟩⟩
          rw [ev]
          refine t96 _ ?_
          obtain ⟨j, rfl⟩ : ∃ j, i = j + 1 := ⟨i - 1, by omega⟩
          have hdj := dw_lt X j
          have hlow : dw X j / 2 ^ (32 - sh) < 2 ^ sh := by
            refine Nat.div_lt_of_lt_mul ?_
            rw [hP]; exact hdj
          have e5 : ((t (j + 1 - 1)).toUInt32 >>> ((32 - nI sh).toUInt32 &&& Int32.toUInt32 31)).toInt32 = nI (dw X j / 2 ^ (32 - sh)) := by
            rw [show j + 1 - 1 = j from rfl, e2 j (by omega), show (32 : Int32) - nI sh = nI (32 - sh) from nI_sub (a := 32) (by omega)]
            exact nI_ush hdj (by omega)
          rw [show ((t (j + 1 - 1)).toUInt32 >>> ((32 - nI sh).toUInt32 &&& Int32.toUInt32 31)).toInt32 = nI (dw X j / 2 ^ (32 - sh)) from e5, eA, or_l hdx hlow hs, shl_dw hP hR]
  have t40 : ∀ x : Int32, x = nI (dw (X * 2 ^ sh) many) → vm_T (vm_env l O f9) mX14_rest 0 0 40 [(0, .ref a), (1, .ref M), (2, .int (nI many)), (3, .ref c), (4, .int (nI n)), (5, .int (nI sh))] [.int x, .int (nI many), .ref (a + 1)] h Q := by
    intro x hx
    refine vm_go rfl bX14_restx_40 oX14_restx_40 ⟨130, f, ef, hlt, many, rfl, by omega, ?_⟩
    refine vm_Th (lv' := [(0, .ref a), (1, .ref M), (2, .int (nI many)), (3, .ref c), (4, .int (nI n)), (5, .int (nI sh)), (6, .int (iZ ((many : Int) - 1)))]) (h' := vm_up h (a + 1) (.inl (.int, 130, .inl (upd f many x)))) ?_ rfl ?_
    · have : iZ ((many : Int) - 1) = nI many - 1 := by
        rw [iZ_nI, show (1 : Int32) = iZ 1 by decide, iZ_sub]
      rw [this]; rfl
    refine TT many (Nat.le_refl _) _ _ vm_upe (fun k hk => ?_) (fun k h1 h2 => ?_) (fr_up rfl)
    · rw [upd_n (by omega)]; exact vf k hk
    · rw [show k = many by omega, upd_e, hx]
  have dm : dw X many = 0 := dw_ab hX (Nat.le_refl _)
  by_cases s0 : sh = 0
  · have c1 : nI sh ≤ (0 : Int32) := by rw [s0]; decide
    refine vm_go rfl bX14_restx_12 oX14_restx_12 ⟨_, _, ho, rfl, ⟨fun _ => ?_, fun q => absurd c1 q⟩⟩
    refine vm_go rfl bX14_restx_39 oX14_restx_39 (t40 0 ?_)
    rw [s0, Nat.pow_zero, Nat.mul_one, dm]; rfl
  · have c1 : ¬ nI sh ≤ (0 : Int32) := by
      show ¬ nI sh ≤ nI 0
      rw [nI_leI (by omega) (by decide)]; omega
    have ej : nI many - 1 = nI (many - 1) := nI_sub (b := 1) (by omega)
    refine vm_go rfl bX14_restx_12 oX14_restx_12 ⟨_, _, ho, rfl, ⟨fun q => absurd q c1, fun _ => ⟨_, _, ho, rfl, ⟨130, f, ef, many - 1, ej, by omega, fun _ => ?_⟩⟩⟩⟩
    refine t40 _ ?_
    obtain ⟨j, rfl⟩ : ∃ j, many = j + 1 := ⟨many - 1, by omega⟩
    have hdj := dw_lt X j
    rw [shl_dw hP hR, dm, Nat.zero_mod, Nat.zero_mul, Nat.zero_add]
    rw [show j + 1 - 1 = j from rfl, vf j (by omega), show (32 : Int32) - nI sh = nI (32 - sh) from nI_sub (a := 32) (by omega)]
    exact nI_ush hdj (by omega)
theorem rest_C {a M c n many sh V L3 : Nat} {g : Nat → Int32} (ho : h.2 a = RO a g) (w : wv h 130 (a + 1) (n + 1) V) (hn : n ≤ 64) (hc : iw h L3 c) (h3 : n ≤ L3) (hco : c < 1099511627776) (hca : c ≠ a + 1) (hs : sh < 32) (k : ∀ h', wv h' L3 c n (V / 2 ^ sh) → fr h h' (fun q => q = c) → Q none h') : vm_T (vm_env l O f9) mX14_rest 0 0 310 [(0, .ref a), (1, .ref M), (2, .int (nI many)), (3, .ref c), (4, .int (nI n)), (5, .int (nI sh))] [] h Q := by
  have hP := p2_32 (s := sh) (by omega)
  have hR : 0 < 2 ^ sh := Nat.pow_pos (by decide)
  obtain ⟨f, ef, vf⟩ := w
  obtain ⟨t0, et⟩ := hc
  have hc0 : c ≠ a := fun z => by
    have et : h.2 c = _ := et
    rw [z, ho] at et
    cases et
  refine vm_go rfl bX14_restx_310 oX14_restx_310 ?_
  refine vm_Th (lv' := [(0, .ref a), (1, .ref M), (2, .int (nI many)), (3, .ref c), (4, .int (nI n)), (5, .int (nI sh)), (8, .int (nI 0))]) (h' := h) rfl rfl ?_
  refine vm_loop (fun i h' => (∃ t', ia h' L3 c t' ∧ ∀ k, k < i → t' k = nI (dw (V / 2 ^ sh) k)) ∧ fr h h' (fun q => q = c)) n (fun i => [(0, .ref a), (1, .ref M), (2, .int (nI many)), (3, .ref c), (4, .int (nI n)), (5, .int (nI sh)), (8, .int (nI i))]) 0 h (Nat.zero_le _) ⟨⟨t0, et, fun k hk => by omega⟩, fr_refl⟩ ?_ ?_
  · rintro h4 ⟨⟨t', e1, e2⟩, F4⟩
    refine vm_go rfl bX14_restx_313 oX14_restx_313 ⟨fun _ => ?_, fun q => absurd (nI_le (a := n) (b := n) (Nat.le_refl _) (by omega)) q⟩
    exact vm_go rfl bX14_restx_365 oX14_restx_365 (k h4 ⟨t', e1, e2⟩ F4)
  · rintro i h4 _ hi ⟨⟨t', e1, e2⟩, F4⟩ ih
    have o4 : h4.2 a = RO a g := (F4.2 a (fun z => hc0 z.symm)).trans ho
    have ef4 : ia h4 130 (a + 1) f := (F4.2 (a + 1) (fun z => hca z.symm)).trans ef
    have hdx := dw_lt V i
    have eu : ((f i).toUInt32 >>> ((nI sh).toUInt32 &&& Int32.toUInt32 31)).toInt32 = nI (dw V i / 2 ^ sh) := by
      rw [vf i (by omega)]; exact nI_ush hdx hs
    have t357 : ∀ x : Int32, nI (dw V i / 2 ^ sh) ||| x = nI (dw (V / 2 ^ sh) i) → vm_T (vm_env l O f9) mX14_rest 0 0 357 [(0, .ref a), (1, .ref M), (2, .int (nI many)), (3, .ref c), (4, .int (nI n)), (5, .int (nI sh)), (8, .int (nI i))] [.int x, .int ((f i).toUInt32 >>> ((nI sh).toUInt32 &&& Int32.toUInt32 31)).toInt32, .int (nI i), .ref c] h4 Q := by
      intro x hx
      refine vm_go rfl bX14_restx_357 oX14_restx_357 ⟨L3, t', e1, hco, i, rfl, by omega, ?_⟩
      refine vm_Th (lv' := [(0, .ref a), (1, .ref M), (2, .int (nI many)), (3, .ref c), (4, .int (nI n)), (5, .int (nI sh)), (8, .int (nI (i + 1)))]) (h' := vm_up h4 c (.inl (.int, L3, .inl (upd t' i (nI (dw (V / 2 ^ sh) i)))))) (by rw [← nI_1]; rfl) (by rw [← hx, ← eu]) ?_
      refine ih _ ⟨⟨_, vm_upe, fun k hk => ?_⟩, fr_trans F4 (fr_up rfl)⟩
      by_cases e : k = i
      · rw [e]; exact upd_e
      · rw [upd_n e]; exact e2 k (by omega)
    by_cases s0 : sh = 0
    · have c1 : nI sh ≤ (0 : Int32) := by rw [s0]; decide
      refine vm_go rfl bX14_restx_313 oX14_restx_313 ⟨fun q => absurd q (nI_ge hi (by omega)), fun _ => ⟨_, _, o4, rfl, ⟨130, f, ef4, i, rfl, by omega, fun _ => ⟨fun _ => ?_, fun q => absurd c1 q⟩⟩⟩⟩
      refine vm_go rfl bX14_restx_356 oX14_restx_356 (t357 0 ?_)
      rw [Int32.or_zero, s0, Nat.pow_zero, Nat.div_one, Nat.div_one]
    · have c1 : ¬ nI sh ≤ (0 : Int32) := by
        show ¬ nI sh ≤ nI 0
        rw [nI_leI (by omega) (by decide)]; omega
      refine vm_go rfl bX14_restx_313 oX14_restx_313 ⟨fun q => absurd q (nI_ge hi (by omega)), fun _ => ⟨_, _, o4, rfl, ⟨130, f, ef4, i, rfl, by omega, fun _ => ⟨fun q => absurd q c1, fun _ => ⟨_, _, o4, rfl, ⟨130, f, ef4, i + 1, nI_add i 1, by omega, fun _ => ?_⟩⟩⟩⟩⟩⟩
      refine t357 _ ?_
      have e5 : f (i + 1) <<< ((32 - nI sh) &&& 31) = nI (dw V (i + 1) % 2 ^ sh * 2 ^ (32 - sh)) := by
        rw [vf (i + 1) (by omega), show (32 : Int32) - nI sh = nI (32 - sh) from nI_sub (a := 32) (by omega), nI_sx (by omega), show 32 - (32 - sh) = sh by omega]
      rw [show f (i + 1) <<< ((32 - nI sh) &&& 31) = _ from e5, shr_dw hP hR]
      refine nI_or ?_ ?_
      · refine Nat.div_lt_of_lt_mul ?_
        rw [Nat.mul_comm, hP]; exact hdx
      · have h1 : dw V i / 2 ^ sh < 2 ^ (32 - sh) := by
          refine Nat.div_lt_of_lt_mul ?_
          rw [Nat.mul_comm, hP]; exact hdx
        have h2 := Nat.mod_lt (dw V (i + 1)) hR
        have h4 : dw V (i + 1) % 2 ^ sh * 2 ^ (32 - sh) ≤ (2 ^ sh - 1) * 2 ^ (32 - sh) := Nat.mul_le_mul_right _ (by omega)
        rw [Nat.sub_mul, Nat.one_mul, Nat.mul_comm (2 ^ sh), hP] at h4
        have h5 : 2 ^ (32 - sh) ≤ 4294967296 := by
          rw [← hP]
          exact Nat.le_mul_of_pos_right _ hR
        show _ < 4294967296
        omega
end
