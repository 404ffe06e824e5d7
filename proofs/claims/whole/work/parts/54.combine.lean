/-! Curve.combine: its loops -/
section
variable {l : Launch} {O : Nat → vm_Ob} {f9 : Value}
theorem a_comb {n : Nat} {X : Nat → Nat} {h : vm_H} {g : Nat → Option (Option (fq × fq))} {r pl many fa nb at9 : Nat} {b : Nat → Nat} {Pk : Nat → Option (fq × fq)} (hk : CA n X h g) (hn : 151 ≤ n) (hr : r < n) (hro : 151 ≤ r) (hpl : pl + many ≤ 10) (hb : bv h nb fa b) (hat : at9 + 48 * many ≤ nb) (hnb : nb < 65536) (ht : ∀ k, k < many → ∀ m, 1 ≤ m → m ≤ 15 → g (15 * (pl + k) + m) = some (ecM (-3) fiv m (Pk k))) (ho : ∀ k, k < many → ecO (-3) (fz (cB : Int)) (Pk k)) :
    vm_Met (vm_env l O f9) mX2_combine 0 0 [.ref (X 24), .int (nI pl), .int (nI many), .ref fa, .int (nI at9), .ref (X (1000 + r))] h (fun e h' => e = none ∧ CB n X h' g r (cs Pk (fun k => bn b (at9 + 48 * k) 48) many) ∧ fr h h' (AG n X)) := by
  obtain ⟨s1, s2, s3', s4, s5⟩ := CA_st hk
  obtain ⟨u0, hku⟩ := hk
  have hk : CA n X h g := ⟨u0, hku⟩
  have hbd : ∀ k i, k < many → i < 96 → hd b (at9 + 48 * k) i < 16 := by
    intro k i h1 h2
    obtain ⟨f, hf, hf2⟩ := hb
    exact hd_lt (hf2 _ (by omega)).2
  refine vm_met rfl (Nat.le_of_ble_eq_true rfl) ?_
  refine vm_go rfl bX2_combine_0 oX2_combine_0 ⟨_, _, s1, rfl, ⟨_, _, s1, rfl, ⟨_, _, s4 r hr, rfl, ⟨(RG_0 hku.1).choose, (RG_0 hku.1).choose_spec, 0, 0, _, b_zero hk hr, Nat.zero_le _, Nat.zero_le _, ?_⟩⟩⟩⟩
  rintro _ h1 ⟨rfl, k1, F1⟩
  refine vm_Th (lv' := [(0, .ref (X 24)), (1, .int (nI pl)), (2, .int (nI many)), (3, .ref fa), (4, .int (nI at9)), (5, .ref (X (1000 + r))), (6, .int (nI 0))]) (h' := h1) rfl rfl ?_
  refine vm_while (σ := Nat × vm_H) (fun z => z.1 ≤ 96 ∧ CB n X z.2 g r (cs Pk (fun k => he b (at9 + 48 * k) z.1) many) ∧ fr h z.2 (AG n X)) (fun z => 96 - z.1) (fun z => [(0, .ref (X 24)), (1, .int (nI pl)), (2, .int (nI many)), (3, .ref fa), (4, .int (nI at9)), (5, .ref (X (1000 + r))), (6, .int (nI z.1))]) (fun z => z.2) ?_ (0, h1) ⟨show 0 ≤ 96 by decide, by show CB n X h1 g r (cs Pk (fun k => he b (at9 + 48 * k) 0) many); rw [cs_0 (f := fun k => he b (at9 + 48 * k) 0) many (fun k _ => rfl)]; exact k1, F1⟩
  clear k1 F1 h1
  rintro ⟨i, h1⟩ ⟨p1, p2, p3⟩ ih
  dsimp only at p1 p2 p3 ih ⊢
  rcases Nat.lt_or_ge i 96 with hi | hi
  rotate_left
  · have : i = 96 := by omega
    subst this
    refine vm_go rfl bX2_combine_19 oX2_combine_19 ⟨fun _ => ?_, fun q => absurd (nI_le (a := 96) (b := 96) (by decide) (by decide)) q⟩
    refine vm_go rfl bX2_combine_131 oX2_combine_131 ⟨rfl, ?_, p3⟩
    rw [cs_cg (g := fun k => bn b (at9 + 48 * k) 48) many (fun k _ => he_bn b (at9 + 48 * k) 48)] at p2
    exact p2
  refine vm_go rfl bX2_combine_19 oX2_combine_19 ⟨fun q => absurd q (nI_ge (b := 96) hi (by decide)), fun _ => ?_⟩
  generalize hacc : cs Pk (fun k => he b (at9 + 48 * k) i) many = acc0 at p2
  have oacc : ecO (-3) (fz (cB : Int)) acc0 := by rw [← hacc]; exact cs_o many ho
  -- the sums
  have h64 : ∀ h2, CB n X h2 g r (ecM (-3) fiv 16 acc0) → fr h h2 (AG n X) → ∀ jj, vm_T (vm_env l O f9) mX2_combine 0 0 64 [(0, .ref (X 24)), (1, .int (nI pl)), (2, .int (nI many)), (3, .ref fa), (4, .int (nI at9)), (5, .ref (X (1000 + r))), (6, .int (nI i)), (7, .int jj)] [] h2 (fun e h' => e = none ∧ CB n X h' g r (cs Pk (fun k => bn b (at9 + 48 * k) 48) many) ∧ fr h h' (AG n X)) := by
    intro h2 k2 F2 jj
    refine vm_go rfl bX2_combine_64 oX2_combine_64 ?_
    refine vm_Th (lv' := [(0, .ref (X 24)), (1, .int (nI pl)), (2, .int (nI many)), (3, .ref fa), (4, .int (nI at9)), (5, .ref (X (1000 + r))), (6, .int (nI i)), (7, .int (nI 0))]) (h' := h2) rfl rfl ?_
    refine vm_while (σ := Nat × vm_H) (fun z => z.1 ≤ many ∧ CB n X z.2 g r (ecA (-3) fiv (ecM (-3) fiv 16 acc0) (cs Pk (fun k => hd b (at9 + 48 * k) i) z.1)) ∧ fr h z.2 (AG n X)) (fun z => many - z.1) (fun z => [(0, .ref (X 24)), (1, .int (nI pl)), (2, .int (nI many)), (3, .ref fa), (4, .int (nI at9)), (5, .ref (X (1000 + r))), (6, .int (nI i)), (7, .int (nI z.1))]) (fun z => z.2) ?_ (0, h2) ⟨Nat.zero_le _, by show CB n X h2 g r (ecA (-3) fiv _ none); rw [ecA_0]; exact k2, F2⟩
    clear k2 F2 h2
    rintro ⟨k, h2⟩ ⟨r1, r2, r3⟩ ih2
    dsimp only at r1 r2 r3 ih2 ⊢
    have oM := ecO_M cK oacc 16
    have oS := fun j (hj : j ≤ many) => cs_o (Pk := Pk) (f := fun k => hd b (at9 + 48 * k) i) j (fun q hq => ho q (by omega))
    rcases Nat.lt_or_ge k many with hkm | hkm
    · have hb2 : bv h2 nb fa b := AR_bv hku.1 r3 hb
      have eat : nI at9 + nI k * 48 = nI (at9 + 48 * k) := by
        rw [show nI k * 48 = nI (k * 48) from nI_mul k 48, nI_add, Nat.mul_comm]
      refine vm_go rfl bX2_combine_67 oX2_combine_67 ⟨fun q => absurd q (nI_ge hkm (by omega)), fun _ => ⟨0, 0, _, vm_metA (s_dig (at9 := at9 + 48 * k) (i := i) hb2 (by omega) hnb) (by show [_, Value.int (nI (at9 + 48 * k)), _] = [_, Value.int (nI at9 + nI k * 48), _]; rw [eat]), Nat.zero_le _, Nat.zero_le _, ?_⟩⟩
      rintro _ h3 ⟨rfl, rfl⟩
      have hdl := hbd k i hkm hi
      have hcs : cs Pk (fun k => hd b (at9 + 48 * k) i) (k + 1) = ecA (-3) fiv (cs Pk (fun k => hd b (at9 + 48 * k) i) k) (ecM (-3) fiv (hd b (at9 + 48 * k) i) (Pk k)) := rfl
      show vm_sx _ _ _ _ _ _ _ (vm_st1 _ 8 (.int (nI (hd b (at9 + 48 * k) i)))) _ _
      generalize hd b (at9 + 48 * k) i = d at *
      have h119 : ∀ h4, CB n X h4 g r (ecA (-3) fiv (ecM (-3) fiv 16 acc0) (cs Pk (fun k => hd b (at9 + 48 * k) i) (k + 1))) → fr h h4 (AG n X) → vm_T (vm_env l O f9) mX2_combine 0 0 119 [(0, .ref (X 24)), (1, .int (nI pl)), (2, .int (nI many)), (3, .ref fa), (4, .int (nI at9)), (5, .ref (X (1000 + r))), (6, .int (nI i)), (7, .int (nI k)), (8, .int (nI d))] [] h4 (fun e h' => e = none ∧ CB n X h' g r (cs Pk (fun k => bn b (at9 + 48 * k) 48) many) ∧ fr h h' (AG n X)) := by
        intro h4 k4 F4
        refine vm_go rfl bX2_combine_119 oX2_combine_119 ?_
        refine vm_less [0, 1, 2, 3, 4, 5, 6, 7] rfl ?_
        exact vm_Th (by rw [← nI_1]; rfl) rfl (ih2 (k + 1, h4) ⟨by show k + 1 ≤ many; omega, k4, F4⟩ (by show many - (k + 1) < many - k; omega))
      refine ⟨fun q => ?_, fun q => ?_⟩
      · have q : nI d = 0 := q
        have d0 : d = 0 := by
          rcases Nat.eq_zero_or_pos d with z | z
          · exact z
          · exact absurd q (nI_ne0 z (by omega))
        refine h119 h3 ?_ r3
        rw [hcs, d0]
        show CB n X h3 g r (ecA (-3) fiv (ecM (-3) fiv 16 acc0) (ecA (-3) fiv _ none))
        rw [ecA_0]; exact r2
      · have q : ¬ nI d = 0 := q
        have d0 : 1 ≤ d := by
          rcases Nat.eq_zero_or_pos d with z | z
          · exact absurd (by rw [z]; rfl) q
          · exact z
        obtain ⟨t1, t2, t3, t4, t5⟩ := CB_st r2
        have ei : (nI pl + nI k) * 15 + nI d - 1 = nI (15 * (pl + k) + d - 1) := by
          rw [nI_add, show nI (pl + k) * 15 = nI ((pl + k) * 15) from nI_mul _ 15, nI_add, Nat.mul_comm]
          exact nI_sub (b := 1) (by omega)
        have c := b_add (l := l) (O := O) (f9 := f9) (q := 1 + (15 * (pl + k) + d - 1)) r2 hr (by omega) (by omega) (by rw [show 1 + (15 * (pl + k) + d - 1) = 15 * (pl + k) + d by omega]; exact ht k hkm d d0 (by omega))
        refine ⟨_, _, t1, rfl, ⟨_, _, _, _, t3, by decide, rfl, 15 * (pl + k) + d - 1, ei, by omega, tb_g (by omega), ⟨_, t1, 0, 0, _, c, Nat.zero_le _, Nat.zero_le _, ?_⟩⟩⟩
        rintro _ h4 ⟨rfl, k4, F4⟩
        refine h119 h4 ?_ (fr_trans r3 F4)
        rw [hcs, ← ecA_assoc cK oM (oS k (by omega)) (ecO_M cK (ho k hkm) d)]
        exact k4
    · have : k = many := by omega
      subst this
      refine vm_go rfl bX2_combine_67 oX2_combine_67 ⟨fun _ => ?_, fun q => absurd (nI_le (Nat.le_refl _) (by omega)) q⟩
      refine vm_go rfl bX2_combine_125 oX2_combine_125 ?_
      refine vm_less [0, 1, 2, 3, 4, 5, 6] rfl ?_
      refine vm_Th (by rw [← nI_1]; rfl) rfl (ih (i + 1, h2) ⟨by show i + 1 ≤ 96; omega, ?_, r3⟩ (by show 96 - (i + 1) < 96 - i; omega))
      show CB n X h2 g r (cs Pk (fun j => he b (at9 + 48 * j) (i + 1)) k)
      rw [← hacc, cs_mul 16 k ho, cs_add k ho] at r2
      rw [cs_cg (g := fun j => 16 * he b (at9 + 48 * j) i + hd b (at9 + 48 * j) i) k (fun j _ => by show he b (at9 + 48 * j) i * 16 + hd b (at9 + 48 * j) i = _; omega)]
      exact r2
  -- the doublings
  refine vm_Th (lv' := [(0, .ref (X 24)), (1, .int (nI pl)), (2, .int (nI many)), (3, .ref fa), (4, .int (nI at9)), (5, .ref (X (1000 + r))), (6, .int (nI i)), (7, .int (nI 0))]) (h' := h1) rfl rfl ?_
  refine vm_while (σ := Nat × vm_H) (fun z => z.1 ≤ 4 ∧ CB n X z.2 g r (ecM (-3) fiv (2 ^ z.1) acc0) ∧ fr h z.2 (AG n X)) (fun z => 4 - z.1) (fun z => [(0, .ref (X 24)), (1, .int (nI pl)), (2, .int (nI many)), (3, .ref fa), (4, .int (nI at9)), (5, .ref (X (1000 + r))), (6, .int (nI i)), (7, .int (nI z.1))]) (fun z => z.2) ?_ (0, h1) ⟨show 0 ≤ 4 by decide, p2, p3⟩
  clear p2 p3 h1
  rintro ⟨j, h2⟩ ⟨r1, r2, r3⟩ ih2
  dsimp only at r1 r2 r3 ih2 ⊢
  rcases Nat.lt_or_ge j 4 with hj | hj
  rotate_left
  · have : j = 4 := by omega
    subst this
    exact vm_go rfl bX2_combine_29 oX2_combine_29 ⟨fun _ => h64 h2 r2 r3 _, fun q => absurd (nI_le (a := 4) (b := 4) (by decide) (by decide)) q⟩
  obtain ⟨t1, t2, t3, t4, t5⟩ := CB_st r2
  obtain ⟨ur, kr⟩ := CB_rg r2
  refine vm_go rfl bX2_combine_29 oX2_combine_29 ⟨fun q => absurd q (nI_ge (b := 4) hj (by decide)), fun _ => ⟨_, _, t1, rfl, ⟨_, _, t4 r hr, rfl, ⟨(RG_0 kr).choose, (RG_0 kr).choose_spec, 0, 0, _, b_isz r2 hr, Nat.zero_le _, Nat.zero_le _, ?_⟩⟩⟩⟩
  rintro _ h3 ⟨⟨w, rfl, hw⟩, rfl⟩
  refine ⟨fun q => ?_, fun q => ?_⟩
  · have q : ¬ w = 0 := q
    have e0 : ecM (-3) fiv (2 ^ j) acc0 = none := Classical.not_not.mp (fun z => q (hw.mpr z))
    refine h64 h3 ?_ r3 _
    have e1 : ecM (-3) fiv 16 acc0 = none := by
      have : 16 = 2 ^ (4 - j) * 2 ^ j := by rw [← Nat.pow_add, show 4 - j + j = 4 by omega]
      rw [this, ecM_mul cK oacc, e0, ecM_none]
    rw [e1, ← e0]; exact r2
  · have q : w = 0 := q
    have e0 := hw.mp q
    refine ⟨_, t1, 0, 0, _, b_dbl r2 hr e0, Nat.zero_le _, Nat.zero_le _, ?_⟩
    rintro _ h4 ⟨rfl, k4, F4⟩
    refine vm_Th (by rw [← nI_1]; rfl) rfl (ih2 (j + 1, h4) ⟨by show j + 1 ≤ 4; omega, ?_, fr_trans r3 F4⟩ (by show 4 - (j + 1) < 4 - j; omega))
    show CB n X h4 g r (ecM (-3) fiv (2 ^ (j + 1)) acc0)
    rw [Nat.pow_succ, Nat.mul_two, ecM_add cK oacc]
    exact k4
end
