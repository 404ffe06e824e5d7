/-! Modulus.raise, Modulus.invert over longer rows (out of parts 31, 32, 32b) -/
theorem bv_Sz {n : Nat} {h : vm_H} {A : Nat → Nat} {L N ni c k a : Nat} {b : Nat → Nat} (hM : MD h A 6 L N ni) (hc : lz n h c) (q : bv h k a b) : ¬ rS A 6 c a := by
  obtain ⟨X, hX, _⟩ := hc
  rintro (z | (z | ⟨z, _⟩) | ⟨i, hi, z⟩)
  · exact bv_ne q (nv_la hX) z
  · exact bv_ne q hM.2.2.2.2.2.1 z
  · cases z
  · exact bv_ne q (hM.2.2.2.2.2.2.2.1 i hi) z
section
variable {l : Launch} {O : Nat → vm_Ob} {f9 : Value}
theorem y_raise {n na : Nat} {h : vm_H} {A : Nat → Nat} {L N ni ri a c e nn at9 size : Nat} {X : Int} {b : Nat → Nat} (hP : MP A 6 L N ni ri) (hM : MD h A 6 L N ni) (ha : mz na h L N a X) (hc : lz n h c) (hLn : L ≤ n) (hLa : L ≤ na) (he9 : bv h nn e b) (hn : at9 + size ≤ nn) (hn2 : nn < 65536) (oc : okc A c) (ocs : ∀ i, i < 16 → c ≠ A (8 + i)) :
    vm_Met (vm_env l O f9) mX6_raise 0 0 [.ref (A 0), .ref a, .ref e, .int (nI at9), .int (nI size), .ref c] h (fun r h' => r = none ∧ mz n h' L N c (X ^ bn b at9 size) ∧ MD h' A 6 L N ni ∧ fr h h' (rS A 6 c)) := by
  have hci2 := MP_ci hP
  have hif : (if 6 = 600 then 500 else 6) = 6 := rfl
  have hin := hP.2.2.2.2.2.2.2.1
  have hbl : ∀ i, i < 2 * size → hd b at9 i < 16 := by
    intro i hi
    obtain ⟨f, h1, h2⟩ := he9
    exact hd_lt (h2 _ (by omega)).2
  have hml := hm_lt (2 * size) hbl
  obtain ⟨hm1, hm2⟩ := hm_ge b at9 (2 * size)
  refine vm_met rfl (Nat.le_of_ble_eq_true rfl) ?_
  refine vm_go rfl bX6_raise_0 oX6_raise_0 ?_
  have e2s : (2 : Int32) * nI size = nI (2 * size) := nI_mul 2 size
  refine vm_Th (lv' := [(0, .ref (A 0)), (1, .ref a), (2, .ref e), (3, .int (nI at9)), (4, .int (nI size)), (5, .ref c), (6, .int (nI (hm b at9 0))), (7, .int (nI 0))]) (h' := h) rfl rfl ?_
  refine vm_for (2 * size) (fun i => [(0, .ref (A 0)), (1, .ref a), (2, .ref e), (3, .int (nI at9)), (4, .int (nI size)), (5, .ref c), (6, .int (nI (hm b at9 i))), (7, .int (nI i))]) (fun _ => h) 0 (Nat.zero_le _) ?_ ?_
  · refine vm_go rfl bX6_raise_6 oX6_raise_6 ⟨fun _ => ?_, fun q => absurd ?_ q⟩
    · generalize hm b at9 (2 * size) = M at *
      have hM' := hM
      obtain ⟨⟨fs, m0, f0, f1, f2, f3, f4, f5, f6, f7, f8⟩, _, _, _, _, _, m7, m8, _⟩ := hM'
      refine vm_go rfl (bX6_raise_35 6) (oX6_raise_35 hci2) ⟨fs, _, m0, f7, ⟨_, _, _, _, m7, by decide, rfl, 1, rfl, by decide, sp_rf (by decide), ⟨fs, by rw [hif]; exact m0, 0, 0, _, z_copyi hP hM ha hLa (m8 1 (by decide)) (okc_sp hP (by decide)), Nat.le_refl _, Nat.le_refl _, ?_⟩⟩⟩
      rintro r h1 ⟨rfl, k1, hM1, hF1⟩
      refine vm_Th (lv' := [(0, .ref (A 0)), (1, .ref a), (2, .ref e), (3, .int (nI at9)), (4, .int (nI size)), (5, .ref c), (6, .int (nI M)), (7, .int (nI 2))]) (h' := h1) rfl rfl ?_
      refine vm_while (σ := Nat × vm_H) (fun s => 2 ≤ s.1 ∧ s.1 ≤ M + 1 ∧ MD s.2 A 6 L N ni ∧ (∀ j, 1 ≤ j → j < s.1 → mv s.2 L N (A (8 + j)) (X ^ j)) ∧ fr h s.2 (rS A 6 c) ∧ lz n s.2 c) (fun s => M + 1 - s.1) (fun s => [(0, .ref (A 0)), (1, .ref a), (2, .ref e), (3, .int (nI at9)), (4, .int (nI size)), (5, .ref c), (6, .int (nI M)), (7, .int (nI s.1))]) (fun s => s.2) ?_ (2, h1) ⟨Nat.le_refl _, by show 2 ≤ M + 1; omega, hM1, ?_, fr_mono hF1 (fun q hq => Or.inr (Or.inr ⟨1, by decide, hq⟩)), lz_fr hF1 hc (ocs 1 (by decide))⟩
      · rintro ⟨k, h2⟩ ⟨p1, p2, p3, p4, p5, lc2⟩ ih
        dsimp only at p1 p2 p3 p4 p5 lc2 ih ⊢
        have hM2 := p3
        obtain ⟨⟨fs, m0, f0, f1, f2, f3, f4, f5, f6, f7, f8⟩, _, _, _, _, _, m7, m8, _⟩ := p3
        rcases Nat.lt_or_ge M k with hk | hk
        · refine vm_go rfl (bX6_raise_49 6) (oX6_raise_49 hci2) ⟨fun _ => ?_, fun q => absurd (nI_lt hk (by omega)) q⟩
          refine vm_go rfl (bX6_raise_88 6) (oX6_raise_88 hci2) ⟨fs, _, m0, f2, ⟨fs, by rw [hif]; exact m0, 0, 0, _, z_copyo hP hM2 (MD_one hP hM2) (Nat.lt_trans (mt_lt (MP_N hP).1) (MP_N hP).2.1) lc2 hLn oc ocs, Nat.le_refl _, Nat.le_refl _, ?_⟩⟩
          rintro r h3 ⟨rfl, k3, hM3, hF3⟩
          have hout : ∀ j, 1 ≤ j → j < 16 → ∀ q, (q = c ∨ sc A 6 q) → ¬ A (8 + j) = q := by
            intro j j1 j2 q hq e
            rcases hq with z | z | ⟨_, z⟩
            · exact ocs j j2 (e.trans z).symm
            · exact MP_6 hP (by omega) (by omega) (by omega) (e.trans z)
            · exact MP_6 hP (by omega) (by omega) (by omega) (e.trans z)
          have hsp3 : ∀ j, 1 ≤ j → j ≤ M → mv h3 L N (A (8 + j)) (X ^ j) := fun j j1 j2 => fr_nv hF3 (p4 j j1 (by omega)) (fun z => hout j j1 (by omega) _ (Or.inl z) rfl)
          refine vm_Th (lv' := [(0, .ref (A 0)), (1, .ref a), (2, .ref e), (3, .int (nI at9)), (4, .int (nI size)), (5, .ref c), (6, .int (nI M)), (7, .int (if he b at9 0 = 0 then 0 else 1)), (8, .int (nI 0))]) (h' := h3) rfl rfl ?_
          refine vm_while (σ := Nat × vm_H) (fun s => s.1 ≤ 2 * size ∧ MD s.2 A 6 L N ni ∧ (∀ j, 1 ≤ j → j ≤ M → mv s.2 L N (A (8 + j)) (X ^ j)) ∧ fr h s.2 (rS A 6 c) ∧ mz n s.2 L N c (X ^ he b at9 s.1)) (fun s => 2 * size - s.1) (fun s => [(0, .ref (A 0)), (1, .ref a), (2, .ref e), (3, .int (nI at9)), (4, .int (nI size)), (5, .ref c), (6, .int (nI M)), (7, .int (if he b at9 s.1 = 0 then 0 else 1)), (8, .int (nI s.1))]) (fun s => s.2) ?_ (0, h3) ⟨Nat.zero_le _, hM3, hsp3, fr_trans p5 (fr_mono hF3 (fun q hq => Or.inl hq)), by rw [show he b at9 0 = 0 from rfl, Int.pow_zero]; exact k3⟩
          rintro ⟨i, h4⟩ ⟨q1, q2, q3, q4, q5⟩ ihi
          dsimp only at q1 q2 q3 q4 q5 ihi ⊢
          rcases Nat.lt_or_ge i (2 * size) with hi | hi
          · refine vm_go rfl bX6_raise_104 oX6_raise_104 ⟨fun q => absurd q ?_, fun _ => ?_⟩
            · show ¬ (2 : Int32) * nI size ≤ nI i
              rw [e2s]; exact nI_ge hi (by omega)
            have h141 : ∀ (k4 : Int32) (h5 : vm_H), MD h5 A 6 L N ni → (∀ j, 1 ≤ j → j ≤ M → mv h5 L N (A (8 + j)) (X ^ j)) → fr h h5 (rS A 6 c) → mz n h5 L N c (X ^ (he b at9 i * 16)) → vm_T (vm_env l O f9) mX6_raise 0 0 141 [(0, .ref (A 0)), (1, .ref a), (2, .ref e), (3, .int (nI at9)), (4, .int (nI size)), (5, .ref c), (6, .int (nI M)), (7, .int (if he b at9 i = 0 then 0 else 1)), (8, .int (nI i)), (9, .int k4)] [] h5 (fun r h' => r = none ∧ mz n h' L N c (X ^ bn b at9 size) ∧ MD h' A 6 L N ni ∧ fr h h' (rS A 6 c)) := by
              intro k4 h5 w1 w2 w3 w4
              have w1' := w1
              obtain ⟨⟨fs, m0, f0, f1, f2, f3, f4, f5, f6, f7, f8⟩, _, _, _, _, _, m7, m8, _⟩ := w1'
              have hdl := hbl i hi
              have hdm := hm2 i hi
              have hes : he b at9 (i + 1) = he b at9 i * 16 + hd b at9 i := rfl
              refine vm_go rfl (bX6_raise_141 6) (oX6_raise_141 hci2) ⟨0, 0, _, s_dig (fr_bv w3 he9 (bv_Sz hM hc he9)) (by omega) hn2, Nat.le_refl _, Nat.le_refl _, ?_⟩
              rintro r h6 ⟨rfl, rfl⟩
              refine ⟨fun q => ?_, fun q => ?_⟩
              · have q : nI (hd b at9 i) = 0 := q
                have q : hd b at9 i = 0 := by
                  rcases Nat.eq_zero_or_pos (hd b at9 i) with z | z
                  · exact z
                  · exact absurd q (nI_ne0 z (by omega))
                rw [q, Nat.add_zero] at hes
                refine vm_go rfl bX6_raise_173 oX6_raise_173 ?_
                refine vm_less [0, 1, 2, 3, 4, 5, 6, 7, 8] rfl ?_
                refine vm_Th ?_ rfl (ihi (i + 1, h6) ⟨by show i + 1 ≤ 2 * size; omega, w1, w2, w3, by show mz n h6 L N c (X ^ he b at9 (i + 1)); rw [hes]; exact w4⟩ (by show 2 * size - (i + 1) < 2 * size - i; omega))
                rw [← nI_1, hes]
                by_cases z : he b at9 i = 0
                · rw [z]; rfl
                · rw [if_neg z, if_neg (by omega)]; rfl
              · have q : ¬ nI (hd b at9 i) = 0 := q
                have q : hd b at9 i ≠ 0 := fun z => q (by rw [z]; rfl)
                refine ⟨fs, _, m0, f7, ⟨_, _, _, _, m7, by decide, rfl, hd b at9 i, rfl, by omega, sp_rf (by omega), ⟨fs, by rw [hif]; exact m0, 0, 0, _, y_mul hP w1 w4 (nv_nz (w2 (hd b at9 i) (by omega) hdm) (Nat.lt_trans (mt_lt (MP_N hP).1) (MP_N hP).2.1)) (nz_lz w4) hLn (Nat.le_refl _) hLn (oc.1 6 (by decide)) (MP_6 hP (by omega) (by omega) (by omega)) oc ocs, Nat.le_refl _, Nat.le_refl _, ?_⟩⟩⟩
                rintro r h7 ⟨rfl, k7, hM7, hF7⟩
                refine vm_go rfl bX6_raise_173 oX6_raise_173 ?_
                refine vm_less [0, 1, 2, 3, 4, 5, 6, 7, 8] rfl ?_
                refine vm_Th ?_ rfl (ihi (i + 1, h7) ⟨by show i + 1 ≤ 2 * size; omega, hM7, fun j j1 j2 => fr_nv hF7 (w2 j j1 j2) (fun z => hout j j1 (by omega) _ z rfl), fr_trans w3 (fr_mono hF7 (fun q hq => hq.elim (fun z => Or.inl z) (fun z => Or.inr (Or.inl z)))), by show mz n h7 L N c (X ^ he b at9 (i + 1)); rw [hes, Int.pow_add]; exact k7⟩ (by show 2 * size - (i + 1) < 2 * size - i; omega))
                rw [← nI_1, hes, if_neg (by omega)]; rfl
            refine vm_Th (lv' := [(0, .ref (A 0)), (1, .ref a), (2, .ref e), (3, .int (nI at9)), (4, .int (nI size)), (5, .ref c), (6, .int (nI M)), (7, .int (if he b at9 i = 0 then 0 else 1)), (8, .int (nI i)), (9, .int (nI 0))]) (h' := h4) rfl rfl ?_
            refine vm_while (σ := Nat × vm_H) (fun s => s.1 ≤ 4 ∧ MD s.2 A 6 L N ni ∧ (∀ j, 1 ≤ j → j ≤ M → mv s.2 L N (A (8 + j)) (X ^ j)) ∧ fr h s.2 (rS A 6 c) ∧ mz n s.2 L N c (X ^ (he b at9 i * 2 ^ s.1))) (fun s => 4 - s.1) (fun s => [(0, .ref (A 0)), (1, .ref a), (2, .ref e), (3, .int (nI at9)), (4, .int (nI size)), (5, .ref c), (6, .int (nI M)), (7, .int (if he b at9 i = 0 then 0 else 1)), (8, .int (nI i)), (9, .int (nI s.1))]) (fun s => s.2) ?_ (0, h4) ⟨Nat.zero_le _, q2, q3, q4, by rw [Nat.pow_zero, Nat.mul_one]; exact q5⟩
            rintro ⟨k5, h5⟩ ⟨w1, w2, w3, w4, w5⟩ ihk
            dsimp only at w1 w2 w3 w4 w5 ihk ⊢
            have w2' := w2
            obtain ⟨⟨fs, m0, f0, f1, f2, f3, f4, f5, f6, f7, f8⟩, _, _, _, _, _, m7, m8, _⟩ := w2'
            refine vm_go rfl (bX6_raise_116 6) (oX6_raise_116 hci2) ⟨fun q => ?_, fun q => ?_⟩
            · have q : (if he b at9 i = 0 then (0 : Int32) else 1) = 0 := q
              have q : he b at9 i = 0 := by
                by_cases z : he b at9 i = 0
                · exact z
                · rw [if_neg z] at q; exact absurd q (by decide)
              refine h141 _ _ w2 w3 w4 ?_
              rw [q, Nat.zero_mul] at w5 ⊢
              exact w5
            · refine ⟨fun z => ?_, fun z => ?_⟩
              · have z : nI 4 ≤ nI k5 := z
                rw [nI_leI (by decide) (by omega)] at z
                have : k5 = 4 := by omega
                subst this
                exact h141 _ _ w2 w3 w4 w5
              · have z : ¬ nI 4 ≤ nI k5 := z
                rw [nI_leI (by decide) (by omega)] at z
                refine ⟨fs, by rw [hif]; exact m0, 0, 0, _, y_sqr hP w2 w5 (nz_lz w5) hLn hLn (oc.1 6 (by decide)) oc ocs, Nat.le_refl _, Nat.le_refl _, ?_⟩
                rintro r h7 ⟨rfl, k7, hM7, hF7⟩
                refine vm_Th (by rw [← nI_1]; rfl) rfl (ihk (k5 + 1, h7) ⟨by show k5 + 1 ≤ 4; omega, hM7, fun j j1 j2 => fr_nv hF7 (w3 j j1 j2) (fun z => hout j j1 (by omega) _ z rfl), fr_trans w4 (fr_mono hF7 (fun q hq => hq.elim (fun z => Or.inl z) (fun z => Or.inr (Or.inl z)))), ?_⟩ (by show 4 - (k5 + 1) < 4 - k5; omega))
                show mz n h7 L N c (X ^ (he b at9 i * 2 ^ (k5 + 1)))
                rw [← Int.pow_add] at k7
                rw [show he b at9 i * 2 ^ (k5 + 1) = he b at9 i * 2 ^ k5 + he b at9 i * 2 ^ k5 by rw [Nat.pow_succ]; grind]
                exact k7
          · refine vm_go rfl bX6_raise_104 oX6_raise_104 ⟨fun _ => ?_, fun q => absurd ?_ q⟩
            · refine vm_go rfl bX6_raise_179 oX6_raise_179 ⟨rfl, ?_, q2, q4⟩
              rw [← he_bn, show 2 * size = i by omega]
              exact q5
            · show (2 : Int32) * nI size ≤ nI i
              rw [e2s]; exact nI_le hi (by omega)
        · refine vm_go rfl (bX6_raise_49 6) (oX6_raise_49 hci2) ⟨fun q => absurd q (nI_nlt hk (by omega)), fun _ => ?_⟩
          have ek : nI k - 1 = nI (k - 1) := nI_sub (show 1 ≤ k by omega)
          refine ⟨fs, _, m0, f7, ⟨_, _, _, _, m7, by decide, rfl, k - 1, ek, by omega, sp_rf (by omega), ⟨fs, _, m0, f7, ⟨_, _, _, _, m7, by decide, rfl, 1, rfl, by decide, sp_rf (by decide), ⟨fs, _, m0, f7, ⟨_, _, _, _, m7, by decide, rfl, k, rfl, by omega, sp_rf (by omega), ⟨fs, by rw [hif]; exact m0, 0, 0, _, v_mul hP hM2 (p4 (k - 1) (by omega) (by omega)) (p4 1 (by omega) (by omega)) (m8 k (by omega)) (MP_6 hP (by omega) (by omega) (by omega)) (MP_6 hP (by omega) (by omega) (by omega)) (okc_sp hP (by omega)), Nat.le_refl _, Nat.le_refl _, ?_⟩⟩⟩⟩⟩⟩⟩
          rintro r h3 ⟨rfl, k3, hM3, hF3⟩
          refine vm_Th (by rw [← nI_1]; rfl) rfl (ih (k + 1, h3) ⟨by show 2 ≤ k + 1; omega, by show k + 1 ≤ M + 1; omega, hM3, ?_, ?_, lz_fr hF3 lc2 (by
            rintro (z | z | ⟨_, z⟩)
            · exact ocs k (by omega) z
            · exact oc.1 6 (by decide) z
            · exact oc.1 5 (by decide) z)⟩ (by show M + 1 - (k + 1) < M + 1 - k; omega))
          · intro j j1 j2
            have j2 : j < k + 1 := j2
            rcases Nat.lt_or_ge j k with q | q
            · refine fr_nv hF3 (p4 j j1 q) ?_
              rintro (z | z | ⟨_, z⟩)
              · exact MP_6 hP (by omega) (by omega) (by omega) z
              · exact MP_6 hP (by omega) (by omega) (by omega) z
              · exact MP_6 hP (by omega) (by omega) (by omega) z
            · have : j = k := by omega
              subst this
              have e : X ^ (j - 1) * X ^ 1 = X ^ j := by rw [← Int.pow_add, show j - 1 + 1 = j by omega]
              rw [e] at k3
              exact k3
          · refine fr_trans p5 (fr_mono hF3 (fun q hq => ?_))
            rcases hq with z | z
            · exact Or.inr (Or.inr ⟨k, by omega, z⟩)
            · exact Or.inr (Or.inl z)
      · intro j j1 j2
        have j2 : j < 2 := j2
        have : j = 1 := by omega
        subst this
        rw [Int.pow_succ, Int.pow_zero, Int.one_mul]
        exact k1
    · show (2 : Int32) * nI size ≤ nI (2 * size)
      rw [e2s]; exact nI_le (Nat.le_refl _) (by omega)
  · intro i _ hi ih
    refine vm_go rfl bX6_raise_6 oX6_raise_6 ⟨fun q => absurd q ?_, fun _ => ?_⟩
    · show ¬ (2 : Int32) * nI size ≤ nI i
      rw [e2s]; exact nI_ge hi (by omega)
    refine ⟨0, 0, _, s_dig he9 (by omega) hn2, Nat.le_refl _, Nat.le_refl _, ?_⟩
    rintro r h1 ⟨rfl, rfl⟩
    have hx1 := hm_lt i (fun j hj => hbl j (by omega))
    have hx2 := hbl i hi
    refine ⟨0, 0, _, s_max (b := hd b at9 i) (by omega) (by omega), Nat.le_refl _, Nat.le_refl _, ?_⟩
    rintro r h1 ⟨rfl, rfl⟩
    refine vm_Th ?_ rfl ih
    rw [← nI_1]; rfl
theorem y_invl {n : Nat} {h : vm_H} {A : Nat → Nat} {L N ni ri a c al : Nat} {X ka : Int} (hP : MP A 6 L N ni ri) (hLn : L ≤ n) (oc : okc A c) (ocs : ∀ i, i < 16 → c ≠ A (8 + i)) (hal : al < N) (hka : (al : Int) = X * 268435456 ^ L + N * ka) (t s U V x y : Nat) (h5 : vm_H) (t1 : t ≤ 56 * L) (t2 : U * V * 2 ^ t ≤ al * N) (I5 : IV h A 6 L N ni c al (Nat.gcd al N) s U V x y h5) (lc : lz n h5 c) :
    vm_T (vm_env l O f9) mX6_invert 0 0 66 [(0, .ref (A 0)), (1, .ref a), (2, .ref c), (3, .ref (A (8 + s))), (4, .ref (A (9 - s))), (5, .ref (A (10 + s))), (6, .ref (A (11 - s))), (7, .int (nI t))] [] h5 (fun r h' => ∃ Y : Int, r = some (.int (if Nat.gcd al N = 1 then 1 else 0)) ∧ mz n h' L N c Y ∧ (Nat.gcd al N = 1 → X * Y % N = 1) ∧ MD h' A 6 L N ni ∧ fr h h' (rS A 6 c)) := by
  have hci2 := MP_ci hP
  have hif : (if 6 = 600 then 500 else 6) = 6 := rfl
  have hodd := MP_odd hP
  obtain ⟨p1, p2, p3⟩ := MP_N hP
  have hP' := hP
  obtain ⟨hci, L1, L74, N1, N2, hni, hri, _, ho⟩ := hP'
  have sne : ∀ i j, 8 ≤ i → i < 24 → 8 ≤ j → j < 24 → i ≠ j → A i ≠ A j := fun i j _ hi _ hj hn => MP_6 hP hi hj hn
  have hbig : al * N < 2 ^ (56 * L) := by
    have e : 2 ^ (56 * L) = 268435456 ^ L * 268435456 ^ L := by rw [p28, ← Nat.pow_add]; congr 1; omega
    rw [e]
    exact Nat.mul_lt_mul_of_lt_of_lt (by omega) p2
  refine vm_while (σ := Nat × Nat × Nat × Nat × Nat × Nat × vm_H) (fun z => z.1 ≤ 56 * L ∧ z.2.2.1 * z.2.2.2.1 * 2 ^ z.1 ≤ al * N ∧ IV h A 6 L N ni c al (Nat.gcd al N) z.2.1 z.2.2.1 z.2.2.2.1 z.2.2.2.2.1 z.2.2.2.2.2.1 z.2.2.2.2.2.2 ∧ lz n z.2.2.2.2.2.2 c) (fun z => 56 * L - z.1) (fun z => [(0, .ref (A 0)), (1, .ref a), (2, .ref c), (3, .ref (A (8 + z.2.1))), (4, .ref (A (9 - z.2.1))), (5, .ref (A (10 + z.2.1))), (6, .ref (A (11 - z.2.1))), (7, .int (nI z.1))]) (fun z => z.2.2.2.2.2.2) ?_ (t, s, U, V, x, y, h5) ⟨t1, t2, I5, lc⟩
  clear t1 t2 I5 lc
  rintro ⟨t, s, U, V, x, y, h5⟩ ⟨t1, t2, I5, lc⟩ ih
  dsimp only at t1 t2 I5 lc ih ⊢
  have I5' := I5
  obtain ⟨k1, k2, k3, k4, k5, k6, k7, k8, k9, k10, k11, k12, ⟨k13, k13'⟩, ⟨k14, k14'⟩, k15⟩ := I5'
  have hend : U = 0 → vm_T (vm_env l O f9) mX6_invert 0 0 187 [(0, .ref (A 0)), (1, .ref a), (2, .ref c), (3, .ref (A (8 + s))), (4, .ref (A (9 - s))), (5, .ref (A (10 + s))), (6, .ref (A (11 - s))), (7, .int (nI t))] [] h5 (fun r h' => ∃ Y : Int, r = some (.int (if Nat.gcd al N = 1 then 1 else 0)) ∧ mz n h' L N c Y ∧ (Nat.gcd al N = 1 → X * Y % N = 1) ∧ MD h' A 6 L N ni ∧ fr h h' (rS A 6 c)) := by
    intro hU
    have k2' := k2
    obtain ⟨⟨fs, m0, f0, f1, f2, f3, f4, f5, f6, f7, f8⟩, _⟩ := k2'
    rw [hU, Nat.gcd_zero_left] at k12
    refine vm_go rfl (bX6_invert_187 6) (oX6_invert_187 hci2) ⟨fs, by rw [hif]; exact m0, 0, 0, _, z_copyo hP k2 k6 (Nat.lt_trans k10 (MP_N hP).2.1) lc hLn oc ocs, Nat.le_refl _, Nat.le_refl _, ?_⟩
    rintro r h6 ⟨rfl, y6, M6, F6⟩
    have M6' := M6
    obtain ⟨⟨fs6, m06, f06, f16, f26, f36, f46, f56, f66, f76, f86⟩, _, _, _, n46, _⟩ := M6'
    refine ⟨fs6, _, m06, f46, ⟨fs6, by rw [hif]; exact m06, 0, 0, _, m_same hP M6 (fr_nv F6 k4 (fun z => ocs (1 - s) (by omega) (by rw [show 8 + (1 - s) = 9 - s by omega]; exact z.symm))) n46 (by omega) (by omega), Nat.le_refl _, Nat.le_refl _, ?_⟩⟩
    rintro r h7 ⟨rfl, rfl⟩
    refine ⟨nar_b, (y : Int) * ri, by
      by_cases q : V = 1
      · rw [if_pos q, if_pos (by rw [← k12]; exact q)]
      · rw [if_neg q, if_neg (fun z => q (by rw [k12]; exact z))], ?_, ?_, M6, fr_trans k15 (fr_mono F6 (fun q hq => Or.inl hq))⟩
    · unfold mz; rw [← mt_of k10 hri]; exact y6
    · intro hg
      rw [← k12] at hg
      obtain ⟨k4', hk4⟩ := ri_e hri
      rw [hg, hka] at k14'
      have e : X * ((y : Int) * ri) = 1 + N * (2 * k4' + N * k4' * k4' + (k14 - y * ka) * ri * ri - k4' * X * y * ri) := by
        rw [Int.natCast_one] at k14'
        generalize (268435456 : Int) ^ L = R at *
        grind
      rw [e, Int.add_mul_emod_self_left]
      exact Int.emod_eq_of_lt (by decide) (by omega)
  have h147 : ∀ (s U V x y : Nat) (h5 : vm_H), t < 56 * L → U % 2 = 0 → U * V * 2 ^ t ≤ al * N → IV h A 6 L N ni c al (Nat.gcd al N) s U V x y h5 → lz n h5 c → vm_T (vm_env l O f9) mX6_invert 0 0 147 [(0, .ref (A 0)), (1, .ref a), (2, .ref c), (3, .ref (A (8 + s))), (4, .ref (A (9 - s))), (5, .ref (A (10 + s))), (6, .ref (A (11 - s))), (7, .int (nI t))] [] h5 (fun r h' => ∃ Y : Int, r = some (.int (if Nat.gcd al N = 1 then 1 else 0)) ∧ mz n h' L N c Y ∧ (Nat.gcd al N = 1 → X * Y % N = 1) ∧ MD h' A 6 L N ni ∧ fr h h' (rS A 6 c)) := by
    clear k1 k2 k3 k4 k5 k6 k7 k8 k9 k10 k11 k12 k13' k13 k14' k14 k15 hend t2 I5 lc
    clear s U V x y h5
    intro s U V x y h5 ht hU t2 I5 lc
    obtain ⟨k1, k2, k3, k4, k5, k6, k7, k8, k9, k10, k11, k12, ⟨k13, k13'⟩, ⟨k14, k14'⟩, k15⟩ := I5
    have oc10 : okc A (A (10 + s)) := by
      have := okc_sp (i := 2 + s) hP (by omega)
      rwa [show 8 + (2 + s) = 10 + s by omega] at this
    have oc8 : okc A (A (8 + s)) := okc_sp hP (by omega)
    have h175 : ∀ (x2 : Nat) (h6 : vm_H), x2 % 2 = 0 → x2 < 2 * N → MD h6 A 6 L N ni → nv h6 L (A (8 + s)) (U / 2) → nv h6 L (A (9 - s)) V → nv h6 L (A (10 + s)) x2 → nv h6 L (A (11 - s)) y → (∃ k : Int, (x2 : Int) * al = U * (268435456 ^ L * 268435456 ^ L) + N * k) → fr h h6 (rS A 6 c) → lz n h6 c → vm_T (vm_env l O f9) mX6_invert 0 0 175 [(0, .ref (A 0)), (1, .ref a), (2, .ref c), (3, .ref (A (8 + s))), (4, .ref (A (9 - s))), (5, .ref (A (10 + s))), (6, .ref (A (11 - s))), (7, .int (nI t))] [] h6 (fun r h' => ∃ Y : Int, r = some (.int (if Nat.gcd al N = 1 then 1 else 0)) ∧ mz n h' L N c Y ∧ (Nat.gcd al N = 1 → X * Y % N = 1) ∧ MD h' A 6 L N ni ∧ fr h h' (rS A 6 c)) := by
      intro x2 h6 hx2 hx2N M6 w3 w4 w5 w6 ⟨kk, hkk⟩ w15 lc6
      have M6' := M6
      obtain ⟨⟨fs, m0, f0, f1, f2, f3, f4, f5, f6, f7, f8⟩, _⟩ := M6'
      refine vm_go rfl (bX6_invert_175 6) (oX6_invert_175 hci2) ⟨fs, by rw [hif]; exact m0, 0, 0, _, m_hal hP M6 w5 (by omega) oc10, Nat.le_refl _, Nat.le_refl _, ?_⟩
      rintro r h7 ⟨rfl, x7, M7, F7⟩
      obtain ⟨k', hk'⟩ := iv_half (N := (N : Int)) (by omega) (by omega) (by omega) hkk
      have I7 : IV h A 6 L N ni c al (Nat.gcd al N) s (U / 2) V (x2 / 2) y h7 := by
        refine ⟨k1, M7, ?_, ?_, x7, ?_, by omega, k8, by omega, k10, k11, ?_, ⟨k', ?_⟩, ⟨k14, k14'⟩, ?_⟩
        · exact fr_nv F7 w3 (sne _ _ (by omega) (by omega) (by omega) (by omega) (by omega))
        · exact fr_nv F7 w4 (sne _ _ (by omega) (by omega) (by omega) (by omega) (by omega))
        · exact fr_nv F7 w6 (sne _ _ (by omega) (by omega) (by omega) (by omega) (by omega))
        · rw [← k12]; exact iv_gcd_even hU k11
        · rw [show ((x2 / 2 : Nat) : Int) = (x2 : Int) / 2 by omega, show ((U / 2 : Nat) : Int) = (U : Int) / 2 by omega]
          exact hk'
        · exact fr_trans w15 (fr_mono F7 (fun q hq => Or.inr (Or.inr ⟨2 + s, by omega, by rw [show 8 + (2 + s) = 10 + s by omega]; exact hq⟩)))
      have e : U / 2 * V * 2 ^ (t + 1) = U * V * 2 ^ t := by
        obtain ⟨d, hd⟩ : ∃ d, U = 2 * d := ⟨U / 2, by omega⟩
        rw [hd, show 2 * d / 2 = d by omega, Nat.pow_succ]; grind
      refine vm_Th (by rw [← nI_1]; rfl) rfl (ih (t + 1, s, U / 2, V, x2 / 2, y, h7) ⟨by show t + 1 ≤ 56 * L; omega, by show U / 2 * V * 2 ^ (t + 1) ≤ al * N; omega, I7, lz_fr F7 lc6 (fun z => ocs (2 + s) (by omega) (by rw [show 8 + (2 + s) = 10 + s by omega]; exact z))⟩ (by show 56 * L - (t + 1) < 56 * L - t; omega))
    have k2' := k2
    obtain ⟨⟨fs, m0, f0, f1, f2, f3, f4, f5, f6, f7, f8⟩, _⟩ := k2'
    refine vm_go rfl (bX6_invert_147 6) (oX6_invert_147 hci2) ⟨fs, by rw [hif]; exact m0, 0, 0, _, m_hal hP k2 k3 (by omega) oc8, Nat.le_refl _, Nat.le_refl _, ?_⟩
    rintro r h6 ⟨rfl, u6, M6, F6⟩
    have w4 := fr_nv F6 k4 (sne _ _ (by omega) (by omega) (by omega) (by omega) (by omega))
    have w5 := fr_nv F6 k5 (sne _ _ (by omega) (by omega) (by omega) (by omega) (by omega))
    have w6 := fr_nv F6 k6 (sne _ _ (by omega) (by omega) (by omega) (by omega) (by omega))
    have F6' : fr h h6 (rS A 6 c) := fr_trans k15 (fr_mono F6 (fun q hq => Or.inr (Or.inr ⟨s, by omega, hq⟩)))
    have lc6 := lz_fr F6 lc (ocs s (by omega))
    have w5' := w5
    obtain ⟨fx, hx, vx⟩ := w5'
    have hx0 := vx 0 (by omega)
    refine ⟨L, fx, hx, 0, rfl, by omega, ⟨fun w => ?_, fun w => ?_⟩⟩
    · have w := (lg_cmp_eq _ _).mp w
      rw [hx0] at w
      exact h175 x h6 ((odd_b x).mp w) (by omega) M6 u6 w4 w5 w6 ⟨k13, k13'⟩ F6' lc6
    · have w : ¬ fx 0 &&& 1 = 0 := fun z => w ((lg_cmp_eq _ _).mpr z)
      rw [hx0] at w
      have hxo : ¬ x % 2 = 0 := fun z => w ((odd_b x).mpr z)
      have M6' := M6
      obtain ⟨⟨fs6, m06, f06, f16, f26, f36, f46, f56, f66, f76, f86⟩, n16, _⟩ := M6'
      refine ⟨fs6, _, m06, f16, ⟨fs6, by rw [hif]; exact m06, 0, 0, _, m_put hP M6 w5 n16 (nv_la w5) oc10, Nat.le_refl _, Nat.le_refl _, ?_⟩⟩
      rintro r h7 ⟨rfl, x7, M7, F7⟩
      refine h175 (x + N) h7 (by omega) (by omega) M7 (fr_nv F7 u6 (sne _ _ (by omega) (by omega) (by omega) (by omega) (by omega))) (fr_nv F7 w4 (sne _ _ (by omega) (by omega) (by omega) (by omega) (by omega))) x7 (fr_nv F7 w6 (sne _ _ (by omega) (by omega) (by omega) (by omega) (by omega))) ⟨k13 + al, ?_⟩ (fr_trans F6' (fr_mono F7 (fun q hq => Or.inr (Or.inr ⟨2 + s, by omega, by rw [show 8 + (2 + s) = 10 + s by omega]; exact hq⟩)))) (lz_fr F7 lc6 (fun z => ocs (2 + s) (by omega) (by rw [show 8 + (2 + s) = 10 + s by omega]; exact z)))
      rw [Int.natCast_add, Int.add_mul, k13']
      grind
  have h128 : ∀ (s U V x y : Nat) (h5 : vm_H), t < 56 * L → U % 2 = 1 → V ≤ U → U * V * 2 ^ t ≤ al * N → IV h A 6 L N ni c al (Nat.gcd al N) s U V x y h5 → lz n h5 c → vm_T (vm_env l O f9) mX6_invert 0 0 128 [(0, .ref (A 0)), (1, .ref a), (2, .ref c), (3, .ref (A (8 + s))), (4, .ref (A (9 - s))), (5, .ref (A (10 + s))), (6, .ref (A (11 - s))), (7, .int (nI t))] [] h5 (fun r h' => ∃ Y : Int, r = some (.int (if Nat.gcd al N = 1 then 1 else 0)) ∧ mz n h' L N c Y ∧ (Nat.gcd al N = 1 → X * Y % N = 1) ∧ MD h' A 6 L N ni ∧ fr h h' (rS A 6 c)) := by
    clear k1 k2 k3 k4 k5 k6 k7 k8 k9 k10 k11 k12 k13' k13 k14' k14 k15 hend t2 I5 lc
    clear s U V x y h5
    intro s U V x y h5 ht hU hVU t2 I5 lc
    obtain ⟨k1, k2, k3, k4, k5, k6, k7, k8, k9, k10, k11, k12, ⟨k13, k13'⟩, ⟨k14, k14'⟩, k15⟩ := I5
    have oc10 : okc A (A (10 + s)) := by
      have := okc_sp (i := 2 + s) hP (by omega)
      rwa [show 8 + (2 + s) = 10 + s by omega] at this
    have oc8 : okc A (A (8 + s)) := okc_sp hP (by omega)
    have k2' := k2
    obtain ⟨⟨fs, m0, f0, f1, f2, f3, f4, f5, f6, f7, f8⟩, _⟩ := k2'
    refine vm_go rfl (bX6_invert_128 6) (oX6_invert_128 hci2) ⟨fs, by rw [hif]; exact m0, 0, 0, _, m_tak hP k2 k3 k4 (nv_la k3) (by omega) hVU oc8, Nat.le_refl _, Nat.le_refl _, ?_⟩
    rintro r h6 ⟨rfl, u6, M6, F6⟩
    have w4 := fr_nv F6 k4 (sne _ _ (by omega) (by omega) (by omega) (by omega) (by omega))
    have w5 := fr_nv F6 k5 (sne _ _ (by omega) (by omega) (by omega) (by omega) (by omega))
    have w6 := fr_nv F6 k6 (sne _ _ (by omega) (by omega) (by omega) (by omega) (by omega))
    have F6' : fr h h6 (rS A 6 c) := fr_trans k15 (fr_mono F6 (fun q hq => Or.inr (Or.inr ⟨s, by omega, hq⟩)))
    have lc6 := lz_fr F6 lc (ocs s (by omega))
    have M6' := M6
    obtain ⟨⟨fs6, m06, _⟩, _⟩ := M6'
    refine ⟨fs6, by rw [hif]; exact m06, 0, 0, _, m_sub hP M6 w5 w6 (nv_la w5) k9 k10 oc10, Nat.le_refl _, Nat.le_refl _, ?_⟩
    rintro r h7 ⟨rfl, x7, M7, F7⟩
    have lc7 := lz_fr F7 lc6 (fun z => ocs (2 + s) (by omega) (by rw [show 8 + (2 + s) = 10 + s by omega]; exact z))
    refine h147 s (U - V) V ((x + N - y) % N) y h7 ht (by omega) ?_ ⟨k1, M7, ?_, ?_, x7, ?_, by omega, k8, Nat.mod_lt _ p1, k10, k11, ?_, ?_, ⟨k14, k14'⟩, ?_⟩ lc7
    · refine Nat.le_trans (Nat.mul_le_mul_right _ (Nat.mul_le_mul_right _ (Nat.sub_le U V))) t2
    · exact fr_nv F7 u6 (sne _ _ (by omega) (by omega) (by omega) (by omega) (by omega))
    · exact fr_nv F7 w4 (sne _ _ (by omega) (by omega) (by omega) (by omega) (by omega))
    · exact fr_nv F7 w6 (sne _ _ (by omega) (by omega) (by omega) (by omega) (by omega))
    · rw [iv_gcd_odd hVU]; exact k12
    · obtain ⟨k, hk⟩ := nmod_e (x + N - y) N
      refine ⟨k13 - k14 + (1 + k) * al, ?_⟩
      rw [hk, Int.ofNat_sub (by omega), Int.natCast_add, Int.ofNat_sub hVU]
      generalize (268435456 : Int) ^ L * 268435456 ^ L = S at *
      grind
    · exact fr_trans F6' (fr_mono F7 (fun q hq => Or.inr (Or.inr ⟨2 + s, by omega, by rw [show 8 + (2 + s) = 10 + s by omega]; exact hq⟩)))
  have k2' := k2
  obtain ⟨⟨fs, m0, f0, f1, f2, f3, f4, f5, f6, f7, f8⟩, _⟩ := k2'
  have e56 : (56 : Int32) * nI L = nI (56 * L) := nI_mul 56 L
  refine vm_go rfl (bX6_invert_66 6) (oX6_invert_66 hci2) ⟨fs, _, m0, f0, ⟨fun q => ?_, fun q => ?_⟩⟩
  · have q : (56 : Int32) * nI L ≤ nI t := q
    rw [e56, nI_leI (by omega) (by omega)] at q
    refine hend ?_
    have ht : t = 56 * L := by omega
    subst ht
    rcases Nat.eq_zero_or_pos U with z | z
    · exact z
    · exfalso
      have h1 : 1 ≤ U * V := Nat.mul_pos z (by omega)
      have h2 : 1 * 2 ^ (56 * L) ≤ U * V * 2 ^ (56 * L) := Nat.mul_le_mul_right _ h1
      omega
  · have q : ¬ (56 : Int32) * nI L ≤ nI t := q
    rw [e56, nI_leI (by omega) (by omega)] at q
    refine ⟨fs, by rw [hif]; exact m0, 0, 0, _, m_isz hP k2 k3 (by omega), Nat.le_refl _, Nat.le_refl _, ?_⟩
    rintro r h6 ⟨rfl, rfl⟩
    refine ⟨fun z => ?_, fun z => ?_⟩
    · have z : ¬ (if U = 0 then (1 : Int32) else 0) = 0 := z
      refine hend ?_
      by_cases w : U = 0
      · exact w
      · rw [if_neg w] at z; exact absurd rfl z
    · have z : (if U = 0 then (1 : Int32) else 0) = 0 := z
      have hU0 : U ≠ 0 := by
        intro w; rw [if_pos w] at z; exact absurd z (by decide)
      have k3' := k3
      obtain ⟨fu, hu, vu⟩ := k3'
      have hu0 := vu 0 (by omega)
      refine ⟨L, fu, hu, 0, rfl, by omega, ⟨fun w => ?_, fun w => ?_⟩⟩
      · have w := (lg_cmp_eq _ _).mp w
        rw [hu0] at w
        exact h147 s U V x y h6 (by omega) ((odd_b U).mp w) t2 I5 lc
      · have w : ¬ fu 0 &&& 1 = 0 := fun z => w ((lg_cmp_eq _ _).mpr z)
        rw [hu0] at w
        have hUo : U % 2 = 1 := by
          rcases Nat.mod_two_eq_zero_or_one U with q | q
          · exact absurd ((odd_b U).mpr q) w
          · exact q
        refine ⟨fs, by rw [hif]; exact m0, 0, 0, _, m_les hP k2 k3 k4 (by omega) (by omega), Nat.le_refl _, Nat.le_refl _, ?_⟩
        rintro r h7 ⟨rfl, rfl⟩
        by_cases hUV : U < V
        · rw [if_pos hUV]
          refine ⟨fun q => absurd q (by decide), fun _ => ?_⟩
          have := h128 (1 - s) V U y x h7 (by omega) k11 (by omega) (by rw [Nat.mul_comm V]; exact t2) (IV_swap I5 hUo) lc
          rw [show 8 + (1 - s) = 9 - s by omega, show 9 - (1 - s) = 8 + s by omega, show 10 + (1 - s) = 11 - s by omega, show 11 - (1 - s) = 10 + s by omega] at this
          generalize A (8 + s) = a8 at this ⊢
          generalize A (9 - s) = a9 at this ⊢
          generalize A (10 + s) = a10 at this ⊢
          generalize A (11 - s) = a11 at this ⊢
          exact vm_less [0, 1, 2, 3, 4, 5, 6, 7] (inv_lv a c a8 a9 a10 a11 (A 0) (nI t)) this
        · rw [if_neg hUV]
          refine ⟨fun _ => ?_, fun q => absurd rfl q⟩
          exact h128 s U V x y h7 (by omega) hUo (by omega) t2 I5 lc
theorem y_inv {n na : Nat} {h : vm_H} {A : Nat → Nat} {L N ni ri a c : Nat} {X : Int} (hP : MP A 6 L N ni ri) (hM : MD h A 6 L N ni) (ha : mz na h L N a X) (hc : lz n h c) (hLn : L ≤ n) (hLa : L ≤ na) (oc : okc A c) (ocs : ∀ i, i < 16 → c ≠ A (8 + i)) :
    vm_Met (vm_env l O f9) mX6_invert 0 0 [.ref (A 0), .ref a, .ref c] h (fun r h' => ∃ Y : Int, r = some (.int (if Nat.gcd (mt N L X) N = 1 then 1 else 0)) ∧ mz n h' L N c Y ∧ (Nat.gcd (mt N L X) N = 1 → X * Y % N = 1) ∧ MD h' A 6 L N ni ∧ fr h h' (rS A 6 c)) := by
  have hci2 := MP_ci hP
  have hif : (if 6 = 600 then 500 else 6) = 6 := rfl
  have hodd := MP_odd hP
  obtain ⟨p1, p2, p3⟩ := MP_N hP
  have hP' := hP
  obtain ⟨hci, L1, L74, N1, N2, hni, hri, _, ho⟩ := hP'
  have hal := mt_lt (L := L) (X := X) p1
  obtain ⟨ka, hka⟩ := mt_e L X p1
  unfold mz at ha
  generalize mt N L X = al at *
  have sne : ∀ i j, i < 24 → j < 24 → i ≠ j → A i ≠ A j := fun i j hi hj hn => MP_6 hP hi hj hn
  have hM' := hM
  obtain ⟨⟨fs, m0, f0, f1, f2, f3, f4, f5, f6, f7, f8⟩, _, _, _, _, _, m7, m8, _⟩ := hM'
  refine vm_met rfl (Nat.le_of_ble_eq_true rfl) ?_
  refine vm_go rfl (bX6_invert_0 6) (oX6_invert_0 hci2) ⟨fs, _, m0, f7, ⟨_, _, _, _, m7, by decide, rfl, 0, rfl, by decide, sp_rf (by decide), ⟨fs, _, m0, f7, ⟨_, _, _, _, m7, by decide, rfl, 1, rfl, by decide, sp_rf (by decide), ⟨fs, _, m0, f7, ⟨_, _, _, _, m7, by decide, rfl, 2, rfl, by decide, sp_rf (by decide), ⟨fs, _, m0, f7, ⟨_, _, _, _, m7, by decide, rfl, 3, rfl, by decide, sp_rf (by decide), ⟨fs, by rw [hif]; exact m0, 0, 0, _, z_copyi hP hM ha hLa (m8 0 (by decide)) (okc_sp hP (by decide)), Nat.le_refl _, Nat.le_refl _, ?_⟩⟩⟩⟩⟩⟩⟩⟩⟩
  rintro r h1 ⟨rfl, w1, M1, F1⟩
  have M1' := M1
  obtain ⟨⟨fs1, m01, _, f11, _⟩, n11, _, _, _, _, _, m81, _⟩ := M1'
  refine ⟨fs1, _, m01, f11, ⟨fs1, by rw [hif]; exact m01, 0, 0, _, m_copy hP M1 n11 (m81 1 (by decide)) (okc_sp hP (by decide)), Nat.le_refl _, Nat.le_refl _, ?_⟩⟩
  rintro r h2 ⟨rfl, w2, M2, F2⟩
  have M2' := M2
  obtain ⟨⟨fs2, m02, _, _, _, f32, _⟩, _, _, n32, _, _, _, m82, _⟩ := M2'
  refine ⟨fs2, _, m02, f32, ⟨fs2, by rw [hif]; exact m02, 0, 0, _, m_copy hP M2 n32 (m82 2 (by decide)) (okc_sp hP (by decide)), Nat.le_refl _, Nat.le_refl _, ?_⟩⟩
  rintro r h3 ⟨rfl, w3, M3, F3⟩
  have m83 := M3.2.2.2.2.2.2.2.1
  refine ⟨0, 0, _, m_fil hP M3 (m83 3 (by decide)) (okc_sp hP (by decide)), Nat.le_refl _, Nat.le_refl _, ?_⟩
  rintro r h4 ⟨rfl, w4, M4, F4⟩
  have I0 : IV h A 6 L N ni c al (Nat.gcd al N) 0 al N (268435456 ^ L * 268435456 ^ L % N) 0 h4 := by
    refine ⟨Nat.zero_le _, M4, ?_, ?_, ?_, w4, by omega, Nat.le_refl _, Nat.mod_lt _ p1, p1, hodd, rfl, ?_, ⟨-(268435456 ^ L * 268435456 ^ L), by grind⟩, ?_⟩
    · exact fr_nv F4 (fr_nv F3 (fr_nv F2 w1 (sne 8 9 (by decide) (by decide) (by decide))) (sne 8 10 (by decide) (by decide) (by decide))) (sne 8 11 (by decide) (by decide) (by decide))
    · exact fr_nv F4 (fr_nv F3 w2 (sne 9 10 (by decide) (by decide) (by decide))) (sne 9 11 (by decide) (by decide) (by decide))
    · exact fr_nv F4 w3 (sne 10 11 (by decide) (by decide) (by decide))
    · obtain ⟨k3, hk3⟩ := nmod_e (268435456 ^ L * 268435456 ^ L) N
      refine ⟨k3 * al, ?_⟩
      rw [hk3, Int.natCast_mul, Int.natCast_pow, show ((268435456 : Nat) : Int) = 268435456 from rfl]
      generalize (268435456 : Int) ^ L = R
      grind
    · refine fr_trans (fr_trans (fr_trans (fr_mono F1 ?_) (fr_mono F2 ?_)) (fr_mono F3 ?_)) (fr_mono F4 ?_)
      · exact fun q hq => Or.inr (Or.inr ⟨0, by decide, hq⟩)
      · exact fun q hq => Or.inr (Or.inr ⟨1, by decide, hq⟩)
      · exact fun q hq => Or.inr (Or.inr ⟨2, by decide, hq⟩)
      · exact fun q hq => Or.inr (Or.inr ⟨3, by decide, hq⟩)
  exact y_invl hP hLn oc ocs hal hka 0 0 al N _ 0 h4 (Nat.zero_le _) (by rw [Nat.pow_zero, Nat.mul_one]; exact Nat.le_refl _) I0 (lz_fr F4 (lz_fr F3 (lz_fr F2 (lz_fr F1 hc (ocs 0 (by decide))) (ocs 1 (by decide))) (ocs 2 (by decide))) (ocs 3 (by decide)))
end
