/-! the reference: rest, the division itself -/
theorem kn_g {B W U H x2 x1 x0 y1 y0 ru rh : Nat} (hB : 2 ≤ B) (p : 0 < W) (eU : U = ((x2 * B + x1) * B + x0) * W + ru) (hru : ru < W) (eH : H = (y1 * B + y0) * W + rh) (hrh : rh < W) (lx1 : x1 < B) (lx0 : x0 < B) (ly0 : y0 < B) (hH2 : B * (B * W) ≤ 2 * H) (hU : U < H * B) : 0 < W ∧ ((x2 * B + x1) * B + x0) * W ≤ U ∧ U < ((x2 * B + x1) * B + x0 + 1) * W ∧ (y1 * B + y0) * W ≤ H ∧ H < (y1 * B + y0 + 1) * W ∧ B * W ≤ H ∧ U < (x2 * B + x1 + 1) * (B * W) ∧ y1 * (B * W) ≤ H ∧ x2 ≤ y1 ∧ 0 < y1 := by
  have c0 : ((x2 * B + x1) * B + x0) * W ≤ U := by rw [eU]; exact Nat.le_add_right _ _
  have d0 : (y1 * B + y0) * W ≤ H := by rw [eH]; exact Nat.le_add_right _ _
  have c1 : U < ((x2 * B + x1) * B + x0 + 1) * W := by rw [eU, Nat.add_mul _ 1 W, Nat.one_mul]; exact Nat.add_lt_add_left hru _
  have c2 : H < (y1 * B + y0 + 1) * W := by rw [eH, Nat.add_mul _ 1 W, Nat.one_mul]; exact Nat.add_lt_add_left hrh _
  have c3 : ((x2 * B + x1) * B + x0 + 1) * W ≤ (x2 * B + x1 + 1) * (B * W) := by
    rw [← Nat.mul_assoc]
    refine Nat.mul_le_mul_right W ?_
    rw [Nat.add_mul _ 1 B, Nat.one_mul, Nat.add_assoc]
    exact Nat.add_le_add_left lx0 _
  have c4 : (y1 * B + y0 + 1) * W ≤ (y1 + 1) * (B * W) := by
    rw [← Nat.mul_assoc]
    refine Nat.mul_le_mul_right W ?_
    rw [Nat.add_mul _ 1 B, Nat.one_mul, Nat.add_assoc]
    exact Nat.add_le_add_left ly0 _
  have h2 : 2 * (B * W) ≤ B * (B * W) := Nat.mul_le_mul_right _ hB
  have hZ : 0 < B * W := Nat.mul_pos (by omega) p
  have c5 : x2 ≤ y1 := by
    rcases Nat.lt_or_ge y1 x2 with z | z
    · exfalso
      have h1 : (y1 + 1) * (B * W) ≤ x2 * (B * W) := Nat.mul_le_mul_right _ z
      have h3 : H * B ≤ x2 * (B * W) * B := Nat.mul_le_mul_right _ (by omega)
      have h4 : x2 * (B * W) * B = x2 * B * B * W := by grind
      have h5 : x2 * B * B * W ≤ ((x2 * B + x1) * B + x0) * W := by
        refine Nat.mul_le_mul_right W ?_
        rw [Nat.add_mul, Nat.add_assoc]
        exact Nat.le_add_right _ _
      omega
    · exact z
  have c6 : 0 < y1 := by
    rcases Nat.eq_zero_or_pos y1 with z | z
    · exfalso
      rw [z, Nat.zero_add 1, Nat.one_mul] at c4
      rw [z] at c2
      omega
    · exact z
  refine ⟨p, c0, c1, d0, c2, by omega, Nat.lt_of_lt_of_le c1 c3, ?_, c5, c6⟩
  refine Nat.le_trans ?_ d0
  rw [← Nat.mul_assoc]
  exact Nat.mul_le_mul_right W (Nat.le_add_right _ _)
theorem kn_f {n U H : Nat} (hn : 2 ≤ n) (hH : H < 4294967296 ^ n) (hH2 : 4294967296 ^ n ≤ 2 * H) (hU : U < H * 4294967296) :
    ∃ W, 0 < W ∧ ((dw U n * 4294967296 + dw U (n - 1)) * 4294967296 + dw U (n - 2)) * W ≤ U ∧ U < ((dw U n * 4294967296 + dw U (n - 1)) * 4294967296 + dw U (n - 2) + 1) * W ∧ (dw H (n - 1) * 4294967296 + dw H (n - 2)) * W ≤ H ∧ H < (dw H (n - 1) * 4294967296 + dw H (n - 2) + 1) * W ∧ 4294967296 * W ≤ H ∧ U < (dw U n * 4294967296 + dw U (n - 1) + 1) * (4294967296 * W) ∧ dw H (n - 1) * (4294967296 * W) ≤ H ∧ dw U n ≤ dw H (n - 1) ∧ 0 < dw H (n - 1) := by
  obtain ⟨m, rfl⟩ : ∃ m, n = m + 2 := ⟨n - 2, by omega⟩
  rw [show m + 2 - 1 = m + 1 from rfl, show m + 2 - 2 = m from rfl]
  have p : 0 < 4294967296 ^ m := Nat.pow_pos (by decide)
  have p2 : 4294967296 ^ (m + 2) = 4294967296 ^ m * 4294967296 * 4294967296 := by rw [Nat.pow_succ, Nat.pow_succ]
  have hU3 : U < 4294967296 ^ (m + 2 + 1) := Nat.lt_of_lt_of_le hU (by rw [Nat.pow_succ]; exact Nat.mul_le_mul_right _ (Nat.le_of_lt hH))
  have u2 := dw_top hU3
  have u1 := dw_d U (m + 1)
  have u0 := dw_d U m
  have v1 := dw_top (n := m + 1) hH
  have v0 := dw_d H m
  rw [show m + 1 + 1 = m + 2 from rfl, ← u2] at u1
  rw [u1] at u0
  rw [← v1] at v0
  have a1 := Nat.div_add_mod U (4294967296 ^ m)
  have a2 := Nat.mod_lt U p
  have b1 := Nat.div_add_mod H (4294967296 ^ m)
  have b2 := Nat.mod_lt H p
  rw [u0] at a1
  rw [v0] at b1
  have l1 := dw_lt U m
  have l2 := dw_lt U (m + 1)
  have l3 := dw_lt H m
  generalize dw U (m + 2) = x2 at *
  generalize dw U (m + 1) = x1 at *
  generalize dw U m = x0 at *
  generalize dw H (m + 1) = y1 at *
  generalize dw H m = y0 at *
  generalize 4294967296 ^ m = W at *
  generalize U % W = ru at *
  generalize H % W = rh at *
  have eU : U = ((x2 * 4294967296 + x1) * 4294967296 + x0) * W + ru := by
    rw [← a1, Nat.mul_comm W]
    grind
  have eH : H = (y1 * 4294967296 + y0) * W + rh := by
    rw [← b1, Nat.mul_comm W]
    grind
  rw [p2] at hH2
  exact ⟨W, kn_g (B := 4294967296) (by decide) p eU a2 eH b2 l2 l1 l3 (by rw [Nat.mul_comm 4294967296 W, Nat.mul_comm 4294967296]; exact hH2) hU⟩
theorem lc_ge {r : Nat} (h : 4294967296 ≤ r) (hr : r < 9223372036854775808) : 0 ≤ lg_cmp (lZ (r : Int)) 4294967296 := by
  rw [show (4294967296 : Int64) = lZ 4294967296 from rfl]
  unfold lg_cmp
  by_cases e : r = 4294967296
  · rw [e]; decide
  · rw [if_pos (by show lZ 4294967296 < lZ (r : Int); rw [lZ_lt (by omega) (by omega) (by omega) (by omega)]; omega)]
    decide
theorem lc_ng {r : Nat} (h : r < 4294967296) : ¬ 0 ≤ lg_cmp (lZ (r : Int)) 4294967296 := by
  rw [show (4294967296 : Int64) = lZ 4294967296 from rfl]
  unfold lg_cmp
  rw [if_neg (by show ¬ lZ 4294967296 < lZ (r : Int); rw [lZ_lt (by omega) (by omega) (by omega) (by omega)]; omega), if_neg (by rw [lZ_inj (by omega) (by omega) (by omega) (by omega)]; omega)]
  decide
theorem lZ_ml {x y : Nat} : lZ ((x * y : Nat) : Int) = lZ (x : Int) * lZ (y : Int) := by
  rw [lZ_mul, Int.natCast_mul]
theorem lZ_pr {x y : Nat} (hx : x < 4294967296) (hy : y < 4294967296) : lZ ((x * 4294967296 + y : Nat) : Int) = lZ (x : Int) <<< ((32 : Int32).toInt64 &&& 63) ||| lZ (y : Int) := by
  rw [show ((32 : Int32).toInt64 &&& 63) = ((nI 32).toInt64 &&& 63) from rfl, lZ_sh x 32 (by decide), Int64.or_comm, lZ_or (k := 32) (by omega) (by omega), Nat.add_comm]
section
variable {l : Launch} {O : Nat → vm_Ob} {f9 : Value} {h : vm_H} {Q : Option Value → vm_H → Prop}
theorem rest_B {a M mm hg c n many sh H V0 : Nat} {g : Nat → Int32} (k1 : h.2 M = .inr (12, [.ref mm, .ref hg, .int (nI n), .int (nI sh)])) (ho : h.2 a = RO a g) (hH : wv h 64 hg n H) (hHl : H < 4294967296 ^ n) (hH2 : 4294967296 ^ n ≤ 2 * H) (hn2 : 2 ≤ n) (hn : n ≤ 64) (hnm : n ≤ many) (hm : many ≤ 128) (w : wv h 130 (a + 1) (many + 1) V0) (hV0 : V0 < H * 4294967296 ^ (many - n + 1)) (hao : a + 300 < 1099511627776) (hhi : hg ≠ a + 1) (k : ∀ h', wv h' 130 (a + 1) (n + 1) (V0 % H) → fr h h' (fun q => q = a + 1) → vm_T (vm_env l O f9) mX14_rest 0 0 310 [(0, .ref a), (1, .ref M), (2, .int (nI many)), (3, .ref c), (4, .int (nI n)), (5, .int (nI sh))] [] h' Q) : vm_T (vm_env l O f9) mX14_rest 0 0 104 [(0, .ref a), (1, .ref M), (2, .int (nI many)), (3, .ref c), (4, .int (nI n)), (5, .int (nI sh))] [] h Q := by
  obtain ⟨fh, eh, vh⟩ := id hH
  have hHp : 0 < H := by
    have : 0 < 4294967296 ^ n := Nat.pow_pos (by decide)
    omega
  have haM : M ≠ a + 1 := fun z => by
    obtain ⟨f, ef, _⟩ := w
    have ef : h.2 (a + 1) = _ := ef
    rw [← z, k1] at ef
    cases ef
  have lv1 := dw_lt H (n - 1)
  have lv0 := dw_lt H (n - 2)
  have en1 : nI n - 1 = nI (n - 1) := nI_sub (b := 1) (by omega)
  have en2 : nI n - 2 = nI (n - 2) := nI_sub (b := 2) (by omega)
  refine vm_go rfl bX14_restx_104 oX14_restx_104 ⟨_, _, k1, rfl, ⟨64, fh, eh, n - 1, en1, by omega, fun _ => ⟨0, 0, _, vm_metA (rm_u lv1) (by rw [vh (n - 1) (by omega)]; rfl), Nat.zero_le _, Nat.zero_le _, ?_⟩⟩⟩
  rintro _ h5 ⟨rfl, e5⟩
  rw [e5]; clear e5 h5
  refine vm_Th (lv' := [(0, .ref a), (1, .ref M), (2, .int (nI many)), (3, .ref c), (4, .int (nI n)), (5, .int (nI sh)), (6, .long (lZ (dw H (n - 1) : Nat)))]) (h' := h) rfl rfl ?_
  refine vm_go rfl bX14_restx_118 oX14_restx_118 ?_
  refine vm_Th (lv' := [(0, .ref a), (1, .ref M), (2, .int (nI many)), (3, .ref c), (4, .int (nI n)), (5, .int (nI sh)), (6, .long (lZ (dw H (n - 1) : Nat))), (8, .int (iZ (((many - n + 1 : Nat) : Int) - 1)))]) (h' := h) ?_ rfl ?_
  · have : iZ (((many - n + 1 : Nat) : Int) - 1) = nI many - nI n := by
      rw [nI_sub hnm, iZ_nI]; congr 1; omega
    rw [this]; rfl
  have TT : ∀ i, i ≤ many - n + 1 → ∀ (h4 : vm_H) (V : Nat), wv h4 130 (a + 1) (i + n) V → (i = many - n + 1 ∨ wv h4 130 (a + 1) (i + n + 1) V) → V < H * 4294967296 ^ i → V % H = V0 % H → fr h h4 (fun q => q = a + 1) → vm_T (vm_env l O f9) mX14_rest 0 0 124 [(0, .ref a), (1, .ref M), (2, .int (nI many)), (3, .ref c), (4, .int (nI n)), (5, .int (nI sh)), (6, .long (lZ (dw H (n - 1) : Nat))), (8, .int (iZ ((i : Int) - 1)))] [] h4 Q := by
    intro i
    induction i with
    | zero =>
      intro _ h4 V w4 w5 hV eV F4
      refine vm_go rfl bX14_restx_124 oX14_restx_124 ⟨fun _ => ?_, fun q => absurd (show iZ (((0 : Nat) : Int) - 1) < 0 by decide) q⟩
      refine vm_less [0, 1, 2, 3, 4, 5] rfl (k h4 ?_ F4)
      rw [Nat.pow_zero, Nat.mul_one] at hV
      rw [Nat.mod_eq_of_lt hV] at eV
      rw [← eV]
      rcases w5 with y | y
      · omega
      · rwa [Nat.zero_add] at y
    | succ i ih =>
      intro hi h4 V w4 _ hV eV F4
      have ei : iZ (((i + 1 : Nat) : Int) - 1) = nI i := by
        rw [iZ_nI]; congr 1; omega
      rw [ei]
      have m4 : h4.2 M = _ := (F4.2 M haM).trans k1
      have o4 : h4.2 a = RO a g := (F4.2 a (by omega)).trans ho
      have eh4 : ia h4 64 hg fh := (F4.2 hg hhi).trans eh
      obtain ⟨f, ef, vf⟩ := id w4
      obtain ⟨U, eU⟩ : ∃ U, V / 4294967296 ^ i = U := ⟨_, rfl⟩
      have hU : U < H * 4294967296 := by
        rw [← eU]
        refine Nat.div_lt_of_lt_mul ?_
        rw [Nat.pow_succ] at hV
        rw [Nat.mul_comm, Nat.mul_assoc, Nat.mul_comm 4294967296]
        exact hV
      have vj : ∀ k, k < n + 1 → f (i + k) = nI (dw U k) := fun k hk => by rw [vf (i + k) (by omega), dw_sh, eU]
      obtain ⟨W, hW, f1, f2, f3, f4, f5, f6, f7, f8, f10⟩ := kn_f hn2 hHl hH2 hU
      have l2 := dw_lt U n
      have l1 := dw_lt U (n - 1)
      have l0 := dw_lt U (n - 2)
      have i1 : nI i + nI n - 1 = nI (i + (n - 1)) := by
        rw [nI_add, show i + (n - 1) = i + n - 1 by omega]; exact nI_sub (b := 1) (by omega)
      have i2 : nI i + nI n - 2 = nI (i + (n - 2)) := by
        rw [nI_add, show i + (n - 2) = i + n - 2 by omega]; exact nI_sub (b := 2) (by omega)
      have n0 : ¬ nI i < (0 : Int32) := by
        show ¬ nI i < nI 0
        rw [nI_ltI (by omega) (by decide)]; omega
      -- the step itself
      have stp : ∀ q r : Nat, q < 4294967296 → q * H ≤ U + H → U < (q + 1) * H → vm_T (vm_env l O f9) mX14_rest 0 0 295 [(0, .ref a), (1, .ref M), (2, .int (nI many)), (3, .ref c), (4, .int (nI n)), (5, .int (nI sh)), (6, .long (lZ (dw H (n - 1) : Nat))), (8, .int (nI i)), (9, .long (lZ (q : Int))), (11, .long (lZ (r : Int)))] [] h4 Q := by
        intro q r hq h1 h2
        have hV2 : V < 4294967296 ^ (i + (n + 1)) := by
          refine Nat.lt_of_lt_of_le hV ?_
          have : H * 4294967296 ^ (i + 1) ≤ 4294967296 ^ n * 4294967296 ^ (i + 1) := Nat.mul_le_mul_right _ (Nat.le_of_lt hHl)
          rw [← Nat.pow_add] at this
          rwa [show n + (i + 1) = i + (n + 1) by omega] at this
        refine vm_go rfl bX14_restx_295 oX14_restx_295 ⟨_, o4, 0, 0, _, rm_takes (j := i) (q := q) m4 o4 ⟨fh, eh4, vh⟩ hHl (by omega) hn (by rw [show i + (n + 1) = i + 1 + n by omega]; exact w4) hV2 (by omega) hq (by rw [eU]; exact h1) hao hhi, Nat.zero_le _, Nat.zero_le _, ?_⟩
        rintro _ h6 ⟨rfl, w6, F6⟩
        refine vm_less [0, 1, 2, 3, 4, 5, 6, 7] rfl ?_
        refine vm_Th (lv' := [(0, .ref a), (1, .ref M), (2, .int (nI many)), (3, .ref c), (4, .int (nI n)), (5, .int (nI sh)), (6, .long (lZ (dw H (n - 1) : Nat))), (8, .int (iZ ((i : Int) - 1)))]) (h' := h6) ?_ rfl ?_
        · have : iZ ((i : Int) - 1) = nI i + (-1) := by
            rw [iZ_nI, show (-1 : Int32) = iZ (-1) by decide, iZ_add]; rfl
          rw [this]; rfl
        rw [eU] at w6
        have p : 0 < 4294967296 ^ i := Nat.pow_pos (by decide)
        have hlo := Nat.mod_lt V p
        have e0 := Nat.div_add_mod V (4294967296 ^ i)
        rw [eU] at e0
        obtain ⟨t, T9, eT, hT, hq9⟩ : ∃ t T9, (if q * H ≤ U then U - q * H else U + H - q * H) = T9 ∧ T9 < H ∧ T9 + t * H = U := by
          by_cases y : q * H ≤ U
          · rw [if_pos y]
            refine ⟨q, _, rfl, ?_, by omega⟩
            rw [Nat.add_mul, Nat.one_mul] at h2
            omega
          · rw [if_neg y]
            obtain ⟨q', rfl⟩ : ∃ q', q = q' + 1 := ⟨q - 1, by
              rcases Nat.eq_zero_or_pos q with z | z
              · rw [z, Nat.zero_mul] at y; omega
              · omega⟩
            rw [Nat.add_mul, Nat.one_mul] at h1 y
            refine ⟨q', _, rfl, ?_, ?_⟩
            · rw [Nat.add_mul, Nat.one_mul]; omega
            · rw [Nat.add_mul, Nat.one_mul]; omega
        rw [eT] at w6
        have hV' : V % 4294967296 ^ i + 4294967296 ^ i * T9 < H * 4294967296 ^ i := by
          have : 4294967296 ^ i * (T9 + 1) ≤ 4294967296 ^ i * H := Nat.mul_le_mul_left _ hT
          rw [Nat.mul_add, Nat.mul_one] at this
          rw [Nat.mul_comm H]
          omega
        have eV' : (V % 4294967296 ^ i + 4294967296 ^ i * T9) % H = V0 % H := by
          rw [← eV]
          have : V = V % 4294967296 ^ i + 4294967296 ^ i * T9 + H * (4294967296 ^ i * t) := by
            have h9 : 4294967296 ^ i * U = 4294967296 ^ i * T9 + H * (4294967296 ^ i * t) := by rw [← hq9]; grind
            omega
          rw [this, Nat.add_mul_mod_self_left, ← this]
        obtain ⟨f6', e61, e62⟩ := id w6
        refine ih (by omega) h6 _ ⟨f6', e61, fun k hk => e62 k (by omega)⟩ (Or.inr (by rw [show i + n + 1 = i + (n + 1) by omega]; exact w6)) hV' eV' (fr_trans F4 F6)
      -- the guess is made smaller
      have inn : ∀ q r : Nat, q < 4294967296 → r < 8589934592 → q * dw H (n - 1) + r = dw U n * 4294967296 + dw U (n - 1) → U < (q + 1) * H → vm_T (vm_env l O f9) mX14_rest 0 0 228 [(0, .ref a), (1, .ref M), (2, .int (nI many)), (3, .ref c), (4, .int (nI n)), (5, .int (nI sh)), (6, .long (lZ (dw H (n - 1) : Nat))), (8, .int (nI i)), (9, .long (lZ (q : Int))), (11, .long (lZ (r : Int)))] [] h4 Q := by
        intro q
        induction q with
        | zero =>
          intro r hq hr e1 hlt
          have ex : vm_T (vm_env l O f9) mX14_rest 0 0 295 [(0, .ref a), (1, .ref M), (2, .int (nI many)), (3, .ref c), (4, .int (nI n)), (5, .int (nI sh)), (6, .long (lZ (dw H (n - 1) : Nat))), (8, .int (nI i)), (9, .long (lZ ((0 : Nat) : Int))), (11, .long (lZ (r : Int)))] [] h4 Q := stp 0 r hq (by omega) hlt
          by_cases cb : 4294967296 ≤ r
          · have cc : 0 ≤ lg_cmp (lZ (r : Int)) 4294967296 := lc_ge cb (by omega)
            exact vm_go rfl bX14_restx_228 oX14_restx_228 ⟨fun _ => ex, fun q => absurd cc q⟩
          · have cc : ¬ 0 ≤ lg_cmp (lZ (r : Int)) 4294967296 := lc_ng (by omega)
            refine vm_go rfl bX14_restx_228 oX14_restx_228 ⟨fun q => absurd q cc, fun _ => ⟨_, _, m4, rfl, ⟨64, fh, eh4, n - 2, en2, by omega, fun _ => ⟨0, 0, _, vm_metA (rm_u lv0) (by rw [vh (n - 2) (by omega)]; rfl), Nat.zero_le _, Nat.zero_le _, ?_⟩⟩⟩⟩
            rintro _ h5 ⟨rfl, e5⟩
            rw [e5]; clear e5 h5
            refine ⟨_, _, o4, rfl, ⟨130, f, ef, i + (n - 2), i2, by omega, fun _ => ⟨0, 0, _, vm_metA (rm_u l0) (by rw [vj (n - 2) (by omega)]; rfl), Nat.zero_le _, Nat.zero_le _, ?_⟩⟩⟩
            rintro _ h5 ⟨rfl, e5⟩
            rw [e5]; clear e5 h5
            refine ⟨0, 0, _, vm_metA (s_cpu (x := 0 * dw H (n - 2)) (y := r * 4294967296 + dw U (n - 2)) (by omega) (by omega)) (by rw [lZ_ml, lZ_pr (by omega) l0]; rfl), Nat.zero_le _, Nat.zero_le _, ?_⟩
            rintro _ h5 ⟨⟨z, rfl, hz⟩, e5⟩
            rw [e5]; clear e5 h5
            refine ⟨fun _ => ex, fun q => absurd (Int32.not_lt.mp (fun y => absurd (hz.mp y) (by omega))) q⟩
        | succ q ihq =>
          intro r hq hr e1 hlt
          by_cases cb : 4294967296 ≤ r
          · have cc : 0 ≤ lg_cmp (lZ (r : Int)) 4294967296 := lc_ge cb (by omega)
            refine vm_go rfl bX14_restx_228 oX14_restx_228 ⟨fun _ => stp (q + 1) r hq ?_ hlt, fun q => absurd cc q⟩
            refine kn_up hW e1 ?_ f1 f4 hq f5
            have h1 : (q + 1) * dw H (n - 2) ≤ 4294967296 * 4294967296 := Nat.mul_le_mul (Nat.le_of_lt hq) (Nat.le_of_lt lv0)
            have h2 : 4294967296 * 4294967296 ≤ r * 4294967296 := Nat.mul_le_mul_right _ cb
            omega
          · have cc : ¬ 0 ≤ lg_cmp (lZ (r : Int)) 4294967296 := lc_ng (by omega)
            have hb : (q + 1) * dw H (n - 2) < 18446744073709551616 := by
              have h1 : (q + 1) * dw H (n - 2) ≤ 4294967295 * 4294967295 := Nat.mul_le_mul (by omega) (by omega)
              omega
            refine vm_go rfl bX14_restx_228 oX14_restx_228 ⟨fun q => absurd q cc, fun _ => ⟨_, _, m4, rfl, ⟨64, fh, eh4, n - 2, en2, by omega, fun _ => ⟨0, 0, _, vm_metA (rm_u lv0) (by rw [vh (n - 2) (by omega)]; rfl), Nat.zero_le _, Nat.zero_le _, ?_⟩⟩⟩⟩
            rintro _ h5 ⟨rfl, e5⟩
            rw [e5]; clear e5 h5
            refine ⟨_, _, o4, rfl, ⟨130, f, ef, i + (n - 2), i2, by omega, fun _ => ⟨0, 0, _, vm_metA (rm_u l0) (by rw [vj (n - 2) (by omega)]; rfl), Nat.zero_le _, Nat.zero_le _, ?_⟩⟩⟩
            rintro _ h5 ⟨rfl, e5⟩
            rw [e5]; clear e5 h5
            refine ⟨0, 0, _, vm_metA (s_cpu (x := (q + 1) * dw H (n - 2)) (y := r * 4294967296 + dw U (n - 2)) hb (by omega)) (by rw [lZ_ml, lZ_pr (by omega) l0]; rfl), Nat.zero_le _, Nat.zero_le _, ?_⟩
            rintro _ h5 ⟨⟨z, rfl, hz⟩, e5⟩
            rw [e5]; clear e5 h5
            refine ⟨fun y => stp (q + 1) r hq (kn_up hW e1 (Nat.not_lt.mp (fun y2 => absurd y (Int32.not_le.mpr (hz.mpr y2)))) f1 f4 hq f5) hlt, fun y => ?_⟩
            have hgt := hz.mp (Int32.not_le.mp y)
            refine vm_Th (lv' := [(0, .ref a), (1, .ref M), (2, .int (nI many)), (3, .ref c), (4, .int (nI n)), (5, .int (nI sh)), (6, .long (lZ (dw H (n - 1) : Nat))), (8, .int (nI i)), (9, .long (lZ (q : Int))), (11, .long (lZ (r : Int)))]) (h' := h4) ?_ rfl ?_
            · have : lZ (q : Int) = lZ ((q + 1 : Nat) : Int) - 1 := by
                rw [show (1 : Int64) = lZ 1 from rfl, lZ_sub]; congr 1; omega
              rw [this]; rfl
            refine vm_go rfl bX14_restx_285 oX14_restx_285 ?_
            refine vm_Th (lv' := [(0, .ref a), (1, .ref M), (2, .int (nI many)), (3, .ref c), (4, .int (nI n)), (5, .int (nI sh)), (6, .long (lZ (dw H (n - 1) : Nat))), (8, .int (nI i)), (9, .long (lZ (q : Int))), (11, .long (lZ ((r + dw H (n - 1) : Nat) : Int)))]) (h' := h4) ?_ rfl ?_
            · have : lZ ((r + dw H (n - 1) : Nat) : Int) = lZ (r : Int) + lZ (dw H (n - 1) : Nat) := by
                rw [lZ_add]; congr 1
              rw [this]; rfl
            refine vm_go rfl bX14_restx_292 oX14_restx_292 ?_
            refine ihq (r + dw H (n - 1)) (by omega) (by omega) ?_ (kn_dn hW e1 hgt f2 f3)
            rw [← e1, Nat.add_mul, Nat.one_mul]
            omega
      by_cases ce : dw U n = dw H (n - 1)
      · have cc : lg_cmp (lZ (dw U n : Nat)) (lZ (dw H (n - 1) : Nat)) = 0 := by rw [ce]; exact lc_ee
        refine vm_go rfl bX14_restx_124 oX14_restx_124 ⟨fun q => absurd q n0, fun _ => ⟨_, _, o4, rfl, ⟨130, f, ef, i + n, nI_add i n, by omega, fun _ => ⟨0, 0, _, vm_metA (rm_u l2) (by rw [vj n (by omega)]; rfl), Nat.zero_le _, Nat.zero_le _, ?_⟩⟩⟩⟩
        rintro _ h5 ⟨rfl, e5⟩
        rw [e5]; clear e5 h5
        refine ⟨fun q => absurd cc q, fun _ => ?_⟩
        refine vm_Th (lv' := [(0, .ref a), (1, .ref M), (2, .int (nI many)), (3, .ref c), (4, .int (nI n)), (5, .int (nI sh)), (6, .long (lZ (dw H (n - 1) : Nat))), (8, .int (nI i)), (9, .long (lZ ((4294967295 : Nat) : Int)))]) (h' := h4) rfl rfl ?_
        refine vm_go rfl bX14_restx_153 oX14_restx_153 ⟨_, _, o4, rfl, ⟨130, f, ef, i + (n - 1), i1, by omega, fun _ => ⟨0, 0, _, vm_metA (rm_u l1) (by rw [vj (n - 1) (by omega)]; rfl), Nat.zero_le _, Nat.zero_le _, ?_⟩⟩⟩
        rintro _ h5 ⟨rfl, e5⟩
        rw [e5]; clear e5 h5
        refine vm_Th (lv' := [(0, .ref a), (1, .ref M), (2, .int (nI many)), (3, .ref c), (4, .int (nI n)), (5, .int (nI sh)), (6, .long (lZ (dw H (n - 1) : Nat))), (8, .int (nI i)), (9, .long (lZ ((4294967295 : Nat) : Int))), (11, .long (lZ ((dw U (n - 1) + dw H (n - 1) : Nat) : Int)))]) (h' := h4) ?_ rfl ?_
        · have : lZ ((dw U (n - 1) + dw H (n - 1) : Nat) : Int) = lZ (dw U (n - 1) : Nat) + lZ (dw H (n - 1) : Nat) := by
            rw [lZ_add]; congr 1
          rw [this]; rfl
        refine vm_go rfl bX14_restx_173 oX14_restx_173 ?_
        refine inn 4294967295 (dw U (n - 1) + dw H (n - 1)) (by decide) (by omega) (by rw [ce]; omega) ?_
        rw [Nat.mul_comm]; exact hU
      · have cl : dw U n < dw H (n - 1) := by omega
        have cc : ¬ lg_cmp (lZ (dw U n : Nat)) (lZ (dw H (n - 1) : Nat)) = 0 := by rw [lc_lt lv1 cl]; decide
        refine vm_go rfl bX14_restx_124 oX14_restx_124 ⟨fun q => absurd q n0, fun _ => ⟨_, _, o4, rfl, ⟨130, f, ef, i + n, nI_add i n, by omega, fun _ => ⟨0, 0, _, vm_metA (rm_u l2) (by rw [vj n (by omega)]; rfl), Nat.zero_le _, Nat.zero_le _, ?_⟩⟩⟩⟩
        rintro _ h5 ⟨rfl, e5⟩
        rw [e5]; clear e5 h5
        refine ⟨fun _ => ?_, fun q => absurd q cc⟩
        refine vm_go rfl bX14_restx_176 oX14_restx_176 ⟨_, _, o4, rfl, ⟨130, f, ef, i + n, nI_add i n, by omega, fun _ => ⟨0, 0, _, vm_metA (rm_u l2) (by rw [vj n (by omega)]; rfl), Nat.zero_le _, Nat.zero_le _, ?_⟩⟩⟩
        rintro _ h5 ⟨rfl, e5⟩
        rw [e5]; clear e5 h5
        refine ⟨_, _, o4, rfl, ⟨130, f, ef, i + (n - 1), i1, by omega, fun _ => ⟨0, 0, _, vm_metA (rm_u l1) (by rw [vj (n - 1) (by omega)]; rfl), Nat.zero_le _, Nat.zero_le _, ?_⟩⟩⟩
        rintro _ h5 ⟨rfl, e5⟩
        rw [e5]; clear e5 h5
        obtain ⟨pr, epr⟩ : ∃ pr, dw U n * 4294967296 + dw U (n - 1) = pr := ⟨_, rfl⟩
        have hpr : pr < 18446744073709551616 := by omega
        refine vm_Th (lv' := [(0, .ref a), (1, .ref M), (2, .int (nI many)), (3, .ref c), (4, .int (nI n)), (5, .int (nI sh)), (6, .long (lZ (dw H (n - 1) : Nat))), (8, .int (nI i)), (13, .long (lZ (pr : Int)))]) (h' := h4) ?_ rfl ?_
        · rw [← epr, ← lZ_pr l2 l1]; rfl
        refine vm_go rfl bX14_restx_210 oX14_restx_210 ⟨0, 0, _, s_dvu hpr f10 lv1, Nat.zero_le _, Nat.zero_le _, ?_⟩
        rintro _ h5 ⟨rfl, e5⟩
        rw [e5]; clear e5 h5
        refine vm_Th (lv' := [(0, .ref a), (1, .ref M), (2, .int (nI many)), (3, .ref c), (4, .int (nI n)), (5, .int (nI sh)), (6, .long (lZ (dw H (n - 1) : Nat))), (8, .int (nI i)), (9, .long (lZ ((pr / dw H (n - 1) : Nat) : Int))), (13, .long (lZ (pr : Int)))]) (h' := h4) rfl rfl ?_
        refine vm_go rfl bX14_restx_219 oX14_restx_219 ⟨0, 0, _, s_rmu hpr f10 lv1, Nat.zero_le _, Nat.zero_le _, ?_⟩
        rintro _ h5 ⟨rfl, e5⟩
        rw [e5]; clear e5 h5
        refine vm_Th (lv' := [(0, .ref a), (1, .ref M), (2, .int (nI many)), (3, .ref c), (4, .int (nI n)), (5, .int (nI sh)), (6, .long (lZ (dw H (n - 1) : Nat))), (8, .int (nI i)), (9, .long (lZ ((pr / dw H (n - 1) : Nat) : Int))), (11, .long (lZ ((pr % dw H (n - 1) : Nat) : Int))), (13, .long (lZ (pr : Int)))]) (h' := h4) rfl rfl ?_
        refine vm_less [0, 1, 2, 3, 4, 5, 6, 7, 8, 9] rfl ?_
        have hr := Nat.mod_lt pr f10
        have hqq := Nat.div_add_mod pr (dw H (n - 1))
        have e1 : pr / dw H (n - 1) * dw H (n - 1) + pr % dw H (n - 1) = dw U n * 4294967296 + dw U (n - 1) := by rw [epr, Nat.mul_comm]; exact hqq
        refine inn _ _ ?_ (by omega) e1 (kn_st (W := 4294967296 * W) (by omega) e1 hr f6 f7)
        refine Nat.div_lt_of_lt_mul ?_
        have : (dw U n + 1) * 4294967296 ≤ dw H (n - 1) * 4294967296 := Nat.mul_le_mul_right _ cl
        omega
  refine TT (many - n + 1) (Nat.le_refl _) h V0 (by rw [show many - n + 1 + n = many + 1 by omega]; exact w) (Or.inl rfl) hV0 rfl fr_refl
/-- a modulus with its number shifted up -/
def MH (h : vm_H) (M mm hg n N sh : Nat) : Prop := MM h M mm hg n N (nI sh) ∧ wv h 64 hg n (N * 2 ^ sh) ∧ sh < 32 ∧ N * 2 ^ sh < 4294967296 ^ n ∧ 4294967296 ^ n ≤ 2 * (N * 2 ^ sh)
theorem rm_rest {a M mm hg n N sh many X c L3 : Nat} {g : Nat → Int32} (k : MH h M mm hg n N sh) (ho : h.2 a = RO a g) (w : wv h 130 (a + 1) many X) (hX : X < 4294967296 ^ many) (hnm : n ≤ many) (hm : many ≤ 128) (hc : iw h L3 c) (h3 : n ≤ L3) (hco : c < 1099511627776) (hca : c ≠ a + 1) (hhi : hg ≠ a + 1) (hao : a + 300 < 1099511627776) : vm_Met (vm_env l O f9) mX14_rest 0 0 [.ref a, .ref M, .int (nI many), .ref c] h (fun r h' => r = none ∧ wv h' L3 c n (X % N) ∧ iw h' 130 (a + 1) ∧ fr h h' (fun q => q = a + 1 ∨ q = c)) := by
  obtain ⟨⟨k1, k2, k3, k4, k5, k6⟩, kh, hs, hHl, hH2⟩ := k
  have haM : M ≠ a + 1 := fun z => by
    obtain ⟨f, ef, _⟩ := w
    have ef : h.2 (a + 1) = _ := ef
    rw [← z, k1] at ef
    cases ef
  have hR : 0 < 2 ^ sh := Nat.pow_pos (by decide)
  refine vm_met rfl (Nat.le_of_ble_eq_true rfl) ?_
  refine vm_go rfl bX14_restx_0 oX14_restx_0 ⟨_, _, k1, rfl, ?_⟩
  refine vm_Th (lv' := [(0, .ref a), (1, .ref M), (2, .int (nI many)), (3, .ref c), (4, .int (nI n))]) (h' := h) rfl rfl ?_
  refine vm_go rfl bX14_restx_6 oX14_restx_6 ⟨_, _, k1, rfl, ?_⟩
  refine vm_Th (lv' := [(0, .ref a), (1, .ref M), (2, .int (nI many)), (3, .ref c), (4, .int (nI n)), (5, .int (nI sh))]) (h' := h) rfl rfl ?_
  refine rest_A ho w hX (by omega) hm hs hao (fun h1 w1 F1 => ?_)
  have hV0 : X * 2 ^ sh < N * 2 ^ sh * 4294967296 ^ (many - n + 1) := by
    have h1 : X * 2 ^ sh < 4294967296 ^ many * 2 ^ sh := Nat.mul_lt_mul_of_pos_right hX hR
    have h2 : 2 ^ sh ≤ 2147483648 := Nat.pow_le_pow_right (n := 2) (j := 31) (by decide) (by omega)
    have h4 : 4294967296 ^ many * 2 ^ sh ≤ 4294967296 ^ many * 2147483648 := Nat.mul_le_mul_left _ h2
    have h5 : 4294967296 ^ n * 4294967296 ^ (many - n + 1) ≤ 2 * (N * 2 ^ sh) * 4294967296 ^ (many - n + 1) := Nat.mul_le_mul_right _ hH2
    rw [← Nat.pow_add, show n + (many - n + 1) = many + 1 by omega, Nat.pow_succ, Nat.mul_assoc 2] at h5
    omega
  refine rest_B ((F1.2 M haM).trans k1) ((F1.2 a (by omega)).trans ho) (wv_cg kh (F1.2 hg hhi)) hHl hH2 k4 k3 hnm hm w1 hV0 hao hhi (fun h2 w2 F2 => ?_)
  have F2 := fr_trans F1 F2
  refine rest_C ((F2.2 a (by omega)).trans ho) w2 k3 (iw_cg hc (F2.2 c hca)) h3 hco hca hs (fun h3 w3 F3 => ?_)
  refine ⟨rfl, ?_, iw_cg (wv_iw w2) (F3.2 (a + 1) (fun z => hca z.symm)), fr_trans (fr_mono F2 (fun q z => Or.inl z)) (fr_mono F3 (fun q z => Or.inr z))⟩
  rw [Nat.mul_mod_mul_right, Nat.mul_div_cancel _ hR] at w3
  exact w3
end
