/-! the constructor of Curve: its table, its base -/
section
variable {l : Launch} {O : Nat → vm_Ob} {f9 : Value}
theorem ci_5 {h : vm_H} {e C : Nat} {c0 c1 c2 c3 c4 c5 c6 c7 c8 c9 : Value} {ff : List Value} {Q : Option Value → vm_H → Prop} (he : h.1 = e + 47) (hC : C < e) (hh : e + 1000 < 1099511627776) (C0 : h.2 C = .inr (2, [c0, c1, c2, c3, c4, c5, c6, c7, c8, c9, .ref (e + 45)])) (B0 : h.2 (e + 45) = .inl (.object "VeilMint$Point", 150, .inr (.inr (.inr (.inr (fun _ => none)))))) (f0 : h.2 e = .inr (3, ff)) (f1 : ff[0]? = some (.int (nI 14)))
    (K : ∀ h1 : vm_H, h1.1 = e + 647 → h1.2 (e + 45) = .inl (.object "VeilMint$Point", 150, .inr (.inr (.inr (.inr (fun j => if j < 150 then some (e + 47 + 4 * j) else none))))) → (∀ j, j < 150 → h1.2 (e + 47 + 4 * j) = .inr (8, [.ref (e + 48 + 4 * j), .ref (e + 48 + 4 * j + 1), .ref (e + 48 + 4 * j + 2)]) ∧ ∀ i, i < 3 → h1.2 (e + 48 + 4 * j + i) = .inl (.long, 14, .inr (.inl (fun _ => 0)))) → (∀ q, q < e + 47 ∨ 1099511627776 ≤ q → q ≠ e + 45 → h1.2 q = h.2 q) → vm_T (vm_env l O f9) mX2_init 1 49 344 [(0, .ref C), (1, .ref e)] [] h1 Q) :
    vm_T (vm_env l O f9) mX2_init 601 6799 312 [(0, .ref C), (1, .ref e), (2, .int (nI 0))] [] h Q := by
  have key : ∀ (d k : Nat) (h1 : vm_H), k + d = 150 → h1.1 = e + 47 + 4 * k → h1.2 (e + 45) = .inl (.object "VeilMint$Point", 150, .inr (.inr (.inr (.inr (fun j => if j < k then some (e + 47 + 4 * j) else none))))) → (∀ j, j < k → h1.2 (e + 47 + 4 * j) = .inr (8, [.ref (e + 48 + 4 * j), .ref (e + 48 + 4 * j + 1), .ref (e + 48 + 4 * j + 2)]) ∧ ∀ i, i < 3 → h1.2 (e + 48 + 4 * j + i) = .inl (.long, 14, .inr (.inl (fun _ => 0)))) → (∀ q, q < e + 47 ∨ 1099511627776 ≤ q → q ≠ e + 45 → h1.2 q = h.2 q) → vm_T (vm_env l O f9) mX2_init (1 + 4 * d) (49 + 45 * d) 312 [(0, .ref C), (1, .ref e), (2, .int (nI k))] [] h1 Q := by
    intro d
    induction d with
    | zero =>
      intro k h1 hk p1 p2 p3 p4
      have : k = 150 := by omega
      subst this
      have C1 := (p4 C (by omega) (by omega)).trans C0
      refine vm_go rfl bX2_init_312 oX2_init_312 ⟨_, _, C1, rfl, ⟨_, _, p2, by decide, ⟨fun _ => ?_, fun q => absurd (nI_le (a := 150) (b := 150) (by decide) (by decide)) q⟩⟩⟩
      refine vm_less [0, 1] rfl ?_
      exact K h1 (by omega) p2 p3 p4
    | succ d ih =>
      intro k h1 hk p1 p2 p3 p4
      have C1 := (p4 C (by omega) (by omega)).trans C0
      have g1 := (p4 e (by omega) (by omega)).trans f0
      refine vm_go rfl bX2_init_312 oX2_init_312 ⟨_, _, C1, rfl, ⟨_, _, p2, by decide, ⟨fun q => absurd q (nI_ge (b := 150) (by omega) (by decide)), fun _ => ⟨_, _, C1, rfl, ⟨by omega, by show 3 ≤ _; omega, by omega, ?_⟩⟩⟩⟩⟩
      generalize hq2 : vm_nw h1 (.inr (8, vm_df 8)) = h2
      have c2' : h2.1 = e + 48 + 4 * k := by rw [← hq2]; show h1.1 + 1 = _; omega
      have a2 : h2.2 (e + 47 + 4 * k) = .inr (8, [.null, .null, .null]) := by rw [← hq2, ← p1]; exact nw_e
      have u2 : ∀ q, q ≠ e + 47 + 4 * k → h2.2 q = h1.2 q := fun q hq => by rw [← hq2]; exact nw_n (by omega)
      rw [p1]
      clear hq2
      refine ⟨_, _, (u2 _ (by omega)).trans g1, f1, ⟨3, 42, _, v_point (L := 14) a2 (by omega) (by decide) (by omega), by omega, by show 42 ≤ 49 + 45 * (d + 1) - 3; omega, ?_⟩⟩
      rintro _ h3 ⟨rfl, c3', a3, z3, u3⟩
      rw [c2'] at a3 z3 u3 c3'
      have B3 := (u3 (e + 45) (by omega) (by omega)).trans ((u2 _ (by omega)).trans p2)
      have o45 : e + 45 < 1099511627776 := by omega
      have o47 : e + 47 + 4 * k < 1099511627776 := by omega
      refine ⟨150, _, _, B3, o45, a3, o47, k, rfl, by omega, ?_⟩
      refine vm_Th (by rw [← nI_1]; rfl) rfl (vm_more (ih (k + 1) _ (by omega) ?_ ?_ ?_ ?_) (by omega) (by show _ ≤ 49 + 45 * (d + 1) - 3 - 42; omega))
      · show h3.1 = _
        omega
      · refine vm_upe.trans ?_
        congr 7
        funext j
        show (if j = k then some (e + 47 + 4 * k) else if j < k then some (e + 47 + 4 * j) else none) = if j < k + 1 then some (e + 47 + 4 * j) else none
        by_cases e1 : j = k
        · rw [if_pos e1, if_pos (by omega), e1]
        · rw [if_neg e1]
          by_cases e2 : j < k
          · rw [if_pos e2, if_pos (by omega)]
          · rw [if_neg e2, if_neg (by omega)]
      · intro j hj
        by_cases ej : j = k
        · subst ej
          refine ⟨(vm_upn (by omega)).trans a3, fun i hi => (vm_upn (by omega)).trans (z3 i hi)⟩
        · obtain ⟨q1, q2⟩ := p3 j (by omega)
          refine ⟨?_, fun i hi => ?_⟩
          · rw [vm_upn (by omega), u3 _ (by omega) (by omega), u2 _ (by omega)]; exact q1
          · rw [vm_upn (by omega), u3 _ (by omega) (by omega), u2 _ (by omega)]; exact q2 i hi
      · intro q hq hq2
        rw [vm_upn hq2, u3 _ (by omega) (by omega), u2 _ (by omega)]
        exact p4 q hq hq2
  exact key 150 0 h (by decide) (by omega) B0 (fun j hj => by omega) (fun _ _ _ => rfl)
/-- where a new Curve lies -/
theorem XC_own {e C ni ri e2 q : Nat} (h2 : e + 648 ≤ e2) (ho : own 151 (XC e C ni ri e2) q) : q = C ∨ (e ≤ q ∧ q < e + 647) := by
  rcases ho with ⟨i, hi, rfl⟩ | ⟨i, hi, rfl⟩ | ⟨k, hk, rfl⟩
  · by_cases h24 : i < 24
    · rw [XC_A h24]
      have := Am_r (e := e) h24
      omega
    · have hi : i = 24 ∨ i = 25 ∨ i = 26 ∨ i = 27 := by omega
      rcases hi with rfl | rfl | rfl | rfl
      · exact Or.inl rfl
      · right; show e ≤ e + 36 ∧ e + 36 < _; omega
      · right; show e ≤ e + 45 ∧ e + 45 < _; omega
      · right; show e ≤ e + 29 ∧ e + 29 < _; omega
  · rw [XC_R (by omega)]
    have := XR_b h2 i (by omega)
    right; omega
  · rw [XC_W]
    right
    unfold XW
    split
    · omega
    · first | omega | (rw [if_pos hk]; omega)
theorem AG_own {n : Nat} {X : Nat → Nat} {q : Nat} (h : AG n X q) : own n X q := by
  rcases h with (z | ⟨_, z⟩) | ⟨i, hi, z⟩ | ⟨i, hi, z⟩
  · exact Or.inl ⟨6, by decide, z⟩
  · exact Or.inl ⟨5, by decide, z⟩
  · exact Or.inl ⟨8 + i, by omega, z⟩
  · exact Or.inr (Or.inl ⟨i, hi, z⟩)
theorem gy_e {y : fq} (h : EL (hxb tG) 0 y) : y = fz (cGY : Int) := by
  obtain ⟨_, _, h3, h4⟩ := h
  rw [tG_n.1] at h4
  have h3 : ecC (-3) (fz (cB : Int)) (fz (cGX : Int)) y := by
    have := tG_n.2
    rw [show bn (hxb tG) (0 + 1) 48 = cGX from this] at h3
    exact h3
  have hg : ecC (-3) (fz (cB : Int)) (fz (cGX : Int)) (fz (cGY : Int)) := gP_o
  have k := ec_sq h3 hg
  rcases fqf_D _ _ k with z | z
  · exact sub_z z
  · exfalso
    have e1 : y = - fz (cGY : Int) := add_z z
    have hy0 : fz (cGY : Int) ≠ 0 := cK.2.2.2 _ _ hg
    have hp := pr2 _ hy0
    rw [← e1] at hp
    have : (fz (cGY : Int)).val % 2 = 1 := by
      have := fz_v (cGY : Int)
      have e2 : ((cGY : Int) % ((cPm + 1 : Nat) : Int)) % 2 = 1 := by decide +kernel
      omega
    omega
theorem gy_el : EL (hxb tG) 0 (fz (cGY : Int)) := by
  refine ⟨Or.inr tG_n.1, ?_, ?_, ?_⟩
  · show bn (hxb tG) 1 48 < cP
    rw [tG_n.2]; decide +kernel
  · show ecC _ _ (fz (bn (hxb tG) 1 48 : Int)) _
    rw [tG_n.2]; exact gP_o
  · rw [tG_n.1]
    have := fz_v (cGY : Int)
    have e2 : ((cGY : Int) % ((cPm + 1 : Nat) : Int)) % 2 = 1 := by decide +kernel
    omega
theorem CAu_cg {n : Nat} {X : Nat → Nat} {h h' : vm_H} {g : Nat → Option (Option (fq × fq))} {u : Nat → Option Int} (k : CAu n X h g u) (hS : ∀ q, own n X q → h'.2 q = h.2 q) : CAu n X h' g u := by
  obtain ⟨⟨k1, k2, k3, k4, k5⟩, ⟨s1, s2, s3, s4, rb, ⟨f, s5, s5'⟩, s6⟩, c, kp⟩ := k
  have e1 : ∀ i, i < 28 → h'.2 (X i) = h.2 (X i) := fun i hi => hS _ (Or.inl ⟨i, hi, rfl⟩)
  refine ⟨⟨k1, MD_cg k2 (fun i hi _ => e1 i (by omega)), k3, k4, fun i hi => ?_⟩, ⟨(e1 24 (by decide)).trans s1, (e1 25 (by decide)).trans s2, (e1 26 (by decide)).trans s3, fun k hk => (hS _ (Or.inr (Or.inr ⟨k, hk, rfl⟩))).trans (s4 k hk), rb, ⟨f, (e1 27 (by decide)).trans s5, s5'⟩, s6⟩, c, kp⟩
  have e2 := hS _ (Or.inr (Or.inl ⟨i, hi, rfl⟩))
  obtain ⟨⟨f2, l1⟩, l2⟩ := k5 i hi
  refine ⟨⟨f2, e2.trans l1⟩, fun a ha => ?_⟩
  obtain ⟨f3, l3, l4⟩ := l2 a ha
  exact ⟨f3, e2.trans l3, l4⟩
theorem AR_low {e C ni ri e2 m q : Nat} (hm : m ≤ 17) (h2 : e + 648 ≤ e2) (hq : AR m (XC e C ni ri e2) (fun i => XC e C ni ri e2 (100 + i)) q) : e + 2 ≤ q ∧ q < e + 45 := by
  rcases hq with (z | ⟨_, z⟩) | ⟨i, hi, z⟩ | ⟨i, hi, z⟩
  · rw [XC_A (by decide)] at z
    have : Am e (e + 2) 6 = e + 2 + 6 - 2 := rfl
    omega
  · rw [XC_A (by decide)] at z
    have : Am e (e + 2) 5 = e + 2 + 22 := rfl
    omega
  · rw [XC_A (by omega)] at z
    have : Am e (e + 2) (8 + i) = e + 2 + (8 + i) - 2 := by
      unfold Am
      rw [if_neg (by omega), if_neg (by omega), if_neg (by omega)]
    omega
  · dsimp only at z
    rw [XC_R (by omega)] at z
    have := XR_b h2 i (by omega)
    omega
theorem v_curve {h : vm_H} {C e2 : Nat} (hE2 : h.1 + 648 ≤ e2) (hE3 : e2 + 20 < 1099511627776) (h9 : f9.category = 1) (hC : h.2 C = .inr (2, vm_df 2)) (hC1 : C < h.1) (hh : h.1 + 2000 < 1099511627776) (sP : sto h 1099511627806 (2 * 48) tP) (sR : sto h 1099511627808 (2 * 48) tR) (sB : sto h 1099511627810 (2 * 48) tB) (sG : sto h 1099511627812 (2 * 49) tG) :
    vm_Met (vm_env l O f9) mX2_init 648 7689 [.ref C] h (fun r h' => r = none ∧ h'.1 = h.1 + 648 ∧ (∃ ni ri, CA 151 (XC h.1 C ni ri e2) h' (gup (fun _ => some none) 0 (some gP))) ∧ ∀ q, q < h.1 ∨ 1099511627776 ≤ q → q ≠ C → h'.2 q = h.2 q) := by
  generalize he : h.1 = e at *
  refine vm_met rfl (Nat.le_of_ble_eq_true rfl) ?_
  refine ci_1 h9 hC (by omega) (by omega) sP sR ?_
  intro h1 ni ri c1 C1 hP M1 w1 z1 b1 o1
  rw [he] at c1 C1 hP M1 w1 z1 b1 o1
  obtain ⟨⟨ff, g1, f1, _⟩, _⟩ := id M1
  have g1 : h1.2 e = .inr (3, ff) := g1
  refine ci_2 C1 (by omega) (by omega) (by omega) g1 f1 (by omega) ?_
  intro h2 c2 C2 z2 o2
  rw [c1] at c2 C2 z2 o2
  have g2 := (o2 e (Or.inl (by omega)) (by omega)).trans g1
  refine ci_3 C2 (by omega) (by omega) (by omega) g2 f1 (by omega) ?_
  intro h3 c3 C3 t3 z3 b3 o3
  rw [c2] at c3 C3 t3 z3 b3 o3
  have g3 := (o3 e (Or.inl (by omega)) (by omega)).trans g2
  refine vm_go rfl bX2_initx_152 oX2_initx_152 ⟨_, _, C3, rfl, ?_⟩
  have old3 : ∀ q, q < e ∨ 1099511627776 ≤ q → q ≠ C → h3.2 q = h.2 q := by
    intro q hq hqC
    rw [o3 q (by omega) hqC, o2 q (by omega) hqC, o1 q (by omega) hqC]
  refine ⟨1, 48, _, s_hexo h9 (sto_fr sB (fun q hq => old3 q (Or.inr hq) (by omega))) (by decide) tB_ok (by omega), by decide, by decide, ?_⟩
  rintro _ h4 ⟨rfl, c4, b4, u4⟩
  have e4 : h3.1 = e + 46 := by omega
  rw [e4] at b4 u4 c4
  rw [e4]
  have o4 : ∀ q, q < e + 30 → q ≠ C → h4.2 q = h1.2 q := by
    intro q hq hqC
    rw [u4 q (by omega), o3 q (by omega) hqC, o2 q (by omega) hqC]
  have M4 : MD h4 (Am e (e + 2)) 3 14 cP ni := MD_cg M1 (fun i hi _ => by
    have := Am_r (e := e) hi
    exact o4 _ (by omega) (by omega))
  have zr : ∀ i, i < 17 → h4.2 (XR e e2 i) = .inl (.long, 14, .inr (.inl (fun _ => 0))) := by
    intro i hi
    unfold XR
    by_cases h8 : i < 8
    · rw [if_pos h8, u4 _ (by omega), show e + 37 + i = e + 30 + 6 + 1 + i by omega]; exact z3 i h8
    rw [if_neg h8]
    by_cases h14 : i < 14
    · rw [if_pos h14, u4 _ (by omega), o3 _ (by omega) (by omega)]; exact z2 (i - 8) (by omega)
    rw [if_neg h14, if_pos hi, o4 _ (by omega) (by omega)]
    exact z1 (i - 14) (by omega)
  have kR := RG_new (C := C) (m := 17) (by decide) hE2 hE3 hP M4 zr
  generalize hX : XC e C ni ri e2 = X at *
  have x0 : X 0 = e := by rw [← hX]; rfl
  have x24 : X 24 = C := by rw [← hX]; rfl
  have x25 : X 25 = e + 36 := by rw [← hX]; rfl
  have x26 : X 26 = e + 45 := by rw [← hX]; rfl
  have x27 : X 27 = e + 29 := by rw [← hX]; rfl
  have x30 : X 30 = ni := by rw [← hX]; rfl
  have x31 : X 31 = ri := by rw [← hX]; rfl
  have xR : ∀ i, i < 900 → X (100 + i) = XR e e2 i := fun i hi => by rw [← hX]; exact XC_R hi
  have xW : ∀ k, X (1000 + k) = XW e e2 k := fun k => by rw [← hX]; exact XC_W
  have C4 : h4.2 (X 24) = .inr (2, [.ref (X 0), .ref (e + 25), .ref (X 27), .ref (X 108), .ref (X 109), .ref (X 110), .ref (X 111), .ref (X 112), .ref (X 113), .ref (e + 36), .ref (e + 45)]) := by
    rw [x24, x0, x27, xR 8 (by decide), xR 9 (by decide), xR 10 (by decide), xR 11 (by decide), xR 12 (by decide), xR 13 (by decide), u4 _ (by omega)]
    exact C3
  have R4 : bv h4 48 (X 27) (hxb tR) := by
    obtain ⟨f, q1, q2⟩ := b1
    rw [x27]
    exact ⟨f, (o4 _ (by omega) (by omega)).trans q1, q2⟩
  refine ci_4 (X := X) (m := 17) (nb := 48) (by decide) kR C4 (fun i hi => rfl) b4 tB_n (by decide) (by decide) R4 tR_n x24 x0 ?_
  intro h5 u5 k5 cc5 z5 F5
  have lowA : ∀ q, AR 17 X (fun i => X (100 + i)) q → e + 2 ≤ q ∧ q < e + 45 := by
    intro q hq
    rw [← hX] at hq
    exact AR_low (by decide) hE2 hq
  have u5o : ∀ q, q < e + 2 ∨ e + 45 ≤ q → h5.2 q = h4.2 q := fun q hq => F5.2 q (fun z => by have := lowA q z; omega)
  have C5 := (u5o C (by omega))
  have C4' : h4.2 C = .inr (2, [.ref (X 0), .ref (e + 25), .ref (X 27), .ref (X 108), .ref (X 109), .ref (X 110), .ref (X 111), .ref (X 112), .ref (X 113), .ref (e + 36), .ref (e + 45)]) := by rw [← x24]; exact C4
  have t5 := AR_aa kR F5 ((u4 _ (by omega)).trans t3)
  have w5 := AR_ob kR F5 ((o4 _ (by omega) (by omega)).trans w1)
  have R5 := AR_bv kR F5 R4
  refine ci_5 (h := h5) (e := e) (C := C) (by rw [F5.1]; omega) (by omega) (by omega) (C5.trans C4') ((u5o _ (by omega)).trans ((u4 _ (by omega)).trans b3)) ((u5o e (by omega)).trans ((u4 _ (by omega)).trans g3)) f1 ?_
  intro h6 c6 t6 p6 o6
  -- everything as a whole
  have C6 : h6.2 C = _ := (o6 C (by omega) (by omega)).trans (C5.trans C4')
  have k6 : RGX 151 X h6 (fun i => if i < 17 then u5 i else some 0) := by
    show RG 467 X (fun i => X (100 + i)) (X 30) (X 31) h6 _
    rw [x30, x31]
    have kb := RG_new (h := h6) (C := C) (m := 0) (by decide) hE2 hE3 hP (MD_cg (MD_eq k5.2.1 (A' := Am e (e + 2)) (fun i hi => by rw [← hX]; exact (XC_A hi).symm)) (fun i hi _ => by
      have := Am_r (e := e) hi
      exact o6 _ (by omega) (by omega))) (fun i hi => by omega)
    rw [hX] at kb
    refine ⟨kb.1, kb.2.1, fun i j hi hj q => ?_, fun i hi => ⟨⟨fun j hj => ?_, ?_⟩, fun j hj => ?_⟩, fun i hi => ?_⟩
    · dsimp only at q
      rw [xR i (by omega), xR j (by omega)] at q
      exact XR_inj hE2 i j (by omega) (by omega) q
    · dsimp only
      rw [xR i (by omega), ← hX, XC_A (by omega)]
      have := Am_r (e := e) (i := j) (by omega)
      have := XR_b hE2 i (by omega)
      omega
    · dsimp only
      rw [xR i (by omega)]
      have := XR_b hE2 i (by omega)
      omega
    · dsimp only
      rw [xR i (by omega), ← hX, XC_A (by omega)]
      have := Am_r (e := e) (i := 8 + j) (by omega)
      have := XR_b hE2 i (by omega)
      omega
    · dsimp only
      by_cases h17 : i < 17
      · have hb := XR_b hE2 i (by omega)
        have eq6 : h6.2 (X (100 + i)) = h5.2 (X (100 + i)) := o6 _ (by rw [xR i (by omega)]; omega) (by rw [xR i (by omega)]; omega)
        obtain ⟨⟨f2, l1⟩, l2⟩ := k5.2.2.2.2 i h17
        refine ⟨⟨f2, eq6.trans l1⟩, fun a ha => ?_⟩
        rw [if_pos h17] at ha
        obtain ⟨f3, l3, l4⟩ := l2 a ha
        exact ⟨f3, eq6.trans l3, l4⟩
      · have eq6 : h6.2 (X (100 + i)) = .inl (.long, 14, .inr (.inl (fun _ => 0))) := by
          rw [xR i (by omega)]
          have := (p6 ((i - 17) / 3) (by omega)).2 ((i - 17) % 3) (by omega)
          unfold XR
          rw [if_neg (by omega), if_neg (by omega), if_neg (by omega), if_pos (by omega)]
          exact this
        refine ⟨⟨_, eq6⟩, fun a ha => ?_⟩
        rw [if_neg h17] at ha
        cases ha
        exact mv_0 eq6
  have ca6 : CAu 151 X h6 (fun _ => some none) (fun i => if i < 17 then u5 i else some 0) := by
    refine ⟨k6, ⟨?_, ?_, ?_, fun k hk => ?_, hxb tR, ?_, tR_n⟩, CC_cg cc5 (fun i _ h14 => if_pos (by omega)), fun k hk p hp => ?_⟩
    · rw [x24, C6, x25, x26, xW 0]; rfl
    · rw [x25, o6 _ (by omega) (by omega), t5]
      congr 8
      funext j
      split
      · rw [xR j (by omega)]
        unfold XR
        rw [if_pos (by omega)]
      · rfl
    · rw [x26, t6]
      congr 8
      funext j
      split
      · rw [show 1001 + j = 1000 + (1 + j) by omega, xW]
        unfold XW
        rw [if_neg (by omega), if_pos (by omega)]
        congr 1; omega
      · rfl
    · rw [xW k, xR _ (by omega), xR _ (by omega), xR _ (by omega)]
      unfold XW XR
      by_cases k0 : k = 0
      · subst k0
        show h6.2 (e + 25) = .inr (8, [.ref (e + 26), .ref (e + 27), .ref (e + 28)])
        rw [o6 _ (by omega) (by omega)]
        exact w5
      · rw [if_neg k0, if_pos hk, if_neg (by omega), if_neg (by omega), if_neg (by omega), if_pos (by omega), if_neg (by omega), if_neg (by omega), if_neg (by omega), if_pos (by omega), if_neg (by omega), if_neg (by omega), if_neg (by omega), if_pos (by omega)]
        have := (p6 (k - 1) (by omega)).1
        rw [this, show (14 + 3 * k - 17) / 3 = k - 1 by omega, show (14 + 3 * k - 17) % 3 = 0 by omega, show (14 + 3 * k + 1 - 17) / 3 = k - 1 by omega, show (14 + 3 * k + 1 - 17) % 3 = 1 by omega, show (14 + 3 * k + 2 - 17) / 3 = k - 1 by omega, show (14 + 3 * k + 2 - 17) % 3 = 2 by omega]
        rfl
    · obtain ⟨f, q1, q2⟩ := R5
      refine ⟨f, ?_, q2⟩
      rw [x27] at q1 ⊢
      rw [o6 _ (by omega) (by omega)]; exact q1
    · cases hp
      refine ⟨0, 0, 0, ?_, ?_, ?_, Or.inl ⟨fz_0, rfl⟩, trivial⟩
      · dsimp only
        split
        · exact z5 _ (by omega) (by omega)
        · rfl
      · dsimp only
        split
        · exact z5 _ (by omega) (by omega)
        · rfl
      · dsimp only
        split
        · exact z5 _ (by omega) (by omega)
        · rfl
  have old6 : ∀ q, q < e ∨ 1099511627776 ≤ q → q ≠ C → h6.2 q = h.2 q := by
    intro q hq hqC
    rw [o6 q (by omega) (by omega), u5o q (by omega), u4 q (by omega), old3 q hq hqC]
  refine vm_go rfl bX2_init_344 oX2_init_344 ⟨1, 49, _, s_hexo h9 (sto_fr sG (fun q hq => old6 q (Or.inr hq) (by omega))) (by decide) tG_ok (by omega), by decide, by decide, ?_⟩
  rintro _ h7 ⟨rfl, c7, b7, u7⟩
  rw [c6] at c7 b7 u7
  rw [c6]
  have ow : ∀ q, own 151 X q → q = C ∨ (e ≤ q ∧ q < e + 647) := by
    intro q hq
    rw [← hX] at hq
    exact XC_own hE2 hq
  have ca7 : CAu 151 X h7 (fun _ => some none) _ := CAu_cg ca6 (fun q hq => u7 q (by have := ow q hq; omega))
  have C7 := ca7.2.1.1
  rw [x24] at C7
  refine ⟨_, _, C7, rfl, ?_⟩
  rw [show X 1000 = X (1000 + 0) from rfl]
  refine ⟨_, C7, 0, 0, _, vm_metA (a_dec (n := 151) (X := X) (r := 0) (at9 := 0) (nb := 49) ⟨_, ca7⟩ (by decide) b7 (by decide) (by decide)) (by rw [x24]; rfl), Nat.zero_le _, Nat.zero_le _, ?_⟩
  rintro _ h8 ⟨hd8, F8⟩
  rcases hd8 with ⟨rfl, y, hy, ca8⟩ | ⟨_, hno, _⟩
  · rw [gy_e hy, show bn (hxb tG) (0 + 1) 48 = cGX from tG_n.2] at ca8
    refine ⟨rfl, by rw [F8.1]; omega, ⟨ni, ri, ?_⟩, fun q hq hqC => ?_⟩
    · rw [hX]; exact ca8
    · have nq : ¬ AG 151 X q := by
        intro z
        have := ow q (AG_own z)
        omega
      rw [F8.2 q nq, u7 q (by omega), old6 q hq hqC]
  · exact absurd gy_el (hno _)
end
