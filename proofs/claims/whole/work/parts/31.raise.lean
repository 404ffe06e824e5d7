/-! Math.max, Math.min; Modulus.raise -/
theorem vm_metF {E : vm_E} {y : vm_M} {kc ks : Nat} {av : List Value} {h : vm_H} {Q : Option Value → vm_H → Prop} (hy : plainFor y.1 = true) (hsz : (av.map fun v => v.category).sum ≤ y.2.2.1) (k : vm_T E y kc ks 0 (lv_args 0 av) [] h Q) (hpl : vm_pl y.1 = true := by rfl) : vm_Met E y kc ks av h Q := by
  intro G
  refine MetFree.of_bodySF (code := y.2.1) (maxLocals := y.2.2.1) (ret := y.2.2.2.1) hy ?_ ?_
  · intro args s m h hn
    obtain ⟨meth, c, h1, h2, h3, h4, h5, h6, -, -⟩ := Cond.code_spec hn (atoms_spec (ws := vm_cw y :: E.2.2.2.1) h _ List.mem_cons_self)
    exact ⟨meth, c, h1, h2, h3, h4, h5, h6⟩
  · intro p e s m args below meth c s₁ B hml hv _
    obtain ⟨rfl, hK, hI⟩ := hv
    have hts := atoms_spec (ws := vm_cw y :: E.2.2.2.1) B.pre
    have hl := lv_entry (av.map (vm_v G)) (n := y.2.2.1) (by rw [vm_slen]; exact hsz)
    rw [vm_args] at hl
    have X : vm_X G E p (headSpec (vm_cw y :: E.2.2.2.1) (vm_rm y kc ks)).room s m (av.map (vm_v G)).toArray meth c y kc ks := ⟨B.exec, B.bytes, hml, B.returns, B.notSynchronized, (name_of_methodNamed B.named B.method).1, findClass_of_methodNamed B.named, fun w hw => hts w (List.mem_cons_of_mem _ hw), hK, rfl, hI.2.2.2.2.1, by rw [hI.1]; omega, by rw [(vm_pl_of hpl).2]; exact vm_noT B.named B.method (Stand.of_body B).code (hts _ List.mem_cons_self)⟩
    have k9 := k
    unfold vm_T at k9
    simp only [vm_tg_pl (vm_pl_of hpl).1] at k9
    have hh0 : s₁.heap = s.heap := by rw [B.state]; rfl
    have body : W p E.1 e (headSpec (vm_cw y :: E.2.2.2.1) (vm_rm y kc ks)).room s m (av.map (vm_v G)).toArray below meth c s.heap [] 0 0 (MQ below (vm_Q G E Q) (av.map (vm_v G)).toArray s kc ks (fun q => G.1 ≤ q)) (entryFrame m (av.map (vm_v G)).toArray y.2.2.1) := by
      rw [lg_entry_eq]
      exact k9 G p e _ s m _ below meth c s.heap [] 0 0 kc ks _ X hI (fun q hq => by cases hq) hl (by omega) (by omega)
    obtain ⟨t, a1, o, b1, b2, b3⟩ := body s₁ hh0 (Stand.of_body B)
    exact ⟨t, o, a1, b1, b2, ⟨b3.1, b3.2⟩⟩
section
variable {l : Launch} {O : Nat → vm_Ob} {f9 : Value}
theorem s_max {h : vm_H} {a b : Nat} (ha : a < 2147483648) (hb : b < 2147483648) : vm_Met (vm_env l O f9) mJ9_max_7cf53 0 0 [.int (nI a), .int (nI b)] h (fun r h' => r = some (.int (nI (max a b))) ∧ h' = h) := by
  refine vm_metF (by decide +kernel) (Nat.le_of_ble_eq_true rfl) ?_
  refine vm_go rfl bJ9_max_7cf53_0 oJ9_max_7cf53_0 ⟨fun q => ?_, fun q => ?_⟩
  · have q : nI a < nI b := q
    rw [nI_ltI ha hb] at q
    refine vm_go rfl bJ9_max_7cf53_9 oJ9_max_7cf53_9 (vm_go rfl bJ9_max_7cf53_10 oJ9_max_7cf53_10 ⟨?_, rfl⟩)
    rw [show max a b = b by omega]
  · have q : ¬ nI a < nI b := q
    rw [nI_ltI ha hb] at q
    refine vm_go rfl bJ9_max_7cf53_10 oJ9_max_7cf53_10 ⟨?_, rfl⟩
    rw [show max a b = a by omega]
theorem s_min {h : vm_H} {a b : Nat} (ha : a < 2147483648) (hb : b < 2147483648) : vm_Met (vm_env l O f9) mJ9_min_7cf53 0 0 [.int (nI a), .int (nI b)] h (fun r h' => r = some (.int (nI (min a b))) ∧ h' = h) := by
  refine vm_metF (by decide +kernel) (Nat.le_of_ble_eq_true rfl) ?_
  refine vm_go rfl bJ9_min_7cf53_0 oJ9_min_7cf53_0 ⟨fun q => ?_, fun q => ?_⟩
  · have q : nI b < nI a := q
    rw [nI_ltI hb ha] at q
    refine vm_go rfl bJ9_min_7cf53_9 oJ9_min_7cf53_9 (vm_go rfl bJ9_min_7cf53_10 oJ9_min_7cf53_10 ⟨?_, rfl⟩)
    rw [show min a b = b by omega]
  · have q : ¬ nI b < nI a := q
    rw [nI_ltI hb ha] at q
    refine vm_go rfl bJ9_min_7cf53_10 oJ9_min_7cf53_10 ⟨?_, rfl⟩
    rw [show min a b = a by omega]
/-- digit i of four bits -/
def hd (b : Nat → Nat) (at9 i : Nat) : Nat := if i % 2 = 0 then b (at9 + i / 2) / 16 else b (at9 + i / 2) % 16
/-- the number of the first i digits -/
def he (b : Nat → Nat) (at9 : Nat) : Nat → Nat
  | 0 => 0
  | i + 1 => he b at9 i * 16 + hd b at9 i
theorem he_bn (b : Nat → Nat) (at9 : Nat) : ∀ k, he b at9 (2 * k) = bn b at9 k
  | 0 => rfl
  | k + 1 => by
    show (he b at9 (2 * k) * 16 + hd b at9 (2 * k)) * 16 + hd b at9 (2 * k + 1) = bn b at9 k * 256 + b (at9 + k)
    rw [he_bn b at9 k]
    unfold hd
    rw [if_pos (by omega), if_neg (by omega), show 2 * k / 2 = k by omega, show (2 * k + 1) / 2 = k by omega]
    omega
def hm (b : Nat → Nat) (at9 : Nat) : Nat → Nat
  | 0 => 1
  | i + 1 => max (hm b at9 i) (hd b at9 i)
theorem hm_ge (b : Nat → Nat) (at9 : Nat) : ∀ n, 1 ≤ hm b at9 n ∧ ∀ i, i < n → hd b at9 i ≤ hm b at9 n
  | 0 => ⟨Nat.le_refl _, fun i hi => by omega⟩
  | n + 1 => by
    obtain ⟨h1, h2⟩ := hm_ge b at9 n
    refine ⟨by show 1 ≤ max _ _; omega, fun i hi => ?_⟩
    show hd b at9 i ≤ max (hm b at9 n) (hd b at9 n)
    rcases Nat.lt_or_ge i n with q | q
    · have := h2 i q; omega
    · rw [show i = n by omega]; omega
theorem hd_lt {b : Nat → Nat} {at9 i : Nat} (h : b (at9 + i / 2) < 256) : hd b at9 i < 16 := by
  unfold hd; split <;> omega
theorem hm_lt {b : Nat → Nat} {at9 : Nat} : ∀ n, (∀ i, i < n → hd b at9 i < 16) → hm b at9 n < 16
  | 0, _ => by show 1 < 16; decide
  | n + 1, h => by
    have h1 := hm_lt n (fun i hi => h i (by omega))
    have h2 := h n (by omega)
    show max (hm b at9 n) (hd b at9 n) < 16
    omega
theorem sp_rf {A : Nat → Nat} {k : Nat} (h : k < 16) : va_rf ((fun j => if j < 16 then some (A (8 + j)) else none) k) = .ref (A (8 + k)) := by
  show va_rf (if k < 16 then some (A (8 + k)) else none) = _
  rw [if_pos h]; rfl
/-- what raise writes -/
def rS (A : Nat → Nat) (ci c q : Nat) : Prop := q = c ∨ sc A ci q ∨ ∃ i, i < 16 ∧ q = A (8 + i)
theorem bv_ne {h : vm_H} {n a L c : Nat} {b : Nat → Nat} (k : bv h n a b) (k' : la h L c) : a ≠ c := by
  obtain ⟨f, h1, _⟩ := k
  obtain ⟨g, h2⟩ := k'
  intro e; rw [e, h2] at h1; cases h1
theorem fr_bv {h h' : vm_H} {S : Nat → Prop} {n a : Nat} {b : Nat → Nat} (k : fr h h' S) (q : bv h n a b) (ha : ¬ S a) : bv h' n a b := by
  obtain ⟨f, h1, h2⟩ := q
  exact ⟨f, (k.2 a ha).trans h1, h2⟩
theorem bv_S {h : vm_H} {A : Nat → Nat} {ci L N ni c n a : Nat} {b : Nat → Nat} (hM : MD h A ci L N ni) (hc : la h L c) (k : bv h n a b) : ¬ rS A ci c a := by
  rintro (q | q | ⟨i, hi, q⟩)
  · exact bv_ne k hc q
  · rcases q with q | ⟨q1, q⟩
    · exact bv_ne k hM.2.2.2.2.2.1 q
    · exact bv_ne k (hM.2.2.2.2.2.2.2.2 q1) q
  · exact bv_ne k (hM.2.2.2.2.2.2.2.1 i hi) q
theorem MP_6 {A : Nat → Nat} {ci L N ni ri i j : Nat} (h : MP A ci L N ni ri) (hi : i < 24) (hj : j < 24) (hn : i ≠ j) : A i ≠ A j := fun e => hn (h.2.2.2.2.2.2.2.1 _ _ hi hj e)
theorem v_raise {h : vm_H} {A : Nat → Nat} {ci L N ni ri a c e n at9 size : Nat} {X : Int} {b : Nat → Nat} (hP : MP A ci L N ni ri) (hM : MD h A ci L N ni) (ha : mv h L N a X) (hc : la h L c) (he9 : bv h n e b) (hn : at9 + size ≤ n) (hn2 : n < 65536) (oc : okc A c) (ocs : ∀ i, i < 16 → c ≠ A (8 + i)) :
    vm_Met (vm_env l O f9) mX6_raise 0 0 [.ref (A 0), .ref a, .ref e, .int (nI at9), .int (nI size), .ref c] h (fun r h' => r = none ∧ mv h' L N c (X ^ bn b at9 size) ∧ MD h' A ci L N ni ∧ fr h h' (rS A ci c)) := by
  have hci2 := MP_ci hP
  have hif : (if ci = 600 then 500 else ci) = ci := by rcases hci2 with rfl | rfl <;> rfl
  have hin := hP.2.2.2.2.2.2.2.1
  have hbl : ∀ i, i < 2 * size → hd b at9 i < 16 := by
    intro i hi
    obtain ⟨f, h1, h2⟩ := he9
    exact hd_lt (h2 _ (by omega)).2
  have hml := hm_lt (2 * size) hbl
  obtain ⟨hm1, hm2⟩ := hm_ge b at9 (2 * size)
  refine vm_met rfl (Nat.le_of_ble_eq_true rfl) ?_
  refine vm_go rfl bX6_raise_0 oX6_raise_0 ?_
  have e2s : (2 : Int32) * nI size = nI (2 * size) := nI_mul 2 size
  refine vm_Th (lv' := [(0, .ref (A 0)), (1, .ref a), (2, .ref e), (3, .int (nI at9)), (4, .int (nI size)), (5, .ref c), (6, .int (nI (hm b at9 0))), (7, .int (nI 0))]) (h' := h) rfl rfl ?_
  refine vm_for (2 * size) (fun i => [(0, .ref (A 0)), (1, .ref a), (2, .ref e), (3, .int (nI at9)), (4, .int (nI size)), (5, .ref c), (6, .int (nI (hm b at9 i))), (7, .int (nI i))]) (fun _ => h) 0 (Nat.zero_le _) ?_ ?_
  · refine vm_go rfl bX6_raise_6 oX6_raise_6 ⟨fun _ => ?_, fun q => absurd ?_ q⟩
    · generalize hm b at9 (2 * size) = M at *
      have hM' := hM
      obtain ⟨⟨fs, m0, f0, f1, f2, f3, f4, f5, f6, f7, f8⟩, _, _, _, _, _, m7, m8, _⟩ := hM'
      refine vm_go rfl (bX6_raise_35 ci) (oX6_raise_35 hci2) ⟨fs, _, m0, f7, ⟨_, _, _, _, m7, by decide, rfl, 1, rfl, by decide, sp_rf (by decide), ⟨fs, by rw [hif]; exact m0, 0, 0, _, v_copy hP hM ha (m8 1 (by decide)) (okc_sp hP (by decide)), Nat.le_refl _, Nat.le_refl _, ?_⟩⟩⟩
      rintro r h1 ⟨rfl, k1, hM1, hF1⟩
      refine vm_Th (lv' := [(0, .ref (A 0)), (1, .ref a), (2, .ref e), (3, .int (nI at9)), (4, .int (nI size)), (5, .ref c), (6, .int (nI M)), (7, .int (nI 2))]) (h' := h1) rfl rfl ?_
      refine vm_while (σ := Nat × vm_H) (fun s => 2 ≤ s.1 ∧ s.1 ≤ M + 1 ∧ MD s.2 A ci L N ni ∧ (∀ j, 1 ≤ j → j < s.1 → mv s.2 L N (A (8 + j)) (X ^ j)) ∧ fr h s.2 (rS A ci c) ∧ la s.2 L c) (fun s => M + 1 - s.1) (fun s => [(0, .ref (A 0)), (1, .ref a), (2, .ref e), (3, .int (nI at9)), (4, .int (nI size)), (5, .ref c), (6, .int (nI M)), (7, .int (nI s.1))]) (fun s => s.2) ?_ (2, h1) ⟨Nat.le_refl _, by show 2 ≤ M + 1; omega, hM1, ?_, fr_mono hF1 (fun q hq => Or.inr (Or.inr ⟨1, by decide, hq⟩)), fr_la hF1 hc (ocs 1 (by decide))⟩
      · rintro ⟨k, h2⟩ ⟨p1, p2, p3, p4, p5, lc2⟩ ih
        dsimp only at p1 p2 p3 p4 p5 lc2 ih ⊢
        have hM2 := p3
        obtain ⟨⟨fs, m0, f0, f1, f2, f3, f4, f5, f6, f7, f8⟩, _, _, _, _, _, m7, m8, _⟩ := p3
        rcases Nat.lt_or_ge M k with hk | hk
        · refine vm_go rfl (bX6_raise_49 ci) (oX6_raise_49 hci2) ⟨fun _ => ?_, fun q => absurd (nI_lt hk (by omega)) q⟩
          refine vm_go rfl (bX6_raise_88 ci) (oX6_raise_88 hci2) ⟨fs, _, m0, f2, ⟨fs, by rw [hif]; exact m0, 0, 0, _, v_copy hP hM2 (MD_one hP hM2) lc2 oc, Nat.le_refl _, Nat.le_refl _, ?_⟩⟩
          rintro r h3 ⟨rfl, k3, hM3, hF3⟩
          have hout : ∀ j, 1 ≤ j → j < 16 → ∀ q, (q = c ∨ sc A ci q) → ¬ A (8 + j) = q := by
            intro j j1 j2 q hq e
            rcases hq with z | z | ⟨_, z⟩
            · exact ocs j j2 (e.trans z).symm
            · exact MP_6 hP (by omega) (by omega) (by omega) (e.trans z)
            · exact MP_6 hP (by omega) (by omega) (by omega) (e.trans z)
          have hsp3 : ∀ j, 1 ≤ j → j ≤ M → mv h3 L N (A (8 + j)) (X ^ j) := fun j j1 j2 => fr_nv hF3 (p4 j j1 (by omega)) (fun z => hout j j1 (by omega) _ (Or.inl z) rfl)
          refine vm_Th (lv' := [(0, .ref (A 0)), (1, .ref a), (2, .ref e), (3, .int (nI at9)), (4, .int (nI size)), (5, .ref c), (6, .int (nI M)), (7, .int (if he b at9 0 = 0 then 0 else 1)), (8, .int (nI 0))]) (h' := h3) rfl rfl ?_
          refine vm_while (σ := Nat × vm_H) (fun s => s.1 ≤ 2 * size ∧ MD s.2 A ci L N ni ∧ (∀ j, 1 ≤ j → j ≤ M → mv s.2 L N (A (8 + j)) (X ^ j)) ∧ fr h s.2 (rS A ci c) ∧ mv s.2 L N c (X ^ he b at9 s.1)) (fun s => 2 * size - s.1) (fun s => [(0, .ref (A 0)), (1, .ref a), (2, .ref e), (3, .int (nI at9)), (4, .int (nI size)), (5, .ref c), (6, .int (nI M)), (7, .int (if he b at9 s.1 = 0 then 0 else 1)), (8, .int (nI s.1))]) (fun s => s.2) ?_ (0, h3) ⟨Nat.zero_le _, hM3, hsp3, fr_trans p5 (fr_mono hF3 (fun q hq => Or.inl hq)), by rw [show he b at9 0 = 0 from rfl, Int.pow_zero]; exact k3⟩
          rintro ⟨i, h4⟩ ⟨q1, q2, q3, q4, q5⟩ ihi
          dsimp only at q1 q2 q3 q4 q5 ihi ⊢
          rcases Nat.lt_or_ge i (2 * size) with hi | hi
          · refine vm_go rfl bX6_raise_104 oX6_raise_104 ⟨fun q => absurd q ?_, fun _ => ?_⟩
            · show ¬ (2 : Int32) * nI size ≤ nI i
              rw [e2s]; exact nI_ge hi (by omega)
            have h141 : ∀ (k4 : Int32) (h5 : vm_H), MD h5 A ci L N ni → (∀ j, 1 ≤ j → j ≤ M → mv h5 L N (A (8 + j)) (X ^ j)) → fr h h5 (rS A ci c) → mv h5 L N c (X ^ (he b at9 i * 16)) → vm_T (vm_env l O f9) mX6_raise 0 0 141 [(0, .ref (A 0)), (1, .ref a), (2, .ref e), (3, .int (nI at9)), (4, .int (nI size)), (5, .ref c), (6, .int (nI M)), (7, .int (if he b at9 i = 0 then 0 else 1)), (8, .int (nI i)), (9, .int k4)] [] h5 (fun r h' => r = none ∧ mv h' L N c (X ^ bn b at9 size) ∧ MD h' A ci L N ni ∧ fr h h' (rS A ci c)) := by
              intro k4 h5 w1 w2 w3 w4
              have w1' := w1
              obtain ⟨⟨fs, m0, f0, f1, f2, f3, f4, f5, f6, f7, f8⟩, _, _, _, _, _, m7, m8, _⟩ := w1'
              have hdl := hbl i hi
              have hdm := hm2 i hi
              have hes : he b at9 (i + 1) = he b at9 i * 16 + hd b at9 i := rfl
              refine vm_go rfl (bX6_raise_141 ci) (oX6_raise_141 hci2) ⟨0, 0, _, s_dig (fr_bv w3 he9 (bv_S hM hc he9)) (by omega) hn2, Nat.le_refl _, Nat.le_refl _, ?_⟩
              rintro r h6 ⟨rfl, rfl⟩
              refine ⟨fun q => ?_, fun q => ?_⟩
              · have q : nI (hd b at9 i) = 0 := q
                have q : hd b at9 i = 0 := by
                  rcases Nat.eq_zero_or_pos (hd b at9 i) with z | z
                  · exact z
                  · exact absurd q (nI_ne0 z (by omega))
                rw [q, Nat.add_zero] at hes
                refine vm_go rfl bX6_raise_173 oX6_raise_173 ?_
                refine vm_less [0, 1, 2, 3, 4, 5, 6, 7, 8] rfl ?_
                refine vm_Th ?_ rfl (ihi (i + 1, h6) ⟨by show i + 1 ≤ 2 * size; omega, w1, w2, w3, by show mv h6 L N c (X ^ he b at9 (i + 1)); rw [hes]; exact w4⟩ (by show 2 * size - (i + 1) < 2 * size - i; omega))
                rw [← nI_1, hes]
                by_cases z : he b at9 i = 0
                · rw [z]; rfl
                · rw [if_neg z, if_neg (by omega)]; rfl
              · have q : ¬ nI (hd b at9 i) = 0 := q
                have q : hd b at9 i ≠ 0 := fun z => q (by rw [z]; rfl)
                refine ⟨fs, _, m0, f7, ⟨_, _, _, _, m7, by decide, rfl, hd b at9 i, rfl, by omega, sp_rf (by omega), ⟨fs, by rw [hif]; exact m0, 0, 0, _, v_mul hP w1 w4 (w2 (hd b at9 i) (by omega) hdm) (nv_la w4) (oc.1 6 (by decide)) (MP_6 hP (by omega) (by omega) (by omega)) oc, Nat.le_refl _, Nat.le_refl _, ?_⟩⟩⟩
                rintro r h7 ⟨rfl, k7, hM7, hF7⟩
                refine vm_go rfl bX6_raise_173 oX6_raise_173 ?_
                refine vm_less [0, 1, 2, 3, 4, 5, 6, 7, 8] rfl ?_
                refine vm_Th ?_ rfl (ihi (i + 1, h7) ⟨by show i + 1 ≤ 2 * size; omega, hM7, fun j j1 j2 => fr_nv hF7 (w2 j j1 j2) (fun z => hout j j1 (by omega) _ z rfl), fr_trans w3 (fr_mono hF7 (fun q hq => hq.elim (fun z => Or.inl z) (fun z => Or.inr (Or.inl z)))), by show mv h7 L N c (X ^ he b at9 (i + 1)); rw [hes, Int.pow_add]; exact k7⟩ (by show 2 * size - (i + 1) < 2 * size - i; omega))
                rw [← nI_1, hes, if_neg (by omega)]; rfl
            refine vm_Th (lv' := [(0, .ref (A 0)), (1, .ref a), (2, .ref e), (3, .int (nI at9)), (4, .int (nI size)), (5, .ref c), (6, .int (nI M)), (7, .int (if he b at9 i = 0 then 0 else 1)), (8, .int (nI i)), (9, .int (nI 0))]) (h' := h4) rfl rfl ?_
            refine vm_while (σ := Nat × vm_H) (fun s => s.1 ≤ 4 ∧ MD s.2 A ci L N ni ∧ (∀ j, 1 ≤ j → j ≤ M → mv s.2 L N (A (8 + j)) (X ^ j)) ∧ fr h s.2 (rS A ci c) ∧ mv s.2 L N c (X ^ (he b at9 i * 2 ^ s.1))) (fun s => 4 - s.1) (fun s => [(0, .ref (A 0)), (1, .ref a), (2, .ref e), (3, .int (nI at9)), (4, .int (nI size)), (5, .ref c), (6, .int (nI M)), (7, .int (if he b at9 i = 0 then 0 else 1)), (8, .int (nI i)), (9, .int (nI s.1))]) (fun s => s.2) ?_ (0, h4) ⟨Nat.zero_le _, q2, q3, q4, by rw [Nat.pow_zero, Nat.mul_one]; exact q5⟩
            rintro ⟨k5, h5⟩ ⟨w1, w2, w3, w4, w5⟩ ihk
            dsimp only at w1 w2 w3 w4 w5 ihk ⊢
            have w2' := w2
            obtain ⟨⟨fs, m0, f0, f1, f2, f3, f4, f5, f6, f7, f8⟩, _, _, _, _, _, m7, m8, _⟩ := w2'
            refine vm_go rfl (bX6_raise_116 ci) (oX6_raise_116 hci2) ⟨fun q => ?_, fun q => ?_⟩
            · have q : (if he b at9 i = 0 then (0 : Int32) else 1) = 0 := q
              have q : he b at9 i = 0 := by
                by_cases z : he b at9 i = 0
                · exact z
                · rw [if_neg z] at q; exact absurd q (by decide)
              refine h141 _ _ w2 w3 w4 ?_
              rw [q, Nat.zero_mul] at w5 ⊢
              exact w5
            · refine ⟨fun z => ?_, fun z => ?_⟩
              · have z : nI 4 ≤ nI k5 := z
                rw [nI_leI (by decide) (by omega)] at z
                have : k5 = 4 := by omega
                subst this
                exact h141 _ _ w2 w3 w4 w5
              · have z : ¬ nI 4 ≤ nI k5 := z
                rw [nI_leI (by decide) (by omega)] at z
                refine ⟨fs, by rw [hif]; exact m0, 0, 0, _, v_sqr hP w2 w5 (nv_la w5) (oc.1 6 (by decide)) oc, Nat.le_refl _, Nat.le_refl _, ?_⟩
                rintro r h7 ⟨rfl, k7, hM7, hF7⟩
                refine vm_Th (by rw [← nI_1]; rfl) rfl (ihk (k5 + 1, h7) ⟨by show k5 + 1 ≤ 4; omega, hM7, fun j j1 j2 => fr_nv hF7 (w3 j j1 j2) (fun z => hout j j1 (by omega) _ z rfl), fr_trans w4 (fr_mono hF7 (fun q hq => hq.elim (fun z => Or.inl z) (fun z => Or.inr (Or.inl z)))), ?_⟩ (by show 4 - (k5 + 1) < 4 - k5; omega))
                show mv h7 L N c (X ^ (he b at9 i * 2 ^ (k5 + 1)))
                rw [← Int.pow_add] at k7
                rw [show he b at9 i * 2 ^ (k5 + 1) = he b at9 i * 2 ^ k5 + he b at9 i * 2 ^ k5 by rw [Nat.pow_succ]; grind]
                exact k7
          · refine vm_go rfl bX6_raise_104 oX6_raise_104 ⟨fun _ => ?_, fun q => absurd ?_ q⟩
            · refine vm_go rfl bX6_raise_179 oX6_raise_179 ⟨rfl, ?_, q2, q4⟩
              rw [← he_bn, show 2 * size = i by omega]
              exact q5
            · show (2 : Int32) * nI size ≤ nI i
              rw [e2s]; exact nI_le hi (by omega)
        · refine vm_go rfl (bX6_raise_49 ci) (oX6_raise_49 hci2) ⟨fun q => absurd q (nI_nlt hk (by omega)), fun _ => ?_⟩
          have ek : nI k - 1 = nI (k - 1) := nI_sub (show 1 ≤ k by omega)
          refine ⟨fs, _, m0, f7, ⟨_, _, _, _, m7, by decide, rfl, k - 1, ek, by omega, sp_rf (by omega), ⟨fs, _, m0, f7, ⟨_, _, _, _, m7, by decide, rfl, 1, rfl, by decide, sp_rf (by decide), ⟨fs, _, m0, f7, ⟨_, _, _, _, m7, by decide, rfl, k, rfl, by omega, sp_rf (by omega), ⟨fs, by rw [hif]; exact m0, 0, 0, _, v_mul hP hM2 (p4 (k - 1) (by omega) (by omega)) (p4 1 (by omega) (by omega)) (m8 k (by omega)) (MP_6 hP (by omega) (by omega) (by omega)) (MP_6 hP (by omega) (by omega) (by omega)) (okc_sp hP (by omega)), Nat.le_refl _, Nat.le_refl _, ?_⟩⟩⟩⟩⟩⟩⟩
          rintro r h3 ⟨rfl, k3, hM3, hF3⟩
          refine vm_Th (by rw [← nI_1]; rfl) rfl (ih (k + 1, h3) ⟨by show 2 ≤ k + 1; omega, by show k + 1 ≤ M + 1; omega, hM3, ?_, ?_, fr_la hF3 lc2 (by
            rintro (z | z | ⟨_, z⟩)
            · exact ocs k (by omega) z
            · exact oc.1 6 (by decide) z
            · exact oc.1 5 (by decide) z)⟩ (by show M + 1 - (k + 1) < M + 1 - k; omega))
          · intro j j1 j2
            have j2 : j < k + 1 := j2
            rcases Nat.lt_or_ge j k with q | q
            · refine fr_nv hF3 (p4 j j1 q) ?_
              rintro (z | z | ⟨_, z⟩)
              · exact MP_6 hP (by omega) (by omega) (by omega) z
              · exact MP_6 hP (by omega) (by omega) (by omega) z
              · exact MP_6 hP (by omega) (by omega) (by omega) z
            · have : j = k := by omega
              subst this
              have e : X ^ (j - 1) * X ^ 1 = X ^ j := by rw [← Int.pow_add, show j - 1 + 1 = j by omega]
              rw [e] at k3
              exact k3
          · refine fr_trans p5 (fr_mono hF3 (fun q hq => ?_))
            rcases hq with z | z
            · exact Or.inr (Or.inr ⟨k, by omega, z⟩)
            · exact Or.inr (Or.inl z)
      · intro j j1 j2
        have j2 : j < 2 := j2
        have : j = 1 := by omega
        subst this
        rw [Int.pow_succ, Int.pow_zero, Int.one_mul]
        exact k1
    · show (2 : Int32) * nI size ≤ nI (2 * size)
      rw [e2s]; exact nI_le (Nat.le_refl _) (by omega)
  · intro i _ hi ih
    refine vm_go rfl bX6_raise_6 oX6_raise_6 ⟨fun q => absurd q ?_, fun _ => ?_⟩
    · show ¬ (2 : Int32) * nI size ≤ nI i
      rw [e2s]; exact nI_ge hi (by omega)
    refine ⟨0, 0, _, s_dig he9 (by omega) hn2, Nat.le_refl _, Nat.le_refl _, ?_⟩
    rintro r h1 ⟨rfl, rfl⟩
    have hx1 := hm_lt i (fun j hj => hbl j (by omega))
    have hx2 := hbl i hi
    refine ⟨0, 0, _, s_max (b := hd b at9 i) (by omega) (by omega), Nat.le_refl _, Nat.le_refl _, ?_⟩
    rintro r h1 ⟨rfl, rfl⟩
    refine vm_Th ?_ rfl ih
    rw [← nI_1]; rfl
end
