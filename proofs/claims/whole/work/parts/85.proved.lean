/-! Oprf: spreadSum, isProved -/
noncomputable def pvS (st kk : Nat → Int64) (sh : List Nat) (aw dw ew : Nat → List Nat) (n : Nat) : Option (fq × fq) := cs (fun i => elL (ew i)) (fun i => wgt st kk (sdl st kk sh) (aw i) (dw i) i) n
noncomputable def pvU (s c : Nat) (P R : Option (fq × fq)) : Option (fq × fq) := ecA (-3) fiv (ecM (-3) fiv s P) (ecM (-3) fiv c R)
def pvOK (st kk : Nat → Int64) (sh : List Nat) (A : fq × fq) (aw dw : Nat → List Nat) (n c s : Nat) : Prop :=
  (c < cQ ∧ s < cQ) ∧ (∀ i, i < n → elL (aw i) ≠ none) ∧ (∀ i, i < n → elL (dw i) ≠ none) ∧ pvS st kk sh aw dw aw n ≠ none ∧ pvS st kk sh aw dw dw n ≠ none ∧ pvU s c (pvS st kk sh aw dw aw n) (pvS st kk sh aw dw dw n) ≠ none ∧ pvU s c gP (some A) ≠ none ∧ hts st kk (chm sh (pvS st kk sh aw dw aw n) (pvS st kk sh aw dw dw n) (pvU s c gP (some A)) (pvU s c (pvS st kk sh aw dw aw n) (pvS st kk sh aw dw dw n))) = c
theorem cs_2 {Pk : Nat → Option (fq × fq)} {f : Nat → Nat} : cs Pk f 2 = pvU (f 0) (f 1) (Pk 0) (Pk 1) := rfl
section
variable {l : Launch} {O : Nat → vm_Ob} {f9 : Value} {a : Nat} {h : vm_H} {W : Nat → List Nat} {B : Nat → Nat → Nat} {V : Nat → Option Nat} {g : og} {st2 kk2 : Nat → Int32} {st3 kk3 : Nat → Int64}
theorem p_ssm {i fa nf many : Nat} {b : Nat → Nat} (k : OPc a h W B V g) (hi0 : 0 < i) (hi3 : i < 3) (hf : bv h nf fa b) (hfo : ¬ CR a fa) (hat : 49 * many ≤ nf) (hnf : nf < 65536) (hm0 : 1 ≤ many) (hm1 : many ≤ 8) :
    vm_Met (vm_env l O f9) mX7_spreadSum 0 0 [.ref a, .ref fa, .int (nI many), .ref (a + pt (i + 1))] h (fun r h' => ∃ ok : Bool, r = some (.int (bi ok)) ∧ (ok = true ↔ ∀ j, j < many → elL (sl b (49 * j) 49) ≠ none) ∧ (∃ g', OPc a h' W B V g' ∧ (ok = true → g'.2 i = some (cs (fun j => elL (sl b (49 * j) 49)) (fun j => bn (B 7) (48 * j) 48) many) ∧ (∀ j, j < many → g'.1 j = some (elL (sl b (49 * j) 49))) ∧ (∀ j, j ≠ 0 → j ≠ i → g'.2 j = g.2 j) ∧ ∃ q, g'.2 0 = some q)) ∧ fr h h' (CR a)) := by
  generalize hdw : (fun j => sl b (49 * j) 49) = dw
  have hdwi : ∀ j, sl b (49 * j) 49 = dw j := fun j => by rw [← hdw]
  simp only [hdwi]
  suffices H : ∀ Q : Option Value → vm_H → Prop, (∀ r h', (∃ ok : Bool, r = some (.int (bi ok)) ∧ (ok = true ↔ ∀ j, j < many → elL (dw j) ≠ none) ∧ (∃ g', OPc a h' W B V g' ∧ (ok = true → g'.2 i = some (cs (fun j => elL (dw j)) (fun j => bn (B 7) (48 * j) 48) many) ∧ (∀ j, j < many → g'.1 j = some (elL (dw j))) ∧ (∀ j, j ≠ 0 → j ≠ i → g'.2 j = g.2 j) ∧ ∃ q, g'.2 0 = some q)) ∧ fr h h' (CR a)) → Q r h') → vm_Met (vm_env l O f9) mX7_spreadSum 0 0 [.ref a, .ref fa, .int (nI many), .ref (a + pt (i + 1))] h Q from H _ (fun _ _ z => z)
  intro Q hQ
  refine vm_met rfl (Nat.le_of_ble_eq_true rfl) ?_
  refine vm_go rfl bX7_spreadSum_0 oX7_spreadSum_0 ?_
  refine vm_Th (lv' := [(0, .ref a), (1, .ref fa), (2, .int (nI many)), (3, .ref (a + pt (i + 1))), (4, .int (nI 0))]) (h' := h) rfl rfl ?_
  refine vm_loop (fun n h2 => (∃ g', OPc a h2 W B V g' ∧ (n = 0 ∨ ∃ q, g'.2 0 = some q) ∧ (∀ j, j ≠ 0 → g'.2 j = g.2 j) ∧ (∀ j, j < n → g'.1 j = some (elL (dw j)) ∧ elL (dw j) ≠ none)) ∧ fr h h2 (CR a)) many (fun n => [(0, .ref a), (1, .ref fa), (2, .int (nI many)), (3, .ref (a + pt (i + 1))), (4, .int (nI n))]) 0 h (Nat.zero_le _) ⟨⟨g, k, Or.inl rfl, fun _ _ => rfl, fun j hj => by omega⟩, fr_refl⟩ ?_ ?_
  rotate_left
  · rintro n h3 _ hn ⟨⟨g3, k3, hgp, hgo, hg3⟩, F3⟩ ih
    have e49 : nI n * 49 = nI (49 * n) := by rw [show nI n * 49 = nI (n * 49) from nI_mul n 49, Nat.mul_comm n 49]
    have f3 := fr_bv F3 hf hfo
    refine vm_go rfl bX7_spreadSum_3 oX7_spreadSum_3 ⟨fun q => absurd q (nI_ge hn (by omega)), fun _ => ?_⟩
    refine ⟨_, _, OP_t k3, rfl, ⟨_, _, OP_t k3, rfl, ⟨_, OP_Co k3, 0, 0, _, vm_metA (o_dec (at9 := 49 * n) k3 f3 (by omega) hnf) (by show [_, _, Value.int (nI (49 * n)), _] = [_, _, Value.int (nI n * 49), _]; rw [e49]), Nat.zero_le _, Nat.zero_le _, ?_⟩⟩⟩
    rintro _ h4 ⟨rfl, k4, F4⟩
    have F4 := fr_trans F3 F4
    rw [hdwi n] at k4 ⊢
    cases hel : elL (dw n) with
    | none =>
      rw [hel] at k4
      exact ⟨fun q => absurd rfl q, fun _ => ⟨rfl, hQ _ _ ⟨false, rfl, ⟨(fun z => nomatch z), fun z => absurd hel (z n hn)⟩, ⟨_, k4, (fun z => nomatch z)⟩, F4⟩⟩⟩
    | some pe =>
    rw [hel] at k4
    refine ⟨fun _ => ?_, fun q => absurd q (by show ¬ (1 : Int32) = 0; decide)⟩
    refine vm_go rfl bX7_spreadSum_31 oX7_spreadSum_31 ⟨_, _, OP_t k4, rfl, ⟨_, _, OP_t k4, rfl, ⟨_, OP_Co k4, 0, 0, _, o_spr (i := 1) (pl := n) (p := some pe) k4 (by decide) (by omega) rfl, Nat.zero_le _, Nat.zero_le _, ?_⟩⟩⟩
    rintro _ h5 ⟨rfl, k5, F5⟩
    refine vm_Th (by rw [← nI_1]; rfl) rfl (ih h5 ⟨⟨_, k5, Or.inr ⟨_, rfl⟩, fun j hj => ?_, fun j hj => ?_⟩, fr_trans F4 F5⟩)
    · show fu g3.2 0 _ j = _
      rw [fu_n hj]; exact hgo j hj
    · show fu g3.1 n (some (some pe)) j = _ ∧ _
      by_cases e : j = n
      · rw [e, fu_e, hel]; exact ⟨rfl, fun z => by cases z⟩
      · rw [fu_n e]; exact hg3 j (by omega)
  rintro h3 ⟨⟨g3, k3, hgp, hgo, hg3⟩, F3⟩
  refine vm_go rfl bX7_spreadSum_3 oX7_spreadSum_3 ⟨fun _ => ?_, fun q => absurd (nI_le (Nat.le_refl _) (by omega)) q⟩
  obtain ⟨pm, hpm⟩ : ∃ q, g3.2 i = some q := by
    obtain ⟨ni, ri, G, c, s⟩ := OP_C k3
    rcases (show i = 1 ∨ i = 2 by omega) with rfl | rfl
    · exact s.2.2.2.2.1
    · exact s.2.2.2.2.2
  refine vm_go rfl bX7_spreadSum_50 oX7_spreadSum_50 ⟨_, _, OP_t k3, rfl, ⟨_, _, OP_t k3, rfl, ⟨_, OP_Co k3, 0, 0, _, o_comb (i := i) (pl := 0) (at9 := 0) (many := many) (Pk := fun j => elL (dw j)) k3 hi3 (by omega) (OP_b k3 (j := 7) (by decide)) (by show 0 + 48 * many ≤ 384; omega) (by decide) (fun j hj => by rw [Nat.zero_add]; exact (hg3 j hj).1) (Or.inl ⟨pm, hpm⟩), Nat.zero_le _, Nat.zero_le _, ?_⟩⟩⟩
  rintro _ h5 ⟨rfl, k5, F5⟩
  have e0 : cs (fun j => elL (dw j)) (fun j => bn (B 7) (0 + 48 * j) 48) many = cs (fun j => elL (dw j)) (fun j => bn (B 7) (48 * j) 48) many := cs_cg many (fun j _ => by rw [Nat.zero_add])
  rw [e0] at k5
  refine ⟨rfl, hQ _ _ ⟨true, rfl, ⟨fun _ j hj => (hg3 j hj).2, fun _ => rfl⟩, ⟨_, k5, fun _ => ⟨?_, fun j hj => (hg3 j hj).1, fun j hj hji => ?_, ?_⟩⟩, fr_trans F3 F5⟩⟩
  · show fu g3.2 i _ i = _
    exact fu_e
  · show fu g3.2 i _ j = _
    rw [fu_n hji]; exact hgo j hj
  · show ∃ q, fu g3.2 i _ 0 = _
    rw [fu_n (by omega)]
    rcases hgp with z | z
    · omega
    · exact z
theorem sl_wb {b : Nat → Nat} {p x : Nat} (hx : x < 256 ^ 48) (hb : ∀ j, p ≤ j → j < p + 48 → b j < 256) : (∀ i, i < 48 → gb (wb x 48) i = b (p + i)) ↔ x = bn b p 48 := by
  constructor
  · intro h
    refine (wb_nb 48 hx b p ?_).symm
    rw [← sl_gb (wb x 48), wb_len]
    exact sl_ext (fun j hj => by rw [Nat.zero_add]; exact (h j hj).symm)
  · intro h i hi
    rw [h, bn_wb hb, gb_sl hi]
set_option maxHeartbeats 2000000 in
theorem p_isp {K ty sz bs sa sq se ki mo nsh fa nf many : Nat} {lv : Int32} {shb b : Nat → Nat} {A : fq × fq} (h9 : f9.category = 1) (k : OPc a h W B V g) (ev : EV st2 kk2 st3 kk3 h) (hK : KO h K ty sz bs sa sq se ki mo lv) (hKo : ¬ OR a K) (hsh : bv h nsh sq shb) (hsho : ¬ OR a sq) (hns : 49 ≤ nsh) (hns2 : nsh < 65536) (hA : elL (sl shb 0 49) = some A) (hf : bv h nf fa b) (hfo : ¬ OR a fa) (hat : 49 * many + 96 ≤ nf) (hnf : nf < 65536) (hm0 : 1 ≤ many) (hm1 : many ≤ 8) :
    vm_Met (vm_env l O f9) mX7_isProved 0 0 [.ref a, .ref K, .ref fa, .int (nI many)] h (fun r h' => (∃ ok : Bool, r = some (.int (bi ok)) ∧ (ok = true ↔ pvOK st3 kk3 (sl shb 0 49) A (fun i => sl (B 6) (49 * i) 49) (fun i => sl b (49 * i) 49) many (bn b (49 * many) 48) (bn b (49 * many + 48) 48)) ∧ (∃ W' B' V' g', OPc a h' W' B' V' g' ∧ W' 0 = W 0 ∧ (ok = true → (∀ j, j < many → g'.1 j = some (elL (sl b (49 * j) 49))) ∧ ∃ q, g'.2 0 = some q)) ∧ fr h h' (OR a))) := by
  have k0 := k.1
  have ha695 : a + 695 < 1099511627776 := by omega
  have ha694 : a + 694 < 1099511627776 := by omega
  have xc : ∀ q, CR a q → OR a q := fun q hq => (CR_HS q hq).1
  have xf : ∀ q, (CR a q ∨ q = a + oad 9) → OR a q := fun q hq => by
    have hq : CR a q ∨ q = a + 695 := hq
    unfold CR at hq; unfold OR; omega
  have xp : ∀ q, q = a + oad 8 → OR a q := fun q hq => by
    have hq : q = a + 694 := hq
    unfold OR; omega
  have xn : ∀ q, q = a + 697 + 0 → OR a q := fun q hq => by unfold OR; omega
  have nCR : ∀ q, ¬ OR a q → ¬ CR a q := fun q hq z => hq (xc q z)
  have eP : nI many * 49 = nI (49 * many) := by rw [show nI many * 49 = nI (many * 49) from nI_mul many 49, Nat.mul_comm many 49]
  have eP2 : nI (49 * many) + 48 = nI (49 * many + 48) := nI_add _ 48
  have hbl : ∀ j, j < nf → b j < 256 := fun j hj => by obtain ⟨f, _, v⟩ := hf; exact (v j hj).2
  have h6l : ∀ j, j < 392 → B 6 j < 256 := fun j hj => by obtain ⟨f, _, v⟩ := OP_b k (j := 6) (by decide); exact (v j hj).2
  generalize haw : (fun i => sl (B 6) (49 * i) 49) = aw
  have hawi : ∀ i, sl (B 6) (49 * i) 49 = aw i := fun i => by rw [← haw]
  generalize hdw : (fun i => sl b (49 * i) 49) = dw
  have hdwi : ∀ i, sl b (49 * i) 49 = dw i := fun i => by rw [← hdw]
  simp only [hdwi]
  generalize hsh9 : sl shb 0 49 = sh at *
  generalize hcc : bn b (49 * many) 48 = c at *
  generalize hss : bn b (49 * many + 48) 48 = s at *
  suffices H : ∀ Q : Option Value → vm_H → Prop, (∀ r h', (∃ ok : Bool, r = some (.int (bi ok)) ∧ (ok = true ↔ pvOK st3 kk3 sh A aw dw many c s) ∧ (∃ W' B' V' g', OPc a h' W' B' V' g' ∧ W' 0 = W 0 ∧ (ok = true → (∀ j, j < many → g'.1 j = some (elL (dw j))) ∧ ∃ q, g'.2 0 = some q)) ∧ fr h h' (OR a)) → Q r h') → vm_Met (vm_env l O f9) mX7_isProved 0 0 [.ref a, .ref K, .ref fa, .int (nI many)] h Q from H _ (fun _ _ z => z)
  intro Q hQ
  have bad : ∀ h' W' B' V' g', OPc a h' W' B' V' g' → W' 0 = W 0 → fr h h' (OR a) → ¬ pvOK st3 kk3 sh A aw dw many c s → Q (some (.int 0)) h' := fun h' W' B' V' g' k w F n => hQ _ _ ⟨false, rfl, ⟨(fun z => nomatch z), fun z => absurd z n⟩, ⟨W', B', V', g', k, w, (fun z => nomatch z)⟩, F⟩
  generalize hM : pvS st3 kk3 sh aw dw aw many = M
  generalize hZ : pvS st3 kk3 sh aw dw dw many = Z
  generalize hU : pvU s c M Z = U
  generalize hT : pvU s c gP (some A) = T
  have hOK : pvOK st3 kk3 sh A aw dw many c s ↔ ((c < cQ ∧ s < cQ) ∧ (∀ i, i < many → elL (aw i) ≠ none) ∧ (∀ i, i < many → elL (dw i) ≠ none) ∧ M ≠ none ∧ Z ≠ none ∧ U ≠ none ∧ T ≠ none ∧ hts st3 kk3 (chm sh M Z T U) = c) := by
    unfold pvOK
    rw [hM, hZ, hU, hT]
  -- the last block
  have h261 : ∀ (t5 : Bool) (h' : vm_H) (W' : Nat → List Nat) (B' : Nat → Nat → Nat) (V' : Nat → Option Nat) (g' : og) (m2 : Bool), OPc a h' W' B' V' g' → W' 0 = W 0 → fr h h' (OR a) → bn (B' 8) 0 48 = s → bn (B' 8) 48 48 = c → (c < cQ ∧ s < cQ) → (∀ i, i < many → elL (aw i) ≠ none) → (∀ i, i < many → elL (dw i) ≠ none) → (m2 = true ↔ (M ≠ none ∧ Z ≠ none ∧ U ≠ none)) → (∃ q, g'.2 0 = some q) → (m2 = true → g'.2 0 = some (some A) ∧ sl (B' 9) 0 49 = sh ∧ sl (B' 9) 49 49 = ptO M ∧ sl (B' 9) 98 49 = ptO Z ∧ sl (B' 9) 196 49 = ptO U) → (∀ j, j < many → g'.1 j = some (elL (dw j))) → vm_T (vm_env l O f9) mX7_isProved 0 0 261 [(0, .ref a), (1, .ref K), (2, .ref fa), (3, .int (nI many)), (4, .int (nI (49 * many))), (5, .int (bi t5))] [.int (bi m2)] h' Q := by
    intro t5 h1 W1 B1 V1 g1 m2 k1 w1 F1 hs1 hc1 hcs haw0 hdw0 hm2 hgp hm2' hgt
    obtain ⟨pp, hpp⟩ := hgp
    refine vm_go rfl bX7_isProved_261 oX7_isProved_261 ⟨_, _, OP_t k1, rfl, ⟨_, _, OP_t k1, rfl, ⟨_, _, OP_Co k1, rfl, ⟨_, OP_Co k1, 0, 0, _, o_spr (i := 0) (pl := 8) k1 (by decide) (by decide) rfl, Nat.zero_le _, Nat.zero_le _, ?_⟩⟩⟩⟩
    rintro _ h2 ⟨rfl, k2, F2⟩
    have F2 := fr_trans F1 (fr_mono F2 xc)
    refine ⟨_, _, OP_t k2, rfl, ⟨_, _, OP_t k2, rfl, ⟨_, OP_Co k2, 0, 0, _, o_spr (i := 1) (pl := 9) (p := pp) k2 (by decide) (by decide) hpp, Nat.zero_le _, Nat.zero_le _, ?_⟩⟩⟩
    rintro _ h3 ⟨rfl, k3, F3⟩
    have F3 := fr_trans F2 (fr_mono F3 xc)
    refine ⟨_, _, OP_t k3, rfl, ⟨_, _, OP_t k3, rfl, ⟨_, _, OP_t k3, rfl, ⟨_, OP_Co k3, 0, 0, _, o_comb (i := 0) (pl := 8) (at9 := 0) (many := 2) (Pk := fun j => if j = 0 then gP else pp) k3 (by decide) (by decide) (OP_b k3 (j := 8) (by decide)) (by decide) (by decide) (fun j hj => by rcases (show j = 0 ∨ j = 1 by omega) with rfl | rfl <;> rfl) (Or.inl ⟨pp, hpp⟩), Nat.zero_le _, Nat.zero_le _, ?_⟩⟩⟩⟩
    rintro _ h4 ⟨rfl, k4, F4⟩
    have F4 := fr_trans F3 (fr_mono F4 xc)
    rw [cs_2] at k4
    have e4 : pvU (bn (B1 8) (0 + 48 * 0) 48) (bn (B1 8) (0 + 48 * 1) 48) (if 0 = 0 then gP else pp) (if 1 = 0 then gP else pp) = pvU s c gP pp := by
      rw [if_pos rfl, if_neg (by decide)]
      show pvU (bn (B1 8) 0 48) (bn (B1 8) 48 48) gP pp = _
      rw [hs1, hc1]
    rw [e4] at k4
    refine ⟨_, _, OP_t k4, rfl, ⟨_, _, OP_t k4, rfl, ⟨_, _, OP_t k4, rfl, ⟨_, OP_Co k4, 0, 0, _, o_enc (i := 0) (t := 9) (at9 := 147) (p := pvU s c gP pp) k4 (by decide) rfl (by decide) (by decide), Nat.zero_le _, Nat.zero_le _, ?_⟩⟩⟩⟩
    rintro _ h5 ⟨rfl, k5, F5⟩
    have F5 := fr_trans F4 (fr_mono F5 xf)
    have h337 : ¬ pvOK st3 kk3 sh A aw dw many c s → vm_T (vm_env l O f9) mX7_isProved 0 0 337 [(0, .ref a), (1, .ref K), (2, .ref fa), (3, .int (nI many)), (4, .int (nI (49 * many))), (5, .int (bi m2))] [] h5 Q := fun n => vm_go rfl bX7_isProved_337 oX7_isProved_337 ⟨rfl, bad _ _ _ _ _ k5 w1 F5 n⟩
    cases m2 with
    | false =>
      have nb : ¬ pvOK st3 kk3 sh A aw dw many c s := fun z => by
        have z := hOK.mp z
        have := hm2.mpr ⟨z.2.2.2.1, z.2.2.2.2.1, z.2.2.2.2.2.1⟩
        cases this
      cases hx : pvU s c gP pp with
      | none => exact ⟨fun _ => h337 nb, fun q => absurd rfl q⟩
      | some x => exact ⟨fun q => absurd q (by show ¬ (1 : Int32) = 0; decide), fun _ => ⟨fun q => absurd rfl q, fun _ => h337 nb⟩⟩
    | true =>
    obtain ⟨hpA, q0, q1, q2, q4⟩ := hm2' rfl
    rw [hpp] at hpA
    have hpA : pp = some A := by cases hpA; rfl
    subst hpA
    rw [hT] at k5 ⊢
    by_cases hTn : T = none
    · rw [hTn]
      exact ⟨fun _ => h337 (fun z => (hOK.mp z).2.2.2.2.2.2.1 hTn), fun q => absurd rfl q⟩
    obtain ⟨tp, htp⟩ := Option.ne_none_iff_exists'.mp hTn
    rw [htp] at k5 ⊢
    refine ⟨fun q => absurd q (by show ¬ (1 : Int32) = 0; decide), fun _ => ⟨fun _ => ?_, fun q => absurd q (by decide)⟩⟩
    have ev5 := EV_or ev k0 F5 (fun _ z => z)
    have r0 : sl (encb (B1 9) 147 (some tp)) 0 49 = sh := by rw [encb_sl (by omega)]; exact q0
    have r1 : sl (encb (B1 9) 147 (some tp)) 49 49 = ptO M := by rw [encb_sl (by omega)]; exact q1
    have r2 : sl (encb (B1 9) 147 (some tp)) 98 49 = ptO Z := by rw [encb_sl (by omega)]; exact q2
    have r3 : sl (encb (B1 9) 147 (some tp)) 147 49 = ptO T := by rw [encb_at, htp]; rfl
    have r4 : sl (encb (B1 9) 147 (some tp)) 196 49 = ptO U := by rw [encb_sl (by omega)]; exact q4
    refine vm_go rfl bX7_isProved_339 oX7_isProved_339 ⟨_, OP_t k5, 0, 0, _, p_cha h9 k5 ev5, Nat.zero_le _, Nat.zero_le _, ?_⟩
    rintro _ h6 ⟨rfl, ⟨W6, B6, V6, k6, w6, b6, hc6⟩, F6⟩
    have F6 := fr_trans F5 (fr_mono F6 HS_OR)
    rw [fu_e, chl_5 r0 r1 r2 r3 r4, fu_n (by decide)] at hc6
    have hlt : hts st3 kk3 (chm sh M Z T U) < cQ := hts_lt
    generalize hch : hts st3 kk3 (chm sh M Z T U) = ch at *
    have f6 := fr_bv F6 hf hfo
    have p6 := OP_b k6 (j := 8) (by decide)
    have s6 : sl (B6 8) 0 48 = wb ch 48 := by rw [hc6]; exact wrb_sl
    refine ⟨_, _, OP_t k6, rfl, ⟨0, 0, _, w_same (at9 := 0) (bt := 49 * many) (many := 48) p6 f6 (by decide) (by omega) (by decide), Nat.zero_le _, Nat.zero_le _, ?_⟩⟩
    rintro _ h7 ⟨rfl, x, rfl, hx⟩
    have key : (∀ i, i < 48 → B6 8 (0 + i) = b (49 * many + i)) ↔ ch = c := by
      rw [← hcc, ← sl_wb (Nat.lt_trans hlt cQ_48) (fun j h1 h2 => hbl j (by omega))]
      have hi : ∀ i, i < 48 → B6 8 (0 + i) = gb (wb ch 48) i := fun i hi => by rw [← s6, gb_sl hi]
      exact ⟨fun z i hh => by rw [← hi i hh]; exact z i hh, fun z i hh => by rw [hi i hh]; exact z i hh⟩
    rcases hx with ⟨rfl, hx⟩ | ⟨rfl, i, hi, hx⟩
    · refine ⟨rfl, hQ _ _ ⟨true, rfl, ⟨fun _ => hOK.mpr ⟨hcs, haw0, hdw0, (hm2.mp rfl).1, (hm2.mp rfl).2.1, (hm2.mp rfl).2.2, hTn, key.mp hx⟩, fun _ => rfl⟩, ⟨_, _, _, _, k6, w6.trans w1, fun _ => ⟨fun j hj => ?_, ⟨_, rfl⟩⟩⟩, F6⟩⟩
      show fu (fu g1.1 8 _) 9 _ j = _
      rw [fu_n (by omega), fu_n (by omega)]; exact hgt j hj
    · exact ⟨rfl, bad _ _ _ _ _ k6 (w6.trans w1) F6 (fun z => hx (key.mpr (hOK.mp z).2.2.2.2.2.2.2 i hi))⟩
  have h164 : ∀ (h' : vm_H) (W' : Nat → List Nat) (B' : Nat → Nat → Nat) (V' : Nat → Option Nat) (g' : og) (m1 : Bool), OPc a h' W' B' V' g' → W' 0 = W 0 → fr h h' (OR a) → bn (B' 8) 0 48 = s → bn (B' 8) 48 48 = c → (c < cQ ∧ s < cQ) → (∀ i, i < many → elL (aw i) ≠ none) → (∀ i, i < many → elL (dw i) ≠ none) → (m1 = true ↔ (M ≠ none ∧ Z ≠ none)) → (∃ q, g'.2 0 = some q) → g'.2 1 = some M → g'.2 2 = some Z → sl (B' 9) 0 49 = sh → (m1 = true → sl (B' 9) 49 49 = ptO M ∧ sl (B' 9) 98 49 = ptO Z) → (∀ j, j < many → g'.1 j = some (elL (dw j))) → vm_T (vm_env l O f9) mX7_isProved 0 0 164 [(0, .ref a), (1, .ref K), (2, .ref fa), (3, .int (nI many)), (4, .int (nI (49 * many)))] [.int (bi m1)] h' Q := by
    intro h1 W1 B1 V1 g1 m1 k1 w1 F1 hs1 hc1 hcs haw0 hdw0 hm1' hgp hg1 hg2 q0 hm1q hgt
    obtain ⟨pp, hpp⟩ := hgp
    refine vm_go rfl bX7_isProved_164 oX7_isProved_164 ⟨_, _, OP_t k1, rfl, ⟨_, _, OP_t k1, rfl, ⟨_, OP_Co k1, 0, 0, _, o_spr (i := 2) (pl := 8) (p := M) k1 (by decide) (by decide) hg1, Nat.zero_le _, Nat.zero_le _, ?_⟩⟩⟩
    rintro _ h2 ⟨rfl, k2, F2⟩
    have F2 := fr_trans F1 (fr_mono F2 xc)
    refine ⟨_, _, OP_t k2, rfl, ⟨_, _, OP_t k2, rfl, ⟨_, OP_Co k2, 0, 0, _, o_spr (i := 3) (pl := 9) (p := Z) k2 (by decide) (by decide) hg2, Nat.zero_le _, Nat.zero_le _, ?_⟩⟩⟩
    rintro _ h3 ⟨rfl, k3, F3⟩
    have F3 := fr_trans F2 (fr_mono F3 xc)
    refine ⟨_, _, OP_t k3, rfl, ⟨_, _, OP_t k3, rfl, ⟨_, _, OP_t k3, rfl, ⟨_, OP_Co k3, 0, 0, _, o_comb (i := 0) (pl := 8) (at9 := 0) (many := 2) (Pk := fun j => if j = 0 then M else Z) k3 (by decide) (by decide) (OP_b k3 (j := 8) (by decide)) (by decide) (by decide) (fun j hj => by rcases (show j = 0 ∨ j = 1 by omega) with rfl | rfl <;> rfl) (Or.inl ⟨pp, hpp⟩), Nat.zero_le _, Nat.zero_le _, ?_⟩⟩⟩⟩
    rintro _ h4 ⟨rfl, k4, F4⟩
    have F4 := fr_trans F3 (fr_mono F4 xc)
    rw [cs_2] at k4
    have e4 : pvU (bn (B1 8) (0 + 48 * 0) 48) (bn (B1 8) (0 + 48 * 1) 48) (if 0 = 0 then M else Z) (if 1 = 0 then M else Z) = U := by
      rw [if_pos rfl, if_neg (by decide), ← hU]
      show pvU (bn (B1 8) 0 48) (bn (B1 8) 48 48) M Z = _
      rw [hs1, hc1]
    rw [e4] at k4
    have hgt4 : ∀ j, j < many → fu (fu g1.1 8 (some M)) 9 (some Z) j = some (elL (dw j)) := fun j hj => by rw [fu_n (by omega), fu_n (by omega)]; exact hgt j hj
    refine ⟨_, _, OP_t k4, rfl, ⟨_, _, OP_t k4, rfl, ⟨_, _, OP_t k4, rfl, ⟨_, OP_Co k4, 0, 0, _, o_enc (i := 0) (t := 9) (at9 := 196) (p := U) k4 (by decide) rfl (by decide) (by decide), Nat.zero_le _, Nat.zero_le _, ?_⟩⟩⟩⟩
    rintro _ h5 ⟨rfl, k5, F5⟩
    have F5 := fr_trans F4 (fr_mono F5 xf)
    have z0 : sl (encb (B1 9) 196 U) 0 49 = sh := by rw [encb_sl (by omega)]; exact q0
    have b8 : ∀ X, fu B1 9 X 8 = B1 8 := fun X => fu_n (by decide)
    have h260 : ¬ (m1 = true ∧ U ≠ none) → vm_T (vm_env l O f9) mX7_isProved 0 0 260 [(0, .ref a), (1, .ref K), (2, .ref fa), (3, .int (nI many)), (4, .int (nI (49 * many))), (5, .int (bi m1))] [] h5 Q := fun n => vm_go rfl bX7_isProved_260 oX7_isProved_260 (h261 m1 h5 _ _ _ _ false k5 w1 F5 (by rw [b8]; exact hs1) (by rw [b8]; exact hc1) hcs haw0 hdw0 ⟨(fun z => nomatch z), fun z => absurd ⟨hm1'.mpr ⟨z.1, z.2.1⟩, z.2.2⟩ n⟩ ⟨_, rfl⟩ (fun z => nomatch z) hgt4)
    cases hUc : U with
    | none => exact ⟨fun _ => h260 (fun z => z.2 hUc), fun q => absurd rfl q⟩
    | some up =>
    refine ⟨fun q => absurd q (by show ¬ (1 : Int32) = 0; decide), fun _ => ?_⟩
    cases hm : m1 with
    | false =>
      subst hm
      exact ⟨fun _ => h260 (fun z => nomatch z.1), fun q => absurd rfl q⟩
    | true =>
    subst hm
    refine ⟨fun q => absurd q (by decide), fun _ => ?_⟩
    have p5 := OP_b k5 (j := 9) (by decide)
    rw [fu_e] at p5
    refine ⟨_, _, OP_t k5, rfl, ⟨_, _, OP_t k5, rfl, ⟨_, _, OP_t k5, rfl, ⟨_, OP_Co k5, 0, 0, _, o_dec (at9 := 0) k5 p5 (by decide) (by decide), Nat.zero_le _, Nat.zero_le _, ?_⟩⟩⟩⟩
    rintro _ h6 ⟨rfl, k6, F6⟩
    have F6 := fr_trans F5 (fr_mono F6 xc)
    rw [z0, hA] at k6 ⊢
    refine ⟨fun q => absurd q (by show ¬ (1 : Int32) = 0; decide), fun _ => ?_⟩
    refine h261 true h6 _ _ _ _ true k6 w1 F6 (by rw [b8]; exact hs1) (by rw [b8]; exact hc1) hcs haw0 hdw0 ⟨fun _ => ⟨(hm1'.mp rfl).1, (hm1'.mp rfl).2, by rw [hUc]; exact fun z => by cases z⟩, fun _ => rfl⟩ ⟨_, rfl⟩ (fun _ => ⟨rfl, ?_, ?_, ?_, ?_⟩) hgt4
    · rw [fu_e]; exact z0
    · rw [fu_e, encb_sl (by omega)]; exact (hm1q rfl).1
    · rw [fu_e, encb_sl (by omega)]; exact (hm1q rfl).2
    · rw [fu_e, hUc, encb_at]; rfl
  refine vm_met rfl (Nat.le_of_ble_eq_true rfl) ?_
  refine vm_go rfl bX7_isProved_0 oX7_isProved_0 ⟨_, OP_t k, 0, 0, _, vm_metA (p_scal (at9 := 49 * many) k hf (by omega) hnf) (by show [_, _, Value.int (nI (49 * many))] = [_, _, Value.int (nI many * 49)]; rw [eP]), Nat.zero_le _, Nat.zero_le _, ?_⟩
  rintro _ h1 ⟨rfl, k1, F1⟩
  have F1 := fr_mono F1 xn
  rw [hcc]
  have h29 : ∀ h' W' B' V' g', OPc a h' W' B' V' g' → W' 0 = W 0 → fr h h' (OR a) → ¬ pvOK st3 kk3 sh A aw dw many c s → vm_T (vm_env l O f9) mX7_isProved 0 0 29 [(0, .ref a), (1, .ref K), (2, .ref fa), (3, .int (nI many)), (4, .int (nI many * 49))] [] h' Q := fun h' W' B' V' g' k w F n => vm_go rfl bX7_isProved_29 oX7_isProved_29 ⟨rfl, bad _ _ _ _ _ k w F n⟩
  by_cases hcq : c < cQ
  rotate_left
  · rw [if_neg hcq]
    exact ⟨fun _ => h29 _ _ _ _ _ k1 rfl F1 (fun z => hcq z.1.1), fun q => absurd rfl q⟩
  rw [if_pos hcq]
  refine ⟨fun q => absurd q (by decide), fun _ => ?_⟩
  refine ⟨_, OP_t k1, 0, 0, _, vm_metA (p_scal (at9 := 49 * many + 48) k1 (fr_bv F1 hf hfo) (by omega) hnf) (by show [_, _, Value.int (nI (49 * many + 48))] = [_, _, Value.int (nI many * 49 + 48)]; rw [eP, eP2]), Nat.zero_le _, Nat.zero_le _, ?_⟩
  rintro _ h2 ⟨rfl, k2, F2⟩
  have F2 := fr_trans F1 (fr_mono F2 xn)
  rw [hss]
  by_cases hsq : s < cQ
  rotate_left
  · rw [if_neg hsq]
    exact ⟨fun q => absurd rfl q, fun _ => h29 _ _ _ _ _ k2 rfl F2 (fun z => hsq z.1.2)⟩
  rw [if_pos hsq]
  refine ⟨fun _ => ?_, fun q => absurd q (by decide)⟩
  refine vm_Th (lv' := [(0, .ref a), (1, .ref K), (2, .ref fa), (3, .int (nI many)), (4, .int (nI (49 * many)))]) (h' := h2) (by rw [← eP]; rfl) rfl ?_
  have hK2 := KO_fr hK F2 hKo
  have ev2 := EV_or ev k0 F2 (fun _ z => z)
  refine vm_go rfl bX7_isProved_31 oX7_isProved_31 ⟨_, _, OP_t k2, rfl, ⟨_, OP_t k2, 0, 0, _, p_wei (c := a + oad 6) (ct := 0) (d := fa) h9 k2 ev2 hK2 hKo (fr_bv F2 hsh hsho) hsho hns hns2 (OP_b k2 (j := 6) (by decide)) (fun z => z.2.2 rfl) (by show 0 + 49 * many ≤ 392; omega) (by decide) (fr_bv F2 hf hfo) (fun z => hfo z.1) (by omega) hnf hm1, Nat.zero_le _, Nat.zero_le _, ?_⟩⟩
  rintro _ h3 ⟨rfl, ⟨W3, B3, V3, k3, w3, b3, hwt⟩, F3⟩
  have F3 := fr_trans F2 (fr_mono F3 HS_OR)
  rw [hsh9] at hwt
  have b36 : B3 6 = B 6 := b3 6 (by decide) (by decide) (by decide) (by decide) (by decide)
  have hwt : ∀ i, i < many → bn (B3 7) (48 * i) 48 = wgt st3 kk3 (sdl st3 kk3 sh) (aw i) (dw i) i := fun i hi => by rw [hwt i hi, hdwi, Nat.zero_add, hawi]
  have hMM : ∀ ew : Nat → List Nat, cs (fun j => elL (ew j)) (fun j => bn (B3 7) (48 * j) 48) many = pvS st3 kk3 sh aw dw ew many := fun ew => cs_cg many (fun j hj => hwt j hj)
  refine ⟨_, _, OP_t k3, rfl, ⟨_, _, OP_t k3, rfl, ⟨_, OP_t k3, 0, 0, _, p_ssm (i := 1) (fa := a + oad 6) k3 (by decide) (by decide) (OP_b k3 (j := 6) (by decide)) (by show ¬ CR a (a + 692); unfold CR; omega) (by show 49 * many ≤ 392; omega) (by decide) hm0 hm1, Nat.zero_le _, Nat.zero_le _, ?_⟩⟩⟩
  rintro _ h4 ⟨ok4, rfl, hok4, ⟨g4, k4, hg4⟩, F4⟩
  have F4 := fr_trans F3 (fr_mono F4 xc)
  simp only [b36, hawi] at hok4 hg4
  rw [hMM aw, hM] at hg4
  have h72 : ∀ h' W' B' V' g', OPc a h' W' B' V' g' → W' 0 = W 0 → fr h h' (OR a) → ¬ pvOK st3 kk3 sh A aw dw many c s → vm_T (vm_env l O f9) mX7_isProved 0 0 72 [(0, .ref a), (1, .ref K), (2, .ref fa), (3, .int (nI many)), (4, .int (nI (49 * many)))] [] h' Q := fun h' W' B' V' g' k w F n => vm_go rfl bX7_isProved_72 oX7_isProved_72 ⟨rfl, bad _ _ _ _ _ k w F n⟩
  cases ok4 with
  | false => exact ⟨fun _ => h72 _ _ _ _ _ k4 w3 F4 (fun z => nomatch (hok4.mpr z.2.1)), fun q => absurd rfl q⟩
  | true =>
  refine ⟨fun q => absurd q (by decide), fun _ => ?_⟩
  obtain ⟨g41, _, g43, g44⟩ := hg4 rfl
  refine ⟨_, _, OP_t k4, rfl, ⟨_, OP_t k4, 0, 0, _, p_ssm (i := 2) (fa := fa) k4 (by decide) (by decide) (fr_bv F4 hf hfo) (nCR _ hfo) (by omega) hnf hm0 hm1, Nat.zero_le _, Nat.zero_le _, ?_⟩⟩
  rintro _ h5 ⟨ok5, rfl, hok5, ⟨g5, k5, hg5⟩, F5⟩
  have F5 := fr_trans F4 (fr_mono F5 xc)
  simp only [hdwi] at hok5 hg5
  rw [hMM dw, hZ] at hg5
  cases ok5 with
  | false => exact ⟨fun q => absurd rfl q, fun _ => h72 _ _ _ _ _ k5 w3 F5 (fun z => nomatch (hok5.mpr z.2.2.1))⟩
  | true =>
  refine ⟨fun _ => ?_, fun q => absurd q (by decide)⟩
  obtain ⟨g51, g52, g53, g54⟩ := hg5 rfl
  have hg51 : g5.2 1 = some M := (g53 1 (by decide) (by decide)).trans g41
  obtain ⟨ff, ef, vf⟩ := fr_bv F5 hf hfo
  obtain ⟨fp, e8, v8⟩ := OP_b k5 (j := 8) (by decide)
  refine vm_go rfl bX7_isProved_74 oX7_isProved_74 ⟨_, _, OP_t k5, rfl, ⟨48, 0, 49 * many + 48, nf, 96, rfl, rfl, eP2, by omega, by decide, ha694, ff, fp, ef, e8, ?_⟩⟩
  generalize hq6 : vm_up h5 (a + 694) _ = h6
  have b6 : bv h6 (oln 8) (a + oad 8) (app (B3 8) 0 (fun j => b (49 * many + 48 + j)) 48) := by
    show bv h6 96 (a + 694) _
    rw [← hq6]
    refine ⟨_, vm_upe, fun j hj => ?_⟩
    unfold va_cpy app
    by_cases e : 0 ≤ j ∧ j < 0 + 48
    · rw [if_pos e, if_pos e]; exact vf _ (by omega)
    · rw [if_neg e, if_neg e]; exact v8 j hj
  have F6 : fr h5 h6 (fun q => q = a + oad 8) := by rw [← hq6]; exact fr_up rfl
  clear hq6
  have k6 := OP_byt k5 (t := 8) (by decide) F6 b6
  have F6 := fr_trans F5 (fr_mono F6 xp)
  obtain ⟨ff6, ef6, vf6⟩ := fr_bv F6 hf hfo
  obtain ⟨fp6, e86, v86⟩ := b6
  refine ⟨_, _, OP_t k6, rfl, ⟨48, 48, 49 * many, nf, 96, rfl, rfl, rfl, by omega, by decide, ha694, ff6, fp6, ef6, e86, ?_⟩⟩
  generalize hq7 : vm_up h6 (a + 694) _ = h7
  have b7 : bv h7 (oln 8) (a + oad 8) (app (app (B3 8) 0 (fun j => b (49 * many + 48 + j)) 48) 48 (fun j => b (49 * many + j)) 48) := by
    show bv h7 96 (a + 694) _
    rw [← hq7]
    refine ⟨_, vm_upe, fun j hj => ?_⟩
    unfold va_cpy
    show _ = sb (if 48 ≤ j ∧ j < 48 + 48 then b (49 * many + (j - 48)) else _) ∧ (if 48 ≤ j ∧ j < 48 + 48 then b (49 * many + (j - 48)) else _) < 256
    by_cases e : 48 ≤ j ∧ j < 48 + 48
    · rw [if_pos e, if_pos e]; exact vf6 _ (by omega)
    · rw [if_neg e, if_neg e]; exact v86 j hj
  have F7 : fr h6 h7 (fun q => q = a + oad 8) := by rw [← hq7]; exact fr_up rfl
  clear hq7
  have k7 := OP_byt k6 (t := 8) (by decide) F7 b7
  have F7 := fr_trans F6 (fr_mono F7 xp)
  rw [fu_fu] at k7
  have hs7 : bn (app (app (B3 8) 0 (fun j => b (49 * many + 48 + j)) 48) 48 (fun j => b (49 * many + j)) 48) 0 48 = s := by
    rw [← hss]
    refine bn_ext 48 (fun j hj => ?_)
    unfold app
    rw [if_neg (by omega), if_pos (by omega)]
    show b (49 * many + 48 + (0 + j - 0)) = _
    congr 1; omega
  have hc7 : bn (app (app (B3 8) 0 (fun j => b (49 * many + 48 + j)) 48) 48 (fun j => b (49 * many + j)) 48) 48 48 = c := by
    rw [← hcc]
    refine bn_ext 48 (fun j hj => ?_)
    unfold app
    rw [if_pos (by omega)]
    show b (49 * many + (48 + j - 48)) = _
    congr 1; omega
  generalize app (app (B3 8) 0 (fun j => b (49 * many + 48 + j)) 48) 48 (fun j => b (49 * many + j)) 48 = c8 at *
  have hK7 := KO_fr hK F7 hKo
  obtain ⟨fs, es, vs⟩ := fr_bv F7 hsh hsho
  obtain ⟨f5, e5, v5⟩ := OP_b k7 (j := 9) (by decide)
  refine ⟨_, _, hK7, rfl, ⟨_, _, OP_t k7, rfl, ⟨49, 0, 0, nsh, 245, rfl, rfl, rfl, by omega, by decide, ha695, fs, f5, es, e5, ?_⟩⟩⟩
  generalize hq8 : vm_up h7 (a + 695) _ = h8
  have b9 : bv h8 (oln 9) (a + oad 9) (app (B3 9) 0 shb 49) := by
    show bv h8 245 (a + 695) _
    rw [← hq8]
    refine ⟨_, vm_upe, fun j hj => ?_⟩
    unfold va_cpy app
    by_cases e : 0 ≤ j ∧ j < 0 + 49
    · rw [if_pos e, if_pos e, Nat.zero_add, Nat.sub_zero]; exact vs j (by omega)
    · rw [if_neg e, if_neg e]; exact v5 j hj
  have F8 : fr h7 h8 (fun q => q = a + oad 9) := by rw [← hq8]; exact fr_up rfl
  clear hq8
  have k8 := OP_byt k7 (t := 9) (by decide) F8 b9
  have F8 := fr_trans F7 (fr_mono F8 (fun q z => xf q (Or.inr z)))
  have s0 : sl (app (B3 9) 0 shb 49) 0 49 = sh := by rw [sl_app_hi]; exact hsh9
  generalize app (B3 9) 0 shb 49 = c9 at *
  have c88 : ∀ X, fu (fu B3 8 c8) 9 X 8 = c8 := fun X => by rw [fu_n (by decide), fu_e]
  refine ⟨_, _, OP_t k8, rfl, ⟨_, _, OP_t k8, rfl, ⟨_, _, OP_t k8, rfl, ⟨_, OP_Co k8, 0, 0, _, o_enc (i := 1) (t := 9) (at9 := 49) (p := M) k8 (by decide) hg51 (by decide) (by decide), Nat.zero_le _, Nat.zero_le _, ?_⟩⟩⟩⟩
  rintro _ hx9 ⟨rfl, k9, F9⟩
  have F9 := fr_trans F8 (fr_mono F9 xf)
  rw [fu_fu, fu_e] at k9
  have z9 : sl (encb c9 49 M) 0 49 = sh := by rw [encb_sl (by omega)]; exact s0
  cases hMc : M with
  | none =>
    refine ⟨fun _ => vm_go rfl bX7_isProved_163 oX7_isProved_163 (h164 hx9 _ _ _ _ false k9 w3 F9 (by rw [c88]; exact hs7) (by rw [c88]; exact hc7) ⟨hcq, hsq⟩ (hok4.mp rfl) (hok5.mp rfl) ⟨(fun z => nomatch z), fun z => absurd hMc z.1⟩ g54 hg51 g51 (by rw [fu_e]; exact z9) (fun z => nomatch z) g52), fun q => absurd rfl q⟩
  | some mp =>
  refine ⟨fun q => absurd q (by show ¬ (1 : Int32) = 0; decide), fun _ => ?_⟩
  refine ⟨_, _, OP_t k9, rfl, ⟨_, _, OP_t k9, rfl, ⟨_, _, OP_t k9, rfl, ⟨_, OP_Co k9, 0, 0, _, o_enc (i := 2) (t := 9) (at9 := 98) (p := Z) k9 (by decide) g51 (by decide) (by decide), Nat.zero_le _, Nat.zero_le _, ?_⟩⟩⟩⟩
  rintro _ h10 ⟨rfl, k10, F10⟩
  have F10 := fr_trans F9 (fr_mono F10 xf)
  rw [fu_fu, fu_e] at k10
  have z10 : sl (encb (encb c9 49 M) 98 Z) 0 49 = sh := by rw [encb_sl (by omega)]; exact z9
  cases hZc : Z with
  | none =>
    refine ⟨fun _ => vm_go rfl bX7_isProved_163 oX7_isProved_163 (h164 h10 _ _ _ _ false k10 w3 F10 (by rw [c88]; exact hs7) (by rw [c88]; exact hc7) ⟨hcq, hsq⟩ (hok4.mp rfl) (hok5.mp rfl) ⟨(fun z => nomatch z), fun z => absurd hZc z.2⟩ g54 hg51 g51 (by rw [fu_e]; exact z10) (fun z => nomatch z) g52), fun q => absurd rfl q⟩
  | some zp =>
  refine ⟨fun q => absurd q (by show ¬ (1 : Int32) = 0; decide), fun _ => ?_⟩
  refine h164 h10 _ _ _ _ true k10 w3 F10 (by rw [c88]; exact hs7) (by rw [c88]; exact hc7) ⟨hcq, hsq⟩ (hok4.mp rfl) (hok5.mp rfl) ⟨fun _ => ⟨(by rw [hMc]; exact fun z => nomatch z), (by rw [hZc]; exact fun z => nomatch z)⟩, fun _ => rfl⟩ g54 hg51 g51 (by rw [fu_e]; exact z10) (fun _ => ⟨?_, ?_⟩) g52
  · rw [fu_e, encb_sl (by omega), hMc, encb_at]; rfl
  · rw [fu_e, hZc, encb_at]; rfl
end
