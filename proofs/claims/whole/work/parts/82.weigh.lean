/-! Oprf: weigh, challenge, answerChallenge -/
/-- a KEY's object: type, size, blindedSize, salt, shown, secret, id, modulus, live -/
def KO (h : vm_H) (K ty sz bs sa sh se id mo : Nat) (lv : Int32) : Prop := h.2 K = .inr (5, [.int (nI ty), .int (nI sz), .int (nI bs), .int (nI sa), .ref sh, .ref se, .ref id, .ref mo, .int lv])
theorem KO_fr {h h' : vm_H} {S : Nat → Prop} {K ty sz bs sa sh se id mo : Nat} {lv : Int32} (k : KO h K ty sz bs sa sh se id mo lv) (F : fr h h' S) (hK : ¬ S K) : KO h' K ty sz bs sa sh se id mo lv := (F.2 K hK).trans k
def sdl (st kk : Nat → Int64) (sh : List Nat) : List Nat := H3 st kk (nb 49 2 ++ sh ++ nb (tgE.length : Nat) 2 ++ tgE)
def wgt (st kk : Nat → Int64) (sd c d : List Nat) (i : Nat) : Nat := hts st kk (nb 48 2 ++ sd ++ nb (i : Nat) 2 ++ nb 49 2 ++ c ++ nb 49 2 ++ d ++ tCo)
theorem hts_lt {st kk : Nat → Int64} {m : List Nat} : hts st kk m < cQ := Nat.mod_lt _ cQ_pos
def chl (b : Nat → Nat) : Nat → List Nat
  | 0 => []
  | i + 1 => chl b i ++ nb 49 2 ++ sl b (i * 49) 49
theorem chl_len {b : Nat → Nat} : ∀ i, (chl b i).length = 51 * i
  | 0 => rfl
  | i + 1 => by
    show (chl b i ++ nb 49 2 ++ sl b (i * 49) 49).length = _
    rw [List.length_append, List.length_append, chl_len i, nb_len, sl_len]; omega
section
variable {l : Launch} {O : Nat → vm_Ob} {f9 : Value} {a : Nat} {h : vm_H} {W : Nat → List Nat} {B : Nat → Nat → Nat} {V : Nat → Option Nat} {g : og} {st2 kk2 : Nat → Int32} {st3 kk3 : Nat → Int64}
theorem wrb_bn {b : Nat → Nat} {p x : Nat} (hx : x < 256 ^ 48) : bn (wrb b p 48 x) p 48 = x := wb_nb 48 hx _ _ wrb_sl
theorem wrb_off {b : Nat → Nat} {p k x j : Nat} (h : j < p ∨ p + k ≤ j) : wrb b p k x j = b j := by
  unfold wrb; rw [if_neg (by omega)]
set_option maxHeartbeats 1000000 in
theorem p_wei {K ty sz bs sa sh se id mo nsh c nc ct d nd many : Nat} {lv : Int32} {shb cb db : Nat → Nat} (h9 : f9.category = 1) (k : OPc a h W B V g) (ev : EV st2 kk2 st3 kk3 h) (hK : KO h K ty sz bs sa sh se id mo lv) (hKo : ¬ OR a K) (hsh : bv h nsh sh shb) (hsho : ¬ OR a sh) (hns : 49 ≤ nsh) (hns2 : nsh < 65536) (hc : bv h nc c cb) (hco : ¬ HS a c) (hct : ct + 49 * many ≤ nc) (hnc : nc < 65536) (hd : bv h nd d db) (hdo : ¬ HS a d) (hdt : 49 * many ≤ nd) (hnd : nd < 65536) (hm : many ≤ 8) :
    vm_Met (vm_env l O f9) mX7_weigh 0 0 [.ref a, .ref K, .ref c, .int (nI ct), .ref d, .int (nI many)] h (fun r h' => r = none ∧ (∃ W' B' V', OPc a h' W' B' V' g ∧ W' 0 = W 0 ∧ (∀ i, i ≠ 2 → i ≠ 3 → i ≠ 4 → i ≠ 5 → i ≠ 7 → B' i = B i) ∧ ∀ i, i < many → bn (B' 7) (48 * i) 48 = wgt st3 kk3 (sdl st3 kk3 (sl shb 0 49)) (sl cb (ct + 49 * i) 49) (sl db (49 * i) 49) i) ∧ fr h h' (HS a)) := by
  have k0 := k.1
  have xr : ∀ q, (q = a + rad 1 ∨ q = a + rad 1 + 1) → HS a q := fun q hq => by
    have hq : q = a + 685 ∨ q = a + 685 + 1 := hq
    unfold HS OR; omega
  have xe : ∀ q, (q = a + 685 ∨ q = a + 686) → HS a q := fun q hq => by unfold HS OR; omega
  have xh : ∀ q, ((a + 7 ≤ q ∧ q < a + 12) ∨ q = a + oad 2) → HS a q := fun q hq => by
    have hq : (a + 7 ≤ q ∧ q < a + 12) ∨ q = a + 3 := hq
    unfold HS OR; omega
  have nHS : ∀ q, ¬ OR a q → ¬ HS a q := fun q hq z => hq z.1
  have n686 : ∀ q, ¬ HS a q → q ≠ a + 686 := fun q hq z => hq (by unfold HS OR; omega)
  have k := OP_W k 1
  refine vm_met rfl (Nat.le_of_ble_eq_true rfl) ?_
  refine vm_go rfl bX7_weigh_0 oX7_weigh_0 ⟨_, _, OP_t k, rfl, ⟨_, OP_ro k (j := 1) (by decide), 0, 0, _, o_clear (j := 1) k (by decide), Nat.zero_le _, Nat.zero_le _, ?_⟩⟩
  rintro _ h1 ⟨rfl, k1, F1⟩
  have F1 := fr_mono F1 (fun q hq => xr q (Or.inl hq))
  have hK1 := KO_fr hK F1 (nHS _ hKo)
  refine ⟨_, _, hK1, rfl, ⟨_, OP_t k1, 0, 0, _, p_elem (at9 := 0) k1 (fr_bv F1 hsh (nHS _ hsho)) hns hns2 (by decide) (n686 _ (nHS _ hsho)), Nat.zero_le _, Nat.zero_le _, ?_⟩⟩
  rintro _ h2 ⟨rfl, k2, F2⟩
  have F2 := fr_trans F1 (fr_mono F2 xe)
  have ev2 := EV_or ev k0 F2 HS_OR
  refine ⟨_, _, OP_t k2, rfl, ?_⟩
  refine vm_ldw (idx := 261) (id := 1099511627818) (by decide +kernel) (List.mem_of_getElem? (i := 6) rfl) ?_
  refine vm_go rfl bX7_weigh_23 oX7_weigh_23 ⟨(st_o ev2.2.2.2.1).choose, (st_o ev2.2.2.2.1).choose_spec, 0, 0, _, s_len (sto_s ev2.2.2.2.1) (by decide), Nat.zero_le _, Nat.zero_le _, ?_⟩
  rintro _ h3 ⟨rfl, rfl⟩
  refine ⟨_, OP_ro k2 (j := 1) (by decide), 0, 0, _, o_numN (j := 1) (v := tgE.length) (m := 2) k2 (by decide) (by show _ ≤ 300; rw [List.length_append, List.length_append, nb_len, sl_len]; decide) (by decide) (by decide), Nat.zero_le _, Nat.zero_le _, ?_⟩
  rintro _ h4 ⟨rfl, k4, F4⟩
  have F4 := fr_trans F2 (fr_mono F4 xr)
  have ev4 := EV_or ev k0 F4 HS_OR
  refine ⟨_, _, OP_t k4, rfl, ?_⟩
  refine vm_ldw (idx := 261) (id := 1099511627818) (by decide +kernel) (List.mem_of_getElem? (i := 6) rfl) ?_
  refine vm_go rfl bX7_weigh_37 oX7_weigh_37 ⟨_, OP_ro k4 (j := 1) (by decide), 0, 0, _, o_text (j := 1) h9 k4 (by decide) ev4.2.2.2.1 (by show _ ≤ 300; rw [List.length_append, List.length_append, List.length_append, nb_len, nb_len, sl_len]; decide), Nat.zero_le _, Nat.zero_le _, ?_⟩
  rintro _ h5 ⟨rfl, k5, F5⟩
  rw [sl_gb] at k5
  have F5 := fr_trans F4 (fr_mono F5 xr)
  have ev5 := EV_or ev k0 F5 HS_OR
  refine ⟨_, _, OP_t k5, rfl, ⟨_, _, OP_t k5, rfl, ⟨_, _, OP_t k5, rfl, ⟨_, (OP_H k5).1, 0, 0, _, o_h3 (j := 1) (t := 2) k5 ev5.1 (by decide) (by decide), Nat.zero_le _, Nat.zero_le _, ?_⟩⟩⟩⟩
  rintro _ h6 ⟨rfl, ⟨c6, k6, hc6, _⟩, F6⟩
  have F6 := fr_trans F5 (fr_mono F6 xh)
  rw [fu_e] at hc6
  have hc6 : sl c6 0 48 = sdl st3 kk3 (sl shb 0 49) := hc6
  generalize hsd : sdl st3 kk3 (sl shb 0 49) = sd at *
  have lsd : sd.length = 48 := by rw [← hc6, sl_len]
  clear k1 F1 hK1 k2 F2 ev2 k4 F4 ev4 k5 F5 ev5
  refine vm_Th (lv' := [(0, .ref a), (1, .ref K), (2, .ref c), (3, .int (nI ct)), (4, .ref d), (5, .int (nI many)), (6, .int (nI 0))]) (h' := h6) rfl rfl ?_
  refine vm_loop (fun i h2 => (∃ W' B' V', OPc a h2 W' B' V' g ∧ W' 0 = W 0 ∧ B' 2 = c6 ∧ (∀ i, i ≠ 2 → i ≠ 3 → i ≠ 4 → i ≠ 5 → i ≠ 7 → B' i = B i) ∧ ∀ j, j < i → bn (B' 7) (48 * j) 48 = wgt st3 kk3 sd (sl cb (ct + 49 * j) 49) (sl db (49 * j) 49) j) ∧ fr h h2 (HS a)) many (fun i => [(0, .ref a), (1, .ref K), (2, .ref c), (3, .int (nI ct)), (4, .ref d), (5, .int (nI many)), (6, .int (nI i))]) 0 h6 (Nat.zero_le _) ⟨⟨_, _, _, k6, fu_n (by decide), fu_e, fun i i2 _ _ _ _ => fu_n i2, fun j hj => by omega⟩, F6⟩ ?_ ?_
  · rintro h7 ⟨⟨W7, B7, V7, k7, w0, b2, b7, hx⟩, F7⟩
    refine vm_go rfl bX7_weigh_58 oX7_weigh_58 ⟨fun _ => ?_, fun q => absurd (nI_le (Nat.le_refl _) (by omega)) q⟩
    exact vm_go rfl bX7_weigh_158 oX7_weigh_158 ⟨rfl, ⟨W7, B7, V7, k7, w0, b7, hx⟩, F7⟩
  rintro i h7 _ hi ⟨⟨W7, B7, V7, k7, w0, b2, b7, hx⟩, F7⟩ ih
  have k7 := OP_W k7 1
  have e49 : nI i * 49 = nI (i * 49) := nI_mul i 49
  have e48 : nI i * 48 = nI (i * 48) := nI_mul i 48
  have ect : nI ct + nI i * 49 = nI (ct + 49 * i) := by rw [e49, nI_add, Nat.mul_comm i 49]
  refine vm_go rfl bX7_weigh_58 oX7_weigh_58 ⟨fun q => absurd q (nI_ge hi (by omega)), fun _ => ?_⟩
  refine ⟨_, _, OP_t k7, rfl, ⟨_, OP_ro k7 (j := 1) (by decide), 0, 0, _, o_clear (j := 1) k7 (by decide), Nat.zero_le _, Nat.zero_le _, ?_⟩⟩
  rintro _ h8 ⟨rfl, k8, F8⟩
  have F8 := fr_trans F7 (fr_mono F8 (fun q hq => xr q (Or.inl hq)))
  refine ⟨_, _, OP_t k8, rfl, ⟨_, OP_ro k8 (j := 1) (by decide), 0, 0, _, o_numN (j := 1) (v := 48) (m := 2) k8 (by decide) (by decide) (by decide) (by decide), Nat.zero_le _, Nat.zero_le _, ?_⟩⟩
  rintro _ hx9 ⟨rfl, k9, F9⟩
  have F9 := fr_trans F8 (fr_mono F9 xr)
  have b9 := OP_b k9 (j := 2) (by decide)
  rw [b2] at b9
  refine ⟨_, _, OP_t k9, rfl, ⟨_, _, OP_t k9, rfl, ⟨_, OP_ro k9 (j := 1) (by decide), 0, 0, _, o_all (j := 1) (at9 := 0) (m := 48) k9 (by decide) b9 (by decide) (by decide) (by show _ ≤ 300; rw [List.length_append, nb_len]; decide), Nat.zero_le _, Nat.zero_le _, ?_⟩⟩⟩
  rintro _ h10 ⟨rfl, k10, F10⟩
  have F10 := fr_trans F9 (fr_mono F10 xr)
  rw [hc6] at k10
  refine ⟨_, _, OP_t k10, rfl, ⟨_, OP_ro k10 (j := 1) (by decide), 0, 0, _, o_numN (j := 1) (v := i) (m := 2) k10 (by decide) (by show _ ≤ 300; rw [List.length_append, List.length_append, nb_len, lsd]; decide) (by decide) (by omega), Nat.zero_le _, Nat.zero_le _, ?_⟩⟩
  rintro _ h11 ⟨rfl, k11, F11⟩
  have F11 := fr_trans F10 (fr_mono F11 xr)
  have c11 := fr_bv F11 hc hco
  refine ⟨_, OP_t k11, 0, 0, _, vm_metA (p_elem (at9 := ct + 49 * i) k11 c11 (by omega) hnc (by rw [List.length_append, List.length_append, List.length_append, nb_len, nb_len, lsd]; decide) (n686 _ hco)) (by show [_, _, Value.int (nI (ct + 49 * i))] = [_, _, Value.int (nI ct + nI i * 49)]; rw [ect]), Nat.zero_le _, Nat.zero_le _, ?_⟩
  rintro _ h12 ⟨rfl, k12, F12⟩
  have F12 := fr_trans F11 (fr_mono F12 xe)
  have d12 := fr_bv F12 hd hdo
  refine ⟨_, OP_t k12, 0, 0, _, vm_metA (p_elem (at9 := 49 * i) k12 d12 (by omega) hnd (by rw [List.length_append, List.length_append, List.length_append, List.length_append, List.length_append, nb_len, nb_len, nb_len, sl_len, lsd]; decide) (n686 _ hdo)) (by show [_, _, Value.int (nI (49 * i))] = [_, _, Value.int (nI i * 49)]; rw [e49, Nat.mul_comm]), Nat.zero_le _, Nat.zero_le _, ?_⟩
  rintro _ h13 ⟨rfl, k13, F13⟩
  have F13 := fr_trans F12 (fr_mono F13 xe)
  have ev13 := EV_or ev k0 F13 HS_OR
  refine ⟨_, _, OP_t k13, rfl, ?_⟩
  refine vm_ldw (idx := 269) (id := 1099511627820) (by decide +kernel) (List.mem_of_getElem? (i := 7) rfl) ?_
  refine vm_go rfl bX7_weigh_136 oX7_weigh_136 ⟨_, OP_ro k13 (j := 1) (by decide), 0, 0, _, o_text (j := 1) h9 k13 (by decide) ev13.2.2.2.2.1 (by show _ ≤ 300; rw [List.length_append, List.length_append, List.length_append, List.length_append, List.length_append, List.length_append, List.length_append, nb_len, nb_len, nb_len, sl_len, sl_len, lsd]; decide), Nat.zero_le _, Nat.zero_le _, ?_⟩
  rintro _ h14 ⟨rfl, k14, F14⟩
  rw [sl_gb] at k14
  have F14 := fr_trans F13 (fr_mono F14 xr)
  have ev14 := EV_or ev k0 F14 HS_OR
  refine ⟨_, _, OP_t k14, rfl, ⟨_, OP_t k14, 0, 0, _, vm_metA (p_hts (s := 7) (at9 := i * 48) h9 k14 ev14 (Or.inl rfl) (by show i * 48 + 48 ≤ 384; omega)) (by show [_, _, Value.int (nI (i * 48))] = [_, _, Value.int (nI i * 48)]; rw [e48]; rfl), Nat.zero_le _, Nat.zero_le _, ?_⟩⟩
  rintro _ h15 ⟨rfl, ⟨W15, B15, V15, k15, v0, v1, b15, hw⟩, F15⟩
  have F15 := fr_trans F14 F15
  rw [fu_e] at hw
  refine vm_Th (by rw [← nI_1]; rfl) rfl (ih h15 ⟨⟨W15, B15, V15, k15, ?_, ?_, ?_, ?_⟩, F15⟩)
  · rw [v0, fu_n (by decide), w0]
  · rw [b15 2 (by decide) (by decide) (by decide) (by decide), b2]
  · intro j j2 j3 j4 j5 j7
    rw [b15 j j3 j4 j5 j7, b7 j j2 j3 j4 j5 j7]
  · intro j hj
    rw [hw]
    by_cases e : j = i
    · subst e
      rw [Nat.mul_comm 48 j, wrb_bn (Nat.lt_trans hts_lt cQ_48)]; rfl
    · rw [← hx j (by omega)]
      exact bn_ext 48 (fun q hq => wrb_off (by omega))
theorem p_cha (h9 : f9.category = 1) (k : OPc a h W B V g) (ev : EV st2 kk2 st3 kk3 h) :
    vm_Met (vm_env l O f9) mX7_challenge 0 0 [.ref a] h (fun r h' => r = none ∧ (∃ W' B' V', OPc a h' W' B' V' g ∧ W' 0 = W 0 ∧ (∀ i, i ≠ 3 → i ≠ 4 → i ≠ 5 → i ≠ 8 → B' i = B i) ∧ B' 8 = wrb (B 8) 0 48 (hts st3 kk3 (chl (B 9) 5 ++ tCh))) ∧ fr h h' (HS a)) := by
  have k0 := k.1
  have xr : ∀ q, (q = a + rad 1 ∨ q = a + rad 1 + 1) → HS a q := fun q hq => by
    have hq : q = a + 685 ∨ q = a + 685 + 1 := hq
    unfold HS OR; omega
  have xe : ∀ q, (q = a + 685 ∨ q = a + 686) → HS a q := fun q hq => by unfold HS OR; omega
  have k := OP_W k 1
  refine vm_met rfl (Nat.le_of_ble_eq_true rfl) ?_
  refine vm_go rfl bX7_challenge_0 oX7_challenge_0 ⟨_, _, OP_t k, rfl, ⟨_, OP_ro k (j := 1) (by decide), 0, 0, _, o_clear (j := 1) k (by decide), Nat.zero_le _, Nat.zero_le _, ?_⟩⟩
  rintro _ h1 ⟨rfl, k1, F1⟩
  have F1 := fr_mono F1 (fun q hq => xr q (Or.inl hq))
  refine vm_Th (lv' := [(0, .ref a), (1, .int (nI 0))]) (h' := h1) rfl rfl ?_
  refine vm_loop (fun i h2 => OPc a h2 (fu W 1 (chl (B 9) i)) B V g ∧ fr h h2 (HS a)) 5 (fun i => [(0, .ref a), (1, .int (nI i))]) 0 h1 (by decide) ⟨k1, F1⟩ ?_ ?_
  rotate_left
  · rintro i h2 _ hi ⟨k2, F2⟩ ih
    have e49 : nI i * 49 = nI (i * 49) := nI_mul i 49
    refine vm_go rfl bX7_challenge_9 oX7_challenge_9 ⟨fun q => absurd q (nI_ge (b := 5) hi (by decide)), fun _ => ⟨_, _, OP_t k2, rfl, ⟨_, OP_t k2, 0, 0, _, vm_metA (p_elem (at9 := i * 49) k2 (OP_b k2 (j := 9) (by decide)) (by show i * 49 + 49 ≤ 245; omega) (by decide) (by rw [chl_len]; omega) (by show a + 695 ≠ _; omega)) (by show [_, _, Value.int (nI (i * 49))] = [_, _, Value.int (nI i * 49)]; rw [e49]; rfl), Nat.zero_le _, Nat.zero_le _, ?_⟩⟩⟩
    rintro _ h3 ⟨rfl, k3, F3⟩
    exact vm_Th (by rw [← nI_1]; rfl) rfl (ih h3 ⟨k3, fr_trans F2 (fr_mono F3 xe)⟩)
  rintro h2 ⟨k2, F2⟩
  have ev2 := EV_or ev k0 F2 HS_OR
  refine vm_go rfl bX7_challenge_9 oX7_challenge_9 ⟨fun _ => ?_, fun q => absurd (nI_le (a := 5) (b := 5) (by decide) (by decide)) q⟩
  refine vm_go rfl bX7_challenge_32 oX7_challenge_32 ⟨_, _, OP_t k2, rfl, ?_⟩
  refine vm_ldw (idx := 274) (id := 1099511627824) (by decide +kernel) (List.mem_of_getElem? (i := 9) rfl) ?_
  refine vm_go rfl bX7_challenge_39 oX7_challenge_39 ⟨_, OP_ro k2 (j := 1) (by decide), 0, 0, _, o_text (j := 1) h9 k2 (by decide) ev2.2.2.2.2.2.1 (by show _ ≤ 300; rw [chl_len]; decide), Nat.zero_le _, Nat.zero_le _, ?_⟩
  rintro _ h3 ⟨rfl, k3, F3⟩
  rw [sl_gb] at k3
  have F3 := fr_trans F2 (fr_mono F3 xr)
  have ev3 := EV_or ev k0 F3 HS_OR
  refine ⟨_, _, OP_t k3, rfl, ⟨_, OP_t k3, 0, 0, _, p_hts (s := 8) (at9 := 0) h9 k3 ev3 (Or.inr rfl) (by decide), Nat.zero_le _, Nat.zero_le _, ?_⟩⟩
  rintro _ h4 ⟨rfl, ⟨W4, B4, V4, k4, v0, v1, b4, hw⟩, F4⟩
  rw [fu_e] at hw
  exact ⟨rfl, ⟨W4, B4, V4, k4, v0.trans (fu_n (by decide)), b4, hw⟩, fr_trans F3 F4⟩
theorem p_ans {K ty sz bs sa sh se id mo nse fa nf at9 : Nat} {lv : Int32} {seb b : Nat → Nat} (k : OPc a h W B V g) (hK : KO h K ty sz bs sa sh se id mo lv) (hKo : ¬ OR a K) (hse : bv h nse se seb) (hseo : ¬ OR a se) (hns : 48 ≤ nse) (hns2 : nse < 65536) (hf : bv h nf fa b) (hfo : ¬ OR a fa) (hat : at9 + 48 ≤ nf) (hnf : nf < 65536) (hq1 : bn seb 0 48 < cQ) (hq2 : bn b at9 48 < cQ) :
    vm_Met (vm_env l O f9) mX7_answerChallenge 0 0 [.ref a, .ref K, .ref fa, .int (nI at9)] h (fun r h' => r = none ∧ (∃ V', OPc a h' W (fu B 8 (wrb (B 8) 48 48 ((bn b at9 48 + cQ - bn (B 8) 0 48 * bn seb 0 48 % cQ) % cQ))) V' g) ∧ fr h h' (HS a)) := by
  have k0 := k.1
  have x0 : ∀ t, t < 2 → ∀ q, q = a + 697 + t → HS a q := fun t ht q hq => by unfold HS OR; omega
  have xo : ∀ t, t < 2 → ∀ q, (q = a + 697 + t ∨ (a + 663 ≤ q ∧ q < a + 685)) → HS a q := fun t ht q hq => by unfold HS OR; omega
  have xs : ∀ q, q = a + oad 8 → HS a q := fun q hq => by
    have hq : q = a + 694 := hq
    unfold HS OR; omega
  have nHS : ∀ q, ¬ OR a q → ¬ HS a q := fun q hq z => hq z.1
  refine vm_met rfl (Nat.le_of_ble_eq_true rfl) ?_
  refine vm_go rfl bX7_answerChallenge_0 oX7_answerChallenge_0 ⟨_, _, OP_t k, rfl, ⟨_, _, _, .ref (a + 697 + 0), OP_n k, by decide, rfl, 0, rfl, by decide, rfl, ⟨_, _, OP_t k, rfl, ⟨_, _, _, .ref (a + 697 + 1), OP_n k, by decide, rfl, 1, rfl, by decide, rfl, ⟨_, _, OP_t k, rfl, ⟨0, 0, _, o_read (t := 0) (at9 := 0) (size := 48) k (by decide) (OP_b k (j := 8) (by decide)) (by decide) (by decide), Nat.zero_le _, Nat.zero_le _, ?_⟩⟩⟩⟩⟩⟩
  rintro _ h1 ⟨rfl, k1, F1⟩
  have F1 := fr_mono F1 (x0 0 (by decide))
  refine ⟨_, _, OP_t k1, rfl, ⟨(OP_mo k1).choose, (OP_mo k1).choose_spec, 0, 0, _, o_ent (t := 0) (s := 0) k1 (by decide) (by decide) fu_e (bn_14 (OP_b k1 (j := 8) (by decide)) (by decide)), Nat.zero_le _, Nat.zero_le _, ?_⟩⟩
  rintro _ h2 ⟨rfl, k2, F2⟩
  have F2 := fr_trans F1 (fr_mono F2 (xo 0 (by decide)))
  have hK2 := KO_fr hK F2 (nHS _ hKo)
  have s2 := fr_bv F2 hse (nHS _ hseo)
  rw [fu_fu] at k2
  refine ⟨_, _, hK2, rfl, ⟨0, 0, _, o_read (t := 1) (at9 := 0) (size := 48) k2 (by decide) s2 hns hns2, Nat.zero_le _, Nat.zero_le _, ?_⟩⟩
  rintro _ h3 ⟨rfl, k3, F3⟩
  have F3 := fr_trans F2 (fr_mono F3 (x0 1 (by decide)))
  refine ⟨_, _, OP_t k3, rfl, ⟨(OP_mo k3).choose, (OP_mo k3).choose_spec, 0, 0, _, o_mul (t := 0) (s := 1) k3 (by decide) (by decide) (by rw [fu_n (by decide)]; exact fu_e) fu_e hq1, Nat.zero_le _, Nat.zero_le _, ?_⟩⟩
  rintro _ h4 ⟨rfl, k4, F4⟩
  have F4 := fr_trans F3 (fr_mono F4 (xo 0 (by decide)))
  have f4 := fr_bv F4 hf (nHS _ hfo)
  rw [← Int.natCast_mul, tn_q] at k4
  refine ⟨0, 0, _, o_read (t := 1) (size := 48) k4 (by decide) f4 hat hnf, Nat.zero_le _, Nat.zero_le _, ?_⟩
  rintro _ h5 ⟨rfl, k5, F5⟩
  have F5 := fr_trans F4 (fr_mono F5 (x0 1 (by decide)))
  refine ⟨_, _, OP_t k5, rfl, ⟨(OP_mo k5).choose, (OP_mo k5).choose_spec, 0, 0, _, o_sub (t := 1) (s := 0) k5 (by decide) (by decide) fu_e (by rw [fu_n (by decide)]; exact fu_e) hq2 (Nat.mod_lt _ cQ_pos), Nat.zero_le _, Nat.zero_le _, ?_⟩⟩
  rintro _ h6 ⟨rfl, k6, F6⟩
  have F6 := fr_trans F5 (fr_mono F6 (x0 1 (by decide)))
  refine ⟨_, _, OP_t k6, rfl, ⟨0, 0, _, o_write (t := 1) (s := 8) (at9 := 48) (size := 48) k6 (by decide) (by decide) fu_e (Nat.lt_trans (Nat.mod_lt _ cQ_pos) cQ_14) (by decide), Nat.zero_le _, Nat.zero_le _, ?_⟩⟩
  rintro _ h7 ⟨rfl, k7, F7⟩
  exact ⟨rfl, ⟨_, k7⟩, fr_trans F6 (fr_mono F7 xs)⟩
end
