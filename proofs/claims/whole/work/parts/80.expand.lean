/-! Oprf.expand -/
/-- what expand changes -/
def XS (a q : Nat) : Prop := a + 7 ≤ q ∧ q < a + 12 ∨ a + 687 ≤ q ∧ q < a + 692
theorem XS_OR {a : Nat} : ∀ q, XS a q → OR a q := by
  intro q hq
  unfold XS at hq
  unfold OR
  omega
section
variable {l : Launch} {O : Nat → vm_Ob} {f9 : Value}
theorem s_fillb {h : vm_H} {b n : Nat} {c : Nat → Nat} (hb : bv h n b c) (hn : n < 65536) (hbo : b < 1099511627776) :
    vm_Met (vm_env l O f9) mJ7_fill_031fb 0 0 [.ref b, .int 0] h (fun r h' => r = none ∧ bv h' n b (fun _ => 0) ∧ fr h h' (fun q => q = b)) := by
  refine vm_met rfl (Nat.le_of_ble_eq_true rfl) ?_
  obtain ⟨f, hf, _⟩ := id hb
  refine vm_go rfl bJ7_fill_031fb_0 oJ7_fill_031fb_0 ⟨_, _, hf, by decide, ?_⟩
  refine vm_Th (lv' := [(0, .ref b), (1, .int 0), (2, .int (nI 0)), (3, .int (nI n))]) (h' := h) rfl rfl ?_
  refine vm_loop (fun i h1 => (∃ c', bv h1 n b c' ∧ ∀ j, j < i → c' j = 0) ∧ fr h h1 (fun q => q = b)) n (fun i => [(0, .ref b), (1, .int 0), (2, .int (nI i)), (3, .int (nI n))]) 0 h (Nat.zero_le _) ⟨⟨c, hb, fun j hj => by omega⟩, fr_refl⟩ ?_ ?_
  · rintro h1 ⟨⟨c', ⟨f1, e1, v1⟩, z1⟩, F1⟩
    refine vm_go rfl bJ7_fill_031fb_5 oJ7_fill_031fb_5 ⟨fun _ => ?_, fun q => absurd (nI_le (Nat.le_refl _) (by omega)) q⟩
    refine vm_go rfl bJ7_fill_031fb_20 oJ7_fill_031fb_20 ⟨rfl, ⟨f1, e1, fun j hj => ?_⟩, F1⟩
    have := v1 j hj
    rw [z1 j hj] at this
    exact this
  · rintro i h1 _ hi ⟨⟨c', ⟨f1, e1, v1⟩, z1⟩, F1⟩ ih
    refine vm_go rfl bJ7_fill_031fb_5 oJ7_fill_031fb_5 ⟨fun q => absurd q (nI_ge hi (by omega)), fun _ => ⟨n, f1, e1, hbo, i, rfl, hi, ?_⟩⟩
    generalize hq2 : vm_up h1 b _ = h2
    refine vm_Th (by rw [← nI_1]; rfl) rfl (ih h2 ⟨⟨b1 c' i 0, ?_, fun j hj => ?_⟩, ?_⟩)
    · rw [← hq2]
      exact bv_up (v := 0) v1 (by decide)
    · unfold b1
      split
      · rfl
      · exact z1 j (by omega)
    · rw [← hq2]; exact fr_trans F1 (fr_up rfl)
end
theorem st_o {h : vm_H} {s n : Nat} {c : Nat → Nat} (k : sto h s n c) : ∃ fs : List Value, h.2 s = .inr (500, fs) := by
  obtain ⟨_, v, _, e, _⟩ := k
  exact ⟨_, e⟩
theorem sto_or {h h' : vm_H} {s n a : Nat} {c : Nat → Nat} {S : Nat → Prop} (k : sto h s n c) (ha : a + 1000 < 1099511627776) (F : fr h h' S) (hS : ∀ q, S q → OR a q) : sto h' s n c := sto_fr k (fun q hq => F.2 q (fun z => by have := hS q z; unfold OR at this; omega))
theorem iZ_n {n : Nat} : iZ (n : Int) = nI n := (iZ_nI n).symm
section
variable {l : Launch} {O : Nat → vm_Ob} {f9 : Value} {a : Nat} {h : vm_H} {W : Nat → List Nat} {B : Nat → Nat → Nat} {V : Nat → Option Nat} {g : og} {st2 kk2 : Nat → Int32} {st3 kk3 : Nat → Int64}
theorem o_numN {j m v : Nat} {w : List Nat} (k : OPc a h (fu W j w) B V g) (hj : j < 3) (hs : w.length + m ≤ rln j) (hm : m ≤ 4) (h2 : v < 65536) : vm_Met (vm_env l O f9) mX9_putNumber 0 0 [.ref (a + rad j), .int (nI v), .int (nI m)] h (fun r h' => r = none ∧ OPc a h' (fu W j (w ++ nb v m)) B V g ∧ fr h h' (fun q => q = a + rad j ∨ q = a + rad j + 1)) := by
  rw [← iZ_n (n := v)]
  exact o_numb k hj hs hm (by omega) (by omega)
theorem fr_o {h' : vm_H} {S S' : Nat → Prop} (F : fr h h' S) (hS : ∀ q, S q → S' q) : fr h h' S' := fr_mono F hS
set_option maxHeartbeats 1000000 in
theorem p_exp {t many n : Nat} {tag : List Nat} (h9 : f9.category = 1) (k : OPc a h W B V g) (ev : EV st2 kk2 st3 kk3 h) (ht : sto h t tag.length (gb tag)) (htl : tag.length < 100) (htg : ok8 tag) (hm : many < 65536) (hn : n ≤ 3) (hnm : ∀ i, i ≤ n → (i * 48 < many ↔ i < n)) (hw : (W 1).length ≤ 300) :
    vm_Met (vm_env l O f9) mX7_expand 0 0 [.ref a, .ref t, .int (nI many)] h (fun r h' => r = none ∧ (∃ W' B', OPc a h' W' B' V g ∧ W' 0 = W 0 ∧ W' 1 = W 1 ∧ (∀ i, i ≠ 3 → i ≠ 4 → i ≠ 5 → B' i = B i) ∧ sl (B' 5) 0 (48 * n) = xpd st3 kk3 tag (W 1) many n) ∧ fr h h' (XS a)) := by
  have k0 := k.1
  have x2 : ∀ q, (q = a + rad 2 ∨ q = a + rad 2 + 1) → XS a q := fun q hq => by
    have hq : q = a + 687 ∨ q = a + 687 + 1 := hq
    unfold XS; omega
  have x1 : ∀ q, (q = a + rad 2) → XS a q := fun q hq => x2 q (Or.inl hq)
  have xh : ∀ q, ((a + 7 ≤ q ∧ q < a + 12) ∨ q = a + oad 3) → XS a q := fun q hq => by
    have hq : (a + 7 ≤ q ∧ q < a + 12) ∨ q = a + 689 := hq
    unfold XS; omega
  have xh4 : ∀ q, ((a + 7 ≤ q ∧ q < a + 12) ∨ q = a + oad 4) → XS a q := fun q hq => by
    have hq : (a + 7 ≤ q ∧ q < a + 12) ∨ q = a + 690 := hq
    unfold XS; omega
  have x4 : ∀ q, q = a + oad 4 → XS a q := fun q hq => xh4 q (Or.inr hq)
  have x5 : ∀ q, q = a + oad 5 → XS a q := fun q hq => by
    have hq : q = a + 691 := hq
    unfold XS; omega
  have k := OP_W k 2
  refine vm_met rfl (Nat.le_of_ble_eq_true rfl) ?_
  refine vm_go rfl bX7_expand_0 oX7_expand_0 ⟨_, _, OP_t k, rfl, ⟨_, OP_ro k (j := 2) (by decide), 0, 0, _, o_clear (j := 2) k (by decide), Nat.zero_le _, Nat.zero_le _, ?_⟩⟩
  rintro _ h1 ⟨rfl, k1, F1⟩
  have F1 := fr_mono F1 x1
  refine vm_Th (lv' := [(0, .ref a), (1, .ref t), (2, .int (nI many)), (3, .int (nI 0))]) (h' := h1) rfl rfl ?_
  refine vm_loop (fun i h2 => OPc a h2 (fu W 2 (List.replicate i 0)) B V g ∧ fr h h2 (XS a)) 128 (fun i => [(0, .ref a), (1, .ref t), (2, .int (nI many)), (3, .int (nI i))]) 0 h1 (by decide) ⟨k1, F1⟩ ?_ ?_
  rotate_left
  · rintro i h2 _ hi ⟨k2, F2⟩ ih
    refine vm_go rfl bX7_expand_9 oX7_expand_9 ⟨fun q => absurd q (nI_ge (b := 128) hi (by decide)), fun _ => ⟨_, _, OP_t k2, rfl, ⟨_, OP_ro k2 (j := 2) (by decide), 0, 0, _, o_byte (j := 2) (v := 0) k2 (by decide) (by show _ < 600; rw [List.length_replicate]; omega) (by decide) (by decide), Nat.zero_le _, Nat.zero_le _, ?_⟩⟩⟩
    rintro _ h3 ⟨rfl, k3, F3⟩
    rw [rep_s] at k3
    exact vm_Th (by rw [← nI_1]; rfl) rfl (ih h3 ⟨k3, fr_trans F2 (fr_mono F3 x2)⟩)
  rintro h2 ⟨k2, F2⟩
  refine vm_go rfl bX7_expand_9 oX7_expand_9 ⟨fun _ => ?_, fun q => absurd (nI_le (a := 128) (b := 128) (by decide) (by decide)) q⟩
  clear k1 F1
  have ht2 := sto_or ht k0 F2 XS_OR
  obtain ⟨mb, mr, ml⟩ := id (OP_w k2 (j := 1) (by decide))
  have mr : row h2 (a + rad 1) (a + rad 1 + 1) 300 mb (W 1).length := mr
  have ml : sl mb 0 (W 1).length = W 1 := ml
  refine vm_go rfl bX7_expand_30 oX7_expand_30 ⟨_, _, OP_t k2, rfl, ⟨_, _, OP_t k2, rfl, ⟨_, _, OP_ro k2 (j := 1) (by decide), rfl, ⟨_, _, OP_t k2, rfl, ⟨_, _, OP_ro k2 (j := 1) (by decide), rfl, ⟨_, OP_ro k2 (j := 2) (by decide), 0, 0, _, o_all (j := 2) (at9 := 0) (m := (W 1).length) k2 (by decide) mr.2.1 (by have := mr.2.2.1; omega) (by decide) (by show _ ≤ 600; rw [List.length_replicate]; omega), Nat.zero_le _, Nat.zero_le _, ?_⟩⟩⟩⟩⟩⟩
  rintro _ h3 ⟨rfl, k3, F3⟩
  rw [ml] at k3
  have F3 := fr_trans F2 (fr_mono F3 x2)
  have ht3 := sto_or ht k0 F3 XS_OR
  refine ⟨_, _, OP_t k3, rfl, ⟨_, OP_ro k3 (j := 2) (by decide), 0, 0, _, o_numN (j := 2) (m := 2) (v := many) k3 (by decide) (by show _ ≤ 600; rw [List.length_append, List.length_replicate]; omega) (by decide) hm, Nat.zero_le _, Nat.zero_le _, ?_⟩⟩
  rintro _ h4 ⟨rfl, k4, F4⟩
  have F4 := fr_trans F3 (fr_mono F4 x2)
  refine ⟨_, _, OP_t k4, rfl, ⟨_, OP_ro k4 (j := 2) (by decide), 0, 0, _, o_byte (j := 2) (v := 0) k4 (by decide) (by show _ < 600; rw [List.length_append, List.length_append, List.length_replicate, nb_len]; omega) (by decide) (by decide), Nat.zero_le _, Nat.zero_le _, ?_⟩⟩
  rintro _ h5 ⟨rfl, k5, F5⟩
  have F5 := fr_trans F4 (fr_mono F5 x2)
  have ht5 := sto_or ht k0 F5 XS_OR
  refine ⟨_, _, OP_t k5, rfl, ⟨_, OP_ro k5 (j := 2) (by decide), 0, 0, _, o_text (j := 2) h9 k5 (by decide) ht5 (by show _ ≤ 600; rw [List.length_append, List.length_append, List.length_append, List.length_replicate, nb_len]; show 128 + (W 1).length + 2 + 1 + tag.length ≤ 600; omega), Nat.zero_le _, Nat.zero_le _, ?_⟩⟩
  rintro _ h6 ⟨rfl, k6, F6⟩
  rw [sl_gb] at k6
  have F6 := fr_trans F5 (fr_mono F6 x2)
  have ht6 := sto_or ht k0 F6 XS_OR
  refine ⟨_, _, OP_t k6, rfl, ⟨(st_o ht6).choose, (st_o ht6).choose_spec, 0, 0, _, s_len (sto_s ht6) (by omega), Nat.zero_le _, Nat.zero_le _, ?_⟩⟩
  rintro _ h7 ⟨rfl, rfl⟩
  refine ⟨_, OP_ro k6 (j := 2) (by decide), 0, 0, _, o_byte (j := 2) (v := tag.length) k6 (by decide) (by show _ < 600; rw [List.length_append, List.length_append, List.length_append, List.length_append, List.length_replicate, nb_len]; show 128 + (W 1).length + 2 + 1 + tag.length < 600; omega) (by omega) (by rw [sb_nI, Nat.mod_eq_of_lt (by omega)]), Nat.zero_le _, Nat.zero_le _, ?_⟩
  rintro _ h8 ⟨rfl, k8, F8⟩
  have F8 := fr_trans F6 (fr_mono F8 x2)
  have ev8 := EV_or ev k0 F8 XS_OR
  refine ⟨_, _, OP_t k8, rfl, ⟨_, _, OP_t k8, rfl, ⟨_, _, OP_t k8, rfl, ⟨_, (OP_H k8).1, 0, 0, _, o_h3 (j := 2) (t := 3) k8 ev8.1 (by decide) (by decide), Nat.zero_le _, Nat.zero_le _, ?_⟩⟩⟩⟩
  rintro _ hx9 ⟨rfl, ⟨c0, k9, hc0, _⟩, F9⟩
  rw [fu_e] at hc0
  have hc0 : sl c0 0 48 = xb0 st3 kk3 tag (W 1) many := hc0
  have F9 := fr_trans F8 (fr_mono F9 xh)
  refine ⟨_, _, OP_t k9, rfl, ⟨0, 0, _, s_fillb (OP_b k9 (j := 4) (by decide)) (by decide) (by show a + 690 < _; omega), Nat.zero_le _, Nat.zero_le _, ?_⟩⟩
  rintro _ h10 ⟨rfl, b10, F10⟩
  have k10 := OP_byt k9 (t := 4) (by decide) F10 b10
  have F10 := fr_trans F9 (fr_mono F10 x4)
  have hl0 : sl (fun _ => 0) 0 48 = xl st3 kk3 tag (xb0 st3 kk3 tag (W 1) many) 0 := by
    show sl _ 0 48 = List.replicate 48 0
    decide
  generalize hB0 : xb0 st3 kk3 tag (W 1) many = b0 at *
  refine vm_Th (lv' := [(0, .ref a), (1, .ref t), (2, .int (nI many)), (3, .int (nI 0))]) (h' := h10) rfl rfl ?_
  refine vm_loop (fun i h2 => (∃ w cl ce, OPc a h2 (fu W 2 w) (fu (fu (fu B 3 c0) 4 cl) 5 ce) V g ∧ sl cl 0 48 = xl st3 kk3 tag b0 i ∧ sl ce 0 (48 * i) = xc st3 kk3 tag b0 i) ∧ fr h h2 (XS a)) n (fun i => [(0, .ref a), (1, .ref t), (2, .int (nI many)), (3, .int (nI i))]) 0 h10 (Nat.zero_le _) ⟨⟨_, _, B 5, by have := OP_B k10 5; exact this, hl0, rfl⟩, F10⟩ ?_ ?_
  · rintro h11 ⟨⟨w, cl, ce, k11, hcl, hce⟩, F11⟩
    have e48 : nI n * 48 = nI (n * 48) := nI_mul n 48
    refine vm_go rfl bX7_expand_113 oX7_expand_113 ⟨fun _ => ?_, fun q => absurd (show nI many ≤ nI n * 48 by rw [e48]; exact nI_le (by have := hnm n (Nat.le_refl _); omega) (by omega)) q⟩
    refine vm_go rfl bX7_expand_234 oX7_expand_234 ⟨rfl, ⟨_, _, k11, fu_n (by decide), fu_n (by decide), fun i h3 h4 h5 => by rw [fu_n h5, fu_n h4, fu_n h3], ?_⟩, F11⟩
    rw [fu_e, hce]
    show _ = xc st3 kk3 tag (xb0 st3 kk3 tag (W 1) many) n
    rw [hB0]
  rintro i h11 _ hi ⟨⟨w, cl, ce, k11, hcl, hce⟩, F11⟩ ih
  have e48 : nI i * 48 = nI (i * 48) := nI_mul i 48
  have him : i * 48 < many := (hnm i (by omega)).mpr hi
  refine vm_go rfl bX7_expand_113 oX7_expand_113 ⟨fun q => absurd (show nI many ≤ nI i * 48 from q) (by rw [e48]; exact nI_ge him (by omega)), fun _ => ⟨_, _, OP_t k11, rfl, ⟨_, OP_ro k11 (j := 2) (by decide), 0, 0, _, o_clear (j := 2) k11 (by decide), Nat.zero_le _, Nat.zero_le _, ?_⟩⟩⟩
  rintro _ h12 ⟨rfl, k12, F12⟩
  have F12 := fr_trans F11 (fr_mono F12 x1)
  have hB3 : fu (fu (fu B 3 c0) 4 cl) 5 ce 3 = c0 := by rw [fu_n (by decide), fu_n (by decide), fu_e]
  have hB4 : fu (fu (fu B 3 c0) 4 cl) 5 ce 4 = cl := by rw [fu_n (by decide), fu_e]
  refine vm_Th (lv' := [(0, .ref a), (1, .ref t), (2, .int (nI many)), (3, .int (nI i)), (4, .int (nI 0))]) (h' := h12) rfl rfl ?_
  refine vm_loop (fun j h2 => OPc a h2 (fu W 2 (sl (fun j => gb b0 j ^^^ gb (xl st3 kk3 tag b0 i) j) 0 j)) (fu (fu (fu B 3 c0) 4 cl) 5 ce) V g ∧ fr h h2 (XS a)) 48 (fun j => [(0, .ref a), (1, .ref t), (2, .int (nI many)), (3, .int (nI i)), (4, .int (nI j))]) 0 h12 (by decide) ⟨k12, F12⟩ ?_ ?_
  rotate_left
  · rintro j h2 _ hj ⟨k2, F2⟩ ih2
    obtain ⟨f3, e3, v3⟩ := OP_b k2 (j := 3) (by decide)
    obtain ⟨f4, e4, v4⟩ := OP_b k2 (j := 4) (by decide)
    have v3 := v3 j hj
    have v4 := v4 j hj
    rw [hB3] at v3
    rw [hB4] at v4
    have z3 : c0 j = gb b0 j := by have := sl_all hc0 j hj; rwa [Nat.zero_add] at this
    have z4 : cl j = gb (xl st3 kk3 tag b0 i) j := by have := sl_all hcl j hj; rwa [Nat.zero_add] at this
    rw [z3] at v3
    rw [z4] at v4
    refine vm_go rfl bX7_expand_131 oX7_expand_131 ⟨fun q => absurd q (nI_ge (b := 48) hj (by decide)), fun _ => ⟨_, _, OP_t k2, rfl, ⟨_, _, OP_t k2, rfl, ⟨_, f3, e3, j, rfl, hj, fun _ => ⟨_, _, OP_t k2, rfl, ⟨_, f4, e4, j, rfl, hj, fun _ => ⟨_, OP_ro k2 (j := 2) (by decide), 0, 0, _, o_byte (j := 2) (v := gb b0 j ^^^ gb (xl st3 kk3 tag b0 i) j) k2 (by decide) (by show _ < 600; rw [sl_len]; omega) (xor_lt v3.2 v4.2) (by rw [v3.1, v4.1]; exact xor_b), Nat.zero_le _, Nat.zero_le _, ?_⟩⟩⟩⟩⟩⟩⟩
    rintro _ h3 ⟨rfl, k3, F3⟩
    have es : sl (fun j => gb b0 j ^^^ gb (xl st3 kk3 tag b0 i) j) 0 j ++ [gb b0 j ^^^ gb (xl st3 kk3 tag b0 i) j] = sl (fun j => gb b0 j ^^^ gb (xl st3 kk3 tag b0 i) j) 0 (j + 1) := by
      rw [sl_app, sl_1, Nat.zero_add]
    rw [es] at k3
    exact vm_Th (by rw [← nI_1]; rfl) rfl (ih2 h3 ⟨k3, fr_trans F2 (fr_mono F3 x2)⟩)
  rintro h13 ⟨k13, F13⟩
  refine vm_go rfl bX7_expand_131 oX7_expand_131 ⟨fun _ => ?_, fun q => absurd (nI_le (a := 48) (b := 48) (by decide) (by decide)) q⟩
  have k13 : OPc a h13 (fu W 2 (lx b0 (xl st3 kk3 tag b0 i))) (fu (fu (fu B 3 c0) 4 cl) 5 ce) V g := k13
  have lxl : (lx b0 (xl st3 kk3 tag b0 i)).length = 48 := sl_len
  have i1 : nI i + 1 = nI (i + 1) := by rw [nI_1]
  refine vm_go rfl bX7_expand_166 oX7_expand_166 ⟨_, _, OP_t k13, rfl, ⟨_, OP_ro k13 (j := 2) (by decide), 0, 0, _, o_byte (j := 2) (v := i + 1) k13 (by decide) (by show _ < 600; omega) (by omega) (by show (nI i + 1).toInt8.toInt32 = _; rw [i1, sb_nI, Nat.mod_eq_of_lt (by omega)]), Nat.zero_le _, Nat.zero_le _, ?_⟩⟩
  rintro _ h14 ⟨rfl, k14, F14⟩
  have F14 := fr_trans F13 (fr_mono F14 x2)
  have ht14 := sto_or ht k0 F14 XS_OR
  refine ⟨_, _, OP_t k14, rfl, ⟨_, OP_ro k14 (j := 2) (by decide), 0, 0, _, o_text (j := 2) h9 k14 (by decide) ht14 (by show _ ≤ 600; rw [List.length_append, lxl]; show 48 + 1 + tag.length ≤ 600; omega), Nat.zero_le _, Nat.zero_le _, ?_⟩⟩
  rintro _ h15 ⟨rfl, k15, F15⟩
  rw [sl_gb] at k15
  have F15 := fr_trans F14 (fr_mono F15 x2)
  have ht15 := sto_or ht k0 F15 XS_OR
  refine ⟨_, _, OP_t k15, rfl, ⟨(st_o ht15).choose, (st_o ht15).choose_spec, 0, 0, _, s_len (sto_s ht15) (by omega), Nat.zero_le _, Nat.zero_le _, ?_⟩⟩
  rintro _ h16 ⟨rfl, rfl⟩
  refine ⟨_, OP_ro k15 (j := 2) (by decide), 0, 0, _, o_byte (j := 2) (v := tag.length) k15 (by decide) (by show _ < 600; rw [List.length_append, List.length_append, lxl]; show 48 + 1 + tag.length < 600; omega) (by omega) (by rw [sb_nI, Nat.mod_eq_of_lt (by omega)]), Nat.zero_le _, Nat.zero_le _, ?_⟩
  rintro _ h17 ⟨rfl, k17, F17⟩
  have F17 := fr_trans F15 (fr_mono F17 x2)
  have ev17 := EV_or ev k0 F17 XS_OR
  refine ⟨_, _, OP_t k17, rfl, ⟨_, _, OP_t k17, rfl, ⟨_, _, OP_t k17, rfl, ⟨_, (OP_H k17).1, 0, 0, _, o_h3 (j := 2) (t := 4) k17 ev17.1 (by decide) (by decide), Nat.zero_le _, Nat.zero_le _, ?_⟩⟩⟩⟩
  rintro _ h18 ⟨rfl, ⟨c4, k18, hc4, _⟩, F18⟩
  rw [fu_e] at hc4
  have hc4 : sl c4 0 48 = xl st3 kk3 tag b0 (i + 1) := hc4
  have F18 := fr_trans F17 (fr_mono F18 xh4)
  obtain ⟨fl, el, vl⟩ := OP_b k18 (j := 4) (by decide)
  obtain ⟨fe, ee, ve⟩ := OP_b k18 (j := 5) (by decide)
  have B4 : fu (fu (fu (fu B 3 c0) 4 cl) 5 ce) 4 c4 4 = c4 := fu_e
  have B5 : fu (fu (fu (fu B 3 c0) 4 cl) 5 ce) 4 c4 5 = ce := by rw [fu_n (by decide), fu_e]
  rw [B4] at vl
  rw [B5] at ve
  refine ⟨_, _, OP_t k18, rfl, ⟨_, _, OP_t k18, rfl, ⟨48, i * 48, 0, 48, 144, rfl, e48, rfl, by decide, by omega, by show a + 691 < _; omega, fl, fe, el, ee, ?_⟩⟩⟩
  generalize hq19 : vm_up h18 (a + 691) _ = h19
  have b19 : bv h19 (oln 5) (a + oad 5) (app ce (i * 48) c4 48) := by
    show bv h19 144 (a + 691) _
    rw [← hq19]
    refine ⟨_, vm_upe, fun j hj => ?_⟩
    unfold va_cpy app
    by_cases e : i * 48 ≤ j ∧ j < i * 48 + 48
    · rw [if_pos e, if_pos e, Nat.zero_add]
      have : j - i * 48 < 48 := by omega
      exact vl (j - i * 48) this
    · rw [if_neg e, if_neg e]; exact ve j hj
  have F19 : fr h18 h19 (fun q => q = a + oad 5) := by rw [← hq19]; exact fr_up rfl
  clear hq19
  have k19 := OP_byt k18 (t := 5) (by decide) F19 b19
  have F19 := fr_trans F18 (fr_mono F19 x5)
  have eB : fu (fu (fu (fu (fu B 3 c0) 4 cl) 5 ce) 4 c4) 5 (app ce (i * 48) c4 48) = fu (fu (fu B 3 c0) 4 c4) 5 (app ce (i * 48) c4 48) := by
    rw [fu_cm (k := 5) (m := 4) (by decide), fu_fu, fu_fu]
  rw [eB] at k19
  refine vm_less [0, 1, 2, 3] rfl ?_
  refine vm_Th ?_ rfl (ih h19 ⟨⟨_, _, _, k19, hc4, ?_⟩, F19⟩)
  · rw [← i1]; rfl
  · show _ = xc st3 kk3 tag b0 i ++ xl st3 kk3 tag b0 (i + 1)
    rw [show 48 * (i + 1) = 48 * i + 48 by omega, sl_app, ← hce, ← hc4, Nat.zero_add, Nat.mul_comm 48 i, sl_app_lo, sl_app_hi]
end
