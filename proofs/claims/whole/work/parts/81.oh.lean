/-! Oprf: hashToScalar, hashToGroup, makeOutput, weigh, challenge -/
/-- places that hashing to numbers changes: not the answer's bytes, not what is asked -/
def HS (a q : Nat) : Prop := OR a q ∧ q ≠ a + 5 ∧ q ≠ a + 692
theorem HS_OR {a : Nat} : ∀ q, HS a q → OR a q := fun _ h => h.1
theorem XS_HS {a : Nat} : ∀ q, XS a q → HS a q := by
  intro q hq
  unfold XS at hq
  unfold HS OR
  omega
theorem CR_HS {a : Nat} : ∀ q, CR a q → HS a q := by
  intro q hq
  unfold CR at hq
  unfold HS OR
  omega
def hts (st kk : Nat → Int64) (msg : List Nat) : Nat := bn (gb (xpd st kk tgS msg 72 2)) 0 72 % cQ
noncomputable def htg (st kk : Nat → Int64) (inp : List Nat) : Option (fq × fq) := ecA (-3) fiv (some (mapF (fz (bn (gb (xpd st kk tgG inp 144 3)) 0 72 : Nat)))) (some (mapF (fz (bn (gb (xpd st kk tgG inp 144 3)) 72 72 : Nat))))
theorem tgS_ok : ok8 tgS := by unfold ok8; decide
theorem tgG_ok : ok8 tgG := by unfold ok8; decide
theorem cQ_pos : 0 < cQ := by decide +kernel
theorem cQ_14 : cQ < 268435456 ^ 14 := by decide +kernel
theorem cQ_48 : cQ < 256 ^ 48 := by decide +kernel
theorem tn_q {n : Nat} : ((n : Int) % (cQ : Int)).toNat = n % cQ := by
  rw [← Int.natCast_emod]; exact Int.toNat_natCast _
section
variable {l : Launch} {O : Nat → vm_Ob} {f9 : Value} {a : Nat} {h : vm_H} {W : Nat → List Nat} {B : Nat → Nat → Nat} {V : Nat → Option Nat} {g : og} {st2 kk2 : Nat → Int32} {st3 kk3 : Nat → Int64}
theorem OP_wl (k : OPc a h W B V g) {j : Nat} (hj : j < 3) : (W j).length ≤ rln j := by
  obtain ⟨b, r, _⟩ := OP_w k hj
  exact r.2.2.1
theorem p_hts {s at9 : Nat} (h9 : f9.category = 1) (k : OPc a h W B V g) (ev : EV st2 kk2 st3 kk3 h) (hs : s = 7 ∨ s = 8) (hat : at9 + 48 ≤ oln s) :
    vm_Met (vm_env l O f9) mX7_hashToScalar 0 0 [.ref a, .ref (a + oad s), .int (nI at9)] h (fun r h' => r = none ∧ (∃ W' B' V', OPc a h' W' B' V' g ∧ W' 0 = W 0 ∧ W' 1 = W 1 ∧ (∀ i, i ≠ 3 → i ≠ 4 → i ≠ 5 → i ≠ s → B' i = B i) ∧ B' s = wrb (B s) at9 48 (hts st3 kk3 (W 1))) ∧ fr h h' (HS a)) := by
  have k0 := k.1
  have hs10 : s < 10 := by omega
  have ho := oad_c hs10
  have os : oln s ≤ 384 := by rcases hs with rfl | rfl <;> decide
  have xo : ∀ q, (q = a + 697 + 0 ∨ (a + 663 ≤ q ∧ q < a + 685)) → HS a q := fun q hq => by unfold HS OR; omega
  have xs : ∀ q, q = a + oad s → HS a q := fun q hq => by unfold HS OR; omega
  refine vm_met rfl (Nat.le_of_ble_eq_true rfl) ?_
  refine vm_go rfl bX7_hashToScalar_0 oX7_hashToScalar_0 ?_
  refine vm_ldw (idx := 276) (id := 1099511627822) (by decide +kernel) (List.mem_of_getElem? (i := 8) rfl) ?_
  refine vm_go rfl bX7_hashToScalar_4 oX7_hashToScalar_4 ⟨_, OP_t k, 0, 0, _, p_exp (tag := tgS) (n := 2) (many := 72) h9 k ev ev.2.2.1 (by decide) tgS_ok (by decide) (by decide) (by intro i hi; omega) (OP_wl k (by decide)), Nat.zero_le _, Nat.zero_le _, ?_⟩
  rintro _ h1 ⟨rfl, ⟨W1, B1, k1, w0, w1, b1, hx⟩, F1⟩
  have F1 := fr_mono F1 XS_HS
  have e1 : bn (B1 5) 0 72 = bn (gb (xpd st3 kk3 tgS (W 1) 72 2)) 0 72 := bn_ext 72 (fun j hj => by
    have := sl_all hx j (by omega)
    rw [Nat.zero_add] at this ⊢
    exact this)
  refine ⟨_, _, OP_t k1, rfl, ⟨_, _, OP_t k1, rfl, ⟨_, _, OP_t k1, rfl, ⟨_, _, _, .ref (a + 697 + 0), OP_n k1, by decide, rfl, 0, rfl, by decide, rfl, ⟨(OP_mo k1).choose, (OP_mo k1).choose_spec, 0, 0, _, o_entw (t := 0) (at9 := 0) k1 (by decide) (OP_b k1 (j := 5) (by decide)) (by decide) (by decide), Nat.zero_le _, Nat.zero_le _, ?_⟩⟩⟩⟩⟩
  rintro _ h2 ⟨rfl, k2, F2⟩
  have F2 := fr_trans F1 (fr_mono F2 xo)
  refine ⟨_, _, OP_t k2, rfl, ⟨_, _, OP_t k2, rfl, ⟨_, _, _, .ref (a + 697 + 0), OP_n k2, by decide, rfl, 0, rfl, by decide, rfl, ⟨_, _, OP_t k2, rfl, ⟨_, _, _, .ref (a + 697 + 0), OP_n k2, by decide, rfl, 0, rfl, by decide, rfl, ⟨(OP_mo k2).choose, (OP_mo k2).choose_spec, 0, 0, _, o_lev (t := 0) (s := 0) k2 (by decide) (by decide) fu_e, Nat.zero_le _, Nat.zero_le _, ?_⟩⟩⟩⟩⟩⟩
  rintro _ h3 ⟨rfl, k3, F3⟩
  have F3 := fr_trans F2 (fr_mono F3 xo)
  rw [tn_q, e1] at k3
  refine ⟨_, _, OP_t k3, rfl, ⟨_, _, _, .ref (a + 697 + 0), OP_n k3, by decide, rfl, 0, rfl, by decide, rfl, ⟨0, 0, _, o_write (t := 0) (s := s) (v := hts st3 kk3 (W 1)) k3 (by decide) hs10 fu_e (Nat.lt_trans (Nat.mod_lt _ cQ_pos) cQ_14) hat, Nat.zero_le _, Nat.zero_le _, ?_⟩⟩⟩
  rintro _ h4 ⟨rfl, k4, F4⟩
  have F4 := fr_trans F3 (fr_mono F4 xs)
  refine ⟨rfl, ⟨_, _, _, k4, w0, w1, fun i i3 i4 i5 is => ?_, ?_⟩, F4⟩
  · rw [fu_n is]; exact b1 i i3 i4 i5
  · rw [fu_e, b1 s (by omega) (by omega) (by omega)]
theorem p_htg {fa n : Nat} {b : Nat → Nat} (h9 : f9.category = 1) (k : OPc a h W B V g) (ev : EV st2 kk2 st3 kk3 h) (hb : bv h n fa b) (hn : 98 ≤ n) (hn2 : n < 65536) (hfa : ¬ OR a fa) :
    vm_Met (vm_env l O f9) mX7_hashToGroup 0 0 [.ref a, .ref fa] h (fun r h' => r = none ∧ (∃ W' B' V' g', OPc a h' W' B' V' g' ∧ W' 0 = W 0 ∧ (∀ i, i ≠ 3 → i ≠ 4 → i ≠ 5 → B' i = B i) ∧ g'.1 = g.1 ∧ g'.2 0 = some (htg st3 kk3 (sl b 0 98)) ∧ g'.2 2 = g.2 2) ∧ fr h h' (HS a)) := by
  have k0 := k.1
  have xr : ∀ q, (q = a + rad 1 ∨ q = a + rad 1 + 1) → HS a q := fun q hq => by
    have hq : q = a + 685 ∨ q = a + 685 + 1 := hq
    unfold HS OR; omega
  have xc' : ∀ q, (CR a q ∨ q = a + 697 + 0) → HS a q := fun q hq => by unfold CR at hq; unfold HS OR; omega
  have k := OP_W k 1
  refine vm_met rfl (Nat.le_of_ble_eq_true rfl) ?_
  refine vm_go rfl bX7_hashToGroup_0 oX7_hashToGroup_0 ⟨_, _, OP_t k, rfl, ⟨_, OP_ro k (j := 1) (by decide), 0, 0, _, o_clear (j := 1) k (by decide), Nat.zero_le _, Nat.zero_le _, ?_⟩⟩
  rintro _ h1 ⟨rfl, k1, F1⟩
  have F1 := fr_mono F1 (fun q hq => xr q (Or.inl hq))
  have b1 := fr_bv F1 hb (fun z => hfa z.1)
  refine ⟨_, _, OP_t k1, rfl, ⟨_, OP_ro k1 (j := 1) (by decide), 0, 0, _, o_all (j := 1) (at9 := 0) (m := 98) k1 (by decide) b1 (by omega) hn2 (by decide), Nat.zero_le _, Nat.zero_le _, ?_⟩⟩
  rintro _ h2 ⟨rfl, k2, F2⟩
  have F2 := fr_trans F1 (fr_mono F2 xr)
  have k2 : OPc a h2 (fu W 1 (sl b 0 98)) B V g := k2
  have ev2 := EV_or ev k0 F2 HS_OR
  have w98 : (fu W 1 (sl b 0 98)) 1 = sl b 0 98 := fu_e
  refine ?_
  refine vm_ldw (idx := 285) (id := 1099511627816) (by decide +kernel) (List.mem_of_getElem? (i := 5) rfl) ?_
  refine vm_go rfl bX7_hashToGroup_22 oX7_hashToGroup_22 ⟨_, OP_t k2, 0, 0, _, p_exp (tag := tgG) (n := 3) (many := 144) h9 k2 ev2 ev2.2.1 (by decide) tgG_ok (by decide) (by decide) (by intro i hi; omega) (by rw [w98, sl_len]; decide), Nat.zero_le _, Nat.zero_le _, ?_⟩
  rintro _ h3 ⟨rfl, ⟨W3, B3, k3, w0, w1, b3, hx⟩, F3⟩
  rw [w98] at hx
  have F3 := fr_trans F2 (fr_mono F3 XS_HS)
  have e1 : ∀ at9, at9 + 72 ≤ 144 → bn (B3 5) at9 72 = bn (gb (xpd st3 kk3 tgG (sl b 0 98) 144 3)) at9 72 := fun at9 hat => bn_ext 72 (fun j hj => by
    have := sl_all hx (at9 + j) (by omega)
    rw [Nat.zero_add] at this
    exact this)
  refine ⟨_, _, OP_t k3, rfl, ⟨_, _, OP_Co k3, rfl, ⟨_, _, OP_t k3, rfl, ⟨_, _, OP_t k3, rfl, ⟨_, _, _, .ref (a + 697 + 0), OP_n k3, by decide, rfl, 0, rfl, by decide, rfl, ⟨(OP_fo k3).choose, (OP_fo k3).choose_spec, 0, 0, _, o_fent (at9 := 0) k3 (OP_b k3 (j := 5) (by decide)) (by decide) (by decide), Nat.zero_le _, Nat.zero_le _, ?_⟩⟩⟩⟩⟩⟩
  rintro _ h4 ⟨rfl, k4, F4⟩
  have F4 := fr_trans F3 (fr_mono F4 xc')
  rw [e1 0 (by decide)] at k4
  refine ⟨_, _, OP_t k4, rfl, ⟨_, _, OP_t k4, rfl, ⟨_, _, _, .ref (a + 697 + 0), OP_n k4, by decide, rfl, 0, rfl, by decide, rfl, ⟨_, _, OP_t k4, rfl, ⟨_, OP_Co k4, 0, 0, _, o_map (i := 0) k4 (by decide) fu_e, Nat.zero_le _, Nat.zero_le _, ?_⟩⟩⟩⟩⟩
  rintro _ h5 ⟨rfl, k5, F5⟩
  have F5 := fr_trans F4 (fr_mono F5 CR_HS)
  refine ⟨_, _, OP_t k5, rfl, ⟨_, _, OP_Co k5, rfl, ⟨_, _, OP_t k5, rfl, ⟨_, _, OP_t k5, rfl, ⟨_, _, _, .ref (a + 697 + 0), OP_n k5, by decide, rfl, 0, rfl, by decide, rfl, ⟨(OP_fo k5).choose, (OP_fo k5).choose_spec, 0, 0, _, o_fent (at9 := 72) k5 (OP_b k5 (j := 5) (by decide)) (by decide) (by decide), Nat.zero_le _, Nat.zero_le _, ?_⟩⟩⟩⟩⟩⟩
  rintro _ h6 ⟨rfl, k6, F6⟩
  have F6 := fr_trans F5 (fr_mono F6 xc')
  rw [e1 72 (by decide)] at k6
  refine ⟨_, _, OP_t k6, rfl, ⟨_, _, OP_t k6, rfl, ⟨_, _, _, .ref (a + 697 + 0), OP_n k6, by decide, rfl, 0, rfl, by decide, rfl, ⟨_, _, OP_t k6, rfl, ⟨_, OP_Co k6, 0, 0, _, o_map (i := 1) k6 (by decide) fu_e, Nat.zero_le _, Nat.zero_le _, ?_⟩⟩⟩⟩⟩
  rintro _ h7 ⟨rfl, k7, F7⟩
  have F7 := fr_trans F6 (fr_mono F7 CR_HS)
  refine ⟨_, _, OP_t k7, rfl, ⟨_, _, OP_t k7, rfl, ⟨_, _, OP_t k7, rfl, ⟨_, _, OP_t k7, rfl, ⟨_, OP_Co k7, 0, 0, _, o_addp k7 rfl rfl, Nat.zero_le _, Nat.zero_le _, ?_⟩⟩⟩⟩⟩
  rintro _ h8 ⟨rfl, k8, F8⟩
  have F8 := fr_trans F7 (fr_mono F8 CR_HS)
  refine ⟨rfl, ⟨_, _, _, _, k8, w0.trans (fu_n (by decide)), fun i i3 i4 i5 => b3 i i3 i4 i5, rfl, rfl, rfl⟩, F8⟩
theorem p_mko {fa n : Nat} {b : Nat → Nat} {p : Option (fq × fq)} (h9 : f9.category = 1) (k : OPc a h W B V g) (ev : EV st2 kk2 st3 kk3 h) (hp : g.2 0 = some p) (hb : bv h n fa b) (hn : 98 ≤ n) (hn2 : n < 65536) (hfa : ¬ OR a fa) :
    vm_Met (vm_env l O f9) mX7_makeOutput 0 0 [.ref a, .ref fa] h (fun r h' => r = some (.int (pz p)) ∧ (∃ W' B' V', OPc a h' W' B' V' g ∧ W' 0 = W 0 ∧ (∀ i, i ≠ 2 → i ≠ 9 → B' i = B i) ∧ ∀ q, p = some q → sl (B' 2) 0 48 = H3 st3 kk3 (nb 98 2 ++ sl b 0 98 ++ nb 49 2 ++ ptb q ++ tFi)) ∧ fr h h' (OR a)) := by
  have k0 := k.1
  have xr : ∀ q, (q = a + rad 1 ∨ q = a + rad 1 + 1) → OR a q := fun q hq => by
    have hq : q = a + 685 ∨ q = a + 685 + 1 := hq
    unfold OR; omega
  have xe : ∀ q, (q = a + 685 ∨ q = a + 686) → OR a q := fun q hq => by unfold OR; omega
  have xf : ∀ q, (CR a q ∨ q = a + oad 9) → OR a q := fun q hq => by
    have hq : CR a q ∨ q = a + 695 := hq
    unfold CR at hq; unfold OR; omega
  have xh : ∀ q, ((a + 7 ≤ q ∧ q < a + 12) ∨ q = a + oad 2) → OR a q := fun q hq => by
    have hq : (a + 7 ≤ q ∧ q < a + 12) ∨ q = a + 3 := hq
    unfold OR; omega
  refine vm_met rfl (Nat.le_of_ble_eq_true rfl) ?_
  refine vm_go rfl bX7_makeOutput_0 oX7_makeOutput_0 ⟨_, _, OP_t k, rfl, ⟨_, _, OP_t k, rfl, ⟨_, _, OP_t k, rfl, ⟨_, OP_Co k, 0, 0, _, o_enc (i := 0) (t := 9) (at9 := 0) k (by decide) hp (by decide) (by decide), Nat.zero_le _, Nat.zero_le _, ?_⟩⟩⟩⟩
  rintro _ h1 ⟨rfl, k1, F1⟩
  have F1 := fr_mono F1 xf
  cases p with
  | none => exact ⟨fun q => absurd rfl q, fun _ => ⟨rfl, rfl, ⟨_, _, _, k1, rfl, fun i i2 i9 => fu_n i9, fun q hq => by cases hq⟩, F1⟩⟩
  | some p =>
  refine ⟨fun _ => ?_, fun q => absurd q (by show ¬ (1 : Int32) = 0; decide)⟩
  have k1 := OP_W k1 1
  have s9 : sl (encb (B 9) 0 (some p)) 0 49 = ptb p := encb_at
  refine vm_go rfl bX7_makeOutput_21 oX7_makeOutput_21 ⟨_, _, OP_t k1, rfl, ⟨_, OP_ro k1 (j := 1) (by decide), 0, 0, _, o_clear (j := 1) k1 (by decide), Nat.zero_le _, Nat.zero_le _, ?_⟩⟩
  rintro _ h2 ⟨rfl, k2, F2⟩
  have F2 := fr_trans F1 (fr_mono F2 (fun q hq => xr q (Or.inl hq)))
  refine ⟨_, _, OP_t k2, rfl, ⟨_, OP_ro k2 (j := 1) (by decide), 0, 0, _, o_numN (j := 1) (v := 98) (m := 2) k2 (by decide) (by decide) (by decide) (by decide), Nat.zero_le _, Nat.zero_le _, ?_⟩⟩
  rintro _ h3 ⟨rfl, k3, F3⟩
  have F3 := fr_trans F2 (fr_mono F3 xr)
  have b3 := fr_bv F3 hb hfa
  refine ⟨_, _, OP_t k3, rfl, ⟨_, OP_ro k3 (j := 1) (by decide), 0, 0, _, o_all (j := 1) (at9 := 0) (m := 98) k3 (by decide) b3 (by omega) hn2 (by show _ ≤ 300; rw [List.length_append, nb_len]; decide), Nat.zero_le _, Nat.zero_le _, ?_⟩⟩
  rintro _ h4 ⟨rfl, k4, F4⟩
  have F4 := fr_trans F3 (fr_mono F4 xr)
  refine ⟨_, _, OP_t k4, rfl, ⟨_, OP_t k4, 0, 0, _, p_elem (at9 := 0) k4 (OP_b k4 (j := 9) (by decide)) (by decide) (by decide) (by rw [List.length_append, List.length_append, nb_len, sl_len]; decide) (by show a + 695 ≠ _; omega), Nat.zero_le _, Nat.zero_le _, ?_⟩⟩
  rintro _ h5 ⟨rfl, k5, F5⟩
  have F5 := fr_trans F4 (fr_mono F5 xe)
  rw [fu_e, s9] at k5
  have ev5 := EV_or ev k0 F5 (fun _ z => z)
  refine ⟨_, _, OP_t k5, rfl, ⟨_, OP_ro k5 (j := 1) (by decide), 0, 0, _, o_text (j := 1) h9 k5 (by decide) ev5.2.2.2.2.2.2 (by show _ ≤ 300; rw [List.length_append, List.length_append, List.length_append, List.length_append, nb_len, nb_len, sl_len, ptb_len]; decide), Nat.zero_le _, Nat.zero_le _, ?_⟩⟩
  rintro _ h6 ⟨rfl, k6, F6⟩
  have F6 := fr_trans F5 (fr_mono F6 xr)
  rw [sl_gb] at k6
  have ev6 := EV_or ev k0 F6 (fun _ z => z)
  refine ⟨_, _, OP_t k6, rfl, ⟨_, _, OP_t k6, rfl, ⟨_, _, OP_t k6, rfl, ⟨_, (OP_H k6).1, 0, 0, _, o_h3 (j := 1) (t := 2) k6 ev6.1 (by decide) (by decide), Nat.zero_le _, Nat.zero_le _, ?_⟩⟩⟩⟩
  rintro _ h7 ⟨rfl, ⟨c, k7, hc, _⟩, F7⟩
  have F7 := fr_trans F6 (fr_mono F7 xh)
  rw [fu_e] at hc
  refine ⟨rfl, rfl, ⟨_, _, _, k7, fu_n (by decide), fun i i2 i9 => by rw [fu_n i2, fu_n i9], fun q hq => ?_⟩, F7⟩
  cases hq
  rw [fu_e, hc]; rfl
end
