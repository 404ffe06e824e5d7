/-! BlindRsa: readBelow, isRight, isSigned -/
/-- the salt that opened bytes hold -/
def sof (st kk : Nat → Int64) (len t0 s : Nat) (o : List Nat) : List Nat := sl (fun i => gb o (len - 49 - s + i) ^^^ mgb st kk (sl (gb o) (len - 49) 48) (len - 49 - s + i - ahd t0)) 0 s
def sgOK (st kk : Nat → Int64) (len t0 s : Nat) (inp o : List Nat) : Prop := o = EM st kk len t0 s inp (sof st kk len t0 s o)
def FM (a : Nat) (A : Nat → Nat) (q : Nat) : Prop := RA a q ∨ MR A q
theorem tn_m {n m : Nat} : ((n : Int) % (m : Int)).toNat = n % m := by
  rw [← Int.natCast_emod]; exact Int.toNat_natCast _
theorem tn_p {n m e : Nat} : ((n : Int) ^ e % (m : Int)).toNat = n ^ e % m := by
  rw [← Int.natCast_pow]; exact tn_m
section
variable {l : Launch} {O : Nat → vm_Ob} {f9 : Value} {a : Nat} {h : vm_H} {w : List Nat} {B : Nat → Nat → Nat} {K len s sh se ki : Nat} {lv : Int32} {A : Nat → Nat} {ni ri : Nat} {shb seb : Nat → Nat} {st2 kk2 : Nat → Int32} {st3 kk3 : Nat → Int64}
theorem x_rb {t fa nf at9 : Nat} {b : Nat → Nat} (k : RSc a h w B) (q : K2 h K len s sh se ki lv A ni ri shb seb) (ka : KA a K sh se A) (ht : t < 3) (hf : bv h nf fa b) (hat : at9 + len ≤ nf) (hnf : nf < 65536) : vm_Met (vm_env l O f9) mX1_readBelow 0 0 [.ref K, .ref fa, .int (nI at9), .ref (a + 19 + t)] h (fun r h' => r = some (.int (if bn b at9 len < bn shb 0 len then 1 else 0)) ∧ nz 74 h' (8 * len / 28 + 1) (a + 19 + t) (bn b at9 len) ∧ RSc a h' w B ∧ K2 h' K len s sh se ki lv A ni ri shb seb ∧ fr h h' (fun q => q = a + 19 + t ∨ MR A q)) := by
  refine vm_met rfl (Nat.le_of_ble_eq_true rfl) ?_
  refine vm_go rfl bX1_readBelow_0 oX1_readBelow_0 ⟨_, _, q.1, rfl, ⟨0, 0, _, x_read k q ka ht hf hat hnf, Nat.zero_le _, Nat.zero_le _, ?_⟩⟩
  rintro _ h1 ⟨rfl, n1, k1, q1, F1⟩
  refine ⟨_, _, q1.1, rfl, ⟨(K2_mo q1).choose, (K2_mo q1).choose_spec, 0, 0, _, x_abo k1 q1 n1, Nat.zero_le _, Nat.zero_le _, ?_⟩⟩
  rintro _ h2 ⟨rfl, rfl⟩
  exact ⟨nar_b, rfl, n1, k1, q1, F1⟩
theorem FM_1 {t : Nat} (ht : t < 3) : ∀ q, (q = a + 19 + t ∨ MR A q) → FM a A q := fun q hq => hq.imp (fun z => by unfold RA; omega) id
theorem EV_fm {h' : vm_H} {S : Nat → Prop} (k : EV st2 kk2 st3 kk3 h) (q : K2 h K len s sh se ki lv A ni ri shb seb) (ha : a + 1000 < 1099511627776) (F : fr h h' S) (hS : ∀ q, S q → FM a A q) : EV st2 kk2 st3 kk3 h' := EV_fr k (fun z hz => F.2 z (fun w => by
  have ho := q.2.2.2.1.2.2.2.2.2.2.2.2
  rcases hS z w with y | y | ⟨i, hi, y⟩
  · unfold RA at y; omega
  · have := ho 6 (by decide) (Or.inl (by decide)); omega
  · have := ho (8 + i) (by omega) (Or.inl (by omega)); omega))
set_option maxHeartbeats 2000000 in
theorem x_isr {fi nf fa na at9 : Nat} {ib b : Nat → Nat} (k : RSc a h w B) (ev : EV st2 kk2 st3 kk3 h) (q : K2 h K len s sh se ki lv A ni ri shb seb) (ka : KA a K sh se A) (hi : bv h nf fi ib) (hio : ¬ RA a fi) (hnf : 98 ≤ nf) (hnf2 : nf < 65536) (hf : bv h na fa b) (hat : at9 + len ≤ na) (hna : na < 65536) :
    vm_Met (vm_env l O f9) mX1_isRight 0 0 [.ref a, .ref K, .ref fi, .ref fa, .int (nI at9)] h (fun r h' => (∃ ok : Bool, r = some (.int (bi ok)) ∧ (ok = true ↔ bn b at9 len < bn shb 0 len ∧ sgOK st3 kk3 len (shb 0) s (sl ib 0 98) (wb (bn b at9 len ^ bn shb len 3 % bn shb 0 len) len))) ∧ (∃ w' B', RSc a h' w' B' ∧ ∀ i, i < 3 → B' i = B i) ∧ K2 h' K len s sh se ki lv A ni ri shb seb ∧ fr h h' (FM a A)) := by
  have k0 := k.1
  have ha13 : a + 13 < 1099511627776 := by omega
  have ha12 : a + 12 < 1099511627776 := by omega
  have hl1 := q.2.2.2.2.2.1.1
  have hl2 := q.2.2.2.2.2.1.2
  have hs := q.2.2.2.2.2.2.1
  have h0 := q.2.2.2.2.2.2.2
  have hsl : s ≤ 48 := by omega
  have hss : s + 51 ≤ len := by omega
  have hKo : ¬ RA a K := fun z => by have := ka.1; unfold RA at z; omega
  have hsho : ¬ RA a sh := fun z => by have := ka.2.1; unfold RA at z; omega
  have hseo : ¬ RA a se := fun z => by have := ka.2.2.1; unfold RA at z; omega
  have hAo : ∀ i, i < 24 → i ≠ 5 → ¬ RA a (A i) := fun i hi _ z => by have := ka.2.2.2 i hi; unfold RA at z; omega
  have x8 : ∀ q, q = a + zad 8 → RA a q := fun q hq => by
    have hq : q = a + 17 := hq
    unfold RA; omega
  have x4 : ∀ q, q = a + zad 4 → RA a q := fun q hq => by
    have hq : q = a + 13 := hq
    unfold RA; omega
  have x3 : ∀ q, q = a + zad 3 → RA a q := fun q hq => by
    have hq : q = a + 12 := hq
    unfold RA; omega
  have hif : ¬ FM a A fi := fun z => z.elim hio (K2_nb q hi)
  have e49 : nI len - 48 - 1 = nI (len - 49) := by
    rw [show nI len - 48 = nI (len - 48) from nI_sub (b := 48) (by omega)]
    exact nI_sub (b := 1) (by omega)
  have eS : ∀ i, nI (len - 49) - nI s + nI i = nI (len - 49 - s + i) := fun i => by rw [nI_sub (by omega), nI_add]
  generalize hN : bn shb 0 len = N
  generalize hE : bn shb len 3 = E
  generalize hx : bn b at9 len = x
  generalize hop : wb (x ^ E % N) len = op
  have lop : op.length = len := by rw [← hop, wb_len]
  suffices H : ∀ Q : Option Value → vm_H → Prop, (∀ r h', ((∃ ok : Bool, r = some (.int (bi ok)) ∧ (ok = true ↔ x < N ∧ sgOK st3 kk3 len (shb 0) s (sl ib 0 98) op)) ∧ (∃ w' B', RSc a h' w' B' ∧ ∀ i, i < 3 → B' i = B i) ∧ K2 h' K len s sh se ki lv A ni ri shb seb ∧ fr h h' (FM a A)) → Q r h') → vm_Met (vm_env l O f9) mX1_isRight 0 0 [.ref a, .ref K, .ref fi, .ref fa, .int (nI at9)] h Q from H _ (fun _ _ z => z)
  intro Q hQ
  refine vm_met rfl (Nat.le_of_ble_eq_true rfl) ?_
  refine vm_go rfl bX1_isRight_0 oX1_isRight_0 ⟨_, _, q.1, rfl, ⟨_, _, RS_t k, rfl, ⟨_, _, _, .ref (a + 19 + 0), RS_n k, by decide, rfl, 0, rfl, by decide, rfl, ⟨0, 0, _, x_rb (t := 0) k q ka (by decide) hf hat hna, Nat.zero_le _, Nat.zero_le _, ?_⟩⟩⟩⟩
  rintro _ h1 ⟨rfl, n1, k1, q1, F1⟩
  have F1 := fr_mono F1 (FM_1 (by decide))
  rw [hx] at n1 ⊢
  rw [hN]
  by_cases hxN : x < N
  rotate_left
  · rw [if_neg hxN]
    exact ⟨fun q => absurd rfl q, fun _ => ⟨rfl, hQ _ _ ⟨⟨false, rfl, ⟨(fun z => nomatch z), fun z => absurd z.1 hxN⟩⟩, ⟨_, _, k1, fun _ _ => rfl⟩, q1, F1⟩⟩⟩
  rw [if_pos hxN]
  refine ⟨fun _ => ?_, fun q => absurd q (by decide)⟩
  refine vm_go rfl bX1_isRight_28 oX1_isRight_28 ⟨(K2_mo q1).choose, (K2_mo q1).choose_spec, 0, 0, _, x_ent (t := 0) (u := 0) k1 q1 ka (by decide) (by decide) n1, Nat.zero_le _, Nat.zero_le _, ?_⟩
  rintro _ h2 ⟨rfl, n2, k2, q2, F2⟩
  have F2 := fr_trans F1 (fr_mono F2 (FM_1 (by decide)))
  refine ⟨_, _, q2.1, rfl, ⟨_, _, q2.1, rfl, ⟨(K2_mo q2).choose, (K2_mo q2).choose_spec, 0, 0, _, x_rai (t := 0) (u := 0) (at9 := len) (size := 3) k2 q2 ka (by decide) (by decide) n2 q2.2.1 (by omega) (by omega), Nat.zero_le _, Nat.zero_le _, ?_⟩⟩⟩
  rintro _ h3 ⟨rfl, n3, k3, q3, F3⟩
  have F3 := fr_trans F2 (fr_mono F3 (FM_1 (by decide)))
  rw [hE] at n3
  refine ⟨(K2_mo q3).choose, (K2_mo q3).choose_spec, 0, 0, _, x_lev (t := 0) (u := 0) k3 q3 ka (by decide) (by decide) n3, Nat.zero_le _, Nat.zero_le _, ?_⟩
  rintro _ h4 ⟨rfl, n4, k4, q4, F4⟩
  have F4 := fr_trans F3 (fr_mono F4 (FM_1 (by decide)))
  rw [hN, tn_p] at n4
  refine ⟨_, _, RS_t k4, rfl, ⟨_, _, q4.1, rfl, ⟨0, 0, _, x_write (t := 0) (u := 8) k4 q4 ka (by decide) (by decide) rfl n4, Nat.zero_le _, Nat.zero_le _, ?_⟩⟩⟩
  rintro _ h5 ⟨rfl, ⟨c8, k5, hc8⟩, q5, F5⟩
  have F5 := fr_trans F4 (fr_mono F5 (fun q z => Or.inl (x8 q z)))
  rw [hop] at hc8
  obtain ⟨fo, eo, vo⟩ := RS_b k5 (j := 8) (by decide)
  rw [fu_e] at vo
  obtain ⟨fk, ek, vk⟩ := RS_b k5 (j := 4) (by decide)
  rw [fu_n (by decide)] at vk
  have go : ∀ j, j < len → c8 j = gb op j := fun j hj => by
    have := sl_all hc8 j hj
    rwa [Nat.zero_add] at this
  refine ⟨_, _, q5.1, rfl, ⟨_, _, RS_t k5, rfl, ⟨_, _, RS_t k5, rfl, ⟨48, 0, len - 49, 256, 48, rfl, rfl, e49, by omega, by decide, ha13, fo, fk, eo, ek, ?_⟩⟩⟩⟩
  generalize hq6 : vm_up h5 (a + 13) _ = h6
  have b6 : bv h6 (zln 4) (a + zad 4) (app (B 4) 0 (fun j => c8 (len - 49 + j)) 48) := by
    show bv h6 48 (a + 13) _
    rw [← hq6]
    refine ⟨_, vm_upe, fun j hj => ?_⟩
    unfold va_cpy app
    by_cases e : 0 ≤ j ∧ j < 0 + 48
    · rw [if_pos e, if_pos e]
      have : len - 49 + (j - 0) < 256 := by omega
      exact vo _ this
    · rw [if_neg e, if_neg e]; exact vk j hj
  have F6 : fr h5 h6 (fun q => q = a + zad 4) := by rw [← hq6]; exact fr_up rfl
  clear hq6
  have k6 := RS_byt k5 (t := 4) (by decide) F6 b6
  have q6 := K2_fr q5 F6 (fun z => hKo (x4 _ z)) (fun z => hsho (x4 _ z)) (fun z => hseo (x4 _ z)) (fun i hi h5 z => hAo i hi h5 (x4 _ z))
  have F6 := fr_trans F5 (fr_mono F6 (fun q z => Or.inl (x4 q z)))
  have sm : sl (app (B 4) 0 (fun j => c8 (len - 49 + j)) 48) 0 48 = sl (gb op) (len - 49) 48 := by
    rw [sl_app_hi]
    exact sl_ext (fun j hj => by rw [Nat.zero_add]; exact go _ (by omega))
  generalize app (B 4) 0 (fun j => c8 (len - 49 + j)) 48 = c4 at *
  have ev6 := EV_fm ev q k0 F6 (fun _ z => z)
  refine ⟨_, RS_t k6, 0, 0, _, x_mask k6 ev6 q6.1 (fun z => hKo (RR_RA z)) q6.2.1 (fun z => hsho (RR_RA z)) (by omega) hl1 hl2, Nat.zero_le _, Nat.zero_le _, ?_⟩
  rintro _ h7 ⟨rfl, ⟨w7, c5, c6, k7, hc5⟩, F7⟩
  have F7 := fr_mono F7 (fun q z => RR_RA z)
  have q7 := K2_fr q6 F7 hKo hsho hseo hAo
  have F7 := fr_trans F6 (fr_mono F7 (fun q z => Or.inl z))
  rw [fu_e, sm] at hc5
  refine vm_Th (lv' := [(0, .ref a), (1, .ref K), (2, .ref fi), (3, .ref fa), (4, .int (nI at9)), (5, .ref (A 0)), (6, .ref (a + 19 + 0)), (7, .int (nI (len - 49))), (8, .int (nI 0))]) (h' := h7) (by rw [← e49]; rfl) rfl ?_
  refine vm_loop (fun i h2 => (∃ c3, RSc a h2 w7 (fu (fu (fu (fu (fu B 8 c8) 4 c4) 5 c5) 6 c6) 3 c3) ∧ ∀ j, j < i → c3 j = gb op (len - 49 - s + j) ^^^ mgb st3 kk3 (sl (gb op) (len - 49) 48) (len - 49 - s + j - ahd (shb 0))) ∧ K2 h2 K len s sh se ki lv A ni ri shb seb ∧ fr h h2 (FM a A)) s (fun i => [(0, .ref a), (1, .ref K), (2, .ref fi), (3, .ref fa), (4, .int (nI at9)), (5, .ref (A 0)), (6, .ref (a + 19 + 0)), (7, .int (nI (len - 49))), (8, .int (nI i))]) 0 h7 (Nat.zero_le _) ⟨⟨_, by have := fu_id (f := fu (fu (fu (fu B 8 c8) 4 c4) 5 c5) 6 c6) (k := 3); rw [← this] at k7; exact k7, fun j hj => by omega⟩, q7, F7⟩ ?_ ?_
  rotate_left
  · rintro i h2 _ hi9 ⟨⟨c3, k2', hc3⟩, q2', F2'⟩ ih
    obtain ⟨f8, e8, v8⟩ := RS_b k2' (j := 8) (by decide)
    rw [fu_n (by decide), fu_n (by decide), fu_n (by decide), fu_n (by decide), fu_e] at v8
    obtain ⟨f5, e5, v5⟩ := RS_b k2' (j := 5) (by decide)
    rw [fu_n (by decide), fu_n (by decide), fu_e] at v5
    obtain ⟨f3, e3, v3⟩ := RS_b k2' (j := 3) (by decide)
    rw [fu_e] at v3
    have v8i := v8 (len - 49 - s + i) (by show _ < 256; omega)
    have v5i := v5 (len - 49 - s + i) (by show _ < 304; omega)
    have hab : ahd (shb 0) ≤ len - 49 - s + i := by unfold ahd; split <;> omega
    rw [go _ (by omega)] at v8i
    rw [hc5 _ hab (by omega)] at v5i
    refine vm_go rfl bX1_isRight_113 oX1_isRight_113 ⟨_, _, q2'.1, rfl, ⟨fun q => absurd q (nI_ge hi9 (by omega)), fun _ => ⟨_, _, q2'.1, rfl, ⟨_, _, RS_t k2', rfl, ⟨_, _, RS_t k2', rfl, ⟨256, f8, e8, len - 49 - s + i, eS i, by omega, fun _ => ⟨_, _, RS_t k2', rfl, ⟨304, f5, e5, len - 49 - s + i, eS i, by omega, fun _ => ⟨48, f3, e3, ha12, i, rfl, by omega, ?_⟩⟩⟩⟩⟩⟩⟩⟩⟩
    rw [v8i.1, v5i.1]
    generalize hq13 : vm_up h2 (a + 12) _ = h13
    generalize hy9 : gb op (len - 49 - s + i) ^^^ mgb st3 kk3 (sl (gb op) (len - 49) 48) (len - 49 - s + i - ahd (shb 0)) = y9 at *
    have hx2 : y9 < 256 := by rw [← hy9]; exact xor_lt v8i.2 v5i.2
    have b13 : bv h13 (zln 3) (a + zad 3) (b1 c3 i y9) := by
      show bv h13 48 (a + 12) _
      have := bv_up (h := h2) (fa := a + 12) (k := i) (v := y9) v3 hx2
      rw [← hq13]
      have e2 : (sb (gb op (len - 49 - s + i)) ^^^ sb (mgb st3 kk3 (sl (gb op) (len - 49) 48) (len - 49 - s + i - ahd (shb 0)))).toInt8.toInt32.toInt8.toInt32 = sb y9 := by rw [xor_b, hy9, sb_self _ hx2]
      rw [← e2] at this
      exact this
    have F13 : fr h2 h13 (fun q => q = a + zad 3) := by rw [← hq13]; exact fr_up rfl
    clear hq13
    have k13 := RS_byt k2' (t := 3) (by decide) F13 b13
    rw [fu_fu] at k13
    have q13 := K2_fr q2' F13 (fun z => hKo (x3 _ z)) (fun z => hsho (x3 _ z)) (fun z => hseo (x3 _ z)) (fun i hi h5 z => hAo i hi h5 (x3 _ z))
    refine vm_less [0, 1, 2, 3, 4, 5, 6, 7, 8] rfl ?_
    refine vm_Th (by rw [← nI_1]; rfl) rfl (ih h13 ⟨⟨_, k13, fun j hj => ?_⟩, q13, fr_trans F2' (fr_mono F13 (fun q z => Or.inl (x3 q z)))⟩)
    unfold b1
    by_cases e : j = i
    · rw [if_pos e, e]; exact hy9.symm
    · rw [if_neg e]; exact hc3 j (by omega)
  rintro h14 ⟨⟨c3, k14, hc3⟩, q14, F14⟩
  refine vm_go rfl bX1_isRight_113 oX1_isRight_113 ⟨_, _, q14.1, rfl, ⟨fun _ => ?_, fun q => absurd (nI_le (Nat.le_refl _) (by omega)) q⟩⟩
  have hsa : sl c3 0 s = sof st3 kk3 len (shb 0) s op := sl_ext (fun j hj => by rw [Nat.zero_add]; exact hc3 j hj)
  have ev14 := EV_fm ev q k0 F14 (fun _ z => z)
  refine vm_go rfl bX1_isRight_163 oX1_isRight_163 ⟨_, RS_t k14, 0, 0, _, x_enc k14 ev14 q14.1 (fun z => hKo (RR_RA z)) q14.2.1 (fun z => hsho (RR_RA z)) (by omega) h0 hl1 hl2 hs (fr_bv F14 hi hif) (fun z => hio (RR_RA z)) hnf hnf2, Nat.zero_le _, Nat.zero_le _, ?_⟩
  rintro _ h15 ⟨rfl, ⟨w15, B15, k15, b15, hem⟩, F15⟩
  have F15 := fr_mono F15 (fun q z => RR_RA z)
  have q15 := K2_fr q14 F15 hKo hsho hseo hAo
  have F15 := fr_trans F14 (fr_mono F15 (fun q z => Or.inl z))
  rw [fu_e, hsa] at hem
  have p8' := RS_b k15 (j := 8) (by decide)
  rw [b15 8 (by decide) (by decide) (by decide) (by decide), fu_n (by decide), fu_n (by decide), fu_n (by decide), fu_n (by decide), fu_e] at p8'
  have p7 := RS_b k15 (j := 7) (by decide)
  have hBi : ∀ i, i < 3 → B15 i = B i := fun i hi => by rw [b15 i (by omega) (by omega) (by omega) (by omega), fu_n (by omega), fu_n (by omega), fu_n (by omega), fu_n (by omega), fu_n (by omega)]
  refine ⟨_, _, RS_t k15, rfl, ⟨_, _, RS_t k15, rfl, ⟨_, _, q15.1, rfl, ⟨0, 0, _, w_same (at9 := 0) (bt := 0) (many := len) p8' p7 (by show 0 + len ≤ 256; omega) (by show 0 + len ≤ 256; omega) (by omega), Nat.zero_le _, Nat.zero_le _, ?_⟩⟩⟩⟩
  rintro _ h16 ⟨rfl, x9, rfl, hx9⟩
  have key : (∀ i, i < len → c8 (0 + i) = B15 7 (0 + i)) ↔ sgOK st3 kk3 len (shb 0) s (sl ib 0 98) op := by
    unfold sgOK
    rw [← hem, ← hc8]
    exact ⟨fun z => sl_ext z, fun z => sl_inj z⟩
  rcases hx9 with ⟨rfl, hx9⟩ | ⟨rfl, i, hi, hx9⟩
  · exact ⟨rfl, hQ _ _ ⟨⟨true, rfl, ⟨fun _ => ⟨hxN, key.mp hx9⟩, fun _ => rfl⟩⟩, ⟨_, _, k15, hBi⟩, q15, F15⟩⟩
  · exact ⟨rfl, hQ _ _ ⟨⟨false, rfl, ⟨(fun z => nomatch z), fun z => absurd (key.mpr z.2 i hi) hx9⟩⟩, ⟨_, _, k15, hBi⟩, q15, F15⟩⟩
theorem x_iss {fa na : Nat} {b : Nat → Nat} (k : RSc a h w B) (ev : EV st2 kk2 st3 kk3 h) (q : K2 h K len s sh se ki lv A ni ri shb seb) (ka : KA a K sh se A) (hf : bv h na fa b) (hfo : ¬ RA a fa) (hat : 98 + len ≤ na) (hna : na < 65536) :
    vm_Met (vm_env l O f9) mX1_isSigned 0 0 [.ref a, .ref K, .ref fa] h (fun r h' => (∃ ok : Bool, r = some (.int (bi ok)) ∧ (ok = true ↔ bn b 98 len < bn shb 0 len ∧ sgOK st3 kk3 len (shb 0) s (sl b 0 98) (wb (bn b 98 len ^ bn shb len 3 % bn shb 0 len) len))) ∧ (∃ w' B', RSc a h' w' B' ∧ ∀ i, i < 3 → B' i = B i) ∧ K2 h' K len s sh se ki lv A ni ri shb seb ∧ fr h h' (FM a A)) := by
  refine vm_met rfl (Nat.le_of_ble_eq_true rfl) ?_
  refine vm_go rfl bX1_isSigned_0 oX1_isSigned_0 ⟨_, RS_t k, 0, 0, _, x_isr (at9 := 98) k ev q ka hf hfo (by omega) hna hf hat hna, Nat.zero_le _, Nat.zero_le _, ?_⟩
  rintro _ h1 ⟨⟨ok, rfl, hok⟩, hr⟩
  exact ⟨bi_if, ⟨ok, rfl, hok⟩, hr⟩
end
