/-! BlindRsa.encode: EMSA-PSS-ENCODE -/
def pdf (len s : Nat) (salt : List Nat) (j : Nat) : Nat := if j + 1 = len - 49 - s then 1 else if len - 49 - s ≤ j then gb salt (j - (len - 49 - s)) else 0
def emX (st kk : Nat → Int64) (mk : List Nat) (len t0 s : Nat) (salt : List Nat) (j : Nat) : Nat := mgb st kk mk (j - ahd t0) ^^^ pdf len s salt j
def emf (st kk : Nat → Int64) (mk : List Nat) (len t0 s : Nat) (salt : List Nat) (j : Nat) : Nat := if j < len - 49 then (if j = 0 then emX st kk mk len t0 s salt 0 &&& kep t0 else emX st kk mk len t0 s salt j) else if j < len - 1 then gb mk (j - (len - 49)) else 188
def emk (st kk : Nat → Int64) (inp salt : List Nat) : List Nat := H3 st kk (nb (0 : Nat) 4 ++ nb (0 : Nat) 4 ++ H3 st kk inp ++ salt)
def EM (st kk : Nat → Int64) (len t0 s : Nat) (inp salt : List Nat) : List Nat := sl (emf st kk (emk st kk inp salt) len t0 s salt) 0 len
section
variable {l : Launch} {O : Nat → vm_Ob} {f9 : Value} {a : Nat} {h : vm_H} {w : List Nat} {B : Nat → Nat → Nat} {st2 kk2 : Nat → Int32} {st3 kk3 : Nat → Int64}
set_option maxHeartbeats 2000000 in
theorem x_enc {K ty len bs s sh se ki mo nsh fi nf : Nat} {lv : Int32} {shb ib : Nat → Nat} (k : RSc a h w B) (ev : EV st2 kk2 st3 kk3 h) (hK : KO h K ty len bs s sh se ki mo lv) (hKo : ¬ RR a K) (hsh : bv h nsh sh shb) (hsho : ¬ RR a sh) (hns : 0 < nsh) (h0 : 0 < shb 0) (hl1 : 66 ≤ len) (hl2 : len ≤ 256) (hs : s = 0 ∨ s = 48 ∧ 100 ≤ len) (hi : bv h nf fi ib) (hio : ¬ RR a fi) (hnf : 98 ≤ nf) (hnf2 : nf < 65536) :
    vm_Met (vm_env l O f9) mX1_encode 0 0 [.ref a, .ref K, .ref fi] h (fun r h' => r = none ∧ (∃ w' B', RSc a h' w' B' ∧ (∀ i, i ≠ 4 → i ≠ 5 → i ≠ 6 → i ≠ 7 → B' i = B i) ∧ sl (B' 7) 0 len = EM st3 kk3 len (shb 0) s (sl ib 0 98) (sl (B 3) 0 s)) ∧ fr h h' (RR a)) := by
  have k0 := k.1
  have ha16 : a + 16 < 1099511627776 := by omega
  have xw : ∀ q, (q = a + 10 ∨ q = a + 11) → RR a q := fun q hq => by unfold RR; omega
  have xh : ∀ q, ((a + 5 ≤ q ∧ q < a + 10) ∨ q = a + zad 4) → RR a q := fun q hq => by
    have hq : (a + 5 ≤ q ∧ q < a + 10) ∨ q = a + 13 := hq
    unfold RR; omega
  have x7 : ∀ q, q = a + zad 7 → RR a q := fun q hq => by
    have hq : q = a + 16 := hq
    unfold RR; omega
  have hsl : s ≤ 48 := by omega
  have hss : s + 51 ≤ len := by omega
  have h3l : ∀ j, j < 48 → B 3 j < 256 := fun j hj => by obtain ⟨f, _, v⟩ := RS_b k (j := 3) (by decide); exact (v j hj).2
  have e49 : nI len - 48 - 1 = nI (len - 49) := by
    rw [show nI len - 48 = nI (len - 48) from nI_sub (b := 48) (by omega)]
    exact nI_sub (b := 1) (by omega)
  have eS : nI (len - 49) - nI s = nI (len - 49 - s) := nI_sub (by omega)
  have eS1 : nI (len - 49 - s) - 1 = nI (len - 49 - s - 1) := nI_sub (b := 1) (by omega)
  have eL1 : nI len - 1 = nI (len - 1) := nI_sub (b := 1) (by omega)
  generalize hsa : sl (B 3) 0 s = salt
  have lsa : salt.length = s := by rw [← hsa, sl_len]
  refine vm_met rfl (Nat.le_of_ble_eq_true rfl) ?_
  refine vm_go rfl bX1_encode_0 oX1_encode_0 ⟨_, _, RS_t k, rfl, ⟨_, RS_ro k, 0, 0, _, x_clear k, Nat.zero_le _, Nat.zero_le _, ?_⟩⟩
  rintro _ h1 ⟨rfl, k1, F1⟩
  have F1 := fr_mono F1 xw
  refine ⟨_, _, RS_t k1, rfl, ⟨_, RS_ro k1, 0, 0, _, x_all (at9 := 0) (m := 98) k1 (fr_bv F1 hi hio) (by omega) hnf2 (by decide), Nat.zero_le _, Nat.zero_le _, ?_⟩⟩
  rintro _ h2 ⟨rfl, k2, F2⟩
  have F2 := fr_trans F1 (fr_mono F2 xw)
  rw [List.nil_append] at k2
  have ev2 := EV_rr ev k0 F2 (fun _ z => z)
  refine ⟨_, _, RS_t k2, rfl, ⟨_, _, RS_t k2, rfl, ⟨_, _, RS_t k2, rfl, ⟨_, (RS_H k2).1, 0, 0, _, x_h3 (t := 4) k2 ev2.1 (by decide), Nat.zero_le _, Nat.zero_le _, ?_⟩⟩⟩⟩
  rintro _ h3 ⟨rfl, ⟨c4, k3, hc4, _⟩, F3⟩
  have F3 := fr_trans F2 (fr_mono F3 xh)
  refine ⟨_, _, RS_t k3, rfl, ⟨_, RS_ro k3, 0, 0, _, x_clear k3, Nat.zero_le _, Nat.zero_le _, ?_⟩⟩
  rintro _ h4 ⟨rfl, k4, F4⟩
  have F4 := fr_trans F3 (fr_mono F4 xw)
  refine ⟨_, _, RS_t k4, rfl, ⟨_, RS_ro k4, 0, 0, _, x_numN (m := 4) (v := 0) k4 (by decide) (by decide) (by decide), Nat.zero_le _, Nat.zero_le _, ?_⟩⟩
  rintro _ h5 ⟨rfl, k5, F5⟩
  have F5 := fr_trans F4 (fr_mono F5 xw)
  rw [List.nil_append] at k5
  refine ⟨_, _, RS_t k5, rfl, ⟨_, RS_ro k5, 0, 0, _, x_numN (m := 4) (v := 0) k5 (by rw [nb_len]; decide) (by decide) (by decide), Nat.zero_le _, Nat.zero_le _, ?_⟩⟩
  rintro _ h6 ⟨rfl, k6, F6⟩
  have F6 := fr_trans F5 (fr_mono F6 xw)
  have b4 := RS_b k6 (j := 4) (by decide)
  rw [fu_e] at b4
  refine ⟨_, _, RS_t k6, rfl, ⟨_, _, RS_t k6, rfl, ⟨_, RS_ro k6, 0, 0, _, x_all (at9 := 0) (m := 48) k6 b4 (by decide) (by decide) (by rw [List.length_append, nb_len]; decide), Nat.zero_le _, Nat.zero_le _, ?_⟩⟩⟩
  rintro _ h7 ⟨rfl, k7, F7⟩
  have F7 := fr_trans F6 (fr_mono F7 xw)
  rw [hc4] at k7
  have b3 := RS_b k7 (j := 3) (by decide)
  rw [fu_n (by decide)] at b3
  have hK7 := KO_fr hK F7 hKo
  refine ⟨_, _, RS_t k7, rfl, ⟨_, _, RS_t k7, rfl, ⟨_, _, hK7, rfl, ⟨_, RS_ro k7, 0, 0, _, x_all (at9 := 0) (m := s) k7 b3 (by show 0 + s ≤ 48; omega) (by decide) (by rw [List.length_append, List.length_append, nb_len, H3_len]; omega), Nat.zero_le _, Nat.zero_le _, ?_⟩⟩⟩⟩
  rintro _ h8 ⟨rfl, k8, F8⟩
  have F8 := fr_trans F7 (fr_mono F8 xw)
  rw [hsa] at k8
  have ev8 := EV_rr ev k0 F8 (fun _ z => z)
  refine ⟨_, _, RS_t k8, rfl, ⟨_, _, RS_t k8, rfl, ⟨_, _, RS_t k8, rfl, ⟨_, (RS_H k8).1, 0, 0, _, x_h3 (t := 4) k8 ev8.1 (by decide), Nat.zero_le _, Nat.zero_le _, ?_⟩⟩⟩⟩
  rintro _ hx9 ⟨rfl, ⟨c4', k9, hc4', _⟩, F9⟩
  have F9 := fr_trans F8 (fr_mono F9 xh)
  rw [fu_fu] at k9
  have hc4' : sl c4' 0 48 = emk st3 kk3 (sl ib 0 98) salt := hc4'
  generalize hmk : emk st3 kk3 (sl ib 0 98) salt = mk at *
  have lmk : mk.length = 48 := by rw [← hc4', sl_len]
  have ev9 := EV_rr ev k0 F9 (fun _ z => z)
  have hK9 := KO_fr hK F9 hKo
  refine ⟨_, RS_t k9, 0, 0, _, x_mask k9 ev9 hK9 hKo (fr_bv F9 hsh hsho) hsho hns hl1 hl2, Nat.zero_le _, Nat.zero_le _, ?_⟩
  rintro _ h10 ⟨rfl, ⟨w10, c5, c6, k10, hc5⟩, F10⟩
  have F10 := fr_trans F9 F10
  have hK10 := KO_fr hK F10 hKo
  rw [fu_e, hc4'] at hc5
  obtain ⟨fm, em, vm9⟩ := RS_b k10 (j := 5) (by decide)
  rw [fu_n (by decide), fu_e] at vm9
  obtain ⟨fe, ee, ve⟩ := RS_b k10 (j := 7) (by decide)
  rw [fu_n (by decide), fu_n (by decide), fu_n (by decide)] at ve
  refine ⟨_, _, hK10, rfl, ⟨_, _, hK10, rfl, ⟨_, _, RS_t k10, rfl, ⟨_, _, RS_t k10, rfl, ⟨len - 49, 0, 0, 304, 256, e49, rfl, rfl, by omega, by omega, ha16, fm, fe, em, ee, ?_⟩⟩⟩⟩⟩
  generalize hq11 : vm_up h10 (a + 16) _ = h11
  have b11 : bv h11 (zln 7) (a + zad 7) (app (B 7) 0 c5 (len - 49)) := by
    show bv h11 256 (a + 16) _
    rw [← hq11]
    refine ⟨_, vm_upe, fun j hj => ?_⟩
    unfold va_cpy app
    by_cases e : 0 ≤ j ∧ j < 0 + (len - 49)
    · rw [if_pos e, if_pos e, Nat.zero_add, Nat.sub_zero]
      have : j < 304 := by omega
      exact vm9 j this
    · rw [if_neg e, if_neg e]; exact ve j hj
  have F11 : fr h10 h11 (fun q => q = a + zad 7) := by rw [← hq11]; exact fr_up rfl
  clear hq11
  have k11 := RS_byt k10 (t := 7) (by decide) F11 b11
  have F11 := fr_trans F10 (fr_mono F11 x7)
  have hd0 : ∀ j, ahd (shb 0) ≤ j → j < len - 49 → app (B 7) 0 c5 (len - 49) j = mgb st3 kk3 mk (j - ahd (shb 0)) := fun j h1 h2 => by
    unfold app
    rw [if_pos (by omega), Nat.sub_zero]
    exact hc5 j h1 h2
  generalize app (B 7) 0 c5 (len - 49) = d0 at *
  obtain ⟨f1, e1, v1⟩ := b11
  have v1s := v1 (len - 49 - s - 1) (by show _ < 256; omega)
  refine ⟨_, _, RS_t k11, rfl, ⟨256, f1, e1, len - 49 - s - 1, (by show nI len - 48 - 1 - nI s - 1 = _; rw [e49, eS, eS1]), by omega, fun _ => ⟨256, f1, e1, ha16, len - 49 - s - 1, (by show nI len - 48 - 1 - nI s - 1 = _; rw [e49, eS, eS1]), by omega, ?_⟩⟩⟩
  rw [v1s.1]
  generalize hq12 : vm_up h11 (a + 16) _ = h12
  have hx1 : d0 (len - 49 - s - 1) ^^^ 1 < 256 := xor_lt v1s.2 (by decide)
  have b12 : bv h12 (zln 7) (a + zad 7) (b1 d0 (len - 49 - s - 1) (d0 (len - 49 - s - 1) ^^^ 1)) := by
    show bv h12 256 (a + 16) _
    have := bv_up (h := h11) (fa := a + 16) (k := len - 49 - s - 1) (v := d0 (len - 49 - s - 1) ^^^ 1) v1 hx1
    rw [← hq12]
    have e2 : (sb (d0 (len - 49 - s - 1)) ^^^ 1).toInt8.toInt32.toInt8.toInt32 = sb (d0 (len - 49 - s - 1) ^^^ 1) := by
      rw [show (1 : Int32) = sb 1 from rfl, xor_b, sb_self _ hx1]
    rw [← e2] at this
    exact this
  have F12 : fr h11 h12 (fun q => q = a + zad 7) := by rw [← hq12]; exact fr_up rfl
  clear hq12
  have k12 := RS_byt k11 (t := 7) (by decide) F12 b12
  have F12 := fr_trans F11 (fr_mono F12 x7)
  rw [fu_fu] at k12
  generalize hd1 : b1 d0 (len - 49 - s - 1) (d0 (len - 49 - s - 1) ^^^ 1) = d1 at *
  refine vm_Th (lv' := [(0, .ref a), (1, .ref K), (2, .ref fi), (3, .int (nI (len - 49))), (4, .int (nI (len - 49 - s))), (5, .int (nI 0))]) (h' := h12) (by rw [← eS, ← e49]; rfl) rfl ?_
  refine vm_loop (fun i h2 => (∃ d2, RSc a h2 w10 (fu (fu (fu (fu B 4 c4') 5 c5) 6 c6) 7 d2) ∧ ∀ j, j < 256 → d2 j = if len - 49 - s ≤ j ∧ j < len - 49 - s + i then d1 j ^^^ B 3 (j - (len - 49 - s)) else d1 j) ∧ fr h h2 (RR a)) s (fun i => [(0, .ref a), (1, .ref K), (2, .ref fi), (3, .int (nI (len - 49))), (4, .int (nI (len - 49 - s))), (5, .int (nI i))]) 0 h12 (Nat.zero_le _) ⟨⟨d1, k12, fun j hj => by rw [if_neg (by omega)]⟩, F12⟩ ?_ ?_
  rotate_left
  · rintro i h2 _ hi9 ⟨⟨d2, k2', hd2⟩, F2'⟩ ih
    have hK2 := KO_fr hK F2' hKo
    obtain ⟨f2, e2, v2⟩ := RS_b k2' (j := 7) (by decide)
    rw [fu_e] at v2
    obtain ⟨f3, e3, v3⟩ := RS_b k2' (j := 3) (by decide)
    rw [fu_n (by decide), fu_n (by decide), fu_n (by decide), fu_n (by decide)] at v3
    have v3i := v3 i (by show i < 48; omega)
    have v2i := v2 (len - 49 - s + i) (by show _ < 256; omega)
    refine vm_go rfl bX1_encode_157 oX1_encode_157 ⟨_, _, hK2, rfl, ⟨fun q => absurd q (nI_ge hi9 (by omega)), fun _ => ⟨_, _, RS_t k2', rfl, ⟨256, f2, e2, len - 49 - s + i, nI_add _ _, by omega, fun _ => ⟨_, _, RS_t k2', rfl, ⟨48, f3, e3, i, rfl, by omega, fun _ => ⟨256, f2, e2, ha16, len - 49 - s + i, nI_add _ _, by omega, ?_⟩⟩⟩⟩⟩⟩⟩
    rw [v2i.1, v3i.1]
    generalize hq13 : vm_up h2 (a + 16) _ = h13
    have hx2 : d2 (len - 49 - s + i) ^^^ B 3 i < 256 := xor_lt v2i.2 v3i.2
    have b13 : bv h13 (zln 7) (a + zad 7) (b1 d2 (len - 49 - s + i) (d2 (len - 49 - s + i) ^^^ B 3 i)) := by
      show bv h13 256 (a + 16) _
      have := bv_up (h := h2) (fa := a + 16) (k := len - 49 - s + i) (v := d2 (len - 49 - s + i) ^^^ B 3 i) v2 hx2
      rw [← hq13]
      have e2 : (sb (d2 (len - 49 - s + i)) ^^^ sb (B 3 i)).toInt8.toInt32.toInt8.toInt32 = sb (d2 (len - 49 - s + i) ^^^ B 3 i) := by rw [xor_b, sb_self _ hx2]
      rw [← e2] at this
      exact this
    have F13 : fr h2 h13 (fun q => q = a + zad 7) := by rw [← hq13]; exact fr_up rfl
    clear hq13
    have k13 := RS_byt k2' (t := 7) (by decide) F13 b13
    rw [fu_fu] at k13
    refine vm_Th (by rw [← nI_1]; rfl) rfl (ih h13 ⟨⟨_, k13, fun j hj => ?_⟩, fr_trans F2' (fr_mono F13 x7)⟩)
    unfold b1
    by_cases e : j = len - 49 - s + i
    · rw [if_pos e, if_pos (by omega), hd2 _ (by omega), if_neg (by omega), e]
      congr 2; omega
    · rw [if_neg e, hd2 j hj]
      by_cases e2 : len - 49 - s ≤ j ∧ j < len - 49 - s + i
      · rw [if_pos e2, if_pos (by omega)]
      · rw [if_neg e2, if_neg (by omega)]
  rintro h14 ⟨⟨d2, k14, hd2⟩, F14⟩
  have hK14 := KO_fr hK F14 hKo
  refine vm_go rfl bX1_encode_157 oX1_encode_157 ⟨_, _, hK14, rfl, ⟨fun _ => ?_, fun q => absurd (nI_le (Nat.le_refl _) (by omega)) q⟩⟩
  refine vm_go rfl bX1_encode_193 oX1_encode_193 ⟨_, RS_t k14, 0, 0, _, x_top k14 hK14 (fr_bv F14 hsh hsho) hns h0, Nat.zero_le _, Nat.zero_le _, ?_⟩
  rintro _ h15 ⟨rfl, k15, F15⟩
  have F15 := fr_trans F14 (fr_mono F15 x7)
  rw [fu_e, fu_fu] at k15
  generalize hd3 : b1 d2 0 (d2 0 &&& kep (shb 0)) = d3' at *
  have hK15 := KO_fr hK F15 hKo
  obtain ⟨fk, ek, vk⟩ := RS_b k15 (j := 4) (by decide)
  rw [fu_n (by decide), fu_n (by decide), fu_n (by decide), fu_e] at vk
  obtain ⟨f7, e7, v7⟩ := RS_b k15 (j := 7) (by decide)
  rw [fu_e] at v7
  refine ⟨_, _, RS_t k15, rfl, ⟨_, _, RS_t k15, rfl, ⟨48, len - 49, 0, 48, 256, rfl, rfl, rfl, by decide, by omega, ha16, fk, f7, ek, e7, ?_⟩⟩⟩
  generalize hq16 : vm_up h15 (a + 16) _ = h16
  have b16 : bv h16 (zln 7) (a + zad 7) (app d3' (len - 49) c4' 48) := by
    show bv h16 256 (a + 16) _
    rw [← hq16]
    refine ⟨_, vm_upe, fun j hj => ?_⟩
    unfold va_cpy app
    by_cases e : len - 49 ≤ j ∧ j < len - 49 + 48
    · rw [if_pos e, if_pos e, Nat.zero_add]
      have : j - (len - 49) < 48 := by omega
      exact vk _ this
    · rw [if_neg e, if_neg e]; exact v7 j hj
  have F16 : fr h15 h16 (fun q => q = a + zad 7) := by rw [← hq16]; exact fr_up rfl
  clear hq16
  have k16 := RS_byt k15 (t := 7) (by decide) F16 b16
  have F16 := fr_trans F15 (fr_mono F16 x7)
  rw [fu_fu] at k16
  have hK16 := KO_fr hK F16 hKo
  obtain ⟨f8, e8, v8⟩ := b16
  refine ⟨_, _, RS_t k16, rfl, ⟨_, _, hK16, rfl, ⟨256, f8, e8, ha16, len - 1, eL1, by omega, ?_⟩⟩⟩
  generalize hq17 : vm_up h16 (a + 16) _ = h17
  have b17 : bv h17 (zln 7) (a + zad 7) (b1 (app d3' (len - 49) c4' 48) (len - 1) 188) := by
    show bv h17 256 (a + 16) _
    have := bv_up (h := h16) (fa := a + 16) (k := len - 1) (v := 188) v8 (by decide)
    rw [← hq17]
    exact this
  have F17 : fr h16 h17 (fun q => q = a + zad 7) := by rw [← hq17]; exact fr_up rfl
  clear hq17
  have k17 := RS_byt k16 (t := 7) (by decide) F17 b17
  have F17 := fr_trans F16 (fr_mono F17 x7)
  rw [fu_fu] at k17
  refine ⟨rfl, ⟨_, _, k17, fun i i4 i5 i6 i7 => by rw [fu_n i7, fu_n i6, fu_n i5, fu_n i4], ?_⟩, F17⟩
  rw [fu_e]
  unfold EM
  rw [hmk]
  refine sl_ext (fun j hj => ?_)
  rw [Nat.zero_add]
  have hX : ∀ j, 0 < j → j < len - 49 → d2 j = emX st3 kk3 mk len (shb 0) s salt j := by
    intro j hj0 hj1
    have hab : ahd (shb 0) ≤ j := by unfold ahd; split <;> omega
    have hm := hd0 j hab hj1
    unfold emX pdf
    rw [hd2 j (by omega), ← hd1, ← hm]
    unfold b1
    by_cases e1 : j + 1 = len - 49 - s
    · rw [if_neg (by omega), if_pos (by omega), if_pos e1]
      congr 2; omega
    · rw [if_neg e1]
      by_cases e2 : len - 49 - s ≤ j
      · rw [if_pos (by omega), if_pos e2, if_neg (by omega), ← hsa, gb_sl (by omega), Nat.zero_add]
      · rw [if_neg (by omega), if_neg e2, if_neg (by omega), Nat.xor_zero]
  unfold b1
  by_cases e1 : j = len - 1
  · rw [if_pos e1]
    unfold emf
    rw [if_neg (by omega), if_neg (by omega)]
  rw [if_neg e1]
  unfold app
  by_cases e2 : j < len - 49
  · rw [if_neg (by omega), ← hd3]
    unfold emf b1
    rw [if_pos e2]
    by_cases e3 : j = 0
    · rw [if_pos e3, if_pos e3]
      by_cases ht : shb 0 = 1
      · have : kep (shb 0) = 0 := by rw [ht]; decide +kernel
        rw [this, Nat.and_zero, Nat.and_zero]
      · have ha0 : ahd (shb 0) = 0 := by unfold ahd; rw [if_neg ht]
        have hm := hd0 0 (by omega) (by omega)
        have : d2 0 = emX st3 kk3 mk len (shb 0) s salt 0 := by
          unfold emX pdf
          rw [hd2 0 (by omega), ← hd1, ← hm]
          unfold b1
          rw [if_neg (by omega), if_neg (by omega), if_neg (by omega), if_neg (by omega), Nat.xor_zero]
        rw [this]
    · rw [if_neg e3, if_neg e3]
      exact hX j (by omega) e2
  · rw [if_pos (by omega)]
    unfold emf
    rw [if_neg e2, if_pos (by omega)]
    have := sl_all hc4' (j - (len - 49)) (by omega)
    rwa [Nat.zero_add] at this
end
