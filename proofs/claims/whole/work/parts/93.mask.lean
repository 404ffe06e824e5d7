/-! BlindRsa: makeMask, clearTop -/
def mgb (st kk : Nat → Int64) (mk : List Nat) (j : Nat) : Nat := gb (H3 st kk (mk ++ nb (j / 48 : Nat) 4)) (j % 48)
theorem mgb_lt {st kk : Nat → Int64} {mk : List Nat} {j : Nat} : mgb st kk mk j < 256 := ok8_gb H3_ok _
def ahd (t0 : Nat) : Nat := if t0 = 1 then 1 else 0
def kep (t0 : Nat) : Nat := 2 ^ Nat.log2 t0 - 1
theorem kep_e : ∀ t0, t0 < 256 → ∀ k, k < 9 → t0 / 2 ^ k = 1 → 2 ^ k - 1 = kep t0 := by unfold kep; decide +kernel
theorem kep_lt : ∀ t0, t0 < 256 → kep t0 < 128 := by unfold kep; decide +kernel
theorem and_b {x y : Nat} : (sb x &&& nI y).toInt8.toInt32 = sb (x &&& y) := by
  have e : Int32.ofNat (x &&& y) = Int32.ofNat x &&& Int32.ofNat y := by
    apply Int32.toBitVec_inj.mp
    rw [Int32.toBitVec_and]
    exact BitVec.ofNat_and
  unfold sb
  show (((Int32.ofNat x).toInt8.toInt32 &&& Int32.ofNat y).toInt8).toInt32 = _
  rw [e, Int32.toInt8_and, Int32.toInt8_and, Int8.toInt8_toInt32]
section
variable {l : Launch} {O : Nat → vm_Ob} {f9 : Value} {a : Nat} {h : vm_H} {w : List Nat} {B : Nat → Nat → Nat} {st2 kk2 : Nat → Int32} {st3 kk3 : Nat → Int64}
theorem EV_rr {h' : vm_H} {S : Nat → Prop} (k : EV st2 kk2 st3 kk3 h) (ha : a + 1000 < 1099511627776) (F : fr h h' S) (hS : ∀ q, S q → RR a q) : EV st2 kk2 st3 kk3 h' := EV_fr k (fun q hq => F.2 q (fun z => by have := hS q z; unfold RR at this; omega))
set_option maxHeartbeats 1000000 in
theorem x_mask {K ty len bs s sh se ki mo nsh : Nat} {lv : Int32} {shb : Nat → Nat} (k : RSc a h w B) (ev : EV st2 kk2 st3 kk3 h) (hK : KO h K ty len bs s sh se ki mo lv) (hKo : ¬ RR a K) (hsh : bv h nsh sh shb) (hsho : ¬ RR a sh) (hns : 0 < nsh) (hl1 : 66 ≤ len) (hl2 : len ≤ 256) :
    vm_Met (vm_env l O f9) mX1_makeMask 0 0 [.ref a, .ref K] h (fun r h' => r = none ∧ (∃ w' c5 c6, RSc a h' w' (fu (fu B 5 c5) 6 c6) ∧ ∀ j, ahd (shb 0) ≤ j → j < len - 49 → c5 j = mgb st3 kk3 (sl (B 4) 0 48) (j - ahd (shb 0))) ∧ fr h h' (RR a)) := by
  have k0 := k.1
  have ha14 : a + 14 < 1099511627776 := by omega
  have xw : ∀ q, (q = a + 10 ∨ q = a + 11) → RR a q := fun q hq => by unfold RR; omega
  have xh : ∀ q, ((a + 5 ≤ q ∧ q < a + 10) ∨ q = a + zad 6) → RR a q := fun q hq => by
    have hq : (a + 5 ≤ q ∧ q < a + 10) ∨ q = a + 15 := hq
    unfold RR; omega
  have x5 : ∀ q, q = a + zad 5 → RR a q := fun q hq => by
    have hq : q = a + 14 := hq
    unfold RR; omega
  obtain ⟨fs, es, vs⟩ := id hsh
  have vs0 := vs 0 hns
  generalize hah : ahd (shb 0) = ah
  have hah1 : ah ≤ 1 := by rw [← hah]; unfold ahd; split <;> omega
  generalize hmk : sl (B 4) 0 48 = mk
  have lmk : mk.length = 48 := by rw [← hmk, sl_len]
  refine vm_met rfl (Nat.le_of_ble_eq_true rfl) ?_
  have h19 : vm_T (vm_env l O f9) mX1_makeMask 0 0 19 [(0, .ref a), (1, .ref K)] [.int (nI ah)] h (fun r h' => r = none ∧ (∃ w' c5 c6, RSc a h' w' (fu (fu B 5 c5) 6 c6) ∧ ∀ j, ah ≤ j → j < len - 49 → c5 j = mgb st3 kk3 mk (j - ah)) ∧ fr h h' (RR a)) := by
    have em : nI len - 48 - 1 - nI ah = nI (len - 49 - ah) := by
      rw [show nI len - 48 = nI (len - 48) from nI_sub (b := 48) (by omega), show nI (len - 48) - 1 = nI (len - 48 - 1) from nI_sub (b := 1) (by omega), nI_sub (by omega)]
      congr 1
    refine vm_go rfl bX1_makeMask_19 oX1_makeMask_19 ⟨_, _, hK, rfl, ?_⟩
    refine vm_Th (lv' := [(0, .ref a), (1, .ref K), (2, .int (nI ah)), (3, .int (nI (len - 49 - ah))), (4, .int (nI 0))]) (h' := h) (by rw [← em]; rfl) rfl ?_
    refine vm_loop (fun i h2 => (∃ w' c5 c6, RSc a h2 w' (fu (fu B 5 c5) 6 c6) ∧ ∀ j, j < 48 * i → c5 (ah + j) = mgb st3 kk3 mk j) ∧ fr h h2 (RR a)) ((len - 49 - ah + 47) / 48) (fun i => [(0, .ref a), (1, .ref K), (2, .int (nI ah)), (3, .int (nI (len - 49 - ah))), (4, .int (nI i))]) 0 h (Nat.zero_le _) ⟨⟨w, B 5, B 6, by rw [fu_id, fu_id]; exact k, fun j hj => by omega⟩, fr_refl⟩ ?_ ?_
    · rintro h2 ⟨⟨w2, c5, c6, k2, hc⟩, F2⟩
      have e48 : nI ((len - 49 - ah + 47) / 48) * 48 = nI ((len - 49 - ah + 47) / 48 * 48) := nI_mul _ 48
      refine vm_go rfl bX1_makeMask_35 oX1_makeMask_35 ⟨fun _ => ?_, fun q => absurd (show nI (len - 49 - ah) ≤ nI ((len - 49 - ah + 47) / 48) * 48 by rw [e48]; exact nI_le (by omega) (by omega)) q⟩
      refine vm_go rfl bX1_makeMask_117 oX1_makeMask_117 ⟨rfl, ⟨w2, c5, c6, k2, fun j h1 h3 => ?_⟩, F2⟩
      have := hc (j - ah) (by omega)
      rwa [show ah + (j - ah) = j by omega] at this
    rintro i h2 _ hi ⟨⟨w2, c5, c6, k2, hc⟩, F2⟩ ih
    have e48 : nI i * 48 = nI (i * 48) := nI_mul i 48
    have e49 : nI ah + nI i * 48 = nI (ah + i * 48) := by rw [e48, nI_add]
    have hi4 : i ≤ 4 := by omega
    refine vm_go rfl bX1_makeMask_35 oX1_makeMask_35 ⟨fun q => absurd (show nI (len - 49 - ah) ≤ nI i * 48 from q) (by rw [e48]; exact nI_ge (by omega) (by omega)), fun _ => ?_⟩
    refine ⟨_, _, RS_t k2, rfl, ⟨_, RS_ro k2, 0, 0, _, x_clear k2, Nat.zero_le _, Nat.zero_le _, ?_⟩⟩
    rintro _ h3 ⟨rfl, k3, F3⟩
    have F3 := fr_trans F2 (fr_mono F3 xw)
    have b4 := RS_b k3 (j := 4) (by decide)
    rw [fu_n (by decide), fu_n (by decide)] at b4
    refine ⟨_, _, RS_t k3, rfl, ⟨_, _, RS_t k3, rfl, ⟨_, RS_ro k3, 0, 0, _, x_all (at9 := 0) (m := 48) k3 b4 (by decide) (by decide) (by decide), Nat.zero_le _, Nat.zero_le _, ?_⟩⟩⟩
    rintro _ h4 ⟨rfl, k4, F4⟩
    have F4 := fr_trans F3 (fr_mono F4 xw)
    rw [hmk, List.nil_append] at k4
    refine ⟨_, _, RS_t k4, rfl, ⟨_, RS_ro k4, 0, 0, _, x_numN (m := 4) (v := i) k4 (by rw [lmk]; decide) (by decide) (by omega), Nat.zero_le _, Nat.zero_le _, ?_⟩⟩
    rintro _ h5 ⟨rfl, k5, F5⟩
    have F5 := fr_trans F4 (fr_mono F5 xw)
    have ev5 := EV_rr ev k0 F5 (fun _ z => z)
    refine ⟨_, _, RS_t k5, rfl, ⟨_, _, RS_t k5, rfl, ⟨_, _, RS_t k5, rfl, ⟨_, (RS_H k5).1, 0, 0, _, x_h3 (t := 6) k5 ev5.1 (by decide), Nat.zero_le _, Nat.zero_le _, ?_⟩⟩⟩⟩
    rintro _ h6 ⟨rfl, ⟨c6', k6, hc6, _⟩, F6⟩
    have F6 := fr_trans F5 (fr_mono F6 xh)
    rw [fu_fu] at k6
    obtain ⟨fp, ep, vp⟩ := RS_b k6 (j := 6) (by decide)
    obtain ⟨fm, em', vm'⟩ := RS_b k6 (j := 5) (by decide)
    rw [fu_e] at vp
    rw [fu_n (by decide), fu_e] at vm'
    refine ⟨_, _, RS_t k6, rfl, ⟨_, _, RS_t k6, rfl, ⟨48, ah + i * 48, 0, 48, 304, rfl, e49, rfl, by decide, by omega, ha14, fp, fm, ep, em', ?_⟩⟩⟩
    generalize hq7 : vm_up h6 (a + 14) _ = h7
    have b7 : bv h7 (zln 5) (a + zad 5) (app c5 (ah + i * 48) c6' 48) := by
      show bv h7 304 (a + 14) _
      rw [← hq7]
      refine ⟨_, vm_upe, fun j hj => ?_⟩
      unfold va_cpy app
      by_cases e : ah + i * 48 ≤ j ∧ j < ah + i * 48 + 48
      · rw [if_pos e, if_pos e, Nat.zero_add]
        have : j - (ah + i * 48) < 48 := by omega
        exact vp _ this
      · rw [if_neg e, if_neg e]; exact vm' j hj
    have F7 : fr h6 h7 (fun q => q = a + zad 5) := by rw [← hq7]; exact fr_up rfl
    clear hq7
    have k7 := RS_byt k6 (t := 5) (by decide) F7 b7
    rw [fu_cm (k := 6) (m := 5) (by decide), fu_fu] at k7
    have F7 := fr_trans F6 (fr_mono F7 x5)
    refine vm_Th (by rw [← nI_1]; rfl) rfl (ih h7 ⟨⟨_, _, _, k7, fun j hj => ?_⟩, F7⟩)
    unfold app
    by_cases e : j < 48 * i
    · rw [if_neg (by omega)]; exact hc j e
    · rw [if_pos (by omega)]
      have hz := sl_all hc6 (ah + j - (ah + i * 48)) (by omega)
      rw [Nat.zero_add] at hz
      rw [hz]
      unfold mgb
      rw [show j / 48 = i by omega, show ah + j - (ah + i * 48) = j % 48 by omega]
  refine vm_go rfl bX1_makeMask_0 oX1_makeMask_0 ⟨_, _, hK, rfl, ⟨_, fs, es, 0, rfl, hns, fun _ => ?_⟩⟩
  rw [vs0.1]
  refine ⟨fun q => ?_, fun q => ?_⟩
  · have q : ¬ sb (shb 0) &&& 255 = nI 1 := q
    rw [sb_and _ vs0.2] at q
    rw [nI_ij (by omega) (by decide)] at q
    have : ah = 0 := by rw [← hah]; unfold ahd; rw [if_neg q]
    subst this
    exact vm_go rfl bX1_makeMask_18 oX1_makeMask_18 h19
  · have q : sb (shb 0) &&& 255 = nI 1 := q
    rw [sb_and _ vs0.2, nI_ij (by omega) (by decide)] at q
    have : ah = 1 := by rw [← hah]; unfold ahd; rw [if_pos q]
    subst this
    exact h19
theorem x_top {K ty len bs s sh se ki mo nsh : Nat} {lv : Int32} {shb : Nat → Nat} (k : RSc a h w B) (hK : KO h K ty len bs s sh se ki mo lv) (hsh : bv h nsh sh shb) (hns : 0 < nsh) (h0 : 0 < shb 0) :
    vm_Met (vm_env l O f9) mX1_clearTop 0 0 [.ref a, .ref K] h (fun r h' => r = none ∧ RSc a h' w (fu B 7 (b1 (B 7) 0 (B 7 0 &&& kep (shb 0)))) ∧ fr h h' (fun q => q = a + zad 7)) := by
  have k0 := k.1
  have ha16 : a + 16 < 1099511627776 := by omega
  obtain ⟨fs, es, vs⟩ := id hsh
  have vs0 := vs 0 hns
  refine vm_met rfl (Nat.le_of_ble_eq_true rfl) ?_
  refine vm_go rfl bX1_clearTop_0 oX1_clearTop_0 ⟨_, _, hK, rfl, ⟨_, fs, es, 0, rfl, hns, fun _ => ?_⟩⟩
  rw [vs0.1]
  refine vm_Th (lv' := [(0, .ref a), (1, .ref K), (2, .int (nI (2 ^ 0 - 1))), (3, .int (nI (shb 0 / 2 ^ 0)))]) (h' := h) ?_ rfl ?_
  · show _ = [(0, Value.ref a), (1, .ref K), (2, .int 0), (3, .int (sb (shb 0) &&& 255))]
    rw [sb_and _ vs0.2, Nat.pow_zero, Nat.div_one]; rfl
  have hb := vs0.2
  generalize shb 0 = t0 at *
  refine vm_while (σ := Nat) (fun j => j < 9 ∧ 1 ≤ t0 / 2 ^ j) (fun j => 9 - j) (fun j => [(0, .ref a), (1, .ref K), (2, .int (nI (2 ^ j - 1))), (3, .int (nI (t0 / 2 ^ j)))]) (fun _ => h) ?_ 0 ⟨by decide, by rw [Nat.pow_zero, Nat.div_one]; exact h0⟩
  rintro j ⟨hj, hj1⟩ ih
  have hsm : t0 / 2 ^ j ≤ t0 := Nat.div_le_self _ _
  refine vm_go rfl bX1_clearTop_13 oX1_clearTop_13 ⟨fun q => ?_, fun q => ?_⟩
  · have q : nI (t0 / 2 ^ j) ≤ nI 1 := q
    rw [nI_leI (by omega) (by decide)] at q
    have e1 := kep_e t0 hb j hj (by omega)
    rw [e1]
    have hkl := kep_lt t0 hb
    obtain ⟨f7, e7, v7⟩ := RS_b k (j := 7) (by decide)
    have v70 := v7 0 (by decide)
    refine vm_go rfl bX1_clearTop_31 oX1_clearTop_31 ⟨_, _, RS_t k, rfl, ⟨256, f7, e7, 0, rfl, by decide, fun _ => ⟨256, f7, e7, ha16, 0, rfl, by decide, ?_⟩⟩⟩
    rw [v70.1]
    generalize hq2 : vm_up h (a + 16) _ = h2
    have hlt : B 7 0 &&& kep t0 < 256 := Nat.lt_of_le_of_lt Nat.and_le_left v70.2
    have b2 : bv h2 (zln 7) (a + zad 7) (b1 (B 7) 0 (B 7 0 &&& kep t0)) := by
      show bv h2 256 (a + 16) _
      have := bv_up (h := h) (fa := a + 16) (k := 0) (v := B 7 0 &&& kep t0) v7 hlt
      rw [← hq2]
      have e2 : (sb (B 7 0) &&& nI (kep t0)).toInt8.toInt32.toInt8.toInt32 = sb (B 7 0 &&& kep t0) := by rw [and_b, sb_self _ hlt]
      rw [← e2] at this
      exact this
    have F2 : fr h h2 (fun q => q = a + zad 7) := by rw [← hq2]; exact fr_up rfl
    exact ⟨rfl, RS_byt k (t := 7) (by decide) F2 b2, F2⟩
  · have q : ¬ nI (t0 / 2 ^ j) ≤ nI 1 := q
    rw [nI_leI (by omega) (by decide)] at q
    have hj8 : j < 8 := by
      rcases Nat.lt_or_ge j 8 with z | z
      · exact z
      · have : j = 8 := by omega
        subst this
        have : t0 / 2 ^ 8 = 0 := Nat.div_eq_of_lt (by omega)
        omega
    have hp2 : 2 ^ (j + 1) = 2 * 2 ^ j := by rw [Nat.pow_succ, Nat.mul_comm]
    have hpp : 0 < 2 ^ j := Nat.pow_pos (by decide)
    have hd : t0 / 2 ^ (j + 1) = t0 / 2 ^ j / 2 := by rw [Nat.pow_succ, Nat.div_div_eq_div_mul]
    refine vm_Th ?_ rfl (ih (j + 1) ⟨by omega, by rw [hd]; omega⟩ (by omega))
    show _ = [(0, Value.ref a), (1, .ref K), (2, .int (2 * nI (2 ^ j - 1) + 1)), (3, .int (nI (t0 / 2 ^ j) >>> ((1 : Int32) &&& 31)))]
    have e1 : 2 * nI (2 ^ j - 1) + 1 = nI (2 ^ (j + 1) - 1) := by
      rw [show (2 : Int32) * nI (2 ^ j - 1) = nI (2 * (2 ^ j - 1)) from nI_mul 2 _, nI_1]
      congr 1
      omega
    have e2 : nI (t0 / 2 ^ j) >>> ((1 : Int32) &&& 31) = nI (t0 / 2 ^ (j + 1)) := by
      rw [iZ_nI, iZ_shr (by omega) (by omega) (k := 1) (by decide), hd, iZ_nI]
      congr 1
    rw [e1, e2]
end
