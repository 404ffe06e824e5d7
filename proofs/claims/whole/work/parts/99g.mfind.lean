/-! the mint: digest, finding KEYS -/
section
variable {l : Launch} {O : Nat → vm_Ob} {f9 : Value} {v lo ts kn an rd wr : Nat} {tb : Nat → Nat} {w ou : List Nat} {ke ae : Nat → Nat} {kf : Nat → aK} {af : Nat → aA} {D : Nat → Nat} {dn : Bool} {wl : Int} {st2 kk2 : Nat → Int32} {st3 kk3 : Nat → Int64} {h h' : vm_H}
theorem MB_hd (k : MB v tb ts ou kn an rd ke ae D dn wl wr h) (e : ∀ q, v ≤ q → q < v + 750 → q < v + 5 ∨ v + 13 ≤ q → h'.2 q = h.2 q) (n1 : ∃ w, rwl h' (v + 5) (v + 6) 1168 w) (n2 : HA h' (v + 7) (fun i => v + 8 + i)) : MB v tb ts ou kn an rd ke ae D dn wl wr h' := by
  obtain ⟨k0, k1, k2, k3, k4, k5, k6, k7, k8, k9⟩ := k
  exact ⟨(e v (by omega) (by omega) (by omega)).trans k0, row_cg k1 (e (v + 1) (by omega) (by omega) (by omega)) (e (v + 2) (by omega) (by omega) (by omega)), rwl_cg k2 (e (v + 3) (by omega) (by omega) (by omega)) (e (v + 4) (by omega) (by omega) (by omega)), n1, n2, (by obtain ⟨W, B, V, g, k⟩ := k5; exact ⟨W, B, V, g, OP_out k (fun q z1 z2 => e q (by omega) (by omega) (by omega))⟩), (by obtain ⟨w, B, k⟩ := k6; exact ⟨w, B, RS_out k (fun q z1 z2 => e q (by omega) (by omega) (by omega))⟩), dsk_cg k7 (e (v + 746) (by omega) (by omega) (by omega)) (e (v + 747) (by omega) (by omega) (by omega)), (e (v + 748) (by omega) (by omega) (by omega)).trans k8, (e (v + 749) (by omega) (by omega) (by omega)).trans k9⟩
theorem MV_uHD {S : Nat → Prop} (k : MV st3 kk3 v lo tb ts ou kn an rd ke ae kf af D dn wl wr h) (F : fr h h' S) (hS : ∀ q, S q → v + 5 ≤ q ∧ q < v + 13) (n1 : ∃ w, rwl h' (v + 5) (v + 6) 1168 w) (n2 : HA h' (v + 7) (fun i => v + 8 + i)) : MV st3 kk3 v lo tb ts ou kn an rd ke ae kf af D dn wl wr h' ∧ VF v lo h h' := by
  have kb := k.1
  refine ⟨MV_pt k F.1 (fun q z1 z2 => F.2 q (fun s => by have := hS q s; omega)) (fun m => MB_hd m (fun q z1 z2 z3 => F.2 q (fun s => by have := hS q s; omega)) n1 n2), VF_fr F (fun q s => by have := hS q s; omega)⟩
end
section
variable {l : Launch} {O : Nat → vm_Ob} {f9 : Value} {v lo ts kn an rd wr : Nat} {tb : Nat → Nat} {w ou : List Nat} {ke ae : Nat → Nat} {kf : Nat → aK} {af : Nat → aA} {D : Nat → Nat} {dn : Bool} {wl : Int} {st2 kk2 : Nat → Int32} {st3 kk3 : Nat → Int64} {h : vm_H}
theorem m_dig (k : MV st3 kk3 v lo tb ts ou kn an rd ke ae kf af D dn wl wr h) (ev : EV st2 kk2 st3 kk3 h) : vm_Met (vm_env l O f9) mX11_digest 0 0 [.ref v] h (fun r h' => r = some (.int (nI 32)) ∧ MV st3 kk3 v lo tb 0 (H2 st2 kk2 (sl tb 0 ts)) kn an rd ke ae kf af D dn wl wr h' ∧ VF v lo h h') := by
  have kb := k.1
  obtain ⟨wd, bd, rd9, _⟩ := MV_dr k
  refine vm_met rfl (Nat.le_of_ble_eq_true rfl) ?_
  refine vm_go rfl bX11_digest_0 oX11_digest_0 ⟨_, _, MV_0 k, rfl, ⟨_, _, MV_0 k, rfl, ⟨_, _, MV_0 k, rfl, ⟨_, _, rd9.1, rfl, ⟨_, (MV_hs k).1, 0, 0, _, l_h2 (MV_hs k) ev.1 (rwl_row (MV_tp k)) rd9.2.1 (show v + 2 ≠ v + 8 + 4 by omega) (by omega) (show v + 6 ≠ v + 8 + 4 by omega) (by omega) (by decide) (by decide), Nat.zero_le _, Nat.zero_le _, ?_⟩⟩⟩⟩⟩
  rintro _ h1 ⟨rfl, ⟨c1, b1, s1, _⟩, H1, F1⟩
  have rd1 : row h1 (v + 5) (v + 6) 1168 c1 wd.length := ⟨(F1.2 _ (by show ¬ (v + 5 = v + 8 + 0 ∨ v + 5 = v + 8 + 1 ∨ v + 5 = v + 8 + 4 ∨ v + 5 = v + 6); omega)).trans rd9.1, b1, rd9.2.2⟩
  obtain ⟨k1, V1⟩ := MV_uHD k F1 (fun q z => by
    have z : q = v + 8 + 0 ∨ q = v + 8 + 1 ∨ q = v + 8 + 4 ∨ q = v + 6 := z
    omega) ⟨_, rwl_row rd1⟩ H1
  refine ⟨_, MV_0 k1, 0, 0, _, m_use k1, Nat.zero_le _, Nat.zero_le _, ?_⟩
  rintro _ h2 ⟨rfl, k2, V2, F2⟩
  have b2 := fr_bv F2 b1 (by omega)
  have d2 := (F2.2 (v + 5) (by omega)).trans rd1.1
  refine ⟨_, _, MV_0 k2, rfl, ⟨_, _, d2, rfl, ⟨_, MV_0 k2, 0, 0, _, m_lve (m := 32) k2 b2 (by omega) (by decide) (by decide) (by decide), Nat.zero_le _, Nat.zero_le _, ?_⟩⟩⟩
  rintro _ h3 ⟨rfl, k3, V3⟩
  rw [s1] at k3
  exact ⟨rfl, k3, VF_t V1 (VF_t V2 V3)⟩
end
theorem sb_inj {a b : Nat} (ha : a < 256) (hb : b < 256) (e : sb a = sb b) : a = b := by
  have := sb_and a ha
  rw [e, sb_and b hb] at this
  exact ((nI_ij (by omega) (by omega)).mp this).symm
/-- the first of n -/
def fst9 (P : Nat → Bool) : Nat → Option Nat
  | 0 => none
  | n + 1 => match fst9 P n with
    | some i => some i
    | none => if P n = true then some n else none
theorem fst9_s {P : Nat → Bool} {n i : Nat} (h : fst9 P n = some i) : fst9 P (n + 1) = some i := by
  show (match fst9 P n with | some i => some i | none => _) = _
  rw [h]
theorem fst9_y {P : Nat → Bool} {n : Nat} (h : fst9 P n = none) (hp : P n = true) : fst9 P (n + 1) = some n := by
  show (match fst9 P n with | some i => some i | none => if P n = true then some n else none) = _
  rw [h]
  exact if_pos hp
theorem fst9_n {P : Nat → Bool} {n : Nat} (h : fst9 P n = none) (hp : P n ≠ true) : fst9 P (n + 1) = none := by
  show (match fst9 P n with | some i => some i | none => if P n = true then some n else none) = _
  rw [h]
  exact if_neg hp
theorem fst9_up {P : Nat → Bool} {n i : Nat} (h : fst9 P n = some i) : ∀ d, fst9 P (n + d) = some i
  | 0 => h
  | d + 1 => fst9_s (fst9_up h d)
theorem fst9_le {P : Nat → Bool} {n m i : Nat} (h : fst9 P n = some i) (hm : n ≤ m) : fst9 P m = some i := by
  have := fst9_up h (m - n)
  rwa [show n + (m - n) = m by omega] at this
theorem fst9_P {P : Nat → Bool} {i : Nat} : ∀ n, fst9 P n = some i → i < n ∧ P i = true
  | 0, h => nomatch h
  | n + 1, h => by
    cases hc : fst9 P n with
    | some j =>
      rw [fst9_s hc] at h
      cases h
      have := fst9_P n hc
      exact ⟨by omega, this.2⟩
    | none =>
      by_cases hp : P n = true
      · rw [fst9_y hc hp] at h
        cases h
        exact ⟨by omega, hp⟩
      · rw [fst9_n hc hp] at h
        cases h
/-- a KEY's object and rows -/
theorem KY_o {h : vm_H} {v e : Nat} {x : aK} (k : KY h v e x) : ∃ bs sh se id mo, KO h (e + 2) (kty x) (ksz x) bs (ksa x) sh se id mo (bi (klv x)) ∧ bw h sh (ksh x) ∧ bw h se (kse x) ∧ bw h id (kid x) ∧ ((e ≤ sh ∧ sh < e + kx x) ∧ (e ≤ se ∧ se < e + kx x) ∧ e ≤ id ∧ id < e + kx x) ∧ (kty x = 1 → bs = 49) ∧ (kty x = 2 → bs = ksz x) := by
  obtain ⟨ki, k⟩ := k
  rcases k with ⟨t, k1, k2, k3, k4⟩ | ⟨t, ⟨ni, ri, k1⟩, k2⟩
  · have ex : kx x = 4 := if_pos t
    obtain ⟨_, _, _, _, i | i⟩ := ki
    · refine ⟨49, e + 1, e, e + 3, v + 13 + 661, ?_, k3, k2, k4, ?_, fun _ => rfl, fun z => by omega⟩
      · rw [t, i.2.1, i.2.2.1]; exact k1
      · rw [ex]; omega
    · omega
  · have ex : kx x = 27 := if_neg (by omega)
    obtain ⟨_, _, _, _, i | i⟩ := ki
    · omega
    · refine ⟨ksz x, e, e + 1, e + 26, Am (e + 3) (e + 4) 0, ?_, ?_, ?_, k2, ?_, fun z => by omega, fun _ => rfl⟩
      · rw [t]; exact k1.1
      · unfold bw; rw [i.2.2.1]; exact k1.2.1
      · unfold bw; rw [i.2.2.2]; exact k1.2.2.1
      · rw [ex]; omega
theorem KY_ty {h : vm_H} {v e : Nat} {x : aK} (k : KY h v e x) : kty x = 1 ∨ kty x = 2 := by
  rcases k.2 with z | z
  · exact Or.inl z.1
  · exact Or.inr z.1
section
variable {l : Launch} {O : Nat → vm_Ob} {f9 : Value} {v lo ts kn an rd wr : Nat} {tb : Nat → Nat} {w ou : List Nat} {ke ae : Nat → Nat} {kf : Nat → aK} {af : Nat → aA} {D : Nat → Nat} {dn : Bool} {wl : Int} {st2 kk2 : Nat → Int32} {st3 kk3 : Nat → Int64} {h : vm_H}
theorem m_lbl {t : Nat} (k : MV st3 kk3 v lo tb ts ou kn an rd ke ae kf af D dn wl wr h) (ht : t < 3) : vm_Met (vm_env l O f9) mX11_liveByLastByte 0 0 [.ref v, .int (nI t)] h (fun r h' => ((∃ i, fst9 (fun i => klv (kf i) && (decide (kty (kf i) = t) && decide (gb (kid (kf i)) 31 = tb 2))) kn = some i ∧ r = some (.ref (ke i + 2))) ∨ (fst9 (fun i => klv (kf i) && (decide (kty (kf i) = t) && decide (gb (kid (kf i)) 31 = tb 2))) kn = none ∧ r = some .null)) ∧ h' = h) := by
  have hkn := MV_kn k
  obtain ⟨ft, eft, vft⟩ := (MV_tp k).2.1
  suffices H : ∀ Q : Option Value → vm_H → Prop, (∀ r h', (((∃ i, fst9 (fun i => klv (kf i) && (decide (kty (kf i) = t) && decide (gb (kid (kf i)) 31 = tb 2))) kn = some i ∧ r = some (.ref (ke i + 2))) ∨ (fst9 (fun i => klv (kf i) && (decide (kty (kf i) = t) && decide (gb (kid (kf i)) 31 = tb 2))) kn = none ∧ r = some .null)) ∧ h' = h) → Q r h') → vm_Met (vm_env l O f9) mX11_liveByLastByte 0 0 [.ref v, .int (nI t)] h Q from H _ (fun _ _ z => z)
  intro Q hQ
  refine vm_met rfl (Nat.le_of_ble_eq_true rfl) ?_
  refine vm_go rfl bX11_liveByLastByte_0 oX11_liveByLastByte_0 ?_
  refine vm_Th (lv' := [(0, .ref v), (1, .int (nI t)), (2, .int (nI 0))]) (h' := h) rfl rfl ?_
  -- the fourth local is dropped at the head of the loop
  have L : ∀ n i, n + i = kn → fst9 (fun i => klv (kf i) && (decide (kty (kf i) = t) && decide (gb (kid (kf i)) 31 = tb 2))) i = none → ∀ lv3 : vm_L, vm_T (vm_env l O f9) mX11_liveByLastByte 0 0 2 ([(0, .ref v), (1, .int (nI t)), (2, .int (nI i))] ++ lv3) [] h Q := by
    intro n
    induction n with
    | zero =>
      intro i hi hn lv3
      refine vm_less [0, 1, 2] (lv' := [(0, .ref v), (1, .int (nI t)), (2, .int (nI i))]) rfl ?_
      refine vm_go rfl bX11_liveByLastByte_2 oX11_liveByLastByte_2 ⟨_, _, MV_0 k, rfl, ⟨fun _ => ?_, fun q => absurd (nI_le (a := kn) (b := i) (by omega) (by omega)) q⟩⟩
      exact vm_go rfl bX11_liveByLastByte_59 oX11_liveByLastByte_59 (hQ _ _ ⟨Or.inr ⟨by rw [← show i = kn by omega]; exact hn, rfl⟩, rfl⟩)
    | succ n ih =>
      intro i hi hn lv3
      refine vm_less [0, 1, 2] (lv' := [(0, .ref v), (1, .int (nI t)), (2, .int (nI i))]) rfl ?_
      have hik : i < kn := by omega
      obtain ⟨bs, sh, se, ia, mo, kO, _, _, kI, _, _⟩ := KY_o (MV_ky k hik).2
      have l32 : (kid (kf i)).length = 32 := (MV_ky k hik).2.1.2.2.2.1
      have kI := bw_n kI l32
      have hty := KY_ty (MV_ky k hik).2
      have nx : (fun i => klv (kf i) && (decide (kty (kf i) = t) && decide (gb (kid (kf i)) 31 = tb 2))) i ≠ true → vm_T (vm_env l O f9) mX11_liveByLastByte 0 0 53 [(0, .ref v), (1, .int (nI t)), (2, .int (nI i)), (3, .ref (ke i + 2))] [] h Q := by
        intro np
        refine vm_go rfl bX11_liveByLastByte_53 oX11_liveByLastByte_53 ?_
        refine vm_Th (lv' := [(0, .ref v), (1, .int (nI t)), (2, .int (nI (i + 1))), (3, .ref (ke i + 2))]) (h' := h) (by rw [← nI_1]; rfl) rfl ?_
        exact ih (i + 1) (by omega) (fst9_n hn np) [(3, .ref (ke i + 2))]
      have hP : (fun i => klv (kf i) && (decide (kty (kf i) = t) && decide (gb (kid (kf i)) 31 = tb 2))) i = true ↔ klv (kf i) = true ∧ kty (kf i) = t ∧ gb (kid (kf i)) 31 = tb 2 := by
        show (klv (kf i) && (decide (kty (kf i) = t) && decide (gb (kid (kf i)) 31 = tb 2))) = true ↔ _
        rw [Bool.and_eq_true, Bool.and_eq_true, decide_eq_true_iff, decide_eq_true_iff]
      have yes : (fun i => klv (kf i) && (decide (kty (kf i) = t) && decide (gb (kid (kf i)) 31 = tb 2))) i = true → Q (some (.ref (ke i + 2))) h := fun yp => hQ _ _ ⟨Or.inl ⟨i, fst9_le (fst9_y hn yp) (by omega), rfl⟩, rfl⟩
      refine vm_go rfl bX11_liveByLastByte_2 oX11_liveByLastByte_2 ⟨_, _, MV_0 k, rfl, ⟨fun q => absurd q (nI_ge hik (by omega)), fun _ => ⟨_, _, MV_0 k, rfl, ⟨_, _, _, _, MV_kr k, by decide, rfl, i, rfl, by omega, KQR_at hik, ⟨_, _, kO, rfl, ?_⟩⟩⟩⟩⟩
      cases hl : klv (kf i) with
      | false => exact ⟨fun _ => nx (fun z => by have := (hP.mp z).1; rw [hl] at this; exact nomatch this), fun q => absurd rfl q⟩
      | true =>
        refine ⟨fun q => absurd q (by decide), fun _ => ⟨_, _, kO, rfl, ⟨fun q => nx ?_, fun q => ?_⟩⟩⟩
        · have q : ¬ nI (kty (kf i)) = nI t := q
          rw [nI_ij (by omega) (by omega)] at q
          exact fun z => q (hP.mp z).2.1
        · have q : nI (kty (kf i)) = nI t := q
          rw [nI_ij (by omega) (by omega)] at q
          obtain ⟨fi, efi, vfi⟩ := kI
          refine ⟨_, _, kO, rfl, ⟨_, fi, efi, 31, rfl, by decide, fun _ => ⟨_, _, MV_0 k, rfl, ⟨_, _, (MV_tp k).1, rfl, ⟨_, ft, eft, 2, rfl, by decide, fun _ => ⟨fun q2 => nx ?_, fun q2 => yes ?_⟩⟩⟩⟩⟩⟩
          · have q2 : ¬ fi 31 = ft 2 := q2
            rw [(vfi 31 (by decide)).1, (vft 2 (by decide)).1] at q2
            exact fun z => q2 (by rw [(hP.mp z).2.2])
          · have q2 : fi 31 = ft 2 := q2
            rw [(vfi 31 (by decide)).1, (vft 2 (by decide)).1] at q2
            exact hP.mpr ⟨hl, q, sb_inj (vfi 31 (by decide)).2 (vft 2 (by decide)).2 q2⟩
  exact L kn 0 (by omega) rfl []
theorem m_lbi {t : Nat} (k : MV st3 kk3 v lo tb ts ou kn an rd ke ae kf af D dn wl wr h) (ht : t < 3) : vm_Met (vm_env l O f9) mX11_liveById 0 0 [.ref v, .int (nI t)] h (fun r h' => ((∃ i, fst9 (fun i => klv (kf i) && (decide (kty (kf i) = t) && decide (kid (kf i) = sl tb 66 32))) kn = some i ∧ r = some (.ref (ke i + 2))) ∨ (fst9 (fun i => klv (kf i) && (decide (kty (kf i) = t) && decide (kid (kf i) = sl tb 66 32))) kn = none ∧ r = some .null)) ∧ h' = h) := by
  have hkn := MV_kn k
  obtain ⟨ft, eft, vft⟩ := (MV_tp k).2.1
  suffices H : ∀ Q : Option Value → vm_H → Prop, (∀ r h', (((∃ i, fst9 (fun i => klv (kf i) && (decide (kty (kf i) = t) && decide (kid (kf i) = sl tb 66 32))) kn = some i ∧ r = some (.ref (ke i + 2))) ∨ (fst9 (fun i => klv (kf i) && (decide (kty (kf i) = t) && decide (kid (kf i) = sl tb 66 32))) kn = none ∧ r = some .null)) ∧ h' = h) → Q r h') → vm_Met (vm_env l O f9) mX11_liveById 0 0 [.ref v, .int (nI t)] h Q from H _ (fun _ _ z => z)
  intro Q hQ
  refine vm_met rfl (Nat.le_of_ble_eq_true rfl) ?_
  refine vm_go rfl bX11_liveById_0 oX11_liveById_0 ?_
  refine vm_Th (lv' := [(0, .ref v), (1, .int (nI t)), (2, .int (nI 0))]) (h' := h) rfl rfl ?_
  -- the fourth local is dropped at the head of the loop
  have L : ∀ n i, n + i = kn → fst9 (fun i => klv (kf i) && (decide (kty (kf i) = t) && decide (kid (kf i) = sl tb 66 32))) i = none → ∀ lv3 : vm_L, vm_T (vm_env l O f9) mX11_liveById 0 0 2 ([(0, .ref v), (1, .int (nI t)), (2, .int (nI i))] ++ lv3) [] h Q := by
    intro n
    induction n with
    | zero =>
      intro i hi hn lv3
      refine vm_less [0, 1, 2] (lv' := [(0, .ref v), (1, .int (nI t)), (2, .int (nI i))]) rfl ?_
      refine vm_go rfl bX11_liveById_2 oX11_liveById_2 ⟨_, _, MV_0 k, rfl, ⟨fun _ => ?_, fun q => absurd (nI_le (a := kn) (b := i) (by omega) (by omega)) q⟩⟩
      exact vm_go rfl bX11_liveById_62 oX11_liveById_62 (hQ _ _ ⟨Or.inr ⟨by rw [← show i = kn by omega]; exact hn, rfl⟩, rfl⟩)
    | succ n ih =>
      intro i hi hn lv3
      refine vm_less [0, 1, 2] (lv' := [(0, .ref v), (1, .int (nI t)), (2, .int (nI i))]) rfl ?_
      have hik : i < kn := by omega
      obtain ⟨bs, sh, se, ia, mo, kO, _, _, kI, _, _⟩ := KY_o (MV_ky k hik).2
      have l32 : (kid (kf i)).length = 32 := (MV_ky k hik).2.1.2.2.2.1
      have kI := bw_n kI l32
      have hty := KY_ty (MV_ky k hik).2
      have nx : (fun i => klv (kf i) && (decide (kty (kf i) = t) && decide (kid (kf i) = sl tb 66 32))) i ≠ true → vm_T (vm_env l O f9) mX11_liveById 0 0 56 [(0, .ref v), (1, .int (nI t)), (2, .int (nI i)), (3, .ref (ke i + 2))] [] h Q := by
        intro np
        refine vm_go rfl bX11_liveById_56 oX11_liveById_56 ?_
        refine vm_Th (lv' := [(0, .ref v), (1, .int (nI t)), (2, .int (nI (i + 1))), (3, .ref (ke i + 2))]) (h' := h) (by rw [← nI_1]; rfl) rfl ?_
        exact ih (i + 1) (by omega) (fst9_n hn np) [(3, .ref (ke i + 2))]
      have hP : (fun i => klv (kf i) && (decide (kty (kf i) = t) && decide (kid (kf i) = sl tb 66 32))) i = true ↔ klv (kf i) = true ∧ kty (kf i) = t ∧ kid (kf i) = sl tb 66 32 := by
        show (klv (kf i) && (decide (kty (kf i) = t) && decide (kid (kf i) = sl tb 66 32))) = true ↔ _
        rw [Bool.and_eq_true, Bool.and_eq_true, decide_eq_true_iff, decide_eq_true_iff]
      have yes : (fun i => klv (kf i) && (decide (kty (kf i) = t) && decide (kid (kf i) = sl tb 66 32))) i = true → Q (some (.ref (ke i + 2))) h := fun yp => hQ _ _ ⟨Or.inl ⟨i, fst9_le (fst9_y hn yp) (by omega), rfl⟩, rfl⟩
      refine vm_go rfl bX11_liveById_2 oX11_liveById_2 ⟨_, _, MV_0 k, rfl, ⟨fun q => absurd q (nI_ge hik (by omega)), fun _ => ⟨_, _, MV_0 k, rfl, ⟨_, _, _, _, MV_kr k, by decide, rfl, i, rfl, by omega, KQR_at hik, ⟨_, _, kO, rfl, ?_⟩⟩⟩⟩⟩
      cases hl : klv (kf i) with
      | false => exact ⟨fun _ => nx (fun z => by have := (hP.mp z).1; rw [hl] at this; exact nomatch this), fun q => absurd rfl q⟩
      | true =>
        refine ⟨fun q => absurd q (by decide), fun _ => ⟨_, _, kO, rfl, ⟨fun q => nx ?_, fun q => ?_⟩⟩⟩
        · have q : ¬ nI (kty (kf i)) = nI t := q
          rw [nI_ij (by omega) (by omega)] at q
          exact fun z => q (hP.mp z).2.1
        · have q : nI (kty (kf i)) = nI t := q
          rw [nI_ij (by omega) (by omega)] at q
          refine ⟨_, _, kO, rfl, ⟨_, _, MV_0 k, rfl, ⟨_, _, (MV_tp k).1, rfl, ⟨0, 0, _, w_same (at9 := 0) (bt := 66) (many := 32) kI (MV_tp k).2.1 (by decide) (by decide) (by decide), Nat.zero_le _, Nat.zero_le _, ?_⟩⟩⟩⟩
          rintro _ h1 ⟨e1, x, rfl, hx⟩
          rw [e1]
          rcases hx with ⟨rfl, hx⟩ | ⟨rfl, j, hj, hx⟩
          · refine ⟨fun q => absurd q (by decide), fun _ => yes ?_⟩
            have e : kid (kf i) = sl tb 66 32 := by
              rw [← sl_gb (kid (kf i)), l32]
              exact sl_ext (fun j hj => hx j hj)
            exact hP.mpr ⟨hl, q, e⟩
          · refine ⟨fun _ => nx ?_, fun q => absurd rfl q⟩
            exact fun z => hx (by rw [(hP.mp z).2.2, gb_sl (by omega), Nat.zero_add])
  exact L kn 0 (by omega) rfl []
end
