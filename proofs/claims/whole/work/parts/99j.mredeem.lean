/-! the mint: redeem -/
def bX11_redeemx_0 : List vm_J := [(1, .aload_n 0, 0, 0, 0, .null), (3, .invokevirtual 93, 120, 0, 11, .null), (1, .istore_n 1, 0, 0, 0, .null)]
set_option maxRecDepth 20000 in
theorem oX11_redeemx_0 : vm_okB 11 mX11_redeem 0 bX11_redeemx_0 = true := by decide +kernel
def bX11_redeemx_5 : List vm_J := [(1, .aload_n 0, 0, 0, 0, .null), (3, .getfield 48, 11, 6, 0, .null), (3, .getfield 223, 10, 1, 0, .null), (3, .ifCond .eq 6, 18, 0, 0, .null), (2, .bipush (-9), 0, 0, 0, .int (-9)), (1, .ireturn, 0, 0, 0, .null)]
set_option maxRecDepth 20000 in
theorem oX11_redeemx_5 : vm_okB 11 mX11_redeem 5 bX11_redeemx_5 = true := by decide +kernel
def bX11_redeemx_18 : List vm_J := [(1, .aload_n 0, 0, 0, 0, .null), (1, .iload_n 1, 0, 0, 0, .null), (2, .bipush 98, 0, 0, 0, .int 98), (3, .invokevirtual 174, 123, 2, 11, .null), (1, .istore_n 2, 0, 0, 0, .null)]
set_option maxRecDepth 20000 in
theorem oX11_redeemx_18 : vm_okB 11 mX11_redeem 18 bX11_redeemx_18 = true := by decide +kernel
def bX11_redeemx_26 : List vm_J := [(1, .iload_n 1, 0, 0, 0, .null), (2, .bipush 98, 0, 0, 0, .int 98), (3, .if_icmp .ge 6, 35, 0, 0, .null), (2, .bipush (-2), 0, 0, 0, .int (-2)), (1, .ireturn, 0, 0, 0, .null)]
set_option maxRecDepth 20000 in
theorem oX11_redeemx_26 : vm_okB 11 mX11_redeem 26 bX11_redeemx_26 = true := by decide +kernel
def bX11_redeemx_35 : List vm_J := [(1, .aload_n 0, 0, 0, 0, .null), (1, .iload_n 2, 0, 0, 0, .null), (3, .invokevirtual 226, 125, 1, 11, .null), (1, .astore_n 3, 0, 0, 0, .null)]
set_option maxRecDepth 20000 in
theorem oX11_redeemx_35 : vm_okB 11 mX11_redeem 35 bX11_redeemx_35 = true := by decide +kernel
def bX11_redeemx_41 : List vm_J := [(1, .aload_n 3, 0, 0, 0, .null), (3, .ifnonnull 6, 48, 0, 0, .null), (2, .bipush (-3), 0, 0, 0, .int (-3)), (1, .ireturn, 0, 0, 0, .null)]
set_option maxRecDepth 20000 in
theorem oX11_redeemx_41 : vm_okB 11 mX11_redeem 41 bX11_redeemx_41 = true := by decide +kernel
def bX11_redeemx_48 : List vm_J := [(1, .iload_n 1, 0, 0, 0, .null), (2, .bipush 98, 0, 0, 0, .int 98), (1, .aload_n 3, 0, 0, 0, .null), (3, .getfield 152, 5, 1, 0, .null), (1, .iadd, 0, 0, 0, .null), (3, .if_icmp .eq 6, 62, 0, 0, .null), (2, .bipush (-2), 0, 0, 0, .int (-2)), (1, .ireturn, 0, 0, 0, .null)]
set_option maxRecDepth 20000 in
theorem oX11_redeemx_48 : vm_okB 11 mX11_redeem 48 bX11_redeemx_48 = true := by decide +kernel
def bX11_redeemx_62 : List vm_J := [(1, .iload_n 2, 0, 0, 0, .null), (1, .iconst 1, 0, 0, 0, .int 1), (3, .if_icmp .ne 21, 85, 0, 0, .null), (1, .aload_n 0, 0, 0, 0, .null), (3, .getfield 34, 11, 4, 0, .null), (1, .aload_n 3, 0, 0, 0, .null), (1, .aload_n 0, 0, 0, 0, .null), (3, .getfield 14, 11, 0, 0, .null), (3, .getfield 85, 9, 0, 0, .null), (3, .invokevirtual 229, 75, 2, 7, .null), (3, .goto 18, 100, 0, 0, .null)]
set_option maxRecDepth 20000 in
theorem oX11_redeemx_62 : vm_okB 11 mX11_redeem 62 bX11_redeemx_62 = true := by decide +kernel
def bX11_redeemx_85 : List vm_J := [(1, .aload_n 0, 0, 0, 0, .null), (3, .getfield 41, 11, 5, 0, .null), (1, .aload_n 3, 0, 0, 0, .null), (1, .aload_n 0, 0, 0, 0, .null), (3, .getfield 14, 11, 0, 0, .null), (3, .getfield 85, 9, 0, 0, .null), (3, .invokevirtual 233, 9, 2, 1, .null)]
set_option maxRecDepth 20000 in
theorem oX11_redeemx_85 : vm_okB 11 mX11_redeem 85 bX11_redeemx_85 = true := by decide +kernel
def bX11_redeemx_100 : List vm_J := [(2, .istore 4, 0, 0, 0, .null)]
set_option maxRecDepth 20000 in
theorem oX11_redeemx_100 : vm_okB 11 mX11_redeem 100 bX11_redeemx_100 = true := by decide +kernel
def bX11_redeemx_102 : List vm_J := [(2, .iload 4, 0, 0, 0, .null), (3, .ifCond .ne 6, 110, 0, 0, .null), (2, .bipush (-4), 0, 0, 0, .int (-4)), (1, .ireturn, 0, 0, 0, .null)]
set_option maxRecDepth 20000 in
theorem oX11_redeemx_102 : vm_okB 11 mX11_redeem 102 bX11_redeemx_102 = true := by decide +kernel
def bX11_redeemx_110 : List vm_J := [(1, .aload_n 0, 0, 0, 0, .null), (3, .getfield 48, 11, 6, 0, .null), (1, .aload_n 0, 0, 0, 0, .null), (3, .getfield 14, 11, 0, 0, .null), (3, .getfield 85, 9, 0, 0, .null), (1, .iconst 2, 0, 0, 0, .int 2), (3, .invokevirtual 236, 99, 2, 10, .null), (2, .istore 5, 0, 0, 0, .null)]
set_option maxRecDepth 20000 in
theorem oX11_redeemx_110 : vm_okB 11 mX11_redeem 110 bX11_redeemx_110 = true := by decide +kernel
def bX11_redeemx_127 : List vm_J := [(2, .iload 5, 0, 0, 0, .null), (3, .ifCond .ne 13, 142, 0, 0, .null), (1, .aload_n 0, 0, 0, 0, .null), (1, .dup, 0, 0, 0, .null), (3, .getfield 71, 11, 11, 0, .null), (1, .iconst 1, 0, 0, 0, .int 1), (1, .iadd, 0, 0, 0, .null), (3, .putfield 71, 11, 11, 0, .null)]
set_option maxRecDepth 20000 in
theorem oX11_redeemx_127 : vm_okB 11 mX11_redeem 127 bX11_redeemx_127 = true := by decide +kernel
def bX11_redeemx_142 : List vm_J := [(2, .iload 5, 0, 0, 0, .null), (1, .ireturn, 0, 0, 0, .null)]
set_option maxRecDepth 20000 in
theorem oX11_redeemx_142 : vm_okB 11 mX11_redeem 142 bX11_redeemx_142 = true := by decide +kernel
section
variable {l : Launch} {O : Nat → vm_Ob} {f9 : Value} {v lo ts kn an rd wr : Nat} {tb : Nat → Nat} {w ou : List Nat} {ke ae : Nat → Nat} {kf : Nat → aK} {af : Nat → aA} {D : Nat → Nat} {dn : Bool} {wl : Int} {st2 kk2 : Nat → Int32} {st3 kk3 : Nat → Int64} {h : vm_H}
theorem m_lby {t : Int} (k : MV st3 kk3 v lo tb ts ou kn an rd ke ae kf af D dn wl wr h) (ht : -1 ≤ t ∧ t < 3) : vm_Met (vm_env l O f9) mX11_liveById 0 0 [.ref v, .int (iZ t)] h (fun r h' => ((∃ i, fst9 (fun i => klv (kf i) && (decide ((kty (kf i) : Int) = t) && decide (kid (kf i) = sl tb 66 32))) kn = some i ∧ r = some (.ref (ke i + 2))) ∨ (fst9 (fun i => klv (kf i) && (decide ((kty (kf i) : Int) = t) && decide (kid (kf i) = sl tb 66 32))) kn = none ∧ r = some .null)) ∧ h' = h) := by
  have hkn := MV_kn k
  obtain ⟨ft, eft, vft⟩ := (MV_tp k).2.1
  suffices H : ∀ Q : Option Value → vm_H → Prop, (∀ r h', (((∃ i, fst9 (fun i => klv (kf i) && (decide ((kty (kf i) : Int) = t) && decide (kid (kf i) = sl tb 66 32))) kn = some i ∧ r = some (.ref (ke i + 2))) ∨ (fst9 (fun i => klv (kf i) && (decide ((kty (kf i) : Int) = t) && decide (kid (kf i) = sl tb 66 32))) kn = none ∧ r = some .null)) ∧ h' = h) → Q r h') → vm_Met (vm_env l O f9) mX11_liveById 0 0 [.ref v, .int (iZ t)] h Q from H _ (fun _ _ z => z)
  intro Q hQ
  refine vm_met rfl (Nat.le_of_ble_eq_true rfl) ?_
  refine vm_go rfl bX11_liveById_0 oX11_liveById_0 ?_
  refine vm_Th (lv' := [(0, .ref v), (1, .int (iZ t)), (2, .int (nI 0))]) (h' := h) rfl rfl ?_
  -- the fourth local is dropped at the head of the loop
  have L : ∀ n i, n + i = kn → fst9 (fun i => klv (kf i) && (decide ((kty (kf i) : Int) = t) && decide (kid (kf i) = sl tb 66 32))) i = none → ∀ lv3 : vm_L, vm_T (vm_env l O f9) mX11_liveById 0 0 2 ([(0, .ref v), (1, .int (iZ t)), (2, .int (nI i))] ++ lv3) [] h Q := by
    intro n
    induction n with
    | zero =>
      intro i hi hn lv3
      refine vm_less [0, 1, 2] (lv' := [(0, .ref v), (1, .int (iZ t)), (2, .int (nI i))]) rfl ?_
      refine vm_go rfl bX11_liveById_2 oX11_liveById_2 ⟨_, _, MV_0 k, rfl, ⟨fun _ => ?_, fun q => absurd (nI_le (a := kn) (b := i) (by omega) (by omega)) q⟩⟩
      exact vm_go rfl bX11_liveById_62 oX11_liveById_62 (hQ _ _ ⟨Or.inr ⟨by rw [← show i = kn by omega]; exact hn, rfl⟩, rfl⟩)
    | succ n ih =>
      intro i hi hn lv3
      refine vm_less [0, 1, 2] (lv' := [(0, .ref v), (1, .int (iZ t)), (2, .int (nI i))]) rfl ?_
      have hik : i < kn := by omega
      obtain ⟨bs, sh, se, ia, mo, kO, _, _, kI, _, _⟩ := KY_o (MV_ky k hik).2
      have l32 : (kid (kf i)).length = 32 := (MV_ky k hik).2.1.2.2.2.1
      have kI := bw_n kI l32
      have hty := KY_ty (MV_ky k hik).2
      have nx : (fun i => klv (kf i) && (decide ((kty (kf i) : Int) = t) && decide (kid (kf i) = sl tb 66 32))) i ≠ true → vm_T (vm_env l O f9) mX11_liveById 0 0 56 [(0, .ref v), (1, .int (iZ t)), (2, .int (nI i)), (3, .ref (ke i + 2))] [] h Q := by
        intro np
        refine vm_go rfl bX11_liveById_56 oX11_liveById_56 ?_
        refine vm_Th (lv' := [(0, .ref v), (1, .int (iZ t)), (2, .int (nI (i + 1))), (3, .ref (ke i + 2))]) (h' := h) (by rw [← nI_1]; rfl) rfl ?_
        exact ih (i + 1) (by omega) (fst9_n hn np) [(3, .ref (ke i + 2))]
      have hP : (fun i => klv (kf i) && (decide ((kty (kf i) : Int) = t) && decide (kid (kf i) = sl tb 66 32))) i = true ↔ klv (kf i) = true ∧ (kty (kf i) : Int) = t ∧ kid (kf i) = sl tb 66 32 := by
        show (klv (kf i) && (decide ((kty (kf i) : Int) = t) && decide (kid (kf i) = sl tb 66 32))) = true ↔ _
        rw [Bool.and_eq_true, Bool.and_eq_true, decide_eq_true_iff, decide_eq_true_iff]
      have yes : (fun i => klv (kf i) && (decide ((kty (kf i) : Int) = t) && decide (kid (kf i) = sl tb 66 32))) i = true → Q (some (.ref (ke i + 2))) h := fun yp => hQ _ _ ⟨Or.inl ⟨i, fst9_le (fst9_y hn yp) (by omega), rfl⟩, rfl⟩
      refine vm_go rfl bX11_liveById_2 oX11_liveById_2 ⟨_, _, MV_0 k, rfl, ⟨fun q => absurd q (nI_ge hik (by omega)), fun _ => ⟨_, _, MV_0 k, rfl, ⟨_, _, _, _, MV_kr k, by decide, rfl, i, rfl, by omega, KQR_at hik, ⟨_, _, kO, rfl, ?_⟩⟩⟩⟩⟩
      cases hl : klv (kf i) with
      | false => exact ⟨fun _ => nx (fun z => by have := (hP.mp z).1; rw [hl] at this; exact nomatch this), fun q => absurd rfl q⟩
      | true =>
        refine ⟨fun q => absurd q (by decide), fun _ => ⟨_, _, kO, rfl, ⟨fun q => nx ?_, fun q => ?_⟩⟩⟩
        · have q : ¬ nI (kty (kf i)) = iZ t := q
          rw [iZ_nI, iZ_inj (by omega) (by omega) (by omega) (by omega)] at q
          exact fun z => q (hP.mp z).2.1
        · have q : nI (kty (kf i)) = iZ t := q
          rw [iZ_nI, iZ_inj (by omega) (by omega) (by omega) (by omega)] at q
          refine ⟨_, _, kO, rfl, ⟨_, _, MV_0 k, rfl, ⟨_, _, (MV_tp k).1, rfl, ⟨0, 0, _, w_same (at9 := 0) (bt := 66) (many := 32) kI (MV_tp k).2.1 (by decide) (by decide) (by decide), Nat.zero_le _, Nat.zero_le _, ?_⟩⟩⟩⟩
          rintro _ h1 ⟨e1, x, rfl, hx⟩
          rw [e1]
          rcases hx with ⟨rfl, hx⟩ | ⟨rfl, j, hj, hx⟩
          · refine ⟨fun q => absurd q (by decide), fun _ => yes ?_⟩
            have e : kid (kf i) = sl tb 66 32 := by
              rw [← sl_gb (kid (kf i)), l32]
              exact sl_ext (fun j hj => hx j hj)
            exact hP.mpr ⟨hl, q, e⟩
          · refine ⟨fun _ => nx ?_, fun q => absurd rfl q⟩
            exact fun z => hx (by rw [(hP.mp z).2.2, gb_sl (by omega), Nat.zero_add])
  exact L kn 0 (by omega) rfl []
end
def samb (D c : Nat → Nat) (at9 k : Nat) : Bool := decide (sl D (pl k + 4) 32 = sl c at9 32)
theorem samb_i {D c : Nat → Nat} {at9 k : Nat} : samb D c at9 k = true ↔ sam D c at9 k := by
  unfold samb sam
  rw [decide_eq_true_iff]
  constructor
  · intro e i hi
    have := congrArg (fun w => gb w i) e
    simpa only [gb_sl hi] using this
  · intro e
    exact sl_ext e
/-- the slot where the search ends -/
def fsl (D c : Nat → Nat) (at9 : Nat) : Option Nat := fst9 (fun i => !(tkn D (slt c at9 i)) || samb D c at9 (slt c at9 i)) 112
/-- what comes of a NONCE -/
def fSp (D c : Nat → Nat) (wl : Int) (wr : Nat) : Int32 × (Nat → Nat) × Bool × Int × Nat := match fsl D c 2 with
  | none => (-6, D, false, wl, wr)
  | some i => if tkn D (slt c 2 i) = true then (-5, D, false, wl, wr) else if wl = 0 then (-9, D, true, wl, wr) else (0, dpt D c 2 (slt c 2 i), false, (if 0 < wl then wl - 1 else wl), wr + 1)
theorem fst9_o {P : Nat → Bool} {i : Nat} : ∀ n, i < n → (∀ j, j < i → P j ≠ true) → P i = true → fst9 P n = some i := by
  intro n hi hn hp
  have a : ∀ k, k ≤ i → fst9 P k = none := by
    intro k
    induction k with
    | zero => intro _; rfl
    | succ k ih => intro hk; exact fst9_n (ih (by omega)) (hn k (by omega))
  exact fst9_le (fst9_y (a i (Nat.le_refl _)) hp) hi
theorem fst9_0 {P : Nat → Bool} : ∀ n, (∀ j, j < n → P j ≠ true) → fst9 P n = none
  | 0, _ => rfl
  | n + 1, h => fst9_n (fst9_0 n (fun j hj => h j (by omega))) (h n (by omega))
theorem slt_c9 {b c : Nat → Nat} {at9 i : Nat} (e : ∀ j, j < 32 → b (at9 + j) = c (at9 + j)) : slt b at9 i = slt c at9 i := by
  unfold slt
  rw [bn_ext (b := b) (b' := c) (at9 := at9) (at8 := at9) 4 (fun j hj => e j (by omega))]
theorem dpt_c9 {D b c : Nat → Nat} {at9 k : Nat} (e : ∀ j, j < 32 → b (at9 + j) = c (at9 + j)) : dpt D b at9 k = dpt D c at9 k := by
  funext j
  unfold dpt app
  split
  · exact e _ (by omega)
  · rfl
theorem fSp_c9 {D b c : Nat → Nat} {wl : Int} {wr : Nat} (e : ∀ j, j < 32 → b (2 + j) = c (2 + j)) : fSp D b wl wr = fSp D c wl wr := by
  have e1 : ∀ i, slt b 2 i = slt c 2 i := fun i => slt_c9 e
  have e2 : ∀ k, samb D b 2 k = samb D c 2 k := fun k => by unfold samb; rw [sl_ext (b := b) (c := c) (p := 2) (q := 2) e]
  have e3 : ∀ k, dpt D b 2 k = dpt D c 2 k := fun k => dpt_c9 e
  have e5 : (fun i => !(tkn D (slt b 2 i)) || samb D b 2 (slt b 2 i)) = (fun i => !(tkn D (slt c 2 i)) || samb D c 2 (slt c 2 i)) := funext (fun i => by rw [e1, e2])
  have e4 : fsl D b 2 = fsl D c 2 := by
    unfold fsl
    rw [e5]
  unfold fSp
  rw [e4]
  split
  · rfl
  · rw [e1, e3]

section
variable {l : Launch} {O : Nat → vm_Ob} {f9 : Value} {v lo ts kn an rd wr : Nat} {tb : Nat → Nat} {w ou : List Nat} {ke ae : Nat → Nat} {kf : Nat → aK} {af : Nat → aA} {D : Nat → Nat} {dn : Bool} {wl : Int} {st2 kk2 : Nat → Int32} {st3 kk3 : Nat → Int64} {h : vm_H}
theorem m_spd (k : MV st3 kk3 v lo tb ts ou kn an rd ke ae kf af D dn wl wr h) (hdn : dn = false) (hw1 : -1 ≤ wl) (hw2 : wl ≤ 1000) (hwr : wr < 1000000) : vm_Met (vm_env l O f9) mX10_spend 0 0 [.ref (v + 746), .ref (v + 2), .int (nI 2)] h (fun r h' => r = some (.int (fSp D tb wl wr).1) ∧ MV st3 kk3 v lo tb ts ou kn an rd ke ae kf af (fSp D tb wl wr).2.1 (fSp D tb wl wr).2.2.1 (fSp D tb wl wr).2.2.2.1 (fSp D tb wl wr).2.2.2.2 h' ∧ VF v lo h h') := by
  have kd := MV_dk k
  rw [hdn] at kd
  refine vm_metP (s_spend (at9 := 2) kd (MV_tp k).2.1 (by decide) (by decide) (by omega) hw1 hw2 hwr) ?_
  rintro r h1 ⟨F1, hc⟩
  suffices H : ∃ x D' dn' wl' wr', fSp D tb wl wr = (x, D', dn', wl', wr') ∧ r = some (.int x) ∧ dsk h1 (v + 746) (v + 747) D' (bi dn') (iZ wl') (nI wr') by
    obtain ⟨x, D', dn', wl', wr', e, er, d⟩ := H
    rw [e]
    obtain ⟨k1, V1⟩ := MV_uK k F1 (fun q z => z) d
    exact ⟨er, k1, V1⟩
  have hno : ∀ j, (tkn D (slt tb 2 j) = true ∧ ¬ sam D tb 2 (slt tb 2 j)) → ¬ ((fun i => !(tkn D (slt tb 2 i)) || samb D tb 2 (slt tb 2 i)) j = true) := by
    rintro j ⟨a, b⟩ z
    have z : (!(tkn D (slt tb 2 j)) || samb D tb 2 (slt tb 2 j)) = true := z
    rw [a, Bool.not_true, Bool.false_or, samb_i] at z
    exact b z
  rcases hc with ⟨i, hi, hb, hc⟩ | ⟨hb, er, d⟩
  · have ef : fsl D tb 2 = some i := fst9_o 112 hi (fun j hj => hno j (hb j hj)) (by
      show (!(tkn D (slt tb 2 i)) || samb D tb 2 (slt tb 2 i)) = true
      rcases hc with ⟨_, s, _⟩ | ⟨t, _⟩ | ⟨t, _⟩
      · rw [samb_i.mpr s, Bool.or_true]
      · rw [t]; rfl
      · rw [t]; rfl)
    have e0 : fSp D tb wl wr = if tkn D (slt tb 2 i) = true then (-5, D, false, wl, wr) else if wl = 0 then (-9, D, true, wl, wr) else (0, dpt D tb 2 (slt tb 2 i), false, (if 0 < wl then wl - 1 else wl), wr + 1) := by
      unfold fSp
      rw [ef]
    rcases hc with ⟨t, _, er, d⟩ | ⟨t, z, er, d⟩ | ⟨t, z, er, d⟩
    · exact ⟨_, _, _, _, _, e0.trans (if_pos t), er, d⟩
    · rw [if_neg (by rw [t]; decide), if_pos z] at e0
      exact ⟨_, _, _, _, _, e0, er, d⟩
    · rw [if_neg (by rw [t]; decide), if_neg z] at e0
      exact ⟨_, _, _, _, _, e0, er, d⟩
  · have ef : fsl D tb 2 = none := fst9_0 112 (fun j hj => hno j (hb j hj))
    refine ⟨-6, D, false, wl, wr, ?_, er, d⟩
    unfold fSp
    rw [ef]
end
/-- whether a TOKEN is right -/
def rtO (st3 kk3 : Nat → Int64) (x : aK) (w : List Nat) : Prop := (kty x = 1 ∧ ∃ q, ecM (-3) fiv (bn (gb (kse x)) 0 48) (htg st3 kk3 (sl (gb w) 0 98)) = some q ∧ outm st3 kk3 (sl (gb w) 0 98) q = sl (gb w) 98 48) ∨ (kty x = 2 ∧ bn (gb w) 98 (ksz x) < bn (gb (ksh x)) 0 (ksz x) ∧ sgOK st3 kk3 (ksz x) (gb (ksh x) 0) (ksa x) (sl (gb w) 0 98) (wb (bn (gb w) 98 (ksz x) ^ bn (gb (ksh x)) (ksz x) 3 % bn (gb (ksh x)) 0 (ksz x)) (ksz x)))
/-- the KEY of a TOKEN -/
def fnt (kf : Nat → aK) (kn : Nat) (w : List Nat) : Option Nat := fst9 (fun i => klv (kf i) && (decide ((kty (kf i) : Int) = tot (gb w) w.length 98) && decide (kid (kf i) = sl (gb w) 66 32))) kn
noncomputable def fRe (st3 kk3 : Nat → Int64) (w : List Nat) (kn rd : Nat) (kf : Nat → aK) (D : Nat → Nat) (dn : Bool) (wl : Int) (wr : Nat) : Int32 × Nat × (Nat → Nat) × Bool × Int × Nat := if dn = true then (-9, rd, D, dn, wl, wr) else if w.length < 98 then (-2, rd, D, dn, wl, wr) else (match fnt kf kn w with
  | none => (-3, rd, D, dn, wl, wr)
  | some i => if w.length = 98 + ksz (kf i) then cif (rtO st3 kk3 (kf i) w) ((fSp D (gb w) wl wr).1, (if (fSp D (gb w) wl wr).1 = 0 then rd + 1 else rd), (fSp D (gb w) wl wr).2) (-4, rd, D, dn, wl, wr) else (-2, rd, D, dn, wl, wr))
section
variable {l : Launch} {O : Nat → vm_Ob} {f9 : Value} {v lo ts kn an rd wr : Nat} {tb : Nat → Nat} {w ou : List Nat} {ke ae : Nat → Nat} {kf : Nat → aK} {af : Nat → aA} {D : Nat → Nat} {dn : Bool} {wl : Int} {st2 kk2 : Nat → Int32} {st3 kk3 : Nat → Int64} {h : vm_H}
set_option maxHeartbeats 1000000 in
theorem m_red (k : MS st3 kk3 v lo w ou kn an rd ke ae kf af D dn wl wr h) (ev : EV st2 kk2 st3 kk3 h) (h9 : f9.category = 1) (hh : h.1 < 1099511627776) (hw1 : -1 ≤ wl) (hw2 : wl ≤ 1000) (hwr : wr < 1000000) (hrd : rd < 1000000) : vm_Met (vm_env l O f9) mX11_redeem 0 0 [.ref v] h (fun r h' => r = some (.int (fRe st3 kk3 w kn rd kf D dn wl wr).1) ∧ MS st3 kk3 v lo [] ou kn an (fRe st3 kk3 w kn rd kf D dn wl wr).2.1 ke ae kf af (fRe st3 kk3 w kn rd kf D dn wl wr).2.2.1 (fRe st3 kk3 w kn rd kf D dn wl wr).2.2.2.1 (fRe st3 kk3 w kn rd kf D dn wl wr).2.2.2.2.1 (fRe st3 kk3 w kn rd kf D dn wl wr).2.2.2.2.2 h' ∧ VF v lo h h') := by
  obtain ⟨tb, k, ew⟩ := k
  have hts := MV_ts k
  suffices H : ∀ Q : Option Value → vm_H → Prop, (∀ x rd' D' dn' wl' wr' h', fRe st3 kk3 w kn rd kf D dn wl wr = (x, rd', D', dn', wl', wr') → MS st3 kk3 v lo [] ou kn an rd' ke ae kf af D' dn' wl' wr' h' → VF v lo h h' → Q (some (.int x)) h') → vm_Met (vm_env l O f9) mX11_redeem 0 0 [.ref v] h Q from H _ (fun x rd' D' dn' wl' wr' h' e a b => by rw [e]; exact ⟨rfl, a, b⟩)
  intro Q hQ
  refine vm_met rfl (Nat.le_of_ble_eq_true rfl) ?_
  refine vm_go rfl bX11_redeemx_0 oX11_redeemx_0 ⟨_, MV_0 k, 0, 0, _, m_use k, Nat.zero_le _, Nat.zero_le _, ?_⟩
  rintro _ h1 ⟨rfl, k1, V1, F1⟩
  have hh1 : h1.1 < 1099511627776 := by rw [F1.1]; exact hh
  refine vm_Th (lv' := [(0, .ref v), (1, .int (nI w.length))]) (h' := h1) rfl rfl ?_
  have ev1 := EV_vf ev V1
  refine vm_go rfl bX11_redeemx_5 oX11_redeemx_5 ⟨_, _, MV_0 k1, rfl, ⟨_, _, (MV_dk k1).1, rfl, ?_⟩⟩
  cases hdn : dn with
  | true =>
    rw [hdn] at k1 hQ
    exact ⟨fun q => absurd q (by decide), fun _ => hQ _ _ _ _ _ _ _ (if_pos rfl) (MS_0 k1) V1⟩
  | false =>
  rw [hdn] at k1 hQ
  refine ⟨fun _ => ?_, fun q => absurd rfl q⟩
  have e0 : fRe st3 kk3 w kn rd kf D false wl wr = _ := if_neg (by decide)
  refine vm_go rfl bX11_redeemx_18 oX11_redeemx_18 ⟨_, MV_0 k1, 0, 0, _, m_tot (s := w.length) (m := 98) k1 (by omega) (by decide), Nat.zero_le _, Nat.zero_le _, ?_⟩
  rintro _ h1' ⟨rfl, e1⟩
  rw [e1]; clear e1 h1'
  rw [tot_w ew (by decide)]
  obtain ⟨t, et⟩ : ∃ t, tot (gb w) w.length 98 = t := ⟨_, rfl⟩
  have htc := tot_c (b := gb w) (s := w.length) (m := 98)
  rw [et] at htc
  rw [et]
  refine vm_Th (lv' := [(0, .ref v), (1, .int (nI w.length)), (2, .int (iZ t))]) (h' := h1) rfl rfl ?_
  by_cases hl : w.length < 98
  · rw [if_pos hl] at e0
    exact vm_go rfl bX11_redeemx_26 oX11_redeemx_26 ⟨fun q => absurd (show nI 98 ≤ nI w.length from q) (nI_ge hl (by decide)), fun _ => hQ _ _ _ _ _ _ _ e0 (MS_0 k1) V1⟩
  rw [if_neg hl] at e0
  refine vm_go rfl bX11_redeemx_26 oX11_redeemx_26 ⟨fun _ => ?_, fun q => absurd (show nI 98 ≤ nI w.length from nI_le (by omega) (by omega)) q⟩
  refine vm_go rfl bX11_redeemx_35 oX11_redeemx_35 ⟨_, MV_0 k1, 0, 0, _, m_lby (t := t) k1 (by omega), Nat.zero_le _, Nat.zero_le _, ?_⟩
  rintro _ h1' ⟨hf, e1⟩
  rw [e1]; clear e1 h1'
  rw [sl_w ew (by omega), ← et] at hf
  rcases hf with ⟨i, hf, rfl⟩ | ⟨hf, rfl⟩
  rotate_left
  · rw [show fnt kf kn w = none from hf] at e0
    refine vm_Th (lv' := [(0, .ref v), (1, .int (nI w.length)), (2, .int (iZ t)), (3, .null)]) (h' := h1) rfl rfl ?_
    exact vm_go rfl bX11_redeemx_41 oX11_redeemx_41 (hQ _ _ _ _ _ _ _ e0 (MS_0 k1) V1)
  obtain ⟨hi, hPi⟩ := fst9_P kn hf
  have hty : (kty (kf i) : Int) = t := by
    have hPi : (klv (kf i) && (decide ((kty (kf i) : Int) = tot (gb w) w.length 98) && decide (kid (kf i) = sl (gb w) 66 32))) = true := hPi
    rw [Bool.and_eq_true, Bool.and_eq_true, decide_eq_true_iff, et] at hPi
    exact hPi.2.1
  rw [show fnt kf kn w = some i from hf] at e0
  have e0 : fRe st3 kk3 w kn rd kf D false wl wr = if w.length = 98 + ksz (kf i) then cif (rtO st3 kk3 (kf i) w) ((fSp D (gb w) wl wr).1, (if (fSp D (gb w) wl wr).1 = 0 then rd + 1 else rd), (fSp D (gb w) wl wr).2) (-4, rd, D, false, wl, wr) else (-2, rd, D, false, wl, wr) := e0
  refine vm_Th (lv' := [(0, .ref v), (1, .int (nI w.length)), (2, .int (iZ t)), (3, .ref (ke i + 2))]) (h' := h1) rfl rfl ?_
  refine vm_go rfl bX11_redeemx_41 oX11_redeemx_41 ?_
  obtain ⟨bs, sh, se, ia, mo, kO, _, _, _, _, _⟩ := KY_o (MV_ky k1 hi).2
  have hk12 := KY_ty (MV_ky k1 hi).2
  have hz : ksz (kf i) ≤ 256 := by
    rcases hk12 with y | y
    · rcases (MV_ky k1 hi).2.1.2.2.2.2 with z | z
      · rw [z.2.1]; decide
      · exact absurd z.1 (by omega)
    · obtain ⟨⟨ni, ri, q⟩, _⟩ := MV_k2 k1 hi y
      exact q.2.2.2.2.2.1.2
  have es : (98 : Int32) + nI (ksz (kf i)) = nI (98 + ksz (kf i)) := nI_add 98 _
  by_cases hsz : w.length = 98 + ksz (kf i)
  rotate_left
  · rw [if_neg hsz] at e0
    exact vm_go rfl bX11_redeemx_48 oX11_redeemx_48 ⟨_, _, kO, rfl, ⟨fun q => absurd (show nI w.length = 98 + nI (ksz (kf i)) from q) (by rw [es, nI_ij (by omega) (by omega)]; exact hsz), fun _ => hQ _ _ _ _ _ _ _ e0 (MS_0 k1) V1⟩⟩
  rw [if_pos hsz] at e0
  refine vm_go rfl bX11_redeemx_48 oX11_redeemx_48 ⟨_, _, kO, rfl, ⟨fun _ => ?_, fun q => absurd (show nI w.length = 98 + nI (ksz (kf i)) by rw [es, hsz]) q⟩⟩
  -- behind the check
  have tail : ∀ (ok : Bool) (h2 : vm_H), (ok = true ↔ rtO st3 kk3 (kf i) w) → MV st3 kk3 v lo tb 0 ou kn an rd ke ae kf af D false wl wr h2 → VF v lo h h2 → vm_T (vm_env l O f9) mX11_redeem 0 0 100 [(0, .ref v), (1, .int (nI w.length)), (2, .int (iZ t)), (3, .ref (ke i + 2))] [.int (bi ok)] h2 Q := by
    intro ok h2 hok k2 V2
    refine vm_go rfl bX11_redeemx_100 oX11_redeemx_100 ?_
    refine vm_Th (lv' := [(0, .ref v), (1, .int (nI w.length)), (2, .int (iZ t)), (3, .ref (ke i + 2)), (4, .int (bi ok))]) (h' := h2) rfl rfl ?_
    cases ok with
    | false =>
      have e3 := e0.trans (cif_f (fun y => nomatch (hok.mpr y)))
      exact vm_go rfl bX11_redeemx_102 oX11_redeemx_102 ⟨fun q => absurd rfl q, fun _ => hQ _ _ _ _ _ _ _ e3 (MS_0 k2) V2⟩
    | true =>
      have e3 := e0.trans (cif_t (hok.mp rfl))
      refine vm_go rfl bX11_redeemx_102 oX11_redeemx_102 ⟨fun _ => ?_, fun q => absurd q (by decide)⟩
      have ef : fSp D tb wl wr = fSp D (gb w) wl wr := fSp_c9 (fun j hj => gb_w ew (by omega))
      refine vm_go rfl bX11_redeemx_110 oX11_redeemx_110 ⟨_, _, MV_0 k2, rfl, ⟨_, _, MV_0 k2, rfl, ⟨_, _, (MV_tp k2).1, rfl, ⟨_, (MV_dk k2).1, 0, 0, _, m_spd k2 rfl hw1 hw2 hwr, Nat.zero_le _, Nat.zero_le _, ?_⟩⟩⟩⟩
      rintro _ h3 ⟨rfl, k3, V3⟩
      rw [ef] at k3 ⊢
      refine vm_Th (lv' := [(0, .ref v), (1, .int (nI w.length)), (2, .int (iZ t)), (3, .ref (ke i + 2)), (4, .int (bi true)), (5, .int (fSp D (gb w) wl wr).1)]) (h' := h3) rfl rfl ?_
      by_cases h0 : (fSp D (gb w) wl wr).1 = 0
      · rw [if_pos h0] at e3
        have hv9 : v < 1099511627776 := by have := k3.1; omega
        refine vm_go rfl bX11_redeemx_127 oX11_redeemx_127 ⟨fun q => absurd h0 q, fun _ => ⟨_, _, MV_0 k3, rfl, ⟨_, MV_0 k3, hv9, show 11 < 12 by decide, trivial, ?_⟩⟩⟩
        have F4 : fr h3 (vm_up h3 v (MO v kn an (rd + 1))) (fun q => q = v) := fr_up rfl
        obtain ⟨k4, V4⟩ := MV_u0 (rd' := rd + 1) k3 F4 (fun q z => z) vm_upe
        refine vm_Th (lv' := [(0, .ref v), (1, .int (nI w.length)), (2, .int (iZ t)), (3, .ref (ke i + 2)), (4, .int (bi true)), (5, .int (fSp D (gb w) wl wr).1)]) (h' := vm_up h3 v (MO v kn an (rd + 1))) rfl (by unfold MO; rw [← nI_1]; rfl) ?_
        exact vm_go rfl bX11_redeemx_142 oX11_redeemx_142 (hQ _ _ _ _ _ _ _ e3 (MS_0 k4) (VF_t V2 (VF_t V3 V4)))
      · rw [if_neg h0] at e3
        exact vm_go rfl bX11_redeemx_127 oX11_redeemx_127 ⟨fun _ => vm_go rfl bX11_redeemx_142 oX11_redeemx_142 (hQ _ _ _ _ _ _ _ e3 (MS_0 k3) (VF_t V2 V3)), fun q => absurd q h0⟩
  have kb := k1.1
  have rK := (MV_ky k1 hi).1
  rcases hk12 with t1 | t2
  · have h48 : ksz (kf i) = 48 := by
      rcases (MV_ky k1 hi).2.1.2.2.2.2 with z | z
      · exact z.2.1
      · exact absurd z.1 (by omega)
    obtain ⟨W0, B0, P0, g0, o0⟩ := MV_op k1
    obtain ⟨kO1, kS, kH, kq, kp, kl⟩ := MV_k1 k1 hi t1
    have et1 : t = 1 := by omega
    refine vm_go rfl bX11_redeemx_62 oX11_redeemx_62 ⟨fun q => absurd (show iZ t = 1 by rw [et1]; rfl) q, fun _ => ⟨_, _, MV_0 k1, rfl, ⟨_, _, MV_0 k1, rfl, ⟨_, _, (MV_tp k1).1, rfl, ⟨_, OP_t o0, 0, 0, _, p_iso h9 o0 ev1 kO1 (by unfold OR; omega) kS (by unfold OR; omega) (by decide) (by decide) (MV_tp k1).2.1 (by unfold OR; omega) (by decide) (by decide), Nat.zero_le _, Nat.zero_le _, ?_⟩⟩⟩⟩⟩
    rintro _ h2 ⟨⟨ok, rfl, hok⟩, ⟨W2, B2, P2, g2, o2, _⟩, F2⟩
    obtain ⟨k2, V2⟩ := MV_uO k1 F2 (fun q z => by unfold OR at z; omega) ⟨W2, B2, P2, g2, o2⟩
    refine tail ok h2 (hok.trans ?_) k2 (VF_t V1 V2)
    rw [sl_w ew (by omega), sl_w (a := 98) ew (by omega)]
    exact ⟨fun z => Or.inl ⟨t1, z⟩, fun z => z.elim (fun y => y.2) (fun y => absurd y.1 (by omega))⟩
  · obtain ⟨w0, B0, o0⟩ := MV_rs k1
    obtain ⟨⟨ni, ri, q0⟩, ka⟩ := MV_k2 k1 hi t2
    refine vm_go rfl bX11_redeemx_62 oX11_redeemx_62 ⟨fun _ => ?_, fun q => absurd (show iZ t = 1 from q) (by rw [show t = 2 by omega]; decide)⟩
    refine vm_go rfl bX11_redeemx_85 oX11_redeemx_85 ⟨_, _, MV_0 k1, rfl, ⟨_, _, MV_0 k1, rfl, ⟨_, _, (MV_tp k1).1, rfl, ⟨_, RS_t o0, 0, 0, _, x_iss o0 ev1 q0 ka (MV_tp k1).2.1 (by unfold RA; omega) (by omega) (by decide), Nat.zero_le _, Nat.zero_le _, ?_⟩⟩⟩⟩
    rintro _ h2 ⟨⟨ok, rfl, hok⟩, ⟨w2, B2, o2, _⟩, q2, F2⟩
    obtain ⟨k2, V2⟩ := MV_uF k1 hi t2 hh1 F2 ⟨w2, B2, o2⟩ q2
    refine tail ok h2 (hok.trans ?_) k2 (VF_t V1 V2)
    rw [sl_w ew (by omega), bn_w ew (by omega)]
    exact ⟨fun z => Or.inr ⟨t2, z⟩, fun z => z.elim (fun y => absurd y.1 (by omega)) (fun y => y.2)⟩
end
