/-! the mint: issue -/
def bX11_issuex_0 : List vm_J := [(1, .aload_n 0, 0, 0, 0, .null), (3, .invokevirtual 93, 120, 0, 11, .null), (1, .istore_n 1, 0, 0, 0, .null)]
set_option maxRecDepth 20000 in
theorem oX11_issuex_0 : vm_okB 11 mX11_issue 0 bX11_issuex_0 = true := by decide +kernel
def bX11_issuex_5 : List vm_J := [(1, .aload_n 0, 0, 0, 0, .null), (1, .iload_n 1, 0, 0, 0, .null), (1, .iconst 3, 0, 0, 0, .int 3), (3, .invokevirtual 174, 123, 2, 11, .null), (1, .istore_n 2, 0, 0, 0, .null)]
set_option maxRecDepth 20000 in
theorem oX11_issuex_5 : vm_okB 11 mX11_issue 5 bX11_issuex_5 = true := by decide +kernel
def bX11_issuex_12 : List vm_J := [(1, .iload_n 2, 0, 0, 0, .null), (1, .iconst (-1), 0, 0, 0, .int (-1)), (3, .if_icmp .ne 6, 20, 0, 0, .null), (2, .bipush (-2), 0, 0, 0, .int (-2)), (1, .ireturn, 0, 0, 0, .null)]
set_option maxRecDepth 20000 in
theorem oX11_issuex_12 : vm_okB 11 mX11_issue 12 bX11_issuex_12 = true := by decide +kernel
def bX11_issuex_20 : List vm_J := [(1, .aload_n 0, 0, 0, 0, .null), (1, .iload_n 2, 0, 0, 0, .null), (3, .invokevirtual 178, 124, 1, 11, .null), (1, .astore_n 3, 0, 0, 0, .null)]
set_option maxRecDepth 20000 in
theorem oX11_issuex_20 : vm_okB 11 mX11_issue 20 bX11_issuex_20 = true := by decide +kernel
def bX11_issuex_26 : List vm_J := [(1, .aload_n 3, 0, 0, 0, .null), (3, .ifnonnull 6, 33, 0, 0, .null), (2, .bipush (-3), 0, 0, 0, .int (-3)), (1, .ireturn, 0, 0, 0, .null)]
set_option maxRecDepth 20000 in
theorem oX11_issuex_26 : vm_okB 11 mX11_issue 26 bX11_issuex_26 = true := by decide +kernel
def bX11_issuex_33 : List vm_J := [(1, .iload_n 1, 0, 0, 0, .null), (1, .iconst 3, 0, 0, 0, .int 3), (1, .iload_n 2, 0, 0, 0, .null), (1, .iconst 1, 0, 0, 0, .int 1), (3, .if_icmp .ne 8, 45, 0, 0, .null), (2, .bipush 97, 0, 0, 0, .int 97), (3, .goto 7, 49, 0, 0, .null)]
set_option maxRecDepth 20000 in
theorem oX11_issuex_33 : vm_okB 11 mX11_issue 33 bX11_issuex_33 = true := by decide +kernel
def bX11_issuex_45 : List vm_J := [(1, .aload_n 3, 0, 0, 0, .null), (3, .getfield 152, 5, 1, 0, .null)]
set_option maxRecDepth 20000 in
theorem oX11_issuex_45 : vm_okB 11 mX11_issue 45 bX11_issuex_45 = true := by decide +kernel
def bX11_issuex_49 : List vm_J := [(1, .iadd, 0, 0, 0, .null), (3, .if_icmp .eq 6, 56, 0, 0, .null), (2, .bipush (-2), 0, 0, 0, .int (-2)), (1, .ireturn, 0, 0, 0, .null)]
set_option maxRecDepth 20000 in
theorem oX11_issuex_49 : vm_okB 11 mX11_issue 49 bX11_issuex_49 = true := by decide +kernel
def bX11_issuex_56 : List vm_J := [(1, .iload_n 2, 0, 0, 0, .null), (1, .iconst 1, 0, 0, 0, .int 1), (3, .if_icmp .ne 52, 110, 0, 0, .null), (1, .aload_n 0, 0, 0, 0, .null), (3, .getfield 34, 11, 4, 0, .null), (1, .aload_n 3, 0, 0, 0, .null), (1, .aload_n 0, 0, 0, 0, .null), (3, .getfield 14, 11, 0, 0, .null), (3, .getfield 85, 9, 0, 0, .null), (1, .iconst 1, 0, 0, 0, .int 1), (3, .invokevirtual 181, 68, 3, 7, .null), (3, .ifCond .eq 30, 107, 0, 0, .null), (1, .aload_n 0, 0, 0, 0, .null), (1, .aload_n 0, 0, 0, 0, .null), (3, .getfield 34, 11, 4, 0, .null), (3, .getfield 185, 7, 3, 0, .null), (3, .getfield 85, 9, 0, 0, .null), (1, .aload_n 0, 0, 0, 0, .null), (3, .getfield 34, 11, 4, 0, .null), (3, .getfield 185, 7, 3, 0, .null), (3, .getfield 82, 9, 1, 0, .null), (3, .invokevirtual 145, 121, 2, 11, .null), (3, .goto 5, 109, 0, 0, .null)]
set_option maxRecDepth 20000 in
theorem oX11_issuex_56 : vm_okB 11 mX11_issue 56 bX11_issuex_56 = true := by decide +kernel
def bX11_issuex_107 : List vm_J := [(2, .bipush (-4), 0, 0, 0, .int (-4))]
set_option maxRecDepth 20000 in
theorem oX11_issuex_107 : vm_okB 11 mX11_issue 107 bX11_issuex_107 = true := by decide +kernel
def bX11_issuex_109 : List vm_J := [(1, .ireturn, 0, 0, 0, .null)]
set_option maxRecDepth 20000 in
theorem oX11_issuex_109 : vm_okB 11 mX11_issue 109 bX11_issuex_109 = true := by decide +kernel
def bX11_issuex_110 : List vm_J := [(1, .aload_n 0, 0, 0, 0, .null), (3, .getfield 41, 11, 5, 0, .null), (1, .aload_n 3, 0, 0, 0, .null), (1, .aload_n 0, 0, 0, 0, .null), (3, .getfield 14, 11, 0, 0, .null), (3, .getfield 85, 9, 0, 0, .null), (1, .iconst 3, 0, 0, 0, .int 3), (3, .invokevirtual 188, 7, 3, 1, .null), (3, .ifCond .eq 21, 147, 0, 0, .null), (1, .aload_n 0, 0, 0, 0, .null), (1, .aload_n 0, 0, 0, 0, .null), (3, .getfield 41, 11, 5, 0, .null), (3, .getfield 191, 1, 2, 0, .null), (1, .aload_n 3, 0, 0, 0, .null), (3, .getfield 152, 5, 1, 0, .null), (3, .invokevirtual 145, 121, 2, 11, .null), (3, .goto 5, 149, 0, 0, .null)]
set_option maxRecDepth 20000 in
theorem oX11_issuex_110 : vm_okB 11 mX11_issue 110 bX11_issuex_110 = true := by decide +kernel
def bX11_issuex_147 : List vm_J := [(2, .bipush (-4), 0, 0, 0, .int (-4))]
set_option maxRecDepth 20000 in
theorem oX11_issuex_147 : vm_okB 11 mX11_issue 147 bX11_issuex_147 = true := by decide +kernel
def bX11_issuex_149 : List vm_J := [(1, .ireturn, 0, 0, 0, .null)]
set_option maxRecDepth 20000 in
theorem oX11_issuex_149 : vm_okB 11 mX11_issue 149 bX11_issuex_149 = true := by decide +kernel
noncomputable def fSg (x : aK) (w ou : List Nat) : Int32 × List Nat := cif (bn (gb w) 3 (ksz x) < bn (gb (ksh x)) 0 (ksz x) ∧ (bn (gb w) 3 (ksz x) ^ bn (gb (kse x)) 0 (ksz x) % bn (gb (ksh x)) 0 (ksz x)) ^ bn (gb (ksh x)) (ksz x) 3 % bn (gb (ksh x)) 0 (ksz x) = bn (gb w) 3 (ksz x)) (nI (ksz x), wb (bn (gb w) 3 (ksz x) ^ bn (gb (kse x)) 0 (ksz x) % bn (gb (ksh x)) 0 (ksz x)) (ksz x)) (-4, ou)
noncomputable def fIs (st3 kk3 : Nat → Int64) (w : List Nat) (kn : Nat) (kf : Nat → aK) (ou : List Nat) : Int32 × List Nat := if tot (gb w) w.length 3 = -1 then (-2, ou) else (match fnd kf kn (tot (gb w) w.length 3).toNat (gb w 2) with
  | none => (-3, ou)
  | some i => if w.length = 3 + (if kty (kf i) = 1 then 97 else ksz (kf i)) then (if kty (kf i) = 1 then fGv st3 kk3 (kf i) w 1 ou else fSg (kf i) w ou) else (-2, ou))
theorem tot_c {b : Nat → Nat} {s m : Nat} : tot b s m = -1 ∨ (tot b s m = 1 ∧ m ≤ s) ∨ (tot b s m = 2 ∧ m ≤ s) := by
  unfold tot
  split
  · exact Or.inl rfl
  · split <;> omega

section
variable {l : Launch} {O : Nat → vm_Ob} {f9 : Value} {v lo ts kn an rd wr : Nat} {tb : Nat → Nat} {w ou : List Nat} {ke ae : Nat → Nat} {kf : Nat → aK} {af : Nat → aA} {D : Nat → Nat} {dn : Bool} {wl : Int} {st2 kk2 : Nat → Int32} {st3 kk3 : Nat → Int64} {h : vm_H}
theorem m_sg {i at9 : Nat} (k : MV st3 kk3 v lo tb ts ou kn an rd ke ae kf af D dn wl wr h) (hh : h.1 < 1099511627776) (hi : i < kn) (ht : kty (kf i) = 2) (hat : at9 + ksz (kf i) ≤ 1200) : vm_Met (vm_env l O f9) mX1_sign 0 0 [.ref (v + 724), .ref (ke i + 2), .ref (v + 2), .int (nI at9)] h (fun r h' => ∃ ok : Bool, r = some (.int (bi ok)) ∧ (ok = true ↔ bn tb at9 (ksz (kf i)) < bn (gb (ksh (kf i))) 0 (ksz (kf i)) ∧ (bn tb at9 (ksz (kf i)) ^ bn (gb (kse (kf i))) 0 (ksz (kf i)) % bn (gb (ksh (kf i))) 0 (ksz (kf i))) ^ bn (gb (ksh (kf i))) (ksz (kf i)) 3 % bn (gb (ksh (kf i))) 0 (ksz (kf i)) = bn tb at9 (ksz (kf i))) ∧ MV st3 kk3 v lo tb ts ou kn an rd ke ae kf af D dn wl wr h' ∧ VF v lo h h' ∧ (∃ w B, RSc (v + 724) h' w B ∧ (ok = true → sl (B 2) 0 (ksz (kf i)) = wb (bn tb at9 (ksz (kf i)) ^ bn (gb (kse (kf i))) 0 (ksz (kf i)) % bn (gb (ksh (kf i))) 0 (ksz (kf i))) (ksz (kf i))))) := by
  obtain ⟨w0, B0, k6⟩ := MV_rs k
  obtain ⟨⟨ni, ri, q⟩, ka⟩ := MV_k2 k hi ht
  refine vm_metP (x_sig k6 q ka (MV_tp k).2.1 hat (by decide)) ?_
  rintro r h1 ⟨⟨ok, er, hok, B1, r1, hB⟩, q1, F1⟩
  obtain ⟨k2, V2⟩ := MV_uF k hi ht hh F1 ⟨_, B1, r1⟩ q1
  exact ⟨ok, er, hok, k2, V2, _, B1, r1, hB⟩
set_option maxHeartbeats 1000000 in
theorem m_iss (k : MS st3 kk3 v lo w ou kn an rd ke ae kf af D dn wl wr h) (ev : EV st2 kk2 st3 kk3 h) (h9 : f9.category = 1) (hh : h.1 < 1099511627776) : vm_Met (vm_env l O f9) mX11_issue 0 0 [.ref v] h (fun r h' => r = some (.int (fIs st3 kk3 w kn kf ou).1) ∧ MS st3 kk3 v lo [] (fIs st3 kk3 w kn kf ou).2 kn an rd ke ae kf af D dn wl wr h' ∧ VF v lo h h') := by
  obtain ⟨tb, k, ew⟩ := k
  have hts := MV_ts k
  suffices H : ∀ Q : Option Value → vm_H → Prop, (∀ x y h', fIs st3 kk3 w kn kf ou = (x, y) → MS st3 kk3 v lo [] y kn an rd ke ae kf af D dn wl wr h' → VF v lo h h' → Q (some (.int x)) h') → vm_Met (vm_env l O f9) mX11_issue 0 0 [.ref v] h Q from H _ (fun x y h' e a b => by rw [e]; exact ⟨rfl, a, b⟩)
  intro Q hQ
  refine vm_met rfl (Nat.le_of_ble_eq_true rfl) ?_
  refine vm_go rfl bX11_issuex_0 oX11_issuex_0 ⟨_, MV_0 k, 0, 0, _, m_use k, Nat.zero_le _, Nat.zero_le _, ?_⟩
  rintro _ h1 ⟨rfl, k1, V1, F1⟩
  have hh1 : h1.1 < 1099511627776 := by rw [F1.1]; exact hh
  refine vm_Th (lv' := [(0, .ref v), (1, .int (nI w.length))]) (h' := h1) rfl rfl ?_
  have ev1 := EV_vf ev V1
  refine vm_go rfl bX11_issuex_5 oX11_issuex_5 ⟨_, MV_0 k1, 0, 0, _, m_tot (s := w.length) (m := 3) k1 (by omega) (by decide), Nat.zero_le _, Nat.zero_le _, ?_⟩
  rintro _ h1' ⟨rfl, e1⟩
  rw [e1]; clear e1 h1'
  rw [tot_w ew (by decide)]
  rcases tot_c (b := gb w) (s := w.length) (m := 3) with t0 | t0
  · rw [t0]
    refine vm_Th (lv' := [(0, .ref v), (1, .int (nI w.length)), (2, .int (iZ (-1)))]) (h' := h1) rfl rfl ?_
    exact vm_go rfl bX11_issuex_12 oX11_issuex_12 ⟨fun q => absurd rfl q, fun _ => hQ _ _ _ (if_pos t0) (MS_0 k1) V1⟩
  obtain ⟨t, et, ht, h3⟩ : ∃ t : Nat, tot (gb w) w.length 3 = (t : Int) ∧ (t = 1 ∨ t = 2) ∧ 3 ≤ w.length := by
    rcases t0 with ⟨e, z⟩ | ⟨e, z⟩
    · exact ⟨1, e, Or.inl rfl, z⟩
    · exact ⟨2, e, Or.inr rfl, z⟩
  have e0 : fIs st3 kk3 w kn kf ou = (match fnd kf kn t (gb w 2) with
    | none => (-3, ou)
    | some i => if w.length = 3 + (if kty (kf i) = 1 then 97 else ksz (kf i)) then (if kty (kf i) = 1 then fGv st3 kk3 (kf i) w 1 ou else fSg (kf i) w ou) else (-2, ou)) := by
    unfold fIs
    rw [et, if_neg (by omega), Int.toNat_natCast]
  rw [et, iZ_n]
  refine vm_Th (lv' := [(0, .ref v), (1, .int (nI w.length)), (2, .int (nI t))]) (h' := h1) rfl rfl ?_
  refine vm_go rfl bX11_issuex_12 oX11_issuex_12 ⟨fun _ => ?_, fun q => absurd q (by rcases ht with rfl | rfl <;> decide)⟩
  have e2 := gb_w ew (j := 2) (by omega)
  refine vm_go rfl bX11_issuex_20 oX11_issuex_20 ⟨_, MV_0 k1, 0, 0, _, m_lbl (t := t) k1 (by omega), Nat.zero_le _, Nat.zero_le _, ?_⟩
  rintro _ h1' ⟨hf, e1⟩
  rw [e1]; clear e1 h1'
  rw [e2] at hf
  rcases hf with ⟨i, hf, rfl⟩ | ⟨hf, rfl⟩
  rotate_left
  · rw [show fnd kf kn t (gb w 2) = none from hf] at e0
    refine vm_Th (lv' := [(0, .ref v), (1, .int (nI w.length)), (2, .int (nI t)), (3, .null)]) (h' := h1) rfl rfl ?_
    exact vm_go rfl bX11_issuex_26 oX11_issuex_26 (hQ _ _ _ e0 (MS_0 k1) V1)
  obtain ⟨hi, hPi⟩ := fst9_P kn hf
  have hty : kty (kf i) = t := by
    have hPi : (klv (kf i) && (decide (kty (kf i) = t) && decide (gb (kid (kf i)) 31 = gb w 2))) = true := hPi
    rw [Bool.and_eq_true, Bool.and_eq_true, decide_eq_true_iff] at hPi
    exact hPi.2.1
  rw [show fnd kf kn t (gb w 2) = some i from hf] at e0
  have e0 : fIs st3 kk3 w kn kf ou = if w.length = 3 + (if kty (kf i) = 1 then 97 else ksz (kf i)) then (if kty (kf i) = 1 then fGv st3 kk3 (kf i) w 1 ou else fSg (kf i) w ou) else (-2, ou) := e0
  rw [hty] at e0
  refine vm_Th (lv' := [(0, .ref v), (1, .int (nI w.length)), (2, .int (nI t)), (3, .ref (ke i + 2))]) (h' := h1) rfl rfl ?_
  refine vm_go rfl bX11_issuex_26 oX11_issuex_26 ?_
  obtain ⟨bs, sh, se, ia, mo, kO, _, _, _, _, _⟩ := KY_o (MV_ky k1 hi).2
  have h49 : ∀ n : Nat, n < 65536 → (w.length ≠ 3 + n → fIs st3 kk3 w kn kf ou = (-2, ou)) → (w.length = 3 + n → vm_T (vm_env l O f9) mX11_issue 0 0 56 [(0, .ref v), (1, .int (nI w.length)), (2, .int (nI t)), (3, .ref (ke i + 2))] [] h1 Q) → vm_T (vm_env l O f9) mX11_issue 0 0 49 [(0, .ref v), (1, .int (nI w.length)), (2, .int (nI t)), (3, .ref (ke i + 2))] [.int (nI n), .int 3, .int (nI w.length)] h1 Q := by
    intro n hn a b
    have es : (3 : Int32) + nI n = nI (3 + n) := nI_add 3 n
    refine vm_go rfl bX11_issuex_49 oX11_issuex_49 ⟨fun q => b ?_, fun q => hQ _ _ _ (a ?_) (MS_0 k1) V1⟩
    · have q : nI w.length = 3 + nI n := q
      rw [es, nI_ij (by omega) (by omega)] at q
      exact q
    · have q : ¬ nI w.length = 3 + nI n := q
      rw [es, nI_ij (by omega) (by omega)] at q
      exact q
  rcases ht with rfl | rfl
  · rw [if_pos rfl, if_pos rfl] at e0
    refine vm_go rfl bX11_issuex_33 oX11_issuex_33 ⟨fun q => absurd rfl q, fun _ => h49 97 (by decide) (fun n => e0.trans (if_neg n)) (fun hsz => ?_)⟩
    rw [if_pos hsz] at e0
    obtain ⟨W0, B0, P0, g0, o0⟩ := MV_op k1
    refine vm_go rfl bX11_issuex_56 oX11_issuex_56 ⟨fun q => absurd rfl q, fun _ => ⟨_, _, MV_0 k1, rfl, ⟨_, _, MV_0 k1, rfl, ⟨_, _, (MV_tp k1).1, rfl, ⟨_, OP_t o0, 0, 0, _, m_ev (many := 1) k1 ev1 h9 hi hty (by decide) (by decide), Nat.zero_le _, Nat.zero_le _, ?_⟩⟩⟩⟩⟩
    rintro _ h2 ⟨ok, rfl, hok, k2, V2, W2, B2, P2, g2, o2, hW⟩
    have hcw : ∀ i, i < 1 → sl tb (3 + 49 * i) 49 = sl (gb w) (3 + 49 * i) 49 := fun i hi => sl_w ew (by omega)
    rw [bn_w ew (by omega), evO_c9 hcw] at hok
    rw [bn_w ew (by omega), evA_c9 hcw] at hW
    cases ok with
    | false =>
      have e3 : fIs st3 kk3 w kn kf ou = (-4, ou) := e0.trans (cif_f (fun y => nomatch (hok.mpr y)))
      exact ⟨fun _ => vm_go rfl bX11_issuex_107 oX11_issuex_107 (vm_go rfl bX11_issuex_109 oX11_issuex_109 (hQ _ _ _ e3 (MS_0 k2) (VF_t V1 V2))), fun q => absurd rfl q⟩
    | true =>
      have hok := hok.mp rfl
      have hW := hW rfl
      have e3 : fIs st3 kk3 w kn kf ou = _ := e0.trans (cif_t hok)
      rw [← evA_len hok, ← hW] at e3
      obtain ⟨b2, r2, s2⟩ := OP_w o2 (j := 0) (by decide)
      have l2 : (W2 0).length ≤ 488 := r2.2.2.1
      refine ⟨fun q => absurd q (by decide), fun _ => ⟨_, _, MV_0 k2, rfl, ⟨_, _, OP_t o2, rfl, ⟨_, _, OP_ro o2 (j := 0) (by decide), rfl, ⟨_, _, MV_0 k2, rfl, ⟨_, _, OP_t o2, rfl, ⟨_, _, OP_ro o2 (j := 0) (by decide), rfl, ⟨_, MV_0 k2, 0, 0, _, m_lve (m := (W2 0).length) k2 r2.2.1 (show v + 13 + 4 + 1 ≠ v + 3 by omega) r2.2.2.1 (by decide) (by omega), Nat.zero_le _, Nat.zero_le _, ?_⟩⟩⟩⟩⟩⟩⟩⟩
      rintro _ h3 ⟨rfl, k3, V3⟩
      rw [s2] at k3
      exact vm_go rfl bX11_issuex_109 oX11_issuex_109 (hQ _ _ _ e3 (MS_0 k3) (VF_t V1 (VF_t V2 V3)))
  · have e0 : fIs st3 kk3 w kn kf ou = if w.length = 3 + ksz (kf i) then fSg (kf i) w ou else (-2, ou) := e0
    have hlen : 66 ≤ ksz (kf i) ∧ ksz (kf i) ≤ 256 := by
      obtain ⟨⟨ni, ri, q⟩, _⟩ := MV_k2 k1 hi hty
      exact q.2.2.2.2.2.1
    refine vm_go rfl bX11_issuex_33 oX11_issuex_33 ⟨fun _ => vm_go rfl bX11_issuex_45 oX11_issuex_45 ⟨_, _, kO, rfl, h49 (ksz (kf i)) (by omega) (fun n => e0.trans (if_neg n)) (fun hsz => ?_)⟩, fun q => absurd q (by decide)⟩
    rw [if_pos hsz] at e0
    obtain ⟨w0, B0, o0⟩ := MV_rs k1
    refine vm_go rfl bX11_issuex_56 oX11_issuex_56 ⟨fun _ => ?_, fun q => absurd q (by decide)⟩
    refine vm_go rfl bX11_issuex_110 oX11_issuex_110 ⟨_, _, MV_0 k1, rfl, ⟨_, _, MV_0 k1, rfl, ⟨_, _, (MV_tp k1).1, rfl, ⟨_, RS_t o0, 0, 0, _, m_sg (at9 := 3) k1 hh1 hi hty (by omega), Nat.zero_le _, Nat.zero_le _, ?_⟩⟩⟩⟩
    rintro _ h2 ⟨ok, rfl, hok, k2, V2, w2, B2, o2, hW⟩
    rw [bn_w ew (by omega)] at hok hW
    obtain ⟨bs, sh, se, ia, mo, kO, _, _, _, _, _⟩ := KY_o (MV_ky k2 hi).2
    cases ok with
    | false =>
      have e3 : fIs st3 kk3 w kn kf ou = (-4, ou) := e0.trans (cif_f (fun y => nomatch (hok.mpr y)))
      exact ⟨fun _ => vm_go rfl bX11_issuex_147 oX11_issuex_147 (vm_go rfl bX11_issuex_149 oX11_issuex_149 (hQ _ _ _ e3 (MS_0 k2) (VF_t V1 V2))), fun q => absurd rfl q⟩
    | true =>
      have hok := hok.mp rfl
      have hW := hW rfl
      have e3 : fIs st3 kk3 w kn kf ou = _ := e0.trans (cif_t hok)
      rw [← hW] at e3
      refine ⟨fun q => absurd q (by decide), fun _ => ⟨_, _, MV_0 k2, rfl, ⟨_, _, RS_t o2, rfl, ⟨_, _, kO, rfl, ⟨_, MV_0 k2, 0, 0, _, m_lve (m := ksz (kf i)) k2 (RS_b o2 (j := 2) (by decide)) (show v + 724 + 3 ≠ v + 3 by omega) (show ksz (kf i) ≤ 256 by omega) (by decide) (by omega), Nat.zero_le _, Nat.zero_le _, ?_⟩⟩⟩⟩⟩
      rintro _ h3 ⟨rfl, k3, V3⟩
      exact vm_go rfl bX11_issuex_149 oX11_issuex_149 (hQ _ _ _ e3 (MS_0 k3) (VF_t V1 (VF_t V2 V3)))
end
