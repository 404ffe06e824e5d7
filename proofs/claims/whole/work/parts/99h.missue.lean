def bX11_issueManyx_0 : List vm_J := [(1, .aload_n 0, 0, 0, 0, .null), (3, .invokevirtual 93, 120, 0, 11, .null), (1, .istore_n 2, 0, 0, 0, .null)]
set_option maxRecDepth 20000 in
theorem oX11_issueManyx_0 : vm_okB 11 mX11_issueMany 0 bX11_issueManyx_0 = true := by decide +kernel
def bX11_issueManyx_5 : List vm_J := [(1, .aload_n 0, 0, 0, 0, .null), (1, .iload_n 2, 0, 0, 0, .null), (1, .iconst 3, 0, 0, 0, .int 3), (3, .invokevirtual 174, 123, 2, 11, .null), (1, .iconst 1, 0, 0, 0, .int 1), (3, .if_icmp .ne 14, 26, 0, 0, .null), (1, .iload_n 1, 0, 0, 0, .null), (1, .iconst 1, 0, 0, 0, .int 1), (3, .if_icmp .lt 9, 26, 0, 0, .null), (1, .iload_n 1, 0, 0, 0, .null), (2, .bipush 8, 0, 0, 0, .int 8), (3, .if_icmp .le 6, 29, 0, 0, .null)]
set_option maxRecDepth 20000 in
theorem oX11_issueManyx_5 : vm_okB 11 mX11_issueMany 5 bX11_issueManyx_5 = true := by decide +kernel
def bX11_issueManyx_26 : List vm_J := [(2, .bipush (-2), 0, 0, 0, .int (-2)), (1, .ireturn, 0, 0, 0, .null)]
set_option maxRecDepth 20000 in
theorem oX11_issueManyx_26 : vm_okB 11 mX11_issueMany 26 bX11_issueManyx_26 = true := by decide +kernel
def bX11_issueManyx_29 : List vm_J := [(1, .aload_n 0, 0, 0, 0, .null), (1, .iconst 1, 0, 0, 0, .int 1), (3, .invokevirtual 178, 124, 1, 11, .null), (1, .astore_n 3, 0, 0, 0, .null)]
set_option maxRecDepth 20000 in
theorem oX11_issueManyx_29 : vm_okB 11 mX11_issueMany 29 bX11_issueManyx_29 = true := by decide +kernel
def bX11_issueManyx_35 : List vm_J := [(1, .aload_n 3, 0, 0, 0, .null), (3, .ifnonnull 6, 42, 0, 0, .null), (2, .bipush (-3), 0, 0, 0, .int (-3)), (1, .ireturn, 0, 0, 0, .null)]
set_option maxRecDepth 20000 in
theorem oX11_issueManyx_35 : vm_okB 11 mX11_issueMany 35 bX11_issueManyx_35 = true := by decide +kernel
def bX11_issueManyx_42 : List vm_J := [(1, .iload_n 2, 0, 0, 0, .null), (1, .iconst 3, 0, 0, 0, .int 3), (1, .iload_n 1, 0, 0, 0, .null), (2, .bipush 49, 0, 0, 0, .int 49), (1, .imul, 0, 0, 0, .null), (1, .iadd, 0, 0, 0, .null), (2, .bipush 48, 0, 0, 0, .int 48), (1, .iadd, 0, 0, 0, .null), (3, .if_icmp .eq 6, 58, 0, 0, .null), (2, .bipush (-2), 0, 0, 0, .int (-2)), (1, .ireturn, 0, 0, 0, .null)]
set_option maxRecDepth 20000 in
theorem oX11_issueManyx_42 : vm_okB 11 mX11_issueMany 42 bX11_issueManyx_42 = true := by decide +kernel
def bX11_issueManyx_58 : List vm_J := [(1, .aload_n 0, 0, 0, 0, .null), (3, .getfield 34, 11, 4, 0, .null), (1, .aload_n 3, 0, 0, 0, .null), (1, .aload_n 0, 0, 0, 0, .null), (3, .getfield 14, 11, 0, 0, .null), (3, .getfield 85, 9, 0, 0, .null), (1, .iload_n 1, 0, 0, 0, .null), (3, .invokevirtual 181, 68, 3, 7, .null), (3, .ifCond .eq 30, 104, 0, 0, .null), (1, .aload_n 0, 0, 0, 0, .null), (1, .aload_n 0, 0, 0, 0, .null), (3, .getfield 34, 11, 4, 0, .null), (3, .getfield 185, 7, 3, 0, .null), (3, .getfield 85, 9, 0, 0, .null), (1, .aload_n 0, 0, 0, 0, .null), (3, .getfield 34, 11, 4, 0, .null), (3, .getfield 185, 7, 3, 0, .null), (3, .getfield 82, 9, 1, 0, .null), (3, .invokevirtual 145, 121, 2, 11, .null), (3, .goto 5, 106, 0, 0, .null)]
set_option maxRecDepth 20000 in
theorem oX11_issueManyx_58 : vm_okB 11 mX11_issueMany 58 bX11_issueManyx_58 = true := by decide +kernel
def bX11_issueManyx_104 : List vm_J := [(2, .bipush (-4), 0, 0, 0, .int (-4))]
set_option maxRecDepth 20000 in
theorem oX11_issueManyx_104 : vm_okB 11 mX11_issueMany 104 bX11_issueManyx_104 = true := by decide +kernel
def bX11_issueManyx_106 : List vm_J := [(1, .ireturn, 0, 0, 0, .null)]
set_option maxRecDepth 20000 in
theorem oX11_issueManyx_106 : vm_okB 11 mX11_issueMany 106 bX11_issueManyx_106 = true := by decide +kernel
/-! the mint: issuing -/
section
variable {l : Launch} {O : Nat → vm_Ob} {f9 : Value} {v lo ts kn an rd wr : Nat} {tb : Nat → Nat} {w ou : List Nat} {ke ae : Nat → Nat} {kf : Nat → aK} {af : Nat → aA} {D : Nat → Nat} {dn : Bool} {wl : Int} {st2 kk2 : Nat → Int32} {st3 kk3 : Nat → Int64} {h h' : vm_H}
theorem MR_in {e q : Nat} (z : MR (Am (e + 3) (e + 4)) q) : e + 3 ≤ q ∧ q < e + 26 := by
  rcases z with rfl | ⟨i, hi, rfl⟩
  · exact Am_in (by decide) (by decide)
  · exact Am_in (by omega) (by omega)
theorem FM_in {v lo e q : Nat} (hl : v + 750 ≤ lo) (he : lo ≤ e) (z : FM (v + 724) (Am (e + 3) (e + 4)) q) : (v + 725 ≤ q ∧ q < v + 746) ∨ (e + 3 ≤ q ∧ q < e + 26) := by
  rcases z with z | z
  · left
    unfold RA at z
    omega
  · exact Or.inr (MR_in z)
theorem MV_uF {i ni ri : Nat} (k : MV st3 kk3 v lo tb ts ou kn an rd ke ae kf af D dn wl wr h) (hi : i < kn) (t2 : kty (kf i) = 2) (hh : h.1 < 1099511627776) (F : fr h h' (FM (v + 724) (Am (ke i + 3) (ke i + 4)))) (hr : ∃ w B, RSc (v + 724) h' w B) (hK : K2 h' (ke i + 2) (ksz (kf i)) (ksa (kf i)) (ke i) (ke i + 1) (ke i + 26) (bi (klv (kf i))) (Am (ke i + 3) (ke i + 4)) ni ri (gb (ksh (kf i))) (gb (kse (kf i)))) : MV st3 kk3 v lo tb ts ou kn an rd ke ae kf af D dn wl wr h' ∧ VF v lo h h' := by
  obtain ⟨⟨b1, b2, b3⟩, k1, k2, k3⟩ := k
  have ri9 := (k2.2.1 i hi).1
  have ex : kx (kf i) = 27 := if_neg (by omega)
  have hS := fun q (z : FM (v + 724) (Am (ke i + 3) (ke i + 4)) q) => FM_in b2 ri9.1 z
  rw [ex] at ri9
  refine ⟨⟨⟨b1, b2, by rw [F.1]; exact b3⟩, MB_rsa k1 (fun q z1 z2 z3 => F.2 q (fun s => by have := hS q s; omega)) hr, ⟨k2.1, fun j hj => ⟨by rw [F.1]; exact (k2.2.1 j hj).1, ?_⟩, k2.2.2⟩, ⟨k3.1, fun j hj => ⟨by rw [F.1]; exact (k3.2.1 j hj).1, (k3.2.1 j hj).2.1, AY_cg (k3.2.1 j hj).2.2 (fun q z1 z2 => F.2 q (fun s => ?_))⟩, k3.2.2⟩⟩, VF_fr F (fun q s => by have := hS q s; omega)⟩
  · by_cases e : j = i
    · rw [e]
      refine ⟨(k2.2.1 i hi).2.1, Or.inr ⟨t2, ⟨ni, ri, hK⟩, ?_⟩⟩
      rcases (k2.2.1 i hi).2.2 with z | z
      · exact absurd z.1 (by omega)
      · exact bw_cg z.2.2 (F.2 _ (fun s => by have := hS _ s; omega))
    · refine KY_cg (k2.2.1 j hj).2 (fun q z1 z2 => F.2 q (fun s => ?_))
      have := hS q s
      have rj := (k2.2.1 j hj).1
      rcases Nat.lt_or_ge i j with y | y
      · have := k2.2.2 i j y hj
        omega
      · have := k2.2.2 j i (by omega) hi
        omega
  · have := hS q s
    have rj := (k3.2.1 j hj).1
    have := k3.2.2.2 j i hj hi
    omega
/-- a KEY of TYPE 1, of TYPE 2 -/
theorem MV_k1 {i : Nat} (k : MV st3 kk3 v lo tb ts ou kn an rd ke ae kf af D dn wl wr h) (hi : i < kn) (t : kty (kf i) = 1) : KO h (ke i + 2) 1 48 49 0 (ke i + 1) (ke i) (ke i + 3) (v + 13 + 661) (bi (klv (kf i))) ∧ bv h 48 (ke i) (gb (kse (kf i))) ∧ bv h 49 (ke i + 1) (gb (ksh (kf i))) ∧ (0 < bn (gb (kse (kf i))) 0 48 ∧ bn (gb (kse (kf i))) 0 48 < cQ) ∧ ksh (kf i) = ptO (ecM (-3) fiv (bn (gb (kse (kf i))) 0 48) gP) ∧ (ksh (kf i)).length = 49 := by
  have kk := (MV_ky k hi).2
  rcases kk.1.2.2.2.2 with z | z
  · rcases kk.2 with y | y
    · have hl : (ksh (kf i)).length = 49 := by
        rw [z.2.2.2.2.2]
        exact ptO_len (mul_ne z.2.2.2.2.1.1 z.2.2.2.2.1.2 gP_o (fun z => nomatch z))
      exact ⟨y.2.1, bw_n y.2.2.1 z.2.2.2.1, bw_n y.2.2.2.1 hl, z.2.2.2.2.1, z.2.2.2.2.2, hl⟩
    · exact absurd y.1 (by omega)
  · exact absurd z.1 (by omega)
theorem MV_k2 {i : Nat} (k : MV st3 kk3 v lo tb ts ou kn an rd ke ae kf af D dn wl wr h) (hi : i < kn) (t : kty (kf i) = 2) : (∃ ni ri, K2 h (ke i + 2) (ksz (kf i)) (ksa (kf i)) (ke i) (ke i + 1) (ke i + 26) (bi (klv (kf i))) (Am (ke i + 3) (ke i + 4)) ni ri (gb (ksh (kf i))) (gb (kse (kf i)))) ∧ KA (v + 724) (ke i + 2) (ke i) (ke i + 1) (Am (ke i + 3) (ke i + 4)) := by
  have kk := (MV_ky k hi)
  have kb := k.1
  rcases kk.2.2 with y | y
  · exact absurd y.1 (by omega)
  · refine ⟨y.2.1, by omega, by omega, by omega, fun j hj => ?_⟩
    unfold Am
    repeat' split
    all_goals omega
theorem sl_w {ts a n : Nat} {b : Nat → Nat} {w : List Nat} (e : sl b 0 ts = w) (hn : a + n ≤ ts) : sl b a n = sl (gb w) a n := sl_ext (fun j hj => by rw [← e, gb_sl (by omega), Nat.zero_add])
theorem gb_w {ts j : Nat} {b : Nat → Nat} {w : List Nat} (e : sl b 0 ts = w) (hj : j < ts) : b j = gb w j := by rw [← e, gb_sl hj, Nat.zero_add]
theorem bn_w {ts a n : Nat} {b : Nat → Nat} {w : List Nat} (e : sl b 0 ts = w) (hn : a + n ≤ ts) : bn b a n = bn (gb w) a n := bn_ext n (fun j hj => gb_w e (by omega))
theorem tot_w {m : Nat} {b : Nat → Nat} {w : List Nat} (e : sl b 0 w.length = w) (hm : 2 ≤ m) : tot b w.length m = tot (gb w) w.length m := by
  unfold tot
  by_cases h : w.length < m
  · rw [if_pos (Or.inl h), if_pos (Or.inl h)]
  · rw [gb_w e (j := 0) (by omega), gb_w e (j := 1) (by omega)]
end
/-- by cases of anything -/
noncomputable def cif {α : Type} (P : Prop) (a b : α) : α := @ite α P (Classical.propDecidable P) a b
theorem cif_t {α : Type} {P : Prop} {a b : α} (h : P) : cif P a b = a := @if_pos P (Classical.propDecidable P) h α a b
theorem cif_f {α : Type} {P : Prop} {a b : α} (h : ¬ P) : cif P a b = b := @if_neg P (Classical.propDecidable P) h α a b
theorem cs_c9 {P P' : Nat → Option (fq × fq)} {f f' : Nat → Nat} : ∀ n, (∀ i, i < n → P i = P' i ∧ f i = f' i) → cs P f n = cs P' f' n
  | 0, _ => rfl
  | n + 1, h => by
    show ecA (-3) fiv (cs P f n) (ecM (-3) fiv (f n) (P n)) = ecA (-3) fiv (cs P' f' n) (ecM (-3) fiv (f' n) (P' n))
    rw [cs_c9 n (fun i hi => h i (by omega)), (h n (by omega)).1, (h n (by omega)).2]
theorem evl_c9 {Z Z' : Nat → Option (fq × fq)} : ∀ n, (∀ i, i < n → Z i = Z' i) → evl Z n = evl Z' n
  | 0, _ => rfl
  | n + 1, h => by
    show evl Z n ++ ptO (Z n) = evl Z' n ++ ptO (Z' n)
    rw [evl_c9 n (fun i hi => h i (by omega)), h n (by omega)]
section
variable {st3 kk3 : Nat → Int64} {a r n : Nat} {sh : List Nat} {cw cw' : Nat → List Nat}
theorem evZ_c9 (h : ∀ i, i < n → cw i = cw' i) {i : Nat} (hi : i < n) : evZ a cw i = evZ a cw' i := by unfold evZ; rw [h i hi]
theorem evM_c9 (h : ∀ i, i < n → cw i = cw' i) : evM st3 kk3 a sh cw n = evM st3 kk3 a sh cw' n := cs_c9 n (fun i hi => ⟨by rw [h i hi], by rw [evZ_c9 h hi, h i hi]⟩)
theorem evO_c9 (h : ∀ i, i < n → cw i = cw' i) : evOK st3 kk3 a r sh cw n ↔ evOK st3 kk3 a r sh cw' n := by
  have e : (∀ i, i < n → evZ a cw i ≠ none) ↔ (∀ i, i < n → evZ a cw' i ≠ none) := ⟨fun y i hi => by rw [← evZ_c9 h hi]; exact y i hi, fun y i hi => by rw [evZ_c9 h hi]; exact y i hi⟩
  unfold evOK
  rw [evM_c9 h, e]
theorem evA_c9 (h : ∀ i, i < n → cw i = cw' i) : evA st3 kk3 a r sh cw n = evA st3 kk3 a r sh cw' n := by
  unfold evA evC
  rw [evM_c9 h, evl_c9 n (fun i hi => evZ_c9 h hi)]
end
noncomputable def fGv (st3 kk3 : Nat → Int64) (x : aK) (w : List Nat) (many : Nat) (ou : List Nat) : Int32 × List Nat := cif (evOK st3 kk3 (bn (gb (kse x)) 0 48) (bn (gb w) (3 + 49 * many) 48) (ksh x) (fun i => sl (gb w) (3 + 49 * i) 49) many) (nI (49 * many + 96), evA st3 kk3 (bn (gb (kse x)) 0 48) (bn (gb w) (3 + 49 * many) 48) (ksh x) (fun i => sl (gb w) (3 + 49 * i) 49) many) (-4, ou)
/-- the KEY of a REQUEST -/
def fnd (kf : Nat → aK) (kn t lb : Nat) : Option Nat := fst9 (fun i => klv (kf i) && (decide (kty (kf i) = t) && decide (gb (kid (kf i)) 31 = lb))) kn
noncomputable def fIM (st3 kk3 : Nat → Int64) (z : Int) (w : List Nat) (kn : Nat) (kf : Nat → aK) (ou : List Nat) : Int32 × List Nat := if tot (gb w) w.length 3 = 1 ∧ 1 ≤ z ∧ z ≤ 8 then (match fnd kf kn 1 (gb w 2) with
  | none => (-3, ou)
  | some i => if w.length = 3 + 49 * z.toNat + 48 then fGv st3 kk3 (kf i) w z.toNat ou else (-2, ou)) else (-2, ou)
section
variable {l : Launch} {O : Nat → vm_Ob} {f9 : Value} {v lo ts kn an rd wr : Nat} {tb : Nat → Nat} {w ou : List Nat} {ke ae : Nat → Nat} {kf : Nat → aK} {af : Nat → aA} {D : Nat → Nat} {dn : Bool} {wl : Int} {st2 kk2 : Nat → Int32} {st3 kk3 : Nat → Int64} {h : vm_H}
theorem m_ev {i many : Nat} (k : MV st3 kk3 v lo tb ts ou kn an rd ke ae kf af D dn wl wr h) (ev : EV st2 kk2 st3 kk3 h) (h9 : f9.category = 1) (hi : i < kn) (ht : kty (kf i) = 1) (hm0 : 1 ≤ many) (hm1 : many ≤ 8) : vm_Met (vm_env l O f9) mX7_evaluate 0 0 [.ref (v + 13), .ref (ke i + 2), .ref (v + 2), .int (nI many)] h (fun r h' => ∃ ok : Bool, r = some (.int (bi ok)) ∧ (ok = true ↔ evOK st3 kk3 (bn (gb (kse (kf i))) 0 48) (bn tb (3 + 49 * many) 48) (ksh (kf i)) (fun i => sl tb (3 + 49 * i) 49) many) ∧ MV st3 kk3 v lo tb ts ou kn an rd ke ae kf af D dn wl wr h' ∧ VF v lo h h' ∧ (∃ W B V g, OPc (v + 13) h' W B V g ∧ (ok = true → W 0 = evA st3 kk3 (bn (gb (kse (kf i))) 0 48) (bn tb (3 + 49 * many) 48) (ksh (kf i)) (fun i => sl tb (3 + 49 * i) 49) many))) := by
  have kb := k.1
  obtain ⟨W, B, V, g, k5⟩ := MV_op k
  obtain ⟨kO, kS, kH, kq, kp, kl⟩ := MV_k1 k hi ht
  have rK := (MV_ky k hi).1
  have es : sl (gb (ksh (kf i))) 0 49 = ksh (kf i) := by
    have := sl_gb (ksh (kf i))
    rwa [kl] at this
  refine vm_metP (p_eva (many := many) h9 k5 ev kO (by unfold OR; omega) kH (by unfold OR; omega) (by decide) (by decide) kS (by unfold OR; omega) (by decide) (by decide) (MV_tp k).2.1 (by unfold OR; omega) (by omega) (by decide) kq.2 hm0 hm1) ?_
  rintro r h1 ⟨ok, er, hok, ⟨W1, B1, V1, g1, k1, hW⟩, F1⟩
  rw [es] at hok hW
  obtain ⟨k2, V2⟩ := MV_uO k F1 (fun q z => by unfold OR at z; omega) ⟨W1, B1, V1, g1, k1⟩
  exact ⟨ok, er, hok, k2, V2, W1, B1, V1, g1, k1, hW⟩
theorem evA_len {st3 kk3 : Nat → Int64} {a r n : Nat} {sh : List Nat} {cw : Nat → List Nat} (ok : evOK st3 kk3 a r sh cw n) : (evA st3 kk3 a r sh cw n).length = 49 * n + 96 := by
  unfold evA
  rw [List.length_append, List.length_append, wb_len, wb_len, evl_len n ok.2.1]
set_option maxHeartbeats 1000000 in
theorem m_ism {z : Int} (k : MS st3 kk3 v lo w ou kn an rd ke ae kf af D dn wl wr h) (ev : EV st2 kk2 st3 kk3 h) (h9 : f9.category = 1) (hz : i32 z) : vm_Met (vm_env l O f9) mX11_issueMany 0 0 [.ref v, .int (iZ z)] h (fun r h' => r = some (.int (fIM st3 kk3 z w kn kf ou).1) ∧ MS st3 kk3 v lo [] (fIM st3 kk3 z w kn kf ou).2 kn an rd ke ae kf af D dn wl wr h' ∧ VF v lo h h') := by
  obtain ⟨tb, k, ew⟩ := k
  have hts := MV_ts k
  suffices H : ∀ Q : Option Value → vm_H → Prop, (∀ x y h', fIM st3 kk3 z w kn kf ou = (x, y) → MS st3 kk3 v lo [] y kn an rd ke ae kf af D dn wl wr h' → VF v lo h h' → Q (some (.int x)) h') → vm_Met (vm_env l O f9) mX11_issueMany 0 0 [.ref v, .int (iZ z)] h Q from H _ (fun x y h' e a b => by rw [e]; exact ⟨rfl, a, b⟩)
  intro Q hQ
  refine vm_met rfl (Nat.le_of_ble_eq_true rfl) ?_
  refine vm_go rfl bX11_issueManyx_0 oX11_issueManyx_0 ⟨_, MV_0 k, 0, 0, _, m_use k, Nat.zero_le _, Nat.zero_le _, ?_⟩
  rintro _ h1 ⟨rfl, k1, V1, F1⟩
  refine vm_Th (lv' := [(0, .ref v), (1, .int (iZ z)), (2, .int (nI w.length))]) (h' := h1) rfl rfl ?_
  have ev1 := EV_vf ev V1
  have bad : fIM st3 kk3 z w kn kf ou = (-2, ou) → vm_T (vm_env l O f9) mX11_issueMany 0 0 26 [(0, .ref v), (1, .int (iZ z)), (2, .int (nI w.length))] [] h1 Q := fun e =>
    vm_go rfl bX11_issueMany_26 oX11_issueMany_26 (hQ _ _ _ e (MS_0 k1) V1)
  refine vm_go rfl bX11_issueManyx_5 oX11_issueManyx_5 ⟨_, MV_0 k1, 0, 0, _, m_tot (s := w.length) (m := 3) k1 (by omega) (by decide), Nat.zero_le _, Nat.zero_le _, ?_⟩
  rintro _ h1' ⟨rfl, e1⟩
  rw [e1]; clear e1 h1'
  rw [tot_w ew (by decide)]
  have ht1 : i32 (tot (gb w) w.length 3) := by
    unfold tot i32
    repeat' split
    all_goals omega
  refine ⟨fun q => bad (if_neg (fun c => ?_)), fun q => ⟨fun q2 => bad (if_neg (fun c => ?_)), fun q2 => ⟨fun q3 => ?_, fun q3 => bad (if_neg (fun c => ?_))⟩⟩⟩
  · have q : ¬ iZ (tot (gb w) w.length 3) = iZ 1 := q
    rw [iZ_inj ht1.1 ht1.2 (by decide) (by decide)] at q
    exact q c.1
  · have q2 : iZ z < iZ 1 := q2
    rw [iZ_lt hz.1 hz.2 (by decide) (by decide)] at q2
    omega
  · have q : iZ (tot (gb w) w.length 3) = iZ 1 := q
    rw [iZ_inj ht1.1 ht1.2 (by decide) (by decide)] at q
    have q2 : ¬ iZ z < iZ 1 := q2
    rw [iZ_lt hz.1 hz.2 (by decide) (by decide)] at q2
    have q3 : iZ z ≤ iZ 8 := q3
    rw [iZ_le hz.1 hz.2 (by decide) (by decide)] at q3
    have e0 : fIM st3 kk3 z w kn kf ou = (match fnd kf kn 1 (gb w 2) with
      | none => (-3, ou)
      | some i => if w.length = 3 + 49 * z.toNat + 48 then fGv st3 kk3 (kf i) w z.toNat ou else (-2, ou)) := if_pos ⟨q, by omega, q3⟩
    have h3 : 3 ≤ w.length := by
      unfold tot at q
      by_cases h : w.length < 3
      · rw [if_pos (Or.inl h)] at q; exact absurd q (by decide)
      · omega
    obtain ⟨m, rfl⟩ := iZ_nn (z := z) (by omega)
    rw [iZ_n] at *
    have e2 := gb_w ew (j := 2) (by omega)
    refine vm_go rfl bX11_issueManyx_29 oX11_issueManyx_29 ⟨_, MV_0 k1, 0, 0, _, m_lbl (t := 1) k1 (by decide), Nat.zero_le _, Nat.zero_le _, ?_⟩
    rintro _ h1' ⟨hf, e1⟩
    rw [e1]; clear e1 h1'
    rw [e2] at hf
    rcases hf with ⟨i, hf, rfl⟩ | ⟨hf, rfl⟩
    rotate_left
    · rw [show fnd kf kn 1 (gb w 2) = none from hf] at e0
      refine vm_Th (lv' := [(0, .ref v), (1, .int (nI m)), (2, .int (nI w.length)), (3, .null)]) (h' := h1) rfl rfl ?_
      exact vm_go rfl bX11_issueManyx_35 oX11_issueManyx_35 (hQ _ _ _ e0 (MS_0 k1) V1)
    obtain ⟨hi, hPi⟩ := fst9_P kn hf
    have hty : kty (kf i) = 1 := by
      have hPi : (klv (kf i) && (decide (kty (kf i) = 1) && decide (gb (kid (kf i)) 31 = gb w 2))) = true := hPi
      rw [Bool.and_eq_true, Bool.and_eq_true, decide_eq_true_iff] at hPi
      exact hPi.2.1
    rw [show fnd kf kn 1 (gb w 2) = some i from hf] at e0
    have e0 : fIM st3 kk3 (m : Int) w kn kf ou = if w.length = 3 + 49 * m + 48 then fGv st3 kk3 (kf i) w m ou else (-2, ou) := e0
    refine vm_Th (lv' := [(0, .ref v), (1, .int (nI m)), (2, .int (nI w.length)), (3, .ref (ke i + 2))]) (h' := h1) rfl rfl ?_
    refine vm_go rfl bX11_issueManyx_35 oX11_issueManyx_35 ?_
    have es : 3 + nI m * 49 + 48 = nI (3 + 49 * m + 48) := by
      rw [show nI m * 49 = nI (m * 49) from nI_mul m 49, show (3 : Int32) + nI (m * 49) = nI (3 + m * 49) from nI_add 3 _, show nI (3 + m * 49) + 48 = nI (3 + m * 49 + 48) from nI_add _ 48, Nat.mul_comm m 49]
    by_cases hsz : w.length = 3 + 49 * m + 48
    rotate_left
    · rw [if_neg hsz] at e0
      refine vm_go rfl bX11_issueManyx_42 oX11_issueManyx_42 ⟨fun q => absurd (show nI w.length = 3 + nI m * 49 + 48 from q) (by rw [es, nI_ij (by omega) (by omega)]; exact hsz), fun _ => hQ _ _ _ e0 (MS_0 k1) V1⟩
    rw [if_pos hsz] at e0
    refine vm_go rfl bX11_issueManyx_42 oX11_issueManyx_42 ⟨fun _ => ?_, fun q => absurd (show nI w.length = 3 + nI m * 49 + 48 by rw [es, hsz]) q⟩
    obtain ⟨W0, B0, P0, g0, o0⟩ := MV_op k1
    refine vm_go rfl bX11_issueManyx_58 oX11_issueManyx_58 ⟨_, _, MV_0 k1, rfl, ⟨_, _, MV_0 k1, rfl, ⟨_, _, (MV_tp k1).1, rfl, ⟨_, OP_t o0, 0, 0, _, m_ev (many := m) k1 ev1 h9 hi hty (by omega) (by omega), Nat.zero_le _, Nat.zero_le _, ?_⟩⟩⟩⟩
    rintro _ h2 ⟨ok, rfl, hok, k2, V2, W2, B2, P2, g2, o2, hW⟩
    have hcw : ∀ i, i < m → sl tb (3 + 49 * i) 49 = sl (gb w) (3 + 49 * i) 49 := fun i hi => sl_w ew (by omega)
    rw [bn_w ew (by omega), evO_c9 hcw] at hok
    rw [bn_w ew (by omega), evA_c9 hcw] at hW
    cases ok with
    | false =>
      have e3 : fIM st3 kk3 (m : Int) w kn kf ou = (-4, ou) := e0.trans (cif_f (fun y => nomatch (hok.mpr y)))
      exact ⟨fun _ => vm_go rfl bX11_issueMany_104 oX11_issueMany_104 (vm_go rfl bX11_issueMany_106 oX11_issueMany_106 (hQ _ _ _ e3 (MS_0 k2) (VF_t V1 V2))), fun q => absurd rfl q⟩
    | true =>
      have hok := hok.mp rfl
      have hW := hW rfl
      have e3 : fIM st3 kk3 (m : Int) w kn kf ou = _ := e0.trans (cif_t hok)
      rw [← evA_len hok, ← hW] at e3
      obtain ⟨b2, r2, s2⟩ := OP_w o2 (j := 0) (by decide)
      have l2 : (W2 0).length ≤ 488 := r2.2.2.1
      refine ⟨fun q => absurd q (by decide), fun _ => ⟨_, _, MV_0 k2, rfl, ⟨_, _, OP_t o2, rfl, ⟨_, _, OP_ro o2 (j := 0) (by decide), rfl, ⟨_, _, MV_0 k2, rfl, ⟨_, _, OP_t o2, rfl, ⟨_, _, OP_ro o2 (j := 0) (by decide), rfl, ⟨_, MV_0 k2, 0, 0, _, m_lve (m := (W2 0).length) k2 r2.2.1 (show v + 13 + 4 + 1 ≠ v + 3 by omega) r2.2.2.1 (by decide) (by omega), Nat.zero_le _, Nat.zero_le _, ?_⟩⟩⟩⟩⟩⟩⟩⟩
      rintro _ h3 ⟨rfl, k3, V3⟩
      rw [s2] at k3
      exact vm_go rfl bX11_issueMany_106 oX11_issueMany_106 (hQ _ _ _ e3 (MS_0 k3) (VF_t V1 (VF_t V2 V3)))
  · have q3 : ¬ iZ z ≤ iZ 8 := q3
    rw [iZ_le hz.1 hz.2 (by decide) (by decide)] at q3
    omega
end
