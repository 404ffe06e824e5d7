/-! the reference: join (the sum of points), multiply -/
def bX14_multiplyx_0 : List vm_J := [(1, .aload_n 0, 0, 0, 0, .null), (3, .getfield 149, 14, 12, 0, .null), (1, .aload_n 2, 0, 0, 0, .null), (3, .invokevirtual 119, 136, 1, 13, .null), (1, .aload_n 0, 0, 0, 0, .null), (3, .getfield 153, 14, 11, 0, .null), (1, .iconst 1, 0, 0, 0, .int 1), (3, .putfield 113, 13, 2, 2, .null), (3, .sipush 383, 0, 0, 0, .int 383), (2, .istore 4, 0, 0, 0, .null)]
set_option maxRecDepth 20000 in
theorem oX14_multiplyx_0 : vm_okB 14 mX14_multiply 0 bX14_multiplyx_0 = true := by decide +kernel
def bX14_multiplyx_21 : List vm_J := [(2, .iload 4, 0, 0, 0, .null), (3, .ifCond .lt 60, 83, 0, 0, .null), (1, .aload_n 0, 0, 0, 0, .null), (1, .aload_n 0, 0, 0, 0, .null), (3, .getfield 153, 14, 11, 0, .null), (1, .aload_n 0, 0, 0, 0, .null), (3, .getfield 153, 14, 11, 0, .null), (1, .aload_n 0, 0, 0, 0, .null), (3, .getfield 153, 14, 11, 0, .null), (3, .invokevirtual 156, 157, 3, 14, .null), (1, .aload_n 1, 0, 0, 0, .null), (2, .iload 4, 0, 0, 0, .null), (2, .bipush 32, 0, 0, 0, .int 32), (1, .idiv, 0, 0, 0, .null), (1, .iaload, 0, 0, 0, .null), (2, .iload 4, 0, 0, 0, .null), (2, .bipush 32, 0, 0, 0, .int 32), (1, .irem, 0, 0, 0, .null), (1, .iushr, 0, 0, 0, .null), (1, .iconst 1, 0, 0, 0, .int 1), (1, .iand, 0, 0, 0, .null), (1, .iconst 1, 0, 0, 0, .int 1), (3, .if_icmp .ne 19, 77, 0, 0, .null), (1, .aload_n 0, 0, 0, 0, .null), (1, .aload_n 0, 0, 0, 0, .null), (3, .getfield 153, 14, 11, 0, .null), (1, .aload_n 0, 0, 0, 0, .null), (3, .getfield 149, 14, 12, 0, .null), (1, .aload_n 0, 0, 0, 0, .null), (3, .getfield 153, 14, 11, 0, .null), (3, .invokevirtual 156, 157, 3, 14, .null)]
set_option maxRecDepth 20000 in
theorem oX14_multiplyx_21 : vm_okB 14 mX14_multiply 21 bX14_multiplyx_21 = true := by decide +kernel
def bX14_multiplyx_77 : List vm_J := [(3, .iinc 4 (-1), 0, 0, 0, .int (-1)), (3, .goto (-59), 21, 0, 0, .null)]
set_option maxRecDepth 20000 in
theorem oX14_multiplyx_77 : vm_okB 14 mX14_multiply 77 bX14_multiplyx_77 = true := by decide +kernel
def bX14_multiplyx_83 : List vm_J := [(1, .aload_n 3, 0, 0, 0, .null), (1, .aload_n 0, 0, 0, 0, .null), (3, .getfield 153, 14, 11, 0, .null), (3, .invokevirtual 119, 136, 1, 13, .null), (1, .return_, 0, 0, 0, .null)]
set_option maxRecDepth 20000 in
theorem oX14_multiplyx_83 : vm_okB 14 mX14_multiply 83 bX14_multiplyx_83 = true := by decide +kernel
section
variable {l : Launch} {O : Nat → vm_Ob} {f9 : Value} {h : vm_H}
set_option maxHeartbeats 1000000 in
theorem rm_join {a sa sb sc : Nat} {P R : Option (fq × fq)} {g : Nat → Int32} (k : CU h a g) (hP : SP h sa P) (hR : SP h sb R) (hQ : SQ h sc) (oa : okS a sa) (ob : okS a sb) (oc : okS a sc) (d1 : apS sc sa) (d2 : apS sc sb) : vm_Met (vm_env l O f9) mX14_join 0 0 [.ref a, .ref sa, .ref sb, .ref sc] h (fun r h' => r = none ∧ CU h' a g ∧ SP h' sc (ecA (-3) fiv P R) ∧ fr h h' (fun q => JW a q ∨ (sc ≤ q ∧ q ≤ sc + 2))) := by
  have oa' := oa
  have ob' := ob
  have oc' := oc
  obtain ⟨oa1, oa2, oa3⟩ := oa'
  obtain ⟨ob1, ob2, ob3⟩ := ob'
  obtain ⟨oc1, oc2, oc3⟩ := oc'
  have ao := k.2.2.2
  have o23 : okC a (a + 23) := ⟨by omega, by omega⟩
  have o24 : okC a (a + 24) := ⟨by omega, by omega⟩
  have o25 : okC a (a + 25) := ⟨by omega, by omega⟩
  have isk : ∀ (h' : vm_H), fr h h' (fun q => sc ≤ q ∧ q ≤ sc + 2) → CU h' a g := fun h' F => CU_st k F (fun q z => by omega) (fun q hj z => by unfold JW at hj; omega)
  refine vm_met rfl (Nat.le_of_ble_eq_true rfl) ?_
  cases P with
  | none =>
    refine vm_go rfl bX14_joinx_0 oX14_joinx_0 ⟨_, _, hP.1, rfl, ⟨fun q => absurd q (by decide), fun _ => ?_⟩⟩
    obtain ⟨b9, q9⟩ := hQ.1
    refine ⟨_, q9, 0, 0, _, rs_is hR hQ d2 oc2, Nat.zero_le _, Nat.zero_le _, ?_⟩
    rintro _ h1 ⟨rfl, s1, F1⟩
    exact ⟨rfl, isk h1 F1, s1, fr_mono F1 (fun q z => Or.inr z)⟩
  | some p =>
    obtain ⟨x1, y1⟩ := p
    refine vm_go rfl bX14_joinx_0 oX14_joinx_0 ⟨_, _, hP.1, rfl, ⟨fun _ => ?_, fun q => absurd rfl q⟩⟩
    cases R with
    | none =>
      refine vm_go rfl bX14_joinx_13 oX14_joinx_13 ⟨_, _, hR.1, rfl, ⟨fun q => absurd q (by decide), fun _ => ?_⟩⟩
      obtain ⟨b9, q9⟩ := hQ.1
      refine ⟨_, q9, 0, 0, _, rs_is hP hQ d1 oc2, Nat.zero_le _, Nat.zero_le _, ?_⟩
      rintro _ h1 ⟨rfl, s1, F1⟩
      exact ⟨rfl, isk h1 F1, s1, fr_mono F1 (fun q z => Or.inr z)⟩
    | some r =>
      obtain ⟨x2, y2⟩ := r
      refine vm_go rfl bX14_joinx_13 oX14_joinx_13 ⟨_, _, hR.1, rfl, ⟨fun _ => ?_, fun q => absurd rfl q⟩⟩
      refine vm_go rfl bX14_joinx_26 oX14_joinx_26 ⟨_, _, hP.1, rfl, ⟨_, _, hR.1, rfl, ⟨0, 0, _, rm_cmp hP.2.1 hR.2.1 (by decide) (by decide) (by decide) (fq_b12 x1) (fq_b12 x2), Nat.zero_le _, Nat.zero_le _, ?_⟩⟩⟩
      rintro z h1' ⟨hz, e9⟩
      rw [e9]; clear e9 h1'
      have t47 : ∀ al : Bool, (al = true ↔ x1 = x2) → vm_T (vm_env l O f9) mX14_join 0 0 47 [(0, .ref a), (1, .ref sa), (2, .ref sb), (3, .ref sc)] [.int (bi al)] h (fun r h' => r = none ∧ CU h' a g ∧ SP h' sc (ecA (-3) fiv (some (x1, y1)) (some (x2, y2))) ∧ fr h h' (fun q => JW a q ∨ (sc ≤ q ∧ q ≤ sc + 2))) := by
        intro al hal
        refine vm_go rfl bX14_joinx_47 oX14_joinx_47 ?_
        refine vm_Th (lv' := [(0, .ref a), (1, .ref sa), (2, .ref sb), (3, .ref sc), (4, .int (bi al))]) (h' := h) rfl rfl ?_
        refine vm_go rfl bX14_joinx_49 oX14_joinx_49 ⟨_, _, k.1, rfl, ⟨_, _, hP.1, rfl, ⟨_, _, hR.1, rfl, ⟨_, _, k.1, rfl, ⟨0, 0, _, cq_add k hP.2.2 hR.2.2 (CU_w k (by decide) (by decide)) o24, Nat.zero_le _, Nat.zero_le _, ?_⟩⟩⟩⟩⟩
        rintro _ h2 ⟨rfl, k2, w2, F2⟩
        have hP2 := SP_fr hP F2 (fun q z1 z2 z3 => by omega)
        have hR2 := SP_fr hR F2 (fun q z1 z2 z3 => by omega)
        have hQ2 := SQ_fr hQ F2 (fun q z1 z2 z3 => by omega)
        have F2 : fr h h2 (fun q => JW a q) := fr_mono F2 (fun q z => by unfold JW; omega)
        -- the end of both ways
        have fin : ∀ (h4 : vm_H) (s0 w0 : fq) (lv : vm_L), CU h4 a g → wq h4 (a + 23) s0 → wq h4 (a + 24) w0 → fr h2 h4 (fun q => JW a q) → s0 * w0 = ecL (-3) fiv x1 y1 x2 y2 → ¬ (x1 = x2 ∧ y1 + y2 = 0) → lv_pick lv [0, 1, 2, 3] = [(0, .ref a), (1, .ref sa), (2, .ref sb), (3, .ref sc)] → vm_T (vm_env l O f9) mX14_join 0 0 260 lv [] h4 (fun r h' => r = none ∧ CU h' a g ∧ SP h' sc (ecA (-3) fiv (some (x1, y1)) (some (x2, y2))) ∧ fr h h' (fun q => JW a q ∨ (sc ≤ q ∧ q ≤ sc + 2))) := by
          intro h4 s0 w0 lv k4 ws ww F4 el hn hlv
          refine join_t (x1 := x1) (y1 := y1) (x2 := x2) (y2 := y2) (sc := sc) k4 (SP_fr hP2 F4 (fun q z1 z2 z3 => by unfold JW at z3; omega)) (SP_fr hR2 F4 (fun q z1 z2 z3 => by unfold JW at z3; omega)) (SQ_fr hQ2 F4 (fun q z1 z2 z3 => by unfold JW at z3; omega)) oa ob oc ws ww hlv (fun h' k' s' F' => ?_)
          refine ⟨rfl, k', ?_, fr_trans (fr_mono (fr_trans F2 F4) (fun q z => Or.inl z)) F'⟩
          have : ecA (-3) fiv (some (x1, y1)) (some (x2, y2)) = ecT (ecL (-3) fiv x1 y1 x2 y2) x1 y1 x2 := if_neg hn
          rw [this, ← el]
          exact s'
        cases al with
        | true =>
          have ex := hal.mp rfl
          refine ⟨fun q => absurd q (by decide), fun _ => ?_⟩
          obtain ⟨f2, ef2, vf2⟩ := id w2
          refine ⟨_, _, k2.1, rfl, ⟨0, 0, _, rm_zero ef2 (by decide) (by decide), Nat.zero_le _, Nat.zero_le _, ?_⟩⟩
          rintro _ h3' ⟨⟨ok, rfl, hok⟩, e9⟩
          rw [e9]; clear e9 h3'
          have hz0 : ok = true ↔ y1 + y2 = 0 := by
            rw [hok]
            constructor
            · intro y
              refine Fin.ext (dw_eq (n := 12) (fq_b12 _) (by decide) (fun k hk => ?_))
              have := y k hk
              rw [vf2 k hk] at this
              rw [nI_inj (dw_lt _ _) (by decide) (show nI (dw (y1 + y2).val k) = nI 0 from this)]
              show 0 = dw 0 k
              unfold dw
              rw [Nat.zero_div]
            · intro y k hk
              rw [vf2 k hk, y]
              show nI (dw 0 k) = 0
              unfold dw
              rw [Nat.zero_div]
              rfl
          cases ok with
          | true =>
            have ey := hz0.mp rfl
            refine ⟨fun q => absurd q (by decide), fun _ => ?_⟩
            obtain ⟨⟨b9, q9⟩, q91, q92⟩ := hQ2
            have l0 : sc < 1099511627776 := by omega
            refine ⟨_, q9, l0, show 2 < 3 by decide, Or.inr rfl, ⟨rfl, ?_, ?_, ?_⟩⟩
            · exact CU_st k2 (fr_up rfl) (fun q z => by omega) (fun q hj z => by unfold JW at hj; omega)
            · have : ecA (-3) fiv (some (x1, y1)) (some (x2, y2)) = none := if_pos ⟨ex, ey⟩
              rw [this]
              exact ⟨vm_upe, iw_cg q91 (vm_upn (by omega)), iw_cg q92 (vm_upn (by omega))⟩
            · exact fr_trans (fr_mono F2 (fun q z => Or.inl z)) (fr_mono (fr_up rfl) (fun q z => Or.inr (by omega)))
          | false =>
            have ey : y1 + y2 ≠ 0 := fun y => nomatch hz0.mpr y
            refine ⟨fun _ => ?_, fun q => absurd rfl q⟩
            refine vm_go rfl bX14_joinx_91 oX14_joinx_91 ⟨fun q => absurd q (by decide), fun _ => ⟨_, _, k2.1, rfl, ⟨_, _, k2.1, rfl, ⟨_, _, k2.1, rfl, ⟨_, k2.1, 0, 0, _, cq_inv k2 w2 ey (CU_w k2 (by decide) (by decide)) o23 (by omega), Nat.zero_le _, Nat.zero_le _, ?_⟩⟩⟩⟩⟩
            rintro _ h3 ⟨rfl, k3, w3, F3⟩
            refine vm_Th (lv' := [(0, .ref a), (1, .ref sa), (2, .ref sb), (3, .ref sc), (4, .int (bi true)), (5, .int 1)]) (h' := h3) rfl rfl ?_
            have F3 : fr h2 h3 (fun q => JW a q) := fr_mono F3 (fun q z => by unfold JW; omega)
            have hP3 := SP_fr hP2 F3 (fun q z1 z2 z3 => by unfold JW at z3; omega)
            refine vm_go rfl bX14_joinx_114 oX14_joinx_114 ⟨_, _, k3.1, rfl, ⟨_, _, hP3.1, rfl, ⟨_, _, hP3.1, rfl, ⟨_, _, k3.1, rfl, ⟨_, k3.1, 0, 0, _, cq_mul k3 hP3.2.1 hP3.2.1 (CU_w k3 (by decide) (by decide)) o25 (by omega) (by omega), Nat.zero_le _, Nat.zero_le _, ?_⟩⟩⟩⟩⟩
            rintro _ h4 ⟨rfl, k4, w4, F4⟩
            have w3 := wq_cg w3 (F4.2 (a + 23) (by omega))
            refine ⟨_, _, k4.1, rfl, ⟨0, 0, _, cq_sm (x := 1) k4 (CU_w k4 (by decide) (by decide)) o24 (by decide), Nat.zero_le _, Nat.zero_le _, ?_⟩⟩
            rintro _ h5 ⟨rfl, k5, w5, F5⟩
            have w3 := wq_cg w3 (F5.2 (a + 23) (by omega))
            have w4 := wq_cg w4 (F5.2 (a + 25) (by omega))
            refine ⟨_, _, k5.1, rfl, ⟨_, _, k5.1, rfl, ⟨_, _, k5.1, rfl, ⟨_, _, k5.1, rfl, ⟨0, 0, _, cq_sub k5 w4 w5 (wv_iw w4) o25, Nat.zero_le _, Nat.zero_le _, ?_⟩⟩⟩⟩⟩
            rintro _ h6 ⟨rfl, k6, w6, F6⟩
            have w3 := wq_cg w3 (F6.2 (a + 23) (by omega))
            refine ⟨_, _, k6.1, rfl, ⟨_, _, k6.1, rfl, ⟨_, _, k6.1, rfl, ⟨_, _, k6.1, rfl, ⟨0, 0, _, cq_add k6 w6 w6 (CU_w k6 (by decide) (by decide)) o24, Nat.zero_le _, Nat.zero_le _, ?_⟩⟩⟩⟩⟩
            rintro _ h7 ⟨rfl, k7, w7, F7⟩
            have w3 := wq_cg w3 (F7.2 (a + 23) (by omega))
            have w6 := wq_cg w6 (F7.2 (a + 25) (by omega))
            refine ⟨_, _, k7.1, rfl, ⟨_, _, k7.1, rfl, ⟨_, _, k7.1, rfl, ⟨_, _, k7.1, rfl, ⟨0, 0, _, cq_add k7 w6 w7 (wv_iw w7) o24, Nat.zero_le _, Nat.zero_le _, ?_⟩⟩⟩⟩⟩
            rintro _ h8 ⟨rfl, k8, w8, F8⟩
            have w3 := wq_cg w3 (F8.2 (a + 23) (by omega))
            have F28 : fr h2 h8 (fun q => JW a q) := fr_trans F3 (fr_trans (fr_mono F4 (fun q z => by unfold JW; omega)) (fr_trans (fr_mono F5 (fun q z => by unfold JW; omega)) (fr_trans (fr_mono F6 (fun q z => by unfold JW; omega)) (fr_trans (fr_mono F7 (fun q z => by unfold JW; omega)) (fr_mono F8 (fun q z => by unfold JW; omega))))))
            refine fin h8 _ _ _ k8 w3 w8 F28 ?_ (fun y => ey y.2) rfl
            have : ecL (-3) fiv x1 y1 x2 y2 = (x1 * x1 + x1 * x2 + x2 * x2 + -3) * fiv (y1 + y2) := if_pos ex
            rw [this, ← ex]
            exact ecL_a
        | false =>
          have ex : x1 ≠ x2 := fun y => nomatch hal.mpr y
          refine ⟨fun _ => ?_, fun q => absurd rfl q⟩
          refine vm_go rfl bX14_joinx_91 oX14_joinx_91 ⟨fun _ => ?_, fun q => absurd rfl q⟩
          refine vm_go rfl bX14_joinx_204 oX14_joinx_204 ⟨_, _, k2.1, rfl, ⟨_, _, hR2.1, rfl, ⟨_, _, hP2.1, rfl, ⟨_, _, k2.1, rfl, ⟨0, 0, _, cq_sub k2 hR2.2.1 hP2.2.1 (wv_iw w2) o24, Nat.zero_le _, Nat.zero_le _, ?_⟩⟩⟩⟩⟩
          rintro _ h3 ⟨rfl, k3, w3, F3⟩
          refine ⟨_, _, k3.1, rfl, ⟨_, _, k3.1, rfl, ⟨_, _, k3.1, rfl, ⟨_, k3.1, 0, 0, _, cq_inv k3 w3 (fun z => ex (sub_z z).symm) (CU_w k3 (by decide) (by decide)) o23 (by omega), Nat.zero_le _, Nat.zero_le _, ?_⟩⟩⟩⟩
          rintro _ h4 ⟨rfl, k4, w4, F4⟩
          refine vm_Th (lv' := [(0, .ref a), (1, .ref sa), (2, .ref sb), (3, .ref sc), (4, .int (bi false)), (5, .int 1)]) (h' := h4) rfl rfl ?_
          have F24 : fr h2 h4 (fun q => JW a q) := fr_trans (fr_mono F3 (fun q z => by unfold JW; omega)) (fr_mono F4 (fun q z => by unfold JW; omega))
          have hP4 := SP_fr hP2 F24 (fun q z1 z2 z3 => by unfold JW at z3; omega)
          have hR4 := SP_fr hR2 F24 (fun q z1 z2 z3 => by unfold JW at z3; omega)
          refine vm_go rfl bX14_joinx_241 oX14_joinx_241 ⟨_, _, k4.1, rfl, ⟨_, _, hR4.1, rfl, ⟨_, _, hP4.1, rfl, ⟨_, _, k4.1, rfl, ⟨0, 0, _, cq_sub k4 hR4.2.2 hP4.2.2 (CU_w k4 (by decide) (by decide)) o24, Nat.zero_le _, Nat.zero_le _, ?_⟩⟩⟩⟩⟩
          rintro _ h5 ⟨rfl, k5, w5, F5⟩
          refine fin h5 _ _ _ k5 (wq_cg w4 (F5.2 (a + 23) (by omega))) w5 (fr_trans F24 (fr_mono F5 (fun q z => by unfold JW; omega))) ?_ (fun y => ex y.1) rfl
          have : ecL (-3) fiv x1 y1 x2 y2 = (y1 - y2) * fiv (x1 - x2) := if_neg ex
          rw [this]
          exact ecL_b ex
      by_cases ce : x1 = x2
      · have ez : z = some (.int 0) := by
          rcases hz with y | y | y
          · rw [ce] at y; exact absurd (show x2.val < x2.val from y.1) (Nat.lt_irrefl _)
          · exact y.2
          · rw [ce] at y; exact absurd (show x2.val < x2.val from y.1) (Nat.lt_irrefl _)
        rw [ez]
        refine ⟨fun q => absurd rfl q, fun _ => ?_⟩
        exact t47 true ⟨fun _ => ce, fun _ => rfl⟩
      · have ez : ∃ u : Int32, z = some (.int u) ∧ ¬ u = 0 := by
          rcases hz with y | y | y
          · exact ⟨-1, y.2, by decide⟩
          · exact absurd (Fin.ext y.1) ce
          · exact ⟨1, y.2, by decide⟩
        obtain ⟨u, rfl, hu⟩ := ez
        refine ⟨fun _ => ?_, fun q => absurd q hu⟩
        exact vm_go rfl bX14_joinx_46 oX14_joinx_46 (t47 false ⟨fun y => (nomatch y), fun y => absurd y ce⟩)
theorem rm_multiply {a pk Lk sa st K : Nat} {P : Option (fq × fq)} {g : Nat → Int32} (k : CU h a g) (hK : wv h Lk pk 12 K) (hLk : 12 ≤ Lk) (hP : SP h sa P) (oP : ecO (-3) (fz (cB : Int)) P) (hS : SQ h (a + 17)) (hW : SQ h (a + 20)) (hQ : SQ h st) (ot : okS a st) (d1 : apS (a + 20) sa) (d2 : st + 2 < a + 17 ∨ a + 22 < st) (os : sa + 2 < a + 17 ∨ a + 19 < sa) (opk : a + 25 < pk) (opt : pk ≠ st ∧ pk ≠ st + 1 ∧ pk ≠ st + 2) : vm_Met (vm_env l O f9) mX14_multiply 0 0 [.ref a, .ref pk, .ref sa, .ref st] h (fun r h' => r = none ∧ CU h' a g ∧ SP h' st (ecM (-3) fiv (K % 2 ^ 384) P) ∧ (SQ h' (a + 17) ∧ SQ h' (a + 20)) ∧ fr h h' (fun q => JW a q ∨ (a + 17 ≤ q ∧ q ≤ a + 22) ∨ (st ≤ q ∧ q ≤ st + 2))) := by
  have ao := k.2.2.2
  have ot' := ot
  obtain ⟨ot1, ot2, ot3⟩ := ot'
  have o17 : okS a (a + 17) := ⟨by omega, by omega, by omega⟩
  have o20 : okS a (a + 20) := ⟨by omega, by omega, by omega⟩
  obtain ⟨fk, ek, vk⟩ := hK
  refine vm_met rfl (Nat.le_of_ble_eq_true rfl) ?_
  obtain ⟨⟨b20, q20⟩, _, _⟩ := id hW
  refine vm_go rfl bX14_multiplyx_0 oX14_multiplyx_0 ⟨_, _, k.1, rfl, ⟨_, q20, 0, 0, _, rs_is hP hW d1 (by omega), Nat.zero_le _, Nat.zero_le _, ?_⟩⟩
  rintro _ h1 ⟨rfl, s1, F1⟩
  have k1 : CU h1 a g := CU_st k F1 (fun q z => by omega) (fun q hj z => by unfold JW at hj; omega)
  have hS1 := SQ_fr hS F1 (fun q z1 z2 z3 => by omega)
  obtain ⟨⟨b17, q17⟩, q171, q172⟩ := hS1
  have l0 : a + 17 < 1099511627776 := by omega
  refine ⟨_, _, k1.1, rfl, ⟨_, q17, l0, show 2 < 3 by decide, Or.inr rfl, ?_⟩⟩
  obtain ⟨h2, eh2⟩ : ∃ h2, vm_up h1 (a + 17) (SPo (a + 17) 1) = h2 := ⟨_, rfl⟩
  refine vm_Th (lv' := [(0, .ref a), (1, .ref pk), (2, .ref sa), (3, .ref st), (4, .int (iZ ((384 : Nat) - 1)))]) (h' := h2) rfl (by rw [← eh2]; rfl) ?_
  have F2 : fr h1 h2 (fun q => q = a + 17) := by rw [← eh2]; exact fr_up rfl
  have k2 : CU h2 a g := CU_st k1 F2 (fun q z => by omega) (fun q hj z => by unfold JW at hj; omega)
  have s2 : SP h2 (a + 20) P := SP_fr s1 F2 (fun q z1 z2 z3 => by omega)
  have z2 : SP h2 (a + 17) none := ⟨by rw [← eh2]; exact vm_upe, iw_cg q171 (F2.2 _ (by omega)), iw_cg q172 (F2.2 _ (by omega))⟩
  have FF : fr h h2 (fun q => JW a q ∨ (a + 17 ≤ q ∧ q ≤ a + 22)) := fr_trans (fr_mono F1 (fun q z => Or.inr (by omega))) (fr_mono F2 (fun q z => Or.inr (by omega)))
  have TT : ∀ i : Nat, i ≤ 384 → ∀ h4 : vm_H, CU h4 a g → SP h4 (a + 20) P → SP h4 (a + 17) (ecM (-3) fiv (K % 2 ^ 384 / 2 ^ i) P) → fr h h4 (fun q => JW a q ∨ (a + 17 ≤ q ∧ q ≤ a + 22)) → vm_T (vm_env l O f9) mX14_multiply 0 0 21 [(0, .ref a), (1, .ref pk), (2, .ref sa), (3, .ref st), (4, .int (iZ ((i : Int) - 1)))] [] h4 (fun r h' => r = none ∧ CU h' a g ∧ SP h' st (ecM (-3) fiv (K % 2 ^ 384) P) ∧ (SQ h' (a + 17) ∧ SQ h' (a + 20)) ∧ fr h h' (fun q => JW a q ∨ (a + 17 ≤ q ∧ q ≤ a + 22) ∨ (st ≤ q ∧ q ≤ st + 2))) := by
    intro i
    induction i with
    | zero =>
      intro _ h4 k4 w20 w17 F4
      refine vm_go rfl bX14_multiplyx_21 oX14_multiplyx_21 ⟨fun _ => ?_, fun q => absurd (show iZ (((0 : Nat) : Int) - 1) < 0 by decide) q⟩
      rw [Nat.pow_zero, Nat.div_one] at w17
      have hQ4 : SQ h4 st := SQ_fr hQ F4 (fun q z1 z2 z3 => by unfold JW at z3; omega)
      obtain ⟨b9, q9⟩ := hQ4.1
      refine vm_go rfl bX14_multiplyx_83 oX14_multiplyx_83 ⟨_, _, k4.1, rfl, ⟨_, q9, 0, 0, _, rs_is w17 hQ4 (by unfold apS; omega) ot2, Nat.zero_le _, Nat.zero_le _, ?_⟩⟩
      rintro _ h5 ⟨rfl, s5, F5⟩
      exact ⟨rfl, CU_st k4 F5 (fun q z => by omega) (fun q hj z => by unfold JW at hj; omega), s5, ⟨SQ_fr (SP_q w17) F5 (fun q z1 z2 z3 => by omega), SQ_fr (SP_q w20) F5 (fun q z1 z2 z3 => by omega)⟩, fr_trans (fr_mono F4 (fun q z => by unfold JW at *; omega)) (fr_mono F5 (fun q z => by unfold JW at *; omega))⟩
    | succ i ih =>
      intro hi h4 k4 w20 w17 F4
      have ei : iZ (((i + 1 : Nat) : Int) - 1) = nI i := by
        rw [iZ_nI]; congr 1; omega
      rw [ei]
      have n0 : ¬ nI i < (0 : Int32) := by
        show ¬ nI i < nI 0
        rw [nI_ltI (by omega) (by decide)]; omega
      obtain ⟨e', ee⟩ : ∃ e', K % 2 ^ 384 / 2 ^ (i + 1) = e' := ⟨_, rfl⟩
      have eb := bit_m (E := K) (i := i) (bits := 384) (by omega)
      rw [ee] at w17 eb
      have nx : ∀ h6 : vm_H, CU h6 a g → SP h6 (a + 20) P → SP h6 (a + 17) (ecM (-3) fiv (K % 2 ^ 384 / 2 ^ i) P) → fr h h6 (fun q => JW a q ∨ (a + 17 ≤ q ∧ q ≤ a + 22)) → vm_T (vm_env l O f9) mX14_multiply 0 0 77 [(0, .ref a), (1, .ref pk), (2, .ref sa), (3, .ref st), (4, .int (nI i))] [] h6 (fun r h' => r = none ∧ CU h' a g ∧ SP h' st (ecM (-3) fiv (K % 2 ^ 384) P) ∧ (SQ h' (a + 17) ∧ SQ h' (a + 20)) ∧ fr h h' (fun q => JW a q ∨ (a + 17 ≤ q ∧ q ≤ a + 22) ∨ (st ≤ q ∧ q ≤ st + 2))) := by
        intro h6 k6 w206 w176 F6
        refine vm_go rfl bX14_multiplyx_77 oX14_multiplyx_77 ?_
        refine vm_Th (lv' := [(0, .ref a), (1, .ref pk), (2, .ref sa), (3, .ref st), (4, .int (iZ ((i : Int) - 1)))]) (h' := h6) ?_ rfl (ih (by omega) h6 k6 w206 w176 F6)
        have : iZ ((i : Int) - 1) = nI i + (-1) := by
          rw [iZ_nI, show (-1 : Int32) = iZ (-1) by decide, iZ_add]; rfl
        rw [this]; rfl
      refine vm_go rfl bX14_multiplyx_21 oX14_multiplyx_21 ⟨fun q => absurd q n0, fun _ => ⟨_, _, k4.1, rfl, ⟨_, _, k4.1, rfl, ⟨_, _, k4.1, rfl, ⟨_, k4.1, 0, 0, _, rm_join k4 w17 w17 (SP_q w17) o17 o17 o17 (Or.inl rfl) (Or.inl rfl), Nat.zero_le _, Nat.zero_le _, ?_⟩⟩⟩⟩⟩
      rintro _ h5 ⟨rfl, k5, w175, F5⟩
      rw [← ecM_add cK oP, ← Nat.two_mul] at w175
      have w205 := SP_fr w20 F5 (fun q z1 z2 z3 => by unfold JW at z3; omega)
      have F5 : fr h h5 (fun q => JW a q ∨ (a + 17 ≤ q ∧ q ≤ a + 22)) := fr_trans F4 (fr_mono F5 (fun q z => by unfold JW at *; omega))
      have ek5 : ia h5 Lk pk fk := (F5.2 pk (fun z => by unfold JW at z; omega)).trans ek
      have ed : nI i / 32 = nI (i / 32) := nI_div (b := 32) (by omega) (by decide)
      have er : nI i - nI i / 32 * 32 = nI (i % 32) := nI_rem (b := 32) (by omega) (by decide)
      have hde := dw_lt K (i / 32)
      have eu : ((fk (i / 32)).toUInt32 >>> ((nI i - nI i / 32 * 32).toUInt32 &&& Int32.toUInt32 31)).toInt32 &&& 1 = nI (K / 2 ^ i % 2) := by
        rw [vk (i / 32) (by omega), er, nI_ush hde (by omega), nI_par, bit_E]
      refine ⟨by decide, ⟨Lk, fk, ek5, i / 32, ed, by omega, fun _ => ⟨by decide, ?_⟩⟩⟩
      by_cases hb : K / 2 ^ i % 2 = 1
      · rw [hb] at eu eb
        refine ⟨fun q => absurd (show ((fk (i / 32)).toUInt32 >>> ((nI i - nI i / 32 * 32).toUInt32 &&& Int32.toUInt32 31)).toInt32 &&& 1 = 1 from eu) q, fun _ => ?_⟩
        refine ⟨_, _, k5.1, rfl, ⟨_, _, k5.1, rfl, ⟨_, _, k5.1, rfl, ⟨_, k5.1, 0, 0, _, rm_join k5 w175 w205 (SP_q w175) o17 o20 o17 (Or.inl rfl) (by unfold apS; omega), Nat.zero_le _, Nat.zero_le _, ?_⟩⟩⟩⟩
        rintro _ h6 ⟨rfl, k6, w176, F6⟩
        refine nx h6 k6 (SP_fr w205 F6 (fun q z1 z2 z3 => by unfold JW at z3; omega)) ?_ (fr_trans F5 (fr_mono F6 (fun q z => by unfold JW at *; omega)))
        rw [eb]
        exact w176
      · have hb0 : K / 2 ^ i % 2 = 0 := by omega
        rw [hb0] at eu eb
        rw [Nat.add_zero] at eb
        rw [← eb] at w175
        refine ⟨fun _ => nx h5 k5 w205 w175 F5, fun q => absurd (show ((fk (i / 32)).toUInt32 >>> ((nI i - nI i / 32 * 32).toUInt32 &&& Int32.toUInt32 31)).toInt32 &&& 1 = 1 from q) (by rw [eu]; decide)⟩
  exact TT 384 (Nat.le_refl _) h2 k2 s2 (by rw [Nat.div_eq_of_lt (Nat.mod_lt _ (Nat.pow_pos (by decide)))]; exact z2) FF
end
