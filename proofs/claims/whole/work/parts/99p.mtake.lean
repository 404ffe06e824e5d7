/-! the mint: takeOutputs -/
def bX11_takeOutputsx_0 : List vm_J := [(1, .aload_n 0, 0, 0, 0, .null), (3, .getfield 18, 11, 1, 0, .null), (3, .invokevirtual 111, 89, 0, 9, .null), (1, .iconst 0, 0, 0, 0, .int 0), (1, .istore_n 3, 0, 0, 0, .null)]
set_option maxRecDepth 20000 in
theorem oX11_takeOutputsx_0 : vm_okB 11 mX11_takeOutputs 0 bX11_takeOutputsx_0 = true := by decide +kernel
def bX11_takeOutputsx_9 : List vm_J := [(1, .iload_n 3, 0, 0, 0, .null), (1, .iload_n 2, 0, 0, 0, .null), (3, .if_icmp .ge 67, 78, 0, 0, .null), (1, .aload_n 0, 0, 0, 0, .null), (3, .getfield 60, 11, 8, 0, .null), (1, .iload_n 1, 0, 0, 0, .null), (1, .iload_n 3, 0, 0, 0, .null), (1, .iadd, 0, 0, 0, .null), (1, .aaload, 0, 0, 0, .null), (2, .astore 4, 0, 0, 0, .null)]
set_option maxRecDepth 20000 in
theorem oX11_takeOutputsx_9 : vm_okB 11 mX11_takeOutputs 9 bX11_takeOutputsx_9 = true := by decide +kernel
def bX11_takeOutputsx_24 : List vm_J := [(1, .aload_n 0, 0, 0, 0, .null), (3, .getfield 34, 11, 4, 0, .null), (1, .iload_n 3, 0, 0, 0, .null), (2, .aload 4, 0, 0, 0, .null), (3, .invokevirtual 266, 74, 2, 7, .null), (2, .aload 4, 0, 0, 0, .null), (1, .iconst 0, 0, 0, 0, .int 0), (3, .putfield 259, 0, 4, 2, .null), (1, .aload_n 0, 0, 0, 0, .null), (3, .getfield 18, 11, 1, 0, .null), (2, .aload 4, 0, 0, 0, .null), (3, .getfield 269, 0, 1, 0, .null), (1, .iconst 0, 0, 0, 0, .int 0), (2, .bipush 98, 0, 0, 0, .int 98), (3, .invokevirtual 89, 93, 3, 9, .null), (1, .aload_n 0, 0, 0, 0, .null), (3, .getfield 18, 11, 1, 0, .null), (1, .aload_n 0, 0, 0, 0, .null), (3, .getfield 34, 11, 4, 0, .null), (3, .getfield 272, 7, 2, 0, .null), (1, .iconst 0, 0, 0, 0, .int 0), (2, .bipush 48, 0, 0, 0, .int 48), (3, .invokevirtual 89, 93, 3, 9, .null), (3, .iinc 3 1, 0, 0, 0, .int 1), (3, .goto (-66), 9, 0, 0, .null)]
set_option maxRecDepth 20000 in
theorem oX11_takeOutputsx_24 : vm_okB 11 mX11_takeOutputs 24 bX11_takeOutputsx_24 = true := by decide +kernel
def bX11_takeOutputsx_78 : List vm_J := [(1, .aload_n 0, 0, 0, 0, .null), (3, .getfield 18, 11, 1, 0, .null), (3, .getfield 82, 9, 1, 0, .null), (1, .ireturn, 0, 0, 0, .null)]
set_option maxRecDepth 20000 in
theorem oX11_takeOutputsx_78 : vm_okB 11 mX11_takeOutputs 78 bX11_takeOutputsx_78 = true := by decide +kernel
theorem bn_gw {x : Nat} (hx : x < cQ) : bn (gb (wb x 48)) 0 48 = x := by
  have h : cQ < 256 ^ 48 := by decide +kernel
  have e := sl_gb (wb x 48)
  rw [wb_len] at e
  exact wb_nb 48 (by omega) _ _ e
section
variable {l : Launch} {O : Nat → vm_Ob} {f9 : Value} {v lo ts kn an rd wr : Nat} {tb : Nat → Nat} {w ou : List Nat} {ke ae : Nat → Nat} {kf : Nat → aK} {af : Nat → aA} {D : Nat → Nat} {dn : Bool} {wl : Int} {st2 kk2 : Nat → Int32} {st3 kk3 : Nat → Int64} {h : vm_H}
set_option maxHeartbeats 1000000 in
theorem m_tko {n many : Nat} {W : Nat → List Nat} {B : Nat → Nat → Nat} {P : Nat → Option Nat} {g : og} {Pt : Nat → Option (fq × fq)} (k : MV st3 kk3 v lo tb ts ou kn an rd ke ae kf af D dn wl wr h) (ev : EV st2 kk2 st3 kk3 h) (h9 : f9.category = 1) (hh : h.1 < 1099511627776) (hm0 : 1 ≤ many) (hm : many ≤ 8) (hn : n + many ≤ an) (ht : ∀ j, j < many → kty (kf (aky (af (n + j)))) = 1) (o0 : OPc (v + 13) h W B P g) (hg : ∀ j, j < many → g.1 j = some (Pt j)) (hg2 : ∃ q, g.2 0 = some q) (hP : ∀ j, j < many → ecM (-3) fiv (ivm cQ (abl (af (n + j)))) (Pt j) ≠ none) : vm_Met (vm_env l O f9) mX11_takeOutputs 0 0 [.ref v, .int (nI n), .int (nI many)] h (fun r h' => r = some (.int (nI (146 * many))) ∧ MV st3 kk3 v lo tb ts (tko st3 kk3 af n Pt many) kn an rd ke ae kf (clz af n many) D dn wl wr h' ∧ VF v lo h h') := by
  have kb := k.1
  have han := MV_an k
  have tl : ∀ m, m ≤ many → (tko st3 kk3 af n Pt m).length = 146 * m := by
    intro m
    induction m with
    | zero => intro _; rfl
    | succ m ihm =>
      intro hm'
      show (tko st3 kk3 af n Pt m ++ tkP st3 kk3 (af (n + m)) (Pt m)).length = _
      obtain ⟨_, li, _⟩ := MV_a1 k (i := n + m) (by omega) (ht m (by omega))
      obtain ⟨q, hq⟩ := Option.ne_none_iff_exists'.mp (hP m (by omega))
      rw [List.length_append, ihm (by omega)]
      unfold tkP
      rw [hq, List.length_append, li]
      show 146 * m + (98 + (outm st3 kk3 (ain (af (n + m))) q).length) = _
      rw [show (outm st3 kk3 (ain (af (n + m))) q).length = 48 from H3_len]
      omega
  refine vm_met rfl (Nat.le_of_ble_eq_true rfl) ?_
  refine vm_go rfl bX11_takeOutputsx_0 oX11_takeOutputsx_0 ⟨_, _, MV_0 k, rfl, ⟨_, MV_lo k, 0, 0, _, l_clear (MV_lf k), Nat.zero_le _, Nat.zero_le _, ?_⟩⟩
  rintro _ h1 ⟨rfl, l1, F1⟩
  have F1 : fr h h1 (fun q => q = v + 3 ∨ q = v + 4) := fr_mono F1 (fun q z => Or.inl z)
  obtain ⟨k1, V1⟩ := MV_uL k F1 (fun q z => z) l1
  refine vm_Th (lv' := [(0, .ref v), (1, .int (nI n)), (2, .int (nI many)), (3, .int (nI 0))]) (h' := h1) rfl rfl ?_
  refine vm_loop (fun i h2 => MV st3 kk3 v lo tb ts (tko st3 kk3 af n Pt i) kn an rd ke ae kf (clz af n i) D dn wl wr h2 ∧ VF v lo h h2 ∧ h2.1 = h.1 ∧ ∃ W B P g2, OPc (v + 13) h2 W B P g2 ∧ g2.1 = g.1 ∧ ∃ q, g2.2 0 = some q) many (fun i => [(0, .ref v), (1, .int (nI n)), (2, .int (nI many)), (3, .int (nI i))]) 0 h1 (Nat.zero_le _) ?_ ?_ ?_
  · exact ⟨k1, V1, F1.1, W, B, P, g, OP_out o0 (fun q z1 z2 => F1.2 q (by omega)), rfl, hg2⟩
  · rintro h2 ⟨k2, V2, _⟩
    refine vm_go rfl bX11_takeOutputsx_9 oX11_takeOutputsx_9 ⟨fun _ => ?_, fun q => absurd (nI_le (a := many) (b := many) (Nat.le_refl _) (by omega)) q⟩
    refine vm_go rfl bX11_takeOutputsx_78 oX11_takeOutputsx_78 ⟨_, _, MV_0 k2, rfl, ⟨_, _, MV_lo k2, rfl, ⟨?_, k2, V2⟩⟩⟩
    rw [tl many (Nat.le_refl _)]
  · rintro i h2 _ hi ⟨k2, V2, c2, W2, B2, P2, g2, o2, eg, hq2⟩ ih
    have hni : n + i < an := by omega
    have kb2 := k2.1
    have ec : clz af n i (n + i) = af (n + i) := clz_o i (Or.inl (Nat.le_refl _))
    have kA := MV_ay k2 hni
    have k1a := MV_a1 k2 hni (by rw [ec]; exact ht i hi)
    rw [ec] at kA k1a
    obtain ⟨⟨r1, r2⟩, hki, kA⟩ := kA
    obtain ⟨ki, li, _, kv, _, _, iv1, iv2⟩ := k1a
    obtain ⟨q9, hq9⟩ := Option.ne_none_iff_exists'.mp (hP i hi)
    have hf9 : ae (n + i) < 1099511627776 := by omega
    refine vm_go rfl bX11_takeOutputsx_9 oX11_takeOutputsx_9 ⟨fun q => absurd q (nI_ge hi (by omega)), fun _ => ⟨_, _, MV_0 k2, rfl, ⟨_, _, _, _, MV_ar k2, by decide, rfl, n + i, nI_add n i, by omega, AQR_at hni, ?_⟩⟩⟩
    refine vm_Th (lv' := [(0, .ref v), (1, .int (nI n)), (2, .int (nI many)), (3, .int (nI i)), (4, .ref (ae (n + i)))]) (h' := h2) rfl rfl ?_
    refine vm_go rfl bX11_takeOutputsx_24 oX11_takeOutputsx_24 ⟨_, _, MV_0 k2, rfl, ⟨_, OP_t o2, 0, 0, _, p_unb (pl := i) (P := Pt i) h9 o2 (EV_vf ev V2) kA.1 (by unfold OR; omega) ki (by unfold OR; omega) (by decide) (by decide) kv (by decide) (by decide) (by omega) (by rw [eg]; exact hg i hi) hq2, Nat.zero_le _, Nat.zero_le _, ?_⟩⟩
    rintro _ h3 ⟨rfl, ⟨W3, B3, P3, g3, o3, _, eg3, hq3, hout⟩, F3⟩
    have hout := hout q9 (by rw [bn_gw iv1]; exact hq9)
    rw [show sl (gb (ain (af (n + i)))) 0 98 = ain (af (n + i)) by rw [← li]; exact sl_gb _] at hout
    obtain ⟨k3, V3⟩ := MV_uO k2 F3 (fun q z => by unfold OR at z; omega) ⟨W3, B3, P3, g3, o3⟩
    have A3 := AO_fr kA.1 F3 (by unfold OR; omega)
    refine ⟨_, A3, hf9, show 4 < 5 by decide, Or.inl rfl, ?_⟩
    have F4 : fr h3 (vm_up h3 (ae (n + i)) (.inr (0, [.ref (ke (aky (af (n + i))) + 2), .ref (ae (n + i) + 1), .ref (ae (n + i) + 2), .ref (ae (n + i) + 3), .int 0]))) (fun q => q = ae (n + i)) := fr_up rfl
    have A4 : AO (vm_up h3 (ae (n + i)) (.inr (0, [.ref (ke (aky (af (n + i))) + 2), .ref (ae (n + i) + 1), .ref (ae (n + i) + 2), .ref (ae (n + i) + 3), .int 0]))) (ae (n + i)) (ke (aky (af (n + i))) + 2) (ae (n + i) + 1) (ae (n + i) + 2) (ae (n + i) + 3) 0 := vm_upe
    show vm_sx _ _ _ _ _ _ _ _ _ (vm_up h3 (ae (n + i)) (.inr (0, [.ref (ke (aky (af (n + i))) + 2), .ref (ae (n + i) + 1), .ref (ae (n + i) + 2), .ref (ae (n + i) + 3), .int 0])))
    generalize vm_up h3 (ae (n + i)) (.inr (0, [.ref (ke (aky (af (n + i))) + 2), .ref (ae (n + i) + 1), .ref (ae (n + i) + 2), .ref (ae (n + i) + 3), .int 0])) = h4 at *
    have c3 : h3.1 = h.1 := F3.1.trans c2
    obtain ⟨k4, V4⟩ := MV_cl k3 hni (by omega) F4 (by rw [ec]; exact A4)
    rw [ec] at k4
    have k4 : MV st3 kk3 v lo tb ts (tko st3 kk3 af n Pt i) kn an rd ke ae kf (clz af n (i + 1)) D dn wl wr h4 := k4
    have o4 : OPc (v + 13) h4 W3 B3 P3 g3 := OP_out o3 (fun q z1 z2 => F4.2 q (by omega))
    have ki4 := fr_bv F4 (fr_bv F3 ki (by unfold OR; omega)) (by omega)
    refine ⟨_, _, MV_0 k4, rfl, ⟨_, _, A4, rfl, ⟨_, MV_lo k4, 0, 0, _, l_all (at9 := 0) (m := 98) (MV_lf k4) ki4 (by decide) (by decide) (by rw [tl i (by omega)]; omega), Nat.zero_le _, Nat.zero_le _, ?_⟩⟩⟩
    rintro _ h5 ⟨rfl, l5, F5⟩
    rw [show sl (gb (ain (af (n + i)))) 0 98 = ain (af (n + i)) by rw [← li]; exact sl_gb _] at l5
    obtain ⟨k5, V5⟩ := MV_uL k4 F5 (fun q z => z) l5
    have o5 : OPc (v + 13) h5 W3 B3 P3 g3 := OP_out o4 (fun q z1 z2 => F5.2 q (by omega))
    refine ⟨_, _, MV_0 k5, rfl, ⟨_, _, MV_0 k5, rfl, ⟨_, _, OP_t o5, rfl, ⟨_, MV_lo k5, 0, 0, _, l_all (at9 := 0) (m := 48) (MV_lf k5) (OP_b o5 (j := 2) (by decide)) (by decide) (by decide) (by rw [List.length_append, li, tl i (by omega)]; omega), Nat.zero_le _, Nat.zero_le _, ?_⟩⟩⟩⟩
    rintro _ h6 ⟨rfl, l6, F6⟩
    rw [hout] at l6
    obtain ⟨k6, V6⟩ := MV_uL k5 F6 (fun q z => z) l6
    have o6 : OPc (v + 13) h6 W3 B3 P3 g3 := OP_out o5 (fun q z1 z2 => F6.2 q (by omega))
    have et : tko st3 kk3 af n Pt i ++ ain (af (n + i)) ++ outm st3 kk3 (ain (af (n + i))) q9 = tko st3 kk3 af n Pt (i + 1) := by
      show _ = tko st3 kk3 af n Pt i ++ tkP st3 kk3 (af (n + i)) (Pt i)
      unfold tkP
      rw [hq9, List.append_assoc]
    rw [et] at k6
    refine vm_Th (lv' := [(0, .ref v), (1, .int (nI n)), (2, .int (nI many)), (3, .int (nI (i + 1))), (4, .ref (ae (n + i)))]) (h' := h6) (by rw [← nI_1]; rfl) rfl ?_
    refine vm_less [0, 1, 2, 3] (lv' := [(0, .ref v), (1, .int (nI n)), (2, .int (nI many)), (3, .int (nI (i + 1)))]) rfl ?_
    exact ih h6 ⟨k6, VF_t V2 (VF_t V3 (VF_t V4 (VF_t V5 V6))), by rw [F6.1, F5.1, F4.1, c3], W3, B3, P3, g3, o6, eg3.trans eg, hq3⟩
end
