/-! the mint: closing ASKINGS -/
/-- the inverse -/
noncomputable def ivm (N r : Nat) : Nat := Classical.epsilon (fun i => i < N ∧ r * i % N = 1)
theorem ivm_u {N r i j : Nat} (hi : i < N) (hj : j < N) (e1 : r * i % N = 1) (e2 : r * j % N = 1) : i = j := by
  have a : i * (r * j) % N = i := by
    rw [Nat.mul_mod, e2, Nat.mul_one, Nat.mod_mod, Nat.mod_eq_of_lt hi]
  have b : j * (r * i) % N = j := by
    rw [Nat.mul_mod, e1, Nat.mul_one, Nat.mod_mod, Nat.mod_eq_of_lt hj]
  have c : i * (r * j) = j * (r * i) := by
    rw [← Nat.mul_assoc, ← Nat.mul_assoc, Nat.mul_comm i r, Nat.mul_comm j r, Nat.mul_assoc, Nat.mul_assoc, Nat.mul_comm i j]
  rw [← a, c, b]
theorem ivm_e {N r i : Nat} (hi : i < N) (e : r * i % N = 1) : ivm N r = i := by
  have := Classical.epsilon_spec (p := fun i => i < N ∧ r * i % N = 1) ⟨i, hi, e⟩
  exact ivm_u this.1 hi this.2 e
def cl9 (x : aA) : aA := (aky x, false, ain x, abl x)
def clz (af : Nat → aA) (n : Nat) : Nat → Nat → aA
  | 0 => af
  | m + 1 => fu (clz af n m) (n + m) (cl9 (af (n + m)))
theorem clz_o {af : Nat → aA} {n j : Nat} : ∀ m, n + m ≤ j ∨ j < n → clz af n m j = af j
  | 0, _ => rfl
  | m + 1, h => by
    show fu (clz af n m) (n + m) _ j = _
    rw [fu_n (by omega)]; exact clz_o m (by omega)
/-- the TOKEN of an ASKING of TYPE 1 -/
noncomputable def tkP (st3 kk3 : Nat → Int64) (x : aA) (P : Option (fq × fq)) : List Nat := ain x ++ (match ecM (-3) fiv (ivm cQ (abl x)) P with
  | some q => outm st3 kk3 (ain x) q
  | none => [])
noncomputable def tko (st3 kk3 : Nat → Int64) (af : Nat → aA) (n : Nat) (P : Nat → Option (fq × fq)) : Nat → List Nat
  | 0 => []
  | m + 1 => tko st3 kk3 af n P m ++ tkP st3 kk3 (af (n + m)) (P m)
theorem AY_cl {st3 kk3 : Nat → Int64} {h h' : vm_H} {f K : Nat} {x : aA} {y : aK} (k : AY st3 kk3 h f K x y) (n : AO h' f K (f + 1) (f + 2) (f + 3) 0) (c : ∀ q, f < q → q < f + 4 → h'.2 q = h.2 q) : AY st3 kk3 h' f K (cl9 x) y := by
  obtain ⟨k1, k2, bl, iv, k3, k4, k5⟩ := k
  exact ⟨n, bw_cg k2 (c _ (by omega) (by omega)), bl, iv, k3, bw_cg k4 (c _ (by omega) (by omega)), bw_cg k5 (c _ (by omega) (by omega))⟩
section
variable {l : Launch} {O : Nat → vm_Ob} {f9 : Value} {v lo ts kn an rd wr : Nat} {tb : Nat → Nat} {w ou : List Nat} {ke ae : Nat → Nat} {kf : Nat → aK} {af : Nat → aA} {D : Nat → Nat} {dn : Bool} {wl : Int} {st2 kk2 : Nat → Int32} {st3 kk3 : Nat → Int64} {h h' : vm_H}
/-- an ASKING is closed -/
theorem MV_cl {j : Nat} (k : MV st3 kk3 v lo tb ts ou kn an rd ke ae kf af D dn wl wr h) (hj : j < an) (hh : h.1 < 1099511627776) (F : fr h h' (fun q => q = ae j)) (n : AO h' (ae j) (ke (aky (af j)) + 2) (ae j + 1) (ae j + 2) (ae j + 3) 0) : MV st3 kk3 v lo tb ts ou kn an rd ke ae kf (fu af j (cl9 (af j))) D dn wl wr h' ∧ VF v lo h h' := by
  obtain ⟨⟨b1, b2, b3⟩, k1, k2, k3⟩ := k
  have rj := k3.2.1 j hj
  refine ⟨⟨⟨b1, b2, by rw [F.1]; exact b3⟩, MB_cg k1 (fun q z1 z2 => F.2 q (by omega)), ⟨k2.1, fun i hi => ⟨by rw [F.1]; exact (k2.2.1 i hi).1, KY_cg (k2.2.1 i hi).2 (fun q z1 z2 => F.2 q ?_)⟩, k2.2.2⟩, ⟨k3.1, fun i hi => ?_, k3.2.2⟩⟩, VF_fr F (fun q s => by omega)⟩
  · have := k3.2.2.2 j i hj hi
    omega
  · by_cases e : i = j
    · rw [e, fu_e, F.1]
      exact ⟨rj.1, rj.2.1, AY_cl rj.2.2 n (fun q z1 z2 => F.2 q (by omega))⟩
    · rw [fu_n e, F.1]
      have ri := k3.2.1 i hi
      refine ⟨ri.1, ri.2.1, AY_cg ri.2.2 (fun q z1 z2 => F.2 q ?_)⟩
      rcases Nat.lt_or_ge i j with y | y
      · have := k3.2.2.1 i j y hj
        omega
      · have := k3.2.2.1 j i (by omega) hi
        omega
end
section
variable {l : Launch} {O : Nat → vm_Ob} {f9 : Value} {v lo ts kn an rd wr : Nat} {tb : Nat → Nat} {w ou : List Nat} {ke ae : Nat → Nat} {kf : Nat → aK} {af : Nat → aA} {D : Nat → Nat} {dn : Bool} {wl : Int} {st2 kk2 : Nat → Int32} {st3 kk3 : Nat → Int64} {h : vm_H}
theorem MV_a1 {i : Nat} (k : MV st3 kk3 v lo tb ts ou kn an rd ke ae kf af D dn wl wr h) (hi : i < an) (t : kty (kf (aky (af i))) = 1) : bv h 98 (ae i + 1) (gb (ain (af i))) ∧ (ain (af i)).length = 98 ∧ (∃ bl, bv h 49 (ae i + 2) (gb bl) ∧ bl.length = 49 ∧ bl = ptO (ecM (-3) fiv (abl (af i)) (htg st3 kk3 (ain (af i))))) ∧ bv h 48 (ae i + 3) (gb (wb (ivm cQ (abl (af i))) 48)) ∧ (0 < abl (af i) ∧ abl (af i) < cQ) ∧ ecM (-3) fiv (abl (af i)) (htg st3 kk3 (ain (af i))) ≠ none ∧ ivm cQ (abl (af i)) < cQ ∧ abl (af i) * ivm cQ (abl (af i)) % cQ = 1 := by
  obtain ⟨_, _, k1, k2, bl, iv, ⟨a1, a2, a3⟩, k4, k5⟩ := MV_ay k hi
  rcases a3 with ⟨_, b1, b2, b3, i9, c1, c2, c3⟩ | y
  · have ei := ivm_e c1 c2
    rw [ei]
    have lb : bl.length = 49 := by
      rw [b3]
      exact ptO_len b2
    refine ⟨bw_n k2 a2, a2, ⟨bl, bw_n k4 lb, lb, b3⟩, ?_, b1, b2, c1, c2⟩
    rw [c3] at k5
    exact bw_n k5 wb_len
  · exact absurd y.1 (by omega)
theorem m_rem {n many : Nat} (k : MV st3 kk3 v lo tb ts ou kn an rd ke ae kf af D dn wl wr h) (hm : many ≤ 8) (hn : n + many ≤ an) (ht : ∀ j, j < many → kty (kf (aky (af (n + j)))) = 1) : vm_Met (vm_env l O f9) mX11_remindOf 0 0 [.ref v, .int (nI n), .int (nI many)] h (fun r h' => r = none ∧ MV st3 kk3 v lo tb ts ou kn an rd ke ae kf af D dn wl wr h' ∧ VF v lo h h' ∧ fr h h' (fun q => q = v + 13 + 692) ∧ ∃ W B V g, OPc (v + 13) h' W B V g ∧ ∀ j, j < many → sl (B 6) (49 * j) 49 = ptO (ecM (-3) fiv (abl (af (n + j))) (htg st3 kk3 (ain (af (n + j)))))) := by
  have kb := k.1
  have han := MV_an k
  refine vm_met rfl (Nat.le_of_ble_eq_true rfl) ?_
  refine vm_go rfl bX11_remindOf_0 oX11_remindOf_0 ?_
  refine vm_Th (lv' := [(0, .ref v), (1, .int (nI n)), (2, .int (nI many)), (3, .int (nI 0))]) (h' := h) rfl rfl ?_
  refine vm_loop (fun i h1 => MV st3 kk3 v lo tb ts ou kn an rd ke ae kf af D dn wl wr h1 ∧ VF v lo h h1 ∧ fr h h1 (fun q => q = v + 13 + 692) ∧ ∃ W B V g, OPc (v + 13) h1 W B V g ∧ ∀ j, j < i → sl (B 6) (49 * j) 49 = ptO (ecM (-3) fiv (abl (af (n + j))) (htg st3 kk3 (ain (af (n + j)))))) many (fun i => [(0, .ref v), (1, .int (nI n)), (2, .int (nI many)), (3, .int (nI i))]) 0 h (Nat.zero_le _) ?_ ?_ ?_
  · obtain ⟨W, B, V, g, o⟩ := MV_op k
    exact ⟨k, VF_r, fr_refl, W, B, V, g, o, fun j hj => by omega⟩
  · rintro h1 ⟨k1, V1, F1, hp⟩
    refine vm_go rfl bX11_remindOf_2 oX11_remindOf_2 ⟨fun _ => ?_, fun q => absurd (nI_le (a := many) (b := many) (Nat.le_refl _) (by omega)) q⟩
    exact vm_go rfl bX11_remindOf_32 oX11_remindOf_32 ⟨rfl, k1, V1, F1, hp⟩
  · rintro i h1 _ hi ⟨k1, V1, F1, W, B, P, g, o1, hp⟩ ih
    have hni : n + i < an := by omega
    obtain ⟨_, _, ⟨bl, kB, lb, eb⟩, _, _, _, _, _⟩ := MV_a1 k1 hni (ht i hi)
    refine vm_go rfl bX11_remindOf_2 oX11_remindOf_2 ⟨fun q => absurd q (nI_ge hi (by omega)), fun _ => ⟨_, _, MV_0 k1, rfl, ⟨_, _, MV_0 k1, rfl, ⟨_, _, _, _, MV_ar k1, by decide, rfl, n + i, nI_add n i, by omega, AQR_at hni, ⟨_, _, (MV_ay k1 hni).2.2.1, rfl, ⟨_, OP_t o1, 0, 0, _, p_rem (i := i) o1 (by omega) kB (by decide), Nat.zero_le _, Nat.zero_le _, ?_⟩⟩⟩⟩⟩⟩
    rintro _ h2 ⟨rfl, o2, F2⟩
    obtain ⟨k2, V2⟩ := MV_uO k1 F2 (fun q z => by omega) ⟨_, _, _, _, o2⟩
    refine vm_Th (lv' := [(0, .ref v), (1, .int (nI n)), (2, .int (nI many)), (3, .int (nI (i + 1)))]) (h' := h2) (by rw [← nI_1]; rfl) rfl ?_
    refine ih h2 ⟨k2, VF_t V1 V2, fr_trans F1 F2, W, _, P, g, o2, fun j hj => ?_⟩
    show sl (fu B 6 (app (B 6) (49 * i) (gb bl) 49) 6) (49 * j) 49 = _
    rw [fu_e]
    by_cases e : j = i
    · rw [e, ← eb]
      have : sl (app (B 6) (49 * i) (gb bl) 49) (49 * i) 49 = sl (gb bl) 0 49 := sl_app_hi
      rw [this, ← lb, sl_gb]
    · rw [← hp j (by omega)]
      refine sl_ext (fun x hx => ?_)
      unfold app
      rw [if_neg (by omega)]
theorem m_tsg {i len : Nat} {w6 : List Nat} {B6 : Nat → Nat → Nat} (k : MV st3 kk3 v lo tb ts ou kn an rd ke ae kf af D dn wl wr h) (hi : i < an) (hh : h.1 < 1099511627776) (o : RSc (v + 724) h w6 B6) (hl : ksz (kf (aky (af i))) = len) (hl2 : len ≤ 256) : vm_Met (vm_env l O f9) mX11_takeSignature 0 0 [.ref v, .ref (ae i)] h (fun r h' => r = some (.int (nI (98 + len))) ∧ MV st3 kk3 v lo tb ts (ain (af i) ++ sl (B6 2) 0 len) kn an rd ke ae kf (fu af i (cl9 (af i))) D dn wl wr h' ∧ VF v lo h h') := by
  have kb := k.1
  obtain ⟨⟨r1, r2⟩, hki, kA⟩ := MV_ay k hi
  obtain ⟨⟨rk1, rk2⟩, kY⟩ := MV_ky k hki
  have hkx := kx_le (kf (aky (af i)))
  have hne := k.2.2.2.2.2.2 i _ hi hki
  have hf9 : ae i < 1099511627776 := by omega
  have li : (ain (af i)).length = 98 := by
    obtain ⟨_, _, _, _, a, _⟩ := kA
    exact a.2.1
  refine vm_met rfl (Nat.le_of_ble_eq_true rfl) ?_
  refine vm_go rfl bX11_takeSignature_0 oX11_takeSignature_0 ⟨_, kA.1, hf9, show 4 < 5 by decide, Or.inl rfl, ?_⟩
  have F1 : fr h (vm_up h (ae i) (.inr (0, [.ref (ke (aky (af i)) + 2), .ref (ae i + 1), .ref (ae i + 2), .ref (ae i + 3), .int 0]))) (fun q => q = ae i) := fr_up rfl
  have A1 : AO (vm_up h (ae i) (.inr (0, [.ref (ke (aky (af i)) + 2), .ref (ae i + 1), .ref (ae i + 2), .ref (ae i + 3), .int 0]))) (ae i) (ke (aky (af i)) + 2) (ae i + 1) (ae i + 2) (ae i + 3) 0 := vm_upe
  show vm_sx _ _ _ _ _ _ _ _ _ (vm_up h (ae i) (.inr (0, [.ref (ke (aky (af i)) + 2), .ref (ae i + 1), .ref (ae i + 2), .ref (ae i + 3), .int 0])))
  generalize vm_up h (ae i) (.inr (0, [.ref (ke (aky (af i)) + 2), .ref (ae i + 1), .ref (ae i + 2), .ref (ae i + 3), .int 0])) = h1 at *
  obtain ⟨k1, V1⟩ := MV_cl k hi hh F1 A1
  have ki1 := bw_cg kA.2.1 (F1.2 (ae i + 1) (by omega))
  have ki1 := bw_n ki1 li
  have o1 : RSc (v + 724) h1 w6 B6 := RS_out o (fun q z1 z2 => F1.2 q (by omega))
  obtain ⟨bs, sh, se, ia, mo, kO, _, _, _, rr, _⟩ := KY_o kY
  have kO1 := KO_fr kO F1 (by omega)
  refine ⟨_, _, MV_0 k1, rfl, ⟨_, MV_lo k1, 0, 0, _, l_clear (MV_lf k1), Nat.zero_le _, Nat.zero_le _, ?_⟩⟩
  rintro _ h2 ⟨rfl, l2, F2⟩
  have F2 : fr h1 h2 (fun q => q = v + 3 ∨ q = v + 4) := fr_mono F2 (fun q z => Or.inl z)
  obtain ⟨k2, V2⟩ := MV_uL k1 F2 (fun q z => z) l2
  refine ⟨_, _, MV_0 k2, rfl, ⟨_, _, (F2.2 (ae i) (by omega)).trans A1, rfl, ⟨_, MV_lo k2, 0, 0, _, l_all (at9 := 0) (m := 98) l2 (fr_bv F2 ki1 (by omega)) (by decide) (by decide) (by decide), Nat.zero_le _, Nat.zero_le _, ?_⟩⟩⟩
  rintro _ h3 ⟨rfl, l3, F3⟩
  rw [List.nil_append, ← li, sl_gb] at l3
  obtain ⟨k3, V3⟩ := MV_uL k2 F3 (fun q z => z) l3
  have F3 := fr_trans F2 F3
  have o3 : RSc (v + 724) h3 w6 B6 := RS_out o1 (fun q z1 z2 => F3.2 q (by omega))
  refine ⟨_, _, MV_0 k3, rfl, ⟨_, _, MV_0 k3, rfl, ⟨_, _, RS_t o3, rfl, ⟨_, _, (F3.2 (ae i) (by omega)).trans A1, rfl, ⟨_, _, KO_fr kO1 F3 (by omega), rfl, ⟨_, MV_lo k3, 0, 0, _, vm_metA (l_all (at9 := 0) (m := len) l3 (RS_b o3 (j := 2) (by decide)) (show 0 + len ≤ 256 by omega) (by decide) (by rw [li]; omega)) (by rw [hl]; rfl), Nat.zero_le _, Nat.zero_le _, ?_⟩⟩⟩⟩⟩⟩
  rintro _ h4 ⟨rfl, l4, F4⟩
  obtain ⟨k4, V4⟩ := MV_uL k3 F4 (fun q z => z) l4
  refine ⟨_, _, MV_0 k4, rfl, ⟨_, _, MV_lo k4, rfl, ⟨?_, k4, VF_t V1 (VF_t V2 (VF_t V3 V4))⟩⟩⟩
  show some (Value.int (nI (ain (af i) ++ sl (B6 2) 0 len).length)) = _
  rw [List.length_append, li, sl_len]
end
