/-! the mint: steps of its parts -/
/-- other cells than the mint's stay -/
def VF (v lo : Nat) (h h' : vm_H) : Prop := h.1 ≤ h'.1 ∧ ∀ q, q < v ∨ (v + 750 ≤ q ∧ q < lo) ∨ 1099511627776 ≤ q → h'.2 q = h.2 q
theorem VF_r {v lo : Nat} {h : vm_H} : VF v lo h h := ⟨Nat.le_refl _, fun _ _ => rfl⟩
theorem VF_t {v lo : Nat} {h h' h2 : vm_H} (a : VF v lo h h') (b : VF v lo h' h2) : VF v lo h h2 := ⟨Nat.le_trans a.1 b.1, fun q z => (b.2 q z).trans (a.2 q z)⟩
theorem VF_fr {v lo : Nat} {h h' : vm_H} {S : Nat → Prop} (F : fr h h' S) (hS : ∀ q, S q → v ≤ q ∧ (q < v + 750 ∨ lo ≤ q) ∧ q < 1099511627776) : VF v lo h h' := ⟨by rw [F.1]; exact Nat.le_refl _, fun q z => F.2 q (fun s => by have := hS q s; omega)⟩
theorem EV_vf {v lo : Nat} {h h' : vm_H} {st2 kk2 : Nat → Int32} {st3 kk3 : Nat → Int64} (e : EV st2 kk2 st3 kk3 h) (F : VF v lo h h') : EV st2 kk2 st3 kk3 h' := EV_fr e (fun q z => F.2 q (Or.inr (Or.inr z)))
section
variable {v lo ts kn an rd wr : Nat} {tb : Nat → Nat} {ou : List Nat} {ke ae : Nat → Nat} {kf : Nat → aK} {af : Nat → aA} {D : Nat → Nat} {dn : Bool} {wl : Int} {st3 kk3 : Nat → Int64} {h h' : vm_H} {S : Nat → Prop}
theorem MV_b (k : MV st3 kk3 v lo tb ts ou kn an rd ke ae kf af D dn wl wr h) : v + 3000 < 1099511627776 ∧ v + 750 ≤ lo ∧ lo ≤ h.1 := k.1
theorem MV_uT {tb' : Nat → Nat} {ts' : Nat} (k : MV st3 kk3 v lo tb ts ou kn an rd ke ae kf af D dn wl wr h) (F : fr h h' S) (hS : ∀ q, S q → q = v + 1 ∨ q = v + 2) (n : row h' (v + 1) (v + 2) 1200 tb' ts') : MV st3 kk3 v lo tb' ts' ou kn an rd ke ae kf af D dn wl wr h' ∧ VF v lo h h' := by
  have kb := k.1
  refine ⟨MV_pt k F.1 (fun q z1 z2 => F.2 q (fun s => by have := hS q s; omega)) (fun m => MB_tape m (fun q z1 z2 z3 => F.2 q (fun s => by have := hS q s; omega)) n), VF_fr F (fun q s => by have := hS q s; omega)⟩
theorem MV_uL {ou' : List Nat} (k : MV st3 kk3 v lo tb ts ou kn an rd ke ae kf af D dn wl wr h) (F : fr h h' S) (hS : ∀ q, S q → q = v + 3 ∨ q = v + 4) (n : rwl h' (v + 3) (v + 4) 1168 ou') : MV st3 kk3 v lo tb ts ou' kn an rd ke ae kf af D dn wl wr h' ∧ VF v lo h h' := by
  have kb := k.1
  refine ⟨MV_pt k F.1 (fun q z1 z2 => F.2 q (fun s => by have := hS q s; omega)) (fun m => MB_left m (fun q z1 z2 z3 => F.2 q (fun s => by have := hS q s; omega)) n), VF_fr F (fun q s => by have := hS q s; omega)⟩
theorem MV_uD  (k : MV st3 kk3 v lo tb ts ou kn an rd ke ae kf af D dn wl wr h) (F : fr h h' S) (hS : ∀ q, S q → q = v + 5 ∨ q = v + 6) (n : ∃ w, rwl h' (v + 5) (v + 6) 1168 w) : MV st3 kk3 v lo tb ts ou kn an rd ke ae kf af D dn wl wr h' ∧ VF v lo h h' := by
  have kb := k.1
  refine ⟨MV_pt k F.1 (fun q z1 z2 => F.2 q (fun s => by have := hS q s; omega)) (fun m => MB_drf m (fun q z1 z2 z3 => F.2 q (fun s => by have := hS q s; omega)) n), VF_fr F (fun q s => by have := hS q s; omega)⟩
theorem MV_uH  (k : MV st3 kk3 v lo tb ts ou kn an rd ke ae kf af D dn wl wr h) (F : fr h h' S) (hS : ∀ q, S q → v + 8 ≤ q ∧ q < v + 13) (n : HA h' (v + 7) (fun i => v + 8 + i)) : MV st3 kk3 v lo tb ts ou kn an rd ke ae kf af D dn wl wr h' ∧ VF v lo h h' := by
  have kb := k.1
  refine ⟨MV_pt k F.1 (fun q z1 z2 => F.2 q (fun s => by have := hS q s; omega)) (fun m => MB_hash m (fun q z1 z2 z3 => F.2 q (fun s => by have := hS q s; omega)) n), VF_fr F (fun q s => by have := hS q s; omega)⟩
theorem MV_uO  (k : MV st3 kk3 v lo tb ts ou kn an rd ke ae kf af D dn wl wr h) (F : fr h h' S) (hS : ∀ q, S q → v + 14 ≤ q ∧ q < v + 724) (n : ∃ W B V g, OPc (v + 13) h' W B V g) : MV st3 kk3 v lo tb ts ou kn an rd ke ae kf af D dn wl wr h' ∧ VF v lo h h' := by
  have kb := k.1
  refine ⟨MV_pt k F.1 (fun q z1 z2 => F.2 q (fun s => by have := hS q s; omega)) (fun m => MB_opr m (fun q z1 z2 z3 => F.2 q (fun s => by have := hS q s; omega)) n), VF_fr F (fun q s => by have := hS q s; omega)⟩
theorem MV_uR  (k : MV st3 kk3 v lo tb ts ou kn an rd ke ae kf af D dn wl wr h) (F : fr h h' S) (hS : ∀ q, S q → v + 725 ≤ q ∧ q < v + 746) (n : ∃ w B, RSc (v + 724) h' w B) : MV st3 kk3 v lo tb ts ou kn an rd ke ae kf af D dn wl wr h' ∧ VF v lo h h' := by
  have kb := k.1
  refine ⟨MV_pt k F.1 (fun q z1 z2 => F.2 q (fun s => by have := hS q s; omega)) (fun m => MB_rsa m (fun q z1 z2 z3 => F.2 q (fun s => by have := hS q s; omega)) n), VF_fr F (fun q s => by have := hS q s; omega)⟩
theorem MV_uK {D' : Nat → Nat} {dn' : Bool} {wl' : Int} {wr' : Nat} (k : MV st3 kk3 v lo tb ts ou kn an rd ke ae kf af D dn wl wr h) (F : fr h h' S) (hS : ∀ q, S q → q = v + 746 ∨ q = v + 747) (n : dsk h' (v + 746) (v + 747) D' (bi dn') (iZ wl') (nI wr')) : MV st3 kk3 v lo tb ts ou kn an rd ke ae kf af D' dn' wl' wr' h' ∧ VF v lo h h' := by
  have kb := k.1
  refine ⟨MV_pt k F.1 (fun q z1 z2 => F.2 q (fun s => by have := hS q s; omega)) (fun m => MB_dsk m (fun q z1 z2 z3 => F.2 q (fun s => by have := hS q s; omega)) n), VF_fr F (fun q s => by have := hS q s; omega)⟩
theorem MV_u0 {rd' : Nat} (k : MV st3 kk3 v lo tb ts ou kn an rd ke ae kf af D dn wl wr h) (F : fr h h' S) (hS : ∀ q, S q → q = v) (n : h'.2 v = MO v kn an rd') : MV st3 kk3 v lo tb ts ou kn an rd' ke ae kf af D dn wl wr h' ∧ VF v lo h h' := by
  have kb := k.1
  refine ⟨MV_pt k F.1 (fun q z1 z2 => F.2 q (fun s => by have := hS q s; omega)) (fun m => MB_obj m (fun q z1 z2 z3 => F.2 q (fun s => by have := hS q s; omega)) n), VF_fr F (fun q s => by have := hS q s; omega)⟩
theorem MV_lo (k : MV st3 kk3 v lo tb ts ou kn an rd ke ae kf af D dn wl wr h) : h.2 (v + 3) = .inr (9, [.ref (v + 4), .int (nI ou.length)]) := by
  obtain ⟨b, r, _⟩ := MV_lf k
  exact r.1
theorem MV_do (k : MV st3 kk3 v lo tb ts ou kn an rd ke ae kf af D dn wl wr h) : ∃ fs : List Value, h.2 (v + 5) = .inr (9, fs) ∧ fs[0]? = some (.ref (v + 6)) := by
  obtain ⟨w, b, r, _⟩ := MV_dr k
  exact ⟨_, r.1, rfl⟩
theorem MV_ou (k : MV st3 kk3 v lo tb ts ou kn an rd ke ae kf af D dn wl wr h) : ou.length ≤ 1168 := by
  obtain ⟨b, r, _⟩ := MV_lf k
  exact r.2.2.1
theorem MV_ts (k : MV st3 kk3 v lo tb ts ou kn an rd ke ae kf af D dn wl wr h) : ts ≤ 1200 := (MV_tp k).2.2.1
theorem MV_kn (k : MV st3 kk3 v lo tb ts ou kn an rd ke ae kf af D dn wl wr h) : kn ≤ 6 := k.2.2.1.1
theorem MV_an (k : MV st3 kk3 v lo tb ts ou kn an rd ke ae kf af D dn wl wr h) : an ≤ 60 := k.2.2.2.1
end
/-- an int -/
def i32 (z : Int) : Prop := -2147483648 ≤ z ∧ z < 2147483648
theorem iZ_of (x : Int32) : ∃ z, i32 z ∧ x = iZ z := ⟨x.toInt, ⟨x.le_toInt, x.toInt_lt⟩, (Int32.ofInt_toInt x).symm⟩
theorem iZ_ng {z : Int} (h : i32 z) : iZ z < 0 ↔ z < 0 := by
  rw [show (0 : Int32) = iZ 0 from rfl, iZ_lt h.1 h.2 (by decide) (by decide)]
theorem iZ_nn {z : Int} (h0 : 0 ≤ z) : ∃ n : Nat, z = (n : Int) := ⟨z.toNat, (Int.toNat_of_nonneg h0).symm⟩
/-- the mint, its TAPE as a list -/
def MS (st3 kk3 : Nat → Int64) (v lo : Nat) (w ou : List Nat) (kn an rd : Nat) (ke ae : Nat → Nat) (kf : Nat → aK) (af : Nat → aA) (D : Nat → Nat) (dn : Bool) (wl : Int) (wr : Nat) (h : vm_H) : Prop := ∃ tb, MV st3 kk3 v lo tb w.length ou kn an rd ke ae kf af D dn wl wr h ∧ sl tb 0 w.length = w
section
variable {l : Launch} {O : Nat → vm_Ob} {f9 : Value} {v lo ts kn an rd wr : Nat} {tb : Nat → Nat} {w ou : List Nat} {ke ae : Nat → Nat} {kf : Nat → aK} {af : Nat → aA} {D : Nat → Nat} {dn : Bool} {wl : Int} {st2 kk2 : Nat → Int32} {st3 kk3 : Nat → Int64} {h : vm_H}
theorem MS_0 {tb : Nat → Nat} (k : MV st3 kk3 v lo tb 0 ou kn an rd ke ae kf af D dn wl wr h) : MS st3 kk3 v lo [] ou kn an rd ke ae kf af D dn wl wr h := ⟨tb, k, rfl⟩
theorem m_use (k : MV st3 kk3 v lo tb ts ou kn an rd ke ae kf af D dn wl wr h) : vm_Met (vm_env l O f9) mX11_useUpTape 0 0 [.ref v] h (fun r h' => r = some (.int (nI ts)) ∧ MV st3 kk3 v lo tb 0 ou kn an rd ke ae kf af D dn wl wr h' ∧ VF v lo h h' ∧ fr h h' (fun q => q = v + 1)) := by
  refine vm_met rfl (Nat.le_of_ble_eq_true rfl) ?_
  refine vm_go rfl bX11_useUpTape_0 oX11_useUpTape_0 ⟨_, _, MV_0 k, rfl, ⟨_, _, (MV_tp k).1, rfl, ⟨_, _, MV_0 k, rfl, ⟨_, (MV_tp k).1, 0, 0, _, w_clear (MV_tp k), Nat.zero_le _, Nat.zero_le _, ?_⟩⟩⟩⟩
  rintro _ h1 ⟨rfl, r1, F1⟩
  have r2 := MV_uT k F1 (fun q z => Or.inl z) r1
  exact ⟨rfl, r2.1, r2.2, F1⟩
theorem m_lve {fa nf m : Nat} {b : Nat → Nat} (k : MV st3 kk3 v lo tb ts ou kn an rd ke ae kf af D dn wl wr h) (hf : bv h nf fa b) (hfo : fa ≠ v + 3) (hm : m ≤ nf) (hnf : nf < 65536) (hm2 : m ≤ 1168) : vm_Met (vm_env l O f9) mX11_leave 0 0 [.ref v, .ref fa, .int (nI m)] h (fun r h' => r = some (.int (nI m)) ∧ MV st3 kk3 v lo tb ts (sl b 0 m) kn an rd ke ae kf af D dn wl wr h' ∧ VF v lo h h') := by
  refine vm_met rfl (Nat.le_of_ble_eq_true rfl) ?_
  refine vm_go rfl bX11_leave_0 oX11_leave_0 ⟨_, _, MV_0 k, rfl, ⟨_, MV_lo k, 0, 0, _, l_clear (MV_lf k), Nat.zero_le _, Nat.zero_le _, ?_⟩⟩
  rintro _ h1 ⟨rfl, r1, F1⟩
  obtain ⟨k1, V1⟩ := MV_uL k F1 (fun q z => Or.inl z) r1
  refine ⟨_, _, MV_0 k1, rfl, ⟨_, MV_lo k1, 0, 0, _, l_all (at9 := 0) (MV_lf k1) (fr_bv F1 hf hfo) (by omega) hnf (by show 0 + m ≤ 1168; omega), Nat.zero_le _, Nat.zero_le _, ?_⟩⟩
  rintro _ h2 ⟨rfl, r2, F2⟩
  obtain ⟨k2, V2⟩ := MV_uL k1 F2 (fun q z => z) r2
  exact ⟨rfl, k2, VF_t V1 V2⟩
theorem m_outs (k : MV st3 kk3 v lo tb ts ou kn an rd ke ae kf af D dn wl wr h) : vm_Met (vm_env l O f9) mX11_outs 0 0 [.ref v] h (fun r h' => r = some (.int (nI ou.length)) ∧ h' = h) := by
  refine vm_met rfl (Nat.le_of_ble_eq_true rfl) ?_
  exact vm_go rfl bX11_outs_0 oX11_outs_0 ⟨_, _, MV_0 k, rfl, ⟨_, _, MV_lo k, rfl, ⟨rfl, rfl⟩⟩⟩
theorem KQR_at {i : Nat} (hi : i < kn) : va_rf (if i < kn then some (ke i + 2) else none) = Value.ref (ke i + 2) := by rw [if_pos hi]; rfl
theorem AQR_at {i : Nat} (hi : i < an) : va_rf (if i < an then some (ae i) else none) = Value.ref (ae i) := by rw [if_pos hi]; rfl
theorem m_kat {z : Int} (k : MV st3 kk3 v lo tb ts ou kn an rd ke ae kf af D dn wl wr h) (hz : i32 z) : vm_Met (vm_env l O f9) mX11_keyAt 0 0 [.ref v, .int (iZ z)] h (fun r h' => ((∃ i : Nat, z = (i : Int) ∧ i < kn ∧ r = some (.ref (ke i + 2))) ∨ ((z < 0 ∨ (kn : Int) ≤ z) ∧ r = some .null)) ∧ h' = h) := by
  have hkn := MV_kn k
  refine vm_met rfl (Nat.le_of_ble_eq_true rfl) ?_
  have no : (z < 0 ∨ (kn : Int) ≤ z) → ((∃ i : Nat, z = (i : Int) ∧ i < kn ∧ some Value.null = some (Value.ref (ke i + 2))) ∨ ((z < 0 ∨ (kn : Int) ≤ z) ∧ some Value.null = some Value.null)) := fun q => Or.inr ⟨q, rfl⟩
  refine vm_go rfl bX11_keyAt_0 oX11_keyAt_0 ⟨fun q => ?_, fun q => ⟨_, _, MV_0 k, rfl, ⟨fun q2 => ?_, fun q2 => ?_⟩⟩⟩
  · have q : iZ z < 0 := q
    rw [iZ_ng hz] at q
    exact vm_go rfl bX11_keyAt_21 oX11_keyAt_21 (vm_go rfl bX11_keyAt_22 oX11_keyAt_22 ⟨no (Or.inl q), rfl⟩)
  · have q2 : nI kn ≤ iZ z := q2
    rw [iZ_nI, iZ_le (by omega) (by omega) hz.1 hz.2] at q2
    exact vm_go rfl bX11_keyAt_21 oX11_keyAt_21 (vm_go rfl bX11_keyAt_22 oX11_keyAt_22 ⟨no (Or.inr q2), rfl⟩)
  · have q : ¬ iZ z < 0 := q
    rw [iZ_ng hz] at q
    have q2 : ¬ nI kn ≤ iZ z := q2
    rw [iZ_nI, iZ_le (by omega) (by omega) hz.1 hz.2] at q2
    obtain ⟨i, rfl⟩ := iZ_nn (z := z) (by omega)
    have hi : i < kn := by omega
    refine ⟨_, _, MV_0 k, rfl, ⟨_, _, _, .ref (ke i + 2), MV_kr k, by decide, rfl, i, iZ_n, by omega, KQR_at hi, ?_⟩⟩
    exact vm_go rfl bX11_keyAt_22 oX11_keyAt_22 ⟨Or.inl ⟨i, rfl, hi, rfl⟩, rfl⟩
end
