/-! a BlindRsa: its places, counted from its own (a) -/
def zad (k : Nat) : Nat := match k with
  | 0 => 1
  | 1 => 2
  | 2 => 3
  | k => 9 + k
def zln (k : Nat) : Nat := match k with
  | 0 => 256
  | 1 => 256
  | 2 => 256
  | 3 => 48
  | 4 => 48
  | 5 => 304
  | 6 => 48
  | _ => 256
theorem zad_c {k : Nat} (h : k < 9) : (k < 3 ∧ zad k = k + 1) ∨ (3 ≤ k ∧ zad k = 9 + k) := by
  rcases k with _ | _ | _ | k
  · exact Or.inl ⟨by decide, rfl⟩
  · exact Or.inl ⟨by decide, rfl⟩
  · exact Or.inl ⟨by decide, rfl⟩
  · right; exact ⟨by omega, rfl⟩
theorem zln_lt (k : Nat) : 48 ≤ zln k ∧ zln k < 65536 := by
  unfold zln; split <;> decide
def RSc (a : Nat) (h : vm_H) (w : List Nat) (B : Nat → Nat → Nat) : Prop :=
  a + 1000 < 1099511627776 ∧
  h.2 a = .inr (1, [.ref (a + 1), .ref (a + 2), .ref (a + 3), .ref (a + 4), .ref (a + 10), .ref (a + 12), .ref (a + 13), .ref (a + 14), .ref (a + 15), .ref (a + 16), .ref (a + 17), .ref (a + 18)]) ∧
  (∀ k, k < 9 → bv h (zln k) (a + zad k) (B k)) ∧ rwl h (a + 10) (a + 11) 200 w ∧ HA h (a + 4) (fun i => a + 5 + i) ∧
  h.2 (a + 18) = .inl (.array .long, 3, .inr (.inr (.inr (.inr (fun j => if j < 3 then some (a + 18 + 1 + j) else none))))) ∧
  ∀ k, k < 3 → lz 74 h (a + 19 + k)
/-- the places but the rows of longs; all places -/
def RR (a q : Nat) : Prop := a + 1 ≤ q ∧ q < a + 18
def RA (a q : Nat) : Prop := a + 1 ≤ q ∧ q < a + 22
theorem RR_RA {a q : Nat} (h : RR a q) : RA a q := ⟨h.1, by have := h.2; omega⟩
theorem RS_mk {a : Nat} {h h' : vm_H} {w w' : List Nat} {B B' : Nat → Nat → Nat} {S : Nat → Prop} (k : RSc a h w B) (F : fr h h' S) (n0 : ¬ S a) (n1 : ¬ S (a + 4)) (n2 : ¬ S (a + 18))
    (hb : ∀ j, j < 9 → (¬ S (a + zad j) ∧ B' j = B j) ∨ bv h' (zln j) (a + zad j) (B' j))
    (hw : (¬ S (a + 10) ∧ ¬ S (a + 11) ∧ w' = w) ∨ rwl h' (a + 10) (a + 11) 200 w')
    (hh : (∀ i, i < 5 → ¬ S (a + 5 + i)) ∨ HA h' (a + 4) (fun i => a + 5 + i))
    (hv : ∀ j, j < 3 → ¬ S (a + 19 + j) ∨ lz 74 h' (a + 19 + j)) : RSc a h' w' B' := by
  obtain ⟨k0, k1, k2, k3, k4, k7, k8⟩ := k
  refine ⟨k0, (F.2 _ n0).trans k1, fun j hj => ?_, ?_, ?_, (F.2 _ n2).trans k7, fun j hj => ?_⟩
  · rcases hb j hj with ⟨z, e⟩ | z
    · rw [e]; exact fr_bv F (k2 j hj) z
    · exact z
  · rcases hw with ⟨z, z2, e⟩ | z
    · rw [e]; exact rwl_fr k3 F z z2
    · exact z
  · rcases hh with z | z
    · exact HA_fr k4 (F.2 _ n1) (fun i hi => F.2 _ (z i hi))
    · exact z
  · rcases hv j hj with z | z
    · exact lz_fr F (k8 j hj) z
    · exact z
theorem RS_out {a : Nat} {h h' : vm_H} {w : List Nat} {B : Nat → Nat → Nat} (k : RSc a h w B) (e : ∀ q, a ≤ q → q < a + 22 → h'.2 q = h.2 q) : RSc a h' w B := by
  obtain ⟨k0, k1, k2, k3, k4, k7, k8⟩ := k
  refine ⟨k0, (e _ (by omega) (by omega)).trans k1, fun j hj => bv_cg (k2 j hj) ?_, ?_, ?_, (e _ (by omega) (by omega)).trans k7, fun j hj => ?_⟩
  · have := zad_c hj
    exact e _ (by omega) (by omega)
  · obtain ⟨b, ⟨r1, r2, r3⟩, r4⟩ := k3
    exact ⟨b, ⟨(e _ (by omega) (by omega)).trans r1, bv_cg r2 (e _ (by omega) (by omega)), r3⟩, r4⟩
  · exact HA_fr k4 (e _ (by omega) (by omega)) (fun i hi => e _ (by omega) (by omega))
  · obtain ⟨X, ⟨f, m1, m2⟩, m3⟩ := k8 j hj
    exact ⟨X, ⟨f, (e _ (by omega) (by omega)).trans m1, m2⟩, m3⟩
section
variable {a : Nat} {h : vm_H} {w : List Nat} {B : Nat → Nat → Nat}
theorem RS_t (k : RSc a h w B) : h.2 a = .inr (1, [.ref (a + 1), .ref (a + 2), .ref (a + 3), .ref (a + 4), .ref (a + 10), .ref (a + 12), .ref (a + 13), .ref (a + 14), .ref (a + 15), .ref (a + 16), .ref (a + 17), .ref (a + 18)]) := k.2.1
theorem RS_b (k : RSc a h w B) {j : Nat} (hj : j < 9) : bv h (zln j) (a + zad j) (B j) := k.2.2.1 j hj
theorem RS_w (k : RSc a h w B) : rwl h (a + 10) (a + 11) 200 w := k.2.2.2.1
theorem RS_ro (k : RSc a h w B) : h.2 (a + 10) = .inr (9, [.ref (a + 11), .int (nI w.length)]) := by
  obtain ⟨b, r, _⟩ := k.2.2.2.1
  exact r.1
theorem RS_H (k : RSc a h w B) : HA h (a + 4) (fun i => a + 5 + i) := k.2.2.2.2.1
theorem RS_n (k : RSc a h w B) : h.2 (a + 18) = .inl (.array .long, 3, .inr (.inr (.inr (.inr (fun j => if j < 3 then some (a + 18 + 1 + j) else none))))) := k.2.2.2.2.2.1
theorem RS_v (k : RSc a h w B) {j : Nat} (hj : j < 3) : lz 74 h (a + 19 + j) := k.2.2.2.2.2.2 j hj
end
theorem RS_row {a : Nat} {h h' : vm_H} {w w' : List Nat} {B : Nat → Nat → Nat} (k : RSc a h w B) (F : fr h h' (fun q => q = a + 10 ∨ q = a + 11)) (hr : rwl h' (a + 10) (a + 11) 200 w') : RSc a h' w' B := by
  refine RS_mk k F ?_ ?_ ?_ (fun i hi => Or.inl ⟨?_, rfl⟩) (Or.inr hr) (Or.inl (fun i hi => ?_)) (fun i hi => Or.inl ?_)
  · omega
  · omega
  · omega
  · have := zad_c hi
    omega
  · omega
  · omega
theorem RS_byt {a : Nat} {h h' : vm_H} {w : List Nat} {B : Nat → Nat → Nat} {t : Nat} {c : Nat → Nat} (k : RSc a h w B) (ht : t < 9) (F : fr h h' (fun q => q = a + zad t)) (hr : bv h' (zln t) (a + zad t) c) : RSc a h' w (fu B t c) := by
  have hc := zad_c ht
  refine RS_mk k F ?_ ?_ ?_ (fun i hi => ?_) (Or.inl ⟨?_, ?_, rfl⟩) (Or.inl (fun i hi => ?_)) (fun i hi => Or.inl ?_)
  · omega
  · omega
  · omega
  · have hi' := zad_c hi
    by_cases e : i = t
    · right; rw [e, fu_e]; exact hr
    · left
      exact ⟨by omega, fu_n e⟩
  · omega
  · omega
  · omega
  · omega
theorem RS_num {a : Nat} {h h' : vm_H} {w : List Nat} {B : Nat → Nat → Nat} {t : Nat} {S : Nat → Prop} (k : RSc a h w B) (ht : t < 3) (F : fr h h' S) (hS : ∀ q, S q → q = a + 19 + t ∨ ¬ (a ≤ q ∧ q < a + 22)) (hr : lz 74 h' (a + 19 + t)) : RSc a h' w B := by
  refine RS_mk k F ?_ ?_ ?_ (fun i hi => Or.inl ⟨?_, rfl⟩) (Or.inl ⟨?_, ?_, rfl⟩) (Or.inl (fun i hi => ?_)) (fun i hi => ?_)
  · intro z; have := hS _ z; omega
  · intro z; have := hS _ z; omega
  · intro z; have := hS _ z; omega
  · have := zad_c hi
    intro z; have := hS _ z; omega
  · intro z; have := hS _ z; omega
  · intro z; have := hS _ z; omega
  · intro z; have := hS _ z; omega
  · by_cases e : i = t
    · right; rw [e]; exact hr
    · left; intro z; have := hS _ z; omega
section
variable {l : Launch} {O : Nat → vm_Ob} {f9 : Value} {a : Nat} {h : vm_H} {w : List Nat} {B : Nat → Nat → Nat}
theorem x_clear (k : RSc a h w B) : vm_Met (vm_env l O f9) mX9_clear 0 0 [.ref (a + 10)] h (fun r h' => r = none ∧ RSc a h' [] B ∧ fr h h' (fun q => q = a + 10 ∨ q = a + 11)) := by
  refine vm_metP (l_clear (RS_w k)) ?_
  rintro r h' ⟨e, k1, F⟩
  have F' : fr h h' (fun q => q = a + 10 ∨ q = a + 11) := fr_mono F (fun q z => Or.inl z)
  exact ⟨e, RS_row k F' k1, F'⟩
theorem x_numN {m v : Nat} (k : RSc a h w B) (hs : w.length + m ≤ 200) (hm : m ≤ 4) (h2 : v < 65536) : vm_Met (vm_env l O f9) mX9_putNumber 0 0 [.ref (a + 10), .int (nI v), .int (nI m)] h (fun r h' => r = none ∧ RSc a h' (w ++ nb v m) B ∧ fr h h' (fun q => q = a + 10 ∨ q = a + 11)) := by
  rw [← iZ_n (n := v)]
  refine vm_metP (l_num (RS_w k) hs hm (by omega) (by omega)) ?_
  rintro r h' ⟨e, k1, F⟩
  exact ⟨e, RS_row k F k1, F⟩
theorem x_all {m fa nf at9 : Nat} {c : Nat → Nat} (k : RSc a h w B) (hf : bv h nf fa c) (hat : at9 + m ≤ nf) (hnf : nf < 65536) (hs : w.length + m ≤ 200) : vm_Met (vm_env l O f9) mX9_putAll 0 0 [.ref (a + 10), .ref fa, .int (nI at9), .int (nI m)] h (fun r h' => r = none ∧ RSc a h' (w ++ sl c at9 m) B ∧ fr h h' (fun q => q = a + 10 ∨ q = a + 11)) := by
  refine vm_metP (l_all (RS_w k) hf hat hnf hs) ?_
  rintro r h' ⟨e, k1, F⟩
  exact ⟨e, RS_row k F k1, F⟩
theorem x_h3 {t : Nat} {st2 kk2 : Nat → Int32} {st3 kk3 : Nat → Int64} (k : RSc a h w B) (hK : HK h st2 kk2 st3 kk3) (ht : t < 9) : vm_Met (vm_env l O f9) mX4_h3 0 0 [.ref (a + 4), .ref (a + 10), .ref (a + zad t)] h (fun r h' => r = none ∧ (∃ c, RSc a h' w (fu B t c) ∧ sl c 0 48 = H3 st3 kk3 w ∧ ∀ i, 48 ≤ i → c i = B t i) ∧ fr h h' (fun q => (a + 5 ≤ q ∧ q < a + 10) ∨ q = a + zad t)) := by
  have ho := zad_c ht
  have hl := zln_lt t
  have k0 := k.1
  refine vm_metP (l_h3 (RS_H k) hK (RS_w k) (RS_b k ht) ?_ ?_ ?_ (by omega) hl.1 hl.2) ?_
  · show _ ≠ a + 5 + 4; omega
  · omega
  · show _ ≠ a + 5 + 4; omega
  rintro r h' ⟨e, ⟨c, c1, c2, c3⟩, k4, F⟩
  have F' : fr h h' (fun q => (a + 5 ≤ q ∧ q < a + 10) ∨ q = a + zad t) := fr_mono F (fun q z => by
    rcases z with z | z | z | z
    · have z : q = a + 5 + 2 := z
      left; omega
    · have z : q = a + 5 + 3 := z
      left; omega
    · have z : q = a + 5 + 4 := z
      left; omega
    · right; exact z)
  refine ⟨e, ⟨c, RS_mk k F' ?_ ?_ ?_ (fun i hi => ?_) (Or.inl ⟨?_, ?_, rfl⟩) (Or.inr k4) (fun i hi => Or.inl ?_), c2, c3⟩, F'⟩
  · omega
  · omega
  · omega
  · have hi' := zad_c hi
    by_cases e : i = t
    · right; rw [e, fu_e]; exact c1
    · left
      exact ⟨by omega, fu_n e⟩
  · omega
  · omega
  · omega
end
/-- a KEY of TYPE 2 -/
def K2 (h : vm_H) (K len s sh se ki : Nat) (lv : Int32) (A : Nat → Nat) (ni ri : Nat) (shb seb : Nat → Nat) : Prop :=
  KO h K 2 len len s sh se ki (A 0) lv ∧ bv h (len + 3) sh shb ∧ bv h len se seb ∧ MP A 6 (8 * len / 28 + 1) (bn shb 0 len) ni ri ∧ MD h A 6 (8 * len / 28 + 1) (bn shb 0 len) ni ∧ (66 ≤ len ∧ len ≤ 256) ∧ (s = 0 ∨ s = 48 ∧ 100 ≤ len) ∧ 0 < shb 0
/-- what a Modulus uses up -/
def MR (A : Nat → Nat) (q : Nat) : Prop := q = A 6 ∨ ∃ i, i < 16 ∧ q = A (8 + i)
theorem K2_up {h h' : vm_H} {S : Nat → Prop} {K len s sh se ki : Nat} {lv : Int32} {A : Nat → Nat} {ni ri : Nat} {shb seb : Nat → Nat} (k : K2 h K len s sh se ki lv A ni ri shb seb) (F : fr h h' S) (hM : MD h' A 6 (8 * len / 28 + 1) (bn shb 0 len) ni) (n0 : ¬ S K) (n1 : ¬ S sh) (n2 : ¬ S se) : K2 h' K len s sh se ki lv A ni ri shb seb := by
  obtain ⟨k1, k2, k3, k4, _, k6⟩ := k
  exact ⟨KO_fr k1 F n0, fr_bv F k2 n1, fr_bv F k3 n2, k4, hM, k6⟩
theorem K2_fr {h h' : vm_H} {S : Nat → Prop} {K len s sh se ki : Nat} {lv : Int32} {A : Nat → Nat} {ni ri : Nat} {shb seb : Nat → Nat} (k : K2 h K len s sh se ki lv A ni ri shb seb) (F : fr h h' S) (n0 : ¬ S K) (n1 : ¬ S sh) (n2 : ¬ S se) (n3 : ∀ i, i < 24 → i ≠ 5 → ¬ S (A i)) : K2 h' K len s sh se ki lv A ni ri shb seb :=
  K2_up k F (MD_cg k.2.2.2.2.1 (fun i hi h5 => F.2 _ (n3 i hi (h5.resolve_right (by decide))))) n0 n1 n2
/-- a KEY's cells are not the Modulus' own rows -/
theorem K2_nb {h : vm_H} {K len s sh se ki : Nat} {lv : Int32} {A : Nat → Nat} {ni ri n q : Nat} {shb seb b : Nat → Nat} (k : K2 h K len s sh se ki lv A ni ri shb seb) (hb : bv h n q b) : ¬ MR A q := by
  have hM := k.2.2.2.2.1
  rintro (z | ⟨i, hi, z⟩)
  · exact bv_ne hb hM.2.2.2.2.2.1 z
  · exact bv_ne hb (hM.2.2.2.2.2.2.2.1 i hi) z
theorem la_ob {h : vm_H} {L q r ci : Nat} {fs : List Value} (k : la h L q) (e : h.2 r = .inr (ci, fs)) : r ≠ q := by
  rintro rfl
  obtain ⟨f, k⟩ := k
  rw [k] at e; cases e
theorem K2_no {h : vm_H} {K len s sh se ki : Nat} {lv : Int32} {A : Nat → Nat} {ni ri q ci : Nat} {shb seb : Nat → Nat} {fs : List Value} (k : K2 h K len s sh se ki lv A ni ri shb seb) (e : h.2 q = .inr (ci, fs)) : ¬ MR A q := by
  have hM := k.2.2.2.2.1
  rintro (z | ⟨i, hi, z⟩)
  · exact la_ob hM.2.2.2.2.2.1 e z
  · exact la_ob (hM.2.2.2.2.2.2.2.1 i hi) e z
