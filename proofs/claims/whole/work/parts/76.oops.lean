/-! what single calls do to an Oprf -/
theorem OP_row {a : Nat} {h h' : vm_H} {W : Nat → List Nat} {B : Nat → Nat → Nat} {V : Nat → Option Nat} {g : og} {j : Nat} {w w' : List Nat} (k : OPc a h (fu W j w) B V g) (hj : j < 3) (F : fr h h' (fun q => q = a + rad j ∨ q = a + rad j + 1)) (hr : rwl h' (a + rad j) (a + rad j + 1) (rln j) w') : OPc a h' (fu W j w') B V g := by
  have hc := rad_c hj
  refine OP_mk k F ?_ ?_ ?_ (fun i hi => Or.inl ⟨?_, rfl⟩) (fun i hi => ?_) (Or.inl (fun i hi => ?_)) (Or.inl ⟨fun q hq => ?_, rfl⟩) (Or.inl (fun q h1 h2 => ?_)) (fun i hi => Or.inl ⟨?_, rfl⟩)
  · rintro (z | z) <;> omega
  · rintro (z | z) <;> omega
  · rintro (z | z) <;> omega
  · have := oad_c hi
    rintro (z | z) <;> omega
  · have hi' := rad_c hi
    by_cases e : i = j
    · right; rw [e, fu_e]; exact hr
    · left
      refine ⟨?_, ?_, by rw [fu_n e, fu_n e]⟩
      · rintro (z | z) <;> omega
      · rintro (z | z) <;> omega
  · rintro (z | z) <;> omega
  · unfold CR at hq
    rintro (z | z) <;> omega
  · rintro (z | z) <;> omega
  · rintro (z | z) <;> omega
theorem OP_byt {a : Nat} {h h' : vm_H} {W : Nat → List Nat} {B : Nat → Nat → Nat} {V : Nat → Option Nat} {g : og} {t : Nat} {c : Nat → Nat} (k : OPc a h W B V g) (ht : t < 10) (F : fr h h' (fun q => q = a + oad t)) (hr : bv h' (oln t) (a + oad t) c) : OPc a h' W (fu B t c) V g := by
  have hc := oad_c ht
  refine OP_mk k F ?_ ?_ ?_ (fun i hi => ?_) (fun i hi => Or.inl ⟨?_, ?_, rfl⟩) (Or.inl (fun i hi => ?_)) (Or.inl ⟨fun q hq => ?_, rfl⟩) (Or.inl (fun q h1 h2 => ?_)) (fun i hi => Or.inl ⟨?_, rfl⟩)
  · intro (z : _ = _); omega
  · intro (z : _ = _); omega
  · intro (z : _ = _); omega
  · have hi' := oad_c hi
    by_cases e : i = t
    · right; rw [e, fu_e]; exact hr
    · left
      exact ⟨fun (z : _ = _) => by omega, fu_n e⟩
  · have := rad_c hi
    intro (z : _ = _); omega
  · have := rad_c hi
    intro (z : _ = _); omega
  · intro (z : _ = _); omega
  · unfold CR at hq
    intro (z : _ = _); omega
  · intro (z : _ = _); omega
  · intro (z : _ = _); omega
theorem OP_num {a : Nat} {h h' : vm_H} {W : Nat → List Nat} {B : Nat → Nat → Nat} {V : Nat → Option Nat} {g : og} {t v : Nat} (k : OPc a h W B V g) (ht : t < 2) (F : fr h h' (fun q => q = a + 697 + t ∨ (a + 663 ≤ q ∧ q < a + 685))) (hM : MDo a h') (hr : nv h' 14 (a + 697 + t) v) : OPc a h' W B (fu V t (some v)) g := by
  refine OP_mk k F ?_ ?_ ?_ (fun i hi => Or.inl ⟨?_, rfl⟩) (fun i hi => Or.inl ⟨?_, ?_, rfl⟩) (Or.inl (fun i hi => ?_)) (Or.inl ⟨fun q hq => ?_, rfl⟩) (Or.inr hM) (fun i hi => ?_)
  · rintro (z | z) <;> omega
  · rintro (z | z) <;> omega
  · rintro (z | z) <;> omega
  · have hi' := oad_c hi
    rintro (z | z) <;> omega
  · have := rad_c hi
    rintro (z | z) <;> omega
  · have := rad_c hi
    rintro (z | z) <;> omega
  · rintro (z | z) <;> omega
  · unfold CR at hq
    rintro (z | z) <;> omega
  · by_cases e : i = t
    · right
      rw [e, fu_e]
      exact ⟨nv_la hr, fun v hv => by cases hv; exact hr⟩
    · left
      refine ⟨?_, fu_n e⟩
      rintro (z | z) <;> omega
theorem OP_cur {a ni ri : Nat} {h h' : vm_H} {W : Nat → List Nat} {B : Nat → Nat → Nat} {V : Nat → Option Nat} {g g' : og} (k : OPc a h W B V g) (F : fr h h' (AG 154 (XO a ni ri))) {G : Nat → Option (Option (fq × fq))} (hr : CA 154 (XO a ni ri) h' G) (hs : gs G g') : OPc a h' W B V g' := by
  have hS : ∀ q, AG 154 (XO a ni ri) q → CR a q := fun q hq => XO_own (AG_own hq)
  unfold CR at hS
  refine OP_mk k F ?_ ?_ ?_ (fun i hi => Or.inl ⟨?_, rfl⟩) (fun i hi => Or.inl ⟨?_, ?_, rfl⟩) (Or.inl (fun i hi => ?_)) (Or.inr ⟨ni, ri, G, hr, hs⟩) (Or.inl (fun q h1 h2 => ?_)) (fun i hi => Or.inl ⟨?_, rfl⟩)
  · intro z; have := hS _ z; omega
  · intro z; have := hS _ z; omega
  · intro z; have := hS _ z; omega
  · have := oad_c hi
    intro z; have := hS _ z; omega
  · have := rad_c hi
    intro z; have := hS _ z; omega
  · have := rad_c hi
    intro z; have := hS _ z; omega
  · intro z; have := hS _ z; omega
  · intro z; have := hS _ z; omega
  · intro z; have := hS _ z; omega
theorem AG_CR {a ni ri q : Nat} (h : AG 154 (XO a ni ri) q) : a + 13 ≤ q ∧ q < a + 661 ∨ a + 699 ≤ q ∧ q < a + 711 := by
  have h1 := XO_own (AG_own h)
  unfold CR at h1
  have h2 : q ≠ a + 12 := by
    rcases h with (z | ⟨_, z⟩) | ⟨i, hi, z⟩ | ⟨i, hi, z⟩
    · have : XO a ni ri 6 = a + 13 + 2 + 6 - 2 := rfl
      omega
    · have : XO a ni ri 5 = a + 13 + 2 + 22 := rfl
      omega
    · unfold XO at z
      rw [XC_A (by omega)] at z
      have := Am_r (e := a + 13) (i := 8 + i) (by omega)
      omega
    · have z : q = XC (a + 13) (a + 12) ni ri (a + 699) (100 + i) := z
      rw [XC_R (by omega)] at z
      have := XR_b (e := a + 13) (e2 := a + 699) (by omega) i (by omega)
      omega
  omega
section
variable {l : Launch} {O : Nat → vm_Ob} {f9 : Value} {a : Nat} {h : vm_H} {W : Nat → List Nat} {B : Nat → Nat → Nat} {V : Nat → Option Nat} {g : og}
theorem OP_we {j : Nat} {w : List Nat} (k : OPc a h (fu W j w) B V g) (hj : j < 3) : rwl h (a + rad j) (a + rad j + 1) (rln j) w := by
  have := OP_w k hj
  rwa [fu_e] at this
theorem o_clear {j : Nat} {w : List Nat} (k : OPc a h (fu W j w) B V g) (hj : j < 3) : vm_Met (vm_env l O f9) mX9_clear 0 0 [.ref (a + rad j)] h (fun r h' => r = none ∧ OPc a h' (fu W j []) B V g ∧ fr h h' (fun q => q = a + rad j)) := by
  refine vm_metP (l_clear (OP_we k hj)) ?_
  rintro r h' ⟨e, k1, F⟩
  exact ⟨e, OP_row k hj (fr_mono F (fun q z => Or.inl z)) k1, F⟩
theorem o_byte {j v : Nat} {w : List Nat} {x : Int32} (k : OPc a h (fu W j w) B V g) (hj : j < 3) (hs : w.length < rln j) (hv : v < 256) (hx : x.toInt8.toInt32 = sb v) : vm_Met (vm_env l O f9) mX9_putByte 0 0 [.ref (a + rad j), .int x] h (fun r h' => r = none ∧ OPc a h' (fu W j (w ++ [v])) B V g ∧ fr h h' (fun q => q = a + rad j ∨ q = a + rad j + 1)) := by
  refine vm_metP (l_byte (OP_we k hj) hs hv hx) ?_
  rintro r h' ⟨e, k1, F⟩
  exact ⟨e, OP_row k hj F k1, F⟩
theorem o_numb {j m : Nat} {w : List Nat} {z : Int} (k : OPc a h (fu W j w) B V g) (hj : j < 3) (hs : w.length + m ≤ rln j) (hm : m ≤ 4) (h1 : -2147483648 ≤ z) (h2 : z < 2147483648) : vm_Met (vm_env l O f9) mX9_putNumber 0 0 [.ref (a + rad j), .int (iZ z), .int (nI m)] h (fun r h' => r = none ∧ OPc a h' (fu W j (w ++ nb z m)) B V g ∧ fr h h' (fun q => q = a + rad j ∨ q = a + rad j + 1)) := by
  refine vm_metP (l_num (OP_we k hj) hs hm h1 h2) ?_
  rintro r h' ⟨e, k1, F⟩
  exact ⟨e, OP_row k hj F k1, F⟩
theorem o_text {j m t : Nat} {w : List Nat} {c : Nat → Nat} (h9 : f9.category = 1) (k : OPc a h (fu W j w) B V g) (hj : j < 3) (ht : sto h t m c) (hs : w.length + m ≤ rln j) : vm_Met (vm_env l O f9) mX9_putText 0 0 [.ref (a + rad j), .ref t] h (fun r h' => r = none ∧ OPc a h' (fu W j (w ++ sl c 0 m)) B V g ∧ fr h h' (fun q => q = a + rad j ∨ q = a + rad j + 1)) := by
  refine vm_metP (l_text h9 (OP_we k hj) ht hs) ?_
  rintro r h' ⟨e, k1, F⟩
  exact ⟨e, OP_row k hj F k1, F⟩
theorem o_all {j m fa nf at9 : Nat} {w : List Nat} {c : Nat → Nat} (k : OPc a h (fu W j w) B V g) (hj : j < 3) (hf : bv h nf fa c) (hat : at9 + m ≤ nf) (hnf : nf < 65536) (hs : w.length + m ≤ rln j) : vm_Met (vm_env l O f9) mX9_putAll 0 0 [.ref (a + rad j), .ref fa, .int (nI at9), .int (nI m)] h (fun r h' => r = none ∧ OPc a h' (fu W j (w ++ sl c at9 m)) B V g ∧ fr h h' (fun q => q = a + rad j ∨ q = a + rad j + 1)) := by
  refine vm_metP (l_all (OP_we k hj) hf hat hnf hs) ?_
  rintro r h' ⟨e, k1, F⟩
  exact ⟨e, OP_row k hj F k1, F⟩
theorem o_h3 {j t : Nat} {st2 kk2 : Nat → Int32} {st3 kk3 : Nat → Int64} (k : OPc a h W B V g) (hK : HK h st2 kk2 st3 kk3) (hj : j < 3) (ht : t < 10) : vm_Met (vm_env l O f9) mX4_h3 0 0 [.ref (a + 6), .ref (a + rad j), .ref (a + oad t)] h (fun r h' => r = none ∧ (∃ c, OPc a h' W (fu B t c) V g ∧ sl c 0 48 = H3 st3 kk3 (W j) ∧ ∀ i, 48 ≤ i → c i = B t i) ∧ fr h h' (fun q => (a + 7 ≤ q ∧ q < a + 12) ∨ q = a + oad t)) := by
  have hc := rad_c hj
  have ho := oad_c ht
  have hl := oln_lt t
  have k0 := k.1
  refine vm_metP (l_h3 (OP_H k) hK (OP_w k hj) (OP_b k ht) ?_ ?_ ?_ (by omega) hl.1 hl.2) ?_
  · show _ ≠ a + 7 + 4; omega
  · omega
  · show _ ≠ a + 7 + 4; omega
  rintro r h' ⟨e, ⟨c, c1, c2, c3⟩, k4, F⟩
  have F' : fr h h' (fun q => (a + 7 ≤ q ∧ q < a + 12) ∨ q = a + oad t) := fr_mono F (fun q z => by
    rcases z with z | z | z | z
    · have z : q = a + 7 + 2 := z
      left; omega
    · have z : q = a + 7 + 3 := z
      left; omega
    · have z : q = a + 7 + 4 := z
      left; omega
    · right; exact z)
  refine ⟨e, ⟨c, OP_mk k F' ?_ ?_ ?_ (fun i hi => ?_) (fun i hi => Or.inl ⟨?_, ?_, rfl⟩) (Or.inr k4) (Or.inl ⟨fun q hq => ?_, rfl⟩) (Or.inl (fun q h1 h2 => ?_)) (fun i hi => Or.inl ⟨?_, rfl⟩), c2, c3⟩, F'⟩
  · rintro (z | z) <;> omega
  · rintro (z | z) <;> omega
  · rintro (z | z) <;> omega
  · have hi' := oad_c hi
    by_cases e : i = t
    · right; rw [e, fu_e]; exact c1
    · left
      refine ⟨?_, fu_n e⟩
      rintro (z | z) <;> omega
  · have := rad_c hi
    rintro (z | z) <;> omega
  · have := rad_c hi
    rintro (z | z) <;> omega
  · unfold CR at hq
    rintro (z | z) <;> omega
  · rintro (z | z) <;> omega
  · rintro (z | z) <;> omega
theorem AQ0 : AQ a 0 = a + 661 := by unfold AQ Am; rw [if_pos rfl]
theorem OP_MD (k : OPc a h W B V g) : ∃ nq rq, MP (AQ a) 6 14 cQ nq rq ∧ MD h (AQ a) 6 14 cQ nq := k.2.2.2.2.2.2.1
theorem OP_okc {t : Nat} (k : OPc a h W B V g) (ht : t < 2) : okc (AQ a) (a + 697 + t) ∧ (∀ i, i < 16 → a + 697 + t ≠ AQ a (8 + i)) ∧ a + 697 + t ≠ AQ a 6 := by
  have k0 := k.1
  refine ⟨⟨fun i hi e => ?_, by omega⟩, fun i hi e => ?_, fun e => ?_⟩
  · have := AQ_r (a := a) (i := i) (by omega); omega
  · have := AQ_r (a := a) (i := 8 + i) (by omega); omega
  · have := AQ_r (a := a) (i := 6) (by omega); omega
theorem OP_MDf {h' : vm_H} {t : Nat} (k : OPc a h W B V g) (F : fr h h' (fun q => q = a + 697 + t)) : MDo a h' := MDo_fr (OP_M k) (fun q h1 h2 => F.2 q (fun (z : q = _) => by omega))
theorem o_read {t fa n at9 size : Nat} {b : Nat → Nat} (k : OPc a h W B V g) (ht : t < 2) (hb : bv h n fa b) (hn : at9 + size ≤ n) (hn2 : n < 65536) : vm_Met (vm_env l O f9) mX6_read 0 0 [.ref fa, .int (nI at9), .int (nI size), .ref (a + 697 + t)] h (fun r h' => r = none ∧ OPc a h' W B (fu V t (some (bn b at9 size))) g ∧ fr h h' (fun q => q = a + 697 + t)) := by
  have k0 := k.1
  refine vm_metP (s_read hb (OP_v k ht).1 hn hn2 (by decide) (by omega)) ?_
  rintro r h' ⟨e, k1, F⟩
  exact ⟨e, OP_num k ht (fr_mono F (fun q z => Or.inl z)) (OP_MDf k F) k1, F⟩
theorem o_abo {t v : Nat} (k : OPc a h W B V g) (ht : t < 2) (hv : V t = some v) (hx : v < 268435456 ^ 14) : vm_Met (vm_env l O f9) mX6_isAbove 0 0 [.ref (a + 661), .ref (a + 697 + t)] h (fun r h' => r = some (.int (if v < cQ then 1 else 0)) ∧ h' = h) := by
  obtain ⟨nq, rq, hP, hM⟩ := OP_MD k
  have hm := m_abo (l := l) (O := O) (f9 := f9) hP hM ((OP_v k ht).2 v hv) hx
  rw [AQ0] at hm
  exact hm
theorem rS_AQ {t : Nat} : ∀ q, rS (AQ a) 6 (a + 697 + t) q → q = a + 697 + t ∨ (a + 663 ≤ q ∧ q < a + 685) := by
  rintro q (z | (z | ⟨z, _⟩) | ⟨i, hi, z⟩)
  · exact Or.inl z
  · right; have : AQ a 6 = a + 663 + 6 - 2 := rfl
    omega
  · exact absurd z (by decide)
  · right; have : AQ a (8 + i) = a + 663 + (8 + i) - 2 := by unfold AQ Am; rw [if_neg (by omega), if_neg (by omega), if_neg (by omega)]
    omega
theorem sc_AQ {t : Nat} : ∀ q, (q = a + 697 + t ∨ sc (AQ a) 6 q) → q = a + 697 + t ∨ (a + 663 ≤ q ∧ q < a + 685) := fun q hq => rS_AQ q (hq.elim Or.inl (fun z => Or.inr (Or.inl z)))
theorem o_ent {t s v : Nat} (k : OPc a h W B V g) (ht : t < 2) (hs : s < 2) (hv : V t = some v) (hx : v < 268435456 ^ 14) : vm_Met (vm_env l O f9) mX6_enter 0 0 [.ref (a + 661), .ref (a + 697 + t), .ref (a + 697 + s)] h (fun r h' => r = none ∧ OPc a h' W B (fu V s (some (mt cQ 14 v))) g ∧ fr h h' (fun q => q = a + 697 + s ∨ (a + 663 ≤ q ∧ q < a + 685))) := by
  obtain ⟨nq, rq, hP, hM⟩ := OP_MD k
  have hm := v_ent (l := l) (O := O) (f9 := f9) hP hM ((OP_v k ht).2 v hv) (OP_v k hs).1 hx (OP_okc k ht).2.2 (OP_okc k hs).1
  rw [AQ0] at hm
  refine vm_metP hm ?_
  rintro r h' ⟨e, k1, M, F⟩
  have F' := fr_mono F sc_AQ
  exact ⟨e, OP_num k hs F' ⟨nq, rq, hP, M⟩ k1, F'⟩
theorem o_lev {t s : Nat} {X : Int} (k : OPc a h W B V g) (ht : t < 2) (hs : s < 2) (hv : V t = some (mt cQ 14 X)) : vm_Met (vm_env l O f9) mX6_leave 0 0 [.ref (a + 661), .ref (a + 697 + t), .ref (a + 697 + s)] h (fun r h' => r = none ∧ OPc a h' W B (fu V s (some (X % (cQ : Int)).toNat)) g ∧ fr h h' (fun q => q = a + 697 + s ∨ (a + 663 ≤ q ∧ q < a + 685))) := by
  obtain ⟨nq, rq, hP, hM⟩ := OP_MD k
  have hm := v_lev (l := l) (O := O) (f9 := f9) hP hM ((OP_v k ht).2 _ hv) (OP_v k hs).1 (OP_okc k ht).2.2 (OP_okc k hs).1
  rw [AQ0] at hm
  refine vm_metP hm ?_
  rintro r h' ⟨e, k1, M, F⟩
  have F' := fr_mono F sc_AQ
  exact ⟨e, OP_num k hs F' ⟨nq, rq, hP, M⟩ k1, F'⟩
theorem mt_k {N L ri k : Nat} {X : Int} (hN : 0 < N) (hri : 268435456 ^ L * ri % N = 1 % N) : mt N L X * k * ri % N = (X * k % N).toNat := by
  have e := mt_lev (L := L) (X := X) hN hri
  have h1 : mt N L X * k * ri = mt N L X * ri * k := by rw [Nat.mul_assoc, Nat.mul_comm k ri, ← Nat.mul_assoc]
  have h2 : (0 : Int) ≤ X % N := Int.emod_nonneg _ (by omega)
  rw [h1, Nat.mul_mod, e]
  apply Int.ofNat_inj.mp
  rw [Int.toNat_of_nonneg (Int.emod_nonneg _ (by omega))]
  push_cast
  rw [Int.toNat_of_nonneg h2, Int.mul_emod, Int.emod_emod_of_dvd _ (Int.dvd_refl _), ← Int.mul_emod, Int.mul_emod, Int.emod_emod_of_dvd _ (Int.dvd_refl _), ← Int.mul_emod]
theorem o_mul {t s v : Nat} {X : Int} (k : OPc a h W B V g) (ht : t < 2) (hs : s < 2) (hv : V t = some (mt cQ 14 X)) (hw : V s = some v) (hvq : v < cQ) : vm_Met (vm_env l O f9) mX6_mul 0 0 [.ref (a + 661), .ref (a + 697 + t), .ref (a + 697 + s), .ref (a + 697 + t)] h (fun r h' => r = none ∧ OPc a h' W B (fu V t (some (X * v % (cQ : Int)).toNat)) g ∧ fr h h' (fun q => q = a + 697 + t ∨ (a + 663 ≤ q ∧ q < a + 685))) := by
  obtain ⟨nq, rq, hP, hM⟩ := OP_MD k
  obtain ⟨n1, n2, n3⟩ := MP_N hP
  have hx : mt cQ 14 X < 268435456 ^ 14 := Nat.lt_trans (mt_lt n1) n2
  have hm := m_mul (l := l) (O := O) (f9 := f9) hP hM ((OP_v k ht).2 _ hv) ((OP_v k hs).2 _ hw) (OP_v k ht).1 hx hvq (OP_okc k ht).2.2 (OP_okc k hs).2.2 (OP_okc k ht).1
  rw [AQ0] at hm
  refine vm_metP hm ?_
  rintro r h' ⟨e, k1, M, F⟩
  have F' := fr_mono F sc_AQ
  rw [mt_k n1 n3] at k1
  exact ⟨e, OP_num k ht F' ⟨nq, rq, hP, M⟩ k1, F'⟩
theorem o_sub {t s v w : Nat} (k : OPc a h W B V g) (ht : t < 2) (hs : s < 2) (hv : V t = some v) (hw : V s = some w) (hvq : v < cQ) (hwq : w < cQ) : vm_Met (vm_env l O f9) mX6_sub 0 0 [.ref (a + 661), .ref (a + 697 + t), .ref (a + 697 + s), .ref (a + 697 + t)] h (fun r h' => r = none ∧ OPc a h' W B (fu V t (some ((v + cQ - w) % cQ))) g ∧ fr h h' (fun q => q = a + 697 + t)) := by
  obtain ⟨nq, rq, hP, hM⟩ := OP_MD k
  have hm := m_sub (l := l) (O := O) (f9 := f9) hP hM ((OP_v k ht).2 _ hv) ((OP_v k hs).2 _ hw) (OP_v k ht).1 hvq hwq (OP_okc k ht).1
  rw [AQ0] at hm
  refine vm_metP hm ?_
  rintro r h' ⟨e, k1, M, F⟩
  exact ⟨e, OP_num k ht (fr_mono F (fun q z => Or.inl z)) ⟨nq, rq, hP, M⟩ k1, F⟩
theorem o_inv {t : Nat} {X : Int} (k : OPc a h W B V g) (ht : t < 2) (hv : V t = some (mt cQ 14 X)) : vm_Met (vm_env l O f9) mX6_invert 0 0 [.ref (a + 661), .ref (a + 697 + t), .ref (a + 697 + t)] h (fun r h' => ∃ Y : Int, r = some (.int (if Nat.gcd (mt cQ 14 X) cQ = 1 then 1 else 0)) ∧ (Nat.gcd (mt cQ 14 X) cQ = 1 → X * Y % (cQ : Int) = 1) ∧ OPc a h' W B (fu V t (some (mt cQ 14 Y))) g ∧ fr h h' (fun q => q = a + 697 + t ∨ (a + 663 ≤ q ∧ q < a + 685))) := by
  obtain ⟨nq, rq, hP, hM⟩ := OP_MD k
  have hm := v_inv (l := l) (O := O) (f9 := f9) hP hM ((OP_v k ht).2 _ hv) (OP_v k ht).1 (OP_okc k ht).1 (OP_okc k ht).2.1
  rw [AQ0] at hm
  refine vm_metP hm ?_
  rintro r h' ⟨Y, e, k1, k2, M, F⟩
  have F' := fr_mono F rS_AQ
  exact ⟨Y, e, k2, OP_num k ht F' ⟨nq, rq, hP, M⟩ k1, F'⟩
theorem o_entw {t at9 n fa : Nat} {b : Nat → Nat} (k : OPc a h W B V g) (ht : t < 2) (hb : bv h n fa b) (hn : at9 + 72 ≤ n) (hn2 : n < 65536) : vm_Met (vm_env l O f9) mX6_enterWide 0 0 [.ref (a + 661), .ref fa, .int (nI at9), .int 72, .ref (a + 697 + t)] h (fun r h' => r = none ∧ OPc a h' W B (fu V t (some (mt cQ 14 (bn b at9 72 : Nat)))) g ∧ fr h h' (fun q => q = a + 697 + t ∨ (a + 663 ≤ q ∧ q < a + 685))) := by
  obtain ⟨nq, rq, hP, hM⟩ := OP_MD k
  have hm := v_entw (l := l) (O := O) (f9 := f9) hP hM hb hn hn2 (OP_v k ht).1 (OP_okc k ht).1 (OP_okc k ht).2.1
  rw [AQ0] at hm
  refine vm_metP hm ?_
  rintro r h' ⟨e, k1, M, F⟩
  have F' := fr_mono F rS_AQ
  exact ⟨e, OP_num k ht F' ⟨nq, rq, hP, M⟩ k1, F'⟩
theorem o_write {t s at9 size v : Nat} (k : OPc a h W B V g) (ht : t < 2) (hs : s < 10) (hv : V t = some v) (hx : v < 268435456 ^ 14) (hn : at9 + size ≤ oln s) : vm_Met (vm_env l O f9) mX6_write 0 0 [.ref (a + 697 + t), .ref (a + oad s), .int (nI at9), .int (nI size)] h (fun r h' => r = none ∧ OPc a h' W (fu B s (wrb (B s) at9 size v)) V g ∧ fr h h' (fun q => q = a + oad s)) := by
  have k0 := k.1
  have ho := oad_c hs
  refine vm_metP (b_write ((OP_v k ht).2 v hv) (OP_b k hs) hn (oln_lt s).2 (by decide) (by omega) hx) ?_
  rintro r h' ⟨e, k1, F⟩
  exact ⟨e, OP_byt k hs F k1, F⟩
end
