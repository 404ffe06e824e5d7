/-! files of registers: rows of 14 longs that hold residues modulo P -/
def RG (m : Nat) (A R : Nat → Nat) (ni ri : Nat) (h : vm_H) (u : Nat → Option Int) : Prop :=
  MP A 3 14 cP ni ri ∧ MD h A 3 14 cP ni ∧ (∀ i j, i < m → j < m → R i = R j → i = j) ∧ (∀ i, i < m → okc A (R i) ∧ ∀ j, j < 16 → R i ≠ A (8 + j)) ∧ ∀ i, i < m → la h 14 (R i) ∧ ∀ a, u i = some a → mv h 14 cP (R i) a
def AR (m : Nat) (A R : Nat → Nat) (q : Nat) : Prop := sc A 3 q ∨ (∃ i, i < 16 ∧ q = A (8 + i)) ∨ ∃ i, i < m ∧ q = R i
def opd (A : Nat → Nat) (h : vm_H) (o : Nat) (a : Int) : Prop := mv h 14 cP o a ∧ o ≠ A 6
def up1 (u : Nat → Option Int) (c : Nat) (a : Option Int) (i : Nat) : Option Int := if i = c then a else u i
theorem up1_e {u : Nat → Option Int} {c : Nat} {a : Option Int} : up1 u c a c = a := if_pos rfl
theorem up1_n {u : Nat → Option Int} {c i : Nat} {a : Option Int} (h : i ≠ c) : up1 u c a i = u i := if_neg h
theorem RG_r {m : Nat} {A R : Nat → Nat} {ni ri : Nat} {h : vm_H} {u : Nat → Option Int} (k : RG m A R ni ri h u) {i : Nat} {a : Int} (hi : i < m) (e : u i = some a) : opd A h (R i) a :=
  ⟨(k.2.2.2.2 i hi).2 a e, (k.2.2.2.1 i hi).1.1 6 (by decide)⟩
theorem RG_1 {m : Nat} {A R : Nat → Nat} {ni ri : Nat} {h : vm_H} {u : Nat → Option Int} (k : RG m A R ni ri h u) : opd A h (A 2) 1 :=
  ⟨MD_one k.1 k.2.1, MP_6 k.1 (by decide) (by decide) (by decide)⟩
theorem RG_up {m : Nat} {A R : Nat → Nat} {ni ri : Nat} {h h' : vm_H} {u : Nat → Option Int} (k : RG m A R ni ri h u) {c : Nat} {a : Option Int} (hc : c < m) (M : MD h' A 3 14 cP ni) (F : fr h h' (rS A 3 (R c))) (hl : la h' 14 (R c)) (hv : ∀ b, a = some b → mv h' 14 cP (R c) b) : RG m A R ni ri h' (up1 u c a) := by
  refine ⟨k.1, M, k.2.2.1, k.2.2.2.1, fun i hi => ?_⟩
  by_cases e : i = c
  · subst e
    refine ⟨hl, fun b hb => ?_⟩
    rw [up1_e] at hb
    exact hv b hb
  · have ns : ¬ rS A 3 (R c) (R i) := by
      rintro (z | (z | ⟨_, z⟩) | ⟨j, hj, z⟩)
      · exact e (k.2.2.1 i c hi hc z)
      · exact (k.2.2.2.1 i hi).1.1 6 (by decide) z
      · exact (k.2.2.2.1 i hi).1.1 5 (by decide) z
      · exact (k.2.2.2.1 i hi).2 j hj z
    obtain ⟨l1, l2⟩ := k.2.2.2.2 i hi
    refine ⟨fr_la F l1 ns, fun b hb => ?_⟩
    rw [up1_n e] at hb
    exact fr_nv F (l2 b hb) ns
theorem rS_AR {m : Nat} {A R : Nat → Nat} {c : Nat} (hc : c < m) : ∀ q, rS A 3 (R c) q → AR m A R q := by
  rintro q (z | z | z)
  · exact Or.inr (Or.inr ⟨c, hc, z⟩)
  · exact Or.inl z
  · exact Or.inr (Or.inl z)
/-- what is no row of longs stays -/
theorem RG_ob {m : Nat} {A R : Nat → Nat} {ni ri : Nat} {h : vm_H} {u : Nat → Option Int} (k : RG m A R ni ri h u) {q : Nat} {o : vm_Ob} (e : h.2 q = o) (ho : ∀ n f, o ≠ .inl (.long, n, .inr (.inl f))) : ¬ AR m A R q := by
  have key : ∀ n, ¬ la h n q := by
    rintro n ⟨f, hf⟩
    exact ho n f (e.symm.trans hf)
  obtain ⟨_, M, _, _, k5⟩ := k
  rintro ((z | ⟨_, z⟩) | ⟨j, hj, z⟩ | ⟨i, hi, z⟩)
  · rw [z] at key; exact key 14 M.2.2.2.2.2.1
  · rw [z] at key; exact key 28 (M.2.2.2.2.2.2.2.2 rfl)
  · rw [z] at key; exact key 14 (M.2.2.2.2.2.2.2.1 j hj)
  · rw [z] at key; exact key 14 (k5 i hi).1
theorem AR_ob {m : Nat} {A R : Nat → Nat} {ni ri : Nat} {h h' : vm_H} {u : Nat → Option Int} (k : RG m A R ni ri h u) (F : fr h h' (AR m A R)) {q ci : Nat} {fs : List Value} (e : h.2 q = .inr (ci, fs)) : h'.2 q = .inr (ci, fs) :=
  (F.2 q (RG_ob k e (fun _ _ z => by cases z))).trans e
theorem AR_aa {m : Nat} {A R : Nat → Nat} {ni ri : Nat} {h h' : vm_H} {u : Nat → Option Int} (k : RG m A R ni ri h u) (F : fr h h' (AR m A R)) {q n : Nat} {ty : FieldType} {g : Nat → Option Nat} (e : h.2 q = .inl (ty, n, .inr (.inr (.inr (.inr g))))) : h'.2 q = .inl (ty, n, .inr (.inr (.inr (.inr g)))) :=
  (F.2 q (RG_ob k e (fun _ _ z => by cases z))).trans e
theorem AR_bv {m : Nat} {A R : Nat → Nat} {ni ri : Nat} {h h' : vm_H} {u : Nat → Option Int} (k : RG m A R ni ri h u) (F : fr h h' (AR m A R)) {q n : Nat} {b : Nat → Nat} (e : bv h n q b) : bv h' n q b := by
  obtain ⟨f, e1, e2⟩ := e
  exact ⟨f, (F.2 q (RG_ob k e1 (fun _ _ z => by cases z))).trans e1, e2⟩
section
variable {l : Launch} {O : Nat → vm_Ob} {f9 : Value} {m : Nat} {A R : Nat → Nat} {ni ri : Nat} {h : vm_H} {u : Nat → Option Int} {o1 o2 c : Nat} {a b : Int}
theorem sc_rS {c : Nat} : ∀ q, (q = c ∨ sc A 3 q) → rS A 3 c q := fun q hq => hq.elim Or.inl (fun z => Or.inr (Or.inl z))
theorem r_mul (k : RG m A R ni ri h u) (ha : opd A h o1 a) (hb : opd A h o2 b) (hc : c < m) :
    vm_Met (vm_env l O f9) mX3_mul 0 0 [.ref (A 0), .ref o1, .ref o2, .ref (R c)] h (fun r h' => r = none ∧ RG m A R ni ri h' (up1 u c (some (a * b))) ∧ fr h h' (AR m A R)) := by
  refine vm_metP (v_mul (ci := 3) k.1 k.2.1 ha.1 hb.1 (k.2.2.2.2 c hc).1 ha.2 hb.2 (k.2.2.2.1 c hc).1) ?_
  rintro r h' ⟨rfl, w, M, F⟩
  have F' := fr_mono F sc_rS
  exact ⟨rfl, RG_up k hc M F' (nv_la w) (fun b hb => by cases hb; exact w), fr_mono F' (rS_AR hc)⟩
theorem r_sqr (k : RG m A R ni ri h u) (ha : opd A h o1 a) (hc : c < m) :
    vm_Met (vm_env l O f9) mX3_sqr 0 0 [.ref (A 0), .ref o1, .ref (R c)] h (fun r h' => r = none ∧ RG m A R ni ri h' (up1 u c (some (a * a))) ∧ fr h h' (AR m A R)) := by
  refine vm_metP (v_sqr (ci := 3) k.1 k.2.1 ha.1 (k.2.2.2.2 c hc).1 ha.2 (k.2.2.2.1 c hc).1) ?_
  rintro r h' ⟨rfl, w, M, F⟩
  have F' := fr_mono F sc_rS
  exact ⟨rfl, RG_up k hc M F' (nv_la w) (fun b hb => by cases hb; exact w), fr_mono F' (rS_AR hc)⟩
theorem r_add (k : RG m A R ni ri h u) (ha : opd A h o1 a) (hb : opd A h o2 b) (hc : c < m) :
    vm_Met (vm_env l O f9) mX6_add 0 0 [.ref (A 0), .ref o1, .ref o2, .ref (R c)] h (fun r h' => r = none ∧ RG m A R ni ri h' (up1 u c (some (a + b))) ∧ fr h h' (AR m A R)) := by
  refine vm_metP (v_add k.1 k.2.1 ha.1 hb.1 (k.2.2.2.2 c hc).1 (k.2.2.2.1 c hc).1) ?_
  rintro r h' ⟨rfl, w, M, F⟩
  have F' : fr h h' (rS A 3 (R c)) := fr_mono F (fun q hq => Or.inl hq)
  exact ⟨rfl, RG_up k hc M F' (nv_la w) (fun b hb => by cases hb; exact w), fr_mono F' (rS_AR hc)⟩
theorem r_sub (k : RG m A R ni ri h u) (ha : opd A h o1 a) (hb : opd A h o2 b) (hc : c < m) :
    vm_Met (vm_env l O f9) mX6_sub 0 0 [.ref (A 0), .ref o1, .ref o2, .ref (R c)] h (fun r h' => r = none ∧ RG m A R ni ri h' (up1 u c (some (a - b))) ∧ fr h h' (AR m A R)) := by
  refine vm_metP (v_sub k.1 k.2.1 ha.1 hb.1 (k.2.2.2.2 c hc).1 (k.2.2.2.1 c hc).1) ?_
  rintro r h' ⟨rfl, w, M, F⟩
  have F' : fr h h' (rS A 3 (R c)) := fr_mono F (fun q hq => Or.inl hq)
  exact ⟨rfl, RG_up k hc M F' (nv_la w) (fun b hb => by cases hb; exact w), fr_mono F' (rS_AR hc)⟩
theorem r_copy (k : RG m A R ni ri h u) (ha : opd A h o1 a) (hc : c < m) :
    vm_Met (vm_env l O f9) mX6_copy 0 0 [.ref (A 0), .ref o1, .ref (R c)] h (fun r h' => r = none ∧ RG m A R ni ri h' (up1 u c (some a)) ∧ fr h h' (AR m A R)) := by
  refine vm_metP (v_copy k.1 k.2.1 ha.1 (k.2.2.2.2 c hc).1 (k.2.2.2.1 c hc).1) ?_
  rintro r h' ⟨rfl, w, M, F⟩
  have F' : fr h h' (rS A 3 (R c)) := fr_mono F (fun q hq => Or.inl hq)
  exact ⟨rfl, RG_up k hc M F' (nv_la w) (fun b hb => by cases hb; exact w), fr_mono F' (rS_AR hc)⟩
theorem r_isz (k : RG m A R ni ri h u) (ha : opd A h o1 a) :
    vm_Met (vm_env l O f9) mX6_isZero 0 0 [.ref (A 0), .ref o1] h (fun r h' => r = some (.int (if a % cP = 0 then 1 else 0)) ∧ h' = h) := v_isz k.1 k.2.1 ha.1
theorem r_same (k : RG m A R ni ri h u) (ha : opd A h o1 a) (hb : opd A h o2 b) :
    vm_Met (vm_env l O f9) mX6_same 0 0 [.ref (A 0), .ref o1, .ref o2] h (fun r h' => r = some (.int (if a % cP = b % cP then 1 else 0)) ∧ h' = h) := v_same k.1 k.2.1 ha.1 hb.1
end
theorem fz_P (X : Int) : X % (cP : Int) = 0 ↔ fz X = 0 := (fz_z X).symm
theorem fz_Pe (X Y : Int) : X % (cP : Int) = Y % (cP : Int) ↔ fz X = fz Y := (fz_eq X Y).symm
