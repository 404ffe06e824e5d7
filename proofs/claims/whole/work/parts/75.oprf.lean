/-! an Oprf: its places, counted from its own (a) -/
def fu {α : Type} (f : Nat → α) (k : Nat) (v : α) (i : Nat) : α := match Nat.beq i k with
  | true => v
  | false => f i
theorem fu_e {α : Type} {f : Nat → α} {k : Nat} {v : α} : fu f k v k = v := by unfold fu; rw [Nat.beq_refl]
theorem fu_n {α : Type} {f : Nat → α} {k i : Nat} {v : α} (h : i ≠ k) : fu f k v i = f i := by
  unfold fu
  rw [show Nat.beq i k = false by cases hb : Nat.beq i k with | false => rfl | true => exact absurd (Nat.eq_of_beq_eq_true hb) h]
theorem fu_id {α : Type} {f : Nat → α} {k : Nat} : fu f k (f k) = f := by
  funext i
  by_cases h : i = k
  · rw [h, fu_e]
  · rw [fu_n h]
theorem fu_fu {α : Type} {f : Nat → α} {k : Nat} {v w : α} : fu (fu f k v) k w = fu f k w := by
  funext i
  by_cases h : i = k
  · rw [h, fu_e, fu_e]
  · rw [fu_n h, fu_n h, fu_n h]
theorem fu_cm {α : Type} {f : Nat → α} {k m : Nat} {v w : α} (h : k ≠ m) : fu (fu f k v) m w = fu (fu f m w) k v := by
  funext i
  by_cases h1 : i = k
  · rw [h1, fu_e, fu_n h, fu_e]
  · rw [fu_n h1]
    by_cases h2 : i = m
    · rw [h2, fu_e, fu_e]
    · rw [fu_n h2, fu_n h2, fu_n h1]
def oad (k : Nat) : Nat := match k with
  | 0 => 1
  | 1 => 2
  | 2 => 3
  | k => 686 + k
def oln (k : Nat) : Nat := match k with
  | 0 => 49
  | 1 => 48
  | 2 => 48
  | 3 => 48
  | 4 => 48
  | 5 => 144
  | 6 => 392
  | 7 => 384
  | 8 => 96
  | _ => 245
def rad (j : Nat) : Nat := match j with
  | 0 => 4
  | 1 => 685
  | _ => 687
def rln (j : Nat) : Nat := match j with
  | 0 => 488
  | 1 => 300
  | _ => 600
theorem oad_c {k : Nat} (h : k < 10) : (k < 3 ∧ oad k = k + 1) ∨ (3 ≤ k ∧ oad k = 686 + k) := by
  rcases k with _ | _ | _ | k
  · exact Or.inl ⟨by decide, rfl⟩
  · exact Or.inl ⟨by decide, rfl⟩
  · exact Or.inl ⟨by decide, rfl⟩
  · right; exact ⟨by omega, rfl⟩
theorem rad_c {j : Nat} (h : j < 3) : (j = 0 ∧ rad j = 4) ∨ (j = 1 ∧ rad j = 685) ∨ (j = 2 ∧ rad j = 687) := by
  rcases j with _ | _ | _ | j
  · exact Or.inl ⟨rfl, rfl⟩
  · exact Or.inr (Or.inl ⟨rfl, rfl⟩)
  · exact Or.inr (Or.inr ⟨rfl, rfl⟩)
  · omega
theorem oln_lt (k : Nat) : 48 ≤ oln k ∧ oln k < 65536 := by
  unfold oln; split <;> decide
def XO (a ni ri : Nat) : Nat → Nat := XC (a + 13) (a + 12) ni ri (a + 699)
def AQ (a : Nat) : Nat → Nat := Am (a + 661) (a + 663)
/-- points: the table's places, then p, m, z -/
abbrev og : Type := (Nat → Option (Option (fq × fq))) × (Nat → Option (Option (fq × fq)))
def gs (G : Nat → Option (Option (fq × fq))) (g : og) : Prop :=
  G 0 = some gP ∧ (∀ m, 1 ≤ m → m ≤ 150 → ∃ q, G m = some q) ∧ (∀ pl p, pl < 10 → g.1 pl = some p → ∀ m, 1 ≤ m → m ≤ 15 → G (15 * pl + m) = some (ecM (-3) fiv m p)) ∧ (∀ i, i < 3 → G (151 + i) = g.2 i) ∧ (∃ q, g.2 1 = some q) ∧ ∃ q, g.2 2 = some q
def CAo (a : Nat) (h : vm_H) (g : og) : Prop := ∃ (ni ri : Nat) (G : Nat → Option (Option (fq × fq))), CA 154 (XO a ni ri) h G ∧ gs G g
def MDo (a : Nat) (h : vm_H) : Prop := ∃ nq rq, MP (AQ a) 6 14 cQ nq rq ∧ MD h (AQ a) 6 14 cQ nq
def OPc (a : Nat) (h : vm_H) (W : Nat → List Nat) (B : Nat → Nat → Nat) (V : Nat → Option Nat) (g : og) : Prop :=
  a + 1000 < 1099511627776 ∧
  h.2 a = .inr (7, [.ref (a + 1), .ref (a + 2), .ref (a + 3), .ref (a + 4), .ref (a + 6), .ref (a + 12), .ref (a + 661), .ref (a + 685), .ref (a + 687), .ref (a + 689), .ref (a + 690), .ref (a + 691), .ref (a + 692), .ref (a + 693), .ref (a + 694), .ref (a + 695), .ref (a + 696), .ref (a + 699), .ref (a + 703), .ref (a + 707)]) ∧
  (∀ k, k < 10 → bv h (oln k) (a + oad k) (B k)) ∧
  (∀ j, j < 3 → rwl h (a + rad j) (a + rad j + 1) (rln j) (W j)) ∧
  HA h (a + 6) (fun i => a + 7 + i) ∧ CAo a h g ∧ MDo a h ∧
  h.2 (a + 696) = .inl (.array .long, 2, .inr (.inr (.inr (.inr (fun j => if j < 2 then some (a + 696 + 1 + j) else none))))) ∧
  ∀ k, k < 2 → la h 14 (a + 697 + k) ∧ ∀ v, V k = some v → nv h 14 (a + 697 + k) v
/-- the curve's own places -/
def CR (a q : Nat) : Prop := a + 12 ≤ q ∧ q < a + 661 ∨ a + 699 ≤ q ∧ q < a + 711
theorem XO_own {a ni ri q : Nat} (ho : own 154 (XO a ni ri) q) : CR a q := by
  unfold CR
  rcases ho with ⟨i, hi, rfl⟩ | ⟨i, hi, rfl⟩ | ⟨k, hk, rfl⟩
  · by_cases h24 : i < 24
    · unfold XO
      rw [XC_A h24]
      have := Am_r (e := a + 13) h24
      omega
    · have hi : i = 24 ∨ i = 25 ∨ i = 26 ∨ i = 27 := by omega
      rcases hi with rfl | rfl | rfl | rfl
      · left; show a + 12 ≤ a + 12 ∧ a + 12 < _; omega
      · left; show a + 12 ≤ a + 13 + 36 ∧ a + 13 + 36 < _; omega
      · left; show a + 12 ≤ a + 13 + 45 ∧ a + 13 + 45 < _; omega
      · left; show a + 12 ≤ a + 13 + 29 ∧ a + 13 + 29 < _; omega
  · unfold XO
    rw [XC_R (by omega)]
    have hb := XR_b (e := a + 13) (e2 := a + 699) (by omega) i (by omega)
    by_cases h4 : i < 467
    · have := hb.2.2.1 h4
      left; omega
    · right
      have e : XR (a + 13) (a + 699) i = a + 699 + 4 * ((i - 467) / 3) + 1 + (i - 467) % 3 := by
        unfold XR
        rw [if_neg (by omega), if_neg (by omega), if_neg (by omega), if_neg h4]
      rw [e]; omega
  · unfold XO
    rw [XC_W]
    unfold XW
    split
    · left; omega
    · split
      · left; omega
      · right; omega
theorem CAo_fr {a : Nat} {h h' : vm_H} {g : og} (k : CAo a h g) (e : ∀ q, CR a q → h'.2 q = h.2 q) : CAo a h' g := by
  obtain ⟨ni, ri, G, ⟨u, k⟩, s⟩ := k
  exact ⟨ni, ri, G, ⟨u, CAu_cg k (fun q hq => e q (XO_own hq))⟩, s⟩
theorem AQ_r {a i : Nat} (h : i < 24) : AQ a i = a + 661 ∨ (a + 663 ≤ AQ a i ∧ AQ a i ≤ a + 685) := by
  unfold AQ Am
  split
  · exact Or.inl rfl
  · split
    · right; omega
    · split <;> (right; omega)
theorem AQ_r5 {a i : Nat} (h : i < 24) (h5 : i ≠ 5) : AQ a i = a + 661 ∨ (a + 663 ≤ AQ a i ∧ AQ a i < a + 685) := by
  unfold AQ Am
  repeat' split
  all_goals first | omega | (left; rfl)
theorem MDo_fr {a : Nat} {h h' : vm_H} (k : MDo a h) (e : ∀ q, a + 661 ≤ q → q < a + 685 → h'.2 q = h.2 q) : MDo a h' := by
  obtain ⟨nq, rq, k1, k2⟩ := k
  refine ⟨nq, rq, k1, MD_cg k2 (fun i hi h5 => ?_)⟩
  have h5 : i ≠ 5 := h5.resolve_right (by decide)
  have := AQ_r5 (a := a) hi h5
  exact e _ (by omega) (by omega)
theorem HA_fr {h h' : vm_H} {H : Nat} {A : Nat → Nat} (k : HA h H A) (e0 : h'.2 H = h.2 H) (e : ∀ i, i < 5 → h'.2 (A i) = h.2 (A i)) : HA h' H A := by
  obtain ⟨k0, ⟨f0, a0⟩, ⟨f1, a1⟩, ⟨f2, a2⟩, ⟨f3, a3⟩, ⟨b, f4, a4, v4⟩, ho⟩ := k
  exact ⟨e0.trans k0, ⟨f0, (e 0 (by decide)).trans a0⟩, ⟨f1, (e 1 (by decide)).trans a1⟩, ⟨f2, (e 2 (by decide)).trans a2⟩, ⟨f3, (e 3 (by decide)).trans a3⟩, ⟨b, f4, (e 4 (by decide)).trans a4, v4⟩, ho⟩
/-- what changes in an Oprf: each piece is as it was, or given anew -/
theorem OP_mk {a : Nat} {h h' : vm_H} {W W' : Nat → List Nat} {B B' : Nat → Nat → Nat} {V V' : Nat → Option Nat} {g g' : og} {S : Nat → Prop} (k : OPc a h W B V g) (F : fr h h' S) (n0 : ¬ S a) (n1 : ¬ S (a + 6)) (n2 : ¬ S (a + 696))
    (hb : ∀ j, j < 10 → (¬ S (a + oad j) ∧ B' j = B j) ∨ bv h' (oln j) (a + oad j) (B' j))
    (hw : ∀ j, j < 3 → (¬ S (a + rad j) ∧ ¬ S (a + rad j + 1) ∧ W' j = W j) ∨ rwl h' (a + rad j) (a + rad j + 1) (rln j) (W' j))
    (hh : (∀ i, i < 5 → ¬ S (a + 7 + i)) ∨ HA h' (a + 6) (fun i => a + 7 + i))
    (hg : ((∀ q, CR a q → ¬ S q) ∧ g' = g) ∨ CAo a h' g')
    (hq : (∀ q, a + 661 ≤ q → q < a + 685 → ¬ S q) ∨ MDo a h')
    (hv : ∀ j, j < 2 → (¬ S (a + 697 + j) ∧ V' j = V j) ∨ (la h' 14 (a + 697 + j) ∧ ∀ v, V' j = some v → nv h' 14 (a + 697 + j) v)) : OPc a h' W' B' V' g' := by
  obtain ⟨k0, k1, k2, k3, k4, k5, k6, k7, k8⟩ := k
  refine ⟨k0, (F.2 _ n0).trans k1, fun j hj => ?_, fun j hj => ?_, ?_, ?_, ?_, (F.2 _ n2).trans k7, fun j hj => ?_⟩
  · rcases hb j hj with ⟨z, e⟩ | z
    · rw [e]; exact fr_bv F (k2 j hj) z
    · exact z
  · rcases hw j hj with ⟨z, z2, e⟩ | z
    · rw [e]; exact rwl_fr (k3 j hj) F z z2
    · exact z
  · rcases hh with z | z
    · exact HA_fr k4 (F.2 _ n1) (fun i hi => F.2 _ (z i hi))
    · exact z
  · rcases hg with ⟨z, e⟩ | z
    · rw [e]; exact CAo_fr k5 (fun q hq => F.2 q (z q hq))
    · exact z
  · rcases hq with z | z
    · exact MDo_fr k6 (fun q h1 h2 => F.2 q (z q h1 h2))
    · exact z
  · rcases hv j hj with ⟨z, e⟩ | z
    · obtain ⟨l1, l2⟩ := k8 j hj
      exact ⟨fr_la F l1 z, fun v hv => fr_nv F (l2 v (by rw [← e]; exact hv)) z⟩
    · exact z
/-- cells outside change -/
theorem OP_out {a : Nat} {h h' : vm_H} {W : Nat → List Nat} {B : Nat → Nat → Nat} {V : Nat → Option Nat} {g : og} (k : OPc a h W B V g) (e : ∀ q, a ≤ q → q < a + 711 → h'.2 q = h.2 q) : OPc a h' W B V g := by
  obtain ⟨k0, k1, k2, k3, k4, k5, k6, k7, k8⟩ := k
  have bb : ∀ {n q : Nat} {c : Nat → Nat}, bv h n q c → h'.2 q = h.2 q → bv h' n q c := fun ⟨f, e, v⟩ z => ⟨f, z.trans e, v⟩
  refine ⟨k0, (e _ (by omega) (by omega)).trans k1, fun j hj => bb (k2 j hj) ?_, fun j hj => ?_, ?_, ?_, ?_, (e _ (by omega) (by omega)).trans k7, fun j hj => ?_⟩
  · have := oad_c hj
    exact e _ (by omega) (by omega)
  · have := rad_c hj
    obtain ⟨b, ⟨r1, r2, r3⟩, r4⟩ := k3 j hj
    exact ⟨b, ⟨(e _ (by omega) (by omega)).trans r1, bb r2 (e _ (by omega) (by omega)), r3⟩, r4⟩
  · exact HA_fr k4 (e _ (by omega) (by omega)) (fun i hi => e _ (by omega) (by omega))
  · exact CAo_fr k5 (fun q hq => e _ (by unfold CR at hq; omega) (by unfold CR at hq; omega))
  · exact MDo_fr k6 (fun q h1 h2 => e _ (by omega) (by omega))
  · obtain ⟨⟨f, l1⟩, l2⟩ := k8 j hj
    have z := e (a + 697 + j) (by omega) (by omega)
    refine ⟨⟨f, z.trans l1⟩, fun v hv => ?_⟩
    obtain ⟨f2, m1, m2⟩ := l2 v hv
    exact ⟨f2, z.trans m1, m2⟩
theorem OP_W {a : Nat} {h : vm_H} {W : Nat → List Nat} {B : Nat → Nat → Nat} {V : Nat → Option Nat} {g : og} (k : OPc a h W B V g) (j : Nat) : OPc a h (fu W j (W j)) B V g := by rw [fu_id]; exact k
theorem OP_B {a : Nat} {h : vm_H} {W : Nat → List Nat} {B : Nat → Nat → Nat} {V : Nat → Option Nat} {g : og} (k : OPc a h W B V g) (j : Nat) : OPc a h W (fu B j (B j)) V g := by rw [fu_id]; exact k
section
variable {a : Nat} {h : vm_H} {W : Nat → List Nat} {B : Nat → Nat → Nat} {V : Nat → Option Nat} {g : og}
theorem OP_t (k : OPc a h W B V g) : h.2 a = .inr (7, [.ref (a + 1), .ref (a + 2), .ref (a + 3), .ref (a + 4), .ref (a + 6), .ref (a + 12), .ref (a + 661), .ref (a + 685), .ref (a + 687), .ref (a + 689), .ref (a + 690), .ref (a + 691), .ref (a + 692), .ref (a + 693), .ref (a + 694), .ref (a + 695), .ref (a + 696), .ref (a + 699), .ref (a + 703), .ref (a + 707)]) := k.2.1
theorem OP_b (k : OPc a h W B V g) {j : Nat} (hj : j < 10) : bv h (oln j) (a + oad j) (B j) := k.2.2.1 j hj
theorem OP_w (k : OPc a h W B V g) {j : Nat} (hj : j < 3) : rwl h (a + rad j) (a + rad j + 1) (rln j) (W j) := k.2.2.2.1 j hj
theorem OP_ro (k : OPc a h W B V g) {j : Nat} (hj : j < 3) : h.2 (a + rad j) = .inr (9, [.ref (a + rad j + 1), .int (nI (W j).length)]) := by
  obtain ⟨b, r, _⟩ := k.2.2.2.1 j hj
  exact r.1
theorem OP_H (k : OPc a h W B V g) : HA h (a + 6) (fun i => a + 7 + i) := k.2.2.2.2.1
theorem OP_C (k : OPc a h W B V g) : CAo a h g := k.2.2.2.2.2.1
theorem OP_Co (k : OPc a h W B V g) : h.2 (a + 12) = .inr (2, [.ref (a + 13), .ref (a + 38), .ref (a + 42), .ref (a + 43), .ref (a + 44), .ref (a + 45), .ref (a + 46), .ref (a + 47), .ref (a + 48), .ref (a + 49), .ref (a + 58)]) := by
  obtain ⟨ni, ri, G, ⟨u, k5⟩, _⟩ := k.2.2.2.2.2.1
  exact k5.2.1.1
theorem OP_M (k : OPc a h W B V g) : MDo a h := k.2.2.2.2.2.2.1
theorem OP_n (k : OPc a h W B V g) : h.2 (a + 696) = .inl (.array .long, 2, .inr (.inr (.inr (.inr (fun j => if j < 2 then some (a + 696 + 1 + j) else none))))) := k.2.2.2.2.2.2.2.1
theorem OP_v (k : OPc a h W B V g) {j : Nat} (hj : j < 2) : la h 14 (a + 697 + j) ∧ ∀ v, V j = some v → nv h 14 (a + 697 + j) v := k.2.2.2.2.2.2.2.2 j hj
end
