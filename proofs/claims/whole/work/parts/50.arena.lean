/-! the curve's rows and points as a whole. X gives every address: 0 to 23 the Field, 24 the Curve, 25 its t, 26 its table, 27 its root, 30 and 31 two numbers, 100 on the rows, 1000 on the Points -/
def gup (g : Nat → Option (Option (fq × fq))) (j : Nat) (p : Option (Option (fq × fq))) (k : Nat) : Option (Option (fq × fq)) := if k = j then p else g k
def PTu (u : Nat → Option Int) (k : Nat) (p : Option (fq × fq)) : Prop := ∃ x y z : Int, u (14 + 3 * k) = some x ∧ u (14 + 3 * k + 1) = some y ∧ u (14 + 3 * k + 2) = some z ∧ jr (fz x) (fz y) (fz z) p ∧ ecO (-3) (fz (cB : Int)) p
def CSt (n : Nat) (X : Nat → Nat) (h : vm_H) : Prop :=
  h.2 (X 24) = .inr (2, [.ref (X 0), .ref (X 1000), .ref (X 27), .ref (X 108), .ref (X 109), .ref (X 110), .ref (X 111), .ref (X 112), .ref (X 113), .ref (X 25), .ref (X 26)]) ∧
  h.2 (X 25) = .inl (.array .long, 8, .inr (.inr (.inr (.inr (fun j => if j < 8 then some (X (100 + j)) else none))))) ∧
  h.2 (X 26) = .inl (.object "VeilMint$Point", 150, .inr (.inr (.inr (.inr (fun j => if j < 150 then some (X (1001 + j)) else none))))) ∧
  (∀ k, k < n → h.2 (X (1000 + k)) = .inr (8, [.ref (X (100 + (14 + 3 * k))), .ref (X (100 + (14 + 3 * k + 1))), .ref (X (100 + (14 + 3 * k + 2)))])) ∧
  ∃ rb : Nat → Nat, bv h 48 (X 27) rb ∧ bn rb 0 48 * 4 = cP + 1
abbrev RGX (n : Nat) (X : Nat → Nat) (h : vm_H) (u : Nat → Option Int) : Prop := RG (14 + 3 * n) X (fun i => X (100 + i)) (X 30) (X 31) h u
def AG (n : Nat) (X : Nat → Nat) (q : Nat) : Prop := AR (14 + 3 * n) X (fun i => X (100 + i)) q
def CC (u : Nat → Option Int) : Prop := u 8 = some 0 ∧ (∃ b, u 9 = some b ∧ fz b = fz (cB : Int)) ∧ (∃ b, u 10 = some b ∧ fz b = 12) ∧ (∃ b, u 11 = some b ∧ fz b * fz b = 12) ∧ (∃ b, u 12 = some b ∧ 3 * fz b = fz (cB : Int)) ∧ ∃ b, u 13 = some b ∧ 36 * fz b = fz (cB : Int)
def CAu (n : Nat) (X : Nat → Nat) (h : vm_H) (g : Nat → Option (Option (fq × fq))) (u : Nat → Option Int) : Prop :=
  RGX n X h u ∧ CSt n X h ∧ CC u ∧ ∀ k, k < n → ∀ p, g k = some p → PTu u k p
def CA (n : Nat) (X : Nat → Nat) (h : vm_H) (g : Nat → Option (Option (fq × fq))) : Prop := ∃ u, CAu n X h g u
theorem CSt_fr {n : Nat} {X : Nat → Nat} {h h' : vm_H} {u : Nat → Option Int} (k : RGX n X h u) (s : CSt n X h) (F : fr h h' (AG n X)) : CSt n X h' := by
  obtain ⟨s1, s2, s3, s4, rb, s5, s6⟩ := s
  exact ⟨AR_ob k F s1, AR_aa k F s2, AR_aa k F s3, fun i hi => AR_ob k F (s4 i hi), rb, AR_bv k F s5, s6⟩
theorem CC_cg {u w : Nat → Option Int} (c : CC u) (h : ∀ i, 8 ≤ i → i < 14 → w i = u i) : CC w := by
  obtain ⟨c1, ⟨b2, c2, d2⟩, ⟨b3, c3, d3⟩, ⟨b4, c4, d4⟩, ⟨b5, c5, d5⟩, ⟨b6, c6, d6⟩⟩ := c
  exact ⟨(h 8 (by decide) (by decide)).trans c1, ⟨b2, (h 9 (by decide) (by decide)).trans c2, d2⟩, ⟨b3, (h 10 (by decide) (by decide)).trans c3, d3⟩, ⟨b4, (h 11 (by decide) (by decide)).trans c4, d4⟩, ⟨b5, (h 12 (by decide) (by decide)).trans c5, d5⟩, ⟨b6, (h 13 (by decide) (by decide)).trans c6, d6⟩⟩
/-- point j is new, all other rows but the first eight are as they were -/
theorem CA_set {n : Nat} {X : Nat → Nat} {h h' : vm_H} {g : Nat → Option (Option (fq × fq))} {u w : Nat → Option Int} {j : Nat} {p' : Option (Option (fq × fq))} (k : CAu n X h g u) (k' : RGX n X h' w) (F : fr h h' (AG n X)) (hw : ∀ i, 8 ≤ i → i < 14 + 3 * n → i < 14 + 3 * j ∨ 16 + 3 * j < i → w i = u i) (hv : ∀ p, p' = some p → PTu w j p) : CAu n X h' (gup g j p') w := by
  obtain ⟨k1, k2, k3, k4⟩ := k
  refine ⟨k', CSt_fr k1 k2 F, CC_cg k3 (fun i h8 h14 => hw i h8 (by omega) (by omega)), fun i hi p hp => ?_⟩
  unfold gup at hp
  by_cases e : i = j
  · rw [if_pos e] at hp; rw [e]; exact hv p hp
  · rw [if_neg e] at hp
    obtain ⟨x, y, z, a1, a2, a3, a4⟩ := k4 i hi p hp
    exact ⟨x, y, z, (hw _ (by omega) (by omega) (by omega)).trans a1, (hw _ (by omega) (by omega) (by omega)).trans a2, (hw _ (by omega) (by omega) (by omega)).trans a3, a4⟩
/-- rows of the point's registers put into the whole file -/
def wj (u : Nat → Option Int) (j : Nat) (x y z : Int) (i : Nat) : Option Int := if i < 8 then none else if i = 14 + 3 * j then some x else if i = 14 + 3 * j + 1 then some y else if i = 14 + 3 * j + 2 then some z else u i
theorem wj_n {u : Nat → Option Int} {j : Nat} {x y z : Int} {i : Nat} (h8 : 8 ≤ i) (h : i < 14 + 3 * j ∨ 16 + 3 * j < i) : wj u j x y z i = u i := by
  unfold wj
  rw [if_neg (by omega), if_neg (by omega), if_neg (by omega), if_neg (by omega)]
theorem wj_p {u : Nat → Option Int} {j : Nat} {x y z : Int} {p : Option (fq × fq)} (h : jr (fz x) (fz y) (fz z) p) (ho : ecO (-3) (fz (cB : Int)) p) : PTu (wj u j x y z) j p := by
  refine ⟨x, y, z, ?_, ?_, ?_, h, ho⟩
  · unfold wj; rw [if_neg (by omega), if_pos rfl]
  · unfold wj; rw [if_neg (by omega), if_neg (by omega), if_pos rfl]
  · unfold wj; rw [if_neg (by omega), if_neg (by omega), if_neg (by omega), if_pos rfl]
/-- places of up to three points in a small file -/
def s3 (i j k q : Nat) : Nat := if q < 8 then q else if q < 11 then 14 + 3 * i + (q - 8) else if q < 14 then 14 + 3 * j + (q - 11) else 14 + 3 * k + (q - 14)
theorem s3_lt {n i j k m : Nat} (hm : m ≤ 17) (hi : i < n) (hj : j < n) (hk : k < n) : ∀ q, q < m → s3 i j k q < 14 + 3 * n := by
  intro q hq
  unfold s3
  repeat' split
  all_goals omega
theorem s3_inj {i j k m : Nat} (hm : m ≤ 17) (hij : 11 < m → i ≠ j) (hik : 14 < m → i ≠ k ∧ j ≠ k) : ∀ q r, q < m → r < m → s3 i j k q = s3 i j k r → q = r := by
  intro q r hq hr h
  unfold s3 at h
  repeat' split at h
  all_goals omega
