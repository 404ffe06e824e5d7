/-! Curve.combine -/
def cs (Pk : Nat → Option (fq × fq)) (f : Nat → Nat) : Nat → Option (fq × fq)
  | 0 => none
  | k + 1 => ecA (-3) fiv (cs Pk f k) (ecM (-3) fiv (f k) (Pk k))
theorem cs_o {Pk : Nat → Option (fq × fq)} {f : Nat → Nat} : ∀ n, (∀ k, k < n → ecO (-3) (fz (cB : Int)) (Pk k)) → ecO (-3) (fz (cB : Int)) (cs Pk f n)
  | 0, _ => trivial
  | n + 1, h => ecO_A cK (cs_o n (fun k hk => h k (by omega))) (ecO_M cK (h n (by omega)) _)
theorem cs_add {Pk : Nat → Option (fq × fq)} {f g : Nat → Nat} : ∀ n, (∀ k, k < n → ecO (-3) (fz (cB : Int)) (Pk k)) → ecA (-3) fiv (cs Pk f n) (cs Pk g n) = cs Pk (fun k => f k + g k) n
  | 0, _ => rfl
  | n + 1, h => by
    have hn := fun k (hk : k < n) => h k (by omega)
    have o := h n (by omega)
    show ecA (-3) fiv (ecA (-3) fiv (cs Pk f n) (ecM (-3) fiv (f n) (Pk n))) (ecA (-3) fiv (cs Pk g n) (ecM (-3) fiv (g n) (Pk n))) = ecA (-3) fiv (cs Pk (fun k => f k + g k) n) (ecM (-3) fiv (f n + g n) (Pk n))
    rw [ecA_swap cK (cs_o n hn) (ecO_M cK o _) (cs_o n hn) (ecO_M cK o _), cs_add n hn, ← ecM_add cK o]
theorem cs_mul {Pk : Nat → Option (fq × fq)} {f : Nat → Nat} (m : Nat) : ∀ n, (∀ k, k < n → ecO (-3) (fz (cB : Int)) (Pk k)) → ecM (-3) fiv m (cs Pk f n) = cs Pk (fun k => m * f k) n
  | 0, _ => ecM_none m
  | n + 1, h => by
    have hn := fun k (hk : k < n) => h k (by omega)
    have o := h n (by omega)
    show ecM (-3) fiv m (ecA (-3) fiv (cs Pk f n) (ecM (-3) fiv (f n) (Pk n))) = ecA (-3) fiv (cs Pk (fun k => m * f k) n) (ecM (-3) fiv (m * f n) (Pk n))
    rw [ecM_dist cK (cs_o n hn) (ecO_M cK o _), cs_mul m n hn, ← ecM_mul cK o]
theorem cs_cg {Pk : Nat → Option (fq × fq)} {f g : Nat → Nat} : ∀ n, (∀ k, k < n → f k = g k) → cs Pk f n = cs Pk g n
  | 0, _ => rfl
  | n + 1, h => by
    show ecA (-3) fiv (cs Pk f n) (ecM (-3) fiv (f n) (Pk n)) = ecA (-3) fiv (cs Pk g n) (ecM (-3) fiv (g n) (Pk n))
    rw [cs_cg n (fun k hk => h k (by omega)), h n (by omega)]
theorem cs_0 {Pk : Nat → Option (fq × fq)} {f : Nat → Nat} : ∀ n, (∀ k, k < n → f k = 0) → cs Pk f n = none
  | 0, _ => rfl
  | n + 1, h => by
    show ecA (-3) fiv (cs Pk f n) (ecM (-3) fiv (f n) (Pk n)) = none
    rw [cs_0 n (fun k hk => h k (by omega)), h n (by omega)]; rfl
theorem gup_gup {g : Nat → Option (Option (fq × fq))} {r : Nat} {a b : Option (Option (fq × fq))} : gup (gup g r a) r b = gup g r b := by
  funext k
  unfold gup
  split <;> rfl
def CZ (n : Nat) (X : Nat → Nat) (h : vm_H) (g : Nat → Option (Option (fq × fq))) (r : Nat) : Prop := ∃ u, CAu n X h g u ∧ ∃ z, u (14 + 3 * r + 2) = some z ∧ fz z = 0
/-- point r is acc; or acc is none, and only the z of r is known -/
def CB (n : Nat) (X : Nat → Nat) (h : vm_H) (g : Nat → Option (Option (fq × fq))) (r : Nat) (acc : Option (fq × fq)) : Prop := CA n X h (gup g r (some acc)) ∨ (g r = none ∧ acc = none ∧ CZ n X h (gup g r none) r)
theorem CB_st {n : Nat} {X : Nat → Nat} {h : vm_H} {g : Nat → Option (Option (fq × fq))} {r : Nat} {acc : Option (fq × fq)} (k : CB n X h g r acc) : CSt n X h := by
  rcases k with k | ⟨_, _, u, k, _⟩
  · exact CA_st k
  · exact k.2.1
theorem CB_rg {n : Nat} {X : Nat → Nat} {h : vm_H} {g : Nat → Option (Option (fq × fq))} {r : Nat} {acc : Option (fq × fq)} (k : CB n X h g r acc) : ∃ u, RGX n X h u := by
  rcases k with ⟨u, k⟩ | ⟨_, _, u, k, _⟩
  · exact ⟨u, k.1⟩
  · exact ⟨u, k.1⟩
theorem jr_z {F : Type} [Lean.Grind.CommRing F] {X Y Z : F} {p : Option (F × F)} (h : jr X Y Z p) : Z = 0 ↔ p = none := by
  rcases h with ⟨h1, h2⟩ | ⟨h1, x, y, h2, _⟩
  · exact ⟨fun _ => h2, fun _ => h1⟩
  · exact ⟨fun z => absurd z h1, fun z => by rw [h2] at z; cases z⟩
section
variable {l : Launch} {O : Nat → vm_Ob} {f9 : Value}
theorem b_isz {n : Nat} {X : Nat → Nat} {h : vm_H} {g : Nat → Option (Option (fq × fq))} {r : Nat} {acc : Option (fq × fq)} (k : CB n X h g r acc) (hr : r < n) :
    vm_Met (vm_env l O f9) mX6_isZero 0 0 [.ref (X 0), .ref (X (100 + (14 + 3 * r + 2)))] h (fun e h' => (∃ w : Int32, e = some (.int w) ∧ (w = 0 ↔ acc ≠ none)) ∧ h' = h) := by
  have key : ∃ (u : Nat → Option Int) (z : Int), RGX n X h u ∧ u (14 + 3 * r + 2) = some z ∧ (fz z = 0 ↔ acc = none) := by
    rcases k with ⟨u, k1, k2, k3, k4⟩ | ⟨_, e, u, k, z, hz, z0⟩
    · obtain ⟨x, y, z, a1, a2, a3, jp, _⟩ := k4 r hr acc gup_e
      exact ⟨u, z, k1, a3, jr_z jp⟩
    · exact ⟨u, z, k.1, hz, fun _ => e, fun _ => z0⟩
  obtain ⟨u, z, k1, hz, hi⟩ := key
  refine vm_metP (r_isz k1 (RG_r k1 (by omega) hz)) ?_
  rintro e h' ⟨rfl, rfl⟩
  refine ⟨⟨_, rfl, ?_⟩, rfl⟩
  rw [if10, fz_P]
  exact ⟨fun w q => w (hi.mpr q), fun w q => w (hi.mp q)⟩
theorem b_zero {n : Nat} {X : Nat → Nat} {h : vm_H} {g : Nat → Option (Option (fq × fq))} {r : Nat} (k : CA n X h g) (hr : r < n) :
    vm_Met (vm_env l O f9) mX6_copy 0 0 [.ref (X 0), .ref (X 108), .ref (X (100 + (14 + 3 * r + 2)))] h (fun e h' => e = none ∧ CB n X h' g r none ∧ fr h h' (AG n X)) := by
  obtain ⟨u, hk⟩ := k
  have hk' := hk
  obtain ⟨k1, k2, k3, k4⟩ := hk
  refine vm_metP (r_copy k1 (RG_r k1 (i := 8) (by omega) k3.1) (c := 14 + 3 * r + 2) (by omega)) ?_
  rintro _ h' ⟨rfl, k', F⟩
  refine ⟨rfl, ?_, F⟩
  cases hg : g r with
  | none =>
    refine Or.inr ⟨hg, rfl, _, CA_set hk' k' F (fun i h8 _ hi => up1_n (by omega)) (fun p e => by cases e), 0, up1_e, fz_0⟩
  | some p =>
    obtain ⟨x, y, z, a1, a2, a3, jp, _⟩ := k4 r hr p hg
    refine Or.inl ⟨_, CA_set hk' k' F (fun i h8 _ hi => up1_n (by omega)) (fun p e => ?_)⟩
    cases e
    refine ⟨x, y, 0, ?_, ?_, up1_e, Or.inl ⟨fz_0, rfl⟩, trivial⟩
    · rw [up1_n (by omega)]; exact a1
    · rw [up1_n (by omega)]; exact a2
theorem b_dbl {n : Nat} {X : Nat → Nat} {h : vm_H} {g : Nat → Option (Option (fq × fq))} {r : Nat} {acc : Option (fq × fq)} (k : CB n X h g r acc) (hr : r < n) (ha : acc ≠ none) :
    vm_Met (vm_env l O f9) mX2_twice 0 0 [.ref (X 24), .ref (X (1000 + r)), .ref (X (1000 + r))] h (fun e h' => e = none ∧ CB n X h' g r (ecA (-3) fiv acc acc) ∧ fr h h' (AG n X)) := by
  rcases k with k | ⟨_, e, _⟩
  · refine vm_metP (a_twice k hr hr gup_e) ?_
    rintro _ h' ⟨rfl, k', F⟩
    rw [gup_gup] at k'
    exact ⟨rfl, Or.inl k', F⟩
  · exact absurd e ha
theorem b_add {n : Nat} {X : Nat → Nat} {h : vm_H} {g : Nat → Option (Option (fq × fq))} {r q : Nat} {acc p : Option (fq × fq)} (k : CB n X h g r acc) (hr : r < n) (hq : q < n) (hrq : r ≠ q) (hp : g q = some p) :
    vm_Met (vm_env l O f9) mX2_add 0 0 [.ref (X 24), .ref (X (1000 + r)), .ref (X (1000 + q)), .ref (X (1000 + r))] h (fun e h' => e = none ∧ CB n X h' g r (ecA (-3) fiv acc p) ∧ fr h h' (AG n X)) := by
  rcases k with k | ⟨_, e, u, hk, z, hz, z0⟩
  · refine vm_metP (a_add (p3 := acc) k hr hq hr hrq (Ne.symm hrq) gup_e (by rw [gup_n (Ne.symm hrq)]; exact hp) gup_e) ?_
    rintro _ h' ⟨rfl, k', F⟩
    rw [gup_gup] at k'
    exact ⟨rfl, Or.inl k', F⟩
  · subst e
    have hk' := hk
    obtain ⟨k1, ⟨s1, s2, s3', s4, s5⟩, k3, k4⟩ := hk
    obtain ⟨x2, y2, z2, b1, b2, b3, jp2, op2⟩ := k4 q hq p (by rw [gup_n (Ne.symm hrq)]; exact hp)
    refine vm_met rfl (Nat.le_of_ble_eq_true rfl) ?_
    refine vm_go rfl bX2_add_0 oX2_add_0 ⟨_, _, s1, rfl, ⟨_, _, s4 r hr, rfl, ⟨(RG_0 k1).choose, (RG_0 k1).choose_spec, 0, 0, _, r_isz k1 (RG_r k1 (i := 14 + 3 * r + 2) (by omega) hz), Nat.zero_le _, Nat.zero_le _, ?_⟩⟩⟩
    rintro _ h1 ⟨rfl, rfl⟩
    refine ⟨fun _ => ?_, fun w => absurd ((fz_P z).mpr z0) (if10.mp w)⟩
    refine vm_go rfl bX2_add_30 oX2_add_30 ⟨_, _, s4 r hr, rfl, ⟨(RG_0 k1).choose, (RG_0 k1).choose_spec, 0, 0, _, r_isz k1 (RG_r k1 (i := 14 + 3 * r + 2) (by omega) hz), Nat.zero_le _, Nat.zero_le _, ?_⟩⟩
    rintro _ h1 ⟨rfl, rfl⟩
    refine ⟨fun w => absurd ((fz_P z).mpr z0) (if10.mp w), fun _ => ?_⟩
    refine vm_go rfl bX2_add_48 oX2_add_48 ⟨_, s1, 0, 0, _, a_cpy ⟨u, hk'⟩ hq hr (by rw [gup_n (Ne.symm hrq)]; exact hp), Nat.zero_le _, Nat.zero_le _, ?_⟩
    rintro _ h2 ⟨rfl, k', F⟩
    rw [gup_gup] at k'
    exact ⟨rfl, Or.inl k', F⟩
end
