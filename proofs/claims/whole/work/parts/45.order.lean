/-! the base has order Q, and so has every point -/
def gI : Int × Int × Int := ((cGX : Int), (cGY : Int), 1)
def rI (z : Int) : Int := z % ((cPm + 1 : Nat) : Int)
theorem fz_r (z : Int) : fz (rI z) = fz z := by
  unfold rI
  rw [fz_eq, Int.emod_emod_of_dvd _ (Int.dvd_refl _)]
def d2I (m x3 bt g Y Z : Int) : Int × Int × Int := (x3, rI (m * (4 * bt - x3) - 8 * (g * g)), rI (2 * (Y * Z)))
def d1I (m bt g Y Z : Int) : Int × Int × Int := d2I m (rI (m * m - 8 * bt)) bt g Y Z
def d0I (m g X Y Z : Int) : Int × Int × Int := d1I m (rI (X * g)) g Y Z
def dI (X Y Z : Int) : Int × Int × Int := d0I (rI (3 * ((X - Z * Z) * (X + Z * Z)))) (rI (Y * Y)) X Y Z
def a2I (x3 H D U S Z : Int) : Option (Int × Int × Int) := if H = 0 then none else some (x3, rI (D * (U * (H * H) - x3) - S * (H * (H * H))), rI (Z * H))
def a1I (H D U S Z : Int) : Option (Int × Int × Int) := a2I (rI (D * D - H * (H * H) - U * (H * H) - U * (H * H))) H D U S Z
def aI (X Y Z : Int) : Option (Int × Int × Int) := if Z = 0 then some gI else a1I (rI (cGX * (Z * Z) - X)) (rI (cGY * Z * (Z * Z) - Y)) X Y Z
def oI : Option (Int × Int × Int) → Option (Int × Int × Int)
  | none => none
  | some t => some (dI t.1 t.2.1 t.2.2)
def pI : Option (Int × Int × Int) → Option (Int × Int × Int)
  | none => none
  | some t => aI t.1 t.2.1 t.2.2
def qI : Nat → Nat → Option (Int × Int × Int)
  | 0, _ => some (1, 1, 0)
  | k + 1, e => if e % 2 = 1 then pI (oI (qI k (e / 2))) else oI (qI k (e / 2))
def qc : Option (Int × Int × Int) → Bool
  | none => false
  | some t => decide (t.2.2 ≠ 0) && decide (rI t.2.2 = t.2.2) && decide (rI (cGX * (t.2.2 * t.2.2) - t.1) = 0) && decide (rI (cGY * t.2.2 * (t.2.2 * t.2.2) - t.2.1) ≠ 0)
set_option maxRecDepth 8000 in
theorem qc_t : qc (qI 384 (cQ - 1)) = true := by decide +kernel
theorem fz_2' : fz 2 = 2 := fz_i rfl
theorem fz_3' : fz 3 = 3 := fz_i rfl
theorem fz_4' : fz 4 = 4 := fz_i rfl
theorem fz_8' : fz 8 = 8 := fz_i rfl
theorem j_z {F : Type} [Lean.Grind.CommRing F] (Y Z : F) : 2 * (Y * Z) = jdZ Y Z := by unfold jdZ; grind
theorem dI_e (X Y Z : Int) : fz (dI X Y Z).1 = jdX (fz X) (fz Y) (fz Z) ∧ fz (dI X Y Z).2.1 = jdY (fz X) (fz Y) (fz Z) ∧ fz (dI X Y Z).2.2 = jdZ (fz Y) (fz Z) := by
  unfold dI d0I d1I d2I
  dsimp only
  simp only [fz_r, fz_mul, fz_sub, fz_add, fz_2', fz_3', fz_4', fz_8']
  exact ⟨rfl, rfl, j_z _ _⟩
theorem jm_1 {F : Type} [Lean.Grind.CommRing F] {G X Z : F} : G * (Z * Z) - X = jaH X Z G 1 := by unfold jaH; grind
theorem jm_2 {F : Type} [Lean.Grind.CommRing F] {G Y Z : F} : G * Z * (Z * Z) - Y = jaD Y Z G 1 := by unfold jaD; grind
theorem jm_3 {F : Type} [Lean.Grind.CommRing F] {X : F} : X * (1 * 1) = X := by grind
theorem jm_4 {F : Type} [Lean.Grind.CommRing F] {X : F} : X * 1 * (1 * 1) = X := by grind
theorem jm_5 {F : Type} [Lean.Grind.CommRing F] {Z H : F} : Z * 1 * H = Z * H := by grind
def gP : Option (fq × fq) := some (fz (cGX : Int), fz (cGY : Int))
theorem gP_o : ecO (-3) (fz (cB : Int)) gP := by
  show fz (cGY : Int) * fz (cGY : Int) = fz (cGX : Int) * fz (cGX : Int) * fz (cGX : Int) + -3 * fz (cGX : Int) + fz (cB : Int)
  have e : (-3 : fq) = fz (-3) := by rw [fz_neg, fz_3']
  rw [e, ← fz_mul, ← fz_mul, ← fz_mul, ← fz_mul, ← fz_add, ← fz_add, fz_eq]
  decide +kernel
theorem jm_6 {F : Type} [Lean.Grind.CommRing F] {X Y : F} (h : (1 : F) ≠ 0) : jr X Y 1 (some (X, Y)) := Or.inr ⟨h, X, Y, rfl, by grind, by grind⟩
theorem fq_one : (1 : fq) ≠ 0 := by decide
theorem gP_j : jr (fz (cGX : Int)) (fz (cGY : Int)) 1 gP := jm_6 fq_one
theorem rI_z (z : Int) : rI z = 0 ↔ fz z = 0 := (fz_z z).symm
theorem aI_e {X Y Z : Int} {t : Int × Int × Int} {p : Option (fq × fq)} (hp : ecO (-3) (fz (cB : Int)) p) (h : jr (fz X) (fz Y) (fz Z) p) (hz : Z = 0 ∨ fz Z ≠ 0) (ha : aI X Y Z = some t) : jr (fz t.1) (fz t.2.1) (fz t.2.2) (ecA (-3) fiv p gP) := by
  unfold aI at ha
  by_cases q : Z = 0
  · rw [if_pos q] at ha
    obtain rfl := Option.some.inj ha
    subst q
    rcases h with ⟨_, rfl⟩ | ⟨h, _⟩
    · show jr (fz (cGX : Int)) (fz (cGY : Int)) (fz 1) gP
      rw [fz_1]; exact gP_j
    · exact absurd fz_0 h
  · rw [if_neg q] at ha
    have hz : fz Z ≠ 0 := hz.resolve_left q
    unfold a1I a2I at ha
    split at ha
    · exact absurd ha (by simp)
    · rename_i hH
      rw [rI_z] at hH
      obtain rfl := Option.some.inj ha
      dsimp only
      simp only [fz_r, fz_mul, fz_sub] at hH ⊢
      rw [jm_1] at hH
      rw [jm_2, jm_1]
      have := (jr_add cK hp gP_o h gP_j hz fq_one).1 hH
      rw [jm_3, jm_4, jm_5] at this
      exact this
theorem rI_n {z : Int} (h : rI z = z) (hz : z ≠ 0) : fz z ≠ 0 := by
  intro e
  rw [← rI_z, h] at e
  exact hz e
theorem rI_i (z : Int) : rI (rI z) = rI z := Int.emod_emod_of_dvd _ (Int.dvd_refl _)
theorem dI_n (X Y Z : Int) : rI (dI X Y Z).2.2 = (dI X Y Z).2.2 := rI_i _
theorem aI_n {X Y Z : Int} {t : Int × Int × Int} (h : aI X Y Z = some t) : rI t.2.2 = t.2.2 := by
  unfold aI a1I a2I at h
  split at h
  · obtain rfl := Option.some.inj h
    decide +kernel
  · split at h
    · exact absurd h (by simp)
    · obtain rfl := Option.some.inj h
      exact rI_i _
theorem qI_e : ∀ (k e : Nat) (t : Int × Int × Int), e < 2 ^ k → qI k e = some t → jr (fz t.1) (fz t.2.1) (fz t.2.2) (ecM (-3) fiv e gP) ∧ rI t.2.2 = t.2.2
  | 0, e, t, h, ht => by
    have : e = 0 := by rw [Nat.pow_zero] at h; omega
    subst this
    obtain rfl := Option.some.inj ht
    exact ⟨Or.inl ⟨fz_0, rfl⟩, by decide +kernel⟩
  | k + 1, e, t, h, ht => by
    have hk : e / 2 < 2 ^ k := by rw [Nat.pow_succ] at h; omega
    unfold qI at ht
    have oM := fun i => ecO_M cK gP_o i
    cases hq : qI k (e / 2) with
    | none =>
      rw [hq] at ht
      split at ht <;> exact absurd ht (by simp [oI, pI])
    | some u =>
      obtain ⟨ih, ihn⟩ := qI_e k (e / 2) u hk hq
      rw [hq] at ht
      have hd := jr_dbl cK (oM (e / 2)) ih
      obtain ⟨d1, d2, d3⟩ := dI_e u.1 u.2.1 u.2.2
      rw [← d1, ← d2, ← d3, ← ecM_add cK gP_o] at hd
      have hn := dI_n u.1 u.2.1 u.2.2
      split at ht
      · rename_i q
        have ht : aI (dI u.1 u.2.1 u.2.2).1 (dI u.1 u.2.1 u.2.2).2.1 (dI u.1 u.2.1 u.2.2).2.2 = some t := ht
        have := aI_e (oM _) hd (by
          by_cases z : (dI u.1 u.2.1 u.2.2).2.2 = 0
          · exact Or.inl z
          · exact Or.inr (rI_n hn z)) ht
        refine ⟨?_, aI_n ht⟩
        have e2 : e = (e / 2 + e / 2) + 1 := by omega
        rw [e2]
        exact this
      · rename_i q
        obtain rfl := Option.some.inj ht
        refine ⟨?_, hn⟩
        have e2 : e / 2 + e / 2 = e := by omega
        rw [e2] at hd
        exact hd
theorem gP_q : ecM (-3) fiv cQ gP = none := by
  have h := qc_t
  cases hq : qI 384 (cQ - 1) with
  | none => rw [hq] at h; exact absurd h (by decide)
  | some t =>
    rw [hq] at h
    have h : (decide (t.2.2 ≠ 0) && decide (rI t.2.2 = t.2.2) && decide (rI (cGX * (t.2.2 * t.2.2) - t.1) = 0) && decide (rI (cGY * t.2.2 * (t.2.2 * t.2.2) - t.2.1) ≠ 0)) = true := h
    simp only [Bool.and_eq_true, decide_eq_true_eq] at h
    obtain ⟨⟨⟨h1, h2⟩, h3⟩, h4⟩ := h
    obtain ⟨ih, _⟩ := qI_e 384 (cQ - 1) t (by decide +kernel) hq
    have h4 : ¬ rI (cGY * t.2.2 * (t.2.2 * t.2.2) - t.2.1) = 0 := h4
    rw [rI_z] at h3 h4
    simp only [fz_mul, fz_sub] at h3 h4
    rw [jm_1] at h3
    rw [jm_2] at h4
    have := (jr_add cK (ecO_M cK gP_o _) gP_o ih gP_j (rI_n h2 h1) fq_one).2.2 h3 h4
    have e : cQ = (cQ - 1) + 1 := rfl
    rw [e]
    exact this
/-- a code for points: below 2 P + 1 -/
def ecd : Option (fq × fq) → Nat
  | none => 0
  | some p => 1 + (2 * p.1.val + p.2.val % 2)
theorem ecd_lt (p : Option (fq × fq)) : ecd p < 2 * (cPm + 1) + 1 := by
  rcases p with _ | ⟨x, y⟩
  · show 0 < _; omega
  · show 1 + (2 * x.val + y.val % 2) < _
    have := x.isLt
    omega
theorem sub_z {F : Type} [Lean.Grind.CommRing F] {x y : F} (h : x - y = 0) : x = y := by grind
theorem ec_sq {F : Type} [Lean.Grind.CommRing F] {a b x y z : F} (h1 : ecC a b x y) (h2 : ecC a b x z) : (y - z) * (y + z) = 0 := by
  unfold ecC at *
  grind
theorem ecd_inj (p p' : Option (fq × fq)) (h : ecO (-3) (fz (cB : Int)) p) (h' : ecO (-3) (fz (cB : Int)) p') (e : ecd p = ecd p') : p = p' := by
  rcases p with _ | ⟨x, y⟩
  · rcases p' with _ | ⟨x', y'⟩
    · rfl
    · have e : 0 = 1 + (2 * x'.val + y'.val % 2) := e
      omega
  · rcases p' with _ | ⟨x', y'⟩
    · have e : 1 + (2 * x.val + y.val % 2) = 0 := e
      omega
    · have e : 1 + (2 * x.val + y.val % 2) = 1 + (2 * x'.val + y'.val % 2) := e
      have ex : x = x' := Fin.ext (by omega)
      subst ex
      have ey : y.val % 2 = y'.val % 2 := by omega
      have k := ec_sq (show ecC (-3) (fz (cB : Int)) x y from h) h'
      rcases fqf_D _ _ k with z | z
      · have : y = y' := by
          exact sub_z z
        rw [this]
      · exfalso
        have hy : y ≠ 0 := cK.2.2.2 _ _ h
        have v : (y.val + y'.val) % (cPm + 1) = 0 := by rw [← fqf_va, z]; rfl
        have y0 : y.val ≠ 0 := fun w => hy (Fin.ext w)
        have a1 := y.isLt
        have a2 := y'.isLt
        have ho : (cPm + 1) % 2 = 1 := by decide +kernel
        have : y.val + y'.val = cPm + 1 := by
          rcases Nat.lt_or_ge (y.val + y'.val) (cPm + 1) with w | w
          · rw [Nat.mod_eq_of_lt w] at v; omega
          · rw [Nat.mod_eq_sub_mod w, Nat.mod_eq_of_lt (by omega)] at v; omega
        omega
theorem ec_ord {p : Option (fq × fq)} (hp : ecO (-3) (fz (cB : Int)) p) : ecM (-3) fiv cQ p = none := by
  obtain ⟨k, rfl⟩ := ec_all cK gP_o pr_q (by decide +kernel) gP_q (by unfold gP; simp) ecd (fun p _ => ecd_lt p) ecd_inj (by decide +kernel) hp
  rw [← ecM_mul cK gP_o, Nat.mul_comm, ecM_mul cK gP_o, gP_q, ecM_none]
