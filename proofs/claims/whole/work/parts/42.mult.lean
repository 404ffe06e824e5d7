/-! multiples of points -/
def ecM {F : Type} [Lean.Grind.CommRing F] [DecidableEq F] (a : F) (iv : F → F) : Nat → Option (F × F) → Option (F × F)
  | 0, _ => none
  | n + 1, p => ecA a iv (ecM a iv n p) p
theorem ecA_0 {F : Type} [Lean.Grind.CommRing F] [DecidableEq F] {a : F} {iv : F → F} (p : Option (F × F)) : ecA a iv p none = p := by
  rcases p with _ | p <;> rfl
theorem ecO_M {F : Type} [Lean.Grind.CommRing F] [DecidableEq F] {a b : F} {iv : F → F} (hK : ecK a b iv) {p : Option (F × F)} (hp : ecO a b p) : ∀ n, ecO a b (ecM a iv n p)
  | 0 => trivial
  | n + 1 => ecO_A hK (ecO_M hK hp n) hp
theorem ecM_none {F : Type} [Lean.Grind.CommRing F] [DecidableEq F] {a : F} {iv : F → F} : ∀ n, ecM a iv n none = none
  | 0 => rfl
  | n + 1 => by unfold ecM; rw [ecM_none n]; rfl
theorem ecM_1 {F : Type} [Lean.Grind.CommRing F] [DecidableEq F] {a : F} {iv : F → F} (p : Option (F × F)) : ecM a iv 1 p = p := rfl
theorem ecM_add {F : Type} [Lean.Grind.CommRing F] [DecidableEq F] {a b : F} {iv : F → F} (hK : ecK a b iv) {p : Option (F × F)} (hp : ecO a b p) (m : Nat) : ∀ n, ecM a iv (m + n) p = ecA a iv (ecM a iv m p) (ecM a iv n p)
  | 0 => by rw [Nat.add_zero]; exact (ecA_0 _).symm
  | n + 1 => by
    show ecA a iv (ecM a iv (m + n) p) p = ecA a iv (ecM a iv m p) (ecA a iv (ecM a iv n p) p)
    rw [ecM_add hK hp m n, ecA_assoc hK (ecO_M hK hp m) (ecO_M hK hp n) hp]
theorem ecM_mul {F : Type} [Lean.Grind.CommRing F] [DecidableEq F] {a b : F} {iv : F → F} (hK : ecK a b iv) {p : Option (F × F)} (hp : ecO a b p) (n : Nat) : ∀ m, ecM a iv (m * n) p = ecM a iv m (ecM a iv n p)
  | 0 => by rw [Nat.zero_mul]; rfl
  | m + 1 => by
    rw [Nat.succ_mul, ecM_add hK hp, ecM_mul hK hp n m]; rfl
theorem ecA_swap {F : Type} [Lean.Grind.CommRing F] [DecidableEq F] {a b : F} {iv : F → F} (hK : ecK a b iv) {p q r s : Option (F × F)} (hp : ecO a b p) (hq : ecO a b q) (hr : ecO a b r) (hs : ecO a b s) : ecA a iv (ecA a iv p q) (ecA a iv r s) = ecA a iv (ecA a iv p r) (ecA a iv q s) := by
  rw [ecA_assoc hK hp hq (ecO_A hK hr hs), ecA_assoc hK hp hr (ecO_A hK hq hs), ← ecA_assoc hK hq hr hs, ← ecA_assoc hK hr hq hs, ecA_comm hK hq hr]
theorem ecM_dist {F : Type} [Lean.Grind.CommRing F] [DecidableEq F] {a b : F} {iv : F → F} (hK : ecK a b iv) {p q : Option (F × F)} (hp : ecO a b p) (hq : ecO a b q) : ∀ n, ecM a iv n (ecA a iv p q) = ecA a iv (ecM a iv n p) (ecM a iv n q)
  | 0 => rfl
  | n + 1 => by
    show ecA a iv (ecM a iv n (ecA a iv p q)) (ecA a iv p q) = ecA a iv (ecA a iv (ecM a iv n p) p) (ecA a iv (ecM a iv n q) q)
    rw [ecM_dist hK hp hq n, ecA_swap hK (ecO_M hK hp n) (ecO_M hK hq n) hp hq]
theorem ecA_can {F : Type} [Lean.Grind.CommRing F] [DecidableEq F] {a b : F} {iv : F → F} (hK : ecK a b iv) {p q r : Option (F × F)} (hp : ecO a b p) (hq : ecO a b q) (hr : ecO a b r) (h : ecA a iv p q = ecA a iv p r) : q = r := by
  have := ecA_back hK hp hq
  rw [h, ecA_back hK hp hr] at this
  exact this.symm
theorem ecM_gcd {F : Type} [Lean.Grind.CommRing F] [DecidableEq F] {a b : F} {iv : F → F} (hK : ecK a b iv) {p : Option (F × F)} (hp : ecO a b p) (x y : Nat) : ecM a iv x p = none → ecM a iv y p = none → ecM a iv (Nat.gcd x y) p = none := by
  induction x, y using Nat.gcd.induction with
  | H0 y => intro _ h; rw [Nat.gcd_zero_left]; exact h
  | H1 x y hx ih =>
    intro h1 h2
    rw [Nat.gcd_rec]
    refine ih ?_ h1
    have e : y = y % x + y / x * x := by rw [Nat.mul_comm]; exact (Nat.mod_add_div y x).symm
    rw [e, ecM_add hK hp, ecM_mul hK hp, h1, ecM_none, ecA_0] at h2
    exact h2
/-- a point of order q -/
theorem ecM_ord {F : Type} [Lean.Grind.CommRing F] [DecidableEq F] {a b : F} {iv : F → F} (hK : ecK a b iv) {p : Option (F × F)} (hp : ecO a b p) {q k : Nat} (hq : pr q) (h : ecM a iv q p = none) (hn : p ≠ none) (hk : ¬ q ∣ k) : ecM a iv k p ≠ none := by
  intro z
  have := ecM_gcd hK hp q k h z
  rw [pr_cop hq hk] at this
  exact hn this
theorem ecM_mod {F : Type} [Lean.Grind.CommRing F] [DecidableEq F] {a b : F} {iv : F → F} (hK : ecK a b iv) {p : Option (F × F)} (hp : ecO a b p) {q : Nat} (h : ecM a iv q p = none) (k : Nat) : ecM a iv (k % q) p = ecM a iv k p := by
  conv => rhs; rw [← Nat.mod_add_div k q, Nat.mul_comm, ecM_add hK hp, ecM_mul hK hp, h, ecM_none, ecA_0]
theorem ecM_inj {F : Type} [Lean.Grind.CommRing F] [DecidableEq F] {a b : F} {iv : F → F} (hK : ecK a b iv) {p : Option (F × F)} (hp : ecO a b p) {q i j : Nat} (hq : pr q) (h : ecM a iv q p = none) (hn : p ≠ none) (hij : i ≤ j) (hj : j < q) (e : ecM a iv i p = ecM a iv j p) : i = j := by
  obtain ⟨d, rfl⟩ : ∃ d, j = i + d := ⟨j - i, by omega⟩
  rw [ecM_add hK hp] at e
  have e2 : ecM a iv d p = none := by
    refine ecA_can hK (ecO_M hK hp i) (ecO_M hK hp d) trivial ?_
    rw [← e]; exact (ecA_0 _).symm
  rcases Nat.eq_zero_or_pos d with z | z
  · omega
  · exact absurd e2 (ecM_ord hK hp hq h hn (fun w => by have := Nat.le_of_dvd z w; omega))
/-- twice a point is never none -/
theorem ecA_dbl {F : Type} [Lean.Grind.CommRing F] [DecidableEq F] {a b : F} {iv : F → F} (hK : ecK a b iv) {p : Option (F × F)} (hp : ecO a b p) (h : ecA a iv p p = none) : p = none := by
  rcases p with _ | ⟨x, y⟩
  · rfl
  · exfalso
    by_cases hn : x = x ∧ y + y = 0
    · have : (2 : F) * y = 0 := by have := hn.2; grind
      rcases hK.1 _ _ this with z | z
      · exact hK.2.2.1 z
      · exact hK.2.2.2 _ _ hp z
    · have hs := ecL_s hK hp hp hn
      rw [ecA_s hK hp hp hs] at h
      unfold ecT at h
      exact absurd h (by simp)
/-- pigeons -/
theorem ph : ∀ (n m : Nat) (f : Nat → Nat), n < m → (∀ i, i < m → f i < n) → ∃ i j, i < j ∧ j < m ∧ f i = f j
  | 0, m, f, h, hf => absurd (hf 0 h) (by omega)
  | n + 1, m, f, h, hf => by
    obtain ⟨k, rfl⟩ : ∃ k, m = k + 1 := ⟨m - 1, by omega⟩
    by_cases hc : ∃ i, i < k ∧ f i = f k
    · obtain ⟨i, h1, h2⟩ := hc
      exact ⟨i, k, h1, by omega, h2⟩
    · obtain ⟨i, j, h1, h2, h3⟩ := ph n k (fun i => if f k < f i then f i - 1 else f i) (by omega) (fun i hi => by
        have e : f i ≠ f k := fun z => hc ⟨i, hi, z⟩
        have a1 := hf i (by omega)
        have a2 := hf k (by omega)
        split <;> omega)
      refine ⟨i, j, h1, by omega, ?_⟩
      have e1 : f i ≠ f k := fun z => hc ⟨i, by omega, z⟩
      have e2 : f j ≠ f k := fun z => hc ⟨j, by omega, z⟩
      split at h3 <;> split at h3 <;> omega
/-- with few points on the curve, a point of order q makes all of them -/
theorem ec_all {F : Type} [Lean.Grind.CommRing F] [DecidableEq F] {a b : F} {iv : F → F} (hK : ecK a b iv) {g : Option (F × F)} (hg : ecO a b g) {q n : Nat} (hq : pr q) (hq2 : q % 2 = 1) (h : ecM a iv q g = none) (hn : g ≠ none) (cd : Option (F × F) → Nat) (hc : ∀ p, ecO a b p → cd p < n) (hci : ∀ p p', ecO a b p → ecO a b p' → cd p = cd p' → p = p') (hnq : n < 3 * q) {p : Option (F × F)} (hp : ecO a b p) : ∃ k, p = ecM a iv k g := by
  have q1 := hq.1
  have oM := fun i => ecO_M hK hg i
  have oP := fun i => ecO_M hK hp i
  obtain ⟨i, j, h1, h2, h3⟩ := ph n (3 * q) (fun t => cd (ecA a iv (ecM a iv (t / q) p) (ecM a iv (t % q) g))) hnq (fun t _ => hc _ (ecO_A hK (oP _) (oM _)))
  have e := hci _ _ (ecO_A hK (oP _) (oM _)) (ecO_A hK (oP _) (oM _)) h3
  have hi3 : i / q < 3 := by rw [Nat.div_lt_iff_lt_mul (by omega)]; omega
  have hj3 : j / q < 3 := by rw [Nat.div_lt_iff_lt_mul (by omega)]; omega
  have hij := Nat.div_le_div_right (c := q) (Nat.le_of_lt h1)
  have mi := Nat.mod_lt i (show q > 0 by omega)
  have mj := Nat.mod_lt j (show q > 0 by omega)
  have di := Nat.div_add_mod i q
  have dj := Nat.div_add_mod j q
  -- (j / q - i / q) p = m g
  obtain ⟨d, hd⟩ : ∃ d, j / q = i / q + d := ⟨j / q - i / q, by omega⟩
  rw [hd, ecM_add hK hp, ecA_assoc hK (oP _) (oP _) (oM _)] at e
  have e2 := ecA_can hK (oP _) (oM _) (ecO_A hK (oP _) (oM _)) e
  -- d p = (i % q + (q - j % q)) g
  have e3 : ecM a iv d p = ecM a iv (i % q + (q - j % q)) g := by
    rw [ecM_add hK hg, e2, ecA_assoc hK (oP _) (oM _) (oM _), ← ecM_add hK hg, show j % q + (q - j % q) = q by omega, h, ecA_0]
  rcases Nat.eq_zero_or_pos d with z | z
  · exfalso
    subst z
    rw [Nat.add_zero] at hd
    have e4 : ecM a iv (i % q) g = ecM a iv (j % q) g := e2
    rw [hd] at dj
    rcases Nat.le_total (i % q) (j % q) with w | w
    · have := ecM_inj hK hg hq h hn w mj e4
      omega
    · have := ecM_inj hK hg hq h hn w mi e4.symm
      omega
  · have hd2 : d = 1 ∨ d = 2 := by clear di dj e e2 e3 h3 hij; generalize i / q = u at *; generalize j / q = w at *; omega
    generalize i % q + (q - j % q) = m at *
    rcases hd2 with w | w
    · subst w; exact ⟨m, e3⟩
    · subst w
      -- an even multiple
      obtain ⟨k, hk⟩ : ∃ k, ecM a iv m g = ecM a iv (2 * k) g := by
        rcases Nat.mod_two_eq_zero_or_one m with u | u
        · exact ⟨m / 2, by congr 1; omega⟩
        · refine ⟨(m + q) / 2, ?_⟩
          rw [show 2 * ((m + q) / 2) = m + q by omega, ecM_add hK hg, h, ecA_0]
      rw [hk, ecM_mul hK hg] at e3
      have oN := ecO_N (oM k)
      have t : ecA a iv p (ecN (ecM a iv k g)) = none := by
        refine ecA_dbl hK (ecO_A hK hp oN) ?_
        rw [ecA_swap hK hp oN hp oN]
        have e5 : ecA a iv p p = ecA a iv (ecM a iv k g) (ecM a iv k g) := e3
        rw [e5, ecA_swap hK (oM k) (oM k) oN oN, ecA_neg]; rfl
      refine ⟨k, ?_⟩
      have t2 := ecA_comm hK hp oN
      rw [t] at t2
      have t3 : ecA a iv (ecN (ecM a iv k g)) p = ecA a iv (ecN (ecM a iv k g)) (ecM a iv k g) := by
        rw [← t2, ecA_comm hK oN (oM k), ecA_neg]
      exact ecA_can hK oN hp (oM k) t3
