/-! primes: Euclid, Fermat, Pocklington -/
def pr (n : Nat) : Prop := 1 < n ∧ ∀ d, d ∣ n → d = 1 ∨ d = n
theorem pr_cop {q a : Nat} (h : pr q) (ha : ¬ q ∣ a) : Nat.gcd q a = 1 := by
  rcases h.2 _ (Nat.gcd_dvd_left q a) with e | e
  · exact e
  · exact absurd (e ▸ Nat.gcd_dvd_right q a) ha
theorem pr_euc {q a b : Nat} (h : pr q) (hd : q ∣ a * b) : q ∣ a ∨ q ∣ b := by
  by_cases ha : q ∣ a
  · exact Or.inl ha
  · exact Or.inr (Nat.Coprime.dvd_of_dvd_mul_left (pr_cop h ha) hd)
theorem pr_div (n : Nat) (h : 1 < n) : ∃ q, pr q ∧ q ∣ n := by
  induction n using Nat.strongRecOn with
  | ind n ih =>
    by_cases hp : pr n
    · exact ⟨n, hp, Nat.dvd_refl n⟩
    · have : ∃ d, d ∣ n ∧ d ≠ 1 ∧ d ≠ n := by
        refine Classical.byContradiction fun hc => hp ⟨h, fun d hd => ?_⟩
        refine Classical.byContradiction fun h2 => hc ⟨d, hd, fun e => h2 (Or.inl e), fun e => h2 (Or.inr e)⟩
      obtain ⟨d, hd, d1, dn⟩ := this
      have d0 : d ≠ 0 := by
        rintro rfl
        rw [Nat.zero_dvd] at hd
        omega
      have dle := Nat.le_of_dvd (by omega) hd
      obtain ⟨q, hq, hqd⟩ := ih d (by omega) (by omega)
      exact ⟨q, hq, Nat.dvd_trans hqd hd⟩
/-- a number with no prime divisor up to its root is prime -/
theorem pr_root {n : Nat} (h : 1 < n) (hq : ∀ q, pr q → q ∣ n → n < q * q) : pr n := by
  refine ⟨h, fun d hd => ?_⟩
  obtain ⟨e, he⟩ := hd
  by_cases d1 : d = 1
  · exact Or.inl d1
  · by_cases e1 : e = 1
    · right; rw [he, e1, Nat.mul_one]
    · exfalso
      have d0 : d ≠ 0 := by rintro rfl; omega
      have e0 : e ≠ 0 := by rintro rfl; omega
      obtain ⟨q, q1, q2⟩ := pr_div d (by omega)
      obtain ⟨r, r1, r2⟩ := pr_div e (by omega)
      have a1 := hq q q1 (Nat.dvd_trans q2 ⟨e, he⟩)
      have a2 := hq r r1 (Nat.dvd_trans r2 ⟨d, by rw [he, Nat.mul_comm]⟩)
      have b1 := Nat.le_of_dvd (by omega) q2
      have b2 := Nat.le_of_dvd (by omega) r2
      rcases Nat.le_total q r with c | c
      · have : q * q ≤ d * e := Nat.mul_le_mul b1 (Nat.le_trans c b2)
        omega
      · have : r * r ≤ d * e := Nat.mul_le_mul (Nat.le_trans c b1) b2
        omega
/-- binomials -/
def bc : Nat → Nat → Nat
  | _, 0 => 1
  | 0, _ + 1 => 0
  | n + 1, k + 1 => bc n k + bc n (k + 1)
theorem bc_0 (n : Nat) : bc n 0 = 1 := by cases n <;> rfl
theorem bc_gt : ∀ n k, n < k → bc n k = 0
  | 0, 0, h => absurd h (by decide)
  | 0, _ + 1, _ => rfl
  | _ + 1, 0, h => absurd h (by omega)
  | n + 1, k + 1, h => by
    show bc n k + bc n (k + 1) = 0
    rw [bc_gt n k (by omega), bc_gt n (k + 1) (by omega)]
theorem bc_n (n : Nat) : bc n n = 1 := by
  induction n with
  | zero => rfl
  | succ n ih => show bc n n + bc n (n + 1) = 1; rw [ih, bc_gt n (n + 1) (by omega)]
theorem bc_m : ∀ n k, (k + 1) * bc (n + 1) (k + 1) = (n + 1) * bc n k
  | 0, 0 => rfl
  | 0, k + 1 => by show (k + 1 + 1) * (bc 0 (k + 1) + bc 0 (k + 1 + 1)) = (0 + 1) * bc 0 (k + 1); rfl
  | n + 1, 0 => by
    have := bc_m n 0
    show (0 + 1) * (bc (n + 1) 0 + bc (n + 1) (0 + 1)) = (n + 1 + 1) * bc (n + 1) 0
    rw [bc_0] at *
    omega
  | n + 1, k + 1 => by
    have h1 := bc_m n k
    have h2 := bc_m n (k + 1)
    show (k + 1 + 1) * (bc (n + 1) (k + 1) + bc (n + 1) (k + 1 + 1)) = (n + 1 + 1) * bc (n + 1) (k + 1)
    have e : bc (n + 1) (k + 1) = bc n k + bc n (k + 1) := rfl
    grind
def sm (f : Nat → Nat) : Nat → Nat
  | 0 => 0
  | n + 1 => sm f n + f n
theorem sm_add (f g : Nat → Nat) : ∀ n, sm (fun k => f k + g k) n = sm f n + sm g n
  | 0 => rfl
  | n + 1 => by unfold sm; rw [sm_add f g n]; omega
theorem sm_mul (a : Nat) (f : Nat → Nat) : ∀ n, sm (fun k => a * f k) n = a * sm f n
  | 0 => rfl
  | n + 1 => by unfold sm; rw [sm_mul a f n, Nat.mul_add]
theorem sm_sh (f : Nat → Nat) : ∀ n, sm f (n + 1) = f 0 + sm (fun k => f (k + 1)) n
  | 0 => by show 0 + f 0 = f 0 + 0; omega
  | n + 1 => by
    have := sm_sh f n
    show sm f (n + 1) + f (n + 1) = f 0 + (sm (fun k => f (k + 1)) n + f (n + 1))
    omega
theorem sm_cg {f g : Nat → Nat} : ∀ n, (∀ k, k < n → f k = g k) → sm f n = sm g n
  | 0, _ => rfl
  | n + 1, h => by unfold sm; rw [sm_cg n (fun k hk => h k (by omega)), h n (by omega)]
theorem bc_th (a : Nat) : ∀ n, (a + 1) ^ n = sm (fun k => bc n k * a ^ k) (n + 1)
  | 0 => rfl
  | n + 1 => by
    rw [Nat.pow_succ, bc_th a n, sm_sh (fun k => bc (n + 1) k * a ^ k)]
    have e1 : sm (fun k => bc (n + 1) (k + 1) * a ^ (k + 1)) (n + 1) = a * sm (fun k => bc n k * a ^ k) (n + 1) + sm (fun k => bc n (k + 1) * a ^ (k + 1)) (n + 1) := by
      rw [← sm_mul, ← sm_add]
      refine sm_cg _ (fun k _ => ?_)
      show (bc n k + bc n (k + 1)) * a ^ (k + 1) = a * (bc n k * a ^ k) + bc n (k + 1) * a ^ (k + 1)
      rw [Nat.pow_succ]; grind
    have e2 : sm (fun k => bc n (k + 1) * a ^ (k + 1)) (n + 1) + bc n 0 * a ^ 0 = sm (fun k => bc n k * a ^ k) (n + 1) := by
      have h1 : sm (fun k => bc n k * a ^ k) (n + 1 + 1) = bc n 0 * a ^ 0 + sm (fun k => bc n (k + 1) * a ^ (k + 1)) (n + 1) := sm_sh (fun k => bc n k * a ^ k) (n + 1)
      have h2 : sm (fun k => bc n k * a ^ k) (n + 1 + 1) = sm (fun k => bc n k * a ^ k) (n + 1) + bc n (n + 1) * a ^ (n + 1) := rfl
      have h3 : bc n (n + 1) * a ^ (n + 1) = 0 := by rw [bc_gt n (n + 1) (by omega), Nat.zero_mul]
      omega
    have e3 : bc n 0 * a ^ 0 = 1 := by rw [bc_0]; rfl
    have e4 : bc (n + 1) 0 * a ^ 0 = 1 := by rw [bc_0]; rfl
    show sm (fun k => bc n k * a ^ k) (n + 1) * (a + 1) = bc (n + 1) 0 * a ^ 0 + sm (fun k => bc (n + 1) (k + 1) * a ^ (k + 1)) (n + 1)
    rw [e1, e4, Nat.mul_add, Nat.mul_one, Nat.mul_comm _ a]
    omega
theorem sm_mod (q : Nat) (f : Nat → Nat) : ∀ n, (∀ k, k < n → q ∣ f k) → q ∣ sm f n
  | 0, _ => Nat.dvd_zero q
  | n + 1, h => Nat.dvd_add (sm_mod q f n (fun k hk => h k (by omega))) (h n (by omega))
theorem bc_pr {q k : Nat} (h : pr q) (h0 : 0 < k) (hk : k < q) : q ∣ bc q k := by
  obtain ⟨m, rfl⟩ : ∃ m, q = m + 1 := ⟨q - 1, by omega⟩
  obtain ⟨j, rfl⟩ : ∃ j, k = j + 1 := ⟨k - 1, by omega⟩
  rcases pr_euc h (⟨bc m j, bc_m m j⟩ : m + 1 ∣ (j + 1) * bc (m + 1) (j + 1)) with e | e
  · exact absurd (Nat.le_of_dvd (by omega) e) (by omega)
  · exact e
/-- Fermat -/
theorem fermat {q : Nat} (h : pr q) : ∀ a, a ^ q % q = a % q
  | 0 => by rw [Nat.zero_pow (by have := h.1; omega)]
  | a + 1 => by
    have h1 := h.1
    have ih := fermat h a
    obtain ⟨m, rfl⟩ : ∃ m, q = m + 1 := ⟨q - 1, by omega⟩
    have e : (a + 1) ^ (m + 1) = (bc (m + 1) 0 * a ^ 0 + sm (fun k => bc (m + 1) (k + 1) * a ^ (k + 1)) m) + bc (m + 1) (m + 1) * a ^ (m + 1) := by
      rw [bc_th]
      show sm _ (m + 1) + _ = _
      rw [sm_sh]
    obtain ⟨t, ht⟩ := sm_mod (m + 1) (fun k => bc (m + 1) (k + 1) * a ^ (k + 1)) m (fun k hk => Nat.dvd_trans (bc_pr h (by omega) (by omega)) ⟨_, rfl⟩)
    rw [e, bc_0, bc_n, ht, Nat.pow_zero, Nat.one_mul, Nat.one_mul]
    rw [show 1 + (m + 1) * t + a ^ (m + 1) = (a ^ (m + 1) + 1) + (m + 1) * t by omega, Nat.add_mul_mod_self_left, Nat.add_mod, ih, ← Nat.add_mod]
theorem fermat1 {q a : Nat} (h : pr q) (ha : ¬ q ∣ a) : a ^ (q - 1) % q = 1 := by
  have h1 := h.1
  have f := fermat h a
  obtain ⟨m, rfl⟩ : ∃ m, q = m + 1 := ⟨q - 1, by omega⟩
  rw [Nat.add_sub_cancel]
  have ap : 0 < a := by
    rcases Nat.eq_zero_or_pos a with e | e
    · subst e; exact absurd (Nat.dvd_zero _) ha
    · exact e
  have hp : 0 < a ^ m := Nat.pow_pos ap
  have hd : (m + 1) ∣ a * (a ^ m - 1) := by
    rw [Nat.mul_sub, Nat.mul_one, Nat.mul_comm, ← Nat.pow_succ]
    exact (Nat.dvd_iff_mod_eq_zero.mpr (Nat.sub_mod_eq_zero_of_mod_eq f))
  rcases pr_euc h hd with e | e
  · exact absurd e ha
  · obtain ⟨t, ht⟩ := e
    rw [show a ^ m = 1 + (m + 1) * t by omega, Nat.add_mul_mod_self_left]
    exact Nat.mod_eq_of_lt h1
theorem pow_gcd {q a : Nat} (x y : Nat) : a ^ x % q = 1 → a ^ y % q = 1 → a ^ Nat.gcd x y % q = 1 := by
  induction x, y using Nat.gcd.induction with
  | H0 y => intro _ h; rw [Nat.gcd_zero_left]; exact h
  | H1 x y hx ih =>
    intro h1 h2
    rw [Nat.gcd_rec]
    refine ih ?_ h1
    have e : a ^ y = a ^ (y % x) * (a ^ x) ^ (y / x) := by
      rw [← Nat.pow_mul, ← Nat.pow_add, Nat.mod_add_div]
    rw [e, Nat.mul_mod, Nat.pow_mod (a ^ x), h1, Nat.one_pow, ← Nat.mul_mod, Nat.mul_one] at h2
    exact h2
theorem mod_dvd {a b n q : Nat} (hq : q ∣ n) (h : a % n = b % n) : a % q = b % q := by
  rw [← Nat.mod_mod_of_dvd a hq, h, Nat.mod_mod_of_dvd b hq]
theorem pock1 {N a p m q : Nat} (hp : pr p) (hN : N = p * m + 1) (h1 : a ^ (p * m) % N = 1) (h2 : Nat.gcd (a ^ m % N + (N - 1)) N = 1) (hN1 : 1 < N) (hq : pr q) (hqN : q ∣ N) : p ∣ q - 1 := by
  have q1 := hq.1
  refine Classical.byContradiction fun hc => ?_
  have g1 : a ^ (p * m) % q = 1 := by
    have := mod_dvd (b := 1) hqN (by rw [h1, Nat.mod_eq_of_lt hN1])
    rw [this, Nat.mod_eq_of_lt q1]
  have na : ¬ q ∣ a := by
    intro hd
    have hm : 0 < p * m := by omega
    have : q ∣ a ^ (p * m) := Nat.dvd_trans hd (⟨a ^ (p * m - 1), by rw [← Nat.pow_succ']; congr 1; omega⟩)
    rw [Nat.dvd_iff_mod_eq_zero.mp this] at g1
    exact absurd g1 (by decide)
  have g2 := fermat1 hq na
  have g3 := pow_gcd _ _ g1 g2
  have e : Nat.gcd (p * m) (q - 1) = Nat.gcd m (q - 1) := Nat.Coprime.gcd_mul_left_cancel m (pr_cop hp hc)
  rw [e] at g3
  obtain ⟨t, ht⟩ := Nat.gcd_dvd_left m (q - 1)
  have g4 : a ^ m % q = 1 := by
    rw [ht, Nat.pow_mul, Nat.pow_mod, g3, Nat.one_pow, Nat.mod_eq_of_lt q1]
  have g5 : q ∣ a ^ m % N + (N - 1) := by
    rw [Nat.dvd_iff_mod_eq_zero, Nat.add_mod, Nat.mod_mod_of_dvd _ hqN, g4]
    obtain ⟨s, hs⟩ := hqN
    have s0 : s ≠ 0 := by rintro rfl; omega
    obtain ⟨u, rfl⟩ : ∃ u, s = u + 1 := ⟨s - 1, by omega⟩
    have : N - 1 = (q - 1) + q * u := by rw [hs, Nat.mul_add]; omega
    rw [this, Nat.add_mul_mod_self_left, Nat.mod_eq_of_lt (show q - 1 < q by omega), show 1 + (q - 1) = q by omega, Nat.mod_self]
  have := Nat.dvd_gcd g5 hqN
  rw [h2] at this
  have := Nat.le_of_dvd (by decide) this
  omega
/-- powers by computation -/
def mp (n a : Nat) : Nat → Nat → Nat
  | 0, _ => 1 % n
  | k + 1, e => if e % 2 = 1 then (mp n a k (e / 2)) ^ 2 % n * a % n else (mp n a k (e / 2)) ^ 2 % n
theorem mp_e (n a : Nat) : ∀ k e, e < 2 ^ k → mp n a k e = a ^ e % n
  | 0, e, h => by
    have : e = 0 := by rw [Nat.pow_zero] at h; omega
    subst this; rfl
  | k + 1, e, h => by
    have ih := mp_e n a k (e / 2) (by rw [Nat.pow_succ] at h; omega)
    unfold mp
    rw [ih, ← Nat.pow_mod, ← Nat.pow_mul]
    split
    · rename_i q
      rw [Nat.mod_mul_mod, ← Nat.pow_succ]
      congr 2; omega
    · rename_i q
      congr 2; omega
def pk1 (N a p m k : Nat) : Bool := (N == p * m + 1) && (mp N a k (p * m) == 1) && (Nat.gcd (mp N a k m + (N - 1)) N == 1) && Nat.blt 1 N && Nat.blt (p * m) (2 ^ k)
theorem pk1_dv {N a p m k q : Nat} (h : pk1 N a p m k = true) (hp : pr p) (hq : pr q) (hqN : q ∣ N) : p ∣ q - 1 := by
  unfold pk1 at h
  simp only [Bool.and_eq_true, beq_iff_eq] at h
  obtain ⟨⟨⟨⟨h1, h2⟩, h3⟩, h4⟩, h5⟩ := h
  have h4 : 1 < N := Nat.le_of_ble_eq_true h4
  have h5 : p * m < 2 ^ k := Nat.le_of_ble_eq_true h5
  have hp1 := hp.1
  have hm : m ≤ p * m := Nat.le_mul_of_pos_left m (by omega)
  rw [mp_e N a k _ h5] at h2
  rw [mp_e N a k _ (by omega)] at h3
  exact pock1 hp h1 h2 h3 h4 hq hqN
theorem pk_one {N a p m k : Nat} (h : pk1 N a p m k = true) (hp : pr p) (hs : Nat.blt N (p * p) = true) : pr N := by
  have h0 := h
  unfold pk1 at h
  simp only [Bool.and_eq_true, beq_iff_eq] at h
  refine pr_root (Nat.le_of_ble_eq_true h.1.2) (fun q q1 q2 => ?_)
  have d := pk1_dv h0 hp q1 q2
  have := q1.1
  have := Nat.le_of_dvd (by omega) d
  have hs : N < p * p := Nat.le_of_ble_eq_true hs
  have : p * p ≤ q * q := Nat.mul_le_mul (by omega) (by omega)
  omega
theorem pk_two {N a p m k b p' m' : Nat} (h : pk1 N a p m k = true) (h' : pk1 N b p' m' k = true) (hp : pr p) (hp' : pr p') (hn : Nat.beq p p' = false) (hs : Nat.blt N (p * p' * (p * p')) = true) : pr N := by
  have h0 := h
  unfold pk1 at h
  simp only [Bool.and_eq_true, beq_iff_eq] at h
  refine pr_root (Nat.le_of_ble_eq_true h.1.2) (fun q q1 q2 => ?_)
  have d := pk1_dv h0 hp q1 q2
  have d' := pk1_dv h' hp' q1 q2
  have c : Nat.Coprime p p' := by
    refine pr_cop hp (fun z => ?_)
    have hn := Nat.ne_of_beq_eq_false hn
    rcases hp'.2 p z with e | e
    · have := hp.1; omega
    · exact hn e
  have d2 := Nat.Coprime.mul_dvd_of_dvd_of_dvd c d d'
  have := q1.1
  have := Nat.le_of_dvd (by omega) d2
  have hs : N < p * p' * (p * p') := Nat.le_of_ble_eq_true hs
  have : p * p' * (p * p') ≤ q * q := Nat.mul_le_mul (by omega) (by omega)
  omega
/-- small ones by trial -/
def trd (n : Nat) : Nat → Nat → Bool
  | 0, _ => true
  | k + 1, d => (n % d != 0) && trd n k (d + 1)
theorem trd_e {n : Nat} : ∀ k d, trd n k d = true → ∀ q, d ≤ q → q < d + k → ¬ q ∣ n
  | 0, d, _, q, h1, h2 => by omega
  | k + 1, d, h, q, h1, h2 => by
    unfold trd at h
    simp only [Bool.and_eq_true, bne_iff_ne] at h
    by_cases e : q = d
    · subst e; intro z; exact h.1 (Nat.dvd_iff_mod_eq_zero.mp z)
    · exact trd_e k (d + 1) h.2 q (by omega) (by omega)
theorem pr_small {n k : Nat} (h : trd n k 2 = true) (h1 : Nat.blt 1 n = true) (h2 : Nat.blt n ((k + 2) * (k + 2)) = true) : pr n := by
  refine pr_root (Nat.le_of_ble_eq_true h1) (fun q q1 q2 => ?_)
  have h2 : n < (k + 2) * (k + 2) := Nat.le_of_ble_eq_true h2
  have := q1.1
  rcases Nat.lt_or_ge q (k + 2) with e | e
  · exact absurd q2 (trd_e k 2 h q (by omega) (by omega))
  · exact Nat.lt_of_lt_of_le h2 (Nat.mul_le_mul e e)
theorem pr_n11 : pr 363557 := pr_small (k := 602) (by decide +kernel) rfl (by decide +kernel)
theorem pr_n10 : pr 532247449 := pk_one (a := 2) (p := 363557) (m := 1464) (k := 29) (by decide +kernel) pr_n11 (by decide +kernel)
theorem pr_n9 : pr 44925942675193 := pk_one (a := 2) (p := 532247449) (m := 84408) (k := 46) (by decide +kernel) pr_n10 (by decide +kernel)
theorem pr_n8 : pr 35581458644053887931343 := pk_one (a := 2) (p := 44925942675193) (m := 792002494) (k := 75) (by decide +kernel) pr_n9 (by decide +kernel)
theorem pr_n7 : pr 23964610537191310276190549303 := pk_one (a := 2) (p := 35581458644053887931343) (m := 673514) (k := 95) (by decide +kernel) pr_n8 (by decide +kernel)
theorem pr_n6 : pr 862725979338887169942859774909 := pk_one (a := 2) (p := 23964610537191310276190549303) (m := 36) (k := 100) (by decide +kernel) pr_n7 (by decide +kernel)
theorem pr_n5 : pr 20705423504133292078628634597817 := pk_one (a := 2) (p := 862725979338887169942859774909) (m := 24) (k := 105) (by decide +kernel) pr_n6 (by decide +kernel)
theorem pr_n4 : pr 413244619895455989650825325680172591660047 := pk_one (a := 2) (p := 20705423504133292078628634597817) (m := 19958279038) (k := 139) (by decide +kernel) pr_n5 (by decide +kernel)
theorem pr_n3 : pr 12397338596863679689524759770405177749801411 := pk_one (a := 2) (p := 413244619895455989650825325680172591660047) (m := 30) (k := 144) (by decide +kernel) pr_n4 (by decide +kernel)
theorem pr_n14 : pr 21407 := pr_small (k := 146) (by decide +kernel) rfl (by decide +kernel)
theorem pr_n13 : pr 246608641 := pk_one (a := 2) (p := 21407) (m := 11520) (k := 28) (by decide +kernel) pr_n14 (by decide +kernel)
theorem pr_n16 : pr 881 := pr_small (k := 29) (by decide +kernel) rfl (by decide +kernel)
theorem pr_n17 : pr 211 := pr_small (k := 14) (by decide +kernel) rfl (by decide +kernel)
theorem pr_n15 : pr 105957871 := pk_two (a := 2) (p := 881) (m := 120270) (k := 27) (b := 2) (p' := 211) (m' := 502170) (by decide +kernel) (by decide +kernel) pr_n16 pr_n17 (by decide +kernel) (by decide +kernel)
theorem pr_n12 : pr 529709925838459440593 := pk_two (a := 2) (p := 246608641) (m := 2147977960912) (k := 69) (b := 2) (p' := 105957871) (m' := 4999250370352) (by decide +kernel) (by decide +kernel) pr_n13 pr_n15 (by decide +kernel) (by decide +kernel)
theorem pr_n2 : pr 19173790298027098165721053155794528970226934547887232785722672956982046098136719667167519737147526097 := pk_two (a := 2) (p := 12397338596863679689524759770405177749801411) (m := 1546605357933657467587294243086068506965106718544748132336) (k := 334) (b := 2) (p' := 529709925838459440593) (m' := 36196773673209108854078416512380613964711027274668755761194285045868717602353872) (by decide +kernel) (by decide +kernel) pr_n3 pr_n12 (by decide +kernel) (by decide +kernel)
theorem pr_P : pr 39402006196394479212279040100143613805079739270465446667948293404245721771496870329047266088258938001861606973112319 := pk_one (a := 2) (p := 19173790298027098165721053155794528970226934547887232785722672956982046098136719667167519737147526097) (m := 2054993070433694) (k := 384) (by decide +kernel) pr_n2 (by decide +kernel)
theorem pr_n27 : pr 421 := pr_small (k := 20) (by decide +kernel) rfl (by decide +kernel)
theorem pr_n28 : pr 233 := pr_small (k := 15) (by decide +kernel) rfl (by decide +kernel)
theorem pr_n26 : pr 272109983 := pk_two (a := 2) (p := 421) (m := 646342) (k := 29) (b := 2) (p' := 233) (m' := 1167854) (by decide +kernel) (by decide +kernel) pr_n27 pr_n28 (by decide +kernel) (by decide +kernel)
theorem pr_n25 : pr 228572385721 := pk_one (a := 2) (p := 272109983) (m := 840) (k := 38) (by decide +kernel) pr_n26 (by decide +kernel)
theorem pr_n24 : pr 23314383343543 := pk_one (a := 2) (p := 228572385721) (m := 102) (k := 45) (by decide +kernel) pr_n25 (by decide +kernel)
theorem pr_n23 : pr 426632512014427833817 := pk_one (a := 2) (p := 23314383343543) (m := 18299112) (k := 69) (by decide +kernel) pr_n24 (by decide +kernel)
theorem pr_n22 : pr 1495199339761412565498084319 := pk_one (a := 2) (p := 426632512014427833817) (m := 3504654) (k := 91) (by decide +kernel) pr_n23 (by decide +kernel)
theorem pr_n21 : pr 17942392077136950785977011829 := pk_one (a := 2) (p := 1495199339761412565498084319) (m := 12) (k := 94) (by decide +kernel) pr_n22 (by decide +kernel)
theorem pr_n32 : pr 311 := pr_small (k := 17) (by decide +kernel) rfl (by decide +kernel)
theorem pr_n31 : pr 9863677 := pk_two (a := 2) (p := 881) (m := 11196) (k := 24) (b := 2) (p' := 311) (m' := 31716) (by decide +kernel) (by decide +kernel) pr_n16 pr_n32 (by decide +kernel) (by decide +kernel)
theorem pr_n30 : pr 37344768852931 := pk_one (a := 2) (p := 9863677) (m := 3786090) (k := 46) (by decide +kernel) pr_n31 (by decide +kernel)
theorem pr_n29 : pr 55942463741690639 := pk_one (a := 2) (p := 37344768852931) (m := 1498) (k := 56) (by decide +kernel) pr_n30 (by decide +kernel)
theorem pr_n20 : pr 1059392654943455286185473617842338478315215895509773412096307 := pk_two (a := 2) (p := 17942392077136950785977011829) (m := 59044114652548685817935616758314) (k := 200) (b := 2) (p' := 55942463741690639) (m' := 18937182671022621403976774588414660839566254) (by decide +kernel) (by decide +kernel) pr_n21 pr_n29 (by decide +kernel) (by decide +kernel)
theorem pr_n19 : pr 3055465788140352002733946906144561090641249606160407884365391979704929268480326390471 := pk_one (a := 2) (p := 1059392654943455286185473617842338478315215895509773412096307) (m := 2884167427329800039538210) (k := 281) (by decide +kernel) pr_n20 (by decide +kernel)
theorem pr_Q : pr 39402006196394479212279040100143613805079739270465446667946905279627659399113263569398956308152294913554433653942643 := pk_one (a := 2) (p := 3055465788140352002733946906144561090641249606160407884365391979704929268480326390471) (m := 12895580879789762060783039592702) (k := 384) (by decide +kernel) pr_n19 (by decide +kernel)
