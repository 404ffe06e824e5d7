/-! VeilMint$Modulus.mul: Montgomery's product -/
/-- the sums of the columns at the beginning of turn i -/
def mt_t (L ni : Nat) (a b n : Nat → Nat) : Nat → Nat → Nat
  | 0 => fun _ => 0
  | i + 1 => fun j =>
    (if j + 1 < L then mt_t L ni a b n i (j + 1) + a i * b (j + 1) + (mt_t L ni a b n i 0 + a i * b 0) * ni % 268435456 * n (j + 1) else 0) +
    (if j = 0 then (mt_t L ni a b n i 0 + a i * b 0 + (mt_t L ni a b n i 0 + a i * b 0) * ni % 268435456 * n 0) / 268435456 else 0)
/-- so many times the modulus is added in turn i -/
def mt_m (L ni : Nat) (a b n : Nat → Nat) (i : Nat) : Nat := (mt_t L ni a b n i 0 + a i * b 0) * ni % 268435456
/-- the value of L columns -/
def vl (f : Nat → Nat) : Nat → Nat
  | 0 => 0
  | k + 1 => vl f k + f k * 268435456 ^ k
theorem vl_dg (x : Nat) : ∀ k, vl (dg x) k = x % 268435456 ^ k
  | 0 => by rw [Nat.pow_zero, Nat.mod_one]; rfl
  | k + 1 => by
    show vl (dg x) k + dg x k * _ = _
    rw [vl_dg x k, dg_split, Nat.mul_comm]
theorem vl_congr {f g : Nat → Nat} : ∀ k, (∀ j, j < k → f j = g j) → vl f k = vl g k
  | 0, _ => rfl
  | k + 1, h => by
    show vl f k + f k * _ = vl g k + g k * _
    rw [vl_congr k (fun j hj => h j (by omega)), h k (by omega)]
theorem vl_add (f g : Nat → Nat) : ∀ k, vl (fun j => f j + g j) k = vl f k + vl g k
  | 0 => rfl
  | k + 1 => by
    show vl (fun j => f j + g j) k + (f k + g k) * _ = vl f k + f k * _ + (vl g k + g k * _)
    rw [vl_add f g k, Nat.add_mul]; omega
theorem vl_mul (c : Nat) (f : Nat → Nat) : ∀ k, vl (fun j => c * f j) k = c * vl f k
  | 0 => rfl
  | k + 1 => by
    show vl (fun j => c * f j) k + c * f k * _ = c * (vl f k + f k * _)
    rw [vl_mul c f k, Nat.mul_add, Nat.mul_assoc]
theorem vl_zero : ∀ k, vl (fun _ => 0) k = 0
  | 0 => rfl
  | k + 1 => by show vl (fun _ => 0) k + 0 * _ = 0; rw [vl_zero k, Nat.zero_mul]
/-- all columns a place lower: the lowest falls out -/
theorem vl_shift (f : Nat → Nat) : ∀ k, f 0 + 268435456 * vl (fun j => f (j + 1)) k = vl f (k + 1)
  | 0 => by show f 0 + 268435456 * 0 = 0 + f 0 * 268435456 ^ 0; rw [Nat.pow_zero]; omega
  | k + 1 => by
    show f 0 + 268435456 * (vl (fun j => f (j + 1)) k + f (k + 1) * 268435456 ^ k) = vl f (k + 1) + f (k + 1) * 268435456 ^ (k + 1)
    rw [← vl_shift f k, Nat.pow_succ, Nat.mul_add]
    have : 268435456 * (f (k + 1) * 268435456 ^ k) = f (k + 1) * (268435456 ^ k * 268435456) := by
      rw [Nat.mul_comm, Nat.mul_assoc]
    omega
theorem mt_low (L ni : Nat) (a b n : Nat → Nat) (i : Nat) (hni : (ni * n 0 + 1) % 268435456 = 0) : (mt_t L ni a b n i 0 + a i * b 0 + mt_m L ni a b n i * n 0) % 268435456 = 0 := by
  unfold mt_m
  generalize mt_t L ni a b n i 0 + a i * b 0 = w
  have e : (w + w * ni % 268435456 * n 0) % 268435456 = (w * (ni * n 0 + 1)) % 268435456 := by
    rw [Nat.add_mod, Nat.mul_mod (w * ni % 268435456), Nat.mod_mod, ← Nat.mul_mod, ← Nat.add_mod]
    congr 1
    rw [Nat.mul_add, Nat.mul_one, Nat.mul_assoc]; omega
  rw [e, Nat.mul_mod, hni, Nat.mul_zero, Nat.zero_mod]
theorem vl_one (C : Nat) : ∀ k, vl (fun j => if j = 0 then C else 0) (k + 1) = C
  | 0 => by show 0 + C * 268435456 ^ 0 = C; rw [Nat.pow_zero]; omega
  | k + 1 => by
    show vl (fun j => if j = 0 then C else 0) (k + 1) + (if k + 1 = 0 then C else 0) * _ = C
    rw [vl_one C k, if_neg (by omega), Nat.zero_mul, Nat.add_zero]
/-- one turn: the columns and what comes to them, divided by the base -/
theorem mt_step (L ni : Nat) (a b n : Nat → Nat) (i : Nat) (hL : 0 < L) (hni : (ni * n 0 + 1) % 268435456 = 0) :
    268435456 * vl (mt_t L ni a b n (i + 1)) L = vl (mt_t L ni a b n i) L + a i * vl b L + mt_m L ni a b n i * vl n L := by
  obtain ⟨k, rfl⟩ : ∃ k, L = k + 1 := ⟨L - 1, by omega⟩
  have hlow := mt_low (k + 1) ni a b n i hni
  have hdiv := Nat.div_add_mod (mt_t (k + 1) ni a b n i 0 + a i * b 0 + mt_m (k + 1) ni a b n i * n 0) 268435456
  rw [hlow] at hdiv
  have e1 : vl (mt_t (k + 1) ni a b n (i + 1)) (k + 1) = vl (fun j => mt_t (k + 1) ni a b n i (j + 1) + a i * b (j + 1) + mt_m (k + 1) ni a b n i * n (j + 1)) k + (mt_t (k + 1) ni a b n i 0 + a i * b 0 + mt_m (k + 1) ni a b n i * n 0) / 268435456 := by
    have e : mt_t (k + 1) ni a b n (i + 1) = (fun j => (fun j => if j + 1 < k + 1 then mt_t (k + 1) ni a b n i (j + 1) + a i * b (j + 1) + mt_m (k + 1) ni a b n i * n (j + 1) else 0) j + (fun j => if j = 0 then (mt_t (k + 1) ni a b n i 0 + a i * b 0 + mt_m (k + 1) ni a b n i * n 0) / 268435456 else 0) j) := rfl
    rw [e, vl_add, vl_one]
    congr 1
    show vl _ k + (if k + 1 < k + 1 then _ else 0) * _ = _
    rw [if_neg (by omega), Nat.zero_mul, Nat.add_zero]
    apply vl_congr
    intro j hj
    show (if j + 1 < k + 1 then _ else 0) = _
    rw [if_pos (by omega)]
  have e2 : vl (mt_t (k + 1) ni a b n i) (k + 1) + a i * vl b (k + 1) + mt_m (k + 1) ni a b n i * vl n (k + 1) = vl (fun j => mt_t (k + 1) ni a b n i j + a i * b j + mt_m (k + 1) ni a b n i * n j) (k + 1) := by
    rw [vl_add (fun j => mt_t (k + 1) ni a b n i j + a i * b j), vl_add, vl_mul, vl_mul]
  have e3 := vl_shift (fun j => mt_t (k + 1) ni a b n i j + a i * b j + mt_m (k + 1) ni a b n i * n j) k
  rw [e1, e2, ← e3]
  omega
theorem mt_val (L ni : Nat) (a b n : Nat → Nat) (hL : 0 < L) (hni : (ni * n 0 + 1) % 268435456 = 0) : ∀ i, 268435456 ^ i * vl (mt_t L ni a b n i) L = vl a i * vl b L + vl (mt_m L ni a b n) i * vl n L
  | 0 => by
    show 268435456 ^ 0 * vl (fun _ => 0) L = 0 * _ + 0 * _
    rw [vl_zero, Nat.mul_zero, Nat.zero_mul, Nat.zero_mul]
  | i + 1 => by
    have h1 := mt_step L ni a b n i hL hni
    have h2 := mt_val L ni a b n hL hni i
    show 268435456 ^ (i + 1) * _ = (vl a i + a i * 268435456 ^ i) * _ + (vl (mt_m L ni a b n) i + mt_m L ni a b n i * 268435456 ^ i) * _
    rw [Nat.pow_succ, Nat.mul_assoc, h1]
    grind
theorem vl_lt {f : Nat → Nat} : ∀ k, (∀ j, j < k → f j < 268435456) → vl f k < 268435456 ^ k
  | 0, _ => by show 0 < 1; decide
  | k + 1, h => by
    have h1 := vl_lt k (fun j hj => h j (by omega))
    have h2 := h k (by omega)
    show vl f k + f k * 268435456 ^ k < 268435456 ^ (k + 1)
    have h3 : (f k + 1) * 268435456 ^ k ≤ 268435456 * 268435456 ^ k := Nat.mul_le_mul_right _ (by omega)
    rw [Nat.add_mul, Nat.one_mul] at h3
    rw [Nat.pow_succ]; omega
theorem mt_b (L ni : Nat) (a b n : Nat → Nat) (ha : ∀ j, a j < 268435456) (hb : ∀ j, b j < 268435456) (hn : ∀ j, n j < 268435456) : ∀ i, i ≤ 74 → ∀ j, mt_t L ni a b n i j ≤ i * 144115187002114050 + (if j = 0 then 68719476736 else 0)
  | 0, _, j => by show 0 ≤ _; omega
  | i + 1, hi, j => by
    have h1 := mt_b L ni a b n ha hb hn i (by omega) (j + 1)
    have h0 := mt_b L ni a b n ha hb hn i (by omega) 0
    rw [if_neg (by omega)] at h1
    rw [if_pos rfl] at h0
    have hm : mt_m L ni a b n i < 268435456 := Nat.mod_lt _ (by decide)
    have p1 : a i * b (j + 1) ≤ 268435455 * 268435455 := Nat.mul_le_mul (by have := ha i; omega) (by have := hb (j + 1); omega)
    have p2 : mt_m L ni a b n i * n (j + 1) ≤ 268435455 * 268435455 := Nat.mul_le_mul (by omega) (by have := hn (j + 1); omega)
    have p3 : a i * b 0 ≤ 268435455 * 268435455 := Nat.mul_le_mul (by have := ha i; omega) (by have := hb 0; omega)
    have p4 : mt_m L ni a b n i * n 0 ≤ 268435455 * 268435455 := Nat.mul_le_mul (by omega) (by have := hn 0; omega)
    show (if j + 1 < L then mt_t L ni a b n i (j + 1) + a i * b (j + 1) + mt_m L ni a b n i * n (j + 1) else 0) + (if j = 0 then (mt_t L ni a b n i 0 + a i * b 0 + mt_m L ni a b n i * n 0) / 268435456 else 0) ≤ _
    have q1 : (if j + 1 < L then mt_t L ni a b n i (j + 1) + a i * b (j + 1) + mt_m L ni a b n i * n (j + 1) else 0) ≤ (i + 1) * 144115187002114050 := by split <;> omega
    have q2 : (mt_t L ni a b n i 0 + a i * b 0 + mt_m L ni a b n i * n 0) / 268435456 ≤ 68719476736 := by omega
    have q3 : (if j = 0 then (mt_t L ni a b n i 0 + a i * b 0 + mt_m L ni a b n i * n 0) / 268435456 else 0) ≤ (if j = 0 then 68719476736 else 0) := by
      by_cases e : j = 0
      · rw [if_pos e, if_pos e]; exact q2
      · rw [if_neg e, if_neg e]; exact Nat.le_refl _
    exact Nat.add_le_add q1 q3
theorem vl_mod (f : Nat → Nat) (i : Nat) : ∀ d, vl f (i + d) % 268435456 ^ i = vl f i % 268435456 ^ i
  | 0 => rfl
  | d + 1 => by
    show (vl f (i + d) + f (i + d) * 268435456 ^ (i + d)) % _ = _
    rw [Nat.pow_add, Nat.mul_comm (268435456 ^ i), ← Nat.mul_assoc, Nat.add_mul_mod_self_right, vl_mod f i d]
/-- the digits of a sum of columns: carry by carry -/
theorem vl_dgs (f : Nat → Nat) {i L : Nat} (hi : i < L) : f i + vl f i / 268435456 ^ i = dg (vl f L) i + 268435456 * (vl f (i + 1) / 268435456 ^ (i + 1)) := by
  have e1 : dg (vl f L) i = dg (vl f (i + 1)) i := by
    rw [← dg_mod (x := vl f L) (Nat.lt_succ_self i), ← dg_mod (x := vl f (i + 1)) (Nat.lt_succ_self i)]
    obtain ⟨d, rfl⟩ : ∃ d, L = i + 1 + d := ⟨L - (i + 1), by omega⟩
    rw [vl_mod]
  rw [e1]
  unfold dg
  have hB : 0 < 268435456 ^ i := Nat.pow_pos (by decide)
  have e2 : vl f (i + 1) / 268435456 ^ i = f i + vl f i / 268435456 ^ i := by
    show (vl f i + f i * 268435456 ^ i) / _ = _
    rw [Nat.add_mul_div_right _ _ hB]; omega
  rw [Nat.pow_succ, ← Nat.div_div_eq_div_mul, e2]
  have := Nat.div_add_mod (f i + vl f i / 268435456 ^ i) 268435456
  omega
theorem vl_cy {f : Nat → Nat} : ∀ i, (∀ j, j < i → f j < 13835058055282163712) → vl f i / 268435456 ^ i < 68719476736
  | 0, _ => by show 0 / _ < _; rw [Nat.zero_div]; decide
  | i + 1, h => by
    have h1 := vl_cy i (fun j hj => h j (by omega))
    have h2 := vl_dgs f (Nat.lt_succ_self i)
    have h3 := h i (by omega)
    omega
/-- Montgomery's product before the modulus is taken away -/
def mm_T (L ni x y N : Nat) : Nat := vl (mt_t L ni (dg x) (dg y) (dg N) L) L
theorem mm_T_eq {L ni x y N : Nat} (hL : 0 < L) (hni : (ni * dg N 0 + 1) % 268435456 = 0) (hx : x < 268435456 ^ L) (hy : y < 268435456 ^ L) (hN : N < 268435456 ^ L) : ∃ M, M < 268435456 ^ L ∧ 268435456 ^ L * mm_T L ni x y N = x * y + M * N := by
  refine ⟨vl (mt_m L ni (dg x) (dg y) (dg N)) L, vl_lt _ (fun j _ => Nat.mod_lt _ (by decide)), ?_⟩
  have := mt_val L ni (dg x) (dg y) (dg N) hL hni L
  rw [vl_dg, vl_dg, vl_dg, Nat.mod_eq_of_lt hx, Nat.mod_eq_of_lt hy, Nat.mod_eq_of_lt hN] at this
  exact this
theorem mm_T_lt {L ni x y N : Nat} (hL : 0 < L) (hni : (ni * dg N 0 + 1) % 268435456 = 0) (hx : x < 268435456 ^ L) (hy : y < N) (hN : N < 268435456 ^ L) : mm_T L ni x y N < 2 * N := by
  obtain ⟨M, h1, h2⟩ := mm_T_eq (y := y) hL hni hx (by omega) hN
  have hB : 0 < 268435456 ^ L := Nat.pow_pos (by decide)
  have h3 : x * y ≤ 268435456 ^ L * y := Nat.mul_le_mul_right _ (by omega)
  have h4 : M * N ≤ 268435456 ^ L * N := Nat.mul_le_mul_right _ (by omega)
  have h5 : 268435456 ^ L * y + 268435456 ^ L ≤ 268435456 ^ L * N := by
    rw [← Nat.mul_succ]; exact Nat.mul_le_mul_left _ hy
  have h6 : 268435456 ^ L * mm_T L ni x y N < 268435456 ^ L * (2 * N) := by
    rw [h2, Nat.two_mul, Nat.mul_add]; omega
  exact Nat.lt_of_mul_lt_mul_left h6
theorem mm_T_mod {L ni ri x y N : Nat} (hL : 0 < L) (hni : (ni * dg N 0 + 1) % 268435456 = 0) (hx : x < 268435456 ^ L) (hy : y < N) (hN : N < 268435456 ^ L) (hri : 268435456 ^ L * ri % N = 1 % N) : mm_T L ni x y N % N = x * y * ri % N := by
  obtain ⟨M, h1, h2⟩ := mm_T_eq (y := y) hL hni hx (by omega) hN
  have e1 : mm_T L ni x y N % N = (268435456 ^ L * ri % N * (mm_T L ni x y N % N)) % N := by
    rw [hri, ← Nat.mul_mod, Nat.one_mul]
  rw [e1, ← Nat.mul_mod]
  have e2 : 268435456 ^ L * ri * mm_T L ni x y N = x * y * ri + N * (M * ri) := by
    have : 268435456 ^ L * ri * mm_T L ni x y N = (268435456 ^ L * mm_T L ni x y N) * ri := by grind
    rw [this, h2]; grind
  rw [e2, Nat.add_mul_mod_self_left]
theorem lZ_u28 {z : Int} (h1 : 0 ≤ z) (h2 : z < 18446744073709551616) : ((lZ z).toUInt64 >>> ((28 : Int32).toInt64.toUInt64 &&& (63 : Int64).toUInt64)).toInt64 = lZ (z / 268435456) := lZ_ushr (k := 28) h1 h2 (by decide)
theorem mt_s (L ni : Nat) (a b n : Nat → Nat) (i q : Nat) : mt_t L ni a b n (i + 1) q = (if q + 1 < L then mt_t L ni a b n i (q + 1) + a i * b (q + 1) + mt_m L ni a b n i * n (q + 1) else 0) + (if q = 0 then (mt_t L ni a b n i 0 + a i * b 0 + mt_m L ni a b n i * n 0) / 268435456 else 0) := rfl
theorem mt_top (L ni : Nat) (a b n : Nat → Nat) (i : Nat) (h : 1 < L) : mt_t L ni a b n i (L - 1) = 0 := by
  cases i with
  | zero => rfl
  | succ i => rw [mt_s, if_neg (by omega), if_neg (by omega)]
theorem mt_e10 (L ni : Nat) (a b n : Nat → Nat) (i : Nat) : (lZ (mt_t L ni a b n i 0) + lZ (a i) * lZ (b 0)) * lZ ni &&& 268435455 = lZ (mt_m L ni a b n i) := by
  rw [lZ_mul, lZ_add, lZ_mul, lZ_m28]
  refine congrArg lZ ?_
  unfold mt_m
  rw [Int.natCast_emod, Int.natCast_mul, Int.natCast_add, Int.natCast_mul]
  rfl
theorem mt_e12 {t u m n : Nat} (h : t + u + m * n < 18446744073709551616) {a b : Nat} (hu : u = a * b) : ((lZ t + lZ a * lZ b + lZ m * lZ n).toUInt64 >>> ((28 : Int32).toInt64.toUInt64 &&& (63 : Int64).toUInt64)).toInt64 = lZ ((t + u + m * n) / 268435456 : Nat) := by
  subst hu
  rw [lZ_mul, lZ_mul, lZ_add, lZ_add]
  have : ((t : Int) + a * b + m * n) = ((t + a * b + m * n : Nat) : Int) := by rw [Int.natCast_add, Int.natCast_add, Int.natCast_mul, Int.natCast_mul]
  rw [this]
  generalize t + a * b + m * n = A at *
  rw [lZ_u28 (by omega) (by omega)]
  refine congrArg lZ ?_
  omega
/-- the columns while turn i goes: those below j - 1 are new -/
def mt_in (L ni : Nat) (a b n : Nat → Nat) (i j q : Nat) : Nat := if q + 1 < j then mt_t L ni a b n i (q + 1) + a i * b (q + 1) + mt_m L ni a b n i * n (q + 1) else mt_t L ni a b n i q
theorem mt_in_1 (L ni : Nat) (a b n : Nat → Nat) (i q : Nat) : mt_in L ni a b n i 1 q = mt_t L ni a b n i q := by
  unfold mt_in; rw [if_neg (by omega)]
theorem mt_in_0 {L : Nat} (ni : Nat) (a b n : Nat → Nat) (i : Nat) (h : 1 < L) : lZ (mt_t L ni a b n (i + 1) 0) = lZ (mt_in L ni a b n i L 0) + lZ ((mt_t L ni a b n i 0 + a i * b 0 + mt_m L ni a b n i * n 0) / 268435456 : Nat) := by
  rw [lZ_add, mt_s, if_pos (by omega), if_pos rfl, Int.natCast_add]
  unfold mt_in
  rw [if_pos (by omega)]
theorem mt_in_L {L : Nat} (ni : Nat) (a b n : Nat → Nat) (i : Nat) {q : Nat} (h : 1 < L) (hq : q ≠ 0) (hq2 : q < L) : mt_in L ni a b n i L q = mt_t L ni a b n (i + 1) q := by
  rw [mt_s, if_neg hq, Nat.add_zero]
  unfold mt_in
  by_cases q1 : q + 1 < L
  · rw [if_pos q1, if_pos q1]
  · rw [if_neg q1, if_neg q1, show q = L - 1 by omega, mt_top _ _ _ _ _ _ h]
theorem mt_in_n {L : Nat} (ni : Nat) (a b n : Nat → Nat) (i : Nat) {j : Nat} (h : 1 ≤ j) : lZ (mt_in L ni a b n i (j + 1) (j - 1)) = lZ (mt_in L ni a b n i j j) + lZ (a i) * lZ (b j) + lZ (mt_m L ni a b n i) * lZ (n j) := by
  rw [lZ_mul, lZ_mul, lZ_add, lZ_add]
  unfold mt_in
  rw [if_pos (by omega), if_neg (by omega), show j - 1 + 1 = j by omega, Int.natCast_add, Int.natCast_add, Int.natCast_mul, Int.natCast_mul]
theorem mt_in_o {L : Nat} (ni : Nat) (a b n : Nat → Nat) (i : Nat) {j q : Nat} (h : 1 ≤ j) (hq : q ≠ j - 1) : mt_in L ni a b n i j q = mt_in L ni a b n i (j + 1) q := by
  unfold mt_in
  by_cases q1 : q + 1 < j
  · rw [if_pos q1, if_pos (by omega)]
  · rw [if_neg q1, if_neg (by omega)]
section
variable {l : Launch} {O : Nat → vm_Ob} {f9 : Value}
theorem cutf_u {g g' f : Nat → Int64} {L k : Nat} {v : Int64} (hk : k < L) (h1 : g' k = v) (h2 : ∀ q, q ≠ k → q < L → g q = g' q) : vp_updL (cutf g f L) k v = cutf g' f L := by
  funext j
  unfold vp_updL cutf
  by_cases e : j = k
  · subst e; rw [if_pos rfl, if_pos hk, h1]
  · rw [if_neg e]
    by_cases q : j < L
    · rw [if_pos q, if_pos q, h2 j e q]
    · rw [if_neg q, if_neg q]
theorem s_mul {h : vm_H} {ci m L a b c n w na nb nc nn nw x y N ni ri : Nat} {fs : List Value} {fa fb fc fn fw : Nat → Int64} (hci : ci = 6 ∨ ci = 3) (hm : h.2 m = .inr (ci, fs)) (f0 : fs[0]? = some (.int (nI L))) (f1 : fs[1]? = some (.ref n)) (f5 : fs[5]? = some (.long (lZ ni))) (f6 : fs[6]? = some (.ref w)) (ha : h.2 a = .inl (.long, na, .inr (.inl fa))) (hb : h.2 b = .inl (.long, nb, .inr (.inl fb))) (hc : h.2 c = .inl (.long, nc, .inr (.inl fc))) (hn : h.2 n = .inl (.long, nn, .inr (.inl fn))) (hw : h.2 w = .inl (.long, nw, .inr (.inl fw))) (hcn : c ≠ n) (hwn : w ≠ n) (hwa : w ≠ a) (hwb : w ≠ b) (hwc : w ≠ c) (hna : L ≤ na) (hnb : L ≤ nb) (hnc : L ≤ nc) (hnn : L ≤ nn) (hnw : L ≤ nw) (hnw2 : nw < 2147483648) (hL : L ≤ 74) (hL0 : 1 < L) (hco : c < 1099511627776) (hwo : w < 1099511627776) (va : ∀ j, j < L → fa j = lZ (dg x j)) (vb : ∀ j, j < L → fb j = lZ (dg y j)) (vn : ∀ j, j < L → fn j = lZ (dg N j)) (hx : x < 268435456 ^ L) (hy : y < N) (hN : 2 * N ≤ 268435456 ^ L) (hni : (ni * dg N 0 + 1) % 268435456 = 0) (hri : 268435456 ^ L * ri % N = 1 % N) :
    vm_Met (vm_env l O f9) mX6_mul 0 0 [.ref m, .ref a, .ref b, .ref c] h (fun r h' => r = none ∧ ∃ g : Nat → Int64, h' = vm_up (vm_up h w (.inl (.long, nw, .inr (.inl g)))) c (.inl (.long, nc, .inr (.inl (cutf (fun j => lZ (dg (x * y * ri % N) j)) fc L))))) := by
  have hmc : m ≠ c := fun e => by rw [e, hc] at hm; cases hm
  have hmw : m ≠ w := fun e => by rw [e, hw] at hm; cases hm
  have hif : (if ci = 600 then 500 else ci) = ci := by rcases hci with rfl | rfl <;> rfl
  have bb := mt_b L ni (dg x) (dg y) (dg N) (dg_lt x) (dg_lt y) (dg_lt N)
  refine vm_met rfl (Nat.le_of_ble_eq_true rfl) ?_
  refine vm_go rfl (bX6_mul_0 ci) (oX6_mul_0 hci) ⟨fs, _, hm, f6, ⟨0, 0, _, s_fillL hw hwo hnw2, Nat.le_refl _, Nat.le_refl _, ?_⟩⟩
  rintro r h' ⟨rfl, rfl⟩
  refine vm_Th (lv' := [(0, .ref m), (1, .ref a), (2, .ref b), (3, .ref c), (4, .ref w), (5, .int (nI 0))]) (h' := vm_up h w (.inl (.long, nw, .inr (.inl (cutf (fun q => lZ (mt_t L ni (dg x) (dg y) (dg N) 0 q)) (cutf (fun _ => 0) fw nw) L))))) rfl ?_ ?_
  · refine congrArg (fun f => vm_up h w (.inl (.long, nw, .inr (.inl f)))) ?_
    funext q
    unfold cutf
    by_cases q1 : q < L
    · rw [if_pos q1, if_pos (by omega)]; rfl
    · rw [if_neg q1]
  refine vm_for L (fun i => [(0, .ref m), (1, .ref a), (2, .ref b), (3, .ref c), (4, .ref w), (5, .int (nI i))]) (fun i => vm_up h w (.inl (.long, nw, .inr (.inl (cutf (fun q => lZ (mt_t L ni (dg x) (dg y) (dg N) i q)) (cutf (fun _ => 0) fw nw) L))))) 0 (Nat.zero_le _) ?_ ?_
  · refine vm_go rfl (bX6_mul_15 ci) (oX6_mul_15 hci) ⟨fs, _, (vm_upn hmw).trans hm, f0, ⟨fun _ => ?_, fun q => absurd (nI_get (Nat.le_refl _) (by omega)) q⟩⟩
    refine vm_go rfl bX6_mul_137 oX6_mul_137 ?_
    have bt : ∀ j, mt_t L ni (dg x) (dg y) (dg N) L j < 13835058055282163712 := by
      intro j
      have := bb L hL j
      split at this <;> omega
    generalize hW : cutf (fun q => lZ (mt_t L ni (dg x) (dg y) (dg N) L q)) (cutf (fun _ => 0) fw nw) L = W
    have hW2 : ∀ j, j < L → W j = lZ (mt_t L ni (dg x) (dg y) (dg N) L j) := by intro j hj; rw [← hW, cutf_lo hj]
    refine vm_Th (lv' := [(0, .ref m), (1, .ref a), (2, .ref b), (3, .ref c), (4, .ref w), (5, .long (lZ (vl (mt_t L ni (dg x) (dg y) (dg N) L) 0 / 268435456 ^ 0 : Nat))), (7, .int (nI 0))]) (h' := vm_up (vm_up h w (.inl (.long, nw, .inr (.inl W)))) c (.inl (.long, nc, .inr (.inl (cutf (fun j => lZ (dg (mm_T L ni x y N) j)) fc 0))))) (by rw [show vl (mt_t L ni (dg x) (dg y) (dg N) L) 0 = 0 from rfl, Nat.zero_div]; rfl) (by rw [cutf_0]; exact vm_ups ((vm_upn (Ne.symm hwc)).trans hc)) ?_
    refine vm_for L (fun i => [(0, .ref m), (1, .ref a), (2, .ref b), (3, .ref c), (4, .ref w), (5, .long (lZ (vl (mt_t L ni (dg x) (dg y) (dg N) L) i / 268435456 ^ i : Nat))), (7, .int (nI i))]) (fun i => vm_up (vm_up h w (.inl (.long, nw, .inr (.inl W)))) c (.inl (.long, nc, .inr (.inl (cutf (fun j => lZ (dg (mm_T L ni x y N) j)) fc i))))) 0 (Nat.zero_le _) ?_ ?_
    · refine vm_go rfl (bX6_mul_143 ci) (oX6_mul_143 hci) ⟨fs, _, (vm_upn hmc).trans ((vm_upn hmw).trans hm), f0, ⟨fun _ => ?_, fun q => absurd (nI_get (Nat.le_refl _) (by omega)) q⟩⟩
      refine vm_go rfl (bX6_mul_185 ci) (oX6_mul_185 hci) ⟨fs, by rw [hif]; exact (vm_upn hmc).trans ((vm_upn hmw).trans hm), 0, 0, _, s_low (v := mm_T L ni x y N) hci ((vm_upn hmc).trans ((vm_upn hmw).trans hm)) f0 f1 vm_upe ((vm_upn (Ne.symm hcn)).trans ((vm_upn (Ne.symm hwn)).trans hn)) hcn hnc hnn (by omega) (by omega) hco (fun j hj => cutf_lo hj) vn (by have := mm_T_lt (by omega) hni hx hy (by omega); omega) (by omega), Nat.le_refl _, Nat.le_refl _, ?_⟩
      rintro r h' ⟨rfl, rfl⟩
      refine ⟨rfl, W, ?_⟩
      rw [vm_upup, cutf_c]
      have t1 := mm_T_lt (ni := ni) (by omega) hni hx hy (by omega)
      have t2 := mm_T_mod (by omega) hni hx hy (by omega) hri
      have e : (if mm_T L ni x y N < N then mm_T L ni x y N else mm_T L ni x y N - N) = x * y * ri % N := by
        rw [← t2]
        split
        · next q => exact (Nat.mod_eq_of_lt q).symm
        · next q => rw [Nat.mod_eq_sub_mod (by omega), Nat.mod_eq_of_lt (by omega)]
      rw [e]
    · intro i _ hi ih
      refine vm_go rfl (bX6_mul_143 ci) (oX6_mul_143 hci) ⟨fs, _, (vm_upn hmc).trans ((vm_upn hmw).trans hm), f0, ⟨fun q => absurd q (nI_ge hi (by omega)), fun _ => ?_⟩⟩
      refine ⟨nw, W, (vm_upn hwc).trans vm_upe, i, rfl, by omega, ?_⟩
      refine ⟨nc, _, vm_upe, hco, i, rfl, by omega, ?_⟩
      rw [hW2 i hi]
      have e1 := vl_dgs (mt_t L ni (dg x) (dg y) (dg N) L) hi
      have e2 := vl_cy (f := mt_t L ni (dg x) (dg y) (dg N) L) i (fun j _ => bt j)
      have e3 := bt i
      have e4 := dg_lt (vl (mt_t L ni (dg x) (dg y) (dg N) L) L) i
      refine vm_less [0, 1, 2, 3, 4, 5, 6] rfl ?_
      refine vm_Th ?_ ?_ ih
      · show _ = [(0, Value.ref m), (1, .ref a), (2, .ref b), (3, .ref c), (4, .ref w), (5, .long (((lZ (mt_t L ni (dg x) (dg y) (dg N) L i) + lZ (vl (mt_t L ni (dg x) (dg y) (dg N) L) i / 268435456 ^ i : Nat)).toUInt64 >>> ((28 : Int32).toInt64.toUInt64 &&& (63 : Int64).toUInt64)).toInt64)), (7, .int (nI i + 1))]
        rw [lZ_add, lZ_u28 (by omega) (by omega), nI_1]
        generalize vl (mt_t L ni (dg x) (dg y) (dg N) L) i / 268435456 ^ i = c0 at *
        generalize vl (mt_t L ni (dg x) (dg y) (dg N) L) (i + 1) / 268435456 ^ (i + 1) = c1 at *
        rw [show ((mt_t L ni (dg x) (dg y) (dg N) L i : Int) + c0) / 268435456 = c1 by omega]
      · rw [vm_upup, cutf_sL]
        rw [lZ_add, lZ_m28]
        refine congrArg lZ ?_
        show _ = ((dg (vl (mt_t L ni (dg x) (dg y) (dg N) L) L) i : Nat) : Int)
        omega
  · intro i _ hi ih
    refine vm_go rfl (bX6_mul_15 ci) (oX6_mul_15 hci) ⟨fs, _, (vm_upn hmw).trans hm, f0, ⟨fun q => absurd q (nI_ge hi (by omega)), fun _ => ?_⟩⟩
    refine ⟨na, fa, (vm_upn (Ne.symm hwa)).trans ha, i, rfl, by omega, ?_⟩
    refine ⟨nw, _, vm_upe, 0, rfl, by omega, ?_⟩
    refine ⟨nb, fb, (vm_upn (Ne.symm hwb)).trans hb, 0, rfl, by omega, ?_⟩
    refine ⟨fs, _, (vm_upn hmw).trans hm, f5, ?_⟩
    refine ⟨fs, _, (vm_upn hmw).trans hm, f1, ?_⟩
    refine ⟨nn, fn, (vm_upn (Ne.symm hwn)).trans hn, 0, rfl, by omega, ?_⟩
    rw [va i hi, vb 0 (by omega), vn 0 (by omega), cutf_lo (by omega)]
    have b0 := bb i (by omega) 0
    rw [if_pos rfl] at b0
    have hml : mt_m L ni (dg x) (dg y) (dg N) i < 268435456 := Nat.mod_lt _ (by decide)
    have p3 : dg x i * dg y 0 ≤ 268435455 * 268435455 := Nat.mul_le_mul (by have := dg_lt x i; omega) (by have := dg_lt y 0; omega)
    have p4 : mt_m L ni (dg x) (dg y) (dg N) i * dg N 0 ≤ 268435455 * 268435455 := Nat.mul_le_mul (by omega) (by have := dg_lt N 0; omega)
    rw [mt_e10]
    refine vm_less [0, 1, 2, 3, 4, 5, 6, 8, 9, 10] rfl ?_
    rw [mt_e12 (u := dg x i * dg y 0) (by omega) rfl]
    refine vm_Th (lv' := [(0, .ref m), (1, .ref a), (2, .ref b), (3, .ref c), (4, .ref w), (5, .int (nI i)), (6, .long (lZ (dg x i))), (10, .long (lZ (mt_m L ni (dg x) (dg y) (dg N) i))), (12, .long (lZ ((mt_t L ni (dg x) (dg y) (dg N) i 0 + dg x i * dg y 0 + mt_m L ni (dg x) (dg y) (dg N) i * dg N 0) / 268435456 : Nat))), (14, .int (nI 1))]) (h' := vm_up h w (.inl (.long, nw, .inr (.inl (cutf (fun q => lZ (mt_in L ni (dg x) (dg y) (dg N) i 1 q)) (cutf (fun _ => 0) fw nw) L))))) rfl (by
      refine congrArg (fun f => vm_up h w (.inl (.long, nw, .inr (.inl f)))) (cutf_e (fun j hj => by rw [mt_in_1]))) ?_
    refine vm_for L (fun j => [(0, .ref m), (1, .ref a), (2, .ref b), (3, .ref c), (4, .ref w), (5, .int (nI i)), (6, .long (lZ (dg x i))), (10, .long (lZ (mt_m L ni (dg x) (dg y) (dg N) i))), (12, .long (lZ ((mt_t L ni (dg x) (dg y) (dg N) i 0 + dg x i * dg y 0 + mt_m L ni (dg x) (dg y) (dg N) i * dg N 0) / 268435456 : Nat))), (14, .int (nI j))]) (fun j => vm_up h w (.inl (.long, nw, .inr (.inl (cutf (fun q => lZ (mt_in L ni (dg x) (dg y) (dg N) i j q)) (cutf (fun _ => 0) fw nw) L))))) 1 (by omega) ?_ ?_
    · refine vm_go rfl (bX6_mul_76 ci) (oX6_mul_76 hci) ⟨fs, _, (vm_upn hmw).trans hm, f0, ⟨fun _ => ?_, fun q => absurd (nI_get (Nat.le_refl _) (by omega)) q⟩⟩
      refine vm_go rfl bX6_mul_122 oX6_mul_122 ⟨nw, _, vm_upe, 0, rfl, by omega, ⟨nw, _, vm_upe, hwo, 0, rfl, by omega, ?_⟩⟩
      refine vm_less [0, 1, 2, 3, 4, 5] rfl ?_
      refine vm_Th ?_ ?_ ih
      · rw [← nI_1]; rfl
      · rw [vm_upup]
        refine congrArg (fun f => vm_up h w (.inl (.long, nw, .inr (.inl f)))) (Eq.symm (cutf_u (by omega) ?_ ?_))
        · rw [cutf_lo (by omega), mt_in_0 _ _ _ _ _ hL0]
        · intro q hq hq2
          exact congrArg (fun t : Nat => lZ t) (mt_in_L _ _ _ _ _ hL0 hq hq2)
    · intro j hj1 hj ihj
      refine vm_go rfl (bX6_mul_76 ci) (oX6_mul_76 hci) ⟨fs, _, (vm_upn hmw).trans hm, f0, ⟨fun q => absurd q (nI_ge hj (by omega)), fun _ => ?_⟩⟩
      refine ⟨nw, _, vm_upe, j, rfl, by omega, ?_⟩
      refine ⟨nb, fb, (vm_upn (Ne.symm hwb)).trans hb, j, rfl, by omega, ?_⟩
      refine ⟨fs, _, (vm_upn hmw).trans hm, f1, ?_⟩
      refine ⟨nn, fn, (vm_upn (Ne.symm hwn)).trans hn, j, rfl, by omega, ?_⟩
      have ep : nI j - 1 = nI (j - 1) := by
        obtain ⟨k, rfl⟩ : ∃ k, j = k + 1 := ⟨j - 1, by omega⟩
        exact nI_pred k
      refine ⟨nw, _, vm_upe, hwo, j - 1, ep, by omega, ?_⟩
      rw [vb j hj, vn j hj, cutf_lo hj]
      refine vm_Th ?_ ?_ ihj
      · rw [← nI_1]; rfl
      · rw [vm_upup]
        refine congrArg (fun f => vm_up h w (.inl (.long, nw, .inr (.inl f)))) (Eq.symm (cutf_u (by omega) ?_ ?_))
        · exact mt_in_n _ _ _ _ _ hj1
        · intro q hq hq2
          exact congrArg (fun t : Nat => lZ t) (mt_in_o _ _ _ _ _ hj1 hq)
end
