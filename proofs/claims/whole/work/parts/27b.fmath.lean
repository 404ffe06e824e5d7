/-! columns of a product, and the reduction by P -/
/-- column k of a product of two numbers of 14 limbs, the first i rows -/
def cv (a b : Nat → Nat) : Nat → Nat → Nat
  | 0, _ => 0
  | i + 1, k => cv a b i k + (if i ≤ k ∧ k < i + 14 then a i * b (k - i) else 0)
theorem vl_sh (i c : Nat) (b : Nat → Nat) : ∀ n, vl (fun k => if i ≤ k then c * b (k - i) else 0) (i + n) = c * 268435456 ^ i * vl b n
  | 0 => by
    show vl _ i = _ * 0
    rw [vl_congr (g := fun _ => 0) i (fun j hj => if_neg (by omega)), vl_zero, Nat.mul_zero]
  | n + 1 => by
    show vl _ (i + n) + (if i ≤ i + n then c * b (i + n - i) else 0) * 268435456 ^ (i + n) = _ * (vl b n + b n * _)
    rw [vl_sh i c b n, if_pos (by omega), show i + n - i = n by omega, Nat.pow_add]
    grind
theorem vl_sh2 (i c n : Nat) (b : Nat → Nat) : ∀ d, vl (fun k => if i ≤ k ∧ k < i + n then c * b (k - i) else 0) (i + n + d) = c * 268435456 ^ i * vl b n
  | 0 => by
    show vl _ (i + n) = _
    rw [← vl_sh i c b n]
    refine vl_congr _ (fun j hj => ?_)
    by_cases q : i ≤ j
    · rw [if_pos ⟨q, hj⟩, if_pos q]
    · rw [if_neg (by omega), if_neg q]
  | d + 1 => by
    show vl _ (i + n + d) + (if i ≤ i + n + d ∧ i + n + d < i + n then _ else 0) * _ = _
    rw [vl_sh2 i c n b d, if_neg (by omega), Nat.zero_mul, Nat.add_zero]
theorem cv_vl (a b : Nat → Nat) : ∀ i, i ≤ 14 → vl (cv a b i) 27 = vl a i * vl b 14
  | 0, _ => by show vl (fun _ => 0) 27 = 0 * _; rw [vl_zero, Nat.zero_mul]
  | i + 1, h => by
    have e := vl_add (cv a b i) (fun k => if i ≤ k ∧ k < i + 14 then a i * b (k - i) else 0) 27
    show vl (fun k => cv a b i k + (if i ≤ k ∧ k < i + 14 then a i * b (k - i) else 0)) 27 = (vl a i + a i * 268435456 ^ i) * vl b 14
    rw [e, cv_vl a b i (by omega)]
    have e2 := vl_sh2 i (a i) 14 b (13 - i)
    rw [show i + 14 + (13 - i) = 27 by omega] at e2
    rw [e2, Nat.add_mul]
theorem cv_le {a b : Nat → Nat} (ha : ∀ j, a j < 268435456) (hb : ∀ j, b j < 268435456) : ∀ i k, cv a b i k ≤ i * 72057593501057025
  | 0, _ => Nat.zero_le _
  | i + 1, k => by
    have h1 := cv_le ha hb i k
    show cv a b i k + (if i ≤ k ∧ k < i + 14 then a i * b (k - i) else 0) ≤ _
    have p : a i * b (k - i) ≤ 268435455 * 268435455 := Nat.mul_le_mul (by have := ha i; omega) (by have := hb (k - i); omega)
    rw [Nat.succ_mul]
    refine Nat.add_le_add h1 ?_
    split
    · exact p
    · exact Nat.zero_le _
theorem cv_27 (a b : Nat → Nat) : ∀ i, i ≤ 14 → cv a b i 27 = 0
  | 0, _ => rfl
  | i + 1, h => by
    show cv a b i 27 + (if i ≤ 27 ∧ 27 < i + 14 then _ else 0) = 0
    rw [cv_27 a b i (by omega), if_neg (by omega)]
/-- the value of columns of whole numbers -/
def vz (f : Nat → Int) : Nat → Int
  | 0 => 0
  | k + 1 => vz f k + f k * 268435456 ^ k
theorem vz_vl (f : Nat → Nat) : ∀ k, vz (fun j => (f j : Int)) k = (vl f k : Nat)
  | 0 => rfl
  | k + 1 => by
    show vz _ k + (f k : Int) * 268435456 ^ k = ((vl f k + f k * 268435456 ^ k : Nat) : Int)
    rw [vz_vl f k, Int.natCast_add, Int.natCast_mul, Int.natCast_pow]
    rfl
theorem vz_congr {f g : Nat → Int} : ∀ k, (∀ j, j < k → f j = g j) → vz f k = vz g k
  | 0, _ => rfl
  | k + 1, h => by
    show vz f k + f k * _ = vz g k + g k * _
    rw [vz_congr k (fun j hj => h j (by omega)), h k (by omega)]
theorem vz_add (f g : Nat → Int) : ∀ k, vz (fun j => f j + g j) k = vz f k + vz g k
  | 0 => rfl
  | k + 1 => by
    show vz (fun j => f j + g j) k + (f k + g k) * _ = vz f k + f k * _ + (vz g k + g k * _)
    rw [vz_add f g k, Int.add_mul]; omega
theorem vz_zero : ∀ k, vz (fun _ => 0) k = 0
  | 0 => rfl
  | k + 1 => by show vz (fun _ => 0) k + 0 * _ = 0; rw [vz_zero k, Int.zero_mul]; rfl
theorem vz_dlt (j : Nat) (c : Int) : ∀ d, vz (fun q => if q = j then c else 0) (j + 1 + d) = c * 268435456 ^ j
  | 0 => by
    show vz _ j + (if j = j then c else 0) * _ = _
    rw [vz_congr (g := fun _ => 0) j (fun q hq => if_neg (by omega)), vz_zero, if_pos rfl, Int.zero_add]
  | d + 1 => by
    show vz _ (j + 1 + d) + (if j + 1 + d = j then c else 0) * _ = _
    rw [vz_dlt j c d, if_neg (by omega), Int.zero_mul, Int.add_zero]
theorem vz_dl (j : Nat) (c : Int) (h : j < 28) : vz (fun q => if q = j then c else 0) 28 = c * 268435456 ^ j := by
  have := vz_dlt j c (27 - j)
  rwa [show j + 1 + (27 - j) = 28 by omega] at this
theorem vz_cut (f : Nat → Int) (a : Nat) : ∀ b, vz f (a + b) = vz f a + 268435456 ^ a * vz (fun j => f (a + j)) b
  | 0 => by show vz f a = vz f a + _ * 0; rw [Int.mul_zero, Int.add_zero]
  | b + 1 => by
    show vz f (a + b) + f (a + b) * 268435456 ^ (a + b) = vz f a + 268435456 ^ a * (vz (fun j => f (a + j)) b + f (a + b) * 268435456 ^ b)
    rw [vz_cut f a b, Int.pow_add]
    grind
/-- one turn of the reduction -/
def rd_s (u : Nat → Int) (i q : Nat) : Int :=
  u q + (if q = i + 1 then u i / 268435456 + u i % 268435456 * 16 else 0) + (if q = i + 3 then -(u i % 268435456 * 4096) else 0) + (if q = i + 4 then -(u i % 268435456 * 65536) else 0) + (if q = i + 13 then u i % 268435456 * 1048576 else 0)
def rd (u : Nat → Int) : Nat → Nat → Int
  | 0 => u
  | i + 1 => rd_s (rd u i) i
/-- P-384's field -/
def cP : Nat := 39402006196394479212279040100143613805079739270465446667948293404245721771496870329047266088258938001861606973112319
theorem cP_eq : (cP : Int) = 268435456 ^ 13 * 1048576 - 268435456 ^ 4 * 65536 - 268435456 ^ 3 * 4096 + 268435456 * 16 - 1 := by decide
/-- the columns that still count -/
def rd_g (u : Nat → Int) (i q : Nat) : Int := if q < i then 0 else rd u i q
theorem rd_step (u : Nat → Int) (i : Nat) (hi : i < 14) : vz (rd_g u (i + 1)) 28 = vz (rd_g u i) 28 + rd u i i % 268435456 * cP * 268435456 ^ i := by
  have e : ∀ q, q < 28 → rd_g u (i + 1) q = (fun q => (fun q => (fun q => (fun q => (fun q => rd_g u i q + (if q = i + 1 then rd u i i / 268435456 + rd u i i % 268435456 * 16 else 0)) q + (if q = i + 3 then -(rd u i i % 268435456 * 4096) else 0)) q + (if q = i + 4 then -(rd u i i % 268435456 * 65536) else 0)) q + (if q = i + 13 then rd u i i % 268435456 * 1048576 else 0)) q + (if q = i then -(rd u i i) else 0)) q := by
    intro q _
    unfold rd_g
    by_cases h1 : q < i
    · rw [if_pos (by omega)]
      simp only [if_pos h1]
      rw [if_neg (by omega), if_neg (by omega), if_neg (by omega), if_neg (by omega), if_neg (by omega)]
      rfl
    · by_cases h2 : q = i
      · subst h2
        rw [if_pos (by omega)]
        simp only [if_neg h1]
        rw [if_neg (by omega), if_neg (by omega), if_neg (by omega), if_neg (by omega), if_pos trivial]
        omega
      · rw [if_neg (by omega)]
        simp only [if_neg h1, if_neg h2]
        rw [Int.add_zero]
        rfl
  rw [vz_congr 28 e, vz_add, vz_add, vz_add, vz_add, vz_add, vz_dl _ _ (by omega), vz_dl _ _ (by omega), vz_dl _ _ (by omega), vz_dl _ _ (by omega), vz_dl _ _ (by omega), cP_eq]
  have hd := Int.mul_ediv_add_emod (rd u i i) 268435456
  generalize rd u i i / 268435456 = d at *
  generalize rd u i i % 268435456 = m at *
  rw [show rd u i i = 268435456 * d + m by omega]
  rw [Int.pow_add, Int.pow_add, Int.pow_add, Int.pow_add]
  generalize (268435456 : Int) ^ i = Z
  grind
def rd_M (u : Nat → Int) : Nat → Int
  | 0 => 0
  | i + 1 => rd_M u i + rd u i i % 268435456 * 268435456 ^ i
theorem rd_M_lt (u : Nat → Int) : ∀ i, 0 ≤ rd_M u i ∧ rd_M u i < 268435456 ^ i
  | 0 => ⟨Int.le_refl 0, by show (0 : Int) < 1; decide⟩
  | i + 1 => by
    obtain ⟨h1, h2⟩ := rd_M_lt u i
    have h3 := Int.emod_nonneg (rd u i i) (b := 268435456) (by decide)
    have h4 := Int.emod_lt_of_pos (rd u i i) (b := 268435456) (by decide)
    have hp : (0 : Int) < 268435456 ^ i := Int.pow_pos (by decide)
    show 0 ≤ rd_M u i + rd u i i % 268435456 * 268435456 ^ i ∧ rd_M u i + rd u i i % 268435456 * 268435456 ^ i < 268435456 ^ (i + 1)
    rw [Int.pow_succ]
    generalize rd u i i % 268435456 = m at *
    generalize (268435456 : Int) ^ i = Z at *
    have h5 : 0 ≤ m * Z := Int.mul_nonneg h3 (by omega)
    have h6 : m * Z ≤ 268435455 * Z := Int.mul_le_mul_of_nonneg_right (by omega) (by omega)
    omega
theorem rd_sum (u : Nat → Int) : ∀ i, i ≤ 14 → vz (rd_g u i) 28 = vz u 28 + rd_M u i * cP
  | 0, _ => by
    show _ = _ + 0 * _
    rw [Int.zero_mul, Int.add_zero]
    exact vz_congr 28 (fun j _ => if_neg (by omega))
  | i + 1, h => by
    rw [rd_step u i (by omega), rd_sum u i (by omega)]
    show _ = _ + (rd_M u i + rd u i i % 268435456 * 268435456 ^ i) * _
    grind
theorem rd_end (u : Nat → Int) : 268435456 ^ 14 * vz (fun j => rd u 14 (14 + j)) 14 = vz u 28 + rd_M u 14 * cP := by
  rw [← rd_sum u 14 (Nat.le_refl _)]
  have e := vz_cut (rd_g u 14) 14 14
  rw [show 14 + 14 = 28 from rfl] at e
  rw [e, vz_congr (f := rd_g u 14) (g := fun _ => 0) 14 (fun j hj => if_pos hj), vz_zero, Int.zero_add]
  congr 1
theorem rd_bd {u : Nat → Int} (hu : ∀ q, 0 ≤ u q ∧ u q ≤ 1008806309014798350) : ∀ i, i ≤ 14 → ∀ q, -(i * 1125899906842624) ≤ rd u i q ∧ rd u i q ≤ 1008806309014798350 + i * 1125899906842624
  | 0, _, q => by have := hu q; show _ ≤ u q ∧ u q ≤ _; omega
  | i + 1, h, q => by
    have h1 := rd_bd hu i (by omega) q
    have h2 := rd_bd hu i (by omega) i
    show _ ≤ rd_s (rd u i) i q ∧ rd_s (rd u i) i q ≤ _
    unfold rd_s
    have e1 : rd u i i % 268435456 < 268435456 := Int.emod_lt_of_pos _ (by decide)
    have e2 : 0 ≤ rd u i i % 268435456 := Int.emod_nonneg _ (by decide)
    have e3 : rd u i i / 268435456 ≤ 68719476736 := by omega
    have e4 : -68719476736 ≤ rd u i i / 268435456 := by omega
    generalize rd u i i / 268435456 = d at *
    generalize rd u i i % 268435456 = m at *
    generalize rd u i q = z at *
    have hc : ((i + 1 : Nat) : Int) = i + 1 := rfl
    by_cases c1 : q = i + 1
    · rw [if_pos c1, if_neg (by omega), if_neg (by omega), if_neg (by omega)]; omega
    · rw [if_neg c1]
      by_cases c2 : q = i + 3
      · rw [if_pos c2, if_neg (by omega), if_neg (by omega)]; omega
      · rw [if_neg c2]
        by_cases c3 : q = i + 4
        · rw [if_pos c3, if_neg (by omega)]; omega
        · rw [if_neg c3]
          by_cases c4 : q = i + 13
          · rw [if_pos c4]; omega
          · rw [if_neg c4]; omega
/-- carry by carry, columns of whole numbers -/
theorem vz_dgs (f : Nat → Int) (T i d : Nat) (h : vz f (i + 1 + d) = T) : f i + vz f i / 268435456 ^ i = dg T i + 268435456 * (vz f (i + 1) / 268435456 ^ (i + 1)) := by
  have hB : (0 : Int) < 268435456 ^ i := Int.pow_pos (by decide)
  have e2 : vz f (i + 1) / 268435456 ^ i = f i + vz f i / 268435456 ^ i := by
    show (vz f i + f i * 268435456 ^ i) / _ = _
    rw [Int.add_mul_ediv_right _ _ (by omega)]; omega
  have e3 : (T : Int) / 268435456 ^ i % 268435456 = vz f (i + 1) / 268435456 ^ i % 268435456 := by
    rw [← h, vz_cut f (i + 1) d, Int.pow_succ, Int.mul_assoc, Int.add_mul_ediv_left _ _ (by omega), Int.add_mul_emod_self_left]
  have e4 : ((dg T i : Nat) : Int) = (T : Int) / 268435456 ^ i % 268435456 := by
    unfold dg
    rw [Int.natCast_emod, Int.natCast_ediv, Int.natCast_pow]
    rfl
  rw [e4, e3, e2, Int.pow_succ, ← Int.ediv_ediv_of_nonneg (by omega), e2]
  have := Int.mul_ediv_add_emod (f i + vz f i / 268435456 ^ i) 268435456
  omega
theorem vz_cy {f : Nat → Int} : ∀ i, (∀ j, j < i → -1152921504606846976 ≤ f j ∧ f j ≤ 1152921504606846976) → -8589934592 ≤ vz f i / 268435456 ^ i ∧ vz f i / 268435456 ^ i ≤ 8589934592
  | 0, _ => by
    show -8589934592 ≤ (0 : Int) / 268435456 ^ 0 ∧ (0 : Int) / 268435456 ^ 0 ≤ 8589934592
    rw [Int.zero_ediv]; decide
  | i + 1, h => by
    have h1 := vz_cy i (fun j hj => h j (by omega))
    have h3 := h i (by omega)
    have hB : (0 : Int) < 268435456 ^ i := Int.pow_pos (by decide)
    have e2 : vz f (i + 1) / 268435456 ^ i = f i + vz f i / 268435456 ^ i := by
      show (vz f i + f i * 268435456 ^ i) / _ = _
      rw [Int.add_mul_ediv_right _ _ (by omega)]; omega
    rw [Int.pow_succ, ← Int.ediv_ediv_of_nonneg (by omega), e2]
    omega
