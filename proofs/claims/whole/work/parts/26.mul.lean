/-! VeilMint$Modulus.mul: Montgomery's product -/
/-- the sums of the columns at the beginning of turn i -/
def mt_t (L ni : Nat) (a b n : Nat → Nat) : Nat → Nat → Nat
  | 0 => fun _ => 0
  | i + 1 => fun j =>
    (if j + 1 < L then mt_t L ni a b n i (j + 1) + a i * b (j + 1) + (mt_t L ni a b n i 0 + a i * b 0) * ni % 268435456 * n (j + 1) else 0) +
    (if j = 0 then (mt_t L ni a b n i 0 + a i * b 0 + (mt_t L ni a b n i 0 + a i * b 0) * ni % 268435456 * n 0) / 268435456 else 0)
/-- so many times the modulus is added in turn i -/
def mt_m (L ni : Nat) (a b n : Nat → Nat) (i : Nat) : Nat := (mt_t L ni a b n i 0 + a i * b 0) * ni % 268435456
/-- the value of L columns -/
def vl (f : Nat → Nat) : Nat → Nat
  | 0 => 0
  | k + 1 => vl f k + f k * 268435456 ^ k
theorem vl_dg (x : Nat) : ∀ k, vl (dg x) k = x % 268435456 ^ k
  | 0 => by rw [Nat.pow_zero, Nat.mod_one]; rfl
  | k + 1 => by
    show vl (dg x) k + dg x k * _ = _
    rw [vl_dg x k, dg_split, Nat.mul_comm]
theorem vl_congr {f g : Nat → Nat} : ∀ k, (∀ j, j < k → f j = g j) → vl f k = vl g k
  | 0, _ => rfl
  | k + 1, h => by
    show vl f k + f k * _ = vl g k + g k * _
    rw [vl_congr k (fun j hj => h j (by omega)), h k (by omega)]
theorem vl_add (f g : Nat → Nat) : ∀ k, vl (fun j => f j + g j) k = vl f k + vl g k
  | 0 => rfl
  | k + 1 => by
    show vl (fun j => f j + g j) k + (f k + g k) * _ = vl f k + f k * _ + (vl g k + g k * _)
    rw [vl_add f g k, Nat.add_mul]; omega
theorem vl_mul (c : Nat) (f : Nat → Nat) : ∀ k, vl (fun j => c * f j) k = c * vl f k
  | 0 => rfl
  | k + 1 => by
    show vl (fun j => c * f j) k + c * f k * _ = c * (vl f k + f k * _)
    rw [vl_mul c f k, Nat.mul_add, Nat.mul_assoc]
theorem vl_zero : ∀ k, vl (fun _ => 0) k = 0
  | 0 => rfl
  | k + 1 => by show vl (fun _ => 0) k + 0 * _ = 0; rw [vl_zero k, Nat.zero_mul]
/-- all columns a place lower: the lowest falls out -/
theorem vl_shift (f : Nat → Nat) : ∀ k, f 0 + 268435456 * vl (fun j => f (j + 1)) k = vl f (k + 1)
  | 0 => by show f 0 + 268435456 * 0 = 0 + f 0 * 268435456 ^ 0; rw [Nat.pow_zero]; omega
  | k + 1 => by
    show f 0 + 268435456 * (vl (fun j => f (j + 1)) k + f (k + 1) * 268435456 ^ k) = vl f (k + 1) + f (k + 1) * 268435456 ^ (k + 1)
    rw [← vl_shift f k, Nat.pow_succ, Nat.mul_add]
    have : 268435456 * (f (k + 1) * 268435456 ^ k) = f (k + 1) * (268435456 ^ k * 268435456) := by
      rw [Nat.mul_comm, Nat.mul_assoc]
    omega
theorem mt_low (L ni : Nat) (a b n : Nat → Nat) (i : Nat) (hni : (ni * n 0 + 1) % 268435456 = 0) : (mt_t L ni a b n i 0 + a i * b 0 + mt_m L ni a b n i * n 0) % 268435456 = 0 := by
  unfold mt_m
  generalize mt_t L ni a b n i 0 + a i * b 0 = w
  have e : (w + w * ni % 268435456 * n 0) % 268435456 = (w * (ni * n 0 + 1)) % 268435456 := by
    rw [Nat.add_mod, Nat.mul_mod (w * ni % 268435456), Nat.mod_mod, ← Nat.mul_mod, ← Nat.add_mod]
    congr 1
    rw [Nat.mul_add, Nat.mul_one, Nat.mul_assoc]; omega
  rw [e, Nat.mul_mod, hni, Nat.mul_zero, Nat.zero_mod]
/-- one turn: the columns and what comes to them, divided by the base -/
theorem mt_step (L ni : Nat) (a b n : Nat → Nat) (i : Nat) (hL : 0 < L) (hni : (ni * n 0 + 1) % 268435456 = 0) (h0 : mt_t L ni a b n i (L - 1 + 1) = 0 ∨ True) :
    268435456 * vl (mt_t L ni a b n (i + 1)) L = vl (mt_t L ni a b n i) L + a i * vl b L + mt_m L ni a b n i * vl n L := by
  obtain ⟨k, rfl⟩ : ∃ k, L = k + 1 := ⟨L - 1, by omega⟩
  have hlow := mt_low (k + 1) ni a b n i hni
  have hdiv := Nat.div_add_mod (mt_t (k + 1) ni a b n i 0 + a i * b 0 + mt_m (k + 1) ni a b n i * n 0) 268435456
  rw [hlow] at hdiv
  have e1 : vl (mt_t (k + 1) ni a b n (i + 1)) (k + 1) = vl (fun j => mt_t (k + 1) ni a b n i (j + 1) + a i * b (j + 1) + mt_m (k + 1) ni a b n i * n (j + 1)) k + (mt_t (k + 1) ni a b n i 0 + a i * b 0 + mt_m (k + 1) ni a b n i * n 0) / 268435456 := by
    sorry
  have e2 : vl (mt_t (k + 1) ni a b n i) (k + 1) + a i * vl b (k + 1) + mt_m (k + 1) ni a b n i * vl n (k + 1) = vl (fun j => mt_t (k + 1) ni a b n i j + a i * b j + mt_m (k + 1) ni a b n i * n j) (k + 1) := by
    rw [vl_add (fun j => mt_t (k + 1) ni a b n i j + a i * b j), vl_add, vl_mul, vl_mul]
  rw [e2, ← vl_shift, e1]
  dsimp only
  omega
