/-! bytes; Modulus.read, write, digitAt, halve -/
/-- the byte of a number below 256 -/
def sb (b : Nat) : Int32 := (Int32.ofNat b).toInt8.toInt32
theorem sb_and : ∀ b, b < 256 → sb b &&& 255 = nI b := by decide +kernel
theorem sb_and15 : ∀ b, b < 256 → sb b &&& 15 = nI (b % 16) := by decide +kernel
theorem sb_shr4 : ∀ b, b < 256 → (sb b >>> ((4 : Int32) &&& 31)) &&& 15 = nI (b / 16) := by decide +kernel
theorem sb_long : ∀ b, b < 256 → (sb b).toInt64 &&& 255 = lZ b := by decide +kernel
theorem sb_fit : ∀ b, b < 256 → fits .byte (.int (sb b)) = true := by decide +kernel
theorem sb_self : ∀ b, b < 256 → (sb b).toInt8.toInt32 = sb b := by decide +kernel
theorem sb_I (z : Int) : (Int32.ofInt z).toInt8.toInt32 = sb (z % 256).toNat := by
  unfold sb
  rw [Int32.toInt8_ofInt, Int32.toInt8_ofNat']
  refine congrArg Int8.toInt32 ?_
  apply Int8.toBitVec_inj.mp
  show BitVec.ofInt 8 z = BitVec.ofNat 8 (z % 256).toNat
  apply BitVec.eq_of_toNat_eq
  rw [BitVec.toNat_ofInt, BitVec.toNat_ofNat]
  have h1 := Int.emod_nonneg z (b := 256) (by decide)
  have h2 := Int.emod_lt_of_pos z (b := 256) (by decide)
  show (z % 256).toNat = (z % 256).toNat % 256
  omega
theorem sb_L (z : Int) : (lZ z).toInt32.toInt8.toInt32 = sb (z % 256).toNat := by
  have : (lZ z).toInt32 = Int32.ofInt z := Int64.toInt32_ofInt
  rw [this, sb_I]
/-- the number of k bytes from at9 on, the highest first -/
def bn (b : Nat → Nat) (at9 : Nat) : Nat → Nat
  | 0 => 0
  | k + 1 => bn b at9 k * 256 + b (at9 + k)
theorem bn_lt {b : Nat → Nat} {at9 : Nat} : ∀ k, (∀ j, at9 ≤ j → j < at9 + k → b j < 256) → bn b at9 k < 256 ^ k
  | 0, _ => by show 0 < 1; decide
  | k + 1, h => by
    have h1 := bn_lt k (fun j a c => h j a (by omega))
    have h2 := h (at9 + k) (by omega) (by omega)
    show bn b at9 k * 256 + b (at9 + k) < 256 ^ (k + 1)
    rw [Nat.pow_succ]
    omega
theorem bn_dig {b : Nat → Nat} {at9 : Nat} : ∀ k t, (∀ j, at9 ≤ j → j < at9 + k → b j < 256) → t < k → bn b at9 k / 256 ^ t % 256 = b (at9 + k - 1 - t)
  | 0, _, _, h => by omega
  | k + 1, 0, h, _ => by
    have h2 := h (at9 + k) (by omega) (by omega)
    show (bn b at9 k * 256 + b (at9 + k)) / 256 ^ 0 % 256 = _
    rw [Nat.pow_zero, Nat.div_one, show at9 + (k + 1) - 1 - 0 = at9 + k by omega]
    omega
  | k + 1, t + 1, h, ht => by
    have h2 := h (at9 + k) (by omega) (by omega)
    have h1 := bn_dig k t (fun j a c => h j a (by omega)) (by omega)
    show (bn b at9 k * 256 + b (at9 + k)) / 256 ^ (t + 1) % 256 = _
    rw [Nat.pow_succ, Nat.mul_comm (256 ^ t), ← Nat.div_div_eq_div_mul, show (bn b at9 k * 256 + b (at9 + k)) / 256 = bn b at9 k by omega, h1]
    congr 1
    omega
theorem bn_ext {b b' : Nat → Nat} {at9 at8 : Nat} : ∀ k, (∀ j, j < k → b (at9 + j) = b' (at8 + j)) → bn b at9 k = bn b' at8 k
  | 0, _ => rfl
  | k + 1, h => by
    show bn b at9 k * 256 + b (at9 + k) = bn b' at8 k * 256 + b' (at8 + k)
    rw [bn_ext k (fun j hj => h j (by omega)), h k (by omega)]
theorem bn_cut {b : Nat → Nat} {at9 i : Nat} : ∀ k, bn b at9 (i + k) = bn b at9 i * 256 ^ k + bn b (at9 + i) k
  | 0 => by show bn b at9 i = _ * 1 + 0; omega
  | k + 1 => by
    show bn b at9 (i + k) * 256 + b (at9 + (i + k)) = bn b at9 i * 256 ^ (k + 1) + (bn b (at9 + i) k * 256 + b (at9 + i + k))
    rw [bn_cut k, Nat.pow_succ, Nat.add_assoc]
    grind
theorem lZ_or {a b k : Nat} (ha : a < 2 ^ k) (hb : a + b * 2 ^ k < 2 ^ 64) : lZ a ||| lZ (b * 2 ^ k : Nat) = lZ (a + b * 2 ^ k : Nat) := by
  apply lZ_ext
  show BitVec.ofInt 64 (a : Int) ||| BitVec.ofInt 64 ((b * 2 ^ k : Nat) : Int) = BitVec.ofInt 64 ((a + b * 2 ^ k : Nat) : Int)
  rw [BitVec.ofInt_natCast, BitVec.ofInt_natCast, BitVec.ofInt_natCast]
  apply BitVec.eq_of_toNat_eq
  rw [BitVec.toNat_or, BitVec.toNat_ofNat, BitVec.toNat_ofNat, BitVec.toNat_ofNat, Nat.mod_eq_of_lt (by omega), Nat.mod_eq_of_lt (by omega), Nat.mod_eq_of_lt hb]
  have := Nat.two_pow_add_eq_or_of_lt ha b
  rw [Nat.or_comm, Nat.mul_comm b, ← this]
  omega
theorem sh_v : ∀ k, k < 64 → (((nI k).toInt64 &&& 63).toBitVec.smod 64).toNat = k := by decide +kernel
theorem lZ_sh (z k : Nat) (h : k < 64) : lZ z <<< ((nI k).toInt64 &&& 63) = lZ (z * 2 ^ k : Nat) := by
  rw [lZ_shl z (sh_v k h), Int.natCast_mul, Int.natCast_pow]
  rfl
/-- the int of a whole number -/
def iZ (z : Int) : Int32 := Int32.ofInt z
theorem iZ_nI (n : Nat) : nI n = iZ (n : Int) := by unfold nI iZ; exact (Int32.ofInt_eq_ofNat).symm
theorem iZ_add (a b : Int) : iZ a + iZ b = iZ (a + b) := (Int32.ofInt_add a b).symm
theorem iZ_sub (a b : Int) : iZ a - iZ b = iZ (a - b) := (Int32.ofInt_sub a b).symm
theorem iZ_mul (a b : Int) : iZ a * iZ b = iZ (a * b) := (Int32.ofInt_mul a b).symm
theorem iZ_toInt {z : Int} (h1 : -2147483648 ≤ z) (h2 : z < 2147483648) : (iZ z).toInt = z := Int32.toInt_ofInt_of_le (by simpa using h1) (by simpa using h2)
theorem iZ_inj {a b : Int} (ha : -2147483648 ≤ a) (ha2 : a < 2147483648) (hb : -2147483648 ≤ b) (hb2 : b < 2147483648) : iZ a = iZ b ↔ a = b := by
  constructor
  · intro h
    have := congrArg Int32.toInt h
    rwa [iZ_toInt ha ha2, iZ_toInt hb hb2] at this
  · rintro rfl; rfl
theorem iZ_lt {a b : Int} (ha : -2147483648 ≤ a) (ha2 : a < 2147483648) (hb : -2147483648 ≤ b) (hb2 : b < 2147483648) : iZ a < iZ b ↔ a < b := by rw [Int32.lt_iff_toInt_lt, iZ_toInt ha ha2, iZ_toInt hb hb2]
theorem iZ_le {a b : Int} (ha : -2147483648 ≤ a) (ha2 : a < 2147483648) (hb : -2147483648 ≤ b) (hb2 : b < 2147483648) : iZ a ≤ iZ b ↔ a ≤ b := by rw [Int32.le_iff_toInt_le, iZ_toInt ha ha2, iZ_toInt hb hb2]
theorem nI_m1 {a : Nat} (h : a < 2147483648) : nI a - 1 < nI a := by
  rw [iZ_nI, show (1 : Int32) = iZ 1 from rfl, iZ_sub, iZ_lt (by omega) (by omega) (by omega) (by omega)]
  omega
theorem nI_sub {a b : Nat} (h : b ≤ a) : nI a - nI b = nI (a - b) := by
  rw [iZ_nI, iZ_nI, iZ_nI, iZ_sub]
  congr 1; omega
theorem nI_mul (a b : Nat) : nI a * nI b = nI (a * b) := by
  rw [iZ_nI, iZ_nI, iZ_nI, iZ_mul, Int.natCast_mul]
