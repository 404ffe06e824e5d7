/-! loops; whole numbers in longs -/
theorem vm_for {E : vm_E} {y : vm_M} {kc ks pc : Nat} {Q : Option Value → vm_H → Prop} (n : Nat) (L : Nat → vm_L) (H : Nat → vm_H) (i0 : Nat) (hi : i0 ≤ n) (hend : vm_T E y kc ks pc (L n) [] (H n) Q) (hstep : ∀ i, i0 ≤ i → i < n → vm_T E y kc ks pc (L (i + 1)) [] (H (i + 1)) Q → vm_T E y kc ks pc (L i) [] (H i) Q) : vm_T E y kc ks pc (L i0) [] (H i0) Q := by
  have key : ∀ k i, i + k = n → i0 ≤ i → vm_T E y kc ks pc (L i) [] (H i) Q := by
    intro k
    induction k with
    | zero => intro i e _; have : i = n := by omega
              subst this; exact hend
    | succ k ih => intro i e h0; exact hstep i h0 (by omega) (ih (i + 1) (by omega) (by omega))
  exact key (n - i0) i0 (by omega) (Nat.le_refl _)
theorem vm_forP {E : vm_E} {y : vm_M} {kc ks pc : Nat} {Q : Option Value → vm_H → Prop} (P : Nat → Prop) (n : Nat) (L : Nat → vm_L) (H : Nat → vm_H) (i0 : Nat) (hi : i0 ≤ n) (h0 : P i0) (hend : P n → vm_T E y kc ks pc (L n) [] (H n) Q) (hstep : ∀ i, i0 ≤ i → i < n → P i → (P (i + 1) → vm_T E y kc ks pc (L (i + 1)) [] (H (i + 1)) Q) → vm_T E y kc ks pc (L i) [] (H i) Q) : vm_T E y kc ks pc (L i0) [] (H i0) Q := by
  have key : ∀ k i, i + k = n → i0 ≤ i → P i → vm_T E y kc ks pc (L i) [] (H i) Q := by
    intro k
    induction k with
    | zero => intro i e _ hp; have : i = n := by omega
              subst this; exact hend hp
    | succ k ih => intro i e h0 hp; exact hstep i h0 (by omega) hp (fun q => ih (i + 1) (by omega) (by omega) q)
  exact key (n - i0) i0 (by omega) (Nat.le_refl _) h0
/-- a loop whose state is chosen at each turn: a measure falls -/
theorem vm_while {σ : Type} {E : vm_E} {y : vm_M} {kc ks pc : Nat} {Q : Option Value → vm_H → Prop} (P : σ → Prop) (μ : σ → Nat) (L : σ → vm_L) (H : σ → vm_H) (hstep : ∀ s, P s → (∀ s', P s' → μ s' < μ s → vm_T E y kc ks pc (L s') [] (H s') Q) → vm_T E y kc ks pc (L s) [] (H s) Q) (s : σ) (h0 : P s) : vm_T E y kc ks pc (L s) [] (H s) Q := by
  have key : ∀ n s, μ s < n → P s → vm_T E y kc ks pc (L s) [] (H s) Q := by
    intro n
    induction n with
    | zero => intro s h; omega
    | succ n ih => intro s h hp; exact hstep s hp (fun s' hp' hm => ih s' (by omega) hp')
  exact key (μ s + 1) s (by omega) h0
/-- the long of a whole number -/
def lZ (z : Int) : Int64 := Int64.ofInt z
theorem lZ_lN (n : Nat) : lN n = lZ (n : Int) := by unfold lN lZ; exact (Int64.ofInt_eq_ofNat).symm
theorem lZ_add (a b : Int) : lZ a + lZ b = lZ (a + b) := (Int64.ofInt_add a b).symm
theorem lZ_sub (a b : Int) : lZ a - lZ b = lZ (a - b) := (Int64.ofInt_sub a b).symm
theorem lZ_mul (a b : Int) : lZ a * lZ b = lZ (a * b) := (Int64.ofInt_mul a b).symm
theorem lZ_toInt {z : Int} (h1 : -9223372036854775808 ≤ z) (h2 : z < 9223372036854775808) : (lZ z).toInt = z := Int64.toInt_ofInt_of_le (by simpa using h1) (by simpa using h2)
theorem lZ_inj {a b : Int} (ha : -9223372036854775808 ≤ a) (ha2 : a < 9223372036854775808) (hb : -9223372036854775808 ≤ b) (hb2 : b < 9223372036854775808) : lZ a = lZ b ↔ a = b := by
  constructor
  · intro h
    have := congrArg Int64.toInt h
    rwa [lZ_toInt ha ha2, lZ_toInt hb hb2] at this
  · rintro rfl; rfl
theorem lZ_lt {a b : Int} (ha : -9223372036854775808 ≤ a) (ha2 : a < 9223372036854775808) (hb : -9223372036854775808 ≤ b) (hb2 : b < 9223372036854775808) : lZ a < lZ b ↔ a < b := by rw [Int64.lt_iff_toInt_lt, lZ_toInt ha ha2, lZ_toInt hb hb2]
theorem lZ_le {a b : Int} (ha : -9223372036854775808 ≤ a) (ha2 : a < 9223372036854775808) (hb : -9223372036854775808 ≤ b) (hb2 : b < 9223372036854775808) : lZ a ≤ lZ b ↔ a ≤ b := by rw [Int64.le_iff_toInt_le, lZ_toInt ha ha2, lZ_toInt hb hb2]
theorem lZ_bv (z : Int) : (lZ z).toBitVec = BitVec.ofInt 64 z := rfl
theorem lZ_ext {x y : Int64} (h : x.toBitVec = y.toBitVec) : x = y := Int64.toBitVec_inj.mp h
/-- a mask of k bits -/
theorem lZ_mask (z : Int) {k : Nat} (hk : k < 64) : lZ z &&& lZ (2 ^ k - 1) = lZ (z % 2 ^ k) := by
  apply lZ_ext
  show BitVec.ofInt 64 z &&& BitVec.ofInt 64 (2 ^ k - 1) = BitVec.ofInt 64 (z % 2 ^ k)
  have hp : (0 : Int) < 2 ^ k := Int.pow_pos (by decide)
  apply BitVec.eq_of_toNat_eq
  rw [BitVec.toNat_and, BitVec.toNat_ofInt, BitVec.toNat_ofInt, BitVec.toNat_ofInt]
  have e1 : ((2 : Int) ^ k - 1) % ((2 ^ 64 : Nat) : Int) = ((2 ^ k - 1 : Nat) : Int) := by
    have h2 : (2 : Int) ^ k ≤ 2 ^ 63 := by
      have : (2 : Nat) ^ k ≤ 2 ^ 63 := Nat.pow_le_pow_right (by decide) (by omega)
      exact_mod_cast this
    have h3 : ((2 ^ k - 1 : Nat) : Int) = (2 : Int) ^ k - 1 := by
      have : 1 ≤ 2 ^ k := Nat.one_le_two_pow
      push_cast [Int.ofNat_sub this]; rfl
    rw [h3]
    apply Int.emod_eq_of_lt (by omega)
    have : ((2 ^ 64 : Nat) : Int) = 18446744073709551616 := by decide
    omega
  rw [e1, Int.toNat_natCast, Nat.and_two_pow_sub_one_eq_mod]
  have e2 : (z % 2 ^ k) % ((2 ^ 64 : Nat) : Int) = z % 2 ^ k := by
    apply Int.emod_eq_of_lt (Int.emod_nonneg _ (by omega))
    have h4 := Int.emod_lt_of_pos z hp
    have h2 : (2 : Int) ^ k ≤ 2 ^ 63 := by
      have : (2 : Nat) ^ k ≤ 2 ^ 63 := Nat.pow_le_pow_right (by decide) (by omega)
      exact_mod_cast this
    have : ((2 ^ 64 : Nat) : Int) = 18446744073709551616 := by decide
    omega
  rw [e2]
  have e3 : (((z % ((2 ^ 64 : Nat) : Int)).toNat % 2 ^ k : Nat) : Int) = ((z % 2 ^ k).toNat : Int) := by
    rw [Int.natCast_emod, Int.toNat_of_nonneg (Int.emod_nonneg _ (by decide)), Int.toNat_of_nonneg (Int.emod_nonneg _ (by omega))]
    have h5 : ((2 ^ k : Nat) : Int) = 2 ^ k := by push_cast; rfl
    rw [h5]
    apply Int.emod_emod_of_dvd
    have h6 : (2 : Nat) ^ k ∣ 2 ^ 64 := Nat.pow_dvd_pow 2 (by omega)
    have := Int.natCast_dvd_natCast.mpr h6
    rwa [h5] at this
  exact_mod_cast e3
theorem lZ_divr {z : Int} (h1 : -9223372036854775808 ≤ z) (h2 : z < 9223372036854775808) (k : Nat) : -9223372036854775808 ≤ z / 2 ^ k ∧ z / 2 ^ k < 9223372036854775808 := by
  have hp : (1 : Int) ≤ 2 ^ k := by
    have : 1 ≤ 2 ^ k := Nat.one_le_two_pow
    exact_mod_cast this
  constructor
  · apply (Int.le_ediv_iff_mul_le (by omega)).mpr
    have : (-9223372036854775808 : Int) * 2 ^ k ≤ -9223372036854775808 * 1 := Int.mul_le_mul_of_nonpos_left (by decide) hp
    omega
  · apply (Int.ediv_lt_iff_lt_mul (by omega)).mpr
    have : (9223372036854775808 : Int) * 1 ≤ 9223372036854775808 * 2 ^ k := Int.mul_le_mul_of_nonneg_left hp (by decide)
    omega
theorem lZ_shr {z : Int} (h1 : -9223372036854775808 ≤ z) (h2 : z < 9223372036854775808) {x : Int64} {k : Nat} (hx : (x.toBitVec.smod 64).toNat = k) : lZ z >>> x = lZ (z / 2 ^ k) := by
  have hz := lZ_toInt h1 h2
  obtain ⟨r1, r2⟩ := lZ_divr h1 h2 k
  apply Int64.toInt_inj.mp
  rw [lZ_toInt r1 r2]
  show ((lZ z).toBitVec.sshiftRight (x.toBitVec.smod 64).toNat).toInt = _
  rw [hx, BitVec.toInt_sshiftRight]
  show (lZ z).toInt >>> k = _
  rw [hz, Int.shiftRight_eq_div_pow]
  norm_cast
theorem p64 : ((2 ^ 64 : Nat) : Int) = 18446744073709551616 := by decide
theorem lZ_ushr {z : Int} (h1 : 0 ≤ z) (h2 : z < 18446744073709551616) {x : UInt64} {k : Nat} (hx : x.toNat % 64 = k) : ((lZ z).toUInt64 >>> x).toInt64 = lZ (z / 2 ^ k) := by
  obtain ⟨n, rfl⟩ := Int.eq_ofNat_of_zero_le h1
  apply lZ_ext
  apply BitVec.eq_of_toNat_eq
  show ((lZ n).toUInt64 >>> x).toNat = (BitVec.ofInt 64 ((n : Int) / 2 ^ k)).toNat
  rw [UInt64.toNat_shiftRight, hx, BitVec.toNat_ofInt]
  have e1 : (lZ (n : Int)).toUInt64.toNat = n := by
    show (BitVec.ofInt 64 (n : Int)).toNat = n
    rw [BitVec.toNat_ofInt]
    have : ((n : Int) % ((2 ^ 64 : Nat) : Int)) = n := Int.emod_eq_of_lt (by omega) (by rw [p64]; omega)
    rw [this]; rfl
  rw [e1, Nat.shiftRight_eq_div_pow]
  have e2 : ((n : Int) / 2 ^ k) = ((n / 2 ^ k : Nat) : Int) := by push_cast; rfl
  rw [e2]
  have hlt : n / 2 ^ k < 18446744073709551616 := Nat.lt_of_le_of_lt (Nat.div_le_self _ _) (by omega)
  have e3 : (((n / 2 ^ k : Nat) : Int) % ((2 ^ 64 : Nat) : Int)) = ((n / 2 ^ k : Nat) : Int) := Int.emod_eq_of_lt (Int.natCast_nonneg _) (by rw [p64]; exact (Int.ofNat_lt.mpr hlt : ((n / 2 ^ k : Nat) : Int) < ((18446744073709551616 : Nat) : Int)))
  rw [e3]; rfl
theorem lZ_shl (z : Int) {x : Int64} {k : Nat} (hx : (x.toBitVec.smod 64).toNat = k) : lZ z <<< x = lZ (z * 2 ^ k) := by
  apply lZ_ext
  show (lZ z).toBitVec <<< (x.toBitVec.smod 64) = BitVec.ofInt 64 (z * 2 ^ k)
  rw [BitVec.shiftLeft_eq', hx, BitVec.shiftLeft_eq_mul_twoPow, BitVec.ofInt_mul]
  have e : BitVec.twoPow 64 k = BitVec.ofInt 64 (2 ^ k) := by
    apply BitVec.eq_of_toNat_eq
    rw [BitVec.toNat_twoPow, BitVec.toNat_ofInt]
    have : ((2 : Int) ^ k) = ((2 ^ k : Nat) : Int) := by push_cast; rfl
    rw [this, ← Int.natCast_emod]; rfl
  rw [e]; rfl
/-- digit j of x, of 28 bits -/
def dg (x j : Nat) : Nat := x / 268435456 ^ j % 268435456
theorem dg_lt (x j : Nat) : dg x j < 268435456 := Nat.mod_lt _ (by decide)
theorem dg_split (x i : Nat) : x % 268435456 ^ (i + 1) = x % 268435456 ^ i + 268435456 ^ i * dg x i := by
  rw [Nat.pow_succ, Nat.mod_mul]; rfl
theorem dg_mod {x i L : Nat} (h : i < L) : dg (x % 268435456 ^ L) i = dg x i := by
  unfold dg
  obtain ⟨d, rfl⟩ : ∃ d, L = i + 1 + d := ⟨L - (i + 1), by omega⟩
  rw [Nat.pow_add, Nat.mod_mul, Nat.pow_succ]
  have e : x % (268435456 ^ i * 268435456) + 268435456 ^ i * 268435456 * (x / (268435456 ^ i * 268435456) % 268435456 ^ d) = x % (268435456 ^ i * 268435456) + 268435456 ^ i * (268435456 * (x / (268435456 ^ i * 268435456) % 268435456 ^ d)) := by rw [Nat.mul_assoc]
  rw [e, Nat.add_mul_div_left _ _ (Nat.pow_pos (by decide)), Nat.add_mul_mod_self_left, Nat.mod_mul_right_div_self, Nat.mod_mod]
theorem dg_big {x i L : Nat} (h : x < 268435456 ^ L) (hi : L ≤ i) : dg x i = 0 := by
  unfold dg
  rw [Nat.div_eq_of_lt (Nat.lt_of_lt_of_le h (Nat.pow_le_pow_right (by decide) hi))]
/-- the carry of a sum -/
def cyA (x y i : Nat) : Nat := (x % 268435456 ^ i + y % 268435456 ^ i) / 268435456 ^ i
theorem cyA_0 (x y : Nat) : cyA x y 0 = 0 := by unfold cyA; rw [Nat.pow_zero, Nat.mod_one, Nat.mod_one]
theorem cyA_s (x y i : Nat) : dg x i + dg y i + cyA x y i = dg (x + y) i + 268435456 * cyA x y (i + 1) := by
  have hB : 0 < 268435456 ^ i := Nat.pow_pos (by decide)
  have e1 := dg_split x i
  have e2 := dg_split y i
  unfold cyA
  rw [e1, e2]
  generalize hX : x % 268435456 ^ i = X
  generalize hY : y % 268435456 ^ i = Y
  have e3 : X + 268435456 ^ i * dg x i + (Y + 268435456 ^ i * dg y i) = (X + Y) + 268435456 ^ i * (dg x i + dg y i) := by rw [Nat.mul_add]; omega
  rw [e3, Nat.pow_succ, ← Nat.div_div_eq_div_mul, Nat.add_mul_div_left _ _ hB]
  have e4 : dg (x + y) i = ((X + Y) / 268435456 ^ i + (dg x i + dg y i)) % 268435456 := by
    unfold dg
    have hx := Nat.div_add_mod x (268435456 ^ i)
    have hy := Nat.div_add_mod y (268435456 ^ i)
    rw [hX] at hx
    rw [hY] at hy
    have e5 : (x + y) / 268435456 ^ i = (X + Y) / 268435456 ^ i + (x / 268435456 ^ i + y / 268435456 ^ i) := by
      have : x + y = (X + Y) + 268435456 ^ i * (x / 268435456 ^ i + y / 268435456 ^ i) := by rw [Nat.mul_add]; omega
      rw [this, Nat.add_mul_div_left _ _ hB]
    rw [e5]; omega
  rw [e4]
  have := Nat.div_add_mod ((X + Y) / 268435456 ^ i + (dg x i + dg y i)) 268435456
  omega
/-- the borrow of a difference, 0 or 1 -/
def bwA (x y i : Nat) : Nat := if x % 268435456 ^ i < y % 268435456 ^ i then 1 else 0
theorem bwA_0 (x y : Nat) : bwA x y 0 = 0 := by unfold bwA; rw [Nat.pow_zero, Nat.mod_one, Nat.mod_one]; rfl
/-- x - y, R^L added where it is below 0 -/
def sbR (L x y : Nat) : Nat := (x + 268435456 ^ L - y) % 268435456 ^ L
theorem sbR_mod {x y i L : Nat} (hi : i ≤ L) (hy : y ≤ x + 268435456 ^ L) : ((sbR L x y % 268435456 ^ i : Nat) : Int) = (x % 268435456 ^ i : Nat) - (y % 268435456 ^ i : Nat) + (268435456 ^ i : Nat) * bwA x y i := by
  unfold sbR bwA
  have hd : 268435456 ^ i ∣ 268435456 ^ L := Nat.pow_dvd_pow _ hi
  rw [Nat.mod_mod_of_dvd _ hd]
  have hB : 0 < 268435456 ^ i := Nat.pow_pos (by decide)
  obtain ⟨c, hc⟩ := hd
  have hx := Nat.div_add_mod x (268435456 ^ i)
  have hyy := Nat.div_add_mod y (268435456 ^ i)
  have ax := Nat.mod_lt x hB
  have ay := Nat.mod_lt y hB
  generalize 268435456 ^ L = BL at hc hy ⊢
  generalize 268435456 ^ i = B at hc hx hyy ax ay hB ⊢
  generalize hX : x % B = X at hx ax ⊢
  generalize hY : y % B = Y at hyy ay ⊢
  generalize x / B = u at hx
  generalize y / B = w at hyy
  subst hc
  rw [Int.natCast_emod]
  have e1 : ((x + B * c - y : Nat) : Int) = (x : Int) + B * c - y := by
    rw [Int.ofNat_sub hy]; push_cast; rfl
  rw [e1]
  by_cases hlt : X < Y
  · rw [if_pos hlt]
    have e2 : (x : Int) + B * c - y = ((X : Int) - Y + B) + B * ((u : Int) + c - w - 1) := by
      rw [← hx, ← hyy]; push_cast; grind
    rw [e2, Int.add_mul_emod_self_left, Int.emod_eq_of_lt (by omega) (by omega)]
    omega
  · rw [if_neg hlt]
    have e2 : (x : Int) + B * c - y = ((X : Int) - Y) + B * ((u : Int) + c - w) := by
      rw [← hx, ← hyy]; push_cast; grind
    rw [e2, Int.add_mul_emod_self_left, Int.emod_eq_of_lt (by omega) (by omega)]
    omega
theorem bwA_s {x y i L : Nat} (hi : i < L) (hy : y ≤ x + 268435456 ^ L) : (dg x i : Int) - dg y i - bwA x y i = dg (sbR L x y) i - 268435456 * bwA x y (i + 1) := by
  have h1 := sbR_mod (i := i) (by omega) hy
  have h2 := sbR_mod (i := i + 1) (by omega) hy
  rw [dg_split, dg_split x, dg_split y] at h2
  rw [Nat.pow_succ] at h2
  have hB : 0 < 268435456 ^ i := Nat.pow_pos (by decide)
  generalize 268435456 ^ i = B at h1 h2 hB
  generalize sbR L x y % B = s1 at h1 h2
  generalize x % B = x1 at h1 h2
  generalize y % B = y1 at h1 h2
  simp only [Int.natCast_add, Int.natCast_mul] at h1 h2
  generalize (bwA x y i : Int) = b0 at h1 h2 ⊢
  generalize (bwA x y (i + 1) : Int) = b1 at h1 h2 ⊢
  have h3 : (B : Int) * ((dg x i : Int) - dg y i - b0) = B * (dg (sbR L x y) i - 268435456 * b1) := by grind
  exact Int.eq_of_mul_eq_mul_left (by omega) h3
/-- g up to i, f from there on -/
def cutf {α : Type} (g f : Nat → α) (i : Nat) : Nat → α := fun j => if j < i then g j else f j
theorem cutf_0 {α : Type} (g f : Nat → α) : cutf g f 0 = f := by funext j; simp [cutf]
theorem cutf_lo {α : Type} {g f : Nat → α} {i j : Nat} (h : j < i) : cutf g f i j = g j := if_pos h
theorem cutf_hi {α : Type} {g f : Nat → α} {i j : Nat} (h : i ≤ j) : cutf g f i j = f j := if_neg (by omega)
theorem cutf_sL {g f : Nat → Int64} {i : Nat} {v : Int64} (h : v = g i) : vp_updL (cutf g f i) i v = cutf g f (i + 1) := by
  funext j
  unfold vp_updL cutf
  by_cases h1 : j = i
  · subst h1; rw [if_pos rfl, if_pos (by omega), h]
  · rw [if_neg h1]
    by_cases h2 : j < i
    · rw [if_pos h2, if_pos (by omega)]
    · rw [if_neg h2, if_neg (by omega)]
theorem cutf_sI {g f : Nat → Int32} {i : Nat} {v : Int32} (h : v = g i) : upd (cutf g f i) i v = cutf g f (i + 1) := by
  funext j
  unfold upd cutf
  by_cases h1 : j = i
  · subst h1; rw [if_pos rfl, if_pos (by omega), h]
  · rw [if_neg h1]
    by_cases h2 : j < i
    · rw [if_pos h2, if_pos (by omega)]
    · rw [if_neg h2, if_neg (by omega)]
theorem vm_upup {h : vm_H} {a : Nat} {x y : vm_Ob} : vm_up (vm_up h a x) a y = vm_up h a y := by
  unfold vm_up
  congr 1
  funext j
  unfold va_up
  by_cases e : j = a
  · rw [if_pos e, if_pos e]
  · rw [if_neg e, if_neg e]; exact if_neg e
theorem vm_upn {h : vm_H} {a b : Nat} {x : vm_Ob} (e : b ≠ a) : (vm_up h a x).2 b = h.2 b := if_neg e
theorem vm_upe {h : vm_H} {a : Nat} {x : vm_Ob} : (vm_up h a x).2 a = x := if_pos rfl
theorem vm_ups {h : vm_H} {a : Nat} {x : vm_Ob} (e : h.2 a = x) : vm_up h a x = h := by
  unfold vm_up
  refine Prod.ext rfl ?_
  funext j
  show va_up h.2 a x j = h.2 j
  unfold va_up
  by_cases q : j = a
  · rw [if_pos q, q, e]
  · rw [if_neg q]
/-- an array of longs, read while another (or itself) is written behind the place -/
theorem vL_rd {h : vm_H} {a c na nc : Nat} {fa fc : Nat → Int64} (ha : h.2 a = .inl (.long, na, .inr (.inl fa))) (hc : h.2 c = .inl (.long, nc, .inr (.inl fc))) (g : Nat → Int64) (i : Nat) (hg : g i = fc i) : ∃ f' : Nat → Int64, (vm_up h c (.inl (.long, nc, .inr (.inl g)))).2 a = .inl (.long, na, .inr (.inl f')) ∧ f' i = fa i := by
  by_cases e : a = c
  · subst e
    rw [ha] at hc
    cases hc
    exact ⟨g, vm_upe, hg⟩
  · exact ⟨fa, (vm_upn e).trans ha, rfl⟩
