/-! the field of P-384 as a ring, its curve -/
def cPm : Nat := 39402006196394479212279040100143613805079739270465446667948293404245721771496870329047266088258938001861606973112318
abbrev fq : Type := Fin (cPm + 1)
theorem pr_m : pr (cPm + 1) := pr_P
def cQ : Nat := 39402006196394479212279040100143613805079739270465446667946905279627659399113263569398956308152294913554433653942643
theorem pr_q : pr cQ := pr_Q
theorem fqf_v (x y : fq) : (x * y).val = x.val * y.val % (cPm + 1) := Fin.val_mul x y
theorem fqf_va (x y : fq) : (x + y).val = (x.val + y.val) % (cPm + 1) := Fin.val_add x y
theorem fqf_D : ecD fq := by
  intro x y h
  have h2 : x.val * y.val % (cPm + 1) = 0 := by rw [← fqf_v, h]; rfl
  rcases pr_euc pr_m (Nat.dvd_of_mod_eq_zero h2) with e | e
  · left
    refine Fin.ext ?_
    have := Nat.eq_zero_of_dvd_of_lt e x.isLt
    exact this
  · right
    refine Fin.ext ?_
    have := Nat.eq_zero_of_dvd_of_lt e y.isLt
    exact this
def fiv (x : fq) : fq := Fin.ofNat (cPm + 1) (x.val ^ (cPm - 1))
theorem fiv_e (x : fq) (h : x ≠ 0) : x * fiv x = 1 := by
  refine Fin.ext ?_
  rw [fqf_v]
  show x.val * (x.val ^ (cPm - 1) % (cPm + 1)) % (cPm + 1) = 1 % (cPm + 1)
  have e : cPm - 1 + 1 = cPm := rfl
  rw [Nat.mul_mod_mod, ← Nat.pow_succ', Nat.succ_eq_add_one, e]
  have hd : ¬ (cPm + 1) ∣ x.val := by
    intro e
    exact h (Fin.ext (Nat.eq_zero_of_dvd_of_lt e x.isLt))
  have := fermat1 pr_m hd
  rw [Nat.add_sub_cancel] at this
  rw [this]
  rfl
def fz (X : Int) : fq := Fin.ofNat (cPm + 1) (X % ((cPm + 1 : Nat) : Int)).toNat
theorem fz_v (X : Int) : (((fz X).val : Nat) : Int) = X % ((cPm + 1 : Nat) : Int) := by
  have h0 : 0 ≤ X % ((cPm + 1 : Nat) : Int) := Int.emod_nonneg _ (by omega)
  have h1 : X % ((cPm + 1 : Nat) : Int) < ((cPm + 1 : Nat) : Int) := Int.emod_lt_of_pos _ (by omega)
  show (((X % ((cPm + 1 : Nat) : Int)).toNat % (cPm + 1) : Nat) : Int) = _
  generalize cPm + 1 = n at *
  rw [Int.natCast_emod, Int.toNat_of_nonneg h0, Int.emod_emod_of_dvd _ (Int.dvd_refl _)]
theorem fz_i {X : Int} {x : fq} (h : ((x.val : Nat) : Int) % ((cPm + 1 : Nat) : Int) = X % ((cPm + 1 : Nat) : Int)) : fz X = x := by
  refine Fin.ext ?_
  have h1 := fz_v X
  have h2 := x.isLt
  rw [← h, Int.emod_eq_of_lt (by omega) (by omega)] at h1
  omega
theorem fz_mul (X Y : Int) : fz (X * Y) = fz X * fz Y := by
  refine fz_i ?_
  rw [fqf_v, Int.natCast_emod, Int.natCast_mul, fz_v, fz_v, Int.emod_emod_of_dvd _ (Int.dvd_refl _), ← Int.mul_emod]
theorem fz_add (X Y : Int) : fz (X + Y) = fz X + fz Y := by
  refine fz_i ?_
  rw [fqf_va, Int.natCast_emod, Int.natCast_add, fz_v, fz_v, Int.emod_emod_of_dvd _ (Int.dvd_refl _), ← Int.add_emod]
theorem fz_0 : fz 0 = 0 := by
  refine fz_i ?_
  rfl
theorem fz_1 : fz 1 = 1 := by
  refine fz_i ?_
  rfl
theorem fz_sub (X Y : Int) : fz (X - Y) = fz X - fz Y := by
  have h : fz (X - Y) + fz Y = fz X := by rw [← fz_add]; congr 1; omega
  grind
theorem fz_neg (X : Int) : fz (-X) = -fz X := by
  have h : fz (-X) + fz X = 0 := by rw [← fz_add, ← fz_0]; congr 1; omega
  grind
theorem fz_eq (X Y : Int) : fz X = fz Y ↔ X % ((cPm + 1 : Nat) : Int) = Y % ((cPm + 1 : Nat) : Int) := by
  constructor
  · intro h
    rw [← fz_v, ← fz_v, h]
  · intro h
    refine fz_i ?_
    rw [fz_v, Int.emod_emod_of_dvd _ (Int.dvd_refl _)]
    exact h.symm
theorem fz_z (X : Int) : fz X = 0 ↔ X % ((cPm + 1 : Nat) : Int) = 0 := by
  have := fz_eq X 0
  rw [fz_0, Int.zero_emod] at this
  exact this
/-- B, the base -/
def cB : Nat := 0xb3312fa7e23ee7e4988e056be3f82d19181d9c6efe8141120314088f5013875ac656398d8a2ed19d2a85c8edd3ec2aef
def cGX : Nat := 0xaa87ca22be8b05378eb1c71ef320ad746e1d3b628ba79b9859f741e082542a385502f25dbf55296c3a545e3872760ab7
def cGY : Nat := 0x3617de4a96262c6f5d9e98bf9292dc29f8f41dbd289a147ce9da3113b5f0b8c00a60b1ce1d7e819d7a431d7c90ea0e5f
/-- powers of the unknown modulo the cubic: a pair of coefficients and a third -/
def c3 (t u : Nat × Nat × Nat) : Nat × Nat × Nat :=
  ((t.1 * u.1 + (t.2.1 * u.2.2 + t.2.2 * u.2.1) * (cPm + 1 - cB)) % (cPm + 1),
   (t.1 * u.2.1 + t.2.1 * u.1 + 3 * (t.2.1 * u.2.2 + t.2.2 * u.2.1) + t.2.2 * u.2.2 * (cPm + 1 - cB)) % (cPm + 1),
   (t.1 * u.2.2 + t.2.1 * u.2.1 + t.2.2 * u.1 + 3 * (t.2.2 * u.2.2)) % (cPm + 1))
def c3p : Nat → Nat → Nat × Nat × Nat
  | 0, _ => (1, 0, 0)
  | k + 1, e => if e % 2 = 1 then c3 (c3 (c3p k (e / 2)) (c3p k (e / 2))) (0, 1, 0) else c3 (c3p k (e / 2)) (c3p k (e / 2))
def rg0 : Nat := 8300902441410358810024883245706595788071887638472987429650051756787010122663664392654234716054658334410824607717835
def rg1 : Nat := 36451842499335230207230939190122359435795929611070366073564430331459357452117665764765104949638877581977396150453386
def rg2 : Nat := 15550551877492060201127078427218509008503925815996229619149120823729355824416602968196515686102139833725391182697242
def ru0 : Nat := 33047296559504255592651188709346863485400206543726318781804127838965342233844565497607730041700790082657763121017919
def ru1 : Nat := 32869823982379043685874326169836433808330785959775282655386939942853122566550201179306892395623670448475897125153980
def rv0 : Nat := 23037766613497683937702734290281044719364893268180251583910224888989381657771069200037813904257325918671976092329602
def rv1 : Nat := 8235438212423615602427778915669574859600037698862346933589434399495169446996583974901273360826717582835190849638831
def rv2 : Nat := 12157362177932134139146813183752135342286725243554133716818896354380897714709611791313184492360272402950851405460538
set_option maxRecDepth 4000 in
theorem c3p_g : c3p 384 (cPm + 1) = (rg0, rg1, rg2) := by decide +kernel
def c3e (t : Nat × Nat × Nat) (r : fq) : fq := fz t.1 + fz t.2.1 * r + fz t.2.2 * (r * r)
theorem fz_n (n : Nat) : fz ((n % (cPm + 1) : Nat) : Int) = fz (n : Int) := by
  rw [fz_eq, Int.natCast_emod, Int.emod_emod_of_dvd _ (Int.dvd_refl _)]
theorem fz_B : fz ((cPm + 1 - cB : Nat) : Int) = - fz (cB : Int) := by
  rw [← fz_neg, fz_eq]
  decide +kernel
theorem fz_3 : fz ((3 : Nat) : Int) = 3 := by
  refine fz_i ?_
  rfl
theorem c3e_m {r : fq} (hr : r * r * r - 3 * r + fz (cB : Int) = 0) (t u : Nat × Nat × Nat) : c3e (c3 t u) r = c3e t r * c3e u r := by
  unfold c3e c3
  dsimp only
  simp only [fz_n, Int.natCast_add, Int.natCast_mul, fz_add, fz_mul, fz_B, fz_3]
  generalize fz (cB : Int) = b at *
  generalize fz t.1 = t1 at *
  generalize fz t.2.1 = t2 at *
  generalize fz t.2.2 = t3 at *
  generalize fz u.1 = u1 at *
  generalize fz u.2.1 = u2 at *
  generalize fz u.2.2 = u3 at *
  have hb : b = 3 * r - r * r * r := by grind
  rw [hb]
  clear hr hb
  grind
theorem c3p_e {R : Nat} (hr : fz R * fz R * fz R - 3 * fz R + fz (cB : Int) = 0) : ∀ k e, e < 2 ^ k → c3e (c3p k e) (fz R) = fz ((R ^ e : Nat) : Int)
  | 0, e, h => by
    have : e = 0 := by rw [Nat.pow_zero] at h; omega
    subst this
    show fz 1 + fz 0 * fz R + fz 0 * (fz R * fz R) = fz 1
    rw [fz_0]; grind
  | k + 1, e, h => by
    have ih := c3p_e hr k (e / 2) (by rw [Nat.pow_succ] at h; omega)
    have e1 : c3e (0, 1, 0) (fz R) = fz R := by
      show fz 0 + fz 1 * fz R + fz 0 * (fz R * fz R) = fz R
      rw [fz_0, fz_1]; grind
    unfold c3p
    split
    · rename_i q
      rw [c3e_m hr, c3e_m hr, ih, e1, ← fz_mul, ← fz_mul]
      rw [← Int.natCast_mul, ← Int.natCast_mul, ← Nat.pow_add, ← Nat.pow_succ]
      congr 3; omega
    · rename_i q
      rw [c3e_m hr, ih, ← fz_mul, ← Int.natCast_mul, ← Nat.pow_add]
      congr 3; omega
theorem rz {F : Type} [Lean.Grind.CommRing F] {x y r : F} (h : x * 0 + y * (r - r) = 1 + 0 * r + 0 * (r * r) + 0 * (r * r * r) + 0 * (r * r * r * r)) : (1 : F) = 0 := by
  grind
theorem no_root (r : fq) : r * r * r - 3 * r + fz (cB : Int) ≠ 0 := by
  intro hr
  have e : r = fz (r.val : Int) := (fz_i rfl).symm
  rw [e] at hr
  have h := c3p_e hr 384 (cPm + 1) (by decide +kernel)
  have hf : fz ((r.val ^ (cPm + 1) : Nat) : Int) = fz (r.val : Int) := by
    rw [← fz_n, fermat pr_m, fz_n]
  rw [hf, c3p_g] at h
  unfold c3e at h
  dsimp only at h
  rw [← e] at h hr
  have k0 : fz (ru0 : Int) * fz (cB : Int) + fz (rv0 : Int) * fz (rg0 : Int) = 1 := by
    rw [← fz_mul, ← fz_mul, ← fz_add, ← fz_1, fz_eq]; decide +kernel
  have k1 : fz (ru1 : Int) * fz (cB : Int) - 3 * fz (ru0 : Int) + fz (rv0 : Int) * (fz (rg1 : Int) - 1) + fz (rv1 : Int) * fz (rg0 : Int) = 0 := by
    rw [← fz_3, ← fz_1, ← fz_sub, ← fz_mul, ← fz_mul, ← fz_mul, ← fz_mul, ← fz_sub, ← fz_add, ← fz_add, fz_z]; decide +kernel
  have k2 : fz (rv0 : Int) * fz (rg2 : Int) + fz (rv1 : Int) * (fz (rg1 : Int) - 1) + fz (rv2 : Int) * fz (rg0 : Int) - 3 * fz (ru1 : Int) = 0 := by
    rw [← fz_3, ← fz_1, ← fz_sub, ← fz_mul, ← fz_mul, ← fz_mul, ← fz_mul, ← fz_add, ← fz_add, ← fz_sub, fz_z]; decide +kernel
  have k3 : fz (ru0 : Int) + fz (rv1 : Int) * fz (rg2 : Int) + fz (rv2 : Int) * (fz (rg1 : Int) - 1) = 0 := by
    rw [← fz_1, ← fz_sub, ← fz_mul, ← fz_mul, ← fz_add, ← fz_add, fz_z]; decide +kernel
  have k4 : fz (ru1 : Int) + fz (rv2 : Int) * fz (rg2 : Int) = 0 := by
    rw [← fz_mul, ← fz_add, fz_z]; decide +kernel
  generalize fz (cB : Int) = b at *
  generalize fz (ru0 : Int) = u0 at *
  generalize fz (ru1 : Int) = u1 at *
  generalize fz (rv0 : Int) = v0 at *
  generalize fz (rv1 : Int) = v1 at *
  generalize fz (rv2 : Int) = v2 at *
  generalize fz (rg0 : Int) = g0 at *
  generalize fz (rg1 : Int) = g1 at *
  generalize fz (rg2 : Int) = g2 at *
  have id : (u0 + u1 * r) * (r * r * r - 3 * r + b) + (v0 + v1 * r + v2 * (r * r)) * (g0 + g1 * r + g2 * (r * r) - r) = (u0 * b + v0 * g0) + (u1 * b - 3 * u0 + v0 * (g1 - 1) + v1 * g0) * r + (v0 * g2 + v1 * (g1 - 1) + v2 * g0 - 3 * u1) * (r * r) + (u0 + v1 * g2 + v2 * (g1 - 1)) * (r * r * r) + (u1 + v2 * g2) * (r * r * r * r) := by
    clear hr h k0 k1 k2 k3 k4 hf e; grind
  rw [hr, h, k0, k1, k2, k3, k4] at id
  have : (1 : fq) = 0 := rz id
  exact absurd this (by decide)
theorem cK1 {F : Type} [Lean.Grind.CommRing F] {x b : F} (h : 0 * 0 = x * x * x + -3 * x + b) : x * x * x - 3 * x + b = 0 := by
  grind
/-- the curve -/
theorem fq_two : (2 : fq) ≠ 0 := by decide
theorem cK : ecK (F := fq) (-3) (fz (cB : Int)) fiv := by
  refine ⟨fqf_D, fiv_e, fq_two, fun x y h hy => ?_⟩
  unfold ecC at h
  rw [hy] at h
  exact no_root x (cK1 h)
