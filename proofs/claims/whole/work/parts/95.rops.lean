/-! a KEY's Modulus at work on a BlindRsa's rows -/
theorem p_len {len : Nat} : 256 ^ len ≤ 268435456 ^ (8 * len / 28 + 1) := by
  rw [p8, p28]
  exact Nat.pow_le_pow_right (by decide) (by omega)
theorem wb_mod {X len L : Nat} (h : 8 * len ≤ 28 * L) : wb (X % 268435456 ^ L) len = wb X len := by
  refine sl_ext (fun j hj => ?_)
  rw [Nat.zero_add]
  show X % 268435456 ^ L / 256 ^ (len - 1 - j) % 256 = X / 256 ^ (len - 1 - j) % 256
  have e : 268435456 ^ L = 256 ^ (len - 1 - j) * (256 * 2 ^ (28 * L - 8 * (len - 1 - j) - 8)) := by
    rw [p28, p8, show (256 : Nat) = 2 ^ 8 from rfl, ← Nat.pow_add, ← Nat.pow_add]
    congr 1; omega
  rw [e, Nat.mod_mul_right_div_self, Nat.mod_mul_right_mod]
theorem fr_MR {A : Nat → Nat} {c q : Nat} (h : rS A 6 c q) : q = c ∨ MR A q := by
  rcases h with z | (z | ⟨z, _⟩) | z
  · exact Or.inl z
  · exact Or.inr (Or.inl z)
  · cases z
  · exact Or.inr (Or.inr z)
theorem fr_MS {A : Nat → Nat} {c q : Nat} (h : q = c ∨ sc A 6 q) : q = c ∨ MR A q := by
  rcases h with z | z | ⟨z, _⟩
  · exact Or.inl z
  · exact Or.inr (Or.inl z)
  · cases z
section
variable {l : Launch} {O : Nat → vm_Ob} {f9 : Value} {a : Nat} {h : vm_H} {w : List Nat} {B : Nat → Nat → Nat} {K len s sh se ki : Nat} {lv : Int32} {A : Nat → Nat} {ni ri : Nat} {shb seb : Nat → Nat}
/-- where a KEY lies -/
def KA (a K sh se : Nat) (A : Nat → Nat) : Prop := a + 22 ≤ K ∧ a + 22 ≤ sh ∧ a + 22 ≤ se ∧ ∀ i, i < 24 → a + 22 ≤ A i
theorem K2_mo (q : K2 h K len s sh se ki lv A ni ri shb seb) : ∃ fs : List Value, h.2 (A 0) = .inr (6, fs) := by
  obtain ⟨⟨fs, m0, _⟩, _⟩ := q.2.2.2.2.1
  exact ⟨fs, m0⟩
theorem K2_okc {t : Nat} (k : RSc a h w B) (ka : KA a K sh se A) (ht : t < 3) : okc A (a + 19 + t) ∧ (∀ i, i < 16 → a + 19 + t ≠ A (8 + i)) ∧ a + 19 + t ≠ A 6 := by
  have k0 := k.1
  refine ⟨⟨fun i hi e => ?_, by omega⟩, fun i hi e => ?_, fun e => ?_⟩
  · have := ka.2.2.2 i (by omega); omega
  · have := ka.2.2.2 (8 + i) (by omega); omega
  · have := ka.2.2.2 6 (by omega); omega
theorem x_aft {h' : vm_H} {t : Nat} {S : Nat → Prop} (k : RSc a h w B) (q : K2 h K len s sh se ki lv A ni ri shb seb) (ka : KA a K sh se A) (ht : t < 3) (F : fr h h' S) (hS : ∀ q, S q → q = a + 19 + t ∨ MR A q) (hM : MD h' A 6 (8 * len / 28 + 1) (bn shb 0 len) ni) (hl : lz 74 h' (a + 19 + t)) : RSc a h' w B ∧ K2 h' K len s sh se ki lv A ni ri shb seb ∧ fr h h' (fun q => q = a + 19 + t ∨ MR A q) := by
  have F' := fr_mono F hS
  refine ⟨RS_num k ht F' (fun z hz => ?_) hl, K2_up q F' hM ?_ ?_ ?_, F'⟩
  · rcases hz with z1 | z1 | ⟨i, hi, z1⟩
    · exact Or.inl z1
    · right; have := ka.2.2.2 6 (by decide); omega
    · right; have := ka.2.2.2 (8 + i) (by omega); omega
  · rintro (z | z)
    · have := ka.1; omega
    · exact K2_no q q.1 z
  · rintro (z | z)
    · have := ka.2.1; omega
    · exact K2_nb q q.2.1 z
  · rintro (z | z)
    · have := ka.2.2.1; omega
    · exact K2_nb q q.2.2.1 z
theorem L_74 (q : K2 h K len s sh se ki lv A ni ri shb seb) : 8 * len / 28 + 1 ≤ 74 := by
  have := q.2.2.2.2.2.1.2
  omega
theorem x_read {t fa nf at9 : Nat} {b : Nat → Nat} (k : RSc a h w B) (q : K2 h K len s sh se ki lv A ni ri shb seb) (ka : KA a K sh se A) (ht : t < 3) (hf : bv h nf fa b) (hat : at9 + len ≤ nf) (hnf : nf < 65536) : vm_Met (vm_env l O f9) mX6_read 0 0 [.ref fa, .int (nI at9), .int (nI len), .ref (a + 19 + t)] h (fun r h' => r = none ∧ nz 74 h' (8 * len / 28 + 1) (a + 19 + t) (bn b at9 len) ∧ RSc a h' w B ∧ K2 h' K len s sh se ki lv A ni ri shb seb ∧ fr h h' (fun q => q = a + 19 + t ∨ MR A q)) := by
  have k0 := k.1
  obtain ⟨X, hX, _⟩ := RS_v k ht
  refine vm_metP (s_read hf (nv_la hX) hat hnf (by decide) (by omega)) ?_
  rintro r h' ⟨e, k1, F⟩
  have hb : bn b at9 len < 256 ^ len := by
    obtain ⟨f, _, v⟩ := hf
    exact bn_lt len (fun j h1 h2 => (v j (by omega)).2)
  have hl := Nat.lt_of_lt_of_le hb p_len
  have hl74 : bn b at9 len < 268435456 ^ 74 := Nat.lt_of_lt_of_le hl (Nat.pow_le_pow_right (by decide) (L_74 q))
  have hn : nz 74 h' (8 * len / 28 + 1) (a + 19 + t) (bn b at9 len) := ⟨_, k1, hl74, Nat.mod_eq_of_lt hl⟩
  obtain ⟨o1, o2, o3⟩ := K2_okc k ka ht
  refine ⟨e, hn, x_aft k q ka ht F (fun q hq => Or.inl hq) (MD_ext q.2.2.2.2.1 F o1 o2 (fun _ z => z)) (nz_lz hn)⟩
theorem x_write {t u x : Nat} (k : RSc a h w B) (q : K2 h K len s sh se ki lv A ni ri shb seb) (ka : KA a K sh se A) (ht : t < 3) (hu : u < 9) (hul : zln u = 256) (hx : nz 74 h (8 * len / 28 + 1) (a + 19 + t) x) : vm_Met (vm_env l O f9) mX6_write 0 0 [.ref (a + 19 + t), .ref (a + zad u), .int (nI 0), .int (nI len)] h (fun r h' => r = none ∧ (∃ c, RSc a h' w (fu B u c) ∧ sl c 0 len = wb x len) ∧ K2 h' K len s sh se ki lv A ni ri shb seb ∧ fr h h' (fun q => q = a + zad u)) := by
  have k0 := k.1
  have ho := zad_c hu
  obtain ⟨X, hX, hX2, hX3⟩ := hx
  have hl := q.2.2.2.2.2.1.2
  refine vm_metP (b_write hX (RS_b k hu) (by rw [hul]; omega) (zln_lt u).2 (by decide) (by omega) hX2) ?_
  rintro r h' ⟨e, k1, F⟩
  refine ⟨e, ⟨_, RS_byt k hu F k1, ?_⟩, K2_fr q F ?_ ?_ ?_ (fun i hi _ => ?_), F⟩
  · rw [wrb_sl, ← hX3, wb_mod (by omega)]
  · have := ka.1; omega
  · have := ka.2.1; omega
  · have := ka.2.2.1; omega
  · have := ka.2.2.2 i hi; omega
theorem x_abo {t x : Nat} (k : RSc a h w B) (q : K2 h K len s sh se ki lv A ni ri shb seb) (hx : nz 74 h (8 * len / 28 + 1) (a + 19 + t) x) : vm_Met (vm_env l O f9) mX6_isAbove 0 0 [.ref (A 0), .ref (a + 19 + t)] h (fun r h' => r = some (.int (if x < bn shb 0 len then 1 else 0)) ∧ h' = h) := z_abo q.2.2.2.1 q.2.2.2.2.1 hx (L_74 q)
theorem x_ent {t u x : Nat} (k : RSc a h w B) (q : K2 h K len s sh se ki lv A ni ri shb seb) (ka : KA a K sh se A) (ht : t < 3) (hu : u < 3) (hx : nz 74 h (8 * len / 28 + 1) (a + 19 + t) x) : vm_Met (vm_env l O f9) mX6_enter 0 0 [.ref (A 0), .ref (a + 19 + t), .ref (a + 19 + u)] h (fun r h' => r = none ∧ mz 74 h' (8 * len / 28 + 1) (bn shb 0 len) (a + 19 + u) x ∧ RSc a h' w B ∧ K2 h' K len s sh se ki lv A ni ri shb seb ∧ fr h h' (fun q => q = a + 19 + u ∨ MR A q)) := by
  obtain ⟨o1, o2, o3⟩ := K2_okc k ka hu
  refine vm_metP (z_ent q.2.2.2.1 q.2.2.2.2.1 hx (RS_v k hu) (L_74 q) (L_74 q) (K2_okc k ka ht).2.2 o1 o2) ?_
  rintro r h' ⟨e, k1, M, F⟩
  exact ⟨e, k1, x_aft k q ka hu F (fun q hq => fr_MS hq) M (nz_lz k1)⟩
theorem x_lev {t u : Nat} {X : Int} (k : RSc a h w B) (q : K2 h K len s sh se ki lv A ni ri shb seb) (ka : KA a K sh se A) (ht : t < 3) (hu : u < 3) (hx : mz 74 h (8 * len / 28 + 1) (bn shb 0 len) (a + 19 + t) X) : vm_Met (vm_env l O f9) mX6_leave 0 0 [.ref (A 0), .ref (a + 19 + t), .ref (a + 19 + u)] h (fun r h' => r = none ∧ nz 74 h' (8 * len / 28 + 1) (a + 19 + u) (X % (bn shb 0 len : Nat)).toNat ∧ RSc a h' w B ∧ K2 h' K len s sh se ki lv A ni ri shb seb ∧ fr h h' (fun q => q = a + 19 + u ∨ MR A q)) := by
  obtain ⟨o1, o2, o3⟩ := K2_okc k ka hu
  refine vm_metP (z_lev q.2.2.2.1 q.2.2.2.2.1 hx (RS_v k hu) (L_74 q) (L_74 q) (K2_okc k ka ht).2.2 o1 o2) ?_
  rintro r h' ⟨e, k1, M, F⟩
  exact ⟨e, k1, x_aft k q ka hu F (fun q hq => fr_MS hq) M (nz_lz k1)⟩
theorem x_mul {t u v : Nat} {X Y : Int} (k : RSc a h w B) (q : K2 h K len s sh se ki lv A ni ri shb seb) (ka : KA a K sh se A) (ht : t < 3) (hu : u < 3) (hv : v < 3) (hx : mz 74 h (8 * len / 28 + 1) (bn shb 0 len) (a + 19 + t) X) (hy : mz 74 h (8 * len / 28 + 1) (bn shb 0 len) (a + 19 + u) Y) : vm_Met (vm_env l O f9) mX6_mul 0 0 [.ref (A 0), .ref (a + 19 + t), .ref (a + 19 + u), .ref (a + 19 + v)] h (fun r h' => r = none ∧ mz 74 h' (8 * len / 28 + 1) (bn shb 0 len) (a + 19 + v) (X * Y) ∧ RSc a h' w B ∧ K2 h' K len s sh se ki lv A ni ri shb seb ∧ fr h h' (fun q => q = a + 19 + v ∨ MR A q)) := by
  obtain ⟨o1, o2, o3⟩ := K2_okc k ka hv
  refine vm_metP (y_mul q.2.2.2.1 q.2.2.2.2.1 hx hy (RS_v k hv) (L_74 q) (L_74 q) (L_74 q) (K2_okc k ka ht).2.2 (K2_okc k ka hu).2.2 o1 o2) ?_
  rintro r h' ⟨e, k1, M, F⟩
  exact ⟨e, k1, x_aft k q ka hv F (fun q hq => fr_MS hq) M (nz_lz k1)⟩
/-- a plain number times a residue: a plain number -/
theorem x_mulp {t u v x : Nat} {Y : Int} (k : RSc a h w B) (q : K2 h K len s sh se ki lv A ni ri shb seb) (ka : KA a K sh se A) (ht : t < 3) (hu : u < 3) (hv : v < 3) (hx : nz 74 h (8 * len / 28 + 1) (a + 19 + t) x) (hy : mz 74 h (8 * len / 28 + 1) (bn shb 0 len) (a + 19 + u) Y) : vm_Met (vm_env l O f9) mX6_mul 0 0 [.ref (A 0), .ref (a + 19 + t), .ref (a + 19 + u), .ref (a + 19 + v)] h (fun r h' => r = none ∧ nz 74 h' (8 * len / 28 + 1) (a + 19 + v) (Y * x % (bn shb 0 len : Nat)).toNat ∧ RSc a h' w B ∧ K2 h' K len s sh se ki lv A ni ri shb seb ∧ fr h h' (fun q => q = a + 19 + v ∨ MR A q)) := by
  obtain ⟨o1, o2, o3⟩ := K2_okc k ka hv
  have hN := MP_N q.2.2.2.1
  refine vm_metP (z_mul q.2.2.2.1 q.2.2.2.2.1 hx hy (RS_v k hv) (L_74 q) (L_74 q) (L_74 q) (mt_lt hN.1) (K2_okc k ka ht).2.2 (K2_okc k ka hu).2.2 o1 o2) ?_
  rintro r h' ⟨e, k1, M, F⟩
  rw [Nat.mul_comm x, mt_k hN.1 hN.2.2] at k1
  exact ⟨e, k1, x_aft k q ka hv F (fun q hq => fr_MS hq) M (nz_lz k1)⟩
theorem x_rai {t u e nn at9 size : Nat} {b : Nat → Nat} {X : Int} (k : RSc a h w B) (q : K2 h K len s sh se ki lv A ni ri shb seb) (ka : KA a K sh se A) (ht : t < 3) (hu : u < 3) (hx : mz 74 h (8 * len / 28 + 1) (bn shb 0 len) (a + 19 + t) X) (he9 : bv h nn e b) (hn : at9 + size ≤ nn) (hn2 : nn < 65536) : vm_Met (vm_env l O f9) mX6_raise 0 0 [.ref (A 0), .ref (a + 19 + t), .ref e, .int (nI at9), .int (nI size), .ref (a + 19 + u)] h (fun r h' => r = none ∧ mz 74 h' (8 * len / 28 + 1) (bn shb 0 len) (a + 19 + u) (X ^ bn b at9 size) ∧ RSc a h' w B ∧ K2 h' K len s sh se ki lv A ni ri shb seb ∧ fr h h' (fun q => q = a + 19 + u ∨ MR A q)) := by
  obtain ⟨o1, o2, o3⟩ := K2_okc k ka hu
  refine vm_metP (y_raise q.2.2.2.1 q.2.2.2.2.1 hx (RS_v k hu) (L_74 q) (L_74 q) he9 hn hn2 o1 o2) ?_
  rintro r h' ⟨e, k1, M, F⟩
  exact ⟨e, k1, x_aft k q ka hu F (fun q hq => fr_MR hq) M (nz_lz k1)⟩
theorem x_inv {t u : Nat} {X : Int} (k : RSc a h w B) (q : K2 h K len s sh se ki lv A ni ri shb seb) (ka : KA a K sh se A) (ht : t < 3) (hu : u < 3) (hx : mz 74 h (8 * len / 28 + 1) (bn shb 0 len) (a + 19 + t) X) : vm_Met (vm_env l O f9) mX6_invert 0 0 [.ref (A 0), .ref (a + 19 + t), .ref (a + 19 + u)] h (fun r h' => ∃ Y : Int, r = some (.int (if Nat.gcd (mt (bn shb 0 len) (8 * len / 28 + 1) X) (bn shb 0 len) = 1 then 1 else 0)) ∧ mz 74 h' (8 * len / 28 + 1) (bn shb 0 len) (a + 19 + u) Y ∧ (Nat.gcd (mt (bn shb 0 len) (8 * len / 28 + 1) X) (bn shb 0 len) = 1 → X * Y % (bn shb 0 len : Nat) = 1) ∧ RSc a h' w B ∧ K2 h' K len s sh se ki lv A ni ri shb seb ∧ fr h h' (fun q => q = a + 19 + u ∨ MR A q)) := by
  obtain ⟨o1, o2, o3⟩ := K2_okc k ka hu
  refine vm_metP (y_inv q.2.2.2.1 q.2.2.2.2.1 hx (RS_v k hu) (L_74 q) (L_74 q) o1 o2) ?_
  rintro r h' ⟨Y, e, k1, k2, M, F⟩
  exact ⟨Y, e, k1, k2, x_aft k q ka hu F (fun q hq => fr_MR hq) M (nz_lz k1)⟩
theorem x_same {t u : Nat} {X Y : Int} (k : RSc a h w B) (q : K2 h K len s sh se ki lv A ni ri shb seb) (hx : mz 74 h (8 * len / 28 + 1) (bn shb 0 len) (a + 19 + t) X) (hy : mz 74 h (8 * len / 28 + 1) (bn shb 0 len) (a + 19 + u) Y) : vm_Met (vm_env l O f9) mX6_same 0 0 [.ref (A 0), .ref (a + 19 + t), .ref (a + 19 + u)] h (fun r h' => r = some (.int (if X % (bn shb 0 len : Nat) = Y % (bn shb 0 len : Nat) then 1 else 0)) ∧ h' = h) := by
  have hN := MP_N q.2.2.2.1
  refine vm_metP (z_same q.2.2.2.1 q.2.2.2.2.1 hx hy (L_74 q) (L_74 q)) ?_
  rintro r h' ⟨e, e2⟩
  refine ⟨?_, e2⟩
  rw [e]
  by_cases z : X % (bn shb 0 len : Nat) = Y % (bn shb 0 len : Nat)
  · rw [if_pos z, if_pos ((mt_eq hN.1 hN.2.2).mpr z)]
  · rw [if_neg z, if_neg (fun w => z ((mt_eq hN.1 hN.2.2).mp w))]
end
