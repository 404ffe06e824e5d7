/-! Oprf: isScalar, isSecret, putElement, expand, hashToScalar, hashToGroup -/
theorem vm_loop {E : vm_E} {y : vm_M} {kc ks pc : Nat} {Q : Option Value → vm_H → Prop} (P : Nat → vm_H → Prop) (n : Nat) (L : Nat → vm_L) (i0 : Nat) (h0 : vm_H) (hi : i0 ≤ n) (hp : P i0 h0) (hend : ∀ h, P n h → vm_T E y kc ks pc (L n) [] h Q) (hstep : ∀ i h, i0 ≤ i → i < n → P i h → (∀ h', P (i + 1) h' → vm_T E y kc ks pc (L (i + 1)) [] h' Q) → vm_T E y kc ks pc (L i) [] h Q) : vm_T E y kc ks pc (L i0) [] h0 Q := by
  refine vm_while (σ := Nat × vm_H) (fun y => i0 ≤ y.1 ∧ y.1 ≤ n ∧ P y.1 y.2) (fun y => n - y.1) (fun y => L y.1) (fun y => y.2) ?_ (i0, h0) ⟨Nat.le_refl _, hi, hp⟩
  rintro ⟨i, h⟩ ⟨p1, p2, p3⟩ ih
  dsimp only at p1 p2 p3 ih ⊢
  rcases Nat.lt_or_ge i n with q | q
  · refine hstep i h p1 q p3 (fun h' hp' => ih (i + 1, h') ⟨by show i0 ≤ i + 1; omega, by show i + 1 ≤ n; omega, hp'⟩ ?_)
    show n - (i + 1) < n - i
    omega
  · have : i = n := by omega
    subst this
    exact hend h p3
def tgG : List Nat := [72, 97, 115, 104, 84, 111, 71, 114, 111, 117, 112, 45, 79, 80, 82, 70, 86, 49, 45, 1, 45, 80, 51, 56, 52, 45, 83, 72, 65, 51, 56, 52]
def tgS : List Nat := [72, 97, 115, 104, 84, 111, 83, 99, 97, 108, 97, 114, 45, 79, 80, 82, 70, 86, 49, 45, 1, 45, 80, 51, 56, 52, 45, 83, 72, 65, 51, 56, 52]
def tgE : List Nat := [83, 101, 101, 100, 45, 79, 80, 82, 70, 86, 49, 45, 1, 45, 80, 51, 56, 52, 45, 83, 72, 65, 51, 56, 52]
def tCo : List Nat := [67, 111, 109, 112, 111, 115, 105, 116, 101]
def tCh : List Nat := [67, 104, 97, 108, 108, 101, 110, 103, 101]
def tFi : List Nat := [70, 105, 110, 97, 108, 105, 122, 101]
/-- the constants of Hash and the Strings -/
def EV (st2 kk2 : Nat → Int32) (st3 kk3 : Nat → Int64) (h : vm_H) : Prop :=
  HK h st2 kk2 st3 kk3 ∧ sto h 1099511627816 tgG.length (gb tgG) ∧ sto h 1099511627822 tgS.length (gb tgS) ∧ sto h 1099511627818 tgE.length (gb tgE) ∧ sto h 1099511627820 tCo.length (gb tCo) ∧ sto h 1099511627824 tCh.length (gb tCh) ∧ sto h 1099511627826 tFi.length (gb tFi)
theorem EV_fr {st2 kk2 : Nat → Int32} {st3 kk3 : Nat → Int64} {h h' : vm_H} (k : EV st2 kk2 st3 kk3 h) (e : ∀ q, 1099511627776 ≤ q → h'.2 q = h.2 q) : EV st2 kk2 st3 kk3 h' := by
  obtain ⟨k1, k2, k3, k4, k5, k6, k7⟩ := k
  exact ⟨HK_fr k1 e, sto_fr k2 e, sto_fr k3 e, sto_fr k4 e, sto_fr k5 e, sto_fr k6 e, sto_fr k7 e⟩
/-- the Oprf's places but its own -/
def OR (a q : Nat) : Prop := a + 1 ≤ q ∧ q < a + 711
theorem EV_or {st2 kk2 : Nat → Int32} {st3 kk3 : Nat → Int64} {h h' : vm_H} {a : Nat} {S : Nat → Prop} (k : EV st2 kk2 st3 kk3 h) (ha : a + 1000 < 1099511627776) (F : fr h h' S) (hS : ∀ q, S q → OR a q) : EV st2 kk2 st3 kk3 h' := EV_fr k (fun q hq => F.2 q (fun z => by have := hS q z; unfold OR at this; omega))
theorem xor_b {x y : Nat} : (sb x ^^^ sb y).toInt8.toInt32 = sb (x ^^^ y) := by
  have e : Int32.ofNat (x ^^^ y) = Int32.ofNat x ^^^ Int32.ofNat y := by
    apply Int32.toBitVec_inj.mp
    rw [Int32.toBitVec_xor]
    exact BitVec.ofNat_xor
  unfold sb
  rw [e, Int32.toInt8_xor, Int32.toInt8_xor, Int8.toInt8_toInt32, Int8.toInt8_toInt32]
theorem xor_lt {x y : Nat} (hx : x < 256) (hy : y < 256) : x ^^^ y < 256 := Nat.xor_lt_two_pow (n := 8) hx hy
def lx (v w : List Nat) : List Nat := sl (fun j => gb v j ^^^ gb w j) 0 48
/-- expand_message_xmd -/
def xb0 (st kk : Nat → Int64) (tag msg : List Nat) (many : Nat) : List Nat := H3 st kk (List.replicate 128 0 ++ msg ++ nb many 2 ++ [0] ++ tag ++ [tag.length])
def xl (st kk : Nat → Int64) (tag b0 : List Nat) : Nat → List Nat
  | 0 => List.replicate 48 0
  | i + 1 => H3 st kk (lx b0 (xl st kk tag b0 i) ++ [i + 1] ++ tag ++ [tag.length])
def xc (st kk : Nat → Int64) (tag b0 : List Nat) : Nat → List Nat
  | 0 => []
  | i + 1 => xc st kk tag b0 i ++ xl st kk tag b0 (i + 1)
def xpd (st kk : Nat → Int64) (tag msg : List Nat) (many n : Nat) : List Nat := xc st kk tag (xb0 st kk tag msg many) n
theorem xl_len {st kk : Nat → Int64} {tag b0 : List Nat} : ∀ i, (xl st kk tag b0 i).length = 48
  | 0 => List.length_replicate
  | i + 1 => H3_len
theorem xc_len {st kk : Nat → Int64} {tag b0 : List Nat} : ∀ i, (xc st kk tag b0 i).length = 48 * i
  | 0 => rfl
  | i + 1 => by
    show (xc st kk tag b0 i ++ xl st kk tag b0 (i + 1)).length = _
    rw [List.length_append, xc_len i, xl_len]; omega
theorem rep_s {n : Nat} : List.replicate n 0 ++ [0] = List.replicate (n + 1) 0 := List.replicate_succ'.symm
section
variable {l : Launch} {O : Nat → vm_Ob} {f9 : Value} {a : Nat} {h : vm_H} {W : Nat → List Nat} {B : Nat → Nat → Nat} {V : Nat → Option Nat} {g : og} {st2 kk2 : Nat → Int32} {st3 kk3 : Nat → Int64}
theorem OP_mo (k : OPc a h W B V g) : ∃ fs : List Value, h.2 (a + 661) = .inr (6, fs) := by
  obtain ⟨nq, rq, hP, ⟨fs, m0, _⟩, _⟩ := OP_M k
  exact ⟨fs, m0⟩
theorem OP_fo (k : OPc a h W B V g) : ∃ fs : List Value, h.2 (a + 13) = .inr (3, fs) := by
  obtain ⟨ni, ri, G, ⟨u, c⟩, s⟩ := OP_C k
  obtain ⟨⟨_, ⟨⟨fs, m0, _⟩, _⟩, _⟩, _⟩ := c
  exact ⟨fs, m0⟩
theorem bn_14 {b : Nat → Nat} {n fa at9 : Nat} (hb : bv h n fa b) (hn : at9 + 48 ≤ n) : bn b at9 48 < 268435456 ^ 14 := by
  obtain ⟨f, _, v⟩ := hb
  have := bn_lt (b := b) (at9 := at9) 48 (fun j h1 h2 => (v j (by omega)).2)
  exact Nat.lt_of_lt_of_le this (by decide +kernel)

theorem p_scal {fa n at9 : Nat} {b : Nat → Nat} (k : OPc a h W B V g) (hb : bv h n fa b) (hn : at9 + 48 ≤ n) (hn2 : n < 65536) : vm_Met (vm_env l O f9) mX7_isScalar 0 0 [.ref a, .ref fa, .int (nI at9)] h (fun r h' => r = some (.int (if bn b at9 48 < cQ then 1 else 0)) ∧ OPc a h' W B (fu V 0 (some (bn b at9 48))) g ∧ fr h h' (fun q => q = a + 697 + 0)) := by
  refine vm_met rfl (Nat.le_of_ble_eq_true rfl) ?_
  refine vm_go rfl bX7_isScalar_0 oX7_isScalar_0 ⟨_, _, OP_t k, rfl, ⟨_, _, _, .ref (a + 697 + 0), OP_n k, by decide, rfl, 0, rfl, by decide, rfl, ⟨0, 0, _, o_read (t := 0) (size := 48) k (by decide) hb hn hn2, Nat.zero_le _, Nat.zero_le _, ?_⟩⟩⟩
  rintro _ h1 ⟨rfl, k1, F1⟩
  refine ⟨_, _, OP_t k1, rfl, ⟨_, _, OP_t k1, rfl, ⟨_, _, _, .ref (a + 697 + 0), OP_n k1, by decide, rfl, 0, rfl, by decide, rfl, ⟨(OP_mo k1).choose, (OP_mo k1).choose_spec, 0, 0, _, o_abo (t := 0) k1 (by decide) fu_e (bn_14 hb hn), Nat.zero_le _, Nat.zero_le _, ?_⟩⟩⟩⟩
  rintro _ h2 ⟨rfl, rfl⟩
  exact ⟨nar_b, rfl, k1, F1⟩
theorem p_secr {fa n at9 : Nat} {b : Nat → Nat} (k : OPc a h W B V g) (hb : bv h n fa b) (hn : at9 + 48 ≤ n) (hn2 : n < 65536) : vm_Met (vm_env l O f9) mX7_isSecret 0 0 [.ref a, .ref fa, .int (nI at9)] h (fun r h' => r = some (.int (if 0 < bn b at9 48 ∧ bn b at9 48 < cQ then 1 else 0)) ∧ OPc a h' W B (fu V 0 (some (bn b at9 48))) g ∧ fr h h' (fun q => q = a + 697 + 0)) := by
  have hbl : ∀ j, j < n → b j < 256 := fun j hj => by obtain ⟨f, _, v⟩ := hb; exact (v j hj).2
  have hz : bn b at9 48 = 0 ↔ ∀ i, i < 48 → b (at9 + i) = 0 := by
    constructor
    · intro e i hi
      have := bn_dig (b := b) (at9 := at9) 48 (47 - i) (fun j h1 h2 => hbl j (by omega)) (by omega)
      rw [e, show at9 + 48 - 1 - (47 - i) = at9 + i by omega] at this
      rw [← this]; simp
    · intro e
      have : bn b at9 48 = bn (fun _ => 0) 0 48 := bn_ext 48 (fun j hj => e j hj)
      rw [this]; decide +kernel
  refine vm_met rfl (Nat.le_of_ble_eq_true rfl) ?_
  refine vm_go rfl bX7_isSecret_0 oX7_isSecret_0 ⟨_, OP_t k, 0, 0, _, p_scal k hb hn hn2, Nat.zero_le _, Nat.zero_le _, ?_⟩
  rintro _ h1 ⟨rfl, k1, F1⟩
  have h24 : ∀ (x : Int32) (p : Prop) [Decidable p], x = (if p then 1 else 0) → (p ↔ (0 < bn b at9 48 ∧ bn b at9 48 < cQ)) → vm_T (vm_env l O f9) mX7_isSecret 0 0 24 [(0, .ref a), (1, .ref fa), (2, .int (nI at9))] [.int x] h1 (fun r h' => r = some (.int (if 0 < bn b at9 48 ∧ bn b at9 48 < cQ then 1 else 0)) ∧ OPc a h' W B (fu V 0 (some (bn b at9 48))) g ∧ fr h h' (fun q => q = a + 697 + 0)) := by
    intro x p _ hx hp
    subst hx
    refine vm_go rfl bX7_isSecret_24 oX7_isSecret_24 ⟨nar_b, ?_, k1, F1⟩
    by_cases z : p
    · rw [if_pos z, if_pos (hp.mp z)]
    · rw [if_neg z, if_neg (fun w => z (hp.mpr w))]
  by_cases hq : bn b at9 48 < cQ
  · rw [if_pos hq]
    refine ⟨fun q => absurd q (by decide), fun _ => ⟨0, 0, _, w_zero (many := 48) (fr_bv F1 hb (bv_ne hb (OP_v k (by decide)).1)) hn hn2, Nat.zero_le _, Nat.zero_le _, ?_⟩⟩
    rintro _ h2 ⟨rfl, x, rfl, hx⟩
    rcases hx with ⟨rfl, hx⟩ | ⟨rfl, i, hi, hx⟩
    · refine ⟨fun _ => ?_, fun q => absurd q (by decide)⟩
      refine vm_go rfl bX7_isSecret_23 oX7_isSecret_23 (h24 0 False (by rw [if_neg id]) ?_)
      rw [hz.mpr hx]
      exact ⟨False.elim, fun w => absurd w.1 (by decide)⟩
    · refine ⟨fun q => absurd rfl q, fun _ => h24 1 True (by rw [if_pos trivial]) ⟨fun _ => ⟨?_, hq⟩, fun _ => trivial⟩⟩
      rcases Nat.eq_zero_or_pos (bn b at9 48) with e | e
      · exact absurd (hz.mp e i hi) hx
      · exact e
  · rw [if_neg hq]
    refine ⟨fun _ => ?_, fun q => absurd rfl q⟩
    refine vm_go rfl bX7_isSecret_23 oX7_isSecret_23 (h24 0 False (by rw [if_neg id]) ?_)
    exact ⟨False.elim, fun w => absurd w.2 hq⟩
theorem p_elem {fa n at9 : Nat} {b : Nat → Nat} {w : List Nat} (k : OPc a h (fu W 1 w) B V g) (hb : bv h n fa b) (hn : at9 + 49 ≤ n) (hn2 : n < 65536) (hw : w.length + 51 ≤ 300) (hfa : fa ≠ a + 686) : vm_Met (vm_env l O f9) mX7_putElement 0 0 [.ref a, .ref fa, .int (nI at9)] h (fun r h' => r = none ∧ OPc a h' (fu W 1 (w ++ nb 49 2 ++ sl b at9 49)) B V g ∧ fr h h' (fun q => q = a + 685 ∨ q = a + 686)) := by
  refine vm_met rfl (Nat.le_of_ble_eq_true rfl) ?_
  refine vm_go rfl bX7_putElement_0 oX7_putElement_0 ⟨_, _, OP_t k, rfl, ⟨_, OP_ro k (j := 1) (by decide), 0, 0, _, o_numb (j := 1) (m := 2) (z := 49) k (by decide) (by show _ ≤ 300; omega) (by decide) (by decide) (by decide), Nat.zero_le _, Nat.zero_le _, ?_⟩⟩
  rintro _ h1 ⟨rfl, k1, F1⟩
  have F1 : fr h h1 (fun q => q = a + 685 ∨ q = a + 686) := F1
  have b1 : bv h1 n fa b := by
    refine fr_bv F1 hb ?_
    rintro (z | z)
    · obtain ⟨f, e, _⟩ := hb
      have := OP_ro k (j := 1) (by decide)
      have this : h.2 (a + 685) = _ := this
      rw [← z, e] at this; cases this
    · exact hfa z
  refine ⟨_, _, OP_t k1, rfl, ⟨_, OP_ro k1 (j := 1) (by decide), 0, 0, _, o_all (j := 1) (m := 49) k1 (by decide) b1 hn hn2 (by show _ ≤ 300; rw [List.length_append, nb_len]; omega), Nat.zero_le _, Nat.zero_le _, ?_⟩⟩
  rintro _ h2 ⟨rfl, k2, F2⟩
  exact ⟨rfl, k2, fr_trans F1 F2⟩
end
