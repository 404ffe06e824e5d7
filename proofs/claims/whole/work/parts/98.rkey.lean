/-! BlindRsa: sizeOf, isKey, makeKey, its constructor -/
theorem iZ_div2 {z : Int} (h1 : -1000000 ≤ z) (h2 : z < 1000000) : iZ z / 2 = iZ (z.tdiv 2) := by
  apply Int32.toInt_inj.mp
  have hb : -1000000 ≤ z.tdiv 2 ∧ z.tdiv 2 ≤ 1000000 := by
    rcases Int.le_total 0 z with y | y
    · rw [Int.tdiv_eq_ediv_of_nonneg y]; omega
    · have e : z.tdiv 2 = -((-z).tdiv 2) := by rw [Int.neg_tdiv, Int.neg_neg]
      rw [e, Int.tdiv_eq_ediv_of_nonneg (by omega)]; omega
  rw [Int32.toInt_div_of_ne_left]
  · rw [iZ_toInt (by omega) (by omega), iZ_toInt (by omega) (by omega)]
    rfl
  · intro w
    have := congrArg Int32.toInt w
    rw [iZ_toInt (by omega) (by omega)] at this
    have e : Int32.minValue.toInt = -2147483648 := by decide
    omega
theorem e3_e {x y z : Nat} (hx : x < 256) (hy : y < 256) (hz : z < 256) : ((nI x <<< ((16 : Int32) &&& 31)) ||| (nI y <<< ((8 : Int32) &&& 31))) ||| nI z = nI ((x * 256 + y) * 256 + z) := by
  rw [nI_shl (k := 16) (by decide), nI_shl (k := 8) (by decide)]
  have e1 : nI (x * 2 ^ 16) ||| nI (y * 2 ^ 8) = nI (y * 2 ^ 8 + x * 2 ^ 16) := by
    rw [Int32.or_comm]
    exact nI_or (k := 16) (by omega) (by omega)
  rw [e1]
  have e2 : y * 2 ^ 8 + x * 2 ^ 16 = (x * 256 + y) * 2 ^ 8 := by omega
  rw [e2, Int32.or_comm, nI_or (k := 8) (by omega) (by omega)]
  congr 1; omega
theorem bn_par {b : Nat → Nat} {p k : Nat} : bn b p (k + 1) % 2 = b (p + k) % 2 := by
  show (bn b p k * 256 + b (p + k)) % 2 = _
  omega
theorem bn_ge {b : Nat → Nat} {p : Nat} (h : 0 < b p) : ∀ k, 256 ^ k ≤ bn b p (k + 1)
  | 0 => by show 1 ≤ bn b p 0 * 256 + b (p + 0); rw [Nat.add_zero]; omega
  | k + 1 => by
    have := bn_ge h k
    show 256 ^ (k + 1) ≤ bn b p (k + 1) * 256 + b (p + (k + 1))
    rw [Nat.pow_succ]
    omega
/-- the bytes of a KEY of TYPE 2: N, E, D, S -/
def kOK (tb : Nat → Nat) (size : Nat) : Prop := 136 ≤ size ∧ size ≤ 516 ∧ size % 2 = 0 ∧ tb 0 ≠ 0 ∧ tb ((size - 4) / 2 - 1) % 2 = 1 ∧ 3 ≤ bn tb ((size - 4) / 2) 3 ∧ bn tb ((size - 4) / 2) 3 ≤ 65537 ∧ bn tb ((size - 4) / 2) 3 % 2 = 1 ∧ 0 < bn tb ((size - 4) / 2 + 3) ((size - 4) / 2) ∧ bn tb ((size - 4) / 2 + 3) ((size - 4) / 2) < bn tb 0 ((size - 4) / 2) ∧ (tb (size - 1) = 0 ∨ tb (size - 1) = 48 ∧ 100 ≤ (size - 4) / 2)
theorem bn_z {b : Nat → Nat} {p : Nat} : ∀ k, bn b p k = 0 ↔ ∀ i, i < k → b (p + i) = 0
  | 0 => ⟨fun _ i hi => by omega, fun _ => rfl⟩
  | k + 1 => by
    have ih := bn_z (b := b) (p := p) k
    show bn b p k * 256 + b (p + k) = 0 ↔ _
    constructor
    · intro h i hi
      rcases Nat.lt_or_ge i k with z | z
      · exact ih.mp (by omega) i z
      · rw [show i = k by omega]; omega
    · intro h
      rw [ih.mpr (fun i hi => h i (by omega)), h k (by omega)]

def bX1_isKeyx_0 : List vm_J := [(1, .iload_n 1, 0, 0, 0, .null), (3, .invokestatic 62, 2, 1, 0, .null), (1, .istore_n 2, 0, 0, 0, .null)]
set_option maxRecDepth 20000 in
theorem oX1_isKeyx_0 : vm_okB 1 mX1_isKey 0 bX1_isKeyx_0 = true := by decide +kernel
def bX1_isKeyx_5 : List vm_J := [(1, .iload_n 2, 0, 0, 0, .null), (2, .bipush 66, 0, 0, 0, .int 66), (3, .if_icmp .lt 21, 29, 0, 0, .null), (1, .iload_n 2, 0, 0, 0, .null), (3, .sipush 256, 0, 0, 0, .int 256), (3, .if_icmp .gt 14, 29, 0, 0, .null), (1, .iload_n 1, 0, 0, 0, .null), (1, .iconst 2, 0, 0, 0, .int 2), (1, .iload_n 2, 0, 0, 0, .null), (1, .imul, 0, 0, 0, .null), (1, .iconst 3, 0, 0, 0, .int 3), (1, .iadd, 0, 0, 0, .null), (1, .iconst 1, 0, 0, 0, .int 1), (1, .iadd, 0, 0, 0, .null), (3, .if_icmp .eq 5, 31, 0, 0, .null)]
set_option maxRecDepth 20000 in
theorem oX1_isKeyx_5 : vm_okB 1 mX1_isKey 5 bX1_isKeyx_5 = true := by decide +kernel
def bX1_isKeyx_29 : List vm_J := [(1, .iconst 0, 0, 0, 0, .int 0), (1, .ireturn, 0, 0, 0, .null)]
set_option maxRecDepth 20000 in
theorem oX1_isKeyx_29 : vm_okB 1 mX1_isKey 29 bX1_isKeyx_29 = true := by decide +kernel
def bX1_isKeyx_31 : List vm_J := [(1, .aload_n 0, 0, 0, 0, .null), (1, .iload_n 2, 0, 0, 0, .null), (1, .baload, 0, 0, 0, .null), (3, .sipush 255, 0, 0, 0, .int 255), (1, .iand, 0, 0, 0, .null), (2, .bipush 16, 0, 0, 0, .int 16), (1, .ishl, 0, 0, 0, .null), (1, .aload_n 0, 0, 0, 0, .null), (1, .iload_n 2, 0, 0, 0, .null), (1, .iconst 1, 0, 0, 0, .int 1), (1, .iadd, 0, 0, 0, .null), (1, .baload, 0, 0, 0, .null), (3, .sipush 255, 0, 0, 0, .int 255), (1, .iand, 0, 0, 0, .null), (2, .bipush 8, 0, 0, 0, .int 8), (1, .ishl, 0, 0, 0, .null), (1, .ior, 0, 0, 0, .null), (1, .aload_n 0, 0, 0, 0, .null), (1, .iload_n 2, 0, 0, 0, .null), (1, .iconst 2, 0, 0, 0, .int 2), (1, .iadd, 0, 0, 0, .null), (1, .baload, 0, 0, 0, .null), (3, .sipush 255, 0, 0, 0, .int 255), (1, .iand, 0, 0, 0, .null), (1, .ior, 0, 0, 0, .null), (1, .istore_n 3, 0, 0, 0, .null)]
set_option maxRecDepth 20000 in
theorem oX1_isKeyx_31 : vm_okB 1 mX1_isKey 31 bX1_isKeyx_31 = true := by decide +kernel
def bX1_isKeyx_65 : List vm_J := [(1, .iload_n 2, 0, 0, 0, .null), (1, .iconst 3, 0, 0, 0, .int 3), (1, .iadd, 0, 0, 0, .null), (2, .istore 4, 0, 0, 0, .null)]
set_option maxRecDepth 20000 in
theorem oX1_isKeyx_65 : vm_okB 1 mX1_isKey 65 bX1_isKeyx_65 = true := by decide +kernel
def bX1_isKeyx_70 : List vm_J := [(1, .aload_n 0, 0, 0, 0, .null), (1, .iload_n 1, 0, 0, 0, .null), (1, .iconst 1, 0, 0, 0, .int 1), (1, .isub, 0, 0, 0, .null), (1, .baload, 0, 0, 0, .null), (2, .istore 5, 0, 0, 0, .null)]
set_option maxRecDepth 20000 in
theorem oX1_isKeyx_70 : vm_okB 1 mX1_isKey 70 bX1_isKeyx_70 = true := by decide +kernel
def bX1_isKeyx_77 : List vm_J := [(1, .aload_n 0, 0, 0, 0, .null), (1, .iconst 0, 0, 0, 0, .int 0), (1, .baload, 0, 0, 0, .null), (3, .ifCond .eq 74, 154, 0, 0, .null), (1, .aload_n 0, 0, 0, 0, .null), (1, .iload_n 2, 0, 0, 0, .null), (1, .iconst 1, 0, 0, 0, .int 1), (1, .isub, 0, 0, 0, .null), (1, .baload, 0, 0, 0, .null), (1, .iconst 1, 0, 0, 0, .int 1), (1, .iand, 0, 0, 0, .null), (3, .ifCond .eq 64, 154, 0, 0, .null), (1, .iload_n 3, 0, 0, 0, .null), (1, .iconst 3, 0, 0, 0, .int 3), (3, .if_icmp .lt 59, 154, 0, 0, .null), (1, .iload_n 3, 0, 0, 0, .null), (2, .ldc 66, 0, 0, 0, .int (65537)), (3, .if_icmp .gt 53, 154, 0, 0, .null), (1, .iload_n 3, 0, 0, 0, .null), (1, .iconst 1, 0, 0, 0, .int 1), (1, .iand, 0, 0, 0, .null), (3, .ifCond .eq 47, 154, 0, 0, .null), (1, .aload_n 0, 0, 0, 0, .null), (2, .iload 4, 0, 0, 0, .null), (1, .iload_n 2, 0, 0, 0, .null), (3, .invokestatic 67, 87, 3, 0, .null), (3, .ifCond .ne 37, 154, 0, 0, .null), (1, .aload_n 0, 0, 0, 0, .null), (2, .iload 4, 0, 0, 0, .null), (1, .aload_n 0, 0, 0, 0, .null), (1, .iconst 0, 0, 0, 0, .int 0), (1, .iload_n 2, 0, 0, 0, .null), (3, .invokestatic 71, 86, 5, 0, .null), (3, .ifCond .eq 25, 154, 0, 0, .null), (2, .iload 5, 0, 0, 0, .null), (3, .ifCond .eq 16, 150, 0, 0, .null), (2, .iload 5, 0, 0, 0, .null), (2, .bipush 48, 0, 0, 0, .int 48), (3, .if_icmp .ne 13, 154, 0, 0, .null), (1, .iload_n 2, 0, 0, 0, .null), (2, .bipush 100, 0, 0, 0, .int 100), (3, .if_icmp .lt 7, 154, 0, 0, .null)]
set_option maxRecDepth 20000 in
theorem oX1_isKeyx_77 : vm_okB 1 mX1_isKey 77 bX1_isKeyx_77 = true := by decide +kernel
def bX1_isKeyx_150 : List vm_J := [(1, .iconst 1, 0, 0, 0, .int 1), (3, .goto 4, 155, 0, 0, .null)]
set_option maxRecDepth 20000 in
theorem oX1_isKeyx_150 : vm_okB 1 mX1_isKey 150 bX1_isKeyx_150 = true := by decide +kernel
def bX1_isKeyx_154 : List vm_J := [(1, .iconst 0, 0, 0, 0, .int 0)]
set_option maxRecDepth 20000 in
theorem oX1_isKeyx_154 : vm_okB 1 mX1_isKey 154 bX1_isKeyx_154 = true := by decide +kernel
def bX1_isKeyx_155 : List vm_J := [(1, .ireturn, 0, 0, 0, .null)]
set_option maxRecDepth 20000 in
theorem oX1_isKeyx_155 : vm_okB 1 mX1_isKey 155 bX1_isKeyx_155 = true := by decide +kernel
section
variable {l : Launch} {O : Nat → vm_Ob} {f9 : Value}
theorem s_szf {h : vm_H} {size : Nat} (hs : size < 65536) : vm_Met (vm_env l O f9) mX1_sizeOf 0 0 [.int (nI size)] h (fun r h' => r = some (.int (iZ (Int.tdiv ((size : Int) - 4) 2))) ∧ h' = h) := by
  refine vm_met rfl (Nat.le_of_ble_eq_true rfl) ?_
  refine vm_go rfl bX1_sizeOf_0 oX1_sizeOf_0 ⟨by decide, ?_, rfl⟩
  show some (Value.int ((nI size - 3 - 1) / 2)) = _
  rw [iZ_nI, show (3 : Int32) = iZ 3 by decide, show (1 : Int32) = iZ 1 by decide, iZ_sub, iZ_sub, iZ_div2 (by omega) (by omega), show (size : Int) - 3 - 1 = size - 4 by omega]
theorem s_szf4 {h : vm_H} {size : Nat} (hs : size < 65536) (h4 : 4 ≤ size) : vm_Met (vm_env l O f9) mX1_sizeOf 0 0 [.int (nI size)] h (fun r h' => r = some (.int (nI ((size - 4) / 2))) ∧ h' = h) := by
  refine vm_metP (s_szf hs) ?_
  rintro r h' ⟨e, e2⟩
  refine ⟨?_, e2⟩
  rw [e, iZ_nI]
  congr 2
  rw [show (size : Int) - 4 = ((size - 4 : Nat) : Int) by omega]
  rfl
set_option maxHeartbeats 1000000 in
theorem x_isk {h : vm_H} {fa na size : Nat} {b : Nat → Nat} (hf : bv h na fa b) (hn : size ≤ na) (hna : na < 65536) :
    vm_Met (vm_env l O f9) mX1_isKey 0 0 [.ref fa, .int (nI size)] h (fun r h' => (∃ ok : Bool, r = some (.int (bi ok)) ∧ (ok = true ↔ kOK b size)) ∧ h' = h) := by
  obtain ⟨f, ef, vf⟩ := id hf
  suffices H : ∀ Q : Option Value → vm_H → Prop, (∀ r h', ((∃ ok : Bool, r = some (.int (bi ok)) ∧ (ok = true ↔ kOK b size)) ∧ h' = h) → Q r h') → vm_Met (vm_env l O f9) mX1_isKey 0 0 [.ref fa, .int (nI size)] h Q from H _ (fun _ _ z => z)
  intro Q hQ
  refine vm_met rfl (Nat.le_of_ble_eq_true rfl) ?_
  refine vm_go rfl bX1_isKeyx_0 oX1_isKeyx_0 ⟨0, 0, _, s_szf (by omega), Nat.zero_le _, Nat.zero_le _, ?_⟩
  rintro _ h1 ⟨rfl, rfl⟩
  have hz := Int.tdiv_mul_le ((size : Int) - 4) (b := 2) (by decide)
  have hz1 : -2 ≤ Int.tdiv ((size : Int) - 4) 2 ∧ Int.tdiv ((size : Int) - 4) 2 < 100000 := by
    by_cases h4 : 4 ≤ size
    · rw [Int.tdiv_eq_ediv_of_nonneg (by omega)]; omega
    · rcases (show size = 0 ∨ size = 1 ∨ size = 2 ∨ size = 3 by omega) with rfl | rfl | rfl | rfl <;> decide
  refine vm_Th (lv' := [(0, .ref fa), (1, .int (nI size)), (2, .int (iZ (Int.tdiv ((size : Int) - 4) 2)))]) (h' := h1) rfl rfl ?_
  have bad29 : ¬ kOK b size → vm_T (vm_env l O f9) mX1_isKey 0 0 29 [(0, .ref fa), (1, .int (nI size)), (2, .int (iZ (Int.tdiv ((size : Int) - 4) 2)))] [] h1 Q := fun n => vm_go rfl bX1_isKey_29 oX1_isKey_29 ⟨rfl, hQ _ _ ⟨⟨false, rfl, ⟨(fun z => nomatch z), fun z => absurd z n⟩⟩, rfl⟩⟩
  by_cases hlo : size < 136
  · refine vm_go rfl bX1_isKeyx_5 oX1_isKeyx_5 ⟨fun _ => bad29 (fun z => by have := z.1; omega), fun q => absurd ?_ q⟩
    show iZ (Int.tdiv ((size : Int) - 4) 2) < iZ 66
    rw [iZ_lt (by omega) (by omega) (by decide) (by decide)]
    by_cases h4 : 4 ≤ size
    · rw [Int.tdiv_eq_ediv_of_nonneg (by omega)]; omega
    · rcases (show size = 0 ∨ size = 1 ∨ size = 2 ∨ size = 3 by omega) with rfl | rfl | rfl | rfl <;> decide
  have eT : iZ (Int.tdiv ((size : Int) - 4) 2) = nI ((size - 4) / 2) := by
    rw [iZ_nI]
    congr 1
    rw [show (size : Int) - 4 = ((size - 4 : Nat) : Int) by omega]
    rfl
  rw [eT] at bad29 ⊢
  generalize hlen : (size - 4) / 2 = len at *
  refine vm_go rfl bX1_isKeyx_5 oX1_isKeyx_5 ⟨fun q => absurd (show nI len < nI 66 from q) (by rw [nI_ltI (by omega) (by decide)]; omega), fun _ => ⟨fun q => bad29 (fun z => ?_), fun q => ?_⟩⟩
  · have q : nI 256 < nI len := q
    rw [nI_ltI (by decide) (by omega)] at q
    have := z.2.1; omega
  have q : ¬ nI 256 < nI len := q
  rw [nI_ltI (by decide) (by omega)] at q
  have e2 : 2 * nI len + 3 + 1 = nI (2 * len + 4) := by
    rw [show (2 : Int32) * nI len = nI (2 * len) from nI_mul 2 len, show nI (2 * len) + 3 = nI (2 * len + 3) from nI_add _ 3]
    exact nI_add _ 1
  by_cases hpar : size = 2 * len + 4
  rotate_left
  · refine ⟨fun q => absurd ?_ hpar, fun q => bad29 (fun z => by have := z.2.2.1; omega)⟩
    have q : nI size = 2 * nI len + 3 + 1 := q
    rw [e2, nI_ij (by omega) (by omega)] at q
    exact q
  refine ⟨fun _ => ?_, fun q => absurd (show nI size = 2 * nI len + 3 + 1 by rw [e2, hpar]) q⟩
  have v0 := vf len (by omega)
  have v1 := vf (len + 1) (by omega)
  have v2 := vf (len + 2) (by omega)
  have a1 : nI len + 1 = nI (len + 1) := by rw [nI_1]
  have a2 : nI len + 2 = nI (len + 2) := nI_add _ 2
  have a3 : nI len + 3 = nI (len + 3) := nI_add _ 3
  have s1 : nI size - 1 = nI (size - 1) := nI_sub (b := 1) (by omega)
  have s2 : nI len - 1 = nI (len - 1) := nI_sub (b := 1) (by omega)
  refine vm_go rfl bX1_isKeyx_31 oX1_isKeyx_31 ⟨na, f, ef, len, rfl, by omega, fun _ => ⟨na, f, ef, len + 1, a1, by omega, fun _ => ⟨na, f, ef, len + 2, a2, by omega, fun _ => ?_⟩⟩⟩
  rw [v0.1, v1.1, v2.1]
  have eE : (((sb (b len) &&& 255) <<< ((16 : Int32) &&& 31)) ||| ((sb (b (len + 1)) &&& 255) <<< ((8 : Int32) &&& 31))) ||| (sb (b (len + 2)) &&& 255) = nI (bn b len 3) := by
    rw [sb_and _ v0.2, sb_and _ v1.2, sb_and _ v2.2, e3_e v0.2 v1.2 v2.2]
    show _ = nI (((bn b len 0 * 256 + b (len + 0)) * 256 + b (len + 1)) * 256 + b (len + 2))
    rw [show bn b len 0 = 0 from rfl, Nat.zero_mul, Nat.zero_add]; rfl
  have hE : bn b len 3 < 16777216 := by
    have := bn_lt (b := b) (at9 := len) 3 (fun j h1 h2 => (vf j (by omega)).2)
    omega
  refine vm_Th (lv' := [(0, .ref fa), (1, .int (nI size)), (2, .int (nI len)), (3, .int (nI (bn b len 3)))]) (h' := h1) (by rw [← eE]; rfl) rfl ?_
  have v9 := vf (size - 1) (by omega)
  refine vm_go rfl bX1_isKeyx_65 oX1_isKeyx_65 ?_
  refine vm_Th (lv' := [(0, .ref fa), (1, .int (nI size)), (2, .int (nI len)), (3, .int (nI (bn b len 3))), (4, .int (nI (len + 3)))]) (h' := h1) (by rw [← a3]; rfl) rfl ?_
  refine vm_go rfl bX1_isKeyx_70 oX1_isKeyx_70 ⟨na, f, ef, size - 1, s1, by omega, fun _ => ?_⟩
  rw [v9.1]
  refine vm_Th (lv' := [(0, .ref fa), (1, .int (nI size)), (2, .int (nI len)), (3, .int (nI (bn b len 3))), (4, .int (nI (len + 3))), (5, .int (sb (b (size - 1))))]) (h' := h1) rfl rfl ?_
  have h155 : ∀ ok : Bool, (ok = true ↔ kOK b size) → vm_T (vm_env l O f9) mX1_isKey 0 0 155 [(0, .ref fa), (1, .int (nI size)), (2, .int (nI len)), (3, .int (nI (bn b len 3))), (4, .int (nI (len + 3))), (5, .int (sb (b (size - 1))))] [.int (bi ok)] h1 Q := fun ok hok => vm_go rfl bX1_isKey_155 oX1_isKey_155 ⟨bi_if, hQ _ _ ⟨⟨ok, rfl, hok⟩, rfl⟩⟩
  have bad : ¬ kOK b size → vm_T (vm_env l O f9) mX1_isKey 0 0 154 [(0, .ref fa), (1, .int (nI size)), (2, .int (nI len)), (3, .int (nI (bn b len 3))), (4, .int (nI (len + 3))), (5, .int (sb (b (size - 1))))] [] h1 Q := fun n => vm_go rfl bX1_isKey_154 oX1_isKey_154 (h155 false ⟨(fun z => nomatch z), fun z => absurd z n⟩)
  have hk : kOK b size ↔ b 0 ≠ 0 ∧ b (len - 1) % 2 = 1 ∧ 3 ≤ bn b len 3 ∧ bn b len 3 ≤ 65537 ∧ bn b len 3 % 2 = 1 ∧ 0 < bn b (len + 3) len ∧ bn b (len + 3) len < bn b 0 len ∧ (b (size - 1) = 0 ∨ b (size - 1) = 48 ∧ 100 ≤ len) := by
    unfold kOK
    rw [hlen]
    exact ⟨fun z => z.2.2.2, fun z => ⟨by omega, by omega, by omega, z⟩⟩
  have w0 := vf 0 (by omega)
  have wl := vf (len - 1) (by omega)
  refine vm_go rfl bX1_isKeyx_77 oX1_isKeyx_77 ⟨na, f, ef, 0, rfl, by omega, fun _ => ?_⟩
  rw [w0.1]
  refine ⟨fun q => bad (fun z => (hk.mp z).1 ((sb_eq _ w0.2 0 (by decide)).mp q)), fun q0 => ⟨na, f, ef, len - 1, s2, by omega, fun _ => ?_⟩⟩
  have q0 : b 0 ≠ 0 := fun z => q0 ((sb_eq _ w0.2 0 (by decide)).mpr z)
  rw [wl.1]
  have po : ∀ x, x < 256 → (sb x &&& 1 = 0 ↔ x % 2 = 0) := by decide +kernel
  refine ⟨fun q => bad (fun z => by have := (hk.mp z).2.1; have := (po _ wl.2).mp q; omega), fun q1 => ?_⟩
  have q1 : b (len - 1) % 2 = 1 := by
    have : ¬ b (len - 1) % 2 = 0 := fun z => q1 ((po _ wl.2).mpr z)
    omega
  refine ⟨fun q => bad (fun z => ?_), fun q2 => ⟨fun q => bad (fun z => ?_), fun q3 => ?_⟩⟩
  · have q : nI (bn b len 3) < nI 3 := q
    rw [nI_ltI (by omega) (by decide)] at q
    have := (hk.mp z).2.2.1; omega
  · have q : nI 65537 < nI (bn b len 3) := q
    rw [nI_ltI (by decide) (by omega)] at q
    have := (hk.mp z).2.2.2.1; omega
  have q2 : ¬ nI (bn b len 3) < nI 3 := q2
  rw [nI_ltI (by omega) (by decide)] at q2
  have q3 : ¬ nI 65537 < nI (bn b len 3) := q3
  rw [nI_ltI (by decide) (by omega)] at q3
  have pe : nI (bn b len 3) &&& 1 = nI (bn b len 3 % 2) := by
    apply Int32.toBitVec_inj.mp
    rw [Int32.toBitVec_and]
    show BitVec.ofNat 32 (bn b len 3) &&& 1#32 = BitVec.ofNat 32 (bn b len 3 % 2)
    rw [show (1#32 : BitVec 32) = BitVec.ofNat 32 1 from rfl, ← BitVec.ofNat_and, Nat.and_one_is_mod]
  refine ⟨fun q => bad (fun z => ?_), fun q4 => ?_⟩
  · have q : nI (bn b len 3) &&& 1 = nI 0 := q
    rw [pe, nI_ij (by omega) (by decide)] at q
    have := (hk.mp z).2.2.2.2.1; omega
  have q4 : ¬ nI (bn b len 3) &&& 1 = nI 0 := q4
  rw [pe, nI_ij (by omega) (by decide)] at q4
  refine ⟨0, 0, _, w_zero (at9 := len + 3) (many := len) hf (by omega) hna, Nat.zero_le _, Nat.zero_le _, ?_⟩
  rintro _ h2 ⟨rfl, x, rfl, hx⟩
  rcases hx with ⟨rfl, hx⟩ | ⟨rfl, i, hi, hx⟩
  · exact ⟨fun _ => bad (fun z => by have := (hk.mp z).2.2.2.2.2.1; have := (bn_z len).mpr hx; omega), fun q => absurd q (by decide)⟩
  have q5 : 0 < bn b (len + 3) len := Nat.pos_of_ne_zero (fun z => hx ((bn_z len).mp z i hi))
  refine ⟨fun q => absurd rfl q, fun _ => ⟨0, 0, _, w_less (at9 := len + 3) (bt := 0) (many := len) hf hf (by omega) (by omega) (by omega), Nat.zero_le _, Nat.zero_le _, ?_⟩⟩
  rintro _ h3 ⟨rfl, rfl⟩
  by_cases q6 : bn b (len + 3) len < bn b 0 len
  rotate_left
  · rw [if_neg q6]
    exact ⟨fun _ => bad (fun z => q6 (hk.mp z).2.2.2.2.2.2.1), fun q => absurd rfl q⟩
  rw [if_pos q6]
  refine ⟨fun q => absurd q (by decide), fun _ => ?_⟩
  have good : (b (size - 1) = 0 ∨ b (size - 1) = 48 ∧ 100 ≤ len) → vm_T (vm_env l O f9) mX1_isKey 0 0 150 [(0, .ref fa), (1, .int (nI size)), (2, .int (nI len)), (3, .int (nI (bn b len 3))), (4, .int (nI (len + 3))), (5, .int (sb (b (size - 1))))] [] h3 Q := fun g => vm_go rfl bX1_isKey_150 oX1_isKey_150 (h155 true ⟨fun _ => hk.mpr ⟨q0, q1, by omega, by omega, by omega, q5, q6, g⟩, fun _ => rfl⟩)
  refine ⟨fun q => good (Or.inl ((sb_eq _ v9.2 0 (by decide)).mp q)), fun q7 => ?_⟩
  have q7 : b (size - 1) ≠ 0 := fun z => q7 ((sb_eq _ v9.2 0 (by decide)).mpr z)
  refine ⟨fun q => bad (fun z => ?_), fun q8 => ?_⟩
  · have q : ¬ b (size - 1) = 48 := fun w => q ((sb_eq _ v9.2 48 (by decide)).mpr w)
    rcases (hk.mp z).2.2.2.2.2.2.2 with y | y
    · exact q7 y
    · exact q y.1
  have q8 : b (size - 1) = 48 := (sb_eq _ v9.2 48 (by decide)).mp q8
  refine ⟨fun q => bad (fun z => ?_), fun q9 => ?_⟩
  · have q : nI len < nI 100 := q
    rw [nI_ltI (by omega) (by decide)] at q
    rcases (hk.mp z).2.2.2.2.2.2.2 with y | y
    · exact q7 y
    · omega
  · have q9 : ¬ nI len < nI 100 := q9
    rw [nI_ltI (by omega) (by decide)] at q9
    exact good (Or.inr ⟨q8, by omega⟩)
end
