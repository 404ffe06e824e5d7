/-! SHA: the blocks of a message -/
def fbk (b : Nat → Nat) (s start wide : Nat) (last : Bool) (g : Nat → Nat) (j : Nat) : Nat :=
  if j < wide then (if last = true ∧ wide ≤ j + 4 then 8 * s / 256 ^ (wide - 1 - j) % 256 else if start + j < s then b (start + j) else if start + j = s then 128 else 0) else g j
theorem nI_us8 {a : Nat} (h : a < 4294967296) : ((nI a).toUInt32 >>> ((8 : Int32).toUInt32 &&& Int32.toUInt32 31)).toInt32 = nI (a / 256) := by
  apply Int32.toBitVec_inj.mp
  apply BitVec.eq_of_toNat_eq
  show (BitVec.ofNat 32 a >>> ((8 : Int32).toUInt32 &&& Int32.toUInt32 31).toBitVec.umod 32).toNat = (BitVec.ofNat 32 (a / 256)).toNat
  have e : (((8 : Int32).toUInt32 &&& Int32.toUInt32 31).toBitVec.umod 32) = 8#32 := by decide
  rw [e, BitVec.ushiftRight_eq', BitVec.toNat_ushiftRight, BitVec.toNat_ofNat, BitVec.toNat_ofNat, BitVec.toNat_ofNat, Nat.shiftRight_eq_div_pow, Nat.mod_eq_of_lt (show a < 2 ^ 32 by omega), Nat.mod_eq_of_lt (show a / 256 < 2 ^ 32 by omega)]
section
variable {l : Launch} {O : Nat → vm_Ob} {f9 : Value}
theorem s_fill {h : vm_H} {H Bk R B n s start wide : Nat} {last : Bool} {b g : Nat → Nat} {o0 o1 o2 o3 : Value} (hH : h.2 H = .inr (4, [o0, o1, o2, o3, .ref Bk])) (hB : bv h 128 Bk g) (hR : row h R B n b s) (hBB : Bk ≠ B) (hBo : Bk < 1099511627776) (hw : wide ≤ 128) (hw4 : 4 ≤ wide) (hst : start < 1000000) :
    vm_Met (vm_env l O f9) mX4_fillBlock 0 0 [.ref H, .ref R, .int (nI start), .int (nI wide), .int (if last = true then 1 else 0)] h (fun r h' => r = none ∧ bv h' 128 Bk (fbk b s start wide last g) ∧ fr h h' (fun q => q = Bk)) := by
  obtain ⟨r1, ⟨fB, r2, r2'⟩, r3, r4, r5, r6⟩ := hR
  have hHB : H ≠ Bk := fun e => by obtain ⟨f, z, _⟩ := hB; rw [e, z] at hH; cases hH
  have hRB : R ≠ Bk := fun e => by obtain ⟨f, z, _⟩ := hB; rw [e, z] at r1; cases r1
  have pbl : ∀ j, (if start + j < s then b (start + j) else if start + j = s then 128 else 0) < 256 := by
    intro j
    split
    · exact (r2' _ (by omega)).2
    · split <;> decide
  refine vm_met rfl (Nat.le_of_ble_eq_true rfl) ?_
  refine vm_go rfl bX4_fillBlock_0 oX4_fillBlock_0 ?_
  refine vm_Th (lv' := [(0, .ref H), (1, .ref R), (2, .int (nI start)), (3, .int (nI wide)), (4, .int (if last = true then 1 else 0)), (5, .int (nI 0))]) (h' := h) rfl rfl ?_
  refine vm_while (σ := Nat × vm_H) (fun y => y.1 ≤ wide ∧ bv y.2 128 Bk (fun j => if j < y.1 then (if start + j < s then b (start + j) else if start + j = s then 128 else 0) else g j) ∧ fr h y.2 (fun q => q = Bk)) (fun y => wide - y.1) (fun y => [(0, .ref H), (1, .ref R), (2, .int (nI start)), (3, .int (nI wide)), (4, .int (if last = true then 1 else 0)), (5, .int (nI y.1))]) (fun y => y.2) ?_ (0, h) ⟨Nat.zero_le _, by show bv h 128 Bk (fun j => if j < 0 then _ else g j); exact hB, fr_refl⟩
  rintro ⟨i, h1⟩ ⟨p1, p2, p3⟩ ih
  dsimp only at p1 p2 p3 ih ⊢
  have H1 := (p3.2 H hHB).trans hH
  have R1 := (p3.2 R hRB).trans r1
  have B1 := (p3.2 B (Ne.symm hBB)).trans r2
  rcases Nat.lt_or_ge i wide with hi | hi
  · have ep : nI start + nI i = nI (start + i) := nI_add _ _
    refine vm_go rfl bX4_fillBlock_3 oX4_fillBlock_3 ⟨fun q => absurd q (nI_ge hi (by omega)), fun _ => ⟨_, _, H1, rfl, ⟨_, _, R1, rfl, ?_⟩⟩⟩
    have st : ∀ (v : Nat) (x : Int32), v < 256 → x.toInt8.toInt32 = sb v → v = (if start + i < s then b (start + i) else if start + i = s then 128 else 0) → vm_T (vm_env l O f9) mX4_fillBlock 0 0 57 [(0, .ref H), (1, .ref R), (2, .int (nI start)), (3, .int (nI wide)), (4, .int (if last = true then 1 else 0)), (5, .int (nI i)), (6, .int (nI start + nI i))] [.int x, .int (nI i), .ref Bk] h1 (fun r h' => r = none ∧ bv h' 128 Bk (fbk b s start wide last g) ∧ fr h h' (fun q => q = Bk)) := by
      intro v x hv hx hve
      obtain ⟨f1, q1, q2⟩ := p2
      refine vm_go rfl bX4_fillBlock_57 oX4_fillBlock_57 ⟨128, f1, q1, hBo, i, rfl, by omega, ?_⟩
      refine vm_less [0, 1, 2, 3, 4, 5] rfl ?_
      refine vm_Th (by rw [← nI_1]; rfl) rfl (ih (i + 1, _) ⟨by show i + 1 ≤ wide; omega, ?_, fr_trans p3 (fr_up rfl)⟩ (by show wide - (i + 1) < wide - i; omega))
      have := bv_up (h := h1) (fa := Bk) (k := i) (v := v) q2 hv
      rw [← hx] at this
      have e9 : b1 (fun j => if j < i then (if start + j < s then b (start + j) else if start + j = s then 128 else 0) else g j) i v = (fun j => if j < i + 1 then (if start + j < s then b (start + j) else if start + j = s then 128 else 0) else g j) := by
        funext j
        unfold b1
        by_cases e : j = i
        · rw [if_pos e, if_pos (show j < i + 1 by omega), hve, e]
        · rw [if_neg e]
          dsimp only
          by_cases e2 : j < i
          · rw [if_pos e2, if_pos (show j < i + 1 by omega)]
          · rw [if_neg e2, if_neg (show ¬ j < i + 1 by omega)]
      rw [e9] at this
      exact this
    refine ⟨fun q => ?_, fun q => ?_⟩
    · have q : nI s ≤ nI start + nI i := q
      rw [ep, nI_leI (by omega) (by omega)] at q
      refine vm_go rfl bX4_fillBlock_40 oX4_fillBlock_40 ⟨_, _, R1, rfl, ⟨fun w => ?_, fun w => ?_⟩⟩
      · have w : ¬ nI start + nI i = nI s := w
        rw [ep, nI_ij (by omega) (by omega)] at w
        refine vm_go rfl bX4_fillBlock_55 oX4_fillBlock_55 (vm_go rfl bX4_fillBlock_56 oX4_fillBlock_56 (st 0 _ (by decide) (by decide) ?_))
        rw [if_neg (by omega), if_neg w]
      · have w : nI start + nI i = nI s := w
        rw [ep, nI_ij (by omega) (by omega)] at w
        refine vm_go rfl bX4_fillBlock_56 oX4_fillBlock_56 (st 128 _ (by decide) (by decide) ?_)
        rw [if_neg (by omega), if_pos w]
    · have q : ¬ nI s ≤ nI start + nI i := q
      rw [ep, nI_leI (by omega) (by omega)] at q
      have a1 := r2' (start + i) (by omega)
      refine ⟨_, _, R1, rfl, ⟨n, fB, B1, start + i, ep, by omega, fun _ => ?_⟩⟩
      rw [a1.1]
      refine st (b (start + i)) _ a1.2 (sb_self _ a1.2) ?_
      rw [if_pos (by omega)]
  have hi : i = wide := by omega
  subst hi
  clear ih
  refine vm_go rfl bX4_fillBlock_3 oX4_fillBlock_3 ⟨fun _ => ?_, fun q => absurd (nI_le (Nat.le_refl _) (by omega)) q⟩
  cases last with
  | false =>
    refine vm_go rfl bX4_fillBlock_64 oX4_fillBlock_64 ⟨fun _ => ?_, fun q => absurd rfl q⟩
    refine vm_go rfl bX4_fillBlock_112 oX4_fillBlock_112 ⟨rfl, ?_, p3⟩
    have e9 : (fun j => if j < i then (if start + j < s then b (start + j) else if start + j = s then 128 else 0) else g j) = fbk b s start i false g := by
      funext j
      unfold fbk
      by_cases e : j < i
      · rw [if_pos e, if_pos e, if_neg (show ¬ (false = true ∧ i ≤ j + 4) from fun z => by cases z.1)]
      · rw [if_neg e, if_neg e]
    rw [← e9]; exact p2
  | true =>
    refine vm_go rfl bX4_fillBlock_64 oX4_fillBlock_64 ⟨fun q => absurd q (by decide), fun _ => ⟨_, _, R1, rfl, ?_⟩⟩
    have e8 : (8 : Int32) * nI s = nI (8 * s) := nI_mul 8 s
    refine vm_Th (lv' := [(0, .ref H), (1, .ref R), (2, .int (nI start)), (3, .int (nI i)), (4, .int 1), (5, .int (nI (8 * s / 256 ^ 0))), (6, .int (nI (0 + 1)))]) (h' := h1) (by rw [Nat.pow_zero, Nat.div_one, ← e8]; rfl) rfl ?_
    refine vm_while (σ := Nat × vm_H) (fun y => y.1 ≤ 4 ∧ bv y.2 128 Bk (fun j => if j < i then (if i ≤ j + y.1 then 8 * s / 256 ^ (i - 1 - j) % 256 else if start + j < s then b (start + j) else if start + j = s then 128 else 0) else g j) ∧ fr h y.2 (fun q => q = Bk)) (fun y => 4 - y.1) (fun y => [(0, .ref H), (1, .ref R), (2, .int (nI start)), (3, .int (nI i)), (4, .int 1), (5, .int (nI (8 * s / 256 ^ y.1))), (6, .int (nI (y.1 + 1)))]) (fun y => y.2) ?_ (0, h1) ⟨show 0 ≤ 4 by decide, ?_, p3⟩
    rotate_left
    · show bv h1 128 Bk (fun j => if j < i then (if i ≤ j + 0 then 8 * s / 256 ^ (i - 1 - j) % 256 else if start + j < s then b (start + j) else if start + j = s then 128 else 0) else g j)
      have e9 : (fun j => if j < i then (if start + j < s then b (start + j) else if start + j = s then 128 else 0) else g j) = (fun j => if j < i then (if i ≤ j + 0 then 8 * s / 256 ^ (i - 1 - j) % 256 else if start + j < s then b (start + j) else if start + j = s then 128 else 0) else g j) := by
        funext j
        by_cases e : j < i
        · rw [if_pos e, if_pos e, if_neg (show ¬ i ≤ j + 0 by omega)]
        · rw [if_neg e, if_neg e]
      rw [← e9]; exact p2
    clear p2 p3 H1 R1 B1 h1
    rintro ⟨k, h1⟩ ⟨p1, p2, p3⟩ ih
    dsimp only at p1 p2 p3 ih ⊢
    have H1 := (p3.2 H hHB).trans hH
    rcases Nat.lt_or_ge k 4 with hk | hk
    · obtain ⟨f1, q1, q2⟩ := p2
      have ei : nI i - nI (k + 1) = nI (i - (k + 1)) := nI_sub (by omega)
      have hbl : 8 * s / 256 ^ k < 4294967296 := Nat.lt_of_le_of_lt (Nat.div_le_self _ _) (by omega)
      refine vm_go rfl bX4_fillBlock_81 oX4_fillBlock_81 ⟨fun q => absurd q (nI_nlt (a := 4) (by omega) (by omega)), fun _ => ⟨_, _, H1, rfl, ⟨128, f1, q1, hBo, i - (k + 1), ei, by omega, ?_⟩⟩⟩
      refine vm_Th ?_ rfl (ih (k + 1, _) ⟨by show k + 1 ≤ 4; omega, ?_, fr_trans p3 (fr_up rfl)⟩ (by show 4 - (k + 1) < 4 - k; omega))
      · show _ = [(0, Value.ref H), (1, .ref R), (2, .int (nI start)), (3, .int (nI i)), (4, .int 1), (5, .int ((nI (8 * s / 256 ^ k)).toUInt32 >>> ((8 : Int32).toUInt32 &&& Int32.toUInt32 31)).toInt32), (6, .int (nI (k + 1) + 1))]
        rw [nI_us8 hbl, nI_1, Nat.div_div_eq_div_mul, ← Nat.pow_succ]
      · have := bv_up (h := h1) (fa := Bk) (k := i - (k + 1)) (v := 8 * s / 256 ^ k % 256) q2 (Nat.mod_lt _ (by decide))
        have ex : (nI (8 * s / 256 ^ k)).toInt8.toInt32.toInt8.toInt32 = sb (8 * s / 256 ^ k % 256) := by
          rw [sb_nI]; exact sb_self _ (Nat.mod_lt _ (by decide))
        rw [← ex] at this
        have e9 : b1 (fun j => if j < i then (if i ≤ j + k then 8 * s / 256 ^ (i - 1 - j) % 256 else if start + j < s then b (start + j) else if start + j = s then 128 else 0) else g j) (i - (k + 1)) (8 * s / 256 ^ k % 256) = (fun j => if j < i then (if i ≤ j + (k + 1) then 8 * s / 256 ^ (i - 1 - j) % 256 else if start + j < s then b (start + j) else if start + j = s then 128 else 0) else g j) := by
          funext j
          unfold b1
          by_cases e : j = i - (k + 1)
          · rw [if_pos e, if_pos (show j < i by omega), if_pos (show i ≤ j + (k + 1) by omega), show i - 1 - j = k by omega]
          · rw [if_neg e]
            dsimp only
            by_cases e2 : j < i
            · rw [if_pos e2, if_pos e2]
              by_cases e3 : i ≤ j + k
              · rw [if_pos e3, if_pos (show i ≤ j + (k + 1) by omega)]
              · rw [if_neg e3, if_neg (show ¬ i ≤ j + (k + 1) by omega)]
            · rw [if_neg e2, if_neg e2]
        rw [e9] at this
        exact this
    · have hk : k = 4 := by omega
      subst hk
      refine vm_go rfl bX4_fillBlock_81 oX4_fillBlock_81 ⟨fun _ => ?_, fun q => absurd (nI_lt (a := 4) (b := 5) (by decide) (by decide)) q⟩
      refine vm_go rfl bX4_fillBlock_112 oX4_fillBlock_112 ⟨rfl, ?_, p3⟩
      have e9 : (fun j => if j < i then (if i ≤ j + 4 then 8 * s / 256 ^ (i - 1 - j) % 256 else if start + j < s then b (start + j) else if start + j = s then 128 else 0) else g j) = fbk b s start i true g := by
        funext j
        unfold fbk
        by_cases e : j < i
        · rw [if_pos e, if_pos e]
          by_cases e3 : i ≤ j + 4
          · rw [if_pos e3, if_pos ⟨rfl, e3⟩]
          · rw [if_neg e3, if_neg (show ¬ (true = true ∧ i ≤ j + 4) from fun z => e3 z.2)]
        · rw [if_neg e, if_neg e]
      rw [← e9]; exact p2
end
