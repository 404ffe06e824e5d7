def vm_rk (y z : vm_M) : Bool := decide (z.2.2.2.2.1 + 1 ≤ y.2.2.2.2.1) && decide (8 + (z.2.2.1 + 11) + z.2.2.2.2.2 ≤ y.2.2.2.2.2)
/-! vm_go: what vm_sx says of a block is enough (written by wip/gen/go.py) -/
def vm_okS (cn : Nat) (y : vm_M) (pc : Nat) (j : vm_J) : Bool := match j with
  | (n, i, a, b, c, v) => match i with
    | .aconst_null => n == 1 && decide (v = .null)
    | .iconst k => n == 1 && decide (v = .int (Int32.ofInt k))
    | .bipush k => n == 2 && decide (v = .int (Int8.ofInt k).toInt32)
    | .sipush k => n == 3 && decide (v = .int (Int16.ofInt k).toInt32)
    | .lconst k => n == 1 && decide (v = .long (Int64.ofNat k.val))
    | .ldc k => n == 2 && (match v with
      | .int x => decide ((cn, k, x) ∈ vci_t)
      | .ref id => vm_srs.any (fun r => decide (r.1 = vm_cn cn) && (r.2.1 == k && r.2.2.2 == id))
      | _ => false)
    | .ldc_w k => n == 3 && (match v with
      | .int x => decide ((cn, k, x) ∈ vci_t)
      | _ => false)
    | .ldc2_w k => n == 3 && (match v with
      | .long x => decide ((cn, k, x) ∈ vcj_t)
      | _ => false)
    | .getstatic k => n == 3 && decide ((cn, k, a) ∈ vst_t)
    | .iload_n _ => n == 1
    | .iload _ => n == 2
    | .lload_n _ => n == 1
    | .lload _ => n == 2
    | .aload_n _ => n == 1
    | .aload _ => n == 2
    | .istore_n k => n == 1 && decide (k.val < y.2.2.1)
    | .istore k => n == 2 && decide (k < y.2.2.1)
    | .lstore_n k => n == 1 && decide (k.val + 1 < y.2.2.1)
    | .lstore k => n == 2 && decide (k + 1 < y.2.2.1)
    | .astore_n k => n == 1 && decide (k.val < y.2.2.1)
    | .astore k => n == 2 && decide (k < y.2.2.1)
    | .iinc k z => (n == 3 || n == 6) && (decide (k < y.2.2.1) && decide (v = .int (Int32.ofInt z)))
    | .ifCond _ off => n == 3 && decide ((pc : Int) + off = (a : Int))
    | .if_icmp _ off => n == 3 && decide ((pc : Int) + off = (a : Int))
    | .ifnull off => n == 3 && decide ((pc : Int) + off = (a : Int))
    | .ifnonnull off => n == 3 && decide ((pc : Int) + off = (a : Int))
    | .if_acmp _ off => n == 3 && decide ((pc : Int) + off = (a : Int))
    | .goto off => n == 3 && decide ((pc : Int) + off = (a : Int))
    | .tableswitch _ _ _ _ => true
    | .getfield k => n == 3 && (match a with
      | 500 => decide ((cn, k, b) ∈ vfs_t)
      | _ => decide ((cn, k, a, b) ∈ vf_t))
    | .putfield k => n == 3 && (decide ((cn, k, a, b, c, false) ∈ vp9_t) || (decide (y.1.name = "<init>") && decide ((cn, k, a, b, c, true) ∈ vp9_t)))
    | .aastore => n == 1 && (decide (FieldType.object (vm_cn a) ∈ vm_tys) && (match vm_cls[a]? with
      | some r => decide (r.1 = vm_cn a) && decide (a ≠ 999)
      | none => false))
    | .newarray _ => n == 2
    | .anewarray k => n == 3 && decide ((cn, k, a) ∈ van_t)
    | .multianewarray k d => n == 4 && (d == 2 && (decide ((cn, k, a) ∈ vma_t) && decide (a < 2)))
    | .new k => n == 3 && decide ((cn, k, a) ∈ vnw_t)
    | .invokestatic k => n == 3 && (match Nat.beq a 9999 with
      | true => decide ((cn, k) ∈ vac_t) && (decide (1 ≤ y.2.2.2.2.1) && decide (26 ≤ y.2.2.2.2.2))
      | false => (decide ((cn, k, a, 0, 0, b) ∈ vct) || decide ((cn, k, a, 0, 1, b) ∈ vct)) && vm_rk y (vm_mt a))
    | .invokespecial k => n == 3 && (match Nat.beq a 9999 with
      | true => decide ((cn, k) ∈ voi_t) && (decide (1 ≤ y.2.2.2.2.1) && decide (20 ≤ y.2.2.2.2.2))
      | false => (decide ((cn, k, a, 0, 2, b) ∈ vct) || decide ((cn, k, a, 0, 3, b) ∈ vct)) && vm_rk y (vm_mt a))
    | .invokevirtual k => n == 3 && ((decide ((cn, k, a, c, 4, b) ∈ vct) && decide (c ≠ 600) || (decide ((cn, k, a, c, 5, b) ∈ vct) && decide (c ≠ 600) || decide ((cn, k, a, c, 6, b) ∈ vct) && decide (c = 600))) && vm_rk y (vm_mt a))
    | .ireturn => n == 1
    | .lreturn => n == 1 && decide (y.2.2.2.1 = some .long)
    | .areturn => n == 1 && (match y.2.2.2.1 with
      | some (.object _) => true
      | some (.array _) => true
      | _ => false)
    | .return_ => n == 1 && decide (y.2.2.2.1 = none)
    | _ => n == 1
def vm_okB (cn : Nat) (y : vm_M) : Nat → List vm_J → Bool
  | _, [] => true
  | pc, j :: r => decide (decode y.2.1 pc = .ok (j.2.1, j.1)) && (vm_okS cn y pc j && vm_okB cn y (pc + j.1) r)
theorem vt_int {l : Launch} {O : Nat → vm_Ob} {f9 : Value} : FieldType.int ∈ (vm_env l O f9).2.2.1 := show _ ∈ vm_tys by decide
theorem vt_long {l : Launch} {O : Nat → vm_Ob} {f9 : Value} : FieldType.long ∈ (vm_env l O f9).2.2.1 := show _ ∈ vm_tys by decide
theorem vt_byte {l : Launch} {O : Nat → vm_Ob} {f9 : Value} : FieldType.byte ∈ (vm_env l O f9).2.2.1 := show _ ∈ vm_tys by decide
theorem vt_bool {l : Launch} {O : Nat → vm_Ob} {f9 : Value} : FieldType.boolean ∈ (vm_env l O f9).2.2.1 := show _ ∈ vm_tys by decide
theorem vt_aint {l : Launch} {O : Nat → vm_Ob} {f9 : Value} : FieldType.array .int ∈ (vm_env l O f9).2.2.1 := show _ ∈ vm_tys by decide
theorem vt_along {l : Launch} {O : Nat → vm_Ob} {f9 : Value} : FieldType.array .long ∈ (vm_env l O f9).2.2.1 := show _ ∈ vm_tys by decide
theorem vt_len {l : Launch} {O : Nat → vm_Ob} {f9 : Value} : (vm_env l O f9).2.1.length < 500 := show vm_cls.length < 500 by decide
section
variable {st : List Value} {K : List Value → Prop} {KH : List Value → vm_H → Prop} {h : vm_H}
theorem vx_ii_o {f : Int32 → Int32 → Value} (q : vx_ii f st K) : ∃ x z r, st = .int z :: .int x :: r ∧ K (f x z :: r) := by
  unfold vx_ii at q
  split at q
  · exact ⟨_, _, _, rfl, q⟩
  · exact q.elim
theorem vx_ll_o {f : Int64 → Int64 → Value} (q : vx_ll f st K) : ∃ x z r, st = .long z :: .long x :: r ∧ K (f x z :: r) := by
  unfold vx_ll at q
  split at q
  · exact ⟨_, _, _, rfl, q⟩
  · exact q.elim
theorem vx_li_o {f : Int64 → Int32 → Value} (q : vx_li f st K) : ∃ x z r, st = .int z :: .long x :: r ∧ K (f x z :: r) := by
  unfold vx_li at q
  split at q
  · exact ⟨_, _, _, rfl, q⟩
  · exact q.elim
theorem vx_idv_o {f : Int32 → Int32 → Value} (q : vx_idv f st K) : ∃ x z r, st = .int z :: .int x :: r ∧ ¬ z = 0 ∧ K (f x z :: r) := by
  unfold vx_idv at q
  split at q
  · exact ⟨_, _, _, rfl, q⟩
  · exact q.elim
theorem vx_ldv_o {f : Int64 → Int64 → Value} (q : vx_ldv f st K) : ∃ x z r, st = .long z :: .long x :: r ∧ ¬ z = 0 ∧ K (f x z :: r) := by
  unfold vx_ldv at q
  split at q
  · exact ⟨_, _, _, rfl, q⟩
  · exact q.elim
theorem vx_i_o {f : Int32 → Value} (q : vx_i f st K) : ∃ x r, st = .int x :: r ∧ K (f x :: r) := by
  unfold vx_i at q
  split at q
  · exact ⟨_, _, rfl, q⟩
  · exact q.elim
theorem vx_l_o {f : Int64 → Value} (q : vx_l f st K) : ∃ x r, st = .long x :: r ∧ K (f x :: r) := by
  unfold vx_l at q
  split at q
  · exact ⟨_, _, rfl, q⟩
  · exact q.elim
end
section
variable {l : Launch} {O : Nat → vm_Ob} {f9 : Value} {y : vm_M} {Q : Option Value → vm_H → Prop} {cn : Nat} {kc ks pc n a b c : Nat} {v : Value} {r : List vm_J} {lv : vm_L} {st : List Value} {h : vm_H}
theorem vg_aconstnull  (hcn : vm_cn cn = y.1.cls) (hd : decode y.2.1 pc = .ok (.aconst_null, n)) (hs : vm_okS cn y pc (n, .aconst_null, a, b, c, v) = true) (ih : ∀ (kc ks : Nat) (lv : vm_L) (st : List Value) (h : vm_H), vm_sx (vm_env l O f9) y Q r kc ks (pc + n) lv st h → vm_T (vm_env l O f9) y kc ks (pc + n) lv st h Q) (hx : vm_sx (vm_env l O f9) y Q ((n, .aconst_null, a, b, c, v) :: r) kc ks pc lv st h) : vm_T (vm_env l O f9) y kc ks pc lv st h Q := by
  have h2 : n = 1 ∧ v = .null := by simpa [vm_okS] using hs
  obtain ⟨rfl, rfl⟩ := h2
  exact vm_r_null hd (ih _ _ _ _ _ hx)
theorem vg_iconst {k : Int} (hcn : vm_cn cn = y.1.cls) (hd : decode y.2.1 pc = .ok (.iconst k, n)) (hs : vm_okS cn y pc (n, .iconst k, a, b, c, v) = true) (ih : ∀ (kc ks : Nat) (lv : vm_L) (st : List Value) (h : vm_H), vm_sx (vm_env l O f9) y Q r kc ks (pc + n) lv st h → vm_T (vm_env l O f9) y kc ks (pc + n) lv st h Q) (hx : vm_sx (vm_env l O f9) y Q ((n, .iconst k, a, b, c, v) :: r) kc ks pc lv st h) : vm_T (vm_env l O f9) y kc ks pc lv st h Q := by
  have h2 : n = 1 ∧ v = .int (Int32.ofInt k) := by simpa [vm_okS] using hs
  obtain ⟨rfl, rfl⟩ := h2
  exact vm_r_iconst hd (ih _ _ _ _ _ hx)
theorem vg_bipush {k : Int} (hcn : vm_cn cn = y.1.cls) (hd : decode y.2.1 pc = .ok (.bipush k, n)) (hs : vm_okS cn y pc (n, .bipush k, a, b, c, v) = true) (ih : ∀ (kc ks : Nat) (lv : vm_L) (st : List Value) (h : vm_H), vm_sx (vm_env l O f9) y Q r kc ks (pc + n) lv st h → vm_T (vm_env l O f9) y kc ks (pc + n) lv st h Q) (hx : vm_sx (vm_env l O f9) y Q ((n, .bipush k, a, b, c, v) :: r) kc ks pc lv st h) : vm_T (vm_env l O f9) y kc ks pc lv st h Q := by
  have h2 : n = 2 ∧ v = .int (Int8.ofInt k).toInt32 := by simpa [vm_okS] using hs
  obtain ⟨rfl, rfl⟩ := h2
  exact vm_r_bipush hd (ih _ _ _ _ _ hx)
theorem vg_sipush {k : Int} (hcn : vm_cn cn = y.1.cls) (hd : decode y.2.1 pc = .ok (.sipush k, n)) (hs : vm_okS cn y pc (n, .sipush k, a, b, c, v) = true) (ih : ∀ (kc ks : Nat) (lv : vm_L) (st : List Value) (h : vm_H), vm_sx (vm_env l O f9) y Q r kc ks (pc + n) lv st h → vm_T (vm_env l O f9) y kc ks (pc + n) lv st h Q) (hx : vm_sx (vm_env l O f9) y Q ((n, .sipush k, a, b, c, v) :: r) kc ks pc lv st h) : vm_T (vm_env l O f9) y kc ks pc lv st h Q := by
  have h2 : n = 3 ∧ v = .int (Int16.ofInt k).toInt32 := by simpa [vm_okS] using hs
  obtain ⟨rfl, rfl⟩ := h2
  exact vm_r_sipush hd (ih _ _ _ _ _ hx)
theorem vg_lconst {k : Fin 2} (hcn : vm_cn cn = y.1.cls) (hd : decode y.2.1 pc = .ok (.lconst k, n)) (hs : vm_okS cn y pc (n, .lconst k, a, b, c, v) = true) (ih : ∀ (kc ks : Nat) (lv : vm_L) (st : List Value) (h : vm_H), vm_sx (vm_env l O f9) y Q r kc ks (pc + n) lv st h → vm_T (vm_env l O f9) y kc ks (pc + n) lv st h Q) (hx : vm_sx (vm_env l O f9) y Q ((n, .lconst k, a, b, c, v) :: r) kc ks pc lv st h) : vm_T (vm_env l O f9) y kc ks pc lv st h Q := by
  have h2 : n = 1 ∧ v = .long (Int64.ofNat k.val) := by simpa [vm_okS] using hs
  obtain ⟨rfl, rfl⟩ := h2
  exact vm_r_lconst hd (ih _ _ _ _ _ hx)
theorem vg_ldc {k : Nat} (hcn : vm_cn cn = y.1.cls) (hd : decode y.2.1 pc = .ok (.ldc k, n)) (hs : vm_okS cn y pc (n, .ldc k, a, b, c, v) = true) (ih : ∀ (kc ks : Nat) (lv : vm_L) (st : List Value) (h : vm_H), vm_sx (vm_env l O f9) y Q r kc ks (pc + n) lv st h → vm_T (vm_env l O f9) y kc ks (pc + n) lv st h Q) (hx : vm_sx (vm_env l O f9) y Q ((n, .ldc k, a, b, c, v) :: r) kc ks pc lv st h) : vm_T (vm_env l O f9) y kc ks pc lv st h Q := by
  unfold vm_okS at hs
  simp only [Bool.and_eq_true, beq_iff_eq] at hs
  obtain ⟨rfl, hs⟩ := hs
  split at hs
  · exact vm_r_ldc hd (hcn ▸ vci_ok _ (of_decide_eq_true hs)) (ih _ _ _ _ _ hx)
  · obtain ⟨q, q1, q2⟩ := List.any_eq_true.mp hs
    simp only [Bool.and_eq_true, beq_iff_eq, decide_eq_true_eq] at q2
    obtain ⟨qa, qb, qc, qd⟩ := q
    obtain ⟨e1, e2, e3⟩ := q2
    have e1 : qa = vm_cn cn := e1
    have e2 : qb = k := e2
    have e3 : qd = _ := e3
    subst e1; subst e2; subst e3
    exact vm_r_ldcS (tx := qc) hd (by rw [← hcn]; exact q1) (ih _ _ _ _ _ hx)
  · cases hs
theorem vg_ldcw {k : Nat} (hcn : vm_cn cn = y.1.cls) (hd : decode y.2.1 pc = .ok (.ldc_w k, n)) (hs : vm_okS cn y pc (n, .ldc_w k, a, b, c, v) = true) (ih : ∀ (kc ks : Nat) (lv : vm_L) (st : List Value) (h : vm_H), vm_sx (vm_env l O f9) y Q r kc ks (pc + n) lv st h → vm_T (vm_env l O f9) y kc ks (pc + n) lv st h Q) (hx : vm_sx (vm_env l O f9) y Q ((n, .ldc_w k, a, b, c, v) :: r) kc ks pc lv st h) : vm_T (vm_env l O f9) y kc ks pc lv st h Q := by
  unfold vm_okS at hs
  simp only [Bool.and_eq_true, beq_iff_eq] at hs
  obtain ⟨rfl, hs⟩ := hs
  split at hs
  · exact vm_r_ldcw hd (hcn ▸ vci_ok _ (of_decide_eq_true hs)) (ih _ _ _ _ _ hx)
  · cases hs
theorem vg_ldc2w {k : Nat} (hcn : vm_cn cn = y.1.cls) (hd : decode y.2.1 pc = .ok (.ldc2_w k, n)) (hs : vm_okS cn y pc (n, .ldc2_w k, a, b, c, v) = true) (ih : ∀ (kc ks : Nat) (lv : vm_L) (st : List Value) (h : vm_H), vm_sx (vm_env l O f9) y Q r kc ks (pc + n) lv st h → vm_T (vm_env l O f9) y kc ks (pc + n) lv st h Q) (hx : vm_sx (vm_env l O f9) y Q ((n, .ldc2_w k, a, b, c, v) :: r) kc ks pc lv st h) : vm_T (vm_env l O f9) y kc ks pc lv st h Q := by
  unfold vm_okS at hs
  simp only [Bool.and_eq_true, beq_iff_eq] at hs
  obtain ⟨rfl, hs⟩ := hs
  split at hs
  · exact vm_r_ldc2 hd (hcn ▸ vcj_ok _ (of_decide_eq_true hs)) (ih _ _ _ _ _ hx)
  · cases hs
theorem vg_getstatic {k : Nat} (hcn : vm_cn cn = y.1.cls) (hd : decode y.2.1 pc = .ok (.getstatic k, n)) (hs : vm_okS cn y pc (n, .getstatic k, a, b, c, v) = true) (ih : ∀ (kc ks : Nat) (lv : vm_L) (st : List Value) (h : vm_H), vm_sx (vm_env l O f9) y Q r kc ks (pc + n) lv st h → vm_T (vm_env l O f9) y kc ks (pc + n) lv st h Q) (hx : vm_sx (vm_env l O f9) y Q ((n, .getstatic k, a, b, c, v) :: r) kc ks pc lv st h) : vm_T (vm_env l O f9) y kc ks pc lv st h Q := by
  unfold vm_okS at hs
  simp only [Bool.and_eq_true, beq_iff_eq, decide_eq_true_eq] at hs
  obtain ⟨rfl, hs⟩ := hs
  obtain ⟨q, q1, hx⟩ := hx
  obtain ⟨q', e1, e2⟩ := vst_ok (f9 := f9) _ hs
  have e3 : q' = q := Option.some.inj (e1.symm.trans q1)
  subst e3
  exact vm_r_getstatic (C := q'.1) (n := q'.2.1) (d := q'.2.2.1) (ref := q'.1) hd (List.mem_of_getElem? q1) (by rw [← hcn]; exact e2) (Or.inl rfl) (ih _ _ _ _ _ hx)
theorem vg_iloadn {k : Fin 4} (hcn : vm_cn cn = y.1.cls) (hd : decode y.2.1 pc = .ok (.iload_n k, n)) (hs : vm_okS cn y pc (n, .iload_n k, a, b, c, v) = true) (ih : ∀ (kc ks : Nat) (lv : vm_L) (st : List Value) (h : vm_H), vm_sx (vm_env l O f9) y Q r kc ks (pc + n) lv st h → vm_T (vm_env l O f9) y kc ks (pc + n) lv st h Q) (hx : vm_sx (vm_env l O f9) y Q ((n, .iload_n k, a, b, c, v) :: r) kc ks pc lv st h) : vm_T (vm_env l O f9) y kc ks pc lv st h Q := by
  have hn : n = 1 := by simpa [vm_okS] using hs
  subst hn
  have hx : vx_ldI (vm_ld lv k.val) (fun w => vm_sx (vm_env l O f9) y Q r kc ks (pc + 1) lv (w :: st) h) := hx
  unfold vx_ldI at hx
  split at hx
  · next e => exact vm_r_iload_n hd e (ih _ _ _ _ _ hx)
  · exact hx.elim
theorem vg_iload {k : Nat} (hcn : vm_cn cn = y.1.cls) (hd : decode y.2.1 pc = .ok (.iload k, n)) (hs : vm_okS cn y pc (n, .iload k, a, b, c, v) = true) (ih : ∀ (kc ks : Nat) (lv : vm_L) (st : List Value) (h : vm_H), vm_sx (vm_env l O f9) y Q r kc ks (pc + n) lv st h → vm_T (vm_env l O f9) y kc ks (pc + n) lv st h Q) (hx : vm_sx (vm_env l O f9) y Q ((n, .iload k, a, b, c, v) :: r) kc ks pc lv st h) : vm_T (vm_env l O f9) y kc ks pc lv st h Q := by
  have hn : n = 2 := by simpa [vm_okS] using hs
  subst hn
  have hx : vx_ldI (vm_ld lv k) (fun w => vm_sx (vm_env l O f9) y Q r kc ks (pc + 2) lv (w :: st) h) := hx
  unfold vx_ldI at hx
  split at hx
  · next e => exact vm_r_iload hd e (ih _ _ _ _ _ hx)
  · exact hx.elim
theorem vg_lloadn {k : Fin 4} (hcn : vm_cn cn = y.1.cls) (hd : decode y.2.1 pc = .ok (.lload_n k, n)) (hs : vm_okS cn y pc (n, .lload_n k, a, b, c, v) = true) (ih : ∀ (kc ks : Nat) (lv : vm_L) (st : List Value) (h : vm_H), vm_sx (vm_env l O f9) y Q r kc ks (pc + n) lv st h → vm_T (vm_env l O f9) y kc ks (pc + n) lv st h Q) (hx : vm_sx (vm_env l O f9) y Q ((n, .lload_n k, a, b, c, v) :: r) kc ks pc lv st h) : vm_T (vm_env l O f9) y kc ks pc lv st h Q := by
  have hn : n = 1 := by simpa [vm_okS] using hs
  subst hn
  have hx : vx_ldL (vm_ld lv k.val) (fun w => vm_sx (vm_env l O f9) y Q r kc ks (pc + 1) lv (w :: st) h) := hx
  unfold vx_ldL at hx
  split at hx
  · next e => exact vm_r_lload_n hd e (ih _ _ _ _ _ hx)
  · exact hx.elim
theorem vg_lload {k : Nat} (hcn : vm_cn cn = y.1.cls) (hd : decode y.2.1 pc = .ok (.lload k, n)) (hs : vm_okS cn y pc (n, .lload k, a, b, c, v) = true) (ih : ∀ (kc ks : Nat) (lv : vm_L) (st : List Value) (h : vm_H), vm_sx (vm_env l O f9) y Q r kc ks (pc + n) lv st h → vm_T (vm_env l O f9) y kc ks (pc + n) lv st h Q) (hx : vm_sx (vm_env l O f9) y Q ((n, .lload k, a, b, c, v) :: r) kc ks pc lv st h) : vm_T (vm_env l O f9) y kc ks pc lv st h Q := by
  have hn : n = 2 := by simpa [vm_okS] using hs
  subst hn
  have hx : vx_ldL (vm_ld lv k) (fun w => vm_sx (vm_env l O f9) y Q r kc ks (pc + 2) lv (w :: st) h) := hx
  unfold vx_ldL at hx
  split at hx
  · next e => exact vm_r_lload hd e (ih _ _ _ _ _ hx)
  · exact hx.elim
theorem vg_aloadn {k : Fin 4} (hcn : vm_cn cn = y.1.cls) (hd : decode y.2.1 pc = .ok (.aload_n k, n)) (hs : vm_okS cn y pc (n, .aload_n k, a, b, c, v) = true) (ih : ∀ (kc ks : Nat) (lv : vm_L) (st : List Value) (h : vm_H), vm_sx (vm_env l O f9) y Q r kc ks (pc + n) lv st h → vm_T (vm_env l O f9) y kc ks (pc + n) lv st h Q) (hx : vm_sx (vm_env l O f9) y Q ((n, .aload_n k, a, b, c, v) :: r) kc ks pc lv st h) : vm_T (vm_env l O f9) y kc ks pc lv st h Q := by
  have hn : n = 1 := by simpa [vm_okS] using hs
  subst hn
  have hx : vx_ldA (vm_ld lv k.val) (fun w => vm_sx (vm_env l O f9) y Q r kc ks (pc + 1) lv (w :: st) h) := hx
  unfold vx_ldA at hx
  split at hx
  · next e => exact vm_r_aload_n hd e (ih _ _ _ _ _ hx)
  · next e => exact vm_r_aload_nN hd e (ih _ _ _ _ _ hx)
  · exact hx.elim
theorem vg_aload {k : Nat} (hcn : vm_cn cn = y.1.cls) (hd : decode y.2.1 pc = .ok (.aload k, n)) (hs : vm_okS cn y pc (n, .aload k, a, b, c, v) = true) (ih : ∀ (kc ks : Nat) (lv : vm_L) (st : List Value) (h : vm_H), vm_sx (vm_env l O f9) y Q r kc ks (pc + n) lv st h → vm_T (vm_env l O f9) y kc ks (pc + n) lv st h Q) (hx : vm_sx (vm_env l O f9) y Q ((n, .aload k, a, b, c, v) :: r) kc ks pc lv st h) : vm_T (vm_env l O f9) y kc ks pc lv st h Q := by
  have hn : n = 2 := by simpa [vm_okS] using hs
  subst hn
  have hx : vx_ldA (vm_ld lv k) (fun w => vm_sx (vm_env l O f9) y Q r kc ks (pc + 2) lv (w :: st) h) := hx
  unfold vx_ldA at hx
  split at hx
  · next e => exact vm_r_aload hd e (ih _ _ _ _ _ hx)
  · next e => exact vm_r_aloadN hd e (ih _ _ _ _ _ hx)
  · exact hx.elim
theorem vg_istoren {k : Fin 4} (hcn : vm_cn cn = y.1.cls) (hd : decode y.2.1 pc = .ok (.istore_n k, n)) (hs : vm_okS cn y pc (n, .istore_n k, a, b, c, v) = true) (ih : ∀ (kc ks : Nat) (lv : vm_L) (st : List Value) (h : vm_H), vm_sx (vm_env l O f9) y Q r kc ks (pc + n) lv st h → vm_T (vm_env l O f9) y kc ks (pc + n) lv st h Q) (hx : vm_sx (vm_env l O f9) y Q ((n, .istore_n k, a, b, c, v) :: r) kc ks pc lv st h) : vm_T (vm_env l O f9) y kc ks pc lv st h Q := by
  have h2 : n = 1 ∧ k.val < y.2.2.1 := by simpa [vm_okS] using hs
  obtain ⟨rfl, h2⟩ := h2
  have hx : vx_stI st (fun w st => vm_sx (vm_env l O f9) y Q r kc ks (pc + 1) (vm_st1 lv k.val w) st h) := hx
  unfold vx_stI at hx
  split at hx
  · exact vm_r_istore_n hd h2 (ih _ _ _ _ _ hx)
  · exact hx.elim
theorem vg_istore {k : Nat} (hcn : vm_cn cn = y.1.cls) (hd : decode y.2.1 pc = .ok (.istore k, n)) (hs : vm_okS cn y pc (n, .istore k, a, b, c, v) = true) (ih : ∀ (kc ks : Nat) (lv : vm_L) (st : List Value) (h : vm_H), vm_sx (vm_env l O f9) y Q r kc ks (pc + n) lv st h → vm_T (vm_env l O f9) y kc ks (pc + n) lv st h Q) (hx : vm_sx (vm_env l O f9) y Q ((n, .istore k, a, b, c, v) :: r) kc ks pc lv st h) : vm_T (vm_env l O f9) y kc ks pc lv st h Q := by
  have h2 : n = 2 ∧ k < y.2.2.1 := by simpa [vm_okS] using hs
  obtain ⟨rfl, h2⟩ := h2
  have hx : vx_stI st (fun w st => vm_sx (vm_env l O f9) y Q r kc ks (pc + 2) (vm_st1 lv k w) st h) := hx
  unfold vx_stI at hx
  split at hx
  · exact vm_r_istore hd h2 (ih _ _ _ _ _ hx)
  · exact hx.elim
theorem vg_lstoren {k : Fin 4} (hcn : vm_cn cn = y.1.cls) (hd : decode y.2.1 pc = .ok (.lstore_n k, n)) (hs : vm_okS cn y pc (n, .lstore_n k, a, b, c, v) = true) (ih : ∀ (kc ks : Nat) (lv : vm_L) (st : List Value) (h : vm_H), vm_sx (vm_env l O f9) y Q r kc ks (pc + n) lv st h → vm_T (vm_env l O f9) y kc ks (pc + n) lv st h Q) (hx : vm_sx (vm_env l O f9) y Q ((n, .lstore_n k, a, b, c, v) :: r) kc ks pc lv st h) : vm_T (vm_env l O f9) y kc ks pc lv st h Q := by
  have h2 : n = 1 ∧ k.val + 1 < y.2.2.1 := by simpa [vm_okS] using hs
  obtain ⟨rfl, h2⟩ := h2
  have hx : vx_stL st (fun w st => vm_sx (vm_env l O f9) y Q r kc ks (pc + 1) (vm_st2 lv k.val w) st h) := hx
  unfold vx_stL at hx
  split at hx
  · exact vm_r_lstore_n hd h2 (ih _ _ _ _ _ hx)
  · exact hx.elim
theorem vg_lstore {k : Nat} (hcn : vm_cn cn = y.1.cls) (hd : decode y.2.1 pc = .ok (.lstore k, n)) (hs : vm_okS cn y pc (n, .lstore k, a, b, c, v) = true) (ih : ∀ (kc ks : Nat) (lv : vm_L) (st : List Value) (h : vm_H), vm_sx (vm_env l O f9) y Q r kc ks (pc + n) lv st h → vm_T (vm_env l O f9) y kc ks (pc + n) lv st h Q) (hx : vm_sx (vm_env l O f9) y Q ((n, .lstore k, a, b, c, v) :: r) kc ks pc lv st h) : vm_T (vm_env l O f9) y kc ks pc lv st h Q := by
  have h2 : n = 2 ∧ k + 1 < y.2.2.1 := by simpa [vm_okS] using hs
  obtain ⟨rfl, h2⟩ := h2
  have hx : vx_stL st (fun w st => vm_sx (vm_env l O f9) y Q r kc ks (pc + 2) (vm_st2 lv k w) st h) := hx
  unfold vx_stL at hx
  split at hx
  · exact vm_r_lstore hd h2 (ih _ _ _ _ _ hx)
  · exact hx.elim
theorem vg_astoren {k : Fin 4} (hcn : vm_cn cn = y.1.cls) (hd : decode y.2.1 pc = .ok (.astore_n k, n)) (hs : vm_okS cn y pc (n, .astore_n k, a, b, c, v) = true) (ih : ∀ (kc ks : Nat) (lv : vm_L) (st : List Value) (h : vm_H), vm_sx (vm_env l O f9) y Q r kc ks (pc + n) lv st h → vm_T (vm_env l O f9) y kc ks (pc + n) lv st h Q) (hx : vm_sx (vm_env l O f9) y Q ((n, .astore_n k, a, b, c, v) :: r) kc ks pc lv st h) : vm_T (vm_env l O f9) y kc ks pc lv st h Q := by
  have h2 : n = 1 ∧ k.val < y.2.2.1 := by simpa [vm_okS] using hs
  obtain ⟨rfl, h2⟩ := h2
  have hx : vx_stA st (fun w st => vm_sx (vm_env l O f9) y Q r kc ks (pc + 1) (vm_st1 lv k.val w) st h) := hx
  unfold vx_stA at hx
  split at hx
  · exact vm_r_astore_n hd h2 (ih _ _ _ _ _ hx)
  · exact vm_r_astore_nN hd h2 (ih _ _ _ _ _ hx)
  · exact hx.elim
theorem vg_astore {k : Nat} (hcn : vm_cn cn = y.1.cls) (hd : decode y.2.1 pc = .ok (.astore k, n)) (hs : vm_okS cn y pc (n, .astore k, a, b, c, v) = true) (ih : ∀ (kc ks : Nat) (lv : vm_L) (st : List Value) (h : vm_H), vm_sx (vm_env l O f9) y Q r kc ks (pc + n) lv st h → vm_T (vm_env l O f9) y kc ks (pc + n) lv st h Q) (hx : vm_sx (vm_env l O f9) y Q ((n, .astore k, a, b, c, v) :: r) kc ks pc lv st h) : vm_T (vm_env l O f9) y kc ks pc lv st h Q := by
  have h2 : n = 2 ∧ k < y.2.2.1 := by simpa [vm_okS] using hs
  obtain ⟨rfl, h2⟩ := h2
  have hx : vx_stA st (fun w st => vm_sx (vm_env l O f9) y Q r kc ks (pc + 2) (vm_st1 lv k w) st h) := hx
  unfold vx_stA at hx
  split at hx
  · exact vm_r_astore hd h2 (ih _ _ _ _ _ hx)
  · exact vm_r_astoreN hd h2 (ih _ _ _ _ _ hx)
  · exact hx.elim
theorem vg_iinc {k : Nat} {z : Int} (hcn : vm_cn cn = y.1.cls) (hd : decode y.2.1 pc = .ok (.iinc k z, n)) (hs : vm_okS cn y pc (n, .iinc k z, a, b, c, v) = true) (ih : ∀ (kc ks : Nat) (lv : vm_L) (st : List Value) (h : vm_H), vm_sx (vm_env l O f9) y Q r kc ks (pc + n) lv st h → vm_T (vm_env l O f9) y kc ks (pc + n) lv st h Q) (hx : vm_sx (vm_env l O f9) y Q ((n, .iinc k z, a, b, c, v) :: r) kc ks pc lv st h) : vm_T (vm_env l O f9) y kc ks pc lv st h Q := by
  have h2 : (n = 3 ∨ n = 6) ∧ k < y.2.2.1 ∧ v = .int (Int32.ofInt z) := by simpa [vm_okS] using hs
  obtain ⟨h3, h2, rfl⟩ := h2
  have hx : vx_inc (vm_ld lv k) (.int (Int32.ofInt z)) (fun w => vm_sx (vm_env l O f9) y Q r kc ks (pc + n) (vm_st1 lv k w) st h) := hx
  unfold vx_inc at hx
  split at hx
  · next e1 e2 =>
    cases e2
    rcases h3 with rfl | rfl
    · exact vm_r_iinc hd h2 e1 (ih _ _ _ _ _ hx)
    · exact vm_r_iincW hd h2 e1 (ih _ _ _ _ _ hx)
  · exact hx.elim
theorem vg_iadd  (hcn : vm_cn cn = y.1.cls) (hd : decode y.2.1 pc = .ok (.iadd, n)) (hs : vm_okS cn y pc (n, .iadd, a, b, c, v) = true) (ih : ∀ (kc ks : Nat) (lv : vm_L) (st : List Value) (h : vm_H), vm_sx (vm_env l O f9) y Q r kc ks (pc + n) lv st h → vm_T (vm_env l O f9) y kc ks (pc + n) lv st h Q) (hx : vm_sx (vm_env l O f9) y Q ((n, .iadd, a, b, c, v) :: r) kc ks pc lv st h) : vm_T (vm_env l O f9) y kc ks pc lv st h Q := by
  have hn : n = 1 := by simpa [vm_okS] using hs
  subst hn
  have hx : vx_ii (fun x z => .int (x + z)) st (fun st => vm_sx (vm_env l O f9) y Q r kc ks (pc + 1) lv st h) := hx
  obtain ⟨x, z, r9, rfl, hx⟩ := vx_ii_o hx
  exact vm_r_iadd hd (ih _ _ _ _ _ hx)
theorem vg_isub  (hcn : vm_cn cn = y.1.cls) (hd : decode y.2.1 pc = .ok (.isub, n)) (hs : vm_okS cn y pc (n, .isub, a, b, c, v) = true) (ih : ∀ (kc ks : Nat) (lv : vm_L) (st : List Value) (h : vm_H), vm_sx (vm_env l O f9) y Q r kc ks (pc + n) lv st h → vm_T (vm_env l O f9) y kc ks (pc + n) lv st h Q) (hx : vm_sx (vm_env l O f9) y Q ((n, .isub, a, b, c, v) :: r) kc ks pc lv st h) : vm_T (vm_env l O f9) y kc ks pc lv st h Q := by
  have hn : n = 1 := by simpa [vm_okS] using hs
  subst hn
  have hx : vx_ii (fun x z => .int (x - z)) st (fun st => vm_sx (vm_env l O f9) y Q r kc ks (pc + 1) lv st h) := hx
  obtain ⟨x, z, r9, rfl, hx⟩ := vx_ii_o hx
  exact vm_r_isub hd (ih _ _ _ _ _ hx)
theorem vg_imul  (hcn : vm_cn cn = y.1.cls) (hd : decode y.2.1 pc = .ok (.imul, n)) (hs : vm_okS cn y pc (n, .imul, a, b, c, v) = true) (ih : ∀ (kc ks : Nat) (lv : vm_L) (st : List Value) (h : vm_H), vm_sx (vm_env l O f9) y Q r kc ks (pc + n) lv st h → vm_T (vm_env l O f9) y kc ks (pc + n) lv st h Q) (hx : vm_sx (vm_env l O f9) y Q ((n, .imul, a, b, c, v) :: r) kc ks pc lv st h) : vm_T (vm_env l O f9) y kc ks pc lv st h Q := by
  have hn : n = 1 := by simpa [vm_okS] using hs
  subst hn
  have hx : vx_ii (fun x z => .int (x * z)) st (fun st => vm_sx (vm_env l O f9) y Q r kc ks (pc + 1) lv st h) := hx
  obtain ⟨x, z, r9, rfl, hx⟩ := vx_ii_o hx
  exact vm_r_imul hd (ih _ _ _ _ _ hx)
theorem vg_iand  (hcn : vm_cn cn = y.1.cls) (hd : decode y.2.1 pc = .ok (.iand, n)) (hs : vm_okS cn y pc (n, .iand, a, b, c, v) = true) (ih : ∀ (kc ks : Nat) (lv : vm_L) (st : List Value) (h : vm_H), vm_sx (vm_env l O f9) y Q r kc ks (pc + n) lv st h → vm_T (vm_env l O f9) y kc ks (pc + n) lv st h Q) (hx : vm_sx (vm_env l O f9) y Q ((n, .iand, a, b, c, v) :: r) kc ks pc lv st h) : vm_T (vm_env l O f9) y kc ks pc lv st h Q := by
  have hn : n = 1 := by simpa [vm_okS] using hs
  subst hn
  have hx : vx_ii (fun x z => .int (x &&& z)) st (fun st => vm_sx (vm_env l O f9) y Q r kc ks (pc + 1) lv st h) := hx
  obtain ⟨x, z, r9, rfl, hx⟩ := vx_ii_o hx
  exact vm_r_iand hd (ih _ _ _ _ _ hx)
theorem vg_ior  (hcn : vm_cn cn = y.1.cls) (hd : decode y.2.1 pc = .ok (.ior, n)) (hs : vm_okS cn y pc (n, .ior, a, b, c, v) = true) (ih : ∀ (kc ks : Nat) (lv : vm_L) (st : List Value) (h : vm_H), vm_sx (vm_env l O f9) y Q r kc ks (pc + n) lv st h → vm_T (vm_env l O f9) y kc ks (pc + n) lv st h Q) (hx : vm_sx (vm_env l O f9) y Q ((n, .ior, a, b, c, v) :: r) kc ks pc lv st h) : vm_T (vm_env l O f9) y kc ks pc lv st h Q := by
  have hn : n = 1 := by simpa [vm_okS] using hs
  subst hn
  have hx : vx_ii (fun x z => .int (x ||| z)) st (fun st => vm_sx (vm_env l O f9) y Q r kc ks (pc + 1) lv st h) := hx
  obtain ⟨x, z, r9, rfl, hx⟩ := vx_ii_o hx
  exact vm_r_ior hd (ih _ _ _ _ _ hx)
theorem vg_ixor  (hcn : vm_cn cn = y.1.cls) (hd : decode y.2.1 pc = .ok (.ixor, n)) (hs : vm_okS cn y pc (n, .ixor, a, b, c, v) = true) (ih : ∀ (kc ks : Nat) (lv : vm_L) (st : List Value) (h : vm_H), vm_sx (vm_env l O f9) y Q r kc ks (pc + n) lv st h → vm_T (vm_env l O f9) y kc ks (pc + n) lv st h Q) (hx : vm_sx (vm_env l O f9) y Q ((n, .ixor, a, b, c, v) :: r) kc ks pc lv st h) : vm_T (vm_env l O f9) y kc ks pc lv st h Q := by
  have hn : n = 1 := by simpa [vm_okS] using hs
  subst hn
  have hx : vx_ii (fun x z => .int (x ^^^ z)) st (fun st => vm_sx (vm_env l O f9) y Q r kc ks (pc + 1) lv st h) := hx
  obtain ⟨x, z, r9, rfl, hx⟩ := vx_ii_o hx
  exact vm_r_ixor hd (ih _ _ _ _ _ hx)
theorem vg_ishl  (hcn : vm_cn cn = y.1.cls) (hd : decode y.2.1 pc = .ok (.ishl, n)) (hs : vm_okS cn y pc (n, .ishl, a, b, c, v) = true) (ih : ∀ (kc ks : Nat) (lv : vm_L) (st : List Value) (h : vm_H), vm_sx (vm_env l O f9) y Q r kc ks (pc + n) lv st h → vm_T (vm_env l O f9) y kc ks (pc + n) lv st h Q) (hx : vm_sx (vm_env l O f9) y Q ((n, .ishl, a, b, c, v) :: r) kc ks pc lv st h) : vm_T (vm_env l O f9) y kc ks pc lv st h Q := by
  have hn : n = 1 := by simpa [vm_okS] using hs
  subst hn
  have hx : vx_ii (fun x z => .int (x <<< (z &&& 31))) st (fun st => vm_sx (vm_env l O f9) y Q r kc ks (pc + 1) lv st h) := hx
  obtain ⟨x, z, r9, rfl, hx⟩ := vx_ii_o hx
  exact vm_r_ishl hd (ih _ _ _ _ _ hx)
theorem vg_ishr  (hcn : vm_cn cn = y.1.cls) (hd : decode y.2.1 pc = .ok (.ishr, n)) (hs : vm_okS cn y pc (n, .ishr, a, b, c, v) = true) (ih : ∀ (kc ks : Nat) (lv : vm_L) (st : List Value) (h : vm_H), vm_sx (vm_env l O f9) y Q r kc ks (pc + n) lv st h → vm_T (vm_env l O f9) y kc ks (pc + n) lv st h Q) (hx : vm_sx (vm_env l O f9) y Q ((n, .ishr, a, b, c, v) :: r) kc ks pc lv st h) : vm_T (vm_env l O f9) y kc ks pc lv st h Q := by
  have hn : n = 1 := by simpa [vm_okS] using hs
  subst hn
  have hx : vx_ii (fun x z => .int (x >>> (z &&& 31))) st (fun st => vm_sx (vm_env l O f9) y Q r kc ks (pc + 1) lv st h) := hx
  obtain ⟨x, z, r9, rfl, hx⟩ := vx_ii_o hx
  exact vm_r_ishr hd (ih _ _ _ _ _ hx)
theorem vg_iushr  (hcn : vm_cn cn = y.1.cls) (hd : decode y.2.1 pc = .ok (.iushr, n)) (hs : vm_okS cn y pc (n, .iushr, a, b, c, v) = true) (ih : ∀ (kc ks : Nat) (lv : vm_L) (st : List Value) (h : vm_H), vm_sx (vm_env l O f9) y Q r kc ks (pc + n) lv st h → vm_T (vm_env l O f9) y kc ks (pc + n) lv st h Q) (hx : vm_sx (vm_env l O f9) y Q ((n, .iushr, a, b, c, v) :: r) kc ks pc lv st h) : vm_T (vm_env l O f9) y kc ks pc lv st h Q := by
  have hn : n = 1 := by simpa [vm_okS] using hs
  subst hn
  have hx : vx_ii (fun x z => .int (x.toUInt32 >>> (z.toUInt32 &&& Int32.toUInt32 31)).toInt32) st (fun st => vm_sx (vm_env l O f9) y Q r kc ks (pc + 1) lv st h) := hx
  obtain ⟨x, z, r9, rfl, hx⟩ := vx_ii_o hx
  exact vm_r_iushr hd (ih _ _ _ _ _ hx)
theorem vg_ladd  (hcn : vm_cn cn = y.1.cls) (hd : decode y.2.1 pc = .ok (.ladd, n)) (hs : vm_okS cn y pc (n, .ladd, a, b, c, v) = true) (ih : ∀ (kc ks : Nat) (lv : vm_L) (st : List Value) (h : vm_H), vm_sx (vm_env l O f9) y Q r kc ks (pc + n) lv st h → vm_T (vm_env l O f9) y kc ks (pc + n) lv st h Q) (hx : vm_sx (vm_env l O f9) y Q ((n, .ladd, a, b, c, v) :: r) kc ks pc lv st h) : vm_T (vm_env l O f9) y kc ks pc lv st h Q := by
  have hn : n = 1 := by simpa [vm_okS] using hs
  subst hn
  have hx : vx_ll (fun x z => .long (x + z)) st (fun st => vm_sx (vm_env l O f9) y Q r kc ks (pc + 1) lv st h) := hx
  obtain ⟨x, z, r9, rfl, hx⟩ := vx_ll_o hx
  exact vm_r_ladd hd (ih _ _ _ _ _ hx)
theorem vg_lsub  (hcn : vm_cn cn = y.1.cls) (hd : decode y.2.1 pc = .ok (.lsub, n)) (hs : vm_okS cn y pc (n, .lsub, a, b, c, v) = true) (ih : ∀ (kc ks : Nat) (lv : vm_L) (st : List Value) (h : vm_H), vm_sx (vm_env l O f9) y Q r kc ks (pc + n) lv st h → vm_T (vm_env l O f9) y kc ks (pc + n) lv st h Q) (hx : vm_sx (vm_env l O f9) y Q ((n, .lsub, a, b, c, v) :: r) kc ks pc lv st h) : vm_T (vm_env l O f9) y kc ks pc lv st h Q := by
  have hn : n = 1 := by simpa [vm_okS] using hs
  subst hn
  have hx : vx_ll (fun x z => .long (x - z)) st (fun st => vm_sx (vm_env l O f9) y Q r kc ks (pc + 1) lv st h) := hx
  obtain ⟨x, z, r9, rfl, hx⟩ := vx_ll_o hx
  exact vm_r_lsub hd (ih _ _ _ _ _ hx)
theorem vg_lmul  (hcn : vm_cn cn = y.1.cls) (hd : decode y.2.1 pc = .ok (.lmul, n)) (hs : vm_okS cn y pc (n, .lmul, a, b, c, v) = true) (ih : ∀ (kc ks : Nat) (lv : vm_L) (st : List Value) (h : vm_H), vm_sx (vm_env l O f9) y Q r kc ks (pc + n) lv st h → vm_T (vm_env l O f9) y kc ks (pc + n) lv st h Q) (hx : vm_sx (vm_env l O f9) y Q ((n, .lmul, a, b, c, v) :: r) kc ks pc lv st h) : vm_T (vm_env l O f9) y kc ks pc lv st h Q := by
  have hn : n = 1 := by simpa [vm_okS] using hs
  subst hn
  have hx : vx_ll (fun x z => .long (x * z)) st (fun st => vm_sx (vm_env l O f9) y Q r kc ks (pc + 1) lv st h) := hx
  obtain ⟨x, z, r9, rfl, hx⟩ := vx_ll_o hx
  exact vm_r_lmul hd (ih _ _ _ _ _ hx)
theorem vg_land  (hcn : vm_cn cn = y.1.cls) (hd : decode y.2.1 pc = .ok (.land, n)) (hs : vm_okS cn y pc (n, .land, a, b, c, v) = true) (ih : ∀ (kc ks : Nat) (lv : vm_L) (st : List Value) (h : vm_H), vm_sx (vm_env l O f9) y Q r kc ks (pc + n) lv st h → vm_T (vm_env l O f9) y kc ks (pc + n) lv st h Q) (hx : vm_sx (vm_env l O f9) y Q ((n, .land, a, b, c, v) :: r) kc ks pc lv st h) : vm_T (vm_env l O f9) y kc ks pc lv st h Q := by
  have hn : n = 1 := by simpa [vm_okS] using hs
  subst hn
  have hx : vx_ll (fun x z => .long (x &&& z)) st (fun st => vm_sx (vm_env l O f9) y Q r kc ks (pc + 1) lv st h) := hx
  obtain ⟨x, z, r9, rfl, hx⟩ := vx_ll_o hx
  exact vm_r_land hd (ih _ _ _ _ _ hx)
theorem vg_lor  (hcn : vm_cn cn = y.1.cls) (hd : decode y.2.1 pc = .ok (.lor, n)) (hs : vm_okS cn y pc (n, .lor, a, b, c, v) = true) (ih : ∀ (kc ks : Nat) (lv : vm_L) (st : List Value) (h : vm_H), vm_sx (vm_env l O f9) y Q r kc ks (pc + n) lv st h → vm_T (vm_env l O f9) y kc ks (pc + n) lv st h Q) (hx : vm_sx (vm_env l O f9) y Q ((n, .lor, a, b, c, v) :: r) kc ks pc lv st h) : vm_T (vm_env l O f9) y kc ks pc lv st h Q := by
  have hn : n = 1 := by simpa [vm_okS] using hs
  subst hn
  have hx : vx_ll (fun x z => .long (x ||| z)) st (fun st => vm_sx (vm_env l O f9) y Q r kc ks (pc + 1) lv st h) := hx
  obtain ⟨x, z, r9, rfl, hx⟩ := vx_ll_o hx
  exact vm_r_lor hd (ih _ _ _ _ _ hx)
theorem vg_lxor  (hcn : vm_cn cn = y.1.cls) (hd : decode y.2.1 pc = .ok (.lxor, n)) (hs : vm_okS cn y pc (n, .lxor, a, b, c, v) = true) (ih : ∀ (kc ks : Nat) (lv : vm_L) (st : List Value) (h : vm_H), vm_sx (vm_env l O f9) y Q r kc ks (pc + n) lv st h → vm_T (vm_env l O f9) y kc ks (pc + n) lv st h Q) (hx : vm_sx (vm_env l O f9) y Q ((n, .lxor, a, b, c, v) :: r) kc ks pc lv st h) : vm_T (vm_env l O f9) y kc ks pc lv st h Q := by
  have hn : n = 1 := by simpa [vm_okS] using hs
  subst hn
  have hx : vx_ll (fun x z => .long (x ^^^ z)) st (fun st => vm_sx (vm_env l O f9) y Q r kc ks (pc + 1) lv st h) := hx
  obtain ⟨x, z, r9, rfl, hx⟩ := vx_ll_o hx
  exact vm_r_lxor hd (ih _ _ _ _ _ hx)
theorem vg_lcmp  (hcn : vm_cn cn = y.1.cls) (hd : decode y.2.1 pc = .ok (.lcmp, n)) (hs : vm_okS cn y pc (n, .lcmp, a, b, c, v) = true) (ih : ∀ (kc ks : Nat) (lv : vm_L) (st : List Value) (h : vm_H), vm_sx (vm_env l O f9) y Q r kc ks (pc + n) lv st h → vm_T (vm_env l O f9) y kc ks (pc + n) lv st h Q) (hx : vm_sx (vm_env l O f9) y Q ((n, .lcmp, a, b, c, v) :: r) kc ks pc lv st h) : vm_T (vm_env l O f9) y kc ks pc lv st h Q := by
  have hn : n = 1 := by simpa [vm_okS] using hs
  subst hn
  have hx : vx_ll (fun x z => .int (lg_cmp x z)) st (fun st => vm_sx (vm_env l O f9) y Q r kc ks (pc + 1) lv st h) := hx
  obtain ⟨x, z, r9, rfl, hx⟩ := vx_ll_o hx
  exact vm_r_lcmp hd (ih _ _ _ _ _ hx)
theorem vg_lshl  (hcn : vm_cn cn = y.1.cls) (hd : decode y.2.1 pc = .ok (.lshl, n)) (hs : vm_okS cn y pc (n, .lshl, a, b, c, v) = true) (ih : ∀ (kc ks : Nat) (lv : vm_L) (st : List Value) (h : vm_H), vm_sx (vm_env l O f9) y Q r kc ks (pc + n) lv st h → vm_T (vm_env l O f9) y kc ks (pc + n) lv st h Q) (hx : vm_sx (vm_env l O f9) y Q ((n, .lshl, a, b, c, v) :: r) kc ks pc lv st h) : vm_T (vm_env l O f9) y kc ks pc lv st h Q := by
  have hn : n = 1 := by simpa [vm_okS] using hs
  subst hn
  have hx : vx_li (fun x z => .long (x <<< (z.toInt64 &&& 63))) st (fun st => vm_sx (vm_env l O f9) y Q r kc ks (pc + 1) lv st h) := hx
  obtain ⟨x, z, r9, rfl, hx⟩ := vx_li_o hx
  exact vm_r_lshl hd (ih _ _ _ _ _ hx)
theorem vg_lshr  (hcn : vm_cn cn = y.1.cls) (hd : decode y.2.1 pc = .ok (.lshr, n)) (hs : vm_okS cn y pc (n, .lshr, a, b, c, v) = true) (ih : ∀ (kc ks : Nat) (lv : vm_L) (st : List Value) (h : vm_H), vm_sx (vm_env l O f9) y Q r kc ks (pc + n) lv st h → vm_T (vm_env l O f9) y kc ks (pc + n) lv st h Q) (hx : vm_sx (vm_env l O f9) y Q ((n, .lshr, a, b, c, v) :: r) kc ks pc lv st h) : vm_T (vm_env l O f9) y kc ks pc lv st h Q := by
  have hn : n = 1 := by simpa [vm_okS] using hs
  subst hn
  have hx : vx_li (fun x z => .long (x >>> (z.toInt64 &&& 63))) st (fun st => vm_sx (vm_env l O f9) y Q r kc ks (pc + 1) lv st h) := hx
  obtain ⟨x, z, r9, rfl, hx⟩ := vx_li_o hx
  exact vm_r_lshr hd (ih _ _ _ _ _ hx)
theorem vg_lushr  (hcn : vm_cn cn = y.1.cls) (hd : decode y.2.1 pc = .ok (.lushr, n)) (hs : vm_okS cn y pc (n, .lushr, a, b, c, v) = true) (ih : ∀ (kc ks : Nat) (lv : vm_L) (st : List Value) (h : vm_H), vm_sx (vm_env l O f9) y Q r kc ks (pc + n) lv st h → vm_T (vm_env l O f9) y kc ks (pc + n) lv st h Q) (hx : vm_sx (vm_env l O f9) y Q ((n, .lushr, a, b, c, v) :: r) kc ks pc lv st h) : vm_T (vm_env l O f9) y kc ks pc lv st h Q := by
  have hn : n = 1 := by simpa [vm_okS] using hs
  subst hn
  have hx : vx_li (fun x z => .long (x.toUInt64 >>> (z.toInt64.toUInt64 &&& Int64.toUInt64 63)).toInt64) st (fun st => vm_sx (vm_env l O f9) y Q r kc ks (pc + 1) lv st h) := hx
  obtain ⟨x, z, r9, rfl, hx⟩ := vx_li_o hx
  exact vm_r_lushr hd (ih _ _ _ _ _ hx)
theorem vg_idiv  (hcn : vm_cn cn = y.1.cls) (hd : decode y.2.1 pc = .ok (.idiv, n)) (hs : vm_okS cn y pc (n, .idiv, a, b, c, v) = true) (ih : ∀ (kc ks : Nat) (lv : vm_L) (st : List Value) (h : vm_H), vm_sx (vm_env l O f9) y Q r kc ks (pc + n) lv st h → vm_T (vm_env l O f9) y kc ks (pc + n) lv st h Q) (hx : vm_sx (vm_env l O f9) y Q ((n, .idiv, a, b, c, v) :: r) kc ks pc lv st h) : vm_T (vm_env l O f9) y kc ks pc lv st h Q := by
  have hn : n = 1 := by simpa [vm_okS] using hs
  subst hn
  have hx : vx_idv (fun x z => .int (x / z)) st (fun st => vm_sx (vm_env l O f9) y Q r kc ks (pc + 1) lv st h) := hx
  obtain ⟨x, z, r9, rfl, hz, hx⟩ := vx_idv_o hx
  exact vm_r_idiv hd hz (ih _ _ _ _ _ hx)
theorem vg_irem  (hcn : vm_cn cn = y.1.cls) (hd : decode y.2.1 pc = .ok (.irem, n)) (hs : vm_okS cn y pc (n, .irem, a, b, c, v) = true) (ih : ∀ (kc ks : Nat) (lv : vm_L) (st : List Value) (h : vm_H), vm_sx (vm_env l O f9) y Q r kc ks (pc + n) lv st h → vm_T (vm_env l O f9) y kc ks (pc + n) lv st h Q) (hx : vm_sx (vm_env l O f9) y Q ((n, .irem, a, b, c, v) :: r) kc ks pc lv st h) : vm_T (vm_env l O f9) y kc ks pc lv st h Q := by
  have hn : n = 1 := by simpa [vm_okS] using hs
  subst hn
  have hx : vx_idv (fun x z => .int (x - x / z * z)) st (fun st => vm_sx (vm_env l O f9) y Q r kc ks (pc + 1) lv st h) := hx
  obtain ⟨x, z, r9, rfl, hz, hx⟩ := vx_idv_o hx
  exact vm_r_irem hd hz (ih _ _ _ _ _ hx)
theorem vg_ldiv  (hcn : vm_cn cn = y.1.cls) (hd : decode y.2.1 pc = .ok (.ldiv, n)) (hs : vm_okS cn y pc (n, .ldiv, a, b, c, v) = true) (ih : ∀ (kc ks : Nat) (lv : vm_L) (st : List Value) (h : vm_H), vm_sx (vm_env l O f9) y Q r kc ks (pc + n) lv st h → vm_T (vm_env l O f9) y kc ks (pc + n) lv st h Q) (hx : vm_sx (vm_env l O f9) y Q ((n, .ldiv, a, b, c, v) :: r) kc ks pc lv st h) : vm_T (vm_env l O f9) y kc ks pc lv st h Q := by
  have hn : n = 1 := by simpa [vm_okS] using hs
  subst hn
  have hx : vx_ldv (fun x z => .long (x / z)) st (fun st => vm_sx (vm_env l O f9) y Q r kc ks (pc + 1) lv st h) := hx
  obtain ⟨x, z, r9, rfl, hz, hx⟩ := vx_ldv_o hx
  exact vm_r_ldiv hd hz (ih _ _ _ _ _ hx)
theorem vg_lrem  (hcn : vm_cn cn = y.1.cls) (hd : decode y.2.1 pc = .ok (.lrem, n)) (hs : vm_okS cn y pc (n, .lrem, a, b, c, v) = true) (ih : ∀ (kc ks : Nat) (lv : vm_L) (st : List Value) (h : vm_H), vm_sx (vm_env l O f9) y Q r kc ks (pc + n) lv st h → vm_T (vm_env l O f9) y kc ks (pc + n) lv st h Q) (hx : vm_sx (vm_env l O f9) y Q ((n, .lrem, a, b, c, v) :: r) kc ks pc lv st h) : vm_T (vm_env l O f9) y kc ks pc lv st h Q := by
  have hn : n = 1 := by simpa [vm_okS] using hs
  subst hn
  have hx : vx_ldv (fun x z => .long (x - x / z * z)) st (fun st => vm_sx (vm_env l O f9) y Q r kc ks (pc + 1) lv st h) := hx
  obtain ⟨x, z, r9, rfl, hz, hx⟩ := vx_ldv_o hx
  exact vm_r_lrem hd hz (ih _ _ _ _ _ hx)
theorem vg_ineg  (hcn : vm_cn cn = y.1.cls) (hd : decode y.2.1 pc = .ok (.ineg, n)) (hs : vm_okS cn y pc (n, .ineg, a, b, c, v) = true) (ih : ∀ (kc ks : Nat) (lv : vm_L) (st : List Value) (h : vm_H), vm_sx (vm_env l O f9) y Q r kc ks (pc + n) lv st h → vm_T (vm_env l O f9) y kc ks (pc + n) lv st h Q) (hx : vm_sx (vm_env l O f9) y Q ((n, .ineg, a, b, c, v) :: r) kc ks pc lv st h) : vm_T (vm_env l O f9) y kc ks pc lv st h Q := by
  have hn : n = 1 := by simpa [vm_okS] using hs
  subst hn
  have hx : vx_i (fun x => .int (-x)) st (fun st => vm_sx (vm_env l O f9) y Q r kc ks (pc + 1) lv st h) := hx
  obtain ⟨x, r9, rfl, hx⟩ := vx_i_o hx
  exact vm_r_ineg hd (ih _ _ _ _ _ hx)
theorem vg_lneg  (hcn : vm_cn cn = y.1.cls) (hd : decode y.2.1 pc = .ok (.lneg, n)) (hs : vm_okS cn y pc (n, .lneg, a, b, c, v) = true) (ih : ∀ (kc ks : Nat) (lv : vm_L) (st : List Value) (h : vm_H), vm_sx (vm_env l O f9) y Q r kc ks (pc + n) lv st h → vm_T (vm_env l O f9) y kc ks (pc + n) lv st h Q) (hx : vm_sx (vm_env l O f9) y Q ((n, .lneg, a, b, c, v) :: r) kc ks pc lv st h) : vm_T (vm_env l O f9) y kc ks pc lv st h Q := by
  have hn : n = 1 := by simpa [vm_okS] using hs
  subst hn
  have hx : vx_l (fun x => .long (-x)) st (fun st => vm_sx (vm_env l O f9) y Q r kc ks (pc + 1) lv st h) := hx
  obtain ⟨x, r9, rfl, hx⟩ := vx_l_o hx
  exact vm_r_lneg hd (ih _ _ _ _ _ hx)
theorem vg_i2l  (hcn : vm_cn cn = y.1.cls) (hd : decode y.2.1 pc = .ok (.i2l, n)) (hs : vm_okS cn y pc (n, .i2l, a, b, c, v) = true) (ih : ∀ (kc ks : Nat) (lv : vm_L) (st : List Value) (h : vm_H), vm_sx (vm_env l O f9) y Q r kc ks (pc + n) lv st h → vm_T (vm_env l O f9) y kc ks (pc + n) lv st h Q) (hx : vm_sx (vm_env l O f9) y Q ((n, .i2l, a, b, c, v) :: r) kc ks pc lv st h) : vm_T (vm_env l O f9) y kc ks pc lv st h Q := by
  have hn : n = 1 := by simpa [vm_okS] using hs
  subst hn
  have hx : vx_i (fun x => .long x.toInt64) st (fun st => vm_sx (vm_env l O f9) y Q r kc ks (pc + 1) lv st h) := hx
  obtain ⟨x, r9, rfl, hx⟩ := vx_i_o hx
  exact vm_r_i2l hd (ih _ _ _ _ _ hx)
theorem vg_l2i  (hcn : vm_cn cn = y.1.cls) (hd : decode y.2.1 pc = .ok (.l2i, n)) (hs : vm_okS cn y pc (n, .l2i, a, b, c, v) = true) (ih : ∀ (kc ks : Nat) (lv : vm_L) (st : List Value) (h : vm_H), vm_sx (vm_env l O f9) y Q r kc ks (pc + n) lv st h → vm_T (vm_env l O f9) y kc ks (pc + n) lv st h Q) (hx : vm_sx (vm_env l O f9) y Q ((n, .l2i, a, b, c, v) :: r) kc ks pc lv st h) : vm_T (vm_env l O f9) y kc ks pc lv st h Q := by
  have hn : n = 1 := by simpa [vm_okS] using hs
  subst hn
  have hx : vx_l (fun x => .int x.toInt32) st (fun st => vm_sx (vm_env l O f9) y Q r kc ks (pc + 1) lv st h) := hx
  obtain ⟨x, r9, rfl, hx⟩ := vx_l_o hx
  exact vm_r_l2i hd (ih _ _ _ _ _ hx)
theorem vg_i2b  (hcn : vm_cn cn = y.1.cls) (hd : decode y.2.1 pc = .ok (.i2b, n)) (hs : vm_okS cn y pc (n, .i2b, a, b, c, v) = true) (ih : ∀ (kc ks : Nat) (lv : vm_L) (st : List Value) (h : vm_H), vm_sx (vm_env l O f9) y Q r kc ks (pc + n) lv st h → vm_T (vm_env l O f9) y kc ks (pc + n) lv st h Q) (hx : vm_sx (vm_env l O f9) y Q ((n, .i2b, a, b, c, v) :: r) kc ks pc lv st h) : vm_T (vm_env l O f9) y kc ks pc lv st h Q := by
  have hn : n = 1 := by simpa [vm_okS] using hs
  subst hn
  have hx : vx_i (fun x => .int x.toInt8.toInt32) st (fun st => vm_sx (vm_env l O f9) y Q r kc ks (pc + 1) lv st h) := hx
  obtain ⟨x, r9, rfl, hx⟩ := vx_i_o hx
  exact vm_r_i2b hd (ih _ _ _ _ _ hx)
theorem vg_i2c  (hcn : vm_cn cn = y.1.cls) (hd : decode y.2.1 pc = .ok (.i2c, n)) (hs : vm_okS cn y pc (n, .i2c, a, b, c, v) = true) (ih : ∀ (kc ks : Nat) (lv : vm_L) (st : List Value) (h : vm_H), vm_sx (vm_env l O f9) y Q r kc ks (pc + n) lv st h → vm_T (vm_env l O f9) y kc ks (pc + n) lv st h Q) (hx : vm_sx (vm_env l O f9) y Q ((n, .i2c, a, b, c, v) :: r) kc ks pc lv st h) : vm_T (vm_env l O f9) y kc ks pc lv st h Q := by
  have hn : n = 1 := by simpa [vm_okS] using hs
  subst hn
  have hx : vx_i (fun x => .int (x.toUInt32 % 65536).toInt32) st (fun st => vm_sx (vm_env l O f9) y Q r kc ks (pc + 1) lv st h) := hx
  obtain ⟨x, r9, rfl, hx⟩ := vx_i_o hx
  exact vm_r_i2c hd (ih _ _ _ _ _ hx)
theorem vg_dup  (hcn : vm_cn cn = y.1.cls) (hd : decode y.2.1 pc = .ok (.dup, n)) (hs : vm_okS cn y pc (n, .dup, a, b, c, v) = true) (ih : ∀ (kc ks : Nat) (lv : vm_L) (st : List Value) (h : vm_H), vm_sx (vm_env l O f9) y Q r kc ks (pc + n) lv st h → vm_T (vm_env l O f9) y kc ks (pc + n) lv st h Q) (hx : vm_sx (vm_env l O f9) y Q ((n, .dup, a, b, c, v) :: r) kc ks pc lv st h) : vm_T (vm_env l O f9) y kc ks pc lv st h Q := by
  have hn : n = 1 := by simpa [vm_okS] using hs
  subst hn
  have hx : vx_dup st (fun st => vm_sx (vm_env l O f9) y Q r kc ks (pc + 1) lv st h) := hx
  unfold vx_dup at hx
  split at hx
  · split at hx
    · next e => exact vm_r_dup hd (Nat.eq_of_beq_eq_true e) (ih _ _ _ _ _ hx)
    · exact hx.elim
  · exact hx.elim
theorem vg_pop  (hcn : vm_cn cn = y.1.cls) (hd : decode y.2.1 pc = .ok (.pop, n)) (hs : vm_okS cn y pc (n, .pop, a, b, c, v) = true) (ih : ∀ (kc ks : Nat) (lv : vm_L) (st : List Value) (h : vm_H), vm_sx (vm_env l O f9) y Q r kc ks (pc + n) lv st h → vm_T (vm_env l O f9) y kc ks (pc + n) lv st h Q) (hx : vm_sx (vm_env l O f9) y Q ((n, .pop, a, b, c, v) :: r) kc ks pc lv st h) : vm_T (vm_env l O f9) y kc ks pc lv st h Q := by
  have hn : n = 1 := by simpa [vm_okS] using hs
  subst hn
  have hx : vx_pop st (fun st => vm_sx (vm_env l O f9) y Q r kc ks (pc + 1) lv st h) := hx
  unfold vx_pop at hx
  split at hx
  · split at hx
    · next e => exact vm_r_pop hd (Nat.eq_of_beq_eq_true e) (ih _ _ _ _ _ hx)
    · exact hx.elim
  · exact hx.elim
theorem vg_dup2  (hcn : vm_cn cn = y.1.cls) (hd : decode y.2.1 pc = .ok (.dup2, n)) (hs : vm_okS cn y pc (n, .dup2, a, b, c, v) = true) (ih : ∀ (kc ks : Nat) (lv : vm_L) (st : List Value) (h : vm_H), vm_sx (vm_env l O f9) y Q r kc ks (pc + n) lv st h → vm_T (vm_env l O f9) y kc ks (pc + n) lv st h Q) (hx : vm_sx (vm_env l O f9) y Q ((n, .dup2, a, b, c, v) :: r) kc ks pc lv st h) : vm_T (vm_env l O f9) y kc ks pc lv st h Q := by
  have hn : n = 1 := by simpa [vm_okS] using hs
  subst hn
  have hx : vx_dup2 st (fun st => vm_sx (vm_env l O f9) y Q r kc ks (pc + 1) lv st h) := hx
  unfold vx_dup2 at hx
  split at hx
  · split at hx
    · next e => exact vm_r_dup2L hd (Nat.eq_of_beq_eq_true e) (ih _ _ _ _ _ hx)
    · split at hx
      · split at hx
        · next e =>
          rw [Bool.and_eq_true] at e
          exact vm_r_dup2 hd (Nat.eq_of_beq_eq_true e.1) (Nat.eq_of_beq_eq_true e.2) (ih _ _ _ _ _ hx)
        · exact hx.elim
      · exact hx.elim
  · exact hx.elim
theorem vg_ifCond {cd : Jvm.ClassFile.Cond} {off : Int} (hcn : vm_cn cn = y.1.cls) (hd : decode y.2.1 pc = .ok (.ifCond cd off, n)) (hs : vm_okS cn y pc (n, .ifCond cd off, a, b, c, v) = true) (ih : ∀ (kc ks : Nat) (lv : vm_L) (st : List Value) (h : vm_H), vm_sx (vm_env l O f9) y Q r kc ks (pc + n) lv st h → vm_T (vm_env l O f9) y kc ks (pc + n) lv st h Q) (hx : vm_sx (vm_env l O f9) y Q ((n, .ifCond cd off, a, b, c, v) :: r) kc ks pc lv st h) : vm_T (vm_env l O f9) y kc ks pc lv st h Q := by
  have h2 : n = 3 ∧ (pc : Int) + off = (a : Int) := by simpa [vm_okS] using hs
  obtain ⟨rfl, ht⟩ := h2
  have hx : vx_if cd st (fun st => vm_T (vm_env l O f9) y kc ks a lv st h Q) (fun st => vm_sx (vm_env l O f9) y Q r kc ks (pc + 3) lv st h) := hx
  unfold vx_if at hx
  split at hx
  · cases cd with
    | eq => exact vm_r_if_eq hd ht hx.1 (fun q => ih _ _ _ _ _ (hx.2 q))
    | ne => exact vm_r_if_ne hd ht hx.1 (fun q => ih _ _ _ _ _ (hx.2 q))
    | lt => exact vm_r_if_lt hd ht hx.1 (fun q => ih _ _ _ _ _ (hx.2 q))
    | ge => exact vm_r_if_ge hd ht hx.1 (fun q => ih _ _ _ _ _ (hx.2 q))
    | gt => exact vm_r_if_gt hd ht hx.1 (fun q => ih _ _ _ _ _ (hx.2 q))
    | le => exact vm_r_if_le hd ht hx.1 (fun q => ih _ _ _ _ _ (hx.2 q))
  · exact hx.elim
theorem vg_ificmp {cd : Jvm.ClassFile.Cond} {off : Int} (hcn : vm_cn cn = y.1.cls) (hd : decode y.2.1 pc = .ok (.if_icmp cd off, n)) (hs : vm_okS cn y pc (n, .if_icmp cd off, a, b, c, v) = true) (ih : ∀ (kc ks : Nat) (lv : vm_L) (st : List Value) (h : vm_H), vm_sx (vm_env l O f9) y Q r kc ks (pc + n) lv st h → vm_T (vm_env l O f9) y kc ks (pc + n) lv st h Q) (hx : vm_sx (vm_env l O f9) y Q ((n, .if_icmp cd off, a, b, c, v) :: r) kc ks pc lv st h) : vm_T (vm_env l O f9) y kc ks pc lv st h Q := by
  have h2 : n = 3 ∧ (pc : Int) + off = (a : Int) := by simpa [vm_okS] using hs
  obtain ⟨rfl, ht⟩ := h2
  have hx : vx_if2 cd st (fun st => vm_T (vm_env l O f9) y kc ks a lv st h Q) (fun st => vm_sx (vm_env l O f9) y Q r kc ks (pc + 3) lv st h) := hx
  unfold vx_if2 at hx
  split at hx
  · cases cd with
    | eq => exact vm_r_icmp_eq hd ht hx.1 (fun q => ih _ _ _ _ _ (hx.2 q))
    | ne => exact vm_r_icmp_ne hd ht hx.1 (fun q => ih _ _ _ _ _ (hx.2 q))
    | lt => exact vm_r_icmp_lt hd ht hx.1 (fun q => ih _ _ _ _ _ (hx.2 q))
    | ge => exact vm_r_icmp_ge hd ht hx.1 (fun q => ih _ _ _ _ _ (hx.2 q))
    | gt => exact vm_r_icmp_gt hd ht hx.1 (fun q => ih _ _ _ _ _ (hx.2 q))
    | le => exact vm_r_icmp_le hd ht hx.1 (fun q => ih _ _ _ _ _ (hx.2 q))
  · exact hx.elim
theorem vg_ifnull {off : Int} (hcn : vm_cn cn = y.1.cls) (hd : decode y.2.1 pc = .ok (.ifnull off, n)) (hs : vm_okS cn y pc (n, .ifnull off, a, b, c, v) = true) (ih : ∀ (kc ks : Nat) (lv : vm_L) (st : List Value) (h : vm_H), vm_sx (vm_env l O f9) y Q r kc ks (pc + n) lv st h → vm_T (vm_env l O f9) y kc ks (pc + n) lv st h Q) (hx : vm_sx (vm_env l O f9) y Q ((n, .ifnull off, a, b, c, v) :: r) kc ks pc lv st h) : vm_T (vm_env l O f9) y kc ks pc lv st h Q := by
  have h2 : n = 3 ∧ (pc : Int) + off = (a : Int) := by simpa [vm_okS] using hs
  obtain ⟨rfl, ht⟩ := h2
  have hx : vx_nul st (fun st => vm_T (vm_env l O f9) y kc ks a lv st h Q) (fun st => vm_sx (vm_env l O f9) y Q r kc ks (pc + 3) lv st h) := hx
  unfold vx_nul at hx
  split at hx
  · exact vm_r_ifnullN hd ht hx
  · exact vm_r_ifnull hd (ih _ _ _ _ _ hx)
  · exact hx.elim
theorem vg_ifnonnull {off : Int} (hcn : vm_cn cn = y.1.cls) (hd : decode y.2.1 pc = .ok (.ifnonnull off, n)) (hs : vm_okS cn y pc (n, .ifnonnull off, a, b, c, v) = true) (ih : ∀ (kc ks : Nat) (lv : vm_L) (st : List Value) (h : vm_H), vm_sx (vm_env l O f9) y Q r kc ks (pc + n) lv st h → vm_T (vm_env l O f9) y kc ks (pc + n) lv st h Q) (hx : vm_sx (vm_env l O f9) y Q ((n, .ifnonnull off, a, b, c, v) :: r) kc ks pc lv st h) : vm_T (vm_env l O f9) y kc ks pc lv st h Q := by
  have h2 : n = 3 ∧ (pc : Int) + off = (a : Int) := by simpa [vm_okS] using hs
  obtain ⟨rfl, ht⟩ := h2
  have hx : vx_nul st (fun st => vm_sx (vm_env l O f9) y Q r kc ks (pc + 3) lv st h) (fun st => vm_T (vm_env l O f9) y kc ks a lv st h Q) := hx
  unfold vx_nul at hx
  split at hx
  · exact vm_r_ifnonnullN hd (ih _ _ _ _ _ hx)
  · exact vm_r_ifnonnull hd ht hx
  · exact hx.elim
theorem vg_ifacmp {cd : Jvm.ClassFile.ACond} {off : Int} (hcn : vm_cn cn = y.1.cls) (hd : decode y.2.1 pc = .ok (.if_acmp cd off, n)) (hs : vm_okS cn y pc (n, .if_acmp cd off, a, b, c, v) = true) (ih : ∀ (kc ks : Nat) (lv : vm_L) (st : List Value) (h : vm_H), vm_sx (vm_env l O f9) y Q r kc ks (pc + n) lv st h → vm_T (vm_env l O f9) y kc ks (pc + n) lv st h Q) (hx : vm_sx (vm_env l O f9) y Q ((n, .if_acmp cd off, a, b, c, v) :: r) kc ks pc lv st h) : vm_T (vm_env l O f9) y kc ks pc lv st h Q := by
  have h2 : n = 3 ∧ (pc : Int) + off = (a : Int) := by simpa [vm_okS] using hs
  obtain ⟨rfl, ht⟩ := h2
  cases cd with
  | eq =>
    have hx : vx_acmp st (fun st => vm_T (vm_env l O f9) y kc ks a lv st h Q) (fun st => vm_sx (vm_env l O f9) y Q r kc ks (pc + 3) lv st h) := hx
    unfold vx_acmp at hx
    split at hx
    · exact vm_r_acmp_eq hd ht hx.1 hx.2.1 hx.2.2.1 (fun q => ih _ _ _ _ _ (hx.2.2.2 q))
    · exact hx.elim
  | ne => exact (show False from hx).elim
theorem vg_goto {off : Int} (hcn : vm_cn cn = y.1.cls) (hd : decode y.2.1 pc = .ok (.goto off, n)) (hs : vm_okS cn y pc (n, .goto off, a, b, c, v) = true) (ih : ∀ (kc ks : Nat) (lv : vm_L) (st : List Value) (h : vm_H), vm_sx (vm_env l O f9) y Q r kc ks (pc + n) lv st h → vm_T (vm_env l O f9) y kc ks (pc + n) lv st h Q) (hx : vm_sx (vm_env l O f9) y Q ((n, .goto off, a, b, c, v) :: r) kc ks pc lv st h) : vm_T (vm_env l O f9) y kc ks pc lv st h Q := by
  have h2 : n = 3 ∧ (pc : Int) + off = (a : Int) := by simpa [vm_okS] using hs
  obtain ⟨rfl, ht⟩ := h2
  exact vm_r_goto hd ht hx
theorem vg_tableswitch {d lo hi : Int} {offs : Array Int} (hcn : vm_cn cn = y.1.cls) (hd : decode y.2.1 pc = .ok (.tableswitch d lo hi offs, n)) (hs : vm_okS cn y pc (n, .tableswitch d lo hi offs, a, b, c, v) = true) (ih : ∀ (kc ks : Nat) (lv : vm_L) (st : List Value) (h : vm_H), vm_sx (vm_env l O f9) y Q r kc ks (pc + n) lv st h → vm_T (vm_env l O f9) y kc ks (pc + n) lv st h Q) (hx : vm_sx (vm_env l O f9) y Q ((n, .tableswitch d lo hi offs, a, b, c, v) :: r) kc ks pc lv st h) : vm_T (vm_env l O f9) y kc ks pc lv st h Q := by
  have hx : vx_sw pc d lo hi offs st (fun t st => vm_T (vm_env l O f9) y kc ks t lv st h Q) := hx
  unfold vx_sw at hx
  split at hx
  · obtain ⟨t, (⟨h1, h2⟩ | ⟨h1, h2, off, h3, h4⟩), hx⟩ := hx
    · exact vm_r_swOut hd h1 h2 hx
    · exact vm_r_swIn hd h1 h2 h3 h4 hx
  · exact hx.elim
theorem vg_getfield {k : Nat} (hcn : vm_cn cn = y.1.cls) (hd : decode y.2.1 pc = .ok (.getfield k, n)) (hs : vm_okS cn y pc (n, .getfield k, a, b, c, v) = true) (ih : ∀ (kc ks : Nat) (lv : vm_L) (st : List Value) (h : vm_H), vm_sx (vm_env l O f9) y Q r kc ks (pc + n) lv st h → vm_T (vm_env l O f9) y kc ks (pc + n) lv st h Q) (hx : vm_sx (vm_env l O f9) y Q ((n, .getfield k, a, b, c, v) :: r) kc ks pc lv st h) : vm_T (vm_env l O f9) y kc ks pc lv st h Q := by
  unfold vm_okS at hs
  simp only [Bool.and_eq_true, beq_iff_eq] at hs
  obtain ⟨rfl, hs⟩ := hs
  have hx : vx_get a b st h (fun st => vm_sx (vm_env l O f9) y Q r kc ks (pc + 3) lv st h) := hx
  unfold vx_get at hx
  by_cases ha : a = 500
  · subst ha
    have hs : (cn, k, b) ∈ vfs_t := of_decide_eq_true hs
    have hw := vfs_ok _ hs
    rw [show vm_cn (cn, k, b).1 = y.1.cls from hcn] at hw
    split at hx
    · obtain ⟨fs, w, h1, h2, hx⟩ := hx
      exact vm_r_getS hd hw vt_len h1 h2 (ih _ _ _ _ _ hx)
    · exact hx.elim
  · have hs : (cn, k, a, b) ∈ vf_t := by
      split at hs
      · exact absurd rfl ha
      · exact of_decide_eq_true hs
    have hw := vf_ok (l := l) (O := O) (f9 := f9) _ hs
    rw [show vm_cn (cn, k, a, b).1 = y.1.cls from hcn] at hw
    split at hx
    · obtain ⟨fs, w, h1, h2, hx⟩ := hx
      exact vm_r_getfield hd hw h1 h2 (ih _ _ _ _ _ hx)
    · exact hx.elim
def vm_tcT (tc : Nat) (ty : FieldType) : Prop := match tc with
  | 0 => ty = .int
  | 1 => ty = .long
  | 2 => ty = .boolean
  | 3 => ty = .byte
  | _ => (∃ C, ty = .object C) ∨ ∃ t, ty = .array t
theorem vx_fit_o {tc : Nat} {w : Value} {ty : FieldType} (q : vx_fit tc w) (ht : vm_tcT tc ty) : narrow ty w = w ∧ fits ty w = true := by
  unfold vx_fit at q
  split at q
  · cases ht; exact ⟨rfl, rfl⟩
  · cases ht; exact ⟨rfl, rfl⟩
  · cases ht
    rcases q with rfl | rfl <;> exact ⟨rfl, rfl⟩
  · next x =>
    cases ht
    refine ⟨by show Value.int _ = _; rw [q], ?_⟩
    rw [← q]
    exact pk_fb x
  · rcases ht with ⟨C, rfl⟩ | ⟨t, rfl⟩ <;> exact ⟨rfl, rfl⟩
  · rcases ht with ⟨C, rfl⟩ | ⟨t, rfl⟩ <;> exact ⟨rfl, rfl⟩
  · exact q.elim
theorem vg_putfield {k : Nat} (hcn : vm_cn cn = y.1.cls) (hd : decode y.2.1 pc = .ok (.putfield k, n)) (hs : vm_okS cn y pc (n, .putfield k, a, b, c, v) = true) (ih : ∀ (kc ks : Nat) (lv : vm_L) (st : List Value) (h : vm_H), vm_sx (vm_env l O f9) y Q r kc ks (pc + n) lv st h → vm_T (vm_env l O f9) y kc ks (pc + n) lv st h Q) (hx : vm_sx (vm_env l O f9) y Q ((n, .putfield k, a, b, c, v) :: r) kc ks pc lv st h) : vm_T (vm_env l O f9) y kc ks pc lv st h Q := by
  unfold vm_okS at hs
  simp only [Bool.and_eq_true, Bool.or_eq_true, beq_iff_eq, decide_eq_true_eq] at hs
  obtain ⟨rfl, hs⟩ := hs
  have hx : vx_put a b c st h (fun st h => vm_sx (vm_env l O f9) y Q r kc ks (pc + 3) lv st h) := hx
  unfold vx_put at hx
  split at hx
  · obtain ⟨fs, h1, h2, h3, h4, hx⟩ := hx
    rcases hs with hs | ⟨hi, hs⟩
    · obtain ⟨ty, f1, f2⟩ := vp9_ok (l := l) (O := O) (f9 := f9) _ hs
      obtain ⟨g1, g2⟩ := vx_fit_o h4 (show vm_tcT c ty from f2)
      have f1 : vm_Fp (vm_env l O f9) (vm_cn cn) k a b ty _ := f1
      rw [hcn] at f1
      exact vm_r_putfield hd f1 (fun q => by cases q) h1 h2 h3 g1 g2 (ih _ _ _ _ _ hx)
    · obtain ⟨ty, f1, f2⟩ := vp9_ok (l := l) (O := O) (f9 := f9) _ hs
      obtain ⟨g1, g2⟩ := vx_fit_o h4 (show vm_tcT c ty from f2)
      have f1 : vm_Fp (vm_env l O f9) (vm_cn cn) k a b ty _ := f1
      rw [hcn] at f1
      exact vm_r_putfield hd f1 (fun _ => hi) h1 h2 h3 g1 g2 (ih _ _ _ _ _ hx)
  · exact hx.elim
theorem vg_iaload  (hcn : vm_cn cn = y.1.cls) (hd : decode y.2.1 pc = .ok (.iaload, n)) (hs : vm_okS cn y pc (n, .iaload, a, b, c, v) = true) (ih : ∀ (kc ks : Nat) (lv : vm_L) (st : List Value) (h : vm_H), vm_sx (vm_env l O f9) y Q r kc ks (pc + n) lv st h → vm_T (vm_env l O f9) y kc ks (pc + n) lv st h Q) (hx : vm_sx (vm_env l O f9) y Q ((n, .iaload, a, b, c, v) :: r) kc ks pc lv st h) : vm_T (vm_env l O f9) y kc ks pc lv st h Q := by
  have hn : n = 1 := by simpa [vm_okS] using hs
  subst hn
  have hx : vx_iald .int st h (fun st => vm_sx (vm_env l O f9) y Q r kc ks (pc + 1) lv st h) := hx
  unfold vx_iald at hx
  split at hx
  · obtain ⟨n9, f, h1, k9, rfl, h2, hx⟩ := hx
    exact vm_r_iaload hd vt_int h1 h2 (ih _ _ _ _ _ (hx rfl))
  · exact hx.elim
theorem vg_baload  (hcn : vm_cn cn = y.1.cls) (hd : decode y.2.1 pc = .ok (.baload, n)) (hs : vm_okS cn y pc (n, .baload, a, b, c, v) = true) (ih : ∀ (kc ks : Nat) (lv : vm_L) (st : List Value) (h : vm_H), vm_sx (vm_env l O f9) y Q r kc ks (pc + n) lv st h → vm_T (vm_env l O f9) y kc ks (pc + n) lv st h Q) (hx : vm_sx (vm_env l O f9) y Q ((n, .baload, a, b, c, v) :: r) kc ks pc lv st h) : vm_T (vm_env l O f9) y kc ks pc lv st h Q := by
  have hn : n = 1 := by simpa [vm_okS] using hs
  subst hn
  have hx : vx_iald (if a = 0 then .byte else .boolean) st h (fun st => vm_sx (vm_env l O f9) y Q r kc ks (pc + 1) lv st h) := hx
  unfold vx_iald at hx
  split at hx
  · obtain ⟨n9, f, h1, k9, rfl, h2, hx⟩ := hx
    by_cases ha : a = 0
    · rw [if_pos ha] at h1 hx
      exact vm_r_baload hd vt_byte h1 h2 (fun q => ih _ _ _ _ _ (hx q))
    · rw [if_neg ha] at h1 hx
      exact vm_r_zaload hd vt_bool h1 h2 (fun q => ih _ _ _ _ _ (hx q))
  · exact hx.elim
theorem vg_laload  (hcn : vm_cn cn = y.1.cls) (hd : decode y.2.1 pc = .ok (.laload, n)) (hs : vm_okS cn y pc (n, .laload, a, b, c, v) = true) (ih : ∀ (kc ks : Nat) (lv : vm_L) (st : List Value) (h : vm_H), vm_sx (vm_env l O f9) y Q r kc ks (pc + n) lv st h → vm_T (vm_env l O f9) y kc ks (pc + n) lv st h Q) (hx : vm_sx (vm_env l O f9) y Q ((n, .laload, a, b, c, v) :: r) kc ks pc lv st h) : vm_T (vm_env l O f9) y kc ks pc lv st h Q := by
  have hn : n = 1 := by simpa [vm_okS] using hs
  subst hn
  have hx : vx_lald st h (fun st => vm_sx (vm_env l O f9) y Q r kc ks (pc + 1) lv st h) := hx
  unfold vx_lald at hx
  split at hx
  · obtain ⟨n9, f, h1, k9, rfl, h2, hx⟩ := hx
    exact vm_r_laload hd vt_long h1 h2 (ih _ _ _ _ _ hx)
  · exact hx.elim
theorem vg_aaload  (hcn : vm_cn cn = y.1.cls) (hd : decode y.2.1 pc = .ok (.aaload, n)) (hs : vm_okS cn y pc (n, .aaload, a, b, c, v) = true) (ih : ∀ (kc ks : Nat) (lv : vm_L) (st : List Value) (h : vm_H), vm_sx (vm_env l O f9) y Q r kc ks (pc + n) lv st h → vm_T (vm_env l O f9) y kc ks (pc + n) lv st h Q) (hx : vm_sx (vm_env l O f9) y Q ((n, .aaload, a, b, c, v) :: r) kc ks pc lv st h) : vm_T (vm_env l O f9) y kc ks pc lv st h Q := by
  have hn : n = 1 := by simpa [vm_okS] using hs
  subst hn
  have hx : vx_aald st h (fun st => vm_sx (vm_env l O f9) y Q r kc ks (pc + 1) lv st h) := hx
  unfold vx_aald at hx
  split at hx
  · obtain ⟨ty, n9, f, w, h1, h2, h3, k9, rfl, h4, h5, hx⟩ := hx
    exact vm_r_aaload hd h2 h3 h1 h4 h5 (ih _ _ _ _ _ hx)
  · exact hx.elim
theorem vg_iastore  (hcn : vm_cn cn = y.1.cls) (hd : decode y.2.1 pc = .ok (.iastore, n)) (hs : vm_okS cn y pc (n, .iastore, a, b, c, v) = true) (ih : ∀ (kc ks : Nat) (lv : vm_L) (st : List Value) (h : vm_H), vm_sx (vm_env l O f9) y Q r kc ks (pc + n) lv st h → vm_T (vm_env l O f9) y kc ks (pc + n) lv st h Q) (hx : vm_sx (vm_env l O f9) y Q ((n, .iastore, a, b, c, v) :: r) kc ks pc lv st h) : vm_T (vm_env l O f9) y kc ks pc lv st h Q := by
  have hn : n = 1 := by simpa [vm_okS] using hs
  subst hn
  have hx : vx_iast .int st h (fun st h => vm_sx (vm_env l O f9) y Q r kc ks (pc + 1) lv st h) := hx
  unfold vx_iast at hx
  split at hx
  · obtain ⟨n9, f, h1, h2, k9, rfl, h3, hx⟩ := hx
    exact vm_r_iastore hd vt_int h1 h2 h3 (ih _ _ _ _ _ hx)
  · exact hx.elim
theorem vg_bastore  (hcn : vm_cn cn = y.1.cls) (hd : decode y.2.1 pc = .ok (.bastore, n)) (hs : vm_okS cn y pc (n, .bastore, a, b, c, v) = true) (ih : ∀ (kc ks : Nat) (lv : vm_L) (st : List Value) (h : vm_H), vm_sx (vm_env l O f9) y Q r kc ks (pc + n) lv st h → vm_T (vm_env l O f9) y kc ks (pc + n) lv st h Q) (hx : vm_sx (vm_env l O f9) y Q ((n, .bastore, a, b, c, v) :: r) kc ks pc lv st h) : vm_T (vm_env l O f9) y kc ks pc lv st h Q := by
  have hn : n = 1 := by simpa [vm_okS] using hs
  subst hn
  have hx : vx_iast (if a = 0 then .byte else .boolean) st h (fun st h => vm_sx (vm_env l O f9) y Q r kc ks (pc + 1) lv st h) := hx
  unfold vx_iast at hx
  split at hx
  · obtain ⟨n9, f, h1, h2, k9, rfl, h3, hx⟩ := hx
    by_cases ha : a = 0
    · rw [if_pos ha] at h1 hx
      exact vm_r_bastore hd vt_byte h1 h2 h3 (ih _ _ _ _ _ hx)
    · rw [if_neg ha] at h1 hx
      exact vm_r_zastore hd vt_bool h1 h2 h3 (ih _ _ _ _ _ hx)
  · exact hx.elim
theorem vg_lastore  (hcn : vm_cn cn = y.1.cls) (hd : decode y.2.1 pc = .ok (.lastore, n)) (hs : vm_okS cn y pc (n, .lastore, a, b, c, v) = true) (ih : ∀ (kc ks : Nat) (lv : vm_L) (st : List Value) (h : vm_H), vm_sx (vm_env l O f9) y Q r kc ks (pc + n) lv st h → vm_T (vm_env l O f9) y kc ks (pc + n) lv st h Q) (hx : vm_sx (vm_env l O f9) y Q ((n, .lastore, a, b, c, v) :: r) kc ks pc lv st h) : vm_T (vm_env l O f9) y kc ks pc lv st h Q := by
  have hn : n = 1 := by simpa [vm_okS] using hs
  subst hn
  have hx : vx_last st h (fun st h => vm_sx (vm_env l O f9) y Q r kc ks (pc + 1) lv st h) := hx
  unfold vx_last at hx
  split at hx
  · obtain ⟨n9, f, h1, h2, k9, rfl, h3, hx⟩ := hx
    exact vm_r_lastore hd vt_long h1 h2 h3 (ih _ _ _ _ _ hx)
  · exact hx.elim
theorem vg_aastore  (hcn : vm_cn cn = y.1.cls) (hd : decode y.2.1 pc = .ok (.aastore, n)) (hs : vm_okS cn y pc (n, .aastore, a, b, c, v) = true) (ih : ∀ (kc ks : Nat) (lv : vm_L) (st : List Value) (h : vm_H), vm_sx (vm_env l O f9) y Q r kc ks (pc + n) lv st h → vm_T (vm_env l O f9) y kc ks (pc + n) lv st h Q) (hx : vm_sx (vm_env l O f9) y Q ((n, .aastore, a, b, c, v) :: r) kc ks pc lv st h) : vm_T (vm_env l O f9) y kc ks pc lv st h Q := by
  unfold vm_okS at hs
  simp only [Bool.and_eq_true, beq_iff_eq, decide_eq_true_eq] at hs
  obtain ⟨rfl, hs1, hs2⟩ := hs
  have hx : vx_aast (vm_cn a) a st h (fun st h => vm_sx (vm_env l O f9) y Q r kc ks (pc + 1) lv st h) := hx
  unfold vx_aast at hx
  split at hs2
  · next rr hr =>
    simp only [Bool.and_eq_true, decide_eq_true_eq] at hs2
    obtain ⟨e1, e2⟩ := hs2
    split at hx
    · obtain ⟨n9, f, vs, h1, h2, h3, h4, k9, rfl, h5, hx⟩ := hx
      rw [← e1] at h1 hx hs1
      exact vm_r_aastore (r := rr) hd hs1 h1 h2 h3 h4 e2 hr h5 (ih _ _ _ _ _ hx)
    · exact hx.elim
  · cases hs2
theorem vg_arraylength  (hcn : vm_cn cn = y.1.cls) (hd : decode y.2.1 pc = .ok (.arraylength, n)) (hs : vm_okS cn y pc (n, .arraylength, a, b, c, v) = true) (ih : ∀ (kc ks : Nat) (lv : vm_L) (st : List Value) (h : vm_H), vm_sx (vm_env l O f9) y Q r kc ks (pc + n) lv st h → vm_T (vm_env l O f9) y kc ks (pc + n) lv st h Q) (hx : vm_sx (vm_env l O f9) y Q ((n, .arraylength, a, b, c, v) :: r) kc ks pc lv st h) : vm_T (vm_env l O f9) y kc ks pc lv st h Q := by
  have hn : n = 1 := by simpa [vm_okS] using hs
  subst hn
  have hx : vx_alen st h (fun st => vm_sx (vm_env l O f9) y Q r kc ks (pc + 1) lv st h) := hx
  unfold vx_alen at hx
  split at hx
  · obtain ⟨ty, x, h1, h2, hx⟩ := hx
    exact vm_r_alen hd h2 h1 (ih _ _ _ _ _ hx)
  · exact hx.elim
theorem vg_newarray {at9 : ArrayType} (hcn : vm_cn cn = y.1.cls) (hd : decode y.2.1 pc = .ok (.newarray at9, n)) (hs : vm_okS cn y pc (n, .newarray at9, a, b, c, v) = true) (ih : ∀ (kc ks : Nat) (lv : vm_L) (st : List Value) (h : vm_H), vm_sx (vm_env l O f9) y Q r kc ks (pc + n) lv st h → vm_T (vm_env l O f9) y kc ks (pc + n) lv st h Q) (hx : vm_sx (vm_env l O f9) y Q ((n, .newarray at9, a, b, c, v) :: r) kc ks pc lv st h) : vm_T (vm_env l O f9) y kc ks pc lv st h Q := by
  have hn : n = 2 := by simpa [vm_okS] using hs
  subst hn
  cases at9 with
  | int =>
    have hx : vx_newa .int (.inl (fun _ => 0)) st h kc ks (fun kc ks st h => vm_sx (vm_env l O f9) y Q r kc ks (pc + 2) lv st h) := hx
    unfold vx_newa at hx
    split at hx
    · obtain ⟨N, rfl, h2, h3, h4, h5, hx⟩ := hx
      exact vm_r_newI hd vt_int vw_acI h2 h3 h4 h5 (ih _ _ _ _ _ hx)
    · exact hx.elim
  | byte =>
    have hx : vx_newa .byte (.inl (fun _ => 0)) st h kc ks (fun kc ks st h => vm_sx (vm_env l O f9) y Q r kc ks (pc + 2) lv st h) := hx
    unfold vx_newa at hx
    split at hx
    · obtain ⟨N, rfl, h2, h3, h4, h5, hx⟩ := hx
      exact vm_r_newB hd vt_byte vw_acB h2 h3 h4 h5 (ih _ _ _ _ _ hx)
    · exact hx.elim
  | boolean =>
    have hx : vx_newa .boolean (.inl (fun _ => 0)) st h kc ks (fun kc ks st h => vm_sx (vm_env l O f9) y Q r kc ks (pc + 2) lv st h) := hx
    unfold vx_newa at hx
    split at hx
    · obtain ⟨N, rfl, h2, h3, h4, h5, hx⟩ := hx
      exact vm_r_newZ hd vt_bool vw_acZ h2 h3 h4 h5 (ih _ _ _ _ _ hx)
    · exact hx.elim
  | long =>
    have hx : vx_newa .long (.inr (.inl (fun _ => 0))) st h kc ks (fun kc ks st h => vm_sx (vm_env l O f9) y Q r kc ks (pc + 2) lv st h) := hx
    unfold vx_newa at hx
    split at hx
    · obtain ⟨N, rfl, h2, h3, h4, h5, hx⟩ := hx
      exact vm_r_newJ hd vt_long vw_acJ h2 h3 h4 h5 (ih _ _ _ _ _ hx)
    · exact hx.elim
  | _ => exact (show False from hx).elim
theorem vg_anewarray {k : Nat} (hcn : vm_cn cn = y.1.cls) (hd : decode y.2.1 pc = .ok (.anewarray k, n)) (hs : vm_okS cn y pc (n, .anewarray k, a, b, c, v) = true) (ih : ∀ (kc ks : Nat) (lv : vm_L) (st : List Value) (h : vm_H), vm_sx (vm_env l O f9) y Q r kc ks (pc + n) lv st h → vm_T (vm_env l O f9) y kc ks (pc + n) lv st h Q) (hx : vm_sx (vm_env l O f9) y Q ((n, .anewarray k, a, b, c, v) :: r) kc ks pc lv st h) : vm_T (vm_env l O f9) y kc ks pc lv st h Q := by
  have h2 : n = 3 ∧ (cn, k, a) ∈ van_t := by simpa [vm_okS] using hs
  obtain ⟨rfl, h2⟩ := h2
  obtain ⟨w1, w2, w3⟩ := van_ok _ h2
  have hx : vx_newa (.object (vm_cn a)) (.inr (.inr (.inr (.inr (fun _ => none))))) st h kc ks (fun kc ks st h => vm_sx (vm_env l O f9) y Q r kc ks (pc + 3) lv st h) := hx
  unfold vx_newa at hx
  split at hx
  · obtain ⟨N, rfl, h2, h3, h4, h5, hx⟩ := hx
    exact vm_r_newQ hd w3 (by rw [← hcn]; exact w1) w2 h2 h3 h4 h5 (ih _ _ _ _ _ hx)
  · exact hx.elim
theorem vg_multianewarray {k d : Nat} (hcn : vm_cn cn = y.1.cls) (hd : decode y.2.1 pc = .ok (.multianewarray k d, n)) (hs : vm_okS cn y pc (n, .multianewarray k d, a, b, c, v) = true) (ih : ∀ (kc ks : Nat) (lv : vm_L) (st : List Value) (h : vm_H), vm_sx (vm_env l O f9) y Q r kc ks (pc + n) lv st h → vm_T (vm_env l O f9) y kc ks (pc + n) lv st h Q) (hx : vm_sx (vm_env l O f9) y Q ((n, .multianewarray k d, a, b, c, v) :: r) kc ks pc lv st h) : vm_T (vm_env l O f9) y kc ks pc lv st h Q := by
  have h2 : n = 4 ∧ d = 2 ∧ (cn, k, a) ∈ vma_t ∧ a < 2 := by simpa [vm_okS] using hs
  obtain ⟨rfl, rfl, h2, h3⟩ := h2
  have w1 := vma_ok _ h2
  rcases (show a = 0 ∨ a = 1 by omega) with rfl | rfl
  · have hx : vx_multi .int (.inl (fun _ => 0)) st h kc ks (fun kc ks st h => vm_sx (vm_env l O f9) y Q r kc ks (pc + 4) lv st h) := hx
    unfold vx_multi at hx
    split at hx
    · obtain ⟨N, M, rfl, rfl, h2, h3, h4, h5, h6, hx⟩ := hx
      exact vm_r_multiI hd vt_int vt_aint (by rw [← hcn]; exact w1) vw_overI vw_acI h2 h3 h4 h5 h6 (ih _ _ _ _ _ hx)
    · exact hx.elim
  · have hx : vx_multi .long (.inr (.inl (fun _ => 0))) st h kc ks (fun kc ks st h => vm_sx (vm_env l O f9) y Q r kc ks (pc + 4) lv st h) := hx
    unfold vx_multi at hx
    split at hx
    · obtain ⟨N, M, rfl, rfl, h2, h3, h4, h5, h6, hx⟩ := hx
      exact vm_r_multiJ hd vt_long vt_along (by rw [← hcn]; exact w1) vw_overJ vw_acJ h2 h3 h4 h5 h6 (ih _ _ _ _ _ hx)
    · exact hx.elim
theorem vg_new {k : Nat} (hcn : vm_cn cn = y.1.cls) (hd : decode y.2.1 pc = .ok (.new k, n)) (hs : vm_okS cn y pc (n, .new k, a, b, c, v) = true) (ih : ∀ (kc ks : Nat) (lv : vm_L) (st : List Value) (h : vm_H), vm_sx (vm_env l O f9) y Q r kc ks (pc + n) lv st h → vm_T (vm_env l O f9) y kc ks (pc + n) lv st h Q) (hx : vm_sx (vm_env l O f9) y Q ((n, .new k, a, b, c, v) :: r) kc ks pc lv st h) : vm_T (vm_env l O f9) y kc ks pc lv st h Q := by
  have h2 : n = 3 ∧ (cn, k, a) ∈ vnw_t := by simpa [vm_okS] using hs
  obtain ⟨rfl, h2⟩ := h2
  obtain ⟨h3, h4, h5, hx⟩ := (show vx_new a h kc ks st (fun kc ks st h => vm_sx (vm_env l O f9) y Q r kc ks (pc + 3) lv st h) from hx)
  exact vm_r_new hd (hcn ▸ vnw_ok _ h2) h3 h4 h5 (ih _ _ _ _ _ hx)
theorem vm_td {st : List Value} {m : Nat} (hm : m ≤ st.length) : (st.take m).reverse.reverse ++ st.drop m = st ∧ (st.take m).reverse.length = m := by
  rw [List.reverse_reverse, List.take_append_drop, List.length_reverse, List.length_take]
  exact ⟨rfl, by omega⟩
theorem vm_rkk {y z : vm_M} (q : vm_rk y z = true) : z.2.2.2.2.1 + 1 ≤ y.2.2.2.2.1 ∧ 8 + (z.2.2.1 + 11) + z.2.2.2.2.2 ≤ y.2.2.2.2.2 := by
  simpa [vm_rk] using q
theorem vg_invokestatic {k : Nat} (hcn : vm_cn cn = y.1.cls) (hd : decode y.2.1 pc = .ok (.invokestatic k, n)) (hs : vm_okS cn y pc (n, .invokestatic k, a, b, c, v) = true) (ih : ∀ (kc ks : Nat) (lv : vm_L) (st : List Value) (h : vm_H), vm_sx (vm_env l O f9) y Q r kc ks (pc + n) lv st h → vm_T (vm_env l O f9) y kc ks (pc + n) lv st h Q) (hx : vm_sx (vm_env l O f9) y Q ((n, .invokestatic k, a, b, c, v) :: r) kc ks pc lv st h) : vm_T (vm_env l O f9) y kc ks pc lv st h Q := by
  unfold vm_okS at hs
  simp only [Bool.and_eq_true, beq_iff_eq] at hs
  obtain ⟨rfl, hs⟩ := hs
  have hx : vx_99 a (vx_copy c st h (fun st h => vm_sx (vm_env l O f9) y Q r kc ks (pc + 3) lv st h)) (vx_call (vm_env l O f9) (vm_mt a) b st h kc ks (fun kc ks st h => vm_sx (vm_env l O f9) y Q r kc ks (pc + 3) lv st h)) := hx
  unfold vx_99 at hx
  cases h99 : Nat.beq a 9999 with
  | true =>
    rw [h99] at hx hs
    simp only [Bool.and_eq_true, decide_eq_true_eq] at hs
    obtain ⟨w1, w2, w3⟩ := hs
    have hA := vac_ok (l := l) (O := O) (f9 := f9) _ w1
    rw [show vm_cn (cn, k).1 = y.1.cls from hcn] at hA
    have hx : vx_copy c st h (fun st h => vm_sx (vm_env l O f9) y Q r kc ks (pc + 3) lv st h) := hx
    unfold vx_copy at hx
    split at hx
    · split at hx
      · next e =>
        have e := Nat.le_of_ble_eq_true e
        obtain ⟨N, D, S, n0, n1, rfl, rfl, rfl, h1, h2, h5, hx⟩ := hx
        split at hx
        · obtain ⟨f, g, g1, g2, hx⟩ := hx
          exact vm_r_copyL hd hA vt_long g1 g2 h5 h1 h2 w2 (by show _ + (7 + 11) ≤ _; omega) (ih _ _ _ _ _ hx)
        · obtain ⟨f, g, g1, g2, hx⟩ := hx
          exact vm_r_copyI (ty := .byte) hd hA vt_byte rfl g1 g2 h5 h1 h2 w2 (by show _ + (7 + 11) ≤ _; omega) (ih _ _ _ _ _ hx)
        · obtain ⟨f, g, g1, g2, hx⟩ := hx
          exact vm_r_copyI (ty := .int) hd hA vt_int rfl g1 g2 h5 h1 h2 w2 (by show _ + (7 + 11) ≤ _; omega) (ih _ _ _ _ _ hx)
      · exact hx.elim
    · exact hx.elim
  | false =>
    rw [h99] at hx hs
    simp only [Bool.and_eq_true, Bool.or_eq_true, decide_eq_true_eq] at hs
    obtain ⟨w1, w2⟩ := hs
    obtain ⟨k1, k2⟩ := vm_rkk w2
    have hx : vx_call (vm_env l O f9) (vm_mt a) b st h kc ks (fun kc ks st h => vm_sx (vm_env l O f9) y Q r kc ks (pc + 3) lv st h) := hx
    unfold vx_call at hx
    split at hx
    · next e =>
      rw [Bool.and_eq_true] at e
      obtain ⟨e1, e2⟩ := vm_td (Nat.le_of_ble_eq_true e.1)
      obtain ⟨kc', ks', Q', hM, q1, q2, hx⟩ := hx
      rw [← e1]
      have e3 := Nat.le_of_ble_eq_true e.2
      rcases w1 with w1 | w1
      · obtain ⟨⟨c1, c2⟩, c3⟩ := vct_ok _ w1
        rw [show vm_cn (cn, k, a, 0, 0, b).1 = y.1.cls from hcn] at c1
        exact vm_r_callS hd (vm_Cof (by rw [e2]; exact c3) k1 k2) c1 c2 hM e3 q1 q2 (fun r9 h9 q9 => ih _ _ _ _ _ (hx r9 h9 q9))
      · obtain ⟨⟨host, c1, c2⟩, c3⟩ := vct_ok _ w1
        rw [show vm_cn (cn, k, a, 0, 1, b).1 = y.1.cls from hcn] at c1
        exact vm_r_callSN hd (vm_Cof (by rw [e2]; exact c3) k1 k2) c1 c2 hM e3 q1 q2 (fun r9 h9 q9 => ih _ _ _ _ _ (hx r9 h9 q9))
    · exact hx.elim
theorem vm_tr {st : List Value} {b o : Nat} {t : List Value} (hd : st.drop b = .ref o :: t) : (st.take (b + 1)).reverse = .ref o :: (st.take b).reverse ∧ (st.take b).reverse.reverse ++ .ref o :: st.drop (b + 1) = st ∧ (st.take b).reverse.length = b := by
  have hl : b < st.length := by
    rcases Nat.lt_or_ge b st.length with q | q
    · exact q
    · rw [List.drop_eq_nil_of_le q] at hd; cases hd
  have h1 : st[b]? = some (.ref o) := by
    have := congrArg List.head? hd
    rw [List.head?_drop] at this
    exact this
  refine ⟨?_, ?_, ?_⟩
  · rw [List.take_add_one, h1, List.reverse_append]; rfl
  · rw [List.reverse_reverse]
    have : st.drop b = .ref o :: st.drop (b + 1) := by
      rw [List.drop_eq_getElem_cons hl]
      congr 1
      exact Option.some.inj ((List.getElem?_eq_getElem hl).symm.trans h1)
    rw [← this, List.take_append_drop]
  · rw [List.length_reverse, List.length_take]; omega
theorem vg_invokespecial {k : Nat} (hcn : vm_cn cn = y.1.cls) (hd : decode y.2.1 pc = .ok (.invokespecial k, n)) (hs : vm_okS cn y pc (n, .invokespecial k, a, b, c, v) = true) (ih : ∀ (kc ks : Nat) (lv : vm_L) (st : List Value) (h : vm_H), vm_sx (vm_env l O f9) y Q r kc ks (pc + n) lv st h → vm_T (vm_env l O f9) y kc ks (pc + n) lv st h Q) (hx : vm_sx (vm_env l O f9) y Q ((n, .invokespecial k, a, b, c, v) :: r) kc ks pc lv st h) : vm_T (vm_env l O f9) y kc ks pc lv st h Q := by
  unfold vm_okS at hs
  simp only [Bool.and_eq_true, beq_iff_eq] at hs
  obtain ⟨rfl, hs⟩ := hs
  have hx : vx_99 a (vx_oi st (fun st => vm_sx (vm_env l O f9) y Q r kc ks (pc + 3) lv st h)) (vx_rcs b st (vx_call (vm_env l O f9) (vm_mt a) (b + 1) st h kc ks (fun kc ks st h => vm_sx (vm_env l O f9) y Q r kc ks (pc + 3) lv st h))) := hx
  unfold vx_99 at hx
  cases h99 : Nat.beq a 9999 with
  | true =>
    rw [h99] at hx hs
    simp only [Bool.and_eq_true, decide_eq_true_eq] at hs
    obtain ⟨w1, w2, w3⟩ := hs
    have hA := voi_ok _ w1
    rw [show vm_cn (cn, k).1 = y.1.cls from hcn] at hA
    have hx : vx_oi st (fun st => vm_sx (vm_env l O f9) y Q r kc ks (pc + 3) lv st h) := hx
    unfold vx_oi at hx
    split at hx
    · split at hx
      · next e =>
        have e := Nat.le_of_ble_eq_true e
        exact vm_r_objInit hd hA voi_w.1 voi_w.2 w2 (by omega) (ih _ _ _ _ _ hx)
      · exact hx.elim
    · exact hx.elim
  | false =>
    rw [h99] at hx hs
    simp only [Bool.and_eq_true, Bool.or_eq_true, decide_eq_true_eq] at hs
    obtain ⟨w1, w2⟩ := hs
    obtain ⟨k1, k2⟩ := vm_rkk w2
    have hx : vx_rcs b st (vx_call (vm_env l O f9) (vm_mt a) (b + 1) st h kc ks (fun kc ks st h => vm_sx (vm_env l O f9) y Q r kc ks (pc + 3) lv st h)) := hx
    unfold vx_rcs at hx
    split at hx
    · next o9 t9 hdr =>
      obtain ⟨t1, t2, t3⟩ := vm_tr hdr
      unfold vx_call at hx
      split at hx
      · next e =>
        rw [Bool.and_eq_true] at e
        obtain ⟨kc', ks', Q', hM, q1, q2, hx⟩ := hx
        rw [t1] at hM
        rw [← t2]
        have e3 := Nat.le_of_ble_eq_true e.2
        rcases w1 with w1 | w1
        · obtain ⟨⟨c1, c2, c4, c5⟩, c3⟩ := vct_ok _ w1
          rw [show vm_cn (cn, k, a, 0, 2, b).1 = y.1.cls from hcn] at c1
          exact vm_r_callI hd (vm_Cof (by rw [t3]; exact c3) k1 k2) c1 c2 c4 c5 hM e3 q1 q2 (fun r9 h9 q9 => ih _ _ _ _ _ (hx r9 h9 q9))
        · obtain ⟨⟨host, c1, c2, c4, c5⟩, c3⟩ := vct_ok _ w1
          rw [show vm_cn (cn, k, a, 0, 3, b).1 = y.1.cls from hcn] at c1
          exact vm_r_callIN hd (vm_Cof (by rw [t3]; exact c3) k1 k2) c1 c2 c4 c5 hM e3 q1 q2 (fun r9 h9 q9 => ih _ _ _ _ _ (hx r9 h9 q9))
      · exact hx.elim
    · exact hx.elim
theorem vg_invokevirtual {k : Nat} (hcn : vm_cn cn = y.1.cls) (hd : decode y.2.1 pc = .ok (.invokevirtual k, n)) (hs : vm_okS cn y pc (n, .invokevirtual k, a, b, c, v) = true) (ih : ∀ (kc ks : Nat) (lv : vm_L) (st : List Value) (h : vm_H), vm_sx (vm_env l O f9) y Q r kc ks (pc + n) lv st h → vm_T (vm_env l O f9) y kc ks (pc + n) lv st h Q) (hx : vm_sx (vm_env l O f9) y Q ((n, .invokevirtual k, a, b, c, v) :: r) kc ks pc lv st h) : vm_T (vm_env l O f9) y kc ks pc lv st h Q := by
  unfold vm_okS at hs
  simp only [Bool.and_eq_true, Bool.or_eq_true, beq_iff_eq, decide_eq_true_eq] at hs
  obtain ⟨rfl, w1, w2⟩ := hs
  obtain ⟨k1, k2⟩ := vm_rkk w2
  have hx : vx_rcv (if c = 600 then 500 else c) b st h (vx_call (vm_env l O f9) (vm_mt a) (b + 1) st h kc ks (fun kc ks st h => vm_sx (vm_env l O f9) y Q r kc ks (pc + 3) lv st h)) := hx
  unfold vx_rcv at hx
  split at hx
  · next o9 t9 hdr =>
    obtain ⟨t1, t2, t3⟩ := vm_tr hdr
    obtain ⟨fs, hfs, hx⟩ := hx
    unfold vx_call at hx
    split at hx
    · next e =>
      rw [Bool.and_eq_true] at e
      obtain ⟨kc', ks', Q', hM, q1, q2, hx⟩ := hx
      rw [t1] at hM
      rw [← t2]
      have e3 := Nat.le_of_ble_eq_true e.2
      rcases w1 with ⟨w1, hc6⟩ | ⟨w1, hc6⟩ | ⟨w1, hc6⟩
      · rw [if_neg hc6] at hfs
        obtain ⟨⟨c1, c2, c4, rr, c5, c6⟩, c3⟩ := vct_ok _ w1
        rw [show vm_cn (cn, k, a, c, 4, b).1 = y.1.cls from hcn] at c1
        exact vm_r_callV hd (vm_Cof (by rw [t3]; exact c3) k1 k2) c1 c2 c6 hfs c4 c5 hM e3 q1 q2 (fun r9 h9 q9 => ih _ _ _ _ _ (hx r9 h9 q9))
      · rw [if_neg hc6] at hfs
        obtain ⟨⟨x9, ow, b0, m0, r0, rr, d1, d2, d3, d4, d5, d6, d7, d8, d9, d10⟩, c3⟩ := vct_ok _ w1
        rw [show vm_cn (cn, k, a, c, 5, b).1 = y.1.cls from hcn] at d1
        exact vm_r_callU hd (vm_Cof (by rw [t3]; exact c3) k1 k2) d1 d2 d3 d4 d5 d6 d7 d10 hfs d8 d9 hM e3 q1 q2 (fun r9 h9 q9 => ih _ _ _ _ _ (hx r9 h9 q9))
      · rw [if_pos hc6] at hfs
        obtain ⟨⟨c1, c2, c6⟩, c3⟩ := vct_ok _ w1
        rw [show vm_cn (cn, k, a, c, 6, b).1 = y.1.cls from hcn] at c1
        exact vm_r_callVS hd (vm_Cof (by rw [t3]; exact c3) k1 k2) c1 c2 c6 vt_len hfs hM e3 q1 q2 (fun r9 h9 q9 => ih _ _ _ _ _ (hx r9 h9 q9))
    · exact hx.elim
  · exact hx.elim
theorem vg_ireturn  (hcn : vm_cn cn = y.1.cls) (hd : decode y.2.1 pc = .ok (.ireturn, n)) (hs : vm_okS cn y pc (n, .ireturn, a, b, c, v) = true) (ih : ∀ (kc ks : Nat) (lv : vm_L) (st : List Value) (h : vm_H), vm_sx (vm_env l O f9) y Q r kc ks (pc + n) lv st h → vm_T (vm_env l O f9) y kc ks (pc + n) lv st h Q) (hx : vm_sx (vm_env l O f9) y Q ((n, .ireturn, a, b, c, v) :: r) kc ks pc lv st h) : vm_T (vm_env l O f9) y kc ks pc lv st h Q := by
  have hn : n = 1 := by simpa [vm_okS] using hs
  subst hn
  have hx : vx_ret y.2.2.2.1 st h Q := hx
  unfold vx_ret at hx
  split at hx
  · split at hx
    · next e => exact vm_r_iret (st := []) hd e hx
    · next e => exact vm_r_zret (st := []) hx.1 hd e hx.2
    · exact hx.elim
  · exact hx.elim
theorem vg_lreturn  (hcn : vm_cn cn = y.1.cls) (hd : decode y.2.1 pc = .ok (.lreturn, n)) (hs : vm_okS cn y pc (n, .lreturn, a, b, c, v) = true) (ih : ∀ (kc ks : Nat) (lv : vm_L) (st : List Value) (h : vm_H), vm_sx (vm_env l O f9) y Q r kc ks (pc + n) lv st h → vm_T (vm_env l O f9) y kc ks (pc + n) lv st h Q) (hx : vm_sx (vm_env l O f9) y Q ((n, .lreturn, a, b, c, v) :: r) kc ks pc lv st h) : vm_T (vm_env l O f9) y kc ks pc lv st h Q := by
  have h2 : n = 1 ∧ y.2.2.2.1 = some .long := by simpa [vm_okS] using hs
  obtain ⟨rfl, h2⟩ := h2
  have hx : vx_lret st h Q := hx
  unfold vx_lret at hx
  split at hx
  · exact vm_r_lret (st := []) hd h2 hx
  · exact hx.elim
theorem vg_areturn  (hcn : vm_cn cn = y.1.cls) (hd : decode y.2.1 pc = .ok (.areturn, n)) (hs : vm_okS cn y pc (n, .areturn, a, b, c, v) = true) (ih : ∀ (kc ks : Nat) (lv : vm_L) (st : List Value) (h : vm_H), vm_sx (vm_env l O f9) y Q r kc ks (pc + n) lv st h → vm_T (vm_env l O f9) y kc ks (pc + n) lv st h Q) (hx : vm_sx (vm_env l O f9) y Q ((n, .areturn, a, b, c, v) :: r) kc ks pc lv st h) : vm_T (vm_env l O f9) y kc ks pc lv st h Q := by
  unfold vm_okS at hs
  simp only [Bool.and_eq_true, beq_iff_eq] at hs
  obtain ⟨rfl, hs⟩ := hs
  have hx : vx_aret st h Q := hx
  unfold vx_aret at hx
  split at hs
  · next e => 
    split at hx
    · exact vm_r_aret (st := []) (Or.inl ⟨_, rfl⟩) hd e hx
    · exact vm_r_aretN (st := []) (Or.inl ⟨_, rfl⟩) hd e hx
    · exact hx.elim
  · next e => 
    split at hx
    · exact vm_r_aret (st := []) (Or.inr ⟨_, rfl⟩) hd e hx
    · exact vm_r_aretN (st := []) (Or.inr ⟨_, rfl⟩) hd e hx
    · exact hx.elim
  · cases hs
theorem vg_return  (hcn : vm_cn cn = y.1.cls) (hd : decode y.2.1 pc = .ok (.return_, n)) (hs : vm_okS cn y pc (n, .return_, a, b, c, v) = true) (ih : ∀ (kc ks : Nat) (lv : vm_L) (st : List Value) (h : vm_H), vm_sx (vm_env l O f9) y Q r kc ks (pc + n) lv st h → vm_T (vm_env l O f9) y kc ks (pc + n) lv st h Q) (hx : vm_sx (vm_env l O f9) y Q ((n, .return_, a, b, c, v) :: r) kc ks pc lv st h) : vm_T (vm_env l O f9) y kc ks pc lv st h Q := by
  have h2 : n = 1 ∧ y.2.2.2.1 = none := by simpa [vm_okS] using hs
  obtain ⟨rfl, h2⟩ := h2
  have hx : vx_vret st h Q := hx
  unfold vx_vret at hx
  split at hx
  · exact vm_r_vret (st := []) hd h2 hx
  · exact hx.elim
end
/-- WHAT vm_sx SAYS OF A BLOCK IS ENOUGH -/
theorem vm_go {l : Launch} {O : Nat → vm_Ob} {f9 : Value} {y : vm_M} {Q : Option Value → vm_H → Prop} {cn : Nat} (hcn : vm_cn cn = y.1.cls) : ∀ (blk : List vm_J) {kc ks pc : Nat} {lv : vm_L} {st : List Value} {h : vm_H}, vm_okB cn y pc blk = true → vm_sx (vm_env l O f9) y Q blk kc ks pc lv st h → vm_T (vm_env l O f9) y kc ks pc lv st h Q := by
  intro blk
  induction blk with
  | nil => intro kc ks pc lv st h _ hx; exact hx
  | cons j r ih =>
    intro kc ks pc lv st h hok hx
    obtain ⟨n, i, a, b, c, v⟩ := j
    unfold vm_okB at hok
    rw [Bool.and_eq_true, Bool.and_eq_true, decide_eq_true_eq] at hok
    obtain ⟨hd, hs, hr⟩ := hok
    have ih9 : ∀ (kc ks : Nat) (lv : vm_L) (st : List Value) (h : vm_H), vm_sx (vm_env l O f9) y Q r kc ks (pc + n) lv st h → vm_T (vm_env l O f9) y kc ks (pc + n) lv st h Q := fun kc ks lv st h hx => ih hr hx
    cases i with
    | aconst_null => exact vg_aconstnull hcn hd hs ih9 hx
    | iconst k => exact vg_iconst hcn hd hs ih9 hx
    | bipush k => exact vg_bipush hcn hd hs ih9 hx
    | sipush k => exact vg_sipush hcn hd hs ih9 hx
    | lconst k => exact vg_lconst hcn hd hs ih9 hx
    | ldc k => exact vg_ldc hcn hd hs ih9 hx
    | ldc_w k => exact vg_ldcw hcn hd hs ih9 hx
    | ldc2_w k => exact vg_ldc2w hcn hd hs ih9 hx
    | getstatic k => exact vg_getstatic hcn hd hs ih9 hx
    | iload_n k => exact vg_iloadn hcn hd hs ih9 hx
    | iload k => exact vg_iload hcn hd hs ih9 hx
    | lload_n k => exact vg_lloadn hcn hd hs ih9 hx
    | lload k => exact vg_lload hcn hd hs ih9 hx
    | aload_n k => exact vg_aloadn hcn hd hs ih9 hx
    | aload k => exact vg_aload hcn hd hs ih9 hx
    | istore_n k => exact vg_istoren hcn hd hs ih9 hx
    | istore k => exact vg_istore hcn hd hs ih9 hx
    | lstore_n k => exact vg_lstoren hcn hd hs ih9 hx
    | lstore k => exact vg_lstore hcn hd hs ih9 hx
    | astore_n k => exact vg_astoren hcn hd hs ih9 hx
    | astore k => exact vg_astore hcn hd hs ih9 hx
    | iinc k z => exact vg_iinc hcn hd hs ih9 hx
    | iadd => exact vg_iadd hcn hd hs ih9 hx
    | isub => exact vg_isub hcn hd hs ih9 hx
    | imul => exact vg_imul hcn hd hs ih9 hx
    | iand => exact vg_iand hcn hd hs ih9 hx
    | ior => exact vg_ior hcn hd hs ih9 hx
    | ixor => exact vg_ixor hcn hd hs ih9 hx
    | ishl => exact vg_ishl hcn hd hs ih9 hx
    | ishr => exact vg_ishr hcn hd hs ih9 hx
    | iushr => exact vg_iushr hcn hd hs ih9 hx
    | ladd => exact vg_ladd hcn hd hs ih9 hx
    | lsub => exact vg_lsub hcn hd hs ih9 hx
    | lmul => exact vg_lmul hcn hd hs ih9 hx
    | land => exact vg_land hcn hd hs ih9 hx
    | lor => exact vg_lor hcn hd hs ih9 hx
    | lxor => exact vg_lxor hcn hd hs ih9 hx
    | lcmp => exact vg_lcmp hcn hd hs ih9 hx
    | lshl => exact vg_lshl hcn hd hs ih9 hx
    | lshr => exact vg_lshr hcn hd hs ih9 hx
    | lushr => exact vg_lushr hcn hd hs ih9 hx
    | idiv => exact vg_idiv hcn hd hs ih9 hx
    | irem => exact vg_irem hcn hd hs ih9 hx
    | ldiv => exact vg_ldiv hcn hd hs ih9 hx
    | lrem => exact vg_lrem hcn hd hs ih9 hx
    | ineg => exact vg_ineg hcn hd hs ih9 hx
    | lneg => exact vg_lneg hcn hd hs ih9 hx
    | i2l => exact vg_i2l hcn hd hs ih9 hx
    | l2i => exact vg_l2i hcn hd hs ih9 hx
    | i2b => exact vg_i2b hcn hd hs ih9 hx
    | i2c => exact vg_i2c hcn hd hs ih9 hx
    | dup => exact vg_dup hcn hd hs ih9 hx
    | pop => exact vg_pop hcn hd hs ih9 hx
    | dup2 => exact vg_dup2 hcn hd hs ih9 hx
    | ifCond cd off => exact vg_ifCond hcn hd hs ih9 hx
    | if_icmp cd off => exact vg_ificmp hcn hd hs ih9 hx
    | ifnull off => exact vg_ifnull hcn hd hs ih9 hx
    | ifnonnull off => exact vg_ifnonnull hcn hd hs ih9 hx
    | if_acmp cd off => exact vg_ifacmp hcn hd hs ih9 hx
    | goto off => exact vg_goto hcn hd hs ih9 hx
    | tableswitch d lo hi offs => exact vg_tableswitch hcn hd hs ih9 hx
    | getfield k => exact vg_getfield hcn hd hs ih9 hx
    | putfield k => exact vg_putfield hcn hd hs ih9 hx
    | iaload => exact vg_iaload hcn hd hs ih9 hx
    | baload => exact vg_baload hcn hd hs ih9 hx
    | laload => exact vg_laload hcn hd hs ih9 hx
    | aaload => exact vg_aaload hcn hd hs ih9 hx
    | iastore => exact vg_iastore hcn hd hs ih9 hx
    | bastore => exact vg_bastore hcn hd hs ih9 hx
    | lastore => exact vg_lastore hcn hd hs ih9 hx
    | aastore => exact vg_aastore hcn hd hs ih9 hx
    | arraylength => exact vg_arraylength hcn hd hs ih9 hx
    | newarray at9 => exact vg_newarray hcn hd hs ih9 hx
    | anewarray k => exact vg_anewarray hcn hd hs ih9 hx
    | multianewarray k d => exact vg_multianewarray hcn hd hs ih9 hx
    | new k => exact vg_new hcn hd hs ih9 hx
    | invokestatic k => exact vg_invokestatic hcn hd hs ih9 hx
    | invokespecial k => exact vg_invokespecial hcn hd hs ih9 hx
    | invokevirtual k => exact vg_invokevirtual hcn hd hs ih9 hx
    | ireturn => exact vg_ireturn hcn hd hs ih9 hx
    | lreturn => exact vg_lreturn hcn hd hs ih9 hx
    | areturn => exact vg_areturn hcn hd hs ih9 hx
    | return_ => exact vg_return hcn hd hs ih9 hx
    | _ => exact (show False from hx).elim
