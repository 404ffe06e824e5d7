/-! walking over a block of instructions by computation: vm_sx says what must hold, vm_go that it is enough -/
theorem vm_aoa {t : FieldType} {A : Array Value} {u U : State} (hvm : u.vm.Alike U.vm) (h : (Jvm.Cond.arrayOver (.array t)).before A u = true) : (Jvm.Cond.arrayOver (.array t)).before #[] U = true := by
  obtain ⟨comp, c, k, h1, h2, h3, h4, h5⟩ := arrayOverA_spec h
  obtain ⟨k', hk', he⟩ := hvm.2.2 _ _ h3
  have hi : (U.vm.classes.findIdx? fun (x : Class) => match x.kind with | .array component _ => component == comp | _ => false) = some c := by
    rw [hvm.findIdx?_eq _ (fun _ => rfl)]
    exact h2
  have hkind : k'.kind = .array comp (.array t) := by rw [he]; exact h4
  have f1 : U.vm.findClass (FieldType.array t).toString = some comp := by rw [hvm.findClass]; exact h1
  have f2 : U.vm.findClass ("[" ++ (FieldType.array t).toString) = some c := by rw [hvm.findClass]; exact h5
  unfold Cond.before Cond.holds
  simp only [Cond.value]
  rw [f1, Option.bind_some]
  refine (congrArg (fun o : Option Nat => (o.bind (fun c => (U.vm.classes[c]?).map fun (k : Class) => match k.kind with | .array _ ty => decide (ty = FieldType.array t) && decide (U.vm.findClass ("[" ++ (FieldType.array t).toString) = some c) | _ => false) == some true)) hi).trans ?_
  simp [hk', hkind, f2]
theorem vm_ww {l : Launch} {O : Nat → vm_Ob} {f9 : Value} : vm_Ww (vm_env l O f9) := by
  intro w hw args a' s U hW h
  have g : vm_gw w = true := (List.mem_filter.mp hw).2
  by_cases hg : goodWord w = true
  · exact word_at hW (good_of_word hg) h
  · unfold vm_gw at g
    rw [show goodWord w = false by simpa using hg, Bool.false_or] at g
    split at g
    · exact va_Nw.use rfl (va_Nw.warmF hW (va_Nw.of rfl h))
    · exact va_Nw.use rfl (va_Nw.warmM hW (va_Nw.of rfl h))
    · next ty =>
      cases ty with
      | object C => exact va_AO.use (va_AO.moved hW.alike (va_AO.of h))
      | array t => exact vm_aoa hW.alike h
      | _ => exact absurd h (by simp [Cond.before, Cond.holds, Cond.value])
    · exact va_Nw.use rfl (va_Nw.warmC hW (va_Nw.of rfl h))
    · cases g
theorem vm_Cof {l : Launch} {O : Nat → vm_Ob} {f9 : Value} {y z : vm_M} {n : Nat} (hz : vm_Zf z n) (h1 : z.2.2.2.2.1 + 1 ≤ y.2.2.2.2.1) (h2 : 8 + (z.2.2.1 + 11) + z.2.2.2.2.2 ≤ y.2.2.2.2.2) : vm_C (vm_env l O f9) y z n := ⟨vm_ww, hz.1, hz.2.1, hz.2.2.1, hz.2.2.2, h1, h2⟩
/-- an instruction of a block: its length, it, three numbers, a value -/
abbrev vm_J : Type := Nat × Instr × Nat × Nat × Nat × Value
def vx_ii (f : Int32 → Int32 → Value) (st : List Value) (K : List Value → Prop) : Prop := match st with
  | .int z :: .int x :: r => K (f x z :: r)
  | _ => False
def vx_ll (f : Int64 → Int64 → Value) (st : List Value) (K : List Value → Prop) : Prop := match st with
  | .long z :: .long x :: r => K (f x z :: r)
  | _ => False
def vx_li (f : Int64 → Int32 → Value) (st : List Value) (K : List Value → Prop) : Prop := match st with
  | .int z :: .long x :: r => K (f x z :: r)
  | _ => False
def vx_i (f : Int32 → Value) (st : List Value) (K : List Value → Prop) : Prop := match st with
  | .int x :: r => K (f x :: r)
  | _ => False
def vx_l (f : Int64 → Value) (st : List Value) (K : List Value → Prop) : Prop := match st with
  | .long x :: r => K (f x :: r)
  | _ => False
def vx_idv (f : Int32 → Int32 → Value) (st : List Value) (K : List Value → Prop) : Prop := match st with
  | .int z :: .int x :: r => (¬ z = 0) ∧ K (f x z :: r)
  | _ => False
def vx_ldv (f : Int64 → Int64 → Value) (st : List Value) (K : List Value → Prop) : Prop := match st with
  | .long z :: .long x :: r => (¬ z = 0) ∧ K (f x z :: r)
  | _ => False
def vx_ldI (o : Option Value) (K : Value → Prop) : Prop := match o with
  | some (.int x) => K (.int x)
  | _ => False
def vx_ldL (o : Option Value) (K : Value → Prop) : Prop := match o with
  | some (.long x) => K (.long x)
  | _ => False
def vx_ldA (o : Option Value) (K : Value → Prop) : Prop := match o with
  | some (.ref x) => K (.ref x)
  | some .null => K .null
  | _ => False
def vx_stI (st : List Value) (K : Value → List Value → Prop) : Prop := match st with
  | .int x :: r => K (.int x) r
  | _ => False
def vx_stL (st : List Value) (K : Value → List Value → Prop) : Prop := match st with
  | .long x :: r => K (.long x) r
  | _ => False
def vx_stA (st : List Value) (K : Value → List Value → Prop) : Prop := match st with
  | .ref x :: r => K (.ref x) r
  | .null :: r => K .null r
  | _ => False
def vx_inc (o : Option Value) (v : Value) (K : Value → Prop) : Prop := match o, v with
  | some (.int x), .int z => K (.int (x + z))
  | _, _ => False
def vx_dup (st : List Value) (K : List Value → Prop) : Prop := match st with
  | w :: r => match Nat.beq w.category 1 with
    | true => K (w :: w :: r)
    | false => False
  | _ => False
def vx_pop (st : List Value) (K : List Value → Prop) : Prop := match st with
  | w :: r => match Nat.beq w.category 1 with
    | true => K r
    | false => False
  | _ => False
def vx_dup2 (st : List Value) (K : List Value → Prop) : Prop := match st with
  | w :: r => match Nat.beq w.category 2 with
    | true => K (w :: w :: r)
    | false => match r with
      | u :: r2 => match Nat.beq w.category 1 && Nat.beq u.category 1 with
        | true => K (w :: u :: w :: u :: r2)
        | false => False
      | [] => False
  | _ => False
def vx_if (c : Jvm.ClassFile.Cond) (st : List Value) (T F : List Value → Prop) : Prop := match st with
  | .int x :: r => match c with
    | .eq => (x = 0 → T r) ∧ (¬ x = 0 → F r)
    | .ne => (¬ x = 0 → T r) ∧ (x = 0 → F r)
    | .lt => (x < 0 → T r) ∧ (¬ x < 0 → F r)
    | .ge => (0 ≤ x → T r) ∧ (¬ 0 ≤ x → F r)
    | .gt => (0 < x → T r) ∧ (¬ 0 < x → F r)
    | .le => (x ≤ 0 → T r) ∧ (¬ x ≤ 0 → F r)
  | _ => False
def vx_if2 (c : Jvm.ClassFile.Cond) (st : List Value) (T F : List Value → Prop) : Prop := match st with
  | .int z :: .int x :: r => match c with
    | .eq => (x = z → T r) ∧ (¬ x = z → F r)
    | .ne => (¬ x = z → T r) ∧ (x = z → F r)
    | .lt => (x < z → T r) ∧ (¬ x < z → F r)
    | .ge => (z ≤ x → T r) ∧ (¬ z ≤ x → F r)
    | .gt => (z < x → T r) ∧ (¬ z < x → F r)
    | .le => (x ≤ z → T r) ∧ (¬ x ≤ z → F r)
  | _ => False
def vx_nul (st : List Value) (N R : List Value → Prop) : Prop := match st with
  | .null :: r => N r
  | .ref _ :: r => R r
  | _ => False
def vx_acmp (st : List Value) (T F : List Value → Prop) : Prop := match st with
  | .ref b :: .ref a :: r => a < 1099511627776 ∧ b < 1099511627776 ∧ (a = b → T r) ∧ (¬ a = b → F r)
  | _ => False
def vx_sw (pc : Nat) (d lo hi : Int) (offs : Array Int) (st : List Value) (K : Nat → List Value → Prop) : Prop := match st with
  | .int x :: r => ∃ t : Nat, (((x.toInt < lo ∨ hi < x.toInt) ∧ (pc : Int) + d = (t : Int)) ∨ (¬ x.toInt < lo ∧ ¬ hi < x.toInt ∧ ∃ off : Int, offs[(x.toInt - lo).toNat]? = some off ∧ (pc : Int) + off = (t : Int))) ∧ K t r
  | _ => False
def vx_get (ci k : Nat) (st : List Value) (h : vm_H) (K : List Value → Prop) : Prop := match st with
  | .ref o :: r => ∃ (fs : List Value) (w : Value), h.2 o = .inr (ci, fs) ∧ fs[k]? = some w ∧ K (w :: r)
  | _ => False
def vx_fit (tc : Nat) (w : Value) : Prop := match tc, w with
  | 0, .int _ => True
  | 1, .long _ => True
  | 2, .int x => x = 0 ∨ x = 1
  | 3, .int x => x.toInt8.toInt32 = x
  | 4, .ref _ => True
  | 4, .null => True
  | _, _ => False
def vx_put (ci k tc : Nat) (st : List Value) (h : vm_H) (K : List Value → vm_H → Prop) : Prop := match st with
  | w :: .ref o :: r => ∃ fs : List Value, h.2 o = .inr (ci, fs) ∧ o < 1099511627776 ∧ k < fs.length ∧ vx_fit tc w ∧ K r (vm_up h o (.inr (ci, fs.set k w)))
  | _ => False
def vx_iald (ty : FieldType) (st : List Value) (h : vm_H) (K : List Value → Prop) : Prop := match st with
  | .int i :: .ref o :: r => ∃ (n : Nat) (f : Nat → Int32), h.2 o = .inl (ty, n, .inl f) ∧ ∃ k : Nat, i = nI k ∧ k < n ∧ (fits ty (.int (f k)) = true → K (.int (f k) :: r))
  | _ => False
def vx_lald (st : List Value) (h : vm_H) (K : List Value → Prop) : Prop := match st with
  | .int i :: .ref o :: r => ∃ (n : Nat) (f : Nat → Int64), h.2 o = .inl (.long, n, .inr (.inl f)) ∧ ∃ k : Nat, i = nI k ∧ k < n ∧ K (.long (f k) :: r)
  | _ => False
def vx_aald (st : List Value) (h : vm_H) (K : List Value → Prop) : Prop := match st with
  | .int i :: .ref o :: r => ∃ (ty : FieldType) (n : Nat) (f : Nat → Option Nat) (w : Value), h.2 o = .inl (ty, n, .inr (.inr (.inr (.inr f)))) ∧ ty ∈ vm_tys ∧ ty.isReference = true ∧ ∃ k : Nat, i = nI k ∧ k < n ∧ va_rf (f k) = w ∧ K (w :: r)
  | _ => False
def vx_iast (ty : FieldType) (st : List Value) (h : vm_H) (K : List Value → vm_H → Prop) : Prop := match st with
  | .int x :: .int i :: .ref o :: r => ∃ (n : Nat) (f : Nat → Int32), h.2 o = .inl (ty, n, .inl f) ∧ o < 1099511627776 ∧ ∃ k : Nat, i = nI k ∧ k < n ∧ K r (vm_up h o (.inl (ty, n, .inl (upd f k (match ty with
    | .byte => x.toInt8.toInt32
    | .boolean => x &&& 1
    | _ => x)))))
  | _ => False
def vx_last (st : List Value) (h : vm_H) (K : List Value → vm_H → Prop) : Prop := match st with
  | .long x :: .int i :: .ref o :: r => ∃ (n : Nat) (f : Nat → Int64), h.2 o = .inl (.long, n, .inr (.inl f)) ∧ o < 1099511627776 ∧ ∃ k : Nat, i = nI k ∧ k < n ∧ K r (vm_up h o (.inl (.long, n, .inr (.inl (vp_updL f k x)))))
  | _ => False
def vx_aast (C : String) (ci : Nat) (st : List Value) (h : vm_H) (K : List Value → vm_H → Prop) : Prop := match st with
  | .ref w :: .int i :: .ref o :: r => ∃ (n : Nat) (f : Nat → Option Nat) (vs : List Value), h.2 o = .inl (.object C, n, .inr (.inr (.inr (.inr f)))) ∧ o < 1099511627776 ∧ h.2 w = .inr (ci, vs) ∧ w < 1099511627776 ∧ ∃ k : Nat, i = nI k ∧ k < n ∧ K r (vm_up h o (.inl (.object C, n, .inr (.inr (.inr (.inr (va_up f k (some w))))))))
  | _ => False
def vx_alen (st : List Value) (h : vm_H) (K : List Value → Prop) : Prop := match st with
  | .ref o :: r => ∃ (ty : FieldType) (x : vp_A), h.2 o = .inl (ty, x) ∧ ty ∈ vm_tys ∧ K (.int (Int32.ofNat x.1) :: r)
  | _ => False
def vx_newa (ty : FieldType) (x : (Nat → Int32) ⊕ (Nat → Int64) ⊕ (Nat → UInt32) ⊕ (Nat → UInt64) ⊕ (Nat → Option Nat)) (st : List Value) (h : vm_H) (kc ks : Nat) (K : Nat → Nat → List Value → vm_H → Prop) : Prop := match st with
  | .int n :: r => ∃ N : Nat, n = Int32.ofNat N ∧ N ≤ 65536 ∧ 1 ≤ kc ∧ N ≤ ks ∧ h.1 + 1 < 1099511627776 ∧ K (kc - 1) (ks - N) (.ref h.1 :: r) (vm_nw h (.inl (ty, N, x)))
  | _ => False
def vx_multi (ty : FieldType) (x : (Nat → Int32) ⊕ (Nat → Int64) ⊕ (Nat → UInt32) ⊕ (Nat → UInt64) ⊕ (Nat → Option Nat)) (st : List Value) (h : vm_H) (kc ks : Nat) (K : Nat → Nat → List Value → vm_H → Prop) : Prop := match st with
  | .int k :: .int n :: r => ∃ N M : Nat, n = Int32.ofNat N ∧ k = Int32.ofNat M ∧ N ≤ 65536 ∧ M ≤ 65536 ∧ 1 + N ≤ kc ∧ N + N * M ≤ ks ∧ h.1 + 1 + N < 1099511627776 ∧ K (kc - (1 + N)) (ks - (N + N * M)) (.ref h.1 :: r) (vm_nm h N (.inl (.array ty, N, .inr (.inr (.inr (.inr (fun j => if j < N then some (h.1 + 1 + j) else none)))))) (.inl (ty, M, x)))
  | _ => False
def vx_new (ci : Nat) (h : vm_H) (kc ks : Nat) (st : List Value) (K : Nat → Nat → List Value → vm_H → Prop) : Prop :=
  1 ≤ kc ∧ (vm_df ci).length ≤ ks ∧ h.1 + 1 < 1099511627776 ∧ K (kc - 1) (ks - (vm_df ci).length) (.ref h.1 :: st) (vm_nw h (.inr (ci, vm_df ci)))
def vx_copy (tc : Nat) (st : List Value) (h : vm_H) (K : List Value → vm_H → Prop) : Prop := match st with
  | .int n :: .int dp :: .ref a1 :: .int sp :: .ref a0 :: r => match Nat.ble (r.map fun v => v.category).sum 8 with
    | true => ∃ N D S n0 n1 : Nat, n = Int32.ofNat N ∧ dp = Int32.ofNat D ∧ sp = Int32.ofNat S ∧ S + N ≤ n0 ∧ D + N ≤ n1 ∧ a1 < 1099511627776 ∧ (match tc with
      | 1 => ∃ f g : Nat → Int64, h.2 a0 = .inl (.long, n0, .inr (.inl f)) ∧ h.2 a1 = .inl (.long, n1, .inr (.inl g)) ∧ K r (vm_up h a1 (.inl (.long, n1, .inr (.inl (va_cpy f g S D N)))))
      | 3 => ∃ f g : Nat → Int32, h.2 a0 = .inl (.byte, n0, .inl f) ∧ h.2 a1 = .inl (.byte, n1, .inl g) ∧ K r (vm_up h a1 (.inl (.byte, n1, .inl (va_cpy f g S D N))))
      | _ => ∃ f g : Nat → Int32, h.2 a0 = .inl (.int, n0, .inl f) ∧ h.2 a1 = .inl (.int, n1, .inl g) ∧ K r (vm_up h a1 (.inl (.int, n1, .inl (va_cpy f g S D N)))))
    | false => False
  | _ => False
/-- a call by contract -/
def vx_call (E : vm_E) (z : vm_M) (n : Nat) (st : List Value) (h : vm_H) (kc ks : Nat) (K : Nat → Nat → List Value → vm_H → Prop) : Prop := match Nat.ble n st.length && Nat.ble ((st.drop n).map fun v => v.category).sum 8 with
  | true => ∃ (kc' ks' : Nat) (Q' : Option Value → vm_H → Prop), vm_Met E z kc' ks' (st.take n).reverse h Q' ∧ kc' ≤ kc ∧ ks' ≤ ks ∧ ∀ (r : Option Value) (h' : vm_H), Q' r h' → K (kc - kc') (ks - ks') (r.toList ++ st.drop n) h'
  | false => False
def vx_rcv (ci n : Nat) (st : List Value) (h : vm_H) (K : Prop) : Prop := match st.drop n with
  | .ref o :: _ => ∃ fs : List Value, h.2 o = .inr (ci, fs) ∧ K
  | _ => False
def vx_rcs (n : Nat) (st : List Value) (K : Prop) : Prop := match st.drop n with
  | .ref _ :: _ => K
  | _ => False
def vx_ret (ret : Option FieldType) (st : List Value) (h : vm_H) (Q : Option Value → vm_H → Prop) : Prop := match st with
  | [.int x] => match ret with
    | some .int => Q (some (.int x)) h
    | some ty => narrow ty (.int x) = .int x ∧ Q (some (.int x)) h
    | none => False
  | _ => False
def vx_lret (st : List Value) (h : vm_H) (Q : Option Value → vm_H → Prop) : Prop := match st with
  | [.long x] => Q (some (.long x)) h
  | _ => False
def vx_aret (st : List Value) (h : vm_H) (Q : Option Value → vm_H → Prop) : Prop := match st with
  | [.ref x] => Q (some (.ref x)) h
  | [.null] => Q (some .null) h
  | _ => False
def vx_vret (st : List Value) (h : vm_H) (Q : Option Value → vm_H → Prop) : Prop := match st with
  | [] => Q none h
  | _ => False
def vx_oi (st : List Value) (K : List Value → Prop) : Prop := match st with
  | .ref _ :: r => match Nat.ble (r.map fun v => v.category).sum 8 with
    | true => K r
    | false => False
  | _ => False
def vx_99 (a : Nat) (P Q : Prop) : Prop := match Nat.beq a 9999 with
  | true => P
  | false => Q
/-- WHAT A BLOCK NEEDS -/
def vm_sx (E : vm_E) (y : vm_M) (Q : Option Value → vm_H → Prop) : List vm_J → Nat → Nat → Nat → vm_L → List Value → vm_H → Prop
  | [], kc, ks, pc, lv, st, h => vm_T E y kc ks pc lv st h Q
  | (n, i, a, b, c, v) :: r, kc, ks, pc, lv, st, h => match i with
    | .aconst_null => vm_sx E y Q r kc ks (pc + n) lv (v :: st) h
    | .iconst _ => vm_sx E y Q r kc ks (pc + n) lv (v :: st) h
    | .bipush _ => vm_sx E y Q r kc ks (pc + n) lv (v :: st) h
    | .sipush _ => vm_sx E y Q r kc ks (pc + n) lv (v :: st) h
    | .lconst _ => vm_sx E y Q r kc ks (pc + n) lv (v :: st) h
    | .ldc _ => vm_sx E y Q r kc ks (pc + n) lv (v :: st) h
    | .ldc_w _ => vm_sx E y Q r kc ks (pc + n) lv (v :: st) h
    | .ldc2_w _ => vm_sx E y Q r kc ks (pc + n) lv (v :: st) h
    | .getstatic _ => ∃ q : String × String × String × Value, E.2.2.2.2.2.1[a]? = some q ∧ vm_sx E y Q r kc ks (pc + n) lv (q.2.2.2 :: st) h
    | .iload_n k => vx_ldI (vm_ld lv k.val) (fun w => vm_sx E y Q r kc ks (pc + n) lv (w :: st) h)
    | .iload k => vx_ldI (vm_ld lv k) (fun w => vm_sx E y Q r kc ks (pc + n) lv (w :: st) h)
    | .lload_n k => vx_ldL (vm_ld lv k.val) (fun w => vm_sx E y Q r kc ks (pc + n) lv (w :: st) h)
    | .lload k => vx_ldL (vm_ld lv k) (fun w => vm_sx E y Q r kc ks (pc + n) lv (w :: st) h)
    | .aload_n k => vx_ldA (vm_ld lv k.val) (fun w => vm_sx E y Q r kc ks (pc + n) lv (w :: st) h)
    | .aload k => vx_ldA (vm_ld lv k) (fun w => vm_sx E y Q r kc ks (pc + n) lv (w :: st) h)
    | .istore_n k => vx_stI st (fun w st => vm_sx E y Q r kc ks (pc + n) (vm_st1 lv k.val w) st h)
    | .istore k => vx_stI st (fun w st => vm_sx E y Q r kc ks (pc + n) (vm_st1 lv k w) st h)
    | .lstore_n k => vx_stL st (fun w st => vm_sx E y Q r kc ks (pc + n) (vm_st2 lv k.val w) st h)
    | .lstore k => vx_stL st (fun w st => vm_sx E y Q r kc ks (pc + n) (vm_st2 lv k w) st h)
    | .astore_n k => vx_stA st (fun w st => vm_sx E y Q r kc ks (pc + n) (vm_st1 lv k.val w) st h)
    | .astore k => vx_stA st (fun w st => vm_sx E y Q r kc ks (pc + n) (vm_st1 lv k w) st h)
    | .iinc k _ => vx_inc (vm_ld lv k) v (fun w => vm_sx E y Q r kc ks (pc + n) (vm_st1 lv k w) st h)
    | .iadd => vx_ii (fun x z => .int (x + z)) st (fun st => vm_sx E y Q r kc ks (pc + n) lv st h)
    | .isub => vx_ii (fun x z => .int (x - z)) st (fun st => vm_sx E y Q r kc ks (pc + n) lv st h)
    | .imul => vx_ii (fun x z => .int (x * z)) st (fun st => vm_sx E y Q r kc ks (pc + n) lv st h)
    | .iand => vx_ii (fun x z => .int (x &&& z)) st (fun st => vm_sx E y Q r kc ks (pc + n) lv st h)
    | .ior => vx_ii (fun x z => .int (x ||| z)) st (fun st => vm_sx E y Q r kc ks (pc + n) lv st h)
    | .ixor => vx_ii (fun x z => .int (x ^^^ z)) st (fun st => vm_sx E y Q r kc ks (pc + n) lv st h)
    | .ishl => vx_ii (fun x z => .int (x <<< (z &&& 31))) st (fun st => vm_sx E y Q r kc ks (pc + n) lv st h)
    | .ishr => vx_ii (fun x z => .int (x >>> (z &&& 31))) st (fun st => vm_sx E y Q r kc ks (pc + n) lv st h)
    | .iushr => vx_ii (fun x z => .int (x.toUInt32 >>> (z.toUInt32 &&& Int32.toUInt32 31)).toInt32) st (fun st => vm_sx E y Q r kc ks (pc + n) lv st h)
    | .idiv => vx_idv (fun x z => .int (x / z)) st (fun st => vm_sx E y Q r kc ks (pc + n) lv st h)
    | .irem => vx_idv (fun x z => .int (x - x / z * z)) st (fun st => vm_sx E y Q r kc ks (pc + n) lv st h)
    | .ladd => vx_ll (fun x z => .long (x + z)) st (fun st => vm_sx E y Q r kc ks (pc + n) lv st h)
    | .lsub => vx_ll (fun x z => .long (x - z)) st (fun st => vm_sx E y Q r kc ks (pc + n) lv st h)
    | .lmul => vx_ll (fun x z => .long (x * z)) st (fun st => vm_sx E y Q r kc ks (pc + n) lv st h)
    | .land => vx_ll (fun x z => .long (x &&& z)) st (fun st => vm_sx E y Q r kc ks (pc + n) lv st h)
    | .lor => vx_ll (fun x z => .long (x ||| z)) st (fun st => vm_sx E y Q r kc ks (pc + n) lv st h)
    | .lxor => vx_ll (fun x z => .long (x ^^^ z)) st (fun st => vm_sx E y Q r kc ks (pc + n) lv st h)
    | .ldiv => vx_ldv (fun x z => .long (x / z)) st (fun st => vm_sx E y Q r kc ks (pc + n) lv st h)
    | .lrem => vx_ldv (fun x z => .long (x - x / z * z)) st (fun st => vm_sx E y Q r kc ks (pc + n) lv st h)
    | .lshl => vx_li (fun x z => .long (x <<< (z.toInt64 &&& 63))) st (fun st => vm_sx E y Q r kc ks (pc + n) lv st h)
    | .lshr => vx_li (fun x z => .long (x >>> (z.toInt64 &&& 63))) st (fun st => vm_sx E y Q r kc ks (pc + n) lv st h)
    | .lushr => vx_li (fun x z => .long (x.toUInt64 >>> (z.toInt64.toUInt64 &&& Int64.toUInt64 63)).toInt64) st (fun st => vm_sx E y Q r kc ks (pc + n) lv st h)
    | .lcmp => vx_ll (fun x z => .int (lg_cmp x z)) st (fun st => vm_sx E y Q r kc ks (pc + n) lv st h)
    | .ineg => vx_i (fun x => .int (-x)) st (fun st => vm_sx E y Q r kc ks (pc + n) lv st h)
    | .lneg => vx_l (fun x => .long (-x)) st (fun st => vm_sx E y Q r kc ks (pc + n) lv st h)
    | .i2l => vx_i (fun x => .long x.toInt64) st (fun st => vm_sx E y Q r kc ks (pc + n) lv st h)
    | .l2i => vx_l (fun x => .int x.toInt32) st (fun st => vm_sx E y Q r kc ks (pc + n) lv st h)
    | .i2b => vx_i (fun x => .int x.toInt8.toInt32) st (fun st => vm_sx E y Q r kc ks (pc + n) lv st h)
    | .i2c => vx_i (fun x => .int (x.toUInt32 % 65536).toInt32) st (fun st => vm_sx E y Q r kc ks (pc + n) lv st h)
    | .dup => vx_dup st (fun st => vm_sx E y Q r kc ks (pc + n) lv st h)
    | .dup2 => vx_dup2 st (fun st => vm_sx E y Q r kc ks (pc + n) lv st h)
    | .pop => vx_pop st (fun st => vm_sx E y Q r kc ks (pc + n) lv st h)
    | .ifCond cd _ => vx_if cd st (fun st => vm_T E y kc ks a lv st h Q) (fun st => vm_sx E y Q r kc ks (pc + n) lv st h)
    | .if_icmp cd _ => vx_if2 cd st (fun st => vm_T E y kc ks a lv st h Q) (fun st => vm_sx E y Q r kc ks (pc + n) lv st h)
    | .ifnull _ => vx_nul st (fun st => vm_T E y kc ks a lv st h Q) (fun st => vm_sx E y Q r kc ks (pc + n) lv st h)
    | .ifnonnull _ => vx_nul st (fun st => vm_sx E y Q r kc ks (pc + n) lv st h) (fun st => vm_T E y kc ks a lv st h Q)
    | .if_acmp .eq _ => vx_acmp st (fun st => vm_T E y kc ks a lv st h Q) (fun st => vm_sx E y Q r kc ks (pc + n) lv st h)
    | .goto _ => vm_T E y kc ks a lv st h Q
    | .tableswitch d lo hi offs => vx_sw pc d lo hi offs st (fun t st => vm_T E y kc ks t lv st h Q)
    | .getfield _ => vx_get a b st h (fun st => vm_sx E y Q r kc ks (pc + n) lv st h)
    | .putfield _ => vx_put a b c st h (fun st h => vm_sx E y Q r kc ks (pc + n) lv st h)
    | .iaload => vx_iald .int st h (fun st => vm_sx E y Q r kc ks (pc + n) lv st h)
    | .baload => vx_iald (if a = 0 then .byte else .boolean) st h (fun st => vm_sx E y Q r kc ks (pc + n) lv st h)
    | .laload => vx_lald st h (fun st => vm_sx E y Q r kc ks (pc + n) lv st h)
    | .aaload => vx_aald st h (fun st => vm_sx E y Q r kc ks (pc + n) lv st h)
    | .iastore => vx_iast .int st h (fun st h => vm_sx E y Q r kc ks (pc + n) lv st h)
    | .bastore => vx_iast (if a = 0 then .byte else .boolean) st h (fun st h => vm_sx E y Q r kc ks (pc + n) lv st h)
    | .lastore => vx_last st h (fun st h => vm_sx E y Q r kc ks (pc + n) lv st h)
    | .aastore => vx_aast (vm_cn a) a st h (fun st h => vm_sx E y Q r kc ks (pc + n) lv st h)
    | .arraylength => vx_alen st h (fun st => vm_sx E y Q r kc ks (pc + n) lv st h)
    | .newarray .int => vx_newa .int (.inl (fun _ => 0)) st h kc ks (fun kc ks st h => vm_sx E y Q r kc ks (pc + n) lv st h)
    | .newarray .byte => vx_newa .byte (.inl (fun _ => 0)) st h kc ks (fun kc ks st h => vm_sx E y Q r kc ks (pc + n) lv st h)
    | .newarray .boolean => vx_newa .boolean (.inl (fun _ => 0)) st h kc ks (fun kc ks st h => vm_sx E y Q r kc ks (pc + n) lv st h)
    | .newarray .long => vx_newa .long (.inr (.inl (fun _ => 0))) st h kc ks (fun kc ks st h => vm_sx E y Q r kc ks (pc + n) lv st h)
    | .anewarray _ => vx_newa (.object (vm_cn a)) (.inr (.inr (.inr (.inr (fun _ => none))))) st h kc ks (fun kc ks st h => vm_sx E y Q r kc ks (pc + n) lv st h)
    | .multianewarray _ _ => match a with
      | 0 => vx_multi .int (.inl (fun _ => 0)) st h kc ks (fun kc ks st h => vm_sx E y Q r kc ks (pc + n) lv st h)
      | _ => vx_multi .long (.inr (.inl (fun _ => 0))) st h kc ks (fun kc ks st h => vm_sx E y Q r kc ks (pc + n) lv st h)
    | .new _ => vx_new a h kc ks st (fun kc ks st h => vm_sx E y Q r kc ks (pc + n) lv st h)
    | .invokestatic _ => vx_99 a (vx_copy c st h (fun st h => vm_sx E y Q r kc ks (pc + n) lv st h)) (vx_call E (vm_mt a) b st h kc ks (fun kc ks st h => vm_sx E y Q r kc ks (pc + n) lv st h))
    | .invokespecial _ => vx_99 a (vx_oi st (fun st => vm_sx E y Q r kc ks (pc + n) lv st h)) (vx_rcs b st (vx_call E (vm_mt a) (b + 1) st h kc ks (fun kc ks st h => vm_sx E y Q r kc ks (pc + n) lv st h)))
    | .invokevirtual _ => vx_rcv (if c = 600 then 500 else c) b st h (vx_call E (vm_mt a) (b + 1) st h kc ks (fun kc ks st h => vm_sx E y Q r kc ks (pc + n) lv st h))
    | .ireturn => vx_ret y.2.2.2.1 st h Q
    | .lreturn => vx_lret st h Q
    | .areturn => vx_aret st h Q
    | .return_ => vx_vret st h Q
    | _ => False
