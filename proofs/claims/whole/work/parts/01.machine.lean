/-! THE ABSTRACT MACHINE: cells by number, values with numbers for addresses; what it says is tied to the machine of the Statement by vm_T and vm_Met -/
/-- what a cell holds: an array (its element type, length, contents) or an object (the number of its class, its fields) -/
abbrev vm_Ob : Type := (FieldType × vp_A) ⊕ (Nat × List Value)
/-- cells made so far, and what each holds -/
abbrev vm_H : Type := Nat × (Nat → vm_Ob)
/-- where it lies in the machine's heap: the first new address, the old cells' addresses, classes and slots, array classes, the heap at the start -/
abbrev vm_G : Type := Nat × (Nat → Nat) × va_G × (FieldType → ClassId) × Heap
/-- launch, classes, element types of arrays, words, old cells, static fields, String constants -/
abbrev vm_E : Type := Launch × List vw_C × List FieldType × List Jvm.Cond × (Nat → vm_Ob) × List (String × String × String × Value) × List (String × Nat × String × Nat)
/-- a method: name, bytes, locals, what it returns, frames and words of room below it -/
abbrev vm_M : Type := MethodName × ByteArray × Nat × Option FieldType × Nat × Nat
abbrev vm_L : Type := List (Nat × Value)
def vm_ad (G : vm_G) (i : Nat) : Nat := if i < 1099511627776 then G.1 + i else G.2.1 (i - 1099511627776)
def vm_v (G : vm_G) (v : Value) : Value := match v with
  | .ref i => .ref (vm_ad G i)
  | .int x => .int x
  | .long x => .long x
  | .float x => .float x
  | .double x => .double x
  | .null => .null
  | .retAddr x => .retAddr x
def vm_q (G : vm_G) (q : Nat × Value) : Nat × Value := (q.1, vm_v G q.2)
def vm_no : vm_Ob := .inr (999, [])
def vm_ar (G : vm_G) (x : vp_A) : vp_A := match x with
  | (n, .inl f) => (n, .inl f)
  | (n, .inr (.inl f)) => (n, .inr (.inl f))
  | (n, .inr (.inr (.inl f))) => (n, .inr (.inr (.inl f)))
  | (n, .inr (.inr (.inr (.inl f)))) => (n, .inr (.inr (.inr (.inl f))))
  | (n, .inr (.inr (.inr (.inr f)))) => (n, .inr (.inr (.inr (.inr (fun j => (f j).map (vm_ad G))))))
def vm_c (G : vm_G) (o : vm_Ob) : va_E := match o with
  | .inl (ty, x) => .inl (G.2.2.2.1 ty, vm_ar G x)
  | .inr (ci, fs) => .inr (ci, fs.map (vm_v G))
/-- the contents of an array of small numbers fit its type -/
def vm_fit (o : vm_Ob) : Prop := match o with
  | .inl (ty, n, .inl f) => n < 2147483648 ∧ ∀ j, j < n → fits ty (.int (f j)) = true
  | .inl (ty, n, .inr (.inl _)) => n < 2147483648 ∧ ty = .long
  | .inl (_, n, _) => n < 2147483648
  | _ => True
def vm_up (h : vm_H) (a : Nat) (o : vm_Ob) : vm_H := (h.1, va_up h.2 a o)
def vm_nw (h : vm_H) (o : vm_Ob) : vm_H := (h.1 + 1, va_up h.2 h.1 o)
/-- the machine's heap holds h -/
def vm_I (G : vm_G) (E : vm_E) (h : vm_H) (H : Heap) : Prop :=
  H.size = G.1 + h.1 ∧ h.1 < 1099511627776 ∧ (∀ i, i < h.1 → va_at G.2.2.1 E.2.1 (G.1 + i, vm_c G (h.2 i)) H ∧ vm_fit (h.2 i) ∧ h.2 i ≠ vm_no) ∧ (∀ i, h.1 ≤ i → i < 1099511627776 → h.2 i = vm_no) ∧ (∀ q, q < G.1 → H[q]? = G.2.2.2.2[q]?) ∧ ∀ k, h.2 (1099511627776 + k) = E.2.2.2.2.1 k
def vm_sf (k : Nat) : String × String := match k with
  | 0 => ("value", "[B")
  | _ => ("coder", "B")
/-- an old cell -/
def vm_old (G : vm_G) (E : vm_E) (o : vm_Ob) (t : Nat) (s : State) : Prop := match o with
  | .inl (ty, n, .inl f) => va_T ty t n (fun j => .int (f j)) (fun q => G.1 ≤ q) s G.2.2.2.2 ∧ n < 2147483648 ∧ ∀ j, j < n → fits ty (.int (f j)) = true
  | .inl (ty, n, .inr (.inl f)) => va_T ty t n (fun j => .long (f j)) (fun q => G.1 ≤ q) s G.2.2.2.2 ∧ n < 2147483648 ∧ ty = .long
  | .inl (_, _, _) => False
  | .inr (ci, fs) => ci = 500 ∧ E.2.1.length < 500 ∧ va_O "java/lang/String" t (fun q => G.1 ≤ q) s G.2.2.2.2 ∧ ∀ (k : Nat) (v : Value), fs[k]? = some v → va_OF "java/lang/String" (vm_sf k).1 (vm_sf k).2 (vm_v G v) t (fun q => G.1 ≤ q) s G.2.2.2.2
/-- what the tables of a state say of classes, arrays, old cells and static fields -/
def vm_K (G : vm_G) (E : vm_E) (s : State) : Prop :=
  va_K G.2.2.1 E.2.1 (E.2.2.1.map (fun t => (G.2.2.2.1 t, t))) s ∧ (∀ k, E.2.2.2.2.1 k ≠ vm_no → vm_old G E (E.2.2.2.2.1 k) (G.2.1 k) s) ∧ (∀ r ∈ E.2.2.2.2.2.1, va_Z r.1 r.2.1 r.2.2.1 (vm_v G r.2.2.2) (fun q => G.1 ≤ q) s G.2.2.2.2) ∧ (∀ r ∈ E.2.2.2.2.2.2, vk_R r.1 r.2.1 r.2.2.1 (vm_ad G r.2.2.2) s) ∧ vx_Zq Bundle.tN "UNASSIGNED_STACK" Bundle.steD (fun q => G.1 ≤ q) s G.2.2.2.2 ∧ vx_Zq Bundle.tN "SUPPRESSED_SENTINEL" Bundle.listD (fun q => G.1 ≤ q) s G.2.2.2.2
/-- methods that may throw NoSuchElementException -/
def vm_thr (x : MethodName) : Bool := x.cls == "VeilMint" && (x.name == "retire" || (x.name == "look" || (x.name == "finalize" || x.name == "finalizeMany")))
/-- the exception tables of the law's wrappers -/
def vm_hh (x : MethodName) : List (Nat × Nat × Nat × Nat) := match x.cls == "VeilMintLaw" with
  | false => []
  | true => match x.name == "retire" with
    | true => [(0, 16, 19, 13)]
    | false => match x.name == "finalize" with
      | true => [(0, 9, 12, 13)]
      | false => match x.name == "look" || x.name == "finalizeMany" with
        | true => [(0, 10, 13, 13)]
        | false => []
/-- where a method stands -/
def vm_X (G : vm_G) (E : vm_E) (p : Program) (R : Room) (s : State) (m : MethodId) (args : Array Value) (meth : Method) (c : Code) (y : vm_M) (mc ms : Nat) : Prop :=
  p.tables.exec = Jvm.exec ∧ c.code = y.2.1 ∧ c.maxLocals = y.2.2.1 ∧ meth.sig.returnType = y.2.2.2.1 ∧ meth.locks = false ∧ meth.name = y.1.name ∧ s.vm.findClass y.1.cls = some m.cls ∧ (∀ w ∈ E.2.2.2.1, w.before args s = true) ∧ vm_K G E s ∧ R = { frames := y.2.2.2.2.1, cells := mc, slots := ms, locals := y.2.2.2.2.2 } ∧ (∀ q, q < G.1 → s.heap[q]? = G.2.2.2.2[q]?) ∧ G.1 ≤ s.heap.size ∧ c.exceptionTable.toList = tableOf (vm_hh y.1)
def vm_Q (G : vm_G) (E : vm_E) (Q : Option Value → vm_H → Prop) : Array Value → State → Outcome → State → Prop := fun _ _ o t => ∃ (r : Option Value) (h' : vm_H), o = .returned (r.map (vm_v G)) ∧ Q r h' ∧ vm_I G E h' t.heap
/-- a throw is told to Q as the value retAddr 77 -/
def vm_XQ (G : vm_G) (E : vm_E) (Q : Option Value → vm_H → Prop) : String → State → State → Prop := fun C _ t => C = "java/util/NoSuchElementException" ∧ ∃ h' : vm_H, Q (some (.retAddr 77)) h' ∧ vm_I G E h' t.heap
def vm_Qn (Q : Option Value → vm_H → Prop) : Option Value → vm_H → Prop := fun r h' => r ≠ some (.retAddr 77) ∧ Q r h'
/-- what the body of y owes at its end -/
def vm_tg (G : vm_G) (E : vm_E) (y : vm_M) (Q : Option Value → vm_H → Prop) (below : List Frame) (args : Array Value) (s : State) (mc ms : Nat) : State → Prop := match vm_thr y.1 with
  | false => MQ below (vm_Q G E Q) args s mc ms (fun q => G.1 ≤ q)
  | true => vx_MQ below (vm_Q G E (vm_Qn Q)) (vm_XQ G E Q) args s mc ms (fun q => G.1 ≤ q)
/-- FROM HERE IT ENDS, WITH Q: method y at pc, locals lv, stack st, cells h; at most kc cells of ks slots come -/
def vm_T (E : vm_E) (y : vm_M) (kc ks pc : Nat) (lv : vm_L) (st : List Value) (h : vm_H) (Q : Option Value → vm_H → Prop) : Prop :=
  ∀ (G : vm_G) (p : Program) (e : Env) (R : Room) (s : State) (m : MethodId) (args : Array Value) (below : List Frame) (meth : Method) (c : Code) (H : Heap) (locs : List Loc) (cells slots mc ms : Nat) (ls : Array Slot),
    vm_X G E p R s m args meth c y mc ms → vm_I G E h H → (∀ q ∈ locs, G.1 ≤ q.base) → lv_has ls y.2.2.1 (lv.map (vm_q G)) → cells + kc ≤ mc → slots + ks ≤ ms →
    W p E.1 e R s m args below meth c H locs cells slots (vm_tg G E y Q below args s mc ms) (F0 m pc ls (st.map (vm_v G)))
def vm_rm (y : vm_M) (kc ks : Nat) : Room := { frames := y.2.2.2.2.1, cells := kc, slots := ks, locals := y.2.2.2.2.2 }
/-- THE CONTRACT of a method at arguments av and cells h -/
def vm_Met (E : vm_E) (y : vm_M) (kc ks : Nat) (av : List Value) (h : vm_H) (Q : Option Value → vm_H → Prop) : Prop :=
  ∀ G : vm_G, Met E.1 y.1 (Jvm.Cond.code y.1 y.2.1 y.2.2.1 y.2.2.2.1 :: E.2.2.2.1) (vm_rm y kc ks) (fun a U => a = (av.map (vm_v G)).toArray ∧ vm_K G E U ∧ vm_I G E h U.heap) (vm_Q G E Q) kc ks (fun q => G.1 ≤ q)
theorem vm_cat (G : vm_G) (v : Value) : (vm_v G v).category = v.category := by
  cases v <;> rfl
theorem vm_K_moved {G : vm_G} {E : vm_E} {s t : State} (hW : s.WarmedH t.vm) (h : vm_K G E s) : vm_K G E t := by
  obtain ⟨h1, h2, h3, h5, h6, h7⟩ := h
  have hvm := hW.alike
  refine ⟨h1.moved hvm, fun k hk => ?_, fun r hr => (h3 r hr).moved hvm, fun r hr => (h5 r hr).warm hW, h6.moved hvm, h7.moved hvm⟩
  have h4 := h2 k hk
  generalize E.2.2.2.2.1 k = o at h4 ⊢
  unfold vm_old at h4 ⊢
  split at h4
  · exact ⟨h4.1.moved hvm, h4.2⟩
  · exact ⟨h4.1.moved hvm, h4.2⟩
  · exact h4
  · obtain ⟨e0, e1, e2, e3⟩ := h4
    exact ⟨e0, e1, e2.moved hvm, fun k v hv => (e3 k v hv).moved hvm⟩
/-- a local -/
def vm_ld : vm_L → Nat → Option Value
  | [], _ => none
  | (j, v) :: r, i => match Nat.beq j i with
    | true => some v
    | false => vm_ld r i
def vm_ins (x : Nat × Value) : vm_L → vm_L
  | [] => [x]
  | q :: r => match Nat.ble x.1 q.1 with
    | true => x :: q :: r
    | false => q :: vm_ins x r
def vm_st1 (lv : vm_L) (i : Nat) (v : Value) : vm_L := vm_ins (i, v) (lv.filter (fun q => !(q.1 == i) && !(q.1 + 1 == i && q.2.category == 2)))
def vm_st2 (lv : vm_L) (i : Nat) (v : Value) : vm_L := vm_ins (i, v) (lv.filter (fun q => !(q.1 == i) && (!(q.1 == i + 1) && !(q.1 + 1 == i && q.2.category == 2))))
theorem vm_ld_mem {lv : vm_L} {i : Nat} {v : Value} (h : vm_ld lv i = some v) : (i, v) ∈ lv := by
  induction lv with
  | nil => cases h
  | cons q r ih =>
    obtain ⟨j, w⟩ := q
    unfold vm_ld at h
    split at h
    · next hb =>
      have : j = i := Nat.eq_of_beq_eq_true hb
      cases h
      subst this
      exact List.mem_cons_self
    · exact List.mem_cons_of_mem _ (ih h)
theorem vm_ld_at {G : vm_G} {ls : Array Slot} {n : Nat} {lv : vm_L} {i : Nat} {v : Value} (hl : lv_has ls n (lv.map (vm_q G))) (h : vm_ld lv i = some v) : ls[i]? = some (.val (vm_v G v)) :=
  hl.2.2 (i, vm_v G v) (List.mem_map.mpr ⟨(i, v), vm_ld_mem h, rfl⟩)
theorem vm_ld_ix (G : vm_G) {lv : vm_L} {i : Nat} {v : Value} (h : vm_ld lv i = some v) : ∃ j : Nat, (lv.map (vm_q G))[j]? = some (i, vm_v G v) := by
  have h1 : (i, vm_v G v) ∈ lv.map (vm_q G) := List.mem_map.mpr ⟨(i, v), vm_ld_mem h, rfl⟩
  exact List.getElem?_of_mem h1
theorem vm_ins_mem {x q : Nat × Value} {lv : vm_L} (h : q ∈ vm_ins x lv) : q = x ∨ q ∈ lv := by
  induction lv with
  | nil => exact Or.inl (List.mem_singleton.mp h)
  | cons a r ih =>
    unfold vm_ins at h
    split at h
    · exact (List.mem_cons.mp h)
    · rcases List.mem_cons.mp h with h | h
      · exact Or.inr (List.mem_cons.mpr (Or.inl h))
      · rcases ih h with h | h
        · exact Or.inl h
        · exact Or.inr (List.mem_cons_of_mem _ h)
theorem vm_st1_has {G : vm_G} {ls : Array Slot} {n : Nat} {lv : vm_L} {i : Nat} {v : Value} (h : lv_has ls n ((i, vm_v G v) :: (lv.map (vm_q G)).filter (fun q => !(q.1 == i) && !(q.1 + 1 == i && q.2.category == 2)))) : lv_has ls n ((vm_st1 lv i v).map (vm_q G)) := by
  refine ⟨h.1, h.2.1, fun q hq => h.2.2 q ?_⟩
  obtain ⟨w, hw, rfl⟩ := List.mem_map.mp hq
  rcases vm_ins_mem hw with rfl | hw
  · exact List.mem_cons_self
  · obtain ⟨h1, h2⟩ := List.mem_filter.mp hw
    refine List.mem_cons_of_mem _ (List.mem_filter.mpr ⟨List.mem_map.mpr ⟨w, h1, rfl⟩, ?_⟩)
    simpa only [vm_q, vm_cat] using h2
theorem vm_st2_has {G : vm_G} {ls : Array Slot} {n : Nat} {lv : vm_L} {i : Nat} {v : Value} (h : lv_has ls n ((i, vm_v G v) :: (lv.map (vm_q G)).filter (fun q => !(q.1 == i) && (!(q.1 == i + 1) && !(q.1 + 1 == i && q.2.category == 2))))) : lv_has ls n ((vm_st2 lv i v).map (vm_q G)) := by
  refine ⟨h.1, h.2.1, fun q hq => h.2.2 q ?_⟩
  obtain ⟨w, hw, rfl⟩ := List.mem_map.mp hq
  rcases vm_ins_mem hw with rfl | hw
  · exact List.mem_cons_self
  · obtain ⟨h1, h2⟩ := List.mem_filter.mp hw
    refine List.mem_cons_of_mem _ (List.mem_filter.mpr ⟨List.mem_map.mpr ⟨w, h1, rfl⟩, ?_⟩)
    simpa only [vm_q, vm_cat] using h2
/-- fewer locals -/
theorem vm_less {E : vm_E} {y : vm_M} {kc ks pc : Nat} {lv : vm_L} {st : List Value} {h : vm_H} {Q : Option Value → vm_H → Prop} (is : List Nat) {lv' : vm_L} (hp : lv_pick lv is = lv') (k : vm_T E y kc ks pc lv' st h Q) : vm_T E y kc ks pc lv st h Q := by
  intro G p e R s m args below meth c H locs cells slots mc ms ls X I hL hl hc hs
  refine k G p e R s m args below meth c H locs cells slots mc ms ls X I hL ⟨hl.1, hl.2.1, fun q hq => hl.2.2 q ?_⟩ hc hs
  obtain ⟨w, hw, rfl⟩ := List.mem_map.mp hq
  rw [← hp] at hw
  obtain ⟨i, -, hi⟩ := List.mem_filterMap.mp hw
  exact List.mem_map.mpr ⟨w, List.mem_of_getElem? hi, rfl⟩
theorem vm_post {E : vm_E} {y : vm_M} {kc ks pc : Nat} {lv : vm_L} {st : List Value} {h : vm_H} {Q Q' : Option Value → vm_H → Prop} (k : vm_T E y kc ks pc lv st h Q') (hq : ∀ r h', Q' r h' → Q r h') : vm_T E y kc ks pc lv st h Q := by
  intro G p e R s m args below meth c H locs cells slots mc ms ls X I hL hl hc hs T hT hS
  have k9 := k G p e R s m args below meth c H locs cells slots mc ms ls X I hL hl hc hs T hT hS
  unfold vm_tg at k9 ⊢
  cases hth : vm_thr y.1 with
  | false =>
    rw [hth] at k9
    obtain ⟨t, a, o, b1, b2, ⟨r, h', b3, b4, b5⟩, b6⟩ := k9
    exact ⟨t, a, o, b1, b2, ⟨r, h', b3, hq r h' b4, b5⟩, b6⟩
  | true =>
    rw [hth] at k9
    obtain ⟨t, a, o, b1, b2, b3⟩ := k9
    refine ⟨t, a, o, b1, b2, ?_⟩
    rcases b3 with ⟨⟨r, h', b3, b4, b5⟩, b6⟩ | ⟨q, b3, E9, ce, L, ⟨c1, h', c2, c3⟩, b7⟩
    · exact Or.inl ⟨⟨r, h', b3, ⟨b4.1, hq r h' b4.2⟩, b5⟩, b6⟩
    · exact Or.inr ⟨q, b3, E9, ce, L, ⟨c1, h', hq _ h' c2, c3⟩, b7⟩
theorem vm_more {E : vm_E} {y : vm_M} {kc ks kc' ks' pc : Nat} {lv : vm_L} {st : List Value} {h : vm_H} {Q : Option Value → vm_H → Prop} (k : vm_T E y kc' ks' pc lv st h Q) (hk : kc' ≤ kc) (hn : ks' ≤ ks) : vm_T E y kc ks pc lv st h Q := by
  intro G p e R s m args below meth c H locs cells slots mc ms ls X I hL hl hc hs
  exact k G p e R s m args below meth c H locs cells slots mc ms ls X I hL hl (by omega) (by omega)
/-- a value returned -/
theorem vm_tgr {G : vm_G} {E : vm_E} {y : vm_M} {Q : Option Value → vm_H → Prop} {p : Program} {e : Env} {R : Room} {s : State} {m : MethodId} {args : Array Value} {below : List Frame} {meth : Method} {c : Code} {H : Heap} {locs : List Loc} {cells slots mc ms : Nat} {g : JFrame} {v : Option Value} {h : vm_H} (hv : v ≠ some (.retAddr 77)) (hq : Q v h) (k : ∀ Q2 : Option Value → vm_H → Prop, Q2 v h → W p E.1 e R s m args below meth c H locs cells slots (MQ below (vm_Q G E Q2) args s mc ms (fun q => G.1 ≤ q)) g) : W p E.1 e R s m args below meth c H locs cells slots (vm_tg G E y Q below args s mc ms) g := by
  unfold vm_tg
  cases vm_thr y.1 with
  | false => exact k Q hq
  | true => exact vxx_ret (k (vm_Qn Q) ⟨hv, hq⟩)
