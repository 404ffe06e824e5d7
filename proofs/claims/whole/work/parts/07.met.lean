/-! calls of methods by contract, and a contract out of a walk -/
/-- the words hold on when the machine has gone on -/
def vm_Ww (E : vm_E) : Prop := ∀ w ∈ E.2.2.2.1, ∀ (args a' : Array Value) (s U : State), s.WarmedH U.vm → w.before args s = true → w.before a' U = true
theorem vm_K_same {G : vm_G} {E : vm_E} {s t : State} (hv : t.vm = s.vm) (h : vm_K G E s) : vm_K G E t := by
  obtain ⟨h1, h2, h3, h5, h6, h7⟩ := h
  have hvm : s.vm.Alike t.vm := by rw [hv]; exact Vm.Alike.refl s.vm
  refine ⟨h1.moved hvm, fun k hk => ?_, fun r hr => (h3 r hr).moved hvm, fun r hr => (h5 r hr).same hv, h6.moved hvm, h7.moved hvm⟩
  have h4 := h2 k hk
  generalize E.2.2.2.2.1 k = o at h4 ⊢
  unfold vm_old at h4 ⊢
  split at h4
  · exact ⟨h4.1.moved hvm, h4.2⟩
  · exact ⟨h4.1.moved hvm, h4.2⟩
  · exact h4
  · obtain ⟨e0, e1, e2, e3⟩ := h4
    exact ⟨e0, e1, e2.moved hvm, fun k v hv => (e3 k v hv).moved hvm⟩
def vm_Pc (G : vm_G) (E : vm_E) (av : List Value) (h : vm_H) : Array Value → State → Prop := fun a U => a = (av.map (vm_v G)).toArray ∧ vm_K G E U ∧ vm_I G E h U.heap
theorem vm_blind (G : vm_G) (E : vm_E) (av : List Value) (h : vm_H) : FrameBlind (vm_Pc G E av h) := by
  intro a U g mk hq
  exact ⟨hq.1, vm_K_same (s := U) (t := U.calling g mk a) rfl hq.2.1, hq.2.2⟩
theorem vm_cats (G : vm_G) (st : List Value) : ((st.map (vm_v G)).map fun v => v.category).sum = (st.map fun v => v.category).sum := by
  rw [List.map_map]; congr 2; funext v; exact vm_cat G v
abbrev vm_cw (z : vm_M) : Jvm.Cond := Jvm.Cond.code z.1 z.2.1 z.2.2.1 z.2.2.2.1
/-- what every call of z needs -/
def vm_C (E : vm_E) (y z : vm_M) (n : Nat) : Prop := vm_Ww E ∧ vm_cw z ∈ E.2.2.2.1 ∧ Jvm.Cond.initialized z.1.cls ∈ E.2.2.2.1 ∧ (z.1.cls ≠ "java/lang/invoke/MethodHandle" ∧ z.1.cls ≠ "java/lang/invoke/VarHandle") ∧ (parseMethodDescriptor z.1.desc).map (fun d => d.parameters.length) = some n ∧ z.2.2.2.2.1 + 1 ≤ y.2.2.2.2.1 ∧ 8 + (z.2.2.1 + 11) + z.2.2.2.2.2 ≤ y.2.2.2.2.2
section
variable {E : vm_E} {y z : vm_M} {kc ks kc' ks' pc : Nat} {lv : vm_L} {st As : List Value} {h : vm_H} {Q Q' : Option Value → vm_H → Prop}
theorem vm_after {G : vm_G} {p : Program} {e : Env} {R : Room} {s : State} {m : MethodId} {args : Array Value} {below : List Frame} {meth : Method} {c : Code} {H : Heap} {locs : List Loc} {cells slots mc ms : Nat} {ls : Array Slot} {st0 : List Value} {a : Array Value}
    (hr : va_Run p E.1 e R s m args below meth c H locs cells slots kc' ks' (F0 m pc ls st0) (st.map (vm_v G)) (vm_Q G E Q' a) (fun q => G.1 ≤ q))
    (X : vm_X G E p R s m args meth c y mc ms) (hL : ∀ q ∈ locs, G.1 ≤ q.base) (hl : lv_has ls y.2.2.1 (lv.map (vm_q G))) (hc : cells + kc ≤ mc) (hs : slots + ks ≤ ms) (hk : kc' ≤ kc) (hn : ks' ≤ ks)
    (k : ∀ r h', Q' r h' → vm_T E y (kc - kc') (ks - ks') (pc + 3) lv (r.toList ++ st) h' Q) :
    W p E.1 e R s m args below meth c H locs cells slots (vm_tg G E y Q below args s mc ms) (F0 m pc ls st0) := by
  intro T hT XX
  obtain ⟨v, st₀, t, T', L, h0, X', hLL, e1, e2, ⟨r, h', hv, hq, hI⟩, hst⟩ := hr T hT XX
  have hv : v = r.map (vm_v G) := by cases hv; rfl
  subst hv
  obtain ⟨t2, a1, b1⟩ := k r h' hq G p e R s m args below meth c T'.heap (locs ++ L) (cells + kc') (slots + ks') mc ms ls X (by rw [e1]; exact hI) (fun q hq => by
    rcases List.mem_append.mp hq with h | h
    · exact hL q h
    · exact hLL q h) hl (by omega) (by omega) T' rfl X'
  refine ⟨t2, hst t2 ?_, b1⟩
  have e9 : (r.map (vm_v G)).toList ++ st.map (vm_v G) = (r.toList ++ st).map (vm_v G) := by cases r <;> rfl
  rw [show ({ F0 m pc ls st0 with pc := (F0 m pc ls st0).pc + 3, stack := (r.map (vm_v G)).toList ++ st.map (vm_v G) } : JFrame) = F0 m (pc + 3) ls ((r.toList ++ st).map (vm_v G)) from by rw [← e9]]
  exact a1
theorem vm_callB {G : vm_G} {p : Program} {R : Room} {s : State} {m : MethodId} {args : Array Value} {meth : Method} {c : Code} {mc ms idx n : Nat} (X : vm_X G E p R s m args meth c y mc ms) (hC : vm_C E y z n) (hlink : Jvm.Cond.methodLink y.1.cls idx z.1 ∈ E.2.2.2.1) : CallB R s args y.1.cls idx z.1 z.2.1 z.2.2.1 z.2.2.2.1 (vm_cw z :: E.2.2.2.1) (vm_rm z kc' ks') kc' ks' n := by
  obtain ⟨c1, c2, c3, c4, c5, c6, c7⟩ := hC
  have hts := X.2.2.2.2.2.2.2.1
  have hR := X.2.2.2.2.2.2.2.2.2.1
  refine ⟨rfl, rfl, by rw [hR]; exact c6, by rw [hR]; exact c7, fun w hw a' U hW => ?_, List.mem_cons_self, hts _ c2, hts _ c3, c4, fun sig hsig => ?_, hts _ hlink⟩
  · rcases List.mem_cons.mp hw with rfl | hw
    · exact c1 _ c2 args a' s U hW (hts _ c2)
    · exact c1 _ hw args a' s U hW (hts _ hw)
  · rw [hsig] at c5
    exact (Option.some.inj c5).symm
theorem vm_callN {G : vm_G} {p : Program} {R : Room} {s : State} {m : MethodId} {args : Array Value} {meth : Method} {c : Code} {mc ms idx n : Nat} {host : String} (X : vm_X G E p R s m args meth c y mc ms) (hC : vm_C E y z n) (hlink : Jvm.Cond.methodLinkNest y.1.cls idx z.1 host ∈ E.2.2.2.1) : va_CN R s args y.1.cls idx z.1 host z.2.1 z.2.2.1 z.2.2.2.1 (vm_cw z :: E.2.2.2.1) (vm_rm z kc' ks') kc' ks' n := by
  obtain ⟨c1, c2, c3, c4, c5, c6, c7⟩ := hC
  have hts := X.2.2.2.2.2.2.2.1
  have hR := X.2.2.2.2.2.2.2.2.2.1
  refine ⟨⟨rfl, rfl, by rw [hR]; exact c6, by rw [hR]; exact c7, fun w hw a' U hW => ?_, List.mem_cons_self⟩, hts _ c2, hts _ c3, c4, fun sig hsig => ?_, hts _ hlink⟩
  · rcases List.mem_cons.mp hw with rfl | hw
    · exact c1 _ c2 args a' s U hW (hts _ c2)
    · exact c1 _ hw args a' s U hW (hts _ hw)
  · rw [hsig] at c5
    exact (Option.some.inj c5).symm
theorem vm_fix {G : vm_G} {p : Program} {R : Room} {s : State} {m : MethodId} {args : Array Value} {meth : Method} {c : Code} {mc ms : Nat} (X : vm_X G E p R s m args meth c y mc ms) : CallFix p m c y.2.1 y.2.2.1 s args E.2.2.2.1 y.1.cls := ⟨X.1, X.2.1, X.2.2.1, X.2.2.2.2.2.2.1, X.2.2.2.2.2.2.2.1⟩
theorem vm_room {G : vm_G} {m : MethodId} {ls : Array Slot} {st0 : List Value} (hcat : (st.map fun v => v.category).sum ≤ 8) : 2 * (F0 m pc ls st0).monitorRoom + ((st.map (vm_v G)).map fun v => v.category).sum ≤ 8 := by
  rw [vm_cats]; exact (lv_room (m := m) (pc := pc) (ls := ls) (rest := st0) hcat)
theorem vm_hf {G : vm_G} {p : Program} {R : Room} {s : State} {m : MethodId} {args : Array Value} {meth : Method} {c : Code} {mc ms cells slots : Nat} (X : vm_X G E p R s m args meth c y mc ms) (hc : cells + kc ≤ mc) (hs : slots + ks ≤ ms) (hk : kc' ≤ kc) (hn : ks' ≤ ks) : cells + kc' ≤ R.cells ∧ slots + ks' ≤ R.slots := by
  rw [X.2.2.2.2.2.2.2.2.2.1]
  exact ⟨by show _ ≤ mc; omega, by show _ ≤ ms; omega⟩
theorem vm_preS {G : vm_G} {s : State} {H : Heap} (K : vm_K G E s) (I : vm_I G E h H) : PreS s H (vm_Pc G E As h) (As.map (vm_v G)) :=
  ⟨vm_blind G E As h, fun U hU hW => ⟨rfl, vm_K_moved hW K, by rw [hU]; exact I⟩⟩
theorem vm_rev (G : vm_G) (As st : List Value) : (As.reverse ++ st).map (vm_v G) = (As.map (vm_v G)).reverse ++ st.map (vm_v G) := by
  rw [List.map_append, List.map_reverse]
theorem vm_r_callS {idx : Nat} (hd : decode y.2.1 pc = .ok (.invokestatic idx, 3)) (hC : vm_C E y z As.length) (hlink : Jvm.Cond.methodLink y.1.cls idx z.1 ∈ E.2.2.2.1) (hst : Jvm.Cond.static z.1 ∈ E.2.2.2.1) (hM : vm_Met E z kc' ks' As h Q') (hcat : (st.map fun v => v.category).sum ≤ 8) (hk : kc' ≤ kc) (hn : ks' ≤ ks) (k : ∀ r h', Q' r h' → vm_T E y (kc - kc') (ks - ks') (pc + 3) lv (r.toList ++ st) h' Q) : vm_T E y kc ks pc lv (As.reverse ++ st) h Q := by
  intro G p e R s m args below meth c H locs cells slots mc ms ls X I hL hl hc hs
  have K := X.2.2.2.2.2.2.2.2.1
  rw [vm_rev]
  exact vm_after (va_runS (vm_fix X) (hM G) ⟨vm_callB X hC hlink, X.2.2.2.2.2.2.2.1 _ hst⟩ (vm_preS K I) rfl (by rw [List.length_map]) hl.1 rfl (vm_room hcat) hd (vm_hf X hc hs hk hn)) X hL hl hc hs hk hn k
theorem vm_r_callSN {idx : Nat} {host : String} (hd : decode y.2.1 pc = .ok (.invokestatic idx, 3)) (hC : vm_C E y z As.length) (hlink : Jvm.Cond.methodLinkNest y.1.cls idx z.1 host ∈ E.2.2.2.1) (hst : Jvm.Cond.static z.1 ∈ E.2.2.2.1) (hM : vm_Met E z kc' ks' As h Q') (hcat : (st.map fun v => v.category).sum ≤ 8) (hk : kc' ≤ kc) (hn : ks' ≤ ks) (k : ∀ r h', Q' r h' → vm_T E y (kc - kc') (ks - ks') (pc + 3) lv (r.toList ++ st) h' Q) : vm_T E y kc ks pc lv (As.reverse ++ st) h Q := by
  intro G p e R s m args below meth c H locs cells slots mc ms ls X I hL hl hc hs
  have K := X.2.2.2.2.2.2.2.2.1
  rw [vm_rev]
  exact vm_after (va_runSN (vm_fix X) (hM G) ⟨vm_callN X hC hlink, X.2.2.2.2.2.2.2.1 _ hst, trivial⟩ (vm_preS K I) rfl (by rw [List.length_map]) hl.1 rfl (vm_room hcat) hd (vm_hf X hc hs hk hn)) X hL hl hc hs hk hn k
theorem vm_r_callI {idx a : Nat} (hd : decode y.2.1 pc = .ok (.invokespecial idx, 3)) (hC : vm_C E y z As.length) (hlink : Jvm.Cond.methodLink y.1.cls idx z.1 ∈ E.2.2.2.1) (hin : Jvm.Cond.instanceMethod z.1 ∈ E.2.2.2.1) (hnm : z.1.name = "<init>") (hret : z.2.2.2.1 = none) (hM : vm_Met E z kc' ks' (.ref a :: As) h Q') (hcat : (st.map fun v => v.category).sum ≤ 8) (hk : kc' ≤ kc) (hn : ks' ≤ ks) (k : ∀ r h', Q' r h' → vm_T E y (kc - kc') (ks - ks') (pc + 3) lv (r.toList ++ st) h' Q) : vm_T E y kc ks pc lv (As.reverse ++ .ref a :: st) h Q := by
  intro G p e R s m args below meth c H locs cells slots mc ms ls X I hL hl hc hs
  have K := X.2.2.2.2.2.2.2.2.1
  rw [vm_rev]
  have hB := vm_callB (kc' := kc') (ks' := ks') X hC hlink
  have hM := hM G
  unfold vm_cw at hB
  rw [hret] at hB hM
  exact vm_after (va_runI (vm_fix X) hM ⟨hB, hnm, X.2.2.2.2.2.2.2.1 _ hin⟩ (vm_preS (As := .ref a :: As) K I) rfl (by rw [List.length_map]) hl.1 rfl (vm_room hcat) hd (vm_hf X hc hs hk hn)) X hL hl hc hs hk hn k
theorem vm_r_callIN {idx a : Nat} {host : String} (hd : decode y.2.1 pc = .ok (.invokespecial idx, 3)) (hC : vm_C E y z As.length) (hlink : Jvm.Cond.methodLinkNest y.1.cls idx z.1 host ∈ E.2.2.2.1) (hin : Jvm.Cond.instanceMethod z.1 ∈ E.2.2.2.1) (hnm : z.1.name = "<init>") (hret : z.2.2.2.1 = none) (hM : vm_Met E z kc' ks' (.ref a :: As) h Q') (hcat : (st.map fun v => v.category).sum ≤ 8) (hk : kc' ≤ kc) (hn : ks' ≤ ks) (k : ∀ r h', Q' r h' → vm_T E y (kc - kc') (ks - ks') (pc + 3) lv (r.toList ++ st) h' Q) : vm_T E y kc ks pc lv (As.reverse ++ .ref a :: st) h Q := by
  intro G p e R s m args below meth c H locs cells slots mc ms ls X I hL hl hc hs
  have K := X.2.2.2.2.2.2.2.2.1
  rw [vm_rev]
  have hB := vm_callN (kc' := kc') (ks' := ks') X hC hlink
  have hM := hM G
  unfold vm_cw at hB
  rw [hret] at hB hM
  exact vm_after (va_runIN (vm_fix X) hM ⟨hB, hnm, X.2.2.2.2.2.2.2.1 _ hin⟩ (vm_preS (As := .ref a :: As) K I) rfl (by rw [List.length_map]) hl.1 rfl (vm_room hcat) hd (vm_hf X hc hs hk hn)) X hL hl hc hs hk hn k
theorem vm_recv {G : vm_G} {s : State} {H : Heap} {a ci : Nat} {r : vw_C} {fs : List Value} (K : vm_K G E s) (I : vm_I G E h H) (ha : h.2 a = .inr (ci, fs)) (hno : ci ≠ 999) (hcl : E.2.1[ci]? = some r) : ∃ cell : Cell, H[vm_ad G a]? = some cell ∧ cell.vm.isStatics = false ∧ s.vm.findClass r.1 = some cell.cls := by
  have hn : (.inr (ci, fs) : vm_Ob) ≠ vm_no := fun q => by unfold vm_no at q; cases q; exact hno rfl
  rcases vm_read I ha hn with ⟨h1, h2, h3, h4⟩ | ⟨k9, e1, e2⟩
  · exact va_recv K.1 (vm_one h3) hcl (q0 := 0) rfl
  · have h5 := K.2.1 k9 (by rw [e2]; exact hn)
    rw [e2] at h5
    obtain ⟨r1, r2, r3, r4⟩ := h5
    have := (List.getElem?_eq_some_iff.mp hcl).1
    omega
theorem vm_recvS {G : vm_G} {s : State} {H : Heap} {a : Nat} {fs : List Value} (K : vm_K G E s) (I : vm_I G E h H) (hlen : E.2.1.length < 500) (ha : h.2 a = .inr (500, fs)) : ∃ cell : Cell, H[vm_ad G a]? = some cell ∧ cell.vm.isStatics = false ∧ s.vm.findClass "java/lang/String" = some cell.cls := by
  have hn : (.inr (500, fs) : vm_Ob) ≠ vm_no := fun q => by unfold vm_no at q; cases q
  rcases vm_read I ha hn with ⟨h1, h2, h3, h4⟩ | ⟨k9, e1, e2⟩
  · obtain ⟨r, r1, -⟩ := h3
    have := (List.getElem?_eq_some_iff.mp r1).1
    omega
  · have h5 := K.2.1 k9 (by rw [e2]; exact hn)
    rw [e2] at h5
    obtain ⟨-, -, ⟨cell, q1, q2, q3, q4⟩, r4⟩ := h5
    exact ⟨cell, by rw [e1, I.2.2.2.2.1 _ (Nat.not_le.mp q4)]; exact q1, q2, q3⟩
theorem vm_r_callVS {idx a : Nat} {fs : List Value} (hd : decode y.2.1 pc = .ok (.invokevirtual idx, 3)) (hC : vm_C E y z As.length) (hlink : Jvm.Cond.methodLink y.1.cls idx z.1 ∈ E.2.2.2.1) (hin : Jvm.Cond.instanceMethod z.1 ∈ E.2.2.2.1) (hsel : Jvm.Cond.selects "java/lang/String" z.1 z.1 ∈ E.2.2.2.1) (hlen : E.2.1.length < 500) (ha : h.2 a = .inr (500, fs)) (hM : vm_Met E z kc' ks' (.ref a :: As) h Q') (hcat : (st.map fun v => v.category).sum ≤ 8) (hk : kc' ≤ kc) (hn : ks' ≤ ks) (k : ∀ r h', Q' r h' → vm_T E y (kc - kc') (ks - ks') (pc + 3) lv (r.toList ++ st) h' Q) : vm_T E y kc ks pc lv (As.reverse ++ .ref a :: st) h Q := by
  intro G p e R s m args below meth c H locs cells slots mc ms ls X I hL hl hc hs
  have K := X.2.2.2.2.2.2.2.2.1
  have hts := X.2.2.2.2.2.2.2.1
  rw [vm_rev]
  exact vm_after (va_runV (C := "java/lang/String") (vm_fix X) (hM G) ⟨vm_callB X hC hlink, hts _ hin, hts _ hsel⟩ ⟨vm_blind G E (.ref a :: As) h, vm_recvS K I hlen ha, (vm_preS (As := .ref a :: As) K I).2⟩ rfl (by rw [List.length_map]) hl.1 rfl (vm_room hcat) hd (vm_hf X hc hs hk hn)) X hL hl hc hs hk hn k
theorem vm_r_callV {idx a ci : Nat} {r : vw_C} {fs : List Value} (hd : decode y.2.1 pc = .ok (.invokevirtual idx, 3)) (hC : vm_C E y z As.length) (hlink : Jvm.Cond.methodLink y.1.cls idx z.1 ∈ E.2.2.2.1) (hin : Jvm.Cond.instanceMethod z.1 ∈ E.2.2.2.1) (hsel : Jvm.Cond.selects r.1 z.1 z.1 ∈ E.2.2.2.1) (ha : h.2 a = .inr (ci, fs)) (hno : ci ≠ 999) (hcl : E.2.1[ci]? = some r) (hM : vm_Met E z kc' ks' (.ref a :: As) h Q') (hcat : (st.map fun v => v.category).sum ≤ 8) (hk : kc' ≤ kc) (hn : ks' ≤ ks) (k : ∀ r h', Q' r h' → vm_T E y (kc - kc') (ks - ks') (pc + 3) lv (r.toList ++ st) h' Q) : vm_T E y kc ks pc lv (As.reverse ++ .ref a :: st) h Q := by
  intro G p e R s m args below meth c H locs cells slots mc ms ls X I hL hl hc hs
  have K := X.2.2.2.2.2.2.2.2.1
  have hts := X.2.2.2.2.2.2.2.1
  rw [vm_rev]
  exact vm_after (va_runV (C := r.1) (vm_fix X) (hM G) ⟨vm_callB X hC hlink, hts _ hin, hts _ hsel⟩ ⟨vm_blind G E (.ref a :: As) h, vm_recv K I ha hno hcl, (vm_preS (As := .ref a :: As) K I).2⟩ rfl (by rw [List.length_map]) hl.1 rfl (vm_room hcat) hd (vm_hf X hc hs hk hn)) X hL hl hc hs hk hn k
theorem vm_r_callU {idx a ci : Nat} {r : vw_C} {fs : List Value} {x : MethodName} {owner : String} {b0 : ByteArray} {m0 : Nat} {r0 : Option FieldType} (hd : decode y.2.1 pc = .ok (.invokevirtual idx, 3)) (hC : vm_C E y z As.length) (hlink : Jvm.Cond.methodLink y.1.cls idx x ∈ E.2.2.2.1) (hxd : x.desc = z.1.desc) (hsame : Jvm.Cond.sameMethod x.cls owner x.name x.desc ∈ E.2.2.2.1) (ho : owner ≠ "java/lang/invoke/MethodHandle" ∧ owner ≠ "java/lang/invoke/VarHandle") (hdi : Jvm.Cond.instanceMethod ⟨owner, x.name, x.desc⟩ ∈ E.2.2.2.1) (hdc : Jvm.Cond.code ⟨owner, x.name, x.desc⟩ b0 m0 r0 ∈ E.2.2.2.1) (hin : Jvm.Cond.instanceMethod z.1 ∈ E.2.2.2.1) (hsel : Jvm.Cond.selects r.1 x z.1 ∈ E.2.2.2.1) (ha : h.2 a = .inr (ci, fs)) (hno : ci ≠ 999) (hcl : E.2.1[ci]? = some r) (hM : vm_Met E z kc' ks' (.ref a :: As) h Q') (hcat : (st.map fun v => v.category).sum ≤ 8) (hk : kc' ≤ kc) (hn : ks' ≤ ks) (k : ∀ r h', Q' r h' → vm_T E y (kc - kc') (ks - ks') (pc + 3) lv (r.toList ++ st) h' Q) : vm_T E y kc ks pc lv (As.reverse ++ .ref a :: st) h Q := by
  intro G p e R s m args below meth c H locs cells slots mc ms ls X I hL hl hc hs
  have K := X.2.2.2.2.2.2.2.2.1
  have hts := X.2.2.2.2.2.2.2.1
  have hR := X.2.2.2.2.2.2.2.2.2.1
  rw [vm_rev]
  obtain ⟨c1, c2, c3, c4, c5, c6, c7⟩ := hC
  have hU : va_CU R s args y.1.cls r.1 owner idx x z.1 z.2.1 z.2.2.1 z.2.2.2.1 (vm_cw z :: E.2.2.2.1) (vm_rm z kc' ks') kc' ks' As.length := by
    refine ⟨⟨rfl, rfl, by rw [hR]; exact c6, by rw [hR]; exact c7, fun w hw a' U hW => ?_, List.mem_cons_self⟩, hts _ c2, hts _ c3, ho, fun sig hsig => ?_, hts _ hlink, hts _ hsame, va_Decl.of (hts _ hdi) (hts _ hdc), hts _ hsel, hts _ hin⟩
    · rcases List.mem_cons.mp hw with rfl | hw
      · exact c1 _ c2 args a' s U hW (hts _ c2)
      · exact c1 _ hw args a' s U hW (hts _ hw)
    · rw [← hxd, hsig] at c5
      exact (Option.some.inj c5).symm
  exact vm_after (va_runU (C := r.1) (vm_fix X) (hM G) hU ⟨vm_blind G E (.ref a :: As) h, vm_recv K I ha hno hcl, (vm_preS (As := .ref a :: As) K I).2⟩ rfl (by rw [List.length_map]) hl.1 rfl (vm_room hcat) hd (vm_hf X hc hs hk hn)) X hL hl hc hs hk hn k
theorem vm_r_objInit {idx a : Nat} (hd : decode y.2.1 pc = .ok (.invokespecial idx, 3)) (hlink : Jvm.Cond.methodLink y.1.cls idx objectInit ∈ E.2.2.2.1) (hin : Jvm.Cond.instanceMethod objectInit ∈ E.2.2.2.1) (hco : Jvm.Cond.code objectInit ⟨#[0xb1]⟩ 1 none ∈ E.2.2.2.1) (hfr : 1 ≤ y.2.2.2.2.1) (hlo : (st.map fun v => v.category).sum + 12 ≤ y.2.2.2.2.2) (k : vm_T E y kc ks (pc + 3) lv st h Q) : vm_T E y kc ks pc lv (.ref a :: st) h Q := by
  intro G p e R s m args below meth c H locs cells slots mc ms ls X I hL hl hc hs
  have hts := X.2.2.2.2.2.2.2.1
  have hR := X.2.2.2.2.2.2.2.2.2.1
  exact W.objInit X.1 X.2.1 X.2.2.2.2.2.2.1 (hts _ hlink) (hts _ hin) (hts _ hco) rfl (by rw [X.2.2.1]; exact hl.1) rfl hd (by rw [hR]; exact hfr) (by rw [hR]; show 2 * 0 + _ + 12 ≤ y.2.2.2.2.2; rw [vm_cats]; omega) (k G p e R s m args below meth c H locs cells slots mc ms ls X I hL hl hc hs)
end
theorem vm_args (G : vm_G) (av : List Value) : ∀ i : Nat, lv_args i (av.map (vm_v G)) = (lv_args i av).map (vm_q G) := by
  induction av with
  | nil => intro i; rfl
  | cons v r ih =>
    intro i
    show (i, vm_v G v) :: lv_args _ (r.map (vm_v G)) = (i, vm_v G v) :: _
    rw [ih, vm_cat]
theorem vm_slen (G : vm_G) (av : List Value) : (lg_sl (av.map (vm_v G))).length = (av.map fun v => v.category).sum := by
  induction av with
  | nil => rfl
  | cons v r ih =>
    unfold lg_sl at ih ⊢
    rw [List.map_cons, List.flatMap_cons, List.length_append, ih, List.map_cons, List.sum_cons, vm_cat]
    have : v.category = 1 ∨ v.category = 2 := by cases v <;> simp [Value.category]
    rcases this with e | e <;> rw [e] <;> rfl
/-- neither throws nor catches -/
def vm_pl (x : MethodName) : Bool := match vm_thr x with
  | true => false
  | false => match vm_hh x with
    | [] => true
    | _ => false
theorem vm_pl_of {x : MethodName} (h : vm_pl x = true) : vm_thr x = false ∧ vm_hh x = [] := by
  unfold vm_pl at h
  cases h1 : vm_thr x with
  | true => rw [h1] at h; cases h
  | false =>
    rw [h1] at h
    cases h2 : vm_hh x with
    | nil => exact ⟨rfl, rfl⟩
    | cons a b => rw [h2] at h; cases h
theorem vm_tg_pl {G : vm_G} {E : vm_E} {y : vm_M} {Q : Option Value → vm_H → Prop} {below : List Frame} {args : Array Value} {s : State} {mc ms : Nat} (h : vm_thr y.1 = false) : vm_tg G E y Q below args s mc ms = MQ below (vm_Q G E Q) args s mc ms (fun q => G.1 ≤ q) := by
  unfold vm_tg
  rw [h]
/-- the table of a method with a word 'code' is empty -/
theorem vm_noT {y : vm_M} {args : Array Value} {s : State} {m : MethodId} {meth : Method} {c : Code} (hn : s.methodNamed? y.1 = some m) (hm : s.vm.method? m = some meth) (hc : meth.code = some c) (h : (vm_cw y).before args s = true) : c.exceptionTable.toList = [] := by
  obtain ⟨meth9, c9, h1, h2, -, -, -, -, h7, -⟩ := Cond.code_spec hn h
  cases Option.some.inj (h1.symm.trans hm)
  cases Option.some.inj (h2.symm.trans hc)
  rw [Array.isEmpty_iff.mp h7]
/-- A CONTRACT OUT OF A WALK -/
theorem vm_met {E : vm_E} {y : vm_M} {kc ks : Nat} {av : List Value} {h : vm_H} {Q : Option Value → vm_H → Prop} (hy : plainName y.1.cls = true) (hsz : (av.map fun v => v.category).sum ≤ y.2.2.1) (k : vm_T E y kc ks 0 (lv_args 0 av) [] h Q) (hpl : vm_pl y.1 = true := by rfl) : vm_Met E y kc ks av h Q := by
  intro G
  refine Met.ofW (cc := y.2.1) (maxL := y.2.2.1) (ret := y.2.2.2.1) hy rfl ?_
  intro p e s m args below meth c s₁ B hml hv
  obtain ⟨rfl, hK, hI⟩ := hv
  have hts := atoms_spec (ws := vm_cw y :: E.2.2.2.1) B.pre
  have hl := lv_entry (av.map (vm_v G)) (n := y.2.2.1) (by rw [vm_slen]; exact hsz)
  rw [lg_entry_eq]
  rw [vm_args] at hl
  have X : vm_X G E p (headSpec (vm_cw y :: E.2.2.2.1) (vm_rm y kc ks)).room s m (av.map (vm_v G)).toArray meth c y kc ks := ⟨B.exec, B.bytes, hml, B.returns, B.notSynchronized, (name_of_methodNamed B.named B.method).1, findClass_of_methodNamed B.named, fun w hw => hts w (List.mem_cons_of_mem _ hw), hK, rfl, hI.2.2.2.2.1, by rw [hI.1]; omega, by rw [(vm_pl_of hpl).2]; exact vm_noT B.named B.method (Stand.of_body B).code (hts _ List.mem_cons_self)⟩
  have k9 := k
  unfold vm_T at k9
  simp only [vm_tg_pl (vm_pl_of hpl).1] at k9
  exact k9 G p e _ s m _ below meth c s.heap [] 0 0 kc ks _ X hI (fun q hq => by cases hq) hl (by omega) (by omega)
