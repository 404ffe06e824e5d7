/-! rows of the abstract machine: arrays of arrays, calls; a contract out of a walk -/
theorem vm_outer (c : ClassId) (N h0 : Nat) : ∀ i : Nat, Jvm.Free.Multi.outerC c N h0 i = arrV c N (fun j => va_rf (if j < i then some (h0 + 1 + j) else none))
  | 0 => by
    show ({ cls := c, slots := Array.replicate N .null, vm := .none } : Cell) = _
    rw [show (fun j => va_rf (if j < 0 then some (h0 + 1 + j) else none)) = (fun _ => Value.null) from funext fun j => by simp [va_rf], arrV_new]
  | i + 1 => by
    show (Jvm.Free.Multi.outerC c N h0 i).setSlot i (.ref (h0 + 1 + i)) = _
    rw [vm_outer c N h0 i, arrV_store]
    refine congrArg (arrV c N) (funext fun j => ?_)
    by_cases e : j = i
    · subst e
      simp [updV, va_rf]
    · by_cases h : j < i
      · simp [updV, e, h, Nat.lt_succ_of_lt h]
      · simp [updV, e, h, show ¬ j < i + 1 by omega]
def vm_nm (h : vm_H) (N : Nat) (o i : vm_Ob) : vm_H := (h.1 + 1 + N, fun j => if j = h.1 then o else if h.1 < j ∧ j ≤ h.1 + N then i else h.2 j)
section
variable {E : vm_E} {y : vm_M} {kc ks pc : Nat} {lv : vm_L} {st : List Value} {h : vm_H} {Q : Option Value → vm_H → Prop}
theorem vm_multi {N K idx : Nat} {ty : FieldType} {x : (Nat → Int32) ⊕ (Nat → Int64) ⊕ (Nat → UInt32) ⊕ (Nat → UInt64) ⊕ (Nat → Option Nat)} (hd : decode y.2.1 pc = .ok (.multianewarray idx 2, 4)) (ht : ty ∈ E.2.2.1) (ht2 : FieldType.array ty ∈ E.2.2.1) (hpr : refKind ty = false) (hw : Jvm.Cond.classLink y.1.cls idx ("[" ++ (FieldType.array ty).toString) ∈ E.2.2.2.1) (hw2 : Jvm.Cond.arrayOver (.array ty) ∈ E.2.2.2.1) (hw3 : Jvm.Cond.arrayClass ty ∈ E.2.2.2.1) (hN : N ≤ 65536) (hK : K ≤ 65536) (hcb : componentBytes ty ≤ 8) (hdf : fits ty (defaultValue ty) = true) (hdd : (defaultValue ty).isDefault = true) (hcell : ∀ (G : vm_G) (cA : ClassId), vp_cell cA (vm_ar G (K, x)) = arrV cA K (fun _ => defaultValue ty)) (hfit : vm_fit (.inl (ty, K, x))) (hk : 1 + N ≤ kc) (hsl : N + N * K ≤ ks) (hlt : h.1 + 1 + N < 1099511627776)
    (k : vm_T E y (kc - (1 + N)) (ks - (N + N * K)) (pc + 4) lv (.ref h.1 :: st) (vm_nm h N (.inl (.array ty, N, .inr (.inr (.inr (.inr (fun j => if j < N then some (h.1 + 1 + j) else none)))))) (.inl (ty, K, x))) Q) : vm_T E y kc ks pc lv (.int (Int32.ofNat K) :: .int (Int32.ofNat N) :: st) h Q := by
  intro G p e R s m args below meth c H locs cells slots mc ms ls X I hL hl hc hs
  have KK := X.2.2.2.2.2.2.2.2.1
  have hts := X.2.2.2.2.2.2.2.1
  have hown := X.2.2.2.2.2.2.1
  have hR := X.2.2.2.2.2.2.2.2.2.1
  obtain ⟨eN1, eN2⟩ := vm_cl (N := N) (by omega)
  obtain ⟨eK1, eK2⟩ := vm_cl (N := K) (by omega)
  have eA : vm_ad G h.1 = H.size := by unfold vm_ad; rw [if_pos (by omega), I.1]
  have hmul : K * componentBytes ty ≤ 65536 * 8 := Nat.mul_le_mul hK hcb
  intro T hT XX
  obtain ⟨vm₁, cA, comp, -, fA, fC, hO, -, X', step⟩ := XX.multianewarray2F X.1 hown (hts _ hw) (hts _ hw2) (hts _ hw3) (g := F0 m pc ls (.int (Int32.ofNat K) :: .int (Int32.ofNat N) :: st.map (vm_v G))) rfl (by rw [X.2.1]; exact hd) rfl eN1 eK1 (by rw [eN2]; omega) (by rw [eK2]; omega) (by rw [eK2]; omega) hdf hdd (by rw [hR, eN2]; show _ ≤ mc; omega) (by rw [hR, eN2, eK2]; show _ ≤ ms; omega)
  rw [eN2, eK2] at X' step
  have eC : cA = G.2.2.2.1 (.array ty) := Option.some.inj (fA.symm.trans (vm_arr KK ht2).2)
  have eD : comp = G.2.2.2.1 ty := by
    have h9 := (vm_arr KK ht).2
    have h8 : s.vm.findClass (FieldType.array ty).toString = some (G.2.2.2.1 ty) := by
      cases ty <;> first | exact h9 | (simp [refKind] at hpr)
    exact Option.some.inj (fC.symm.trans h8)
  subst eC
  subst eD
  generalize hF : Jvm.Free.Multi.fill (T.setVm vm₁) (G.2.2.2.1 (.array ty)) (G.2.2.2.1 ty) N K (defaultValue ty) N = F at X' step
  have hTh : (T.setVm vm₁).heap = H := hT
  obtain ⟨f1, f2, -, -⟩ := Jvm.Free.Multi.fill_facts (T.setVm vm₁) (G.2.2.2.1 (.array ty)) (G.2.2.2.1 ty) N K (defaultValue ty) N
  rw [hF, hTh] at f1 f2
  have hold : ∀ x : Nat, x < H.size → F.heap[x]? = H[x]? := fun x hx => by
    have := Jvm.Free.Multi.fill_old (T.setVm vm₁) (G.2.2.2.1 (.array ty)) (G.2.2.2.1 ty) N K (defaultValue ty) (a := x) (by rw [hTh]; exact hx) N
    rw [hF, hTh] at this
    exact this
  have hrow : ∀ j : Nat, j < N → F.heap[H.size + 1 + j]? = some (vp_cell (G.2.2.2.1 ty) (vm_ar G (K, x))) := fun j hj => by
    have := Jvm.Free.Multi.fill_inner (T.setVm vm₁) (G.2.2.2.1 (.array ty)) (G.2.2.2.1 ty) N K (defaultValue ty) N j hj
    rw [hF, hTh] at this
    rw [this, hcell, ← arrV_new]
    rfl
  rw [vm_outer] at f2
  have I' : vm_I G E (vm_nm h N (.inl (.array ty, N, .inr (.inr (.inr (.inr (fun j => if j < N then some (h.1 + 1 + j) else none)))))) (.inl (ty, K, x))) F.heap := by
    obtain ⟨i1, i2, i3, i4, i5, i6⟩ := I
    refine ⟨by show F.heap.size = G.1 + (h.1 + 1 + N); omega, hlt, fun i hi => ?_, fun i h1 h2 => ?_, fun q hq => (hold q (by omega)).trans (i5 q hq), fun k => ?_⟩
    · have hi : i < h.1 + 1 + N := hi
      by_cases e1 : i = h.1
      · have e2 : (vm_nm h N (.inl (.array ty, N, .inr (.inr (.inr (.inr (fun j => if j < N then some (h.1 + 1 + j) else none)))))) (.inl (ty, K, x))).2 i = .inl (.array ty, N, .inr (.inr (.inr (.inr (fun j => if j < N then some (h.1 + 1 + j) else none))))) := by simp [vm_nm, e1]
        rw [e2]
        refine ⟨?_, (show N < 2147483648 by omega), by unfold vm_no; exact fun q => by cases q⟩
        show F.heap[G.1 + i]? = some (arrV _ N (fun j => va_rf ((if j < N then some (h.1 + 1 + j) else none).map (vm_ad G))))
        rw [show G.1 + i = H.size by omega, f2]
        congr 2
        funext j
        by_cases hj : j < N
        · rw [if_pos hj, if_pos hj]
          show _ = va_rf (some (vm_ad G (h.1 + 1 + j)))
          unfold vm_ad
          rw [if_pos (by omega)]
          congr 2
          omega
        · rw [if_neg hj, if_neg hj]; rfl
      · by_cases e3 : h.1 < i
        · have e2 : (vm_nm h N (.inl (.array ty, N, .inr (.inr (.inr (.inr (fun j => if j < N then some (h.1 + 1 + j) else none)))))) (.inl (ty, K, x))).2 i = .inl (ty, K, x) := by
            show (if i = h.1 then _ else if h.1 < i ∧ i ≤ h.1 + N then _ else _) = _
            rw [if_neg e1, if_pos ⟨e3, by omega⟩]
          rw [e2]
          refine ⟨?_, hfit, by unfold vm_no; exact fun q => by cases q⟩
          show F.heap[G.1 + i]? = some (vp_cell _ (vm_ar G (K, x)))
          have := hrow (i - h.1 - 1) (by omega)
          rw [show H.size + 1 + (i - h.1 - 1) = G.1 + i by omega] at this
          exact this
        · have e2 : (vm_nm h N (.inl (.array ty, N, .inr (.inr (.inr (.inr (fun j => if j < N then some (h.1 + 1 + j) else none)))))) (.inl (ty, K, x))).2 i = h.2 i := by
            show (if i = h.1 then _ else if h.1 < i ∧ i ≤ h.1 + N then _ else _) = _
            rw [if_neg e1, if_neg (by omega)]
          rw [e2]
          exact ⟨(i3 i (by omega)).1.kept (hold _ (by show G.1 + i < H.size; omega)), (i3 i (by omega)).2⟩
    · have h1 : h.1 + 1 + N ≤ i := h1
      show (if i = h.1 then _ else if h.1 < i ∧ i ≤ h.1 + N then _ else h.2 i) = _
      rw [if_neg (by omega), if_neg (by omega)]
      exact i4 i (by omega) h2
    · show (if 1099511627776 + k = h.1 then _ else if h.1 < 1099511627776 + k ∧ 1099511627776 + k ≤ h.1 + N then _ else h.2 (1099511627776 + k)) = _
      rw [if_neg (by omega), if_neg (by omega)]
      exact i6 k
  obtain ⟨t, a1, b1⟩ := k G p e R s m args below meth c F.heap locs (cells + 1 + N) (slots + N + N * K) mc ms ls X I' hL hl (by omega) (by omega) F rfl X'
  refine ⟨t, step t ?_, b1⟩
  have eT : T.heap.size = H.size := by rw [hT]
  rw [eT]
  have e9 : (Value.ref H.size :: st.map (vm_v G)) = (Value.ref h.1 :: st).map (vm_v G) := by
    show _ = Value.ref (vm_ad G h.1) :: _
    rw [eA]
  show Steps p.tables e below (F.setTop (F0 m (pc + 4) ls (Value.ref H.size :: st.map (vm_v G)))) t
  rw [e9]
  exact a1
theorem vm_r_multiI {N K idx : Nat} (hd : decode y.2.1 pc = .ok (.multianewarray idx 2, 4)) (ht : FieldType.int ∈ E.2.2.1) (ht2 : FieldType.array .int ∈ E.2.2.1) (hw : Jvm.Cond.classLink y.1.cls idx "[[I" ∈ E.2.2.2.1) (hw2 : Jvm.Cond.arrayOver (.array .int) ∈ E.2.2.2.1) (hw3 : Jvm.Cond.arrayClass .int ∈ E.2.2.2.1) (hN : N ≤ 65536) (hK : K ≤ 65536) (hk : 1 + N ≤ kc) (hsl : N + N * K ≤ ks) (hlt : h.1 + 1 + N < 1099511627776)
    (k : vm_T E y (kc - (1 + N)) (ks - (N + N * K)) (pc + 4) lv (.ref h.1 :: st) (vm_nm h N (.inl (.array .int, N, .inr (.inr (.inr (.inr (fun j => if j < N then some (h.1 + 1 + j) else none)))))) (.inl (.int, K, .inl (fun _ => 0)))) Q) : vm_T E y kc ks pc lv (.int (Int32.ofNat K) :: .int (Int32.ofNat N) :: st) h Q :=
  vm_multi (ty := .int) (x := .inl (fun _ => 0)) hd ht ht2 rfl hw hw2 hw3 hN hK (by decide) rfl rfl (fun _ _ => rfl) ⟨by omega, fun _ _ => rfl⟩ hk hsl hlt k
theorem vm_r_multiJ {N K idx : Nat} (hd : decode y.2.1 pc = .ok (.multianewarray idx 2, 4)) (ht : FieldType.long ∈ E.2.2.1) (ht2 : FieldType.array .long ∈ E.2.2.1) (hw : Jvm.Cond.classLink y.1.cls idx "[[J" ∈ E.2.2.2.1) (hw2 : Jvm.Cond.arrayOver (.array .long) ∈ E.2.2.2.1) (hw3 : Jvm.Cond.arrayClass .long ∈ E.2.2.2.1) (hN : N ≤ 65536) (hK : K ≤ 65536) (hk : 1 + N ≤ kc) (hsl : N + N * K ≤ ks) (hlt : h.1 + 1 + N < 1099511627776)
    (k : vm_T E y (kc - (1 + N)) (ks - (N + N * K)) (pc + 4) lv (.ref h.1 :: st) (vm_nm h N (.inl (.array .long, N, .inr (.inr (.inr (.inr (fun j => if j < N then some (h.1 + 1 + j) else none)))))) (.inl (.long, K, .inr (.inl (fun _ => 0))))) Q) : vm_T E y kc ks pc lv (.int (Int32.ofNat K) :: .int (Int32.ofNat N) :: st) h Q :=
  vm_multi (ty := .long) (x := .inr (.inl (fun _ => 0))) hd ht ht2 rfl hw hw2 hw3 hN hK (by decide) rfl rfl (fun _ _ => rfl) ⟨by omega, rfl⟩ hk hsl hlt k
end
