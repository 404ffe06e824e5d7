/-! rows of the abstract machine: new cells, stores of references, copies, compared references -/
section
variable {E : vm_E} {y : vm_M} {kc ks pc : Nat} {lv : vm_L} {st : List Value} {h : vm_H} {Q : Option Value → vm_H → Prop}
def vm_N (E : vm_E) (own : String) (idx ci : Nat) (fs : List Value) : Prop := ∃ (C : String) (T : u_T) (ty : Nat → FieldType), E.2.1[ci]? = some (C, T, fs.length) ∧ (∀ w ∈ u_ws C T fs.length, w ∈ E.2.2.2.1) ∧ (∀ k, k < fs.length → parseFieldDescriptor (T k).2.2.1 = some (ty k)) ∧ Jvm.Cond.classLink own idx C ∈ E.2.2.2.1 ∧ Jvm.Cond.instantiable C fs.length ∈ E.2.2.2.1 ∧ Jvm.Cond.initialized C ∈ E.2.2.2.1 ∧ (∀ j, j < fs.length → defaultValue (ty j) = vp_V fs j) ∧ ci ≠ 999
theorem vm_vd (G : vm_G) (ty : FieldType) : vm_v G (defaultValue ty) = defaultValue ty := by
  cases ty <;> rfl
theorem vm_r_new {idx ci : Nat} {fs : List Value} (hd : decode y.2.1 pc = .ok (.new idx, 3)) (hN : vm_N E y.1.cls idx ci fs) (hk : 1 ≤ kc) (hsl : fs.length ≤ ks) (hlt : h.1 + 1 < 1099511627776) (k : vm_T E y (kc - 1) (ks - fs.length) (pc + 3) lv (.ref h.1 :: st) (vm_nw h (.inr (ci, fs))) Q) : vm_T E y kc ks pc lv st h Q := by
  intro G p e R s m args below meth c H locs cells slots mc ms ls X I hL hl hc hs
  obtain ⟨C, T, ty, f1, f2, f3, f4, f5, f6, f7, f8⟩ := hN
  have K := X.2.2.2.2.2.2.2.2.1
  have hts := X.2.2.2.2.2.2.2.1
  have hown := X.2.2.2.2.2.2.1
  have hR := X.2.2.2.2.2.2.2.2.2.1
  have hKn := K.1.1 ci _ f1
  have eA : vm_ad G h.1 = H.size := by unfold vm_ad; rw [if_pos (by omega), I.1]
  refine W.newcK X.1 X.2.1 hown (hts _ f4) (hts _ f5) (hts _ f6) rfl hd (by rw [hR]; show _ ≤ mc; omega) (by rw [hR]; show _ ≤ ms; omega) hKn.2.1 rfl fun H1 kC hkC e1 z1 o1 => ?_
  have k2 := k G p e R s m args below meth c H1 locs (cells + 1) (slots + fs.length) mc ms ls X (vm_al I hlt z1 ?_ o1 trivial (fun q => by unfold vm_no at q; cases q; exact f8 rfl)) hL hl (by omega) (by omega)
  · have e9 : (Value.ref H.size :: st.map (vm_v G)) = (Value.ref h.1 :: st).map (vm_v G) := by
      show _ = Value.ref (vm_ad G h.1) :: _
      rw [eA]
    exact W.eq (by rw [← e9]) k2
  · rw [eA]
    refine ⟨_, f1, (u_born ty hts f2 hKn hkC e1 f3).to (fun j hj => ?_)⟩
    show defaultValue (ty j) = vp_V (fs.map (vm_v G)) j
    have := f7 j hj
    unfold vp_V at this ⊢
    rw [List.getD_eq_getElem?_getD, List.getElem?_map]
    rw [List.getD_eq_getElem?_getD] at this
    rw [List.getElem?_eq_getElem hj] at this ⊢
    have t2 : defaultValue (ty j) = fs[j] := this
    show defaultValue (ty j) = vm_v G fs[j]
    rw [← t2, vm_vd]
theorem vm_newA {nI : Int32} {N : Nat} {at9 : ArrayType} {ty : FieldType} {x : (Nat → Int32) ⊕ (Nat → Int64) ⊕ (Nat → UInt32) ⊕ (Nat → UInt64) ⊕ (Nat → Option Nat)} (hd : decode y.2.1 pc = .ok (.newarray at9, 2)) (hty : newarray.typeOf at9 = ty) (ht : ty ∈ E.2.2.1) (hw : Jvm.Cond.arrayClass ty ∈ E.2.2.2.1) (hn : ¬ nI < 0) (hN : nI.toNatClampNeg = N) (hby : N * componentBytes ty ≤ 536870912) (hcell : ∀ (G : vm_G) (cA : ClassId), vp_cell cA (vm_ar G (N, x)) = arrV cA N (fun _ => defaultValue ty)) (hfit : vm_fit (.inl (ty, N, x))) (hk : 1 ≤ kc) (hsl : N ≤ ks) (hlt : h.1 + 1 < 1099511627776) (k : vm_T E y (kc - 1) (ks - N) (pc + 2) lv (.ref h.1 :: st) (vm_nw h (.inl (ty, N, x))) Q) : vm_T E y kc ks pc lv (.int nI :: st) h Q := by
  intro G p e R s m args below meth c H locs cells slots mc ms ls X I hL hl hc hs
  subst hty
  have K := X.2.2.2.2.2.2.2.2.1
  have hts := X.2.2.2.2.2.2.2.1
  have hR := X.2.2.2.2.2.2.2.2.2.1
  have eA : vm_ad G h.1 = H.size := by unfold vm_ad; rw [if_pos (by omega), I.1]
  refine va_newaK X.1 X.2.1 (hts _ hw) rfl hd rfl hn hN hby (by rw [hR]; show _ ≤ mc; omega) (by rw [hR]; show _ ≤ ms; omega) rfl fun H1 cA e1 z1 o1 hAr hNm => ?_
  have eC : cA = G.2.2.2.1 (newarray.typeOf at9) := by
    have h9 := (vm_arr K ht).2
    have h8 : s.vm.findClass ("[" ++ (newarray.typeOf at9).toString) = some (G.2.2.2.1 (newarray.typeOf at9)) := by cases at9 <;> exact h9
    exact Option.some.inj (hNm.symm.trans h8)
  subst eC
  have k2 := k G p e R s m args below meth c H1 locs (cells + 1) (slots + N) mc ms ls X (vm_al I hlt z1 (by rw [eA]; show H1[H.size]? = some (vp_cell _ (vm_ar G (N, x))); rw [hcell]; exact e1) o1 hfit (fun q => by unfold vm_no at q; cases q)) hL hl (by omega) (by omega)
  have e9 : (Value.ref H.size :: st.map (vm_v G)) = (Value.ref h.1 :: st).map (vm_v G) := by
    show _ = Value.ref (vm_ad G h.1) :: _
    rw [eA]
  exact W.eq (by rw [← e9]) k2
theorem vm_cl {N : Nat} (h : N < 2147483648) : ¬ Int32.ofNat N < 0 ∧ (Int32.ofNat N).toNatClampNeg = N := ⟨nI_pos (by omega), nI_clamp (by omega)⟩
theorem vm_r_newI {N : Nat} (hd : decode y.2.1 pc = .ok (.newarray .int, 2)) (ht : FieldType.int ∈ E.2.2.1) (hw : Jvm.Cond.arrayClass .int ∈ E.2.2.2.1) (hN : N ≤ 65536) (hk : 1 ≤ kc) (hsl : N ≤ ks) (hlt : h.1 + 1 < 1099511627776) (k : vm_T E y (kc - 1) (ks - N) (pc + 2) lv (.ref h.1 :: st) (vm_nw h (.inl (.int, N, .inl (fun _ => 0)))) Q) : vm_T E y kc ks pc lv (.int (Int32.ofNat N) :: st) h Q :=
  vm_newA (ty := .int) (x := .inl (fun _ => 0)) hd rfl ht hw (vm_cl (by omega)).1 (vm_cl (by omega)).2 (by show N * 4 ≤ _; omega) (fun _ _ => rfl) ⟨by omega, fun _ _ => rfl⟩ hk hsl hlt k
theorem vm_r_newB {N : Nat} (hd : decode y.2.1 pc = .ok (.newarray .byte, 2)) (ht : FieldType.byte ∈ E.2.2.1) (hw : Jvm.Cond.arrayClass .byte ∈ E.2.2.2.1) (hN : N ≤ 65536) (hk : 1 ≤ kc) (hsl : N ≤ ks) (hlt : h.1 + 1 < 1099511627776) (k : vm_T E y (kc - 1) (ks - N) (pc + 2) lv (.ref h.1 :: st) (vm_nw h (.inl (.byte, N, .inl (fun _ => 0)))) Q) : vm_T E y kc ks pc lv (.int (Int32.ofNat N) :: st) h Q :=
  vm_newA (ty := .byte) (x := .inl (fun _ => 0)) hd rfl ht hw (vm_cl (by omega)).1 (vm_cl (by omega)).2 (by show N * 1 ≤ _; omega) (fun _ _ => rfl) ⟨by omega, fun _ _ => rfl⟩ hk hsl hlt k
theorem vm_r_newZ {N : Nat} (hd : decode y.2.1 pc = .ok (.newarray .boolean, 2)) (ht : FieldType.boolean ∈ E.2.2.1) (hw : Jvm.Cond.arrayClass .boolean ∈ E.2.2.2.1) (hN : N ≤ 65536) (hk : 1 ≤ kc) (hsl : N ≤ ks) (hlt : h.1 + 1 < 1099511627776) (k : vm_T E y (kc - 1) (ks - N) (pc + 2) lv (.ref h.1 :: st) (vm_nw h (.inl (.boolean, N, .inl (fun _ => 0)))) Q) : vm_T E y kc ks pc lv (.int (Int32.ofNat N) :: st) h Q :=
  vm_newA (ty := .boolean) (x := .inl (fun _ => 0)) hd rfl ht hw (vm_cl (by omega)).1 (vm_cl (by omega)).2 (by show N * 1 ≤ _; omega) (fun _ _ => rfl) ⟨by omega, fun _ _ => rfl⟩ hk hsl hlt k
theorem vm_r_newJ {N : Nat} (hd : decode y.2.1 pc = .ok (.newarray .long, 2)) (ht : FieldType.long ∈ E.2.2.1) (hw : Jvm.Cond.arrayClass .long ∈ E.2.2.2.1) (hN : N ≤ 65536) (hk : 1 ≤ kc) (hsl : N ≤ ks) (hlt : h.1 + 1 < 1099511627776) (k : vm_T E y (kc - 1) (ks - N) (pc + 2) lv (.ref h.1 :: st) (vm_nw h (.inl (.long, N, .inr (.inl (fun _ => 0))))) Q) : vm_T E y kc ks pc lv (.int (Int32.ofNat N) :: st) h Q :=
  vm_newA (ty := .long) (x := .inr (.inl (fun _ => 0))) hd rfl ht hw (vm_cl (by omega)).1 (vm_cl (by omega)).2 (by show N * 8 ≤ _; omega) (fun _ _ => rfl) ⟨by omega, rfl⟩ hk hsl hlt k
theorem vm_r_newQ {N idx : Nat} {C : String} (hd : decode y.2.1 pc = .ok (.anewarray idx, 3)) (ht : FieldType.object C ∈ E.2.2.1) (hw : Jvm.Cond.classLink y.1.cls idx C ∈ E.2.2.2.1) (hw2 : Jvm.Cond.arrayOver (.object C) ∈ E.2.2.2.1) (hN : N ≤ 65536) (hk : 1 ≤ kc) (hsl : N ≤ ks) (hlt : h.1 + 1 < 1099511627776) (k : vm_T E y (kc - 1) (ks - N) (pc + 3) lv (.ref h.1 :: st) (vm_nw h (.inl (.object C, N, .inr (.inr (.inr (.inr (fun _ => none))))))) Q) : vm_T E y kc ks pc lv (.int (Int32.ofNat N) :: st) h Q := by
  intro G p e R s m args below meth c H locs cells slots mc ms ls X I hL hl hc hs
  have K := X.2.2.2.2.2.2.2.2.1
  have hts := X.2.2.2.2.2.2.2.1
  have hown := X.2.2.2.2.2.2.1
  have hR := X.2.2.2.2.2.2.2.2.2.1
  have eA : vm_ad G h.1 = H.size := by unfold vm_ad; rw [if_pos (by omega), I.1]
  have eN := vm_cl (N := N) (by omega)
  refine W.anew X.1 X.2.1 hown (hts _ hw) (hts _ hw2) rfl hd rfl eN.1 (by rw [eN.2]; omega) (by rw [hR]; show _ ≤ mc; omega) (by rw [hR, eN.2]; show _ ≤ ms; omega) fun cA kA comp f1 f2 f3 f4 => ?_
  rw [eN.2]
  generalize hH1 : H.push ({ cls := cA, slots := Array.replicate N .null, vm := .none } : Cell) = H1
  have z1 : H1.size = H.size + 1 := by rw [← hH1, Array.size_push]
  have e1 : H1[H.size]? = some (arrV cA N (fun _ => .null)) := by rw [← hH1, Array.getElem?_push_size, ← arrV_new]
  have o1 : ∀ q : Nat, q < H.size → H1[q]? = H[q]? := fun q hq => by rw [← hH1, Array.getElem?_push, if_neg (Nat.ne_of_lt hq)]
  have eC : cA = G.2.2.2.1 (.object C) := by
    obtain ⟨_, _, _, _, _, h8⟩ := (vm_arr K ht).2
    exact Option.some.inj (f1.symm.trans h8)
  subst eC
  have k2 := k G p e R s m args below meth c H1 locs (cells + 1) (slots + N) mc ms ls X (vm_al I hlt z1 (by rw [eA]; exact e1) o1 (show N < 2147483648 by omega) (fun q => by unfold vm_no at q; cases q)) hL hl (by omega) (by omega)
  have e9 : (Value.ref H.size :: st.map (vm_v G)) = (Value.ref h.1 :: st).map (vm_v G) := by
    show _ = Value.ref (vm_ad G h.1) :: _
    rw [eA]
  exact W.eq (by rw [← e9]) k2
theorem vm_r_aastore {i a n v ci : Nat} {r : vw_C} {vs : List Value} {f : Nat → Option Nat} (hd : decode y.2.1 pc = .ok (.aastore, 1)) (ht : FieldType.object r.1 ∈ E.2.2.1) (ha : h.2 a = .inl (.object r.1, n, .inr (.inr (.inr (.inr f))))) (hlt : a < 1099511627776) (hv : h.2 v = .inr (ci, vs)) (hvl : v < 1099511627776) (hci : ci ≠ 999) (hcl : E.2.1[ci]? = some r) (hi : i < n) (k : vm_T E y kc ks (pc + 1) lv st (vm_up h a (.inl (.object r.1, n, .inr (.inr (.inr (.inr (va_up f i (some v)))))))) Q) : vm_T E y kc ks pc lv (.ref v :: .int (nI i) :: .ref a :: st) h Q := by
  intro G p e R s m args below meth c H locs cells slots mc ms ls X I hL hl hc hs
  have K := X.2.2.2.2.2.2.2.2.1
  obtain ⟨h1, h2, h3, h4⟩ := vm_ix I ha (by unfold vm_no; exact fun q => by cases q) hlt
  obtain ⟨g1, g2, g3, g4⟩ := vm_ix I hv (by unfold vm_no; exact fun q => by cases q; exact hci rfl) hvl
  obtain ⟨r', hr', cellV, w1, w2, w3, -⟩ := g3
  have h3 : H[vm_ad G a]? = some (arrV (G.2.2.2.1 (.object r.1)) n (fun j => va_rf ((f j).map (vm_ad G)))) := h3
  have hcls := (K.1.1 ci r hcl).2
  obtain ⟨kA, comp, k1, k2, k3, -⟩ := (vm_arr K ht).2
  have hcomp : comp = G.2.2.1.1 ci := Option.some.inj (k3.symm.trans hcls.1)
  subst hcomp
  obtain ⟨kC, hkC, -⟩ := hcls.2
  have h4 : n < 2147483648 := h4
  have h0 : ¬ nI i < 0 := nI_pos (by omega)
  have hcl9 : (nI i).toNatClampNeg = i := nI_clamp (by omega)
  refine W.aast X.1 X.2.1 h3 (fun q h => by cases h) (fun h => by cases h) k1 k2 rfl hkC ⟨h0, by rw [arrV_size, hcl9]; exact hi⟩ w1 (fun q h => by rw [w3] at h; cases h) (by rw [w2]; exact hkC) (by rw [w2]; exact va_assign hcls) rfl rfl hd fun H1 e1 z oq => ?_
  rw [hcl9] at e1 ⊢
  refine k G p e R s m args below meth c H1 _ cells slots mc ms ls X (vm_wr I h1 z ?_ oq h4 (by unfold vm_no; exact fun q => by cases q)) (vm_lc hL (by omega)) hl hc hs
  show H1[vm_ad G a]? = some (arrV (G.2.2.2.1 (.object r.1)) n (fun j => va_rf ((va_up f i (some v) j).map (vm_ad G))))
  rw [e1, arrV_store]
  congr 2
  funext q
  by_cases hq : q = i
  · subst hq
    simp [updV, va_up, va_rf]
  · simp [updV, va_up, hq]
theorem vm_nn {z : Int32} (hz : ¬ z < 0) : z.toInt = (z.toNatClampNeg : Int) := by
  have hz0 : (0 : Int) ≤ z.toInt := by
    have := Int32.not_lt.mp hz
    simpa using Int32.le_iff_toInt_le.mp this
  show z.toInt = ((z.toInt.toNat : Nat) : Int)
  omega
/-- System.arraycopy: words that a class needs to call it -/
def vm_AC (E : vm_E) (own : String) (idx : Nat) : Prop := Jvm.Cond.methodLink own idx arraycopyName ∈ E.2.2.2.1 ∧ Jvm.Cond.native arraycopyName ∈ E.2.2.2.1 ∧ Jvm.Cond.static arraycopyName ∈ E.2.2.2.1 ∧ Jvm.Cond.initialized "java/lang/System" ∈ E.2.2.2.1
theorem vm_r_copyI {idx a0 a1 n0 n1 sp dp n : Nat} {ty : FieldType} {f g : Nat → Int32} (hd : decode y.2.1 pc = .ok (.invokestatic idx, 3)) (hA : vm_AC E y.1.cls idx) (ht : ty ∈ E.2.2.1) (hp : refKind ty = false) (ha0 : h.2 a0 = .inl (ty, n0, .inl f)) (ha1 : h.2 a1 = .inl (ty, n1, .inl g)) (hlt : a1 < 1099511627776) (hsp : sp + n ≤ n0) (hdp : dp + n ≤ n1) (hfr : 1 ≤ y.2.2.2.2.1) (hlo : (st.map fun v => v.category).sum + (nativeFrameWords "java/lang/System" "arraycopy" 5 + 11) ≤ y.2.2.2.2.2) (k : vm_T E y kc ks (pc + 3) lv st (vm_up h a1 (.inl (ty, n1, .inl (va_cpy f g sp dp n)))) Q) : vm_T E y kc ks pc lv (.int (Int32.ofNat n) :: .int (Int32.ofNat dp) :: .ref a1 :: .int (Int32.ofNat sp) :: .ref a0 :: st) h Q := by
  intro G p e R s m args below meth c H locs cells slots mc ms ls X I hL hl hc hs
  have K := X.2.2.2.2.2.2.2.2.1
  have hts := X.2.2.2.2.2.2.2.1
  have hown := X.2.2.2.2.2.2.1
  have hR := X.2.2.2.2.2.2.2.2.2.1
  obtain ⟨w1, w2, w3, w4⟩ := hA
  obtain ⟨cell, q1, ⟨q2, k0, hk0, cm0, hkk0⟩, q3, q4, q5, q6, q7, hn0⟩ := vm_arrI K I ht ha0
  obtain ⟨h1, h2, h3, hn1, h4⟩ := vm_ix I ha1 (by unfold vm_no; exact fun q => by cases q) hlt
  obtain ⟨esp1, esp2⟩ := vm_cl (N := sp) (by omega)
  obtain ⟨edp1, edp2⟩ := vm_cl (N := dp) (by omega)
  obtain ⟨en1, en2⟩ := vm_cl (N := n) (by omega)
  have h3 : H[vm_ad G a1]? = some (arrV (G.2.2.2.1 ty) n1 (fun j => .int (g j))) := h3
  obtain ⟨-, k1, hk1, cm1, hkk1⟩ := (vm_arr K ht).1 n1 (fun j => .int (g j))
  have hcat : ((st.map (vm_v G)).map fun v => v.category).sum = (st.map fun v => v.category).sum := by
    rw [List.map_map]; congr 2; funext v; exact vm_cat G v
  intro T hT XX
  obtain ⟨vm', X', step⟩ := XX.arraycopy X.1 hown (hts _ w1) (hts _ w2) (hts _ w3) (hts _ w4) (src := vm_ad G a0) (dst := vm_ad G a1) (cs := cell) (cd := arrV (G.2.2.2.1 ty) n1 (fun j => .int (g j))) (srcPos := Int32.ofNat sp) (destPos := Int32.ofNat dp) (n := Int32.ofNat n) (by rw [hT]; exact q1) (by rw [hT]; exact h3)
    q2 (fun _ h => by cases h) q3 (fun h => by cases h) hk0 hk1 hkk0 hkk1 (by simp [hp]) esp1 edp1 en1
    (by rw [vm_nn esp1, vm_nn en1, esp2, en2]; omega)
    (by rw [vm_nn edp1, vm_nn en1, edp2, en2, arrV_size]; omega)
    (fun vm₁ _ i hi => by
      have hi : i < n := by rw [en2] at hi; exact hi
      have e9 : cell.slots.getD ((Int32.ofNat sp).toNatClampNeg + i) .null = .int (f (sp + i)) := by
        rw [esp2, Array.getD_eq_getD_getElem?, q6 _ (by omega)]
        rfl
      refine ⟨?_, ?_⟩
      · rw [e9]
        exact q7 _ (by omega)
      · rw [e9]
        exact trivial)
    (g := F0 m pc ls (.int (Int32.ofNat n) :: .int (Int32.ofNat dp) :: .ref (vm_ad G a1) :: .int (Int32.ofNat sp) :: .ref (vm_ad G a0) :: st.map (vm_v G))) rfl (by show ls.size = _; rw [X.2.2.1]; exact hl.1) (rest := st.map (vm_v G)) rfl (by rw [X.2.1]; exact hd) (by rw [hR]; exact hfr) (by rw [hR]; show 2 * 0 + _ + _ ≤ y.2.2.2.2.2; rw [hcat]; omega)
  have e1 : copied cell (arrV (G.2.2.2.1 ty) n1 (fun j => .int (g j))) (Int32.ofNat sp) (Int32.ofNat dp) (Int32.ofNat n) = arrV (G.2.2.2.1 ty) n1 (fun j => .int (va_cpy f g sp dp n j)) := by
    have := va_copiedX (fun z => Value.int z) cell (G.2.2.2.1 ty) (n0 := n0) (n1 := n1) (sp := sp) (dp := dp) (n := n) f g q6 hsp
    unfold copied
    rw [esp2, edp2, en2]
    exact this
  rw [e1] at X' step
  have hl9 : vm_ad G a1 < H.size := (Array.getElem?_eq_some_iff.mp h3).1
  have hheap : ((T.setVm vm').setCell (vm_ad G a1) (arrV (G.2.2.2.1 ty) n1 (fun j => .int (va_cpy f g sp dp n j)))).heap = H.setIfInBounds (vm_ad G a1) (arrV (G.2.2.2.1 ty) n1 (fun j => .int (va_cpy f g sp dp n j))) := by rw [← hT]; rfl
  have oq : ∀ q : Nat, q ≠ vm_ad G a1 → (H.setIfInBounds (vm_ad G a1) (arrV (G.2.2.2.1 ty) n1 (fun j => .int (va_cpy f g sp dp n j))))[q]? = H[q]? := fun q hq => by simp [Array.getElem?_setIfInBounds, Ne.symm hq]
  obtain ⟨t, a1', b1⟩ := k G p e R s m args below meth c _ _ cells slots mc ms ls X (vm_wr I h1 (by simp) (show (H.setIfInBounds (vm_ad G a1) _)[vm_ad G a1]? = some _ by simp only [Array.getElem?_setIfInBounds, hl9, if_true]; rfl) oq ⟨hn1, fun j hj => by
      unfold va_cpy
      split
      · exact q7 _ (by omega)
      · exact h4 j hj⟩ (by unfold vm_no; exact fun q => by cases q)) (fun q hq => by
      rcases List.mem_append.mp hq with h | h
      · exact hL q h
      · obtain ⟨z, -, hz⟩ := List.mem_map.mp h
        rw [← hz]
        show G.1 ≤ vm_ad G a1
        omega) hl hc hs _ hheap X'
  exact ⟨t, step t a1', b1⟩
theorem vm_r_copyL {idx a0 a1 n0 n1 sp dp n : Nat} {f g : Nat → Int64} (hd : decode y.2.1 pc = .ok (.invokestatic idx, 3)) (hA : vm_AC E y.1.cls idx) (ht : FieldType.long ∈ E.2.2.1) (ha0 : h.2 a0 = .inl (.long, n0, .inr (.inl f))) (ha1 : h.2 a1 = .inl (.long, n1, .inr (.inl g))) (hlt : a1 < 1099511627776) (hsp : sp + n ≤ n0) (hdp : dp + n ≤ n1) (hfr : 1 ≤ y.2.2.2.2.1) (hlo : (st.map fun v => v.category).sum + (nativeFrameWords "java/lang/System" "arraycopy" 5 + 11) ≤ y.2.2.2.2.2) (k : vm_T E y kc ks (pc + 3) lv st (vm_up h a1 (.inl (.long, n1, .inr (.inl (va_cpy f g sp dp n))))) Q) : vm_T E y kc ks pc lv (.int (Int32.ofNat n) :: .int (Int32.ofNat dp) :: .ref a1 :: .int (Int32.ofNat sp) :: .ref a0 :: st) h Q := by
  intro G p e R s m args below meth c H locs cells slots mc ms ls X I hL hl hc hs
  have K := X.2.2.2.2.2.2.2.2.1
  have hts := X.2.2.2.2.2.2.2.1
  have hown := X.2.2.2.2.2.2.1
  have hR := X.2.2.2.2.2.2.2.2.2.1
  obtain ⟨w1, w2, w3, w4⟩ := hA
  obtain ⟨cell, q1, ⟨q2, k0, hk0, cm0, hkk0⟩, q3, q4, q5, q6, hn0⟩ := vm_arrL K I ht ha0
  obtain ⟨h1, h2, h3, hn1, h4⟩ := vm_ix I ha1 (by unfold vm_no; exact fun q => by cases q) hlt
  obtain ⟨esp1, esp2⟩ := vm_cl (N := sp) (by omega)
  obtain ⟨edp1, edp2⟩ := vm_cl (N := dp) (by omega)
  obtain ⟨en1, en2⟩ := vm_cl (N := n) (by omega)
  have h3 : H[vm_ad G a1]? = some (arrV (G.2.2.2.1 .long) n1 (fun j => .long (g j))) := h3
  obtain ⟨-, k1, hk1, cm1, hkk1⟩ := (vm_arr K ht).1 n1 (fun j => .long (g j))
  have hcat : ((st.map (vm_v G)).map fun v => v.category).sum = (st.map fun v => v.category).sum := by
    rw [List.map_map]; congr 2; funext v; exact vm_cat G v
  intro T hT XX
  obtain ⟨vm', X', step⟩ := XX.arraycopy X.1 hown (hts _ w1) (hts _ w2) (hts _ w3) (hts _ w4) (src := vm_ad G a0) (dst := vm_ad G a1) (cs := cell) (cd := arrV (G.2.2.2.1 .long) n1 (fun j => .long (g j))) (srcPos := Int32.ofNat sp) (destPos := Int32.ofNat dp) (n := Int32.ofNat n) (by rw [hT]; exact q1) (by rw [hT]; exact h3)
    q2 (fun _ h => by cases h) q3 (fun h => by cases h) hk0 hk1 hkk0 hkk1 rfl esp1 edp1 en1
    (by rw [vm_nn esp1, vm_nn en1, esp2, en2]; omega)
    (by rw [vm_nn edp1, vm_nn en1, edp2, en2, arrV_size]; omega)
    (fun vm₁ _ i hi => by
      have hi : i < n := by rw [en2] at hi; exact hi
      have e9 : cell.slots.getD ((Int32.ofNat sp).toNatClampNeg + i) .null = .long (f (sp + i)) := by
        rw [esp2, Array.getD_eq_getD_getElem?, q6 _ (by omega)]
        rfl
      refine ⟨?_, ?_⟩
      · rw [e9]
        rfl
      · rw [e9]
        exact trivial)
    (g := F0 m pc ls (.int (Int32.ofNat n) :: .int (Int32.ofNat dp) :: .ref (vm_ad G a1) :: .int (Int32.ofNat sp) :: .ref (vm_ad G a0) :: st.map (vm_v G))) rfl (by show ls.size = _; rw [X.2.2.1]; exact hl.1) (rest := st.map (vm_v G)) rfl (by rw [X.2.1]; exact hd) (by rw [hR]; exact hfr) (by rw [hR]; show 2 * 0 + _ + _ ≤ y.2.2.2.2.2; rw [hcat]; omega)
  have e1 : copied cell (arrV (G.2.2.2.1 .long) n1 (fun j => .long (g j))) (Int32.ofNat sp) (Int32.ofNat dp) (Int32.ofNat n) = arrV (G.2.2.2.1 .long) n1 (fun j => .long (va_cpy f g sp dp n j)) := by
    have := va_copiedX (fun z => Value.long z) cell (G.2.2.2.1 .long) (n0 := n0) (n1 := n1) (sp := sp) (dp := dp) (n := n) f g q6 hsp
    unfold copied
    rw [esp2, edp2, en2]
    exact this
  rw [e1] at X' step
  have hl9 : vm_ad G a1 < H.size := (Array.getElem?_eq_some_iff.mp h3).1
  have hheap : ((T.setVm vm').setCell (vm_ad G a1) (arrV (G.2.2.2.1 .long) n1 (fun j => .long (va_cpy f g sp dp n j)))).heap = H.setIfInBounds (vm_ad G a1) (arrV (G.2.2.2.1 .long) n1 (fun j => .long (va_cpy f g sp dp n j))) := by rw [← hT]; rfl
  have oq : ∀ q : Nat, q ≠ vm_ad G a1 → (H.setIfInBounds (vm_ad G a1) (arrV (G.2.2.2.1 .long) n1 (fun j => .long (va_cpy f g sp dp n j))))[q]? = H[q]? := fun q hq => by simp [Array.getElem?_setIfInBounds, Ne.symm hq]
  obtain ⟨t, a1', b1⟩ := k G p e R s m args below meth c _ _ cells slots mc ms ls X (vm_wr I h1 (by simp) (show (H.setIfInBounds (vm_ad G a1) _)[vm_ad G a1]? = some _ by simp only [Array.getElem?_setIfInBounds, hl9, if_true]; rfl) oq ⟨hn1, rfl⟩ (by unfold vm_no; exact fun q => by cases q)) (fun q hq => by
      rcases List.mem_append.mp hq with h | h
      · exact hL q h
      · obtain ⟨z, -, hz⟩ := List.mem_map.mp h
        rw [← hz]
        show G.1 ≤ vm_ad G a1
        omega) hl hc hs _ hheap X'
  exact ⟨t, step t a1', b1⟩
theorem vm_adi {G : vm_G} {a b : Nat} (ha : a < 1099511627776) (hb : b < 1099511627776) : vm_ad G a = vm_ad G b ↔ a = b := by
  unfold vm_ad
  rw [if_pos ha, if_pos hb]
  omega
theorem vm_r_acmp_eq {a b : Nat} {off : Int} {tgt : Nat} (hd : decode y.2.1 pc = .ok (.if_acmp .eq off, 3)) (ht : (pc : Int) + off = (tgt : Int)) (ha : a < 1099511627776) (hb : b < 1099511627776) (kt : a = b → vm_T E y kc ks tgt lv st h Q) (kf : ¬ a = b → vm_T E y kc ks (pc + 3) lv st h Q) : vm_T E y kc ks pc lv (.ref b :: .ref a :: st) h Q := by
  intro G p e R s m args below meth c H locs cells slots mc ms ls X I hL hl hc hs
  exact lv_acmp_eq (rx := some (vm_ad G a)) (ry := some (vm_ad G b)) X.1 X.2.1 hd ht (fun q => kt ((vm_adi ha hb).mp (Option.some.inj q)) G p e R s m args below meth c H locs cells slots mc ms ls X I hL hl hc hs) (fun q => kf (fun z => q (by rw [z])) G p e R s m args below meth c H locs cells slots mc ms ls X I hL hl hc hs)
end
