/-! rows of the abstract machine: clone of an array of bytes, checkcast -/
section
variable {E : vm_E} {y : vm_M} {kc ks pc : Nat} {lv : vm_L} {st : List Value} {h : vm_H} {Q : Option Value → vm_H → Prop}
theorem vm_r_cloneB {idx a N : Nat} {f : Nat → Int32} (hd : decode y.2.1 pc = .ok (.invokevirtual idx, 3)) (w1 : Jvm.Cond.methodLink y.1.cls idx ⟨"[B", "clone", "()Ljava/lang/Object;"⟩ ∈ E.2.2.2.1) (w2 : Jvm.Cond.sameMethod "[B" "java/lang/Object" "clone" "()Ljava/lang/Object;" ∈ E.2.2.2.1) (w3 : Jvm.Cond.native ⟨"java/lang/Object", "clone", "()Ljava/lang/Object;"⟩ ∈ E.2.2.2.1) (w4 : Jvm.Cond.instanceMethod ⟨"java/lang/Object", "clone", "()Ljava/lang/Object;"⟩ ∈ E.2.2.2.1) (w5 : Jvm.Cond.selects "[B" ⟨"[B", "clone", "()Ljava/lang/Object;"⟩ ⟨"java/lang/Object", "clone", "()Ljava/lang/Object;"⟩ ∈ E.2.2.2.1) (w6 : Jvm.Cond.castable "[B" "java/lang/Cloneable" ∈ E.2.2.2.1) (ht : FieldType.byte ∈ E.2.2.1) (ha : h.2 a = .inl (.byte, N, .inl f)) (halt : a < 1099511627776) (hfr : 1 ≤ y.2.2.2.2.1) (hlo : (st.map fun v => v.category).sum + 14 ≤ y.2.2.2.2.2) (hk : 1 ≤ kc) (hsl : N ≤ ks) (hlt : h.1 + 1 < 1099511627776)
    (k : vm_T E y (kc - 1) (ks - N) (pc + 3) lv (.ref h.1 :: st) (vm_nw h (.inl (.byte, N, .inl f))) Q) : vm_T E y kc ks pc lv (.ref a :: st) h Q := by
  intro G p e R s m args below meth c H locs cells slots mc ms ls X I hL hl hc hs
  have K := X.2.2.2.2.2.2.2.2.1
  have hts := X.2.2.2.2.2.2.2.1
  have hown := X.2.2.2.2.2.2.1
  have hR := X.2.2.2.2.2.2.2.2.2.1
  have eA : vm_ad G h.1 = H.size := by unfold vm_ad; rw [if_pos (by omega), I.1]
  obtain ⟨h1, h2, h3, hn1, h4⟩ := vm_ix I ha (by unfold vm_no; exact fun q => by cases q) halt
  have h3 : H[vm_ad G a]? = some (arrV (G.2.2.2.1 .byte) N (fun j => .int (f j))) := h3
  have hnm : s.vm.findClass "[B" = some (G.2.2.2.1 .byte) := (vm_arr K ht).2
  obtain ⟨c0, t0', f1, f2, f3⟩ := Cond.castable_spec (hts _ w6)
  cases hnm.symm.trans f1
  have hcat : ((st.map (vm_v G)).map fun v => v.category).sum = (st.map fun v => v.category).sum := by
    rw [List.map_map]; congr 2; funext v; exact vm_cat G v
  generalize hcell : arrV (G.2.2.2.1 .byte) N (fun j => Value.int (f j)) = cell at *
  have hsz : cell.slots.size = N := by rw [← hcell]; exact arrV_size _ _ _
  have hvm0 : cell.vm = .none := by rw [← hcell]; rfl
  have hcl0 : cell.cls = G.2.2.2.1 .byte := by rw [← hcell]; rfl
  have hcellE : ({ cls := cell.cls, slots := cell.slots } : Cell) = cell := by rw [← hcell]; rfl
  intro T hT XX
  have hcellT : T.heap[vm_ad G a]? = some cell := by rw [hT]; exact h3
  obtain ⟨-, kA, hkA, comp, hkind⟩ := State.isArrayOf_alike XX.warmed.alike ((vm_arr K ht).1 0 (fun _ => .null))
  obtain ⟨-, kS, hkS, compS, hkindS⟩ := (vm_arr K ht).1 0 (fun _ => .null)
  obtain ⟨vm', X', stp⟩ := XX.cloneArray X.1 hown (hts _ w1) (hts _ w2) (hts _ w3) (hts _ w4) (hts _ w5) (a := vm_ad G a) (cell := cell) hcellT (fun k h => by rw [hvm0] at h; cases h) (by rw [hvm0]; exact fun h => by cases h) (by rw [hcl0]; exact hnm) f2 (by rw [hcl0]; exact f3)
    (fun i v hv => by
      rw [hcl0]
      have hk' : T.vm.classes[G.2.2.2.1 FieldType.byte]? = some kA := hkA
      have : fits .byte v = true := by
        have hi : i < N := by
          have := (Array.getElem?_eq_some_iff.mp hv).1
          rw [hsz] at this
          exact this
        rw [← hcell, arrV_read _ _ hi] at hv
        cases hv
        exact h4 i hi
      simpa [State.fitsSlot, State.slotType?, hk', hkind] using this)
    (g := F0 m pc ls (.ref (vm_ad G a) :: st.map (vm_v G))) rfl (by show ls.size = _; rw [X.2.2.1]; exact hl.1) rfl (by rw [X.2.1]; exact hd) (by rw [hR]; exact hfr) (by rw [hR]; show 2 * 0 + _ + 14 ≤ y.2.2.2.2.2; rw [hcat]; omega) (by rw [hR]; show _ ≤ mc; omega) (by rw [hsz, hR]; show _ ≤ ms; omega) (hloader := by rw [hcl0]; exact Vm.clonesLoader_of_array hkS hkindS)
  rw [hcellE, hsz] at X'
  generalize hH1 : H.push cell = H1
  have z1 : H1.size = H.size + 1 := by rw [← hH1, Array.size_push]
  have e1 : H1[H.size]? = some cell := by rw [← hH1, Array.getElem?_push_size]
  have o1 : ∀ q : Nat, q < H.size → H1[q]? = H[q]? := fun q hq => by rw [← hH1, Array.getElem?_push, if_neg (Nat.ne_of_lt hq)]
  have k2 := k G p e R s m args below meth c H1 locs (cells + 1) (slots + N) mc ms ls X (vm_al I hlt z1 (by rw [eA]; show H1[H.size]? = some _; rw [e1, ← hcell]; rfl) o1 ⟨hn1, h4⟩ (by unfold vm_no; exact fun q => by cases q)) hL hl (by omega) (by omega)
  have e9 : (Value.ref H.size :: st.map (vm_v G)) = (Value.ref h.1 :: st).map (vm_v G) := by
    show _ = Value.ref (vm_ad G h.1) :: _
    rw [eA]
  obtain ⟨t, b1, b2⟩ := (W.eq (by rw [← e9]) k2) ((T.setVm vm').pushCell cell) (by rw [← hH1, ← hT]; rfl) X'
  refine ⟨t, stp t ?_, b2⟩
  rw [hcellE, hT]
  exact b1
theorem vm_r_castB {idx a N : Nat} {f : Nat → Int32} (hd : decode y.2.1 pc = .ok (.checkcast idx, 3)) (w1 : Jvm.Cond.classLink y.1.cls idx "[B" ∈ E.2.2.2.1) (ht : FieldType.byte ∈ E.2.2.1) (ha : h.2 a = .inl (.byte, N, .inl f)) (halt : a < 1099511627776)
    (k : vm_T E y kc ks (pc + 3) lv (.ref a :: st) h Q) : vm_T E y kc ks pc lv (.ref a :: st) h Q := by
  intro G p e R s m args below meth c H locs cells slots mc ms ls X I hL hl hc hs
  have K := X.2.2.2.2.2.2.2.2.1
  have hts := X.2.2.2.2.2.2.2.1
  have hown := X.2.2.2.2.2.2.1
  obtain ⟨h1, h2, h3, hn1, h4⟩ := vm_ix I ha (by unfold vm_no; exact fun q => by cases q) halt
  have h3 : H[vm_ad G a]? = some (arrV (G.2.2.2.1 .byte) N (fun j => .int (f j))) := h3
  have hnm : s.vm.findClass "[B" = some (G.2.2.2.1 .byte) := (vm_arr K ht).2
  intro T hT XX
  obtain ⟨vm', X', stp⟩ := XX.checkcastYes X.1 hown (hts _ w1) (by rw [hT]; exact h3) rfl hnm (va_asg _ _) (g := F0 m pc ls (.ref (vm_ad G a) :: st.map (vm_v G))) rfl rfl (by rw [X.2.1]; exact hd)
  obtain ⟨t, a1, b1⟩ := k G p e R s m args below meth c H locs cells slots mc ms ls X I hL hl hc hs (T.setVm vm') hT X'
  exact ⟨t, stp t a1, b1⟩
end
def bJ7_copyOf_9075bx_13 : List vm_J := [(1, .areturn, 0, 0, 0, .null)]
set_option maxRecDepth 20000 in
theorem oJ7_copyOf_9075bx_13 : vm_okB 21 mJ7_copyOf_9075b 13 bJ7_copyOf_9075bx_13 = true := by decide +kernel
def bJ7_copyOfRange_39247x_24 : List vm_J := [(1, .areturn, 0, 0, 0, .null)]
set_option maxRecDepth 20000 in
theorem oJ7_copyOfRange_39247x_24 : vm_okB 21 mJ7_copyOfRange_39247 24 bJ7_copyOfRange_39247x_24 = true := by decide +kernel
theorem cl_1 : Jvm.Cond.methodLink "java/util/Arrays" 310 ⟨"[B", "clone", "()Ljava/lang/Object;"⟩ ∈ tables_1 := by decide +kernel
theorem cl_2 : Jvm.Cond.sameMethod "[B" "java/lang/Object" "clone" "()Ljava/lang/Object;" ∈ tables_1 := by decide +kernel
theorem cl_3 : Jvm.Cond.native ⟨"java/lang/Object", "clone", "()Ljava/lang/Object;"⟩ ∈ tables_1 := by decide +kernel
theorem cl_4 : Jvm.Cond.instanceMethod ⟨"java/lang/Object", "clone", "()Ljava/lang/Object;"⟩ ∈ tables_1 := by decide +kernel
theorem cl_5 : Jvm.Cond.selects "[B" ⟨"[B", "clone", "()Ljava/lang/Object;"⟩ ⟨"java/lang/Object", "clone", "()Ljava/lang/Object;"⟩ ∈ tables_1 := by decide +kernel
theorem cl_6 : Jvm.Cond.castable "[B" "java/lang/Cloneable" ∈ tables_1 := by decide +kernel
theorem cl_7 : Jvm.Cond.classLink "java/util/Arrays" 311 "[B" ∈ tables_1 := by decide +kernel
section
variable {l : Launch} {O : Nat → vm_Ob} {f9 : Value}
theorem s_copyOf {h : vm_H} {a na m : Nat} {c : Nat → Nat} (hc9 : Jvm.Cond.castable "[B" "java/lang/Cloneable" ∈ vm_wt) (ha : bv h na a c) (hao : a < 1099511627776) (ha1 : a ≠ h.1) (hm : m ≤ na) (hna : na < 65536) (hh : h.1 + 1 < 1099511627776) : vm_Met (vm_env l O f9) mJ7_copyOf_9075b 1 m [.ref a, .int (nI m)] h (fun r h' => r = some (.ref h.1) ∧ h'.1 = h.1 + 1 ∧ bv h' m h.1 c ∧ ∀ q, q ≠ h.1 → h'.2 q = h.2 q) := by
  obtain ⟨f, hf, vf⟩ := id ha
  have ho : h.1 < 1099511627776 := by omega
  refine vm_met (by decide +kernel) (Nat.le_of_ble_eq_true rfl) ?_
  refine vm_go rfl bJ7_copyOf_9075b_0 oJ7_copyOf_9075b_0 ⟨_, _, hf, by decide, ⟨fun q => ?_, fun q => ?_⟩⟩
  · have q : ¬ nI m = nI na := q
    rw [nI_ij (by omega) (by omega)] at q
    refine vm_go rfl bJ7_copyOf_9075b_14 oJ7_copyOf_9075b_14 ⟨m, rfl, by omega, by decide, Nat.le_refl _, hh, ?_⟩
    have f1 : (vm_nw h (.inl (.byte, m, .inl (fun _ => 0)))).2 a = .inl (.byte, na, .inl f) := (nw_n ha1).trans hf
    refine ⟨_, _, f1, by decide, ⟨0, 0, _, s_min (a := na) (b := m) (by omega) (by omega), Nat.zero_le _, Nat.zero_le _, ?_⟩⟩
    rintro _ h1 ⟨rfl, rfl⟩
    refine ⟨min na m, 0, 0, na, m, rfl, rfl, rfl, by omega, by omega, ho, f, _, f1, nw_e, ?_⟩
    refine ⟨rfl, rfl, ⟨_, vm_upe, fun j hj => ?_⟩, fun q hq => ?_⟩
    · unfold va_cpy
      rw [if_pos (by omega), Nat.sub_zero, Nat.zero_add]
      exact vf j (by omega)
    · rw [vm_upn hq, nw_n hq]
  · have q : nI m = nI na := q
    rw [nI_ij (by omega) (by omega)] at q
    subst q
    refine vm_r_cloneB (N := m) (f := f) (by decide +kernel) (vm_i cl_1 rfl) (vm_i cl_2 rfl) (vm_i cl_3 rfl) (vm_i cl_4 rfl) (vm_i cl_5 rfl) hc9 (show FieldType.byte ∈ vm_tys by decide) hf hao (by decide) (by decide) (by decide) (Nat.le_refl _) hh ?_
    refine vm_r_castB (N := m) (f := f) (by decide +kernel) (vm_i cl_7 rfl) (show FieldType.byte ∈ vm_tys by decide) nw_e ho ?_
    refine vm_go rfl bJ7_copyOf_9075bx_13 oJ7_copyOf_9075bx_13 ⟨rfl, rfl, ⟨f, nw_e, vf⟩, fun q hq => nw_n hq⟩
theorem s_chl {h : vm_H} {a b : Nat} (hab : a ≤ b) (hb : b < 65536) : vm_Met (vm_env l O f9) mJ7_checkLength_df160 0 0 [.int (nI a), .int (nI b)] h (fun r h' => r = none ∧ h' = h) := by
  refine vm_met (by decide +kernel) (Nat.le_of_ble_eq_true rfl) ?_
  refine vm_go rfl bJ7_checkLength_df160_0 oJ7_checkLength_df160_0 ⟨fun _ => ?_, fun q => absurd (nI_le hab (by omega)) q⟩
  exact vm_go rfl bJ7_checkLength_df160_37 oJ7_checkLength_df160_37 ⟨rfl, rfl⟩
theorem s_copyRB {h : vm_H} {a na x y : Nat} {c : Nat → Nat} (ha : bv h na a c) (ha1 : a ≠ h.1) (hxy : x ≤ y) (hy : y ≤ na) (hna : na < 65536) (hh : h.1 + 1 < 1099511627776) : vm_Met (vm_env l O f9) mJ7_copyOfRangeByte_39247 1 (y - x) [.ref a, .int (nI x), .int (nI y)] h (fun r h' => r = some (.ref h.1) ∧ h'.1 = h.1 + 1 ∧ bv h' (y - x) h.1 (fun j => c (x + j)) ∧ ∀ q, q ≠ h.1 → h'.2 q = h.2 q) := by
  obtain ⟨f, hf, vf⟩ := id ha
  have ho : h.1 < 1099511627776 := by omega
  have es : nI y - nI x = nI (y - x) := nI_sub hxy
  have es2 : nI na - nI x = nI (na - x) := nI_sub (by omega)
  refine vm_met (by decide +kernel) (Nat.le_of_ble_eq_true rfl) ?_
  refine vm_go rfl bJ7_copyOfRangeByte_39247_0 oJ7_copyOfRangeByte_39247_0 ⟨0, 0, _, s_chl hxy (by omega), Nat.zero_le _, Nat.zero_le _, ?_⟩
  rintro _ h1 ⟨rfl, rfl⟩
  refine ⟨y - x, es, by omega, by decide, Nat.le_refl _, hh, ?_⟩
  have f1 : (vm_nw h1 (.inl (.byte, y - x, .inl (fun _ => 0)))).2 a = .inl (.byte, na, .inl f) := (nw_n ha1).trans hf
  refine ⟨_, _, f1, by decide, ⟨0, 0, _, vm_metA (s_min (a := na - x) (b := y - x) (by omega) (by omega)) (by show [Value.int (nI (na - x)), .int (nI (y - x))] = [Value.int (nI na - nI x), .int (nI y - nI x)]; rw [es, es2]), Nat.zero_le _, Nat.zero_le _, ?_⟩⟩
  rintro _ h2 ⟨rfl, rfl⟩
  refine ⟨min (na - x) (y - x), 0, x, na, y - x, rfl, rfl, rfl, by omega, by omega, ho, f, _, f1, nw_e, ?_⟩
  refine ⟨rfl, rfl, ⟨_, vm_upe, fun j hj => ?_⟩, fun q hq => ?_⟩
  · unfold va_cpy
    rw [if_pos (by omega), Nat.sub_zero]
    exact vf (x + j) (by omega)
  · rw [vm_upn hq, nw_n hq]
theorem s_copyR {h : vm_H} {a na x y : Nat} {c : Nat → Nat} (ha : bv h na a c) (ha1 : a ≠ h.1) (hx : 0 < x) (hxy : x ≤ y) (hy : y ≤ na) (hna : na < 65536) (hh : h.1 + 1 < 1099511627776) : vm_Met (vm_env l O f9) mJ7_copyOfRange_39247 1 (y - x) [.ref a, .int (nI x), .int (nI y)] h (fun r h' => r = some (.ref h.1) ∧ h'.1 = h.1 + 1 ∧ bv h' (y - x) h.1 (fun j => c (x + j)) ∧ ∀ q, q ≠ h.1 → h'.2 q = h.2 q) := by
  refine vm_met (by decide +kernel) (Nat.le_of_ble_eq_true rfl) ?_
  refine vm_go rfl bJ7_copyOfRange_39247_0 oJ7_copyOfRange_39247_0 ⟨fun _ => ?_, fun q => absurd q (nI_ne0 hx (by omega))⟩
  refine vm_go rfl bJ7_copyOfRange_39247_10 oJ7_copyOfRange_39247_10 ⟨1, y - x, _, s_copyRB ha ha1 hxy hy hna hh, Nat.le_refl _, Nat.le_refl _, ?_⟩
  rintro _ h1 ⟨rfl, k⟩
  exact ⟨rfl, k⟩
end
