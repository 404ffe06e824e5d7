/-! rows of the abstract machine that read and write cells -/
theorem vm_read {G : vm_G} {E : vm_E} {h : vm_H} {H : Heap} {a : Nat} {o : vm_Ob} (I : vm_I G E h H) (ha : h.2 a = o) (ho : o ≠ vm_no) :
    (a < h.1 ∧ vm_ad G a = G.1 + a ∧ va_at G.2.2.1 E.2.1 (vm_ad G a, vm_c G o) H ∧ vm_fit o) ∨ ∃ k : Nat, vm_ad G a = G.2.1 k ∧ E.2.2.2.2.1 k = o := by
  obtain ⟨i1, i2, i3, i4, i5, i6⟩ := I
  by_cases h1 : a < h.1
  · have e : vm_ad G a = G.1 + a := by unfold vm_ad; rw [if_pos (by omega)]
    subst ha
    exact Or.inl ⟨h1, e, by rw [e]; exact (i3 a h1).1, (i3 a h1).2.1⟩
  · by_cases h2 : a < 1099511627776
    · exact absurd (ha.symm.trans (i4 a (by omega) h2)) ho
    · refine Or.inr ⟨a - 1099511627776, ?_, ?_⟩
      · unfold vm_ad; rw [if_neg h2]
      · have e9 : 1099511627776 + (a - 1099511627776) = a := Nat.add_sub_cancel' (Nat.not_lt.mp h2)
        rw [← i6, e9, ha]
theorem vm_arr {G : vm_G} {E : vm_E} {s : State} {ty : FieldType} (K : vm_K G E s) (ht : ty ∈ E.2.2.1) : ArrOfT s (G.2.2.2.1 ty) ty ∧ va_RA s (G.2.2.2.1 ty) ty := by
  have h1 : (G.2.2.2.1 ty, ty) ∈ E.2.2.1.map (fun t => (G.2.2.2.1 t, t)) := List.mem_map.mpr ⟨ty, ht, rfl⟩
  obtain ⟨k, hk⟩ := List.getElem?_of_mem h1
  exact K.1.2 k _ hk
/-- an array of small numbers, new or old -/
theorem vm_arrI {G : vm_G} {E : vm_E} {h : vm_H} {H : Heap} {s : State} {a n : Nat} {ty : FieldType} {f : Nat → Int32} (K : vm_K G E s) (I : vm_I G E h H) (ht : ty ∈ E.2.2.1) (ha : h.2 a = .inl (ty, n, .inl f)) :
    ∃ cell : Cell, H[vm_ad G a]? = some cell ∧ s.isArrayOf cell ty ∧ cell.vm ≠ .unknown ∧ n ≤ cell.slots.size ∧ cell.slots.size.toInt32 = Int32.ofNat n ∧ (∀ j : Nat, j < n → cell.slots[j]? = some (.int (f j))) ∧ (∀ j, j < n → fits ty (.int (f j)) = true) ∧ n < 2147483648 := by
  rcases vm_read I ha (by unfold vm_no; exact fun q => by cases q) with ⟨h1, h2, h3, h4⟩ | ⟨k, e1, e2⟩
  · have h3 : H[vm_ad G a]? = some (arrV (G.2.2.2.1 ty) n (fun j => .int (f j))) := h3
    refine ⟨_, h3, (vm_arr K ht).1 n _, (fun q => by cases q), by rw [arrV_size]; exact Nat.le_refl _, by rw [arrV_size], fun j hj => arrV_read _ _ hj, h4.2, h4.1⟩
  · have h5 := K.2.1 k (by rw [e2]; unfold vm_no; exact fun q => by cases q)
    rw [e2] at h5
    obtain ⟨⟨cell, q1, q2, q3, q4, q5, q6, q7⟩, q9, q8⟩ := h5
    exact ⟨cell, by rw [e1, I.2.2.2.2.1 _ (Nat.not_le.mp q7)]; exact q1, q2, q3, q4, q5, q6, q8, q9⟩
theorem vm_arrL {G : vm_G} {E : vm_E} {h : vm_H} {H : Heap} {s : State} {a n : Nat} {ty : FieldType} {f : Nat → Int64} (K : vm_K G E s) (I : vm_I G E h H) (ht : ty ∈ E.2.2.1) (ha : h.2 a = .inl (ty, n, .inr (.inl f))) :
    ∃ cell : Cell, H[vm_ad G a]? = some cell ∧ s.isArrayOf cell ty ∧ cell.vm ≠ .unknown ∧ n ≤ cell.slots.size ∧ cell.slots.size.toInt32 = Int32.ofNat n ∧ (∀ j : Nat, j < n → cell.slots[j]? = some (.long (f j))) ∧ n < 2147483648 := by
  rcases vm_read I ha (by unfold vm_no; exact fun q => by cases q) with ⟨h1, h2, h3, h4⟩ | ⟨k, e1, e2⟩
  · have h3 : H[vm_ad G a]? = some (arrV (G.2.2.2.1 ty) n (fun j => .long (f j))) := h3
    refine ⟨_, h3, (vm_arr K ht).1 n _, (fun q => by cases q), by rw [arrV_size]; exact Nat.le_refl _, by rw [arrV_size], fun j hj => arrV_read _ _ hj, h4.1⟩
  · have h5 := K.2.1 k (by rw [e2]; unfold vm_no; exact fun q => by cases q)
    rw [e2] at h5
    obtain ⟨⟨cell, q1, q2, q3, q4, q5, q6, q7⟩, q8, q9⟩ := h5
    exact ⟨cell, by rw [e1, I.2.2.2.2.1 _ (Nat.not_le.mp q7)]; exact q1, q2, q3, q4, q5, q6, q8⟩
theorem vm_bd {i : Int32} {n z : Nat} (hi : vp_in i n) (hz : n ≤ z) : ¬ (i < 0 ∨ z ≤ i.toNatClampNeg) := fun q => hi (q.elim Or.inl fun q => Or.inr (Nat.le_trans hz q))
theorem vm_lt {i : Int32} {n : Nat} (hi : vp_in i n) : i.toNatClampNeg < n := Nat.not_le.mp fun q => hi (Or.inr q)
section
variable {E : vm_E} {y : vm_M} {kc ks pc : Nat} {lv : vm_L} {st : List Value} {h : vm_H} {Q : Option Value → vm_H → Prop}
theorem vm_r_iaload {i a n : Nat} {f : Nat → Int32} (hd : decode y.2.1 pc = .ok (.iaload, 1)) (ht : FieldType.int ∈ E.2.2.1) (ha : h.2 a = .inl (.int, n, .inl f)) (hi : i < n) (k : vm_T E y kc ks (pc + 1) lv (.int (f i) :: st) h Q) : vm_T E y kc ks pc lv (.int (nI i) :: .ref a :: st) h Q := by
  intro G p e R s m args below meth c H locs cells slots mc ms ls X I hL hl hc hs
  obtain ⟨cell, q1, q2, q3, q4, q5, q6, q7, q8⟩ := vm_arrI X.2.2.2.2.2.2.2.2.1 I ht ha
  exact W.iald X.1 X.2.1 q1 q2 q3 (vm_bd (vp_in_nI hi q8) q4) (by rw [nI_clamp (by omega)]; exact q6 _ hi) rfl rfl hd (k G p e R s m args below meth c H locs cells slots mc ms ls X I hL hl hc hs)
theorem vm_r_baload {i a n : Nat} {f : Nat → Int32} (hd : decode y.2.1 pc = .ok (.baload, 1)) (ht : FieldType.byte ∈ E.2.2.1) (ha : h.2 a = .inl (.byte, n, .inl f)) (hi : i < n) (k : fits .byte (.int (f i)) = true → vm_T E y kc ks (pc + 1) lv (.int (f i) :: st) h Q) : vm_T E y kc ks pc lv (.int (nI i) :: .ref a :: st) h Q := by
  intro G p e R s m args below meth c H locs cells slots mc ms ls X I hL hl hc hs
  obtain ⟨cell, q1, q2, q3, q4, q5, q6, q7, q8⟩ := vm_arrI X.2.2.2.2.2.2.2.2.1 I ht ha
  exact W.bald X.1 X.2.1 q1 q2 q3 (vm_bd (vp_in_nI hi q8) q4) (by rw [nI_clamp (by omega)]; exact q6 _ hi) rfl rfl hd (k (q7 _ hi) G p e R s m args below meth c H locs cells slots mc ms ls X I hL hl hc hs)
theorem vm_r_zaload {i a n : Nat} {f : Nat → Int32} (hd : decode y.2.1 pc = .ok (.baload, 1)) (ht : FieldType.boolean ∈ E.2.2.1) (ha : h.2 a = .inl (.boolean, n, .inl f)) (hi : i < n) (k : fits .boolean (.int (f i)) = true → vm_T E y kc ks (pc + 1) lv (.int (f i) :: st) h Q) : vm_T E y kc ks pc lv (.int (nI i) :: .ref a :: st) h Q := by
  intro G p e R s m args below meth c H locs cells slots mc ms ls X I hL hl hc hs
  obtain ⟨cell, q1, q2, q3, q4, q5, q6, q7, q8⟩ := vm_arrI X.2.2.2.2.2.2.2.2.1 I ht ha
  exact W.zald X.1 X.2.1 q1 q2 q3 (vm_bd (vp_in_nI hi q8) q4) (by rw [nI_clamp (by omega)]; exact q6 _ hi) rfl rfl hd (k (q7 _ hi) G p e R s m args below meth c H locs cells slots mc ms ls X I hL hl hc hs)
theorem vm_r_laload {i a n : Nat} {f : Nat → Int64} (hd : decode y.2.1 pc = .ok (.laload, 1)) (ht : FieldType.long ∈ E.2.2.1) (ha : h.2 a = .inl (.long, n, .inr (.inl f))) (hi : i < n) (k : vm_T E y kc ks (pc + 1) lv (.long (f i) :: st) h Q) : vm_T E y kc ks pc lv (.int (nI i) :: .ref a :: st) h Q := by
  intro G p e R s m args below meth c H locs cells slots mc ms ls X I hL hl hc hs
  obtain ⟨cell, q1, q2, q3, q4, q5, q6, q8⟩ := vm_arrL X.2.2.2.2.2.2.2.2.1 I ht ha
  exact W.lald X.1 X.2.1 q1 q2 q3 (vm_bd (vp_in_nI hi q8) q4) (by rw [nI_clamp (by omega)]; exact q6 _ hi) rfl rfl hd (k G p e R s m args below meth c H locs cells slots mc ms ls X I hL hl hc hs)
theorem vm_rf (G : vm_G) (r : Option Nat) : vm_v G (va_rf r) = va_rf (r.map (vm_ad G)) := by
  cases r <;> rfl
theorem vm_r_aaload {i a n : Nat} {ty : FieldType} {f : Nat → Option Nat} {v : Value} (hd : decode y.2.1 pc = .ok (.aaload, 1)) (ht : ty ∈ E.2.2.1) (hty : ty.isReference = true) (ha : h.2 a = .inl (ty, n, .inr (.inr (.inr (.inr f))))) (hi : i < n) (hv : va_rf (f i) = v) (k : vm_T E y kc ks (pc + 1) lv (v :: st) h Q) : vm_T E y kc ks pc lv (.int (nI i) :: .ref a :: st) h Q := by
  intro G p e R s m args below meth c H locs cells slots mc ms ls X I hL hl hc hs
  have K := X.2.2.2.2.2.2.2.2.1
  rcases vm_read I ha (by unfold vm_no; exact fun q => by cases q) with ⟨h1, h2, h3, h4⟩ | ⟨k, e1, e2⟩
  · have h3 : H[vm_ad G a]? = some (arrV (G.2.2.2.1 ty) n (fun j => va_rf ((f j).map (vm_ad G)))) := h3
    exact W.aald (v := vm_v G v) X.1 X.2.1 h3 ((vm_arr K ht).1 n _) hty (fun q => by cases q) (vm_bd (vp_in_nI hi h4) (by rw [arrV_size]; exact Nat.le_refl _)) (by rw [nI_clamp (by have : n < 2147483648 := h4; omega), arrV_read _ _ hi, ← hv, vm_rf]) rfl rfl hd (k G p e R s m args below meth c H locs cells slots mc ms ls X I hL hl hc hs)
  · have h5 := K.2.1 k (by rw [e2]; unfold vm_no; exact fun q => by cases q)
    rw [e2] at h5
    exact absurd h5 (fun q => q)
theorem vm_r_alen {a : Nat} {ty : FieldType} {x : vp_A} (hd : decode y.2.1 pc = .ok (.arraylength, 1)) (ht : ty ∈ E.2.2.1) (ha : h.2 a = .inl (ty, x)) (k : vm_T E y kc ks (pc + 1) lv (.int (Int32.ofNat x.1) :: st) h Q) : vm_T E y kc ks pc lv (.ref a :: st) h Q := by
  intro G p e R s m args below meth c H locs cells slots mc ms ls X I hL hl hc hs
  have K := X.2.2.2.2.2.2.2.2.1
  obtain ⟨n, x⟩ := x
  have key : ∃ cell : Cell, H[vm_ad G a]? = some cell ∧ s.isArrayOf cell ty ∧ cell.slots.size.toInt32 = Int32.ofNat n := by
    match x, ha with
    | .inl f, ha => obtain ⟨cell, q1, q2, q3, q4, q5, q6, q7, q8⟩ := vm_arrI K I ht ha; exact ⟨cell, q1, q2, q5⟩
    | .inr (.inl f), ha => obtain ⟨cell, q1, q2, q3, q4, q5, q6, q8⟩ := vm_arrL K I ht ha; exact ⟨cell, q1, q2, q5⟩
    | .inr (.inr x), ha =>
      rcases vm_read I ha (by unfold vm_no; exact fun q => by cases q) with ⟨h1, h2, h3, h4⟩ | ⟨k, e1, e2⟩
      · match x, h3 with
        | .inl f, h3 =>
          have h3 : H[vm_ad G a]? = some (arrV (G.2.2.2.1 ty) n (fun j => .float (f j))) := h3
          exact ⟨_, h3, (vm_arr K ht).1 n _, by rw [arrV_size]⟩
        | .inr (.inl f), h3 =>
          have h3 : H[vm_ad G a]? = some (arrV (G.2.2.2.1 ty) n (fun j => .double (f j))) := h3
          exact ⟨_, h3, (vm_arr K ht).1 n _, by rw [arrV_size]⟩
        | .inr (.inr f), h3 =>
          have h3 : H[vm_ad G a]? = some (arrV (G.2.2.2.1 ty) n (fun j => va_rf ((f j).map (vm_ad G)))) := h3
          exact ⟨_, h3, (vm_arr K ht).1 n _, by rw [arrV_size]⟩
      · have h5 := K.2.1 k (by rw [e2]; unfold vm_no; exact fun q => by cases q)
        rw [e2] at h5
        exact absurd h5 (fun q => q)
  obtain ⟨cell, q1, q2, q3⟩ := key
  exact W.alen X.1 X.2.1 q1 q2 q3 rfl rfl hd (k G p e R s m args below meth c H locs cells slots mc ms ls X I hL hl hc hs)
end
theorem vm_wr {G : vm_G} {E : vm_E} {h : vm_H} {H H1 : Heap} {a : Nat} {o : vm_Ob} (I : vm_I G E h H) (ha : a < h.1) (z : H1.size = H.size) (e : va_at G.2.2.1 E.2.1 (vm_ad G a, vm_c G o) H1) (oq : ∀ q, q ≠ vm_ad G a → H1[q]? = H[q]?) (hf : vm_fit o) (hno : o ≠ vm_no) : vm_I G E (vm_up h a o) H1 := by
  obtain ⟨i1, i2, i3, i4, i5, i6⟩ := I
  have ea : vm_ad G a = G.1 + a := by unfold vm_ad; rw [if_pos (by omega)]
  rw [ea] at e oq
  refine ⟨z.trans i1, i2, fun i hi => ?_, fun i h1 h2 => ?_, fun q hq => (oq q (by omega)).trans (i5 q hq), fun k => ?_⟩
  · have hi : i < h.1 := hi
    by_cases hia : i = a
    · subst hia
      have : (vm_up h i o).2 i = o := by simp [vm_up, va_up]
      rw [this]
      exact ⟨e, hf, hno⟩
    · have : (vm_up h a o).2 i = h.2 i := by simp [vm_up, va_up, hia]
      rw [this]
      exact ⟨(i3 i hi).1.kept (oq _ (by show G.1 + i ≠ G.1 + a; omega)), (i3 i hi).2⟩
  · have h1 : h.1 ≤ i := h1
    have : (vm_up h a o).2 i = h.2 i := by simp [vm_up, va_up, show i ≠ a by omega]
    rw [this]
    exact i4 i h1 h2
  · have : (vm_up h a o).2 (1099511627776 + k) = h.2 (1099511627776 + k) := by simp [vm_up, va_up, show 1099511627776 + k ≠ a by omega]
    rw [this]
    exact i6 k
theorem vm_al {G : vm_G} {E : vm_E} {h : vm_H} {H H1 : Heap} {o : vm_Ob} (I : vm_I G E h H) (hlt : h.1 + 1 < 1099511627776) (z : H1.size = H.size + 1) (e : va_at G.2.2.1 E.2.1 (vm_ad G h.1, vm_c G o) H1) (oq : ∀ q, q < H.size → H1[q]? = H[q]?) (hf : vm_fit o) (hno : o ≠ vm_no) : vm_I G E (vm_nw h o) H1 := by
  obtain ⟨i1, i2, i3, i4, i5, i6⟩ := I
  have ea : vm_ad G h.1 = G.1 + h.1 := by unfold vm_ad; rw [if_pos (by omega)]
  rw [ea] at e
  refine ⟨by show H1.size = G.1 + (h.1 + 1); omega, hlt, fun i hi => ?_, fun i h1 h2 => ?_, fun q hq => (oq q (by omega)).trans (i5 q hq), fun k => ?_⟩
  · have hi : i < h.1 + 1 := hi
    by_cases hia : i = h.1
    · subst hia
      have : (vm_nw h o).2 h.1 = o := by simp [vm_nw, va_up]
      rw [this]
      exact ⟨e, hf, hno⟩
    · have : (vm_nw h o).2 i = h.2 i := by simp [vm_nw, va_up, hia]
      rw [this]
      exact ⟨(i3 i (by omega)).1.kept (oq _ (by show G.1 + i < H.size; omega)), (i3 i (by omega)).2⟩
  · have h1 : h.1 + 1 ≤ i := h1
    have : (vm_nw h o).2 i = h.2 i := by simp [vm_nw, va_up, show i ≠ h.1 by omega]
    rw [this]
    exact i4 i (by omega) h2
  · have : (vm_nw h o).2 (1099511627776 + k) = h.2 (1099511627776 + k) := by simp [vm_nw, va_up, show 1099511627776 + k ≠ h.1 by omega]
    rw [this]
    exact i6 k
theorem vm_ix {G : vm_G} {E : vm_E} {h : vm_H} {H : Heap} {a : Nat} {o : vm_Ob} (I : vm_I G E h H) (ha : h.2 a = o) (ho : o ≠ vm_no) (hlt : a < 1099511627776) : a < h.1 ∧ vm_ad G a = G.1 + a ∧ va_at G.2.2.1 E.2.1 (vm_ad G a, vm_c G o) H ∧ vm_fit o := by
  obtain ⟨i1, i2, i3, i4, i5, i6⟩ := I
  have h1 : a < h.1 := by
    rcases Nat.lt_or_ge a h.1 with q | q
    · exact q
    · exact absurd (ha.symm.trans (i4 a q hlt)) ho
  have e : vm_ad G a = G.1 + a := by unfold vm_ad; rw [if_pos hlt]
  subst ha
  exact ⟨h1, e, by rw [e]; exact (i3 a h1).1, (i3 a h1).2.1⟩
theorem vm_lc {G : vm_G} {locs : List Loc} {b k : Nat} (hL : ∀ q ∈ locs, G.1 ≤ q.base) (hb : G.1 ≤ b) : ∀ q ∈ locs ++ [(⟨b, k⟩ : Loc)], G.1 ≤ q.base := by
  intro q hq
  rcases List.mem_append.mp hq with h | h
  · exact hL q h
  · rw [List.mem_singleton.mp h]; exact hb
section
variable {E : vm_E} {y : vm_M} {kc ks pc : Nat} {lv : vm_L} {st : List Value} {h : vm_H} {Q : Option Value → vm_H → Prop}
theorem vm_r_iastore {x : Int32} {i a n : Nat} {f : Nat → Int32} (hd : decode y.2.1 pc = .ok (.iastore, 1)) (ht : FieldType.int ∈ E.2.2.1) (ha : h.2 a = .inl (.int, n, .inl f)) (hlt : a < 1099511627776) (hi : i < n) (k : vm_T E y kc ks (pc + 1) lv st (vm_up h a (.inl (.int, n, .inl (upd f i x)))) Q) : vm_T E y kc ks pc lv (.int x :: .int (nI i) :: .ref a :: st) h Q := by
  intro G p e R s m args below meth c H locs cells slots mc ms ls X I hL hl hc hs
  have K := X.2.2.2.2.2.2.2.2.1
  obtain ⟨h1, h2, h3, h4⟩ := vm_ix I ha (by unfold vm_no; exact fun q => by cases q) hlt
  have h3 : H[vm_ad G a]? = some (arrV (G.2.2.2.1 .int) n (fun j => .int (f j))) := h3
  refine W.iast X.1 X.2.1 h3 ((vm_arr K ht).1 n _) (fun q => by cases q) (vm_bd (vp_in_nI hi h4.1) (by rw [arrV_size]; exact Nat.le_refl _)) rfl rfl hd fun H1 e1 z oq => ?_
  rw [nI_clamp (show i < 2147483648 by have := h4.1; omega)] at e1 ⊢
  refine k G p e R s m args below meth c H1 _ cells slots mc ms ls X (vm_wr I h1 z ?_ oq ⟨h4.1, fun j hj => rfl⟩ (by unfold vm_no; exact fun q => by cases q)) (vm_lc hL (by omega)) hl hc hs
  show H1[vm_ad G a]? = some (arrV (G.2.2.2.1 .int) n (fun j => .int (upd f i x j)))
  rw [e1, arrV_store]
  congr 2
  funext q
  by_cases hq : q = i <;> simp [updV, upd, hq]
theorem vm_nz {x : Int32} : vp_nar .boolean x = x &&& 1 := rfl
theorem vm_fz (x : Int32) : fits .boolean (.int (x &&& 1)) = true := by
  show ((x &&& 1) == 0 || (x &&& 1) == 1) = true
  obtain ⟨j, hj, e⟩ := pk_andE x (m := 1) 1 (by decide)
  rw [e]
  rcases (show j = 0 ∨ j = 1 by omega) with rfl | rfl <;> decide
theorem vm_fb (x : Int32) : fits .byte (.int x.toInt8.toInt32) = true := pk_fb x
theorem vm_r_bastore {x : Int32} {i a n : Nat} {f : Nat → Int32} (hd : decode y.2.1 pc = .ok (.bastore, 1)) (ht : FieldType.byte ∈ E.2.2.1) (ha : h.2 a = .inl (.byte, n, .inl f)) (hlt : a < 1099511627776) (hi : i < n) (k : vm_T E y kc ks (pc + 1) lv st (vm_up h a (.inl (.byte, n, .inl (upd f i x.toInt8.toInt32)))) Q) : vm_T E y kc ks pc lv (.int x :: .int (nI i) :: .ref a :: st) h Q := by
  intro G p e R s m args below meth c H locs cells slots mc ms ls X I hL hl hc hs
  have K := X.2.2.2.2.2.2.2.2.1
  obtain ⟨h1, h2, h3, h4⟩ := vm_ix I ha (by unfold vm_no; exact fun q => by cases q) hlt
  have h3 : H[vm_ad G a]? = some (arrV (G.2.2.2.1 .byte) n (fun j => .int (f j))) := h3
  refine W.bast X.1 X.2.1 h3 ((vm_arr K ht).1 n _) (fun q => by cases q) (vm_bd (vp_in_nI hi h4.1) (by rw [arrV_size]; exact Nat.le_refl _)) rfl rfl hd fun H1 e1 z oq => ?_
  rw [nI_clamp (show i < 2147483648 by have := h4.1; omega)] at e1 ⊢
  refine k G p e R s m args below meth c H1 _ cells slots mc ms ls X (vm_wr I h1 z ?_ oq ⟨h4.1, fun j hj => ?_⟩ (by unfold vm_no; exact fun q => by cases q)) (vm_lc hL (by omega)) hl hc hs
  · show H1[vm_ad G a]? = some (arrV (G.2.2.2.1 .byte) n (fun j => .int (upd f i x.toInt8.toInt32 j)))
    rw [e1, arrV_store]
    congr 2
    funext q
    by_cases hq : q = i <;> simp [updV, upd, hq, narrow]
  · by_cases hq : j = i
    · simp only [upd, hq, if_true]; exact vm_fb x
    · simp only [upd, hq, if_false]; exact h4.2 j hj
theorem vm_r_zastore {x : Int32} {i a n : Nat} {f : Nat → Int32} (hd : decode y.2.1 pc = .ok (.bastore, 1)) (ht : FieldType.boolean ∈ E.2.2.1) (ha : h.2 a = .inl (.boolean, n, .inl f)) (hlt : a < 1099511627776) (hi : i < n) (k : vm_T E y kc ks (pc + 1) lv st (vm_up h a (.inl (.boolean, n, .inl (upd f i (x &&& 1))))) Q) : vm_T E y kc ks pc lv (.int x :: .int (nI i) :: .ref a :: st) h Q := by
  intro G p e R s m args below meth c H locs cells slots mc ms ls X I hL hl hc hs
  have K := X.2.2.2.2.2.2.2.2.1
  obtain ⟨h1, h2, h3, h4⟩ := vm_ix I ha (by unfold vm_no; exact fun q => by cases q) hlt
  have h3 : H[vm_ad G a]? = some (arrV (G.2.2.2.1 .boolean) n (fun j => .int (f j))) := h3
  refine W.zast X.1 X.2.1 h3 ((vm_arr K ht).1 n _) (fun q => by cases q) (vm_bd (vp_in_nI hi h4.1) (by rw [arrV_size]; exact Nat.le_refl _)) rfl rfl hd fun H1 e1 z oq => ?_
  rw [nI_clamp (show i < 2147483648 by have := h4.1; omega)] at e1 ⊢
  refine k G p e R s m args below meth c H1 _ cells slots mc ms ls X (vm_wr I h1 z ?_ oq ⟨h4.1, fun j hj => ?_⟩ (by unfold vm_no; exact fun q => by cases q)) (vm_lc hL (by omega)) hl hc hs
  · show H1[vm_ad G a]? = some (arrV (G.2.2.2.1 .boolean) n (fun j => .int (upd f i (x &&& 1) j)))
    rw [e1, arrV_store]
    congr 2
    funext q
    by_cases hq : q = i <;> simp [updV, upd, hq, narrow]
  · by_cases hq : j = i
    · simp only [upd, hq, if_true]; exact vm_fz x
    · simp only [upd, hq, if_false]; exact h4.2 j hj
theorem vm_r_lastore {x : Int64} {i a n : Nat} {f : Nat → Int64} (hd : decode y.2.1 pc = .ok (.lastore, 1)) (ht : FieldType.long ∈ E.2.2.1) (ha : h.2 a = .inl (.long, n, .inr (.inl f))) (hlt : a < 1099511627776) (hi : i < n) (k : vm_T E y kc ks (pc + 1) lv st (vm_up h a (.inl (.long, n, .inr (.inl (vp_updL f i x))))) Q) : vm_T E y kc ks pc lv (.long x :: .int (nI i) :: .ref a :: st) h Q := by
  intro G p e R s m args below meth c H locs cells slots mc ms ls X I hL hl hc hs
  have K := X.2.2.2.2.2.2.2.2.1
  obtain ⟨h1, h2, h3, h4⟩ := vm_ix I ha (by unfold vm_no; exact fun q => by cases q) hlt
  have h3 : H[vm_ad G a]? = some (arrV (G.2.2.2.1 .long) n (fun j => .long (f j))) := h3
  refine W.last X.1 X.2.1 h3 ((vm_arr K ht).1 n _) (fun q => by cases q) (vm_bd (vp_in_nI hi h4.1) (by rw [arrV_size]; exact Nat.le_refl _)) rfl rfl hd fun H1 e1 z oq => ?_
  rw [nI_clamp (show i < 2147483648 by have := h4.1; omega)] at e1 ⊢
  refine k G p e R s m args below meth c H1 _ cells slots mc ms ls X (vm_wr I h1 z ?_ oq ⟨h4.1, rfl⟩ (by unfold vm_no; exact fun q => by cases q)) (vm_lc hL (by omega)) hl hc hs
  show H1[vm_ad G a]? = some (arrV (G.2.2.2.1 .long) n (fun j => .long (vp_updL f i x j)))
  rw [e1, arrV_store]
  congr 2
  funext q
  by_cases hq : q = i <;> simp [updV, vp_updL, hq]
end
