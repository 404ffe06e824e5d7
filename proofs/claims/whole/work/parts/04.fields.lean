/-! rows of the abstract machine: fields, static fields, String constants, new cells, copies -/
theorem vm_one {D : va_G} {cl : List vw_C} {x : Nat × va_E} {H : Heap} (h : va_at D cl x H) : va_P D cl [x] H := by
  intro k q hk
  have hz : k < 1 := (List.getElem?_eq_some_iff.mp hk).1
  rw [show k = 0 by omega] at hk
  cases hk
  exact h
theorem vm_nr (G : vm_G) {ty : FieldType} {v : Value} (h : narrow ty v = v) : narrow ty (vm_v G v) = vm_v G v := by
  cases v with
  | ref i => cases ty <;> rfl
  | _ => exact h
theorem vm_ft (G : vm_G) {ty : FieldType} {v : Value} (h : fits ty v = true) : fits ty (vm_v G v) = true := by
  cases v with
  | ref i => cases ty <;> first | rfl | exact h
  | _ => exact h
/-- how a field of class ci, number k, is reached from the class own by the entry idx of its pool -/
def vm_F (E : vm_E) (own : String) (idx ci k : Nat) : Prop := ∃ (C : String) (T : u_T) (N : Nat) (ref : String), E.2.1[ci]? = some (C, T, N) ∧ (∀ w ∈ u_ws C T N, w ∈ E.2.2.2.1) ∧ k < N ∧ (ref = (T k).1 ∨ Jvm.Cond.sameField ref (T k).1 (T k).2.1 (T k).2.2.1 ∈ E.2.2.2.1) ∧ (Jvm.Cond.fieldLink own idx ref (T k).2.1 (T k).2.2.1 ∈ E.2.2.2.1 ∨ ∃ host : String, Jvm.Cond.fieldLinkNest own idx ref (T k).2.1 (T k).2.2.1 host ∈ E.2.2.2.1)
def vm_Fp (E : vm_E) (own : String) (idx ci k : Nat) (ty : FieldType) (fin : Bool) : Prop := ∃ (C : String) (T : u_T) (N : Nat) (ref : String) (ty0 : Nat → FieldType), E.2.1[ci]? = some (C, T, N) ∧ (∀ w ∈ u_ws C T N, w ∈ E.2.2.2.1) ∧ k < N ∧ (ref = (T k).1 ∨ Jvm.Cond.sameField ref (T k).1 (T k).2.1 (T k).2.2.1 ∈ E.2.2.2.1) ∧ (Jvm.Cond.fieldLink own idx ref (T k).2.1 (T k).2.2.1 ∈ E.2.2.2.1 ∨ (fin = false ∧ ∃ host : String, Jvm.Cond.fieldLinkNest own idx ref (T k).2.1 (T k).2.2.1 host ∈ E.2.2.2.1)) ∧ (∀ j, j < N → parseFieldDescriptor (T j).2.2.1 = some (ty0 j)) ∧ (∀ a, a < N → ∀ b, b < N → a ≠ b → (T a).2.1 ≠ (T b).2.1) ∧ parseFieldDescriptor (T k).2.2.1 = some ty ∧ (T k).2.2.2 = fin ∧ (fin = true → (T k).1 = own)
section
variable {E : vm_E} {y : vm_M} {kc ks pc : Nat} {lv : vm_L} {st : List Value} {h : vm_H} {Q : Option Value → vm_H → Prop}
theorem vm_r_getfield {idx ci k a : Nat} {fs : List Value} {v : Value} (hd : decode y.2.1 pc = .ok (.getfield idx, 3)) (hF : vm_F E y.1.cls idx ci k) (ha : h.2 a = .inr (ci, fs)) (hv : fs[k]? = some v) (kk : vm_T E y kc ks (pc + 3) lv (v :: st) h Q) : vm_T E y kc ks pc lv (.ref a :: st) h Q := by
  intro G p e R s m args below meth c H locs cells slots mc ms ls X I hL hl hc hs
  obtain ⟨C, T, N, ref, f1, f2, f3, f4, f5⟩ := hF
  have K := X.2.2.2.2.2.2.2.2.1
  have hts := X.2.2.2.2.2.2.2.1
  have hown := X.2.2.2.2.2.2.1
  have hno : (.inr (ci, fs) : vm_Ob) ≠ vm_no := fun q => by
    have q1 : ci = 999 := by unfold vm_no at q; cases q; rfl
    have q2 : fs = [] := by unfold vm_no at q; cases q; rfl
    rw [q2] at hv; cases hv
  have hsame : ∀ x, s.fieldFound? (T k).1 (T k).2.1 (T k).2.2.1 = some x → s.fieldFound? ref (T k).2.1 (T k).2.2.1 = some x := by
    rcases f4 with rfl | f4
    · exact fun _ q => q
    · exact fun x q => u_same (hts _ f4) x q
  have kx := kk G p e R s m args below meth c H locs cells slots mc ms ls X I hL hl hc hs
  rcases vm_read I ha hno with ⟨h1, h2, h3, h4⟩ | ⟨k9, e1, e2⟩
  · have hv' : (fs.map (vm_v G))[k]? = some (vm_v G v) := by rw [List.getElem?_map, hv]; rfl
    rcases f5 with f5 | ⟨host, f5⟩
    · exact va_get X.1 X.2.1 hts f2 hown K.1 (vm_one h3) 0 rfl f1 k f3 (hts _ f5) hsame hv' hd kx
    · exact va_getN X.1 X.2.1 hts f2 hown K.1 (vm_one h3) 0 rfl f1 k f3 (hts _ f5) hsame hv' hd kx
  · have h5 := K.2.1 k9 (by rw [e2]; exact hno)
    rw [e2] at h5
    obtain ⟨r1, r2, r3, r4⟩ := h5
    have := (List.getElem?_eq_some_iff.mp f1).1
    omega
theorem vm_r_getS {idx k a : Nat} {fs : List Value} {v : Value} (hd : decode y.2.1 pc = .ok (.getfield idx, 3)) (hlink : Jvm.Cond.fieldLink y.1.cls idx "java/lang/String" (vm_sf k).1 (vm_sf k).2 ∈ E.2.2.2.1) (hlen : E.2.1.length < 500) (ha : h.2 a = .inr (500, fs)) (hv : fs[k]? = some v) (kk : vm_T E y kc ks (pc + 3) lv (v :: st) h Q) : vm_T E y kc ks pc lv (.ref a :: st) h Q := by
  intro G p e R s m args below meth c H locs cells slots mc ms ls X I hL hl hc hs
  have K := X.2.2.2.2.2.2.2.2.1
  have hts := X.2.2.2.2.2.2.2.1
  have hno : (.inr (500, fs) : vm_Ob) ≠ vm_no := fun q => by unfold vm_no at q; cases q
  rcases vm_read I ha hno with ⟨h1, h2, h3, h4⟩ | ⟨k9, e1, e2⟩
  · obtain ⟨r, r1, -⟩ := h3
    have := (List.getElem?_eq_some_iff.mp r1).1
    omega
  · have h5 := K.2.1 k9 (by rw [e2]; exact hno)
    rw [e2] at h5
    obtain ⟨-, -, r3, r4⟩ := h5
    obtain ⟨cf, kf, fi, f, cell, q1, q2, q3, q4, q5, q6⟩ := r4 k v hv
    exact W.getf X.1 X.2.1 X.2.2.2.2.2.2.1 (hts _ hlink) q1 q2 (by rw [e1, I.2.2.2.2.1 _ (Nat.not_le.mp q6)]; exact q3) q4 q5 rfl rfl hd (kk G p e R s m args below meth c H locs cells slots mc ms ls X I hL hl hc hs)
theorem vm_r_putfield {idx ci k a : Nat} {fs : List Value} {v : Value} {ty : FieldType} {fin : Bool} (hd : decode y.2.1 pc = .ok (.putfield idx, 3)) (hF : vm_Fp E y.1.cls idx ci k ty fin) (hin : fin = true → y.1.name = "<init>") (ha : h.2 a = .inr (ci, fs)) (hlt : a < 1099511627776) (hk : k < fs.length) (hn : narrow ty v = v) (hft : fits ty v = true) (kk : vm_T E y kc ks (pc + 3) lv st (vm_up h a (.inr (ci, fs.set k v))) Q) : vm_T E y kc ks pc lv (v :: .ref a :: st) h Q := by
  intro G p e R s m args below meth c H locs cells slots mc ms ls X I hL hl hc hs
  obtain ⟨C, T, N, ref, ty0, f1, f2, f3, f4, f5, f6, f7, f8, f9, f10⟩ := hF
  have K := X.2.2.2.2.2.2.2.2.1
  have hts := X.2.2.2.2.2.2.2.1
  have hown := X.2.2.2.2.2.2.1
  have hno : ∀ gs : List Value, gs.length = fs.length → (.inr (ci, gs) : vm_Ob) ≠ vm_no := fun gs hg q => by
    have q2 : gs = [] := by unfold vm_no at q; cases q; rfl
    rw [q2] at hg
    have : fs.length = 0 := hg.symm
    omega
  have hsame : ∀ x, s.fieldFound? (T k).1 (T k).2.1 (T k).2.2.1 = some x → s.fieldFound? ref (T k).2.1 (T k).2.2.1 = some x := by
    rcases f4 with rfl | f4
    · exact fun _ q => q
    · exact fun x q => u_same (hts _ f4) x q
  obtain ⟨h1, h2, h3, h4⟩ := vm_ix I ha (hno fs rfl) hlt
  obtain ⟨r, r1, cell, q1, q2, q3, q4⟩ := h3
  have er : r = (C, T, N) := Option.some.inj (r1.symm.trans f1)
  subst er
  obtain ⟨hS, hfc, kC, hkC, hkind⟩ := K.1.1 ci _ f1
  have hap : ∀ a b, a < N → b < N → a ≠ b → G.2.2.1.2 ci a ≠ G.2.2.1.2 ci b := by
    intro x z hx hz hne
    obtain ⟨_, _, _, fa, hia, ea⟩ := hS x hx
    obtain ⟨_, _, _, fb, hib, eb⟩ := hS z hz
    rw [← ea, ← eb]
    refine u_apart (u_lays hts f2 hx) (u_lays hts f2 hz) hia hib ?_
    rw [(State.fieldFound?_type hia (f6 x hx)).1, (State.fieldFound?_type hib (f6 z hz)).1]
    exact f7 x hx z hz hne
  obtain ⟨cf, kf, fi, f, hi, hsl⟩ := hS k f3
  have hlay := hts _ (f2 _ (u_in_lay f3))
  unfold u_lay at hlay
  have hst := (u_facts hfc hkC (u_lays hts f2 f3) hi).1
  have hn' := vm_nr G hn
  have hft' := vm_ft G hft
  have fin9 : ∀ H' : Heap, H'[vm_ad G a]? = some (cell.setSlot f.slot (vm_v G v)) → H'.size = H.size → (∀ q, q ≠ vm_ad G a → H'[q]? = H[q]?) → W p E.1 e R s m args below meth c H' (locs ++ [⟨vm_ad G a, f.slot⟩]) cells slots (vm_tg G E y Q below args s mc ms) (F0 m (pc + 3) ls (st.map (vm_v G))) := by
    intro H' e1 e2 e3
    refine kk G p e R s m args below meth c H' _ cells slots mc ms ls X (vm_wr I h1 e2 ?_ e3 trivial (hno _ (by simp))) (vm_lc hL (by omega)) hl hc hs
    rw [hsl] at e1
    refine ⟨_, f1, t_OB.to (V := updV (vp_V (fs.map (vm_v G))) k (vm_v G v)) ⟨_, e1, q2, q3, t_set q4 hap f3 (vm_v G v)⟩ (fun j _ => ?_)⟩
    have := vp_updV_set (fs := fs.map (vm_v G)) (k := k) (by simpa using hk) (vm_v G v) j
    rw [this]
    show vp_V ((fs.map (vm_v G)).set k (vm_v G v)) j = vp_V ((fs.set k v).map (vm_v G)) j
    rw [List.map_set]
  cases fin with
  | false =>
    rw [if_neg (by rw [f9]; decide)] at hlay
    have h6 := u_store hfc hkC hkind hlay hi f8 hn' hft'
    rcases f5 with f5 | ⟨-, host, f5⟩
    · exact W.putK X.1 X.2.1 (f := f) ⟨hown, hts _ f5, ⟨_, _, _, hsame _ hi⟩, hst⟩ (by rw [q2]; exact h6) q1 q3 (by rw [hsl]; exact k2_hasslot (q4 k f3)) rfl rfl hd fin9
    · exact va_WputK X.1 X.2.1 (f := f) hown (hts _ f5) (hsame _ hi) hst (by rw [q2]; exact h6) q1 q3 (by rw [hsl]; exact k2_hasslot (q4 k f3)) rfl rfl hd fin9
  | true =>
    rw [if_pos f9] at hlay
    have hcf : m.cls = cf := by
      obtain ⟨_, _, c', _, _, _, -, -, hf', -, -, -, hown2, -⟩ := Cond.laysFinal_spec hlay
      have e1 : c' = cf := by have := hi.symm.trans hf'; simp at this; exact this.1.symm
      rw [f10 rfl] at hown2
      rw [← e1]; exact Option.some.inj (hown.symm.trans hown2)
    have h6 := u_fits hfc hkC hkind (Or.inr hlay) hi f8 hn' hft'
    rcases f5 with f5 | ⟨h9, -⟩
    · exact W.putFinK X.1 X.2.1 hown (hts _ f5) (hsame _ hi) hst hcf (X.2.2.2.2.2.1.trans (hin rfl)) (by rw [q2]; exact h6) q1 q3 (by rw [hsl]; exact k2_hasslot (q4 k f3)) rfl rfl hd fin9
    · cases h9
theorem vm_r_getstatic {idx : Nat} {C n d ref : String} {v : Value} (hd : decode y.2.1 pc = .ok (.getstatic idx, 3)) (hr : (C, n, d, v) ∈ E.2.2.2.2.2.1) (hlink : Jvm.Cond.fieldLink y.1.cls idx ref n d ∈ E.2.2.2.1) (hsame : ref = C ∨ Jvm.Cond.sameField ref C n d ∈ E.2.2.2.1) (kk : vm_T E y kc ks (pc + 3) lv (v :: st) h Q) : vm_T E y kc ks pc lv st h Q := by
  intro G p e R s m args below meth c H locs cells slots mc ms ls X I hL hl hc hs
  have K := X.2.2.2.2.2.2.2.2.1
  have hts := X.2.2.2.2.2.2.2.1
  have hsm : ∀ x, s.fieldFound? C n d = some x → s.fieldFound? ref n d = some x := by
    rcases hsame with rfl | f4
    · exact fun _ q => q
    · exact fun x q => u_same (hts _ f4) x q
  obtain ⟨cf, kf, fi, f, a, cell, h1, h2, h3, h4, h5, h6, h7, h8⟩ := K.2.2.1 _ hr
  exact W.gets X.1 X.2.1 X.2.2.2.2.2.2.1 (hts _ hlink) (hsm _ h1) h2 h3 h4 (by rw [I.2.2.2.2.1 _ (Nat.not_le.mp h8)]; exact h5) (fun e => by rw [e] at h6; cases h6) h7 rfl hd (kk G p e R s m args below meth c H locs cells slots mc ms ls X I hL hl hc hs)
theorem vm_r_ldcS {idx id : Nat} {tx : String} (hd : decode y.2.1 pc = .ok (.ldc idx, 2)) (hr : (y.1.cls, idx, tx, id) ∈ E.2.2.2.2.2.2) (kk : vm_T E y kc ks (pc + 2) lv (.ref id :: st) h Q) : vm_T E y kc ks pc lv st h Q := by
  intro G p e R s m args below meth c H locs cells slots mc ms ls X I hL hl hc hs
  have K := X.2.2.2.2.2.2.2.2.1
  exact va_ldcS X.1 X.2.1 X.2.2.2.2.2.2.1 (K.2.2.2.1 _ hr) hd (kk G p e R s m args below meth c H locs cells slots mc ms ls X I hL hl hc hs)
end
