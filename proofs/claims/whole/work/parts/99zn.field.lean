/-! the reference: numbers of the curve's field, in its rows -/
/-- the rows that its arithmetic uses up -/
def JW (a q : Nat) : Prop := (a + 1 ≤ q ∧ q ≤ a + 7) ∨ (a + 23 ≤ q ∧ q ≤ a + 25)
def jl (a q : Nat) : Nat := if q = a + 1 then 130 else if q ≤ a + 7 then 64 else 12
/-- the reference's object, its modulus p, its work rows -/
def CU (h : vm_H) (a : Nat) (g : Nat → Int32) : Prop := h.2 a = RO a g ∧ MH h (a + 8) (a + 9) (a + 10) 12 (cPm + 1) 0 ∧ (∀ q, JW a q → iw h (jl a q) q) ∧ a + 300 < 1099511627776
theorem CU_st {h h' : vm_H} {a : Nat} {g : Nat → Int32} {S : Nat → Prop} (k : CU h a g) (F : fr h h' S) (hS : ∀ q, S q → q ≠ a ∧ q ≠ a + 8 ∧ q ≠ a + 9 ∧ q ≠ a + 10) (hw : ∀ q, JW a q → S q → iw h' (jl a q) q) : CU h' a g := by
  obtain ⟨k1, k2, k3, k4⟩ := k
  refine ⟨(F.2 a (fun z => (hS _ z).1 rfl)).trans k1, MH_cg k2 (F.2 _ (fun z => (hS _ z).2.1 rfl)) (F.2 _ (fun z => (hS _ z).2.2.1 rfl)) (F.2 _ (fun z => (hS _ z).2.2.2 rfl)), fun q hq => ?_, k4⟩
  by_cases z : S q
  · exact hw q hq z
  · exact iw_cg (k3 q hq) (F.2 q z)
theorem CU_1 {h : vm_H} {a : Nat} {g : Nat → Int32} (k : CU h a g) : iw h 130 (a + 1) := by
  have := k.2.2.1 (a + 1) (Or.inl ⟨by omega, by omega⟩)
  unfold jl at this
  rwa [if_pos rfl] at this
theorem CU_6 {h : vm_H} {a i : Nat} {g : Nat → Int32} (k : CU h a g) (h1 : 2 ≤ i) (h2 : i ≤ 7) : iw h 64 (a + i) := by
  have := k.2.2.1 (a + i) (Or.inl ⟨by omega, by omega⟩)
  unfold jl at this
  rwa [if_neg (by omega), if_pos (by omega)] at this
theorem CU_w {h : vm_H} {a i : Nat} {g : Nat → Int32} (k : CU h a g) (h1 : 23 ≤ i) (h2 : i ≤ 25) : iw h 12 (a + i) := by
  have := k.2.2.1 (a + i) (Or.inr ⟨by omega, by omega⟩)
  unfold jl at this
  rwa [if_neg (by omega), if_neg (by omega)] at this
/-- a place for a number -/
def okC (a c : Nat) : Prop := a + 13 < c ∧ c < 1099511627776
theorem jl_c {a c : Nat} (h : a + 13 < c) : jl a c = 12 := by
  unfold jl
  rw [if_neg (by omega), if_neg (by omega)]
theorem cP_12 : cPm + 1 < 4294967296 ^ 12 := by decide +kernel
theorem fq_b12 (x : fq) : x.val < 4294967296 ^ 12 := Nat.lt_trans x.isLt cP_12
/-- a row holds x -/
def wq (h : vm_H) (q : Nat) (x : fq) : Prop := wv h 12 q 12 x.val
theorem wq_cg {h h' : vm_H} {q : Nat} {x : fq} (k : wq h q x) (e : h'.2 q = h.2 q) : wq h' q x := wv_cg k e
theorem fq_sub (x y : fq) : (x - y).val = (x.val + (cPm + 1) - y.val) % (cPm + 1) := by
  rw [Fin.sub_def]
  show (cPm + 1 - y.val + x.val) % (cPm + 1) = _
  have := y.isLt
  congr 1
  omega
theorem CU_c {h h' : vm_H} {a c : Nat} {g : Nat → Int32} {S : Nat → Prop} {x : fq} (k : CU h a g) (F : fr h h' S) (hc : okC a c) (hw : wq h' c x) (hS : ∀ q, S q → q = c ∨ (a + 1 ≤ q ∧ q ≤ a + 7)) (h7 : ∀ q, a + 1 ≤ q → q ≤ a + 7 → S q → iw h' (jl a q) q) : CU h' a g := by
  obtain ⟨c1, c2⟩ := hc
  refine CU_st k F (fun q z => by have := hS q z; omega) (fun q hj z => ?_)
  rcases hS q z with e | e
  · rw [e, jl_c c1]; exact wv_iw hw
  · exact h7 q e.1 e.2 z
section
variable {l : Launch} {O : Nat → vm_Ob} {f9 : Value} {h : vm_H}
theorem cq_add {a pa pb c : Nat} {x y : fq} {g : Nat → Int32} (k : CU h a g) (hx : wq h pa x) (hy : wq h pb y) (hc : iw h 12 c) (oc : okC a c) : vm_Met (vm_env l O f9) mX14_add 0 0 [.ref (a + 8), .ref pa, .ref pb, .ref c] h (fun r h' => r = none ∧ CU h' a g ∧ wq h' c (x + y) ∧ fr h h' (fun q => q = c)) := by
  obtain ⟨t, et⟩ := hc
  have oc' := oc
  obtain ⟨o1, o2⟩ := oc'
  refine vm_metP (rm_add k.2.1.1 hx hy et (by decide) (by decide) (by decide) o2 (by omega) x.isLt y.isLt) ?_
  rintro r h' ⟨rfl, ⟨t', e1, e2, _⟩, F⟩
  have w : wq h' c (x + y) := ⟨t', e1, fun k hk => by rw [e2 k hk, fqf_va]⟩
  exact ⟨rfl, CU_c k F oc w (fun q z => Or.inl z) (fun q h1 h2 z => by omega), w, F⟩
theorem cq_sub {a pa pb c : Nat} {x y : fq} {g : Nat → Int32} (k : CU h a g) (hx : wq h pa x) (hy : wq h pb y) (hc : iw h 12 c) (oc : okC a c) : vm_Met (vm_env l O f9) mX14_sub 0 0 [.ref (a + 8), .ref pa, .ref pb, .ref c] h (fun r h' => r = none ∧ CU h' a g ∧ wq h' c (x - y) ∧ fr h h' (fun q => q = c)) := by
  obtain ⟨t, et⟩ := hc
  have oc' := oc
  obtain ⟨o1, o2⟩ := oc'
  refine vm_metP (rm_sub k.2.1.1 hx hy et (by decide) (by decide) (by decide) o2 (by omega) x.isLt y.isLt) ?_
  rintro r h' ⟨rfl, ⟨t', e1, e2, _⟩, F⟩
  have w : wq h' c (x - y) := ⟨t', e1, fun k hk => by rw [e2 k hk, fq_sub]⟩
  exact ⟨rfl, CU_c k F oc w (fun q z => Or.inl z) (fun q h1 h2 z => by omega), w, F⟩
theorem cq_mul {a pa pb c : Nat} {x y : fq} {g : Nat → Int32} (k : CU h a g) (hx : wq h pa x) (hy : wq h pb y) (hc : iw h 12 c) (oc : okC a c) (oa : a + 13 < pa) (ob : a + 13 < pb) : vm_Met (vm_env l O f9) mX14_times 0 0 [.ref a, .ref (a + 8), .ref pa, .ref pb, .ref c] h (fun r h' => r = none ∧ CU h' a g ∧ wq h' c (x * y) ∧ fr h h' (fun q => q = a + 1 ∨ q = c)) := by
  have oc' := oc
  obtain ⟨o1, o2⟩ := oc'
  refine vm_metP (rm_times k.2.1 k.1 (CU_1 k) hx hy (by decide) (by decide) (fq_b12 x) (fq_b12 y) hc (by decide) o2 (by omega) (by omega) (by omega) (by omega) (by omega) k.2.2.2) ?_
  rintro r h' ⟨rfl, w, r1, F⟩
  have w : wq h' c (x * y) := by
    unfold wq
    rw [fqf_v]; exact w
  refine ⟨rfl, CU_c k F oc w (fun q z => by omega) (fun q h1 h2 z => ?_), w, F⟩
  have e : q = a + 1 := by omega
  rw [e]
  unfold jl
  rw [if_pos rfl]
  exact r1
theorem fq_gcd {x : fq} (hx : x ≠ 0) : Nat.gcd x.val (cPm + 1) = 1 := by
  rw [Nat.gcd_comm]
  exact pr_cop pr_m (fun e => hx (Fin.ext (Nat.eq_zero_of_dvd_of_lt e x.isLt)))
theorem cq_inv {a pa c : Nat} {x : fq} {g : Nat → Int32} (k : CU h a g) (hx : wq h pa x) (hn : x ≠ 0) (hc : iw h 12 c) (oc : okC a c) (oa : a + 13 < pa) : vm_Met (vm_env l O f9) mX14_inverse 0 0 [.ref a, .ref (a + 8), .ref pa, .ref c] h (fun r h' => r = some (.int 1) ∧ CU h' a g ∧ wq h' c (fiv x) ∧ fr h h' (fun q => (a + 4 ≤ q ∧ q ≤ a + 7) ∨ q = c)) := by
  have oc' := oc
  obtain ⟨o1, o2⟩ := oc'
  refine vm_metP (rm_inv k.2.1.1 k.1 (CU_6 k (by decide) (by decide)) (CU_6 k (by decide) (by decide)) (CU_6 k (by decide) (by decide)) (CU_6 k (by decide) (by decide)) hx (by decide) hc (by decide) x.isLt (by decide +kernel) k.2.2.2 o2 (by omega) (by omega) (by omega) (by omega)) ?_
  rintro r h' ⟨⟨ok, T, rfl, hok, hT, hm, w⟩, ⟨r4, r5, r6, r7⟩, F⟩
  have e1 : ok = true := hok.mpr (fq_gcd hn)
  have hm := hm e1
  have eT : T = (fiv x).val := by
    refine ivm_u hT (fiv x).isLt hm ?_
    have := congrArg Fin.val (fiv_e x hn)
    rw [fqf_v] at this
    rw [this]
    decide +kernel
  rw [eT] at w
  rw [e1]
  refine ⟨rfl, CU_c k F oc w (fun q z => by omega) (fun q h1 h2 z => ?_), w, F⟩
  have e7 : q = a + 4 ∨ q = a + 5 ∨ q = a + 6 ∨ q = a + 7 := by omega
  have j7 : jl a q = 64 := by
    unfold jl
    rw [if_neg (by omega), if_pos h2]
  rw [j7]
  rcases e7 with rfl | rfl | rfl | rfl
  · exact r4
  · exact r5
  · exact r6
  · exact r7
end
