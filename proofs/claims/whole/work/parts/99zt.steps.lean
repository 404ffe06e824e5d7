/-! the reference: field steps over all that it works with -/
/-- a row of twelve that may be written -/
def TG (a c : Nat) : Prop := ∃ i, c = a + i ∧ ((ZI i ∧ zi i = 12) ∨ ∃ s, ZP s ∧ (i = s + 1 ∨ i = s + 2))
theorem TG_i {a i : Nat} (z : ZI i) (e : zi i = 12) : TG a (a + i) := ⟨i, rfl, .inl ⟨z, e⟩⟩
theorem TG_x {a s : Nat} (z : ZP s) : TG a (a + s + 1) := ⟨s + 1, by omega, .inr ⟨s, z, .inl rfl⟩⟩
theorem TG_y {a s : Nat} (z : ZP s) : TG a (a + s + 2) := ⟨s + 2, by omega, .inr ⟨s, z, .inr rfl⟩⟩
theorem TG_iw {h : vm_H} {a c : Nat} {t : KT} {g : Nat → Int32} (k : RK h a t g) (z : TG a c) : iw h 12 c := by
  obtain ⟨i, rfl, ⟨z, e⟩ | ⟨s, z, rfl | rfl⟩⟩ := z
  · exact RK_12 k z e
  · exact (RK_p k z).2.1
  · exact (RK_p k z).2.2
theorem zi_13 {i : Nat} (z : ZI i) (e : zi i = 12) : 13 < i ∧ i < 300 := by
  unfold ZI at z
  refine ⟨?_, by omega⟩
  rcases Nat.lt_or_ge 13 i with w | w
  · exact w
  · have : 1 ≤ i ∧ i ≤ 7 := by omega
    unfold zi at e
    by_cases h1 : i = 1
    · rw [if_pos h1] at e; omega
    · rw [if_neg h1, if_pos this.2] at e; omega
theorem TG_ok {a c : Nat} (ao : a + 300 < 1099511627776) (z : TG a c) : okC a c ∧ c < a + 300 := by
  obtain ⟨i, rfl, ⟨z, e⟩ | ⟨s, z, e⟩⟩ := z
  · have := zi_13 z e
    exact ⟨⟨by omega, by omega⟩, by omega⟩
  · unfold ZP at z
    exact ⟨⟨by omega, by omega⟩, by omega⟩
theorem TG_gd {h : vm_H} {a c : Nat} (z : TG a c) (w : iw h 12 c) : GD h a c := by
  obtain ⟨i, rfl, ⟨z, e⟩ | ⟨s, z, e⟩⟩ := z
  · exact GD_i z (by rw [e]; exact w)
  · exact ⟨i, rfl, .inr (.inr (.inr (.inr (.inr ⟨s, z, e, w⟩))))⟩
theorem RK_c {h h' : vm_H} {a c : Nat} {t : KT} {g : Nat → Int32} {S : Nat → Prop} {x : fq} (k : RK h a t g) (k' : CU h' a g) (F : fr h h' S) (z : TG a c) (w : wq h' c x) (hS : ∀ q, S q → JW a q ∨ q = c) : RK h' a t g ∧ fr h h' (fun q => JV a q ∨ q = c) := by
  refine ⟨RK_of k F k'.1 (fun q y => ?_), fr_mono F (fun q y => ?_)⟩
  · rcases hS q y with y | rfl
    · exact .inr (GD_cu k' y)
    · exact .inr (TG_gd z (wv_iw w))
  · rcases hS q y with y | y
    · exact .inl (.inl y)
    · exact .inr y
section
variable {l : Launch} {O : Nat → vm_Ob} {f9 : Value} {h : vm_H} {a c pa pb : Nat} {t : KT} {g : Nat → Int32} {x y : fq}

theorem rq_add {n9 : Nat} (k : RK h a t g) (hx : wq h pa x) (hy : wq h pb y) (z : TG a c) : vm_Met (vm_env l O f9) mX14_add 0 0 [.ref (a + 8), .ref pa, .ref pb, .ref c] h (fun r h' => r = none ∧ RK h' a t g ∧ wq h' c (x + y) ∧ fr h h' (fun q => JV a q ∨ q = c)) := by
  have ok := TG_ok k.2.1 z
  refine vm_metP (cq_add (RK_cu k) hx hy (TG_iw k z) ok.1) ?_
  rintro r h' ⟨e1, e2, e3, F⟩
  obtain ⟨e4, e5⟩ := RK_c k e2 F z e3 (fun q y => by unfold JW at *; omega)
  exact ⟨e1, e4, e3, e5⟩
theorem rq_sub {n9 : Nat} (k : RK h a t g) (hx : wq h pa x) (hy : wq h pb y) (z : TG a c) : vm_Met (vm_env l O f9) mX14_sub 0 0 [.ref (a + 8), .ref pa, .ref pb, .ref c] h (fun r h' => r = none ∧ RK h' a t g ∧ wq h' c (x - y) ∧ fr h h' (fun q => JV a q ∨ q = c)) := by
  have ok := TG_ok k.2.1 z
  refine vm_metP (cq_sub (RK_cu k) hx hy (TG_iw k z) ok.1) ?_
  rintro r h' ⟨e1, e2, e3, F⟩
  obtain ⟨e4, e5⟩ := RK_c k e2 F z e3 (fun q y => by unfold JW at *; omega)
  exact ⟨e1, e4, e3, e5⟩
theorem rq_mul {n9 : Nat} (k : RK h a t g) (hx : wq h pa x) (hy : wq h pb y) (oa : a + 13 < pa) (ob : a + 13 < pb) (z : TG a c) : vm_Met (vm_env l O f9) mX14_times 0 0 [.ref a, .ref (a + 8), .ref pa, .ref pb, .ref c] h (fun r h' => r = none ∧ RK h' a t g ∧ wq h' c (x * y) ∧ fr h h' (fun q => JV a q ∨ q = c)) := by
  have ok := TG_ok k.2.1 z
  refine vm_metP (cq_mul (RK_cu k) hx hy (TG_iw k z) ok.1 oa ob) ?_
  rintro r h' ⟨e1, e2, e3, F⟩
  obtain ⟨e4, e5⟩ := RK_c k e2 F z e3 (fun q y => by unfold JW at *; omega)
  exact ⟨e1, e4, e3, e5⟩
theorem rq_inv {n9 : Nat} (k : RK h a t g) (hx : wq h pa x) (hn : x ≠ 0) (oa : a + 13 < pa) (z : TG a c) : vm_Met (vm_env l O f9) mX14_inverse 0 0 [.ref a, .ref (a + 8), .ref pa, .ref c] h (fun r h' => r = some (.int 1) ∧ RK h' a t g ∧ wq h' c (fiv x) ∧ fr h h' (fun q => JV a q ∨ q = c)) := by
  have ok := TG_ok k.2.1 z
  refine vm_metP (cq_inv (RK_cu k) hx hn (TG_iw k z) ok.1 oa) ?_
  rintro r h' ⟨e1, e2, e3, F⟩
  obtain ⟨e4, e5⟩ := RK_c k e2 F z e3 (fun q y => by unfold JW at *; omega)
  exact ⟨e1, e4, e3, e5⟩
theorem rq_sm {n9 : Nat} (k : RK h a t g) (hn : n9 < 4294967296) (z : TG a c) : vm_Met (vm_env l O f9) mX14_small 0 0 [.int (nI n9), .ref c, .int (nI 12)] h (fun r h' => r = none ∧ RK h' a t g ∧ wq h' c (fz (n9 : Int)) ∧ fr h h' (fun q => JV a q ∨ q = c)) := by
  have ok := TG_ok k.2.1 z
  refine vm_metP (cq_sm (RK_cu k) (TG_iw k z) ok.1 hn) ?_
  rintro r h' ⟨e1, e2, e3, F⟩
  obtain ⟨e4, e5⟩ := RK_c k e2 F z e3 (fun q y => by unfold JW at *; omega)
  exact ⟨e1, e4, e3, e5⟩
theorem rq_cp {n9 : Nat} (k : RK h a t g) (hx : wq h pa x) (z : TG a c) : vm_Met (vm_env l O f9) mX14_copy 0 0 [.ref pa, .ref c, .int (nI 12)] h (fun r h' => r = none ∧ RK h' a t g ∧ wq h' c x ∧ fr h h' (fun q => JV a q ∨ q = c)) := by
  have ok := TG_ok k.2.1 z
  refine vm_metP (cq_cp (RK_cu k) hx (TG_iw k z) ok.1) ?_
  rintro r h' ⟨e1, e2, e3, F⟩
  obtain ⟨e4, e5⟩ := RK_c k e2 F z e3 (fun q y => by unfold JW at *; omega)
  exact ⟨e1, e4, e3, e5⟩
theorem rq_curve {n9 : Nat} (k : RK h a t g) (hx : wq h pa x) (op : a + 13 < pa) (n1 : pa ≠ a + 24 ∧ pa ≠ a + 25) (n3 : c ≠ pa) (z : TG a c) (n2 : c ≠ a + 24 ∧ c ≠ a + 25) : vm_Met (vm_env l O f9) mX14_curve 0 0 [.ref a, .ref pa, .ref c] h (fun r h' => r = none ∧ RK h' a t g ∧ wq h' c (cu x) ∧ fr h h' (fun q => JV a q ∨ q = c)) := by
  have ok := TG_ok k.2.1 z
  refine vm_metP (cq_curve (RK_cu k) k.2.2.1.1 hx (TG_iw k z) ok.1 op n1 n2 n3) ?_
  rintro r h' ⟨e1, e2, e3, F⟩
  obtain ⟨e4, e5⟩ := RK_c k e2 F z e3 (fun q y => by unfold JW at *; omega)
  exact ⟨e1, e4, e3, e5⟩
theorem rq_root (k : RK h a t g) (hA : wq h pa x) (z : TG a c) (n2 : c ≠ a + 24 ∧ c ≠ a + 26 ∧ c ≠ a + 27) : vm_Met (vm_env l O f9) mX14_root 0 0 [.ref a, .ref pa, .ref c] h (fun r h' => (∃ ok : Bool, r = some (.int (bi ok)) ∧ (ok = true ↔ rtF x * rtF x = x)) ∧ RK h' a t g ∧ wq h' c (rtF x) ∧ fr h h' (fun q => JV a q ∨ q = c)) := by
  have ok := TG_ok k.2.1 z
  refine vm_metP (cq_root (RK_cv k) hA (TG_iw k z) ok.1 n2) ?_
  rintro r h' ⟨e1, e2, e3, F⟩
  refine ⟨e1, RK_of k F e2.1.1 (fun q y => ?_), e3, F⟩
  rcases y with y | rfl
  · exact .inr (GD_cv e2 y)
  · exact .inr (TG_gd z (wv_iw e3))
theorem rq_join {s1 s2 s : Nat} {P R : Option (fq × fq)} (k : RK h a t g) (hP : SP h s1 P) (hR : SP h s2 R) (z : ZP s) (oa : okS a s1) (ob : okS a s2) (d1 : apS (a + s) s1) (d2 : apS (a + s) s2) : vm_Met (vm_env l O f9) mX14_join 0 0 [.ref a, .ref s1, .ref s2, .ref (a + s)] h (fun r h' => r = none ∧ RK h' a t g ∧ SP h' (a + s) (ecA (-3) fiv P R) ∧ fr h h' (fun q => JW a q ∨ (a + s ≤ q ∧ q ≤ a + s + 2))) := by
  refine vm_metP (rm_join (RK_cu k) hP hR (RK_p k z) oa ob (okP z k.2.1) d1 d2) ?_
  rintro r h' ⟨e1, e2, e3, F⟩
  refine ⟨e1, RK_of k F e2.1 (fun q y => ?_), e3, F⟩
  rcases y with y | y
  · exact .inr (GD_cu e2 y)
  · exact .inr (GD_p z (SP_q e3) y.1 y.2)
/-- the cells that a multiplication touches -/
def JM (a q : Nat) : Prop := JW a q ∨ (a + 17 ≤ q ∧ q ≤ a + 22)
theorem rq_mult {pk Lk s1 s K : Nat} {P : Option (fq × fq)} (k : RK h a t g) (hK : wv h Lk pk 12 K) (hLk : 12 ≤ Lk) (hb : K < 4294967296 ^ 12) (hP : SP h s1 P) (oP : ecO (-3) (fz (cB : Int)) P) (z : ZP s) (hs : 22 < s) (os : s1 + 2 < a + 17 ∨ a + 22 < s1) (opk : a + 25 < pk) (opt : pk ≠ a + s ∧ pk ≠ a + s + 1 ∧ pk ≠ a + s + 2) : vm_Met (vm_env l O f9) mX14_multiply 0 0 [.ref a, .ref pk, .ref s1, .ref (a + s)] h (fun r h' => r = none ∧ RK h' a t g ∧ SP h' (a + s) (ecM (-3) fiv K P) ∧ fr h h' (fun q => JM a q ∨ (a + s ≤ q ∧ q ≤ a + s + 2))) := by
  refine vm_metP (rm_multiply (RK_cu k) hK hLk hP oP (RK_p k (s := 17) (by unfold ZP; omega)) (RK_p k (s := 20) (by unfold ZP; omega)) (RK_p k z) (okP z k.2.1) (by unfold apS; omega) (by omega) (by omega) opk opt) ?_
  rintro r h' ⟨e1, e2, e3, ⟨e4, e5⟩, F⟩
  rw [Nat.mod_eq_of_lt (Nat.lt_of_lt_of_le hb (by decide +kernel))] at e3
  refine ⟨e1, RK_of k F e2.1 (fun q y => ?_), e3, fr_mono F (fun q y => y.elim (fun y => .inl (.inl y)) (fun y => y.elim (fun y => .inl (.inr y)) .inr))⟩
  rcases y with y | y | y
  · exact .inr (GD_cu e2 y)
  · rcases (show (a + 17 ≤ q ∧ q ≤ a + 17 + 2) ∨ (a + 20 ≤ q ∧ q ≤ a + 20 + 2) by omega) with w | w
    · exact .inr (GD_p (s := 17) (by unfold ZP; omega) e4 w.1 w.2)
    · exact .inr (GD_p (s := 20) (by unfold ZP; omega) e5 w.1 w.2)
  · exact .inr (GD_p z (SP_q e3) y.1 y.2)
end
