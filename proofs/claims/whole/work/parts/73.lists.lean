/-! lists of bytes: what a row, or a piece of an array, holds; hashes of lists -/
def sl (b : Nat → Nat) (p k : Nat) : List Nat := (List.range k).map (fun j => b (p + j))
def gb (w : List Nat) (j : Nat) : Nat := w.getD j 0
theorem sl_len {b : Nat → Nat} {p k : Nat} : (sl b p k).length = k := by unfold sl; rw [List.length_map, List.length_range]
theorem sl_at {b : Nat → Nat} {p k j : Nat} (hj : j < (sl b p k).length) : (sl b p k)[j] = b (p + j) := by
  simp only [sl, List.getElem_map, List.getElem_range]
theorem gb_at {w : List Nat} {j : Nat} (hj : j < w.length) : gb w j = w[j] := by
  unfold gb
  rw [List.getD_eq_getElem?_getD, List.getElem?_eq_getElem hj]; rfl
theorem gb_sl {b : Nat → Nat} {p k j : Nat} (hj : j < k) : gb (sl b p k) j = b (p + j) := by
  rw [gb_at (by rw [sl_len]; exact hj), sl_at]
theorem sl_ext {b c : Nat → Nat} {p q k : Nat} (h : ∀ j, j < k → b (p + j) = c (q + j)) : sl b p k = sl c q k := by
  apply List.ext_getElem (by rw [sl_len, sl_len])
  intro j h1 h2
  rw [sl_at, sl_at]
  exact h j (by rw [sl_len] at h1; exact h1)
theorem sl_inj {b c : Nat → Nat} {p q k : Nat} (h : sl b p k = sl c q k) : ∀ j, j < k → b (p + j) = c (q + j) := by
  intro j hj
  rw [← gb_sl (b := b) (p := p) hj, h, gb_sl hj]
theorem sl_gb (w : List Nat) : sl (gb w) 0 w.length = w := by
  apply List.ext_getElem sl_len
  intro j h1 h2
  rw [sl_at, Nat.zero_add, gb_at h2]
theorem sl_app {b : Nat → Nat} {p i k : Nat} : sl b p (i + k) = sl b p i ++ sl b (p + i) k := by
  apply List.ext_getElem (by rw [List.length_append, sl_len, sl_len, sl_len])
  intro j h1 h2
  rw [sl_at, List.getElem_append]
  split
  · next h => rw [sl_at]
  · next h =>
    rw [sl_at]
    rw [sl_len] at h ⊢
    congr 1; omega
theorem sl_0 {b : Nat → Nat} {p : Nat} : sl b p 0 = [] := rfl
theorem sl_1 {b : Nat → Nat} {p : Nat} : sl b p 1 = [b p] := rfl
theorem gb_cons {x : Nat} {w : List Nat} {j : Nat} : gb (x :: w) (j + 1) = gb w j := rfl
theorem gb_lo {v w : List Nat} {j : Nat} (h : j < v.length) : gb (v ++ w) j = gb v j := by
  rw [gb_at (by rw [List.length_append]; omega), List.getElem_append_left h, gb_at h]
theorem gb_hi {v w : List Nat} {j : Nat} (h : v.length ≤ j) (h2 : j < v.length + w.length) : gb (v ++ w) j = gb w (j - v.length) := by
  rw [gb_at (by rw [List.length_append]; omega), List.getElem_append_right h, gb_at (by omega)]
theorem bn_gb {b : Nat → Nat} {p k : Nat} : bn (gb (sl b p k)) 0 k = bn b p k := bn_ext k (fun j hj => by rw [Nat.zero_add, gb_sl hj])
theorem sl_of {b : Nat → Nat} {p : Nat} {w : List Nat} (h : ∀ j, j < w.length → b (p + j) = gb w j) : sl b p w.length = w := by
  rw [← sl_gb w, sl_len]
  exact sl_ext (fun j hj => by rw [Nat.zero_add]; exact h j hj)
theorem sl_all {b : Nat → Nat} {p k : Nat} {w : List Nat} (h : sl b p k = w) : ∀ j, j < k → b (p + j) = gb w j := by
  intro j hj
  rw [← h, gb_sl hj]
/-- every byte is one -/
def ok8 (w : List Nat) : Prop := ∀ x ∈ w, x < 256
theorem ok8_sl {b : Nat → Nat} {p k : Nat} (h : ∀ j, j < k → b (p + j) < 256) : ok8 (sl b p k) := by
  intro x hx
  obtain ⟨j, hj, rfl⟩ := List.mem_map.mp hx
  exact h j (List.mem_range.mp hj)
theorem ok8_app {v w : List Nat} (h1 : ok8 v) (h2 : ok8 w) : ok8 (v ++ w) := by
  intro x hx
  rcases List.mem_append.mp hx with z | z
  · exact h1 x z
  · exact h2 x z
theorem ok8_gb {w : List Nat} (h : ok8 w) (j : Nat) : gb w j < 256 := by
  rcases Nat.lt_or_ge j w.length with q | q
  · rw [gb_at q]; exact h _ (List.getElem_mem q)
  · unfold gb; rw [List.getD_eq_getElem?_getD, List.getElem?_eq_none q]; decide
/-- a number of m bytes -/
def nb (z : Int) (m : Nat) : List Nat := sl (fun j => ib z (m - 1 - j)) 0 m
theorem nb_len {z : Int} {m : Nat} : (nb z m).length = m := sl_len
theorem nb_ok {z : Int} {m : Nat} : ok8 (nb z m) := ok8_sl (fun j hj => ib_lt _ _)
/-- x in size bytes -/
def wb (x size : Nat) : List Nat := sl (fun j => x / 256 ^ (size - 1 - j) % 256) 0 size
theorem wb_len {x m : Nat} : (wb x m).length = m := sl_len
theorem wb_ok {x m : Nat} : ok8 (wb x m) := ok8_sl (fun j hj => by omega)
theorem wrb_sl {b : Nat → Nat} {p k x : Nat} : sl (wrb b p k x) p k = wb x k := by
  refine sl_ext (fun j hj => ?_)
  unfold wrb
  rw [if_pos (by omega)]
  show x / 256 ^ (p + k - 1 - (p + j)) % 256 = x / 256 ^ (k - 1 - (0 + j)) % 256
  congr 3; omega
theorem wb_nb {x : Nat} : ∀ k, x < 256 ^ k → ∀ b p, sl b p k = wb x k → bn b p k = x := by
  intro k hx b p h
  have hb := sl_inj (c := fun j => x / 256 ^ (k - 1 - j) % 256) (q := 0) h
  have key : ∀ i, i ≤ k → bn b p i = x / 256 ^ (k - i) := by
    intro i
    induction i with
    | zero => intro _; rw [Nat.sub_zero, Nat.div_eq_of_lt hx]; rfl
    | succ i ih =>
      intro hi
      show bn b p i * 256 + b (p + i) = _
      rw [ih (by omega), hb i (by omega)]
      show x / 256 ^ (k - i) * 256 + x / 256 ^ (k - 1 - (0 + i)) % 256 = _
      have e1 : k - i = (k - (i + 1)) + 1 := by omega
      have e2 : k - 1 - (0 + i) = k - (i + 1) := by omega
      rw [e1, e2, Nat.pow_succ, ← Nat.div_div_eq_div_mul]
      omega
  rw [key k (Nat.le_refl _), Nat.sub_self, Nat.pow_zero, Nat.div_one]
theorem bn_wb {b : Nat → Nat} {p k : Nat} (h : ∀ j, p ≤ j → j < p + k → b j < 256) : wb (bn b p k) k = sl b p k := by
  refine sl_ext (fun j hj => ?_)
  show bn b p k / 256 ^ (k - 1 - (0 + j)) % 256 = _
  rw [bn_dig k _ h (by omega)]
  congr 1; omega
theorem sl_app_lo {b d : Nat → Nat} {s k : Nat} : sl (app b s d k) 0 s = sl b 0 s := sl_ext (fun j hj => by unfold app; rw [if_neg (by omega)])
theorem sl_app_hi {b d : Nat → Nat} {s k : Nat} : sl (app b s d k) s k = sl d 0 k := sl_ext (fun j hj => by unfold app; rw [if_pos (by omega)]; congr 1; omega)
/-- a row that holds a list -/
def rwl (h : vm_H) (R B n : Nat) (w : List Nat) : Prop := ∃ b, row h R B n b w.length ∧ sl b 0 w.length = w
theorem rwl_app {h : vm_H} {R B n k : Nat} {b d : Nat → Nat} {w : List Nat} (hw : sl b 0 w.length = w) (q : row h R B n (app b w.length d k) (w.length + k)) : rwl h R B n (w ++ sl d 0 k) := by
  have e : (w ++ sl d 0 k).length = w.length + k := by rw [List.length_append, sl_len]
  refine ⟨_, by rw [e]; exact q, ?_⟩
  rw [e, sl_app, sl_app_lo, hw, Nat.zero_add, sl_app_hi]
theorem rwl_fr {h h' : vm_H} {S : Nat → Prop} {R B n : Nat} {w : List Nat} (k : rwl h R B n w) (F : fr h h' S) (hR : ¬ S R) (hB : ¬ S B) : rwl h' R B n w := by
  obtain ⟨b, k1, k2⟩ := k
  exact ⟨b, row_fr k1 F hR hB, k2⟩
section
variable {l : Launch} {O : Nat → vm_Ob} {f9 : Value}
theorem l_clear {h : vm_H} {R B n : Nat} {w : List Nat} (k : rwl h R B n w) : vm_Met (vm_env l O f9) mX9_clear 0 0 [.ref R] h (fun r h' => r = none ∧ rwl h' R B n [] ∧ fr h h' (fun q => q = R)) := by
  obtain ⟨b, k1, k2⟩ := k
  refine vm_metP (w_clear k1) ?_
  rintro r h' ⟨e, k3, F⟩
  exact ⟨e, ⟨b, k3, rfl⟩, F⟩
theorem l_byte {h : vm_H} {R B n v : Nat} {w : List Nat} {x : Int32} (k : rwl h R B n w) (hs : w.length < n) (hv : v < 256) (hx : x.toInt8.toInt32 = sb v) : vm_Met (vm_env l O f9) mX9_putByte 0 0 [.ref R, .int x] h (fun r h' => r = none ∧ rwl h' R B n (w ++ [v]) ∧ fr h h' (fun q => q = R ∨ q = B)) := by
  obtain ⟨b, k1, k2⟩ := k
  refine vm_metP (w_byte k1 hs hv hx) ?_
  rintro r h' ⟨e, k3, F⟩
  refine ⟨e, ?_, F⟩
  have : b1 b w.length v = app b w.length (fun _ => v) 1 := by
    rw [← app_1 (b := b) (d := fun _ => v) (k := 0) rfl, app_0]; rfl
  rw [this] at k3
  exact rwl_app (d := fun _ => v) (k := 1) k2 k3
theorem l_num {h : vm_H} {R B n m : Nat} {w : List Nat} {z : Int} (k : rwl h R B n w) (hs : w.length + m ≤ n) (hm : m ≤ 4) (h1 : -2147483648 ≤ z) (h2 : z < 2147483648) : vm_Met (vm_env l O f9) mX9_putNumber 0 0 [.ref R, .int (iZ z), .int (nI m)] h (fun r h' => r = none ∧ rwl h' R B n (w ++ nb z m) ∧ fr h h' (fun q => q = R ∨ q = B)) := by
  obtain ⟨b, k1, k2⟩ := k
  refine vm_metP (w_num k1 hs hm h1 h2) ?_
  rintro r h' ⟨e, k3, F⟩
  exact ⟨e, rwl_app k2 k3, F⟩
theorem l_text {h : vm_H} {R B n t m : Nat} {w : List Nat} {c : Nat → Nat} (h9 : f9.category = 1) (k : rwl h R B n w) (ht : sto h t m c) (hs : w.length + m ≤ n) : vm_Met (vm_env l O f9) mX9_putText 0 0 [.ref R, .ref t] h (fun r h' => r = none ∧ rwl h' R B n (w ++ sl c 0 m) ∧ fr h h' (fun q => q = R ∨ q = B)) := by
  obtain ⟨b, k1, k2⟩ := k
  refine vm_metP (w_text h9 k1 ht hs) ?_
  rintro r h' ⟨e, k3, F⟩
  exact ⟨e, rwl_app k2 k3, F⟩
theorem l_all {h : vm_H} {R B n fa nf at9 m : Nat} {w : List Nat} {c : Nat → Nat} (k : rwl h R B n w) (hf : bv h nf fa c) (hat : at9 + m ≤ nf) (hnf : nf < 65536) (hs : w.length + m ≤ n) : vm_Met (vm_env l O f9) mX9_putAll 0 0 [.ref R, .ref fa, .int (nI at9), .int (nI m)] h (fun r h' => r = none ∧ rwl h' R B n (w ++ sl c at9 m) ∧ fr h h' (fun q => q = R ∨ q = B)) := by
  obtain ⟨b, k1, k2⟩ := k
  refine vm_metP (w_all k1 hf hat hnf hs) ?_
  rintro r h' ⟨e, k3, F⟩
  refine ⟨e, ?_, F⟩
  have := rwl_app k2 k3
  rwa [sl_ext (b := fun j => c (at9 + j)) (c := c) (p := 0) (q := at9) (fun j _ => by rw [Nat.zero_add])] at this
end
theorem fbk_cg {b b' : Nat → Nat} {s start wide : Nat} {last : Bool} {g : Nat → Nat} (h : ∀ j, j < s → b j = b' j) (j : Nat) : fbk b s start wide last g j = fbk b' s start wide last g j := by
  unfold fbk
  split
  · split
    · rfl
    · split
      · next q => exact h _ q
      · rfl
  · rfl
theorem hs3_cg {st kk : Nat → Int64} {b b' : Nat → Nat} {s : Nat} (h : ∀ j, j < s → b j = b' j) : ∀ k, hs3 st kk b s k = hs3 st kk b' s k
  | 0 => rfl
  | k + 1 => by
    have e : hb3 b s k = hb3 b' s k := by funext j; exact fbk_cg h j
    show (fun j => hs3 st kk b s k j + rds3 kk (wt3 (m3 (hb3 b s k))) (hs3 st kk b s k) 80 j) = _
    rw [hs3_cg h k, e]; rfl
theorem hs2_cg {st kk : Nat → Int32} {b b' : Nat → Nat} {s : Nat} (h : ∀ j, j < s → b j = b' j) : ∀ k, hs2 st kk b s k = hs2 st kk b' s k
  | 0 => rfl
  | k + 1 => by
    have e : hb2 b s k = hb2 b' s k := by funext j; exact fbk_cg h j
    show (fun j => hs2 st kk b s k j + rds2 kk (wt2 (m2 (hb2 b s k))) (hs2 st kk b s k) 64 j) = _
    rw [hs2_cg h k, e]; rfl
def H3 (st kk : Nat → Int64) (w : List Nat) : List Nat := sl (d3 st kk (gb w) w.length) 0 48
def H2 (st kk : Nat → Int32) (w : List Nat) : List Nat := sl (d2 st kk (gb w) w.length) 0 32
theorem H3_len {st kk : Nat → Int64} {w : List Nat} : (H3 st kk w).length = 48 := sl_len
theorem H2_len {st kk : Nat → Int32} {w : List Nat} : (H2 st kk w).length = 32 := sl_len
theorem H3_ok {st kk : Nat → Int64} {w : List Nat} : ok8 (H3 st kk w) := ok8_sl (fun j hj => by unfold d3; omega)
theorem H2_ok {st kk : Nat → Int32} {w : List Nat} : ok8 (H2 st kk w) := ok8_sl (fun j hj => by unfold d2; omega)
theorem H3_e {st kk : Nat → Int64} {b c : Nat → Nat} {w : List Nat} (h : sl b 0 w.length = w) : sl (fun j => if j < 48 then d3 st kk b w.length j else c j) 0 48 = H3 st kk w := by
  refine sl_ext (fun j hj => ?_)
  rw [Nat.zero_add]
  show (if j < 48 then d3 st kk b w.length j else c j) = _
  rw [if_pos hj]
  unfold d3
  rw [hs3_cg (b := b) (b' := gb w) (fun i hi => by have := sl_all h i hi; rwa [Nat.zero_add] at this)]
theorem H2_e {st kk : Nat → Int32} {b c : Nat → Nat} {w : List Nat} (h : sl b 0 w.length = w) : sl (fun j => if j < 32 then d2 st kk b w.length j else c j) 0 32 = H2 st kk w := by
  refine sl_ext (fun j hj => ?_)
  rw [Nat.zero_add]
  show (if j < 32 then d2 st kk b w.length j else c j) = _
  rw [if_pos hj]
  unfold d2
  rw [hs2_cg (b := b) (b' := gb w) (fun i hi => by have := sl_all h i hi; rwa [Nat.zero_add] at this)]
section
variable {l : Launch} {O : Nat → vm_Ob} {f9 : Value}
theorem l_h3 {h : vm_H} {H R B n T nt : Nat} {A : Nat → Nat} {c : Nat → Nat} {w : List Nat} {st2 kk2 : Nat → Int32} {st3 kk3 : Nat → Int64} (k : HA h H A) (hK : HK h st2 kk2 st3 kk3) (hR : rwl h R B n w) (hT : bv h nt T c) (hBB : B ≠ A 4) (hTB : T ≠ B) (hT4 : T ≠ A 4) (hTo : T < 1099511627776) (hnt : 48 ≤ nt) (hnt2 : nt < 65536) :
    vm_Met (vm_env l O f9) mX4_h3 0 0 [.ref H, .ref R, .ref T] h (fun r h' => r = none ∧ (∃ c', bv h' nt T c' ∧ sl c' 0 48 = H3 st3 kk3 w ∧ ∀ j, 48 ≤ j → c' j = c j) ∧ HA h' H A ∧ fr h h' (fun q => q = A 2 ∨ q = A 3 ∨ q = A 4 ∨ q = T)) := by
  obtain ⟨b, k1, k2⟩ := hR
  refine vm_metP (s_h3 k hK k1 hT hBB hTB hT4 hTo hnt hnt2) ?_
  rintro r h' ⟨e, k3, k4, F⟩
  exact ⟨e, ⟨_, k3, H3_e k2, fun j hj => by show (if j < 48 then _ else c j) = _; rw [if_neg (by omega)]⟩, k4, F⟩
theorem l_h2 {h : vm_H} {H R B n T nt : Nat} {A : Nat → Nat} {c : Nat → Nat} {w : List Nat} {st2 kk2 : Nat → Int32} {st3 kk3 : Nat → Int64} (k : HA h H A) (hK : HK h st2 kk2 st3 kk3) (hR : rwl h R B n w) (hT : bv h nt T c) (hBB : B ≠ A 4) (hTB : T ≠ B) (hT4 : T ≠ A 4) (hTo : T < 1099511627776) (hnt : 32 ≤ nt) (hnt2 : nt < 65536) :
    vm_Met (vm_env l O f9) mX4_h2 0 0 [.ref H, .ref R, .ref T] h (fun r h' => r = none ∧ (∃ c', bv h' nt T c' ∧ sl c' 0 32 = H2 st2 kk2 w ∧ ∀ j, 32 ≤ j → c' j = c j) ∧ HA h' H A ∧ fr h h' (fun q => q = A 0 ∨ q = A 1 ∨ q = A 4 ∨ q = T)) := by
  obtain ⟨b, k1, k2⟩ := hR
  refine vm_metP (s_h2 k hK k1 hT hBB hTB hT4 hTo hnt hnt2) ?_
  rintro r h' ⟨e, k3, k4, F⟩
  exact ⟨e, ⟨_, k3, H2_e k2, fun j hj => by show (if j < 32 then _ else c j) = _; rw [if_neg (by omega)]⟩, k4, F⟩
end
