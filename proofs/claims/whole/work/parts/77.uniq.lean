/-! the map and the reading of an ELEMENT as functions: there is but one answer -/
theorem sq_par {y z c : fq} (h1 : y * y = c) (h2 : z * z = c) (hp : y.val % 2 = z.val % 2) : y = z := by
  have e : (y - z) * (y + z) = 0 := sq_pm (by rw [h1, h2])
  rcases fqf_D _ _ e with q | q
  · exact sub_z q
  · have e2 : y = -z := add_z q
    by_cases hz : z = 0
    · rw [e2, hz]; decide +kernel
    · have := pr2 z hz
      rw [← e2] at this
      omega
theorem cn_l {F : Type} [Lean.Grind.CommRing F] {k x y b : F} (h1 : k * x = b) (h2 : k * y = b) : k * (x - y) = 0 := by grind
theorem cn_m {F : Type} [Lean.Grind.CommRing F] {t x y b : F} (h1 : 3 * x * t = b) (h2 : 3 * y * t = b) : 3 * (t * (x - y)) = 0 := by grind
theorem MX1_u {u x y : fq} (h1 : MX1 u x) (h2 : MX1 u y) : x = y := by
  rcases h1 with ⟨z1, e1⟩ | ⟨z1, e1⟩
  · rcases h2 with ⟨_, e2⟩ | ⟨z2, _⟩
    · rcases fqf_D _ _ (cn_l e1 e2) with q | q
      · exact absurd q fq_36
      · exact sub_z q
    · exact absurd z1 z2
  · rcases h2 with ⟨z2, _⟩ | ⟨_, e2⟩
    · exact absurd z2 z1
    · rcases fqf_D _ _ (cn_m e1 e2) with q | q
      · exact absurd q fq_three
      · rcases fqf_D _ _ q with q | q
        · exact absurd q z1
        · exact sub_z q
theorem MAP_u {u x y x' y' : fq} (h : MAP u x y) (h' : MAP u x' y') : x = x' ∧ y = y' := by
  obtain ⟨x1, a1, a2, a3, a4⟩ := h
  obtain ⟨x2, b1, b2, b3, b4⟩ := h'
  have e := MX1_u a1 b1
  subst e
  have ex : x = x' := by
    rcases a2 with ⟨p1, w, hw⟩ | ⟨p1, hw⟩
    · rcases b2 with ⟨q1, _⟩ | ⟨_, hv⟩
      · rw [p1, q1]
      · exact absurd hw (hv w)
    · rcases b2 with ⟨_, v, hv⟩ | ⟨q1, _⟩
      · exact absurd hv (hw v)
      · rw [p1, q1]
  subst ex
  exact ⟨rfl, sq_par a3 b3 (by rw [a4, b4])⟩
noncomputable def mapF (u : fq) : fq × fq := @Classical.epsilon (fq × fq) ⟨(0, 0)⟩ (fun p => MAP u p.1 p.2)
theorem mapF_e {u x y : fq} (h : MAP u x y) : mapF u = (x, y) := by
  have hs : MAP u (mapF u).1 (mapF u).2 := Classical.epsilon_spec_aux ⟨(0, 0)⟩ (fun p : fq × fq => MAP u p.1 p.2) ⟨(x, y), h⟩
  obtain ⟨e1, e2⟩ := MAP_u hs h
  exact Prod.ext e1 e2
theorem EL_u {b : Nat → Nat} {at9 : Nat} {y z : fq} (h : EL b at9 y) (h' : EL b at9 z) : y = z := by
  obtain ⟨_, _, a3, a4⟩ := h
  obtain ⟨_, _, b3, b4⟩ := h'
  exact sq_par a3 b3 (by omega)
theorem EL_cg {b c : Nat → Nat} {p q : Nat} {y : fq} (e : sl b p 49 = sl c q 49) (h : EL b p y) : EL c q y := by
  have hh := sl_inj e
  obtain ⟨h1, h2, h3, h4⟩ := h
  have e0 := hh 0 (by decide)
  rw [Nat.add_zero, Nat.add_zero] at e0
  have e1 : bn b (p + 1) 48 = bn c (q + 1) 48 := bn_ext 48 (fun j hj => by
    have := hh (1 + j) (by omega)
    rwa [← Nat.add_assoc, ← Nat.add_assoc] at this)
  rw [e0] at h1 h4
  rw [e1] at h2 h3
  exact ⟨h1, h2, h3, h4⟩
/-- the ELEMENT that 49 bytes are -/
noncomputable def elL (w : List Nat) : Option (fq × fq) := @ite _ (∃ y, EL (gb w) 0 y) (Classical.propDecidable _) (some (fz (bn (gb w) 1 48 : Int), @Classical.epsilon fq ⟨0⟩ (fun y => EL (gb w) 0 y))) none
theorem EL_gb {b : Nat → Nat} {p : Nat} {y : fq} : EL b p y ↔ EL (gb (sl b p 49)) 0 y := by
  have e : sl b p 49 = sl (gb (sl b p 49)) 0 49 := sl_ext (fun j hj => by rw [Nat.zero_add, gb_sl hj])
  exact ⟨fun h => EL_cg e h, fun h => EL_cg e.symm h⟩
theorem elL_some {b : Nat → Nat} {p : Nat} {y : fq} (h : EL b p y) : elL (sl b p 49) = some (fz (bn b (p + 1) 48 : Int), y) := by
  have h' := EL_gb.mp h
  unfold elL
  rw [if_pos ⟨y, h'⟩]
  have hs : EL (gb (sl b p 49)) 0 (@Classical.epsilon fq ⟨0⟩ (fun y => EL (gb (sl b p 49)) 0 y)) := Classical.epsilon_spec_aux ⟨0⟩ (fun y => EL (gb (sl b p 49)) 0 y) ⟨y, h'⟩
  rw [EL_u hs h']
  have : bn (gb (sl b p 49)) 1 48 = bn b (p + 1) 48 := bn_ext 48 (fun j hj => by rw [gb_sl (by omega), Nat.add_assoc])
  rw [this]
theorem elL_none {b : Nat → Nat} {p : Nat} (h : ∀ y, ¬ EL b p y) : elL (sl b p 49) = none := by
  unfold elL
  rw [if_neg]
  rintro ⟨y, hy⟩
  exact h y (EL_gb.mpr hy)
theorem elL_o {w : List Nat} {p : fq × fq} (h : elL w = some p) : ecO (-3) (fz (cB : Int)) (some p) := by
  unfold elL at h
  split at h
  · next hy =>
    have hs : EL (gb w) 0 (@Classical.epsilon fq ⟨0⟩ (fun y => EL (gb w) 0 y)) := Classical.epsilon_spec_aux ⟨0⟩ (fun y => EL (gb w) 0 y) hy
    cases h
    obtain ⟨_, _, h3, _⟩ := hs
    exact h3
  · cases h
/-- the bytes of a point that is one -/
def ptb (p : fq × fq) : List Nat := (2 + p.2.val % 2) :: wb p.1.val 48
theorem ptb_len {p : fq × fq} : (ptb p).length = 49 := by unfold ptb; rw [List.length_cons, wb_len]
theorem ptb_ok {p : fq × fq} : ok8 (ptb p) := by
  intro x hx
  rcases List.mem_cons.mp hx with z | z
  · omega
  · exact wb_ok x z
theorem fq_lt (x : fq) : x.val < 256 ^ 48 := Nat.lt_of_lt_of_le x.isLt (by decide +kernel)
/-- a point's bytes give the point back -/
theorem elL_ptb {p : fq × fq} (h : ecO (-3) (fz (cB : Int)) (some p)) : elL (ptb p) = some p := by
  have e49 : sl (gb (ptb p)) 0 49 = ptb p := by have := sl_gb (ptb p); rwa [ptb_len] at this
  have hb : bn (gb (ptb p)) (0 + 1) 48 = p.1.val := wb_nb 48 (fq_lt _) _ _ (by
    rw [← sl_gb (wb p.1.val 48), wb_len]
    exact sl_ext (fun j hj => by
      rw [Nat.zero_add, Nat.zero_add, Nat.add_comm 1 j]
      show gb ((2 + p.2.val % 2) :: wb p.1.val 48) (j + 1) = _
      rw [gb_cons]))
  have hE : EL (gb (ptb p)) 0 p.2 := by
    refine ⟨?_, ?_, ?_, ?_⟩
    · show 2 + p.2.val % 2 = 2 ∨ 2 + p.2.val % 2 = 3
      omega
    · rw [hb]; exact p.1.isLt
    · rw [hb, fz_val]; exact h
    · show p.2.val % 2 + 2 = 2 + p.2.val % 2
      omega
  have := elL_some hE
  rw [e49, hb, fz_val] at this
  exact this
theorem ptb_inj {p q : fq × fq} (hp : ecO (-3) (fz (cB : Int)) (some p)) (hq : ecO (-3) (fz (cB : Int)) (some q)) (h : ptb p = ptb q) : p = q := by
  have := elL_ptb hp
  rw [h, elL_ptb hq] at this
  exact (Option.some.inj this).symm
/-- what encode leaves in an array -/
def encb (b : Nat → Nat) (at9 : Nat) (p : Option (fq × fq)) : Nat → Nat := match p with
  | none => b
  | some (x, y) => wrb (b1 b at9 (2 + y.val % 2)) (at9 + 1) 48 x.val
def pz (p : Option (fq × fq)) : Int32 := match p with
  | none => 0
  | some _ => 1
theorem encb_at {b : Nat → Nat} {at9 : Nat} {p : fq × fq} : sl (encb b at9 (some p)) at9 49 = ptb p := by
  have e : sl (encb b at9 (some p)) at9 (1 + 48) = _ := sl_app
  rw [show (49 : Nat) = 1 + 48 from rfl, e]
  show sl (wrb (b1 b at9 (2 + p.2.val % 2)) (at9 + 1) 48 p.1.val) at9 1 ++ sl (wrb (b1 b at9 (2 + p.2.val % 2)) (at9 + 1) 48 p.1.val) (at9 + 1) 48 = _
  rw [wrb_sl, sl_1]
  have : wrb (b1 b at9 (2 + p.2.val % 2)) (at9 + 1) 48 p.1.val at9 = 2 + p.2.val % 2 := by
    unfold wrb b1
    rw [if_neg (by omega), if_pos rfl]
  rw [this]; rfl
theorem encb_off {b : Nat → Nat} {at9 j : Nat} {p : Option (fq × fq)} (h : j < at9 ∨ at9 + 49 ≤ j) : encb b at9 p j = b j := by
  cases p with
  | none => rfl
  | some p =>
    show wrb (b1 b at9 (2 + p.2.val % 2)) (at9 + 1) 48 p.1.val j = _
    unfold wrb b1
    rw [if_neg (by omega), if_neg (by omega)]
theorem encb_sl {b : Nat → Nat} {at9 q k : Nat} {p : Option (fq × fq)} (h : q + k ≤ at9 ∨ at9 + 49 ≤ q) : sl (encb b at9 p) q k = sl b q k := sl_ext (fun j hj => encb_off (by omega))
