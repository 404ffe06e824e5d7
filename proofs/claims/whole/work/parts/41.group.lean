/-! the group of a curve y^2 = x^3 + a x + b without points of order 2, over a domain -/
/-- l is the slope of the line through two points: of the tangent where they are one -/
def ecS {F : Type} [Lean.Grind.CommRing F] (a : F) (x1 y1 x2 y2 l : F) : Prop := l * (x1 - x2) = y1 - y2 ∧ l * (y1 + y2) = x1 * x1 + x1 * x2 + x2 * x2 + a
def ecC {F : Type} [Lean.Grind.CommRing F] (a b x y : F) : Prop := y * y = x * x * x + a * x + b
def ecD (F : Type) [Lean.Grind.CommRing F] : Prop := ∀ x y : F, x * y = 0 → x = 0 ∨ y = 0
theorem ecD_c {F : Type} [Lean.Grind.CommRing F] (hD : ecD F) {d x y : F} (hd : d ≠ 0) (h : d * x = d * y) : x = y := by
  have : d * (x - y) = 0 := by grind
  rcases hD _ _ this with e | e
  · exact absurd e hd
  · grind
/-- the third point of the line is on the curve -/
theorem ecS_on {F : Type} [Lean.Grind.CommRing F] {a b x1 y1 x2 y2 l : F} (h1 : ecC a b x1 y1) (hs : ecS a x1 y1 x2 y2 l) : ecC a b (l * l - x1 - x2) (l * (x1 - (l * l - x1 - x2)) - y1) := by
  unfold ecC ecS at *
  obtain ⟨s1, s2⟩ := hs
  grind
theorem ecS_comm {F : Type} [Lean.Grind.CommRing F] {a x1 y1 x2 y2 l : F} (hs : ecS a x1 y1 x2 y2 l) : ecS a x2 y2 x1 y1 l := by
  unfold ecS at *
  grind
theorem ecS_sym {F : Type} [Lean.Grind.CommRing F] {a x1 y1 x2 y2 l : F} (hs : ecS a x1 y1 x2 y2 l) : l * (x1 - (l * l - x1 - x2)) - y1 = l * (x2 - (l * l - x2 - x1)) - y2 := by
  unfold ecS at *
  grind
/-- one slope -/
theorem ecS_one {F : Type} [Lean.Grind.CommRing F] {a x1 y1 x2 y2 l m : F} (hD : ecD F) (hn : x1 ≠ x2 ∨ y1 + y2 ≠ 0) (hs : ecS a x1 y1 x2 y2 l) (hm : ecS a x1 y1 x2 y2 m) : l = m := by
  unfold ecS at *
  rcases hn with q | q
  · exact ecD_c hD (d := x1 - x2) (by grind) (by grind)
  · exact ecD_c hD (d := y1 + y2) q (by grind)
/-- taking a point away again -/
theorem ecS_back {F : Type} [Lean.Grind.CommRing F] {a x1 y1 x2 y2 l : F} (hs : ecS a x1 y1 x2 y2 l) : ecS a x1 (-y1) (l * l - x1 - x2) (l * (x1 - (l * l - x1 - x2)) - y1) (-l) := by
  unfold ecS at *
  obtain ⟨s1, s2⟩ := hs
  constructor
  · grind
  · grind
/-- three points: the slopes of the second sums -/
theorem ecS_ass {F : Type} [Lean.Grind.CommRing F] {a x1 y1 x2 y2 x3 y3 l n e : F} (hD : ecD F) (h1 : ecS a x1 y1 x2 y2 l) (h2 : ecS a x2 y2 x3 y3 n) (hn : l - n ≠ 0) (he : e * (l - n) = x1 - x3) :
    ecS a (l * l - x1 - x2) (l * (x1 - (l * l - x1 - x2)) - y1) x3 y3 (e - l) := by
  unfold ecS at *
  obtain ⟨s1, s2⟩ := h1
  obtain ⟨t1, t2⟩ := h2
  obtain rfl : y1 = l * (x1 - x2) + y2 := by clear s2 t2 hn hD he t1; grind
  obtain rfl : y3 = y2 - n * (x2 - x3) := by clear s2 t2 hn hD he s1; grind
  obtain rfl : a = n * (y2 + (y2 - n * (x2 - x3))) - (x2 * x2 + x2 * x3 + x3 * x3) := by clear s2 hn hD he s1 t1; grind
  clear s1 t1 t2
  obtain rfl : x1 = x3 + e * (l - n) := by clear s2 hn hD; grind
  clear he
  have k : (l - n) * (2 * y2 - (e * (x3 + e * (l - n) + x2 + x3) - l * l * e - (l + n) * (x3 - x2))) = (l - n) * 0 := by grind
  have k2 := ecD_c hD hn k
  clear k s2 hn hD
  constructor
  · grind
  · grind
theorem ecS_k {F : Type} [Lean.Grind.CommRing F] {a x1 y1 x2 y2 x3 y3 l n e : F} (hD : ecD F) (h1 : ecS a x1 y1 x2 y2 l) (h2 : ecS a x2 y2 x3 y3 n) (hn : l - n ≠ 0) (he : e * (l - n) = x1 - x3) :
    2 * y2 = e * (x1 + x2 + x3) - l * l * e - (l + n) * (x3 - x2) := by
  unfold ecS at *
  obtain ⟨s1, s2⟩ := h1
  obtain ⟨t1, t2⟩ := h2
  obtain rfl : y1 = l * (x1 - x2) + y2 := by clear s2 t2 hn hD he t1; grind
  obtain rfl : y3 = y2 - n * (x2 - x3) := by clear s2 t2 hn hD he s1; grind
  obtain rfl : a = n * (y2 + (y2 - n * (x2 - x3))) - (x2 * x2 + x2 * x3 + x3 * x3) := by clear s2 hn hD he s1 t1; grind
  clear s1 t1 t2
  obtain rfl : x1 = x3 + e * (l - n) := by clear s2 hn hD; grind
  clear he
  have k : (l - n) * (2 * y2 - (e * (x3 + e * (l - n) + x2 + x3) - l * l * e - (l + n) * (x3 - x2))) = (l - n) * 0 := by grind
  have k2 := ecD_c hD hn k
  clear k s2 hn hD
  grind
/-- what is asked of the curve: l inverts, 2 is not 0, no point has y = 0 -/
def ecK {F : Type} [Lean.Grind.CommRing F] (a b : F) (iv : F → F) : Prop := ecD F ∧ (∀ x : F, x ≠ 0 → x * iv x = 1) ∧ (2 : F) ≠ 0 ∧ ∀ x y : F, ecC a b x y → y ≠ 0
def ecO {F : Type} [Lean.Grind.CommRing F] (a b : F) : Option (F × F) → Prop
  | none => True
  | some p => ecC a b p.1 p.2
def ecN {F : Type} [Lean.Grind.CommRing F] : Option (F × F) → Option (F × F)
  | none => none
  | some p => some (p.1, -p.2)
def ecT {F : Type} [Lean.Grind.CommRing F] (l x1 y1 x2 : F) : Option (F × F) := some (l * l - x1 - x2, l * (x1 - (l * l - x1 - x2)) - y1)
def ecL {F : Type} [Lean.Grind.CommRing F] [DecidableEq F] (a : F) (iv : F → F) (x1 y1 x2 y2 : F) : F := if x1 = x2 then (x1 * x1 + x1 * x2 + x2 * x2 + a) * iv (y1 + y2) else (y1 - y2) * iv (x1 - x2)
def ecA {F : Type} [Lean.Grind.CommRing F] [DecidableEq F] (a : F) (iv : F → F) : Option (F × F) → Option (F × F) → Option (F × F)
  | none, q => q
  | some p, none => some p
  | some p, some q => if p.1 = q.1 ∧ p.2 + q.2 = 0 then none else ecT (ecL a iv p.1 p.2 q.1 q.2) p.1 p.2 q.1
theorem ecL_s {F : Type} [Lean.Grind.CommRing F] [DecidableEq F] {a b x1 y1 x2 y2 : F} {iv : F → F} (hK : ecK a b iv) (h1 : ecC a b x1 y1) (h2 : ecC a b x2 y2) (hn : ¬ (x1 = x2 ∧ y1 + y2 = 0)) : ecS a x1 y1 x2 y2 (ecL a iv x1 y1 x2 y2) := by
  obtain ⟨hD, hi, _, _⟩ := hK
  unfold ecL
  by_cases q : x1 = x2
  · subst q
    have q : y1 + y2 ≠ 0 := fun z => hn ⟨rfl, z⟩
    rw [if_pos rfl]
    have hi := hi _ q
    have e : y1 = y2 := by
      refine ecD_c hD q ?_
      unfold ecC at *
      grind
    subst e
    unfold ecS
    generalize iv (y1 + y1) = v at *
    constructor <;> grind
  · rw [if_neg q]
    have q2 : x1 - x2 ≠ 0 := fun z => q (by grind)
    have hi := hi _ q2
    generalize iv (x1 - x2) = v at *
    unfold ecS ecC at *
    constructor
    · grind
    · refine ecD_c hD q2 ?_
      clear hn q q2 hD
      have e : (y1 - y2) * (y1 + y2) = (x1 - x2) * (x1 * x1 + x1 * x2 + x2 * x2 + a) := by clear hi; grind
      have : (x1 - x2) * ((y1 - y2) * v * (y1 + y2)) = ((x1 - x2) * v) * ((y1 - y2) * (y1 + y2)) := by clear hi e h1 h2; grind
      rw [this, hi, e]; clear hi e h1 h2 this; grind
theorem ecS_n {F : Type} [Lean.Grind.CommRing F] {a b x1 y1 x2 y2 l : F} {iv : F → F} (hK : ecK a b iv) (h1 : ecC a b x1 y1) (hs : ecS a x1 y1 x2 y2 l) : ¬ (x1 = x2 ∧ y1 + y2 = 0) := by
  obtain ⟨hD, hi, h2, hy⟩ := hK
  rintro ⟨rfl, e⟩
  unfold ecS at hs
  have : (2 : F) * y1 = 0 := by grind
  rcases hD _ _ this with z | z
  · exact h2 z
  · exact hy _ _ h1 z
/-- a sum by any slope -/
theorem ecA_s {F : Type} [Lean.Grind.CommRing F] [DecidableEq F] {a b x1 y1 x2 y2 l : F} {iv : F → F} (hK : ecK a b iv) (h1 : ecC a b x1 y1) (h2 : ecC a b x2 y2) (hs : ecS a x1 y1 x2 y2 l) : ecA a iv (some (x1, y1)) (some (x2, y2)) = ecT l x1 y1 x2 := by
  have hn := ecS_n hK h1 hs
  have hl := ecL_s hK h1 h2 hn
  have e := ecS_one hK.1 (by by_cases q : x1 = x2; exact Or.inr (fun z => hn ⟨q, z⟩); exact Or.inl q) hl hs
  show (if x1 = x2 ∧ y1 + y2 = 0 then none else ecT (ecL a iv x1 y1 x2 y2) x1 y1 x2) = _
  rw [if_neg hn, e]
theorem ecA_n {F : Type} [Lean.Grind.CommRing F] [DecidableEq F] {a : F} {iv : F → F} {p q : F × F} (h : p.1 = q.1 ∧ p.2 + q.2 = 0) : ecA a iv (some p) (some q) = none := by
  show (if p.1 = q.1 ∧ p.2 + q.2 = 0 then none else ecT (ecL a iv p.1 p.2 q.1 q.2) p.1 p.2 q.1) = _
  rw [if_pos h]
theorem ecO_A {F : Type} [Lean.Grind.CommRing F] [DecidableEq F] {a b : F} {iv : F → F} (hK : ecK a b iv) {p q : Option (F × F)} (hp : ecO a b p) (hq : ecO a b q) : ecO a b (ecA a iv p q) := by
  rcases p with _ | ⟨x1, y1⟩
  · exact hq
  rcases q with _ | ⟨x2, y2⟩
  · exact hp
  by_cases hn : x1 = x2 ∧ y1 + y2 = 0
  · rw [ecA_n (p := (x1, y1)) (q := (x2, y2)) hn]; trivial
  · have hs := ecL_s hK hp hq hn
    rw [ecA_s hK hp hq hs]
    exact ecS_on hp hs
theorem ecO_N {F : Type} [Lean.Grind.CommRing F] {a b : F} {p : Option (F × F)} (hp : ecO a b p) : ecO a b (ecN p) := by
  rcases p with _ | ⟨x1, y1⟩
  · trivial
  · unfold ecO ecN ecC at *
    dsimp only at *
    grind
theorem ecA_comm {F : Type} [Lean.Grind.CommRing F] [DecidableEq F] {a b : F} {iv : F → F} (hK : ecK a b iv) {p q : Option (F × F)} (hp : ecO a b p) (hq : ecO a b q) : ecA a iv p q = ecA a iv q p := by
  rcases p with _ | ⟨x1, y1⟩
  · rcases q with _ | ⟨x2, y2⟩ <;> rfl
  rcases q with _ | ⟨x2, y2⟩
  · rfl
  by_cases hn : x1 = x2 ∧ y1 + y2 = 0
  · rw [ecA_n (p := (x1, y1)) (q := (x2, y2)) hn, ecA_n (p := (x2, y2)) (q := (x1, y1)) ⟨hn.1.symm, by have := hn.2; show y2 + y1 = 0; grind⟩]
  · have hs := ecL_s hK hp hq hn
    rw [ecA_s hK hp hq hs, ecA_s hK hq hp (ecS_comm hs)]
    unfold ecT
    rw [ecS_sym hs]
    congr 2
    grind
theorem ecA_neg {F : Type} [Lean.Grind.CommRing F] [DecidableEq F] {a : F} {iv : F → F} (p : Option (F × F)) : ecA a iv p (ecN p) = none := by
  rcases p with _ | ⟨x1, y1⟩
  · rfl
  · exact ecA_n (p := (x1, y1)) (q := (x1, -y1)) ⟨rfl, by show y1 + -y1 = 0; grind⟩
/-- minus p and p + q make q -/
theorem ecA_back {F : Type} [Lean.Grind.CommRing F] [DecidableEq F] {a b : F} {iv : F → F} (hK : ecK a b iv) {p q : Option (F × F)} (hp : ecO a b p) (hq : ecO a b q) : ecA a iv (ecN p) (ecA a iv p q) = q := by
  rcases p with _ | ⟨x1, y1⟩
  · rfl
  rcases q with _ | ⟨x2, y2⟩
  · show ecA a iv (some (x1, -y1)) (some (x1, y1)) = none
    exact ecA_n (p := (x1, -y1)) (q := (x1, y1)) ⟨rfl, by show -y1 + y1 = 0; grind⟩
  by_cases hn : x1 = x2 ∧ y1 + y2 = 0
  · rw [ecA_n (p := (x1, y1)) (q := (x2, y2)) hn]
    show some (x1, -y1) = some (x2, y2)
    rw [hn.1]; congr 2; have := hn.2; grind
  · have hs := ecL_s hK hp hq hn
    have h3 := ecS_on hp hs
    generalize ecL a iv x1 y1 x2 y2 = l at *
    rw [ecA_s hK hp hq hs]
    have hpn : ecC a b x1 (-y1) := ecO_N (p := some (x1, y1)) hp
    show ecA a iv (some (x1, -y1)) (some _) = _
    rw [ecA_s hK hpn h3 (ecS_back hs)]
    unfold ecT
    unfold ecS at hs
    congr 2 <;> grind
theorem ecA_assoc {F : Type} [Lean.Grind.CommRing F] [DecidableEq F] {a b : F} {iv : F → F} (hK : ecK a b iv) {p q r : Option (F × F)} (hp : ecO a b p) (hq : ecO a b q) (hr : ecO a b r) : ecA a iv (ecA a iv p q) r = ecA a iv p (ecA a iv q r) := by
  rcases p with _ | ⟨x1, y1⟩
  · rfl
  rcases q with _ | ⟨x2, y2⟩
  · rfl
  rcases r with _ | ⟨x3, y3⟩
  · show ecA a iv (ecA a iv _ _) none = ecA a iv (some (x1, y1)) (some (x2, y2))
    generalize ecA a iv (some (x1, y1)) (some (x2, y2)) = s
    rcases s with _ | s <;> rfl
  by_cases hn : x1 = x2 ∧ y1 + y2 = 0
  · rw [ecA_n (p := (x1, y1)) (q := (x2, y2)) hn]
    have e : some (x1, y1) = ecN (some (x2, y2)) := by
      show some (x1, y1) = some (x2, -y2)
      rw [hn.1]; congr 2; have := hn.2; grind
    rw [e, ecA_back hK hq hr]; rfl
  by_cases hm : x2 = x3 ∧ y2 + y3 = 0
  · rw [ecA_n (p := (x2, y2)) (q := (x3, y3)) hm]
    have e : some (x3, y3) = ecN (some (x2, y2)) := by
      show some (x3, y3) = some (x2, -y2)
      rw [hm.1]; congr 2; have := hm.2; grind
    rw [e, ecA_comm hK hp hq, ecA_comm hK (ecO_A hK hq hp) (ecO_N hq), ecA_back hK hq hp]; rfl
  have hs := ecL_s hK hp hq hn
  have ht := ecL_s hK hq hr hm
  have h4 := ecS_on hp hs
  have h5 := ecS_on hq ht
  generalize ecL a iv x1 y1 x2 y2 = l at *
  generalize ecL a iv x2 y2 x3 y3 = n at *
  rw [ecA_s hK hp hq hs, ecA_s hK hq hr ht]
  have hD := hK.1
  by_cases hln : l = n
  · subst hln
    have k : (x1 - x3) * (x1 + x2 + x3 - l * l) = 0 := by
      unfold ecS at hs ht
      clear h4 h5 hp hq hr hn hm hK hD
      obtain ⟨s1, s2⟩ := hs
      obtain ⟨t1, t2⟩ := ht
      obtain rfl : y1 = l * (x1 - x2) + y2 := by clear s2 t2 t1; grind
      obtain rfl : y3 = y2 - l * (x2 - x3) := by clear s2 t2 s1; grind
      clear s1 t1
      grind
    rcases hD _ _ k with z | z
    · have e1 : x3 = x1 := by grind
      subst e1
      have e2 : y3 = y1 := by
        unfold ecS at hs ht; clear h4 h5 hp hq hr hn hm hK hD k z; grind
      subst e2
      rw [← ecA_s hK hp hq hs, ← ecA_s hK hq hr ht, ecA_comm hK (ecO_A hK hp hq) hp]
      congr 1
      exact ecA_comm hK hp hq
    · have e1 : ecA a iv (ecT l x1 y1 x2) (some (x3, y3)) = none := by
        refine ecA_n (p := (_, _)) (q := (x3, y3)) ⟨?_, ?_⟩
        · show l * l - x1 - x2 = x3
          grind
        · show l * (x1 - (l * l - x1 - x2)) - y1 + y3 = 0
          unfold ecS at hs ht; clear h4 h5 hp hq hr hn hm hK hD k; grind
      have e2 : ecA a iv (some (x1, y1)) (ecT l x2 y2 x3) = none := by
        refine ecA_n (p := (x1, y1)) (q := (_, _)) ⟨?_, ?_⟩
        · show x1 = l * l - x2 - x3
          grind
        · show y1 + (l * (x2 - (l * l - x2 - x3)) - y2) = 0
          unfold ecS at hs ht; clear h4 h5 hp hq hr hn hm hK hD k; grind
      rw [e1, e2]
  · have hd : l - n ≠ 0 := fun z => hln (by grind)
    have hiv := hK.2.1 _ hd
    have he : ((x1 - x3) * iv (l - n)) * (l - n) = x1 - x3 := by
      generalize iv (l - n) = v at *
      clear hs ht h4 h5 hp hq hr hn hm hK hD hd hln
      grind
    generalize (x1 - x3) * iv (l - n) = e at *
    have u1 := ecS_ass hD hs ht hd he
    have u2 := ecS_ass (e := e) hD (ecS_comm ht) (ecS_comm hs) (fun z => hd (by grind)) (by grind)
    have k2 := ecS_k hD hs ht hd he
    have k3 := hs.1
    have e5 : ecT n x2 y2 x3 = ecT n x3 y3 x2 := by
      unfold ecT; rw [ecS_sym ht]; congr 2; grind
    have h5' := ecS_on hr (ecS_comm ht)
    rw [e5]
    show ecA a iv (some _) (some (x3, y3)) = ecA a iv (some (x1, y1)) (some _)
    rw [ecA_s hK h4 hr u1, ecA_s hK hp h5' (ecS_comm u2)]
    unfold ecT
    have g1 : (e - l) * (e - l) - (l * l - x1 - x2) - x3 = (e - n) * (e - n) - x1 - (n * n - x3 - x2) := by
      clear u1 u2 e5 h5' h4 h5 hiv hD hK hp hq hr hs ht k2 k3; grind
    have g2 : (e - l) * ((l * l - x1 - x2) - ((e - l) * (e - l) - (l * l - x1 - x2) - x3)) - (l * (x1 - (l * l - x1 - x2)) - y1) = (e - n) * (x1 - ((e - n) * (e - n) - x1 - (n * n - x3 - x2))) - y1 := by
      clear u1 u2 e5 h5' h4 h5 hiv hD hK hp hq hr hs ht hn hm hln hd
      grind
    rw [g2, g1]
