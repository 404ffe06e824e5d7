/-! Jacobian coordinates -/
def jr {F : Type} [Lean.Grind.CommRing F] (X Y Z : F) (p : Option (F × F)) : Prop := (Z = 0 ∧ p = none) ∨ (Z ≠ 0 ∧ ∃ x y, p = some (x, y) ∧ X = x * (Z * Z) ∧ Y = y * (Z * Z * Z))
/-- the sums of the doubling -/
def jd1 {F : Type} [Lean.Grind.CommRing F] (X Y Z : F) : F := 3 * ((X - Z * Z) * (X + Z * Z))
def jdX {F : Type} [Lean.Grind.CommRing F] (X Y Z : F) : F := jd1 X Y Z * jd1 X Y Z - 8 * (X * (Y * Y))
def jdZ {F : Type} [Lean.Grind.CommRing F] (Y Z : F) : F := (Y + Z) * (Y + Z) - Y * Y - Z * Z
def jdY {F : Type} [Lean.Grind.CommRing F] (X Y Z : F) : F := jd1 X Y Z * (4 * (X * (Y * Y)) - jdX X Y Z) - 8 * (Y * Y * (Y * Y))
theorem ne_mul {F : Type} [Lean.Grind.CommRing F] (hD : ecD F) {x y : F} (hx : x ≠ 0) (hy : y ≠ 0) : x * y ≠ 0 := fun z => by
  rcases hD _ _ z with e | e
  · exact hx e
  · exact hy e
theorem jr_dbl {F : Type} [Lean.Grind.CommRing F] [DecidableEq F] {b : F} {iv : F → F} (hK : ecK (-3) b iv) {X Y Z : F} {p : Option (F × F)} (hp : ecO (-3) b p) (h : jr X Y Z p) : jr (jdX X Y Z) (jdY X Y Z) (jdZ Y Z) (ecA (-3) iv p p) := by
  rcases h with ⟨rfl, rfl⟩ | ⟨hz, x, y, rfl, hX, hY⟩
  · left
    refine ⟨?_, rfl⟩
    unfold jdZ; grind
  · right
    have hy : y ≠ 0 := hK.2.2.2 _ _ hp
    have hn : ¬ (x = x ∧ y + y = 0) := by
      rintro ⟨_, e⟩
      have : (2 : F) * y = 0 := by grind
      rcases hK.1 _ _ this with z | z
      · exact hK.2.2.1 z
      · exact hy z
    have hs := ecL_s hK hp hp hn
    rw [ecA_s hK hp hp hs]
    generalize ecL (-3) iv x y x y = l at *
    have ez : jdZ Y Z = 2 * y * (Z * Z * Z * Z) := by unfold jdZ; rw [hY]; clear hs hn hK hp; grind
    have hs2 := hs.2
    have e1 : jd1 X Y Z = l * (2 * y * (Z * Z * Z * Z)) := by
      unfold jd1; rw [hX]
      clear hX hY ez hs hn hK hp
      have : l * (2 * y) = 3 * (x * x) - 3 := by grind
      have e : l * (2 * y * (Z * Z * Z * Z)) = l * (2 * y) * (Z * Z * Z * Z) := by clear this hs2; grind
      rw [e, this]; clear this e hs2; grind
    refine ⟨?_, _, _, rfl, ?_, ?_⟩
    · rw [ez]
      exact ne_mul hK.1 (ne_mul hK.1 hK.2.2.1 hy) (ne_mul hK.1 (ne_mul hK.1 (ne_mul hK.1 hz hz) hz) hz)
    · unfold jdX
      rw [e1, ez, hX, hY]
      clear e1 ez hX hY hs hs2 hn hK hp
      grind
    · have eX : jdX X Y Z = (l * l - x - x) * (2 * y * (Z * Z * Z * Z) * (2 * y * (Z * Z * Z * Z))) := by
        unfold jdX
        rw [e1, hX, hY]
        clear e1 ez hX hY hs hs2 hn hK hp
        grind
      unfold jdY
      rw [eX, e1, ez, hX, hY]
      clear e1 ez hX hY hs hs2 hn hK hp eX
      grind
def jaH {F : Type} [Lean.Grind.CommRing F] (X1 Z1 X2 Z2 : F) : F := X2 * (Z1 * Z1) - X1 * (Z2 * Z2)
def jaD {F : Type} [Lean.Grind.CommRing F] (Y1 Z1 Y2 Z2 : F) : F := Y2 * Z1 * (Z1 * Z1) - Y1 * Z2 * (Z2 * Z2)
def jaX {F : Type} [Lean.Grind.CommRing F] (H D U : F) : F := D * D - H * (H * H) - U * (H * H) - U * (H * H)
def jaY {F : Type} [Lean.Grind.CommRing F] (H D U S : F) : F := D * (U * (H * H) - jaX H D U) - S * (H * (H * H))
theorem jr_add {F : Type} [Lean.Grind.CommRing F] [DecidableEq F] {b : F} {iv : F → F} (hK : ecK (-3) b iv) {X1 Y1 Z1 X2 Y2 Z2 : F} {p q : Option (F × F)} (hp : ecO (-3) b p) (hq : ecO (-3) b q) (h1 : jr X1 Y1 Z1 p) (h2 : jr X2 Y2 Z2 q) (hz1 : Z1 ≠ 0) (hz2 : Z2 ≠ 0) :
    (jaH X1 Z1 X2 Z2 ≠ 0 → jr (jaX (jaH X1 Z1 X2 Z2) (jaD Y1 Z1 Y2 Z2) (X1 * (Z2 * Z2))) (jaY (jaH X1 Z1 X2 Z2) (jaD Y1 Z1 Y2 Z2) (X1 * (Z2 * Z2)) (Y1 * Z2 * (Z2 * Z2))) (Z1 * Z2 * jaH X1 Z1 X2 Z2) (ecA (-3) iv p q)) ∧
    (jaH X1 Z1 X2 Z2 = 0 → jaD Y1 Z1 Y2 Z2 = 0 → p = q) ∧ (jaH X1 Z1 X2 Z2 = 0 → jaD Y1 Z1 Y2 Z2 ≠ 0 → ecA (-3) iv p q = none) := by
  rcases h1 with ⟨rfl, rfl⟩ | ⟨_, x1, y1, rfl, hX1, hY1⟩
  · exact absurd rfl hz1
  rcases h2 with ⟨rfl, rfl⟩ | ⟨_, x2, y2, rfl, hX2, hY2⟩
  · exact absurd rfl hz2
  have hD := hK.1
  have eH : jaH X1 Z1 X2 Z2 = (Z1 * Z1 * (Z2 * Z2)) * (x2 - x1) := by
    unfold jaH; rw [hX1, hX2]; clear hX1 hX2 hY1 hY2 hp hq hK; grind
  have eD : jaD Y1 Z1 Y2 Z2 = (Z1 * Z1 * Z1 * (Z2 * Z2 * Z2)) * (y2 - y1) := by
    unfold jaD; rw [hY1, hY2]; clear hX1 hX2 hY1 hY2 hp hq hK eH; grind
  have n1 : Z1 * Z1 * (Z2 * Z2) ≠ 0 := ne_mul hD (ne_mul hD hz1 hz1) (ne_mul hD hz2 hz2)
  have n2 : Z1 * Z1 * Z1 * (Z2 * Z2 * Z2) ≠ 0 := ne_mul hD (ne_mul hD (ne_mul hD hz1 hz1) hz1) (ne_mul hD (ne_mul hD hz2 hz2) hz2)
  have hx : jaH X1 Z1 X2 Z2 = 0 → x1 = x2 := by
    intro e; rw [eH] at e
    rcases hD _ _ e with z | z
    · exact absurd z n1
    · clear eH eD e hX1 hX2 hY1 hY2 hp hq hK; grind
  refine ⟨fun hne => ?_, fun e1 e2 => ?_, fun e1 e2 => ?_⟩
  · right
    have hxx : ¬ x1 = x2 := fun z => hne (by rw [eH, z]; clear eH eD hX1 hX2 hY1 hY2 hp hq hK hne hx; grind)
    have hs := ecL_s hK hp hq (fun z => hxx z.1)
    refine ⟨ne_mul hD (ne_mul hD hz1 hz2) hne, ?_⟩
    rw [ecA_s hK hp hq hs]
    generalize ecL (-3) iv x1 y1 x2 y2 = l at *
    have eD2 : jaD Y1 Z1 Y2 Z2 = l * (Z1 * Z2 * jaH X1 Z1 X2 Z2) := by
      have hs1 := hs.1
      rw [eD, eH, show y2 - y1 = l * (x2 - x1) by clear eH eD hX1 hX2 hY1 hY2 hp hq hK hne hx; grind]
      clear eH eD hX1 hX2 hY1 hY2 hp hq hK hne hx hs hs1; grind
    refine ⟨_, _, rfl, ?_, ?_⟩
    · unfold jaX
      rw [eD2, eH, hX1]
      clear eD2 eH eD hX1 hX2 hY1 hY2 hp hq hK hne hx hs; grind
    · unfold jaY jaX
      rw [eD2, eH, hX1, hY1]
      clear eD2 eH eD hX1 hX2 hY1 hY2 hp hq hK hne hx hs; grind
  · have := hx e1
    subst this
    rw [eD] at e2
    rcases hD _ _ e2 with z | z
    · exact absurd z n2
    · congr 2; clear eH eD hX1 hX2 hY1 hY2 hp hq hK hx; grind
  · have := hx e1
    subst this
    refine ecA_n (p := (x1, y1)) (q := (x1, y2)) ⟨rfl, ?_⟩
    have k : (y1 - y2) * (y1 + y2) = 0 := by
      have a1 : ecC (-3) b x1 y1 := hp
      have a2 : ecC (-3) b x1 y2 := hq
      unfold ecC at a1 a2
      clear eH eD hX1 hX2 hY1 hY2 hp hq hK hx e1 e2; grind
    rcases hD _ _ k with z | z
    · exfalso
      refine e2 ?_
      rw [eD, show y2 - y1 = 0 by clear eH eD hX1 hX2 hY1 hY2 hp hq hK hx e1 e2 k; grind]
      clear eH eD hX1 hX2 hY1 hY2 hp hq hK hx e1 e2 k z; grind
    · exact z
