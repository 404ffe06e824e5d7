/-! sums of the curve's points in their places -/
section
variable {l : Launch} {O : Nat → vm_Ob} {f9 : Value}
/-- point j out of a small file -/
theorem CA_small {n m : Nat} {X : Nat → Nat} {h h' : vm_H} {g : Nat → Option (Option (fq × fq))} {u u' : Nat → Option Int} {i j k t b : Nat} {x y z : Int} {p : Option (fq × fq)} (hk : CAu n X h g u) (k' : RG m X (fun q => X (100 + s3 i j k q)) (X 30) (X 31) h' u') (F : fr h h' (AR m X (fun q => X (100 + s3 i j k q)))) (hm : m ≤ 17) (hi : i < n) (hj : j < n) (hkn : k < n) (hij : 11 < m → i ≠ j) (hik : 14 < m → i ≠ k ∧ j ≠ k) (hb : b + 2 < m) (h8 : 8 ≤ b) (ht : s3 i j k b = 14 + 3 * t) (ht1 : s3 i j k (b + 1) = 14 + 3 * t + 1) (ht2 : s3 i j k (b + 2) = 14 + 3 * t + 2)
    (hx : u' b = some x) (hy : u' (b + 1) = some y) (hz : u' (b + 2) = some z) (hp : jr (fz x) (fz y) (fz z) p) (ho : ecO (-3) (fz (cB : Int)) p) (hu : ∀ q, 8 ≤ q → q < m → q < b ∨ b + 2 < q → u' q = u (s3 i j k q)) : CA n X h' (gup g t (some p)) ∧ fr h h' (AG n X) := by
  have hlt := s3_lt (n := n) hm hi hj hkn
  have hinj := s3_inj hm hij hik
  have F' : fr h h' (AG n X) := fr_mono F (fun q hq => AR_sub (R := fun i => X (100 + i)) hlt q hq)
  refine ⟨⟨wj u t x y z, CA_set hk ?_ F' (fun q h8 _ hq => wj_n h8 hq) (fun p' e => by cases e; exact wj_p hp ho)⟩, F'⟩
  refine RG_back (R := fun i => X (100 + i)) hk.1 k' F hlt (fun q hq => ?_)
  by_cases hc : ∃ r, r < m ∧ s3 i j k r = q
  · obtain ⟨r, hr, e⟩ := hc
    refine Or.inl ⟨r, hr, e, fun a ha => ?_⟩
    rcases Nat.lt_or_ge r 8 with r8 | r8
    · have : q = r := by rw [← e]; unfold s3; rw [if_pos r8]
      unfold wj at ha
      rw [if_pos (by omega)] at ha
      cases ha
    · have q8 : 8 ≤ q := by
        rw [← e]; unfold s3
        rw [if_neg (by omega)]
        repeat' split
        all_goals omega
      by_cases r0 : r = b
      · subst r0
        have : q = 14 + 3 * t := by omega
        unfold wj at ha
        rw [if_neg (by omega), if_pos this] at ha
        rw [hx]; exact ha
      · by_cases r1 : r = b + 1
        · subst r1
          have : q = 14 + 3 * t + 1 := by omega
          unfold wj at ha
          rw [if_neg (by omega), if_neg (by omega), if_pos this] at ha
          rw [hy]; exact ha
        · by_cases r2 : r = b + 2
          · subst r2
            have : q = 14 + 3 * t + 2 := by omega
            unfold wj at ha
            rw [if_neg (by omega), if_neg (by omega), if_neg (by omega), if_pos this] at ha
            rw [hz]; exact ha
          · rw [hu r r8 hr (by omega), e]
            have n0 : q ≠ 14 + 3 * t := fun z => r0 (hinj r b hr (by omega) (by omega))
            have n1 : q ≠ 14 + 3 * t + 1 := fun z => r1 (hinj r (b + 1) hr (by omega) (by omega))
            have n2 : q ≠ 14 + 3 * t + 2 := fun z => r2 (hinj r (b + 2) hr (by omega) (by omega))
            unfold wj at ha
            rw [if_neg (by omega), if_neg n0, if_neg n1, if_neg n2] at ha
            exact ha
  · refine Or.inr ⟨fun r hr e => hc ⟨r, hr, e⟩, fun a ha => ?_⟩
    have n0 : q ≠ 14 + 3 * t := fun z => hc ⟨b, by omega, by omega⟩
    have n1 : q ≠ 14 + 3 * t + 1 := fun z => hc ⟨b + 1, by omega, by omega⟩
    have n2 : q ≠ 14 + 3 * t + 2 := fun z => hc ⟨b + 2, by omega, by omega⟩
    unfold wj at ha
    by_cases q8 : q < 8
    · rw [if_pos q8] at ha; cases ha
    · rw [if_neg q8, if_neg n0, if_neg n1, if_neg n2] at ha
      exact ha
theorem a_twice {n : Nat} {X : Nat → Nat} {h : vm_H} {g : Nat → Option (Option (fq × fq))} {i j : Nat} {p : Option (fq × fq)} (hk : CA n X h g) (hi : i < n) (hj : j < n) (hp : g i = some p) :
    vm_Met (vm_env l O f9) mX2_twice 0 0 [.ref (X 24), .ref (X (1000 + i)), .ref (X (1000 + j))] h (fun r h' => r = none ∧ CA n X h' (gup g j (some (ecA (-3) fiv p p))) ∧ fr h h' (AG n X)) := by
  obtain ⟨u, hk⟩ := hk
  obtain ⟨k1, ⟨s1, s2, s3', s4, s5⟩, k3, k4⟩ := hk
  have hk : CAu n X h g u := ⟨k1, ⟨s1, s2, s3', s4, s5⟩, k3, k4⟩
  obtain ⟨x, y, z, a1, a2, a3, jp, op⟩ := k4 i hi p hp
  have Tg : ∀ (a b c q : Nat), q < 8 → (if q < 8 then some (X (100 + q)) else none) = some (X (100 + s3 a b c q)) := by
    intro a b c q hq
    rw [if_pos hq]; unfold s3; rw [if_pos hq]
  by_cases e : i = j
  · subst e
    have ks := RG_sub (m' := 11) (s := s3 i i i) k1 (s3_lt (by decide) hi hi hi) (s3_inj (by decide) (fun z => absurd z (by decide)) (fun z => absurd z (by decide)))
    refine vm_metP (c_twice_s ks s1 s2 (Tg i i i) (s4 i hi) (s4 i hi) a1 a2 a3) ?_
    rintro _ h' ⟨rfl, u', x', y', z', k', b1, b2, b3, c1, c2, c3, un, F⟩
    refine ⟨rfl, CA_small (m := 11) (b := 8) (t := i) hk k' F (by decide) hi hi hi (fun z => absurd z (by decide)) (fun z => absurd z (by decide)) (by decide) (by decide) rfl rfl rfl b1 b2 b3 ?_ (ecO_A cK op op) (fun q h8 hm hq => ?_)⟩
    · rw [c1, c2, c3]; exact jr_dbl cK op jp
    · exact un q h8 (by omega)
  · have ks := RG_sub (m' := 14) (s := s3 i j j) k1 (s3_lt (by decide) hi hj hj) (s3_inj (by decide) (fun _ => e) (fun z => absurd z (by decide)))
    refine vm_metP (c_twice ks s1 s2 (Tg i j j) (s4 i hi) (s4 j hj) a1 a2 a3) ?_
    rintro _ h' ⟨rfl, u', x', y', z', k', b1, b2, b3, c1, c2, c3, un, F⟩
    refine ⟨rfl, CA_small (m := 14) (b := 11) (t := j) hk k' F (by decide) hi hj hj (fun _ => e) (fun z => absurd z (by decide)) (by decide) (by decide) rfl rfl rfl b1 b2 b3 ?_ (ecO_A cK op op) (fun q h8 hm hq => ?_)⟩
    · rw [c1, c2, c3]; exact jr_dbl cK op jp
    · exact un q h8 (by omega)
theorem zr_n {n : Nat} {X : Nat → Nat} {h : vm_H} {u : Nat → Option Int} {i j k m : Nat} (k1 : RGX n X h u) (hm : m ≤ 17) (hi : i < n) (hj : j < n) (hk : k < n) : ¬ AR m X (fun q => X (100 + s3 i j k q)) (X 108) := by
  rintro ((z | ⟨_, z⟩) | ⟨q, hq, z⟩ | ⟨q, hq, z⟩)
  · exact (k1.2.2.2.1 8 (by omega)).1.1 6 (by decide) z
  · exact (k1.2.2.2.1 8 (by omega)).1.1 5 (by decide) z
  · exact (k1.2.2.2.1 8 (by omega)).2 q hq z
  · have := k1.2.2.1 8 _ (by omega) (s3_lt hm hi hj hk q hq) z
    unfold s3 at this
    repeat' split at this
    all_goals omega
theorem a_add {n : Nat} {X : Nat → Nat} {h : vm_H} {g : Nat → Option (Option (fq × fq))} {i j k : Nat} {p p2 p3 : Option (fq × fq)} (hk : CA n X h g) (hi : i < n) (hj : j < n) (hkn : k < n) (hij : i ≠ j) (hjk : j ≠ k) (hp : g i = some p) (hp2 : g j = some p2) (hp3 : g k = some p3) :
    vm_Met (vm_env l O f9) mX2_add 0 0 [.ref (X 24), .ref (X (1000 + i)), .ref (X (1000 + j)), .ref (X (1000 + k))] h (fun r h' => r = none ∧ CA n X h' (gup g k (some (ecA (-3) fiv p p2))) ∧ fr h h' (AG n X)) := by
  obtain ⟨u, hk⟩ := hk
  obtain ⟨k1, ⟨s1, s2, s3', s4, s5⟩, k3, k4⟩ := hk
  have hk : CAu n X h g u := ⟨k1, ⟨s1, s2, s3', s4, s5⟩, k3, k4⟩
  obtain ⟨x, y, z, a1, a2, a3, jp, op⟩ := k4 i hi p hp
  obtain ⟨x2, y2, z2, b1, b2, b3, jp2, op2⟩ := k4 j hj p2 hp2
  obtain ⟨x3, y3, z3, d1, d2, d3, jp3, op3⟩ := k4 k hkn p3 hp3
  have Z0 := (RG_r k1 (i := 8) (by omega) k3.1).1
  have Tg : ∀ (a b c q : Nat), q < 8 → (if q < 8 then some (X (100 + q)) else none) = some (X (100 + s3 a b c q)) := by
    intro a b c q hq
    rw [if_pos hq]; unfold s3; rw [if_pos hq]
  by_cases e : i = k
  · subst e
    have ks := RG_sub (m' := 14) (s := s3 i j j) k1 (s3_lt (by decide) hi hj hj) (s3_inj (by decide) (fun _ => hij) (fun z => absurd z (by decide)))
    refine vm_metP (c_add_s ks s1 s2 (Tg i j j) (s4 i hi) (s4 j hj) (s4 i hi) a1 a2 a3 b1 b2 b3 op op2 jp jp2 a1 a2 Z0 (zr_n k1 (by decide) hi hj hj)) ?_
    rintro _ h' ⟨rfl, u', x', y', z', k', e1, e2, e3, c1, un, F⟩
    exact ⟨rfl, CA_small (m := 14) (b := 8) (t := i) hk k' F (by decide) hi hj hj (fun _ => hij) (fun z => absurd z (by decide)) (by decide) (by decide) rfl rfl rfl e1 e2 e3 c1 (ecO_A cK op op2) (fun q h8 hm hq => un q h8 (by omega))⟩
  · have ks := RG_sub (m' := 17) (s := s3 i j k) k1 (s3_lt (by decide) hi hj hkn) (s3_inj (by decide) (fun _ => hij) (fun _ => ⟨e, hjk⟩))
    refine vm_metP (c_add ks s1 s2 (Tg i j k) (s4 i hi) (s4 j hj) (s4 k hkn) a1 a2 a3 b1 b2 b3 op op2 jp jp2 d1 d2 Z0 (zr_n k1 (by decide) hi hj hkn)) ?_
    rintro _ h' ⟨rfl, u', x', y', z', k', e1, e2, e3, c1, un, F⟩
    exact ⟨rfl, CA_small (m := 17) (b := 14) (t := k) hk k' F (by decide) hi hj hkn (fun _ => hij) (fun _ => ⟨e, hjk⟩) (by decide) (by decide) rfl rfl rfl e1 e2 e3 c1 (ecO_A cK op op2) (fun q h8 hm hq => un q h8 (by omega))⟩
theorem a_cpy {n : Nat} {X : Nat → Nat} {h : vm_H} {g : Nat → Option (Option (fq × fq))} {i j : Nat} {p : Option (fq × fq)} (hk : CA n X h g) (hi : i < n) (hj : j < n) (hp : g i = some p) :
    vm_Met (vm_env l O f9) mX2_copyPoint 0 0 [.ref (X 24), .ref (X (1000 + i)), .ref (X (1000 + j))] h (fun r h' => r = none ∧ CA n X h' (gup g j (some p)) ∧ fr h h' (AG n X)) := by
  obtain ⟨u, hk⟩ := hk
  obtain ⟨k1, ⟨s1, s2, s3', s4, s5⟩, k3, k4⟩ := hk
  have hk : CAu n X h g u := ⟨k1, ⟨s1, s2, s3', s4, s5⟩, k3, k4⟩
  obtain ⟨x, y, z, a1, a2, a3, jp, op⟩ := k4 i hi p hp
  refine vm_metP (c_cpy (i := 14 + 3 * i) (j := 14 + 3 * j) k1 s1 (s4 i hi) (s4 j hj) (by omega) (by omega) (by omega) a1 a2 a3) ?_
  rintro _ h' ⟨rfl, k', F⟩
  refine ⟨rfl, ⟨_, CA_set hk k' F (fun q h8 _ hq => ?_) (fun p' e => ?_)⟩, F⟩
  · rw [up1_n (by omega), up1_n (by omega), up1_n (by omega)]
  · cases e
    refine ⟨x, y, z, ?_, ?_, up1_e, jp, op⟩
    · rw [up1_n (by omega), up1_n (by omega), up1_e]
    · rw [up1_n (by omega), up1_e]
end
