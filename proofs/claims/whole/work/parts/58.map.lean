/-! Curve.mapTo -/
def cu (x : fq) : fq := x * x * x - 3 * x + fz (cB : Int)
def vv (u : fq) : fq := 0 - u * u * 12
def MX1 (u x1 : fq) : Prop := (vv u * vv u + vv u = 0 ∧ 36 * x1 = fz (cB : Int)) ∨ (vv u * vv u + vv u ≠ 0 ∧ 3 * x1 * (vv u * vv u + vv u) = fz (cB : Int) * (vv u * vv u + vv u + 1))
def MAP (u x y : fq) : Prop := ∃ x1 : fq, MX1 u x1 ∧ ((x = x1 ∧ ∃ w, w * w = cu x1) ∨ (x = vv u * x1 ∧ ∀ w, w * w ≠ cu x1)) ∧ y * y = cu x ∧ y.val % 2 = u.val % 2
theorem cu_on {x y : fq} (h : y * y = cu x) : ecC (-3) (fz (cB : Int)) x y := by
  unfold ecC; rw [h]; exact cK3
/-- the map's exception has a root -/
def swx : Nat := 12805618381119416033692179248388022220803723273096707829690553743019211909104873180129338548214779531340086568485169
def swy : Nat := 37561047755030469683523571075854451141166426459879495640879726933488836242211037541742600528865780251189269636994147
theorem sw_36 : (36 : fq) * fz (swx : Int) = fz (cB : Int) := by
  have e : (36 : fq) = fz 36 := (fz_i rfl).symm
  rw [e, ← fz_mul, fz_eq]; decide +kernel
theorem sw_rt : fz (swy : Int) * fz (swy : Int) = cu (fz (swx : Int)) := by
  unfold cu
  rw [← fz_3', ← fz_mul, ← fz_mul, ← fz_mul, ← fz_mul, ← fz_sub, ← fz_add, fz_eq]; decide +kernel
theorem fq_36 : (36 : fq) ≠ 0 := by decide
theorem fq_three : (3 : fq) ≠ 0 := by decide
theorem sw_ex {x1 : fq} (h : 36 * x1 = fz (cB : Int)) : ∃ w, w * w = cu x1 := by
  have : x1 = fz (swx : Int) := ecD_c fqf_D fq_36 (by rw [h, sw_36])
  rw [this]
  exact ⟨_, sw_rt⟩
/-- the other x -/
theorem sw_g {F : Type} [Lean.Grind.CommRing F] {x v b : F} (h : 3 * x * (v * v + v) = b * (v * v + v + 1)) : (v * x) * (v * x) * (v * x) - 3 * (v * x) + b = v * v * v * (x * x * x - 3 * x + b) := by
  have e : (v * x) * (v * x) * (v * x) - 3 * (v * x) + b - v * v * v * (x * x * x - 3 * x + b) = (v - 1) * (3 * x * (v * v + v) - b * (v * v + v + 1)) := by clear h; grind
  rw [h] at e
  clear h
  grind
theorem sw_y {F : Type} [Lean.Grind.CommRing F] {y v u r s : F} (hy : y * y = -s) (hv : v = 0 - u * u * 12) (hr : r * r = 12) : (y * v * u * r) * (y * v * u * r) = v * v * v * s := by
  have e : (y * v * u * r) * (y * v * u * r) = (y * y) * (v * v) * (u * u * (r * r)) := by clear hy hv hr; grind
  have e2 : u * u * 12 = -v := by clear hy hr e; grind
  rw [e, hy, hr, e2]
  clear e e2 hy hv hr
  grind
theorem sw_x {F : Type} [Lean.Grind.CommRing F] {t Y th b : F} (h : t * Y = 1) (hb : 3 * th = b) : 3 * ((Y + 1) * th) * t = b * (t + 1) := by
  have e : 3 * ((Y + 1) * th) * t = (3 * th) * (t * Y + t) := by clear h hb; grind
  rw [e, h, hb]; clear e h hb; grind
theorem mc_ {F : Type} [Lean.Grind.CommRing F] (x y : F) : x * y = y * x := by grind
section
variable {l : Launch} {O : Nat → vm_Ob} {f9 : Value}
theorem map_267 {n : Nat} {X : Nat → Nat} {h0 h : vm_H} {g : Nat → Option (Option (fq × fq))} {u : Nat → Option Int} {r o : Nat} {U : Int} {x y : Int} (hr : r < n) (hk : CAu n X h g u) (ho : mv h 14 cP o U) (hon : ¬ AG n X o) (F0 : fr h0 h (AG n X)) (hx : u (14 + 3 * r) = some x) (hy : u (14 + 3 * r + 1) = some y) (hz : u (14 + 3 * r + 2) = some 1) (hxy : ecC (-3) (fz (cB : Int)) (fz x) (fz y)) (hM : ∀ y', y' * y' = cu (fz x) → y'.val % 2 = (fz U).val % 2 → MAP (fz U) (fz x) y') :
    vm_T (vm_env l O f9) mX2_mapTo 0 0 267 [(0, .ref (X 24)), (1, .ref o), (2, .ref (X (1000 + r))), (3, .ref (X 100)), (4, .ref (X 101))] [] h (fun e h' => e = none ∧ (∃ x y, MAP (fz U) x y ∧ CA n X h' (gup g r (some (some (x, y))))) ∧ fr h0 h' (AG n X)) := by
  have k0 := hk.1
  have st0 := hk.2.1
  have no6 : o ≠ X 6 := fun e => hon (Or.inl (Or.inl e))
  refine vm_go rfl bX2_mapTo_267 oX2_mapTo_267 ⟨_, st0.1, 0, 0, _, c_odd k0 st0 ⟨ho, no6⟩, Nat.zero_le _, Nat.zero_le _, ?_⟩
  rintro _ h1 ⟨rfl, ⟨v1, k1⟩, F1⟩
  have st1 := CSt_fr k0 st0 F1
  refine ⟨_, _, st1.2.2.2.1 r hr, rfl, ⟨_, st1.1, 0, 0, _, c_odd k1 st1 (RG_r k1 (i := 14 + 3 * r + 1) (a := y) (by omega) (by rw [up1_n (by omega)]; exact hy)), Nat.zero_le _, Nat.zero_le _, ?_⟩⟩
  rintro _ h2 ⟨rfl, ⟨v2, k2⟩, F2⟩
  rw [up1_up] at k2
  have st2 := CSt_fr k1 st1 F2
  have F02 := fr_trans F0 (fr_trans F1 F2)
  have hyy : fz y * fz y = cu (fz x) := by
    unfold ecC at hxy
    rw [hxy]; exact cK3.symm
  refine ⟨fun q => ?_, fun q => ?_⟩
  · have q : nI ((fz U).val % 2) = nI ((fz y).val % 2) := q
    rw [nI_ij (by omega) (by omega)] at q
    refine vm_go rfl bX2_mapTo_302 oX2_mapTo_302 ⟨rfl, ⟨fz x, fz y, hM _ hyy q.symm, ⟨_, CA_set hk k2 (fr_trans F1 F2) (fun i h8 _ hi => up1_n (by omega)) (fun p e => ?_)⟩⟩, F02⟩
    cases e
    refine ⟨x, y, 1, ?_, ?_, ?_, by rw [fz_1]; exact jm_6 fq_one, hxy⟩
    · rw [up1_n (by omega)]; exact hx
    · rw [up1_n (by omega)]; exact hy
    · rw [up1_n (by omega)]; exact hz
  · have q : ¬ nI ((fz U).val % 2) = nI ((fz y).val % 2) := q
    rw [nI_ij (by omega) (by omega)] at q
    have hy0 : fz y ≠ 0 := cK.2.2.2 _ _ hxy
    have hp2 := pr2 _ hy0
    have eny : fz (0 - y) = - fz y := by rw [fz_sub, fz_0]; exact zs_n
    have hxy2 : ecC (-3) (fz (cB : Int)) (fz x) (fz (0 - y)) := by
      rw [eny]
      exact ecO_N (p := some (_, _)) hxy
    have hyy2 : fz (0 - y) * fz (0 - y) = cu (fz x) := by
      unfold ecC at hxy2
      rw [hxy2]; exact cK3.symm
    refine ⟨_, _, st2.1, rfl, ⟨_, _, st2.1, rfl, ⟨_, _, st2.2.2.2.1 r hr, rfl, ⟨_, _, st2.2.2.2.1 r hr, rfl, ⟨(RG_0 k2).choose, (RG_0 k2).choose_spec, 0, 0, _, r_sub (R := fun i => X (100 + i)) (c := 14 + 3 * r + 1) k2 (RG_r k2 (i := 8) (a := 0) (by omega) (by rw [up1_n (by omega)]; exact hk.2.2.1.1)) (RG_r k2 (i := 14 + 3 * r + 1) (a := y) (by omega) (by rw [up1_n (by omega)]; exact hy)) (by omega), Nat.zero_le _, Nat.zero_le _, ?_⟩⟩⟩⟩⟩
    rintro _ h3 ⟨rfl, k3, F3⟩
    refine vm_go rfl bX2_mapTo_302 oX2_mapTo_302 ⟨rfl, ⟨fz x, fz (0 - y), hM _ hyy2 (by rw [eny]; omega), ⟨_, CA_set hk k3 (fr_trans (fr_trans F1 F2) F3) (fun i h8 _ hi => by rw [up1_n (by omega), up1_n (by omega)]) (fun p e => ?_)⟩⟩, fr_trans F02 F3⟩
    cases e
    refine ⟨x, 0 - y, 1, ?_, up1_e, ?_, by rw [fz_1]; exact jm_6 fq_one, hxy2⟩
    · rw [up1_n (by omega), up1_n (by omega)]; exact hx
    · rw [up1_n (by omega), up1_n (by omega)]; exact hz
theorem map_139 {n : Nat} {X : Nat → Nat} {h0 h : vm_H} {g : Nat → Option (Option (fq × fq))} {u : Nat → Option Int} {r o : Nat} {U : Int} {x v : Int} (hr : r < n) (hk : CAu n X h g u) (ho : mv h 14 cP o U) (hon : ¬ AG n X o) (F0 : fr h0 h (AG n X)) (hx : u (14 + 3 * r) = some x) (hv : u 0 = some v) (hvv : fz v = vv (fz U)) (hM : MX1 (fz U) (fz x)) :
    vm_T (vm_env l O f9) mX2_mapTo 0 0 139 [(0, .ref (X 24)), (1, .ref o), (2, .ref (X (1000 + r))), (3, .ref (X 100)), (4, .ref (X 101))] [] h (fun e h' => e = none ∧ (∃ x y, MAP (fz U) x y ∧ CA n X h' (gup g r (some (some (x, y))))) ∧ fr h0 h' (AG n X)) := by
  have k0 := hk.1
  have st0 := hk.2.1
  have no6 : o ≠ X 6 := fun e => hon (Or.inl (Or.inl e))
  obtain ⟨bb, hb9, hbB⟩ := hk.2.2.1.2.1
  obtain ⟨r12, h12, h12s⟩ := hk.2.2.1.2.2.2.1
  refine vm_go rfl bX2_mapTo_139 oX2_mapTo_139 ⟨_, _, st0.1, rfl, ⟨_, _, st0.1, rfl, ⟨(RG_2 k0).choose, _, (RG_2 k0).choose_spec.1, (RG_2 k0).choose_spec.2, ⟨_, _, st0.2.2.2.1 r hr, rfl, ⟨(RG_0 k0).choose, (RG_0 k0).choose_spec, 0, 0, _, r_copy (R := fun i => X (100 + i)) (c := 14 + 3 * r + 2) k0 (RG_1 k0) (by omega), Nat.zero_le _, Nat.zero_le _, ?_⟩⟩⟩⟩⟩
  rintro _ h1 ⟨rfl, k1, F1⟩
  have st1 := CSt_fr k0 st0 F1
  refine ⟨_, _, st1.2.2.2.1 r hr, rfl, ⟨_, st1.1, 0, 0, _, c_cubic (i := 14 + 3 * r) (c := 1) (a := x) k1 st1 (by omega) (by omega) (by omega) (by decide) (by rw [up1_n (by omega)]; exact hx) (by rw [up1_n (by omega)]; exact hb9), Nat.zero_le _, Nat.zero_le _, ?_⟩⟩
  rintro _ h2 ⟨rfl, ⟨s, k2, hs⟩, F2⟩
  have st2 := CSt_fr k1 st1 F2
  rw [hbB] at hs
  have hs : fz s = cu (fz x) := hs
  obtain ⟨rb, hrb, hrv⟩ := st2.2.2.2.2
  refine ⟨_, _, st2.1, rfl, ⟨_, _, st2.1, rfl, ⟨_, _, st2.2.2.2.1 r hr, rfl, ⟨(RG_0 k2).choose, (RG_0 k2).choose_spec, 0, 0, _, r_raise (R := fun i => X (100 + i)) (c := 14 + 3 * r + 1) (at9 := 0) (size := 48) k2 (RG_r k2 (i := 1) (by omega) up1_e) hrb (by decide) (by decide) (by omega), Nat.zero_le _, Nat.zero_le _, ?_⟩⟩⟩⟩
  rintro _ h3 ⟨rfl, k3, F3⟩
  have st3 := CSt_fr k2 st2 F3
  have e4 : bn rb 0 48 * 4 = cPm + 1 + 1 := hrv
  have hpm := rt_pm (a := s) e4
  have hsq := fun t ht => rt_sq (a := s) e4 (s := t) ht
  generalize s ^ bn rb 0 48 = y at *
  refine ⟨_, _, st3.2.2.2.1 r hr, rfl, ⟨_, st3.1, 0, 0, _, c_issq (i := 1) (j := 14 + 3 * r + 1) k3 st3 (by omega) (by omega) (by decide) (by rw [up1_n (by omega), up1_e]) up1_e, Nat.zero_le _, Nat.zero_le _, ?_⟩⟩
  rintro _ h4 ⟨⟨w, rfl, hw⟩, ⟨v4, k4⟩, F4⟩
  have st4 := CSt_fr k3 st3 F4
  have F14 : fr h h4 (AG n X) := fr_trans (fr_trans (fr_trans F1 F2) F3) F4
  have c4 : CAu n X h4 (gup g r none) _ := CA_set hk k4 F14 (fun i h8 _ hi => by rw [up1_n (by omega), up1_n (by omega), up1_n (by omega), up1_n (by omega)]) (fun p e => by cases e)
  have ux : up1 (up1 (up1 (up1 u (14 + 3 * r + 2) (some 1)) 1 (some s)) (14 + 3 * r + 1) (some y)) 7 v4 (14 + 3 * r) = some x := by rw [up1_n (by omega), up1_n (by omega), up1_n (by omega), up1_n (by omega)]; exact hx
  have uy : up1 (up1 (up1 (up1 u (14 + 3 * r + 2) (some 1)) 1 (some s)) (14 + 3 * r + 1) (some y)) 7 v4 (14 + 3 * r + 1) = some y := by rw [up1_n (by omega), up1_e]
  have uz : up1 (up1 (up1 (up1 u (14 + 3 * r + 2) (some 1)) 1 (some s)) (14 + 3 * r + 1) (some y)) 7 v4 (14 + 3 * r + 2) = some 1 := by rw [up1_n (by omega), up1_n (by omega), up1_n (by omega), up1_e]
  have uv : up1 (up1 (up1 (up1 u (14 + 3 * r + 2) (some 1)) 1 (some s)) (14 + 3 * r + 1) (some y)) 7 v4 0 = some v := by rw [up1_n (by omega), up1_n (by omega), up1_n (by omega), up1_n (by omega)]; exact hv
  have u11 : up1 (up1 (up1 (up1 u (14 + 3 * r + 2) (some 1)) 1 (some s)) (14 + 3 * r + 1) (some y)) 7 v4 11 = some r12 := by rw [up1_n (by omega), up1_n (by omega), up1_n (by omega), up1_n (by omega)]; exact h12
  generalize up1 (up1 (up1 (up1 u (14 + 3 * r + 2) (some 1)) 1 (some s)) (14 + 3 * r + 1) (some y)) 7 v4 = u4 at *
  have o4 := fr_nv F14 ho hon
  have gg : ∀ z, gup (gup g r none) r z = gup g r z := fun z => gup_gup
  refine ⟨fun q => ?_, fun q => ?_⟩
  · have q : ¬ w = 0 := q
    have hys : fz y * fz y = fz s := Classical.not_not.mp (fun z => q (hw.mpr z))
    rw [hs] at hys
    refine vm_post (map_267 (g := gup g r none) hr c4 o4 hon (fr_trans F0 F14) ux uy uz (cu_on hys) (fun y' h1 h2 => ⟨fz x, hM, Or.inl ⟨rfl, _, hys⟩, h1, h2⟩)) ?_
    rintro e h' ⟨e1, ⟨x', y', e2, e3⟩, e4⟩
    rw [gg] at e3
    exact ⟨e1, ⟨x', y', e2, e3⟩, e4⟩
  · have q : w = 0 := q
    have hys := hw.mp q
    have hyn : fz y * fz y = - fz s := hpm.resolve_left hys
    have hno : ∀ w, w * w ≠ cu (fz x) := fun w e => hys (hsq w (e.trans hs.symm))
    have hMr : 3 * fz x * (vv (fz U) * vv (fz U) + vv (fz U)) = fz (cB : Int) * (vv (fz U) * vv (fz U) + vv (fz U) + 1) := by
      rcases hM with ⟨_, e⟩ | ⟨_, e⟩
      · obtain ⟨w, hw⟩ := sw_ex e
        exact absurd hw (hno w)
      · exact e
    refine ⟨_, _, st4.1, rfl, ⟨_, _, st4.2.2.2.1 r hr, rfl, ⟨_, _, st4.2.2.2.1 r hr, rfl, ⟨(RG_0 k4).choose, (RG_0 k4).choose_spec, 0, 0, _, r_mul (R := fun i => X (100 + i)) (c := 14 + 3 * r) k4 (RG_r k4 (i := 14 + 3 * r) (by omega) ux) (RG_r k4 (i := 0) (by omega) uv) (by omega), Nat.zero_le _, Nat.zero_le _, ?_⟩⟩⟩⟩
    rintro _ h5 ⟨rfl, k5, F5⟩
    have st5 := CSt_fr k4 st4 F5
    refine ⟨_, _, st5.1, rfl, ⟨_, _, st5.2.2.2.1 r hr, rfl, ⟨_, _, st5.2.2.2.1 r hr, rfl, ⟨(RG_0 k5).choose, (RG_0 k5).choose_spec, 0, 0, _, r_mul (R := fun i => X (100 + i)) (c := 14 + 3 * r + 1) k5 (RG_r k5 (i := 14 + 3 * r + 1) (a := y) (by omega) (by rw [up1_n (by omega)]; exact uy)) (RG_r k5 (i := 0) (a := v) (by omega) (by rw [up1_n (by omega)]; exact uv)) (by omega), Nat.zero_le _, Nat.zero_le _, ?_⟩⟩⟩⟩
    rintro _ h6 ⟨rfl, k6, F6⟩
    have st6 := CSt_fr k5 st5 F6
    have o6 := fr_nv (fr_trans F5 F6) o4 hon
    refine ⟨_, _, st6.1, rfl, ⟨_, _, st6.2.2.2.1 r hr, rfl, ⟨_, _, st6.2.2.2.1 r hr, rfl, ⟨(RG_0 k6).choose, (RG_0 k6).choose_spec, 0, 0, _, r_mul (R := fun i => X (100 + i)) (c := 14 + 3 * r + 1) k6 (RG_r k6 (i := 14 + 3 * r + 1) (by omega) up1_e) ⟨o6, no6⟩ (by omega), Nat.zero_le _, Nat.zero_le _, ?_⟩⟩⟩⟩
    rintro _ h7 ⟨rfl, k7, F7⟩
    rw [up1_up] at k7
    have st7 := CSt_fr k6 st6 F7
    refine ⟨_, _, st7.1, rfl, ⟨_, _, st7.2.2.2.1 r hr, rfl, ⟨_, _, st7.1, rfl, ⟨_, _, st7.2.2.2.1 r hr, rfl, ⟨(RG_0 k7).choose, (RG_0 k7).choose_spec, 0, 0, _, r_mul (R := fun i => X (100 + i)) (c := 14 + 3 * r + 1) k7 (RG_r k7 (i := 14 + 3 * r + 1) (by omega) up1_e) (RG_r k7 (i := 11) (a := r12) (by omega) (by rw [up1_n (by omega), up1_n (by omega)]; exact u11)) (by omega), Nat.zero_le _, Nat.zero_le _, ?_⟩⟩⟩⟩⟩
    rintro _ h8 ⟨rfl, k8, F8⟩
    rw [up1_up] at k8
    have F58 : fr h4 h8 (AG n X) := fr_trans (fr_trans (fr_trans F5 F6) F7) F8
    have c8 : CAu n X h8 (gup g r none) (up1 (up1 u4 (14 + 3 * r) (some (x * v))) (14 + 3 * r + 1) (some (y * v * U * r12))) := by
      have := CA_set (j := r) (p' := none) c4 k8 F58 (fun i h8 _ hi => by rw [up1_n (by omega), up1_n (by omega)]) (fun p e => by cases e)
      rw [gg] at this
      exact this
    have hyy : fz (y * v * U * r12) * fz (y * v * U * r12) = cu (fz (x * v)) := by
      have e1 : fz (y * v * U * r12) = fz y * vv (fz U) * fz U * fz r12 := by simp only [fz_mul, hvv]
      have e2 : fz (x * v) = vv (fz U) * fz x := by rw [fz_mul, hvv]; exact mc_ _ _
      rw [e1, e2, sw_y (v := vv (fz U)) (u := fz U) hyn rfl h12s]
      unfold cu
      rw [sw_g hMr, hs]
      rfl
    refine vm_post (map_267 (g := gup g r none) (x := x * v) (y := y * v * U * r12) hr c8 (fr_nv F58 o4 hon) hon (fr_trans (fr_trans F0 F14) F58) (by rw [up1_n (by omega), up1_e]) up1_e (by rw [up1_n (by omega), up1_n (by omega)]; exact uz) (cu_on hyy) (fun y' h1 h2 => ⟨fz x, hM, Or.inr ⟨by rw [fz_mul, hvv]; exact mc_ _ _, hno⟩, h1, h2⟩)) ?_
    rintro e h' ⟨e1, ⟨x', y', e2, e3⟩, e4⟩
    rw [gg] at e3
    exact ⟨e1, ⟨x', y', e2, e3⟩, e4⟩
theorem a_map {n : Nat} {X : Nat → Nat} {h : vm_H} {g : Nat → Option (Option (fq × fq))} {r o : Nat} {U : Int} (hk : CA n X h g) (hr : r < n) (ho : mv h 14 cP o U) (hon : ¬ AG n X o) :
    vm_Met (vm_env l O f9) mX2_mapTo 0 0 [.ref (X 24), .ref o, .ref (X (1000 + r))] h (fun e h' => e = none ∧ (∃ x y, MAP (fz U) x y ∧ CA n X h' (gup g r (some (some (x, y))))) ∧ fr h h' (AG n X)) := by
  obtain ⟨u, hk⟩ := hk
  have k0 := hk.1
  have st0 := hk.2.1
  have no6 : o ≠ X 6 := fun e => hon (Or.inl (Or.inl e))
  obtain ⟨tw, htw, htwv⟩ := hk.2.2.1.2.2.1
  obtain ⟨th, hth, hthv⟩ := hk.2.2.1.2.2.2.2.1
  obtain ⟨ts, hts, htsv⟩ := hk.2.2.1.2.2.2.2.2
  refine vm_met rfl (Nat.le_of_ble_eq_true rfl) ?_
  refine vm_go rfl bX2_mapTo_0 oX2_mapTo_0 ⟨_, _, st0.1, rfl, ⟨_, _, _, _, st0.2.1, by decide, rfl, 0, rfl, by decide, rfl, ⟨_, _, st0.1, rfl, ⟨_, _, _, _, st0.2.1, by decide, rfl, 1, rfl, by decide, rfl, ⟨_, _, st0.1, rfl, ⟨(RG_0 k0).choose, (RG_0 k0).choose_spec, 0, 0, _, r_sqr (R := fun i => X (100 + i)) (c := 0) k0 ⟨ho, no6⟩ (by omega), Nat.zero_le _, Nat.zero_le _, ?_⟩⟩⟩⟩⟩⟩
  rintro _ h1 ⟨rfl, k1, F1⟩
  have st1 := CSt_fr k0 st0 F1
  refine ⟨_, _, st1.1, rfl, ⟨_, _, st1.1, rfl, ⟨(RG_0 k1).choose, (RG_0 k1).choose_spec, 0, 0, _, r_mul (R := fun i => X (100 + i)) (c := 0) k1 (RG_r k1 (i := 0) (by omega) up1_e) (RG_r k1 (i := 10) (a := tw) (by omega) (by rw [up1_n (by omega)]; exact htw)) (by omega), Nat.zero_le _, Nat.zero_le _, ?_⟩⟩⟩
  rintro _ h2 ⟨rfl, k2, F2⟩
  rw [up1_up] at k2
  have st2 := CSt_fr k1 st1 F2
  refine ⟨_, _, st2.1, rfl, ⟨_, _, st2.1, rfl, ⟨(RG_0 k2).choose, (RG_0 k2).choose_spec, 0, 0, _, r_sub (R := fun i => X (100 + i)) (c := 0) k2 (RG_r k2 (i := 8) (a := 0) (by omega) (by rw [up1_n (by omega)]; exact hk.2.2.1.1)) (RG_r k2 (i := 0) (by omega) up1_e) (by omega), Nat.zero_le _, Nat.zero_le _, ?_⟩⟩⟩
  rintro _ h3 ⟨rfl, k3, F3⟩
  rw [up1_up] at k3
  have st3 := CSt_fr k2 st2 F3
  have hvv : fz (0 - U * U * tw) = vv (fz U) := by
    simp only [fz_sub, fz_mul, fz_0, htwv]; rfl
  generalize 0 - U * U * tw = v at *
  refine ⟨_, _, st3.1, rfl, ⟨(RG_0 k3).choose, (RG_0 k3).choose_spec, 0, 0, _, r_sqr (R := fun i => X (100 + i)) (c := 1) k3 (RG_r k3 (i := 0) (by omega) up1_e) (by omega), Nat.zero_le _, Nat.zero_le _, ?_⟩⟩
  rintro _ h4 ⟨rfl, k4, F4⟩
  have st4 := CSt_fr k3 st3 F4
  refine ⟨_, _, st4.1, rfl, ⟨(RG_0 k4).choose, (RG_0 k4).choose_spec, 0, 0, _, r_add (R := fun i => X (100 + i)) (c := 1) k4 (RG_r k4 (i := 1) (by omega) up1_e) (RG_r k4 (i := 0) (a := v) (by omega) rfl) (by omega), Nat.zero_le _, Nat.zero_le _, ?_⟩⟩
  rintro _ h5 ⟨rfl, k5, F5⟩
  rw [up1_up] at k5
  have st5 := CSt_fr k4 st4 F5
  refine ⟨_, _, st5.1, rfl, ⟨(RG_0 k5).choose, (RG_0 k5).choose_spec, 0, 0, _, r_inv (R := fun i => X (100 + i)) (c := 1) k5 (RG_r k5 (i := 1) (by omega) up1_e) (by omega), Nat.zero_le _, Nat.zero_le _, ?_⟩⟩
  rintro _ h6 ⟨Y, ⟨w, rfl, hw⟩, hY, k6, F6⟩
  rw [up1_up] at k6
  have st6 := CSt_fr k5 st5 F6
  have F06 : fr h h6 (AG n X) := fr_trans (fr_trans (fr_trans (fr_trans (fr_trans F1 F2) F3) F4) F5) F6
  have et : fz (v * v + v) = vv (fz U) * vv (fz U) + vv (fz U) := by rw [fz_add, fz_mul, hvv]
  rw [et] at hw hY
  have c6 : CAu n X h6 g (up1 (up1 u 0 (some v)) 1 (some Y)) := CA_tmp hk k6 F06 (fun i h8 => by rw [up1_n (by omega), up1_n (by omega)])
  refine ⟨fun q => ?_, fun q => ?_⟩
  · have q : w = 0 := q
    refine vm_go rfl bX2_mapTo_124 oX2_mapTo_124 ⟨_, _, st6.1, rfl, ⟨_, _, st6.1, rfl, ⟨_, _, st6.2.2.2.1 r hr, rfl, ⟨(RG_0 k6).choose, (RG_0 k6).choose_spec, 0, 0, _, r_copy (R := fun i => X (100 + i)) (c := 14 + 3 * r) k6 (RG_r k6 (i := 13) (a := ts) (by omega) (by rw [up1_n (by omega), up1_n (by omega)]; exact hts)) (by omega), Nat.zero_le _, Nat.zero_le _, ?_⟩⟩⟩⟩
    rintro _ h7 ⟨rfl, k7, F7⟩
    have c7 : CAu n X h7 (gup g r none) (up1 (up1 (up1 u 0 (some v)) 1 (some Y)) (14 + 3 * r) (some ts)) := CA_set c6 k7 F7 (fun i h8 _ hi => by rw [up1_n (by omega)]) (fun p e => by cases e)
    refine vm_post (map_139 (g := gup g r none) (x := ts) (v := v) hr c7 (fr_nv (fr_trans F06 F7) ho hon) hon (fr_trans F06 F7) up1_e (by rw [up1_n (by omega), up1_n (by omega), up1_e]) hvv (Or.inl ⟨hw.mp q, htsv⟩)) ?_
    rintro e h' ⟨e1, ⟨x', y', e2, e3⟩, e4⟩
    rw [gup_gup] at e3
    exact ⟨e1, ⟨x', y', e2, e3⟩, e4⟩
  · have q : ¬ w = 0 := q
    have t0 : vv (fz U) * vv (fz U) + vv (fz U) ≠ 0 := fun e => q (hw.mpr e)
    have hY := hY t0
    refine ⟨_, _, st6.1, rfl, ⟨_, _, st6.1, rfl, ⟨(RG_2 k6).choose, _, (RG_2 k6).choose_spec.1, (RG_2 k6).choose_spec.2, ⟨(RG_0 k6).choose, (RG_0 k6).choose_spec, 0, 0, _, r_add (R := fun i => X (100 + i)) (c := 1) k6 (RG_r k6 (i := 1) (by omega) up1_e) (RG_1 k6) (by omega), Nat.zero_le _, Nat.zero_le _, ?_⟩⟩⟩⟩
    rintro _ h7 ⟨rfl, k7, F7⟩
    rw [up1_up] at k7
    have st7 := CSt_fr k6 st6 F7
    refine ⟨_, _, st7.1, rfl, ⟨_, _, st7.1, rfl, ⟨_, _, st7.2.2.2.1 r hr, rfl, ⟨(RG_0 k7).choose, (RG_0 k7).choose_spec, 0, 0, _, r_mul (R := fun i => X (100 + i)) (c := 14 + 3 * r) k7 (RG_r k7 (i := 1) (by omega) up1_e) (RG_r k7 (i := 12) (a := th) (by omega) (by rw [up1_n (by omega), up1_n (by omega)]; exact hth)) (by omega), Nat.zero_le _, Nat.zero_le _, ?_⟩⟩⟩⟩
    rintro _ h8 ⟨rfl, k8, F8⟩
    have c8 : CAu n X h8 (gup g r none) (up1 (up1 (up1 u 0 (some v)) 1 (some (Y + 1))) (14 + 3 * r) (some ((Y + 1) * th))) := CA_set c6 k8 (fr_trans F7 F8) (fun i h8 _ hi => by rw [up1_n (by omega), up1_n (by omega), up1_n (by omega), up1_n (by omega), up1_n (by omega)]) (fun p e => by cases e)
    refine vm_post (map_139 (g := gup g r none) (x := (Y + 1) * th) (v := v) hr c8 (fr_nv (fr_trans F06 (fr_trans F7 F8)) ho hon) hon (fr_trans F06 (fr_trans F7 F8)) up1_e (by rw [up1_n (by omega), up1_n (by omega), up1_e]) hvv (Or.inr ⟨t0, ?_⟩)) ?_
    · rw [fz_mul, fz_add, fz_1]
      exact sw_x hY hthv
    rintro e h' ⟨e1, ⟨x', y', e2, e3⟩, e4⟩
    rw [gup_gup] at e3
    exact ⟨e1, ⟨x', y', e2, e3⟩, e4⟩
end
