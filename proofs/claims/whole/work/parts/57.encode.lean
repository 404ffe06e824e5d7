/-! what belongs to the curve; other cells may change. Curve.encode -/
def own (n : Nat) (X : Nat → Nat) (q : Nat) : Prop := (∃ i, i < 28 ∧ q = X i) ∨ (∃ i, i < 14 + 3 * n ∧ q = X (100 + i)) ∨ ∃ k, k < n ∧ q = X (1000 + k)
def fgo (o : vm_Ob) : Prop := match o with
  | .inr (ci, _) => ci ≠ 2 ∧ ci ≠ 3 ∧ ci ≠ 8
  | .inl (_, _, .inl _) => True
  | .inl (_, n, .inr (.inl _)) => n ≠ 14 ∧ n ≠ 28
  | _ => False
theorem MD_cg {h h' : vm_H} {A : Nat → Nat} {ci L N ni : Nat} (hM : MD h A ci L N ni) (hk : ∀ i, i < 24 → i ≠ 5 ∨ ci = 3 → h'.2 (A i) = h.2 (A i)) : MD h' A ci L N ni := by
  refine MD_fr hM (fun i hi h5 _ => hk i (by omega) (Or.inl h5)) ?_ (fun i hi => ?_) (fun q => ?_)
  · obtain ⟨f, hf⟩ := hM.2.2.2.2.2.1
    exact ⟨f, (hk 6 (by decide) (Or.inl (by decide))).trans hf⟩
  · obtain ⟨f, hf⟩ := hM.2.2.2.2.2.2.2.1 i hi
    exact ⟨f, (hk (8 + i) (by omega) (Or.inl (by omega))).trans hf⟩
  · obtain ⟨f, hf⟩ := hM.2.2.2.2.2.2.2.2 q
    exact ⟨f, (hk 5 (by decide) (Or.inr q)).trans hf⟩
theorem CAu_fr {n : Nat} {X : Nat → Nat} {h h' : vm_H} {g : Nat → Option (Option (fq × fq))} {u : Nat → Option Int} {S : Nat → Prop} (k : CAu n X h g u) (F : fr h h' S) (hS : ∀ q, own n X q → ¬ S q) : CAu n X h' g u := by
  obtain ⟨⟨k1, k2, k3, k4, k5⟩, ⟨s1, s2, s3, s4, rb, ⟨f, s5, s5'⟩, s6⟩, c, kp⟩ := k
  have e1 : ∀ i, i < 28 → h'.2 (X i) = h.2 (X i) := fun i hi => F.2 _ (hS _ (Or.inl ⟨i, hi, rfl⟩))
  refine ⟨⟨k1, MD_cg k2 (fun i hi _ => e1 i (by omega)), k3, k4, fun i hi => ?_⟩, ⟨(e1 24 (by decide)).trans s1, (e1 25 (by decide)).trans s2, (e1 26 (by decide)).trans s3, fun k hk => (F.2 _ (hS _ (Or.inr (Or.inr ⟨k, hk, rfl⟩)))).trans (s4 k hk), rb, ⟨f, (e1 27 (by decide)).trans s5, s5'⟩, s6⟩, c, kp⟩
  have nS := hS _ (Or.inr (Or.inl ⟨i, hi, rfl⟩))
  exact ⟨fr_la F (k5 i hi).1 nS, fun a ha => fr_nv F ((k5 i hi).2 a ha) nS⟩
theorem CA_fr {n : Nat} {X : Nat → Nat} {h h' : vm_H} {g : Nat → Option (Option (fq × fq))} {S : Nat → Prop} (k : CA n X h g) (F : fr h h' S) (hS : ∀ q, own n X q → ¬ S q) : CA n X h' g := by
  obtain ⟨u, k⟩ := k
  exact ⟨u, CAu_fr k F hS⟩
theorem own_f {n : Nat} {X : Nat → Nat} {h : vm_H} {g : Nat → Option (Option (fq × fq))} (k : CA n X h g) {q : Nat} (ho : own n X q) (hf : fgo (h.2 q)) : q = X 27 := by
  obtain ⟨u, ⟨k1, k2, k3, k4, k5⟩, ⟨s1, s2, s3, s4, rb, ⟨f, s5, s5'⟩, s6⟩, c, kp⟩ := k
  obtain ⟨⟨fs, m0, _⟩, ⟨g1, n1, _⟩, ⟨g2, n2, _⟩, ⟨g3, n3, _⟩, ⟨g4, n4, _⟩, ⟨g6, l6⟩, a7, l8, l5⟩ := k2
  have nl : ∀ n f, n = 14 ∨ n = 28 → h.2 q = .inl (.long, n, .inr (.inl f)) → False := by
    intro n f hn e
    rw [e] at hf
    obtain ⟨h1, h2⟩ := hf
    rcases hn with z | z
    · exact h1 z
    · exact h2 z
  rcases ho with ⟨i, hi, e⟩ | ⟨i, hi, e⟩ | ⟨i, hi, e⟩
  · subst e
    by_cases h0 : i = 0
    · subst h0; rw [m0] at hf; exact absurd rfl hf.2.1
    by_cases h1 : i = 1
    · subst h1; exact (nl 14 g1 (Or.inl rfl) n1).elim
    by_cases h2 : i = 2
    · subst h2; exact (nl 14 g2 (Or.inl rfl) n2).elim
    by_cases h3 : i = 3
    · subst h3; exact (nl 14 g3 (Or.inl rfl) n3).elim
    by_cases h4 : i = 4
    · subst h4; exact (nl 14 g4 (Or.inl rfl) n4).elim
    by_cases h5 : i = 5
    · subst h5
      obtain ⟨f, hf5⟩ := l5 rfl
      exact (nl 28 f (Or.inr rfl) hf5).elim
    by_cases h6 : i = 6
    · subst h6; exact (nl 14 g6 (Or.inl rfl) l6).elim
    by_cases h7 : i = 7
    · subst h7; rw [a7] at hf; exact hf.elim
    by_cases h24 : i = 24
    · subst h24; rw [s1] at hf; exact absurd rfl hf.1
    by_cases h25 : i = 25
    · subst h25; rw [s2] at hf; exact hf.elim
    by_cases h26 : i = 26
    · subst h26; rw [s3] at hf; exact hf.elim
    by_cases h27 : i = 27
    · rw [h27]
    · obtain ⟨f, hf8⟩ := l8 (i - 8) (by omega)
      rw [show 8 + (i - 8) = i by omega] at hf8
      exact (nl 14 f (Or.inl rfl) hf8).elim
  · obtain ⟨f, hf8⟩ := (k5 i hi).1
    have hf8 : h.2 (X (100 + i)) = .inl (.long, 14, .inr (.inl f)) := hf8
    rw [← e] at hf8
    exact (nl 14 f (Or.inl rfl) hf8).elim
  · rw [e, s4 i hi] at hf
    exact absurd rfl hf.2.2
/-- bytes changed by a number -/
def wrb (b : Nat → Nat) (at9 size x j : Nat) : Nat := if at9 ≤ j ∧ j < at9 + size then x / 256 ^ (at9 + size - 1 - j) % 256 else b j
def b1 (b : Nat → Nat) (at9 v j : Nat) : Nat := if j = at9 then v else b j
theorem bv_up {h : vm_H} {n fa k v : Nat} {b : Nat → Nat} {f : Nat → Int32} (hf : ∀ j, j < n → f j = sb (b j) ∧ b j < 256) (hv : v < 256) : bv (vm_up h fa (.inl (.byte, n, .inl (upd f k (sb v))))) n fa (b1 b k v) := by
  refine ⟨_, vm_upe, fun j hj => ?_⟩
  unfold b1 upd
  by_cases e : j = k
  · rw [if_pos e, if_pos e]; exact ⟨rfl, hv⟩
  · rw [if_neg e, if_neg e]; exact hf j hj
section
variable {l : Launch} {O : Nat → vm_Ob} {f9 : Value}
theorem b_write {h : vm_H} {a c n at9 size L x : Nat} {b : Nat → Nat} (ha : nv h L a x) (hc : bv h n c b) (hn : at9 + size ≤ n) (hn2 : n < 65536) (hL : L < 65536) (hco : c < 1099511627776) (hx : x < 268435456 ^ L) :
    vm_Met (vm_env l O f9) mX6_write 0 0 [.ref a, .ref c, .int (nI at9), .int (nI size)] h (fun r h' => r = none ∧ bv h' n c (wrb b at9 size x) ∧ fr h h' (fun q => q = c)) := by
  obtain ⟨f, hf, hf2⟩ := hc
  refine vm_metP (s_write ha hf hn hn2 hL hco hx) ?_
  rintro r h' ⟨rfl, rfl⟩
  refine ⟨rfl, ⟨_, vm_upe, fun j hj => ?_⟩, fr_up rfl⟩
  unfold wrf wrb
  by_cases e : at9 ≤ j ∧ j < at9 + size
  · rw [if_pos (by omega), if_pos e]
    exact ⟨rfl, Nat.mod_lt _ (by decide)⟩
  · rw [if_neg (by omega), if_neg e]
    exact hf2 j hj
theorem CA_tmp {n : Nat} {X : Nat → Nat} {h h' : vm_H} {g : Nat → Option (Option (fq × fq))} {u w : Nat → Option Int} (k : CAu n X h g u) (k' : RGX n X h' w) (F : fr h h' (AG n X)) (hw : ∀ i, 8 ≤ i → w i = u i) : CAu n X h' g w := by
  obtain ⟨k1, k2, k3, k4⟩ := k
  refine ⟨k', CSt_fr k1 k2 F, CC_cg k3 (fun i h8 _ => hw i h8), fun i hi p hp => ?_⟩
  obtain ⟨x, y, z, a1, a2, a3, a4⟩ := k4 i hi p hp
  exact ⟨x, y, z, (hw _ (by omega)).trans a1, (hw _ (by omega)).trans a2, (hw _ (by omega)).trans a3, a4⟩
theorem en_x {F : Type} [Lean.Grind.CommRing F] {x z Y : F} (h : z * Y = 1) : x * (z * z) * (Y * Y) = x := by grind
theorem en_y {F : Type} [Lean.Grind.CommRing F] {y z Y : F} (h : z * Y = 1) : y * (z * z * z) * (Y * Y * Y) = y := by
  have : y * (z * z * z) * (Y * Y * Y) = y * (z * Y) * (z * Y) * (z * Y) := by grind
  rw [this, h]; grind
theorem en_b (v : Nat) : ((2 : Int64) + (lZ (dg v 0) &&& 1)).toInt32.toInt8.toInt32 = sb (2 + v % 2) := by
  rw [lZ_a1]
  have : (2 : Int64) + lZ ((dg v 0 : Int) % 2) = lZ (2 + (dg v 0 : Int) % 2) := lZ_add 2 _
  rw [this, sb_L]
  congr 1
  have := dg0_2 v
  omega
/-- an unknown point whose z is 0 cannot be encoded; a known one can where it is a point -/
theorem a_enc {n : Nat} {X : Nat → Nat} {h : vm_H} {g : Nat → Option (Option (fq × fq))} {i fa nb at9 : Nat} {b : Nat → Nat} {p : Option (fq × fq)} (hk : CB n X h g i p) (hi : i < n) (hb : bv h nb fa b) (hf27 : fa ≠ X 27) (hfo : fa < 1099511627776) (hat : at9 + 49 ≤ nb) (hnb : nb < 65536) :
    vm_Met (vm_env l O f9) mX2_encode 0 0 [.ref (X 24), .ref (X (1000 + i)), .ref fa, .int (nI at9)] h (fun e h' => ((p = none ∧ e = some (.int 0) ∧ bv h' nb fa b) ∨ (∃ x y : fq, p = some (x, y) ∧ e = some (.int 1) ∧ bv h' nb fa (wrb (b1 b at9 (2 + y.val % 2)) (at9 + 1) 48 x.val))) ∧ CB n X h' g i p ∧ fr h h' (fun q => AG n X q ∨ q = fa)) := by
  have key : ∃ (g' : Nat → Option (Option (fq × fq))) (u : Nat → Option Int) (z : Int), CAu n X h g' u ∧ u (14 + 3 * i + 2) = some z ∧ (fz z = 0 ↔ p = none) ∧ (fz z ≠ 0 → g' i = some p) ∧ (∀ h' w, CAu n X h' g' w → (∀ j, 8 ≤ j → w j = u j) → CB n X h' g i p) := by
    rcases hk with ⟨u, hk⟩ | ⟨e1, e2, u, hk, z, hz, z0⟩
    · obtain ⟨x, y, z, a1, a2, a3, jp, _⟩ := hk.2.2.2 i hi p gup_e
      exact ⟨_, u, z, hk, a3, jr_z jp, fun _ => gup_e, fun h' w c _ => Or.inl ⟨w, c⟩⟩
    · exact ⟨_, u, z, hk, hz, ⟨fun _ => e2, fun _ => z0⟩, fun q => absurd z0 q, fun h' w c e => Or.inr ⟨e1, e2, w, c, z, (e _ (by omega)).trans hz, z0⟩⟩
  obtain ⟨g', u, z, hk, hz, hzp, hgp, hback⟩ := key
  have st0 := hk.2.1
  have k0 := hk.1
  have hbn : ∀ h', fr h h' (AG n X) → bv h' nb fa b := fun h' F => AR_bv k0 F hb
  refine vm_met rfl (Nat.le_of_ble_eq_true rfl) ?_
  refine vm_go rfl bX2_encode_0 oX2_encode_0 ⟨_, _, st0.1, rfl, ⟨_, _, st0.2.2.2.1 i hi, rfl, ⟨_, _, st0.1, rfl, ⟨_, _, _, _, st0.2.1, by decide, rfl, 0, rfl, by decide, rfl, ⟨(RG_0 k0).choose, (RG_0 k0).choose_spec, 0, 0, _, r_inv (R := fun i => X (100 + i)) (c := 0) k0 (RG_r k0 (i := 14 + 3 * i + 2) (by omega) hz) (by omega), Nat.zero_le _, Nat.zero_le _, ?_⟩⟩⟩⟩⟩
  rintro _ h1 ⟨Y, ⟨w, rfl, hw⟩, hY, k1, F1⟩
  have st1 := CSt_fr k0 st0 F1
  have c1 : CAu n X h1 g' _ := CA_tmp hk k1 F1 (fun j h8 => up1_n (by omega))
  refine ⟨fun q => ?_, fun q => ?_⟩
  rotate_left
  · have q : w = 0 := q
    refine ⟨rfl, Or.inl ⟨hzp.mp (hw.mp q), rfl, hbn h1 F1⟩, hback h1 _ c1 (fun j h8 => up1_n (by omega)), fr_mono F1 (fun q hq => Or.inl hq)⟩
  have q : ¬ w = 0 := q
  have z0 : fz z ≠ 0 := fun e => q (hw.mpr e)
  have hY := hY z0
  obtain ⟨x, y, z', a1, a2, a3, jp, _⟩ := hk.2.2.2 i hi p (hgp z0)
  have ez : z' = z := by rw [hz] at a3; exact (Option.some.inj a3).symm
  subst ez
  rcases jp with ⟨e, _⟩ | ⟨_, xa, ya, hp, hX, hYy⟩
  · exact absurd e z0
  refine vm_go rfl bX2_encode_22 oX2_encode_22 ⟨_, _, st1.1, rfl, ⟨_, _, st1.1, rfl, ⟨_, _, _, _, st1.2.1, by decide, rfl, 0, rfl, by decide, rfl, ⟨_, _, st1.1, rfl, ⟨_, _, _, _, st1.2.1, by decide, rfl, 1, rfl, by decide, rfl, ⟨(RG_0 k1).choose, (RG_0 k1).choose_spec, 0, 0, _, r_sqr (R := fun i => X (100 + i)) (c := 1) k1 (RG_r k1 (i := 0) (by omega) up1_e) (by omega), Nat.zero_le _, Nat.zero_le _, ?_⟩⟩⟩⟩⟩⟩
  rintro _ h2 ⟨rfl, k2, F2⟩
  have st2 := CSt_fr k1 st1 F2
  refine ⟨_, _, st2.1, rfl, ⟨_, _, st2.1, rfl, ⟨_, _, _, _, st2.2.1, by decide, rfl, 1, rfl, by decide, rfl, ⟨_, _, st2.1, rfl, ⟨_, _, _, _, st2.2.1, by decide, rfl, 0, rfl, by decide, rfl, ⟨_, _, st2.1, rfl, ⟨_, _, _, _, st2.2.1, by decide, rfl, 0, rfl, by decide, rfl, ⟨(RG_0 k2).choose, (RG_0 k2).choose_spec, 0, 0, _, r_mul (R := fun i => X (100 + i)) (c := 0) k2 (RG_r k2 (i := 1) (by omega) rfl) (RG_r k2 (i := 0) (by omega) rfl) (by omega), Nat.zero_le _, Nat.zero_le _, ?_⟩⟩⟩⟩⟩⟩⟩⟩
  rintro _ h3 ⟨rfl, k3, F3⟩
  have st3 := CSt_fr k2 st2 F3
  have uy3 : up1 (up1 (up1 u 0 (some Y)) 1 (some (Y * Y))) 0 (some (Y * Y * Y)) (14 + 3 * i + 1) = some y := by rw [up1_n (by omega), up1_n (by omega), up1_n (by omega)]; exact a2
  refine ⟨_, _, st3.1, rfl, ⟨_, _, st3.2.2.2.1 i hi, rfl, ⟨_, _, st3.1, rfl, ⟨_, _, _, _, st3.2.1, by decide, rfl, 0, rfl, by decide, rfl, ⟨_, _, st3.1, rfl, ⟨_, _, _, _, st3.2.1, by decide, rfl, 0, rfl, by decide, rfl, ⟨(RG_0 k3).choose, (RG_0 k3).choose_spec, 0, 0, _, r_mul (R := fun i => X (100 + i)) (c := 0) k3 (RG_r k3 (i := 14 + 3 * i + 1) (by omega) uy3) (RG_r k3 (i := 0) (by omega) rfl) (by omega), Nat.zero_le _, Nat.zero_le _, ?_⟩⟩⟩⟩⟩⟩⟩
  rintro _ h4 ⟨rfl, k4, F4⟩
  have st4 := CSt_fr k3 st3 F4
  refine ⟨_, _, st4.1, rfl, ⟨_, _, st4.1, rfl, ⟨_, _, _, _, st4.2.1, by decide, rfl, 0, rfl, by decide, rfl, ⟨_, _, st4.1, rfl, ⟨_, _, _, _, st4.2.1, by decide, rfl, 0, rfl, by decide, rfl, ⟨(RG_0 k4).choose, (RG_0 k4).choose_spec, 0, 0, _, r_lev (R := fun i => X (100 + i)) (c := 0) k4 (RG_r k4 (i := 0) (by omega) rfl) (by omega), Nat.zero_le _, Nat.zero_le _, ?_⟩⟩⟩⟩⟩⟩
  rintro _ h5 ⟨rfl, k5, n5, F5⟩
  have eya : fz (y * (Y * Y * Y)) = ya := by
    simp only [fz_mul]
    rw [hYy]; exact en_y hY
  rw [eya] at n5
  have st5 := CSt_fr k4 st4 F5
  have F15 : fr h h5 (AG n X) := fr_trans (fr_trans (fr_trans (fr_trans F1 F2) F3) F4) F5
  have c5 : CAu n X h5 g' _ := CA_tmp hk k5 F15 (fun j h8 => by rw [up1_n (by omega), up1_n (by omega), up1_n (by omega), up1_n (by omega), up1_n (by omega)])
  obtain ⟨fb, hfb, vfb⟩ := hbn h5 F15
  obtain ⟨f5, hf5, v5⟩ := n5
  have hat1 : at9 < nb := by omega
  refine ⟨_, _, st5.1, rfl, ⟨_, _, _, _, st5.2.1, by decide, rfl, 0, rfl, by decide, rfl, ⟨14, f5, hf5, 0, rfl, by decide, ⟨nb, fb, hfb, hfo, at9, rfl, hat1, ?_⟩⟩⟩⟩
  rw [v5 0 (by decide)]
  generalize hq6 : vm_up h5 fa _ = h6
  have b6 : bv h6 nb fa (b1 b at9 (2 + ya.val % 2)) := by
    rw [← hq6]
    have := bv_up (h := h5) (fa := fa) (k := at9) (v := 2 + ya.val % 2) vfb (by omega)
    have e9 := en_b ya.val
    rw [← e9] at this
    have e8 : ((2 : Int64) + (lZ (dg ya.val 0) &&& 1)).toInt32.toInt8.toInt32.toInt8.toInt32 = ((2 : Int64) + (lZ (dg ya.val 0) &&& 1)).toInt32.toInt8.toInt32 := by rw [e9]; exact sb_self _ (by omega)
    rw [← e8] at this
    exact this
  have F6 : fr h5 h6 (fun q => q = fa) := by rw [← hq6]; exact fr_up rfl
  clear hq6
  have c6 : CAu n X h6 g' _ := CAu_fr c5 F6 (fun q ho e => by
    subst e
    exact hf27 (own_f ⟨_, c5⟩ ho (by rw [hfb]; trivial)))
  have k6 := c6.1
  have st6 := c6.2.1
  have ux6 : up1 (up1 (up1 (up1 (up1 u 0 (some Y)) 1 (some (Y * Y))) 0 (some (Y * Y * Y))) 0 (some (y * (Y * Y * Y)))) 0 none (14 + 3 * i) = some x := by rw [up1_n (by omega), up1_n (by omega), up1_n (by omega), up1_n (by omega), up1_n (by omega)]; exact a1
  refine ⟨_, _, st6.1, rfl, ⟨_, _, st6.2.2.2.1 i hi, rfl, ⟨_, _, st6.1, rfl, ⟨_, _, _, _, st6.2.1, by decide, rfl, 1, rfl, by decide, rfl, ⟨_, _, st6.1, rfl, ⟨_, _, _, _, st6.2.1, by decide, rfl, 1, rfl, by decide, rfl, ⟨(RG_0 k6).choose, (RG_0 k6).choose_spec, 0, 0, _, r_mul (R := fun i => X (100 + i)) (c := 1) k6 (RG_r k6 (i := 14 + 3 * i) (by omega) ux6) (RG_r k6 (i := 1) (by omega) rfl) (by omega), Nat.zero_le _, Nat.zero_le _, ?_⟩⟩⟩⟩⟩⟩⟩
  rintro _ h7 ⟨rfl, k7, F7⟩
  have st7 := CSt_fr k6 st6 F7
  refine ⟨_, _, st7.1, rfl, ⟨_, _, st7.1, rfl, ⟨_, _, _, _, st7.2.1, by decide, rfl, 1, rfl, by decide, rfl, ⟨_, _, st7.1, rfl, ⟨_, _, _, _, st7.2.1, by decide, rfl, 1, rfl, by decide, rfl, ⟨(RG_0 k7).choose, (RG_0 k7).choose_spec, 0, 0, _, r_lev (R := fun i => X (100 + i)) (c := 1) k7 (RG_r k7 (i := 1) (by omega) rfl) (by omega), Nat.zero_le _, Nat.zero_le _, ?_⟩⟩⟩⟩⟩⟩
  rintro _ h8 ⟨rfl, k8, n8, F8⟩
  have exa : fz (x * (Y * Y)) = xa := by
    simp only [fz_mul]
    rw [hX]; exact en_x hY
  rw [exa] at n8
  have st8 := CSt_fr k7 st7 F8
  have c8 : CAu n X h8 g' _ := CA_tmp c6 k8 (fr_trans F7 F8) (fun j h8 => by rw [up1_n (by omega), up1_n (by omega)])
  have b8 : bv h8 nb fa (b1 b at9 (2 + ya.val % 2)) := AR_bv k6 (fr_trans F7 F8) b6
  have hxl : xa.val < 268435456 ^ 14 := Nat.lt_trans xa.isLt (by decide +kernel)
  refine ⟨_, _, st8.1, rfl, ⟨_, _, _, _, st8.2.1, by decide, rfl, 1, rfl, by decide, rfl, ⟨0, 0, _, vm_metA (b_write (at9 := at9 + 1) (size := 48) n8 b8 (by omega) hnb (by decide) hfo hxl) (by show [_, _, Value.int (nI (at9 + 1)), _] = [_, _, Value.int (nI at9 + 1), _]; rw [← nI_1]; rfl), Nat.zero_le _, Nat.zero_le _, ?_⟩⟩⟩
  rintro _ h9 ⟨rfl, b9, F9⟩
  have c9 : CAu n X h9 g' _ := CAu_fr c8 F9 (fun q ho e => by
    subst e
    obtain ⟨f8, hf8, _⟩ := b8
    exact hf27 (own_f ⟨_, c8⟩ ho (by rw [hf8]; trivial)))
  refine ⟨rfl, Or.inr ⟨xa, ya, hp, rfl, b9⟩, hback h9 _ c9 (fun j h8 => by rw [up1_n (by omega), up1_n (by omega), up1_n (by omega), up1_n (by omega), up1_n (by omega), up1_n (by omega), up1_n (by omega)]), ?_⟩
  exact fr_trans (fr_trans (fr_trans (fr_mono F15 (fun q hq => Or.inl hq)) (fr_mono F6 (fun q hq => Or.inr hq))) (fr_mono (fr_trans F7 F8) (fun q hq => Or.inl hq))) (fr_mono F9 (fun q hq => Or.inr hq))
end
