/-! the addresses of a new Curve -/
def XC (e C ni ri e2 i : Nat) : Nat :=
  if i < 24 then Am e (e + 2) i else if i = 24 then C else if i = 25 then e + 36 else if i = 26 then e + 45 else if i = 27 then e + 29 else if i = 30 then ni else if i = 31 then ri
  else if i < 108 then e + 37 + (i - 100) else if i < 114 then e + 30 + (i - 108) else if i < 117 then e + 26 + (i - 114)
  else if i < 567 then e + 48 + 4 * ((i - 117) / 3) + (i - 117) % 3 else if i < 1000 then e2 + 4 * ((i - 567) / 3) + 1 + (i - 567) % 3
  else if i = 1000 then e + 25 else if i < 1151 then e + 47 + 4 * (i - 1001) else e2 + 4 * (i - 1151)
theorem XC_A {e C ni ri e2 i : Nat} (h : i < 24) : XC e C ni ri e2 i = Am e (e + 2) i := if_pos h
/-- the rows -/
def XR (e e2 i : Nat) : Nat := if i < 8 then e + 37 + i else if i < 14 then e + 30 + (i - 8) else if i < 17 then e + 26 + (i - 14) else if i < 467 then e + 48 + 4 * ((i - 17) / 3) + (i - 17) % 3 else e2 + 4 * ((i - 467) / 3) + 1 + (i - 467) % 3
theorem XC_R {e C ni ri e2 i : Nat} (h : i < 900) : XC e C ni ri e2 (100 + i) = XR e e2 i := by
  unfold XC XR
  rw [if_neg (by omega), if_neg (by omega), if_neg (by omega), if_neg (by omega), if_neg (by omega), if_neg (by omega), if_neg (by omega)]
  by_cases h8 : i < 8
  · rw [if_pos (by omega), if_pos h8]; omega
  rw [if_neg (by omega), if_neg h8]
  by_cases h14 : i < 14
  · rw [if_pos (by omega), if_pos h14]; omega
  rw [if_neg (by omega), if_neg h14]
  by_cases h17 : i < 17
  · rw [if_pos (by omega), if_pos h17]; omega
  rw [if_neg (by omega), if_neg h17]
  by_cases h4 : i < 467
  · rw [if_pos (by omega), if_pos h4, show 100 + i - 117 = i - 17 by omega]
  rw [if_neg (by omega), if_neg h4, if_pos (by omega), show 100 + i - 567 = i - 467 by omega]
def XW (e e2 k : Nat) : Nat := if k = 0 then e + 25 else if k < 151 then e + 47 + 4 * (k - 1) else e2 + 4 * (k - 151)
theorem XC_W {e C ni ri e2 k : Nat} : XC e C ni ri e2 (1000 + k) = XW e e2 k := by
  unfold XC XW
  rw [if_neg (by omega), if_neg (by omega), if_neg (by omega), if_neg (by omega), if_neg (by omega), if_neg (by omega), if_neg (by omega), if_neg (by omega), if_neg (by omega), if_neg (by omega), if_neg (by omega), if_neg (by omega)]
  by_cases h0 : k = 0
  · rw [if_pos (by omega), if_pos h0]
  rw [if_neg (by omega), if_neg h0]
  by_cases h1 : k < 151
  · rw [if_pos (by omega), if_pos h1]; omega
  rw [if_neg (by omega), if_neg h1]; omega
theorem XR_inj {e e2 : Nat} (h2 : e + 648 ≤ e2) : ∀ i j, i < 476 → j < 476 → XR e e2 i = XR e e2 j → i = j := by
  intro i j hi hj h
  unfold XR at h
  repeat' split at h
  all_goals omega
theorem XR_b {e e2 : Nat} (h2 : e + 648 ≤ e2) (i : Nat) (hi : i < 476) : e + 26 ≤ XR e e2 i ∧ XR e e2 i ≤ e2 + 12 ∧ (i < 467 → XR e e2 i < e + 647) ∧ (i < 17 → XR e e2 i < e + 45) := by
  unfold XR
  repeat' split
  all_goals omega
theorem MP_eq {A A' : Nat → Nat} {ci L N ni ri : Nat} (h : MP A ci L N ni ri) (e : ∀ i, i < 24 → A' i = A i) : MP A' ci L N ni ri := by
  obtain ⟨h1, h2, h3, h4, h5, h6, h7, h8, h9⟩ := h
  exact ⟨h1, h2, h3, h4, h5, h6, h7, fun i j hi hj q => h8 i j hi hj (by rw [e i hi, e j hj] at q; exact q), fun i hi q => by rw [e i hi]; exact h9 i hi q⟩
theorem MD_eq {h : vm_H} {A A' : Nat → Nat} {ci L N ni : Nat} (k : MD h A ci L N ni) (e : ∀ i, i < 24 → A' i = A i) : MD h A' ci L N ni := by
  obtain ⟨⟨fs, m0, f0, f1, f2, f3, f4, f5, f6, f7, f8⟩, n1, n2, n3, n4, l6, a7, l8, l5⟩ := k
  have e0 := e 0 (by decide)
  have e1 := e 1 (by decide)
  have e2 := e 2 (by decide)
  have e3 := e 3 (by decide)
  have e4 := e 4 (by decide)
  have e5 := e 5 (by decide)
  have e6 := e 6 (by decide)
  have e7 := e 7 (by decide)
  refine ⟨⟨fs, by rw [e0]; exact m0, f0, by rw [e1]; exact f1, by rw [e2]; exact f2, by rw [e3]; exact f3, by rw [e4]; exact f4, f5, by rw [e6]; exact f6, by rw [e7]; exact f7, fun q => by rw [e5]; exact f8 q⟩, by rw [e1]; exact n1, by rw [e2]; exact n2, by rw [e3]; exact n3, by rw [e4]; exact n4, by rw [e6]; exact l6, ?_, fun i hi => by rw [e (8 + i) (by omega)]; exact l8 i hi, fun q => by rw [e5]; exact l5 q⟩
  rw [e7, a7]
  congr 8
  funext j
  split
  · rw [e (8 + j) (by omega)]
  · rfl
theorem Am_r {e i : Nat} (hi : i < 24) : Am e (e + 2) i = e ∨ (e + 2 ≤ Am e (e + 2) i ∧ Am e (e + 2) i ≤ e + 24) := by
  unfold Am
  repeat' split
  all_goals omega
/-- zeros hold 0 -/
theorem mv_0 {h : vm_H} {a : Nat} (k : h.2 a = .inl (.long, 14, .inr (.inl (fun _ => 0)))) : mv h 14 cP a 0 := by
  unfold mv
  rw [mt_0]
  refine ⟨_, k, fun j _ => ?_⟩
  unfold dg
  rw [Nat.zero_div]; rfl
/-- a file of the first rows -/
theorem RG_new {h : vm_H} {e C ni ri e2 m : Nat} (hm : m ≤ 476) (h2 : e + 648 ≤ e2) (ho : e2 + 20 < 1099511627776) (hP : MP (Am e (e + 2)) 3 14 cP ni ri) (hM : MD h (Am e (e + 2)) 3 14 cP ni) (hz : ∀ i, i < m → h.2 (XR e e2 i) = .inl (.long, 14, .inr (.inl (fun _ => 0)))) :
    RG m (XC e C ni ri e2) (fun i => XC e C ni ri e2 (100 + i)) ni ri h (fun _ => some 0) := by
  refine ⟨MP_eq hP (fun i hi => XC_A hi), MD_eq hM (fun i hi => XC_A hi), fun i j hi hj q => ?_, fun i hi => ⟨⟨fun j hj => ?_, ?_⟩, fun j hj => ?_⟩, fun i hi => ?_⟩
  · dsimp only at q
    rw [XC_R (by omega), XC_R (by omega)] at q
    exact XR_inj h2 i j (by omega) (by omega) q
  · dsimp only
    rw [XC_R (by omega), XC_A (by omega)]
    have := Am_r (e := e) (i := j) (by omega)
    have := XR_b h2 i (by omega)
    omega
  · dsimp only
    rw [XC_R (by omega)]
    have := XR_b h2 i (by omega)
    omega
  · dsimp only
    rw [XC_R (by omega), XC_A (by omega)]
    have := Am_r (e := e) (i := 8 + j) (by omega)
    have := XR_b h2 i (by omega)
    omega
  · have := hz i hi
    dsimp only
    rw [XC_R (by omega)]
    exact ⟨⟨_, this⟩, fun a ha => by cases ha; exact mv_0 this⟩
/-! the constructor of Curve: its numbers -/
def r12 : Nat := 6587466193093276196468119596143640159870263598218647419195694761508526314176737727012441213303769534949214881457843
theorem r12_e : fz (r12 : Int) * fz (r12 : Int) = 12 := by
  have e : (12 : fq) = fz 12 := (fz_i rfl).symm
  rw [e, ← fz_mul, fz_eq]; decide +kernel
theorem fz_12 : fz 12 = 12 := fz_i rfl
theorem c36 {F : Type} [Lean.Grind.CommRing F] {Y b t : F} (h : (t + t + t) * Y = 1) (ht : t = 12) : 36 * (Y * b) = b ∧ 3 * (Y * b * t) = b := by
  subst ht
  constructor
  · have : 36 * (Y * b) = ((12 + 12 + 12) * Y) * b := by clear h; grind
    rw [this, h]; clear this h; grind
  · have : 3 * (Y * b * 12) = ((12 + 12 + 12) * Y) * b := by clear h; grind
    rw [this, h]; clear this h; grind
theorem fq36n : (12 : fq) + 12 + 12 ≠ 0 := by decide
section
variable {l : Launch} {O : Nat → vm_Ob} {f9 : Value}
/-- from the numbers on: registers as they are, the constants set -/
theorem ci_4 {cc ee : Nat} {m : Nat} {h : vm_H} {X : Nat → Nat} {u : Nat → Option Int} {v1 v10 : Value} {T : Nat} {Q : Option Value → vm_H → Prop} {ni ri nb ba : Nat} {b : Nat → Nat} {rb : Nat → Nat} (hm : 14 ≤ m) (k0 : RG m X (fun i => X (100 + i)) ni ri h u) (C0 : h.2 (X 24) = .inr (2, [.ref (X 0), v1, .ref (X 27), .ref (X 108), .ref (X 109), .ref (X 110), .ref (X 111), .ref (X 112), .ref (X 113), .ref T, v10])) (hu : ∀ i, i < m → u i = some 0) (hb : bv h nb ba b) (hbn : bn b 0 48 = cB) (hnb : 48 ≤ nb) (hnb2 : nb < 65536) (hrb : bv h 48 (X 27) rb) (hrv : bn rb 0 48 * 4 = cP + 1) (hcc : X 24 = cc) (hee : X 0 = ee)
    (K : ∀ (h1 : vm_H) (u1 : Nat → Option Int), RG m X (fun i => X (100 + i)) ni ri h1 u1 → CC u1 → (∀ i, 14 ≤ i → i < m → u1 i = some 0) → fr h h1 (AR m X (fun i => X (100 + i))) → vm_T (vm_env l O f9) mX2_init 601 6799 312 [(0, .ref cc), (1, .ref ee), (2, .int (nI 0))] [] h1 Q) :
    vm_sx (vm_env l O f9) mX2_init Q [(1, .iconst 0, 0, 0, 0, .int 0), (2, .bipush 48, 0, 0, 0, .int 48), (1, .aload_n 0, 0, 0, 0, .null), (3, .getfield 49, 2, 4, 0, .null), (3, .invokestatic 75, 42, 4, 0, .null), (1, .aload_n 1, 0, 0, 0, .null), (1, .aload_n 0, 0, 0, 0, .null), (3, .getfield 49, 2, 4, 0, .null), (1, .aload_n 0, 0, 0, 0, .null), (3, .getfield 49, 2, 4, 0, .null), (3, .invokevirtual 81, 49, 2, 3, .null), (1, .iconst 0, 0, 0, 0, .int 0), (1, .istore_n 2, 0, 0, 0, .null)] 601 6799 162 [(0, .ref cc), (1, .ref ee)] [.ref ba] h := by
  subst hcc hee
  have hbl : bn b 0 48 < 268435456 ^ 14 := by rw [hbn]; decide +kernel
  refine ⟨_, _, C0, rfl, ⟨0, 0, _, r_read (R := fun i => X (100 + i)) (c := 9) (at9 := 0) (size := 48) k0 hb (by omega) hnb2 (by omega), Nat.zero_le _, Nat.zero_le _, ?_⟩⟩
  rintro _ h1 ⟨rfl, k1, n1, F1⟩
  have C1 := AR_ob k0 F1 C0
  have no6 := (k1.2.2.2.1 9 (by omega)).1.1 6 (by decide)
  refine ⟨_, _, C1, rfl, ⟨_, _, C1, rfl, ⟨(RG_0 k1).choose, (RG_0 k1).choose_spec, 0, 0, _, r_ent (R := fun i => X (100 + i)) (c := 9) k1 n1 no6 hbl (by omega), Nat.zero_le _, Nat.zero_le _, ?_⟩⟩⟩
  rintro _ h2 ⟨rfl, k2, F2⟩
  rw [up1_up, hbn] at k2
  have C2 := AR_ob k1 F2 C1
  have F02 := fr_trans F1 F2
  refine vm_Th (lv' := [(0, .ref (X 24)), (1, .ref (X 0)), (2, .int (nI 0))]) (h' := h2) rfl rfl ?_
  refine vm_while (σ := Nat × vm_H) (fun z => z.1 ≤ 12 ∧ RG m X (fun i => X (100 + i)) ni ri z.2 (up1 (up1 u 9 (some (cB : Int))) 10 (some (z.1 : Int))) ∧ fr h z.2 (AR m X (fun i => X (100 + i)))) (fun z => 12 - z.1) (fun z => [(0, .ref (X 24)), (1, .ref (X 0)), (2, .int (nI z.1))]) (fun z => z.2) ?_ (0, h2) ⟨show 0 ≤ 12 by decide, ?_, F02⟩
  rotate_left
  · show RG m X (fun i => X (100 + i)) ni ri h2 (up1 (up1 u 9 (some (cB : Int))) 10 (some ((0 : Nat) : Int)))
    have : up1 (up1 u 9 (some (cB : Int))) 10 (some ((0 : Nat) : Int)) = up1 u 9 (some (cB : Int)) := by
      funext i
      unfold up1
      split
      · rename_i e; subst e; rw [if_neg (by decide), hu 10 (by omega)]; rfl
      · rfl
    rw [this]; exact k2
  clear k2 C2 F02 F2 F1 k1 n1 C1 no6 h1 h2
  rintro ⟨i, h3⟩ ⟨p1, k3, F3⟩ ih
  dsimp only at p1 k3 F3 ih ⊢
  have C3 := AR_ob k0 F3 C0
  rcases Nat.lt_or_ge i 12 with hi | hi
  · refine vm_go rfl bX2_init_186 oX2_init_186 ⟨fun q => absurd q (nI_ge (b := 12) hi (by decide)), fun _ => ?_⟩
    refine ⟨_, _, C3, rfl, ⟨(RG_2 k3).choose, _, (RG_2 k3).choose_spec.1, (RG_2 k3).choose_spec.2, ⟨_, _, C3, rfl, ⟨(RG_0 k3).choose, (RG_0 k3).choose_spec, 0, 0, _, r_add (R := fun i => X (100 + i)) (c := 10) k3 (RG_r k3 (i := 10) (by omega) up1_e) (RG_1 k3) (by omega), Nat.zero_le _, Nat.zero_le _, ?_⟩⟩⟩⟩
    rintro _ h4 ⟨rfl, k4, F4⟩
    rw [up1_up] at k4
    refine vm_Th (by rw [← nI_1]; rfl) rfl (ih (i + 1, h4) ⟨by show i + 1 ≤ 12; omega, k4, fr_trans F3 F4⟩ (by show 12 - (i + 1) < 12 - i; omega))
  have : i = 12 := by omega
  subst this
  clear ih
  refine vm_go rfl bX2_init_186 oX2_init_186 ⟨fun _ => ?_, fun q => absurd (nI_le (a := 12) (b := 12) (by decide) (by decide)) q⟩
  have hrb3 := AR_bv k0 F3 hrb
  have ut : up1 (up1 u 9 (some (cB : Int))) 10 (some ((12 : Nat) : Int)) 10 = some 12 := up1_e
  refine vm_go rfl bX2_init_214 oX2_init_214 ⟨_, _, C3, rfl, ⟨_, _, C3, rfl, ⟨_, _, C3, rfl, ⟨(RG_0 k3).choose, (RG_0 k3).choose_spec, 0, 0, _, r_raise (R := fun i => X (100 + i)) (c := 11) (at9 := 0) (size := 48) k3 (RG_r k3 (i := 10) (by omega) ut) hrb3 (by decide) (by decide) (by omega), Nat.zero_le _, Nat.zero_le _, ?_⟩⟩⟩⟩
  rintro _ h4 ⟨rfl, k4, F4⟩
  have C4 := AR_ob k3 F4 C3
  have h11 : fz ((12 : Int) ^ bn rb 0 48) * fz ((12 : Int) ^ bn rb 0 48) = 12 := by
    have := rt_sq (a := 12) (e := bn rb 0 48) (by rw [hrv]; rfl) (s := fz (r12 : Int)) (by rw [r12_e, fz_12])
    rw [fz_12] at this
    exact this
  generalize (12 : Int) ^ bn rb 0 48 = y12 at *
  refine ⟨_, _, C4, rfl, ⟨_, _, C4, rfl, ⟨_, _, C4, rfl, ⟨(RG_0 k4).choose, (RG_0 k4).choose_spec, 0, 0, _, r_add (R := fun i => X (100 + i)) (c := 12) k4 (RG_r k4 (i := 10) (by omega) rfl) (RG_r k4 (i := 10) (by omega) rfl) (by omega), Nat.zero_le _, Nat.zero_le _, ?_⟩⟩⟩⟩
  rintro _ h5 ⟨rfl, k5, F5⟩
  have C5 := AR_ob k4 F5 C4
  refine ⟨_, _, C5, rfl, ⟨_, _, C5, rfl, ⟨_, _, C5, rfl, ⟨(RG_0 k5).choose, (RG_0 k5).choose_spec, 0, 0, _, r_add (R := fun i => X (100 + i)) (c := 12) k5 (RG_r k5 (i := 12) (by omega) rfl) (RG_r k5 (i := 10) (by omega) rfl) (by omega), Nat.zero_le _, Nat.zero_le _, ?_⟩⟩⟩⟩
  rintro _ h6 ⟨rfl, k6, F6⟩
  have C6 := AR_ob k5 F6 C5
  refine ⟨_, _, C6, rfl, ⟨_, _, C6, rfl, ⟨(RG_0 k6).choose, (RG_0 k6).choose_spec, 0, 0, _, r_inv (R := fun i => X (100 + i)) (c := 12) k6 (RG_r k6 (i := 12) (by omega) rfl) (by omega), Nat.zero_le _, Nat.zero_le _, ?_⟩⟩⟩
  rintro _ h7 ⟨Y, ⟨w, rfl, hw⟩, hY, k7, F7⟩
  have C7 := AR_ob k6 F7 C6
  have e36 : fz (((12 : Nat) : Int) + ((12 : Nat) : Int) + ((12 : Nat) : Int)) = 12 + 12 + 12 := by
    rw [fz_add, fz_add, show fz ((12 : Nat) : Int) = 12 from fz_12]
  rw [e36] at hY
  have hY := hY fq36n
  refine ⟨_, _, C7, rfl, ⟨_, _, C7, rfl, ⟨_, _, C7, rfl, ⟨(RG_0 k7).choose, (RG_0 k7).choose_spec, 0, 0, _, r_mul (R := fun i => X (100 + i)) (c := 13) k7 (RG_r k7 (i := 12) (by omega) rfl) (RG_r k7 (i := 9) (by omega) rfl) (by omega), Nat.zero_le _, Nat.zero_le _, ?_⟩⟩⟩⟩
  rintro _ h8 ⟨rfl, k8, F8⟩
  have C8 := AR_ob k7 F8 C7
  refine ⟨_, _, C8, rfl, ⟨_, _, C8, rfl, ⟨_, _, C8, rfl, ⟨(RG_0 k8).choose, (RG_0 k8).choose_spec, 0, 0, _, r_mul (R := fun i => X (100 + i)) (c := 12) k8 (RG_r k8 (i := 13) (by omega) rfl) (RG_r k8 (i := 10) (by omega) rfl) (by omega), Nat.zero_le _, Nat.zero_le _, ?_⟩⟩⟩⟩
  rintro _ h9 ⟨rfl, k9, F9⟩
  refine vm_Th (lv' := [(0, .ref (X 24)), (1, .ref (X 0)), (2, .int (nI 0))]) (h' := h9) rfl rfl ?_
  obtain ⟨q1, q2⟩ := c36 (b := fz (cB : Int)) hY rfl
  refine K h9 _ k9 ⟨?_, ⟨_, rfl, rfl⟩, ⟨_, rfl, fz_12⟩, ⟨_, rfl, h11⟩, ⟨_, rfl, ?_⟩, ⟨_, rfl, ?_⟩⟩ (fun i h14 hi => ?_) (fr_trans (fr_trans (fr_trans (fr_trans (fr_trans (fr_trans F3 F4) F5) F6) F7) F8) F9)
  · rw [up1_n (by decide), up1_n (by decide), up1_n (by decide), up1_n (by decide), up1_n (by decide), up1_n (by decide), up1_n (by decide), up1_n (by decide)]
    exact hu 8 (by omega)
  · rw [fz_mul, fz_mul, show fz ((12 : Nat) : Int) = 12 from fz_12]; exact q2
  · rw [fz_mul]; exact q1
  · rw [up1_n (by omega), up1_n (by omega), up1_n (by omega), up1_n (by omega), up1_n (by omega), up1_n (by omega), up1_n (by omega), up1_n (by omega)]
    exact hu i hi
end
