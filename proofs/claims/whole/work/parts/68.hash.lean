/-! Hash.h2, Hash.h3 -/
def hid (p : Prop) : Prop := p
theorem rds3_cg {kk kk' w w' s s' : Nat → Int64} (hs : ∀ j, j < 8 → s j = s' j) : ∀ n, (∀ i, i < n → w i = w' i ∧ kk i = kk' i) → ∀ j, j < 8 → rds3 kk w s n j = rds3 kk' w' s' n j
  | 0, _, j, hj => hs j hj
  | n + 1, hw, j, hj => by
    have ih := rds3_cg hs n (fun i hi => hw i (by omega))
    show rd3 (kk n) (w n) (rds3 kk w s n) j = rd3 (kk' n) (w' n) (rds3 kk' w' s' n) j
    obtain ⟨e1, e2⟩ := hw n (by omega)
    rw [e1, e2]
    unfold rd3 t13 t23
    rw [ih 0 (by decide), ih 1 (by decide), ih 2 (by decide), ih 3 (by decide), ih 4 (by decide), ih 5 (by decide), ih 6 (by decide), ih 7 (by decide)]
    split
    · rfl
    · split
      · rfl
      · exact ih (j - 1) (by omega)
theorem wt3_cg {m m' : Nat → Int64} (h : ∀ i, i < 16 → m i = m' i) (n : Nat) : wt3 m n = wt3 m' n := by
  induction n using Nat.strongRecOn with
  | ind n ih =>
    rcases Nat.lt_or_ge n 16 with q | q
    · rw [wt3_lo q, wt3_lo q, h n q]
    · rw [wt3_hi q, wt3_hi q, ih _ (by omega), ih (n - 7) (by omega), ih (n - 15) (by omega), ih (n - 2) (by omega)]
def nb3 (s : Nat) : Nat := (s + 16) / 128 + 1
def hb3 (b : Nat → Nat) (s k : Nat) (j : Nat) : Nat := fbk b s (128 * k) 128 (decide (k + 1 = nb3 s)) (fun _ => 0) j
def hs3 (st kk : Nat → Int64) (b : Nat → Nat) (s : Nat) : Nat → Nat → Int64
  | 0 => st
  | k + 1 => fun j => hs3 st kk b s k j + rds3 kk (wt3 (m3 (hb3 b s k))) (hs3 st kk b s k) 80 j
theorem rds2_cg {kk kk' w w' s s' : Nat → Int32} (hs : ∀ j, j < 8 → s j = s' j) : ∀ n, (∀ i, i < n → w i = w' i ∧ kk i = kk' i) → ∀ j, j < 8 → rds2 kk w s n j = rds2 kk' w' s' n j
  | 0, _, j, hj => hs j hj
  | n + 1, hw, j, hj => by
    have ih := rds2_cg hs n (fun i hi => hw i (by omega))
    show rd2 (kk n) (w n) (rds2 kk w s n) j = rd2 (kk' n) (w' n) (rds2 kk' w' s' n) j
    obtain ⟨e1, e2⟩ := hw n (by omega)
    rw [e1, e2]
    unfold rd2 t12 t22
    rw [ih 0 (by decide), ih 1 (by decide), ih 2 (by decide), ih 3 (by decide), ih 4 (by decide), ih 5 (by decide), ih 6 (by decide), ih 7 (by decide)]
    split
    · rfl
    · split
      · rfl
      · exact ih (j - 1) (by omega)
theorem wt2_cg {m m' : Nat → Int32} (h : ∀ i, i < 16 → m i = m' i) (n : Nat) : wt2 m n = wt2 m' n := by
  induction n using Nat.strongRecOn with
  | ind n ih =>
    rcases Nat.lt_or_ge n 16 with q | q
    · rw [wt2_lo q, wt2_lo q, h n q]
    · rw [wt2_hi q, wt2_hi q, ih _ (by omega), ih (n - 7) (by omega), ih (n - 15) (by omega), ih (n - 2) (by omega)]
def nb2 (s : Nat) : Nat := (s + 8) / 64 + 1
def hb2 (b : Nat → Nat) (s k : Nat) (j : Nat) : Nat := fbk b s (64 * k) 64 (decide (k + 1 = nb2 s)) (fun _ => 0) j
def hs2 (st kk : Nat → Int32) (b : Nat → Nat) (s : Nat) : Nat → Nat → Int32
  | 0 => st
  | k + 1 => fun j => hs2 st kk b s k j + rds2 kk (wt2 (m2 (hb2 b s k))) (hs2 st kk b s k) 64 j
theorem m3_cg {b b' : Nat → Nat} (h : ∀ j, j < 128 → b j = b' j) : ∀ i, i < 16 → m3 b i = m3 b' i := by
  intro i hi
  unfold m3
  have key : ∀ k, k ≤ 8 → bw3 b (8 * i) k = bw3 b' (8 * i) k := by
    intro k
    induction k with
    | zero => intro _; rfl
    | succ k ih =>
      intro hk
      show bw3 b (8 * i) k <<< _ ||| _ = bw3 b' (8 * i) k <<< _ ||| _
      rw [ih (by omega), h _ (by omega)]
  exact key 8 (by decide)
theorem m2_cg {b b' : Nat → Nat} (h : ∀ j, j < 64 → b j = b' j) : ∀ i, i < 16 → m2 b i = m2 b' i := by
  intro i hi
  unfold m2
  rw [bn_ext 4 (fun j hj => h _ (by omega))]
def d3 (st kk : Nat → Int64) (b : Nat → Nat) (s i : Nat) : Nat := ((hs3 st kk b s (nb3 s) (i / 8)).toInt / 2 ^ (56 - 8 * (i % 8)) % 256).toNat
def d2 (st kk : Nat → Int32) (b : Nat → Nat) (s i : Nat) : Nat := ((hs2 st kk b s (nb2 s) (i / 4)).toInt / 2 ^ (24 - 8 * (i % 4)) % 256).toNat
/-- a Hash -/
def HA (h : vm_H) (H : Nat) (A : Nat → Nat) : Prop := h.2 H = .inr (4, [.ref (A 0), .ref (A 1), .ref (A 2), .ref (A 3), .ref (A 4)]) ∧ (∃ f : Nat → Int32, h.2 (A 0) = .inl (.int, 8, .inl f)) ∧ (∃ f : Nat → Int32, h.2 (A 1) = .inl (.int, 64, .inl f)) ∧ (∃ f : Nat → Int64, h.2 (A 2) = .inl (.long, 8, .inr (.inl f))) ∧ (∃ f : Nat → Int64, h.2 (A 3) = .inl (.long, 80, .inr (.inl f))) ∧ (∃ b, bv h 128 (A 4) b) ∧ ∀ i, i < 5 → A i < 1099511627776
/-- its constants -/
def HK (h : vm_H) (st2 kk2 : Nat → Int32) (st3 kk3 : Nat → Int64) : Prop := h.2 1099511627786 = .inl (.int, 8, .inl st2) ∧ h.2 1099511627788 = .inl (.int, 64, .inl kk2) ∧ h.2 1099511627787 = .inl (.long, 8, .inr (.inl st3)) ∧ h.2 1099511627789 = .inl (.long, 80, .inr (.inl kk3))
theorem HA_ne {h : vm_H} {H : Nat} {A : Nat → Nat} (k : HA h H A) : H ≠ A 0 ∧ H ≠ A 1 ∧ H ≠ A 2 ∧ H ≠ A 3 ∧ H ≠ A 4 ∧ A 0 ≠ A 1 ∧ A 0 ≠ A 2 ∧ A 0 ≠ A 3 ∧ A 0 ≠ A 4 ∧ A 1 ≠ A 2 ∧ A 1 ≠ A 3 ∧ A 1 ≠ A 4 ∧ A 2 ≠ A 3 ∧ A 2 ≠ A 4 ∧ A 3 ≠ A 4 := by
  obtain ⟨k0, ⟨f0, e0⟩, ⟨f1, e1⟩, ⟨f2, e2⟩, ⟨f3, e3⟩, ⟨b, f4, e4, _⟩, _⟩ := k
  refine ⟨?_, ?_, ?_, ?_, ?_, ?_, ?_, ?_, ?_, ?_, ?_, ?_, ?_, ?_, ?_⟩
  · intro z; rw [z, e0] at k0; cases k0
  · intro z; rw [z, e1] at k0; cases k0
  · intro z; rw [z, e2] at k0; cases k0
  · intro z; rw [z, e3] at k0; cases k0
  · intro z; rw [z, e4] at k0; cases k0
  · intro z; rw [z, e1] at e0; cases e0
  · intro z; rw [z, e2] at e0; cases e0
  · intro z; rw [z, e3] at e0; cases e0
  · intro z; rw [z, e4] at e0; cases e0
  · intro z; rw [z, e2] at e1; cases e1
  · intro z; rw [z, e3] at e1; cases e1
  · intro z; rw [z, e4] at e1; cases e1
  · intro z; rw [z, e3] at e2; cases e2
  · intro z; rw [z, e4] at e2; cases e2
  · intro z; rw [z, e4] at e3; cases e3
theorem HK_fr {h h' : vm_H} {st2 kk2 : Nat → Int32} {st3 kk3 : Nat → Int64} (k : HK h st2 kk2 st3 kk3) (e : ∀ q, 1099511627776 ≤ q → h'.2 q = h.2 q) : HK h' st2 kk2 st3 kk3 := by
  obtain ⟨k1, k2, k3, k4⟩ := k
  exact ⟨(e _ (by decide)).trans k1, (e _ (by decide)).trans k2, (e _ (by decide)).trans k3, (e _ (by decide)).trans k4⟩
section
variable {l : Launch} {O : Nat → vm_Ob} {f9 : Value}
theorem s_h3 {h : vm_H} {H R B n s T nt : Nat} {A : Nat → Nat} {b c : Nat → Nat} {st2 kk2 : Nat → Int32} {st3 kk3 : Nat → Int64} (k : HA h H A) (hK : HK h st2 kk2 st3 kk3) (hR : row h R B n b s) (hT : bv h nt T c) (hBB : B ≠ A 4) (hTB : T ≠ B) (hT4 : T ≠ A 4) (hTo : T < 1099511627776) (hnt : 48 ≤ nt) (hnt2 : nt < 65536) :
    vm_Met (vm_env l O f9) mX4_h3 0 0 [.ref H, .ref R, .ref T] h (fun r h' => r = none ∧ bv h' nt T (fun j => if j < 48 then d3 st3 kk3 b s j else c j) ∧ HA h' H A ∧ fr h h' (fun q => q = A 2 ∨ q = A 3 ∨ q = A 4 ∨ q = T)) := by
  obtain ⟨n0, n1, n2, n3, n4, n5, n6, n7, n8, n9, n10, n11, n12, n13, n14⟩ := HA_ne k
  obtain ⟨k0, ⟨f0, e0⟩, ⟨f1, e1⟩, ⟨f2, e2⟩, ⟨f3, e3⟩, hb4, ho⟩ := k
  obtain ⟨hK1, hK2, hK3, hK4⟩ := hK
  have r1 := hR.1
  have hs := hR.2.2.1
  have hn := hR.2.2.2.1
  have hRo := hR.2.2.2.2.1
  have hBo := hR.2.2.2.2.2
  obtain ⟨fB, gB, vB⟩ := hR.2.1
  obtain ⟨fT, gT, vT⟩ := hT
  have RS : R ≠ A 2 := fun z => by rw [z, e2] at r1; cases r1
  have RW : R ≠ A 3 := fun z => by rw [z, e3] at r1; cases r1
  have R4 : R ≠ A 4 := fun z => by obtain ⟨bb, f4, e4, _⟩ := hb4; rw [z, e4] at r1; cases r1
  have RT : R ≠ T := fun z => by rw [z, gT] at r1; cases r1
  have BS : B ≠ A 2 := fun z => by rw [z, e2] at gB; cases gB
  have BW : B ≠ A 3 := fun z => by rw [z, e3] at gB; cases gB
  have TS : T ≠ A 2 := fun z => by rw [z, e2] at gT; cases gT
  have TW : T ≠ A 3 := fun z => by rw [z, e3] at gT; cases gT
  have TH : T ≠ H := fun z => by rw [z, k0] at gT; cases gT
  have oS := ho 2 (by decide)
  have oW := ho 3 (by decide)
  have o4 := ho 4 (by decide)
  have old : ∀ q, 1099511627776 ≤ q → hid (¬ (q = A 2 ∨ q = A 3 ∨ q = A 4)) := by
    intro q hq
    rintro (z | z | z) <;> clear n0 n1 n2 n3 n4 n5 n6 n7 n8 n9 n10 n11 n12 n13 n14 RS RW R4 RT BS BW TS TW TH hBB hTB hT4 <;> omega
  have nH : hid (¬ (H = A 2 ∨ H = A 3 ∨ H = A 4)) := by
    rintro (z | z | z)
    · exact n2 z
    · exact n3 z
    · exact n4 z
  have nR : hid (¬ (R = A 2 ∨ R = A 3 ∨ R = A 4)) := by
    rintro (z | z | z)
    · exact RS z
    · exact RW z
    · exact R4 z
  have nB : hid (¬ (B = A 2 ∨ B = A 3 ∨ B = A 4)) := by
    rintro (z | z | z)
    · exact BS z
    · exact BW z
    · exact hBB z
  have nT : hid (¬ (T = A 2 ∨ T = A 3 ∨ T = A 4)) := by
    rintro (z | z | z)
    · exact TS z
    · exact TW z
    · exact hT4 z
  have n4S : hid (A 4 ≠ A 2) := Ne.symm n13
  have nS4 : hid (A 2 ≠ A 4) := n13
  have nW4 : hid (A 3 ≠ A 4) := n14
  have nSW : hid (A 2 ≠ A 3) := n12
  have nH4 : hid (H ≠ A 4) := n4
  have nHW : hid (H ≠ A 3) := n3
  have nHT : hid (H ≠ T) := Ne.symm TH
  have nST : hid (A 2 ≠ T) := Ne.symm TS
  have nWT : hid (A 3 ≠ T) := Ne.symm TW
  have n4T : hid (A 4 ≠ T) := Ne.symm hT4
  have nB4 : hid (A 4 ≠ B) := Ne.symm hBB
  have m0S : hid (A 0 ≠ A 2) := n6
  have m0W : hid (A 0 ≠ A 3) := n7
  have m04 : hid (A 0 ≠ A 4) := n8
  have m1S : hid (A 1 ≠ A 2) := n9
  have m1W : hid (A 1 ≠ A 3) := n10
  have m14 : hid (A 1 ≠ A 4) := n11
  clear n0 n1 n2 n3 n4 n5 n6 n7 n8 n9 n10 n11 n12 n13 n14 RS RW R4 RT BS BW TS TW TH hBB hTB hT4
  refine vm_met rfl (Nat.le_of_ble_eq_true rfl) ?_
  refine vm_go rfl bX4_h3_0 oX4_h3_0 ⟨_, rfl, ⟨_, _, k0, rfl, ⟨8, 0, 0, 8, 8, rfl, rfl, rfl, by decide, by decide, oS, _, _, hK3, e2, ?_⟩⟩⟩
  generalize hq1 : vm_up h (A 2) _ = h1
  have F1 : fr h h1 (fun q => q = A 2 ∨ q = A 3 ∨ q = A 4) := by rw [← hq1]; exact fr_up (Or.inl rfl)
  have S1 : ∃ g : Nat → Int64, h1.2 (A 2) = .inl (.long, 8, .inr (.inl g)) ∧ ∀ j, j < 8 → g j = hs3 st3 kk3 b s 0 j := by
    refine ⟨_, by rw [← hq1]; exact vm_upe, fun j hj => ?_⟩
    unfold va_cpy
    rw [if_pos (by omega), Nat.sub_zero, Nat.zero_add]
    rfl
  have u1 : ∀ q, q ≠ A 2 → h1.2 q = h.2 q := fun q hq => by rw [← hq1]; exact vm_upn hq
  clear hq1
  have R1 := (F1.2 R nR).trans r1
  have enb : (nI s + 16) / 128 + 1 = nI (nb3 s) := by
    rw [show nI s + 16 = nI (s + 16) from nI_add s 16, show nI (s + 16) / 128 = nI ((s + 16) / 128) from nI_div (by omega) (by decide)]
    exact nI_1 _
  have nbl : 1 ≤ nb3 s ∧ nb3 s ≤ 2000 := by unfold nb3; omega
  refine ⟨_, _, R1, rfl, ⟨by decide, ?_⟩⟩
  refine vm_Th (lv' := [(0, .ref H), (1, .ref R), (2, .ref T), (3, .int (nI (nb3 s))), (4, .int (nI 0))]) (h' := h1) (by rw [← enb]; rfl) rfl ?_
  refine vm_while (σ := Nat × vm_H) (fun y => y.1 ≤ nb3 s ∧ (∃ g : Nat → Int64, y.2.2 (A 2) = .inl (.long, 8, .inr (.inl g)) ∧ ∀ j, j < 8 → g j = hs3 st3 kk3 b s y.1 j) ∧ (∃ g : Nat → Int64, y.2.2 (A 3) = .inl (.long, 80, .inr (.inl g))) ∧ (∃ bb, bv y.2 128 (A 4) bb) ∧ fr h y.2 (fun q => q = A 2 ∨ q = A 3 ∨ q = A 4)) (fun y => nb3 s - y.1) (fun y => [(0, .ref H), (1, .ref R), (2, .ref T), (3, .int (nI (nb3 s))), (4, .int (nI y.1))]) (fun y => y.2) ?_ (0, h1) ⟨Nat.zero_le _, S1, ⟨_, (u1 _ (Ne.symm nSW)).trans e3⟩, ?_, F1⟩
  rotate_left
  · obtain ⟨bb, f4, e4, v4⟩ := hb4
    exact ⟨bb, f4, (u1 _ n4S).trans e4, v4⟩
  clear S1 F1 u1 R1 h1
  rintro ⟨i, h1⟩ ⟨p1, ⟨g, p2, p2'⟩, ⟨w0, p3⟩, ⟨bb, p4⟩, p5⟩ ih
  dsimp only at p1 p2 p2' p3 p4 p5 ih ⊢
  have H1 := (p5.2 H nH).trans k0
  have row1 : row h1 R B n b s := row_fr hR p5 nR nB
  have hold : ∀ q, 1099511627776 ≤ q → h1.2 q = h.2 q := fun q hq => p5.2 q (old q hq)
  rcases Nat.lt_or_ge i (nb3 s) with hi | hi
  · have st61 : ∀ la : Bool, la = decide (i + 1 = nb3 s) → vm_T (vm_env l O f9) mX4_h3 0 0 61 [(0, .ref H), (1, .ref R), (2, .ref T), (3, .int (nI (nb3 s))), (4, .int (nI i))] [.int (if la = true then 1 else 0), .int 128, .int (nI i * 128), .ref R, .ref H] h1 (fun r h' => r = none ∧ bv h' nt T (fun j => if j < 48 then d3 st3 kk3 b s j else c j) ∧ HA h' H A ∧ fr h h' (fun q => q = A 2 ∨ q = A 3 ∨ q = A 4 ∨ q = T)) := by
      intro la hla
      have ei : nI i * 128 = nI (128 * i) := by rw [show nI i * 128 = nI (i * 128) from nI_mul i 128, Nat.mul_comm]
      refine vm_go rfl bX4_h3_61 oX4_h3_61 ⟨_, H1, 0, 0, _, vm_metA (s_fill (start := 128 * i) (wide := 128) (last := la) H1 p4 row1 nB4 o4 (by decide) (by decide) (by omega)) (by rw [← ei]; rfl), Nat.zero_le _, Nat.zero_le _, ?_⟩
      rintro _ h2 ⟨rfl, b2, F2⟩
      have H2 := (F2.2 H nH4).trans H1
      have W2 := (F2.2 _ nW4).trans p3
      refine ⟨_, H2, 0, 0, _, s_spr3 H2 W2 b2 oW, Nat.zero_le _, Nat.zero_le _, ?_⟩
      rintro _ h3 ⟨rfl, hq3⟩
      have u3 : ∀ q, q ≠ A 3 → h3.2 q = h2.2 q := fun q hq => by rw [hq3]; exact vm_upn hq
      have W3 : h3.2 (A 3) = .inl (.long, 80, .inr (.inl (cutf (wt3 (m3 (fbk b s (128 * i) 128 la bb))) w0 80))) := by rw [hq3]; exact vm_upe
      have c3 : h3.1 = h2.1 := by rw [hq3]; rfl
      clear hq3
      have H3 := (u3 H nHW).trans H2
      have S3 := (u3 (A 2) nSW).trans ((F2.2 _ nS4).trans p2)
      have K3 : h3.2 1099511627789 = _ := (u3 _ (fun z => old 1099511627789 (by decide) (Or.inr (Or.inl z)))).trans ((F2.2 _ (fun z => old 1099511627789 (by decide) (Or.inr (Or.inr z)))).trans ((hold _ (by decide)).trans hK4))
      refine ⟨_, H3, 0, 0, _, s_mix3 H3 S3 W3 K3 oS, Nat.zero_le _, Nat.zero_le _, ?_⟩
      rintro _ h4 ⟨rfl, g4, hq4, v4⟩
      have u4 : ∀ q, q ≠ A 2 → h4.2 q = h3.2 q := fun q hq => by rw [hq4]; exact vm_upn hq
      have S4 : h4.2 (A 2) = .inl (.long, 8, .inr (.inl g4)) := by rw [hq4]; exact vm_upe
      have c4 : h4.1 = h3.1 := by rw [hq4]; rfl
      clear hq4
      refine vm_Th (by rw [← nI_1]; rfl) rfl (ih (i + 1, h4) ⟨by show i + 1 ≤ nb3 s; omega, ⟨g4, S4, fun j hj => ?_⟩, ⟨_, (u4 _ (Ne.symm nSW)).trans W3⟩, ?_, ?_⟩ (by show nb3 s - (i + 1) < nb3 s - i; omega))
      · show g4 j = hs3 st3 kk3 b s i j + rds3 kk3 (wt3 (m3 (hb3 b s i))) (hs3 st3 kk3 b s i) 80 j
        have E := rds3_cg (kk := kk3) (kk' := kk3) (w' := wt3 (m3 (hb3 b s i))) (w := cutf (wt3 (m3 (fbk b s (128 * i) 128 la bb))) w0 80) p2' 80 (fun q hq => ⟨by
          rw [cutf_lo hq]
          refine wt3_cg (m3_cg (fun z hz => ?_)) q
          unfold hb3 fbk
          rw [if_pos hz, if_pos hz, hla], rfl⟩) j hj
        rw [v4 j hj, p2' j hj, E]
      · obtain ⟨f2, q1, q2⟩ := b2
        exact ⟨_, f2, (u4 _ n4S).trans ((u3 _ (Ne.symm nW4)).trans q1), q2⟩
      · refine ⟨by rw [c4, c3, F2.1, p5.1], fun q hq => ?_⟩
        rw [u4 q (fun z => hq (Or.inl z)), u3 q (fun z => hq (Or.inr (Or.inl z))), F2.2 q (fun z => hq (Or.inr (Or.inr z))), p5.2 q hq]
    have enb1 : nI (nb3 s) - 1 = nI (nb3 s - 1) := nI_sub (b := 1) (by omega)
    refine vm_go rfl bX4_h3_31 oX4_h3_31 ⟨fun q => absurd q (nI_ge hi (by omega)), fun _ => ⟨fun q => ?_, fun q => ?_⟩⟩
    · have q : ¬ nI i = nI (nb3 s) - 1 := q
      rw [enb1, nI_ij (by omega) (by omega)] at q
      exact vm_go rfl bX4_h3_60 oX4_h3_60 (st61 false (by rw [decide_eq_false (by omega)]))
    · have q : nI i = nI (nb3 s) - 1 := q
      rw [enb1, nI_ij (by omega) (by omega)] at q
      exact st61 true (by rw [decide_eq_true (by omega)])
  have hi : i = nb3 s := by omega
  subst hi
  clear ih
  refine vm_go rfl bX4_h3_31 oX4_h3_31 ⟨fun _ => ?_, fun q => absurd (nI_le (Nat.le_refl _) (by omega)) q⟩
  refine vm_go rfl bX4_h3_78 oX4_h3_78 ?_
  refine vm_Th (lv' := [(0, .ref H), (1, .ref R), (2, .ref T), (3, .int (nI (nb3 s))), (4, .int (nI 0))]) (h' := h1) rfl rfl ?_
  have T1 := (p5.2 T nT).trans gT
  refine vm_while (σ := Nat × vm_H) (fun y => y.1 ≤ 48 ∧ bv y.2 nt T (fun j => if j < y.1 then d3 st3 kk3 b s j else c j) ∧ fr h1 y.2 (fun q => q = T)) (fun y => 48 - y.1) (fun y => [(0, .ref H), (1, .ref R), (2, .ref T), (3, .int (nI (nb3 s))), (4, .int (nI y.1))]) (fun y => y.2) ?_ (0, h1) ⟨Nat.zero_le _, ⟨fT, T1, vT⟩, fr_refl⟩
  rintro ⟨j, h2⟩ ⟨q1, q2, q3⟩ ih
  dsimp only at q1 q2 q3 ih ⊢
  rcases Nat.lt_or_ge j 48 with hj | hj
  · have H2 := (q3.2 H nHT).trans H1
    have S2 := (q3.2 (A 2) nST).trans p2
    obtain ⟨f2, w1, w2⟩ := q2
    have ed : nI j / 8 = nI (j / 8) := nI_div (by omega) (by decide)
    have er : nI j - nI j / 8 * 8 = nI (j % 8) := nI_rem (by omega) (by decide)
    refine vm_go rfl bX4_h3_81 oX4_h3_81 ⟨fun z => absurd z (nI_ge (b := 48) hj (by decide)), fun _ => ⟨_, _, H2, rfl, ⟨by decide, ⟨8, g, S2, j / 8, ed, by omega, ⟨by decide, ⟨nt, f2, w1, hTo, j, rfl, by omega, ?_⟩⟩⟩⟩⟩⟩
    have EV : (g (j / 8) >>> (((56 : Int32) - 8 * (nI j - nI j / 8 * 8)).toInt64 &&& 63)).toInt32.toInt8.toInt32 = sb (d3 st3 kk3 b s j) := by
      rw [er, p2' _ (by omega)]
      unfold d3
      generalize hs3 st3 kk3 b s (nb3 s) (j / 8) = x
      have e3 : ∀ r, r < 8 → ((((56 : Int32) - 8 * nI r).toInt64 &&& 63).toBitVec.smod 64).toNat = 56 - 8 * r := by decide +kernel
      have e4 : x = lZ x.toInt := (Int64.ofInt_toInt x).symm
      conv => lhs; rw [e4]
      rw [lZ_shr (Int64.le_toInt x) (Int64.toInt_lt x) (e3 (j % 8) (by omega))]
      exact sb_L _
    refine vm_Th (by rw [← nI_1]; rfl) rfl (ih (j + 1, _) ⟨by show j + 1 ≤ 48; omega, ?_, fr_trans q3 (fr_up rfl)⟩ (by show 48 - (j + 1) < 48 - j; omega))
    have dl : d3 st3 kk3 b s j < 256 := by unfold d3; omega
    have := bv_up (h := h2) (fa := T) (k := j) (v := d3 st3 kk3 b s j) w2 dl
    have E2 : ((g (j / 8) >>> (((56 : Int32) - 8 * (nI j - nI j / 8 * 8)).toInt64 &&& 63)).toInt32.toInt8.toInt32).toInt8.toInt32 = sb (d3 st3 kk3 b s j) := by rw [EV]; exact sb_self _ dl
    rw [← E2] at this
    have e9 : b1 (fun q => if q < j then d3 st3 kk3 b s q else c q) j (d3 st3 kk3 b s j) = (fun q => if q < j + 1 then d3 st3 kk3 b s q else c q) := by
      funext q
      unfold b1
      by_cases e : q = j
      · rw [if_pos e, if_pos (show q < j + 1 by omega), e]
      · rw [if_neg e]
        dsimp only
        by_cases e2 : q < j
        · rw [if_pos e2, if_pos (show q < j + 1 by omega)]
        · rw [if_neg e2, if_neg (show ¬ q < j + 1 by omega)]
    rw [e9] at this
    exact this
  · have hj : j = 48 := by omega
    subst hj
    refine vm_go rfl bX4_h3_81 oX4_h3_81 ⟨fun _ => ?_, fun q => absurd (nI_le (a := 48) (b := 48) (by decide) (by decide)) q⟩
    have F : fr h h2 (fun q => q = A 2 ∨ q = A 3 ∨ q = A 4 ∨ q = T) := fr_trans (fr_mono p5 (fun q hq => hq.elim Or.inl (fun z => z.elim (fun z => Or.inr (Or.inl z)) (fun z => Or.inr (Or.inr (Or.inl z)))))) (fr_mono q3 (fun q hq => Or.inr (Or.inr (Or.inr hq))))
    have FA : ∀ q, q ≠ A 2 → q ≠ A 3 → q ≠ A 4 → q ≠ T → h2.2 q = h.2 q := fun q a1 a2 a3 a4 => F.2 q (by rintro (z | z | z | z); exact a1 z; exact a2 z; exact a3 z; exact a4 z)
    refine vm_go rfl bX4_h3_122 oX4_h3_122 ⟨rfl, q2, ⟨(q3.2 H nHT).trans H1, ⟨f0, (FA _ m0S m0W m04 (by intro z; rw [← z, e0] at gT; cases gT)).trans e0⟩, ⟨f1, (FA _ m1S m1W m14 (by intro z; rw [← z, e1] at gT; cases gT)).trans e1⟩, ⟨g, (q3.2 _ nST).trans p2⟩, ⟨w0, (q3.2 _ nWT).trans p3⟩, ⟨bb, fr_bv q3 p4 n4T⟩, ho⟩, F⟩
end
section
variable {l : Launch} {O : Nat → vm_Ob} {f9 : Value}
theorem s_h2 {h : vm_H} {H R B n s T nt : Nat} {A : Nat → Nat} {b c : Nat → Nat} {st2 kk2 : Nat → Int32} {st3 kk3 : Nat → Int64} (k : HA h H A) (hK : HK h st2 kk2 st3 kk3) (hR : row h R B n b s) (hT : bv h nt T c) (hBB : B ≠ A 4) (hTB : T ≠ B) (hT4 : T ≠ A 4) (hTo : T < 1099511627776) (hnt : 32 ≤ nt) (hnt2 : nt < 65536) :
    vm_Met (vm_env l O f9) mX4_h2 0 0 [.ref H, .ref R, .ref T] h (fun r h' => r = none ∧ bv h' nt T (fun j => if j < 32 then d2 st2 kk2 b s j else c j) ∧ HA h' H A ∧ fr h h' (fun q => q = A 0 ∨ q = A 1 ∨ q = A 4 ∨ q = T)) := by
  obtain ⟨n0, n1, n2, n3, n4, n5, n6, n7, n8, n9, n10, n11, n12, n13, n14⟩ := HA_ne k
  obtain ⟨k0, ⟨f0, e0⟩, ⟨f1, e1⟩, ⟨f2, e2⟩, ⟨f3, e3⟩, hb4, ho⟩ := k
  obtain ⟨hK1, hK2, hK3, hK4⟩ := hK
  have r1 := hR.1
  have hs := hR.2.2.1
  have hn := hR.2.2.2.1
  have hRo := hR.2.2.2.2.1
  have hBo := hR.2.2.2.2.2
  obtain ⟨fB, gB, vB⟩ := hR.2.1
  obtain ⟨fT, gT, vT⟩ := hT
  have RS : R ≠ A 0 := fun z => by rw [z, e0] at r1; cases r1
  have RW : R ≠ A 1 := fun z => by rw [z, e1] at r1; cases r1
  have R4 : R ≠ A 4 := fun z => by obtain ⟨bb, f4, e4, _⟩ := hb4; rw [z, e4] at r1; cases r1
  have RT : R ≠ T := fun z => by rw [z, gT] at r1; cases r1
  have BS : B ≠ A 0 := fun z => by rw [z, e0] at gB; cases gB
  have BW : B ≠ A 1 := fun z => by rw [z, e1] at gB; cases gB
  have TS : T ≠ A 0 := fun z => by rw [z, e0] at gT; cases gT
  have TW : T ≠ A 1 := fun z => by rw [z, e1] at gT; cases gT
  have TH : T ≠ H := fun z => by rw [z, k0] at gT; cases gT
  have oS := ho 0 (by decide)
  have oW := ho 1 (by decide)
  have o4 := ho 4 (by decide)
  have old : ∀ q, 1099511627776 ≤ q → hid (¬ (q = A 0 ∨ q = A 1 ∨ q = A 4)) := by
    intro q hq
    rintro (z | z | z) <;> clear n0 n1 n2 n3 n4 n5 n6 n7 n8 n9 n10 n11 n12 n13 n14 RS RW R4 RT BS BW TS TW TH hBB hTB hT4 <;> omega
  have nH : hid (¬ (H = A 0 ∨ H = A 1 ∨ H = A 4)) := by
    rintro (z | z | z)
    · exact n0 z
    · exact n1 z
    · exact n4 z
  have nR : hid (¬ (R = A 0 ∨ R = A 1 ∨ R = A 4)) := by
    rintro (z | z | z)
    · exact RS z
    · exact RW z
    · exact R4 z
  have nB : hid (¬ (B = A 0 ∨ B = A 1 ∨ B = A 4)) := by
    rintro (z | z | z)
    · exact BS z
    · exact BW z
    · exact hBB z
  have nT : hid (¬ (T = A 0 ∨ T = A 1 ∨ T = A 4)) := by
    rintro (z | z | z)
    · exact TS z
    · exact TW z
    · exact hT4 z
  have n4S : hid (A 4 ≠ A 0) := Ne.symm n8
  have nS4 : hid (A 0 ≠ A 4) := n8
  have nW4 : hid (A 1 ≠ A 4) := n11
  have nSW : hid (A 0 ≠ A 1) := n5
  have nH4 : hid (H ≠ A 4) := n4
  have nHW : hid (H ≠ A 1) := n1
  have nHT : hid (H ≠ T) := Ne.symm TH
  have nST : hid (A 0 ≠ T) := Ne.symm TS
  have nWT : hid (A 1 ≠ T) := Ne.symm TW
  have n4T : hid (A 4 ≠ T) := Ne.symm hT4
  have nB4 : hid (A 4 ≠ B) := Ne.symm hBB
  have m0S : hid (A 2 ≠ A 0) := (Ne.symm n6)
  have m0W : hid (A 2 ≠ A 1) := (Ne.symm n9)
  have m04 : hid (A 2 ≠ A 4) := n13
  have m1S : hid (A 3 ≠ A 0) := (Ne.symm n7)
  have m1W : hid (A 3 ≠ A 1) := (Ne.symm n10)
  have m14 : hid (A 3 ≠ A 4) := n14
  clear n0 n1 n2 n3 n4 n5 n6 n7 n8 n9 n10 n11 n12 n13 n14 RS RW R4 RT BS BW TS TW TH hBB hTB hT4
  refine vm_met rfl (Nat.le_of_ble_eq_true rfl) ?_
  refine vm_go rfl bX4_h2_0 oX4_h2_0 ⟨_, rfl, ⟨_, _, k0, rfl, ⟨8, 0, 0, 8, 8, rfl, rfl, rfl, by decide, by decide, oS, _, _, hK1, e0, ?_⟩⟩⟩
  generalize hq1 : vm_up h (A 0) _ = h1
  have F1 : fr h h1 (fun q => q = A 0 ∨ q = A 1 ∨ q = A 4) := by rw [← hq1]; exact fr_up (Or.inl rfl)
  have S1 : ∃ g : Nat → Int32, h1.2 (A 0) = .inl (.int, 8, .inl g) ∧ ∀ j, j < 8 → g j = hs2 st2 kk2 b s 0 j := by
    refine ⟨_, by rw [← hq1]; exact vm_upe, fun j hj => ?_⟩
    unfold va_cpy
    rw [if_pos (by omega), Nat.sub_zero, Nat.zero_add]
    rfl
  have u1 : ∀ q, q ≠ A 0 → h1.2 q = h.2 q := fun q hq => by rw [← hq1]; exact vm_upn hq
  clear hq1
  have R1 := (F1.2 R nR).trans r1
  have enb : (nI s + 8) / 64 + 1 = nI (nb2 s) := by
    rw [show nI s + 8 = nI (s + 8) from nI_add s 8, show nI (s + 8) / 64 = nI ((s + 8) / 64) from nI_div (by omega) (by decide)]
    exact nI_1 _
  have nbl : 1 ≤ nb2 s ∧ nb2 s ≤ 2000 := by unfold nb2; omega
  refine ⟨_, _, R1, rfl, ⟨by decide, ?_⟩⟩
  refine vm_Th (lv' := [(0, .ref H), (1, .ref R), (2, .ref T), (3, .int (nI (nb2 s))), (4, .int (nI 0))]) (h' := h1) (by rw [← enb]; rfl) rfl ?_
  refine vm_while (σ := Nat × vm_H) (fun y => y.1 ≤ nb2 s ∧ (∃ g : Nat → Int32, y.2.2 (A 0) = .inl (.int, 8, .inl g) ∧ ∀ j, j < 8 → g j = hs2 st2 kk2 b s y.1 j) ∧ (∃ g : Nat → Int32, y.2.2 (A 1) = .inl (.int, 64, .inl g)) ∧ (∃ bb, bv y.2 128 (A 4) bb) ∧ fr h y.2 (fun q => q = A 0 ∨ q = A 1 ∨ q = A 4)) (fun y => nb2 s - y.1) (fun y => [(0, .ref H), (1, .ref R), (2, .ref T), (3, .int (nI (nb2 s))), (4, .int (nI y.1))]) (fun y => y.2) ?_ (0, h1) ⟨Nat.zero_le _, S1, ⟨_, (u1 _ (Ne.symm nSW)).trans e1⟩, ?_, F1⟩
  rotate_left
  · obtain ⟨bb, f4, e4, v4⟩ := hb4
    exact ⟨bb, f4, (u1 _ n4S).trans e4, v4⟩
  clear S1 F1 u1 R1 h1
  rintro ⟨i, h1⟩ ⟨p1, ⟨g, p2, p2'⟩, ⟨w0, p3⟩, ⟨bb, p4⟩, p5⟩ ih
  dsimp only at p1 p2 p2' p3 p4 p5 ih ⊢
  have H1 := (p5.2 H nH).trans k0
  have row1 : row h1 R B n b s := row_fr hR p5 nR nB
  have hold : ∀ q, 1099511627776 ≤ q → h1.2 q = h.2 q := fun q hq => p5.2 q (old q hq)
  rcases Nat.lt_or_ge i (nb2 s) with hi | hi
  · have st58 : ∀ la : Bool, la = decide (i + 1 = nb2 s) → vm_T (vm_env l O f9) mX4_h2 0 0 58 [(0, .ref H), (1, .ref R), (2, .ref T), (3, .int (nI (nb2 s))), (4, .int (nI i))] [.int (if la = true then 1 else 0), .int 64, .int (nI i * 64), .ref R, .ref H] h1 (fun r h' => r = none ∧ bv h' nt T (fun j => if j < 32 then d2 st2 kk2 b s j else c j) ∧ HA h' H A ∧ fr h h' (fun q => q = A 0 ∨ q = A 1 ∨ q = A 4 ∨ q = T)) := by
      intro la hla
      have ei : nI i * 64 = nI (64 * i) := by rw [show nI i * 64 = nI (i * 64) from nI_mul i 64, Nat.mul_comm]
      refine vm_go rfl bX4_h2_58 oX4_h2_58 ⟨_, H1, 0, 0, _, vm_metA (s_fill (start := 64 * i) (wide := 64) (last := la) H1 p4 row1 nB4 o4 (by decide) (by decide) (by omega)) (by rw [← ei]; rfl), Nat.zero_le _, Nat.zero_le _, ?_⟩
      rintro _ h2 ⟨rfl, b2, F2⟩
      have H2 := (F2.2 H nH4).trans H1
      have W2 := (F2.2 _ nW4).trans p3
      refine ⟨_, H2, 0, 0, _, s_spr2 H2 W2 b2 oW, Nat.zero_le _, Nat.zero_le _, ?_⟩
      rintro _ h3 ⟨rfl, hq3⟩
      have u3 : ∀ q, q ≠ A 1 → h3.2 q = h2.2 q := fun q hq => by rw [hq3]; exact vm_upn hq
      have W3 : h3.2 (A 1) = .inl (.int, 64, .inl (cutf (wt2 (m2 (fbk b s (64 * i) 64 la bb))) w0 64)) := by rw [hq3]; exact vm_upe
      have c3 : h3.1 = h2.1 := by rw [hq3]; rfl
      clear hq3
      have H3 := (u3 H nHW).trans H2
      have S3 := (u3 (A 0) nSW).trans ((F2.2 _ nS4).trans p2)
      have K3 : h3.2 1099511627788 = _ := (u3 _ (fun z => old 1099511627788 (by decide) (Or.inr (Or.inl z)))).trans ((F2.2 _ (fun z => old 1099511627788 (by decide) (Or.inr (Or.inr z)))).trans ((hold _ (by decide)).trans hK2))
      refine ⟨_, H3, 0, 0, _, s_mix2 H3 S3 W3 K3 oS, Nat.zero_le _, Nat.zero_le _, ?_⟩
      rintro _ h4 ⟨rfl, g4, hq4, v4⟩
      have u4 : ∀ q, q ≠ A 0 → h4.2 q = h3.2 q := fun q hq => by rw [hq4]; exact vm_upn hq
      have S4 : h4.2 (A 0) = .inl (.int, 8, .inl g4) := by rw [hq4]; exact vm_upe
      have c4 : h4.1 = h3.1 := by rw [hq4]; rfl
      clear hq4
      refine vm_Th (by rw [← nI_1]; rfl) rfl (ih (i + 1, h4) ⟨by show i + 1 ≤ nb2 s; omega, ⟨g4, S4, fun j hj => ?_⟩, ⟨_, (u4 _ (Ne.symm nSW)).trans W3⟩, ?_, ?_⟩ (by show nb2 s - (i + 1) < nb2 s - i; omega))
      · show g4 j = hs2 st2 kk2 b s i j + rds2 kk2 (wt2 (m2 (hb2 b s i))) (hs2 st2 kk2 b s i) 64 j
        have E := rds2_cg (kk := kk2) (kk' := kk2) (w' := wt2 (m2 (hb2 b s i))) (w := cutf (wt2 (m2 (fbk b s (64 * i) 64 la bb))) w0 64) p2' 64 (fun q hq => ⟨by
          rw [cutf_lo hq]
          refine wt2_cg (m2_cg (fun z hz => ?_)) q
          unfold hb2 fbk
          rw [if_pos hz, if_pos hz, hla], rfl⟩) j hj
        rw [v4 j hj, p2' j hj, E]
      · obtain ⟨f2, q1, q2⟩ := b2
        exact ⟨_, f2, (u4 _ n4S).trans ((u3 _ (Ne.symm nW4)).trans q1), q2⟩
      · refine ⟨by rw [c4, c3, F2.1, p5.1], fun q hq => ?_⟩
        rw [u4 q (fun z => hq (Or.inl z)), u3 q (fun z => hq (Or.inr (Or.inl z))), F2.2 q (fun z => hq (Or.inr (Or.inr z))), p5.2 q hq]
    have enb1 : nI (nb2 s) - 1 = nI (nb2 s - 1) := nI_sub (b := 1) (by omega)
    refine vm_go rfl bX4_h2_30 oX4_h2_30 ⟨fun q => absurd q (nI_ge hi (by omega)), fun _ => ⟨fun q => ?_, fun q => ?_⟩⟩
    · have q : ¬ nI i = nI (nb2 s) - 1 := q
      rw [enb1, nI_ij (by omega) (by omega)] at q
      exact vm_go rfl bX4_h2_57 oX4_h2_57 (st58 false (by rw [decide_eq_false (by omega)]))
    · have q : nI i = nI (nb2 s) - 1 := q
      rw [enb1, nI_ij (by omega) (by omega)] at q
      exact st58 true (by rw [decide_eq_true (by omega)])
  have hi : i = nb2 s := by omega
  subst hi
  clear ih
  refine vm_go rfl bX4_h2_30 oX4_h2_30 ⟨fun _ => ?_, fun q => absurd (nI_le (Nat.le_refl _) (by omega)) q⟩
  refine vm_go rfl bX4_h2_75 oX4_h2_75 ?_
  refine vm_Th (lv' := [(0, .ref H), (1, .ref R), (2, .ref T), (3, .int (nI (nb2 s))), (4, .int (nI 0))]) (h' := h1) rfl rfl ?_
  have T1 := (p5.2 T nT).trans gT
  refine vm_while (σ := Nat × vm_H) (fun y => y.1 ≤ 32 ∧ bv y.2 nt T (fun j => if j < y.1 then d2 st2 kk2 b s j else c j) ∧ fr h1 y.2 (fun q => q = T)) (fun y => 32 - y.1) (fun y => [(0, .ref H), (1, .ref R), (2, .ref T), (3, .int (nI (nb2 s))), (4, .int (nI y.1))]) (fun y => y.2) ?_ (0, h1) ⟨Nat.zero_le _, ⟨fT, T1, vT⟩, fr_refl⟩
  rintro ⟨j, h2⟩ ⟨q1, q2, q3⟩ ih
  dsimp only at q1 q2 q3 ih ⊢
  rcases Nat.lt_or_ge j 32 with hj | hj
  · have H2 := (q3.2 H nHT).trans H1
    have S2 := (q3.2 (A 0) nST).trans p2
    obtain ⟨f2, w1, w2⟩ := q2
    have ed : nI j / 4 = nI (j / 4) := nI_div (by omega) (by decide)
    have er : nI j - nI j / 4 * 4 = nI (j % 4) := nI_rem (by omega) (by decide)
    refine vm_go rfl bX4_h2_78 oX4_h2_78 ⟨fun z => absurd z (nI_ge (b := 32) hj (by decide)), fun _ => ⟨_, _, H2, rfl, ⟨by decide, ⟨8, g, S2, j / 4, ed, by omega, fun _ => ⟨by decide, ⟨nt, f2, w1, hTo, j, rfl, by omega, ?_⟩⟩⟩⟩⟩⟩
    have EV : (g (j / 4) >>> (((24 : Int32) - 8 * (nI j - nI j / 4 * 4)) &&& 31)).toInt8.toInt32 = sb (d2 st2 kk2 b s j) := by
      rw [er, p2' _ (by omega)]
      unfold d2
      generalize hs2 st2 kk2 b s (nb2 s) (j / 4) = x
      have e3 : ∀ r, r < 4 → ((((24 : Int32) - 8 * nI r) &&& 31).toBitVec.smod 32).toNat = 24 - 8 * r := by decide +kernel
      have e4 : x = iZ x.toInt := (Int32.ofInt_toInt x).symm
      conv => lhs; rw [e4]
      rw [iZ_shr (Int32.le_toInt x) (Int32.toInt_lt x) (e3 (j % 4) (by omega))]
      exact sb_I _
    refine vm_Th (by rw [← nI_1]; rfl) rfl (ih (j + 1, _) ⟨by show j + 1 ≤ 32; omega, ?_, fr_trans q3 (fr_up rfl)⟩ (by show 32 - (j + 1) < 32 - j; omega))
    have dl : d2 st2 kk2 b s j < 256 := by unfold d2; omega
    have := bv_up (h := h2) (fa := T) (k := j) (v := d2 st2 kk2 b s j) w2 dl
    have E2 : ((g (j / 4) >>> (((24 : Int32) - 8 * (nI j - nI j / 4 * 4)) &&& 31)).toInt8.toInt32).toInt8.toInt32 = sb (d2 st2 kk2 b s j) := by rw [EV]; exact sb_self _ dl
    rw [← E2] at this
    have e9 : b1 (fun q => if q < j then d2 st2 kk2 b s q else c q) j (d2 st2 kk2 b s j) = (fun q => if q < j + 1 then d2 st2 kk2 b s q else c q) := by
      funext q
      unfold b1
      by_cases e : q = j
      · rw [if_pos e, if_pos (show q < j + 1 by omega), e]
      · rw [if_neg e]
        dsimp only
        by_cases e2 : q < j
        · rw [if_pos e2, if_pos (show q < j + 1 by omega)]
        · rw [if_neg e2, if_neg (show ¬ q < j + 1 by omega)]
    rw [e9] at this
    exact this
  · have hj : j = 32 := by omega
    subst hj
    refine vm_go rfl bX4_h2_78 oX4_h2_78 ⟨fun _ => ?_, fun q => absurd (nI_le (a := 32) (b := 32) (by decide) (by decide)) q⟩
    have F : fr h h2 (fun q => q = A 0 ∨ q = A 1 ∨ q = A 4 ∨ q = T) := fr_trans (fr_mono p5 (fun q hq => hq.elim Or.inl (fun z => z.elim (fun z => Or.inr (Or.inl z)) (fun z => Or.inr (Or.inr (Or.inl z)))))) (fr_mono q3 (fun q hq => Or.inr (Or.inr (Or.inr hq))))
    have FA : ∀ q, q ≠ A 0 → q ≠ A 1 → q ≠ A 4 → q ≠ T → h2.2 q = h.2 q := fun q a1 a2 a3 a4 => F.2 q (by rintro (z | z | z | z); exact a1 z; exact a2 z; exact a3 z; exact a4 z)
    refine vm_go rfl bX4_h2_116 oX4_h2_116 ⟨rfl, q2, ⟨(q3.2 H nHT).trans H1, ⟨g, (q3.2 _ nST).trans p2⟩, ⟨w0, (q3.2 _ nWT).trans p3⟩, ⟨f2, (FA _ m0S m0W m04 (by intro z; rw [← z, e2] at gT; cases gT)).trans e2⟩, ⟨f3, (FA _ m1S m1W m14 (by intro z; rw [← z, e3] at gT; cases gT)).trans e3⟩, ⟨bb, fr_bv q3 p4 n4T⟩, ho⟩, F⟩
end
