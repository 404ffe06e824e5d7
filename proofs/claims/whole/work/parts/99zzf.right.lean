/-! the reference: what a right signature is -/
theorem xr1 {x y z : Nat} (h : x ^^^ y = z) : x = y ^^^ z := by rw [← h, Nat.xor_comm x y, ← Nat.xor_assoc, Nat.xor_self, Nat.zero_xor]
theorem xr2 {x y : Nat} : (y ^^^ x) ^^^ y = x := by rw [Nat.xor_comm y x, Nat.xor_assoc, Nat.xor_self, Nat.xor_zero]
theorem xa1 {x k : Nat} : (x &&& k) &&& k = x &&& k := by rw [Nat.and_assoc, Nat.and_self]
theorem kep1 : kep 1 = 0 := by decide
/-- what the reference looks at -/
def sgX (st kk : Nat → Int64) (len t0 : Nat) (O : Nat → Nat) (k : Nat) : Nat := if k = 0 then (O (ahd t0) ^^^ mgb st kk (sl O (len - 49) 48) 0) &&& clr t0 else O (k + ahd t0) ^^^ mgb st kk (sl O (len - 49) 48) k
theorem sg_iff {st kk : Nat → Int64} {len t0 s : Nat} {inp o : List Nat} (hl : 66 ≤ len) (ht : 1 ≤ t0 ∧ t0 < 256) (hs : s = 0 ∨ s = 48 ∧ 100 ≤ len) (lo : o.length = len) (ho : ok8 o) : sgOK st kk len t0 s inp o ↔ (ahd t0 = 1 → gb o 0 = 0) ∧ gb o (len - 1) = 188 ∧ gb o (ahd t0) &&& clr t0 = gb o (ahd t0) ∧ (∀ k, k < len - ahd t0 - 49 - s - 1 → sgX st kk len t0 (gb o) k = 0) ∧ sgX st kk len t0 (gb o) (len - ahd t0 - 49 - s - 1) = 1 ∧ emk st kk inp (sl (sgX st kk len t0 (gb o)) (len - ahd t0 - 49 - s) s) = sl (gb o) (len - 49) 48 := by
  have hah := (lg_f t0 ht.2 ht.1).2.2
  obtain ⟨O, eO⟩ : ∃ O, gb o = O := ⟨_, rfl⟩
  have hO : ∀ j, O j < 256 := fun j => by rw [← eO]; exact ok8_gb ho j
  obtain ⟨ah, eah⟩ : ∃ ah, ahd t0 = ah := ⟨_, rfl⟩
  have c1 : t0 = 1 → ah = 1 ∧ clr t0 = 255 ∧ kep t0 = 0 := fun e => ⟨by rw [← eah]; exact if_pos e, if_pos e, by rw [e]; exact kep1⟩
  have c2 : t0 ≠ 1 → ah = 0 ∧ clr t0 = kep t0 := fun e => ⟨by rw [← eah]; exact if_neg e, if_neg e⟩
  obtain ⟨db, edb⟩ : ∃ db, len - ah - 49 = db := ⟨_, rfl⟩
  have hdb : s + 2 ≤ db ∧ db + ah = len - 49 ∧ db + ah + 49 = len := by omega
  obtain ⟨mk, emk9⟩ : ∃ mk, sl O (len - 49) 48 = mk := ⟨_, rfl⟩
  obtain ⟨M, eM⟩ : ∃ M, mgb st kk mk = M := ⟨_, rfl⟩
  have hM : ∀ j, M j < 256 := fun j => by rw [← eM]; exact mgb_lt
  have eX : ∀ k, sgX st kk len t0 O k = if k = 0 then (O ah ^^^ M 0) &&& clr t0 else O (k + ah) ^^^ M k := fun k => by
    unfold sgX
    rw [eah, emk9, eM]
  obtain ⟨X, eX9⟩ : ∃ X, sgX st kk len t0 O = X := ⟨_, rfl⟩
  rw [eX9] at eX
  have X0 : X 0 = (O ah ^^^ M 0) &&& clr t0 := by rw [eX, if_pos rfl]
  have Xp : ∀ k, 0 < k → X k = O (k + ah) ^^^ M k := fun k hk => by rw [eX, if_neg (by omega)]
  have esalt : sof st kk len t0 s o = sl X (db - s) s := by
    unfold sof
    rw [eO, eah, emk9, eM]
    exact sl_ext (fun j hj => by rw [Nat.zero_add, Xp _ (by omega), show db - s + j + ah = len - 49 - s + j by omega, show len - 49 - s + j - ah = db - s + j by omega])
  obtain ⟨salt, esl⟩ : ∃ salt, sl X (db - s) s = salt := ⟨_, rfl⟩
  have gsalt : ∀ j, j < s → gb salt j = X (db - s + j) := fun j hj => by rw [← esl, gb_sl hj]
  unfold sgOK
  rw [esalt, eO, eX9, eah, edb, emk9, esl]
  obtain ⟨mk', emk'⟩ : ∃ mk', emk st kk inp salt = mk' := ⟨_, rfl⟩
  have lmk' : mk'.length = 48 := by rw [← emk']; exact H3_len
  have lmk : mk.length = 48 := by rw [← emk9, sl_len]
  rw [emk']
  have gmk : ∀ j, j < 48 → gb mk j = O (len - 49 + j) := fun j hj => by rw [← emk9, gb_sl hj]
  have hall : o = EM st kk len t0 s inp salt ↔ ∀ j, j < len → O j = emf st kk mk' len t0 s salt j := by
    have e1 : sl O 0 len = o := by
      have := sl_gb o
      rw [lo, eO] at this
      exact this
    unfold EM
    rw [emk']
    constructor
    · intro h j hj
      rw [← e1] at h
      have := sl_inj h j hj
      rwa [Nat.zero_add] at this
    · intro h
      rw [← e1]
      exact sl_ext (fun j hj => by rw [Nat.zero_add]; exact h j hj)
  rw [hall]
  have P0 : ∀ k, k < db - s - 1 → pdf len s salt (k + ah) = 0 := fun k hk => by
    unfold pdf
    rw [if_neg (by omega), if_neg (by omega)]
  have P1 : pdf len s salt (db - s - 1 + ah) = 1 := by
    unfold pdf
    rw [if_pos (by omega)]
  have P2 : ∀ k, db - s ≤ k → k < db → pdf len s salt (k + ah) = X k := fun k h1 h2 => by
    unfold pdf
    rw [if_neg (by omega), if_pos (by omega), gsalt _ (by omega)]
    congr 1; omega
  constructor
  · intro H
    have em2 : mk' = mk := by
      have e1 : sl (gb mk') 0 48 = mk' := by have := sl_gb mk'; rwa [lmk'] at this
      have e2 : sl (gb mk) 0 48 = mk := by have := sl_gb mk; rwa [lmk] at this
      rw [← e1, ← e2]
      refine sl_ext (fun j hj => ?_)
      rw [Nat.zero_add, gmk j hj, H _ (by omega)]
      unfold emf
      rw [if_neg (by omega), if_pos (by omega), show len - 49 + j - (len - 49) = j by omega]
    have HX : ∀ j, 0 < j → j < len - 49 → O j = M (j - ah) ^^^ pdf len s salt j := fun j h0 hj => by
      rw [H j (by omega)]
      unfold emf emX
      rw [if_pos hj, if_neg (by omega), em2, eM, eah]
    have H0 : O 0 = (M (0 - ah) ^^^ pdf len s salt 0) &&& kep t0 := by
      rw [H 0 (by omega)]
      unfold emf emX
      rw [if_pos (by omega), if_pos rfl, em2, eM, eah]
    have HK : ∀ k, 0 < k → k < db → X k = pdf len s salt (k + ah) := fun k h0 hk => by
      rw [Xp k h0, HX (k + ah) (by omega) (by omega), show k + ah - ah = k by omega, xr2]
    refine ⟨fun e1 => ?_, ?_, ?_, fun k hk => ?_, ?_, em2⟩
    · have : t0 = 1 := by
        rcases Classical.em (t0 = 1) with q | q
        · exact q
        · have := (c2 q).1; omega
      rw [H0, (c1 this).2.2, Nat.and_zero]
    · rw [H _ (by omega)]
      unfold emf
      rw [if_neg (by omega), if_neg (by omega)]
    · rcases Classical.em (t0 = 1) with q | q
      · rw [(c1 q).2.1, and_255 (hO _)]
      · rw [(c2 q).2, (c2 q).1, H0, xa1]
    · rcases Nat.eq_zero_or_pos k with rfl | h0
      · rw [X0]
        rcases Classical.em (t0 = 1) with q | q
        · have p := P0 0 hk
          have x := HX ah (by rw [(c1 q).1]; decide) (by omega)
          rw [Nat.zero_add] at p
          rw [x, p, Nat.xor_zero, Nat.sub_self, Nat.xor_self, Nat.zero_and]
        · have p := P0 0 hk
          rw [(c2 q).1, Nat.zero_add] at p
          rw [(c2 q).2, (c2 q).1, H0, (c2 q).1, p, Nat.xor_zero, Nat.and_xor_distrib_right, xa1, Nat.xor_self]
      · rw [HK k h0 (by omega), P0 k hk]
    · rw [HK _ (by omega) (by omega), P1]
  · rintro ⟨a1, a2, a3, a4, a5, a6⟩ j hj
    have XP : ∀ k, 0 < k → k < db → X k = pdf len s salt (k + ah) := fun k h0 hk => by
      rcases Nat.lt_or_ge k (db - s - 1) with h1 | h1
      · rw [P0 k h1, a4 k h1]
      · rcases Nat.eq_or_lt_of_le h1 with h2 | h2
        · rw [← h2, a5, P1]
        · rw [P2 k (by omega) hk]
    unfold emf emX
    rw [a6, eM, eah]
    by_cases j1 : j < len - 49
    · rw [if_pos j1]
      by_cases j0 : j = 0
      · rw [if_pos j0, j0]
        rcases Classical.em (t0 = 1) with q | q
        · rw [(c1 q).2.2, Nat.and_zero]; exact a1 (c1 q).1
        · have p := P0 0 (by omega)
          have x := a4 0 (by omega)
          rw [(c2 q).1, Nat.zero_add] at p
          rw [X0, (c2 q).1, (c2 q).2, Nat.and_xor_distrib_right] at x
          rw [(c2 q).1, (c2 q).2] at a3
          rw [a3] at x
          rw [(c2 q).1, p, Nat.xor_zero, xr1 x, Nat.xor_zero]
      · rw [if_neg j0]
        rcases Nat.eq_zero_or_pos (j - ah) with h0 | h0
        · have q : t0 = 1 := by
            rcases Classical.em (t0 = 1) with q | q
            · exact q
            · have := (c2 q).1; omega
          have x := a4 0 (by omega)
          have p := P0 0 (by omega)
          have e1 : j = ah := by have := (c1 q).1; omega
          rw [Nat.zero_add] at p
          rw [X0, (c1 q).2.1, and_255 (xor_lt (hO _) (hM _))] at x
          rw [e1, Nat.sub_self, p, Nat.xor_zero, xr1 x, Nat.xor_zero]
        · have x := XP (j - ah) h0 (by omega)
          rw [Xp _ h0, show j - ah + ah = j by omega] at x
          exact xr1 x
    · rw [if_neg j1]
      by_cases j2 : j < len - 1
      · rw [if_pos j2, gmk _ (by omega)]
        congr 1; omega
      · rw [if_neg j2, show j = len - 1 by omega, a2]
