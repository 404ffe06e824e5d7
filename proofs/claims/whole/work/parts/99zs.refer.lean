/-! the reference: all that it works with; element, bytes -/
def bX14_bytesx_0 : List vm_J := [(1, .aload_n 1, 0, 0, 0, .null), (1, .iload_n 2, 0, 0, 0, .null), (1, .iconst 2, 0, 0, 0, .int 2), (1, .aload_n 0, 0, 0, 0, .null), (3, .getfield 130, 13, 1, 0, .null), (1, .iconst 0, 0, 0, 0, .int 0), (1, .iaload, 0, 0, 0, .null), (1, .iconst 1, 0, 0, 0, .int 1), (1, .iand, 0, 0, 0, .null), (1, .iadd, 0, 0, 0, .null), (1, .i2b, 0, 0, 0, .null), (1, .bastore, 0, 0, 0, .null)]
set_option maxRecDepth 20000 in
theorem oX14_bytesx_0 : vm_okB 14 mX14_bytes 0 bX14_bytesx_0 = true := by decide +kernel
def bX14_bytesx_14 : List vm_J := [(1, .aload_n 0, 0, 0, 0, .null), (3, .getfield 123, 13, 0, 0, .null), (1, .aload_n 1, 0, 0, 0, .null), (1, .iload_n 2, 0, 0, 0, .null), (1, .iconst 1, 0, 0, 0, .int 1), (1, .iadd, 0, 0, 0, .null), (2, .bipush 48, 0, 0, 0, .int 48), (3, .invokestatic 192, 156, 4, 0, .null), (1, .return_, 0, 0, 0, .null)]
set_option maxRecDepth 20000 in
theorem oX14_bytesx_14 : vm_okB 14 mX14_bytes 14 bX14_bytesx_14 = true := by decide +kernel
def bX14_elementx_0 : List vm_J := [(1, .aload_n 1, 0, 0, 0, .null), (1, .iload_n 2, 0, 0, 0, .null), (1, .baload, 0, 0, 0, .null), (1, .iconst 2, 0, 0, 0, .int 2), (3, .if_icmp .eq 12, 16, 0, 0, .null), (1, .aload_n 1, 0, 0, 0, .null), (1, .iload_n 2, 0, 0, 0, .null), (1, .baload, 0, 0, 0, .null), (1, .iconst 3, 0, 0, 0, .int 3), (3, .if_icmp .eq 5, 16, 0, 0, .null), (1, .iconst 0, 0, 0, 0, .int 0), (1, .ireturn, 0, 0, 0, .null)]
set_option maxRecDepth 20000 in
theorem oX14_elementx_0 : vm_okB 14 mX14_element 0 bX14_elementx_0 = true := by decide +kernel
def bX14_elementx_16 : List vm_J := [(1, .aload_n 1, 0, 0, 0, .null), (1, .iload_n 2, 0, 0, 0, .null), (1, .iconst 1, 0, 0, 0, .int 1), (1, .iadd, 0, 0, 0, .null), (2, .bipush 48, 0, 0, 0, .int 48), (1, .aload_n 3, 0, 0, 0, .null), (3, .getfield 123, 13, 0, 0, .null), (2, .bipush 12, 0, 0, 0, .int 12), (3, .invokestatic 176, 155, 5, 0, .null), (1, .aload_n 3, 0, 0, 0, .null), (3, .getfield 123, 13, 0, 0, .null), (3, .getstatic 173, 6, 0, 0, .null), (2, .bipush 12, 0, 0, 0, .int 12), (3, .invokestatic 26, 139, 3, 0, .null), (3, .ifCond .lt 5, 48, 0, 0, .null), (1, .iconst 0, 0, 0, 0, .int 0), (1, .ireturn, 0, 0, 0, .null)]
set_option maxRecDepth 20000 in
theorem oX14_elementx_16 : vm_okB 14 mX14_element 16 bX14_elementx_16 = true := by decide +kernel
def bX14_elementx_48 : List vm_J := [(1, .aload_n 0, 0, 0, 0, .null), (1, .aload_n 3, 0, 0, 0, .null), (3, .getfield 123, 13, 0, 0, .null), (1, .aload_n 0, 0, 0, 0, .null), (3, .getfield 139, 14, 13, 0, .null), (3, .invokevirtual 180, 159, 2, 14, .null), (1, .aload_n 0, 0, 0, 0, .null), (1, .aload_n 0, 0, 0, 0, .null), (3, .getfield 139, 14, 13, 0, .null), (1, .aload_n 3, 0, 0, 0, .null), (3, .getfield 130, 13, 1, 0, .null), (3, .invokevirtual 184, 160, 2, 14, .null), (3, .ifCond .ne 5, 77, 0, 0, .null), (1, .iconst 0, 0, 0, 0, .int 0), (1, .ireturn, 0, 0, 0, .null)]
set_option maxRecDepth 20000 in
theorem oX14_elementx_48 : vm_okB 14 mX14_element 48 bX14_elementx_48 = true := by decide +kernel
def bX14_elementx_77 : List vm_J := [(1, .aload_n 3, 0, 0, 0, .null), (1, .iconst 0, 0, 0, 0, .int 0), (3, .putfield 113, 13, 2, 2, .null)]
set_option maxRecDepth 20000 in
theorem oX14_elementx_77 : vm_okB 14 mX14_element 77 bX14_elementx_77 = true := by decide +kernel
def bX14_elementx_82 : List vm_J := [(1, .aload_n 3, 0, 0, 0, .null), (3, .getfield 130, 13, 1, 0, .null), (2, .bipush 12, 0, 0, 0, .int 12), (3, .invokestatic 99, 140, 2, 0, .null), (3, .ifCond .eq 16, 107, 0, 0, .null), (1, .aload_n 1, 0, 0, 0, .null), (1, .iload_n 2, 0, 0, 0, .null), (1, .baload, 0, 0, 0, .null), (1, .iconst 2, 0, 0, 0, .int 2), (3, .if_icmp .ne 7, 105, 0, 0, .null), (1, .iconst 1, 0, 0, 0, .int 1), (3, .goto 4, 106, 0, 0, .null)]
set_option maxRecDepth 20000 in
theorem oX14_elementx_82 : vm_okB 14 mX14_element 82 bX14_elementx_82 = true := by decide +kernel
def bX14_elementx_105 : List vm_J := [(1, .iconst 0, 0, 0, 0, .int 0)]
set_option maxRecDepth 20000 in
theorem oX14_elementx_105 : vm_okB 14 mX14_element 105 bX14_elementx_105 = true := by decide +kernel
def bX14_elementx_106 : List vm_J := [(1, .ireturn, 0, 0, 0, .null)]
set_option maxRecDepth 20000 in
theorem oX14_elementx_106 : vm_okB 14 mX14_element 106 bX14_elementx_106 = true := by decide +kernel
def bX14_elementx_107 : List vm_J := [(1, .aload_n 3, 0, 0, 0, .null), (3, .getfield 130, 13, 1, 0, .null), (1, .iconst 0, 0, 0, 0, .int 0), (1, .iaload, 0, 0, 0, .null), (1, .iconst 1, 0, 0, 0, .int 1), (1, .iand, 0, 0, 0, .null), (1, .aload_n 1, 0, 0, 0, .null), (1, .iload_n 2, 0, 0, 0, .null), (1, .baload, 0, 0, 0, .null), (1, .iconst 2, 0, 0, 0, .int 2), (1, .isub, 0, 0, 0, .null), (3, .if_icmp .eq 10, 130, 0, 0, .null), (1, .aload_n 3, 0, 0, 0, .null), (3, .getfield 130, 13, 1, 0, .null), (3, .invokestatic 188, 161, 1, 0, .null)]
set_option maxRecDepth 20000 in
theorem oX14_elementx_107 : vm_okB 14 mX14_element 107 bX14_elementx_107 = true := by decide +kernel
def bX14_elementx_130 : List vm_J := [(1, .iconst 1, 0, 0, 0, .int 1), (1, .ireturn, 0, 0, 0, .null)]
set_option maxRecDepth 20000 in
theorem oX14_elementx_130 : vm_okB 14 mX14_element 130 bX14_elementx_130 = true := by decide +kernel
def ZI (i : Nat) : Prop := (1 ≤ i ∧ i ≤ 7) ∨ (23 ≤ i ∧ i ≤ 25) ∨ i = 27 ∨ i = 30 ∨ i = 31 ∨ (42 ≤ i ∧ i ≤ 45) ∨ i = 48 ∨ i = 49 ∨ (69 ≤ i ∧ i ≤ 72) ∨ (158 ≤ i ∧ i ≤ 162) ∨ i = 166
def zi (i : Nat) : Nat := if i = 1 then 130 else if i ≤ 7 then 64 else if i = 30 then 8 else if i = 31 then 64 else if 158 ≤ i ∧ i ≤ 160 then 64 else if i = 161 then 1 else if i = 162 then 5 else 12
def ZB (i : Nat) : Prop := i = 28 ∨ i = 29 ∨ (34 ≤ i ∧ i ≤ 38) ∨ i = 67 ∨ i = 68 ∨ (155 ≤ i ∧ i ≤ 157) ∨ i = 167
def zb (i : Nat) : Nat := if i = 28 then 2600 else if i = 34 then 700 else if i = 38 then 144 else if i = 68 then 49 else if i = 155 then 260 else if i = 156 then 260 else if i = 167 then 384 else 48
def ZP (s : Nat) : Prop := s = 17 ∨ s = 20 ∨ s = 39 ∨ s = 52 ∨ s = 55 ∨ s = 58 ∨ s = 61 ∨ s = 64 ∨ s = 163 ∨ (168 ≤ s ∧ s < 216 ∧ s % 3 = 0)
def bx9 (h : vm_H) (L q : Nat) : Prop := ∃ c, bv h L q c
def lw (h : vm_H) (L q : Nat) : Prop := ∃ f : Nat → Int64, h.2 q = .inl (.long, L, .inr (.inl f))
theorem bx9_cg {h h' : vm_H} {L q : Nat} (k : bx9 h L q) (e : h'.2 q = h.2 q) : bx9 h' L q := by
  obtain ⟨c, k⟩ := k
  exact ⟨c, bv_cg k e⟩
theorem lw_cg {h h' : vm_H} {L q : Nat} (k : lw h L q) (e : h'.2 q = h.2 q) : lw h' L q := by
  obtain ⟨c, k⟩ := k
  exact ⟨c, e.trans k⟩
/-- the tables of the hashes -/
abbrev KT : Type := (Nat → Int32) × (Nat → Int32) × (Nat → Int64) × (Nat → Int64)
def wHG : List Nat := [72, 97, 115, 104, 84, 111, 71, 114, 111, 117, 112, 45]
def wHS : List Nat := [72, 97, 115, 104, 84, 111, 83, 99, 97, 108, 97, 114, 45]
def wSD : List Nat := [83, 101, 101, 100, 45]
def wOP : List Nat := [79, 80, 82, 70, 86, 49, 45]
def wPS : List Nat := [45, 80, 51, 56, 52, 45, 83, 72, 65, 51, 56, 52]
/-- the words -/
def RW (h : vm_H) : Prop := sto h 1099511627836 wHG.length (gb wHG) ∧ sto h 1099511627844 wHS.length (gb wHS) ∧ sto h 1099511627842 wSD.length (gb wSD) ∧ sto h 1099511627838 wOP.length (gb wOP) ∧ sto h 1099511627840 wPS.length (gb wPS) ∧ sto h 1099511627820 tCo.length (gb tCo) ∧ sto h 1099511627824 tCh.length (gb tCh) ∧ sto h 1099511627826 tFi.length (gb tFi)
def RT (h : vm_H) (t : KT) : Prop := RW h ∧ h.2 1099511627780 = .inl (.int, 8, .inl t.1) ∧ h.2 1099511627781 = .inl (.int, 64, .inl t.2.1) ∧ h.2 1099511627782 = .inl (.long, 8, .inr (.inl t.2.2.1)) ∧ h.2 1099511627783 = .inl (.long, 80, .inr (.inl t.2.2.2))
/-- what never changes -/
def RC (h : vm_H) (a : Nat) : Prop := MH h (a + 8) (a + 9) (a + 10) 12 (cPm + 1) 0 ∧ MH h (a + 11) (a + 12) (a + 13) 12 cQ 0 ∧ SP h (a + 14) gP ∧ wv h 12 (a + 26) 12 rE9 ∧ wq h (a + 46) (-3) ∧ wq h (a + 47) (-12) ∧ (∃ f : Nat → Option Nat, h.2 (a + 50) = .inl (.object "VeilMintModel$Spot", 8, .inr (.inr (.inr (.inr f)))) ∧ ∀ k, k < 8 → f k = some (a + 168 + 6 * k)) ∧ (∃ f : Nat → Option Nat, h.2 (a + 51) = .inl (.object "VeilMintModel$Spot", 8, .inr (.inr (.inr (.inr f)))) ∧ ∀ k, k < 8 → f k = some (a + 171 + 6 * k))
/-- what the reference works with -/
def RK (h : vm_H) (a : Nat) (t : KT) (g : Nat → Int32) : Prop := h.2 a = RO a g ∧ a + 300 < 1099511627776 ∧ (RV h ∧ RT h t) ∧ RC h a ∧ (∀ i, ZI i → iw h (zi i) (a + i)) ∧ (∀ i, ZB i → bx9 h (zb i) (a + i)) ∧ (lw h 8 (a + 32) ∧ lw h 80 (a + 33)) ∧ (∀ s, ZP s → SQ h (a + s))
/-- a cell is as it has to be -/
def GD (h : vm_H) (a q : Nat) : Prop := ∃ i, q = a + i ∧ ((ZI i ∧ iw h (zi i) q) ∨ (ZB i ∧ bx9 h (zb i) q) ∨ (i = 32 ∧ lw h 8 q) ∨ (i = 33 ∧ lw h 80 q) ∨ (ZP i ∧ ∃ b, h.2 q = SPo q b) ∨ (∃ s, ZP s ∧ (i = s + 1 ∨ i = s + 2) ∧ iw h 12 q))
theorem MH_cg3 {h h' : vm_H} {M mm hg n N sh : Nat} {S : Nat → Prop} (k : MH h M mm hg n N sh) (F : fr h h' S) (e : ¬ S M ∧ ¬ S mm ∧ ¬ S hg) : MH h' M mm hg n N sh := by
  obtain ⟨⟨k1, k2, k3⟩, k4, k5⟩ := k
  exact ⟨⟨(F.2 _ e.1).trans k1, wv_cg k2 (F.2 _ e.2.1), k3⟩, wv_cg k4 (F.2 _ e.2.2), k5⟩
theorem GD_no {h : vm_H} {a i : Nat} (k : GD h a (a + i)) : ZI i ∨ ZB i ∨ i = 32 ∨ i = 33 ∨ ZP i ∨ ∃ s, ZP s ∧ (i = s + 1 ∨ i = s + 2) := by
  obtain ⟨j, e, k⟩ := k
  have e : j = i := by omega
  subst e
  rcases k with k | k | k | k | k | ⟨s, k1, k2, _⟩
  · exact .inl k.1
  · exact .inr (.inl k.1)
  · exact .inr (.inr (.inl k.1))
  · exact .inr (.inr (.inr (.inl k.1)))
  · exact .inr (.inr (.inr (.inr (.inl k.1))))
  · exact .inr (.inr (.inr (.inr (.inr ⟨s, k1, k2⟩))))
theorem GD_i {h : vm_H} {a i : Nat} (z : ZI i) (k : iw h (zi i) (a + i)) : GD h a (a + i) := ⟨i, rfl, .inl ⟨z, k⟩⟩
theorem GD_b {h : vm_H} {a i : Nat} (z : ZB i) (k : bx9 h (zb i) (a + i)) : GD h a (a + i) := ⟨i, rfl, .inr (.inl ⟨z, k⟩)⟩
theorem GD_p {h : vm_H} {a s q : Nat} (z : ZP s) (k : SQ h (a + s)) (h1 : a + s ≤ q) (h2 : q ≤ a + s + 2) : GD h a q := by
  obtain ⟨k1, k2, k3⟩ := k
  rcases (show q = a + s ∨ q = a + (s + 1) ∨ q = a + (s + 2) by omega) with rfl | rfl | rfl
  · exact ⟨s, rfl, .inr (.inr (.inr (.inr (.inl ⟨z, k1⟩))))⟩
  · exact ⟨s + 1, rfl, .inr (.inr (.inr (.inr (.inr ⟨s, z, .inl rfl, k2⟩))))⟩
  · exact ⟨s + 2, rfl, .inr (.inr (.inr (.inr (.inr ⟨s, z, .inr rfl, k3⟩))))⟩
theorem zi_jl {a i : Nat} (z : JW a (a + i)) : zi i = jl a (a + i) ∧ ZI i := by
  unfold JW at z
  unfold zi jl ZI
  refine ⟨?_, by omega⟩
  by_cases h1 : i = 1
  · rw [if_pos h1, if_pos (by omega)]
  · rw [if_neg h1, if_neg (show ¬ a + i = a + 1 by omega)]
    by_cases h7 : i ≤ 7
    · rw [if_pos h7, if_pos (show a + i ≤ a + 7 by omega)]
    · rw [if_neg h7, if_neg (show ¬ i = 30 by omega), if_neg (show ¬ i = 31 by omega), if_neg (show ¬ (158 ≤ i ∧ i ≤ 160) by omega), if_neg (show ¬ i = 161 by omega), if_neg (show ¬ i = 162 by omega), if_neg (show ¬ a + i ≤ a + 7 by omega)]
theorem GD_cu {h : vm_H} {a q : Nat} {g : Nat → Int32} (k : CU h a g) (z : JW a q) : GD h a q := by
  obtain ⟨i, rfl⟩ : ∃ i, q = a + i := ⟨q - a, by unfold JW at z; omega⟩
  have e := zi_jl z
  exact GD_i e.2 (by rw [e.1]; exact k.2.2.1 _ z)
theorem RK_of {h h' : vm_H} {a : Nat} {t : KT} {g g' : Nat → Int32} {S : Nat → Prop} (k : RK h a t g) (F : fr h h' S) (ho : h'.2 a = RO a g') (hS : ∀ q, S q → q = a ∨ GD h' a q) : RK h' a t g' := by
  obtain ⟨k1, k2, ⟨kv, kt⟩, ⟨c1, c2, c3, c4, c5, c6, c7, c8⟩, k5, k6, ⟨k7, k8⟩, k9⟩ := k
  have no : ∀ i, 0 < i → ¬ (ZI i ∨ ZB i ∨ i = 32 ∨ i = 33 ∨ ZP i ∨ ∃ s, ZP s ∧ (i = s + 1 ∨ i = s + 2)) → ¬ S (a + i) := fun i hi n z => by
    rcases hS _ z with e | e
    · omega
    · exact n (GD_no e)
  have nc : ∀ i, ((8 ≤ i ∧ i ≤ 16) ∨ i = 26 ∨ i = 46 ∨ i = 47 ∨ i = 50 ∨ i = 51 ∨ 300 ≤ i) → ¬ S (a + i) := fun i hi => no i (by omega) (by
    rintro (z | z | z | z | z | ⟨s, z, y⟩)
    · unfold ZI at z; omega
    · unfold ZB at z; omega
    · omega
    · omega
    · unfold ZP at z; omega
    · unfold ZP at z; omega)
  have nO : ∀ q, 1099511627776 ≤ q → ¬ S q := fun q hq => by
    obtain ⟨i, rfl⟩ : ∃ i, q = a + i := ⟨q - a, by omega⟩
    exact nc i (by omega)
  refine ⟨ho, k2, ⟨RV_fr kv F (fun q z => ?_), ?_⟩, ⟨MH_cg3 c1 F ⟨nc 8 (by decide), nc 9 (by decide), nc 10 (by decide)⟩, MH_cg3 c2 F ⟨nc 11 (by decide), nc 12 (by decide), nc 13 (by decide)⟩, SP_fr c3 F (fun q h1 h2 => ?_), wv_cg c4 (F.2 _ (nc 26 (by decide))), wq_cg c5 (F.2 _ (nc 46 (by decide))), wq_cg c6 (F.2 _ (nc 47 (by decide))), ?_, ?_⟩, fun i hi => ?_, fun i hi => ?_, ⟨?_, ?_⟩, fun s hs => ?_⟩
  · rcases Nat.lt_or_ge q 1099511627776 with w | w
    · exact w
    · exact absurd z (nO q w)
  · have oo : ∀ q, 1099511627776 ≤ q → h'.2 q = h.2 q := fun q hq => F.2 _ (nO _ hq)
    obtain ⟨⟨w1, w2, w3, w4, w5, w6, w7, w8⟩, t1, t2, t3, t4⟩ := kt
    exact ⟨⟨sto_fr w1 oo, sto_fr w2 oo, sto_fr w3 oo, sto_fr w4 oo, sto_fr w5 oo, sto_fr w6 oo, sto_fr w7 oo, sto_fr w8 oo⟩, (oo _ (by decide)).trans t1, (oo _ (by decide)).trans t2, (oo _ (by decide)).trans t3, (oo _ (by decide)).trans t4⟩
  · obtain ⟨i, rfl⟩ : ∃ i, q = a + i := ⟨q - a, by omega⟩
    exact nc i (by omega)
  · obtain ⟨f, e, v⟩ := c7
    exact ⟨f, (F.2 _ (nc 50 (by decide))).trans e, v⟩
  · obtain ⟨f, e, v⟩ := c8
    exact ⟨f, (F.2 _ (nc 51 (by decide))).trans e, v⟩
  · by_cases z : S (a + i)
    · rcases hS _ z with e | ⟨j, e, y⟩
      · unfold ZI at hi; omega
      · have e : j = i := by omega
        subst e
        rcases y with y | y | y | y | y | ⟨s, y, y2, _⟩
        · exact y.2
        · have := y.1; unfold ZB at this; unfold ZI at hi; omega
        · unfold ZI at hi; omega
        · unfold ZI at hi; omega
        · have := y.1; unfold ZP at this; unfold ZI at hi; omega
        · unfold ZP at y; unfold ZI at hi; omega
    · exact iw_cg (k5 i hi) (F.2 _ z)
  · by_cases z : S (a + i)
    · rcases hS _ z with e | ⟨j, e, y⟩
      · unfold ZB at hi; omega
      · have e : j = i := by omega
        subst e
        rcases y with y | y | y | y | y | ⟨s, y, y2, _⟩
        · have := y.1; unfold ZI at this; unfold ZB at hi; omega
        · exact y.2
        · unfold ZB at hi; omega
        · unfold ZB at hi; omega
        · have := y.1; unfold ZP at this; unfold ZB at hi; omega
        · unfold ZP at y; unfold ZB at hi; omega
    · exact bx9_cg (k6 i hi) (F.2 _ z)
  · by_cases z : S (a + 32)
    · rcases hS _ z with e | ⟨j, e, y⟩
      · omega
      · have e : j = 32 := by omega
        subst e
        rcases y with y | y | y | y | y | ⟨s, y, y2, _⟩
        · have := y.1; unfold ZI at this; omega
        · have := y.1; unfold ZB at this; omega
        · exact y.2
        · omega
        · have := y.1; unfold ZP at this; omega
        · unfold ZP at y; omega
    · exact lw_cg k7 (F.2 _ z)
  · by_cases z : S (a + 33)
    · rcases hS _ z with e | ⟨j, e, y⟩
      · omega
      · have e : j = 33 := by omega
        subst e
        rcases y with y | y | y | y | y | ⟨s, y, y2, _⟩
        · have := y.1; unfold ZI at this; omega
        · have := y.1; unfold ZB at this; omega
        · omega
        · exact y.2
        · have := y.1; unfold ZP at this; omega
        · unfold ZP at y; omega
    · exact lw_cg k8 (F.2 _ z)
  · obtain ⟨⟨b, q1⟩, q2, q3⟩ := k9 s hs
    have rw9 : ∀ j, (j = 1 ∨ j = 2) → iw h 12 (a + s + j) → iw h' 12 (a + s + j) := fun j hj q2 => by
      rw [Nat.add_assoc] at q2 ⊢
      by_cases z : S (a + (s + j))
      · rcases hS _ z with e | ⟨i, e, y⟩
        · omega
        · have e : i = s + j := by omega
          subst e
          rcases y with y | y | y | y | y | ⟨s', y, y2, y3⟩
          · have := y.1; unfold ZI at this; unfold ZP at hs; omega
          · have := y.1; unfold ZB at this; unfold ZP at hs; omega
          · unfold ZP at hs; omega
          · unfold ZP at hs; omega
          · have := y.1; unfold ZP at this; unfold ZP at hs; omega
          · exact y3
      · exact iw_cg q2 (F.2 _ z)
    refine ⟨?_, rw9 1 (.inl rfl) q2, rw9 2 (.inr rfl) q3⟩
    by_cases z : S (a + s)
    · rcases hS _ z with e | ⟨i, e, y⟩
      · unfold ZP at hs; omega
      · have e : i = s := by omega
        subst e
        rcases y with y | y | y | y | y | ⟨s', y, y2, y3⟩
        · have := y.1; unfold ZI at this; unfold ZP at hs; omega
        · have := y.1; unfold ZB at this; unfold ZP at hs; omega
        · unfold ZP at hs; omega
        · unfold ZP at hs; omega
        · exact y.2
        · unfold ZP at y; unfold ZP at hs; omega
    · exact ⟨b, (F.2 _ z).trans q1⟩
theorem RK_cu {h : vm_H} {a : Nat} {t : KT} {g : Nat → Int32} (k : RK h a t g) : CU h a g := by
  refine ⟨k.1, k.2.2.2.1.1, fun q z => ?_, k.2.1⟩
  obtain ⟨i, rfl⟩ : ∃ i, q = a + i := ⟨q - a, by unfold JW at z; omega⟩
  have e := zi_jl z
  rw [← e.1]
  exact k.2.2.2.2.1 i e.2
theorem RK_12 {h : vm_H} {a i : Nat} {t : KT} {g : Nat → Int32} (k : RK h a t g) (z : ZI i) (e : zi i = 12) : iw h 12 (a + i) := by
  rw [← e]; exact k.2.2.2.2.1 i z
theorem RK_64 {h : vm_H} {a i : Nat} {t : KT} {g : Nat → Int32} (k : RK h a t g) (z : ZI i) (e : zi i = 64) : iw h 64 (a + i) := by
  rw [← e]; exact k.2.2.2.2.1 i z
theorem RK_p {h : vm_H} {a s : Nat} {t : KT} {g : Nat → Int32} (k : RK h a t g) (z : ZP s) : SQ h (a + s) := k.2.2.2.2.2.2.2 s z
theorem RK_cv {h : vm_H} {a : Nat} {t : KT} {g : Nat → Int32} (k : RK h a t g) : CV h a g := ⟨RK_cu k, k.2.2.1.1, RK_12 k (by unfold ZI; omega) rfl, k.2.2.2.1.2.2.2.1⟩
theorem GD_cv {h : vm_H} {a q : Nat} {g : Nat → Int32} (k : CV h a g) (z : JV a q) : GD h a q := by
  rcases z with z | rfl
  · exact GD_cu k.1 z
  · exact GD_i (by unfold ZI; omega) k.2.2.1
theorem okP {a s : Nat} (z : ZP s) (ao : a + 300 < 1099511627776) : okS a (a + s) := by
  unfold ZP at z
  exact ⟨by omega, by omega, by omega⟩
theorem wv_z {h : vm_H} {L p n X : Nat} {f : Nat → Int32} (hb : X < 4294967296 ^ n) (vf : ∀ k, k < n → f k = nI (dw X k)) : (∀ k, k < n → f k = 0) ↔ X = 0 := by
  constructor
  · intro y
    refine dw_eq (n := n) hb (Nat.pow_pos (by decide)) (fun k hk => ?_)
    have := y k hk
    rw [vf k hk] at this
    rw [nI_inj (dw_lt _ _) (by decide) (show nI (dw X k) = nI 0 from this)]
    unfold dw
    rw [Nat.zero_div]
  · intro y k hk
    rw [vf k hk, y]
    unfold dw
    rw [Nat.zero_div]
    rfl
section
variable {l : Launch} {O : Nat → vm_Ob} {f9 : Value} {h : vm_H}
theorem rm_zw {L p n X : Nat} (hX : wv h L p n X) (hL : n ≤ L) (hn : n < 65536) (hb : X < 4294967296 ^ n) : vm_Met (vm_env l O f9) mX14_isZero 0 0 [.ref p, .int (nI n)] h (fun r h' => (∃ ok : Bool, r = some (.int (bi ok)) ∧ (ok = true ↔ X = 0)) ∧ h' = h) := by
  obtain ⟨f, ef, vf⟩ := hX
  refine vm_metP (rm_zero ef hL hn) ?_
  rintro r h' ⟨⟨ok, e1, e2⟩, e3⟩
  exact ⟨⟨ok, e1, e2.trans (wv_z (h := h) (L := L) (p := p) hb vf)⟩, e3⟩
theorem w_odd {L p n X : Nat} (hX : wv h L p n X) (hn : 0 < n) : ∃ f, ia h L p f ∧ f 0 &&& 1 = nI (X % 2) := by
  obtain ⟨f, ef, vf⟩ := hX
  refine ⟨f, ef, ?_⟩
  rw [vf 0 hn, nI_par]
  congr 1
  unfold dw
  rw [Nat.pow_zero, Nat.div_one]
  omega
theorem rm_bytes {s nt b at9 : Nat} {p : fq × fq} {c : Nat → Nat} (k : SP h s (some p)) (hb : bv h nt b c) (hbo : b < 1099511627776) (hat : at9 + 49 ≤ nt) (hnt : nt < 65536) : vm_Met (vm_env l O f9) mX14_bytes 0 0 [.ref s, .ref b, .int (nI at9)] h (fun r h' => r = none ∧ (∃ c', bv h' nt b c' ∧ sl c' at9 49 = ptb p ∧ ∀ j, j < at9 ∨ at9 + 49 ≤ j → c' j = c j) ∧ fr h h' (fun q => q = b)) := by
  obtain ⟨k1, k2, k3⟩ := k
  obtain ⟨f, ef, ev⟩ := w_odd k3 (by decide)
  obtain ⟨f2, ef2, vf2⟩ := id hb
  have sbn : b ≠ s := fun e => by rw [e, show h.2 s = _ from k1] at ef2; cases ef2
  have sb1 : b ≠ s + 1 := fun e => by
    obtain ⟨f3, e3, _⟩ := k2
    rw [e, show h.2 (s + 1) = _ from e3] at ef2; cases ef2
  refine vm_met rfl (Nat.le_of_ble_eq_true rfl) ?_
  refine vm_go rfl bX14_bytesx_0 oX14_bytesx_0 ⟨_, _, k1, rfl, ⟨12, f, ef, 0, rfl, by decide, fun _ => ⟨nt, _, ef2, hbo, at9, rfl, by omega, ?_⟩⟩⟩
  have e2 : ((2 : Int32) + (f 0 &&& 1)).toInt8.toInt32.toInt8.toInt32 = sb (2 + p.2.val % 2) := by
    rw [ev]
    rcases (show p.2.val % 2 = 0 ∨ p.2.val % 2 = 1 by omega) with e | e <;> rw [e] <;> decide
  obtain ⟨h1, eh1⟩ : ∃ h1, h1 = vm_up h b (.inl (.byte, nt, .inl (upd f2 at9 (sb (2 + p.2.val % 2))))) := ⟨_, rfl⟩
  have F1 : fr h h1 (fun q => q = b) := eh1 ▸ fr_up rfl
  have hb1 : bv h1 nt b (b1 c at9 (2 + p.2.val % 2)) := eh1 ▸ bv_up vf2 (by omega)
  refine vm_Th (lv' := [(0, .ref s), (1, .ref b), (2, .int (nI at9))]) (h' := h1) rfl (by rw [eh1, ← e2]; rfl) ?_
  refine vm_go rfl bX14_bytesx_14 oX14_bytesx_14 ⟨_, _, (F1.2 s (fun e => sbn e.symm)).trans k1, rfl, ⟨0, 0, _, vm_metA (rm_store (at9 := at9 + 1) (size := 48) (wv_cg k2 (F1.2 (s + 1) (fun e => sb1 e.symm))) (by decide) hb1 hbo (by decide) (by decide) (by omega) hnt) (by rw [← nI_1]; rfl), Nat.zero_le _, Nat.zero_le _, ?_⟩⟩
  rintro _ h2 ⟨rfl, ⟨c', e1, e3, e4⟩, F2⟩
  refine ⟨rfl, ⟨c', e1, ?_, fun j hj => ?_⟩, fr_trans F1 F2⟩
  · rw [show (49 : Nat) = 1 + 48 from rfl, sl_app, sl_1, e3, e4 at9 (by omega)]
    unfold b1
    rw [if_pos rfl]; rfl
  · rw [e4 j (by omega)]
    unfold b1
    rw [if_neg (by omega)]

theorem rm_element {a s nt b at9 : Nat} {t : KT} {g : Nat → Int32} {c : Nat → Nat} (k : RK h a t g) (z : ZP s) (hs : 20 < s) (hb : bv h nt b c) (hat : at9 + 49 ≤ nt) (hnt : nt < 65536) (hbn : ∀ q, JV a q ∨ (a + s ≤ q ∧ q ≤ a + s + 2) → b ≠ q) : vm_Met (vm_env l O f9) mX14_element 0 0 [.ref a, .ref b, .int (nI at9), .ref (a + s)] h (fun r h' => (∃ ok : Bool, r = some (.int (bi ok)) ∧ (ok = true ↔ elL (sl c at9 49) ≠ none) ∧ (ok = true → SP h' (a + s) (elL (sl c at9 49)))) ∧ RK h' a t g ∧ fr h h' (fun q => JV a q ∨ (a + s ≤ q ∧ q ≤ a + s + 2))) := by
  obtain ⟨f, ef, vf⟩ := id hb
  have vs := vf at9 (by omega)
  have ao := k.2.1
  have zs : s + 2 < 300 ∧ s ≠ 22 ∧ s ≠ 23 ∧ s ≠ 24 ∧ s ≠ 25 ∧ s ≠ 26 ∧ s ≠ 27 ∧ s ≠ 21 := by unfold ZP at z; omega
  suffices H : ∀ Q : Option Value → vm_H → Prop, (∀ (ok : Bool) (h' : vm_H), (ok = true ↔ elL (sl c at9 49) ≠ none) → (ok = true → SP h' (a + s) (elL (sl c at9 49))) → RK h' a t g → fr h h' (fun q => JV a q ∨ (a + s ≤ q ∧ q ≤ a + s + 2)) → Q (some (.int (bi ok))) h') → vm_Met (vm_env l O f9) mX14_element 0 0 [.ref a, .ref b, .int (nI at9), .ref (a + s)] h Q from H _ (fun ok h' a1 a2 a3 a4 => ⟨⟨ok, rfl, a1, a2⟩, a3, a4⟩)
  intro Q hQ
  have bad : ∀ h', (∀ y, ¬ EL c at9 y) → RK h' a t g → fr h h' (fun q => JV a q ∨ (a + s ≤ q ∧ q ≤ a + s + 2)) → Q (some (.int 0)) h' := fun h' n k' F' => hQ false h' ⟨fun y => (nomatch y), fun y => absurd (elL_none n) y⟩ (fun y => (nomatch y)) k' F'
  have e23 : ∀ x : Nat, x < 128 → (f at9 = nI x ↔ c at9 = x) := fun x hx => by rw [vs.1]; exact sb_eq _ vs.2 x hx
  have main : (c at9 = 2 ∨ c at9 = 3) → vm_T (vm_env l O f9) mX14_element 0 0 16 [(0, .ref a), (1, .ref b), (2, .int (nI at9)), (3, .ref (a + s))] [] h Q := by
    intro hsg
    obtain ⟨⟨fl, q1⟩, q2, q3⟩ := RK_p k z
    obtain ⟨fx, ex⟩ := id q2
    refine vm_go rfl bX14_element_16 oX14_element_16 ⟨_, _, q1, rfl, ⟨0, 0, _, vm_metA (rm_load (at9 := at9 + 1) (size := 48) (n := 12) hb (by omega) hnt ex (by omega) (by decide) (by decide) (by decide)) (by rw [← nI_1]; rfl), Nat.zero_le _, Nat.zero_le _, ?_⟩⟩
    rintro _ h1 ⟨rfl, w1, F1⟩
    have r1 := (F1.2 (a + s) (by omega)).trans q1
    have sq1 : SQ h1 (a + s) := ⟨⟨fl, r1⟩, wv_iw w1, iw_cg q3 (F1.2 _ (by omega))⟩
    have k1 : RK h1 a t g := RK_of k F1 ((F1.2 a (by omega)).trans k.1) (fun q y => .inr (GD_p z sq1 (by omega) (by omega)))
    have F1' : fr h h1 (fun q => JV a q ∨ (a + s ≤ q ∧ q ≤ a + s + 2)) := fr_mono F1 (fun q y => by omega)
    have hxl : bn c (at9 + 1) 48 < 4294967296 ^ 12 := Nat.lt_of_lt_of_le (bn_lt 48 (fun j _ hj => (vf j (by omega)).2)) (by decide +kernel)
    refine ⟨_, _, r1, rfl, ⟨_, rfl, ⟨0, 0, _, rm_cmp w1 k1.2.2.1.1.2.1 (by decide) (by decide) (by decide) hxl (by decide +kernel), Nat.zero_le _, Nat.zero_le _, ?_⟩⟩⟩
    rintro r h2 ⟨hz, e2⟩
    rw [e2]; clear e2 h2
    obtain ⟨u, rfl, _, hu, _⟩ := cmp_0 hz
    by_cases hxP : bn c (at9 + 1) 48 < cPm + 1
    case neg =>
      exact ⟨fun y => absurd (hu.mp y) hxP, fun _ => ⟨rfl, bad h1 (fun y w => hxP w.2.1) k1 F1'⟩⟩
    refine ⟨fun _ => ?_, fun y => absurd (hu.mpr hxP) y⟩
    have wx : wq h1 (a + s + 1) (fz (bn c (at9 + 1) 48 : Int)) := by
      have e : (fz (bn c (at9 + 1) 48 : Int)).val = bn c (at9 + 1) 48 := by
        have h1 := fz_v (bn c (at9 + 1) 48 : Int)
        rw [Int.emod_eq_of_lt (by omega) (by omega)] at h1
        omega
      unfold wq
      rw [e]; exact w1
    obtain ⟨x, hx⟩ : ∃ x, fz (bn c (at9 + 1) 48 : Int) = x := ⟨_, rfl⟩
    rw [hx] at wx
    refine vm_go rfl bX14_element_48 oX14_element_48 ⟨_, _, r1, rfl, ⟨_, _, k1.1, rfl, ⟨_, k1.1, 0, 0, _, cq_curve (RK_cu k1) k1.2.2.1.1 wx (RK_12 k1 (i := 23) (by unfold ZI; omega) rfl) ⟨by omega, by omega⟩ (by omega) (by omega) (by omega) (by omega), Nat.zero_le _, Nat.zero_le _, ?_⟩⟩⟩
    rintro _ h2 ⟨rfl, k2, w2, F2⟩
    have k2' : RK h2 a t g := RK_of k1 F2 k2.1 (fun q y => .inr (GD_cu k2 (by unfold JW at *; omega)))
    have F2 : fr h1 h2 (fun q => JV a q) := fr_mono F2 (fun q y => by unfold JV JW at *; omega)
    have r2 := (F2.2 (a + s) (by unfold JV JW; omega)).trans r1
    have wx2 := wq_cg wx (F2.2 (a + s + 1) (by unfold JV JW; omega))
    have qy2 := (RK_p k2' z).2.2
    refine ⟨_, _, k2.1, rfl, ⟨_, _, r2, rfl, ⟨_, k2.1, 0, 0, _, cq_root (RK_cv k2') w2 qy2 ⟨by omega, by omega⟩ (by omega), Nat.zero_le _, Nat.zero_le _, ?_⟩⟩⟩
    rintro _ h3 ⟨⟨ok, rfl, hok⟩, k3, w3, F3⟩
    have r3 := (F3.2 (a + s) (by unfold JV JW; omega)).trans r2
    have wx3 := wq_cg wx2 (F3.2 (a + s + 1) (by unfold JV JW; omega))
    have sq3 : SQ h3 (a + s) := ⟨⟨_, r3⟩, wv_iw wx3, wv_iw w3⟩
    have k3' : RK h3 a t g := RK_of k2' F3 k3.1.1 (fun q y => by
      rcases y with y | rfl
      · exact .inr (GD_cv k3 y)
      · exact .inr (GD_p z sq3 (by omega) (by omega)))
    have F3' : fr h h3 (fun q => JV a q ∨ (a + s ≤ q ∧ q ≤ a + s + 2)) := fr_trans F1' (fr_trans (fr_mono F2 (fun q y => .inl y)) (fr_mono F3 (fun q y => by
      rcases y with y | y
      · exact .inl y
      · exact .inr (by omega))))
    have EL9 : ∀ y, EL c at9 y → y * y = cu x := fun y w => by
      have := cK2 w.2.2.1
      rw [hx] at this
      exact this
    cases ok with
    | false =>
      refine ⟨fun q => absurd rfl q, fun _ => ⟨rfl, bad h3 (fun y w => ?_) k3' F3'⟩⟩
      exact nomatch hok.mpr (rtF_sq (EL9 y w))
    | true =>
    refine ⟨fun _ => ?_, fun q => absurd q (by decide)⟩
    have rt := hok.mp rfl
    obtain ⟨y, hy⟩ : ∃ y, rtF (cu x) = y := ⟨_, rfl⟩
    rw [hy] at rt w3
    have hon : ecC (-3) (fz (cB : Int)) x y := cu_on rt
    have hy0 : y ≠ 0 := cK.2.2.2 _ _ hon
    obtain ⟨h4, eh4⟩ : ∃ h4, h4 = vm_up h3 (a + s) (SPo (a + s) 0) := ⟨_, rfl⟩
    have F4 : fr h3 h4 (fun q => q = a + s) := eh4 ▸ fr_up rfl
    have r4 : h4.2 (a + s) = SPo (a + s) 0 := by rw [eh4]; exact vm_upe
    have wx4 := wq_cg wx3 (F4.2 (a + s + 1) (by omega))
    have w4 := wq_cg w3 (F4.2 (a + s + 2) (by omega))
    have k4 : RK h4 a t g := RK_of k3' F4 ((F4.2 a (by omega)).trans k3'.1) (fun q z9 => .inr (GD_p z ⟨⟨_, r4⟩, wv_iw wx4, wv_iw w4⟩ (by omega) (by omega)))
    have F4' : fr h h4 (fun q => JV a q ∨ (a + s ≤ q ∧ q ≤ a + s + 2)) := fr_trans F3' (fr_mono F4 (fun q y => by omega))
    have has : a + s < 1099511627776 := by omega
    refine vm_go rfl bX14_elementx_77 oX14_elementx_77 ⟨_, r3, has, show 2 < 3 by decide, Or.inl rfl, ?_⟩
    refine vm_Th (lv' := [(0, .ref a), (1, .ref b), (2, .int (nI at9)), (3, .ref (a + s))]) (h' := h4) rfl eh4 ?_
    refine vm_go rfl bX14_elementx_82 oX14_elementx_82 ⟨_, _, r4, rfl, ⟨0, 0, _, rm_zw w4 (by decide) (by decide) (fq_b12 _), Nat.zero_le _, Nat.zero_le _, ?_⟩⟩
    rintro _ h5 ⟨⟨o5, rfl, ho5⟩, e5⟩
    rw [e5]; clear e5 h5
    cases o5 with
    | true => exact absurd (Fin.ext (ho5.mp rfl)) hy0
    | false =>
    refine ⟨fun _ => ?_, fun q => absurd rfl q⟩
    obtain ⟨f3, ef3, ev3⟩ := w_odd w4 (by decide)
    have eb4 : h4.2 b = h.2 b := F4'.2 b (fun y => hbn b y rfl)
    have vsl : (f at9 - 2 : Int32) = nI (c at9 - 2) := by
      rw [vs.1]
      rcases hsg with e | e <;> rw [e] <;> decide
    refine vm_go rfl bX14_element_107 oX14_element_107 ⟨_, _, r4, rfl, ⟨12, f3, ef3, 0, rfl, by decide, fun _ => ⟨nt, f, eb4.trans ef, at9, rfl, by omega, fun _ => ⟨fun q => ?_, fun q => ?_⟩⟩⟩⟩
    · have q : f3 0 &&& 1 = f at9 - 2 := q
      rw [ev3, vsl, nI_ij (by omega) (by omega)] at q
      have hE : EL c at9 y := ⟨hsg, hxP, by rw [hx]; exact hon, by omega⟩
      refine vm_go rfl bX14_element_130 oX14_element_130 ⟨rfl, hQ true h4 ⟨fun _ => by rw [elL_some hE]; exact (fun q => (nomatch q)), fun _ => rfl⟩ (fun _ => ?_) k4 F4'⟩
      rw [elL_some hE, hx]
      exact ⟨r4, wx4, w4⟩
    · have q : ¬ f3 0 &&& 1 = f at9 - 2 := q
      rw [ev3, vsl, nI_ij (by omega) (by omega)] at q
      refine ⟨_, _, r4, rfl, ⟨0, 0, _, cq_turn k4.2.2.1.1 w4 hy0 (by omega), Nat.zero_le _, Nat.zero_le _, ?_⟩⟩
      rintro _ h5 ⟨rfl, w5, F5⟩
      have hp := pr2 y hy0
      have hE : EL c at9 (-y) := ⟨hsg, hxP, by
        rw [hx]
        refine cu_on ?_
        rw [← rt]
        grind, by omega⟩
      have r5 := (F5.2 (a + s) (by omega)).trans r4
      have wx5 := wq_cg wx4 (F5.2 (a + s + 1) (by omega))
      have k5 : RK h5 a t g := RK_of k4 F5 ((F5.2 a (by omega)).trans k4.1) (fun q z9 => .inr (GD_p z ⟨⟨_, r5⟩, wv_iw wx5, wv_iw w5⟩ (by omega) (by omega)))
      have F5' : fr h h5 (fun q => JV a q ∨ (a + s ≤ q ∧ q ≤ a + s + 2)) := fr_trans F4' (fr_mono F5 (fun q y => by omega))
      refine vm_go rfl bX14_element_130 oX14_element_130 ⟨rfl, hQ true h5 ⟨fun _ => by rw [elL_some hE]; exact (fun q => (nomatch q)), fun _ => rfl⟩ (fun _ => ?_) k5 F5'⟩
      rw [elL_some hE, hx]
      exact ⟨r5, wx5, w5⟩
  refine vm_met rfl (Nat.le_of_ble_eq_true rfl) ?_
  refine vm_go rfl bX14_element_0 oX14_element_0 ⟨nt, f, ef, at9, rfl, by omega, fun _ => ⟨fun y => ?_, fun y => ⟨nt, f, ef, at9, rfl, by omega, fun _ => ⟨fun y => ?_, fun y2 => ⟨rfl, ?_⟩⟩⟩⟩⟩
  · exact main (.inl ((e23 2 (by decide)).mp y))
  · exact main (.inr ((e23 3 (by decide)).mp y))
  · refine bad h (fun w q => ?_) k fr_refl
    rcases q.1 with e | e
    · exact y ((e23 2 (by decide)).mpr e)
    · exact y2 ((e23 3 (by decide)).mpr e)

end
