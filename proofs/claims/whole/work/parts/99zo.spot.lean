/-! the reference: points (Spot), their sum -/
def bX14_joinx_0 : List vm_J := [(1, .aload_n 1, 0, 0, 0, .null), (3, .getfield 113, 13, 2, 0, .null), (3, .ifCond .eq 9, 13, 0, 0, .null), (1, .aload_n 3, 0, 0, 0, .null), (1, .aload_n 2, 0, 0, 0, .null), (3, .invokevirtual 119, 136, 1, 13, .null), (1, .return_, 0, 0, 0, .null)]
set_option maxRecDepth 20000 in
theorem oX14_joinx_0 : vm_okB 14 mX14_join 0 bX14_joinx_0 = true := by decide +kernel
def bX14_joinx_13 : List vm_J := [(1, .aload_n 2, 0, 0, 0, .null), (3, .getfield 113, 13, 2, 0, .null), (3, .ifCond .eq 9, 26, 0, 0, .null), (1, .aload_n 3, 0, 0, 0, .null), (1, .aload_n 1, 0, 0, 0, .null), (3, .invokevirtual 119, 136, 1, 13, .null), (1, .return_, 0, 0, 0, .null)]
set_option maxRecDepth 20000 in
theorem oX14_joinx_13 : vm_okB 14 mX14_join 13 bX14_joinx_13 = true := by decide +kernel
def bX14_joinx_26 : List vm_J := [(1, .aload_n 1, 0, 0, 0, .null), (3, .getfield 123, 13, 0, 0, .null), (1, .aload_n 2, 0, 0, 0, .null), (3, .getfield 123, 13, 0, 0, .null), (2, .bipush 12, 0, 0, 0, .int 12), (3, .invokestatic 26, 139, 3, 0, .null), (3, .ifCond .ne 7, 46, 0, 0, .null), (1, .iconst 1, 0, 0, 0, .int 1), (3, .goto 4, 47, 0, 0, .null)]
set_option maxRecDepth 20000 in
theorem oX14_joinx_26 : vm_okB 14 mX14_join 26 bX14_joinx_26 = true := by decide +kernel
def bX14_joinx_46 : List vm_J := [(1, .iconst 0, 0, 0, 0, .int 0)]
set_option maxRecDepth 20000 in
theorem oX14_joinx_46 : vm_okB 14 mX14_join 46 bX14_joinx_46 = true := by decide +kernel
def bX14_joinx_47 : List vm_J := [(2, .istore 4, 0, 0, 0, .null)]
set_option maxRecDepth 20000 in
theorem oX14_joinx_47 : vm_okB 14 mX14_join 47 bX14_joinx_47 = true := by decide +kernel
def bX14_joinx_49 : List vm_J := [(1, .aload_n 0, 0, 0, 0, .null), (3, .getfield 126, 14, 8, 0, .null), (1, .aload_n 1, 0, 0, 0, .null), (3, .getfield 130, 13, 1, 0, .null), (1, .aload_n 2, 0, 0, 0, .null), (3, .getfield 130, 13, 1, 0, .null), (1, .aload_n 0, 0, 0, 0, .null), (3, .getfield 133, 14, 14, 0, .null), (3, .invokestatic 136, 145, 4, 0, .null), (2, .iload 4, 0, 0, 0, .null), (3, .ifCond .eq 21, 91, 0, 0, .null), (1, .aload_n 0, 0, 0, 0, .null), (3, .getfield 133, 14, 14, 0, .null), (2, .bipush 12, 0, 0, 0, .int 12), (3, .invokestatic 99, 140, 2, 0, .null), (3, .ifCond .eq 9, 91, 0, 0, .null), (1, .aload_n 3, 0, 0, 0, .null), (1, .iconst 1, 0, 0, 0, .int 1), (3, .putfield 113, 13, 2, 2, .null), (1, .return_, 0, 0, 0, .null)]
set_option maxRecDepth 20000 in
theorem oX14_joinx_49 : vm_okB 14 mX14_join 49 bX14_joinx_49 = true := by decide +kernel
def bX14_joinx_91 : List vm_J := [(2, .iload 4, 0, 0, 0, .null), (3, .ifCond .eq 111, 204, 0, 0, .null), (1, .aload_n 0, 0, 0, 0, .null), (1, .aload_n 0, 0, 0, 0, .null), (3, .getfield 126, 14, 8, 0, .null), (1, .aload_n 0, 0, 0, 0, .null), (3, .getfield 133, 14, 14, 0, .null), (1, .aload_n 0, 0, 0, 0, .null), (3, .getfield 139, 14, 13, 0, .null), (3, .invokevirtual 142, 154, 3, 14, .null), (2, .istore 5, 0, 0, 0, .null)]
set_option maxRecDepth 20000 in
theorem oX14_joinx_91 : vm_okB 14 mX14_join 91 bX14_joinx_91 = true := by decide +kernel
def bX14_joinx_114 : List vm_J := [(1, .aload_n 0, 0, 0, 0, .null), (1, .aload_n 0, 0, 0, 0, .null), (3, .getfield 126, 14, 8, 0, .null), (1, .aload_n 1, 0, 0, 0, .null), (3, .getfield 123, 13, 0, 0, .null), (1, .aload_n 1, 0, 0, 0, .null), (3, .getfield 123, 13, 0, 0, .null), (1, .aload_n 0, 0, 0, 0, .null), (3, .getfield 146, 14, 15, 0, .null), (3, .invokevirtual 79, 149, 4, 14, .null), (1, .iconst 1, 0, 0, 0, .int 1), (1, .aload_n 0, 0, 0, 0, .null), (3, .getfield 133, 14, 14, 0, .null), (2, .bipush 12, 0, 0, 0, .int 12), (3, .invokestatic 75, 142, 3, 0, .null), (1, .aload_n 0, 0, 0, 0, .null), (3, .getfield 126, 14, 8, 0, .null), (1, .aload_n 0, 0, 0, 0, .null), (3, .getfield 146, 14, 15, 0, .null), (1, .aload_n 0, 0, 0, 0, .null), (3, .getfield 133, 14, 14, 0, .null), (1, .aload_n 0, 0, 0, 0, .null), (3, .getfield 146, 14, 15, 0, .null), (3, .invokestatic 107, 146, 4, 0, .null), (1, .aload_n 0, 0, 0, 0, .null), (3, .getfield 126, 14, 8, 0, .null), (1, .aload_n 0, 0, 0, 0, .null), (3, .getfield 146, 14, 15, 0, .null), (1, .aload_n 0, 0, 0, 0, .null), (3, .getfield 146, 14, 15, 0, .null), (1, .aload_n 0, 0, 0, 0, .null), (3, .getfield 133, 14, 14, 0, .null), (3, .invokestatic 136, 145, 4, 0, .null), (1, .aload_n 0, 0, 0, 0, .null), (3, .getfield 126, 14, 8, 0, .null), (1, .aload_n 0, 0, 0, 0, .null), (3, .getfield 146, 14, 15, 0, .null), (1, .aload_n 0, 0, 0, 0, .null), (3, .getfield 133, 14, 14, 0, .null), (1, .aload_n 0, 0, 0, 0, .null), (3, .getfield 133, 14, 14, 0, .null), (3, .invokestatic 136, 145, 4, 0, .null), (3, .goto 59, 260, 0, 0, .null)]
set_option maxRecDepth 20000 in
theorem oX14_joinx_114 : vm_okB 14 mX14_join 114 bX14_joinx_114 = true := by decide +kernel
def bX14_joinx_204 : List vm_J := [(1, .aload_n 0, 0, 0, 0, .null), (3, .getfield 126, 14, 8, 0, .null), (1, .aload_n 2, 0, 0, 0, .null), (3, .getfield 123, 13, 0, 0, .null), (1, .aload_n 1, 0, 0, 0, .null), (3, .getfield 123, 13, 0, 0, .null), (1, .aload_n 0, 0, 0, 0, .null), (3, .getfield 133, 14, 14, 0, .null), (3, .invokestatic 107, 146, 4, 0, .null), (1, .aload_n 0, 0, 0, 0, .null), (1, .aload_n 0, 0, 0, 0, .null), (3, .getfield 126, 14, 8, 0, .null), (1, .aload_n 0, 0, 0, 0, .null), (3, .getfield 133, 14, 14, 0, .null), (1, .aload_n 0, 0, 0, 0, .null), (3, .getfield 139, 14, 13, 0, .null), (3, .invokevirtual 142, 154, 3, 14, .null), (2, .istore 5, 0, 0, 0, .null)]
set_option maxRecDepth 20000 in
theorem oX14_joinx_204 : vm_okB 14 mX14_join 204 bX14_joinx_204 = true := by decide +kernel
def bX14_joinx_241 : List vm_J := [(1, .aload_n 0, 0, 0, 0, .null), (3, .getfield 126, 14, 8, 0, .null), (1, .aload_n 2, 0, 0, 0, .null), (3, .getfield 130, 13, 1, 0, .null), (1, .aload_n 1, 0, 0, 0, .null), (3, .getfield 130, 13, 1, 0, .null), (1, .aload_n 0, 0, 0, 0, .null), (3, .getfield 133, 14, 14, 0, .null), (3, .invokestatic 107, 146, 4, 0, .null)]
set_option maxRecDepth 20000 in
theorem oX14_joinx_241 : vm_okB 14 mX14_join 241 bX14_joinx_241 = true := by decide +kernel
def bX14_joinx_260 : List vm_J := [(1, .aload_n 0, 0, 0, 0, .null), (1, .aload_n 0, 0, 0, 0, .null), (3, .getfield 126, 14, 8, 0, .null), (1, .aload_n 0, 0, 0, 0, .null), (3, .getfield 139, 14, 13, 0, .null), (1, .aload_n 0, 0, 0, 0, .null), (3, .getfield 133, 14, 14, 0, .null), (1, .aload_n 0, 0, 0, 0, .null), (3, .getfield 139, 14, 13, 0, .null), (3, .invokevirtual 79, 149, 4, 14, .null), (1, .aload_n 0, 0, 0, 0, .null), (1, .aload_n 0, 0, 0, 0, .null), (3, .getfield 126, 14, 8, 0, .null), (1, .aload_n 0, 0, 0, 0, .null), (3, .getfield 139, 14, 13, 0, .null), (1, .aload_n 0, 0, 0, 0, .null), (3, .getfield 139, 14, 13, 0, .null), (1, .aload_n 0, 0, 0, 0, .null), (3, .getfield 133, 14, 14, 0, .null), (3, .invokevirtual 79, 149, 4, 14, .null), (1, .aload_n 0, 0, 0, 0, .null), (3, .getfield 126, 14, 8, 0, .null), (1, .aload_n 0, 0, 0, 0, .null), (3, .getfield 133, 14, 14, 0, .null), (1, .aload_n 1, 0, 0, 0, .null), (3, .getfield 123, 13, 0, 0, .null), (1, .aload_n 0, 0, 0, 0, .null), (3, .getfield 133, 14, 14, 0, .null), (3, .invokestatic 107, 146, 4, 0, .null), (1, .aload_n 0, 0, 0, 0, .null), (3, .getfield 126, 14, 8, 0, .null), (1, .aload_n 0, 0, 0, 0, .null), (3, .getfield 133, 14, 14, 0, .null), (1, .aload_n 2, 0, 0, 0, .null), (3, .getfield 123, 13, 0, 0, .null), (1, .aload_n 0, 0, 0, 0, .null), (3, .getfield 133, 14, 14, 0, .null), (3, .invokestatic 107, 146, 4, 0, .null), (1, .aload_n 0, 0, 0, 0, .null), (3, .getfield 126, 14, 8, 0, .null), (1, .aload_n 1, 0, 0, 0, .null), (3, .getfield 123, 13, 0, 0, .null), (1, .aload_n 0, 0, 0, 0, .null), (3, .getfield 133, 14, 14, 0, .null), (1, .aload_n 0, 0, 0, 0, .null), (3, .getfield 146, 14, 15, 0, .null), (3, .invokestatic 107, 146, 4, 0, .null), (1, .aload_n 0, 0, 0, 0, .null), (1, .aload_n 0, 0, 0, 0, .null), (3, .getfield 126, 14, 8, 0, .null), (1, .aload_n 0, 0, 0, 0, .null), (3, .getfield 139, 14, 13, 0, .null), (1, .aload_n 0, 0, 0, 0, .null), (3, .getfield 146, 14, 15, 0, .null), (1, .aload_n 0, 0, 0, 0, .null), (3, .getfield 146, 14, 15, 0, .null), (3, .invokevirtual 79, 149, 4, 14, .null), (1, .aload_n 0, 0, 0, 0, .null), (3, .getfield 126, 14, 8, 0, .null), (1, .aload_n 0, 0, 0, 0, .null), (3, .getfield 146, 14, 15, 0, .null), (1, .aload_n 1, 0, 0, 0, .null), (3, .getfield 130, 13, 1, 0, .null), (1, .aload_n 0, 0, 0, 0, .null), (3, .getfield 146, 14, 15, 0, .null), (3, .invokestatic 107, 146, 4, 0, .null), (1, .aload_n 0, 0, 0, 0, .null), (3, .getfield 133, 14, 14, 0, .null), (1, .aload_n 3, 0, 0, 0, .null), (3, .getfield 123, 13, 0, 0, .null), (2, .bipush 12, 0, 0, 0, .int 12), (3, .invokestatic 68, 141, 3, 0, .null), (1, .aload_n 0, 0, 0, 0, .null), (3, .getfield 146, 14, 15, 0, .null), (1, .aload_n 3, 0, 0, 0, .null), (3, .getfield 130, 13, 1, 0, .null), (2, .bipush 12, 0, 0, 0, .int 12), (3, .invokestatic 68, 141, 3, 0, .null), (1, .aload_n 3, 0, 0, 0, .null), (1, .iconst 0, 0, 0, 0, .int 0), (3, .putfield 113, 13, 2, 2, .null), (1, .return_, 0, 0, 0, .null)]
set_option maxRecDepth 20000 in
theorem oX14_joinx_260 : vm_okB 14 mX14_join 260 bX14_joinx_260 = true := by decide +kernel
def SPo (s : Nat) (b : Int32) : vm_Ob := .inr (13, [.ref (s + 1), .ref (s + 2), .int b])
/-- a Spot that holds P -/
def SP (h : vm_H) (s : Nat) (P : Option (fq × fq)) : Prop := match P with
  | none => h.2 s = SPo s 1 ∧ iw h 12 (s + 1) ∧ iw h 12 (s + 2)
  | some p => h.2 s = SPo s 0 ∧ wq h (s + 1) p.1 ∧ wq h (s + 2) p.2
/-- a Spot -/
def SQ (h : vm_H) (s : Nat) : Prop := (∃ b, h.2 s = SPo s b) ∧ iw h 12 (s + 1) ∧ iw h 12 (s + 2)
theorem SP_q {h : vm_H} {s : Nat} {P : Option (fq × fq)} (k : SP h s P) : SQ h s := by
  cases P with
  | none => exact ⟨⟨_, k.1⟩, k.2.1, k.2.2⟩
  | some p => exact ⟨⟨_, k.1⟩, wv_iw k.2.1, wv_iw k.2.2⟩
theorem SP_fr {h h' : vm_H} {s : Nat} {P : Option (fq × fq)} {S : Nat → Prop} (k : SP h s P) (F : fr h h' S) (n : ∀ q, s ≤ q → q ≤ s + 2 → ¬ S q) : SP h' s P := by
  have e0 := F.2 s (n s (by omega) (by omega))
  have e1 := F.2 (s + 1) (n _ (by omega) (by omega))
  have e2 := F.2 (s + 2) (n _ (by omega) (by omega))
  cases P with
  | none => exact ⟨e0.trans k.1, iw_cg k.2.1 e1, iw_cg k.2.2 e2⟩
  | some p => exact ⟨e0.trans k.1, wq_cg k.2.1 e1, wq_cg k.2.2 e2⟩
theorem SQ_fr {h h' : vm_H} {s : Nat} {S : Nat → Prop} (k : SQ h s) (F : fr h h' S) (n : ∀ q, s ≤ q → q ≤ s + 2 → ¬ S q) : SQ h' s := by
  obtain ⟨⟨b, k1⟩, k2, k3⟩ := k
  exact ⟨⟨b, (F.2 s (n s (by omega) (by omega))).trans k1⟩, iw_cg k2 (F.2 _ (n _ (by omega) (by omega))), iw_cg k3 (F.2 _ (n _ (by omega) (by omega)))⟩
/-- a place for a Spot -/
def okS (a s : Nat) : Prop := a + 13 < s ∧ s + 2 < 1099511627776 ∧ (s + 2 < a + 23 ∨ a + 25 < s)
/-- two Spots: one and the same, or apart -/
def apS (s t : Nat) : Prop := s = t ∨ s + 2 < t ∨ t + 2 < s
section
variable {l : Launch} {O : Nat → vm_Ob} {f9 : Value} {h : vm_H}
theorem rs_is {s t : Nat} {P : Option (fq × fq)} (k : SP h s P) (q : SQ h t) (ap : apS t s) (ht : t + 2 < 1099511627776) : vm_Met (vm_env l O f9) mX13_is 0 0 [.ref t, .ref s] h (fun r h' => r = none ∧ SP h' t P ∧ fr h h' (fun q => t ≤ q ∧ q ≤ t + 2)) := by
  obtain ⟨b, f, g, e0, e1, e2, hb, hfin⟩ : ∃ b f g, h.2 s = SPo s b ∧ ia h 12 (s + 1) f ∧ ia h 12 (s + 2) g ∧ (b = 0 ∨ b = 1) ∧ ∀ (h' : vm_H) (f' g' : Nat → Int32), h'.2 t = SPo t b → ia h' 12 (t + 1) f' → ia h' 12 (t + 2) g' → (∀ k, k < 12 → f' k = f k) → (∀ k, k < 12 → g' k = g k) → SP h' t P := by
    cases P with
    | none =>
      obtain ⟨k1, ⟨f, k2⟩, ⟨g, k3⟩⟩ := k
      exact ⟨1, f, g, k1, k2, k3, Or.inr rfl, fun h' f' g' z1 z2 z3 _ _ => ⟨z1, ⟨f', z2⟩, ⟨g', z3⟩⟩⟩
    | some p =>
      obtain ⟨k1, ⟨f, k2, v2⟩, ⟨g, k3, v3⟩⟩ := k
      exact ⟨0, f, g, k1, k2, k3, Or.inl rfl, fun h' f' g' z1 z2 z3 z4 z5 => ⟨z1, ⟨f', z2, fun k hk => by rw [z4 k hk, v2 k hk]⟩, ⟨g', z3, fun k hk => by rw [z5 k hk, v3 k hk]⟩⟩⟩
  obtain ⟨⟨b0, q0⟩, ⟨t1, q1⟩, ⟨t2, q2⟩⟩ := q
  unfold apS at ap
  have l0 : t < 1099511627776 := by omega
  have l1 : t + 1 < 1099511627776 := by omega
  refine vm_met rfl (Nat.le_of_ble_eq_true rfl) ?_
  refine vm_go rfl bX13_is_0 oX13_is_0 ⟨_, _, e0, rfl, ⟨_, _, q0, rfl, ⟨0, 0, _, rm_copy e1 q1 (by decide) (by decide) (by decide) l1, Nat.zero_le _, Nat.zero_le _, ?_⟩⟩⟩
  rintro _ ha ⟨rfl, ⟨f', x1, x2, _⟩, Fa⟩
  have e0a : ha.2 s = SPo s b := (Fa.2 s (by omega)).trans e0
  have q0a : ha.2 t = SPo t b0 := (Fa.2 t (by omega)).trans q0
  have e2a : ia ha 12 (s + 2) g := (Fa.2 (s + 2) (by omega)).trans e2
  have q2a : ia ha 12 (t + 2) t2 := (Fa.2 (t + 2) (by omega)).trans q2
  refine ⟨_, _, e0a, rfl, ⟨_, _, q0a, rfl, ⟨0, 0, _, rm_copy e2a q2a (by decide) (by decide) (by decide) ht, Nat.zero_le _, Nat.zero_le _, ?_⟩⟩⟩
  rintro _ hb9 ⟨rfl, ⟨g', y1, y2, _⟩, Fb⟩
  have e0b : hb9.2 s = SPo s b := (Fb.2 s (by omega)).trans e0a
  have q0b : hb9.2 t = SPo t b0 := (Fb.2 t (by omega)).trans q0a
  have x1b : ia hb9 12 (t + 1) f' := (Fb.2 (t + 1) (by omega)).trans x1
  refine ⟨_, _, e0b, rfl, ⟨_, q0b, l0, show 2 < 3 by decide, hb, ⟨rfl, ?_, ?_⟩⟩⟩
  · exact hfin _ f' g' vm_upe ((vm_upn (by omega)).trans x1b) ((vm_upn (by omega)).trans y1) x2 y2
  · exact fr_trans (fr_mono Fa (fun q z => by omega)) (fr_trans (fr_mono Fb (fun q z => by omega)) (fr_mono (fr_up rfl) (fun q z => by omega)))
theorem fq_v1 : (1 : fq).val = 1 := by decide +kernel
theorem cq_sm {a c x : Nat} {g : Nat → Int32} (k : CU h a g) (hc : iw h 12 c) (oc : okC a c) (hx : x < 4294967296) : vm_Met (vm_env l O f9) mX14_small 0 0 [.int (nI x), .ref c, .int (nI 12)] h (fun r h' => r = none ∧ CU h' a g ∧ wq h' c (fz (x : Int)) ∧ fr h h' (fun q => q = c)) := by
  obtain ⟨t, et⟩ := hc
  have oc' := oc
  obtain ⟨o1, o2⟩ := oc'
  refine vm_metP (rm_small (x := x) et (by decide) (by decide) (by decide) o2) ?_
  rintro r h' ⟨rfl, ⟨t', e1, e2, e3, _⟩, F⟩
  have ev : (fz (x : Int)).val = x := by
    have h1 := fz_v (x : Int)
    have h2 : x < cPm + 1 := Nat.lt_of_lt_of_le hx (by decide +kernel)
    rw [Int.emod_eq_of_lt (by omega) (by omega)] at h1
    omega
  have w : wq h' c (fz (x : Int)) := by
    unfold wq
    rw [ev]
    exact wv_sm e1 hx e2 e3
  exact ⟨rfl, CU_c k F oc w (fun q z => Or.inl z) (fun q h1 h2 z => by omega), w, F⟩
theorem cq_cp {a b c : Nat} {x : fq} {g : Nat → Int32} (k : CU h a g) (hx : wq h b x) (hc : iw h 12 c) (oc : okC a c) : vm_Met (vm_env l O f9) mX14_copy 0 0 [.ref b, .ref c, .int (nI 12)] h (fun r h' => r = none ∧ CU h' a g ∧ wq h' c x ∧ fr h h' (fun q => q = c)) := by
  obtain ⟨t, et⟩ := hc
  obtain ⟨f, ef, vf⟩ := id hx
  have oc' := oc
  obtain ⟨o1, o2⟩ := oc'
  refine vm_metP (rm_copy ef et (by decide) (by decide) (by decide) o2) ?_
  rintro r h' ⟨rfl, ⟨t', e1, e2, _⟩, F⟩
  have w : wq h' c x := wv_cp hx f ef ⟨t', e1, e2⟩
  exact ⟨rfl, CU_c k F oc w (fun q z => Or.inl z) (fun q h1 h2 z => by omega), w, F⟩
theorem ecL_a {x y1 y2 : fq} : fiv (y1 + y2) * ((x * x - fz ((1 : Nat) : Int)) + ((x * x - fz ((1 : Nat) : Int)) + (x * x - fz ((1 : Nat) : Int)))) = (x * x + x * x + x * x + -3) * fiv (y1 + y2) := by
  rw [show fz ((1 : Nat) : Int) = 1 from fz_1]
  grind
theorem ecL_b {x1 y1 x2 y2 : fq} (hn : x1 ≠ x2) : fiv (x2 - x1) * (y2 - y1) = (y1 - y2) * fiv (x1 - x2) := by
  have n1 : x2 - x1 ≠ 0 := fun z => hn (sub_z z).symm
  have n2 : x1 - x2 ≠ 0 := fun z => hn (sub_z z)
  have i1 := fiv_e _ n1
  have i2 := fiv_e _ n2
  refine ecD_c fqf_D n1 ?_
  generalize fiv (x2 - x1) = u at *
  generalize fiv (x1 - x2) = w at *
  grind
end
section
variable {l : Launch} {O : Nat → vm_Ob} {f9 : Value} {h : vm_H}
theorem join_t {a sa sb sc : Nat} {x1 y1 x2 y2 s0 w0 : fq} {g : Nat → Int32} {h1 : vm_H} {lv : vm_L} {Q : Option Value → vm_H → Prop} (k : CU h1 a g) (hP : SP h1 sa (some (x1, y1))) (hR : SP h1 sb (some (x2, y2))) (hQ : SQ h1 sc) (oa : okS a sa) (ob : okS a sb) (oc : okS a sc) (ws : wq h1 (a + 23) s0) (ww : wq h1 (a + 24) w0) (hlv : lv_pick lv [0, 1, 2, 3] = [(0, .ref a), (1, .ref sa), (2, .ref sb), (3, .ref sc)]) (kk : ∀ h', CU h' a g → SP h' sc (ecT (s0 * w0) x1 y1 x2) → fr h1 h' (fun q => JW a q ∨ (sc ≤ q ∧ q ≤ sc + 2)) → Q none h') : vm_T (vm_env l O f9) mX14_join 0 0 260 lv [] h1 Q := by
  obtain ⟨oa1, oa2, oa3⟩ := oa
  obtain ⟨ob1, ob2, ob3⟩ := ob
  obtain ⟨oc1, oc2, oc3⟩ := oc
  have ao := k.2.2.2
  have o23 : okC a (a + 23) := ⟨by omega, by omega⟩
  have o24 : okC a (a + 24) := ⟨by omega, by omega⟩
  have o25 : okC a (a + 25) := ⟨by omega, by omega⟩
  refine vm_less [0, 1, 2, 3] hlv ?_
  refine vm_go rfl bX14_joinx_260 oX14_joinx_260 ⟨_, _, k.1, rfl, ⟨_, _, k.1, rfl, ⟨_, _, k.1, rfl, ⟨_, _, k.1, rfl, ⟨_, k.1, 0, 0, _, cq_mul k ws ww (wv_iw ws) o23 (by omega) (by omega), Nat.zero_le _, Nat.zero_le _, ?_⟩⟩⟩⟩⟩
  rintro _ h2 ⟨rfl, k2, w2, F2⟩
  refine ⟨_, _, k2.1, rfl, ⟨_, _, k2.1, rfl, ⟨_, _, k2.1, rfl, ⟨_, _, k2.1, rfl, ⟨_, k2.1, 0, 0, _, cq_mul k2 w2 w2 (CU_w k2 (by decide) (by decide)) o24 (by omega) (by omega), Nat.zero_le _, Nat.zero_le _, ?_⟩⟩⟩⟩⟩
  rintro _ h3 ⟨rfl, k3, w3, F3⟩
  have w2 := wq_cg w2 (F3.2 (a + 23) (by omega))
  have F3 : fr h1 h3 (fun q => JW a q) := fr_trans (fr_mono F2 (fun q z => by unfold JW; omega)) (fr_mono F3 (fun q z => by unfold JW; omega))
  have hP3 := SP_fr hP F3 (fun q z1 z2 z3 => by unfold JW at z3; omega)
  have hR3 := SP_fr hR F3 (fun q z1 z2 z3 => by unfold JW at z3; omega)
  refine ⟨_, _, k3.1, rfl, ⟨_, _, k3.1, rfl, ⟨_, _, hP3.1, rfl, ⟨_, _, k3.1, rfl, ⟨0, 0, _, cq_sub k3 w3 hP3.2.1 (wv_iw w3) o24, Nat.zero_le _, Nat.zero_le _, ?_⟩⟩⟩⟩⟩
  rintro _ h4 ⟨rfl, k4, w4, F4⟩
  have w2 := wq_cg w2 (F4.2 (a + 23) (by omega))
  have hP4 := SP_fr hP3 F4 (fun q z1 z2 z3 => by omega)
  have hR4 := SP_fr hR3 F4 (fun q z1 z2 z3 => by omega)
  refine ⟨_, _, k4.1, rfl, ⟨_, _, k4.1, rfl, ⟨_, _, hR4.1, rfl, ⟨_, _, k4.1, rfl, ⟨0, 0, _, cq_sub k4 w4 hR4.2.1 (wv_iw w4) o24, Nat.zero_le _, Nat.zero_le _, ?_⟩⟩⟩⟩⟩
  rintro _ h5 ⟨rfl, k5, w5, F5⟩
  have w2 := wq_cg w2 (F5.2 (a + 23) (by omega))
  have hP5 := SP_fr hP4 F5 (fun q z1 z2 z3 => by omega)
  refine ⟨_, _, k5.1, rfl, ⟨_, _, hP5.1, rfl, ⟨_, _, k5.1, rfl, ⟨_, _, k5.1, rfl, ⟨0, 0, _, cq_sub k5 hP5.2.1 w5 (CU_w k5 (by decide) (by decide)) o25, Nat.zero_le _, Nat.zero_le _, ?_⟩⟩⟩⟩⟩
  rintro _ h6 ⟨rfl, k6, w6, F6⟩
  have w2 := wq_cg w2 (F6.2 (a + 23) (by omega))
  have w5 := wq_cg w5 (F6.2 (a + 24) (by omega))
  have hP6 := SP_fr hP5 F6 (fun q z1 z2 z3 => by omega)
  refine ⟨_, _, k6.1, rfl, ⟨_, _, k6.1, rfl, ⟨_, _, k6.1, rfl, ⟨_, _, k6.1, rfl, ⟨_, k6.1, 0, 0, _, cq_mul k6 w2 w6 (wv_iw w6) o25 (by omega) (by omega), Nat.zero_le _, Nat.zero_le _, ?_⟩⟩⟩⟩⟩
  rintro _ h7 ⟨rfl, k7, w7, F7⟩
  have w5 := wq_cg w5 (F7.2 (a + 24) (by omega))
  have hP7 := SP_fr hP6 F7 (fun q z1 z2 z3 => by omega)
  refine ⟨_, _, k7.1, rfl, ⟨_, _, k7.1, rfl, ⟨_, _, hP7.1, rfl, ⟨_, _, k7.1, rfl, ⟨0, 0, _, cq_sub k7 w7 hP7.2.2 (wv_iw w7) o25, Nat.zero_le _, Nat.zero_le _, ?_⟩⟩⟩⟩⟩
  rintro _ h8 ⟨rfl, k8, w8, F8⟩
  have w5 := wq_cg w5 (F8.2 (a + 24) (by omega))
  have F38 : fr h3 h8 (fun q => JW a q) := fr_trans (fr_mono F4 (fun q z => by unfold JW; omega)) (fr_trans (fr_mono F5 (fun q z => by unfold JW; omega)) (fr_trans (fr_mono F6 (fun q z => by unfold JW; omega)) (fr_trans (fr_mono F7 (fun q z => by unfold JW; omega)) (fr_mono F8 (fun q z => by unfold JW; omega)))))
  have F18 := fr_trans F3 F38
  have hQ8 := SQ_fr hQ F18 (fun q z1 z2 z3 => by unfold JW at z3; omega)
  obtain ⟨⟨b8, q8⟩, q81, q82⟩ := hQ8
  refine ⟨_, _, k8.1, rfl, ⟨_, _, q8, rfl, ⟨0, 0, _, cq_cp k8 w5 q81 ⟨by omega, by omega⟩, Nat.zero_le _, Nat.zero_le _, ?_⟩⟩⟩
  rintro _ h9 ⟨rfl, k9, w9, F9⟩
  have w8 := wq_cg w8 (F9.2 (a + 25) (by omega))
  have q9 : h9.2 sc = SPo sc b8 := (F9.2 sc (by omega)).trans q8
  refine ⟨_, _, k9.1, rfl, ⟨_, _, q9, rfl, ⟨0, 0, _, cq_cp k9 w8 (iw_cg q82 (F9.2 _ (by omega))) ⟨by omega, by omega⟩, Nat.zero_le _, Nat.zero_le _, ?_⟩⟩⟩
  rintro _ h10 ⟨rfl, k10, w10, F10⟩
  have q10 : h10.2 sc = SPo sc b8 := (F10.2 sc (by omega)).trans q9
  have w9 := wq_cg w9 (F10.2 (sc + 1) (by omega))
  have l0 : sc < 1099511627776 := by omega
  refine ⟨_, q10, l0, show 2 < 3 by decide, Or.inl rfl, ?_⟩
  refine kk _ (CU_st k10 (fr_up rfl) (fun q z => by omega) (fun q hj z => by unfold JW at hj; omega)) ⟨vm_upe, wq_cg w9 (vm_upn (by omega)), wq_cg w10 (vm_upn (by omega))⟩ ?_
  exact fr_trans (fr_mono F18 (fun q z => Or.inl z)) (fr_trans (fr_mono F9 (fun q z => Or.inr (by omega))) (fr_trans (fr_mono F10 (fun q z => Or.inr (by omega))) (fr_mono (fr_up rfl) (fun q z => Or.inr (by omega)))))
end
