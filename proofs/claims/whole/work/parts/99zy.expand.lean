/-! the reference: tags, expands -/
def bX14_expandsx_0 : List vm_J := [(1, .iconst 0, 0, 0, 0, .int 0), (1, .istore_n 2, 0, 0, 0, .null)]
set_option maxRecDepth 20000 in
theorem oX14_expandsx_0 : vm_okB 14 mX14_expands 0 bX14_expandsx_0 = true := by decide +kernel
def bX14_expandsx_2 : List vm_J := [(1, .iload_n 2, 0, 0, 0, .null), (3, .sipush 128, 0, 0, 0, .int 128), (3, .if_icmp .ge 14, 20, 0, 0, .null), (1, .aload_n 0, 0, 0, 0, .null), (1, .iconst 0, 0, 0, 0, .int 0), (3, .invokevirtual 206, 165, 1, 14, .null), (3, .iinc 2 1, 0, 0, 0, .int 1), (3, .goto (-15), 2, 0, 0, .null)]
set_option maxRecDepth 20000 in
theorem oX14_expandsx_2 : vm_okB 14 mX14_expands 2 bX14_expandsx_2 = true := by decide +kernel
def bX14_expandsx_20 : List vm_J := [(1, .aload_n 0, 0, 0, 0, .null), (1, .aload_n 0, 0, 0, 0, .null), (3, .getfield 290, 14, 25, 0, .null), (1, .iconst 0, 0, 0, 0, .int 0), (1, .aload_n 0, 0, 0, 0, .null), (3, .getfield 293, 14, 26, 0, .null), (3, .invokevirtual 287, 166, 3, 14, .null), (1, .aload_n 0, 0, 0, 0, .null), (1, .iload_n 1, 0, 0, 0, .null), (3, .invokevirtual 296, 167, 1, 14, .null), (1, .aload_n 0, 0, 0, 0, .null), (1, .iconst 0, 0, 0, 0, .int 0), (3, .invokevirtual 206, 165, 1, 14, .null), (1, .aload_n 0, 0, 0, 0, .null), (3, .invokevirtual 299, 178, 0, 14, .null), (1, .aload_n 0, 0, 0, 0, .null), (3, .invokevirtual 302, 175, 0, 14, .null), (1, .iconst 0, 0, 0, 0, .int 0), (1, .istore_n 2, 0, 0, 0, .null)]
set_option maxRecDepth 20000 in
theorem oX14_expandsx_20 : vm_okB 14 mX14_expands 20 bX14_expandsx_20 = true := by decide +kernel
def bX14_expandsx_53 : List vm_J := [(1, .iload_n 2, 0, 0, 0, .null), (2, .bipush 48, 0, 0, 0, .int 48), (3, .if_icmp .ge 28, 84, 0, 0, .null), (1, .aload_n 0, 0, 0, 0, .null), (3, .getfield 305, 14, 29, 0, .null), (1, .iload_n 2, 0, 0, 0, .null), (1, .aload_n 0, 0, 0, 0, .null), (3, .getfield 243, 14, 20, 0, .null), (1, .iload_n 2, 0, 0, 0, .null), (1, .baload, 0, 0, 0, .null), (1, .bastore, 0, 0, 0, .null)]
set_option maxRecDepth 20000 in
theorem oX14_expandsx_53 : vm_okB 14 mX14_expands 53 bX14_expandsx_53 = true := by decide +kernel
def bX14_expandsx_71 : List vm_J := [(1, .aload_n 0, 0, 0, 0, .null), (3, .getfield 308, 14, 30, 0, .null), (1, .iload_n 2, 0, 0, 0, .null), (1, .iconst 0, 0, 0, 0, .int 0), (1, .bastore, 0, 0, 0, .null)]
set_option maxRecDepth 20000 in
theorem oX14_expandsx_71 : vm_okB 14 mX14_expands 71 bX14_expandsx_71 = true := by decide +kernel
def bX14_expandsx_78 : List vm_J := [(3, .iinc 2 1, 0, 0, 0, .int 1), (3, .goto (-28), 53, 0, 0, .null)]
set_option maxRecDepth 20000 in
theorem oX14_expandsx_78 : vm_okB 14 mX14_expands 78 bX14_expandsx_78 = true := by decide +kernel
def bX14_expandsx_84 : List vm_J := [(1, .iconst 1, 0, 0, 0, .int 1), (1, .istore_n 2, 0, 0, 0, .null)]
set_option maxRecDepth 20000 in
theorem oX14_expandsx_84 : vm_okB 14 mX14_expands 84 bX14_expandsx_84 = true := by decide +kernel
def bX14_expandsx_86 : List vm_J := [(2, .bipush 48, 0, 0, 0, .int 48), (1, .iload_n 2, 0, 0, 0, .null), (1, .iconst 1, 0, 0, 0, .int 1), (1, .isub, 0, 0, 0, .null), (1, .imul, 0, 0, 0, .null), (1, .iload_n 1, 0, 0, 0, .null), (3, .if_icmp .ge 110, 203, 0, 0, .null), (1, .iconst 0, 0, 0, 0, .int 0), (1, .istore_n 3, 0, 0, 0, .null)]
set_option maxRecDepth 20000 in
theorem oX14_expandsx_86 : vm_okB 14 mX14_expands 86 bX14_expandsx_86 = true := by decide +kernel
def bX14_expandsx_98 : List vm_J := [(1, .iload_n 3, 0, 0, 0, .null), (2, .bipush 48, 0, 0, 0, .int 48), (3, .if_icmp .ge 26, 127, 0, 0, .null), (1, .aload_n 0, 0, 0, 0, .null), (1, .aload_n 0, 0, 0, 0, .null), (3, .getfield 305, 14, 29, 0, .null), (1, .iload_n 3, 0, 0, 0, .null), (1, .baload, 0, 0, 0, .null), (1, .aload_n 0, 0, 0, 0, .null), (3, .getfield 308, 14, 30, 0, .null), (1, .iload_n 3, 0, 0, 0, .null), (1, .baload, 0, 0, 0, .null), (1, .ixor, 0, 0, 0, .null), (3, .invokevirtual 206, 165, 1, 14, .null), (3, .iinc 3 1, 0, 0, 0, .int 1), (3, .goto (-26), 98, 0, 0, .null)]
set_option maxRecDepth 20000 in
theorem oX14_expandsx_98 : vm_okB 14 mX14_expands 98 bX14_expandsx_98 = true := by decide +kernel
def bX14_expandsx_127 : List vm_J := [(1, .aload_n 0, 0, 0, 0, .null), (1, .iload_n 2, 0, 0, 0, .null), (3, .invokevirtual 206, 165, 1, 14, .null), (1, .aload_n 0, 0, 0, 0, .null), (3, .invokevirtual 299, 178, 0, 14, .null), (1, .aload_n 0, 0, 0, 0, .null), (3, .invokevirtual 302, 175, 0, 14, .null), (1, .iconst 0, 0, 0, 0, .int 0), (1, .istore_n 3, 0, 0, 0, .null)]
set_option maxRecDepth 20000 in
theorem oX14_expandsx_127 : vm_okB 14 mX14_expands 127 bX14_expandsx_127 = true := by decide +kernel
def bX14_expandsx_142 : List vm_J := [(1, .iload_n 3, 0, 0, 0, .null), (2, .bipush 48, 0, 0, 0, .int 48), (3, .if_icmp .ge 52, 197, 0, 0, .null), (1, .aload_n 0, 0, 0, 0, .null), (3, .getfield 308, 14, 30, 0, .null), (1, .iload_n 3, 0, 0, 0, .null), (1, .aload_n 0, 0, 0, 0, .null), (3, .getfield 243, 14, 20, 0, .null), (1, .iload_n 3, 0, 0, 0, .null), (1, .baload, 0, 0, 0, .null), (1, .bastore, 0, 0, 0, .null)]
set_option maxRecDepth 20000 in
theorem oX14_expandsx_142 : vm_okB 14 mX14_expands 142 bX14_expandsx_142 = true := by decide +kernel
def bX14_expandsx_160 : List vm_J := [(2, .bipush 48, 0, 0, 0, .int 48), (1, .iload_n 2, 0, 0, 0, .null), (1, .iconst 1, 0, 0, 0, .int 1), (1, .isub, 0, 0, 0, .null), (1, .imul, 0, 0, 0, .null), (1, .iload_n 3, 0, 0, 0, .null), (1, .iadd, 0, 0, 0, .null), (1, .iload_n 1, 0, 0, 0, .null), (3, .if_icmp .ge 22, 191, 0, 0, .null), (1, .aload_n 0, 0, 0, 0, .null), (3, .getfield 311, 14, 31, 0, .null), (2, .bipush 48, 0, 0, 0, .int 48), (1, .iload_n 2, 0, 0, 0, .null), (1, .iconst 1, 0, 0, 0, .int 1), (1, .isub, 0, 0, 0, .null), (1, .imul, 0, 0, 0, .null), (1, .iload_n 3, 0, 0, 0, .null), (1, .iadd, 0, 0, 0, .null), (1, .aload_n 0, 0, 0, 0, .null), (3, .getfield 243, 14, 20, 0, .null), (1, .iload_n 3, 0, 0, 0, .null), (1, .baload, 0, 0, 0, .null), (1, .bastore, 0, 0, 0, .null)]
set_option maxRecDepth 20000 in
theorem oX14_expandsx_160 : vm_okB 14 mX14_expands 160 bX14_expandsx_160 = true := by decide +kernel
def bX14_expandsx_191 : List vm_J := [(3, .iinc 3 1, 0, 0, 0, .int 1), (3, .goto (-52), 142, 0, 0, .null)]
set_option maxRecDepth 20000 in
theorem oX14_expandsx_191 : vm_okB 14 mX14_expands 191 bX14_expandsx_191 = true := by decide +kernel
def bX14_expandsx_197 : List vm_J := [(3, .iinc 2 1, 0, 0, 0, .int 1), (3, .goto (-114), 86, 0, 0, .null)]
set_option maxRecDepth 20000 in
theorem oX14_expandsx_197 : vm_okB 14 mX14_expands 197 bX14_expandsx_197 = true := by decide +kernel
def bX14_expandsx_203 : List vm_J := [(1, .return_, 0, 0, 0, .null)]
set_option maxRecDepth 20000 in
theorem oX14_expandsx_203 : vm_okB 14 mX14_expands 203 bX14_expandsx_203 = true := by decide +kernel
section
variable {l : Launch} {O : Nat → vm_Ob} {f9 : Value} {h : vm_H} {a : Nat} {t : KT} {g : Nat → Int32} {w m y : List Nat}
theorem bstp {c : Nat → Nat} {v : Nat → Nat} {i x p : Nat} (h1 : ∀ j, j < i → c (p + j) = v j) (hx : x = v i) : ∀ j, j < i + 1 → b1 c (p + i) x (p + j) = v j := by
  intro j hj
  unfold b1
  by_cases e : j = i
  · rw [if_pos (by omega), hx, e]
  · rw [if_neg (by omega)]; exact h1 j (by omega)
theorem bstq {c c0 : Nat → Nat} {i x p : Nat} (h1 : ∀ j, j < p ∨ p + i ≤ j → c j = c0 j) : ∀ j, j < p ∨ p + (i + 1) ≤ j → b1 c (p + i) x j = c0 j := by
  intro j hj
  unfold b1
  rw [if_neg (by omega)]; exact h1 j (by omega)
theorem SY_clr (k : SY h a t g w m y) {h' : vm_H} (e : h' = vm_up h a (RO a (u3 g (nI ([] : List Nat).length) (nI m.length) (nI y.length)))) : SY h' a t g [] m y ∧ fr h h' (fun q => q = a) := by
  have F6 : fr h h' (fun q => q = a) := e ▸ fr_up rfl
  obtain ⟨c9, b9, _⟩ := k.2.2.1
  exact ⟨SY_nw k F6 (fun q z => .inl z) (by rw [e]; exact vm_upe) ⟨by decide, k.2.1.2⟩ ⟨c9, bv_cg b9 (F6.2 _ (by omega)), rfl⟩ (rl9_cg k.2.2.2.1 (F6.2 _ (by omega))) (rl9_cg k.2.2.2.2 (F6.2 _ (by omega))), F6⟩
theorem rm_tags {s : Nat} {v : List Nat} (h9 : f9.category = 1) (k : SY h a t g w m y) (hs : sto h s v.length (gb v)) (hl : v.length ≤ 28) : vm_Met (vm_env l O f9) mX14_tags 0 0 [.ref a, .ref s] h (fun r h' => r = none ∧ SY h' a t g [] m (v ++ wCX) ∧ fr h h' (fun q => q = a ∨ q = a + 28 ∨ q = a + 35)) := by
  have ao := k.1.2.1
  have la : a < 1099511627776 := by omega
  have l35 : a + 35 < 1099511627776 := by omega
  refine vm_met rfl (Nat.le_of_ble_eq_true rfl) ?_
  refine vm_go rfl bX14_tagsx_0 oX14_tagsx_0 ⟨_, k.1.1, la, show 19 < 89 by decide, trivial, ?_⟩
  obtain ⟨h1, eh1⟩ : ∃ h1, h1 = vm_up h a (RO a (u3 g (nI ([] : List Nat).length) (nI m.length) (nI y.length))) := ⟨_, rfl⟩
  obtain ⟨k1, F1⟩ := SY_clr k eh1
  refine vm_Th (lv' := [(0, .ref a), (1, .ref s)]) (h' := h1) rfl eh1 ?_
  refine vm_go rfl bX14_tagsx_5 oX14_tagsx_5 ⟨_, k1.1.1, 0, 0, _, rm_word h9 k1 (sto_fr hs (fun q hq => F1.2 q (by omega))) (by omega) (by rw [List.length_nil]; omega), Nat.zero_le _, Nat.zero_le _, ?_⟩
  rintro _ h2 ⟨rfl, k2, F2⟩
  refine ⟨_, k2.1.1, 0, 0, _, rm_context h9 k2 (by rw [List.nil_append]; omega), Nat.zero_le _, Nat.zero_le _, ?_⟩
  rintro _ h3 ⟨rfl, k3, F3⟩
  rw [List.nil_append] at k3
  have FF : fr h h3 (fun q => q = a ∨ q = a + 28 ∨ q = a + 35) := fr_trans (fr_mono F1 (fun q z => .inl z)) (fr_trans (fr_mono F2 (fun q z => by omega)) (fr_mono F3 (fun q z => by omega)))
  obtain ⟨W, eW⟩ : ∃ W, v ++ wCX = W := ⟨_, rfl⟩
  have hW : W.length ≤ 48 := by rw [← eW, List.length_append]; show _ + 20 ≤ 48; omega
  rw [eW] at k3 ⊢
  obtain ⟨c, bc, ec⟩ := k3.2.2.1
  obtain ⟨f, ef, vf⟩ := id bc
  obtain ⟨c35, bc35, _⟩ := k3.2.2.2.2
  refine vm_Th (lv' := [(0, .ref a), (1, .ref s), (2, .int (nI 0))]) (h' := h3) rfl rfl ?_
  refine vm_loop (fun i h' => RK h' a t (u3 g (nI W.length) (nI m.length) (nI y.length)) ∧ (∃ c', bv h' 48 (a + 35) c' ∧ ∀ j, j < i → c' (0 + j) = c j) ∧ fr h3 h' (fun q => q = a + 35)) W.length (fun i => [(0, .ref a), (1, .ref s), (2, .int (nI i))]) 0 h3 (Nat.zero_le _) ⟨k3.1, ⟨c35, bc35, fun j hj => by omega⟩, fr_refl⟩ ?_ ?_
  rotate_left
  · rintro i h5 _ hi ⟨k5, ⟨c5, ⟨f5, ef5, vf5⟩, v5⟩, F5⟩ ih
    have vs := vf i (by omega)
    refine vm_go rfl bX14_tagsx_16 oX14_tagsx_16 ⟨_, _, k5.1, rfl, ⟨fun q => ?_, fun _ => ⟨_, _, k5.1, rfl, ⟨_, _, k5.1, rfl, ⟨2600, f, (F5.2 _ (by omega)).trans ef, i, rfl, by omega, fun _ => ⟨48, f5, ef5, l35, i, rfl, by omega, ?_⟩⟩⟩⟩⟩⟩
    · have q : nI W.length ≤ nI i := q
      exact absurd q (nI_ge hi (by omega))
    obtain ⟨h6, eh6⟩ : ∃ h6, h6 = vm_up h5 (a + 35) (.inl (.byte, 48, .inl (upd f5 i (sb (c i))))) := ⟨_, rfl⟩
    have F6 : fr h5 h6 (fun q => q = a + 35) := eh6 ▸ fr_up rfl
    have b6' : bv h6 48 (a + 35) (b1 c5 i (c i)) := eh6 ▸ bv_up vf5 vs.2
    refine vm_Th (lv' := [(0, .ref a), (1, .ref s), (2, .int (nI i))]) (h' := h6) rfl (by rw [eh6, ← sb_self _ vs.2, ← vs.1]; rfl) ?_
    rw [← Nat.zero_add i] at b6'
    refine vm_go rfl bX14_tagsx_36 oX14_tagsx_36 (vm_Th (by rw [← nI_1]; rfl) rfl (ih h6 ⟨RK_of k5 F6 ((F6.2 a (by omega)).trans k5.1) (fun q z => .inr (z ▸ GD_r (i := 35) (by unfold ZB; omega) rfl ⟨_, b6'⟩)), ⟨_, b6', bstp v5 (by rw [Nat.zero_add])⟩, fr_trans F5 F6⟩))
  rintro h5 ⟨k5, ⟨c5, b5, v5⟩, F5⟩
  refine vm_go rfl bX14_tagsx_16 oX14_tagsx_16 ⟨_, _, k5.1, rfl, ⟨fun _ => ?_, fun q => absurd (show nI W.length ≤ nI W.length from nI_le (Nat.le_refl _) (by omega)) q⟩⟩
  refine vm_go rfl bX14_tagsx_42 oX14_tagsx_42 ⟨_, _, k5.1, rfl, ⟨_, k5.1, la, show 28 < 89 by decide, trivial, ?_⟩⟩
  obtain ⟨h6, eh6⟩ : ∃ h6, h6 = vm_up h5 a (RO a (u3 g (nI W.length) (nI m.length) (nI W.length))) := ⟨_, rfl⟩
  have F6 : fr h5 h6 (fun q => q = a) := eh6 ▸ fr_up rfl
  have r6 : h6.2 a = RO a (u3 g (nI W.length) (nI m.length) (nI W.length)) := by rw [eh6]; exact vm_upe
  refine vm_Th (lv' := [(0, .ref a), (1, .ref s), (2, .int (nI W.length))]) (h' := h6) rfl eh6 ?_
  refine vm_go rfl bX14_tagsx_50 oX14_tagsx_50 ⟨_, r6, la, show 19 < 89 by decide, trivial, ?_⟩
  obtain ⟨h7, eh7⟩ : ∃ h7, h7 = vm_up h6 a (RO a (u3 g (nI ([] : List Nat).length) (nI m.length) (nI W.length))) := ⟨_, rfl⟩
  have F7 : fr h6 h7 (fun q => q = a) := eh7 ▸ fr_up rfl
  refine vm_Th (lv' := [(0, .ref a), (1, .ref s), (2, .int (nI W.length))]) (h' := h7) rfl eh7 ?_
  have G : fr h3 h7 (fun q => q = a ∨ q = a + 28 ∨ q = a + 34 ∨ q = a + 35) := fr_trans (fr_mono F5 (fun q z => by omega)) (fr_trans (fr_mono F6 (fun q z => .inl z)) (fr_mono F7 (fun q z => .inl z)))
  have G2 : fr h3 h7 (fun q => q = a ∨ q = a + 35) := fr_trans (fr_mono F5 (fun q z => by omega)) (fr_trans (fr_mono F6 (fun q z => .inl z)) (fr_mono F7 (fun q z => .inl z)))
  refine vm_go rfl bX14_tagsx_55 oX14_tagsx_55 ⟨rfl, SY_nw k3 G (fun q z => z) (by rw [eh7]; exact vm_upe) ⟨by decide, k3.2.1.2.1, hW⟩ ⟨c, bv_cg bc (G2.2 _ (by omega)), rfl⟩ (rl9_cg k3.2.2.2.1 (G2.2 _ (by omega))) ⟨c5, bv_cg (bv_cg b5 (F6.2 _ (by omega))) (F7.2 _ (by omega)), ?_⟩, fr_trans FF (fr_mono G2 (fun q z => by omega))⟩
  conv => rhs; rw [← ec]
  exact sl_ext (fun j hj => by rw [v5 j hj, Nat.zero_add])
theorem rm_endsTag (k : SY h a t g w m y) (hl : w.length ≤ 2500) : vm_Met (vm_env l O f9) mX14_endsTag 0 0 [.ref a] h (fun r h' => r = none ∧ SY h' a t g (w ++ y ++ [y.length]) m y ∧ fr h h' (fun q => q = a ∨ q = a + 28)) := by
  obtain ⟨c, bc, ec⟩ := k.2.2.2.2
  have hy := k.2.1.2.2
  refine vm_met rfl (Nat.le_of_ble_eq_true rfl) ?_
  refine vm_go rfl bX14_endsTag_0 oX14_endsTag_0 ⟨_, _, k.1.1, rfl, ⟨_, _, k.1.1, rfl, ⟨_, k.1.1, 0, 0, _, rm_says (at9 := 0) (n := y.length) k bc (by omega) (by omega) (by decide) (by omega), Nat.zero_le _, Nat.zero_le _, ?_⟩⟩⟩
  rintro _ h1 ⟨rfl, k1, F1⟩
  rw [ec] at k1
  refine ⟨_, _, k1.1.1, rfl, ⟨_, k1.1.1, 0, 0, _, rm_say (v := nI y.length) (x := y.length) k1 (by rw [sb_nI, Nat.mod_eq_of_lt (by omega)]) (by omega) (by rw [List.length_append]; omega), Nat.zero_le _, Nat.zero_le _, ?_⟩⟩
  rintro _ h2 ⟨rfl, k2, F2⟩
  exact ⟨rfl, k2, fr_trans F1 F2⟩
theorem b_of {h : vm_H} {L q : Nat} {c : Nat → Nat} {x : List Nat} {n : Nat} (hb : bv h L q c) (e : sl c 0 n = x) : ∀ j, j < n → c j = gb x j := fun j hj => by
  have := sl_all e j hj
  rwa [Nat.zero_add] at this
theorem rm_expands {many n : Nat} (k : SY h a t g [] m y) (hn : 48 * (n - 1) < many ∧ many ≤ 48 * n ∧ 1 ≤ n ∧ n ≤ 3) : vm_Met (vm_env l O f9) mX14_expands 0 0 [.ref a, .int (nI many)] h (fun r h' => r = none ∧ SY h' a t g [] m y ∧ (∃ c, bv h' 144 (a + 38) c ∧ ∀ j, j < many → c j = gb (xpd t.2.2.1 t.2.2.2 y m many n) j) ∧ fr h h' (fun q => q = a ∨ (a + 28 ≤ q ∧ q ≤ a + 33) ∨ (a + 36 ≤ q ∧ q ≤ a + 38))) := by
  have ao := k.1.2.1
  have l36 : a + 36 < 1099511627776 := by omega
  have l37 : a + 37 < 1099511627776 := by omega
  have l38 : a + 38 < 1099511627776 := by omega
  obtain ⟨_, hm, hy⟩ := k.2.1
  refine vm_met rfl (Nat.le_of_ble_eq_true rfl) ?_
  refine vm_go rfl bX14_expandsx_0 oX14_expandsx_0 ?_
  refine vm_Th (lv' := [(0, .ref a), (1, .int (nI many)), (2, .int (nI 0))]) (h' := h) rfl rfl ?_
  refine vm_loop (fun i h' => SY h' a t g (List.replicate i 0) m y ∧ fr h h' (fun q => q = a ∨ (a + 28 ≤ q ∧ q ≤ a + 33) ∨ (a + 36 ≤ q ∧ q ≤ a + 38))) 128 (fun i => [(0, .ref a), (1, .int (nI many)), (2, .int (nI i))]) 0 h (Nat.zero_le _) ⟨k, fr_refl⟩ ?_ ?_
  rotate_left
  · rintro i h1 _ hi ⟨k1, F1⟩ ih
    refine vm_go rfl bX14_expandsx_2 oX14_expandsx_2 ⟨fun q => absurd q (nI_ge (b := 128) hi (by decide)), fun _ => ⟨_, k1.1.1, 0, 0, _, rm_say (x := 0) k1 (by decide) (by decide) (by rw [List.length_replicate]; omega), Nat.zero_le _, Nat.zero_le _, ?_⟩⟩
    rintro _ h2 ⟨rfl, k2, F2⟩
    rw [rep_s] at k2
    exact vm_Th (by rw [← nI_1]; rfl) rfl (ih h2 ⟨k2, fr_trans F1 (fr_mono F2 (fun q z => by omega))⟩)
  rintro h1 ⟨k1, F1⟩
  refine vm_go rfl bX14_expandsx_2 oX14_expandsx_2 ⟨fun _ => ?_, fun q => absurd (nI_le (a := 128) (b := 128) (by decide) (by decide)) q⟩
  obtain ⟨cm, bm, em⟩ := k1.2.2.2.1
  have e128 : (List.replicate 128 0 : List Nat).length = 128 := List.length_replicate
  refine vm_go rfl bX14_expandsx_20 oX14_expandsx_20 ⟨_, _, k1.1.1, rfl, ⟨_, _, k1.1.1, rfl, ⟨_, k1.1.1, 0, 0, _, rm_says (at9 := 0) (n := m.length) k1 bm (by omega) (by omega) (by decide) (by rw [e128]; omega), Nat.zero_le _, Nat.zero_le _, ?_⟩⟩⟩
  rintro _ h2 ⟨rfl, k2, F2⟩
  rw [em] at k2
  refine ⟨_, k2.1.1, 0, 0, _, rm_both (v := many) k2 (by omega) (by rw [List.length_append, e128]; omega), Nat.zero_le _, Nat.zero_le _, ?_⟩
  rintro _ h3 ⟨rfl, k3, F3⟩
  refine ⟨_, k3.1.1, 0, 0, _, rm_say (x := 0) k3 (by decide) (by decide) (by rw [List.length_append, List.length_append, nb_len, e128]; omega), Nat.zero_le _, Nat.zero_le _, ?_⟩
  rintro _ h4 ⟨rfl, k4, F4⟩
  refine ⟨_, k4.1.1, 0, 0, _, rm_endsTag k4 (by rw [List.length_append, List.length_append, List.length_append, nb_len, e128]; show _ + 1 ≤ 2500; omega), Nat.zero_le _, Nat.zero_le _, ?_⟩
  rintro _ h5 ⟨rfl, k5, F5⟩
  refine ⟨_, k5.1.1, 0, 0, _, rm_h3 k5 (by rw [List.length_append, List.length_append, List.length_append, List.length_append, List.length_append, nb_len, e128]; show _ + 1 + _ + 1 ≤ 2400; omega), Nat.zero_le _, Nat.zero_le _, ?_⟩
  rintro _ h6 ⟨rfl, k6, ⟨cd, bd, ed⟩, F6⟩
  obtain ⟨b0, eb0⟩ : ∃ b0, xb0 t.2.2.1 t.2.2.2 y m many = b0 := ⟨_, rfl⟩
  have l0 : b0.length = 48 := by rw [← eb0]; exact H3_len
  have ed : sl cd 0 48 = b0 := by rw [← eb0]; exact ed
  have o0 : ok8 b0 := by rw [← eb0]; exact H3_ok
  have vd := b_of bd ed
  have FF : fr h h6 (fun q => q = a ∨ (a + 28 ≤ q ∧ q ≤ a + 33) ∨ (a + 36 ≤ q ∧ q ≤ a + 38)) := fr_trans F1 (fr_trans (fr_mono F2 (fun q z => by omega)) (fr_trans (fr_mono F3 (fun q z => by omega)) (fr_trans (fr_mono F4 (fun q z => by omega)) (fr_trans (fr_mono F5 (fun q z => by omega)) (fr_mono F6 (fun q z => by omega))))))
  clear F1 F2 F3 F4 F5 F6 k1 k2 k3 k4 k5 bm em
  obtain ⟨fd, efd, vfd⟩ := id bd
  obtain ⟨c36, b36⟩ := k6.1.2.2.2.2.2.1 36 (by unfold ZB; omega)
  obtain ⟨c37, b37⟩ := k6.1.2.2.2.2.2.1 37 (by unfold ZB; omega)
  obtain ⟨c38, b38⟩ := k6.1.2.2.2.2.2.1 38 (by unfold ZB; omega)
  refine vm_Th (lv' := [(0, .ref a), (1, .int (nI many)), (2, .int (nI 0))]) (h' := h6) rfl rfl ?_
  refine vm_loop (fun i h' => SY h' a t g [] m y ∧ (∃ c, bv h' 48 (a + 36) c ∧ ∀ j, j < i → c (0 + j) = gb b0 j) ∧ (∃ c, bv h' 48 (a + 37) c ∧ ∀ j, j < i → c (0 + j) = gb (List.replicate 48 0) j) ∧ fr h6 h' (fun q => q = a + 36 ∨ q = a + 37)) 48 (fun i => [(0, .ref a), (1, .int (nI many)), (2, .int (nI i))]) 0 h6 (Nat.zero_le _) ⟨k6, ⟨c36, b36, fun j hj => by omega⟩, ⟨c37, b37, fun j hj => by omega⟩, fr_refl⟩ ?_ ?_
  rotate_left
  · rintro i h7 _ hi ⟨k7, ⟨c5, ⟨f5, ef5, vf5⟩, v5⟩, ⟨c6, bc6, v6⟩, F7⟩ ih
    have vs := vfd i (by omega)
    refine vm_go rfl bX14_expandsx_53 oX14_expandsx_53 ⟨fun q => absurd q (nI_ge (b := 48) hi (by decide)), fun _ => ⟨_, _, k7.1.1, rfl, ⟨_, _, k7.1.1, rfl, ⟨48, fd, (F7.2 _ (by omega)).trans efd, i, rfl, hi, fun _ => ⟨48, f5, ef5, l36, i, rfl, hi, ?_⟩⟩⟩⟩⟩
    obtain ⟨h8, eh8⟩ : ∃ h8, h8 = vm_up h7 (a + 36) (.inl (.byte, 48, .inl (upd f5 i (sb (cd i))))) := ⟨_, rfl⟩
    have F8 : fr h7 h8 (fun q => q = a + 36) := eh8 ▸ fr_up rfl
    have b8' : bv h8 48 (a + 36) (b1 c5 i (cd i)) := eh8 ▸ bv_up vf5 vs.2
    refine vm_Th (lv' := [(0, .ref a), (1, .int (nI many)), (2, .int (nI i))]) (h' := h8) rfl (by rw [eh8, ← sb_self _ vs.2, ← vs.1]; rfl) ?_
    have k8 : SY h8 a t g [] m y := SY_fr k7 (RK_of k7.1 F8 ((F8.2 a (by omega)).trans k7.1.1) (fun q z => .inr (z ▸ GD_r (i := 36) (by unfold ZB; omega) rfl ⟨_, b8'⟩))) F8 (by omega)
    obtain ⟨f6, ef6, vf6⟩ := bv_cg bc6 (F8.2 _ (by omega))
    refine vm_go rfl bX14_expandsx_71 oX14_expandsx_71 ⟨_, _, k8.1.1, rfl, ⟨48, f6, ef6, l37, i, rfl, hi, ?_⟩⟩
    obtain ⟨h9, eh9⟩ : ∃ h9, h9 = vm_up h8 (a + 37) (.inl (.byte, 48, .inl (upd f6 i (sb 0)))) := ⟨_, rfl⟩
    have F9 : fr h8 h9 (fun q => q = a + 37) := eh9 ▸ fr_up rfl
    have b9' : bv h9 48 (a + 37) (b1 c6 i 0) := eh9 ▸ bv_up vf6 (by decide)
    refine vm_Th (lv' := [(0, .ref a), (1, .int (nI many)), (2, .int (nI i))]) (h' := h9) rfl (by rw [eh9, ← sb_self 0 (by decide)]; rfl) ?_
    have k9 : SY h9 a t g [] m y := SY_fr k8 (RK_of k8.1 F9 ((F9.2 a (by omega)).trans k8.1.1) (fun q z => .inr (z ▸ GD_r (i := 37) (by unfold ZB; omega) rfl ⟨_, b9'⟩))) F9 (by omega)
    have e0 := Nat.zero_add i
    rw [← e0] at b8' b9'
    refine vm_go rfl bX14_expandsx_78 oX14_expandsx_78 (vm_Th (by rw [← nI_1]; rfl) rfl (ih h9 ⟨k9, ⟨_, bv_cg b8' (F9.2 _ (by omega)), bstp v5 (by rw [e0]; exact vd i hi)⟩, ⟨_, b9', bstp v6 ?_⟩, fr_trans F7 (fr_trans (fr_mono F8 (fun q z => .inl z)) (fr_mono F9 (fun q z => .inr z)))⟩))
    rw [gb_at (by rw [List.length_replicate]; exact hi), List.getElem_replicate]
  rintro h7 ⟨k7, ⟨c5, b5, v5⟩, ⟨c6, b6, v6⟩, F7⟩
  refine vm_go rfl bX14_expandsx_53 oX14_expandsx_53 ⟨fun _ => ?_, fun q => absurd (nI_le (a := 48) (b := 48) (by decide) (by decide)) q⟩
  refine vm_go rfl bX14_expandsx_84 oX14_expandsx_84 ?_
  refine vm_Th (lv' := [(0, .ref a), (1, .int (nI many)), (2, .int (nI (0 + 1)))]) (h' := h7) rfl rfl ?_
  have P36 : ∀ h' : vm_H, fr h7 h' (fun q => q = a ∨ (a + 28 ≤ q ∧ q ≤ a + 33) ∨ q = a + 37 ∨ q = a + 38) → bv h' 48 (a + 36) c5 := fun h' F => bv_cg b5 (F.2 _ (by omega))
  have v5 : ∀ j, j < 48 → c5 j = gb b0 j := fun j hj => by
    have := v5 j hj
    rwa [Nat.zero_add] at this
  refine vm_loop (fun i h' => SY h' a t g [] m y ∧ (∃ c, bv h' 48 (a + 37) c ∧ ∀ j, j < 48 → c j = gb (xl t.2.2.1 t.2.2.2 y b0 i) j) ∧ (∃ c, bv h' 144 (a + 38) c ∧ ∀ j, j < 48 * i → j < many → c j = gb (xc t.2.2.1 t.2.2.2 y b0 i) j) ∧ fr h7 h' (fun q => q = a ∨ (a + 28 ≤ q ∧ q ≤ a + 33) ∨ q = a + 37 ∨ q = a + 38)) n (fun i => [(0, .ref a), (1, .int (nI many)), (2, .int (nI (i + 1)))]) 0 h7 (Nat.zero_le _) ⟨k7, ⟨c6, b6, fun j hj => by
    have := v6 j hj
    rwa [Nat.zero_add] at this⟩, ⟨c38, bv_cg b38 (F7.2 _ (by omega)), fun j hj => by omega⟩, fr_refl⟩ ?_ ?_
  · rintro h8 ⟨k8, _, ⟨c, bc, vc⟩, F8⟩
    have e1 : (48 : Int32) * (nI (n + 1) - 1) = nI (48 * n) := by
      rw [show nI (n + 1) - 1 = nI n from nI_sub (b := 1) (by omega), show (48 : Int32) = nI 48 from rfl, nI_mul]
    refine vm_go rfl bX14_expandsx_86 oX14_expandsx_86 ⟨fun _ => ?_, fun q => absurd (show nI many ≤ (48 : Int32) * (nI (n + 1) - 1) by rw [e1]; exact nI_le hn.2.1 (by omega)) q⟩
    refine vm_go rfl bX14_expandsx_203 oX14_expandsx_203 ⟨rfl, k8, ⟨c, bc, fun j hj => ?_⟩, fr_trans FF (fr_trans (fr_mono F7 (fun q z => by omega)) (fr_mono F8 (fun q z => by omega)))⟩
    unfold xpd
    rw [eb0]
    exact vc j (by omega) hj
  · rintro i h8 _ hi ⟨k8, ⟨cx, bx, vx⟩, ⟨cu9, bu, vu⟩, F8⟩ ih
    have e1 : (48 : Int32) * (nI (i + 1) - 1) = nI (48 * i) := by
      rw [show nI (i + 1) - 1 = nI i from nI_sub (b := 1) (by omega), show (48 : Int32) = nI 48 from rfl, nI_mul]
    refine vm_go rfl bX14_expandsx_86 oX14_expandsx_86 ⟨fun q => ?_, fun _ => ?_⟩
    · have q : nI many ≤ (48 : Int32) * (nI (i + 1) - 1) := q
      rw [e1] at q
      exact absurd q (nI_ge (by omega) (by omega))
    obtain ⟨X, eX⟩ : ∃ X, xl t.2.2.1 t.2.2.2 y b0 i = X := ⟨_, rfl⟩
    rw [eX] at vx
    obtain ⟨fx, efx, vfx⟩ := id bx
    obtain ⟨f5, ef5, vf5⟩ := id b5
    refine vm_Th (lv' := [(0, .ref a), (1, .int (nI many)), (2, .int (nI (i + 1))), (3, .int (nI 0))]) (h' := h8) rfl rfl ?_
    refine vm_loop (fun q h' => SY h' a t g (sl (fun j => gb b0 j ^^^ gb X j) 0 q) m y ∧ fr h8 h' (fun q => q = a ∨ q = a + 28)) 48 (fun q => [(0, .ref a), (1, .int (nI many)), (2, .int (nI (i + 1))), (3, .int (nI q))]) 0 h8 (Nat.zero_le _) ⟨k8, fr_refl⟩ ?_ ?_
    rotate_left
    · rintro q h9 _ hq ⟨k9, F9⟩ ih2
      have s5 := vf5 q hq
      have sx := vfx q hq
      have n5 := (F9.2 (a + 36) (by omega)).trans ((F8.2 (a + 36) (by omega)).trans ef5)
      have nx := (F9.2 (a + 37) (by omega)).trans efx
      have hlt : gb b0 q ^^^ gb X q < 256 := by
        rw [← v5 q hq, ← vx q hq]
        exact Nat.xor_lt_two_pow (n := 8) s5.2 sx.2
      refine vm_go rfl bX14_expandsx_98 oX14_expandsx_98 ⟨fun z => absurd z (nI_ge (b := 48) hq (by decide)), fun _ => ⟨_, _, k9.1.1, rfl, ⟨48, f5, n5, q, rfl, hq, fun _ => ⟨_, _, k9.1.1, rfl, ⟨48, fx, nx, q, rfl, hq, fun _ => ⟨_, k9.1.1, 0, 0, _, rm_say (x := gb b0 q ^^^ gb X q) k9 (by rw [s5.1, sx.1, v5 q hq, vx q hq]; exact xor_b) hlt (by rw [sl_len]; omega), Nat.zero_le _, Nat.zero_le _, ?_⟩⟩⟩⟩⟩⟩
      rintro _ h10 ⟨rfl, k10, F10⟩
      rw [show [gb b0 q ^^^ gb X q] = sl (fun j => gb b0 j ^^^ gb X j) (0 + q) 1 by rw [sl_1, Nat.zero_add], ← sl_app] at k10
      exact vm_Th (by rw [← nI_1 q]; rfl) rfl (ih2 h10 ⟨k10, fr_trans F9 F10⟩)
    rintro h9 ⟨k9, F9⟩
    refine vm_go rfl bX14_expandsx_98 oX14_expandsx_98 ⟨fun _ => ?_, fun q => absurd (nI_le (a := 48) (b := 48) (by decide) (by decide)) q⟩
    refine vm_go rfl bX14_expandsx_127 oX14_expandsx_127 ⟨_, k9.1.1, 0, 0, _, rm_say (x := i + 1) k9 (by rw [sb_nI, Nat.mod_eq_of_lt (by omega)]) (by omega) (by rw [sl_len]; decide), Nat.zero_le _, Nat.zero_le _, ?_⟩
    rintro _ h10 ⟨rfl, k10, F10⟩
    refine ⟨_, k10.1.1, 0, 0, _, rm_endsTag k10 (by rw [List.length_append, sl_len]; show 48 + 1 ≤ 2500; decide), Nat.zero_le _, Nat.zero_le _, ?_⟩
    rintro _ h11 ⟨rfl, k11, F11⟩
    refine ⟨_, k11.1.1, 0, 0, _, rm_h3 k11 (by rw [List.length_append, List.length_append, List.length_append, sl_len]; show 48 + 1 + _ + 1 ≤ 2400; omega), Nat.zero_le _, Nat.zero_le _, ?_⟩
    rintro _ h12 ⟨rfl, k12, ⟨cd, bd, ed⟩, F12⟩
    have exl : xl t.2.2.1 t.2.2.2 y b0 (i + 1) = H3 t.2.2.1 t.2.2.2 (sl (fun j => gb b0 j ^^^ gb X j) 0 48 ++ [i + 1] ++ y ++ [y.length]) := by rw [← eX]; rfl
    rw [← exl] at ed
    have vd := b_of bd ed
    obtain ⟨fd, efd, vfd⟩ := id bd
    have G : fr h8 h12 (fun q => q = a ∨ (a + 28 ≤ q ∧ q ≤ a + 33)) := fr_trans (fr_mono F9 (fun q z => by omega)) (fr_trans (fr_mono F10 (fun q z => by omega)) (fr_trans (fr_mono F11 (fun q z => by omega)) F12))
    have bx2 := bv_cg bx (G.2 (a + 37) (by omega))
    have bu2 := bv_cg bu (G.2 (a + 38) (by omega))
    refine vm_Th (lv' := [(0, .ref a), (1, .int (nI many)), (2, .int (nI (i + 1))), (3, .int (nI 0))]) (h' := h12) rfl rfl ?_
    refine vm_loop (fun q h' => SY h' a t g [] m y ∧ (∃ c, bv h' 48 (a + 37) c ∧ ∀ j, j < q → c (0 + j) = gb (xl t.2.2.1 t.2.2.2 y b0 (i + 1)) j) ∧ (∃ c, bv h' 144 (a + 38) c ∧ ∀ j, j < 48 * i + q → j < many → c j = gb (xc t.2.2.1 t.2.2.2 y b0 (i + 1)) j) ∧ fr h12 h' (fun q => q = a + 37 ∨ q = a + 38)) 48 (fun q => [(0, .ref a), (1, .int (nI many)), (2, .int (nI (i + 1))), (3, .int (nI q))]) 0 h12 (Nat.zero_le _) ⟨k12, ⟨cx, bx2, fun j hj => by omega⟩, ⟨cu9, bu2, fun j hj hj2 => ?_⟩, fr_refl⟩ ?_ ?_
    · rw [vu j (by omega) hj2]
      show _ = gb (xc _ _ _ _ i ++ xl _ _ _ _ (i + 1)) j
      rw [gb_lo (by rw [xc_len]; omega)]
    · rintro h13 ⟨k13, ⟨c37', b37', v37'⟩, ⟨c38', b38', v38'⟩, F13⟩
      refine vm_go rfl bX14_expandsx_142 oX14_expandsx_142 ⟨fun _ => ?_, fun q => absurd (nI_le (a := 48) (b := 48) (by decide) (by decide)) q⟩
      refine vm_go rfl bX14_expandsx_197 oX14_expandsx_197 ?_
      refine vm_less [0, 1, 2] rfl ?_
      refine vm_Th (by rw [← nI_1]; rfl) rfl (ih h13 ⟨k13, ⟨c37', b37', fun j hj => ?_⟩, ⟨c38', b38', fun j h1 h2 => v38' j (by omega) h2⟩, fr_trans F8 (fr_trans (fr_mono G (fun q z => by omega)) (fr_mono F13 (fun q z => by omega)))⟩)
      have := v37' j hj
      rwa [Nat.zero_add] at this
    · rintro q h13 _ hq ⟨k13, ⟨c37', ⟨f37, ef37, vf37⟩, v37'⟩, ⟨c38', b38', v38'⟩, F13⟩ ih2
      have vs := vfd q hq
      have nd := (F13.2 (a + 29) (by omega)).trans efd
      refine vm_go rfl bX14_expandsx_142 oX14_expandsx_142 ⟨fun z => absurd z (nI_ge (b := 48) hq (by decide)), fun _ => ⟨_, _, k13.1.1, rfl, ⟨_, _, k13.1.1, rfl, ⟨48, fd, nd, q, rfl, hq, fun _ => ⟨48, f37, ef37, l37, q, rfl, hq, ?_⟩⟩⟩⟩⟩
      obtain ⟨h14, eh14⟩ : ∃ h14, h14 = vm_up h13 (a + 37) (.inl (.byte, 48, .inl (upd f37 q (sb (cd q))))) := ⟨_, rfl⟩
      have F14 : fr h13 h14 (fun q => q = a + 37) := eh14 ▸ fr_up rfl
      have b14' : bv h14 48 (a + 37) (b1 c37' q (cd q)) := eh14 ▸ bv_up vf37 vs.2
      refine vm_Th (lv' := [(0, .ref a), (1, .int (nI many)), (2, .int (nI (i + 1))), (3, .int (nI q))]) (h' := h14) rfl (by rw [eh14, ← sb_self _ vs.2, ← vs.1]; rfl) ?_
      have k14 : SY h14 a t g [] m y := SY_fr k13 (RK_of k13.1 F14 ((F14.2 a (by omega)).trans k13.1.1) (fun q z => .inr (z ▸ GD_r (i := 37) (by unfold ZB; omega) rfl ⟨_, b14'⟩))) F14 (by omega)
      have b14' : bv h14 48 (a + 37) (b1 c37' (0 + q) (cd q)) := by rw [Nat.zero_add]; exact b14'
      have b38' := bv_cg b38' (F14.2 (a + 38) (by omega))
      have e2 : (48 : Int32) * (nI (i + 1) - 1) + nI q = nI (48 * i + q) := by rw [e1, nI_add]
      have gx : gb (xc t.2.2.1 t.2.2.2 y b0 (i + 1)) (48 * i + q) = cd q := by
        show gb (xc _ _ _ _ i ++ xl _ _ _ _ (i + 1)) _ = _
        rw [gb_hi (by rw [xc_len]; omega) (by rw [xc_len, xl_len]; omega), xc_len, show 48 * i + q - 48 * i = q by omega, vd q hq]
      have nx1 : ∀ h15 : vm_H, SY h15 a t g [] m y → bv h15 48 (a + 37) (b1 c37' (0 + q) (cd q)) → (∃ c, bv h15 144 (a + 38) c ∧ ∀ j, j < 48 * i + (q + 1) → j < many → c j = gb (xc t.2.2.1 t.2.2.2 y b0 (i + 1)) j) → fr h12 h15 (fun q => q = a + 37 ∨ q = a + 38) → vm_T (vm_env l O f9) mX14_expands 0 0 191 [(0, .ref a), (1, .int (nI many)), (2, .int (nI (i + 1))), (3, .int (nI q))] [] h15 (fun r h' => r = none ∧ SY h' a t g [] m y ∧ (∃ c, bv h' 144 (a + 38) c ∧ ∀ j, j < many → c j = gb (xpd t.2.2.1 t.2.2.2 y m many n) j) ∧ fr h h' (fun q => q = a ∨ (a + 28 ≤ q ∧ q ≤ a + 33) ∨ (a + 36 ≤ q ∧ q ≤ a + 38))) := by
        intro h15 k15 b15 u15 F15
        exact vm_go rfl bX14_expandsx_191 oX14_expandsx_191 (vm_Th (by rw [← nI_1 q]; rfl) rfl (ih2 h15 ⟨k15, ⟨_, b15, bstp v37' (vd q hq)⟩, u15, F15⟩))
      have F14' : fr h12 h14 (fun q => q = a + 37 ∨ q = a + 38) := fr_trans F13 (fr_mono F14 (fun q z => .inl z))
      refine vm_go rfl bX14_expandsx_160 oX14_expandsx_160 ⟨fun z => ?_, fun z => ?_⟩
      · have z : nI many ≤ (48 : Int32) * (nI (i + 1) - 1) + nI q := z
        rw [e2] at z
        have hz : many ≤ 48 * i + q := by
          rcases Nat.lt_or_ge (48 * i + q) many with u | u
          · exact absurd z (nI_ge u (by omega))
          · exact u
        exact nx1 h14 k14 b14' ⟨c38', b38', fun j h1 h2 => v38' j (by omega) h2⟩ F14'
      · obtain ⟨f38, ef38, vf38⟩ := id b38'
        refine ⟨_, _, k14.1.1, rfl, ⟨_, _, k14.1.1, rfl, ⟨48, fd, (F14.2 _ (by omega)).trans nd, q, rfl, hq, fun _ => ⟨144, f38, ef38, l38, 48 * i + q, e2, by omega, ?_⟩⟩⟩⟩
        obtain ⟨h15, eh15⟩ : ∃ h15, h15 = vm_up h14 (a + 38) (.inl (.byte, 144, .inl (upd f38 (48 * i + q) (sb (cd q))))) := ⟨_, rfl⟩
        have F15 : fr h14 h15 (fun q => q = a + 38) := eh15 ▸ fr_up rfl
        have b15' : bv h15 144 (a + 38) (b1 c38' (48 * i + q) (cd q)) := eh15 ▸ bv_up vf38 vs.2
        refine vm_Th (lv' := [(0, .ref a), (1, .int (nI many)), (2, .int (nI (i + 1))), (3, .int (nI q))]) (h' := h15) rfl (by rw [eh15, ← sb_self _ vs.2, ← vs.1]; rfl) ?_
        have k15 : SY h15 a t g [] m y := SY_fr k14 (RK_of k14.1 F15 ((F15.2 a (by omega)).trans k14.1.1) (fun q z => .inr (z ▸ GD_r (i := 38) (by unfold ZB; omega) rfl ⟨_, b15'⟩))) F15 (by omega)
        refine nx1 h15 k15 (bv_cg b14' (F15.2 _ (by omega))) ⟨_, b15', fun j h1 h2 => ?_⟩ (fr_trans F14' (fr_mono F15 (fun q z => .inr z)))
        unfold b1
        by_cases e : j = 48 * i + q
        · rw [if_pos e, e, gx]
        · rw [if_neg e]; exact v38' j (by omega) h2
end
