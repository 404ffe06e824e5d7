/-! the reference: composes, challenges -/
def bX14_composesx_0 : List vm_J := [(1, .aload_n 0, 0, 0, 0, .null)]
set_option maxRecDepth 20000 in
theorem oX14_composesx_0 : vm_okB 14 mX14_composes 0 bX14_composesx_0 = true := by decide +kernel
def bX14_composesx_4 : List vm_J := [(3, .invokevirtual 316, 177, 1, 14, .null), (1, .aload_n 0, 0, 0, 0, .null), (2, .bipush 49, 0, 0, 0, .int 49), (3, .invokevirtual 296, 167, 1, 14, .null), (1, .aload_n 2, 0, 0, 0, .null), (1, .aload_n 0, 0, 0, 0, .null), (3, .getfield 360, 14, 49, 0, .null), (1, .iconst 0, 0, 0, 0, .int 0), (3, .invokestatic 363, 163, 3, 0, .null), (1, .aload_n 0, 0, 0, 0, .null), (1, .aload_n 0, 0, 0, 0, .null), (3, .getfield 360, 14, 49, 0, .null), (1, .iconst 0, 0, 0, 0, .int 0), (2, .bipush 49, 0, 0, 0, .int 49), (3, .invokevirtual 287, 166, 3, 14, .null), (1, .aload_n 0, 0, 0, 0, .null), (1, .aload_n 0, 0, 0, 0, .null), (3, .getfield 284, 14, 28, 0, .null), (3, .invokevirtual 296, 167, 1, 14, .null), (1, .aload_n 0, 0, 0, 0, .null), (1, .aload_n 0, 0, 0, 0, .null), (3, .getfield 281, 14, 27, 0, .null), (1, .iconst 0, 0, 0, 0, .int 0), (1, .aload_n 0, 0, 0, 0, .null), (3, .getfield 284, 14, 28, 0, .null), (3, .invokevirtual 287, 166, 3, 14, .null), (1, .aload_n 0, 0, 0, 0, .null), (3, .invokevirtual 302, 175, 0, 14, .null), (1, .iconst 0, 0, 0, 0, .int 0), (1, .istore_n 3, 0, 0, 0, .null)]
set_option maxRecDepth 20000 in
theorem oX14_composesx_4 : vm_okB 14 mX14_composes 4 bX14_composesx_4 = true := by decide +kernel
def bX14_composesx_60 : List vm_J := [(1, .iload_n 3, 0, 0, 0, .null), (2, .bipush 48, 0, 0, 0, .int 48), (3, .if_icmp .ge 21, 84, 0, 0, .null), (1, .aload_n 0, 0, 0, 0, .null), (3, .getfield 372, 14, 48, 0, .null), (1, .iload_n 3, 0, 0, 0, .null), (1, .aload_n 0, 0, 0, 0, .null), (3, .getfield 243, 14, 20, 0, .null), (1, .iload_n 3, 0, 0, 0, .null), (1, .baload, 0, 0, 0, .null), (1, .bastore, 0, 0, 0, .null)]
set_option maxRecDepth 20000 in
theorem oX14_composesx_60 : vm_okB 14 mX14_composes 60 bX14_composesx_60 = true := by decide +kernel
def bX14_composesx_78 : List vm_J := [(3, .iinc 3 1, 0, 0, 0, .int 1), (3, .goto (-21), 60, 0, 0, .null)]
set_option maxRecDepth 20000 in
theorem oX14_composesx_78 : vm_okB 14 mX14_composes 78 bX14_composesx_78 = true := by decide +kernel
def bX14_composesx_84 : List vm_J := [(1, .aload_n 0, 0, 0, 0, .null), (3, .getfield 375, 14, 43, 0, .null), (1, .iconst 1, 0, 0, 0, .int 1), (3, .putfield 113, 13, 2, 2, .null)]
set_option maxRecDepth 20000 in
theorem oX14_composesx_84 : vm_okB 14 mX14_composes 84 bX14_composesx_84 = true := by decide +kernel
def bX14_composesx_92 : List vm_J := [(1, .aload_n 0, 0, 0, 0, .null), (3, .getfield 377, 14, 44, 0, .null), (1, .iconst 1, 0, 0, 0, .int 1), (3, .putfield 113, 13, 2, 2, .null)]
set_option maxRecDepth 20000 in
theorem oX14_composesx_92 : vm_okB 14 mX14_composes 92 bX14_composesx_92 = true := by decide +kernel
def bX14_composesx_100 : List vm_J := [(1, .iconst 0, 0, 0, 0, .int 0), (1, .istore_n 3, 0, 0, 0, .null)]
set_option maxRecDepth 20000 in
theorem oX14_composesx_100 : vm_okB 14 mX14_composes 100 bX14_composesx_100 = true := by decide +kernel
def bX14_composesx_102 : List vm_J := [(1, .iload_n 3, 0, 0, 0, .null), (1, .iload_n 1, 0, 0, 0, .null), (3, .if_icmp .ge 161, 265, 0, 0, .null), (1, .aload_n 0, 0, 0, 0, .null), (1, .iconst 0, 0, 0, 0, .int 0), (3, .putfield 293, 14, 26, 0, .null)]
set_option maxRecDepth 20000 in
theorem oX14_composesx_102 : vm_okB 14 mX14_composes 102 bX14_composesx_102 = true := by decide +kernel
def bX14_composesx_112 : List vm_J := [(1, .aload_n 0, 0, 0, 0, .null), (1, .aload_n 0, 0, 0, 0, .null), (3, .getfield 372, 14, 48, 0, .null), (1, .iconst 0, 0, 0, 0, .int 0), (2, .bipush 48, 0, 0, 0, .int 48), (3, .invokevirtual 367, 184, 3, 14, .null), (1, .aload_n 0, 0, 0, 0, .null), (3, .getfield 290, 14, 25, 0, .null), (1, .aload_n 0, 0, 0, 0, .null), (3, .getfield 293, 14, 26, 0, .null), (1, .iconst 0, 0, 0, 0, .int 0), (1, .bastore, 0, 0, 0, .null)]
set_option maxRecDepth 20000 in
theorem oX14_composesx_112 : vm_okB 14 mX14_composes 112 bX14_composesx_112 = true := by decide +kernel
def bX14_composesx_133 : List vm_J := [(1, .aload_n 0, 0, 0, 0, .null), (3, .getfield 290, 14, 25, 0, .null), (1, .aload_n 0, 0, 0, 0, .null), (3, .getfield 293, 14, 26, 0, .null), (1, .iconst 1, 0, 0, 0, .int 1), (1, .iadd, 0, 0, 0, .null), (1, .iload_n 3, 0, 0, 0, .null), (1, .i2b, 0, 0, 0, .null), (1, .bastore, 0, 0, 0, .null)]
set_option maxRecDepth 20000 in
theorem oX14_composesx_133 : vm_okB 14 mX14_composes 133 bX14_composesx_133 = true := by decide +kernel
def bX14_composesx_146 : List vm_J := [(1, .aload_n 0, 0, 0, 0, .null), (1, .dup, 0, 0, 0, .null), (3, .getfield 293, 14, 26, 0, .null), (1, .iconst 2, 0, 0, 0, .int 2), (1, .iadd, 0, 0, 0, .null), (3, .putfield 293, 14, 26, 0, .null)]
set_option maxRecDepth 20000 in
theorem oX14_composesx_146 : vm_okB 14 mX14_composes 146 bX14_composesx_146 = true := by decide +kernel
def bX14_composesx_156 : List vm_J := [(1, .aload_n 0, 0, 0, 0, .null), (1, .aload_n 0, 0, 0, 0, .null), (3, .getfield 380, 14, 41, 0, .null), (1, .iload_n 3, 0, 0, 0, .null), (1, .aaload, 0, 0, 0, .null), (3, .invokevirtual 384, 186, 1, 14, .null), (1, .aload_n 0, 0, 0, 0, .null), (1, .aload_n 0, 0, 0, 0, .null), (3, .getfield 387, 14, 42, 0, .null), (1, .iload_n 3, 0, 0, 0, .null), (1, .aaload, 0, 0, 0, .null), (3, .invokevirtual 384, 186, 1, 14, .null), (1, .aload_n 0, 0, 0, 0, .null)]
set_option maxRecDepth 20000 in
theorem oX14_composesx_156 : vm_okB 14 mX14_composes 156 bX14_composesx_156 = true := by decide +kernel
def bX14_composesx_180 : List vm_J := [(3, .invokevirtual 392, 185, 1, 14, .null), (1, .aload_n 0, 0, 0, 0, .null), (1, .aload_n 0, 0, 0, 0, .null), (3, .getfield 395, 14, 50, 0, .null), (3, .invokevirtual 398, 181, 1, 14, .null), (1, .aload_n 0, 0, 0, 0, .null), (1, .aload_n 0, 0, 0, 0, .null), (3, .getfield 395, 14, 50, 0, .null), (1, .aload_n 0, 0, 0, 0, .null), (3, .getfield 380, 14, 41, 0, .null), (1, .iload_n 3, 0, 0, 0, .null), (1, .aaload, 0, 0, 0, .null), (1, .aload_n 0, 0, 0, 0, .null), (3, .getfield 401, 14, 47, 0, .null), (3, .invokevirtual 404, 158, 3, 14, .null), (1, .aload_n 0, 0, 0, 0, .null), (1, .aload_n 0, 0, 0, 0, .null), (3, .getfield 375, 14, 43, 0, .null), (1, .aload_n 0, 0, 0, 0, .null), (3, .getfield 401, 14, 47, 0, .null), (1, .aload_n 0, 0, 0, 0, .null), (3, .getfield 375, 14, 43, 0, .null), (3, .invokevirtual 156, 157, 3, 14, .null), (1, .aload_n 0, 0, 0, 0, .null), (1, .aload_n 0, 0, 0, 0, .null), (3, .getfield 395, 14, 50, 0, .null), (1, .aload_n 0, 0, 0, 0, .null), (3, .getfield 387, 14, 42, 0, .null), (1, .iload_n 3, 0, 0, 0, .null), (1, .aaload, 0, 0, 0, .null), (1, .aload_n 0, 0, 0, 0, .null), (3, .getfield 401, 14, 47, 0, .null), (3, .invokevirtual 404, 158, 3, 14, .null), (1, .aload_n 0, 0, 0, 0, .null), (1, .aload_n 0, 0, 0, 0, .null), (3, .getfield 377, 14, 44, 0, .null), (1, .aload_n 0, 0, 0, 0, .null), (3, .getfield 401, 14, 47, 0, .null), (1, .aload_n 0, 0, 0, 0, .null), (3, .getfield 377, 14, 44, 0, .null), (3, .invokevirtual 156, 157, 3, 14, .null), (3, .iinc 3 1, 0, 0, 0, .int 1), (3, .goto (-160), 102, 0, 0, .null)]
set_option maxRecDepth 20000 in
theorem oX14_composesx_180 : vm_okB 14 mX14_composes 180 bX14_composesx_180 = true := by decide +kernel
def bX14_composesx_265 : List vm_J := [(1, .return_, 0, 0, 0, .null)]
set_option maxRecDepth 20000 in
theorem oX14_composesx_265 : vm_okB 14 mX14_composes 265 bX14_composesx_265 = true := by decide +kernel
def bX14_challengesx_0 : List vm_J := [(1, .aload_n 0, 0, 0, 0, .null), (3, .getfield 375, 14, 43, 0, .null), (3, .getfield 113, 13, 2, 0, .null), (3, .ifCond .ne 33, 40, 0, 0, .null), (1, .aload_n 0, 0, 0, 0, .null), (3, .getfield 377, 14, 44, 0, .null), (3, .getfield 113, 13, 2, 0, .null), (3, .ifCond .ne 23, 40, 0, 0, .null), (1, .aload_n 0, 0, 0, 0, .null), (3, .getfield 408, 14, 45, 0, .null), (3, .getfield 113, 13, 2, 0, .null), (3, .ifCond .ne 13, 40, 0, 0, .null), (1, .aload_n 0, 0, 0, 0, .null), (3, .getfield 411, 14, 46, 0, .null), (3, .getfield 113, 13, 2, 0, .null), (3, .ifCond .eq 5, 42, 0, 0, .null)]
set_option maxRecDepth 20000 in
theorem oX14_challengesx_0 : vm_okB 14 mX14_challenges 0 bX14_challengesx_0 = true := by decide +kernel
def bX14_challengesx_40 : List vm_J := [(1, .iconst 0, 0, 0, 0, .int 0), (1, .ireturn, 0, 0, 0, .null)]
set_option maxRecDepth 20000 in
theorem oX14_challengesx_40 : vm_okB 14 mX14_challenges 40 bX14_challengesx_40 = true := by decide +kernel
def bX14_challengesx_42 : List vm_J := [(1, .aload_n 0, 0, 0, 0, .null), (1, .iconst 0, 0, 0, 0, .int 0), (3, .putfield 293, 14, 26, 0, .null)]
set_option maxRecDepth 20000 in
theorem oX14_challengesx_42 : vm_okB 14 mX14_challenges 42 bX14_challengesx_42 = true := by decide +kernel
def bX14_challengesx_47 : List vm_J := [(1, .aload_n 0, 0, 0, 0, .null), (1, .aload_n 1, 0, 0, 0, .null), (3, .invokevirtual 384, 186, 1, 14, .null), (1, .aload_n 0, 0, 0, 0, .null), (1, .aload_n 0, 0, 0, 0, .null), (3, .getfield 375, 14, 43, 0, .null), (3, .invokevirtual 384, 186, 1, 14, .null), (1, .aload_n 0, 0, 0, 0, .null), (1, .aload_n 0, 0, 0, 0, .null), (3, .getfield 377, 14, 44, 0, .null), (3, .invokevirtual 384, 186, 1, 14, .null), (1, .aload_n 0, 0, 0, 0, .null), (1, .aload_n 0, 0, 0, 0, .null), (3, .getfield 408, 14, 45, 0, .null), (3, .invokevirtual 384, 186, 1, 14, .null), (1, .aload_n 0, 0, 0, 0, .null), (1, .aload_n 0, 0, 0, 0, .null), (3, .getfield 411, 14, 46, 0, .null), (3, .invokevirtual 384, 186, 1, 14, .null), (1, .aload_n 0, 0, 0, 0, .null)]
set_option maxRecDepth 20000 in
theorem oX14_challengesx_47 : vm_okB 14 mX14_challenges 47 bX14_challengesx_47 = true := by decide +kernel
def bX14_challengesx_88 : List vm_J := [(3, .invokevirtual 392, 185, 1, 14, .null), (1, .aload_n 0, 0, 0, 0, .null), (1, .aload_n 2, 0, 0, 0, .null), (3, .invokevirtual 398, 181, 1, 14, .null), (1, .iconst 1, 0, 0, 0, .int 1), (1, .ireturn, 0, 0, 0, .null)]
set_option maxRecDepth 20000 in
theorem oX14_challengesx_88 : vm_okB 14 mX14_challenges 88 bX14_challengesx_88 = true := by decide +kernel
def CP (a q : Nat) : Prop := q = a ∨ JM a q ∨ (a + 28 ≤ q ∧ q ≤ a + 38) ∨ (a + 52 ≤ q ∧ q ≤ a + 57) ∨ (a + 64 ≤ q ∧ q ≤ a + 69)
theorem cQ_12 : cQ < 4294967296 ^ 12 := by decide +kernel
section
variable {l : Launch} {O : Nat → vm_Ob} {f9 : Value} {h : vm_H} {a : Nat} {t : KT} {g : Nat → Int32} {w m y : List Nat}
theorem put_none {s : Nat} {v : Int32} (k : SY h a t g w m y) (z : ZP s) {h' : vm_H} (e : h' = vm_up h (a + s) (SPo (a + s) v)) : SY h' a t g w m y ∧ fr h h' (fun q => q = a + s) ∧ h'.2 (a + s) = SPo (a + s) v := by
  have F : fr h h' (fun q => q = a + s) := e ▸ fr_up rfl
  have r : h'.2 (a + s) = SPo (a + s) v := by rw [e]; exact vm_upe
  have q := RK_p k.1 z
  have zs : s ≠ 0 ∧ s ≠ 28 ∧ s ≠ 34 ∧ s ≠ 35 := by unfold ZP at z; omega
  refine ⟨SY_fr k (RK_of k.1 F ((F.2 a (by omega)).trans k.1.1) (fun q' z' => .inr (GD_p z ⟨⟨_, r⟩, iw_cg q.2.1 (F.2 _ (by omega)), iw_cg q.2.2 (F.2 _ (by omega))⟩ (by omega) (by omega)))) F (by omega), F, r⟩
theorem rm_composes {n sA : Nat} {A : fq × fq} {C D : Nat → fq × fq} (h9 : f9.category = 1) (k : SY h a t g w m y) (hn : n ≤ 8) (hA : SP h sA (some A)) (oA : a + 69 < sA ∧ sA + 2 < 1099511627776) (hC : ∀ i, i < n → SP h (a + 168 + 6 * i) (some (C i))) (hD : ∀ i, i < n → SP h (a + 171 + 6 * i) (some (D i))) (oC : ∀ i, i < n → ecO (-3) (fz (cB : Int)) (some (C i))) (oD : ∀ i, i < n → ecO (-3) (fz (cB : Int)) (some (D i))) : vm_Met (vm_env l O f9) mX14_composes 0 0 [.ref a, .int (nI n), .ref sA] h (fun r h' => r = none ∧ (∃ m' y', SY h' a t g [] m' y') ∧ SP h' (a + 52) (cs (fun i => some (C i)) (fun i => wgt t.2.2.1 t.2.2.2 (sdl t.2.2.1 t.2.2.2 (ptb A)) (ptb (C i)) (ptb (D i)) i) n) ∧ SP h' (a + 55) (cs (fun i => some (D i)) (fun i => wgt t.2.2.1 t.2.2.2 (sdl t.2.2.1 t.2.2.2 (ptb A)) (ptb (C i)) (ptb (D i)) i) n) ∧ fr h h' (CP a)) := by
  have ao := k.1.2.1
  have la : a < 1099511627776 := by omega
  have l34 : a + 34 < 1099511627776 := by omega
  have l67 : a + 67 < 1099511627776 := by omega
  refine vm_met rfl (Nat.le_of_ble_eq_true rfl) ?_
  refine vm_go rfl bX14_composesx_0 oX14_composesx_0 ?_
  refine vm_ldw (idx := 370) (id := 1099511627842) (by decide +kernel) (List.mem_of_getElem? (i := 18) rfl) ?_
  refine vm_go rfl bX14_composesx_4 oX14_composesx_4 ⟨_, k.1.1, 0, 0, _, rm_tags h9 k k.1.2.2.1.2.1.2.2.1 (by decide), Nat.zero_le _, Nat.zero_le _, ?_⟩
  rintro _ h1 ⟨rfl, k1, F1⟩
  rw [tg_E] at k1
  refine ⟨_, k1.1.1, 0, 0, _, rm_both (v := 49) k1 (by decide) (by decide), Nat.zero_le _, Nat.zero_le _, ?_⟩
  rintro _ h2 ⟨rfl, k2, F2⟩
  rw [List.nil_append] at k2
  have hA := SP_fr (SP_fr hA F1 (fun q z1 z2 z3 => by omega)) F2 (fun q z1 z2 z3 => by omega)
  obtain ⟨c68, b68⟩ := k2.1.2.2.2.2.2.1 68 (by unfold ZB; omega)
  refine ⟨_, _, k2.1.1, rfl, ⟨0, 0, _, rm_bytes (at9 := 0) hA b68 (by omega) (by decide) (by decide), Nat.zero_le _, Nat.zero_le _, ?_⟩⟩
  rintro _ h3 ⟨rfl, ⟨c', b', e', _⟩, F3⟩
  have k3 : SY h3 a t g (nb 49 2) m tgE := SY_fr k2 (RK_of k2.1 F3 ((F3.2 a (by omega)).trans k2.1.1) (fun q z => .inr (z ▸ GD_r (i := 68) (by unfold ZB; omega) rfl ⟨_, b'⟩))) F3 (by omega)
  refine ⟨_, _, k3.1.1, rfl, ⟨_, k3.1.1, 0, 0, _, rm_says (at9 := 0) (n := 49) k3 b' (by omega) (by decide) (by decide) (by rw [nb_len]; decide), Nat.zero_le _, Nat.zero_le _, ?_⟩⟩
  rintro _ h4 ⟨rfl, k4, F4⟩
  rw [e'] at k4
  refine ⟨_, _, k4.1.1, rfl, ⟨_, k4.1.1, 0, 0, _, rm_both (v := tgE.length) k4 (by decide) (by rw [List.length_append, nb_len, ptb_len]; decide), Nat.zero_le _, Nat.zero_le _, ?_⟩⟩
  rintro _ h5 ⟨rfl, k5, F5⟩
  obtain ⟨ct, bt, et⟩ := k5.2.2.2.2
  refine ⟨_, _, k5.1.1, rfl, ⟨_, _, k5.1.1, rfl, ⟨_, k5.1.1, 0, 0, _, rm_says (at9 := 0) (n := tgE.length) k5 bt (by omega) (by decide) (by decide) (by rw [List.length_append, List.length_append, nb_len, nb_len, ptb_len]; decide), Nat.zero_le _, Nat.zero_le _, ?_⟩⟩⟩
  rintro _ h6 ⟨rfl, k6, F6⟩
  rw [et] at k6
  refine ⟨_, k6.1.1, 0, 0, _, rm_h3 k6 (by rw [List.length_append, List.length_append, List.length_append, nb_len, nb_len, ptb_len]; decide), Nat.zero_le _, Nat.zero_le _, ?_⟩
  rintro _ h7 ⟨rfl, k7, ⟨cd, bd, ed⟩, F7⟩
  obtain ⟨sd, esd⟩ : ∃ sd, sdl t.2.2.1 t.2.2.2 (ptb A) = sd := ⟨_, rfl⟩
  have lsd : sd.length = 48 := by rw [← esd]; exact H3_len
  have ed : sl cd 0 48 = sd := by rw [← esd]; exact ed
  rw [esd]
  have FF : fr h h7 (CP a) := fr_trans (fr_mono F1 (fun q z => by unfold CP; omega)) (fr_trans (fr_mono F2 (fun q z => by unfold CP; omega)) (fr_trans (fr_mono F3 (fun q z => by unfold CP; omega)) (fr_trans (fr_mono F4 (fun q z => by unfold CP; omega)) (fr_trans (fr_mono F5 (fun q z => by unfold CP; omega)) (fr_trans (fr_mono F6 (fun q z => by unfold CP; omega)) (fr_mono F7 (fun q z => by unfold CP; omega)))))))
  clear F1 F2 F3 F4 F5 F6 F7 k1 k2 k3 k4 k5 k6 bt et
  obtain ⟨fd, efd, vfd⟩ := id bd
  obtain ⟨c67, b67⟩ := k7.1.2.2.2.2.2.1 67 (by unfold ZB; omega)
  refine vm_Th (lv' := [(0, .ref a), (1, .int (nI n)), (2, .ref sA), (3, .int (nI 0))]) (h' := h7) rfl rfl ?_
  refine vm_loop (fun i h' => SY h' a t g [] m tgE ∧ (∃ c, bv h' 48 (a + 67) c ∧ ∀ j, j < i → c (0 + j) = cd j) ∧ fr h7 h' (fun q => q = a + 67)) 48 (fun i => [(0, .ref a), (1, .int (nI n)), (2, .ref sA), (3, .int (nI i))]) 0 h7 (Nat.zero_le _) ⟨k7, ⟨c67, b67, fun j hj => by omega⟩, fr_refl⟩ ?_ ?_
  rotate_left
  · rintro i h8 _ hi ⟨k8, ⟨c5, ⟨f5, ef5, vf5⟩, v5⟩, F8⟩ ih
    have vs := vfd i (by omega)
    refine vm_go rfl bX14_composesx_60 oX14_composesx_60 ⟨fun q => absurd q (nI_ge (b := 48) hi (by decide)), fun _ => ⟨_, _, k8.1.1, rfl, ⟨_, _, k8.1.1, rfl, ⟨48, fd, (F8.2 _ (by omega)).trans efd, i, rfl, hi, fun _ => ⟨48, f5, ef5, l67, i, rfl, hi, ?_⟩⟩⟩⟩⟩
    obtain ⟨h9, eh9⟩ : ∃ h9, h9 = vm_up h8 (a + 67) (.inl (.byte, 48, .inl (upd f5 i (sb (cd i))))) := ⟨_, rfl⟩
    have F9 : fr h8 h9 (fun q => q = a + 67) := eh9 ▸ fr_up rfl
    have b9' : bv h9 48 (a + 67) (b1 c5 i (cd i)) := eh9 ▸ bv_up vf5 vs.2
    refine vm_Th (lv' := [(0, .ref a), (1, .int (nI n)), (2, .ref sA), (3, .int (nI i))]) (h' := h9) rfl (by rw [eh9, ← sb_self _ vs.2, ← vs.1]; rfl) ?_
    have b9' : bv h9 48 (a + 67) (b1 c5 (0 + i) (cd i)) := by rw [Nat.zero_add]; exact b9'
    have k9 : SY h9 a t g [] m tgE := SY_fr k8 (RK_of k8.1 F9 ((F9.2 a (by omega)).trans k8.1.1) (fun q z => .inr (z ▸ GD_r (i := 67) (by unfold ZB; omega) rfl ⟨_, b9'⟩))) F9 (by omega)
    refine vm_go rfl bX14_composesx_78 oX14_composesx_78 (vm_Th (by rw [← nI_1]; rfl) rfl (ih h9 ⟨k9, ⟨_, b9', bstp v5 rfl⟩, fr_trans F8 F9⟩))
  rintro h8 ⟨k8, ⟨cs9, bs, vs⟩, F8⟩
  refine vm_go rfl bX14_composesx_60 oX14_composesx_60 ⟨fun _ => ?_, fun q => absurd (nI_le (a := 48) (b := 48) (by decide) (by decide)) q⟩
  have es : sl cs9 0 48 = sd := by
    rw [← ed]
    exact sl_ext (fun j hj => by rw [vs j hj, Nat.zero_add])
  have FF := fr_trans FF (fr_mono F8 (S' := CP a) (fun q z => by unfold CP; omega))
  clear F8 k7 bd ed vfd efd vs
  have q52 := RK_p k8.1 (s := 52) (by unfold ZP; omega)
  obtain ⟨bb, q1⟩ := q52.1
  have l52 : a + 52 < 1099511627776 := by omega
  have l55 : a + 55 < 1099511627776 := by omega
  refine vm_go rfl bX14_composesx_84 oX14_composesx_84 ⟨_, _, k8.1.1, rfl, ⟨_, q1, l52, show 2 < 3 by decide, Or.inr rfl, ?_⟩⟩
  obtain ⟨h9', eh9⟩ : ∃ h9', h9' = vm_up h8 (a + 52) (SPo (a + 52) 1) := ⟨_, rfl⟩
  obtain ⟨k9, F9, r9⟩ := put_none k8 (s := 52) (by unfold ZP; omega) eh9
  refine vm_Th (lv' := [(0, .ref a), (1, .int (nI n)), (2, .ref sA), (3, .int (nI 48))]) (h' := h9') rfl eh9 ?_
  have q55 := RK_p k9.1 (s := 55) (by unfold ZP; omega)
  obtain ⟨bb2, q2⟩ := q55.1
  refine vm_go rfl bX14_composesx_92 oX14_composesx_92 ⟨_, _, k9.1.1, rfl, ⟨_, q2, l55, show 2 < 3 by decide, Or.inr rfl, ?_⟩⟩
  obtain ⟨h10, eh10⟩ : ∃ h10, h10 = vm_up h9' (a + 55) (SPo (a + 55) 1) := ⟨_, rfl⟩
  obtain ⟨k10, F10, r10⟩ := put_none k9 (s := 55) (by unfold ZP; omega) eh10
  refine vm_Th (lv' := [(0, .ref a), (1, .int (nI n)), (2, .ref sA), (3, .int (nI 48))]) (h' := h10) rfl eh10 ?_
  have M0 : SP h10 (a + 52) none := ⟨(F10.2 _ (by omega)).trans r9, (RK_p k10.1 (s := 52) (by unfold ZP; omega)).2.1, (RK_p k10.1 (s := 52) (by unfold ZP; omega)).2.2⟩
  have Z0 : SP h10 (a + 55) none := ⟨r10, (RK_p k10.1 (s := 55) (by unfold ZP; omega)).2.1, (RK_p k10.1 (s := 55) (by unfold ZP; omega)).2.2⟩
  have bs := bv_cg (bv_cg bs (F9.2 (a + 67) (by omega))) (F10.2 (a + 67) (by omega))
  have FF := fr_trans FF (fr_trans (fr_mono F9 (S' := CP a) (fun q z => by unfold CP; omega)) (fr_mono F10 (S' := CP a) (fun q z => by unfold CP; omega)))
  clear F9 F10 k8 k9
  refine vm_go rfl bX14_composesx_100 oX14_composesx_100 ?_
  refine vm_Th (lv' := [(0, .ref a), (1, .int (nI n)), (2, .ref sA), (3, .int (nI 0))]) (h' := h10) rfl rfl ?_
  refine vm_loop (fun i h' => (∃ m' y', SY h' a t g [] m' y') ∧ bv h' 48 (a + 67) cs9 ∧ SP h' (a + 52) (cs (fun i => some (C i)) (fun i => wgt t.2.2.1 t.2.2.2 sd (ptb (C i)) (ptb (D i)) i) i) ∧ SP h' (a + 55) (cs (fun i => some (D i)) (fun i => wgt t.2.2.1 t.2.2.2 sd (ptb (C i)) (ptb (D i)) i) i) ∧ fr h h' (CP a)) n (fun i => [(0, .ref a), (1, .int (nI n)), (2, .ref sA), (3, .int (nI i))]) 0 h10 (Nat.zero_le _) ⟨⟨_, _, k10⟩, bs, M0, Z0, FF⟩ ?_ ?_
  · rintro h11 ⟨k11, _, M11, Z11, F11⟩
    refine vm_go rfl bX14_composesx_102 oX14_composesx_102 ⟨fun _ => ?_, fun q => absurd (nI_le (a := n) (b := n) (Nat.le_refl _) (by omega)) q⟩
    exact vm_go rfl bX14_composesx_265 oX14_composesx_265 ⟨rfl, k11, M11, Z11, F11⟩
  rintro i h11 _ hi ⟨⟨m1, y1, k11⟩, b11, M11, Z11, F11⟩ ih
  have z52 : ZP 52 := by unfold ZP; omega
  have z55 : ZP 55 := by unfold ZP; omega
  have z64 : ZP 64 := by unfold ZP; omega
  obtain ⟨K9, eK9⟩ : ∃ K9, wgt t.2.2.1 t.2.2.2 sd (ptb (C i)) (ptb (D i)) i = K9 := ⟨_, rfl⟩
  have hK9 : K9 < cQ := by rw [← eK9]; exact hts_lt
  refine vm_go rfl bX14_composesx_102 oX14_composesx_102 ⟨fun q => absurd q (nI_ge hi (by omega)), fun _ => ⟨_, k11.1.1, la, show 26 < 89 by decide, trivial, ?_⟩⟩
  obtain ⟨h12, eh12⟩ : ∃ h12, h12 = vm_up h11 a (RO a (u3 g (nI ([] : List Nat).length) (nI ([] : List Nat).length) (nI y1.length))) := ⟨_, rfl⟩
  have F12 : fr h11 h12 (fun q => q = a) := eh12 ▸ fr_up rfl
  have c34 := k11.2.2.2.1
  have k12 : SY h12 a t g [] [] y1 := SY_ms k11 F12 (fun q z => .inl z) (by rw [eh12]; exact vm_upe) (by decide) ⟨_, bv_cg c34.choose_spec.1 (F12.2 _ (by omega)), rfl⟩
  refine vm_Th (lv' := [(0, .ref a), (1, .int (nI n)), (2, .ref sA), (3, .int (nI i))]) (h' := h12) rfl eh12 ?_
  refine vm_go rfl bX14_composesx_112 oX14_composesx_112 ⟨_, _, k12.1.1, rfl, ⟨_, k12.1.1, 0, 0, _, rm_lays (at9 := 0) (n := 48) k12 (bv_cg b11 (F12.2 _ (by omega))) (by omega) (by decide) (by decide) (by decide), Nat.zero_le _, Nat.zero_le _, ?_⟩⟩
  rintro _ h13 ⟨rfl, k13, F13⟩
  rw [es, List.nil_append] at k13
  obtain ⟨m2, em2⟩ : ∃ m2, nb ((48 : Nat) : Int) 2 ++ sd = m2 := ⟨_, rfl⟩
  have lm2 : m2.length = 50 := by rw [← em2, List.length_append, nb_len, lsd]
  rw [em2] at k13
  obtain ⟨cm, ⟨fm, efm, vfm⟩, ecm⟩ := k13.2.2.2.1
  refine ⟨_, _, k13.1.1, rfl, ⟨_, _, k13.1.1, rfl, ⟨700, fm, efm, l34, m2.length, rfl, by omega, ?_⟩⟩⟩
  obtain ⟨h14, eh14⟩ : ∃ h14, h14 = vm_up h13 (a + 34) (.inl (.byte, 700, .inl (upd fm m2.length (sb 0)))) := ⟨_, rfl⟩
  have F14 : fr h13 h14 (fun q => q = a + 34) := eh14 ▸ fr_up rfl
  have b14' : bv h14 700 (a + 34) (b1 cm m2.length 0) := eh14 ▸ bv_up vfm (by decide)
  refine vm_Th (lv' := [(0, .ref a), (1, .int (nI n)), (2, .ref sA), (3, .int (nI i))]) (h' := h14) rfl (by rw [eh14, ← sb_self 0 (by decide)]; rfl) ?_
  have k14 : SY h14 a t g [] m2 y1 := SY_m k13 F14 ⟨_, b14', rl9_k (L := 0) (q := 0) ecm (Nat.le_refl _)⟩
  obtain ⟨f14, ef14, vf14⟩ := id b14'
  refine vm_go rfl bX14_composesx_133 oX14_composesx_133 ⟨_, _, k14.1.1, rfl, ⟨_, _, k14.1.1, rfl, ⟨700, f14, ef14, l34, m2.length + 1, nI_1 _, by omega, ?_⟩⟩⟩
  obtain ⟨h15, eh15⟩ : ∃ h15, h15 = vm_up h14 (a + 34) (.inl (.byte, 700, .inl (upd f14 (m2.length + 1) (sb (i % 256))))) := ⟨_, rfl⟩
  have F15 : fr h14 h15 (fun q => q = a + 34) := eh15 ▸ fr_up rfl
  have b15' : bv h15 700 (a + 34) (b1 (b1 cm m2.length 0) (m2.length + 1) (i % 256)) := eh15 ▸ bv_up vf14 (by omega)
  refine vm_Th (lv' := [(0, .ref a), (1, .int (nI n)), (2, .ref sA), (3, .int (nI i))]) (h' := h15) rfl (by rw [eh15, ← sb_self _ (by omega), ← sb_nI]; rfl) ?_
  refine vm_go rfl bX14_composesx_146 oX14_composesx_146 ⟨_, _, (F15.2 a (by omega)).trans k14.1.1, rfl, ⟨_, (F15.2 a (by omega)).trans k14.1.1, la, show 26 < 89 by decide, trivial, ?_⟩⟩
  obtain ⟨h16, eh16⟩ : ∃ h16, h16 = vm_up h15 a (RO a (u3 g (nI ([] : List Nat).length) (nI (m2 ++ nb (i : Nat) 2).length) (nI y1.length))) := ⟨_, rfl⟩
  have F16 : fr h15 h16 (fun q => q = a) := eh16 ▸ fr_up rfl
  have lm : (m2 ++ nb (i : Nat) 2).length = m2.length + 2 := by rw [List.length_append, nb_len]
  refine vm_Th (lv' := [(0, .ref a), (1, .int (nI n)), (2, .ref sA), (3, .int (nI i))]) (h' := h16) rfl (by rw [eh16, lm, show nI (m2.length + 2) = nI m2.length + 2 from (nI_add _ 2).symm]; rfl) ?_
  have G : fr h13 h16 (fun q => q = a ∨ q = a + 34) := fr_trans (fr_mono F14 (fun q z => .inr z)) (fr_trans (fr_mono F15 (fun q z => .inr z)) (fr_mono F16 (fun q z => .inl z)))
  have k16 : SY h16 a t g [] (m2 ++ nb (i : Nat) 2) y1 := SY_ms k13 G (fun q z => z) (by rw [eh16]; exact vm_upe) (by omega) ⟨_, bv_cg b15' (F16.2 _ (by omega)), by
    rw [lm, sl_app, nb_two]
    congr 1
    · conv => rhs; rw [← ecm]
      exact sl_ext (fun j hj => by unfold b1; rw [if_neg (by omega), if_neg (by omega)])
    · show [_, _] = _
      unfold b1
      dsimp only
      rw [if_neg (by omega), if_pos (by omega), if_pos (by omega), show i / 256 % 256 = 0 by omega]⟩
  have F16 : fr h h16 (CP a) := fr_trans F11 (fr_trans (fr_mono F12 (fun q z => by unfold CP; omega)) (fr_trans (fr_mono F13 (fun q z => by unfold CP; omega)) (fr_mono G (fun q z => by unfold CP; omega))))
  have G16 : fr h11 h16 (fun q => q = a ∨ q = a + 34) := fr_trans (fr_mono F12 (fun q z => by omega)) (fr_trans F13 G)
  have nCP : ∀ j, 168 ≤ j → j < 300 → ¬ CP a (a + j) := fun j h1 h2 => by unfold CP JM JW; omega
  have hCi : ∀ h' : vm_H, fr h h' (CP a) → SP h' (a + 168 + 6 * i) (some (C i)) := fun h' F => SP_fr (hC i hi) F (fun q z1 z2 => by
    obtain ⟨j, rfl⟩ : ∃ j, q = a + j := ⟨q - a, by omega⟩
    exact nCP j (by omega) (by omega))
  have hDi : ∀ h' : vm_H, fr h h' (CP a) → SP h' (a + 171 + 6 * i) (some (D i)) := fun h' F => SP_fr (hD i hi) F (fun q z1 z2 => by
    obtain ⟨j, rfl⟩ : ∃ j, q = a + j := ⟨q - a, by omega⟩
    exact nCP j (by omega) (by omega))
  obtain ⟨fa, ea, va⟩ := k16.1.2.2.2.1.2.2.2.2.2.2.1
  refine vm_go rfl bX14_composesx_156 oX14_composesx_156 ⟨_, _, k16.1.1, rfl, ⟨_, _, _, .ref (a + 168 + 6 * i), ea, by decide, rfl, i, rfl, by omega, by rw [va i (by omega)]; rfl, ⟨_, k16.1.1, 0, 0, _, rm_laysSpot k16 (hCi h16 F16) (by omega), Nat.zero_le _, Nat.zero_le _, ?_⟩⟩⟩
  rintro _ h17 ⟨rfl, k17, F17⟩
  have F17' : fr h h17 (CP a) := fr_trans F16 (fr_mono F17 (fun q z => by unfold CP; omega))
  obtain ⟨fb, eb, vb⟩ := k17.1.2.2.2.1.2.2.2.2.2.2.2
  refine ⟨_, _, k17.1.1, rfl, ⟨_, _, _, .ref (a + 171 + 6 * i), eb, by decide, rfl, i, rfl, by omega, by rw [vb i (by omega)]; rfl, ⟨_, k17.1.1, 0, 0, _, rm_laysSpot k17 (hDi h17 F17') (by rw [List.length_append, List.length_append, nb_len, ptb_len]; omega), Nat.zero_le _, Nat.zero_le _, ?_⟩⟩⟩
  rintro _ h18 ⟨rfl, k18, F18⟩
  have F18' : fr h h18 (CP a) := fr_trans F17' (fr_mono F18 (fun q z => by unfold CP; omega))
  refine vm_ldw (idx := 390) (id := 1099511627820) (by decide +kernel) (List.mem_of_getElem? (i := 19) rfl) ?_
  refine vm_go rfl bX14_composesx_180 oX14_composesx_180 ⟨_, k18.1.1, 0, 0, _, rm_laysWord h9 k18 k18.1.2.2.1.2.1.2.2.2.2.2.1 (by rw [List.length_append, List.length_append, List.length_append, List.length_append, nb_len, ptb_len, ptb_len]; show _ + 9 ≤ 700; omega), Nat.zero_le _, Nat.zero_le _, ?_⟩
  rintro _ h19 ⟨rfl, k19, F19⟩
  refine ⟨_, _, k19.1.1, rfl, ⟨_, k19.1.1, 0, 0, _, rm_toScalar h9 k19 (c := a + 69) (TG_i (by unfold ZI; omega) rfl) (by omega), Nat.zero_le _, Nat.zero_le _, ?_⟩⟩
  rintro _ h20 ⟨rfl, k20, w20, F20⟩
  have eK : hts t.2.2.1 t.2.2.2 (m2 ++ nb (i : Nat) 2 ++ nb 49 2 ++ ptb (C i) ++ nb 49 2 ++ ptb (D i) ++ tCo) = K9 := by rw [← eK9, ← em2]; rfl
  rw [eK] at w20
  have F20' : fr h h20 (CP a) := fr_trans F18' (fr_trans (fr_mono F19 (fun q z => by unfold CP; omega)) (fr_mono F20 (fun q z => by unfold CP JM JW; omega)))
  have G20 : fr h11 h20 (fun q => q = a ∨ q = a + 1 ∨ (a + 28 ≤ q ∧ q ≤ a + 38) ∨ (a + 68 ≤ q ∧ q ≤ a + 69)) := fr_trans (fr_mono G16 (fun q z => by omega)) (fr_trans (fr_mono F17 (fun q z => by omega)) (fr_trans (fr_mono F18 (fun q z => by omega)) (fr_trans (fr_mono F19 (fun q z => by omega)) (fr_mono F20 (fun q z => by omega)))))
  have M20 := SP_fr M11 G20 (fun q z1 z2 z3 => by omega)
  have Z20 := SP_fr Z11 G20 (fun q z1 z2 z3 => by omega)
  have b20 := bv_cg b11 (G20.2 _ (by omega))
  obtain ⟨fa, ea, va⟩ := k20.1.2.2.2.1.2.2.2.2.2.2.1
  refine ⟨_, _, k20.1.1, rfl, ⟨_, _, k20.1.1, rfl, ⟨_, _, _, .ref (a + 168 + 6 * i), ea, by decide, rfl, i, rfl, by omega, by rw [va i (by omega)]; rfl, ⟨_, _, k20.1.1, rfl, ⟨_, k20.1.1, 0, 0, _, rq_mult (s := 64) k20.1 w20 (by decide) (Nat.lt_trans hK9 cQ_12) (hCi h20 F20') (oC i hi) z64 (by decide) (by omega) (by omega) (by omega), Nat.zero_le _, Nat.zero_le _, ?_⟩⟩⟩⟩⟩
  rintro _ h21 ⟨rfl, k21, p21, F21⟩
  have M21 := SP_fr M20 F21 (fun q z1 z2 z3 => by unfold JM JW at z3; omega)
  have Z21 := SP_fr Z20 F21 (fun q z1 z2 z3 => by unfold JM JW at z3; omega)
  have b21 := bv_cg b20 (F21.2 _ (by unfold JM JW; omega))
  have w21 := wv_cg w20 (F21.2 (a + 69) (by unfold JM JW; omega))
  refine ⟨_, _, k21.1, rfl, ⟨_, _, k21.1, rfl, ⟨_, _, k21.1, rfl, ⟨_, k21.1, 0, 0, _, rq_join (s := 52) k21 M21 p21 z52 (okP z52 ao) (okP z64 ao) (.inl rfl) (by unfold apS; omega), Nat.zero_le _, Nat.zero_le _, ?_⟩⟩⟩⟩
  rintro _ h22 ⟨rfl, k22, M22, F22⟩
  have Z22 := SP_fr Z21 F22 (fun q z1 z2 z3 => by unfold JW at z3; omega)
  have b22 := bv_cg b21 (F22.2 _ (by unfold JW; omega))
  have w22 := wv_cg w21 (F22.2 (a + 69) (by unfold JW; omega))
  have F22' : fr h h22 (CP a) := fr_trans F20' (fr_trans (fr_mono F21 (fun q z => by unfold CP JM JW at *; omega)) (fr_mono F22 (fun q z => by unfold CP JM JW at *; omega)))
  obtain ⟨fb, eb, vb⟩ := k22.2.2.2.1.2.2.2.2.2.2.2
  refine ⟨_, _, k22.1, rfl, ⟨_, _, k22.1, rfl, ⟨_, _, _, .ref (a + 171 + 6 * i), eb, by decide, rfl, i, rfl, by omega, by rw [vb i (by omega)]; rfl, ⟨_, _, k22.1, rfl, ⟨_, k22.1, 0, 0, _, rq_mult (s := 64) k22 w22 (by decide) (Nat.lt_trans hK9 cQ_12) (hDi h22 F22') (oD i hi) z64 (by decide) (by omega) (by omega) (by omega), Nat.zero_le _, Nat.zero_le _, ?_⟩⟩⟩⟩⟩
  rintro _ h23 ⟨rfl, k23, p23, F23⟩
  have M23 := SP_fr M22 F23 (fun q z1 z2 z3 => by unfold JM JW at z3; omega)
  have Z23 := SP_fr Z22 F23 (fun q z1 z2 z3 => by unfold JM JW at z3; omega)
  have b23 := bv_cg b22 (F23.2 _ (by unfold JM JW; omega))
  refine ⟨_, _, k23.1, rfl, ⟨_, _, k23.1, rfl, ⟨_, _, k23.1, rfl, ⟨_, k23.1, 0, 0, _, rq_join (s := 55) k23 Z23 p23 z55 (okP z55 ao) (okP z64 ao) (.inl rfl) (by unfold apS; omega), Nat.zero_le _, Nat.zero_le _, ?_⟩⟩⟩⟩
  rintro _ h24 ⟨rfl, k24, Z24, F24⟩
  have M24 := SP_fr M23 F24 (fun q z1 z2 z3 => by unfold JW at z3; omega)
  have b24 := bv_cg b23 (F24.2 _ (by unfold JW; omega))
  have F24' : fr h h24 (CP a) := fr_trans F22' (fr_trans (fr_mono F23 (fun q z => by unfold CP JM JW at *; omega)) (fr_mono F24 (fun q z => by unfold CP JM JW at *; omega)))
  have G24 : fr h20 h24 (fun q => JM a q ∨ (a + 52 ≤ q ∧ q ≤ a + 57) ∨ (a + 64 ≤ q ∧ q ≤ a + 66)) := fr_trans (fr_mono F21 (fun q z => by unfold JM JW at *; omega)) (fr_trans (fr_mono F22 (fun q z => by unfold JM JW at *; omega)) (fr_trans (fr_mono F23 (fun q z => by unfold JM JW at *; omega)) (fr_mono F24 (fun q z => by unfold JM JW at *; omega))))
  refine vm_Th (by rw [← nI_1]; rfl) rfl (ih h24 ⟨⟨_, _, SY_fr k20 k24 G24 (by unfold JM JW; omega)⟩, b24, ?_, ?_, F24'⟩)
  · show SP h24 (a + 52) (ecA (-3) fiv (cs _ _ i) (ecM (-3) fiv (wgt t.2.2.1 t.2.2.2 sd (ptb (C i)) (ptb (D i)) i) (some (C i))))
    rw [eK9]; exact M24
  · show SP h24 (a + 55) (ecA (-3) fiv (cs _ _ i) (ecM (-3) fiv (wgt t.2.2.1 t.2.2.2 sd (ptb (C i)) (ptb (D i)) i) (some (D i))))
    rw [eK9]; exact Z24
end
