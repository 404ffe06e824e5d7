/-! the reference: what is said -/
def bX14_sayx_0 : List vm_J := [(1, .aload_n 0, 0, 0, 0, .null), (3, .getfield 199, 14, 18, 0, .null), (1, .aload_n 0, 0, 0, 0, .null), (3, .getfield 203, 14, 19, 0, .null), (1, .iload_n 1, 0, 0, 0, .null), (1, .i2b, 0, 0, 0, .null), (1, .bastore, 0, 0, 0, .null)]
set_option maxRecDepth 20000 in
theorem oX14_sayx_0 : vm_okB 14 mX14_say 0 bX14_sayx_0 = true := by decide +kernel
def bX14_sayx_11 : List vm_J := [(1, .aload_n 0, 0, 0, 0, .null), (1, .dup, 0, 0, 0, .null), (3, .getfield 203, 14, 19, 0, .null), (1, .iconst 1, 0, 0, 0, .int 1), (1, .iadd, 0, 0, 0, .null), (3, .putfield 203, 14, 19, 0, .null)]
set_option maxRecDepth 20000 in
theorem oX14_sayx_11 : vm_okB 14 mX14_say 11 bX14_sayx_11 = true := by decide +kernel
def bX14_sayx_21 : List vm_J := [(1, .return_, 0, 0, 0, .null)]
set_option maxRecDepth 20000 in
theorem oX14_sayx_21 : vm_okB 14 mX14_say 21 bX14_sayx_21 = true := by decide +kernel
def bX14_say_x_0 : List vm_J := [(1, .iconst 0, 0, 0, 0, .int 0), (2, .istore 4, 0, 0, 0, .null)]
set_option maxRecDepth 20000 in
theorem oX14_say_x_0 : vm_okB 14 mX14_say_ 0 bX14_say_x_0 = true := by decide +kernel
def bX14_say_x_3 : List vm_J := [(2, .iload 4, 0, 0, 0, .null), (1, .iload_n 3, 0, 0, 0, .null), (3, .if_icmp .ge 19, 25, 0, 0, .null), (1, .aload_n 0, 0, 0, 0, .null), (1, .aload_n 1, 0, 0, 0, .null), (1, .iload_n 2, 0, 0, 0, .null), (2, .iload 4, 0, 0, 0, .null), (1, .iadd, 0, 0, 0, .null), (1, .baload, 0, 0, 0, .null), (3, .invokevirtual 206, 165, 1, 14, .null), (3, .iinc 4 1, 0, 0, 0, .int 1), (3, .goto (-19), 3, 0, 0, .null)]
set_option maxRecDepth 20000 in
theorem oX14_say_x_3 : vm_okB 14 mX14_say_ 3 bX14_say_x_3 = true := by decide +kernel
def bX14_say_x_25 : List vm_J := [(1, .return_, 0, 0, 0, .null)]
set_option maxRecDepth 20000 in
theorem oX14_say_x_25 : vm_okB 14 mX14_say_ 25 bX14_say_x_25 = true := by decide +kernel
def bX14_wordx_0 : List vm_J := [(1, .iconst 0, 0, 0, 0, .int 0), (1, .istore_n 2, 0, 0, 0, .null)]
set_option maxRecDepth 20000 in
theorem oX14_wordx_0 : vm_okB 14 mX14_word 0 bX14_wordx_0 = true := by decide +kernel
def bX14_wordx_2 : List vm_J := [(1, .iload_n 2, 0, 0, 0, .null), (1, .aload_n 1, 0, 0, 0, .null), (3, .invokevirtual 210, 246, 0, 600, .null), (3, .if_icmp .ge 18, 25, 0, 0, .null), (1, .aload_n 0, 0, 0, 0, .null), (1, .aload_n 1, 0, 0, 0, .null), (1, .iload_n 2, 0, 0, 0, .null), (3, .invokevirtual 216, 247, 1, 600, .null), (3, .invokevirtual 206, 165, 1, 14, .null), (3, .iinc 2 1, 0, 0, 0, .int 1), (3, .goto (-20), 2, 0, 0, .null)]
set_option maxRecDepth 20000 in
theorem oX14_wordx_2 : vm_okB 14 mX14_word 2 bX14_wordx_2 = true := by decide +kernel
def bX14_wordx_25 : List vm_J := [(1, .return_, 0, 0, 0, .null)]
set_option maxRecDepth 20000 in
theorem oX14_wordx_25 : vm_okB 14 mX14_word 25 bX14_wordx_25 = true := by decide +kernel
def bX14_tagsx_0 : List vm_J := [(1, .aload_n 0, 0, 0, 0, .null), (1, .iconst 0, 0, 0, 0, .int 0), (3, .putfield 203, 14, 19, 0, .null)]
set_option maxRecDepth 20000 in
theorem oX14_tagsx_0 : vm_okB 14 mX14_tags 0 bX14_tagsx_0 = true := by decide +kernel
def bX14_tagsx_5 : List vm_J := [(1, .aload_n 0, 0, 0, 0, .null), (1, .aload_n 1, 0, 0, 0, .null), (3, .invokevirtual 222, 168, 1, 14, .null), (1, .aload_n 0, 0, 0, 0, .null), (3, .invokevirtual 277, 169, 0, 14, .null), (1, .iconst 0, 0, 0, 0, .int 0), (1, .istore_n 2, 0, 0, 0, .null)]
set_option maxRecDepth 20000 in
theorem oX14_tagsx_5 : vm_okB 14 mX14_tags 5 bX14_tagsx_5 = true := by decide +kernel
def bX14_tagsx_16 : List vm_J := [(1, .iload_n 2, 0, 0, 0, .null), (1, .aload_n 0, 0, 0, 0, .null), (3, .getfield 203, 14, 19, 0, .null), (3, .if_icmp .ge 21, 42, 0, 0, .null), (1, .aload_n 0, 0, 0, 0, .null), (3, .getfield 281, 14, 27, 0, .null), (1, .iload_n 2, 0, 0, 0, .null), (1, .aload_n 0, 0, 0, 0, .null), (3, .getfield 199, 14, 18, 0, .null), (1, .iload_n 2, 0, 0, 0, .null), (1, .baload, 0, 0, 0, .null), (1, .bastore, 0, 0, 0, .null)]
set_option maxRecDepth 20000 in
theorem oX14_tagsx_16 : vm_okB 14 mX14_tags 16 bX14_tagsx_16 = true := by decide +kernel
def bX14_tagsx_36 : List vm_J := [(3, .iinc 2 1, 0, 0, 0, .int 1), (3, .goto (-23), 16, 0, 0, .null)]
set_option maxRecDepth 20000 in
theorem oX14_tagsx_36 : vm_okB 14 mX14_tags 36 bX14_tagsx_36 = true := by decide +kernel
def bX14_tagsx_42 : List vm_J := [(1, .aload_n 0, 0, 0, 0, .null), (1, .aload_n 0, 0, 0, 0, .null), (3, .getfield 203, 14, 19, 0, .null), (3, .putfield 284, 14, 28, 0, .null)]
set_option maxRecDepth 20000 in
theorem oX14_tagsx_42 : vm_okB 14 mX14_tags 42 bX14_tagsx_42 = true := by decide +kernel
def bX14_tagsx_50 : List vm_J := [(1, .aload_n 0, 0, 0, 0, .null), (1, .iconst 0, 0, 0, 0, .int 0), (3, .putfield 203, 14, 19, 0, .null)]
set_option maxRecDepth 20000 in
theorem oX14_tagsx_50 : vm_okB 14 mX14_tags 50 bX14_tagsx_50 = true := by decide +kernel
def bX14_tagsx_55 : List vm_J := [(1, .return_, 0, 0, 0, .null)]
set_option maxRecDepth 20000 in
theorem oX14_tagsx_55 : vm_okB 14 mX14_tags 55 bX14_tagsx_55 = true := by decide +kernel
def ug (g : Nat → Int32) (i : Nat) (v : Int32) (k : Nat) : Int32 := if k = i then v else g k
/-- the numbers of the reference, with the lengths of what is said, of the message and of the tag -/
def u3 (g : Nat → Int32) (i j k : Int32) : Nat → Int32 := ug (ug (ug g 19 i) 26 j) 28 k
/-- a row of bytes begins with w -/
def rl9 (h : vm_H) (L q : Nat) (w : List Nat) : Prop := ∃ c, bv h L q c ∧ sl c 0 w.length = w
theorem rl9_cg {h h' : vm_H} {L q : Nat} {w : List Nat} (k : rl9 h L q w) (e : h'.2 q = h.2 q) : rl9 h' L q w := by
  obtain ⟨c, k1, k2⟩ := k
  exact ⟨c, bv_cg k1 e, k2⟩
theorem rl9_b {h : vm_H} {L q : Nat} {w : List Nat} (k : rl9 h L q w) : bx9 h L q := ⟨_, k.choose_spec.1⟩
theorem rl9_ok {h : vm_H} {L q : Nat} {w : List Nat} (k : rl9 h L q w) (hl : w.length ≤ L) : ok8 w := by
  obtain ⟨c, ⟨f, _, v⟩, e⟩ := k
  rw [← e]
  exact ok8_sl (fun j hj => by rw [Nat.zero_add]; exact (v j (by omega)).2)
/-- the reference, with what it said, its message, its tag -/
def SY (h : vm_H) (a : Nat) (t : KT) (g : Nat → Int32) (w m y : List Nat) : Prop := RK h a t (u3 g (nI w.length) (nI m.length) (nI y.length)) ∧ (w.length ≤ 2600 ∧ m.length ≤ 700 ∧ y.length ≤ 48) ∧ rl9 h 2600 (a + 28) w ∧ rl9 h 700 (a + 34) m ∧ rl9 h 48 (a + 35) y
theorem SY_fr {h h' : vm_H} {a : Nat} {t : KT} {g : Nat → Int32} {w m y : List Nat} {S : Nat → Prop} (k : SY h a t g w m y) (k' : RK h' a t (u3 g (nI w.length) (nI m.length) (nI y.length))) (F : fr h h' S) (n : ¬ S (a + 28) ∧ ¬ S (a + 34) ∧ ¬ S (a + 35)) : SY h' a t g w m y :=
  ⟨k', k.2.1, rl9_cg k.2.2.1 (F.2 _ n.1), rl9_cg k.2.2.2.1 (F.2 _ n.2.1), rl9_cg k.2.2.2.2 (F.2 _ n.2.2)⟩
theorem GD_r {h : vm_H} {a i : Nat} (z : ZB i) {L : Nat} (e : zb i = L) (k : bx9 h L (a + i)) : GD h a (a + i) := GD_b z (by rw [e]; exact k)
/-- new lists, new lengths -/
theorem SY_nw {h h' : vm_H} {a : Nat} {t : KT} {g : Nat → Int32} {w m y w' m' y' : List Nat} {S : Nat → Prop} (k : SY h a t g w m y) (F : fr h h' S) (hS : ∀ q, S q → q = a ∨ q = a + 28 ∨ q = a + 34 ∨ q = a + 35) (ho : h'.2 a = RO a (u3 g (nI w'.length) (nI m'.length) (nI y'.length))) (hl : w'.length ≤ 2600 ∧ m'.length ≤ 700 ∧ y'.length ≤ 48) (r1 : rl9 h' 2600 (a + 28) w') (r2 : rl9 h' 700 (a + 34) m') (r3 : rl9 h' 48 (a + 35) y') : SY h' a t g w' m' y' := by
  refine ⟨RK_of k.1 F ho (fun q z => ?_), hl, r1, r2, r3⟩
  rcases hS q z with rfl | rfl | rfl | rfl
  · exact .inl rfl
  · exact .inr (GD_r (by unfold ZB; omega) rfl (rl9_b r1))
  · exact .inr (GD_r (by unfold ZB; omega) rfl (rl9_b r2))
  · exact .inr (GD_r (by unfold ZB; omega) rfl (rl9_b r3))
theorem sl_push {c c' : Nat → Nat} {w : List Nat} {x : Nat} (e : sl c 0 w.length = w) (h1 : c' w.length = x) (h2 : ∀ j, j < w.length → c' j = c j) : sl c' 0 (w ++ [x]).length = w ++ [x] := by
  rw [List.length_append, List.length_singleton, sl_app, sl_1, Nat.zero_add, h1]
  congr 1
  rw [← e]
  rw [sl_len]
  exact sl_ext (fun j hj => by rw [Nat.zero_add]; exact h2 j hj)
section
variable {l : Launch} {O : Nat → vm_Ob} {f9 : Value} {h : vm_H} {a : Nat} {t : KT} {g : Nat → Int32} {w m y : List Nat}
theorem rm_say {v : Int32} {x : Nat} (k : SY h a t g w m y) (hv : v.toInt8.toInt32 = sb x) (hx : x < 256) (hl : w.length < 2600) : vm_Met (vm_env l O f9) mX14_say 0 0 [.ref a, .int v] h (fun r h' => r = none ∧ SY h' a t g (w ++ [x]) m y ∧ fr h h' (fun q => q = a ∨ q = a + 28)) := by
  have ao := k.1.2.1
  obtain ⟨c, ⟨f, ef, vf⟩, ec⟩ := k.2.2.1
  have l28 : a + 28 < 1099511627776 := by omega
  refine vm_met rfl (Nat.le_of_ble_eq_true rfl) ?_
  refine vm_go rfl bX14_sayx_0 oX14_sayx_0 ⟨_, _, k.1.1, rfl, ⟨_, _, k.1.1, rfl, ⟨2600, _, ef, l28, w.length, rfl, hl, ?_⟩⟩⟩
  obtain ⟨h1, eh1⟩ : ∃ h1, h1 = vm_up h (a + 28) (.inl (.byte, 2600, .inl (upd f w.length (sb x)))) := ⟨_, rfl⟩
  have F1 : fr h h1 (fun q => q = a + 28) := eh1 ▸ fr_up rfl
  have b1' : bv h1 2600 (a + 28) (b1 c w.length x) := eh1 ▸ bv_up vf hx
  refine vm_Th (lv' := [(0, .ref a), (1, .int v)]) (h' := h1) rfl (by rw [eh1, ← sb_self x hx, ← hv]; rfl) ?_
  have r1 := (F1.2 a (by omega)).trans k.1.1
  have la : a < 1099511627776 := by omega
  refine vm_go rfl bX14_sayx_11 oX14_sayx_11 ⟨_, _, r1, rfl, ⟨_, r1, la, show 19 < 89 by decide, trivial, ?_⟩⟩
  obtain ⟨h2, eh2⟩ : ∃ h2, h2 = vm_up h1 a (RO a (u3 g (nI (w ++ [x]).length) (nI m.length) (nI y.length))) := ⟨_, rfl⟩
  have F2 : fr h1 h2 (fun q => q = a) := eh2 ▸ fr_up rfl
  refine vm_Th (lv' := [(0, .ref a), (1, .int v)]) (h' := h2) rfl (by rw [eh2, List.length_append, List.length_singleton, ← nI_1]; rfl) ?_
  have FF : fr h h2 (fun q => q = a ∨ q = a + 28) := fr_trans (fr_mono F1 (fun q z => .inr z)) (fr_mono F2 (fun q z => .inl z))
  refine vm_go rfl bX14_sayx_21 oX14_sayx_21 ⟨rfl, SY_nw k FF (fun q z => by omega) (by rw [eh2]; exact vm_upe) ⟨by rw [List.length_append, List.length_singleton]; omega, k.2.1.2⟩ ⟨_, bv_cg b1' (F2.2 _ (by omega)), sl_push ec ?_ (fun j hj => ?_)⟩ (rl9_cg k.2.2.2.1 (FF.2 _ (by omega))) (rl9_cg k.2.2.2.2 (FF.2 _ (by omega))), FF⟩
  · unfold b1; rw [if_pos rfl]
  · unfold b1; rw [if_neg (by omega)]

theorem rm_says {b nt n at9 : Nat} {c : Nat → Nat} (k : SY h a t g w m y) (hb : bv h nt b c) (hbn : b ≠ a + 28) (hat : at9 + n ≤ nt) (hnt : nt < 65536) (hl : w.length + n ≤ 2600) : vm_Met (vm_env l O f9) mX14_say_ 0 0 [.ref a, .ref b, .int (nI at9), .int (nI n)] h (fun r h' => r = none ∧ SY h' a t g (w ++ sl c at9 n) m y ∧ fr h h' (fun q => q = a ∨ q = a + 28)) := by
  obtain ⟨f, ef, vf⟩ := id hb
  have hba : b ≠ a := fun e => by rw [e, k.1.1] at ef; cases ef
  refine vm_met rfl (Nat.le_of_ble_eq_true rfl) ?_
  refine vm_go rfl bX14_say_x_0 oX14_say_x_0 ?_
  refine vm_Th (lv' := [(0, .ref a), (1, .ref b), (2, .int (nI at9)), (3, .int (nI n)), (4, .int (nI 0))]) (h' := h) rfl rfl ?_
  refine vm_loop (fun i h' => SY h' a t g (w ++ sl c at9 i) m y ∧ fr h h' (fun q => q = a ∨ q = a + 28)) n (fun i => [(0, .ref a), (1, .ref b), (2, .int (nI at9)), (3, .int (nI n)), (4, .int (nI i))]) 0 h (Nat.zero_le _) ⟨by rw [sl_0, List.append_nil]; exact k, fr_refl⟩ ?_ ?_
  · rintro h1 ⟨k1, F1⟩
    refine vm_go rfl bX14_say_x_3 oX14_say_x_3 ⟨fun _ => ?_, fun q => absurd (nI_le (a := n) (b := n) (Nat.le_refl _) (by omega)) q⟩
    exact vm_go rfl bX14_say_x_25 oX14_say_x_25 ⟨rfl, k1, F1⟩
  · rintro i h3 _ hi ⟨k3, F3⟩ ih
    have vs := vf (at9 + i) (by omega)
    refine vm_go rfl bX14_say_x_3 oX14_say_x_3 ⟨fun q => absurd q (nI_ge hi (by omega)), fun _ => ⟨nt, f, (F3.2 b (by omega)).trans ef, at9 + i, nI_add _ _, by omega, fun _ => ⟨_, k3.1.1, 0, 0, _, rm_say k3 (x := c (at9 + i)) (by rw [vs.1]; exact sb_self _ vs.2) vs.2 (by rw [List.length_append, sl_len]; omega), Nat.zero_le _, Nat.zero_le _, ?_⟩⟩⟩
    rintro _ h4 ⟨rfl, k4, F4⟩
    refine vm_Th (lv' := [(0, .ref a), (1, .ref b), (2, .int (nI at9)), (3, .int (nI n)), (4, .int (nI (i + 1)))]) (h' := h4) (by rw [← nI_1]; rfl) rfl ?_
    refine ih _ ⟨?_, fr_trans F3 F4⟩
    rw [List.append_assoc, ← sl_1 (b := c), ← sl_app] at k4
    exact k4
theorem nb_two (v : Nat) : nb (v : Int) 2 = [v / 256 % 256, v % 256] := by
  have e1 : ib (v : Int) 1 = v / 256 % 256 := by
    show ((v : Int) / 256 ^ 1 % 256).toNat = _
    rw [show (256 : Int) ^ 1 = 256 from rfl]; omega
  have e0 : ib (v : Int) 0 = v % 256 := by
    show ((v : Int) / 256 ^ 0 % 256).toNat = _
    rw [show (256 : Int) ^ 0 = 1 from rfl]; omega
  rw [← e1, ← e0]; rfl
theorem rm_both {v : Nat} (k : SY h a t g w m y) (hv : v < 2147483648) (hl : w.length + 2 ≤ 2600) : vm_Met (vm_env l O f9) mX14_both 0 0 [.ref a, .int (nI v)] h (fun r h' => r = none ∧ SY h' a t g (w ++ nb (v : Nat) 2) m y ∧ fr h h' (fun q => q = a ∨ q = a + 28)) := by
  refine vm_met rfl (Nat.le_of_ble_eq_true rfl) ?_
  refine vm_go rfl bX14_both_0 oX14_both_0 ⟨_, k.1.1, 0, 0, _, rm_say k (x := v / 256 % 256) ?_ (by omega) (by omega), Nat.zero_le _, Nat.zero_le _, ?_⟩
  · have e1 : ib (v : Int) 1 = v / 256 % 256 := by
      show ((v : Int) / 256 ^ 1 % 256).toNat = _
      rw [show (256 : Int) ^ 1 = 256 from rfl]; omega
    have e2 := ib_sh (z := (v : Int)) (by omega) (by omega) (i := 1) (by decide)
    rw [← e1, ← e2, iZ_nI]; rfl
  rintro _ h1 ⟨rfl, k1, F1⟩
  refine ⟨_, k1.1.1, 0, 0, _, rm_say k1 (x := v % 256) sb_nI (by omega) (by rw [List.length_append, List.length_singleton]; omega), Nat.zero_le _, Nat.zero_le _, ?_⟩
  rintro _ h2 ⟨rfl, k2, F2⟩
  refine ⟨rfl, ?_, fr_trans F1 F2⟩
  rw [List.append_assoc] at k2
  rw [nb_two]
  exact k2
theorem rm_word {s : Nat} {v : List Nat} (h9 : f9.category = 1) (k : SY h a t g w m y) (hs : sto h s v.length (gb v)) (hv : v.length < 65536) (hl : w.length + v.length ≤ 2600) : vm_Met (vm_env l O f9) mX14_word 0 0 [.ref a, .ref s] h (fun r h' => r = none ∧ SY h' a t g (w ++ v) m y ∧ fr h h' (fun q => q = a ∨ q = a + 28)) := by
  have ao := k.1.2.1
  have vo : ∀ i, i < v.length → gb v i < 256 := by
    obtain ⟨_, p, _, _, f, _, vf⟩ := hs
    exact fun i hi => (vf i hi).2
  refine vm_met rfl (Nat.le_of_ble_eq_true rfl) ?_
  refine vm_go rfl bX14_wordx_0 oX14_wordx_0 ?_
  refine vm_Th (lv' := [(0, .ref a), (1, .ref s), (2, .int (nI 0))]) (h' := h) rfl rfl ?_
  refine vm_loop (fun i h' => SY h' a t g (w ++ sl (gb v) 0 i) m y ∧ fr h h' (fun q => q = a ∨ q = a + 28)) v.length (fun i => [(0, .ref a), (1, .ref s), (2, .int (nI i))]) 0 h (Nat.zero_le _) ⟨by rw [sl_0, List.append_nil]; exact k, fr_refl⟩ ?_ ?_
  · rintro h1 ⟨k1, F1⟩
    have s1 := sto_s (sto_fr hs (fun q hq => F1.2 q (by omega)))
    refine vm_go rfl bX14_wordx_2 oX14_wordx_2 ⟨_, s1.choose_spec.1, 0, 0, _, s_len s1 hv, Nat.zero_le _, Nat.zero_le _, ?_⟩
    rintro _ h2 ⟨rfl, rfl⟩
    refine ⟨fun _ => ?_, fun q => absurd (nI_le (a := v.length) (b := v.length) (Nat.le_refl _) (by omega)) q⟩
    rw [sl_gb] at k1
    exact vm_go rfl bX14_wordx_25 oX14_wordx_25 ⟨rfl, k1, F1⟩
  · rintro i h3 _ hi ⟨k3, F3⟩ ih
    have s1 := sto_s (sto_fr hs (fun q hq => F3.2 q (by omega)))
    refine vm_go rfl bX14_wordx_2 oX14_wordx_2 ⟨_, s1.choose_spec.1, 0, 0, _, s_len s1 hv, Nat.zero_le _, Nat.zero_le _, ?_⟩
    rintro _ h2 ⟨rfl, rfl⟩
    refine ⟨fun q => absurd q (nI_ge hi (by omega)), fun _ => ⟨_, s1.choose_spec.1, 0, 0, _, s_char h9 s1 hi hv, Nat.zero_le _, Nat.zero_le _, ?_⟩⟩
    rintro _ h4 ⟨rfl, rfl⟩
    refine ⟨_, k3.1.1, 0, 0, _, rm_say k3 (x := gb v i) (by rw [sb_nI, Nat.mod_eq_of_lt (vo i hi)]) (vo i hi) (by rw [List.length_append, sl_len]; omega), Nat.zero_le _, Nat.zero_le _, ?_⟩
    rintro _ h4 ⟨rfl, k4, F4⟩
    refine vm_Th (lv' := [(0, .ref a), (1, .ref s), (2, .int (nI (i + 1)))]) (h' := h4) (by rw [← nI_1]; rfl) rfl ?_
    refine ih _ ⟨?_, fr_trans F3 F4⟩
    rw [List.append_assoc, show [gb v i] = sl (gb v) (0 + i) 1 by rw [sl_1, Nat.zero_add], ← sl_app] at k4
    exact k4
def wCX : List Nat := wOP ++ [1] ++ wPS
theorem rm_context (h9 : f9.category = 1) (k : SY h a t g w m y) (hl : w.length + 20 ≤ 2600) : vm_Met (vm_env l O f9) mX14_context 0 0 [.ref a] h (fun r h' => r = none ∧ SY h' a t g (w ++ wCX) m y ∧ fr h h' (fun q => q = a ∨ q = a + 28)) := by
  have ao := k.1.2.1
  refine vm_met rfl (Nat.le_of_ble_eq_true rfl) ?_
  refine vm_go rfl bX14_context_0 oX14_context_0 ⟨_, k.1.1, 0, 0, _, rm_word h9 k k.1.2.2.1.2.1.2.2.2.1 (by decide) (show _ + 7 ≤ 2600 by omega), Nat.zero_le _, Nat.zero_le _, ?_⟩
  rintro _ h1 ⟨rfl, k1, F1⟩
  refine ⟨_, k1.1.1, 0, 0, _, rm_say k1 (x := 1) (by decide) (by decide) (by rw [List.length_append]; show _ + 7 < 2600; omega), Nat.zero_le _, Nat.zero_le _, ?_⟩
  rintro _ h2 ⟨rfl, k2, F2⟩
  refine ⟨_, k2.1.1, 0, 0, _, rm_word h9 k2 k2.1.2.2.1.2.1.2.2.2.2.1 (by decide) (by rw [List.length_append, List.length_append]; show _ + 7 + 1 + 12 ≤ 2600; omega), Nat.zero_le _, Nat.zero_le _, ?_⟩
  rintro _ h3 ⟨rfl, k3, F3⟩
  refine ⟨rfl, ?_, fr_trans F1 (fr_trans F2 F3)⟩
  rw [List.append_assoc, List.append_assoc] at k3
  exact k3

end
