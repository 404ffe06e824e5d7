/-! the reference: salted, masks, encodedSize, clear, byE -/
def bX14_saltedx_0 : List vm_J := [(1, .aload_n 0, 0, 0, 0, .null), (1, .iconst 0, 0, 0, 0, .int 0), (3, .putfield 203, 14, 19, 0, .null)]
set_option maxRecDepth 20000 in
theorem oX14_saltedx_0 : vm_okB 14 mX14_salted 0 bX14_saltedx_0 = true := by decide +kernel
def bX14_saltedx_5 : List vm_J := [(1, .aload_n 0, 0, 0, 0, .null), (1, .aload_n 1, 0, 0, 0, .null), (1, .iload_n 2, 0, 0, 0, .null), (2, .bipush 98, 0, 0, 0, .int 98), (3, .invokevirtual 287, 166, 3, 14, .null), (1, .aload_n 0, 0, 0, 0, .null), (3, .invokevirtual 302, 175, 0, 14, .null), (1, .iconst 0, 0, 0, 0, .int 0), (2, .istore 6, 0, 0, 0, .null)]
set_option maxRecDepth 20000 in
theorem oX14_saltedx_5 : vm_okB 14 mX14_salted 5 bX14_saltedx_5 = true := by decide +kernel
def bX14_saltedx_20 : List vm_J := [(2, .iload 6, 0, 0, 0, .null), (2, .bipush 48, 0, 0, 0, .int 48), (3, .if_icmp .ge 23, 47, 0, 0, .null), (1, .aload_n 0, 0, 0, 0, .null), (3, .getfield 305, 14, 29, 0, .null), (2, .iload 6, 0, 0, 0, .null), (1, .aload_n 0, 0, 0, 0, .null), (3, .getfield 243, 14, 20, 0, .null), (2, .iload 6, 0, 0, 0, .null), (1, .baload, 0, 0, 0, .null), (1, .bastore, 0, 0, 0, .null)]
set_option maxRecDepth 20000 in
theorem oX14_saltedx_20 : vm_okB 14 mX14_salted 20 bX14_saltedx_20 = true := by decide +kernel
def bX14_saltedx_41 : List vm_J := [(3, .iinc 6 1, 0, 0, 0, .int 1), (3, .goto (-24), 20, 0, 0, .null)]
set_option maxRecDepth 20000 in
theorem oX14_saltedx_41 : vm_okB 14 mX14_salted 41 bX14_saltedx_41 = true := by decide +kernel
def bX14_saltedx_47 : List vm_J := [(1, .iconst 0, 0, 0, 0, .int 0), (2, .istore 6, 0, 0, 0, .null)]
set_option maxRecDepth 20000 in
theorem oX14_saltedx_47 : vm_okB 14 mX14_salted 47 bX14_saltedx_47 = true := by decide +kernel
def bX14_saltedx_50 : List vm_J := [(2, .iload 6, 0, 0, 0, .null), (2, .bipush 8, 0, 0, 0, .int 8), (3, .if_icmp .ge 14, 68, 0, 0, .null), (1, .aload_n 0, 0, 0, 0, .null), (1, .iconst 0, 0, 0, 0, .int 0), (3, .invokevirtual 206, 165, 1, 14, .null), (3, .iinc 6 1, 0, 0, 0, .int 1), (3, .goto (-15), 50, 0, 0, .null)]
set_option maxRecDepth 20000 in
theorem oX14_saltedx_50 : vm_okB 14 mX14_salted 50 bX14_saltedx_50 = true := by decide +kernel
def bX14_saltedx_68 : List vm_J := [(1, .aload_n 0, 0, 0, 0, .null), (1, .aload_n 0, 0, 0, 0, .null), (3, .getfield 305, 14, 29, 0, .null), (1, .iconst 0, 0, 0, 0, .int 0), (2, .bipush 48, 0, 0, 0, .int 48), (3, .invokevirtual 287, 166, 3, 14, .null), (1, .aload_n 0, 0, 0, 0, .null), (1, .aload_n 3, 0, 0, 0, .null), (2, .iload 4, 0, 0, 0, .null), (2, .iload 5, 0, 0, 0, .null), (3, .invokevirtual 287, 166, 3, 14, .null), (1, .aload_n 0, 0, 0, 0, .null), (3, .invokevirtual 302, 175, 0, 14, .null), (1, .iconst 0, 0, 0, 0, .int 0), (2, .istore 6, 0, 0, 0, .null)]
set_option maxRecDepth 20000 in
theorem oX14_saltedx_68 : vm_okB 14 mX14_salted 68 bX14_saltedx_68 = true := by decide +kernel
def bX14_saltedx_95 : List vm_J := [(2, .iload 6, 0, 0, 0, .null), (2, .bipush 48, 0, 0, 0, .int 48), (3, .if_icmp .ge 23, 122, 0, 0, .null), (1, .aload_n 0, 0, 0, 0, .null), (3, .getfield 504, 14, 80, 0, .null), (2, .iload 6, 0, 0, 0, .null), (1, .aload_n 0, 0, 0, 0, .null), (3, .getfield 243, 14, 20, 0, .null), (2, .iload 6, 0, 0, 0, .null), (1, .baload, 0, 0, 0, .null), (1, .bastore, 0, 0, 0, .null)]
set_option maxRecDepth 20000 in
theorem oX14_saltedx_95 : vm_okB 14 mX14_salted 95 bX14_saltedx_95 = true := by decide +kernel
def bX14_saltedx_116 : List vm_J := [(3, .iinc 6 1, 0, 0, 0, .int 1), (3, .goto (-24), 95, 0, 0, .null)]
set_option maxRecDepth 20000 in
theorem oX14_saltedx_116 : vm_okB 14 mX14_salted 116 bX14_saltedx_116 = true := by decide +kernel
def bX14_saltedx_122 : List vm_J := [(1, .return_, 0, 0, 0, .null)]
set_option maxRecDepth 20000 in
theorem oX14_saltedx_122 : vm_okB 14 mX14_salted 122 bX14_saltedx_122 = true := by decide +kernel
def bX14_masksx_0 : List vm_J := [(1, .iconst 0, 0, 0, 0, .int 0), (2, .istore 4, 0, 0, 0, .null)]
set_option maxRecDepth 20000 in
theorem oX14_masksx_0 : vm_okB 14 mX14_masks 0 bX14_masksx_0 = true := by decide +kernel
def bX14_masksx_3 : List vm_J := [(2, .bipush 48, 0, 0, 0, .int 48), (2, .iload 4, 0, 0, 0, .null), (1, .imul, 0, 0, 0, .null), (1, .iload_n 3, 0, 0, 0, .null), (3, .if_icmp .ge 80, 89, 0, 0, .null), (1, .aload_n 0, 0, 0, 0, .null), (1, .aload_n 1, 0, 0, 0, .null), (1, .iload_n 2, 0, 0, 0, .null), (2, .bipush 48, 0, 0, 0, .int 48), (3, .invokevirtual 287, 166, 3, 14, .null), (1, .aload_n 0, 0, 0, 0, .null), (1, .iconst 0, 0, 0, 0, .int 0), (3, .invokevirtual 296, 167, 1, 14, .null), (1, .aload_n 0, 0, 0, 0, .null), (2, .iload 4, 0, 0, 0, .null), (3, .invokevirtual 296, 167, 1, 14, .null), (1, .aload_n 0, 0, 0, 0, .null), (3, .invokevirtual 302, 175, 0, 14, .null), (1, .iconst 0, 0, 0, 0, .int 0), (2, .istore 5, 0, 0, 0, .null)]
set_option maxRecDepth 20000 in
theorem oX14_masksx_3 : vm_okB 14 mX14_masks 3 bX14_masksx_3 = true := by decide +kernel
def bX14_masksx_38 : List vm_J := [(2, .iload 5, 0, 0, 0, .null), (2, .bipush 48, 0, 0, 0, .int 48), (3, .if_icmp .ge 41, 83, 0, 0, .null), (2, .bipush 48, 0, 0, 0, .int 48), (2, .iload 4, 0, 0, 0, .null), (1, .imul, 0, 0, 0, .null), (2, .iload 5, 0, 0, 0, .null), (1, .iadd, 0, 0, 0, .null), (1, .iload_n 3, 0, 0, 0, .null), (3, .if_icmp .ge 29, 83, 0, 0, .null), (1, .aload_n 0, 0, 0, 0, .null), (3, .getfield 501, 14, 79, 0, .null), (2, .bipush 48, 0, 0, 0, .int 48), (2, .iload 4, 0, 0, 0, .null), (1, .imul, 0, 0, 0, .null), (2, .iload 5, 0, 0, 0, .null), (1, .iadd, 0, 0, 0, .null), (1, .aload_n 0, 0, 0, 0, .null), (3, .getfield 243, 14, 20, 0, .null), (2, .iload 5, 0, 0, 0, .null), (1, .baload, 0, 0, 0, .null), (1, .bastore, 0, 0, 0, .null)]
set_option maxRecDepth 20000 in
theorem oX14_masksx_38 : vm_okB 14 mX14_masks 38 bX14_masksx_38 = true := by decide +kernel
def bX14_masksx_77 : List vm_J := [(3, .iinc 5 1, 0, 0, 0, .int 1), (3, .goto (-42), 38, 0, 0, .null)]
set_option maxRecDepth 20000 in
theorem oX14_masksx_77 : vm_okB 14 mX14_masks 77 bX14_masksx_77 = true := by decide +kernel
def bX14_masksx_83 : List vm_J := [(3, .iinc 4 1, 0, 0, 0, .int 1), (3, .goto (-83), 3, 0, 0, .null)]
set_option maxRecDepth 20000 in
theorem oX14_masksx_83 : vm_okB 14 mX14_masks 83 bX14_masksx_83 = true := by decide +kernel
def bX14_masksx_89 : List vm_J := [(1, .return_, 0, 0, 0, .null)]
set_option maxRecDepth 20000 in
theorem oX14_masksx_89 : vm_okB 14 mX14_masks 89 bX14_masksx_89 = true := by decide +kernel
def bX14_byEx_0 : List vm_J := [(1, .aload_n 0, 0, 0, 0, .null), (3, .getfield 516, 14, 84, 0, .null), (1, .iconst 0, 0, 0, 0, .int 0), (1, .aload_n 0, 0, 0, 0, .null), (3, .getfield 465, 14, 60, 0, .null), (1, .iload_n 1, 0, 0, 0, .null), (1, .iaload, 0, 0, 0, .null), (1, .iastore, 0, 0, 0, .null)]
set_option maxRecDepth 20000 in
theorem oX14_byEx_0 : vm_okB 14 mX14_byE 0 bX14_byEx_0 = true := by decide +kernel
def bX14_byEx_12 : List vm_J := [(1, .aload_n 0, 0, 0, 0, .null), (1, .aload_n 0, 0, 0, 0, .null), (3, .getfield 461, 14, 59, 0, .null), (1, .iload_n 1, 0, 0, 0, .null), (1, .aaload, 0, 0, 0, .null), (1, .aload_n 2, 0, 0, 0, .null), (1, .aload_n 0, 0, 0, 0, .null), (3, .getfield 516, 14, 84, 0, .null), (2, .bipush 17, 0, 0, 0, .int 17), (1, .aload_n 3, 0, 0, 0, .null), (3, .invokevirtual 169, 150, 5, 14, .null), (1, .return_, 0, 0, 0, .null)]
set_option maxRecDepth 20000 in
theorem oX14_byEx_12 : vm_okB 14 mX14_byE 12 bX14_byEx_12 = true := by decide +kernel
section
variable {l : Launch} {O : Nat → vm_Ob} {f9 : Value} {h : vm_H} {a : Nat} {t : KT} {g : Nat → Int32} {w m y : List Nat}
theorem GDb {h : vm_H} {a i L q : Nat} {c : Nat → Nat} (z : ZB i) (e : zb i = L) (k : bv h L (a + i) c) (hq : q = a + i) : q = a ∨ GD h a q := .inr (hq ▸ GD_r z e ⟨_, k⟩)
theorem nb_04 : nb ((0 : Nat) : Int) 4 ++ nb ((0 : Nat) : Int) 4 = List.replicate 8 0 := by decide
theorem rm_salted {bi9 ni p1 bs9 ns p2 s : Nat} {ci cs9 : Nat → Nat} (k : SY h a t g w m y) (hi9 : bv h ni bi9 ci) (ni1 : p1 + 98 ≤ ni) (ni2 : ni < 65536) (hs9 : bv h ns bs9 cs9) (ns1 : p2 + s ≤ ns) (ns2 : ns < 65536) (hs48 : s ≤ 48) (nb1 : bi9 ≠ a ∧ (bi9 < a + 28 ∨ a + 36 < bi9) ∧ bi9 ≠ a + 157) (nb2' : bs9 ≠ a ∧ (bs9 < a + 28 ∨ a + 36 < bs9) ∧ bs9 ≠ a + 157) : vm_Met (vm_env l O f9) mX14_salted 0 0 [.ref a, .ref bi9, .int (nI p1), .ref bs9, .int (nI p2), .int (nI s)] h (fun r h' => r = none ∧ SY h' a t g [] m y ∧ (∃ c, bv h' 48 (a + 157) c ∧ sl c 0 48 = emk t.2.2.1 t.2.2.2 (sl ci p1 98) (sl cs9 p2 s)) ∧ fr h h' (fun q => q = a ∨ (a + 28 ≤ q ∧ q ≤ a + 33) ∨ q = a + 36 ∨ q = a + 157)) := by
  have ao := k.1.2.1
  have la : a < 1099511627776 := by omega
  refine vm_met rfl (Nat.le_of_ble_eq_true rfl) ?_
  refine vm_go rfl bX14_saltedx_0 oX14_saltedx_0 ⟨_, k.1.1, la, show 19 < 89 by decide, trivial, ?_⟩
  obtain ⟨h1, eh1⟩ : ∃ h1, h1 = vm_up h a (RO a (u3 g (nI ([] : List Nat).length) (nI m.length) (nI y.length))) := ⟨_, rfl⟩
  obtain ⟨k1, F1⟩ := SY_clr k eh1
  refine vm_Th (lv' := [(0, .ref a), (1, .ref bi9), (2, .int (nI p1)), (3, .ref bs9), (4, .int (nI p2)), (5, .int (nI s))]) (h' := h1) rfl eh1 ?_
  refine vm_go rfl bX14_saltedx_5 oX14_saltedx_5 ⟨_, k1.1.1, 0, 0, _, rm_says (at9 := p1) (n := 98) k1 (bv_cg hi9 (F1.2 _ nb1.1)) (by omega) ni1 ni2 (by decide), Nat.zero_le _, Nat.zero_le _, ?_⟩
  rintro _ h2 ⟨rfl, k2, F2⟩
  rw [List.nil_append] at k2
  refine ⟨_, k2.1.1, 0, 0, _, rm_h3 k2 (by rw [sl_len]; decide), Nat.zero_le _, Nat.zero_le _, ?_⟩
  rintro _ h3 ⟨rfl, k3, ⟨cd, bd, ed⟩, F3⟩
  obtain ⟨fd, efd, vfd⟩ := id bd
  have FF : fr h h3 (fun q => q = a ∨ (a + 28 ≤ q ∧ q ≤ a + 33) ∨ q = a + 36 ∨ q = a + 157) := fr_trans (fr_mono F1 (fun q z => by omega)) (fr_trans (fr_mono F2 (fun q z => by omega)) (fr_mono F3 (fun q z => by omega)))
  refine vm_Th (lv' := [(0, .ref a), (1, .ref bi9), (2, .int (nI p1)), (3, .ref bs9), (4, .int (nI p2)), (5, .int (nI s)), (6, .int (nI 0))]) (h' := h3) rfl rfl ?_
  obtain ⟨c36, b360⟩ := k3.1.2.2.2.2.2.1 36 (by unfold ZB; omega)
  have l36 : a + 36 < 1099511627776 := by omega
  refine vm_loop (fun i h' => SY h' a t g [] m y ∧ (∃ c, bv h' 48 (a + 36) c ∧ ∀ j, j < i → c (0 + j) = cd j) ∧ fr h3 h' (fun q => q = a + 36)) 48 (fun i => [(0, .ref a), (1, .ref bi9), (2, .int (nI p1)), (3, .ref bs9), (4, .int (nI p2)), (5, .int (nI s)), (6, .int (nI i))]) 0 h3 (Nat.zero_le _) ⟨k3, ⟨c36, b360, fun j hj => by omega⟩, fr_refl⟩ ?_ ?_
  rotate_left
  · rintro i h8 _ hi ⟨k8, ⟨c5, ⟨f5, ef5, vf5⟩, v5⟩, F8⟩ ih
    have vs := vfd i (by omega)
    refine vm_go rfl bX14_saltedx_20 oX14_saltedx_20 ⟨fun q => absurd q (nI_ge (b := 48) hi (by decide)), fun _ => ⟨_, _, k8.1.1, rfl, ⟨_, _, k8.1.1, rfl, ⟨48, fd, (F8.2 _ (by omega)).trans efd, i, rfl, hi, fun _ => ⟨48, f5, ef5, l36, i, rfl, hi, ?_⟩⟩⟩⟩⟩
    obtain ⟨h9, eh9⟩ : ∃ h9, h9 = vm_up h8 (a + 36) (.inl (.byte, 48, .inl (upd f5 i (sb (cd i))))) := ⟨_, rfl⟩
    have F9 : fr h8 h9 (fun q => q = a + 36) := eh9 ▸ fr_up rfl
    have b9' : bv h9 48 (a + 36) (b1 c5 i (cd i)) := eh9 ▸ bv_up vf5 vs.2
    refine vm_Th (lv' := [(0, .ref a), (1, .ref bi9), (2, .int (nI p1)), (3, .ref bs9), (4, .int (nI p2)), (5, .int (nI s)), (6, .int (nI i))]) (h' := h9) rfl (by rw [eh9, ← sb_self _ vs.2, ← vs.1]; rfl) ?_
    have b9' : bv h9 48 (a + 36) (b1 c5 (0 + i) (cd i)) := by rw [Nat.zero_add]; exact b9'
    have k9 : SY h9 a t g [] m y := SY_fr k8 (RK_of k8.1 F9 ((F9.2 a (by omega)).trans k8.1.1) (fun q z => GDb (i := 36) (by unfold ZB; omega) rfl b9' z)) F9 (by omega)
    refine vm_go rfl bX14_saltedx_41 oX14_saltedx_41 (vm_Th (by rw [← nI_1]; rfl) rfl (ih h9 ⟨k9, ⟨_, b9', bstp v5 rfl⟩, fr_trans F8 F9⟩))
  rintro h4 ⟨kh4, ⟨cc, bc, vc⟩, Fh4⟩
  refine vm_go rfl bX14_saltedx_20 oX14_saltedx_20 ⟨fun _ => ?_, fun q => absurd (nI_le (a := 48) (b := 48) (by decide) (by decide)) q⟩
  have e4 : sl cc 0 48 = H3 t.2.2.1 t.2.2.2 (sl ci p1 98) := by
    rw [← ed]
    exact sl_ext (fun j hj => by rw [vc j hj, Nat.zero_add])
  have FF : fr h h4 (fun q => q = a ∨ (a + 28 ≤ q ∧ q ≤ a + 33) ∨ q = a + 36 ∨ q = a + 157) := fr_trans FF (fr_mono Fh4 (fun q z => by omega))
  refine vm_go rfl bX14_saltedx_47 oX14_saltedx_47 ?_
  refine vm_Th (lv' := [(0, .ref a), (1, .ref bi9), (2, .int (nI p1)), (3, .ref bs9), (4, .int (nI p2)), (5, .int (nI s)), (6, .int (nI 0))]) (h' := h4) rfl rfl ?_
  refine vm_loop (fun i h' => SY h' a t g (List.replicate i 0) m y ∧ fr h4 h' (fun q => q = a ∨ q = a + 28)) 8 (fun i => [(0, .ref a), (1, .ref bi9), (2, .int (nI p1)), (3, .ref bs9), (4, .int (nI p2)), (5, .int (nI s)), (6, .int (nI i))]) 0 h4 (Nat.zero_le _) ⟨kh4, fr_refl⟩ ?_ ?_
  rotate_left
  · rintro i h5 _ hi ⟨k5, F5⟩ ih
    refine vm_go rfl bX14_saltedx_50 oX14_saltedx_50 ⟨fun q => absurd q (nI_ge (b := 8) hi (by decide)), fun _ => ⟨_, k5.1.1, 0, 0, _, rm_say (x := 0) k5 (by decide) (by decide) (by rw [List.length_replicate]; omega), Nat.zero_le _, Nat.zero_le _, ?_⟩⟩
    rintro _ h6 ⟨rfl, k6, F6⟩
    rw [rep_s] at k6
    exact vm_Th (by rw [← nI_1]; rfl) rfl (ih h6 ⟨k6, fr_trans F5 F6⟩)
  rintro h5 ⟨k5, F5⟩
  refine vm_go rfl bX14_saltedx_50 oX14_saltedx_50 ⟨fun _ => ?_, fun q => absurd (nI_le (a := 8) (b := 8) (by decide) (by decide)) q⟩
  have l8 : (List.replicate 8 0 : List Nat).length = 8 := List.length_replicate
  refine vm_go rfl bX14_saltedx_68 oX14_saltedx_68 ⟨_, _, k5.1.1, rfl, ⟨_, k5.1.1, 0, 0, _, rm_says (at9 := 0) (n := 48) k5 (bv_cg bc (F5.2 _ (by omega))) (by omega) (by decide) (by decide) (by rw [l8]; decide), Nat.zero_le _, Nat.zero_le _, ?_⟩⟩
  rintro _ h6 ⟨rfl, k6, F6⟩
  rw [e4] at k6
  have FF : fr h h6 (fun q => q = a ∨ (a + 28 ≤ q ∧ q ≤ a + 33) ∨ q = a + 36 ∨ q = a + 157) := fr_trans FF (fr_trans (fr_mono F5 (fun q z => by omega)) (fr_mono F6 (fun q z => by omega)))
  refine ⟨_, k6.1.1, 0, 0, _, rm_says (at9 := p2) (n := s) k6 (bv_cg hs9 (FF.2 _ (by omega))) (by omega) ns1 ns2 (by rw [List.length_append, l8, H3_len]; omega), Nat.zero_le _, Nat.zero_le _, ?_⟩
  rintro _ h7 ⟨rfl, k7, F7⟩
  refine ⟨_, k7.1.1, 0, 0, _, rm_h3 k7 (by rw [List.length_append, List.length_append, l8, H3_len, sl_len]; omega), Nat.zero_le _, Nat.zero_le _, ?_⟩
  clear vfd efd ed bd vc fd cd
  rintro _ h8' ⟨rfl, k8', ⟨cd, bd, ed⟩, F8'⟩
  obtain ⟨fd, efd, vfd⟩ := id bd
  have ed : sl cd 0 48 = emk t.2.2.1 t.2.2.2 (sl ci p1 98) (sl cs9 p2 s) := by
    unfold emk
    rw [nb_04]; exact ed
  have FF : fr h h8' (fun q => q = a ∨ (a + 28 ≤ q ∧ q ≤ a + 33) ∨ q = a + 36 ∨ q = a + 157) := fr_trans FF (fr_trans (fr_mono F7 (fun q z => by omega)) (fr_mono F8' (fun q z => by omega)))
  refine vm_Th (lv' := [(0, .ref a), (1, .ref bi9), (2, .int (nI p1)), (3, .ref bs9), (4, .int (nI p2)), (5, .int (nI s)), (6, .int (nI 0))]) (h' := h8') rfl rfl ?_
  obtain ⟨c157, b1570⟩ := k8'.1.2.2.2.2.2.1 157 (by unfold ZB; omega)
  have l157 : a + 157 < 1099511627776 := by omega
  refine vm_loop (fun i h' => SY h' a t g [] m y ∧ (∃ c, bv h' 48 (a + 157) c ∧ ∀ j, j < i → c (0 + j) = cd j) ∧ fr h8' h' (fun q => q = a + 157)) 48 (fun i => [(0, .ref a), (1, .ref bi9), (2, .int (nI p1)), (3, .ref bs9), (4, .int (nI p2)), (5, .int (nI s)), (6, .int (nI i))]) 0 h8' (Nat.zero_le _) ⟨k8', ⟨c157, b1570, fun j hj => by omega⟩, fr_refl⟩ ?_ ?_
  rotate_left
  · rintro i h8 _ hi ⟨k8, ⟨c5, ⟨f5, ef5, vf5⟩, v5⟩, F8⟩ ih
    have vs := vfd i (by omega)
    refine vm_go rfl bX14_saltedx_95 oX14_saltedx_95 ⟨fun q => absurd q (nI_ge (b := 48) hi (by decide)), fun _ => ⟨_, _, k8.1.1, rfl, ⟨_, _, k8.1.1, rfl, ⟨48, fd, (F8.2 _ (by omega)).trans efd, i, rfl, hi, fun _ => ⟨48, f5, ef5, l157, i, rfl, hi, ?_⟩⟩⟩⟩⟩
    obtain ⟨h9, eh9⟩ : ∃ h9, h9 = vm_up h8 (a + 157) (.inl (.byte, 48, .inl (upd f5 i (sb (cd i))))) := ⟨_, rfl⟩
    have F9 : fr h8 h9 (fun q => q = a + 157) := eh9 ▸ fr_up rfl
    have b9' : bv h9 48 (a + 157) (b1 c5 i (cd i)) := eh9 ▸ bv_up vf5 vs.2
    refine vm_Th (lv' := [(0, .ref a), (1, .ref bi9), (2, .int (nI p1)), (3, .ref bs9), (4, .int (nI p2)), (5, .int (nI s)), (6, .int (nI i))]) (h' := h9) rfl (by rw [eh9, ← sb_self _ vs.2, ← vs.1]; rfl) ?_
    have b9' : bv h9 48 (a + 157) (b1 c5 (0 + i) (cd i)) := by rw [Nat.zero_add]; exact b9'
    have k9 : SY h9 a t g [] m y := SY_fr k8 (RK_of k8.1 F9 ((F9.2 a (by omega)).trans k8.1.1) (fun q z => GDb (i := 157) (by unfold ZB; omega) rfl b9' z)) F9 (by omega)
    refine vm_go rfl bX14_saltedx_116 oX14_saltedx_116 (vm_Th (by rw [← nI_1]; rfl) rfl (ih h9 ⟨k9, ⟨_, b9', bstp v5 rfl⟩, fr_trans F8 F9⟩))
  rintro h10 ⟨kh10, ⟨cc2, bc2, vc2⟩, Fh10⟩
  refine vm_go rfl bX14_saltedx_95 oX14_saltedx_95 ⟨fun _ => ?_, fun q => absurd (nI_le (a := 48) (b := 48) (by decide) (by decide)) q⟩
  refine vm_go rfl bX14_saltedx_122 oX14_saltedx_122 ⟨rfl, kh10, ⟨cc2, bc2, ?_⟩, fr_trans FF (fr_mono Fh10 (fun q z => by omega))⟩
  rw [← ed]
  exact sl_ext (fun j hj => by rw [vc2 j hj, Nat.zero_add])

theorem nb_24 {i : Nat} (hi : i < 65536) : nb (i : Int) 4 = nb ((0 : Nat) : Int) 2 ++ nb (i : Nat) 2 := by
  rw [nb_two, nb_two]
  have e : ∀ k, k < 4 → ib (i : Int) k = i / 256 ^ k % 256 := fun k hk => by
    show ((i : Int) / 256 ^ k % 256).toNat = _
    have e2 : ∀ k, k < 4 → (256 : Int) ^ k = ((256 ^ k : Nat) : Int) := by decide
    rw [e2 k hk, ← Int.natCast_ediv]
    omega
  show [ib (i : Int) 3, ib (i : Int) 2, ib (i : Int) 1, ib (i : Int) 0] = _
  rw [e 3 (by decide), e 2 (by decide), e 1 (by decide), e 0 (by decide)]
  have e3 : i / 256 ^ 3 % 256 = 0 / 256 % 256 := by rw [show (256 : Nat) ^ 3 = 16777216 from rfl]; omega
  have e2 : i / 256 ^ 2 % 256 = 0 % 256 := by rw [show (256 : Nat) ^ 2 = 65536 from rfl]; omega
  have e1 : i / 256 ^ 1 % 256 = i / 256 % 256 := by rw [show (256 : Nat) ^ 1 = 256 from rfl]
  have e0 : i / 256 ^ 0 % 256 = i % 256 := by rw [Nat.pow_zero, Nat.div_one]
  rw [e3, e2, e1, e0]; rfl
theorem rm_masks {b nt p many : Nat} {c : Nat → Nat} (k : SY h a t g [] m y) (hb : bv h nt b c) (hp : p + 48 ≤ nt) (hnt : nt < 65536) (hm : many ≤ 260) (nb1 : b ≠ a ∧ (b < a + 28 ∨ a + 33 < b) ∧ b ≠ a + 156) : vm_Met (vm_env l O f9) mX14_masks 0 0 [.ref a, .ref b, .int (nI p), .int (nI many)] h (fun r h' => r = none ∧ SY h' a t g [] m y ∧ (∃ c', bv h' 260 (a + 156) c' ∧ ∀ j, j < many → c' j = mgb t.2.2.1 t.2.2.2 (sl c p 48) j) ∧ fr h h' (fun q => q = a ∨ (a + 28 ≤ q ∧ q ≤ a + 33) ∨ q = a + 156)) := by
  have ao := k.1.2.1
  have l156 : a + 156 < 1099511627776 := by omega
  obtain ⟨c0, b0⟩ := k.1.2.2.2.2.2.1 156 (by unfold ZB; omega)
  obtain ⟨mk, emk9⟩ : ∃ mk, sl c p 48 = mk := ⟨_, rfl⟩
  have lmk : mk.length = 48 := by rw [← emk9, sl_len]
  rw [emk9]
  refine vm_met rfl (Nat.le_of_ble_eq_true rfl) ?_
  refine vm_go rfl bX14_masksx_0 oX14_masksx_0 ?_
  refine vm_Th (lv' := [(0, .ref a), (1, .ref b), (2, .int (nI p)), (3, .int (nI many)), (4, .int (nI 0))]) (h' := h) rfl rfl ?_
  refine vm_loop (fun i h' => SY h' a t g [] m y ∧ (∃ c', bv h' 260 (a + 156) c' ∧ ∀ j, j < 48 * i → j < many → c' j = mgb t.2.2.1 t.2.2.2 mk j) ∧ fr h h' (fun q => q = a ∨ (a + 28 ≤ q ∧ q ≤ a + 33) ∨ q = a + 156)) ((many + 47) / 48) (fun i => [(0, .ref a), (1, .ref b), (2, .int (nI p)), (3, .int (nI many)), (4, .int (nI i))]) 0 h (Nat.zero_le _) ⟨k, ⟨c0, b0, fun j hj => by omega⟩, fr_refl⟩ ?_ ?_
  · rintro h1 ⟨k1, ⟨c1, bc1, v1⟩, F1⟩
    have e1 : (48 : Int32) * nI ((many + 47) / 48) = nI (48 * ((many + 47) / 48)) := nI_mul 48 _
    refine vm_go rfl bX14_masksx_3 oX14_masksx_3 ⟨fun _ => ?_, fun q => absurd (show nI many ≤ (48 : Int32) * nI ((many + 47) / 48) by rw [e1]; exact nI_le (by omega) (by omega)) q⟩
    exact vm_go rfl bX14_masksx_89 oX14_masksx_89 ⟨rfl, k1, ⟨c1, bc1, fun j hj => v1 j (by omega) hj⟩, F1⟩
  rintro i h1 _ hi ⟨k1, ⟨c1, bc1, v1⟩, F1⟩ ih
  have e1 : (48 : Int32) * nI i = nI (48 * i) := nI_mul 48 i
  have hbb := bv_cg hb (F1.2 b (by omega))
  refine vm_go rfl bX14_masksx_3 oX14_masksx_3 ⟨fun q => ?_, fun _ => ⟨_, k1.1.1, 0, 0, _, rm_says (at9 := p) (n := 48) k1 hbb (by omega) hp hnt (by decide), Nat.zero_le _, Nat.zero_le _, ?_⟩⟩
  · have q : nI many ≤ (48 : Int32) * nI i := q
    rw [e1] at q
    exact absurd q (nI_ge (by omega) (by omega))
  rintro _ h2 ⟨rfl, k2, F2⟩
  rw [List.nil_append, emk9] at k2
  refine ⟨_, k2.1.1, 0, 0, _, rm_both (v := 0) k2 (by decide) (by omega), Nat.zero_le _, Nat.zero_le _, ?_⟩
  rintro _ h3 ⟨rfl, k3, F3⟩
  refine ⟨_, k3.1.1, 0, 0, _, rm_both (v := i) k3 (by omega) (by rw [List.length_append, nb_len]; omega), Nat.zero_le _, Nat.zero_le _, ?_⟩
  rintro _ h4 ⟨rfl, k4, F4⟩
  refine ⟨_, k4.1.1, 0, 0, _, rm_h3 k4 (by rw [List.length_append, List.length_append, nb_len, nb_len]; omega), Nat.zero_le _, Nat.zero_le _, ?_⟩
  rintro _ h5 ⟨rfl, k5, ⟨cd, bd, ed⟩, F5⟩
  rw [List.append_assoc, ← nb_24 (by omega)] at ed
  have G5 : fr h1 h5 (fun q => q = a ∨ (a + 28 ≤ q ∧ q ≤ a + 33)) := fr_trans (fr_mono F2 (fun q z => by omega)) (fr_trans (fr_mono F3 (fun q z => by omega)) (fr_trans (fr_mono F4 (fun q z => by omega)) F5))
  have F5 : fr h h5 (fun q => q = a ∨ (a + 28 ≤ q ∧ q ≤ a + 33) ∨ q = a + 156) := fr_trans F1 (fr_mono G5 (fun q z => by omega))
  obtain ⟨fd, efd, vfd⟩ := id bd
  have bc5 := bv_cg bc1 (G5.2 _ (by omega))
  have vd : ∀ q, q < 48 → cd q = mgb t.2.2.1 t.2.2.2 mk (48 * i + q) := fun q hq => by
    have := sl_all ed q hq
    rw [Nat.zero_add] at this
    rw [this]
    unfold mgb
    rw [show (48 * i + q) / 48 = i by omega, show (48 * i + q) % 48 = q by omega]
  refine vm_Th (lv' := [(0, .ref a), (1, .ref b), (2, .int (nI p)), (3, .int (nI many)), (4, .int (nI i)), (5, .int (nI 0))]) (h' := h5) rfl rfl ?_
  obtain ⟨nn, enn⟩ : ∃ nn, (if 48 * i + 48 ≤ many then 48 else many - 48 * i) = nn := ⟨_, rfl⟩
  have hnn : nn ≤ 48 ∧ 48 * i + nn ≤ many ∧ (nn = 48 ∨ 48 * i + nn = many) := by
    rw [← enn]
    split <;> omega
  refine vm_loop (fun q h' => SY h' a t g [] m y ∧ (∃ c', bv h' 260 (a + 156) c' ∧ ∀ j, j < 48 * i + q → j < many → c' j = mgb t.2.2.1 t.2.2.2 mk j) ∧ fr h5 h' (fun q => q = a + 156)) nn (fun q => [(0, .ref a), (1, .ref b), (2, .int (nI p)), (3, .int (nI many)), (4, .int (nI i)), (5, .int (nI q))]) 0 h5 (Nat.zero_le _) ⟨k5, ⟨c1, bc5, fun j hj => v1 j (by omega)⟩, fr_refl⟩ ?_ ?_
  · rintro h6 ⟨k6, ⟨c6, bc6, v6⟩, F6⟩
    have fin : vm_T (vm_env l O f9) mX14_masks 0 0 83 [(0, .ref a), (1, .ref b), (2, .int (nI p)), (3, .int (nI many)), (4, .int (nI i)), (5, .int (nI nn))] [] h6 (fun r h' => r = none ∧ SY h' a t g [] m y ∧ (∃ c', bv h' 260 (a + 156) c' ∧ ∀ j, j < many → c' j = mgb t.2.2.1 t.2.2.2 mk j) ∧ fr h h' (fun q => q = a ∨ (a + 28 ≤ q ∧ q ≤ a + 33) ∨ q = a + 156)) := by
      refine vm_go rfl bX14_masksx_83 oX14_masksx_83 ?_
      refine vm_less [0, 1, 2, 3, 4] rfl ?_
      exact vm_Th (by rw [← nI_1]; rfl) rfl (ih h6 ⟨k6, ⟨c6, bc6, fun j h1 h2 => v6 j (by omega) h2⟩, fr_trans F5 (fr_mono F6 (fun q z => by omega))⟩)
    have e2 : (48 : Int32) * nI i + nI nn = nI (48 * i + nn) := by rw [e1, nI_add]
    rcases Nat.lt_or_ge nn 48 with h48 | h48
    · refine vm_go rfl bX14_masksx_38 oX14_masksx_38 ⟨fun q => absurd q (nI_ge (b := 48) h48 (by decide)), fun _ => ⟨fun _ => fin, fun q => absurd (show nI many ≤ (48 : Int32) * nI i + nI nn by rw [e2]; exact nI_le (by omega) (by omega)) q⟩⟩
    · refine vm_go rfl bX14_masksx_38 oX14_masksx_38 ⟨fun _ => fin, fun q => absurd (nI_le (a := 48) h48 (by omega)) q⟩
  rintro q h6 _ hq ⟨k6, ⟨c6, bc6, v6⟩, F6⟩ ih2
  have vs := vfd q (by omega)
  have e2 : (48 : Int32) * nI i + nI q = nI (48 * i + q) := by rw [e1, nI_add]
  obtain ⟨f6, ef6, vf6⟩ := id bc6
  refine vm_go rfl bX14_masksx_38 oX14_masksx_38 ⟨fun z => absurd z (nI_ge (b := 48) (by omega) (by decide)), fun _ => ⟨fun z => ?_, fun _ => ⟨_, _, k6.1.1, rfl, ⟨_, _, k6.1.1, rfl, ⟨48, fd, (F6.2 _ (by omega)).trans efd, q, rfl, by omega, fun _ => ⟨260, f6, ef6, l156, 48 * i + q, e2, by omega, ?_⟩⟩⟩⟩⟩⟩
  · have z : nI many ≤ (48 : Int32) * nI i + nI q := z
    rw [e2] at z
    exact absurd z (nI_ge (by omega) (by omega))
  obtain ⟨h7, eh7⟩ : ∃ h7, h7 = vm_up h6 (a + 156) (.inl (.byte, 260, .inl (upd f6 (48 * i + q) (sb (cd q))))) := ⟨_, rfl⟩
  have F7 : fr h6 h7 (fun q => q = a + 156) := eh7 ▸ fr_up rfl
  have b7' : bv h7 260 (a + 156) (b1 c6 (48 * i + q) (cd q)) := eh7 ▸ bv_up vf6 vs.2
  refine vm_Th (lv' := [(0, .ref a), (1, .ref b), (2, .int (nI p)), (3, .int (nI many)), (4, .int (nI i)), (5, .int (nI q))]) (h' := h7) rfl (by rw [eh7, ← sb_self _ vs.2, ← vs.1]; rfl) ?_
  have k7 : SY h7 a t g [] m y := SY_fr k6 (RK_of k6.1 F7 ((F7.2 a (by omega)).trans k6.1.1) (fun q z => GDb (i := 156) (by unfold ZB; omega) rfl b7' z)) F7 (by omega)
  refine vm_go rfl bX14_masksx_77 oX14_masksx_77 (vm_Th (by rw [← nI_1 q]; rfl) rfl (ih2 h7 ⟨k7, ⟨_, b7', fun j h1 h2 => ?_⟩, fr_trans F6 F7⟩))
  unfold b1
  by_cases e : j = 48 * i + q
  · rw [if_pos e, e]; exact vd q (by omega)
  · rw [if_neg e]; exact v6 j (by omega) h2
end
