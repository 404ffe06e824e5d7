/-! the reference: finalize -/
def bX14_finalizex_0 : List vm_J := [(1, .aload_n 0, 0, 0, 0, .null), (3, .invokevirtual 570, 192, 0, 14, .null), (1, .istore_n 2, 0, 0, 0, .null)]
set_option maxRecDepth 20000 in
theorem oX14_finalizex_0 : vm_okB 14 mX14_finalize 0 bX14_finalizex_0 = true := by decide +kernel
def bX14_finalizex_5 : List vm_J := [(1, .aload_n 0, 0, 0, 0, .null), (1, .iload_n 1, 0, 0, 0, .null), (3, .invokevirtual 636, 223, 1, 14, .null), (3, .ifCond .ne 10, 20, 0, 0, .null), (1, .aload_n 0, 0, 0, 0, .null), (1, .iconst 1, 0, 0, 0, .int 1), (3, .putfield 1, 14, 0, 0, .null)]
set_option maxRecDepth 20000 in
theorem oX14_finalizex_5 : vm_okB 14 mX14_finalize 5 bX14_finalizex_5 = true := by decide +kernel
def bX14_finalizex_18 : List vm_J := [(1, .iconst 0, 0, 0, 0, .int 0), (1, .ireturn, 0, 0, 0, .null)]
set_option maxRecDepth 20000 in
theorem oX14_finalizex_18 : vm_okB 14 mX14_finalize 18 bX14_finalizex_18 = true := by decide +kernel
def bX14_finalizex_20 : List vm_J := [(1, .aload_n 0, 0, 0, 0, .null), (3, .getfield 474, 14, 64, 0, .null), (1, .iload_n 1, 0, 0, 0, .null), (1, .iaload, 0, 0, 0, .null), (1, .istore_n 3, 0, 0, 0, .null)]
set_option maxRecDepth 20000 in
theorem oX14_finalizex_20 : vm_okB 14 mX14_finalize 20 bX14_finalizex_20 = true := by decide +kernel
def bX14_finalizex_27 : List vm_J := [(1, .aload_n 0, 0, 0, 0, .null), (3, .getfield 450, 14, 54, 0, .null), (1, .iload_n 3, 0, 0, 0, .null), (1, .iaload, 0, 0, 0, .null), (1, .iconst 1, 0, 0, 0, .int 1), (3, .if_icmp .ne 11, 45, 0, 0, .null), (1, .aload_n 0, 0, 0, 0, .null), (1, .iload_n 1, 0, 0, 0, .null), (1, .iconst 1, 0, 0, 0, .int 1), (1, .iload_n 2, 0, 0, 0, .null), (3, .invokevirtual 639, 227, 3, 14, .null), (1, .ireturn, 0, 0, 0, .null)]
set_option maxRecDepth 20000 in
theorem oX14_finalizex_27 : vm_okB 14 mX14_finalize 27 bX14_finalizex_27 = true := by decide +kernel
def bX14_finalizex_45 : List vm_J := [(1, .iload_n 2, 0, 0, 0, .null), (1, .aload_n 0, 0, 0, 0, .null), (3, .getfield 468, 14, 61, 0, .null), (1, .iload_n 3, 0, 0, 0, .null), (1, .iaload, 0, 0, 0, .null), (3, .if_icmp .eq 6, 58, 0, 0, .null), (2, .bipush (-2), 0, 0, 0, .int (-2)), (1, .ireturn, 0, 0, 0, .null)]
set_option maxRecDepth 20000 in
theorem oX14_finalizex_45 : vm_okB 14 mX14_finalize 45 bX14_finalizex_45 = true := by decide +kernel
def bX14_finalizex_58 : List vm_J := [(1, .aload_n 0, 0, 0, 0, .null), (1, .iload_n 1, 0, 0, 0, .null), (1, .iload_n 3, 0, 0, 0, .null), (3, .invokevirtual 643, 228, 2, 14, .null), (1, .ireturn, 0, 0, 0, .null)]
set_option maxRecDepth 20000 in
theorem oX14_finalizex_58 : vm_okB 14 mX14_finalize 58 bX14_finalizex_58 = true := by decide +kernel
def bX14_finalizeManyx_0 : List vm_J := [(1, .aload_n 0, 0, 0, 0, .null), (3, .invokevirtual 570, 192, 0, 14, .null), (1, .istore_n 3, 0, 0, 0, .null)]
set_option maxRecDepth 20000 in
theorem oX14_finalizeManyx_0 : vm_okB 14 mX14_finalizeMany 0 bX14_finalizeManyx_0 = true := by decide +kernel
def bX14_finalizeManyx_5 : List vm_J := [(1, .iload_n 2, 0, 0, 0, .null), (1, .iconst 1, 0, 0, 0, .int 1), (3, .if_icmp .lt 13, 20, 0, 0, .null), (1, .iload_n 2, 0, 0, 0, .null), (2, .bipush 8, 0, 0, 0, .int 8), (3, .if_icmp .gt 7, 20, 0, 0, .null), (1, .iconst 1, 0, 0, 0, .int 1), (3, .goto 4, 21, 0, 0, .null)]
set_option maxRecDepth 20000 in
theorem oX14_finalizeManyx_5 : vm_okB 14 mX14_finalizeMany 5 bX14_finalizeManyx_5 = true := by decide +kernel
def bX14_finalizeManyx_20 : List vm_J := [(1, .iconst 0, 0, 0, 0, .int 0)]
set_option maxRecDepth 20000 in
theorem oX14_finalizeManyx_20 : vm_okB 14 mX14_finalizeMany 20 bX14_finalizeManyx_20 = true := by decide +kernel
def bX14_finalizeManyx_21 : List vm_J := [(2, .istore 4, 0, 0, 0, .null)]
set_option maxRecDepth 20000 in
theorem oX14_finalizeManyx_21 : vm_okB 14 mX14_finalizeMany 21 bX14_finalizeManyx_21 = true := by decide +kernel
def bX14_finalizeManyx_23 : List vm_J := [(1, .iconst 0, 0, 0, 0, .int 0), (2, .istore 5, 0, 0, 0, .null)]
set_option maxRecDepth 20000 in
theorem oX14_finalizeManyx_23 : vm_okB 14 mX14_finalizeMany 23 bX14_finalizeManyx_23 = true := by decide +kernel
def bX14_finalizeManyx_26 : List vm_J := [(2, .iload 4, 0, 0, 0, .null), (3, .ifCond .eq 43, 71, 0, 0, .null), (2, .iload 5, 0, 0, 0, .null), (1, .iload_n 2, 0, 0, 0, .null), (3, .if_icmp .ge 37, 71, 0, 0, .null), (1, .iload_n 1, 0, 0, 0, .null), (3, .ifCond .lt 24, 62, 0, 0, .null), (1, .iload_n 1, 0, 0, 0, .null), (2, .bipush 60, 0, 0, 0, .int 60), (3, .if_icmp .ge 18, 62, 0, 0, .null), (1, .aload_n 0, 0, 0, 0, .null), (1, .iload_n 1, 0, 0, 0, .null), (2, .iload 5, 0, 0, 0, .null), (1, .iadd, 0, 0, 0, .null), (3, .invokevirtual 636, 223, 1, 14, .null), (3, .ifCond .eq 7, 62, 0, 0, .null), (1, .iconst 1, 0, 0, 0, .int 1), (3, .goto 4, 63, 0, 0, .null)]
set_option maxRecDepth 20000 in
theorem oX14_finalizeManyx_26 : vm_okB 14 mX14_finalizeMany 26 bX14_finalizeManyx_26 = true := by decide +kernel
def bX14_finalizeManyx_62 : List vm_J := [(1, .iconst 0, 0, 0, 0, .int 0)]
set_option maxRecDepth 20000 in
theorem oX14_finalizeManyx_62 : vm_okB 14 mX14_finalizeMany 62 bX14_finalizeManyx_62 = true := by decide +kernel
def bX14_finalizeManyx_63 : List vm_J := [(2, .istore 4, 0, 0, 0, .null)]
set_option maxRecDepth 20000 in
theorem oX14_finalizeManyx_63 : vm_okB 14 mX14_finalizeMany 63 bX14_finalizeManyx_63 = true := by decide +kernel
def bX14_finalizeManyx_65 : List vm_J := [(3, .iinc 5 1, 0, 0, 0, .int 1), (3, .goto (-42), 26, 0, 0, .null)]
set_option maxRecDepth 20000 in
theorem oX14_finalizeManyx_65 : vm_okB 14 mX14_finalizeMany 65 bX14_finalizeManyx_65 = true := by decide +kernel
def bX14_finalizeManyx_71 : List vm_J := [(2, .iload 4, 0, 0, 0, .null), (3, .ifCond .ne 10, 83, 0, 0, .null), (1, .aload_n 0, 0, 0, 0, .null), (1, .iconst 1, 0, 0, 0, .int 1), (3, .putfield 1, 14, 0, 0, .null)]
set_option maxRecDepth 20000 in
theorem oX14_finalizeManyx_71 : vm_okB 14 mX14_finalizeMany 71 bX14_finalizeManyx_71 = true := by decide +kernel
def bX14_finalizeManyx_81 : List vm_J := [(1, .iconst 0, 0, 0, 0, .int 0), (1, .ireturn, 0, 0, 0, .null)]
set_option maxRecDepth 20000 in
theorem oX14_finalizeManyx_81 : vm_okB 14 mX14_finalizeMany 81 bX14_finalizeManyx_81 = true := by decide +kernel
def bX14_finalizeManyx_83 : List vm_J := [(1, .iconst 0, 0, 0, 0, .int 0), (2, .istore 5, 0, 0, 0, .null)]
set_option maxRecDepth 20000 in
theorem oX14_finalizeManyx_83 : vm_okB 14 mX14_finalizeMany 83 bX14_finalizeManyx_83 = true := by decide +kernel
def bX14_finalizeManyx_86 : List vm_J := [(2, .iload 5, 0, 0, 0, .null), (1, .iload_n 2, 0, 0, 0, .null), (3, .if_icmp .ge 30, 119, 0, 0, .null), (1, .aload_n 0, 0, 0, 0, .null), (3, .getfield 474, 14, 64, 0, .null), (1, .iload_n 1, 0, 0, 0, .null), (2, .iload 5, 0, 0, 0, .null), (1, .iadd, 0, 0, 0, .null), (1, .iaload, 0, 0, 0, .null), (1, .aload_n 0, 0, 0, 0, .null), (3, .getfield 474, 14, 64, 0, .null), (1, .iload_n 1, 0, 0, 0, .null), (1, .iaload, 0, 0, 0, .null), (3, .if_icmp .eq 6, 113, 0, 0, .null), (2, .bipush (-2), 0, 0, 0, .int (-2)), (1, .ireturn, 0, 0, 0, .null)]
set_option maxRecDepth 20000 in
theorem oX14_finalizeManyx_86 : vm_okB 14 mX14_finalizeMany 86 bX14_finalizeManyx_86 = true := by decide +kernel
def bX14_finalizeManyx_113 : List vm_J := [(3, .iinc 5 1, 0, 0, 0, .int 1), (3, .goto (-30), 86, 0, 0, .null)]
set_option maxRecDepth 20000 in
theorem oX14_finalizeManyx_113 : vm_okB 14 mX14_finalizeMany 113 bX14_finalizeManyx_113 = true := by decide +kernel
def bX14_finalizeManyx_119 : List vm_J := [(1, .aload_n 0, 0, 0, 0, .null), (3, .getfield 450, 14, 54, 0, .null), (1, .aload_n 0, 0, 0, 0, .null), (3, .getfield 474, 14, 64, 0, .null), (1, .iload_n 1, 0, 0, 0, .null), (1, .iaload, 0, 0, 0, .null), (1, .iaload, 0, 0, 0, .null), (1, .iconst 1, 0, 0, 0, .int 1), (3, .if_icmp .eq 6, 137, 0, 0, .null), (2, .bipush (-2), 0, 0, 0, .int (-2)), (1, .ireturn, 0, 0, 0, .null)]
set_option maxRecDepth 20000 in
theorem oX14_finalizeManyx_119 : vm_okB 14 mX14_finalizeMany 119 bX14_finalizeManyx_119 = true := by decide +kernel
def bX14_finalizeManyx_137 : List vm_J := [(1, .aload_n 0, 0, 0, 0, .null), (1, .iload_n 1, 0, 0, 0, .null), (1, .iload_n 2, 0, 0, 0, .null), (1, .iload_n 3, 0, 0, 0, .null), (3, .invokevirtual 639, 227, 3, 14, .null), (1, .ireturn, 0, 0, 0, .null)]
set_option maxRecDepth 20000 in
theorem oX14_finalizeManyx_137 : vm_okB 14 mX14_finalizeMany 137 bX14_finalizeManyx_137 = true := by decide +kernel
section
variable {l : Launch} {O : Nat → vm_Ob} {f9 : Value} {h h' : vm_H} {a kn an rd wr : Nat} {t : KT} {g g' : Nat → Int32} {m y w ou : List Nat} {kf : Nat → aK} {af : Nat → aA} {D : Nat → Nat} {dn : Bool} {wl : Int} {th : Int32}
set_option maxHeartbeats 4000000 in
theorem rp_ends {ask n i : Nat} (h9 : f9.category = 1) (k : SY h a t g [] m y) (G : RG9 g 0 kn an rd dn wl wr ([] : List Nat).length ou.length) (st : ST h a kn an kf af D [] ou) (tw : rl9 h 1208 (a + 153) w) (hw : w.length ≤ 1200) (hn1 : 1 ≤ n) (hn8 : n ≤ 8) (hask : ask + n ≤ an) (hi : i < kn) (hky : ∀ q, q < n → aky (af (ask + q)) = i) (ht : kty (kf i) = 1) (ki : KI (kf i)) (hAI : ∀ q, q < n → ∃ bl iv, AI t.2.2.1 t.2.2.2 (af (ask + q)) (kf i) bl iv) : vm_Met (vm_env l O f9) mX14_ends 0 0 [.ref a, .int (nI ask), .int (nI n), .int (nI w.length)] h (fun r h' => (r = some (.int (if w.length = 49 * n + 96 then fFp t.2.2.1 t.2.2.2 ask n w ou kf af else (-2, ou, af)).1) ∧ RM h' a t 0 [] (if w.length = 49 * n + 96 then fFp t.2.2.1 t.2.2.2 ask n w ou kf af else (-2, ou, af)).2.1 kn an rd kf (if w.length = 49 * n + 96 then fFp t.2.2.1 t.2.2.2 ask n w ou kf af else (-2, ou, af)).2.2 D dn wl wr ∧ fr h h' (RF a))) := by
  suffices H : ∀ Q : Option Value → vm_H → Prop, (∀ r h', (r = some (.int (if w.length = 49 * n + 96 then fFp t.2.2.1 t.2.2.2 ask n w ou kf af else (-2, ou, af)).1) ∧ RM h' a t 0 [] (if w.length = 49 * n + 96 then fFp t.2.2.1 t.2.2.2 ask n w ou kf af else (-2, ou, af)).2.1 kn an rd kf (if w.length = 49 * n + 96 then fFp t.2.2.1 t.2.2.2 ask n w ou kf af else (-2, ou, af)).2.2 D dn wl wr ∧ fr h h' (RF a)) → Q r h') → vm_Met (vm_env l O f9) mX14_ends 0 0 [.ref a, .int (nI ask), .int (nI n), .int (nI w.length)] h Q from H _ (fun _ _ z => z)
  intro Q hQ
  have ao := k.1.2.1
  obtain ⟨c, bc, ec⟩ := tw
  have hkn := st.2.2.2.2.2.2.2.1
  have han := st.2.2.2.2.2.2.2.2
  obtain ⟨⟨f1, ef1, v1⟩, _, ⟨ci, bi9, vi⟩, ⟨fb, efb, vfb⟩, _, k6⟩ := id st.2.1
  dsimp only at vfb
  refine vm_met rfl (Nat.le_of_ble_eq_true rfl) ?_
  refine vm_go rfl bX14_endsx_0 oX14_endsx_0 ⟨_, _, k.1.1, rfl, ⟨60, f1, ef1, ask, rfl, by omega, fun _ => ?_⟩⟩
  rw [v1 ask (by omega), show aky (af ask) = i from hky 0 (by omega)]
  refine vm_Th (lv' := [(0, .ref a), (1, .int (nI ask)), (2, .int (nI n)), (3, .int (nI w.length)), (4, .int (nI i))]) (h' := h) rfl rfl ?_
  have e96 : (49 : Int32) * nI n + 96 = nI (49 * n + 96) := by rw [show (49 : Int32) * nI n = nI (49 * n) from nI_mul 49 n]; exact nI_add _ 96
  by_cases hl : w.length = 49 * n + 96
  case neg =>
    rw [if_neg hl] at hQ
    refine vm_go rfl bX14_endsx_8 oX14_endsx_8 ⟨fun q => ?_, fun _ => hQ _ _ ⟨rfl, ⟨_, _, _, k, G, st⟩, fr_refl⟩⟩
    have q : nI w.length = 49 * nI n + 96 := q
    rw [e96, nI_ij (by omega) (by omega)] at q
    exact absurd q hl
  rw [if_pos hl] at hQ
  refine vm_go rfl bX14_endsx_8 oX14_endsx_8 ⟨fun _ => ?_, fun q => absurd (show nI w.length = 49 * nI n + 96 by rw [e96, hl]) q⟩
  obtain ⟨dw9, hdw⟩ : ∃ dw9 : Nat → List Nat, dw9 = (fun j => sl (gb w) (49 * j) 49) := ⟨_, rfl⟩
  have dwe : ∀ j, j < n → sl c (49 * j) 49 = dw9 j := fun j hj => by rw [hdw]; exact sl_w ec (by omega)
  have dwl : ∀ j, (dw9 j).length = 49 := fun j => by rw [hdw]; exact sl_len
  have dwo : ∀ j, j < n → ok8 (dw9 j) := fun j hj => by rw [← dwe j hj]; exact ok8_sl (fun q hq => bv_lt bc _ (by omega))
  obtain ⟨c9, hc9⟩ : ∃ c9, bn (gb w) (49 * n) 48 = c9 := ⟨_, rfl⟩
  obtain ⟨s9, hs9⟩ : ∃ s9, bn (gb w) (49 * n + 48) 48 = s9 := ⟨_, rfl⟩
  have ec9 : bn c (49 * n) 48 = c9 := by rw [← hc9]; exact bn_w ec (by omega)
  have es9 : bn c (49 * n + 48) 48 = s9 := by rw [← hs9]; exact bn_w ec (by omega)
  have bcc : c9 < 4294967296 ^ 12 := by rw [← ec9]; exact Nat.lt_of_lt_of_le (bn_lt 48 (fun j _ hj => (bv_lt bc j (by omega)))) (by decide +kernel)
  have bss : s9 < 4294967296 ^ 12 := by rw [← es9]; exact Nat.lt_of_lt_of_le (bn_lt 48 (fun j _ hj => (bv_lt bc j (by omega)))) (by decide +kernel)
  obtain ⟨wX, A, eA, oA, sA⟩ := (st.1.2.2.2.2.2.2.2.2.2.2 i hi).1 ht
  have oA : ecO (-3) (fz (cB : Int)) (some A) := by rw [oA]; exact ecO_M cK gP_o _
  obtain ⟨aw, haw⟩ : ∃ aw : Nat → List Nat, aw = (fun j => abA t.2.2.1 t.2.2.2 (af (ask + j))) := ⟨_, rfl⟩
  obtain ⟨OK9, hOK⟩ : ∃ OK9, OK9 = pvO t.2.2.1 t.2.2.2 (ksh (kf i)) aw dw9 n c9 s9 := ⟨_, rfl⟩
  have eF0 : fFp t.2.2.1 t.2.2.2 ask n w ou kf af = cif OK9 (nI (146 * n), tko t.2.2.1 t.2.2.2 af ask (fun j => elL (dw9 j)) n, clz af ask n) (-4, ou, af) := by
    unfold fFp
    rw [show aky (af ask) = i from hky 0 (by omega), hc9, hs9, hOK, haw, hdw]
  rw [eF0] at hQ
  have pvk : OK9 ↔ pvOK t.2.2.1 t.2.2.2 (ksh (kf i)) A aw dw9 n c9 s9 := by
    rw [hOK]
    unfold pvO
    rw [eA, elL_ptb oA]
    exact ⟨fun ⟨A', e, z⟩ => by cases e; exact z, fun z => ⟨A, rfl, z⟩⟩
  have bad : ∀ h1 m' y', SY h1 a t g [] m' y' → fr h h1 (fun q => scr a q) → ¬ OK9 → Q (some (.int (-4))) h1 := fun h1 m' y' k1 F1 n9 => by
    rw [cif_f n9] at hQ
    exact hQ _ _ ⟨rfl, ⟨_, _, _, k1, G, ST_fr st F1 (fun q z => z)⟩, fr_mono F1 (fun q z => by unfold scr at z; unfold RF; omega)⟩
  refine vm_go rfl bX14_endsx_22 oX14_endsx_22 (vm_Th (lv' := [(0, .ref a), (1, .int (nI ask)), (2, .int (nI n)), (3, .int (nI w.length)), (4, .int (nI i)), (5, .int (nI 0))]) (h' := h) rfl rfl ?_)
  refine vm_loop (fun j h' => SY h' a t g [] m y ∧ (∀ q, q < j → elL (dw9 q) ≠ none) ∧ (∀ q, q < j → SP h' (a + 171 + 6 * q) (elL (dw9 q))) ∧ fr h h' (fun q => scr a q)) n (fun j => [(0, .ref a), (1, .int (nI ask)), (2, .int (nI n)), (3, .int (nI w.length)), (4, .int (nI i)), (5, .int (nI j))]) 0 h (Nat.zero_le _) ⟨k, fun q hq => by omega, fun q hq => by omega, fr_refl⟩ ?_ ?_
  rotate_left
  · rintro j h7 _ hj ⟨k7, c7, d7, F7⟩ ih
    obtain ⟨fa, efa, vfa⟩ := k7.1.2.2.2.1.2.2.2.2.2.2.2
    have e49 : (49 : Int32) * nI j = nI (49 * j) := nI_mul 49 j
    have rmE := rm_element (l := l) (O := O) (f9 := f9) (s := 171 + 6 * j) (at9 := 49 * j) k7.1 (by unfold ZP; omega) (by omega) (bv_cg bc (F7.2 _ (by unfold scr; omega))) (by omega) (by decide) (fun q z => by unfold JV JW at z; omega)
    rw [← Nat.add_assoc, dwe j hj] at rmE
    refine vm_go rfl bX14_endsx_25 oX14_endsx_25 ⟨fun q => absurd q (nI_ge (b := n) hj (by omega)), fun _ => ⟨_, _, k7.1.1, rfl, ⟨_, _, k7.1.1, rfl, ⟨_, _, _, _, efa, by decide, rfl, j, rfl, by omega, va_e (vfa j (by omega)), ⟨_, k7.1.1, 0, 0, _, vm_metE (by rw [← e49]; rfl) rmE, Nat.zero_le _, Nat.zero_le _, ?_⟩⟩⟩⟩⟩
    rintro _ h8 ⟨⟨ok, rfl, hok, hsp⟩, r8, F8⟩
    have k8 : SY h8 a t g [] m y := SY_fr k7 r8 F8 (by unfold JV JW; omega)
    have F08 : fr h h8 (fun q => scr a q) := fr_trans F7 (fr_mono F8 (fun q z => by unfold JV JW at z; unfold scr; omega))
    cases ok with
    | false => exact ⟨fun q => absurd rfl q, fun _ => bad h8 _ _ k8 F08 (fun z => nomatch hok.mpr ((pvk.mp z).2.2.1 j hj))⟩
    | true =>
      refine ⟨fun _ => vm_go rfl bX14_endsx_57 oX14_endsx_57 (vm_Th (by rw [← nI_1 j]; rfl) rfl (ih h8 ⟨k8, fun q hq => ?_, fun q hq => ?_, F08⟩)), fun q => absurd q (by decide)⟩
      · by_cases e : q = j
        · rw [e]; exact hok.mp rfl
        · exact c7 q (by omega)
      · by_cases e : q = j
        · rw [e]; exact hsp rfl
        · exact SP_cg (d7 q (by omega)) (fun q' z1 z2 => F8.2 q' (by unfold JV JW; omega))
  rintro h1 ⟨k1, dn9, d1, F1⟩
  refine vm_go rfl bX14_endsx_25 oX14_endsx_25 ⟨fun _ => ?_, fun q => absurd (nI_le (a := n) (b := n) (Nat.le_refl _) (by omega)) q⟩
  obtain ⟨Dp, hDp⟩ : ∃ Dp : Nat → fq × fq, Dp = fun q => (elL (dw9 q)).getD (0, 0) := ⟨_, rfl⟩
  have eD : ∀ q, q < n → elL (dw9 q) = some (Dp q) := fun q hq => by
    obtain ⟨p, ep⟩ := Option.ne_none_iff_exists'.mp (dn9 q hq)
    rw [hDp]; show _ = some ((elL (dw9 q)).getD (0, 0)); rw [ep]; rfl
  have oD : ∀ q, q < n → ecO (-3) (fz (cB : Int)) (some (Dp q)) := fun q hq => elL_o (eD q hq)
  have bc1 : bv h1 1208 (a + 153) c := bv_cg bc (F1.2 _ (by unfold scr; omega))
  have e49 : (49 : Int32) * nI n = nI (49 * n) := nI_mul 49 n
  have e97 : (49 : Int32) * nI n + 48 = nI (49 * n + 48) := by rw [e49]; exact nI_add _ 48
  obtain ⟨fn, en⟩ : iw h1 12 (a + 70) := k1.1.2.2.2.2.1 70 (by unfold ZI; omega)
  refine vm_go rfl bX14_endsx_63 oX14_endsx_63 ⟨_, _, k1.1.1, rfl, ⟨_, _, k1.1.1, rfl, ⟨0, 0, _, vm_metE (by rw [← e49]; rfl) (rm_load (at9 := 49 * n) (size := 48) (n := 12) bc1 (by omega) (by decide) en (by omega) (by decide) (by decide) (by decide)), Nat.zero_le _, Nat.zero_le _, ?_⟩⟩⟩
  rintro _ h2 ⟨rfl, w2, F2⟩
  rw [ec9] at w2
  have k2 : SY h2 a t g [] m y := SY_fr k1 (RK_of k1.1 F2 ((F2.2 a (by omega)).trans k1.1.1) (fun q z => .inr (z ▸ GD_i (i := 70) (by unfold ZI; omega) (wv_iw w2)))) F2 (by omega)
  obtain ⟨fn2, en2⟩ : iw h2 12 (a + 71) := k2.1.2.2.2.2.1 71 (by unfold ZI; omega)
  refine ⟨_, _, k2.1.1, rfl, ⟨_, _, k2.1.1, rfl, ⟨0, 0, _, vm_metE (by rw [← e97]; rfl) (rm_load (at9 := 49 * n + 48) (size := 48) (n := 12) (bv_cg bc1 (F2.2 _ (by omega))) (by omega) (by decide) en2 (by omega) (by decide) (by decide) (by decide)), Nat.zero_le _, Nat.zero_le _, ?_⟩⟩⟩
  rintro _ h3 ⟨rfl, w3, F3⟩
  rw [es9] at w3
  have k3 : SY h3 a t g [] m y := SY_fr k2 (RK_of k2.1 F3 ((F3.2 a (by omega)).trans k2.1.1) (fun q z => .inr (z ▸ GD_i (i := 71) (by unfold ZI; omega) (wv_iw w3)))) F3 (by omega)
  have w23 : wv h3 12 (a + 70) 12 c9 := wv_cg w2 (F3.2 _ (by omega))
  have F03 : fr h h3 (fun q => scr a q) := fr_trans F1 (fr_trans (fr_mono F2 (fun q z => by unfold scr; omega)) (fr_mono F3 (fun q z => by unfold scr; omega)))
  have d3 : ∀ q, q < n → SP h3 (a + 171 + 6 * q) (some (Dp q)) := fun q hq => by
    rw [← eD q hq]
    exact SP_cg (d1 q hq) (fun q' z1 z2 => (F3.2 q' (by omega)).trans (F2.2 q' (by omega)))
  have bQ : cQ < 4294967296 ^ 12 := by decide +kernel
  have rv3 := k3.1.2.2.1.1
  refine ⟨_, _, k3.1.1, rfl, ⟨_, rfl, ⟨0, 0, _, rm_cmp w23 rv3.2.2 (by decide) (by decide) (by decide) bcc bQ, Nat.zero_le _, Nat.zero_le _, ?_⟩⟩⟩
  rintro _ h4 ⟨hc, e4⟩
  rw [e4]; clear e4 h4
  have b134 : ¬ OK9 → vm_T (vm_env l O f9) mX14_ends 0 0 134 [(0, .ref a), (1, .int (nI ask)), (2, .int (nI n)), (3, .int (nI w.length)), (4, .int (nI i)), (5, .int (nI n))] [] h3 Q := fun n9 => vm_go rfl bX14_endsx_134 oX14_endsx_134 (bad h3 _ _ k3 F03 n9)
  rcases hc with ⟨hc, rfl⟩ | ⟨hc, rfl⟩ | ⟨hc, rfl⟩
  rotate_left
  · exact ⟨fun _ => b134 (fun z => by have := (pvk.mp z).1.1; omega), fun q => absurd (by decide) q⟩
  · exact ⟨fun _ => b134 (fun z => by have := (pvk.mp z).1.1; omega), fun q => absurd (by decide) q⟩
  refine ⟨fun q => absurd q (by decide), fun _ => ⟨_, _, k3.1.1, rfl, ⟨_, rfl, ⟨0, 0, _, rm_cmp w3 rv3.2.2 (by decide) (by decide) (by decide) bss bQ, Nat.zero_le _, Nat.zero_le _, ?_⟩⟩⟩⟩
  rintro _ h4 ⟨hcs, e4⟩
  rw [e4]; clear e4 h4
  rcases hcs with ⟨hcs, rfl⟩ | ⟨hcs, rfl⟩ | ⟨hcs, rfl⟩
  rotate_left
  · exact ⟨fun q => absurd q (by decide), fun _ => b134 (fun z => by have := (pvk.mp z).1.2; omega)⟩
  · exact ⟨fun q => absurd q (by decide), fun _ => b134 (fun z => by have := (pvk.mp z).1.2; omega)⟩
  refine ⟨fun _ => ?_, fun q => absurd (by decide) q⟩
  -- what was asked
  have AIq : ∀ q, q < n → (0 < abl (af (ask + q)) ∧ abl (af (ask + q)) < cQ) ∧ ecM (-3) fiv (abl (af (ask + q))) (htg t.2.2.1 t.2.2.2 (ain (af (ask + q)))) ≠ none := fun q hq => by
    obtain ⟨bl, iv, o1, l1, z | z⟩ := hAI q hq
    · exact ⟨z.2.1, z.2.2.1⟩
    · have := z.1; omega
  obtain ⟨C, hC⟩ : ∃ C : Nat → fq × fq, C = fun q => (ecM (-3) fiv (abl (af (ask + q))) (htg t.2.2.1 t.2.2.2 (ain (af (ask + q))))).getD (0, 0) := ⟨_, rfl⟩
  have eC : ∀ q, q < n → ecM (-3) fiv (abl (af (ask + q))) (htg t.2.2.1 t.2.2.2 (ain (af (ask + q)))) = some (C q) := fun q hq => by
    obtain ⟨p, ep⟩ := Option.ne_none_iff_exists'.mp (AIq q hq).2
    rw [hC]; show _ = some ((ecM (-3) fiv (abl (af (ask + q))) (htg t.2.2.1 t.2.2.2 (ain (af (ask + q))))).getD (0, 0)); rw [ep]; rfl
  have oC : ∀ q, q < n → ecO (-3) (fz (cB : Int)) (some (C q)) := fun q hq => by rw [← eC q hq]; exact ecO_M cK htg_o _
  have eaw : ∀ q, q < n → aw q = ptb (C q) := fun q hq => by
    rw [haw]
    show abA t.2.2.1 t.2.2.2 (af (ask + q)) = _
    unfold abA
    rw [eC q hq]; rfl
  have wbq : ∀ q, q < n → wv h 64 (a + 92 + (ask + q)) 12 (abl (af (ask + q))) := fun q hq => by
    have := (k6 (ask + q) (by omega)).2
    unfold nlm at this
    rw [hky q hq, if_pos ht] at this
    exact this
  refine vm_go rfl bX14_endsx_137 oX14_endsx_137 (vm_Th (lv' := [(0, .ref a), (1, .int (nI ask)), (2, .int (nI n)), (3, .int (nI w.length)), (4, .int (nI i)), (5, .int (nI 0))]) (h' := h3) rfl rfl ?_)
  refine vm_loop (fun j h' => (∃ m' y', SY h' a t g [] m' y') ∧ (∀ q, q < n → SP h' (a + 171 + 6 * q) (some (Dp q))) ∧ (∀ q, q < j → SP h' (a + 168 + 6 * q) (some (C q))) ∧ (wv h' 12 (a + 70) 12 c9 ∧ wv h' 12 (a + 71) 12 s9) ∧ fr h h' (fun q => scr a q)) n (fun j => [(0, .ref a), (1, .int (nI ask)), (2, .int (nI n)), (3, .int (nI w.length)), (4, .int (nI i)), (5, .int (nI j))]) 0 h3 (Nat.zero_le _) ⟨⟨_, _, k3⟩, d3, fun q hq => by omega, ⟨w23, w3⟩, F03⟩ ?_ ?_
  rotate_left
  · rintro j h7 _ hj ⟨⟨m7, y7, k7⟩, d7, c7, ⟨wc7, ws7⟩, F7⟩ ih
    have ea : nI ask + nI j = nI (ask + j) := nI_add _ _
    have e98 : (98 : Int32) * (nI ask + nI j) = nI (98 * (ask + j)) := by rw [ea]; exact nI_mul 98 _
    have bi7 : bv h7 5880 (a + 90) ci := bv_cg bi9 (F7.2 _ (by unfold scr; omega))
    refine vm_go rfl bX14_endsx_140 oX14_endsx_140 ⟨fun q => absurd q (nI_ge (b := n) hj (by omega)), fun _ => ⟨_, _, k7.1.1, rfl, ⟨_, _, k7.1.1, rfl, ⟨_, k7.1.1, 0, 0, _, vm_metE (by rw [← e98]; rfl) (rm_toPoint (at9 := 98 * (ask + j)) (n := 98) h9 k7 bi7 (by omega) (by omega) (by decide) (by decide)), Nat.zero_le _, Nat.zero_le _, ?_⟩⟩⟩⟩
    rintro _ h8 ⟨rfl, k8, s8, F8⟩
    have ei : sl ci (98 * (ask + j)) 98 = ain (af (ask + j)) := vi (ask + j) (by omega)
    rw [ei] at k8 s8
    obtain ⟨fa, efa, vfa⟩ := k8.1.2.2.2.1.2.2.2.2.2.2.1
    have F08 : fr h h8 (fun q => scr a q) := fr_trans F7 (fr_mono F8 (fun q z => by unfold JV JW at z; unfold scr; omega))
    have wb8 : wv h8 64 (a + 92 + (ask + j)) 12 (abl (af (ask + j))) := wv_cg (wbq j hj) (F08.2 _ (by unfold scr; omega))
    have mc : vm_Met (vm_env l O f9) mX14_multiply 0 0 [.ref a, .ref (a + 92 + (ask + j)), .ref (a + 163), .ref (a + 168 + 6 * j)] h8 (fun r h' => r = none ∧ RK h' a t (u3 g (nI ([] : List Nat).length) (nI (ain (af (ask + j))).length) (nI tgG.length)) ∧ SP h' (a + 168 + 6 * j) (some (C j)) ∧ fr h8 h' (fun q => JM a q ∨ (a + 168 + 6 * j ≤ q ∧ q ≤ a + 168 + 6 * j + 2))) := by
      have := rq_mult (l := l) (O := O) (f9 := f9) (s := 168 + 6 * j) k8.1 wb8 (by decide) (Nat.lt_trans (AIq j hj).1.2 bQ) s8 htg_o (by unfold ZP; omega) (by omega) (by omega) (by omega) (by omega)
      rw [← Nat.add_assoc a 168 (6 * j), eC j hj] at this
      exact this
    refine ⟨_, _, k8.1.1, rfl, ⟨_, _, _, _, (F08.2 _ (by unfold scr; omega)).trans efb, by decide, rfl, ask + j, ea, by omega, va_e (vfb (ask + j) (by omega)), ⟨_, _, k8.1.1, rfl, ⟨_, _, k8.1.1, rfl, ⟨_, _, _, _, efa, by decide, rfl, j, rfl, by omega, va_e (vfa j (by omega)), ⟨_, k8.1.1, 0, 0, _, mc, Nat.zero_le _, Nat.zero_le _, ?_⟩⟩⟩⟩⟩⟩
    rintro _ h9' ⟨rfl, r9, s9', F9⟩
    have JMo : ∀ q, JM a q → q < a + 28 ∧ a < q := fun q z => by unfold JM JW at z; omega
    have k9 : SY h9' a t g [] _ _ := SY_fr k8 r9 F9 ⟨fun z => by rcases z with z | z; exact absurd (JMo _ z) (by omega); omega, fun z => by rcases z with z | z; exact absurd (JMo _ z) (by omega); omega, fun z => by rcases z with z | z; exact absurd (JMo _ z) (by omega); omega⟩
    have o9 : ∀ q, a + 50 ≤ q → ¬ (a + 163 ≤ q ∧ q ≤ a + 165) → ¬ (a + 168 + 6 * j ≤ q ∧ q ≤ a + 168 + 6 * j + 2) → h9'.2 q = h7.2 q := fun q z1 z2 z3 => (F9.2 q (fun z => z.elim (fun z => by have := JMo q z; omega) z3)).trans (F8.2 q (by unfold JV JW; omega))
    refine vm_Th (by rw [← nI_1 j]; rfl) rfl (ih h9' ⟨⟨_, _, k9⟩, fun q hq => SP_cg (d7 q hq) (fun q' z1 z2 => o9 q' (by omega) (by omega) (by omega)), fun q hq => ?_, ⟨wv_cg wc7 (o9 _ (by omega) (by omega) (by omega)), wv_cg ws7 (o9 _ (by omega) (by omega) (by omega))⟩, fr_trans F08 (fr_mono F9 (fun q z => ?_))⟩)
    · by_cases e : q = j
      · rw [e]; exact s9'
      · exact SP_cg (c7 q (by omega)) (fun q' z1 z2 => o9 q' (by omega) (by omega) (by omega))
    · rcases z with z | z
      · have := JMo q z; unfold scr; omega
      · unfold scr; omega
  rintro h4 ⟨⟨m4, y4, k4⟩, d4, c4, ⟨wc4, ws4⟩, F04⟩
  refine vm_go rfl bX14_endsx_140 oX14_endsx_140 ⟨fun _ => ?_, fun q => absurd (nI_le (a := n) (b := n) (Nat.le_refl _) (by omega)) q⟩
  have sk4 : SK h4 a kn kf := SK_fr st.1 hkn F04 (fun q z => z)
  have sA4 : SP h4 (a + 216 + 6 * i) (some A) := SP_cg sA (fun q z1 z2 => F04.2 q (by unfold scr; omega))
  refine vm_go rfl bX14_endsx_197 oX14_endsx_197 ⟨_, k4.1.1, 0, 0, _, rm_isProved (n := n) (i := i) (C := C) (D := Dp) h9 k4 sk4 hkn hi sA4 oA hn8 c4 d4 oC oD wc4 hc ws4 hcs, Nat.zero_le _, Nat.zero_le _, ?_⟩
  rintro _ h5 ⟨⟨M, Z, eM, eZ, ok, rfl, hok5⟩, ⟨m5, y5, k5⟩, F5⟩
  have F05 : fr h h5 (fun q => scr a q) := fr_trans F04 (fr_mono F5 (fun q z => PV_scr z))
  have wge : ∀ q, q < n → wgt t.2.2.1 t.2.2.2 (sdl t.2.2.1 t.2.2.2 (ptb A)) (ptb (C q)) (ptb (Dp q)) q = wgt t.2.2.1 t.2.2.2 (sdl t.2.2.1 t.2.2.2 (ksh (kf i))) (aw q) (dw9 q) q := fun q hq => by
    rw [← eA, eaw q hq, elL_inv (dwl q) (dwo q hq) (eD q hq)]
  have eM9 : M = pvS t.2.2.1 t.2.2.2 (ksh (kf i)) aw dw9 aw n := by
    rw [eM]
    refine cs_c9 n (fun q hq => ⟨?_, wge q hq⟩)
    rw [eaw q hq, elL_ptb (oC q hq)]
  have eZ9 : Z = pvS t.2.2.1 t.2.2.2 (ksh (kf i)) aw dw9 dw9 n := by
    rw [eZ]
    refine cs_c9 n (fun q hq => ⟨(eD q hq).symm, wge q hq⟩)
  have hOK5 : OK9 ↔ ok = true := by
    rw [pvk, hok5, eM9, eZ9, ← eA]
    unfold pvOK
    exact ⟨fun z => ⟨⟨z.2.2.2.1, z.2.2.2.2.1, z.2.2.2.2.2.2.1, z.2.2.2.2.2.1⟩, z.2.2.2.2.2.2.2⟩, fun z => ⟨⟨hc, hcs⟩, fun q hq => by rw [eaw q hq, elL_ptb (oC q hq)]; exact fun z => (nomatch z), dn9, z.1.1, z.1.2.1, z.1.2.2.2, z.1.2.2.1, z.2⟩⟩
  cases ok with
  | false => exact ⟨fun q => absurd rfl q, fun _ => bad h5 _ _ k5 F05 (fun z => nomatch hOK5.mp z)⟩
  | true =>
  rw [cif_t (hOK5.mpr rfl)] at hQ
  refine ⟨fun _ => ?_, fun q => absurd q (by decide)⟩
  have d5 : ∀ q, q < n → SP h5 (a + 171 + 6 * q) (some (Dp q)) := fun q hq => SP_cg (d4 q hq) (fun q' z1 z2 => F5.2 q' (fun z => by unfold PV CP JM JW at z; omega))
  refine ends_tok (Dp := Dp) h9 k5 G (ST_fr st F05 (fun q z => z)) hn8 hask hky ht hAI d5 oD (fun h' r' F' => hQ _ _ ⟨rfl, ?_, fr_trans (fr_mono F05 (fun q z => by unfold scr at z; unfold RF; omega)) F'⟩)
  have et : ∀ q, q ≤ n → tko t.2.2.1 t.2.2.2 af ask (fun j => elL (dw9 j)) q = tko t.2.2.1 t.2.2.2 af ask (fun q => some (Dp q)) q := by
    intro q
    induction q with
    | zero => intro _; rfl
    | succ q ih =>
      intro hq
      show tko t.2.2.1 t.2.2.2 af ask (fun j => elL (dw9 j)) q ++ tkP t.2.2.1 t.2.2.2 (af (ask + q)) (elL (dw9 q)) = tko t.2.2.1 t.2.2.2 af ask (fun q => some (Dp q)) q ++ tkP t.2.2.1 t.2.2.2 (af (ask + q)) (some (Dp q))
      rw [ih (by omega), eD q (by omega)]
  show RM h' a t 0 [] (tko t.2.2.1 t.2.2.2 af ask (fun j => elL (dw9 j)) n) kn an rd kf (clz af ask n) D dn wl wr
  rw [et n (Nat.le_refl _)]
  exact r'
theorem rp_finalize {z : Int} (hz : i32 z) (h9 : f9.category = 1) (hKI : ∀ i, i < kn → KI (kf i)) (hAI : ∀ i, i < an → ∃ bl iv, AI t.2.2.1 t.2.2.2 (af i) (kf (aky (af i))) bl iv) (K : RM h a t th w ou kn an rd kf af D dn wl wr) : vm_Met (vm_env l O f9) mX14_finalize 0 0 [.ref a, .int (iZ z)] h (fun r h' => ((∀ v ou' af', fFz t.2.2.1 t.2.2.2 z w ou an kf af = some (v, ou', af') → r = some (.int v) ∧ RM h' a t 0 [] ou' kn an rd kf af' D dn wl wr) ∧ (fFz t.2.2.1 t.2.2.2 z w ou an kf af = none → (∃ v, r = some (.int v)) ∧ RM h' a t 1 [] ou kn an rd kf af D dn wl wr) ∧ fr h h' (RF a))) := by
  suffices H : ∀ Q : Option Value → vm_H → Prop, (∀ r h', ((∀ v ou' af', fFz t.2.2.1 t.2.2.2 z w ou an kf af = some (v, ou', af') → r = some (.int v) ∧ RM h' a t 0 [] ou' kn an rd kf af' D dn wl wr) ∧ (fFz t.2.2.1 t.2.2.2 z w ou an kf af = none → (∃ v, r = some (.int v)) ∧ RM h' a t 1 [] ou kn an rd kf af D dn wl wr) ∧ fr h h' (RF a)) → Q r h') → vm_Met (vm_env l O f9) mX14_finalize 0 0 [.ref a, .int (iZ z)] h Q from H _ (fun _ _ z => z)
  intro Q hQ
  have K0 := K
  obtain ⟨g0, m0, y0, k0, G0, st0⟩ := K
  have wl9 := st0.2.2.2.2.2.1
  have ao := k0.1.2.1
  have la : a < 1099511627776 := by omega
  refine vm_met rfl (Nat.le_of_ble_eq_true rfl) ?_
  refine vm_go rfl bX14_finalizex_0 oX14_finalizex_0 ⟨_, k0.1.1, 0, 0, _, rp_used K0, Nat.zero_le _, Nat.zero_le _, ?_⟩
  rintro _ h1 ⟨rfl, K1, tw, F1⟩
  have F1' : fr h h1 (RF a) := fr_mono F1 (fun q z => by unfold RF; omega)
  have K1' := K1
  obtain ⟨g, m, y, k, G, st⟩ := K1
  have hkn := st.2.2.2.2.2.2.2.1
  have han := st.2.2.2.2.2.2.2.2
  have yes : ∀ (x : Int32 × List Nat × (Nat → aA)) (h' : vm_H), fFz t.2.2.1 t.2.2.2 z w ou an kf af = some x → RM h' a t 0 [] x.2.1 kn an rd kf x.2.2 D dn wl wr → fr h h' (RF a) → Q (some (.int x.1)) h' := fun x h' e r' F' => hQ _ _ ⟨fun v ou' af' e' => by
    rw [e] at e'
    cases e'
    exact ⟨rfl, r'⟩, fun e' => (by rw [e] at e'; cases e'), F'⟩
  have thr : fFz t.2.2.1 t.2.2.2 z w ou an kf af = none → ∀ lv h2, h2 = vm_up h1 a (RO a (u3 (ug g 0 1) (nI ([] : List Nat).length) (nI m.length) (nI y.length))) → RM h2 a t 1 [] ou kn an rd kf af D dn wl wr ∧ fr h h2 (RF a) ∧ (lv = Value.int 0 → Q (some lv) h2) := fun e lv h2 eh2 => by
    obtain ⟨k2, F2⟩ := SY_g k eh2
    have r2 : RM h2 a t 1 [] ou kn an rd kf af D dn wl wr := ⟨_, _, _, k2, RG_t1 (w := []) G, ST_fr st F2 (fun q z => by unfold scr; omega)⟩
    have FF : fr h h2 (RF a) := fr_trans F1' (fr_mono F2 (fun q z => by unfold RF; omega))
    exact ⟨r2, FF, fun el => hQ _ _ ⟨fun v ou' af' e' => (by rw [e] at e'; cases e'), fun _ => ⟨⟨0, by rw [el]⟩, r2⟩, FF⟩⟩
  obtain ⟨⟨f1, ef1, v1⟩, _⟩ := id st.2.1
  obtain ⟨⟨f2, ef2, v2⟩, _, _, _, _, _, _, ⟨fl, efl, vl⟩, _⟩ := id st.1
  refine vm_Th (lv' := [(0, .ref a), (1, .int (iZ z)), (2, .int (nI w.length))]) (h' := h1) rfl rfl ?_
  refine vm_go rfl bX14_finalizex_5 oX14_finalizex_5 ⟨_, k.1.1, 0, 0, _, rm_isAsking hz k G.2.2.1 st.2.1 han, Nat.zero_le _, Nat.zero_le _, ?_⟩
  rintro _ h2 ⟨⟨ok, rfl, hok⟩, e2⟩
  rw [e2]; clear e2 h2
  have hop : opn an af z 1 ↔ (0 ≤ z ∧ z < (an : Int)) ∧ aop (af z.toNat) = true := by
    unfold opn
    exact ⟨fun c => ⟨⟨c.1, by omega⟩, c.2.2 0 (by decide)⟩, fun c => ⟨c.1.1, by omega, fun i hi => by
      have : i = 0 := by omega
      subst this
      exact c.2⟩⟩
  cases ok with
  | false =>
    have en : fFz t.2.2.1 t.2.2.2 z w ou an kf af = none := by unfold fFz; exact cif_f (fun c => nomatch hok.mpr (hop.mp c))
    refine ⟨fun q => absurd rfl q, fun _ => ⟨_, k.1.1, la, show 0 < 89 by decide, trivial, ?_⟩⟩
    obtain ⟨h2, eh2⟩ : ∃ h2, h2 = vm_up h1 a (RO a (u3 (ug g 0 1) (nI ([] : List Nat).length) (nI m.length) (nI y.length))) := ⟨_, rfl⟩
    refine vm_Th (lv' := [(0, .ref a), (1, .int (iZ z)), (2, .int (nI w.length))]) (h' := h2) rfl eh2 ?_
    exact vm_go rfl bX14_finalizex_18 oX14_finalizex_18 ((thr en (.int 0) h2 eh2).2.2 rfl)
  | true =>
  have c := hok.mp rfl
  refine ⟨fun _ => ?_, fun q => absurd q (by decide)⟩
  obtain ⟨j, ej⟩ : ∃ j, z.toNat = j := ⟨_, rfl⟩
  have ez : iZ z = nI j := by rw [iZ_tn c.1.1, ej]
  have hj : j < an := by omega
  rw [ez]
  obtain ⟨i, ei⟩ : ∃ i, aky (af j) = i := ⟨_, rfl⟩
  have hi : i < kn := by rw [← ei]; exact (st.2.1.2.2.2.2.2 j hj).1
  have es : fFz t.2.2.1 t.2.2.2 z w ou an kf af = some (if kty (kf i) = 1 then (if w.length = 145 then fFp t.2.2.1 t.2.2.2 j 1 w ou kf af else (-2, ou, af)) else (if w.length = ksz (kf i) then fFs t.2.2.1 t.2.2.2 j w ou (kf i) af else (-2, ou, af))) := by
    unfold fFz
    rw [cif_t (hop.mpr c), ej, ei]
  refine vm_go rfl bX14_finalizex_20 oX14_finalizex_20 ⟨_, _, k.1.1, rfl, ⟨60, f1, ef1, j, rfl, by omega, fun _ => ?_⟩⟩
  rw [v1 j hj, ei]
  refine vm_Th (lv' := [(0, .ref a), (1, .int (nI j)), (2, .int (nI w.length)), (3, .int (nI i))]) (h' := h1) rfl rfl ?_
  have ki := hKI i hi
  obtain ⟨osh, lid, hty, hsz⟩ := KI_sh ki
  have hai := hAI j hj
  rw [ei] at hai
  rcases hty with ht | ht
  · rw [if_pos ht] at es
    refine vm_go rfl bX14_finalizex_27 oX14_finalizex_27 ⟨_, _, k.1.1, rfl, ⟨6, f2, ef2, i, rfl, by omega, fun _ => ?_⟩⟩
    rw [v2 i hi, ht]
    refine ⟨fun q => absurd rfl q, fun _ => ⟨_, k.1.1, 0, 0, _, rp_ends (ask := j) (n := 1) (i := i) h9 k G st tw wl9 (by decide) (by decide) (by omega) hi (fun q hq => by rw [show q = 0 by omega]; exact ei) ht ki (fun q hq => by rw [show q = 0 by omega]; exact hai), Nat.zero_le _, Nat.zero_le _, ?_⟩⟩
    rintro _ h5 ⟨rfl, k5, F5⟩
    exact yes _ h5 es k5 (fr_trans F1' F5)
  · rw [if_neg (by omega)] at es
    refine vm_go rfl bX14_finalizex_27 oX14_finalizex_27 ⟨_, _, k.1.1, rfl, ⟨6, f2, ef2, i, rfl, by omega, fun _ => ?_⟩⟩
    rw [v2 i hi, ht]
    refine ⟨fun _ => ?_, fun q => absurd q (by decide)⟩
    refine vm_go rfl bX14_finalizex_45 oX14_finalizex_45 ⟨_, _, k.1.1, rfl, ⟨6, fl, efl, i, rfl, by omega, fun _ => ?_⟩⟩
    rw [vl i hi]
    by_cases hl : w.length = ksz (kf i)
    case neg =>
      rw [if_neg hl] at es
      exact ⟨fun q => absurd ((nI_ij (by omega) (by omega)).mp q) hl, fun _ => yes _ h1 es K1' F1'⟩
    rw [if_pos hl] at es
    refine ⟨fun _ => ?_, fun q => absurd (by rw [hl]) q⟩
    refine vm_go rfl bX14_finalizex_58 oX14_finalizex_58 ⟨_, k.1.1, 0, 0, _, rp_endsTwo (ask := j) (i := i) k G st tw wl9 hi ht ki hl hj ei hai, Nat.zero_le _, Nat.zero_le _, ?_⟩
    rintro _ h5 ⟨rfl, k5, F5⟩
    exact yes _ h5 es k5 (fr_trans F1' F5)
theorem rp_finalizeMany {z z2 : Int} (hz : i32 z) (hz2 : i32 z2) (h9 : f9.category = 1) (hKI : ∀ i, i < kn → KI (kf i)) (hAI : ∀ i, i < an → ∃ bl iv, AI t.2.2.1 t.2.2.2 (af i) (kf (aky (af i))) bl iv) (K : RM h a t th w ou kn an rd kf af D dn wl wr) : vm_Met (vm_env l O f9) mX14_finalizeMany 0 0 [.ref a, .int (iZ z), .int (iZ z2)] h (fun r h' => ((∀ v ou' af', fFm t.2.2.1 t.2.2.2 z z2 w ou an kf af = some (v, ou', af') → r = some (.int v) ∧ RM h' a t 0 [] ou' kn an rd kf af' D dn wl wr) ∧ (fFm t.2.2.1 t.2.2.2 z z2 w ou an kf af = none → (∃ v, r = some (.int v)) ∧ RM h' a t 1 [] ou kn an rd kf af D dn wl wr) ∧ fr h h' (RF a))) := by
  suffices H : ∀ Q : Option Value → vm_H → Prop, (∀ r h', ((∀ v ou' af', fFm t.2.2.1 t.2.2.2 z z2 w ou an kf af = some (v, ou', af') → r = some (.int v) ∧ RM h' a t 0 [] ou' kn an rd kf af' D dn wl wr) ∧ (fFm t.2.2.1 t.2.2.2 z z2 w ou an kf af = none → (∃ v, r = some (.int v)) ∧ RM h' a t 1 [] ou kn an rd kf af D dn wl wr) ∧ fr h h' (RF a)) → Q r h') → vm_Met (vm_env l O f9) mX14_finalizeMany 0 0 [.ref a, .int (iZ z), .int (iZ z2)] h Q from H _ (fun _ _ z => z)
  intro Q hQ
  have K0 := K
  obtain ⟨g0, m0, y0, k0, G0, st0⟩ := K
  have wl9 := st0.2.2.2.2.2.1
  have ao := k0.1.2.1
  have la : a < 1099511627776 := by omega
  refine vm_met rfl (Nat.le_of_ble_eq_true rfl) ?_
  refine vm_go rfl bX14_finalizeManyx_0 oX14_finalizeManyx_0 ⟨_, k0.1.1, 0, 0, _, rp_used K0, Nat.zero_le _, Nat.zero_le _, ?_⟩
  rintro _ h1 ⟨rfl, K1, tw, F1⟩
  have F1' : fr h h1 (RF a) := fr_mono F1 (fun q z => by unfold RF; omega)
  have K1' := K1
  obtain ⟨g, m, y, k, G, st⟩ := K1
  have hkn := st.2.2.2.2.2.2.2.1
  have han := st.2.2.2.2.2.2.2.2
  have yes : ∀ (x : Int32 × List Nat × (Nat → aA)) (h' : vm_H), fFm t.2.2.1 t.2.2.2 z z2 w ou an kf af = some x → RM h' a t 0 [] x.2.1 kn an rd kf x.2.2 D dn wl wr → fr h h' (RF a) → Q (some (.int x.1)) h' := fun x h' e r' F' => hQ _ _ ⟨fun v ou' af' e' => by
    rw [e] at e'
    cases e'
    exact ⟨rfl, r'⟩, fun e' => (by rw [e] at e'; cases e'), F'⟩
  have thr : fFm t.2.2.1 t.2.2.2 z z2 w ou an kf af = none → ∀ lv h2, h2 = vm_up h1 a (RO a (u3 (ug g 0 1) (nI ([] : List Nat).length) (nI m.length) (nI y.length))) → RM h2 a t 1 [] ou kn an rd kf af D dn wl wr ∧ fr h h2 (RF a) ∧ (lv = Value.int 0 → Q (some lv) h2) := fun e lv h2 eh2 => by
    obtain ⟨k2, F2⟩ := SY_g k eh2
    have r2 : RM h2 a t 1 [] ou kn an rd kf af D dn wl wr := ⟨_, _, _, k2, RG_t1 (w := []) G, ST_fr st F2 (fun q z => by unfold scr; omega)⟩
    have FF : fr h h2 (RF a) := fr_trans F1' (fr_mono F2 (fun q z => by unfold RF; omega))
    exact ⟨r2, FF, fun el => hQ _ _ ⟨fun v ou' af' e' => (by rw [e] at e'; cases e'), fun _ => ⟨⟨0, by rw [el]⟩, r2⟩, FF⟩⟩
  obtain ⟨⟨f1, ef1, v1⟩, _⟩ := id st.2.1
  obtain ⟨⟨f2, ef2, v2⟩, _, _, _, _, _, _, ⟨fl, efl, vl⟩, _⟩ := id st.1
  refine vm_Th (lv' := [(0, .ref a), (1, .int (iZ z)), (2, .int (iZ z2)), (3, .int (nI w.length))]) (h' := h1) rfl rfl ?_
  -- it throws
  have t71 : fFm t.2.2.1 t.2.2.2 z z2 w ou an kf af = none → ∀ j, vm_T (vm_env l O f9) mX14_finalizeMany 0 0 71 [(0, .ref a), (1, .int (iZ z)), (2, .int (iZ z2)), (3, .int (nI w.length)), (4, .int (bi false)), (5, .int (nI j))] [] h1 Q := fun en j => by
    refine vm_go rfl bX14_finalizeManyx_71 oX14_finalizeManyx_71 ⟨fun q => absurd rfl q, fun _ => ⟨_, k.1.1, la, show 0 < 89 by decide, trivial, ?_⟩⟩
    obtain ⟨h2, eh2⟩ : ∃ h2, h2 = vm_up h1 a (RO a (u3 (ug g 0 1) (nI ([] : List Nat).length) (nI m.length) (nI y.length))) := ⟨_, rfl⟩
    refine vm_Th (lv' := [(0, .ref a), (1, .int (iZ z)), (2, .int (iZ z2)), (3, .int (nI w.length)), (4, .int (bi false)), (5, .int (nI j))]) (h' := h2) rfl eh2 ?_
    exact vm_go rfl bX14_finalizeManyx_81 oX14_finalizeManyx_81 ((thr en (.int 0) h2 eh2).2.2 rfl)
  have no1 : ¬ (1 ≤ z2 ∧ z2 ≤ 8) → vm_T (vm_env l O f9) mX14_finalizeMany 0 0 20 [(0, .ref a), (1, .int (iZ z)), (2, .int (iZ z2)), (3, .int (nI w.length))] [] h1 Q := fun n => by
    have en : fFm t.2.2.1 t.2.2.2 z z2 w ou an kf af = none := by unfold fFm; exact cif_f (fun c => n ⟨c.1, c.2.1⟩)
    refine vm_go rfl bX14_finalizeManyx_20 oX14_finalizeManyx_20 (vm_go rfl bX14_finalizeManyx_21 oX14_finalizeManyx_21 (vm_Th (lv' := [(0, .ref a), (1, .int (iZ z)), (2, .int (iZ z2)), (3, .int (nI w.length)), (4, .int (bi false))]) (h' := h1) rfl rfl ?_))
    refine vm_go rfl bX14_finalizeManyx_23 oX14_finalizeManyx_23 (vm_Th (lv' := [(0, .ref a), (1, .int (iZ z)), (2, .int (iZ z2)), (3, .int (nI w.length)), (4, .int (bi false)), (5, .int (nI 0))]) (h' := h1) rfl rfl ?_)
    exact vm_go rfl bX14_finalizeManyx_26 oX14_finalizeManyx_26 ⟨fun _ => t71 en 0, fun q => absurd rfl q⟩
  refine vm_go rfl bX14_finalizeManyx_5 oX14_finalizeManyx_5 ⟨fun q => no1 (fun c => absurd ((cz_lt (n := 1) hz2 (by decide)).mp q) (by omega)), fun q1 => ⟨fun q => no1 (fun c => absurd ((cz_gt (n := 8) hz2 (by decide)).mp q) (by omega)), fun q2 => ?_⟩⟩
  have z1 : 1 ≤ z2 := by
    have : ¬ z2 < (1 : Nat) := fun z9 => q1 ((cz_lt (n := 1) hz2 (by decide)).mpr z9)
    omega
  have z8 : z2 ≤ 8 := by
    have : ¬ z2 > (8 : Nat) := fun z9 => q2 ((cz_gt (n := 8) hz2 (by decide)).mpr z9)
    omega
  obtain ⟨n, en⟩ : ∃ n, z2.toNat = n := ⟨_, rfl⟩
  have ez2 : iZ z2 = nI n := by rw [iZ_tn (by omega), en]
  rw [ez2] at t71 ⊢
  have eFM : fFm t.2.2.1 t.2.2.2 z z2 w ou an kf af = cif (opn an af z n) (some (cif ((∀ i, i < n → aky (af (z.toNat + i)) = aky (af z.toNat)) ∧ kty (kf (aky (af z.toNat))) = 1 ∧ w.length = 49 * n + 96) (fFp t.2.2.1 t.2.2.2 z.toNat n w ou kf af) (-2, ou, af))) none := by
    unfold fFm
    rw [en]
    by_cases c : opn an af z n
    · rw [cif_t ⟨z1, z8, c⟩, cif_t c]
    · rw [cif_f (fun q => c q.2.2), cif_f c]
  refine vm_go rfl bX14_finalizeManyx_21 oX14_finalizeManyx_21 (vm_Th (lv' := [(0, .ref a), (1, .int (iZ z)), (2, .int (nI n)), (3, .int (nI w.length)), (4, .int (bi true))]) (h' := h1) rfl rfl ?_)
  refine vm_go rfl bX14_finalizeManyx_23 oX14_finalizeManyx_23 (vm_Th (lv' := [(0, .ref a), (1, .int (iZ z)), (2, .int (nI n)), (3, .int (nI w.length)), (4, .int (bi true)), (5, .int (nI 0))]) (h' := h1) rfl rfl ?_)
  refine vm_loop (fun j h' => h' = h1 ∧ (1 ≤ j → 0 ≤ z ∧ z < 60) ∧ ∀ q, q < j → z + (q : Int) < (an : Int) ∧ aop (af (z.toNat + q)) = true) n (fun j => [(0, .ref a), (1, .int (iZ z)), (2, .int (nI n)), (3, .int (nI w.length)), (4, .int (bi true)), (5, .int (nI j))]) 0 h1 (Nat.zero_le _) ⟨rfl, fun q => by omega, fun q hq => by omega⟩ ?_ ?_
  rotate_left
  · rintro j h7 _ hj ⟨e7, i1, i2⟩ ih
    rw [e7]; clear e7 h7
    have nx : ∀ ok : Bool, vm_T (vm_env l O f9) mX14_finalizeMany 0 0 26 [(0, .ref a), (1, .int (iZ z)), (2, .int (nI n)), (3, .int (nI w.length)), (4, .int (bi ok)), (5, .int (nI (j + 1)))] [] h1 Q → vm_T (vm_env l O f9) mX14_finalizeMany 0 0 63 [(0, .ref a), (1, .int (iZ z)), (2, .int (nI n)), (3, .int (nI w.length)), (4, .int (bi true)), (5, .int (nI j))] [.int (bi ok)] h1 Q := fun ok nxt => by
      refine vm_go rfl bX14_finalizeManyx_63 oX14_finalizeManyx_63 (vm_Th (lv' := [(0, .ref a), (1, .int (iZ z)), (2, .int (nI n)), (3, .int (nI w.length)), (4, .int (bi ok)), (5, .int (nI j))]) (h' := h1) rfl rfl ?_)
      exact vm_go rfl bX14_finalizeManyx_65 oX14_finalizeManyx_65 (vm_Th (by rw [← nI_1 j]; rfl) rfl nxt)
    have no : ¬ opn an af z n → vm_T (vm_env l O f9) mX14_finalizeMany 0 0 62 [(0, .ref a), (1, .int (iZ z)), (2, .int (nI n)), (3, .int (nI w.length)), (4, .int (bi true)), (5, .int (nI j))] [] h1 Q := fun n9 => by
      refine vm_go rfl bX14_finalizeManyx_62 oX14_finalizeManyx_62 (nx false ?_)
      exact vm_go rfl bX14_finalizeManyx_26 oX14_finalizeManyx_26 ⟨fun _ => t71 (by rw [eFM]; exact cif_f n9) (j + 1), fun q => absurd rfl q⟩
    refine vm_go rfl bX14_finalizeManyx_26 oX14_finalizeManyx_26 ⟨fun q => absurd q (by decide), fun _ => ⟨fun q => absurd q (nI_ge (b := n) hj (by omega)), fun _ => ⟨fun q => no (fun c => absurd ((iZ_lt0 hz).mp q) (by have := c.1; omega)), fun q1 => ⟨fun q => no (fun c => ?_), fun q2 => ?_⟩⟩⟩⟩
    · have q : nI 60 ≤ iZ z := q
      rw [cz_ge hz (by decide)] at q
      have := c.2.1; omega
    have q1 : ¬ iZ z < 0 := q1
    rw [iZ_lt0 hz] at q1
    have q2 : ¬ nI 60 ≤ iZ z := q2
    rw [cz_ge hz (by decide)] at q2
    have ea : iZ z + nI j = iZ (z + (j : Int)) := by rw [iZ_nI, iZ_add]
    have ria := rm_isAsking (l := l) (O := O) (f9 := f9) (z := z + (j : Int)) (by unfold i32; omega) k G.2.2.1 st.2.1 han
    refine ⟨_, k.1.1, 0, 0, _, vm_metE (by rw [← ea]; rfl) ria, Nat.zero_le _, Nat.zero_le _, ?_⟩
    rintro _ h2 ⟨⟨ok, rfl, hok⟩, e2⟩
    rw [e2]; clear e2 h2
    have etn : (z + (j : Int)).toNat = z.toNat + j := by omega
    rw [etn] at hok
    cases ok with
    | false => exact ⟨fun _ => no (fun c => nomatch hok.mpr ⟨⟨by omega, by have := c.2.1; omega⟩, c.2.2 j hj⟩), fun q => absurd rfl q⟩
    | true =>
      have c := hok.mp rfl
      refine ⟨fun q => absurd q (by decide), fun _ => nx true (ih h1 ⟨rfl, fun _ => by omega, fun q hq => ?_⟩)⟩
      by_cases e : q = j
      · rw [e]; exact ⟨c.1.2, c.2⟩
      · exact i2 q (by omega)
  rintro h7 ⟨e7, i1, i2⟩
  rw [e7]; clear e7 h7
  have z0 := i1 (by omega)
  have hop : opn an af z n := ⟨z0.1, by have := (i2 (n - 1) (by omega)).1; omega, fun q hq => (i2 q hq).2⟩
  rw [cif_t hop] at eFM
  obtain ⟨j, ej⟩ : ∃ j, z.toNat = j := ⟨_, rfl⟩
  have ez : iZ z = nI j := by rw [iZ_tn z0.1, ej]
  have hjn : j + n ≤ an := by have := hop.2.1; omega
  rw [ej] at eFM
  rw [ez]
  refine vm_go rfl bX14_finalizeManyx_26 oX14_finalizeManyx_26 ⟨fun q => absurd q (by decide), fun _ => ⟨fun _ => ?_, fun q => absurd (nI_le (a := n) (b := n) (Nat.le_refl _) (by omega)) q⟩⟩
  refine vm_go rfl bX14_finalizeManyx_71 oX14_finalizeManyx_71 ⟨fun _ => ?_, fun q => absurd q (by decide)⟩
  obtain ⟨i, ei⟩ : ∃ i, aky (af j) = i := ⟨_, rfl⟩
  have hi : i < kn := by rw [← ei]; exact (st.2.1.2.2.2.2.2 j (by omega)).1
  rw [ei] at eFM
  refine vm_go rfl bX14_finalizeManyx_83 oX14_finalizeManyx_83 (vm_Th (lv' := [(0, .ref a), (1, .int (nI j)), (2, .int (nI n)), (3, .int (nI w.length)), (4, .int (bi true)), (5, .int (nI 0))]) (h' := h1) rfl rfl ?_)
  refine vm_loop (fun p h' => h' = h1 ∧ ∀ q, q < p → aky (af (j + q)) = i) n (fun p => [(0, .ref a), (1, .int (nI j)), (2, .int (nI n)), (3, .int (nI w.length)), (4, .int (bi true)), (5, .int (nI p))]) 0 h1 (Nat.zero_le _) ⟨rfl, fun q hq => by omega⟩ ?_ ?_
  rotate_left
  · rintro p h7 _ hp ⟨e7, i3⟩ ih
    rw [e7]; clear e7 h7
    refine vm_go rfl bX14_finalizeManyx_86 oX14_finalizeManyx_86 ⟨fun q => absurd q (nI_ge (b := n) hp (by omega)), fun _ => ⟨_, _, k.1.1, rfl, ⟨60, f1, ef1, j + p, nI_add _ _, by omega, fun _ => ⟨_, _, k.1.1, rfl, ⟨60, f1, ef1, j, rfl, by omega, fun _ => ?_⟩⟩⟩⟩⟩
    rw [v1 (j + p) (by omega), v1 j (by omega), ei]
    have l6 := (st.2.1.2.2.2.2.2 (j + p) (by omega)).1
    refine ⟨fun q => vm_go rfl bX14_finalizeManyx_113 oX14_finalizeManyx_113 (vm_Th (by rw [← nI_1 p]; rfl) rfl (ih h1 ⟨rfl, fun q' hq' => ?_⟩)), fun q => ?_⟩
    · by_cases e : q' = p
      · rw [e]; exact (nI_ij (by omega) (by omega)).mp q
      · exact i3 q' (by omega)
    · rw [cif_f (fun c => q (by rw [c.1 p hp]))] at eFM
      exact yes _ h1 eFM K1' F1'
  rintro h7 ⟨e7, hky⟩
  rw [e7]; clear e7 h7
  refine vm_go rfl bX14_finalizeManyx_86 oX14_finalizeManyx_86 ⟨fun _ => ?_, fun q => absurd (nI_le (a := n) (b := n) (Nat.le_refl _) (by omega)) q⟩
  refine vm_go rfl bX14_finalizeManyx_119 oX14_finalizeManyx_119 ⟨_, _, k.1.1, rfl, ⟨_, _, k.1.1, rfl, ⟨60, f1, ef1, j, rfl, by omega, fun _ => ?_⟩⟩⟩
  rw [v1 j (by omega), ei]
  refine ⟨6, f2, ef2, i, rfl, by omega, fun _ => ?_⟩
  rw [v2 i hi]
  have ki := hKI i hi
  obtain ⟨osh, lid, hty, hsz⟩ := KI_sh ki
  rcases hty with ht | ht
  rotate_left
  · rw [cif_f (fun c => by have := c.2.1; omega)] at eFM
    rw [ht]
    exact ⟨fun q => absurd q (by decide), fun _ => yes _ h1 eFM K1' F1'⟩
  rw [ht]
  refine ⟨fun _ => ?_, fun q => absurd rfl q⟩
  have eF9 : fFm t.2.2.1 t.2.2.2 z z2 w ou an kf af = some (if w.length = 49 * n + 96 then fFp t.2.2.1 t.2.2.2 j n w ou kf af else (-2, ou, af)) := by
    rw [eFM]
    by_cases hl : w.length = 49 * n + 96
    · rw [cif_t ⟨hky, ht, hl⟩, if_pos hl]
    · rw [cif_f (fun c => hl c.2.2), if_neg hl]
  refine vm_go rfl bX14_finalizeManyx_137 oX14_finalizeManyx_137 ⟨_, k.1.1, 0, 0, _, rp_ends (ask := j) (n := n) (i := i) h9 k G st tw wl9 (by omega) (by omega) hjn hi hky ht ki (fun q hq => by have := hAI (j + q) (by omega); rw [hky q hq] at this; exact this), Nat.zero_le _, Nat.zero_le _, ?_⟩
  rintro _ h5 ⟨rfl, k5, F5⟩
  exact yes _ h5 eF9 k5 (fr_trans F1' F5)
end
