/-! the reference: signs, issue -/
def bX14_signsx_0 : List vm_J := [(1, .aload_n 0, 0, 0, 0, .null), (3, .getfield 461, 14, 59, 0, .null), (1, .iload_n 1, 0, 0, 0, .null), (1, .aaload, 0, 0, 0, .null), (1, .astore_n 2, 0, 0, 0, .null)]
set_option maxRecDepth 20000 in
theorem oX14_signsx_0 : vm_okB 14 mX14_signs 0 bX14_signsx_0 = true := by decide +kernel
def bX14_signsx_7 : List vm_J := [(1, .aload_n 0, 0, 0, 0, .null), (3, .getfield 492, 14, 74, 0, .null), (1, .iconst 3, 0, 0, 0, .int 3), (1, .aload_n 0, 0, 0, 0, .null), (3, .getfield 468, 14, 61, 0, .null), (1, .iload_n 1, 0, 0, 0, .null), (1, .iaload, 0, 0, 0, .null), (1, .aload_n 0, 0, 0, 0, .null), (3, .getfield 507, 14, 81, 0, .null), (1, .aload_n 2, 0, 0, 0, .null), (3, .getfield 13, 12, 2, 0, .null), (3, .invokestatic 176, 155, 5, 0, .null), (1, .aload_n 0, 0, 0, 0, .null), (3, .getfield 507, 14, 81, 0, .null), (1, .aload_n 2, 0, 0, 0, .null), (3, .getfield 22, 12, 0, 0, .null), (1, .aload_n 2, 0, 0, 0, .null), (3, .getfield 13, 12, 2, 0, .null), (3, .invokestatic 26, 139, 3, 0, .null), (3, .ifCond .lt 6, 50, 0, 0, .null), (2, .bipush (-4), 0, 0, 0, .int (-4)), (1, .ireturn, 0, 0, 0, .null)]
set_option maxRecDepth 20000 in
theorem oX14_signsx_7 : vm_okB 14 mX14_signs 7 bX14_signsx_7 = true := by decide +kernel
def bX14_signsx_50 : List vm_J := [(1, .aload_n 0, 0, 0, 0, .null), (1, .aload_n 2, 0, 0, 0, .null), (1, .aload_n 0, 0, 0, 0, .null), (3, .getfield 507, 14, 81, 0, .null), (1, .aload_n 0, 0, 0, 0, .null), (3, .getfield 433, 14, 57, 0, .null), (1, .iload_n 1, 0, 0, 0, .null), (1, .aaload, 0, 0, 0, .null), (2, .bipush 32, 0, 0, 0, .int 32), (1, .aload_n 2, 0, 0, 0, .null), (3, .getfield 13, 12, 2, 0, .null), (1, .imul, 0, 0, 0, .null), (1, .aload_n 0, 0, 0, 0, .null), (3, .getfield 510, 14, 82, 0, .null), (3, .invokevirtual 169, 150, 5, 14, .null), (1, .aload_n 0, 0, 0, 0, .null), (1, .iload_n 1, 0, 0, 0, .null), (1, .aload_n 0, 0, 0, 0, .null), (3, .getfield 510, 14, 82, 0, .null), (1, .aload_n 0, 0, 0, 0, .null), (3, .getfield 513, 14, 83, 0, .null), (3, .invokevirtual 560, 198, 3, 14, .null), (1, .aload_n 0, 0, 0, 0, .null), (3, .getfield 513, 14, 83, 0, .null), (1, .aload_n 0, 0, 0, 0, .null), (3, .getfield 507, 14, 81, 0, .null), (1, .aload_n 2, 0, 0, 0, .null), (3, .getfield 13, 12, 2, 0, .null), (3, .invokestatic 26, 139, 3, 0, .null), (3, .ifCond .eq 6, 110, 0, 0, .null), (2, .bipush (-4), 0, 0, 0, .int (-4)), (1, .ireturn, 0, 0, 0, .null)]
set_option maxRecDepth 20000 in
theorem oX14_signsx_50 : vm_okB 14 mX14_signs 50 bX14_signsx_50 = true := by decide +kernel
def bX14_signsx_110 : List vm_J := [(1, .aload_n 0, 0, 0, 0, .null), (3, .getfield 510, 14, 82, 0, .null), (1, .aload_n 0, 0, 0, 0, .null), (3, .getfield 495, 14, 76, 0, .null), (1, .iconst 0, 0, 0, 0, .int 0), (1, .aload_n 0, 0, 0, 0, .null), (3, .getfield 468, 14, 61, 0, .null), (1, .iload_n 1, 0, 0, 0, .null), (1, .iaload, 0, 0, 0, .null), (3, .invokestatic 192, 156, 4, 0, .null), (1, .aload_n 0, 0, 0, 0, .null), (1, .aload_n 0, 0, 0, 0, .null), (3, .getfield 468, 14, 61, 0, .null), (1, .iload_n 1, 0, 0, 0, .null), (1, .iaload, 0, 0, 0, .null), (3, .putfield 564, 14, 77, 0, .null)]
set_option maxRecDepth 20000 in
theorem oX14_signsx_110 : vm_okB 14 mX14_signs 110 bX14_signsx_110 = true := by decide +kernel
def bX14_signsx_138 : List vm_J := [(1, .aload_n 0, 0, 0, 0, .null), (3, .getfield 564, 14, 77, 0, .null), (1, .ireturn, 0, 0, 0, .null)]
set_option maxRecDepth 20000 in
theorem oX14_signsx_138 : vm_okB 14 mX14_signs 138 bX14_signsx_138 = true := by decide +kernel
def bX14_issuex_0 : List vm_J := [(1, .aload_n 0, 0, 0, 0, .null), (3, .invokevirtual 570, 192, 0, 14, .null), (1, .istore_n 1, 0, 0, 0, .null)]
set_option maxRecDepth 20000 in
theorem oX14_issuex_0 : vm_okB 14 mX14_issue 0 bX14_issuex_0 = true := by decide +kernel
def bX14_issuex_5 : List vm_J := [(1, .iload_n 1, 0, 0, 0, .null), (1, .iconst 3, 0, 0, 0, .int 3), (3, .if_icmp .lt 19, 26, 0, 0, .null), (1, .aload_n 0, 0, 0, 0, .null), (1, .iconst 1, 0, 0, 0, .int 1), (3, .invokevirtual 616, 218, 1, 14, .null), (3, .ifCond .ne 14, 29, 0, 0, .null), (1, .aload_n 0, 0, 0, 0, .null), (1, .iconst 2, 0, 0, 0, .int 2), (3, .invokevirtual 616, 218, 1, 14, .null), (3, .ifCond .ne 6, 29, 0, 0, .null)]
set_option maxRecDepth 20000 in
theorem oX14_issuex_5 : vm_okB 14 mX14_issue 5 bX14_issuex_5 = true := by decide +kernel
def bX14_issuex_26 : List vm_J := [(2, .bipush (-2), 0, 0, 0, .int (-2)), (1, .ireturn, 0, 0, 0, .null)]
set_option maxRecDepth 20000 in
theorem oX14_issuex_26 : vm_okB 14 mX14_issue 26 bX14_issuex_26 = true := by decide +kernel
def bX14_issuex_29 : List vm_J := [(1, .aload_n 0, 0, 0, 0, .null), (1, .aload_n 0, 0, 0, 0, .null), (3, .getfield 492, 14, 74, 0, .null), (1, .iconst 1, 0, 0, 0, .int 1), (1, .baload, 0, 0, 0, .null), (1, .aload_n 0, 0, 0, 0, .null), (3, .getfield 492, 14, 74, 0, .null), (1, .iconst 2, 0, 0, 0, .int 2), (1, .baload, 0, 0, 0, .null), (3, .invokevirtual 619, 217, 2, 14, .null), (1, .istore_n 2, 0, 0, 0, .null)]
set_option maxRecDepth 20000 in
theorem oX14_issuex_29 : vm_okB 14 mX14_issue 29 bX14_issuex_29 = true := by decide +kernel
def bX14_issuex_46 : List vm_J := [(1, .iload_n 2, 0, 0, 0, .null), (3, .ifCond .ge 6, 53, 0, 0, .null), (2, .bipush (-3), 0, 0, 0, .int (-3)), (1, .ireturn, 0, 0, 0, .null)]
set_option maxRecDepth 20000 in
theorem oX14_issuex_46 : vm_okB 14 mX14_issue 46 bX14_issuex_46 = true := by decide +kernel
def bX14_issuex_53 : List vm_J := [(1, .iload_n 1, 0, 0, 0, .null), (1, .iconst 3, 0, 0, 0, .int 3), (1, .aload_n 0, 0, 0, 0, .null), (3, .getfield 450, 14, 54, 0, .null), (1, .iload_n 2, 0, 0, 0, .null), (1, .iaload, 0, 0, 0, .null), (1, .iconst 1, 0, 0, 0, .int 1), (3, .if_icmp .ne 8, 70, 0, 0, .null), (2, .bipush 97, 0, 0, 0, .int 97), (3, .goto 9, 76, 0, 0, .null)]
set_option maxRecDepth 20000 in
theorem oX14_issuex_53 : vm_okB 14 mX14_issue 53 bX14_issuex_53 = true := by decide +kernel
def bX14_issuex_70 : List vm_J := [(1, .aload_n 0, 0, 0, 0, .null), (3, .getfield 468, 14, 61, 0, .null), (1, .iload_n 2, 0, 0, 0, .null), (1, .iaload, 0, 0, 0, .null)]
set_option maxRecDepth 20000 in
theorem oX14_issuex_70 : vm_okB 14 mX14_issue 70 bX14_issuex_70 = true := by decide +kernel
def bX14_issuex_76 : List vm_J := [(1, .iadd, 0, 0, 0, .null), (3, .if_icmp .eq 6, 83, 0, 0, .null), (2, .bipush (-2), 0, 0, 0, .int (-2)), (1, .ireturn, 0, 0, 0, .null)]
set_option maxRecDepth 20000 in
theorem oX14_issuex_76 : vm_okB 14 mX14_issue 76 bX14_issuex_76 = true := by decide +kernel
def bX14_issuex_83 : List vm_J := [(1, .aload_n 0, 0, 0, 0, .null), (3, .getfield 450, 14, 54, 0, .null), (1, .iload_n 2, 0, 0, 0, .null), (1, .iaload, 0, 0, 0, .null), (1, .iconst 1, 0, 0, 0, .int 1), (3, .if_icmp .ne 12, 102, 0, 0, .null), (1, .aload_n 0, 0, 0, 0, .null), (1, .iload_n 2, 0, 0, 0, .null), (1, .iconst 1, 0, 0, 0, .int 1), (3, .invokevirtual 622, 221, 2, 14, .null), (3, .goto 8, 107, 0, 0, .null)]
set_option maxRecDepth 20000 in
theorem oX14_issuex_83 : vm_okB 14 mX14_issue 83 bX14_issuex_83 = true := by decide +kernel
def bX14_issuex_102 : List vm_J := [(1, .aload_n 0, 0, 0, 0, .null), (1, .iload_n 2, 0, 0, 0, .null), (3, .invokevirtual 625, 222, 1, 14, .null)]
set_option maxRecDepth 20000 in
theorem oX14_issuex_102 : vm_okB 14 mX14_issue 102 bX14_issuex_102 = true := by decide +kernel
def bX14_issuex_107 : List vm_J := [(1, .ireturn, 0, 0, 0, .null)]
set_option maxRecDepth 20000 in
theorem oX14_issuex_107 : vm_okB 14 mX14_issue 107 bX14_issuex_107 = true := by decide +kernel
def bX14_issueManyx_0 : List vm_J := [(1, .aload_n 0, 0, 0, 0, .null), (3, .invokevirtual 570, 192, 0, 14, .null), (1, .istore_n 2, 0, 0, 0, .null)]
set_option maxRecDepth 20000 in
theorem oX14_issueManyx_0 : vm_okB 14 mX14_issueMany 0 bX14_issueManyx_0 = true := by decide +kernel
def bX14_issueManyx_5 : List vm_J := [(1, .iload_n 1, 0, 0, 0, .null), (1, .iconst 1, 0, 0, 0, .int 1), (3, .if_icmp .lt 22, 29, 0, 0, .null), (1, .iload_n 1, 0, 0, 0, .null), (2, .bipush 8, 0, 0, 0, .int 8), (3, .if_icmp .gt 16, 29, 0, 0, .null), (1, .iload_n 2, 0, 0, 0, .null), (1, .iconst 3, 0, 0, 0, .int 3), (3, .if_icmp .lt 11, 29, 0, 0, .null), (1, .aload_n 0, 0, 0, 0, .null), (1, .iconst 1, 0, 0, 0, .int 1), (3, .invokevirtual 616, 218, 1, 14, .null), (3, .ifCond .ne 6, 32, 0, 0, .null)]
set_option maxRecDepth 20000 in
theorem oX14_issueManyx_5 : vm_okB 14 mX14_issueMany 5 bX14_issueManyx_5 = true := by decide +kernel
def bX14_issueManyx_29 : List vm_J := [(2, .bipush (-2), 0, 0, 0, .int (-2)), (1, .ireturn, 0, 0, 0, .null)]
set_option maxRecDepth 20000 in
theorem oX14_issueManyx_29 : vm_okB 14 mX14_issueMany 29 bX14_issueManyx_29 = true := by decide +kernel
def bX14_issueManyx_32 : List vm_J := [(1, .aload_n 0, 0, 0, 0, .null), (1, .iconst 1, 0, 0, 0, .int 1), (1, .aload_n 0, 0, 0, 0, .null), (3, .getfield 492, 14, 74, 0, .null), (1, .iconst 2, 0, 0, 0, .int 2), (1, .baload, 0, 0, 0, .null), (3, .invokevirtual 619, 217, 2, 14, .null), (1, .istore_n 3, 0, 0, 0, .null)]
set_option maxRecDepth 20000 in
theorem oX14_issueManyx_32 : vm_okB 14 mX14_issueMany 32 bX14_issueManyx_32 = true := by decide +kernel
def bX14_issueManyx_44 : List vm_J := [(1, .iload_n 3, 0, 0, 0, .null), (3, .ifCond .ge 6, 51, 0, 0, .null), (2, .bipush (-3), 0, 0, 0, .int (-3)), (1, .ireturn, 0, 0, 0, .null)]
set_option maxRecDepth 20000 in
theorem oX14_issueManyx_44 : vm_okB 14 mX14_issueMany 44 bX14_issueManyx_44 = true := by decide +kernel
def bX14_issueManyx_51 : List vm_J := [(1, .iload_n 2, 0, 0, 0, .null), (1, .iconst 3, 0, 0, 0, .int 3), (2, .bipush 49, 0, 0, 0, .int 49), (1, .iload_n 1, 0, 0, 0, .null), (1, .imul, 0, 0, 0, .null), (1, .iadd, 0, 0, 0, .null), (2, .bipush 48, 0, 0, 0, .int 48), (1, .iadd, 0, 0, 0, .null), (3, .if_icmp .eq 6, 67, 0, 0, .null), (2, .bipush (-2), 0, 0, 0, .int (-2)), (1, .ireturn, 0, 0, 0, .null)]
set_option maxRecDepth 20000 in
theorem oX14_issueManyx_51 : vm_okB 14 mX14_issueMany 51 bX14_issueManyx_51 = true := by decide +kernel
def bX14_issueManyx_67 : List vm_J := [(1, .aload_n 0, 0, 0, 0, .null), (1, .iload_n 3, 0, 0, 0, .null), (1, .iload_n 1, 0, 0, 0, .null), (3, .invokevirtual 622, 221, 2, 14, .null), (1, .ireturn, 0, 0, 0, .null)]
set_option maxRecDepth 20000 in
theorem oX14_issueManyx_67 : vm_okB 14 mX14_issueMany 67 bX14_issueManyx_67 = true := by decide +kernel
section
variable {l : Launch} {O : Nat → vm_Ob} {f9 : Value} {h h' : vm_H} {a kn an rd wr : Nat} {t : KT} {g g' : Nat → Int32} {m y w ou : List Nat} {kf : Nat → aK} {af : Nat → aA} {D : Nat → Nat} {dn : Bool} {wl : Int} {th : Int32}
theorem rp_signs {i : Nat} (k : SY h a t g [] m y) (G : RG9 g 0 kn an rd dn wl wr ([] : List Nat).length ou.length) (st : ST h a kn an kf af D [] ou) (tw : rl9 h 1208 (a + 153) w) (hw : w.length ≤ 1200) (hi : i < kn) (ht : kty (kf i) = 2) (ki : KI (kf i)) (hl : w.length = 3 + ksz (kf i)) : vm_Met (vm_env l O f9) mX14_signs 0 0 [.ref a, .int (nI i)] h (fun r h' => (r = some (.int (fSg (kf i) w ou).1) ∧ RM h' a t 0 [] (fSg (kf i) w ou).2 kn an rd kf af D dn wl wr ∧ fr h h' (RF a))) := by
  suffices H : ∀ Q : Option Value → vm_H → Prop, (∀ r h', (r = some (.int (fSg (kf i) w ou).1) ∧ RM h' a t 0 [] (fSg (kf i) w ou).2 kn an rd kf af D dn wl wr ∧ fr h h' (RF a)) → Q r h') → vm_Met (vm_env l O f9) mX14_signs 0 0 [.ref a, .int (nI i)] h Q from H _ (fun _ _ z => z)
  intro Q hQ
  have ao := k.1.2.1
  have la : a < 1099511627776 := by omega
  have l154 : a + 154 < 1099511627776 := by omega
  obtain ⟨c, bc, ec⟩ := tw
  have hkn := st.2.2.2.2.2.2.2.1
  obtain ⟨n, N, e, d, t0, q⟩ := KI_2 ki ht
  obtain ⟨⟨ql1, ql2, qn⟩, ⟨qN, qe, qd', _⟩, ⟨qt1, qt2⟩, hod, qe2, qd, qs, hN, qlo, qhi⟩ := id q
  have sk := st.1
  obtain ⟨sh, mh, wd⟩ := (sk.2.2.2.2.2.2.2.2.2.2 i hi).2 ht
  rw [← qN, ← qn] at mh
  rw [← qd', ← qn] at wd
  obtain ⟨fm, efm, vm⟩ := sk.2.2.2.2.2.1
  obtain ⟨fl, efl, vl⟩ := sk.2.2.2.2.2.2.2.1
  obtain ⟨fe, efe, ve⟩ := sk.2.2.2.2.2.2.1
  obtain ⟨fs4, e4, v4⟩ := sk.2.2.2.1
  dsimp only at v4 vm
  obtain ⟨B, hB⟩ : ∃ B, bn (gb w) 3 (ksz (kf i)) = B := ⟨_, rfl⟩
  have eB : bn c 3 (ksz (kf i)) = B := by rw [← hB]; exact bn_w ec (by omega)
  have eF0 : fSg (kf i) w ou = cif (B < N ∧ (B ^ d % N) ^ e % N = B) (nI (ksz (kf i)), wb (B ^ d % N) (ksz (kf i))) (-4, ou) := by
    unfold fSg
    rw [hB, ← qN, ← qe, ← qd']
  have pw : (256 : Nat) ^ ksz (kf i) ≤ 4294967296 ^ n := by
    rw [show (4294967296 : Nat) = 256 ^ 4 by decide, ← Nat.pow_mul]
    exact Nat.pow_le_pow_right (by decide) (by omega)
  have bNn : N < 4294967296 ^ n := Nat.lt_of_lt_of_le hN pw
  have bB : B < 4294967296 ^ n := by
    rw [← eB]
    exact Nat.lt_of_lt_of_le (bn_lt (ksz (kf i)) (fun j _ hj => bv_lt bc j (by omega))) pw
  have bad : ∀ h1, SY h1 a t g [] m y → fr h h1 (fun q => scr a q) → ¬ (B < N ∧ (B ^ d % N) ^ e % N = B) → Q (some (.int (-4))) h1 := fun h1 k1 F1 n9 => by
    rw [eF0, cif_f n9] at hQ
    exact hQ _ _ ⟨rfl, ⟨_, _, _, k1, G, ST_fr st F1 (fun q z => z)⟩, fr_mono F1 (fun q z => by unfold scr at z; unfold RF; omega)⟩
  refine vm_met rfl (Nat.le_of_ble_eq_true rfl) ?_
  refine vm_go rfl bX14_signsx_0 oX14_signsx_0 ⟨_, _, k.1.1, rfl, ⟨_, _, _, _, efm, by decide, rfl, i, rfl, by omega, va_e (vm i (by omega)), ?_⟩⟩
  refine vm_Th (lv' := [(0, .ref a), (1, .int (nI i)), (2, .ref (a + 219 + 6 * i))]) (h' := h) rfl rfl ?_
  obtain ⟨fa, ia1⟩ : iw h 64 (a + 158) := k.1.2.2.2.2.1 158 (by unfold ZI; omega)
  refine vm_go rfl bX14_signsx_7 oX14_signsx_7 ⟨_, _, k.1.1, rfl, ⟨_, _, k.1.1, rfl, ⟨6, fl, efl, i, rfl, by omega, fun _ => ?_⟩⟩⟩
  rw [vl i hi]
  refine ⟨_, _, k.1.1, rfl, ⟨_, _, mh.1.1, rfl, ⟨0, 0, _, rm_load (at9 := 3) (size := ksz (kf i)) (n := n) bc (by omega) (by decide) ia1 (by omega) (by omega) (by omega) (by omega), Nat.zero_le _, Nat.zero_le _, ?_⟩⟩⟩
  rintro _ h1 ⟨rfl, w1, F1⟩
  rw [eB] at w1
  have k1 : SY h1 a t g [] m y := SY_fr k (RK_of k.1 F1 ((F1.2 a (by omega)).trans k.1.1) (fun q z => .inr (z ▸ GD_i (i := 158) (by unfold ZI; omega) (wv_iw w1)))) F1 (by omega)
  have mh1 := MH_cg3 mh F1 (by omega)
  have FF1 : fr h h1 (fun q => scr a q) := fr_mono F1 (fun q z => by unfold scr; omega)
  refine ⟨_, _, k1.1.1, rfl, ⟨_, _, mh1.1.1, rfl, ⟨_, _, mh1.1.1, rfl, ⟨0, 0, _, rm_cmp w1 mh1.1.2.1 (by omega) (by omega) (by omega) bB bNn, Nat.zero_le _, Nat.zero_le _, ?_⟩⟩⟩⟩
  rintro _ h3 ⟨hc, e3⟩
  rw [e3]; clear e3 h3
  rcases hc with ⟨hc, rfl⟩ | ⟨hc, rfl⟩ | ⟨hc, rfl⟩
  rotate_left
  · exact ⟨fun q => absurd q (by decide), fun _ => bad h1 k1 FF1 (fun z => by have := z.1; omega)⟩
  · exact ⟨fun q => absurd q (by decide), fun _ => bad h1 k1 FF1 (fun z => by have := z.1; omega)⟩
  refine ⟨fun _ => ?_, fun q => absurd (by decide) q⟩
  have e32 : (32 : Int32) * nI n = nI (32 * n) := nI_mul 32 n
  refine vm_go rfl bX14_signsx_50 oX14_signsx_50 ⟨_, _, k1.1.1, rfl, ⟨_, _, k1.1.1, rfl, ⟨_, _, _, _, (F1.2 _ (by omega)).trans e4, by decide, rfl, i, rfl, by omega, va_e (v4 i (by omega)), ⟨_, _, mh1.1.1, rfl, ⟨_, _, k1.1.1, rfl, ⟨_, k1.1.1, 0, 0, _, vm_metE (by rw [← e32]; rfl) (rm_power (bits := 32 * n) (m := n) mh1 k1.1.1 (CU_1 (RK_cu k1.1)) (CU_6 (RK_cu k1.1) (by decide) (by decide)) (CU_6 (RK_cu k1.1) (by decide) (by decide)) w1 (by omega) hc (wv_cg wd (F1.2 _ (by omega))) (by omega) (by omega) (by omega) (RK_64 k1.1 (i := 159) (by unfold ZI; omega) rfl) (by omega) (by omega) (by omega) (by omega) (by omega) (by omega) ao), Nat.zero_le _, Nat.zero_le _, ?_⟩⟩⟩⟩⟩⟩
  rintro _ h2 ⟨rfl, w2, ⟨r1, r2, r3⟩, F2⟩
  rw [Nat.mod_eq_of_lt (a := d) (b := 2 ^ (32 * n)) (by
    rw [Nat.pow_mul, show (2 : Nat) ^ 32 = 4294967296 by decide]; omega)] at w2
  have k2 : SY h2 a t g [] m y := SY_fr k1 (RK_of k1.1 F2 ((F2.2 a (by omega)).trans k1.1.1) (fun q z => by
    rcases z with rfl | rfl | rfl | rfl
    · exact .inr (GD_i (by unfold ZI; omega) r1)
    · exact .inr (GD_i (by unfold ZI; omega) r2)
    · exact .inr (GD_i (by unfold ZI; omega) r3)
    · exact .inr (GD_i (by unfold ZI; omega) (wv_iw w2)))) F2 (by omega)
  have F02 : fr h h2 (fun q => scr a q) := fr_trans FF1 (fr_mono F2 (fun q z => by unfold scr; omega))
  have mh2 := MH_cg3 mh1 F2 (by omega)
  have sk2 : SK h2 a kn kf := SK_fr sk hkn F02 (fun q z => z)
  have lA : B ^ d % N < N := Nat.mod_lt _ (by omega)
  refine ⟨_, _, k2.1.1, rfl, ⟨_, _, k2.1.1, rfl, ⟨_, k2.1.1, 0, 0, _, rm_byE (c := a + 160) k2.1 sk2 hkn hi q mh2 ⟨fe, ia_cg9 efe (F02.2 _ (by unfold scr; omega)), by rw [ve i hi ht, ← qe]⟩ w2 (by omega) (by omega) lA (.inr rfl), Nat.zero_le _, Nat.zero_le _, ?_⟩⟩⟩
  rintro _ h4 ⟨rfl, r4, w4, F4⟩
  have k4 : SY h4 a t g [] m y := SY_fr k2 r4 F4 (by omega)
  have F04 : fr h h4 (fun q => scr a q) := fr_trans F02 (fr_mono F4 (fun q z => by unfold scr; omega))
  have mh4 := MH_cg3 mh2 F4 (by omega)
  have w14 : wv h4 64 (a + 158) n B := wv_cg w1 ((F4.2 _ (by omega)).trans (F2.2 _ (by omega)))
  have w24 : wv h4 64 (a + 159) n (B ^ d % N) := wv_cg w2 (F4.2 _ (by omega))
  have lC : (B ^ d % N) ^ e % N < N := Nat.mod_lt _ (by omega)
  refine ⟨_, _, k4.1.1, rfl, ⟨_, _, k4.1.1, rfl, ⟨_, _, mh4.1.1, rfl, ⟨0, 0, _, rm_cmp w4 w14 (by omega) (by omega) (by omega) (by omega) bB, Nat.zero_le _, Nat.zero_le _, ?_⟩⟩⟩⟩
  rintro _ h5 ⟨hc5, e5⟩
  rw [e5]; clear e5 h5
  rcases hc5 with ⟨hc5, rfl⟩ | ⟨hc5, rfl⟩ | ⟨hc5, rfl⟩
  · exact ⟨fun q => absurd q (by decide), fun _ => bad h4 k4 F04 (fun z => by have := z.2; omega)⟩
  rotate_left
  · exact ⟨fun q => absurd q (by decide), fun _ => bad h4 k4 F04 (fun z => by have := z.2; omega)⟩
  refine ⟨fun _ => ?_, fun q => absurd rfl q⟩
  rw [eF0, cif_t ⟨hc, hc5⟩] at hQ
  obtain ⟨co, bo, _⟩ := (ST_fr st F04 (fun q z => z)).2.2.2.2.1
  have efl4 := (F04.2 _ (by unfold scr; omega)).trans efl
  refine vm_go rfl bX14_signsx_110 oX14_signsx_110 ⟨_, _, k4.1.1, rfl, ⟨_, _, k4.1.1, rfl, ⟨_, _, k4.1.1, rfl, ⟨6, fl, efl4, i, rfl, by omega, fun _ => ?_⟩⟩⟩⟩
  rw [vl i hi]
  refine ⟨0, 0, _, rm_store (at9 := 0) (size := ksz (kf i)) (n := n) w24 (by omega) bo l154 (by omega) (by omega) (by omega) (by decide), Nat.zero_le _, Nat.zero_le _, ?_⟩
  rintro _ h6 ⟨rfl, ⟨c6, b6, e6, _⟩, F6⟩
  have k6 := SY_off k4 F6 (fun q z => by omega)
  refine ⟨_, _, k6.1.1, rfl, ⟨6, fl, (F6.2 _ (by omega)).trans efl4, i, rfl, by omega, fun _ => ?_⟩⟩
  rw [vl i hi]
  refine ⟨_, k6.1.1, la, show 77 < 89 by decide, trivial, ?_⟩
  obtain ⟨h8, eh8⟩ : ∃ h8, h8 = vm_up h6 a (RO a (u3 (ug g 77 (nI (ksz (kf i)))) (nI ([] : List Nat).length) (nI m.length) (nI y.length))) := ⟨_, rfl⟩
  obtain ⟨k8, F8⟩ := SY_g k6 eh8
  refine vm_Th (lv' := [(0, .ref a), (1, .int (nI i)), (2, .ref (a + 219 + 6 * i))]) (h' := h8) rfl eh8 ?_
  refine vm_go rfl bX14_signsx_138 oX14_signsx_138 ⟨_, _, k8.1.1, rfl, ?_⟩
  have lE : (wb (B ^ d % N) (ksz (kf i))).length = ksz (kf i) := wb_len
  have F48 : fr h4 h8 (fun q => q = a ∨ q = a + 154) := fr_trans (fr_mono F6 (fun q z => .inr z)) (fr_mono F8 (fun q z => .inl z))
  refine hQ _ _ ⟨rfl, ⟨_, _, _, k8, ?_, ST_ou (ST_fr st F04 (fun q z => z)) F48 (fun q z => by unfold scr; omega) ⟨c6, bv_cg b6 (F8.2 _ (by omega)), by rw [lE]; exact e6⟩ (show (wb (B ^ d % N) (ksz (kf i))).length ≤ 2900 by omega)⟩, fr_trans (fr_mono F04 (fun q z => by unfold scr at z; unfold RF; omega)) (fr_mono F48 (fun q z => by unfold RF; omega))⟩
  rw [lE]; exact RG_ol (w := []) G
theorem rp_issue (h9 : f9.category = 1) (hKI : ∀ i, i < kn → KI (kf i)) (K : RM h a t th w ou kn an rd kf af D dn wl wr) : vm_Met (vm_env l O f9) mX14_issue 0 0 [.ref a] h (fun r h' => r = some (.int (fIs t.2.2.1 t.2.2.2 w kn kf ou).1) ∧ RM h' a t 0 [] (fIs t.2.2.1 t.2.2.2 w kn kf ou).2 kn an rd kf af D dn wl wr ∧ fr h h' (RF a)) := by
  suffices H : ∀ Q : Option Value → vm_H → Prop, (∀ r h', (r = some (.int (fIs t.2.2.1 t.2.2.2 w kn kf ou).1) ∧ RM h' a t 0 [] (fIs t.2.2.1 t.2.2.2 w kn kf ou).2 kn an rd kf af D dn wl wr ∧ fr h h' (RF a)) → Q r h') → vm_Met (vm_env l O f9) mX14_issue 0 0 [.ref a] h Q from H _ (fun _ _ z => z)
  intro Q hQ
  have K0 := K
  obtain ⟨g0, m0, y0, k0, G0, st0⟩ := K
  have wl9 := st0.2.2.2.2.2.1
  have ao := k0.1.2.1
  refine vm_met rfl (Nat.le_of_ble_eq_true rfl) ?_
  refine vm_go rfl bX14_issuex_0 oX14_issuex_0 ⟨_, k0.1.1, 0, 0, _, rp_used K0, Nat.zero_le _, Nat.zero_le _, ?_⟩
  rintro _ h1 ⟨rfl, K1, tw, F1⟩
  have F1' : fr h h1 (RF a) := fr_mono F1 (fun q z => by unfold RF; omega)
  have K1' := K1
  obtain ⟨g, m, y, k, G, st⟩ := K1
  have hkn := st.2.2.2.2.2.2.2.1
  have tw0 := tw
  obtain ⟨c, bc, ec⟩ := tw
  obtain ⟨f, ef, vf⟩ := id bc
  have cw : ∀ j, j < w.length → c j = gb w j := fun j hj => gb_w ec hj
  have hK2 : ∀ i, i < kn → kty (kf i) < 128 := fun i hi => by
    have := (KI_sh (hKI i hi)).2.2.1; omega
  refine vm_Th (lv' := [(0, .ref a), (1, .int (nI w.length))]) (h' := h1) rfl rfl ?_
  have bad : tot (gb w) w.length 3 = -1 → vm_T (vm_env l O f9) mX14_issue 0 0 26 [(0, .ref a), (1, .int (nI w.length))] [] h1 Q := fun n => by
    have e9 : fIs t.2.2.1 t.2.2.2 w kn kf ou = (-2, ou) := by unfold fIs; rw [if_pos n]
    rw [e9] at hQ
    exact vm_go rfl bX14_issuex_26 oX14_issuex_26 (hQ _ _ ⟨rfl, K1', F1'⟩)
  by_cases h3 : w.length < 3
  · refine vm_go rfl bX14_issuex_5 oX14_issuex_5 ⟨fun _ => bad (by unfold tot; rw [if_pos (.inl h3)]), fun q => absurd (show nI w.length < nI 3 by rw [nI_ltI (by omega) (by decide)]; exact h3) q⟩
  have n3 : ¬ nI w.length < nI 3 := by rw [nI_ltI (by omega) (by decide)]; exact h3
  have s29 : ∀ ty, (ty = 1 ∨ ty = 2) → c 0 = 0 → c 1 = ty → vm_T (vm_env l O f9) mX14_issue 0 0 29 [(0, .ref a), (1, .int (nI w.length))] [] h1 Q := by
    intro ty hty c0 c1
    have et : tot (gb w) w.length 3 = (ty : Int) := by
      unfold tot
      rw [← cw 0 (by omega), ← cw 1 (by omega), c0, c1, if_neg (by omega), if_pos hty]
    have e9 : fIs t.2.2.1 t.2.2.2 w kn kf ou = (match fnd kf kn ty (gb w 2) with | none => (-3, ou) | some i => if w.length = 3 + (if kty (kf i) = 1 then 97 else ksz (kf i)) then (if kty (kf i) = 1 then fGv t.2.2.1 t.2.2.2 (kf i) w 1 ou else fSg (kf i) w ou) else (-2, ou)) := by
      unfold fIs
      rw [if_neg (by rw [et]; omega), et, Int.toNat_natCast]
      cases fnd kf kn ty (gb w 2) <;> rfl
    have v1 := vf 1 (by decide)
    have v2 := vf 2 (by decide)
    have e2 : c 2 = gb w 2 := cw 2 (by omega)
    refine vm_go rfl bX14_issuex_29 oX14_issuex_29 ⟨_, _, k.1.1, rfl, ⟨1208, f, ef, 1, rfl, by decide, fun _ => ⟨_, _, k.1.1, rfl, ⟨1208, f, ef, 2, rfl, by decide, fun _ => ?_⟩⟩⟩⟩
    rw [v1.1, v2.1, c1, (sb_eq ty (by omega) ty (by omega)).mpr rfl, e2]
    refine ⟨_, k.1.1, 0, 0, _, rm_keyOf (by omega) (by rw [← e2]; exact v2.2) hK2 k G.2.1 st.1 hkn, Nat.zero_le _, Nat.zero_le _, ?_⟩
    rintro _ h2 ⟨⟨v, rfl, hv⟩, eh2⟩
    rw [eh2]; clear eh2 h2
    refine vm_Th (lv' := [(0, .ref a), (1, .int (nI w.length)), (2, .int v)]) (h' := h1) rfl rfl ?_
    rcases hv with ⟨ev, en⟩ | ⟨i, hi, ev, es, eti⟩
    · rw [en] at e9
      rw [e9] at hQ
      rw [ev]
      exact vm_go rfl bX14_issuex_46 oX14_issuex_46 ⟨fun q => absurd q (by decide), fun _ => hQ _ _ ⟨rfl, K1', F1'⟩⟩
    rw [es] at e9
    have e9 : fIs t.2.2.1 t.2.2.2 w kn kf ou = if w.length = 3 + (if kty (kf i) = 1 then 97 else ksz (kf i)) then (if kty (kf i) = 1 then fGv t.2.2.1 t.2.2.2 (kf i) w 1 ou else fSg (kf i) w ou) else (-2, ou) := e9
    rw [ev]
    refine vm_go rfl bX14_issuex_46 oX14_issuex_46 ⟨fun _ => ?_, fun q => absurd (show nI i ≥ 0 from nI_le (a := 0) (Nat.zero_le _) (by omega)) q⟩
    obtain ⟨⟨f1, ef1, v1'⟩, _, _, _, _, _, _, ⟨fl, efl, vl⟩, _⟩ := id st.1
    obtain ⟨osh, lid, hty9, hsz⟩ := KI_sh (hKI i hi)
    obtain ⟨need, hneed⟩ : ∃ need, (if kty (kf i) = 1 then 97 else ksz (kf i)) = need := ⟨_, rfl⟩
    rw [hneed] at e9
    have nle : need ≤ 256 := by rw [← hneed]; split <;> omega
    have s76 : vm_T (vm_env l O f9) mX14_issue 0 0 76 [(0, .ref a), (1, .int (nI w.length)), (2, .int (nI i))] [.int (nI need), .int 3, .int (nI w.length)] h1 Q := by
      have e3 : (3 : Int32) + nI need = nI (3 + need) := nI_add 3 _
      by_cases hl : w.length = 3 + need
      case neg =>
        rw [if_neg hl] at e9
        rw [e9] at hQ
        refine vm_go rfl bX14_issuex_76 oX14_issuex_76 ⟨fun q => ?_, fun _ => hQ _ _ ⟨rfl, K1', F1'⟩⟩
        have q : nI w.length = 3 + nI need := q
        rw [e3, nI_ij (by omega) (by omega)] at q
        exact absurd q hl
      rw [if_pos hl] at e9
      refine vm_go rfl bX14_issuex_76 oX14_issuex_76 ⟨fun _ => ?_, fun q => absurd (show nI w.length = 3 + nI need by rw [e3, hl]) q⟩
      rcases hty9 with ht | ht
      · rw [if_pos ht] at e9 hneed
        rw [e9] at hQ
        refine vm_go rfl bX14_issuex_83 oX14_issuex_83 ⟨_, _, k.1.1, rfl, ⟨6, f1, ef1, i, rfl, by omega, fun _ => ?_⟩⟩
        rw [v1' i hi, ht]
        refine ⟨fun q => absurd rfl q, fun _ => ⟨_, k.1.1, 0, 0, _, rp_gives (n := 1) h9 k G st tw0 wl9 hi ht (hKI i hi) (by decide) (by decide) (by omega), Nat.zero_le _, Nat.zero_le _, ?_⟩⟩
        rintro _ h5 ⟨rfl, k5, F5⟩
        exact vm_go rfl bX14_issuex_107 oX14_issuex_107 (hQ _ _ ⟨rfl, k5, fr_trans F1' F5⟩)
      · rw [if_neg (by omega)] at e9 hneed
        rw [e9] at hQ
        refine vm_go rfl bX14_issuex_83 oX14_issuex_83 ⟨_, _, k.1.1, rfl, ⟨6, f1, ef1, i, rfl, by omega, fun _ => ?_⟩⟩
        rw [v1' i hi, ht]
        refine ⟨fun _ => ?_, fun q => absurd q (show ¬ nI 2 = 1 by decide)⟩
        refine vm_go rfl bX14_issuex_102 oX14_issuex_102 ⟨_, k.1.1, 0, 0, _, rp_signs k G st tw0 wl9 hi ht (hKI i hi) (by omega), Nat.zero_le _, Nat.zero_le _, ?_⟩
        rintro _ h5 ⟨rfl, k5, F5⟩
        exact vm_go rfl bX14_issuex_107 oX14_issuex_107 (hQ _ _ ⟨rfl, k5, fr_trans F1' F5⟩)
    rcases hty9 with ht | ht
    · refine vm_go rfl bX14_issuex_53 oX14_issuex_53 ⟨_, _, k.1.1, rfl, ⟨6, f1, ef1, i, rfl, by omega, fun _ => ?_⟩⟩
      rw [v1' i hi, ht]
      rw [if_pos ht] at hneed
      rw [← hneed] at s76
      exact ⟨fun q => absurd rfl q, fun _ => s76⟩
    · refine vm_go rfl bX14_issuex_53 oX14_issuex_53 ⟨_, _, k.1.1, rfl, ⟨6, f1, ef1, i, rfl, by omega, fun _ => ?_⟩⟩
      rw [v1' i hi, ht]
      refine ⟨fun _ => ?_, fun q => absurd q (show ¬ nI 2 = 1 by decide)⟩
      refine vm_go rfl bX14_issuex_70 oX14_issuex_70 ⟨_, _, k.1.1, rfl, ⟨6, fl, efl, i, rfl, by omega, fun _ => ?_⟩⟩
      rw [vl i hi]
      rw [if_neg (by omega)] at hneed
      rw [hneed]
      exact s76
  refine vm_go rfl bX14_issuex_5 oX14_issuex_5 ⟨fun q => absurd q n3, fun _ => ⟨_, k.1.1, 0, 0, _, rm_isType (ty := 1) (by decide) k bc, Nat.zero_le _, Nat.zero_le _, ?_⟩⟩
  rintro _ h2 ⟨⟨ok, rfl, hok⟩, eh2⟩
  rw [eh2]; clear eh2 h2
  cases ok with
  | true => exact ⟨fun _ => s29 1 (.inl rfl) (hok.mp rfl).1 (hok.mp rfl).2, fun q => absurd q (by decide)⟩
  | false =>
  refine ⟨fun q => absurd rfl q, fun _ => ⟨_, k.1.1, 0, 0, _, rm_isType (ty := 2) (by decide) k bc, Nat.zero_le _, Nat.zero_le _, ?_⟩⟩
  rintro _ h2 ⟨⟨ok, rfl, hok2⟩, eh2⟩
  rw [eh2]; clear eh2 h2
  cases ok with
  | true => exact ⟨fun _ => s29 2 (.inr rfl) (hok2.mp rfl).1 (hok2.mp rfl).2, fun q => absurd q (by decide)⟩
  | false =>
  refine ⟨fun q => absurd rfl q, fun _ => bad ?_⟩
  unfold tot
  rw [← cw 0 (by omega), ← cw 1 (by omega)]
  by_cases c0 : c 0 = 0
  · rw [if_neg (by omega), if_neg]
    rintro (z | z)
    · exact nomatch hok.mpr ⟨c0, z⟩
    · exact nomatch hok2.mpr ⟨c0, z⟩
  · rw [if_pos (.inr c0)]
theorem rp_issueMany {z : Int} (hz : i32 z) (h9 : f9.category = 1) (hKI : ∀ i, i < kn → KI (kf i)) (K : RM h a t th w ou kn an rd kf af D dn wl wr) : vm_Met (vm_env l O f9) mX14_issueMany 0 0 [.ref a, .int (iZ z)] h (fun r h' => r = some (.int (fIM t.2.2.1 t.2.2.2 z w kn kf ou).1) ∧ RM h' a t 0 [] (fIM t.2.2.1 t.2.2.2 z w kn kf ou).2 kn an rd kf af D dn wl wr ∧ fr h h' (RF a)) := by
  suffices H : ∀ Q : Option Value → vm_H → Prop, (∀ r h', (r = some (.int (fIM t.2.2.1 t.2.2.2 z w kn kf ou).1) ∧ RM h' a t 0 [] (fIM t.2.2.1 t.2.2.2 z w kn kf ou).2 kn an rd kf af D dn wl wr ∧ fr h h' (RF a)) → Q r h') → vm_Met (vm_env l O f9) mX14_issueMany 0 0 [.ref a, .int (iZ z)] h Q from H _ (fun _ _ z => z)
  intro Q hQ
  have K0 := K
  obtain ⟨g0, m0, y0, k0, G0, st0⟩ := K
  have wl9 := st0.2.2.2.2.2.1
  have ao := k0.1.2.1
  refine vm_met rfl (Nat.le_of_ble_eq_true rfl) ?_
  refine vm_go rfl bX14_issueManyx_0 oX14_issueManyx_0 ⟨_, k0.1.1, 0, 0, _, rp_used K0, Nat.zero_le _, Nat.zero_le _, ?_⟩
  rintro _ h1 ⟨rfl, K1, tw, F1⟩
  have F1' : fr h h1 (RF a) := fr_mono F1 (fun q z => by unfold RF; omega)
  have K1' := K1
  obtain ⟨g, m, y, k, G, st⟩ := K1
  have hkn := st.2.2.2.2.2.2.2.1
  have tw0 := tw
  obtain ⟨c, bc, ec⟩ := tw
  obtain ⟨f, ef, vf⟩ := id bc
  have cw : ∀ j, j < w.length → c j = gb w j := fun j hj => gb_w ec hj
  have hK2 : ∀ i, i < kn → kty (kf i) < 128 := fun i hi => by
    have := (KI_sh (hKI i hi)).2.2.1; omega
  refine vm_Th (lv' := [(0, .ref a), (1, .int (iZ z)), (2, .int (nI w.length))]) (h' := h1) rfl rfl ?_
  have bad : ¬ (tot (gb w) w.length 3 = 1 ∧ 1 ≤ z ∧ z ≤ 8) → vm_T (vm_env l O f9) mX14_issueMany 0 0 29 [(0, .ref a), (1, .int (iZ z)), (2, .int (nI w.length))] [] h1 Q := fun n => by
    have e9 : fIM t.2.2.1 t.2.2.2 z w kn kf ou = (-2, ou) := by unfold fIM; rw [if_neg n]
    rw [e9] at hQ
    exact vm_go rfl bX14_issueManyx_29 oX14_issueManyx_29 (hQ _ _ ⟨rfl, K1', F1'⟩)
  refine vm_go rfl bX14_issueManyx_5 oX14_issueManyx_5 ⟨fun q => bad (fun z9 => absurd ((cz_lt (n := 1) hz (by decide)).mp q) (by omega)), fun q1 => ⟨fun q => bad (fun z9 => absurd ((cz_gt (n := 8) hz (by decide)).mp q) (by omega)), fun q2 => ⟨fun q => bad (fun z9 => ?_), fun q3 => ⟨_, k.1.1, 0, 0, _, rm_isType (ty := 1) (by decide) k bc, Nat.zero_le _, Nat.zero_le _, ?_⟩⟩⟩⟩
  · have q : nI w.length < nI 3 := q
    rw [nI_ltI (by omega) (by decide)] at q
    have := z9.1
    unfold tot at this
    rw [if_pos (.inl q)] at this
    omega
  have z1 : 1 ≤ z := by
    have : ¬ z < (1 : Nat) := fun z9 => q1 ((cz_lt (n := 1) hz (by decide)).mpr z9)
    omega
  have z8 : z ≤ 8 := by
    have : ¬ z > (8 : Nat) := fun z9 => q2 ((cz_gt (n := 8) hz (by decide)).mpr z9)
    omega
  have q3 : ¬ nI w.length < nI 3 := q3
  rw [nI_ltI (by omega) (by decide)] at q3
  rintro _ h2 ⟨⟨ok, rfl, hok⟩, eh2⟩
  rw [eh2]; clear eh2 h2
  have et : tot (gb w) w.length 3 = 1 ↔ ok = true := by
    rw [hok]
    unfold tot
    rw [← cw 0 (by omega), ← cw 1 (by omega)]
    by_cases c0 : c 0 = 0
    · rw [if_neg (by omega)]
      by_cases c1 : c 1 = 1 ∨ c 1 = 2
      · rw [if_pos c1]; omega
      · rw [if_neg c1]; omega
    · rw [if_pos (.inr c0)]; omega
  cases ok with
  | false => exact ⟨fun q => absurd rfl q, fun _ => bad (fun z9 => nomatch et.mp z9.1)⟩
  | true =>
  refine ⟨fun _ => ?_, fun q => absurd q (by decide)⟩
  have e9 : fIM t.2.2.1 t.2.2.2 z w kn kf ou = (match fnd kf kn 1 (gb w 2) with | none => (-3, ou) | some i => if w.length = 3 + 49 * z.toNat + 48 then fGv t.2.2.1 t.2.2.2 (kf i) w z.toNat ou else (-2, ou)) := by
    unfold fIM
    rw [if_pos ⟨et.mpr rfl, z1, z8⟩]
    cases fnd kf kn 1 (gb w 2) <;> rfl
  have v2 := vf 2 (by decide)
  have e2 : c 2 = gb w 2 := cw 2 (by omega)
  refine vm_go rfl bX14_issueManyx_32 oX14_issueManyx_32 ⟨_, _, k.1.1, rfl, ⟨1208, f, ef, 2, rfl, by decide, fun _ => ?_⟩⟩
  rw [v2.1, e2]
  refine ⟨_, k.1.1, 0, 0, _, rm_keyOf (ty := 1) (by decide) (by rw [← e2]; exact v2.2) hK2 k G.2.1 st.1 hkn, Nat.zero_le _, Nat.zero_le _, ?_⟩
  rintro _ h2 ⟨⟨v, rfl, hv⟩, eh2⟩
  rw [eh2]; clear eh2 h2
  refine vm_Th (lv' := [(0, .ref a), (1, .int (iZ z)), (2, .int (nI w.length)), (3, .int v)]) (h' := h1) rfl rfl ?_
  rcases hv with ⟨ev, en⟩ | ⟨i, hi, ev, es, ht⟩
  · rw [en] at e9
    rw [e9] at hQ
    rw [ev]
    exact vm_go rfl bX14_issueManyx_44 oX14_issueManyx_44 ⟨fun q => absurd q (by decide), fun _ => hQ _ _ ⟨rfl, K1', F1'⟩⟩
  rw [es] at e9
  have e9 : fIM t.2.2.1 t.2.2.2 z w kn kf ou = if w.length = 3 + 49 * z.toNat + 48 then fGv t.2.2.1 t.2.2.2 (kf i) w z.toNat ou else (-2, ou) := e9
  rw [ev]
  refine vm_go rfl bX14_issueManyx_44 oX14_issueManyx_44 ⟨fun _ => ?_, fun q => absurd (show nI i ≥ 0 from nI_le (a := 0) (Nat.zero_le _) (by omega)) q⟩
  obtain ⟨n, en⟩ : ∃ n, z.toNat = n := ⟨_, rfl⟩
  have ez : iZ z = nI n := by rw [iZ_tn (by omega), en]
  rw [en] at e9
  rw [ez]
  have eL : (3 : Int32) + 49 * nI n + 48 = nI (3 + 49 * n + 48) := by
    rw [show (49 : Int32) * nI n = nI (49 * n) from nI_mul 49 n, show (3 : Int32) + nI (49 * n) = nI (3 + 49 * n) from nI_add 3 _]
    exact nI_add _ 48
  by_cases hl : w.length = 3 + 49 * n + 48
  case neg =>
    rw [if_neg hl] at e9
    rw [e9] at hQ
    refine vm_go rfl bX14_issueManyx_51 oX14_issueManyx_51 ⟨fun q => ?_, fun _ => hQ _ _ ⟨rfl, K1', F1'⟩⟩
    have q : nI w.length = 3 + 49 * nI n + 48 := q
    rw [eL, nI_ij (by omega) (by omega)] at q
    exact absurd q hl
  rw [if_pos hl] at e9
  rw [e9] at hQ
  refine vm_go rfl bX14_issueManyx_51 oX14_issueManyx_51 ⟨fun _ => ?_, fun q => absurd (show nI w.length = 3 + 49 * nI n + 48 by rw [eL, hl]) q⟩
  refine vm_go rfl bX14_issueManyx_67 oX14_issueManyx_67 ⟨_, k.1.1, 0, 0, _, rp_gives (n := n) h9 k G st tw0 wl9 hi ht (hKI i hi) (by omega) (by omega) hl, Nat.zero_le _, Nat.zero_le _, ?_⟩
  rintro _ h5 ⟨rfl, k5, F5⟩
  exact hQ _ _ ⟨rfl, k5, fr_trans F1' F5⟩
end
