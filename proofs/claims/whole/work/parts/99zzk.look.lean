/-! the reference: retire, look, digest -/
def bX14_lookx_0 : List vm_J := [(1, .aload_n 0, 0, 0, 0, .null), (1, .iconst 0, 0, 0, 0, .int 0), (3, .putfield 1, 14, 0, 0, .null)]
set_option maxRecDepth 20000 in
theorem oX14_lookx_0 : vm_okB 14 mX14_look 0 bX14_lookx_0 = true := by decide +kernel
def bX14_lookx_5 : List vm_J := [(1, .aload_n 0, 0, 0, 0, .null), (1, .iload_n 1, 0, 0, 0, .null), (3, .invokevirtual 594, 210, 1, 14, .null), (3, .ifCond .ne 12, 22, 0, 0, .null), (1, .iload_n 2, 0, 0, 0, .null), (3, .ifCond .lt 8, 22, 0, 0, .null), (1, .iload_n 2, 0, 0, 0, .null), (1, .iconst 4, 0, 0, 0, .int 4), (3, .if_icmp .le 10, 29, 0, 0, .null)]
set_option maxRecDepth 20000 in
theorem oX14_lookx_5 : vm_okB 14 mX14_look 5 bX14_lookx_5 = true := by decide +kernel
def bX14_lookx_22 : List vm_J := [(1, .aload_n 0, 0, 0, 0, .null), (1, .iconst 1, 0, 0, 0, .int 1), (3, .putfield 1, 14, 0, 0, .null)]
set_option maxRecDepth 20000 in
theorem oX14_lookx_22 : vm_okB 14 mX14_look 22 bX14_lookx_22 = true := by decide +kernel
def bX14_lookx_27 : List vm_J := [(1, .iconst 0, 0, 0, 0, .int 0), (1, .ireturn, 0, 0, 0, .null)]
set_option maxRecDepth 20000 in
theorem oX14_lookx_27 : vm_okB 14 mX14_look 27 bX14_lookx_27 = true := by decide +kernel
def bX14_lookx_29 : List vm_J := [(1, .iload_n 2, 0, 0, 0, .null), (30, .tableswitch 206 0 3 #[30, 70, 184, 191], 0, 0, 0, .null)]
set_option maxRecDepth 20000 in
theorem oX14_lookx_29 : vm_okB 14 mX14_look 29 bX14_lookx_29 = true := by decide +kernel
def bX14_lookx_60 : List vm_J := [(1, .iconst 0, 0, 0, 0, .int 0), (1, .istore_n 3, 0, 0, 0, .null)]
set_option maxRecDepth 20000 in
theorem oX14_lookx_60 : vm_okB 14 mX14_look 60 bX14_lookx_60 = true := by decide +kernel
def bX14_lookx_62 : List vm_J := [(1, .iload_n 3, 0, 0, 0, .null), (2, .bipush 32, 0, 0, 0, .int 32), (3, .if_icmp .ge 26, 91, 0, 0, .null), (1, .aload_n 0, 0, 0, 0, .null), (3, .getfield 495, 14, 76, 0, .null), (1, .iload_n 3, 0, 0, 0, .null), (1, .aload_n 0, 0, 0, 0, .null), (3, .getfield 457, 14, 56, 0, .null), (2, .bipush 32, 0, 0, 0, .int 32), (1, .iload_n 1, 0, 0, 0, .null), (1, .imul, 0, 0, 0, .null), (1, .iload_n 3, 0, 0, 0, .null), (1, .iadd, 0, 0, 0, .null), (1, .baload, 0, 0, 0, .null), (1, .bastore, 0, 0, 0, .null)]
set_option maxRecDepth 20000 in
theorem oX14_lookx_62 : vm_okB 14 mX14_look 62 bX14_lookx_62 = true := by decide +kernel
def bX14_lookx_85 : List vm_J := [(3, .iinc 3 1, 0, 0, 0, .int 1), (3, .goto (-26), 62, 0, 0, .null)]
set_option maxRecDepth 20000 in
theorem oX14_lookx_85 : vm_okB 14 mX14_look 85 bX14_lookx_85 = true := by decide +kernel
def bX14_lookx_91 : List vm_J := [(1, .aload_n 0, 0, 0, 0, .null), (2, .bipush 32, 0, 0, 0, .int 32), (3, .putfield 564, 14, 77, 0, .null)]
set_option maxRecDepth 20000 in
theorem oX14_lookx_91 : vm_okB 14 mX14_look 91 bX14_lookx_91 = true := by decide +kernel
def bX14_lookx_97 : List vm_J := [(2, .bipush 32, 0, 0, 0, .int 32), (1, .ireturn, 0, 0, 0, .null)]
set_option maxRecDepth 20000 in
theorem oX14_lookx_97 : vm_okB 14 mX14_look 97 bX14_lookx_97 = true := by decide +kernel
def bX14_lookx_100 : List vm_J := [(1, .aload_n 0, 0, 0, 0, .null), (3, .getfield 450, 14, 54, 0, .null), (1, .iload_n 1, 0, 0, 0, .null), (1, .iaload, 0, 0, 0, .null), (1, .iconst 1, 0, 0, 0, .int 1), (3, .if_icmp .ne 26, 133, 0, 0, .null), (1, .aload_n 0, 0, 0, 0, .null), (3, .getfield 416, 14, 58, 0, .null), (1, .iload_n 1, 0, 0, 0, .null), (1, .aaload, 0, 0, 0, .null), (1, .aload_n 0, 0, 0, 0, .null), (3, .getfield 495, 14, 76, 0, .null), (1, .iconst 0, 0, 0, 0, .int 0), (3, .invokestatic 363, 163, 3, 0, .null), (1, .aload_n 0, 0, 0, 0, .null), (2, .bipush 49, 0, 0, 0, .int 49), (3, .putfield 564, 14, 77, 0, .null)]
set_option maxRecDepth 20000 in
theorem oX14_lookx_100 : vm_okB 14 mX14_look 100 bX14_lookx_100 = true := by decide +kernel
def bX14_lookx_130 : List vm_J := [(3, .goto 79, 209, 0, 0, .null)]
set_option maxRecDepth 20000 in
theorem oX14_lookx_130 : vm_okB 14 mX14_look 130 bX14_lookx_130 = true := by decide +kernel
def bX14_lookx_133 : List vm_J := [(1, .aload_n 0, 0, 0, 0, .null), (3, .getfield 461, 14, 59, 0, .null), (1, .iload_n 1, 0, 0, 0, .null), (1, .aaload, 0, 0, 0, .null), (3, .getfield 22, 12, 0, 0, .null), (1, .aload_n 0, 0, 0, 0, .null), (3, .getfield 495, 14, 76, 0, .null), (1, .iconst 0, 0, 0, 0, .int 0), (1, .aload_n 0, 0, 0, 0, .null), (3, .getfield 468, 14, 61, 0, .null), (1, .iload_n 1, 0, 0, 0, .null), (1, .iaload, 0, 0, 0, .null), (3, .invokestatic 192, 156, 4, 0, .null), (1, .iconst 0, 0, 0, 0, .int 0), (1, .istore_n 3, 0, 0, 0, .null)]
set_option maxRecDepth 20000 in
theorem oX14_lookx_133 : vm_okB 14 mX14_look 133 bX14_lookx_133 = true := by decide +kernel
def bX14_lookx_158 : List vm_J := [(1, .iload_n 3, 0, 0, 0, .null), (1, .iconst 3, 0, 0, 0, .int 3), (3, .if_icmp .ge 37, 197, 0, 0, .null), (1, .aload_n 0, 0, 0, 0, .null), (3, .getfield 495, 14, 76, 0, .null), (1, .aload_n 0, 0, 0, 0, .null), (3, .getfield 468, 14, 61, 0, .null), (1, .iload_n 1, 0, 0, 0, .null), (1, .iaload, 0, 0, 0, .null), (1, .iload_n 3, 0, 0, 0, .null), (1, .iadd, 0, 0, 0, .null), (1, .aload_n 0, 0, 0, 0, .null), (3, .getfield 465, 14, 60, 0, .null), (1, .iload_n 1, 0, 0, 0, .null), (1, .iaload, 0, 0, 0, .null), (2, .bipush 16, 0, 0, 0, .int 16), (2, .bipush 8, 0, 0, 0, .int 8), (1, .iload_n 3, 0, 0, 0, .null), (1, .imul, 0, 0, 0, .null), (1, .isub, 0, 0, 0, .null), (1, .ishr, 0, 0, 0, .null), (1, .i2b, 0, 0, 0, .null), (1, .bastore, 0, 0, 0, .null)]
set_option maxRecDepth 20000 in
theorem oX14_lookx_158 : vm_okB 14 mX14_look 158 bX14_lookx_158 = true := by decide +kernel
def bX14_lookx_191 : List vm_J := [(3, .iinc 3 1, 0, 0, 0, .int 1), (3, .goto (-36), 158, 0, 0, .null)]
set_option maxRecDepth 20000 in
theorem oX14_lookx_191 : vm_okB 14 mX14_look 191 bX14_lookx_191 = true := by decide +kernel
def bX14_lookx_197 : List vm_J := [(1, .aload_n 0, 0, 0, 0, .null), (1, .aload_n 0, 0, 0, 0, .null), (3, .getfield 468, 14, 61, 0, .null), (1, .iload_n 1, 0, 0, 0, .null), (1, .iaload, 0, 0, 0, .null), (1, .iconst 3, 0, 0, 0, .int 3), (1, .iadd, 0, 0, 0, .null), (3, .putfield 564, 14, 77, 0, .null)]
set_option maxRecDepth 20000 in
theorem oX14_lookx_197 : vm_okB 14 mX14_look 197 bX14_lookx_197 = true := by decide +kernel
def bX14_lookx_209 : List vm_J := [(1, .aload_n 0, 0, 0, 0, .null), (3, .getfield 564, 14, 77, 0, .null), (1, .ireturn, 0, 0, 0, .null)]
set_option maxRecDepth 20000 in
theorem oX14_lookx_209 : vm_okB 14 mX14_look 209 bX14_lookx_209 = true := by decide +kernel
def bX14_lookx_214 : List vm_J := [(1, .aload_n 0, 0, 0, 0, .null), (3, .getfield 450, 14, 54, 0, .null), (1, .iload_n 1, 0, 0, 0, .null), (1, .iaload, 0, 0, 0, .null), (1, .ireturn, 0, 0, 0, .null)]
set_option maxRecDepth 20000 in
theorem oX14_lookx_214 : vm_okB 14 mX14_look 214 bX14_lookx_214 = true := by decide +kernel
def bX14_lookx_221 : List vm_J := [(1, .aload_n 0, 0, 0, 0, .null), (3, .getfield 453, 14, 55, 0, .null), (1, .iload_n 1, 0, 0, 0, .null), (1, .baload, 1, 0, 0, .null), (3, .ifCond .eq 7, 234, 0, 0, .null), (1, .iconst 1, 0, 0, 0, .int 1), (3, .goto 4, 235, 0, 0, .null)]
set_option maxRecDepth 20000 in
theorem oX14_lookx_221 : vm_okB 14 mX14_look 221 bX14_lookx_221 = true := by decide +kernel
def bX14_lookx_234 : List vm_J := [(1, .iconst 0, 0, 0, 0, .int 0)]
set_option maxRecDepth 20000 in
theorem oX14_lookx_234 : vm_okB 14 mX14_look 234 bX14_lookx_234 = true := by decide +kernel
def bX14_lookx_235 : List vm_J := [(1, .ireturn, 0, 0, 0, .null)]
set_option maxRecDepth 20000 in
theorem oX14_lookx_235 : vm_okB 14 mX14_look 235 bX14_lookx_235 = true := by decide +kernel
def bX14_lookx_236 : List vm_J := [(1, .aload_n 0, 0, 0, 0, .null), (3, .getfield 468, 14, 61, 0, .null), (1, .iload_n 1, 0, 0, 0, .null), (1, .iaload, 0, 0, 0, .null), (1, .ireturn, 0, 0, 0, .null)]
set_option maxRecDepth 20000 in
theorem oX14_lookx_236 : vm_okB 14 mX14_look 236 bX14_lookx_236 = true := by decide +kernel
theorem va_e {f : Nat → Option Nat} {k X : Nat} (e : f k = some X) : va_rf (f k) = .ref X := by rw [e]; rfl
theorem look_sh {e j : Nat} (he : e ≤ 65537) (hj : j < 3) : (nI e >>> (((16 : Int32) - 8 * nI j) &&& 31)).toInt8.toInt32 = sb (e / 256 ^ (2 - j) % 256) := by
  have q : ∀ k, k < 3 → (16 : Int32) - 8 * nI k = 8 * nI (2 - k) := by decide
  rw [q j hj]
  have := ib_sh (z := (e : Int)) (by omega) (by omega) (i := 2 - j) (by omega)
  rw [show ib (e : Int) (2 - j) = e / 256 ^ (2 - j) % 256 from ?_] at this
  · exact this
  · unfold ib
    have h9 : ((256 : Int) ^ (2 - j)) = ((256 ^ (2 - j) : Nat) : Int) := by rw [Int.natCast_pow]; rfl
    rw [h9]
    omega
theorem dk9_n (x : aK) : kty (dk9 x) = kty x ∧ ksz (dk9 x) = ksz x ∧ ksa (dk9 x) = ksa x ∧ ksh (dk9 x) = ksh x ∧ kse (dk9 x) = kse x ∧ kid (dk9 x) = kid x ∧ klv (dk9 x) = false := ⟨rfl, rfl, rfl, rfl, rfl, rfl, rfl⟩
theorem KR_e {h : vm_H} {a i : Nat} {x y : aK} (k : KR h a i x) (e1 : kty y = kty x) (e2 : ksz y = ksz x) (e3 : ksh y = ksh x) (e4 : kse y = kse x) : KR h a i y := by
  unfold KR
  rw [e1, e2, e3, e4]; exact k
section
variable {l : Launch} {O : Nat → vm_Ob} {f9 : Value} {h h' : vm_H} {a kn an rd wr : Nat} {t : KT} {g g' : Nat → Int32} {m y w ou : List Nat} {kf : Nat → aK} {af : Nat → aA} {D : Nat → Nat} {dn : Bool} {wl : Int} {th : Int32}
theorem SK_lv {i : Nat} {f' : Nat → Int32} (k : SK h a kn kf) (hn : kn ≤ 6) (F : fr h h' (fun q => q = a + 74)) (r : bo9 h' 6 (a + 74) f') (hf : ∀ j, j < kn → f' j = bi (klv (fu kf i (dk9 (kf i)) j))) : SK h' a kn (fu kf i (dk9 (kf i))) := by
  obtain ⟨⟨f1, k1, v1⟩, k2, ⟨f3, k3, v3⟩, k4, k5, k6, ⟨f7, k7, v7⟩, ⟨f8, k8, v8⟩, ⟨f9, k9, v9⟩, k10, k11⟩ := k
  have e : ∀ q, q ≠ a + 74 → h'.2 q = h.2 q := fun q z => F.2 q z
  have g9 : ∀ j, kty (fu kf i (dk9 (kf i)) j) = kty (kf j) ∧ ksz (fu kf i (dk9 (kf i)) j) = ksz (kf j) ∧ ksa (fu kf i (dk9 (kf i)) j) = ksa (kf j) ∧ ksh (fu kf i (dk9 (kf i)) j) = ksh (kf j) ∧ kse (fu kf i (dk9 (kf i)) j) = kse (kf j) ∧ kid (fu kf i (dk9 (kf i)) j) = kid (kf j) := fun j => by
    by_cases e9 : j = i
    · rw [e9, fu_e]
      exact ⟨rfl, rfl, rfl, rfl, rfl, rfl⟩
    · rw [fu_n e9]
      exact ⟨rfl, rfl, rfl, rfl, rfl, rfl⟩
  refine ⟨⟨f1, ia_cg9 k1 (e _ (by omega)), fun j hj => by rw [(g9 j).1]; exact v1 j hj⟩, ⟨f', r, hf⟩, ⟨f3, bv_cg k3 (e _ (by omega)), fun j hj => by rw [(g9 j).2.2.2.2.2]; exact v3 j hj⟩, rr9_cg k4 (e _ (by omega)), rr9_cg k5 (e _ (by omega)), rr9_cg k6 (e _ (by omega)), ⟨f7, ia_cg9 k7 (e _ (by omega)), fun j hj h2 => by
    rw [(g9 j).2.2.2.1, (g9 j).2.1]; rw [(g9 j).1] at h2; exact v7 j hj h2⟩, ⟨f8, ia_cg9 k8 (e _ (by omega)), fun j hj => by rw [(g9 j).2.1]; exact v8 j hj⟩, ⟨f9, ia_cg9 k9 (e _ (by omega)), fun j hj h2 => by
    rw [(g9 j).2.2.1]; rw [(g9 j).1] at h2; exact v9 j hj h2⟩, fun j hj => ?_, fun j hj => ?_⟩
  · obtain ⟨q1, q2, q3⟩ := k10 j hj
    exact ⟨iw_cg q1 (e _ (by omega)), SQ_cg q2 (fun q z1 z2 => e _ (by omega)), MQ9_cg q3 (fun q z1 z2 => e _ (by omega))⟩
  · exact KR_e (KR_cg (k11 j hj) (e _ (by omega)) (fun q z1 z2 => e _ (by omega))) (g9 j).1 (g9 j).2.1 (g9 j).2.2.2.1 (g9 j).2.2.2.2.1
theorem rm_noKey {z : Int} {w9 : List Nat} (hz : i32 z) (hkn : kn ≤ 6) (k : SY h a t g w9 m y) (G : g 63 = nI kn) : vm_Met (vm_env l O f9) mX14_noKey 0 0 [.ref a, .int (iZ z)] h (fun r h' => (∃ ok : Bool, r = some (.int (bi ok)) ∧ (ok = true ↔ ¬ (0 ≤ z ∧ z < (kn : Int)))) ∧ h' = h) := by
  suffices H : ∀ Q : Option Value → vm_H → Prop, (∀ ok : Bool, (ok = true ↔ ¬ (0 ≤ z ∧ z < (kn : Int))) → Q (some (.int (bi ok))) h) → vm_Met (vm_env l O f9) mX14_noKey 0 0 [.ref a, .int (iZ z)] h Q from H _ (fun ok e => ⟨⟨ok, rfl, e⟩, rfl⟩)
  intro Q hQ
  refine vm_met rfl (Nat.le_of_ble_eq_true rfl) ?_
  have yes : ¬ (0 ≤ z ∧ z < (kn : Int)) → vm_T (vm_env l O f9) mX14_noKey 0 0 12 [(0, .ref a), (1, .int (iZ z))] [] h Q := fun n => vm_go rfl bX14_noKey_12 oX14_noKey_12 (vm_go rfl bX14_noKey_17 oX14_noKey_17 ⟨rfl, hQ true ⟨fun _ => n, fun _ => rfl⟩⟩)
  refine vm_go rfl bX14_noKey_0 oX14_noKey_0 ⟨fun q => yes (fun c => absurd ((iZ_lt0 hz).mp q) (by omega)), fun q1 => ⟨_, _, k.1.1, rfl, ⟨fun q => ?_, fun q => yes (fun c => q ?_)⟩⟩⟩
  · have q : iZ z < g 63 := q
    have q1 : ¬ iZ z < 0 := q1
    rw [G, cz_lt hz (by omega)] at q
    rw [iZ_lt0 hz] at q1
    exact vm_go rfl bX14_noKey_16 oX14_noKey_16 (vm_go rfl bX14_noKey_17 oX14_noKey_17 ⟨rfl, hQ false ⟨fun y => (nomatch y), fun n => absurd ⟨by omega, q⟩ n⟩⟩)
  · show iZ z < g 63
    rw [G, cz_lt hz (by omega)]; exact c.2

theorem SA_kf {kf' : Nat → aK} (k : SA h a an kn af kf) (e : ∀ j, j < kn → kty (kf' j) = kty (kf j) ∧ ksz (kf' j) = ksz (kf j)) : SA h a an kn af kf' := by
  obtain ⟨k1, k2, k3, k4, k5, k6⟩ := k
  refine ⟨k1, k2, k3, k4, k5, fun i hi => ?_⟩
  obtain ⟨q1, q2⟩ := k6 i hi
  refine ⟨q1, ?_⟩
  unfold nlm at q2 ⊢
  rw [(e _ q1).1, (e _ q1).2]; exact q2
theorem rp_retire {z : Int} (hz : i32 z) (K : RM h a t th w ou kn an rd kf af D dn wl wr) : vm_Met (vm_env l O f9) mX14_retire 0 0 [.ref a, .int (iZ z)] h (fun r h' => (∀ b kf', fRt kn kf z = some (b, kf') → r = some (.int (bi b)) ∧ RM h' a t 0 w ou kn an rd kf' af D dn wl wr) ∧ (fRt kn kf z = none → (∃ v, r = some (.int v)) ∧ RM h' a t 1 w ou kn an rd kf af D dn wl wr) ∧ fr h h' (RF a)) := by
  obtain ⟨g, m, y, k, G, st⟩ := K
  have ao := k.1.2.1
  have la : a < 1099511627776 := by omega
  refine vm_met rfl (Nat.le_of_ble_eq_true rfl) ?_
  refine vm_go rfl bX14_retirex_0 oX14_retirex_0 ⟨_, k.1.1, la, show 0 < 89 by decide, trivial, ?_⟩
  obtain ⟨h1, eh1⟩ : ∃ h1, h1 = vm_up h a (RO a (u3 (ug g 0 0) (nI ([] : List Nat).length) (nI m.length) (nI y.length))) := ⟨_, rfl⟩
  obtain ⟨k1, F1⟩ := SY_g k eh1
  have st1 := ST_fr st F1 (fun q z => by unfold scr; omega)
  have G1 := RG_th G
  have F1 : fr h h1 (RF a) := fr_mono F1 (fun q z => by unfold RF; omega)
  refine vm_Th (lv' := [(0, .ref a), (1, .int (iZ z))]) (h' := h1) rfl eh1 ?_
  have hkn := st1.2.2.2.2.2.2.2.1
  refine vm_go rfl bX14_retirex_5 oX14_retirex_5 ⟨_, k1.1.1, 0, 0, _, rm_noKey hz hkn k1 G1.2.1, Nat.zero_le _, Nat.zero_le _, ?_⟩
  rintro _ h2 ⟨⟨ok, rfl, hok⟩, e2⟩
  rw [e2]; clear e2 h2
  cases ok with
  | true =>
    have c := hok.mp rfl
    have ef : fRt kn kf z = none := if_neg c
    refine ⟨fun q => absurd q (by decide), fun _ => ⟨_, k1.1.1, la, show 0 < 89 by decide, trivial, ?_⟩⟩
    obtain ⟨h2, eh2⟩ : ∃ h2, h2 = vm_up h1 a (RO a (u3 (ug (ug g 0 0) 0 1) (nI ([] : List Nat).length) (nI m.length) (nI y.length))) := ⟨_, rfl⟩
    obtain ⟨k2, F2⟩ := SY_g k1 eh2
    refine vm_Th (lv' := [(0, .ref a), (1, .int (iZ z))]) (h' := h2) rfl eh2 ?_
    exact vm_go rfl bX14_retirex_18 oX14_retirex_18 ⟨rfl, fun b kf' e => (by rw [ef] at e; cases e), fun _ => ⟨⟨_, rfl⟩, _, _, _, k2, RG_t1 G1, ST_fr st1 F2 (fun q z => by unfold scr; omega)⟩, fr_trans F1 (fr_mono F2 (fun q z => by unfold RF; omega))⟩
  | false =>
    have c : 0 ≤ z ∧ z < (kn : Int) := Classical.not_not.mp (fun n => nomatch hok.mpr n)
    obtain ⟨i, ei⟩ : ∃ i, z.toNat = i := ⟨_, rfl⟩
    have ef : fRt kn kf z = some (klv (kf i), fu kf i (dk9 (kf i))) := by unfold fRt; rw [if_pos c, ei]
    have hi : i < kn := by omega
    obtain ⟨fl, el, vl⟩ := st1.1.2.1
    have l74 : a + 74 < 1099511627776 := by omega
    have ez : iZ z = nI i := by rw [iZ_tn c.1, ei]
    refine ⟨fun _ => ?_, fun q => absurd rfl q⟩
    refine vm_go rfl bX14_retirex_20 oX14_retirex_20 ⟨_, _, k1.1.1, rfl, ⟨6, fl, el, i, ez, by omega, fun _ => ?_⟩⟩
    rw [vl i hi]
    refine vm_Th (lv' := [(0, .ref a), (1, .int (iZ z)), (2, .int (bi (klv (kf i))))]) (h' := h1) rfl rfl ?_
    refine vm_go rfl bX14_retirex_27 oX14_retirex_27 ⟨_, _, k1.1.1, rfl, ⟨6, fl, el, l74, i, ez, by omega, ?_⟩⟩
    obtain ⟨h2, eh2⟩ : ∃ h2, h2 = vm_up h1 (a + 74) (.inl (.boolean, 6, .inl (upd fl i 0))) := ⟨_, rfl⟩
    have F2 : fr h1 h2 (fun q => q = a + 74) := eh2 ▸ fr_up rfl
    have r2 : bo9 h2 6 (a + 74) (upd fl i 0) := by rw [eh2]; exact vm_upe
    refine vm_Th (lv' := [(0, .ref a), (1, .int (iZ z)), (2, .int (bi (klv (kf i))))]) (h' := h2) rfl eh2 ?_
    have sk2 : SK h2 a kn (fu kf i (dk9 (kf i))) := SK_lv st1.1 hkn F2 r2 (fun j hj => by
      by_cases e9 : j = i
      · rw [e9, fu_e, upd_e]; rfl
      · rw [fu_n e9, upd_n e9]; exact vl j hj)
    have st2 : ST h2 a kn an (fu kf i (dk9 (kf i))) af D w ou := by
      obtain ⟨q1, q2, q3, q4, q5, q6⟩ := st1
      exact ⟨sk2, SA_kf (SA_cg q2 q6.2.2.2 (fun q z1 z2 => F2.2 q (by omega))) (fun j hj => by
        by_cases e9 : j = i
        · rw [e9, fu_e]; exact ⟨rfl, rfl⟩
        · rw [fu_n e9]; exact ⟨rfl, rfl⟩), bv_cg q3 (F2.2 _ (by omega)), rl9_cg q4 (F2.2 _ (by omega)), rl9_cg q5 (F2.2 _ (by omega)), q6⟩
    refine vm_go rfl bX14_retirex_34 oX14_retirex_34 ⟨bi_if, fun b kf' e => ?_, fun e => (by rw [ef] at e; cases e), fr_trans F1 (fr_mono F2 (fun q z => by unfold RF; omega))⟩
    rw [ef] at e
    cases e
    exact ⟨rfl, _, _, _, SY_off k1 F2 (fun q z => by omega), G1, st2⟩
theorem rp_digest (K : RM h a t th w ou kn an rd kf af D dn wl wr) : vm_Met (vm_env l O f9) mX14_digest 0 0 [.ref a] h (fun r h' => r = some (.int (nI 32)) ∧ RM h' a t 0 [] (H2 t.1 t.2.1 w) kn an rd kf af D dn wl wr ∧ fr h h' (RF a)) := by
  have K0 := K
  obtain ⟨g0, m0, y0, k0, G0, st0⟩ := K
  have wl9 := st0.2.2.2.2.2.1
  have ao := k0.1.2.1
  have la : a < 1099511627776 := by omega
  have l154 : a + 154 < 1099511627776 := by omega
  refine vm_met rfl (Nat.le_of_ble_eq_true rfl) ?_
  refine vm_go rfl bX14_digestx_0 oX14_digestx_0 ⟨_, k0.1.1, 0, 0, _, rp_used K0, Nat.zero_le _, Nat.zero_le _, ?_⟩
  rintro _ h1 ⟨rfl, ⟨g, m, y, k, G, st⟩, tw, F1⟩
  refine vm_Th (lv' := [(0, .ref a), (1, .int (nI w.length))]) (h' := h1) rfl rfl ?_
  refine vm_go rfl bX14_digestx_5 oX14_digestx_5 ⟨_, k.1.1, la, show 19 < 89 by decide, trivial, ?_⟩
  obtain ⟨h2, eh2⟩ : ∃ h2, h2 = vm_up h1 a (RO a (u3 g (nI ([] : List Nat).length) (nI m.length) (nI y.length))) := ⟨_, rfl⟩
  obtain ⟨k2, F2⟩ := SY_clr k eh2
  refine vm_Th (lv' := [(0, .ref a), (1, .int (nI w.length))]) (h' := h2) rfl eh2 ?_
  obtain ⟨ct, bt, et⟩ := rl9_cg tw (F2.2 (a + 153) (by omega))
  refine vm_go rfl bX14_digestx_10 oX14_digestx_10 ⟨_, _, k2.1.1, rfl, ⟨_, k2.1.1, 0, 0, _, rm_says (at9 := 0) (n := w.length) k2 bt (by omega) (by omega) (by decide) (by rw [List.length_nil]; omega), Nat.zero_le _, Nat.zero_le _, ?_⟩⟩
  rintro _ h3 ⟨rfl, k3, F3⟩
  rw [List.nil_append, et] at k3
  refine ⟨_, k3.1.1, 0, 0, _, rm_h2 k3 (by omega), Nat.zero_le _, Nat.zero_le _, ?_⟩
  rintro _ h4 ⟨rfl, k4, ⟨cd, bd, ed⟩, F4⟩
  have F14 : fr h1 h4 (fun q => q = a ∨ (a + 28 ≤ q ∧ q ≤ a + 33)) := fr_trans (fr_mono F2 (fun q z => by omega)) (fr_trans (fr_mono F3 (fun q z => by omega)) F4)
  have st4 := ST_fr st F14 (fun q z => by unfold scr; omega)
  have FF : fr h h4 (RF a) := fr_trans (fr_mono F1 (fun q z => by unfold RF; omega)) (fr_mono F14 (fun q z => by unfold RF; omega))
  obtain ⟨fd, efd, vfd⟩ := id bd
  obtain ⟨co, bo, _⟩ := st4.2.2.2.2.1
  refine vm_Th (lv' := [(0, .ref a), (1, .int (nI w.length)), (2, .int (nI 0))]) (h' := h4) rfl rfl ?_
  refine vm_loop (fun i h' => SY h' a t g [] m y ∧ (∃ c', bv h' 2900 (a + 154) c' ∧ ∀ j, j < i → c' (0 + j) = cd j) ∧ fr h4 h' (fun q => q = a + 154)) 32 (fun i => [(0, .ref a), (1, .int (nI w.length)), (2, .int (nI i))]) 0 h4 (Nat.zero_le _) ⟨k4, ⟨co, bo, fun j hj => by omega⟩, fr_refl⟩ ?_ ?_
  rotate_left
  · rintro i h7 _ hi ⟨k7, ⟨c7, ⟨f7, ef7, vf7⟩, v7⟩, F7⟩ ih
    have vs := vfd i (by omega)
    refine vm_go rfl bX14_digestx_26 oX14_digestx_26 ⟨fun q => absurd q (nI_ge (b := 32) hi (by decide)), fun _ => ⟨_, _, k7.1.1, rfl, ⟨_, _, k7.1.1, rfl, ⟨48, fd, (F7.2 _ (by omega)).trans efd, i, rfl, by omega, fun _ => ⟨2900, f7, ef7, l154, i, rfl, by omega, ?_⟩⟩⟩⟩⟩
    obtain ⟨h8, eh8⟩ : ∃ h8, h8 = vm_up h7 (a + 154) (.inl (.byte, 2900, .inl (upd f7 i (sb (cd i))))) := ⟨_, rfl⟩
    have F8 : fr h7 h8 (fun q => q = a + 154) := eh8 ▸ fr_up rfl
    have b8' : bv h8 2900 (a + 154) (b1 c7 i (cd i)) := eh8 ▸ bv_up vf7 vs.2
    refine vm_Th (lv' := [(0, .ref a), (1, .int (nI w.length)), (2, .int (nI i))]) (h' := h8) rfl (by rw [eh8, ← sb_self _ vs.2, ← vs.1]; rfl) ?_
    have b8' : bv h8 2900 (a + 154) (b1 c7 (0 + i) (cd i)) := by rw [Nat.zero_add]; exact b8'
    refine vm_go rfl bX14_digestx_44 oX14_digestx_44 (vm_Th (by rw [← nI_1 i]; rfl) rfl (ih h8 ⟨SY_off k7 F8 (fun q z => by omega), ⟨_, b8', bstp v7 rfl⟩, fr_trans F7 F8⟩))
  rintro h7 ⟨k7, ⟨c7, b7, v7⟩, F7⟩
  refine vm_go rfl bX14_digestx_26 oX14_digestx_26 ⟨fun _ => ?_, fun q => absurd (nI_le (a := 32) (b := 32) (by decide) (by decide)) q⟩
  refine vm_go rfl bX14_digestx_50 oX14_digestx_50 ⟨_, k7.1.1, la, show 77 < 89 by decide, trivial, ?_⟩
  obtain ⟨h8, eh8⟩ : ∃ h8, h8 = vm_up h7 a (RO a (u3 (ug g 77 (nI 32)) (nI ([] : List Nat).length) (nI m.length) (nI y.length))) := ⟨_, rfl⟩
  obtain ⟨k8, F8⟩ := SY_g k7 eh8
  refine vm_Th (lv' := [(0, .ref a), (1, .int (nI w.length)), (2, .int (nI 32))]) (h' := h8) rfl eh8 ?_
  have lh : (H2 t.1 t.2.1 w).length = 32 := sl_len
  have F78 : fr h4 h8 (fun q => q = a ∨ q = a + 154) := fr_trans (fr_mono F7 (fun q z => .inr z)) (fr_mono F8 (fun q z => .inl z))
  refine vm_go rfl bX14_digestx_56 oX14_digestx_56 ⟨rfl, ⟨_, _, _, k8, by rw [lh]; exact RG_ol G, ST_ou st4 F78 (fun q z => by unfold scr; omega) ⟨c7, bv_cg b7 (F8.2 _ (by omega)), ?_⟩ (by omega)⟩, fr_trans FF (fr_mono F78 (fun q z => by unfold RF; omega))⟩
  rw [lh, ← ed]
  exact sl_ext (fun j hj => by rw [v7 j hj, Nat.zero_add])
theorem KI_sh {x : aK} (ki : KI x) : ok8 (ksh x) ∧ (kid x).length = 32 ∧ (kty x = 1 ∨ kty x = 2) ∧ ksz x ≤ 256 := by
  obtain ⟨o1, o2, o3, l3, q | q⟩ := id ki
  · exact ⟨o1, l3, .inl q.1, by have := q.2.1; omega⟩
  · obtain ⟨n, N, e, d, t0, k⟩ := KI_2 ki q.1
    exact ⟨o1, l3, .inr q.1, k.1.2.1⟩
theorem rp_look {z y9 : Int} (hz : i32 z) (hy : i32 y9) (hKI : ∀ i, i < kn → KI (kf i)) (K : RM h a t th w ou kn an rd kf af D dn wl wr) : vm_Met (vm_env l O f9) mX14_look 0 0 [.ref a, .int (iZ z), .int (iZ y9)] h (fun r h' => (∀ v ou', fLk kn kf ou z y9 = some (v, ou') → r = some (.int v) ∧ RM h' a t 0 w ou' kn an rd kf af D dn wl wr) ∧ (fLk kn kf ou z y9 = none → (∃ v, r = some (.int v)) ∧ RM h' a t 1 w ou kn an rd kf af D dn wl wr) ∧ fr h h' (RF a)) := by
  obtain ⟨g, m, y, k, G, st⟩ := K
  have ao := k.1.2.1
  have la : a < 1099511627776 := by omega
  refine vm_met rfl (Nat.le_of_ble_eq_true rfl) ?_
  refine vm_go rfl bX14_lookx_0 oX14_lookx_0 ⟨_, k.1.1, la, show 0 < 89 by decide, trivial, ?_⟩
  obtain ⟨h1, eh1⟩ : ∃ h1, h1 = vm_up h a (RO a (u3 (ug g 0 0) (nI ([] : List Nat).length) (nI m.length) (nI y.length))) := ⟨_, rfl⟩
  obtain ⟨k1, F1⟩ := SY_g k eh1
  have st1 := ST_fr st F1 (fun q z => by unfold scr; omega)
  have G1 := RG_th G
  have F1 : fr h h1 (RF a) := fr_mono F1 (fun q z => by unfold RF; omega)
  refine vm_Th (lv' := [(0, .ref a), (1, .int (iZ z)), (2, .int (iZ y9))]) (h' := h1) rfl eh1 ?_
  have hkn := st1.2.2.2.2.2.2.2.1
  have bad : fLk kn kf ou z y9 = none → vm_T (vm_env l O f9) mX14_look 0 0 22 [(0, .ref a), (1, .int (iZ z)), (2, .int (iZ y9))] [] h1 (fun r h' => (∀ v ou', fLk kn kf ou z y9 = some (v, ou') → r = some (.int v) ∧ RM h' a t 0 w ou' kn an rd kf af D dn wl wr) ∧ (fLk kn kf ou z y9 = none → (∃ v, r = some (.int v)) ∧ RM h' a t 1 w ou kn an rd kf af D dn wl wr) ∧ fr h h' (RF a)) := fun ef => by
    refine vm_go rfl bX14_lookx_22 oX14_lookx_22 ⟨_, k1.1.1, la, show 0 < 89 by decide, trivial, ?_⟩
    obtain ⟨h2, eh2⟩ : ∃ h2, h2 = vm_up h1 a (RO a (u3 (ug (ug g 0 0) 0 1) (nI ([] : List Nat).length) (nI m.length) (nI y.length))) := ⟨_, rfl⟩
    obtain ⟨k2, F2⟩ := SY_g k1 eh2
    refine vm_Th (lv' := [(0, .ref a), (1, .int (iZ z)), (2, .int (iZ y9))]) (h' := h2) rfl eh2 ?_
    exact vm_go rfl bX14_lookx_27 oX14_lookx_27 ⟨fun v ou' e => (by rw [ef] at e; cases e), fun _ => ⟨⟨_, rfl⟩, _, _, _, k2, RG_t1 G1, ST_fr st1 F2 (fun q z => by unfold scr; omega)⟩, fr_trans F1 (fr_mono F2 (fun q z => by unfold RF; omega))⟩
  refine vm_go rfl bX14_lookx_5 oX14_lookx_5 ⟨_, k1.1.1, 0, 0, _, rm_noKey hz hkn k1 G1.2.1, Nat.zero_le _, Nat.zero_le _, ?_⟩
  rintro _ h2 ⟨⟨ok, rfl, hok⟩, e2⟩
  rw [e2]; clear e2 h2
  cases ok with
  | true =>
    have c := hok.mp rfl
    exact ⟨fun _ => bad (if_neg c), fun q => absurd q (by decide)⟩
  | false =>
  have c : 0 ≤ z ∧ z < (kn : Int) := Classical.not_not.mp (fun n => nomatch hok.mpr n)
  obtain ⟨i, ei⟩ : ∃ i, z.toNat = i := ⟨_, rfl⟩
  have ef : fLk kn kf ou z y9 = lkO (kf i) y9 ou := by unfold fLk; rw [if_pos c, ei]
  have hi : i < kn := by omega
  have ez : iZ z = nI i := by rw [iZ_tn c.1, ei]
  have no : ¬ (0 ≤ y9 ∧ y9 ≤ 4) → fLk kn kf ou z y9 = none := fun n => by
    rw [ef]; unfold lkO
    rw [if_neg (by omega), if_neg (by omega), if_neg (by omega), if_neg (by omega), if_neg (by omega)]
  refine ⟨fun q => absurd rfl q, fun _ => ⟨fun q => bad (no (fun n => absurd ((iZ_lt0 hy).mp q) (by omega))), fun q1 => ⟨fun q2 => ?_, fun q2 => bad (no (fun n => q2 ((cz_le (n := 4) hy (by decide)).mpr n.2)))⟩⟩⟩
  have q1 : ¬ iZ y9 < 0 := q1
  rw [iZ_lt0 hy] at q1
  have q2 : y9 ≤ 4 := (cz_le (n := 4) hy (by decide)).mp q2
  have ey := iZ_toInt hy.1 hy.2
  rw [ef]
  have ki := hKI i hi
  obtain ⟨osh, lid, hty, hsz⟩ := KI_sh ki
  have sk := st1.1
  have K1 : RM h1 a t 0 w ou kn an rd kf af D dn wl wr := ⟨_, _, _, k1, G1, st1⟩
  have fin : ∀ (v : Int32), lkO (kf i) y9 ou = some (v, ou) → ((∀ v' ou', lkO (kf i) y9 ou = some (v', ou') → some (Value.int v) = some (.int v') ∧ RM h1 a t 0 w ou' kn an rd kf af D dn wl wr) ∧ (lkO (kf i) y9 ou = none → (∃ v', some (Value.int v) = some (.int v')) ∧ RM h1 a t 1 w ou kn an rd kf af D dn wl wr) ∧ fr h h1 (RF a)) := fun v e => ⟨fun v' ou' e' => by
    rw [e] at e'
    cases e'
    exact ⟨rfl, K1⟩, fun e' => (by rw [e] at e'; cases e'), F1⟩
  have l154 : a + 154 < 1099511627776 := by omega
  obtain ⟨co, bo, eo⟩ := st1.2.2.2.2.1
  -- a new OUT
  have fin2 : ∀ (h9 : vm_H) (ou9 : List Nat), lkO (kf i) y9 ou = some (nI ou9.length, ou9) → SY h9 a t (ug (ug g 0 0) 77 (nI ou9.length)) [] m y → fr h1 h9 (fun q => q = a ∨ q = a + 154) → rl9 h9 2900 (a + 154) ou9 → ou9.length ≤ 2900 → ((∀ v' ou', lkO (kf i) y9 ou = some (v', ou') → some (Value.int (nI ou9.length)) = some (.int v') ∧ RM h9 a t 0 w ou' kn an rd kf af D dn wl wr) ∧ (lkO (kf i) y9 ou = none → (∃ v', some (Value.int (nI ou9.length)) = some (.int v')) ∧ RM h9 a t 1 w ou kn an rd kf af D dn wl wr) ∧ fr h h9 (RF a)) := fun h9 ou9 e k9 F9 r9 l9 => ⟨fun v' ou' e' => by
    rw [e] at e'
    cases e'
    exact ⟨rfl, _, _, _, k9, RG_ol G1, ST_ou st1 F9 (fun q z => by unfold scr; omega) r9 l9⟩, fun e' => (by rw [e] at e'; cases e'), fr_trans F1 (fr_mono F9 (fun q z => by unfold RF; omega))⟩
  rcases (show y9 = 0 ∨ y9 = 1 ∨ y9 = 2 ∨ y9 = 3 ∨ y9 = 4 by omega) with rfl | rfl | rfl | rfl | rfl
  · refine vm_go rfl bX14_lookx_29 oX14_lookx_29 ⟨60, Or.inr ⟨by rw [ey]; decide, by rw [ey]; decide, 30, by rw [ey]; rfl, rfl⟩, ?_⟩
    obtain ⟨cid, ⟨fid, eid, vid⟩, vc⟩ := sk.2.2.1
    refine vm_go rfl bX14_lookx_60 oX14_lookx_60 (vm_Th (lv' := [(0, .ref a), (1, .int (iZ z)), (2, .int (iZ 0)), (3, .int (nI 0))]) (h' := h1) rfl rfl ?_)
    refine vm_loop (fun j h' => SY h' a t (ug g 0 0) [] m y ∧ (∃ c', bv h' 2900 (a + 154) c' ∧ ∀ q, q < j → c' (0 + q) = cid (32 * i + q)) ∧ fr h1 h' (fun q => q = a + 154)) 32 (fun j => [(0, .ref a), (1, .int (iZ z)), (2, .int (iZ 0)), (3, .int (nI j))]) 0 h1 (Nat.zero_le _) ⟨k1, ⟨co, bo, fun j hj => by omega⟩, fr_refl⟩ ?_ ?_
    rotate_left
    · rintro j h7 _ hj ⟨k7, ⟨c7, ⟨f7, ef7, vf7⟩, v7⟩, F7⟩ ih
      have vs := vid (32 * i + j) (by omega)
      refine vm_go rfl bX14_lookx_62 oX14_lookx_62 ⟨fun q => absurd q (nI_ge (b := 32) hj (by decide)), fun _ => ⟨_, _, k7.1.1, rfl, ⟨_, _, k7.1.1, rfl, ⟨192, fid, (F7.2 _ (by omega)).trans eid, 32 * i + j, by rw [ez, ← nI_add, ← nI_mul]; rfl, by omega, fun _ => ⟨2900, f7, ef7, l154, j, rfl, by omega, ?_⟩⟩⟩⟩⟩
      obtain ⟨h8, eh8⟩ : ∃ h8, h8 = vm_up h7 (a + 154) (.inl (.byte, 2900, .inl (upd f7 j (sb (cid (32 * i + j)))))) := ⟨_, rfl⟩
      have F8 : fr h7 h8 (fun q => q = a + 154) := eh8 ▸ fr_up rfl
      have b8' : bv h8 2900 (a + 154) (b1 c7 j (cid (32 * i + j))) := eh8 ▸ bv_up vf7 vs.2
      refine vm_Th (lv' := [(0, .ref a), (1, .int (iZ z)), (2, .int (iZ 0)), (3, .int (nI j))]) (h' := h8) rfl (by rw [eh8, ← sb_self _ vs.2, ← vs.1]; rfl) ?_
      have b8' : bv h8 2900 (a + 154) (b1 c7 (0 + j) (cid (32 * i + j))) := by rw [Nat.zero_add]; exact b8'
      refine vm_go rfl bX14_lookx_85 oX14_lookx_85 (vm_Th (by rw [← nI_1 j]; rfl) rfl (ih h8 ⟨SY_off k7 F8 (fun q z => by omega), ⟨_, b8', bstp (v := fun q => cid (32 * i + q)) v7 rfl⟩, fr_trans F7 F8⟩))
    rintro h7 ⟨k7, ⟨c7, b7, v7⟩, F7⟩
    refine vm_go rfl bX14_lookx_62 oX14_lookx_62 ⟨fun _ => ?_, fun q => absurd (nI_le (a := 32) (b := 32) (by decide) (by decide)) q⟩
    refine vm_go rfl bX14_lookx_91 oX14_lookx_91 ⟨_, k7.1.1, la, show 77 < 89 by decide, trivial, ?_⟩
    obtain ⟨h8, eh8⟩ : ∃ h8, h8 = vm_up h7 a (RO a (u3 (ug (ug g 0 0) 77 (nI 32)) (nI ([] : List Nat).length) (nI m.length) (nI y.length))) := ⟨_, rfl⟩
    obtain ⟨k8, F8⟩ := SY_g k7 eh8
    refine vm_Th (lv' := [(0, .ref a), (1, .int (iZ z)), (2, .int (iZ 0)), (3, .int (nI 32))]) (h' := h8) rfl eh8 ?_
    have F78 : fr h1 h8 (fun q => q = a ∨ q = a + 154) := fr_trans (fr_mono F7 (fun q z => .inr z)) (fr_mono F8 (fun q z => .inl z))
    have r9 : rl9 h8 2900 (a + 154) (kid (kf i)) := ⟨c7, bv_cg b7 (F8.2 _ (by omega)), by
      rw [lid, ← vc i hi]
      exact sl_ext (fun q hq => by rw [v7 q hq])⟩
    rw [← lid] at k8
    have e9 := fin2 h8 (kid (kf i)) (by rw [lid]; rfl) k8 F78 r9 (by omega)
    rw [lid] at e9
    exact vm_go rfl bX14_lookx_97 oX14_lookx_97 e9
  · refine vm_go rfl bX14_lookx_29 oX14_lookx_29 ⟨100, Or.inr ⟨by rw [ey]; decide, by rw [ey]; decide, 70, by rw [ey]; rfl, rfl⟩, ?_⟩
    obtain ⟨f1, ef1, v1⟩ := sk.1
    rcases hty with ht | ht
    · obtain ⟨A, eA, _, sA⟩ := ((sk.2.2.2.2.2.2.2.2.2.2 i hi).1 ht).2
      obtain ⟨fp, efp, vp⟩ := sk.2.2.2.2.1
      refine vm_go rfl bX14_lookx_100 oX14_lookx_100 ⟨_, _, k1.1.1, rfl, ⟨6, f1, ef1, i, ez, by omega, fun _ => ?_⟩⟩
      rw [v1 i hi, ht]
      refine ⟨fun q => absurd rfl q, fun _ => ⟨_, _, k1.1.1, rfl, ⟨_, _, _, _, efp, by decide, rfl, i, ez, by omega, va_e (vp i (by omega)), ⟨_, _, k1.1.1, rfl, ⟨0, 0, _, rm_bytes (at9 := 0) sA bo l154 (by decide) (by decide), Nat.zero_le _, Nat.zero_le _, ?_⟩⟩⟩⟩⟩
      rintro _ h2 ⟨rfl, ⟨c2, b2, s2, _⟩, F2⟩
      have k2 := SY_off k1 F2 (fun q z => by omega)
      refine ⟨_, k2.1.1, la, show 77 < 89 by decide, trivial, ?_⟩
      obtain ⟨h8, eh8⟩ : ∃ h8, h8 = vm_up h2 a (RO a (u3 (ug (ug g 0 0) 77 (nI 49)) (nI ([] : List Nat).length) (nI m.length) (nI y.length))) := ⟨_, rfl⟩
      obtain ⟨k8, F8⟩ := SY_g k2 eh8
      refine vm_Th (lv' := [(0, .ref a), (1, .int (iZ z)), (2, .int (iZ 1))]) (h' := h8) rfl eh8 ?_
      have F78 : fr h1 h8 (fun q => q = a ∨ q = a + 154) := fr_trans (fr_mono F2 (fun q z => .inr z)) (fr_mono F8 (fun q z => .inl z))
      have lA : (ksh (kf i)).length = 49 := by rw [eA]; exact ptb_len
      have r9 : rl9 h8 2900 (a + 154) (ksh (kf i)) := ⟨c2, bv_cg b2 (F8.2 _ (by omega)), by rw [lA, s2, eA]⟩
      rw [← lA] at k8
      have e9 := fin2 h8 (ksh (kf i)) rfl k8 F78 r9 (by omega)
      refine vm_go rfl bX14_lookx_130 oX14_lookx_130 (vm_go rfl bX14_lookx_209 oX14_lookx_209 ⟨_, _, k8.1.1, rfl, ?_⟩)
      exact e9
    obtain ⟨n, N, e, d, t0, ⟨s1, s2, s3⟩, ⟨eN, ee, _, _⟩, _, _, ⟨e1, e2⟩, _, _, hN, _, _⟩ := KI_2 ki ht
    obtain ⟨sh, mh, _⟩ := (sk.2.2.2.2.2.2.2.2.2.2 i hi).2 ht
    obtain ⟨fm, efm, vm⟩ := sk.2.2.2.2.2.1
    obtain ⟨fl, efl, vl⟩ := sk.2.2.2.2.2.2.2.1
    obtain ⟨fe, efe, ve⟩ := sk.2.2.2.2.2.2.1
    have lsh : (ksh (kf i)).length = ksz (kf i) + 3 := by
      obtain ⟨o1, o2, o3, l3, q | q⟩ := id ki
      · have := q.1; omega
      · exact q.2.2.1
    refine vm_go rfl bX14_lookx_100 oX14_lookx_100 ⟨_, _, k1.1.1, rfl, ⟨6, f1, ef1, i, ez, by omega, fun _ => ?_⟩⟩
    rw [v1 i hi, ht]
    refine ⟨fun _ => ?_, fun q => absurd q (show ¬ nI 2 = 1 by decide)⟩
    refine vm_go rfl bX14_lookx_133 oX14_lookx_133 ⟨_, _, k1.1.1, rfl, ⟨_, _, _, _, efm, by decide, rfl, i, ez, by omega, va_e (vm i (by omega)), ⟨_, _, mh.1.1, rfl, ⟨_, _, k1.1.1, rfl, ⟨_, _, k1.1.1, rfl, ⟨6, fl, efl, i, ez, by omega, fun _ => ?_⟩⟩⟩⟩⟩⟩
    rw [vl i hi]
    refine ⟨0, 0, _, rm_store (at9 := 0) (size := ksz (kf i)) (n := (ksz (kf i) + 3) / 4) mh.1.2.1 (by omega) bo l154 (by omega) (by omega) (by omega) (by decide), Nat.zero_le _, Nat.zero_le _, ?_⟩
    rintro _ h2 ⟨rfl, ⟨c2, b2, s2', _⟩, F2⟩
    have k2 := SY_off k1 F2 (fun q z => by omega)
    refine vm_Th (lv' := [(0, .ref a), (1, .int (iZ z)), (2, .int (iZ 1)), (3, .int (nI 0))]) (h' := h2) rfl rfl ?_
    have g0 : sl c2 0 (ksz (kf i)) = sl (gb (ksh (kf i))) 0 (ksz (kf i)) := by
      rw [s2', bn_wb (fun j _ hj => ok8_gb osh _)]
    refine vm_loop (fun j h' => SY h' a t (ug g 0 0) [] m y ∧ (∃ c', bv h' 2900 (a + 154) c' ∧ (∀ q, q < j → c' (ksz (kf i) + q) = gb (ksh (kf i)) (ksz (kf i) + q)) ∧ ∀ q, q < ksz (kf i) → c' q = gb (ksh (kf i)) q) ∧ fr h1 h' (fun q => q = a + 154)) 3 (fun j => [(0, .ref a), (1, .int (iZ z)), (2, .int (iZ 1)), (3, .int (nI j))]) 0 h2 (Nat.zero_le _) ⟨k2, ⟨c2, b2, fun j hj => by omega, fun q hq => by
      have := sl_inj g0 q hq
      rw [Nat.zero_add] at this; exact this⟩, F2⟩ ?_ ?_
    rotate_left
    · rintro j h7 _ hj ⟨k7, ⟨c7, ⟨f7, ef7, vf7⟩, v7, w7⟩, F7⟩ ih
      refine vm_go rfl bX14_lookx_158 oX14_lookx_158 ⟨fun q => absurd q (nI_ge (b := 3) hj (by decide)), fun _ => ⟨_, _, k7.1.1, rfl, ⟨_, _, k7.1.1, rfl, ⟨6, fl, (F7.2 _ (by omega)).trans efl, i, ez, by omega, fun _ => ?_⟩⟩⟩⟩
      rw [vl i hi]
      refine ⟨_, _, k7.1.1, rfl, ⟨6, fe, (F7.2 _ (by omega)).trans efe, i, ez, by omega, fun _ => ?_⟩⟩
      rw [ve i hi ht, ← ee]
      refine ⟨2900, f7, ef7, l154, ksz (kf i) + j, by rw [← nI_add], by omega, ?_⟩
      have vs : (nI e >>> (((16 : Int32) - 8 * nI j) &&& 31)).toInt8.toInt32 = sb (gb (ksh (kf i)) (ksz (kf i) + j)) := by
        rw [look_sh e2 hj, ee]
        have := bn_dig (b := gb (ksh (kf i))) (at9 := ksz (kf i)) 3 (2 - j) (fun q _ hq => ok8_gb osh _) (by omega)
        rw [this]; congr 2; omega
      have lt9 : gb (ksh (kf i)) (ksz (kf i) + j) < 256 := ok8_gb osh _
      obtain ⟨h8, eh8⟩ : ∃ h8, h8 = vm_up h7 (a + 154) (.inl (.byte, 2900, .inl (upd f7 (ksz (kf i) + j) (sb (gb (ksh (kf i)) (ksz (kf i) + j)))))) := ⟨_, rfl⟩
      have F8 : fr h7 h8 (fun q => q = a + 154) := eh8 ▸ fr_up rfl
      have b8' : bv h8 2900 (a + 154) (b1 c7 (ksz (kf i) + j) (gb (ksh (kf i)) (ksz (kf i) + j))) := eh8 ▸ bv_up vf7 lt9
      refine vm_Th (lv' := [(0, .ref a), (1, .int (iZ z)), (2, .int (iZ 1)), (3, .int (nI j))]) (h' := h8) rfl (by rw [eh8, ← sb_self _ lt9, ← vs]; rfl) ?_
      refine vm_go rfl bX14_lookx_191 oX14_lookx_191 (vm_Th (by rw [← nI_1 j]; rfl) rfl (ih h8 ⟨SY_off k7 F8 (fun q z => by omega), ⟨_, b8', bstp (v := fun q => gb (ksh (kf i)) (ksz (kf i) + q)) v7 rfl, fun q hq => by
        unfold b1; rw [if_neg (by omega)]; exact w7 q hq⟩, fr_trans F7 F8⟩))
    rintro h7 ⟨k7, ⟨c7, b7, v7, w7⟩, F7⟩
    refine vm_go rfl bX14_lookx_158 oX14_lookx_158 ⟨fun _ => ?_, fun q => absurd (nI_le (a := 3) (b := 3) (by decide) (by decide)) q⟩
    refine vm_go rfl bX14_lookx_197 oX14_lookx_197 ⟨_, _, k7.1.1, rfl, ⟨6, fl, (F7.2 _ (by omega)).trans efl, i, ez, by omega, fun _ => ?_⟩⟩
    rw [vl i hi]
    refine ⟨_, k7.1.1, la, show 77 < 89 by decide, trivial, ?_⟩
    obtain ⟨h8, eh8⟩ : ∃ h8, h8 = vm_up h7 a (RO a (u3 (ug (ug g 0 0) 77 (nI (ksh (kf i)).length)) (nI ([] : List Nat).length) (nI m.length) (nI y.length))) := ⟨_, rfl⟩
    obtain ⟨k8, F8⟩ := SY_g k7 eh8
    refine vm_Th (lv' := [(0, .ref a), (1, .int (iZ z)), (2, .int (iZ 1)), (3, .int (nI 3))]) (h' := h8) rfl (by rw [eh8, lsh, ← nI_add]; rfl) ?_
    have F78 : fr h1 h8 (fun q => q = a ∨ q = a + 154) := fr_trans (fr_mono F7 (fun q z => .inr z)) (fr_mono F8 (fun q z => .inl z))
    have r9 : rl9 h8 2900 (a + 154) (ksh (kf i)) := ⟨c7, bv_cg b7 (F8.2 _ (by omega)), sl_of (fun j hj => by
      rw [Nat.zero_add]
      by_cases c9 : j < ksz (kf i)
      · exact w7 j c9
      · have := v7 (j - ksz (kf i)) (by omega)
        rw [show ksz (kf i) + (j - ksz (kf i)) = j by omega] at this; exact this)⟩
    have e9 := fin2 h8 (ksh (kf i)) rfl k8 F78 r9 (by omega)
    refine vm_go rfl bX14_lookx_209 oX14_lookx_209 ⟨_, _, k8.1.1, rfl, ?_⟩
    exact e9
  · refine vm_go rfl bX14_lookx_29 oX14_lookx_29 ⟨214, Or.inr ⟨by rw [ey]; decide, by rw [ey]; decide, 184, by rw [ey]; rfl, rfl⟩, ?_⟩
    obtain ⟨f1, ef1, v1⟩ := sk.1
    refine vm_go rfl bX14_lookx_214 oX14_lookx_214 ⟨_, _, k1.1.1, rfl, ⟨6, f1, ef1, i, ez, by omega, fun _ => ?_⟩⟩
    rw [v1 i hi]
    exact fin (nI (kty (kf i))) rfl
  · refine vm_go rfl bX14_lookx_29 oX14_lookx_29 ⟨221, Or.inr ⟨by rw [ey]; decide, by rw [ey]; decide, 191, by rw [ey]; rfl, rfl⟩, ?_⟩
    obtain ⟨f1, ef1, v1⟩ := sk.2.1
    refine vm_go rfl bX14_lookx_221 oX14_lookx_221 ⟨_, _, k1.1.1, rfl, ⟨6, f1, ef1, i, ez, by omega, fun _ => ?_⟩⟩
    rw [v1 i hi]
    have e9 := fin (bi (klv (kf i))) rfl
    cases c9 : klv (kf i) with
    | true =>
      rw [c9] at e9
      exact ⟨fun q => absurd q (by decide), fun _ => vm_go rfl bX14_lookx_235 oX14_lookx_235 e9⟩
    | false =>
      rw [c9] at e9
      exact ⟨fun _ => vm_go rfl bX14_lookx_234 oX14_lookx_234 (vm_go rfl bX14_lookx_235 oX14_lookx_235 e9), fun q => absurd rfl q⟩
  · refine vm_go rfl bX14_lookx_29 oX14_lookx_29 ⟨236, Or.inl ⟨by rw [ey]; decide, rfl⟩, ?_⟩
    obtain ⟨fl, efl, vl⟩ := sk.2.2.2.2.2.2.2.1
    refine vm_go rfl bX14_lookx_236 oX14_lookx_236 ⟨_, _, k1.1.1, rfl, ⟨6, fl, efl, i, ez, by omega, fun _ => ?_⟩⟩
    rw [vl i hi]
    exact fin (nI (ksz (kf i))) rfl
end
