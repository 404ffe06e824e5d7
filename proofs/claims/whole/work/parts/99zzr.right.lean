/-! the reference: isAsking, output, isRight, endsTwo -/
def bX14_outputx_0 : List vm_J := [(1, .aload_n 0, 0, 0, 0, .null), (1, .iconst 0, 0, 0, 0, .int 0), (3, .putfield 203, 14, 19, 0, .null)]
set_option maxRecDepth 20000 in
theorem oX14_outputx_0 : vm_okB 14 mX14_output 0 bX14_outputx_0 = true := by decide +kernel
def bX14_outputx_5 : List vm_J := [(1, .aload_n 0, 0, 0, 0, .null), (2, .bipush 98, 0, 0, 0, .int 98), (3, .invokevirtual 296, 167, 1, 14, .null), (1, .aload_n 0, 0, 0, 0, .null), (1, .aload_n 1, 0, 0, 0, .null), (1, .iload_n 2, 0, 0, 0, .null), (2, .bipush 98, 0, 0, 0, .int 98), (3, .invokevirtual 287, 166, 3, 14, .null), (1, .aload_n 0, 0, 0, 0, .null), (2, .bipush 49, 0, 0, 0, .int 49), (3, .invokevirtual 296, 167, 1, 14, .null), (1, .aload_n 3, 0, 0, 0, .null), (1, .aload_n 0, 0, 0, 0, .null), (3, .getfield 360, 14, 49, 0, .null), (1, .iconst 0, 0, 0, 0, .int 0), (3, .invokestatic 363, 163, 3, 0, .null), (1, .aload_n 0, 0, 0, 0, .null), (1, .aload_n 0, 0, 0, 0, .null), (3, .getfield 360, 14, 49, 0, .null), (1, .iconst 0, 0, 0, 0, .int 0), (2, .bipush 49, 0, 0, 0, .int 49), (3, .invokevirtual 287, 166, 3, 14, .null), (1, .aload_n 0, 0, 0, 0, .null)]
set_option maxRecDepth 20000 in
theorem oX14_outputx_5 : vm_okB 14 mX14_output 5 bX14_outputx_5 = true := by decide +kernel
def bX14_outputx_49 : List vm_J := [(3, .invokevirtual 222, 168, 1, 14, .null), (1, .aload_n 0, 0, 0, 0, .null), (3, .invokevirtual 302, 175, 0, 14, .null), (1, .return_, 0, 0, 0, .null)]
set_option maxRecDepth 20000 in
theorem oX14_outputx_49 : vm_okB 14 mX14_output 49 bX14_outputx_49 = true := by decide +kernel
def bX14_isRightx_0 : List vm_J := [(1, .aload_n 0, 0, 0, 0, .null), (3, .getfield 450, 14, 54, 0, .null), (1, .iload_n 1, 0, 0, 0, .null), (1, .iaload, 0, 0, 0, .null), (1, .iconst 2, 0, 0, 0, .int 2), (3, .if_icmp .ne 46, 53, 0, 0, .null), (1, .aload_n 0, 0, 0, 0, .null), (3, .getfield 492, 14, 74, 0, .null), (2, .bipush 98, 0, 0, 0, .int 98), (1, .aload_n 0, 0, 0, 0, .null), (3, .getfield 468, 14, 61, 0, .null), (1, .iload_n 1, 0, 0, 0, .null), (1, .iaload, 0, 0, 0, .null), (1, .aload_n 0, 0, 0, 0, .null), (3, .getfield 507, 14, 81, 0, .null), (1, .aload_n 0, 0, 0, 0, .null), (3, .getfield 461, 14, 59, 0, .null), (1, .iload_n 1, 0, 0, 0, .null), (1, .aaload, 0, 0, 0, .null), (3, .getfield 13, 12, 2, 0, .null), (3, .invokestatic 176, 155, 5, 0, .null), (1, .aload_n 0, 0, 0, 0, .null), (1, .iload_n 1, 0, 0, 0, .null), (1, .aload_n 0, 0, 0, 0, .null), (3, .getfield 492, 14, 74, 0, .null), (1, .iconst 0, 0, 0, 0, .int 0), (1, .aload_n 0, 0, 0, 0, .null), (3, .getfield 507, 14, 81, 0, .null), (3, .invokevirtual 655, 199, 4, 14, .null), (1, .ireturn, 0, 0, 0, .null)]
set_option maxRecDepth 20000 in
theorem oX14_isRightx_0 : vm_okB 14 mX14_isRight 0 bX14_isRightx_0 = true := by decide +kernel
def bX14_isRightx_53 : List vm_J := [(1, .aload_n 0, 0, 0, 0, .null), (1, .aload_n 0, 0, 0, 0, .null), (3, .getfield 492, 14, 74, 0, .null), (1, .iconst 0, 0, 0, 0, .int 0), (2, .bipush 98, 0, 0, 0, .int 98), (1, .aload_n 0, 0, 0, 0, .null), (3, .getfield 522, 14, 86, 0, .null), (3, .invokevirtual 608, 183, 4, 14, .null), (1, .aload_n 0, 0, 0, 0, .null), (3, .getfield 522, 14, 86, 0, .null), (3, .getfield 113, 13, 2, 0, .null), (3, .ifCond .eq 5, 80, 0, 0, .null), (1, .iconst 0, 0, 0, 0, .int 0), (1, .ireturn, 0, 0, 0, .null)]
set_option maxRecDepth 20000 in
theorem oX14_isRightx_53 : vm_okB 14 mX14_isRight 53 bX14_isRightx_53 = true := by decide +kernel
def bX14_isRightx_80 : List vm_J := [(1, .aload_n 0, 0, 0, 0, .null), (1, .aload_n 0, 0, 0, 0, .null), (3, .getfield 433, 14, 57, 0, .null), (1, .iload_n 1, 0, 0, 0, .null), (1, .aaload, 0, 0, 0, .null), (1, .aload_n 0, 0, 0, 0, .null), (3, .getfield 522, 14, 86, 0, .null), (1, .aload_n 0, 0, 0, 0, .null), (3, .getfield 522, 14, 86, 0, .null), (3, .invokevirtual 404, 158, 3, 14, .null), (1, .aload_n 0, 0, 0, 0, .null), (3, .getfield 522, 14, 86, 0, .null), (3, .getfield 113, 13, 2, 0, .null), (3, .ifCond .eq 5, 110, 0, 0, .null), (1, .iconst 0, 0, 0, 0, .int 0), (1, .ireturn, 0, 0, 0, .null)]
set_option maxRecDepth 20000 in
theorem oX14_isRightx_80 : vm_okB 14 mX14_isRight 80 bX14_isRightx_80 = true := by decide +kernel
def bX14_isRightx_110 : List vm_J := [(1, .aload_n 0, 0, 0, 0, .null), (1, .aload_n 0, 0, 0, 0, .null), (3, .getfield 492, 14, 74, 0, .null), (1, .iconst 0, 0, 0, 0, .int 0), (1, .aload_n 0, 0, 0, 0, .null), (3, .getfield 522, 14, 86, 0, .null), (3, .invokevirtual 651, 226, 3, 14, .null), (1, .iconst 1, 0, 0, 0, .int 1), (1, .istore_n 2, 0, 0, 0, .null)]
set_option maxRecDepth 20000 in
theorem oX14_isRightx_110 : vm_okB 14 mX14_isRight 110 bX14_isRightx_110 = true := by decide +kernel
def bX14_isRightx_125 : List vm_J := [(1, .iconst 0, 0, 0, 0, .int 0), (1, .istore_n 3, 0, 0, 0, .null)]
set_option maxRecDepth 20000 in
theorem oX14_isRightx_125 : vm_okB 14 mX14_isRight 125 bX14_isRightx_125 = true := by decide +kernel
def bX14_isRightx_127 : List vm_J := [(1, .iload_n 3, 0, 0, 0, .null), (2, .bipush 48, 0, 0, 0, .int 48), (3, .if_icmp .ge 37, 167, 0, 0, .null), (1, .iload_n 2, 0, 0, 0, .null), (3, .ifCond .eq 25, 159, 0, 0, .null), (1, .aload_n 0, 0, 0, 0, .null), (3, .getfield 243, 14, 20, 0, .null), (1, .iload_n 3, 0, 0, 0, .null), (1, .baload, 0, 0, 0, .null), (1, .aload_n 0, 0, 0, 0, .null), (3, .getfield 492, 14, 74, 0, .null), (2, .bipush 98, 0, 0, 0, .int 98), (1, .iload_n 3, 0, 0, 0, .null), (1, .iadd, 0, 0, 0, .null), (1, .baload, 0, 0, 0, .null), (3, .if_icmp .ne 7, 159, 0, 0, .null), (1, .iconst 1, 0, 0, 0, .int 1), (3, .goto 4, 160, 0, 0, .null)]
set_option maxRecDepth 20000 in
theorem oX14_isRightx_127 : vm_okB 14 mX14_isRight 127 bX14_isRightx_127 = true := by decide +kernel
def bX14_isRightx_159 : List vm_J := [(1, .iconst 0, 0, 0, 0, .int 0)]
set_option maxRecDepth 20000 in
theorem oX14_isRightx_159 : vm_okB 14 mX14_isRight 159 bX14_isRightx_159 = true := by decide +kernel
def bX14_isRightx_160 : List vm_J := [(1, .istore_n 2, 0, 0, 0, .null)]
set_option maxRecDepth 20000 in
theorem oX14_isRightx_160 : vm_okB 14 mX14_isRight 160 bX14_isRightx_160 = true := by decide +kernel
def bX14_isRightx_161 : List vm_J := [(3, .iinc 3 1, 0, 0, 0, .int 1), (3, .goto (-37), 127, 0, 0, .null)]
set_option maxRecDepth 20000 in
theorem oX14_isRightx_161 : vm_okB 14 mX14_isRight 161 bX14_isRightx_161 = true := by decide +kernel
def bX14_isRightx_167 : List vm_J := [(1, .iload_n 2, 0, 0, 0, .null), (1, .ireturn, 0, 0, 0, .null)]
set_option maxRecDepth 20000 in
theorem oX14_isRightx_167 : vm_okB 14 mX14_isRight 167 bX14_isRightx_167 = true := by decide +kernel
def bX14_endsTwox_0 : List vm_J := [(1, .aload_n 0, 0, 0, 0, .null), (3, .getfield 461, 14, 59, 0, .null), (1, .iload_n 2, 0, 0, 0, .null), (1, .aaload, 0, 0, 0, .null), (1, .astore_n 3, 0, 0, 0, .null)]
set_option maxRecDepth 20000 in
theorem oX14_endsTwox_0 : vm_okB 14 mX14_endsTwo 0 bX14_endsTwox_0 = true := by decide +kernel
def bX14_endsTwox_7 : List vm_J := [(1, .aload_n 0, 0, 0, 0, .null), (3, .getfield 492, 14, 74, 0, .null), (1, .iconst 0, 0, 0, 0, .int 0), (1, .aload_n 0, 0, 0, 0, .null), (3, .getfield 468, 14, 61, 0, .null), (1, .iload_n 2, 0, 0, 0, .null), (1, .iaload, 0, 0, 0, .null), (1, .aload_n 0, 0, 0, 0, .null), (3, .getfield 507, 14, 81, 0, .null), (1, .aload_n 3, 0, 0, 0, .null), (3, .getfield 13, 12, 2, 0, .null), (3, .invokestatic 176, 155, 5, 0, .null), (1, .aload_n 0, 0, 0, 0, .null), (3, .getfield 507, 14, 81, 0, .null), (1, .aload_n 3, 0, 0, 0, .null), (3, .getfield 22, 12, 0, 0, .null), (1, .aload_n 3, 0, 0, 0, .null), (3, .getfield 13, 12, 2, 0, .null), (3, .invokestatic 26, 139, 3, 0, .null), (3, .ifCond .lt 6, 50, 0, 0, .null), (2, .bipush (-4), 0, 0, 0, .int (-4)), (1, .ireturn, 0, 0, 0, .null)]
set_option maxRecDepth 20000 in
theorem oX14_endsTwox_7 : vm_okB 14 mX14_endsTwo 7 bX14_endsTwox_7 = true := by decide +kernel
def bX14_endsTwox_50 : List vm_J := [(1, .aload_n 0, 0, 0, 0, .null), (1, .aload_n 3, 0, 0, 0, .null), (1, .aload_n 0, 0, 0, 0, .null), (3, .getfield 483, 14, 67, 0, .null), (1, .iload_n 1, 0, 0, 0, .null), (1, .aaload, 0, 0, 0, .null), (1, .aload_n 0, 0, 0, 0, .null), (3, .getfield 510, 14, 82, 0, .null), (3, .invokevirtual 142, 154, 3, 14, .null), (2, .istore 4, 0, 0, 0, .null)]
set_option maxRecDepth 20000 in
theorem oX14_endsTwox_50 : vm_okB 14 mX14_endsTwo 50 bX14_endsTwox_50 = true := by decide +kernel
def bX14_endsTwox_67 : List vm_J := [(1, .aload_n 0, 0, 0, 0, .null), (1, .aload_n 3, 0, 0, 0, .null), (1, .aload_n 0, 0, 0, 0, .null), (3, .getfield 507, 14, 81, 0, .null), (1, .aload_n 0, 0, 0, 0, .null), (3, .getfield 510, 14, 82, 0, .null), (1, .aload_n 0, 0, 0, 0, .null), (3, .getfield 507, 14, 81, 0, .null), (3, .invokevirtual 79, 149, 4, 14, .null), (1, .aload_n 0, 0, 0, 0, .null), (1, .iload_n 2, 0, 0, 0, .null), (1, .aload_n 0, 0, 0, 0, .null), (3, .getfield 480, 14, 66, 0, .null), (2, .bipush 98, 0, 0, 0, .int 98), (1, .iload_n 1, 0, 0, 0, .null), (1, .imul, 0, 0, 0, .null), (1, .aload_n 0, 0, 0, 0, .null), (3, .getfield 507, 14, 81, 0, .null), (3, .invokevirtual 655, 199, 4, 14, .null), (3, .ifCond .ne 6, 107, 0, 0, .null), (2, .bipush (-4), 0, 0, 0, .int (-4)), (1, .ireturn, 0, 0, 0, .null)]
set_option maxRecDepth 20000 in
theorem oX14_endsTwox_67 : vm_okB 14 mX14_endsTwo 67 bX14_endsTwox_67 = true := by decide +kernel
def bX14_endsTwox_107 : List vm_J := [(1, .iconst 0, 0, 0, 0, .int 0), (2, .istore 5, 0, 0, 0, .null)]
set_option maxRecDepth 20000 in
theorem oX14_endsTwox_107 : vm_okB 14 mX14_endsTwo 107 bX14_endsTwox_107 = true := by decide +kernel
def bX14_endsTwox_110 : List vm_J := [(2, .iload 5, 0, 0, 0, .null), (2, .bipush 98, 0, 0, 0, .int 98), (3, .if_icmp .ge 28, 142, 0, 0, .null), (1, .aload_n 0, 0, 0, 0, .null), (3, .getfield 495, 14, 76, 0, .null), (2, .iload 5, 0, 0, 0, .null), (1, .aload_n 0, 0, 0, 0, .null), (3, .getfield 480, 14, 66, 0, .null), (2, .bipush 98, 0, 0, 0, .int 98), (1, .iload_n 1, 0, 0, 0, .null), (1, .imul, 0, 0, 0, .null), (2, .iload 5, 0, 0, 0, .null), (1, .iadd, 0, 0, 0, .null), (1, .baload, 0, 0, 0, .null), (1, .bastore, 0, 0, 0, .null)]
set_option maxRecDepth 20000 in
theorem oX14_endsTwox_110 : vm_okB 14 mX14_endsTwo 110 bX14_endsTwox_110 = true := by decide +kernel
def bX14_endsTwox_136 : List vm_J := [(3, .iinc 5 1, 0, 0, 0, .int 1), (3, .goto (-29), 110, 0, 0, .null)]
set_option maxRecDepth 20000 in
theorem oX14_endsTwox_136 : vm_okB 14 mX14_endsTwo 136 bX14_endsTwox_136 = true := by decide +kernel
def bX14_endsTwox_142 : List vm_J := [(1, .aload_n 0, 0, 0, 0, .null), (3, .getfield 507, 14, 81, 0, .null), (1, .aload_n 0, 0, 0, 0, .null), (3, .getfield 495, 14, 76, 0, .null), (2, .bipush 98, 0, 0, 0, .int 98), (1, .aload_n 0, 0, 0, 0, .null), (3, .getfield 468, 14, 61, 0, .null), (1, .iload_n 2, 0, 0, 0, .null), (1, .iaload, 0, 0, 0, .null), (3, .invokestatic 192, 156, 4, 0, .null), (1, .aload_n 0, 0, 0, 0, .null), (2, .bipush 98, 0, 0, 0, .int 98), (1, .aload_n 0, 0, 0, 0, .null), (3, .getfield 468, 14, 61, 0, .null), (1, .iload_n 2, 0, 0, 0, .null), (1, .iaload, 0, 0, 0, .null), (1, .iadd, 0, 0, 0, .null), (3, .putfield 564, 14, 77, 0, .null)]
set_option maxRecDepth 20000 in
theorem oX14_endsTwox_142 : vm_okB 14 mX14_endsTwo 142 bX14_endsTwox_142 = true := by decide +kernel
def bX14_endsTwox_174 : List vm_J := [(1, .aload_n 0, 0, 0, 0, .null), (3, .getfield 477, 14, 65, 0, .null), (1, .iload_n 1, 0, 0, 0, .null), (1, .iconst 0, 0, 0, 0, .int 0), (1, .bastore, 1, 0, 0, .null)]
set_option maxRecDepth 20000 in
theorem oX14_endsTwox_174 : vm_okB 14 mX14_endsTwo 174 bX14_endsTwox_174 = true := by decide +kernel
def bX14_endsTwox_181 : List vm_J := [(1, .aload_n 0, 0, 0, 0, .null), (3, .getfield 564, 14, 77, 0, .null), (1, .ireturn, 0, 0, 0, .null)]
set_option maxRecDepth 20000 in
theorem oX14_endsTwox_181 : vm_okB 14 mX14_endsTwo 181 bX14_endsTwox_181 = true := by decide +kernel
theorem inv_gcd {A N i : Nat} (hN : 1 < N) (h : A * i % N = 1) : Nat.gcd A N = 1 := by
  have d1 := Nat.gcd_dvd_left A N
  have d2 := Nat.gcd_dvd_right A N
  have e : A * i = N * (A * i / N) + 1 := by have := Nat.div_add_mod (A * i) N; omega
  have d3 : Nat.gcd A N ∣ N * (A * i / N) + 1 := by rw [← e]; exact Nat.dvd_trans d1 (Nat.dvd_mul_right _ _)
  have d4 : Nat.gcd A N ∣ 1 := (Nat.dvd_add_right (Nat.dvd_trans d2 (Nat.dvd_mul_right _ _))).mp d3
  exact Nat.dvd_one.mp d4
section
variable {l : Launch} {O : Nat → vm_Ob} {f9 : Value} {h h' : vm_H} {a kn an rd wr : Nat} {t : KT} {g g' : Nat → Int32} {m y w ou : List Nat} {kf : Nat → aK} {af : Nat → aA} {D : Nat → Nat} {dn : Bool} {wl : Int} {th : Int32}
theorem rm_isAsking {z : Int} {w9 : List Nat} (hz : i32 z) (k : SY h a t g w9 m y) (G : g 68 = nI an) (sa : SA h a an kn af kf) (han : an ≤ 60) : vm_Met (vm_env l O f9) mX14_isAsking 0 0 [.ref a, .int (iZ z)] h (fun r h' => (∃ ok : Bool, r = some (.int (bi ok)) ∧ (ok = true ↔ (0 ≤ z ∧ z < (an : Int)) ∧ aop (af z.toNat) = true)) ∧ h' = h) := by
  suffices H : ∀ Q : Option Value → vm_H → Prop, (∀ ok : Bool, (ok = true ↔ (0 ≤ z ∧ z < (an : Int)) ∧ aop (af z.toNat) = true) → Q (some (.int (bi ok))) h) → vm_Met (vm_env l O f9) mX14_isAsking 0 0 [.ref a, .int (iZ z)] h Q from H _ (fun v z => ⟨⟨v, rfl, z⟩, rfl⟩)
  intro Q hQ
  have bad : ¬ ((0 ≤ z ∧ z < (an : Int)) ∧ aop (af z.toNat) = true) → vm_T (vm_env l O f9) mX14_isAsking 0 0 25 [(0, .ref a), (1, .int (iZ z))] [] h Q := fun n => vm_go rfl bX14_isAsking_25 oX14_isAsking_25 (vm_go rfl bX14_isAsking_26 oX14_isAsking_26 ⟨rfl, hQ false ⟨fun z => (nomatch z), fun z => absurd z n⟩⟩)
  obtain ⟨f2, ef2, v2⟩ := sa.2.1
  have gk : u3 g (nI w9.length) (nI m.length) (nI y.length) 68 = nI an := G
  refine vm_met rfl (Nat.le_of_ble_eq_true rfl) ?_
  refine vm_go rfl bX14_isAsking_0 oX14_isAsking_0 ⟨fun q => bad (fun c => absurd ((iZ_lt0 hz).mp q) (by omega)), fun q1 => ⟨_, _, k.1.1, rfl, ⟨fun q => bad (fun c => ?_), fun q2 => ?_⟩⟩⟩
  · have q : u3 g (nI w9.length) (nI m.length) (nI y.length) 68 ≤ iZ z := q
    rw [gk, cz_ge hz (by omega)] at q
    omega
  have q1 : ¬ iZ z < 0 := q1
  rw [iZ_lt0 hz] at q1
  have q2 : ¬ u3 g (nI w9.length) (nI m.length) (nI y.length) 68 ≤ iZ z := q2
  rw [gk, cz_ge hz (by omega)] at q2
  obtain ⟨i, ei⟩ : ∃ i, z.toNat = i := ⟨_, rfl⟩
  have ez : iZ z = nI i := by rw [iZ_tn (by omega), ei]
  have hi : i < an := by omega
  refine ⟨_, _, k.1.1, rfl, ⟨60, f2, ef2, i, ez, by omega, fun _ => ?_⟩⟩
  rw [v2 i hi]
  rw [ei] at bad hQ
  cases eo : aop (af i) with
  | false => exact ⟨fun _ => bad (fun c => by rw [eo] at c; exact nomatch c.2), fun q => absurd rfl q⟩
  | true => exact ⟨fun q => absurd q (by decide), fun _ => vm_go rfl bX14_isAsking_26 oX14_isAsking_26 ⟨rfl, hQ true ⟨fun _ => ⟨by omega, eo⟩, fun _ => rfl⟩⟩⟩
theorem rm_output {b nt p s : Nat} {cb : Nat → Nat} {q : fq × fq} {w9 : List Nat} (h9 : f9.category = 1) (k : SY h a t g w9 m y) (hb : bv h nt b cb) (hb2 : b ≠ a ∧ b ≠ a + 28) (hp : p + 98 ≤ nt) (hnt : nt < 65536) (hs : SP h s (some q)) (hs2 : a + 68 < s) : vm_Met (vm_env l O f9) mX14_output 0 0 [.ref a, .ref b, .int (nI p), .ref s] h (fun r h' => r = none ∧ SY h' a t g [] m y ∧ (∃ c, bv h' 48 (a + 29) c ∧ sl c 0 48 = outm t.2.2.1 t.2.2.2 (sl cb p 98) q) ∧ fr h h' (fun q => q = a ∨ (a + 28 ≤ q ∧ q ≤ a + 33) ∨ q = a + 68)) := by
  have ao := k.1.2.1
  have la : a < 1099511627776 := by omega
  refine vm_met rfl (Nat.le_of_ble_eq_true rfl) ?_
  refine vm_go rfl bX14_outputx_0 oX14_outputx_0 ⟨_, k.1.1, la, show 19 < 89 by decide, trivial, ?_⟩
  obtain ⟨h1, eh1⟩ : ∃ h1, h1 = vm_up h a (RO a (u3 g (nI ([] : List Nat).length) (nI m.length) (nI y.length))) := ⟨_, rfl⟩
  obtain ⟨k1, F1⟩ := SY_clr k eh1
  refine vm_Th (lv' := [(0, .ref a), (1, .ref b), (2, .int (nI p)), (3, .ref s)]) (h' := h1) rfl eh1 ?_
  refine vm_go rfl bX14_outputx_5 oX14_outputx_5 ⟨_, k1.1.1, 0, 0, _, rm_both (v := 98) k1 (by decide) (by decide), Nat.zero_le _, Nat.zero_le _, ?_⟩
  rintro _ h2 ⟨rfl, k2, F2⟩
  refine ⟨_, k2.1.1, 0, 0, _, rm_says (at9 := p) (n := 98) k2 (bv_cg hb ((F2.2 b (by omega)).trans (F1.2 b (by omega)))) (by omega) hp hnt (by rw [List.length_append, nb_len]; decide), Nat.zero_le _, Nat.zero_le _, ?_⟩
  rintro _ h3 ⟨rfl, k3, F3⟩
  have l3 : ([] ++ nb ((98 : Nat) : Int) 2 ++ sl cb p 98).length = 100 := by rw [List.length_append, List.length_append, nb_len, sl_len]; rfl
  refine ⟨_, k3.1.1, 0, 0, _, rm_both (v := 49) k3 (by decide) (by omega), Nat.zero_le _, Nat.zero_le _, ?_⟩
  rintro _ h4 ⟨rfl, k4, F4⟩
  have F04 : fr h h4 (fun q => q = a ∨ q = a + 28) := fr_trans (fr_mono F1 (fun q z => .inl z)) (fr_trans F2 (fr_trans F3 F4))
  obtain ⟨c68, b68⟩ := k4.1.2.2.2.2.2.1 68 (by unfold ZB; omega)
  have b68 : bv h4 49 (a + 68) c68 := b68
  refine ⟨_, _, k4.1.1, rfl, ⟨0, 0, _, rm_bytes (at9 := 0) (SP_cg hs (fun q z1 z2 => F04.2 q (by omega))) b68 (by omega) (by decide) (by decide), Nat.zero_le _, Nat.zero_le _, ?_⟩⟩
  rintro _ h5 ⟨rfl, ⟨c5, b5, e5, _⟩, F5⟩
  have k5 : SY h5 a t g _ m y := SY_fr k4 (RK_of k4.1 F5 ((F5.2 a (by omega)).trans k4.1.1) (fun q z => .inr (z ▸ GD_r (i := 68) (by unfold ZB; omega) rfl ⟨_, b5⟩))) F5 (by omega)
  have l4 : ([] ++ nb ((98 : Nat) : Int) 2 ++ sl cb p 98 ++ nb ((49 : Nat) : Int) 2).length = 102 := by rw [List.length_append, l3, nb_len]
  refine ⟨_, _, k5.1.1, rfl, ⟨_, k5.1.1, 0, 0, _, rm_says (at9 := 0) (n := 49) k5 b5 (by omega) (by decide) (by decide) (by omega), Nat.zero_le _, Nat.zero_le _, ?_⟩⟩
  rintro _ h6 ⟨rfl, k6, F6⟩
  rw [e5] at k6
  have l6 : ([] ++ nb ((98 : Nat) : Int) 2 ++ sl cb p 98 ++ nb ((49 : Nat) : Int) 2 ++ ptb q).length = 151 := by rw [List.length_append, l4, ptb_len]
  refine vm_ldw (idx := 646) (id := 1099511627826) (by decide +kernel) (List.mem_of_getElem? (i := 22) rfl) ?_
  refine vm_go rfl bX14_outputx_49 oX14_outputx_49 ⟨_, k6.1.1, 0, 0, _, rm_word h9 k6 k6.1.2.2.1.2.1.2.2.2.2.2.2.2 (by decide) (by rw [l6]; decide), Nat.zero_le _, Nat.zero_le _, ?_⟩
  rintro _ h7 ⟨rfl, k7, F7⟩
  refine ⟨_, k7.1.1, 0, 0, _, rm_h3 k7 (by rw [List.length_append, l6]; decide), Nat.zero_le _, Nat.zero_le _, ?_⟩
  rintro _ h8 ⟨rfl, k8, ⟨c8, b8, e8⟩, F8⟩
  refine ⟨rfl, k8, ⟨c8, b8, by rw [e8]; rfl⟩, fr_trans (fr_mono F04 (fun q z => by omega)) (fr_trans (fr_mono F5 (fun q z => by omega)) (fr_trans (fr_mono F6 (fun q z => by omega)) (fr_trans (fr_mono F7 (fun q z => by omega)) (fr_mono F8 (fun q z => by omega)))))⟩
theorem rm_isRight {i : Nat} (h9 : f9.category = 1) (k : SY h a t g [] m y) (sk : SK h a kn kf) (hkn : kn ≤ 6) (tw : rl9 h 1208 (a + 153) w) (hw : w.length ≤ 1200) (hi : i < kn) (ki : KI (kf i)) (hl : w.length = 98 + ksz (kf i)) : vm_Met (vm_env l O f9) mX14_isRight 0 0 [.ref a, .int (nI i)] h (fun r h' => ((∃ (ok : Bool) (m' y' : List Nat), r = some (.int (bi ok)) ∧ SY h' a t g [] m' y' ∧ (ok = true ↔ rtO t.2.2.1 t.2.2.2 (kf i) w)) ∧ fr h h' (fun q => scr a q))) := by
  suffices H : ∀ Q : Option Value → vm_H → Prop, (∀ r h', ((∃ (ok : Bool) (m' y' : List Nat), r = some (.int (bi ok)) ∧ SY h' a t g [] m' y' ∧ (ok = true ↔ rtO t.2.2.1 t.2.2.2 (kf i) w)) ∧ fr h h' (fun q => scr a q)) → Q r h') → vm_Met (vm_env l O f9) mX14_isRight 0 0 [.ref a, .int (nI i)] h Q from H _ (fun _ _ z => z)
  intro Q hQ
  have ao := k.1.2.1
  obtain ⟨c, bc, ec⟩ := tw
  obtain ⟨fc, efc, vfc⟩ := id bc
  obtain ⟨⟨f1, ef1, v1⟩, _, _, ⟨fs4, e4, v4⟩, _, ⟨fm, efm, vm⟩, ⟨fe, efe, ve⟩, ⟨fl, efl, vl⟩, ⟨fs, efs, vs⟩, _, kr⟩ := id sk
  dsimp only at v4 vm
  obtain ⟨osh, lid, hty, hsz⟩ := KI_sh ki
  have e98 : sl c 0 98 = sl (gb w) 0 98 := sl_w ec (by omega)
  refine vm_met rfl (Nat.le_of_ble_eq_true rfl) ?_
  rcases hty with ht | ht
  rotate_left
  · obtain ⟨n, N, e, d, t0, q⟩ := KI_2 ki ht
    obtain ⟨⟨ql1, ql2, qn⟩, ⟨qN, qe, qd', qt⟩, ⟨qt1, qt2⟩, hod, qe2, qd, qs, hN, qlo, qhi⟩ := id q
    obtain ⟨sh, mh, wd⟩ := (kr i hi).2 ht
    rw [← qN, ← qn] at mh
    have eB : bn c 98 (ksz (kf i)) = bn (gb w) 98 (ksz (kf i)) := bn_w ec (by omega)
    have bB : bn (gb w) 98 (ksz (kf i)) < 4294967296 ^ n := by
      rw [← eB]
      refine Nat.lt_of_lt_of_le (bn_lt (ksz (kf i)) (fun j _ hj => bv_lt bc j (by omega))) ?_
      rw [show (4294967296 : Nat) = 256 ^ 4 by decide, ← Nat.pow_mul]
      exact Nat.pow_le_pow_right (by decide) (by omega)
    obtain ⟨fa, ia1⟩ : iw h 64 (a + 158) := k.1.2.2.2.2.1 158 (by unfold ZI; omega)
    refine vm_go rfl bX14_isRightx_0 oX14_isRightx_0 ⟨_, _, k.1.1, rfl, ⟨6, f1, ef1, i, rfl, by omega, fun _ => ?_⟩⟩
    rw [v1 i hi, ht]
    refine ⟨fun q => absurd rfl q, fun _ => ⟨_, _, k.1.1, rfl, ⟨_, _, k.1.1, rfl, ⟨6, fl, efl, i, rfl, by omega, fun _ => ?_⟩⟩⟩⟩
    rw [vl i hi]
    refine ⟨_, _, k.1.1, rfl, ⟨_, _, k.1.1, rfl, ⟨_, _, _, _, efm, by decide, rfl, i, rfl, by omega, va_e (vm i (by omega)), ⟨_, _, mh.1.1, rfl, ⟨0, 0, _, rm_load (at9 := 98) (size := ksz (kf i)) (n := n) bc (by omega) (by decide) ia1 (by omega) (by omega) (by omega) (by omega), Nat.zero_le _, Nat.zero_le _, ?_⟩⟩⟩⟩⟩
    rintro _ h1 ⟨rfl, w1, F1⟩
    rw [eB] at w1
    have k1 : SY h1 a t g [] m y := SY_fr k (RK_of k.1 F1 ((F1.2 a (by omega)).trans k.1.1) (fun q z => .inr (z ▸ GD_i (i := 158) (by unfold ZI; omega) (wv_iw w1)))) F1 (by omega)
    have mh1 := MH_cg3 mh F1 (by omega)
    have sk1 : SK h1 a kn kf := SK_fr sk hkn F1 (fun q z => by unfold scr; omega)
    refine ⟨_, _, k1.1.1, rfl, ⟨_, _, k1.1.1, rfl, ⟨_, k1.1.1, 0, 0, _, rm_isSigned (p1 := 0) k1 sk1 hkn hi q mh1 ⟨fe, ia_cg9 efe (F1.2 _ (by omega)), by rw [ve i hi ht, ← qe]⟩ ⟨fs, ia_cg9 efs (F1.2 _ (by omega)), vs i hi ht⟩ (bv_cg bc (F1.2 _ (by omega))) (by decide) (by decide) (by omega) w1 bB, Nat.zero_le _, Nat.zero_le _, ?_⟩⟩⟩
    rintro _ h2 ⟨⟨ok, rfl, hok⟩, k2, F2⟩
    refine ⟨bi_if, hQ _ _ ⟨⟨ok, _, _, rfl, k2, ?_⟩, fr_trans (fr_mono F1 (fun q z => by unfold scr; omega)) (fr_mono F2 (fun q z => by unfold scr; omega))⟩⟩
    rw [hok, e98]
    unfold rtO
    rw [← qN, ← qe, ← qt]
    exact ⟨fun z => .inr ⟨ht, z⟩, fun z => z.elim (fun z => by have := z.1; omega) (fun z => z.2)⟩
  obtain ⟨X, hX⟩ : ∃ X, bn (gb (kse (kf i))) 0 48 = X := ⟨_, rfl⟩
  obtain ⟨wX, A, eA, oA, sA⟩ := (kr i hi).1 ht
  rw [hX] at wX
  have hX9 : 0 < X ∧ X < cQ ∧ ksz (kf i) = 48 := by
    obtain ⟨o1, o2, o3, l3, q | q⟩ := id ki
    · rw [← hX]; exact ⟨q.2.2.2.2.1.1, q.2.2.2.2.1.2, q.2.1⟩
    · have := q.1; omega
  have bX : X < 4294967296 ^ 12 := Nat.lt_trans hX9.2.1 (by decide +kernel)
  obtain ⟨inp, hinp⟩ : ∃ inp, sl (gb w) 0 98 = inp := ⟨_, rfl⟩
  rw [hinp] at e98
  obtain ⟨H, hH⟩ : ∃ H, htg t.2.2.1 t.2.2.2 inp = H := ⟨_, rfl⟩
  have eR : rtO t.2.2.1 t.2.2.2 (kf i) w ↔ ∃ q, ecM (-3) fiv X H = some q ∧ outm t.2.2.1 t.2.2.2 inp q = sl (gb w) 98 48 := by
    unfold rtO
    rw [hX, hinp, hH]
    exact ⟨fun z => z.elim (fun z => z.2) (fun z => by have := z.1; omega), fun z => .inl ⟨ht, z⟩⟩
  refine vm_go rfl bX14_isRightx_0 oX14_isRightx_0 ⟨_, _, k.1.1, rfl, ⟨6, f1, ef1, i, rfl, by omega, fun _ => ?_⟩⟩
  rw [v1 i hi, ht]
  refine ⟨fun _ => ?_, fun q => absurd q (show ¬ nI 1 = 2 by decide)⟩
  refine vm_go rfl bX14_isRightx_53 oX14_isRightx_53 ⟨_, _, k.1.1, rfl, ⟨_, _, k.1.1, rfl, ⟨_, k.1.1, 0, 0, _, rm_toPoint (at9 := 0) (n := 98) h9 k bc (by omega) (by decide) (by decide) (by decide), Nat.zero_le _, Nat.zero_le _, ?_⟩⟩⟩
  rintro _ h3 ⟨rfl, k3, s3, F3⟩
  rw [e98] at k3 s3
  rw [hH] at s3
  have F03 : fr h h3 (fun q => scr a q) := fr_mono F3 (fun q z => by unfold JV JW at z; unfold scr; omega)
  refine ⟨_, _, k3.1.1, rfl, ⟨_, _, SP_fl s3, rfl, ?_⟩⟩
  cases eP : H with
  | none =>
    refine ⟨fun q => absurd q (by decide), fun _ => ⟨rfl, hQ _ _ ⟨⟨false, _, _, rfl, k3, ⟨fun q => (nomatch q), fun z => ?_⟩⟩, F03⟩⟩⟩
    obtain ⟨q, z1, _⟩ := eR.mp z
    rw [eP, ecM_none] at z1
    cases z1
  | some p =>
  refine ⟨fun _ => ?_, fun q => absurd rfl q⟩
  have oH : ecO (-3) (fz (cB : Int)) H := by rw [← hH]; exact htg_o
  have wX3 : wv h3 64 (a + 77 + i) 12 X := wv_cg wX (F03.2 _ (by unfold scr; omega))
  refine vm_go rfl bX14_isRightx_80 oX14_isRightx_80 ⟨_, _, k3.1.1, rfl, ⟨_, _, _, _, (F03.2 _ (by unfold scr; omega)).trans e4, by decide, rfl, i, rfl, by omega, va_e (v4 i (by omega)), ⟨_, _, k3.1.1, rfl, ⟨_, _, k3.1.1, rfl, ⟨_, k3.1.1, 0, 0, _, rq_mult (s := 163) k3.1 wX3 (by decide) bX s3 oH (by unfold ZP; omega) (by decide) (by omega) (by omega) (by omega), Nat.zero_le _, Nat.zero_le _, ?_⟩⟩⟩⟩⟩
  rintro _ h4 ⟨rfl, k4, s4, F4⟩
  have k4' : SY h4 a t g [] inp tgG := SY_fr k3 k4 F4 (by unfold JM JW; omega)
  have F04 : fr h h4 (fun q => scr a q) := fr_trans F03 (fr_mono F4 (fun q z => by unfold JM JW at z; unfold scr; omega))
  refine ⟨_, _, k4'.1.1, rfl, ⟨_, _, SP_fl s4, rfl, ?_⟩⟩
  obtain ⟨pp, ep⟩ : ∃ pp, ecM (-3) fiv X H = pp := ⟨_, rfl⟩
  rw [ep] at s4 eR ⊢
  cases pp with
  | none =>
    refine ⟨fun q => absurd q (by decide), fun _ => ⟨rfl, hQ _ _ ⟨⟨false, _, _, rfl, k4', ⟨fun q => (nomatch q), fun z => ?_⟩⟩, F04⟩⟩⟩
    obtain ⟨q, z1, _⟩ := eR.mp z
    cases z1
  | some pp =>
  refine ⟨fun _ => ?_, fun q => absurd rfl q⟩
  have bc4 : bv h4 1208 (a + 153) c := bv_cg bc (F04.2 _ (by unfold scr; omega))
  refine vm_go rfl bX14_isRightx_110 oX14_isRightx_110 ⟨_, _, k4'.1.1, rfl, ⟨_, _, k4'.1.1, rfl, ⟨_, k4'.1.1, 0, 0, _, rm_output (p := 0) h9 k4' bc4 (by omega) (by decide) (by decide) s4 (by omega), Nat.zero_le _, Nat.zero_le _, ?_⟩⟩⟩
  rintro _ h5 ⟨rfl, k5, ⟨c5, b5, e5⟩, F5⟩
  rw [e98] at e5
  have F05 : fr h h5 (fun q => scr a q) := fr_trans F04 (fr_mono F5 (fun q z => by unfold scr; omega))
  have bc5 : bv h5 1208 (a + 153) c := bv_cg bc4 (F5.2 _ (by omega))
  obtain ⟨f5, ef5, vf5⟩ := id b5
  obtain ⟨f6, ef6, vf6⟩ := id bc5
  refine vm_Th (lv' := [(0, .ref a), (1, .int (nI i)), (2, .int (bi true))]) (h' := h5) rfl rfl ?_
  refine vm_go rfl bX14_isRightx_125 oX14_isRightx_125 (vm_Th (lv' := [(0, .ref a), (1, .int (nI i)), (2, .int (bi true)), (3, .int (nI 0))]) (h' := h5) rfl rfl ?_)
  have e9 : rtO t.2.2.1 t.2.2.2 (kf i) w ↔ ∀ j, j < 48 → c5 j = c (98 + j) := by
    rw [eR]
    have y1 : sl (gb w) 98 48 = sl c 98 48 := (sl_w ec (by omega)).symm
    constructor
    · rintro ⟨q, z1, z2⟩ j hj
      cases z1
      rw [← e5, y1] at z2
      have := sl_inj z2 j hj
      rw [Nat.zero_add] at this; exact this
    · intro z
      refine ⟨pp, rfl, ?_⟩
      rw [← e5, y1]
      exact sl_ext (fun j hj => by rw [Nat.zero_add]; exact z j hj)
  have LP : ∀ d j, j + d = 48 → ∀ ok : Bool, (ok = true ↔ ∀ q, q < j → c5 q = c (98 + q)) → vm_T (vm_env l O f9) mX14_isRight 0 0 127 [(0, .ref a), (1, .int (nI i)), (2, .int (bi ok)), (3, .int (nI j))] [] h5 Q := by
    intro d
    induction d with
    | zero =>
      intro j hj ok hok
      have hj : j = 48 := by omega
      subst hj
      refine vm_go rfl bX14_isRightx_127 oX14_isRightx_127 ⟨fun _ => ?_, fun q => absurd (nI_le (a := 48) (b := 48) (by decide) (by decide)) q⟩
      exact vm_go rfl bX14_isRightx_167 oX14_isRightx_167 ⟨bi_if, hQ _ _ ⟨⟨ok, _, _, rfl, k5, hok.trans e9.symm⟩, F05⟩⟩
    | succ d ih =>
      intro j hj ok hok
      have nx : ∀ ok' : Bool, (ok' = true ↔ ∀ q, q < j + 1 → c5 q = c (98 + q)) → vm_T (vm_env l O f9) mX14_isRight 0 0 160 [(0, .ref a), (1, .int (nI i)), (2, .int (bi ok)), (3, .int (nI j))] [.int (bi ok')] h5 Q := fun ok' hok' => by
        refine vm_go rfl bX14_isRightx_160 oX14_isRightx_160 (vm_Th (lv' := [(0, .ref a), (1, .int (nI i)), (2, .int (bi ok')), (3, .int (nI j))]) (h' := h5) rfl rfl ?_)
        refine vm_go rfl bX14_isRightx_161 oX14_isRightx_161 (vm_Th (by rw [← nI_1 j]; rfl) rfl (ih (j + 1) (by omega) ok' hok'))
      have no : ¬ (∀ q, q < j + 1 → c5 q = c (98 + q)) → vm_T (vm_env l O f9) mX14_isRight 0 0 159 [(0, .ref a), (1, .int (nI i)), (2, .int (bi ok)), (3, .int (nI j))] [] h5 Q := fun n => vm_go rfl bX14_isRightx_159 oX14_isRightx_159 (nx false ⟨fun z => (nomatch z), fun z => absurd z n⟩)
      refine vm_go rfl bX14_isRightx_127 oX14_isRightx_127 ⟨fun q => absurd q (nI_ge (b := 48) (by omega) (by decide)), fun _ => ?_⟩
      cases ok with
      | false => exact ⟨fun _ => no (fun z => nomatch hok.mpr (fun q hq => z q (by omega))), fun q => absurd rfl q⟩
      | true =>
      have p5 := vf5 j (by omega)
      have p6 := vf6 (98 + j) (by omega)
      refine ⟨fun q => absurd q (by decide), fun _ => ⟨_, _, k5.1.1, rfl, ⟨48, f5, ef5, j, rfl, by omega, fun _ => ⟨_, _, k5.1.1, rfl, ⟨1208, f6, ef6, 98 + j, nI_add 98 j, by omega, fun _ => ?_⟩⟩⟩⟩⟩
      rw [p5.1, p6.1]
      refine ⟨fun q => no (fun z => q (by rw [z j (by omega)])), fun q => nx true ⟨fun _ q' hq' => ?_, fun _ => rfl⟩⟩
      by_cases e : q' = j
      · rw [e]; exact sb_inj p5.2 p6.2 q
      · exact hok.mp rfl q' (by omega)
  exact LP 48 0 rfl true ⟨fun _ q hq => by omega, fun _ => rfl⟩
/-- an ASKING is closed -/
theorem ST_cl {j : Nat} {f2 : Nat → Int32} (k : ST h a kn an kf af D w ou) (hj : j < an) (e2 : bo9 h 60 (a + 89) f2) (F : fr h h' (fun q => q = a + 89)) (n : bo9 h' 60 (a + 89) (upd f2 j 0)) : ST h' a kn an kf (fu af j (cl9 (af j))) D w ou := by
  obtain ⟨sk, ⟨⟨f1, k1, v1⟩, ⟨g2, k2, v2⟩, ⟨f3, k3, v3⟩, k4, k5, k6⟩, q3, q4, q5, q6, q7, q8, q9⟩ := k
  have e : ∀ q, q ≠ a + 89 → h'.2 q = h.2 q := fun q z => F.2 q z
  have eg : g2 = f2 := by
    have e : (Sum.inl (FieldType.boolean, 60, Sum.inl g2) : vm_Ob) = .inl (.boolean, 60, .inl f2) := k2.symm.trans e2
    injection e with e
    injection e with _ e
    injection e with _ e
    injection e
  subst eg
  have go9 : ∀ (P : Nat → aA → Prop), (∀ i, i < an → P i (af i)) → (P j (af j) → P j (cl9 (af j))) → ∀ i, i < an → P i (fu af j (cl9 (af j)) i) := fun P p1 p2 i hi => by
    by_cases c : i = j
    · rw [c, fu_e]; exact p2 (p1 j hj)
    · rw [fu_n c]; exact p1 i hi
  refine ⟨SK_cg sk q8 (fun q z => e q (by omega)), ⟨⟨f1, ia_cg9 k1 (e _ (by omega)), go9 (fun i v => f1 i = nI (aky v)) v1 (fun z => z)⟩, ⟨_, n, fun i hi => ?_⟩, ⟨f3, bv_cg k3 (e _ (by omega)), go9 (fun i v => sl f3 (98 * i) 98 = ain v) v3 (fun z => z)⟩, rr9_cg k4 (e _ (by omega)), fun i hi => iw_cg (k5 i hi) (e _ (by omega)), go9 (fun i v => aky v < kn ∧ wv h' 64 (a + 92 + i) (nlm (kf (aky v))) (abl v)) (fun i hi => ⟨(k6 i hi).1, wv_cg (k6 i hi).2 (e _ (by omega))⟩) (fun z => z)⟩, bv_cg q3 (e _ (by omega)), rl9_cg q4 (e _ (by omega)), rl9_cg q5 (e _ (by omega)), q6, q7, q8, q9⟩
  by_cases c : i = j
  · rw [c, fu_e, upd_e]; rfl
  · rw [fu_n c, upd_n c]; exact v2 i hi
set_option maxHeartbeats 2000000 in
theorem rp_endsTwo {i ask : Nat} (k : SY h a t g [] m y) (G : RG9 g 0 kn an rd dn wl wr ([] : List Nat).length ou.length) (st : ST h a kn an kf af D [] ou) (tw : rl9 h 1208 (a + 153) w) (hw : w.length ≤ 1200) (hi : i < kn) (ht : kty (kf i) = 2) (ki : KI (kf i)) (hl : w.length = ksz (kf i)) (hask : ask < an) (eask : aky (af ask) = i) (hAI : ∃ bl iv, AI t.2.2.1 t.2.2.2 (af ask) (kf i) bl iv) : vm_Met (vm_env l O f9) mX14_endsTwo 0 0 [.ref a, .int (nI ask), .int (nI i)] h (fun r h' => (r = some (.int (fFs t.2.2.1 t.2.2.2 ask w ou (kf i) af).1) ∧ RM h' a t 0 [] (fFs t.2.2.1 t.2.2.2 ask w ou (kf i) af).2.1 kn an rd kf (fFs t.2.2.1 t.2.2.2 ask w ou (kf i) af).2.2 D dn wl wr ∧ fr h h' (RF a))) := by
  suffices H : ∀ Q : Option Value → vm_H → Prop, (∀ r h', (r = some (.int (fFs t.2.2.1 t.2.2.2 ask w ou (kf i) af).1) ∧ RM h' a t 0 [] (fFs t.2.2.1 t.2.2.2 ask w ou (kf i) af).2.1 kn an rd kf (fFs t.2.2.1 t.2.2.2 ask w ou (kf i) af).2.2 D dn wl wr ∧ fr h h' (RF a)) → Q r h') → vm_Met (vm_env l O f9) mX14_endsTwo 0 0 [.ref a, .int (nI ask), .int (nI i)] h Q from H _ (fun _ _ z => z)
  intro Q hQ
  have ao := k.1.2.1
  have la : a < 1099511627776 := by omega
  have l154 : a + 154 < 1099511627776 := by omega
  have l89 : a + 89 < 1099511627776 := by omega
  obtain ⟨c, bc, ec⟩ := tw
  have hkn := st.2.2.2.2.2.2.2.1
  have han := st.2.2.2.2.2.2.2.2
  obtain ⟨n, N, e, d, t0, q⟩ := KI_2 ki ht
  obtain ⟨⟨ql1, ql2, qn⟩, ⟨qN, qe, qd', qt⟩, ⟨qt1, qt2⟩, hod, qe2, qd, qs, hN, qlo, qhi⟩ := id q
  have sk := st.1
  obtain ⟨sh, mh, wd⟩ := (sk.2.2.2.2.2.2.2.2.2.2 i hi).2 ht
  rw [← qN, ← qn] at mh
  obtain ⟨fm, efm, vm⟩ := sk.2.2.2.2.2.1
  obtain ⟨fl, efl, vl⟩ := sk.2.2.2.2.2.2.2.1
  obtain ⟨fe, efe, ve⟩ := sk.2.2.2.2.2.2.1
  obtain ⟨fs, efs, vs⟩ := sk.2.2.2.2.2.2.2.2.1
  obtain ⟨_, ⟨f2, ef2, v2⟩, ⟨ci, bi9, vi⟩, ⟨fb, efb, vfb⟩, _, k6⟩ := id st.2.1
  dsimp only at vm vfb
  have wb9 : wv h 64 (a + 92 + ask) n (abl (af ask)) := by
    have := (k6 ask hask).2
    unfold nlm at this
    rw [eask, if_neg (by omega), ← qn] at this
    exact this
  obtain ⟨r, hr⟩ : ∃ r, abl (af ask) = r := ⟨_, rfl⟩
  obtain ⟨inp, hinp⟩ : ∃ inp, ain (af ask) = inp := ⟨_, rfl⟩
  rw [hr] at wb9
  obtain ⟨lr, iv9, liv, hiv, linp⟩ : r < N ∧ ∃ j, j < N ∧ r * j % N = 1 ∧ inp.length = 98 := by
    obtain ⟨bl, iv, o1, l1, z | z⟩ := hAI
    · have := z.1; omega
    · rw [← qN] at z
      rw [hr] at z
      rw [hinp] at l1
      obtain ⟨j, z1, z2, _⟩ := z.2.2.2
      exact ⟨z.2.1, j, z1, z2, l1⟩
  have N1 : 1 < N := by omega
  obtain ⟨B, hB⟩ : ∃ B, bn (gb w) 0 (ksz (kf i)) = B := ⟨_, rfl⟩
  have eB : bn c 0 (ksz (kf i)) = B := by rw [← hB]; exact bn_w ec (by omega)
  obtain ⟨S, hS⟩ : ∃ S, iv9 * B % N = S := ⟨_, rfl⟩
  have eF0 : fFs t.2.2.1 t.2.2.2 ask w ou (kf i) af = cif (B < N ∧ sgOK t.2.2.1 t.2.2.2 (ksz (kf i)) t0 (ksa (kf i)) inp (wb (S ^ e % N) (ksz (kf i)))) (nI (98 + ksz (kf i)), inp ++ wb S (ksz (kf i)), fu af ask (cl9 (af ask))) (-4, ou, af) := by
    unfold fFs
    rw [hB, ← qN, ← qe, hr, ivm_e liv hiv, hS, hinp, ← qt]
  have pw : (256 : Nat) ^ ksz (kf i) ≤ 4294967296 ^ n := by
    rw [show (4294967296 : Nat) = 256 ^ 4 by decide, ← Nat.pow_mul]
    exact Nat.pow_le_pow_right (by decide) (by omega)
  have bNn : N < 4294967296 ^ n := Nat.lt_of_lt_of_le hN pw
  have bB : B < 4294967296 ^ n := by
    rw [← eB]
    exact Nat.lt_of_lt_of_le (bn_lt (ksz (kf i)) (fun j _ hj => bv_lt bc j (by omega))) pw
  have bad : ∀ h1, SY h1 a t g [] m y → fr h h1 (fun q => scr a q) → ¬ (B < N ∧ sgOK t.2.2.1 t.2.2.2 (ksz (kf i)) t0 (ksa (kf i)) inp (wb (S ^ e % N) (ksz (kf i)))) → Q (some (.int (-4))) h1 := fun h1 k1 F1 n9 => by
    rw [eF0, cif_f n9] at hQ
    exact hQ _ _ ⟨rfl, ⟨_, _, _, k1, G, ST_fr st F1 (fun q z => z)⟩, fr_mono F1 (fun q z => by unfold scr at z; unfold RF; omega)⟩
  refine vm_met rfl (Nat.le_of_ble_eq_true rfl) ?_
  refine vm_go rfl bX14_endsTwox_0 oX14_endsTwox_0 ⟨_, _, k.1.1, rfl, ⟨_, _, _, _, efm, by decide, rfl, i, rfl, by omega, va_e (vm i (by omega)), ?_⟩⟩
  refine vm_Th (lv' := [(0, .ref a), (1, .int (nI ask)), (2, .int (nI i)), (3, .ref (a + 219 + 6 * i))]) (h' := h) rfl rfl ?_
  obtain ⟨fa, ia1⟩ : iw h 64 (a + 158) := k.1.2.2.2.2.1 158 (by unfold ZI; omega)
  refine vm_go rfl bX14_endsTwox_7 oX14_endsTwox_7 ⟨_, _, k.1.1, rfl, ⟨_, _, k.1.1, rfl, ⟨6, fl, efl, i, rfl, by omega, fun _ => ?_⟩⟩⟩
  rw [vl i hi]
  refine ⟨_, _, k.1.1, rfl, ⟨_, _, mh.1.1, rfl, ⟨0, 0, _, rm_load (at9 := 0) (size := ksz (kf i)) (n := n) bc (by omega) (by decide) ia1 (by omega) (by omega) (by omega) (by omega), Nat.zero_le _, Nat.zero_le _, ?_⟩⟩⟩
  rintro _ h1 ⟨rfl, w1, F1⟩
  rw [eB] at w1
  have k1 : SY h1 a t g [] m y := SY_fr k (RK_of k.1 F1 ((F1.2 a (by omega)).trans k.1.1) (fun q z => .inr (z ▸ GD_i (i := 158) (by unfold ZI; omega) (wv_iw w1)))) F1 (by omega)
  have mh1 := MH_cg3 mh F1 (by omega)
  have FF1 : fr h h1 (fun q => scr a q) := fr_mono F1 (fun q z => by unfold scr; omega)
  refine ⟨_, _, k1.1.1, rfl, ⟨_, _, mh1.1.1, rfl, ⟨_, _, mh1.1.1, rfl, ⟨0, 0, _, rm_cmp w1 mh1.1.2.1 (by omega) (by omega) (by omega) bB bNn, Nat.zero_le _, Nat.zero_le _, ?_⟩⟩⟩⟩
  rintro _ h3 ⟨hc, e3⟩
  rw [e3]; clear e3 h3
  rcases hc with ⟨hc, rfl⟩ | ⟨hc, rfl⟩ | ⟨hc, rfl⟩
  rotate_left
  · exact ⟨fun q => absurd q (by decide), fun _ => bad h1 k1 FF1 (fun z => by have := z.1; omega)⟩
  · exact ⟨fun q => absurd q (by decide), fun _ => bad h1 k1 FF1 (fun z => by have := z.1; omega)⟩
  refine ⟨fun _ => ?_, fun q => absurd (by decide) q⟩
  have wb1 : wv h1 64 (a + 92 + ask) n r := wv_cg wb9 (F1.2 _ (by omega))
  refine vm_go rfl bX14_endsTwox_50 oX14_endsTwox_50 ⟨_, _, k1.1.1, rfl, ⟨_, _, _, _, (F1.2 _ (by omega)).trans efb, by decide, rfl, ask, rfl, by omega, va_e (vfb ask (by omega)), ⟨_, _, k1.1.1, rfl, ⟨_, k1.1.1, 0, 0, _, rm_inv (A := r) (L3 := 64) mh1.1 k1.1.1 (CU_6 (RK_cu k1.1) (by decide) (by decide)) (CU_6 (RK_cu k1.1) (by decide) (by decide)) (CU_6 (RK_cu k1.1) (by decide) (by decide)) (CU_6 (RK_cu k1.1) (by decide) (by decide)) wb1 (by omega) (RK_64 k1.1 (i := 159) (by unfold ZI; omega) rfl) (by omega) lr hod ao (by omega) (by omega) (by omega) (by omega) (by omega), Nat.zero_le _, Nat.zero_le _, ?_⟩⟩⟩⟩
  rintro _ h2 ⟨⟨ok, T, rfl, hok, lT, hT, wT⟩, ⟨r4, r5, r6, r7⟩, F2⟩
  have hok1 : ok = true := hok.mpr (inv_gcd N1 hiv)
  have eT : T = iv9 := ivm_u lT liv (hT hok1) hiv
  rw [eT] at wT
  rw [hok1]
  have k2 : SY h2 a t g [] m y := SY_fr k1 (RK_of k1.1 F2 ((F2.2 a (by omega)).trans k1.1.1) (fun q z => by
    rcases z with z | rfl
    · rcases (show q = a + 4 ∨ q = a + 5 ∨ q = a + 6 ∨ q = a + 7 by omega) with rfl | rfl | rfl | rfl
      · exact .inr (GD_i (by unfold ZI; omega) r4)
      · exact .inr (GD_i (by unfold ZI; omega) r5)
      · exact .inr (GD_i (by unfold ZI; omega) r6)
      · exact .inr (GD_i (by unfold ZI; omega) r7)
    · exact .inr (GD_i (by unfold ZI; omega) (wv_iw wT)))) F2 (by omega)
  have F02 : fr h h2 (fun q => scr a q) := fr_trans FF1 (fr_mono F2 (fun q z => by unfold scr; omega))
  refine vm_Th (lv' := [(0, .ref a), (1, .int (nI ask)), (2, .int (nI i)), (3, .ref (a + 219 + 6 * i)), (4, .int 1)]) (h' := h2) rfl rfl ?_
  have mh2 := MH_cg3 mh1 F2 (by omega)
  have w12 : wv h2 64 (a + 158) n B := wv_cg w1 (F2.2 _ (by omega))
  refine vm_go rfl bX14_endsTwox_67 oX14_endsTwox_67 ⟨_, _, k2.1.1, rfl, ⟨_, _, k2.1.1, rfl, ⟨_, _, k2.1.1, rfl, ⟨_, k2.1.1, 0, 0, _, rm_times mh2 k2.1.1 (CU_1 (RK_cu k2.1)) w12 wT (by omega) (by omega) bB (by omega) (wv_iw w12) (by omega) (by omega) (by omega) (by omega) (by omega) (by omega) (by omega) ao, Nat.zero_le _, Nat.zero_le _, ?_⟩⟩⟩⟩
  rintro _ h4 ⟨rfl, w4, r1, F4⟩
  rw [Nat.mul_comm B iv9, hS] at w4
  have k4 : SY h4 a t g [] m y := SY_fr k2 (RK_of k2.1 F4 ((F4.2 a (by omega)).trans k2.1.1) (fun q z => by
    rcases z with rfl | rfl
    · exact .inr (GD_i (by unfold ZI; omega) r1)
    · exact .inr (GD_i (by unfold ZI; omega) (wv_iw w4)))) F4 (by omega)
  have F04 : fr h h4 (fun q => scr a q) := fr_trans F02 (fr_mono F4 (fun q z => by unfold scr; omega))
  have mh4 := MH_cg3 mh2 F4 (by omega)
  have sk4 : SK h4 a kn kf := SK_fr sk hkn F04 (fun q z => z)
  have lS : S < N := by rw [← hS]; exact Nat.mod_lt _ (by omega)
  have e98 : (98 : Int32) * nI ask = nI (98 * ask) := nI_mul 98 ask
  have bi4 : bv h4 5880 (a + 90) ci := bv_cg bi9 (F04.2 _ (by unfold scr; omega))
  refine ⟨_, _, k4.1.1, rfl, ⟨_, _, k4.1.1, rfl, ⟨_, k4.1.1, 0, 0, _, vm_metE (by rw [← e98]; rfl) (rm_isSigned (p1 := 98 * ask) k4 sk4 hkn hi q mh4 ⟨fe, ia_cg9 efe (F04.2 _ (by unfold scr; omega)), by rw [ve i hi ht, ← qe]⟩ ⟨fs, ia_cg9 efs (F04.2 _ (by unfold scr; omega)), vs i hi ht⟩ bi4 (by omega) (by decide) (by omega) w4 (by omega)), Nat.zero_le _, Nat.zero_le _, ?_⟩⟩⟩
  rintro _ h5 ⟨⟨ok, rfl, hok5⟩, k5, F5⟩
  have ein : sl ci (98 * ask) 98 = inp := by rw [← hinp]; exact vi ask hask
  rw [ein] at hok5
  have F05 : fr h h5 (fun q => scr a q) := fr_trans F04 (fr_mono F5 (fun q z => by unfold scr; omega))
  cases ok with
  | false => exact ⟨fun q => absurd rfl q, fun _ => bad h5 k5 F05 (fun z => nomatch hok5.mpr ⟨lS, z.2⟩)⟩
  | true =>
  rw [eF0, cif_t ⟨hc, (hok5.mp rfl).2⟩] at hQ
  refine ⟨fun _ => ?_, fun q => absurd q (by decide)⟩
  have st5 := ST_fr st F05 (fun q z => z)
  have w5 : wv h5 64 (a + 158) n S := wv_cg w4 (F5.2 _ (by omega))
  obtain ⟨co, bo, _⟩ := st5.2.2.2.2.1
  have bi5 : bv h5 5880 (a + 90) ci := bv_cg bi4 (F5.2 _ (by omega))
  obtain ⟨fi, efi, vfi⟩ := id bi5
  refine vm_go rfl bX14_endsTwox_107 oX14_endsTwox_107 (vm_Th (lv' := [(0, .ref a), (1, .int (nI ask)), (2, .int (nI i)), (3, .ref (a + 219 + 6 * i)), (4, .int 1), (5, .int (nI 0))]) (h' := h5) rfl rfl ?_)
  refine vm_loop (fun j h' => SY h' a t g [] m y ∧ (∃ c', bv h' 2900 (a + 154) c' ∧ ∀ q, q < j → c' (0 + q) = ci (98 * ask + q)) ∧ fr h5 h' (fun q => q = a + 154)) 98 (fun j => [(0, .ref a), (1, .int (nI ask)), (2, .int (nI i)), (3, .ref (a + 219 + 6 * i)), (4, .int 1), (5, .int (nI j))]) 0 h5 (Nat.zero_le _) ⟨k5, ⟨co, bo, fun j hj => by omega⟩, fr_refl⟩ ?_ ?_
  rotate_left
  · rintro j h7 _ hj ⟨k7, ⟨c7, ⟨f7, ef7, vf7⟩, v7⟩, F7⟩ ih
    have vs9 := vfi (98 * ask + j) (by omega)
    refine vm_go rfl bX14_endsTwox_110 oX14_endsTwox_110 ⟨fun q => absurd q (nI_ge (b := 98) hj (by decide)), fun _ => ⟨_, _, k7.1.1, rfl, ⟨_, _, k7.1.1, rfl, ⟨5880, fi, (F7.2 _ (by omega)).trans efi, 98 * ask + j, by rw [← nI_add, ← nI_mul]; rfl, by omega, fun _ => ⟨2900, f7, ef7, l154, j, rfl, by omega, ?_⟩⟩⟩⟩⟩
    obtain ⟨h8, eh8⟩ : ∃ h8, h8 = vm_up h7 (a + 154) (.inl (.byte, 2900, .inl (upd f7 j (sb (ci (98 * ask + j)))))) := ⟨_, rfl⟩
    have F8 : fr h7 h8 (fun q => q = a + 154) := eh8 ▸ fr_up rfl
    have b8' : bv h8 2900 (a + 154) (b1 c7 j (ci (98 * ask + j))) := eh8 ▸ bv_up vf7 vs9.2
    refine vm_Th (lv' := [(0, .ref a), (1, .int (nI ask)), (2, .int (nI i)), (3, .ref (a + 219 + 6 * i)), (4, .int 1), (5, .int (nI j))]) (h' := h8) rfl (by rw [eh8, ← sb_self _ vs9.2, ← vs9.1]; rfl) ?_
    have b8' : bv h8 2900 (a + 154) (b1 c7 (0 + j) (ci (98 * ask + j))) := by rw [Nat.zero_add]; exact b8'
    refine vm_go rfl bX14_endsTwox_136 oX14_endsTwox_136 (vm_Th (by rw [← nI_1 j]; rfl) rfl (ih h8 ⟨SY_off k7 F8 (fun q z => by omega), ⟨_, b8', bstp (v := fun q => ci (98 * ask + q)) v7 rfl⟩, fr_trans F7 F8⟩))
  rintro h6 ⟨k6', ⟨c6, b6, v6⟩, F6⟩
  refine vm_go rfl bX14_endsTwox_110 oX14_endsTwox_110 ⟨fun _ => ?_, fun q => absurd (nI_le (a := 98) (b := 98) (by decide) (by decide)) q⟩
  have efl6 : h6.2 (a + 86) = _ := (F6.2 _ (by omega)).trans ((F05.2 _ (by unfold scr; omega)).trans efl)
  refine vm_go rfl bX14_endsTwox_142 oX14_endsTwox_142 ⟨_, _, k6'.1.1, rfl, ⟨_, _, k6'.1.1, rfl, ⟨_, _, k6'.1.1, rfl, ⟨6, fl, efl6, i, rfl, by omega, fun _ => ?_⟩⟩⟩⟩
  rw [vl i hi]
  refine ⟨0, 0, _, rm_store (at9 := 98) (size := ksz (kf i)) (n := n) (wv_cg w5 (F6.2 _ (by omega))) (by omega) b6 l154 (by omega) (by omega) (by omega) (by decide), Nat.zero_le _, Nat.zero_le _, ?_⟩
  rintro _ h7 ⟨rfl, ⟨c7, b7, e7, o7⟩, F7⟩
  have k7 := SY_off k6' F7 (fun q z => by omega)
  refine ⟨_, _, k7.1.1, rfl, ⟨6, fl, (F7.2 _ (by omega)).trans efl6, i, rfl, by omega, fun _ => ?_⟩⟩
  rw [vl i hi]
  refine ⟨_, k7.1.1, la, show 77 < 89 by decide, trivial, ?_⟩
  obtain ⟨h8, eh8⟩ : ∃ h8, h8 = vm_up h7 a (RO a (u3 (ug g 77 (nI (98 + ksz (kf i)))) (nI ([] : List Nat).length) (nI m.length) (nI y.length))) := ⟨_, rfl⟩
  obtain ⟨k8, F8⟩ := SY_g k7 eh8
  refine vm_Th (lv' := [(0, .ref a), (1, .int (nI ask)), (2, .int (nI i)), (3, .ref (a + 219 + 6 * i)), (4, .int 1), (5, .int (nI 98))]) (h' := h8) rfl (by rw [eh8, ← nI_add]; rfl) ?_
  have F58 : fr h5 h8 (fun q => q = a ∨ q = a + 154) := fr_trans (fr_mono F6 (fun q z => .inr z)) (fr_trans (fr_mono F7 (fun q z => .inr z)) (fr_mono F8 (fun q z => .inl z)))
  have lE : (inp ++ wb S (ksz (kf i))).length = 98 + ksz (kf i) := by rw [List.length_append, wb_len, linp]
  have eE : sl c7 0 (98 + ksz (kf i)) = inp ++ wb S (ksz (kf i)) := by
    rw [sl_app, Nat.zero_add, e7, ← ein]
    congr 1
    exact sl_ext (fun j hj => by rw [o7 _ (by omega)]; exact v6 j hj)
  have st8 : ST h8 a kn an kf af D [] (inp ++ wb S (ksz (kf i))) := ST_ou st5 F58 (fun q z => by unfold scr; omega) ⟨c7, bv_cg b7 (F8.2 _ (by omega)), by rw [lE]; exact eE⟩ (by omega)
  have ef28 : bo9 h8 60 (a + 89) f2 := (F58.2 _ (by omega)).trans ((F05.2 _ (by unfold scr; omega)).trans ef2)
  refine vm_go rfl bX14_endsTwox_174 oX14_endsTwox_174 ⟨_, _, k8.1.1, rfl, ⟨60, f2, ef28, l89, ask, rfl, by omega, ?_⟩⟩
  obtain ⟨h9', eh9⟩ : ∃ h9', h9' = vm_up h8 (a + 89) (.inl (.boolean, 60, .inl (upd f2 ask 0))) := ⟨_, rfl⟩
  have F9 : fr h8 h9' (fun q => q = a + 89) := eh9 ▸ fr_up rfl
  have n9 : bo9 h9' 60 (a + 89) (upd f2 ask 0) := by rw [eh9]; exact vm_upe
  refine vm_Th (lv' := [(0, .ref a), (1, .int (nI ask)), (2, .int (nI i)), (3, .ref (a + 219 + 6 * i)), (4, .int 1), (5, .int (nI 98))]) (h' := h9') rfl eh9 ?_
  have k9 := SY_off k8 F9 (fun q z => by omega)
  refine vm_go rfl bX14_endsTwox_181 oX14_endsTwox_181 ⟨_, _, k9.1.1, rfl, ?_⟩
  refine hQ _ _ ⟨rfl, ⟨_, _, _, k9, ?_, ST_cl st8 hask ef28 F9 n9⟩, fr_trans (fr_mono F05 (fun q z => by unfold scr at z; unfold RF; omega)) (fr_trans (fr_mono F58 (fun q z => by unfold RF; omega)) (fr_mono F9 (fun q z => by unfold RF; omega)))⟩
  rw [lE]; exact RG_ol (w := []) G
end
