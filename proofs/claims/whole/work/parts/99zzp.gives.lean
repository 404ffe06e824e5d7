/-! the reference: keyOf, gives -/
def bX14_keyOfx_0 : List vm_J := [(1, .iconst (-1), 0, 0, 0, .int (-1)), (1, .istore_n 3, 0, 0, 0, .null)]
set_option maxRecDepth 20000 in
theorem oX14_keyOfx_0 : vm_okB 14 mX14_keyOf 0 bX14_keyOfx_0 = true := by decide +kernel
def bX14_keyOfx_2 : List vm_J := [(1, .aload_n 0, 0, 0, 0, .null), (3, .getfield 584, 14, 63, 0, .null), (1, .iconst 1, 0, 0, 0, .int 1), (1, .isub, 0, 0, 0, .null), (2, .istore 4, 0, 0, 0, .null)]
set_option maxRecDepth 20000 in
theorem oX14_keyOfx_2 : vm_okB 14 mX14_keyOf 2 bX14_keyOfx_2 = true := by decide +kernel
def bX14_keyOfx_10 : List vm_J := [(2, .iload 4, 0, 0, 0, .null), (3, .ifCond .lt 50, 62, 0, 0, .null), (1, .aload_n 0, 0, 0, 0, .null), (3, .getfield 453, 14, 55, 0, .null), (2, .iload 4, 0, 0, 0, .null), (1, .baload, 1, 0, 0, .null), (3, .ifCond .eq 34, 56, 0, 0, .null), (1, .aload_n 0, 0, 0, 0, .null), (3, .getfield 450, 14, 54, 0, .null), (2, .iload 4, 0, 0, 0, .null), (1, .iaload, 0, 0, 0, .null), (1, .iload_n 1, 0, 0, 0, .null), (3, .if_icmp .ne 23, 56, 0, 0, .null), (1, .aload_n 0, 0, 0, 0, .null), (3, .getfield 457, 14, 56, 0, .null), (2, .bipush 32, 0, 0, 0, .int 32), (2, .iload 4, 0, 0, 0, .null), (1, .imul, 0, 0, 0, .null), (2, .bipush 31, 0, 0, 0, .int 31), (1, .iadd, 0, 0, 0, .null), (1, .baload, 0, 0, 0, .null), (1, .iload_n 2, 0, 0, 0, .null), (3, .if_icmp .ne 6, 56, 0, 0, .null), (2, .iload 4, 0, 0, 0, .null), (1, .istore_n 3, 0, 0, 0, .null)]
set_option maxRecDepth 20000 in
theorem oX14_keyOfx_10 : vm_okB 14 mX14_keyOf 10 bX14_keyOfx_10 = true := by decide +kernel
def bX14_keyOfx_56 : List vm_J := [(3, .iinc 4 (-1), 0, 0, 0, .int (-1)), (3, .goto (-49), 10, 0, 0, .null)]
set_option maxRecDepth 20000 in
theorem oX14_keyOfx_56 : vm_okB 14 mX14_keyOf 56 bX14_keyOfx_56 = true := by decide +kernel
def bX14_keyOfx_62 : List vm_J := [(1, .iload_n 3, 0, 0, 0, .null), (1, .ireturn, 0, 0, 0, .null)]
set_option maxRecDepth 20000 in
theorem oX14_keyOfx_62 : vm_okB 14 mX14_keyOf 62 bX14_keyOfx_62 = true := by decide +kernel
def bX14_givesx_0 : List vm_J := [(1, .iconst 1, 0, 0, 0, .int 1), (1, .istore_n 3, 0, 0, 0, .null)]
set_option maxRecDepth 20000 in
theorem oX14_givesx_0 : vm_okB 14 mX14_gives 0 bX14_givesx_0 = true := by decide +kernel
def bX14_givesx_2 : List vm_J := [(1, .iconst 0, 0, 0, 0, .int 0), (2, .istore 4, 0, 0, 0, .null)]
set_option maxRecDepth 20000 in
theorem oX14_givesx_2 : vm_okB 14 mX14_gives 2 bX14_givesx_2 = true := by decide +kernel
def bX14_givesx_5 : List vm_J := [(2, .iload 4, 0, 0, 0, .null), (1, .iload_n 2, 0, 0, 0, .null), (3, .if_icmp .ge 36, 44, 0, 0, .null), (1, .iload_n 3, 0, 0, 0, .null), (3, .ifCond .eq 32, 44, 0, 0, .null), (1, .aload_n 0, 0, 0, 0, .null), (1, .aload_n 0, 0, 0, 0, .null), (3, .getfield 492, 14, 74, 0, .null), (1, .iconst 3, 0, 0, 0, .int 3), (2, .bipush 49, 0, 0, 0, .int 49), (2, .iload 4, 0, 0, 0, .null), (1, .imul, 0, 0, 0, .null), (1, .iadd, 0, 0, 0, .null), (1, .aload_n 0, 0, 0, 0, .null), (3, .getfield 380, 14, 41, 0, .null), (2, .iload 4, 0, 0, 0, .null), (1, .aaload, 0, 0, 0, .null), (3, .invokevirtual 628, 162, 3, 14, .null), (1, .istore_n 3, 0, 0, 0, .null)]
set_option maxRecDepth 20000 in
theorem oX14_givesx_5 : vm_okB 14 mX14_gives 5 bX14_givesx_5 = true := by decide +kernel
def bX14_givesx_38 : List vm_J := [(3, .iinc 4 1, 0, 0, 0, .int 1), (3, .goto (-36), 5, 0, 0, .null)]
set_option maxRecDepth 20000 in
theorem oX14_givesx_38 : vm_okB 14 mX14_gives 38 bX14_givesx_38 = true := by decide +kernel
def bX14_givesx_44 : List vm_J := [(1, .aload_n 0, 0, 0, 0, .null), (3, .getfield 492, 14, 74, 0, .null), (1, .iconst 3, 0, 0, 0, .int 3), (2, .bipush 49, 0, 0, 0, .int 49), (1, .iload_n 2, 0, 0, 0, .null), (1, .imul, 0, 0, 0, .null), (1, .iadd, 0, 0, 0, .null), (2, .bipush 48, 0, 0, 0, .int 48), (1, .aload_n 0, 0, 0, 0, .null), (3, .getfield 525, 14, 87, 0, .null), (2, .bipush 12, 0, 0, 0, .int 12), (3, .invokestatic 176, 155, 5, 0, .null), (1, .iload_n 3, 0, 0, 0, .null), (3, .ifCond .eq 13, 79, 0, 0, .null), (1, .aload_n 0, 0, 0, 0, .null), (3, .getfield 525, 14, 87, 0, .null), (3, .invokestatic 580, 164, 1, 0, .null), (3, .ifCond .ne 6, 82, 0, 0, .null)]
set_option maxRecDepth 20000 in
theorem oX14_givesx_44 : vm_okB 14 mX14_gives 44 bX14_givesx_44 = true := by decide +kernel
def bX14_givesx_79 : List vm_J := [(2, .bipush (-4), 0, 0, 0, .int (-4)), (1, .ireturn, 0, 0, 0, .null)]
set_option maxRecDepth 20000 in
theorem oX14_givesx_79 : vm_okB 14 mX14_gives 79 bX14_givesx_79 = true := by decide +kernel
def bX14_givesx_82 : List vm_J := [(1, .iconst 0, 0, 0, 0, .int 0), (2, .istore 4, 0, 0, 0, .null)]
set_option maxRecDepth 20000 in
theorem oX14_givesx_82 : vm_okB 14 mX14_gives 82 bX14_givesx_82 = true := by decide +kernel
def bX14_givesx_85 : List vm_J := [(2, .iload 4, 0, 0, 0, .null), (1, .iload_n 2, 0, 0, 0, .null), (3, .if_icmp .ge 33, 121, 0, 0, .null), (1, .aload_n 0, 0, 0, 0, .null), (1, .aload_n 0, 0, 0, 0, .null), (3, .getfield 433, 14, 57, 0, .null), (1, .iload_n 1, 0, 0, 0, .null), (1, .aaload, 0, 0, 0, .null), (1, .aload_n 0, 0, 0, 0, .null), (3, .getfield 380, 14, 41, 0, .null), (2, .iload 4, 0, 0, 0, .null), (1, .aaload, 0, 0, 0, .null), (1, .aload_n 0, 0, 0, 0, .null), (3, .getfield 387, 14, 42, 0, .null), (2, .iload 4, 0, 0, 0, .null), (1, .aaload, 0, 0, 0, .null), (3, .invokevirtual 404, 158, 3, 14, .null), (3, .iinc 4 1, 0, 0, 0, .int 1), (3, .goto (-33), 85, 0, 0, .null)]
set_option maxRecDepth 20000 in
theorem oX14_givesx_85 : vm_okB 14 mX14_gives 85 bX14_givesx_85 = true := by decide +kernel
def bX14_givesx_121 : List vm_J := [(1, .iconst 0, 0, 0, 0, .int 0), (2, .istore 4, 0, 0, 0, .null)]
set_option maxRecDepth 20000 in
theorem oX14_givesx_121 : vm_okB 14 mX14_gives 121 bX14_givesx_121 = true := by decide +kernel
def bX14_givesx_124 : List vm_J := [(2, .iload 4, 0, 0, 0, .null), (1, .iload_n 2, 0, 0, 0, .null), (3, .if_icmp .ge 25, 152, 0, 0, .null), (1, .aload_n 0, 0, 0, 0, .null), (3, .getfield 387, 14, 42, 0, .null), (2, .iload 4, 0, 0, 0, .null), (1, .aaload, 0, 0, 0, .null), (3, .getfield 113, 13, 2, 0, .null), (3, .ifCond .eq 6, 146, 0, 0, .null), (2, .bipush (-4), 0, 0, 0, .int (-4)), (1, .ireturn, 0, 0, 0, .null)]
set_option maxRecDepth 20000 in
theorem oX14_givesx_124 : vm_okB 14 mX14_gives 124 bX14_givesx_124 = true := by decide +kernel
def bX14_givesx_146 : List vm_J := [(3, .iinc 4 1, 0, 0, 0, .int 1), (3, .goto (-25), 124, 0, 0, .null)]
set_option maxRecDepth 20000 in
theorem oX14_givesx_146 : vm_okB 14 mX14_gives 146 bX14_givesx_146 = true := by decide +kernel
def bX14_givesx_152 : List vm_J := [(1, .aload_n 0, 0, 0, 0, .null), (1, .iload_n 1, 0, 0, 0, .null), (1, .iload_n 2, 0, 0, 0, .null), (1, .aload_n 0, 0, 0, 0, .null), (3, .getfield 525, 14, 87, 0, .null), (3, .invokevirtual 632, 189, 3, 14, .null), (3, .ifCond .ne 6, 168, 0, 0, .null), (2, .bipush (-4), 0, 0, 0, .int (-4)), (1, .ireturn, 0, 0, 0, .null)]
set_option maxRecDepth 20000 in
theorem oX14_givesx_152 : vm_okB 14 mX14_gives 152 bX14_givesx_152 = true := by decide +kernel
def bX14_givesx_168 : List vm_J := [(1, .iconst 0, 0, 0, 0, .int 0), (2, .istore 4, 0, 0, 0, .null)]
set_option maxRecDepth 20000 in
theorem oX14_givesx_168 : vm_okB 14 mX14_gives 168 bX14_givesx_168 = true := by decide +kernel
def bX14_givesx_171 : List vm_J := [(2, .iload 4, 0, 0, 0, .null), (1, .iload_n 2, 0, 0, 0, .null), (3, .if_icmp .ge 28, 202, 0, 0, .null), (1, .aload_n 0, 0, 0, 0, .null), (3, .getfield 387, 14, 42, 0, .null), (2, .iload 4, 0, 0, 0, .null), (1, .aaload, 0, 0, 0, .null), (1, .aload_n 0, 0, 0, 0, .null), (3, .getfield 495, 14, 76, 0, .null), (2, .bipush 49, 0, 0, 0, .int 49), (2, .iload 4, 0, 0, 0, .null), (1, .imul, 0, 0, 0, .null), (3, .invokestatic 363, 163, 3, 0, .null), (3, .iinc 4 1, 0, 0, 0, .int 1), (3, .goto (-28), 171, 0, 0, .null)]
set_option maxRecDepth 20000 in
theorem oX14_givesx_171 : vm_okB 14 mX14_gives 171 bX14_givesx_171 = true := by decide +kernel
def bX14_givesx_202 : List vm_J := [(1, .aload_n 0, 0, 0, 0, .null), (3, .getfield 426, 14, 51, 0, .null), (1, .aload_n 0, 0, 0, 0, .null), (3, .getfield 495, 14, 76, 0, .null), (2, .bipush 49, 0, 0, 0, .int 49), (1, .iload_n 2, 0, 0, 0, .null), (1, .imul, 0, 0, 0, .null), (2, .bipush 48, 0, 0, 0, .int 48), (3, .invokestatic 192, 156, 4, 0, .null), (1, .aload_n 0, 0, 0, 0, .null), (3, .getfield 437, 14, 52, 0, .null), (1, .aload_n 0, 0, 0, 0, .null), (3, .getfield 495, 14, 76, 0, .null), (2, .bipush 49, 0, 0, 0, .int 49), (1, .iload_n 2, 0, 0, 0, .null), (1, .imul, 0, 0, 0, .null), (2, .bipush 48, 0, 0, 0, .int 48), (1, .iadd, 0, 0, 0, .null), (2, .bipush 48, 0, 0, 0, .int 48), (3, .invokestatic 192, 156, 4, 0, .null), (1, .aload_n 0, 0, 0, 0, .null), (2, .bipush 49, 0, 0, 0, .int 49), (1, .iload_n 2, 0, 0, 0, .null), (1, .imul, 0, 0, 0, .null), (2, .bipush 96, 0, 0, 0, .int 96), (1, .iadd, 0, 0, 0, .null), (3, .putfield 564, 14, 77, 0, .null)]
set_option maxRecDepth 20000 in
theorem oX14_givesx_202 : vm_okB 14 mX14_gives 202 bX14_givesx_202 = true := by decide +kernel
def bX14_givesx_250 : List vm_J := [(1, .aload_n 0, 0, 0, 0, .null), (3, .getfield 564, 14, 77, 0, .null), (1, .ireturn, 0, 0, 0, .null)]
set_option maxRecDepth 20000 in
theorem oX14_givesx_250 : vm_okB 14 mX14_gives 250 bX14_givesx_250 = true := by decide +kernel
theorem elL_inv {w : List Nat} {q : fq × fq} (lw9 : w.length = 49) (ow : ok8 w) (h : elL w = some q) : ptb q = w := by
  unfold elL at h
  split at h
  · next hy =>
    have hs : EL (gb w) 0 (@Classical.epsilon fq ⟨0⟩ (fun y => EL (gb w) 0 y)) := Classical.epsilon_spec_aux ⟨0⟩ (fun y => EL (gb w) 0 y) hy
    obtain ⟨y, ey⟩ : ∃ y, @Classical.epsilon fq ⟨0⟩ (fun y => EL (gb w) 0 y) = y := ⟨_, rfl⟩
    rw [ey] at h hs
    cases h
    obtain ⟨_, h2, _, h4⟩ := hs
    have h2 : bn (gb w) 1 48 < cPm + 1 := h2
    have ev : (fz (bn (gb w) 1 48 : Nat)).val = bn (gb w) 1 48 := by
      have := fz_v (bn (gb w) 1 48 : Nat)
      rw [Int.emod_eq_of_lt (by omega) (by omega)] at this
      omega
    have e9 : sl (gb w) 0 49 = w := by have := sl_gb w; rwa [lw9] at this
    show (2 + y.val % 2) :: wb (fz (bn (gb w) 1 48 : Nat)).val 48 = w
    rw [ev, bn_wb (fun j _ _ => ok8_gb ow _), Nat.add_comm 2, h4]
    conv => rhs; rw [← e9]
    rw [show (49 : Nat) = 1 + 48 from rfl, sl_app, Nat.zero_add, sl_1]
    rfl
  · cases h
theorem cs_mk {P : Nat → Option (fq × fq)} {f : Nat → Nat} (k : Nat) : ∀ n, (∀ i, i < n → ecO (-3) (fz (cB : Int)) (P i)) → cs (fun i => ecM (-3) fiv k (P i)) f n = ecM (-3) fiv k (cs P f n)
  | 0, _ => (ecM_none k).symm
  | n + 1, h => by
    show ecA (-3) fiv (cs (fun i => ecM (-3) fiv k (P i)) f n) (ecM (-3) fiv (f n) (ecM (-3) fiv k (P n))) = ecM (-3) fiv k (ecA (-3) fiv (cs P f n) (ecM (-3) fiv (f n) (P n)))
    rw [ecM_dist cK (cs_o n (fun i hi => h i (by omega))) (ecO_M cK (h n (by omega)) _) k, cs_mk k n (fun i hi => h i (by omega)), ← ecM_mul cK (h n (by omega)), ← ecM_mul cK (h n (by omega)), Nat.mul_comm]
theorem fst9_no {P : Nat → Bool} : ∀ n, (∀ i, i < n → P i ≠ true) → fst9 P n = none
  | 0, _ => rfl
  | n + 1, h => fst9_n (fst9_no n (fun i hi => h i (by omega))) (h n (by omega))
theorem fst9_is {P : Nat → Bool} {n i : Nat} (hi : i < n) (hp : P i = true) (h : ∀ j, j < i → P j ≠ true) : fst9 P n = some i := fst9_le (fst9_y (fst9_no i h) hp) hi
/-- what keyOf has found from the place j on -/
def FD9 (P : Nat → Bool) (n j : Nat) (v : Int32) : Prop := (v = -1 ∧ ∀ i, j ≤ i → i < n → P i ≠ true) ∨ ∃ i, j ≤ i ∧ i < n ∧ v = nI i ∧ P i = true ∧ ∀ q, j ≤ q → q < i → P q ≠ true
section
variable {l : Launch} {O : Nat → vm_Ob} {f9 : Value} {h h' : vm_H} {a kn an rd wr : Nat} {t : KT} {g g' : Nat → Int32} {m y w ou : List Nat} {kf : Nat → aK} {af : Nat → aA} {D : Nat → Nat} {dn : Bool} {wl : Int} {th : Int32}
theorem rm_keyOf {ty lb : Nat} {w9 : List Nat} (hty : ty < 128) (hlb : lb < 256) (hK : ∀ i, i < kn → kty (kf i) < 128) (k : SY h a t g w9 m y) (G : g 63 = nI kn) (sk : SK h a kn kf) (hkn : kn ≤ 6) : vm_Met (vm_env l O f9) mX14_keyOf 0 0 [.ref a, .int (nI ty), .int (sb lb)] h (fun r h' => (∃ v, r = some (.int v) ∧ ((v = -1 ∧ fnd kf kn ty lb = none) ∨ ∃ i, i < kn ∧ v = nI i ∧ fnd kf kn ty lb = some i ∧ kty (kf i) = ty)) ∧ h' = h) := by
  suffices H : ∀ Q : Option Value → vm_H → Prop, (∀ v, ((v = -1 ∧ fnd kf kn ty lb = none) ∨ ∃ i, i < kn ∧ v = nI i ∧ fnd kf kn ty lb = some i ∧ kty (kf i) = ty) → Q (some (.int v)) h) → vm_Met (vm_env l O f9) mX14_keyOf 0 0 [.ref a, .int (nI ty), .int (sb lb)] h Q from H _ (fun v z => ⟨⟨v, rfl, z⟩, rfl⟩)
  intro Q hQ
  have ao := k.1.2.1
  obtain ⟨⟨f1, ef1, v1⟩, ⟨f2, ef2, v2⟩, ⟨cid, bid, vid⟩, _⟩ := id sk
  obtain ⟨fd, efd, vfd⟩ := id bid
  obtain ⟨P, hP⟩ : ∃ P : Nat → Bool, P = (fun i => klv (kf i) && (decide (kty (kf i) = ty) && decide (gb (kid (kf i)) 31 = lb))) := ⟨_, rfl⟩
  have hf : fnd kf kn ty lb = fst9 P kn := by rw [hP]; rfl
  have pe : ∀ i, P i = true ↔ klv (kf i) = true ∧ kty (kf i) = ty ∧ gb (kid (kf i)) 31 = lb := fun i => by
    rw [hP]
    show (klv (kf i) && (decide (kty (kf i) = ty) && decide (gb (kid (kf i)) 31 = lb))) = true ↔ _
    rw [Bool.and_eq_true, Bool.and_eq_true, decide_eq_true_iff, decide_eq_true_iff]
  have LP : ∀ j, j ≤ kn → ∀ v, FD9 P kn j v → vm_T (vm_env l O f9) mX14_keyOf 0 0 10 [(0, .ref a), (1, .int (nI ty)), (2, .int (sb lb)), (3, .int v), (4, .int (iZ ((j : Int) - 1)))] [] h Q := by
    intro j
    induction j with
    | zero =>
      intro _ v fd9
      refine vm_go rfl bX14_keyOfx_10 oX14_keyOfx_10 ⟨fun _ => ?_, fun q => absurd (by decide) q⟩
      refine vm_go rfl bX14_keyOfx_62 oX14_keyOfx_62 (hQ v ?_)
      rw [hf]
      rcases fd9 with ⟨e, n⟩ | ⟨i, _, hi, e, hp, n⟩
      · exact .inl ⟨e, fst9_no kn (fun i hi => n i (by omega) hi)⟩
      · exact .inr ⟨i, hi, e, fst9_is hi hp (fun q hq => n q (by omega) hq), ((pe i).mp hp).2.1⟩
    | succ j ih =>
      intro hj v fd9
      have ej : iZ (((j + 1 : Nat) : Int) - 1) = nI j := by rw [iZ_nI]; congr 1; omega
      rw [ej]
      have em : nI j + -1 = iZ ((j : Int) - 1) := by
        rw [iZ_nI]
        show iZ (j : Int) + iZ (-1) = _
        rw [iZ_add]; rfl
      have nx : ∀ v', FD9 P kn j v' → vm_T (vm_env l O f9) mX14_keyOf 0 0 56 [(0, .ref a), (1, .int (nI ty)), (2, .int (sb lb)), (3, .int v'), (4, .int (nI j))] [] h Q := fun v' f' => by
        refine vm_go rfl bX14_keyOfx_56 oX14_keyOfx_56 (vm_Th (by rw [← em]; rfl) rfl (ih (by omega) v' f'))
      have keep : P j ≠ true → FD9 P kn j v := fun n => by
        rcases fd9 with ⟨e, n9⟩ | ⟨i, h1, hi, e, hp, n9⟩
        · exact .inl ⟨e, fun i hi1 hi2 => by
            by_cases c : i = j
            · rw [c]; exact n
            · exact n9 i (by omega) hi2⟩
        · exact .inr ⟨i, by omega, hi, e, hp, fun q hq1 hq2 => by
            by_cases c : q = j
            · rw [c]; exact n
            · exact n9 q (by omega) hq2⟩
      refine vm_go rfl bX14_keyOfx_10 oX14_keyOfx_10 ⟨fun q => absurd q (nI_pos (by omega)), fun _ => ⟨_, _, k.1.1, rfl, ⟨6, f2, ef2, j, rfl, by omega, fun _ => ?_⟩⟩⟩
      rw [v2 j (by omega)]
      cases el : klv (kf j) with
      | false => exact ⟨fun _ => nx v (keep (fun z => by rw [((pe j).mp z).1] at el; cases el)), fun q => absurd rfl q⟩
      | true =>
      refine ⟨fun q => absurd q (by decide), fun _ => ⟨_, _, k.1.1, rfl, ⟨6, f1, ef1, j, rfl, by omega, fun _ => ?_⟩⟩⟩
      rw [v1 j (by omega)]
      have h128 := hK j (by omega)
      refine ⟨fun q => nx v (keep (fun z => q (by rw [((pe j).mp z).2.1]))), fun q1 => ?_⟩
      have q1 : kty (kf j) = ty := (nI_ij (by omega) (by omega)).mp q1
      have vs9 := vfd (32 * j + 31) (by omega)
      refine ⟨_, _, k.1.1, rfl, ⟨192, fd, efd, 32 * j + 31, by rw [← nI_add, ← nI_mul]; rfl, by omega, fun _ => ?_⟩⟩
      rw [vs9.1]
      have e31 : gb (kid (kf j)) 31 = cid (32 * j + 31) := by rw [← vid j (by omega), gb_sl (by decide)]
      refine ⟨fun q => nx v (keep (fun z => q (by rw [← e31, ((pe j).mp z).2.2]))), fun q2 => ?_⟩
      have q2 : cid (32 * j + 31) = lb := sb_inj vs9.2 hlb q2
      refine vm_Th (lv' := [(0, .ref a), (1, .int (nI ty)), (2, .int (sb lb)), (3, .int (nI j)), (4, .int (nI j))]) (h' := h) rfl rfl ?_
      exact nx (nI j) (.inr ⟨j, Nat.le_refl _, by omega, rfl, (pe j).mpr ⟨el, q1, e31.trans q2⟩, fun q h1 h2 => by omega⟩)
  refine vm_met rfl (Nat.le_of_ble_eq_true rfl) ?_
  refine vm_go rfl bX14_keyOfx_0 oX14_keyOfx_0 (vm_Th (lv' := [(0, .ref a), (1, .int (nI ty)), (2, .int (sb lb)), (3, .int (-1))]) (h' := h) rfl rfl ?_)
  refine vm_go rfl bX14_keyOfx_2 oX14_keyOfx_2 ⟨_, _, k.1.1, rfl, ?_⟩
  have gk : u3 g (nI w9.length) (nI m.length) (nI y.length) 63 - 1 = iZ ((kn : Int) - 1) := by
    rw [show u3 g (nI w9.length) (nI m.length) (nI y.length) 63 = nI kn from G, iZ_nI]
    exact iZ_sub _ 1
  refine vm_Th (lv' := [(0, .ref a), (1, .int (nI ty)), (2, .int (sb lb)), (3, .int (-1)), (4, .int (iZ ((kn : Int) - 1)))]) (h' := h) (by rw [← gk]; rfl) rfl ?_
  exact LP kn (Nat.le_refl _) (-1) (.inl ⟨rfl, fun i h1 h2 => by omega⟩)
theorem rm_isType {ty : Nat} {w9 : List Nat} {c : Nat → Nat} (hty : ty < 128) (k : SY h a t g w9 m y) (bc : bv h 1208 (a + 153) c) : vm_Met (vm_env l O f9) mX14_isType 0 0 [.ref a, .int (nI ty)] h (fun r h' => (∃ ok : Bool, r = some (.int (bi ok)) ∧ (ok = true ↔ c 0 = 0 ∧ c 1 = ty)) ∧ h' = h) := by
  suffices H : ∀ Q : Option Value → vm_H → Prop, (∀ ok : Bool, (ok = true ↔ c 0 = 0 ∧ c 1 = ty) → Q (some (.int (bi ok))) h) → vm_Met (vm_env l O f9) mX14_isType 0 0 [.ref a, .int (nI ty)] h Q from H _ (fun v z => ⟨⟨v, rfl, z⟩, rfl⟩)
  intro Q hQ
  obtain ⟨f, ef, vf⟩ := bc
  have v0 := vf 0 (by decide)
  have v1 := vf 1 (by decide)
  have bad : ¬ (c 0 = 0 ∧ c 1 = ty) → vm_T (vm_env l O f9) mX14_isType 0 0 23 [(0, .ref a), (1, .int (nI ty))] [] h Q := fun n => vm_go rfl bX14_isType_23 oX14_isType_23 (vm_go rfl bX14_isType_24 oX14_isType_24 ⟨rfl, hQ false ⟨fun z => (nomatch z), fun z => absurd z n⟩⟩)
  refine vm_met rfl (Nat.le_of_ble_eq_true rfl) ?_
  refine vm_go rfl bX14_isType_0 oX14_isType_0 ⟨_, _, k.1.1, rfl, ⟨1208, f, ef, 0, rfl, by decide, fun _ => ?_⟩⟩
  rw [v0.1]
  have e0 := sb_eq _ v0.2 0 (by decide)
  have e1 := sb_eq _ v1.2 ty hty
  refine ⟨fun q => bad (fun z => q (e0.mpr z.1)), fun q0 => ⟨_, _, k.1.1, rfl, ⟨1208, f, ef, 1, rfl, by decide, fun _ => ?_⟩⟩⟩
  rw [v1.1]
  refine ⟨fun q => bad (fun z => q (e1.mpr z.2)), fun q1 => ?_⟩
  exact vm_go rfl bX14_isType_24 oX14_isType_24 ⟨rfl, hQ true ⟨fun _ => ⟨e0.mp q0, e1.mp q1⟩, fun _ => rfl⟩⟩
set_option maxHeartbeats 2000000 in
theorem rp_gives {i n : Nat} (h9 : f9.category = 1) (k : SY h a t g [] m y) (G : RG9 g 0 kn an rd dn wl wr ([] : List Nat).length ou.length) (st : ST h a kn an kf af D [] ou) (tw : rl9 h 1208 (a + 153) w) (hw : w.length ≤ 1200) (hi : i < kn) (ht : kty (kf i) = 1) (ki : KI (kf i)) (hn1 : 1 ≤ n) (hn8 : n ≤ 8) (hl : w.length = 3 + 49 * n + 48) : vm_Met (vm_env l O f9) mX14_gives 0 0 [.ref a, .int (nI i), .int (nI n)] h (fun r h' => (r = some (.int (fGv t.2.2.1 t.2.2.2 (kf i) w n ou).1) ∧ RM h' a t 0 [] (fGv t.2.2.1 t.2.2.2 (kf i) w n ou).2 kn an rd kf af D dn wl wr ∧ fr h h' (RF a))) := by
  suffices H : ∀ Q : Option Value → vm_H → Prop, (∀ r h', (r = some (.int (fGv t.2.2.1 t.2.2.2 (kf i) w n ou).1) ∧ RM h' a t 0 [] (fGv t.2.2.1 t.2.2.2 (kf i) w n ou).2 kn an rd kf af D dn wl wr ∧ fr h h' (RF a)) → Q r h') → vm_Met (vm_env l O f9) mX14_gives 0 0 [.ref a, .int (nI i), .int (nI n)] h Q from H _ (fun _ _ z => z)
  intro Q hQ
  have ao := k.1.2.1
  have la : a < 1099511627776 := by omega
  have l154 : a + 154 < 1099511627776 := by omega
  obtain ⟨c, bc, ec⟩ := tw
  have hkn := st.2.2.2.2.2.2.2.1
  obtain ⟨cw, hcw⟩ : ∃ cw : Nat → List Nat, cw = (fun i => sl (gb w) (3 + 49 * i) 49) := ⟨_, rfl⟩
  have cwe : ∀ j, j < n → sl c (3 + 49 * j) 49 = cw j := fun j hj => by rw [hcw]; exact sl_w ec (by omega)
  have cwl : ∀ j, (cw j).length = 49 := fun j => by rw [hcw]; exact sl_len
  have cwo : ∀ j, j < n → ok8 (cw j) := fun j hj => by rw [← cwe j hj]; exact ok8_sl (fun q hq => bv_lt bc _ (by omega))
  obtain ⟨X, hX⟩ : ∃ X, bn (gb (kse (kf i))) 0 48 = X := ⟨_, rfl⟩
  obtain ⟨R, hR⟩ : ∃ R, bn (gb w) (3 + 49 * n) 48 = R := ⟨_, rfl⟩
  have hX9 : 0 < X ∧ X < cQ := by
    obtain ⟨o1, o2, o3, l3, q | q⟩ := id ki
    · rw [← hX]; exact q.2.2.2.2.1
    · have := q.1; omega
  have bX : X < 4294967296 ^ 12 := Nat.lt_trans hX9.2 (by decide +kernel)
  obtain ⟨wX, A, eA, oA, sA⟩ := (st.1.2.2.2.2.2.2.2.2.2.2 i hi).1 ht
  rw [hX] at wX oA
  have oA : ecO (-3) (fz (cB : Int)) (some A) := by rw [oA]; exact ecO_M cK gP_o X
  obtain ⟨OK9, hOK⟩ : ∃ OK9, OK9 = evOK t.2.2.1 t.2.2.2 X R (ksh (kf i)) cw n := ⟨_, rfl⟩
  have eF0 : fGv t.2.2.1 t.2.2.2 (kf i) w n ou = cif OK9 (nI (49 * n + 96), evA t.2.2.1 t.2.2.2 X R (ksh (kf i)) cw n) (-4, ou) := by
    unfold fGv
    rw [hX, hR, hOK, hcw]
  have bad : ∀ h1 m' y', SY h1 a t g [] m' y' → fr h h1 (fun q => scr a q) → ¬ OK9 → Q (some (.int (-4))) h1 := fun h1 m' y' k1 F1 n9 => by
    rw [eF0, cif_f n9] at hQ
    exact hQ _ _ ⟨rfl, ⟨_, _, _, k1, G, ST_fr st F1 (fun q z => z)⟩, fr_mono F1 (fun q z => by unfold scr at z; unfold RF; omega)⟩
  -- from 44
  have s44 : ∀ (h1 : vm_H) (good : Bool) (j : Nat), SY h1 a t g [] m y → fr h h1 (fun q => scr a q) → (good = true → (∀ q, q < n → elL (cw q) ≠ none) ∧ ∀ q, q < n → SP h1 (a + 168 + 6 * q) (elL (cw q))) → (good = false → ∃ q, q < n ∧ elL (cw q) = none) → vm_T (vm_env l O f9) mX14_gives 0 0 44 [(0, .ref a), (1, .int (nI i)), (2, .int (nI n)), (3, .int (bi good)), (4, .int (nI j))] [] h1 Q := by
    intro h1 good j k1 F1 hy hn9
    obtain ⟨fn, en⟩ : iw h1 12 (a + 166) := k1.1.2.2.2.2.1 166 (by unfold ZI; omega)
    have bc1 : bv h1 1208 (a + 153) c := bv_cg bc (F1.2 _ (by unfold scr; omega))
    have e49 : (3 : Int32) + 49 * nI n = nI (3 + 49 * n) := by rw [← nI_add, ← nI_mul]; rfl
    refine vm_go rfl bX14_givesx_44 oX14_givesx_44 ⟨_, _, k1.1.1, rfl, ⟨_, _, k1.1.1, rfl, ⟨0, 0, _, vm_metE (by rw [← e49]; rfl) (rm_load (at9 := 3 + 49 * n) (size := 48) (n := 12) bc1 (by omega) (by decide) en (by omega) (by decide) (by decide) (by decide)), Nat.zero_le _, Nat.zero_le _, ?_⟩⟩⟩
    rintro _ h2 ⟨rfl, w2, F2⟩
    have eR : bn c (3 + 49 * n) 48 = R := by rw [← hR]; exact bn_w ec (by omega)
    have bR : R < 4294967296 ^ 12 := by rw [← eR]; exact Nat.lt_of_lt_of_le (bn_lt 48 (fun j _ hj => (bv_lt bc j (by omega)))) (by decide +kernel)
    rw [eR] at w2
    have k2 : SY h2 a t g [] m y := SY_fr k1 (RK_of k1.1 F2 ((F2.2 a (by omega)).trans k1.1.1) (fun q z => .inr (z ▸ GD_i (i := 166) (by unfold ZI; omega) (wv_iw w2)))) F2 (by omega)
    have F02 : fr h h2 (fun q => scr a q) := fr_trans F1 (fr_mono F2 (fun q z => by unfold scr; omega))
    cases good with
    | false =>
      obtain ⟨q9, hq9, eq9⟩ := hn9 rfl
      refine ⟨fun _ => vm_go rfl bX14_givesx_79 oX14_givesx_79 (bad h2 _ _ k2 F02 (fun z => ?_)), fun q => absurd rfl q⟩
      rw [hOK] at z
      have := z.2.1 q9 hq9
      unfold evZ at this
      rw [eq9, ecM_none] at this
      exact this rfl
    | true =>
    obtain ⟨el, sp⟩ := hy rfl
    refine ⟨fun q => absurd q (by decide), fun _ => ⟨_, _, k2.1.1, rfl, ⟨0, 0, _, rm_isSecret k2.1.2.2.1.1 w2 (by decide) bR, Nat.zero_le _, Nat.zero_le _, ?_⟩⟩⟩
    rintro _ h3 ⟨⟨ok, rfl, hok⟩, e3⟩
    rw [e3]; clear e3 h3
    cases ok with
    | false => exact ⟨fun q => absurd rfl q, fun _ => vm_go rfl bX14_givesx_79 oX14_givesx_79 (bad h2 _ _ k2 F02 (fun z => by rw [hOK] at z; exact nomatch hok.mpr z.1))⟩
    | true =>
    have hR9 := hok.mp rfl
    refine ⟨fun _ => ?_, fun q => absurd q (by decide)⟩
    have sp2 : ∀ q, q < n → SP h2 (a + 168 + 6 * q) (elL (cw q)) := fun q hq => SP_fr (sp q hq) F2 (fun q' z1 z2 => by omega)
    refine vm_go rfl bX14_givesx_82 oX14_givesx_82 (vm_Th (lv' := [(0, .ref a), (1, .int (nI i)), (2, .int (nI n)), (3, .int (bi true)), (4, .int (nI 0))]) (h' := h2) rfl rfl ?_)
    -- given
    refine vm_loop (fun j h' => SY h' a t g [] m y ∧ (∀ q, q < n → SP h' (a + 168 + 6 * q) (elL (cw q))) ∧ (∀ q, q < j → SP h' (a + 171 + 6 * q) (evZ X cw q)) ∧ fr h2 h' (fun q => scr a q ∧ q ≠ a + 166)) n (fun j => [(0, .ref a), (1, .int (nI i)), (2, .int (nI n)), (3, .int (bi true)), (4, .int (nI j))]) 0 h2 (Nat.zero_le _) ⟨k2, sp2, fun q hq => by omega, fr_refl⟩ ?_ ?_
    rotate_left
    · rintro j h7 _ hj ⟨k7, c7, d7, F7⟩ ih
      obtain ⟨fa, efa, vfa⟩ := k7.1.2.2.2.1.2.2.2.2.2.2.1
      obtain ⟨fb, efb, vfb⟩ := k7.1.2.2.2.1.2.2.2.2.2.2.2
      obtain ⟨fs4, e4, v4⟩ := st.1.2.2.2.1
      dsimp only at v4
      have F07 : fr h h7 (fun q => scr a q) := fr_trans F02 (fr_mono F7 (fun q z => z.1))
      have wX7 : wv h7 64 (a + 77 + i) 12 X := wv_cg wX (F07.2 _ (by unfold scr; omega))
      have oC : ecO (-3) (fz (cB : Int)) (elL (cw j)) := by
        obtain ⟨p, ep⟩ := Option.ne_none_iff_exists'.mp (el j hj)
        rw [ep]; exact elL_o ep
      refine vm_go rfl bX14_givesx_85 oX14_givesx_85 ⟨fun q => absurd q (nI_ge (b := n) hj (by omega)), fun _ => ⟨_, _, k7.1.1, rfl, ⟨_, _, _, _, (F07.2 _ (by unfold scr; omega)).trans e4, by decide, rfl, i, rfl, by omega, va_e (v4 i (by omega)), ⟨_, _, k7.1.1, rfl, ⟨_, _, _, _, efa, by decide, rfl, j, rfl, by omega, va_e (vfa j (by omega)), ⟨_, _, k7.1.1, rfl, ⟨_, _, _, _, efb, by decide, rfl, j, rfl, by omega, va_e (vfb j (by omega)), ⟨_, k7.1.1, 0, 0, _, (?mc : vm_Met (vm_env l O f9) mX14_multiply 0 0 [.ref a, .ref (a + 77 + i), .ref (a + 168 + 6 * j), .ref (a + 171 + 6 * j)] h7 (fun r h' => r = none ∧ RK h' a t (u3 g (nI ([] : List Nat).length) (nI m.length) (nI y.length)) ∧ SP h' (a + 171 + 6 * j) (evZ X cw j) ∧ fr h7 h' (fun q => JM a q ∨ (a + 171 + 6 * j ≤ q ∧ q ≤ a + 171 + 6 * j + 2)))), Nat.zero_le _, Nat.zero_le _, ?_⟩⟩⟩⟩⟩⟩⟩⟩
      case mc =>
        have := rq_mult (l := l) (O := O) (f9 := f9) (s := 171 + 6 * j) k7.1 wX7 (by decide) bX (c7 j hj) oC (by unfold ZP; omega) (by omega) (by omega) (by omega) (by omega)
        rw [← Nat.add_assoc] at this
        exact this
      rintro _ h8 ⟨rfl, r8, s8, F8⟩
      have JMo : ∀ q, JM a q → q < a + 28 ∧ a < q := fun q z => by unfold JM JW at z; omega
      have k8 : SY h8 a t g [] m y := SY_fr k7 r8 F8 ⟨fun z => by rcases z with z | z; exact absurd (JMo _ z) (by omega); omega, fun z => by rcases z with z | z; exact absurd (JMo _ z) (by omega); omega, fun z => by rcases z with z | z; exact absurd (JMo _ z) (by omega); omega⟩
      have o8 : ∀ q, a + 28 ≤ q → ¬ (a + 171 + 6 * j ≤ q ∧ q ≤ a + 171 + 6 * j + 2) → h8.2 q = h7.2 q := fun q z1 z2 => F8.2 q (fun z => z.elim (fun z => by have := JMo q z; omega) z2)
      refine vm_Th (by rw [← nI_1 j]; rfl) rfl (ih h8 ⟨k8, fun q hq => SP_cg (c7 q hq) (fun q' z1 z2 => o8 q' (by omega) (by omega)), fun q hq => ?_, fr_trans F7 (fr_mono F8 (fun q z => ?_))⟩)
      · by_cases e : q = j
        · rw [e]; exact s8
        · exact SP_cg (d7 q (by omega)) (fun q' z1 z2 => o8 q' (by omega) (by omega))
      · rcases z with z | z
        · have := JMo q z; unfold scr; omega
        · unfold scr; omega
    rintro h3 ⟨k3, c3, d3, F3⟩
    refine vm_go rfl bX14_givesx_85 oX14_givesx_85 ⟨fun _ => ?_, fun q => absurd (nI_le (a := n) (b := n) (Nat.le_refl _) (by omega)) q⟩
    have F03 : fr h h3 (fun q => scr a q) := fr_trans F02 (fr_mono F3 (fun q z => z.1))
    refine vm_go rfl bX14_givesx_121 oX14_givesx_121 (vm_Th (lv' := [(0, .ref a), (1, .int (nI i)), (2, .int (nI n)), (3, .int (bi true)), (4, .int (nI 0))]) (h' := h3) rfl rfl ?_)
    refine vm_loop (fun j h' => h' = h3 ∧ ∀ q, q < j → evZ X cw q ≠ none) n (fun j => [(0, .ref a), (1, .int (nI i)), (2, .int (nI n)), (3, .int (bi true)), (4, .int (nI j))]) 0 h3 (Nat.zero_le _) ⟨rfl, fun q hq => by omega⟩ ?_ ?_
    rotate_left
    · rintro j h7 _ hj ⟨e7, d7⟩ ih
      rw [e7]; clear e7 h7
      obtain ⟨fb, efb, vfb⟩ := k3.1.2.2.2.1.2.2.2.2.2.2.2
      refine vm_go rfl bX14_givesx_124 oX14_givesx_124 ⟨fun q => absurd q (nI_ge (b := n) hj (by omega)), fun _ => ⟨_, _, k3.1.1, rfl, ⟨_, _, _, _, efb, by decide, rfl, j, rfl, by omega, va_e (vfb j (by omega)), ⟨_, _, SP_fl (d3 j hj), rfl, ?_⟩⟩⟩⟩
      cases eZ : evZ X cw j with
      | none => exact ⟨fun q => absurd q (by decide), fun _ => bad h3 _ _ k3 F03 (fun z => by rw [hOK] at z; exact z.2.1 j hj eZ)⟩
      | some p =>
        refine ⟨fun _ => vm_go rfl bX14_givesx_146 oX14_givesx_146 (vm_Th (by rw [← nI_1 j]; rfl) rfl (ih h3 ⟨rfl, fun q hq => ?_⟩)), fun q => absurd rfl q⟩
        by_cases e : q = j
        · rw [e, eZ]; exact fun z => (nomatch z)
        · exact d7 q (by omega)
    rintro h7 ⟨e7, zn⟩
    rw [e7]; clear e7 h7
    refine vm_go rfl bX14_givesx_124 oX14_givesx_124 ⟨fun _ => ?_, fun q => absurd (nI_le (a := n) (b := n) (Nat.le_refl _) (by omega)) q⟩
    obtain ⟨C, hC⟩ : ∃ C : Nat → fq × fq, C = fun q => (elL (cw q)).getD (0, 0) := ⟨_, rfl⟩
    obtain ⟨Dd, hD⟩ : ∃ Dd : Nat → fq × fq, Dd = fun q => (evZ X cw q).getD (0, 0) := ⟨_, rfl⟩
    have eC : ∀ q, q < n → elL (cw q) = some (C q) := fun q hq => by
      obtain ⟨p, ep⟩ := Option.ne_none_iff_exists'.mp (el q hq)
      rw [hC]; show _ = some ((elL (cw q)).getD (0, 0)); rw [ep]; rfl
    have eD : ∀ q, q < n → evZ X cw q = some (Dd q) := fun q hq => by
      obtain ⟨p, ep⟩ := Option.ne_none_iff_exists'.mp (zn q hq)
      rw [hD]; show _ = some ((evZ X cw q).getD (0, 0)); rw [ep]; rfl
    have oC : ∀ q, q < n → ecO (-3) (fz (cB : Int)) (some (C q)) := fun q hq => elL_o (eC q hq)
    have oD : ∀ q, q < n → ecO (-3) (fz (cB : Int)) (some (Dd q)) := fun q hq => by
      rw [← eD q hq]; unfold evZ; rw [eC q hq]; exact ecO_M cK (oC q hq) X
    have wR3 : wv h3 12 (a + 166) 12 R := wv_cg w2 (F3.2 _ (fun z => z.2 rfl))
    have wX3 : wv h3 64 (a + 77 + i) 12 X := wv_cg wX (F03.2 _ (by unfold scr; omega))
    have sk3 : SK h3 a kn kf := SK_fr st.1 hkn F03 (fun q z => z)
    have sA3 : SP h3 (a + 216 + 6 * i) (some A) := SP_cg sA (fun q z1 z2 => F03.2 q (by unfold scr; omega))
    refine vm_go rfl bX14_givesx_152 oX14_givesx_152 ⟨_, _, k3.1.1, rfl, ⟨_, k3.1.1, 0, 0, _, rm_proves (n := n) (i := i) (C := C) (D := Dd) h9 k3 sk3 hkn hi sA3 oA hn8 (fun q hq => by rw [← eC q hq]; exact c3 q hq) (fun q hq => by rw [← eD q hq]; exact d3 q hq) oC oD wX3 bX wR3 hR9.2, Nat.zero_le _, Nat.zero_le _, ?_⟩⟩
    rintro _ h4 ⟨⟨M, Z, eM, eZ, ok, rfl, hok4, hy4⟩, ⟨m4, y4, k4⟩, F4⟩
    have F04 : fr h h4 (fun q => scr a q) := fr_trans F03 (fr_mono F4 (fun q z => PV_scr z))
    have eM9 : M = evM t.2.2.1 t.2.2.2 X (ksh (kf i)) cw n := by
      rw [eM]
      refine cs_c9 n (fun q hq => ⟨(eC q hq).symm, ?_⟩)
      rw [← eA, elL_inv (cwl q) (cwo q hq) (eC q hq), eD q hq]; rfl
    have eZ9 : Z = ecM (-3) fiv X M := by
      rw [eZ, eM, ← cs_mk X n oC]
      refine cs_c9 n (fun q hq => ⟨?_, rfl⟩)
      rw [← eD q hq]; unfold evZ; rw [eC q hq]
    have hOK4 : OK9 ↔ ok = true := by
      rw [hok4, hOK, eZ9, eM9]
      unfold evOK
      exact ⟨fun z => ⟨z.2.2.1, z.2.2.2.1, z.2.2.2.2.2, z.2.2.2.2.1⟩, fun z => ⟨hR9, zn, z.1, z.2.1, z.2.2.2, z.2.2.1⟩⟩
    cases ok with
    | false => exact ⟨fun q => absurd rfl q, fun _ => bad h4 _ _ k4 F04 (fun z => nomatch hOK4.mp z)⟩
    | true =>
    have yes := hOK4.mpr rfl
    rw [eF0, cif_t yes] at hQ
    obtain ⟨c9, ec9, wc, wsm⟩ := hy4 rfl
    refine ⟨fun _ => ?_, fun q => absurd q (by decide)⟩
    have d4 : ∀ q, q < n → SP h4 (a + 171 + 6 * q) (some (Dd q)) := fun q hq => by
      rw [← eD q hq]
      exact SP_cg (d3 q hq) (fun q' z1 z2 => F4.2 q' (fun z => by unfold PV CP JM JW at z; omega))
    refine vm_go rfl bX14_givesx_168 oX14_givesx_168 (vm_Th (lv' := [(0, .ref a), (1, .int (nI i)), (2, .int (nI n)), (3, .int (bi true)), (4, .int (nI 0))]) (h' := h4) rfl rfl ?_)
    obtain ⟨co, bo, _⟩ := (ST_fr st F04 (fun q z => z)).2.2.2.2.1
    refine vm_loop (fun j h' => SY h' a t g [] m4 y4 ∧ (∃ c', bv h' 2900 (a + 154) c' ∧ sl c' 0 (49 * j) = evl (evZ X cw) j) ∧ fr h4 h' (fun q => q = a + 154)) n (fun j => [(0, .ref a), (1, .int (nI i)), (2, .int (nI n)), (3, .int (bi true)), (4, .int (nI j))]) 0 h4 (Nat.zero_le _) ⟨k4, ⟨co, bo, rfl⟩, fr_refl⟩ ?_ ?_
    rotate_left
    · rintro j h7 _ hj ⟨k7, ⟨c7, b7, v7⟩, F7⟩ ih
      obtain ⟨fb, efb, vfb⟩ := k7.1.2.2.2.1.2.2.2.2.2.2.2
      have e49 : (49 : Int32) * nI j = nI (49 * j) := nI_mul 49 j
      refine vm_go rfl bX14_givesx_171 oX14_givesx_171 ⟨fun q => absurd q (nI_ge (b := n) hj (by omega)), fun _ => ⟨_, _, k7.1.1, rfl, ⟨_, _, _, _, efb, by decide, rfl, j, rfl, by omega, va_e (vfb j (by omega)), ⟨_, _, k7.1.1, rfl, ⟨0, 0, _, vm_metE (by rw [← e49]; rfl) (rm_bytes (at9 := 49 * j) (SP_cg (d4 j hj) (fun q z1 z2 => F7.2 q (by omega))) b7 l154 (by omega) (by decide)), Nat.zero_le _, Nat.zero_le _, ?_⟩⟩⟩⟩⟩
      rintro _ h8 ⟨rfl, ⟨c8, b8, e8, o8⟩, F8⟩
      refine vm_Th (by rw [← nI_1 j]; rfl) rfl (ih h8 ⟨SY_off k7 F8 (fun q z => by omega), ⟨c8, b8, ?_⟩, fr_trans F7 F8⟩)
      rw [show 49 * (j + 1) = 49 * j + 49 by omega, sl_app, Nat.zero_add, e8]
      show _ = evl (evZ X cw) j ++ ptO (evZ X cw j)
      rw [eD j hj, ← v7]
      congr 1
      exact sl_ext (fun q hq => o8 _ (by omega))
    rintro h5 ⟨k5, ⟨c5, b5, v5⟩, F5⟩
    refine vm_go rfl bX14_givesx_171 oX14_givesx_171 ⟨fun _ => ?_, fun q => absurd (nI_le (a := n) (b := n) (Nat.le_refl _) (by omega)) q⟩
    have e49 : (49 : Int32) * nI n = nI (49 * n) := nI_mul 49 n
    have e97 : (49 : Int32) * nI n + 48 = nI (49 * n + 48) := by rw [e49]; exact nI_add _ 48
    have e96 : (49 : Int32) * nI n + 96 = nI (49 * n + 96) := by rw [e49]; exact nI_add _ 96
    refine vm_go rfl bX14_givesx_202 oX14_givesx_202 ⟨_, _, k5.1.1, rfl, ⟨_, _, k5.1.1, rfl, ⟨0, 0, _, vm_metE (by rw [← e49]; rfl) (rm_store (at9 := 49 * n) (size := 48) (n := 12) (wv_cg wc (F5.2 _ (by omega))) (by decide) b5 l154 (by decide) (by decide) (by omega) (by decide)), Nat.zero_le _, Nat.zero_le _, ?_⟩⟩⟩
    rintro _ h6 ⟨rfl, ⟨c6, b6, e6, o6⟩, F6⟩
    have k6 := SY_off k5 F6 (fun q z => by omega)
    refine ⟨_, _, k6.1.1, rfl, ⟨_, _, k6.1.1, rfl, ⟨0, 0, _, vm_metE (by rw [← e97]; rfl) (rm_store (at9 := 49 * n + 48) (size := 48) (n := 12) (wv_cg wsm ((F6.2 _ (by omega)).trans (F5.2 _ (by omega)))) (by decide) b6 l154 (by decide) (by decide) (by omega) (by decide)), Nat.zero_le _, Nat.zero_le _, ?_⟩⟩⟩
    rintro _ h7 ⟨rfl, ⟨c7, b7, e7, o7⟩, F7⟩
    have k7 := SY_off k6 F7 (fun q z => by omega)
    refine ⟨_, k7.1.1, la, show 77 < 89 by decide, trivial, ?_⟩
    obtain ⟨h8, eh8⟩ : ∃ h8, h8 = vm_up h7 a (RO a (u3 (ug g 77 (nI (49 * n + 96))) (nI ([] : List Nat).length) (nI m4.length) (nI y4.length))) := ⟨_, rfl⟩
    obtain ⟨k8, F8⟩ := SY_g k7 eh8
    refine vm_Th (lv' := [(0, .ref a), (1, .int (nI i)), (2, .int (nI n)), (3, .int (bi true)), (4, .int (nI n))]) (h' := h8) rfl (by rw [eh8, ← e96]; rfl) ?_
    refine vm_go rfl bX14_givesx_250 oX14_givesx_250 ⟨_, _, k8.1.1, rfl, ?_⟩
    have lE : (evA t.2.2.1 t.2.2.2 X R (ksh (kf i)) cw n).length = 49 * n + 96 := by
      unfold evA
      rw [List.length_append, List.length_append, evl_len n zn, wb_len, wb_len]
    have eE : sl c7 0 (49 * n + 96) = evA t.2.2.1 t.2.2.2 X R (ksh (kf i)) cw n := by
      unfold evA
      rw [show 49 * n + 96 = 49 * n + 48 + 48 by omega, sl_app, sl_app, Nat.zero_add, Nat.zero_add, e7]
      have ecc : evC t.2.2.1 t.2.2.2 X R (ksh (kf i)) cw n = c9 := by
        rw [ec9, eZ9, eM9, ← eA]; rfl
      rw [ecc]
      congr 1
      rw [← v5, ← e6]
      congr 1
      · exact sl_ext (fun q hq => by rw [o7 _ (by omega), o6 _ (by omega)])
      · exact sl_ext (fun q hq => o7 _ (by omega))
    have F48 : fr h4 h8 (fun q => q = a ∨ q = a + 154) := fr_trans (fr_mono F5 (fun q z => .inr z)) (fr_trans (fr_mono F6 (fun q z => .inr z)) (fr_trans (fr_mono F7 (fun q z => .inr z)) (fr_mono F8 (fun q z => .inl z))))
    refine hQ _ _ ⟨rfl, ⟨_, _, _, k8, ?_, ST_ou (ST_fr st F04 (fun q z => z)) F48 (fun q z => by unfold scr; omega) ⟨c7, bv_cg b7 (F8.2 _ (by omega)), by rw [lE]; exact eE⟩ (show (evA t.2.2.1 t.2.2.2 X R (ksh (kf i)) cw n).length ≤ 2900 by omega)⟩, fr_trans (fr_mono F04 (fun q z => by unfold scr at z; unfold RF; omega)) (fr_mono F48 (fun q z => by unfold RF; omega))⟩
    rw [lE]; exact RG_ol (w := []) G
  refine vm_met rfl (Nat.le_of_ble_eq_true rfl) ?_
  refine vm_go rfl bX14_givesx_0 oX14_givesx_0 (vm_Th (lv' := [(0, .ref a), (1, .int (nI i)), (2, .int (nI n)), (3, .int (bi true))]) (h' := h) rfl rfl ?_)
  refine vm_go rfl bX14_givesx_2 oX14_givesx_2 (vm_Th (lv' := [(0, .ref a), (1, .int (nI i)), (2, .int (nI n)), (3, .int (bi true)), (4, .int (nI 0))]) (h' := h) rfl rfl ?_)
  refine vm_loop (fun j h' => SY h' a t g [] m y ∧ (∀ q, q < j → elL (cw q) ≠ none) ∧ (∀ q, q < j → SP h' (a + 168 + 6 * q) (elL (cw q))) ∧ fr h h' (fun q => scr a q)) n (fun j => [(0, .ref a), (1, .int (nI i)), (2, .int (nI n)), (3, .int (bi true)), (4, .int (nI j))]) 0 h (Nat.zero_le _) ⟨k, fun q hq => by omega, fun q hq => by omega, fr_refl⟩ ?_ ?_
  · rintro h1 ⟨k1, c1, d1, F1⟩
    refine vm_go rfl bX14_givesx_5 oX14_givesx_5 ⟨fun _ => s44 h1 true n k1 F1 (fun _ => ⟨c1, d1⟩) (fun z => nomatch z), fun q => absurd (nI_le (a := n) (b := n) (Nat.le_refl _) (by omega)) q⟩
  · rintro j h7 _ hj ⟨k7, c7, d7, F7⟩ ih
    obtain ⟨fa, efa, vfa⟩ := k7.1.2.2.2.1.2.2.2.2.2.2.1
    have e49 : (3 : Int32) + 49 * nI j = nI (3 + 49 * j) := by rw [← nI_add, ← nI_mul]; rfl
    have rmE := rm_element (l := l) (O := O) (f9 := f9) (s := 168 + 6 * j) (at9 := 3 + 49 * j) k7.1 (by unfold ZP; omega) (by omega) (bv_cg bc (F7.2 _ (by unfold scr; omega))) (by omega) (by decide) (fun q z => by unfold JV JW at z; omega)
    rw [← Nat.add_assoc, cwe j hj] at rmE
    refine vm_go rfl bX14_givesx_5 oX14_givesx_5 ⟨fun q => absurd q (nI_ge (b := n) hj (by omega)), fun _ => ⟨fun q => absurd q (by decide), fun _ => ⟨_, _, k7.1.1, rfl, ⟨_, _, k7.1.1, rfl, ⟨_, _, _, _, efa, by decide, rfl, j, rfl, by omega, va_e (vfa j (by omega)), ⟨_, k7.1.1, 0, 0, _, vm_metE (by rw [← e49]; rfl) rmE, Nat.zero_le _, Nat.zero_le _, ?_⟩⟩⟩⟩⟩⟩
    rintro _ h8 ⟨⟨ok, rfl, hok, hsp⟩, r8, F8⟩
    have k8 : SY h8 a t g [] m y := SY_fr k7 r8 F8 (by unfold JV JW; omega)
    have F08 : fr h h8 (fun q => scr a q) := fr_trans F7 (fr_mono F8 (fun q z => by unfold JV JW at z; unfold scr; omega))
    refine vm_Th (lv' := [(0, .ref a), (1, .int (nI i)), (2, .int (nI n)), (3, .int (bi ok)), (4, .int (nI j))]) (h' := h8) rfl rfl ?_
    cases ok with
    | true =>
      refine vm_go rfl bX14_givesx_38 oX14_givesx_38 (vm_Th (by rw [← nI_1 j]; rfl) rfl (ih h8 ⟨k8, fun q hq => ?_, fun q hq => ?_, F08⟩))
      · by_cases e : q = j
        · rw [e]; exact hok.mp rfl
        · exact c7 q (by omega)
      · by_cases e : q = j
        · rw [e]; exact hsp rfl
        · exact SP_cg (d7 q (by omega)) (fun q' z1 z2 => F8.2 q' (by unfold JV JW; omega))
    | false =>
      refine vm_go rfl bX14_givesx_38 oX14_givesx_38 (vm_Th (lv' := [(0, .ref a), (1, .int (nI i)), (2, .int (nI n)), (3, .int (bi false)), (4, .int (nI (j + 1)))]) (h' := h8) (by rw [← nI_1 j]; rfl) rfl ?_)
      have ex : ∃ q, q < n ∧ elL (cw q) = none := ⟨j, hj, Classical.not_not.mp (fun z => nomatch hok.mpr z)⟩
      refine vm_go rfl bX14_givesx_5 oX14_givesx_5 ⟨fun _ => s44 h8 false (j + 1) k8 F08 (fun z => nomatch z) (fun _ => ex), fun _ => ⟨fun _ => s44 h8 false (j + 1) k8 F08 (fun z => nomatch z) (fun _ => ex), fun q => absurd rfl q⟩⟩
end
