/-! the reference: halves, swap -/
def bX14_halvesx_0 : List vm_J := [(1, .iconst 0, 0, 0, 0, .int 0), (1, .istore_n 2, 0, 0, 0, .null)]
set_option maxRecDepth 20000 in
theorem oX14_halvesx_0 : vm_okB 14 mX14_halves 0 bX14_halvesx_0 = true := by decide +kernel
def bX14_halvesx_2 : List vm_J := [(1, .aload_n 1, 0, 0, 0, .null), (1, .iconst 0, 0, 0, 0, .int 0), (1, .iaload, 0, 0, 0, .null), (1, .iconst 1, 0, 0, 0, .int 1), (1, .iand, 0, 0, 0, .null), (1, .iconst 1, 0, 0, 0, .int 1), (3, .if_icmp .ne 17, 25, 0, 0, .null), (1, .aload_n 1, 0, 0, 0, .null), (1, .aload_n 0, 0, 0, 0, .null), (3, .getfield 22, 12, 0, 0, .null), (1, .aload_n 1, 0, 0, 0, .null), (1, .aload_n 0, 0, 0, 0, .null), (3, .getfield 13, 12, 2, 0, .null), (3, .invokestatic 18, 143, 4, 0, .null), (1, .istore_n 2, 0, 0, 0, .null)]
set_option maxRecDepth 20000 in
theorem oX14_halvesx_2 : vm_okB 14 mX14_halves 2 bX14_halvesx_2 = true := by decide +kernel
def bX14_halvesx_25 : List vm_J := [(1, .aload_n 1, 0, 0, 0, .null), (1, .aload_n 0, 0, 0, 0, .null), (3, .getfield 13, 12, 2, 0, .null), (1, .iload_n 2, 0, 0, 0, .null), (3, .invokestatic 83, 151, 3, 0, .null), (1, .return_, 0, 0, 0, .null)]
set_option maxRecDepth 20000 in
theorem oX14_halvesx_25 : vm_okB 14 mX14_halves 25 bX14_halvesx_25 = true := by decide +kernel
def bX14_swapx_0 : List vm_J := [(1, .iconst 0, 0, 0, 0, .int 0), (1, .istore_n 3, 0, 0, 0, .null)]
set_option maxRecDepth 20000 in
theorem oX14_swapx_0 : vm_okB 14 mX14_swap 0 bX14_swapx_0 = true := by decide +kernel
def bX14_swapx_2 : List vm_J := [(1, .iload_n 3, 0, 0, 0, .null), (1, .iload_n 2, 0, 0, 0, .null), (3, .if_icmp .ge 25, 29, 0, 0, .null), (1, .aload_n 0, 0, 0, 0, .null), (1, .iload_n 3, 0, 0, 0, .null), (1, .iaload, 0, 0, 0, .null), (2, .istore 4, 0, 0, 0, .null)]
set_option maxRecDepth 20000 in
theorem oX14_swapx_2 : vm_okB 14 mX14_swap 2 bX14_swapx_2 = true := by decide +kernel
def bX14_swapx_12 : List vm_J := [(1, .aload_n 0, 0, 0, 0, .null), (1, .iload_n 3, 0, 0, 0, .null), (1, .aload_n 1, 0, 0, 0, .null), (1, .iload_n 3, 0, 0, 0, .null), (1, .iaload, 0, 0, 0, .null), (1, .iastore, 0, 0, 0, .null), (1, .aload_n 1, 0, 0, 0, .null), (1, .iload_n 3, 0, 0, 0, .null), (2, .iload 4, 0, 0, 0, .null), (1, .iastore, 0, 0, 0, .null), (3, .iinc 3 1, 0, 0, 0, .int 1), (3, .goto (-24), 2, 0, 0, .null)]
set_option maxRecDepth 20000 in
theorem oX14_swapx_12 : vm_okB 14 mX14_swap 12 bX14_swapx_12 = true := by decide +kernel
def bX14_swapx_29 : List vm_J := [(1, .return_, 0, 0, 0, .null)]
set_option maxRecDepth 20000 in
theorem oX14_swapx_29 : vm_okB 14 mX14_swap 29 bX14_swapx_29 = true := by decide +kernel
theorem dw_par {X : Nat} : dw X 0 % 2 = X % 2 := by
  unfold dw
  rw [Nat.pow_zero, Nat.div_one]
  omega
theorem nI_par {x : Nat} : nI x &&& 1 = nI (x % 2) := by
  apply Int32.toBitVec_inj.mp
  rw [Int32.toBitVec_and]
  apply BitVec.eq_of_toNat_eq
  show (BitVec.ofNat 32 x &&& 1#32).toNat = (BitVec.ofNat 32 (x % 2)).toNat
  rw [BitVec.toNat_and, BitVec.toNat_ofNat, BitVec.toNat_ofNat]
  show x % 2 ^ 32 &&& 1 = _
  rw [Nat.and_one_is_mod, BitVec.toNat_ofNat]
  omega
section
variable {l : Launch} {O : Nat → vm_Ob} {f9 : Value} {h : vm_H}
theorem rm_halves {M mm hi n N L a X : Nat} {s : Int32} (k : MM h M mm hi n N s) (ha : wv h L a n X) (h1 : n ≤ L) (hao : a < 1099511627776) (ham : a ≠ mm) (hX : X < N) : vm_Met (vm_env l O f9) mX14_halves 0 0 [.ref M, .ref a] h (fun r h' => r = none ∧ wv h' L a n ((if X % 2 = 1 then X + N else X) / 2) ∧ fr h h' (fun q => q = a)) := by
  obtain ⟨k1, k2, k3, k4, k5, k6⟩ := k
  obtain ⟨f, ef, vf⟩ := id ha
  have haM : a ≠ M := fun z => by
    have ef : h.2 a = _ := ef
    rw [z, k1] at ef
    cases ef
  have p : 0 < 4294967296 ^ n := Nat.pow_pos (by decide)
  refine vm_met rfl (Nat.le_of_ble_eq_true rfl) ?_
  refine vm_go rfl bX14_halvesx_0 oX14_halvesx_0 ?_
  refine vm_Th (lv' := [(0, .ref M), (1, .ref a), (2, .int 0)]) (h' := h) rfl rfl ?_
  have e0 : f 0 &&& 1 = nI (X % 2) := by rw [vf 0 (by omega), nI_par, dw_par]
  by_cases q : X % 2 = 1
  · rw [if_pos q]
    refine vm_go rfl bX14_halvesx_2 oX14_halvesx_2 ⟨L, f, ef, 0, rfl, by omega, fun _ => ⟨fun y => absurd (show f 0 &&& 1 = 1 by rw [e0, q]; rfl) y, fun _ => ⟨_, _, k1, rfl, ⟨_, _, k1, rfl, ⟨0, 0, _, rm_plus ha k2 ef h1 (by omega) h1 (by omega) hao (by omega) k5, Nat.zero_le _, Nat.zero_le _, ?_⟩⟩⟩⟩⟩
    rintro _ h4 ⟨rfl, ⟨t1, e1, e2, e3⟩, F4⟩
    obtain ⟨cy, ecy⟩ : ∃ cy, (X + N) / 4294967296 ^ n = cy := ⟨_, rfl⟩
    have hcy : cy < 2 := by rw [← ecy, Nat.div_lt_iff_lt_mul p]; omega
    rw [ecy]
    refine vm_Th (lv' := [(0, .ref M), (1, .ref a), (2, .int (nI cy))]) (h' := h4) rfl rfl ?_
    have w4 : wv h4 L a n ((X + N) % 4294967296 ^ n) := ⟨t1, e1, fun j hj => by rw [e2 j hj, dw_mod hj]⟩
    have m4 : h4.2 M = _ := (F4.2 M (fun z => haM z.symm)).trans k1
    refine vm_go rfl bX14_halvesx_25 oX14_halvesx_25 ⟨_, _, m4, rfl, ⟨0, 0, _, rm_half (o9 := cy) w4 h1 (by omega) hao (Nat.mod_lt _ p) hcy, Nat.zero_le _, Nat.zero_le _, ?_⟩⟩
    rintro _ h5 ⟨rfl, w5, F5⟩
    have eS : (X + N) % 4294967296 ^ n + cy * 4294967296 ^ n = X + N := by
      rw [← ecy, Nat.mul_comm, Nat.add_comm]; exact Nat.div_add_mod _ _
    rw [eS] at w5
    exact ⟨rfl, w5, fr_trans F4 F5⟩
  · rw [if_neg q]
    refine vm_go rfl bX14_halvesx_2 oX14_halvesx_2 ⟨L, f, ef, 0, rfl, by omega, fun _ => ⟨fun _ => ?_, fun y => absurd (show f 0 &&& 1 = nI 1 from y) (by rw [e0, show X % 2 = 0 by omega]; decide)⟩⟩
    refine vm_go rfl bX14_halvesx_25 oX14_halvesx_25 ⟨_, _, k1, rfl, ⟨0, 0, _, rm_half (o9 := 0) ha h1 (by omega) hao (by omega) (by decide), Nat.zero_le _, Nat.zero_le _, ?_⟩⟩
    rintro _ h5 ⟨rfl, w5, F5⟩
    rw [Nat.zero_mul, Nat.add_zero] at w5
    exact ⟨rfl, w5, F5⟩
theorem rm_swap {L1 L2 a b n X Y : Nat} (ha : wv h L1 a n X) (hb : wv h L2 b n Y) (h1 : n ≤ L1) (h2 : n ≤ L2) (hn : n < 65536) (hab : a ≠ b) (hao : a < 1099511627776) (hbo : b < 1099511627776) : vm_Met (vm_env l O f9) mX14_swap 0 0 [.ref a, .ref b, .int (nI n)] h (fun r h' => r = none ∧ wv h' L1 a n Y ∧ wv h' L2 b n X ∧ fr h h' (fun q => q = a ∨ q = b)) := by
  obtain ⟨f, ef, vf⟩ := ha
  obtain ⟨g, eg, vg⟩ := hb
  refine vm_met rfl (Nat.le_of_ble_eq_true rfl) ?_
  refine vm_go rfl bX14_swap_0 oX14_swap_0 ?_
  refine vm_Th (lv' := [(0, .ref a), (1, .ref b), (2, .int (nI n)), (3, .int (nI 0))]) (h' := h) rfl rfl ?_
  refine vm_loop (fun i h' => (∃ f' g', ia h' L1 a f' ∧ ia h' L2 b g' ∧ (∀ k, k < i → f' k = g k ∧ g' k = f k) ∧ ∀ k, i ≤ k → f' k = f k ∧ g' k = g k) ∧ fr h h' (fun q => q = a ∨ q = b)) n (fun i => [(0, .ref a), (1, .ref b), (2, .int (nI n)), (3, .int (nI i))]) 0 h (Nat.zero_le _) ⟨⟨f, g, ef, eg, fun k hk => by omega, fun k _ => ⟨rfl, rfl⟩⟩, fr_refl⟩ ?_ ?_
  · rintro h4 ⟨⟨f', g', e1, e2, e3, _⟩, F4⟩
    refine vm_go rfl bX14_swapx_2 oX14_swapx_2 ⟨fun _ => ?_, fun q => absurd (nI_le (a := n) (b := n) (Nat.le_refl _) (by omega)) q⟩
    exact vm_go rfl bX14_swapx_29 oX14_swapx_29 ⟨rfl, ⟨f', e1, fun k hk => by rw [(e3 k hk).1]; exact vg k hk⟩, ⟨g', e2, fun k hk => by rw [(e3 k hk).2]; exact vf k hk⟩, F4⟩
  · rintro i h4 _ hi ⟨⟨f', g', e1, e2, e3, e4⟩, F4⟩ ih
    refine vm_go rfl bX14_swapx_2 oX14_swapx_2 ⟨fun q => absurd q (nI_ge hi (by omega)), fun _ => ⟨L1, f', e1, i, rfl, by omega, fun _ => ?_⟩⟩
    refine vm_Th (lv' := [(0, .ref a), (1, .ref b), (2, .int (nI n)), (3, .int (nI i)), (4, .int (f' i))]) (h' := h4) rfl rfl ?_
    have e5 : (vm_up h4 a (.inl (.int, L1, .inl (upd f' i (g' i))))).2 b = .inl (.int, L2, .inl g') := (vm_upn (fun z => hab z.symm)).trans e2
    refine vm_go rfl bX14_swapx_12 oX14_swapx_12 ⟨L2, g', e2, i, rfl, by omega, fun _ => ⟨L1, f', e1, hao, i, rfl, by omega, ⟨L2, g', e5, hbo, i, rfl, by omega, ?_⟩⟩⟩
    refine vm_Th (lv' := [(0, .ref a), (1, .ref b), (2, .int (nI n)), (3, .int (nI (i + 1))), (4, .int (f' i))]) (h' := vm_up (vm_up h4 a (.inl (.int, L1, .inl (upd f' i (g' i))))) b (.inl (.int, L2, .inl (upd g' i (f' i))))) (by rw [← nI_1]; rfl) rfl ?_
    refine vm_less [0, 1, 2, 3] (lv' := [(0, .ref a), (1, .ref b), (2, .int (nI n)), (3, .int (nI (i + 1)))]) rfl ?_
    have d := e4 i (Nat.le_refl _)
    refine ih _ ⟨⟨upd f' i (g' i), upd g' i (f' i), (vm_upn hab).trans vm_upe, vm_upe, fun k hk => ?_, fun k hk => ?_⟩, fr_trans F4 (fr_trans (fr_up (Or.inl rfl)) (fr_up (Or.inr rfl)))⟩
    · by_cases e : k = i
      · rw [e, upd_e, upd_e]; exact ⟨d.2, d.1⟩
      · rw [upd_n e, upd_n e]; exact e3 k (by omega)
    · rw [upd_n (by omega), upd_n (by omega)]; exact e4 k (by omega)
end
