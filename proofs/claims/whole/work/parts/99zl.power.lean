/-! the reference: power -/
theorem bit_E (E i : Nat) : dw E (i / 32) / 2 ^ (i % 32) % 2 = E / 2 ^ i % 2 := by
  unfold dw
  have h1 : 4294967296 ^ (i / 32) = 2 ^ (32 * (i / 32)) := by rw [show 4294967296 = 2 ^ 32 from rfl, ← Nat.pow_mul]
  have h2 : i = 32 * (i / 32) + i % 32 := by omega
  have h3 : (4294967296 : Nat) = 2 ^ (i % 32) * 2 ^ (32 - i % 32) := by
    rw [← Nat.pow_add, show i % 32 + (32 - i % 32) = 32 by omega]
  have h4 : E / 2 ^ i = E / 2 ^ (32 * (i / 32)) / 2 ^ (i % 32) := by
    rw [Nat.div_div_eq_div_mul, ← Nat.pow_add, ← h2]
  rw [h1, h4]
  generalize E / 2 ^ (32 * (i / 32)) = x
  rw [h3, Nat.mod_mul_right_div_self]
  refine Nat.mod_mod_of_dvd _ ?_
  obtain ⟨t, ht⟩ : ∃ t, 32 - i % 32 = t + 1 := ⟨31 - i % 32, by omega⟩
  rw [ht, Nat.pow_succ, Nat.mul_comm]
  exact Nat.dvd_mul_right 2 _
theorem bit_m {E i bits : Nat} (h : i < bits) : E % 2 ^ bits / 2 ^ i = 2 * (E % 2 ^ bits / 2 ^ (i + 1)) + E / 2 ^ i % 2 := by
  have h1 : 2 ^ bits = 2 ^ i * 2 ^ (bits - i) := by rw [← Nat.pow_add]; congr 1; omega
  have h2 : E % 2 ^ bits / 2 ^ (i + 1) = E % 2 ^ bits / 2 ^ i / 2 := by rw [Nat.pow_succ, Nat.div_div_eq_div_mul]
  have h3 : E % 2 ^ bits / 2 ^ i % 2 = E / 2 ^ i % 2 := by
    rw [h1, Nat.mod_mul_right_div_self]
    refine Nat.mod_mod_of_dvd _ ?_
    obtain ⟨t, ht⟩ : ∃ t, bits - i = t + 1 := ⟨bits - i - 1, by omega⟩
    rw [ht, Nat.pow_succ, Nat.mul_comm]
    exact Nat.dvd_mul_right 2 _
  rw [h2, ← h3]
  omega
theorem pw_0 {A N e : Nat} : A ^ e % N * (A ^ e % N) % N = A ^ (2 * e) % N := by
  rw [← Nat.mul_mod, ← Nat.pow_add, Nat.two_mul]
theorem pw_1 {A N e : Nat} : A ^ (2 * e) % N * A % N = A ^ (2 * e + 1) % N := by
  rw [Nat.pow_succ, Nat.mod_mul_mod]
section
variable {l : Launch} {O : Nat → vm_Ob} {f9 : Value} {h : vm_H}
theorem rm_power {a M mm hg n N sh pa pe c L1 L2 L3 A E bits m : Nat} {g : Nat → Int32} (k : MH h M mm hg n N sh) (ho : h.2 a = RO a g) (r1 : iw h 130 (a + 1)) (r2 : iw h 64 (a + 2)) (r3 : iw h 64 (a + 3)) (ha : wv h L1 pa n A) (h1 : n ≤ L1) (hA : A < N) (he : wv h L2 pe m E) (hm : m ≤ L2) (hm2 : m ≤ 64) (hbits : bits ≤ 32 * m) (hc : iw h L3 c) (h3 : n ≤ L3) (hco : c < 1099511627776) (hc4 : c < a + 1 ∨ a + 3 < c) (hpe : pe < a + 1 ∨ a + 3 < pe) (hmi : mm < a + 1 ∨ a + 3 < mm) (hhi : hg < a + 1 ∨ a + 3 < hg) (hao : a + 300 < 1099511627776) : vm_Met (vm_env l O f9) mX14_power 0 0 [.ref a, .ref M, .ref pa, .ref pe, .int (nI bits), .ref c] h (fun r h' => r = none ∧ wv h' L3 c n (A ^ (E % 2 ^ bits) % N) ∧ (iw h' 130 (a + 1) ∧ iw h' 64 (a + 2) ∧ iw h' 64 (a + 3)) ∧ fr h h' (fun q => q = a + 1 ∨ q = a + 2 ∨ q = a + 3 ∨ q = c)) := by
  have kk := k
  obtain ⟨⟨k1, k2, k3, k4, k5, k6⟩, kh, hs, hHl, hH2⟩ := kk
  obtain ⟨fa, ea, va⟩ := id ha
  obtain ⟨f2, e2⟩ := r2
  obtain ⟨f3, e3⟩ := r3
  obtain ⟨f1, e1⟩ := id r1
  have n1 := MH_i k e1
  have n2 := MH_i k e2
  have n3 := MH_i k e3
  have hn : n < 65536 := by omega
  refine vm_met rfl (Nat.le_of_ble_eq_true rfl) ?_
  refine vm_go rfl bX14_powerx_0 oX14_powerx_0 ⟨_, _, ho, rfl, ⟨_, _, k1, rfl, ⟨0, 0, _, rm_copy ea e2 h1 k3 hn (by omega), Nat.zero_le _, Nat.zero_le _, ?_⟩⟩⟩
  rintro _ xa ⟨rfl, ⟨ga, ea1, ea2, _⟩, Fa⟩
  have wa : wv xa 64 (a + 2) n A := wv_cp ha fa ea ⟨ga, ea1, ea2⟩
  refine ⟨_, _, (Fa.2 a (by omega)).trans ho, rfl, ⟨_, _, (Fa.2 M n2).trans k1, rfl, ⟨0, 0, _, rm_small (x := 1) ((Fa.2 (a + 3) (by omega)).trans e3) k3 (by omega) hn (by omega), Nat.zero_le _, Nat.zero_le _, ?_⟩⟩⟩
  rintro _ xb ⟨rfl, ⟨gb9, eb1, eb2, eb3, _⟩, Fb⟩
  have wb9 : wv xb 64 (a + 3) n 1 := wv_sm eb1 (by decide) eb2 eb3
  have wa : wv xb 64 (a + 2) n A := wv_cg wa (Fb.2 _ (by omega))
  have hr1 : iw xb 130 (a + 1) := iw_cg r1 ((Fb.2 _ (by omega)).trans (Fa.2 _ (by omega)))
  have Fb : fr h xb (fun q => q = a + 1 ∨ q = a + 2 ∨ q = a + 3) := fr_trans (fr_mono Fa (fun q z => by omega)) (fr_mono Fb (fun q z => by omega))
  refine vm_Th (lv' := [(0, .ref a), (1, .ref M), (2, .ref pa), (3, .ref pe), (4, .int (nI bits)), (5, .ref c), (6, .int (iZ ((bits : Int) - 1)))]) (h' := xb) ?_ rfl ?_
  · have : iZ ((bits : Int) - 1) = nI bits - 1 := by
      rw [iZ_nI, show (1 : Int32) = iZ 1 by decide, iZ_sub]
    rw [this]; rfl
  have TT : ∀ i, i ≤ bits → ∀ h4 : vm_H, wv h4 64 (a + 2) n A → wv h4 64 (a + 3) n (A ^ (E % 2 ^ bits / 2 ^ i) % N) → iw h4 130 (a + 1) → fr h h4 (fun q => q = a + 1 ∨ q = a + 2 ∨ q = a + 3) → vm_T (vm_env l O f9) mX14_power 0 0 30 [(0, .ref a), (1, .ref M), (2, .ref pa), (3, .ref pe), (4, .int (nI bits)), (5, .ref c), (6, .int (iZ ((i : Int) - 1)))] [] h4 (fun r h' => r = none ∧ wv h' L3 c n (A ^ (E % 2 ^ bits) % N) ∧ (iw h' 130 (a + 1) ∧ iw h' 64 (a + 2) ∧ iw h' 64 (a + 3)) ∧ fr h h' (fun q => q = a + 1 ∨ q = a + 2 ∨ q = a + 3 ∨ q = c)) := by
    intro i
    induction i with
    | zero =>
      intro _ h4 w2 w3 r1 F4
      refine vm_go rfl bX14_powerx_30 oX14_powerx_30 ⟨fun _ => ?_, fun q => absurd (show iZ (((0 : Nat) : Int) - 1) < 0 by decide) q⟩
      rw [Nat.pow_zero, Nat.div_one] at w3
      obtain ⟨g3, e3, v3⟩ := id w3
      obtain ⟨fc, ec⟩ := hc
      refine vm_go rfl bX14_powerx_94 oX14_powerx_94 ⟨_, _, (F4.2 a (by omega)).trans ho, rfl, ⟨_, _, (F4.2 M (by omega)).trans k1, rfl, ⟨0, 0, _, rm_copy e3 ((F4.2 c (by omega)).trans ec) k3 h3 hn hco, Nat.zero_le _, Nat.zero_le _, ?_⟩⟩⟩
      rintro _ h5 ⟨rfl, ⟨g5, e5, v5, _⟩, F5⟩
      exact ⟨rfl, wv_cp w3 g3 e3 ⟨g5, e5, v5⟩, ⟨iw_cg r1 (F5.2 _ (by omega)), iw_cg (wv_iw w2) (F5.2 _ (by omega)), iw_cg (wv_iw w3) (F5.2 _ (by omega))⟩, fr_trans (fr_mono F4 (fun q z => by omega)) (fr_mono F5 (fun q z => by omega))⟩
    | succ i ih =>
      intro hi h4 w2 w3 r1 F4
      have ei : iZ (((i + 1 : Nat) : Int) - 1) = nI i := by
        rw [iZ_nI]; congr 1; omega
      rw [ei]
      have hN : 0 < N := by omega
      have n0 : ¬ nI i < (0 : Int32) := by
        show ¬ nI i < nI 0
        rw [nI_ltI (by omega) (by decide)]; omega
      obtain ⟨e', ee⟩ : ∃ e', E % 2 ^ bits / 2 ^ (i + 1) = e' := ⟨_, rfl⟩
      have eb := bit_m (E := E) (i := i) (bits := bits) (by omega)
      rw [ee] at w3 eb
      have o4 : h4.2 a = RO a g := (F4.2 a (by omega)).trans ho
      have kM : MH h4 M mm hg n N sh := MH_cg k (F4.2 M (by omega)) (F4.2 mm (by omega)) (F4.2 hg (by omega))
      have hRb : A ^ e' % N < 4294967296 ^ n := Nat.lt_trans (Nat.mod_lt _ hN) k5
      have nx : ∀ h6 : vm_H, wv h6 64 (a + 2) n A → wv h6 64 (a + 3) n (A ^ (E % 2 ^ bits / 2 ^ i) % N) → iw h6 130 (a + 1) → fr h h6 (fun q => q = a + 1 ∨ q = a + 2 ∨ q = a + 3) → vm_T (vm_env l O f9) mX14_power 0 0 88 [(0, .ref a), (1, .ref M), (2, .ref pa), (3, .ref pe), (4, .int (nI bits)), (5, .ref c), (6, .int (nI i))] [] h6 (fun r h' => r = none ∧ wv h' L3 c n (A ^ (E % 2 ^ bits) % N) ∧ (iw h' 130 (a + 1) ∧ iw h' 64 (a + 2) ∧ iw h' 64 (a + 3)) ∧ fr h h' (fun q => q = a + 1 ∨ q = a + 2 ∨ q = a + 3 ∨ q = c)) := by
        intro h6 w26 w36 r16 F6
        refine vm_go rfl bX14_powerx_88 oX14_powerx_88 ?_
        refine vm_Th (lv' := [(0, .ref a), (1, .ref M), (2, .ref pa), (3, .ref pe), (4, .int (nI bits)), (5, .ref c), (6, .int (iZ ((i : Int) - 1)))]) (h' := h6) ?_ rfl (ih (by omega) h6 w26 w36 r16 F6)
        have : iZ ((i : Int) - 1) = nI i + (-1) := by
          rw [iZ_nI, show (-1 : Int32) = iZ (-1) by decide, iZ_add]; rfl
        rw [this]; rfl
      refine vm_go rfl bX14_powerx_30 oX14_powerx_30 ⟨fun q => absurd q n0, fun _ => ⟨_, _, o4, rfl, ⟨_, _, o4, rfl, ⟨_, _, o4, rfl, ⟨_, o4, 0, 0, _, rm_times kM o4 r1 w3 w3 k3 k3 hRb hRb (wv_iw w3) k3 (by omega) (by omega) (by omega) (by omega) (by omega) (by omega) hao, Nat.zero_le _, Nat.zero_le _, ?_⟩⟩⟩⟩⟩
      rintro _ h5 ⟨rfl, w35, r15, F5⟩
      rw [pw_0] at w35
      have w25 : wv h5 64 (a + 2) n A := wv_cg w2 (F5.2 _ (by omega))
      have F5 : fr h h5 (fun q => q = a + 1 ∨ q = a + 2 ∨ q = a + 3) := fr_trans F4 (fr_mono F5 (fun q z => by omega))
      obtain ⟨fe, ee5, ve⟩ := id he
      have ee5 : ia h5 L2 pe fe := (F5.2 pe (by omega)).trans ee5
      have ed : nI i / 32 = nI (i / 32) := nI_div (b := 32) (by omega) (by decide)
      have er : nI i - nI i / 32 * 32 = nI (i % 32) := nI_rem (b := 32) (by omega) (by decide)
      have hde := dw_lt E (i / 32)
      have eu : ((fe (i / 32)).toUInt32 >>> ((nI i - nI i / 32 * 32).toUInt32 &&& Int32.toUInt32 31)).toInt32 &&& 1 = nI (E / 2 ^ i % 2) := by
        rw [ve (i / 32) (by omega), er, nI_ush hde (by omega), nI_par, bit_E]
      have o5 : h5.2 a = RO a g := (F5.2 a (by omega)).trans ho
      refine ⟨by decide, ⟨L2, fe, ee5, i / 32, ed, by omega, fun _ => ⟨by decide, ?_⟩⟩⟩
      by_cases hb : E / 2 ^ i % 2 = 1
      · rw [hb] at eu eb
        refine ⟨fun q => absurd (show ((fe (i / 32)).toUInt32 >>> ((nI i - nI i / 32 * 32).toUInt32 &&& Int32.toUInt32 31)).toInt32 &&& 1 = 1 from eu) q, fun _ => ?_⟩
        have kM5 : MH h5 M mm hg n N sh := MH_cg k (F5.2 M (by omega)) (F5.2 mm (by omega)) (F5.2 hg (by omega))
        refine ⟨_, _, o5, rfl, ⟨_, _, o5, rfl, ⟨_, _, o5, rfl, ⟨_, o5, 0, 0, _, rm_times kM5 o5 r15 w35 w25 k3 k3 (Nat.lt_trans (Nat.mod_lt _ hN) k5) (by omega) (wv_iw w35) k3 (by omega) (by omega) (by omega) (by omega) (by omega) (by omega) hao, Nat.zero_le _, Nat.zero_le _, ?_⟩⟩⟩⟩
        rintro _ h6 ⟨rfl, w36, r16, F6⟩
        rw [pw_1, ← eb] at w36
        exact nx h6 (wv_cg w25 (F6.2 _ (by omega))) w36 r16 (fr_trans F5 (fr_mono F6 (fun q z => by omega)))
      · have hb0 : E / 2 ^ i % 2 = 0 := by omega
        rw [hb0] at eu eb
        rw [Nat.add_zero] at eb
        rw [← eb] at w35
        refine ⟨fun _ => nx h5 w25 w35 r15 F5, fun q => absurd (show ((fe (i / 32)).toUInt32 >>> ((nI i - nI i / 32 * 32).toUInt32 &&& Int32.toUInt32 31)).toInt32 &&& 1 = 1 from q) (by rw [eu]; decide)⟩
  refine TT bits (Nat.le_refl _) xb wa ?_ ?_ Fb
  · rw [Nat.div_eq_of_lt (Nat.mod_lt _ (Nat.pow_pos (by decide))), Nat.pow_zero, Nat.mod_eq_of_lt k6]
    exact wb9
  · exact hr1
end
