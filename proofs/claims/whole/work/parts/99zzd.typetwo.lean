/-! the reference: a KEY of TYPE 2 -/
theorem lg_f : ∀ t0, t0 < 256 → 1 ≤ t0 → Nat.log2 t0 ≤ 7 ∧ (Nat.log2 t0 + 7) / 8 = 1 - ahd t0 ∧ ahd t0 ≤ 1 := by unfold ahd; decide +kernel
theorem pw_32 (n : Nat) : 4294967296 ^ n = 2 ^ (32 * n) := by
  rw [Nat.pow_mul]
theorem bit_u {n sh N len t0 : Nat} (h1 : N * 2 ^ sh < 4294967296 ^ n) (h2 : 4294967296 ^ n ≤ 2 * (N * 2 ^ sh)) (hsh : sh < 32) (hn : 1 ≤ n) (ht : 1 ≤ t0) (hlo : t0 * 256 ^ (len - 1) ≤ N) (hhi : N < (t0 + 1) * 256 ^ (len - 1)) : 32 * n - sh = 8 * (len - 1) + Nat.log2 t0 + 1 := by
  obtain ⟨b, hb⟩ : ∃ b, 32 * n = b + sh := ⟨32 * n - sh, by omega⟩
  have e1 : 4294967296 ^ n = 2 ^ b * 2 ^ sh := by rw [pw_32, hb, Nat.pow_add]
  have p0 : 0 < 2 ^ sh := Nat.pow_pos (by decide)
  have h1 : N < 2 ^ b := by
    rw [e1] at h1
    exact Nat.lt_of_mul_lt_mul_right h1
  have h2 : 2 ^ b ≤ 2 * N := by
    rw [e1, ← Nat.mul_assoc] at h2
    exact Nat.le_of_mul_le_mul_right h2 p0
  have l1 : 2 ^ Nat.log2 t0 ≤ t0 := Nat.log2_self_le (by omega)
  have l2 : t0 + 1 ≤ 2 ^ (Nat.log2 t0 + 1) := Nat.lt_log2_self
  generalize Nat.log2 t0 = g at *
  have e2 : (256 : Nat) ^ (len - 1) = 2 ^ (8 * (len - 1)) := by rw [Nat.pow_mul]
  rw [e2] at hlo hhi
  have h3 : 2 ^ (8 * (len - 1) + g) ≤ N := Nat.le_trans (by rw [Nat.pow_add, Nat.mul_comm]; exact Nat.mul_le_mul_right _ l1) hlo
  have h4 : N < 2 ^ (8 * (len - 1) + g + 1) := Nat.lt_of_lt_of_le hhi (by rw [Nat.add_assoc, Nat.pow_add, Nat.mul_comm (2 ^ _)]; exact Nat.mul_le_mul_right _ l2)
  have h5 : 8 * (len - 1) + g < b := (Nat.pow_lt_pow_iff_right (by decide)).mp (Nat.lt_of_le_of_lt h3 h1)
  have h6 : b < 8 * (len - 1) + g + 2 := (Nat.pow_lt_pow_iff_right (a := 2) (by decide)).mp (Nat.lt_of_le_of_lt h2 (by rw [Nat.pow_succ] at *; omega))
  omega
def clr (t0 : Nat) : Nat := if t0 = 1 then 255 else kep t0
theorem clr_e : ∀ t0, t0 < 256 → 1 ≤ t0 → (255 : Int32) >>> (nI (8 - 8 * ahd t0 - Nat.log2 t0) &&& 31) = nI (clr t0) ∧ 8 * ahd t0 + Nat.log2 t0 ≤ 8 ∧ clr t0 < 256 := by unfold clr ahd kep; decide +kernel
/-- what a KEY of TYPE 2 is -/
def K2N (x : aK) (n N e d t0 : Nat) : Prop := (66 ≤ ksz x ∧ ksz x ≤ 256 ∧ n = (ksz x + 3) / 4) ∧ (N = bn (gb (ksh x)) 0 (ksz x) ∧ e = bn (gb (ksh x)) (ksz x) 3 ∧ d = bn (gb (kse x)) 0 (ksz x) ∧ t0 = gb (ksh x) 0) ∧ (1 ≤ t0 ∧ t0 < 256) ∧ N % 2 = 1 ∧ (3 ≤ e ∧ e ≤ 65537) ∧ (0 < d ∧ d < N) ∧ (ksa x = 0 ∨ ksa x = 48 ∧ 100 ≤ ksz x) ∧ N < 256 ^ ksz x ∧ t0 * 256 ^ (ksz x - 1) ≤ N ∧ N < (t0 + 1) * 256 ^ (ksz x - 1)
theorem bn_hd9 {b : Nat → Nat} {p : Nat} : ∀ k, (∀ j, p ≤ j → j < p + (k + 1) → b j < 256) → b p * 256 ^ k ≤ bn b p (k + 1) ∧ bn b p (k + 1) < (b p + 1) * 256 ^ k
  | 0, h => by
    show b p * 1 ≤ 0 * 256 + b (p + 0) ∧ 0 * 256 + b (p + 0) < (b p + 1) * 1
    rw [Nat.add_zero]; omega
  | k + 1, h => by
    have ih := bn_hd9 k (fun j h1 h2 => h j h1 (by omega))
    have h9 := h (p + (k + 1)) (by omega) (by omega)
    show b p * 256 ^ (k + 1) ≤ bn b p (k + 1) * 256 + b (p + (k + 1)) ∧ bn b p (k + 1) * 256 + b (p + (k + 1)) < (b p + 1) * 256 ^ (k + 1)
    rw [Nat.pow_succ, ← Nat.mul_assoc, ← Nat.mul_assoc]
    generalize b p * 256 ^ k = A at *
    generalize (b p + 1) * 256 ^ k = B at *
    omega
theorem bn_od {b : Nat → Nat} {p k : Nat} : bn b p (k + 1) % 2 = b (p + k) % 2 := by
  show (bn b p k * 256 + b (p + k)) % 2 = _
  omega
theorem KI_2 {x : aK} (k : KI x) (h2 : kty x = 2) : ∃ n N e d t0, K2N x n N e d t0 := by
  obtain ⟨o1, o2, o3, l3, ⟨q, _⟩ | ⟨_, k1, k2, k3⟩⟩ := k
  · omega
  obtain ⟨len, hlen⟩ : ∃ len, ksz x = len := ⟨_, rfl⟩
  rw [hlen] at k1 k2 k3
  unfold kOK at k1
  rw [show (2 * len + 4 - 4) / 2 = len by omega] at k1
  obtain ⟨a1, a2, a3, a4, a5, a6, a7, a8, a9, a10, a11⟩ := k1
  have l12 : (ksh x ++ kse x).length = 2 * len + 3 := by rw [List.length_append, k2, k3]; omega
  have g1 : ∀ j, j < len + 3 → gb (ksh x ++ kse x ++ [ksa x]) j = gb (ksh x) j := fun j hj => by
    rw [gb_lo (by omega), gb_lo (by omega)]
  have g2 : ∀ j, j < len → gb (ksh x ++ kse x ++ [ksa x]) (len + 3 + j) = gb (kse x) j := fun j hj => by
    rw [gb_lo (by omega), gb_hi (by omega) (by omega), k2, show len + 3 + j - (len + 3) = j by omega]
  have g3 : gb (ksh x ++ kse x ++ [ksa x]) (2 * len + 4 - 1) = ksa x := by
    rw [gb_hi (by omega) (by rw [l12]; show _ < _ + 1; omega), l12, show 2 * len + 4 - 1 - (2 * len + 3) = 0 by omega]; rfl
  have b1 : bn (gb (ksh x ++ kse x ++ [ksa x])) 0 len = bn (gb (ksh x)) 0 len := bn_ext len (fun j hj => g1 _ (by omega))
  have b2 : bn (gb (ksh x ++ kse x ++ [ksa x])) len 3 = bn (gb (ksh x)) len 3 := bn_ext 3 (fun j hj => g1 _ (by omega))
  have b3 : bn (gb (ksh x ++ kse x ++ [ksa x])) (len + 3) len = bn (gb (kse x)) 0 len := by
    rw [← bn_gb (b := gb (ksh x ++ kse x ++ [ksa x])), ← bn_gb (b := gb (kse x))]
    congr 2
    exact sl_ext (fun j hj => by rw [g2 j hj, Nat.zero_add])
  rw [g1 0 (by omega)] at a4
  rw [g1 (len - 1) (by omega)] at a5
  rw [b2] at a6 a7 a8
  rw [b3] at a9 a10
  rw [b1] at a10
  rw [g3] at a11
  have hb : ∀ j, gb (ksh x) j < 256 := fun j => ok8_gb o1 j
  obtain ⟨l', el⟩ : ∃ l', len = l' + 1 := ⟨len - 1, by omega⟩
  have hd := bn_hd9 (b := gb (ksh x)) (p := 0) l' (fun j _ _ => hb j)
  have od := bn_od (b := gb (ksh x)) (p := 0) (k := l')
  rw [← el] at hd od
  rw [show len - 1 = 0 + l' by omega] at a5
  refine ⟨_, _, _, _, _, ⟨by omega, by omega, rfl⟩, ⟨rfl, rfl, rfl, rfl⟩, ⟨by omega, hb 0⟩, ?_, ?_, ?_, ?_, ?_, ?_⟩
  · rw [hlen, od]; exact a5
  · rw [hlen]; exact ⟨a6, a7⟩
  · rw [hlen]; exact ⟨a9, a10⟩
  · rw [hlen]; exact a11
  · rw [hlen]; exact bn_lt len (fun j _ _ => hb j)
  · rw [hlen, show len - 1 = l' by omega]; exact hd
theorem MH_bits {h : vm_H} {M n N sh len t0 : Nat} (k : MH h M (M + 1) (M + 2) n N sh) (ht : 1 ≤ t0) (hlo : t0 * 256 ^ (len - 1) ≤ N) (hhi : N < (t0 + 1) * 256 ^ (len - 1)) : 32 * n - sh = 8 * (len - 1) + Nat.log2 t0 + 1 := bit_u k.2.2.2.1 k.2.2.2.2 k.2.2.1 (by have := k.1.2.2.2.1; omega) ht hlo hhi
section
variable {l : Launch} {O : Nat → vm_Ob} {f9 : Value} {h : vm_H} {a : Nat} {t : KT} {g : Nat → Int32} {w m y : List Nat}
theorem rm_esize {M n N sh len t0 : Nat} (k : MH h M (M + 1) (M + 2) n N sh) (hl : 1 ≤ len ∧ len ≤ 256) (ht : 1 ≤ t0 ∧ t0 < 256) (hlo : t0 * 256 ^ (len - 1) ≤ N) (hhi : N < (t0 + 1) * 256 ^ (len - 1)) : vm_Met (vm_env l O f9) mX14_encodedSize 0 0 [.ref M] h (fun r h' => r = some (.int (nI (len - ahd t0))) ∧ h' = h) := by
  have eb := MH_bits k ht.1 hlo hhi
  have lg := lg_f t0 ht.2 ht.1
  refine vm_met rfl (Nat.le_of_ble_eq_true rfl) ?_
  refine vm_go rfl bX14_encodedSize_0 oX14_encodedSize_0 ⟨_, k.1.1, 0, 0, _, rm_bits k, Nat.zero_le _, Nat.zero_le _, ?_⟩
  rintro _ h1 ⟨rfl, e1⟩
  rw [e1]; clear e1 h1
  refine ⟨by decide, ⟨?_, rfl⟩⟩
  have e2 : (nI (32 * n - sh) - 1 + 7) / 8 = nI (len - ahd t0) := by
    rw [eb, show nI (8 * (len - 1) + Nat.log2 t0 + 1) - 1 = nI (8 * (len - 1) + Nat.log2 t0) from nI_sub (b := 1) (by omega), show nI (8 * (len - 1) + Nat.log2 t0) + 7 = nI (8 * (len - 1) + Nat.log2 t0 + 7) from nI_add _ 7, show nI (8 * (len - 1) + Nat.log2 t0 + 7) / 8 = nI ((8 * (len - 1) + Nat.log2 t0 + 7) / 8) from nI_div (b := 8) (by omega) (by decide)]
    congr 1
    omega
  exact congrArg (fun q => some (Value.int q)) e2
theorem rm_clear {M n N sh len t0 : Nat} (k : MH h M (M + 1) (M + 2) n N sh) (hl : 1 ≤ len ∧ len ≤ 256) (ht : 1 ≤ t0 ∧ t0 < 256) (hlo : t0 * 256 ^ (len - 1) ≤ N) (hhi : N < (t0 + 1) * 256 ^ (len - 1)) : vm_Met (vm_env l O f9) mX14_clear 0 0 [.ref M] h (fun r h' => r = some (.int (nI (clr t0))) ∧ h' = h) := by
  have eb := MH_bits k ht.1 hlo hhi
  have lg := lg_f t0 ht.2 ht.1
  have ce := clr_e t0 ht.2 ht.1
  refine vm_met rfl (Nat.le_of_ble_eq_true rfl) ?_
  refine vm_go rfl bX14_clear_0 oX14_clear_0 ⟨0, 0, _, rm_esize k hl ht hlo hhi, Nat.zero_le _, Nat.zero_le _, ?_⟩
  rintro _ h1 ⟨rfl, e1⟩
  rw [e1]; clear e1 h1
  refine ⟨_, k.1.1, 0, 0, _, rm_bits k, Nat.zero_le _, Nat.zero_le _, ?_⟩
  rintro _ h1 ⟨rfl, e1⟩
  rw [e1]; clear e1 h1
  refine ⟨?_, rfl⟩
  have e2 : (8 : Int32) * nI (len - ahd t0) - (nI (32 * n - sh) - 1) = nI (8 - 8 * ahd t0 - Nat.log2 t0) := by
    rw [eb, show nI (8 * (len - 1) + Nat.log2 t0 + 1) - 1 = nI (8 * (len - 1) + Nat.log2 t0) from nI_sub (b := 1) (by omega), show (8 : Int32) * nI (len - ahd t0) = nI (8 * (len - ahd t0)) from nI_mul 8 _, nI_sub (by omega)]
    congr 1
    omega
  have e3 : (255 : Int32) >>> (((8 : Int32) * nI (len - ahd t0) - (nI (32 * n - sh) - 1)) &&& 31) = nI (clr t0) := by rw [e2]; exact ce.1
  exact congrArg (fun q => some (Value.int q)) e3

/-- the KEY i, of TYPE 2, in the heap -/
theorem SK_2 {kn i : Nat} {kf : Nat → aK} (sk : SK h a kn kf) (hi : i < kn) (h2 : kty (kf i) = 2) (ki : KI (kf i)) : ∃ n N e d t0 sh, K2N (kf i) n N e d t0 ∧ MH h (a + 219 + 6 * i) (a + 219 + 6 * i + 1) (a + 219 + 6 * i + 2) n N sh ∧ wv h 64 (a + 77 + i) n d ∧ (∃ f, ia h 6 (a + 85) f ∧ f i = nI e) ∧ (∃ f, ia h 6 (a + 87) f ∧ f i = nI (ksa (kf i))) := by
  obtain ⟨n, N, e, d, t0, q⟩ := KI_2 ki h2
  obtain ⟨sh, m1, m2⟩ := (sk.2.2.2.2.2.2.2.2.2.2 i hi).2 h2
  obtain ⟨f7, k7, v7⟩ := sk.2.2.2.2.2.2.1
  obtain ⟨f8, k8, v8⟩ := sk.2.2.2.2.2.2.2.2.1
  have q' := q
  obtain ⟨⟨_, _, rfl⟩, ⟨rfl, rfl, rfl, rfl⟩, _⟩ := q'
  exact ⟨_, _, _, _, _, sh, q, m1, m2, ⟨f7, k7, v7 i hi h2⟩, ⟨f8, k8, v8 i hi h2⟩⟩
theorem rm_byE {kn i pa c L1 A n N e d t0 sh : Nat} {kf : Nat → aK} (k : RK h a t g) (sk : SK h a kn kf) (hkn : kn ≤ 6) (hi : i < kn) (q : K2N (kf i) n N e d t0) (hM : MH h (a + 219 + 6 * i) (a + 219 + 6 * i + 1) (a + 219 + 6 * i + 2) n N sh) (he : ∃ f, ia h 6 (a + 85) f ∧ f i = nI e) (ha : wv h L1 pa n A) (h1 : n ≤ L1) (hpa : pa ≠ a + 161) (hA : A < N) (hc : c = a + 159 ∨ c = a + 160) : vm_Met (vm_env l O f9) mX14_byE 0 0 [.ref a, .int (nI i), .ref pa, .ref c] h (fun r h' => r = none ∧ RK h' a t g ∧ wv h' 64 c n (A ^ e % N) ∧ fr h h' (fun q => (a + 1 ≤ q ∧ q ≤ a + 3) ∨ q = a + 161 ∨ q = c)) := by
  have ao := k.2.1
  obtain ⟨fe, ee, ve⟩ := he
  obtain ⟨fm, em, vm9⟩ := sk.2.2.2.2.2.1
  obtain ⟨fl, el⟩ := k.2.2.2.2.1 161 (by unfold ZI; omega)
  have el : h.2 (a + 161) = .inl (.int, 1, .inl fl) := el
  have l161 : a + 161 < 1099511627776 := by omega
  have hn : n = (ksz (kf i) + 3) / 4 ∧ 66 ≤ ksz (kf i) ∧ ksz (kf i) ≤ 256 := ⟨q.1.2.2, q.1.1, q.1.2.1⟩
  have he2 := q.2.2.2.2.1
  refine vm_met rfl (Nat.le_of_ble_eq_true rfl) ?_
  refine vm_go rfl bX14_byEx_0 oX14_byEx_0 ⟨_, _, k.1, rfl, ⟨_, _, k.1, rfl, ⟨6, fe, ee, i, rfl, by omega, fun _ => ⟨1, fl, el, l161, 0, rfl, by decide, ?_⟩⟩⟩⟩
  obtain ⟨h1', eh1⟩ : ∃ h1', h1' = vm_up h (a + 161) (.inl (.int, 1, .inl (upd fl 0 (nI e)))) := ⟨_, rfl⟩
  have F1 : fr h h1' (fun q => q = a + 161) := eh1 ▸ fr_up rfl
  have e1 : ia h1' 1 (a + 161) (upd fl 0 (nI e)) := by rw [eh1]; exact vm_upe
  refine vm_Th (lv' := [(0, .ref a), (1, .int (nI i)), (2, .ref pa), (3, .ref c)]) (h' := h1') rfl (by rw [eh1, ← ve]) ?_
  have we : wv h1' 1 (a + 161) 1 e := wv_sm e1 (by omega) upd_e (fun k h1 h2 => by omega)
  have k1 : RK h1' a t g := RK_of k F1 ((F1.2 a (by omega)).trans k.1) (fun q z => .inr (z ▸ GD_i (i := 161) (by unfold ZI; omega) ⟨_, e1⟩))
  have M1 := MH_cg3 hM F1 (by omega)
  have ic : iw h1' 64 c := by
    rcases hc with rfl | rfl
    · exact RK_64 k1 (by unfold ZI; omega) rfl
    · exact RK_64 k1 (by unfold ZI; omega) rfl
  refine vm_go rfl bX14_byEx_12 oX14_byEx_12 ⟨_, _, k1.1, rfl, ⟨_, _, _, .ref (a + 219 + 6 * i), (F1.2 _ (by omega)).trans em, by decide, rfl, i, rfl, by omega, by rw [vm9 i (by omega)]; rfl, ⟨_, _, k1.1, rfl, ⟨_, k1.1, 0, 0, _, rm_power (bits := 17) M1 k1.1 (CU_1 (RK_cu k1)) (CU_6 (RK_cu k1) (by decide) (by decide)) (CU_6 (RK_cu k1) (by decide) (by decide)) (wv_cg ha (F1.2 _ hpa)) h1 hA we (by decide) (by decide) (by decide) ic (by omega) (by omega) (by omega) (by omega) (by omega) (by omega) ao, Nat.zero_le _, Nat.zero_le _, ?_⟩⟩⟩⟩
  rintro _ h2 ⟨rfl, w2, ⟨r1, r2, r3⟩, F2⟩
  rw [Nat.mod_eq_of_lt (a := e) (b := 2 ^ 17) (by rw [show (2 : Nat) ^ 17 = 131072 from rfl]; omega)] at w2
  have k2 : RK h2 a t g := RK_of k1 F2 ((F2.2 a (by omega)).trans k1.1) (fun q z => by
    rcases z with rfl | rfl | rfl | rfl
    · exact .inr (GD_i (by unfold ZI; omega) r1)
    · exact .inr (GD_i (by unfold ZI; omega) r2)
    · exact .inr (GD_i (by unfold ZI; omega) r3)
    · rcases hc with rfl | rfl
      · exact .inr (GD_i (by unfold ZI; omega) (wv_iw w2))
      · exact .inr (GD_i (by unfold ZI; omega) (wv_iw w2)))
  exact ⟨rfl, k2, w2, fr_trans (fr_mono F1 (fun q z => by omega)) (fr_mono F2 (fun q z => by omega))⟩
end
