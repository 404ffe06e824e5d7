/-! Row: its rows of bytes -/
def row (h : vm_H) (R B n : Nat) (b : Nat → Nat) (s : Nat) : Prop := h.2 R = .inr (9, [.ref B, .int (nI s)]) ∧ bv h n B b ∧ s ≤ n ∧ n < 65536 ∧ R < 1099511627776 ∧ B < 1099511627776
/-- k bytes more -/
def app (b : Nat → Nat) (s : Nat) (d : Nat → Nat) (k j : Nat) : Nat := if s ≤ j ∧ j < s + k then d (j - s) else b j
theorem app_0 {b d : Nat → Nat} {s : Nat} : app b s d 0 = b := by
  funext j; unfold app; rw [if_neg (by omega)]
theorem app_1 {b d : Nat → Nat} {s k v : Nat} (hv : v = d k) : b1 (app b s d k) (s + k) v = app b s d (k + 1) := by
  funext j
  unfold b1 app
  by_cases e : j = s + k
  · rw [if_pos e, if_pos (by omega), hv, e]; congr 1; omega
  · rw [if_neg e]
    by_cases e2 : s ≤ j ∧ j < s + k
    · rw [if_pos e2, if_pos (by omega)]
    · rw [if_neg e2, if_neg (by omega)]
/-- byte i of an int -/
def ib (z : Int) (i : Nat) : Nat := (z / 256 ^ i % 256).toNat
theorem ib_lt (z : Int) (i : Nat) : ib z i < 256 := by unfold ib; omega
theorem iZ_divr {z : Int} (h1 : -2147483648 ≤ z) (h2 : z < 2147483648) (k : Nat) : -2147483648 ≤ z / 2 ^ k ∧ z / 2 ^ k < 2147483648 := by
  have hp : (0 : Int) < 2 ^ k := Int.pow_pos (by decide)
  constructor
  · rw [Int.le_ediv_iff_mul_le hp]
    have : (1 : Int) ≤ 2 ^ k := hp
    have : 2147483648 * 1 ≤ 2147483648 * (2 : Int) ^ k := Int.mul_le_mul_of_nonneg_left this (by decide)
    generalize (2 : Int) ^ k = w at *
    omega
  · rw [Int.ediv_lt_iff_lt_mul hp]
    have : (1 : Int) ≤ 2 ^ k := hp
    have : 2147483648 * 1 ≤ 2147483648 * (2 : Int) ^ k := Int.mul_le_mul_of_nonneg_left this (by decide)
    generalize (2 : Int) ^ k = w at *
    omega
theorem iZ_shr {z : Int} (h1 : -2147483648 ≤ z) (h2 : z < 2147483648) {x : Int32} {k : Nat} (hx : (x.toBitVec.smod 32).toNat = k) : iZ z >>> x = iZ (z / 2 ^ k) := by
  have hz := iZ_toInt h1 h2
  obtain ⟨r1, r2⟩ := iZ_divr h1 h2 k
  apply Int32.toInt_inj.mp
  rw [iZ_toInt r1 r2]
  show ((iZ z).toBitVec.sshiftRight (x.toBitVec.smod 32).toNat).toInt = _
  rw [hx, BitVec.toInt_sshiftRight]
  show (iZ z).toInt >>> k = _
  rw [hz, Int.shiftRight_eq_div_pow]
  norm_cast
theorem row_RB {h : vm_H} {R B n s : Nat} {b : Nat → Nat} (k : row h R B n b s) : R ≠ B := by
  obtain ⟨k1, ⟨f, k2, _⟩, _⟩ := k
  intro e
  rw [e, k2] at k1
  cases k1
theorem row_fr {h h' : vm_H} {S : Nat → Prop} {R B n s : Nat} {b : Nat → Nat} (k : row h R B n b s) (F : fr h h' S) (hR : ¬ S R) (hB : ¬ S B) : row h' R B n b s := by
  obtain ⟨k1, k2, k3⟩ := k
  exact ⟨(F.2 R hR).trans k1, fr_bv F k2 hB, k3⟩
section
variable {l : Launch} {O : Nat → vm_Ob} {f9 : Value}
theorem w_clear {h : vm_H} {R B n s : Nat} {b : Nat → Nat} (k : row h R B n b s) : vm_Met (vm_env l O f9) mX9_clear 0 0 [.ref R] h (fun r h' => r = none ∧ row h' R B n b 0 ∧ fr h h' (fun q => q = R)) := by
  have hRB := row_RB k
  obtain ⟨k1, ⟨f, k2, k2'⟩, k3, k4, k5, k6⟩ := k
  refine vm_met rfl (Nat.le_of_ble_eq_true rfl) ?_
  refine vm_go rfl bX9_clear_0 oX9_clear_0 ⟨_, k1, k5, show 1 < 2 by decide, trivial, ?_⟩
  exact ⟨rfl, ⟨vm_upe, ⟨f, (vm_upn (Ne.symm hRB)).trans k2, k2'⟩, Nat.zero_le _, k4, k5, k6⟩, fr_up rfl⟩
theorem w_room {h : vm_H} {R B n s m : Nat} {b : Nat → Nat} (k : row h R B n b s) (hm : m < 65536) : vm_Met (vm_env l O f9) mX9_hasRoom 0 0 [.ref R, .int (nI m)] h (fun r h' => r = some (.int (if s + m ≤ n then 1 else 0)) ∧ h' = h) := by
  obtain ⟨k1, ⟨f, k2, k2'⟩, k3, k4, k5, k6⟩ := k
  refine vm_met rfl (Nat.le_of_ble_eq_true rfl) ?_
  refine vm_go rfl bX9_hasRoom_0 oX9_hasRoom_0 ⟨_, _, k1, rfl, ⟨_, _, k2, by decide, ⟨_, _, k1, rfl, ⟨fun q => ?_, fun q => ?_⟩⟩⟩⟩
  · have q : nI n - nI s < nI m := q
    rw [nI_sub k3, nI_ltI (by omega) (by omega)] at q
    refine vm_go rfl bX9_hasRoom_18 oX9_hasRoom_18 (vm_go rfl bX9_hasRoom_19 oX9_hasRoom_19 ⟨rfl, ?_, rfl⟩)
    rw [if_neg (by omega)]
  · have q : ¬ nI n - nI s < nI m := q
    rw [nI_sub k3, nI_ltI (by omega) (by omega)] at q
    refine vm_go rfl bX9_hasRoom_19 oX9_hasRoom_19 ⟨rfl, ?_, rfl⟩
    rw [if_pos (by omega)]
theorem w_byte {h : vm_H} {R B n s v : Nat} {b : Nat → Nat} {x : Int32} (k : row h R B n b s) (hs : s < n) (hv : v < 256) (hx : x.toInt8.toInt32 = sb v) : vm_Met (vm_env l O f9) mX9_putByte 0 0 [.ref R, .int x] h (fun r h' => r = none ∧ row h' R B n (b1 b s v) (s + 1) ∧ fr h h' (fun q => q = R ∨ q = B)) := by
  have hRB := row_RB k
  obtain ⟨k1, ⟨f, k2, k2'⟩, k3, k4, k5, k6⟩ := k
  refine vm_met rfl (Nat.le_of_ble_eq_true rfl) ?_
  refine vm_go rfl bX9_putByte_0 oX9_putByte_0 ⟨_, _, k1, rfl, ⟨_, _, k1, rfl, ⟨_, _, k2, by decide, ⟨fun q => absurd q (nI_ge hs (by omega)), fun _ => ⟨_, _, k1, rfl, ⟨_, _, k1, rfl, ⟨n, f, k2, k6, s, rfl, hs, ?_⟩⟩⟩⟩⟩⟩⟩
  have e : x.toInt8.toInt32.toInt8.toInt32 = sb v := by rw [hx]; exact sb_self v hv
  generalize hq1 : vm_up h B _ = h1
  have b1' : bv h1 n B (b1 b s v) := by
    rw [← hq1]
    have := bv_up (h := h) (fa := B) (k := s) (v := v) k2' hv
    rw [← e] at this
    exact this
  have r1 : h1.2 R = .inr (9, [.ref B, .int (nI s)]) := by rw [← hq1, vm_upn hRB]; exact k1
  have F1 : fr h h1 (fun q => q = R ∨ q = B) := by rw [← hq1]; exact fr_up (Or.inr rfl)
  clear hq1
  refine ⟨_, _, r1, rfl, ⟨_, r1, k5, show 1 < 2 by decide, trivial, ?_⟩⟩
  refine vm_go rfl bX9_putByte_33 oX9_putByte_33 ⟨rfl, ⟨?_, ?_, by omega, k4, k5, k6⟩, fr_trans F1 (fr_up (Or.inl rfl))⟩
  · rw [vm_upe, ← nI_1]; rfl
  · obtain ⟨g, g1, g2⟩ := b1'
    exact ⟨g, (vm_upn (Ne.symm hRB)).trans g1, g2⟩
theorem ib_sh {z : Int} (h1 : -2147483648 ≤ z) (h2 : z < 2147483648) {i : Nat} (hi : i < 4) : (iZ z >>> ((8 * nI i) &&& 31)).toInt8.toInt32 = sb (ib z i) := by
  have key : ∀ i, i < 4 → ((8 * nI i) &&& 31 : Int32) = Int32.ofNat (8 * i) ∧ ((Int32.ofNat (8 * i)).toBitVec.smod 32).toNat = 8 * i := by decide +kernel
  obtain ⟨e1, e2⟩ := key i hi
  rw [e1]
  have e3 : iZ z >>> Int32.ofNat (8 * i) = iZ (z / 256 ^ i) := by
    rw [iZ_shr h1 h2 e2]
    have : (2 : Int) ^ (8 * i) = 256 ^ i := by rw [Int.pow_mul]; rfl
    rw [this]
  rw [e3]
  exact sb_I _
theorem row_app {h : vm_H} {R B n s k v : Nat} {b d : Nat → Nat} (q : row h R B n (b1 (app b s d k) (s + k) v) (s + k + 1)) (hv : v = d k) : row h R B n (app b s d (k + 1)) (s + (k + 1)) := by
  rw [app_1 hv] at q
  exact q
theorem w_num {h : vm_H} {R B n s m : Nat} {b : Nat → Nat} {z : Int} (k : row h R B n b s) (hs : s + m ≤ n) (hm : m ≤ 4) (h1 : -2147483648 ≤ z) (h2 : z < 2147483648) : vm_Met (vm_env l O f9) mX9_putNumber 0 0 [.ref R, .int (iZ z), .int (nI m)] h (fun r h' => r = none ∧ row h' R B n (app b s (fun j => ib z (m - 1 - j)) m) (s + m) ∧ fr h h' (fun q => q = R ∨ q = B)) := by
  refine vm_met rfl (Nat.le_of_ble_eq_true rfl) ?_
  refine vm_go rfl bX9_putNumber_0 oX9_putNumber_0 ?_
  refine vm_Th (lv' := [(0, .ref R), (1, .int (iZ z)), (2, .int (nI m)), (3, .int (nI (m - 0) - 1))]) (h' := h) rfl rfl ?_
  refine vm_while (σ := Nat × vm_H) (fun y => y.1 ≤ m ∧ row y.2 R B n (app b s (fun j => ib z (m - 1 - j)) y.1) (s + y.1) ∧ fr h y.2 (fun q => q = R ∨ q = B)) (fun y => m - y.1) (fun y => [(0, .ref R), (1, .int (iZ z)), (2, .int (nI m)), (3, .int (nI (m - y.1) - 1))]) (fun y => y.2) ?_ (0, h) ⟨Nat.zero_le _, by show row h R B n (app b s _ 0) s; rw [app_0]; exact k, fr_refl⟩
  rintro ⟨i, h3⟩ ⟨p1, p2, p3⟩ ih
  dsimp only at p1 p2 p3 ih ⊢
  have RR := p2.1
  rcases Nat.lt_or_ge i m with hi | hi
  · have ei : nI (m - i) - 1 = nI (m - i - 1) := nI_sub (b := 1) (by omega)
    refine vm_go rfl bX9_putNumber_4 oX9_putNumber_4 ⟨fun q => absurd q (by rw [ei]; exact nI_pos (by omega)), fun _ => ⟨_, RR, 0, 0, _, w_byte (v := ib z (m - 1 - i)) p2 (by omega) (ib_lt _ _) (by show (iZ z >>> ((8 * (nI (m - i) - 1)) &&& 31)).toInt8.toInt32 = _; rw [ei, show m - i - 1 = m - 1 - i by omega]; exact ib_sh h1 h2 (by omega)), Nat.zero_le _, Nat.zero_le _, ?_⟩⟩
    rintro _ h4 ⟨rfl, k4, F4⟩
    refine vm_Th ?_ rfl (ih (i + 1, h4) ⟨by show i + 1 ≤ m; omega, row_app k4 rfl, fr_trans p3 F4⟩ (by show m - (i + 1) < m - i; omega))
    show _ = [(0, Value.ref R), (1, .int (iZ z)), (2, .int (nI m)), (3, .int (nI (m - i) - 1 + -1))]
    rw [ei, show m - (i + 1) = m - i - 1 by omega]
    have : ∀ x : Int32, x + -1 = x - 1 := fun x => (Int32.sub_eq_add_neg x 1).symm
    rw [this]
  · have : i = m := by omega
    subst this
    refine vm_go rfl bX9_putNumber_4 oX9_putNumber_4 ⟨fun _ => ?_, fun q => absurd ?_ q⟩
    · exact vm_go rfl bX9_putNumber_24 oX9_putNumber_24 ⟨rfl, p2, p3⟩
    · rw [Nat.sub_self]; decide
theorem sb_nI {v : Nat} : (nI v).toInt8.toInt32 = sb (v % 256) := by
  rw [iZ_nI]
  have := sb_I (v : Int)
  show (Int32.ofInt (v : Int)).toInt8.toInt32 = _
  rw [this]
  congr 1
theorem w_text {h : vm_H} {R B n s t m : Nat} {b c : Nat → Nat} (h9 : f9.category = 1) (k : row h R B n b s) (ht : sto h t m c) (hs : s + m ≤ n) : vm_Met (vm_env l O f9) mX9_putText 0 0 [.ref R, .ref t] h (fun r h' => r = none ∧ row h' R B n (app b s c m) (s + m) ∧ fr h h' (fun q => q = R ∨ q = B)) := by
  have hn4 := k.2.2.2.1
  have hRo := k.2.2.2.2.1
  have hBo := k.2.2.2.2.2
  have hto := ht.1
  refine vm_met rfl (Nat.le_of_ble_eq_true rfl) ?_
  refine vm_go rfl bX9_putText_0 oX9_putText_0 ?_
  refine vm_Th (lv' := [(0, .ref R), (1, .ref t), (2, .int (nI 0))]) (h' := h) rfl rfl ?_
  refine vm_while (σ := Nat × vm_H) (fun y => y.1 ≤ m ∧ row y.2 R B n (app b s c y.1) (s + y.1) ∧ fr h y.2 (fun q => q = R ∨ q = B)) (fun y => m - y.1) (fun y => [(0, .ref R), (1, .ref t), (2, .int (nI y.1))]) (fun y => y.2) ?_ (0, h) ⟨Nat.zero_le _, by show row h R B n (app b s c 0) s; rw [app_0]; exact k, fr_refl⟩
  rintro ⟨i, h3⟩ ⟨p1, p2, p3⟩ ih
  dsimp only at p1 p2 p3 ih ⊢
  have RR := p2.1
  have t3 : sto h3 t m c := sto_fr ht (fun q hq => p3.2 q (by omega))
  obtain ⟨_, v, _, t4, _⟩ := id t3
  refine vm_go rfl bX9_putText_2 oX9_putText_2 ⟨_, t4, 0, 0, _, s_len (sto_s t3) (by omega), Nat.zero_le _, Nat.zero_le _, ?_⟩
  rintro _ h4 ⟨rfl, rfl⟩
  rcases Nat.lt_or_ge i m with hi | hi
  · refine ⟨fun q => absurd q (nI_ge hi (by omega)), fun _ => ⟨_, t4, 0, 0, _, s_char h9 (sto_s t3) hi (by omega), Nat.zero_le _, Nat.zero_le _, ?_⟩⟩
    rintro _ h5 ⟨rfl, rfl⟩
    have hc : c i < 256 := by
      obtain ⟨_, w, _, _, f, _, hf⟩ := t3
      exact (hf i hi).2
    refine ⟨_, RR, 0, 0, _, w_byte (v := c i) p2 (by omega) hc (by rw [sb_nI, Nat.mod_eq_of_lt hc]), Nat.zero_le _, Nat.zero_le _, ?_⟩
    rintro _ h6 ⟨rfl, k6, F6⟩
    exact vm_Th (by rw [← nI_1]; rfl) rfl (ih (i + 1, h6) ⟨by show i + 1 ≤ m; omega, row_app k6 rfl, fr_trans p3 F6⟩ (by show m - (i + 1) < m - i; omega))
  · have : i = m := by omega
    subst this
    refine ⟨fun _ => ?_, fun q => absurd (nI_le (Nat.le_refl _) (by omega)) q⟩
    exact vm_go rfl bX9_putText_25 oX9_putText_25 ⟨rfl, p2, p3⟩
theorem w_all {h : vm_H} {R B n s fa nf at9 m : Nat} {b c : Nat → Nat} (k : row h R B n b s) (hf : bv h nf fa c) (hat : at9 + m ≤ nf) (hnf : nf < 65536) (hs : s + m ≤ n) : vm_Met (vm_env l O f9) mX9_putAll 0 0 [.ref R, .ref fa, .int (nI at9), .int (nI m)] h (fun r h' => r = none ∧ row h' R B n (app b s (fun j => c (at9 + j)) m) (s + m) ∧ fr h h' (fun q => q = R ∨ q = B)) := by
  have hRB := row_RB k
  have k' := k
  obtain ⟨k1, ⟨f, k2, k2'⟩, k3, k4, k5, k6⟩ := k
  obtain ⟨g, g1, g2⟩ := hf
  refine vm_met rfl (Nat.le_of_ble_eq_true rfl) ?_
  refine vm_go rfl bX9_putAll_0 oX9_putAll_0 ⟨fun q => absurd q (nI_pos (by omega)), fun _ => ⟨fun q => absurd q (nI_pos (by omega)), fun _ => ⟨_, _, g1, by decide, ⟨fun q => ?_, fun _ => ⟨_, k1, 0, 0, _, w_room k' (by omega), Nat.zero_le _, Nat.zero_le _, ?_⟩⟩⟩⟩⟩
  · exfalso
    have q : nI nf - nI m < nI at9 := q
    rw [nI_sub (by omega), nI_ltI (by omega) (by omega)] at q
    omega
  rintro _ h1 ⟨rfl, rfl⟩
  rw [if_pos hs]
  refine ⟨fun _ => ?_, fun q => absurd q (by decide)⟩
  refine vm_go rfl bX9_putAll_25 oX9_putAll_25 ⟨_, _, k1, rfl, ⟨_, _, k1, rfl, ⟨m, s, at9, nf, n, rfl, rfl, rfl, hat, hs, k6, g, f, g1, k2, ?_⟩⟩⟩
  generalize hq2 : vm_up h1 B _ = h2
  have b2 : bv h2 n B (app b s (fun j => c (at9 + j)) m) := by
    rw [← hq2]
    refine ⟨_, vm_upe, fun j hj => ?_⟩
    unfold va_cpy app
    by_cases e : s ≤ j ∧ j < s + m
    · rw [if_pos e, if_pos e]
      have := g2 (at9 + (j - s)) (by omega)
      exact this
    · rw [if_neg e, if_neg e]; exact k2' j hj
  have r2 : h2.2 R = .inr (9, [.ref B, .int (nI s)]) := by rw [← hq2, vm_upn hRB]; exact k1
  have F2 : fr h1 h2 (fun q => q = R ∨ q = B) := by rw [← hq2]; exact fr_up (Or.inr rfl)
  clear hq2
  refine ⟨_, _, r2, rfl, ⟨_, r2, k5, show 1 < 2 by decide, trivial, ?_⟩⟩
  refine ⟨rfl, ⟨?_, ?_, by omega, k4, k5, k6⟩, fr_trans F2 (fr_up (Or.inl rfl))⟩
  · rw [vm_upe, ← nI_add]; rfl
  · obtain ⟨g, g1, g2⟩ := b2
    exact ⟨g, (vm_upn (Ne.symm hRB)).trans g1, g2⟩
theorem w_init {h : vm_H} {R n : Nat} (hR : h.2 R = .inr (9, vm_df 9)) (hR1 : R < h.1) (hn : n < 65536) (hh : h.1 + 1 < 1099511627776) : vm_Met (vm_env l O f9) mX9_init 1 n [.ref R, .int (nI n)] h (fun r h' => r = none ∧ h'.1 = h.1 + 1 ∧ row h' R h.1 n (fun _ => 0) 0 ∧ ∀ q, q ≠ R → q ≠ h.1 → h'.2 q = h.2 q) := by
  have hRo : R < 1099511627776 := by omega
  refine vm_met rfl (Nat.le_of_ble_eq_true rfl) ?_
  refine vm_go rfl bX9_init_0 oX9_init_0 ?_
  refine np_p (idx := 0) (w := .int 0) (k := 1) (tc := 0) hR hRo (show 1 < 2 by decide) trivial ?_
  intro h1 c1 m1 u1
  refine np_B (idx := 0) (N := n) rfl (by omega) (by decide) (Nat.le_refl _) (by omega) m1 (by omega) (show 0 < 2 by decide) ?_
  rintro h2 ⟨c2, m2, a2, u2⟩
  refine ⟨rfl, by omega, ⟨?_, ⟨fun _ => 0, ?_, fun j hj => ⟨rfl, show 0 < 256 by decide⟩⟩, Nat.zero_le _, hn, hRo, by omega⟩, fun q hq hq2 => ?_⟩
  · rw [m2, c1]; rfl
  · rw [← c1]; exact a2
  · rw [u2 q hq (by omega), u1 q hq]
theorem w_same {h : vm_H} {a b na nb at9 bt many : Nat} {f g : Nat → Nat} (ha : bv h na a f) (hb : bv h nb b g) (h1 : at9 + many ≤ na) (h2 : bt + many ≤ nb) (hm : many < 65536) :
    vm_Met (vm_env l O f9) mX9_same 0 0 [.ref a, .int (nI at9), .ref b, .int (nI bt), .int (nI many)] h (fun r h' => h' = h ∧ ∃ x : Int32, r = some (.int x) ∧ (x = 1 ∧ (∀ i, i < many → f (at9 + i) = g (bt + i)) ∨ x = 0 ∧ ∃ i, i < many ∧ f (at9 + i) ≠ g (bt + i))) := by
  obtain ⟨f', ha, va⟩ := ha
  obtain ⟨g', hb, vb⟩ := hb
  refine vm_metP (s_same ha hb h1 h2 (by omega)) ?_
  rintro r h' ⟨e, x, hx, hd⟩
  have inj : ∀ i, i < many → (f' (at9 + i) = g' (bt + i) ↔ f (at9 + i) = g (bt + i)) := by
    intro i hi
    have a1 := va (at9 + i) (by omega)
    have b1 := vb (bt + i) (by omega)
    rw [a1.1, b1.1]
    constructor
    · intro z
      have : sb (f (at9 + i)) &&& 255 = sb (g (bt + i)) &&& 255 := by rw [z]
      rw [sb_and _ a1.2, sb_and _ b1.2] at this
      exact (nI_ij (by omega) (by omega)).mp this
    · intro z; rw [z]
  refine ⟨e, x, hx, ?_⟩
  rcases hd with ⟨h1, h2⟩ | ⟨h1, i, hi, h2⟩
  · exact Or.inl ⟨h1, fun i hi => (inj i hi).mp (h2 i hi)⟩
  · exact Or.inr ⟨h1, i, hi, fun z => h2 ((inj i hi).mpr z)⟩
theorem w_zero {h : vm_H} {a na at9 many : Nat} {f : Nat → Nat} (ha : bv h na a f) (h1 : at9 + many ≤ na) (hm : na < 65536) :
    vm_Met (vm_env l O f9) mX9_isZero 0 0 [.ref a, .int (nI at9), .int (nI many)] h (fun r h' => h' = h ∧ ∃ x : Int32, r = some (.int x) ∧ (x = 1 ∧ (∀ i, i < many → f (at9 + i) = 0) ∨ x = 0 ∧ ∃ i, i < many ∧ f (at9 + i) ≠ 0)) := by
  obtain ⟨f', ha, va⟩ := ha
  refine vm_met rfl (Nat.le_of_ble_eq_true rfl) ?_
  refine vm_go rfl bX9_isZero_0 oX9_isZero_0 ?_
  refine vm_Th (lv' := [(0, .ref a), (1, .int (nI at9)), (2, .int (nI many)), (3, .int (nI 0))]) (h' := h) rfl rfl ?_
  refine vm_forP (fun i => ∀ j, j < i → f (at9 + j) = 0) many (fun i => [(0, .ref a), (1, .int (nI at9)), (2, .int (nI many)), (3, .int (nI i))]) (fun _ => h) 0 (Nat.zero_le _) (fun j hj => by omega) ?_ ?_
  · intro hp
    refine vm_go rfl bX9_isZero_2 oX9_isZero_2 ⟨fun _ => ?_, fun q => absurd (nI_le (Nat.le_refl _) (by omega)) q⟩
    exact vm_go rfl bX9_isZero_23 oX9_isZero_23 ⟨rfl, rfl, 1, rfl, Or.inl ⟨rfl, hp⟩⟩
  · intro i _ hi hp ih
    have a1 := va (at9 + i) (by omega)
    refine vm_go rfl bX9_isZero_2 oX9_isZero_2 ⟨fun q => absurd q (nI_ge hi (by omega)), fun _ => ⟨na, f', ha, at9 + i, nI_add _ _, by omega, fun _ => ?_⟩⟩
    rw [a1.1]
    refine ⟨fun q => ?_, fun q => ?_⟩
    · have q := (sb_eq _ a1.2 0 (by decide)).mp q
      refine vm_go rfl bX9_isZero_17 oX9_isZero_17 (vm_Th (by rw [← nI_1]; rfl) rfl (ih (fun j hj => ?_)))
      rcases Nat.lt_or_ge j i with z | z
      · exact hp j z
      · rw [show j = i by omega]; exact q
    · exact ⟨rfl, rfl, 0, rfl, Or.inr ⟨rfl, i, hi, fun z => q ((sb_eq _ a1.2 0 (by decide)).mpr z)⟩⟩
end
theorem bn_lex {f g : Nat → Nat} {at9 bt m i : Nat} (hi : i < m) (he : ∀ j, j < i → f (at9 + j) = g (bt + j)) (hl : f (at9 + i) < g (bt + i)) (hf : ∀ j, j < m → f (at9 + j) < 256) : bn f at9 m < bn g bt m := by
  obtain ⟨k, rfl⟩ : ∃ k, m = (i + 1) + k := ⟨m - (i + 1), by omega⟩
  rw [bn_cut (b := f) (i := i + 1) k, bn_cut (b := g) (i := i + 1) k]
  have e1 : bn f at9 (i + 1) + 1 ≤ bn g bt (i + 1) := by
    show bn f at9 i * 256 + f (at9 + i) + 1 ≤ bn g bt i * 256 + g (bt + i)
    rw [bn_ext i he]; omega
  have e2 : bn f (at9 + (i + 1)) k < 256 ^ k := bn_lt k (fun j h1 h2 => by
    have := hf (j - at9) (by omega)
    rwa [show at9 + (j - at9) = j by omega] at this)
  have e3 : (bn f at9 (i + 1) + 1) * 256 ^ k ≤ bn g bt (i + 1) * 256 ^ k := Nat.mul_le_mul_right _ e1
  rw [Nat.add_mul, Nat.one_mul] at e3
  omega
section
variable {l : Launch} {O : Nat → vm_Ob} {f9 : Value}
theorem w_less {h : vm_H} {a b na nb at9 bt many : Nat} {f g : Nat → Nat} (ha : bv h na a f) (hb : bv h nb b g) (h1 : at9 + many ≤ na) (h2 : bt + many ≤ nb) (hm : many < 65536) :
    vm_Met (vm_env l O f9) mX9_isLess 0 0 [.ref a, .int (nI at9), .ref b, .int (nI bt), .int (nI many)] h (fun r h' => r = some (.int (if bn f at9 many < bn g bt many then 1 else 0)) ∧ h' = h) := by
  obtain ⟨f', ha, va⟩ := ha
  obtain ⟨g', hb, vb⟩ := hb
  have fl : ∀ j, j < many → f (at9 + j) < 256 := fun j hj => (va _ (by omega)).2
  have gl : ∀ j, j < many → g (bt + j) < 256 := fun j hj => (vb _ (by omega)).2
  refine vm_met rfl (Nat.le_of_ble_eq_true rfl) ?_
  refine vm_go rfl bX9_isLess_0 oX9_isLess_0 ?_
  refine vm_Th (lv' := [(0, .ref a), (1, .int (nI at9)), (2, .ref b), (3, .int (nI bt)), (4, .int (nI many)), (5, .int (nI 0))]) (h' := h) rfl rfl ?_
  refine vm_forP (fun i => ∀ j, j < i → f (at9 + j) = g (bt + j)) many (fun i => [(0, .ref a), (1, .int (nI at9)), (2, .ref b), (3, .int (nI bt)), (4, .int (nI many)), (5, .int (nI i))]) (fun _ => h) 0 (Nat.zero_le _) (fun j hj => by omega) ?_ ?_
  · intro hp
    refine vm_go rfl bX9_isLess_3 oX9_isLess_3 ⟨fun _ => ?_, fun q => absurd (nI_le (Nat.le_refl _) (by omega)) q⟩
    refine vm_go rfl bX9_isLess_60 oX9_isLess_60 ⟨rfl, ?_, rfl⟩
    rw [bn_ext many hp, if_neg (Nat.lt_irrefl _)]
  · intro i _ hi hp ih
    have a1 := va (at9 + i) (by omega)
    have b1 := vb (bt + i) (by omega)
    refine vm_go rfl bX9_isLess_3 oX9_isLess_3 ⟨fun q => absurd q (nI_ge hi (by omega)), fun _ => ⟨na, f', ha, at9 + i, nI_add _ _, by omega, fun _ => ⟨nb, g', hb, bt + i, nI_add _ _, by omega, fun _ => ?_⟩⟩⟩
    rw [a1.1, b1.1]
    show vm_sx _ _ _ _ _ _ _ (vm_st1 (vm_st1 _ 6 (.int (sb (f (at9 + i)) &&& 255))) 7 (.int (sb (g (bt + i)) &&& 255))) _ _
    rw [sb_and _ a1.2, sb_and _ b1.2]
    refine ⟨fun q => ?_, fun q => ?_⟩
    · have q : nI (f (at9 + i)) = nI (g (bt + i)) := q
      rw [nI_ij (by omega) (by omega)] at q
      refine vm_less [0, 1, 2, 3, 4, 5] rfl ?_
      refine vm_go rfl bX9_isLess_54 oX9_isLess_54 (vm_Th (by rw [← nI_1]; rfl) rfl (ih (fun j hj => ?_)))
      rcases Nat.lt_or_ge j i with z | z
      · exact hp j z
      · rw [show j = i by omega]; exact q
    · have q : ¬ nI (f (at9 + i)) = nI (g (bt + i)) := q
      rw [nI_ij (by omega) (by omega)] at q
      refine ⟨fun w => ?_, fun w => ?_⟩
      · have w : nI (g (bt + i)) ≤ nI (f (at9 + i)) := w
        rw [nI_leI (by omega) (by omega)] at w
        refine vm_go rfl bX9_isLess_52 oX9_isLess_52 (vm_go rfl bX9_isLess_53 oX9_isLess_53 ⟨rfl, ?_, rfl⟩)
        have := bn_lex (f := g) (g := f) hi (fun j hj => (hp j hj).symm) (by omega) gl
        rw [if_neg (by omega)]
      · have w : ¬ nI (g (bt + i)) ≤ nI (f (at9 + i)) := w
        rw [nI_leI (by omega) (by omega)] at w
        refine vm_go rfl bX9_isLess_53 oX9_isLess_53 ⟨rfl, ?_, rfl⟩
        have := bn_lex hi hp (by omega) fl
        rw [if_pos this]
end
