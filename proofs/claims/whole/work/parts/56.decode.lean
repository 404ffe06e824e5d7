/-! roots; Curve.decode -/
theorem fz_pw {X Y : Int} (h : fz X = fz Y) : ∀ k : Nat, fz (X ^ k) = fz (Y ^ k)
  | 0 => by rw [Int.pow_zero, Int.pow_zero]
  | k + 1 => by rw [Int.pow_succ, Int.pow_succ, fz_mul, fz_mul, fz_pw h k, h]
theorem fz_val (s : fq) : fz (s.val : Int) = s := fz_i rfl
theorem fz_fm (X : Int) : fz (X ^ (cPm + 1)) = fz X := by
  have h : fz X = fz ((fz X).val : Int) := (fz_val _).symm
  rw [fz_pw h, ← Int.natCast_pow, ← fz_n, fermat pr_m, fz_n, fz_val]
theorem rt_sq {a : Int} {e : Nat} (he : e * 4 = cPm + 1 + 1) {s : fq} (hs : s * s = fz a) : fz (a ^ e) * fz (a ^ e) = fz a := by
  have h : fz a = fz ((s.val : Int) * s.val) := by rw [fz_mul, fz_val, hs]
  rw [← fz_mul, ← Int.pow_add, fz_pw h, show (s.val : Int) * s.val = (s.val : Int) ^ 2 by rw [Int.pow_succ, Int.pow_succ, Int.pow_zero, Int.one_mul], ← Int.pow_mul, show 2 * (e + e) = cPm + 1 + 1 by omega, Int.pow_succ, fz_mul, fz_fm, fz_val, hs]
theorem sq_pm {F : Type} [Lean.Grind.CommRing F] {w a : F} (h : w * w = a * a) : (w - a) * (w + a) = 0 := by grind
theorem add_z {F : Type} [Lean.Grind.CommRing F] {x y : F} (h : x + y = 0) : x = -y := by grind
theorem neg_z {F : Type} [Lean.Grind.CommRing F] {y : F} : y + -y = 0 := by grind
theorem rt_pm {a : Int} {e : Nat} (he : e * 4 = cPm + 1 + 1) : fz (a ^ e) * fz (a ^ e) = fz a ∨ fz (a ^ e) * fz (a ^ e) = - fz a := by
  have h : fz (a ^ (e + e)) * fz (a ^ (e + e)) = fz a * fz a := by
    rw [← fz_mul, ← Int.pow_add, show e + e + (e + e) = cPm + 1 + 1 by omega, Int.pow_succ, fz_mul, fz_fm]
  rw [← fz_mul, ← Int.pow_add]
  generalize fz (a ^ (e + e)) = w at *
  have k : (w - fz a) * (w + fz a) = 0 := by
    have := sq_pm h
    exact this
  rcases fqf_D _ _ k with z | z
  · exact Or.inl (sub_z z)
  · exact Or.inr (add_z z)
theorem pr2 (y : fq) (hy : y ≠ 0) : (-y).val % 2 = 1 - y.val % 2 := by
  have h : y.val + (-y).val = cPm + 1 := by
    have v : (y.val + (-y).val) % (cPm + 1) = 0 := by
      rw [← fqf_va, show y + -y = 0 from neg_z]; rfl
    have y0 : y.val ≠ 0 := fun w => hy (Fin.ext w)
    have a1 := y.isLt
    have a2 := (-y).isLt
    rcases Nat.lt_or_ge (y.val + (-y).val) (cPm + 1) with w | w
    · rw [Nat.mod_eq_of_lt w] at v; omega
    · rw [Nat.mod_eq_sub_mod w, Nat.mod_eq_of_lt (by omega)] at v; omega
  have ho : (cPm + 1) % 2 = 1 := by decide +kernel
  omega
theorem cK2 {F : Type} [Lean.Grind.CommRing F] {x b y : F} (h : y * y = x * x * x + -3 * x + b) : y * y = x * x * x - 3 * x + b := by grind
theorem cK3 {F : Type} [Lean.Grind.CommRing F] {x b : F} : x * x * x - 3 * x + b = x * x * x + -3 * x + b := by grind
theorem zs_n {F : Type} [Lean.Grind.CommRing F] {y : F} : 0 - y = -y := by grind
/-- bytes of an ELEMENT, whose y is y -/
def EL (b : Nat → Nat) (at9 : Nat) (y : fq) : Prop := (b at9 = 2 ∨ b at9 = 3) ∧ bn b (at9 + 1) 48 < cP ∧ ecC (-3) (fz (cB : Int)) (fz (bn b (at9 + 1) 48 : Int)) y ∧ y.val % 2 + 2 = b at9
theorem nI_ij {a b : Nat} (ha : a < 2147483648) (hb : b < 2147483648) : nI a = nI b ↔ a = b := by
  rw [iZ_nI, iZ_nI, iZ_inj (by omega) (by omega) (by omega) (by omega)]; omega
theorem sb_eq : ∀ x, x < 256 → ∀ y, y < 128 → (sb x = nI y ↔ x = y) := by
  intro x hx y hy
  constructor
  · intro h
    have h1 : sb x &&& 255 = nI y &&& 255 := by rw [h]
    rw [sb_and x hx] at h1
    have h2 : ∀ y, y < 128 → nI y &&& 255 = nI y := by decide +kernel
    rw [h2 y hy] at h1
    exact (nI_ij (by omega) (by omega)).mp h1
  · rintro rfl
    have h2 : ∀ y, y < 128 → sb y = nI y := by decide +kernel
    exact h2 _ hy
section
variable {l : Launch} {O : Nat → vm_Ob} {f9 : Value}
theorem a_dec {n : Nat} {X : Nat → Nat} {h : vm_H} {g : Nat → Option (Option (fq × fq))} {r fa nb at9 : Nat} {b : Nat → Nat} (hk : CA n X h g) (hr : r < n) (hb : bv h nb fa b) (hat : at9 + 49 ≤ nb) (hnb : nb < 65536) :
    vm_Met (vm_env l O f9) mX2_decode 0 0 [.ref (X 24), .ref fa, .int (nI at9), .ref (X (1000 + r))] h (fun e h' => ((e = some (.int 1) ∧ ∃ y, EL b at9 y ∧ CA n X h' (gup g r (some (some (fz (bn b (at9 + 1) 48 : Int), y))))) ∨ (e = some (.int 0) ∧ (∀ y, ¬ EL b at9 y) ∧ CA n X h' (gup g r none))) ∧ fr h h' (AG n X)) := by
  obtain ⟨u, hk⟩ := hk
  have hk' := hk
  obtain ⟨k0, st0, k3, k4⟩ := hk
  have bad0 : CA n X h (gup g r none) := ⟨u, CA_set hk' k0 fr_refl (fun _ _ _ _ => rfl) (fun p e => by cases e)⟩
  have hb' := hb
  obtain ⟨f, hf, hf2⟩ := hb
  have hs := (hf2 at9 (by omega)).1
  have hs2 := (hf2 at9 (by omega)).2
  refine vm_met rfl (Nat.le_of_ble_eq_true rfl) ?_
  -- behind the sign
  have h19 : (b at9 = 2 ∨ b at9 = 3) → vm_T (vm_env l O f9) mX2_decode 0 0 19 [(0, .ref (X 24)), (1, .ref fa), (2, .int (nI at9)), (3, .ref (X (1000 + r))), (4, .int (nI (b at9)))] [] h (fun e h' => ((e = some (.int 1) ∧ ∃ y, EL b at9 y ∧ CA n X h' (gup g r (some (some (fz (bn b (at9 + 1) 48 : Int), y))))) ∨ (e = some (.int 0) ∧ (∀ y, ¬ EL b at9 y) ∧ CA n X h' (gup g r none))) ∧ fr h h' (AG n X)) := by
    intro hsg
    have hxl : bn b (at9 + 1) 48 < 256 ^ 48 := bn_lt 48 (fun j _ hj => (hf2 j (by omega)).2)
    have hxR : bn b (at9 + 1) 48 < 268435456 ^ 14 := Nat.lt_of_lt_of_le hxl (by decide +kernel)
    refine vm_go rfl bX2_decode_19 oX2_decode_19 ⟨_, _, st0.2.2.2.1 r hr, rfl, ⟨0, 0, _, vm_metA (r_read (R := fun i => X (100 + i)) (at9 := at9 + 1) (size := 48) (c := 14 + 3 * r) k0 hb' (by omega) hnb (by omega)) (by show [_, Value.int (nI (at9 + 1)), _, _] = [_, Value.int (nI at9 + 1), _, _]; rw [← nI_1]; rfl), Nat.zero_le _, Nat.zero_le _, ?_⟩⟩
    rintro _ h1 ⟨rfl, k1, n1, F1⟩
    have st1 := CSt_fr k0 st0 F1
    have hk1 : CAu n X h1 (gup g r none) _ := CA_set hk' k1 F1 (fun i h8 _ hi => up1_n (by omega)) (fun p e => by cases e)
    obtain ⟨p1, p2, p3⟩ := MP_N k1.1
    refine ⟨_, _, st1.1, rfl, ⟨_, _, st1.2.2.2.1 r hr, rfl, ⟨(RG_0 k1).choose, (RG_0 k1).choose_spec, 0, 0, _, m_abo k1.1 k1.2.1 n1 hxR, Nat.zero_le _, Nat.zero_le _, ?_⟩⟩⟩
    rintro _ h2 ⟨rfl, rfl⟩
    refine ⟨fun w => ?_, fun w => ?_⟩
    rotate_left
    · have w := if10.mp w
      exact ⟨rfl, Or.inr ⟨rfl, fun y z => w z.2.1, ⟨_, hk1⟩⟩, F1⟩
    have hxP : bn b (at9 + 1) 48 < cP := Classical.not_not.mp (fun z => w (if10.mpr z))
    have n16 := (k1.2.2.2.1 (14 + 3 * r) (by omega)).1.1 6 (by decide)
    refine vm_go rfl bX2_decode_48 oX2_decode_48 ⟨_, _, st1.1, rfl, ⟨_, _, st1.2.2.2.1 r hr, rfl, ⟨_, _, st1.2.2.2.1 r hr, rfl, ⟨(RG_0 k1).choose, (RG_0 k1).choose_spec, 0, 0, _, r_ent (R := fun i => X (100 + i)) (c := 14 + 3 * r) k1 n1 n16 hxR (by omega), Nat.zero_le _, Nat.zero_le _, ?_⟩⟩⟩⟩
    rintro _ h3 ⟨rfl, k2, F2⟩
    rw [up1_up] at k2
    have st2 := CSt_fr k1 st1 F2
    refine ⟨_, _, st2.1, rfl, ⟨_, _, st2.1, rfl, ⟨(RG_2 k2).choose, _, (RG_2 k2).choose_spec.1, (RG_2 k2).choose_spec.2, ⟨_, _, st2.2.2.2.1 r hr, rfl, ⟨(RG_0 k2).choose, (RG_0 k2).choose_spec, 0, 0, _, r_copy (R := fun i => X (100 + i)) (c := 14 + 3 * r + 2) k2 (RG_1 k2) (by omega), Nat.zero_le _, Nat.zero_le _, ?_⟩⟩⟩⟩⟩
    rintro _ h4 ⟨rfl, k5, F3⟩
    have st3 := CSt_fr k2 st2 F3
    obtain ⟨bb, hb9, hbB⟩ := k3.2.1
    refine ⟨_, _, st3.2.2.2.1 r hr, rfl, ⟨_, _, st3.1, rfl, ⟨_, _, _, _, st3.2.1, by decide, rfl, 0, rfl, by decide, rfl, ⟨_, st3.1, 0, 0, _, c_cubic (i := 14 + 3 * r) (c := 0) (a := (bn b (at9 + 1) 48 : Int)) k5 st3 (by omega) (by omega) (by omega) (by decide) (by rw [up1_n (by omega), up1_e]) (by rw [up1_n (by omega), up1_n (by omega)]; exact hb9), Nat.zero_le _, Nat.zero_le _, ?_⟩⟩⟩⟩
    rintro _ h5 ⟨rfl, ⟨v, k6, hv⟩, F4⟩
    have st4 := CSt_fr k5 st3 F4
    obtain ⟨rb, hrb, hrv⟩ := st4.2.2.2.2
    refine ⟨_, _, st4.1, rfl, ⟨_, _, st4.1, rfl, ⟨_, _, _, _, st4.2.1, by decide, rfl, 0, rfl, by decide, rfl, ⟨_, _, st4.1, rfl, ⟨_, _, st4.2.2.2.1 r hr, rfl, ⟨(RG_0 k6).choose, (RG_0 k6).choose_spec, 0, 0, _, r_raise (R := fun i => X (100 + i)) (c := 14 + 3 * r + 1) (at9 := 0) (size := 48) k6 (RG_r k6 (i := 0) (by omega) up1_e) hrb (by decide) (by decide) (by omega), Nat.zero_le _, Nat.zero_le _, ?_⟩⟩⟩⟩⟩⟩
    rintro _ h6 ⟨rfl, k7, F5⟩
    have st5 := CSt_fr k6 st4 F5
    generalize hyv : v ^ bn rb 0 48 = yv at k7
    refine ⟨_, _, st5.1, rfl, ⟨_, _, _, _, st5.2.1, by decide, rfl, 0, rfl, by decide, rfl, ⟨_, _, st5.2.2.2.1 r hr, rfl, ⟨_, st5.1, 0, 0, _, c_issq (i := 0) (j := 14 + 3 * r + 1) k7 st5 (by omega) (by omega) (by decide) (by rw [up1_n (by omega), up1_e]) up1_e, Nat.zero_le _, Nat.zero_le _, ?_⟩⟩⟩⟩
    rintro _ h7 ⟨⟨w7, rfl, hw7⟩, ⟨v7, k8⟩, F6⟩
    have st6 := CSt_fr k7 st5 F6
    have F16 : fr h h7 (AG n X) := fr_trans (fr_trans (fr_trans (fr_trans (fr_trans F1 F2) F3) F4) F5) F6
    have euu : ∀ i, 8 ≤ i → i < 14 + 3 * n → i < 14 + 3 * r ∨ 14 + 3 * r + 2 < i → up1 (up1 (up1 (up1 (up1 u (14 + 3 * r) (some (bn b (at9 + 1) 48 : Int))) (14 + 3 * r + 2) (some 1)) 0 (some v)) (14 + 3 * r + 1) (some yv)) 7 v7 i = u i := by
      intro i h8 _ hi
      rw [up1_n (by omega), up1_n (by omega), up1_n (by omega), up1_n (by omega), up1_n (by omega)]
    have e4 : bn rb 0 48 * 4 = cPm + 1 + 1 := hrv
    refine ⟨fun w => ?_, fun w => ?_⟩
    rotate_left
    · have w : w7 = 0 := w
      refine ⟨rfl, Or.inr ⟨rfl, fun y z => ?_, ⟨_, CA_set hk' k8 F16 (fun i h8 hn9 hi => euu i h8 hn9 (by omega)) (fun p e => by cases e)⟩⟩, F16⟩
      refine hw7.mp w ?_
      rw [← hyv]
      refine rt_sq e4 (s := y) ?_
      have z := z.2.2.1
      unfold ecC at z
      rw [hv, hbB]
      exact cK2 z
    have hsq : fz yv * fz yv = fz v := Classical.not_not.mp (fun z => w (hw7.mpr z))
    have hon : ecC (-3) (fz (cB : Int)) (fz (bn b (at9 + 1) 48 : Int)) (fz yv) := by
      unfold ecC
      rw [hsq, hv, hbB]
      exact cK3
    have hy0 : fz yv ≠ 0 := cK.2.2.2 _ _ hon
    refine vm_go rfl bX2_decode_138 oX2_decode_138 ⟨_, _, st6.2.2.2.1 r hr, rfl, ⟨_, st6.1, 0, 0, _, c_odd k8 st6 (RG_r k8 (i := 14 + 3 * r + 1) (a := yv) (by omega) (by rw [up1_n (by omega), up1_e])), Nat.zero_le _, Nat.zero_le _, ?_⟩⟩
    rintro _ h8 ⟨rfl, ⟨v8, k9⟩, F7⟩
    rw [up1_up] at k9
    have st7 := CSt_fr k8 st6 F7
    have F17 : fr h h8 (AG n X) := fr_trans F16 F7
    have h157 : ∀ fl : Nat, fl < 2 → fl + 2 = b at9 → vm_T (vm_env l O f9) mX2_decode 0 0 157 [(0, .ref (X 24)), (1, .ref fa), (2, .int (nI at9)), (3, .ref (X (1000 + r))), (4, .int (nI (b at9)))] [.int (nI fl), .int (nI ((fz yv).val % 2))] h8 (fun e h' => ((e = some (.int 1) ∧ ∃ y, EL b at9 y ∧ CA n X h' (gup g r (some (some (fz (bn b (at9 + 1) 48 : Int), y))))) ∨ (e = some (.int 0) ∧ (∀ y, ¬ EL b at9 y) ∧ CA n X h' (gup g r none))) ∧ fr h h' (AG n X)) := by
      intro fl hfl hflb
      refine vm_go rfl bX2_decode_157 oX2_decode_157 ⟨fun q => ?_, fun q => ?_⟩
      · have q : nI ((fz yv).val % 2) = nI fl := q
        rw [nI_ij (by omega) (by omega)] at q
        refine vm_go rfl bX2_decode_179 oX2_decode_179 ⟨rfl, Or.inl ⟨rfl, fz yv, ⟨hsg, hxP, hon, by omega⟩, ⟨_, CA_set hk' k9 F17 (fun i h8 hn9 hi => ?_) (fun p e => ?_)⟩⟩, F17⟩
        · rw [up1_n (by omega)]
          have := euu i h8 hn9 (by omega)
          rw [up1_n (by omega)] at this
          exact this
        · cases e
          refine ⟨(bn b (at9 + 1) 48 : Int), yv, 1, ?_, ?_, ?_, ?_, hon⟩
          · rw [up1_n (by omega), up1_n (by omega), up1_n (by omega), up1_n (by omega), up1_e]
          · rw [up1_n (by omega), up1_e]
          · rw [up1_n (by omega), up1_n (by omega), up1_n (by omega), up1_e]
          · rw [fz_1]; exact jm_6 fq_one
      · have q : ¬ nI ((fz yv).val % 2) = nI fl := q
        rw [nI_ij (by omega) (by omega)] at q
        refine ⟨_, _, st7.1, rfl, ⟨_, _, st7.1, rfl, ⟨_, _, st7.2.2.2.1 r hr, rfl, ⟨_, _, st7.2.2.2.1 r hr, rfl, ⟨(RG_0 k9).choose, (RG_0 k9).choose_spec, 0, 0, _, r_sub (R := fun i => X (100 + i)) (c := 14 + 3 * r + 1) k9 (RG_r k9 (i := 8) (a := 0) (by omega) (by rw [up1_n (by omega), up1_n (by omega), up1_n (by omega), up1_n (by omega), up1_n (by omega)]; exact k3.1)) (RG_r k9 (i := 14 + 3 * r + 1) (a := yv) (by omega) (by rw [up1_n (by omega), up1_e])) (by omega), Nat.zero_le _, Nat.zero_le _, ?_⟩⟩⟩⟩⟩
        rintro _ h9 ⟨rfl, k10, F8⟩
        have F18 : fr h h9 (AG n X) := fr_trans F17 F8
        have eny : fz (0 - yv) = - fz yv := by rw [fz_sub, fz_0]; exact zs_n
        have hon2 : ecC (-3) (fz (cB : Int)) (fz (bn b (at9 + 1) 48 : Int)) (fz (0 - yv)) := by
          rw [eny]
          exact ecO_N (p := some (_, _)) hon
        have hp2 := pr2 _ hy0
        refine vm_go rfl bX2_decode_179 oX2_decode_179 ⟨rfl, Or.inl ⟨rfl, fz (0 - yv), ⟨hsg, hxP, hon2, by rw [eny]; omega⟩, ⟨_, CA_set hk' k10 F18 (fun i h8 hn9 hi => ?_) (fun p e => ?_)⟩⟩, F18⟩
        · rw [up1_n (by omega), up1_n (by omega)]
          have := euu i h8 hn9 (by omega)
          rw [up1_n (by omega)] at this
          exact this
        · cases e
          refine ⟨(bn b (at9 + 1) 48 : Int), 0 - yv, 1, ?_, up1_e, ?_, ?_, hon2⟩
          · rw [up1_n (by omega), up1_n (by omega), up1_n (by omega), up1_n (by omega), up1_n (by omega), up1_e]
          · rw [up1_n (by omega), up1_n (by omega), up1_n (by omega), up1_n (by omega), up1_e]
          · rw [fz_1]; exact jm_6 fq_one
    refine ⟨fun q => ?_, fun q => ?_⟩
    · have q : ¬ nI (b at9) = nI 3 := q
      rw [nI_ij (by omega) (by omega)] at q
      exact vm_go rfl bX2_decode_156 oX2_decode_156 (h157 0 (by decide) (by omega))
    · have q : nI (b at9) = nI 3 := q
      rw [nI_ij (by omega) (by omega)] at q
      exact h157 1 (by decide) (by omega)
  refine vm_go rfl bX2_decode_0 oX2_decode_0 ⟨nb, f, hf, at9, rfl, by omega, fun _ => ?_⟩
  rw [hs]
  refine ⟨fun q => ?_, fun q => ?_⟩
  · have q := (sb_eq _ hs2 2 (by decide)).mp q
    refine vm_Th ?_ rfl (h19 (Or.inl q))
    rw [(sb_eq _ hs2 2 (by decide)).mpr q, q]; rfl
  · have q2 : ¬ b at9 = 2 := fun z => q ((sb_eq _ hs2 2 (by decide)).mpr z)
    refine ⟨fun q => ?_, fun q => ?_⟩
    · have q := (sb_eq _ hs2 3 (by decide)).mp q
      refine vm_Th ?_ rfl (h19 (Or.inr q))
      rw [(sb_eq _ hs2 3 (by decide)).mpr q, q]; rfl
    · have q3 : ¬ b at9 = 3 := fun z => q ((sb_eq _ hs2 3 (by decide)).mpr z)
      exact ⟨rfl, Or.inr ⟨rfl, fun y z => by rcases z.1 with w | w; exact q2 w; exact q3 w, bad0⟩, fr_refl⟩
end
