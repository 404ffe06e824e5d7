/-! the reference: its KEYS; challenges, proves, isProved -/
/-- an array of references -/
def rr9 (h : vm_H) (ty : FieldType) (n q : Nat) (F : Nat → Nat) : Prop := ∃ f : Nat → Option Nat, h.2 q = .inl (ty, n, .inr (.inr (.inr (.inr f)))) ∧ ∀ k, k < n → f k = some (F k)
theorem rr9_cg {h h' : vm_H} {ty : FieldType} {n q : Nat} {F : Nat → Nat} (k : rr9 h ty n q F) (e : h'.2 q = h.2 q) : rr9 h' ty n q F := by
  obtain ⟨f, k1, k2⟩ := k
  exact ⟨f, e.trans k1, k2⟩
/-- a row of booleans -/
def bo9 (h : vm_H) (n q : Nat) (f : Nat → Int32) : Prop := h.2 q = .inl (.boolean, n, .inl f)
/-- a Mod -/
def MQ9 (h : vm_H) (M : Nat) : Prop := (∃ x y : Int32, h.2 M = .inr (12, [.ref (M + 1), .ref (M + 2), .int x, .int y])) ∧ iw h 64 (M + 1) ∧ iw h 64 (M + 2)
/-- the KEY x in the reference's place i -/
def KR (h : vm_H) (a i : Nat) (x : aK) : Prop := (kty x = 1 → wv h 64 (a + 77 + i) 12 (bn (gb (kse x)) 0 48) ∧ ∃ A, ksh x = ptb A ∧ some A = ecM (-3) fiv (bn (gb (kse x)) 0 48) gP ∧ SP h (a + 216 + 6 * i) (some A)) ∧ (kty x = 2 → ∃ sh, MH h (a + 219 + 6 * i) (a + 219 + 6 * i + 1) (a + 219 + 6 * i + 2) ((ksz x + 3) / 4) (bn (gb (ksh x)) 0 (ksz x)) sh ∧ wv h 64 (a + 77 + i) ((ksz x + 3) / 4) (bn (gb (kse x)) 0 (ksz x)))
/-- the KEYS of the reference -/
def SK (h : vm_H) (a kn : Nat) (kf : Nat → aK) : Prop :=
  (∃ f, ia h 6 (a + 73) f ∧ ∀ i, i < kn → f i = nI (kty (kf i))) ∧
  (∃ f, bo9 h 6 (a + 74) f ∧ ∀ i, i < kn → f i = bi (klv (kf i))) ∧
  (∃ c, bv h 192 (a + 75) c ∧ ∀ i, i < kn → sl c (32 * i) 32 = kid (kf i)) ∧
  rr9 h (.array .int) 6 (a + 76) (fun i => a + 77 + i) ∧
  rr9 h (.object "VeilMintModel$Spot") 6 (a + 83) (fun i => a + 216 + 6 * i) ∧
  rr9 h (.object "VeilMintModel$Mod") 6 (a + 84) (fun i => a + 219 + 6 * i) ∧
  (∃ f, ia h 6 (a + 85) f ∧ ∀ i, i < kn → kty (kf i) = 2 → f i = nI (bn (gb (ksh (kf i))) (ksz (kf i)) 3)) ∧
  (∃ f, ia h 6 (a + 86) f ∧ ∀ i, i < kn → f i = nI (ksz (kf i))) ∧
  (∃ f, ia h 6 (a + 87) f ∧ ∀ i, i < kn → kty (kf i) = 2 → f i = nI (ksa (kf i))) ∧
  (∀ i, i < 6 → iw h 64 (a + 77 + i) ∧ SQ h (a + 216 + 6 * i) ∧ MQ9 h (a + 219 + 6 * i)) ∧
  ∀ i, i < kn → KR h a i (kf i)
theorem ia_cg9 {h h' : vm_H} {n q : Nat} {f : Nat → Int32} (k : ia h n q f) (e : h'.2 q = h.2 q) : ia h' n q f := e.trans k
theorem MQ9_cg {h h' : vm_H} {M : Nat} (k : MQ9 h M) (e : ∀ q, M ≤ q → q ≤ M + 2 → h'.2 q = h.2 q) : MQ9 h' M := by
  obtain ⟨⟨x, y, k1⟩, k2, k3⟩ := k
  exact ⟨⟨x, y, (e M (by omega) (by omega)).trans k1⟩, iw_cg k2 (e _ (by omega) (by omega)), iw_cg k3 (e _ (by omega) (by omega))⟩
theorem SP_cg {h h' : vm_H} {s : Nat} {P : Option (fq × fq)} (k : SP h s P) (e : ∀ q, s ≤ q → q ≤ s + 2 → h'.2 q = h.2 q) : SP h' s P := by
  cases P with
  | none => exact ⟨(e _ (by omega) (by omega)).trans k.1, iw_cg k.2.1 (e _ (by omega) (by omega)), iw_cg k.2.2 (e _ (by omega) (by omega))⟩
  | some p => exact ⟨(e _ (by omega) (by omega)).trans k.1, wq_cg k.2.1 (e _ (by omega) (by omega)), wq_cg k.2.2 (e _ (by omega) (by omega))⟩
theorem SQ_cg {h h' : vm_H} {s : Nat} (k : SQ h s) (e : ∀ q, s ≤ q → q ≤ s + 2 → h'.2 q = h.2 q) : SQ h' s := by
  obtain ⟨⟨b, k1⟩, k2, k3⟩ := k
  exact ⟨⟨b, (e _ (by omega) (by omega)).trans k1⟩, iw_cg k2 (e _ (by omega) (by omega)), iw_cg k3 (e _ (by omega) (by omega))⟩
theorem MH_cge {h h' : vm_H} {M n N sh : Nat} (k : MH h M (M + 1) (M + 2) n N sh) (e : ∀ q, M ≤ q → q ≤ M + 2 → h'.2 q = h.2 q) : MH h' M (M + 1) (M + 2) n N sh := by
  obtain ⟨⟨k1, k2, k3⟩, k4, k5⟩ := k
  exact ⟨⟨(e _ (by omega) (by omega)).trans k1, wv_cg k2 (e _ (by omega) (by omega)), k3⟩, wv_cg k4 (e _ (by omega) (by omega)), k5⟩
theorem KR_cg {h h' : vm_H} {a i : Nat} {x : aK} (k : KR h a i x) (e1 : h'.2 (a + 77 + i) = h.2 (a + 77 + i)) (e : ∀ q, a + 216 + 6 * i ≤ q → q < a + 222 + 6 * i → h'.2 q = h.2 q) : KR h' a i x := by
  refine ⟨fun q => ?_, fun q => ?_⟩
  · obtain ⟨w, A, k1, k2, k3⟩ := k.1 q
    exact ⟨wv_cg w e1, A, k1, k2, SP_cg k3 (fun q z1 z2 => e q (by omega) (by omega))⟩
  · obtain ⟨sh, k1, k2⟩ := k.2 q
    exact ⟨sh, MH_cge k1 (fun q z1 z2 => e q (by omega) (by omega)), wv_cg k2 e1⟩
theorem SK_cg {h h' : vm_H} {a kn : Nat} {kf : Nat → aK} (k : SK h a kn kf) (hn : kn ≤ 6) (e : ∀ q, (a + 73 ≤ q ∧ q ≤ a + 87) ∨ (a + 216 ≤ q ∧ q ≤ a + 251) → h'.2 q = h.2 q) : SK h' a kn kf := by
  obtain ⟨⟨f1, k1, v1⟩, ⟨f2, k2, v2⟩, ⟨f3, k3, v3⟩, k4, k5, k6, ⟨f7, k7, v7⟩, ⟨f8, k8, v8⟩, ⟨f9, k9, v9⟩, k10, k11⟩ := k
  refine ⟨⟨f1, ia_cg9 k1 (e _ (by omega)), v1⟩, ⟨f2, (e _ (by omega)).trans k2, v2⟩, ⟨f3, bv_cg k3 (e _ (by omega)), v3⟩, rr9_cg k4 (e _ (by omega)), rr9_cg k5 (e _ (by omega)), rr9_cg k6 (e _ (by omega)), ⟨f7, ia_cg9 k7 (e _ (by omega)), v7⟩, ⟨f8, ia_cg9 k8 (e _ (by omega)), v8⟩, ⟨f9, ia_cg9 k9 (e _ (by omega)), v9⟩, fun i hi => ?_, fun i hi => ?_⟩
  · obtain ⟨q1, q2, q3⟩ := k10 i hi
    exact ⟨iw_cg q1 (e _ (by omega)), SQ_cg q2 (fun q z1 z2 => e _ (by omega)), MQ9_cg q3 (fun q z1 z2 => e _ (by omega))⟩
  · exact KR_cg (k11 i hi) (e _ (by omega)) (fun q z1 z2 => e _ (by omega))
/-- cells that are no state -/
def scr (a q : Nat) : Prop := (a ≤ q ∧ q ≤ a + 72) ∨ (a + 155 ≤ q ∧ q ≤ a + 215)
theorem SK_fr {h h' : vm_H} {a kn : Nat} {kf : Nat → aK} {S : Nat → Prop} (k : SK h a kn kf) (hn : kn ≤ 6) (F : fr h h' S) (hS : ∀ q, S q → scr a q) : SK h' a kn kf := SK_cg k hn (fun q z => F.2 q (fun y => by have := hS q y; unfold scr at this; omega))
def PV (a q : Nat) : Prop := CP a q ∨ (a + 58 ≤ q ∧ q ≤ a + 63) ∨ (a + 70 ≤ q ∧ q ≤ a + 72)
theorem PV_scr {a q : Nat} (k : PV a q) : scr a q := by unfold PV CP JM JW at k; unfold scr; omega
theorem CP_scr {a q : Nat} (k : CP a q) : scr a q := by unfold CP JM JW at k; unfold scr; omega
theorem SP_fl {h : vm_H} {s : Nat} {P : Option (fq × fq)} (k : SP h s P) : h.2 s = SPo s (bi P.isNone) := by
  cases P with
  | none => exact k.1
  | some p => exact k.1
section
variable {l : Launch} {O : Nat → vm_Ob} {f9 : Value} {h : vm_H} {a : Nat} {t : KT} {g : Nat → Int32} {m y : List Nat}

theorem rm_challenges {sA c : Nat} {A : fq × fq} {M Z T U : Option (fq × fq)} (h9 : f9.category = 1) (k : SY h a t g [] m y) (hA : SP h sA (some A)) (oA : a + 72 < sA) (zc : TG a c) (hc : a + 69 < c ∧ c < a + 73) (hM : SP h (a + 52) M) (hZ : SP h (a + 55) Z) (hT : SP h (a + 58) T) (hU : SP h (a + 61) U) : vm_Met (vm_env l O f9) mX14_challenges 0 0 [.ref a, .ref sA, .ref c] h (fun r h' => (∃ ok : Bool, r = some (.int (bi ok)) ∧ (ok = true ↔ M ≠ none ∧ Z ≠ none ∧ T ≠ none ∧ U ≠ none) ∧ (ok = true → wv h' 12 c 12 (hts t.2.2.1 t.2.2.2 (chm (ptb A) M Z T U)))) ∧ (∃ m' y', SY h' a t g [] m' y') ∧ fr h h' (fun q => q = a ∨ q = a + 1 ∨ (a + 28 ≤ q ∧ q ≤ a + 38) ∨ q = a + 68 ∨ q = c)) := by
  suffices H : ∀ Q : Option Value → vm_H → Prop, (∀ (ok : Bool) (h' : vm_H), (ok = true ↔ M ≠ none ∧ Z ≠ none ∧ T ≠ none ∧ U ≠ none) → (ok = true → wv h' 12 c 12 (hts t.2.2.1 t.2.2.2 (chm (ptb A) M Z T U))) → (∃ m' y', SY h' a t g [] m' y') → fr h h' (fun q => q = a ∨ q = a + 1 ∨ (a + 28 ≤ q ∧ q ≤ a + 38) ∨ q = a + 68 ∨ q = c) → Q (some (.int (bi ok))) h') → vm_Met (vm_env l O f9) mX14_challenges 0 0 [.ref a, .ref sA, .ref c] h Q from H _ (fun ok h' a1 a2 a3 a4 => ⟨⟨ok, rfl, a1, a2⟩, a3, a4⟩)
  intro Q hQ
  have ao := k.1.2.1
  have la : a < 1099511627776 := by omega
  have bad : ¬ (M ≠ none ∧ Z ≠ none ∧ T ≠ none ∧ U ≠ none) → vm_T (vm_env l O f9) mX14_challenges 0 0 40 [(0, .ref a), (1, .ref sA), (2, .ref c)] [] h Q := fun n => vm_go rfl bX14_challengesx_40 oX14_challengesx_40 ⟨rfl, hQ false h ⟨fun y => (nomatch y), fun y => absurd y n⟩ (fun y => (nomatch y)) ⟨_, _, k⟩ fr_refl⟩
  refine vm_met rfl (Nat.le_of_ble_eq_true rfl) ?_
  refine vm_go rfl bX14_challengesx_0 oX14_challengesx_0 ?_
  refine ⟨_, _, k.1.1, rfl, ⟨_, _, SP_fl hM, rfl, ?_⟩⟩
  cases M with
  | none => exact ⟨fun _ => bad (fun q => q.1 rfl), fun q => absurd q (by decide)⟩
  | some M =>
  refine ⟨fun q => absurd rfl q, fun _ => ⟨_, _, k.1.1, rfl, ⟨_, _, SP_fl hZ, rfl, ?_⟩⟩⟩
  cases Z with
  | none => exact ⟨fun _ => bad (fun q => q.2.1 rfl), fun q => absurd q (by decide)⟩
  | some Z =>
  refine ⟨fun q => absurd rfl q, fun _ => ⟨_, _, k.1.1, rfl, ⟨_, _, SP_fl hT, rfl, ?_⟩⟩⟩
  cases T with
  | none => exact ⟨fun _ => bad (fun q => q.2.2.1 rfl), fun q => absurd q (by decide)⟩
  | some T =>
  refine ⟨fun q => absurd rfl q, fun _ => ⟨_, _, k.1.1, rfl, ⟨_, _, SP_fl hU, rfl, ?_⟩⟩⟩
  cases U with
  | none => exact ⟨fun q => absurd q (by decide), fun _ => bad (fun q => q.2.2.2 rfl)⟩
  | some U =>
  refine ⟨fun _ => ?_, fun q => absurd rfl q⟩
  refine vm_go rfl bX14_challengesx_42 oX14_challengesx_42 ⟨_, k.1.1, la, show 26 < 89 by decide, trivial, ?_⟩
  obtain ⟨h1, eh1⟩ : ∃ h1, h1 = vm_up h a (RO a (u3 g (nI ([] : List Nat).length) (nI ([] : List Nat).length) (nI y.length))) := ⟨_, rfl⟩
  have F1 : fr h h1 (fun q => q = a) := eh1 ▸ fr_up rfl
  have c34 := k.2.2.2.1
  have k1 : SY h1 a t g [] [] y := SY_ms k F1 (fun q z => .inl z) (by rw [eh1]; exact vm_upe) (by decide) ⟨_, bv_cg c34.choose_spec.1 (F1.2 _ (by omega)), rfl⟩
  refine vm_Th (lv' := [(0, .ref a), (1, .ref sA), (2, .ref c)]) (h' := h1) rfl eh1 ?_
  have G1 : fr h h1 (fun q => q = a ∨ q = a + 34 ∨ q = a + 68) := fr_mono F1 (fun q z => .inl z)
  refine vm_go rfl bX14_challengesx_47 oX14_challengesx_47 ⟨_, k1.1.1, 0, 0, _, rm_laysSpot k1 (SP_fr hA G1 (fun q z1 z2 z3 => by omega)) (by decide), Nat.zero_le _, Nat.zero_le _, ?_⟩
  rintro _ h2 ⟨rfl, k2, F2⟩
  rw [List.nil_append] at k2
  have lm1 : (nb 49 2 ++ ptb A).length = 51 := by rw [List.length_append, nb_len, ptb_len]
  have G2 : fr h h2 (fun q => q = a ∨ q = a + 34 ∨ q = a + 68) := fr_trans G1 F2
  refine ⟨_, _, k2.1.1, rfl, ⟨_, k2.1.1, 0, 0, _, rm_laysSpot k2 (SP_fr hM G2 (fun q z1 z2 z3 => by omega)) (by rw [lm1]; decide), Nat.zero_le _, Nat.zero_le _, ?_⟩⟩
  rintro _ h3 ⟨rfl, k3, F3⟩
  have lm2 : (nb 49 2 ++ ptb A ++ nb 49 2 ++ ptb M).length = 102 := by rw [List.length_append, List.length_append, lm1, nb_len, ptb_len]
  have G3 : fr h h3 (fun q => q = a ∨ q = a + 34 ∨ q = a + 68) := fr_trans G2 F3
  refine ⟨_, _, k3.1.1, rfl, ⟨_, k3.1.1, 0, 0, _, rm_laysSpot k3 (SP_fr hZ G3 (fun q z1 z2 z3 => by omega)) (by rw [lm2]; decide), Nat.zero_le _, Nat.zero_le _, ?_⟩⟩
  rintro _ h4 ⟨rfl, k4, F4⟩
  have lm3 : (nb 49 2 ++ ptb A ++ nb 49 2 ++ ptb M ++ nb 49 2 ++ ptb Z).length = 153 := by rw [List.length_append, List.length_append, lm2, nb_len, ptb_len]
  have G4 : fr h h4 (fun q => q = a ∨ q = a + 34 ∨ q = a + 68) := fr_trans G3 F4
  refine ⟨_, _, k4.1.1, rfl, ⟨_, k4.1.1, 0, 0, _, rm_laysSpot k4 (SP_fr hT G4 (fun q z1 z2 z3 => by omega)) (by rw [lm3]; decide), Nat.zero_le _, Nat.zero_le _, ?_⟩⟩
  rintro _ h5 ⟨rfl, k5, F5⟩
  have lm4 : (nb 49 2 ++ ptb A ++ nb 49 2 ++ ptb M ++ nb 49 2 ++ ptb Z ++ nb 49 2 ++ ptb T).length = 204 := by rw [List.length_append, List.length_append, lm3, nb_len, ptb_len]
  have G5 : fr h h5 (fun q => q = a ∨ q = a + 34 ∨ q = a + 68) := fr_trans G4 F5
  refine ⟨_, _, k5.1.1, rfl, ⟨_, k5.1.1, 0, 0, _, rm_laysSpot k5 (SP_fr hU G5 (fun q z1 z2 z3 => by omega)) (by rw [lm4]; decide), Nat.zero_le _, Nat.zero_le _, ?_⟩⟩
  rintro _ h6 ⟨rfl, k6, F6⟩
  have lm5 : (nb 49 2 ++ ptb A ++ nb 49 2 ++ ptb M ++ nb 49 2 ++ ptb Z ++ nb 49 2 ++ ptb T ++ nb 49 2 ++ ptb U).length = 255 := by rw [List.length_append, List.length_append, lm4, nb_len, ptb_len]
  have G6 : fr h h6 (fun q => q = a ∨ q = a + 34 ∨ q = a + 68) := fr_trans G5 F6
  refine vm_ldw (idx := 414) (id := 1099511627824) (by decide +kernel) (List.mem_of_getElem? (i := 21) rfl) ?_
  refine vm_go rfl bX14_challengesx_88 oX14_challengesx_88 ⟨_, k6.1.1, 0, 0, _, rm_laysWord h9 k6 k6.1.2.2.1.2.1.2.2.2.2.2.2.1 (by rw [lm5]; decide), Nat.zero_le _, Nat.zero_le _, ?_⟩
  rintro _ h7 ⟨rfl, k7, F7⟩
  refine ⟨_, k7.1.1, 0, 0, _, rm_toScalar h9 k7 zc (by omega), Nat.zero_le _, Nat.zero_le _, ?_⟩
  rintro _ h8 ⟨rfl, k8, w8, F8⟩
  exact ⟨rfl, hQ true h8 ⟨fun _ => ⟨(fun q => (nomatch q)), (fun q => (nomatch q)), (fun q => (nomatch q)), (fun q => (nomatch q))⟩, fun _ => rfl⟩ (fun _ => w8) ⟨_, _, k8⟩ (fr_trans (fr_mono G6 (fun q z => by omega)) (fr_trans (fr_mono F7 (fun q z => by omega)) (fr_mono F8 (fun q z => by omega))))⟩
theorem rm_proves {R X : Nat} {n i kn : Nat} {A : fq × fq} {C D : Nat → fq × fq} {kf : Nat → aK} (h9 : f9.category = 1) (k : SY h a t g [] m y) (sk : SK h a kn kf) (hkn : kn ≤ 6) (hi : i < kn) (hA : SP h (a + 216 + 6 * i) (some A)) (oA : ecO (-3) (fz (cB : Int)) (some A)) (hn : n ≤ 8) (hC : ∀ i, i < n → SP h (a + 168 + 6 * i) (some (C i))) (hD : ∀ i, i < n → SP h (a + 171 + 6 * i) (some (D i))) (oC : ∀ i, i < n → ecO (-3) (fz (cB : Int)) (some (C i))) (oD : ∀ i, i < n → ecO (-3) (fz (cB : Int)) (some (D i))) (hX : wv h 64 (a + 77 + i) 12 X) (lX : X < 4294967296 ^ 12) (hR : wv h 12 (a + 166) 12 R) (lR : R < cQ) : vm_Met (vm_env l O f9) mX14_proves 0 0 [.ref a, .int (nI i), .int (nI n), .ref (a + 166)] h (fun r h' => (∃ M Z : Option (fq × fq), M = cs (fun i => some (C i)) (fun i => wgt t.2.2.1 t.2.2.2 (sdl t.2.2.1 t.2.2.2 (ptb A)) (ptb (C i)) (ptb (D i)) i) n ∧ Z = cs (fun i => some (D i)) (fun i => wgt t.2.2.1 t.2.2.2 (sdl t.2.2.1 t.2.2.2 (ptb A)) (ptb (C i)) (ptb (D i)) i) n ∧ ∃ ok : Bool, r = some (.int (bi ok)) ∧ (ok = true ↔ M ≠ none ∧ Z ≠ none ∧ ecM (-3) fiv R gP ≠ none ∧ ecM (-3) fiv R M ≠ none) ∧ (ok = true → ∃ c9, c9 = hts t.2.2.1 t.2.2.2 (chm (ptb A) M Z (ecM (-3) fiv R gP) (ecM (-3) fiv R M)) ∧ wv h' 12 (a + 70) 12 c9 ∧ wv h' 12 (a + 71) 12 (smk R c9 X))) ∧ (∃ m' y', SY h' a t g [] m' y') ∧ fr h h' (PV a)) := by
  have ao := k.1.2.1
  obtain ⟨fa, ea, va⟩ := sk.2.2.2.2.1
  obtain ⟨fs, es, vs⟩ := sk.2.2.2.1
  have nS : ∀ h', fr h h' (PV a) → ∀ q, ¬ scr a q → h'.2 q = h.2 q := fun h' F q n => F.2 q (fun z => n (PV_scr z))
  refine vm_met rfl (Nat.le_of_ble_eq_true rfl) ?_
  refine vm_go rfl bX14_proves_0 oX14_proves_0 ⟨_, _, k.1.1, rfl, ⟨_, _, _, .ref (a + 216 + 6 * i), ea, by decide, rfl, i, rfl, by omega, by rw [va i (by omega)]; rfl, ⟨_, k.1.1, 0, 0, _, rm_composes h9 k hn hA (by omega) hC hD oC oD, Nat.zero_le _, Nat.zero_le _, ?_⟩⟩⟩
  rintro _ h1 ⟨rfl, ⟨m1, y1, k1⟩, M1, Z1, F1⟩
  obtain ⟨M, eM⟩ : ∃ M, cs (fun i => some (C i)) (fun i => wgt t.2.2.1 t.2.2.2 (sdl t.2.2.1 t.2.2.2 (ptb A)) (ptb (C i)) (ptb (D i)) i) n = M := ⟨_, rfl⟩
  obtain ⟨Z, eZ⟩ : ∃ Z, cs (fun i => some (D i)) (fun i => wgt t.2.2.1 t.2.2.2 (sdl t.2.2.1 t.2.2.2 (ptb A)) (ptb (C i)) (ptb (D i)) i) n = Z := ⟨_, rfl⟩
  have oM : ecO (-3) (fz (cB : Int)) M := by rw [← eM]; exact cs_o n oC
  rw [eM] at M1
  rw [eZ] at Z1
  have F1p : fr h h1 (PV a) := fr_mono F1 (fun q z => .inl z)
  have hR1 := wv_cg hR (F1.2 (a + 166) (by unfold CP JM JW; omega))
  have lR12 : R < 4294967296 ^ 12 := Nat.lt_trans lR cQ_12
  have z58 : ZP 58 := by unfold ZP; omega
  have z61 : ZP 61 := by unfold ZP; omega
  refine ⟨_, _, k1.1.1, rfl, ⟨_, _, k1.1.1, rfl, ⟨_, k1.1.1, 0, 0, _, rq_mult (s := 58) (P := gP) k1.1 hR1 (by decide) lR12 k1.1.2.2.2.1.2.2.1 gP_o z58 (by decide) (by omega) (by omega) (by omega), Nat.zero_le _, Nat.zero_le _, ?_⟩⟩⟩
  rintro _ h2 ⟨rfl, k2, T2, F2⟩
  have k2 := SY_fr k1 k2 F2 (by unfold JM JW; omega)
  have M2 := SP_fr M1 F2 (fun q z1 z2 z3 => by unfold JM JW at z3; omega)
  have Z2 := SP_fr Z1 F2 (fun q z1 z2 z3 => by unfold JM JW at z3; omega)
  have hR2 := wv_cg hR1 (F2.2 (a + 166) (by unfold JM JW; omega))
  have F2p : fr h h2 (PV a) := fr_trans F1p (fr_mono F2 (fun q z => by unfold PV CP JM JW at *; omega))
  refine ⟨_, _, k2.1.1, rfl, ⟨_, _, k2.1.1, rfl, ⟨_, k2.1.1, 0, 0, _, rq_mult (s := 61) k2.1 hR2 (by decide) lR12 M2 oM z61 (by decide) (by omega) (by omega) (by omega), Nat.zero_le _, Nat.zero_le _, ?_⟩⟩⟩
  rintro _ h3 ⟨rfl, k3, U3, F3⟩
  have k3 := SY_fr k2 k3 F3 (by unfold JM JW; omega)
  have M3 := SP_fr M2 F3 (fun q z1 z2 z3 => by unfold JM JW at z3; omega)
  have Z3 := SP_fr Z2 F3 (fun q z1 z2 z3 => by unfold JM JW at z3; omega)
  have T3 := SP_fr T2 F3 (fun q z1 z2 z3 => by unfold JM JW at z3; omega)
  have hR3 := wv_cg hR2 (F3.2 (a + 166) (by unfold JM JW; omega))
  have F3p : fr h h3 (PV a) := fr_trans F2p (fr_mono F3 (fun q z => by unfold PV CP JM JW at *; omega))
  have ea3 := (nS h3 F3p (a + 83) (by unfold scr; omega)).trans ea
  have A3 : SP h3 (a + 216 + 6 * i) (some A) := SP_cg hA (fun q z1 z2 => nS h3 F3p q (by unfold scr; omega))
  refine ⟨_, _, k3.1.1, rfl, ⟨_, _, _, .ref (a + 216 + 6 * i), ea3, by decide, rfl, i, rfl, by omega, by rw [va i (by omega)]; rfl, ⟨_, _, k3.1.1, rfl, ⟨_, k3.1.1, 0, 0, _, rm_challenges h9 k3 A3 (by omega) (c := a + 70) (TG_i (by unfold ZI; omega) rfl) (by omega) M3 Z3 T3 U3, Nat.zero_le _, Nat.zero_le _, ?_⟩⟩⟩⟩
  rintro _ h4 ⟨⟨ok, rfl, hok, hv⟩, ⟨m4, y4, k4⟩, F4⟩
  have F4p : fr h h4 (PV a) := fr_trans F3p (fr_mono F4 (fun q z => by unfold PV CP JM JW; omega))
  cases ok with
  | false =>
    refine ⟨fun q => absurd rfl q, fun _ => ⟨rfl, ⟨M, Z, eM.symm, eZ.symm, false, rfl, hok, fun y => (nomatch y)⟩, ⟨_, _, k4⟩, F4p⟩⟩
  | true =>
  refine ⟨fun _ => ?_, fun q => absurd q (by decide)⟩
  have w4 := hv rfl
  obtain ⟨c9, ec9⟩ : ∃ c9, hts t.2.2.1 t.2.2.2 (chm (ptb A) M Z (ecM (-3) fiv R gP) (ecM (-3) fiv R M)) = c9 := ⟨_, rfl⟩
  have lc9 : c9 < cQ := by rw [← ec9]; exact hts_lt
  rw [ec9] at w4
  have lc12 : c9 < 4294967296 ^ 12 := Nat.lt_trans lc9 cQ_12
  have kq := k4.1.2.2.2.1.2.1
  have es4 := (nS h4 F4p (a + 76) (by unfold scr; omega)).trans es
  have hX4 := wv_cg hX (nS h4 F4p (a + 77 + i) (by unfold scr; omega))
  have hR4 := wv_cg hR3 (F4.2 (a + 166) (by omega))
  refine vm_go rfl bX14_proves_56 oX14_proves_56 ⟨_, _, k4.1.1, rfl, ⟨_, _, k4.1.1, rfl, ⟨_, _, k4.1.1, rfl, ⟨_, _, _, .ref (a + 77 + i), es4, by decide, rfl, i, rfl, by omega, by rw [vs i (by omega)]; rfl, ⟨_, _, k4.1.1, rfl, ⟨_, k4.1.1, 0, 0, _, rm_times kq k4.1.1 (CU_1 (RK_cu k4.1)) w4 hX4 (by decide) (by decide) lc12 lX (TG_iw k4.1 (c := a + 69) (TG_i (by unfold ZI; omega) rfl)) (by decide) (by omega) (by omega) (by omega) (by omega) (by omega) (by omega) ao, Nat.zero_le _, Nat.zero_le _, ?_⟩⟩⟩⟩⟩⟩
  rintro _ h5 ⟨rfl, w5, i5, F5⟩
  have r5 := (F5.2 a (by omega)).trans k4.1.1
  have k5 : RK h5 a t (u3 g (nI ([] : List Nat).length) (nI m4.length) (nI y4.length)) := RK_of k4.1 F5 r5 (fun q z => by
    rcases z with rfl | rfl
    · exact .inr (GD_i (by unfold ZI; omega) i5)
    · exact .inr (GD_i (by unfold ZI; omega) (wv_iw w5)))
  have k5 := SY_fr k4 k5 F5 (by omega)
  obtain ⟨f71, e71⟩ := RK_12 k5.1 (i := 71) (by unfold ZI; omega) rfl
  refine ⟨_, _, k5.1.1, rfl, ⟨_, _, k5.1.1, rfl, ⟨_, _, k5.1.1, rfl, ⟨0, 0, _, rm_sub k5.1.2.2.2.1.2.1.1 (wv_cg hR4 (F5.2 (a + 166) (by omega))) w5 e71 (by decide) (by decide) (by decide) (by omega) (by omega) lR (Nat.mod_lt _ cQ_pos), Nat.zero_le _, Nat.zero_le _, ?_⟩⟩⟩⟩
  rintro _ h6 ⟨rfl, ⟨t', e1, e2, _⟩, F6⟩
  have w6 : wv h6 12 (a + 71) 12 (smk R c9 X) := ⟨t', e1, e2⟩
  have k6 := SY_fr k5 (RK_of k5.1 F6 ((F6.2 a (by omega)).trans k5.1.1) (fun q z => .inr (z ▸ GD_i (i := 71) (by unfold ZI; omega) (wv_iw w6)))) F6 (by omega)
  exact ⟨rfl, ⟨M, Z, eM.symm, eZ.symm, true, rfl, hok, fun _ => ⟨c9, ec9.symm, wv_cg (wv_cg w4 (F5.2 (a + 70) (by omega))) (F6.2 (a + 70) (by omega)), w6⟩⟩, ⟨_, _, k6⟩, fr_trans F4p (fr_trans (fr_mono F5 (fun q z => by unfold PV CP JM JW; omega)) (fr_mono F6 (fun q z => by unfold PV; omega)))⟩
theorem rm_isProved {c9 s9 : Nat} {n i kn : Nat} {A : fq × fq} {C D : Nat → fq × fq} {kf : Nat → aK} (h9 : f9.category = 1) (k : SY h a t g [] m y) (sk : SK h a kn kf) (hkn : kn ≤ 6) (hi : i < kn) (hA : SP h (a + 216 + 6 * i) (some A)) (oA : ecO (-3) (fz (cB : Int)) (some A)) (hn : n ≤ 8) (hC : ∀ i, i < n → SP h (a + 168 + 6 * i) (some (C i))) (hD : ∀ i, i < n → SP h (a + 171 + 6 * i) (some (D i))) (oC : ∀ i, i < n → ecO (-3) (fz (cB : Int)) (some (C i))) (oD : ∀ i, i < n → ecO (-3) (fz (cB : Int)) (some (D i))) (hc : wv h 12 (a + 70) 12 c9) (lc : c9 < cQ) (hs : wv h 12 (a + 71) 12 s9) (ls : s9 < cQ) : vm_Met (vm_env l O f9) mX14_isProved 0 0 [.ref a, .int (nI i), .int (nI n)] h (fun r h' => (∃ M Z : Option (fq × fq), M = cs (fun i => some (C i)) (fun i => wgt t.2.2.1 t.2.2.2 (sdl t.2.2.1 t.2.2.2 (ptb A)) (ptb (C i)) (ptb (D i)) i) n ∧ Z = cs (fun i => some (D i)) (fun i => wgt t.2.2.1 t.2.2.2 (sdl t.2.2.1 t.2.2.2 (ptb A)) (ptb (C i)) (ptb (D i)) i) n ∧ ∃ ok : Bool, r = some (.int (bi ok)) ∧ (ok = true ↔ (M ≠ none ∧ Z ≠ none ∧ pvU s9 c9 gP (some A) ≠ none ∧ pvU s9 c9 M Z ≠ none) ∧ hts t.2.2.1 t.2.2.2 (chm (ptb A) M Z (pvU s9 c9 gP (some A)) (pvU s9 c9 M Z)) = c9)) ∧ (∃ m' y', SY h' a t g [] m' y') ∧ fr h h' (PV a)) := by
  suffices H : ∀ Q : Option Value → vm_H → Prop, (∀ (M Z : Option (fq × fq)) (ok : Bool) (h' : vm_H), M = cs (fun i => some (C i)) (fun i => wgt t.2.2.1 t.2.2.2 (sdl t.2.2.1 t.2.2.2 (ptb A)) (ptb (C i)) (ptb (D i)) i) n → Z = cs (fun i => some (D i)) (fun i => wgt t.2.2.1 t.2.2.2 (sdl t.2.2.1 t.2.2.2 (ptb A)) (ptb (C i)) (ptb (D i)) i) n → (ok = true ↔ (M ≠ none ∧ Z ≠ none ∧ pvU s9 c9 gP (some A) ≠ none ∧ pvU s9 c9 M Z ≠ none) ∧ hts t.2.2.1 t.2.2.2 (chm (ptb A) M Z (pvU s9 c9 gP (some A)) (pvU s9 c9 M Z)) = c9) → (∃ m' y', SY h' a t g [] m' y') → fr h h' (PV a) → Q (some (.int (bi ok))) h') → vm_Met (vm_env l O f9) mX14_isProved 0 0 [.ref a, .int (nI i), .int (nI n)] h Q from H _ (fun M Z ok h' a1 a2 a3 a4 a5 => ⟨⟨M, Z, a1, a2, ok, rfl, a3⟩, a4, a5⟩)
  intro Q hQ
  have ao := k.1.2.1
  obtain ⟨fa, ea, va⟩ := sk.2.2.2.2.1
  have nS : ∀ h', fr h h' (PV a) → ∀ q, ¬ scr a q → h'.2 q = h.2 q := fun h' F q n => F.2 q (fun z => n (PV_scr z))
  refine vm_met rfl (Nat.le_of_ble_eq_true rfl) ?_
  refine vm_go rfl bX14_isProved_0 oX14_isProved_0 ⟨_, _, k.1.1, rfl, ⟨_, _, _, .ref (a + 216 + 6 * i), ea, by decide, rfl, i, rfl, by omega, by rw [va i (by omega)]; rfl, ⟨_, k.1.1, 0, 0, _, rm_composes h9 k hn hA (by omega) hC hD oC oD, Nat.zero_le _, Nat.zero_le _, ?_⟩⟩⟩
  rintro _ h1 ⟨rfl, ⟨m1, y1, k1⟩, M1, Z1, F1⟩
  obtain ⟨M, eM⟩ : ∃ M, cs (fun i => some (C i)) (fun i => wgt t.2.2.1 t.2.2.2 (sdl t.2.2.1 t.2.2.2 (ptb A)) (ptb (C i)) (ptb (D i)) i) n = M := ⟨_, rfl⟩
  obtain ⟨Z, eZ⟩ : ∃ Z, cs (fun i => some (D i)) (fun i => wgt t.2.2.1 t.2.2.2 (sdl t.2.2.1 t.2.2.2 (ptb A)) (ptb (C i)) (ptb (D i)) i) n = Z := ⟨_, rfl⟩
  have oM : ecO (-3) (fz (cB : Int)) M := by rw [← eM]; exact cs_o n oC
  have oZ : ecO (-3) (fz (cB : Int)) Z := by rw [← eZ]; exact cs_o n oD
  rw [eM] at M1
  rw [eZ] at Z1
  have F1p : fr h h1 (PV a) := fr_mono F1 (fun q z => .inl z)
  have hc1 := wv_cg hc (F1.2 (a + 70) (by unfold CP JM JW; omega))
  have hs1 := wv_cg hs (F1.2 (a + 71) (by unfold CP JM JW; omega))
  have lc12 : c9 < 4294967296 ^ 12 := Nat.lt_trans lc cQ_12
  have ls12 : s9 < 4294967296 ^ 12 := Nat.lt_trans ls cQ_12
  have z58 : ZP 58 := by unfold ZP; omega
  have z61 : ZP 61 := by unfold ZP; omega
  have z64 : ZP 64 := by unfold ZP; omega
  refine ⟨_, _, k1.1.1, rfl, ⟨_, _, k1.1.1, rfl, ⟨_, _, k1.1.1, rfl, ⟨_, k1.1.1, 0, 0, _, rq_mult (s := 58) (P := gP) k1.1 hs1 (by decide) ls12 k1.1.2.2.2.1.2.2.1 gP_o z58 (by decide) (by omega) (by omega) (by omega), Nat.zero_le _, Nat.zero_le _, ?_⟩⟩⟩⟩
  rintro _ h2 ⟨rfl, k2, T, F2⟩
  have k2 := SY_fr k1 k2 F2 (by unfold JM JW; omega)
  have M1 := SP_fr M1 F2 (fun q z1 z2 z3 => by unfold JM JW at z3; omega)
  have Z1 := SP_fr Z1 F2 (fun q z1 z2 z3 => by unfold JM JW at z3; omega)
  have hc1 := wv_cg hc1 (F2.2 (a + 70) (by unfold JM JW; omega))
  have hs1 := wv_cg hs1 (F2.2 (a + 71) (by unfold JM JW; omega))
  have F2p : fr h h2 (PV a) := fr_trans F1p (fr_mono F2 (fun q z => by unfold PV CP JM JW at *; omega))
  have ea2 := (nS h2 F2p (a + 83) (by unfold scr; omega)).trans ea
  have A2 : SP h2 (a + 216 + 6 * i) (some A) := SP_cg hA (fun q z1 z2 => nS h2 F2p q (by unfold scr; omega))
  refine ⟨_, _, k2.1.1, rfl, ⟨_, _, k2.1.1, rfl, ⟨_, _, _, .ref (a + 216 + 6 * i), ea2, by decide, rfl, i, rfl, by omega, by rw [va i (by omega)]; rfl, ⟨_, _, k2.1.1, rfl, ⟨_, k2.1.1, 0, 0, _, rq_mult (s := 64) k2.1 hc1 (by decide) lc12 A2 oA z64 (by decide) (by omega) (by omega) (by omega), Nat.zero_le _, Nat.zero_le _, ?_⟩⟩⟩⟩⟩
  rintro _ h3 ⟨rfl, k3, P, F3⟩
  have k3 := SY_fr k2 k3 F3 (by unfold JM JW; omega)
  have M1 := SP_fr M1 F3 (fun q z1 z2 z3 => by unfold JM JW at z3; omega)
  have Z1 := SP_fr Z1 F3 (fun q z1 z2 z3 => by unfold JM JW at z3; omega)
  have T := SP_fr T F3 (fun q z1 z2 z3 => by unfold JM JW at z3; omega)
  have hc1 := wv_cg hc1 (F3.2 (a + 70) (by unfold JM JW; omega))
  have hs1 := wv_cg hs1 (F3.2 (a + 71) (by unfold JM JW; omega))
  have F3p : fr h h3 (PV a) := fr_trans F2p (fr_mono F3 (fun q z => by unfold PV CP JM JW at *; omega))
  refine ⟨_, _, k3.1.1, rfl, ⟨_, _, k3.1.1, rfl, ⟨_, _, k3.1.1, rfl, ⟨_, k3.1.1, 0, 0, _, rq_join (s := 58) k3.1 T P z58 (okP z58 ao) (okP z64 ao) (.inl rfl) (by unfold apS; omega), Nat.zero_le _, Nat.zero_le _, ?_⟩⟩⟩⟩
  rintro _ h4 ⟨rfl, k4, T, F4⟩
  have k4 := SY_fr k3 k4 F4 (by unfold JW; omega)
  have M1 := SP_fr M1 F4 (fun q z1 z2 z3 => by unfold JW at z3; omega)
  have Z1 := SP_fr Z1 F4 (fun q z1 z2 z3 => by unfold JW at z3; omega)
  have hc1 := wv_cg hc1 (F4.2 (a + 70) (by unfold JW; omega))
  have hs1 := wv_cg hs1 (F4.2 (a + 71) (by unfold JW; omega))
  have F4p : fr h h4 (PV a) := fr_trans F3p (fr_mono F4 (fun q z => by unfold PV CP JM JW at *; omega))
  refine ⟨_, _, k4.1.1, rfl, ⟨_, _, k4.1.1, rfl, ⟨_, _, k4.1.1, rfl, ⟨_, k4.1.1, 0, 0, _, rq_mult (s := 61) k4.1 hs1 (by decide) ls12 M1 oM z61 (by decide) (by omega) (by omega) (by omega), Nat.zero_le _, Nat.zero_le _, ?_⟩⟩⟩⟩
  rintro _ h5 ⟨rfl, k5, U, F5⟩
  have k5 := SY_fr k4 k5 F5 (by unfold JM JW; omega)
  have M1 := SP_fr M1 F5 (fun q z1 z2 z3 => by unfold JM JW at z3; omega)
  have Z1 := SP_fr Z1 F5 (fun q z1 z2 z3 => by unfold JM JW at z3; omega)
  have T := SP_fr T F5 (fun q z1 z2 z3 => by unfold JM JW at z3; omega)
  have hc1 := wv_cg hc1 (F5.2 (a + 70) (by unfold JM JW; omega))
  have hs1 := wv_cg hs1 (F5.2 (a + 71) (by unfold JM JW; omega))
  have F5p : fr h h5 (PV a) := fr_trans F4p (fr_mono F5 (fun q z => by unfold PV CP JM JW at *; omega))
  refine ⟨_, _, k5.1.1, rfl, ⟨_, _, k5.1.1, rfl, ⟨_, _, k5.1.1, rfl, ⟨_, k5.1.1, 0, 0, _, rq_mult (s := 64) k5.1 hc1 (by decide) lc12 Z1 oZ z64 (by decide) (by omega) (by omega) (by omega), Nat.zero_le _, Nat.zero_le _, ?_⟩⟩⟩⟩
  rintro _ h6 ⟨rfl, k6, P, F6⟩
  have k6 := SY_fr k5 k6 F6 (by unfold JM JW; omega)
  have M1 := SP_fr M1 F6 (fun q z1 z2 z3 => by unfold JM JW at z3; omega)
  have Z1 := SP_fr Z1 F6 (fun q z1 z2 z3 => by unfold JM JW at z3; omega)
  have T := SP_fr T F6 (fun q z1 z2 z3 => by unfold JM JW at z3; omega)
  have U := SP_fr U F6 (fun q z1 z2 z3 => by unfold JM JW at z3; omega)
  have hc1 := wv_cg hc1 (F6.2 (a + 70) (by unfold JM JW; omega))
  have hs1 := wv_cg hs1 (F6.2 (a + 71) (by unfold JM JW; omega))
  have F6p : fr h h6 (PV a) := fr_trans F5p (fr_mono F6 (fun q z => by unfold PV CP JM JW at *; omega))
  refine ⟨_, _, k6.1.1, rfl, ⟨_, _, k6.1.1, rfl, ⟨_, _, k6.1.1, rfl, ⟨_, k6.1.1, 0, 0, _, rq_join (s := 61) k6.1 U P z61 (okP z61 ao) (okP z64 ao) (.inl rfl) (by unfold apS; omega), Nat.zero_le _, Nat.zero_le _, ?_⟩⟩⟩⟩
  rintro _ h7 ⟨rfl, k7, U, F7⟩
  have k7 := SY_fr k6 k7 F7 (by unfold JW; omega)
  have M1 := SP_fr M1 F7 (fun q z1 z2 z3 => by unfold JW at z3; omega)
  have Z1 := SP_fr Z1 F7 (fun q z1 z2 z3 => by unfold JW at z3; omega)
  have T := SP_fr T F7 (fun q z1 z2 z3 => by unfold JW at z3; omega)
  have hc1 := wv_cg hc1 (F7.2 (a + 70) (by unfold JW; omega))
  have hs1 := wv_cg hs1 (F7.2 (a + 71) (by unfold JW; omega))
  have F7p : fr h h7 (PV a) := fr_trans F6p (fr_mono F7 (fun q z => by unfold PV CP JM JW at *; omega))
  have ea7 := (nS h7 F7p (a + 83) (by unfold scr; omega)).trans ea
  have A7 : SP h7 (a + 216 + 6 * i) (some A) := SP_cg hA (fun q z1 z2 => nS h7 F7p q (by unfold scr; omega))
  refine ⟨_, _, k7.1.1, rfl, ⟨_, _, _, .ref (a + 216 + 6 * i), ea7, by decide, rfl, i, rfl, by omega, by rw [va i (by omega)]; rfl, ⟨_, _, k7.1.1, rfl, ⟨_, k7.1.1, 0, 0, _, rm_challenges h9 k7 A7 (by omega) (c := a + 72) (TG_i (by unfold ZI; omega) rfl) (by omega) M1 Z1 T U, Nat.zero_le _, Nat.zero_le _, ?_⟩⟩⟩⟩
  rintro _ h8 ⟨⟨ok, rfl, hok, hv⟩, k8, F8⟩
  have F8p : fr h h8 (PV a) := fr_trans F7p (fr_mono F8 (fun q z => by unfold PV CP JM JW; omega))
  have hc8 := wv_cg hc1 (F8.2 (a + 70) (by omega))
  have bad : ¬ ((M ≠ none ∧ Z ≠ none ∧ pvU s9 c9 gP (some A) ≠ none ∧ pvU s9 c9 M Z ≠ none) ∧ hts t.2.2.1 t.2.2.2 (chm (ptb A) M Z (pvU s9 c9 gP (some A)) (pvU s9 c9 M Z)) = c9) → vm_T (vm_env l O f9) mX14_isProved 0 0 146 [(0, .ref a), (1, .int (nI i)), (2, .int (nI n))] [] h8 Q := fun n => vm_go rfl bX14_isProved_146 oX14_isProved_146 (vm_go rfl bX14_isProved_147 oX14_isProved_147 ⟨rfl, hQ M Z false h8 eM.symm eZ.symm ⟨fun y => (nomatch y), fun y => absurd y n⟩ k8 F8p⟩)
  cases ok with
  | false =>
    refine ⟨fun _ => bad (fun q => nomatch hok.mpr q.1), fun q => absurd rfl q⟩
  | true =>
  have w8 := hv rfl
  have hg := hok.mp rfl
  obtain ⟨m9, y9, k8⟩ := k8
  refine ⟨fun q => absurd q (by decide), fun _ => ⟨_, _, k8.1.1, rfl, ⟨_, _, k8.1.1, rfl, ⟨0, 0, _, rm_cmp w8 hc8 (by decide) (by decide) (by decide) (Nat.lt_trans hts_lt cQ_12) lc12, Nat.zero_le _, Nat.zero_le _, ?_⟩⟩⟩⟩
  rintro z h10 ⟨hz, e10⟩
  rw [e10]; clear e10 h10
  obtain ⟨u, rfl, hu, _, _⟩ := cmp_0 hz
  by_cases ce : hts t.2.2.1 t.2.2.2 (chm (ptb A) M Z (pvU s9 c9 gP (some A)) (pvU s9 c9 M Z)) = c9
  · refine ⟨fun q => absurd (hu.mpr ce) q, fun _ => ?_⟩
    exact vm_go rfl bX14_isProved_147 oX14_isProved_147 ⟨rfl, hQ M Z true h8 eM.symm eZ.symm ⟨fun _ => ⟨hg, ce⟩, fun _ => rfl⟩ ⟨_, _, k8⟩ F8p⟩
  · exact ⟨fun _ => bad (fun q => ce q.2), fun q => absurd (hu.mp q) ce⟩
end
