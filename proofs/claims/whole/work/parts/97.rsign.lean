/-! BlindRsa: sign, unblind, blind -/
def bX1_unblindx_0 : List vm_J := [(1, .aload_n 1, 0, 0, 0, .null), (3, .getfield 157, 0, 0, 0, .null), (1, .astore_n 3, 0, 0, 0, .null)]
set_option maxRecDepth 20000 in
theorem oX1_unblindx_0 : vm_okB 1 mX1_unblind 0 bX1_unblindx_0 = true := by decide +kernel
def bX1_unblindx_5 : List vm_J := [(1, .aload_n 3, 0, 0, 0, .null), (3, .getfield 101, 5, 7, 0, .null), (2, .astore 4, 0, 0, 0, .null)]
set_option maxRecDepth 20000 in
theorem oX1_unblindx_5 : vm_okB 1 mX1_unblind 5 bX1_unblindx_5 = true := by decide +kernel
def bX1_unblindx_11 : List vm_J := [(1, .aload_n 0, 0, 0, 0, .null), (3, .getfield 59, 1, 11, 0, .null), (1, .iconst 0, 0, 0, 0, .int 0), (1, .aaload, 0, 0, 0, .null), (2, .astore 5, 0, 0, 0, .null)]
set_option maxRecDepth 20000 in
theorem oX1_unblindx_11 : vm_okB 1 mX1_unblind 11 bX1_unblindx_11 = true := by decide +kernel
def bX1_unblindx_19 : List vm_J := [(1, .aload_n 0, 0, 0, 0, .null), (3, .getfield 59, 1, 11, 0, .null), (1, .iconst 1, 0, 0, 0, .int 1), (1, .aaload, 0, 0, 0, .null), (2, .astore 6, 0, 0, 0, .null)]
set_option maxRecDepth 20000 in
theorem oX1_unblindx_19 : vm_okB 1 mX1_unblind 19 bX1_unblindx_19 = true := by decide +kernel
def bX1_unblindx_27 : List vm_J := [(1, .aload_n 3, 0, 0, 0, .null), (1, .aload_n 2, 0, 0, 0, .null), (1, .iconst 0, 0, 0, 0, .int 0), (2, .aload 5, 0, 0, 0, .null), (3, .invokestatic 111, 5, 4, 0, .null), (3, .ifCond .ne 5, 40, 0, 0, .null), (1, .iconst 0, 0, 0, 0, .int 0), (1, .ireturn, 0, 0, 0, .null)]
set_option maxRecDepth 20000 in
theorem oX1_unblindx_27 : vm_okB 1 mX1_unblind 27 bX1_unblindx_27 = true := by decide +kernel
def bX1_blindx_0 : List vm_J := [(1, .aload_n 1, 0, 0, 0, .null), (3, .getfield 101, 5, 7, 0, .null), (2, .astore 5, 0, 0, 0, .null)]
set_option maxRecDepth 20000 in
theorem oX1_blindx_0 : vm_okB 1 mX1_blind 0 bX1_blindx_0 = true := by decide +kernel
def bX1_blindx_6 : List vm_J := [(1, .aload_n 0, 0, 0, 0, .null), (3, .getfield 59, 1, 11, 0, .null), (1, .iconst 0, 0, 0, 0, .int 0), (1, .aaload, 0, 0, 0, .null), (2, .astore 6, 0, 0, 0, .null)]
set_option maxRecDepth 20000 in
theorem oX1_blindx_6 : vm_okB 1 mX1_blind 6 bX1_blindx_6 = true := by decide +kernel
def bX1_blindx_14 : List vm_J := [(1, .aload_n 0, 0, 0, 0, .null), (3, .getfield 59, 1, 11, 0, .null), (1, .iconst 1, 0, 0, 0, .int 1), (1, .aaload, 0, 0, 0, .null), (2, .astore 7, 0, 0, 0, .null)]
set_option maxRecDepth 20000 in
theorem oX1_blindx_14 : vm_okB 1 mX1_blind 14 bX1_blindx_14 = true := by decide +kernel
def bX1_blindx_22 : List vm_J := [(1, .aload_n 0, 0, 0, 0, .null), (3, .getfield 59, 1, 11, 0, .null), (1, .iconst 2, 0, 0, 0, .int 2), (1, .aaload, 0, 0, 0, .null), (2, .astore 8, 0, 0, 0, .null)]
set_option maxRecDepth 20000 in
theorem oX1_blindx_22 : vm_okB 1 mX1_blind 22 bX1_blindx_22 = true := by decide +kernel
def bX1_blindx_30 : List vm_J := [(1, .aload_n 1, 0, 0, 0, .null), (1, .aload_n 3, 0, 0, 0, .null), (2, .iload 4, 0, 0, 0, .null), (1, .aload_n 1, 0, 0, 0, .null), (3, .getfield 109, 5, 3, 0, .null), (1, .iadd, 0, 0, 0, .null), (2, .aload 6, 0, 0, 0, .null), (3, .invokestatic 111, 5, 4, 0, .null), (3, .ifCond .ne 5, 49, 0, 0, .null), (1, .iconst 0, 0, 0, 0, .int 0), (1, .ireturn, 0, 0, 0, .null)]
set_option maxRecDepth 20000 in
theorem oX1_blindx_30 : vm_okB 1 mX1_blind 30 bX1_blindx_30 = true := by decide +kernel

theorem gcd_mt {N L ri x : Nat} (hN : 0 < N) (hri : 268435456 ^ L * ri % N = 1 % N) : Nat.gcd (mt N L (x : Int)) N = 1 ↔ Nat.gcd x N = 1 := by
  rw [← mt_ent hN]
  constructor
  · intro h
    have hd : Nat.gcd x N ∣ Nat.gcd (x * 268435456 ^ L % N) N := Nat.dvd_gcd ((Nat.dvd_mod_iff (Nat.gcd_dvd_right x N)).mpr (Nat.dvd_trans (Nat.gcd_dvd_left x N) (Nat.dvd_mul_right _ _))) (Nat.gcd_dvd_right x N)
    rw [h] at hd
    exact Nat.dvd_one.mp hd
  · intro h
    generalize hg : Nat.gcd (x * 268435456 ^ L % N) N = g
    have g1 : g ∣ N := hg ▸ Nat.gcd_dvd_right _ _
    have g2 : g ∣ x * 268435456 ^ L := (Nat.dvd_mod_iff g1).mp (hg ▸ Nat.gcd_dvd_left _ _)
    have g3 : g ∣ x * (268435456 ^ L * ri) := by rw [← Nat.mul_assoc]; exact Nat.dvd_trans g2 (Nat.dvd_mul_right _ _)
    have g4 : g ∣ x * (268435456 ^ L * ri) % N := (Nat.dvd_mod_iff g1).mpr g3
    rw [Nat.mul_mod, hri, ← Nat.mul_mod, Nat.mul_one] at g4
    have g5 : g ∣ x := (Nat.dvd_mod_iff g1).mp g4
    have := Nat.dvd_gcd g5 g1
    rw [h] at this
    exact Nat.dvd_one.mp this
section
variable {l : Launch} {O : Nat → vm_Ob} {f9 : Value} {a : Nat} {h : vm_H} {w : List Nat} {B : Nat → Nat → Nat} {K len s sh se ki : Nat} {lv : Int32} {A : Nat → Nat} {ni ri : Nat} {shb seb : Nat → Nat} {st2 kk2 : Nat → Int32} {st3 kk3 : Nat → Int64}
theorem KA_n {t u : Nat} (ka : KA a K sh se A) (ht : t < 3) (hu : u < 3) (h : t ≠ u) : ¬ (a + 19 + t = a + 19 + u ∨ MR A (a + 19 + t)) := by
  rintro (z | z | ⟨i, hi, z⟩)
  · omega
  · have := ka.2.2.2 6 (by decide); omega
  · have := ka.2.2.2 (8 + i) (by omega); omega
theorem N_lt (q : K2 h K len s sh se ki lv A ni ri shb seb) : bn shb 0 len < 256 ^ len := by
  obtain ⟨f, _, v⟩ := q.2.1
  exact bn_lt len (fun j h1 h2 => (v j (by omega)).2)
theorem x_sig {fa na at9 : Nat} {b : Nat → Nat} (k : RSc a h w B) (q : K2 h K len s sh se ki lv A ni ri shb seb) (ka : KA a K sh se A) (hf : bv h na fa b) (hat : at9 + len ≤ na) (hna : na < 65536) :
    vm_Met (vm_env l O f9) mX1_sign 0 0 [.ref a, .ref K, .ref fa, .int (nI at9)] h (fun r h' => (∃ ok : Bool, r = some (.int (bi ok)) ∧ (ok = true ↔ bn b at9 len < bn shb 0 len ∧ (bn b at9 len ^ bn seb 0 len % bn shb 0 len) ^ bn shb len 3 % bn shb 0 len = bn b at9 len) ∧ (∃ B', RSc a h' w B' ∧ (ok = true → sl (B' 2) 0 len = wb (bn b at9 len ^ bn seb 0 len % bn shb 0 len) len))) ∧ K2 h' K len s sh se ki lv A ni ri shb seb ∧ fr h h' (FM a A)) := by
  have k0 := k.1
  have hl2 := q.2.2.2.2.2.1.2
  have x2 : ∀ q, q = a + zad 2 → FM a A q := fun q hq => by
    have hq : q = a + 3 := hq
    left; unfold RA; omega
  generalize hN : bn shb 0 len = N
  generalize hE : bn shb len 3 = E
  generalize hD : bn seb 0 len = D
  generalize hx : bn b at9 len = x
  suffices H : ∀ Q : Option Value → vm_H → Prop, (∀ r h', ((∃ ok : Bool, r = some (.int (bi ok)) ∧ (ok = true ↔ x < N ∧ (x ^ D % N) ^ E % N = x) ∧ (∃ B', RSc a h' w B' ∧ (ok = true → sl (B' 2) 0 len = wb (x ^ D % N) len))) ∧ K2 h' K len s sh se ki lv A ni ri shb seb ∧ fr h h' (FM a A)) → Q r h') → vm_Met (vm_env l O f9) mX1_sign 0 0 [.ref a, .ref K, .ref fa, .int (nI at9)] h Q from H _ (fun _ _ z => z)
  intro Q hQ
  refine vm_met rfl (Nat.le_of_ble_eq_true rfl) ?_
  refine vm_go rfl bX1_sign_0 oX1_sign_0 ⟨_, _, q.1, rfl, ⟨_, _, RS_t k, rfl, ⟨_, _, _, .ref (a + 19 + 0), RS_n k, by decide, rfl, 0, rfl, by decide, rfl, ⟨_, _, RS_t k, rfl, ⟨_, _, _, .ref (a + 19 + 1), RS_n k, by decide, rfl, 1, rfl, by decide, rfl, ⟨0, 0, _, x_rb (t := 0) k q ka (by decide) hf hat hna, Nat.zero_le _, Nat.zero_le _, ?_⟩⟩⟩⟩⟩⟩
  rintro _ h1 ⟨rfl, n1, k1, q1, F1⟩
  have F1 := fr_mono F1 (FM_1 (by decide))
  rw [hx] at n1 ⊢
  rw [hN]
  by_cases hxN : x < N
  rotate_left
  · rw [if_neg hxN]
    exact ⟨fun q => absurd rfl q, fun _ => ⟨rfl, hQ _ _ ⟨⟨false, rfl, ⟨(fun z => nomatch z), fun z => absurd z.1 hxN⟩, ⟨_, k1, (fun z => nomatch z)⟩⟩, q1, F1⟩⟩⟩
  rw [if_pos hxN]
  refine ⟨fun _ => ?_, fun q => absurd q (by decide)⟩
  refine vm_go rfl bX1_sign_35 oX1_sign_35 ⟨(K2_mo q1).choose, (K2_mo q1).choose_spec, 0, 0, _, x_ent (t := 0) (u := 0) k1 q1 ka (by decide) (by decide) n1, Nat.zero_le _, Nat.zero_le _, ?_⟩
  rintro _ h2 ⟨rfl, n2, k2, q2, F2⟩
  have F2 := fr_trans F1 (fr_mono F2 (FM_1 (by decide)))
  refine ⟨_, _, q2.1, rfl, ⟨_, _, q2.1, rfl, ⟨(K2_mo q2).choose, (K2_mo q2).choose_spec, 0, 0, _, x_rai (t := 0) (u := 1) (at9 := 0) (size := len) k2 q2 ka (by decide) (by decide) n2 q2.2.2.1 (by omega) (by omega), Nat.zero_le _, Nat.zero_le _, ?_⟩⟩⟩
  rintro _ h3 ⟨rfl, n3, k3, q3, F3⟩
  have n3' := nz_fr F3 n2 (KA_n ka (by decide) (by decide) (by decide))
  have F3 := fr_trans F2 (fr_mono F3 (FM_1 (by decide)))
  rw [hD] at n3
  refine ⟨_, _, RS_t k3, rfl, ⟨_, _, _, .ref (a + 19 + 2), RS_n k3, by decide, rfl, 2, rfl, by decide, rfl, ⟨(K2_mo q3).choose, (K2_mo q3).choose_spec, 0, 0, _, x_lev (t := 1) (u := 2) k3 q3 ka (by decide) (by decide) n3, Nat.zero_le _, Nat.zero_le _, ?_⟩⟩⟩
  rintro _ h4 ⟨rfl, n4, k4, q4, F4⟩
  have n40 := nz_fr F4 n3' (KA_n ka (by decide) (by decide) (by decide))
  have n41 := nz_fr F4 n3 (KA_n ka (by decide) (by decide) (by decide))
  have F4 := fr_trans F3 (fr_mono F4 (FM_1 (by decide)))
  rw [hN, tn_p] at n4
  refine ⟨_, _, RS_t k4, rfl, ⟨_, _, _, .ref (a + 19 + 2), RS_n k4, by decide, rfl, 2, rfl, by decide, rfl, ⟨_, _, RS_t k4, rfl, ⟨_, _, q4.1, rfl, ⟨0, 0, _, x_write (t := 2) (u := 2) k4 q4 ka (by decide) (by decide) rfl n4, Nat.zero_le _, Nat.zero_le _, ?_⟩⟩⟩⟩⟩
  rintro _ h5 ⟨rfl, ⟨c2, k5, hc2⟩, q5, F5⟩
  have n50 := nz_fr F5 n40 (by show ¬ a + 19 + 0 = a + 3; omega)
  have n51 := nz_fr F5 n41 (by show ¬ a + 19 + 1 = a + 3; omega)
  have F5 := fr_trans F4 (fr_mono F5 x2)
  refine ⟨_, _, q5.1, rfl, ⟨_, _, q5.1, rfl, ⟨(K2_mo q5).choose, (K2_mo q5).choose_spec, 0, 0, _, x_rai (t := 1) (u := 1) (at9 := len) (size := 3) k5 q5 ka (by decide) (by decide) n51 q5.2.1 (by omega) (by omega), Nat.zero_le _, Nat.zero_le _, ?_⟩⟩⟩
  rintro _ h6 ⟨rfl, n6, k6, q6, F6⟩
  have n60 := nz_fr F6 n50 (KA_n ka (by decide) (by decide) (by decide))
  have F6 := fr_trans F5 (fr_mono F6 (FM_1 (by decide)))
  rw [hE] at n6
  refine ⟨(K2_mo q6).choose, (K2_mo q6).choose_spec, 0, 0, _, x_same (t := 0) (u := 1) k6 q6 n60 n6, Nat.zero_le _, Nat.zero_le _, ?_⟩
  rintro _ h7 ⟨rfl, rfl⟩
  rw [hN]
  have key : ((x : Int) % (N : Int) = ((x : Int) ^ D) ^ E % (N : Int)) ↔ (x ^ D % N) ^ E % N = x := by
    rw [← Int.natCast_pow, ← Int.natCast_pow, ← Int.natCast_emod, ← Int.natCast_emod, Nat.mod_eq_of_lt hxN, ← Nat.pow_mod]
    exact ⟨fun z => (Int.ofNat_inj.mp z).symm, fun z => by rw [z]⟩
  by_cases z : (x ^ D % N) ^ E % N = x
  · rw [if_pos (key.mpr z)]
    exact ⟨rfl, hQ _ _ ⟨⟨true, rfl, ⟨fun _ => ⟨hxN, z⟩, fun _ => rfl⟩, ⟨_, k6, fun _ => by rw [fu_e]; exact hc2⟩⟩, q6, F6⟩⟩
  · rw [if_neg (fun w => z (key.mp w))]
    exact ⟨rfl, hQ _ _ ⟨⟨false, rfl, ⟨(fun w => nomatch w), fun w => absurd w.2 z⟩, ⟨_, k6, (fun w => nomatch w)⟩⟩, q6, F6⟩⟩
theorem x_unb {Y ip bl iv nip niv fa na : Nat} {op : Int32} {ipb ivb b : Nat → Nat} (k : RSc a h w B) (ev : EV st2 kk2 st3 kk3 h) (q : K2 h K len s sh se ki lv A ni ri shb seb) (ka : KA a K sh se A) (hY : AO h Y K ip bl iv op) (hYo : ¬ RA a Y) (hip : bv h nip ip ipb) (hipo : ¬ RA a ip) (hnp : 98 ≤ nip) (hnp2 : nip < 65536) (hiv : bv h niv iv ivb) (hivo : ¬ RA a iv) (hnv : len ≤ niv) (hnv2 : niv < 65536) (hf : bv h na fa b) (hat : len ≤ na) (hna : na < 65536) :
    vm_Met (vm_env l O f9) mX1_unblind 0 0 [.ref a, .ref Y, .ref fa] h (fun r h' => (∃ ok : Bool, r = some (.int (bi ok)) ∧ (ok = true ↔ bn b 0 len < bn shb 0 len ∧ sgOK st3 kk3 len (shb 0) s (sl ipb 0 98) (wb ((bn ivb 0 len * bn b 0 len % bn shb 0 len) ^ bn shb len 3 % bn shb 0 len) len)) ∧ (∃ w' B', RSc a h' w' B' ∧ (ok = true → sl (B' 2) 0 len = wb (bn ivb 0 len * bn b 0 len % bn shb 0 len) len))) ∧ K2 h' K len s sh se ki lv A ni ri shb seb ∧ fr h h' (FM a A)) := by
  have k0 := k.1
  have hl2 := q.2.2.2.2.2.1.2
  have hNp := (MP_N q.2.2.2.1).1
  have hNl := N_lt q
  have x2 : ∀ q, q = a + zad 2 → FM a A q := fun q hq => by
    have hq : q = a + 3 := hq
    left; unfold RA; omega
  have hYf : ¬ FM a A Y := fun z => z.elim hYo (K2_no q hY)
  have hipf : ¬ FM a A ip := fun z => z.elim hipo (K2_nb q hip)
  have hivf : ¬ FM a A iv := fun z => z.elim hivo (K2_nb q hiv)
  generalize hN : bn shb 0 len = N at *
  generalize hE : bn shb len 3 = E
  generalize hI : bn ivb 0 len = I
  generalize hx : bn b 0 len = x
  suffices H : ∀ Q : Option Value → vm_H → Prop, (∀ r h', ((∃ ok : Bool, r = some (.int (bi ok)) ∧ (ok = true ↔ x < N ∧ sgOK st3 kk3 len (shb 0) s (sl ipb 0 98) (wb ((I * x % N) ^ E % N) len)) ∧ (∃ w' B', RSc a h' w' B' ∧ (ok = true → sl (B' 2) 0 len = wb (I * x % N) len))) ∧ K2 h' K len s sh se ki lv A ni ri shb seb ∧ fr h h' (FM a A)) → Q r h') → vm_Met (vm_env l O f9) mX1_unblind 0 0 [.ref a, .ref Y, .ref fa] h Q from H _ (fun _ _ z => z)
  intro Q hQ
  refine vm_met rfl (Nat.le_of_ble_eq_true rfl) ?_
  refine vm_go rfl bX1_unblindx_0 oX1_unblindx_0 ⟨_, _, hY, rfl, ?_⟩
  refine vm_Th (lv' := [(0, .ref a), (1, .ref Y), (2, .ref fa), (3, .ref K)]) (h' := h) rfl rfl ?_
  refine vm_go rfl bX1_unblindx_5 oX1_unblindx_5 ⟨_, _, q.1, rfl, ?_⟩
  refine vm_Th (lv' := [(0, .ref a), (1, .ref Y), (2, .ref fa), (3, .ref K), (4, .ref (A 0))]) (h' := h) rfl rfl ?_
  refine vm_go rfl bX1_unblindx_11 oX1_unblindx_11 ⟨_, _, RS_t k, rfl, ⟨_, _, _, .ref (a + 19 + 0), RS_n k, by decide, rfl, 0, rfl, by decide, rfl, ?_⟩⟩
  refine vm_Th (lv' := [(0, .ref a), (1, .ref Y), (2, .ref fa), (3, .ref K), (4, .ref (A 0)), (5, .ref (a + 19 + 0))]) (h' := h) rfl rfl ?_
  refine vm_go rfl bX1_unblindx_19 oX1_unblindx_19 ⟨_, _, RS_t k, rfl, ⟨_, _, _, .ref (a + 19 + 1), RS_n k, by decide, rfl, 1, rfl, by decide, rfl, ?_⟩⟩
  refine vm_Th (lv' := [(0, .ref a), (1, .ref Y), (2, .ref fa), (3, .ref K), (4, .ref (A 0)), (5, .ref (a + 19 + 0)), (6, .ref (a + 19 + 1))]) (h' := h) rfl rfl ?_
  refine vm_go rfl bX1_unblindx_27 oX1_unblindx_27 ⟨0, 0, _, x_rb (t := 0) (at9 := 0) k q ka (by decide) hf (by omega) hna, Nat.zero_le _, Nat.zero_le _, ?_⟩
  rintro _ h1 ⟨rfl, n1, k1, q1, F1⟩
  have F1 := fr_mono F1 (FM_1 (by decide))
  rw [hx] at n1 ⊢
  rw [hN]
  by_cases hxN : x < N
  rotate_left
  · rw [if_neg hxN]
    exact ⟨fun q => absurd rfl q, fun _ => ⟨rfl, hQ _ _ ⟨⟨false, rfl, ⟨(fun z => nomatch z), fun z => absurd z.1 hxN⟩, ⟨_, _, k1, (fun z => nomatch z)⟩⟩, q1, F1⟩⟩⟩
  rw [if_pos hxN]
  refine ⟨fun _ => ?_, fun q => absurd q (by decide)⟩
  have hY1 := AO_fr hY F1 hYf
  refine vm_go rfl bX1_unblind_40 oX1_unblind_40 ⟨_, _, hY1, rfl, ⟨_, _, q1.1, rfl, ⟨0, 0, _, x_read (t := 1) (at9 := 0) k1 q1 ka (by decide) (fr_bv F1 hiv hivf) (by omega) hnv2, Nat.zero_le _, Nat.zero_le _, ?_⟩⟩⟩
  rintro _ h2 ⟨rfl, n2, k2, q2, F2⟩
  have n20 := nz_fr F2 n1 (KA_n ka (by decide) (by decide) (by decide))
  have F2 := fr_trans F1 (fr_mono F2 (FM_1 (by decide)))
  rw [hI] at n2
  refine ⟨(K2_mo q2).choose, (K2_mo q2).choose_spec, 0, 0, _, x_ent (t := 1) (u := 1) k2 q2 ka (by decide) (by decide) n2, Nat.zero_le _, Nat.zero_le _, ?_⟩
  rintro _ h3 ⟨rfl, n3, k3, q3, F3⟩
  have n30 := nz_fr F3 n20 (KA_n ka (by decide) (by decide) (by decide))
  have F3 := fr_trans F2 (fr_mono F3 (FM_1 (by decide)))
  refine ⟨(K2_mo q3).choose, (K2_mo q3).choose_spec, 0, 0, _, x_mulp (t := 0) (u := 1) (v := 0) k3 q3 ka (by decide) (by decide) (by decide) n30 n3, Nat.zero_le _, Nat.zero_le _, ?_⟩
  rintro _ h4 ⟨rfl, n4, k4, q4, F4⟩
  have F4 := fr_trans F3 (fr_mono F4 (FM_1 (by decide)))
  rw [hN, ← Int.natCast_mul, tn_m] at n4
  refine ⟨_, _, RS_t k4, rfl, ⟨_, _, q4.1, rfl, ⟨0, 0, _, x_write (t := 0) (u := 2) k4 q4 ka (by decide) (by decide) rfl n4, Nat.zero_le _, Nat.zero_le _, ?_⟩⟩⟩
  rintro _ h5 ⟨rfl, ⟨c2, k5, hc2⟩, q5, F5⟩
  have F5 := fr_trans F4 (fr_mono F5 x2)
  have hY5 := AO_fr hY F5 hYf
  have ev5 := EV_fm ev q k0 F5 (fun _ z => z)
  have hlt : I * x % N < N := Nat.mod_lt _ hNp
  have hb : bn c2 0 len = I * x % N := wb_nb len (Nat.lt_trans hlt hNl) _ _ hc2
  have b5 := RS_b k5 (j := 2) (by decide)
  rw [fu_e] at b5
  refine ⟨_, _, hY5, rfl, ⟨_, _, RS_t k5, rfl, ⟨_, RS_t k5, 0, 0, _, x_isr (at9 := 0) k5 ev5 q5 ka (fr_bv F5 hip hipf) hipo hnp hnp2 b5 (by show 0 + len ≤ 256; omega) (by decide), Nat.zero_le _, Nat.zero_le _, ?_⟩⟩⟩
  rintro _ h6 ⟨⟨ok, rfl, hok⟩, ⟨w6, B6, k6, b6⟩, q6, F6⟩
  rw [hN, hE, hb] at hok
  refine ⟨bi_if, hQ _ _ ⟨⟨ok, rfl, ?_, ⟨w6, B6, k6, fun _ => by rw [b6 2 (by decide), fu_e]; exact hc2⟩⟩, q6, fr_trans F5 F6⟩⟩
  rw [hok]
  exact ⟨fun z => ⟨hxN, z.2⟩, fun z => ⟨hlt, z.2⟩⟩
set_option maxHeartbeats 1000000 in
theorem x_bli {fi nf fa na at9 : Nat} {ib b : Nat → Nat} (k : RSc a h w B) (ev : EV st2 kk2 st3 kk3 h) (q : K2 h K len s sh se ki lv A ni ri shb seb) (ka : KA a K sh se A) (hi : bv h nf fi ib) (hio : ¬ RA a fi) (hnf : 98 ≤ nf) (hnf2 : nf < 65536) (hf : bv h na fa b) (hfo : ¬ RA a fa) (hat : at9 + s + len ≤ na) (hna : na < 65536) :
    vm_Met (vm_env l O f9) mX1_blind 0 0 [.ref a, .ref K, .ref fi, .ref fa, .int (nI at9)] h (fun r h' => (∃ ok : Bool, r = some (.int (bi ok)) ∧ (ok = true ↔ bn b (at9 + s) len < bn shb 0 len ∧ Nat.gcd (bn b (at9 + s) len) (bn shb 0 len) = 1 ∧ Nat.gcd (bn (gb (EM st3 kk3 len (shb 0) s (sl ib 0 98) (sl b at9 s))) 0 len) (bn shb 0 len) = 1) ∧ (∃ w' B', RSc a h' w' B' ∧ (ok = true → sl (B' 0) 0 len = wb (bn b (at9 + s) len ^ bn shb len 3 * bn (gb (EM st3 kk3 len (shb 0) s (sl ib 0 98) (sl b at9 s))) 0 len % bn shb 0 len) len ∧ ∃ iv, iv < bn shb 0 len ∧ bn b (at9 + s) len * iv % bn shb 0 len = 1 ∧ sl (B' 1) 0 len = wb iv len))) ∧ K2 h' K len s sh se ki lv A ni ri shb seb ∧ fr h h' (FM a A)) := by
  have k0 := k.1
  have ha12 : a + 12 < 1099511627776 := by omega
  have hl1 := q.2.2.2.2.2.1.1
  have hl2 := q.2.2.2.2.2.1.2
  have hs := q.2.2.2.2.2.2.1
  have h0 := q.2.2.2.2.2.2.2
  have hsl : s ≤ 48 := by omega
  have hMN := MP_N q.2.2.2.1
  have hKo : ¬ RA a K := fun z => by have := ka.1; unfold RA at z; omega
  have hsho : ¬ RA a sh := fun z => by have := ka.2.1; unfold RA at z; omega
  have hseo : ¬ RA a se := fun z => by have := ka.2.2.1; unfold RA at z; omega
  have hAo : ∀ i, i < 24 → i ≠ 5 → ¬ RA a (A i) := fun i hi _ z => by have := ka.2.2.2 i hi; unfold RA at z; omega
  have x1 : ∀ q, q = a + zad 1 → FM a A q := fun q hq => by
    have hq : q = a + 2 := hq
    left; unfold RA; omega
  have x0 : ∀ q, q = a + zad 0 → FM a A q := fun q hq => by
    have hq : q = a + 1 := hq
    left; unfold RA; omega
  have x3 : ∀ q, q = a + zad 3 → RA a q := fun q hq => by
    have hq : q = a + 12 := hq
    unfold RA; omega
  have hif : ¬ FM a A fi := fun z => z.elim hio (K2_nb q hi)
  have hff : ¬ FM a A fa := fun z => z.elim hfo (K2_nb q hf)
  have eA : nI at9 + nI s = nI (at9 + s) := nI_add _ _
  have nR : ∀ t, t < 3 → ¬ RR a (a + 19 + t) := fun t _ z => by unfold RR at z; omega
  generalize hN : bn shb 0 len = N at hMN ⊢
  generalize hE : bn shb len 3 = E
  generalize hx : bn b (at9 + s) len = x
  generalize hm : bn (gb (EM st3 kk3 len (shb 0) s (sl ib 0 98) (sl b at9 s))) 0 len = m
  suffices H : ∀ Q : Option Value → vm_H → Prop, (∀ r h', ((∃ ok : Bool, r = some (.int (bi ok)) ∧ (ok = true ↔ x < N ∧ Nat.gcd x N = 1 ∧ Nat.gcd m N = 1) ∧ (∃ w' B', RSc a h' w' B' ∧ (ok = true → sl (B' 0) 0 len = wb (x ^ E * m % N) len ∧ ∃ iv, iv < N ∧ x * iv % N = 1 ∧ sl (B' 1) 0 len = wb iv len))) ∧ K2 h' K len s sh se ki lv A ni ri shb seb ∧ fr h h' (FM a A)) → Q r h') → vm_Met (vm_env l O f9) mX1_blind 0 0 [.ref a, .ref K, .ref fi, .ref fa, .int (nI at9)] h Q from H _ (fun _ _ z => z)
  intro Q hQ
  have bad : ∀ h' w' B', RSc a h' w' B' → K2 h' K len s sh se ki lv A ni ri shb seb → fr h h' (FM a A) → ¬ (x < N ∧ Nat.gcd x N = 1 ∧ Nat.gcd m N = 1) → Q (some (.int 0)) h' := fun h' w' B' k q F n => hQ _ _ ⟨⟨false, rfl, ⟨(fun z => nomatch z), fun z => absurd z n⟩, ⟨_, _, k, (fun z => nomatch z)⟩⟩, q, F⟩
  refine vm_met rfl (Nat.le_of_ble_eq_true rfl) ?_
  refine vm_go rfl bX1_blindx_0 oX1_blindx_0 ⟨_, _, q.1, rfl, ?_⟩
  refine vm_Th (lv' := [(0, .ref a), (1, .ref K), (2, .ref fi), (3, .ref fa), (4, .int (nI at9)), (5, .ref (A 0))]) (h' := h) rfl rfl ?_
  refine vm_go rfl bX1_blindx_6 oX1_blindx_6 ⟨_, _, RS_t k, rfl, ⟨_, _, _, .ref (a + 19 + 0), RS_n k, by decide, rfl, 0, rfl, by decide, rfl, ?_⟩⟩
  refine vm_Th (lv' := [(0, .ref a), (1, .ref K), (2, .ref fi), (3, .ref fa), (4, .int (nI at9)), (5, .ref (A 0)), (6, .ref (a + 19 + 0))]) (h' := h) rfl rfl ?_
  refine vm_go rfl bX1_blindx_14 oX1_blindx_14 ⟨_, _, RS_t k, rfl, ⟨_, _, _, .ref (a + 19 + 1), RS_n k, by decide, rfl, 1, rfl, by decide, rfl, ?_⟩⟩
  refine vm_Th (lv' := [(0, .ref a), (1, .ref K), (2, .ref fi), (3, .ref fa), (4, .int (nI at9)), (5, .ref (A 0)), (6, .ref (a + 19 + 0)), (7, .ref (a + 19 + 1))]) (h' := h) rfl rfl ?_
  refine vm_go rfl bX1_blindx_22 oX1_blindx_22 ⟨_, _, RS_t k, rfl, ⟨_, _, _, .ref (a + 19 + 2), RS_n k, by decide, rfl, 2, rfl, by decide, rfl, ?_⟩⟩
  refine vm_Th (lv' := [(0, .ref a), (1, .ref K), (2, .ref fi), (3, .ref fa), (4, .int (nI at9)), (5, .ref (A 0)), (6, .ref (a + 19 + 0)), (7, .ref (a + 19 + 1)), (8, .ref (a + 19 + 2))]) (h' := h) rfl rfl ?_
  refine vm_go rfl bX1_blindx_30 oX1_blindx_30 ⟨_, _, q.1, rfl, ⟨0, 0, _, vm_metA (x_rb (t := 0) (at9 := at9 + s) k q ka (by decide) hf hat hna) (by show [_, _, Value.int (nI (at9 + s)), _] = [_, _, Value.int (nI at9 + nI s), _]; rw [eA]), Nat.zero_le _, Nat.zero_le _, ?_⟩⟩
  rintro _ h1 ⟨rfl, n1, k1, q1, F1⟩
  have F1 := fr_mono F1 (FM_1 (by decide))
  rw [hx] at n1 ⊢
  rw [hN]
  by_cases hxN : x < N
  rotate_left
  · rw [if_neg hxN]
    exact ⟨fun q => absurd rfl q, fun _ => ⟨rfl, bad _ _ _ k1 q1 F1 (fun z => hxN z.1)⟩⟩
  rw [if_pos hxN]
  refine ⟨fun _ => ?_, fun q => absurd q (by decide)⟩
  refine vm_go rfl bX1_blind_49 oX1_blind_49 ⟨(K2_mo q1).choose, (K2_mo q1).choose_spec, 0, 0, _, x_ent (t := 0) (u := 0) k1 q1 ka (by decide) (by decide) n1, Nat.zero_le _, Nat.zero_le _, ?_⟩
  rintro _ h2 ⟨rfl, n2, k2, q2, F2⟩
  have F2 := fr_trans F1 (fr_mono F2 (FM_1 (by decide)))
  refine ⟨(K2_mo q2).choose, (K2_mo q2).choose_spec, 0, 0, _, x_inv (t := 0) (u := 1) k2 q2 ka (by decide) (by decide) n2, Nat.zero_le _, Nat.zero_le _, ?_⟩
  rintro _ h3 ⟨Y, rfl, n3, hY, k3, q3, F3⟩
  have n30 := nz_fr F3 n2 (KA_n ka (by decide) (by decide) (by decide))
  have F3 := fr_trans F2 (fr_mono F3 (FM_1 (by decide)))
  rw [hN] at hY ⊢
  rw [gcd_mt hMN.1 hMN.2.2] at hY
  have eg : (if Nat.gcd (mt N (8 * len / 28 + 1) (x : Int)) N = 1 then (1 : Int32) else 0) = if Nat.gcd x N = 1 then 1 else 0 := by
    by_cases z : Nat.gcd x N = 1
    · rw [if_pos z, if_pos ((gcd_mt hMN.1 hMN.2.2).mpr z)]
    · rw [if_neg z, if_neg (fun w => z ((gcd_mt hMN.1 hMN.2.2).mp w))]
  rw [eg]
  by_cases hg : Nat.gcd x N = 1
  rotate_left
  · rw [if_neg hg]
    exact ⟨fun q => absurd rfl q, fun _ => ⟨rfl, bad _ _ _ k3 q3 F3 (fun z => hg z.2.1)⟩⟩
  rw [if_pos hg]
  refine ⟨fun _ => ?_, fun q => absurd q (by decide)⟩
  have hY := hY hg
  refine vm_go rfl bX1_blind_72 oX1_blind_72 ⟨(K2_mo q3).choose, (K2_mo q3).choose_spec, 0, 0, _, x_lev (t := 1) (u := 1) k3 q3 ka (by decide) (by decide) n3, Nat.zero_le _, Nat.zero_le _, ?_⟩
  rintro _ h4 ⟨rfl, n4, k4, q4, F4⟩
  have n40 := nz_fr F4 n30 (KA_n ka (by decide) (by decide) (by decide))
  have F4 := fr_trans F3 (fr_mono F4 (FM_1 (by decide)))
  rw [hN] at n4
  have hv0 : 0 ≤ Y % (N : Int) := Int.emod_nonneg _ (by have := hMN.1; omega)
  have hvl : (Y % (N : Int)).toNat < N := by
    have := Int.emod_lt_of_pos Y (show (0 : Int) < N by have := hMN.1; omega)
    omega
  have hxv : x * (Y % (N : Int)).toNat % N = 1 := by
    apply Int.ofNat_inj.mp
    rw [Int.natCast_emod, Int.natCast_mul, Int.toNat_of_nonneg hv0, Int.mul_emod, Int.emod_emod_of_dvd _ (Int.dvd_refl _), ← Int.mul_emod]
    exact hY
  generalize (Y % (N : Int)).toNat = iv at *
  refine ⟨_, _, RS_t k4, rfl, ⟨_, _, q4.1, rfl, ⟨0, 0, _, x_write (t := 1) (u := 1) k4 q4 ka (by decide) (by decide) rfl n4, Nat.zero_le _, Nat.zero_le _, ?_⟩⟩⟩
  rintro _ h5 ⟨rfl, ⟨c1, k5, hc1⟩, q5, F5⟩
  have n50 := nz_fr F5 n40 (by show ¬ a + 19 + 0 = a + 2; omega)
  have F5 := fr_trans F4 (fr_mono F5 x1)
  obtain ⟨ff, ef, vf⟩ := fr_bv F5 hf hff
  obtain ⟨f3, e3, v3⟩ := RS_b k5 (j := 3) (by decide)
  rw [fu_n (by decide)] at v3
  refine ⟨_, _, RS_t k5, rfl, ⟨_, _, q5.1, rfl, ⟨s, 0, at9, na, 48, rfl, rfl, rfl, by omega, by omega, ha12, ff, f3, ef, e3, ?_⟩⟩⟩
  generalize hq6 : vm_up h5 (a + 12) _ = h6
  have b6 : bv h6 (zln 3) (a + zad 3) (app (B 3) 0 (fun j => b (at9 + j)) s) := by
    show bv h6 48 (a + 12) _
    rw [← hq6]
    refine ⟨_, vm_upe, fun j hj => ?_⟩
    unfold va_cpy app
    by_cases e : 0 ≤ j ∧ j < 0 + s
    · rw [if_pos e, if_pos e]; exact vf _ (by omega)
    · rw [if_neg e, if_neg e]; exact v3 j hj
  have F6 : fr h5 h6 (fun q => q = a + zad 3) := by rw [← hq6]; exact fr_up rfl
  clear hq6
  have k6 := RS_byt k5 (t := 3) (by decide) F6 b6
  have q6 := K2_fr q5 F6 (fun z => hKo (x3 _ z)) (fun z => hsho (x3 _ z)) (fun z => hseo (x3 _ z)) (fun i hi h5 z => hAo i hi h5 (x3 _ z))
  have n60 := nz_fr F6 n50 (by show ¬ a + 19 + 0 = a + 12; omega)
  have F6 := fr_trans F5 (fr_mono F6 (fun q z => Or.inl (x3 q z)))
  have hsa : sl (app (B 3) 0 (fun j => b (at9 + j)) s) 0 s = sl b at9 s := by
    rw [sl_app_hi]
    exact sl_ext (fun j hj => by rw [Nat.zero_add])
  generalize app (B 3) 0 (fun j => b (at9 + j)) s = c3 at *
  have ev6 := EV_fm ev q k0 F6 (fun _ z => z)
  refine ⟨_, RS_t k6, 0, 0, _, x_enc k6 ev6 q6.1 (fun z => hKo (RR_RA z)) q6.2.1 (fun z => hsho (RR_RA z)) (by omega) h0 hl1 hl2 hs (fr_bv F6 hi hif) (fun z => hio (RR_RA z)) hnf hnf2, Nat.zero_le _, Nat.zero_le _, ?_⟩
  rintro _ h7 ⟨rfl, ⟨w7, B7, k7, b7, hem⟩, F7⟩
  have n70 := nz_fr F7 n60 (nR 0 (by decide))
  have F7 := fr_mono F7 (fun q z => RR_RA z)
  have q7 := K2_fr q6 F7 hKo hsho hseo hAo
  have F7 := fr_trans F6 (fr_mono F7 (fun q z => Or.inl z))
  rw [fu_e, hsa] at hem
  have hmb : bn (B7 7) 0 len = m := by
    rw [← hm, ← hem]
    exact bn_gb.symm
  have b71 : B7 1 = c1 := by rw [b7 1 (by decide) (by decide) (by decide) (by decide), fu_n (by decide), fu_e]
  refine ⟨_, _, RS_t k7, rfl, ⟨_, _, q7.1, rfl, ⟨0, 0, _, x_read (t := 2) (at9 := 0) k7 q7 ka (by decide) (RS_b k7 (j := 7) (by decide)) (by show 0 + len ≤ 256; omega) (by decide), Nat.zero_le _, Nat.zero_le _, ?_⟩⟩⟩
  rintro _ h8 ⟨rfl, n8, k8, q8, F8⟩
  have n80 := nz_fr F8 n70 (KA_n ka (by decide) (by decide) (by decide))
  have F8 := fr_trans F7 (fr_mono F8 (FM_1 (by decide)))
  rw [hmb] at n8
  refine ⟨(K2_mo q8).choose, (K2_mo q8).choose_spec, 0, 0, _, x_ent (t := 2) (u := 2) k8 q8 ka (by decide) (by decide) n8, Nat.zero_le _, Nat.zero_le _, ?_⟩
  rintro _ hx9 ⟨rfl, n9, k9, q9, F9⟩
  have n90 := nz_fr F9 n80 (KA_n ka (by decide) (by decide) (by decide))
  have F9 := fr_trans F8 (fr_mono F9 (FM_1 (by decide)))
  refine ⟨(K2_mo q9).choose, (K2_mo q9).choose_spec, 0, 0, _, x_inv (t := 2) (u := 1) k9 q9 ka (by decide) (by decide) n9, Nat.zero_le _, Nat.zero_le _, ?_⟩
  rintro _ h10 ⟨Y2, rfl, _, _, k10, q10, F10⟩
  have n100 := nz_fr F10 n90 (KA_n ka (by decide) (by decide) (by decide))
  have n102 := nz_fr F10 n9 (KA_n ka (by decide) (by decide) (by decide))
  have F10 := fr_trans F9 (fr_mono F10 (FM_1 (by decide)))
  rw [hN]
  have eg : (if Nat.gcd (mt N (8 * len / 28 + 1) (m : Int)) N = 1 then (1 : Int32) else 0) = if Nat.gcd m N = 1 then 1 else 0 := by
    by_cases z : Nat.gcd m N = 1
    · rw [if_pos z, if_pos ((gcd_mt hMN.1 hMN.2.2).mpr z)]
    · rw [if_neg z, if_neg (fun w => z ((gcd_mt hMN.1 hMN.2.2).mp w))]
  rw [eg]
  by_cases hg2 : Nat.gcd m N = 1
  rotate_left
  · rw [if_neg hg2]
    exact ⟨fun q => absurd rfl q, fun _ => ⟨rfl, bad _ _ _ k10 q10 F10 (fun z => hg2 z.2.2)⟩⟩
  rw [if_pos hg2]
  refine ⟨fun _ => ?_, fun q => absurd q (by decide)⟩
  refine vm_go rfl bX1_blind_153 oX1_blind_153 ⟨_, _, q10.1, rfl, ⟨_, _, q10.1, rfl, ⟨(K2_mo q10).choose, (K2_mo q10).choose_spec, 0, 0, _, x_rai (t := 0) (u := 0) (at9 := len) (size := 3) k10 q10 ka (by decide) (by decide) n100 q10.2.1 (by omega) (by omega), Nat.zero_le _, Nat.zero_le _, ?_⟩⟩⟩
  rintro _ h11 ⟨rfl, n11, k11, q11, F11⟩
  have n112 := nz_fr F11 n102 (KA_n ka (by decide) (by decide) (by decide))
  have F11 := fr_trans F10 (fr_mono F11 (FM_1 (by decide)))
  rw [hE] at n11
  refine ⟨(K2_mo q11).choose, (K2_mo q11).choose_spec, 0, 0, _, x_mul (t := 0) (u := 2) (v := 2) k11 q11 ka (by decide) (by decide) (by decide) n11 n112, Nat.zero_le _, Nat.zero_le _, ?_⟩
  rintro _ h12 ⟨rfl, n12, k12, q12, F12⟩
  have F12 := fr_trans F11 (fr_mono F12 (FM_1 (by decide)))
  refine ⟨(K2_mo q12).choose, (K2_mo q12).choose_spec, 0, 0, _, x_lev (t := 2) (u := 2) k12 q12 ka (by decide) (by decide) n12, Nat.zero_le _, Nat.zero_le _, ?_⟩
  rintro _ h13 ⟨rfl, n13, k13, q13, F13⟩
  have F13 := fr_trans F12 (fr_mono F13 (FM_1 (by decide)))
  rw [hN, ← Int.natCast_pow, ← Int.natCast_mul, tn_m] at n13
  refine ⟨_, _, RS_t k13, rfl, ⟨_, _, q13.1, rfl, ⟨0, 0, _, x_write (t := 2) (u := 0) k13 q13 ka (by decide) (by decide) rfl n13, Nat.zero_le _, Nat.zero_le _, ?_⟩⟩⟩
  rintro _ h14 ⟨rfl, ⟨c0, k14, hc0⟩, q14, F14⟩
  have F14 := fr_trans F13 (fr_mono F14 x0)
  exact ⟨rfl, hQ _ _ ⟨⟨true, rfl, ⟨fun _ => ⟨hxN, hg, hg2⟩, fun _ => rfl⟩, ⟨_, _, k14, fun _ => ⟨by rw [fu_e]; exact hc0, iv, hvl, hxv, by rw [fu_n (by decide), b71]; exact hc1⟩⟩⟩, q14, F14⟩⟩
end
