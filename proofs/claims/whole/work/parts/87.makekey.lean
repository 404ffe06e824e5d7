/-! Oprf.makeKey -/
theorem bv_cg {h h' : vm_H} {n a : Nat} {c : Nat → Nat} (k : bv h n a c) (e : h'.2 a = h.2 a) : bv h' n a c := by
  obtain ⟨f, e1, v⟩ := k
  exact ⟨f, e.trans e1, v⟩
section
variable {l : Launch} {O : Nat → vm_Ob} {f9 : Value} {a : Nat} {h : vm_H} {W : Nat → List Nat} {B : Nat → Nat → Nat} {V : Nat → Option Nat} {g : og} {st2 kk2 : Nat → Int32} {st3 kk3 : Nat → Int64}
theorem p_mkk {fa nf : Nat} {b : Nat → Nat} (hc9 : Jvm.Cond.castable "[B" "java/lang/Cloneable" ∈ vm_wt) (k : OPc a h W B V g) (hah : a + 711 ≤ h.1) (hh : h.1 + 100 < 1099511627776) (hf : bv h nf fa b) (hfo : ¬ OR a fa) (hfh : fa < h.1) (hnf : 48 ≤ nf) (hnf2 : nf < 65536) (hs0 : 0 < bn b 0 48) (hs1 : bn b 0 48 < cQ) :
    vm_Met (vm_env l O f9) mX7_makeKey 4 138 [.ref a, .ref fa] h (fun r h' => r = some (.ref (h.1 + 2)) ∧ h'.1 = h.1 + 4 ∧ KO h' (h.1 + 2) 1 48 49 0 (h.1 + 1) h.1 (h.1 + 3) (a + 661) 1 ∧ bv h' 48 h.1 b ∧ (∃ shb, bv h' 49 (h.1 + 1) shb ∧ sl shb 0 49 = ptO (ecM (-3) fiv (bn b 0 48) gP)) ∧ bv h' 32 (h.1 + 3) (fun _ => 0) ∧ (∃ g', OPc a h' W B V g') ∧ ∀ q, ¬ OR a q → q < h.1 ∨ 1099511627776 ≤ q → h'.2 q = h.2 q) := by
  have k0 := k.1
  have hne : ecM (-3) fiv (bn b 0 48) gP ≠ none := mul_ne hs0 hs1 gP_o (fun z => nomatch z)
  have nCR : ∀ q, ¬ OR a q → ¬ CR a q := fun q hq z => hq (CR_HS q z).1
  refine vm_met rfl (Nat.le_of_ble_eq_true rfl) ?_
  refine vm_go rfl bX7_makeKey_0 oX7_makeKey_0 ⟨1, 48, _, s_copyOf (m := 48) hc9 hf (by omega) (by omega) hnf hnf2 (by omega), by decide, by decide, ?_⟩
  rintro _ h1 ⟨rfl, c1, b1, u1⟩
  refine ⟨49, rfl, by decide, by decide, by decide, by omega, ?_⟩
  generalize hq2 : vm_nw h1 _ = h2
  have c2 : h2.1 = h.1 + 2 := by rw [← hq2]; show h1.1 + 1 = _; omega
  have a2 : h2.2 (h.1 + 1) = .inl (.byte, 49, .inl (fun _ => 0)) := by rw [← hq2, ← c1]; exact nw_e
  have u2 : ∀ q, q ≠ h.1 → q ≠ h.1 + 1 → h2.2 q = h.2 q := fun q z1 z2 => by rw [← hq2, nw_n (by omega), u1 q z1]
  have b2 : bv h2 48 h.1 b := bv_cg b1 (by rw [← hq2]; exact nw_n (by omega))
  clear hq2
  rw [c1]
  have k2 : OPc a h2 W B V g := OP_out k (fun q z1 z2 => u2 q (by omega) (by omega))
  refine ⟨_, _, OP_t k2, rfl, ⟨_, _, OP_t k2, rfl, ⟨_, _, OP_Co k2, rfl, ⟨_, OP_Co k2, 0, 0, _, o_spr (i := 0) (pl := 8) k2 (by decide) (by decide) rfl, Nat.zero_le _, Nat.zero_le _, ?_⟩⟩⟩⟩
  rintro _ h3 ⟨rfl, k3, F3⟩
  have b3 := fr_bv F3 b2 (by unfold CR; omega)
  refine ⟨_, _, OP_t k3, rfl, ⟨_, _, OP_t k3, rfl, ⟨_, OP_Co k3, 0, 0, _, o_mulp (i := 0) (pl := 8) (at9 := 0) k3 (by decide) (by decide) b3 (by decide) (by decide) rfl (Or.inr hne), Nat.zero_le _, Nat.zero_le _, ?_⟩⟩⟩
  rintro _ h4 ⟨rfl, k4, F4⟩
  have F4 := fr_trans F3 F4
  have s4 : bv h4 49 (h.1 + 1) (fun _ => 0) := fr_bv F4 ⟨_, a2, fun j hj => ⟨rfl, show 0 < 256 by decide⟩⟩ (by unfold CR; omega)
  refine ⟨_, _, OP_t k4, rfl, ⟨_, _, OP_t k4, rfl, ⟨_, OP_Co k4, 0, 0, _, o_encx (i := 0) (at9 := 0) (p := ecM (-3) fiv (bn b 0 48) gP) k4 (by decide) rfl s4 (by omega) (by omega) (by decide) (by decide), Nat.zero_le _, Nat.zero_le _, ?_⟩⟩⟩
  rintro _ h5 ⟨rfl, s5, k5, F5⟩
  have F5 : fr h2 h5 (fun q => CR a q ∨ q = h.1 + 1) := fr_trans (fr_mono F4 (fun q z => Or.inl z)) F5
  have c5 : h5.1 = h.1 + 2 := F5.1.trans c2
  have b5 := fr_bv F5 b2 (by unfold CR; omega)
  refine ⟨by decide, by decide, by omega, ?_⟩
  generalize hq6 : vm_nw h5 _ = h6
  have c6 : h6.1 = h.1 + 3 := by rw [← hq6]; show h5.1 + 1 = _; omega
  have a6 : h6.2 (h.1 + 2) = .inr (5, vm_df 5) := by rw [← hq6, ← c5]; exact nw_e
  have u6 : ∀ q, q ≠ h.1 + 2 → h6.2 q = h5.2 q := fun q z => by rw [← hq6]; exact nw_n (by omega)
  clear hq6
  rw [c5]
  have k6 : OPc a h6 W B V _ := OP_out k5 (fun q z1 z2 => u6 q (by omega))
  refine ⟨_, _, OP_t k6, rfl, ⟨1, 32, _, v_key (ty := 1) (sz := 48) (sa := 0) a6 (by omega) (by omega) (Or.inl rfl), by decide, by decide, ?_⟩⟩
  rintro _ h7 ⟨rfl, c7, K7, i7, u7⟩
  rw [c6] at K7 i7 u7
  refine ⟨rfl, by omega, K7, bv_cg (bv_cg b5 (u6 _ (by omega))) (u7 _ (by omega) (by omega)), ⟨_, bv_cg (bv_cg s5 (u6 _ (by omega))) (u7 _ (by omega) (by omega)), ?_⟩, i7, ⟨_, OP_out k6 (fun q z1 z2 => u7 q (by omega) (by omega))⟩, fun q z1 z2 => ?_⟩
  · obtain ⟨q, hq⟩ := Option.ne_none_iff_exists'.mp hne
    rw [hq, encb_at]; rfl
  · rw [u7 q (by omega) (by omega), u6 q (by omega), F5.2 q (fun z => z.elim (nCR q z1) (fun w => by omega)), u2 q (by omega) (by omega)]
end
