/-! the reference: feed, again, retire, digest -/
def bX14_retirex_0 : List vm_J := [(1, .aload_n 0, 0, 0, 0, .null), (1, .iconst 0, 0, 0, 0, .int 0), (3, .putfield 1, 14, 0, 0, .null)]
set_option maxRecDepth 20000 in
theorem oX14_retirex_0 : vm_okB 14 mX14_retire 0 bX14_retirex_0 = true := by decide +kernel
def bX14_retirex_5 : List vm_J := [(1, .aload_n 0, 0, 0, 0, .null), (1, .iload_n 1, 0, 0, 0, .null), (3, .invokevirtual 594, 210, 1, 14, .null), (3, .ifCond .eq 10, 20, 0, 0, .null), (1, .aload_n 0, 0, 0, 0, .null), (1, .iconst 1, 0, 0, 0, .int 1), (3, .putfield 1, 14, 0, 0, .null)]
set_option maxRecDepth 20000 in
theorem oX14_retirex_5 : vm_okB 14 mX14_retire 5 bX14_retirex_5 = true := by decide +kernel
def bX14_retirex_18 : List vm_J := [(1, .iconst 0, 0, 0, 0, .int 0), (1, .ireturn, 0, 0, 0, .null)]
set_option maxRecDepth 20000 in
theorem oX14_retirex_18 : vm_okB 14 mX14_retire 18 bX14_retirex_18 = true := by decide +kernel
def bX14_retirex_20 : List vm_J := [(1, .aload_n 0, 0, 0, 0, .null), (3, .getfield 453, 14, 55, 0, .null), (1, .iload_n 1, 0, 0, 0, .null), (1, .baload, 1, 0, 0, .null), (1, .istore_n 2, 0, 0, 0, .null)]
set_option maxRecDepth 20000 in
theorem oX14_retirex_20 : vm_okB 14 mX14_retire 20 bX14_retirex_20 = true := by decide +kernel
def bX14_retirex_27 : List vm_J := [(1, .aload_n 0, 0, 0, 0, .null), (3, .getfield 453, 14, 55, 0, .null), (1, .iload_n 1, 0, 0, 0, .null), (1, .iconst 0, 0, 0, 0, .int 0), (1, .bastore, 1, 0, 0, .null)]
set_option maxRecDepth 20000 in
theorem oX14_retirex_27 : vm_okB 14 mX14_retire 27 bX14_retirex_27 = true := by decide +kernel
def bX14_retirex_34 : List vm_J := [(1, .iload_n 2, 0, 0, 0, .null), (1, .ireturn, 0, 0, 0, .null)]
set_option maxRecDepth 20000 in
theorem oX14_retirex_34 : vm_okB 14 mX14_retire 34 bX14_retirex_34 = true := by decide +kernel
def bX14_digestx_0 : List vm_J := [(1, .aload_n 0, 0, 0, 0, .null), (3, .invokevirtual 570, 192, 0, 14, .null), (1, .istore_n 1, 0, 0, 0, .null)]
set_option maxRecDepth 20000 in
theorem oX14_digestx_0 : vm_okB 14 mX14_digest 0 bX14_digestx_0 = true := by decide +kernel
def bX14_digestx_5 : List vm_J := [(1, .aload_n 0, 0, 0, 0, .null), (1, .iconst 0, 0, 0, 0, .int 0), (3, .putfield 203, 14, 19, 0, .null)]
set_option maxRecDepth 20000 in
theorem oX14_digestx_5 : vm_okB 14 mX14_digest 5 bX14_digestx_5 = true := by decide +kernel
def bX14_digestx_10 : List vm_J := [(1, .aload_n 0, 0, 0, 0, .null), (1, .aload_n 0, 0, 0, 0, .null), (3, .getfield 492, 14, 74, 0, .null), (1, .iconst 0, 0, 0, 0, .int 0), (1, .iload_n 1, 0, 0, 0, .null), (3, .invokevirtual 287, 166, 3, 14, .null), (1, .aload_n 0, 0, 0, 0, .null), (3, .invokevirtual 567, 173, 0, 14, .null), (1, .iconst 0, 0, 0, 0, .int 0), (1, .istore_n 2, 0, 0, 0, .null)]
set_option maxRecDepth 20000 in
theorem oX14_digestx_10 : vm_okB 14 mX14_digest 10 bX14_digestx_10 = true := by decide +kernel
def bX14_digestx_26 : List vm_J := [(1, .iload_n 2, 0, 0, 0, .null), (2, .bipush 32, 0, 0, 0, .int 32), (3, .if_icmp .ge 21, 50, 0, 0, .null), (1, .aload_n 0, 0, 0, 0, .null), (3, .getfield 495, 14, 76, 0, .null), (1, .iload_n 2, 0, 0, 0, .null), (1, .aload_n 0, 0, 0, 0, .null), (3, .getfield 243, 14, 20, 0, .null), (1, .iload_n 2, 0, 0, 0, .null), (1, .baload, 0, 0, 0, .null), (1, .bastore, 0, 0, 0, .null)]
set_option maxRecDepth 20000 in
theorem oX14_digestx_26 : vm_okB 14 mX14_digest 26 bX14_digestx_26 = true := by decide +kernel
def bX14_digestx_44 : List vm_J := [(3, .iinc 2 1, 0, 0, 0, .int 1), (3, .goto (-21), 26, 0, 0, .null)]
set_option maxRecDepth 20000 in
theorem oX14_digestx_44 : vm_okB 14 mX14_digest 44 bX14_digestx_44 = true := by decide +kernel
def bX14_digestx_50 : List vm_J := [(1, .aload_n 0, 0, 0, 0, .null), (2, .bipush 32, 0, 0, 0, .int 32), (3, .putfield 564, 14, 77, 0, .null)]
set_option maxRecDepth 20000 in
theorem oX14_digestx_50 : vm_okB 14 mX14_digest 50 bX14_digestx_50 = true := by decide +kernel
def bX14_digestx_56 : List vm_J := [(2, .bipush 32, 0, 0, 0, .int 32), (1, .ireturn, 0, 0, 0, .null)]
set_option maxRecDepth 20000 in
theorem oX14_digestx_56 : vm_okB 14 mX14_digest 56 bX14_digestx_56 = true := by decide +kernel
def z59 (z1 z2 z3 z4 z5 : Int) (i : Nat) : Int := if i = 0 then z1 else if i = 1 then z2 else if i = 2 then z3 else if i = 3 then z4 else z5
theorem z59_sh {z : Int} (hz : i32 z) {k : Nat} (hk : k < 4) : (iZ z >>> (((24 : Int32) - 8 * nI k) &&& 31)).toInt8.toInt32 = sb (ib z (3 - k)) := by
  have e : ∀ k, k < 4 → (24 : Int32) - 8 * nI k = 8 * nI (3 - k) := by decide
  rw [e k hk]
  exact ib_sh hz.1 hz.2 (by omega)
section
variable {l : Launch} {O : Nat → vm_Ob} {f9 : Value} {h h' : vm_H} {a kn an rd wr : Nat} {t : KT} {g g' : Nat → Int32} {m y w ou : List Nat} {kf : Nat → aK} {af : Nat → aA} {D : Nat → Nat} {dn : Bool} {wl : Int} {th : Int32}
theorem RG_tl {n' : Nat} (G : RG9 g th kn an rd dn wl wr w.length ou.length) : RG9 (ug g 75 (nI n')) th kn an rd dn wl wr n' ou.length := ⟨G.1, G.2.1, G.2.2.1, G.2.2.2.1, G.2.2.2.2.1, G.2.2.2.2.2.1, G.2.2.2.2.2.2.1, rfl, G.2.2.2.2.2.2.2.2⟩
theorem RG_ol {n' : Nat} (G : RG9 g th kn an rd dn wl wr w.length ou.length) : RG9 (ug g 77 (nI n')) th kn an rd dn wl wr w.length n' := ⟨G.1, G.2.1, G.2.2.1, G.2.2.2.1, G.2.2.2.2.1, G.2.2.2.2.2.1, G.2.2.2.2.2.2.1, G.2.2.2.2.2.2.2.1, rfl⟩
theorem RG_t1 {v : Int32} (G : RG9 g th kn an rd dn wl wr w.length ou.length) : RG9 (ug g 0 v) v kn an rd dn wl wr w.length ou.length := ⟨rfl, G.2⟩
theorem rp_feed {z1 z2 z3 z4 z5 : Int} (hz1 : i32 z1) (hz2 : i32 z2) (hz3 : i32 z3) (hz4 : i32 z4) (hz5 : i32 z5) (K : RM h a t th w ou kn an rd kf af D dn wl wr) : vm_Met (vm_env l O f9) mX14_feed 0 0 [.ref a, .int (iZ z1), .int (iZ z2), .int (iZ z3), .int (iZ z4), .int (iZ z5)] h (fun r h' => (w.length + 20 ≤ 1200 → r = some (.int (nI (w.length + 20))) ∧ RM h' a t 0 (w ++ nb z1 4 ++ nb z2 4 ++ nb z3 4 ++ nb z4 4 ++ nb z5 4) ou kn an rd kf af D dn wl wr) ∧ (¬ w.length + 20 ≤ 1200 → r = some (.int (-1)) ∧ RM h' a t 0 w ou kn an rd kf af D dn wl wr) ∧ fr h h' (RF a)) := by
  obtain ⟨g, m, y, k, G, st⟩ := K
  have ao := k.1.2.1
  have la : a < 1099511627776 := by omega
  refine vm_met rfl (Nat.le_of_ble_eq_true rfl) ?_
  refine vm_go rfl bX14_feedx_0 oX14_feedx_0 ⟨_, k.1.1, la, show 0 < 89 by decide, trivial, ?_⟩
  obtain ⟨h1, eh1⟩ : ∃ h1, h1 = vm_up h a (RO a (u3 (ug g 0 0) (nI ([] : List Nat).length) (nI m.length) (nI y.length))) := ⟨_, rfl⟩
  obtain ⟨k1, F1⟩ := SY_g k eh1
  have st1 := ST_fr st F1 (fun q z => by unfold scr; omega)
  have G1 := RG_th G
  have F1 : fr h h1 (RF a) := fr_mono F1 (fun q z => by unfold RF; omega)
  refine vm_Th (lv' := [(0, .ref a), (1, .int (iZ z1)), (2, .int (iZ z2)), (3, .int (iZ z3)), (4, .int (iZ z4)), (5, .int (iZ z5))]) (h' := h1) rfl eh1 ?_
  have wl9 := st1.2.2.2.2.2.1
  have el : ug g 0 0 75 + 20 = nI (w.length + 20) := by rw [G1.2.2.2.2.2.2.2.1]; exact nI_add _ 20
  by_cases c : w.length + 20 ≤ 1200
  case neg =>
    refine vm_go rfl bX14_feedx_5 oX14_feedx_5 ⟨_, _, k1.1.1, rfl, ⟨fun q => ?_, fun _ => ⟨fun n => absurd n c, fun _ => ⟨rfl, _, _, _, k1, G1, st1⟩, F1⟩⟩⟩
    have q : ug g 0 0 75 + 20 ≤ nI 1200 := q
    rw [el, nI_leI (by omega) (by decide)] at q
    exact absurd q c
  refine vm_go rfl bX14_feedx_5 oX14_feedx_5 ⟨_, _, k1.1.1, rfl, ⟨fun _ => ?_, fun q => absurd (show ug g 0 0 75 + 20 ≤ nI 1200 by rw [el]; exact nI_le c (by decide)) q⟩⟩
  have l162 : a + 162 < 1099511627776 := by omega
  have l153 : a + 153 < 1099511627776 := by omega
  obtain ⟨fv1, ev1⟩ : ∃ f, h1.2 (a + 162) = .inl (.int, 5, .inl f) := k1.1.2.2.2.2.1 162 (by unfold ZI; omega)
  refine vm_go rfl bX14_feedx_20 oX14_feedx_20 ⟨_, _, k1.1.1, rfl, ⟨5, fv1, ev1, l162, 0, rfl, by decide, ?_⟩⟩
  obtain ⟨h2, eh2⟩ : ∃ h2, h2 = vm_up h1 (a + 162) (.inl (.int, 5, .inl (upd fv1 0 (iZ z1)))) := ⟨_, rfl⟩
  have Q2 : fr h1 h2 (fun q => q = a + 162) := eh2 ▸ fr_up rfl
  obtain ⟨fv2, efv2⟩ : ∃ fv2, upd fv1 0 (iZ z1) = fv2 := ⟨_, rfl⟩
  have ev2 : h2.2 (a + 162) = .inl (.int, 5, .inl fv2) := by rw [eh2, efv2]; exact vm_upe
  have k2 : SY h2 a t (ug g 0 0) [] m y := SY_fr k1 (RK_of k1.1 Q2 ((Q2.2 a (by omega)).trans k1.1.1) (fun q z => .inr (z ▸ GD_i (i := 162) (by unfold ZI; omega) ⟨_, ev2⟩))) Q2 (by omega)
  have st2 := ST_fr st1 Q2 (fun q z => by unfold scr; omega)
  have F2 : fr h h2 (RF a) := fr_trans F1 (fr_mono Q2 (fun q z => by unfold RF; omega))
  refine vm_Th (lv' := [(0, .ref a), (1, .int (iZ z1)), (2, .int (iZ z2)), (3, .int (iZ z3)), (4, .int (iZ z4)), (5, .int (iZ z5))]) (h' := h2) rfl eh2 ?_
  refine vm_go rfl bX14_feedx_27 oX14_feedx_27 ⟨_, _, k2.1.1, rfl, ⟨5, fv2, ev2, l162, 1, rfl, by decide, ?_⟩⟩
  obtain ⟨h3, eh3⟩ : ∃ h3, h3 = vm_up h2 (a + 162) (.inl (.int, 5, .inl (upd fv2 1 (iZ z2)))) := ⟨_, rfl⟩
  have Q3 : fr h2 h3 (fun q => q = a + 162) := eh3 ▸ fr_up rfl
  obtain ⟨fv3, efv3⟩ : ∃ fv3, upd fv2 1 (iZ z2) = fv3 := ⟨_, rfl⟩
  have ev3 : h3.2 (a + 162) = .inl (.int, 5, .inl fv3) := by rw [eh3, efv3]; exact vm_upe
  have k3 : SY h3 a t (ug g 0 0) [] m y := SY_fr k2 (RK_of k2.1 Q3 ((Q3.2 a (by omega)).trans k2.1.1) (fun q z => .inr (z ▸ GD_i (i := 162) (by unfold ZI; omega) ⟨_, ev3⟩))) Q3 (by omega)
  have st3 := ST_fr st2 Q3 (fun q z => by unfold scr; omega)
  have F3 : fr h h3 (RF a) := fr_trans F2 (fr_mono Q3 (fun q z => by unfold RF; omega))
  refine vm_Th (lv' := [(0, .ref a), (1, .int (iZ z1)), (2, .int (iZ z2)), (3, .int (iZ z3)), (4, .int (iZ z4)), (5, .int (iZ z5))]) (h' := h3) rfl eh3 ?_
  refine vm_go rfl bX14_feedx_34 oX14_feedx_34 ⟨_, _, k3.1.1, rfl, ⟨5, fv3, ev3, l162, 2, rfl, by decide, ?_⟩⟩
  obtain ⟨h4, eh4⟩ : ∃ h4, h4 = vm_up h3 (a + 162) (.inl (.int, 5, .inl (upd fv3 2 (iZ z3)))) := ⟨_, rfl⟩
  have Q4 : fr h3 h4 (fun q => q = a + 162) := eh4 ▸ fr_up rfl
  obtain ⟨fv4, efv4⟩ : ∃ fv4, upd fv3 2 (iZ z3) = fv4 := ⟨_, rfl⟩
  have ev4 : h4.2 (a + 162) = .inl (.int, 5, .inl fv4) := by rw [eh4, efv4]; exact vm_upe
  have k4 : SY h4 a t (ug g 0 0) [] m y := SY_fr k3 (RK_of k3.1 Q4 ((Q4.2 a (by omega)).trans k3.1.1) (fun q z => .inr (z ▸ GD_i (i := 162) (by unfold ZI; omega) ⟨_, ev4⟩))) Q4 (by omega)
  have st4 := ST_fr st3 Q4 (fun q z => by unfold scr; omega)
  have F4 : fr h h4 (RF a) := fr_trans F3 (fr_mono Q4 (fun q z => by unfold RF; omega))
  refine vm_Th (lv' := [(0, .ref a), (1, .int (iZ z1)), (2, .int (iZ z2)), (3, .int (iZ z3)), (4, .int (iZ z4)), (5, .int (iZ z5))]) (h' := h4) rfl eh4 ?_
  refine vm_go rfl bX14_feedx_41 oX14_feedx_41 ⟨_, _, k4.1.1, rfl, ⟨5, fv4, ev4, l162, 3, rfl, by decide, ?_⟩⟩
  obtain ⟨h5, eh5⟩ : ∃ h5, h5 = vm_up h4 (a + 162) (.inl (.int, 5, .inl (upd fv4 3 (iZ z4)))) := ⟨_, rfl⟩
  have Q5 : fr h4 h5 (fun q => q = a + 162) := eh5 ▸ fr_up rfl
  obtain ⟨fv5, efv5⟩ : ∃ fv5, upd fv4 3 (iZ z4) = fv5 := ⟨_, rfl⟩
  have ev5 : h5.2 (a + 162) = .inl (.int, 5, .inl fv5) := by rw [eh5, efv5]; exact vm_upe
  have k5 : SY h5 a t (ug g 0 0) [] m y := SY_fr k4 (RK_of k4.1 Q5 ((Q5.2 a (by omega)).trans k4.1.1) (fun q z => .inr (z ▸ GD_i (i := 162) (by unfold ZI; omega) ⟨_, ev5⟩))) Q5 (by omega)
  have st5 := ST_fr st4 Q5 (fun q z => by unfold scr; omega)
  have F5 : fr h h5 (RF a) := fr_trans F4 (fr_mono Q5 (fun q z => by unfold RF; omega))
  refine vm_Th (lv' := [(0, .ref a), (1, .int (iZ z1)), (2, .int (iZ z2)), (3, .int (iZ z3)), (4, .int (iZ z4)), (5, .int (iZ z5))]) (h' := h5) rfl eh5 ?_
  refine vm_go rfl bX14_feedx_49 oX14_feedx_49 ⟨_, _, k5.1.1, rfl, ⟨5, fv5, ev5, l162, 4, rfl, by decide, ?_⟩⟩
  obtain ⟨h6, eh6⟩ : ∃ h6, h6 = vm_up h5 (a + 162) (.inl (.int, 5, .inl (upd fv5 4 (iZ z5)))) := ⟨_, rfl⟩
  have Q6 : fr h5 h6 (fun q => q = a + 162) := eh6 ▸ fr_up rfl
  obtain ⟨fv6, efv6⟩ : ∃ fv6, upd fv5 4 (iZ z5) = fv6 := ⟨_, rfl⟩
  have ev6 : h6.2 (a + 162) = .inl (.int, 5, .inl fv6) := by rw [eh6, efv6]; exact vm_upe
  have k6 : SY h6 a t (ug g 0 0) [] m y := SY_fr k5 (RK_of k5.1 Q6 ((Q6.2 a (by omega)).trans k5.1.1) (fun q z => .inr (z ▸ GD_i (i := 162) (by unfold ZI; omega) ⟨_, ev6⟩))) Q6 (by omega)
  have st6 := ST_fr st5 Q6 (fun q z => by unfold scr; omega)
  have F6 : fr h h6 (RF a) := fr_trans F5 (fr_mono Q6 (fun q z => by unfold RF; omega))
  refine vm_Th (lv' := [(0, .ref a), (1, .int (iZ z1)), (2, .int (iZ z2)), (3, .int (iZ z3)), (4, .int (iZ z4)), (5, .int (iZ z5))]) (h' := h6) rfl eh6 ?_
  refine vm_go rfl bX14_feedx_57 oX14_feedx_57 ?_
  have vv9 : ∀ i, i < 5 → fv6 i = iZ (z59 z1 z2 z3 z4 z5 i) := fun i hi => by
    rw [← efv6, ← efv5, ← efv4, ← efv3, ← efv2]
    rcases i with _ | _ | _ | _ | _ | i
    · rfl
    · rfl
    · rfl
    · rfl
    · rfl
    · omega
  have z9 : ∀ i, i < 5 → i32 (z59 z1 z2 z3 z4 z5 i) := fun i hi => by
    rcases i with _ | _ | _ | _ | _ | i
    · exact hz1
    · exact hz2
    · exact hz3
    · exact hz4
    · exact hz5
    · omega
  refine vm_Th (lv' := [(0, .ref a), (1, .int (iZ z1)), (2, .int (iZ z2)), (3, .int (iZ z3)), (4, .int (iZ z4)), (5, .int (iZ z5)), (6, .int (nI 0))]) (h' := h6) rfl rfl ?_
  obtain ⟨ct, bt, et⟩ := st6.2.2.2.1
  refine vm_loop (fun i h' => SY h' a t (ug g 0 0) [] m y ∧ (∃ c', bv h' 1208 (a + 153) c' ∧ (∀ j, j < i → c' (w.length + j) = ib (z59 z1 z2 z3 z4 z5 (j / 4)) (3 - j % 4)) ∧ ∀ j, j < w.length ∨ w.length + i ≤ j → c' j = ct j) ∧ fr h6 h' (fun q => q = a + 153)) 20 (fun i => [(0, .ref a), (1, .int (iZ z1)), (2, .int (iZ z2)), (3, .int (iZ z3)), (4, .int (iZ z4)), (5, .int (iZ z5)), (6, .int (nI i))]) 0 h6 (Nat.zero_le _) ⟨k6, ⟨ct, bt, fun j hj => by omega, fun _ _ => rfl⟩, fr_refl⟩ ?_ ?_
  rotate_left
  · rintro i h7 _ hi ⟨k7, ⟨c7, ⟨f7, ef7, vf7⟩, v7, u7⟩, F7⟩ ih
    have ed : nI i / 4 = nI (i / 4) := nI_div (b := 4) (by omega) (by decide)
    have er : nI i - nI i / 4 * 4 = nI (i % 4) := nI_rem (b := 4) (by omega) (by decide)
    have ei : ug g 0 0 75 + nI i = nI (w.length + i) := by rw [G1.2.2.2.2.2.2.2.1, nI_add]
    have EV : (fv6 (i / 4) >>> (((24 : Int32) - 8 * (nI i - nI i / 4 * 4)) &&& 31)).toInt8.toInt32 = sb (ib (z59 z1 z2 z3 z4 z5 (i / 4)) (3 - i % 4)) := by
      rw [er, vv9 _ (by omega)]
      exact z59_sh (z9 _ (by omega)) (by omega)
    refine vm_go rfl bX14_feedx_60 oX14_feedx_60 ⟨fun q => absurd q (nI_ge (b := 20) hi (by decide)), fun _ => ⟨_, _, k7.1.1, rfl, ⟨_, _, k7.1.1, rfl, ⟨_, _, k7.1.1, rfl, ⟨by decide, ⟨5, fv6, (F7.2 _ (by omega)).trans ev6, i / 4, ed, by omega, fun _ => ⟨by decide, ⟨1208, f7, ef7, l153, w.length + i, ei, by omega, ?_⟩⟩⟩⟩⟩⟩⟩⟩
    obtain ⟨h8, eh8⟩ : ∃ h8, h8 = vm_up h7 (a + 153) (.inl (.byte, 1208, .inl (upd f7 (w.length + i) (sb (ib (z59 z1 z2 z3 z4 z5 (i / 4)) (3 - i % 4)))))) := ⟨_, rfl⟩
    have F8 : fr h7 h8 (fun q => q = a + 153) := eh8 ▸ fr_up rfl
    have b8' : bv h8 1208 (a + 153) (b1 c7 (w.length + i) (ib (z59 z1 z2 z3 z4 z5 (i / 4)) (3 - i % 4))) := eh8 ▸ bv_up vf7 (ib_lt _ _)
    refine vm_Th (lv' := [(0, .ref a), (1, .int (iZ z1)), (2, .int (iZ z2)), (3, .int (iZ z3)), (4, .int (iZ z4)), (5, .int (iZ z5)), (6, .int (nI i))]) (h' := h8) rfl (by rw [eh8, ← sb_self _ (ib_lt _ _), ← EV]; rfl) ?_
    refine vm_go rfl bX14_feedx_100 oX14_feedx_100 (vm_Th (by rw [← nI_1 i]; rfl) rfl (ih h8 ⟨SY_off k7 F8 (fun q z => by omega), ⟨_, b8', bstp v7 rfl, bstq u7⟩, fr_trans F7 F8⟩))
  rintro h7 ⟨k7, ⟨c7, b7, v7, u7⟩, F7⟩
  refine vm_go rfl bX14_feedx_60 oX14_feedx_60 ⟨fun _ => ?_, fun q => absurd (nI_le (a := 20) (b := 20) (by decide) (by decide)) q⟩
  refine vm_go rfl bX14_feedx_106 oX14_feedx_106 ⟨_, _, k7.1.1, rfl, ⟨_, k7.1.1, la, show 75 < 89 by decide, trivial, ?_⟩⟩
  obtain ⟨h8, eh8⟩ : ∃ h8, h8 = vm_up h7 a (RO a (u3 (ug (ug g 0 0) 75 (nI (w.length + 20))) (nI ([] : List Nat).length) (nI m.length) (nI y.length))) := ⟨_, rfl⟩
  obtain ⟨k8, F8⟩ := SY_g k7 eh8
  refine vm_Th (lv' := [(0, .ref a), (1, .int (iZ z1)), (2, .int (iZ z2)), (3, .int (iZ z3)), (4, .int (iZ z4)), (5, .int (iZ z5)), (6, .int (nI 20))]) (h' := h8) rfl (by rw [eh8, ← el]; rfl) ?_
  have lw : (w ++ nb z1 4 ++ nb z2 4 ++ nb z3 4 ++ nb z4 4 ++ nb z5 4).length = w.length + 20 := by
    rw [List.length_append, List.length_append, List.length_append, List.length_append, List.length_append, nb_len, nb_len, nb_len, nb_len, nb_len]
  have F78 : fr h6 h8 (fun q => q = a ∨ q = a + 153) := fr_trans (fr_mono F7 (fun q z => .inr z)) (fr_mono F8 (fun q z => .inl z))
  refine vm_go rfl bX14_feedx_117 oX14_feedx_117 ⟨_, _, k8.1.1, rfl, ⟨fun _ => ⟨rfl, _, _, _, k8, by rw [lw]; exact RG_tl G1, ST_tp st6 F78 (fun q z => by unfold scr; omega) ⟨c7, bv_cg b7 (F8.2 _ (by omega)), ?_⟩ (by omega)⟩, fun n => absurd c n, fr_trans F6 (fr_mono F78 (fun q z => by unfold RF; omega))⟩⟩
  rw [lw, show w.length + 20 = w.length + 4 + 4 + 4 + 4 + 4 by omega, sl_app, sl_app, sl_app, sl_app, sl_app]
  have blk : ∀ (i : Nat) (z : Int), i < 5 → z59 z1 z2 z3 z4 z5 i = z → ∀ p, p = w.length + 4 * i → sl c7 p 4 = nb z 4 := fun i z hi ez p ep => by
    unfold nb
    refine sl_ext (fun j hj => ?_)
    have := v7 (4 * i + j) (by omega)
    rw [show (4 * i + j) / 4 = i by omega, show (4 * i + j) % 4 = j by omega, ez] at this
    rw [ep, Nat.add_assoc, this, Nat.zero_add]
  rw [blk 0 z1 (by decide) rfl _ (by omega), blk 1 z2 (by decide) rfl _ (by omega), blk 2 z3 (by decide) rfl _ (by omega), blk 3 z4 (by decide) rfl _ (by omega), blk 4 z5 (by decide) rfl _ (by omega)]
  have e0 : sl c7 0 w.length = w := by
    conv => rhs; rw [← et]
    exact sl_ext (fun j hj => u7 _ (.inl (by omega)))
  rw [e0]
theorem rp_again {z y9 : Int} (hz : i32 z) (hy : i32 y9) (K : RM h a t th w ou kn an rd kf af D dn wl wr) : vm_Met (vm_env l O f9) mX14_again 0 0 [.ref a, .int (iZ z), .int (iZ y9)] h (fun r h' => (((0 ≤ z ∧ 0 ≤ y9) ∧ z + y9 ≤ (ou.length : Int) ∧ (w.length : Int) + y9 ≤ 1200) → r = some (.int (nI (w.length + y9.toNat))) ∧ RM h' a t 0 (w ++ sl (gb ou) z.toNat y9.toNat) ou kn an rd kf af D dn wl wr) ∧ (¬ ((0 ≤ z ∧ 0 ≤ y9) ∧ z + y9 ≤ (ou.length : Int) ∧ (w.length : Int) + y9 ≤ 1200) → r = some (.int (-1)) ∧ RM h' a t 0 w ou kn an rd kf af D dn wl wr) ∧ fr h h' (RF a)) := by
  obtain ⟨g, m, y, k, G, st⟩ := K
  have ao := k.1.2.1
  have la : a < 1099511627776 := by omega
  refine vm_met rfl (Nat.le_of_ble_eq_true rfl) ?_
  refine vm_go rfl bX14_againx_0 oX14_againx_0 ⟨_, k.1.1, la, show 0 < 89 by decide, trivial, ?_⟩
  obtain ⟨h1, eh1⟩ : ∃ h1, h1 = vm_up h a (RO a (u3 (ug g 0 0) (nI ([] : List Nat).length) (nI m.length) (nI y.length))) := ⟨_, rfl⟩
  obtain ⟨k1, F1⟩ := SY_g k eh1
  have st1 := ST_fr st F1 (fun q z => by unfold scr; omega)
  have G1 := RG_th G
  have F1 : fr h h1 (RF a) := fr_mono F1 (fun q z => by unfold RF; omega)
  refine vm_Th (lv' := [(0, .ref a), (1, .int (iZ z)), (2, .int (iZ y9))]) (h' := h1) rfl eh1 ?_
  have wl9 := st1.2.2.2.2.2.1
  have ol9 := st1.2.2.2.2.2.2.1
  have bad : ¬ ((0 ≤ z ∧ 0 ≤ y9) ∧ z + y9 ≤ (ou.length : Int) ∧ (w.length : Int) + y9 ≤ 1200) → vm_T (vm_env l O f9) mX14_again 0 0 39 [(0, .ref a), (1, .int (iZ z)), (2, .int (iZ y9))] [] h1 (fun r h' => (((0 ≤ z ∧ 0 ≤ y9) ∧ z + y9 ≤ (ou.length : Int) ∧ (w.length : Int) + y9 ≤ 1200) → r = some (.int (nI (w.length + y9.toNat))) ∧ RM h' a t 0 (w ++ sl (gb ou) z.toNat y9.toNat) ou kn an rd kf af D dn wl wr) ∧ (¬ ((0 ≤ z ∧ 0 ≤ y9) ∧ z + y9 ≤ (ou.length : Int) ∧ (w.length : Int) + y9 ≤ 1200) → r = some (.int (-1)) ∧ RM h' a t 0 w ou kn an rd kf af D dn wl wr) ∧ fr h h' (RF a)) := fun c => vm_go rfl bX14_againx_39 oX14_againx_39 ⟨fun n => absurd n c, fun _ => ⟨rfl, _, _, _, k1, G1, st1⟩, F1⟩
  refine vm_go rfl bX14_againx_5 oX14_againx_5 ⟨fun q => bad (fun c => absurd ((iZ_lt0 hz).mp q) (by omega)), fun q1 => ⟨fun q => bad (fun c => absurd ((iZ_lt0 hy).mp q) (by omega)), fun q2 => ⟨_, _, k1.1.1, rfl, ?_⟩⟩⟩
  have q1 : ¬ iZ z < 0 := q1
  have q2 : ¬ iZ y9 < 0 := q2
  rw [iZ_lt0 hz] at q1
  rw [iZ_lt0 hy] at q2
  have e1 : (iZ z).toInt64 + (iZ y9).toInt64 = lZ (((z + y9).toNat : Nat) : Int) := by
    rw [iZ_l hz.1 hz.2, iZ_l hy.1 hy.2, lZ_add]; congr 1; omega
  have e2 : (ug g 0 0 77).toInt64 = lZ ((ou.length : Nat) : Int) := by
    rw [G1.2.2.2.2.2.2.2.2]; exact lZ_i64 (by omega)
  have lc := lc_9 (a := (z + y9).toNat) (b := ou.length) (by unfold i32 at hz hy; omega) (by omega)
  rw [← e1, ← e2] at lc
  refine ⟨fun q => bad (fun c => absurd (lc.mp q) (by omega)), fun q3 => ?_⟩
  have q3 : ¬ 0 < lg_cmp ((iZ z).toInt64 + (iZ y9).toInt64) (ug g 0 0 77).toInt64 := q3
  rw [lc] at q3
  have el : ug g 0 0 75 + iZ y9 = nI (w.length + y9.toNat) := by rw [G1.2.2.2.2.2.2.2.1, iZ_tn (by omega), nI_add]
  refine ⟨_, _, k1.1.1, rfl, ⟨fun q4 => ?_, fun q4 => bad (fun c => q4 ?_)⟩⟩
  rotate_left
  · show ug g 0 0 75 + iZ y9 ≤ nI 1200
    rw [el]; exact nI_le (by omega) (by decide)
  have q4 : ug g 0 0 75 + iZ y9 ≤ nI 1200 := q4
  rw [el, nI_leI (by omega) (by decide)] at q4
  obtain ⟨n9, en9⟩ : ∃ n9, y9.toNat = n9 := ⟨_, rfl⟩
  obtain ⟨p9, ep9⟩ : ∃ p9, z.toNat = p9 := ⟨_, rfl⟩
  have c9 : ((0 ≤ z ∧ 0 ≤ y9) ∧ z + y9 ≤ (ou.length : Int) ∧ (w.length : Int) + y9 ≤ 1200) := ⟨by omega, by omega, by omega⟩
  have l153 : a + 153 < 1099511627776 := by omega
  obtain ⟨ct, bt, et⟩ := st1.2.2.2.1
  obtain ⟨co, ⟨fo, efo, vfo⟩, eo⟩ := st1.2.2.2.2.1
  have ez : iZ z = nI p9 := by rw [iZ_tn (by omega), ep9]
  have ey : iZ y9 = nI n9 := by rw [iZ_tn (by omega), en9]
  rw [en9] at q4 el
  rw [en9, ep9]
  refine vm_go rfl bX14_againx_41 oX14_againx_41 ?_
  refine vm_Th (lv' := [(0, .ref a), (1, .int (iZ z)), (2, .int (iZ y9)), (3, .int (nI 0))]) (h' := h1) rfl rfl ?_
  refine vm_loop (fun i h' => SY h' a t (ug g 0 0) [] m y ∧ (∃ c', bv h' 1208 (a + 153) c' ∧ (∀ j, j < i → c' (w.length + j) = co (p9 + j)) ∧ ∀ j, j < w.length ∨ w.length + i ≤ j → c' j = ct j) ∧ fr h1 h' (fun q => q = a + 153)) n9 (fun i => [(0, .ref a), (1, .int (iZ z)), (2, .int (iZ y9)), (3, .int (nI i))]) 0 h1 (Nat.zero_le _) ⟨k1, ⟨ct, bt, fun j hj => by omega, fun _ _ => rfl⟩, fr_refl⟩ ?_ ?_
  rotate_left
  · rintro i h7 _ hi ⟨k7, ⟨c7, ⟨f7, ef7, vf7⟩, v7, u7⟩, F7⟩ ih
    have vs := vfo (p9 + i) (by omega)
    have ei : ug g 0 0 75 + nI i = nI (w.length + i) := by rw [G1.2.2.2.2.2.2.2.1, nI_add]
    refine vm_go rfl bX14_againx_43 oX14_againx_43 ⟨fun q => ?_, fun _ => ⟨_, _, k7.1.1, rfl, ⟨_, _, k7.1.1, rfl, ⟨_, _, k7.1.1, rfl, ⟨2900, fo, (F7.2 _ (by omega)).trans efo, p9 + i, by rw [ez, nI_add], by omega, fun _ => ⟨1208, f7, ef7, l153, w.length + i, ei, by omega, ?_⟩⟩⟩⟩⟩⟩
    · have q : iZ y9 ≤ nI i := q
      rw [ey] at q
      exact absurd q (nI_ge hi (by omega))
    obtain ⟨h8, eh8⟩ : ∃ h8, h8 = vm_up h7 (a + 153) (.inl (.byte, 1208, .inl (upd f7 (w.length + i) (sb (co (p9 + i)))))) := ⟨_, rfl⟩
    have F8 : fr h7 h8 (fun q => q = a + 153) := eh8 ▸ fr_up rfl
    have b8' : bv h8 1208 (a + 153) (b1 c7 (w.length + i) (co (p9 + i))) := eh8 ▸ bv_up vf7 vs.2
    refine vm_Th (lv' := [(0, .ref a), (1, .int (iZ z)), (2, .int (iZ y9)), (3, .int (nI i))]) (h' := h8) rfl (by rw [eh8, ← sb_self _ vs.2, ← vs.1]; rfl) ?_
    refine vm_go rfl bX14_againx_67 oX14_againx_67 (vm_Th (by rw [← nI_1 i]; rfl) rfl (ih h8 ⟨SY_off k7 F8 (fun q z => by omega), ⟨_, b8', bstp v7 rfl, bstq u7⟩, fr_trans F7 F8⟩))
  rintro h7 ⟨k7, ⟨c7, b7, v7, u7⟩, F7⟩
  refine vm_go rfl bX14_againx_43 oX14_againx_43 ⟨fun _ => ?_, fun q => absurd (show iZ y9 ≤ nI n9 by rw [ey]; exact nI_le (Nat.le_refl _) (by omega)) q⟩
  refine vm_go rfl bX14_againx_73 oX14_againx_73 ⟨_, _, k7.1.1, rfl, ⟨_, k7.1.1, la, show 75 < 89 by decide, trivial, ?_⟩⟩
  obtain ⟨h8, eh8⟩ : ∃ h8, h8 = vm_up h7 a (RO a (u3 (ug (ug g 0 0) 75 (nI (w.length + n9))) (nI ([] : List Nat).length) (nI m.length) (nI y.length))) := ⟨_, rfl⟩
  obtain ⟨k8, F8⟩ := SY_g k7 eh8
  refine vm_Th (lv' := [(0, .ref a), (1, .int (iZ z)), (2, .int (iZ y9)), (3, .int (nI n9))]) (h' := h8) rfl (by rw [eh8, ← el]; rfl) ?_
  have lw : (w ++ sl (gb ou) p9 n9).length = w.length + n9 := by rw [List.length_append, sl_len]
  have F78 : fr h1 h8 (fun q => q = a ∨ q = a + 153) := fr_trans (fr_mono F7 (fun q z => .inr z)) (fr_mono F8 (fun q z => .inl z))
  refine vm_go rfl bX14_againx_83 oX14_againx_83 ⟨_, _, k8.1.1, rfl, ⟨fun _ => ⟨rfl, _, _, _, k8, by rw [lw]; exact RG_tl G1, ST_tp st1 F78 (fun q z => by unfold scr; omega) ⟨c7, bv_cg b7 (F8.2 _ (by omega)), ?_⟩ (by omega)⟩, fun n => absurd c9 n, fr_trans F1 (fr_mono F78 (fun q z => by unfold RF; omega))⟩⟩
  rw [lw, sl_app]
  congr 1
  · conv => rhs; rw [← et]
    exact sl_ext (fun j hj => u7 _ (.inl (by omega)))
  · refine sl_ext (fun j hj => ?_)
    rw [Nat.zero_add, v7 j hj]
    have := sl_all eo (p9 + j) (by omega)
    rwa [Nat.zero_add] at this
end
