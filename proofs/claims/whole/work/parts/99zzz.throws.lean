/-! the law: what may throw -/
def mL_retire : vm_M := (⟨"VeilMintLaw", "retire", "(LVeilMint;I[J)I"⟩, method_3_code, 4, (some .int), 11, 270)
def mL_look : vm_M := (⟨"VeilMintLaw", "look", "(LVeilMint;II[J)I"⟩, method_4_code, 5, (some .int), 11, 270)
def mL_finalize : vm_M := (⟨"VeilMintLaw", "finalize", "(LVeilMint;I[J)I"⟩, method_5_code, 4, (some .int), 11, 270)
def mL_finalizeMany : vm_M := (⟨"VeilMintLaw", "finalizeMany", "(LVeilMint;II[J)I"⟩, method_6_code, 5, (some .int), 11, 270)
def bL_retire_0 : List vm_J := [(1, .aload_n 2, 0, 0, 0, .null), (1, .iconst 0, 0, 0, 0, .int 0), (1, .aload_n 0, 0, 0, 0, .null), (1, .iload_n 1, 0, 0, 0, .null)]
set_option maxRecDepth 20000 in
theorem oL_retire_0 : vm_okB 23 mL_retire 0 bL_retire_0 = true := by decide +kernel
def bL_retire_4 : List vm_J := [(3, .invokevirtual 7, 107, 1, 11, .null)]
set_option maxRecDepth 20000 in
theorem oL_retire_4 : vm_okB 23 mL_retire 4 bL_retire_4 = true := by decide +kernel
def bL_retire_7 : List vm_J := [(3, .ifCond .eq 7, 14, 0, 0, .null), (1, .lconst 1, 0, 0, 0, .long 1), (3, .goto 4, 15, 0, 0, .null)]
set_option maxRecDepth 20000 in
theorem oL_retire_7 : vm_okB 23 mL_retire 7 bL_retire_7 = true := by decide +kernel
def bL_retire_14 : List vm_J := [(1, .lconst 0, 0, 0, 0, .long 0)]
set_option maxRecDepth 20000 in
theorem oL_retire_14 : vm_okB 23 mL_retire 14 bL_retire_14 = true := by decide +kernel
def bL_retire_15 : List vm_J := [(1, .lastore, 0, 0, 0, .null)]
set_option maxRecDepth 20000 in
theorem oL_retire_15 : vm_okB 23 mL_retire 15 bL_retire_15 = true := by decide +kernel
def bL_retire_16 : List vm_J := [(3, .goto 6, 22, 0, 0, .null)]
set_option maxRecDepth 20000 in
theorem oL_retire_16 : vm_okB 23 mL_retire 16 bL_retire_16 = true := by decide +kernel
def bL_retire_20 : List vm_J := [(1, .iconst 1, 0, 0, 0, .int 1), (1, .ireturn, 0, 0, 0, .null)]
set_option maxRecDepth 20000 in
theorem oL_retire_20 : vm_okB 23 mL_retire 20 bL_retire_20 = true := by decide +kernel
def bL_retire_22 : List vm_J := [(1, .iconst 0, 0, 0, 0, .int 0), (1, .ireturn, 0, 0, 0, .null)]
set_option maxRecDepth 20000 in
theorem oL_retire_22 : vm_okB 23 mL_retire 22 bL_retire_22 = true := by decide +kernel
def bL_look_0 : List vm_J := [(1, .aload_n 3, 0, 0, 0, .null), (1, .iconst 0, 0, 0, 0, .int 0), (1, .aload_n 0, 0, 0, 0, .null), (1, .iload_n 1, 0, 0, 0, .null), (1, .iload_n 2, 0, 0, 0, .null)]
set_option maxRecDepth 20000 in
theorem oL_look_0 : vm_okB 23 mL_look 0 bL_look_0 = true := by decide +kernel
def bL_look_5 : List vm_J := [(3, .invokevirtual 15, 108, 2, 11, .null)]
set_option maxRecDepth 20000 in
theorem oL_look_5 : vm_okB 23 mL_look 5 bL_look_5 = true := by decide +kernel
def bL_look_8 : List vm_J := [(1, .i2l, 0, 0, 0, .null), (1, .lastore, 0, 0, 0, .null)]
set_option maxRecDepth 20000 in
theorem oL_look_8 : vm_okB 23 mL_look 8 bL_look_8 = true := by decide +kernel
def bL_look_10 : List vm_J := [(3, .goto 7, 17, 0, 0, .null)]
set_option maxRecDepth 20000 in
theorem oL_look_10 : vm_okB 23 mL_look 10 bL_look_10 = true := by decide +kernel
def bL_look_15 : List vm_J := [(1, .iconst 1, 0, 0, 0, .int 1), (1, .ireturn, 0, 0, 0, .null)]
set_option maxRecDepth 20000 in
theorem oL_look_15 : vm_okB 23 mL_look 15 bL_look_15 = true := by decide +kernel
def bL_look_17 : List vm_J := [(1, .iconst 0, 0, 0, 0, .int 0), (1, .ireturn, 0, 0, 0, .null)]
set_option maxRecDepth 20000 in
theorem oL_look_17 : vm_okB 23 mL_look 17 bL_look_17 = true := by decide +kernel
def bL_finalize_0 : List vm_J := [(1, .aload_n 2, 0, 0, 0, .null), (1, .iconst 0, 0, 0, 0, .int 0), (1, .aload_n 0, 0, 0, 0, .null), (1, .iload_n 1, 0, 0, 0, .null)]
set_option maxRecDepth 20000 in
theorem oL_finalize_0 : vm_okB 23 mL_finalize 0 bL_finalize_0 = true := by decide +kernel
def bL_finalize_4 : List vm_J := [(3, .invokevirtual 19, 113, 1, 11, .null)]
set_option maxRecDepth 20000 in
theorem oL_finalize_4 : vm_okB 23 mL_finalize 4 bL_finalize_4 = true := by decide +kernel
def bL_finalize_7 : List vm_J := [(1, .i2l, 0, 0, 0, .null), (1, .lastore, 0, 0, 0, .null)]
set_option maxRecDepth 20000 in
theorem oL_finalize_7 : vm_okB 23 mL_finalize 7 bL_finalize_7 = true := by decide +kernel
def bL_finalize_9 : List vm_J := [(3, .goto 6, 15, 0, 0, .null)]
set_option maxRecDepth 20000 in
theorem oL_finalize_9 : vm_okB 23 mL_finalize 9 bL_finalize_9 = true := by decide +kernel
def bL_finalize_13 : List vm_J := [(1, .iconst 1, 0, 0, 0, .int 1), (1, .ireturn, 0, 0, 0, .null)]
set_option maxRecDepth 20000 in
theorem oL_finalize_13 : vm_okB 23 mL_finalize 13 bL_finalize_13 = true := by decide +kernel
def bL_finalize_15 : List vm_J := [(1, .iconst 0, 0, 0, 0, .int 0), (1, .ireturn, 0, 0, 0, .null)]
set_option maxRecDepth 20000 in
theorem oL_finalize_15 : vm_okB 23 mL_finalize 15 bL_finalize_15 = true := by decide +kernel
def bL_finalizeMany_0 : List vm_J := [(1, .aload_n 3, 0, 0, 0, .null), (1, .iconst 0, 0, 0, 0, .int 0), (1, .aload_n 0, 0, 0, 0, .null), (1, .iload_n 1, 0, 0, 0, .null), (1, .iload_n 2, 0, 0, 0, .null)]
set_option maxRecDepth 20000 in
theorem oL_finalizeMany_0 : vm_okB 23 mL_finalizeMany 0 bL_finalizeMany_0 = true := by decide +kernel
def bL_finalizeMany_5 : List vm_J := [(3, .invokevirtual 23, 114, 2, 11, .null)]
set_option maxRecDepth 20000 in
theorem oL_finalizeMany_5 : vm_okB 23 mL_finalizeMany 5 bL_finalizeMany_5 = true := by decide +kernel
def bL_finalizeMany_8 : List vm_J := [(1, .i2l, 0, 0, 0, .null), (1, .lastore, 0, 0, 0, .null)]
set_option maxRecDepth 20000 in
theorem oL_finalizeMany_8 : vm_okB 23 mL_finalizeMany 8 bL_finalizeMany_8 = true := by decide +kernel
def bL_finalizeMany_10 : List vm_J := [(3, .goto 7, 17, 0, 0, .null)]
set_option maxRecDepth 20000 in
theorem oL_finalizeMany_10 : vm_okB 23 mL_finalizeMany 10 bL_finalizeMany_10 = true := by decide +kernel
def bL_finalizeMany_15 : List vm_J := [(1, .iconst 1, 0, 0, 0, .int 1), (1, .ireturn, 0, 0, 0, .null)]
set_option maxRecDepth 20000 in
theorem oL_finalizeMany_15 : vm_okB 23 mL_finalizeMany 15 bL_finalizeMany_15 = true := by decide +kernel
def bL_finalizeMany_17 : List vm_J := [(1, .iconst 0, 0, 0, 0, .int 0), (1, .ireturn, 0, 0, 0, .null)]
set_option maxRecDepth 20000 in
theorem oL_finalizeMany_17 : vm_okB 23 mL_finalizeMany 17 bL_finalizeMany_17 = true := by decide +kernel
theorem lw_cl : Jvm.Cond.classLink "VeilMintLaw" 13 "java/util/NoSuchElementException" ∈ vm_wt := (vm_t5 (List.mem_of_getElem? (i := 146) rfl) rfl)
theorem lw_ca : Jvm.Cond.castable "java/util/NoSuchElementException" "java/util/NoSuchElementException" ∈ vm_wt := (vm_t5 (List.mem_of_getElem? (i := 153) rfl) rfl)
section
variable {l : Launch} {O : Nat → vm_Ob} {f9 : Value} {h h' h1 h2 : vm_H} {v L n kn an rd wr : Nat} {t : KT} {xs : Nat → Int32} {w ou : List Nat} {ke ae : Nat → Nat} {kf : Nat → aK} {af : Nat → aA} {D : Nat → Nat} {dn : Bool} {wl : Int} {th : Int32}
def upd9 (f : Nat → Int64) (k : Nat) (v : Int64) (i : Nat) : Int64 := if i = k then v else f i
theorem J_out {f : Nat → Int64} (F : fr h1 h2 (fun q => q = v + 1002)) (M : MS t.2.2.1 t.2.2.2 v (v + 1003) w ou kn an rd ke ae kf af D dn wl wr h1) : MS t.2.2.1 t.2.2.2 v (v + 1003) w ou kn an rd ke ae kf af D dn wl wr h2 := J_m (h0 := h1) M F (fun q z => by omega)
theorem lw_retire {z : Int} (hl : l.stackTraces = false) (h9 : f9.category = 1) (hz : i32 z) (J : JP v L xs t n h th w ou kn an rd ke ae kf af D dn wl wr) : vm_MetW (vm_env l O f9) mL_retire 1 6 [.ref v, .int (iZ z), .ref (v + 1002)] h (fun r h1 => (((∃ b kf2, fRt kn kf z = some (b, kf2) ∧ r = some (.int 0) ∧ MS t.2.2.1 t.2.2.2 v (v + 1003) w ou kn an rd ke ae kf2 af D dn wl wr h1 ∧ ∃ f, h1.2 (v + 1002) = .inl (.long, 1, .inr (.inl f)) ∧ f 0 = (if b = true then 1 else 0)) ∨ (fRt kn kf z = none ∧ r = some (.int 1) ∧ MS t.2.2.1 t.2.2.2 v (v + 1003) w ou kn an rd ke ae kf af D dn wl wr h1 ∧ ∃ f, h1.2 (v + 1002) = .inl (.long, 1, .inr (.inl f)))) ∧ ∀ q, q < v ∨ (v + 750 ≤ q ∧ q < v + 1002) ∨ 1099511627776 ≤ q → h1.2 q = h.2 q)) := by
  suffices H : ∀ Q : Option Value → vm_H → Prop, (∀ r h1, (((∃ b kf2, fRt kn kf z = some (b, kf2) ∧ r = some (.int 0) ∧ MS t.2.2.1 t.2.2.2 v (v + 1003) w ou kn an rd ke ae kf2 af D dn wl wr h1 ∧ ∃ f, h1.2 (v + 1002) = .inl (.long, 1, .inr (.inl f)) ∧ f 0 = (if b = true then 1 else 0)) ∨ (fRt kn kf z = none ∧ r = some (.int 1) ∧ MS t.2.2.1 t.2.2.2 v (v + 1003) w ou kn an rd ke ae kf af D dn wl wr h1 ∧ ∃ f, h1.2 (v + 1002) = .inl (.long, 1, .inr (.inl f)))) ∧ ∀ q, q < v ∨ (v + 750 ≤ q ∧ q < v + 1002) ∨ 1099511627776 ≤ q → h1.2 q = h.2 q) → Q r h1) → vm_MetW (vm_env l O f9) mL_retire 1 6 [.ref v, .int (iZ z), .ref (v + 1002)] h Q from H _ (fun _ _ z => z)
  intro Q hQ
  have hv := J.2.2.2.2.2.2.2.2.2
  have hc := J.2.2.2.2.2.2.2.2.1
  have b3 := J.2.2.2.2.2.2.2.1
  have ev := J.2.2.1
  have M := J.1
  obtain ⟨f, oc⟩ := J.2.2.2.2.1
  have l1002 : v + 1002 < 1099511627776 := by omega
  have ho : ∃ fs, h.2 v = .inr (11, fs) := by
    obtain ⟨tb, k, _⟩ := M
    exact ⟨_, MV_0 k⟩
  obtain ⟨fs, ho⟩ := ho
  refine vm_metW (by decide) rfl (Nat.le_of_ble_eq_true rfl) ?_
  refine vm_go rfl bL_retire_0 oL_retire_0 ?_
  obtain ⟨⟨c1, c2, c4, rr, c5, c6⟩, c3⟩ := vk_23_7_107_11
  refine vm_r_callX (As := [.int (iZ z)]) (st := [.int 0, .ref (v + 1002)]) (n := 3) (x := ⟨0, 16, 19, 13⟩) (z := mX11_retire) (by decide +kernel) (vm_Cof vz_X11_retire (by decide) (by decide)) c1 c2 c6 ho c4 c5 (m_ret hl M hz (by omega)) (Nat.le_of_ble_eq_true rfl) (by decide) (by decide) rfl rfl (by decide) lw_cl lw_ca (by decide) (.inl ⟨3, rfl, by decide +kernel, rfl⟩) ?_ ?_
  · rintro r h1 hr ⟨q | q, VV⟩
    · obtain ⟨b, kf2, eF, rfl, M1⟩ := q
      have oc1 : h1.2 (v + 1002) = .inl (.long, 1, .inr (.inl f)) := (VV.2 _ (Or.inr (Or.inl (by omega)))).trans oc
      have s15 : ∀ V : Int64, V = (if b = true then 1 else 0) → vm_T (vm_env l O f9) mL_retire (1 - 1) (6 - 6) 15 [(0, .ref v), (1, .int (iZ z)), (2, .ref (v + 1002))] [.long V, .int 0, .ref (v + 1002)] h1 Q := fun V eV => by
        refine vm_go rfl bL_retire_15 oL_retire_15 ⟨1, f, oc1, l1002, 0, rfl, by decide, ?_⟩
        obtain ⟨h2, eh2⟩ : ∃ h2, h2 = vm_up h1 (v + 1002) (.inl (.long, 1, .inr (.inl (upd9 f 0 V)))) := ⟨_, rfl⟩
        have F2 : fr h1 h2 (fun q => q = v + 1002) := eh2 ▸ fr_up rfl
        have e2 : h2.2 (v + 1002) = .inl (.long, 1, .inr (.inl (upd9 f 0 V))) := by rw [eh2]; exact vm_upe
        refine vm_Th (lv' := [(0, .ref v), (1, .int (iZ z)), (2, .ref (v + 1002))]) (h' := h2) rfl (by rw [eh2]; rfl) ?_
        refine vm_go rfl bL_retire_16 oL_retire_16 (vm_go rfl bL_retire_22 oL_retire_22 (hQ _ _ ⟨.inl ⟨_, _, eF, rfl, J_out (f := f) F2 M1, _, e2, eV⟩, fun z hz9 => (F2.2 z (by omega)).trans (VV.2 z (by omega))⟩))
      cases b with
      | true => exact vm_go rfl bL_retire_7 oL_retire_7 ⟨fun q => absurd q (by decide), fun _ => s15 1 rfl⟩
      | false => exact vm_go rfl bL_retire_7 oL_retire_7 ⟨fun _ => vm_go rfl bL_retire_14 oL_retire_14 (s15 0 rfl), fun q => absurd rfl q⟩
    · exact absurd q.2.1 hr
  · rintro h1 ⟨q | q, VV⟩
    · obtain ⟨b, kf2, eF, er, M1⟩ := q
      cases er
    · refine vm_go rfl bL_retire_20 oL_retire_20 (hQ _ _ ⟨.inr ⟨q.1, rfl, q.2.2, f, (VV.2 _ (Or.inr (Or.inl (by omega)))).trans oc⟩, fun z hz9 => VV.2 z (by omega)⟩)
theorem lw_look {z y9 : Int} (hl : l.stackTraces = false) (h9 : f9.category = 1) (hz : i32 z) (hy9 : i32 y9) (J : JP v L xs t n h th w ou kn an rd ke ae kf af D dn wl wr) : vm_MetW (vm_env l O f9) mL_look 1 6 [.ref v, .int (iZ z), .int (iZ y9), .ref (v + 1002)] h (fun r h1 => (((∃ x ou2, fLk kn kf ou z y9 = some (x, ou2) ∧ r = some (.int 0) ∧ MS t.2.2.1 t.2.2.2 v (v + 1003) w ou2 kn an rd ke ae kf af D dn wl wr h1 ∧ ∃ f, h1.2 (v + 1002) = .inl (.long, 1, .inr (.inl f)) ∧ f 0 = x.toInt64) ∨ (fLk kn kf ou z y9 = none ∧ r = some (.int 1) ∧ MS t.2.2.1 t.2.2.2 v (v + 1003) w ou kn an rd ke ae kf af D dn wl wr h1 ∧ ∃ f, h1.2 (v + 1002) = .inl (.long, 1, .inr (.inl f)))) ∧ ∀ q, q < v ∨ (v + 750 ≤ q ∧ q < v + 1002) ∨ 1099511627776 ≤ q → h1.2 q = h.2 q)) := by
  suffices H : ∀ Q : Option Value → vm_H → Prop, (∀ r h1, (((∃ x ou2, fLk kn kf ou z y9 = some (x, ou2) ∧ r = some (.int 0) ∧ MS t.2.2.1 t.2.2.2 v (v + 1003) w ou2 kn an rd ke ae kf af D dn wl wr h1 ∧ ∃ f, h1.2 (v + 1002) = .inl (.long, 1, .inr (.inl f)) ∧ f 0 = x.toInt64) ∨ (fLk kn kf ou z y9 = none ∧ r = some (.int 1) ∧ MS t.2.2.1 t.2.2.2 v (v + 1003) w ou kn an rd ke ae kf af D dn wl wr h1 ∧ ∃ f, h1.2 (v + 1002) = .inl (.long, 1, .inr (.inl f)))) ∧ ∀ q, q < v ∨ (v + 750 ≤ q ∧ q < v + 1002) ∨ 1099511627776 ≤ q → h1.2 q = h.2 q) → Q r h1) → vm_MetW (vm_env l O f9) mL_look 1 6 [.ref v, .int (iZ z), .int (iZ y9), .ref (v + 1002)] h Q from H _ (fun _ _ z => z)
  intro Q hQ
  have hv := J.2.2.2.2.2.2.2.2.2
  have hc := J.2.2.2.2.2.2.2.2.1
  have b3 := J.2.2.2.2.2.2.2.1
  have ev := J.2.2.1
  have M := J.1
  obtain ⟨f, oc⟩ := J.2.2.2.2.1
  have l1002 : v + 1002 < 1099511627776 := by omega
  have ho : ∃ fs, h.2 v = .inr (11, fs) := by
    obtain ⟨tb, k, _⟩ := M
    exact ⟨_, MV_0 k⟩
  obtain ⟨fs, ho⟩ := ho
  refine vm_metW (by decide) rfl (Nat.le_of_ble_eq_true rfl) ?_
  refine vm_go rfl bL_look_0 oL_look_0 ?_
  obtain ⟨⟨c1, c2, c4, rr, c5, c6⟩, c3⟩ := vk_23_15_108_11
  refine vm_r_callX (As := [.int (iZ z), .int (iZ y9)]) (st := [.int 0, .ref (v + 1002)]) (n := 4) (x := ⟨0, 10, 13, 13⟩) (z := mX11_look) (by decide +kernel) (vm_Cof vz_X11_look (by decide) (by decide)) c1 c2 c6 ho c4 c5 (m_loo hl M hz hy9 (by omega)) (Nat.le_of_ble_eq_true rfl) (by decide) (by decide) rfl rfl (by decide) lw_cl lw_ca (by decide) (.inr ⟨by decide +kernel, rfl⟩) ?_ ?_
  · rintro r h1 hr ⟨q | q, VV⟩
    · obtain ⟨x, ou2, eF, rfl, M1⟩ := q
      have oc1 : h1.2 (v + 1002) = .inl (.long, 1, .inr (.inl f)) := (VV.2 _ (Or.inr (Or.inl (by omega)))).trans oc
      refine vm_go rfl bL_look_8 oL_look_8 ⟨1, f, oc1, l1002, 0, rfl, by decide, ?_⟩
      obtain ⟨h2, eh2⟩ : ∃ h2, h2 = vm_up h1 (v + 1002) (.inl (.long, 1, .inr (.inl (upd9 f 0 x.toInt64)))) := ⟨_, rfl⟩
      have F2 : fr h1 h2 (fun q => q = v + 1002) := eh2 ▸ fr_up rfl
      have e2 : h2.2 (v + 1002) = .inl (.long, 1, .inr (.inl (upd9 f 0 x.toInt64))) := by rw [eh2]; exact vm_upe
      refine vm_Th (lv' := [(0, .ref v), (1, .int (iZ z)), (2, .int (iZ y9)), (3, .ref (v + 1002))]) (h' := h2) rfl (by rw [eh2]; rfl) ?_
      refine vm_go rfl bL_look_10 oL_look_10 (vm_go rfl bL_look_17 oL_look_17 (hQ _ _ ⟨.inl ⟨_, _, eF, rfl, J_out (f := f) F2 M1, _, e2, rfl⟩, fun z hz9 => (F2.2 z (by omega)).trans (VV.2 z (by omega))⟩))
    · exact absurd q.2.1 hr
  · rintro h1 ⟨q | q, VV⟩
    · obtain ⟨x, ou2, eF, er, M1⟩ := q
      cases er
    · refine vm_go rfl bL_look_15 oL_look_15 (hQ _ _ ⟨.inr ⟨q.1, rfl, q.2.2, f, (VV.2 _ (Or.inr (Or.inl (by omega)))).trans oc⟩, fun z hz9 => VV.2 z (by omega)⟩)
theorem lw_finalize {z : Int} (hl : l.stackTraces = false) (h9 : f9.category = 1) (hz : i32 z) (J : JP v L xs t n h th w ou kn an rd ke ae kf af D dn wl wr) : vm_MetW (vm_env l O f9) mL_finalize 1 6 [.ref v, .int (iZ z), .ref (v + 1002)] h (fun r h1 => (((∃ x ou2 af2, fFz t.2.2.1 t.2.2.2 z w ou an kf af = some (x, ou2, af2) ∧ r = some (.int 0) ∧ MS t.2.2.1 t.2.2.2 v (v + 1003) [] ou2 kn an rd ke ae kf af2 D dn wl wr h1 ∧ ∃ f, h1.2 (v + 1002) = .inl (.long, 1, .inr (.inl f)) ∧ f 0 = x.toInt64) ∨ (fFz t.2.2.1 t.2.2.2 z w ou an kf af = none ∧ r = some (.int 1) ∧ MS t.2.2.1 t.2.2.2 v (v + 1003) [] ou kn an rd ke ae kf af D dn wl wr h1 ∧ ∃ f, h1.2 (v + 1002) = .inl (.long, 1, .inr (.inl f)))) ∧ ∀ q, q < v ∨ (v + 750 ≤ q ∧ q < v + 1002) ∨ 1099511627776 ≤ q → h1.2 q = h.2 q)) := by
  suffices H : ∀ Q : Option Value → vm_H → Prop, (∀ r h1, (((∃ x ou2 af2, fFz t.2.2.1 t.2.2.2 z w ou an kf af = some (x, ou2, af2) ∧ r = some (.int 0) ∧ MS t.2.2.1 t.2.2.2 v (v + 1003) [] ou2 kn an rd ke ae kf af2 D dn wl wr h1 ∧ ∃ f, h1.2 (v + 1002) = .inl (.long, 1, .inr (.inl f)) ∧ f 0 = x.toInt64) ∨ (fFz t.2.2.1 t.2.2.2 z w ou an kf af = none ∧ r = some (.int 1) ∧ MS t.2.2.1 t.2.2.2 v (v + 1003) [] ou kn an rd ke ae kf af D dn wl wr h1 ∧ ∃ f, h1.2 (v + 1002) = .inl (.long, 1, .inr (.inl f)))) ∧ ∀ q, q < v ∨ (v + 750 ≤ q ∧ q < v + 1002) ∨ 1099511627776 ≤ q → h1.2 q = h.2 q) → Q r h1) → vm_MetW (vm_env l O f9) mL_finalize 1 6 [.ref v, .int (iZ z), .ref (v + 1002)] h Q from H _ (fun _ _ z => z)
  intro Q hQ
  have hv := J.2.2.2.2.2.2.2.2.2
  have hc := J.2.2.2.2.2.2.2.2.1
  have b3 := J.2.2.2.2.2.2.2.1
  have ev := J.2.2.1
  have M := J.1
  obtain ⟨f, oc⟩ := J.2.2.2.2.1
  have l1002 : v + 1002 < 1099511627776 := by omega
  have ho : ∃ fs, h.2 v = .inr (11, fs) := by
    obtain ⟨tb, k, _⟩ := M
    exact ⟨_, MV_0 k⟩
  obtain ⟨fs, ho⟩ := ho
  refine vm_metW (by decide) rfl (Nat.le_of_ble_eq_true rfl) ?_
  refine vm_go rfl bL_finalize_0 oL_finalize_0 ?_
  obtain ⟨⟨c1, c2, c4, rr, c5, c6⟩, c3⟩ := vk_23_19_113_11
  refine vm_r_callX (As := [.int (iZ z)]) (st := [.int 0, .ref (v + 1002)]) (n := 3) (x := ⟨0, 9, 12, 13⟩) (z := mX11_finalize) (by decide +kernel) (vm_Cof vz_X11_finalize (by decide) (by decide)) c1 c2 c6 ho c4 c5 (m_fin hl M ev h9 hz (by omega)) (Nat.le_of_ble_eq_true rfl) (by decide) (by decide) rfl rfl (by decide) lw_cl lw_ca (by decide) (.inl ⟨3, rfl, by decide +kernel, rfl⟩) ?_ ?_
  · rintro r h1 hr ⟨q | q, VV⟩
    · obtain ⟨x, ou2, af2, eF, rfl, M1⟩ := q
      have oc1 : h1.2 (v + 1002) = .inl (.long, 1, .inr (.inl f)) := (VV.2 _ (Or.inr (Or.inl (by omega)))).trans oc
      refine vm_go rfl bL_finalize_7 oL_finalize_7 ⟨1, f, oc1, l1002, 0, rfl, by decide, ?_⟩
      obtain ⟨h2, eh2⟩ : ∃ h2, h2 = vm_up h1 (v + 1002) (.inl (.long, 1, .inr (.inl (upd9 f 0 x.toInt64)))) := ⟨_, rfl⟩
      have F2 : fr h1 h2 (fun q => q = v + 1002) := eh2 ▸ fr_up rfl
      have e2 : h2.2 (v + 1002) = .inl (.long, 1, .inr (.inl (upd9 f 0 x.toInt64))) := by rw [eh2]; exact vm_upe
      refine vm_Th (lv' := [(0, .ref v), (1, .int (iZ z)), (2, .ref (v + 1002))]) (h' := h2) rfl (by rw [eh2]; rfl) ?_
      refine vm_go rfl bL_finalize_9 oL_finalize_9 (vm_go rfl bL_finalize_15 oL_finalize_15 (hQ _ _ ⟨.inl ⟨_, _, _, eF, rfl, J_out (f := f) F2 M1, _, e2, rfl⟩, fun z hz9 => (F2.2 z (by omega)).trans (VV.2 z (by omega))⟩))
    · exact absurd q.2.1 hr
  · rintro h1 ⟨q | q, VV⟩
    · obtain ⟨x, ou2, af2, eF, er, M1⟩ := q
      cases er
    · refine vm_go rfl bL_finalize_13 oL_finalize_13 (hQ _ _ ⟨.inr ⟨q.1, rfl, q.2.2, f, (VV.2 _ (Or.inr (Or.inl (by omega)))).trans oc⟩, fun z hz9 => VV.2 z (by omega)⟩)
theorem lw_finalizeMany {z y9 : Int} (hl : l.stackTraces = false) (h9 : f9.category = 1) (hz : i32 z) (hy9 : i32 y9) (J : JP v L xs t n h th w ou kn an rd ke ae kf af D dn wl wr) : vm_MetW (vm_env l O f9) mL_finalizeMany 1 6 [.ref v, .int (iZ z), .int (iZ y9), .ref (v + 1002)] h (fun r h1 => (((∃ x ou2 af2, fFm t.2.2.1 t.2.2.2 z y9 w ou an kf af = some (x, ou2, af2) ∧ r = some (.int 0) ∧ MS t.2.2.1 t.2.2.2 v (v + 1003) [] ou2 kn an rd ke ae kf af2 D dn wl wr h1 ∧ ∃ f, h1.2 (v + 1002) = .inl (.long, 1, .inr (.inl f)) ∧ f 0 = x.toInt64) ∨ (fFm t.2.2.1 t.2.2.2 z y9 w ou an kf af = none ∧ r = some (.int 1) ∧ MS t.2.2.1 t.2.2.2 v (v + 1003) [] ou kn an rd ke ae kf af D dn wl wr h1 ∧ ∃ f, h1.2 (v + 1002) = .inl (.long, 1, .inr (.inl f)))) ∧ ∀ q, q < v ∨ (v + 750 ≤ q ∧ q < v + 1002) ∨ 1099511627776 ≤ q → h1.2 q = h.2 q)) := by
  suffices H : ∀ Q : Option Value → vm_H → Prop, (∀ r h1, (((∃ x ou2 af2, fFm t.2.2.1 t.2.2.2 z y9 w ou an kf af = some (x, ou2, af2) ∧ r = some (.int 0) ∧ MS t.2.2.1 t.2.2.2 v (v + 1003) [] ou2 kn an rd ke ae kf af2 D dn wl wr h1 ∧ ∃ f, h1.2 (v + 1002) = .inl (.long, 1, .inr (.inl f)) ∧ f 0 = x.toInt64) ∨ (fFm t.2.2.1 t.2.2.2 z y9 w ou an kf af = none ∧ r = some (.int 1) ∧ MS t.2.2.1 t.2.2.2 v (v + 1003) [] ou kn an rd ke ae kf af D dn wl wr h1 ∧ ∃ f, h1.2 (v + 1002) = .inl (.long, 1, .inr (.inl f)))) ∧ ∀ q, q < v ∨ (v + 750 ≤ q ∧ q < v + 1002) ∨ 1099511627776 ≤ q → h1.2 q = h.2 q) → Q r h1) → vm_MetW (vm_env l O f9) mL_finalizeMany 1 6 [.ref v, .int (iZ z), .int (iZ y9), .ref (v + 1002)] h Q from H _ (fun _ _ z => z)
  intro Q hQ
  have hv := J.2.2.2.2.2.2.2.2.2
  have hc := J.2.2.2.2.2.2.2.2.1
  have b3 := J.2.2.2.2.2.2.2.1
  have ev := J.2.2.1
  have M := J.1
  obtain ⟨f, oc⟩ := J.2.2.2.2.1
  have l1002 : v + 1002 < 1099511627776 := by omega
  have ho : ∃ fs, h.2 v = .inr (11, fs) := by
    obtain ⟨tb, k, _⟩ := M
    exact ⟨_, MV_0 k⟩
  obtain ⟨fs, ho⟩ := ho
  refine vm_metW (by decide) rfl (Nat.le_of_ble_eq_true rfl) ?_
  refine vm_go rfl bL_finalizeMany_0 oL_finalizeMany_0 ?_
  obtain ⟨⟨c1, c2, c4, rr, c5, c6⟩, c3⟩ := vk_23_23_114_11
  refine vm_r_callX (As := [.int (iZ z), .int (iZ y9)]) (st := [.int 0, .ref (v + 1002)]) (n := 4) (x := ⟨0, 10, 13, 13⟩) (z := mX11_finalizeMany) (by decide +kernel) (vm_Cof vz_X11_finalizeMany (by decide) (by decide)) c1 c2 c6 ho c4 c5 (m_fim hl M ev h9 hz hy9 (by omega)) (Nat.le_of_ble_eq_true rfl) (by decide) (by decide) rfl rfl (by decide) lw_cl lw_ca (by decide) (.inr ⟨by decide +kernel, rfl⟩) ?_ ?_
  · rintro r h1 hr ⟨q | q, VV⟩
    · obtain ⟨x, ou2, af2, eF, rfl, M1⟩ := q
      have oc1 : h1.2 (v + 1002) = .inl (.long, 1, .inr (.inl f)) := (VV.2 _ (Or.inr (Or.inl (by omega)))).trans oc
      refine vm_go rfl bL_finalizeMany_8 oL_finalizeMany_8 ⟨1, f, oc1, l1002, 0, rfl, by decide, ?_⟩
      obtain ⟨h2, eh2⟩ : ∃ h2, h2 = vm_up h1 (v + 1002) (.inl (.long, 1, .inr (.inl (upd9 f 0 x.toInt64)))) := ⟨_, rfl⟩
      have F2 : fr h1 h2 (fun q => q = v + 1002) := eh2 ▸ fr_up rfl
      have e2 : h2.2 (v + 1002) = .inl (.long, 1, .inr (.inl (upd9 f 0 x.toInt64))) := by rw [eh2]; exact vm_upe
      refine vm_Th (lv' := [(0, .ref v), (1, .int (iZ z)), (2, .int (iZ y9)), (3, .ref (v + 1002))]) (h' := h2) rfl (by rw [eh2]; rfl) ?_
      refine vm_go rfl bL_finalizeMany_10 oL_finalizeMany_10 (vm_go rfl bL_finalizeMany_17 oL_finalizeMany_17 (hQ _ _ ⟨.inl ⟨_, _, _, eF, rfl, J_out (f := f) F2 M1, _, e2, rfl⟩, fun z hz9 => (F2.2 z (by omega)).trans (VV.2 z (by omega))⟩))
    · exact absurd q.2.1 hr
  · rintro h1 ⟨q | q, VV⟩
    · obtain ⟨x, ou2, af2, eF, er, M1⟩ := q
      cases er
    · refine vm_go rfl bL_finalizeMany_15 oL_finalizeMany_15 (hQ _ _ ⟨.inr ⟨q.1, rfl, q.2.2, f, (VV.2 _ (Or.inr (Or.inl (by omega)))).trans oc⟩, fun z hz9 => VV.2 z (by omega)⟩)
end
