/-! the throws of VeilMint; retire, look -/
abbrev vm_nws : List Cond := (vm_oa "VeilMint" 138 "java/util/NoSuchElementException" 13 prog_29_method_4_code ["java/lang/RuntimeException", "java/lang/Exception"]).filter vx_no
set_option maxRecDepth 100000 in
theorem vm_nws_e : vm_nws = [24, 1148, 1142, 1144, 1147, 1149, 1134, 1135, 35, 36, 1136, 1141, 1145, 1165, 1123, 1166, 1125, 1167, 1127, 1137, 1139, 1129, 1161, 1162, 1164, 1129, 1152, 1153, 1154, 1155, 1115, 1155, 1156, 1157, 1158, 1117, 1158, 1159, 1160, 1161, 1119, 1151, 1112, 1113, 1120, 1121, 1122, 1124, 1126, 1128, 1163, 1131, 1130].filterMap (fun i => tables_1[i]?) := by decide +kernel
def vm_isd (w : Cond) : Bool := (decide (w = .declares (Bundle.initS "java/lang/RuntimeException")) || decide (w = .declares (Bundle.initS "java/lang/Exception"))) || decide (w = .declares (Bundle.initS "java/lang/Throwable"))
set_option maxRecDepth 100000 in
theorem vm_nws_g : vm_nws.all (fun w => (vm_gw w || vm_isd w) && vx_ot w) = true := by decide +kernel
theorem vm_dcl {x : MethodName} {b : ByteArray} {n : Nat} {r : Option FieldType} {args : Array Value} {s : State} (h1 : (Jvm.Cond.instanceMethod x).before args s = true) (h2 : (Jvm.Cond.code x b n r).before args s = true) : (Jvm.Cond.declares x).before args s = true := by
  obtain ⟨m, meth, hn, hm, hst, -⟩ := Cond.instanceMethod_spec h1
  obtain ⟨meth', c, hm', -, -, -, -, -, -, hsig⟩ := Cond.code_spec hn h2
  cases Option.some.inj (hm.symm.trans hm')
  simp [Cond.before, Cond.holds, Cond.value, hn, hm, hst, hsig]
theorem vm_nws_h (args : Array Value) (s : State) (hts : ∀ w ∈ vm_wt, w.before args s = true) : ∀ w ∈ vm_nws, w.before args s = true := by
  intro w hw
  have g := List.all_eq_true.mp vm_nws_g w hw
  rw [Bool.and_eq_true] at g
  by_cases q : vm_gw w = true
  · rw [vm_nws_e] at hw
    obtain ⟨i, -, hi⟩ := List.mem_filterMap.mp hw
    exact hts _ (vm_i (List.mem_of_getElem? hi) q)
  · have g1 := g.1
    rw [show vm_gw w = false by simpa using q, Bool.false_or] at g1
    unfold vm_isd at g1
    simp only [Bool.or_eq_true, decide_eq_true_iff] at g1
    rcases g1 with (rfl | rfl) | rfl
    · exact vm_dcl (hts _ (vm_t5 (List.mem_of_getElem? (i := 195) rfl) rfl)) (hts _ (vm_t5 (List.mem_of_getElem? (i := 196) rfl) rfl))
    · exact vm_dcl (hts _ (vm_t5 (List.mem_of_getElem? (i := 198) rfl) rfl)) (hts _ (vm_t5 (List.mem_of_getElem? (i := 199) rfl) rfl))
    · exact vm_dcl (hts _ (vm_t5 (List.mem_of_getElem? (i := 201) rfl) rfl)) (hts _ (vm_t5 (List.mem_of_getElem? (i := 202) rfl) rfl))
section
variable {l : Launch} {O : Nat → vm_Ob} {f9 : Value}
/-- throw new NoSuchElementException(tx) in VeilMint -/
theorem vm_r_nse {y : vm_M} {kc ks pc is id : Nat} {tx : String} {lv : vm_L} {h : vm_H} {Q : Option Value → vm_H → Prop} (hl : l.stackTraces = false) (hc : y.1.cls = "VeilMint") (hth : vm_thr y.1 = true) (hhh : vm_hh y.1 = [])
    (d0 : decode y.2.1 pc = .ok (.new 134, 3)) (d3 : decode y.2.1 (pc + 3) = .ok (.dup, 1)) (d4 : decode y.2.1 (pc + 4) = .ok (.ldc is, 2)) (d6 : decode y.2.1 (pc + 6) = .ok (.invokespecial 138, 3)) (d9 : decode y.2.1 (pc + 9) = .ok (.athrow, 1))
    (hr : ("VeilMint", is, tx, id) ∈ vm_srs) (hfr : 5 < y.2.2.2.2.1) (hlo : 82 ≤ y.2.2.2.2.2) (hkc : 1 ≤ kc) (hks : 6 ≤ ks) (hlt : h.1 + 1 < 1099511627776) (hq : Q (some (.retAddr 77)) (vm_nw h (.inr (15, [])))) : vm_T (vm_env l O f9) y kc ks pc lv [] h Q := by
  have k1 : Jvm.Cond.classLink "VeilMint" 134 "java/util/NoSuchElementException" ∈ vm_wt := (vm_t5 (List.mem_of_getElem? (i := 151) rfl) rfl)
  have k2 : Jvm.Cond.initialized "java/util/NoSuchElementException" ∈ vm_wt := (vm_t1 (List.mem_of_getElem? (i := 27) rfl) rfl)
  refine vm_r_throw (ix := 13) (ic := 138) (rx := prog_29_method_4_code) (names := ["java/lang/RuntimeException", "java/lang/Exception"]) (T0 := TX14) hth hhh hl (by decide +kernel) (by decide +kernel) (by decide +kernel) (by decide +kernel) d0 d3 d4 d6 d9 rfl (by decide +kernel) (by decide +kernel) (by rw [hc]; exact k1) k2 (by rw [hc]; exact hr) (by rw [hc]; exact vm_nws_h) ?_ hfr hlo hkc hks hlt hq
  rw [hc]
  intro w hw
  rcases List.mem_cons.mp hw with rfl | hw
  · rfl
  rcases List.mem_cons.mp hw with rfl | hw
  · rfl
  have g := List.all_eq_true.mp vm_nws_g w hw
  rw [Bool.and_eq_true] at g
  exact g.2
end
theorem vm_nwn {h : vm_H} {o : vm_Ob} {q : Nat} (n : q ≠ h.1) : (vm_nw h o).2 q = h.2 q := by
  show va_up h.2 h.1 o q = h.2 q
  unfold va_up
  rw [if_neg n]
/-- a KEY retired -/
def dk9 (x : aK) : aK := (kty x, ksz x, ksa x, false, ksh x, kse x, kid x)
/-- what retire answers, and the KEYS after it; none where it throws -/
def fRt (kn : Nat) (kf : Nat → aK) (z : Int) : Option (Bool × (Nat → aK)) := if 0 ≤ z ∧ z < (kn : Int) then some (klv (kf z.toNat), fu kf z.toNat (dk9 (kf z.toNat))) else none
def lkO (x : aK) (y : Int) (ou : List Nat) : Option (Int32 × List Nat) := if y = 0 then some (nI 32, kid x) else if y = 1 then some (nI (ksh x).length, ksh x) else if y = 2 then some (nI (kty x), ou) else if y = 3 then some (bi (klv x), ou) else if y = 4 then some (nI (ksz x), ou) else none
/-- what look answers, and OUT after it; none where it throws -/
def fLk (kn : Nat) (kf : Nat → aK) (ou : List Nat) (z y : Int) : Option (Int32 × List Nat) := if 0 ≤ z ∧ z < (kn : Int) then lkO (kf z.toNat) y ou else none
theorem KY_dk {h h' : vm_H} {v e : Nat} {x : aK} (k : KY h v e x) (n : ∀ ty sz bs sa sh se id mo lv, KO h (e + 2) ty sz bs sa sh se id mo lv → KO h' (e + 2) ty sz bs sa sh se id mo 0) (c : ∀ q, e ≤ q → q < e + kx x → q ≠ e + 2 → h'.2 q = h.2 q) : KY h' v e (dk9 x) := by
  obtain ⟨ki, k⟩ := k
  refine ⟨ki, ?_⟩
  rcases k with ⟨t, k1, k2, k3, k4⟩ | ⟨t, ⟨ni, ri, k1⟩, k2⟩
  · have ex : kx x = 4 := if_pos t
    rw [ex] at c
    exact Or.inl ⟨t, n _ _ _ _ _ _ _ _ _ k1, bw_cg k2 (c _ (by omega) (by omega) (by omega)), bw_cg k3 (c _ (by omega) (by omega) (by omega)), bw_cg k4 (c _ (by omega) (by omega) (by omega))⟩
  · have ex : kx x = 27 := if_neg (by omega)
    rw [ex] at c
    obtain ⟨z1, z2, z3, z4, z5, z6⟩ := k1
    refine Or.inr ⟨t, ⟨ni, ri, n _ _ _ _ _ _ _ _ _ z1, bv_cg z2 (c _ (by omega) (by omega) (by omega)), bv_cg z3 (c _ (by omega) (by omega) (by omega)), z4, MD_cg z5 (fun i hi h5 => ?_), z6⟩, bw_cg k2 (c _ (by omega) (by omega) (by omega))⟩
    have := Am_in (e := e) hi (h5.resolve_right (by decide))
    exact c _ (by omega) (by omega) (by omega)
section
variable {l : Launch} {O : Nat → vm_Ob} {f9 : Value} {v lo ts kn an rd wr : Nat} {tb : Nat → Nat} {w ou : List Nat} {ke ae : Nat → Nat} {kf : Nat → aK} {af : Nat → aA} {D : Nat → Nat} {dn : Bool} {wl : Int} {st2 kk2 : Nat → Int32} {st3 kk3 : Nat → Int64} {h h' : vm_H}
/-- more cells -/
theorem MV_gr (k : MV st3 kk3 v lo tb ts ou kn an rd ke ae kf af D dn wl wr h) (h1 : h.1 ≤ h'.1) (c : ∀ q, q < h.1 ∨ 1099511627776 ≤ q → h'.2 q = h.2 q) : MV st3 kk3 v lo tb ts ou kn an rd ke ae kf af D dn wl wr h' ∧ VF v lo h h' := by
  obtain ⟨⟨b1, b2, b3⟩, k1, k2, k3⟩ := k
  exact ⟨⟨⟨b1, b2, Nat.le_trans b3 h1⟩, MB_cg k1 (fun q z1 z2 => c q (Or.inl (by omega))), KS_cg k2 h1 (fun q _ z => c q (Or.inl z)), AS_cg k3 h1 (fun q _ z => c q (Or.inl z))⟩, ⟨h1, fun q z => c q (by omega)⟩⟩
theorem MV_th (k : MV st3 kk3 v lo tb ts ou kn an rd ke ae kf af D dn wl wr h) (hh : h.1 < 1099511627776) : MV st3 kk3 v lo tb ts ou kn an rd ke ae kf af D dn wl wr (vm_nw h (.inr (15, []))) ∧ VF v lo h (vm_nw h (.inr (15, []))) :=
  MV_gr k (Nat.le_succ _) (fun q z => vm_nwn (by omega))
/-- a KEY is retired -/
theorem MV_rt {j : Nat} (k : MV st3 kk3 v lo tb ts ou kn an rd ke ae kf af D dn wl wr h) (hj : j < kn) (hh : h.1 < 1099511627776) (F : fr h h' (fun q => q = ke j + 2)) (n : ∀ ty sz bs sa sh se id mo lv, KO h (ke j + 2) ty sz bs sa sh se id mo lv → KO h' (ke j + 2) ty sz bs sa sh se id mo 0) : MV st3 kk3 v lo tb ts ou kn an rd ke ae (fu kf j (dk9 (kf j))) af D dn wl wr h' ∧ VF v lo h h' := by
  obtain ⟨⟨b1, b2, b3⟩, k1, k2, k3⟩ := k
  have rj := k2.2.1 j hj
  have hkj := kx_le (kf j)
  have ekx : ∀ i, kx (fu kf j (dk9 (kf j)) i) = kx (kf i) := fun i => by
    by_cases e : i = j
    · rw [e, fu_e]; rfl
    · rw [fu_n e]
  refine ⟨⟨⟨b1, b2, by rw [F.1]; exact b3⟩, MB_cg k1 (fun q z1 z2 => F.2 q (by omega)), ⟨k2.1, fun i hi => ?_, fun i m h1 h2 => by rw [ekx]; exact k2.2.2 i m h1 h2⟩, ⟨k3.1, fun i hi => ?_, k3.2.2.1, fun i m h1 h2 => by rw [ekx]; exact k3.2.2.2 i m h1 h2⟩⟩, VF_fr F (fun q s => by omega)⟩
  · rw [ekx, F.1]
    by_cases e : i = j
    · rw [e, fu_e]
      exact ⟨rj.1, KY_dk rj.2 n (fun q z1 z2 z3 => F.2 q z3)⟩
    · rw [fu_n e]
      have ri := k2.2.1 i hi
      refine ⟨ri.1, KY_cg ri.2 (fun q z1 z2 => F.2 q ?_)⟩
      rcases Nat.lt_or_ge i j with y | y
      · have := k2.2.2 i j y hj
        omega
      · have := k2.2.2 j i (by omega) hi
        omega
  · have ri := k3.2.1 i hi
    have hd := k3.2.2.2 i j hi hj
    rw [F.1]
    have kA := AY_cg ri.2.2 (h' := h') (fun q z1 z2 => F.2 q (by omega))
    refine ⟨ri.1, ri.2.1, ?_⟩
    by_cases e : aky (af i) = j
    · rw [e, fu_e]
      rw [e] at kA
      exact kA
    · rw [fu_n e]
      exact kA
end
section
variable {l : Launch} {O : Nat → vm_Ob} {f9 : Value} {v lo ts kn an rd wr : Nat} {tb : Nat → Nat} {w ou : List Nat} {ke ae : Nat → Nat} {kf : Nat → aK} {af : Nat → aA} {D : Nat → Nat} {dn : Bool} {wl : Int} {st2 kk2 : Nat → Int32} {st3 kk3 : Nat → Int64} {h : vm_H}
end
def bX11_retirex_0 : List vm_J := [(1, .aload_n 0, 0, 0, 0, .null), (1, .iload_n 1, 0, 0, 0, .null), (3, .invokevirtual 130, 122, 1, 11, .null), (1, .astore_n 2, 0, 0, 0, .null)]
set_option maxRecDepth 20000 in
theorem oX11_retirex_0 : vm_okB 11 mX11_retire 0 bX11_retirex_0 = true := by decide +kernel
def bX11_retirex_6 : List vm_J := [(1, .aload_n 2, 0, 0, 0, .null), (3, .ifnonnull 13, 20, 0, 0, .null)]
set_option maxRecDepth 20000 in
theorem oX11_retirex_6 : vm_okB 11 mX11_retire 6 bX11_retirex_6 = true := by decide +kernel
def bX11_retirex_20 : List vm_J := [(1, .aload_n 2, 0, 0, 0, .null), (3, .getfield 141, 5, 8, 0, .null), (1, .istore_n 3, 0, 0, 0, .null)]
set_option maxRecDepth 20000 in
theorem oX11_retirex_20 : vm_okB 11 mX11_retire 20 bX11_retirex_20 = true := by decide +kernel
def bX11_retirex_25 : List vm_J := [(1, .aload_n 2, 0, 0, 0, .null), (1, .iconst 0, 0, 0, 0, .int 0), (3, .putfield 141, 5, 8, 2, .null), (1, .iload_n 3, 0, 0, 0, .null), (1, .ireturn, 0, 0, 0, .null)]
set_option maxRecDepth 20000 in
theorem oX11_retirex_25 : vm_okB 11 mX11_retire 25 bX11_retirex_25 = true := by decide +kernel
def bX11_lookx_0 : List vm_J := [(1, .aload_n 0, 0, 0, 0, .null), (1, .iload_n 1, 0, 0, 0, .null), (3, .invokevirtual 130, 122, 1, 11, .null), (1, .astore_n 3, 0, 0, 0, .null)]
set_option maxRecDepth 20000 in
theorem oX11_lookx_0 : vm_okB 11 mX11_look 0 bX11_lookx_0 = true := by decide +kernel
def bX11_lookx_6 : List vm_J := [(1, .aload_n 3, 0, 0, 0, .null), (3, .ifnonnull 13, 20, 0, 0, .null)]
set_option maxRecDepth 20000 in
theorem oX11_lookx_6 : vm_okB 11 mX11_look 6 bX11_lookx_6 = true := by decide +kernel
def bX11_lookx_20 : List vm_J := [(1, .iload_n 2, 0, 0, 0, .null), (35, .tableswitch 83 0 4 #[35, 46, 60, 65, 78], 0, 0, 0, .null)]
set_option maxRecDepth 20000 in
theorem oX11_lookx_20 : vm_okB 11 mX11_look 20 bX11_lookx_20 = true := by decide +kernel
def bX11_lookx_56 : List vm_J := [(1, .aload_n 0, 0, 0, 0, .null), (1, .aload_n 3, 0, 0, 0, .null), (3, .getfield 123, 5, 6, 0, .null), (2, .bipush 32, 0, 0, 0, .int 32), (3, .invokevirtual 145, 121, 2, 11, .null), (1, .ireturn, 0, 0, 0, .null)]
set_option maxRecDepth 20000 in
theorem oX11_lookx_56 : vm_okB 11 mX11_look 56 bX11_lookx_56 = true := by decide +kernel
def bX11_lookx_67 : List vm_J := [(1, .aload_n 0, 0, 0, 0, .null), (1, .aload_n 3, 0, 0, 0, .null), (3, .getfield 114, 5, 4, 0, .null), (1, .aload_n 3, 0, 0, 0, .null), (3, .getfield 114, 5, 4, 0, .null), (1, .arraylength, 0, 0, 0, .null), (3, .invokevirtual 145, 121, 2, 11, .null), (1, .ireturn, 0, 0, 0, .null)]
set_option maxRecDepth 20000 in
theorem oX11_lookx_67 : vm_okB 11 mX11_look 67 bX11_lookx_67 = true := by decide +kernel
def bX11_lookx_81 : List vm_J := [(1, .aload_n 3, 0, 0, 0, .null), (3, .getfield 149, 5, 0, 0, .null), (1, .ireturn, 0, 0, 0, .null)]
set_option maxRecDepth 20000 in
theorem oX11_lookx_81 : vm_okB 11 mX11_look 81 bX11_lookx_81 = true := by decide +kernel
def bX11_lookx_86 : List vm_J := [(1, .aload_n 3, 0, 0, 0, .null), (3, .getfield 141, 5, 8, 0, .null), (3, .ifCond .eq 7, 97, 0, 0, .null), (1, .iconst 1, 0, 0, 0, .int 1), (3, .goto 4, 98, 0, 0, .null)]
set_option maxRecDepth 20000 in
theorem oX11_lookx_86 : vm_okB 11 mX11_look 86 bX11_lookx_86 = true := by decide +kernel
def bX11_lookx_97 : List vm_J := [(1, .iconst 0, 0, 0, 0, .int 0)]
set_option maxRecDepth 20000 in
theorem oX11_lookx_97 : vm_okB 11 mX11_look 97 bX11_lookx_97 = true := by decide +kernel
def bX11_lookx_98 : List vm_J := [(1, .ireturn, 0, 0, 0, .null)]
set_option maxRecDepth 20000 in
theorem oX11_lookx_98 : vm_okB 11 mX11_look 98 bX11_lookx_98 = true := by decide +kernel
def bX11_lookx_99 : List vm_J := [(1, .aload_n 3, 0, 0, 0, .null), (3, .getfield 152, 5, 1, 0, .null), (1, .ireturn, 0, 0, 0, .null)]
set_option maxRecDepth 20000 in
theorem oX11_lookx_99 : vm_okB 11 mX11_look 99 bX11_lookx_99 = true := by decide +kernel
section
variable {l : Launch} {O : Nat → vm_Ob} {f9 : Value} {v lo ts kn an rd wr : Nat} {tb : Nat → Nat} {w ou : List Nat} {ke ae : Nat → Nat} {kf : Nat → aK} {af : Nat → aA} {D : Nat → Nat} {dn : Bool} {wl : Int} {st2 kk2 : Nat → Int32} {st3 kk3 : Nat → Int64} {h : vm_H}
theorem m_ret {z : Int} (hl : l.stackTraces = false) (k : MS st3 kk3 v lo w ou kn an rd ke ae kf af D dn wl wr h) (hz : i32 z) (hh : h.1 + 1 < 1099511627776) : vm_MetX (vm_env l O f9) mX11_retire 1 6 [.ref v, .int (iZ z)] h (fun r h' => ((∃ b kf', fRt kn kf z = some (b, kf') ∧ r = some (.int (bi b)) ∧ MS st3 kk3 v lo w ou kn an rd ke ae kf' af D dn wl wr h') ∨ (fRt kn kf z = none ∧ r = some (.retAddr 77) ∧ MS st3 kk3 v lo w ou kn an rd ke ae kf af D dn wl wr h')) ∧ VF v lo h h') := by
  obtain ⟨tb, k, ew⟩ := k
  refine vm_metX rfl rfl rfl (Nat.le_of_ble_eq_true rfl) ?_
  refine vm_go rfl bX11_retirex_0 oX11_retirex_0 ⟨_, MV_0 k, 0, 0, _, m_kat k hz, Nat.zero_le _, Nat.zero_le _, ?_⟩
  rintro _ h1 ⟨hf, rfl⟩
  rcases hf with ⟨i, rfl, hi, rfl⟩ | ⟨ho, rfl⟩
  · rw [iZ_n]
    refine vm_Th (lv' := [(0, .ref v), (1, .int (nI i)), (2, .ref (ke i + 2))]) (h' := h1) rfl rfl ?_
    refine vm_go rfl bX11_retirex_6 oX11_retirex_6 ?_
    obtain ⟨⟨rk1, rk2⟩, kY⟩ := MV_ky k hi
    have hkx := kx_le (kf i)
    have kb := k.1
    obtain ⟨bs, sh, se, ia, mo, kO, _, _, kI, rr, hb1, hb2⟩ := KY_o kY
    refine vm_go rfl bX11_retirex_20 oX11_retirex_20 ⟨_, _, kO, rfl, ?_⟩
    refine vm_Th (lv' := [(0, .ref v), (1, .int (nI i)), (2, .ref (ke i + 2)), (3, .int (bi (klv (kf i))))]) (h' := h1) rfl rfl ?_
    have hlt : ke i + 2 < 1099511627776 := by omega
    refine vm_go rfl bX11_retirex_25 oX11_retirex_25 ⟨_, kO, hlt, show 8 < 9 by decide, Or.inl rfl, ?_⟩
    have F1 : fr h1 (vm_up h1 (ke i + 2) (.inr (5, [.int (nI (kty (kf i))), .int (nI (ksz (kf i))), .int (nI bs), .int (nI (ksa (kf i))), .ref sh, .ref se, .ref ia, .ref mo, .int 0]))) (fun q => q = ke i + 2) := fr_up rfl
    have n1 : ∀ ty sz bs2 sa sh2 se2 id2 mo2 lv2, KO h1 (ke i + 2) ty sz bs2 sa sh2 se2 id2 mo2 lv2 → KO (vm_up h1 (ke i + 2) (.inr (5, [.int (nI (kty (kf i))), .int (nI (ksz (kf i))), .int (nI bs), .int (nI (ksa (kf i))), .ref sh, .ref se, .ref ia, .ref mo, .int 0]))) (ke i + 2) ty sz bs2 sa sh2 se2 id2 mo2 0 := by
      intro ty sz bs2 sa sh2 se2 id2 mo2 lv2 y
      have y9 := (show h1.2 (ke i + 2) = _ from y).symm.trans kO
      simp only [Sum.inr.injEq, Prod.mk.injEq, List.cons.injEq, true_and, and_true] at y9
      obtain ⟨y1, y2, y3, y4, y5, y6, y7, y8, -⟩ := y9
      unfold KO
      rw [y1, y2, y3, y4, y5, y6, y7, y8]
      exact vm_upe
    obtain ⟨k2, V2⟩ := MV_rt k hi (by omega) F1 n1
    have e0 : fRt kn kf (i : Int) = some (klv (kf i), fu kf i (dk9 (kf i))) := if_pos (by omega)
    exact ⟨bi_if, Or.inl ⟨_, _, e0, rfl, ⟨tb, k2, ew⟩⟩, V2⟩
  · refine vm_Th (lv' := [(0, .ref v), (1, .int (iZ z)), (2, .null)]) (h' := h1) rfl rfl ?_
    refine vm_go rfl bX11_retirex_6 oX11_retirex_6 ?_
    obtain ⟨k2, V2⟩ := MV_th k (by omega)
    refine vm_r_nse (tx := "no such KEY") (is := 136) (id := 1099511627828) hl rfl rfl rfl (by decide +kernel) (by decide +kernel) (by decide +kernel) (by decide +kernel) (by decide +kernel) (by simp [vm_srs]) (by decide) (by decide) (by decide) (by decide) hh ?_
    exact ⟨Or.inr ⟨if_neg (by omega), rfl, ⟨tb, k2, ew⟩⟩, V2⟩
theorem m_loo {z y : Int} (hl : l.stackTraces = false) (k : MS st3 kk3 v lo w ou kn an rd ke ae kf af D dn wl wr h) (hz : i32 z) (hy : i32 y) (hh : h.1 + 1 < 1099511627776) : vm_MetX (vm_env l O f9) mX11_look 1 6 [.ref v, .int (iZ z), .int (iZ y)] h (fun r h' => ((∃ x ou', fLk kn kf ou z y = some (x, ou') ∧ r = some (.int x) ∧ MS st3 kk3 v lo w ou' kn an rd ke ae kf af D dn wl wr h') ∨ (fLk kn kf ou z y = none ∧ r = some (.retAddr 77) ∧ MS st3 kk3 v lo w ou kn an rd ke ae kf af D dn wl wr h')) ∧ VF v lo h h') := by
  obtain ⟨tb, k, ew⟩ := k
  have ez := iZ_toInt hy.1 hy.2
  refine vm_metX rfl rfl rfl (Nat.le_of_ble_eq_true rfl) ?_
  refine vm_go rfl bX11_lookx_0 oX11_lookx_0 ⟨_, MV_0 k, 0, 0, _, m_kat k hz, Nat.zero_le _, Nat.zero_le _, ?_⟩
  rintro _ h1 ⟨hf, rfl⟩
  rcases hf with ⟨i, rfl, hi, rfl⟩ | ⟨ho, rfl⟩
  rotate_left
  · refine vm_Th (lv' := [(0, .ref v), (1, .int (iZ z)), (2, .int (iZ y)), (3, .null)]) (h' := h1) rfl rfl ?_
    refine vm_go rfl bX11_lookx_6 oX11_lookx_6 ?_
    obtain ⟨k2, V2⟩ := MV_th k (by omega)
    refine vm_r_nse (tx := "no such KEY") (is := 136) (id := 1099511627828) hl rfl rfl rfl (by decide +kernel) (by decide +kernel) (by decide +kernel) (by decide +kernel) (by decide +kernel) (by simp [vm_srs]) (by decide) (by decide) (by decide) (by decide) hh ?_
    exact ⟨Or.inr ⟨if_neg (by omega), rfl, ⟨tb, k2, ew⟩⟩, V2⟩
  rw [iZ_n]
  refine vm_Th (lv' := [(0, .ref v), (1, .int (nI i)), (2, .int (iZ y)), (3, .ref (ke i + 2))]) (h' := h1) rfl rfl ?_
  refine vm_go rfl bX11_lookx_6 oX11_lookx_6 ?_
  obtain ⟨⟨rk1, rk2⟩, kY⟩ := MV_ky k hi
  have hkx := kx_le (kf i)
  have kb := k.1
  have e0 : fLk kn kf ou (i : Int) y = lkO (kf i) y ou := if_pos (by omega)
  obtain ⟨bs, sh, se, ia, mo, kO, kH, _, kI, rr, hb1, hb2⟩ := KY_o kY
  have l32 : (kid (kf i)).length = 32 := kY.1.2.2.2.1
  rw [e0]
  by_cases ho : y < 0 ∨ 4 < y
  · refine vm_go rfl bX11_lookx_20 oX11_lookx_20 ⟨104, Or.inl ⟨by rw [ez]; exact ho, rfl⟩, ?_⟩
    obtain ⟨k2, V2⟩ := MV_th k (by omega)
    refine vm_r_nse (tx := "no such thing to look at") (is := 153) (id := 1099511627830) hl rfl rfl rfl (by decide +kernel) (by decide +kernel) (by decide +kernel) (by decide +kernel) (by decide +kernel) (by simp [vm_srs]) (by decide) (by decide) (by decide) (by decide) hh ?_
    refine ⟨Or.inr ⟨?_, rfl, ⟨tb, k2, ew⟩⟩, V2⟩
    unfold lkO
    rw [if_neg (by omega), if_neg (by omega), if_neg (by omega), if_neg (by omega), if_neg (by omega)]
  rcases (show y = 0 ∨ y = 1 ∨ y = 2 ∨ y = 3 ∨ y = 4 by omega) with rfl | rfl | rfl | rfl | rfl
  · refine vm_go rfl bX11_lookx_20 oX11_lookx_20 ⟨56, Or.inr ⟨by rw [ez]; decide, by rw [ez]; decide, 35, by rw [ez]; rfl, rfl⟩, ?_⟩
    refine vm_go rfl bX11_lookx_56 oX11_lookx_56 ⟨_, _, kO, rfl, ⟨_, MV_0 k, 0, 0, _, m_lve (m := 32) k (bw_n kI l32) (by omega) (by decide) (by decide) (by decide), Nat.zero_le _, Nat.zero_le _, ?_⟩⟩
    rintro _ h2 ⟨rfl, k2, V2⟩
    rw [show sl (gb (kid (kf i))) 0 32 = kid (kf i) by rw [← l32, sl_gb]] at k2
    exact ⟨Or.inl ⟨_, _, rfl, rfl, ⟨tb, k2, ew⟩⟩, V2⟩
  · refine vm_go rfl bX11_lookx_20 oX11_lookx_20 ⟨67, Or.inr ⟨by rw [ez]; decide, by rw [ez]; decide, 46, by rw [ez]; rfl, rfl⟩, ?_⟩
    have hsh : (ksh (kf i)).length ≤ 259 := by
      rcases kY.1.2.2.2.2 with z | z
      · rw [z.2.2.2.2.2, ptO_len (mul_ne z.2.2.2.2.1.1 z.2.2.2.2.1.2 gP_o (fun z => nomatch z))]; decide
      · have := z.2.1.2.1
        omega
    obtain ⟨fH, eH, vH⟩ := kH
    refine vm_go rfl bX11_lookx_67 oX11_lookx_67 ⟨_, _, kO, rfl, ⟨_, _, kO, rfl, ⟨_, _, eH, by decide, ⟨_, MV_0 k, 0, 0, _, m_lve (m := (ksh (kf i)).length) k ⟨fH, eH, vH⟩ (by omega) (Nat.le_refl _) (by omega) (by omega), Nat.zero_le _, Nat.zero_le _, ?_⟩⟩⟩⟩
    rintro _ h2 ⟨rfl, k2, V2⟩
    rw [sl_gb] at k2
    exact ⟨Or.inl ⟨_, _, rfl, rfl, ⟨tb, k2, ew⟩⟩, V2⟩
  · refine vm_go rfl bX11_lookx_20 oX11_lookx_20 ⟨81, Or.inr ⟨by rw [ez]; decide, by rw [ez]; decide, 60, by rw [ez]; rfl, rfl⟩, ?_⟩
    exact vm_go rfl bX11_lookx_81 oX11_lookx_81 ⟨_, _, kO, rfl, ⟨Or.inl ⟨_, _, rfl, rfl, ⟨tb, k, ew⟩⟩, VF_r⟩⟩
  · refine vm_go rfl bX11_lookx_20 oX11_lookx_20 ⟨86, Or.inr ⟨by rw [ez]; decide, by rw [ez]; decide, 65, by rw [ez]; rfl, rfl⟩, ?_⟩
    have e1 : lkO (kf i) 3 ou = some (bi (klv (kf i)), ou) := rfl
    rw [e1]
    cases hlv : klv (kf i) with
    | true =>
      rw [hlv] at kO
      exact vm_go rfl bX11_lookx_86 oX11_lookx_86 ⟨_, _, kO, rfl, ⟨fun q => absurd q (by decide), fun _ => vm_go rfl bX11_lookx_98 oX11_lookx_98 ⟨Or.inl ⟨_, _, rfl, rfl, ⟨tb, k, ew⟩⟩, VF_r⟩⟩⟩
    | false =>
      rw [hlv] at kO
      exact vm_go rfl bX11_lookx_86 oX11_lookx_86 ⟨_, _, kO, rfl, ⟨fun _ => vm_go rfl bX11_lookx_97 oX11_lookx_97 (vm_go rfl bX11_lookx_98 oX11_lookx_98 ⟨Or.inl ⟨_, _, rfl, rfl, ⟨tb, k, ew⟩⟩, VF_r⟩), fun q => absurd rfl q⟩⟩
  · refine vm_go rfl bX11_lookx_20 oX11_lookx_20 ⟨99, Or.inr ⟨by rw [ez]; decide, by rw [ez]; decide, 78, by rw [ez]; rfl, rfl⟩, ?_⟩
    exact vm_go rfl bX11_lookx_99 oX11_lookx_99 ⟨_, _, kO, rfl, ⟨Or.inl ⟨_, _, rfl, rfl, ⟨tb, k, ew⟩⟩, VF_r⟩⟩
end
