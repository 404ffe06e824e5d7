/-! the claim -/
def R_law : String := "VeilMintLaw"
def lw_P (b : Addr) (xs : List Int32) (args : Array Value) (s : State) : Prop := args = #[.ref b] ∧ s.IntsAt b xs ∧ xs.length ≤ 3072 ∧ (Jvm.Cond.and given_1 narrow_1).before args s = true
def lw_Q (_ : Array Value) (s : State) (o : Outcome) (t : State) : Prop := o = .returned (some (.int 1)) ∧ Framed s o t [] 601024 7293034
def lw_Z (below : List Frame) (a : Array Value) (s : State) : State → Prop := fun t => ∃ o, t.status = .running ∧ Ended t below o ∧ lw_Q a s o t
theorem z_xs {args : Array Value} {s : State} (hT : ∀ w ∈ tables_1, w.before args s = true) : ∀ w ∈ vm_xs, w.before args s = true :=
  List.forall_mem_cons.mpr ⟨vm_selp lw_p0.1 (hT _ (z_m1 (List.mem_of_getElem? (i := 98) rfl))) (hT _ lw_p0.2.1) (hT _ lw_p0.2.2.1) (hT _ lw_p0.2.2.2), List.forall_mem_cons.mpr ⟨vm_selp lw_p3.1 (hT _ (z_m1 (List.mem_of_getElem? (i := 98) rfl))) (hT _ lw_p3.2.1) (hT _ lw_p3.2.2.1) (hT _ lw_p3.2.2.2), List.forall_mem_cons.mpr ⟨vm_selp lw_p2.1 (hT _ (z_m1 (List.mem_of_getElem? (i := 98) rfl))) (hT _ lw_p2.2.1) (hT _ lw_p2.2.2.1) (hT _ lw_p2.2.2.2), List.forall_mem_cons.mpr ⟨vm_selp lw_p4.1 (hT _ (z_m1 (List.mem_of_getElem? (i := 98) rfl))) (hT _ lw_p4.2.1) (hT _ lw_p4.2.2.1) (hT _ lw_p4.2.2.2), fun _ h => absurd h List.not_mem_nil⟩⟩⟩⟩
theorem z_wt {args : Array Value} {s : State} (hts : ∀ w ∈ lw_tbl, w.before args s = true) : ∀ w ∈ vm_wt, w.before args s = true := by
  have hT : ∀ w ∈ tables_1, w.before args s = true := fun w hw => hts w (List.mem_append_right _ hw)
  intro w hw
  rcases List.mem_append.mp (List.mem_filter.mp hw).1 with h | h
  · exact z_xs hT w h
  · exact hts w h
/-- from the entry, for every script of at most 3072 ints, the law comes to its end with true -/
theorem whole_start {p : Program} {e : Env} {s : State} {m : MethodId} {below : List Frame} {meth : Method} {c : Code} (l : Launch) (hl : l.stackTraces = false) {b L : Nat} {xs : Nat → Int32} (hL : L ≤ 3072) (hx : p.tables.exec = Jvm.exec) (hcode : c.code = code) (hret : meth.sig.returnType = ret) (hml : c.maxLocals = 7) (hown : s.vm.findClass R_law = some m.cls) (hts : ∀ w ∈ lw_tbl, w.before #[Value.ref b] s = true) (hX : va_X b L xs s s.heap) (hbl : b < s.heap.size) (hlk : meth.locks = false) (hgv : (Jvm.Cond.and given_1 narrow_1).before #[Value.ref b] s = true) (hnm : meth.name = "law") (htb : c.exceptionTable.toList = []) : W p l e room_1 s m #[Value.ref b] below meth c s.heap [] 0 0 (lw_Z below #[Value.ref b] s) (entryFrame m ([Value.ref b] : List Value).toArray 7) := by
  have hT : ∀ w ∈ tables_1, w.before #[Value.ref b] s = true := fun w hw => hts w (List.mem_append_right _ hw)
  have hw := z_wt hts
  obtain ⟨G, f9, h9, g1, g2, g3, K⟩ := z_K (l := l) hT hw hgv hX hbl hL
  have I : vm_I G (vm_env l (z_O L xs) f9) (z_h L xs) s.heap := ⟨g1.symm, by show 0 < 1099511627776; decide, fun i hi => absurd hi (Nat.not_lt_zero i), fun i _ hi => by
    show (match Nat.ble 1099511627776 i with | true => z_O L xs (i - 1099511627776) | false => vm_no) = vm_no
    rw [show Nat.ble 1099511627776 i = false from by cases e : Nat.ble 1099511627776 i with | false => rfl | true => have := Nat.le_of_ble_eq_true e; omega], fun q _ => by rw [g3], fun k => z_h2 L xs k⟩
  have k := law_T (l := l) (O := z_O L xs) (f9 := f9) (h := z_h L xs) (t := z_t) (v := 0) (Q := fun r _ => r = some (.int 1)) hl h9 hL (fun _ => rfl) rfl (by decide) (z_SV L xs) (z_EV L xs) (z_RV L xs) (z_RT L xs) (z_gx L xs) (z_gy L xs) (z_h2 L xs 0)
  have X : vm_X G (vm_env l (z_O L xs) f9) p room_1 s m #[Value.ref b] meth c mL_law 601024 7293034 := ⟨hx, hcode, hml, hret, hlk, hnm, hown, hw, K, rfl, fun q _ => by rw [g3], by rw [g1]; exact Nat.le_refl _, htb⟩
  have hv := lv_entry ([Value.ref b]) (n := 7) (Nat.le_of_ble_eq_true rfl)
  have e1 : lv_args 0 [Value.ref b] = ([(0, Value.ref 1099511627776)] : vm_L).map (vm_q G) := by
    show [(0, Value.ref b)] = [(0, vm_v G (Value.ref (1099511627776 + 0)))]
    rw [z_ov, g2]
  rw [e1] at hv
  unfold vm_T at k
  have e2 : vm_thr mL_law.1 = false := rfl
  simp only [vm_tg_pl e2] at k
  rw [lg_entry_eq]
  intro T hT9 XX
  obtain ⟨t, a1, o, b1, b2, ⟨r, h', b3, b4, b5⟩, Lc, b6, b7⟩ := k G p e room_1 s m #[Value.ref b] below meth c s.heap [] 0 0 601024 7293034 _ X I (fun q hq => by cases hq) hv (Nat.le_refl _) (Nat.le_refl _) T hT9 XX
  subst b4
  subst b3
  exact ⟨t, a1, _, b1, b2, rfl, ⟨_, rfl⟩, b6.2.1, State.sameButNew.weaken b6.2.2 (fun x hx hlt => absurd hlt (Nat.not_lt.mpr (by rw [← g1]; exact b7 x hx))) (Nat.le_refl _) (Nat.le_refl _)⟩
theorem z_fl9 {l : Launch} (h : l.flags = flags0) : l.stackTraces = false := by
  unfold Launch.stackTraces
  rw [h]
  decide +kernel
set_option maxHeartbeats 4000000 in
theorem lw_walk (l : Launch) (hl : l.stackTraces = false) (b : Addr) (xs : List Int32) : MetFree l x (headSpec (Jvm.Cond.code x code maxLocals ret :: tables_1) room_1) (lw_P b xs) (fun _ _ _ _ _ => True) lw_Q := by
  refine MetFree.of_bodyS (code := code) (maxLocals := maxLocals) (ret := ret) (by decide) ?_ ?_
  · intro args s m h hn
    obtain ⟨meth, c, h1, h2, h3, h4, h5, h6, -, -⟩ := Cond.code_spec hn (atoms_spec (ws := Jvm.Cond.code x code maxLocals ret :: tables_1) h _ List.mem_cons_self)
    exact ⟨meth, c, h1, h2, h3, h4, h5, h6⟩
  · intro p e s m args below meth c s₁ B hml0 hP _
    obtain ⟨rfl, hx, hbd, hgv⟩ := hP
    obtain ⟨scr, harrAt, hlist, hof, hsmall⟩ := hx
    obtain ⟨hcb, hkn, -, -⟩ := State.arrayAt?_spec harrAt
    have hown : s.vm.findClass R_law = some m.cls := findClass_of_methodNamed B.named
    have hts0 : ∀ c ∈ (Jvm.Cond.code x code maxLocals ret :: tables_1), c.before #[Value.ref b] s = true := atoms_spec (ws := Jvm.Cond.code x code maxLocals ret :: tables_1) B.pre
    have hts : ∀ w ∈ lw_tbl, w.before #[Value.ref b] s = true := k2_hts_sels lw_privs (fun w hw => hts0 w (List.mem_cons_of_mem _ hw)) lw_privs_ok
    have hml : c.maxLocals = 7 := B.maxLocals_eq (hts0 _ List.mem_cons_self)
    have X₀ : Stand p l e room_1 s m #[Value.ref b] below meth c s₁ [] 0 0 := Stand.of_body B
    have hh0 : s₁.heap = s.heap := by rw [B.state]; rfl
    have hsz : scr.slots.size = xs.length := by rw [← Array.length_toList, hlist, List.length_map]
    have hval : ∀ j : Nat, j < xs.length → scr.slots[j]? = some (.int (xs.getD j 0)) := fun j hj => by
      rw [← Array.getElem?_toList, hlist]
      simp [hj]
    have hbl : b < s.heap.size := (Array.getElem?_eq_some_iff.mp hcb).1
    have hX : va_X b xs.length (fun j => xs.getD j 0) s s.heap := ⟨scr, hcb, hof, hkn, hsz, hval⟩
    have K : W p l e room_1 s m #[Value.ref b] below meth c s₁.heap [] 0 0 (lw_Z below #[Value.ref b] s) (entryFrame m ([Value.ref b] : List Value).toArray 7) := by
      rw [hh0]
      exact whole_start l hl hbd B.exec B.bytes B.returns hml hown hts hX hbl B.notSynchronized hgv (name_of_methodNamed B.named B.method).1 (vm_noT (y := mL_law) B.named B.method (Stand.of_body B).code (hts0 _ List.mem_cons_self))
    obtain ⟨t, a1, o, b1, b2, b3⟩ := K s₁ rfl X₀
    exact ⟨t, o, a1, b1, b2, b3⟩
theorem lw_pre_spec {args : Array Value} {s : State} (h : (Jvm.Cond.and given_1 narrow_1).before args s = true) (hr : rest_1_c.before args s = true) : ∃ (b : Addr) (xs : List Int32), lw_P b xs args s := by
  have hs := flat_of_before _ h
  have hq := flat_of_before _ hr
  have hc : (Cond.count 1).before args s = true := hs _ (by decide +kernel)
  have harr : (Cond.arrayOf (.arg 0) .int).before args s = true := hs _ (by decide +kernel)
  have hle : (Cond.le (.length (.arg 0)) (.int 3072)).before args s = true := hs _ (by decide +kernel)
  have hlen : (Cond.isInt (.length (.arg 0))).before args s = true := hq _ (by decide +kernel)
  have hall : (Cond.all (.arg 0) (.isInt (.elem (.arg 0) (.index 0)))).before args s = true := hq _ (by decide +kernel)
  obtain ⟨b, xs, hb, hx⟩ := State.ints_of_pre rfl harr hlen hall
  have hsm : xs.length < 2 ^ 31 := hx.choose_spec.2.2.2
  have hev : (Term.length (.arg 0)).eval args s none [] s = some (.int xs.length.toInt32) := hx.length_eval hb
  have hv := Cond.le_ints hev (show (Term.int 3072).eval args s none [] s = some (.int 3072) from rfl)
  have hd : xs.length.toInt32 ≤ 3072 := by
    simpa [Cond.before, Cond.holds, hv] using hle
  have hN : xs.length ≤ 3072 := (Int32.ofNat_le_ofNat hsm (by decide)).mp (show Int32.ofNat xs.length ≤ Int32.ofNat 3072 from hd)
  exact ⟨b, xs, Cond.one_arg hc (show args[0]? = some (.ref b) from hb), hx, hN, h⟩
theorem lw_comes (l : Launch) (hl : l.stackTraces = false) : Comes l x (Jvm.Cond.code x code maxLocals ret :: tables_1) room_1 (fun tb e args s => Calls_1 tb e args s ∧ rest_1 tb e args s ∧ Pre_1 tb e args s)
    (fun _ _ args s o t => lw_Q args s o t) := by
  intro p e ha hc hk s m args below hf hfit hheap happ hpre
  obtain ⟨b, xs, hP⟩ := lw_pre_spec hpre.2.2 hpre.2.1
  obtain ⟨k, o, h1, h2, h3, hQ⟩ := lw_walk l hl b xs p e ha hc hk s m args below hf ((Spec.applies_iff_loose hf).mp happ).1 hP trivial
  exact ⟨k, o, h1, h2, h3, hQ⟩
theorem lw_frame {s t : State} {o : Outcome} {args : Array Value} (h : Framed s o t [] 601024 7293034) :
    Framed s o t (fieldLocs frame_1_writes args s ++ arrayLocs frame_1_arrays args s ++ staticLocs frame_1_statics s) 601024 7293034 := h
theorem lw_limb (L : Cond) (hL : ∀ (args : Array Value) (s t : State), L.after args s (.returned (some (.int 1))) t = true) :
    ArmFor flags0 classFile x code maxLocals ret World_1 tables_1 room_1 Calls_1 rest_1 Pre_1
      (fun tb e a s o t => postC L tb e a s o t ∧ Framed s o t (fieldLocs frame_1_writes a s ++ arrayLocs frame_1_arrays a s ++ staticLocs frame_1_statics s) 601024 7293034) := by
  intro l hfl _ _ p e ha hc hk s m args below hf hfit hheap happ hpre
  obtain ⟨k, o, h1, h2, h3, rfl, hF⟩ := lw_comes l (z_fl9 hfl) p e ha hc hk s m args below hf hfit hheap happ hpre
  exact ⟨k, _, h1, h2, h3, hL args s _, lw_frame hF⟩
theorem i_vc : Claimed_1_1 ∧ Claimed_1_2 := ⟨lw_limb limb_1_1 (fun args s t => by simp [limb_1_1, Cond.after, Cond.holds, Cond.value]), lw_limb limb_1_2 (fun args s t => Cond.after_iff.mpr (by
  first | (rw [show limb_1_2 = Cond.eq .result (.int 1) from rfl, Cond.eq_ints (x := 1) (y := 1) rfl rfl]; simp; done) | (simp [limb_1_2, Cond.value, Term.eval]; done)))⟩
