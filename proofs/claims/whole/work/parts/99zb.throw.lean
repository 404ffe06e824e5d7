/-! an exception made and thrown: NoSuchElementException (its constructor passes on by another index than most) -/
def vm_ta : List Cond := [
  .initialized Bundle.tN, .instantiable Bundle.tN 6,
  .instanceMethod Bundle.tFill, .codeSync Bundle.tFill LibCode.Throwable.Fill.code 1 (some (.object Bundle.tN)), .instanceMethod Bundle.tFill0, .native Bundle.tFill0,
  .instanceMethod Bundle.tInit0, .code Bundle.tInit0 LibCode.Throwable.Init0.code 1 none, .instanceMethod Bundle.oInit, .code Bundle.oInit ⟨#[0xb1]⟩ 1 none,
  .methodLink Bundle.tN 1 Bundle.oInit, .methodLink Bundle.tN 27 Bundle.tFill, .methodLink Bundle.tN 202 Bundle.tFill0,
  .fieldLink Bundle.tN 7 Bundle.tN "cause" "Ljava/lang/Throwable;", .lays Bundle.tN Bundle.tN "cause" "Ljava/lang/Throwable;",
  .fieldLink Bundle.tN 17 Bundle.tN "stackTrace" Bundle.steD, .lays Bundle.tN Bundle.tN "stackTrace" Bundle.steD,
  .fieldLink Bundle.tN 24 Bundle.tN "suppressedExceptions" Bundle.listD, .lays Bundle.tN Bundle.tN "suppressedExceptions" Bundle.listD,
  .fieldLink Bundle.tN 13 Bundle.tN "UNASSIGNED_STACK" Bundle.steD, .laysStatic Bundle.tN "UNASSIGNED_STACK" Bundle.steD,
  .fieldLink Bundle.tN 20 Bundle.tN "SUPPRESSED_SENTINEL" Bundle.listD, .laysStatic Bundle.tN "SUPPRESSED_SENTINEL" Bundle.listD,
  .lays Bundle.tN Bundle.tN "detailMessage" "Ljava/lang/String;"]
theorem vm_tof {args : Array Value} {s : State} {pl : Platform} (howns : pl.frameOwnsMonitors = true) (hfin : pl.finalization = false) (hpl : pl.magicAccessors = ({} : Platform).magicAccessors)
    (h : ∀ c ∈ vm_ta, c.before args s = true) :
    ∃ (T : ThrowableC) (Z : Init0T), T.Links pl s ∧ Z.Laid T.toThrowableT ∧ Bundle.Ties T Z s := by
  have a : ∀ c, c ∈ vm_ta → c.holds args s none s [] = true := fun c hc => h c hc
  obtain ⟨⟨c, i0⟩, meth0, hn0, hm0, hnat0, hcode0, hlocks0, hsig0⟩ := Cond.native_spec (a (.native Bundle.tFill0) (by simp [vm_ta]))
  have hc : s.vm.findClass Bundle.tN = some c := findClass_of_methodNamed hn0
  obtain ⟨k, hk, hname⟩ := Vm.findClass_spec hc
  have hboot := Vm.findClass_boot hc hk
  have hinit := Cond.initialized_spec hc hk (a (.initialized Bundle.tN) (by simp [vm_ta]))
  obtain ⟨c1, k1, hc1, hk1, hord, hab9, -, -⟩ := Cond.instantiable_spec (a (.instantiable Bundle.tN 6) (by simp [vm_ta]))
  cases Option.some.inj (hc.symm.trans hc1)
  have e1 : k = k1 := Option.some.inj (hk.symm.trans hk1)
  subst e1
  have hni := (Bool.or_eq_false_iff.mp hab9).1
  obtain ⟨iF, methF, hnF, hmF, hatF, hstF, habF, -, -⟩ := Cond.ownMethod (x := Bundle.tFill) hc hk (a (.instanceMethod Bundle.tFill) (by simp [vm_ta]))
  obtain ⟨methF', cF, hmF', hcF, hbF, hlF, hrF, hlkF, -, hsigF⟩ := Cond.codeSync_spec hnF (a (.codeSync Bundle.tFill LibCode.Throwable.Fill.code 1 (some (.object Bundle.tN))) (by simp [vm_ta]))
  have e2 : methF = methF' := Option.some.inj (hmF.symm.trans hmF')
  subst e2
  obtain ⟨i0', meth0', hn0', hm0', hat0, hst0, hab0, hnm0, hds0⟩ := Cond.ownMethod (x := Bundle.tFill0) hc hk (a (.instanceMethod Bundle.tFill0) (by simp [vm_ta]))
  have e3 : i0 = i0' := by have := Option.some.inj (hn0.symm.trans hn0'); simpa using this
  subst e3
  have e4 : meth0 = meth0' := Option.some.inj (hm0.symm.trans hm0')
  subst e4
  obtain ⟨iZ, methZ, hnZ, hmZ, hatZ, -, -, -, -⟩ := Cond.ownMethod (x := Bundle.tInit0) hc hk (a (.instanceMethod Bundle.tInit0) (by simp [vm_ta]))
  obtain ⟨methZ', cZ, hmZ', hcZ, hbZ, hlZ, -, hlkZ, -, -⟩ := Cond.code_spec hnZ (a (.code Bundle.tInit0 LibCode.Throwable.Init0.code 1 none) (by simp [vm_ta]))
  have e5 : methZ = methZ' := Option.some.inj (hmZ.symm.trans hmZ')
  subst e5
  obtain ⟨mO, methO, hnO, hmO, hstO, habO⟩ := Cond.instanceMethod_spec (a (.instanceMethod Bundle.oInit) (by simp [vm_ta]))
  obtain ⟨methO', cO, hmO', hcO, hbO, hlO, -, hlkO, -, hsigO⟩ := Cond.code_spec hnO (a (.code Bundle.oInit ⟨#[0xb1]⟩ 1 none) (by simp [vm_ta]))
  have e6 : methO = methO' := Option.some.inj (hmO.symm.trans hmO')
  subst e6
  obtain ⟨kO, hkO, hnameO⟩ := Vm.findClass_spec (findClass_of_methodNamed hnO)
  obtain ⟨hnmO, hdsO⟩ := name_of_methodNamed hnO hmO
  obtain ⟨ci1, n1, cf, hl1, hr1, hcf, hp1⟩ := Cond.linkedMethod hc hk hnO (a (.methodLink Bundle.tN 1 Bundle.oInit) (by simp [vm_ta])) pl hpl
  obtain ⟨ci27, n27, cf', hl27, hr27, hcf', hp27⟩ := Cond.linkedMethod hc hk hnF (a (.methodLink Bundle.tN 27 Bundle.tFill) (by simp [vm_ta])) pl hpl
  have e7 : cf = cf' := Option.some.inj (hcf.symm.trans hcf')
  subst e7
  obtain ⟨ci202, n202, cf', hl202, hr202, hcf', hp202⟩ := Cond.linkedMethod hc hk hn0 (a (.methodLink Bundle.tN 202 Bundle.tFill0) (by simp [vm_ta])) pl hpl
  have e8 : cf = cf' := Option.some.inj (hcf.symm.trans hcf')
  subst e8
  obtain ⟨ci7, i7, f7, hk7, hg7, ha7, hs7, hf7, hn7, ht7, hff7⟩ := Cond.ownField (t := .object Bundle.tN) hc hk (by decide +kernel) (a (.fieldLink Bundle.tN 7 Bundle.tN "cause" "Ljava/lang/Throwable;") (by simp [vm_ta])) (a (.lays Bundle.tN Bundle.tN "cause" "Ljava/lang/Throwable;") (by simp [vm_ta])) pl hpl
  obtain ⟨ci17, i17, f17, hk17, hg17, ha17, hs17, hf17, hn17, ht17, hff17⟩ := Cond.ownField (t := .array (.object "java/lang/StackTraceElement")) hc hk (by decide +kernel) (a (.fieldLink Bundle.tN 17 Bundle.tN "stackTrace" Bundle.steD) (by simp [vm_ta])) (a (.lays Bundle.tN Bundle.tN "stackTrace" Bundle.steD) (by simp [vm_ta])) pl hpl
  obtain ⟨ci24, i24, f24, hk24, hg24, ha24, hs24, hf24, hn24, ht24, hff24⟩ := Cond.ownField (t := .object "java/util/List") hc hk (by decide +kernel) (a (.fieldLink Bundle.tN 24 Bundle.tN "suppressedExceptions" Bundle.listD) (by simp [vm_ta])) (a (.lays Bundle.tN Bundle.tN "suppressedExceptions" Bundle.listD) (by simp [vm_ta])) pl hpl
  obtain ⟨ci13, i13, f13, aS, cellS, hk13, hg13, ha13, hs13, -, -, hsta, hcellS, hissS, -, -, hff13⟩ := Cond.ownStatic (t := .array (.object "java/lang/StackTraceElement")) hc hk (by decide +kernel) (a (.fieldLink Bundle.tN 13 Bundle.tN "UNASSIGNED_STACK" Bundle.steD) (by simp [vm_ta])) (a (.laysStatic Bundle.tN "UNASSIGNED_STACK" Bundle.steD) (by simp [vm_ta])) pl hpl
  obtain ⟨ci20, i20, f20, _, _, hk20, hg20, ha20, hs20, -, -, -, -, -, -, -, hff20⟩ := Cond.ownStatic (t := .object "java/util/List") hc hk (by decide +kernel) (a (.fieldLink Bundle.tN 20 Bundle.tN "SUPPRESSED_SENTINEL" Bundle.listD) (by simp [vm_ta])) (a (.laysStatic Bundle.tN "SUPPRESSED_SENTINEL" Bundle.listD) (by simp [vm_ta])) pl hpl
  obtain ⟨_, _, cM, kM, iM, fM, _, _, hffM, hsM, hfM, _⟩ := Cond.lays_spec (a (.lays Bundle.tN Bundle.tN "detailMessage" "Ljava/lang/String;") (by simp [vm_ta]))
  have eM1 : c = cM := Option.some.inj (hc.symm.trans (Cond.lays_declared (a (.lays Bundle.tN Bundle.tN "detailMessage" "Ljava/lang/String;") (by simp [vm_ta])) hffM))
  subst eM1
  have eM2 : k = kM := Option.some.inj (hk.symm.trans (State.fieldFound?_spec hffM).1)
  subst eM2
  have htM := (State.fieldFound?_type hffM (t := .object "java/lang/String") (by decide +kernel)).2
  obtain ⟨_, _, _, _, _, g17, hc17, _, hgf17, _, _, _, _, d17, hd17, _, hdn17, _⟩ := Cond.lays_spec (a (.lays Bundle.tN Bundle.tN "stackTrace" Bundle.steD) (by simp [vm_ta]))
  obtain ⟨_, _, _, _, _, g24, hc24, _, hgf24, _, _, _, _, d24, hd24, _, hdn24, _⟩ := Cond.lays_spec (a (.lays Bundle.tN Bundle.tN "suppressedExceptions" Bundle.listD) (by simp [vm_ta]))
  have hapart : f17.slot ≠ f24.slot := by
    have x17 := Option.some.inj (hff17.symm.trans hgf17)
    have x24 := Option.some.inj (hff24.symm.trans hgf24)
    simp only [Prod.mk.injEq] at x17 x24
    obtain ⟨-, -, -, rfl⟩ := x17
    obtain ⟨-, -, -, rfl⟩ := x24
    cases Option.some.inj (hc17.symm.trans hc)
    cases Option.some.inj (hc24.symm.trans hc)
    intro he
    rw [he] at hd17
    cases Option.some.inj (hd17.symm.trans hd24)
    have : ("stackTrace" : String) = "suppressedExceptions" := by rw [← hn17, ← hn24, ← hdn17, ← hdn24]
    exact absurd this (by decide)
  have pF : methF.sig.parameters = [] := by
    have : (parseMethodDescriptor Bundle.tFill.desc).map (·.parameters) = some [] := by decide +kernel
    rw [hsigF] at this; simpa using this
  have p0 : meth0.sig.parameters = [.int] := by
    have : (parseMethodDescriptor Bundle.tFill0.desc).map (·.parameters) = some [.int] := by decide +kernel
    rw [hsig0] at this; simpa using this
  have pO : methO.sig.parameters.length = 0 := by
    have : (parseMethodDescriptor Bundle.oInit.desc).map (·.parameters) = some [] := by decide +kernel
    rw [hsigO] at this
    have : methO.sig.parameters = [] := by simpa using this
    rw [this]; rfl
  refine ⟨{ cT := c, kT := k, cO := c, aS := aS, fillIdx := iF, fill0Idx := i0, initSIdx := iZ, obj := mO, kObj := kO, methFill := methF, methFill0 := meth0, methInitS := methZ, methObj := methO, codeFill := cF, codeInitS := cZ, codeObj := cO,
              fBack := f7, fDepth := f7, fStack := f17, fCause := f7, fSupp := f24, fMsg := fM, fUnassigned := f13, fSentinel := f20, cfT := cf, ci1 := ci1, n1 := n1, ci27 := ci27, n27 := n27, ci202 := ci202, n202 := n202,
              ci7 := ci7, i7 := i7, ci13 := ci13, i13 := i13, ci17 := ci17, i17 := i17, ci20 := ci20, i20 := i20, ci24 := ci24, i24 := i24 }, { idx := iZ, meth := methZ, code := cZ }, ?_, ⟨hatZ, hcZ, hbZ, hlZ, hlkZ⟩,
    ⟨hc, hnF, hn0, hnZ, hlO, hord, hff7, hff17, hff24, hff13, hff20, ⟨iM, hffM⟩, htM, hn7, hn17, hn24, ht7, ht17, ht24, cellS, hcellS, hissS⟩⟩
  exact { owns := howns, noFinalization := hfin, cls := hk, name := hname, boot := hboot, notInterface := hni, initialized := hinit, statics := hsta,
          fillAt := hatF, fillCode := hcF, fillBytes := hbF, fillLocals := hlF, fillLocks := hlkF, fillStatic := hstF, fillAbstract := habF, fillReturns := hrF, fillParams := pF,
          fill0At := hat0, fill0Name := hnm0, fill0Desc := hds0, fill0Params := p0, fill0Static := hst0, fill0Native := hnat0, fill0Code := hcode0, fill0Locks := hlocks0, fill0Abstract := hab0,
          stackInstance := hs17, stackNotFinal := hf17, unassignedStatic := hs13,
          objClass := hkO, objClassName := hnameO, objMethod := hmO, objName := hnmO, objStatic := hstO, objAbstract := habO, objFound := by rw [hdsO]; exact lookupSpecial_of_named hnO hmO hstO, objParams := pO,
          objCode := hcO, objBytes := hbO, objLocks := hlkO, causeInstance := hs7, causeNotFinal := hf7, sentinelStatic := hs20, suppInstance := hs24, suppNotFinal := hf24, msgInstance := hsM, msgNotFinal := hfM, stackApartSupp := hapart,
          file := hcf, mlink1 := hl1, mright1 := hr1, pool1 := hp1, mlink27 := hl27, mright27 := hr27, pool27 := hp27, mlink202 := hl202, mright202 := hr202, pool202 := hp202,
          link7 := hk7, right7 := hg7, at7 := ha7, link13 := hk13, right13 := hg13, at13 := ha13, link17 := hk17, right17 := hg17, at17 := ha17, link20 := hk20, right20 := hg20, at20 := ha20, link24 := hk24, right24 := hg24, at24 := ha24 }
def vm_chA (X : String) (ix : Nat) (rx : ByteArray) : List String → List Cond
  | [] => Bundle.passSAtoms X Bundle.tN ix rx
  | Y :: r => Bundle.passSAtoms X Y ix rx ++ Bundle.chainSAtoms Y r
theorem vm_chX {args : Array Value} {s : State} {pl : Platform} (hpl : pl.magicAccessors = ({} : Platform).magicAccessors) {top : MethodId} (htop : s.methodNamed? (Bundle.initS Bundle.tN) = some top)
    {ix : Nat} {rx : ByteArray} (x0 : decode rx 0 = .ok (.aload_n 0, 1)) (x1 : decode rx 1 = .ok (.aload_n 1, 1)) (x2 : decode rx 2 = .ok (.invokespecial ix, 3)) (x5 : decode rx 5 = .ok (.return_, 1)) :
    ∀ (names : List String) (X : String), Bundle.fit X = true → (∀ n ∈ names, Bundle.fit n = true) → (∀ c ∈ vm_chA X ix rx names, c.before args s = true) →
      ∃ (P1 : PassC) (Ps : List PassC), Ps.length = names.length ∧ P1.LinksS pl s ∧ (∀ P, P ∈ Ps → P.LinksS pl s) ∧ s.methodNamed? (Bundle.initS X) = some P1.m ∧
        P1.sup = firstOf top (Ps.map (·.toPassT)) ∧ PassesOn top (Ps.map (·.toPassT)) := by
  intro names
  cases names with
  | nil =>
    intro X hX _ h
    obtain ⟨P, L, hm, hs⟩ := PassC.ofS_atoms (args := args) (s := s) hpl (X := X) (Y := Bundle.tN) (Bundle.fit_spec hX).1 (by decide) x0 x1 x2 x5 h
    exact ⟨P, [], rfl, L, (fun _ hP => by cases hP), hm, Option.some.inj (hs.symm.trans htop), trivial⟩
  | cons Y r =>
    intro X hX hn h
    obtain ⟨P, L, hm, hs⟩ := PassC.ofS_atoms (args := args) (s := s) hpl (X := X) (Y := Y) (Bundle.fit_spec hX).1 (Bundle.fit_spec (hn Y List.mem_cons_self)).2 x0 x1 x2 x5
      (fun c hc => h c (by simp only [vm_chA, List.mem_append]; exact Or.inl hc))
    obtain ⟨P', Ps, hlen, L', hL, hm', hsup, hpass⟩ := Bundle.chainS (args := args) hpl htop r Y (hn Y List.mem_cons_self) (fun n hn' => hn n (List.mem_cons_of_mem _ hn')) (fun c hc => h c (by simp only [vm_chA, List.mem_append]; exact Or.inr hc))
    refine ⟨P, P' :: Ps, by simp [hlen], L, ?_, hm, Option.some.inj (hs.symm.trans hm'), hsup, hpass⟩
    intro Q hQ
    rcases List.mem_cons.mp hQ with rfl | hQ
    · exact L'
    · exact hL Q hQ
def vm_oa (own : String) (ic : Nat) (X : String) (ix : Nat) (rx : ByteArray) (names : List String) : List Cond :=
  vm_ta ++ Bundle.throwableSAtoms ++ vm_chA X ix rx names ++
  [.methodLink own ic (Bundle.initS X), .instantiable X 6, .castable X X, .selects X Bundle.tFill0 Bundle.tFill0, .selects X Bundle.tFill Bundle.tFill,
   .lays X Bundle.tN "cause" "Ljava/lang/Throwable;", .lays X Bundle.tN "stackTrace" Bundle.steD, .lays X Bundle.tN "suppressedExceptions" Bundle.listD, .lays X Bundle.tN "detailMessage" "Ljava/lang/String;",
   .isRef (.static Bundle.tN "UNASSIGNED_STACK" Bundle.steD), .isRef (.static Bundle.tN "SUPPRESSED_SENTINEL" Bundle.listD),
   .fieldLink Bundle.tN 198 Bundle.tN "backtrace" "Ljava/lang/Object;", .lays Bundle.tN Bundle.tN "backtrace" "Ljava/lang/Object;", .lays X Bundle.tN "backtrace" "Ljava/lang/Object;"]
section
variable {p : Program} {l : Launch} {e : Env} {R : Room} {s : State} {m₀ : MethodId} {args : Array Value} {below : List Frame} {meth : Method} {c : Code} {W : State} {locs : List Loc} {cells slots : Nat}
set_option maxHeartbeats 1000000 in
theorem vm_ctor (X : Stand p l e R s m₀ args below meth c W locs cells slots) (hexec : p.tables.exec = Jvm.exec) (htr : e.platform.stackTraces = false) {own cls : String} {names : List String} {ic ix : Nat} {rx : ByteArray}
    (x0 : decode rx 0 = .ok (.aload_n 0, 1)) (x1 : decode rx 1 = .ok (.aload_n 1, 1)) (x2 : decode rx 2 = .ok (.invokespecial ix, 3)) (x5 : decode rx 5 = .ok (.return_, 1))
    (hown : s.vm.findClass own = some m₀.cls) (hcls : Bundle.fit cls = true) (hnames : ∀ n ∈ names, Bundle.fit n = true)
    (h : ∀ a ∈ vm_oa own ic cls ix rx names, a.before args s = true)
    (hlocs : ∀ x ∈ locs, ∀ cell, s.heap[x.base]? = some cell → cell.vm.isStatics = false)
    {a : Addr} {cX : ClassId} {kX : Class} (hfoundX : s.vm.findClass cls = some cX) (hkX : s.vm.classes[cX]? = some kX) (hcell : W.heap[a]? = some (freshCell cX kX)) (hnew : s.heap.size ≤ a)
    {msg : Value} (hmsg : msg.isRef = true)
    {g : JFrame} (hg : g.method = m₀) (hsize : g.locals.size = c.maxLocals) (hlocked : g.locked = none) (hentered : g.entered = []) {rest : List Value} (hstack : g.stack = msg :: .ref a :: .ref a :: rest)
    (hd6 : decode c.code g.pc = .ok (.invokespecial ic, 3)) (hd9 : decode c.code (g.pc + 3) = .ok (.athrow, 1)) (hout : ∀ x ∈ c.exceptionTable.toList, covers x (g.pc + 3) = false)
    (hRframes : names.length + 3 < R.frames) (hRlocals : 2 * g.monitorRoom + ((Value.ref a :: rest).map fun v => v.category).sum + (13 * (names.length + 1) + 42) ≤ R.locals) (hlocks : meth.locks = false) :
    ∃ U : State, Steps p.tables e below (W.setTop g) U ∧ U.status = .running ∧ Ended U below (.threw a) ∧ s.WarmedH U.vm ∧ s.sameButNew ({ U with vm := s.vm } : State) locs cells slots ∧
      ∃ ce, U.heap[a]? = some ce ∧ s.vm.findClass cls = some ce.cls ∧ ce.vm = .none := by
  have howns : e.platform.frameOwnsMonitors = true := by rw [X.admits.platform]
  have hfin : e.platform.finalization = false := by rw [X.admits.platform]
  have hpl : e.platform.magicAccessors = ({} : Platform).magicAccessors := by rw [X.admits.platform]
  have a' : ∀ x, x ∈ vm_oa own ic cls ix rx names → x.holds args s none s [] = true := fun x hx => h x hx
  obtain ⟨T, Z0, L, -, Y⟩ := vm_tof (args := args) howns hfin hpl (fun x hx => h x (by simp [vm_oa, hx]))
  obtain ⟨Z, M, LZ, LM, hnZ⟩ := Init0T.ofS_atoms (args := args) hpl L Y (fun x hx => h x (by simp [vm_oa, hx]))
  obtain ⟨P1, Ps, hlen, L1, hL, hP1m, hlink1, hlink⟩ := vm_chX (args := args) hpl hnZ x0 x1 x2 x5 names cls hcls hnames (fun x hx => h x (by simp [vm_oa, hx]))
  have hfound : s.vm.findClass cls = some P1.m.cls := findClass_of_methodNamed hP1m
  cases Option.some.inj (hfoundX.symm.trans hfound)
  obtain ⟨c1, kX', hc1, hk, hord, -, -, hn6⟩ := Cond.instantiable_spec (a' (.instantiable cls 6) (by simp [vm_oa]))
  cases Option.some.inj (hc1.symm.trans hfound)
  cases Option.some.inj (hkX.symm.trans hk)
  have hsel0 : selectMethod e.platform s.vm P1.m.cls T.fill0 = .method T.fill0 := by
    obtain ⟨c2, r2, m2, q1, q2, q3, q4, -⟩ := Cond.selects_spec (a' (.selects cls Bundle.tFill0 Bundle.tFill0) (by simp [vm_oa]))
    cases Option.some.inj (q1.symm.trans hfound)
    cases Option.some.inj (q2.symm.trans (State.methodFound?_of_named Y.fill0 (by decide)))
    cases Option.some.inj (q3.symm.trans Y.fill0)
    rw [Launch.admits_selectMethod X.admits]; exact q4
  have hselF : selectMethod e.platform s.vm P1.m.cls T.fill = .method T.fill := by
    obtain ⟨c2, r2, m2, q1, q2, q3, q4, -⟩ := Cond.selects_spec (a' (.selects cls Bundle.tFill Bundle.tFill) (by simp [vm_oa]))
    cases Option.some.inj (q1.symm.trans hfound)
    cases Option.some.inj (q2.symm.trans (State.methodFound?_of_named Y.fill (by decide)))
    cases Option.some.inj (q3.symm.trans Y.fill)
    rw [Launch.admits_selectMethod X.admits]; exact q4
  obtain ⟨cellS0, hcS0, hiss⟩ := Y.statics
  obtain ⟨u0, hu0⟩ := Cond.staticRefV Y.unassigned L.unassignedStatic L.statics hcS0 hiss (a' (.isRef (.static Bundle.tN "UNASSIGNED_STACK" Bundle.steD)) (by simp [vm_oa]))
  obtain ⟨sen, hsen⟩ := Cond.staticRefV Y.sentinel L.sentinelStatic L.statics hcS0 hiss (a' (.isRef (.static Bundle.tN "SUPPRESSED_SENTINEL" Bundle.listD)) (by simp [vm_oa]))
  obtain ⟨ci198, i198, fB, hk198, hg198, ha198, hsB, -, hnB, htB, hffB⟩ := Cond.ownField (t := .object "java/lang/Object") Y.found L.cls (by decide +kernel) (a' (.fieldLink Bundle.tN 198 Bundle.tN "backtrace" "Ljava/lang/Object;") (by simp [vm_oa])) (a' (.lays Bundle.tN Bundle.tN "backtrace" "Ljava/lang/Object;") (by simp [vm_oa])) e.platform hpl
  obtain ⟨cellS, hcS', heS, -, hkeep⟩ := X.same.2.2.2.2.2 T.aS cellS0 hcS0
  have hcellS : W.heap[T.aS]? = some cellS := hcS'
  have hout' : ∀ i, (⟨T.aS, i⟩ : Loc) ∉ locs := fun i hmem => by
    have := hlocs _ hmem cellS0 hcS0
    rw [hiss] at this; cases this
  have hknownS : cellS.vm ≠ .unknown := by
    rw [heS]; intro hu
    rw [show cellS0.vm = .unknown from hu] at hiss
    cases hiss
  have hneS : T.aS ≠ a := Nat.ne_of_lt (Nat.lt_of_lt_of_le (Array.getElem?_eq_some_iff.mp hcS0).1 hnew)
  obtain ⟨iM, hffM⟩ := Y.msg
  obtain ⟨tyC, dC, hdC, hdnC⟩ := Cond.laysAt hfound hk Y.cause (a' (.lays cls Bundle.tN "cause" "Ljava/lang/Throwable;") (by simp [vm_oa]))
  obtain ⟨tyS, dS, hdS, hdnS⟩ := Cond.laysAt hfound hk Y.stack (a' (.lays cls Bundle.tN "stackTrace" Bundle.steD) (by simp [vm_oa]))
  obtain ⟨tyP, dP, hdP, hdnP⟩ := Cond.laysAt hfound hk Y.supp (a' (.lays cls Bundle.tN "suppressedExceptions" Bundle.listD) (by simp [vm_oa]))
  obtain ⟨tyM, dM, hdM, hdnM⟩ := Cond.laysAt hfound hk hffM (a' (.lays cls Bundle.tN "detailMessage" "Ljava/lang/String;") (by simp [vm_oa]))
  obtain ⟨tyB, dB, hdB, hdnB⟩ := Cond.laysAt hfound hk hffB (a' (.lays cls Bundle.tN "backtrace" "Ljava/lang/Object;") (by simp [vm_oa]))
  have bC := Cond.laysApart hdB hdC hdnB hdnC (by rw [hnB, Y.causeName]; decide)
  have bS := Cond.laysApart hdB hdS hdnB hdnS (by rw [hnB, Y.stackName]; decide)
  have bP := Cond.laysApart hdB hdP hdnB hdnP (by rw [hnB, Y.suppName]; decide)
  have hskip : SkipFacts T e.platform s (fun u => u) u0 ((preparedCellV T.toThrowableT (freshCell P1.m.cls kX) a u0 sen).withEntry W.cur) :=
    ⟨{ ci198 := ci198, i198 := i198, fBack := fB }, ⟨hk198, hg198, ha198, hsB⟩, by
      have := fresh_default (c := P1.m.cls) tyB
      rw [htB] at this
      simpa [preparedCellV, Cell.setSlot, Cell.withEntry, Array.getElem?_setIfInBounds, bC, bS, bP, bC.symm, bS.symm, bP.symm, defaultValue] using this, fun _ _ => rfl⟩
  obtain ⟨tm, methC, cdC, kC, vm₁, hnC, -, -, -, -, -, -, -, hW₁, st1⟩ := Steps.initColdS (tb := p.tables) (e := e) (below := below) (s := s) (U := W) X.here hexec X.warmed hpl hown (t := Bundle.initS cls) rfl rfl (Bundle.fit_spec hcls).2
    (a' (.methodLink own ic (Bundle.initS cls)) (by simp [vm_oa])) (h (.instanceMethod (Bundle.initS cls)) (by cases names <;> simp [vm_oa, vm_chA, Bundle.passSAtoms])) (bytes := rx) (maxL := 2) (h (.code (Bundle.initS cls) rx 2 none) (by cases names <;> simp [vm_oa, vm_chA, Bundle.passSAtoms]))
    (f := g) hg (a := a) (msg := msg) (rest := .ref a :: rest) hstack hd6
  cases Option.some.inj (hnC.symm.trans hP1m)
  have X₁ := X.noted hW₁
  obtain ⟨vm₂, X₂, st2⟩ := X₁.ctorMessageOffV hexec (g := { g with stack := .ref a :: rest }) hg hsize T L Z LZ M LM (P1 :: Ps)
    (fun P hP => by rcases List.mem_cons.mp hP with rfl | hP; exact L1; exact hL P hP) ⟨hlink1, hlink⟩ (u0 := u0) (sen := sen) (self := a) hmsg (cell := freshCell P1.m.cls kX) (cellS := cellS)
    hcell (fun _ => by simp) (by simp) rfl rfl hsel0 hselF hcellS hneS hknownS (by rw [hkeep _ (hout' _)]; exact hu0) (by rw [hkeep _ (hout' _)]; exact hsen)
    (Takes.of_laid hk hord tyC (by rw [Y.causeType]; rfl)) (Takes.of_laid hk hord tyS (by rw [Y.stackType]; exact fits_refV_array _ u0)) (Takes.of_laid hk hord tyP (by rw [Y.suppType]; exact fits_refV_object _ sen))
    (Takes.of_laid hk hord tyM (by rw [Y.msgType]; exact fits_refV_object _ ⟨msg, hmsg⟩)) Y.objLocals hskip htr [] hd6
    (by simp only [List.length_cons, hlen]; omega) (by simp only [List.length_cons, hlen]; exact hRlocals)
  obtain ⟨hwalk, hrun, hended, hWU, hsame⟩ := X₂.athrowLeaves hexec (g := { g with stack := .ref a :: rest, pc := g.pc + 3 }) hg hlocked hentered hout (a := a) (rest := rest) rfl hd9
  obtain ⟨c3, c4, hc3, hc4, hasg⟩ := Cond.castable_spec (a' (.castable cls cls) (by simp [vm_oa]))
  cases Option.some.inj (hc3.symm.trans hfound)
  cases Option.some.inj (hc4.symm.trans hfound)
  have hlt : a < ((W.setVm vm₁).setVm vm₂).heap.size := (Array.getElem?_eq_some_iff.mp hcell).1
  have hU := heapAt_setCell_self (s := (W.setVm vm₁).setVm vm₂) (plainBareV T.toThrowableT (freshCell P1.m.cls kX) a u0 sen msg) hlt
  refine ⟨_, st1 _ (fun acts => ?_), hrun, hended, hWU, hsame.weaken (fun y hy hlt' => ?_) (Nat.le_refl _) (Nat.le_refl _), _, hU, ?_⟩
  · rw [doInvoke_state]
    exact st2 _ hwalk
  · rcases List.mem_append.mp hy with h1 | h1
    · exact h1
    · exfalso
      have hb : y.base = a := by
        simp only [List.mem_cons, List.not_mem_nil, or_false] at h1
        rcases h1 with rfl | rfl | rfl | rfl | rfl <;> rfl
      rw [hb] at hlt'
      exact Nat.not_lt.mpr hnew hlt'
  · exact ⟨hfound, rfl⟩
end
section
variable {p : Program} {l : Launch} {e : Env} {R : Room} {s : State} {m : MethodId} {args : Array Value} {below : List Frame} {meth : Method} {c : Code} {H : Heap} {locs : List Loc} {cells slots : Nat} {Q : State → Prop}
variable {free : Addr → Prop} {ls : Array Slot} {rest : List Value}
variable {Qc : Array Value → State → Outcome → State → Prop} {XC : String → State → State → Prop}
theorem vm_throwX {cc : ByteArray} {pc : Nat} (hexec : p.tables.exec = Jvm.exec) (hb : c.code = cc) (hl : l.stackTraces = false) {own cls text : String} {names : List String} {ik is ic ix mc ms sa : Nat} {rx : ByteArray}
    (x0 : decode rx 0 = .ok (.aload_n 0, 1)) (x1 : decode rx 1 = .ok (.aload_n 1, 1)) (x2 : decode rx 2 = .ok (.invokespecial ix, 3)) (x5 : decode rx 5 = .ok (.return_, 1)) {A : Nat → Prop}
    (hown : s.vm.findClass own = some m.cls) (hcls : Bundle.fit cls = true) (hnames : ∀ n ∈ names, Bundle.fit n = true)
    (hk : (Cond.classLink own ik cls).before args s = true) (hini : (Cond.initialized cls).before args s = true) (hstr : vk_R own is text sa s) (hat : ∀ w ∈ (vm_oa own ic cls ix rx names).filter vx_no, w.before args s = true)
    (hgood : ∀ w ∈ Cond.classLink own ik cls :: Cond.initialized cls :: (vm_oa own ic cls ix rx names).filter vx_no, vx_ot w = true)
    (hU : vx_Zq Bundle.tN "UNASSIGNED_STACK" Bundle.steD A s s.heap) (hN : vx_Zq Bundle.tN "SUPPRESSED_SENTINEL" Bundle.listD A s s.heap) (hS : va_S A s.heap H locs) (hsize : ls.size = c.maxLocals)
    (d0 : decode cc pc = .ok (.new ik, 3)) (d3 : decode cc (pc + 3) = .ok (.dup, 1)) (d4 : decode cc (pc + 4) = .ok (.ldc is, 2)) (d6 : decode cc (pc + 6) = .ok (.invokespecial ic, 3)) (d9 : decode cc (pc + 9) = .ok (.athrow, 1))
    (hout : ∀ x ∈ c.exceptionTable.toList, covers x (pc + 9) = false)
    (hRframes : names.length + 3 < R.frames) (hRlocals : (rest.map fun v => v.category).sum + (13 * (names.length + 1) + 43) ≤ R.locals) (hRcells : cells + 1 ≤ R.cells) (hRslots : slots + 6 ≤ R.slots) (hlocks : meth.locks = false)
    (hx : ∀ (t : State) (ce : Cell), s.vm.Alike t.vm → t.heap.size = H.size + 1 → (∀ q : Nat, q < H.size → t.heap[q]? = H[q]?) → t.heap[H.size]? = some ce → ce.vm = .none → s.vm.findClass cls = some ce.cls → XC cls s t)
    (hf : ∀ z ∈ locs, free z.base) (hc : cells + 1 ≤ mc) (hs : slots + 6 ≤ ms) :
    W p l e R s m args below meth c H locs cells slots (vx_MQ below Qc XC args s mc ms free) (F0 m pc ls rest) := by
  intro T hT X
  have htr : e.platform.stackTraces = false := (show e.platform.stackTraces = l.stackTraces by rw [X.admits.platform]).trans hl
  have Y := vx_rebase X (R' := { frames := R.frames, locals := R.locals, cells := 1, slots := 6 }) (Nat.le_refl _) (Nat.le_refl _) hRcells hRslots
  obtain ⟨s', hA⟩ : ∃ z, z = (T.setVm s.vm).setFrames (.invoking m args :: below) := ⟨_, rfl⟩
  rw [← hA] at Y
  have hvm : s'.vm = s.vm := by rw [hA]; rfl
  have hhp : s'.heap = H := by rw [hA]; exact hT
  have hW0 : s.WarmedH s'.vm := by rw [hvm]; exact State.WarmedH.refl s
  have hat' : ∀ w ∈ (vm_oa own ic cls ix rx names).filter vx_no, w.before args s' = true := fun w hw => vx_ot_at hW0 hvm.symm (hgood w (List.mem_cons_of_mem _ (List.mem_cons_of_mem _ hw))) (hat w hw)
  have hk' : (Cond.classLink own ik cls).before args s' = true := vx_ot_at hW0 hvm.symm (hgood _ List.mem_cons_self) hk
  have hini' : (Cond.initialized cls).before args s' = true := vx_ot_at hW0 hvm.symm (hgood _ (List.mem_cons_of_mem _ List.mem_cons_self)) hini
  have hU' : vx_Zq Bundle.tN "UNASSIGNED_STACK" Bundle.steD A s' s'.heap := by rw [hhp]; exact vx_Zq.moved hW0.alike (hU.kept hS.2.1)
  have hN' : vx_Zq Bundle.tN "SUPPRESSED_SENTINEL" Bundle.listD A s' s'.heap := by rw [hhp]; exact vx_Zq.moved hW0.alike (hN.kept hS.2.1)
  have h : ∀ w ∈ vm_oa own ic cls ix rx names, w.before args s' = true := vx_own hat' (vx_isRefq hU'.1) (vx_isRefq hN'.1) hU'.2.word hN'.2.word
  have hown' : s'.vm.findClass own = some m.cls := by rw [hvm]; exact hown
  have hins : (Cond.instantiable cls 6).before args s' = true := h _ (by simp [vm_oa])
  obtain ⟨vm₁, cX, kX, hfX, hkX, -, -, X₁, st1⟩ := Y.newCold hexec (own := own) (C := cls) (index := ik) (n := 6) hown' hk' hins hini'
    (g := F0 m pc ls rest) rfl (by rw [hb]; exact d0) (Nat.le_refl _) (Nat.le_refl _)
  generalize hT1 : (T.setVm vm₁).pushCell { cls := cX, slots := kX.instanceTypes.map defaultValue, vm := .none } = T1 at X₁ st1
  have hcat : (Value.ref T.heap.size).category = 1 := rfl
  have hcellA : T1.heap[T.heap.size]? = some (freshCell cX kX) := by rw [← hT1]; exact State.heap_pushCell_size _ _
  have d3' : decode c.code (pc + 3) = .ok (.dup, 1) := by rw [hb]; exact d3
  have d4' : decode c.code (pc + 4) = .ok (.ldc is, 2) := by rw [hb]; exact d4
  have hstr' : vk_R own is text sa s' := vk_R.warm hW0 hstr
  obtain ⟨U, hsteps, hrun, hend, hW, hsame, ce, hce, hOc, hOv⟩ := vm_ctor X₁ hexec htr x0 x1 x2 x5 (own := own) (cls := cls) (names := names) (ic := ic) hown' hcls hnames h (fun x hx => nomatch hx) hfX hkX hcellA (by rw [hhp, hT]; exact Nat.le_refl _) (msg := .ref sa) rfl
    (g := { method := m, pc := pc + 6, locals := ls, stack := .ref sa :: .ref T.heap.size :: .ref T.heap.size :: rest, locked := none }) rfl hsize rfl rfl (rest := rest) rfl
    (by rw [hb]; exact d6) (by rw [hb]; exact d9) hout hRframes (by simp only [List.map_cons, List.sum_cons, hcat]; omega) hlocks
  obtain ⟨f1, f2⟩ := vx_frame hsame
  rw [hhp] at f1 f2
  have z1 : U.heap.size ≤ H.size + 1 := by have z := hsame.2.2.1; rw [hhp] at z; exact z
  have hce9 : U.heap[H.size]? = some ce := by rw [← hT]; exact hce
  have z2 : H.size < U.heap.size := (Array.getElem?_eq_some_iff.mp hce9).1
  have hWs : s.WarmedH U.vm := State.WarmedH.trans hW0 hW
  have hcl : s.vm.findClass cls = some ce.cls := by
    have h9 := hOc
    rw [hvm] at h9
    exact h9
  have hall : s.sameButNew ({ U with vm := s.vm } : State) locs mc ms := by
    subst hA
    obtain ⟨e1, e2⟩ := hsame
    rw [State.setFrames_setFrames] at e1
    have h2 : (T.setVm s.vm).sameButNew ({ U with vm := s.vm } : State) [] (0 + 1) (0 + 6) := ⟨e1, e2⟩
    have h3 := X.same.trans h2
    rw [List.append_nil] at h3
    exact h3.mono hc hs
  refine ⟨U, ?_, .threw T.heap.size, hrun, hend, Or.inr ⟨T.heap.size, rfl, cls, ce, locs, hx U ce hWs.alike (by omega) (fun q hq => f2 q hq (fun z hz => nomatch hz)) hce9 hOv hcl, hce, hOv, hcl, hWs, hall, hf⟩⟩
  refine st1 _ ?_
  show Steps p.tables e below (T1.setTop { method := m, pc := pc + 3, locals := ls, stack := .ref T.heap.size :: rest, locked := none }) _
  jvm_step X₁.here [X₁.here.top, hexec, d3', Value.category]
  exact X₁.ldcString hexec (own := own) (text := text) (index := is) (a := sa) hown' hstr'.1 hstr'.2
    (g := { method := m, pc := pc + 4, locals := ls, stack := .ref T.heap.size :: .ref T.heap.size :: rest, locked := none }) rfl d4' _ hsteps
end
/-! throwing, a contract that may throw, the wrappers that catch -/
def vm_nse : String := "java/util/NoSuchElementException"
theorem vm_tg_th {G : vm_G} {E : vm_E} {y : vm_M} {Q : Option Value → vm_H → Prop} {below : List Frame} {args : Array Value} {s : State} {mc ms : Nat} (h : vm_thr y.1 = true) : vm_tg G E y Q below args s mc ms = vx_MQ below (vm_Q G E (vm_Qn Q)) (vm_XQ G E Q) args s mc ms (fun q => G.1 ≤ q) := by
  unfold vm_tg
  rw [h]
section
variable {E : vm_E} {y z : vm_M} {kc ks kc' ks' pc : Nat} {lv : vm_L} {st As : List Value} {h : vm_H} {Q Q' : Option Value → vm_H → Prop}
theorem vm_r_throw {ik is ic ix id : Nat} {rx : ByteArray} {tx : String} {names : List String} {T0 : u_T} (hth : vm_thr y.1 = true) (hhh : vm_hh y.1 = []) (hst : E.1.stackTraces = false)
    (x0 : decode rx 0 = .ok (.aload_n 0, 1)) (x1 : decode rx 1 = .ok (.aload_n 1, 1)) (x2 : decode rx 2 = .ok (.invokespecial ix, 3)) (x5 : decode rx 5 = .ok (.return_, 1))
    (d0 : decode y.2.1 pc = .ok (.new ik, 3)) (d3 : decode y.2.1 (pc + 3) = .ok (.dup, 1)) (d4 : decode y.2.1 (pc + 4) = .ok (.ldc is, 2)) (d6 : decode y.2.1 (pc + 6) = .ok (.invokespecial ic, 3)) (d9 : decode y.2.1 (pc + 9) = .ok (.athrow, 1))
    (hcls : E.2.1[15]? = some ("java/util/NoSuchElementException", T0, 0)) (hfit : Bundle.fit "java/util/NoSuchElementException" = true) (hnames : ∀ n ∈ names, Bundle.fit n = true)
    (hk : Jvm.Cond.classLink y.1.cls ik "java/util/NoSuchElementException" ∈ E.2.2.2.1) (hini : Jvm.Cond.initialized "java/util/NoSuchElementException" ∈ E.2.2.2.1) (hr : (y.1.cls, is, tx, id) ∈ E.2.2.2.2.2.2)
    (hat : ∀ (args : Array Value) (s : State), (∀ w ∈ E.2.2.2.1, w.before args s = true) → ∀ w ∈ (vm_oa y.1.cls ic "java/util/NoSuchElementException" ix rx names).filter vx_no, w.before args s = true)
    (hgood : ∀ w ∈ Cond.classLink y.1.cls ik "java/util/NoSuchElementException" :: Cond.initialized "java/util/NoSuchElementException" :: (vm_oa y.1.cls ic "java/util/NoSuchElementException" ix rx names).filter vx_no, vx_ot w = true)
    (hfr : names.length + 3 < y.2.2.2.2.1) (hlo : 13 * (names.length + 1) + 43 ≤ y.2.2.2.2.2) (hkc : 1 ≤ kc) (hks : 6 ≤ ks) (hlt : h.1 + 1 < 1099511627776)
    (hq : Q (some (.retAddr 77)) (vm_nw h (.inr (15, [])))) : vm_T E y kc ks pc lv [] h Q := by
  intro G p e R s m args below meth c H locs cells slots mc ms ls X I hL hl hc hs
  have K := X.2.2.2.2.2.2.2.2.1
  have hts := X.2.2.2.2.2.2.2.1
  have hR := X.2.2.2.2.2.2.2.2.2.1
  have hold := X.2.2.2.2.2.2.2.2.2.2.1
  have htb := X.2.2.2.2.2.2.2.2.2.2.2.2
  have eA : vm_ad G h.1 = H.size := by unfold vm_ad; rw [if_pos (by omega), I.1]
  rw [vm_tg_th hth]
  have kk : ∀ C n d, vx_Zq C n d (fun q => G.1 ≤ q) s G.2.2.2.2 → vx_Zq C n d (fun q => G.1 ≤ q) s s.heap := fun C n d q => q.kept (fun a _ ha => hold a (Nat.not_le.mp ha))
  intro T hT XX
  obtain ⟨f1, f2⟩ := vx_frame XX.same
  rw [hT] at f1 f2
  have hS : va_S (fun q => G.1 ≤ q) s.heap H locs := ⟨f1, fun q hq hA => f2 q hq (fun z hz e9 => hA (e9 ▸ hL z hz)), hL⟩
  have hx : ∀ (t : State) (ce : Cell), s.vm.Alike t.vm → t.heap.size = H.size + 1 → (∀ q : Nat, q < H.size → t.heap[q]? = H[q]?) → t.heap[H.size]? = some ce → ce.vm = .none → s.vm.findClass "java/util/NoSuchElementException" = some ce.cls → vm_XQ G E Q "java/util/NoSuchElementException" s t := by
    intro t ce hal hz ho hce hv hcl
    refine ⟨rfl, vm_nw h (.inr (15, [])), hq, vm_al I hlt hz ?_ ho trivial (fun q => by unfold vm_no at q; cases q)⟩
    refine ⟨_, hcls, ce, ?_, ?_, hv, fun k hk => absurd hk (Nat.not_lt_zero _)⟩
    · show t.heap[vm_ad G h.1]? = some ce
      rw [eA]
      exact hce
    · exact Option.some.inj (hcl.symm.trans (K.1.1 15 _ hcls).2.1)
  exact vm_throwX (names := names) (text := tx) (sa := vm_ad G id) (A := fun q => G.1 ≤ q) (rest := []) X.1 X.2.1 hst x0 x1 x2 x5 X.2.2.2.2.2.2.1 hfit hnames (hts _ hk) (hts _ hini) (K.2.2.2.1 _ hr) (hat args s hts) hgood (kk _ _ _ K.2.2.2.2.1) (kk _ _ _ K.2.2.2.2.2) hS (by rw [X.2.2.1]; exact hl.1) d0 d3 d4 d6 d9
    (fun x hx => by rw [htb, hhh] at hx; cases hx) (by rw [hR]; exact hfr) (by rw [hR]; show 0 + _ ≤ y.2.2.2.2.2; omega) (by rw [hR]; show _ ≤ mc; omega) (by rw [hR]; show _ ≤ ms; omega) X.2.2.2.2.1 hx hL (by omega) (by omega) T hT XX
/-- THE CONTRACT of a method that returns or throws (told as retAddr 77) -/
def vm_MetX (E : vm_E) (y : vm_M) (kc ks : Nat) (av : List Value) (h : vm_H) (Q : Option Value → vm_H → Prop) : Prop :=
  ∀ G : vm_G, vx_Met E.1 y.1 (vm_cw y :: E.2.2.2.1) (vm_rm y kc ks) (vm_Pc G E av h) (vm_Q G E (vm_Qn Q)) (vm_XQ G E Q) kc ks (fun q => G.1 ≤ q)
theorem vm_metX {av : List Value} (hy : plainName y.1.cls = true) (hth : vm_thr y.1 = true) (hhh : vm_hh y.1 = []) (hsz : (av.map fun v => v.category).sum ≤ y.2.2.1) (k : vm_T E y kc ks 0 (lv_args 0 av) [] h Q) : vm_MetX E y kc ks av h Q := by
  intro G
  refine vx_ofW (cc := y.2.1) (maxL := y.2.2.1) (ret := y.2.2.2.1) hy rfl ?_
  intro p e s m args below meth c s₁ B hml htb hv
  obtain ⟨rfl, hK, hI⟩ := hv
  have hts := atoms_spec (ws := vm_cw y :: E.2.2.2.1) B.pre
  have hl := lv_entry (av.map (vm_v G)) (n := y.2.2.1) (by rw [vm_slen]; exact hsz)
  rw [lg_entry_eq]
  rw [vm_args] at hl
  have X : vm_X G E p (headSpec (vm_cw y :: E.2.2.2.1) (vm_rm y kc ks)).room s m (av.map (vm_v G)).toArray meth c y kc ks := ⟨B.exec, B.bytes, hml, B.returns, B.notSynchronized, (name_of_methodNamed B.named B.method).1, findClass_of_methodNamed B.named, fun w hw => hts w (List.mem_cons_of_mem _ hw), hK, rfl, hI.2.2.2.2.1, by rw [hI.1]; omega, by rw [hhh]; exact vm_noT B.named B.method (Stand.of_body B).code (hts _ List.mem_cons_self)⟩
  have k9 := k
  unfold vm_T at k9
  simp only [vm_tg_th hth] at k9
  exact k9 G p e _ s m _ below meth c s.heap [] 0 0 kc ks _ X hI (fun q hq => by cases hq) hl (by omega) (by omega)
/-- a handler that begins with astore -/
theorem vm_hst {G : vm_G} {p : Program} {e : Env} {R : Room} {s : State} {m : MethodId} {args : Array Value} {below : List Frame} {meth : Method} {c : Code} {H : Heap} {locs : List Loc} {cells slots mc ms hp len n q : Nat} {ls : Array Slot} {lv0 : vm_L} (X : vm_X G E p R s m args meth c y mc ms) (I : vm_I G E h H) (hL : ∀ q ∈ locs, G.1 ≤ q.base) (hl : lv_has ls y.2.2.1 (lv0.map (vm_q G))) (hc : cells + kc ≤ mc) (hs : slots + ks ≤ ms) (hn : n < y.2.2.1)
    (dh : (∃ n4 : Fin 4, n4.val = n ∧ decode y.2.1 hp = .ok (.astore_n n4, 1) ∧ len = 1) ∨ (decode y.2.1 hp = .ok (.astore n, 2) ∧ len = 2)) (k : vm_T E y kc ks (hp + len) [] [] h Q) : W p E.1 e R s m args below meth c H locs cells slots (vm_tg G E y Q below args s mc ms) (F0 m hp ls [.ref q]) := by
  have hl0 : lv_has ls y.2.2.1 ([] : vm_L) := ⟨hl.1, hl.2.1, fun q hq => by cases hq⟩
  rcases dh with ⟨n4, e4, d, rfl⟩ | ⟨d, rfl⟩
  · exact lv_astore_n X.1 X.2.1 d rfl hl0 (by rw [e4]; exact hn) rfl (fun ls' hl' => k G p e R s m args below meth c H locs cells slots mc ms ls' X I hL ⟨hl'.1, hl'.2.1, fun q hq => by cases hq⟩ hc hs)
  · exact lv_astore X.1 X.2.1 d hl0 hn rfl (fun ls' hl' => k G p e R s m args below meth c H locs cells slots mc ms ls' X I hL ⟨hl'.1, hl'.2.1, fun q hq => by cases hq⟩ hc hs)
theorem vm_r_callX {idx a ci n len : Nat} {r : vw_C} {fs : List Value} {x : ExceptionTableEntry} (hd : decode y.2.1 pc = .ok (.invokevirtual idx, 3)) (hC : vm_C E y z As.length) (hlink : Jvm.Cond.methodLink y.1.cls idx z.1 ∈ E.2.2.2.1) (hin : Jvm.Cond.instanceMethod z.1 ∈ E.2.2.2.1) (hsel : Jvm.Cond.selects r.1 z.1 z.1 ∈ E.2.2.2.1) (ha : h.2 a = .inr (ci, fs)) (hno : ci ≠ 999) (hcl : E.2.1[ci]? = some r) (hM : vm_MetX E z kc' ks' (.ref a :: As) h Q') (hcat : (st.map fun v => v.category).sum ≤ 8) (hk : kc' ≤ kc) (hn : ks' ≤ ks)
    (htab : tableOf (vm_hh y.1) = [x]) (hx : covers x pc = true) (h0 : x.catchType ≠ 0) (hcl9 : Jvm.Cond.classLink y.1.cls x.catchType "java/util/NoSuchElementException" ∈ E.2.2.2.1) (hcast : Jvm.Cond.castable "java/util/NoSuchElementException" "java/util/NoSuchElementException" ∈ E.2.2.2.1)
    (hnl : n < y.2.2.1) (dh : (∃ n4 : Fin 4, n4.val = n ∧ decode y.2.1 x.handlerPc = .ok (.astore_n n4, 1) ∧ len = 1) ∨ (decode y.2.1 x.handlerPc = .ok (.astore n, 2) ∧ len = 2))
    (k : ∀ r h', r ≠ some (.retAddr 77) → Q' r h' → vm_T E y (kc - kc') (ks - ks') (pc + 3) lv (r.toList ++ st) h' Q) (kx : ∀ h', Q' (some (.retAddr 77)) h' → vm_T E y (kc - kc') (ks - ks') (x.handlerPc + len) [] [] h' Q) : vm_T E y kc ks pc lv (As.reverse ++ .ref a :: st) h Q := by
  intro G p e R s m args below meth c H locs cells slots mc ms ls X I hL hl hc hs
  have K := X.2.2.2.2.2.2.2.2.1
  have hts := X.2.2.2.2.2.2.2.1
  have htb := X.2.2.2.2.2.2.2.2.2.2.2.2
  rw [vm_rev]
  intro T hT XX
  have hrun := vx_runV (l := E.1) (e := e) (below := below) (meth := meth) (locs := locs) (cells := cells) (slots := slots) (C := r.1) (g := F0 m pc ls ((As.map (vm_v G)).reverse ++ (.ref a :: st).map (vm_v G))) (rest := st.map (vm_v G)) (vm_fix X) (hM G) ⟨vm_callB X hC hlink, hts _ hin, hts _ hsel⟩ ⟨vm_blind G E (.ref a :: As) h, vm_recv K I ha hno hcl, (vm_preS (As := .ref a :: As) K I).2⟩ rfl (by rw [List.length_map]) hl.1 rfl (vm_room hcat) hd (vm_hf X hc hs hk hn)
  have hLL9 : ∀ L : List Loc, (∀ q ∈ L, G.1 ≤ q.base) → ∀ q ∈ locs ++ L, G.1 ≤ q.base := fun L hLL q hq => by
    rcases List.mem_append.mp hq with h | h
    · exact hL q h
    · exact hLL q h
  rcases hrun T hT XX with ⟨v, st₀, t, T', L, h0', X', hLL, e1, e2, ⟨r, h', hv, hq, hI⟩, hst⟩ | ⟨q, st₀, t, T', L, E9, ce, h0', X', hLL, e1, e2, ⟨hE, h', hq, hI⟩, hce, hcv, hcl8, hst⟩
  · have hv : v = r.map (vm_v G) := by cases hv; rfl
    subst hv
    obtain ⟨t2, a1, b1⟩ := k r h' hq.1 hq.2 G p e R s m args below meth c T'.heap (locs ++ L) (cells + kc') (slots + ks') mc ms ls X (by rw [e1]; exact hI) (hLL9 L hLL) hl (by omega) (by omega) T' rfl X'
    refine ⟨t2, hst t2 ?_, b1⟩
    have e9 : (r.map (vm_v G)).toList ++ st.map (vm_v G) = (r.toList ++ st).map (vm_v G) := by cases r <;> rfl
    rw [show ({ F0 m pc ls ((As.map (vm_v G)).reverse ++ (.ref a :: st).map (vm_v G)) with pc := (F0 m pc ls ((As.map (vm_v G)).reverse ++ (.ref a :: st).map (vm_v G))).pc + 3, stack := (r.map (vm_v G)).toList ++ st.map (vm_v G) } : JFrame) = F0 m (pc + 3) ls ((r.toList ++ st).map (vm_v G)) from by rw [← e9]]
    exact a1
  · subst hE
    have kkW := vm_hst (e := e) (below := below) (meth := meth) (locs := locs ++ L) (cells := cells + kc') (slots := slots + ks') (kc := kc - kc') (ks := ks - ks') (q := q) (H := T'.heap) X (by rw [e1]; exact hI) (hLL9 L hLL) hl (by omega) (by omega) hnl dh (kx h' hq)
    obtain ⟨t2, a1, b1⟩ := vm_catch (own := y.1.cls) (name := "java/util/NoSuchElementException") (pc := pc) (rest := st.map (vm_v G)) X.2.2.2.2.2.2.1 x (htb.trans htab) hx h0 (hts _ hcl9) (hts _ hcast) (by rw [e1]; exact hce) hcv hcl8 kkW T' rfl X'
    exact ⟨t2, hst.trans a1, b1⟩
/-- THE CONTRACT of a method with a table of handlers -/
def vm_MetW (E : vm_E) (y : vm_M) (kc ks : Nat) (av : List Value) (h : vm_H) (Q : Option Value → vm_H → Prop) : Prop :=
  ∀ G : vm_G, Met E.1 y.1 (Jvm.Cond.codeWith y.1 y.2.1 y.2.2.1 y.2.2.2.1 (vm_hh y.1) :: E.2.2.2.1) (vm_rm y kc ks) (vm_Pc G E av h) (vm_Q G E Q) kc ks (fun q => G.1 ≤ q)
theorem vm_metW {av : List Value} (hy : plainName y.1.cls = true) (hth : vm_thr y.1 = false) (hsz : (av.map fun v => v.category).sum ≤ y.2.2.1) (k : vm_T E y kc ks 0 (lv_args 0 av) [] h Q) : vm_MetW E y kc ks av h Q := by
  intro G
  refine MetFree.of_bodyS (code := y.2.1) (maxLocals := y.2.2.1) (ret := y.2.2.2.1) hy ?_ ?_
  · intro args s m h hn
    obtain ⟨m9, meth, c, hn9, h1, h2, h3, h4, -, h5, h6, -⟩ := Cond.codeWith_spec (atoms_spec (ws := Jvm.Cond.codeWith y.1 y.2.1 y.2.2.1 y.2.2.2.1 (vm_hh y.1) :: E.2.2.2.1) h _ List.mem_cons_self)
    cases hn.symm.trans hn9
    exact ⟨meth, c, h1, h2, h3, h4, h5, h6⟩
  · intro p e s m args below meth c s₁ B hml hv _
    obtain ⟨rfl, hK, hI⟩ := hv
    have hts := atoms_spec (ws := Jvm.Cond.codeWith y.1 y.2.1 y.2.2.1 y.2.2.2.1 (vm_hh y.1) :: E.2.2.2.1) B.pre
    have hl := lv_entry (av.map (vm_v G)) (n := y.2.2.1) (by rw [vm_slen]; exact hsz)
    rw [vm_args] at hl
    have X : vm_X G E p (headSpec (Jvm.Cond.codeWith y.1 y.2.1 y.2.2.1 y.2.2.2.1 (vm_hh y.1) :: E.2.2.2.1) (vm_rm y kc ks)).room s m (av.map (vm_v G)).toArray meth c y kc ks := ⟨B.exec, B.bytes, hml, B.returns, B.notSynchronized, (name_of_methodNamed B.named B.method).1, findClass_of_methodNamed B.named, fun w hw => hts w (List.mem_cons_of_mem _ hw), hK, rfl, hI.2.2.2.2.1, by rw [hI.1]; omega, vx_table (x := y.1) B (hts _ List.mem_cons_self)⟩
    have hh0 : s₁.heap = s.heap := by rw [B.state]; rfl
    have k9 := k
    unfold vm_T at k9
    simp only [vm_tg_pl hth] at k9
    have body : W p E.1 e (headSpec (Jvm.Cond.codeWith y.1 y.2.1 y.2.2.1 y.2.2.2.1 (vm_hh y.1) :: E.2.2.2.1) (vm_rm y kc ks)).room s m (av.map (vm_v G)).toArray below meth c s.heap [] 0 0 (MQ below (vm_Q G E Q) (av.map (vm_v G)).toArray s kc ks (fun q => G.1 ≤ q)) (entryFrame m (av.map (vm_v G)).toArray y.2.2.1) := by
      rw [lg_entry_eq]
      exact k9 G p e _ s m _ below meth c s.heap [] 0 0 kc ks _ X hI (fun q hq => by cases hq) hl (by omega) (by omega)
    obtain ⟨t, a1, o, b1, b2, b3⟩ := body s₁ hh0 (Stand.of_body B)
    exact ⟨t, o, a1, b1, b2, ⟨b3.1, b3.2⟩⟩
theorem vm_r_callSW {idx : Nat} (hd : decode y.2.1 pc = .ok (.invokestatic idx, 3)) (hw : vm_Ww E) (hcw : Jvm.Cond.codeWith z.1 z.2.1 z.2.2.1 z.2.2.2.1 (vm_hh z.1) ∈ E.2.2.2.1) (hini : Jvm.Cond.initialized z.1.cls ∈ E.2.2.2.1) (hne : z.1.cls ≠ "java/lang/invoke/MethodHandle" ∧ z.1.cls ≠ "java/lang/invoke/VarHandle") (hlen : (parseMethodDescriptor z.1.desc).map (fun d => d.parameters.length) = some As.length) (hfr : z.2.2.2.2.1 + 1 ≤ y.2.2.2.2.1) (hlo : 8 + (z.2.2.1 + 11) + z.2.2.2.2.2 ≤ y.2.2.2.2.2) (hlink : Jvm.Cond.methodLink y.1.cls idx z.1 ∈ E.2.2.2.1) (hstt : Jvm.Cond.static z.1 ∈ E.2.2.2.1) (hM : vm_MetW E z kc' ks' As h Q') (hcat : (st.map fun v => v.category).sum ≤ 8) (hk : kc' ≤ kc) (hn : ks' ≤ ks) (k : ∀ r h', Q' r h' → vm_T E y (kc - kc') (ks - ks') (pc + 3) lv (r.toList ++ st) h' Q) : vm_T E y kc ks pc lv (As.reverse ++ st) h Q := by
  intro G p e R s m args below meth c H locs cells slots mc ms ls X I hL hl hc hs
  have K := X.2.2.2.2.2.2.2.2.1
  have hts := X.2.2.2.2.2.2.2.1
  have hR := X.2.2.2.2.2.2.2.2.2.1
  rw [vm_rev]
  have hws : ∀ w ∈ Jvm.Cond.codeWith z.1 z.2.1 z.2.2.1 z.2.2.2.1 (vm_hh z.1) :: E.2.2.2.1, ∀ (a' : Array Value) (U : State), s.WarmedH U.vm → w.before a' U = true := fun w hq a' U hW => by
    rcases List.mem_cons.mp hq with rfl | hq
    · exact hw _ hcw args a' s U hW (hts _ hcw)
    · exact hw _ hq args a' s U hW (hts _ hq)
  have cw : vx_CSW R s args y.1.cls idx z.1 z.2.1 z.2.2.1 z.2.2.2.1 (vm_hh z.1) (Jvm.Cond.codeWith z.1 z.2.1 z.2.2.1 z.2.2.2.1 (vm_hh z.1) :: E.2.2.2.1) (vm_rm z kc' ks') kc' ks' As.length :=
    ⟨⟨rfl, rfl, by rw [hR]; exact hfr, by rw [hR]; exact hlo, hws, List.mem_cons_self⟩, hts _ hcw, hts _ hini, hne, fun sig hsig => by rw [hsig] at hlen; exact (Option.some.inj hlen).symm, hts _ hlink, hts _ hstt⟩
  exact vm_after (vx_runSW (vm_fix X) (hM G) cw (vm_preS K I) rfl (by rw [List.length_map]) hl.1 rfl (vm_room hcat) hd (vm_hf X hc hs hk hn)) X hL hl hc hs hk hn k
/-- how many cells come -/
theorem vm_metC {av : List Value} (hM : vm_Met E y kc ks av h Q) : vm_Met E y kc ks av h (fun r h' => Q r h' ∧ h'.1 ≤ h.1 + kc) := by
  intro G p e ha hf hc s m args below h1 h2 h3 h4
  obtain ⟨n, o, a1, a2, a3, ⟨⟨r, h', e1, e2, e3⟩, L, e4, e5⟩⟩ := hM G p e ha hf hc s m args below h1 h2 h3 h4
  refine ⟨n, o, a1, a2, a3, ⟨⟨r, h', e1, ⟨e2, ?_⟩, e3⟩, L, e4, e5⟩⟩
  have z1 := e4.2.2.2.2.1
  have z2 := h3.2.2.1
  have z3 := e3.1
  have z4 : (stepsAlone p.tables e n s).heap.size ≤ s.heap.size + kc := z1
  omega
theorem vm_metWC {av : List Value} (hM : vm_MetW E y kc ks av h Q) : vm_MetW E y kc ks av h (fun r h' => Q r h' ∧ h'.1 ≤ h.1 + kc) := by
  intro G p e ha hf hc s m args below h1 h2 h3 h4
  obtain ⟨n, o, a1, a2, a3, ⟨⟨r, h', e1, e2, e3⟩, L, e4, e5⟩⟩ := hM G p e ha hf hc s m args below h1 h2 h3 h4
  refine ⟨n, o, a1, a2, a3, ⟨⟨r, h', e1, ⟨e2, ?_⟩, e3⟩, L, e4, e5⟩⟩
  have z1 := e4.2.2.2.2.1
  have z2 := h3.2.2.1
  have z3 := e3.1
  have z4 : (stepsAlone p.tables e n s).heap.size ≤ s.heap.size + kc := z1
  omega
end
