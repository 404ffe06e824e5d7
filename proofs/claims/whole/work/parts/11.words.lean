/-! words of the tables that the rows need (written by wip/gen/names.py) -/
/-- private methods of a superclass: what an object of VeilMint$Field runs -/
theorem vm_selp {C : String} {y : MethodName} {s : State} {args : Array Value} {n : Nat} (hy : y.cls ≠ "java/lang/invoke/MethodHandle" ∧ y.cls ≠ "java/lang/invoke/VarHandle") (hins : (Jvm.Cond.instantiable C n).before args s = true) {n2 : Nat} (hins2 : (Jvm.Cond.instantiable y.cls n2).before args s = true) (hpriv : (Jvm.Cond.privateMethod y).before args s = true) (hinst : (Jvm.Cond.instanceMethod y).before args s = true) : (Jvm.Cond.selects C y y).before args s = true := by
  obtain ⟨c, k, hc, hk, -, hniab, -, -⟩ := Cond.instantiable_spec hins
  have hni : k.isInterface = false := (Bool.or_eq_false_iff.mp hniab).1
  obtain ⟨mk, methM, hnamed, hmethM, -, -⟩ := Cond.instanceMethod_spec hinst
  have hfound : s.methodFound? y.cls y.name y.desc = some mk := State.methodFound?_of_named hnamed hy
  have hsel : selectMethod {} s.vm c mk = .method mk := selectMethod_private hmethM (Cond.privateMethod_at hpriv mk methM hnamed hmethM)
  obtain ⟨kP, hkP, hkPn⟩ := className_of_methodNamed hnamed
  simp only [Cond.before, Cond.holds, Cond.value, hc, hfound, hnamed, hsel, hkP]
  simp
  obtain ⟨c2, k2, hc2, hk2, -, hniab2, -, -⟩ := Cond.instantiable_spec hins2
  have e1 : mk.cls = c2 := Option.some.inj ((findClass_of_methodNamed hnamed).symm.trans hc2)
  rw [e1, hk2] at hkP
  cases hkP
  exact (Bool.or_eq_false_iff.mp hniab2).1
def vm_xs : List Jvm.Cond := [mX6_putTogether, mX6_takeAway, mX6_isLess, mX6_halve].map (fun z => Jvm.Cond.selects "VeilMint$Field" z.1 z.1)
def vm_tbl : List Jvm.Cond := vm_xs ++ lw_tbl
def vm_gw (w : Jvm.Cond) : Bool := goodWord w || match w with
  | .fieldLinkNest .. => true
  | .methodLinkNest .. => true
  | .arrayOver .. => true
  | .castable .. => true
  | _ => false
def vm_wt : List Jvm.Cond := vm_tbl.filter vm_gw
theorem vm_i {w : Jvm.Cond} (h : w ∈ tables_1) (g : vm_gw w = true) : w ∈ vm_wt := List.mem_filter.mpr ⟨List.mem_append_right _ (List.mem_append_right _ h), g⟩
theorem vm_ip {w : Jvm.Cond} (h : w ∈ k2_sels lw_privs) (g : vm_gw w = true) : w ∈ vm_wt := List.mem_filter.mpr ⟨List.mem_append_right _ (List.mem_append_left _ h), g⟩
theorem vm_ix9 {w : Jvm.Cond} (h : w ∈ vm_xs) (g : vm_gw w = true) : w ∈ vm_wt := List.mem_filter.mpr ⟨List.mem_append_left _ h, g⟩
theorem vm_t1 {w : Jvm.Cond} (h : w ∈ tables_1_1) (g : vm_gw w = true) : w ∈ vm_wt := vm_i (show w ∈ tables_1 from by unfold tables_1; exact List.mem_append_left _ h) g
theorem vm_t2 {w : Jvm.Cond} (h : w ∈ tables_1_2) (g : vm_gw w = true) : w ∈ vm_wt := vm_i (show w ∈ tables_1 from by unfold tables_1; exact List.mem_append_right _ (List.mem_append_left _ h)) g
theorem vm_t3 {w : Jvm.Cond} (h : w ∈ tables_1_3) (g : vm_gw w = true) : w ∈ vm_wt := vm_i (show w ∈ tables_1 from by unfold tables_1; exact List.mem_append_right _ (List.mem_append_right _ (List.mem_append_left _ h))) g
theorem vm_t4 {w : Jvm.Cond} (h : w ∈ tables_1_4) (g : vm_gw w = true) : w ∈ vm_wt := vm_i (show w ∈ tables_1 from by unfold tables_1; exact List.mem_append_right _ (List.mem_append_right _ (List.mem_append_right _ (List.mem_append_left _ h)))) g
theorem vm_t5 {w : Jvm.Cond} (h : w ∈ tables_1_5) (g : vm_gw w = true) : w ∈ vm_wt := vm_i (show w ∈ tables_1 from by unfold tables_1; exact List.mem_append_right _ (List.mem_append_right _ (List.mem_append_right _ (List.mem_append_right _ (List.mem_append_left _ h))))) g
theorem vm_t6 {w : Jvm.Cond} (h : w ∈ tables_1_6) (g : vm_gw w = true) : w ∈ vm_wt := vm_i (show w ∈ tables_1 from by unfold tables_1; exact List.mem_append_right _ (List.mem_append_right _ (List.mem_append_right _ (List.mem_append_right _ (List.mem_append_right _ (List.mem_append_left _ h)))))) g
theorem vm_t7 {w : Jvm.Cond} (h : w ∈ tables_1_7) (g : vm_gw w = true) : w ∈ vm_wt := vm_i (show w ∈ tables_1 from by unfold tables_1; exact List.mem_append_right _ (List.mem_append_right _ (List.mem_append_right _ (List.mem_append_right _ (List.mem_append_right _ (List.mem_append_right _ (List.mem_append_left _ h))))))) g
theorem vm_t8 {w : Jvm.Cond} (h : w ∈ tables_1_8) (g : vm_gw w = true) : w ∈ vm_wt := vm_i (show w ∈ tables_1 from by unfold tables_1; exact List.mem_append_right _ (List.mem_append_right _ (List.mem_append_right _ (List.mem_append_right _ (List.mem_append_right _ (List.mem_append_right _ (List.mem_append_right _ (List.mem_append_left _ h)))))))) g
theorem vm_t9 {w : Jvm.Cond} (h : w ∈ tables_1_9) (g : vm_gw w = true) : w ∈ vm_wt := vm_i (show w ∈ tables_1 from by unfold tables_1; exact List.mem_append_right _ (List.mem_append_right _ (List.mem_append_right _ (List.mem_append_right _ (List.mem_append_right _ (List.mem_append_right _ (List.mem_append_right _ (List.mem_append_right _ (h))))))))) g
