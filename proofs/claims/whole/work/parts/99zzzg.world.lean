/-! the start: the world -/
theorem z_m1 {w : Jvm.Cond} (h : w ∈ tables_1_1) : w ∈ tables_1 := by unfold tables_1; exact List.mem_append_left _ h
theorem z_m2 {w : Jvm.Cond} (h : w ∈ tables_1_2) : w ∈ tables_1 := by unfold tables_1; exact List.mem_append_right _ (List.mem_append_left _ h)
theorem z_m3 {w : Jvm.Cond} (h : w ∈ tables_1_3) : w ∈ tables_1 := by unfold tables_1; exact List.mem_append_right _ (List.mem_append_right _ (List.mem_append_left _ h))
theorem z_m4 {w : Jvm.Cond} (h : w ∈ tables_1_4) : w ∈ tables_1 := by unfold tables_1; exact List.mem_append_right _ (List.mem_append_right _ (List.mem_append_right _ (List.mem_append_left _ h)))
theorem z_m5 {w : Jvm.Cond} (h : w ∈ tables_1_5) : w ∈ tables_1 := by unfold tables_1; exact List.mem_append_right _ (List.mem_append_right _ (List.mem_append_right _ (List.mem_append_right _ (List.mem_append_left _ h))))
theorem z_m6 {w : Jvm.Cond} (h : w ∈ tables_1_6) : w ∈ tables_1 := by unfold tables_1; exact List.mem_append_right _ (List.mem_append_right _ (List.mem_append_right _ (List.mem_append_right _ (List.mem_append_right _ (List.mem_append_left _ h)))))
theorem z_m7 {w : Jvm.Cond} (h : w ∈ tables_1_7) : w ∈ tables_1 := by unfold tables_1; exact List.mem_append_right _ (List.mem_append_right _ (List.mem_append_right _ (List.mem_append_right _ (List.mem_append_right _ (List.mem_append_right _ (List.mem_append_left _ h))))))
theorem z_m8 {w : Jvm.Cond} (h : w ∈ tables_1_8) : w ∈ tables_1 := by unfold tables_1; exact List.mem_append_right _ (List.mem_append_right _ (List.mem_append_right _ (List.mem_append_right _ (List.mem_append_right _ (List.mem_append_right _ (List.mem_append_right _ (List.mem_append_left _ h)))))))
theorem z_m9 {w : Jvm.Cond} (h : w ∈ tables_1_9) : w ∈ tables_1 := by unfold tables_1; exact List.mem_append_right _ (List.mem_append_right _ (List.mem_append_right _ (List.mem_append_right _ (List.mem_append_right _ (List.mem_append_right _ (List.mem_append_right _ (List.mem_append_right _ (h))))))))
section
variable {args : Array Value} {s : State} {A : Nat → Prop}
theorem z_eqr {t u : Term} {a : Nat} (h : (Jvm.Cond.eq t u).before args s = true) (ht : t.eval args s none [] s = some (.ref a)) : u.eval args s none [] s = some (.ref a) := by
  cases hv : u.eval args s none [] s with
  | none => simp [Cond.before, Cond.holds, Cond.value, hv, ht] at h
  | some w =>
    simp only [Cond.before, Cond.holds, Cond.value, hv, ht] at h
    cases w <;> simp_all
theorem z_mem {a n : Nat} {c : Jvm.Cond} {l : List Jvm.Cond} (e : (z_fl.drop a).take n = l) (h : c ∈ l) : c ∈ z_fl := by
  rw [← e] at h
  exact List.mem_of_mem_drop (List.mem_of_mem_take h)
theorem z_arI {tm : Term} {ty : FieldType} {a N : Nat} {vs : List Int32} (hs : ∀ c ∈ z_fl, c.before args s = true) (hA : ∀ a : Nat, a < s.heap.size → ¬ A a) (hN : N < 2 ^ 31) (e : (z_fl.drop a).take (N + 2) = Jvm.Cond.arrayOf tm ty :: Jvm.Cond.eq (.length tm) (.int (Int32.ofNat N)) :: (List.range N).map (fun j => Jvm.Cond.eq (.elem tm (.int (Int32.ofNat j))) (.int (vs.getD j 0)))) : ∃ t : Nat, tm.eval args s none [] s = some (.ref t) ∧ va_T ty t N (fun j => .int (vs.getD j 0)) A s s.heap :=
  va_Tof hN (hs _ (z_mem e List.mem_cons_self)) (va_eqt (hs _ (z_mem e (List.mem_cons_of_mem _ List.mem_cons_self)))) (fun j hj => va_eqt (hs _ (z_mem e (List.mem_cons_of_mem _ (List.mem_cons_of_mem _ (List.mem_map.mpr ⟨j, List.mem_range.mpr hj, rfl⟩)))))) hA
theorem z_arL {tm : Term} {ty : FieldType} {a N : Nat} {vs : List Int64} (hs : ∀ c ∈ z_fl, c.before args s = true) (hA : ∀ a : Nat, a < s.heap.size → ¬ A a) (hN : N < 2 ^ 31) (e : (z_fl.drop a).take (N + 2) = Jvm.Cond.arrayOf tm ty :: Jvm.Cond.eq (.length tm) (.int (Int32.ofNat N)) :: (List.range N).map (fun j => Jvm.Cond.eq (.elem tm (.int (Int32.ofNat j))) (.long (vs.getD j 0)))) : ∃ t : Nat, tm.eval args s none [] s = some (.ref t) ∧ va_T ty t N (fun j => .long (vs.getD j 0)) A s s.heap :=
  va_Tof hN (hs _ (z_mem e List.mem_cons_self)) (va_eqt (hs _ (z_mem e (List.mem_cons_of_mem _ List.mem_cons_self)))) (fun j hj => va_eqtl (hs _ (z_mem e (List.mem_cons_of_mem _ (List.mem_cons_of_mem _ (List.mem_map.mpr ⟨j, List.mem_range.mpr hj, rfl⟩)))))) hA
theorem z_ats : ∀ i, i < 20 → (z_fl.drop (z_pos.getD i 0)).take (z_len.getD i 0 + 4) = z_at i := by
  intro i hi
  match i, hi with
  | 0, _ => exact z_at0
  | 1, _ => exact z_at1
  | 2, _ => exact z_at2
  | 3, _ => exact z_at3
  | 4, _ => exact z_at4
  | 5, _ => exact z_at5
  | 6, _ => exact z_at6
  | 7, _ => exact z_at7
  | 8, _ => exact z_at8
  | 9, _ => exact z_at9
  | 10, _ => exact z_at10
  | 11, _ => exact z_at11
  | 12, _ => exact z_at12
  | 13, _ => exact z_at13
  | 14, _ => exact z_at14
  | 15, _ => exact z_at15
  | 16, _ => exact z_at16
  | 17, _ => exact z_at17
  | 18, _ => exact z_at18
  | 19, _ => exact z_at19
  | n + 20, h => exact absurd h (by omega)
theorem z_lens : ∀ i, i < 20 → z_len.getD i 0 < 2147483648 := by decide +kernel
theorem z_fits : ∀ i, i < 20 → ∀ j, j < z_len.getD i 0 → fits .byte (.int ((z_byt.getD i []).getD j 0)) = true := by decide +kernel
theorem z_sr {i : Nat} (hs : ∀ c ∈ z_fl, c.before args s = true) (hA : ∀ a : Nat, a < s.heap.size → ¬ A a) (hi : i < 20) : ∃ q : Nat × Nat, (z_tm i).eval args s none [] s = some (.ref q.1) ∧ va_O "java/lang/String" q.1 A s s.heap ∧ va_OF "java/lang/String" "coder" "B" (.int 0) q.1 A s s.heap ∧ va_OF "java/lang/String" "value" "[B" (.ref q.2) q.1 A s s.heap ∧ va_T .byte q.2 (z_len.getD i 0) (fun j => .int ((z_byt.getD i []).getD j 0)) A s s.heap := by
  have e := z_ats i hi
  unfold z_at at e
  obtain ⟨a, c, cA, kA, q1, q2, q3, q4, q5, q6, -⟩ := Cond.exactly_spec (args := args) (first := s) (o := none) (s := s) (idx := []) (t := z_tm i) (cls := "java/lang/String") (hs _ (z_mem e List.mem_cons_self))
  obtain ⟨t, ht, hT⟩ := va_Tof (f := fun j => .int ((z_byt.getD i []).getD j 0)) (A := A) (z_lens i hi) (hs _ (z_mem e (List.mem_cons_of_mem _ (List.mem_cons_of_mem _ List.mem_cons_self)))) (va_eqt (hs _ (z_mem e (List.mem_cons_of_mem _ (List.mem_cons_of_mem _ (List.mem_cons_of_mem _ List.mem_cons_self)))))) (fun j hj => va_eqt (hs _ (z_mem e (List.mem_cons_of_mem _ (List.mem_cons_of_mem _ (List.mem_cons_of_mem _ (List.mem_cons_of_mem _ (List.mem_map.mpr ⟨j, List.mem_range.mpr hj, rfl⟩)))))))) hA
  exact ⟨(a, t), q1, ⟨cA, q3, q5, by rw [q6]; exact q2, hA a (Array.getElem?_eq_some_iff.mp q3).1⟩, vk_OFof q1 (va_eqt (hs _ (z_mem e (List.mem_cons_of_mem _ List.mem_cons_self)))) hA, vk_OFof q1 ht hA, hT⟩
theorem z_k1 {C : String} {T : u_T} {N : Nat} (h : ∃ (cC : ClassId) (iS : Nat → Nat), u_Kn s C T N cC iS) : ∃ r : ClassId × (Nat → Nat), u_Kn s C T N r.1 r.2 := by
  obtain ⟨c, i, h⟩ := h
  exact ⟨(c, i), h⟩
set_option maxRecDepth 20000 in
theorem z_kn (hT : ∀ w ∈ tables_1, w.before args s = true) (hw : ∀ w ∈ vm_wt, w.before args s = true) : ∀ q ∈ vm_cls, ∃ r : ClassId × (Nat → Nat), u_Kn s q.1 q.2.1 q.2.2 r.1 r.2 := List.forall_mem_cons.mpr ⟨(z_k1 (u_known hw uwX0 (hT _ (z_m4 (List.mem_of_getElem? (i := 218) rfl))))), List.forall_mem_cons.mpr ⟨(z_k1 (u_known hw uwX1 (hT _ (z_m3 (List.mem_of_getElem? (i := 21) rfl))))), List.forall_mem_cons.mpr ⟨(z_k1 (u_known hw uwX2 (hT _ (z_m1 (List.mem_of_getElem? (i := 92) rfl))))), List.forall_mem_cons.mpr ⟨(z_k1 (u_known hw uwX3 (hT _ (z_m1 (List.mem_of_getElem? (i := 98) rfl))))), List.forall_mem_cons.mpr ⟨(z_k1 (u_known hw uwX4 (hT _ (z_m1 (List.mem_of_getElem? (i := 58) rfl))))), List.forall_mem_cons.mpr ⟨(z_k1 (u_known hw uwX5 (hT _ (z_m4 (List.mem_of_getElem? (i := 21) rfl))))), List.forall_mem_cons.mpr ⟨(z_k1 (u_known hw uwX6 (hT _ (z_m1 (List.mem_of_getElem? (i := 181) rfl))))), List.forall_mem_cons.mpr ⟨(z_k1 (u_known hw uwX7 (hT _ (z_m1 (List.mem_of_getElem? (i := 82) rfl))))), List.forall_mem_cons.mpr ⟨(z_k1 (u_known hw uwX8 (hT _ (z_m1 (List.mem_of_getElem? (i := 233) rfl))))), List.forall_mem_cons.mpr ⟨(z_k1 (u_known hw uwX9 (hT _ (z_m1 (List.mem_of_getElem? (i := 38) rfl))))), List.forall_mem_cons.mpr ⟨(z_k1 (u_known hw uwX10 (hT _ (z_m3 (List.mem_of_getElem? (i := 72) rfl))))), List.forall_mem_cons.mpr ⟨(z_k1 (u_known hw uwX11 (hT _ (z_m1 (List.mem_of_getElem? (i := 30) rfl))))), List.forall_mem_cons.mpr ⟨(z_k1 (u_known hw uwX12 (hT _ (z_m6 (List.mem_of_getElem? (i := 47) rfl))))), List.forall_mem_cons.mpr ⟨(z_k1 (u_known hw uwX13 (hT _ (z_m6 (List.mem_of_getElem? (i := 70) rfl))))), List.forall_mem_cons.mpr ⟨(z_k1 (u_known hw uwX14 (hT _ (z_m6 (List.mem_of_getElem? (i := 41) rfl))))), List.forall_mem_cons.mpr ⟨(z_k1 (u_known hw (fun _ h => absurd h List.not_mem_nil) (hT _ (z_m5 (List.mem_of_getElem? (i := 152) rfl))))), fun _ h => absurd h List.not_mem_nil⟩⟩⟩⟩⟩⟩⟩⟩⟩⟩⟩⟩⟩⟩⟩⟩
theorem z_ap {ty : FieldType} (h : (Jvm.Cond.arrayClass ty).before args s = true) : ∃ cA : ClassId, ArrOfT s cA ty ∧ s.vm.findClass ("[" ++ ty.toString) = some cA := by
  obtain ⟨cA, kA, comp, h1, h2, h3⟩ := Cond.arrayClass_spec h
  exact ⟨cA, fun n z => ⟨fun k h => (by cases h), kA, h2, comp, h3⟩, h1⟩
theorem z_ao {C : String} (h : (Jvm.Cond.arrayOver (.object C)).before args s = true) : ∃ cA : ClassId, ArrOfT s cA (.object C) ∧ va_RA s cA (.object C) := by
  obtain ⟨comp, c, k, hcomp, hidx, hk, hkind, hname⟩ := Cond.arrayOver_spec h
  exact ⟨c, fun n z => ⟨fun k h => (by cases h), k, hk, comp, hkind⟩, ⟨k, comp, hk, hkind, hcomp, hname⟩⟩
theorem z_aa {t : FieldType} (h : (Jvm.Cond.arrayOver (.array t)).before args s = true) : ∃ cA : ClassId, ArrOfT s cA (.array t) ∧ va_RA s cA (.array t) := by
  obtain ⟨comp, c, k, hcomp, hidx, hk, hkind, hname⟩ := arrayOverA_spec h
  exact ⟨c, fun n z => ⟨fun k h => (by cases h), k, hk, comp, hkind⟩, hname⟩
set_option maxRecDepth 20000 in
theorem z_ta (hT : ∀ w ∈ tables_1, w.before args s = true) : ∀ ty ∈ vm_tys, ∃ cA : ClassId, ArrOfT s cA ty ∧ va_RA s cA ty := List.forall_mem_cons.mpr ⟨(z_ap (hT _ (z_m1 (List.mem_of_getElem? (i := 79) rfl)))), List.forall_mem_cons.mpr ⟨(z_ap (hT _ (z_m1 (List.mem_of_getElem? (i := 80) rfl)))), List.forall_mem_cons.mpr ⟨(z_ap (hT _ (z_m1 (List.mem_of_getElem? (i := 56) rfl)))), List.forall_mem_cons.mpr ⟨(z_ap (hT _ (z_m7 (List.mem_of_getElem? (i := 155) rfl)))), List.forall_mem_cons.mpr ⟨(z_ao (hT _ (z_m3 (List.mem_of_getElem? (i := 95) rfl)))), List.forall_mem_cons.mpr ⟨(z_ao (hT _ (z_m3 (List.mem_of_getElem? (i := 97) rfl)))), List.forall_mem_cons.mpr ⟨(z_ao (hT _ (z_m2 (List.mem_of_getElem? (i := 13) rfl)))), List.forall_mem_cons.mpr ⟨(z_ao (hT _ (z_m6 (List.mem_of_getElem? (i := 91) rfl)))), List.forall_mem_cons.mpr ⟨(z_ao (hT _ (z_m6 (List.mem_of_getElem? (i := 88) rfl)))), List.forall_mem_cons.mpr ⟨(z_aa (hT _ (z_m6 (List.mem_of_getElem? (i := 90) rfl)))), List.forall_mem_cons.mpr ⟨(z_aa (hT _ (z_m1 (List.mem_of_getElem? (i := 162) rfl)))), fun _ h => absurd h List.not_mem_nil⟩⟩⟩⟩⟩⟩⟩⟩⟩⟩⟩
end
