/-! the start: the world, all of it -/
def z_ad (b : Nat) (t : List Nat) (a9 : Nat) (q : Nat → Nat × Nat) (k : Nat) : Nat := if k = 0 then b else if k < 14 then t.getD k 0 else if k = 14 then a9 else if k % 2 = 0 then (q ((k - 30) / 2)).1 else (q ((k - 31) / 2)).2
theorem z_adK (b : Nat) (t : List Nat) (a9 : Nat) (q : Nat → Nat × Nat) (i : Nat) : z_ad b t a9 q (30 + 2 * i) = (q i).1 := by
  unfold z_ad
  rw [if_neg (by omega), if_neg (by omega), if_neg (by omega), if_pos (by omega), show (30 + 2 * i - 30) / 2 = i by omega]
theorem z_adV (b : Nat) (t : List Nat) (a9 : Nat) (q : Nat → Nat × Nat) (i : Nat) : z_ad b t a9 q (31 + 2 * i) = (q i).2 := by
  unfold z_ad
  rw [if_neg (by omega), if_neg (by omega), if_neg (by omega), if_neg (by omega), show (31 + 2 * i - 31) / 2 = i by omega]
theorem z_oad (G : vm_G) (k : Nat) : vm_ad G (1099511627776 + k) = G.2.1 k := by
  unfold vm_ad
  rw [if_neg (by omega), Nat.add_sub_cancel_left]
theorem z_ov (G : vm_G) (k : Nat) : vm_v G (.ref (1099511627776 + k)) = .ref (G.2.1 k) := by
  show Value.ref (vm_ad G (1099511627776 + k)) = _
  rw [z_oad]
section
variable {args : Array Value} {s : State} {l : Launch}
theorem z_d (hT : ∀ w ∈ tables_1, w.before args s = true) (hw : ∀ w ∈ vm_wt, w.before args s = true) : ∃ D : Nat → ClassId × (Nat → Nat), ∀ (c : Nat) (q : vw_C), vm_cls[c]? = some q → u_Kn s q.1 q.2.1 q.2.2 (D c).1 (D c).2 := by
  have h0 : ∀ c : Nat, ∃ r : ClassId × (Nat → Nat), ∀ q : vw_C, vm_cls[c]? = some q → u_Kn s q.1 q.2.1 q.2.2 r.1 r.2 := by
    intro c
    cases e : vm_cls[c]? with
    | none => exact ⟨(0, fun _ => 0), fun q h => by cases h⟩
    | some q =>
      obtain ⟨r, hr⟩ := z_kn hT hw q (List.mem_of_getElem? e)
      exact ⟨r, fun q' h => by cases h; exact hr⟩
  exact Classical.axiomOfChoice h0
theorem z_a (hT : ∀ w ∈ tables_1, w.before args s = true) : ∃ cA : FieldType → ClassId, ∀ ty ∈ vm_tys, ArrOfT s (cA ty) ty ∧ va_RA s (cA ty) ty := by
  have h0 : ∀ ty : FieldType, ∃ c : ClassId, ty ∈ vm_tys → ArrOfT s c ty ∧ va_RA s c ty := by
    intro ty
    rcases Classical.em (ty ∈ vm_tys) with h | h
    · obtain ⟨c, hc⟩ := z_ta hT ty h
      exact ⟨c, fun _ => hc⟩
    · exact ⟨0, fun z => absurd z h⟩
  exact Classical.axiomOfChoice h0
theorem z_q {A : Nat → Prop} (hs : ∀ c ∈ z_fl, c.before args s = true) (hA : ∀ a : Nat, a < s.heap.size → ¬ A a) : ∃ q : Nat → Nat × Nat, ∀ i : Nat, i < 20 → (z_tm i).eval args s none [] s = some (.ref (q i).1) ∧ va_O "java/lang/String" (q i).1 A s s.heap ∧ va_OF "java/lang/String" "coder" "B" (.int 0) (q i).1 A s s.heap ∧ va_OF "java/lang/String" "value" "[B" (.ref (q i).2) (q i).1 A s s.heap ∧ va_T .byte (q i).2 (z_len.getD i 0) (fun j => .int ((z_byt.getD i []).getD j 0)) A s s.heap := by
  have h0 : ∀ i : Nat, ∃ q : Nat × Nat, i < 20 → (z_tm i).eval args s none [] s = some (.ref q.1) ∧ va_O "java/lang/String" q.1 A s s.heap ∧ va_OF "java/lang/String" "coder" "B" (.int 0) q.1 A s s.heap ∧ va_OF "java/lang/String" "value" "[B" (.ref q.2) q.1 A s s.heap ∧ va_T .byte q.2 (z_len.getD i 0) (fun j => .int ((z_byt.getD i []).getD j 0)) A s s.heap := by
    intro i
    rcases Nat.lt_or_ge i 20 with h | h
    · obtain ⟨q, hq⟩ := z_sr hs hA h
      exact ⟨q, fun _ => hq⟩
    · exact ⟨(0, 0), fun z => absurd z (by omega)⟩
  exact Classical.axiomOfChoice h0
theorem z_e1 : Jvm.Cond.eq (.string "VeilMint$Oprf" 269) (.string "VeilMintModel" 390) ∈ z_fl := by decide +kernel
theorem z_e2 : Jvm.Cond.eq (.string "VeilMint$Oprf" 274) (.string "VeilMintModel" 414) ∈ z_fl := by decide +kernel
theorem z_e3 : Jvm.Cond.eq (.string "VeilMint$Oprf" 251) (.string "VeilMintModel" 646) ∈ z_fl := by decide +kernel
theorem z_u1 : Jvm.Cond.eq (.static "java/lang/String" "COMPACT_STRINGS" "Z") (.int 1) ∈ z_fl := by decide +kernel
theorem z_u2 : Jvm.Cond.isRef (.static "jdk/internal/util/Preconditions" "SIOOBE_FORMATTER" "Ljava/util/function/BiFunction;") ∈ z_fl := by decide +kernel
theorem z_u3 : Jvm.Cond.eq (.static "java/lang/StringUTF16" "$assertionsDisabled" "Z") (.int 1) ∈ z_fl := by decide +kernel
theorem z_u4 : Jvm.Cond.eq (.static "java/lang/StringUTF16" "HI_BYTE_SHIFT" "I") (.int 0) ∈ z_fl := by decide +kernel
theorem z_u5 : Jvm.Cond.eq (.static "java/lang/StringUTF16" "LO_BYTE_SHIFT" "I") (.int 8) ∈ z_fl := by decide +kernel
theorem z_u6 : Jvm.Cond.isRef (.static Bundle.tN "UNASSIGNED_STACK" Bundle.steD) ∈ z_fl := by decide +kernel
theorem z_u7 : Jvm.Cond.isRef (.static Bundle.tN "SUPPRESSED_SENTINEL" Bundle.listD) ∈ z_fl := by decide +kernel
theorem z_f9 (hs : ∀ c ∈ z_fl, c.before args s = true) : ∃ (a9 : Nat) (f9 : Value), f9.category = 1 ∧ ∀ G : vm_G, G.2.1 14 = a9 → (Term.static "jdk/internal/util/Preconditions" "SIOOBE_FORMATTER" "Ljava/util/function/BiFunction;").eval args s none [] s = some (vm_v G f9) := by
  obtain ⟨v, h1, h2⟩ := Cond.isRef_spec (hs _ z_u2)
  cases v with
  | null => exact ⟨0, .null, rfl, fun G _ => h1⟩
  | ref a => exact ⟨a, .ref (1099511627776 + 14), rfl, fun G e => by rw [z_ov, e]; exact h1⟩
  | _ => simp [Value.isRef] at h2
set_option maxRecDepth 20000 in
theorem z_st {G : vm_G} {f9 : Value} {A : Nat → Prop} (hT : ∀ w ∈ tables_1, w.before args s = true) (hs : ∀ c ∈ z_fl, c.before args s = true) (hA : ∀ a : Nat, a < s.heap.size → ¬ A a) (e9 : (Term.static "jdk/internal/util/Preconditions" "SIOOBE_FORMATTER" "Ljava/util/function/BiFunction;").eval args s none [] s = some (vm_v G f9)) (w1 : (Term.static "VeilMintModel" "B" "[I").eval args s none [] s = some (.ref (G.2.1 1))) (w2 : (Term.static "VeilMintModel" "P" "[I").eval args s none [] s = some (.ref (G.2.1 2))) (w3 : (Term.static "VeilMintModel" "Q" "[I").eval args s none [] s = some (.ref (G.2.1 3))) (w4 : (Term.static "VeilMintModel" "STARTS" "[I").eval args s none [] s = some (.ref (G.2.1 4))) (w5 : (Term.static "VeilMintModel" "ROUNDS" "[I").eval args s none [] s = some (.ref (G.2.1 5))) (w6 : (Term.static "VeilMintModel" "WIDE_STARTS" "[J").eval args s none [] s = some (.ref (G.2.1 6))) (w7 : (Term.static "VeilMintModel" "WIDE_ROUNDS" "[J").eval args s none [] s = some (.ref (G.2.1 7))) (w8 : (Term.static "VeilMintModel" "GX" "[I").eval args s none [] s = some (.ref (G.2.1 8))) (w9 : (Term.static "VeilMintModel" "GY" "[I").eval args s none [] s = some (.ref (G.2.1 9))) (w10 : (Term.static "VeilMint$Hash" "START2" "[I").eval args s none [] s = some (.ref (G.2.1 10))) (w11 : (Term.static "VeilMint$Hash" "START3" "[J").eval args s none [] s = some (.ref (G.2.1 11))) (w12 : (Term.static "VeilMint$Hash" "K2" "[I").eval args s none [] s = some (.ref (G.2.1 12))) (w13 : (Term.static "VeilMint$Hash" "K3" "[J").eval args s none [] s = some (.ref (G.2.1 13))) : ∀ r ∈ vm_stt f9, va_Z r.1 r.2.1 r.2.2.1 (vm_v G r.2.2.2) A s s.heap := List.forall_mem_cons.mpr ⟨(va_Zof (hT _ (z_m1 (List.mem_of_getElem? (i := 112) rfl))) (hT _ (z_m1 (List.mem_of_getElem? (i := 8) rfl))) (va_eqi (hs _ z_u1)) hA), List.forall_mem_cons.mpr ⟨(va_Zof (hT _ (z_m1 (List.mem_of_getElem? (i := 128) rfl))) (hT _ (z_m1 (List.mem_of_getElem? (i := 10) rfl))) e9 hA), List.forall_mem_cons.mpr ⟨(va_Zof (hT _ (z_m1 (List.mem_of_getElem? (i := 146) rfl))) (hT _ (z_m1 (List.mem_of_getElem? (i := 11) rfl))) (va_eqi (hs _ z_u3)) hA), List.forall_mem_cons.mpr ⟨(va_Zof (hT _ (z_m1 (List.mem_of_getElem? (i := 148) rfl))) (hT _ (z_m1 (List.mem_of_getElem? (i := 11) rfl))) (va_eqi (hs _ z_u4)) hA), List.forall_mem_cons.mpr ⟨(va_Zof (hT _ (z_m1 (List.mem_of_getElem? (i := 150) rfl))) (hT _ (z_m1 (List.mem_of_getElem? (i := 11) rfl))) (va_eqi (hs _ z_u5)) hA), List.forall_mem_cons.mpr ⟨(va_Zof (hT _ (z_m8 (List.mem_of_getElem? (i := 145) rfl))) (hT _ (z_m1 (List.mem_of_getElem? (i := 18) rfl))) ((w1).trans (congrArg some (z_ov G 1).symm)) hA), List.forall_mem_cons.mpr ⟨(va_Zof (hT _ (z_m6 (List.mem_of_getElem? (i := 93) rfl))) (hT _ (z_m1 (List.mem_of_getElem? (i := 18) rfl))) ((w2).trans (congrArg some (z_ov G 2).symm)) hA), List.forall_mem_cons.mpr ⟨(va_Zof (hT _ (z_m6 (List.mem_of_getElem? (i := 103) rfl))) (hT _ (z_m1 (List.mem_of_getElem? (i := 18) rfl))) ((w3).trans (congrArg some (z_ov G 3).symm)) hA), List.forall_mem_cons.mpr ⟨(va_Zof (hT _ (z_m8 (List.mem_of_getElem? (i := 52) rfl))) (hT _ (z_m1 (List.mem_of_getElem? (i := 18) rfl))) ((w4).trans (congrArg some (z_ov G 4).symm)) hA), List.forall_mem_cons.mpr ⟨(va_Zof (hT _ (z_m8 (List.mem_of_getElem? (i := 61) rfl))) (hT _ (z_m1 (List.mem_of_getElem? (i := 18) rfl))) ((w5).trans (congrArg some (z_ov G 5).symm)) hA), List.forall_mem_cons.mpr ⟨(va_Zof (hT _ (z_m8 (List.mem_of_getElem? (i := 125) rfl))) (hT _ (z_m1 (List.mem_of_getElem? (i := 18) rfl))) ((w6).trans (congrArg some (z_ov G 6).symm)) hA), List.forall_mem_cons.mpr ⟨(va_Zof (hT _ (z_m8 (List.mem_of_getElem? (i := 135) rfl))) (hT _ (z_m1 (List.mem_of_getElem? (i := 18) rfl))) ((w7).trans (congrArg some (z_ov G 7).symm)) hA), List.forall_mem_cons.mpr ⟨(va_Zof (hT _ (z_m6 (List.mem_of_getElem? (i := 105) rfl))) (hT _ (z_m1 (List.mem_of_getElem? (i := 18) rfl))) ((w8).trans (congrArg some (z_ov G 8).symm)) hA), List.forall_mem_cons.mpr ⟨(va_Zof (hT _ (z_m6 (List.mem_of_getElem? (i := 110) rfl))) (hT _ (z_m1 (List.mem_of_getElem? (i := 18) rfl))) ((w9).trans (congrArg some (z_ov G 9).symm)) hA), List.forall_mem_cons.mpr ⟨(va_Zof (hT _ (z_m4 (List.mem_of_getElem? (i := 92) rfl))) (hT _ (z_m1 (List.mem_of_getElem? (i := 3) rfl))) ((w10).trans (congrArg some (z_ov G 10).symm)) hA), List.forall_mem_cons.mpr ⟨(va_Zof (hT _ (z_m4 (List.mem_of_getElem? (i := 154) rfl))) (hT _ (z_m1 (List.mem_of_getElem? (i := 3) rfl))) ((w11).trans (congrArg some (z_ov G 11).symm)) hA), List.forall_mem_cons.mpr ⟨(va_Zof (hT _ (z_m4 (List.mem_of_getElem? (i := 107) rfl))) (hT _ (z_m1 (List.mem_of_getElem? (i := 3) rfl))) ((w12).trans (congrArg some (z_ov G 12).symm)) hA), List.forall_mem_cons.mpr ⟨(va_Zof (hT _ (z_m4 (List.mem_of_getElem? (i := 165) rfl))) (hT _ (z_m1 (List.mem_of_getElem? (i := 3) rfl))) ((w13).trans (congrArg some (z_ov G 13).symm)) hA), fun _ h => absurd h List.not_mem_nil⟩⟩⟩⟩⟩⟩⟩⟩⟩⟩⟩⟩⟩⟩⟩⟩⟩⟩
set_option maxRecDepth 20000 in
theorem z_sr4 {G : vm_G} {q : Nat → Nat × Nat} (hT : ∀ w ∈ tables_1, w.before args s = true) (hs : ∀ c ∈ z_fl, c.before args s = true) (hq : ∀ i : Nat, i < 20 → (z_tm i).eval args s none [] s = some (.ref (q i).1)) (hk : ∀ i : Nat, G.2.1 (30 + 2 * i) = (q i).1) : ∀ r ∈ vm_srs, vk_R r.1 r.2.1 r.2.2.1 (vm_ad G r.2.2.2) s := List.forall_mem_cons.mpr ⟨(vk_R.of (A := args) (hT _ (z_m1 (List.mem_of_getElem? (i := 99) rfl))) ((hq 0 (by decide)).trans (congrArg (fun n => some (Value.ref n)) ((z_oad G (30 + 2 * 0)).trans (hk 0)).symm))), List.forall_mem_cons.mpr ⟨(vk_R.of (A := args) (hT _ (z_m2 (List.mem_of_getElem? (i := 11) rfl))) ((hq 1 (by decide)).trans (congrArg (fun n => some (Value.ref n)) ((z_oad G (30 + 2 * 1)).trans (hk 1)).symm))), List.forall_mem_cons.mpr ⟨(vk_R.of (A := args) (hT _ (z_m2 (List.mem_of_getElem? (i := 14) rfl))) ((hq 2 (by decide)).trans (congrArg (fun n => some (Value.ref n)) ((z_oad G (30 + 2 * 2)).trans (hk 2)).symm))), List.forall_mem_cons.mpr ⟨(vk_R.of (A := args) (hT _ (z_m2 (List.mem_of_getElem? (i := 101) rfl))) ((hq 3 (by decide)).trans (congrArg (fun n => some (Value.ref n)) ((z_oad G (30 + 2 * 3)).trans (hk 3)).symm))), List.forall_mem_cons.mpr ⟨(vk_R.of (A := args) (hT _ (z_m2 (List.mem_of_getElem? (i := 180) rfl))) ((hq 4 (by decide)).trans (congrArg (fun n => some (Value.ref n)) ((z_oad G (30 + 2 * 4)).trans (hk 4)).symm))), List.forall_mem_cons.mpr ⟨(vk_R.of (A := args) (hT _ (z_m4 (List.mem_of_getElem? (i := 135) rfl))) ((hq 5 (by decide)).trans (congrArg (fun n => some (Value.ref n)) ((z_oad G (30 + 2 * 5)).trans (hk 5)).symm))), List.forall_mem_cons.mpr ⟨(vk_R.of (A := args) (hT _ (z_m5 (List.mem_of_getElem? (i := 34) rfl))) ((hq 6 (by decide)).trans (congrArg (fun n => some (Value.ref n)) ((z_oad G (30 + 2 * 6)).trans (hk 6)).symm))), List.forall_mem_cons.mpr ⟨(vk_R.of (A := args) (hT _ (z_m5 (List.mem_of_getElem? (i := 35) rfl))) ((hq 7 (by decide)).trans (congrArg (fun n => some (Value.ref n)) ((z_oad G (30 + 2 * 7)).trans (hk 7)).symm))), List.forall_mem_cons.mpr ⟨(vk_R.of (A := args) (hT _ (z_m5 (List.mem_of_getElem? (i := 40) rfl))) ((hq 8 (by decide)).trans (congrArg (fun n => some (Value.ref n)) ((z_oad G (30 + 2 * 8)).trans (hk 8)).symm))), List.forall_mem_cons.mpr ⟨(vk_R.of (A := args) (hT _ (z_m5 (List.mem_of_getElem? (i := 50) rfl))) ((hq 9 (by decide)).trans (congrArg (fun n => some (Value.ref n)) ((z_oad G (30 + 2 * 9)).trans (hk 9)).symm))), List.forall_mem_cons.mpr ⟨(vk_R.of (A := args) (hT _ (z_m5 (List.mem_of_getElem? (i := 85) rfl))) ((hq 10 (by decide)).trans (congrArg (fun n => some (Value.ref n)) ((z_oad G (30 + 2 * 10)).trans (hk 10)).symm))), List.forall_mem_cons.mpr ⟨(vk_R.of (A := args) (hT _ (z_m5 (List.mem_of_getElem? (i := 190) rfl))) ((hq 11 (by decide)).trans (congrArg (fun n => some (Value.ref n)) ((z_oad G (30 + 2 * 11)).trans (hk 11)).symm))), List.forall_mem_cons.mpr ⟨(vk_R.of (A := args) (hT _ (z_m5 (List.mem_of_getElem? (i := 223) rfl))) ((hq 12 (by decide)).trans (congrArg (fun n => some (Value.ref n)) ((z_oad G (30 + 2 * 12)).trans (hk 12)).symm))), List.forall_mem_cons.mpr ⟨(vk_R.of (A := args) (hT _ (z_m5 (List.mem_of_getElem? (i := 235) rfl))) ((hq 13 (by decide)).trans (congrArg (fun n => some (Value.ref n)) ((z_oad G (30 + 2 * 13)).trans (hk 13)).symm))), List.forall_mem_cons.mpr ⟨(vk_R.of (A := args) (hT _ (z_m6 (List.mem_of_getElem? (i := 35) rfl))) ((hq 14 (by decide)).trans (congrArg (fun n => some (Value.ref n)) ((z_oad G (30 + 2 * 14)).trans (hk 14)).symm))), List.forall_mem_cons.mpr ⟨(vk_R.of (A := args) (hT _ (z_m8 (List.mem_of_getElem? (i := 95) rfl))) ((hq 15 (by decide)).trans (congrArg (fun n => some (Value.ref n)) ((z_oad G (30 + 2 * 15)).trans (hk 15)).symm))), List.forall_mem_cons.mpr ⟨(vk_R.of (A := args) (hT _ (z_m8 (List.mem_of_getElem? (i := 110) rfl))) ((hq 16 (by decide)).trans (congrArg (fun n => some (Value.ref n)) ((z_oad G (30 + 2 * 16)).trans (hk 16)).symm))), List.forall_mem_cons.mpr ⟨(vk_R.of (A := args) (hT _ (z_m8 (List.mem_of_getElem? (i := 111) rfl))) ((hq 17 (by decide)).trans (congrArg (fun n => some (Value.ref n)) ((z_oad G (30 + 2 * 17)).trans (hk 17)).symm))), List.forall_mem_cons.mpr ⟨(vk_R.of (A := args) (hT _ (z_m8 (List.mem_of_getElem? (i := 219) rfl))) ((hq 18 (by decide)).trans (congrArg (fun n => some (Value.ref n)) ((z_oad G (30 + 2 * 18)).trans (hk 18)).symm))), List.forall_mem_cons.mpr ⟨(vk_R.of (A := args) (hT _ (z_m8 (List.mem_of_getElem? (i := 228) rfl))) ((z_eqr (hs _ z_e1) (hq 7 (by decide))).trans (congrArg (fun n => some (Value.ref n)) ((z_oad G (30 + 2 * 7)).trans (hk 7)).symm))), List.forall_mem_cons.mpr ⟨(vk_R.of (A := args) (hT _ (z_m8 (List.mem_of_getElem? (i := 237) rfl))) ((hq 19 (by decide)).trans (congrArg (fun n => some (Value.ref n)) ((z_oad G (30 + 2 * 19)).trans (hk 19)).symm))), List.forall_mem_cons.mpr ⟨(vk_R.of (A := args) (hT _ (z_m9 (List.mem_of_getElem? (i := 2) rfl))) ((z_eqr (hs _ z_e2) (hq 9 (by decide))).trans (congrArg (fun n => some (Value.ref n)) ((z_oad G (30 + 2 * 9)).trans (hk 9)).symm))), List.forall_mem_cons.mpr ⟨(vk_R.of (A := args) (hT _ (z_m9 (List.mem_of_getElem? (i := 31) rfl))) ((z_eqr (hs _ z_e3) (hq 10 (by decide))).trans (congrArg (fun n => some (Value.ref n)) ((z_oad G (30 + 2 * 10)).trans (hk 10)).symm))), fun _ h => absurd h List.not_mem_nil⟩⟩⟩⟩⟩⟩⟩⟩⟩⟩⟩⟩⟩⟩⟩⟩⟩⟩⟩⟩⟩⟩⟩
set_option maxRecDepth 20000 in
theorem z_K {b L : Nat} {xs : Nat → Int32} (hT : ∀ w ∈ tables_1, w.before args s = true) (hw : ∀ w ∈ vm_wt, w.before args s = true) (hg : z_c.before args s = true) (hX : va_X b L xs s s.heap) (hb : b < s.heap.size) (hL : L ≤ 3072) : ∃ (G : vm_G) (f9 : Value), f9.category = 1 ∧ G.1 = s.heap.size ∧ G.2.1 0 = b ∧ G.2.2.2.2 = s.heap ∧ vm_K G (vm_env l (z_O L xs) f9) s := by
  have hs : ∀ c ∈ z_fl, c.before args s = true := flat_of_before z_c hg
  have hA : ∀ a : Nat, a < s.heap.size → ¬ (s.heap.size ≤ a) := fun a h => by omega
  obtain ⟨D, hD⟩ := z_d hT hw
  obtain ⟨cA, hcA⟩ := z_a hT
  obtain ⟨q, hq⟩ := z_q (A := fun q => s.heap.size ≤ q) hs hA
  obtain ⟨a9, f9, h9, e9⟩ := z_f9 hs
  obtain ⟨t1, w1, T1⟩ := z_arI (N := 12) (A := fun q => s.heap.size ≤ q) hs hA (by decide) z_s1
  obtain ⟨t2, w2, T2⟩ := z_arI (N := 12) (A := fun q => s.heap.size ≤ q) hs hA (by decide) z_s2
  obtain ⟨t3, w3, T3⟩ := z_arI (N := 12) (A := fun q => s.heap.size ≤ q) hs hA (by decide) z_s3
  obtain ⟨t4, w4, T4⟩ := z_arI (N := 8) (A := fun q => s.heap.size ≤ q) hs hA (by decide) z_s4
  obtain ⟨t5, w5, T5⟩ := z_arI (N := 64) (A := fun q => s.heap.size ≤ q) hs hA (by decide) z_s5
  obtain ⟨t6, w6, T6⟩ := z_arL (N := 8) (A := fun q => s.heap.size ≤ q) hs hA (by decide) z_s6
  obtain ⟨t7, w7, T7⟩ := z_arL (N := 80) (A := fun q => s.heap.size ≤ q) hs hA (by decide) z_s7
  obtain ⟨t8, w8, T8⟩ := z_arI (N := 12) (A := fun q => s.heap.size ≤ q) hs hA (by decide) z_s8
  obtain ⟨t9, w9, T9⟩ := z_arI (N := 12) (A := fun q => s.heap.size ≤ q) hs hA (by decide) z_s9
  obtain ⟨t10, w10, T10⟩ := z_arI (N := 8) (A := fun q => s.heap.size ≤ q) hs hA (by decide) z_s10
  obtain ⟨t11, w11, T11⟩ := z_arL (N := 8) (A := fun q => s.heap.size ≤ q) hs hA (by decide) z_s11
  obtain ⟨t12, w12, T12⟩ := z_arI (N := 64) (A := fun q => s.heap.size ≤ q) hs hA (by decide) z_s12
  obtain ⟨t13, w13, T13⟩ := z_arL (N := 80) (A := fun q => s.heap.size ≤ q) hs hA (by decide) z_s13
  refine ⟨(s.heap.size, z_ad b [0, t1, t2, t3, t4, t5, t6, t7, t8, t9, t10, t11, t12, t13] a9 q, (fun c => (D c).1, fun c => (D c).2), cA, s.heap), f9, h9, rfl, rfl, rfl, ⟨hD, fun k r hk => ?_⟩, fun k hk => ?_, z_st hT hs hA (e9 _ rfl) w1 w2 w3 w4 w5 w6 w7 w8 w9 w10 w11 w12 w13, z_sr4 (q := q) hT hs (fun i hi => (hq i hi).1) (fun i => z_adK _ _ _ _ i), vx_Zqof (hT _ (z_m5 (List.mem_of_getElem? (i := 178) rfl))) (hT _ (z_m1 (List.mem_of_getElem? (i := 24) rfl))) (hs _ z_u6) hA, vx_Zqof (hT _ (z_m5 (List.mem_of_getElem? (i := 180) rfl))) (hT _ (z_m1 (List.mem_of_getElem? (i := 24) rfl))) (hs _ z_u7) hA⟩
  · obtain ⟨ty, h1, rfl⟩ := List.mem_map.mp (List.mem_of_getElem? hk)
    exact hcA ty h1
  · match k with
    | 0 =>
      obtain ⟨scr, x1, x2, x3, x4, x5⟩ := hX
      exact ⟨⟨scr, x1, x2, x3, by omega, by rw [x4], x5, hA b hb⟩, by omega, fun _ _ => rfl⟩
    | 1 => exact ⟨T1, by decide, fun _ _ => rfl⟩
    | 2 => exact ⟨T2, by decide, fun _ _ => rfl⟩
    | 3 => exact ⟨T3, by decide, fun _ _ => rfl⟩
    | 4 => exact ⟨T4, by decide, fun _ _ => rfl⟩
    | 5 => exact ⟨T5, by decide, fun _ _ => rfl⟩
    | 6 => exact ⟨T6, by decide, rfl⟩
    | 7 => exact ⟨T7, by decide, rfl⟩
    | 8 => exact ⟨T8, by decide, fun _ _ => rfl⟩
    | 9 => exact ⟨T9, by decide, fun _ _ => rfl⟩
    | 10 => exact ⟨T10, by decide, fun _ _ => rfl⟩
    | 11 => exact ⟨T11, by decide, rfl⟩
    | 12 => exact ⟨T12, by decide, fun _ _ => rfl⟩
    | 13 => exact ⟨T13, by decide, rfl⟩
    | k + 14 =>
      have hk : z_str k ≠ vm_no := hk
      have hr : 16 ≤ k ∧ k < 56 := by
        rcases Nat.lt_or_ge k 16 with z | z
        · refine absurd ?_ hk
          unfold z_str
          rw [show Nat.ble 16 k = false from by cases e : Nat.ble 16 k with | false => rfl | true => have := Nat.le_of_ble_eq_true e; omega]
          rfl
        · rcases Nat.lt_or_ge k 56 with z2 | z2
          · exact ⟨z, z2⟩
          · refine absurd ?_ hk
            unfold z_str
            rw [show Nat.blt k 56 = false from by cases e : Nat.blt k 56 with | false => rfl | true => have : k + 1 ≤ 56 := Nat.le_of_ble_eq_true e; omega, Bool.and_false]
      show vm_old _ _ (z_str k) _ s
      rcases Nat.mod_two_eq_zero_or_one k with z | z
      · obtain ⟨i, rfl⟩ : ∃ i, k = 16 + 2 * i := ⟨(k - 16) / 2, by omega⟩
        have hi : i < 20 := by omega
        obtain ⟨-, o1, o2, o3, o4⟩ := hq i hi
        rw [z_strK hi, show 16 + 2 * i + 14 = 30 + 2 * i by omega]
        refine ⟨rfl, show vm_cls.length < 500 by decide, ?_, ?_⟩
        · show va_O "java/lang/String" (z_ad b _ a9 q (30 + 2 * i)) _ s s.heap
          rw [z_adK]; exact o1
        · intro j v hv
          show va_OF _ _ _ _ (z_ad b _ a9 q (30 + 2 * i)) _ s s.heap
          rw [z_adK]
          match j, hv with
          | 0, hv =>
            cases hv
            rw [z_ov]
            show va_OF _ _ _ (.ref (z_ad b [0, t1, t2, t3, t4, t5, t6, t7, t8, t9, t10, t11, t12, t13] a9 q (16 + 2 * i + 15))) _ _ s s.heap
            rw [show 16 + 2 * i + 15 = 31 + 2 * i by omega, z_adV]
            exact o3
          | 1, hv => cases hv; exact o2
      · obtain ⟨i, rfl⟩ : ∃ i, k = 17 + 2 * i := ⟨(k - 17) / 2, by omega⟩
        have hi : i < 20 := by omega
        obtain ⟨-, o1, o2, o3, o4⟩ := hq i hi
        rw [z_strV hi, show 17 + 2 * i + 14 = 31 + 2 * i by omega]
        refine ⟨?_, z_lens i hi, z_fits i hi⟩
        show va_T _ (z_ad b _ a9 q (31 + 2 * i)) _ _ _ s s.heap
        rw [z_adV]; exact o4
end
