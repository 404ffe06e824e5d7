/-! VeilMint$Row: what its methods do -/
section
variable {l : Launch} {O : Nat → vm_Ob} {f9 : Value}
theorem s_same {h : vm_H} {a b na nb at9 bt many : Nat} {f g : Nat → Int32} (ha : h.2 a = .inl (.byte, na, .inl f)) (hb : h.2 b = .inl (.byte, nb, .inl g)) (h1 : at9 + many ≤ na) (h2 : bt + many ≤ nb) (hm : many < 2 ^ 31) :
    vm_Met (vm_env l O f9) mX9_same 0 0 [.ref a, .int (nI at9), .ref b, .int (nI bt), .int (nI many)] h (fun r h' => h' = h ∧ ∃ x : Int32, r = some (.int x) ∧ (x = 1 ∧ (∀ i, i < many → f (at9 + i) = g (bt + i)) ∨ x = 0 ∧ ∃ i, i < many ∧ f (at9 + i) ≠ g (bt + i))) := by
  refine vm_met rfl (Nat.le_of_ble_eq_true rfl) ?_
  refine vm_go rfl bX9_same_0 oX9_same_0 ?_
  show vm_T (vm_env l O f9) mX9_same 0 0 3 [(0, .ref a), (1, .int (nI at9)), (2, .ref b), (3, .int (nI bt)), (4, .int (nI many)), (5, .int 0)] [] h _
  have loop : ∀ k i : Nat, i + k = many → (∀ j, j < i → f (at9 + j) = g (bt + j)) → vm_T (vm_env l O f9) mX9_same 0 0 3 [(0, .ref a), (1, .int (nI at9)), (2, .ref b), (3, .int (nI bt)), (4, .int (nI many)), (5, .int (nI i))] [] h (fun r h' => h' = h ∧ ∃ x : Int32, r = some (.int x) ∧ (x = 1 ∧ (∀ i, i < many → f (at9 + i) = g (bt + i)) ∨ x = 0 ∧ ∃ i, i < many ∧ f (at9 + i) ≠ g (bt + i))) := by
    intro k
    induction k with
    | zero =>
      intro i hi hj
      refine vm_go rfl bX9_same_3 oX9_same_3 ⟨fun q => ?_, fun q => absurd (nI_le (by omega) (by omega)) q⟩
      refine vm_go rfl bX9_same_33 oX9_same_33 ?_
      exact ⟨rfl, rfl, 1, rfl, Or.inl ⟨rfl, fun j hj2 => hj j (by omega)⟩⟩
    | succ k ih =>
      intro i hi hj
      refine vm_go rfl bX9_same_3 oX9_same_3 ⟨fun q => absurd q (nI_ge (by omega) (by omega)), fun q => ?_⟩
      refine ⟨na, f, ha, at9 + i, nI_add _ _, by omega, fun _ => ⟨nb, g, hb, bt + i, nI_add _ _, by omega, fun _ => ⟨fun e => ?_, fun e => ?_⟩⟩⟩
      · refine vm_go rfl bX9_same_27 oX9_same_27 ?_
        show vm_T (vm_env l O f9) mX9_same 0 0 3 [(0, .ref a), (1, .int (nI at9)), (2, .ref b), (3, .int (nI bt)), (4, .int (nI many)), (5, .int (nI i + 1))] [] h _
        rw [nI_1]
        exact ih (i + 1) (by omega) (fun j hj2 => by
          rcases Nat.lt_or_ge j i with q | q
          · exact hj j q
          · rw [show j = i by omega]; exact e)
      · exact ⟨rfl, rfl, 0, rfl, Or.inr ⟨rfl, i, by omega, e⟩⟩
  exact loop many 0 (by omega) (fun j hj => absurd hj (Nat.not_lt_zero j))
end
