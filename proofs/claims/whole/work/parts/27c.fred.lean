/-! VeilMint$Field.reduce -/
theorem lZ_shl4 (z : Int) : lZ z <<< ((4 : Int32).toInt64 &&& 63) = lZ (z * 16) := lZ_shl z (k := 4) (by decide)
theorem lZ_shl12 (z : Int) : lZ z <<< ((12 : Int32).toInt64 &&& 63) = lZ (z * 4096) := lZ_shl z (k := 12) (by decide)
theorem lZ_shl16 (z : Int) : lZ z <<< ((16 : Int32).toInt64 &&& 63) = lZ (z * 65536) := lZ_shl z (k := 16) (by decide)
theorem lZ_shl20 (z : Int) : lZ z <<< ((20 : Int32).toInt64 &&& 63) = lZ (z * 1048576) := lZ_shl z (k := 20) (by decide)
/-- a change at one place of an array that is known up to L -/
theorem cutf_v {g f : Nat → Int64} {L k : Nat} {v : Int64} (hk : k < L) : vp_updL (cutf g f L) k v = cutf (fun q => if q = k then v else g q) f L := by
  refine cutf_u hk (if_pos rfl) (fun q hq _ => (if_neg hq).symm)
section
variable {l : Launch} {O : Nat → vm_Ob} {f9 : Value}
theorem s_red {h : vm_H} {m c w nc T : Nat} {fs : List Value} {fc fw : Nat → Int64} {u : Nat → Int} (hm : h.2 m = .inr (3, fs)) (f8 : fs[8]? = some (.ref w)) (hc : h.2 c = .inl (.long, nc, .inr (.inl fc))) (hw : h.2 w = .inl (.long, 28, .inr (.inl fw))) (hwc : w ≠ c) (hnc : 14 ≤ nc) (hco : c < 1099511627776) (hwo : w < 1099511627776) (hu : ∀ q, q < 27 → fw q = lZ (u q)) (hu27 : u 27 = 0) (hub : ∀ q, 0 ≤ u q ∧ u q ≤ 1008806309014798350) (hT : vz (fun j => rd u 14 (14 + j)) 14 = T) :
    vm_Met (vm_env l O f9) mX3_reduce 0 0 [.ref m, .ref c] h (fun r h' => r = none ∧ ∃ g : Nat → Int64, h' = vm_up (vm_up h w (.inl (.long, 28, .inr (.inl g)))) c (.inl (.long, nc, .inr (.inl (cutf (fun j => lZ (dg T j)) fc 14))))) := by
  have hmc : m ≠ c := fun e => by rw [e, hc] at hm; cases hm
  have hmw : m ≠ w := fun e => by rw [e, hw] at hm; cases hm
  have bb := rd_bd hub
  refine vm_met rfl (Nat.le_of_ble_eq_true rfl) ?_
  refine vm_go rfl bX3_reduce_0 oX3_reduce_0 ⟨fs, _, hm, f8, ⟨28, _, hw, hwo, 27, rfl, by decide, ?_⟩⟩
  refine vm_Th (lv' := [(0, .ref m), (1, .ref c), (2, .int (nI 0))]) (h' := vm_up h w (.inl (.long, 28, .inr (.inl (cutf (fun q => lZ (rd u 0 q)) fw 28))))) rfl ?_ ?_
  · refine congrArg (fun f => vm_up h w (.inl (.long, 28, .inr (.inl f)))) ?_
    funext q
    unfold vp_updL cutf
    by_cases q1 : q = 27
    · subst q1
      rw [if_pos rfl, if_pos (by decide)]
      show lZ (u 27) = _
      rw [hu27]; rfl
    · rw [if_neg q1]
      by_cases q2 : q < 28
      · rw [if_pos q2, hu q (by omega)]; rfl
      · rw [if_neg q2]
  refine vm_for 14 (fun i => [(0, .ref m), (1, .ref c), (2, .int (nI i))]) (fun i => vm_up h w (.inl (.long, 28, .inr (.inl (cutf (fun q => lZ (rd u i q)) fw 28))))) 0 (Nat.zero_le _) ?_ ?_
  · refine vm_go rfl bX3_reduce_10 oX3_reduce_10 ⟨fun _ => ?_, fun q => absurd (by decide) q⟩
    refine vm_go rfl bX3_reduce_105 oX3_reduce_105 ?_
    generalize hW : cutf (fun q => lZ (rd u 14 q)) fw 28 = W
    have hW2 : ∀ j, j < 28 → W j = lZ (rd u 14 j) := by intro j hj; rw [← hW, cutf_lo hj]
    generalize hG : (fun j => rd u 14 (14 + j)) = G at hT
    have hG2 : ∀ j, rd u 14 (14 + j) = G j := by intro j; rw [← hG]
    have hGb : ∀ j, -1152921504606846976 ≤ G j ∧ G j ≤ 1152921504606846976 := by
      intro j
      rw [← hG2]
      have := bb 14 (Nat.le_refl _) (14 + j)
      omega
    refine vm_Th (lv' := [(0, .ref m), (1, .ref c), (2, .long (lZ (vz G 0 / 268435456 ^ 0))), (4, .int (nI 0))]) (h' := vm_up (vm_up h w (.inl (.long, 28, .inr (.inl W)))) c (.inl (.long, nc, .inr (.inl (cutf (fun j => lZ (dg T j)) fc 0))))) (by rw [show vz G 0 = 0 from rfl, Int.zero_ediv]; rfl) (by rw [cutf_0]; exact vm_ups ((vm_upn (Ne.symm hwc)).trans hc)) ?_
    refine vm_for 14 (fun i => [(0, .ref m), (1, .ref c), (2, .long (lZ (vz G i / 268435456 ^ i))), (4, .int (nI i))]) (fun i => vm_up (vm_up h w (.inl (.long, 28, .inr (.inl W)))) c (.inl (.long, nc, .inr (.inl (cutf (fun j => lZ (dg T j)) fc i))))) 0 (Nat.zero_le _) ?_ ?_
    · refine vm_go rfl bX3_reduce_110 oX3_reduce_110 ⟨fun _ => ?_, fun q => absurd (by decide) q⟩
      exact vm_go rfl bX3_reduce_153 oX3_reduce_153 ⟨rfl, W, rfl⟩
    · intro i _ hi ih
      refine vm_go rfl bX3_reduce_110 oX3_reduce_110 ⟨fun q => absurd q (nI_ge hi (by decide : 14 < 2147483648)), fun _ => ?_⟩
      refine ⟨fs, _, (vm_upn hmc).trans ((vm_upn hmw).trans hm), f8, ?_⟩
      refine ⟨28, W, (vm_upn hwc).trans vm_upe, 14 + i, nI_add 14 i, by omega, ?_⟩
      refine ⟨nc, _, vm_upe, hco, i, rfl, by omega, ?_⟩
      rw [hW2 (14 + i) (by omega), hG2]
      have e1 := vz_dgs G T i (13 - i) (by rw [show i + 1 + (13 - i) = 14 by omega]; exact hT)
      have e2 := vz_cy (f := G) i (fun j _ => hGb j)
      have e3 := hGb i
      have e4 := dg_lt T i
      refine vm_less [0, 1, 2, 3] rfl ?_
      generalize vz G i / 268435456 ^ i = c0 at *
      refine vm_Th ?_ ?_ ih
      · show _ = [(0, Value.ref m), (1, .ref c), (2, .long ((lZ (G i) + lZ c0) >>> ((28 : Int32).toInt64 &&& 63))), (4, .int (nI i + 1))]
        rw [lZ_add, lZ_28 (by omega) (by omega), nI_1]
        generalize vz G (i + 1) / 268435456 ^ (i + 1) = c1 at *
        rw [show (G i + c0) / 268435456 = c1 by omega]
      · rw [vm_upup, cutf_sL]
        rw [lZ_add, lZ_m28]
        refine congrArg lZ ?_
        omega
  · intro i _ hi ih
    refine vm_go rfl bX3_reduce_10 oX3_reduce_10 ⟨fun q => absurd q (nI_ge hi (by decide : 14 < 2147483648)), fun _ => ?_⟩
    have hm' : ∀ g, (vm_up h w g).2 m = .inr (3, fs) := fun g => (vm_upn hmw).trans hm
    have b1 := bb i (by omega) i
    refine ⟨fs, _, hm' _, f8, ⟨28, _, vm_upe, i, rfl, by omega, ?_⟩⟩
    rw [cutf_lo (by omega)]
    refine ⟨fs, _, hm' _, f8, ⟨28, _, vm_upe, i + 1, nI_add i 1, by omega, ⟨28, _, vm_upe, hwo, i + 1, nI_add i 1, by omega, ?_⟩⟩⟩
    rw [vm_upup, cutf_lo (by omega), cutf_v (by omega), lZ_m28, lZ_28 (by omega) (by omega), lZ_shl4, lZ_add, lZ_add]
    refine ⟨fs, _, hm' _, f8, ⟨28, _, vm_upe, i + 3, nI_add i 3, by omega, ⟨28, _, vm_upe, hwo, i + 3, nI_add i 3, by omega, ?_⟩⟩⟩
    rw [vm_upup, cutf_lo (by omega), cutf_v (by omega), lZ_shl12]
    refine ⟨fs, _, hm' _, f8, ⟨28, _, vm_upe, i + 4, nI_add i 4, by omega, ⟨28, _, vm_upe, hwo, i + 4, nI_add i 4, by omega, ?_⟩⟩⟩
    rw [vm_upup, cutf_lo (by omega), cutf_v (by omega), lZ_shl16]
    refine ⟨fs, _, hm' _, f8, ⟨28, _, vm_upe, i + 13, nI_add i 13, by omega, ⟨28, _, vm_upe, hwo, i + 13, nI_add i 13, by omega, ?_⟩⟩⟩
    rw [vm_upup, cutf_lo (by omega), cutf_v (by omega), lZ_shl20]
    refine vm_less [0, 1, 2] rfl ?_
    refine vm_Th ?_ ?_ ih
    · rw [← nI_1]; rfl
    · refine congrArg (fun f => vm_up h w (.inl (.long, 28, .inr (.inl f)))) (cutf_e (fun q hq => ?_))
      show lZ (rd_s (rd u i) i q) = _
      unfold rd_s
      by_cases c1 : q = i + 13
      · subst c1
        simp only [if_pos, if_neg (show ¬ i + 13 = i + 1 by omega), if_neg (show ¬ i + 13 = i + 3 by omega), if_neg (show ¬ i + 13 = i + 4 by omega)]
        rw [lZ_add]
        refine congrArg lZ ?_
        simp
      · by_cases c2 : q = i + 4
        · subst c2
          simp only [if_pos, if_neg (show ¬ i + 4 = i + 1 by omega), if_neg (show ¬ i + 4 = i + 3 by omega), if_neg (show ¬ i + 4 = i + 13 by omega)]
          rw [lZ_sub]
          refine congrArg lZ ?_
          simp; omega
        · by_cases c3 : q = i + 3
          · subst c3
            simp only [if_pos, if_neg (show ¬ i + 3 = i + 1 by omega), if_neg (show ¬ i + 3 = i + 4 by omega), if_neg (show ¬ i + 3 = i + 13 by omega)]
            rw [lZ_sub]
            refine congrArg lZ ?_
            simp; omega
          · by_cases c4 : q = i + 1
            · subst c4
              simp only [if_pos, if_neg (show ¬ i + 1 = i + 3 by omega), if_neg (show ¬ i + 1 = i + 4 by omega), if_neg (show ¬ i + 1 = i + 13 by omega)]
              simp
            · simp only [if_neg c1, if_neg c2, if_neg c3, if_neg c4]
              simp
end
