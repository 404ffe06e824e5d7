/-! new reference: its cells -/
def g09 (i : Nat) : Int32 := if i = 71 then -1 else 0
def z9 : Nat → Int32 := fun _ => 0
/-- the cells that the fields begin with -/
def R0 (h : vm_H) (a : Nat) : Prop := (h.1 = a + 168 ∧ h.2 a = RO a g09) ∧ (∀ i, ZI i → ia h (zi i) (a + i) z9) ∧ (∀ i, ZB i → h.2 (a + i) = .inl (.byte, zb i, .inl z9)) ∧ (lw h 8 (a + 32) ∧ lw h 80 (a + 33)) ∧ (∀ s, ZP s → s < 168 → SQ h (a + s)) ∧ (h.2 (a + 8) = .inr (12, [.ref (a + 9), .ref (a + 10), .int 0, .int 0]) ∧ ia h 64 (a + 9) z9 ∧ ia h 64 (a + 10) z9) ∧ (h.2 (a + 11) = .inr (12, [.ref (a + 12), .ref (a + 13), .int 0, .int 0]) ∧ ia h 64 (a + 12) z9 ∧ ia h 64 (a + 13) z9) ∧ (h.2 (a + 14) = SPo (a + 14) 0 ∧ ia h 12 (a + 15) z9 ∧ ia h 12 (a + 16) z9) ∧ (ia h 12 (a + 26) z9 ∧ ia h 12 (a + 46) z9 ∧ ia h 12 (a + 47) z9) ∧ (h.2 (a + 50) = .inl (.object "VeilMintModel$Spot", 8, .inr (.inr (.inr (.inr (fun _ => none))))) ∧ h.2 (a + 51) = .inl (.object "VeilMintModel$Spot", 8, .inr (.inr (.inr (.inr (fun _ => none)))))) ∧ (h.2 (a + 83) = .inl (.object "VeilMintModel$Spot", 6, .inr (.inr (.inr (.inr (fun _ => none))))) ∧ h.2 (a + 84) = .inl (.object "VeilMintModel$Mod", 6, .inr (.inr (.inr (.inr (fun _ => none)))))) ∧ (ia h 6 (a + 73) z9 ∧ bo9 h 6 (a + 74) z9 ∧ h.2 (a + 75) = .inl (.byte, 192, .inl z9) ∧ rr9 h (.array .int) 6 (a + 76) (fun i => a + 77 + i) ∧ (∀ i, i < 6 → ia h 64 (a + 77 + i) z9) ∧ ia h 6 (a + 85) z9 ∧ ia h 6 (a + 86) z9 ∧ ia h 6 (a + 87) z9) ∧ (ia h 60 (a + 88) z9 ∧ bo9 h 60 (a + 89) z9 ∧ h.2 (a + 90) = .inl (.byte, 5880, .inl z9) ∧ rr9 h (.array .int) 60 (a + 91) (fun i => a + 92 + i) ∧ (∀ i, i < 60 → ia h 64 (a + 92 + i) z9)) ∧ (h.2 (a + 152) = .inl (.byte, 4096, .inl z9) ∧ h.2 (a + 153) = .inl (.byte, 1208, .inl z9) ∧ h.2 (a + 154) = .inl (.byte, 2900, .inl z9))
theorem ne_a {a k : Nat} (h : 0 < k) : a + k ≠ a := by omega
theorem lt_a {a j k : Nat} (h : j < k) : a + j < a + k := by omega
theorem lt_i {a j i n k : Nat} (h : i < n) (e : j + n ≤ k) : a + j + i < a + k := by omega
theorem ne_i {a j i : Nat} (h : 0 < j) : a + j + i ≠ a := by omega
theorem UU_t {h1 h2 h3 : vm_H} {a m n : Nat} (hmn : m ≤ n) (e1 : ∀ q, q ≠ a → q < a + n ∨ 1099511627776 ≤ q → h3.2 q = h2.2 q) (e2 : ∀ q, q ≠ a → q < a + m ∨ 1099511627776 ≤ q → h2.2 q = h1.2 q) : ∀ q, q ≠ a → q < a + m ∨ 1099511627776 ≤ q → h3.2 q = h1.2 q := fun q z1 z2 => (e1 q z1 (by omega)).trans (e2 q z1 z2)
def lst9 (F : Nat → Value) : List Value := (List.range 89).map F
theorem lst_set {F : Nat → Value} {k : Nat} {v : Value} : (lst9 F).set k v = lst9 (fu F k v) := by
  refine List.ext_getElem? (fun i => ?_)
  unfold lst9
  rw [List.getElem?_set]
  by_cases e : k = i
  · subst e
    rw [if_pos rfl, List.length_map, List.length_range]
    by_cases c : k < 89
    · rw [if_pos c, List.getElem?_map, List.getElem?_range c]; show some v = some (fu F k v k); rw [fu_e]
    · rw [if_neg c, List.getElem?_eq_none (by rw [List.length_map, List.length_range]; omega)]
  · rw [if_neg e, List.getElem?_map, List.getElem?_map]
    by_cases c : i < 89
    · rw [List.getElem?_range c]; show some (F i) = some (fu F k v i); rw [fu_n (fun z => e z.symm)]
    · rw [List.getElem?_eq_none (by rw [List.length_range]; omega)]; rfl
theorem lst_ex (F : Nat → Value) : lst9 F = [F 0, F 1, F 2, F 3, F 4, F 5, F 6, F 7, F 8, F 9, F 10, F 11, F 12, F 13, F 14, F 15, F 16, F 17, F 18, F 19, F 20, F 21, F 22, F 23, F 24, F 25, F 26, F 27, F 28, F 29, F 30, F 31, F 32, F 33, F 34, F 35, F 36, F 37, F 38, F 39, F 40, F 41, F 42, F 43, F 44, F 45, F 46, F 47, F 48, F 49, F 50, F 51, F 52, F 53, F 54, F 55, F 56, F 57, F 58, F 59, F 60, F 61, F 62, F 63, F 64, F 65, F 66, F 67, F 68, F 69, F 70, F 71, F 72, F 73, F 74, F 75, F 76, F 77, F 78, F 79, F 80, F 81, F 82, F 83, F 84, F 85, F 86, F 87, F 88] := rfl
def F09 (i : Nat) : Value := (vm_df 14).getD i .null
theorem F09_e : vm_df 14 = lst9 F09 := rfl
theorem len6 {fs : List Value} {i : Nat} {v : Value} (h : fs.length = 89) : (fs.set i v).length = 89 := by rw [List.length_set]; exact h
section
variable {l : Launch} {O : Nat → vm_Ob} {f9 : Value}
set_option maxHeartbeats 4000000 in
theorem ref_0 {h : vm_H} {a : Nat} {Q : Option Value → vm_H → Prop} (m0 : h.2 a = .inr (14, vm_df 14)) (c0 : h.1 = a + 1) (hh : a + 5000 < 1099511627776) (K : ∀ (h1 : vm_H), R0 h1 a → (∀ q, q ≠ a → q < a + 1 ∨ 1099511627776 ≤ q → h1.2 q = h.2 q) → vm_T (vm_env l O f9) mX14_init 84 1386 683 [(0, .ref a)] [] h1 Q) : vm_T (vm_env l O f9) mX14_init 251 26437 0 [(0, .ref a)] [] h Q := by
  have hl0 : (vm_df 14).length = 89 := rfl
  obtain ⟨fs0, ef0⟩ : ∃ fs0, fs0 = vm_df 14 := ⟨_, rfl⟩
  rw [← ef0] at m0 hl0
  obtain ⟨F0, eF0⟩ : ∃ F0, F0 = F09 := ⟨_, rfl⟩
  have el0 : fs0 = lst9 F0 := by rw [ef0, F09_e, eF0]
  refine rj_1 m0 hl0 c0 hh ?_
  intro k1 c1 m1 x1_0 x1_1 x1_2 x1_3 x1_4 x1_5 u1
  obtain ⟨fs1, ef1⟩ : ∃ fs1, fs1 = ((((((fs0.set 1 (.ref (a + 1))).set 2 (.ref (a + 2))).set 3 (.ref (a + 3))).set 4 (.ref (a + 4))).set 5 (.ref (a + 5))).set 6 (.ref (a + 6))) := ⟨_, rfl⟩
  rw [← ef1] at m1
  obtain ⟨F1, eF1⟩ : ∃ F1, F1 = (fu (fu (fu (fu (fu (fu F0 1 (.ref (a + 1))) 2 (.ref (a + 2))) 3 (.ref (a + 3))) 4 (.ref (a + 4))) 5 (.ref (a + 5))) 6 (.ref (a + 6))) := ⟨_, rfl⟩
  have el1 : fs1 = lst9 F1 := by rw [ef1, el0, lst_set, lst_set, lst_set, lst_set, lst_set, lst_set, eF1]
  have hl1 : fs1.length = 89 := by rw [ef1]; exact (len6 (len6 (len6 (len6 (len6 (len6 hl0))))))
  refine rj_2 m1 hl1 c1 hh ?_
  intro k2 c2 m2 x2_0 x2_1 x2_2 x2_3 x2_4 x2_5 x2_6 x2_7 x2_8 x2_9 x2_10 x2_11 x2_12 x2_13 x2_14 x2_15 u2
  obtain ⟨fs2, ef2⟩ : ∃ fs2, fs2 = ((((((fs1.set 7 (.ref (a + 7))).set 8 (.ref (a + 8))).set 9 (.ref (a + 11))).set 10 (.ref (a + 14))).set 11 (.ref (a + 17))).set 12 (.ref (a + 20))) := ⟨_, rfl⟩
  rw [← ef2] at m2
  obtain ⟨F2, eF2⟩ : ∃ F2, F2 = (fu (fu (fu (fu (fu (fu F1 7 (.ref (a + 7))) 8 (.ref (a + 8))) 9 (.ref (a + 11))) 10 (.ref (a + 14))) 11 (.ref (a + 17))) 12 (.ref (a + 20))) := ⟨_, rfl⟩
  have el2 : fs2 = lst9 F2 := by rw [ef2, el1, lst_set, lst_set, lst_set, lst_set, lst_set, lst_set, eF2]
  have hl2 : fs2.length = 89 := by rw [ef2]; exact (len6 (len6 (len6 (len6 (len6 (len6 hl1))))))
  refine rj_3 m2 hl2 c2 hh ?_
  intro k3 c3 m3 x3_0 x3_1 x3_2 x3_3 x3_4 x3_5 u3
  obtain ⟨fs3, ef3⟩ : ∃ fs3, fs3 = ((((((fs2.set 13 (.ref (a + 23))).set 14 (.ref (a + 24))).set 15 (.ref (a + 25))).set 16 (.ref (a + 26))).set 17 (.ref (a + 27))).set 18 (.ref (a + 28))) := ⟨_, rfl⟩
  rw [← ef3] at m3
  obtain ⟨F3, eF3⟩ : ∃ F3, F3 = (fu (fu (fu (fu (fu (fu F2 13 (.ref (a + 23))) 14 (.ref (a + 24))) 15 (.ref (a + 25))) 16 (.ref (a + 26))) 17 (.ref (a + 27))) 18 (.ref (a + 28))) := ⟨_, rfl⟩
  have el3 : fs3 = lst9 F3 := by rw [ef3, el2, lst_set, lst_set, lst_set, lst_set, lst_set, lst_set, eF3]
  have hl3 : fs3.length = 89 := by rw [ef3]; exact (len6 (len6 (len6 (len6 (len6 (len6 hl2))))))
  refine rj_4 m3 hl3 c3 hh ?_
  intro k4 c4 m4 x4_0 x4_1 x4_2 x4_3 x4_4 x4_5 u4
  obtain ⟨fs4, ef4⟩ : ∃ fs4, fs4 = ((((((fs3.set 20 (.ref (a + 29))).set 21 (.ref (a + 30))).set 22 (.ref (a + 31))).set 23 (.ref (a + 32))).set 24 (.ref (a + 33))).set 25 (.ref (a + 34))) := ⟨_, rfl⟩
  rw [← ef4] at m4
  obtain ⟨F4, eF4⟩ : ∃ F4, F4 = (fu (fu (fu (fu (fu (fu F3 20 (.ref (a + 29))) 21 (.ref (a + 30))) 22 (.ref (a + 31))) 23 (.ref (a + 32))) 24 (.ref (a + 33))) 25 (.ref (a + 34))) := ⟨_, rfl⟩
  have el4 : fs4 = lst9 F4 := by rw [ef4, el3, lst_set, lst_set, lst_set, lst_set, lst_set, lst_set, eF4]
  have hl4 : fs4.length = 89 := by rw [ef4]; exact (len6 (len6 (len6 (len6 (len6 (len6 hl3))))))
  refine rj_5 m4 hl4 c4 hh ?_
  intro k5 c5 m5 x5_0 x5_1 x5_2 x5_3 x5_4 x5_5 x5_6 x5_7 u5
  obtain ⟨fs5, ef5⟩ : ∃ fs5, fs5 = ((((((fs4.set 27 (.ref (a + 35))).set 29 (.ref (a + 36))).set 30 (.ref (a + 37))).set 31 (.ref (a + 38))).set 32 (.ref (a + 39))).set 33 (.ref (a + 42))) := ⟨_, rfl⟩
  rw [← ef5] at m5
  obtain ⟨F5, eF5⟩ : ∃ F5, F5 = (fu (fu (fu (fu (fu (fu F4 27 (.ref (a + 35))) 29 (.ref (a + 36))) 30 (.ref (a + 37))) 31 (.ref (a + 38))) 32 (.ref (a + 39))) 33 (.ref (a + 42))) := ⟨_, rfl⟩
  have el5 : fs5 = lst9 F5 := by rw [ef5, el4, lst_set, lst_set, lst_set, lst_set, lst_set, lst_set, eF5]
  have hl5 : fs5.length = 89 := by rw [ef5]; exact (len6 (len6 (len6 (len6 (len6 (len6 hl4))))))
  refine rj_6 m5 hl5 c5 hh ?_
  intro k6 c6 m6 x6_0 x6_1 x6_2 x6_3 x6_4 x6_5 u6
  obtain ⟨fs6, ef6⟩ : ∃ fs6, fs6 = ((((((fs5.set 34 (.ref (a + 43))).set 35 (.ref (a + 44))).set 36 (.ref (a + 45))).set 37 (.ref (a + 46))).set 38 (.ref (a + 47))).set 39 (.ref (a + 48))) := ⟨_, rfl⟩
  rw [← ef6] at m6
  obtain ⟨F6, eF6⟩ : ∃ F6, F6 = (fu (fu (fu (fu (fu (fu F5 34 (.ref (a + 43))) 35 (.ref (a + 44))) 36 (.ref (a + 45))) 37 (.ref (a + 46))) 38 (.ref (a + 47))) 39 (.ref (a + 48))) := ⟨_, rfl⟩
  have el6 : fs6 = lst9 F6 := by rw [ef6, el5, lst_set, lst_set, lst_set, lst_set, lst_set, lst_set, eF6]
  have hl6 : fs6.length = 89 := by rw [ef6]; exact (len6 (len6 (len6 (len6 (len6 (len6 hl5))))))
  refine rj_7 m6 hl6 c6 hh ?_
  intro k7 c7 m7 x7_0 x7_1 x7_2 x7_3 x7_4 x7_5 x7_6 x7_7 x7_8 x7_9 x7_10 x7_11 u7
  obtain ⟨fs7, ef7⟩ : ∃ fs7, fs7 = ((((((fs6.set 40 (.ref (a + 49))).set 41 (.ref (a + 50))).set 42 (.ref (a + 51))).set 43 (.ref (a + 52))).set 44 (.ref (a + 55))).set 45 (.ref (a + 58))) := ⟨_, rfl⟩
  rw [← ef7] at m7
  obtain ⟨F7, eF7⟩ : ∃ F7, F7 = (fu (fu (fu (fu (fu (fu F6 40 (.ref (a + 49))) 41 (.ref (a + 50))) 42 (.ref (a + 51))) 43 (.ref (a + 52))) 44 (.ref (a + 55))) 45 (.ref (a + 58))) := ⟨_, rfl⟩
  have el7 : fs7 = lst9 F7 := by rw [ef7, el6, lst_set, lst_set, lst_set, lst_set, lst_set, lst_set, eF7]
  have hl7 : fs7.length = 89 := by rw [ef7]; exact (len6 (len6 (len6 (len6 (len6 (len6 hl6))))))
  refine rj_8 m7 hl7 c7 hh ?_
  intro k8 c8 m8 x8_0 x8_1 x8_2 x8_3 x8_4 x8_5 x8_6 x8_7 x8_8 x8_9 u8
  obtain ⟨fs8, ef8⟩ : ∃ fs8, fs8 = ((((((fs7.set 46 (.ref (a + 61))).set 47 (.ref (a + 64))).set 48 (.ref (a + 67))).set 49 (.ref (a + 68))).set 50 (.ref (a + 69))).set 51 (.ref (a + 70))) := ⟨_, rfl⟩
  rw [← ef8] at m8
  obtain ⟨F8, eF8⟩ : ∃ F8, F8 = (fu (fu (fu (fu (fu (fu F7 46 (.ref (a + 61))) 47 (.ref (a + 64))) 48 (.ref (a + 67))) 49 (.ref (a + 68))) 50 (.ref (a + 69))) 51 (.ref (a + 70))) := ⟨_, rfl⟩
  have el8 : fs8 = lst9 F8 := by rw [ef8, el7, lst_set, lst_set, lst_set, lst_set, lst_set, lst_set, eF8]
  have hl8 : fs8.length = 89 := by rw [ef8]; exact (len6 (len6 (len6 (len6 (len6 (len6 hl7))))))
  refine rj_9 m8 hl8 c8 hh ?_
  intro k9 c9 m9 x9_0 x9_1 x9_2 x9_3 x9_4 x9_5 x9_6 u9
  obtain ⟨fs9, ef9⟩ : ∃ fs9, fs9 = ((((((fs8.set 52 (.ref (a + 71))).set 53 (.ref (a + 72))).set 54 (.ref (a + 73))).set 55 (.ref (a + 74))).set 56 (.ref (a + 75))).set 57 (.ref (a + 76))) := ⟨_, rfl⟩
  rw [← ef9] at m9
  obtain ⟨F9, eF9⟩ : ∃ F9, F9 = (fu (fu (fu (fu (fu (fu F8 52 (.ref (a + 71))) 53 (.ref (a + 72))) 54 (.ref (a + 73))) 55 (.ref (a + 74))) 56 (.ref (a + 75))) 57 (.ref (a + 76))) := ⟨_, rfl⟩
  have el9 : fs9 = lst9 F9 := by rw [ef9, el8, lst_set, lst_set, lst_set, lst_set, lst_set, lst_set, eF9]
  have hl9 : fs9.length = 89 := by rw [ef9]; exact (len6 (len6 (len6 (len6 (len6 (len6 hl8))))))
  refine rj_10 m9 hl9 c9 hh ?_
  intro k10 c10 m10 x10_0 x10_1 x10_2 x10_3 x10_4 x10_5 u10
  obtain ⟨fs10, ef10⟩ : ∃ fs10, fs10 = ((((((fs9.set 58 (.ref (a + 83))).set 59 (.ref (a + 84))).set 60 (.ref (a + 85))).set 61 (.ref (a + 86))).set 62 (.ref (a + 87))).set 64 (.ref (a + 88))) := ⟨_, rfl⟩
  rw [← ef10] at m10
  obtain ⟨F10, eF10⟩ : ∃ F10, F10 = (fu (fu (fu (fu (fu (fu F9 58 (.ref (a + 83))) 59 (.ref (a + 84))) 60 (.ref (a + 85))) 61 (.ref (a + 86))) 62 (.ref (a + 87))) 64 (.ref (a + 88))) := ⟨_, rfl⟩
  have el10 : fs10 = lst9 F10 := by rw [ef10, el9, lst_set, lst_set, lst_set, lst_set, lst_set, lst_set, eF10]
  have hl10 : fs10.length = 89 := by rw [ef10]; exact (len6 (len6 (len6 (len6 (len6 (len6 hl9))))))
  refine rj_11 m10 hl10 c10 hh ?_
  intro k11 c11 m11 x11_0 x11_1 x11_2 x11_3 x11_4 x11_5 u11
  obtain ⟨fs11, ef11⟩ : ∃ fs11, fs11 = ((((((fs10.set 65 (.ref (a + 89))).set 66 (.ref (a + 90))).set 67 (.ref (a + 91))).set 69 (.ref (a + 152))).set 71 (.int (-1))).set 74 (.ref (a + 153))) := ⟨_, rfl⟩
  rw [← ef11] at m11
  obtain ⟨F11, eF11⟩ : ∃ F11, F11 = (fu (fu (fu (fu (fu (fu F10 65 (.ref (a + 89))) 66 (.ref (a + 90))) 67 (.ref (a + 91))) 69 (.ref (a + 152))) 71 (.int (-1))) 74 (.ref (a + 153))) := ⟨_, rfl⟩
  have el11 : fs11 = lst9 F11 := by rw [ef11, el10, lst_set, lst_set, lst_set, lst_set, lst_set, lst_set, eF11]
  have hl11 : fs11.length = 89 := by rw [ef11]; exact (len6 (len6 (len6 (len6 (len6 (len6 hl10))))))
  refine rj_12 m11 hl11 c11 hh ?_
  intro k12 c12 m12 x12_0 x12_1 x12_2 x12_3 x12_4 x12_5 u12
  obtain ⟨fs12, ef12⟩ : ∃ fs12, fs12 = ((((((fs11.set 76 (.ref (a + 154))).set 78 (.ref (a + 155))).set 79 (.ref (a + 156))).set 80 (.ref (a + 157))).set 81 (.ref (a + 158))).set 82 (.ref (a + 159))) := ⟨_, rfl⟩
  rw [← ef12] at m12
  obtain ⟨F12, eF12⟩ : ∃ F12, F12 = (fu (fu (fu (fu (fu (fu F11 76 (.ref (a + 154))) 78 (.ref (a + 155))) 79 (.ref (a + 156))) 80 (.ref (a + 157))) 81 (.ref (a + 158))) 82 (.ref (a + 159))) := ⟨_, rfl⟩
  have el12 : fs12 = lst9 F12 := by rw [ef12, el11, lst_set, lst_set, lst_set, lst_set, lst_set, lst_set, eF12]
  have hl12 : fs12.length = 89 := by rw [ef12]; exact (len6 (len6 (len6 (len6 (len6 (len6 hl11))))))
  refine rj_13 m12 hl12 c12 hh ?_
  intro k13 c13 m13 x13_0 x13_1 x13_2 x13_3 x13_4 x13_5 x13_6 x13_7 u13
  obtain ⟨fs13, ef13⟩ : ∃ fs13, fs13 = ((((((fs12.set 83 (.ref (a + 160))).set 84 (.ref (a + 161))).set 85 (.ref (a + 162))).set 86 (.ref (a + 163))).set 87 (.ref (a + 166))).set 88 (.ref (a + 167))) := ⟨_, rfl⟩
  rw [← ef13] at m13
  obtain ⟨F13, eF13⟩ : ∃ F13, F13 = (fu (fu (fu (fu (fu (fu F12 83 (.ref (a + 160))) 84 (.ref (a + 161))) 85 (.ref (a + 162))) 86 (.ref (a + 163))) 87 (.ref (a + 166))) 88 (.ref (a + 167))) := ⟨_, rfl⟩
  have el13 : fs13 = lst9 F13 := by rw [ef13, el12, lst_set, lst_set, lst_set, lst_set, lst_set, lst_set, eF13]
  have hl13 : fs13.length = 89 := by rw [ef13]; exact (len6 (len6 (len6 (len6 (len6 (len6 hl12))))))
  have E13 : ∀ q, q ≠ a → q < a + 168 ∨ 1099511627776 ≤ q → k13.2 q = k13.2 q := fun q _ _ => rfl
  have E12 : ∀ q, q ≠ a → q < a + 160 ∨ 1099511627776 ≤ q → k13.2 q = k12.2 q := UU_t (by decide) E13 u13
  have E11 : ∀ q, q ≠ a → q < a + 154 ∨ 1099511627776 ≤ q → k13.2 q = k11.2 q := UU_t (by decide) E12 u12
  have E10 : ∀ q, q ≠ a → q < a + 89 ∨ 1099511627776 ≤ q → k13.2 q = k10.2 q := UU_t (by decide) E11 u11
  have E9 : ∀ q, q ≠ a → q < a + 83 ∨ 1099511627776 ≤ q → k13.2 q = k9.2 q := UU_t (by decide) E10 u10
  have E8 : ∀ q, q ≠ a → q < a + 71 ∨ 1099511627776 ≤ q → k13.2 q = k8.2 q := UU_t (by decide) E9 u9
  have E7 : ∀ q, q ≠ a → q < a + 61 ∨ 1099511627776 ≤ q → k13.2 q = k7.2 q := UU_t (by decide) E8 u8
  have E6 : ∀ q, q ≠ a → q < a + 49 ∨ 1099511627776 ≤ q → k13.2 q = k6.2 q := UU_t (by decide) E7 u7
  have E5 : ∀ q, q ≠ a → q < a + 43 ∨ 1099511627776 ≤ q → k13.2 q = k5.2 q := UU_t (by decide) E6 u6
  have E4 : ∀ q, q ≠ a → q < a + 35 ∨ 1099511627776 ≤ q → k13.2 q = k4.2 q := UU_t (by decide) E5 u5
  have E3 : ∀ q, q ≠ a → q < a + 29 ∨ 1099511627776 ≤ q → k13.2 q = k3.2 q := UU_t (by decide) E4 u4
  have E2 : ∀ q, q ≠ a → q < a + 23 ∨ 1099511627776 ≤ q → k13.2 q = k2.2 q := UU_t (by decide) E3 u3
  have E1 : ∀ q, q ≠ a → q < a + 7 ∨ 1099511627776 ≤ q → k13.2 q = k1.2 q := UU_t (by decide) E2 u2
  have E0 : ∀ q, q ≠ a → q < a + 1 ∨ 1099511627776 ≤ q → k13.2 q = h.2 q := UU_t (by decide) E1 u1
  have G1 : k13.2 (a + 1) = .inl (.int, 130, .inl (fun _ => 0)) := (E1 (a + 1) (ne_a (by decide)) (Or.inl (lt_a (by decide)))).trans x1_0
  have G2 : k13.2 (a + 2) = .inl (.int, 64, .inl (fun _ => 0)) := (E1 (a + 2) (ne_a (by decide)) (Or.inl (lt_a (by decide)))).trans x1_1
  have G3 : k13.2 (a + 3) = .inl (.int, 64, .inl (fun _ => 0)) := (E1 (a + 3) (ne_a (by decide)) (Or.inl (lt_a (by decide)))).trans x1_2
  have G4 : k13.2 (a + 4) = .inl (.int, 64, .inl (fun _ => 0)) := (E1 (a + 4) (ne_a (by decide)) (Or.inl (lt_a (by decide)))).trans x1_3
  have G5 : k13.2 (a + 5) = .inl (.int, 64, .inl (fun _ => 0)) := (E1 (a + 5) (ne_a (by decide)) (Or.inl (lt_a (by decide)))).trans x1_4
  have G6 : k13.2 (a + 6) = .inl (.int, 64, .inl (fun _ => 0)) := (E1 (a + 6) (ne_a (by decide)) (Or.inl (lt_a (by decide)))).trans x1_5
  have G7 : k13.2 (a + 7) = .inl (.int, 64, .inl (fun _ => 0)) := (E2 (a + 7) (ne_a (by decide)) (Or.inl (lt_a (by decide)))).trans x2_0
  have G8 : k13.2 (a + 8) = .inr (12, [.ref (a + 9), .ref (a + 10), .int 0, .int 0]) := (E2 (a + 8) (ne_a (by decide)) (Or.inl (lt_a (by decide)))).trans x2_1
  have G9 : k13.2 (a + 9) = .inl (.int, 64, .inl (fun _ => 0)) := (E2 (a + 9) (ne_a (by decide)) (Or.inl (lt_a (by decide)))).trans x2_2
  have G10 : k13.2 (a + 10) = .inl (.int, 64, .inl (fun _ => 0)) := (E2 (a + 10) (ne_a (by decide)) (Or.inl (lt_a (by decide)))).trans x2_3
  have G11 : k13.2 (a + 11) = .inr (12, [.ref (a + 12), .ref (a + 13), .int 0, .int 0]) := (E2 (a + 11) (ne_a (by decide)) (Or.inl (lt_a (by decide)))).trans x2_4
  have G12 : k13.2 (a + 12) = .inl (.int, 64, .inl (fun _ => 0)) := (E2 (a + 12) (ne_a (by decide)) (Or.inl (lt_a (by decide)))).trans x2_5
  have G13 : k13.2 (a + 13) = .inl (.int, 64, .inl (fun _ => 0)) := (E2 (a + 13) (ne_a (by decide)) (Or.inl (lt_a (by decide)))).trans x2_6
  have G14 : k13.2 (a + 14) = .inr (13, [.ref (a + 15), .ref (a + 16), .int 0]) := (E2 (a + 14) (ne_a (by decide)) (Or.inl (lt_a (by decide)))).trans x2_7
  have G15 : k13.2 (a + 15) = .inl (.int, 12, .inl (fun _ => 0)) := (E2 (a + 15) (ne_a (by decide)) (Or.inl (lt_a (by decide)))).trans x2_8
  have G16 : k13.2 (a + 16) = .inl (.int, 12, .inl (fun _ => 0)) := (E2 (a + 16) (ne_a (by decide)) (Or.inl (lt_a (by decide)))).trans x2_9
  have G17 : k13.2 (a + 17) = .inr (13, [.ref (a + 18), .ref (a + 19), .int 0]) := (E2 (a + 17) (ne_a (by decide)) (Or.inl (lt_a (by decide)))).trans x2_10
  have G18 : k13.2 (a + 18) = .inl (.int, 12, .inl (fun _ => 0)) := (E2 (a + 18) (ne_a (by decide)) (Or.inl (lt_a (by decide)))).trans x2_11
  have G19 : k13.2 (a + 19) = .inl (.int, 12, .inl (fun _ => 0)) := (E2 (a + 19) (ne_a (by decide)) (Or.inl (lt_a (by decide)))).trans x2_12
  have G20 : k13.2 (a + 20) = .inr (13, [.ref (a + 21), .ref (a + 22), .int 0]) := (E2 (a + 20) (ne_a (by decide)) (Or.inl (lt_a (by decide)))).trans x2_13
  have G21 : k13.2 (a + 21) = .inl (.int, 12, .inl (fun _ => 0)) := (E2 (a + 21) (ne_a (by decide)) (Or.inl (lt_a (by decide)))).trans x2_14
  have G22 : k13.2 (a + 22) = .inl (.int, 12, .inl (fun _ => 0)) := (E2 (a + 22) (ne_a (by decide)) (Or.inl (lt_a (by decide)))).trans x2_15
  have G23 : k13.2 (a + 23) = .inl (.int, 12, .inl (fun _ => 0)) := (E3 (a + 23) (ne_a (by decide)) (Or.inl (lt_a (by decide)))).trans x3_0
  have G24 : k13.2 (a + 24) = .inl (.int, 12, .inl (fun _ => 0)) := (E3 (a + 24) (ne_a (by decide)) (Or.inl (lt_a (by decide)))).trans x3_1
  have G25 : k13.2 (a + 25) = .inl (.int, 12, .inl (fun _ => 0)) := (E3 (a + 25) (ne_a (by decide)) (Or.inl (lt_a (by decide)))).trans x3_2
  have G26 : k13.2 (a + 26) = .inl (.int, 12, .inl (fun _ => 0)) := (E3 (a + 26) (ne_a (by decide)) (Or.inl (lt_a (by decide)))).trans x3_3
  have G27 : k13.2 (a + 27) = .inl (.int, 12, .inl (fun _ => 0)) := (E3 (a + 27) (ne_a (by decide)) (Or.inl (lt_a (by decide)))).trans x3_4
  have G28 : k13.2 (a + 28) = .inl (.byte, 2600, .inl (fun _ => 0)) := (E3 (a + 28) (ne_a (by decide)) (Or.inl (lt_a (by decide)))).trans x3_5
  have G29 : k13.2 (a + 29) = .inl (.byte, 48, .inl (fun _ => 0)) := (E4 (a + 29) (ne_a (by decide)) (Or.inl (lt_a (by decide)))).trans x4_0
  have G30 : k13.2 (a + 30) = .inl (.int, 8, .inl (fun _ => 0)) := (E4 (a + 30) (ne_a (by decide)) (Or.inl (lt_a (by decide)))).trans x4_1
  have G31 : k13.2 (a + 31) = .inl (.int, 64, .inl (fun _ => 0)) := (E4 (a + 31) (ne_a (by decide)) (Or.inl (lt_a (by decide)))).trans x4_2
  have G32 : k13.2 (a + 32) = .inl (.long, 8, .inr (.inl (fun _ => 0))) := (E4 (a + 32) (ne_a (by decide)) (Or.inl (lt_a (by decide)))).trans x4_3
  have G33 : k13.2 (a + 33) = .inl (.long, 80, .inr (.inl (fun _ => 0))) := (E4 (a + 33) (ne_a (by decide)) (Or.inl (lt_a (by decide)))).trans x4_4
  have G34 : k13.2 (a + 34) = .inl (.byte, 700, .inl (fun _ => 0)) := (E4 (a + 34) (ne_a (by decide)) (Or.inl (lt_a (by decide)))).trans x4_5
  have G35 : k13.2 (a + 35) = .inl (.byte, 48, .inl (fun _ => 0)) := (E5 (a + 35) (ne_a (by decide)) (Or.inl (lt_a (by decide)))).trans x5_0
  have G36 : k13.2 (a + 36) = .inl (.byte, 48, .inl (fun _ => 0)) := (E5 (a + 36) (ne_a (by decide)) (Or.inl (lt_a (by decide)))).trans x5_1
  have G37 : k13.2 (a + 37) = .inl (.byte, 48, .inl (fun _ => 0)) := (E5 (a + 37) (ne_a (by decide)) (Or.inl (lt_a (by decide)))).trans x5_2
  have G38 : k13.2 (a + 38) = .inl (.byte, 144, .inl (fun _ => 0)) := (E5 (a + 38) (ne_a (by decide)) (Or.inl (lt_a (by decide)))).trans x5_3
  have G39 : k13.2 (a + 39) = .inr (13, [.ref (a + 40), .ref (a + 41), .int 0]) := (E5 (a + 39) (ne_a (by decide)) (Or.inl (lt_a (by decide)))).trans x5_4
  have G40 : k13.2 (a + 40) = .inl (.int, 12, .inl (fun _ => 0)) := (E5 (a + 40) (ne_a (by decide)) (Or.inl (lt_a (by decide)))).trans x5_5
  have G41 : k13.2 (a + 41) = .inl (.int, 12, .inl (fun _ => 0)) := (E5 (a + 41) (ne_a (by decide)) (Or.inl (lt_a (by decide)))).trans x5_6
  have G42 : k13.2 (a + 42) = .inl (.int, 12, .inl (fun _ => 0)) := (E5 (a + 42) (ne_a (by decide)) (Or.inl (lt_a (by decide)))).trans x5_7
  have G43 : k13.2 (a + 43) = .inl (.int, 12, .inl (fun _ => 0)) := (E6 (a + 43) (ne_a (by decide)) (Or.inl (lt_a (by decide)))).trans x6_0
  have G44 : k13.2 (a + 44) = .inl (.int, 12, .inl (fun _ => 0)) := (E6 (a + 44) (ne_a (by decide)) (Or.inl (lt_a (by decide)))).trans x6_1
  have G45 : k13.2 (a + 45) = .inl (.int, 12, .inl (fun _ => 0)) := (E6 (a + 45) (ne_a (by decide)) (Or.inl (lt_a (by decide)))).trans x6_2
  have G46 : k13.2 (a + 46) = .inl (.int, 12, .inl (fun _ => 0)) := (E6 (a + 46) (ne_a (by decide)) (Or.inl (lt_a (by decide)))).trans x6_3
  have G47 : k13.2 (a + 47) = .inl (.int, 12, .inl (fun _ => 0)) := (E6 (a + 47) (ne_a (by decide)) (Or.inl (lt_a (by decide)))).trans x6_4
  have G48 : k13.2 (a + 48) = .inl (.int, 12, .inl (fun _ => 0)) := (E6 (a + 48) (ne_a (by decide)) (Or.inl (lt_a (by decide)))).trans x6_5
  have G49 : k13.2 (a + 49) = .inl (.int, 12, .inl (fun _ => 0)) := (E7 (a + 49) (ne_a (by decide)) (Or.inl (lt_a (by decide)))).trans x7_0
  have G50 : k13.2 (a + 50) = .inl (.object "VeilMintModel$Spot", 8, .inr (.inr (.inr (.inr (fun _ => none))))) := (E7 (a + 50) (ne_a (by decide)) (Or.inl (lt_a (by decide)))).trans x7_1
  have G51 : k13.2 (a + 51) = .inl (.object "VeilMintModel$Spot", 8, .inr (.inr (.inr (.inr (fun _ => none))))) := (E7 (a + 51) (ne_a (by decide)) (Or.inl (lt_a (by decide)))).trans x7_2
  have G52 : k13.2 (a + 52) = .inr (13, [.ref (a + 53), .ref (a + 54), .int 0]) := (E7 (a + 52) (ne_a (by decide)) (Or.inl (lt_a (by decide)))).trans x7_3
  have G53 : k13.2 (a + 53) = .inl (.int, 12, .inl (fun _ => 0)) := (E7 (a + 53) (ne_a (by decide)) (Or.inl (lt_a (by decide)))).trans x7_4
  have G54 : k13.2 (a + 54) = .inl (.int, 12, .inl (fun _ => 0)) := (E7 (a + 54) (ne_a (by decide)) (Or.inl (lt_a (by decide)))).trans x7_5
  have G55 : k13.2 (a + 55) = .inr (13, [.ref (a + 56), .ref (a + 57), .int 0]) := (E7 (a + 55) (ne_a (by decide)) (Or.inl (lt_a (by decide)))).trans x7_6
  have G56 : k13.2 (a + 56) = .inl (.int, 12, .inl (fun _ => 0)) := (E7 (a + 56) (ne_a (by decide)) (Or.inl (lt_a (by decide)))).trans x7_7
  have G57 : k13.2 (a + 57) = .inl (.int, 12, .inl (fun _ => 0)) := (E7 (a + 57) (ne_a (by decide)) (Or.inl (lt_a (by decide)))).trans x7_8
  have G58 : k13.2 (a + 58) = .inr (13, [.ref (a + 59), .ref (a + 60), .int 0]) := (E7 (a + 58) (ne_a (by decide)) (Or.inl (lt_a (by decide)))).trans x7_9
  have G59 : k13.2 (a + 59) = .inl (.int, 12, .inl (fun _ => 0)) := (E7 (a + 59) (ne_a (by decide)) (Or.inl (lt_a (by decide)))).trans x7_10
  have G60 : k13.2 (a + 60) = .inl (.int, 12, .inl (fun _ => 0)) := (E7 (a + 60) (ne_a (by decide)) (Or.inl (lt_a (by decide)))).trans x7_11
  have G61 : k13.2 (a + 61) = .inr (13, [.ref (a + 62), .ref (a + 63), .int 0]) := (E8 (a + 61) (ne_a (by decide)) (Or.inl (lt_a (by decide)))).trans x8_0
  have G62 : k13.2 (a + 62) = .inl (.int, 12, .inl (fun _ => 0)) := (E8 (a + 62) (ne_a (by decide)) (Or.inl (lt_a (by decide)))).trans x8_1
  have G63 : k13.2 (a + 63) = .inl (.int, 12, .inl (fun _ => 0)) := (E8 (a + 63) (ne_a (by decide)) (Or.inl (lt_a (by decide)))).trans x8_2
  have G64 : k13.2 (a + 64) = .inr (13, [.ref (a + 65), .ref (a + 66), .int 0]) := (E8 (a + 64) (ne_a (by decide)) (Or.inl (lt_a (by decide)))).trans x8_3
  have G65 : k13.2 (a + 65) = .inl (.int, 12, .inl (fun _ => 0)) := (E8 (a + 65) (ne_a (by decide)) (Or.inl (lt_a (by decide)))).trans x8_4
  have G66 : k13.2 (a + 66) = .inl (.int, 12, .inl (fun _ => 0)) := (E8 (a + 66) (ne_a (by decide)) (Or.inl (lt_a (by decide)))).trans x8_5
  have G67 : k13.2 (a + 67) = .inl (.byte, 48, .inl (fun _ => 0)) := (E8 (a + 67) (ne_a (by decide)) (Or.inl (lt_a (by decide)))).trans x8_6
  have G68 : k13.2 (a + 68) = .inl (.byte, 49, .inl (fun _ => 0)) := (E8 (a + 68) (ne_a (by decide)) (Or.inl (lt_a (by decide)))).trans x8_7
  have G69 : k13.2 (a + 69) = .inl (.int, 12, .inl (fun _ => 0)) := (E8 (a + 69) (ne_a (by decide)) (Or.inl (lt_a (by decide)))).trans x8_8
  have G70 : k13.2 (a + 70) = .inl (.int, 12, .inl (fun _ => 0)) := (E8 (a + 70) (ne_a (by decide)) (Or.inl (lt_a (by decide)))).trans x8_9
  have G71 : k13.2 (a + 71) = .inl (.int, 12, .inl (fun _ => 0)) := (E9 (a + 71) (ne_a (by decide)) (Or.inl (lt_a (by decide)))).trans x9_0
  have G72 : k13.2 (a + 72) = .inl (.int, 12, .inl (fun _ => 0)) := (E9 (a + 72) (ne_a (by decide)) (Or.inl (lt_a (by decide)))).trans x9_1
  have G73 : k13.2 (a + 73) = .inl (.int, 6, .inl (fun _ => 0)) := (E9 (a + 73) (ne_a (by decide)) (Or.inl (lt_a (by decide)))).trans x9_2
  have G74 : k13.2 (a + 74) = .inl (.boolean, 6, .inl (fun _ => 0)) := (E9 (a + 74) (ne_a (by decide)) (Or.inl (lt_a (by decide)))).trans x9_3
  have G75 : k13.2 (a + 75) = .inl (.byte, 192, .inl (fun _ => 0)) := (E9 (a + 75) (ne_a (by decide)) (Or.inl (lt_a (by decide)))).trans x9_4
  have G76 : k13.2 (a + 76) = .inl (.array .int, 6, .inr (.inr (.inr (.inr (fun j => if j < 6 then some (a + 76 + 1 + j) else none))))) := (E9 (a + 76) (ne_a (by decide)) (Or.inl (lt_a (by decide)))).trans x9_5
  have G77 : ∀ i, i < 6 → k13.2 (a + 77 + i) = .inl (.int, 64, .inl (fun _ => 0)) := fun i hi => (E9 _ (ne_i (by decide)) (Or.inl (lt_i hi (by decide)))).trans (x9_6 i hi)
  have G83 : k13.2 (a + 83) = .inl (.object "VeilMintModel$Spot", 6, .inr (.inr (.inr (.inr (fun _ => none))))) := (E10 (a + 83) (ne_a (by decide)) (Or.inl (lt_a (by decide)))).trans x10_0
  have G84 : k13.2 (a + 84) = .inl (.object "VeilMintModel$Mod", 6, .inr (.inr (.inr (.inr (fun _ => none))))) := (E10 (a + 84) (ne_a (by decide)) (Or.inl (lt_a (by decide)))).trans x10_1
  have G85 : k13.2 (a + 85) = .inl (.int, 6, .inl (fun _ => 0)) := (E10 (a + 85) (ne_a (by decide)) (Or.inl (lt_a (by decide)))).trans x10_2
  have G86 : k13.2 (a + 86) = .inl (.int, 6, .inl (fun _ => 0)) := (E10 (a + 86) (ne_a (by decide)) (Or.inl (lt_a (by decide)))).trans x10_3
  have G87 : k13.2 (a + 87) = .inl (.int, 6, .inl (fun _ => 0)) := (E10 (a + 87) (ne_a (by decide)) (Or.inl (lt_a (by decide)))).trans x10_4
  have G88 : k13.2 (a + 88) = .inl (.int, 60, .inl (fun _ => 0)) := (E10 (a + 88) (ne_a (by decide)) (Or.inl (lt_a (by decide)))).trans x10_5
  have G89 : k13.2 (a + 89) = .inl (.boolean, 60, .inl (fun _ => 0)) := (E11 (a + 89) (ne_a (by decide)) (Or.inl (lt_a (by decide)))).trans x11_0
  have G90 : k13.2 (a + 90) = .inl (.byte, 5880, .inl (fun _ => 0)) := (E11 (a + 90) (ne_a (by decide)) (Or.inl (lt_a (by decide)))).trans x11_1
  have G91 : k13.2 (a + 91) = .inl (.array .int, 60, .inr (.inr (.inr (.inr (fun j => if j < 60 then some (a + 91 + 1 + j) else none))))) := (E11 (a + 91) (ne_a (by decide)) (Or.inl (lt_a (by decide)))).trans x11_2
  have G92 : ∀ i, i < 60 → k13.2 (a + 92 + i) = .inl (.int, 64, .inl (fun _ => 0)) := fun i hi => (E11 _ (ne_i (by decide)) (Or.inl (lt_i hi (by decide)))).trans (x11_3 i hi)
  have G152 : k13.2 (a + 152) = .inl (.byte, 4096, .inl (fun _ => 0)) := (E11 (a + 152) (ne_a (by decide)) (Or.inl (lt_a (by decide)))).trans x11_4
  have G153 : k13.2 (a + 153) = .inl (.byte, 1208, .inl (fun _ => 0)) := (E11 (a + 153) (ne_a (by decide)) (Or.inl (lt_a (by decide)))).trans x11_5
  have G154 : k13.2 (a + 154) = .inl (.byte, 2900, .inl (fun _ => 0)) := (E12 (a + 154) (ne_a (by decide)) (Or.inl (lt_a (by decide)))).trans x12_0
  have G155 : k13.2 (a + 155) = .inl (.byte, 260, .inl (fun _ => 0)) := (E12 (a + 155) (ne_a (by decide)) (Or.inl (lt_a (by decide)))).trans x12_1
  have G156 : k13.2 (a + 156) = .inl (.byte, 260, .inl (fun _ => 0)) := (E12 (a + 156) (ne_a (by decide)) (Or.inl (lt_a (by decide)))).trans x12_2
  have G157 : k13.2 (a + 157) = .inl (.byte, 48, .inl (fun _ => 0)) := (E12 (a + 157) (ne_a (by decide)) (Or.inl (lt_a (by decide)))).trans x12_3
  have G158 : k13.2 (a + 158) = .inl (.int, 64, .inl (fun _ => 0)) := (E12 (a + 158) (ne_a (by decide)) (Or.inl (lt_a (by decide)))).trans x12_4
  have G159 : k13.2 (a + 159) = .inl (.int, 64, .inl (fun _ => 0)) := (E12 (a + 159) (ne_a (by decide)) (Or.inl (lt_a (by decide)))).trans x12_5
  have G160 : k13.2 (a + 160) = .inl (.int, 64, .inl (fun _ => 0)) := (E13 (a + 160) (ne_a (by decide)) (Or.inl (lt_a (by decide)))).trans x13_0
  have G161 : k13.2 (a + 161) = .inl (.int, 1, .inl (fun _ => 0)) := (E13 (a + 161) (ne_a (by decide)) (Or.inl (lt_a (by decide)))).trans x13_1
  have G162 : k13.2 (a + 162) = .inl (.int, 5, .inl (fun _ => 0)) := (E13 (a + 162) (ne_a (by decide)) (Or.inl (lt_a (by decide)))).trans x13_2
  have G163 : k13.2 (a + 163) = .inr (13, [.ref (a + 164), .ref (a + 165), .int 0]) := (E13 (a + 163) (ne_a (by decide)) (Or.inl (lt_a (by decide)))).trans x13_3
  have G164 : k13.2 (a + 164) = .inl (.int, 12, .inl (fun _ => 0)) := (E13 (a + 164) (ne_a (by decide)) (Or.inl (lt_a (by decide)))).trans x13_4
  have G165 : k13.2 (a + 165) = .inl (.int, 12, .inl (fun _ => 0)) := (E13 (a + 165) (ne_a (by decide)) (Or.inl (lt_a (by decide)))).trans x13_5
  have G166 : k13.2 (a + 166) = .inl (.int, 12, .inl (fun _ => 0)) := (E13 (a + 166) (ne_a (by decide)) (Or.inl (lt_a (by decide)))).trans x13_6
  have G167 : k13.2 (a + 167) = .inl (.byte, 384, .inl (fun _ => 0)) := (E13 (a + 167) (ne_a (by decide)) (Or.inl (lt_a (by decide)))).trans x13_7
  have mm : k13.2 a = RO a g09 := by
    rw [m13, el13, lst_ex, eF13, eF12, eF11, eF10, eF9, eF8, eF7, eF6, eF5, eF4, eF3, eF2, eF1, eF0]
    rfl
  refine K k13 ⟨⟨c13, mm⟩, ?_, ?_, ⟨⟨_, G32⟩, ⟨_, G33⟩⟩, ?_, ⟨G8, G9, G10⟩, ⟨G11, G12, G13⟩, ⟨G14, G15, G16⟩, ⟨G26, G46, G47⟩, ⟨G50, G51⟩, ⟨G83, G84⟩, ⟨G73, G74, G75, ⟨_, G76, fun k hk => if_pos hk⟩, G77, G85, G86, G87⟩, ⟨G88, G89, G90, ⟨_, G91, fun k hk => if_pos hk⟩, G92⟩, ⟨G152, G153, G154⟩⟩ E0
  · intro i z
    have z : i = 1 ∨ i = 2 ∨ i = 3 ∨ i = 4 ∨ i = 5 ∨ i = 6 ∨ i = 7 ∨ i = 23 ∨ i = 24 ∨ i = 25 ∨ i = 27 ∨ i = 30 ∨ i = 31 ∨ i = 42 ∨ i = 43 ∨ i = 44 ∨ i = 45 ∨ i = 48 ∨ i = 49 ∨ i = 69 ∨ i = 70 ∨ i = 71 ∨ i = 72 ∨ i = 158 ∨ i = 159 ∨ i = 160 ∨ i = 161 ∨ i = 162 ∨ i = 166 := by unfold ZI at z; omega
    rcases z with rfl | rfl | rfl | rfl | rfl | rfl | rfl | rfl | rfl | rfl | rfl | rfl | rfl | rfl | rfl | rfl | rfl | rfl | rfl | rfl | rfl | rfl | rfl | rfl | rfl | rfl | rfl | rfl | rfl
    · exact G1
    · exact G2
    · exact G3
    · exact G4
    · exact G5
    · exact G6
    · exact G7
    · exact G23
    · exact G24
    · exact G25
    · exact G27
    · exact G30
    · exact G31
    · exact G42
    · exact G43
    · exact G44
    · exact G45
    · exact G48
    · exact G49
    · exact G69
    · exact G70
    · exact G71
    · exact G72
    · exact G158
    · exact G159
    · exact G160
    · exact G161
    · exact G162
    · exact G166
  · intro i z
    have z : i = 28 ∨ i = 29 ∨ i = 34 ∨ i = 35 ∨ i = 36 ∨ i = 37 ∨ i = 38 ∨ i = 67 ∨ i = 68 ∨ i = 155 ∨ i = 156 ∨ i = 157 ∨ i = 167 := by unfold ZB at z; omega
    rcases z with rfl | rfl | rfl | rfl | rfl | rfl | rfl | rfl | rfl | rfl | rfl | rfl | rfl
    · exact G28
    · exact G29
    · exact G34
    · exact G35
    · exact G36
    · exact G37
    · exact G38
    · exact G67
    · exact G68
    · exact G155
    · exact G156
    · exact G157
    · exact G167
  · intro s z z2
    have z : s = 17 ∨ s = 20 ∨ s = 39 ∨ s = 52 ∨ s = 55 ∨ s = 58 ∨ s = 61 ∨ s = 64 ∨ s = 163 := by unfold ZP at z; omega
    rcases z with rfl | rfl | rfl | rfl | rfl | rfl | rfl | rfl | rfl
    · exact ⟨⟨_, G17⟩, ⟨_, G18⟩, ⟨_, G19⟩⟩
    · exact ⟨⟨_, G20⟩, ⟨_, G21⟩, ⟨_, G22⟩⟩
    · exact ⟨⟨_, G39⟩, ⟨_, G40⟩, ⟨_, G41⟩⟩
    · exact ⟨⟨_, G52⟩, ⟨_, G53⟩, ⟨_, G54⟩⟩
    · exact ⟨⟨_, G55⟩, ⟨_, G56⟩, ⟨_, G57⟩⟩
    · exact ⟨⟨_, G58⟩, ⟨_, G59⟩, ⟨_, G60⟩⟩
    · exact ⟨⟨_, G61⟩, ⟨_, G62⟩, ⟨_, G63⟩⟩
    · exact ⟨⟨_, G64⟩, ⟨_, G65⟩, ⟨_, G66⟩⟩
    · exact ⟨⟨_, G163⟩, ⟨_, G164⟩, ⟨_, G165⟩⟩
end
