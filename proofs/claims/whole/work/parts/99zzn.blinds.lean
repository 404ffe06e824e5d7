/-! the reference: blinds -/
def bX14_blindsOnex_0 : List vm_J := [(1, .aload_n 0, 0, 0, 0, .null), (3, .getfield 492, 14, 74, 0, .null), (2, .bipush 64, 0, 0, 0, .int 64), (2, .bipush 48, 0, 0, 0, .int 48), (1, .aload_n 0, 0, 0, 0, .null), (3, .getfield 395, 14, 50, 0, .null), (2, .bipush 12, 0, 0, 0, .int 12), (3, .invokestatic 176, 155, 5, 0, .null), (1, .aload_n 0, 0, 0, 0, .null), (3, .getfield 395, 14, 50, 0, .null), (3, .invokestatic 580, 164, 1, 0, .null), (3, .ifCond .ne 5, 29, 0, 0, .null), (1, .iconst 0, 0, 0, 0, .int 0), (1, .ireturn, 0, 0, 0, .null)]
set_option maxRecDepth 20000 in
theorem oX14_blindsOnex_0 : vm_okB 14 mX14_blindsOne 0 bX14_blindsOnex_0 = true := by decide +kernel
def bX14_blindsOnex_29 : List vm_J := [(1, .aload_n 0, 0, 0, 0, .null), (3, .getfield 395, 14, 50, 0, .null), (1, .aload_n 0, 0, 0, 0, .null), (3, .getfield 483, 14, 67, 0, .null), (1, .aload_n 0, 0, 0, 0, .null), (3, .getfield 598, 14, 68, 0, .null), (1, .aaload, 0, 0, 0, .null), (2, .bipush 12, 0, 0, 0, .int 12), (3, .invokestatic 68, 141, 3, 0, .null), (1, .aload_n 0, 0, 0, 0, .null), (1, .aload_n 0, 0, 0, 0, .null), (3, .getfield 480, 14, 66, 0, .null), (1, .iload_n 1, 0, 0, 0, .null), (2, .bipush 98, 0, 0, 0, .int 98), (1, .aload_n 0, 0, 0, 0, .null), (3, .getfield 522, 14, 86, 0, .null), (3, .invokevirtual 608, 183, 4, 14, .null), (1, .aload_n 0, 0, 0, 0, .null), (3, .getfield 522, 14, 86, 0, .null), (3, .getfield 113, 13, 2, 0, .null), (3, .ifCond .eq 5, 74, 0, 0, .null), (1, .iconst 0, 0, 0, 0, .int 0), (1, .ireturn, 0, 0, 0, .null)]
set_option maxRecDepth 20000 in
theorem oX14_blindsOnex_29 : vm_okB 14 mX14_blindsOne 29 bX14_blindsOnex_29 = true := by decide +kernel
def bX14_blindsOnex_74 : List vm_J := [(1, .aload_n 0, 0, 0, 0, .null), (1, .aload_n 0, 0, 0, 0, .null), (3, .getfield 483, 14, 67, 0, .null), (1, .aload_n 0, 0, 0, 0, .null), (3, .getfield 598, 14, 68, 0, .null), (1, .aaload, 0, 0, 0, .null), (1, .aload_n 0, 0, 0, 0, .null), (3, .getfield 522, 14, 86, 0, .null), (1, .aload_n 0, 0, 0, 0, .null), (3, .getfield 522, 14, 86, 0, .null), (3, .invokevirtual 404, 158, 3, 14, .null), (1, .aload_n 0, 0, 0, 0, .null), (3, .getfield 522, 14, 86, 0, .null), (3, .getfield 113, 13, 2, 0, .null), (3, .ifCond .ne 7, 109, 0, 0, .null), (1, .iconst 1, 0, 0, 0, .int 1), (3, .goto 4, 110, 0, 0, .null)]
set_option maxRecDepth 20000 in
theorem oX14_blindsOnex_74 : vm_okB 14 mX14_blindsOne 74 bX14_blindsOnex_74 = true := by decide +kernel
def bX14_blindsOnex_109 : List vm_J := [(1, .iconst 0, 0, 0, 0, .int 0)]
set_option maxRecDepth 20000 in
theorem oX14_blindsOnex_109 : vm_okB 14 mX14_blindsOne 109 bX14_blindsOnex_109 = true := by decide +kernel
def bX14_blindsOnex_110 : List vm_J := [(1, .ireturn, 0, 0, 0, .null)]
set_option maxRecDepth 20000 in
theorem oX14_blindsOnex_110 : vm_okB 14 mX14_blindsOne 110 bX14_blindsOnex_110 = true := by decide +kernel
def bX14_blindsTwox_0 : List vm_J := [(1, .aload_n 0, 0, 0, 0, .null), (3, .getfield 461, 14, 59, 0, .null), (1, .iload_n 1, 0, 0, 0, .null), (1, .aaload, 0, 0, 0, .null), (1, .astore_n 3, 0, 0, 0, .null)]
set_option maxRecDepth 20000 in
theorem oX14_blindsTwox_0 : vm_okB 14 mX14_blindsTwo 0 bX14_blindsTwox_0 = true := by decide +kernel
def bX14_blindsTwox_7 : List vm_J := [(1, .aload_n 0, 0, 0, 0, .null), (3, .getfield 492, 14, 74, 0, .null), (2, .bipush 64, 0, 0, 0, .int 64), (1, .aload_n 0, 0, 0, 0, .null), (3, .getfield 471, 14, 62, 0, .null), (1, .iload_n 1, 0, 0, 0, .null), (1, .iaload, 0, 0, 0, .null), (1, .iadd, 0, 0, 0, .null), (1, .aload_n 0, 0, 0, 0, .null), (3, .getfield 468, 14, 61, 0, .null), (1, .iload_n 1, 0, 0, 0, .null), (1, .iaload, 0, 0, 0, .null), (1, .aload_n 0, 0, 0, 0, .null), (3, .getfield 507, 14, 81, 0, .null), (1, .aload_n 3, 0, 0, 0, .null), (3, .getfield 13, 12, 2, 0, .null), (3, .invokestatic 176, 155, 5, 0, .null), (1, .aload_n 0, 0, 0, 0, .null), (3, .getfield 507, 14, 81, 0, .null), (1, .aload_n 3, 0, 0, 0, .null), (3, .getfield 13, 12, 2, 0, .null), (3, .invokestatic 99, 140, 2, 0, .null), (3, .ifCond .ne 37, 85, 0, 0, .null), (1, .aload_n 0, 0, 0, 0, .null), (3, .getfield 507, 14, 81, 0, .null), (1, .aload_n 3, 0, 0, 0, .null), (3, .getfield 22, 12, 0, 0, .null), (1, .aload_n 3, 0, 0, 0, .null), (3, .getfield 13, 12, 2, 0, .null), (3, .invokestatic 26, 139, 3, 0, .null), (3, .ifCond .ge 19, 85, 0, 0, .null), (1, .aload_n 0, 0, 0, 0, .null), (1, .aload_n 3, 0, 0, 0, .null), (1, .aload_n 0, 0, 0, 0, .null), (3, .getfield 507, 14, 81, 0, .null), (1, .aload_n 0, 0, 0, 0, .null), (3, .getfield 513, 14, 83, 0, .null), (3, .invokevirtual 142, 154, 3, 14, .null), (3, .ifCond .ne 5, 87, 0, 0, .null)]
set_option maxRecDepth 20000 in
theorem oX14_blindsTwox_7 : vm_okB 14 mX14_blindsTwo 7 bX14_blindsTwox_7 = true := by decide +kernel
def bX14_blindsTwox_85 : List vm_J := [(1, .iconst 0, 0, 0, 0, .int 0), (1, .ireturn, 0, 0, 0, .null)]
set_option maxRecDepth 20000 in
theorem oX14_blindsTwox_85 : vm_okB 14 mX14_blindsTwo 85 bX14_blindsTwox_85 = true := by decide +kernel
def bX14_blindsTwox_87 : List vm_J := [(1, .aload_n 0, 0, 0, 0, .null), (3, .getfield 507, 14, 81, 0, .null), (1, .aload_n 0, 0, 0, 0, .null), (3, .getfield 483, 14, 67, 0, .null), (1, .aload_n 0, 0, 0, 0, .null), (3, .getfield 598, 14, 68, 0, .null), (1, .aaload, 0, 0, 0, .null), (1, .aload_n 3, 0, 0, 0, .null), (3, .getfield 13, 12, 2, 0, .null), (3, .invokestatic 68, 141, 3, 0, .null), (1, .aload_n 0, 0, 0, 0, .null), (1, .iload_n 1, 0, 0, 0, .null), (1, .aload_n 0, 0, 0, 0, .null), (3, .getfield 480, 14, 66, 0, .null), (1, .iload_n 2, 0, 0, 0, .null), (1, .aload_n 0, 0, 0, 0, .null), (3, .getfield 492, 14, 74, 0, .null), (2, .bipush 64, 0, 0, 0, .int 64), (1, .aload_n 0, 0, 0, 0, .null), (3, .getfield 507, 14, 81, 0, .null), (3, .invokevirtual 612, 197, 6, 14, .null), (1, .aload_n 0, 0, 0, 0, .null), (3, .getfield 507, 14, 81, 0, .null), (1, .aload_n 3, 0, 0, 0, .null), (3, .getfield 22, 12, 0, 0, .null), (1, .aload_n 3, 0, 0, 0, .null), (3, .getfield 13, 12, 2, 0, .null), (3, .invokestatic 26, 139, 3, 0, .null), (3, .ifCond .ge 19, 161, 0, 0, .null), (1, .aload_n 0, 0, 0, 0, .null), (1, .aload_n 3, 0, 0, 0, .null), (1, .aload_n 0, 0, 0, 0, .null), (3, .getfield 507, 14, 81, 0, .null), (1, .aload_n 0, 0, 0, 0, .null), (3, .getfield 513, 14, 83, 0, .null), (3, .invokevirtual 142, 154, 3, 14, .null), (3, .ifCond .ne 5, 163, 0, 0, .null)]
set_option maxRecDepth 20000 in
theorem oX14_blindsTwox_87 : vm_okB 14 mX14_blindsTwo 87 bX14_blindsTwox_87 = true := by decide +kernel
def bX14_blindsTwox_161 : List vm_J := [(1, .iconst 0, 0, 0, 0, .int 0), (1, .ireturn, 0, 0, 0, .null)]
set_option maxRecDepth 20000 in
theorem oX14_blindsTwox_161 : vm_okB 14 mX14_blindsTwo 161 bX14_blindsTwox_161 = true := by decide +kernel
def bX14_blindsTwox_163 : List vm_J := [(1, .aload_n 0, 0, 0, 0, .null), (1, .iload_n 1, 0, 0, 0, .null), (1, .aload_n 0, 0, 0, 0, .null), (3, .getfield 483, 14, 67, 0, .null), (1, .aload_n 0, 0, 0, 0, .null), (3, .getfield 598, 14, 68, 0, .null), (1, .aaload, 0, 0, 0, .null), (1, .aload_n 0, 0, 0, 0, .null), (3, .getfield 510, 14, 82, 0, .null), (3, .invokevirtual 560, 198, 3, 14, .null), (1, .aload_n 0, 0, 0, 0, .null), (1, .aload_n 3, 0, 0, 0, .null), (1, .aload_n 0, 0, 0, 0, .null), (3, .getfield 510, 14, 82, 0, .null), (1, .aload_n 0, 0, 0, 0, .null), (3, .getfield 507, 14, 81, 0, .null), (1, .aload_n 0, 0, 0, 0, .null), (3, .getfield 510, 14, 82, 0, .null), (3, .invokevirtual 79, 149, 4, 14, .null), (1, .iconst 1, 0, 0, 0, .int 1), (1, .ireturn, 0, 0, 0, .null)]
set_option maxRecDepth 20000 in
theorem oX14_blindsTwox_163 : vm_okB 14 mX14_blindsTwo 163 bX14_blindsTwox_163 = true := by decide +kernel
theorem map_sg {u x y : fq} (on : y * y = cu x) (hM : ∀ y', y' * y' = cu x → y'.val % 2 = u.val % 2 → MAP u x y') : ∃ x y, MAP u x y := by
  have hy0 : y ≠ 0 := cK.2.2.2 _ _ (cu_on on)
  by_cases q : y.val % 2 = u.val % 2
  · exact ⟨x, y, hM y on q⟩
  · have hp := pr2 y hy0
    refine ⟨x, -y, hM (-y) ?_ (by omega)⟩
    rw [← on]
    grind
theorem map_ex (u : fq) : ∃ x y, MAP u x y := by
  have main : ∀ x1, MX1 u x1 → ∃ x y, MAP u x y := by
    intro x1 hM
    by_cases rt : rtF (cu x1) * rtF (cu x1) = cu x1
    · exact map_sg rt (fun y' e1 e2 => ⟨x1, hM, .inl ⟨rfl, _, rt⟩, e1, e2⟩)
    have nw : ∀ w, w * w ≠ cu x1 := fun w e => rt (rtF_sq e)
    obtain ⟨V, hV⟩ : ∃ V, V = vv u := ⟨_, rfl⟩
    have M2 : 3 * x1 * (V * V + V) = fz (cB : Int) * (V * V + V + 1) := by
      rcases id hM with e | e
      · obtain ⟨w, ew⟩ := sw_ex e.2
        exact absurd ew (nw w)
      · rw [hV]; exact e.2
    have rt2 : rtF (cu (V * x1)) * rtF (cu (V * x1)) = cu (V * x1) := by
      have e1 : cu (V * x1) = V * V * V * cu x1 := by
        unfold cu
        exact sw_g M2
      have hm := (rtF_pm (cu x1)).resolve_left rt
      refine rtF_sq (s := rtF (cu x1) * V * u * fz (r12 : Int)) ?_
      rw [e1]
      exact sw_y hm hV r12_e
    exact map_sg rt2 (fun y' e1 e2 => ⟨x1, hM, .inr ⟨by rw [hV], nw⟩, e1, e2⟩)
  by_cases tz : vv u * vv u + vv u = 0
  · refine main (fiv ((-12 : fq) * -3) * fz (cB : Int)) (.inl ⟨tz, mp_b (fiv_e _ (by decide +kernel))⟩)
  · exact main _ (.inr ⟨tz, mp_c (fiv_e _ tz) (fiv_e 3 fq_three)⟩)
theorem mapF_o (u : fq) : ecO (-3) (fz (cB : Int)) (some (mapF u)) := by
  obtain ⟨x, y, m⟩ := map_ex u
  rw [mapF_e m]
  obtain ⟨x1, _, _, on, _⟩ := m
  exact cu_on on
theorem htg_o {st kk : Nat → Int64} {w : List Nat} : ecO (-3) (fz (cB : Int)) (htg st kk w) := ecO_A cK (mapF_o _) (mapF_o _)
theorem kep_l : ∀ t0, t0 < 256 → 1 ≤ t0 → kep t0 < t0 := by unfold kep; decide +kernel
theorem EM_lt {st kk : Nat → Int64} {len t0 s N : Nat} {inp salt : List Nat} (hl : 66 ≤ len) (ht : 1 ≤ t0 ∧ t0 < 256) (ho : ok8 salt) (hN : t0 * 256 ^ (len - 1) ≤ N) : bn (gb (EM st kk len t0 s inp salt)) 0 len < N := by
  have e : ∀ j, j < len → gb (EM st kk len t0 s inp salt) j = emf st kk (emk st kk inp salt) len t0 s salt j := fun j hj => by
    unfold EM
    rw [gb_sl hj, Nat.zero_add]
  have e0 : gb (EM st kk len t0 s inp salt) 0 < t0 := by
    rw [e 0 (by omega)]
    unfold emf
    rw [if_pos (by omega), if_pos rfl]
    exact Nat.lt_of_le_of_lt Nat.and_le_right (kep_l t0 ht.2 ht.1)
  have b : ∀ j, 0 ≤ j → j < 0 + (len - 1 + 1) → gb (EM st kk len t0 s inp salt) j < 256 := fun j _ hj => by
    rw [e j (by omega)]
    unfold emf
    split
    · split
      · exact Nat.lt_of_le_of_lt Nat.and_le_right (by have := kep_l t0 ht.2 ht.1; omega)
      · exact emX_lt ho
    · split
      · exact ok8_gb H3_ok _
      · decide
  have h9 := (bn_hd9 (len - 1) b).2
  rw [show len - 1 + 1 = len by omega] at h9
  refine Nat.lt_of_lt_of_le h9 (Nat.le_trans ?_ hN)
  exact Nat.mul_le_mul_right _ (by omega)
section
variable {l : Launch} {O : Nat → vm_Ob} {f9 : Value} {h h' : vm_H} {a kn an rd wr : Nat} {t : KT} {g g' : Nat → Int32} {m y w ou : List Nat} {kf : Nat → aK} {af : Nat → aA} {D : Nat → Nat} {dn : Bool} {wl : Int} {th : Int32}
/-- the place an of the ASKINGS is written -/
theorem ST_ap (k : ST h a kn an kf af D w ou) (ha : an < 60) (F : fr h h' (fun q => scr a q ∨ q = a + 90 ∨ q = a + 92 + an)) (r1 : iw h' 64 (a + 92 + an)) (e3 : ∀ c, bv h 5880 (a + 90) c → ∃ c', bv h' 5880 (a + 90) c' ∧ ∀ j, j < 98 * an → c' j = c j) : ST h' a kn an kf af D w ou := by
  obtain ⟨sk, ⟨⟨f1, k1, v1⟩, ⟨f2, k2, v2⟩, ⟨f3, k3, v3⟩, k4, k5, k6⟩, q3, q4, q5, q6, q7, q8, q9⟩ := k
  have e : ∀ q, ¬ (scr a q ∨ q = a + 90 ∨ q = a + 92 + an) → h'.2 q = h.2 q := fun q z => F.2 q z
  obtain ⟨c', b', v'⟩ := e3 _ k3
  refine ⟨SK_cg sk q8 (fun q z => e q (by unfold scr; omega)), ⟨⟨f1, ia_cg9 k1 (e _ (by unfold scr; omega)), v1⟩, ⟨f2, (e _ (by unfold scr; omega)).trans k2, v2⟩, ⟨c', b', fun i hi => by rw [← v3 i hi]; exact sl_ext (fun j hj => v' _ (by omega))⟩, rr9_cg k4 (e _ (by unfold scr; omega)), fun i hi => ?_, fun i hi => ⟨(k6 i hi).1, wv_cg (k6 i hi).2 (e _ (by unfold scr; omega))⟩⟩, bv_cg q3 (e _ (by unfold scr; omega)), rl9_cg q4 (e _ (by unfold scr; omega)), rl9_cg q5 (e _ (by unfold scr; omega)), q6, q7, q8, q9⟩
  by_cases c : i = an
  · rw [c]; exact r1
  · exact iw_cg (k5 i hi) (e _ (by unfold scr; omega))
theorem rm_blindsOne {R : Nat} {c ci : Nat → Nat} {inp : List Nat} (h9 : f9.category = 1) (k : SY h a t g [] m y) (G : g 68 = nI an) (ha : an < 60) (bc : bv h 1208 (a + 153) c) (hR : bn c 64 48 = R) (bi9 : bv h 5880 (a + 90) ci) (hi : sl ci (98 * an) 98 = inp) (rr : rr9 h (.array .int) 60 (a + 91) (fun i => a + 92 + i)) (ir : iw h 64 (a + 92 + an)) : vm_Met (vm_env l O f9) mX14_blindsOne 0 0 [.ref a, .int (nI (98 * an))] h (fun r h' => (∃ (ok : Bool) (m' y' : List Nat), r = some (.int (bi ok)) ∧ SY h' a t g [] m' y' ∧ (ok = true ↔ (0 < R ∧ R < cQ) ∧ ecM (-3) fiv R (htg t.2.2.1 t.2.2.2 inp) ≠ none) ∧ (ok = true → SP h' (a + 163) (ecM (-3) fiv R (htg t.2.2.1 t.2.2.2 inp)) ∧ wv h' 64 (a + 92 + an) 12 R)) ∧ iw h' 64 (a + 92 + an) ∧ fr h h' (fun q => scr a q ∨ q = a + 92 + an)) := by
  suffices H : ∀ Q : Option Value → vm_H → Prop, (∀ r h', (∃ (ok : Bool) (m' y' : List Nat), r = some (.int (bi ok)) ∧ SY h' a t g [] m' y' ∧ (ok = true ↔ (0 < R ∧ R < cQ) ∧ ecM (-3) fiv R (htg t.2.2.1 t.2.2.2 inp) ≠ none) ∧ (ok = true → SP h' (a + 163) (ecM (-3) fiv R (htg t.2.2.1 t.2.2.2 inp)) ∧ wv h' 64 (a + 92 + an) 12 R)) ∧ iw h' 64 (a + 92 + an) ∧ fr h h' (fun q => scr a q ∨ q = a + 92 + an) → Q r h') → vm_Met (vm_env l O f9) mX14_blindsOne 0 0 [.ref a, .int (nI (98 * an))] h Q from H _ (fun _ _ z => z)
  intro Q hQ
  have ao := k.1.2.1
  obtain ⟨fs, hs⟩ : iw h 12 (a + 69) := k.1.2.2.2.2.1 69 (by unfold ZI; omega)
  refine vm_met rfl (Nat.le_of_ble_eq_true rfl) ?_
  refine vm_go rfl bX14_blindsOnex_0 oX14_blindsOnex_0 ⟨_, _, k.1.1, rfl, ⟨_, _, k.1.1, rfl, ⟨0, 0, _, rm_load (at9 := 64) (size := 48) (n := 12) bc (by decide) (by decide) hs (by omega) (by decide) (by decide) (by decide), Nat.zero_le _, Nat.zero_le _, ?_⟩⟩⟩
  rintro _ h1 ⟨rfl, w1, F1⟩
  have bX : bn c 64 48 < 4294967296 ^ 12 := Nat.lt_of_lt_of_le (bn_lt 48 (fun j _ hj => (bv_lt bc j (by omega)))) (by decide +kernel)
  rw [hR] at w1 bX
  have k1 : SY h1 a t g [] m y := SY_fr k (RK_of k.1 F1 ((F1.2 a (by omega)).trans k.1.1) (fun q z => .inr (z ▸ GD_i (i := 69) (by unfold ZI; omega) (wv_iw w1)))) F1 (by omega)
  refine ⟨_, _, k1.1.1, rfl, ⟨0, 0, _, rm_isSecret k1.1.2.2.1.1 w1 (by decide) bX, Nat.zero_le _, Nat.zero_le _, ?_⟩⟩
  rintro _ h2 ⟨⟨ok, rfl, hok⟩, e2⟩
  rw [e2]; clear e2 h2
  have ir1 := iw_cg ir (F1.2 (a + 92 + an) (by omega))
  cases ok with
  | false => exact ⟨fun q => absurd rfl q, fun _ => ⟨rfl, hQ _ _ ⟨⟨false, _, _, rfl, k1, ⟨fun q => (nomatch q), fun q => nomatch hok.mpr q.1⟩, fun q => (nomatch q)⟩, ir1, fr_mono F1 (fun q z => by unfold scr; omega)⟩⟩⟩
  | true =>
  have hX9 := hok.mp rfl
  refine ⟨fun _ => ?_, fun q => absurd q (by decide)⟩
  have gk : u3 g (nI ([] : List Nat).length) (nI m.length) (nI y.length) 68 = nI an := G
  obtain ⟨fr4, e4, v4⟩ := rr
  dsimp only at v4
  obtain ⟨fx, s1⟩ := ir1
  obtain ⟨fw, ew, vw⟩ := id w1
  refine vm_go rfl bX14_blindsOnex_29 oX14_blindsOnex_29 ⟨_, _, k1.1.1, rfl, ⟨_, _, k1.1.1, rfl, ⟨_, _, k1.1.1, rfl, ⟨_, _, _, _, (F1.2 _ (by omega)).trans e4, by decide, rfl, an, gk, ha, va_e (v4 an ha), ⟨0, 0, _, rm_copy (n := 12) ew s1 (by decide) (by decide) (by decide) (by omega), Nat.zero_le _, Nat.zero_le _, ?_⟩⟩⟩⟩⟩
  rintro _ h2 ⟨rfl, ⟨fy, ey, vy, _⟩, F2⟩
  have w2 : wv h2 64 (a + 92 + an) 12 R := ⟨fy, ey, fun j hj => by rw [vy j hj]; exact vw j hj⟩
  have k2 := SY_off k1 F2 (fun q z => by omega)
  have F02 : fr h h2 (fun q => q = a + 69 ∨ q = a + 92 + an) := fr_trans (fr_mono F1 (fun q z => .inl z)) (fr_mono F2 (fun q z => .inr z))
  refine ⟨_, _, k2.1.1, rfl, ⟨_, _, k2.1.1, rfl, ⟨_, k2.1.1, 0, 0, _, rm_toPoint (at9 := 98 * an) (n := 98) h9 k2 (bv_cg bi9 (F02.2 _ (by omega))) (by omega) (by omega) (by decide) (by decide), Nat.zero_le _, Nat.zero_le _, ?_⟩⟩⟩
  rintro _ h3 ⟨rfl, k3, s3, F3⟩
  rw [hi] at k3 s3
  have F03 : fr h h3 (fun q => scr a q ∨ q = a + 92 + an) := fr_trans (fr_mono F02 (fun q z => by unfold scr; omega)) (fr_mono F3 (fun q z => by unfold JV JW at z; unfold scr; omega))
  have w3 : wv h3 64 (a + 92 + an) 12 R := wv_cg w2 (F3.2 _ (by unfold JV JW; omega))
  have fl3 := SP_fl s3
  refine ⟨_, _, k3.1.1, rfl, ⟨_, _, fl3, rfl, ?_⟩⟩
  cases eP : htg t.2.2.1 t.2.2.2 inp with
  | none =>
    refine ⟨fun q => absurd q (by decide), fun _ => ⟨rfl, hQ _ _ ⟨⟨false, _, _, rfl, k3, ⟨fun q => (nomatch q), fun q => ?_⟩, fun q => (nomatch q)⟩, wv_iw w3, F03⟩⟩⟩
    rw [eP, ecM_none] at q
    exact absurd rfl q.2
  | some p =>
  refine ⟨fun _ => ?_, fun q => absurd rfl q⟩
  refine vm_go rfl bX14_blindsOnex_74 oX14_blindsOnex_74 ⟨_, _, k3.1.1, rfl, ⟨_, _, k3.1.1, rfl, ⟨_, _, _, _, (F03.2 _ (by unfold scr; omega)).trans e4, by decide, rfl, an, gk, ha, va_e (v4 an ha), ⟨_, _, k3.1.1, rfl, ⟨_, _, k3.1.1, rfl, ⟨_, k3.1.1, 0, 0, _, rq_mult (s := 163) k3.1 w3 (by decide) bX s3 htg_o (by unfold ZP; omega) (by decide) (by omega) (by omega) (by omega), Nat.zero_le _, Nat.zero_le _, ?_⟩⟩⟩⟩⟩⟩
  rintro _ h4 ⟨rfl, k4, s4, F4⟩
  have k4' : SY h4 a t g [] inp tgG := SY_fr k3 k4 F4 (by unfold JM JW; omega)
  have F04 : fr h h4 (fun q => scr a q ∨ q = a + 92 + an) := fr_trans F03 (fr_mono F4 (fun q z => by unfold JM JW at z; unfold scr; omega))
  have w4 : wv h4 64 (a + 92 + an) 12 R := wv_cg w3 (F4.2 _ (by unfold JM JW; omega))
  refine ⟨_, _, k4'.1.1, rfl, ⟨_, _, SP_fl s4, rfl, ?_⟩⟩
  obtain ⟨pp, ep⟩ : ∃ pp, ecM (-3) fiv R (htg t.2.2.1 t.2.2.2 inp) = pp := ⟨_, rfl⟩
  rw [ep] at s4 hQ ⊢
  cases pp with
  | none => exact ⟨fun _ => vm_go rfl bX14_blindsOnex_109 oX14_blindsOnex_109 (vm_go rfl bX14_blindsOnex_110 oX14_blindsOnex_110 ⟨rfl, hQ _ _ ⟨⟨false, _, _, rfl, k4', ⟨fun q => (nomatch q), fun q => absurd rfl q.2⟩, fun q => (nomatch q)⟩, wv_iw w4, F04⟩⟩), fun q => absurd q (by decide)⟩
  | some pp => exact ⟨fun q => absurd rfl q, fun _ => vm_go rfl bX14_blindsOnex_110 oX14_blindsOnex_110 ⟨rfl, hQ _ _ ⟨⟨true, _, _, rfl, k4', ⟨fun _ => ⟨hX9, fun q => (nomatch q)⟩, fun _ => rfl⟩, fun _ => ⟨s4, w4⟩⟩, wv_iw w4, F04⟩⟩⟩
theorem rm_blindsTwo {i R E n N e d t0 : Nat} {c ci : Nat → Nat} {inp : List Nat} (k : SY h a t g [] m y) (G : g 68 = nI an) (ha : an < 60) (sk : SK h a kn kf) (hkn : kn ≤ 6) (hik : i < kn) (ht : kty (kf i) = 2) (q : K2N (kf i) n N e d t0) (bc : bv h 1208 (a + 153) c) (hR : bn c (64 + ksa (kf i)) (ksz (kf i)) = R) (bi9 : bv h 5880 (a + 90) ci) (hi : sl ci (98 * an) 98 = inp) (hE : E = bn (gb (EM t.2.2.1 t.2.2.2 (ksz (kf i)) t0 (ksa (kf i)) inp (sl c 64 (ksa (kf i))))) 0 (ksz (kf i))) (rr : rr9 h (.array .int) 60 (a + 91) (fun i => a + 92 + i)) (ir : iw h 64 (a + 92 + an)) : vm_Met (vm_env l O f9) mX14_blindsTwo 0 0 [.ref a, .int (nI i), .int (nI (98 * an))] h (fun r h' => (∃ ok : Bool, r = some (.int (bi ok)) ∧ SY h' a t g [] m y ∧ (ok = true ↔ R < N ∧ Nat.gcd R N = 1 ∧ Nat.gcd E N = 1) ∧ (ok = true → wv h' 64 (a + 159) n (R ^ e * E % N) ∧ wv h' 64 (a + 92 + an) n R)) ∧ iw h' 64 (a + 92 + an) ∧ fr h h' (fun q => scr a q ∨ q = a + 92 + an)) := by
  suffices H : ∀ Q : Option Value → vm_H → Prop, (∀ r h', (∃ ok : Bool, r = some (.int (bi ok)) ∧ SY h' a t g [] m y ∧ (ok = true ↔ R < N ∧ Nat.gcd R N = 1 ∧ Nat.gcd E N = 1) ∧ (ok = true → wv h' 64 (a + 159) n (R ^ e * E % N) ∧ wv h' 64 (a + 92 + an) n R)) ∧ iw h' 64 (a + 92 + an) ∧ fr h h' (fun q => scr a q ∨ q = a + 92 + an) → Q r h') → vm_Met (vm_env l O f9) mX14_blindsTwo 0 0 [.ref a, .int (nI i), .int (nI (98 * an))] h Q from H _ (fun _ _ z => z)
  intro Q hQ
  have ao := k.1.2.1
  obtain ⟨⟨ql1, ql2, qn⟩, ⟨qN, qe, _, _⟩, ⟨qt1, qt2⟩, hod, qe2, qd, qs, hN, qlo, qhi⟩ := id q
  obtain ⟨sh, mh, _⟩ := (sk.2.2.2.2.2.2.2.2.2.2 i hik).2 ht
  rw [← qN, ← qn] at mh
  obtain ⟨fm, efm, vm⟩ := sk.2.2.2.2.2.1
  dsimp only at vm
  obtain ⟨fl, efl, vl⟩ := sk.2.2.2.2.2.2.2.1
  obtain ⟨fs, efs, vs⟩ := sk.2.2.2.2.2.2.2.2.1
  obtain ⟨fe, efe, ve⟩ := sk.2.2.2.2.2.2.1
  have oE : ok8 (sl c 64 (ksa (kf i))) := ok8_sl (fun j hj => bv_lt bc _ (by omega))
  have bE : E < N := by rw [hE]; exact EM_lt ql1 ⟨qt1, qt2⟩ oE qlo
  have N1 : 1 < N := by omega
  have bNn : N < 4294967296 ^ n := Nat.lt_of_lt_of_le hN (by
    rw [show (4294967296 : Nat) = 256 ^ 4 by decide, ← Nat.pow_mul]
    exact Nat.pow_le_pow_right (by decide) (by omega))
  have bR : R < 4294967296 ^ n := by
    rw [← hR]
    refine Nat.lt_of_lt_of_le (bn_lt (ksz (kf i)) (fun j _ hj => bv_lt bc j (by omega))) ?_
    rw [show (4294967296 : Nat) = 256 ^ 4 by decide, ← Nat.pow_mul]
    exact Nat.pow_le_pow_right (by decide) (by omega)
  have gk : u3 g (nI ([] : List Nat).length) (nI m.length) (nI y.length) 68 = nI an := G
  obtain ⟨fr4, e4, v4⟩ := rr
  dsimp only at v4
  refine vm_met rfl (Nat.le_of_ble_eq_true rfl) ?_
  refine vm_go rfl bX14_blindsTwox_0 oX14_blindsTwox_0 ⟨_, _, k.1.1, rfl, ⟨_, _, _, _, efm, by decide, rfl, i, rfl, by omega, va_e (vm i (by omega)), ?_⟩⟩
  refine vm_Th (lv' := [(0, .ref a), (1, .int (nI i)), (2, .int (nI (98 * an))), (3, .ref (a + 219 + 6 * i))]) (h' := h) rfl rfl ?_
  obtain ⟨fa, ia1⟩ : iw h 64 (a + 158) := k.1.2.2.2.2.1 158 (by unfold ZI; omega)
  refine vm_go rfl bX14_blindsTwox_7 oX14_blindsTwox_7 ⟨_, _, k.1.1, rfl, ⟨_, _, k.1.1, rfl, ⟨6, fs, efs, i, rfl, by omega, fun _ => ?_⟩⟩⟩
  rw [vs i hik ht]
  have e64 : (64 : Int32) + nI (ksa (kf i)) = nI (64 + ksa (kf i)) := nI_add 64 _
  refine ⟨_, _, k.1.1, rfl, ⟨6, fl, efl, i, rfl, by omega, fun _ => ?_⟩⟩
  rw [vl i hik]
  refine ⟨_, _, k.1.1, rfl, ⟨_, _, mh.1.1, rfl, ⟨0, 0, _, vm_metE (by rw [← e64]; rfl) (rm_load (at9 := 64 + ksa (kf i)) (size := ksz (kf i)) (n := n) bc (by omega) (by decide) ia1 (by omega) (by omega) (by omega) (by omega)), Nat.zero_le _, Nat.zero_le _, ?_⟩⟩⟩
  rintro _ h1 ⟨rfl, w1, F1⟩
  rw [hR] at w1
  have k1 : SY h1 a t g [] m y := SY_fr k (RK_of k.1 F1 ((F1.2 a (by omega)).trans k.1.1) (fun q z => .inr (z ▸ GD_i (i := 158) (by unfold ZI; omega) (wv_iw w1)))) F1 (by omega)
  have mh1 := MH_cg3 mh F1 (by omega)
  have ir1 := iw_cg ir (F1.2 (a + 92 + an) (by omega))
  have FF1 : fr h h1 (fun q => scr a q ∨ q = a + 92 + an) := fr_mono F1 (fun q z => by unfold scr; omega)
  have bad : ¬ (R < N ∧ Nat.gcd R N = 1 ∧ Nat.gcd E N = 1) → ∀ h9, SY h9 a t g [] m y → iw h9 64 (a + 92 + an) → fr h h9 (fun q => scr a q ∨ q = a + 92 + an) → vm_T (vm_env l O f9) mX14_blindsTwo 0 0 85 [(0, .ref a), (1, .int (nI i)), (2, .int (nI (98 * an))), (3, .ref (a + 219 + 6 * i))] [] h9 Q := fun nn h9 k9 i9 F9 => vm_go rfl bX14_blindsTwox_85 oX14_blindsTwox_85 ⟨rfl, hQ _ _ ⟨⟨false, rfl, k9, ⟨fun q => (nomatch q), fun q => absurd q nn⟩, fun q => (nomatch q)⟩, i9, F9⟩⟩
  obtain ⟨fz1, ez1, vz1⟩ := id w1
  refine ⟨_, _, k1.1.1, rfl, ⟨_, _, mh1.1.1, rfl, ⟨0, 0, _, rm_zero ez1 (by omega) (by omega), Nat.zero_le _, Nat.zero_le _, ?_⟩⟩⟩
  rintro _ h3 ⟨⟨ok, rfl, hok⟩, e3⟩
  rw [e3]; clear e3 h3
  rw [wv_z (h := h1) (L := 64) (p := a + 158) bR vz1] at hok
  cases ok with
  | true =>
    have R0 := hok.mp rfl
    exact ⟨fun _ => bad (fun z => by have := z.2.1; rw [R0, Nat.gcd_zero_left] at this; omega) h1 k1 ir1 FF1, fun q => absurd q (by decide)⟩
  | false =>
  have hR0 : 0 < R := Nat.pos_of_ne_zero (fun z => nomatch hok.mpr z)
  refine ⟨fun q => absurd rfl q, fun _ => ⟨_, _, k1.1.1, rfl, ⟨_, _, mh1.1.1, rfl, ⟨_, _, mh1.1.1, rfl, ⟨0, 0, _, rm_cmp w1 mh1.1.2.1 (by omega) (by omega) (by omega) bR bNn, Nat.zero_le _, Nat.zero_le _, ?_⟩⟩⟩⟩⟩
  rintro _ h3 ⟨hc, e3⟩
  rw [e3]; clear e3 h3
  rcases hc with ⟨hc, rfl⟩ | ⟨hc, rfl⟩ | ⟨hc, rfl⟩
  rotate_left
  · exact ⟨fun _ => bad (fun z => by have := z.1; omega) h1 k1 ir1 FF1, fun q => absurd (by decide) q⟩
  · exact ⟨fun _ => bad (fun z => by have := z.1; omega) h1 k1 ir1 FF1, fun q => absurd (by decide) q⟩
  refine ⟨fun q => absurd q (by decide), fun _ => ⟨_, _, k1.1.1, rfl, ⟨_, _, k1.1.1, rfl, ⟨_, k1.1.1, 0, 0, _, rm_inv (A := R) (L3 := 64) mh1.1 k1.1.1 (CU_6 (RK_cu k1.1) (by decide) (by decide)) (CU_6 (RK_cu k1.1) (by decide) (by decide)) (CU_6 (RK_cu k1.1) (by decide) (by decide)) (CU_6 (RK_cu k1.1) (by decide) (by decide)) w1 (by omega) (RK_64 k1.1 (i := 160) (by unfold ZI; omega) rfl) (by omega) hc hod ao (by omega) (by omega) (by omega) (by omega) (by omega), Nat.zero_le _, Nat.zero_le _, ?_⟩⟩⟩⟩
  rintro _ h2 ⟨⟨ok, T, rfl, hok, _, _, wT⟩, ⟨r4, r5, r6, r7⟩, F2⟩
  have k2 : SY h2 a t g [] m y := SY_fr k1 (RK_of k1.1 F2 ((F2.2 a (by omega)).trans k1.1.1) (fun q z => by
    rcases z with z | rfl
    · rcases (show q = a + 4 ∨ q = a + 5 ∨ q = a + 6 ∨ q = a + 7 by omega) with rfl | rfl | rfl | rfl
      · exact .inr (GD_i (by unfold ZI; omega) r4)
      · exact .inr (GD_i (by unfold ZI; omega) r5)
      · exact .inr (GD_i (by unfold ZI; omega) r6)
      · exact .inr (GD_i (by unfold ZI; omega) r7)
    · exact .inr (GD_i (by unfold ZI; omega) (wv_iw wT)))) F2 (by omega)
  have F02 : fr h h2 (fun q => (a + 4 ≤ q ∧ q ≤ a + 7) ∨ q = a + 158 ∨ q = a + 160) := fr_trans (fr_mono F1 (fun q z => by omega)) (fr_mono F2 (fun q z => by omega))
  have FF2 : fr h h2 (fun q => scr a q ∨ q = a + 92 + an) := fr_mono F02 (fun q z => by unfold scr; omega)
  have ir2 := iw_cg ir (F02.2 (a + 92 + an) (by omega))
  cases ok with
  | false => exact ⟨fun q => absurd rfl q, fun _ => bad (fun z => nomatch hok.mpr z.2.1) h2 k2 ir2 FF2⟩
  | true =>
  have hg := hok.mp rfl
  refine ⟨fun _ => ?_, fun q => absurd q (by decide)⟩
  have mh2 := MH_cg3 mh F02 (by omega)
  have w2 : wv h2 64 (a + 158) n R := wv_cg w1 (F2.2 _ (by omega))
  obtain ⟨fw, ew, vw⟩ := id w2
  obtain ⟨fx, s1⟩ := ir2
  refine vm_go rfl bX14_blindsTwox_87 oX14_blindsTwox_87 ⟨_, _, k2.1.1, rfl, ⟨_, _, k2.1.1, rfl, ⟨_, _, k2.1.1, rfl, ⟨_, _, _, _, (F02.2 _ (by omega)).trans e4, by decide, rfl, an, gk, ha, va_e (v4 an ha), ⟨_, _, mh2.1.1, rfl, ⟨0, 0, _, rm_copy (n := n) ew s1 (by omega) (by omega) (by omega) (by omega), Nat.zero_le _, Nat.zero_le _, ?_⟩⟩⟩⟩⟩⟩
  rintro _ h3 ⟨rfl, ⟨fy, ey, vy, _⟩, F3⟩
  have w3 : wv h3 64 (a + 92 + an) n R := ⟨fy, ey, fun j hj => by rw [vy j hj]; exact vw j hj⟩
  have k3 := SY_off k2 F3 (fun q z => by omega)
  have F03 : fr h h3 (fun q => (a + 4 ≤ q ∧ q ≤ a + 7) ∨ q = a + 158 ∨ q = a + 160 ∨ q = a + 92 + an) := fr_trans (fr_mono F02 (fun q z => by omega)) (fr_mono F3 (fun q z => by omega))
  have sk3 : SK h3 a kn kf := SK_cg sk hkn (fun q z => F03.2 q (by omega))
  have mh3 := MH_cg3 mh F03 (by omega)
  refine ⟨_, _, k3.1.1, rfl, ⟨_, _, k3.1.1, rfl, ⟨_, _, k3.1.1, rfl, ⟨_, k3.1.1, 0, 0, _, rm_encodes (p1 := 98 * an) (p2 := 64) k3 sk3 hkn hik q mh3 ⟨fs, ia_cg9 efs (F03.2 _ (by omega)), vs i hik ht⟩ (bv_cg bi9 (F03.2 _ (by omega))) (by omega) (by decide) (bv_cg bc (F03.2 _ (by omega))) (by omega) (by decide) (by omega) (by omega), Nat.zero_le _, Nat.zero_le _, ?_⟩⟩⟩⟩
  rintro _ h4 ⟨rfl, k4, w4, F4⟩
  rw [hi, ← hE] at w4
  have w34 : wv h4 64 (a + 92 + an) n R := wv_cg w3 (F4.2 _ (by omega))
  have F04 : fr h h4 (fun q => scr a q ∨ q = a + 92 + an) := fr_trans (fr_mono F03 (fun q z => by unfold scr; omega)) (fr_mono F4 (fun q z => by unfold scr; omega))
  have mh4 := MH_cg3 mh3 F4 (by omega)
  have bEn : E < 4294967296 ^ n := by omega
  refine ⟨_, _, k4.1.1, rfl, ⟨_, _, mh4.1.1, rfl, ⟨_, _, mh4.1.1, rfl, ⟨0, 0, _, rm_cmp w4 mh4.1.2.1 (by omega) (by omega) (by omega) bEn bNn, Nat.zero_le _, Nat.zero_le _, ?_⟩⟩⟩⟩
  rintro _ h5 ⟨hc5, e5⟩
  rw [e5]; clear e5 h5
  rcases hc5 with ⟨hc5, rfl⟩ | ⟨hc5, rfl⟩ | ⟨hc5, rfl⟩
  rotate_left
  · omega
  · omega
  refine ⟨fun q => absurd q (by decide), fun _ => ⟨_, _, k4.1.1, rfl, ⟨_, _, k4.1.1, rfl, ⟨_, k4.1.1, 0, 0, _, rm_inv (A := E) (L3 := 64) mh4.1 k4.1.1 (CU_6 (RK_cu k4.1) (by decide) (by decide)) (CU_6 (RK_cu k4.1) (by decide) (by decide)) (CU_6 (RK_cu k4.1) (by decide) (by decide)) (CU_6 (RK_cu k4.1) (by decide) (by decide)) w4 (by omega) (RK_64 k4.1 (i := 160) (by unfold ZI; omega) rfl) (by omega) hc5 hod ao (by omega) (by omega) (by omega) (by omega) (by omega), Nat.zero_le _, Nat.zero_le _, ?_⟩⟩⟩⟩
  rintro _ h5 ⟨⟨ok, T2, rfl, hok2, _, _, wT2⟩, ⟨r4, r5, r6, r7⟩, F5⟩
  have k5 : SY h5 a t g [] m y := SY_fr k4 (RK_of k4.1 F5 ((F5.2 a (by omega)).trans k4.1.1) (fun q z => by
    rcases z with z | rfl
    · rcases (show q = a + 4 ∨ q = a + 5 ∨ q = a + 6 ∨ q = a + 7 by omega) with rfl | rfl | rfl | rfl
      · exact .inr (GD_i (by unfold ZI; omega) r4)
      · exact .inr (GD_i (by unfold ZI; omega) r5)
      · exact .inr (GD_i (by unfold ZI; omega) r6)
      · exact .inr (GD_i (by unfold ZI; omega) r7)
    · exact .inr (GD_i (by unfold ZI; omega) (wv_iw wT2)))) F5 (by omega)
  have F05 : fr h h5 (fun q => scr a q ∨ q = a + 92 + an) := fr_trans F04 (fr_mono F5 (fun q z => by unfold scr; omega))
  have w35 : wv h5 64 (a + 92 + an) n R := wv_cg w34 (F5.2 _ (by omega))
  cases ok with
  | false => exact ⟨fun q => absurd rfl q, fun _ => vm_go rfl bX14_blindsTwox_161 oX14_blindsTwox_161 ⟨rfl, hQ _ _ ⟨⟨false, rfl, k5, ⟨fun q => (nomatch q), fun z => nomatch hok2.mpr z.2.2⟩, fun q => (nomatch q)⟩, wv_iw w35, F05⟩⟩⟩
  | true =>
  have hg2 := hok2.mp rfl
  refine ⟨fun _ => ?_, fun q => absurd q (by decide)⟩
  have w45 : wv h5 64 (a + 158) n E := wv_cg w4 (F5.2 _ (by omega))
  have sk5 : SK h5 a kn kf := SK_cg sk hkn (fun q z => F05.2 q (by unfold scr; omega))
  have mh5 := MH_cg3 mh4 F5 (by omega)
  refine vm_go rfl bX14_blindsTwox_163 oX14_blindsTwox_163 ⟨_, _, k5.1.1, rfl, ⟨_, _, k5.1.1, rfl, ⟨_, _, _, _, (F05.2 _ (by unfold scr; omega)).trans e4, by decide, rfl, an, gk, ha, va_e (v4 an ha), ⟨_, _, k5.1.1, rfl, ⟨_, k5.1.1, 0, 0, _, rm_byE (c := a + 159) k5.1 sk5 hkn hik q mh5 ⟨fe, ia_cg9 efe (F05.2 _ (by unfold scr; omega)), by rw [ve i hik ht, ← qe]⟩ w35 (by omega) (by omega) hc (.inl rfl), Nat.zero_le _, Nat.zero_le _, ?_⟩⟩⟩⟩⟩
  rintro _ h6 ⟨rfl, k6, w6, F6⟩
  have k6' : SY h6 a t g [] m y := SY_fr k5 k6 F6 (by omega)
  have mh6 := MH_cg3 mh5 F6 (by omega)
  have w46 : wv h6 64 (a + 158) n E := wv_cg w45 (F6.2 _ (by omega))
  have w36 : wv h6 64 (a + 92 + an) n R := wv_cg w35 (F6.2 _ (by omega))
  have bP : R ^ e % N < 4294967296 ^ n := Nat.lt_trans (Nat.mod_lt _ (by omega)) bNn
  refine ⟨_, _, k6'.1.1, rfl, ⟨_, _, k6'.1.1, rfl, ⟨_, _, k6'.1.1, rfl, ⟨_, k6'.1.1, 0, 0, _, rm_times mh6 k6'.1.1 (CU_1 (RK_cu k6'.1)) w6 w46 (by omega) (by omega) bP bEn (wv_iw w6) (by omega) (by omega) (by omega) (by omega) (by omega) (by omega) (by omega) ao, Nat.zero_le _, Nat.zero_le _, ?_⟩⟩⟩⟩
  rintro _ h7 ⟨rfl, w7, r1, F7⟩
  have k7 : SY h7 a t g [] m y := SY_fr k6' (RK_of k6'.1 F7 ((F7.2 a (by omega)).trans k6'.1.1) (fun q z => by
    rcases z with rfl | rfl
    · exact .inr (GD_i (by unfold ZI; omega) r1)
    · exact .inr (GD_i (by unfold ZI; omega) (wv_iw w7)))) F7 (by omega)
  have e7 : R ^ e % N * E % N = R ^ e * E % N := by rw [Nat.mul_mod, Nat.mod_mod, ← Nat.mul_mod]
  rw [e7] at w7
  have w37 : wv h7 64 (a + 92 + an) n R := wv_cg w36 (F7.2 _ (by omega))
  exact ⟨rfl, hQ _ _ ⟨⟨true, rfl, k7, ⟨fun _ => ⟨hc, hg, hg2⟩, fun _ => rfl⟩, fun _ => ⟨w7, w37⟩⟩, wv_iw w37, fr_trans F05 (fr_trans (fr_mono F6 (fun q z => by unfold scr; omega)) (fr_mono F7 (fun q z => by unfold scr; omega)))⟩⟩
end
