/-! the reference: map -/
def bX14_mapx_0 : List vm_J := [(1, .aload_n 1, 0, 0, 0, .null), (1, .aload_n 0, 0, 0, 0, .null), (3, .getfield 328, 14, 33, 0, .null), (2, .bipush 12, 0, 0, 0, .int 12), (3, .invokestatic 68, 141, 3, 0, .null), (1, .aload_n 0, 0, 0, 0, .null), (1, .aload_n 0, 0, 0, 0, .null), (3, .getfield 126, 14, 8, 0, .null), (1, .aload_n 0, 0, 0, 0, .null), (3, .getfield 328, 14, 33, 0, .null), (1, .aload_n 0, 0, 0, 0, .null), (3, .getfield 328, 14, 33, 0, .null), (1, .aload_n 0, 0, 0, 0, .null), (3, .getfield 330, 14, 34, 0, .null), (3, .invokevirtual 79, 149, 4, 14, .null), (1, .aload_n 0, 0, 0, 0, .null), (1, .aload_n 0, 0, 0, 0, .null), (3, .getfield 126, 14, 8, 0, .null), (1, .aload_n 0, 0, 0, 0, .null), (3, .getfield 330, 14, 34, 0, .null), (1, .aload_n 0, 0, 0, 0, .null), (3, .getfield 333, 14, 38, 0, .null), (1, .aload_n 0, 0, 0, 0, .null), (3, .getfield 330, 14, 34, 0, .null), (3, .invokevirtual 79, 149, 4, 14, .null), (1, .aload_n 0, 0, 0, 0, .null), (1, .aload_n 0, 0, 0, 0, .null), (3, .getfield 126, 14, 8, 0, .null), (1, .aload_n 0, 0, 0, 0, .null), (3, .getfield 330, 14, 34, 0, .null), (1, .aload_n 0, 0, 0, 0, .null), (3, .getfield 330, 14, 34, 0, .null), (1, .aload_n 0, 0, 0, 0, .null), (3, .getfield 336, 14, 35, 0, .null), (3, .invokevirtual 79, 149, 4, 14, .null), (1, .aload_n 0, 0, 0, 0, .null), (3, .getfield 126, 14, 8, 0, .null), (1, .aload_n 0, 0, 0, 0, .null), (3, .getfield 336, 14, 35, 0, .null), (1, .aload_n 0, 0, 0, 0, .null), (3, .getfield 330, 14, 34, 0, .null), (1, .aload_n 0, 0, 0, 0, .null), (3, .getfield 336, 14, 35, 0, .null), (3, .invokestatic 136, 145, 4, 0, .null), (1, .aload_n 0, 0, 0, 0, .null), (3, .getfield 336, 14, 35, 0, .null), (2, .bipush 12, 0, 0, 0, .int 12), (3, .invokestatic 99, 140, 2, 0, .null), (3, .ifCond .eq 43, 141, 0, 0, .null), (1, .aload_n 0, 0, 0, 0, .null), (1, .aload_n 0, 0, 0, 0, .null), (3, .getfield 126, 14, 8, 0, .null), (1, .aload_n 0, 0, 0, 0, .null), (3, .getfield 333, 14, 38, 0, .null), (1, .aload_n 0, 0, 0, 0, .null), (3, .getfield 339, 14, 37, 0, .null), (1, .aload_n 0, 0, 0, 0, .null), (3, .getfield 342, 14, 36, 0, .null), (3, .invokevirtual 79, 149, 4, 14, .null), (1, .aload_n 0, 0, 0, 0, .null), (1, .aload_n 0, 0, 0, 0, .null), (3, .getfield 126, 14, 8, 0, .null), (1, .aload_n 0, 0, 0, 0, .null), (3, .getfield 342, 14, 36, 0, .null), (1, .aload_n 0, 0, 0, 0, .null), (3, .getfield 336, 14, 35, 0, .null), (3, .invokevirtual 142, 154, 3, 14, .null), (1, .istore_n 3, 0, 0, 0, .null)]
set_option maxRecDepth 20000 in
theorem oX14_mapx_0 : vm_okB 14 mX14_map 0 bX14_mapx_0 = true := by decide +kernel
def bX14_mapx_138 : List vm_J := [(3, .goto 109, 247, 0, 0, .null)]
set_option maxRecDepth 20000 in
theorem oX14_mapx_138 : vm_okB 14 mX14_map 138 bX14_mapx_138 = true := by decide +kernel
def bX14_mapx_141 : List vm_J := [(1, .aload_n 0, 0, 0, 0, .null), (3, .getfield 336, 14, 35, 0, .null), (1, .aload_n 0, 0, 0, 0, .null), (3, .getfield 342, 14, 36, 0, .null), (2, .bipush 12, 0, 0, 0, .int 12), (3, .invokestatic 68, 141, 3, 0, .null), (1, .aload_n 0, 0, 0, 0, .null), (1, .aload_n 0, 0, 0, 0, .null), (3, .getfield 126, 14, 8, 0, .null), (1, .aload_n 0, 0, 0, 0, .null), (3, .getfield 342, 14, 36, 0, .null), (1, .aload_n 0, 0, 0, 0, .null), (3, .getfield 336, 14, 35, 0, .null), (3, .invokevirtual 142, 154, 3, 14, .null), (1, .istore_n 3, 0, 0, 0, .null)]
set_option maxRecDepth 20000 in
theorem oX14_mapx_141 : vm_okB 14 mX14_map 141 bX14_mapx_141 = true := by decide +kernel
def bX14_mapx_171 : List vm_J := [(1, .iconst 1, 0, 0, 0, .int 1), (1, .aload_n 0, 0, 0, 0, .null), (3, .getfield 342, 14, 36, 0, .null), (2, .bipush 12, 0, 0, 0, .int 12), (3, .invokestatic 75, 142, 3, 0, .null), (1, .aload_n 0, 0, 0, 0, .null), (3, .getfield 126, 14, 8, 0, .null), (1, .aload_n 0, 0, 0, 0, .null), (3, .getfield 336, 14, 35, 0, .null), (1, .aload_n 0, 0, 0, 0, .null), (3, .getfield 342, 14, 36, 0, .null), (1, .aload_n 0, 0, 0, 0, .null), (3, .getfield 336, 14, 35, 0, .null), (3, .invokestatic 136, 145, 4, 0, .null), (1, .iconst 3, 0, 0, 0, .int 3), (1, .aload_n 0, 0, 0, 0, .null), (3, .getfield 342, 14, 36, 0, .null), (2, .bipush 12, 0, 0, 0, .int 12), (3, .invokestatic 75, 142, 3, 0, .null), (1, .aload_n 0, 0, 0, 0, .null), (1, .aload_n 0, 0, 0, 0, .null), (3, .getfield 126, 14, 8, 0, .null), (1, .aload_n 0, 0, 0, 0, .null), (3, .getfield 342, 14, 36, 0, .null), (1, .aload_n 0, 0, 0, 0, .null), (3, .getfield 163, 14, 17, 0, .null), (3, .invokevirtual 142, 154, 3, 14, .null), (1, .istore_n 3, 0, 0, 0, .null)]
set_option maxRecDepth 20000 in
theorem oX14_mapx_171 : vm_okB 14 mX14_map 171 bX14_mapx_171 = true := by decide +kernel
def bX14_mapx_227 : List vm_J := [(1, .aload_n 0, 0, 0, 0, .null), (1, .aload_n 0, 0, 0, 0, .null), (3, .getfield 126, 14, 8, 0, .null), (1, .aload_n 0, 0, 0, 0, .null), (3, .getfield 336, 14, 35, 0, .null), (1, .aload_n 0, 0, 0, 0, .null), (3, .getfield 163, 14, 17, 0, .null), (1, .aload_n 0, 0, 0, 0, .null), (3, .getfield 336, 14, 35, 0, .null), (3, .invokevirtual 79, 149, 4, 14, .null)]
set_option maxRecDepth 20000 in
theorem oX14_mapx_227 : vm_okB 14 mX14_map 227 bX14_mapx_227 = true := by decide +kernel
def bX14_mapx_247 : List vm_J := [(1, .aload_n 0, 0, 0, 0, .null), (1, .aload_n 0, 0, 0, 0, .null), (3, .getfield 126, 14, 8, 0, .null), (1, .aload_n 0, 0, 0, 0, .null), (3, .getfield 336, 14, 35, 0, .null), (3, .getstatic 160, 5, 0, 0, .null), (1, .aload_n 2, 0, 0, 0, .null), (3, .getfield 123, 13, 0, 0, .null), (3, .invokevirtual 79, 149, 4, 14, .null), (1, .aload_n 0, 0, 0, 0, .null), (1, .aload_n 2, 0, 0, 0, .null), (3, .getfield 123, 13, 0, 0, .null), (1, .aload_n 0, 0, 0, 0, .null), (3, .getfield 342, 14, 36, 0, .null), (3, .invokevirtual 180, 159, 2, 14, .null), (1, .aload_n 0, 0, 0, 0, .null), (1, .aload_n 0, 0, 0, 0, .null), (3, .getfield 342, 14, 36, 0, .null), (1, .aload_n 2, 0, 0, 0, .null), (3, .getfield 130, 13, 1, 0, .null), (3, .invokevirtual 184, 160, 2, 14, .null), (3, .ifCond .ne 48, 338, 0, 0, .null), (1, .aload_n 0, 0, 0, 0, .null), (1, .aload_n 0, 0, 0, 0, .null), (3, .getfield 126, 14, 8, 0, .null), (1, .aload_n 0, 0, 0, 0, .null), (3, .getfield 330, 14, 34, 0, .null), (1, .aload_n 2, 0, 0, 0, .null), (3, .getfield 123, 13, 0, 0, .null), (1, .aload_n 2, 0, 0, 0, .null), (3, .getfield 123, 13, 0, 0, .null), (3, .invokevirtual 79, 149, 4, 14, .null), (1, .aload_n 0, 0, 0, 0, .null), (1, .aload_n 2, 0, 0, 0, .null), (3, .getfield 123, 13, 0, 0, .null), (1, .aload_n 0, 0, 0, 0, .null), (3, .getfield 342, 14, 36, 0, .null), (3, .invokevirtual 180, 159, 2, 14, .null), (1, .aload_n 0, 0, 0, 0, .null), (1, .aload_n 0, 0, 0, 0, .null), (3, .getfield 342, 14, 36, 0, .null), (1, .aload_n 2, 0, 0, 0, .null), (3, .getfield 130, 13, 1, 0, .null), (3, .invokevirtual 184, 160, 2, 14, .null), (1, .istore_n 3, 0, 0, 0, .null)]
set_option maxRecDepth 20000 in
theorem oX14_mapx_247 : vm_okB 14 mX14_map 247 bX14_mapx_247 = true := by decide +kernel
def bX14_mapx_338 : List vm_J := [(1, .aload_n 0, 0, 0, 0, .null), (3, .getfield 328, 14, 33, 0, .null), (1, .iconst 0, 0, 0, 0, .int 0), (1, .iaload, 0, 0, 0, .null), (1, .iconst 1, 0, 0, 0, .int 1), (1, .iand, 0, 0, 0, .null), (1, .aload_n 2, 0, 0, 0, .null), (3, .getfield 130, 13, 1, 0, .null), (1, .iconst 0, 0, 0, 0, .int 0), (1, .iaload, 0, 0, 0, .null), (1, .iconst 1, 0, 0, 0, .int 1), (1, .iand, 0, 0, 0, .null), (3, .if_icmp .eq 22, 376, 0, 0, .null), (1, .aload_n 2, 0, 0, 0, .null), (3, .getfield 130, 13, 1, 0, .null), (2, .bipush 12, 0, 0, 0, .int 12), (3, .invokestatic 99, 140, 2, 0, .null), (3, .ifCond .ne 10, 376, 0, 0, .null), (1, .aload_n 2, 0, 0, 0, .null), (3, .getfield 130, 13, 1, 0, .null), (3, .invokestatic 188, 161, 1, 0, .null)]
set_option maxRecDepth 20000 in
theorem oX14_mapx_338 : vm_okB 14 mX14_map 338 bX14_mapx_338 = true := by decide +kernel
def bX14_mapx_376 : List vm_J := [(1, .aload_n 2, 0, 0, 0, .null), (1, .iconst 0, 0, 0, 0, .int 0), (3, .putfield 113, 13, 2, 2, .null)]
set_option maxRecDepth 20000 in
theorem oX14_mapx_376 : vm_okB 14 mX14_map 376 bX14_mapx_376 = true := by decide +kernel
def bX14_mapx_381 : List vm_J := [(1, .return_, 0, 0, 0, .null)]
set_option maxRecDepth 20000 in
theorem oX14_mapx_381 : vm_okB 14 mX14_map 381 bX14_mapx_381 = true := by decide +kernel
theorem mp_a {V u : fq} (h : V = 0 - u * u * 12) {y z : fq} (hz : z = -12) (hy : y = u * u * z) : y = V := by
  subst hz; subst hy; subst h; grind
theorem mp_b {F : Type} [Lean.Grind.CommRing F] {i B : F} (h : ((-12 : F) * -3) * i = 1) : 36 * (i * B) = B := by grind
theorem mp_c {F : Type} [Lean.Grind.CommRing F] {t i j B : F} (h : t * i = 1) (h2 : 3 * j = 1) : 3 * ((i + 1) * j * B) * t = B * (t + 1) := by
  have e : 3 * ((i + 1) * j * B) * t = (3 * j) * B * (t * i + t) := by clear h h2; grind
  rw [e, h, h2]; clear e h h2; grind
theorem fz_k (n : Nat) (x : fq) (h : x.val = n) : fz (n : Int) = x := fz_i (by rw [h])
section
variable {l : Launch} {O : Nat → vm_Ob} {f9 : Value} {h : vm_H} {a : Nat} {t : KT} {g : Nat → Int32}

theorem map_c {s : Nat} {u9 x y : fq} {h1 : vm_H} {Q : Option Value → vm_H → Prop} (k : RK h1 a t g) (z : ZP s) (hs : 22 < s) (h39 : 39 ≤ s ∧ (s + 2 < 42 ∨ 45 < s)) (F : fr h h1 (fun q => JV a q ∨ (a + 42 ≤ q ∧ q ≤ a + 45) ∨ (a + s ≤ q ∧ q ≤ a + s + 2))) (hu : wq h1 (a + 42) u9) (hx : wq h1 (a + s + 1) x) (hy : wq h1 (a + s + 2) y) (on : y * y = cu x) (hM : ∀ y', y' * y' = cu x → y'.val % 2 = u9.val % 2 → MAP u9 x y') (kk : ∀ h' p, MAP u9 (p : fq × fq).1 p.2 → RK h' a t g → SP h' (a + s) (some p) → fr h h' (fun q => JV a q ∨ (a + 42 ≤ q ∧ q ≤ a + 45) ∨ (a + s ≤ q ∧ q ≤ a + s + 2)) → Q none h') : vm_T (vm_env l O f9) mX14_map 0 0 338 [(0, .ref a), (2, .ref (a + s))] [] h1 Q := by
  have ao := k.2.1
  have zs : s < 290 := by unfold ZP at z; omega
  have hy0 : y ≠ 0 := cK.2.2.2 _ _ (cu_on on)
  have fin : ∀ (h2 : vm_H) (y' : fq), RK h2 a t g → fr h h2 (fun q => JV a q ∨ (a + 42 ≤ q ∧ q ≤ a + 45) ∨ (a + s ≤ q ∧ q ≤ a + s + 2)) → wq h2 (a + s + 1) x → wq h2 (a + s + 2) y' → MAP u9 x y' → vm_T (vm_env l O f9) mX14_map 0 0 376 [(0, .ref a), (2, .ref (a + s))] [] h2 Q := by
    intro h2 y' k2 F2 x2 y2 m2
    obtain ⟨⟨b, q1⟩, _, _⟩ := RK_p k2 z
    obtain ⟨h3, eh3⟩ : ∃ h3, h3 = vm_up h2 (a + s) (SPo (a + s) 0) := ⟨_, rfl⟩
    have F3 : fr h2 h3 (fun q => q = a + s) := eh3 ▸ fr_up rfl
    have r3 : h3.2 (a + s) = SPo (a + s) 0 := by rw [eh3]; exact vm_upe
    have x3 := wq_cg x2 (F3.2 (a + s + 1) (by omega))
    have y3 := wq_cg y2 (F3.2 (a + s + 2) (by omega))
    have has : a + s < 1099511627776 := by omega
    refine vm_go rfl bX14_mapx_376 oX14_mapx_376 ⟨_, q1, has, show 2 < 3 by decide, Or.inl rfl, ?_⟩
    refine vm_Th (lv' := [(0, .ref a), (2, .ref (a + s))]) (h' := h3) rfl eh3 ?_
    refine vm_go rfl bX14_mapx_381 oX14_mapx_381 (kk h3 (x, y') m2 (RK_of k2 F3 ((F3.2 a (by omega)).trans k2.1) (fun q w => .inr (GD_p z ⟨⟨_, r3⟩, wv_iw x3, wv_iw y3⟩ (by omega) (by omega)))) ⟨r3, x3, y3⟩ (fr_trans F2 (fr_mono F3 (fun q w => .inr (.inr (by omega))))))
  obtain ⟨fu, eu, vu⟩ := w_odd hu (by decide)
  obtain ⟨fy, ey, vy⟩ := w_odd hy (by decide)
  obtain ⟨⟨b, q1⟩, _, _⟩ := RK_p k z
  refine vm_go rfl bX14_mapx_338 oX14_mapx_338 ⟨_, _, k.1, rfl, ⟨12, fu, eu, 0, rfl, by decide, fun _ => ⟨_, _, q1, rfl, ⟨12, fy, ey, 0, rfl, by decide, fun _ => ⟨fun q => ?_, fun q => ?_⟩⟩⟩⟩⟩
  · have q : fu 0 &&& 1 = fy 0 &&& 1 := q
    rw [vu, vy, nI_ij (by omega) (by omega)] at q
    exact fin h1 y k F hx hy (hM y on q.symm)
  · have q : ¬ fu 0 &&& 1 = fy 0 &&& 1 := q
    rw [vu, vy, nI_ij (by omega) (by omega)] at q
    refine ⟨_, _, q1, rfl, ⟨0, 0, _, rm_zw hy (by decide) (by decide) (fq_b12 _), Nat.zero_le _, Nat.zero_le _, ?_⟩⟩
    rintro _ h5 ⟨⟨o5, rfl, ho5⟩, e5⟩
    rw [e5]; clear e5 h5
    cases o5 with
    | true => exact absurd (Fin.ext (ho5.mp rfl)) hy0
    | false =>
    refine ⟨fun q => absurd rfl q, fun _ => ⟨_, _, q1, rfl, ⟨0, 0, _, cq_turn k.2.2.1.1 hy hy0 (by omega), Nat.zero_le _, Nat.zero_le _, ?_⟩⟩⟩
    rintro _ h5 ⟨rfl, w5, F5⟩
    have hp := pr2 y hy0
    have x5 := wq_cg hx (F5.2 (a + s + 1) (by omega))
    have r5 := (F5.2 (a + s) (by omega)).trans q1
    refine fin h5 (-y) (RK_of k F5 ((F5.2 a (by omega)).trans k.1) (fun q w => .inr (GD_p z ⟨⟨_, r5⟩, wv_iw x5, wv_iw w5⟩ (by omega) (by omega)))) (fr_trans F (fr_mono F5 (fun q w => .inr (.inr (by omega))))) x5 w5 (hM _ ?_ (by omega))
    rw [← on]
    grind
theorem map_b {s : Nat} {u9 V T : fq} {h1 : vm_H} {Q : Option Value → vm_H → Prop} (k : RK h1 a t g) (z : ZP s) (hs : 22 < s) (h39 : 39 ≤ s ∧ (s + 2 < 42 ∨ 45 < s)) (F : fr h h1 (fun q => JV a q ∨ (a + 42 ≤ q ∧ q ≤ a + 45) ∨ (a + s ≤ q ∧ q ≤ a + s + 2))) (hu : wq h1 (a + 42) u9) (hV : wq h1 (a + 43) V) (hVv : V = vv u9) (hT : wq h1 (a + 44) T) (hM : MX1 u9 (T * fz (cB : Int))) (kk : ∀ h' p, MAP u9 (p : fq × fq).1 p.2 → RK h' a t g → SP h' (a + s) (some p) → fr h h' (fun q => JV a q ∨ (a + 42 ≤ q ∧ q ≤ a + 45) ∨ (a + s ≤ q ∧ q ≤ a + s + 2)) → Q none h') : vm_T (vm_env l O f9) mX14_map 0 0 247 [(0, .ref a), (2, .ref (a + s))] [] h1 Q := by
  have ao := k.2.1
  have zs : s < 290 := by unfold ZP at z; omega
  obtain ⟨x1, ex1⟩ : ∃ x1, T * fz (cB : Int) = x1 := ⟨_, rfl⟩
  rw [ex1] at hM
  obtain ⟨⟨b, q1⟩, _, _⟩ := RK_p k z
  have hB : wq h1 1099511627777 (fz (cB : Int)) := by
    unfold wq
    rw [cB_v]; exact k.2.2.1.1.1
  refine vm_go rfl bX14_mapx_247 oX14_mapx_247 ⟨_, _, k.1, rfl, ⟨_, _, k.1, rfl, ⟨_, rfl, ⟨_, _, q1, rfl, ⟨_, k.1, 0, 0, _, rq_mul (n9 := 0) k hT hB (by omega) (by omega) (TG_x z), Nat.zero_le _, Nat.zero_le _, ?_⟩⟩⟩⟩⟩
  rintro _ h2 ⟨rfl, k2, wx, F2⟩
  rw [ex1] at wx
  have hu := wq_cg hu (F2.2 (a + 42) (by unfold JV JW; omega))
  have hV := wq_cg hV (F2.2 (a + 43) (by unfold JV JW; omega))
  have q1 := (F2.2 (a + s) (by unfold JV JW; omega)).trans q1
  refine ⟨_, _, q1, rfl, ⟨_, _, k2.1, rfl, ⟨_, k2.1, 0, 0, _, rq_curve (n9 := 0) k2 wx (by omega) (by omega) (by omega) (TG_i (i := 45) (by unfold ZI; omega) rfl) (by omega), Nat.zero_le _, Nat.zero_le _, ?_⟩⟩⟩
  rintro _ h3 ⟨rfl, k3, wo, F3⟩
  have hu := wq_cg hu (F3.2 (a + 42) (by unfold JV JW; omega))
  have hV := wq_cg hV (F3.2 (a + 43) (by unfold JV JW; omega))
  have wx := wq_cg wx (F3.2 (a + s + 1) (by unfold JV JW; omega))
  have q1 := (F3.2 (a + s) (by unfold JV JW; omega)).trans q1
  refine ⟨_, _, k3.1, rfl, ⟨_, _, q1, rfl, ⟨_, k3.1, 0, 0, _, rq_root k3 wo (TG_y z) (by omega), Nat.zero_le _, Nat.zero_le _, ?_⟩⟩⟩
  rintro _ h4 ⟨⟨ok, rfl, hok⟩, k4, wy, F4⟩
  have hu := wq_cg hu (F4.2 (a + 42) (by unfold JV JW; omega))
  have hV := wq_cg hV (F4.2 (a + 43) (by unfold JV JW; omega))
  have wx := wq_cg wx (F4.2 (a + s + 1) (by unfold JV JW; omega))
  have q1 := (F4.2 (a + s) (by unfold JV JW; omega)).trans q1
  have FF : fr h h4 (fun q => JV a q ∨ (a + 42 ≤ q ∧ q ≤ a + 45) ∨ (a + s ≤ q ∧ q ≤ a + s + 2)) := fr_trans F (fr_trans (fr_mono F2 (fun q y => y.elim .inl (fun y => .inr (by omega)))) (fr_trans (fr_mono F3 (fun q y => y.elim .inl (fun y => .inr (by omega)))) (fr_mono F4 (fun q y => y.elim .inl (fun y => .inr (by omega))))))
  cases ok with
  | true =>
    have rt := hok.mp rfl
    refine ⟨fun _ => ?_, fun q => absurd q (by decide)⟩
    exact map_c k4 z hs h39 FF hu wx wy rt (fun y' e1 e2 => ⟨x1, hM, .inl ⟨rfl, _, rt⟩, e1, e2⟩) kk
  | false =>
    have no : ¬ rtF (cu x1) * rtF (cu x1) = cu x1 := fun e => nomatch hok.mpr e
    have nw : ∀ w, w * w ≠ cu x1 := fun w e => no (rtF_sq e)
    have M2 : 3 * x1 * (V * V + V) = fz (cB : Int) * (V * V + V + 1) := by
      rcases hM with e | e
      · obtain ⟨w, ew⟩ := sw_ex e.2
        exact absurd ew (nw w)
      · rw [hVv]; exact e.2
    have rt2 : rtF (cu (V * x1)) * rtF (cu (V * x1)) = cu (V * x1) := by
      have e1 : cu (V * x1) = V * V * V * cu x1 := by
        unfold cu
        exact sw_g M2
      have hm := (rtF_pm (cu x1)).resolve_left no
      refine rtF_sq (s := rtF (cu x1) * V * u9 * fz (r12 : Int)) ?_
      rw [e1]
      exact sw_y hm hVv r12_e
    refine ⟨fun q => absurd rfl q, fun _ => ?_⟩
    refine ⟨_, _, k4.1, rfl, ⟨_, _, k4.1, rfl, ⟨_, _, q1, rfl, ⟨_, _, q1, rfl, ⟨_, k4.1, 0, 0, _, rq_mul (n9 := 0) k4 hV wx (by omega) (by omega) (TG_x z), Nat.zero_le _, Nat.zero_le _, ?_⟩⟩⟩⟩⟩
    rintro _ h5 ⟨rfl, k5, wx, F5⟩
    have hu := wq_cg hu (F5.2 (a + 42) (by unfold JV JW; omega))
    have q1 := (F5.2 (a + s) (by unfold JV JW; omega)).trans q1
    refine ⟨_, _, q1, rfl, ⟨_, _, k5.1, rfl, ⟨_, k5.1, 0, 0, _, rq_curve (n9 := 0) k5 wx (by omega) (by omega) (by omega) (TG_i (i := 45) (by unfold ZI; omega) rfl) (by omega), Nat.zero_le _, Nat.zero_le _, ?_⟩⟩⟩
    rintro _ h6 ⟨rfl, k6, wo, F6⟩
    have hu := wq_cg hu (F6.2 (a + 42) (by unfold JV JW; omega))
    have wx := wq_cg wx (F6.2 (a + s + 1) (by unfold JV JW; omega))
    have q1 := (F6.2 (a + s) (by unfold JV JW; omega)).trans q1
    refine ⟨_, _, k6.1, rfl, ⟨_, _, q1, rfl, ⟨_, k6.1, 0, 0, _, rq_root k6 wo (TG_y z) (by omega), Nat.zero_le _, Nat.zero_le _, ?_⟩⟩⟩
    rintro _ h7 ⟨⟨ok, rfl, hok⟩, k7, wy, F7⟩
    have hu := wq_cg hu (F7.2 (a + 42) (by unfold JV JW; omega))
    have wx := wq_cg wx (F7.2 (a + s + 1) (by unfold JV JW; omega))
    have FF : fr h h7 (fun q => JV a q ∨ (a + 42 ≤ q ∧ q ≤ a + 45) ∨ (a + s ≤ q ∧ q ≤ a + s + 2)) := fr_trans FF (fr_trans (fr_mono F5 (fun q y => y.elim .inl (fun y => .inr (by omega)))) (fr_trans (fr_mono F6 (fun q y => y.elim .inl (fun y => .inr (by omega)))) (fr_mono F7 (fun q y => y.elim .inl (fun y => .inr (by omega))))))
    refine vm_less [0, 1] rfl ?_
    refine vm_Th (lv' := [(0, .ref a), (2, .ref (a + s))]) (h' := h7) rfl rfl ?_
    exact map_c k7 z hs h39 FF hu wx wy rt2 (fun y' e1 e2 => ⟨x1, hM, .inr ⟨by rw [hVv], nw⟩, e1, e2⟩) kk
theorem rm_map {s px : Nat} {u9 : fq} (k : RK h a t g) (z : ZP s) (hs : 22 < s) (h39 : 39 ≤ s ∧ (s + 2 < 42 ∨ 45 < s)) (hu : wq h px u9) : vm_Met (vm_env l O f9) mX14_map 0 0 [.ref a, .ref px, .ref (a + s)] h (fun r h' => r = none ∧ RK h' a t g ∧ SP h' (a + s) (some (mapF u9)) ∧ fr h h' (fun q => JV a q ∨ (a + 42 ≤ q ∧ q ≤ a + 45) ∨ (a + s ≤ q ∧ q ≤ a + s + 2))) := by
  suffices H : ∀ Q : Option Value → vm_H → Prop, (∀ h' p, MAP u9 (p : fq × fq).1 p.2 → RK h' a t g → SP h' (a + s) (some p) → fr h h' (fun q => JV a q ∨ (a + 42 ≤ q ∧ q ≤ a + 45) ∨ (a + s ≤ q ∧ q ≤ a + s + 2)) → Q none h') → vm_Met (vm_env l O f9) mX14_map 0 0 [.ref a, .ref px, .ref (a + s)] h Q from H _ (fun h' p e1 e2 e3 e4 => ⟨rfl, e2, by rw [mapF_e e1]; exact e3, e4⟩)
  intro Q kk
  have ao := k.2.1
  refine vm_met rfl (Nat.le_of_ble_eq_true rfl) ?_
  refine vm_go rfl bX14_mapx_0 oX14_mapx_0 ⟨_, _, k.1, rfl, ⟨0, 0, _, rq_cp (n9 := 0) k hu (TG_i (i := 42) (by unfold ZI; omega) rfl), Nat.zero_le _, Nat.zero_le _, ?_⟩⟩
  rintro _ h1 ⟨rfl, k1, wu, F1⟩
  refine ⟨_, _, k1.1, rfl, ⟨_, _, k1.1, rfl, ⟨_, _, k1.1, rfl, ⟨_, _, k1.1, rfl, ⟨_, k1.1, 0, 0, _, rq_mul (n9 := 0) k1 wu wu (by omega) (by omega) (TG_i (i := 43) (by unfold ZI; omega) rfl), Nat.zero_le _, Nat.zero_le _, ?_⟩⟩⟩⟩⟩
  rintro _ h2 ⟨rfl, k2, wz, F2⟩
  have wu := wq_cg wu (F2.2 (a + 42) (by unfold JV JW; omega))
  refine ⟨_, _, k2.1, rfl, ⟨_, _, k2.1, rfl, ⟨_, _, k2.1, rfl, ⟨_, _, k2.1, rfl, ⟨_, k2.1, 0, 0, _, rq_mul (n9 := 0) k2 wz k2.2.2.2.1.2.2.2.2.2.1 (by omega) (by omega) (TG_i (i := 43) (by unfold ZI; omega) rfl), Nat.zero_le _, Nat.zero_le _, ?_⟩⟩⟩⟩⟩
  rintro _ h3 ⟨rfl, k3, wz, F3⟩
  have wu := wq_cg wu (F3.2 (a + 42) (by unfold JV JW; omega))
  obtain ⟨V, eV⟩ : ∃ V, u9 * u9 * -12 = V := ⟨_, rfl⟩
  rw [eV] at wz
  have hVv : V = vv u9 := (mp_a rfl rfl eV.symm).symm ▸ rfl
  refine ⟨_, _, k3.1, rfl, ⟨_, _, k3.1, rfl, ⟨_, _, k3.1, rfl, ⟨_, _, k3.1, rfl, ⟨_, k3.1, 0, 0, _, rq_mul (n9 := 0) k3 wz wz (by omega) (by omega) (TG_i (i := 44) (by unfold ZI; omega) rfl), Nat.zero_le _, Nat.zero_le _, ?_⟩⟩⟩⟩⟩
  rintro _ h4 ⟨rfl, k4, wt, F4⟩
  have wu := wq_cg wu (F4.2 (a + 42) (by unfold JV JW; omega))
  have wz := wq_cg wz (F4.2 (a + 43) (by unfold JV JW; omega))
  refine ⟨_, _, k4.1, rfl, ⟨_, _, k4.1, rfl, ⟨_, _, k4.1, rfl, ⟨_, _, k4.1, rfl, ⟨0, 0, _, rq_add (n9 := 0) k4 wt wz (TG_i (i := 44) (by unfold ZI; omega) rfl), Nat.zero_le _, Nat.zero_le _, ?_⟩⟩⟩⟩⟩
  rintro _ h5 ⟨rfl, k5, wt, F5⟩
  have wu := wq_cg wu (F5.2 (a + 42) (by unfold JV JW; omega))
  have wz := wq_cg wz (F5.2 (a + 43) (by unfold JV JW; omega))
  have FF : fr h h5 (fun q => JV a q ∨ (a + 42 ≤ q ∧ q ≤ a + 45) ∨ (a + s ≤ q ∧ q ≤ a + s + 2)) := fr_trans (fr_mono F1 (fun q y => y.elim .inl (fun y => .inr (by omega)))) (fr_trans (fr_mono F2 (fun q y => y.elim .inl (fun y => .inr (by omega)))) (fr_trans (fr_mono F3 (fun q y => y.elim .inl (fun y => .inr (by omega)))) (fr_trans (fr_mono F4 (fun q y => y.elim .inl (fun y => .inr (by omega)))) (fr_mono F5 (fun q y => y.elim .inl (fun y => .inr (by omega)))))))
  refine ⟨_, _, k5.1, rfl, ⟨0, 0, _, rm_zw wt (by decide) (by decide) (fq_b12 _), Nat.zero_le _, Nat.zero_le _, ?_⟩⟩
  rintro _ h6 ⟨⟨o6, rfl, ho6⟩, e6⟩
  rw [e6]; clear e6 h6
  cases o6 with
  | true =>
    have tz : V * V + V = 0 := Fin.ext (ho6.mp rfl)
    refine ⟨fun q => absurd q (by decide), fun _ => ?_⟩
    refine ⟨_, _, k5.1, rfl, ⟨_, _, k5.1, rfl, ⟨_, _, k5.1, rfl, ⟨_, _, k5.1, rfl, ⟨_, k5.1, 0, 0, _, rq_mul (n9 := 0) k5 k5.2.2.2.1.2.2.2.2.2.1 k5.2.2.2.1.2.2.2.2.1 (by omega) (by omega) (TG_i (i := 45) (by unfold ZI; omega) rfl), Nat.zero_le _, Nat.zero_le _, ?_⟩⟩⟩⟩⟩
    rintro _ h6 ⟨rfl, k6, wo, F6⟩
    have wu := wq_cg wu (F6.2 (a + 42) (by unfold JV JW; omega))
    have wz := wq_cg wz (F6.2 (a + 43) (by unfold JV JW; omega))
    refine ⟨_, _, k6.1, rfl, ⟨_, _, k6.1, rfl, ⟨_, _, k6.1, rfl, ⟨_, k6.1, 0, 0, _, rq_inv (n9 := 0) k6 wo (by decide +kernel) (by omega) (TG_i (i := 44) (by unfold ZI; omega) rfl), Nat.zero_le _, Nat.zero_le _, ?_⟩⟩⟩⟩
    rintro _ h7 ⟨rfl, k7, wt, F7⟩
    have wu := wq_cg wu (F7.2 (a + 42) (by unfold JV JW; omega))
    have wz := wq_cg wz (F7.2 (a + 43) (by unfold JV JW; omega))
    have FF : fr h h7 (fun q => JV a q ∨ (a + 42 ≤ q ∧ q ≤ a + 45) ∨ (a + s ≤ q ∧ q ≤ a + s + 2)) := fr_trans FF (fr_trans (fr_mono F6 (fun q y => y.elim .inl (fun y => .inr (by omega)))) (fr_mono F7 (fun q y => y.elim .inl (fun y => .inr (by omega)))))
    refine vm_less [0, 2] rfl ?_
    refine vm_Th (lv' := [(0, .ref a), (2, .ref (a + s))]) (h' := h7) rfl rfl ?_
    refine vm_go rfl bX14_mapx_138 oX14_mapx_138 ?_
    exact map_b k7 z hs h39 FF wu wz hVv wt (.inl ⟨by rw [← hVv]; exact tz, mp_b (fiv_e _ (by decide +kernel))⟩) kk
  | false =>
    have tz : V * V + V ≠ 0 := fun e => nomatch ho6.mpr (by rw [e]; rfl)
    refine ⟨fun _ => ?_, fun q => absurd rfl q⟩
    refine vm_go rfl bX14_mapx_141 oX14_mapx_141 ⟨_, _, k5.1, rfl, ⟨_, _, k5.1, rfl, ⟨0, 0, _, rq_cp (n9 := 0) k5 wt (TG_i (i := 45) (by unfold ZI; omega) rfl), Nat.zero_le _, Nat.zero_le _, ?_⟩⟩⟩
    rintro _ h6 ⟨rfl, k6, wo, F6⟩
    have wu := wq_cg wu (F6.2 (a + 42) (by unfold JV JW; omega))
    have wz := wq_cg wz (F6.2 (a + 43) (by unfold JV JW; omega))
    refine ⟨_, _, k6.1, rfl, ⟨_, _, k6.1, rfl, ⟨_, _, k6.1, rfl, ⟨_, k6.1, 0, 0, _, rq_inv (n9 := 0) k6 wo tz (by omega) (TG_i (i := 44) (by unfold ZI; omega) rfl), Nat.zero_le _, Nat.zero_le _, ?_⟩⟩⟩⟩
    rintro _ h7 ⟨rfl, k7, wt, F7⟩
    have wu := wq_cg wu (F7.2 (a + 42) (by unfold JV JW; omega))
    have wz := wq_cg wz (F7.2 (a + 43) (by unfold JV JW; omega))
    refine vm_less [0, 2] rfl ?_
    refine vm_Th (lv' := [(0, .ref a), (2, .ref (a + s))]) (h' := h7) rfl rfl ?_
    refine vm_go rfl bX14_mapx_171 oX14_mapx_171 ⟨_, _, k7.1, rfl, ⟨0, 0, _, rq_sm (n9 := 1) k7 (by decide) (TG_i (i := 45) (by unfold ZI; omega) rfl), Nat.zero_le _, Nat.zero_le _, ?_⟩⟩
    rintro _ h8 ⟨rfl, k8, wo, F8⟩
    have wu := wq_cg wu (F8.2 (a + 42) (by unfold JV JW; omega))
    have wz := wq_cg wz (F8.2 (a + 43) (by unfold JV JW; omega))
    have wt := wq_cg wt (F8.2 (a + 44) (by unfold JV JW; omega))
    refine ⟨_, _, k8.1, rfl, ⟨_, _, k8.1, rfl, ⟨_, _, k8.1, rfl, ⟨_, _, k8.1, rfl, ⟨0, 0, _, rq_add (n9 := 0) k8 wt wo (TG_i (i := 44) (by unfold ZI; omega) rfl), Nat.zero_le _, Nat.zero_le _, ?_⟩⟩⟩⟩⟩
    rintro _ h9 ⟨rfl, k9, wt, F9⟩
    have wu := wq_cg wu (F9.2 (a + 42) (by unfold JV JW; omega))
    have wz := wq_cg wz (F9.2 (a + 43) (by unfold JV JW; omega))
    refine ⟨_, _, k9.1, rfl, ⟨0, 0, _, rq_sm (n9 := 3) k9 (by decide) (TG_i (i := 45) (by unfold ZI; omega) rfl), Nat.zero_le _, Nat.zero_le _, ?_⟩⟩
    rintro _ h10 ⟨rfl, k10, wo, F10⟩
    have wu := wq_cg wu (F10.2 (a + 42) (by unfold JV JW; omega))
    have wz := wq_cg wz (F10.2 (a + 43) (by unfold JV JW; omega))
    have wt := wq_cg wt (F10.2 (a + 44) (by unfold JV JW; omega))
    rw [fz_k 3 (3 : fq) (by decide)] at wo
    refine ⟨_, _, k10.1, rfl, ⟨_, _, k10.1, rfl, ⟨_, _, k10.1, rfl, ⟨_, k10.1, 0, 0, _, rq_inv (n9 := 0) k10 wo fq_three (by omega) (TG_i (i := 27) (by unfold ZI; omega) rfl), Nat.zero_le _, Nat.zero_le _, ?_⟩⟩⟩⟩
    rintro _ h11 ⟨rfl, k11, w3, F11⟩
    have wu := wq_cg wu (F11.2 (a + 42) (by unfold JV JW; omega))
    have wz := wq_cg wz (F11.2 (a + 43) (by unfold JV JW; omega))
    have wt := wq_cg wt (F11.2 (a + 44) (by unfold JV JW; omega))
    refine vm_less [0, 1] rfl ?_
    refine vm_Th (lv' := [(0, .ref a), (2, .ref (a + s))]) (h' := h11) rfl rfl ?_
    refine vm_go rfl bX14_mapx_227 oX14_mapx_227 ⟨_, _, k11.1, rfl, ⟨_, _, k11.1, rfl, ⟨_, _, k11.1, rfl, ⟨_, _, k11.1, rfl, ⟨_, k11.1, 0, 0, _, rq_mul (n9 := 0) k11 wt w3 (by omega) (by omega) (TG_i (i := 44) (by unfold ZI; omega) rfl), Nat.zero_le _, Nat.zero_le _, ?_⟩⟩⟩⟩⟩
    rintro _ h12 ⟨rfl, k12, wt, F12⟩
    have wu := wq_cg wu (F12.2 (a + 42) (by unfold JV JW; omega))
    have wz := wq_cg wz (F12.2 (a + 43) (by unfold JV JW; omega))
    rw [fz_k 1 (1 : fq) (by decide)] at wt
    have FF : fr h h12 (fun q => JV a q ∨ (a + 42 ≤ q ∧ q ≤ a + 45) ∨ (a + s ≤ q ∧ q ≤ a + s + 2)) := fr_trans FF (fr_trans (fr_mono F6 (fun q y => y.elim .inl (fun y => .inr (by omega)))) (fr_trans (fr_mono F7 (fun q y => y.elim .inl (fun y => .inr (by omega)))) (fr_trans (fr_mono F8 (fun q y => y.elim .inl (fun y => .inr (by omega)))) (fr_trans (fr_mono F9 (fun q y => y.elim .inl (fun y => .inr (by omega)))) (fr_trans (fr_mono F10 (fun q y => y.elim .inl (fun y => .inr (by omega)))) (fr_trans (fr_mono F11 (fun q y => y.elim .inl (fun y => .inl (.inr y)))) (fr_mono F12 (fun q y => y.elim .inl (fun y => .inr (by omega))))))))))
    exact map_b k12 z hs h39 FF wu wz hVv wt (.inr ⟨by rw [← hVv]; exact tz, by rw [← hVv]; exact mp_c (fiv_e _ tz) (fiv_e _ fq_three)⟩) kk
end
