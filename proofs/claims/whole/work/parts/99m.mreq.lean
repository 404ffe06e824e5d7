/-! the mint: request -/
def bX11_requestx_0 : List vm_J := [(1, .aload_n 0, 0, 0, 0, .null), (3, .invokevirtual 93, 120, 0, 11, .null), (1, .istore_n 2, 0, 0, 0, .null)]
set_option maxRecDepth 20000 in
theorem oX11_requestx_0 : vm_okB 11 mX11_request 0 bX11_requestx_0 = true := by decide +kernel
def bX11_requestx_5 : List vm_J := [(1, .aload_n 0, 0, 0, 0, .null), (1, .iload_n 1, 0, 0, 0, .null), (3, .invokevirtual 130, 122, 1, 11, .null), (1, .astore_n 3, 0, 0, 0, .null)]
set_option maxRecDepth 20000 in
theorem oX11_requestx_5 : vm_okB 11 mX11_request 5 bX11_requestx_5 = true := by decide +kernel
def bX11_requestx_11 : List vm_J := [(1, .aload_n 3, 0, 0, 0, .null), (3, .ifnull 10, 22, 0, 0, .null), (1, .aload_n 3, 0, 0, 0, .null), (3, .getfield 141, 5, 8, 0, .null), (3, .ifCond .ne 6, 25, 0, 0, .null)]
set_option maxRecDepth 20000 in
theorem oX11_requestx_11 : vm_okB 11 mX11_request 11 bX11_requestx_11 = true := by decide +kernel
def bX11_requestx_22 : List vm_J := [(2, .bipush (-3), 0, 0, 0, .int (-3)), (1, .ireturn, 0, 0, 0, .null)]
set_option maxRecDepth 20000 in
theorem oX11_requestx_22 : vm_okB 11 mX11_request 22 bX11_requestx_22 = true := by decide +kernel
def bX11_requestx_25 : List vm_J := [(1, .iload_n 2, 0, 0, 0, .null), (2, .bipush 64, 0, 0, 0, .int 64), (1, .aload_n 3, 0, 0, 0, .null), (3, .getfield 117, 5, 3, 0, .null), (1, .iadd, 0, 0, 0, .null), (1, .aload_n 3, 0, 0, 0, .null), (3, .getfield 152, 5, 1, 0, .null), (1, .iadd, 0, 0, 0, .null), (3, .if_icmp .eq 6, 44, 0, 0, .null), (2, .bipush (-2), 0, 0, 0, .int (-2)), (1, .ireturn, 0, 0, 0, .null)]
set_option maxRecDepth 20000 in
theorem oX11_requestx_25 : vm_okB 11 mX11_request 25 bX11_requestx_25 = true := by decide +kernel
def bX11_requestx_44 : List vm_J := [(1, .aload_n 0, 0, 0, 0, .null), (3, .getfield 68, 11, 10, 0, .null), (2, .bipush 60, 0, 0, 0, .int 60), (3, .if_icmp .lt 6, 56, 0, 0, .null), (2, .bipush (-6), 0, 0, 0, .int (-6)), (1, .ireturn, 0, 0, 0, .null)]
set_option maxRecDepth 20000 in
theorem oX11_requestx_44 : vm_okB 11 mX11_request 44 bX11_requestx_44 = true := by decide +kernel
def bX11_requestx_56 : List vm_J := [(1, .aload_n 0, 0, 0, 0, .null), (3, .getfield 21, 11, 2, 0, .null), (3, .invokevirtual 111, 89, 0, 9, .null), (1, .aload_n 0, 0, 0, 0, .null), (3, .getfield 21, 11, 2, 0, .null), (1, .aload_n 3, 0, 0, 0, .null), (3, .getfield 149, 5, 0, 0, .null), (1, .iconst 2, 0, 0, 0, .int 2), (3, .invokevirtual 78, 91, 2, 9, .null), (1, .aload_n 0, 0, 0, 0, .null), (3, .getfield 21, 11, 2, 0, .null), (1, .aload_n 0, 0, 0, 0, .null), (3, .getfield 14, 11, 0, 0, .null), (3, .getfield 85, 9, 0, 0, .null), (1, .iconst 0, 0, 0, 0, .int 0), (2, .bipush 64, 0, 0, 0, .int 64), (3, .invokevirtual 89, 93, 3, 9, .null), (1, .aload_n 0, 0, 0, 0, .null), (3, .getfield 21, 11, 2, 0, .null), (1, .aload_n 3, 0, 0, 0, .null), (3, .getfield 123, 5, 6, 0, .null), (1, .iconst 0, 0, 0, 0, .int 0), (2, .bipush 32, 0, 0, 0, .int 32), (3, .invokevirtual 89, 93, 3, 9, .null), (1, .aload_n 3, 0, 0, 0, .null), (3, .getfield 149, 5, 0, 0, .null), (1, .iconst 1, 0, 0, 0, .int 1), (3, .if_icmp .ne 29, 140, 0, 0, .null), (1, .aload_n 0, 0, 0, 0, .null), (3, .getfield 34, 11, 4, 0, .null), (1, .aload_n 0, 0, 0, 0, .null), (3, .getfield 21, 11, 2, 0, .null), (3, .getfield 85, 9, 0, 0, .null), (1, .aload_n 0, 0, 0, 0, .null), (3, .getfield 14, 11, 0, 0, .null), (3, .getfield 85, 9, 0, 0, .null), (2, .bipush 64, 0, 0, 0, .int 64), (3, .invokevirtual 155, 67, 3, 7, .null), (3, .goto 27, 164, 0, 0, .null)]
set_option maxRecDepth 20000 in
theorem oX11_requestx_56 : vm_okB 11 mX11_request 56 bX11_requestx_56 = true := by decide +kernel
def bX11_requestx_140 : List vm_J := [(1, .aload_n 0, 0, 0, 0, .null), (3, .getfield 41, 11, 5, 0, .null), (1, .aload_n 3, 0, 0, 0, .null), (1, .aload_n 0, 0, 0, 0, .null), (3, .getfield 21, 11, 2, 0, .null), (3, .getfield 85, 9, 0, 0, .null), (1, .aload_n 0, 0, 0, 0, .null), (3, .getfield 14, 11, 0, 0, .null), (3, .getfield 85, 9, 0, 0, .null), (2, .bipush 64, 0, 0, 0, .int 64), (3, .invokevirtual 159, 6, 4, 1, .null)]
set_option maxRecDepth 20000 in
theorem oX11_requestx_140 : vm_okB 11 mX11_request 140 bX11_requestx_140 = true := by decide +kernel
def bX11_requestx_164 : List vm_J := [(2, .istore 4, 0, 0, 0, .null)]
set_option maxRecDepth 20000 in
theorem oX11_requestx_164 : vm_okB 11 mX11_request 164 bX11_requestx_164 = true := by decide +kernel
def bX11_requestx_166 : List vm_J := [(2, .iload 4, 0, 0, 0, .null), (3, .ifCond .ne 6, 174, 0, 0, .null), (2, .bipush (-4), 0, 0, 0, .int (-4)), (1, .ireturn, 0, 0, 0, .null)]
set_option maxRecDepth 20000 in
theorem oX11_requestx_166 : vm_okB 11 mX11_request 166 bX11_requestx_166 = true := by decide +kernel
def bX11_requestx_174 : List vm_J := [(1, .aload_n 3, 0, 0, 0, .null), (3, .getfield 149, 5, 0, 0, .null), (1, .iconst 1, 0, 0, 0, .int 1), (3, .if_icmp .ne 35, 214, 0, 0, .null), (3, .new 58, 0, 0, 0, .null), (1, .dup, 0, 0, 0, .null), (1, .aload_n 3, 0, 0, 0, .null), (1, .aload_n 0, 0, 0, 0, .null), (3, .getfield 21, 11, 2, 0, .null), (3, .getfield 85, 9, 0, 0, .null), (1, .aload_n 0, 0, 0, 0, .null), (3, .getfield 34, 11, 4, 0, .null), (3, .getfield 162, 7, 0, 0, .null), (1, .aload_n 0, 0, 0, 0, .null), (3, .getfield 34, 11, 4, 0, .null), (3, .getfield 165, 7, 1, 0, .null), (3, .invokespecial 168, 0, 4, 0, .null), (3, .goto 32, 243, 0, 0, .null)]
set_option maxRecDepth 20000 in
theorem oX11_requestx_174 : vm_okB 11 mX11_request 174 bX11_requestx_174 = true := by decide +kernel
def bX11_requestx_214 : List vm_J := [(3, .new 58, 0, 0, 0, .null), (1, .dup, 0, 0, 0, .null), (1, .aload_n 3, 0, 0, 0, .null), (1, .aload_n 0, 0, 0, 0, .null), (3, .getfield 21, 11, 2, 0, .null), (3, .getfield 85, 9, 0, 0, .null), (1, .aload_n 0, 0, 0, 0, .null), (3, .getfield 41, 11, 5, 0, .null), (3, .getfield 171, 1, 0, 0, .null), (1, .aload_n 0, 0, 0, 0, .null), (3, .getfield 41, 11, 5, 0, .null), (3, .getfield 172, 1, 1, 0, .null), (3, .invokespecial 168, 0, 4, 0, .null)]
set_option maxRecDepth 20000 in
theorem oX11_requestx_214 : vm_okB 11 mX11_request 214 bX11_requestx_214 = true := by decide +kernel
def bX11_requestx_243 : List vm_J := [(2, .astore 5, 0, 0, 0, .null)]
set_option maxRecDepth 20000 in
theorem oX11_requestx_243 : vm_okB 11 mX11_request 243 bX11_requestx_243 = true := by decide +kernel
def bX11_requestx_245 : List vm_J := [(1, .aload_n 0, 0, 0, 0, .null), (3, .getfield 60, 11, 8, 0, .null), (1, .aload_n 0, 0, 0, 0, .null), (3, .getfield 68, 11, 10, 0, .null), (2, .aload 5, 0, 0, 0, .null), (1, .aastore, 0, 0, 0, .null), (1, .aload_n 0, 0, 0, 0, .null), (1, .dup, 0, 0, 0, .null), (3, .getfield 68, 11, 10, 0, .null), (1, .iconst 1, 0, 0, 0, .int 1), (1, .iadd, 0, 0, 0, .null), (3, .putfield 68, 11, 10, 0, .null), (1, .aload_n 0, 0, 0, 0, .null), (3, .getfield 18, 11, 1, 0, .null), (3, .invokevirtual 111, 89, 0, 9, .null), (1, .aload_n 0, 0, 0, 0, .null), (3, .getfield 18, 11, 1, 0, .null), (1, .aload_n 3, 0, 0, 0, .null), (3, .getfield 149, 5, 0, 0, .null), (1, .iconst 2, 0, 0, 0, .int 2), (3, .invokevirtual 78, 91, 2, 9, .null), (1, .aload_n 0, 0, 0, 0, .null), (3, .getfield 18, 11, 1, 0, .null), (1, .aload_n 3, 0, 0, 0, .null), (3, .getfield 123, 5, 6, 0, .null), (2, .bipush 31, 0, 0, 0, .int 31), (1, .baload, 0, 0, 0, .null), (3, .invokevirtual 120, 90, 1, 9, .null), (1, .aload_n 0, 0, 0, 0, .null), (3, .getfield 18, 11, 1, 0, .null), (2, .aload 5, 0, 0, 0, .null), (3, .getfield 173, 0, 2, 0, .null), (1, .iconst 0, 0, 0, 0, .int 0), (2, .aload 5, 0, 0, 0, .null), (3, .getfield 173, 0, 2, 0, .null), (1, .arraylength, 0, 0, 0, .null), (3, .invokevirtual 89, 93, 3, 9, .null), (1, .aload_n 0, 0, 0, 0, .null), (3, .getfield 68, 11, 10, 0, .null), (1, .iconst 1, 0, 0, 0, .int 1), (1, .isub, 0, 0, 0, .null), (1, .ireturn, 0, 0, 0, .null)]
set_option maxRecDepth 20000 in
theorem oX11_requestx_245 : vm_okB 11 mX11_request 245 bX11_requestx_245 = true := by decide +kernel
theorem AQR_up {an e : Nat} {ae : Nat → Nat} : va_up (fun i => if i < an then some (ae i) else none) an (some e) = (fun i => if i < an + 1 then some (fu ae an e i) else none) := by
  funext i
  show (if i = an then some e else if i < an then some (ae i) else none) = _
  by_cases h : i = an
  · rw [if_pos h, if_pos (by omega), h, fu_e]
  · rw [if_neg h, fu_n h]
    by_cases h2 : i < an
    · rw [if_pos h2, if_pos (by omega)]
    · rw [if_neg h2, if_neg (by omega)]
section
variable {l : Launch} {O : Nat → vm_Ob} {f9 : Value} {v lo ts kn an rd wr : Nat} {tb : Nat → Nat} {w ou : List Nat} {ke ae : Nat → Nat} {kf : Nat → aK} {af : Nat → aA} {D : Nat → Nat} {dn : Bool} {wl : Int} {st2 kk2 : Nat → Int32} {st3 kk3 : Nat → Int64} {h h' : vm_H}
theorem l_nn {R B n m x : Nat} (k : rwl h R B n w) (hs : w.length + m ≤ n) (hm : m ≤ 4) (hx : x < 65536) : vm_Met (vm_env l O f9) mX9_putNumber 0 0 [.ref R, .int (nI x), .int (nI m)] h (fun r h' => r = none ∧ rwl h' R B n (w ++ nb (x : Int) m) ∧ fr h h' (fun q => q = R ∨ q = B)) := by
  rw [← iZ_n (n := x)]
  exact l_num k hs hm (by omega) (by omega)
/-- one ASKING more -/
theorem MV_na {f : Nat} {ou' : List Nat} {x : aA} (k : MV st3 kk3 v lo tb ts ou kn an rd ke ae kf af D dn wl wr h) (han : an < 60) (he : f = h.1) (h1 : f + 4 ≤ h'.1) (hx : aky x < kn) (u : ∀ q, v + 1 ≤ q → q < f → q ≠ v + 3 → q ≠ v + 4 → q ≠ v + 749 → h'.2 q = h.2 q) (n0 : h'.2 v = MO v kn (an + 1) rd) (n2 : rwl h' (v + 3) (v + 4) 1168 ou') (n9 : h'.2 (v + 749) = AQR (an + 1) (fu ae an f)) (nk : AY st3 kk3 h' f (ke (aky x) + 2) x (kf (aky x))) : MV st3 kk3 v lo tb ts ou' kn (an + 1) rd ke (fu ae an f) kf (fu af an x) D dn wl wr h' := by
  obtain ⟨⟨b1, b2, b3⟩, ⟨k0, k1, k2, k3, k4, k5, k6, k7, k8, k9⟩, ks, as⟩ := k
  have e9 : ∀ q, v + 1 ≤ q → q < v + 750 → q < v + 3 ∨ v + 5 ≤ q → q ≠ v + 749 → h'.2 q = h.2 q := fun q z1 z2 z3 z4 => u q z1 (by omega) (by omega) (by omega) z4
  refine ⟨⟨b1, b2, by omega⟩, ⟨n0, row_cg k1 (e9 (v + 1) (by omega) (by omega) (by omega) (by omega)) (e9 (v + 2) (by omega) (by omega) (by omega) (by omega)), n2, k3.imp (fun w k => rwl_cg k (e9 (v + 5) (by omega) (by omega) (by omega) (by omega)) (e9 (v + 6) (by omega) (by omega) (by omega) (by omega))), HA_fr k4 (e9 (v + 7) (by omega) (by omega) (by omega) (by omega)) (fun i hi => e9 _ (by omega) (by omega) (by omega) (by omega)), (by obtain ⟨W, B, V, g, k⟩ := k5; exact ⟨W, B, V, g, OP_out k (fun q z1 z2 => e9 q (by omega) (by omega) (by omega) (by omega))⟩), (by obtain ⟨w, B, k⟩ := k6; exact ⟨w, B, RS_out k (fun q z1 z2 => e9 q (by omega) (by omega) (by omega) (by omega))⟩), dsk_cg k7 (e9 (v + 746) (by omega) (by omega) (by omega) (by omega)) (e9 (v + 747) (by omega) (by omega) (by omega) (by omega)), (e9 (v + 748) (by omega) (by omega) (by omega) (by omega)).trans k8, n9⟩, ⟨ks.1, fun i hi => ?_, ks.2.2⟩, ⟨by omega, fun i hi => ?_, fun i j hij hj => ?_, fun i j hi hj => ?_⟩⟩
  · have r := ks.2.1 i hi
    exact ⟨⟨r.1.1, by omega⟩, KY_cg r.2 (fun q z1 z2 => u q (by omega) (by omega) (by omega) (by omega) (by omega))⟩
  · by_cases y : i = an
    · rw [y, fu_e, fu_e]
      exact ⟨⟨by omega, h1⟩, hx, nk⟩
    · rw [fu_n y, fu_n y]
      have r := as.2.1 i (by omega)
      exact ⟨⟨r.1.1, by omega⟩, r.2.1, AY_cg r.2.2 (fun q z1 z2 => u q (by omega) (by omega) (by omega) (by omega) (by omega))⟩
  · by_cases y : j = an
    · rw [y, fu_e, fu_n (show i ≠ an by omega)]
      have := (as.2.1 i (by omega)).1.2
      omega
    · rw [fu_n y, fu_n (show i ≠ an by omega)]
      exact as.2.2.1 i j hij (by omega)
  · by_cases y : i = an
    · rw [y, fu_e]
      have := (ks.2.1 j hj).1.2
      right; omega
    · rw [fu_n y]
      exact as.2.2.2 i j (by omega) hj
end
section
variable {l : Launch} {O : Nat → vm_Ob} {f9 : Value} {v lo ts kn an rd wr : Nat} {tb : Nat → Nat} {w ou : List Nat} {ke ae : Nat → Nat} {kf : Nat → aK} {af : Nat → aA} {D : Nat → Nat} {dn : Bool} {wl : Int} {st2 kk2 : Nat → Int32} {st3 kk3 : Nat → Int64} {h : vm_H}
set_option maxHeartbeats 1000000 in
theorem m_rt {h2 h3 : vm_H} {f i kc ks : Nat} {x : aA} {bl : List Nat} {y1 y2 y4 : Int32} {Q : Option Value → vm_H → Prop} (k : MV st3 kk3 v lo tb ts ou kn an rd ke ae kf af D dn wl wr h2) (han : an < 60) (he : f = h2.1) (hh3 : h3.1 = f + 4) (hh : h3.1 < 1099511627776) (hi : i < kn) (hxi : aky x = i) (u : ∀ q, q < f ∨ 1099511627776 ≤ q → h3.2 q = h2.2 q) (kA : AY st3 kk3 h3 f (ke i + 2) x (kf i)) (kB : bw h3 (f + 2) bl) (hbl : bl.length ≤ 256)
    (hQ : ∀ h', MV st3 kk3 v lo tb ts (nb (kty (kf i) : Nat) 2 ++ [gb (kid (kf i)) 31] ++ bl) kn (an + 1) rd ke (fu ae an f) kf (fu af an x) D dn wl wr h' → VF v lo h2 h' → h'.1 = h3.1 → Q (some (.int (nI an))) h') : vm_T (vm_env l O f9) mX11_request kc ks 243 [(0, .ref v), (1, .int y1), (2, .int y2), (3, .ref (ke i + 2)), (4, .int y4)] [.ref f] h3 Q := by
  have kb := k.1
  obtain ⟨⟨rk1, rk2⟩, kY⟩ := MV_ky k hi
  have hkx := kx_le (kf i)
  have hT := KY_ty kY
  have u3 := fun q z => u q (Or.inl z)
  have kY3 : KY h3 v (ke i) (kf i) := KY_cg kY (fun q z1 z2 => u3 q (by omega))
  obtain ⟨bs, sh, se, ia, mo, kO, _, _, kI, rr, _⟩ := KY_o kY3
  have l32 : (kid (kf i)).length = 32 := kY.1.2.2.2.1
  have kI : bv h3 32 ia (gb (kid (kf i))) := bw_n kI l32
  have v0 : h3.2 v = MO v kn an rd := (u3 v (by omega)).trans (MV_0 k)
  have r0 : h3.2 (v + 749) = AQR an ae := (u3 _ (by omega)).trans (MV_ar k)
  have L0 : rwl h3 (v + 3) (v + 4) 1168 ou := rwl_cg (MV_lf k) (u3 _ (by omega)) (u3 _ (by omega))
  refine vm_go rfl bX11_requestx_243 oX11_requestx_243 ?_
  refine vm_Th (lv' := [(0, .ref v), (1, .int y1), (2, .int y2), (3, .ref (ke i + 2)), (4, .int y4), (5, .ref f)]) (h' := h3) rfl rfl ?_
  have hv9 : v < 1099511627776 := by omega
  have hv8 : v + 749 < 1099511627776 := by omega
  have he9 : f < 1099511627776 := by omega
  have n78 : v ≠ v + 749 := by omega
  refine vm_go rfl bX11_requestx_245 oX11_requestx_245 ⟨_, _, v0, rfl, ⟨_, _, v0, rfl, ⟨_, _, _, r0, hv8, kA.1, he9, an, rfl, by omega, ?_⟩⟩⟩
  have eR : (.inl (.object "VeilMint$Asking", 60, .inr (.inr (.inr (.inr (va_up (fun i => if i < an then some (ae i) else none) an (some f)))))) : vm_Ob) = AQR (an + 1) (fu ae an f) := by rw [AQR_up]; rfl
  have v7 : (vm_up h3 (v + 749) (AQR (an + 1) (fu ae an f))).2 v = MO v kn an rd := (vm_upn n78).trans v0
  show vm_sx _ _ _ _ _ _ _ _ _ (vm_up h3 (v + 749) (.inl (.object "VeilMint$Asking", 60, .inr (.inr (.inr (.inr (va_up (fun i => if i < an then some (ae i) else none) an (some f))))))))
  rw [eR]
  refine ⟨_, _, v7, rfl, ⟨_, v7, hv9, show 10 < 12 by decide, trivial, ?_⟩⟩
  have eM : (.inr (11, [.ref (v + 1), .ref (v + 3), .ref (v + 5), .ref (v + 7), .ref (v + 13), .ref (v + 724), .ref (v + 746), .ref (v + 748), .ref (v + 749), .int (nI kn), .int (nI an + 1), .int (nI rd)]) : vm_Ob) = MO v kn (an + 1) rd := by unfold MO; rw [nI_1]
  show vm_sx _ _ _ _ _ _ _ _ _ (vm_up (vm_up h3 (v + 749) (AQR (an + 1) (fu ae an f))) v (.inr (11, [.ref (v + 1), .ref (v + 3), .ref (v + 5), .ref (v + 7), .ref (v + 13), .ref (v + 724), .ref (v + 746), .ref (v + 748), .ref (v + 749), .int (nI kn), .int (nI an + 1), .int (nI rd)])))
  rw [eM]
  generalize h4e : vm_up (vm_up h3 (v + 749) (AQR (an + 1) (fu ae an f))) v (MO v kn (an + 1) rd) = h4
  have v4 : h4.2 v = MO v kn (an + 1) rd := by rw [← h4e]; exact vm_upe
  have r4 : h4.2 (v + 749) = AQR (an + 1) (fu ae an f) := by rw [← h4e]; exact (vm_upn (fun z => n78 z.symm)).trans vm_upe
  have F4 : fr h3 h4 (fun q => q = v ∨ q = v + 749) := ⟨by rw [← h4e]; rfl, fun q hq => by rw [← h4e]; exact (vm_upn (fun z => hq (Or.inl z))).trans (vm_upn (fun z => hq (Or.inr z)))⟩
  clear h4e v7 eR eM
  have F4' := F4
  have F4 : fr h3 h4 (fun q => q = v ∨ q = v + 749 ∨ q = v + 3 ∨ q = v + 4) := fr_mono F4 (fun q z => by omega)
  have L4 := rwl_cg L0 (F4'.2 _ (by omega)) (F4'.2 _ (by omega))
  obtain ⟨b4, L4', _⟩ := id L4
  refine ⟨_, _, v4, rfl, ⟨_, L4'.1, 0, 0, _, l_clear L4, Nat.zero_le _, Nat.zero_le _, ?_⟩⟩
  rintro _ h5 ⟨rfl, L5, F5⟩
  have G5 : fr h4 h5 (fun q => q = v + 3 ∨ q = v + 4) := fr_mono F5 (fun q z => Or.inl z)
  have F5 : fr h3 h5 (fun q => q = v ∨ q = v + 749 ∨ q = v + 3 ∨ q = v + 4) := fr_trans F4 (fr_mono F5 (fun q z => by omega))
  have v5 : h5.2 v = MO v kn (an + 1) rd := (G5.2 v (by omega)).trans v4
  obtain ⟨b5, L5', _⟩ := id L5
  refine ⟨_, _, v5, rfl, ⟨_, _, KO_fr kO F5 (by omega), rfl, ⟨_, L5'.1, 0, 0, _, l_nn (m := 2) (x := kty (kf i)) L5 (by decide) (by decide) (by omega), Nat.zero_le _, Nat.zero_le _, ?_⟩⟩⟩
  rintro _ h6 ⟨rfl, L6, F6⟩
  have v6 : h6.2 v = MO v kn (an + 1) rd := (F6.2 v (by omega)).trans v5
  have G6 := fr_trans G5 F6
  have F6 : fr h3 h6 (fun q => q = v ∨ q = v + 749 ∨ q = v + 3 ∨ q = v + 4) := fr_trans F5 (fr_mono F6 (fun q z => by omega))
  rw [List.nil_append] at L6
  obtain ⟨b6, L6', _⟩ := id L6
  have kI6 := fr_bv F6 kI (by omega)
  obtain ⟨fi, efi, vfi⟩ := kI6
  refine ⟨_, _, v6, rfl, ⟨_, _, KO_fr kO F6 (by omega), rfl, ⟨_, fi, efi, 31, rfl, by decide, fun _ => ⟨_, L6'.1, 0, 0, _, l_byte (v := gb (kid (kf i)) 31) (x := fi 31) L6 (by rw [nb_len]; decide) (vfi 31 (by decide)).2 (by rw [(vfi 31 (by decide)).1]; exact sb_self _ (vfi 31 (by decide)).2), Nat.zero_le _, Nat.zero_le _, ?_⟩⟩⟩⟩
  rintro _ h7 ⟨rfl, L7, F7⟩
  have v7 : h7.2 v = MO v kn (an + 1) rd := (F7.2 v (by omega)).trans v6
  have G7 := fr_trans G6 F7
  have F7 : fr h3 h7 (fun q => q = v ∨ q = v + 749 ∨ q = v + 3 ∨ q = v + 4) := fr_trans F6 (fr_mono F7 (fun q z => by omega))
  obtain ⟨b7, L7', _⟩ := id L7
  have kB7 := bw_cg kB (F7.2 (f + 2) (by omega))
  have kA7 := AY_cg kA (fun q z1 z2 => F7.2 q (by omega))
  obtain ⟨fb, efb, vfb⟩ := id kB7
  refine ⟨_, _, v7, rfl, ⟨_, _, kA7.1, rfl, ⟨_, _, kA7.1, rfl, ⟨_, _, efb, by decide, ⟨_, L7'.1, 0, 0, _, l_all (at9 := 0) (m := bl.length) L7 kB7 (by omega) (by omega) (by rw [List.length_append, nb_len]; show 2 + 1 + bl.length ≤ 1168; omega), Nat.zero_le _, Nat.zero_le _, ?_⟩⟩⟩⟩⟩
  rintro _ h8 ⟨rfl, L8, F8⟩
  have v8 : h8.2 v = MO v kn (an + 1) rd := (F8.2 v (by omega)).trans v7
  have G8 := fr_trans G7 F8
  have F8 : fr h3 h8 (fun q => q = v ∨ q = v + 749 ∨ q = v + 3 ∨ q = v + 4) := fr_trans F7 (fr_mono F8 (fun q z => by omega))
  rw [sl_gb] at L8
  refine ⟨_, _, v8, rfl, ?_⟩
  show Q (some (.int (nI (an + 1) - 1))) h8
  rw [show nI (an + 1) - 1 = nI an from nI_sub (b := 1) (by omega)]
  refine hQ h8 (MV_na k han he (by rw [F8.1, hh3]; exact Nat.le_refl _) (by rw [hxi]; exact hi) (fun q z1 z2 z3 z4 z5 => ?_) v8 L8 ((G8.2 _ (by omega)).trans r4) ?_) ⟨?_, fun q z => ?_⟩ F8.1
  · rw [F8.2 q (by omega), u q (Or.inl z2)]
  · rw [hxi]
    exact AY_cg kA (fun q z1 z2 => F8.2 q (by omega))
  · rw [F8.1, hh3, ← he]; omega
  · rw [F8.2 q (by omega), u q (by omega)]
end
