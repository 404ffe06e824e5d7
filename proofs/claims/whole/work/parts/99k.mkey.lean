/-! the mint: key -/
def bX11_keyx_0 : List vm_J := [(1, .aload_n 0, 0, 0, 0, .null), (3, .invokevirtual 93, 120, 0, 11, .null), (1, .istore_n 2, 0, 0, 0, .null)]
set_option maxRecDepth 20000 in
theorem oX11_keyx_0 : vm_okB 11 mX11_key 0 bX11_keyx_0 = true := by decide +kernel
def bX11_keyx_5 : List vm_J := [(1, .iconst 0, 0, 0, 0, .int 0), (1, .istore_n 3, 0, 0, 0, .null)]
set_option maxRecDepth 20000 in
theorem oX11_keyx_5 : vm_okB 11 mX11_key 5 bX11_keyx_5 = true := by decide +kernel
def bX11_keyx_7 : List vm_J := [(1, .iload_n 1, 0, 0, 0, .null), (1, .iconst 1, 0, 0, 0, .int 1), (3, .if_icmp .ne 36, 45, 0, 0, .null), (1, .iload_n 2, 0, 0, 0, .null), (2, .bipush 48, 0, 0, 0, .int 48), (3, .if_icmp .ne 25, 40, 0, 0, .null), (1, .aload_n 0, 0, 0, 0, .null), (3, .getfield 34, 11, 4, 0, .null), (1, .aload_n 0, 0, 0, 0, .null), (3, .getfield 14, 11, 0, 0, .null), (3, .getfield 85, 9, 0, 0, .null), (1, .iconst 0, 0, 0, 0, .int 0), (3, .invokevirtual 97, 64, 2, 7, .null), (3, .ifCond .eq 7, 40, 0, 0, .null), (1, .iconst 1, 0, 0, 0, .int 1), (3, .goto 4, 41, 0, 0, .null)]
set_option maxRecDepth 20000 in
theorem oX11_keyx_7 : vm_okB 11 mX11_key 7 bX11_keyx_7 = true := by decide +kernel
def bX11_keyx_40 : List vm_J := [(1, .iconst 0, 0, 0, 0, .int 0)]
set_option maxRecDepth 20000 in
theorem oX11_keyx_40 : vm_okB 11 mX11_key 40 bX11_keyx_40 = true := by decide +kernel
def bX11_keyx_41 : List vm_J := [(1, .istore_n 3, 0, 0, 0, .null)]
set_option maxRecDepth 20000 in
theorem oX11_keyx_41 : vm_okB 11 mX11_key 41 bX11_keyx_41 = true := by decide +kernel
def bX11_keyx_42 : List vm_J := [(3, .goto 20, 62, 0, 0, .null)]
set_option maxRecDepth 20000 in
theorem oX11_keyx_42 : vm_okB 11 mX11_key 42 bX11_keyx_42 = true := by decide +kernel
def bX11_keyx_45 : List vm_J := [(1, .iload_n 1, 0, 0, 0, .null), (1, .iconst 2, 0, 0, 0, .int 2), (3, .if_icmp .ne 15, 62, 0, 0, .null), (1, .aload_n 0, 0, 0, 0, .null), (3, .getfield 14, 11, 0, 0, .null), (3, .getfield 85, 9, 0, 0, .null), (1, .iload_n 2, 0, 0, 0, .null), (3, .invokestatic 101, 3, 2, 0, .null), (1, .istore_n 3, 0, 0, 0, .null)]
set_option maxRecDepth 20000 in
theorem oX11_keyx_45 : vm_okB 11 mX11_key 45 bX11_keyx_45 = true := by decide +kernel
def bX11_keyx_62 : List vm_J := [(1, .iload_n 3, 0, 0, 0, .null), (3, .ifCond .ne 6, 69, 0, 0, .null), (2, .bipush (-2), 0, 0, 0, .int (-2)), (1, .ireturn, 0, 0, 0, .null)]
set_option maxRecDepth 20000 in
theorem oX11_keyx_62 : vm_okB 11 mX11_key 62 bX11_keyx_62 = true := by decide +kernel
def bX11_keyx_69 : List vm_J := [(1, .aload_n 0, 0, 0, 0, .null), (3, .getfield 64, 11, 9, 0, .null), (2, .bipush 6, 0, 0, 0, .int 6), (3, .if_icmp .lt 6, 81, 0, 0, .null), (2, .bipush (-6), 0, 0, 0, .int (-6)), (1, .ireturn, 0, 0, 0, .null)]
set_option maxRecDepth 20000 in
theorem oX11_keyx_69 : vm_okB 11 mX11_key 69 bX11_keyx_69 = true := by decide +kernel
def bX11_keyx_81 : List vm_J := [(1, .iload_n 1, 0, 0, 0, .null), (1, .iconst 1, 0, 0, 0, .int 1), (3, .if_icmp .ne 20, 103, 0, 0, .null), (1, .aload_n 0, 0, 0, 0, .null), (3, .getfield 34, 11, 4, 0, .null), (1, .aload_n 0, 0, 0, 0, .null), (3, .getfield 14, 11, 0, 0, .null), (3, .getfield 85, 9, 0, 0, .null), (3, .invokevirtual 104, 66, 1, 7, .null), (3, .goto 14, 114, 0, 0, .null)]
set_option maxRecDepth 20000 in
theorem oX11_keyx_81 : vm_okB 11 mX11_key 81 bX11_keyx_81 = true := by decide +kernel
def bX11_keyx_103 : List vm_J := [(1, .aload_n 0, 0, 0, 0, .null), (3, .getfield 14, 11, 0, 0, .null), (3, .getfield 85, 9, 0, 0, .null), (1, .iload_n 2, 0, 0, 0, .null), (3, .invokestatic 108, 4, 2, 0, .null)]
set_option maxRecDepth 20000 in
theorem oX11_keyx_103 : vm_okB 11 mX11_key 103 bX11_keyx_103 = true := by decide +kernel
def bX11_keyx_114 : List vm_J := [(2, .astore 4, 0, 0, 0, .null)]
set_option maxRecDepth 20000 in
theorem oX11_keyx_114 : vm_okB 11 mX11_key 114 bX11_keyx_114 = true := by decide +kernel
def bX11_keyx_116 : List vm_J := [(1, .aload_n 0, 0, 0, 0, .null), (3, .getfield 21, 11, 2, 0, .null), (3, .invokevirtual 111, 89, 0, 9, .null), (1, .aload_n 0, 0, 0, 0, .null), (3, .getfield 21, 11, 2, 0, .null), (2, .aload 4, 0, 0, 0, .null), (3, .getfield 114, 5, 4, 0, .null), (1, .iconst 0, 0, 0, 0, .int 0), (2, .aload 4, 0, 0, 0, .null), (3, .getfield 114, 5, 4, 0, .null), (1, .arraylength, 0, 0, 0, .null), (3, .invokevirtual 89, 93, 3, 9, .null), (1, .iload_n 1, 0, 0, 0, .null), (1, .iconst 2, 0, 0, 0, .int 2), (3, .if_icmp .ne 15, 159, 0, 0, .null), (1, .aload_n 0, 0, 0, 0, .null), (3, .getfield 21, 11, 2, 0, .null), (2, .aload 4, 0, 0, 0, .null), (3, .getfield 117, 5, 3, 0, .null), (3, .invokevirtual 120, 90, 1, 9, .null)]
set_option maxRecDepth 20000 in
theorem oX11_keyx_116 : vm_okB 11 mX11_key 116 bX11_keyx_116 = true := by decide +kernel
def bX11_keyx_159 : List vm_J := [(1, .aload_n 0, 0, 0, 0, .null), (3, .getfield 27, 11, 3, 0, .null), (1, .aload_n 0, 0, 0, 0, .null), (3, .getfield 21, 11, 2, 0, .null), (2, .aload 4, 0, 0, 0, .null), (3, .getfield 123, 5, 6, 0, .null), (3, .invokevirtual 126, 33, 2, 4, .null), (1, .aload_n 0, 0, 0, 0, .null), (3, .getfield 54, 11, 7, 0, .null), (1, .aload_n 0, 0, 0, 0, .null), (3, .getfield 64, 11, 9, 0, .null), (2, .aload 4, 0, 0, 0, .null), (1, .aastore, 5, 0, 0, .null), (1, .aload_n 0, 0, 0, 0, .null), (1, .dup, 0, 0, 0, .null), (3, .getfield 64, 11, 9, 0, .null), (1, .iconst 1, 0, 0, 0, .int 1), (1, .iadd, 0, 0, 0, .null), (3, .putfield 64, 11, 9, 0, .null), (1, .aload_n 0, 0, 0, 0, .null), (3, .getfield 64, 11, 9, 0, .null), (1, .iconst 1, 0, 0, 0, .int 1), (1, .isub, 0, 0, 0, .null), (1, .ireturn, 0, 0, 0, .null)]
set_option maxRecDepth 20000 in
theorem oX11_keyx_159 : vm_okB 11 mX11_key 159 bX11_keyx_159 = true := by decide +kernel
def kwi (x : aK) (id : List Nat) : aK := (kty x, ksz x, ksa x, klv x, ksh x, kse x, id)
def kdi (st2 kk2 : Nat → Int32) (x : aK) : List Nat := H2 st2 kk2 (ksh x ++ (if kty x = 2 then [ksa x] else []))
def idc (x : aK) : Nat := if kty x = 1 then 3 else 26
theorem KY_id {h h' : vm_H} {v e : Nat} {x : aK} {id : List Nat} (k : KY h v e x) (c : ∀ q, e ≤ q → q < e + kx x → q ≠ e + idc x → h'.2 q = h.2 q) (n : bw h' (e + idc x) id) (hl : id.length = 32) (ho : ok8 id) : KY h' v e (kwi x id) := by
  obtain ⟨⟨i1, i2, _, _, i5⟩, k⟩ := k
  refine ⟨⟨i1, i2, ho, hl, i5⟩, ?_⟩
  rcases k with ⟨t, k1, k2, k3, k4⟩ | ⟨t, ⟨ni, ri, k1⟩, k2⟩
  · have ex : kx x = 4 := if_pos t
    have ei : idc x = 3 := if_pos t
    rw [ei] at c n
    rw [ex] at c
    exact Or.inl ⟨t, (c _ (by omega) (by omega) (by omega)).trans k1, bw_cg k2 (c _ (by omega) (by omega) (by omega)), bw_cg k3 (c _ (by omega) (by omega) (by omega)), n⟩
  · have ex : kx x = 27 := if_neg (by omega)
    have ei : idc x = 26 := if_neg (by omega)
    rw [ei] at c n
    rw [ex] at c
    refine Or.inr ⟨t, ⟨ni, ri, K2_cg k1 (c _ (by omega) (by omega) (by omega)) (c _ (by omega) (by omega) (by omega)) (c _ (by omega) (by omega) (by omega)) (fun i hi h5 => ?_)⟩, n⟩
    have := Am_in (e := e) hi h5
    exact c _ (by omega) (by omega) (by omega)
theorem KQR_up {kn e : Nat} {ke : Nat → Nat} : va_up (fun i => if i < kn then some (ke i + 2) else none) kn (some (e + 2)) = (fun i => if i < kn + 1 then some (fu ke kn e i + 2) else none) := by
  funext i
  show (if i = kn then some (e + 2) else if i < kn then some (ke i + 2) else none) = _
  by_cases h : i = kn
  · rw [if_pos h, if_pos (by omega), h, fu_e]
  · rw [if_neg h, fu_n h]
    by_cases h2 : i < kn
    · rw [if_pos h2, if_pos (by omega)]
    · rw [if_neg h2, if_neg (by omega)]
section
variable {l : Launch} {O : Nat → vm_Ob} {f9 : Value} {v lo ts kn an rd wr : Nat} {tb : Nat → Nat} {w ou : List Nat} {ke ae : Nat → Nat} {kf : Nat → aK} {af : Nat → aA} {D : Nat → Nat} {dn : Bool} {wl : Int} {st2 kk2 : Nat → Int32} {st3 kk3 : Nat → Int64} {h h' : vm_H}
/-- one KEY more -/
theorem MV_nk {e : Nat} {x : aK} (k : MV st3 kk3 v lo tb ts ou kn an rd ke ae kf af D dn wl wr h) (hkn : kn < 6) (he : e = h.1) (h1 : e + kx x ≤ h'.1) (u : ∀ q, v + 1 ≤ q → q < e → q < v + 5 ∨ v + 724 ≤ q → q ≠ v + 748 → h'.2 q = h.2 q) (n0 : h'.2 v = MO v (kn + 1) an rd) (n3 : ∃ w, rwl h' (v + 5) (v + 6) 1168 w) (n4 : HA h' (v + 7) (fun i => v + 8 + i)) (n5 : ∃ W B V g, OPc (v + 13) h' W B V g) (n8 : h'.2 (v + 748) = KQR (kn + 1) (fu ke kn e)) (nk : KY h' v e x) : MV st3 kk3 v lo tb ts ou (kn + 1) an rd (fu ke kn e) ae (fu kf kn x) af D dn wl wr h' := by
  obtain ⟨⟨b1, b2, b3⟩, ⟨k0, k1, k2, k3, k4, k5, k6, k7, k8, k9⟩, ks, as⟩ := k
  have hx := kx_le x
  have e9 : ∀ q, v + 1 ≤ q → q < v + 750 → q < v + 5 ∨ v + 724 ≤ q → q ≠ v + 748 → h'.2 q = h.2 q := fun q z1 z2 z3 z4 => u q z1 (by omega) z3 z4
  refine ⟨⟨b1, b2, by omega⟩, ⟨n0, row_cg k1 (e9 (v + 1) (by omega) (by omega) (by omega) (by omega)) (e9 (v + 2) (by omega) (by omega) (by omega) (by omega)), rwl_cg k2 (e9 (v + 3) (by omega) (by omega) (by omega) (by omega)) (e9 (v + 4) (by omega) (by omega) (by omega) (by omega)), n3, n4, n5, (by obtain ⟨w, B, k⟩ := k6; exact ⟨w, B, RS_out k (fun q z1 z2 => e9 q (by omega) (by omega) (by omega) (by omega))⟩), dsk_cg k7 (e9 (v + 746) (by omega) (by omega) (by omega) (by omega)) (e9 (v + 747) (by omega) (by omega) (by omega) (by omega)), n8, (e9 (v + 749) (by omega) (by omega) (by omega) (by omega)).trans k9⟩, ⟨by omega, fun i hi => ?_, fun i j hij hj => ?_⟩, ⟨as.1, fun i hi => ?_, as.2.2.1, fun i j hi hj => ?_⟩⟩
  · by_cases y : i = kn
    · rw [y, fu_e, fu_e]
      exact ⟨⟨by omega, h1⟩, nk⟩
    · rw [fu_n y, fu_n y]
      have r := ks.2.1 i (by omega)
      exact ⟨⟨r.1.1, by omega⟩, KY_cg r.2 (fun q z1 z2 => u q (by omega) (by omega) (by omega) (by omega))⟩
  · by_cases y : j = kn
    · rw [y, fu_e, fu_n (show i ≠ kn by omega), fu_n (show i ≠ kn by omega)]
      have := (ks.2.1 i (by omega)).1.2
      omega
    · rw [fu_n y, fu_n (show i ≠ kn by omega), fu_n (show i ≠ kn by omega)]
      exact ks.2.2 i j hij (by omega)
  · have r := as.2.1 i hi
    rw [fu_n (show aky (af i) ≠ kn by omega), fu_n (show aky (af i) ≠ kn by omega)]
    exact ⟨⟨r.1.1, by omega⟩, by omega, AY_cg r.2.2 (fun q z1 z2 => u q (by omega) (by omega) (by omega) (by omega))⟩
  · have r := (as.2.1 i hi).1
    by_cases y : j = kn
    · rw [y, fu_e, fu_e]
      left; omega
    · rw [fu_n y, fu_n y]
      exact as.2.2.2 i j hi (by omega)
end
section
variable {l : Launch} {O : Nat → vm_Ob} {f9 : Value} {v lo ts kn an rd wr : Nat} {tb : Nat → Nat} {w ou : List Nat} {ke ae : Nat → Nat} {kf : Nat → aK} {af : Nat → aA} {D : Nat → Nat} {dn : Bool} {wl : Int} {st2 kk2 : Nat → Int32} {st3 kk3 : Nat → Int64} {h : vm_H}
set_option maxHeartbeats 1000000 in
theorem m_kt {h1 h2 : vm_H} {e kc ks : Nat} {x : aK} {y2 y3 : Int32} {Q : Option Value → vm_H → Prop} (k : MV st3 kk3 v lo tb ts ou kn an rd ke ae kf af D dn wl wr h1) (ev : EV st2 kk2 st3 kk3 h2) (hkn : kn < 6) (he : e = h1.1) (hh2 : h2.1 = e + kx x) (hh : h2.1 < 1099511627776) (u : ∀ q, q < v + 13 ∨ v + 724 ≤ q → q < e ∨ 1099511627776 ≤ q → h2.2 q = h1.2 q) (o2 : ∃ W B V g, OPc (v + 13) h2 W B V g) (kY : KY h2 v e x)
    (hQ : ∀ h', MV st3 kk3 v lo tb ts ou (kn + 1) an rd (fu ke kn e) ae (fu kf kn (kwi x (kdi st2 kk2 x))) af D dn wl wr h' → VF v lo h1 h' → h'.1 = h2.1 → Q (some (.int (nI kn))) h') : vm_T (vm_env l O f9) mX11_key kc ks 114 [(0, .ref v), (1, .int (nI (kty x))), (2, .int y2), (3, .int y3)] [.ref (e + 2)] h2 Q := by
  have kb := k.1
  have hx := kx_le x
  obtain ⟨bs, sh, se, ia, mo, kO, kS, _, kI, rr, _⟩ := KY_o kY
  have hid : ia = e + idc x := by
    rcases kY.2 with y | y
    · have := y.2.1
      rw [show idc x = 3 from if_pos y.1]
      have e1 : h2.2 (e + 2) = _ := kO
      have e2 : h2.2 (e + 2) = _ := this
      rw [e1] at e2
      injection e2 with e2
      injection e2 with _ e2
      injection e2 with _ e2; injection e2 with _ e2; injection e2 with _ e2; injection e2 with _ e2; injection e2 with _ e2; injection e2 with _ e2; injection e2 with e2 _
      injection e2
    · obtain ⟨_, ⟨ni, ri, this⟩, _⟩ := y
      rw [show idc x = 26 from if_neg (by omega)]
      have e1 : h2.2 (e + 2) = _ := kO
      have e2 : h2.2 (e + 2) = _ := this.1
      rw [e1] at e2
      injection e2 with e2
      injection e2 with _ e2
      injection e2 with _ e2; injection e2 with _ e2; injection e2 with _ e2; injection e2 with _ e2; injection e2 with _ e2; injection e2 with _ e2; injection e2 with e2 _
      injection e2
  have hidc : idc x = 3 ∨ idc x = 26 := by unfold idc; split <;> omega
  have l32 : (kid x).length = 32 := kY.1.2.2.2.1
  have lsh : (ksh x).length ≤ 259 := by
    rcases kY.1.2.2.2.2 with z | z
    · rw [z.2.2.2.2.2, ptO_len (mul_ne z.2.2.2.2.1.1 z.2.2.2.2.1.2 gP_o (fun z => nomatch z))]; decide
    · have := z.2.1.2.1
      omega
  have hsa : ksa x = 0 ∨ ksa x = 48 := by
    rcases kY.2 with y | ⟨_, ⟨ni, ri, y⟩, _⟩
    · rcases kY.1.2.2.2.2 with z | z
      · exact Or.inl z.2.2.1
      · exact absurd z.1 (by omega)
    · rcases y.2.2.2.2.2.2.1 with z | z
      · exact Or.inl z
      · exact Or.inr z.1
  have hT := KY_ty kY
  obtain ⟨fS, eS, vS⟩ := id kS
  have kI : bv h2 32 ia (gb (kid x)) := bw_n kI l32
  -- the mint's own parts
  have v0 : h2.2 v = MO v kn an rd := (u v (by omega) (by omega)).trans (MV_0 k)
  have d0 : ∃ w, rwl h2 (v + 5) (v + 6) 1168 w := (MV_dr k).imp (fun w z => rwl_cg z (u _ (by omega) (by omega)) (u _ (by omega) (by omega)))
  have H0 : HA h2 (v + 7) (fun i => v + 8 + i) := HA_fr (MV_hs k) (u _ (by omega) (by omega)) (fun i hi => u _ (by omega) (by omega))
  have r0 : h2.2 (v + 748) = KQR kn ke := (u _ (by omega) (by omega)).trans (MV_kr k)
  obtain ⟨w0, b0, d0', _⟩ := id d0
  refine vm_go rfl bX11_keyx_114 oX11_keyx_114 ?_
  refine vm_Th (lv' := [(0, .ref v), (1, .int (nI (kty x))), (2, .int y2), (3, .int y3), (4, .ref (e + 2))]) (h' := h2) rfl rfl ?_
  obtain ⟨w0, d0⟩ := d0
  refine vm_go rfl bX11_keyx_116 oX11_keyx_116 ⟨_, _, v0, rfl, ⟨_, d0'.1, 0, 0, _, l_clear d0, Nat.zero_le _, Nat.zero_le _, ?_⟩⟩
  rintro _ h3 ⟨rfl, d3, F3⟩
  have c3 := fr_bv F3 kS (by omega)
  obtain ⟨fT, eT, vT⟩ := id c3
  obtain ⟨b3, d3', _⟩ := id d3
  refine ⟨_, _, (F3.2 v (by omega)).trans v0, rfl, ⟨_, _, KO_fr kO F3 (by omega), rfl, ⟨_, _, KO_fr kO F3 (by omega), rfl, ⟨_, _, eT, by decide, ⟨_, d3'.1, 0, 0, _, l_all (at9 := 0) (m := (ksh x).length) d3 c3 (by omega) (by omega) (by show 0 + (ksh x).length ≤ 1168; omega), Nat.zero_le _, Nat.zero_le _, ?_⟩⟩⟩⟩⟩
  rintro _ h4 ⟨rfl, d4, F4⟩
  rw [List.nil_append, sl_gb] at d4
  have F4 : fr h2 h4 (fun q => q = v + 5 ∨ q = v + 6) := fr_trans (fr_mono F3 (fun q z => Or.inl z)) F4
  -- from 159 on
  have tail : ∀ (h5 : vm_H), rwl h5 (v + 5) (v + 6) 1168 (ksh x ++ (if kty x = 2 then [ksa x] else [])) → fr h2 h5 (fun q => q = v + 5 ∨ q = v + 6) → vm_T (vm_env l O f9) mX11_key kc ks 159 [(0, .ref v), (1, .int (nI (kty x))), (2, .int y2), (3, .int y3), (4, .ref (e + 2))] [] h5 Q := by
    intro h5 d5 F5
    obtain ⟨b5, d5', _⟩ := id d5
    have kI5 := fr_bv F5 kI (by omega)
    have H5 : HA h5 (v + 7) (fun i => v + 8 + i) := HA_fr H0 (F5.2 _ (by omega)) (fun i hi => F5.2 _ (by omega))
    have K5 := KO_fr kO F5 (by omega)
    have ev5 := EV_fr ev (fun q hq => F5.2 q (by omega))
    refine vm_go rfl bX11_keyx_159 oX11_keyx_159 ⟨_, _, (F5.2 v (by omega)).trans v0, rfl, ⟨_, _, (F5.2 v (by omega)).trans v0, rfl, ⟨_, _, K5, rfl, ⟨_, H5.1, 0, 0, _, l_h2 H5 ev5.1 d5 kI5 (show v + 6 ≠ v + 8 + 4 by omega) (by omega) (show ia ≠ v + 8 + 4 by omega) (by omega) (by decide) (by decide), Nat.zero_le _, Nat.zero_le _, ?_⟩⟩⟩⟩
    rintro _ h6 ⟨rfl, ⟨c6, b6, s6, _⟩, H6, F6⟩
    have F6 : fr h5 h6 (fun q => (v + 8 ≤ q ∧ q < v + 13) ∨ q = ia) := fr_mono F6 (fun q z => by
      have z : q = v + 8 + 0 ∨ q = v + 8 + 1 ∨ q = v + 8 + 4 ∨ q = ia := z
      omega)
    have F56 := F6
    have F6 : fr h2 h6 (fun q => (v + 5 ≤ q ∧ q < v + 13) ∨ q = ia) := fr_trans (fr_mono F5 (fun q z => by omega)) (fr_mono F6 (fun q z => by omega))
    have v6 : h6.2 v = MO v kn an rd := (F6.2 v (by omega)).trans v0
    have r6 : h6.2 (v + 748) = KQR kn ke := (F6.2 _ (by omega)).trans r0
    have K6 := KO_fr kO F6 (by omega)
    have hv9 : v < 1099511627776 := by omega
    have hv8 : v + 748 < 1099511627776 := by omega
    have he9 : e + 2 < 1099511627776 := by omega
    have n78 : v ≠ v + 748 := by omega
    refine ⟨_, _, v6, rfl, ⟨_, _, v6, rfl, ⟨_, _, _, r6, hv8, K6, he9, kn, rfl, by omega, ?_⟩⟩⟩
    have eR : (.inl (.object "VeilMint$Key", 6, .inr (.inr (.inr (.inr (va_up (fun i => if i < kn then some (ke i + 2) else none) kn (some (e + 2))))))) : vm_Ob) = KQR (kn + 1) (fu ke kn e) := by rw [KQR_up]; rfl
    have v7 : (vm_up h6 (v + 748) (KQR (kn + 1) (fu ke kn e))).2 v = MO v kn an rd := (vm_upn n78).trans v6
    show vm_sx _ _ _ _ _ _ _ _ _ (vm_up h6 (v + 748) (.inl (.object "VeilMint$Key", 6, .inr (.inr (.inr (.inr (va_up (fun i => if i < kn then some (ke i + 2) else none) kn (some (e + 2)))))))))
    rw [eR]
    refine ⟨_, _, v7, rfl, ⟨_, v7, hv9, show 9 < 12 by decide, trivial, ?_⟩⟩
    have eM : (.inr (11, [.ref (v + 1), .ref (v + 3), .ref (v + 5), .ref (v + 7), .ref (v + 13), .ref (v + 724), .ref (v + 746), .ref (v + 748), .ref (v + 749), .int (nI kn + 1), .int (nI an), .int (nI rd)]) : vm_Ob) = MO v (kn + 1) an rd := by unfold MO; rw [nI_1]
    show vm_sx _ _ _ _ _ _ _ _ _ (vm_up (vm_up h6 (v + 748) (KQR (kn + 1) (fu ke kn e))) v (.inr (11, [.ref (v + 1), .ref (v + 3), .ref (v + 5), .ref (v + 7), .ref (v + 13), .ref (v + 724), .ref (v + 746), .ref (v + 748), .ref (v + 749), .int (nI kn + 1), .int (nI an), .int (nI rd)])))
    rw [eM]
    generalize h8e : vm_up (vm_up h6 (v + 748) (KQR (kn + 1) (fu ke kn e))) v (MO v (kn + 1) an rd) = h8
    have v8 : h8.2 v = MO v (kn + 1) an rd := by rw [← h8e]; exact vm_upe
    have r8 : h8.2 (v + 748) = KQR (kn + 1) (fu ke kn e) := by rw [← h8e]; exact (vm_upn (fun z => n78 z.symm)).trans vm_upe
    have F8 : fr h6 h8 (fun q => q = v ∨ q = v + 748) := ⟨by rw [← h8e]; rfl, fun q hq => by rw [← h8e]; exact (vm_upn (fun z => hq (Or.inl z))).trans (vm_upn (fun z => hq (Or.inr z)))⟩
    clear h8e
    have F8' := F8
    have F68 : fr h5 h8 (fun q => (v + 8 ≤ q ∧ q < v + 13) ∨ q = ia ∨ q = v ∨ q = v + 748) := fr_trans (fr_mono F56 (fun q z => by omega)) (fr_mono F8 (fun q z => by omega))
    have F8 : fr h2 h8 (fun q => (v + 5 ≤ q ∧ q < v + 13) ∨ q = ia ∨ q = v ∨ q = v + 748) := fr_trans (fr_mono F6 (fun q z => by omega)) (fr_mono F8 (fun q z => by omega))
    have b8 : bv h8 32 ia c6 := fr_bv F8' b6 (by omega)
    refine ⟨_, _, v8, rfl, ?_⟩
    show Q (some (.int (nI (kn + 1) - 1))) h8
    rw [show nI (kn + 1) - 1 = nI kn from nI_sub (b := 1) (by omega)]
    have eid : sl c6 0 32 = kdi st2 kk2 x := s6
    refine hQ h8 (MV_nk k hkn he (by rw [F8.1, hh2]; exact Nat.le_refl _) (fun q z1 z2 z3 z4 => ?_) v8 ⟨_, rwl_cg d5 (F68.2 _ (by omega)) (F68.2 _ (by omega))⟩ (HA_fr H6 (F8'.2 _ (by omega)) (fun i hi => F8'.2 _ (by omega))) ?_ r8 (KY_id kY (fun q z1 z2 z3 => F8.2 q (by omega)) ?_ ?_ ?_)) ⟨?_, fun q z => ?_⟩ F8.1
    · rw [F8.2 q (by omega), u q (by omega) (Or.inl z2)]
    · obtain ⟨W, B, V, g, o2⟩ := o2
      exact ⟨W, B, V, g, OP_out o2 (fun q z1 z2 => F8.2 q (by omega))⟩
    · rw [← hid, ← eid]; exact bw_of b8
    · exact H2_len
    · exact H2_ok
    · rw [F8.1, hh2, ← he]; omega
    · rw [F8.2 q (by omega), u q (by omega) (by omega)]
  by_cases t2 : kty x = 2
  · refine ⟨fun q => absurd (show nI (kty x) = 2 by rw [t2]; rfl) q, fun _ => ?_⟩
    obtain ⟨b4, d4', _⟩ := id d4
    refine ⟨_, _, (F4.2 v (by omega)).trans v0, rfl, ⟨_, _, KO_fr kO F4 (by omega), rfl, ⟨_, d4'.1, 0, 0, _, l_byte (v := ksa x) d4 (by omega) (by omega) (by rw [sb_nI]; congr 1; omega), Nat.zero_le _, Nat.zero_le _, ?_⟩⟩⟩
    rintro _ h5 ⟨rfl, d5, F5⟩
    exact tail h5 (by rw [if_pos t2]; exact d5) (fr_trans F4 F5)
  · refine ⟨fun _ => tail h4 (by rw [if_neg t2, List.append_nil]; exact d4) F4, fun q => absurd (show nI (kty x) = 2 from q) (by rw [show (2 : Int32) = nI 2 from rfl, nI_ij (by omega) (by decide)]; exact t2)⟩
end
