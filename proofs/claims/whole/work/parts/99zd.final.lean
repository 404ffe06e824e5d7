/-! finalize, finalizeMany -/
theorem cs_ex9 {P P' : Nat → Option (fq × fq)} {f f' : Nat → Nat} : ∀ n, (∀ k, k < n → P k = P' k ∧ f k = f' k) → cs P f n = cs P' f' n
  | 0, _ => rfl
  | n + 1, h => by
    show ecA (-3) fiv (cs P f n) (ecM (-3) fiv (f n) (P n)) = ecA (-3) fiv (cs P' f' n) (ecM (-3) fiv (f' n) (P' n))
    rw [cs_ex9 n (fun k hk => h k (by omega)), (h n (by omega)).1, (h n (by omega)).2]
theorem pv_ex9 {st kk : Nat → Int64} {sh : List Nat} {A : fq × fq} {aw aw' dw dw' : Nat → List Nat} {n c s : Nat} (ha : ∀ i, i < n → aw i = aw' i) (hd : ∀ i, i < n → dw i = dw' i) : pvOK st kk sh A aw dw n c s ↔ pvOK st kk sh A aw' dw' n c s := by
  have e1 : pvS st kk sh aw dw aw n = pvS st kk sh aw' dw' aw' n := cs_ex9 n (fun k hk => by rw [ha k hk, hd k hk]; exact ⟨rfl, rfl⟩)
  have e2 : pvS st kk sh aw dw dw n = pvS st kk sh aw' dw' dw' n := cs_ex9 n (fun k hk => by rw [ha k hk, hd k hk]; exact ⟨rfl, rfl⟩)
  have e3 : (∀ i, i < n → elL (aw i) ≠ none) ↔ ∀ i, i < n → elL (aw' i) ≠ none := ⟨fun z i hi => by rw [← ha i hi]; exact z i hi, fun z i hi => by rw [ha i hi]; exact z i hi⟩
  have e4 : (∀ i, i < n → elL (dw i) ≠ none) ↔ ∀ i, i < n → elL (dw' i) ≠ none := ⟨fun z i hi => by rw [← hd i hi]; exact z i hi, fun z i hi => by rw [hd i hi]; exact z i hi⟩
  unfold pvOK
  rw [e1, e2, e3, e4]
/-- the proof holds for the KEY shown as sh -/
def pvO (st kk : Nat → Int64) (sh : List Nat) (aw dw : Nat → List Nat) (n c s : Nat) : Prop := ∃ A, elL sh = some A ∧ pvOK st kk sh A aw dw n c s
/-- what an ASKING of TYPE 1 sent -/
noncomputable def abA (st3 kk3 : Nat → Int64) (x : aA) : List Nat := ptO (ecM (-3) fiv (abl x) (htg st3 kk3 (ain x)))
def opn (an : Nat) (af : Nat → aA) (z : Int) (m : Nat) : Prop := 0 ≤ z ∧ z + (m : Int) ≤ (an : Int) ∧ ∀ i, i < m → aop (af (z.toNat + i)) = true
noncomputable def fFp (st3 kk3 : Nat → Int64) (n m : Nat) (w ou : List Nat) (kf : Nat → aK) (af : Nat → aA) : Int32 × List Nat × (Nat → aA) := cif (pvO st3 kk3 (ksh (kf (aky (af n)))) (fun j => abA st3 kk3 (af (n + j))) (fun j => sl (gb w) (49 * j) 49) m (bn (gb w) (49 * m) 48) (bn (gb w) (49 * m + 48) 48)) (nI (146 * m), tko st3 kk3 af n (fun j => elL (sl (gb w) (49 * j) 49)) m, clz af n m) (-4, ou, af)
noncomputable def fFs (st3 kk3 : Nat → Int64) (n : Nat) (w ou : List Nat) (y : aK) (af : Nat → aA) : Int32 × List Nat × (Nat → aA) := cif (bn (gb w) 0 (ksz y) < bn (gb (ksh y)) 0 (ksz y) ∧ sgOK st3 kk3 (ksz y) (gb (ksh y) 0) (ksa y) (ain (af n)) (wb ((ivm (bn (gb (ksh y)) 0 (ksz y)) (abl (af n)) * bn (gb w) 0 (ksz y) % bn (gb (ksh y)) 0 (ksz y)) ^ bn (gb (ksh y)) (ksz y) 3 % bn (gb (ksh y)) 0 (ksz y)) (ksz y))) (nI (98 + ksz y), ain (af n) ++ wb (ivm (bn (gb (ksh y)) 0 (ksz y)) (abl (af n)) * bn (gb w) 0 (ksz y) % bn (gb (ksh y)) 0 (ksz y)) (ksz y), fu af n (cl9 (af n))) (-4, ou, af)
/-- what finalize answers, OUT and the ASKINGS after it; none where it throws -/
noncomputable def fFz (st3 kk3 : Nat → Int64) (z : Int) (w ou : List Nat) (an : Nat) (kf : Nat → aK) (af : Nat → aA) : Option (Int32 × List Nat × (Nat → aA)) := cif (opn an af z 1) (some (if kty (kf (aky (af z.toNat))) = 1 then (if w.length = 145 then fFp st3 kk3 z.toNat 1 w ou kf af else (-2, ou, af)) else (if w.length = ksz (kf (aky (af z.toNat))) then fFs st3 kk3 z.toNat w ou (kf (aky (af z.toNat))) af else (-2, ou, af)))) none
/-- what finalizeMany answers -/
noncomputable def fFm (st3 kk3 : Nat → Int64) (z m : Int) (w ou : List Nat) (an : Nat) (kf : Nat → aK) (af : Nat → aA) : Option (Int32 × List Nat × (Nat → aA)) := cif (1 ≤ m ∧ m ≤ 8 ∧ opn an af z m.toNat) (some (cif ((∀ i, i < m.toNat → aky (af (z.toNat + i)) = aky (af z.toNat)) ∧ kty (kf (aky (af z.toNat))) = 1 ∧ w.length = 49 * m.toNat + 96) (fFp st3 kk3 z.toNat m.toNat w ou kf af) (-2, ou, af))) none
theorem bn_gx {x k : Nat} (hx : x < 256 ^ k) : bn (gb (wb x k)) 0 k = x := by
  have e := sl_gb (wb x k)
  rw [wb_len] at e
  exact wb_nb k hx _ _ e
theorem ptO_some {q : fq × fq} : ptO (some q) = ptb q := rfl
section
variable {l : Launch} {O : Nat → vm_Ob} {f9 : Value} {v lo ts kn an rd wr : Nat} {tb : Nat → Nat} {w ou : List Nat} {ke ae : Nat → Nat} {kf : Nat → aK} {af : Nat → aA} {D : Nat → Nat} {dn : Bool} {wl : Int} {st2 kk2 : Nat → Int32} {st3 kk3 : Nat → Int64} {h : vm_H}
theorem m_isp {i many : Nat} {aw : Nat → List Nat} {W : Nat → List Nat} {B : Nat → Nat → Nat} {P : Nat → Option Nat} {g : og} (k : MV st3 kk3 v lo tb ts ou kn an rd ke ae kf af D dn wl wr h) (ev : EV st2 kk2 st3 kk3 h) (h9 : f9.category = 1) (hi : i < kn) (ht : kty (kf i) = 1) (o0 : OPc (v + 13) h W B P g) (hb : ∀ j, j < many → sl (B 6) (49 * j) 49 = aw j) (hm0 : 1 ≤ many) (hm1 : many ≤ 8) : vm_Met (vm_env l O f9) mX7_isProved 0 0 [.ref (v + 13), .ref (ke i + 2), .ref (v + 2), .int (nI many)] h (fun r h' => ∃ ok : Bool, r = some (.int (bi ok)) ∧ (ok = true ↔ pvO st3 kk3 (ksh (kf i)) aw (fun j => sl tb (49 * j) 49) many (bn tb (49 * many) 48) (bn tb (49 * many + 48) 48)) ∧ MV st3 kk3 v lo tb ts ou kn an rd ke ae kf af D dn wl wr h' ∧ VF v lo h h' ∧ h'.1 = h.1 ∧ ∃ W B V g, OPc (v + 13) h' W B V g ∧ (ok = true → (∀ j, j < many → g.1 j = some (elL (sl tb (49 * j) 49))) ∧ ∃ q, g.2 0 = some q)) := by
  have kb := k.1
  obtain ⟨kO, kS, kH, kq, kp, kl⟩ := MV_k1 k hi ht
  have rK := (MV_ky k hi).1
  have es : sl (gb (ksh (kf i))) 0 49 = ksh (kf i) := by
    have := sl_gb (ksh (kf i))
    rwa [kl] at this
  obtain ⟨A, hA⟩ : ∃ A, elL (ksh (kf i)) = some A := by
    have n1 := mul_ne kq.1 kq.2 gP_o (by unfold gP; exact fun z => nomatch z)
    have n2 := ecO_M cK gP_o (bn (gb (kse (kf i))) 0 48)
    rw [kp]
    cases hP : ecM (-3) fiv (bn (gb (kse (kf i))) 0 48) gP with
    | none => exact absurd hP n1
    | some A =>
      rw [hP] at n2
      exact ⟨A, elL_ptb n2⟩
  refine vm_metP (p_isp (many := many) (A := A) h9 o0 ev kO (by unfold OR; omega) kH (by unfold OR; omega) (by decide) (by decide) (by rw [es]; exact hA) (MV_tp k).2.1 (by unfold OR; omega) (by omega) (by decide) hm0 hm1) ?_
  rintro r h1 ⟨ok, er, hok, ⟨W1, B1, V1, g1, k1, _, hg⟩, F1⟩
  rw [es, pv_ex9 hb (fun _ _ => rfl)] at hok
  obtain ⟨k2, V2⟩ := MV_uO k F1 (fun q z => by unfold OR at z; omega) ⟨W1, B1, V1, g1, k1⟩
  refine ⟨ok, er, hok.trans ⟨fun z => ⟨A, hA, z⟩, fun z => ?_⟩, k2, V2, F1.1, W1, B1, V1, g1, k1, hg⟩
  obtain ⟨A', hA', z⟩ := z
  rw [hA] at hA'
  cases hA'
  exact z
theorem fF_nz {i : Nat} {u : List Nat} (k : MV st3 kk3 v lo tb ts ou kn an rd ke ae kf af D dn wl wr h) (hi : i < an) (t : kty (kf (aky (af i))) = 1) (hn : elL u ≠ none) : ecM (-3) fiv (ivm cQ (abl (af i))) (elL u) ≠ none := by
  obtain ⟨_, _, _, _, _, _, c1, c2⟩ := MV_a1 k hi t
  refine mul_ne (Nat.pos_of_ne_zero (fun z => ?_)) c1 ?_ hn
  · rw [z, Nat.mul_zero, Nat.zero_mod] at c2
    exact absurd c2 (by decide)
  · cases hu : elL u with
    | none => trivial
    | some p => exact elL_o hu
/-- an ASKING of TYPE 2 -/
theorem MV_a2 {i : Nat} (k : MV st3 kk3 v lo tb ts ou kn an rd ke ae kf af D dn wl wr h) (hi : i < an) (t : kty (kf (aky (af i))) = 2) : bv h 98 (ae i + 1) (gb (ain (af i))) ∧ (ain (af i)).length = 98 ∧ ∃ iv, bv h (ksz (kf (aky (af i)))) (ae i + 3) (gb iv) ∧ bn (gb iv) 0 (ksz (kf (aky (af i)))) = ivm (bn (gb (ksh (kf (aky (af i))))) 0 (ksz (kf (aky (af i))))) (abl (af i)) := by
  obtain ⟨_, hki, k1, k2, bl, iv, ⟨a1, a2, a3⟩, k4, k5⟩ := MV_ay k hi
  rcases a3 with y | ⟨_, b1, b2, i9, c1, c2, c3⟩
  · exact absurd y.1 (by omega)
  · have li : iv.length = ksz (kf (aky (af i))) := by rw [c3, wb_len]
    refine ⟨bw_n k2 a2, a2, iv, bw_n k5 li, ?_⟩
    rw [ivm_e c1 c2, c3]
    have hok := (MV_ky k hki).2.1.1
    exact bn_gx (Nat.lt_trans c1 (bn_lt (ksz (kf (aky (af i)))) (fun j _ _ => ok8_gb hok j)))

end
def bX11_finalizex_0 : List vm_J := [(1, .aload_n 0, 0, 0, 0, .null), (3, .invokevirtual 93, 120, 0, 11, .null), (1, .istore_n 2, 0, 0, 0, .null)]
set_option maxRecDepth 20000 in
theorem oX11_finalizex_0 : vm_okB 11 mX11_finalize 0 bX11_finalizex_0 = true := by decide +kernel
def bX11_finalizex_5 : List vm_J := [(1, .aload_n 0, 0, 0, 0, .null), (1, .iload_n 1, 0, 0, 0, .null), (1, .iconst 1, 0, 0, 0, .int 1), (3, .invokevirtual 194, 128, 2, 11, .null), (3, .ifCond .ne 13, 24, 0, 0, .null)]
set_option maxRecDepth 20000 in
theorem oX11_finalizex_5 : vm_okB 11 mX11_finalize 5 bX11_finalizex_5 = true := by decide +kernel
def bX11_finalizex_24 : List vm_J := [(1, .aload_n 0, 0, 0, 0, .null), (3, .getfield 60, 11, 8, 0, .null), (1, .iload_n 1, 0, 0, 0, .null), (1, .aaload, 0, 0, 0, .null), (1, .astore_n 3, 0, 0, 0, .null)]
set_option maxRecDepth 20000 in
theorem oX11_finalizex_24 : vm_okB 11 mX11_finalize 24 bX11_finalizex_24 = true := by decide +kernel
def bX11_finalizex_31 : List vm_J := [(1, .iload_n 2, 0, 0, 0, .null), (1, .aload_n 3, 0, 0, 0, .null), (3, .getfield 200, 0, 0, 0, .null), (3, .getfield 149, 5, 0, 0, .null), (1, .iconst 1, 0, 0, 0, .int 1), (3, .if_icmp .ne 9, 49, 0, 0, .null), (3, .sipush 145, 0, 0, 0, .int 145), (3, .goto 10, 56, 0, 0, .null)]
set_option maxRecDepth 20000 in
theorem oX11_finalizex_31 : vm_okB 11 mX11_finalize 31 bX11_finalizex_31 = true := by decide +kernel
def bX11_finalizex_49 : List vm_J := [(1, .aload_n 3, 0, 0, 0, .null), (3, .getfield 200, 0, 0, 0, .null), (3, .getfield 152, 5, 1, 0, .null)]
set_option maxRecDepth 20000 in
theorem oX11_finalizex_49 : vm_okB 11 mX11_finalize 49 bX11_finalizex_49 = true := by decide +kernel
def bX11_finalizex_56 : List vm_J := [(3, .if_icmp .eq 6, 62, 0, 0, .null), (2, .bipush (-2), 0, 0, 0, .int (-2)), (1, .ireturn, 0, 0, 0, .null)]
set_option maxRecDepth 20000 in
theorem oX11_finalizex_56 : vm_okB 11 mX11_finalize 56 bX11_finalizex_56 = true := by decide +kernel
def bX11_finalizex_62 : List vm_J := [(1, .aload_n 3, 0, 0, 0, .null), (3, .getfield 200, 0, 0, 0, .null), (3, .getfield 149, 5, 0, 0, .null), (1, .iconst 1, 0, 0, 0, .int 1), (3, .if_icmp .ne 43, 113, 0, 0, .null), (1, .aload_n 0, 0, 0, 0, .null), (1, .iload_n 1, 0, 0, 0, .null), (1, .iconst 1, 0, 0, 0, .int 1), (3, .invokevirtual 204, 129, 2, 11, .null), (1, .aload_n 0, 0, 0, 0, .null), (3, .getfield 34, 11, 4, 0, .null), (1, .aload_n 3, 0, 0, 0, .null), (3, .getfield 200, 0, 0, 0, .null), (1, .aload_n 0, 0, 0, 0, .null), (3, .getfield 14, 11, 0, 0, .null), (3, .getfield 85, 9, 0, 0, .null), (1, .iconst 1, 0, 0, 0, .int 1), (3, .invokevirtual 207, 72, 3, 7, .null), (3, .ifCond .eq 12, 110, 0, 0, .null), (1, .aload_n 0, 0, 0, 0, .null), (1, .iload_n 1, 0, 0, 0, .null), (1, .iconst 1, 0, 0, 0, .int 1), (3, .invokevirtual 210, 130, 2, 11, .null), (3, .goto 5, 112, 0, 0, .null)]
set_option maxRecDepth 20000 in
theorem oX11_finalizex_62 : vm_okB 11 mX11_finalize 62 bX11_finalizex_62 = true := by decide +kernel
def bX11_finalizex_110 : List vm_J := [(2, .bipush (-4), 0, 0, 0, .int (-4))]
set_option maxRecDepth 20000 in
theorem oX11_finalizex_110 : vm_okB 11 mX11_finalize 110 bX11_finalizex_110 = true := by decide +kernel
def bX11_finalizex_112 : List vm_J := [(1, .ireturn, 0, 0, 0, .null)]
set_option maxRecDepth 20000 in
theorem oX11_finalizex_112 : vm_okB 11 mX11_finalize 112 bX11_finalizex_112 = true := by decide +kernel
def bX11_finalizex_113 : List vm_J := [(1, .aload_n 0, 0, 0, 0, .null), (3, .getfield 41, 11, 5, 0, .null), (1, .aload_n 3, 0, 0, 0, .null), (1, .aload_n 0, 0, 0, 0, .null), (3, .getfield 14, 11, 0, 0, .null), (3, .getfield 85, 9, 0, 0, .null), (3, .invokevirtual 213, 8, 2, 1, .null), (3, .ifCond .eq 11, 139, 0, 0, .null), (1, .aload_n 0, 0, 0, 0, .null), (1, .aload_n 3, 0, 0, 0, .null), (3, .invokevirtual 217, 131, 1, 11, .null), (3, .goto 5, 141, 0, 0, .null)]
set_option maxRecDepth 20000 in
theorem oX11_finalizex_113 : vm_okB 11 mX11_finalize 113 bX11_finalizex_113 = true := by decide +kernel
def bX11_finalizex_139 : List vm_J := [(2, .bipush (-4), 0, 0, 0, .int (-4))]
set_option maxRecDepth 20000 in
theorem oX11_finalizex_139 : vm_okB 11 mX11_finalize 139 bX11_finalizex_139 = true := by decide +kernel
def bX11_finalizex_141 : List vm_J := [(1, .ireturn, 0, 0, 0, .null)]
set_option maxRecDepth 20000 in
theorem oX11_finalizex_141 : vm_okB 11 mX11_finalize 141 bX11_finalizex_141 = true := by decide +kernel
def bX11_finalizeManyx_0 : List vm_J := [(1, .aload_n 0, 0, 0, 0, .null), (3, .invokevirtual 93, 120, 0, 11, .null), (1, .istore_n 3, 0, 0, 0, .null)]
set_option maxRecDepth 20000 in
theorem oX11_finalizeManyx_0 : vm_okB 11 mX11_finalizeMany 0 bX11_finalizeManyx_0 = true := by decide +kernel
def bX11_finalizeManyx_5 : List vm_J := [(1, .iload_n 2, 0, 0, 0, .null), (1, .iconst 1, 0, 0, 0, .int 1), (3, .if_icmp .lt 18, 25, 0, 0, .null), (1, .iload_n 2, 0, 0, 0, .null), (2, .bipush 8, 0, 0, 0, .int 8), (3, .if_icmp .gt 12, 25, 0, 0, .null), (1, .aload_n 0, 0, 0, 0, .null), (1, .iload_n 1, 0, 0, 0, .null), (1, .iload_n 2, 0, 0, 0, .null), (3, .invokevirtual 194, 128, 2, 11, .null), (3, .ifCond .ne 13, 35, 0, 0, .null)]
set_option maxRecDepth 20000 in
theorem oX11_finalizeManyx_5 : vm_okB 11 mX11_finalizeMany 5 bX11_finalizeManyx_5 = true := by decide +kernel
def bX11_finalizeManyx_35 : List vm_J := [(1, .aload_n 0, 0, 0, 0, .null), (3, .getfield 60, 11, 8, 0, .null), (1, .iload_n 1, 0, 0, 0, .null), (1, .aaload, 0, 0, 0, .null), (3, .getfield 200, 0, 0, 0, .null), (2, .astore 4, 0, 0, 0, .null)]
set_option maxRecDepth 20000 in
theorem oX11_finalizeManyx_35 : vm_okB 11 mX11_finalizeMany 35 bX11_finalizeManyx_35 = true := by decide +kernel
def bX11_finalizeManyx_46 : List vm_J := [(1, .iconst 1, 0, 0, 0, .int 1), (2, .istore 5, 0, 0, 0, .null)]
set_option maxRecDepth 20000 in
theorem oX11_finalizeManyx_46 : vm_okB 11 mX11_finalizeMany 46 bX11_finalizeManyx_46 = true := by decide +kernel
def bX11_finalizeManyx_49 : List vm_J := [(2, .iload 5, 0, 0, 0, .null), (1, .iload_n 2, 0, 0, 0, .null), (3, .if_icmp .ge 29, 81, 0, 0, .null), (1, .aload_n 0, 0, 0, 0, .null), (3, .getfield 60, 11, 8, 0, .null), (1, .iload_n 1, 0, 0, 0, .null), (2, .iload 5, 0, 0, 0, .null), (1, .iadd, 0, 0, 0, .null), (1, .aaload, 0, 0, 0, .null), (3, .getfield 200, 0, 0, 0, .null), (2, .aload 4, 0, 0, 0, .null), (3, .if_acmp .eq 6, 75, 0, 0, .null), (2, .bipush (-2), 0, 0, 0, .int (-2)), (1, .ireturn, 0, 0, 0, .null)]
set_option maxRecDepth 20000 in
theorem oX11_finalizeManyx_49 : vm_okB 11 mX11_finalizeMany 49 bX11_finalizeManyx_49 = true := by decide +kernel
def bX11_finalizeManyx_75 : List vm_J := [(3, .iinc 5 1, 0, 0, 0, .int 1), (3, .goto (-29), 49, 0, 0, .null)]
set_option maxRecDepth 20000 in
theorem oX11_finalizeManyx_75 : vm_okB 11 mX11_finalizeMany 75 bX11_finalizeManyx_75 = true := by decide +kernel
def bX11_finalizeManyx_81 : List vm_J := [(2, .aload 4, 0, 0, 0, .null), (3, .getfield 149, 5, 0, 0, .null), (1, .iconst 1, 0, 0, 0, .int 1), (3, .if_icmp .ne 14, 101, 0, 0, .null), (1, .iload_n 3, 0, 0, 0, .null), (1, .iload_n 2, 0, 0, 0, .null), (2, .bipush 49, 0, 0, 0, .int 49), (1, .imul, 0, 0, 0, .null), (2, .bipush 96, 0, 0, 0, .int 96), (1, .iadd, 0, 0, 0, .null), (3, .if_icmp .eq 6, 104, 0, 0, .null)]
set_option maxRecDepth 20000 in
theorem oX11_finalizeManyx_81 : vm_okB 11 mX11_finalizeMany 81 bX11_finalizeManyx_81 = true := by decide +kernel
def bX11_finalizeManyx_101 : List vm_J := [(2, .bipush (-2), 0, 0, 0, .int (-2)), (1, .ireturn, 0, 0, 0, .null)]
set_option maxRecDepth 20000 in
theorem oX11_finalizeManyx_101 : vm_okB 11 mX11_finalizeMany 101 bX11_finalizeManyx_101 = true := by decide +kernel
def bX11_finalizeManyx_104 : List vm_J := [(1, .aload_n 0, 0, 0, 0, .null), (1, .iload_n 1, 0, 0, 0, .null), (1, .iload_n 2, 0, 0, 0, .null), (3, .invokevirtual 204, 129, 2, 11, .null), (1, .aload_n 0, 0, 0, 0, .null), (3, .getfield 34, 11, 4, 0, .null), (2, .aload 4, 0, 0, 0, .null), (1, .aload_n 0, 0, 0, 0, .null), (3, .getfield 14, 11, 0, 0, .null), (3, .getfield 85, 9, 0, 0, .null), (1, .iload_n 2, 0, 0, 0, .null), (3, .invokevirtual 207, 72, 3, 7, .null), (3, .ifCond .eq 12, 139, 0, 0, .null), (1, .aload_n 0, 0, 0, 0, .null), (1, .iload_n 1, 0, 0, 0, .null), (1, .iload_n 2, 0, 0, 0, .null), (3, .invokevirtual 210, 130, 2, 11, .null), (3, .goto 5, 141, 0, 0, .null)]
set_option maxRecDepth 20000 in
theorem oX11_finalizeManyx_104 : vm_okB 11 mX11_finalizeMany 104 bX11_finalizeManyx_104 = true := by decide +kernel
def bX11_finalizeManyx_139 : List vm_J := [(2, .bipush (-4), 0, 0, 0, .int (-4))]
set_option maxRecDepth 20000 in
theorem oX11_finalizeManyx_139 : vm_okB 11 mX11_finalizeMany 139 bX11_finalizeManyx_139 = true := by decide +kernel
def bX11_finalizeManyx_141 : List vm_J := [(1, .ireturn, 0, 0, 0, .null)]
set_option maxRecDepth 20000 in
theorem oX11_finalizeManyx_141 : vm_okB 11 mX11_finalizeMany 141 bX11_finalizeManyx_141 = true := by decide +kernel
section
variable {l : Launch} {O : Nat → vm_Ob} {f9 : Value} {v lo ts kn an rd wr : Nat} {tb : Nat → Nat} {w ou : List Nat} {ke ae : Nat → Nat} {kf : Nat → aK} {af : Nat → aA} {D : Nat → Nat} {dn : Bool} {wl : Int} {st2 kk2 : Nat → Int32} {st3 kk3 : Nat → Int64} {h : vm_H}
theorem m_fin {z : Int} (hl : l.stackTraces = false) (k : MS st3 kk3 v lo w ou kn an rd ke ae kf af D dn wl wr h) (ev : EV st2 kk2 st3 kk3 h) (h9 : f9.category = 1) (hz : i32 z) (hh : h.1 + 1 < 1099511627776) : vm_MetX (vm_env l O f9) mX11_finalize 1 6 [.ref v, .int (iZ z)] h (fun r h' => ((∃ x ou' af', fFz st3 kk3 z w ou an kf af = some (x, ou', af') ∧ r = some (.int x) ∧ MS st3 kk3 v lo [] ou' kn an rd ke ae kf af' D dn wl wr h') ∨ (fFz st3 kk3 z w ou an kf af = none ∧ r = some (.retAddr 77) ∧ MS st3 kk3 v lo [] ou kn an rd ke ae kf af D dn wl wr h')) ∧ VF v lo h h') := by
  obtain ⟨tb, k, ew⟩ := k
  suffices H : ∀ Q : Option Value → vm_H → Prop, (∀ x y a h', fFz st3 kk3 z w ou an kf af = some (x, y, a) → MS st3 kk3 v lo [] y kn an rd ke ae kf a D dn wl wr h' → VF v lo h h' → Q (some (.int x)) h') → (∀ h', fFz st3 kk3 z w ou an kf af = none → MS st3 kk3 v lo [] ou kn an rd ke ae kf af D dn wl wr h' → VF v lo h h' → Q (some (.retAddr 77)) h') → vm_MetX (vm_env l O f9) mX11_finalize 1 6 [.ref v, .int (iZ z)] h Q from H _ (fun x y a h' e1 e2 e3 => ⟨Or.inl ⟨x, y, a, e1, rfl, e2⟩, e3⟩) (fun h' e1 e2 e3 => ⟨Or.inr ⟨e1, rfl, e2⟩, e3⟩)
  intro Q hQ hX
  refine vm_metX rfl rfl rfl (Nat.le_of_ble_eq_true rfl) ?_
  have hts := MV_ts k
  refine vm_go rfl bX11_finalizex_0 oX11_finalizex_0 ⟨_, MV_0 k, 0, 0, _, m_use k, Nat.zero_le _, Nat.zero_le _, ?_⟩
  rintro _ h1 ⟨rfl, k1, V1, F1⟩
  have hh1 : h1.1 + 1 < 1099511627776 := by rw [F1.1]; exact hh
  have ev1 := EV_vf ev V1
  refine vm_Th (lv' := [(0, .ref v), (1, .int (iZ z)), (2, .int (nI w.length))]) (h' := h1) rfl rfl ?_
  refine vm_go rfl bX11_finalizex_5 oX11_finalizex_5 ⟨_, MV_0 k1, 0, 0, _, m_are (m := 1) k1 hz (by decide), Nat.zero_le _, Nat.zero_le _, ?_⟩
  rintro _ h1' ⟨⟨ok, rfl, hok⟩, e1⟩
  rw [e1]; clear e1 h1'
  cases ok with
  | false =>
    have e0 : fFz st3 kk3 z w ou an kf af = none := cif_f (fun y => nomatch (hok.mpr y))
    refine ⟨fun q => absurd rfl q, fun _ => ?_⟩
    obtain ⟨k2, V2⟩ := MV_th k1 (by omega)
    exact vm_r_nse (tx := "no such open ASKING") (is := 198) (id := 1099511627832) hl rfl rfl rfl (by decide +kernel) (by decide +kernel) (by decide +kernel) (by decide +kernel) (by decide +kernel) (by simp [vm_srs]) (by decide) (by decide) (by decide) (by decide) hh1 (hX _ e0 (MS_0 k2) (VF_t V1 V2))
  | true =>
    have hop := hok.mp rfl
    obtain ⟨z0, z1, z2⟩ := hop
    obtain ⟨n, rfl⟩ := iZ_nn z0
    have hna : n < an := by omega
    have hnn : (n : Int).toNat = n := Int.toNat_natCast n
    have e0 : fFz st3 kk3 (n : Int) w ou an kf af = some (if kty (kf (aky (af n))) = 1 then (if w.length = 145 then fFp st3 kk3 n 1 w ou kf af else (-2, ou, af)) else (if w.length = ksz (kf (aky (af n))) then fFs st3 kk3 n w ou (kf (aky (af n))) af else (-2, ou, af))) := by
      unfold fFz
      rw [hnn]
      exact cif_t ⟨z0, z1, z2⟩
    rw [iZ_n]
    refine ⟨fun _ => ?_, fun q => absurd q (by decide)⟩
    have han := MV_an k1
    obtain ⟨⟨ra1, ra2⟩, hki, kA⟩ := MV_ay k1 hna
    obtain ⟨⟨rk1, rk2⟩, kY⟩ := MV_ky k1 hki
    have hkx := kx_le (kf (aky (af n)))
    have hT := KY_ty kY
    have kb := k1.1
    obtain ⟨bs, sh, se, ia, mo, kO, _, _, _, rr, _, _⟩ := KY_o kY
    refine vm_go rfl bX11_finalizex_24 oX11_finalizex_24 ⟨_, _, MV_0 k1, rfl, ⟨_, _, _, _, MV_ar k1, by decide, rfl, n, rfl, by omega, AQR_at hna, ?_⟩⟩
    refine vm_Th (lv' := [(0, .ref v), (1, .int (nI n)), (2, .int (nI w.length)), (3, .ref (ae n))]) (h' := h1) rfl rfl ?_
    rcases hT with hT | hT
    · rw [if_pos hT] at e0
      have kO1 := kO
      rw [hT] at kO1
      refine vm_go rfl bX11_finalizex_31 oX11_finalizex_31 ⟨_, _, kA.1, rfl, ⟨_, _, kO1, rfl, ⟨fun q => absurd rfl q, fun _ => ?_⟩⟩⟩
      by_cases hsz : w.length = 145
      rotate_left
      · rw [if_neg hsz] at e0
        exact vm_go rfl bX11_finalizex_56 oX11_finalizex_56 ⟨fun q => absurd (show nI w.length = nI 145 from q) (by rw [nI_ij (by omega) (by decide)]; exact hsz), fun _ => hQ _ _ _ _ e0 (MS_0 k1) V1⟩
      rw [if_pos hsz] at e0
      refine vm_go rfl bX11_finalizex_56 oX11_finalizex_56 ⟨fun _ => ?_, fun q => absurd (show nI w.length = nI 145 by rw [hsz]) q⟩
      refine vm_go rfl bX11_finalizex_62 oX11_finalizex_62 ⟨_, _, kA.1, rfl, ⟨_, _, kO1, rfl, ⟨fun q => absurd rfl q, fun _ => ?_⟩⟩⟩
      have ht1 : ∀ j, j < 1 → kty (kf (aky (af (n + j)))) = 1 := fun j hj => by rw [show n + j = n by omega]; exact hT
      refine ⟨_, MV_0 k1, 0, 0, _, m_rem (n := n) (many := 1) k1 (by decide) (by omega) ht1, Nat.zero_le _, Nat.zero_le _, ?_⟩
      rintro _ h2 ⟨rfl, k2, V2, F2, W2, B2, P2, g2, o2, hb2⟩
      have ev2 := EV_vf ev1 V2
      refine ⟨_, _, MV_0 k2, rfl, ⟨_, _, (MV_ay k2 hna).2.2.1, rfl, ⟨_, _, MV_0 k2, rfl, ⟨_, _, (MV_tp k2).1, rfl, ⟨_, OP_t o2, 0, 0, _, m_isp (many := 1) (aw := fun j => abA st3 kk3 (af (n + j))) k2 ev2 h9 hki hT o2 hb2 (by decide) (by decide), Nat.zero_le _, Nat.zero_le _, ?_⟩⟩⟩⟩⟩
      rintro _ h3 ⟨ok, rfl, hok3, k3, V3, E3, W3, B3, P3, g3, o3, hg3⟩
      have hdw : ∀ j, j < 1 → sl tb (49 * j) 49 = sl (gb w) (49 * j) 49 := fun j hj => sl_w ew (by omega)
      have hpv : pvO st3 kk3 (ksh (kf (aky (af n)))) (fun j => abA st3 kk3 (af (n + j))) (fun j => sl tb (49 * j) 49) 1 (bn tb (49 * 1) 48) (bn tb (49 * 1 + 48) 48) ↔ pvO st3 kk3 (ksh (kf (aky (af n)))) (fun j => abA st3 kk3 (af (n + j))) (fun j => sl (gb w) (49 * j) 49) 1 (bn (gb w) (49 * 1) 48) (bn (gb w) (49 * 1 + 48) 48) := by
        rw [bn_w ew (by omega), bn_w ew (by omega)]
        unfold pvO
        simp only [pv_ex9 (fun _ _ => rfl) hdw]
      rw [hpv] at hok3
      cases ok with
      | false =>
        have e3 : fFz st3 kk3 (n : Int) w ou an kf af = some (-4, ou, af) := e0.trans (congrArg some (cif_f (fun y => nomatch (hok3.mpr y))))
        exact ⟨fun _ => vm_go rfl bX11_finalizex_110 oX11_finalizex_110 (vm_go rfl bX11_finalizex_112 oX11_finalizex_112 (hQ _ _ _ _ e3 (MS_0 k3) (VF_t V1 (VF_t V2 V3)))), fun q => absurd rfl q⟩
      | true =>
        have hok3 := hok3.mp rfl
        obtain ⟨hg1, hg2⟩ := hg3 rfl
        have e3 : fFz st3 kk3 (n : Int) w ou an kf af = _ := e0.trans (congrArg some (cif_t hok3))
        have ev3 := EV_vf ev2 V3
        refine ⟨fun q => absurd q (by decide), fun _ => ?_⟩
        have hg1' : ∀ j, j < 1 → g3.1 j = some (elL (sl (gb w) (49 * j) 49)) := fun j hj => by rw [hg1 j hj, hdw j hj]
        have hPn : ∀ j, j < 1 → ecM (-3) fiv (ivm cQ (abl (af (n + j)))) (elL (sl (gb w) (49 * j) 49)) ≠ none := fun j hj => by obtain ⟨A9, _, y9⟩ := hok3; exact fF_nz k3 (by omega) (ht1 j hj) (y9.2.2.1 j hj)
        refine ⟨_, MV_0 k3, 0, 0, _, m_tko (n := n) (many := 1) k3 ev3 h9 (by rw [E3, F2.1]; omega) (by decide) (by decide) (by omega) ht1 o3 hg1' hg2 hPn, Nat.zero_le _, Nat.zero_le _, ?_⟩
        rintro _ h4 ⟨rfl, k4, V4⟩
        exact vm_go rfl bX11_finalizex_112 oX11_finalizex_112 (hQ _ _ _ _ e3 (MS_0 k4) (VF_t V1 (VF_t V2 (VF_t V3 V4))))
    · have hT1 : kty (kf (aky (af n))) ≠ 1 := by omega
      rw [if_neg hT1] at e0
      have kO1 := kO
      rw [hT] at kO1
      obtain ⟨⟨ni, ri, q2⟩, ka⟩ := MV_k2 k1 hki hT
      have hlen := q2.2.2.2.2.2.1
      obtain ⟨ki1, li, iv, kv1, ei⟩ := MV_a2 k1 hna hT
      refine vm_go rfl bX11_finalizex_31 oX11_finalizex_31 ⟨_, _, kA.1, rfl, ⟨_, _, kO1, rfl, ⟨fun _ => ?_, fun q => absurd (show nI 2 = nI 1 from q) (by decide)⟩⟩⟩
      refine vm_go rfl bX11_finalizex_49 oX11_finalizex_49 ⟨_, _, kA.1, rfl, ⟨_, _, kO1, rfl, ?_⟩⟩
      by_cases hsz : w.length = ksz (kf (aky (af n)))
      rotate_left
      · rw [if_neg hsz] at e0
        exact vm_go rfl bX11_finalizex_56 oX11_finalizex_56 ⟨fun q => absurd (show nI w.length = nI (ksz (kf (aky (af n)))) from q) (by rw [nI_ij (by omega) (by omega)]; exact hsz), fun _ => hQ _ _ _ _ e0 (MS_0 k1) V1⟩
      rw [if_pos hsz] at e0
      refine vm_go rfl bX11_finalizex_56 oX11_finalizex_56 ⟨fun _ => ?_, fun q => absurd (show nI w.length = nI (ksz (kf (aky (af n)))) by rw [hsz]) q⟩
      refine vm_go rfl bX11_finalizex_62 oX11_finalizex_62 ⟨_, _, kA.1, rfl, ⟨_, _, kO1, rfl, ⟨fun _ => ?_, fun q => absurd (show nI 2 = nI 1 from q) (by decide)⟩⟩⟩
      obtain ⟨w6, B6, k6⟩ := MV_rs k1
      have hne := k1.2.2.2.2.2.2 n _ hna hki
      refine vm_go rfl bX11_finalizex_113 oX11_finalizex_113 ⟨_, _, MV_0 k1, rfl, ⟨_, _, MV_0 k1, rfl, ⟨_, _, (MV_tp k1).1, rfl, ⟨_, RS_t k6, 0, 0, _, x_unb k6 ev1 q2 ka kA.1 (by unfold RA; omega) ki1 (by unfold RA; omega) (by decide) (by decide) kv1 (by unfold RA; omega) (Nat.le_refl _) (by omega) (MV_tp k1).2.1 (by omega) (by decide), Nat.zero_le _, Nat.zero_le _, ?_⟩⟩⟩⟩
      rintro _ h2 ⟨⟨ok, rfl, hok2, w7, B7, k7, hs7⟩, q7, F7⟩
      rw [ei, bn_w ew (by omega), show sl (gb (ain (af n))) 0 98 = ain (af n) by rw [← li, sl_gb]] at hok2
      rw [ei, bn_w ew (by omega)] at hs7
      obtain ⟨k2, V2⟩ := MV_uF k1 hki hT (by omega) F7 ⟨w7, B7, k7⟩ q7
      cases ok with
      | false =>
        have e3 : fFz st3 kk3 (n : Int) w ou an kf af = some (-4, ou, af) := e0.trans (congrArg some (cif_f (fun y => nomatch (hok2.mpr y))))
        exact ⟨fun _ => vm_go rfl bX11_finalizex_139 oX11_finalizex_139 (vm_go rfl bX11_finalizex_141 oX11_finalizex_141 (hQ _ _ _ _ e3 (MS_0 k2) (VF_t V1 V2))), fun q => absurd rfl q⟩
      | true =>
        have hok2 := hok2.mp rfl
        have hs7 := hs7 rfl
        have e3 : fFz st3 kk3 (n : Int) w ou an kf af = _ := e0.trans (congrArg some (cif_t hok2))
        refine ⟨fun q => absurd q (by decide), fun _ => ?_⟩
        refine ⟨_, MV_0 k2, 0, 0, _, m_tsg (i := n) k2 hna (by rw [F7.1]; omega) k7 rfl (by omega), Nat.zero_le _, Nat.zero_le _, ?_⟩
        rintro _ h3 ⟨rfl, k3, V3⟩
        rw [hs7] at k3
        exact vm_go rfl bX11_finalizex_141 oX11_finalizex_141 (hQ _ _ _ _ e3 (MS_0 k3) (VF_t V1 (VF_t V2 V3)))
theorem m_fim {z m : Int} (hl : l.stackTraces = false) (k : MS st3 kk3 v lo w ou kn an rd ke ae kf af D dn wl wr h) (ev : EV st2 kk2 st3 kk3 h) (h9 : f9.category = 1) (hz : i32 z) (hm : i32 m) (hh : h.1 + 1 < 1099511627776) : vm_MetX (vm_env l O f9) mX11_finalizeMany 1 6 [.ref v, .int (iZ z), .int (iZ m)] h (fun r h' => ((∃ x ou' af', fFm st3 kk3 z m w ou an kf af = some (x, ou', af') ∧ r = some (.int x) ∧ MS st3 kk3 v lo [] ou' kn an rd ke ae kf af' D dn wl wr h') ∨ (fFm st3 kk3 z m w ou an kf af = none ∧ r = some (.retAddr 77) ∧ MS st3 kk3 v lo [] ou kn an rd ke ae kf af D dn wl wr h')) ∧ VF v lo h h') := by
  obtain ⟨tb, k, ew⟩ := k
  suffices H : ∀ Q : Option Value → vm_H → Prop, (∀ x y a h', fFm st3 kk3 z m w ou an kf af = some (x, y, a) → MS st3 kk3 v lo [] y kn an rd ke ae kf a D dn wl wr h' → VF v lo h h' → Q (some (.int x)) h') → (∀ h', fFm st3 kk3 z m w ou an kf af = none → MS st3 kk3 v lo [] ou kn an rd ke ae kf af D dn wl wr h' → VF v lo h h' → Q (some (.retAddr 77)) h') → vm_MetX (vm_env l O f9) mX11_finalizeMany 1 6 [.ref v, .int (iZ z), .int (iZ m)] h Q from H _ (fun x y a h' e1 e2 e3 => ⟨Or.inl ⟨x, y, a, e1, rfl, e2⟩, e3⟩) (fun h' e1 e2 e3 => ⟨Or.inr ⟨e1, rfl, e2⟩, e3⟩)
  intro Q hQ hX
  refine vm_metX rfl rfl rfl (Nat.le_of_ble_eq_true rfl) ?_
  have hts := MV_ts k
  refine vm_go rfl bX11_finalizeManyx_0 oX11_finalizeManyx_0 ⟨_, MV_0 k, 0, 0, _, m_use k, Nat.zero_le _, Nat.zero_le _, ?_⟩
  rintro _ h1 ⟨rfl, k1, V1, F1⟩
  have hh1 : h1.1 + 1 < 1099511627776 := by rw [F1.1]; exact hh
  have ev1 := EV_vf ev V1
  refine vm_Th (lv' := [(0, .ref v), (1, .int (iZ z)), (2, .int (iZ m)), (3, .int (nI w.length))]) (h' := h1) rfl rfl ?_
  have bad : fFm st3 kk3 z m w ou an kf af = none → vm_T (vm_env l O f9) mX11_finalizeMany 1 6 25 [(0, .ref v), (1, .int (iZ z)), (2, .int (iZ m)), (3, .int (nI w.length))] [] h1 Q := fun e0 => by
    obtain ⟨k2, V2⟩ := MV_th k1 (by omega)
    exact vm_r_nse (tx := "no such open ASKINGS") (is := 221) (id := 1099511627834) hl rfl rfl rfl (by decide +kernel) (by decide +kernel) (by decide +kernel) (by decide +kernel) (by decide +kernel) (by simp [vm_srs]) (by decide) (by decide) (by decide) (by decide) hh1 (hX _ e0 (MS_0 k2) (VF_t V1 V2))
  have q1 : iZ m < 1 ↔ m < 1 := by rw [show (1 : Int32) = iZ 1 from rfl, iZ_lt hm.1 hm.2 (by decide) (by decide)]
  have q8 : 8 < iZ m ↔ 8 < m := by rw [show (8 : Int32) = iZ 8 from rfl, iZ_lt (by decide) (by decide) hm.1 hm.2]
  by_cases b1 : m < 1
  · exact vm_go rfl bX11_finalizeManyx_5 oX11_finalizeManyx_5 ⟨fun _ => bad (cif_f (fun y => by omega)), fun q => absurd (q1.mpr b1) q⟩
  by_cases b2 : 8 < m
  · exact vm_go rfl bX11_finalizeManyx_5 oX11_finalizeManyx_5 ⟨fun q => absurd (q1.mp q) b1, fun _ => ⟨fun _ => bad (cif_f (fun y => by omega)), fun q => absurd (q8.mpr b2) q⟩⟩
  obtain ⟨c, rfl⟩ := iZ_nn (show 0 ≤ m by omega)
  have hc1 : 1 ≤ c := by omega
  have hc8 : c ≤ 8 := by omega
  have hcc : (c : Int).toNat = c := Int.toNat_natCast c
  refine vm_go rfl bX11_finalizeManyx_5 oX11_finalizeManyx_5 ⟨fun q => absurd (q1.mp q) b1, fun _ => ⟨fun q => absurd (q8.mp q) b2, fun _ => ⟨_, MV_0 k1, 0, 0, _, vm_metA (m_are (m := c) k1 hz hc8) (by rw [iZ_n]; rfl), Nat.zero_le _, Nat.zero_le _, ?_⟩⟩⟩
  rintro _ h1' ⟨⟨ok, rfl, hok⟩, e1⟩
  rw [e1]; clear e1 h1'
  cases ok with
  | false => exact ⟨fun q => absurd rfl q, fun _ => bad (cif_f (fun y => by rw [hcc] at y; exact nomatch (hok.mpr y.2.2)))⟩
  | true =>
    have hop := hok.mp rfl
    obtain ⟨z0, z1, z2⟩ := hop
    obtain ⟨n, rfl⟩ := iZ_nn z0
    have hnn : (n : Int).toNat = n := Int.toNat_natCast n
    have han := MV_an k1
    have hna : n < an := by omega
    have e0 : fFm st3 kk3 (n : Int) (c : Int) w ou an kf af = some (cif ((∀ i, i < c → aky (af (n + i)) = aky (af n)) ∧ kty (kf (aky (af n))) = 1 ∧ w.length = 49 * c + 96) (fFp st3 kk3 n c w ou kf af) (-2, ou, af)) := by
      unfold fFm
      rw [hnn, hcc]
      exact cif_t ⟨by omega, by omega, z0, z1, z2⟩
    rw [iZ_n, iZ_n]
    clear bad
    refine ⟨fun _ => ?_, fun q => absurd q (by decide)⟩
    obtain ⟨⟨ra1, ra2⟩, hki, kA⟩ := MV_ay k1 hna
    obtain ⟨⟨rk1, rk2⟩, kY⟩ := MV_ky k1 hki
    have hkx := kx_le (kf (aky (af n)))
    have hT := KY_ty kY
    have kb := k1.1
    obtain ⟨bs, sh, se, ia, mo, kO, _, _, _, rr, _, _⟩ := KY_o kY
    refine vm_go rfl bX11_finalizeManyx_35 oX11_finalizeManyx_35 ⟨_, _, MV_0 k1, rfl, ⟨_, _, _, _, MV_ar k1, by decide, rfl, n, rfl, by omega, AQR_at hna, ⟨_, _, kA.1, rfl, ?_⟩⟩⟩
    refine vm_Th (lv' := [(0, .ref v), (1, .int (nI n)), (2, .int (nI c)), (3, .int (nI w.length)), (4, .ref (ke (aky (af n)) + 2))]) (h' := h1) rfl rfl ?_
    refine vm_go rfl bX11_finalizeManyx_46 oX11_finalizeManyx_46 ?_
    refine vm_Th (lv' := [(0, .ref v), (1, .int (nI n)), (2, .int (nI c)), (3, .int (nI w.length)), (4, .ref (ke (aky (af n)) + 2)), (5, .int (nI 1))]) (h' := h1) rfl rfl ?_
    refine vm_forP (fun i => ∀ j, j < i → aky (af (n + j)) = aky (af n)) c (fun i => [(0, .ref v), (1, .int (nI n)), (2, .int (nI c)), (3, .int (nI w.length)), (4, .ref (ke (aky (af n)) + 2)), (5, .int (nI i))]) (fun _ => h1) 1 hc1 (fun j hj => by rw [show n + j = n by omega]) ?_ ?_
    rotate_left
    · intro i hi0 hic hp ih
      have hni : n + i < an := by omega
      obtain ⟨_, hkj, kB⟩ := MV_ay k1 hni
      obtain ⟨⟨sk1, sk2⟩, _⟩ := MV_ky k1 hkj
      have hkx2 := kx_le (kf (aky (af (n + i))))
      have l1 : ke (aky (af (n + i))) + 2 < 1099511627776 := by omega
      have l2 : ke (aky (af n)) + 2 < 1099511627776 := by omega
      refine vm_go rfl bX11_finalizeManyx_49 oX11_finalizeManyx_49 ⟨fun q => absurd q (nI_ge hic (by omega)), fun _ => ⟨_, _, MV_0 k1, rfl, ⟨_, _, _, _, MV_ar k1, by decide, rfl, n + i, nI_add n i, by omega, AQR_at hni, ⟨_, _, kB.1, rfl, ⟨l1, l2, fun q => ?_, fun q => ?_⟩⟩⟩⟩⟩
      · have q : ke (aky (af (n + i))) + 2 = ke (aky (af n)) + 2 := q
        have e5 : aky (af (n + i)) = aky (af n) := by
          have hd := k1.2.2.1.2.2
          rcases Nat.lt_trichotomy (aky (af (n + i))) (aky (af n)) with y | y | y
          · have := hd _ _ y hki
            omega
          · exact y
          · have := hd _ _ y hkj
            omega
        refine vm_go rfl bX11_finalizeManyx_75 oX11_finalizeManyx_75 ?_
        refine vm_Th (lv' := [(0, .ref v), (1, .int (nI n)), (2, .int (nI c)), (3, .int (nI w.length)), (4, .ref (ke (aky (af n)) + 2)), (5, .int (nI (i + 1)))]) (h' := h1) (by rw [← nI_1]; rfl) rfl ?_
        refine ih (fun j hj => ?_)
        by_cases e : j = i
        · rw [e]; exact e5
        · exact hp j (by omega)
      · have e6 : fFm st3 kk3 (n : Int) (c : Int) w ou an kf af = some (-2, ou, af) := e0.trans (congrArg some (cif_f (fun y => q (by rw [y.1 i hic]))))
        exact hQ _ _ _ _ e6 (MS_0 k1) V1
    · intro hp
      refine vm_go rfl bX11_finalizeManyx_49 oX11_finalizeManyx_49 ⟨fun _ => ?_, fun q => absurd (nI_le (a := c) (b := c) (Nat.le_refl _) (by omega)) q⟩
      have es : nI c * 49 + 96 = nI (49 * c + 96) := by
        rw [show nI c * 49 = nI (c * 49) from nI_mul c 49, show nI (c * 49) + 96 = nI (c * 49 + 96) from nI_add _ 96, Nat.mul_comm c 49]
      have ref9 : ¬ (kty (kf (aky (af n))) = 1 ∧ w.length = 49 * c + 96) → vm_T (vm_env l O f9) mX11_finalizeMany 1 6 101 [(0, .ref v), (1, .int (nI n)), (2, .int (nI c)), (3, .int (nI w.length)), (4, .ref (ke (aky (af n)) + 2)), (5, .int (nI c))] [] h1 Q := fun ng =>
        vm_go rfl bX11_finalizeManyx_101 oX11_finalizeManyx_101 (hQ _ _ _ _ (e0.trans (congrArg some (cif_f (fun y => ng y.2)))) (MS_0 k1) V1)
      rcases hT with hT | hT
      rotate_left
      · rw [hT] at kO
        exact vm_go rfl bX11_finalizeManyx_81 oX11_finalizeManyx_81 ⟨_, _, kO, rfl, ⟨fun _ => ref9 (fun y => by omega), fun q => absurd (show nI 2 = nI 1 from q) (by decide)⟩⟩
      have kO1 := kO
      rw [hT] at kO1
      by_cases hsz : w.length = 49 * c + 96
      rotate_left
      · exact vm_go rfl bX11_finalizeManyx_81 oX11_finalizeManyx_81 ⟨_, _, kO1, rfl, ⟨fun q => absurd rfl q, fun _ => ⟨fun q => absurd (show nI w.length = nI c * 49 + 96 from q) (by rw [es, nI_ij (by omega) (by omega)]; exact hsz), fun _ => ref9 (fun y => hsz y.2)⟩⟩⟩
      have e1 : fFm st3 kk3 (n : Int) (c : Int) w ou an kf af = some (fFp st3 kk3 n c w ou kf af) := e0.trans (congrArg some (cif_t ⟨hp, hT, hsz⟩))
      refine vm_go rfl bX11_finalizeManyx_81 oX11_finalizeManyx_81 ⟨_, _, kO1, rfl, ⟨fun q => absurd rfl q, fun _ => ⟨fun _ => ?_, fun q => absurd (show nI w.length = nI c * 49 + 96 by rw [es, hsz]) q⟩⟩⟩
      have ht1 : ∀ j, j < c → kty (kf (aky (af (n + j)))) = 1 := fun j hj => by rw [hp j hj]; exact hT
      refine vm_go rfl bX11_finalizeManyx_104 oX11_finalizeManyx_104 ⟨_, MV_0 k1, 0, 0, _, m_rem (n := n) (many := c) k1 hc8 (by omega) ht1, Nat.zero_le _, Nat.zero_le _, ?_⟩
      rintro _ h2 ⟨rfl, k2, V2, F2, W2, B2, P2, g2, o2, hb2⟩
      have ev2 := EV_vf ev1 V2
      refine ⟨_, _, MV_0 k2, rfl, ⟨_, _, MV_0 k2, rfl, ⟨_, _, (MV_tp k2).1, rfl, ⟨_, OP_t o2, 0, 0, _, m_isp (many := c) (aw := fun j => abA st3 kk3 (af (n + j))) k2 ev2 h9 hki hT o2 hb2 hc1 hc8, Nat.zero_le _, Nat.zero_le _, ?_⟩⟩⟩⟩
      rintro _ h3 ⟨ok, rfl, hok3, k3, V3, E3, W3, B3, P3, g3, o3, hg3⟩
      have hdw : ∀ j, j < c → sl tb (49 * j) 49 = sl (gb w) (49 * j) 49 := fun j hj => sl_w ew (by omega)
      have hpv : pvO st3 kk3 (ksh (kf (aky (af n)))) (fun j => abA st3 kk3 (af (n + j))) (fun j => sl tb (49 * j) 49) c (bn tb (49 * c) 48) (bn tb (49 * c + 48) 48) ↔ pvO st3 kk3 (ksh (kf (aky (af n)))) (fun j => abA st3 kk3 (af (n + j))) (fun j => sl (gb w) (49 * j) 49) c (bn (gb w) (49 * c) 48) (bn (gb w) (49 * c + 48) 48) := by
        rw [bn_w ew (by omega), bn_w ew (by omega)]
        unfold pvO
        simp only [pv_ex9 (fun _ _ => rfl) hdw]
      rw [hpv] at hok3
      cases ok with
      | false =>
        have e3 : fFm st3 kk3 (n : Int) (c : Int) w ou an kf af = some (-4, ou, af) := e1.trans (congrArg some (cif_f (fun y => nomatch (hok3.mpr y))))
        exact ⟨fun _ => vm_go rfl bX11_finalizeManyx_139 oX11_finalizeManyx_139 (vm_go rfl bX11_finalizeManyx_141 oX11_finalizeManyx_141 (hQ _ _ _ _ e3 (MS_0 k3) (VF_t V1 (VF_t V2 V3)))), fun q => absurd rfl q⟩
      | true =>
        have hok3 := hok3.mp rfl
        obtain ⟨hg1, hg2⟩ := hg3 rfl
        have e3 : fFm st3 kk3 (n : Int) (c : Int) w ou an kf af = _ := e1.trans (congrArg some (cif_t hok3))
        have ev3 := EV_vf ev2 V3
        refine ⟨fun q => absurd q (by decide), fun _ => ?_⟩
        have hg1' : ∀ j, j < c → g3.1 j = some (elL (sl (gb w) (49 * j) 49)) := fun j hj => by rw [hg1 j hj, hdw j hj]
        have hPn : ∀ j, j < c → ecM (-3) fiv (ivm cQ (abl (af (n + j)))) (elL (sl (gb w) (49 * j) 49)) ≠ none := fun j hj => by obtain ⟨A9, _, y9⟩ := hok3; exact fF_nz k3 (by omega) (ht1 j hj) (y9.2.2.1 j hj)
        refine ⟨_, MV_0 k3, 0, 0, _, m_tko (n := n) (many := c) k3 ev3 h9 (by rw [E3, F2.1]; omega) hc1 hc8 (by omega) ht1 o3 hg1' hg2 hPn, Nat.zero_le _, Nat.zero_le _, ?_⟩
        rintro _ h4 ⟨rfl, k4, V4⟩
        exact vm_go rfl bX11_finalizeManyx_141 oX11_finalizeManyx_141 (hQ _ _ _ _ e3 (MS_0 k4) (VF_t V1 (VF_t V2 (VF_t V3 V4))))
end
