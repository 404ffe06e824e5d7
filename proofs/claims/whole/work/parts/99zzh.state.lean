/-! the reference: its state; small methods -/
def bX14_usedx_0 : List vm_J := [(1, .aload_n 0, 0, 0, 0, .null), (1, .iconst 0, 0, 0, 0, .int 0), (3, .putfield 1, 14, 0, 0, .null)]
set_option maxRecDepth 20000 in
theorem oX14_usedx_0 : vm_okB 14 mX14_used 0 bX14_usedx_0 = true := by decide +kernel
def bX14_usedx_5 : List vm_J := [(1, .aload_n 0, 0, 0, 0, .null), (3, .getfield 540, 14, 75, 0, .null), (1, .istore_n 1, 0, 0, 0, .null)]
set_option maxRecDepth 20000 in
theorem oX14_usedx_5 : vm_okB 14 mX14_used 5 bX14_usedx_5 = true := by decide +kernel
def bX14_usedx_10 : List vm_J := [(1, .aload_n 0, 0, 0, 0, .null), (1, .iconst 0, 0, 0, 0, .int 0), (3, .putfield 540, 14, 75, 0, .null)]
set_option maxRecDepth 20000 in
theorem oX14_usedx_10 : vm_okB 14 mX14_used 10 bX14_usedx_10 = true := by decide +kernel
def bX14_usedx_15 : List vm_J := [(1, .iload_n 1, 0, 0, 0, .null), (1, .ireturn, 0, 0, 0, .null)]
set_option maxRecDepth 20000 in
theorem oX14_usedx_15 : vm_okB 14 mX14_used 15 bX14_usedx_15 = true := by decide +kernel
def bX14_outsx_0 : List vm_J := [(1, .aload_n 0, 0, 0, 0, .null), (1, .iconst 0, 0, 0, 0, .int 0), (3, .putfield 1, 14, 0, 0, .null)]
set_option maxRecDepth 20000 in
theorem oX14_outsx_0 : vm_okB 14 mX14_outs 0 bX14_outsx_0 = true := by decide +kernel
def bX14_outsx_5 : List vm_J := [(1, .aload_n 0, 0, 0, 0, .null), (3, .getfield 564, 14, 77, 0, .null), (1, .ireturn, 0, 0, 0, .null)]
set_option maxRecDepth 20000 in
theorem oX14_outsx_5 : vm_okB 14 mX14_outs 5 bX14_outsx_5 = true := by decide +kernel
def bX14_outx_0 : List vm_J := [(1, .aload_n 0, 0, 0, 0, .null), (1, .iconst 0, 0, 0, 0, .int 0), (3, .putfield 1, 14, 0, 0, .null)]
set_option maxRecDepth 20000 in
theorem oX14_outx_0 : vm_okB 14 mX14_out 0 bX14_outx_0 = true := by decide +kernel
def bX14_outx_5 : List vm_J := [(1, .iload_n 1, 0, 0, 0, .null), (3, .ifCond .lt 11, 17, 0, 0, .null), (1, .iload_n 1, 0, 0, 0, .null), (1, .aload_n 0, 0, 0, 0, .null), (3, .getfield 564, 14, 77, 0, .null), (3, .if_icmp .lt 7, 21, 0, 0, .null)]
set_option maxRecDepth 20000 in
theorem oX14_outx_5 : vm_okB 14 mX14_out 5 bX14_outx_5 = true := by decide +kernel
def bX14_outx_17 : List vm_J := [(1, .iconst (-1), 0, 0, 0, .int (-1)), (3, .goto 13, 31, 0, 0, .null)]
set_option maxRecDepth 20000 in
theorem oX14_outx_17 : vm_okB 14 mX14_out 17 bX14_outx_17 = true := by decide +kernel
def bX14_outx_21 : List vm_J := [(1, .aload_n 0, 0, 0, 0, .null), (3, .getfield 495, 14, 76, 0, .null), (1, .iload_n 1, 0, 0, 0, .null), (1, .baload, 0, 0, 0, .null), (3, .sipush 255, 0, 0, 0, .int 255), (1, .iand, 0, 0, 0, .null)]
set_option maxRecDepth 20000 in
theorem oX14_outx_21 : vm_okB 14 mX14_out 21 bX14_outx_21 = true := by decide +kernel
def bX14_outx_31 : List vm_J := [(1, .ireturn, 0, 0, 0, .null)]
set_option maxRecDepth 20000 in
theorem oX14_outx_31 : vm_okB 14 mX14_out 31 bX14_outx_31 = true := by decide +kernel
def bX14_endx_0 : List vm_J := [(1, .aload_n 0, 0, 0, 0, .null), (1, .iconst 0, 0, 0, 0, .int 0), (3, .putfield 1, 14, 0, 0, .null)]
set_option maxRecDepth 20000 in
theorem oX14_endx_0 : vm_okB 14 mX14_end 0 bX14_endx_0 = true := by decide +kernel
def bX14_endx_5 : List vm_J := [(1, .iload_n 1, 0, 0, 0, .null), (3, .ifCond .lt 11, 17, 0, 0, .null), (1, .iload_n 1, 0, 0, 0, .null), (1, .aload_n 0, 0, 0, 0, .null), (3, .getfield 540, 14, 75, 0, .null), (3, .if_icmp .le 5, 19, 0, 0, .null)]
set_option maxRecDepth 20000 in
theorem oX14_endx_5 : vm_okB 14 mX14_end 5 bX14_endx_5 = true := by decide +kernel
def bX14_endx_17 : List vm_J := [(1, .iconst 0, 0, 0, 0, .int 0), (1, .ireturn, 0, 0, 0, .null)]
set_option maxRecDepth 20000 in
theorem oX14_endx_17 : vm_okB 14 mX14_end 17 bX14_endx_17 = true := by decide +kernel
def bX14_endx_19 : List vm_J := [(1, .aload_n 0, 0, 0, 0, .null), (1, .iload_n 1, 0, 0, 0, .null), (3, .putfield 540, 14, 75, 0, .null)]
set_option maxRecDepth 20000 in
theorem oX14_endx_19 : vm_okB 14 mX14_end 19 bX14_endx_19 = true := by decide +kernel
def bX14_endx_24 : List vm_J := [(1, .iconst 1, 0, 0, 0, .int 1), (1, .ireturn, 0, 0, 0, .null)]
set_option maxRecDepth 20000 in
theorem oX14_endx_24 : vm_okB 14 mX14_end 24 bX14_endx_24 = true := by decide +kernel
def bX14_diskx_0 : List vm_J := [(1, .aload_n 0, 0, 0, 0, .null), (1, .iconst 0, 0, 0, 0, .int 0), (3, .putfield 1, 14, 0, 0, .null)]
set_option maxRecDepth 20000 in
theorem oX14_diskx_0 : vm_okB 14 mX14_disk 0 bX14_diskx_0 = true := by decide +kernel
def bX14_diskx_5 : List vm_J := [(1, .iload_n 1, 0, 0, 0, .null), (3, .ifCond .lt 10, 16, 0, 0, .null), (1, .iload_n 1, 0, 0, 0, .null), (3, .sipush 4096, 0, 0, 0, .int 4096), (3, .if_icmp .lt 7, 20, 0, 0, .null)]
set_option maxRecDepth 20000 in
theorem oX14_diskx_5 : vm_okB 14 mX14_disk 5 bX14_diskx_5 = true := by decide +kernel
def bX14_diskx_16 : List vm_J := [(1, .iconst (-1), 0, 0, 0, .int (-1)), (3, .goto 13, 30, 0, 0, .null)]
set_option maxRecDepth 20000 in
theorem oX14_diskx_16 : vm_okB 14 mX14_disk 16 bX14_diskx_16 = true := by decide +kernel
def bX14_diskx_20 : List vm_J := [(1, .aload_n 0, 0, 0, 0, .null), (3, .getfield 486, 14, 69, 0, .null), (1, .iload_n 1, 0, 0, 0, .null), (1, .baload, 0, 0, 0, .null), (3, .sipush 255, 0, 0, 0, .int 255), (1, .iand, 0, 0, 0, .null)]
set_option maxRecDepth 20000 in
theorem oX14_diskx_20 : vm_okB 14 mX14_disk 20 bX14_diskx_20 = true := by decide +kernel
def bX14_diskx_30 : List vm_J := [(1, .ireturn, 0, 0, 0, .null)]
set_option maxRecDepth 20000 in
theorem oX14_diskx_30 : vm_okB 14 mX14_disk 30 bX14_diskx_30 = true := by decide +kernel
def bX14_cutx_0 : List vm_J := [(1, .aload_n 0, 0, 0, 0, .null), (1, .iconst 0, 0, 0, 0, .int 0), (3, .putfield 1, 14, 0, 0, .null)]
set_option maxRecDepth 20000 in
theorem oX14_cutx_0 : vm_okB 14 mX14_cut 0 bX14_cutx_0 = true := by decide +kernel
def bX14_cutx_5 : List vm_J := [(1, .iload_n 1, 0, 0, 0, .null), (3, .ifCond .lt 17, 23, 0, 0, .null), (1, .iload_n 1, 0, 0, 0, .null), (3, .sipush 1000, 0, 0, 0, .int 1000), (3, .if_icmp .gt 10, 23, 0, 0, .null), (1, .aload_n 0, 0, 0, 0, .null), (3, .getfield 662, 14, 73, 0, .null), (3, .ifCond .eq 5, 25, 0, 0, .null)]
set_option maxRecDepth 20000 in
theorem oX14_cutx_5 : vm_okB 14 mX14_cut 5 bX14_cutx_5 = true := by decide +kernel
def bX14_cutx_23 : List vm_J := [(1, .iconst 0, 0, 0, 0, .int 0), (1, .ireturn, 0, 0, 0, .null)]
set_option maxRecDepth 20000 in
theorem oX14_cutx_23 : vm_okB 14 mX14_cut 23 bX14_cutx_23 = true := by decide +kernel
def bX14_cutx_25 : List vm_J := [(1, .aload_n 0, 0, 0, 0, .null), (1, .iload_n 1, 0, 0, 0, .null), (3, .putfield 489, 14, 71, 0, .null)]
set_option maxRecDepth 20000 in
theorem oX14_cutx_25 : vm_okB 14 mX14_cut 25 bX14_cutx_25 = true := by decide +kernel
def bX14_cutx_30 : List vm_J := [(1, .iconst 1, 0, 0, 0, .int 1), (1, .ireturn, 0, 0, 0, .null)]
set_option maxRecDepth 20000 in
theorem oX14_cutx_30 : vm_okB 14 mX14_cut 30 bX14_cutx_30 = true := by decide +kernel
def nlm (x : aK) : Nat := if kty x = 1 then 12 else (ksz x + 3) / 4
/-- the ASKINGS of the reference -/
def SA (h : vm_H) (a an kn : Nat) (af : Nat → aA) (kf : Nat → aK) : Prop :=
  (∃ f, ia h 60 (a + 88) f ∧ ∀ i, i < an → f i = nI (aky (af i))) ∧
  (∃ f, bo9 h 60 (a + 89) f ∧ ∀ i, i < an → f i = bi (aop (af i))) ∧
  (∃ c, bv h 5880 (a + 90) c ∧ ∀ i, i < an → sl c (98 * i) 98 = ain (af i)) ∧
  rr9 h (.array .int) 60 (a + 91) (fun i => a + 92 + i) ∧
  (∀ i, i < 60 → iw h 64 (a + 92 + i)) ∧
  ∀ i, i < an → aky (af i) < kn ∧ wv h 64 (a + 92 + i) (nlm (kf (aky (af i)))) (abl (af i))
theorem SA_cg {h h' : vm_H} {a an kn : Nat} {af : Nat → aA} {kf : Nat → aK} (k : SA h a an kn af kf) (hn : an ≤ 60) (e : ∀ q, a + 88 ≤ q → q ≤ a + 151 → h'.2 q = h.2 q) : SA h' a an kn af kf := by
  obtain ⟨⟨f1, k1, v1⟩, ⟨f2, k2, v2⟩, ⟨f3, k3, v3⟩, k4, k5, k6⟩ := k
  exact ⟨⟨f1, ia_cg9 k1 (e _ (by omega) (by omega)), v1⟩, ⟨f2, (e _ (by omega) (by omega)).trans k2, v2⟩, ⟨f3, bv_cg k3 (e _ (by omega) (by omega)), v3⟩, rr9_cg k4 (e _ (by omega) (by omega)), fun i hi => iw_cg (k5 i hi) (e _ (by omega) (by omega)), fun i hi => ⟨(k6 i hi).1, wv_cg (k6 i hi).2 (e _ (by omega) (by omega))⟩⟩
/-- the numbers -/
def RG9 (g : Nat → Int32) (th : Int32) (kn an rd : Nat) (dn : Bool) (wl : Int) (wr tl ol : Nat) : Prop := g 0 = th ∧ g 63 = nI kn ∧ g 68 = nI an ∧ g 70 = nI wr ∧ g 71 = iZ wl ∧ g 72 = nI rd ∧ g 73 = bi dn ∧ g 75 = nI tl ∧ g 77 = nI ol
/-- what is kept -/
def ST (h : vm_H) (a kn an : Nat) (kf : Nat → aK) (af : Nat → aA) (D : Nat → Nat) (w ou : List Nat) : Prop := SK h a kn kf ∧ SA h a an kn af kf ∧ bv h 4096 (a + 152) D ∧ rl9 h 1208 (a + 153) w ∧ rl9 h 2900 (a + 154) ou ∧ w.length ≤ 1200 ∧ ou.length ≤ 2900 ∧ kn ≤ 6 ∧ an ≤ 60
def RM (h : vm_H) (a : Nat) (t : KT) (th : Int32) (w ou : List Nat) (kn an rd : Nat) (kf : Nat → aK) (af : Nat → aA) (D : Nat → Nat) (dn : Bool) (wl : Int) (wr : Nat) : Prop := ∃ g m y, SY h a t g [] m y ∧ RG9 g th kn an rd dn wl wr w.length ou.length ∧ ST h a kn an kf af D w ou
section
variable {l : Launch} {O : Nat → vm_Ob} {f9 : Value} {h h' : vm_H} {a kn an rd wr : Nat} {t : KT} {g g' : Nat → Int32} {m y w ou : List Nat} {kf : Nat → aK} {af : Nat → aA} {D : Nat → Nat} {dn : Bool} {wl : Int} {th : Int32}
theorem ST_cg (k : ST h a kn an kf af D w ou) (e : ∀ q, (a + 73 ≤ q ∧ q ≤ a + 154) ∨ (a + 216 ≤ q ∧ q ≤ a + 251) → h'.2 q = h.2 q) : ST h' a kn an kf af D w ou := by
  obtain ⟨k1, k2, k3, k4, k5, k6, k7, k8, k9⟩ := k
  exact ⟨SK_cg k1 k8 (fun q z => e q (by omega)), SA_cg k2 k9 (fun q z1 z2 => e q (by omega)), bv_cg k3 (e _ (by omega)), rl9_cg k4 (e _ (by omega)), rl9_cg k5 (e _ (by omega)), k6, k7, k8, k9⟩
theorem ST_fr {S : Nat → Prop} (k : ST h a kn an kf af D w ou) (F : fr h h' S) (hS : ∀ q, S q → scr a q) : ST h' a kn an kf af D w ou := ST_cg k (fun q z => F.2 q (fun y => by have := hS q y; unfold scr at this; omega))
/-- a new TAPE -/
theorem ST_tp {S : Nat → Prop} {w' : List Nat} (k : ST h a kn an kf af D w ou) (F : fr h h' S) (hS : ∀ q, S q → scr a q ∨ q = a + 153) (r : rl9 h' 1208 (a + 153) w') (hw : w'.length ≤ 1200) : ST h' a kn an kf af D w' ou := by
  obtain ⟨k1, k2, k3, k4, k5, k6, k7, k8, k9⟩ := k
  have e : ∀ q, (a + 73 ≤ q ∧ q ≤ a + 154 ∧ q ≠ a + 153) ∨ (a + 216 ≤ q ∧ q ≤ a + 251) → h'.2 q = h.2 q := fun q z => F.2 q (fun y => by have := hS q y; unfold scr at this; omega)
  exact ⟨SK_cg k1 k8 (fun q z => e q (by omega)), SA_cg k2 k9 (fun q z1 z2 => e q (by omega)), bv_cg k3 (e _ (by omega)), r, rl9_cg k5 (e _ (by omega)), hw, k7, k8, k9⟩
/-- a new OUT -/
theorem ST_ou {S : Nat → Prop} {ou' : List Nat} (k : ST h a kn an kf af D w ou) (F : fr h h' S) (hS : ∀ q, S q → scr a q ∨ q = a + 154) (r : rl9 h' 2900 (a + 154) ou') (hw : ou'.length ≤ 2900) : ST h' a kn an kf af D w ou' := by
  obtain ⟨k1, k2, k3, k4, k5, k6, k7, k8, k9⟩ := k
  have e : ∀ q, (a + 73 ≤ q ∧ q ≤ a + 153) ∨ (a + 216 ≤ q ∧ q ≤ a + 251) → h'.2 q = h.2 q := fun q z => F.2 q (fun y => by have := hS q y; unfold scr at this; omega)
  exact ⟨SK_cg k1 k8 (fun q z => e q (by omega)), SA_cg k2 k9 (fun q z1 z2 => e q (by omega)), bv_cg k3 (e _ (by omega)), rl9_cg k4 (e _ (by omega)), r, k6, hw, k8, k9⟩
/-- a new disk -/
theorem ST_dk {S : Nat → Prop} {D' : Nat → Nat} (k : ST h a kn an kf af D w ou) (F : fr h h' S) (hS : ∀ q, S q → scr a q ∨ q = a + 152) (r : bv h' 4096 (a + 152) D') : ST h' a kn an kf af D' w ou := by
  obtain ⟨k1, k2, k3, k4, k5, k6, k7, k8, k9⟩ := k
  have e : ∀ q, (a + 73 ≤ q ∧ q ≤ a + 154 ∧ q ≠ a + 152) ∨ (a + 216 ≤ q ∧ q ≤ a + 251) → h'.2 q = h.2 q := fun q z => F.2 q (fun y => by have := hS q y; unfold scr at this; omega)
  exact ⟨SK_cg k1 k8 (fun q z => e q (by omega)), SA_cg k2 k9 (fun q z1 z2 => e q (by omega)), r, rl9_cg k4 (e _ (by omega)), rl9_cg k5 (e _ (by omega)), k6, k7, k8, k9⟩
theorem SY_g {w : List Nat} (k : SY h a t g w m y) (e : h' = vm_up h a (RO a (u3 g' (nI w.length) (nI m.length) (nI y.length)))) : SY h' a t g' w m y ∧ fr h h' (fun q => q = a) := by
  have F : fr h h' (fun q => q = a) := e ▸ fr_up rfl
  exact ⟨⟨RK_of k.1 F (by rw [e]; exact vm_upe) (fun q z => .inl z), k.2.1, rl9_cg k.2.2.1 (F.2 _ (by omega)), rl9_cg k.2.2.2.1 (F.2 _ (by omega)), rl9_cg k.2.2.2.2 (F.2 _ (by omega))⟩, F⟩
/-- a row that is no row of RK has changed -/
theorem SY_off {S : Nat → Prop} {w : List Nat} (k : SY h a t g w m y) (F : fr h h' S) (hS : ∀ q, S q → (a + 73 ≤ q ∧ q ≤ a + 154) ∨ (a + 216 ≤ q ∧ q < 1099511627776)) : SY h' a t g w m y := by
  have ao := k.1.2.1
  have e : ∀ q, (q ≤ a + 72 ∨ (a + 155 ≤ q ∧ q ≤ a + 215) ∨ 1099511627776 ≤ q) → h'.2 q = h.2 q := fun q z => F.2 q (fun y => by have := hS q y; omega)
  have F2 : fr h h' (fun q => q ≠ a ∧ ¬ (q ≤ a + 72 ∨ (a + 155 ≤ q ∧ q ≤ a + 215) ∨ 1099511627776 ≤ q)) := ⟨F.1, fun q z => e q (by omega)⟩
  refine ⟨?_, k.2.1, rl9_cg k.2.2.1 (e _ (by omega)), rl9_cg k.2.2.2.1 (e _ (by omega)), rl9_cg k.2.2.2.2 (e _ (by omega))⟩
  obtain ⟨k1, k2, ⟨kv, ⟨w1, w2, w3, w4, w5, w6, w7, w8⟩, t1, t2, t3, t4⟩, ⟨c1, c2, c3, c4, c5, c6, ⟨fa, ea, va⟩, ⟨fb, eb, vb⟩⟩, k5, k6, ⟨k7, k8⟩, k9⟩ := k.1
  have oo : ∀ q, 1099511627776 ≤ q → h'.2 q = h.2 q := fun q hq => e q (by omega)
  refine ⟨(e a (by omega)).trans k1, k2, ⟨RV_fr kv F2 (fun q z => by omega), ⟨sto_fr w1 oo, sto_fr w2 oo, sto_fr w3 oo, sto_fr w4 oo, sto_fr w5 oo, sto_fr w6 oo, sto_fr w7 oo, sto_fr w8 oo⟩, (oo _ (by decide)).trans t1, (oo _ (by decide)).trans t2, (oo _ (by decide)).trans t3, (oo _ (by decide)).trans t4⟩, ⟨MH_cg3 c1 F2 (by omega), MH_cg3 c2 F2 (by omega), SP_fr c3 F2 (fun q z1 z2 => by omega), wv_cg c4 (e _ (by omega)), wq_cg c5 (e _ (by omega)), wq_cg c6 (e _ (by omega)), ⟨fa, (e _ (by omega)).trans ea, va⟩, ⟨fb, (e _ (by omega)).trans eb, vb⟩⟩, fun i hi => iw_cg (k5 i hi) (e _ (by unfold ZI at hi; omega)), fun i hi => bx9_cg (k6 i hi) (e _ (by unfold ZB at hi; omega)), ⟨lw_cg k7 (e _ (by omega)), lw_cg k8 (e _ (by omega))⟩, fun s hs => SQ_cg (k9 s hs) (fun q z1 z2 => e _ (by unfold ZP at hs; omega))⟩
theorem RG_th (G : RG9 g th kn an rd dn wl wr w.length ou.length) : RG9 (ug g 0 0) 0 kn an rd dn wl wr w.length ou.length := ⟨rfl, G.2⟩
theorem iZ_lt0 {z : Int} (hz : i32 z) : iZ z < (0 : Int32) ↔ z < 0 := by
  exact iZ_lt (b := 0) hz.1 hz.2 (by decide) (by decide)
theorem cz_lt {z : Int} {n : Nat} (hz : i32 z) (hn : n < 2147483648) : iZ z < nI n ↔ z < (n : Int) := by
  rw [iZ_nI]; exact iZ_lt hz.1 hz.2 (by omega) (by omega)
theorem cz_le {z : Int} {n : Nat} (hz : i32 z) (hn : n < 2147483648) : iZ z ≤ nI n ↔ z ≤ (n : Int) := by
  rw [iZ_nI]; exact iZ_le hz.1 hz.2 (by omega) (by omega)
theorem cz_ge {z : Int} {n : Nat} (hz : i32 z) (hn : n < 2147483648) : nI n ≤ iZ z ↔ (n : Int) ≤ z := by
  rw [iZ_nI]; exact iZ_le (by omega) (by omega) hz.1 hz.2
theorem cz_gt {z : Int} {n : Nat} (hz : i32 z) (hn : n < 2147483648) : nI n < iZ z ↔ (n : Int) < z := by
  rw [iZ_nI]; exact iZ_lt (by omega) (by omega) hz.1 hz.2
theorem iZ_tn {z : Int} (h : 0 ≤ z) : iZ z = nI z.toNat := by rw [iZ_nI]; congr 1; omega
/-- the cells of the reference -/
def RF (a q : Nat) : Prop := a ≤ q ∧ q ≤ a + 251
theorem rp_thr (K : RM h a t th w ou kn an rd kf af D dn wl wr) : vm_Met (vm_env l O f9) mX14_thrown 0 0 [.ref a] h (fun r h' => r = some (.int th) ∧ h' = h) := by
  obtain ⟨g, m, y, k, G, st⟩ := K
  refine vm_met rfl (Nat.le_of_ble_eq_true rfl) ?_
  exact vm_go rfl bX14_thrown_0 oX14_thrown_0 ⟨_, _, k.1.1, rfl, by rw [← G.1]; rfl, rfl⟩

theorem rp_outs (K : RM h a t th w ou kn an rd kf af D dn wl wr) : vm_Met (vm_env l O f9) mX14_outs 0 0 [.ref a] h (fun r h' => r = some (.int (nI ou.length)) ∧ RM h' a t 0 w ou kn an rd kf af D dn wl wr ∧ fr h h' (RF a)) := by
  obtain ⟨g, m, y, k, G, st⟩ := K
  have ao := k.1.2.1
  have la : a < 1099511627776 := by omega
  refine vm_met rfl (Nat.le_of_ble_eq_true rfl) ?_
  refine vm_go rfl bX14_outsx_0 oX14_outsx_0 ⟨_, k.1.1, la, show 0 < 89 by decide, trivial, ?_⟩
  obtain ⟨h1, eh1⟩ : ∃ h1, h1 = vm_up h a (RO a (u3 (ug g 0 0) (nI ([] : List Nat).length) (nI m.length) (nI y.length))) := ⟨_, rfl⟩
  obtain ⟨k1, F1⟩ := SY_g k eh1
  have st1 := ST_fr st F1 (fun q z => by unfold scr; omega)
  have G1 := RG_th G
  have F1 : fr h h1 (RF a) := fr_mono F1 (fun q z => by unfold RF; omega)
  refine vm_Th (lv' := [(0, .ref a)]) (h' := h1) rfl eh1 ?_
  exact vm_go rfl bX14_outsx_5 oX14_outsx_5 ⟨_, _, k1.1.1, rfl, by rw [← G1.2.2.2.2.2.2.2.2]; rfl, ⟨_, _, _, k1, G1, st1⟩, F1⟩
theorem rp_out {z : Int} (hz : i32 z) (K : RM h a t th w ou kn an rd kf af D dn wl wr) : vm_Met (vm_env l O f9) mX14_out 0 0 [.ref a, .int (iZ z)] h (fun r h' => (0 ≤ z ∧ z < (ou.length : Int) → r = some (.int (nI (gb ou z.toNat)))) ∧ (¬ (0 ≤ z ∧ z < (ou.length : Int)) → r = some (.int (-1))) ∧ RM h' a t 0 w ou kn an rd kf af D dn wl wr ∧ fr h h' (RF a)) := by
  obtain ⟨g, m, y, k, G, st⟩ := K
  have ao := k.1.2.1
  have la : a < 1099511627776 := by omega
  refine vm_met rfl (Nat.le_of_ble_eq_true rfl) ?_
  refine vm_go rfl bX14_outx_0 oX14_outx_0 ⟨_, k.1.1, la, show 0 < 89 by decide, trivial, ?_⟩
  obtain ⟨h1, eh1⟩ : ∃ h1, h1 = vm_up h a (RO a (u3 (ug g 0 0) (nI ([] : List Nat).length) (nI m.length) (nI y.length))) := ⟨_, rfl⟩
  obtain ⟨k1, F1⟩ := SY_g k eh1
  have st1 := ST_fr st F1 (fun q z => by unfold scr; omega)
  have G1 := RG_th G
  have F1 : fr h h1 (RF a) := fr_mono F1 (fun q z => by unfold RF; omega)
  refine vm_Th (lv' := [(0, .ref a), (1, .int (iZ z))]) (h' := h1) rfl eh1 ?_
  have K1 : RM h1 a t 0 w ou kn an rd kf af D dn wl wr := ⟨_, _, _, k1, G1, st1⟩
  have ol := st1.2.2.2.2.2.2.1
  by_cases c : 0 ≤ z ∧ z < (ou.length : Int)
  · obtain ⟨co, ⟨fo, eo, vo⟩, so⟩ := st1.2.2.2.2.1
    have v1 := vo z.toNat (by omega)
    refine vm_go rfl bX14_outx_5 oX14_outx_5 ⟨fun q => absurd ((iZ_lt0 hz).mp q) (by omega), fun _ => ⟨_, _, k1.1.1, rfl, ⟨fun _ => ?_, fun q => ?_⟩⟩⟩
    · refine vm_go rfl bX14_outx_21 oX14_outx_21 ⟨_, _, k1.1.1, rfl, ⟨2900, fo, eo, z.toNat, iZ_tn c.1, by omega, fun _ => ?_⟩⟩
      refine vm_go rfl bX14_outx_31 oX14_outx_31 ⟨fun _ => ?_, fun n => absurd c n, K1, F1⟩
      have e1 : fo z.toNat &&& 255 = nI (gb ou z.toNat) := by
        rw [v1.1, sb_and _ v1.2]
        congr 1
        have := sl_all so z.toNat (by omega)
        rwa [Nat.zero_add] at this
      exact congrArg (fun q => some (Value.int q)) e1
    · have q : ¬ iZ z < ug g 0 0 77 := q
      rw [G1.2.2.2.2.2.2.2.2, cz_lt hz (by omega)] at q
      omega
  · have fin : vm_T (vm_env l O f9) mX14_out 0 0 17 [(0, .ref a), (1, .int (iZ z))] [] h1 (fun r h' => (0 ≤ z ∧ z < (ou.length : Int) → r = some (.int (nI (gb ou z.toNat)))) ∧ (¬ (0 ≤ z ∧ z < (ou.length : Int)) → r = some (.int (-1))) ∧ RM h' a t 0 w ou kn an rd kf af D dn wl wr ∧ fr h h' (RF a)) := vm_go rfl bX14_outx_17 oX14_outx_17 (vm_go rfl bX14_outx_31 oX14_outx_31 ⟨fun n => absurd n c, fun _ => rfl, K1, F1⟩)
    refine vm_go rfl bX14_outx_5 oX14_outx_5 ⟨fun _ => fin, fun q => ⟨_, _, k1.1.1, rfl, ⟨fun q2 => ?_, fun _ => fin⟩⟩⟩
    have q2 : iZ z < ug g 0 0 77 := q2
    have q : ¬ iZ z < 0 := q
    rw [G1.2.2.2.2.2.2.2.2, cz_lt hz (by omega)] at q2
    rw [iZ_lt0 hz] at q
    omega
theorem rp_disk {z : Int} (hz : i32 z) (K : RM h a t th w ou kn an rd kf af D dn wl wr) : vm_Met (vm_env l O f9) mX14_disk 0 0 [.ref a, .int (iZ z)] h (fun r h' => (0 ≤ z ∧ z < 4096 → r = some (.int (nI (D z.toNat)))) ∧ (¬ (0 ≤ z ∧ z < 4096) → r = some (.int (-1))) ∧ RM h' a t 0 w ou kn an rd kf af D dn wl wr ∧ fr h h' (RF a)) := by
  obtain ⟨g, m, y, k, G, st⟩ := K
  have ao := k.1.2.1
  have la : a < 1099511627776 := by omega
  refine vm_met rfl (Nat.le_of_ble_eq_true rfl) ?_
  refine vm_go rfl bX14_diskx_0 oX14_diskx_0 ⟨_, k.1.1, la, show 0 < 89 by decide, trivial, ?_⟩
  obtain ⟨h1, eh1⟩ : ∃ h1, h1 = vm_up h a (RO a (u3 (ug g 0 0) (nI ([] : List Nat).length) (nI m.length) (nI y.length))) := ⟨_, rfl⟩
  obtain ⟨k1, F1⟩ := SY_g k eh1
  have st1 := ST_fr st F1 (fun q z => by unfold scr; omega)
  have G1 := RG_th G
  have F1 : fr h h1 (RF a) := fr_mono F1 (fun q z => by unfold RF; omega)
  refine vm_Th (lv' := [(0, .ref a), (1, .int (iZ z))]) (h' := h1) rfl eh1 ?_
  have K1 : RM h1 a t 0 w ou kn an rd kf af D dn wl wr := ⟨_, _, _, k1, G1, st1⟩
  by_cases c : 0 ≤ z ∧ z < 4096
  · obtain ⟨fo, eo, vo⟩ := st1.2.2.1
    have v1 := vo z.toNat (by omega)
    refine vm_go rfl bX14_diskx_5 oX14_diskx_5 ⟨fun q => absurd ((iZ_lt0 hz).mp q) (by omega), fun _ => ⟨fun _ => ?_, fun q => absurd ((cz_lt (n := 4096) hz (by decide)).mpr c.2) q⟩⟩
    refine vm_go rfl bX14_diskx_20 oX14_diskx_20 ⟨_, _, k1.1.1, rfl, ⟨4096, fo, eo, z.toNat, iZ_tn c.1, by omega, fun _ => ?_⟩⟩
    refine vm_go rfl bX14_diskx_30 oX14_diskx_30 ⟨fun _ => ?_, fun n => absurd c n, K1, F1⟩
    have e1 : fo z.toNat &&& 255 = nI (D z.toNat) := by rw [v1.1, sb_and _ v1.2]
    exact congrArg (fun q => some (Value.int q)) e1
  · have fin : vm_T (vm_env l O f9) mX14_disk 0 0 16 [(0, .ref a), (1, .int (iZ z))] [] h1 (fun r h' => (0 ≤ z ∧ z < 4096 → r = some (.int (nI (D z.toNat)))) ∧ (¬ (0 ≤ z ∧ z < 4096) → r = some (.int (-1))) ∧ RM h' a t 0 w ou kn an rd kf af D dn wl wr ∧ fr h h' (RF a)) := vm_go rfl bX14_diskx_16 oX14_diskx_16 (vm_go rfl bX14_diskx_30 oX14_diskx_30 ⟨fun n => absurd n c, fun _ => rfl, K1, F1⟩)
    refine vm_go rfl bX14_diskx_5 oX14_diskx_5 ⟨fun _ => fin, fun q => ⟨fun q2 => ?_, fun _ => fin⟩⟩
    have q2 := (cz_lt (n := 4096) hz (by decide)).mp q2
    have q : ¬ iZ z < 0 := q
    rw [iZ_lt0 hz] at q
    omega
theorem rp_end {z : Int} (hz : i32 z) (K : RM h a t th w ou kn an rd kf af D dn wl wr) : vm_Met (vm_env l O f9) mX14_end 0 0 [.ref a, .int (iZ z)] h (fun r h' => (0 ≤ z ∧ z ≤ (w.length : Int) → r = some (.int 1) ∧ RM h' a t 0 (w.take z.toNat) ou kn an rd kf af D dn wl wr) ∧ (¬ (0 ≤ z ∧ z ≤ (w.length : Int)) → r = some (.int 0) ∧ RM h' a t 0 w ou kn an rd kf af D dn wl wr) ∧ fr h h' (RF a)) := by
  obtain ⟨g, m, y, k, G, st⟩ := K
  have ao := k.1.2.1
  have la : a < 1099511627776 := by omega
  refine vm_met rfl (Nat.le_of_ble_eq_true rfl) ?_
  refine vm_go rfl bX14_endx_0 oX14_endx_0 ⟨_, k.1.1, la, show 0 < 89 by decide, trivial, ?_⟩
  obtain ⟨h1, eh1⟩ : ∃ h1, h1 = vm_up h a (RO a (u3 (ug g 0 0) (nI ([] : List Nat).length) (nI m.length) (nI y.length))) := ⟨_, rfl⟩
  obtain ⟨k1, F1⟩ := SY_g k eh1
  have st1 := ST_fr st F1 (fun q z => by unfold scr; omega)
  have G1 := RG_th G
  have F1 : fr h h1 (RF a) := fr_mono F1 (fun q z => by unfold RF; omega)
  refine vm_Th (lv' := [(0, .ref a), (1, .int (iZ z))]) (h' := h1) rfl eh1 ?_
  have K1 : RM h1 a t 0 w ou kn an rd kf af D dn wl wr := ⟨_, _, _, k1, G1, st1⟩
  have wl9 := st1.2.2.2.2.2.1
  by_cases c : 0 ≤ z ∧ z ≤ (w.length : Int)
  · refine vm_go rfl bX14_endx_5 oX14_endx_5 ⟨fun q => absurd ((iZ_lt0 hz).mp q) (by omega), fun _ => ⟨_, _, k1.1.1, rfl, ⟨fun _ => ?_, fun q => ?_⟩⟩⟩
    · refine vm_go rfl bX14_endx_19 oX14_endx_19 ⟨_, k1.1.1, la, show 75 < 89 by decide, trivial, ?_⟩
      obtain ⟨h2, eh2⟩ : ∃ h2, h2 = vm_up h1 a (RO a (u3 (ug (ug g 0 0) 75 (iZ z)) (nI ([] : List Nat).length) (nI m.length) (nI y.length))) := ⟨_, rfl⟩
      obtain ⟨k2, F2⟩ := SY_g k1 eh2
      have F2' : fr h h2 (RF a) := fr_trans F1 (fr_mono F2 (fun q z => by unfold RF; omega))
      have tk : (w.take z.toNat).length = z.toNat := by rw [List.length_take]; omega
      refine vm_Th (lv' := [(0, .ref a), (1, .int (iZ z))]) (h' := h2) rfl eh2 ?_
      refine vm_go rfl bX14_endx_24 oX14_endx_24 ⟨rfl, fun _ => ⟨rfl, _, _, _, k2, ⟨G1.1, G1.2.1, G1.2.2.1, G1.2.2.2.1, G1.2.2.2.2.1, G1.2.2.2.2.2.1, G1.2.2.2.2.2.2.1, by rw [tk, ← iZ_tn c.1]; rfl, G1.2.2.2.2.2.2.2.2⟩, ?_⟩, fun n => absurd c n, F2'⟩
      have st2 := ST_fr st1 F2 (fun q z => by unfold scr; omega)
      obtain ⟨ct, bt, et⟩ := st2.2.2.2.1
      refine ST_tp st2 (S := fun _ => False) fr_refl (fun q z => z.elim) ⟨ct, bt, ?_⟩ (by omega)
      rw [tk]
      conv => rhs; rw [← et]
      unfold sl
      rw [← List.map_take, List.take_range, Nat.min_eq_left (by omega)]
    · have q : ¬ iZ z ≤ ug g 0 0 75 := q
      rw [G1.2.2.2.2.2.2.2.1, cz_le hz (by omega)] at q
      omega
  · have fin : vm_T (vm_env l O f9) mX14_end 0 0 17 [(0, .ref a), (1, .int (iZ z))] [] h1 (fun r h' => (0 ≤ z ∧ z ≤ (w.length : Int) → r = some (.int 1) ∧ RM h' a t 0 (w.take z.toNat) ou kn an rd kf af D dn wl wr) ∧ (¬ (0 ≤ z ∧ z ≤ (w.length : Int)) → r = some (.int 0) ∧ RM h' a t 0 w ou kn an rd kf af D dn wl wr) ∧ fr h h' (RF a)) := vm_go rfl bX14_endx_17 oX14_endx_17 ⟨rfl, fun n => absurd n c, fun _ => ⟨rfl, K1⟩, F1⟩
    refine vm_go rfl bX14_endx_5 oX14_endx_5 ⟨fun _ => fin, fun q => ⟨_, _, k1.1.1, rfl, ⟨fun q2 => ?_, fun _ => fin⟩⟩⟩
    have q2 : iZ z ≤ ug g 0 0 75 := q2
    have q : ¬ iZ z < 0 := q
    rw [G1.2.2.2.2.2.2.2.1, cz_le hz (by omega)] at q2
    rw [iZ_lt0 hz] at q
    omega
theorem rp_cut {z : Int} (hz : i32 z) (K : RM h a t th w ou kn an rd kf af D dn wl wr) : vm_Met (vm_env l O f9) mX14_cut 0 0 [.ref a, .int (iZ z)] h (fun r h' => ((0 ≤ z ∧ z ≤ 1000) ∧ dn = false → r = some (.int 1) ∧ RM h' a t 0 w ou kn an rd kf af D dn z wr) ∧ (¬ ((0 ≤ z ∧ z ≤ 1000) ∧ dn = false) → r = some (.int 0) ∧ RM h' a t 0 w ou kn an rd kf af D dn wl wr) ∧ fr h h' (RF a)) := by
  obtain ⟨g, m, y, k, G, st⟩ := K
  have ao := k.1.2.1
  have la : a < 1099511627776 := by omega
  refine vm_met rfl (Nat.le_of_ble_eq_true rfl) ?_
  refine vm_go rfl bX14_cutx_0 oX14_cutx_0 ⟨_, k.1.1, la, show 0 < 89 by decide, trivial, ?_⟩
  obtain ⟨h1, eh1⟩ : ∃ h1, h1 = vm_up h a (RO a (u3 (ug g 0 0) (nI ([] : List Nat).length) (nI m.length) (nI y.length))) := ⟨_, rfl⟩
  obtain ⟨k1, F1⟩ := SY_g k eh1
  have st1 := ST_fr st F1 (fun q z => by unfold scr; omega)
  have G1 := RG_th G
  have F1 : fr h h1 (RF a) := fr_mono F1 (fun q z => by unfold RF; omega)
  refine vm_Th (lv' := [(0, .ref a), (1, .int (iZ z))]) (h' := h1) rfl eh1 ?_
  have K1 : RM h1 a t 0 w ou kn an rd kf af D dn wl wr := ⟨_, _, _, k1, G1, st1⟩
  by_cases c : (0 ≤ z ∧ z ≤ 1000) ∧ dn = false
  · have e9 : ug g 0 0 73 = 0 := by rw [G1.2.2.2.2.2.2.1, c.2]; rfl
    refine vm_go rfl bX14_cutx_5 oX14_cutx_5 ⟨fun q => absurd ((iZ_lt0 hz).mp q) (by omega), fun _ => ⟨fun q => absurd ((cz_gt (n := 1000) hz (by decide)).mp q) (by omega), fun _ => ⟨_, _, k1.1.1, rfl, ⟨fun _ => ?_, fun q => absurd e9 q⟩⟩⟩⟩
    refine vm_go rfl bX14_cutx_25 oX14_cutx_25 ⟨_, k1.1.1, la, show 71 < 89 by decide, trivial, ?_⟩
    obtain ⟨h2, eh2⟩ : ∃ h2, h2 = vm_up h1 a (RO a (u3 (ug (ug g 0 0) 71 (iZ z)) (nI ([] : List Nat).length) (nI m.length) (nI y.length))) := ⟨_, rfl⟩
    obtain ⟨k2, F2⟩ := SY_g k1 eh2
    have F2' : fr h h2 (RF a) := fr_trans F1 (fr_mono F2 (fun q z => by unfold RF; omega))
    refine vm_Th (lv' := [(0, .ref a), (1, .int (iZ z))]) (h' := h2) rfl eh2 ?_
    exact vm_go rfl bX14_cutx_30 oX14_cutx_30 ⟨rfl, fun _ => ⟨rfl, _, _, _, k2, ⟨G1.1, G1.2.1, G1.2.2.1, G1.2.2.2.1, rfl, G1.2.2.2.2.2⟩, ST_fr st1 F2 (fun q z => by unfold scr; omega)⟩, fun n => absurd c n, F2'⟩
  · have fin : vm_T (vm_env l O f9) mX14_cut 0 0 23 [(0, .ref a), (1, .int (iZ z))] [] h1 (fun r h' => ((0 ≤ z ∧ z ≤ 1000) ∧ dn = false → r = some (.int 1) ∧ RM h' a t 0 w ou kn an rd kf af D dn z wr) ∧ (¬ ((0 ≤ z ∧ z ≤ 1000) ∧ dn = false) → r = some (.int 0) ∧ RM h' a t 0 w ou kn an rd kf af D dn wl wr) ∧ fr h h' (RF a)) := vm_go rfl bX14_cutx_23 oX14_cutx_23 ⟨rfl, fun n => absurd n c, fun _ => ⟨rfl, K1⟩, F1⟩
    refine vm_go rfl bX14_cutx_5 oX14_cutx_5 ⟨fun _ => fin, fun q => ⟨fun _ => fin, fun q2 => ⟨_, _, k1.1.1, rfl, ⟨fun q3 => ?_, fun _ => fin⟩⟩⟩⟩
    have q : ¬ iZ z < 0 := q
    have q2 : ¬ nI 1000 < iZ z := q2
    have q3 : ug g 0 0 73 = 0 := q3
    rw [iZ_lt0 hz] at q
    rw [cz_gt hz (by decide)] at q2
    rw [G1.2.2.2.2.2.2.1] at q3
    refine absurd ⟨by omega, ?_⟩ c
    cases dn with
    | false => rfl
    | true => exact absurd q3 (by decide)
theorem rp_used (K : RM h a t th w ou kn an rd kf af D dn wl wr) : vm_Met (vm_env l O f9) mX14_used 0 0 [.ref a] h (fun r h' => r = some (.int (nI w.length)) ∧ RM h' a t 0 [] ou kn an rd kf af D dn wl wr ∧ rl9 h' 1208 (a + 153) w ∧ fr h h' (fun q => q = a)) := by
  obtain ⟨g, m, y, k, G, st⟩ := K
  have ao := k.1.2.1
  have la : a < 1099511627776 := by omega
  refine vm_met rfl (Nat.le_of_ble_eq_true rfl) ?_
  refine vm_go rfl bX14_usedx_0 oX14_usedx_0 ⟨_, k.1.1, la, show 0 < 89 by decide, trivial, ?_⟩
  obtain ⟨h1, eh1⟩ : ∃ h1, h1 = vm_up h a (RO a (u3 (ug g 0 0) (nI ([] : List Nat).length) (nI m.length) (nI y.length))) := ⟨_, rfl⟩
  obtain ⟨k1, F1⟩ := SY_g k eh1
  have st1 := ST_fr st F1 (fun q z => by unfold scr; omega)
  have G1 := RG_th G
  have F1' : fr h h1 (RF a) := fr_mono F1 (fun q z => by unfold RF; omega)
  refine vm_Th (lv' := [(0, .ref a)]) (h' := h1) rfl eh1 ?_
  refine vm_go rfl bX14_usedx_5 oX14_usedx_5 ⟨_, _, k1.1.1, rfl, ?_⟩
  refine vm_Th (lv' := [(0, .ref a), (1, .int (nI w.length))]) (h' := h1) (by rw [← G1.2.2.2.2.2.2.2.1]; rfl) rfl ?_
  refine vm_go rfl bX14_usedx_10 oX14_usedx_10 ⟨_, k1.1.1, la, show 75 < 89 by decide, trivial, ?_⟩
  obtain ⟨h2, eh2⟩ : ∃ h2, h2 = vm_up h1 a (RO a (u3 (ug (ug g 0 0) 75 0) (nI ([] : List Nat).length) (nI m.length) (nI y.length))) := ⟨_, rfl⟩
  obtain ⟨k2, F2⟩ := SY_g k1 eh2
  refine vm_Th (lv' := [(0, .ref a), (1, .int (nI w.length))]) (h' := h2) rfl eh2 ?_
  have st2 := ST_fr st1 F2 (fun q z => by unfold scr; omega)
  have tw := st2.2.2.2.1
  obtain ⟨ct, bt, _⟩ := id tw
  exact vm_go rfl bX14_usedx_15 oX14_usedx_15 ⟨rfl, ⟨_, _, _, k2, ⟨G1.1, G1.2.1, G1.2.2.1, G1.2.2.2.1, G1.2.2.2.2.1, G1.2.2.2.2.2.1, G1.2.2.2.2.2.2.1, rfl, G1.2.2.2.2.2.2.2.2⟩, ST_tp st2 (S := fun _ => False) fr_refl (fun q z => z.elim) ⟨ct, bt, rfl⟩ (by decide)⟩, tw, fr_trans F1 F2⟩
end
