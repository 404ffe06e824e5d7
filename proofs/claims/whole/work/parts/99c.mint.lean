/-! a VeilMint at v: its cells v .. v+749, its KEYS and ASKINGS from lo on -/
/-- a KEY: TYPE, LEN, salt's size, live, what is shown, the secret, the KEY ID -/
abbrev aK : Type := Nat × Nat × Nat × Bool × List Nat × List Nat × List Nat
abbrev kty (x : aK) : Nat := x.1
abbrev ksz (x : aK) : Nat := x.2.1
abbrev ksa (x : aK) : Nat := x.2.2.1
abbrev klv (x : aK) : Bool := x.2.2.2.1
abbrev ksh (x : aK) : List Nat := x.2.2.2.2.1
abbrev kse (x : aK) : List Nat := x.2.2.2.2.2.1
abbrev kid (x : aK) : List Nat := x.2.2.2.2.2.2
/-- an ASKING: its KEY, open, INPUT, the blind -/
abbrev aA : Type := Nat × Bool × List Nat × Nat
abbrev aky (x : aA) : Nat := x.1
abbrev aop (x : aA) : Bool := x.2.1
abbrev ain (x : aA) : List Nat := x.2.2.1
abbrev abl (x : aA) : Nat := x.2.2.2
def kx (x : aK) : Nat := if kty x = 1 then 4 else 27
theorem kx_le (x : aK) : 4 ≤ kx x ∧ kx x ≤ 27 := by unfold kx; split <;> omega
/-- a row of bytes -/
def bw (h : vm_H) (a : Nat) (w : List Nat) : Prop := bv h w.length a (gb w)
theorem bw_cg {h h' : vm_H} {a : Nat} {w : List Nat} (k : bw h a w) (e : h'.2 a = h.2 a) : bw h' a w := bv_cg k e
theorem bv_ext {h : vm_H} {n a : Nat} {b c : Nat → Nat} (k : bv h n a b) (e : ∀ j, j < n → c j = b j) : bv h n a c := by
  obtain ⟨f, e1, v⟩ := k
  exact ⟨f, e1, fun j hj => by rw [e j hj]; exact v j hj⟩
theorem bw_of {h : vm_H} {n a : Nat} {b : Nat → Nat} (k : bv h n a b) : bw h a (sl b 0 n) := by
  unfold bw
  rw [sl_len]
  exact bv_ext k (fun j hj => by rw [gb_sl hj, Nat.zero_add])
theorem bw_n {h : vm_H} {n a : Nat} {w : List Nat} (k : bw h a w) (hn : w.length = n) : bv h n a (gb w) := by
  rw [← hn]; exact k
/-- what is true of a KEY -/
def KI (x : aK) : Prop := ok8 (ksh x) ∧ ok8 (kse x) ∧ ok8 (kid x) ∧ (kid x).length = 32 ∧ (
  (kty x = 1 ∧ ksz x = 48 ∧ ksa x = 0 ∧ (kse x).length = 48 ∧ (0 < bn (gb (kse x)) 0 48 ∧ bn (gb (kse x)) 0 48 < cQ) ∧ ksh x = ptO (ecM (-3) fiv (bn (gb (kse x)) 0 48) gP)) ∨
  (kty x = 2 ∧ kOK (gb (ksh x ++ kse x ++ [ksa x])) (2 * ksz x + 4) ∧ (ksh x).length = ksz x + 3 ∧ (kse x).length = ksz x))
/-- a KEY in the heap -/
def KY (h : vm_H) (v e : Nat) (x : aK) : Prop := KI x ∧ (
  (kty x = 1 ∧ KO h (e + 2) 1 48 49 0 (e + 1) e (e + 3) (v + 13 + 661) (bi (klv x)) ∧ bw h e (kse x) ∧ bw h (e + 1) (ksh x) ∧ bw h (e + 3) (kid x)) ∨
  (kty x = 2 ∧ (∃ ni ri, K2 h (e + 2) (ksz x) (ksa x) e (e + 1) (e + 26) (bi (klv x)) (Am (e + 3) (e + 4)) ni ri (gb (ksh x)) (gb (kse x))) ∧ bw h (e + 26) (kid x)))
theorem Am_in {e i : Nat} (h : i < 24) (h5 : i ≠ 5) : e + 3 ≤ Am (e + 3) (e + 4) i ∧ Am (e + 3) (e + 4) i < e + 26 := by
  unfold Am
  repeat' split
  all_goals omega
theorem K2_cg {h h' : vm_H} {K len s sh se ki : Nat} {lv : Int32} {A : Nat → Nat} {ni ri : Nat} {shb seb : Nat → Nat} (k : K2 h K len s sh se ki lv A ni ri shb seb) (n0 : h'.2 K = h.2 K) (n1 : h'.2 sh = h.2 sh) (n2 : h'.2 se = h.2 se) (n3 : ∀ i, i < 24 → i ≠ 5 → h'.2 (A i) = h.2 (A i)) : K2 h' K len s sh se ki lv A ni ri shb seb := by
  obtain ⟨k1, k2, k3, k4, k5, k6⟩ := k
  exact ⟨n0.trans k1, bv_cg k2 n1, bv_cg k3 n2, k4, MD_cg k5 (fun i hi h5 => n3 i hi (h5.resolve_right (by decide))), k6⟩
theorem KY_cg {h h' : vm_H} {v e : Nat} {x : aK} (k : KY h v e x) (c : ∀ q, e ≤ q → q < e + kx x → h'.2 q = h.2 q) : KY h' v e x := by
  obtain ⟨ki, k⟩ := k
  refine ⟨ki, ?_⟩
  rcases k with ⟨t, k1, k2, k3, k4⟩ | ⟨t, ⟨ni, ri, k1⟩, k2⟩
  · have ex : kx x = 4 := if_pos t
    rw [ex] at c
    exact Or.inl ⟨t, (c _ (by omega) (by omega)).trans k1, bw_cg k2 (c _ (by omega) (by omega)), bw_cg k3 (c _ (by omega) (by omega)), bw_cg k4 (c _ (by omega) (by omega))⟩
  · have ex : kx x = 27 := if_neg (by omega)
    rw [ex] at c
    refine Or.inr ⟨t, ⟨ni, ri, K2_cg k1 (c _ (by omega) (by omega)) (c _ (by omega) (by omega)) (c _ (by omega) (by omega)) (fun i hi h5 => ?_)⟩, bw_cg k2 (c _ (by omega) (by omega))⟩
    have := Am_in (e := e) hi h5
    exact c _ (by omega) (by omega)
/-- what is true of an ASKING of the KEY y; its blinded bytes and the inverse of the blind -/
noncomputable def AI (st3 kk3 : Nat → Int64) (x : aA) (y : aK) (bl iv : List Nat) : Prop := ok8 (ain x) ∧ (ain x).length = 98 ∧ (
  (kty y = 1 ∧ (0 < abl x ∧ abl x < cQ) ∧ ecM (-3) fiv (abl x) (htg st3 kk3 (ain x)) ≠ none ∧ bl = ptO (ecM (-3) fiv (abl x) (htg st3 kk3 (ain x))) ∧ ∃ i, i < cQ ∧ abl x * i % cQ = 1 ∧ iv = wb i 48) ∨
  (kty y = 2 ∧ abl x < bn (gb (ksh y)) 0 (ksz y) ∧ bl.length = ksz y ∧ ∃ i, i < bn (gb (ksh y)) 0 (ksz y) ∧ abl x * i % bn (gb (ksh y)) 0 (ksz y) = 1 ∧ iv = wb i (ksz y)))
def AY (st3 kk3 : Nat → Int64) (h : vm_H) (f K : Nat) (x : aA) (y : aK) : Prop := AO h f K (f + 1) (f + 2) (f + 3) (bi (aop x)) ∧ bw h (f + 1) (ain x) ∧ ∃ bl iv, AI st3 kk3 x y bl iv ∧ bw h (f + 2) bl ∧ bw h (f + 3) iv
theorem AY_cg {st3 kk3 : Nat → Int64} {h h' : vm_H} {f K : Nat} {x : aA} {y : aK} (k : AY st3 kk3 h f K x y) (c : ∀ q, f ≤ q → q < f + 4 → h'.2 q = h.2 q) : AY st3 kk3 h' f K x y := by
  obtain ⟨k1, k2, bl, iv, k3, k4, k5⟩ := k
  exact ⟨(c _ (by omega) (by omega)).trans k1, bw_cg k2 (c _ (by omega) (by omega)), bl, iv, k3, bw_cg k4 (c _ (by omega) (by omega)), bw_cg k5 (c _ (by omega) (by omega))⟩
/-- the KEYS -/
def KS (v lo kn : Nat) (ke : Nat → Nat) (kf : Nat → aK) (h : vm_H) : Prop := kn ≤ 6 ∧ (∀ i, i < kn → (lo ≤ ke i ∧ ke i + kx (kf i) ≤ h.1) ∧ KY h v (ke i) (kf i)) ∧ ∀ i j, i < j → j < kn → ke i + kx (kf i) ≤ ke j
/-- the ASKINGS -/
def AS (st3 kk3 : Nat → Int64) (lo kn an : Nat) (ke ae : Nat → Nat) (kf : Nat → aK) (af : Nat → aA) (h : vm_H) : Prop := an ≤ 60 ∧ (∀ i, i < an → (lo ≤ ae i ∧ ae i + 4 ≤ h.1) ∧ aky (af i) < kn ∧ AY st3 kk3 h (ae i) (ke (aky (af i)) + 2) (af i) (kf (aky (af i)))) ∧ (∀ i j, i < j → j < an → ae i + 4 ≤ ae j) ∧ ∀ i j, i < an → j < kn → ae i + 4 ≤ ke j ∨ ke j + kx (kf j) ≤ ae i
theorem KS_cg {v lo kn : Nat} {ke : Nat → Nat} {kf : Nat → aK} {h h' : vm_H} (k : KS v lo kn ke kf h) (h1 : h.1 ≤ h'.1) (c : ∀ q, lo ≤ q → q < h.1 → h'.2 q = h.2 q) : KS v lo kn ke kf h' :=
  ⟨k.1, fun i hi => ⟨⟨(k.2.1 i hi).1.1, Nat.le_trans (k.2.1 i hi).1.2 h1⟩, KY_cg (k.2.1 i hi).2 (fun q z1 z2 => c q (Nat.le_trans (k.2.1 i hi).1.1 z1) (Nat.lt_of_lt_of_le z2 (k.2.1 i hi).1.2))⟩, k.2.2⟩
theorem AS_cg {st3 kk3 : Nat → Int64} {lo kn an : Nat} {ke ae : Nat → Nat} {kf : Nat → aK} {af : Nat → aA} {h h' : vm_H} (k : AS st3 kk3 lo kn an ke ae kf af h) (h1 : h.1 ≤ h'.1) (c : ∀ q, lo ≤ q → q < h.1 → h'.2 q = h.2 q) : AS st3 kk3 lo kn an ke ae kf af h' :=
  ⟨k.1, fun i hi => ⟨⟨(k.2.1 i hi).1.1, Nat.le_trans (k.2.1 i hi).1.2 h1⟩, (k.2.1 i hi).2.1, AY_cg (k.2.1 i hi).2.2 (fun q z1 z2 => c q (Nat.le_trans (k.2.1 i hi).1.1 z1) (Nat.lt_of_lt_of_le z2 (k.2.1 i hi).1.2))⟩, k.2.2⟩
theorem row_cg {h h' : vm_H} {R B n s : Nat} {b : Nat → Nat} (k : row h R B n b s) (e1 : h'.2 R = h.2 R) (e2 : h'.2 B = h.2 B) : row h' R B n b s := ⟨e1.trans k.1, bv_cg k.2.1 e2, k.2.2⟩
theorem rwl_cg {h h' : vm_H} {R B n : Nat} {w : List Nat} (k : rwl h R B n w) (e1 : h'.2 R = h.2 R) (e2 : h'.2 B = h.2 B) : rwl h' R B n w := by
  obtain ⟨b, k1, k2⟩ := k
  exact ⟨b, row_cg k1 e1 e2, k2⟩
theorem dsk_cg {h h' : vm_H} {K B : Nat} {D : Nat → Nat} {dn wl wr : Int32} (k : dsk h K B D dn wl wr) (e1 : h'.2 K = h.2 K) (e2 : h'.2 B = h.2 B) : dsk h' K B D dn wl wr := ⟨e1.trans k.1, bv_cg k.2.1 e2, k.2.2⟩
/-- its fields -/
def MO (v kn an rd : Nat) : vm_Ob := .inr (11, [.ref (v + 1), .ref (v + 3), .ref (v + 5), .ref (v + 7), .ref (v + 13), .ref (v + 724), .ref (v + 746), .ref (v + 748), .ref (v + 749), .int (nI kn), .int (nI an), .int (nI rd)])
def KQR (kn : Nat) (ke : Nat → Nat) : vm_Ob := .inl (.object "VeilMint$Key", 6, .inr (.inr (.inr (.inr (fun i => if i < kn then some (ke i + 2) else none)))))
def AQR (an : Nat) (ae : Nat → Nat) : vm_Ob := .inl (.object "VeilMint$Asking", 60, .inr (.inr (.inr (.inr (fun i => if i < an then some (ae i) else none)))))
/-- its parts but KEYS and ASKINGS -/
def MB (v : Nat) (tb : Nat → Nat) (ts : Nat) (ou : List Nat) (kn an rd : Nat) (ke ae : Nat → Nat) (D : Nat → Nat) (dn : Bool) (wl : Int) (wr : Nat) (h : vm_H) : Prop :=
  h.2 v = MO v kn an rd ∧ row h (v + 1) (v + 2) 1200 tb ts ∧ rwl h (v + 3) (v + 4) 1168 ou ∧ (∃ w, rwl h (v + 5) (v + 6) 1168 w) ∧ HA h (v + 7) (fun i => v + 8 + i) ∧ (∃ W B V g, OPc (v + 13) h W B V g) ∧ (∃ w B, RSc (v + 724) h w B) ∧ dsk h (v + 746) (v + 747) D (bi dn) (iZ wl) (nI wr) ∧ h.2 (v + 748) = KQR kn ke ∧ h.2 (v + 749) = AQR an ae
def MV (st3 kk3 : Nat → Int64) (v lo : Nat) (tb : Nat → Nat) (ts : Nat) (ou : List Nat) (kn an rd : Nat) (ke ae : Nat → Nat) (kf : Nat → aK) (af : Nat → aA) (D : Nat → Nat) (dn : Bool) (wl : Int) (wr : Nat) (h : vm_H) : Prop :=
  (v + 3000 < 1099511627776 ∧ v + 750 ≤ lo ∧ lo ≤ h.1) ∧ MB v tb ts ou kn an rd ke ae D dn wl wr h ∧ KS v lo kn ke kf h ∧ AS st3 kk3 lo kn an ke ae kf af h
section
variable {v lo ts kn an rd wr : Nat} {tb : Nat → Nat} {ou : List Nat} {ke ae : Nat → Nat} {kf : Nat → aK} {af : Nat → aA} {D : Nat → Nat} {dn : Bool} {wl : Int} {st3 kk3 : Nat → Int64} {h h' : vm_H}
theorem MB_cg (k : MB v tb ts ou kn an rd ke ae D dn wl wr h) (e : ∀ q, v ≤ q → q < v + 750 → h'.2 q = h.2 q) : MB v tb ts ou kn an rd ke ae D dn wl wr h' := by
  obtain ⟨k0, k1, k2, k3, k4, k5, k6, k7, k8, k9⟩ := k
  exact ⟨(e v (by omega) (by omega)).trans k0, row_cg k1 (e (v + 1) (by omega) (by omega)) (e (v + 2) (by omega) (by omega)), rwl_cg k2 (e (v + 3) (by omega) (by omega)) (e (v + 4) (by omega) (by omega)), k3.imp (fun w k => rwl_cg k (e (v + 5) (by omega) (by omega)) (e (v + 6) (by omega) (by omega))), HA_fr k4 (e (v + 7) (by omega) (by omega)) (fun i hi => e _ (by omega) (by omega)), (by obtain ⟨W, B, V, g, k⟩ := k5; exact ⟨W, B, V, g, OP_out k (fun q z1 z2 => e q (by omega) (by omega))⟩), (by obtain ⟨w, B, k⟩ := k6; exact ⟨w, B, RS_out k (fun q z1 z2 => e q (by omega) (by omega))⟩), dsk_cg k7 (e (v + 746) (by omega) (by omega)) (e (v + 747) (by omega) (by omega)), (e (v + 748) (by omega) (by omega)).trans k8, (e (v + 749) (by omega) (by omega)).trans k9⟩
theorem MB_obj {rd' : Nat} (k : MB v tb ts ou kn an rd ke ae D dn wl wr h) (e : ∀ q, v ≤ q → q < v + 750 → q < v + 0 ∨ v + 1 ≤ q → h'.2 q = h.2 q) (n : h'.2 v = MO v kn an rd') : MB v tb ts ou kn an rd' ke ae D dn wl wr h' := by
  obtain ⟨k0, k1, k2, k3, k4, k5, k6, k7, k8, k9⟩ := k
  exact ⟨n, row_cg k1 (e (v + 1) (by omega) (by omega) (by omega)) (e (v + 2) (by omega) (by omega) (by omega)), rwl_cg k2 (e (v + 3) (by omega) (by omega) (by omega)) (e (v + 4) (by omega) (by omega) (by omega)), k3.imp (fun w k => rwl_cg k (e (v + 5) (by omega) (by omega) (by omega)) (e (v + 6) (by omega) (by omega) (by omega))), HA_fr k4 (e (v + 7) (by omega) (by omega) (by omega)) (fun i hi => e _ (by omega) (by omega) (by omega)), (by obtain ⟨W, B, V, g, k⟩ := k5; exact ⟨W, B, V, g, OP_out k (fun q z1 z2 => e q (by omega) (by omega) (by omega))⟩), (by obtain ⟨w, B, k⟩ := k6; exact ⟨w, B, RS_out k (fun q z1 z2 => e q (by omega) (by omega) (by omega))⟩), dsk_cg k7 (e (v + 746) (by omega) (by omega) (by omega)) (e (v + 747) (by omega) (by omega) (by omega)), (e (v + 748) (by omega) (by omega) (by omega)).trans k8, (e (v + 749) (by omega) (by omega) (by omega)).trans k9⟩
theorem MB_tape {tb' : Nat → Nat} {ts' : Nat} (k : MB v tb ts ou kn an rd ke ae D dn wl wr h) (e : ∀ q, v ≤ q → q < v + 750 → q < v + 1 ∨ v + 3 ≤ q → h'.2 q = h.2 q) (n : row h' (v + 1) (v + 2) 1200 tb' ts') : MB v tb' ts' ou kn an rd ke ae D dn wl wr h' := by
  obtain ⟨k0, k1, k2, k3, k4, k5, k6, k7, k8, k9⟩ := k
  exact ⟨(e v (by omega) (by omega) (by omega)).trans k0, n, rwl_cg k2 (e (v + 3) (by omega) (by omega) (by omega)) (e (v + 4) (by omega) (by omega) (by omega)), k3.imp (fun w k => rwl_cg k (e (v + 5) (by omega) (by omega) (by omega)) (e (v + 6) (by omega) (by omega) (by omega))), HA_fr k4 (e (v + 7) (by omega) (by omega) (by omega)) (fun i hi => e _ (by omega) (by omega) (by omega)), (by obtain ⟨W, B, V, g, k⟩ := k5; exact ⟨W, B, V, g, OP_out k (fun q z1 z2 => e q (by omega) (by omega) (by omega))⟩), (by obtain ⟨w, B, k⟩ := k6; exact ⟨w, B, RS_out k (fun q z1 z2 => e q (by omega) (by omega) (by omega))⟩), dsk_cg k7 (e (v + 746) (by omega) (by omega) (by omega)) (e (v + 747) (by omega) (by omega) (by omega)), (e (v + 748) (by omega) (by omega) (by omega)).trans k8, (e (v + 749) (by omega) (by omega) (by omega)).trans k9⟩
theorem MB_left {ou' : List Nat} (k : MB v tb ts ou kn an rd ke ae D dn wl wr h) (e : ∀ q, v ≤ q → q < v + 750 → q < v + 3 ∨ v + 5 ≤ q → h'.2 q = h.2 q) (n : rwl h' (v + 3) (v + 4) 1168 ou') : MB v tb ts ou' kn an rd ke ae D dn wl wr h' := by
  obtain ⟨k0, k1, k2, k3, k4, k5, k6, k7, k8, k9⟩ := k
  exact ⟨(e v (by omega) (by omega) (by omega)).trans k0, row_cg k1 (e (v + 1) (by omega) (by omega) (by omega)) (e (v + 2) (by omega) (by omega) (by omega)), n, k3.imp (fun w k => rwl_cg k (e (v + 5) (by omega) (by omega) (by omega)) (e (v + 6) (by omega) (by omega) (by omega))), HA_fr k4 (e (v + 7) (by omega) (by omega) (by omega)) (fun i hi => e _ (by omega) (by omega) (by omega)), (by obtain ⟨W, B, V, g, k⟩ := k5; exact ⟨W, B, V, g, OP_out k (fun q z1 z2 => e q (by omega) (by omega) (by omega))⟩), (by obtain ⟨w, B, k⟩ := k6; exact ⟨w, B, RS_out k (fun q z1 z2 => e q (by omega) (by omega) (by omega))⟩), dsk_cg k7 (e (v + 746) (by omega) (by omega) (by omega)) (e (v + 747) (by omega) (by omega) (by omega)), (e (v + 748) (by omega) (by omega) (by omega)).trans k8, (e (v + 749) (by omega) (by omega) (by omega)).trans k9⟩
theorem MB_drf  (k : MB v tb ts ou kn an rd ke ae D dn wl wr h) (e : ∀ q, v ≤ q → q < v + 750 → q < v + 5 ∨ v + 7 ≤ q → h'.2 q = h.2 q) (n : ∃ w, rwl h' (v + 5) (v + 6) 1168 w) : MB v tb ts ou kn an rd ke ae D dn wl wr h' := by
  obtain ⟨k0, k1, k2, k3, k4, k5, k6, k7, k8, k9⟩ := k
  exact ⟨(e v (by omega) (by omega) (by omega)).trans k0, row_cg k1 (e (v + 1) (by omega) (by omega) (by omega)) (e (v + 2) (by omega) (by omega) (by omega)), rwl_cg k2 (e (v + 3) (by omega) (by omega) (by omega)) (e (v + 4) (by omega) (by omega) (by omega)), n, HA_fr k4 (e (v + 7) (by omega) (by omega) (by omega)) (fun i hi => e _ (by omega) (by omega) (by omega)), (by obtain ⟨W, B, V, g, k⟩ := k5; exact ⟨W, B, V, g, OP_out k (fun q z1 z2 => e q (by omega) (by omega) (by omega))⟩), (by obtain ⟨w, B, k⟩ := k6; exact ⟨w, B, RS_out k (fun q z1 z2 => e q (by omega) (by omega) (by omega))⟩), dsk_cg k7 (e (v + 746) (by omega) (by omega) (by omega)) (e (v + 747) (by omega) (by omega) (by omega)), (e (v + 748) (by omega) (by omega) (by omega)).trans k8, (e (v + 749) (by omega) (by omega) (by omega)).trans k9⟩
theorem MB_hash  (k : MB v tb ts ou kn an rd ke ae D dn wl wr h) (e : ∀ q, v ≤ q → q < v + 750 → q < v + 7 ∨ v + 13 ≤ q → h'.2 q = h.2 q) (n : HA h' (v + 7) (fun i => v + 8 + i)) : MB v tb ts ou kn an rd ke ae D dn wl wr h' := by
  obtain ⟨k0, k1, k2, k3, k4, k5, k6, k7, k8, k9⟩ := k
  exact ⟨(e v (by omega) (by omega) (by omega)).trans k0, row_cg k1 (e (v + 1) (by omega) (by omega) (by omega)) (e (v + 2) (by omega) (by omega) (by omega)), rwl_cg k2 (e (v + 3) (by omega) (by omega) (by omega)) (e (v + 4) (by omega) (by omega) (by omega)), k3.imp (fun w k => rwl_cg k (e (v + 5) (by omega) (by omega) (by omega)) (e (v + 6) (by omega) (by omega) (by omega))), n, (by obtain ⟨W, B, V, g, k⟩ := k5; exact ⟨W, B, V, g, OP_out k (fun q z1 z2 => e q (by omega) (by omega) (by omega))⟩), (by obtain ⟨w, B, k⟩ := k6; exact ⟨w, B, RS_out k (fun q z1 z2 => e q (by omega) (by omega) (by omega))⟩), dsk_cg k7 (e (v + 746) (by omega) (by omega) (by omega)) (e (v + 747) (by omega) (by omega) (by omega)), (e (v + 748) (by omega) (by omega) (by omega)).trans k8, (e (v + 749) (by omega) (by omega) (by omega)).trans k9⟩
theorem MB_opr  (k : MB v tb ts ou kn an rd ke ae D dn wl wr h) (e : ∀ q, v ≤ q → q < v + 750 → q < v + 13 ∨ v + 724 ≤ q → h'.2 q = h.2 q) (n : ∃ W B V g, OPc (v + 13) h' W B V g) : MB v tb ts ou kn an rd ke ae D dn wl wr h' := by
  obtain ⟨k0, k1, k2, k3, k4, k5, k6, k7, k8, k9⟩ := k
  exact ⟨(e v (by omega) (by omega) (by omega)).trans k0, row_cg k1 (e (v + 1) (by omega) (by omega) (by omega)) (e (v + 2) (by omega) (by omega) (by omega)), rwl_cg k2 (e (v + 3) (by omega) (by omega) (by omega)) (e (v + 4) (by omega) (by omega) (by omega)), k3.imp (fun w k => rwl_cg k (e (v + 5) (by omega) (by omega) (by omega)) (e (v + 6) (by omega) (by omega) (by omega))), HA_fr k4 (e (v + 7) (by omega) (by omega) (by omega)) (fun i hi => e _ (by omega) (by omega) (by omega)), n, (by obtain ⟨w, B, k⟩ := k6; exact ⟨w, B, RS_out k (fun q z1 z2 => e q (by omega) (by omega) (by omega))⟩), dsk_cg k7 (e (v + 746) (by omega) (by omega) (by omega)) (e (v + 747) (by omega) (by omega) (by omega)), (e (v + 748) (by omega) (by omega) (by omega)).trans k8, (e (v + 749) (by omega) (by omega) (by omega)).trans k9⟩
theorem MB_rsa  (k : MB v tb ts ou kn an rd ke ae D dn wl wr h) (e : ∀ q, v ≤ q → q < v + 750 → q < v + 724 ∨ v + 746 ≤ q → h'.2 q = h.2 q) (n : ∃ w B, RSc (v + 724) h' w B) : MB v tb ts ou kn an rd ke ae D dn wl wr h' := by
  obtain ⟨k0, k1, k2, k3, k4, k5, k6, k7, k8, k9⟩ := k
  exact ⟨(e v (by omega) (by omega) (by omega)).trans k0, row_cg k1 (e (v + 1) (by omega) (by omega) (by omega)) (e (v + 2) (by omega) (by omega) (by omega)), rwl_cg k2 (e (v + 3) (by omega) (by omega) (by omega)) (e (v + 4) (by omega) (by omega) (by omega)), k3.imp (fun w k => rwl_cg k (e (v + 5) (by omega) (by omega) (by omega)) (e (v + 6) (by omega) (by omega) (by omega))), HA_fr k4 (e (v + 7) (by omega) (by omega) (by omega)) (fun i hi => e _ (by omega) (by omega) (by omega)), (by obtain ⟨W, B, V, g, k⟩ := k5; exact ⟨W, B, V, g, OP_out k (fun q z1 z2 => e q (by omega) (by omega) (by omega))⟩), n, dsk_cg k7 (e (v + 746) (by omega) (by omega) (by omega)) (e (v + 747) (by omega) (by omega) (by omega)), (e (v + 748) (by omega) (by omega) (by omega)).trans k8, (e (v + 749) (by omega) (by omega) (by omega)).trans k9⟩
theorem MB_dsk {D' : Nat → Nat} {dn' : Bool} {wl' : Int} {wr' : Nat} (k : MB v tb ts ou kn an rd ke ae D dn wl wr h) (e : ∀ q, v ≤ q → q < v + 750 → q < v + 746 ∨ v + 748 ≤ q → h'.2 q = h.2 q) (n : dsk h' (v + 746) (v + 747) D' (bi dn') (iZ wl') (nI wr')) : MB v tb ts ou kn an rd ke ae D' dn' wl' wr' h' := by
  obtain ⟨k0, k1, k2, k3, k4, k5, k6, k7, k8, k9⟩ := k
  exact ⟨(e v (by omega) (by omega) (by omega)).trans k0, row_cg k1 (e (v + 1) (by omega) (by omega) (by omega)) (e (v + 2) (by omega) (by omega) (by omega)), rwl_cg k2 (e (v + 3) (by omega) (by omega) (by omega)) (e (v + 4) (by omega) (by omega) (by omega)), k3.imp (fun w k => rwl_cg k (e (v + 5) (by omega) (by omega) (by omega)) (e (v + 6) (by omega) (by omega) (by omega))), HA_fr k4 (e (v + 7) (by omega) (by omega) (by omega)) (fun i hi => e _ (by omega) (by omega) (by omega)), (by obtain ⟨W, B, V, g, k⟩ := k5; exact ⟨W, B, V, g, OP_out k (fun q z1 z2 => e q (by omega) (by omega) (by omega))⟩), (by obtain ⟨w, B, k⟩ := k6; exact ⟨w, B, RS_out k (fun q z1 z2 => e q (by omega) (by omega) (by omega))⟩), n, (e (v + 748) (by omega) (by omega) (by omega)).trans k8, (e (v + 749) (by omega) (by omega) (by omega)).trans k9⟩
/-- other cells than the mint's -/
theorem MV_cg (k : MV st3 kk3 v lo tb ts ou kn an rd ke ae kf af D dn wl wr h) (h1 : h.1 ≤ h'.1) (e : ∀ q, v ≤ q → q < v + 750 ∨ (lo ≤ q ∧ q < h.1) → h'.2 q = h.2 q) : MV st3 kk3 v lo tb ts ou kn an rd ke ae kf af D dn wl wr h' := by
  obtain ⟨⟨b1, b2, b3⟩, k1, k2, k3⟩ := k
  exact ⟨⟨b1, b2, Nat.le_trans b3 h1⟩, MB_cg k1 (fun q z1 z2 => e q z1 (Or.inl z2)), KS_cg k2 h1 (fun q z1 z2 => e q (by omega) (Or.inr ⟨z1, z2⟩)), AS_cg k3 h1 (fun q z1 z2 => e q (by omega) (Or.inr ⟨z1, z2⟩))⟩
/-- one part is new -/
theorem MV_pt {tb' : Nat → Nat} {ts' rd' wr' : Nat} {ou' : List Nat} {D' : Nat → Nat} {dn' : Bool} {wl' : Int} (k : MV st3 kk3 v lo tb ts ou kn an rd ke ae kf af D dn wl wr h) (h1 : h'.1 = h.1) (e : ∀ q, lo ≤ q → q < h.1 → h'.2 q = h.2 q) (n : MB v tb ts ou kn an rd ke ae D dn wl wr h → MB v tb' ts' ou' kn an rd' ke ae D' dn' wl' wr' h') : MV st3 kk3 v lo tb' ts' ou' kn an rd' ke ae kf af D' dn' wl' wr' h' := by
  obtain ⟨⟨b1, b2, b3⟩, k1, k2, k3⟩ := k
  exact ⟨⟨b1, b2, by omega⟩, n k1, KS_cg k2 (by omega) e, AS_cg k3 (by omega) e⟩
theorem MV_0 (k : MV st3 kk3 v lo tb ts ou kn an rd ke ae kf af D dn wl wr h) : h.2 v = MO v kn an rd := k.2.1.1
theorem MV_tp (k : MV st3 kk3 v lo tb ts ou kn an rd ke ae kf af D dn wl wr h) : row h (v + 1) (v + 2) 1200 tb ts := k.2.1.2.1
theorem MV_lf (k : MV st3 kk3 v lo tb ts ou kn an rd ke ae kf af D dn wl wr h) : rwl h (v + 3) (v + 4) 1168 ou := k.2.1.2.2.1
theorem MV_dr (k : MV st3 kk3 v lo tb ts ou kn an rd ke ae kf af D dn wl wr h) : ∃ w, rwl h (v + 5) (v + 6) 1168 w := k.2.1.2.2.2.1
theorem MV_hs (k : MV st3 kk3 v lo tb ts ou kn an rd ke ae kf af D dn wl wr h) : HA h (v + 7) (fun i => v + 8 + i) := k.2.1.2.2.2.2.1
theorem MV_op (k : MV st3 kk3 v lo tb ts ou kn an rd ke ae kf af D dn wl wr h) : ∃ W B V g, OPc (v + 13) h W B V g := k.2.1.2.2.2.2.2.1
theorem MV_rs (k : MV st3 kk3 v lo tb ts ou kn an rd ke ae kf af D dn wl wr h) : ∃ w B, RSc (v + 724) h w B := k.2.1.2.2.2.2.2.2.1
theorem MV_dk (k : MV st3 kk3 v lo tb ts ou kn an rd ke ae kf af D dn wl wr h) : dsk h (v + 746) (v + 747) D (bi dn) (iZ wl) (nI wr) := k.2.1.2.2.2.2.2.2.2.1
theorem MV_kr (k : MV st3 kk3 v lo tb ts ou kn an rd ke ae kf af D dn wl wr h) : h.2 (v + 748) = KQR kn ke := k.2.1.2.2.2.2.2.2.2.2.1
theorem MV_ar (k : MV st3 kk3 v lo tb ts ou kn an rd ke ae kf af D dn wl wr h) : h.2 (v + 749) = AQR an ae := k.2.1.2.2.2.2.2.2.2.2.2
theorem MV_ky (k : MV st3 kk3 v lo tb ts ou kn an rd ke ae kf af D dn wl wr h) {i : Nat} (hi : i < kn) : (lo ≤ ke i ∧ ke i + kx (kf i) ≤ h.1) ∧ KY h v (ke i) (kf i) := k.2.2.1.2.1 i hi
theorem MV_ay (k : MV st3 kk3 v lo tb ts ou kn an rd ke ae kf af D dn wl wr h) {i : Nat} (hi : i < an) : (lo ≤ ae i ∧ ae i + 4 ≤ h.1) ∧ aky (af i) < kn ∧ AY st3 kk3 h (ae i) (ke (aky (af i)) + 2) (af i) (kf (aky (af i))) := k.2.2.2.2.1 i hi
end
