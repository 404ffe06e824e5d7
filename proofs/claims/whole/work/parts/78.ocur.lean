/-! the curve's calls in an Oprf -/
def pt (i : Nat) : Nat := if i = 0 then 38 else 695 + 4 * i
/-- point i: 0 the base, 1 to 3 p, m, z -/
def pi9 (i : Nat) : Nat := if i = 0 then 0 else 150 + i
theorem XO_pt {a ni ri i : Nat} (hi : i < 4) : XO a ni ri (1000 + pi9 i) = a + pt i := by
  unfold XO
  rw [XC_W]
  rcases i with _ | _ | _ | _ | i
  · rfl
  · rfl
  · rfl
  · rfl
  · omega
theorem pi9_lt {i : Nat} (hi : i < 4) : pi9 i < 154 := by unfold pi9; split <;> omega
def gp (g : og) (i : Nat) : Option (Option (fq × fq)) := if i = 0 then some gP else g.2 (i - 1)
theorem gs_p {G : Nat → Option (Option (fq × fq))} {g : og} (s : gs G g) {i : Nat} (hi : i < 4) : G (pi9 i) = gp g i := by
  unfold pi9 gp
  split
  · exact s.1
  · have := s.2.2.2.1 (i - 1) (by omega)
    rw [← this]; congr 1; omega
theorem gs_o {a ni ri : Nat} {h : vm_H} {G : Nat → Option (Option (fq × fq))} {g : og} (c : CA 154 (XO a ni ri) h G) (s : gs G g) {i : Nat} (hi : i < 4) {p : Option (fq × fq)} (hp : gp g i = some p) : ecO (-3) (fz (cB : Int)) p := CA_o c (pi9_lt hi) ((gs_p s hi).trans hp)
theorem gs_to {a ni ri : Nat} {h : vm_H} {G : Nat → Option (Option (fq × fq))} {g : og} (c : CA 154 (XO a ni ri) h G) (s : gs G g) {pl : Nat} (hi : pl < 10) {p : Option (fq × fq)} (hp : g.1 pl = some p) : ecO (-3) (fz (cB : Int)) p := CA_o c (i := 15 * pl + 1) (by omega) (s.2.2.1 pl p hi hp 1 (by decide) (by decide))
section
variable {l : Launch} {O : Nat → vm_Ob} {f9 : Value} {a : Nat} {h : vm_H} {W : Nat → List Nat} {B : Nat → Nat → Nat} {V : Nat → Option Nat} {g : og}
theorem OP_po (k : OPc a h W B V g) {i : Nat} (hi : i < 4) {p : Option (fq × fq)} (hp : gp g i = some p) : ecO (-3) (fz (cB : Int)) p := by
  obtain ⟨ni, ri, G, c, s⟩ := OP_C k
  exact gs_o c s hi hp
theorem OP_to (k : OPc a h W B V g) {pl : Nat} (hi : pl < 10) {p : Option (fq × fq)} (hp : g.1 pl = some p) : ecO (-3) (fz (cB : Int)) p := by
  obtain ⟨ni, ri, G, c, s⟩ := OP_C k
  exact gs_to c s hi hp
theorem o_spr {i pl : Nat} {p : Option (fq × fq)} (k : OPc a h W B V g) (hi : i < 4) (hpl : pl < 10) (hp : gp g i = some p) : vm_Met (vm_env l O f9) mX2_spread 0 0 [.ref (a + 12), .int (nI pl), .ref (a + pt i)] h (fun r h' => r = none ∧ OPc a h' W B V (fu g.1 pl (some p), g.2) ∧ fr h h' (CR a)) := by
  obtain ⟨ni, ri, G, c, s⟩ := OP_C k
  have hm := a_spread (l := l) (O := O) (f9 := f9) c (by decide) (pi9_lt hi) hpl (by unfold pi9; split <;> omega) ((gs_p s hi).trans hp) (fun m h1 h2 => s.2.1 (15 * pl + m) (by omega) (by omega))
  rw [XO_pt hi] at hm
  refine vm_metP hm ?_
  rintro r h' ⟨e, ⟨G', c', t1, t2⟩, F⟩
  refine ⟨e, OP_cur k F c' ⟨?_, fun m h1 h2 => ?_, fun q p' hq hq2 m h1 h2 => ?_, fun j hj => ?_, s.2.2.2.2⟩, fr_mono F (fun q z => XO_own (AG_own z))⟩
  · rw [t2 0 (Or.inl (by omega))]; exact s.1
  · by_cases z : m ≤ 15 * pl ∨ 15 * pl + 15 < m
    · rw [t2 m z]; exact s.2.1 m h1 h2
    · have := t1 (m - 15 * pl) (by omega) (by omega)
      rw [show 15 * pl + (m - 15 * pl) = m by omega] at this
      exact ⟨_, this⟩
  · by_cases z : q = pl
    · subst z
      have hq2 : fu g.1 q (some p) q = some p' := hq2
      rw [fu_e] at hq2
      cases hq2
      exact t1 m h1 h2
    · have hq2 : fu g.1 pl (some p) q = some p' := hq2
      rw [fu_n z] at hq2
      rw [t2 _ (by omega)]
      exact s.2.2.1 q p' hq hq2 m h1 h2
  · rw [t2 _ (by omega)]; exact s.2.2.2.1 j hj
theorem gs_up {G : Nat → Option (Option (fq × fq))} {i : Nat} {p : Option (Option (fq × fq))} (s : gs G g) (hi : i < 3) (hp : 0 < i → ∃ q, p = some q) : gs (gup G (151 + i) p) (g.1, fu g.2 i p) := by
  obtain ⟨s1, s2, s3, s4, s5, s6⟩ := s
  refine ⟨?_, fun m h1 h2 => ?_, fun q p' hq hq2 m h1 h2 => ?_, fun j hj => ?_, ?_, ?_⟩
  · rw [gup_n (by omega)]; exact s1
  · rw [gup_n (by omega)]; exact s2 m h1 h2
  · rw [gup_n (by omega)]; exact s3 q p' hq hq2 m h1 h2
  · show _ = fu g.2 i p j
    by_cases z : j = i
    · subst z; rw [gup_e, fu_e]
    · rw [gup_n (by omega), fu_n z]; exact s4 j hj
  · show ∃ q, fu g.2 i p 1 = some q
    by_cases z : 1 = i
    · subst z; rw [fu_e]; exact hp (by decide)
    · rw [fu_n z]; exact s5
  · show ∃ q, fu g.2 i p 2 = some q
    by_cases z : 2 = i
    · subst z; rw [fu_e]; exact hp (by decide)
    · rw [fu_n z]; exact s6
theorem o_comb {i pl many fa nb at9 : Nat} {b : Nat → Nat} {Pk : Nat → Option (fq × fq)} (k : OPc a h W B V g) (hi : i < 3) (hpl : pl + many ≤ 10) (hb : bv h nb fa b) (hat : at9 + 48 * many ≤ nb) (hnb : nb < 65536) (ht : ∀ k, k < many → g.1 (pl + k) = some (Pk k)) (hr : (∃ q, g.2 i = some q) ∨ cs Pk (fun k => bn b (at9 + 48 * k) 48) many ≠ none) :
    vm_Met (vm_env l O f9) mX2_combine 0 0 [.ref (a + 12), .int (nI pl), .int (nI many), .ref fa, .int (nI at9), .ref (a + pt (i + 1))] h (fun e h' => e = none ∧ OPc a h' W B V (g.1, fu g.2 i (some (cs Pk (fun k => bn b (at9 + 48 * k) 48) many))) ∧ fr h h' (CR a)) := by
  obtain ⟨ni, ri, G, c, s⟩ := OP_C k
  have ei : pi9 (i + 1) = 151 + i := by unfold pi9; rw [if_neg (by omega)]; omega
  have hm := a_comb (l := l) (O := O) (f9 := f9) (r := pi9 (i + 1)) c (by decide) (pi9_lt (by omega)) (by omega) hpl hb hat hnb (fun q hq m h1 h2 => s.2.2.1 (pl + q) _ (by omega) (ht q hq) m h1 h2) (fun q hq => gs_to c s (by omega) (ht q hq))
  rw [XO_pt (by omega)] at hm
  refine vm_metP hm ?_
  rintro r h' ⟨e, c', F⟩
  rw [ei] at c'
  refine ⟨e, OP_cur k F ?_ (gs_up s hi (fun _ => ⟨_, rfl⟩)), fr_mono F (fun q z => XO_own (AG_own z))⟩
  rcases c' with c' | ⟨z1, z2, c'⟩
  · exact c'
  · exfalso
    rcases hr with ⟨q, hq⟩ | hq
    · rw [s.2.2.2.1 i hi, hq] at z1; cases z1
    · exact hq z2
theorem o_encx {i fa nb at9 : Nat} {b : Nat → Nat} {p : Option (fq × fq)} (k : OPc a h W B V g) (hi : i < 3) (hp : g.2 i = some p) (hb : bv h nb fa b) (hfo : fa < 1099511627776) (hfa : fa < a ∨ a + 711 ≤ fa) (hat : at9 + 49 ≤ nb) (hnb : nb < 65536) :
    vm_Met (vm_env l O f9) mX2_encode 0 0 [.ref (a + 12), .ref (a + pt (i + 1)), .ref fa, .int (nI at9)] h (fun e h' => e = some (.int (pz p)) ∧ bv h' nb fa (encb b at9 p) ∧ OPc a h' W B V g ∧ fr h h' (fun q => CR a q ∨ q = fa)) := by
  obtain ⟨ni, ri, G, c, s⟩ := OP_C k
  have ei : pi9 (i + 1) = 151 + i := by unfold pi9; rw [if_neg (by omega)]; omega
  have hG : G (pi9 (i + 1)) = some p := by rw [ei, s.2.2.2.1 i hi]; exact hp
  have hgg : gup G (pi9 (i + 1)) (some p) = G := by
    funext j
    by_cases z : j = pi9 (i + 1)
    · rw [z, gup_e, hG]
    · rw [gup_n z]
  have x27 : XO a ni ri 27 = a + 42 := rfl
  have hm := a_enc (l := l) (O := O) (f9 := f9) (i := pi9 (i + 1)) (p := p) (g := G) (Or.inl (by rw [hgg]; exact c)) (pi9_lt (by omega)) hb (by rw [x27]; omega) hfo hat hnb
  rw [XO_pt (by omega)] at hm
  refine vm_metP hm ?_
  rintro r h' ⟨hr, c', F⟩
  have c2 : CA 154 (XO a ni ri) h' G := by
    rcases c' with c' | ⟨z, _⟩
    · rw [hgg] at c'; exact c'
    · rw [hG] at z; cases z
  have F' : fr h h' (fun q => CR a q ∨ q = fa) := fr_mono F (fun q z => z.imp (fun z => XO_own (AG_own z)) id)
  have k' : OPc a h' W B V g := by
    refine OP_mk k F' ?_ ?_ ?_ (fun i hi => Or.inl ⟨?_, rfl⟩) (fun i hi => Or.inl ⟨?_, ?_, rfl⟩) (Or.inl (fun i hi => ?_)) (Or.inr ⟨ni, ri, G, c2, s⟩) (Or.inl (fun q h1 h2 => ?_)) (fun i hi => Or.inl ⟨?_, rfl⟩)
    · unfold CR; omega
    · unfold CR; omega
    · unfold CR; omega
    · have := oad_c hi
      unfold CR; omega
    · have := rad_c hi
      unfold CR; omega
    · have := rad_c hi
      unfold CR; omega
    · unfold CR; omega
    · unfold CR; omega
    · unfold CR; omega
  rcases hr with ⟨rfl, rfl, b'⟩ | ⟨x, y, rfl, rfl, b'⟩
  · exact ⟨rfl, b', k', F'⟩
  · exact ⟨rfl, b', k', F'⟩
theorem o_enc {i t at9 : Nat} {p : Option (fq × fq)} (k : OPc a h W B V g) (hi : i < 3) (hp : g.2 i = some p) (ht : t < 10) (hat : at9 + 49 ≤ oln t) :
    vm_Met (vm_env l O f9) mX2_encode 0 0 [.ref (a + 12), .ref (a + pt (i + 1)), .ref (a + oad t), .int (nI at9)] h (fun e h' => e = some (.int (pz p)) ∧ OPc a h' W (fu B t (encb (B t) at9 p)) V g ∧ fr h h' (fun q => CR a q ∨ q = a + oad t)) := by
  obtain ⟨ni, ri, G, c, s⟩ := OP_C k
  have k0 := k.1
  have ho := oad_c ht
  have ei : pi9 (i + 1) = 151 + i := by unfold pi9; rw [if_neg (by omega)]; omega
  have hG : G (pi9 (i + 1)) = some p := by rw [ei, s.2.2.2.1 i hi]; exact hp
  have hgg : gup G (pi9 (i + 1)) (some p) = G := by
    funext j
    by_cases z : j = pi9 (i + 1)
    · rw [z, gup_e, hG]
    · rw [gup_n z]
  have x27 : XO a ni ri 27 = a + 42 := rfl
  have hm := a_enc (l := l) (O := O) (f9 := f9) (i := pi9 (i + 1)) (p := p) (g := G) (Or.inl (by rw [hgg]; exact c)) (pi9_lt (by omega)) (OP_b k ht) (by rw [x27]; omega) (by omega) hat (oln_lt t).2
  rw [XO_pt (by omega)] at hm
  refine vm_metP hm ?_
  rintro r h' ⟨hr, c', F⟩
  have c2 : CA 154 (XO a ni ri) h' G := by
    rcases c' with c' | ⟨z, _⟩
    · rw [hgg] at c'; exact c'
    · rw [hG] at z; cases z
  have F' : fr h h' (fun q => CR a q ∨ q = a + oad t) := fr_mono F (fun q z => z.imp (fun z => XO_own (AG_own z)) id)
  have hbb : r = some (.int (pz p)) ∧ bv h' (oln t) (a + oad t) (encb (B t) at9 p) := by
    rcases hr with ⟨rfl, rfl, b'⟩ | ⟨x, y, rfl, rfl, b'⟩
    · exact ⟨rfl, b'⟩
    · exact ⟨rfl, b'⟩
  refine ⟨hbb.1, ?_, F'⟩
  refine OP_mk k F' ?_ ?_ ?_ (fun i hi => ?_) (fun i hi => Or.inl ⟨?_, ?_, rfl⟩) (Or.inl (fun i hi => ?_)) (Or.inr ⟨ni, ri, G, c2, s⟩) (Or.inl (fun q h1 h2 => ?_)) (fun i hi => Or.inl ⟨?_, rfl⟩)
  · unfold CR; omega
  · unfold CR; omega
  · unfold CR; omega
  · have hi' := oad_c hi
    by_cases e : i = t
    · right; rw [e, fu_e]; exact hbb.2
    · left
      exact ⟨by unfold CR; omega, fu_n e⟩
  · have := rad_c hi
    unfold CR; omega
  · have := rad_c hi
    unfold CR; omega
  · unfold CR; omega
  · unfold CR; omega
  · unfold CR; omega
theorem o_dec {fa nb at9 : Nat} {b : Nat → Nat} (k : OPc a h W B V g) (hb : bv h nb fa b) (hat : at9 + 49 ≤ nb) (hnb : nb < 65536) :
    vm_Met (vm_env l O f9) mX2_decode 0 0 [.ref (a + 12), .ref fa, .int (nI at9), .ref (a + 699)] h (fun e h' => e = some (.int (pz (elL (sl b at9 49)))) ∧ OPc a h' W B V (g.1, fu g.2 0 ((elL (sl b at9 49)).map some)) ∧ fr h h' (CR a)) := by
  obtain ⟨ni, ri, G, c, s⟩ := OP_C k
  have hm := a_dec (l := l) (O := O) (f9 := f9) (r := pi9 1) c (pi9_lt (by decide)) hb hat hnb
  rw [XO_pt (by decide)] at hm
  refine vm_metP hm ?_
  rintro r h' ⟨hr, F⟩
  have F' : fr h h' (CR a) := fr_mono F (fun q z => XO_own (AG_own z))
  rcases hr with ⟨rfl, y, hy, c'⟩ | ⟨rfl, hy, c'⟩
  · rw [elL_some hy]
    exact ⟨rfl, OP_cur k F c' (gs_up (i := 0) s (by decide) (fun z => absurd z (by decide))), F'⟩
  · rw [elL_none hy]
    exact ⟨rfl, OP_cur k F c' (gs_up (i := 0) s (by decide) (fun z => absurd z (by decide))), F'⟩
theorem o_map {i : Nat} {U : Int} (k : OPc a h W B V g) (hi : i < 3) (hv : V 0 = some (mt cP 14 U)) :
    vm_Met (vm_env l O f9) mX2_mapTo 0 0 [.ref (a + 12), .ref (a + 697 + 0), .ref (a + pt (i + 1))] h (fun e h' => e = none ∧ OPc a h' W B V (g.1, fu g.2 i (some (some (mapF (fz U))))) ∧ fr h h' (CR a)) := by
  obtain ⟨ni, ri, G, c, s⟩ := OP_C k
  have ei : pi9 (i + 1) = 151 + i := by unfold pi9; rw [if_neg (by omega)]; omega
  have hm := a_map (l := l) (O := O) (f9 := f9) (r := pi9 (i + 1)) (o := a + 697 + 0) (U := U) c (pi9_lt (by omega)) ((OP_v k (by decide)).2 _ hv) (fun z => by have := XO_own (AG_own z); unfold CR at this; omega)
  rw [XO_pt (by omega)] at hm
  refine vm_metP hm ?_
  rintro r h' ⟨e, ⟨x, y, hM, c'⟩, F⟩
  rw [ei] at c'
  rw [mapF_e hM]
  exact ⟨e, OP_cur k F c' (gs_up s hi (fun _ => ⟨_, rfl⟩)), fr_mono F (fun q z => XO_own (AG_own z))⟩
theorem o_addp {p q : Option (fq × fq)} (k : OPc a h W B V g) (hp : g.2 0 = some p) (hq : g.2 1 = some q) :
    vm_Met (vm_env l O f9) mX2_add 0 0 [.ref (a + 12), .ref (a + 699), .ref (a + 703), .ref (a + 699)] h (fun e h' => e = none ∧ OPc a h' W B V (g.1, fu g.2 0 (some (ecA (-3) fiv p q))) ∧ fr h h' (CR a)) := by
  obtain ⟨ni, ri, G, c, s⟩ := OP_C k
  have hm := a_add (l := l) (O := O) (f9 := f9) (i := pi9 1) (j := pi9 2) (k := pi9 1) c (pi9_lt (by decide)) (pi9_lt (by decide)) (pi9_lt (by decide)) (by decide) (by decide) ((gs_p s (by decide)).trans hp) ((gs_p s (by decide)).trans hq) ((gs_p s (by decide)).trans hp)
  rw [XO_pt (by decide), XO_pt (by decide)] at hm
  refine vm_metP hm ?_
  rintro r h' ⟨e, c', F⟩
  exact ⟨e, OP_cur k F c' (gs_up (i := 0) s (by decide) (fun _ => ⟨_, rfl⟩)), fr_mono F (fun q z => XO_own (AG_own z))⟩
theorem o_fent {fa n at9 : Nat} {b : Nat → Nat} (k : OPc a h W B V g) (hb : bv h n fa b) (hn : at9 + 72 ≤ n) (hn2 : n < 65536) :
    vm_Met (vm_env l O f9) mX6_enterWide 0 0 [.ref (a + 13), .ref fa, .int (nI at9), .int 72, .ref (a + 697 + 0)] h (fun r h' => r = none ∧ OPc a h' W B (fu V 0 (some (mt cP 14 (bn b at9 72 : Nat)))) g ∧ fr h h' (fun q => CR a q ∨ q = a + 697 + 0)) := by
  obtain ⟨ni, ri, G, ⟨u, c⟩, s⟩ := OP_C k
  have k0 := k.1
  obtain ⟨⟨k1, k2, k3, k4, k5⟩, st, cc, kp⟩ := id c
  have xr : ∀ i, i < 24 → CR a (XO a ni ri i) := fun i hi => XO_own (Or.inl ⟨i, by omega, rfl⟩)
  unfold CR at xr
  have hm := v_entw (l := l) (O := O) (f9 := f9) (c := a + 697 + 0) k1 k2 hb hn hn2 (OP_v k (by decide)).1 ⟨fun i hi e => by have := xr i (by omega); omega, by omega⟩ (fun i hi e => by have := xr (8 + i) (by omega); omega)
  have x0 : XO a ni ri 0 = a + 13 := rfl
  rw [x0] at hm
  refine vm_metP hm ?_
  rintro r h' ⟨e, m1, M, F⟩
  have F' : fr h h' (fun q => CR a q ∨ q = a + 697 + 0) := fr_mono F (fun q z => by
    rcases z with z | (z | ⟨_, z⟩) | ⟨i, hi, z⟩
    · exact Or.inr z
    · left; rw [z]; exact xr 6 (by decide)
    · left; rw [z]; exact xr 5 (by decide)
    · left; rw [z]; exact xr (8 + i) (by omega))
  have nR : ∀ i, i < 14 + 3 * 154 → ¬ rS (XO a ni ri) 3 (a + 697 + 0) (XO a ni ri (100 + i)) := by
    intro i hi
    rintro (z | (z | ⟨_, z⟩) | ⟨j, hj, z⟩)
    · have := XO_own (a := a) (ni := ni) (ri := ri) (Or.inr (Or.inl ⟨i, hi, rfl⟩))
      unfold CR at this; omega
    · exact (k4 i hi).1.1 6 (by decide) z
    · exact (k4 i hi).1.1 5 (by decide) z
    · exact (k4 i hi).2 j hj z
  have c' : CAu 154 (XO a ni ri) h' G u := by
    have FA : fr h h' (fun q => AG 154 (XO a ni ri) q ∨ q = a + 697 + 0) := fr_mono F (fun q z => by
      rcases z with z | z | z
      · exact Or.inr z
      · exact Or.inl (Or.inl z)
      · exact Or.inl (Or.inr (Or.inl z)))
    refine ⟨⟨k1, M, k3, k4, fun i hi => ⟨fr_la F (k5 i hi).1 (nR i hi), fun b hb => fr_nv F ((k5 i hi).2 b hb) (nR i hi)⟩⟩, ?_, cc, kp⟩
    obtain ⟨s1, s2, s3, s4, rb, s5, s6⟩ := st
    have kk : RGX 154 (XO a ni ri) h u := ⟨k1, k2, k3, k4, k5⟩
    have ob : ∀ {q : Nat} {o : vm_Ob}, h.2 q = o → own 154 (XO a ni ri) q → (∀ n f, o ≠ .inl (.long, n, .inr (.inl f))) → h'.2 q = o := by
      intro q o e hw ho
      refine (FA.2 q ?_).trans e
      rintro (z | z)
      · exact RG_ob kk e ho z
      · have := XO_own hw
        unfold CR at this; omega
    obtain ⟨fb, e5, v5⟩ := s5
    exact ⟨ob s1 (Or.inl ⟨24, by decide, rfl⟩) (fun _ _ z => by cases z), ob s2 (Or.inl ⟨25, by decide, rfl⟩) (fun _ _ z => by cases z), ob s3 (Or.inl ⟨26, by decide, rfl⟩) (fun _ _ z => by cases z), fun k hk => ob (s4 k hk) (Or.inr (Or.inr ⟨k, hk, rfl⟩)) (fun _ _ z => by cases z), rb, ⟨fb, ob e5 (Or.inl ⟨27, by decide, rfl⟩) (fun _ _ z => by cases z), v5⟩, s6⟩
  refine ⟨e, OP_mk k F' ?_ ?_ ?_ (fun i hi => Or.inl ⟨?_, rfl⟩) (fun i hi => Or.inl ⟨?_, ?_, rfl⟩) (Or.inl (fun i hi => ?_)) (Or.inr ⟨ni, ri, G, ⟨u, c'⟩, s⟩) (Or.inl (fun q h1 h2 => ?_)) (fun i hi => ?_), F'⟩
  · unfold CR; omega
  · unfold CR; omega
  · unfold CR; omega
  · have := oad_c hi
    unfold CR; omega
  · have := rad_c hi
    unfold CR; omega
  · have := rad_c hi
    unfold CR; omega
  · unfold CR; omega
  · unfold CR; omega
  · by_cases z : i = 0
    · subst z
      right
      rw [fu_e]
      exact ⟨nv_la m1, fun v hv => by cases hv; exact m1⟩
    · left
      exact ⟨by unfold CR; omega, fu_n z⟩
end
