/-! the reference: its object; inverse -/
def bX14_inversex_0 : List vm_J := [(1, .aload_n 1, 0, 0, 0, .null), (3, .getfield 13, 12, 2, 0, .null), (2, .istore 4, 0, 0, 0, .null)]
set_option maxRecDepth 20000 in
theorem oX14_inversex_0 : vm_okB 14 mX14_inverse 0 bX14_inversex_0 = true := by decide +kernel
def bX14_inversex_6 : List vm_J := [(1, .aload_n 2, 0, 0, 0, .null), (1, .aload_n 0, 0, 0, 0, .null), (3, .getfield 87, 14, 4, 0, .null), (2, .iload 4, 0, 0, 0, .null), (3, .invokestatic 68, 141, 3, 0, .null), (1, .aload_n 1, 0, 0, 0, .null), (3, .getfield 22, 12, 0, 0, .null), (1, .aload_n 0, 0, 0, 0, .null), (3, .getfield 90, 14, 5, 0, .null), (2, .iload 4, 0, 0, 0, .null), (3, .invokestatic 68, 141, 3, 0, .null), (1, .iconst 1, 0, 0, 0, .int 1), (1, .aload_n 0, 0, 0, 0, .null), (3, .getfield 93, 14, 6, 0, .null), (2, .iload 4, 0, 0, 0, .null), (3, .invokestatic 75, 142, 3, 0, .null), (1, .iconst 0, 0, 0, 0, .int 0), (1, .aload_n 0, 0, 0, 0, .null), (3, .getfield 96, 14, 7, 0, .null), (2, .iload 4, 0, 0, 0, .null), (3, .invokestatic 75, 142, 3, 0, .null)]
set_option maxRecDepth 20000 in
theorem oX14_inversex_6 : vm_okB 14 mX14_inverse 6 bX14_inversex_6 = true := by decide +kernel
def bX14_inversex_49 : List vm_J := [(1, .aload_n 0, 0, 0, 0, .null), (3, .getfield 87, 14, 4, 0, .null), (2, .iload 4, 0, 0, 0, .null), (3, .invokestatic 99, 140, 2, 0, .null), (3, .ifCond .ne 118, 176, 0, 0, .null), (1, .aload_n 0, 0, 0, 0, .null), (3, .getfield 87, 14, 4, 0, .null), (1, .iconst 0, 0, 0, 0, .int 0), (1, .iaload, 0, 0, 0, .null), (1, .iconst 1, 0, 0, 0, .int 1), (1, .iand, 0, 0, 0, .null), (3, .ifCond .ne 24, 93, 0, 0, .null), (1, .aload_n 0, 0, 0, 0, .null), (3, .getfield 87, 14, 4, 0, .null), (2, .iload 4, 0, 0, 0, .null), (1, .iconst 0, 0, 0, 0, .int 0), (3, .invokestatic 83, 151, 3, 0, .null), (1, .aload_n 1, 0, 0, 0, .null), (1, .aload_n 0, 0, 0, 0, .null), (3, .getfield 93, 14, 6, 0, .null), (3, .invokestatic 103, 152, 2, 0, .null), (3, .goto (-41), 49, 0, 0, .null)]
set_option maxRecDepth 20000 in
theorem oX14_inversex_49 : vm_okB 14 mX14_inverse 49 bX14_inversex_49 = true := by decide +kernel
def bX14_inversex_93 : List vm_J := [(1, .aload_n 0, 0, 0, 0, .null), (3, .getfield 87, 14, 4, 0, .null), (1, .aload_n 0, 0, 0, 0, .null), (3, .getfield 90, 14, 5, 0, .null), (2, .iload 4, 0, 0, 0, .null), (3, .invokestatic 26, 139, 3, 0, .null), (3, .ifCond .lt 41, 147, 0, 0, .null), (1, .aload_n 0, 0, 0, 0, .null), (3, .getfield 87, 14, 4, 0, .null), (1, .aload_n 0, 0, 0, 0, .null), (3, .getfield 90, 14, 5, 0, .null), (1, .aload_n 0, 0, 0, 0, .null), (3, .getfield 87, 14, 4, 0, .null), (2, .iload 4, 0, 0, 0, .null), (3, .invokestatic 30, 144, 4, 0, .null), (2, .istore 5, 0, 0, 0, .null)]
set_option maxRecDepth 20000 in
theorem oX14_inversex_93 : vm_okB 14 mX14_inverse 93 bX14_inversex_93 = true := by decide +kernel
def bX14_inversex_128 : List vm_J := [(1, .aload_n 1, 0, 0, 0, .null), (1, .aload_n 0, 0, 0, 0, .null), (3, .getfield 93, 14, 6, 0, .null), (1, .aload_n 0, 0, 0, 0, .null), (3, .getfield 96, 14, 7, 0, .null), (1, .aload_n 0, 0, 0, 0, .null), (3, .getfield 93, 14, 6, 0, .null), (3, .invokestatic 107, 146, 4, 0, .null), (3, .goto (-95), 49, 0, 0, .null)]
set_option maxRecDepth 20000 in
theorem oX14_inversex_128 : vm_okB 14 mX14_inverse 128 bX14_inversex_128 = true := by decide +kernel
def bX14_inversex_147 : List vm_J := [(1, .aload_n 0, 0, 0, 0, .null), (3, .getfield 87, 14, 4, 0, .null), (1, .aload_n 0, 0, 0, 0, .null), (3, .getfield 90, 14, 5, 0, .null), (2, .iload 4, 0, 0, 0, .null), (3, .invokestatic 110, 153, 3, 0, .null), (1, .aload_n 0, 0, 0, 0, .null), (3, .getfield 93, 14, 6, 0, .null), (1, .aload_n 0, 0, 0, 0, .null), (3, .getfield 96, 14, 7, 0, .null), (2, .iload 4, 0, 0, 0, .null), (3, .invokestatic 110, 153, 3, 0, .null), (3, .goto (-124), 49, 0, 0, .null)]
set_option maxRecDepth 20000 in
theorem oX14_inversex_147 : vm_okB 14 mX14_inverse 147 bX14_inversex_147 = true := by decide +kernel
def bX14_inversex_176 : List vm_J := [(1, .aload_n 0, 0, 0, 0, .null), (3, .getfield 90, 14, 5, 0, .null), (1, .iconst 0, 0, 0, 0, .int 0), (1, .iaload, 0, 0, 0, .null), (1, .iconst 1, 0, 0, 0, .int 1), (3, .if_icmp .ne 7, 190, 0, 0, .null), (1, .iconst 1, 0, 0, 0, .int 1), (3, .goto 4, 191, 0, 0, .null)]
set_option maxRecDepth 20000 in
theorem oX14_inversex_176 : vm_okB 14 mX14_inverse 176 bX14_inversex_176 = true := by decide +kernel
def bX14_inversex_190 : List vm_J := [(1, .iconst 0, 0, 0, 0, .int 0)]
set_option maxRecDepth 20000 in
theorem oX14_inversex_190 : vm_okB 14 mX14_inverse 190 bX14_inversex_190 = true := by decide +kernel
def bX14_inversex_191 : List vm_J := [(2, .istore 5, 0, 0, 0, .null)]
set_option maxRecDepth 20000 in
theorem oX14_inversex_191 : vm_okB 14 mX14_inverse 191 bX14_inversex_191 = true := by decide +kernel
def bX14_inversex_193 : List vm_J := [(1, .iconst 1, 0, 0, 0, .int 1), (2, .istore 6, 0, 0, 0, .null)]
set_option maxRecDepth 20000 in
theorem oX14_inversex_193 : vm_okB 14 mX14_inverse 193 bX14_inversex_193 = true := by decide +kernel
def bX14_inversex_196 : List vm_J := [(2, .iload 6, 0, 0, 0, .null), (2, .iload 4, 0, 0, 0, .null), (3, .if_icmp .ge 31, 231, 0, 0, .null), (2, .iload 5, 0, 0, 0, .null), (3, .ifCond .eq 17, 222, 0, 0, .null), (1, .aload_n 0, 0, 0, 0, .null), (3, .getfield 90, 14, 5, 0, .null), (2, .iload 6, 0, 0, 0, .null), (1, .iaload, 0, 0, 0, .null), (3, .ifCond .ne 7, 222, 0, 0, .null), (1, .iconst 1, 0, 0, 0, .int 1), (3, .goto 4, 223, 0, 0, .null)]
set_option maxRecDepth 20000 in
theorem oX14_inversex_196 : vm_okB 14 mX14_inverse 196 bX14_inversex_196 = true := by decide +kernel
def bX14_inversex_222 : List vm_J := [(1, .iconst 0, 0, 0, 0, .int 0)]
set_option maxRecDepth 20000 in
theorem oX14_inversex_222 : vm_okB 14 mX14_inverse 222 bX14_inversex_222 = true := by decide +kernel
def bX14_inversex_223 : List vm_J := [(2, .istore 5, 0, 0, 0, .null)]
set_option maxRecDepth 20000 in
theorem oX14_inversex_223 : vm_okB 14 mX14_inverse 223 bX14_inversex_223 = true := by decide +kernel
def bX14_inversex_225 : List vm_J := [(3, .iinc 6 1, 0, 0, 0, .int 1), (3, .goto (-32), 196, 0, 0, .null)]
set_option maxRecDepth 20000 in
theorem oX14_inversex_225 : vm_okB 14 mX14_inverse 225 bX14_inversex_225 = true := by decide +kernel
def bX14_inversex_231 : List vm_J := [(1, .aload_n 0, 0, 0, 0, .null), (3, .getfield 96, 14, 7, 0, .null), (1, .aload_n 3, 0, 0, 0, .null), (2, .iload 4, 0, 0, 0, .null), (3, .invokestatic 68, 141, 3, 0, .null), (2, .iload 5, 0, 0, 0, .null), (1, .ireturn, 0, 0, 0, .null)]
set_option maxRecDepth 20000 in
theorem oX14_inversex_231 : vm_okB 14 mX14_inverse 231 bX14_inversex_231 = true := by decide +kernel
/-- the reference's object at a: where its rows lie, and its numbers -/
def RO (a : Nat) (g : Nat → Int32) : vm_Ob := .inr (14, [.int (g 0), .ref (a + 1), .ref (a + 2), .ref (a + 3), .ref (a + 4), .ref (a + 5), .ref (a + 6), .ref (a + 7), .ref (a + 8), .ref (a + 11), .ref (a + 14), .ref (a + 17), .ref (a + 20), .ref (a + 23), .ref (a + 24), .ref (a + 25), .ref (a + 26), .ref (a + 27), .ref (a + 28), .int (g 19), .ref (a + 29), .ref (a + 30), .ref (a + 31), .ref (a + 32), .ref (a + 33), .ref (a + 34), .int (g 26), .ref (a + 35), .int (g 28), .ref (a + 36), .ref (a + 37), .ref (a + 38), .ref (a + 39), .ref (a + 42), .ref (a + 43), .ref (a + 44), .ref (a + 45), .ref (a + 46), .ref (a + 47), .ref (a + 48), .ref (a + 49), .ref (a + 50), .ref (a + 51), .ref (a + 52), .ref (a + 55), .ref (a + 58), .ref (a + 61), .ref (a + 64), .ref (a + 67), .ref (a + 68), .ref (a + 69), .ref (a + 70), .ref (a + 71), .ref (a + 72), .ref (a + 73), .ref (a + 74), .ref (a + 75), .ref (a + 76), .ref (a + 83), .ref (a + 84), .ref (a + 85), .ref (a + 86), .ref (a + 87), .int (g 63), .ref (a + 88), .ref (a + 89), .ref (a + 90), .ref (a + 91), .int (g 68), .ref (a + 152), .int (g 70), .int (g 71), .int (g 72), .int (g 73), .ref (a + 153), .int (g 75), .ref (a + 154), .int (g 77), .ref (a + 155), .ref (a + 156), .ref (a + 157), .ref (a + 158), .ref (a + 159), .ref (a + 160), .ref (a + 161), .ref (a + 162), .ref (a + 163), .ref (a + 166), .ref (a + 167)])
/-- a row of L ints -/
def iw (h : vm_H) (L q : Nat) : Prop := ∃ f, ia h L q f
theorem iw_cg {h h' : vm_H} {L q : Nat} (k : iw h L q) (e : h'.2 q = h.2 q) : iw h' L q := by
  obtain ⟨f, k⟩ := k
  exact ⟨f, e.trans k⟩
theorem wv_iw {h : vm_H} {L q n X : Nat} (k : wv h L q n X) : iw h L q := by
  obtain ⟨f, k, _⟩ := k
  exact ⟨f, k⟩
theorem dw_s0 {x : Nat} (hx : x < 4294967296) : dw x 0 = x := by
  unfold dw
  rw [Nat.pow_zero, Nat.div_one, Nat.mod_eq_of_lt hx]
theorem dw_sk {x k : Nat} (hx : x < 4294967296) (hk : 1 ≤ k) : dw x k = 0 := by
  unfold dw
  obtain ⟨j, rfl⟩ : ∃ j, k = j + 1 := ⟨k - 1, by omega⟩
  rw [Nat.pow_succ, Nat.mul_comm, ← Nat.div_div_eq_div_mul, Nat.div_eq_of_lt hx, Nat.zero_div, Nat.zero_mod]
theorem dw_uq {X Y : Nat} : ∀ n, (∀ k, k < n → dw X k = dw Y k) → X % 4294967296 ^ n = Y % 4294967296 ^ n
  | 0, _ => by rw [Nat.pow_zero, Nat.mod_one, Nat.mod_one]
  | n + 1, e => by rw [dw_m, dw_m, dw_uq n (fun k hk => e k (by omega)), e n (by omega)]
theorem dw_eq {X Y n : Nat} (hX : X < 4294967296 ^ n) (hY : Y < 4294967296 ^ n) (e : ∀ k, k < n → dw X k = dw Y k) : X = Y := by
  have := dw_uq n e
  rwa [Nat.mod_eq_of_lt hX, Nat.mod_eq_of_lt hY] at this
theorem wv_sm {h : vm_H} {L b n x : Nat} {g : Nat → Int32} (hg : ia h L b g) (hx : x < 4294967296) (h0 : g 0 = nI x) (hk : ∀ k, 1 ≤ k → k < n → g k = 0) : wv h L b n x := by
  refine ⟨g, hg, fun k hn => ?_⟩
  by_cases e : k = 0
  · rw [e, h0, dw_s0 hx]
  · rw [hk k (by omega) hn, dw_sk hx (by omega)]; rfl
theorem wv_cp {h h' : vm_H} {L1 L2 a b n X : Nat} (ha : wv h L1 a n X) (f : Nat → Int32) (hf : ia h L1 a f) (hc : ∃ g', ia h' L2 b g' ∧ ∀ k, k < n → g' k = f k) : wv h' L2 b n X := by
  obtain ⟨f1, e1, v1⟩ := ha
  have e1 : h.2 a = _ := e1
  have hf : h.2 a = _ := hf
  rw [e1] at hf
  cases hf
  obtain ⟨g', e2, v2⟩ := hc
  exact ⟨g', e2, fun k hk => by rw [v2 k hk, v1 k hk]⟩
theorem od_half {N D s : Int} (ho : N % 2 = 1) (e : 2 * D = N * s) : ∃ t, D = N * t := by
  refine ⟨D - N / 2 * s, ?_⟩
  have h1 : N = 2 * (N / 2) + 1 := by omega
  generalize N / 2 = k at *
  subst h1
  have h2 : (2 * k + 1) * (D - k * s) = (2 * k + 1) * D - k * ((2 * k + 1) * s) := by grind
  rw [h2, ← e]
  grind
theorem gcd_hf {l r : Nat} (hr : r % 2 = 1) (hl : l % 2 = 0) : Nat.gcd (l / 2) r = Nat.gcd l r := by
  have c : Nat.Coprime 2 r := by
    show Nat.gcd 2 r = 1
    rw [Nat.gcd_rec, hr]
    decide
  have e : l = 2 * (l / 2) := by omega
  generalize l / 2 = j at *
  rw [e]
  exact (Nat.Coprime.gcd_mul_left_cancel j c).symm
theorem gcd_sb {l r : Nat} (h : r ≤ l) : Nat.gcd (l - r) r = Nat.gcd l r := by
  have e : l = (l - r) + r := by omega
  generalize l - r = j at *
  rw [e, Nat.gcd_add_self_left]
section
variable {l : Launch} {O : Nat → vm_Ob} {f9 : Value} {h : vm_H}
theorem RO_i {a q L : Nat} {g f : Nat → Int32} (ho : h.2 a = RO a g) (hq : ia h L q f) : q ≠ a := fun e => by
  have hq : h.2 q = _ := hq
  rw [e, ho] at hq
  cases hq
/-- the state of the search for an inverse -/
def IQ9 (A N L R X Y : Nat) : Prop := R % 2 = 1 ∧ (L ≤ N ∧ R ≤ N) ∧ (X < N ∧ Y < N) ∧ (∃ t : Int, (A : Int) * X - L = N * t) ∧ (∃ t : Int, (A : Int) * Y - R = N * t) ∧ Nat.gcd L R = Nat.gcd A N
theorem IQ9_h {A N L R X Y : Nat} (ho : N % 2 = 1) (k : IQ9 A N L R X Y) (hl : L % 2 = 0) : IQ9 A N (L / 2) R ((if X % 2 = 1 then X + N else X) / 2) Y := by
  obtain ⟨k1, k2, k3, ⟨t, k4⟩, k5, k6⟩ := k
  refine ⟨k1, by omega, ⟨by split <;> omega, k3.2⟩, ?_, k5, by rw [gcd_hf k1 hl]; exact k6⟩
  have e1 : (L : Int) = 2 * ((L / 2 : Nat) : Int) := by omega
  obtain ⟨c, e2⟩ : ∃ c : Int, 2 * (((if X % 2 = 1 then X + N else X) / 2 : Nat) : Int) = X + N * c := by
    split
    · exact ⟨1, by omega⟩
    · exact ⟨0, by omega⟩
  generalize (((if X % 2 = 1 then X + N else X) / 2 : Nat) : Int) = X' at *
  generalize ((L / 2 : Nat) : Int) = L' at *
  refine od_half (s := t + A * c) (by omega) ?_
  have e3 : 2 * ((A : Int) * X' - L') = A * (2 * X') - 2 * L' := by grind
  rw [e3, e2, ← e1]
  grind
theorem IQ9_s {A N L R X Y : Nat} (k : IQ9 A N L R X Y) (hl : R ≤ L) : IQ9 A N (L - R) R ((X + N - Y) % N) Y := by
  obtain ⟨k1, k2, k3, ⟨t, k4⟩, ⟨t2, k5⟩, k6⟩ := k
  have hN : 0 < N := by omega
  refine ⟨k1, by omega, ⟨Nat.mod_lt _ hN, k3.2⟩, ?_, ⟨t2, k5⟩, by rw [gcd_sb hl]; exact k6⟩
  have e1 : ((L - R : Nat) : Int) = L - R := by omega
  have e2 : (((X + N - Y) % N : Nat) : Int) = X + N - Y - N * (((X + N - Y) / N : Nat) : Int) := by
    have := Nat.div_add_mod (X + N - Y) N
    have e3 : ((X + N - Y : Nat) : Int) = X + N - Y := by omega
    rw [← e3, ← this]
    rw [this]
    have h4 : (((N * ((X + N - Y) / N) + (X + N - Y) % N : Nat)) : Int) = ((X + N - Y : Nat) : Int) := by rw [this]
    rw [Int.natCast_add, Int.natCast_mul] at h4
    omega
  rw [e1, e2]
  generalize (((X + N - Y) / N : Nat) : Int) = q at *
  refine ⟨t - t2 + A * (1 - q), ?_⟩
  have e5 : (A : Int) * (X + N - Y - N * q) - (L - R) = (A * X - L) - (A * Y - R) + N * (A * (1 - q)) := by grind
  rw [e5, k4, k5]
  grind
theorem IQ9_w {A N L R X Y : Nat} (k : IQ9 A N L R X Y) (hl : L % 2 = 1) : IQ9 A N R L Y X := by
  obtain ⟨k1, k2, k3, k4, k5, k6⟩ := k
  exact ⟨hl, ⟨k2.2, k2.1⟩, ⟨k3.2, k3.1⟩, k5, k4, by rw [Nat.gcd_comm]; exact k6⟩
theorem IQ9_0 {A N : Nat} (ho : N % 2 = 1) (h1 : 1 < N) (hA : A < N) : IQ9 A N A N 1 0 := by
  refine ⟨ho, by omega, by omega, ⟨0, by omega⟩, ⟨-1, by omega⟩, rfl⟩
theorem IQ9_e {A N R X Y : Nat} (h1 : 1 < N) (k : IQ9 A N 0 R X Y) : (R = 1 ↔ Nat.gcd A N = 1) ∧ (R = 1 → A * Y % N = 1) := by
  obtain ⟨k1, k2, k3, k4, ⟨t, k5⟩, k6⟩ := k
  rw [Nat.gcd_zero_left] at k6
  refine ⟨by rw [k6], fun e => ?_⟩
  rw [e] at k5
  have e2 : ((A * Y : Nat) : Int) = 1 + N * t := by rw [Int.natCast_mul]; omega
  have e3 : ((A * Y % N : Nat) : Int) = 1 := by
    rw [Int.natCast_emod, e2, Int.add_mul_emod_self_left]
    exact Int.emod_eq_of_lt (by omega) (by omega)
  omega
theorem rm_inv {a M mm hi n N b c L1 L3 A : Nat} {s : Int32} {g : Nat → Int32} (k : MM h M mm hi n N s) (ho : h.2 a = RO a g) (r4 : iw h 64 (a + 4)) (r5 : iw h 64 (a + 5)) (r6 : iw h 64 (a + 6)) (r7 : iw h 64 (a + 7)) (hA : wv h L1 b n A) (h1 : n ≤ L1) (hc : iw h L3 c) (h3 : n ≤ L3) (hAN : A < N) (hod : N % 2 = 1) (hao : a + 300 < 1099511627776) (hco : c < 1099511627776) (hb : b < a + 4 ∨ a + 7 < b) (hc4 : c < a + 4 ∨ a + 7 < c) (hM : M < a + 4 ∨ a + 7 < M) (hmm : mm < a + 4 ∨ a + 7 < mm) : vm_Met (vm_env l O f9) mX14_inverse 0 0 [.ref a, .ref M, .ref b, .ref c] h (fun r h' => (∃ (ok : Bool) (T : Nat), r = some (.int (bi ok)) ∧ (ok = true ↔ Nat.gcd A N = 1) ∧ T < N ∧ (ok = true → A * T % N = 1) ∧ wv h' L3 c n T) ∧ (iw h' 64 (a + 4) ∧ iw h' 64 (a + 5) ∧ iw h' 64 (a + 6) ∧ iw h' 64 (a + 7)) ∧ fr h h' (fun q => (a + 4 ≤ q ∧ q ≤ a + 7) ∨ q = c)) := by
  obtain ⟨k1, k2, k3, k4, k5, k6⟩ := id k
  have hn : n < 65536 := by omega
  have hc0 := hc
  suffices H : ∀ Q : Option Value → vm_H → Prop, (∀ r h', (∃ (ok : Bool) (T : Nat), r = some (.int (bi ok)) ∧ (ok = true ↔ Nat.gcd A N = 1) ∧ T < N ∧ (ok = true → A * T % N = 1) ∧ wv h' L3 c n T) ∧ (iw h' 64 (a + 4) ∧ iw h' 64 (a + 5) ∧ iw h' 64 (a + 6) ∧ iw h' 64 (a + 7)) ∧ fr h h' (fun q => (a + 4 ≤ q ∧ q ≤ a + 7) ∨ q = c) → Q r h') → vm_Met (vm_env l O f9) mX14_inverse 0 0 [.ref a, .ref M, .ref b, .ref c] h Q from H _ (fun _ _ z => z)
  intro Q hQ
  refine vm_met rfl (Nat.le_of_ble_eq_true rfl) ?_
  refine vm_go rfl bX14_inversex_0 oX14_inversex_0 ⟨_, _, k1, rfl, ?_⟩
  refine vm_Th (lv' := [(0, .ref a), (1, .ref M), (2, .ref b), (3, .ref c), (4, .int (nI n))]) (h' := h) rfl rfl ?_
  obtain ⟨f4, e4⟩ := r4
  obtain ⟨f5, e5⟩ := r5
  obtain ⟨f6, e6⟩ := r6
  obtain ⟨f7, e7⟩ := r7
  obtain ⟨fA, eA, vA⟩ := id hA
  obtain ⟨fm, em, vm⟩ := id k2
  have P64 : 4294967296 ^ n ≤ 4294967296 ^ n := Nat.le_refl _
  refine vm_go rfl bX14_inversex_6 oX14_inversex_6 ⟨_, _, ho, rfl, ⟨0, 0, _, rm_copy eA e4 h1 k3 hn (by omega), Nat.zero_le _, Nat.zero_le _, ?_⟩⟩
  rintro _ ha ⟨rfl, ⟨ga, ea1, ea2, _⟩, Fa⟩
  have wa : wv ha 64 (a + 4) n A := wv_cp hA fA eA ⟨ga, ea1, ea2⟩
  have hoa : ha.2 a = RO a g := (Fa.2 a (by omega)).trans ho
  have k1a : ha.2 M = _ := (Fa.2 M (by omega)).trans k1
  have ema : ia ha 64 mm fm := (Fa.2 mm (by omega)).trans em
  refine ⟨_, _, k1a, rfl, ⟨_, _, hoa, rfl, ⟨0, 0, _, rm_copy ema ((Fa.2 (a + 5) (by omega)).trans e5) k3 k3 hn (by omega), Nat.zero_le _, Nat.zero_le _, ?_⟩⟩⟩
  rintro _ hb ⟨rfl, ⟨gb9, eb1, eb2, _⟩, Fb⟩
  have wb9 : wv hb 64 (a + 5) n N := wv_cp k2 fm em ⟨gb9, eb1, eb2⟩
  have Fb' := Fb
  have Fb := fr_trans (fr_mono Fa (fun q z => show q = a + 4 ∨ q = a + 5 from Or.inl z)) (fr_mono Fb (fun q z => Or.inr z))
  have hob : hb.2 a = RO a g := (Fb.2 a (by omega)).trans ho
  refine ⟨_, _, hob, rfl, ⟨0, 0, _, rm_small (x := 1) ((Fb.2 (a + 6) (by omega)).trans e6) k3 (by omega) hn (by omega), Nat.zero_le _, Nat.zero_le _, ?_⟩⟩
  rintro _ hc ⟨rfl, ⟨gc, ec1, ec2, ec3, _⟩, Fc⟩
  have wc : wv hc 64 (a + 6) n 1 := wv_sm ec1 (by decide) ec2 ec3
  have Fc' := Fc
  have Fc := fr_trans (fr_mono Fb (fun q z => show q = a + 4 ∨ q = a + 5 ∨ q = a + 6 by omega)) (fr_mono Fc (fun q z => Or.inr (Or.inr z)))
  have hoc : hc.2 a = RO a g := (Fc.2 a (by omega)).trans ho
  refine ⟨_, _, hoc, rfl, ⟨0, 0, _, rm_small (x := 0) ((Fc.2 (a + 7) (by omega)).trans e7) k3 (by omega) hn (by omega), Nat.zero_le _, Nat.zero_le _, ?_⟩⟩
  rintro _ hd ⟨rfl, ⟨gd, ed1, ed2, ed3, _⟩, Fd⟩
  have wd : wv hd 64 (a + 7) n 0 := wv_sm ed1 (by decide) ed2 ed3
  have wc : wv hd 64 (a + 6) n 1 := wv_cg wc (Fd.2 _ (by omega))
  have wb9 : wv hd 64 (a + 5) n N := wv_cg wb9 ((Fd.2 _ (by omega)).trans (Fc'.2 _ (by omega)))
  have wa : wv hd 64 (a + 4) n A := wv_cg wa ((Fd.2 _ (by omega)).trans ((Fc'.2 _ (by omega)).trans (Fb'.2 _ (by omega))))
  have Fd := fr_trans (fr_mono Fc (fun q z => show a + 4 ≤ q ∧ q ≤ a + 7 by omega)) (fr_mono Fd (fun q z => by omega))
  refine vm_Th (lv' := [(0, .ref a), (1, .ref M), (2, .ref b), (3, .ref c), (4, .int (nI n))]) (h' := hd) rfl rfl ?_
  have loop : ∀ (z L R X Y : Nat) (h1 : vm_H), 2 * (L + R) + (if L < R then 1 else 0) ≤ z → wv h1 64 (a + 4) n L ∧ wv h1 64 (a + 5) n R ∧ wv h1 64 (a + 6) n X ∧ wv h1 64 (a + 7) n Y → IQ9 A N L R X Y → fr h h1 (fun q => a + 4 ≤ q ∧ q ≤ a + 7) → vm_T (vm_env l O f9) mX14_inverse 0 0 49 [(0, .ref a), (1, .ref M), (2, .ref b), (3, .ref c), (4, .int (nI n))] [] h1 Q := by
    intro z
    induction z with
    | zero =>
      intro L R X Y h1 hz w iv F
      exact absurd iv.1 (by omega)
    | succ z ih =>
      rintro L R X Y h1 hz ⟨w4, w5, w6, w7⟩ iv F
      have iv0 := iv
      obtain ⟨i1, i2, i3, i4, i5, i6⟩ := iv0
      have ho1 : h1.2 a = RO a g := (F.2 a (by omega)).trans ho
      have kM : MM h1 M mm hi n N s := ⟨(F.2 M (by omega)).trans k1, wv_cg k2 (F.2 mm (by omega)), k3, k4, k5, k6⟩
      obtain ⟨g4, e4, v4⟩ := id w4
      obtain ⟨g5, e5, v5⟩ := id w5
      have hL : L < 4294967296 ^ n := by omega
      have hR : R < 4294967296 ^ n := by omega
      refine vm_go rfl bX14_inversex_49 oX14_inversex_49 ⟨_, _, ho1, rfl, ⟨0, 0, _, rm_zero e4 k3 hn, Nat.zero_le _, Nat.zero_le _, ?_⟩⟩
      rintro _ h1' ⟨⟨ok, rfl, hok⟩, e9⟩
      rw [e9]; clear e9 h1'
      have hz0 : ok = true ↔ L = 0 := by
        rw [hok]
        constructor
        · intro y
          refine dw_eq hL (by omega) (fun k hk => ?_)
          have := y k hk
          rw [v4 k hk] at this
          rw [nI_inj (dw_lt _ _) (by decide) (show nI (dw L k) = nI 0 from this)]
          unfold dw
          rw [Nat.zero_div]
        · intro y k hk
          rw [v4 k hk, y]
          unfold dw
          rw [Nat.zero_div]
          rfl
      cases ok with
      | true =>
        have eL := hz0.mp rfl
        refine ⟨fun _ => ?_, fun q => absurd q (by decide)⟩
        rw [eL] at iv
        obtain ⟨iv1, iv2⟩ := IQ9_e k6 iv
        have tail : ∀ ok : Bool, (ok = true ↔ R = 1) → vm_T (vm_env l O f9) mX14_inverse 0 0 231 [(0, .ref a), (1, .ref M), (2, .ref b), (3, .ref c), (4, .int (nI n)), (5, .int (bi ok)), (6, .int (nI n))] [] h1 Q := by
          intro ok hk9
          obtain ⟨g7, e7, v7⟩ := id w7
          obtain ⟨fc, ec⟩ := hc0
          have ec1 : ia h1 L3 c fc := (F.2 c (by omega)).trans ec
          refine vm_go rfl bX14_inversex_231 oX14_inversex_231 ⟨_, _, ho1, rfl, ⟨0, 0, _, rm_copy e7 ec1 k3 h3 hn hco, Nat.zero_le _, Nat.zero_le _, ?_⟩⟩
          rintro _ h2 ⟨rfl, ⟨g2, e2, v2, _⟩, F2⟩
          have w2 : wv h2 L3 c n Y := wv_cp w7 g7 e7 ⟨g2, e2, v2⟩
          refine ⟨bi_if, hQ _ _ ⟨⟨ok, Y, rfl, hk9.trans iv1, i3.2, fun y => iv2 (hk9.mp y), w2⟩, ⟨iw_cg (wv_iw w4) (F2.2 _ (by omega)), iw_cg (wv_iw w5) (F2.2 _ (by omega)), iw_cg (wv_iw w6) (F2.2 _ (by omega)), iw_cg (wv_iw w7) (F2.2 _ (by omega))⟩, fr_trans (fr_mono F (fun q z => Or.inl z)) (fr_mono F2 (fun q z => Or.inr z))⟩⟩
        have lp : ∀ ok : Bool, (ok = true ↔ dw R 0 = 1) → vm_T (vm_env l O f9) mX14_inverse 0 0 191 [(0, .ref a), (1, .ref M), (2, .ref b), (3, .ref c), (4, .int (nI n))] [.int (bi ok)] h1 Q := by
          intro ok hk0
          refine vm_go rfl bX14_inversex_191 oX14_inversex_191 ?_
          refine vm_Th (lv' := [(0, .ref a), (1, .ref M), (2, .ref b), (3, .ref c), (4, .int (nI n)), (5, .int (bi ok))]) (h' := h1) rfl rfl ?_
          refine vm_go rfl bX14_inversex_193 oX14_inversex_193 ?_
          refine vm_Th (lv' := [(0, .ref a), (1, .ref M), (2, .ref b), (3, .ref c), (4, .int (nI n)), (5, .int (bi ok)), (6, .int (nI 1))]) (h' := h1) rfl rfl ?_
          have run : ∀ (d i : Nat) (ok : Bool), i + d = n → 1 ≤ i → (ok = true ↔ dw R 0 = 1 ∧ ∀ k, 1 ≤ k → k < i → dw R k = 0) → vm_T (vm_env l O f9) mX14_inverse 0 0 196 [(0, .ref a), (1, .ref M), (2, .ref b), (3, .ref c), (4, .int (nI n)), (5, .int (bi ok)), (6, .int (nI i))] [] h1 Q := by
            intro d
            induction d with
            | zero =>
              intro i ok hi h1i hk
              have ei : i = n := by omega
              subst ei
              refine vm_go rfl bX14_inversex_196 oX14_inversex_196 ⟨fun _ => tail ok (hk.trans ⟨fun y => ?_, fun y => ?_⟩), fun q => absurd (nI_le (a := i) (b := i) (Nat.le_refl _) (by omega)) q⟩
              · refine dw_eq hR (by omega) (fun k hk => ?_)
                by_cases e : k = 0
                · rw [e, y.1, dw_s0 (by decide)]
                · rw [y.2 k (by omega) hk, dw_sk (by decide) (by omega)]
              · rw [y]
                exact ⟨dw_s0 (by decide), fun k hk _ => dw_sk (by decide) hk⟩
            | succ d ih2 =>
              intro i ok hi h1i hk
              have nx : ∀ ok2 : Bool, (ok2 = true ↔ ok = true ∧ dw R i = 0) → vm_T (vm_env l O f9) mX14_inverse 0 0 223 [(0, .ref a), (1, .ref M), (2, .ref b), (3, .ref c), (4, .int (nI n)), (5, .int (bi ok)), (6, .int (nI i))] [.int (bi ok2)] h1 Q := by
                intro ok2 hk2
                refine vm_go rfl bX14_inversex_223 oX14_inversex_223 ?_
                refine vm_Th (lv' := [(0, .ref a), (1, .ref M), (2, .ref b), (3, .ref c), (4, .int (nI n)), (5, .int (bi ok2)), (6, .int (nI i))]) (h' := h1) rfl rfl ?_
                refine vm_go rfl bX14_inversex_225 oX14_inversex_225 ?_
                refine vm_Th (lv' := [(0, .ref a), (1, .ref M), (2, .ref b), (3, .ref c), (4, .int (nI n)), (5, .int (bi ok2)), (6, .int (nI (i + 1)))]) (h' := h1) (by rw [← nI_1]; rfl) rfl ?_
                refine ih2 (i + 1) ok2 (by omega) (by omega) ?_
                rw [hk2, hk]
                constructor
                · rintro ⟨⟨y1, y2⟩, y3⟩
                  refine ⟨y1, fun k z1 z2 => ?_⟩
                  by_cases e : k = i
                  · rw [e]; exact y3
                  · exact y2 k z1 (by omega)
                · rintro ⟨y1, y2⟩
                  exact ⟨⟨y1, fun k z1 z2 => y2 k z1 (by omega)⟩, y2 i h1i (by omega)⟩
              cases ok with
              | false =>
                refine vm_go rfl bX14_inversex_196 oX14_inversex_196 ⟨fun q => absurd q (nI_ge (by omega) (by omega)), fun _ => ⟨fun _ => ?_, fun q => absurd rfl q⟩⟩
                exact vm_go rfl bX14_inversex_222 oX14_inversex_222 (nx false ⟨fun y => (nomatch y), fun y => (nomatch y.1)⟩)
              | true =>
                refine vm_go rfl bX14_inversex_196 oX14_inversex_196 ⟨fun q => absurd q (nI_ge (by omega) (by omega)), fun _ => ⟨fun q => absurd q (by decide), fun _ => ⟨_, _, ho1, rfl, ⟨64, g5, e5, i, rfl, by omega, fun _ => ⟨fun q => ?_, fun q => ?_⟩⟩⟩⟩⟩
                · refine vm_go rfl bX14_inversex_222 oX14_inversex_222 (nx false ⟨fun y => (nomatch y), fun y => absurd ?_ q⟩)
                  show g5 i = 0
                  rw [v5 i (by omega), y.2]
                  rfl
                · refine nx true ⟨fun _ => ⟨rfl, ?_⟩, fun _ => rfl⟩
                  have q : g5 i = 0 := q
                  rw [v5 i (by omega)] at q
                  exact nI_inj (dw_lt _ _) (by decide) q
          exact run (n - 1) 1 ok (by omega) (by omega) (hk0.trans ⟨fun y => ⟨y, fun k z1 z2 => by omega⟩, fun y => y.1⟩)
        by_cases q0 : dw R 0 = 1
        · refine vm_go rfl bX14_inversex_176 oX14_inversex_176 ⟨_, _, ho1, rfl, ⟨64, g5, e5, 0, rfl, by decide, fun _ => ⟨fun q => absurd (show g5 0 = nI 1 by rw [v5 0 (by omega), q0]) q, fun _ => ?_⟩⟩⟩
          exact lp true ⟨fun _ => q0, fun _ => rfl⟩
        · refine vm_go rfl bX14_inversex_176 oX14_inversex_176 ⟨_, _, ho1, rfl, ⟨64, g5, e5, 0, rfl, by decide, fun _ => ⟨fun _ => ?_, fun q => ?_⟩⟩⟩
          · exact vm_go rfl bX14_inversex_190 oX14_inversex_190 (lp false ⟨fun y => (nomatch y), fun y => absurd y q0⟩)
          · have q : g5 0 = nI 1 := q
            rw [v5 0 (by omega)] at q
            exact absurd (nI_inj (dw_lt _ _) (by decide) q) q0
      | false =>
        have eL : L ≠ 0 := fun y => nomatch hz0.mpr y
        refine ⟨fun q => absurd rfl q, fun _ => ?_⟩
        have ep : g4 0 &&& 1 = nI (L % 2) := by rw [v4 0 (by omega), nI_par, dw_par]
        by_cases hp : L % 2 = 0
        · refine ⟨_, _, ho1, rfl, ⟨64, g4, e4, 0, rfl, by decide, fun _ => ⟨fun q => absurd (show g4 0 &&& 1 = 0 by rw [ep, hp]; rfl) q, fun _ => ⟨_, _, ho1, rfl, ⟨0, 0, _, rm_half (o9 := 0) w4 k3 hn (by omega) hL (by decide), Nat.zero_le _, Nat.zero_le _, ?_⟩⟩⟩⟩⟩
          rintro _ h2 ⟨rfl, w42, F2⟩
          rw [Nat.zero_mul, Nat.add_zero] at w42
          have kM2 : MM h2 M mm hi n N s := ⟨(F2.2 M (by omega)).trans kM.1, wv_cg kM.2.1 (F2.2 mm (by omega)), k3, k4, k5, k6⟩
          refine ⟨_, _, (F2.2 a (by omega)).trans ho1, rfl, ⟨0, 0, _, rm_halves kM2 (wv_cg w6 (F2.2 _ (by omega))) k3 (by omega) (by omega) i3.1, Nat.zero_le _, Nat.zero_le _, ?_⟩⟩
          rintro _ h3 ⟨rfl, w63, F3⟩
          refine vm_Th (lv' := [(0, .ref a), (1, .ref M), (2, .ref b), (3, .ref c), (4, .int (nI n))]) (h' := h3) rfl rfl ?_
          refine ih (L / 2) R _ Y h3 (by split at hz <;> split <;> omega) ⟨wv_cg w42 (F3.2 _ (by omega)), wv_cg w5 ((F3.2 _ (by omega)).trans (F2.2 _ (by omega))), w63, wv_cg w7 ((F3.2 _ (by omega)).trans (F2.2 _ (by omega)))⟩ (IQ9_h hod iv hp) (fr_trans F (fr_trans (fr_mono F2 (fun q z => by omega)) (fr_mono F3 (fun q z => by omega))))
        · have hp1 : L % 2 = 1 := by omega
          refine ⟨_, _, ho1, rfl, ⟨64, g4, e4, 0, rfl, by decide, fun _ => ⟨fun _ => ?_, fun q => absurd q (show ¬ g4 0 &&& 1 = 0 by rw [ep, hp1]; decide)⟩⟩⟩
          refine vm_go rfl bX14_inversex_93 oX14_inversex_93 ⟨_, _, ho1, rfl, ⟨_, _, ho1, rfl, ⟨0, 0, _, rm_cmp w4 w5 k3 k3 hn hL hR, Nat.zero_le _, Nat.zero_le _, ?_⟩⟩⟩
          rintro r h1' ⟨hr, e9⟩
          rw [e9]; clear e9 h1'
          by_cases hlr : L < R
          · have er : r = some (.int (-1)) := by
              rcases hr with y | y | y
              · exact y.2
              · omega
              · omega
            rw [er]
            refine ⟨fun _ => ?_, fun q => absurd (show (-1 : Int32) < 0 by decide) q⟩
            refine vm_go rfl bX14_inversex_147 oX14_inversex_147 ⟨_, _, ho1, rfl, ⟨_, _, ho1, rfl, ⟨0, 0, _, rm_swap w4 w5 k3 k3 hn (by omega) (by omega) (by omega), Nat.zero_le _, Nat.zero_le _, ?_⟩⟩⟩
            rintro _ h2 ⟨rfl, w42, w52, F2⟩
            have ho2 : h2.2 a = RO a g := (F2.2 a (by omega)).trans ho1
            refine ⟨_, _, ho2, rfl, ⟨_, _, ho2, rfl, ⟨0, 0, _, rm_swap (wv_cg w6 (F2.2 _ (by omega))) (wv_cg w7 (F2.2 _ (by omega))) k3 k3 hn (by omega) (by omega) (by omega), Nat.zero_le _, Nat.zero_le _, ?_⟩⟩⟩
            rintro _ h3 ⟨rfl, w63, w73, F3⟩
            refine vm_Th (lv' := [(0, .ref a), (1, .ref M), (2, .ref b), (3, .ref c), (4, .int (nI n))]) (h' := h3) rfl rfl ?_
            refine ih R L Y X h3 (by rw [if_pos hlr] at hz; rw [if_neg (by omega)]; omega) ⟨wv_cg w42 (F3.2 _ (by omega)), wv_cg w52 (F3.2 _ (by omega)), w63, w73⟩ (IQ9_w iv hp1) (fr_trans F (fr_trans (fr_mono F2 (fun q z => by omega)) (fr_mono F3 (fun q z => by omega))))
          · have er : ∃ x : Int32, r = some (.int x) ∧ ¬ x < 0 := by
              rcases hr with y | y | y
              · omega
              · exact ⟨0, y.2, by decide⟩
              · exact ⟨1, y.2, by decide⟩
            obtain ⟨x, rfl, hx⟩ := er
            refine ⟨fun q => absurd q hx, fun _ => ⟨_, _, ho1, rfl, ⟨_, _, ho1, rfl, ⟨_, _, ho1, rfl, ⟨0, 0, _, rm_minus w4 w5 e4 k3 k3 k3 hn (by omega), Nat.zero_le _, Nat.zero_le _, ?_⟩⟩⟩⟩⟩
            rintro _ h2 ⟨rfl, ⟨t2, et, vt, _⟩, F2⟩
            have w42 : wv h2 64 (a + 4) n (L - R) := ⟨t2, et, fun k hk => by rw [vt k hk, dz_ge (by omega)]⟩
            have ho2 : h2.2 a = RO a g := (F2.2 a (by omega)).trans ho1
            have kM2 : MM h2 M mm hi n N s := ⟨(F2.2 M (by omega)).trans kM.1, wv_cg kM.2.1 (F2.2 mm (by omega)), k3, k4, k5, k6⟩
            have w62 := wv_cg w6 (F2.2 _ (by omega))
            obtain ⟨g6, e6, v6⟩ := id w62
            refine vm_less [0, 1, 2, 3, 4] rfl ?_
            refine vm_go rfl bX14_inversex_128 oX14_inversex_128 ⟨_, _, ho2, rfl, ⟨_, _, ho2, rfl, ⟨_, _, ho2, rfl, ⟨0, 0, _, rm_sub kM2 w62 (wv_cg w7 (F2.2 _ (by omega))) e6 k3 k3 k3 (by omega) (by omega) i3.1 i3.2, Nat.zero_le _, Nat.zero_le _, ?_⟩⟩⟩⟩
            rintro _ h3 ⟨rfl, ⟨t3, et3, vt3, _⟩, F3⟩
            refine vm_Th (lv' := [(0, .ref a), (1, .ref M), (2, .ref b), (3, .ref c), (4, .int (nI n))]) (h' := h3) rfl rfl ?_
            refine ih (L - R) R _ Y h3 (by split at hz <;> split <;> omega) ⟨wv_cg w42 (F3.2 _ (by omega)), wv_cg w5 ((F3.2 _ (by omega)).trans (F2.2 _ (by omega))), ⟨t3, et3, vt3⟩, wv_cg w7 ((F3.2 _ (by omega)).trans (F2.2 _ (by omega)))⟩ (IQ9_s iv (by omega)) (fr_trans F (fr_trans (fr_mono F2 (fun q z => by omega)) (fr_mono F3 (fun q z => by omega))))
  exact loop _ A N 1 0 hd (Nat.le_refl _) ⟨wa, wb9, wc, wd⟩ (IQ9_0 hod k6 hAN) Fd
end
