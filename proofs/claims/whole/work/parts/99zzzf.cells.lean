/-! the start: the old cells, and what the law needs of them -/
def z_str (k : Nat) : vm_Ob := match Nat.ble 16 k && Nat.blt k 56 with
  | true => (match k % 2 with
    | 0 => .inr (500, [.ref (1099511627776 + (k + 15)), .int 0])
    | _ => .inl (.byte, z_len.getD ((k - 17) / 2) 0, .inl (fun j => (z_byt.getD ((k - 17) / 2) []).getD j 0)))
  | false => vm_no
def z_O (L : Nat) (xs : Nat → Int32) (k : Nat) : vm_Ob := match k with
  | 0 => .inl (.int, L, .inl xs)
  | 1 => .inl (.int, 12, .inl (fun j => zB.getD j 0))
  | 2 => .inl (.int, 12, .inl (fun j => zP.getD j 0))
  | 3 => .inl (.int, 12, .inl (fun j => zQ.getD j 0))
  | 4 => .inl (.int, 8, .inl (fun j => zS2.getD j 0))
  | 5 => .inl (.int, 64, .inl (fun j => zK2.getD j 0))
  | 6 => .inl (.long, 8, .inr (.inl (fun j => zS3.getD j 0)))
  | 7 => .inl (.long, 80, .inr (.inl (fun j => zK3.getD j 0)))
  | 8 => .inl (.int, 12, .inl (fun j => zX.getD j 0))
  | 9 => .inl (.int, 12, .inl (fun j => zY.getD j 0))
  | 10 => .inl (.int, 8, .inl (fun j => zS2.getD j 0))
  | 11 => .inl (.long, 8, .inr (.inl (fun j => zS3.getD j 0)))
  | 12 => .inl (.int, 64, .inl (fun j => zK2.getD j 0))
  | 13 => .inl (.long, 80, .inr (.inl (fun j => zK3.getD j 0)))
  | k + 14 => z_str k
def z_h (L : Nat) (xs : Nat → Int32) : vm_H := (0, fun i => match Nat.ble 1099511627776 i with
  | true => z_O L xs (i - 1099511627776)
  | false => vm_no)
theorem z_h2 (L : Nat) (xs : Nat → Int32) (k : Nat) : (z_h L xs).2 (1099511627776 + k) = z_O L xs k := by
  show (match Nat.ble 1099511627776 (1099511627776 + k) with | true => z_O L xs (1099511627776 + k - 1099511627776) | false => vm_no) = _
  rw [Nat.ble_eq_true_of_le (Nat.le_add_right _ _), Nat.add_sub_cancel_left]
theorem z_strK {i : Nat} (hi : i < 20) : z_str (16 + 2 * i) = .inr (500, [.ref (1099511627776 + (16 + 2 * i + 15)), .int 0]) := by
  have e : (Nat.ble 16 (16 + 2 * i) && Nat.blt (16 + 2 * i) 56) = true := by
    rw [Nat.ble_eq_true_of_le (by omega), show Nat.blt (16 + 2 * i) 56 = true from Nat.ble_eq_true_of_le (by omega)]
    rfl
  unfold z_str
  rw [e, show (16 + 2 * i) % 2 = 0 by omega]
  rfl
theorem z_strV {i : Nat} (hi : i < 20) : z_str (17 + 2 * i) = .inl (.byte, z_len.getD i 0, .inl (fun j => (z_byt.getD i []).getD j 0)) := by
  have e : (Nat.ble 16 (17 + 2 * i) && Nat.blt (17 + 2 * i) 56) = true := by
    rw [Nat.ble_eq_true_of_le (by omega), show Nat.blt (17 + 2 * i) 56 = true from Nat.ble_eq_true_of_le (by omega)]
    rfl
  unfold z_str
  rw [e, show (17 + 2 * i) % 2 = 1 by omega, show (17 + 2 * i - 17) / 2 = i by omega]
  rfl
theorem z_sto {L : Nat} {xs : Nat → Int32} (i n : Nat) (c : Nat → Nat) (a : Nat) (ha : a = 1099511627776 + (30 + 2 * i)) (hi : i < 20) (hn : z_len.getD i 0 = n) (hc : ∀ j, j < n → (z_byt.getD i []).getD j 0 = sb (c j) ∧ c j < 256) : sto (z_h L xs) a n c := by
  subst ha
  refine ⟨Nat.le_add_right _ _, 1099511627776 + (16 + 2 * i + 15), Nat.le_add_right _ _, ?_, (fun j => (z_byt.getD i []).getD j 0), ?_, hc⟩
  · rw [z_h2, show 30 + 2 * i = (16 + 2 * i) + 14 by omega]
    exact z_strK hi
  · rw [z_h2, show 16 + 2 * i + 15 = (17 + 2 * i) + 14 by omega]
    refine (z_strV hi).trans ?_
    rw [hn]
theorem z_SV (L : Nat) (xs : Nat → Int32) : SV (z_h L xs) := ⟨(z_sto 0 (2 * 48) tP _ rfl (by decide) (by decide +kernel) (by decide +kernel)), (z_sto 1 (2 * 48) tR _ rfl (by decide) (by decide +kernel) (by decide +kernel)), (z_sto 2 (2 * 48) tB _ rfl (by decide) (by decide +kernel) (by decide +kernel)), (z_sto 3 (2 * 49) tG _ rfl (by decide) (by decide +kernel) (by decide +kernel)), (z_sto 4 (2 * 48) tQ _ rfl (by decide) (by decide +kernel) (by decide +kernel))⟩
def z_t : KT := (fun j => zS2.getD j 0, fun j => zK2.getD j 0, fun j => zS3.getD j 0, fun j => zK3.getD j 0)
theorem z_HK (L : Nat) (xs : Nat → Int32) : HK (z_h L xs) z_t.1 z_t.2.1 z_t.2.2.1 z_t.2.2.2 := ⟨z_h2 L xs 10, z_h2 L xs 12, z_h2 L xs 11, z_h2 L xs 13⟩
theorem z_EV (L : Nat) (xs : Nat → Int32) : EV z_t.1 z_t.2.1 z_t.2.2.1 z_t.2.2.2 (z_h L xs) := ⟨z_HK L xs, (z_sto 5 _ (gb tgG) _ rfl (by decide) (by decide +kernel) (by decide +kernel)), (z_sto 8 _ (gb tgS) _ rfl (by decide) (by decide +kernel) (by decide +kernel)), (z_sto 6 _ (gb tgE) _ rfl (by decide) (by decide +kernel) (by decide +kernel)), (z_sto 7 _ (gb tCo) _ rfl (by decide) (by decide +kernel) (by decide +kernel)), (z_sto 9 _ (gb tCh) _ rfl (by decide) (by decide +kernel) (by decide +kernel)), (z_sto 10 _ (gb tFi) _ rfl (by decide) (by decide +kernel) (by decide +kernel))⟩
theorem z_RW (L : Nat) (xs : Nat → Int32) : RW (z_h L xs) := ⟨(z_sto 15 _ (gb wHG) _ rfl (by decide) (by decide +kernel) (by decide +kernel)), (z_sto 19 _ (gb wHS) _ rfl (by decide) (by decide +kernel) (by decide +kernel)), (z_sto 18 _ (gb wSD) _ rfl (by decide) (by decide +kernel) (by decide +kernel)), (z_sto 16 _ (gb wOP) _ rfl (by decide) (by decide +kernel) (by decide +kernel)), (z_sto 17 _ (gb wPS) _ rfl (by decide) (by decide +kernel) (by decide +kernel)), (z_sto 7 _ (gb tCo) _ rfl (by decide) (by decide +kernel) (by decide +kernel)), (z_sto 9 _ (gb tCh) _ rfl (by decide) (by decide +kernel) (by decide +kernel)), (z_sto 10 _ (gb tFi) _ rfl (by decide) (by decide +kernel) (by decide +kernel))⟩
theorem z_RT (L : Nat) (xs : Nat → Int32) : RT (z_h L xs) z_t := ⟨z_RW L xs, z_h2 L xs 4, z_h2 L xs 5, z_h2 L xs 6, z_h2 L xs 7⟩
theorem z_RV (L : Nat) (xs : Nat → Int32) : RV (z_h L xs) := ⟨⟨(fun j => zB.getD j 0), z_h2 L xs 1, by decide +kernel⟩, ⟨(fun j => zP.getD j 0), z_h2 L xs 2, by decide +kernel⟩, ⟨(fun j => zQ.getD j 0), z_h2 L xs 3, by decide +kernel⟩⟩
theorem z_gx (L : Nat) (xs : Nat → Int32) : wv (z_h L xs) 12 (1099511627776 + 8) 12 cGX := ⟨(fun j => zX.getD j 0), z_h2 L xs 8, by decide +kernel⟩
theorem z_gy (L : Nat) (xs : Nat → Int32) : wv (z_h L xs) 12 (1099511627776 + 9) 12 cGY := ⟨(fun j => zY.getD j 0), z_h2 L xs 9, by decide +kernel⟩
