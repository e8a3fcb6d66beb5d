theorem did_c1 : ∀ k : Nat, k < 10 → (Int32.ofInt ((k : Int) - 4) - (-4 : Int32) = Int32.ofNat k ∧ Int32.ofInt ((k : Int) - 4) + 1 = Int32.ofInt (((k + 1 : Nat) : Int) - 4) ∧ Int32.ofNat k - (4 : Int32) = Int32.ofInt ((k : Int) - 4) ∧ ¬ ((5 : Int32) < Int32.ofInt ((k : Int) - 4))) := by decide +kernel
theorem all_st : ∀ n, n ≤ 6 → (1 : Int32) <<< (Int32.ofNat n &&& 31) = Int32.ofNat (2 ^ n) ∧ st (fun i => decide (i < n)) = Int32.ofNat (2 ^ n) - 1 ∧ 2 ^ n ≤ 64 ∧ 0 < 2 ^ n := by
  intro n hn
  rcases (show n = 0 ∨ n = 1 ∨ n = 2 ∨ n = 3 ∨ n = 4 ∨ n = 5 ∨ n = 6 by omega) with rfl | rfl | rfl | rfl | rfl | rfl | rfl <;> decide
theorem st_bits : ∀ k, k < 64 → Int32.ofNat k = st (fun i => k.testBit i) := by decide +kernel
theorem below_st : ∀ i, i < 6 → (1 : Int32) <<< (Int32.ofNat i &&& 31) - 1 = st (fun j => decide (j < i)) := by decide +kernel
theorem pop_pos {p : Nat → Bool} {i : Nat} (hi : i < 6) (h : p i = true) : 0 < pop p := by
  unfold pop
  rcases (show i = 0 ∨ i = 1 ∨ i = 2 ∨ i = 3 ∨ i = 4 ∨ i = 5 by omega) with rfl | rfl | rfl | rfl | rfl | rfl <;> rw [h] <;> simp only [Bool.toNat_true] <;> omega
