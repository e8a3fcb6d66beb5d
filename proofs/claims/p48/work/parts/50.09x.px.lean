theorem gcd_pow {q j m : Nat} (hj : j ≤ m) (h : j = m ∨ q % 2 = 1) : Nat.gcd (2 ^ j * q) (2 ^ m) = 2 ^ j := by
  have e : 2 ^ m = 2 ^ j * 2 ^ (m - j) := by rw [← Nat.pow_add]; congr 1; omega
  rw [e, Nat.gcd_mul_left]
  have : Nat.gcd q (2 ^ (m - j)) = 1 := by
    rcases h with h | h
    · subst h
      rw [Nat.sub_self, Nat.pow_zero, Nat.gcd_one_right]
    · have h2 : Nat.Coprime q 2 := by
        show Nat.gcd q 2 = 1
        rw [Nat.gcd_comm, Nat.gcd_rec, h]
        rfl
      exact Nat.Coprime.pow_right _ h2
  rw [this, Nat.mul_one]
theorem q_odd {q : Nat} (h : q < 9223372036854775808) : (lg_cmp (Int64.ofNat q - Int64.ofNat q / (2 : Int64) * (2 : Int64)) (0 : Int64) = 0) = (q % 2 = 0) := by
  rw [lgc_eq, show (2 : Int64) = Int64.ofNat 2 from rfl, ← Int64.ofNat_div (by omega) (by decide), ← Int64.ofNat_mul, ← Int64.ofNat_sub _ _ (by omega), show (0 : Int64) = Int64.ofNat 0 from rfl, ← Int64.toInt_inj, Int64.toInt_ofNat_of_lt (by omega), Int64.toInt_ofNat_of_lt (by omega)]
  exact propext ⟨fun q => by omega, fun q => by omega⟩
theorem q_half {q : Nat} (h : q < 9223372036854775808) : Int64.ofNat q / (2 : Int64) = Int64.ofNat (q / 2) := by
  rw [show (2 : Int64) = Int64.ofNat 2 from rfl, ← Int64.ofNat_div (by omega) (by decide)]
theorem tell_tab : ∀ N, N < 7 → (1 : Int64) <<< (((2 : Int32) * Int32.ofNat N).toInt64 &&& 63) = Int64.ofNat (4 ^ N) := by decide +kernel
theorem mid_tab : ∀ p, p < 7 → ∀ N, N < 7 → (Int32.ofNat p).toInt64 <<< (((2 : Int32) * Int32.ofNat N).toInt64 &&& 63) = Int64.ofNat (p * 4 ^ N) := by decide +kernel
theorem c_tell (F : Nat) (up lo : Int64) {a N : Nat} (hN : N ≤ 6) (ha : a < 1000000) (hF : 1000000 ≤ F) : fX5_tellShare F up lo (Int64.ofNat a) (Int32.ofNat N) = some (Int64.ofNat (a / Nat.gcd a (4 ^ N)), Int64.ofNat (4 ^ N / Nat.gcd a (4 ^ N))) := by
  unfold fX5_tellShare
  have hp4 := pow4_le hN
  rw [tell_tab N (by omega)]
  have fin : ∀ j q, j ≤ 2 * N → a = 2 ^ j * q → (j = 2 * N ∨ q % 2 = 1) → a / Nat.gcd a (4 ^ N) = q ∧ 4 ^ N / Nat.gcd a (4 ^ N) = 2 ^ (2 * N - j) := by
    intro j q hj e h
    rw [← pow24, e, gcd_pow hj h, Nat.mul_div_cancel_left _ (Nat.pow_pos (by decide)), Nat.pow_div hj (by decide)]
    exact ⟨rfl, rfl⟩
  refine loop_inv (fun fu (x : Int32 × Int64 × Int64) => fX5_tellShare_l17 F (Int32.ofNat N) fu x.1 x.2.1 x.2.2) (2 * N) (fun j x => x.1 = Int32.ofNat j ∧ ∃ q, a = 2 ^ j * q ∧ x.2.1 = Int64.ofNat q ∧ x.2.2 = Int64.ofNat (2 ^ (2 * N - j))) (fun o => o = some (Int64.ofNat (a / Nat.gcd a (4 ^ N)), Int64.ofNat (4 ^ N / Nat.gcd a (4 ^ N)))) ?_ ?_ F (0, Int64.ofNat a, Int64.ofNat (4 ^ N)) (by omega) ⟨rfl, a, by rw [Nat.pow_zero, Nat.one_mul], rfl, by rw [Nat.sub_zero, pow24]⟩
  · rintro fu j ⟨x4, u, l⟩ hj ⟨e1, q, hq, e2, e3⟩
    dsimp only at e1 e2 e3
    subst e1; subst e2; subst e3
    have hqa : q ≤ a := by rw [hq]; exact Nat.le_mul_of_pos_left _ (Nat.pow_pos (by decide))
    have hl : 2 ^ (2 * N - j) ≤ 4 ^ N := by rw [← pow24]; exact Nat.pow_le_pow_right (by decide) (by omega)
    have f0 : ¬ ((2 : Int32) * Int32.ofNat N ≤ Int32.ofNat j) := of_eq_false (by rw [show (2 : Int32) = Int32.ofNat 2 from rfl, p_mul, p_le (by omega) (by omega)]; exact p_nle hj)
    dsimp only
    rw [fX5_tellShare_l17, fX5_tellShare_l17_b, if_neg f0, p_s, q_half (by omega), q_half (by omega)]
    have hodd := q_odd (q := q) (by omega)
    rw [q_half (by omega)] at hodd
    by_cases h : q % 2 = 0
    · rw [if_pos (by rw [hodd]; exact h)]
      have e4 : 2 ^ (2 * N - j) / 2 = 2 ^ (2 * N - (j + 1)) := by
        rw [show 2 * N - j = (2 * N - (j + 1)) + 1 by omega, Nat.pow_succ, Nat.mul_div_cancel _ (by decide)]
      rw [e4]
      refine Or.inl ⟨(Int32.ofNat (j + 1), Int64.ofNat (q / 2), Int64.ofNat (2 ^ (2 * N - (j + 1)))), ⟨rfl, q / 2, ?_, rfl, rfl⟩, rfl⟩
      rw [Nat.pow_succ, Nat.mul_assoc, show 2 * (q / 2) = q by omega]
      exact hq
    · rw [if_neg (by rw [hodd]; exact h)]
      obtain ⟨g1, g2⟩ := fin j q (by omega) hq (Or.inr (by omega))
      rw [g1, g2]
      exact Or.inr rfl
  · rintro fu ⟨x4, u, l⟩ ⟨e1, q, hq, e2, e3⟩
    dsimp only at e1 e2 e3
    subst e1; subst e2; subst e3
    have f0 : (2 : Int32) * Int32.ofNat N ≤ Int32.ofNat (2 * N) := by
      rw [show (2 : Int32) = Int32.ofNat 2 from rfl, p_mul]
      exact Int32.le_refl _
    obtain ⟨g1, g2⟩ := fin (2 * N) q (by omega) hq (Or.inl rfl)
    dsimp only
    rw [fX5_tellShare_l17, fX5_tellShare_l17_b, if_pos f0, g1, g2]
theorem q_mod {x y : Nat} (hx : x < 9223372036854775808) (hy : y < 9223372036854775808) : Int64.ofNat x - Int64.ofNat x / Int64.ofNat y * Int64.ofNat y = Int64.ofNat (x % y) := by
  have h := Nat.div_add_mod x y
  rw [Nat.mul_comm] at h
  rw [← Int64.ofNat_div (by omega) (by omega), ← Int64.ofNat_mul, ← Int64.ofNat_sub _ _ (by omega)]
  refine congrArg Int64.ofNat ?_
  omega
theorem q_e0 {x : Nat} (hx : x < 9223372036854775808) : (Int64.ofNat x = 0) = (x = 0) := by
  rw [show (0 : Int64) = Int64.ofNat 0 from rfl, ← Int64.toInt_inj, Int64.toInt_ofNat_of_lt (by omega), Int64.toInt_ofNat_of_lt (by omega)]
  exact propext ⟨fun q => by omega, fun q => by omega⟩
theorem frac_l (F : Nat) (mu ml x1 x3 : Int64) : ∀ fu x y, y < fu → x < 1000000 → y < 1000000 → 0 < Nat.gcd x y → fX6_fraction_l6 F x1 x3 mu ml fu (Int64.ofNat x) (Int64.ofNat y) = some (1, x1 / Int64.ofNat (Nat.gcd x y), x3 / Int64.ofNat (Nat.gcd x y)) := by
  intro fu
  induction fu with
  | zero => intro x y h; exact absurd h (Nat.not_lt_zero y)
  | succ fu ih =>
    intro x y h hx hy hg
    have w : (lg_cmp (Int64.ofNat y) (0 : Int64) = 0) = (y = 0) := by rw [lgc_eq, q_e0 (by omega)]
    rw [fX6_fraction_l6, fX6_fraction_l6_b]
    by_cases h0 : y = 0
    · subst h0
      rw [Nat.gcd_zero_right] at hg ⊢
      have wx : ¬ (Int64.ofNat x = 0) := by rw [q_e0 (by omega)]; omega
      rw [if_pos (by rw [w]), if_neg wx, if_neg wx]
    · have wy : ¬ (Int64.ofNat y = 0) := by rw [q_e0 (by omega)]; exact h0
      have hm : x % y < y := Nat.mod_lt _ (by omega)
      have hgc : Nat.gcd x y = Nat.gcd y (x % y) := by rw [Nat.gcd_comm, Nat.gcd_rec, Nat.gcd_comm]
      rw [if_neg (by rw [w]; exact h0), if_neg wy, q_mod (by omega) (by omega), hgc]
      exact ih y (x % y) (by omega) hy (by omega) (hgc ▸ hg)
theorem m_frac (F : Nat) (mu ml : Int64) {a N : Nat} (hN : N ≤ 6) (ha : a < 1000000) (hF : 1000000 ≤ F) : fX6_fraction F mu ml (Int64.ofNat a) (Int64.ofNat (4 ^ N)) = some (1, Int64.ofNat (a / Nat.gcd a (4 ^ N)), Int64.ofNat (4 ^ N / Nat.gcd a (4 ^ N))) := by
  have hp4 := pow4_le hN
  have hp0 : 0 < 4 ^ N := Nat.pow_pos (by decide)
  have hg : 0 < Nat.gcd a (4 ^ N) := Nat.gcd_pos_of_pos_right _ hp0
  have hgl : Nat.gcd a (4 ^ N) ≤ 4 ^ N := Nat.gcd_le_right _ hp0
  unfold fX6_fraction
  rw [frac_l F mu ml _ _ F a (4 ^ N) (by omega) ha (by omega) hg, ← Int64.ofNat_div (by omega) (by omega), ← Int64.ofNat_div (by omega) (by omega)]
theorem sumN_sub {f : Nat → Nat} {m : Nat} : ∀ k, (∀ j, j < k → f j ≤ m) → sumN (fun j => m - f j) k + sumN f k = m * k
  | 0, _ => by rw [Nat.mul_zero]; rfl
  | k + 1, h => by
    have h1 := sumN_sub (f := f) (m := m) k (fun j hj => h j (by omega))
    have h2 := h k (by omega)
    rw [sumN, sumN, Nat.mul_succ]
    omega
