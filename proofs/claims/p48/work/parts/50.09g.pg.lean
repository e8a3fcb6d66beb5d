theorem m_rowLoop (F : Nat) (mf : Int32) (mrs mrows mfs : Nat → Int32) (x : Int32) {r : Nat} (hr : r < 6) (hF : 1000000 ≤ F) : fX6_row_l34 F (Int32.ofNat r) x mf mrs mfs F (0 : Int32) mrows = some (x, mf, mrs, (fun j => if 40 * r ≤ j ∧ j < 40 * r + 40 then 0 else mrows j), mfs) := by
  have key := loop_up (fun fu (a : Int32 × (Nat → Int32)) => fX6_row_l34 F (Int32.ofNat r) x mf mrs mfs fu a.1 a.2) 40 (fun k => (Int32.ofNat k, fun j => if 40 * r ≤ j ∧ j < 40 * r + k then 0 else mrows j)) (some (x, mf, mrs, (fun j => if 40 * r ≤ j ∧ j < 40 * r + 40 then 0 else mrows j), mfs)) ?_ ?_ F (by omega)
  · have e0 : (fun j => if 40 * r ≤ j ∧ j < 40 * r + 0 then (0 : Int32) else mrows j) = mrows := by
      funext j
      rw [if_neg (by omega)]
    dsimp only at key
    rw [e0] at key
    exact key
  · intro fu k hk
    have f0 : ((40 : Int32) ≤ Int32.ofNat k) = False := by
      rw [show (40 : Int32) = Int32.ofNat 40 from rfl, p_le (by omega) (by omega)]
      exact p_nle hk
    dsimp only
    rw [fX6_row_l34, fX6_row_l34_b, if_neg (of_eq_false f0), lin40, if_neg (p_ix (show 40 * r + k < 240 by omega) (by omega)), p_cl (show 40 * r + k < 2147483648 by omega), p_s]
    refine congrArg (fX6_row_l34 F (Int32.ofNat r) x mf mrs mfs fu (Int32.ofNat (k + 1))) ?_
    funext j
    rw [upd_at]
    by_cases h : j = 40 * r + k
    · rw [if_pos h, if_pos (by omega)]
    · rw [if_neg h]
      by_cases h2 : 40 * r ≤ j ∧ j < 40 * r + k
      · rw [if_pos h2, if_pos (by omega)]
      · rw [if_neg h2, if_neg (by omega)]
  · intro fu
    have f0 : ((40 : Int32) ≤ Int32.ofNat 40) = True := eq_true (by decide)
    dsimp only
    rw [fX6_row_l34, fX6_row_l34_b, if_pos (of_eq_true f0)]
theorem neg1_ge : ¬ ((0 : Int32) ≤ -1) := by decide
theorem nat_ne1 {m : Nat} (h : m < 2147483648) : ¬ (Int32.ofNat m = (-1 : Int32)) := fun q => by
  have := congrArg Int32.toInt q
  rw [p_ti h, show ((-1 : Int32)).toInt = -1 from by decide] at this
  omega
theorem place_rng (F : Nat) (x : Int32) {m : Nat} (hm : m < 2147483648) : ((x < 0 ∨ ¬ x < Int32.ofNat m) ∧ fX6_in F x.toInt64 (0 : Int64) ((Int32.ofNat m - 1).toInt64) = some 0) ∨ ∃ i, i < m ∧ x = Int32.ofNat i ∧ fX6_in F x.toInt64 (0 : Int64) ((Int32.ofNat m - 1).toInt64) = some 1 := by
  rcases rng_cases x (n := m) hm with h | ⟨k, hk, rfl⟩
  · refine Or.inl ⟨h.imp id Int32.not_lt.mpr, m_inF (n := m) hm (by decide) rfl h⟩
  · exact Or.inr ⟨k, hk, rfl, m_inT (n := m) hk hm (by decide) rfl⟩
theorem c_rpf0 (F : Nat) {rs : Nat → Int32} {r : Nat} (hr : r < 6) (g : rs r = -1) (x : Int32) : fX5_rowPlaceFinding F rs (Int32.ofNat r) x = some 1 := by
  unfold fX5_rowPlaceFinding
  rw [p_cl (by omega), if_neg (gx hr (by omega)), if_pos g]
theorem c_rpf2 (F : Nat) {rs : Nat → Int32} {r m : Nat} (hr : r < 6) (hm : m ≤ 40) (g : rs r = Int32.ofNat m) {x : Int32} (h : x < 0 ∨ ¬ x < Int32.ofNat m) : fX5_rowPlaceFinding F rs (Int32.ofNat r) x = some 2 := by
  unfold fX5_rowPlaceFinding
  rw [p_cl (by omega), if_neg (gx hr (by omega)), g, if_neg (nat_ne1 (by omega))]
  by_cases h0 : x < 0
  · rw [if_pos h0]
  · rw [if_neg h0, if_neg (gx hr (by omega)), if_neg (h.resolve_left h0)]
theorem c_rpf1 (F : Nat) {rs : Nat → Int32} {r m i : Nat} (hr : r < 6) (hm : m ≤ 40) (g : rs r = Int32.ofNat m) (hi : i < m) : fX5_rowPlaceFinding F rs (Int32.ofNat r) (Int32.ofNat i) = some 0 := by
  have f1 := p_neg (k := i) (by omega)
  have f2 : (Int32.ofNat i < Int32.ofNat m) = True := by rw [p_lt (by omega) (by omega)]; exact eq_true hi
  unfold fX5_rowPlaceFinding
  rw [p_cl (by omega), if_neg (gx hr (by omega)), g, if_neg (nat_ne1 (by omega)), if_neg (of_eq_false f1), if_neg (gx hr (by omega)), if_pos (of_eq_true f2)]
