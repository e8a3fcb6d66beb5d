theorem c_makeProg (F : Nat) (rs : Nat → Int32) (rm : Nat → Nat → Int32) {r N code : Nat} (hr : r < 6) (hN : N ≤ 6) (hc : code < 4096) (hF : 1000000 ≤ F) : fX5_makeProgramme F rs rm (Int32.ofNat r) (Int32.ofNat N) (Int32.ofNat code) = some (upd rs r (Int32.ofNat N), fun q i => if q = r ∧ i < N then Int32.ofNat (dig N code i) else rm q i) := by
  unfold fX5_makeProgramme
  rw [c_makeRow F rs rm hr (by omega) hF, bd2_mk]
  have key := loop_up (fun fu (a : Int32 × (Nat → Nat → Int32)) => fX5_makeProgramme_l9 F (Int32.ofNat r) (Int32.ofNat N) (Int32.ofNat code) (upd rs r (Int32.ofNat N)) fu a.1 a.2) N (fun k => (Int32.ofNat k, fun q i => if q = r ∧ i < N then (if i < k then Int32.ofNat (dig N code i) else 0) else rm q i)) (some (upd rs r (Int32.ofNat N), fun q i => if q = r ∧ i < N then Int32.ofNat (dig N code i) else rm q i)) ?_ ?_ F (by omega)
  · exact key
  · intro fu k hk
    have f0 : ¬ (Int32.ofNat N ≤ Int32.ofNat k) := of_eq_false (by rw [p_le (by omega) (by omega)]; exact p_nle hk)
    dsimp only
    rw [fX5_makeProgramme_l9, fX5_makeProgramme_l9_b, if_neg f0, if_neg (p_ix hr (by omega)), if_neg (p_ix (show k < 40 by omega) (by omega)), p_cl (show r < 2147483648 by omega), p_cl (show k < 2147483648 by omega), show Int32.ofNat N - (1 : Int32) - Int32.ofNat k = Int32.ofNat (N - 1 - k) by rw [show (1 : Int32) = Int32.ofNat 1 from rfl, p_sub (by omega), p_sub (by omega)], i_dig hc (by omega), p_s]
    refine congrArg (fX5_makeProgramme_l9 F (Int32.ofNat r) (Int32.ofNat N) (Int32.ofNat code) (upd rs r (Int32.ofNat N)) fu (Int32.ofNat (k + 1))) ?_
    funext q i
    rw [vaup_at]
    by_cases h1 : q = r
    · subst h1
      rw [if_pos rfl, upd_at]
      by_cases h2 : i = k
      · subst h2
        rw [if_pos rfl, if_pos ⟨rfl, hk⟩, if_pos (by omega)]
        rfl
      · rw [if_neg h2]
        by_cases h3 : i < N
        · rw [if_pos (show q = q ∧ i < N from ⟨rfl, h3⟩), if_pos (show q = q ∧ i < N from ⟨rfl, h3⟩)]
          by_cases h4 : i < k
          · rw [if_pos h4, if_pos (by omega)]
          · rw [if_neg h4, if_neg (by omega)]
        · rw [if_neg (fun z => h3 z.2), if_neg (fun z => h3 z.2)]
    · rw [if_neg h1, if_neg (fun z => h1 z.1), if_neg (fun z => h1 z.1)]
  · intro fu
    dsimp only
    rw [fX5_makeProgramme_l9, fX5_makeProgramme_l9_b, if_pos (Int32.le_refl _)]
    refine congrArg (fun z => some (upd rs r (Int32.ofNat N), z)) ?_
    funext q i
    by_cases h : q = r ∧ i < N
    · rw [if_pos h, if_pos h, if_pos h.2]
    · rw [if_neg h, if_neg h]
def layP (mr : Nat → Int32) (r N code : Nat) : Nat → Int32 := fun q => if 40 * r ≤ q ∧ q < 40 * r + 40 then (if q - 40 * r < N then Int32.ofNat (dig N code (q - 40 * r)) else 0) else mr q
theorem m_layProg (F : Nat) (mrs mr : Nat → Int32) {r N code : Nat} (hr : r < 6) (hN : N ≤ 6) (hc : code < 4096) (hF : 1000000 ≤ F) : fX6_layProgramme F mrs mr (Int32.ofNat N) (Int32.ofNat code) (Int32.ofNat r) = some (upd mrs r (Int32.ofNat N), layP mr r N code) := by
  unfold fX6_layProgramme
  rw [p_cl (show r < 2147483648 by omega), if_neg (gx hr (by omega))]
  have key := loop_up (fun fu (a : Int32 × (Nat → Int32)) => fX6_layProgramme_l10 F (Int32.ofNat N) (Int32.ofNat code) (Int32.ofNat r) (upd mrs r (Int32.ofNat N)) fu a.1 a.2) 40 (fun k => (Int32.ofNat k, fun q => if 40 * r ≤ q ∧ q < 40 * r + k then (if q - 40 * r < N then Int32.ofNat (dig N code (q - 40 * r)) else 0) else mr q)) (some (upd mrs r (Int32.ofNat N), layP mr r N code)) ?_ ?_ F (by omega)
  · have e0 : (fun q => if 40 * r ≤ q ∧ q < 40 * r + 0 then (if q - 40 * r < N then Int32.ofNat (dig N code (q - 40 * r)) else 0) else mr q) = mr := by
      funext q
      rw [if_neg (by omega)]
    dsimp only at key
    rw [e0] at key
    exact key
  · intro fu k hk
    have f0 : ¬ ((40 : Int32) ≤ Int32.ofNat k) := of_eq_false (by
      rw [show (40 : Int32) = Int32.ofNat 40 from rfl, p_le (by omega) (by omega)]
      exact p_nle hk)
    have hnk : (Int32.ofNat N ≤ Int32.ofNat k) = (N ≤ k) := p_le (by omega) (by omega)
    dsimp only
    rw [fX6_layProgramme_l10, fX6_layProgramme_l10_b, if_neg f0, lin40, p_cl (show 40 * r + k < 2147483648 by omega), if_neg (gx (show 40 * r + k < 240 by omega) (by omega)), if_neg (gx (show 40 * r + k < 240 by omega) (by omega)), p_s]
    by_cases hN2 : N ≤ k
    · rw [if_pos (by rw [hnk]; exact hN2)]
      refine congrArg (fX6_layProgramme_l10 F (Int32.ofNat N) (Int32.ofNat code) (Int32.ofNat r) (upd mrs r (Int32.ofNat N)) fu (Int32.ofNat (k + 1))) ?_
      funext q
      rw [upd_at]
      by_cases h : q = 40 * r + k
      · rw [if_pos h, if_pos (by omega), if_neg (by omega)]
      · rw [if_neg h]
        by_cases h2 : 40 * r ≤ q ∧ q < 40 * r + k
        · rw [if_pos h2, if_pos (show 40 * r ≤ q ∧ q < 40 * r + (k + 1) by omega)]
        · rw [if_neg h2, if_neg (show ¬ (40 * r ≤ q ∧ q < 40 * r + (k + 1)) by omega)]
    · rw [if_neg (by rw [hnk]; exact hN2), show Int32.ofNat N - (1 : Int32) - Int32.ofNat k = Int32.ofNat (N - 1 - k) by rw [show (1 : Int32) = Int32.ofNat 1 from rfl, p_sub (by omega), p_sub (by omega)], i_dig hc (by omega)]
      refine congrArg (fX6_layProgramme_l10 F (Int32.ofNat N) (Int32.ofNat code) (Int32.ofNat r) (upd mrs r (Int32.ofNat N)) fu (Int32.ofNat (k + 1))) ?_
      funext q
      rw [upd_at]
      by_cases h : q = 40 * r + k
      · rw [if_pos h, if_pos (by omega), if_pos (by omega), show q - 40 * r = k by omega]
        rfl
      · rw [if_neg h]
        by_cases h2 : 40 * r ≤ q ∧ q < 40 * r + k
        · rw [if_pos h2, if_pos (show 40 * r ≤ q ∧ q < 40 * r + (k + 1) by omega)]
        · rw [if_neg h2, if_neg (show ¬ (40 * r ≤ q ∧ q < 40 * r + (k + 1)) by omega)]
  · intro fu
    dsimp only
    rw [fX6_layProgramme_l10, fX6_layProgramme_l10_b, if_pos (by decide)]
    rfl
theorem rrow_prog {rs mrs mr : Nat → Int32} {rm : Nat → Nat → Int32} (h : RRow 6 40 rs rm mrs mr) {r N code : Nat} (hr : r < 6) (hN : N ≤ 6) : RRow 6 40 (upd rs r (Int32.ofNat N)) (fun q i => if q = r ∧ i < N then Int32.ofNat (dig N code i) else rm q i) (upd mrs r (Int32.ofNat N)) (layP mr r N code) := by
  refine rrow_set h (r := r) (N : Int) (by omega) (by omega) (by rw [upd_at, if_pos rfl, p_nz]) (by rw [upd_at, if_pos rfl, p_nz]) ?_ ?_
  · intro i hi
    unfold layP
    rw [if_pos ⟨rfl, by omega⟩, if_pos (by omega), if_pos (by omega), show 40 * r + i - 40 * r = i by omega]
  · intro q hq hne
    refine ⟨by rw [upd_at, if_neg hne], by rw [upd_at, if_neg hne], fun i hi => ⟨by rw [if_neg (fun z => hne z.1)], ?_⟩⟩
    unfold layP
    rw [if_neg (by omega)]
def amN (f : Nat → Nat) : Nat → Nat
  | 0 => 0
  | k + 1 => if mxN f k < f k then k else amN f k
theorem amN_spec {f : Nat → Nat} : ∀ k, amN f (k + 1) < k + 1 ∧ f (amN f (k + 1)) = mxN f (k + 1) ∧ ∀ j, j < amN f (k + 1) → f j < mxN f (k + 1)
  | 0 => by
    have e : amN f (0 + 1) = 0 := by
      rw [amN]
      by_cases h : mxN f 0 < f 0
      · rw [if_pos h]
      · rw [if_neg h]; rfl
    rw [e, mxN]
    exact ⟨by omega, (Nat.max_eq_right (Nat.zero_le _)).symm, fun j hj => absurd hj (Nat.not_lt_zero j)⟩
  | k + 1 => by
    obtain ⟨h1, h2, h3⟩ := amN_spec (f := f) k
    rw [amN, show mxN f (k + 1 + 1) = max (mxN f (k + 1)) (f (k + 1)) from rfl]
    by_cases h : mxN f (k + 1) < f (k + 1)
    · rw [if_pos h, Nat.max_eq_right (by omega)]
      exact ⟨by omega, rfl, fun j hj => Nat.lt_of_le_of_lt (mxN_ge (k + 1) j hj) h⟩
    · rw [if_neg h, Nat.max_eq_left (by omega)]
      exact ⟨by omega, h2, h3⟩
theorem amN_fst {f : Nat → Nat} {N : Nat} (hN : 0 < N) : fstO (fun k => decide (mxN f N ≤ f k)) N = some (amN f N) := by
  obtain ⟨k, rfl⟩ : ∃ k, N = k + 1 := ⟨N - 1, by omega⟩
  obtain ⟨h1, h2, h3⟩ := amN_spec (f := f) k
  exact (fstO_some _ _).mpr ⟨h1, decide_eq_true (by omega), fun j hj => decide_eq_false (by have := h3 j hj; omega)⟩
