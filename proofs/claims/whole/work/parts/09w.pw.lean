theorem c_makeProg (F : Nat) (rs : Nat → Int32) (rm : Nat → Nat → Int32) {r N code : Nat} (hr : r < 6) (hN : N ≤ 6) (hc : code < 4096) (hF : 1000000 ≤ F) : fX5_makeProgramme F rs rm (Int32.ofNat r) (Int32.ofNat N) (Int32.ofNat code) = some (upd rs r (Int32.ofNat N), fun q i => if q = r ∧ i < N then Int32.ofNat (dig N code i) else rm q i) := by
  unfold fX5_makeProgramme
  rw [c_makeRow F rs rm hr (by omega) hF, bd2_mk]
  have key := loop_up (fun fu (a : Int32 × (Nat → Nat → Int32)) => fX5_makeProgramme_l9 F (Int32.ofNat r) (Int32.ofNat N) (Int32.ofNat code) (upd rs r (Int32.ofNat N)) fu a.1 a.2) N (fun k => (Int32.ofNat k, fun q i => if q = r ∧ i < N then (if i < k then Int32.ofNat (dig N code i) else 0) else rm q i)) (some (upd rs r (Int32.ofNat N), fun q i => if q = r ∧ i < N then Int32.ofNat (dig N code i) else rm q i)) ?_ ?_ F (by omega)
  · exact key
  · intro fu k hk
    have f0 : ¬ (Int32.ofNat N ≤ Int32.ofNat k) := of_eq_false (by rw [p_le (by omega) (by omega)]; exact p_nle hk)
    dsimp only
    rw [fX5_makeProgramme_l9, fX5_makeProgramme_l9_b, if_neg f0, if_neg (p_ix hr (by omega)), if_neg (p_ix (show k < 40 by omega) (by omega)), p_cl (show r < 2147483648 by omega), p_cl (show k < 2147483648 by omega), show Int32.ofNat N - (1 : Int32) - Int32.ofNat k = Int32.ofNat (N - 1 - k) by rw [show (1 : Int32) = Int32.ofNat 1 from rfl, p_sub (by omega), p_sub (by omega)], i_dig hc (by omega), p_s]
    refine congrArg (fX5_makeProgramme_l9 F (Int32.ofNat r) (Int32.ofNat N) (Int32.ofNat code) (upd rs r (Int32.ofNat N)) fu (Int32.ofNat (k + 1))) ?_
    funext q i
    rw [vaup_at]
    by_cases h1 : q = r
    · subst h1
      rw [if_pos rfl, upd_at]
      by_cases h2 : i = k
      · subst h2
        rw [if_pos rfl, if_pos ⟨rfl, hk⟩, if_pos (by omega)]
        rfl
      · rw [if_neg h2]
        by_cases h3 : i < N
        · rw [if_pos (show q = q ∧ i < N from ⟨rfl, h3⟩), if_pos (show q = q ∧ i < N from ⟨rfl, h3⟩)]
          by_cases h4 : i < k
          · rw [if_pos h4, if_pos (by omega)]
          · rw [if_neg h4, if_neg (by omega)]
        · rw [if_neg (fun z => h3 z.2), if_neg (fun z => h3 z.2)]
    · rw [if_neg h1, if_neg (fun z => h1 z.1), if_neg (fun z => h1 z.1)]
  · intro fu
    dsimp only
    rw [fX5_makeProgramme_l9, fX5_makeProgramme_l9_b, if_pos (Int32.le_refl _)]
    refine congrArg (fun z => some (upd rs r (Int32.ofNat N), z)) ?_
    funext q i
    by_cases h : q = r ∧ i < N
    · rw [if_pos h, if_pos h, if_pos h.2]
    · rw [if_neg h, if_neg h]
def layP (mr : Nat → Int32) (r N code : Nat) : Nat → Int32 := fun q => if 40 * r ≤ q ∧ q < 40 * r + 40 then (if q - 40 * r < N then Int32.ofNat (dig N code (q - 40 * r)) else 0) else mr q
theorem m_layProg (F : Nat) (mrs mr : Nat → Int32) {r N code : Nat} (hr : r < 6) (hN : N ≤ 6) (hc : code < 4096) (hF : 1000000 ≤ F) : fX6_layProgramme F mrs mr (Int32.ofNat N) (Int32.ofNat code) (Int32.ofNat r) = some (upd mrs r (Int32.ofNat N), layP mr r N code) := by
  unfold fX6_layProgramme
  rw [p_cl (show r < 2147483648 by omega), if_neg (gx hr (by omega))]
  have key := loop_up (fun fu (a : Int32 × (Nat → Int32)) => fX6_layProgramme_l10 F (Int32.ofNat N) (Int32.ofNat code) (Int32.ofNat r) (upd mrs r (Int32.ofNat N)) fu a.1 a.2) 40 (fun k => (Int32.ofNat k, fun q => if 40 * r ≤ q ∧ q < 40 * r + k then (if q - 40 * r < N then Int32.ofNat (dig N code (q - 40 * r)) else 0) else mr q)) (some (upd mrs r (Int32.ofNat N), layP mr r N code)) ?_ ?_ F (by omega)
  · have e0 : (fun q => if 40 * r ≤ q ∧ q < 40 * r + 0 then (if q - 40 * r < N then Int32.ofNat (dig N code (q - 40 * r)) else 0) else mr q) = mr := by
      funext q
      rw [if_neg (by omega)]
    dsimp only at key
    rw [e0] at key
    exact key
  · intro fu k hk
    have f0 : ¬ ((40 : Int32) ≤ Int32.ofNat k) := of_eq_false (by
      rw [show (40 : Int32) = Int32.ofNat 40 from rfl, p_le (by omega) (by omega)]
      exact p_nle hk)
    have hnk : (Int32.ofNat N ≤ Int32.ofNat k) = (N ≤ k) := p_le (by omega) (by omega)
    dsimp only
    rw [fX6_layProgramme_l10, fX6_layProgramme_l10_b, if_neg f0, lin40, p_cl (show 40 * r + k < 2147483648 by omega), if_neg (gx (show 40 * r + k < 240 by omega) (by omega)), if_neg (gx (show 40 * r + k < 240 by omega) (by omega)), p_s]
    by_cases hN2 : N ≤ k
    · rw [if_pos (by rw [hnk]; exact hN2)]
      refine congrArg (fX6_layProgramme_l10 F (Int32.ofNat N) (Int32.ofNat code) (Int32.ofNat r) (upd mrs r (Int32.ofNat N)) fu (Int32.ofNat (k + 1))) ?_
      funext q
      rw [upd_at]
      by_cases h : q = 40 * r + k
      · rw [if_pos h, if_pos (by omega), if_neg (by omega)]
      · rw [if_neg h]
        by_cases h2 : 40 * r ≤ q ∧ q < 40 * r + k
        · rw [if_pos h2, if_pos (show 40 * r ≤ q ∧ q < 40 * r + (k + 1) by omega)]
        · rw [if_neg h2, if_neg (show ¬ (40 * r ≤ q ∧ q < 40 * r + (k + 1)) by omega)]
    · rw [if_neg (by rw [hnk]; exact hN2), show Int32.ofNat N - (1 : Int32) - Int32.ofNat k = Int32.ofNat (N - 1 - k) by rw [show (1 : Int32) = Int32.ofNat 1 from rfl, p_sub (by omega), p_sub (by omega)], i_dig hc (by omega)]
      refine congrArg (fX6_layProgramme_l10 F (Int32.ofNat N) (Int32.ofNat code) (Int32.ofNat r) (upd mrs r (Int32.ofNat N)) fu (Int32.ofNat (k + 1))) ?_
      funext q
      rw [upd_at]
      by_cases h : q = 40 * r + k
      · rw [if_pos h, if_pos (by omega), if_pos (by omega), show q - 40 * r = k by omega]
        rfl
      · rw [if_neg h]
        by_cases h2 : 40 * r ≤ q ∧ q < 40 * r + k
        · rw [if_pos h2, if_pos (show 40 * r ≤ q ∧ q < 40 * r + (k + 1) by omega)]
        · rw [if_neg h2, if_neg (show ¬ (40 * r ≤ q ∧ q < 40 * r + (k + 1)) by omega)]
  · intro fu
    dsimp only
    rw [fX6_layProgramme_l10, fX6_layProgramme_l10_b, if_pos (by decide)]
    rfl
theorem rrow_prog {rs mrs mr : Nat → Int32} {rm : Nat → Nat → Int32} (h : RRow 6 40 rs rm mrs mr) {r N code : Nat} (hr : r < 6) (hN : N ≤ 6) : RRow 6 40 (upd rs r (Int32.ofNat N)) (fun q i => if q = r ∧ i < N then Int32.ofNat (dig N code i) else rm q i) (upd mrs r (Int32.ofNat N)) (layP mr r N code) := by
  refine rrow_set h (r := r) (N : Int) (by omega) (by omega) (by rw [upd_at, if_pos rfl, p_nz]) (by rw [upd_at, if_pos rfl, p_nz]) ?_ ?_
  · intro i hi
    unfold layP
    rw [if_pos ⟨rfl, by omega⟩, if_pos (by omega), if_pos (by omega), show 40 * r + i - 40 * r = i by omega]
  · intro q hq hne
    refine ⟨by rw [upd_at, if_neg hne], by rw [upd_at, if_neg hne], fun i hi => ⟨by rw [if_neg (fun z => hne z.1)], ?_⟩⟩
    unfold layP
    rw [if_neg (by omega)]
theorem sp_first : SP_first := by
  intro F rs rm ts tm rdue rtun rsee rbeg psize pclause peff pkin pgri psig psee qsize qclause qeff qkin qgri qsig qsee cdee cnow cahe kdee know kahe fc lf told up lo mguests mclause mdeeds masked mupper mlower mfinding mreadGuests misSight mat mrowSizes mrows mtextSizes mtexts mdoes mkinds msees mnow mbefore mkeeps mkept mfindings mread maside msteps mtried mbest x1 x2 hF hR
  obtain ⟨n, c, E, K, S, hP, hC, hKp, hRo, hTe, rfl, rfl, rfl, rfl, hfc⟩ := hR
  have hpc := pc_of hP
  have hpm := pm_of hP
  obtain ⟨hn, rfl, rfl, hc, rfl, rfl, hE, hK, hS, hSn⟩ := id hP
  obtain ⟨d, hd, rfl, rfl, ⟨s, hs, rfl, hm⟩, hah⟩ := id hC
  rcases length_c F hn x1 with ⟨a1, a2⟩ | ⟨N, hN, rfl, a1, a2⟩
  · rcases row_c F x2 with ⟨b1, b2⟩ | ⟨r, hr, rfl, b1, b2⟩
    · exact ⟨_, _, _, _, _, _, by unfold fX5_first; rw [b1]; rfl, by unfold fX6_first; rw [a2]; rfl, n, c, E, K, S, hP, hC, hKp, hRo, hTe, rfl, rfl, rfl, rfl, hfc⟩
    · exact ⟨_, _, _, _, _, _, by unfold fX5_first; rw [b1, bd1_mk, if_neg (by decide), a1]; rfl, by unfold fX6_first; rw [a2]; rfl, n, c, E, K, S, hP, hC, hKp, hRo, hTe, rfl, rfl, rfl, rfl, hfc⟩
  rcases row_c F x2 with ⟨b1, b2⟩ | ⟨r, hr, rfl, b1, b2⟩
  · exact ⟨_, _, _, _, _, _, by unfold fX5_first; rw [b1]; rfl, by unfold fX6_first; rw [a2, bd1_mk, if_neg (by decide), b2]; rfl, n, c, E, K, S, hP, hC, hKp, hRo, hTe, rfl, rfl, rfl, rfl, hfc⟩
  by_cases h0 : n = 0
  · subst h0
    exact ⟨_, _, _, _, _, _, by unfold fX5_first; rw [b1, bd1_mk, if_neg (by decide), a1]; rfl, by unfold fX6_first; rw [a2, bd1_mk, if_neg (by decide), b2]; rfl, 0, c, E, K, S, hP, hC, hKp, hRo, hTe, rfl, rfl, rfl, rfl, hfc⟩
  have hn0 : ¬ (Int32.ofNat n = 0) := by rw [p_e0 (by omega)]; exact h0
  have hp4 := pow4_le hN
  have hpl : inP s ≤ 6 := pop_le _
  rw [if_neg h0] at a1
  have hfl := c_firstLeaving F hpc hF hpl N 8 s 0 (by omega) hN (by omega) hs
  have e5 : fX5_first F rs rm (Int32.ofNat n) (Int32.ofNat c) peff pkin psee (enc s) (Int32.ofNat N) (Int32.ofNat r) = (if bW ((fstO (fun k => decide (inP s ≤ lv c E K S N s k)) (4 ^ N)).map (fun k => 0 * 4 ^ N + k)) = (-9 : Int32) then (some ((-9 : Int32), rs, rm)) else (bd2 (fX5_makeProgramme F rs rm (Int32.ofNat r) (Int32.ofNat N) (bW ((fstO (fun k => decide (inP s ≤ lv c E K S N s k)) (4 ^ N)).map (fun k => 0 * 4 ^ N + k)))) fun w66_rs w66_rm => some (Int32.ofNat N, w66_rs, w66_rm))) := by
    unfold fX5_first fX5_first_n16
    rw [b1, bd1_mk, if_neg (by decide), a1, bd1_mk, if_pos rfl, c_many_in F hs.hb, bd1_mk]
    rw [show (0 : Int32) = Int32.ofNat 0 from rfl, show pop (fun i => (s i).isSome) = inP s from rfl, hfl, bd1_mk]
  have q6 : (∃ z, fX6_first F (Int32.ofNat n) (Int32.ofNat c) mrowSizes mrows mdoes mkinds msees mnow maside (Int32.ofNat N) (Int32.ofNat r) = some (-9, mrowSizes, mrows, z) ∧ fstO (fun k => decide (inP s ≤ lv c E K S N s k)) (4 ^ N) = none) ∨ ∃ k z, fstO (fun k => decide (inP s ≤ lv c E K S N s k)) (4 ^ N) = some k ∧ fX6_first F (Int32.ofNat n) (Int32.ofNat c) mrowSizes mrows mdoes mkinds msees mnow maside (Int32.ofNat N) (Int32.ofNat r) = some (Int32.ofNat N, upd mrowSizes r (Int32.ofNat N), layP mrows r N k, z) := by
    unfold fX6_first
    rw [a2, bd1_mk, if_neg (by decide), b2, bd1_mk, if_neg (by decide), if_neg hn0]
    refine loop_inv (fun fu (a : Int32 × (Nat → Int32)) => fX6_first_l28 F (Int32.ofNat n) (Int32.ofNat c) mdoes mkinds msees mnow (Int32.ofNat N) (Int32.ofNat r) mrowSizes mrows fu a.1 a.2) (4 ^ N) (fun k a => a.1 = Int32.ofNat k ∧ fstO (fun k => decide (inP s ≤ lv c E K S N s k)) k = none) (fun o => (∃ z, o = some (-9, mrowSizes, mrows, z) ∧ fstO (fun k => decide (inP s ≤ lv c E K S N s k)) (4 ^ N) = none) ∨ ∃ k z, fstO (fun k => decide (inP s ≤ lv c E K S N s k)) (4 ^ N) = some k ∧ o = some (Int32.ofNat N, upd mrowSizes r (Int32.ofNat N), layP mrows r N k, z)) ?_ ?_ F (0, maside) (by omega) ⟨rfl, rfl⟩
    · rintro fu k ⟨x3, a⟩ hk ⟨e1, e2⟩
      dsimp only at e1 e2
      subst e1
      have f0 : ¬ (Int32.ofNat (4 ^ N) ≤ Int32.ofNat k) := of_eq_false (by rw [p_le (by omega) (by omega)]; exact p_nle hk)
      obtain ⟨a', q1, q2⟩ := m_fallen F (maside := a) hpm hs hm hN (show k < 4096 by omega) hF
      have hle := lv_le (c := c) (E := E) (K := K) (S := S) (n := N) (code := k) (s := s)
      have hz := z_eq hle (show inP s < 2147483648 by omega)
      dsimp only
      rw [fX6_first_l28, fX6_first_l28_b, m_codes F hN, bd1_mk, if_neg f0, q1, bd2_mk, p_s]
      by_cases h : lv c E K S N s k = inP s
      · rw [if_pos (by rw [hz]; exact h), m_layProg F _ _ hr hN (by omega) hF, bd2_mk]
        refine Or.inr (Or.inr ⟨k, a', fstO_pre (m := k + 1) ?_ (by omega), rfl⟩)
        rw [fstO, e2]
        dsimp only
        rw [if_pos (decide_eq_true (by omega))]
      · rw [if_neg (by rw [hz]; exact h)]
        refine Or.inl ⟨(Int32.ofNat (k + 1), a'), ⟨rfl, ?_⟩, rfl⟩
        rw [fstO, e2]
        dsimp only
        rw [if_neg (by rw [decide_eq_false (show ¬ (inP s ≤ lv c E K S N s k) by omega)]; decide)]
    · rintro fu ⟨x3, a⟩ ⟨e1, e2⟩
      dsimp only at e1 e2
      subst e1
      dsimp only
      rw [fX6_first_l28, fX6_first_l28_b, m_codes F hN, bd1_mk, if_pos (Int32.le_refl _)]
      exact Or.inl ⟨a, rfl, e2⟩
  rcases q6 with ⟨z, q6, t6⟩ | ⟨k, z, t6, q6⟩
  · rw [t6] at e5
    exact ⟨_, _, _, _, _, _, e5.trans (if_pos rfl), q6, n, c, E, K, S, hP, hC, hKp, hRo, hTe, rfl, rfl, rfl, rfl, hfc⟩
  · have hk := fstO_lt t6
    rw [t6] at e5
    have e6 : bW ((some k).map (fun k => 0 * 4 ^ N + k)) = Int32.ofNat k := by
      show Int32.ofNat (0 * 4 ^ N + k) = Int32.ofNat k
      rw [Nat.zero_mul, Nat.zero_add]
    rw [e6, if_neg (fun q => by
      have := congrArg Int32.toInt q
      rw [p_ti (by omega), show ((-9 : Int32)).toInt = -9 from by decide] at this
      omega), c_makeProg F rs rm hr hN (by omega) hF, bd2_mk] at e5
    exact ⟨_, _, _, _, _, _, e5, q6, n, c, E, K, S, hP, hC, hKp, rrow_prog hRo hr hN, hTe, rfl, rfl, rfl, rfl, hfc⟩
def amN (f : Nat → Nat) : Nat → Nat
  | 0 => 0
  | k + 1 => if mxN f k < f k then k else amN f k
theorem amN_spec {f : Nat → Nat} : ∀ k, amN f (k + 1) < k + 1 ∧ f (amN f (k + 1)) = mxN f (k + 1) ∧ ∀ j, j < amN f (k + 1) → f j < mxN f (k + 1)
  | 0 => by
    have e : amN f (0 + 1) = 0 := by
      rw [amN]
      by_cases h : mxN f 0 < f 0
      · rw [if_pos h]
      · rw [if_neg h]; rfl
    rw [e, mxN]
    exact ⟨by omega, (Nat.max_eq_right (Nat.zero_le _)).symm, fun j hj => absurd hj (Nat.not_lt_zero j)⟩
  | k + 1 => by
    obtain ⟨h1, h2, h3⟩ := amN_spec (f := f) k
    rw [amN, show mxN f (k + 1 + 1) = max (mxN f (k + 1)) (f (k + 1)) from rfl]
    by_cases h : mxN f (k + 1) < f (k + 1)
    · rw [if_pos h, Nat.max_eq_right (by omega)]
      exact ⟨by omega, rfl, fun j hj => Nat.lt_of_le_of_lt (mxN_ge (k + 1) j hj) h⟩
    · rw [if_neg h, Nat.max_eq_left (by omega)]
      exact ⟨by omega, h2, h3⟩
theorem amN_fst {f : Nat → Nat} {N : Nat} (hN : 0 < N) : fstO (fun k => decide (mxN f N ≤ f k)) N = some (amN f N) := by
  obtain ⟨k, rfl⟩ : ∃ k, N = k + 1 := ⟨N - 1, by omega⟩
  obtain ⟨h1, h2, h3⟩ := amN_spec (f := f) k
  exact (fstO_some _ _).mpr ⟨h1, decide_eq_true (by omega), fun j hj => decide_eq_false (by have := h3 j hj; omega)⟩
theorem sp_fewest : SP_fewest := by
  intro F rs rm ts tm rdue rtun rsee rbeg psize pclause peff pkin pgri psig psee qsize qclause qeff qkin qgri qsig qsee cdee cnow cahe kdee know kahe fc lf told up lo mguests mclause mdeeds masked mupper mlower mfinding mreadGuests misSight mat mrowSizes mrows mtextSizes mtexts mdoes mkinds msees mnow mbefore mkeeps mkept mfindings mread maside msteps mtried mbest x1 x2 hF hR
  obtain ⟨n, c, E, K, S, hP, hC, hKp, hRo, hTe, rfl, rfl, rfl, rfl, hfc⟩ := hR
  have hpc := pc_of hP
  have hpm := pm_of hP
  obtain ⟨hn, rfl, rfl, hc, rfl, rfl, hE, hK, hS, hSn⟩ := id hP
  obtain ⟨d, hd, rfl, rfl, ⟨s, hs, rfl, hm⟩, hah⟩ := id hC
  rcases length_c F hn x1 with ⟨a1, a2⟩ | ⟨N, hN, rfl, a1, a2⟩
  · rcases row_c F x2 with ⟨b1, b2⟩ | ⟨r, hr, rfl, b1, b2⟩
    · exact ⟨_, _, _, _, _, _, by unfold fX5_fewest; rw [b1]; rfl, by unfold fX6_fewest; rw [a2]; rfl, n, c, E, K, S, hP, hC, hKp, hRo, hTe, rfl, rfl, rfl, rfl, hfc⟩
    · exact ⟨_, _, _, _, _, _, by unfold fX5_fewest; rw [b1, bd1_mk, if_neg (by decide), a1]; rfl, by unfold fX6_fewest; rw [a2]; rfl, n, c, E, K, S, hP, hC, hKp, hRo, hTe, rfl, rfl, rfl, rfl, hfc⟩
  rcases row_c F x2 with ⟨b1, b2⟩ | ⟨r, hr, rfl, b1, b2⟩
  · exact ⟨_, _, _, _, _, _, by unfold fX5_fewest; rw [b1]; rfl, by unfold fX6_fewest; rw [a2, bd1_mk, if_neg (by decide), b2]; rfl, n, c, E, K, S, hP, hC, hKp, hRo, hTe, rfl, rfl, rfl, rfl, hfc⟩
  by_cases h0 : n = 0
  · subst h0
    exact ⟨_, _, _, _, _, _, by unfold fX5_fewest; rw [b1, bd1_mk, if_neg (by decide), a1]; rfl, by unfold fX6_fewest; rw [a2, bd1_mk, if_neg (by decide), b2]; rfl, 0, c, E, K, S, hP, hC, hKp, hRo, hTe, rfl, rfl, rfl, rfl, hfc⟩
  have hn0 : ¬ (Int32.ofNat n = 0) := by rw [p_e0 (by omega)]; exact h0
  have hp4 := pow4_le hN
  have hp0 : 0 < 4 ^ N := Nat.pow_pos (by decide)
  have hpl : inP s ≤ 6 := pop_le _
  have hML : lvM c E K S N s ≤ inP s := lvM_le
  rw [if_neg h0] at a1
  have hfl := c_firstLeaving F hpc hF (show lvM c E K S N s ≤ 6 by omega) N 8 s 0 (by omega) hN (by omega) hs
  have ham : fstO (fun k => decide (lvM c E K S N s ≤ lv c E K S N s k)) (4 ^ N) = some (amN (lv c E K S N s) (4 ^ N)) := amN_fst hp0
  have hal := fstO_lt ham
  rw [ham] at hfl
  have e6 : bW ((some (amN (lv c E K S N s) (4 ^ N))).map (fun k => 0 * 4 ^ N + k)) = Int32.ofNat (amN (lv c E K S N s) (4 ^ N)) := by
    show Int32.ofNat (0 * 4 ^ N + _) = Int32.ofNat _
    rw [Nat.zero_mul, Nat.zero_add]
  rw [e6] at hfl
  have q5 : fX5_fewest F rs rm (Int32.ofNat n) (Int32.ofNat c) peff pkin psee (enc s) (Int32.ofNat N) (Int32.ofNat r) = some (Int32.ofNat (inP s - lvM c E K S N s), upd rs r (Int32.ofNat N), fun q i => if q = r ∧ i < N then Int32.ofNat (dig N (amN (lv c E K S N s) (4 ^ N)) i) else rm q i) := by
    unfold fX5_fewest fX5_fewest_n16
    rw [b1, bd1_mk, if_neg (by decide), a1, bd1_mk, if_pos rfl, c_mostLeft F hpc hF N 8 s (by omega) hN hs, bd1_mk]
    rw [show (0 : Int32) = Int32.ofNat 0 from rfl, hfl, bd1_mk, c_makeProg F rs rm hr hN (by omega) hF, bd2_mk, c_many_in F hs.hb, bd1_mk, show pop (fun i => (s i).isSome) = inP s from rfl, p_sub hML]
  have q6 : ∃ z, fX6_fewest F (Int32.ofNat n) (Int32.ofNat c) mrowSizes mrows mdoes mkinds msees mnow maside (Int32.ofNat N) (Int32.ofNat r) = some (Int32.ofNat (inP s - lvM c E K S N s), upd mrowSizes r (Int32.ofNat N), layP mrows r N (amN (lv c E K S N s) (4 ^ N)), z) := by
    unfold fX6_fewest
    rw [a2, bd1_mk, if_neg (by decide), b2, bd1_mk, if_neg (by decide), if_neg hn0]
    refine loop_inv (fun fu (a : Int32 × Int32 × Int32 × (Nat → Int32)) => fX6_fewest_l35 F (Int32.ofNat n) (Int32.ofNat c) mdoes mkinds msees mnow (Int32.ofNat N) (Int32.ofNat r) mrowSizes mrows fu a.1 a.2.1 a.2.2.1 a.2.2.2) (4 ^ N) (fun k a => a.1 = Int32.ofNat (amN (lv c E K S N s) k) ∧ a.2.1 = Int32.ofNat (if k = 0 then 1000000 else inP s - mxN (lv c E K S N s) k) ∧ a.2.2.1 = Int32.ofNat k) (fun o => ∃ z, o = some (Int32.ofNat (inP s - lvM c E K S N s), upd mrowSizes r (Int32.ofNat N), layP mrows r N (amN (lv c E K S N s) (4 ^ N)), z)) ?_ ?_ F (0, 1000000, 0, maside) (by omega) ⟨rfl, rfl, rfl⟩
    · rintro fu k ⟨x3, x4, x5, a⟩ hk ⟨e1, e2, e3⟩
      dsimp only at e1 e2 e3
      subst e1; subst e2; subst e3
      have f0 : ¬ (Int32.ofNat (4 ^ N) ≤ Int32.ofNat k) := of_eq_false (by rw [p_le (by omega) (by omega)]; exact p_nle hk)
      obtain ⟨a', q1, q2⟩ := m_fallen F (maside := a) hpm hs hm hN (show k < 4096 by omega) hF
      have hle := lv_le (c := c) (E := E) (K := K) (S := S) (n := N) (code := k) (s := s)
      have hmx := lvM_le (c := c) (E := E) (K := K) (S := S) (n := N) (k := k) (s := s)
      dsimp only
      rw [fX6_fewest_l35, fX6_fewest_l35_b, m_codes F hN, bd1_mk, if_neg f0, q1, bd2_mk]
      unfold fX6_fewest_n66
      rw [p_s]
      refine Or.inl ⟨(Int32.ofNat (amN (lv c E K S N s) (k + 1)), Int32.ofNat (inP s - mxN (lv c E K S N s) (k + 1)), Int32.ofNat (k + 1), a'), ⟨rfl, by rw [if_neg (by omega)], rfl⟩, ?_⟩
      dsimp only
      have w : (Int32.ofNat (if k = 0 then 1000000 else inP s - mxN (lv c E K S N s) k) ≤ Int32.ofNat (inP s - lv c E K S N s k)) = ((if k = 0 then 1000000 else inP s - mxN (lv c E K S N s) k) ≤ inP s - lv c E K S N s k) := p_le (by split <;> omega) (by omega)
      by_cases hk0 : k = 0
      · subst hk0
        have w' : ¬ (Int32.ofNat (if 0 = 0 then 1000000 else inP s - mxN (lv c E K S N s) 0) ≤ Int32.ofNat (inP s - lv c E K S N s 0)) := by
          rw [w, if_pos rfl]
          omega
        have e : amN (lv c E K S N s) (0 + 1) = 0 := by
          rw [amN]
          by_cases h : mxN (lv c E K S N s) 0 < lv c E K S N s 0
          · rw [if_pos h]
          · rw [if_neg h]; rfl
        rw [if_neg w', if_neg w', e, show mxN (lv c E K S N s) (0 + 1) = lv c E K S N s 0 from Nat.max_eq_right (Nat.zero_le _)]
      · rw [if_neg hk0] at w ⊢
        by_cases h : mxN (lv c E K S N s) k < lv c E K S N s k
        · have w' : ¬ (Int32.ofNat (inP s - mxN (lv c E K S N s) k) ≤ Int32.ofNat (inP s - lv c E K S N s k)) := by
            rw [w]
            omega
          rw [if_neg w', if_neg w', amN, if_pos h, mxN, Nat.max_eq_right (by omega)]
        · have w' : Int32.ofNat (inP s - mxN (lv c E K S N s) k) ≤ Int32.ofNat (inP s - lv c E K S N s k) := by
            rw [w]
            omega
          rw [if_pos w', if_pos w', amN, if_neg h, mxN, Nat.max_eq_left (by omega)]
    · rintro fu ⟨x3, x4, x5, a⟩ ⟨e1, e2, e3⟩
      dsimp only at e1 e2 e3
      rw [if_neg (by omega)] at e2
      subst e1; subst e2; subst e3
      dsimp only
      rw [fX6_fewest_l35, fX6_fewest_l35_b, m_codes F hN, bd1_mk, if_pos (Int32.le_refl _), m_layProg F _ _ hr hN (by omega) hF, bd2_mk]
      exact ⟨a, rfl⟩
  obtain ⟨z, q6⟩ := q6
  exact ⟨_, _, _, _, _, _, q5, q6, n, c, E, K, S, hP, hC, hKp, rrow_prog hRo hr hN, hTe, rfl, rfl, rfl, rfl, hfc⟩
theorem sp_gay : SP_gay := by
  intro F rs rm ts tm rdue rtun rsee rbeg psize pclause peff pkin pgri psig psee qsize qclause qeff qkin qgri qsig qsee cdee cnow cahe kdee know kahe fc lf told up lo mguests mclause mdeeds masked mupper mlower mfinding mreadGuests misSight mat mrowSizes mrows mtextSizes mtexts mdoes mkinds msees mnow mbefore mkeeps mkept mfindings mread maside msteps mtried mbest hF hR
  obtain ⟨n, c, E, K, S, hP, hC, hKp, hRo, hTe, rfl, rfl, rfl, rfl, hfc⟩ := hR
  have hpc := pc_of hP
  have hpm := pm_of hP
  obtain ⟨hn, rfl, rfl, hc, rfl, rfl, hE, hK, hS, hSn⟩ := id hP
  by_cases h0 : n = 0
  · subst h0
    exact ⟨_, _, rfl, rfl, 0, c, E, K, S, hP, hC, hKp, hRo, hTe, rfl, rfl, rfl, rfl, hfc⟩
  have hn0 : ¬ (Int32.ofNat n = 0) := by rw [p_e0 (by omega)]; exact h0
  obtain ⟨d, hd, rfl, rfl, ⟨s, hs, rfl, hm⟩, hah⟩ := id hC
  have hpl : inP s ≤ 6 := pop_le _
  have q5 : fX5_gay F (Int32.ofNat n) (Int32.ofNat c) peff pkin psee (enc s) = some (bW (fstO (fun N => anyN (chB c E K S N s) (4 ^ N)) 7)) := by
    unfold fX5_gay
    rw [if_neg hn0]
    refine loop_inv (fun fu (a : Int32) => fX5_gay_l15 F (Int32.ofNat n) (Int32.ofNat c) peff pkin psee (enc s) fu a) 7 (fun k a => a = Int32.ofNat k ∧ fstO (fun N => anyN (chB c E K S N s) (4 ^ N)) k = none) (fun o => o = some (bW (fstO (fun N => anyN (chB c E K S N s) (4 ^ N)) 7))) ?_ ?_ F 0 (by omega) ⟨rfl, rfl⟩
    · rintro fu k a hk ⟨rfl, hT⟩
      have f0 : ¬ ((6 : Int32) < Int32.ofNat k) := of_eq_false (by rw [show (6 : Int32) = Int32.ofNat 6 from rfl, p_lt (by omega) (by omega)]; exact eq_false (by omega))
      rw [fX5_gay_l15, fX5_gay_l15_b, if_neg f0, c_canCheer F hpc hF k 8 s (by omega) (by omega) hs, bd1_mk, p_s]
      cases hB : anyN (chB c E K S k s) (4 ^ k) with
      | false =>
        rw [if_neg (show ¬ (false = true) by decide), if_pos rfl]
        refine Or.inl ⟨Int32.ofNat (k + 1), ⟨rfl, ?_⟩, rfl⟩
        rw [fstO, hT]
        dsimp only
        rw [hB]
        rfl
      | true =>
        rw [if_pos (show true = true from rfl), if_neg (by decide)]
        refine Or.inr ?_
        rw [fstO_pre (m := k + 1) (x := k) (by rw [fstO, hT]; dsimp only; rw [hB]; rfl) (by omega)]
        rfl
    · rintro fu a ⟨rfl, hT⟩
      rw [fX5_gay_l15, fX5_gay_l15_b, if_pos (by decide), hT]
      rfl
  have inner : ∀ (N : Nat) (self : Int32 → (Nat → Int32) → Option (Int32 × (Nat → Int32))) (as : Nat → Int32), N ≤ 6 → (∃ a', anyN (chB c E K S N s) (4 ^ N) = false ∧ fX6_gay_l20 F self (Int32.ofNat n) (Int32.ofNat c) mdoes mkinds msees mnow (Int32.ofNat N) F (0 : Int32) as = self (Int32.ofNat (N + 1)) a') ∨ (∃ a', anyN (chB c E K S N s) (4 ^ N) = true ∧ fX6_gay_l20 F self (Int32.ofNat n) (Int32.ofNat c) mdoes mkinds msees mnow (Int32.ofNat N) F (0 : Int32) as = some (Int32.ofNat N, a')) := by
    intro N self as hN
    have hp4 := pow4_le hN
    refine loop_inv (fun fu (a : Int32 × (Nat → Int32)) => fX6_gay_l20 F self (Int32.ofNat n) (Int32.ofNat c) mdoes mkinds msees mnow (Int32.ofNat N) fu a.1 a.2) (4 ^ N) (fun k a => a.1 = Int32.ofNat k ∧ anyN (chB c E K S N s) k = false) (fun o => (∃ a', anyN (chB c E K S N s) (4 ^ N) = false ∧ o = self (Int32.ofNat (N + 1)) a') ∨ (∃ a', anyN (chB c E K S N s) (4 ^ N) = true ∧ o = some (Int32.ofNat N, a'))) ?_ ?_ F (0, as) (by omega) ⟨rfl, rfl⟩
    · rintro fu k ⟨x2, a⟩ hk ⟨e1, e2⟩
      dsimp only at e1 e2
      subst e1
      have f0 : ¬ (Int32.ofNat (4 ^ N) ≤ Int32.ofNat k) := of_eq_false (by rw [p_le (by omega) (by omega)]; exact p_nle hk)
      obtain ⟨a', q1, q2⟩ := m_fallen F (maside := a) hpm hs hm hN (show k < 4096 by omega) hF
      have hz := z_eq (lv_le (c := c) (E := E) (K := K) (S := S) (n := N) (code := k) (s := s)) (show inP s < 2147483648 by omega)
      have hsg := sg_le (hpm.run hs N k N) 6
      dsimp only
      rw [fX6_gay_l20, fX6_gay_l20_b, m_codes F hN, bd1_mk, if_neg f0, q1, bd2_mk, m_sum F q2 hF, bd1_mk, p_s]
      by_cases h : lv c E K S N s k = inP s
      · rw [if_pos (by rw [hz]; exact h)]
        by_cases h2 : sg (endS c E K S N k s) 6 = 0
        · have hch : chB c E K S N s k = true := by unfold chB; rw [decide_eq_true h, decide_eq_true h2]; rfl
          rw [if_pos (by rw [h2]; rfl)]
          exact Or.inr (Or.inr ⟨a', (anyN_iff _).mpr ⟨k, hk, hch⟩, rfl⟩)
        · have hch : chB c E K S N s k = false := by unfold chB; rw [decide_eq_false h2, Bool.and_false]
          rw [if_neg (by rw [p_e0 (show sg (endS c E K S N k s) 6 < 2147483648 by unfold endS; omega)]; exact h2)]
          exact Or.inl ⟨(Int32.ofNat (k + 1), a'), ⟨rfl, by rw [anyN, e2, hch]; rfl⟩, rfl⟩
      · have hch : chB c E K S N s k = false := by unfold chB; rw [decide_eq_false h, Bool.false_and]
        rw [if_neg (by rw [hz]; exact h)]
        exact Or.inl ⟨(Int32.ofNat (k + 1), a'), ⟨rfl, by rw [anyN, e2, hch]; rfl⟩, rfl⟩
    · rintro fu ⟨x2, a⟩ ⟨e1, e2⟩
      dsimp only at e1 e2
      subst e1
      dsimp only
      rw [fX6_gay_l20, fX6_gay_l20_b, m_codes F hN, bd1_mk, if_pos (Int32.le_refl _), p_s]
      exact Or.inl ⟨a, e2, rfl⟩
  have q6 : ∃ z, fX6_gay F (Int32.ofNat n) (Int32.ofNat c) mdoes mkinds msees mnow maside = some (bW (fstO (fun N => anyN (chB c E K S N s) (4 ^ N)) 7), z) := by
    unfold fX6_gay
    rw [if_neg hn0]
    refine loop_inv (fun fu (a : Int32 × (Nat → Int32)) => fX6_gay_l12 F (Int32.ofNat n) (Int32.ofNat c) mdoes mkinds msees mnow fu a.1 a.2) 7 (fun k a => a.1 = Int32.ofNat k ∧ fstO (fun N => anyN (chB c E K S N s) (4 ^ N)) k = none) (fun o => ∃ z, o = some (bW (fstO (fun N => anyN (chB c E K S N s) (4 ^ N)) 7), z)) ?_ ?_ F (0, maside) (by omega) ⟨rfl, rfl⟩
    · rintro fu k ⟨x1, a⟩ hk ⟨e1, e2⟩
      dsimp only at e1 e2
      subst e1
      have f0 : ¬ ((7 : Int32) ≤ Int32.ofNat k) := of_eq_false (by
        rw [show (7 : Int32) = Int32.ofNat 7 from rfl, p_le (by omega) (by omega)]
        exact p_nle hk)
      dsimp only
      rw [fX6_gay_l12, fX6_gay_l12_b, if_neg f0]
      rcases inner k (fX6_gay_l12 F (Int32.ofNat n) (Int32.ofNat c) mdoes mkinds msees mnow fu) a (by omega) with ⟨a', hB, hL⟩ | ⟨a', hB, hL⟩
      · rw [hL]
        refine Or.inl ⟨(Int32.ofNat (k + 1), a'), ⟨rfl, ?_⟩, rfl⟩
        rw [fstO, e2]
        dsimp only
        rw [hB]
        rfl
      · rw [hL]
        refine Or.inr ⟨a', ?_⟩
        rw [fstO_pre (m := k + 1) (x := k) (by rw [fstO, e2]; dsimp only; rw [hB]; rfl) (by omega)]
        rfl
    · rintro fu ⟨x1, a⟩ ⟨e1, e2⟩
      dsimp only at e1 e2
      subst e1
      refine ⟨a, ?_⟩
      dsimp only
      rw [fX6_gay_l12, fX6_gay_l12_b, if_pos (by decide), e2]
      rfl
  obtain ⟨z, q6⟩ := q6
  exact ⟨_, _, q5, q6, n, c, E, K, S, hP, hC, hKp, hRo, hTe, rfl, rfl, rfl, rfl, hfc⟩
