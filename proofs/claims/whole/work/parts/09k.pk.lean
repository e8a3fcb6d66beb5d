theorem sp_asked : SP_asked := by
  intro F rs rm ts tm rdue rtun rsee rbeg psize pclause peff pkin pgri psig psee qsize qclause qeff qkin qgri qsig qsee cdee cnow cahe kdee know kahe fc lf told up lo mguests mclause mdeeds masked mupper mlower mfinding mreadGuests misSight mat mrowSizes mrows mtextSizes mtexts mdoes mkinds msees mnow mbefore mkeeps mkept mfindings mread maside msteps mtried mbest hF hR
  obtain ⟨n, c, E, K, S, hP, hC, hKp, hRo, hTe, rfl, rfl, rfl, rfl, hfc⟩ := hR
  exact ⟨_, rfl, rfl, n, c, E, K, S, hP, hC, hKp, hRo, hTe, rfl, rfl, rfl, rfl, hfc⟩
theorem sp_upper : SP_upper := by
  intro F rs rm ts tm rdue rtun rsee rbeg psize pclause peff pkin pgri psig psee qsize qclause qeff qkin qgri qsig qsee cdee cnow cahe kdee know kahe fc lf told up lo mguests mclause mdeeds masked mupper mlower mfinding mreadGuests misSight mat mrowSizes mrows mtextSizes mtexts mdoes mkinds msees mnow mbefore mkeeps mkept mfindings mread maside msteps mtried mbest hF hR
  obtain ⟨n, c, E, K, S, hP, hC, hKp, hRo, hTe, rfl, rfl, rfl, rfl, hfc⟩ := hR
  exact ⟨_, rfl, rfl, n, c, E, K, S, hP, hC, hKp, hRo, hTe, rfl, rfl, rfl, rfl, hfc⟩
theorem sp_lower : SP_lower := by
  intro F rs rm ts tm rdue rtun rsee rbeg psize pclause peff pkin pgri psig psee qsize qclause qeff qkin qgri qsig qsee cdee cnow cahe kdee know kahe fc lf told up lo mguests mclause mdeeds masked mupper mlower mfinding mreadGuests misSight mat mrowSizes mrows mtextSizes mtexts mdoes mkinds msees mnow mbefore mkeeps mkept mfindings mread maside msteps mtried mbest hF hR
  obtain ⟨n, c, E, K, S, hP, hC, hKp, hRo, hTe, rfl, rfl, rfl, rfl, hfc⟩ := hR
  exact ⟨_, rfl, rfl, n, c, E, K, S, hP, hC, hKp, hRo, hTe, rfl, rfl, rfl, rfl, hfc⟩
theorem sp_finding : SP_finding := by
  intro F rs rm ts tm rdue rtun rsee rbeg psize pclause peff pkin pgri psig psee qsize qclause qeff qkin qgri qsig qsee cdee cnow cahe kdee know kahe fc lf told up lo mguests mclause mdeeds masked mupper mlower mfinding mreadGuests misSight mat mrowSizes mrows mtextSizes mtexts mdoes mkinds msees mnow mbefore mkeeps mkept mfindings mread maside msteps mtried mbest hF hR
  obtain ⟨n, c, E, K, S, hP, hC, hKp, hRo, hTe, rfl, rfl, rfl, rfl, hfc⟩ := hR
  exact ⟨_, rfl, rfl, n, c, E, K, S, hP, hC, hKp, hRo, hTe, rfl, rfl, rfl, rfl, hfc⟩
theorem m_in_gen (F : Nat) (x : Int32) {a b : Int64} {u v : Int32} (ha : a = u.toInt64) (hb : b = v.toInt64) : fX6_in F x.toInt64 a b = if x < u then some 0 else if v < x then some 0 else some 1 := by
  subst ha; subst hb
  unfold fX6_in
  simp only [lgc_lt, lgc_gt, t64_lt]
theorem sp_findings : SP_findings := by
  intro F rs rm ts tm rdue rtun rsee rbeg psize pclause peff pkin pgri psig psee qsize qclause qeff qkin qgri qsig qsee cdee cnow cahe kdee know kahe fc lf told up lo mguests mclause mdeeds masked mupper mlower mfinding mreadGuests misSight mat mrowSizes mrows mtextSizes mtexts mdoes mkinds msees mnow mbefore mkeeps mkept mfindings mread maside msteps mtried mbest x1 hF hR
  obtain ⟨n, c, E, K, S, hP, hC, hKp, hRo, hTe, rfl, rfl, rfl, rfl, hfc⟩ := hR
  have hin := m_in_gen F x1 (a := 1) (b := 5) (u := 1) (v := 5) (by decide) (by decide)
  by_cases h1 : x1 < (1 : Int32)
  · rw [if_pos h1] at hin
    exact ⟨_, by unfold fX5_findings; rw [if_pos h1], by unfold fX6_findings; rw [hin]; rfl, n, c, E, K, S, hP, hC, hKp, hRo, hTe, rfl, rfl, rfl, rfl, hfc⟩
  · rw [if_neg h1] at hin
    by_cases h5 : x1 ≤ (5 : Int32)
    · rw [if_neg (Int32.not_lt.mpr h5)] at hin
      have h0 : 0 ≤ x1 := Int32.not_lt.mp fun q => h1 (by
        rw [Int32.lt_iff_toInt_lt] at q ⊢
        have e0 : (0 : Int32).toInt = 0 := by decide
        have e1 : (1 : Int32).toInt = 1 := by decide
        omega)
      obtain ⟨k, hk, rfl⟩ := p_rngle x1 (n := 5) (by decide) h0 h5
      exact ⟨_, by unfold fX5_findings; rw [if_neg h1, if_pos h5, if_neg (p_ix (show k < 6 by omega) (by omega)), p_cl (show k < 2147483648 by omega), hfc k (by omega)], by unfold fX6_findings; rw [hin, bd1_mk, if_neg (by decide), if_neg (p_ix (show k < 6 by omega) (by omega)), p_cl (show k < 2147483648 by omega)], n, c, E, K, S, hP, hC, hKp, hRo, hTe, rfl, rfl, rfl, rfl, hfc⟩
    · rw [if_pos (Int32.not_le.mp h5)] at hin
      exact ⟨_, by unfold fX5_findings; rw [if_neg h1, if_neg h5], by unfold fX6_findings; rw [hin]; rfl, n, c, E, K, S, hP, hC, hKp, hRo, hTe, rfl, rfl, rfl, rfl, hfc⟩
theorem sp_undo : SP_undo := by
  intro F rs rm ts tm rdue rtun rsee rbeg psize pclause peff pkin pgri psig psee qsize qclause qeff qkin qgri qsig qsee cdee cnow cahe kdee know kahe fc lf told up lo mguests mclause mdeeds masked mupper mlower mfinding mreadGuests misSight mat mrowSizes mrows mtextSizes mtexts mdoes mkinds msees mnow mbefore mkeeps mkept mfindings mread maside msteps mtried mbest x1 hF hR
  obtain ⟨n, c, E, K, S, hP, hC, hKp, hRo, hTe, rfl, rfl, rfl, rfl, hfc⟩ := hR
  obtain ⟨d, hd, rfl, rfl, ⟨s, hs, rfl, hm⟩, hah⟩ := id hC
  have hb : (Int32.ofNat d).toInt64 = (Int32.ofNat (d + 1) - 1).toInt64 := by
    rw [show (1 : Int32) = Int32.ofNat 1 from rfl, p_sub (by omega)]
    rfl
  rcases rng_cases x1 (n := d + 1) (by omega) with h | ⟨k, hk, rfl⟩
  · have q6 : fX6_undo F (Int32.ofNat d) mnow mbefore x1 = some (-1, Int32.ofNat d, mnow) := by
      unfold fX6_undo
      rw [m_inF (n := d + 1) (by omega) (by decide) hb h, bd1_mk, if_pos rfl]
    have q5 : fX5_undo F (Int32.ofNat d) (enc s) cahe x1 = some (-1, Int32.ofNat d, enc s) := by
      unfold fX5_undo
      rcases h with h | h
      · rw [if_pos h]
      · by_cases h0 : x1 < 0
        · rw [if_pos h0]
        · rw [if_neg h0, if_neg (fun q => by
            have := Int32.le_trans h q
            rw [p_le (by omega) (by omega)] at this
            omega)]
    exact ⟨_, _, _, _, _, q5, q6, n, c, E, K, S, hP, hC, hKp, hRo, hTe, rfl, rfl, rfl, rfl, hfc⟩
  · have w0 : ¬ (Int32.ofNat k < 0) := of_eq_false (p_neg (by omega))
    have w1 : Int32.ofNat k ≤ Int32.ofNat d := of_eq_true (by rw [p_le (by omega) (by omega)]; exact eq_true (by omega))
    have q6 : fX6_in F (Int32.ofNat k).toInt64 (0 : Int64) ((Int32.ofNat d).toInt64) = some 1 := m_inT (n := d + 1) hk (by omega) (by decide) hb
    by_cases hkd : k = d
    · subst hkd
      exact ⟨_, _, _, _, _, by unfold fX5_undo fX0_goBackTo; rw [if_neg w0, if_pos w1, if_neg w0, if_pos w1, bd2_mk], by unfold fX6_undo; rw [q6, bd1_mk, if_neg (by decide), p_sub (Nat.le_refl _), if_pos (by rw [Nat.sub_self]; decide)], n, c, E, K, S, hP, hC, hKp, hRo, hTe, rfl, rfl, rfl, rfl, hfc⟩
    · have w2 : ¬ (Int32.ofNat d ≤ Int32.ofNat k) := of_eq_false (by rw [p_le (by omega) (by omega)]; exact eq_false (by omega))
      have w3 : ¬ (Int32.ofNat (d - k) ≤ 0) := of_eq_false (by rw [show (0 : Int32) = Int32.ofNat 0 from rfl, p_le (by omega) (by omega)]; exact eq_false (by omega))
      refine ⟨_, _, _, _, _, by unfold fX5_undo fX0_goBackTo; rw [if_neg w0, if_pos w1, if_neg w0, if_neg w2, if_neg (p_ix (show k < 40 by omega) (by omega)), bd2_mk, p_sub (show k ≤ d by omega), p_cl (show k < 2147483648 by omega)], by unfold fX6_undo; rw [q6, bd1_mk, if_neg (by decide), p_sub (show k ≤ d by omega), if_neg w3, show (0 : Int32) = Int32.ofNat 0 from rfl, show (7 : Int32) = Int32.ofNat 7 from rfl, p_mul, m_copies F 280 7 _ _ (a := 7 * k) (b := 0) (k := 7) (by omega) (by omega) (by omega) (by omega) hF, bd1_mk], n, c, E, K, S, hP, ?_, hKp, hRo, hTe, rfl, rfl, rfl, rfl, hfc⟩
      refine ⟨k, by omega, rfl, rfl, rhs_congr (hah k (by omega)) fun i hi => ?_, fun j hj => hah j (by omega)⟩
      show (if 0 ≤ 0 + i ∧ 0 + i < 0 + 7 then mbefore (7 * k + (0 + i - 0)) else mnow (0 + i)) = mbefore (7 * k + i)
      rw [if_pos (by omega), show 0 + i - 0 = i by omega]
theorem c_takeAll (F : Nat) (a : Int32) (b : Int64) (f : Nat → Int64) (a' : Int32) (b' : Int64) (f' : Nat → Int64) : fX0_takeAll F a b f a' b' f' = some (a', b', va_cpy f' f 0 0 40) := by
  unfold fX0_takeAll
  rw [if_neg (by decide)]
  rfl
theorem cpy40 {f g : Nat → Int64} {j : Nat} (hj : j < 40) : va_cpy f g 0 0 40 j = f j := by
  unfold va_cpy
  rw [if_pos (by omega), show 0 + (j - 0) = j by omega]
theorem nar_b1 : vp_nar .boolean (1 : Int32) = 1 := by decide
theorem sp_keep : SP_keep := by
  intro F rs rm ts tm rdue rtun rsee rbeg psize pclause peff pkin pgri psig psee qsize qclause qeff qkin qgri qsig qsee cdee cnow cahe kdee know kahe fc lf told up lo mguests mclause mdeeds masked mupper mlower mfinding mreadGuests misSight mat mrowSizes mrows mtextSizes mtexts mdoes mkinds msees mnow mbefore mkeeps mkept mfindings mread maside msteps mtried mbest x1 hF hR
  obtain ⟨n, c, E, K, S, hP, hC, hKp, hRo, hTe, rfl, rfl, rfl, rfl, hfc⟩ := hR
  obtain ⟨hn, rfl, rfl, hc, rfl, rfl, hE, hK, hS, hSn⟩ := id hP
  rcases place_c F x1 with ⟨a1, a2⟩ | ⟨k, hk, rfl, a1, a2⟩
  · exact ⟨_, _, _, _, _, _, by unfold fX5_keep; rw [a1]; rfl, by unfold fX6_keep; rw [a2]; rfl, n, c, E, K, S, hP, hC, hKp, hRo, hTe, rfl, rfl, rfl, rfl, hfc⟩
  by_cases h0 : n = 0
  · subst h0
    exact ⟨_, _, _, _, _, _, by unfold fX5_keep; rw [a1]; rfl, by unfold fX6_keep; rw [a2]; rfl, 0, c, E, K, S, hP, hC, hKp, hRo, hTe, rfl, rfl, rfl, rfl, hfc⟩
  have hn0 : ¬ (Int32.ofNat n = 0) := by rw [p_e0 (by omega)]; exact h0
  obtain ⟨d, hd, rfl, rfl, ⟨s, hs, rfl, hm⟩, hah⟩ := id hC
  have hkl : k < 2147483648 := by omega
  refine ⟨_, _, _, _, _, _, by unfold fX5_keep; rw [a1, bd1_mk, if_neg (by decide), if_neg hn0, if_neg (p_ix hk (by omega)), p_cl hkl, c_takeAll, bd3_mk], by unfold fX6_keep; rw [a2, bd1_mk, if_neg (by decide), if_neg hn0, show (0 : Int32) = Int32.ofNat 0 from rfl, show (7 : Int32) = Int32.ofNat 7 from rfl, show (8 : Int32) = Int32.ofNat 8 from rfl, show (280 : Int32) = Int32.ofNat 280 from rfl, show (288 : Int32) = Int32.ofNat 288 from rfl, p_mul, p_add, p_add, m_copies F 7 864 _ _ (a := 0) (b := 288 * k) (k := 7) (by omega) (by omega) (by omega) (by omega) hF, bd1_mk, p_cl (show 288 * k + 7 < 2147483648 by omega), m_copies F 280 864 _ _ (a := 0) (b := 288 * k + 8) (k := 280) (by omega) (by omega) (by omega) (by omega) hF, bd1_mk, p_cl hkl, nar_b1, show Int32.ofNat 0 = (0 : Int32) from rfl, if_neg (gx (show 288 * k + 7 < 864 by omega) (by omega)), if_neg (gx hk (by omega))], n, c, E, K, S, hP, hC, ?_, hRo, hTe, rfl, rfl, rfl, rfl, hfc⟩
  intro q hq
  have key : ∀ e, e < 288 → (if 288 * k + 8 ≤ 288 * q + e ∧ 288 * q + e < 288 * k + 8 + 280 then mbefore (0 + (288 * q + e - (288 * k + 8))) else upd (fun z => if 288 * k ≤ z ∧ z < 288 * k + 7 then mnow (0 + (z - 288 * k)) else mkeeps z) (288 * k + 7) (Int32.ofNat d) (288 * q + e)) = if q = k then (if e < 7 then mnow e else if e = 7 then Int32.ofNat d else mbefore (e - 8)) else mkeeps (288 * q + e) := by
    intro e he
    rw [upd_at]
    by_cases h1 : q = k
    · subst h1
      rw [if_pos rfl]
      by_cases h2 : e < 7
      · rw [if_neg (by omega), if_neg (by omega), if_pos (by omega), if_pos h2, show 0 + (288 * q + e - 288 * q) = e by omega]
      · by_cases h3 : e = 7
        · rw [if_neg (by omega), if_pos (by omega), if_neg h2, if_pos h3]
        · rw [if_pos (by omega), if_neg h2, if_neg h3, show 0 + (288 * q + e - (288 * q + 8)) = e - 8 by omega]
    · rw [if_neg h1, if_neg (by omega), if_neg (by omega), if_neg (by omega)]
  by_cases h1 : q = k
  · subst h1
    refine Or.inr ⟨by rw [upd_at, if_pos rfl], d, hd, by rw [vaup_at, if_pos rfl], ?_, ?_, fun j hj => ?_⟩
    · exact (key 7 (by omega)).trans (by rw [if_pos rfl, if_neg (by omega), if_pos rfl])
    · rw [vaup_at, if_pos rfl]
      refine ⟨s, hs, rfl, rm_congr hm fun i hi => ?_⟩
      exact (key i (by omega)).trans (by rw [if_pos rfl, if_pos hi, Nat.zero_add])
    · rw [vaup_at, if_pos rfl, cpy40 (by omega)]
      refine rhs_congr (hah j hj) fun i hi => ?_
      have := (key (8 + 7 * j + i) (by omega)).trans (show _ = mbefore (7 * j + i) by rw [if_pos rfl, if_neg (by omega), if_neg (by omega), show 8 + 7 * j + i - 8 = 7 * j + i by omega])
      rw [show 288 * q + (8 + 7 * j + i) = 288 * q + 8 + 7 * j + i by omega] at this
      exact this
  · rcases hKp q hq with ⟨g1, g2⟩ | ⟨g1, d', g2, g3, g4, g5, g6⟩
    · exact Or.inl ⟨by rw [vaup_at, if_neg h1]; exact g1, by rw [upd_at, if_neg h1]; exact g2⟩
    · refine Or.inr ⟨by rw [upd_at, if_neg h1]; exact g1, d', g2, by rw [vaup_at, if_neg h1]; exact g3, ?_, ?_, fun j hj => ?_⟩
      · exact ((key 7 (by omega)).trans (by rw [if_neg h1])).trans g4
      · rw [vaup_at, if_neg h1]
        exact rhs_congr g5 fun i hi => (key i (by omega)).trans (by rw [if_neg h1])
      · rw [vaup_at, if_neg h1]
        refine rhs_congr (g6 j hj) fun i hi => ?_
        have := key (8 + 7 * j + i) (by omega)
        rw [if_neg h1, show 288 * q + (8 + 7 * j + i) = 288 * q + 8 + 7 * j + i by omega] at this
        exact this
theorem sp_on : SP_on := by
  intro F rs rm ts tm rdue rtun rsee rbeg psize pclause peff pkin pgri psig psee qsize qclause qeff qkin qgri qsig qsee cdee cnow cahe kdee know kahe fc lf told up lo mguests mclause mdeeds masked mupper mlower mfinding mreadGuests misSight mat mrowSizes mrows mtextSizes mtexts mdoes mkinds msees mnow mbefore mkeeps mkept mfindings mread maside msteps mtried mbest x1 hF hR
  obtain ⟨n, c, E, K, S, hP, hC, hKp, hRo, hTe, rfl, rfl, rfl, rfl, hfc⟩ := hR
  rcases place_c F x1 with ⟨a1, a2⟩ | ⟨k, hk, rfl, a1, a2⟩
  · exact ⟨_, _, _, _, _, _, _, _, _, _, _, by unfold fX5_on; rw [a1]; rfl, by unfold fX6_on; rw [a2]; rfl, n, c, E, K, S, hP, hC, hKp, hRo, hTe, rfl, rfl, rfl, rfl, hfc⟩
  have hkl : k < 2147483648 := by omega
  rcases hKp k hk with ⟨g1, g2⟩ | ⟨g1, d, g2, g3, g4, g5, g6⟩
  · exact ⟨_, _, _, _, _, _, _, _, _, _, _, by unfold fX5_on; rw [p_cl hkl, a1, bd1_mk, if_neg (by decide), if_neg (gx hk hkl), g1, if_pos rfl, c_f1, bd3_mk], by unfold fX6_on; rw [p_cl hkl, a2, bd1_mk, if_neg (by decide), if_neg (gx hk hkl), g2, if_pos rfl, m_f1, bd3_mk], n, c, E, K, S, hP, hC, hKp, hRo, hTe, rfl, rfl, rfl, rfl, fc_up hfc (by decide)⟩
  · refine ⟨_, _, _, _, _, _, _, _, _, _, _, by unfold fX5_on; rw [p_cl hkl, a1, bd1_mk, if_neg (by decide), if_neg (gx hk hkl), g3, if_neg (nat_ne1 (by omega)), if_neg (gx hk hkl), c_takeAll, bd3_mk], by unfold fX6_on; rw [p_cl hkl, a2, bd1_mk, if_neg (by decide), if_neg (gx hk hkl), g1, if_neg (by decide), show (0 : Int32) = Int32.ofNat 0 from rfl, show (7 : Int32) = Int32.ofNat 7 from rfl, show (8 : Int32) = Int32.ofNat 8 from rfl, show (280 : Int32) = Int32.ofNat 280 from rfl, show (288 : Int32) = Int32.ofNat 288 from rfl, p_mul, p_add, p_add, m_copies F 864 7 _ _ (a := 288 * k) (b := 0) (k := 7) (by omega) (by omega) (by omega) (by omega) hF, bd1_mk, p_cl (show 288 * k + 7 < 2147483648 by omega), g4, m_copies F 864 280 _ _ (a := 288 * k + 8) (b := 0) (k := 280) (by omega) (by omega) (by omega) (by omega) hF, bd1_mk, show Int32.ofNat 0 = (0 : Int32) from rfl, if_neg (gx (show 288 * k + 7 < 864 by omega) (by omega))], n, c, E, K, S, hP, ?_, hKp, hRo, hTe, rfl, rfl, rfl, rfl, hfc⟩
    refine ⟨d, g2, rfl, rfl, rhs_congr g5 fun i hi => ?_, fun j hj => ?_⟩
    · show (if 0 ≤ 0 + i ∧ 0 + i < 0 + 7 then mkeeps (288 * k + (0 + i - 0)) else mnow (0 + i)) = mkeeps (288 * k + i)
      rw [if_pos (by omega), show 0 + i - 0 = i by omega]
    · rw [cpy40 (by omega)]
      refine rhs_congr (g6 j hj) fun i hi => ?_
      show (if 0 ≤ 7 * j + i ∧ 7 * j + i < 0 + 280 then mkeeps (288 * k + 8 + (7 * j + i - 0)) else mbefore (7 * j + i)) = mkeeps (288 * k + 8 + 7 * j + i)
      rw [if_pos (by omega), show 288 * k + 8 + (7 * j + i - 0) = 288 * k + 8 + 7 * j + i by omega]
theorem sp_does : SP_does := by
  intro F rs rm ts tm rdue rtun rsee rbeg psize pclause peff pkin pgri psig psee qsize qclause qeff qkin qgri qsig qsee cdee cnow cahe kdee know kahe fc lf told up lo mguests mclause mdeeds masked mupper mlower mfinding mreadGuests misSight mat mrowSizes mrows mtextSizes mtexts mdoes mkinds msees mnow mbefore mkeeps mkept mfindings mread maside msteps mtried mbest x1 x2 hF hR
  obtain ⟨n, c, E, K, S, hP, hC, hKp, hRo, hTe, rfl, rfl, rfl, rfl, hfc⟩ := hR
  obtain ⟨hn, rfl, rfl, hc, rfl, rfl, hE, hK, hS, hSn⟩ := id hP
  rcases tune_c F x1 with ⟨a1, a2⟩ | ⟨t, ht, rfl, a1, a2⟩
  · exact ⟨_, _, _, by unfold fX5_does; rw [a1]; rfl, by unfold fX6_does; rw [a2]; rfl, n, c, E, K, S, hP, hC, hKp, hRo, hTe, rfl, rfl, rfl, rfl, hfc⟩
  have hin := m_in_gen F x2 (a := -4) (b := 5) (u := -4) (v := 5) (by decide) (by decide)
  by_cases h1 : x2 < (-4 : Int32)
  · rw [if_pos h1] at hin
    exact ⟨_, _, _, by unfold fX5_does; rw [a1, bd1_mk, if_neg (by decide), if_pos h1], by unfold fX6_does; rw [a2, bd1_mk, if_neg (by decide), hin]; rfl, n, c, E, K, S, hP, hC, hKp, hRo, hTe, rfl, rfl, rfl, rfl, hfc⟩
  rw [if_neg h1] at hin
  by_cases h5 : x2 ≤ (5 : Int32)
  rotate_left
  · rw [if_pos (Int32.not_le.mp h5)] at hin
    exact ⟨_, _, _, by unfold fX5_does; rw [a1, bd1_mk, if_neg (by decide), if_neg h1, if_neg h5], by unfold fX6_does; rw [a2, bd1_mk, if_neg (by decide), hin]; rfl, n, c, E, K, S, hP, hC, hKp, hRo, hTe, rfl, rfl, rfl, rfl, hfc⟩
  rw [if_neg (Int32.not_lt.mpr h5)] at hin
  by_cases h0 : n = 0
  · subst h0
    exact ⟨_, _, _, by unfold fX5_does; rw [a1, bd1_mk, if_neg (by decide), if_neg h1, if_pos h5]; rfl, by unfold fX6_does; rw [a2, bd1_mk, if_neg (by decide), hin]; rfl, 0, c, E, K, S, hP, hC, hKp, hRo, hTe, rfl, rfl, rfl, rfl, hfc⟩
  have hn0 : ¬ (Int32.ofNat n = 0) := by rw [p_e0 (by omega)]; exact h0
  have htl : t < 2147483648 := by omega
  refine ⟨_, _, _, by unfold fX5_does; rw [p_cl htl, a1, bd1_mk, if_neg (by decide), if_neg h1, if_pos h5, if_neg hn0, if_neg (gx ht htl), if_neg (gx ht htl), (hE t ht).2.2.1], by unfold fX6_does; rw [p_cl htl, a2, bd1_mk, if_neg (by decide), hin, bd1_mk, if_neg (by decide), if_neg hn0, if_neg (gx ht htl), if_neg (gx ht htl), (hE t ht).2.2.2], n, c, (fun i => if i = t then x2.toInt else E i), K, S, ⟨hn, rfl, rfl, hc, rfl, rfl, ?_, hK, hS, hSn⟩, hC, hKp, hRo, hTe, rfl, rfl, rfl, rfl, hfc⟩
  intro i hi
  rw [upd_at, upd_at]
  dsimp only
  by_cases h : i = t
  · subst h
    rw [if_pos rfl, if_pos rfl, if_pos rfl, Int32.ofInt_toInt]
    rw [Int32.lt_iff_toInt_lt, show ((-4 : Int32)).toInt = -4 from by decide] at h1
    rw [Int32.le_iff_toInt_le, show ((5 : Int32)).toInt = 5 from by decide] at h5
    exact ⟨by omega, by omega, rfl, rfl⟩
  · rw [if_neg h, if_neg h, if_neg h]
    exact hE i hi
