theorem m_rowLoop (F : Nat) (mf : Int32) (mrs mrows mfs : Nat → Int32) (x : Int32) {r : Nat} (hr : r < 6) (hF : 1000000 ≤ F) : fX6_row_l34 F (Int32.ofNat r) x mf mrs mfs F (0 : Int32) mrows = some (x, mf, mrs, (fun j => if 40 * r ≤ j ∧ j < 40 * r + 40 then 0 else mrows j), mfs) := by
  have key := loop_up (fun fu (a : Int32 × (Nat → Int32)) => fX6_row_l34 F (Int32.ofNat r) x mf mrs mfs fu a.1 a.2) 40 (fun k => (Int32.ofNat k, fun j => if 40 * r ≤ j ∧ j < 40 * r + k then 0 else mrows j)) (some (x, mf, mrs, (fun j => if 40 * r ≤ j ∧ j < 40 * r + 40 then 0 else mrows j), mfs)) ?_ ?_ F (by omega)
  · have e0 : (fun j => if 40 * r ≤ j ∧ j < 40 * r + 0 then (0 : Int32) else mrows j) = mrows := by
      funext j
      rw [if_neg (by omega)]
    dsimp only at key
    rw [e0] at key
    exact key
  · intro fu k hk
    have f0 : ((40 : Int32) ≤ Int32.ofNat k) = False := by
      rw [show (40 : Int32) = Int32.ofNat 40 from rfl, p_le (by omega) (by omega)]
      exact p_nle hk
    dsimp only
    rw [fX6_row_l34, fX6_row_l34_b, if_neg (of_eq_false f0), lin40, if_neg (p_ix (show 40 * r + k < 240 by omega) (by omega)), p_cl (show 40 * r + k < 2147483648 by omega), p_s]
    refine congrArg (fX6_row_l34 F (Int32.ofNat r) x mf mrs mfs fu (Int32.ofNat (k + 1))) ?_
    funext j
    rw [upd_at]
    by_cases h : j = 40 * r + k
    · rw [if_pos h, if_pos (by omega)]
    · rw [if_neg h]
      by_cases h2 : 40 * r ≤ j ∧ j < 40 * r + k
      · rw [if_pos h2, if_pos (by omega)]
      · rw [if_neg h2, if_neg (by omega)]
  · intro fu
    have f0 : ((40 : Int32) ≤ Int32.ofNat 40) = True := eq_true (by decide)
    dsimp only
    rw [fX6_row_l34, fX6_row_l34_b, if_pos (of_eq_true f0)]
theorem sp_row : SP_row := by
  intro F rs rm ts tm rdue rtun rsee rbeg psize pclause peff pkin pgri psig psee qsize qclause qeff qkin qgri qsig qsee cdee cnow cahe kdee know kahe fc lf told up lo mguests mclause mdeeds masked mupper mlower mfinding mreadGuests misSight mat mrowSizes mrows mtextSizes mtexts mdoes mkinds msees mnow mbefore mkeeps mkept mfindings mread maside msteps mtried mbest x1 x2 hF hR
  obtain ⟨n, c, E, K, S, hP, hC, hKp, hRo, hTe, rfl, rfl, rfl, rfl, hfc⟩ := hR
  rcases row_c F x1 with ⟨a1, a2⟩ | ⟨r, hr, rfl, a1, a2⟩
  · exact ⟨_, _, _, _, _, _, _, _, _, by unfold fX5_row; rw [a1]; rfl, by unfold fX6_row; rw [a2]; rfl, n, c, E, K, S, hP, hC, hKp, hRo, hTe, rfl, rfl, rfl, rfl, hfc⟩
  · by_cases h40 : x2 ≤ (40 : Int32)
    · by_cases h0 : 0 ≤ x2
      · obtain ⟨m, hm, rfl⟩ := p_rngle x2 (n := 40) (by decide) h0 h40
        refine ⟨_, _, _, _, _, _, _, _, _, by unfold fX5_row; rw [a1, bd1_mk, if_neg (by decide), if_pos h40, if_pos h0, c_makeRow F rs rm hr hm hF, bd2_mk], by unfold fX6_row; rw [a2, bd1_mk, if_neg (by decide), if_pos h40, if_pos h0, if_neg (p_ix hr (by omega)), p_cl (show r < 2147483648 by omega), m_rowLoop F _ _ _ _ _ hr hF], n, c, E, K, S, hP, hC, hKp, ?_, hTe, rfl, rfl, rfl, rfl, hfc⟩
        refine rrow_set hRo (r := r) (m : Int) (by omega) (by omega) ?_ ?_ ?_ ?_
        · rw [upd_at, if_pos rfl, p_nz]
        · rw [upd_at, if_pos rfl, p_nz]
        · intro i hi
          rw [if_pos ⟨rfl, by omega⟩, if_pos (by omega)]
        · intro q hq hne
          refine ⟨by rw [upd_at, if_neg hne], by rw [upd_at, if_neg hne], fun i hi => ⟨by rw [if_neg (fun z => hne z.1)], by rw [if_neg (by omega)]⟩⟩
      · exact ⟨_, _, _, _, _, _, _, _, _, by unfold fX5_row; rw [a1, bd1_mk, if_neg (by decide), if_pos h40, if_neg h0, c_f5, bd3_mk], by unfold fX6_row; rw [a2, bd1_mk, if_neg (by decide), if_pos h40, if_neg h0, m_f5, bd3_mk], n, c, E, K, S, hP, hC, hKp, hRo, hTe, rfl, rfl, rfl, rfl, fc_up hfc (by decide)⟩
    · exact ⟨_, _, _, _, _, _, _, _, _, by unfold fX5_row; rw [a1, bd1_mk, if_neg (by decide), if_neg h40], by unfold fX6_row; rw [a2, bd1_mk, if_neg (by decide), if_neg h40], n, c, E, K, S, hP, hC, hKp, hRo, hTe, rfl, rfl, rfl, rfl, hfc⟩
theorem neg1_ge : ¬ ((0 : Int32) ≤ -1) := by decide
theorem nat_ne1 {m : Nat} (h : m < 2147483648) : ¬ (Int32.ofNat m = (-1 : Int32)) := fun q => by
  have := congrArg Int32.toInt q
  rw [p_ti h, show ((-1 : Int32)).toInt = -1 from by decide] at this
  omega
theorem sp_tear : SP_tear := by
  intro F rs rm ts tm rdue rtun rsee rbeg psize pclause peff pkin pgri psig psee qsize qclause qeff qkin qgri qsig qsee cdee cnow cahe kdee know kahe fc lf told up lo mguests mclause mdeeds masked mupper mlower mfinding mreadGuests misSight mat mrowSizes mrows mtextSizes mtexts mdoes mkinds msees mnow mbefore mkeeps mkept mfindings mread maside msteps mtried mbest x1 hF hR
  obtain ⟨n, c, E, K, S, hP, hC, hKp, hRo, hTe, rfl, rfl, rfl, rfl, hfc⟩ := hR
  rcases row_c F x1 with ⟨a1, a2⟩ | ⟨r, hr, rfl, a1, a2⟩
  · exact ⟨_, _, _, _, _, _, _, by unfold fX5_tear; rw [a1]; rfl, by unfold fX6_tear; rw [a2]; rfl, n, c, E, K, S, hP, hC, hKp, hRo, hTe, rfl, rfl, rfl, rfl, hfc⟩
  · have hcl := p_cl (show r < 2147483648 by omega)
    have hix := gx hr (by omega)
    rcases rrow_get hRo hr with ⟨g1, g2⟩ | ⟨m, hm, g1, g2, g3⟩
    · exact ⟨_, _, _, _, _, _, _, by unfold fX5_tear; rw [hcl, a1, bd1_mk, if_neg (by decide), if_neg hix, g1, if_pos rfl, c_f1, bd3_mk], by unfold fX6_tear; rw [hcl, a2, bd1_mk, if_neg (by decide), if_neg hix, g2, if_neg neg1_ge, m_f1, bd3_mk], n, c, E, K, S, hP, hC, hKp, hRo, hTe, rfl, rfl, rfl, rfl, fc_up hfc (by decide)⟩
    · refine ⟨_, _, _, _, _, _, _, by unfold fX5_tear; rw [hcl, a1, bd1_mk, if_neg (by decide), if_neg hix, g1, if_neg (nat_ne1 (by omega)), if_neg hix], by unfold fX6_tear; rw [hcl, a2, bd1_mk, if_neg (by decide), if_neg hix, g2, if_pos (of_eq_true (p_ge0 (by omega))), if_neg hix], n, c, E, K, S, hP, hC, hKp, ?_, hTe, rfl, rfl, rfl, rfl, hfc⟩
      refine rrow_set hRo (r := r) (-1) (by omega) (by omega) ?_ ?_ ?_ ?_
      · rw [upd_at, if_pos rfl]; rfl
      · rw [upd_at, if_pos rfl]; rfl
      · intro i hi; omega
      · intro q hq hne
        exact ⟨by rw [upd_at, if_neg hne], by rw [upd_at, if_neg hne], fun i hi => ⟨rfl, rfl⟩⟩
theorem place_rng (F : Nat) (x : Int32) {m : Nat} (hm : m < 2147483648) : ((x < 0 ∨ ¬ x < Int32.ofNat m) ∧ fX6_in F x.toInt64 (0 : Int64) ((Int32.ofNat m - 1).toInt64) = some 0) ∨ ∃ i, i < m ∧ x = Int32.ofNat i ∧ fX6_in F x.toInt64 (0 : Int64) ((Int32.ofNat m - 1).toInt64) = some 1 := by
  rcases rng_cases x (n := m) hm with h | ⟨k, hk, rfl⟩
  · refine Or.inl ⟨h.imp id Int32.not_lt.mpr, m_inF (n := m) hm (by decide) rfl h⟩
  · exact Or.inr ⟨k, hk, rfl, m_inT (n := m) hk hm (by decide) rfl⟩
theorem c_rpf0 (F : Nat) {rs : Nat → Int32} {r : Nat} (hr : r < 6) (g : rs r = -1) (x : Int32) : fX5_rowPlaceFinding F rs (Int32.ofNat r) x = some 1 := by
  unfold fX5_rowPlaceFinding
  rw [p_cl (by omega), if_neg (gx hr (by omega)), if_pos g]
theorem c_rpf2 (F : Nat) {rs : Nat → Int32} {r m : Nat} (hr : r < 6) (hm : m ≤ 40) (g : rs r = Int32.ofNat m) {x : Int32} (h : x < 0 ∨ ¬ x < Int32.ofNat m) : fX5_rowPlaceFinding F rs (Int32.ofNat r) x = some 2 := by
  unfold fX5_rowPlaceFinding
  rw [p_cl (by omega), if_neg (gx hr (by omega)), g, if_neg (nat_ne1 (by omega))]
  by_cases h0 : x < 0
  · rw [if_pos h0]
  · rw [if_neg h0, if_neg (gx hr (by omega)), if_neg (h.resolve_left h0)]
theorem c_rpf1 (F : Nat) {rs : Nat → Int32} {r m i : Nat} (hr : r < 6) (hm : m ≤ 40) (g : rs r = Int32.ofNat m) (hi : i < m) : fX5_rowPlaceFinding F rs (Int32.ofNat r) (Int32.ofNat i) = some 0 := by
  have f1 := p_neg (k := i) (by omega)
  have f2 : (Int32.ofNat i < Int32.ofNat m) = True := by rw [p_lt (by omega) (by omega)]; exact eq_true hi
  unfold fX5_rowPlaceFinding
  rw [p_cl (by omega), if_neg (gx hr (by omega)), g, if_neg (nat_ne1 (by omega)), if_neg (of_eq_false f1), if_neg (gx hr (by omega)), if_pos (of_eq_true f2)]
theorem sp_at : SP_at := by
  intro F rs rm ts tm rdue rtun rsee rbeg psize pclause peff pkin pgri psig psee qsize qclause qeff qkin qgri qsig qsee cdee cnow cahe kdee know kahe fc lf told up lo mguests mclause mdeeds masked mupper mlower mfinding mreadGuests misSight mat mrowSizes mrows mtextSizes mtexts mdoes mkinds msees mnow mbefore mkeeps mkept mfindings mread maside msteps mtried mbest x1 x2 hF hR
  obtain ⟨n, c, E, K, S, hP, hC, hKp, hRo, hTe, rfl, rfl, rfl, rfl, hfc⟩ := hR
  rcases row_c F x1 with ⟨a1, a2⟩ | ⟨r, hr, rfl, a1, a2⟩
  · exact ⟨_, _, _, _, _, _, _, by unfold fX5_at; rw [a1]; rfl, by unfold fX6_at; rw [a2]; rfl, n, c, E, K, S, hP, hC, hKp, hRo, hTe, rfl, rfl, rfl, rfl, hfc⟩
  · have hcl := p_cl (show r < 2147483648 by omega)
    have hix := gx hr (by omega)
    rcases rrow_get hRo hr with ⟨g1, g2⟩ | ⟨m, hm, g1, g2, g3⟩
    · exact ⟨_, _, _, _, _, _, _, by unfold fX5_at; rw [a1, bd1_mk, if_neg (by decide), c_rpf0 F hr g1, bd1_mk, if_neg (by decide), c_f1, bd3_mk], by unfold fX6_at; rw [hcl, a2, bd1_mk, if_neg (by decide), if_neg hix, g2, if_neg neg1_ge, m_f1, bd3_mk], n, c, E, K, S, hP, hC, hKp, hRo, hTe, rfl, rfl, rfl, rfl, fc_up hfc (by decide)⟩
    · rcases place_rng F x2 (m := m) (by omega) with ⟨b1, b2⟩ | ⟨i, hi, rfl, b2⟩
      · exact ⟨_, _, _, _, _, _, _, by unfold fX5_at; rw [a1, bd1_mk, if_neg (by decide), c_rpf2 F hr hm g1 b1, bd1_mk, if_neg (by decide), c_f2, bd3_mk], by unfold fX6_at; rw [hcl, a2, bd1_mk, if_neg (by decide), if_neg hix, g2, if_pos (of_eq_true (p_ge0 (by omega))), if_neg hix, b2, bd1_mk, if_pos rfl, m_f2, bd3_mk], n, c, E, K, S, hP, hC, hKp, hRo, hTe, rfl, rfl, rfl, rfl, fc_up hfc (by decide)⟩
      · exact ⟨_, _, _, _, _, _, _, by unfold fX5_at; rw [a1, bd1_mk, if_neg (by decide), c_rpf1 F hr hm g1 hi, bd1_mk, if_pos rfl, hcl, p_cl (show i < 2147483648 by omega), if_neg hix, if_neg (gx (show i < 40 by omega) (by omega)), g3 i hi], by unfold fX6_at; rw [hcl, a2, bd1_mk, if_neg (by decide), if_neg hix, g2, if_pos (of_eq_true (p_ge0 (by omega))), if_neg hix, b2, bd1_mk, if_neg (by decide), lin40, if_neg (p_ix (show 40 * r + i < 240 by omega) (by omega)), p_cl (show 40 * r + i < 2147483648 by omega)]; rfl, n, c, E, K, S, hP, hC, hKp, hRo, hTe, rfl, rfl, rfl, rfl, hfc⟩
theorem sp_lay : SP_lay := by
  intro F rs rm ts tm rdue rtun rsee rbeg psize pclause peff pkin pgri psig psee qsize qclause qeff qkin qgri qsig qsee cdee cnow cahe kdee know kahe fc lf told up lo mguests mclause mdeeds masked mupper mlower mfinding mreadGuests misSight mat mrowSizes mrows mtextSizes mtexts mdoes mkinds msees mnow mbefore mkeeps mkept mfindings mread maside msteps mtried mbest x1 x2 x3 hF hR
  obtain ⟨n, c, E, K, S, hP, hC, hKp, hRo, hTe, rfl, rfl, rfl, rfl, hfc⟩ := hR
  rcases row_c F x1 with ⟨a1, a2⟩ | ⟨r, hr, rfl, a1, a2⟩
  · exact ⟨_, _, _, _, _, _, _, _, _, by unfold fX5_lay; rw [a1]; rfl, by unfold fX6_lay; rw [a2]; rfl, n, c, E, K, S, hP, hC, hKp, hRo, hTe, rfl, rfl, rfl, rfl, hfc⟩
  · have hcl := p_cl (show r < 2147483648 by omega)
    have hix := gx hr (by omega)
    rcases rrow_get hRo hr with ⟨g1, g2⟩ | ⟨m, hm, g1, g2, g3⟩
    · exact ⟨_, _, _, _, _, _, _, _, _, by unfold fX5_lay; rw [a1, bd1_mk, if_neg (by decide), c_rpf0 F hr g1, bd1_mk, if_neg (by decide), c_f1, bd3_mk], by unfold fX6_lay; rw [hcl, a2, bd1_mk, if_neg (by decide), if_neg hix, g2, if_neg neg1_ge, m_f1, bd3_mk], n, c, E, K, S, hP, hC, hKp, hRo, hTe, rfl, rfl, rfl, rfl, fc_up hfc (by decide)⟩
    · rcases place_rng F x2 (m := m) (by omega) with ⟨b1, b2⟩ | ⟨i, hi, rfl, b2⟩
      · exact ⟨_, _, _, _, _, _, _, _, _, by unfold fX5_lay; rw [a1, bd1_mk, if_neg (by decide), c_rpf2 F hr hm g1 b1, bd1_mk, if_neg (by decide), c_f2, bd3_mk], by unfold fX6_lay; rw [hcl, a2, bd1_mk, if_neg (by decide), if_neg hix, g2, if_pos (of_eq_true (p_ge0 (by omega))), if_neg hix, b2, bd1_mk, if_pos rfl, m_f2, bd3_mk], n, c, E, K, S, hP, hC, hKp, hRo, hTe, rfl, rfl, rfl, rfl, fc_up hfc (by decide)⟩
      · have hj := p_ix (show 40 * r + i < 240 by omega) (by omega)
        have hi40 := gx (show i < 40 by omega) (by omega)
        refine ⟨_, _, _, _, _, _, _, _, _, by unfold fX5_lay; rw [a1, bd1_mk, if_neg (by decide), c_rpf1 F hr hm g1 hi, bd1_mk, if_pos rfl, hcl, p_cl (show i < 2147483648 by omega), if_neg hix, if_neg hi40, if_neg hix, if_neg hi40, g3 i hi], by unfold fX6_lay; rw [hcl, a2, bd1_mk, if_neg (by decide), if_neg hix, g2, if_pos (of_eq_true (p_ge0 (by omega))), if_neg hix, b2, bd1_mk, if_neg (by decide), lin40, if_neg hj, if_neg hj, p_cl (show 40 * r + i < 2147483648 by omega)]; rfl, n, c, E, K, S, hP, hC, hKp, ?_, hTe, rfl, rfl, rfl, rfl, hfc⟩
        refine rrow_set hRo (r := r) (m : Int) (by omega) (by omega) (by rw [g1, p_nz]) (by rw [g2, p_nz]) ?_ ?_
        · intro j hj
          rw [vaup_at, if_pos rfl, upd_at, upd_at]
          by_cases h : j = i
          · rw [if_pos h, if_pos (by omega)]
          · rw [if_neg h, if_neg (by omega), g3 j (by omega)]
        · intro q hq hne
          refine ⟨rfl, rfl, fun j hj => ⟨by rw [vaup_at, if_neg hne], by rw [upd_at, if_neg (by omega)]⟩⟩
