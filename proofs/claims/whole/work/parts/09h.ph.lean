theorem nar32 : vp_nar .byte (32 : Int32) = 32 := by rw [vp_nar_byte]; decide
theorem c_textLoop (F : Nat) (ts fc : Nat → Int32) (tm : Nat → Nat → Int32) (lf : Int32) {r m : Nat} (hr : r < 4) (hm : m ≤ 80) (hF : 1000000 ≤ F) : fX5_text_l27 F (Int32.ofNat r) (Int32.ofNat m) ts fc lf F (0 : Int32) tm = some (Int32.ofNat m, upd ts r (Int32.ofNat m), (fun q i => if q = r ∧ i < m then 32 else tm q i), fc, lf) := by
  have key := loop_up (fun fu (a : Int32 × (Nat → Nat → Int32)) => fX5_text_l27 F (Int32.ofNat r) (Int32.ofNat m) ts fc lf fu a.1 a.2) m (fun k => (Int32.ofNat k, fun q i => if q = r ∧ i < k then 32 else tm q i)) (some (Int32.ofNat m, upd ts r (Int32.ofNat m), (fun q i => if q = r ∧ i < m then 32 else tm q i), fc, lf)) ?_ ?_ F (by omega)
  · have e0 : (fun q i => if q = r ∧ i < 0 then (32 : Int32) else tm q i) = tm := by
      funext q i
      rw [if_neg (by omega)]
    dsimp only at key
    rw [e0] at key
    exact key
  · intro fu k hk
    have f0 : (Int32.ofNat m ≤ Int32.ofNat k) = False := by rw [p_le (by omega) (by omega)]; exact p_nle hk
    dsimp only
    rw [fX5_text_l27, fX5_text_l27_b, if_neg (of_eq_false f0), if_neg (p_ix hr (by omega)), if_neg (p_ix (show k < 80 by omega) (by omega)), p_cl (show r < 2147483648 by omega), p_cl (show k < 2147483648 by omega), p_s, nar32]
    refine congrArg (fX5_text_l27 F (Int32.ofNat r) (Int32.ofNat m) ts fc lf fu (Int32.ofNat (k + 1))) ?_
    funext q i
    rw [vaup_at]
    by_cases h1 : q = r
    · subst h1
      rw [if_pos rfl, upd_at]
      by_cases h2 : i = k
      · rw [if_pos h2, if_pos ⟨rfl, by omega⟩]
      · rw [if_neg h2]
        by_cases h3 : i < k
        · rw [if_pos ⟨rfl, h3⟩, if_pos ⟨rfl, by omega⟩]
        · rw [if_neg (by omega), if_neg (by omega)]
    · rw [if_neg h1, if_neg (fun z => h1 z.1), if_neg (fun z => h1 z.1)]
  · intro fu
    dsimp only
    rw [fX5_text_l27, fX5_text_l27_b, if_pos (Int32.le_refl _), if_neg (p_ix hr (by omega)), p_cl (show r < 2147483648 by omega)]
theorem m_textLoop (F : Nat) (mf : Int32) (mrs mrows mfs : Nat → Int32) (x : Int32) {r : Nat} (hr : r < 4) (hF : 1000000 ≤ F) : fX6_text_l34 F (Int32.ofNat r) x mf mrs mfs F (0 : Int32) mrows = some (x, mf, mrs, (fun j => if 80 * r ≤ j ∧ j < 80 * r + 80 then 32 else mrows j), mfs) := by
  have key := loop_up (fun fu (a : Int32 × (Nat → Int32)) => fX6_text_l34 F (Int32.ofNat r) x mf mrs mfs fu a.1 a.2) 80 (fun k => (Int32.ofNat k, fun j => if 80 * r ≤ j ∧ j < 80 * r + k then 32 else mrows j)) (some (x, mf, mrs, (fun j => if 80 * r ≤ j ∧ j < 80 * r + 80 then 32 else mrows j), mfs)) ?_ ?_ F (by omega)
  · have e0 : (fun j => if 80 * r ≤ j ∧ j < 80 * r + 0 then (32 : Int32) else mrows j) = mrows := by
      funext j
      rw [if_neg (by omega)]
    dsimp only at key
    rw [e0] at key
    exact key
  · intro fu k hk
    have f0 : ((80 : Int32) ≤ Int32.ofNat k) = False := by
      rw [show (80 : Int32) = Int32.ofNat 80 from rfl, p_le (by omega) (by omega)]
      exact p_nle hk
    dsimp only
    rw [fX6_text_l34, fX6_text_l34_b, if_neg (of_eq_false f0), lin80, if_neg (p_ix (show 80 * r + k < 320 by omega) (by omega)), p_cl (show 80 * r + k < 2147483648 by omega), p_s]
    refine congrArg (fX6_text_l34 F (Int32.ofNat r) x mf mrs mfs fu (Int32.ofNat (k + 1))) ?_
    funext j
    rw [upd_at]
    by_cases h : j = 80 * r + k
    · rw [if_pos h, if_pos (by omega)]
    · rw [if_neg h]
      by_cases h2 : 80 * r ≤ j ∧ j < 80 * r + k
      · rw [if_pos h2, if_pos (by omega)]
      · rw [if_neg h2, if_neg (by omega)]
  · intro fu
    have f0 : ((80 : Int32) ≤ Int32.ofNat 80) = True := eq_true (by decide)
    dsimp only
    rw [fX6_text_l34, fX6_text_l34_b, if_pos (of_eq_true f0)]
theorem sp_text : SP_text := by
  intro F rs rm ts tm rdue rtun rsee rbeg psize pclause peff pkin pgri psig psee qsize qclause qeff qkin qgri qsig qsee cdee cnow cahe kdee know kahe fc lf told up lo mguests mclause mdeeds masked mupper mlower mfinding mreadGuests misSight mat mrowSizes mrows mtextSizes mtexts mdoes mkinds msees mnow mbefore mkeeps mkept mfindings mread maside msteps mtried mbest x1 x2 hF hR
  obtain ⟨n, c, E, K, S, hP, hC, hKp, hRo, hTe, rfl, rfl, rfl, rfl, hfc⟩ := hR
  rcases text_c F x1 with ⟨a1, a2⟩ | ⟨r, hr, rfl, a1, a2⟩
  · exact ⟨_, _, _, _, _, _, _, _, _, by unfold fX5_text; rw [a1]; rfl, by unfold fX6_text; rw [a2]; rfl, n, c, E, K, S, hP, hC, hKp, hRo, hTe, rfl, rfl, rfl, rfl, hfc⟩
  · by_cases h80 : x2 ≤ (80 : Int32)
    · by_cases h0 : 0 ≤ x2
      · obtain ⟨m, hm, rfl⟩ := p_rngle x2 (n := 80) (by decide) h0 h80
        refine ⟨_, _, _, _, _, _, _, _, _, by unfold fX5_text; rw [a1, bd1_mk, if_neg (by decide), if_pos h80, if_pos h0, c_textLoop F ts fc tm lf hr hm hF], by unfold fX6_text; rw [a2, bd1_mk, if_neg (by decide), if_pos h80, if_pos h0, if_neg (p_ix hr (by omega)), p_cl (show r < 2147483648 by omega), m_textLoop F _ _ _ _ _ hr hF], n, c, E, K, S, hP, hC, hKp, hRo, ?_, rfl, rfl, rfl, rfl, hfc⟩
        refine rrow_set hTe (r := r) (m : Int) (by omega) (by omega) ?_ ?_ ?_ ?_
        · rw [upd_at, if_pos rfl, p_nz]
        · rw [upd_at, if_pos rfl, p_nz]
        · intro i hi
          rw [if_pos ⟨rfl, by omega⟩, if_pos (by omega)]
        · intro q hq hne
          refine ⟨by rw [upd_at, if_neg hne], by rw [upd_at, if_neg hne], fun i hi => ⟨by rw [if_neg (fun z => hne z.1)], by rw [if_neg (by omega)]⟩⟩
      · exact ⟨_, _, _, _, _, _, _, _, _, by unfold fX5_text; rw [a1, bd1_mk, if_neg (by decide), if_pos h80, if_neg h0, c_f5, bd3_mk], by unfold fX6_text; rw [a2, bd1_mk, if_neg (by decide), if_pos h80, if_neg h0, m_f5, bd3_mk], n, c, E, K, S, hP, hC, hKp, hRo, hTe, rfl, rfl, rfl, rfl, fc_up hfc (by decide)⟩
    · exact ⟨_, _, _, _, _, _, _, _, _, by unfold fX5_text; rw [a1, bd1_mk, if_neg (by decide), if_neg h80], by unfold fX6_text; rw [a2, bd1_mk, if_neg (by decide), if_neg h80], n, c, E, K, S, hP, hC, hKp, hRo, hTe, rfl, rfl, rfl, rfl, hfc⟩
theorem nar_put (x : Int32) : vp_nar .byte (x.toInt8.toInt32) = x.toInt8.toInt32 := by rw [vp_nar_byte, Int8.toInt8_toInt32]
theorem sp_put : SP_put := by
  intro F rs rm ts tm rdue rtun rsee rbeg psize pclause peff pkin pgri psig psee qsize qclause qeff qkin qgri qsig qsee cdee cnow cahe kdee know kahe fc lf told up lo mguests mclause mdeeds masked mupper mlower mfinding mreadGuests misSight mat mrowSizes mrows mtextSizes mtexts mdoes mkinds msees mnow mbefore mkeeps mkept mfindings mread maside msteps mtried mbest x1 x2 x3 hF hR
  obtain ⟨n, c, E, K, S, hP, hC, hKp, hRo, hTe, rfl, rfl, rfl, rfl, hfc⟩ := hR
  rcases text_c F x1 with ⟨a1, a2⟩ | ⟨r, hr, rfl, a1, a2⟩
  · exact ⟨_, _, _, _, _, _, _, by unfold fX5_put; rw [a1]; rfl, by unfold fX6_put; rw [a2]; rfl, n, c, E, K, S, hP, hC, hKp, hRo, hTe, rfl, rfl, rfl, rfl, hfc⟩
  · have hcl := p_cl (show r < 2147483648 by omega)
    have hix := gx hr (by omega)
    rcases rrow_get hTe hr with ⟨g1, g2⟩ | ⟨m, hm, g1, g2, g3⟩
    · exact ⟨_, _, _, _, _, _, _, by unfold fX5_put; rw [hcl, a1, bd1_mk, if_neg (by decide), if_neg hix, g1, if_pos rfl, c_f1, bd3_mk], by unfold fX6_put; rw [hcl, a2, bd1_mk, if_neg (by decide), if_neg hix, g2, if_neg neg1_ge, m_f1, bd3_mk], n, c, E, K, S, hP, hC, hKp, hRo, hTe, rfl, rfl, rfl, rfl, fc_up hfc (by decide)⟩
    · rcases place_rng F x2 (m := m) (by omega) with ⟨b1, b2⟩ | ⟨i, hi, rfl, b2⟩
      · have q5 : fX5_put F ts tm fc lf (Int32.ofNat r) x2 x3 = some (-3, tm, upd fc 2 (fc 2 + 1), 2) := by
          unfold fX5_put
          rw [hcl, a1, bd1_mk, if_neg (by decide), if_neg hix, g1, if_neg (nat_ne1 (by omega))]
          by_cases h0 : x2 < 0
          · rw [if_pos h0, c_f2, bd3_mk]
          · rw [if_neg h0, if_neg hix, if_neg (b1.resolve_left h0), c_f2, bd3_mk]
        exact ⟨_, _, _, _, _, _, _, q5, by unfold fX6_put; rw [hcl, a2, bd1_mk, if_neg (by decide), if_neg hix, g2, if_pos (of_eq_true (p_ge0 (by omega))), if_neg hix, b2, bd1_mk, if_pos rfl, m_f2, bd3_mk], n, c, E, K, S, hP, hC, hKp, hRo, hTe, rfl, rfl, rfl, rfl, fc_up hfc (by decide)⟩
      · have hj := gx (show 80 * r + i < 320 by omega) (by omega)
        have hi80 := gx (show i < 80 by omega) (by omega)
        have hil : Int32.ofNat i < Int32.ofNat m := of_eq_true (by rw [p_lt (by omega) (by omega)]; exact eq_true hi)
        refine ⟨_, _, _, _, _, _, _, by unfold fX5_put; rw [hcl, p_cl (show i < 2147483648 by omega), a1, bd1_mk, if_neg (by decide), if_neg hix, g1, if_neg (nat_ne1 (by omega)), if_neg (of_eq_false (p_neg (by omega))), if_neg hix, if_pos hil, if_neg hix, if_neg hi80, if_neg hix, if_neg hi80, g3 i hi, nar_put], by unfold fX6_put; rw [hcl, a2, bd1_mk, if_neg (by decide), if_neg hix, g2, if_pos (of_eq_true (p_ge0 (by omega))), if_neg hix, b2, bd1_mk, if_neg (by decide), lin80, p_cl (show 80 * r + i < 2147483648 by omega), if_neg hj, if_neg hj], n, c, E, K, S, hP, hC, hKp, hRo, ?_, rfl, rfl, rfl, rfl, hfc⟩
        refine rrow_set hTe (r := r) (m : Int) (by omega) (by omega) (by rw [g1, p_nz]) (by rw [g2, p_nz]) ?_ ?_
        · intro j hj
          rw [vaup_at, if_pos rfl, upd_at, upd_at]
          by_cases h : j = i
          · rw [if_pos h, if_pos (by omega)]
          · rw [if_neg h, if_neg (by omega), g3 j (by omega)]
        · intro q hq hne
          refine ⟨rfl, rfl, fun j hj => ⟨by rw [vaup_at, if_neg hne], by rw [upd_at, if_neg (by omega)]⟩⟩
def sumL (f : Nat → Int32) : Nat → Int64
  | 0 => 0
  | k + 1 => sumL f k + (f k).toInt64
theorem sumL_congr {f g : Nat → Int32} : ∀ k, (∀ i, i < k → f i = g i) → sumL f k = sumL g k
  | 0, _ => rfl
  | k + 1, h => by rw [sumL, sumL, sumL_congr k (fun i hi => h i (by omega)), h k (by omega)]
theorem m64_ne : ∀ m, m < 41 → 0 < m → ¬ ((Int32.ofNat m).toInt64 = 0) := by decide +kernel
theorem c_meanLoop (F : Nat) (rs fc : Nat → Int32) (rm : Nat → Nat → Int32) (lf told : Int32) {r m : Nat} (hr : r < 6) (hm : m ≤ 40) (h0 : 0 < m) (hF : 1000000 ≤ F) : fX5_mean_l42 F rs rm (Int32.ofNat r) (Int32.ofNat m) fc lf told F (0 : Int64) (0 : Int32) = some (1, fc, lf, (sumL (rm r) m / (Int32.ofNat m).toInt64).toInt32) := by
  have key := loop_up (fun fu (a : Int64 × Int32) => fX5_mean_l42 F rs rm (Int32.ofNat r) (Int32.ofNat m) fc lf told fu a.1 a.2) m (fun k => (sumL (rm r) k, Int32.ofNat k)) (some (1, fc, lf, (sumL (rm r) m / (Int32.ofNat m).toInt64).toInt32)) ?_ ?_ F (by omega)
  · exact key
  · intro fu k hk
    have f0 : (Int32.ofNat m ≤ Int32.ofNat k) = False := by rw [p_le (by omega) (by omega)]; exact p_nle hk
    dsimp only
    rw [fX5_mean_l42, fX5_mean_l42_b, if_neg (of_eq_false f0), if_neg (p_ix hr (by omega)), if_neg (p_ix (show k < 40 by omega) (by omega)), p_cl (show r < 2147483648 by omega), p_cl (show k < 2147483648 by omega), p_s, sumL]
  · intro fu
    dsimp only
    rw [fX5_mean_l42, fX5_mean_l42_b, if_pos (Int32.le_refl _), if_neg (m64_ne m (by omega) h0)]
theorem m_meanLoop (F : Nat) (mrs mrows mfs : Nat → Int32) (masked mf : Int32) {r m : Nat} (hr : r < 6) (hm : m ≤ 40) (h0 : 0 < m) (g : mrs r = Int32.ofNat m) (hF : 1000000 ≤ F) : fX6_mean_l44 F mrs mrows (Int32.ofNat r) masked mf mfs F (0 : Int64) (0 : Int32) = some (1, (sumL (fun i => mrows (40 * r + i)) m / (Int32.ofNat m).toInt64).toInt32, mf, mfs) := by
  have key := loop_up (fun fu (a : Int64 × Int32) => fX6_mean_l44 F mrs mrows (Int32.ofNat r) masked mf mfs fu a.1 a.2) m (fun k => (sumL (fun i => mrows (40 * r + i)) k, Int32.ofNat k)) (some (1, (sumL (fun i => mrows (40 * r + i)) m / (Int32.ofNat m).toInt64).toInt32, mf, mfs)) ?_ ?_ F (by omega)
  · exact key
  · intro fu k hk
    have f0 : (Int32.ofNat m ≤ Int32.ofNat k) = False := by rw [p_le (by omega) (by omega)]; exact p_nle hk
    dsimp only
    rw [fX6_mean_l44, fX6_mean_l44_b, if_neg (p_ix hr (by omega)), p_cl (show r < 2147483648 by omega), g, if_neg (of_eq_false f0), lin40, if_neg (p_ix (show 40 * r + k < 240 by omega) (by omega)), p_cl (show 40 * r + k < 2147483648 by omega), p_s, sumL]
  · intro fu
    dsimp only
    rw [fX6_mean_l44, fX6_mean_l44_b, p_cl (show r < 2147483648 by omega), if_neg (gx hr (by omega)), g, if_pos (Int32.le_refl _), if_neg (gx hr (by omega)), if_neg (m64_ne m (by omega) h0)]
    rfl
theorem sp_mean : SP_mean := by
  intro F rs rm ts tm rdue rtun rsee rbeg psize pclause peff pkin pgri psig psee qsize qclause qeff qkin qgri qsig qsee cdee cnow cahe kdee know kahe fc lf told up lo mguests mclause mdeeds masked mupper mlower mfinding mreadGuests misSight mat mrowSizes mrows mtextSizes mtexts mdoes mkinds msees mnow mbefore mkeeps mkept mfindings mread maside msteps mtried mbest x1 hF hR
  obtain ⟨n, c, E, K, S, hP, hC, hKp, hRo, hTe, rfl, rfl, rfl, rfl, hfc⟩ := hR
  rcases row_c F x1 with ⟨a1, a2⟩ | ⟨r, hr, rfl, a1, a2⟩
  · exact ⟨_, _, _, _, _, _, _, by unfold fX5_mean; rw [a1]; rfl, by unfold fX6_mean; rw [a2]; rfl, n, c, E, K, S, hP, hC, hKp, hRo, hTe, rfl, rfl, rfl, rfl, hfc⟩
  · have hcl := p_cl (show r < 2147483648 by omega)
    have hix := gx hr (by omega)
    rcases rrow_get hRo hr with ⟨g1, g2⟩ | ⟨m, hm, g1, g2, g3⟩
    · exact ⟨_, _, _, _, _, _, _, by unfold fX5_mean; rw [hcl, a1, bd1_mk, if_neg (by decide), if_neg hix, g1, if_pos rfl, c_f1, bd3_mk], by unfold fX6_mean; rw [hcl, a2, bd1_mk, if_neg (by decide), if_neg hix, g2, if_neg neg1_ge, m_f1, bd3_mk], n, c, E, K, S, hP, hC, hKp, hRo, hTe, rfl, rfl, rfl, rfl, fc_up hfc (by decide)⟩
    · by_cases h0 : m = 0
      · subst h0
        exact ⟨_, _, _, _, _, _, _, by unfold fX5_mean; rw [hcl, a1, bd1_mk, if_neg (by decide), if_neg hix, g1, if_neg (nat_ne1 (by omega)), if_neg (by decide), c_f4, bd3_mk], by unfold fX6_mean; rw [hcl, a2, bd1_mk, if_neg (by decide), if_neg hix, g2, if_pos (of_eq_true (p_ge0 (by omega))), if_neg hix, if_pos (by decide), m_f4, bd3_mk], n, c, E, K, S, hP, hC, hKp, hRo, hTe, rfl, rfl, rfl, rfl, fc_up hfc (by decide)⟩
      · have hpos : (0 : Int32) < Int32.ofNat m := of_eq_true (by rw [show (0 : Int32) = Int32.ofNat 0 from rfl, p_lt (by omega) (by omega)]; exact eq_true (by omega))
        have hne : ¬ (Int32.ofNat m = 0) := of_eq_false (by rw [show (0 : Int32) = Int32.ofNat 0 from rfl, p_eq (by omega) (by omega)]; exact eq_false h0)
        have es : sumL (rm r) m = sumL (fun i => mrows (40 * r + i)) m := sumL_congr m g3
        exact ⟨_, _, _, _, _, _, _, by unfold fX5_mean; rw [hcl, a1, bd1_mk, if_neg (by decide), if_neg hix, g1, if_neg (nat_ne1 (by omega)), if_pos hpos, c_meanLoop F rs fc rm lf told hr hm (by omega) hF, es], by unfold fX6_mean; rw [hcl, a2, bd1_mk, if_neg (by decide), if_neg hix, g2, if_pos (of_eq_true (p_ge0 (by omega))), if_neg hix, if_neg hne, m_meanLoop F _ _ _ _ _ hr hm (by omega) g2 hF], n, c, E, K, S, hP, hC, hKp, hRo, hTe, rfl, rfl, rfl, rfl, hfc⟩
