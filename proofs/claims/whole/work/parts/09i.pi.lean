theorem q_ofNat (k : Nat) (h : k < 2147483648) : (Int32.ofNat k).toInt64 = Int64.ofNat k := by
  rw [← Int64.toInt_inj, Int32.toInt_toInt64, p_ti h, Int64.toInt_ofNat_of_lt (by omega)]
theorem q_lt {a b : Nat} (ha : a < 9223372036854775808) (hb : b < 9223372036854775808) : (Int64.ofNat a < Int64.ofNat b) = (a < b) := by
  rw [Int64.lt_iff_toInt_lt, Int64.toInt_ofNat_of_lt ha, Int64.toInt_ofNat_of_lt hb]
  exact propext Int.ofNat_lt
theorem q_le {a b : Nat} (ha : a < 9223372036854775808) (hb : b < 9223372036854775808) : (Int64.ofNat a ≤ Int64.ofNat b) = (a ≤ b) := by
  rw [Int64.le_iff_toInt_le, Int64.toInt_ofNat_of_lt ha, Int64.toInt_ofNat_of_lt hb]
  exact propext Int.ofNat_le
theorem q_add (a b : Nat) : Int64.ofNat a + Int64.ofNat b = Int64.ofNat (a + b) := (Int64.ofNat_add a b).symm
theorem copy_c1 {m i k : Nat} (hm : m < 2147483648) (hi : i < 2147483648) (hk : k < 2147483648) : (Int32.ofNat m - Int32.ofNat k < Int32.ofNat i) = (m < i + k) := by
  rw [← p_nz m, ← p_nz k, ← p_nz i, ← Int32.ofInt_sub, p_zlt (by omega) (by omega) (by omega) (by omega)]
  exact propext ⟨fun h => by omega, fun h => by omega⟩
theorem copy_c2 {m i k : Nat} (hm : m < 2147483648) (hi : i < 2147483648) (hk : k < 2147483648) : (Int32.ofNat i ≤ Int32.ofNat m - Int32.ofNat k) = (i + k ≤ m) := by
  rw [← p_nz m, ← p_nz k, ← p_nz i, ← Int32.ofInt_sub, p_zle (by omega) (by omega) (by omega) (by omega)]
  exact propext ⟨fun h => by omega, fun h => by omega⟩
theorem copy_m1 {m i k : Nat} (hm : m < 2147483648) (hi : i < 2147483648) (hk : k < 2147483648) : (0 < lg_cmp ((Int32.ofNat i).toInt64 + (Int32.ofNat k).toInt64) ((Int32.ofNat m).toInt64)) = (m < i + k) := by
  rw [lgc_gt, q_ofNat i hi, q_ofNat k hk, q_ofNat m hm, q_add, q_lt (by omega) (by omega)]
theorem copy_m2 {m i k : Nat} (hm : m < 2147483648) (hi : i < 2147483648) (hk : k < 2147483648) : (lg_cmp ((Int32.ofNat i).toInt64 + (Int32.ofNat k).toInt64) ((Int32.ofNat m).toInt64) ≤ 0) = (i + k ≤ m) := by
  rw [lgc_le, q_ofNat i hi, q_ofNat k hk, q_ofNat m hm, q_add, q_le (by omega) (by omega)]
theorem lin40' (r i k : Nat) : (40 : Int32) * Int32.ofNat r + Int32.ofNat i + Int32.ofNat k = Int32.ofNat (40 * r + i + k) := by
  rw [lin40, p_add]
theorem m_copyN (F : Nat) (s104 : Int32 → (Nat → Int32) → Option (Int32 × Int32 × (Nat → Int32) × (Nat → Int32))) (mrs mfs mr : Nat → Int32) (mf : Int32) {r d i j nn k p : Nat} (hr : r < 6) (hd : d < 6) (hi : i + nn ≤ 40) (hj : j + nn ≤ 40) (hp : p < nn) (hk : k < nn) : fX6_copy_n129 F s104 mrs (Int32.ofNat p) (Int32.ofNat r) (Int32.ofNat i) (Int32.ofNat d) (Int32.ofNat j) (Int32.ofNat nn) (Int32.ofNat k) mf mr mfs = s104 (Int32.ofNat (k + 1)) (upd mr (40 * d + j + p) (mr (40 * r + i + p))) := by
  unfold fX6_copy_n129
  rw [lin40', lin40', p_cl (show 40 * r + i + p < 2147483648 by omega), p_cl (show 40 * d + j + p < 2147483648 by omega), if_neg (gx (show 40 * r + i + p < 240 by omega) (by omega)), if_neg (gx (show 40 * d + j + p < 240 by omega) (by omega)), p_s]
theorem m_copyLoop (F : Nat) (mrs mfs mr : Nat → Int32) (mf : Int32) {r d i j nn : Nat} (hr : r < 6) (hd : d < 6) (hi : i + nn ≤ 40) (hj : j + nn ≤ 40) (hF : 1000000 ≤ F) : fX6_copy_l104 F mrs (Int32.ofNat r) (Int32.ofNat i) (Int32.ofNat d) (Int32.ofNat j) (Int32.ofNat nn) mf mfs F (0 : Int32) mr = some (1, mf, (fun q => if 40 * d + j ≤ q ∧ q < 40 * d + j + nn then mr (40 * r + i + (q - (40 * d + j))) else mr q), mfs) := by
  by_cases hij : j ≤ i
  · have key := loop_up (fun fu (a : Int32 × (Nat → Int32)) => fX6_copy_l104 F mrs (Int32.ofNat r) (Int32.ofNat i) (Int32.ofNat d) (Int32.ofNat j) (Int32.ofNat nn) mf mfs fu a.1 a.2) nn (fun k => (Int32.ofNat k, fun q => if 40 * d + j ≤ q ∧ q < 40 * d + j + k then mr (40 * r + i + (q - (40 * d + j))) else mr q)) (some (1, mf, (fun q => if 40 * d + j ≤ q ∧ q < 40 * d + j + nn then mr (40 * r + i + (q - (40 * d + j))) else mr q), mfs)) ?_ ?_ F (by omega)
    · have e0 : (fun q => if 40 * d + j ≤ q ∧ q < 40 * d + j + 0 then mr (40 * r + i + (q - (40 * d + j))) else mr q) = mr := by
        funext q
        rw [if_neg (by omega)]
      dsimp only at key
      rw [e0] at key
      exact key
    · intro fu k hk
      have f0 : (Int32.ofNat nn ≤ Int32.ofNat k) = False := by rw [p_le (by omega) (by omega)]; exact p_nle hk
      have f1 : (Int32.ofNat j ≤ Int32.ofNat i) = True := by rw [p_le (by omega) (by omega)]; exact eq_true hij
      dsimp only
      rw [fX6_copy_l104, fX6_copy_l104_b, if_neg (of_eq_false f0), if_pos (of_eq_true f1), m_copyN F _ _ _ _ _ hr hd hi hj hk hk]
      refine congrArg (fX6_copy_l104 F mrs (Int32.ofNat r) (Int32.ofNat i) (Int32.ofNat d) (Int32.ofNat j) (Int32.ofNat nn) mf mfs fu (Int32.ofNat (k + 1))) ?_
      funext q
      rw [upd_at, if_neg (show ¬ (40 * d + j ≤ 40 * r + i + k ∧ 40 * r + i + k < 40 * d + j + k) by omega)]
      by_cases h : q = 40 * d + j + k
      · rw [if_pos h, if_pos (by omega), show 40 * r + i + (q - (40 * d + j)) = 40 * r + i + k by omega]
      · rw [if_neg h]
        by_cases h2 : 40 * d + j ≤ q ∧ q < 40 * d + j + k
        · rw [if_pos h2, if_pos (by omega)]
        · rw [if_neg h2, if_neg (by omega)]
    · intro fu
      dsimp only
      rw [fX6_copy_l104, fX6_copy_l104_b, if_pos (Int32.le_refl _)]
  · have key := loop_up (fun fu (a : Int32 × (Nat → Int32)) => fX6_copy_l104 F mrs (Int32.ofNat r) (Int32.ofNat i) (Int32.ofNat d) (Int32.ofNat j) (Int32.ofNat nn) mf mfs fu a.1 a.2) nn (fun k => (Int32.ofNat k, fun q => if 40 * d + j + (nn - k) ≤ q ∧ q < 40 * d + j + nn then mr (40 * r + i + (q - (40 * d + j))) else mr q)) (some (1, mf, (fun q => if 40 * d + j ≤ q ∧ q < 40 * d + j + nn then mr (40 * r + i + (q - (40 * d + j))) else mr q), mfs)) ?_ ?_ F (by omega)
    · have e0 : (fun q => if 40 * d + j + (nn - 0) ≤ q ∧ q < 40 * d + j + nn then mr (40 * r + i + (q - (40 * d + j))) else mr q) = mr := by
        funext q
        rw [if_neg (by omega)]
      dsimp only at key
      rw [e0] at key
      exact key
    · intro fu k hk
      have f0 : (Int32.ofNat nn ≤ Int32.ofNat k) = False := by rw [p_le (by omega) (by omega)]; exact p_nle hk
      have f1 : (Int32.ofNat j ≤ Int32.ofNat i) = False := by rw [p_le (by omega) (by omega)]; exact eq_false hij
      have f2 : Int32.ofNat nn - (1 : Int32) - Int32.ofNat k = Int32.ofNat (nn - 1 - k) := by
        rw [show (1 : Int32) = Int32.ofNat 1 from rfl, p_sub (by omega), p_sub (by omega)]
      dsimp only
      rw [fX6_copy_l104, fX6_copy_l104_b, if_neg (of_eq_false f0), if_neg (of_eq_false f1), f2, m_copyN F _ _ _ _ _ hr hd hi hj (show nn - 1 - k < nn by omega) hk]
      refine congrArg (fX6_copy_l104 F mrs (Int32.ofNat r) (Int32.ofNat i) (Int32.ofNat d) (Int32.ofNat j) (Int32.ofNat nn) mf mfs fu (Int32.ofNat (k + 1))) ?_
      funext q
      rw [upd_at, if_neg (show ¬ (40 * d + j + (nn - k) ≤ 40 * r + i + (nn - 1 - k) ∧ 40 * r + i + (nn - 1 - k) < 40 * d + j + nn) by omega)]
      by_cases h : q = 40 * d + j + (nn - 1 - k)
      · rw [if_pos h, if_pos (by omega), show 40 * r + i + (q - (40 * d + j)) = 40 * r + i + (nn - 1 - k) by omega]
      · rw [if_neg h]
        by_cases h2 : 40 * d + j + (nn - k) ≤ q ∧ q < 40 * d + j + nn
        · rw [if_pos h2, if_pos (by omega)]
        · rw [if_neg h2, if_neg (by omega)]
    · intro fu
      dsimp only
      rw [fX6_copy_l104, fX6_copy_l104_b, if_pos (Int32.le_refl _), Nat.sub_self, Nat.add_zero]
theorem sp_copy : SP_copy := by
  intro F rs rm ts tm rdue rtun rsee rbeg psize pclause peff pkin pgri psig psee qsize qclause qeff qkin qgri qsig qsee cdee cnow cahe kdee know kahe fc lf told up lo mguests mclause mdeeds masked mupper mlower mfinding mreadGuests misSight mat mrowSizes mrows mtextSizes mtexts mdoes mkinds msees mnow mbefore mkeeps mkept mfindings mread maside msteps mtried mbest x1 x2 x3 x4 x5 hF hR
  obtain ⟨n, c, E, K, S, hP, hC, hKp, hRo, hTe, rfl, rfl, rfl, rfl, hfc⟩ := hR
  rcases row_c F x1 with ⟨a1, a2⟩ | ⟨r, hr, rfl, a1, a2⟩
  · exact ⟨_, _, _, _, _, _, _, by unfold fX5_copy; rw [a1]; rfl, by unfold fX6_copy; rw [a2]; rfl, n, c, E, K, S, hP, hC, hKp, hRo, hTe, rfl, rfl, rfl, rfl, hfc⟩
  rcases row_c F x3 with ⟨b1, b2⟩ | ⟨d, hd, rfl, b1, b2⟩
  · exact ⟨_, _, _, _, _, _, _, by unfold fX5_copy; rw [a1, b1]; rfl, by unfold fX6_copy; rw [a2, b2]; rfl, n, c, E, K, S, hP, hC, hKp, hRo, hTe, rfl, rfl, rfl, rfl, hfc⟩
  have hcl := p_cl (show r < 2147483648 by omega)
  have hix := gx hr (by omega)
  have hcl2 := p_cl (show d < 2147483648 by omega)
  have hix2 := gx hd (by omega)
  by_cases h5 : 0 ≤ x5
  rotate_left
  · exact ⟨_, _, _, _, _, _, _, by unfold fX5_copy; rw [a1, bd1_mk, if_neg (by decide), b1, bd1_mk, if_neg (by decide), if_neg h5, c_f5, bd3_mk], by unfold fX6_copy; rw [a2, bd1_mk, if_neg (by decide), b2, bd1_mk, if_neg (by decide), if_neg h5, m_f5, bd3_mk], n, c, E, K, S, hP, hC, hKp, hRo, hTe, rfl, rfl, rfl, rfl, fc_up hfc (by decide)⟩
  rcases rrow_get hRo hr with ⟨g1, g2⟩ | ⟨m, hm, g1, g2, g3⟩
  · exact ⟨_, _, _, _, _, _, _, by unfold fX5_copy; rw [hcl, a1, bd1_mk, if_neg (by decide), b1, bd1_mk, if_neg (by decide), if_pos h5, if_neg hix, g1, if_pos rfl, c_f1, bd3_mk], by unfold fX6_copy; rw [hcl, a2, bd1_mk, if_neg (by decide), b2, bd1_mk, if_neg (by decide), if_pos h5, if_neg hix, g2, if_pos (by decide), m_f1, bd3_mk], n, c, E, K, S, hP, hC, hKp, hRo, hTe, rfl, rfl, rfl, rfl, fc_up hfc (by decide)⟩
  have hn1 := nat_ne1 (show m < 2147483648 by omega)
  have hn2 := of_eq_false (p_neg (show m < 2147483648 by omega))
  rcases rrow_get hRo hd with ⟨k1, k2⟩ | ⟨m2, hm2, k1, k2, k3⟩
  · exact ⟨_, _, _, _, _, _, _, by unfold fX5_copy; rw [hcl, hcl2, a1, bd1_mk, if_neg (by decide), b1, bd1_mk, if_neg (by decide), if_pos h5, if_neg hix, g1, if_neg hn1, if_neg hix2, k1, if_pos rfl, c_f1, bd3_mk], by unfold fX6_copy; rw [hcl, hcl2, a2, bd1_mk, if_neg (by decide), b2, bd1_mk, if_neg (by decide), if_pos h5, if_neg hix, g2, if_neg hn2, if_neg hix2, k2, if_neg neg1_ge, m_f1, bd3_mk], n, c, E, K, S, hP, hC, hKp, hRo, hTe, rfl, rfl, rfl, rfl, fc_up hfc (by decide)⟩
  have hn3 := nat_ne1 (show m2 < 2147483648 by omega)
  have hn4 := of_eq_true (p_ge0 (show m2 < 2147483648 by omega))
  by_cases h2 : x2 < 0
  · exact ⟨_, _, _, _, _, _, _, by unfold fX5_copy; rw [hcl, hcl2, a1, bd1_mk, if_neg (by decide), b1, bd1_mk, if_neg (by decide), if_pos h5, if_neg hix, g1, if_neg hn1, if_neg hix2, k1, if_neg hn3, if_pos h2, c_f2, bd3_mk], by unfold fX6_copy; rw [hcl, hcl2, a2, bd1_mk, if_neg (by decide), b2, bd1_mk, if_neg (by decide), if_pos h5, if_neg hix, g2, if_neg hn2, if_neg hix2, k2, if_pos hn4, if_pos h2, m_f2, bd3_mk], n, c, E, K, S, hP, hC, hKp, hRo, hTe, rfl, rfl, rfl, rfl, fc_up hfc (by decide)⟩
  by_cases h4 : x4 < 0
  · exact ⟨_, _, _, _, _, _, _, by unfold fX5_copy; rw [hcl, hcl2, a1, bd1_mk, if_neg (by decide), b1, bd1_mk, if_neg (by decide), if_pos h5, if_neg hix, g1, if_neg hn1, if_neg hix2, k1, if_neg hn3, if_neg h2, if_pos h4, c_f2, bd3_mk], by unfold fX6_copy; rw [hcl, hcl2, a2, bd1_mk, if_neg (by decide), b2, bd1_mk, if_neg (by decide), if_pos h5, if_neg hix, g2, if_neg hn2, if_neg hix2, k2, if_pos hn4, if_neg h2, if_pos h4, m_f2, bd3_mk], n, c, E, K, S, hP, hC, hKp, hRo, hTe, rfl, rfl, rfl, rfl, fc_up hfc (by decide)⟩
  obtain ⟨nn, hnn, rfl⟩ : ∃ k, k < 2147483648 ∧ x5 = Int32.ofNat k := ⟨_, Int32.toNatClampNeg_lt x5, (Int32.ofNat_toNatClampNeg x5 h5).symm⟩
  obtain ⟨i, hi, rfl⟩ : ∃ k, k < 2147483648 ∧ x2 = Int32.ofNat k := ⟨_, Int32.toNatClampNeg_lt x2, (Int32.ofNat_toNatClampNeg x2 (Int32.not_lt.mp h2)).symm⟩
  obtain ⟨j, hj, rfl⟩ : ∃ k, k < 2147483648 ∧ x4 = Int32.ofNat k := ⟨_, Int32.toNatClampNeg_lt x4, (Int32.ofNat_toNatClampNeg x4 (Int32.not_lt.mp h4)).symm⟩
  have w1 := copy_c1 (show m < 2147483648 by omega) hi hnn
  have w2 := copy_c2 (show m2 < 2147483648 by omega) hj hnn
  have w3 := copy_m1 (show m < 2147483648 by omega) hi hnn
  have w4 := copy_m2 (show m2 < 2147483648 by omega) hj hnn
  by_cases v1 : m < i + nn
  · rw [eq_true v1] at w1 w3
    exact ⟨_, _, _, _, _, _, _, by unfold fX5_copy; rw [hcl, hcl2, a1, bd1_mk, if_neg (by decide), b1, bd1_mk, if_neg (by decide), if_pos h5, if_neg hix, g1, if_neg hn1, if_neg hix2, k1, if_neg hn3, if_neg h2, if_neg h4, if_neg hix, if_pos (of_eq_true w1), c_f2, bd3_mk], by unfold fX6_copy; rw [hcl, hcl2, a2, bd1_mk, if_neg (by decide), b2, bd1_mk, if_neg (by decide), if_pos h5, if_neg hix, g2, if_neg hn2, if_neg hix2, k2, if_pos hn4, if_neg h2, if_neg h4, if_neg hix, if_pos (of_eq_true w3), m_f2, bd3_mk], n, c, E, K, S, hP, hC, hKp, hRo, hTe, rfl, rfl, rfl, rfl, fc_up hfc (by decide)⟩
  rw [eq_false v1] at w1 w3
  by_cases v2 : j + nn ≤ m2
  rotate_left
  · rw [eq_false v2] at w2 w4
    exact ⟨_, _, _, _, _, _, _, by unfold fX5_copy; rw [hcl, hcl2, a1, bd1_mk, if_neg (by decide), b1, bd1_mk, if_neg (by decide), if_pos h5, if_neg hix, g1, if_neg hn1, if_neg hix2, k1, if_neg hn3, if_neg h2, if_neg h4, if_neg hix, if_neg (of_eq_false w1), if_neg hix2, if_neg (of_eq_false w2), c_f2, bd3_mk], by unfold fX6_copy; rw [hcl, hcl2, a2, bd1_mk, if_neg (by decide), b2, bd1_mk, if_neg (by decide), if_pos h5, if_neg hix, g2, if_neg hn2, if_neg hix2, k2, if_pos hn4, if_neg h2, if_neg h4, if_neg hix, if_neg (of_eq_false w3), if_neg hix2, if_neg (of_eq_false w4), m_f2, bd3_mk], n, c, E, K, S, hP, hC, hKp, hRo, hTe, rfl, rfl, rfl, rfl, fc_up hfc (by decide)⟩
  rw [eq_true v2] at w2 w4
  have hlast : ¬ (Int32.ofNat i < 0 ∨ Int32.ofNat j < 0 ∨ Int32.ofNat nn < 0 ∨ 40 < i + nn ∨ 40 < j + nn) := by
    rw [p_neg hi, p_neg hj, p_neg hnn, false_or, false_or, false_or]
    omega
  refine ⟨_, _, _, _, _, _, _, by unfold fX5_copy; rw [hcl, hcl2, p_cl hi, p_cl hj, p_cl hnn, a1, bd1_mk, if_neg (by decide), b1, bd1_mk, if_neg (by decide), if_pos h5, if_neg hix, g1, if_neg hn1, if_neg hix2, k1, if_neg hn3, if_neg h2, if_neg h4, if_neg hix, if_neg (of_eq_false w1), if_neg hix2, if_pos (of_eq_true w2), if_neg hix, if_neg hix2, if_neg hlast], by unfold fX6_copy; rw [hcl, hcl2, a2, bd1_mk, if_neg (by decide), b2, bd1_mk, if_neg (by decide), if_pos h5, if_neg hix, g2, if_neg hn2, if_neg hix2, k2, if_pos hn4, if_neg h2, if_neg h4, if_neg hix, if_neg (of_eq_false w3), if_neg hix2, if_pos (of_eq_true w4), m_copyLoop F _ _ _ _ hr hd (by omega) (by omega) hF], n, c, E, K, S, hP, hC, hKp, ?_, hTe, rfl, rfl, rfl, rfl, hfc⟩
  refine rrow_set hRo (r := d) (m2 : Int) (by omega) (by omega) (by rw [k1, p_nz]) (by rw [k2, p_nz]) ?_ ?_
  · intro q hq
    rw [vaup_at, if_pos rfl]
    unfold va_cpy
    by_cases h : j ≤ q ∧ q < j + nn
    · rw [if_pos h, if_pos (by omega), g3 _ (by omega), show 40 * r + i + (40 * d + q - (40 * d + j)) = 40 * r + (i + (q - j)) by omega]
    · rw [if_neg h, if_neg (by omega), k3 q (by omega)]
  · intro q hq hne
    refine ⟨rfl, rfl, fun e he => ⟨by rw [vaup_at, if_neg hne], by rw [if_neg (by omega)]⟩⟩
