theorem q_ofNat (k : Nat) (h : k < 2147483648) : (Int32.ofNat k).toInt64 = Int64.ofNat k := by
  rw [← Int64.toInt_inj, Int32.toInt_toInt64, p_ti h, Int64.toInt_ofNat_of_lt (by omega)]
theorem q_lt {a b : Nat} (ha : a < 9223372036854775808) (hb : b < 9223372036854775808) : (Int64.ofNat a < Int64.ofNat b) = (a < b) := by
  rw [Int64.lt_iff_toInt_lt, Int64.toInt_ofNat_of_lt ha, Int64.toInt_ofNat_of_lt hb]
  exact propext Int.ofNat_lt
theorem q_le {a b : Nat} (ha : a < 9223372036854775808) (hb : b < 9223372036854775808) : (Int64.ofNat a ≤ Int64.ofNat b) = (a ≤ b) := by
  rw [Int64.le_iff_toInt_le, Int64.toInt_ofNat_of_lt ha, Int64.toInt_ofNat_of_lt hb]
  exact propext Int.ofNat_le
theorem q_add (a b : Nat) : Int64.ofNat a + Int64.ofNat b = Int64.ofNat (a + b) := (Int64.ofNat_add a b).symm
theorem copy_c1 {m i k : Nat} (hm : m < 2147483648) (hi : i < 2147483648) (hk : k < 2147483648) : (Int32.ofNat m - Int32.ofNat k < Int32.ofNat i) = (m < i + k) := by
  rw [← p_nz m, ← p_nz k, ← p_nz i, ← Int32.ofInt_sub, p_zlt (by omega) (by omega) (by omega) (by omega)]
  exact propext ⟨fun h => by omega, fun h => by omega⟩
theorem copy_c2 {m i k : Nat} (hm : m < 2147483648) (hi : i < 2147483648) (hk : k < 2147483648) : (Int32.ofNat i ≤ Int32.ofNat m - Int32.ofNat k) = (i + k ≤ m) := by
  rw [← p_nz m, ← p_nz k, ← p_nz i, ← Int32.ofInt_sub, p_zle (by omega) (by omega) (by omega) (by omega)]
  exact propext ⟨fun h => by omega, fun h => by omega⟩
theorem copy_m1 {m i k : Nat} (hm : m < 2147483648) (hi : i < 2147483648) (hk : k < 2147483648) : (0 < lg_cmp ((Int32.ofNat i).toInt64 + (Int32.ofNat k).toInt64) ((Int32.ofNat m).toInt64)) = (m < i + k) := by
  rw [lgc_gt, q_ofNat i hi, q_ofNat k hk, q_ofNat m hm, q_add, q_lt (by omega) (by omega)]
theorem copy_m2 {m i k : Nat} (hm : m < 2147483648) (hi : i < 2147483648) (hk : k < 2147483648) : (lg_cmp ((Int32.ofNat i).toInt64 + (Int32.ofNat k).toInt64) ((Int32.ofNat m).toInt64) ≤ 0) = (i + k ≤ m) := by
  rw [lgc_le, q_ofNat i hi, q_ofNat k hk, q_ofNat m hm, q_add, q_le (by omega) (by omega)]
theorem lin40' (r i k : Nat) : (40 : Int32) * Int32.ofNat r + Int32.ofNat i + Int32.ofNat k = Int32.ofNat (40 * r + i + k) := by
  rw [lin40, p_add]
theorem m_copyN (F : Nat) (s104 : Int32 → (Nat → Int32) → Option (Int32 × Int32 × (Nat → Int32) × (Nat → Int32))) (mrs mfs mr : Nat → Int32) (mf : Int32) {r d i j nn k p : Nat} (hr : r < 6) (hd : d < 6) (hi : i + nn ≤ 40) (hj : j + nn ≤ 40) (hp : p < nn) (hk : k < nn) : fX6_copy_n129 F s104 mrs (Int32.ofNat p) (Int32.ofNat r) (Int32.ofNat i) (Int32.ofNat d) (Int32.ofNat j) (Int32.ofNat nn) (Int32.ofNat k) mf mr mfs = s104 (Int32.ofNat (k + 1)) (upd mr (40 * d + j + p) (mr (40 * r + i + p))) := by
  unfold fX6_copy_n129
  rw [lin40', lin40', p_cl (show 40 * r + i + p < 2147483648 by omega), p_cl (show 40 * d + j + p < 2147483648 by omega), if_neg (gx (show 40 * r + i + p < 240 by omega) (by omega)), if_neg (gx (show 40 * d + j + p < 240 by omega) (by omega)), p_s]
theorem m_copyLoop (F : Nat) (mrs mfs mr : Nat → Int32) (mf : Int32) {r d i j nn : Nat} (hr : r < 6) (hd : d < 6) (hi : i + nn ≤ 40) (hj : j + nn ≤ 40) (hF : 1000000 ≤ F) : fX6_copy_l104 F mrs (Int32.ofNat r) (Int32.ofNat i) (Int32.ofNat d) (Int32.ofNat j) (Int32.ofNat nn) mf mfs F (0 : Int32) mr = some (1, mf, (fun q => if 40 * d + j ≤ q ∧ q < 40 * d + j + nn then mr (40 * r + i + (q - (40 * d + j))) else mr q), mfs) := by
  by_cases hij : j ≤ i
  · have key := loop_up (fun fu (a : Int32 × (Nat → Int32)) => fX6_copy_l104 F mrs (Int32.ofNat r) (Int32.ofNat i) (Int32.ofNat d) (Int32.ofNat j) (Int32.ofNat nn) mf mfs fu a.1 a.2) nn (fun k => (Int32.ofNat k, fun q => if 40 * d + j ≤ q ∧ q < 40 * d + j + k then mr (40 * r + i + (q - (40 * d + j))) else mr q)) (some (1, mf, (fun q => if 40 * d + j ≤ q ∧ q < 40 * d + j + nn then mr (40 * r + i + (q - (40 * d + j))) else mr q), mfs)) ?_ ?_ F (by omega)
    · have e0 : (fun q => if 40 * d + j ≤ q ∧ q < 40 * d + j + 0 then mr (40 * r + i + (q - (40 * d + j))) else mr q) = mr := by
        funext q
        rw [if_neg (by omega)]
      dsimp only at key
      rw [e0] at key
      exact key
    · intro fu k hk
      have f0 : (Int32.ofNat nn ≤ Int32.ofNat k) = False := by rw [p_le (by omega) (by omega)]; exact p_nle hk
      have f1 : (Int32.ofNat j ≤ Int32.ofNat i) = True := by rw [p_le (by omega) (by omega)]; exact eq_true hij
      dsimp only
      rw [fX6_copy_l104, fX6_copy_l104_b, if_neg (of_eq_false f0), if_pos (of_eq_true f1), m_copyN F _ _ _ _ _ hr hd hi hj hk hk]
      refine congrArg (fX6_copy_l104 F mrs (Int32.ofNat r) (Int32.ofNat i) (Int32.ofNat d) (Int32.ofNat j) (Int32.ofNat nn) mf mfs fu (Int32.ofNat (k + 1))) ?_
      funext q
      rw [upd_at, if_neg (show ¬ (40 * d + j ≤ 40 * r + i + k ∧ 40 * r + i + k < 40 * d + j + k) by omega)]
      by_cases h : q = 40 * d + j + k
      · rw [if_pos h, if_pos (by omega), show 40 * r + i + (q - (40 * d + j)) = 40 * r + i + k by omega]
      · rw [if_neg h]
        by_cases h2 : 40 * d + j ≤ q ∧ q < 40 * d + j + k
        · rw [if_pos h2, if_pos (by omega)]
        · rw [if_neg h2, if_neg (by omega)]
    · intro fu
      dsimp only
      rw [fX6_copy_l104, fX6_copy_l104_b, if_pos (Int32.le_refl _)]
  · have key := loop_up (fun fu (a : Int32 × (Nat → Int32)) => fX6_copy_l104 F mrs (Int32.ofNat r) (Int32.ofNat i) (Int32.ofNat d) (Int32.ofNat j) (Int32.ofNat nn) mf mfs fu a.1 a.2) nn (fun k => (Int32.ofNat k, fun q => if 40 * d + j + (nn - k) ≤ q ∧ q < 40 * d + j + nn then mr (40 * r + i + (q - (40 * d + j))) else mr q)) (some (1, mf, (fun q => if 40 * d + j ≤ q ∧ q < 40 * d + j + nn then mr (40 * r + i + (q - (40 * d + j))) else mr q), mfs)) ?_ ?_ F (by omega)
    · have e0 : (fun q => if 40 * d + j + (nn - 0) ≤ q ∧ q < 40 * d + j + nn then mr (40 * r + i + (q - (40 * d + j))) else mr q) = mr := by
        funext q
        rw [if_neg (by omega)]
      dsimp only at key
      rw [e0] at key
      exact key
    · intro fu k hk
      have f0 : (Int32.ofNat nn ≤ Int32.ofNat k) = False := by rw [p_le (by omega) (by omega)]; exact p_nle hk
      have f1 : (Int32.ofNat j ≤ Int32.ofNat i) = False := by rw [p_le (by omega) (by omega)]; exact eq_false hij
      have f2 : Int32.ofNat nn - (1 : Int32) - Int32.ofNat k = Int32.ofNat (nn - 1 - k) := by
        rw [show (1 : Int32) = Int32.ofNat 1 from rfl, p_sub (by omega), p_sub (by omega)]
      dsimp only
      rw [fX6_copy_l104, fX6_copy_l104_b, if_neg (of_eq_false f0), if_neg (of_eq_false f1), f2, m_copyN F _ _ _ _ _ hr hd hi hj (show nn - 1 - k < nn by omega) hk]
      refine congrArg (fX6_copy_l104 F mrs (Int32.ofNat r) (Int32.ofNat i) (Int32.ofNat d) (Int32.ofNat j) (Int32.ofNat nn) mf mfs fu (Int32.ofNat (k + 1))) ?_
      funext q
      rw [upd_at, if_neg (show ¬ (40 * d + j + (nn - k) ≤ 40 * r + i + (nn - 1 - k) ∧ 40 * r + i + (nn - 1 - k) < 40 * d + j + nn) by omega)]
      by_cases h : q = 40 * d + j + (nn - 1 - k)
      · rw [if_pos h, if_pos (by omega), show 40 * r + i + (q - (40 * d + j)) = 40 * r + i + (nn - 1 - k) by omega]
      · rw [if_neg h]
        by_cases h2 : 40 * d + j + (nn - k) ≤ q ∧ q < 40 * d + j + nn
        · rw [if_pos h2, if_pos (by omega)]
        · rw [if_neg h2, if_neg (by omega)]
    · intro fu
      dsimp only
      rw [fX6_copy_l104, fX6_copy_l104_b, if_pos (Int32.le_refl _), Nat.sub_self, Nat.add_zero]
