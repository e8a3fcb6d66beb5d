theorem nar32 : vp_nar .byte (32 : Int32) = 32 := by rw [vp_nar_byte]; decide
theorem c_textLoop (F : Nat) (ts fc : Nat → Int32) (tm : Nat → Nat → Int32) (lf : Int32) {r m : Nat} (hr : r < 4) (hm : m ≤ 80) (hF : 1000000 ≤ F) : fX5_text_l27 F (Int32.ofNat r) (Int32.ofNat m) ts fc lf F (0 : Int32) tm = some (Int32.ofNat m, upd ts r (Int32.ofNat m), (fun q i => if q = r ∧ i < m then 32 else tm q i), fc, lf) := by
  have key := loop_up (fun fu (a : Int32 × (Nat → Nat → Int32)) => fX5_text_l27 F (Int32.ofNat r) (Int32.ofNat m) ts fc lf fu a.1 a.2) m (fun k => (Int32.ofNat k, fun q i => if q = r ∧ i < k then 32 else tm q i)) (some (Int32.ofNat m, upd ts r (Int32.ofNat m), (fun q i => if q = r ∧ i < m then 32 else tm q i), fc, lf)) ?_ ?_ F (by omega)
  · have e0 : (fun q i => if q = r ∧ i < 0 then (32 : Int32) else tm q i) = tm := by
      funext q i
      rw [if_neg (by omega)]
    dsimp only at key
    rw [e0] at key
    exact key
  · intro fu k hk
    have f0 : (Int32.ofNat m ≤ Int32.ofNat k) = False := by rw [p_le (by omega) (by omega)]; exact p_nle hk
    dsimp only
    rw [fX5_text_l27, fX5_text_l27_b, if_neg (of_eq_false f0), if_neg (p_ix hr (by omega)), if_neg (p_ix (show k < 80 by omega) (by omega)), p_cl (show r < 2147483648 by omega), p_cl (show k < 2147483648 by omega), p_s, nar32]
    refine congrArg (fX5_text_l27 F (Int32.ofNat r) (Int32.ofNat m) ts fc lf fu (Int32.ofNat (k + 1))) ?_
    funext q i
    rw [vaup_at]
    by_cases h1 : q = r
    · subst h1
      rw [if_pos rfl, upd_at]
      by_cases h2 : i = k
      · rw [if_pos h2, if_pos ⟨rfl, by omega⟩]
      · rw [if_neg h2]
        by_cases h3 : i < k
        · rw [if_pos ⟨rfl, h3⟩, if_pos ⟨rfl, by omega⟩]
        · rw [if_neg (by omega), if_neg (by omega)]
    · rw [if_neg h1, if_neg (fun z => h1 z.1), if_neg (fun z => h1 z.1)]
  · intro fu
    dsimp only
    rw [fX5_text_l27, fX5_text_l27_b, if_pos (Int32.le_refl _), if_neg (p_ix hr (by omega)), p_cl (show r < 2147483648 by omega)]
theorem m_textLoop (F : Nat) (mf : Int32) (mrs mrows mfs : Nat → Int32) (x : Int32) {r : Nat} (hr : r < 4) (hF : 1000000 ≤ F) : fX6_text_l34 F (Int32.ofNat r) x mf mrs mfs F (0 : Int32) mrows = some (x, mf, mrs, (fun j => if 80 * r ≤ j ∧ j < 80 * r + 80 then 32 else mrows j), mfs) := by
  have key := loop_up (fun fu (a : Int32 × (Nat → Int32)) => fX6_text_l34 F (Int32.ofNat r) x mf mrs mfs fu a.1 a.2) 80 (fun k => (Int32.ofNat k, fun j => if 80 * r ≤ j ∧ j < 80 * r + k then 32 else mrows j)) (some (x, mf, mrs, (fun j => if 80 * r ≤ j ∧ j < 80 * r + 80 then 32 else mrows j), mfs)) ?_ ?_ F (by omega)
  · have e0 : (fun j => if 80 * r ≤ j ∧ j < 80 * r + 0 then (32 : Int32) else mrows j) = mrows := by
      funext j
      rw [if_neg (by omega)]
    dsimp only at key
    rw [e0] at key
    exact key
  · intro fu k hk
    have f0 : ((80 : Int32) ≤ Int32.ofNat k) = False := by
      rw [show (80 : Int32) = Int32.ofNat 80 from rfl, p_le (by omega) (by omega)]
      exact p_nle hk
    dsimp only
    rw [fX6_text_l34, fX6_text_l34_b, if_neg (of_eq_false f0), lin80, if_neg (p_ix (show 80 * r + k < 320 by omega) (by omega)), p_cl (show 80 * r + k < 2147483648 by omega), p_s]
    refine congrArg (fX6_text_l34 F (Int32.ofNat r) x mf mrs mfs fu (Int32.ofNat (k + 1))) ?_
    funext j
    rw [upd_at]
    by_cases h : j = 80 * r + k
    · rw [if_pos h, if_pos (by omega)]
    · rw [if_neg h]
      by_cases h2 : 80 * r ≤ j ∧ j < 80 * r + k
      · rw [if_pos h2, if_pos (by omega)]
      · rw [if_neg h2, if_neg (by omega)]
  · intro fu
    have f0 : ((80 : Int32) ≤ Int32.ofNat 80) = True := eq_true (by decide)
    dsimp only
    rw [fX6_text_l34, fX6_text_l34_b, if_pos (of_eq_true f0)]
theorem nar_put (x : Int32) : vp_nar .byte (x.toInt8.toInt32) = x.toInt8.toInt32 := by rw [vp_nar_byte, Int8.toInt8_toInt32]
def sumL (f : Nat → Int32) : Nat → Int64
  | 0 => 0
  | k + 1 => sumL f k + (f k).toInt64
theorem sumL_congr {f g : Nat → Int32} : ∀ k, (∀ i, i < k → f i = g i) → sumL f k = sumL g k
  | 0, _ => rfl
  | k + 1, h => by rw [sumL, sumL, sumL_congr k (fun i hi => h i (by omega)), h k (by omega)]
theorem m64_ne : ∀ m, m < 41 → 0 < m → ¬ ((Int32.ofNat m).toInt64 = 0) := by decide +kernel
theorem c_meanLoop (F : Nat) (rs fc : Nat → Int32) (rm : Nat → Nat → Int32) (lf told : Int32) {r m : Nat} (hr : r < 6) (hm : m ≤ 40) (h0 : 0 < m) (hF : 1000000 ≤ F) : fX5_mean_l42 F rs rm (Int32.ofNat r) (Int32.ofNat m) fc lf told F (0 : Int64) (0 : Int32) = some (1, fc, lf, (sumL (rm r) m / (Int32.ofNat m).toInt64).toInt32) := by
  have key := loop_up (fun fu (a : Int64 × Int32) => fX5_mean_l42 F rs rm (Int32.ofNat r) (Int32.ofNat m) fc lf told fu a.1 a.2) m (fun k => (sumL (rm r) k, Int32.ofNat k)) (some (1, fc, lf, (sumL (rm r) m / (Int32.ofNat m).toInt64).toInt32)) ?_ ?_ F (by omega)
  · exact key
  · intro fu k hk
    have f0 : (Int32.ofNat m ≤ Int32.ofNat k) = False := by rw [p_le (by omega) (by omega)]; exact p_nle hk
    dsimp only
    rw [fX5_mean_l42, fX5_mean_l42_b, if_neg (of_eq_false f0), if_neg (p_ix hr (by omega)), if_neg (p_ix (show k < 40 by omega) (by omega)), p_cl (show r < 2147483648 by omega), p_cl (show k < 2147483648 by omega), p_s, sumL]
  · intro fu
    dsimp only
    rw [fX5_mean_l42, fX5_mean_l42_b, if_pos (Int32.le_refl _), if_neg (m64_ne m (by omega) h0)]
theorem m_meanLoop (F : Nat) (mrs mrows mfs : Nat → Int32) (masked mf : Int32) {r m : Nat} (hr : r < 6) (hm : m ≤ 40) (h0 : 0 < m) (g : mrs r = Int32.ofNat m) (hF : 1000000 ≤ F) : fX6_mean_l44 F mrs mrows (Int32.ofNat r) masked mf mfs F (0 : Int64) (0 : Int32) = some (1, (sumL (fun i => mrows (40 * r + i)) m / (Int32.ofNat m).toInt64).toInt32, mf, mfs) := by
  have key := loop_up (fun fu (a : Int64 × Int32) => fX6_mean_l44 F mrs mrows (Int32.ofNat r) masked mf mfs fu a.1 a.2) m (fun k => (sumL (fun i => mrows (40 * r + i)) k, Int32.ofNat k)) (some (1, (sumL (fun i => mrows (40 * r + i)) m / (Int32.ofNat m).toInt64).toInt32, mf, mfs)) ?_ ?_ F (by omega)
  · exact key
  · intro fu k hk
    have f0 : (Int32.ofNat m ≤ Int32.ofNat k) = False := by rw [p_le (by omega) (by omega)]; exact p_nle hk
    dsimp only
    rw [fX6_mean_l44, fX6_mean_l44_b, if_neg (p_ix hr (by omega)), p_cl (show r < 2147483648 by omega), g, if_neg (of_eq_false f0), lin40, if_neg (p_ix (show 40 * r + k < 240 by omega) (by omega)), p_cl (show 40 * r + k < 2147483648 by omega), p_s, sumL]
  · intro fu
    dsimp only
    rw [fX6_mean_l44, fX6_mean_l44_b, p_cl (show r < 2147483648 by omega), if_neg (gx hr (by omega)), g, if_pos (Int32.le_refl _), if_neg (gx hr (by omega)), if_neg (m64_ne m (by omega) h0)]
    rfl
