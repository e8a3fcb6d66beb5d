def pop (p : Nat → Bool) : Nat := (p 0).toNat + (p 1).toNat + (p 2).toNat + (p 3).toNat + (p 4).toNat + (p 5).toNat
theorem pop_tabC : ∀ a b c d e f : Bool, fJ6_bitCount_0f7a4 0 (mk6 a b c d e f) = some (Int32.ofNat (a.toNat + b.toNat + c.toNat + d.toNat + e.toNat + f.toNat)) := by decide +kernel
theorem pop_tabM : ∀ a b c d e f : Bool, fX6_bits_l4 0 7 (0 : Int32) (mk6 a b c d e f) = some (Int32.ofNat (a.toNat + b.toNat + c.toNat + d.toNat + e.toNat + f.toNat)) := by decide +kernel
theorem bc_F (F : Nat) (x : Int32) : fJ6_bitCount_0f7a4 F x = fJ6_bitCount_0f7a4 0 x := rfl
theorem c_pop (F : Nat) (p : Nat → Bool) : fJ6_bitCount_0f7a4 F (st p) = some (Int32.ofNat (pop p)) := (bc_F F _).trans (pop_tabC _ _ _ _ _ _)
theorem bits_mono : ∀ (fu G : Nat) (a b r : Int32), fX6_bits_l4 G fu a b = some r → ∀ F, fX6_bits_l4 F (fu + 1) a b = some r
  | 0, G, a, b, r, h, F => by rw [fX6_bits_l4] at h; cases h
  | fu + 1, G, a, b, r, h, F => by
    rw [fX6_bits_l4, fX6_bits_l4_b] at h ⊢
    by_cases hb : b = 0
    · rw [if_pos hb] at h ⊢; exact h
    · rw [if_neg hb] at h ⊢; exact bits_mono fu G _ _ _ h F
theorem bits_more (F a : Nat) (x y r : Int32) (h : fX6_bits_l4 0 7 x y = some r) : fX6_bits_l4 F (8 + a) x y = some r := by
  induction a with
  | zero => exact bits_mono 7 0 _ _ _ h F
  | succ a ih => exact bits_mono (8 + a) F _ _ _ ih F
theorem m_bits (F : Nat) (p : Nat → Bool) (hF : 1000000 ≤ F) : fX6_bits F (st p) = some (Int32.ofNat (pop p)) := by
  unfold fX6_bits
  have := bits_more F (F - 8) (0 : Int32) (st p) _ (pop_tabM (p 0) (p 1) (p 2) (p 3) (p 4) (p 5))
  rw [show 8 + (F - 8) = F by omega] at this
  exact this
theorem pop_le (p : Nat → Bool) : pop p ≤ 6 := by
  unfold pop
  have h0 := Bool.toNat_le (p 0); have h1 := Bool.toNat_le (p 1); have h2 := Bool.toNat_le (p 2)
  have h3 := Bool.toNat_le (p 3); have h4 := Bool.toNat_le (p 4); have h5 := Bool.toNat_le (p 5)
  omega
theorem c_many_in (F : Nat) {s : Nat → Option Nat} (h : HB s) : fX1_howManyIn F (enc s) = some (Int32.ofNat (pop (fun i => (s i).isSome))) := by
  unfold fX1_howManyIn
  rw [c_insiders F h, bd1_mk, c_pop, bd1_mk]
def sg (s : Nat → Option Nat) : Nat → Nat
  | 0 => 0
  | k + 1 => sg s k + gv s k
theorem c_sum (F : Nat) {s : Nat → Option Nat} (h : HB s) (hF : 1000000 ≤ F) : fX1_griefOfAll F (enc s) = some (Int32.ofNat (sg s 6)) := by
  unfold fX1_griefOfAll
  refine loop_up (fun fu (a : Int32 × Int32) => fX1_griefOfAll_l4 F (enc s) fu a.1 a.2) 6 (fun k => (Int32.ofNat (sg s k), Int32.ofNat k)) _ ?_ ?_ F (by omega)
  · intro fu k hk
    have f0 : ((6 : Int32) ≤ Int32.ofNat k) = False := by
      rw [show (6 : Int32) = Int32.ofNat 6 from rfl, p_le (by omega) (by omega)]
      exact p_nle hk
    dsimp only
    rw [fX1_griefOfAll_l4, fX1_griefOfAll_l4_b, if_neg (of_eq_false f0), c_griefOf F h hk, bd1_mk, p_s, p_add]
    rfl
  · intro fu
    dsimp only
    rw [fX1_griefOfAll_l4, fX1_griefOfAll_l4_b, if_pos (by decide)]
theorem m_sum (F : Nat) {s : Nat → Option Nat} {n : Nat} {t : Nat → Int32} (hm : RM t 0 s n) (hF : 1000000 ≤ F) : fX6_sumOf F 7 t = some (Int32.ofNat (sg s 6)) := by
  unfold fX6_sumOf
  refine loop_up (fun fu (a : Int32 × Int32) => fX6_sumOf_l4 F 7 t fu a.1 a.2) 6 (fun k => (Int32.ofNat (sg s k), Int32.ofNat k)) _ ?_ ?_ F (by omega)
  · intro fu k hk
    have f0 : ((6 : Int32) ≤ Int32.ofNat k) = False := by
      rw [show (6 : Int32) = Int32.ofNat 6 from rfl, p_le (by omega) (by omega)]
      exact p_nle hk
    dsimp only
    rw [fX6_sumOf_l4, fX6_sumOf_l4_b, if_neg (of_eq_false f0), p_cl (show k < 2147483648 by omega), if_neg (gx (show k < 7 by omega) (by omega)), rm_g hm hk, p_s, p_add]
    rfl
  · intro fu
    dsimp only
    rw [fX6_sumOf_l4, fX6_sumOf_l4_b, if_pos (by decide)]
theorem cI_congr {p q : Nat → Bool} : ∀ k, (∀ i, i < k → p i = q i) → cI p k = cI q k
  | 0, _ => rfl
  | k + 1, h => by rw [cI, cI, cI_congr k (fun i hi => h i (by omega)), h k (by omega)]
theorem c_manyOf (F : Nat) {n b : Nat} {K : Nat → Nat} {kin : Nat → Int32} {x : Int32} (hx : x = Int32.ofNat b) (hb : b < 6) (h0 : 0 < b) (hn : n ≤ 6) (hk : ∀ i, i < n → K i ≤ 5 ∧ kin i = Int32.ofNat (K i)) (hF : 1000000 ≤ F) : fX2_howManyAre F (Int32.ofNat n) kin x = some (cI (fun e => decide (fX6_isOf 0 (Int32.ofNat (K e)) (Int32.ofNat b) = some 1)) n) := by
  subst hx
  unfold fX2_howManyAre
  refine loop_up (fun fu (a : Int32 × Int32) => fX2_howManyAre_l4 F (Int32.ofNat n) kin (Int32.ofNat b) fu a.1 a.2) n (fun k => (cI (fun e => decide (fX6_isOf 0 (Int32.ofNat (K e)) (Int32.ofNat b) = some 1)) k, Int32.ofNat k)) _ ?_ ?_ F (by omega)
  · intro fu k hkn
    have f0 : (Int32.ofNat n ≤ Int32.ofNat k) = False := by rw [p_le (by omega) (by omega)]; exact p_nle hkn
    dsimp only
    rw [fX2_howManyAre_l4, fX2_howManyAre_l4_b, if_neg (of_eq_false f0), p_cl (show k < 2147483648 by omega), if_neg (gx (show k < 6 by omega) (by omega)), (hk k hkn).2, p_s]
    rcases kind_c F (hk k hkn).1 hb h0 with ⟨k1, k2⟩ | ⟨k1, k2, -⟩
    · rw [k1, bd1_mk, if_pos rfl, cI_f (decide_eq_false (fun q => by rw [← iof_F F, k2] at q; cases q))]
    · rw [k1, bd1_mk, if_neg (by decide), cI_t (decide_eq_true (by rw [← iof_F F, k2]))]
  · intro fu
    dsimp only
    rw [fX2_howManyAre_l4, fX2_howManyAre_l4_b, if_pos (Int32.le_refl _)]
theorem m_manyOf (F : Nat) {n b : Nat} {K : Nat → Nat} {kin : Nat → Int32} {x : Int32} (hx : x = Int32.ofNat b) (hb : b < 6) (h0 : 0 < b) (hn : n ≤ 6) (hk : ∀ i, i < n → K i ≤ 5 ∧ kin i = Int32.ofNat (K i)) (hF : 1000000 ≤ F) : fX6_kindsOf F (Int32.ofNat n) kin x = some (cI (fun e => decide (fX6_isOf 0 (Int32.ofNat (K e)) (Int32.ofNat b) = some 1)) n) := by
  subst hx
  unfold fX6_kindsOf
  refine loop_up (fun fu (a : Int32 × Int32) => fX6_kindsOf_l4 F (Int32.ofNat n) kin (Int32.ofNat b) fu a.1 a.2) n (fun k => (cI (fun e => decide (fX6_isOf 0 (Int32.ofNat (K e)) (Int32.ofNat b) = some 1)) k, Int32.ofNat k)) _ ?_ ?_ F (by omega)
  · intro fu k hkn
    have f0 : (Int32.ofNat n ≤ Int32.ofNat k) = False := by rw [p_le (by omega) (by omega)]; exact p_nle hkn
    dsimp only
    rw [fX6_kindsOf_l4, fX6_kindsOf_l4_b, if_neg (of_eq_false f0), p_cl (show k < 2147483648 by omega), if_neg (gx (show k < 6 by omega) (by omega)), (hk k hkn).2, p_s, Int32.add_zero]
    rcases kind_c F (hk k hkn).1 hb h0 with ⟨k1, k2⟩ | ⟨k1, k2, -⟩
    · rw [k2, bd1_mk, if_pos rfl, cI_f (decide_eq_false (fun q => by rw [← iof_F F, k2] at q; cases q))]
    · rw [k2, bd1_mk, if_neg (by decide), cI_t (decide_eq_true (by rw [← iof_F F, k2]))]
  · intro fu
    dsimp only
    rw [fX6_kindsOf_l4, fX6_kindsOf_l4_b, if_pos (Int32.le_refl _)]
theorem c_there (F : Nat) {n1 : Nat} {f : Nat → Int32} (h1 : n1 < 1000) (hF : 1000000 ≤ F) : fX5_howManyThere F n1 f = some (cI (fun e => !decide (f e = -1)) n1) := by
  unfold fX5_howManyThere
  refine loop_up (fun fu (a : Int32 × Int32) => fX5_howManyThere_l10 F n1 f (Int32.ofNat n1) fu a.1 a.2) n1 (fun k => (cI (fun e => !decide (f e = -1)) k, Int32.ofNat k)) _ ?_ ?_ F (by omega)
  · intro fu k hkn
    have f0 : (Int32.ofNat n1 ≤ Int32.ofNat k) = False := by rw [p_le (by omega) (by omega)]; exact p_nle hkn
    dsimp only
    rw [fX5_howManyThere_l10, fX5_howManyThere_l10_b, if_neg (of_eq_false f0), p_cl (show k < 2147483648 by omega), if_neg (gx hkn (by omega)), p_s]
    by_cases h : f k = -1
    · rw [if_pos h, cI_f (by rw [decide_eq_true h]; rfl)]
    · rw [if_neg h, cI_t (by rw [decide_eq_false h]; rfl)]
  · intro fu
    dsimp only
    rw [fX5_howManyThere_l10, fX5_howManyThere_l10_b, if_pos (Int32.le_refl _)]
theorem c_thereK (F : Nat) {f : Nat → Int32} (hF : 1000000 ≤ F) : fX5_howManyKept F f = some (cI (fun e => !decide (f e = -1)) 3) := by
  unfold fX5_howManyKept
  refine loop_up (fun fu (a : Int32 × Int32) => fX5_howManyKept_l13 F f (Int32.ofNat 3) fu a.1 a.2) 3 (fun k => (cI (fun e => !decide (f e = -1)) k, Int32.ofNat k)) _ ?_ ?_ F (by omega)
  · intro fu k hkn
    have f0 : (Int32.ofNat 3 ≤ Int32.ofNat k) = False := by rw [p_le (by omega) (by omega)]; exact p_nle hkn
    dsimp only
    rw [fX5_howManyKept_l13, fX5_howManyKept_l13_b, if_neg (of_eq_false f0), p_cl (show k < 2147483648 by omega), if_neg (gx hkn (by omega)), p_s]
    by_cases h : f k = -1
    · rw [if_pos h, cI_f (by rw [decide_eq_true h]; rfl)]
    · rw [if_neg h, cI_t (by rw [decide_eq_false h]; rfl)]
  · intro fu
    dsimp only
    rw [fX5_howManyKept_l13, fX5_howManyKept_l13_b, if_pos (Int32.le_refl _)]
theorem m_l77s (F : Nat) {mguests mclause mdeeds : Int32} {mrs mts mkinds mnow mkept : Nat → Int32} {x x2 : Int32} (hx : ¬ (x = (9 : Int32))) {g : Nat} (hg : 0 < g) : fX6_counted_l77 F mguests mclause mdeeds mrs mts mkinds mnow mkept x g x2 (0 : Int32) = fX6_counted_n111 F mguests mclause mdeeds mrs mts mkinds mnow mkept x x2 := by
  obtain ⟨g, rfl⟩ : ∃ f, g = f + 1 := ⟨g - 1, by omega⟩
  rw [fX6_counted_l77, fX6_counted_l77_b, if_neg (by decide), if_neg hx]
theorem m_l41s (F : Nat) {mguests mclause mdeeds : Int32} {mrs mts mkinds mnow mkept : Nat → Int32} {x x2 : Int32} (hx : ¬ (x = (8 : Int32))) {g : Nat} (hg : 0 < g) : fX6_counted_l41 F mguests mclause mdeeds mrs mts mkinds mnow mkept x g x2 (0 : Int32) = fX6_counted_l77 F mguests mclause mdeeds mrs mts mkinds mnow mkept x F x2 (0 : Int32) := by
  obtain ⟨g, rfl⟩ : ∃ f, g = f + 1 := ⟨g - 1, by omega⟩
  rw [fX6_counted_l41, fX6_counted_l41_b, if_neg (by decide), if_neg hx]
theorem m_l4s (F : Nat) {mguests mclause mdeeds : Int32} {mrs mts mkinds mnow mkept : Nat → Int32} {x x2 : Int32} (hx : ¬ (x = (7 : Int32))) {g : Nat} (hg : 0 < g) : fX6_counted_l4 F mguests mclause mdeeds mrs mts mkinds mnow mkept x g x2 (0 : Int32) = fX6_counted_l41 F mguests mclause mdeeds mrs mts mkinds mnow mkept x F x2 (0 : Int32) := by
  obtain ⟨g, rfl⟩ : ∃ f, g = f + 1 := ⟨g - 1, by omega⟩
  rw [fX6_counted_l4, fX6_counted_l4_b, if_neg (by decide), if_neg hx]
theorem m_l4r (F : Nat) {mguests mclause mdeeds : Int32} {mrs mts mkinds mnow mkept : Nat → Int32} (hF : 1000000 ≤ F) : fX6_counted_l4 F mguests mclause mdeeds mrs mts mkinds mnow mkept (Int32.ofNat 7) F (0 : Int32) (0 : Int32) = fX6_counted_l41 F mguests mclause mdeeds mrs mts mkinds mnow mkept (Int32.ofNat 7) F (cI (fun e => decide (0 ≤ mrs e)) 6) (0 : Int32) := by
  refine loop_up (fun fu (a : Int32 × Int32) => fX6_counted_l4 F mguests mclause mdeeds mrs mts mkinds mnow mkept (Int32.ofNat 7) fu a.1 a.2) 6 (fun k => (cI (fun e => decide (0 ≤ mrs e)) k, Int32.ofNat k)) _ ?_ ?_ F (by omega)
  · intro fu k hk
    have f0 : ((6 : Int32) ≤ Int32.ofNat k) = False := by
      rw [show (6 : Int32) = Int32.ofNat 6 from rfl, p_le (by omega) (by omega)]
      exact p_nle hk
    dsimp only
    rw [fX6_counted_l4, fX6_counted_l4_b, if_neg (of_eq_false f0), if_pos (by decide), p_cl (show k < 2147483648 by omega), if_neg (gx hk (by omega)), p_s, Int32.add_zero]
    by_cases h : 0 ≤ mrs k
    · rw [if_pos h, cI_t (decide_eq_true h)]
    · rw [if_neg h, cI_f (decide_eq_false h)]
  · intro fu
    dsimp only
    rw [fX6_counted_l4, fX6_counted_l4_b, if_pos (by decide)]
theorem m_l41r (F : Nat) {mguests mclause mdeeds : Int32} {mrs mts mkinds mnow mkept : Nat → Int32} (hF : 1000000 ≤ F) : fX6_counted_l41 F mguests mclause mdeeds mrs mts mkinds mnow mkept (Int32.ofNat 8) F (0 : Int32) (0 : Int32) = fX6_counted_l77 F mguests mclause mdeeds mrs mts mkinds mnow mkept (Int32.ofNat 8) F (cI (fun e => decide (0 ≤ mts e)) 4) (0 : Int32) := by
  refine loop_up (fun fu (a : Int32 × Int32) => fX6_counted_l41 F mguests mclause mdeeds mrs mts mkinds mnow mkept (Int32.ofNat 8) fu a.1 a.2) 4 (fun k => (cI (fun e => decide (0 ≤ mts e)) k, Int32.ofNat k)) _ ?_ ?_ F (by omega)
  · intro fu k hk
    dsimp only
    rw [fX6_counted_l41, fX6_counted_l41_b, if_neg (of_eq_false (f4_lt hk)), if_pos (by decide), p_cl (show k < 2147483648 by omega), if_neg (gx hk (by omega)), p_s, Int32.add_zero]
    by_cases h : 0 ≤ mts k
    · rw [if_pos h, cI_t (decide_eq_true h)]
    · rw [if_neg h, cI_f (decide_eq_false h)]
  · intro fu
    dsimp only
    rw [fX6_counted_l41, fX6_counted_l41_b, if_pos (by decide)]
theorem m_l77r (F : Nat) {mguests mclause mdeeds : Int32} {mrs mts mkinds mnow mkept : Nat → Int32} (hF : 1000000 ≤ F) : fX6_counted_l77 F mguests mclause mdeeds mrs mts mkinds mnow mkept (Int32.ofNat 9) F (0 : Int32) (0 : Int32) = fX6_counted_n111 F mguests mclause mdeeds mrs mts mkinds mnow mkept (Int32.ofNat 9) (cI (fun e => !decide (mkept e = 0)) 3) := by
  refine loop_up (fun fu (a : Int32 × Int32) => fX6_counted_l77 F mguests mclause mdeeds mrs mts mkinds mnow mkept (Int32.ofNat 9) fu a.1 a.2) 3 (fun k => (cI (fun e => !decide (mkept e = 0)) k, Int32.ofNat k)) _ ?_ ?_ F (by omega)
  · intro fu k hk
    have f0 : ((3 : Int32) ≤ Int32.ofNat k) = False := by
      rw [show (3 : Int32) = Int32.ofNat 3 from rfl, p_le (by omega) (by omega)]
      exact p_nle hk
    dsimp only
    rw [fX6_counted_l77, fX6_counted_l77_b, if_neg (of_eq_false f0), if_pos (by decide), p_cl (show k < 2147483648 by omega), if_neg (gx hk (by omega)), p_s, Int32.add_zero]
    by_cases h : mkept k = 0
    · rw [if_pos h, cI_f (by rw [decide_eq_true h]; rfl)]
    · rw [if_neg h, cI_t (by rw [decide_eq_false h]; rfl)]
  · intro fu
    dsimp only
    rw [fX6_counted_l77, fX6_counted_l77_b, if_pos (by decide)]
theorem there_eq {k w : Nat} {rs mrs mr : Nat → Int32} {rm : Nat → Nat → Int32} (h : RRow k w rs rm mrs mr) (hw : w < 1000) : cI (fun e => !decide (rs e = -1)) k = cI (fun e => decide (0 ≤ mrs e)) k := by
  refine cI_congr k fun i hi => ?_
  rcases rrow_get h hi with ⟨g1, g2⟩ | ⟨m, hm, g1, g2, -⟩
  · rw [g1, g2]; decide
  · rw [g1, g2, decide_eq_false (nat_ne1 (by omega)), decide_eq_true (of_eq_true (p_ge0 (by omega)))]; rfl
theorem kept_eq {n : Nat} {kdee mkeeps mkept : Nat → Int32} {know : Nat → Int64} {kahe : Nat → Nat → Int64} (h : RKep n kdee know kahe mkeeps mkept) : cI (fun e => !decide (kdee e = -1)) 3 = cI (fun e => !decide (mkept e = 0)) 3 := by
  refine cI_congr 3 fun i hi => ?_
  rcases h i hi with ⟨g1, g2⟩ | ⟨g1, d, g2, g3, -⟩
  · rw [g1, g2]; decide
  · rw [g1, g3, decide_eq_false (nat_ne1 (by omega))]; decide
theorem count_c (F : Nat) {n c d : Nat} {E : Nat → Int} {K : Nat → Nat} {S : Nat → Nat → Bool} {psize pclause : Int32} {peff pkin psig psee : Nat → Int32} {mguests mclause : Int32} {mdoes mkinds msees mnow : Nat → Int32} (hP : RPar n c E K S psize pclause peff pkin psig psee mguests mclause mdoes mkinds msees) {s : Nat → Option Nat} (hs : HallOk n s) (hm : RM mnow 0 s n) {kdee mkeeps mkept : Nat → Int32} {know : Nat → Int64} {kahe : Nat → Nat → Int64} (hKp : RKep n kdee know kahe mkeeps mkept) {rs mrs mr ts mts mt : Nat → Int32} {rm tm : Nat → Nat → Int32} (hRo : RRow 6 40 rs rm mrs mr) (hTe : RRow 4 80 ts tm mts mt) (hF : 1000000 ≤ F) {k : Nat} (hk : k < 10) : ∃ v, fX5_count F rs ts psize pclause pkin (Int32.ofNat d) (enc s) kdee (Int32.ofNat k) = some v ∧ fX6_counted F mguests mclause (Int32.ofNat d) mrs mts mkinds mnow mkept (Int32.ofNat k) = some v := by
  obtain ⟨hn, rfl, rfl, hc, rfl, rfl, hE, hK, hS, hSn⟩ := id hP
  have hKc : ∀ i, i < n → K i ≤ 5 ∧ pkin i = Int32.ofNat (K i) := fun i hi => ⟨(hK i hi).1, (hK i hi).2.1⟩
  have hKm : ∀ i, i < n → K i ≤ 5 ∧ mkinds i = Int32.ofNat (K i) := fun i hi => ⟨(hK i hi).1, (hK i hi).2.2⟩
  have hF0 : 0 < F := by omega
  unfold fX6_counted
  rcases (show k = 0 ∨ k = 1 ∨ k = 2 ∨ k = 3 ∨ k = 4 ∨ k = 5 ∨ k = 6 ∨ k = 7 ∨ k = 8 ∨ k = 9 by omega) with rfl | rfl | rfl | rfl | rfl | rfl | rfl | rfl | rfl | rfl
  · exact ⟨_, rfl, by rw [m_l4s F (by decide) hF0, m_l41s F (by decide) hF0, m_l77s F (by decide) hF0]; rfl⟩
  · exact ⟨_, rfl, by rw [m_l4s F (by decide) hF0, m_l41s F (by decide) hF0, m_l77s F (by decide) hF0]; rfl⟩
  · exact ⟨_, rfl, by rw [m_l4s F (by decide) hF0, m_l41s F (by decide) hF0, m_l77s F (by decide) hF0]; rfl⟩
  · refine ⟨Int32.ofNat (pop (fun i => (s i).isSome)), ?_, ?_⟩
    · unfold fX5_count
      rw [if_neg (by decide), if_neg (by decide), if_neg (by decide), if_pos (by decide), c_many_in F hs.hb, bd1_mk]
    · rw [m_l4s F (by decide) hF0, m_l41s F (by decide) hF0, m_l77s F (by decide) hF0]
      unfold fX6_counted_n111
      rw [if_neg (by decide), if_neg (by decide), if_neg (by decide), if_pos (by decide), m_inside F hn hs.1 (rm_6 hm), bd1_mk, m_bits F _ hF, bd1_mk]
  · refine ⟨Int32.ofNat (sg s 6), ?_, ?_⟩
    · unfold fX5_count
      rw [if_neg (by decide), if_neg (by decide), if_neg (by decide), if_neg (by decide), if_pos (by decide), c_sum F hs.hb hF, bd1_mk]
    · rw [m_l4s F (by decide) hF0, m_l41s F (by decide) hF0, m_l77s F (by decide) hF0]
      unfold fX6_counted_n111
      rw [if_neg (by decide), if_neg (by decide), if_neg (by decide), if_neg (by decide), if_pos (by decide), m_sum F hm hF, bd1_mk]
  · refine ⟨cI (fun e => decide (fX6_isOf 0 (Int32.ofNat (K e)) (Int32.ofNat 1) = some 1)) n, ?_, ?_⟩
    · unfold fX5_count
      rw [if_neg (by decide), if_neg (by decide), if_neg (by decide), if_neg (by decide), if_neg (by decide), if_pos (by decide), c_manyOf F (b := 1) (x := 1) rfl (by decide) (by decide) hn hKc hF, bd1_mk]
    · rw [m_l4s F (by decide) hF0, m_l41s F (by decide) hF0, m_l77s F (by decide) hF0]
      unfold fX6_counted_n111
      rw [if_neg (by decide), if_neg (by decide), if_neg (by decide), if_neg (by decide), if_neg (by decide), if_pos (by decide), m_manyOf F (b := 1) (x := 1) rfl (by decide) (by decide) hn hKm hF, bd1_mk]
  · refine ⟨cI (fun e => decide (fX6_isOf 0 (Int32.ofNat (K e)) (Int32.ofNat 2) = some 1)) n, ?_, ?_⟩
    · unfold fX5_count
      rw [if_neg (by decide), if_neg (by decide), if_neg (by decide), if_neg (by decide), if_neg (by decide), if_neg (by decide), if_pos (by decide), c_manyOf F (b := 2) (x := 2) rfl (by decide) (by decide) hn hKc hF, bd1_mk]
    · rw [m_l4s F (by decide) hF0, m_l41s F (by decide) hF0, m_l77s F (by decide) hF0]
      unfold fX6_counted_n111
      rw [if_neg (by decide), if_neg (by decide), if_neg (by decide), if_neg (by decide), if_neg (by decide), if_neg (by decide), if_pos (by decide), m_manyOf F (b := 2) (x := 2) rfl (by decide) (by decide) hn hKm hF, bd1_mk]
  · refine ⟨cI (fun e => decide (0 ≤ mrs e)) 6, ?_, ?_⟩
    · unfold fX5_count
      rw [if_neg (by decide), if_neg (by decide), if_neg (by decide), if_neg (by decide), if_neg (by decide), if_neg (by decide), if_neg (by decide), if_pos (by decide), c_there F (by decide) hF, bd1_mk, there_eq hRo (by decide)]
    · rw [m_l4r F hF, m_l41s F (by decide) hF0, m_l77s F (by decide) hF0]
      rfl
  · refine ⟨cI (fun e => decide (0 ≤ mts e)) 4, ?_, ?_⟩
    · unfold fX5_count
      rw [if_neg (by decide), if_neg (by decide), if_neg (by decide), if_neg (by decide), if_neg (by decide), if_neg (by decide), if_neg (by decide), if_neg (by decide), if_pos (by decide), c_there F (by decide) hF, bd1_mk, there_eq hTe (by decide)]
    · rw [m_l4s F (by decide) hF0, m_l41r F hF, m_l77s F (by decide) hF0]
      rfl
  · refine ⟨cI (fun e => !decide (mkept e = 0)) 3, ?_, ?_⟩
    · unfold fX5_count
      rw [if_neg (by decide), if_neg (by decide), if_neg (by decide), if_neg (by decide), if_neg (by decide), if_neg (by decide), if_neg (by decide), if_neg (by decide), if_neg (by decide), if_pos (by decide), c_thereK F hF, bd1_mk, kept_eq hKp]
    · rw [m_l4s F (by decide) hF0, m_l41s F (by decide) hF0, m_l77r F hF]
      rfl
