theorem any_comm (p q : Nat → Bool) : any6 (fun j => p j && q j) = any6 (fun j => q j && p j) := by
  congr 1
  funext j
  exact Bool.and_comm _ _
theorem tells_c (F : Nat) {n c : Nat} {E : Nat → Int} {K : Nat → Nat} {S : Nat → Nat → Bool} {psize pclause : Int32} {peff pkin psig psee : Nat → Int32} {mguests mclause : Int32} {mdoes mkinds msees mnow : Nat → Int32} (hP : RPar n c E K S psize pclause peff pkin psig psee mguests mclause mdoes mkinds msees) {s : Nat → Option Nat} (hs : HallOk n s) (hm : RM mnow 0 s n) (hF : 1000000 ≤ F) {i what : Nat} (hi : i < n) (hw : what < 5) : ∃ v, fX5_guestTells F pkin psig psee (enc s) (Int32.ofNat i) (Int32.ofNat what) = some v ∧ fX6_guestOf F mguests mkinds msees mnow (Int32.ofNat i) (Int32.ofNat what) = some v := by
  have hpm := pm_of hP
  obtain ⟨hn, rfl, rfl, hc, rfl, rfl, hE, hK, hS, hSn⟩ := id hP
  have h6 : i < 6 := by omega
  have hcl := p_cl (show i < 2147483648 by omega)
  have hix := gx h6 (by omega)
  have hix7 := gx (show i < 7 by omega) (by omega)
  rcases (show what = 0 ∨ what = 1 ∨ what = 2 ∨ what = 3 ∨ what = 4 by omega) with rfl | rfl | rfl | rfl | rfl
  · exact ⟨_, by unfold fX5_guestTells; rw [hcl, if_pos (by decide), if_neg hix, (hK i hi).2.1], by unfold fX6_guestOf; rw [hcl, if_pos (by decide), if_neg hix, (hK i hi).2.2]⟩
  · exact ⟨_, by unfold fX5_guestTells; rw [if_neg (by decide), if_pos (by decide), c_griefOf F hs.hb h6, bd1_mk], by unfold fX6_guestOf; rw [hcl, if_neg (by decide), if_pos (by decide), if_neg hix7, rm_g hm h6]⟩
  · refine ⟨if (s i).isSome = true then 0 else 1, ?_, ?_⟩
    · unfold fX5_guestTells
      rw [if_neg (by decide), if_neg (by decide), if_pos (by decide), c_isIn F hs.hb h6, bd1_mk]
      cases (s i).isSome <;> rfl
    · unfold fX6_guestOf
      rw [if_neg (by decide), if_neg (by decide), if_pos (by decide), m_has6 F hm hi h6, bd1_mk]
      cases (s i).isSome <;> rfl
  · exact ⟨_, by unfold fX5_guestTells; rw [hcl, if_neg (by decide), if_neg (by decide), if_neg (by decide), if_pos (by decide), if_neg hix, (hS i hi).1], by unfold fX6_guestOf; rw [hcl, if_neg (by decide), if_neg (by decide), if_neg (by decide), if_pos (by decide), if_neg hix, (hS i hi).2.1]⟩
  · refine ⟨if any6 (fun j => (s j).isSome && S j i) = true then 1 else 0, ?_, ?_⟩
    · unfold fX5_guestTells fX2_watchers
      rw [if_neg (by decide), if_neg (by decide), if_neg (by decide), if_neg (by decide), hcl, if_neg hix, c_insiders F hs.hb, bd1_mk, bd1_mk, (hS i hi).2.2, st_and]
      simp only [st_zero]
      rw [any_comm (fun j => S j i) (fun j => (s j).isSome)]
      cases any6 (fun j => (s j).isSome && S j i) <;> rfl
    · unfold fX6_guestOf
      rw [if_neg (by decide), if_neg (by decide), if_neg (by decide), if_neg (by decide), m_inside F hn hs.1 (rm_6 hm), bd1_mk, m_isSeen F hpm _ h6 (by omega), bd1_mk]
      cases any6 (fun j => (s j).isSome && S j i) <;> rfl
def cI (p : Nat → Bool) : Nat → Int32
  | 0 => 0
  | k + 1 => if p k = true then cI p k + 1 else cI p k
theorem cI_t {p : Nat → Bool} {k : Nat} (h : p k = true) : cI p (k + 1) = cI p k + 1 := if_pos h
theorem cI_f {p : Nat → Bool} {k : Nat} (h : p k = false) : cI p (k + 1) = cI p k := if_neg (by rw [h]; decide)
def mxI (f : Nat → Int32) : Nat → Int32
  | 0 => 0
  | k + 1 => if mxI f k < f k then f k else mxI f k
theorem kind_tab : ∀ a, a < 6 → ∀ b, b < 6 → 0 < b → fX5_isOfKind 0 (Int32.ofNat a) (Int32.ofNat b) = fX6_isOf 0 (Int32.ofNat a) (Int32.ofNat b) ∧ (fX5_isOfKind 0 (Int32.ofNat a) (Int32.ofNat b) = some 0 ∨ (fX5_isOfKind 0 (Int32.ofNat a) (Int32.ofNat b) = some 1 ∧ (b = 3 → a = 3))) := by decide +kernel
theorem iok_F (F : Nat) (x y : Int32) : fX5_isOfKind F x y = fX5_isOfKind 0 x y := rfl
theorem iof_F (F : Nat) (x y : Int32) : fX6_isOf F x y = fX6_isOf 0 x y := rfl
theorem kind_c (F : Nat) {a b : Nat} (ha : a ≤ 5) (hb : b < 6) (h0 : 0 < b) : (fX5_isOfKind F (Int32.ofNat a) (Int32.ofNat b) = some 0 ∧ fX6_isOf F (Int32.ofNat a) (Int32.ofNat b) = some 0) ∨ (fX5_isOfKind F (Int32.ofNat a) (Int32.ofNat b) = some 1 ∧ fX6_isOf F (Int32.ofNat a) (Int32.ofNat b) = some 1 ∧ (b = 3 → a = 3)) := by
  obtain ⟨h1, h2⟩ := kind_tab a (by omega) b hb h0
  rw [iok_F, iof_F]
  rcases h2 with h2 | ⟨h2, h3⟩
  · exact Or.inl ⟨h2, h1 ▸ h2⟩
  · exact Or.inr ⟨h2, h1 ▸ h2, h3⟩
theorem borne_tab : ∀ c, c < 10 → ∀ g, g < 21 → (if (0 : Int32) < (Int32.ofNat c - Int32.ofNat g) then (Int32.ofNat c - Int32.ofNat g) else (0 : Int32)) / 4 = (if Int32.ofNat g ≤ Int32.ofNat c then (Int32.ofNat c - Int32.ofNat g) / (4 : Int32) else 0) := by decide +kernel
theorem f4_lt {k : Nat} (hk : k < 4) : ((4 : Int32) ≤ Int32.ofNat k) = False := by
  rw [show (4 : Int32) = Int32.ofNat 4 from rfl, p_le (by omega) (by omega)]
  exact p_nle hk
theorem c_cheer (F : Nat) {n c : Nat} {E : Nat → Int} {K : Nat → Nat} {S : Nat → Nat → Bool} {size clause : Int32} {eff kin see : Nat → Int32} (hp : PC n c E K S size clause eff kin see) {s : Nat → Option Nat} (hs : HallOk n s) {i : Nat} (hi : i < n) (hF : 1000000 ≤ F) : fX2_tunesThatCheer F eff kin (enc s) (Int32.ofNat i) = some (cI (fun t => decide (gb (K i) t (E t) (gv s i) < gv s i)) 4) := by
  obtain ⟨hn, rfl, hc, rfl, hE, hk, -, -⟩ := hp
  have h6 : i < 6 := by omega
  have hg := hs.gv20 i
  unfold fX2_tunesThatCheer
  rw [c_griefOf F hs.hb h6, bd1_mk]
  refine loop_up (fun fu (a : Int32 × Int32) => fX2_tunesThatCheer_l13 F eff kin (Int32.ofNat i) (Int32.ofNat (gv s i)) fu a.1 a.2) 4 (fun k => (cI (fun t => decide (gb (K i) t (E t) (gv s i) < gv s i)) k, Int32.ofNat k)) _ ?_ ?_ F (by omega)
  · intro fu k hk4
    have hgb := gb_all (hk i hi).1 hk4 (hE k hk4).1 (hE k hk4).2.1 hg
    dsimp only
    rw [fX2_tunesThatCheer_l13, fX2_tunesThatCheer_l13_b, if_neg (of_eq_false (f4_lt hk4)), p_cl (show i < 2147483648 by omega), p_cl (show k < 2147483648 by omega), if_neg (gx h6 (by omega)), if_neg (gx hk4 (by omega)), (hk i hi).2, (hE k hk4).2.2, c_gb F (hk i hi).1 hk4 (hE k hk4).1 (hE k hk4).2.1 hg, bd1_mk, p_s]
    have hc1 : (Int32.ofNat (gv s i) ≤ Int32.ofNat (gb (K i) k (E k) (gv s i))) = (gv s i ≤ gb (K i) k (E k) (gv s i)) := p_le (by omega) (by omega)
    by_cases h : gv s i ≤ gb (K i) k (E k) (gv s i)
    · rw [if_pos (by rw [hc1]; exact h), cI_f (decide_eq_false (by omega))]
    · rw [if_neg (by rw [hc1]; exact h), cI_t (decide_eq_true (by omega))]
  · intro fu
    dsimp only
    rw [fX2_tunesThatCheer_l13, fX2_tunesThatCheer_l13_b, if_pos (by decide)]
theorem m_cheer (F : Nat) {n c : Nat} {E : Nat → Int} {K : Nat → Nat} {S : Nat → Nat → Bool} {mguests mclause : Int32} {mdoes mkinds msees mnow : Nat → Int32} (hp : PM n c E K S mguests mclause mdoes mkinds msees) {s : Nat → Option Nat} (hs : HallOk n s) (hm : RM mnow 0 s n) {i : Nat} (hi : i < n) (hF : 1000000 ≤ F) : fX6_markOf_l35 F mguests mclause mdoes mkinds msees mnow (Int32.ofNat i) F (0 : Int32) (0 : Int32) = some (cI (fun t => decide (gb (K i) t (E t) (gv s i) < gv s i)) 4) := by
  obtain ⟨hn, rfl, hc, rfl, hE, hk, -, -⟩ := hp
  have h6 : i < 6 := by omega
  have hg := hs.gv20 i
  refine loop_up (fun fu (a : Int32 × Int32) => fX6_markOf_l35 F (Int32.ofNat n) (Int32.ofNat c) mdoes mkinds msees mnow (Int32.ofNat i) fu a.1 a.2) 4 (fun k => (cI (fun t => decide (gb (K i) t (E t) (gv s i) < gv s i)) k, Int32.ofNat k)) _ ?_ ?_ F (by omega)
  · intro fu k hk4
    have hgb := gb_all (hk i hi).1 hk4 (hE k hk4).1 (hE k hk4).2.1 hg
    dsimp only
    rw [fX6_markOf_l35, fX6_markOf_l35_b, if_neg (of_eq_false (f4_lt hk4)), p_cl (show i < 2147483648 by omega), p_cl (show k < 2147483648 by omega), if_neg (gx h6 (by omega)), if_neg (gx (show i < 7 by omega) (by omega)), if_neg (gx hk4 (by omega)), (hk i hi).2, (hE k hk4).2.2, rm_g hm h6, m_gb F (hk i hi).1 hk4 (hE k hk4).1 (hE k hk4).2.1 hg, bd1_mk, if_neg (gx (show i < 7 by omega) (by omega)), p_s, Int32.add_zero]
    have hc1 : (Int32.ofNat (gv s i) ≤ Int32.ofNat (gb (K i) k (E k) (gv s i))) = (gv s i ≤ gb (K i) k (E k) (gv s i)) := p_le (by omega) (by omega)
    by_cases h : gv s i ≤ gb (K i) k (E k) (gv s i)
    · rw [if_pos (by rw [hc1]; exact h), cI_f (decide_eq_false (by omega))]
    · rw [if_neg (by rw [hc1]; exact h), cI_t (decide_eq_true (by omega))]
  · intro fu
    dsimp only
    rw [fX6_markOf_l35, fX6_markOf_l35_b, if_pos (by decide)]
theorem c_steep (F : Nat) {n c : Nat} {E : Nat → Int} {K : Nat → Nat} {S : Nat → Nat → Bool} {size clause : Int32} {eff kin see : Nat → Int32} (hp : PC n c E K S size clause eff kin see) {s : Nat → Option Nat} (hs : HallOk n s) {i : Nat} (hi : i < n) (hF : 1000000 ≤ F) : fX2_steepestRise F eff kin (enc s) (Int32.ofNat i) = some (mxI (fun t => Int32.ofNat (gb (K i) t (E t) (gv s i)) - Int32.ofNat (gv s i)) 4) := by
  obtain ⟨hn, rfl, hc, rfl, hE, hk, -, -⟩ := hp
  have h6 : i < 6 := by omega
  have hg := hs.gv20 i
  unfold fX2_steepestRise
  rw [c_griefOf F hs.hb h6, bd1_mk]
  refine loop_up (fun fu (a : Int32 × Int32) => fX2_steepestRise_l13 F eff kin (Int32.ofNat i) (Int32.ofNat (gv s i)) fu a.1 a.2) 4 (fun k => (mxI (fun t => Int32.ofNat (gb (K i) t (E t) (gv s i)) - Int32.ofNat (gv s i)) k, Int32.ofNat k)) _ ?_ ?_ F (by omega)
  · intro fu k hk4
    dsimp only
    rw [fX2_steepestRise_l13, fX2_steepestRise_l13_b, if_neg (of_eq_false (f4_lt hk4)), p_cl (show i < 2147483648 by omega), p_cl (show k < 2147483648 by omega), if_neg (gx h6 (by omega)), if_neg (gx hk4 (by omega)), (hk i hi).2, (hE k hk4).2.2, c_gb F (hk i hi).1 hk4 (hE k hk4).1 (hE k hk4).2.1 hg, bd1_mk, p_s]
    rfl
  · intro fu
    dsimp only
    rw [fX2_steepestRise_l13, fX2_steepestRise_l13_b, if_pos (by decide)]
theorem m_steep (F : Nat) {n c : Nat} {E : Nat → Int} {K : Nat → Nat} {S : Nat → Nat → Bool} {mguests mclause : Int32} {mdoes mkinds msees mnow : Nat → Int32} (hp : PM n c E K S mguests mclause mdoes mkinds msees) {s : Nat → Option Nat} (hs : HallOk n s) (hm : RM mnow 0 s n) {i : Nat} (hi : i < n) (hF : 1000000 ≤ F) : fX6_markOf_l93 F mguests mclause mdoes mkinds msees mnow (Int32.ofNat i) F (0 : Int32) (0 : Int32) = some (mxI (fun t => Int32.ofNat (gb (K i) t (E t) (gv s i)) - Int32.ofNat (gv s i)) 4) := by
  obtain ⟨hn, rfl, hc, rfl, hE, hk, -, -⟩ := hp
  have h6 : i < 6 := by omega
  have hg := hs.gv20 i
  refine loop_up (fun fu (a : Int32 × Int32) => fX6_markOf_l93 F (Int32.ofNat n) (Int32.ofNat c) mdoes mkinds msees mnow (Int32.ofNat i) fu a.1 a.2) 4 (fun k => (mxI (fun t => Int32.ofNat (gb (K i) t (E t) (gv s i)) - Int32.ofNat (gv s i)) k, Int32.ofNat k)) _ ?_ ?_ F (by omega)
  · intro fu k hk4
    dsimp only
    rw [fX6_markOf_l93, fX6_markOf_l93_b, if_neg (of_eq_false (f4_lt hk4)), p_cl (show i < 2147483648 by omega), p_cl (show k < 2147483648 by omega), if_neg (gx h6 (by omega)), if_neg (gx (show i < 7 by omega) (by omega)), if_neg (gx hk4 (by omega)), (hk i hi).2, (hE k hk4).2.2, rm_g hm h6, m_gb F (hk i hi).1 hk4 (hE k hk4).1 (hE k hk4).2.1 hg, bd1_mk, if_neg (gx (show i < 7 by omega) (by omega)), p_s]
    show _ = fX6_markOf_l93 F (Int32.ofNat n) (Int32.ofNat c) mdoes mkinds msees mnow (Int32.ofNat i) fu (if mxI (fun t => Int32.ofNat (gb (K i) t (E t) (gv s i)) - Int32.ofNat (gv s i)) k < Int32.ofNat (gb (K i) k (E k) (gv s i)) - Int32.ofNat (gv s i) then Int32.ofNat (gb (K i) k (E k) (gv s i)) - Int32.ofNat (gv s i) else mxI (fun t => Int32.ofNat (gb (K i) t (E t) (gv s i)) - Int32.ofNat (gv s i)) k) (Int32.ofNat (k + 1))
    by_cases h : Int32.ofNat (gb (K i) k (E k) (gv s i)) - Int32.ofNat (gv s i) ≤ mxI (fun t => Int32.ofNat (gb (K i) t (E t) (gv s i)) - Int32.ofNat (gv s i)) k
    · rw [if_pos h, if_neg (Int32.not_lt.mpr h)]
    · rw [if_neg h, if_pos (Int32.not_le.mp h)]
  · intro fu
    dsimp only
    rw [fX6_markOf_l93, fX6_markOf_l93_b, if_pos (by decide)]
theorem c_sadder (F : Nat) {n : Nat} (hn : n ≤ 6) {s : Nat → Option Nat} (hs : HallOk n s) {i : Nat} (hi : i < n) (hF : 1000000 ≤ F) : fX2_sadderThan F (Int32.ofNat n) (enc s) (Int32.ofNat i) = some (cI (fun e => decide (gv s i < gv s e)) n) := by
  have h6 : i < 6 := by omega
  have hg := hs.gv20 i
  unfold fX2_sadderThan
  refine loop_up (fun fu (a : Int32 × Int32) => fX2_sadderThan_l6 F (Int32.ofNat n) (enc s) (Int32.ofNat i) fu a.1 a.2) n (fun k => (cI (fun e => decide (gv s i < gv s e)) k, Int32.ofNat k)) _ ?_ ?_ F (by omega)
  · intro fu k hk
    have f0 : (Int32.ofNat n ≤ Int32.ofNat k) = False := by rw [p_le (by omega) (by omega)]; exact p_nle hk
    have hg2 := hs.gv20 k
    dsimp only
    rw [fX2_sadderThan_l6, fX2_sadderThan_l6_b, if_neg (of_eq_false f0), c_griefOf F hs.hb (show k < 6 by omega), bd1_mk, c_griefOf F hs.hb h6, bd1_mk, p_s]
    have hc1 : (Int32.ofNat (gv s k) ≤ Int32.ofNat (gv s i)) = (gv s k ≤ gv s i) := p_le (by omega) (by omega)
    by_cases h : gv s k ≤ gv s i
    · rw [if_pos (by rw [hc1]; exact h), cI_f (decide_eq_false (by omega))]
    · rw [if_neg (by rw [hc1]; exact h), cI_t (decide_eq_true (by omega))]
  · intro fu
    dsimp only
    rw [fX2_sadderThan_l6, fX2_sadderThan_l6_b, if_pos (Int32.le_refl _)]
theorem m_sadder (F : Nat) {n : Nat} (hn : n ≤ 6) {mclause : Int32} {mdoes mkinds msees mnow : Nat → Int32} {s : Nat → Option Nat} (hs : HallOk n s) (hm : RM mnow 0 s n) {i : Nat} (hi : i < n) (hF : 1000000 ≤ F) : fX6_markOf_l187 F (Int32.ofNat n) mclause mdoes mkinds msees mnow (Int32.ofNat i) F (0 : Int32) (0 : Int32) = some (cI (fun e => decide (gv s i < gv s e)) n) := by
  have h6 : i < 6 := by omega
  have hg := hs.gv20 i
  refine loop_up (fun fu (a : Int32 × Int32) => fX6_markOf_l187 F (Int32.ofNat n) mclause mdoes mkinds msees mnow (Int32.ofNat i) fu a.1 a.2) n (fun k => (cI (fun e => decide (gv s i < gv s e)) k, Int32.ofNat k)) _ ?_ ?_ F (by omega)
  · intro fu k hk
    have f0 : (Int32.ofNat n ≤ Int32.ofNat k) = False := by rw [p_le (by omega) (by omega)]; exact p_nle hk
    have hg2 := hs.gv20 k
    dsimp only
    rw [fX6_markOf_l187, fX6_markOf_l187_b, if_neg (of_eq_false f0), p_cl (show i < 2147483648 by omega), p_cl (show k < 2147483648 by omega), if_neg (gx (show k < 7 by omega) (by omega)), if_neg (gx (show i < 7 by omega) (by omega)), rm_g hm h6, rm_g hm (show k < 6 by omega), p_s, Int32.add_zero]
    have hc1 : (Int32.ofNat (gv s k) ≤ Int32.ofNat (gv s i)) = (gv s k ≤ gv s i) := p_le (by omega) (by omega)
    by_cases h : gv s k ≤ gv s i
    · rw [if_pos (by rw [hc1]; exact h), cI_f (decide_eq_false (by omega))]
    · rw [if_neg (by rw [hc1]; exact h), cI_t (decide_eq_true (by omega))]
  · intro fu
    dsimp only
    rw [fX6_markOf_l187, fX6_markOf_l187_b, if_pos (Int32.le_refl _)]
theorem c_suspects (F : Nat) {n : Nat} (hn : n ≤ 6) {clause : Int32} {sig : Nat → Int32} {S : Nat → Nat → Bool} {s : Nat → Option Nat} (hs : HallOk n s) {i : Nat} (hi : i < n) (hsig : sig i = st (S i)) (hF : 1000000 ≤ F) : fX2_suspects F (Int32.ofNat n) clause sig (enc s) (Int32.ofNat i) = some (cI (fun e => S i e && !decide (Int32.ofNat (gv s e) ≤ clause - 3)) n) := by
  have h6 : i < 6 := by omega
  unfold fX2_suspects
  refine loop_up (fun fu (a : Int32 × Int32) => fX2_suspects_l6 F (Int32.ofNat n) clause sig (enc s) (Int32.ofNat i) fu a.1 a.2) n (fun k => (cI (fun e => S i e && !decide (Int32.ofNat (gv s e) ≤ clause - 3)) k, Int32.ofNat k)) _ ?_ ?_ F (by omega)
  · intro fu k hk
    have f0 : (Int32.ofNat n ≤ Int32.ofNat k) = False := by rw [p_le (by omega) (by omega)]; exact p_nle hk
    dsimp only
    rw [fX2_suspects_l6, fX2_suspects_l6_b, if_neg (of_eq_false f0), p_cl (show i < 2147483648 by omega), if_neg (gx h6 (by omega)), hsig, st_bit (S i) (show k < 6 by omega), c_griefOf F hs.hb (show k < 6 by omega), bd1_mk, p_s]
    cases hS : S i k with
    | false => rw [if_pos (by decide), cI_f (by rw [hS]; rfl)]
    | true =>
      rw [if_neg (by decide)]
      by_cases h : Int32.ofNat (gv s k) ≤ clause - 3
      · rw [if_pos h, cI_f (by rw [hS, decide_eq_true h]; rfl)]
      · rw [if_neg h, cI_t (by rw [hS, decide_eq_false h]; rfl)]
  · intro fu
    dsimp only
    rw [fX2_suspects_l6, fX2_suspects_l6_b, if_pos (Int32.le_refl _)]
theorem m_suspects (F : Nat) {n : Nat} (hn : n ≤ 6) {clause : Int32} {mdoes mkinds msees mnow : Nat → Int32} {S : Nat → Nat → Bool} {s : Nat → Option Nat} (hs : HallOk n s) (hm : RM mnow 0 s n) {i : Nat} (hi : i < n) (hsig : msees i = st (S i)) (hF : 1000000 ≤ F) : fX6_markOf_l231 F (Int32.ofNat n) clause mdoes mkinds msees mnow (Int32.ofNat i) F (0 : Int32) (0 : Int32) = some (cI (fun e => S i e && !decide (Int32.ofNat (gv s e) ≤ clause - 3)) n) := by
  have h6 : i < 6 := by omega
  refine loop_up (fun fu (a : Int32 × Int32) => fX6_markOf_l231 F (Int32.ofNat n) clause mdoes mkinds msees mnow (Int32.ofNat i) fu a.1 a.2) n (fun k => (cI (fun e => S i e && !decide (Int32.ofNat (gv s e) ≤ clause - 3)) k, Int32.ofNat k)) _ ?_ ?_ F (by omega)
  · intro fu k hk
    have f0 : (Int32.ofNat n ≤ Int32.ofNat k) = False := by rw [p_le (by omega) (by omega)]; exact p_nle hk
    dsimp only
    rw [fX6_markOf_l231, fX6_markOf_l231_b, if_neg (of_eq_false f0), p_cl (show i < 2147483648 by omega), if_neg (gx h6 (by omega)), hsig, m_has F (S i) (show k < 6 by omega), bd1_mk, p_cl (show k < 2147483648 by omega), if_neg (gx (show k < 7 by omega) (by omega)), rm_g hm (show k < 6 by omega), p_s, Int32.add_zero]
    cases hS : S i k with
    | false => rw [if_pos (by decide), cI_f (by rw [hS]; rfl)]
    | true =>
      rw [if_neg (by decide)]
      by_cases h : Int32.ofNat (gv s k) ≤ clause - 3
      · rw [if_pos h, cI_f (by rw [hS, decide_eq_true h]; rfl)]
      · rw [if_neg h, cI_t (by rw [hS, decide_eq_false h]; rfl)]
  · intro fu
    dsimp only
    rw [fX6_markOf_l231, fX6_markOf_l231_b, if_pos (Int32.le_refl _)]
