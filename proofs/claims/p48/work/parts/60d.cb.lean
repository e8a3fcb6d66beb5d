theorem cx_at (F : Nat) {rs : Nat → Int32} (rm : Nat → Nat → Int32) (fc : Nat → Int32) (lf told : Int32) {r m i : Nat} (hr : r < 6) (hm : m ≤ 40) (g : rs r = Int32.ofNat m) (hi : i < m) : fX5_at F rs rm fc lf told (Int32.ofNat r) (Int32.ofNat i) = some (1, fc, lf, rm r i) := by
  unfold fX5_at
  rw [y_row F hr, bd1_mk, if_neg (by decide), c_rpf1 F hr hm g hi, bd1_mk, if_pos rfl, p_cl (show r < 2147483648 by omega), p_cl (show i < 2147483648 by omega), if_neg (gx hr (by omega)), if_neg (gx (show i < 40 by omega) (by omega))]
theorem cx_lay (F : Nat) {rs : Nat → Int32} (rm : Nat → Nat → Int32) (fc : Nat → Int32) (lf told x : Int32) {r m i : Nat} (hr : r < 6) (hm : m ≤ 40) (g : rs r = Int32.ofNat m) (hi : i < m) : fX5_lay F rs rm fc lf told (Int32.ofNat r) (Int32.ofNat i) x = some (1, va_up rm r (upd (rm r) i x), fc, lf, rm r i) := by
  have hi40 := gx (show i < 40 by omega) (by omega)
  unfold fX5_lay
  rw [y_row F hr, bd1_mk, if_neg (by decide), c_rpf1 F hr hm g hi, bd1_mk, if_pos rfl, p_cl (show r < 2147483648 by omega), p_cl (show i < 2147483648 by omega), if_neg (gx hr (by omega)), if_neg hi40, if_neg (gx hr (by omega)), if_neg hi40]
theorem cx_prog (F : Nat) {rs : Nat → Int32} {rm : Nat → Nat → Int32} {r m : Nat} {tN : Nat → Nat} (hr : r < 6) (h6 : m ≤ 6) (g1 : rs r = Int32.ofNat m) (htN : ∀ p, p < m → tN p < 4 ∧ rm r p = Int32.ofNat (tN p)) (hF : 1000000 ≤ F) : fX5_programmeFinding F rs rm (Int32.ofNat r) = some 0 := by
  have hcl := p_cl (show r < 2147483648 by omega)
  have hix := gx hr (by omega)
  have w6 : Int32.ofNat m ≤ (6 : Int32) := of_eq_true (by rw [show (6 : Int32) = Int32.ofNat 6 from rfl, p_le (by omega) (by omega)]; exact eq_true h6)
  unfold fX5_programmeFinding
  rw [hcl, if_neg hix, g1, if_neg (nat_ne1 (by omega)), if_neg hix, if_pos w6]
  refine loop_up (fun fu (a : Int32) => fX5_programmeFinding_l27 F rs rm (Int32.ofNat r) fu a) m (fun k => Int32.ofNat k) _ ?_ ?_ F (by omega)
  · intro fu k hk
    have f0 : ¬ (Int32.ofNat m ≤ Int32.ofNat k) := of_eq_false (by rw [p_le (by omega) (by omega)]; exact p_nle hk)
    rw [fX5_programmeFinding_l27, fX5_programmeFinding_l27_b, hcl, if_neg hix, g1, if_neg f0, if_neg hix, p_cl (show k < 2147483648 by omega), if_neg (gx (show k < 40 by omega) (by omega)), (htN k hk).2, y_tune F (htN k hk).1, bd1_mk, if_neg (by decide), p_s]
  · intro fu
    rw [fX5_programmeFinding_l27, fX5_programmeFinding_l27_b, hcl, if_neg hix, g1, if_pos (Int32.le_refl _)]
theorem cx_falls (F : Nat) {n c : Nat} {E : Nat → Int} {K : Nat → Nat} {S : Nat → Nat → Bool} {peff pkin psig psee : Nat → Int32} (hG : CS n c E K S peff pkin psig psee) {s : Nat → Option Nat} (hs : HallOk n s) (hF : 1000000 ≤ F) {rs : Nat → Int32} {rm : Nat → Nat → Int32} (fc : Nat → Int32) (lf : Int32) {r m : Nat} {tN : Nat → Nat} (hr : r < 6) (hm6 : m ≤ 6) (g1 : rs r = Int32.ofNat m) (htN : ∀ p, p < m → tN p < 4 ∧ rm r p = Int32.ofNat (tN p)) (told : Int32) : (fX5_falls F rs rm (Int32.ofNat n) (Int32.ofNat c) peff pkin psee (enc s) fc lf told (Int32.ofNat r) = some (-9, fc, lf, 0) ∧ ∀ j, j < m → st (goes c K S (mapT E K (tN j) (runS c E K S tN s j))) = 0) ∨ ∃ p, p < m ∧ ¬ (st (goes c K S (mapT E K (tN p) (runS c E K S tN s p))) = 0) ∧ (∀ j, j < p → st (goes c K S (mapT E K (tN j) (runS c E K S tN s j))) = 0) ∧ fX5_falls F rs rm (Int32.ofNat n) (Int32.ofNat c) peff pkin psee (enc s) fc lf told (Int32.ofNat r) = some (Int32.ofNat p, fc, lf, st (goes c K S (mapT E K (tN p) (runS c E K S tN s p)))) := by
  have hpc := hG.pc
  have hn := hG.n6
  have hn0 := hG.nz
  have hE := hG.eff
  have hK := hG.kin
  have hS := hG.see
  have hpl : inP s ≤ 6 := pop_le _
  have a1 := y_row F hr
  have b1 := cx_prog F hr hm6 g1 htN hF
  have hcl := p_cl (show r < 2147483648 by omega)
  have hix := gx hr (by omega)
  have hrun : ∀ k, k ≤ m → HallOk n (runS c E K S tN s k) := fun k hk => runS_ok hs hG.E45 hG.K5 k (fun p hp => (htN p (by omega)).1)
  unfold fX5_falls
  rw [a1, bd1_mk, if_neg (by decide), b1, bd1_mk, if_pos rfl]
  refine loop_inv (fun fu (a : Int64 × Int32) => fX5_falls_l36 F rs rm (Int32.ofNat n) (Int32.ofNat c) peff pkin psee (enc s) (Int32.ofNat r) fc lf told fu a.1 a.2) m (fun k a => a.1 = enc (runS c E K S tN s k) ∧ a.2 = Int32.ofNat k ∧ ∀ j, j < k → st (goes c K S (mapT E K (tN j) (runS c E K S tN s j))) = 0) (fun o => (o = some (-9, fc, lf, 0) ∧ ∀ j, j < m → st (goes c K S (mapT E K (tN j) (runS c E K S tN s j))) = 0) ∨ ∃ p, p < m ∧ ¬ (st (goes c K S (mapT E K (tN p) (runS c E K S tN s p))) = 0) ∧ (∀ j, j < p → st (goes c K S (mapT E K (tN j) (runS c E K S tN s j))) = 0) ∧ o = some (Int32.ofNat p, fc, lf, st (goes c K S (mapT E K (tN p) (runS c E K S tN s p))))) ?_ ?_ F (enc s, 0) (by omega) ⟨rfl, rfl, fun j hj => absurd hj (Nat.not_lt_zero j)⟩
  · rintro fu k ⟨x3, x5⟩ hk ⟨e1, e2, hT⟩
    dsimp only at e1 e2
    subst e1; subst e2
    have f0 : ¬ (Int32.ofNat m ≤ Int32.ofNat k) := of_eq_false (by rw [p_le (by omega) (by omega)]; exact p_nle hk)
    obtain ⟨t4, t5⟩ := htN k hk
    dsimp only
    rw [fX5_falls_l36, fX5_falls_l36_b, hcl, if_neg hix, g1, if_neg f0, if_neg hix, p_cl (show k < 2147483648 by omega), if_neg (gx (show k < 40 by omega) (by omega)), t5, c_afterTune F hpc (hrun k (by omega)) (by omega) t4, bd1_mk, c_insiders F (show HB (tuneS c E K S (tN k) (runS c E K S tN s k)) from (hrun (k + 1) (by omega)).hb), bd1_mk, c_insiders F (hrun k (by omega)).hb, bd1_mk, p_s]
    by_cases h : st (goes c K S (mapT E K (tN k) (runS c E K S tN s k))) = 0
    · rw [if_pos (by rw [safe_iff]; exact h)]
      refine Or.inl ⟨(enc (runS c E K S tN s (k + 1)), Int32.ofNat (k + 1)), ⟨rfl, rfl, fun j hj => ?_⟩, rfl⟩
      by_cases e : j = k
      · subst e; exact h
      · exact hT j (by omega)
    · rw [if_neg (by rw [safe_iff]; exact h), bd1_mk, bd1_mk]
      refine Or.inr (Or.inr ⟨k, hk, h, hT, ?_⟩)
      rw [out_set]
  · rintro fu ⟨x3, x5⟩ ⟨e1, e2, hT⟩
    dsimp only at e1 e2
    subst e1; subst e2
    dsimp only
    rw [fX5_falls_l36, fX5_falls_l36_b, hcl, if_neg hix, g1, if_pos (Int32.le_refl _)]
    exact Or.inl ⟨rfl, hT⟩
theorem cx_grief (F : Nat) {n c : Nat} {E : Nat → Int} {K : Nat → Nat} {S : Nat → Nat → Bool} {peff pkin psig psee : Nat → Int32} (hG : CS n c E K S peff pkin psig psee) {s : Nat → Option Nat} (hs : HallOk n s) (hF : 1000000 ≤ F) {rs : Nat → Int32} {rm : Nat → Nat → Int32} (fc : Nat → Int32) (lf : Int32) {r m : Nat} {tN : Nat → Nat} (hr : r < 6) (hm6 : m ≤ 6) (g1 : rs r = Int32.ofNat m) (htN : ∀ p, p < m → tN p < 4 ∧ rm r p = Int32.ofNat (tN p)) {i : Nat} (hi : i < n) : fX5_grief F rs rm (Int32.ofNat n) (Int32.ofNat c) peff pkin psee (enc s) fc lf (Int32.ofNat i) (Int32.ofNat r) = some (Int32.ofNat (gv (runS c E K S tN s m) i), fc, lf) := by
  have hpc := hG.pc
  have hn := hG.n6
  have hn0 := hG.nz
  have hE := hG.eff
  have hK := hG.kin
  have hS := hG.see
  have hpl : inP s ≤ 6 := pop_le _
  have a1 := y_row F hr
  have b1 := cx_prog F hr hm6 g1 htN hF
  have hcl := p_cl (show r < 2147483648 by omega)
  have hix := gx hr (by omega)
  have hrun : ∀ k, k ≤ m → HallOk n (runS c E K S tN s k) := fun k hk => runS_ok hs hG.E45 hG.K5 k (fun p hp => (htN p (by omega)).1)
  unfold fX5_grief
  rw [y_guest F hn hi, bd1_mk, if_neg (by decide), a1, bd1_mk, if_neg (by decide), b1, bd1_mk, if_pos rfl]
  refine loop_up (fun fu (a : Int64 × Int32) => fX5_grief_l45 F rs rm (Int32.ofNat n) (Int32.ofNat c) peff pkin psee (enc s) (Int32.ofNat i) (Int32.ofNat r) fc lf fu a.1 a.2) m (fun k => (enc (runS c E K S tN s k), Int32.ofNat k)) _ ?_ ?_ F (by omega)
  · intro fu k hk
    have f0 : ¬ (Int32.ofNat m ≤ Int32.ofNat k) := of_eq_false (by rw [p_le (by omega) (by omega)]; exact p_nle hk)
    obtain ⟨t4, t5⟩ := htN k hk
    dsimp only
    rw [fX5_grief_l45, fX5_grief_l45_b, hcl, if_neg hix, g1, if_neg f0, if_neg hix, p_cl (show k < 2147483648 by omega), if_neg (gx (show k < 40 by omega) (by omega)), t5, c_afterTune F hpc (hrun k (by omega)) (by omega) t4, bd1_mk, p_s]
    rfl
  · intro fu
    dsimp only
    rw [fX5_grief_l45, fX5_grief_l45_b, hcl, if_neg hix, g1, if_pos (Int32.le_refl _), c_griefOf F (hrun m (Nat.le_refl _)).hb (by omega), bd1_mk]
theorem cx_stay (F : Nat) {n c : Nat} {E : Nat → Int} {K : Nat → Nat} {S : Nat → Nat → Bool} {peff pkin psig psee : Nat → Int32} (hG : CS n c E K S peff pkin psig psee) {s : Nat → Option Nat} (hs : HallOk n s) (hF : 1000000 ≤ F) (told : Int32) (up lo : Int64) {N : Nat} (hN : N ≤ 6) : fX5_stay F (Int32.ofNat n) (Int32.ofNat c) peff pkin psee (enc s) told up lo (Int32.ofNat N) = some (1, st (fun t => decide (0 < N) && anyN (topI c E K S N s t) (4 ^ N)), Int64.ofNat (cntS c E K S N s), 1) := by
  have hpc := hG.pc
  have hn := hG.n6
  have hn0 := hG.nz
  have hE := hG.eff
  have hK := hG.kin
  have hS := hG.see
  have hpl : inP s ≤ 6 := pop_le _
  have hp4 := pow4_le hN
  have a1 := y_len F hn hG.n0 hN
  unfold fX5_stay
  rw [a1, bd1_mk, if_pos rfl]
  by_cases hN0 : N = 0
  · subst hN0
    obtain ⟨f, hf⟩ : ∃ f, F = f + 1 := ⟨F - 1, by omega⟩
    have e : fX5_stay_l28 F (Int32.ofNat n) (Int32.ofNat c) peff pkin psee (enc s) (Int32.ofNat 0) told up lo (f + 1) (1 : Int64) (0 : Int32) (0 : Int32) = some (1, 0, 1, 1) := by
      rw [fX5_stay_l28, fX5_stay_l28_b, if_neg (by decide), if_pos (by decide)]
      rfl
    rw [← hf] at e
    rw [if_pos (by rfl), e]
    have e1 : cntS c E K S 0 s = 1 := by
      unfold cntS
      rw [show 4 ^ 0 = 0 + 1 from rfl, sumN, lv_0, if_pos rfl]
      rfl
    rw [e1]
    have e2 : st (fun t => decide (0 < 0) && anyN (topI c E K S 0 s t) (4 ^ 0)) = 0 := by
      rw [st_none]
      exact st_congr fun i _ => by simp
    rw [e2]
    rfl
  · obtain ⟨M, rfl⟩ : ∃ M, N = M + 1 := ⟨N - 1, by omega⟩
    have w0 : ¬ (Int32.ofNat (M + 1) ≤ 0) := Int32.not_le.mpr (z_lt (by omega))
    have hcb : ∀ t, cntB c E K S M s t ≤ 4 ^ M * 1 := fun t => sumN_le _ fun j _ => by
      by_cases h : lv c E K S (M + 1) s (t * 4 ^ M + j) = inP s <;> simp [h]
    have hfm := four M
    rw [if_neg (by rw [p_e0 (by omega)]; omega), cntS_s]
    have key := loop_up (fun fu (a : Int64 × Int32 × Int32) => fX5_stay_l28 F (Int32.ofNat n) (Int32.ofNat c) peff pkin psee (enc s) (Int32.ofNat (M + 1)) told up lo fu a.1 a.2.1 a.2.2) 4 (fun k => (Int64.ofNat (sumN (cntB c E K S M s) k), oI (fun t => decide (0 < cntB c E K S M s t)) k, Int32.ofNat k)) (some (1, oI (fun t => decide (0 < cntB c E K S M s t)) 4, Int64.ofNat (sumN (cntB c E K S M s) 4), 1)) ?_ ?_ F (by omega)
    · refine key.trans ?_
      refine congrArg (fun z => some ((1 : Int32), z, Int64.ofNat (sumN (cntB c E K S M s) 4), (1 : Int64))) ?_
      rw [oI_st _ 4 (by decide)]
      refine st_congr fun t ht => ?_
      rw [decide_eq_true (show 0 < M + 1 by omega), Bool.true_and]
      apply Bool.eq_iff_iff.mpr
      rw [Bool.and_eq_true, decide_eq_true_eq, decide_eq_true_eq, anyN_iff]
      unfold cntB
      rw [sumN_pos]
      constructor
      · rintro ⟨h1, k, hk, h2⟩
        refine ⟨t * 4 ^ M + k, ?_, ?_⟩
        · rw [hfm]
          have : (t + 1) * 4 ^ M ≤ 4 * 4 ^ M := Nat.mul_le_mul_right _ (by omega)
          rw [Nat.succ_mul] at this
          omega
        · unfold topI
          rw [Nat.add_sub_cancel, Nat.add_comm (t * 4 ^ M) k, Nat.add_mul_div_right _ _ (Nat.pow_pos (by decide)), Nat.div_eq_of_lt hk, Nat.zero_add, Nat.add_comm k]
          by_cases h : lv c E K S (M + 1) s (t * 4 ^ M + k) = inP s
          · rw [decide_eq_true h]; simp
          · rw [if_neg h] at h2; exact absurd h2 (Nat.lt_irrefl 0)
      · rintro ⟨j, hj, h2⟩
        unfold topI at h2
        rw [Bool.and_eq_true, decide_eq_true_eq, decide_eq_true_eq, Nat.add_sub_cancel] at h2
        obtain ⟨h2, rfl⟩ := h2
        rw [hfm] at hj
        refine ⟨(Nat.div_lt_iff_lt_mul (Nat.pow_pos (by decide))).mpr hj, j % 4 ^ M, Nat.mod_lt _ (Nat.pow_pos (by decide)), ?_⟩
        rw [Nat.mul_comm, Nat.div_add_mod, if_pos h2]
        decide
    · intro fu k hk
      have hcbk := hcb k
      have w : (lg_cmp (Int64.ofNat (cntB c E K S M s k)) (0 : Int64) ≤ 0) = (cntB c E K S M s k ≤ 0) := by
        rw [lgc_le, show (0 : Int64) = Int64.ofNat 0 from rfl, q_le (by omega) (by omega)]
      dsimp only
      rw [fX5_stay_l28, fX5_stay_l28_b, if_neg (of_eq_false (f4_lt hk)), if_neg w0]
      unfold fX3_stayingBehind
      rw [sm1 M _ rfl, c_stayB F hpc hs hF hk (m := M) (c_staying F hpc hF M 8 _ (by omega) (by omega) (hpc.tune hs hk)), bd1_mk, q_add, p_s]
      by_cases h : cntB c E K S M s k ≤ 0
      · rw [if_pos (by rw [w]; exact h), oI_f (p := fun t => decide (0 < cntB c E K S M s t)) (k := k) (decide_eq_false (by omega))]
        rfl
      · rw [if_neg (by rw [w]; exact h), oI_t (p := fun t => decide (0 < cntB c E K S M s t)) (k := k) (decide_eq_true (by omega))]
        rfl
    · intro fu
      dsimp only
      rw [fX5_stay_l28, fX5_stay_l28_b, if_pos (by decide)]
      rfl
theorem cntS_le {c : Nat} {E : Nat → Int} {K : Nat → Nat} {S : Nat → Nat → Bool} {N : Nat} {s : Nat → Option Nat} : cntS c E K S N s ≤ 4 ^ N := by
  have := sumN_le (f := stayI c E K S N s) (m := 1) (4 ^ N) (fun j _ => by unfold stayI; by_cases h : lv c E K S N s j = inP s <;> simp [h])
  rw [Nat.mul_one] at this
  exact this
theorem cx_odds (F : Nat) {n c : Nat} {E : Nat → Int} {K : Nat → Nat} {S : Nat → Nat → Bool} {peff pkin psig psee : Nat → Int32} (hG : CS n c E K S peff pkin psig psee) {s : Nat → Option Nat} (hs : HallOk n s) (hF : 1000000 ≤ F) (up lo : Int64) {N : Nat} (hN : N ≤ 6) : fX5_odds F (Int32.ofNat n) (Int32.ofNat c) peff pkin psee (enc s) up lo (Int32.ofNat N) = some (1, Int64.ofNat (cntS c E K S N s / Nat.gcd (cntS c E K S N s) (4 ^ N)), Int64.ofNat (4 ^ N / Nat.gcd (cntS c E K S N s) (4 ^ N))) := by
  have hpc := hG.pc
  have hn := hG.n6
  have hn0 := hG.nz
  have hE := hG.eff
  have hK := hG.kin
  have hS := hG.see
  have hpl : inP s ≤ 6 := pop_le _
  have hp4 := pow4_le hN
  have a1 := y_len F hn hG.n0 hN
  have hcs : cntS c E K S N s ≤ 4 ^ N := cntS_le
  unfold fX5_odds
  rw [a1, bd1_mk, if_pos rfl, c_staying F hpc hF N 8 s (by omega) hN hs, bd1_mk, c_tell F _ _ hN (by omega) hF, bd2_mk]
theorem cx_mid (F : Nat) {n c : Nat} {E : Nat → Int} {K : Nat → Nat} {S : Nat → Nat → Bool} {peff pkin psig psee : Nat → Int32} (hG : CS n c E K S peff pkin psig psee) {s : Nat → Option Nat} (hs : HallOk n s) (hF : 1000000 ≤ F) (up lo : Int64) {N : Nat} (hN : N ≤ 6) : fX5_mid F (Int32.ofNat n) (Int32.ofNat c) peff pkin psee (enc s) up lo (Int32.ofNat N) = some (1, Int64.ofNat (sumN (fun j => inP s - lv c E K S N s j) (4 ^ N) / Nat.gcd (sumN (fun j => inP s - lv c E K S N s j) (4 ^ N)) (4 ^ N)), Int64.ofNat (4 ^ N / Nat.gcd (sumN (fun j => inP s - lv c E K S N s j) (4 ^ N)) (4 ^ N))) := by
  have hpc := hG.pc
  have hn := hG.n6
  have hn0 := hG.nz
  have hE := hG.eff
  have hK := hG.kin
  have hS := hG.see
  have hpl : inP s ≤ 6 := pop_le _
  have hp4 := pow4_le hN
  have a1 := y_len F hn hG.n0 hN
  have hsub := sumN_sub (f := lv c E K S N s) (m := inP s) (4 ^ N) (fun j _ => lv_le)
  have hmul : inP s * 4 ^ N ≤ 6 * 4096 := Nat.mul_le_mul hpl hp4
  unfold fX5_mid
  rw [a1, bd1_mk, if_pos rfl, c_many_in F hs.hb, bd1_mk, c_leftByAll F hpc hF N 8 s (by omega) hN hs, bd1_mk, show pop (fun i => (s i).isSome) = inP s from rfl, mid_tab (inP s) (by omega) N (by omega), ← Int64.ofNat_sub _ _ (show lvS c E K S N s ≤ inP s * 4 ^ N by unfold lvS; omega), show inP s * 4 ^ N - lvS c E K S N s = sumN (fun j => inP s - lv c E K S N s j) (4 ^ N) by unfold lvS; omega, c_tell F _ _ hN (by omega) hF, bd2_mk]
theorem cx_first (F : Nat) {n c : Nat} {E : Nat → Int} {K : Nat → Nat} {S : Nat → Nat → Bool} {peff pkin psig psee : Nat → Int32} (hG : CS n c E K S peff pkin psig psee) {s : Nat → Option Nat} (hs : HallOk n s) (hF : 1000000 ≤ F) (rs : Nat → Int32) (rm : Nat → Nat → Int32) {N r : Nat} (hN : N ≤ 6) (hr : r < 6) : (fX5_first F rs rm (Int32.ofNat n) (Int32.ofNat c) peff pkin psee (enc s) (Int32.ofNat N) (Int32.ofNat r) = some (-9, rs, rm) ∧ ∀ k, k < 4 ^ N → lv c E K S N s k ≠ inP s) ∨ ∃ k, k < 4 ^ N ∧ lv c E K S N s k = inP s ∧ (∀ j, j < k → lv c E K S N s j ≠ inP s) ∧ fX5_first F rs rm (Int32.ofNat n) (Int32.ofNat c) peff pkin psee (enc s) (Int32.ofNat N) (Int32.ofNat r) = some (Int32.ofNat N, upd rs r (Int32.ofNat N), fun q i => if q = r ∧ i < N then Int32.ofNat (dig N k i) else rm q i) := by
  have hpc := hG.pc
  have hn := hG.n6
  have hn0 := hG.nz
  have hE := hG.eff
  have hK := hG.kin
  have hS := hG.see
  have hpl : inP s ≤ 6 := pop_le _
  have hp4 := pow4_le hN
  have a1 := y_len F hn hG.n0 hN
  have hfl := c_firstLeaving F hpc hF hpl N 8 s 0 (by omega) hN (by omega) hs
  have e5 : fX5_first F rs rm (Int32.ofNat n) (Int32.ofNat c) peff pkin psee (enc s) (Int32.ofNat N) (Int32.ofNat r) = (if bW ((fstO (fun k => decide (inP s ≤ lv c E K S N s k)) (4 ^ N)).map (fun k => 0 * 4 ^ N + k)) = (-9 : Int32) then (some ((-9 : Int32), rs, rm)) else (bd2 (fX5_makeProgramme F rs rm (Int32.ofNat r) (Int32.ofNat N) (bW ((fstO (fun k => decide (inP s ≤ lv c E K S N s k)) (4 ^ N)).map (fun k => 0 * 4 ^ N + k)))) fun w66_rs w66_rm => some (Int32.ofNat N, w66_rs, w66_rm))) := by
    unfold fX5_first fX5_first_n16
    rw [y_row F hr, bd1_mk, if_neg (by decide), a1, bd1_mk, if_pos rfl, c_many_in F hs.hb, bd1_mk]
    rw [show (0 : Int32) = Int32.ofNat 0 from rfl, show pop (fun i => (s i).isSome) = inP s from rfl, hfl, bd1_mk]
  have hle : ∀ k, lv c E K S N s k ≤ inP s := fun k => lv_le
  cases t6 : fstO (fun k => decide (inP s ≤ lv c E K S N s k)) (4 ^ N) with
  | none =>
    rw [t6] at e5
    refine Or.inl ⟨e5.trans (if_pos rfl), fun k hk h => ?_⟩
    have := (fstO_none _).mp t6 k hk
    rw [h, decide_eq_true (Nat.le_refl _)] at this
    cases this
  | some k =>
    obtain ⟨hk, h1, h2⟩ := (fstO_some _ _).mp t6
    rw [t6] at e5
    have e6 : bW ((some k).map (fun k => 0 * 4 ^ N + k)) = Int32.ofNat k := by
      show Int32.ofNat (0 * 4 ^ N + k) = Int32.ofNat k
      rw [Nat.zero_mul, Nat.zero_add]
    rw [e6, if_neg (fun q => by
      have := congrArg Int32.toInt q
      rw [p_ti (by omega), show ((-9 : Int32)).toInt = -9 from by decide] at this
      omega), c_makeProg F rs rm hr hN (by omega) hF, bd2_mk] at e5
    refine Or.inr ⟨k, hk, ?_, fun j hj h => ?_, e5⟩
    · have := of_decide_eq_true h1
      have := hle k
      omega
    · have := h2 j hj
      rw [h, decide_eq_true (Nat.le_refl _)] at this
      cases this
theorem cx_fewest (F : Nat) {n c : Nat} {E : Nat → Int} {K : Nat → Nat} {S : Nat → Nat → Bool} {peff pkin psig psee : Nat → Int32} (hG : CS n c E K S peff pkin psig psee) {s : Nat → Option Nat} (hs : HallOk n s) (hF : 1000000 ≤ F) (rs : Nat → Int32) (rm : Nat → Nat → Int32) {N r : Nat} (hN : N ≤ 6) (hr : r < 6) : ∃ k, k < 4 ^ N ∧ (∀ j, j < 4 ^ N → lv c E K S N s j ≤ lv c E K S N s k) ∧ fX5_fewest F rs rm (Int32.ofNat n) (Int32.ofNat c) peff pkin psee (enc s) (Int32.ofNat N) (Int32.ofNat r) = some (Int32.ofNat (inP s - lv c E K S N s k), upd rs r (Int32.ofNat N), fun q i => if q = r ∧ i < N then Int32.ofNat (dig N k i) else rm q i) := by
  have hpc := hG.pc
  have hn := hG.n6
  have hn0 := hG.nz
  have hE := hG.eff
  have hK := hG.kin
  have hS := hG.see
  have hpl : inP s ≤ 6 := pop_le _
  have hp4 := pow4_le hN
  have a1 := y_len F hn hG.n0 hN
  have hp0 : 0 < 4 ^ N := Nat.pow_pos (by decide)
  have hML : lvM c E K S N s ≤ inP s := lvM_le
  have hfl := c_firstLeaving F hpc hF (show lvM c E K S N s ≤ 6 by omega) N 8 s 0 (by omega) hN (by omega) hs
  have ham : fstO (fun k => decide (lvM c E K S N s ≤ lv c E K S N s k)) (4 ^ N) = some (amN (lv c E K S N s) (4 ^ N)) := amN_fst hp0
  have hal := fstO_lt ham
  rw [ham] at hfl
  have e6 : bW ((some (amN (lv c E K S N s) (4 ^ N))).map (fun k => 0 * 4 ^ N + k)) = Int32.ofNat (amN (lv c E K S N s) (4 ^ N)) := by
    show Int32.ofNat (0 * 4 ^ N + _) = Int32.ofNat _
    rw [Nat.zero_mul, Nat.zero_add]
  rw [e6] at hfl
  obtain ⟨M, hM⟩ : ∃ M, 4 ^ N = M + 1 := ⟨4 ^ N - 1, by omega⟩
  have hsp := amN_spec (f := lv c E K S N s) M
  rw [← hM] at hsp
  have hmx : lv c E K S N s (amN (lv c E K S N s) (4 ^ N)) = lvM c E K S N s := hsp.2.1
  refine ⟨amN (lv c E K S N s) (4 ^ N), hal, fun j hj => by rw [hmx]; exact mxN_ge _ j hj, ?_⟩
  unfold fX5_fewest fX5_fewest_n16
  rw [y_row F hr, bd1_mk, if_neg (by decide), a1, bd1_mk, if_pos rfl, c_mostLeft F hpc hF N 8 s (by omega) hN hs, bd1_mk]
  rw [show (0 : Int32) = Int32.ofNat 0 from rfl, hfl, bd1_mk, c_makeProg F rs rm hr hN (by omega) hF, bd2_mk, c_many_in F hs.hb, bd1_mk, show pop (fun i => (s i).isSome) = inP s from rfl, p_sub hML, hmx]
theorem cx_gay (F : Nat) {n c : Nat} {E : Nat → Int} {K : Nat → Nat} {S : Nat → Nat → Bool} {peff pkin psig psee : Nat → Int32} (hG : CS n c E K S peff pkin psig psee) {s : Nat → Option Nat} (hs : HallOk n s) (hF : 1000000 ≤ F) : fX5_gay F (Int32.ofNat n) (Int32.ofNat c) peff pkin psee (enc s) = some (bW (fstO (fun N => anyN (chB c E K S N s) (4 ^ N)) 7)) := by
  have hpc := hG.pc
  have hn := hG.n6
  have hn0 := hG.nz
  have hE := hG.eff
  have hK := hG.kin
  have hS := hG.see
  have hpl : inP s ≤ 6 := pop_le _
  unfold fX5_gay
  rw [if_neg hn0]
  refine loop_inv (fun fu (a : Int32) => fX5_gay_l15 F (Int32.ofNat n) (Int32.ofNat c) peff pkin psee (enc s) fu a) 7 (fun k a => a = Int32.ofNat k ∧ fstO (fun N => anyN (chB c E K S N s) (4 ^ N)) k = none) (fun o => o = some (bW (fstO (fun N => anyN (chB c E K S N s) (4 ^ N)) 7))) ?_ ?_ F 0 (by omega) ⟨rfl, rfl⟩
  · rintro fu k a hk ⟨rfl, hT⟩
    have f0 : ¬ ((6 : Int32) < Int32.ofNat k) := of_eq_false (by rw [show (6 : Int32) = Int32.ofNat 6 from rfl, p_lt (by omega) (by omega)]; exact eq_false (by omega))
    rw [fX5_gay_l15, fX5_gay_l15_b, if_neg f0, c_canCheer F hpc hF k 8 s (by omega) (by omega) hs, bd1_mk, p_s]
    cases hB : anyN (chB c E K S k s) (4 ^ k) with
    | false =>
      rw [if_neg (show ¬ (false = true) by decide), if_pos rfl]
      refine Or.inl ⟨Int32.ofNat (k + 1), ⟨rfl, ?_⟩, rfl⟩
      rw [fstO, hT]
      dsimp only
      rw [hB]
      rfl
    | true =>
      rw [if_pos (show true = true from rfl), if_neg (by decide)]
      refine Or.inr ?_
      rw [fstO_pre (m := k + 1) (x := k) (by rw [fstO, hT]; dsimp only; rw [hB]; rfl) (by omega)]
      rfl
  · rintro fu a ⟨rfl, hT⟩
    rw [fX5_gay_l15, fX5_gay_l15_b, if_pos (by decide), hT]
    rfl
theorem cx_aunt (F : Nat) {n c : Nat} {E : Nat → Int} {K : Nat → Nat} {S : Nat → Nat → Bool} {peff pkin psig psee : Nat → Int32} (hG : CS n c E K S peff pkin psig psee) {s : Nat → Option Nat} (hs : HallOk n s) (hF : 1000000 ≤ F) {N : Nat} (hN : N ≤ 3) : fX5_aunt F (Int32.ofNat n) (Int32.ofNat c) peff pkin psee (enc s) (Int32.ofNat N) = some (Int32.ofNat (inP s - bandV n c E K S N s)) := by
  have hpc := hG.pc
  have hn := hG.n6
  have hn0 := hG.nz
  have hE := hG.eff
  have hK := hG.kin
  have hS := hG.see
  have hpl : inP s ≤ 6 := pop_le _
  have w0 : ¬ (Int32.ofNat N < 0) := of_eq_false (p_neg (by omega))
  have w1 : Int32.ofNat N ≤ (3 : Int32) := of_eq_true (by rw [show (3 : Int32) = Int32.ofNat 3 from rfl, p_le (by omega) (by omega)]; exact eq_true (by omega))
  have hbl := bandV_le (n := n) (c := c) (E := E) (K := K) (S := S) N s
  unfold fX5_aunt
  rw [if_neg w0, if_pos w1, if_neg hn0, c_many_in F hs.hb, bd1_mk, c_band F hpc hF N 8 s (by omega) (by omega) hs, bd1_mk, show pop (fun i => (s i).isSome) = inP s from rfl, p_sub hbl]
theorem cx_ices (F : Nat) {n c : Nat} {E : Nat → Int} {K : Nat → Nat} {S : Nat → Nat → Bool} {peff pkin psig psee : Nat → Int32} (hG : CS n c E K S peff pkin psig psee) {s : Nat → Option Nat} (hs : HallOk n s) (hF : 1000000 ≤ F) {rs : Nat → Int32} {rm : Nat → Nat → Int32} (fc : Nat → Int32) (lf : Int32) {r m : Nat} {tN : Nat → Nat} (hr : r < 6) (hm6 : m ≤ 6) (g1 : rs r = Int32.ofNat m) (htN : ∀ p, p < m → tN p < 4 ∧ rm r p = Int32.ofNat (tN p)) : (fX5_ices F rs rm (Int32.ofNat n) (Int32.ofNat c) peff pkin psee (enc s) fc lf (Int32.ofNat r) = some (Int32.ofNat (sumN (needI c E K S tN m s) n), fc, lf) ∧ ∀ j, j < n → needI c E K S tN m s j ≠ 8) ∨ (fX5_ices F rs rm (Int32.ofNat n) (Int32.ofNat c) peff pkin psee (enc s) fc lf (Int32.ofNat r) = some (-9, fc, lf) ∧ ∃ j, j < n ∧ needI c E K S tN m s j = 8) := by
  have hpc := hG.pc
  have hn := hG.n6
  have hn0 := hG.nz
  have hE := hG.eff
  have hK := hG.kin
  have hS := hG.see
  have hpl : inP s ≤ 6 := pop_le _
  have a1 := y_row F hr
  have b1 := cx_prog F hr hm6 g1 htN hF
  have hcl := p_cl (show r < 2147483648 by omega)
  have hix := gx hr (by omega)
  have hrun9 : ∀ k, k ≤ m → HallOk n (runS c E K S tN s k) := fun k hk => runS_ok hs hG.E45 hG.K5 k (fun p hp => (htN p (by omega)).1)
  have htc := htN
  unfold fX5_ices
  rw [a1, bd1_mk, if_neg (by decide), if_neg hn0, b1, bd1_mk, if_pos rfl]
  refine loop_inv (fun fu (a : Int32 × Int32) => fX5_ices_l43 F rs rm (Int32.ofNat n) (Int32.ofNat c) peff pkin psee (enc s) (Int32.ofNat r) fc lf fu a.1 a.2) n (fun k a => a.1 = Int32.ofNat (sumN (needI c E K S tN m s) k) ∧ a.2 = Int32.ofNat k ∧ ∀ j, j < k → needI c E K S tN m s j ≠ 8) (fun o => (o = some (Int32.ofNat (sumN (needI c E K S tN m s) n), fc, lf) ∧ ∀ j, j < n → needI c E K S tN m s j ≠ 8) ∨ (o = some (-9, fc, lf) ∧ ∃ j, j < n ∧ needI c E K S tN m s j = 8)) ?_ ?_ F (0, 0) (by omega) ⟨rfl, rfl, fun j hj => absurd hj (Nat.not_lt_zero j)⟩
  · rintro fu k ⟨x3, x4⟩ hk ⟨e1, e2, hT⟩
    dsimp only at e1 e2
    subst e1; subst e2
    have f0 : ¬ (Int32.ofNat n ≤ Int32.ofNat k) := of_eq_false (by rw [p_le (by omega) (by omega)]; exact p_nle hk)
    dsimp only
    rw [fX5_ices_l43, fX5_ices_l43_b, if_neg f0, c_need F hpc hs hr hm6 g1 htc hk hF, bd1_mk, p_s]
    have hle := needI_le (c := c) (E := E) (K := K) (S := S) (tN := tN) (m := m) (s := s) (i := k)
    by_cases h8 : needI c E K S tN m s k = 8
    · rw [if_pos h8, if_pos rfl]
      exact Or.inr (Or.inr ⟨rfl, k, hk, h8⟩)
    · rw [if_neg h8, if_neg (fun q => by
        have := congrArg Int32.toInt q
        rw [p_ti (by omega), show ((-9 : Int32)).toInt = -9 from by decide] at this
        omega), p_add]
      refine Or.inl ⟨(Int32.ofNat (sumN (needI c E K S tN m s) (k + 1)), Int32.ofNat (k + 1)), ⟨rfl, rfl, fun j hj => ?_⟩, rfl⟩
      by_cases e : j = k
      · subst e; exact h8
      · exact hT j (by omega)
  · rintro fu ⟨x3, x4⟩ ⟨e1, e2, hT⟩
    dsimp only at e1 e2
    subst e1; subst e2
    dsimp only
    rw [fX5_ices_l43, fX5_ices_l43_b, if_pos (Int32.le_refl _)]
    exact Or.inl ⟨rfl, hT⟩
