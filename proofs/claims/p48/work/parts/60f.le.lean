/-- what first() told: none, or a programme by which all stay -/
def FST (c : Nat) (E : Nat → Int) (K : Nat → Nat) (S : Nat → Nat → Bool) (N : Nat) (s : Nat → Option Nat) (x14 : Int32) (rs : Nat → Int32) (rm : Nat → Nat → Int32) : Prop := (x14 = -9 ∧ ∀ k, k < 4 ^ N → lv c E K S N s k ≠ inP s) ∨ (x14 = Int32.ofNat N ∧ ∃ k, k < 4 ^ N ∧ lv c E K S N s k = inP s ∧ rs 2 = Int32.ofNat N ∧ ∀ p, p < N → rm 2 p = Int32.ofNat (dig N k p))
/-- what fewest() told -/
def FEW (c : Nat) (E : Nat → Int) (K : Nat → Nat) (S : Nat → Nat → Bool) (N : Nat) (s : Nat → Option Nat) (k3 : Nat) (rs : Nat → Int32) (rm : Nat → Nat → Int32) : Prop := k3 < 4 ^ N ∧ (∀ j, j < 4 ^ N → lv c E K S N s j ≤ lv c E K S N s k3) ∧ rs 3 = Int32.ofNat N ∧ ∀ p, p < N → rm 3 p = Int32.ofNat (dig N k3 p)
theorem neg9 {k : Nat} (h : k < 2147483648) : ¬ (Int32.ofNat k = (-9 : Int32)) := fun q => by
  have := congrArg Int32.toInt q
  rw [p_ti h, show ((-9 : Int32)).toInt = -9 from by decide] at this
  omega
theorem l_901 (F : Nat) (L : Nat) (xs : Nat → Int32) (rs : Nat → Int32) (rm : Nat → Nat → Int32) (ts : Nat → Int32) (tm : Nat → Nat → Int32) (rdue : Int32) (rtun : Int32) (rsee : Int32) (rbeg : Int32) (peff : Nat → Int32) (pkin : Nat → Int32) (pgri : Nat → Int32) (psig : Nat → Int32) (psee : Nat → Int32) (qsize : Int32) (qclause : Int32) (qeff : Nat → Int32) (qkin : Nat → Int32) (qgri : Nat → Int32) (qsig : Nat → Int32) (qsee : Nat → Int32) (cahe : Nat → Int64) (kdee : Nat → Int32) (know : Nat → Int64) (kahe : Nat → Nat → Int64) (fc : Nat → Int32) (lf : Int32) (told : Int32) (up : Int64) (lo : Int64) (zz : Nat → Int32) (tt : Nat → Int32) {n c d N : Nat} {E : Nat → Int} {K : Nat → Nat} {S : Nat → Nat → Bool} {s s0 : Nat → Option Nat} (h : LH F L n c E K S peff pkin psig psee zz tt s0) (hk : KP n d s s0 kdee know) (hN : N ≤ 4) {x14 : Int32} {k3 : Nat} (hf : FST c E K S N s x14 rs rm) (hw : FEW c E K S N s k3 rs rm) : (fL_law_n901 F L xs (Int32.ofNat n) (Int32.ofNat (2 ^ n - 1)) (Int32.ofNat (inP s)) (Int32.ofNat (sg s 6)) (Int32.ofNat d) (Int32.ofNat N) (st (fun t => decide (0 < N) && anyN (topI c E K S N s t) (4 ^ N))) x14 (Int32.ofNat (inP s - lv c E K S N s k3)) rs rm ts tm rdue rtun rsee rbeg (Int32.ofNat n) (Int32.ofNat c) peff pkin pgri psig psee qsize qclause qeff qkin qgri qsig qsee (Int32.ofNat d) (enc s) cahe kdee know kahe fc lf told up lo zz tt) = some 1 := by
  obtain ⟨hF, hL, hG, hs0, hin0, hz0, hzE, hzK, htt⟩ := id h
  obtain ⟨k0, n0, k1, n1, k2, hd, hs⟩ := id hk
  have hn := hG.n6
  have hpl : inP s ≤ 6 := pop_le _
  obtain ⟨w1, w2, w3, w4⟩ := hw
  unfold fL_law_n901
  rcases hf with ⟨rfl, hf⟩ | ⟨rfl, k, hk4, hlv, g2, hr2⟩
  · rw [if_pos (by decide)]
    exact l_948 (h := h) (hk := hk) (hN := hN) (g3 := w3) (hr3 := w4) ..
  by_cases hN0 : N = 0
  · rw [if_pos (by rw [hN0]; decide)]
    exact l_948 (h := h) (hk := hk) (hN := hN) (g3 := w3) (hr3 := w4) ..
  rw [if_neg (of_eq_false (by rw [show (0 : Int32) = Int32.ofNat 0 from rfl, p_le (by omega) (by omega)]; exact eq_false (by omega)))]
  have htN : ∀ p, p < N → dig N k p < 4 ∧ rm 2 p = Int32.ofNat (dig N k p) := fun p hp => ⟨dig_lt _ _ _, hr2 p hp⟩
  have hpop := run_pop (c := c) (E := E) (K := K) (S := S) (tN := dig N k) (s := s) N
  have hz : sumN (fallS c E K S (dig N k) s) N = 0 := by
    have e : pop (fun i => (runS c E K S (dig N k) s N i).isSome) = lv c E K S N s k := rfl
    have e2 : pop (fun i => (s i).isSome) = inP s := rfl
    omega
  rw [sum_0] at hz
  have hbit : (decide (0 < N) && anyN (topI c E K S N s (dig N k 0)) (4 ^ N)) = true := by
    rw [decide_eq_true (show 0 < N by omega), Bool.true_and, anyN_iff]
    refine ⟨k, hk4, ?_⟩
    obtain ⟨M, rfl⟩ : ∃ M, N = M + 1 := ⟨N - 1, by omega⟩
    have hlt : k / 4 ^ M < 4 := by
      rw [four] at hk4
      exact (Nat.div_lt_iff_lt_mul (Nat.pow_pos (by decide))).mpr hk4
    unfold topI dig
    rw [decide_eq_true hlv, Bool.true_and, show M + 1 - 1 - 0 = M by omega, show M + 1 - 1 = M by omega, Nat.mod_eq_of_lt hlt]
    exact decide_eq_true rfl
  rw [show (2 : Int32) = Int32.ofNat 2 from rfl]
  rcases cx_falls F hG hs hF fc lf (r := 2) (by decide) (show N ≤ 6 by omega) g2 htN told with ⟨ef, -⟩ | ⟨p, hp, hf, -, -⟩
  · rw [ef, bd4_mk, if_pos rfl, asked_y, bd1_mk, if_pos rfl, show (0 : Int32) = Int32.ofNat 0 from rfl, cx_at F rm fc lf _ (r := 2) (m := N) (i := 0) (by decide) (by omega) g2 (by omega), bd4_mk, if_pos rfl, asked_y, bd1_mk, hr2 0 (by omega), st_bit (fun t => decide (0 < N) && anyN (topI c E K S N s t) (4 ^ N)) (show dig N k 0 < 6 by have := dig_lt N k 0; omega), hbit, if_pos (by decide)]
    exact l_948 (h := h) (hk := hk) (hN := hN) (g3 := w3) (hr3 := w4) ..
  · exact absurd (by rw [← fall_0]; exact hz p hp) hf
theorem l_849 (F : Nat) (L : Nat) (xs : Nat → Int32) (rs : Nat → Int32) (rm : Nat → Nat → Int32) (ts : Nat → Int32) (tm : Nat → Nat → Int32) (rdue : Int32) (rtun : Int32) (rsee : Int32) (rbeg : Int32) (peff : Nat → Int32) (pkin : Nat → Int32) (pgri : Nat → Int32) (psig : Nat → Int32) (psee : Nat → Int32) (qsize : Int32) (qclause : Int32) (qeff : Nat → Int32) (qkin : Nat → Int32) (qgri : Nat → Int32) (qsig : Nat → Int32) (qsee : Nat → Int32) (cahe : Nat → Int64) (kdee : Nat → Int32) (know : Nat → Int64) (kahe : Nat → Nat → Int64) (fc : Nat → Int32) (lf : Int32) (told : Int32) (up : Int64) (lo : Int64) (zz : Nat → Int32) (tt : Nat → Int32) {n c d N : Nat} {E : Nat → Int} {K : Nat → Nat} {S : Nat → Nat → Bool} {s s0 : Nat → Option Nat} (h : LH F L n c E K S peff pkin psig psee zz tt s0) (hk : KP n d s s0 kdee know) (hN : N ≤ 4) {x14 : Int32} {k3 : Nat} (hf : FST c E K S N s x14 rs rm) (hw : FEW c E K S N s k3 rs rm) (b : Int32) : (fL_law_n849 F L xs b b (Int32.ofNat n) (Int32.ofNat (2 ^ n - 1)) (Int32.ofNat (inP s)) (Int32.ofNat (sg s 6)) (Int32.ofNat d) (Int32.ofNat N) (st (fun t => decide (0 < N) && anyN (topI c E K S N s t) (4 ^ N))) x14 (Int32.ofNat (inP s - lv c E K S N s k3)) rs rm ts tm rdue rtun rsee rbeg (Int32.ofNat n) (Int32.ofNat c) peff pkin pgri psig psee qsize qclause qeff qkin qgri qsig qsee (Int32.ofNat d) (enc s) cahe kdee know kahe fc lf told up lo zz tt) = some 1 := by
  obtain ⟨hF, hL, hG, hs0, hin0, hz0, hzE, hzK, htt⟩ := id h
  obtain ⟨k0, n0, k1, n1, k2, hd, hs⟩ := id hk
  have hn := hG.n6
  have hpl : inP s ≤ 6 := pop_le _
  have e884 : ∀ b : Int32, (fL_law_n884 F L xs b b (Int32.ofNat n) (Int32.ofNat (2 ^ n - 1)) (Int32.ofNat (inP s)) (Int32.ofNat (sg s 6)) (Int32.ofNat d) (Int32.ofNat N) (st (fun t => decide (0 < N) && anyN (topI c E K S N s t) (4 ^ N))) x14 (Int32.ofNat (inP s - lv c E K S N s k3)) rs rm ts tm rdue rtun rsee rbeg (Int32.ofNat n) (Int32.ofNat c) peff pkin pgri psig psee qsize qclause qeff qkin qgri qsig qsee (Int32.ofNat d) (enc s) cahe kdee know kahe fc lf told up lo zz tt) = some 1 := by
    intro b
    unfold fL_law_n884
    rw [if_pos rfl, if_neg (of_eq_false (p_neg (by omega))), if_pos (of_eq_true (by rw [p_le (by omega) (by omega)]; exact eq_true (by omega)))]
    exact l_901 (h := h) (hk := hk) (hN := hN) (hf := hf) (hw := hw) ..
  have e864 : (fL_law_n864 F L xs (Int32.ofNat n) (Int32.ofNat (2 ^ n - 1)) (Int32.ofNat (inP s)) (Int32.ofNat (sg s 6)) (Int32.ofNat d) (Int32.ofNat N) (st (fun t => decide (0 < N) && anyN (topI c E K S N s t) (4 ^ N))) x14 (Int32.ofNat (inP s - lv c E K S N s k3)) rs rm ts tm rdue rtun rsee rbeg (Int32.ofNat n) (Int32.ofNat c) peff pkin pgri psig psee qsize qclause qeff qkin qgri qsig qsee (Int32.ofNat d) (enc s) cahe kdee know kahe fc lf told up lo zz tt) = some 1 := by
    obtain ⟨w1, w2, w3, w4⟩ := id hw
    have hle := lv_le (c := c) (E := E) (K := K) (S := S) (n := N) (code := k3) (s := s)
    unfold fL_law_n864
    rcases id hf with ⟨rfl, hf1⟩ | ⟨rfl, k, hk4, hlv, g2, hr2⟩
    · have := hf1 k3 w1
      rw [if_neg (by rw [p_e0 (by omega)]; omega), if_pos (by decide)]
      exact e884 0
    · have := w2 k hk4
      rw [if_pos (by rw [p_e0 (by omega)]; omega), if_neg (of_eq_false (p_neg (by omega)))]
      exact e884 1
  unfold fL_law_n849
  rw [if_pos rfl]
  rcases id hf with ⟨e, -⟩ | ⟨e, -⟩
  · rw [if_pos (by rw [e]; decide)]
    exact e864
  · rw [if_neg (by rw [e]; exact of_eq_false (p_neg (by omega))), if_pos e]
    exact e864
theorem l_809 (F : Nat) (L : Nat) (xs : Nat → Int32) (rs : Nat → Int32) (rm : Nat → Nat → Int32) (ts : Nat → Int32) (tm : Nat → Nat → Int32) (rdue : Int32) (rtun : Int32) (rsee : Int32) (rbeg : Int32) (peff : Nat → Int32) (pkin : Nat → Int32) (pgri : Nat → Int32) (psig : Nat → Int32) (psee : Nat → Int32) (qsize : Int32) (qclause : Int32) (qeff : Nat → Int32) (qkin : Nat → Int32) (qgri : Nat → Int32) (qsig : Nat → Int32) (qsee : Nat → Int32) (cahe : Nat → Int64) (kdee : Nat → Int32) (know : Nat → Int64) (kahe : Nat → Nat → Int64) (fc : Nat → Int32) (lf : Int32) (told : Int32) (up : Int64) (lo : Int64) (zz : Nat → Int32) (tt : Nat → Int32) {n c d N : Nat} {E : Nat → Int} {K : Nat → Nat} {S : Nat → Nat → Bool} {s s0 : Nat → Option Nat} (h : LH F L n c E K S peff pkin psig psee zz tt s0) (hk : KP n d s s0 kdee know) (hN : N ≤ 4) : (fL_law_n809 F L xs (Int32.ofNat n) (Int32.ofNat (2 ^ n - 1)) (Int32.ofNat (inP s)) (Int32.ofNat (sg s 6)) (Int32.ofNat d) (Int32.ofNat N) (Int64.ofNat (cntS c E K S N s)) (st (fun t => decide (0 < N) && anyN (topI c E K S N s t) (4 ^ N))) rs rm ts tm rdue rtun rsee rbeg (Int32.ofNat n) (Int32.ofNat c) peff pkin pgri psig psee qsize qclause qeff qkin qgri qsig qsee (Int32.ofNat d) (enc s) cahe kdee know kahe fc lf told up lo zz tt) = some 1 := by
  obtain ⟨hF, hL, hG, hs0, hin0, hz0, hzE, hzK, htt⟩ := id h
  obtain ⟨k0, n0, k1, n1, k2, hd, hs⟩ := id hk
  have hn := hG.n6
  have hpl : inP s ≤ 6 := pop_le _
  have hp4 := pow4_le (show N ≤ 6 by omega)
  have hcs := cntS_le (c := c) (E := E) (K := K) (S := S) (N := N) (s := s)
  have h11 : (lg_cmp (Int64.ofNat (cntS c E K S N s)) (0 : Int64) = 0) = (∀ k, k < 4 ^ N → lv c E K S N s k ≠ inP s) := by
    rw [lgc_eq, q_e0 (by omega)]
    unfold cntS
    rw [sum_0]
    apply propext
    constructor
    · intro q k hk4 e
      have := q k hk4
      rw [if_pos e] at this
      cases this
    · intro q k hk4
      rw [if_neg (q k hk4)]
  unfold fL_law_n809
  rw [show (2 : Int32) = Int32.ofNat 2 from rfl, show (3 : Int32) = Int32.ofNat 3 from rfl]
  rcases cx_first F hG hs hF rs rm (r := 2) (show N ≤ 6 by omega) (by decide) with ⟨e1, hno⟩ | ⟨k, hk4, hlv, -, e1⟩
  · rw [e1, bd3_mk]
    obtain ⟨k3, hk3, hmx, e2⟩ := cx_fewest F hG hs hF rs rm (r := 3) (show N ≤ 6 by omega) (by decide)
    rw [e2, bd3_mk, if_neg (by decide), if_pos (by rw [h11]; exact hno)]
    exact l_849 (h := h) (hk := hk) (hN := hN) (hf := Or.inl ⟨rfl, hno⟩) (hw := ⟨hk3, hmx, rfl, fun p hp => if_pos ⟨rfl, hp⟩⟩) ..
  · rw [e1, bd3_mk]
    obtain ⟨k3, hk3, hmx, e2⟩ := cx_fewest F hG hs hF (upd rs 2 (Int32.ofNat N)) (fun q i => if q = 2 ∧ i < N then Int32.ofNat (dig N k i) else rm q i) (r := 3) (show N ≤ 6 by omega) (by decide)
    rw [e2, bd3_mk, if_pos (of_eq_true (p_ge0 (by omega))), if_neg (by rw [h11]; exact fun q => q k hk4 hlv)]
    refine l_849 (h := h) (hk := hk) (hN := hN) (hf := Or.inr ⟨rfl, k, hk4, hlv, rfl, fun p hp => ?_⟩) (hw := ⟨hk3, hmx, rfl, fun p hp => if_pos ⟨rfl, hp⟩⟩) ..
    show (if 2 = 3 ∧ p < N then _ else if 2 = 2 ∧ p < N then _ else _) = _
    rw [if_neg (fun q => absurd q.1 (by decide)), if_pos ⟨rfl, hp⟩]
theorem l_797 (F : Nat) (L : Nat) (xs : Nat → Int32) (rs : Nat → Int32) (rm : Nat → Nat → Int32) (ts : Nat → Int32) (tm : Nat → Nat → Int32) (rdue : Int32) (rtun : Int32) (rsee : Int32) (rbeg : Int32) (peff : Nat → Int32) (pkin : Nat → Int32) (pgri : Nat → Int32) (psig : Nat → Int32) (psee : Nat → Int32) (qsize : Int32) (qclause : Int32) (qeff : Nat → Int32) (qkin : Nat → Int32) (qgri : Nat → Int32) (qsig : Nat → Int32) (qsee : Nat → Int32) (cahe : Nat → Int64) (kdee : Nat → Int32) (know : Nat → Int64) (kahe : Nat → Nat → Int64) (fc : Nat → Int32) (lf : Int32) (told : Int32) (up : Int64) (lo : Int64) (zz : Nat → Int32) (tt : Nat → Int32) {n c d N : Nat} {E : Nat → Int} {K : Nat → Nat} {S : Nat → Nat → Bool} {s s0 : Nat → Option Nat} (h : LH F L n c E K S peff pkin psig psee zz tt s0) (hk : KP n d s s0 kdee know) (hN : N ≤ 4) : (fL_law_n797 F L xs (Int32.ofNat n) (Int32.ofNat (2 ^ n - 1)) (Int32.ofNat (inP s)) (Int32.ofNat (sg s 6)) (Int32.ofNat d) (Int32.ofNat N) (Int64.ofNat (cntS c E K S N s)) (st (fun t => decide (0 < N) && anyN (topI c E K S N s t) (4 ^ N))) rs rm ts tm rdue rtun rsee rbeg (Int32.ofNat n) (Int32.ofNat c) peff pkin pgri psig psee qsize qclause qeff qkin qgri qsig qsee (Int32.ofNat d) (enc s) cahe kdee know kahe fc lf told up lo zz tt) = some 1 := by
  obtain ⟨hF, hL, hG, hs0, hin0, hz0, hzE, hzK, htt⟩ := id h
  obtain ⟨k0, n0, k1, n1, k2, hd, hs⟩ := id hk
  have hn := hG.n6
  have hpl : inP s ≤ 6 := pop_le _
  unfold fL_law_n797
  rw [show fX5_row F rs rm fc lf (2 : Int32) (1 : Int32) = _ from cx_row F rs rm fc lf (r := 2) (m := 1) (by decide) (by decide) hF, bd5_mk, if_pos (by rfl)]
  exact l_809 (h := h) (hk := hk) (hN := hN) ..
theorem sh_tab : ∀ N, N < 7 → (((2 : Int32) * Int32.ofNat N).toInt64 &&& 63) = Int64.ofNat (2 * N) := by decide +kernel
theorem q_sh2 {a N : Nat} (hN : N < 7) : Int64.ofNat a <<< (((2 : Int32) * Int32.ofNat N).toInt64 &&& 63) = Int64.ofNat (a * 4 ^ N) := by
  rw [sh_tab N hN, q_shl (by omega), pow24]
theorem q_mul (a b : Nat) : Int64.ofNat a * Int64.ofNat b = Int64.ofNat (a * b) := (Int64.ofNat_mul a b).symm
theorem odds_eq {a b : Nat} : a / Nat.gcd a b * b = a * (b / Nat.gcd a b) := by
  obtain ⟨x, hx⟩ := Nat.gcd_dvd_left a b
  obtain ⟨y, hy⟩ := Nat.gcd_dvd_right a b
  by_cases h : Nat.gcd a b = 0
  · rw [h]; simp only [Nat.div_zero, Nat.zero_mul, Nat.mul_zero]
  have h0 : 0 < Nat.gcd a b := Nat.pos_of_ne_zero h
  have e1 : a / Nat.gcd a b = x := Nat.div_eq_of_eq_mul_right h0 hx
  have e2 : b / Nat.gcd a b = y := Nat.div_eq_of_eq_mul_right h0 hy
  rw [e1, e2]
  calc x * b = x * (Nat.gcd a b * y) := by rw [← hy]
    _ = Nat.gcd a b * x * y := by rw [← Nat.mul_assoc, Nat.mul_comm x]
    _ = a * y := by rw [← hx]
theorem mid_le {M p b : Nat} (h : M ≤ p * b) : M / Nat.gcd M b ≤ p * (b / Nat.gcd M b) := by
  obtain ⟨y, hy⟩ := Nat.gcd_dvd_right M b
  by_cases h0 : Nat.gcd M b = 0
  · rw [h0, Nat.div_zero]; exact Nat.zero_le _
  have hp : 0 < Nat.gcd M b := Nat.pos_of_ne_zero h0
  have e2 : b / Nat.gcd M b = y := Nat.div_eq_of_eq_mul_right hp hy
  rw [e2]
  refine Nat.div_le_of_le_mul ?_
  calc M ≤ p * b := h
    _ = p * (Nat.gcd M b * y) := by rw [← hy]
    _ = Nat.gcd M b * (p * y) := by rw [← Nat.mul_assoc, Nat.mul_comm p, Nat.mul_assoc]
theorem mid_0 {M b : Nat} (hb : 0 < b) : (M / Nat.gcd M b = 0) = (M = 0) := by
  apply propext
  obtain ⟨x, hx⟩ := Nat.gcd_dvd_left M b
  have hp : 0 < Nat.gcd M b := Nat.gcd_pos_of_pos_right _ hb
  have e1 : M / Nat.gcd M b = x := Nat.div_eq_of_eq_mul_right hp hx
  constructor
  · intro q
    rw [e1] at q
    rw [q, Nat.mul_zero] at hx
    exact hx
  · intro q
    rw [q, Nat.zero_div]
theorem cnt_full {c : Nat} {E : Nat → Int} {K : Nat → Nat} {S : Nat → Nat → Bool} {N : Nat} {s : Nat → Option Nat} : (cntS c E K S N s = 4 ^ N) = (sumN (fun j => inP s - lv c E K S N s j) (4 ^ N) = 0) := by
  have key : ∀ m, sumN (fun k => if lv c E K S N s k = inP s then 1 else 0) m ≤ m ∧ ((sumN (fun k => if lv c E K S N s k = inP s then 1 else 0) m = m) ↔ ∀ j, j < m → lv c E K S N s j = inP s) := by
    intro m
    induction m with
    | zero => exact ⟨Nat.le_refl _, fun _ j hj => absurd hj (Nat.not_lt_zero j), fun _ => rfl⟩
    | succ m ih =>
      obtain ⟨i1, i2⟩ := ih
      rw [sumN]
      by_cases h : lv c E K S N s m = inP s
      · rw [if_pos h]
        refine ⟨by omega, fun q j hj => ?_, fun q => ?_⟩
        · by_cases e : j = m
          · subst e; exact h
          · exact i2.mp (by omega) j (by omega)
        · have := i2.mpr (fun j hj => q j (by omega))
          omega
      · rw [if_neg h]
        refine ⟨by omega, fun q => by omega, fun q => absurd (q m (by omega)) h⟩
  rw [sum_0]
  unfold cntS
  apply propext
  rw [(key (4 ^ N)).2]
  constructor
  · intro q j hj
    rw [q j hj, Nat.sub_self]
  · intro q j hj
    have := q j hj
    have := lv_le (c := c) (E := E) (K := K) (S := S) (n := N) (code := j) (s := s)
    omega
theorem l_693 (F : Nat) (L : Nat) (xs : Nat → Int32) (rs : Nat → Int32) (rm : Nat → Nat → Int32) (ts : Nat → Int32) (tm : Nat → Nat → Int32) (rdue : Int32) (rtun : Int32) (rsee : Int32) (rbeg : Int32) (peff : Nat → Int32) (pkin : Nat → Int32) (pgri : Nat → Int32) (psig : Nat → Int32) (psee : Nat → Int32) (qsize : Int32) (qclause : Int32) (qeff : Nat → Int32) (qkin : Nat → Int32) (qgri : Nat → Int32) (qsig : Nat → Int32) (qsee : Nat → Int32) (cahe : Nat → Int64) (kdee : Nat → Int32) (know : Nat → Int64) (kahe : Nat → Nat → Int64) (fc : Nat → Int32) (lf : Int32) (lo : Int64) (zz : Nat → Int32) (tt : Nat → Int32) {n c d N : Nat} {E : Nat → Int} {K : Nat → Nat} {S : Nat → Nat → Bool} {s s0 : Nat → Option Nat} (h : LH F L n c E K S peff pkin psig psee zz tt s0) (hk : KP n d s s0 kdee know) (hN : N ≤ 4) : (fL_law_n693 F L xs (Int32.ofNat n) (Int32.ofNat (2 ^ n - 1)) (Int32.ofNat (inP s)) (Int32.ofNat (sg s 6)) (Int32.ofNat d) (Int32.ofNat N) rs rm ts tm rdue rtun rsee rbeg (Int32.ofNat n) (Int32.ofNat c) peff pkin pgri psig psee qsize qclause qeff qkin qgri qsig qsee (Int32.ofNat d) (enc s) cahe kdee know kahe fc lf (st (fun t => decide (0 < N) && anyN (topI c E K S N s t) (4 ^ N))) (Int64.ofNat (cntS c E K S N s)) lo zz tt) = some 1 := by
  obtain ⟨hF, hL, hG, hs0, hin0, hz0, hzE, hzK, htt⟩ := id h
  obtain ⟨k0, n0, k1, n1, k2, hd, hs⟩ := id hk
  have hn := hG.n6
  have hpl : inP s ≤ 6 := pop_le _
  have hp4 := pow4_le (show N ≤ 6 by omega)
  have hp0 : 0 < 4 ^ N := Nat.pow_pos (by decide)
  have hcs := cntS_le (c := c) (E := E) (K := K) (S := S) (N := N) (s := s)
  have hsub := sumN_sub (f := lv c E K S N s) (m := inP s) (4 ^ N) (fun j _ => lv_le)
  have hmul : inP s * 4 ^ N ≤ 6 * 4096 := Nat.mul_le_mul hpl hp4
  have hdiv : ∀ a b : Nat, a / b ≤ a := Nat.div_le_self
  have hM := hdiv (sumN (fun j => inP s - lv c E K S N s j) (4 ^ N)) (Nat.gcd (sumN (fun j => inP s - lv c E K S N s j) (4 ^ N)) (4 ^ N))
  have hml := mid_le (M := sumN (fun j => inP s - lv c E K S N s j) (4 ^ N)) (p := inP s) (b := 4 ^ N) (by omega)
  have hmlt : inP s * (4 ^ N / Nat.gcd (sumN (fun j => inP s - lv c E K S N s j) (4 ^ N)) (4 ^ N)) ≤ 6 * 4096 := Nat.mul_le_mul hpl (Nat.le_trans (hdiv _ _) hp4)
  unfold fL_law_n693
  rw [upper_y, bd1_mk, asked_y, bd1_mk, cx_odds F hG hs hF _ _ (show N ≤ 6 by omega), bd3_mk, if_pos rfl, upper_y, bd1_mk, lower_y, bd1_mk, q_sh2 (by omega), q_mul, odds_eq, if_pos (by rw [lgc_eq]), cx_mid F hG hs hF _ _ (show N ≤ 6 by omega), bd3_mk, if_pos rfl, upper_y, bd1_mk, lower_y, bd1_mk, q_ofNat _ (by omega), q_mul]
  rw [if_neg (by rw [lgc_gt, q_lt (by omega) (by omega)]; omega), bd1_mk]
  have w0 : (lg_cmp (Int64.ofNat (sumN (fun j => inP s - lv c E K S N s j) (4 ^ N) / Nat.gcd (sumN (fun j => inP s - lv c E K S N s j) (4 ^ N)) (4 ^ N))) (0 : Int64) = 0) = (sumN (fun j => inP s - lv c E K S N s j) (4 ^ N) = 0) := by rw [lgc_eq, q_e0 (by omega), mid_0 hp0]
  have w1 : (lg_cmp (Int64.ofNat (cntS c E K S N s)) ((1 : Int64) <<< (((2 : Int32) * Int32.ofNat N).toInt64 &&& 63)) = 0) = (sumN (fun j => inP s - lv c E K S N s j) (4 ^ N) = 0) := by
    rw [show (1 : Int64) = Int64.ofNat 1 from rfl, q_sh2 (by omega), Nat.one_mul, lgc_eq, ← cnt_full, ← Int64.toInt_inj, Int64.toInt_ofNat_of_lt (by omega), Int64.toInt_ofNat_of_lt (by omega)]
    exact propext ⟨fun q => by omega, fun q => by omega⟩
  unfold fL_law_n775 fL_law_n792
  by_cases hz : sumN (fun j => inP s - lv c E K S N s j) (4 ^ N) = 0
  · rw [if_pos (by rw [w0]; exact hz), if_pos (by rw [w1]; exact hz), if_pos rfl]
    exact l_797 (h := h) (hk := hk) (hN := hN) ..
  · rw [if_neg (by rw [w0]; exact hz), if_neg (by rw [w1]; exact hz), if_pos rfl]
    exact l_797 (h := h) (hk := hk) (hN := hN) ..
theorem l_637 (F : Nat) (L : Nat) (xs : Nat → Int32) (rs : Nat → Int32) (rm : Nat → Nat → Int32) (ts : Nat → Int32) (tm : Nat → Nat → Int32) (rdue : Int32) (rtun : Int32) (rsee : Int32) (rbeg : Int32) (peff : Nat → Int32) (pkin : Nat → Int32) (pgri : Nat → Int32) (psig : Nat → Int32) (psee : Nat → Int32) (qsize : Int32) (qclause : Int32) (qeff : Nat → Int32) (qkin : Nat → Int32) (qgri : Nat → Int32) (qsig : Nat → Int32) (qsee : Nat → Int32) (cahe : Nat → Int64) (kdee : Nat → Int32) (know : Nat → Int64) (kahe : Nat → Nat → Int64) (fc : Nat → Int32) (lf : Int32) (told : Int32) (up : Int64) (lo : Int64) (zz : Nat → Int32) (tt : Nat → Int32) {n c d : Nat} {E : Nat → Int} {K : Nat → Nat} {S : Nat → Nat → Bool} {s s0 : Nat → Option Nat} (h : LH F L n c E K S peff pkin psig psee zz tt s0) (hk : KP n d s s0 kdee know) : (fL_law_n637 F L xs (Int32.ofNat n) (Int32.ofNat (2 ^ n - 1)) (Int32.ofNat (inP s)) (Int32.ofNat (sg s 6)) (Int32.ofNat d) rs rm ts tm rdue rtun rsee rbeg (Int32.ofNat n) (Int32.ofNat c) peff pkin pgri psig psee qsize qclause qeff qkin qgri qsig qsee (Int32.ofNat d) (enc s) cahe kdee know kahe fc lf told up lo zz tt) = some 1 := by
  obtain ⟨hF, hL, hG, hs0, hin0, hz0, hzE, hzK, htt⟩ := id h
  obtain ⟨k0, n0, k1, n1, k2, hd, hs⟩ := id hk
  have hn := hG.n6
  have hpl : inP s ≤ 6 := pop_le _
  obtain ⟨v, hv⟩ := y_cell F xs hL (k := 36) (by omega)
  obtain ⟨N, hN, eN⟩ := y_part F v (m := 5) (by decide) (by decide)
  have hp4 := pow4_le (show N ≤ 6 by omega)
  have hcs := cntS_le (c := c) (E := E) (K := K) (S := S) (N := N) (s := s)
  unfold fL_law_n637
  rw [show fL_cell F L xs (36 : Int32) = some v from hv, bd1_mk, show fL_part F v (5 : Int32) = some (Int32.ofNat N) from eN, bd1_mk, cx_stay F hG hs hF _ _ _ (show N ≤ 6 by omega), bd4_mk, if_pos rfl, lower_y, bd1_mk, if_pos (by rw [lgc_eq]), upper_y, bd1_mk, if_neg (by rw [lgc_lt, show (0 : Int64) = Int64.ofNat 0 from rfl, q_lt (by omega) (by omega)]; omega), bd1_mk, show (1 : Int64) <<< (((2 : Int32) * Int32.ofNat N).toInt64 &&& 63) = Int64.ofNat (1 * 4 ^ N) from q_sh2 (a := 1) (by omega), if_pos (by rw [lgc_le, q_le (by omega) (by omega)]; omega)]
  exact l_693 (h := h) (hk := hk) (hN := by omega) ..
theorem l_604 (F : Nat) (L : Nat) (xs : Nat → Int32) (rs : Nat → Int32) (rm : Nat → Nat → Int32) (ts : Nat → Int32) (tm : Nat → Nat → Int32) (rdue : Int32) (rtun : Int32) (rsee : Int32) (rbeg : Int32) (peff : Nat → Int32) (pkin : Nat → Int32) (pgri : Nat → Int32) (psig : Nat → Int32) (psee : Nat → Int32) (qsize : Int32) (qclause : Int32) (qeff : Nat → Int32) (qkin : Nat → Int32) (qgri : Nat → Int32) (qsig : Nat → Int32) (qsee : Nat → Int32) (cahe : Nat → Int64) (kdee : Nat → Int32) (know : Nat → Int64) (kahe : Nat → Nat → Int64) (fc : Nat → Int32) (lf : Int32) (told : Int32) (up : Int64) (lo : Int64) (zz : Nat → Int32) (tt : Nat → Int32) {n c d : Nat} {E : Nat → Int} {K : Nat → Nat} {S : Nat → Nat → Bool} {s s0 : Nat → Option Nat} (h : LH F L n c E K S peff pkin psig psee zz tt s0) (hs : HallOk n s) (hd : d ≤ 19) (k0 : kdee 0 = Int32.ofNat 0) (n0 : know 0 = enc s0) (k2 : kdee 2 = -1) : (fL_law_n604 F L xs (Int32.ofNat n) (Int32.ofNat (2 ^ n - 1)) rs rm ts tm rdue rtun rsee rbeg (Int32.ofNat n) (Int32.ofNat c) peff pkin pgri psig psee qsize qclause qeff qkin qgri qsig qsee (Int32.ofNat d) (enc s) cahe kdee know kahe fc lf told up lo zz tt) = some 1 := by
  obtain ⟨hF, hL, hG, hs0, hin0, hz0, hzE, hzK, htt⟩ := id h
  unfold fL_law_n604
  rw [cx_count3 F _ _ _ _ _ _ _ hs.hb, bd1_mk, cx_count4 F _ _ _ _ _ _ _ hs.hb hF, bd1_mk, cx_count2, bd1_mk, show (1 : Int32) = Int32.ofNat 1 from rfl, cx_keep F hG.nz _ _ _ _ _ _ (show 1 < 3 by decide), bd4_mk, if_pos rfl]
  exact l_637 (h := h) (hk := ⟨k0, n0, rfl, rfl, k2, hd, hs⟩) ..
