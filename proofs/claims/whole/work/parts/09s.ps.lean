def lotN (seed : Nat) : Nat → Nat
  | 0 => seed
  | k + 1 => lotN seed k * 48271 % 2147483647
theorem lotN_lt {seed : Nat} (h : seed < 2147483647) : ∀ k, lotN seed k < 2147483647
  | 0 => h
  | k + 1 => by rw [lotN]; exact Nat.mod_lt _ (by decide)
theorem q_lot {l : Nat} (h : l < 2147483648) : Int64.ofNat l * (48271 : Int64) - Int64.ofNat l * (48271 : Int64) / (2147483647 : Int64) * (2147483647 : Int64) = Int64.ofNat (l * 48271 % 2147483647) := by
  rw [show (48271 : Int64) = Int64.ofNat 48271 from rfl, show (2147483647 : Int64) = Int64.ofNat 2147483647 from rfl, ← Int64.ofNat_mul, ← Int64.ofNat_div (by omega) (by decide), ← Int64.ofNat_mul, ← Int64.ofNat_sub _ _ (by omega)]
  refine congrArg Int64.ofNat ?_
  omega
theorem q_tune {l : Nat} (h : l < 2147483648) : (Int64.ofNat l / (16 : Int64) - Int64.ofNat l / (16 : Int64) / (4 : Int64) * (4 : Int64)).toInt32 = Int32.ofNat (l / 16 % 4) := by
  rw [show (16 : Int64) = Int64.ofNat 16 from rfl, show (4 : Int64) = Int64.ofNat 4 from rfl, ← Int64.ofNat_div (by omega) (by decide), ← Int64.ofNat_div (by omega) (by decide), ← Int64.ofNat_mul, ← Int64.ofNat_sub _ _ (by omega), Int64.toInt32_ofNat']
  refine congrArg Int32.ofNat ?_
  omega
theorem pop_step {c : Nat} {E : Nat → Int} {K : Nat → Nat} {S : Nat → Nat → Bool} {t : Nat} {s : Nat → Option Nat} : pop (fun i => (tuneS c E K S t s i).isSome) + pop (goes c K S (mapT E K t s)) = pop (fun i => (s i).isSome) := by
  have key : ∀ i, (tuneS c E K S t s i).isSome.toNat + (goes c K S (mapT E K t s) i).toNat = (s i).isSome.toNat := fun i => by
    unfold tuneS
    rw [looksS_some, mapT_some]
    cases h : goes c K S (mapT E K t s) i
    · cases (s i).isSome <;> rfl
    · have := goes_some h
      rw [mapT_some] at this
      rw [this]
      rfl
  unfold pop
  dsimp only
  have h0 := key 0; have h1 := key 1; have h2 := key 2; have h3 := key 3; have h4 := key 4; have h5 := key 5
  omega
def fallS (c : Nat) (E : Nat → Int) (K : Nat → Nat) (S : Nat → Nat → Bool) (tN : Nat → Nat) (s : Nat → Option Nat) (k : Nat) : Nat := pop (goes c K S (mapT E K (tN k) (runS c E K S tN s k)))
theorem run_pop {c : Nat} {E : Nat → Int} {K : Nat → Nat} {S : Nat → Nat → Bool} {tN : Nat → Nat} {s : Nat → Option Nat} : ∀ k, pop (fun i => (runS c E K S tN s k i).isSome) + sumN (fallS c E K S tN s) k = pop (fun i => (s i).isSome)
  | 0 => rfl
  | k + 1 => by
    have h1 := run_pop (c := c) (E := E) (K := K) (S := S) (tN := tN) (s := s) k
    have h2 := pop_step (c := c) (E := E) (K := K) (S := S) (t := tN k) (s := runS c E K S tN s k)
    rw [sumN]
    show pop (fun i => (tuneS c E K S (tN k) (runS c E K S tN s k) i).isSome) + _ = _
    unfold fallS at h1 ⊢
    omega
theorem sp_lots : SP_lots := by
  intro F rs rm ts tm rdue rtun rsee rbeg psize pclause peff pkin pgri psig psee qsize qclause qeff qkin qgri qsig qsee cdee cnow cahe kdee know kahe fc lf told up lo mguests mclause mdeeds masked mupper mlower mfinding mreadGuests misSight mat mrowSizes mrows mtextSizes mtexts mdoes mkinds msees mnow mbefore mkeeps mkept mfindings mread maside msteps mtried mbest x1 x2 hF hR
  obtain ⟨n, c, E, K, S, hP, hC, hKp, hRo, hTe, rfl, rfl, rfl, rfl, hfc⟩ := hR
  have hpc := pc_of hP
  have hpm := pm_of hP
  obtain ⟨hn, rfl, rfl, hc, rfl, rfl, hE, hK, hS, hSn⟩ := id hP
  obtain ⟨d, hd, rfl, rfl, ⟨s, hs, rfl, hm⟩, hah⟩ := id hC
  have hin1 := m_in_gen F x1 (a := 1) (b := 20) (u := 1) (v := 20) (by decide) (by decide)
  have hin2 := m_in_gen F x2 (a := 1) (b := 2147483646) (u := 1) (v := 2147483646) (by decide) (by decide)
  by_cases h1 : x1 < (1 : Int32)
  · rw [if_pos h1] at hin1
    exact ⟨_, _, _, _, _, _, _, by unfold fX5_lots; rw [if_pos h1], by unfold fX6_lots; rw [hin1]; rfl, n, c, E, K, S, hP, hC, hKp, hRo, hTe, rfl, rfl, rfl, rfl, hfc⟩
  rw [if_neg h1] at hin1
  by_cases h2 : (20 : Int32) < x1
  · rw [if_pos h2] at hin1
    exact ⟨_, _, _, _, _, _, _, by unfold fX5_lots; rw [if_neg h1, if_pos h2], by unfold fX6_lots; rw [hin1]; rfl, n, c, E, K, S, hP, hC, hKp, hRo, hTe, rfl, rfl, rfl, rfl, hfc⟩
  rw [if_neg h2] at hin1
  by_cases h3 : x2 < (1 : Int32)
  · rw [if_pos h3] at hin2
    exact ⟨_, _, _, _, _, _, _, by unfold fX5_lots; rw [if_neg h1, if_neg h2, if_pos h3], by unfold fX6_lots; rw [hin1, bd1_mk, if_neg (by decide), hin2]; rfl, n, c, E, K, S, hP, hC, hKp, hRo, hTe, rfl, rfl, rfl, rfl, hfc⟩
  rw [if_neg h3] at hin2
  have w64 : (lg_cmp (x2.toInt64) (2147483647 : Int64) < 0) = ¬ ((2147483646 : Int32) < x2) := by
    rw [lgc_lt, Int64.lt_iff_toInt_lt, Int32.toInt_toInt64, Int32.lt_iff_toInt_lt, show (2147483647 : Int64).toInt = 2147483647 from by decide, show (2147483646 : Int32).toInt = 2147483646 from by decide]
    exact propext ⟨fun h => by omega, fun h => by omega⟩
  by_cases h4 : (2147483646 : Int32) < x2
  · rw [if_pos h4] at hin2
    exact ⟨_, _, _, _, _, _, _, by unfold fX5_lots; rw [if_neg h1, if_neg h2, if_neg h3, if_neg (by rw [w64]; exact fun q => q h4)], by unfold fX6_lots; rw [hin1, bd1_mk, if_neg (by decide), hin2]; rfl, n, c, E, K, S, hP, hC, hKp, hRo, hTe, rfl, rfl, rfl, rfl, hfc⟩
  rw [if_neg h4] at hin2
  have v64 : lg_cmp (x2.toInt64) (2147483647 : Int64) < 0 := by rw [w64]; exact h4
  by_cases h0 : n = 0
  · subst h0
    exact ⟨_, _, _, _, _, _, _, by unfold fX5_lots; rw [if_neg h1, if_neg h2, if_neg h3, if_pos v64]; rfl, by unfold fX6_lots; rw [hin1, bd1_mk, if_neg (by decide), hin2]; rfl, 0, c, E, K, S, hP, hC, hKp, hRo, hTe, rfl, rfl, rfl, rfl, hfc⟩
  have hn0 : ¬ (Int32.ofNat n = 0) := by rw [p_e0 (by omega)]; exact h0
  have i1 : (1 : Int32).toInt = 1 := by decide
  have i20 : (20 : Int32).toInt = 20 := by decide
  have i0 : (0 : Int32).toInt = 0 := by decide
  obtain ⟨nn, hnn, rfl⟩ := p_rngle x1 (n := 20) (by decide) (by
    rw [Int32.lt_iff_toInt_lt] at h1
    rw [Int32.le_iff_toInt_le]
    omega) (Int32.not_lt.mp h2)
  obtain ⟨seed, hseed, rfl⟩ := p_rngle x2 (n := 2147483646) (by decide) (by
    rw [Int32.lt_iff_toInt_lt] at h3
    rw [Int32.le_iff_toInt_le]
    omega) (Int32.not_lt.mp h4)
  have hadd : Int32.ofNat d + Int32.ofNat nn = Int32.ofNat (d + nn) := p_add d nn
  have hcmp : (Int32.ofNat (d + nn) ≤ (40 : Int32)) = (d + nn ≤ 40) := by rw [show (40 : Int32) = Int32.ofNat 40 from rfl, p_le (by omega) (by omega)]
  by_cases h40 : d + nn ≤ 40
  rotate_left
  · exact ⟨_, _, _, _, _, _, _, by unfold fX5_lots; rw [if_neg h1, if_neg h2, if_neg h3, if_pos v64, if_neg hn0, hadd, if_neg (by rw [hcmp]; exact h40)], by unfold fX6_lots; rw [hin1, bd1_mk, if_neg (by decide), hin2, bd1_mk, if_neg (by decide), if_neg hn0, hadd, if_neg (by rw [hcmp]; exact h40)], n, c, E, K, S, hP, hC, hKp, hRo, hTe, rfl, rfl, rfl, rfl, hfc⟩
  have hl : ∀ k, lotN seed k < 2147483647 := lotN_lt (by omega)
  have htN : ∀ k, lotN seed (k + 1) / 16 % 4 < 4 := fun k => Nat.mod_lt _ (by decide)
  have hrun : ∀ k, HallOk n (runS c E K S (fun k => lotN seed (k + 1) / 16 % 4) s k) := fun k => runS_ok hs (fun i hi => ⟨(hE i hi).1, (hE i hi).2.1⟩) (fun i hi => (hK i hi).1) k (fun p hp => htN p)
  have hpop := run_pop (c := c) (E := E) (K := K) (S := S) (tN := fun k => lotN seed (k + 1) / 16 % 4) (s := s)
  have hp6 := pop_le (fun i => (s i).isSome)
  have q5 : ∃ ahe', fX5_lots F (Int32.ofNat n) (Int32.ofNat c) peff pkin psee (Int32.ofNat d) (enc s) cahe (Int32.ofNat nn) (Int32.ofNat seed) = some (Int32.ofNat (sumN (fallS c E K S (fun k => lotN seed (k + 1) / 16 % 4) s) nn), Int32.ofNat (d + nn), enc (runS c E K S (fun k => lotN seed (k + 1) / 16 % 4) s nn), ahe') ∧ (∀ j, j < d → ahe' j = cahe j) ∧ ∀ j, j < nn → ahe' (d + j) = enc (runS c E K S (fun k => lotN seed (k + 1) / 16 % 4) s j) := by
    unfold fX5_lots
    rw [if_neg h1, if_neg h2, if_neg h3, if_pos v64, if_neg hn0, hadd, if_pos (by rw [hcmp]; exact h40), c_many_in F hs.hb, bd1_mk, q_ofNat seed (by omega)]
    refine loop_inv (fun fu (a : Int64 × Int32 × Int32 × Int64 × (Nat → Int64)) => fX5_lots_l75 F (Int32.ofNat n) (Int32.ofNat c) peff pkin psee (Int32.ofNat nn) (Int32.ofNat (pop (fun i => (s i).isSome))) fu a.1 a.2.1 a.2.2.1 a.2.2.2.1 a.2.2.2.2) nn (fun k a => a.1 = Int64.ofNat (lotN seed k) ∧ a.2.1 = Int32.ofNat k ∧ a.2.2.1 = Int32.ofNat (d + k) ∧ a.2.2.2.1 = enc (runS c E K S (fun k => lotN seed (k + 1) / 16 % 4) s k) ∧ (∀ j, j < d → a.2.2.2.2 j = cahe j) ∧ ∀ j, j < k → a.2.2.2.2 (d + j) = enc (runS c E K S (fun k => lotN seed (k + 1) / 16 % 4) s j)) (fun o => ∃ ahe', o = some (Int32.ofNat (sumN (fallS c E K S (fun k => lotN seed (k + 1) / 16 % 4) s) nn), Int32.ofNat (d + nn), enc (runS c E K S (fun k => lotN seed (k + 1) / 16 % 4) s nn), ahe') ∧ (∀ j, j < d → ahe' j = cahe j) ∧ ∀ j, j < nn → ahe' (d + j) = enc (runS c E K S (fun k => lotN seed (k + 1) / 16 % 4) s j)) ?_ ?_ F (Int64.ofNat seed, 0, Int32.ofNat d, enc s, cahe) (by omega) ⟨rfl, rfl, rfl, rfl, fun j _ => rfl, fun j hj => absurd hj (Nat.not_lt_zero j)⟩
    · rintro fu k ⟨x4, x6, de, no, ah⟩ hk ⟨e1, e2, e3, e4, e5, e6⟩
      dsimp only at e1 e2 e3 e4 e5 e6
      subst e1; subst e2; subst e3; subst e4
      have f0 : ¬ (Int32.ofNat nn ≤ Int32.ofNat k) := of_eq_false (by rw [p_le (by omega) (by omega)]; exact p_nle hk)
      have hlk := hl k
      have hlk1 := hl (k + 1)
      have el : lotN seed k * 48271 % 2147483647 = lotN seed (k + 1) := rfl
      dsimp only
      rw [fX5_lots_l75, fX5_lots_l75_b, if_neg f0, q_lot (by omega), el, q_tune (by omega), c_afterTune F hpc (hrun k) (by omega) (htN k), bd1_mk, c_goOn F _ _ _ (show d + k < 40 by omega), bd3_mk, p_s]
      refine Or.inl ⟨(Int64.ofNat (lotN seed (k + 1)), Int32.ofNat (k + 1), Int32.ofNat (d + k + 1), enc (runS c E K S (fun k => lotN seed (k + 1) / 16 % 4) s (k + 1)), vp_updL ah (d + k) (enc (runS c E K S (fun k => lotN seed (k + 1) / 16 % 4) s k))), ⟨rfl, rfl, rfl, rfl, fun j hj => ?_, fun j hj => ?_⟩, rfl⟩
      · dsimp only
        rw [updL_at, if_neg (by omega)]
        exact e5 j hj
      · dsimp only
        rw [updL_at]
        by_cases e : j = k
        · subst e; rw [if_pos rfl]
        · rw [if_neg (by omega)]
          exact e6 j (by omega)
    · rintro fu ⟨x4, x6, de, no, ah⟩ ⟨e1, e2, e3, e4, e5, e6⟩
      dsimp only at e1 e2 e3 e4 e5 e6
      subst e1; subst e2; subst e3; subst e4
      refine ⟨ah, ?_, e5, e6⟩
      have hpn := hpop nn
      dsimp only
      rw [fX5_lots_l75, fX5_lots_l75_b, if_pos (Int32.le_refl _), c_many_in F (hrun nn).hb, bd1_mk, p_sub (by omega), show pop (fun i => (s i).isSome) - pop (fun i => (runS c E K S (fun k => lotN seed (k + 1) / 16 % 4) s nn i).isSome) = sumN (fallS c E K S (fun k => lotN seed (k + 1) / 16 % 4) s) nn by omega]
  have q6 : ∃ mn mb, fX6_lots F (Int32.ofNat n) (Int32.ofNat c) (Int32.ofNat d) mdoes mkinds msees mnow mbefore (Int32.ofNat nn) (Int32.ofNat seed) = some (Int32.ofNat (sumN (fallS c E K S (fun k => lotN seed (k + 1) / 16 % 4) s) nn), Int32.ofNat (d + nn), mn, mb) ∧ RM mn 0 (runS c E K S (fun k => lotN seed (k + 1) / 16 % 4) s nn) n ∧ (∀ q, q < 7 * d → mb q = mbefore q) ∧ ∀ j, j < nn → RM mb (7 * (d + j)) (runS c E K S (fun k => lotN seed (k + 1) / 16 % 4) s j) n := by
    unfold fX6_lots
    rw [hin1, bd1_mk, if_neg (by decide), hin2, bd1_mk, if_neg (by decide), if_neg hn0, hadd, if_pos (by rw [hcmp]; exact h40), q_ofNat seed (by omega)]
    refine loop_inv (fun fu (a : Int64 × Int32 × Int32 × Int32 × (Nat → Int32) × (Nat → Int32)) => fX6_lots_l59 F (Int32.ofNat n) (Int32.ofNat c) mdoes mkinds msees (Int32.ofNat nn) fu a.1 a.2.1 a.2.2.1 a.2.2.2.1 a.2.2.2.2.1 a.2.2.2.2.2) nn (fun k a => a.1 = Int64.ofNat (lotN seed k) ∧ a.2.1 = Int32.ofNat (sumN (fallS c E K S (fun k => lotN seed (k + 1) / 16 % 4) s) k) ∧ a.2.2.1 = Int32.ofNat k ∧ a.2.2.2.1 = Int32.ofNat (d + k) ∧ RM a.2.2.2.2.1 0 (runS c E K S (fun k => lotN seed (k + 1) / 16 % 4) s k) n ∧ (∀ q, q < 7 * d → a.2.2.2.2.2 q = mbefore q) ∧ ∀ j, j < k → RM a.2.2.2.2.2 (7 * (d + j)) (runS c E K S (fun k => lotN seed (k + 1) / 16 % 4) s j) n) (fun o => ∃ mn mb, o = some (Int32.ofNat (sumN (fallS c E K S (fun k => lotN seed (k + 1) / 16 % 4) s) nn), Int32.ofNat (d + nn), mn, mb) ∧ RM mn 0 (runS c E K S (fun k => lotN seed (k + 1) / 16 % 4) s nn) n ∧ (∀ q, q < 7 * d → mb q = mbefore q) ∧ ∀ j, j < nn → RM mb (7 * (d + j)) (runS c E K S (fun k => lotN seed (k + 1) / 16 % 4) s j) n) ?_ ?_ F (Int64.ofNat seed, 0, 0, Int32.ofNat d, mnow, mbefore) (by omega) ⟨rfl, rfl, rfl, rfl, hm, fun j _ => rfl, fun j hj => absurd hj (Nat.not_lt_zero j)⟩
    · rintro fu k ⟨x3, x5, x6, md, mn, mb⟩ hk ⟨e1, e2, e3, e4, e5, e6, e7⟩
      dsimp only at e1 e2 e3 e4 e5 e6 e7
      subst e1; subst e2; subst e3; subst e4
      have f0 : ¬ (Int32.ofNat nn ≤ Int32.ofNat k) := of_eq_false (by rw [p_le (by omega) (by omega)]; exact p_nle hk)
      have hlk := hl k
      have hlk1 := hl (k + 1)
      have el : lotN seed k * 48271 % 2147483647 = lotN seed (k + 1) := rfl
      obtain ⟨tt', p1, p2⟩ := m_plays F hpm (hrun k) (by omega) e5 (htN k)
      dsimp only
      rw [fX6_lots_l59, fX6_lots_l59_b, if_neg f0, Int64.mul_comm (48271 : Int64) (Int64.ofNat (lotN seed k)), q_lot (by omega), el, q_tune (by omega), m_remember F _ _ (show d + k < 40 by omega) hF, bd2_mk, p1, bd2_mk, m_bits F _ hF, bd1_mk, p_s, p_add]
      refine Or.inl ⟨(Int64.ofNat (lotN seed (k + 1)), Int32.ofNat (sumN (fallS c E K S (fun k => lotN seed (k + 1) / 16 % 4) s) (k + 1)), Int32.ofNat (k + 1), Int32.ofNat (d + k + 1), tt', (fun q => if 7 * (d + k) ≤ q ∧ q < 7 * (d + k) + 7 then mn (0 + (q - 7 * (d + k))) else mb q)), ⟨rfl, rfl, rfl, rfl, p2, fun q hq => ?_, fun j hj => ?_⟩, rfl⟩
      · dsimp only
        rw [if_neg (by omega)]
        exact e6 q hq
      · by_cases e : j = k
        · subst e
          refine rm_congr e5 fun i hi => ?_
          dsimp only
          rw [if_pos (by omega), show 7 * (d + j) + i - 7 * (d + j) = i by omega]
        · refine rm_congr (e7 j (by omega)) fun i hi => ?_
          dsimp only
          rw [if_neg (by omega)]
    · rintro fu ⟨x3, x5, x6, md, mn, mb⟩ ⟨e1, e2, e3, e4, e5, e6, e7⟩
      dsimp only at e1 e2 e3 e4 e5 e6 e7
      subst e1; subst e2; subst e3; subst e4
      refine ⟨mn, mb, ?_, e5, e6, e7⟩
      dsimp only
      rw [fX6_lots_l59, fX6_lots_l59_b, if_pos (Int32.le_refl _)]
  obtain ⟨ahe', q5, t5, t5'⟩ := q5
  obtain ⟨mn, mb, q6, t6, t6', t6''⟩ := q6
  refine ⟨_, _, _, _, _, _, _, q5, q6, n, c, E, K, S, hP, ?_, hKp, hRo, hTe, rfl, rfl, rfl, rfl, hfc⟩
  refine ⟨d + nn, h40, rfl, rfl, ⟨_, hrun nn, rfl, t6⟩, fun k hk => ?_⟩
  by_cases hkd : k < d
  · rw [t5 k hkd]
    exact rhs_congr (hah k hkd) fun i hi => t6' _ (by omega)
  · have := t5' (k - d) (by omega)
    rw [show d + (k - d) = k by omega] at this
    rw [this]
    have h7 := t6'' (k - d) (by omega)
    rw [show d + (k - d) = k by omega] at h7
    exact ⟨_, hrun (k - d), rfl, h7⟩
-- the smallest set that would rather stop
def wSet (n c : Nat) (s : Nat → Option Nat) (k : Nat) : Nat := sumN (fun i => if k.testBit i = true then gv s i else 0) n
def would (n c : Nat) (s : Nat → Option Nat) (k : Nat) : Bool := decide (st (fun i => k.testBit i) &&& (st (fun i => (s i).isSome) ^^^ (-1 : Int32)) = 0) && decide (2 ≤ pop (fun i => k.testBit i)) && !decide (Int32.ofNat c * (Int32.ofNat (pop (fun i => k.testBit i)) - 1) ≤ Int32.ofNat (wSet n c s k))
def best (n c : Nat) (s : Nat → Option Nat) : Nat → Option Nat
  | 0 => none
  | j + 1 => if (would n c s (j + 1) && (match best n c s j with | none => true | some b => decide (pop (fun i => (j + 1).testBit i) < pop (fun i => b.testBit i)))) = true then some (j + 1) else best n c s j
def bW (o : Option Nat) : Int32 := match o with | none => -9 | some b => Int32.ofNat b
def bZ (o : Option Nat) : Nat := match o with | none => 7 | some b => pop (fun i => b.testBit i)
theorem best_lt {n c : Nat} {s : Nat → Option Nat} : ∀ j b, best n c s j = some b → b ≤ j
  | 0, b, h => by cases h
  | j + 1, b, h => by
    rw [best] at h
    by_cases hq : (would n c s (j + 1) && (match best n c s j with | none => true | some b => decide (pop (fun i => (j + 1).testBit i) < pop (fun i => b.testBit i)))) = true
    · rw [if_pos hq] at h
      cases h
      exact Nat.le_refl _
    · rw [if_neg hq] at h
      have := best_lt j b h
      omega
theorem c_ofSet (F : Nat) {n : Nat} (hn : n ≤ 6) {s : Nat → Option Nat} (hs : HallOk n s) (c : Nat) {k : Nat} (hk : k < 64) (hF : 1000000 ≤ F) : fX5_griefOfSet F (Int32.ofNat n) (enc s) (Int32.ofNat k) = some (Int32.ofNat (wSet n c s k)) := by
  unfold fX5_griefOfSet
  refine loop_up (fun fu (a : Int32 × Int32) => fX5_griefOfSet_l4 F (Int32.ofNat n) (enc s) (Int32.ofNat k) fu a.1 a.2) n (fun j => (Int32.ofNat (sumN (fun i => if k.testBit i = true then gv s i else 0) j), Int32.ofNat j)) _ ?_ ?_ F (by omega)
  · intro fu j hj
    have f0 : ¬ (Int32.ofNat n ≤ Int32.ofNat j) := of_eq_false (by rw [p_le (by omega) (by omega)]; exact p_nle hj)
    dsimp only
    rw [fX5_griefOfSet_l4, fX5_griefOfSet_l4_b, if_neg f0, st_bits k hk, st_bit (fun i => k.testBit i) (show j < 6 by omega), c_griefOf F hs.hb (by omega), bd1_mk, p_s, p_add, sumN]
    cases hb : k.testBit j with
    | false => rw [if_pos (by decide), if_neg (show ¬ (false = true) by decide)]; rfl
    | true => rw [if_neg (by decide), if_pos (show true = true from rfl)]
  · intro fu
    dsimp only
    rw [fX5_griefOfSet_l4, fX5_griefOfSet_l4_b, if_pos (Int32.le_refl _)]
    rfl
theorem m_ofSet (F : Nat) {n : Nat} (hn : n ≤ 6) {s : Nat → Option Nat} {mnow : Nat → Int32} (hm : RM mnow 0 s n) (c : Nat) {k : Nat} (hk : k < 64) (s14 : Int32 → Int32 → Option Int32) (x1 x2 mclause : Int32) (hF : 1000000 ≤ F) : fX6_stops_l28 F s14 (Int32.ofNat n) mclause mnow x1 x2 (Int32.ofNat k) F (0 : Int32) (0 : Int32) = (if (Int32.ofNat k &&& (x1 ^^^ (-1 : Int32))) = 0 then (bd1 (fX6_bits F (Int32.ofNat k)) fun r77 => if r77 ≤ (1 : Int32) then ((fX6_stops_n105 F s14 (Int32.ofNat n) mclause mnow (0 : Int32) x1 x2 (Int32.ofNat k))) else (bd1 (fX6_bits F (Int32.ofNat k)) fun r91 => if (mclause * (r91 - (1 : Int32))) ≤ Int32.ofNat (wSet n c s k) then ((fX6_stops_n105 F s14 (Int32.ofNat n) mclause mnow (0 : Int32) x1 x2 (Int32.ofNat k))) else ((fX6_stops_n105 F s14 (Int32.ofNat n) mclause mnow (1 : Int32) x1 x2 (Int32.ofNat k))))) else ((fX6_stops_n105 F s14 (Int32.ofNat n) mclause mnow (0 : Int32) x1 x2 (Int32.ofNat k)))) := by
  refine loop_up (fun fu (a : Int32 × Int32) => fX6_stops_l28 F s14 (Int32.ofNat n) mclause mnow x1 x2 (Int32.ofNat k) fu a.1 a.2) n (fun j => (Int32.ofNat (sumN (fun i => if k.testBit i = true then gv s i else 0) j), Int32.ofNat j)) _ ?_ ?_ F (by omega)
  · intro fu j hj
    have f0 : ¬ (Int32.ofNat n ≤ Int32.ofNat j) := of_eq_false (by rw [p_le (by omega) (by omega)]; exact p_nle hj)
    have hh : fX6_has F (Int32.ofNat k) (Int32.ofNat j) = some (if k.testBit j = true then 1 else 0) := by
      rw [st_bits k hk, m_has F _ (show j < 6 by omega)]
    dsimp only
    rw [fX6_stops_l28, fX6_stops_l28_b, if_neg f0, hh, bd1_mk, p_cl (show j < 2147483648 by omega), if_neg (gx (show j < 7 by omega) (by omega)), rm_g hm (show j < 6 by omega), p_s, p_add, sumN, Int32.add_zero]
    cases hb : k.testBit j with
    | false => rw [if_neg (show ¬ (false = true) by decide), if_pos rfl, if_neg (show ¬ (false = true) by decide)]; rfl
    | true => rw [if_pos (show true = true from rfl), if_neg (by decide), if_pos (show true = true from rfl)]
  · intro fu
    dsimp only
    rw [fX6_stops_l28, fX6_stops_l28_b, if_pos (Int32.le_refl _)]
    rfl
theorem sp_stops : SP_stops := by
  intro F rs rm ts tm rdue rtun rsee rbeg psize pclause peff pkin pgri psig psee qsize qclause qeff qkin qgri qsig qsee cdee cnow cahe kdee know kahe fc lf told up lo mguests mclause mdeeds masked mupper mlower mfinding mreadGuests misSight mat mrowSizes mrows mtextSizes mtexts mdoes mkinds msees mnow mbefore mkeeps mkept mfindings mread maside msteps mtried mbest hF hR
  obtain ⟨n, c, E, K, S, hP, hC, hKp, hRo, hTe, rfl, rfl, rfl, rfl, hfc⟩ := hR
  obtain ⟨hn, rfl, rfl, hc, rfl, rfl, hE, hK, hS, hSn⟩ := id hP
  obtain ⟨d, hd, rfl, rfl, ⟨s, hs, rfl, hm⟩, hah⟩ := id hC
  obtain ⟨w1, w2, w3, w4⟩ := all_st n hn
  refine ⟨bW (best n c s (2 ^ n - 1)), ?_, ?_, n, c, E, K, S, hP, hC, hKp, hRo, hTe, rfl, rfl, rfl, rfl, hfc⟩
  · unfold fX5_stops
    refine loop_up (fun fu (a : Int32 × Int32 × Int32) => fX5_stops_l8 F (Int32.ofNat n) (Int32.ofNat c) (enc s) fu a.1 a.2.1 a.2.2) (2 ^ n - 1) (fun j => (bW (best n c s j), Int32.ofNat (bZ (best n c s j)), Int32.ofNat (j + 1))) _ ?_ ?_ F (by omega)
    · intro fu j hj
      have f0 : ¬ (Int32.ofNat (2 ^ n) ≤ Int32.ofNat (j + 1)) := of_eq_false (by rw [p_le (by omega) (by omega)]; exact p_nle (by omega))
      have hpl := pop_le (fun i => (j + 1).testBit i)
      have hzl : bZ (best n c s j) ≤ 7 := by
        unfold bZ
        cases best n c s j with
        | none => exact Nat.le_refl _
        | some b => exact Nat.le_trans (pop_le _) (by decide)
      have hbc : fJ6_bitCount_0f7a4 F (Int32.ofNat (j + 1)) = some (Int32.ofNat (pop (fun i => (j + 1).testBit i))) := by
        rw [st_bits (j + 1) (by omega), c_pop]
      dsimp only
      rw [fX5_stops_l8, fX5_stops_l8_b, w1, if_neg f0, hbc, bd1_mk, c_insiders F hs.hb, bd1_mk]
      unfold fX5_stops_n49
      rw [p_s, c_ofSet F hn hs c (show j + 1 < 64 by omega) hF, bd1_mk]
      have g2 : (Int32.ofNat (pop (fun i => (j + 1).testBit i)) < (2 : Int32)) = (pop (fun i => (j + 1).testBit i) < 2) := by rw [show (2 : Int32) = Int32.ofNat 2 from rfl, p_lt (by omega) (by omega)]
      have g3 : (Int32.ofNat (bZ (best n c s j)) ≤ Int32.ofNat (pop (fun i => (j + 1).testBit i))) = (bZ (best n c s j) ≤ pop (fun i => (j + 1).testBit i)) := p_le (by omega) (by omega)
      have gm : (match best n c s j with | none => true | some b => decide (pop (fun i => (j + 1).testBit i) < pop (fun i => b.testBit i))) = decide (pop (fun i => (j + 1).testBit i) < bZ (best n c s j)) := by
        unfold bZ
        cases best n c s j with
        | none => exact (decide_eq_true (show pop (fun i => (j + 1).testBit i) < 7 by omega)).symm
        | some b => rfl
      have hstep : best n c s (j + 1) = if (would n c s (j + 1) && decide (pop (fun i => (j + 1).testBit i) < bZ (best n c s j))) = true then some (j + 1) else best n c s j := by rw [best, gm]
      rw [st_bits (j + 1) (by omega)]
      by_cases c1 : st (fun i => (j + 1).testBit i) &&& (st (fun i => (s i).isSome) ^^^ (-1 : Int32)) = 0
      · rw [if_pos c1, if_neg (by decide)]
        by_cases c2 : pop (fun i => (j + 1).testBit i) < 2
        · rw [if_pos (by rw [g2]; exact c2), hstep, if_neg (by unfold would; rw [decide_eq_false (show ¬ (2 ≤ pop (fun i => (j + 1).testBit i)) by omega)]; simp)]
        · rw [if_neg (by rw [g2]; exact c2)]
          by_cases c3 : bZ (best n c s j) ≤ pop (fun i => (j + 1).testBit i)
          · rw [if_pos (by rw [g3]; exact c3), hstep, if_neg (by rw [decide_eq_false (show ¬ (pop (fun i => (j + 1).testBit i) < bZ (best n c s j)) by omega)]; simp)]
          · rw [if_neg (by rw [g3]; exact c3)]
            by_cases c4 : Int32.ofNat c * (Int32.ofNat (pop (fun i => (j + 1).testBit i)) - 1) ≤ Int32.ofNat (wSet n c s (j + 1))
            · rw [if_pos c4, hstep, if_neg (by unfold would; rw [decide_eq_true c4]; simp)]
            · rw [if_neg c4, hstep, if_pos (by unfold would; rw [decide_eq_true c1, decide_eq_false c4, decide_eq_true (show 2 ≤ pop (fun i => (j + 1).testBit i) by omega), decide_eq_true (show pop (fun i => (j + 1).testBit i) < bZ (best n c s j) by omega)]; rfl), ← st_bits (j + 1) (by omega)]
              rfl
      · rw [if_neg c1, if_pos rfl, hstep, if_neg (by unfold would; rw [decide_eq_false c1]; simp)]
    · intro fu
      dsimp only
      rw [fX5_stops_l8, fX5_stops_l8_b, w1, show 2 ^ n - 1 + 1 = 2 ^ n by omega, if_pos (Int32.le_refl _)]
  · unfold fX6_stops
    rw [m_inside F hn hs.1 (rm_6 hm), bd1_mk]
    refine loop_up (fun fu (a : Int32 × Int32) => fX6_stops_l14 F (Int32.ofNat n) (Int32.ofNat c) mnow (st (fun i => (s i).isSome)) fu a.1 a.2) (2 ^ n - 1) (fun j => (bW (best n c s j), Int32.ofNat (j + 1))) _ ?_ ?_ F (by omega)
    · intro fu j hj
      have f0 : ¬ (Int32.ofNat (2 ^ n) - 1 < Int32.ofNat (j + 1)) := by
        rw [p_pred (by omega), p_le (by omega) (by omega)]
        omega
      have hpl := pop_le (fun i => (j + 1).testBit i)
      have hbt : fX6_bits F (Int32.ofNat (j + 1)) = some (Int32.ofNat (pop (fun i => (j + 1).testBit i))) := by
        rw [st_bits (j + 1) (by omega), m_bits F _ hF]
      have g2 : (Int32.ofNat (pop (fun i => (j + 1).testBit i)) ≤ (1 : Int32)) = (pop (fun i => (j + 1).testBit i) ≤ 1) := by rw [show (1 : Int32) = Int32.ofNat 1 from rfl, p_le (by omega) (by omega)]
      have n0 : ∀ self : Int32 → Int32 → Option Int32, fX6_stops_n105 F self (Int32.ofNat n) (Int32.ofNat c) mnow (0 : Int32) (st (fun i => (s i).isSome)) (bW (best n c s j)) (Int32.ofNat (j + 1)) = self (bW (best n c s j)) (Int32.ofNat (j + 1 + 1)) := fun self => by
        unfold fX6_stops_n105
        rw [if_pos rfl, p_s]
      dsimp only
      rw [fX6_stops_l14, fX6_stops_l14_b, m_everybody F hn, bd1_mk, w2, if_neg f0, m_ofSet F hn hm c (show j + 1 < 64 by omega) _ _ _ _ hF, hbt, bd1_mk, bd1_mk, n0]
      have hc1 : (Int32.ofNat (j + 1) &&& (st (fun i => (s i).isSome) ^^^ (-1 : Int32)) = 0) = (st (fun i => (j + 1).testBit i) &&& (st (fun i => (s i).isSome) ^^^ (-1 : Int32)) = 0) := by rw [st_bits (j + 1) (by omega)]
      by_cases c1 : st (fun i => (j + 1).testBit i) &&& (st (fun i => (s i).isSome) ^^^ (-1 : Int32)) = 0
      rotate_left
      · rw [if_neg (by rw [hc1]; exact c1), best, if_neg (by unfold would; rw [decide_eq_false c1]; simp)]
      rw [if_pos (by rw [hc1]; exact c1)]
      by_cases c2 : pop (fun i => (j + 1).testBit i) ≤ 1
      · rw [if_pos (by rw [g2]; exact c2), best, if_neg (by unfold would; rw [decide_eq_false (show ¬ (2 ≤ pop (fun i => (j + 1).testBit i)) by omega)]; simp)]
      rw [if_neg (by rw [g2]; exact c2)]
      by_cases c4 : Int32.ofNat c * (Int32.ofNat (pop (fun i => (j + 1).testBit i)) - 1) ≤ Int32.ofNat (wSet n c s (j + 1))
      · rw [if_pos c4, best, if_neg (by unfold would; rw [decide_eq_true c4]; simp)]
      rw [if_neg c4]
      have hw : would n c s (j + 1) = true := by
        unfold would
        rw [decide_eq_true c1, decide_eq_false c4, decide_eq_true (show 2 ≤ pop (fun i => (j + 1).testBit i) by omega)]
        rfl
      unfold fX6_stops_n105
      rw [if_neg (by decide), best, hw, Bool.true_and, hbt, bd1_mk, p_s]
      cases hb : best n c s j with
      | none =>
        rw [if_pos (show true = true from rfl)]
        unfold bW
        rw [if_pos (by rfl)]
      | some b =>
        have hbj := best_lt j b hb
        have hpb := pop_le (fun i => b.testBit i)
        unfold bW
        dsimp only
        have hbt2 : fX6_bits F (Int32.ofNat b) = some (Int32.ofNat (pop (fun i => b.testBit i))) := by
          rw [st_bits b (by omega), m_bits F _ hF]
        rw [if_neg (fun q => by
          have := congrArg Int32.toInt q
          rw [p_ti (by omega), show ((-9 : Int32)).toInt = -9 from by decide] at this
          omega), hbt2, bd1_mk]
        have g5 : (Int32.ofNat (pop (fun i => b.testBit i)) ≤ Int32.ofNat (pop (fun i => (j + 1).testBit i))) = (pop (fun i => b.testBit i) ≤ pop (fun i => (j + 1).testBit i)) := p_le (by omega) (by omega)
        by_cases c5 : pop (fun i => b.testBit i) ≤ pop (fun i => (j + 1).testBit i)
        · rw [if_pos (by rw [g5]; exact c5), if_neg (by rw [decide_eq_false (show ¬ (pop (fun i => (j + 1).testBit i) < pop (fun i => b.testBit i)) by omega)]; decide)]
        · rw [if_neg (by rw [g5]; exact c5), if_pos (by rw [decide_eq_true (show pop (fun i => (j + 1).testBit i) < pop (fun i => b.testBit i) by omega)])]
    · intro fu
      have f0 : Int32.ofNat (2 ^ n) - 1 < Int32.ofNat (2 ^ n - 1 + 1) := by
        rw [p_pred (by omega), p_le (by omega) (by omega)]
        omega
      dsimp only
      rw [fX6_stops_l14, fX6_stops_l14_b, m_everybody F hn, bd1_mk, w2, if_pos f0]
