theorem did_c1 : ∀ k : Nat, k < 10 → (Int32.ofInt ((k : Int) - 4) - (-4 : Int32) = Int32.ofNat k ∧ Int32.ofInt ((k : Int) - 4) + 1 = Int32.ofInt (((k + 1 : Nat) : Int) - 4) ∧ Int32.ofNat k - (4 : Int32) = Int32.ofInt ((k : Int) - 4) ∧ ¬ ((5 : Int32) < Int32.ofInt ((k : Int) - 4))) := by decide +kernel
theorem sp_did : SP_did := by
  intro F rs rm ts tm rdue rtun rsee rbeg psize pclause peff pkin pgri psig psee qsize qclause qeff qkin qgri qsig qsee cdee cnow cahe kdee know kahe fc lf told up lo mguests mclause mdeeds masked mupper mlower mfinding mreadGuests misSight mat mrowSizes mrows mtextSizes mtexts mdoes mkinds msees mnow mbefore mkeeps mkept mfindings mread maside msteps mtried mbest x1 x2 x3 x4 hF hR
  obtain ⟨n, c, E, K, S, hP, hC, hKp, hRo, hTe, rfl, rfl, rfl, rfl, hfc⟩ := hR
  obtain ⟨hn, rfl, rfl, hc, rfl, rfl, hE, hK, hS, hSn⟩ := id hP
  rcases guest_c F hn x1 with ⟨a1, a2⟩ | ⟨i, hi, rfl, a1, a2⟩
  · exact ⟨_, by unfold fX5_did; rw [a1]; rfl, by unfold fX6_did; rw [a2]; rfl, n, c, E, K, S, hP, hC, hKp, hRo, hTe, rfl, rfl, rfl, rfl, hfc⟩
  rcases tune_c F x2 with ⟨b1, b2⟩ | ⟨t, ht, rfl, b1, b2⟩
  · exact ⟨_, by unfold fX5_did; rw [a1, bd1_mk, if_neg (by decide), b1]; rfl, by unfold fX6_did; rw [a2, bd1_mk, if_neg (by decide), b2]; rfl, n, c, E, K, S, hP, hC, hKp, hRo, hTe, rfl, rfl, rfl, rfl, hfc⟩
  rcases grief_d F x3 with ⟨-, c1, c2⟩ | ⟨⟨g, hg, rfl⟩, c1, c2⟩
  · exact ⟨_, by unfold fX5_did; rw [a1, bd1_mk, if_neg (by decide), b1, bd1_mk, if_neg (by decide), c1]; rfl, by unfold fX6_did; rw [a2, bd1_mk, if_neg (by decide), b2, bd1_mk, if_neg (by decide), c2]; rfl, n, c, E, K, S, hP, hC, hKp, hRo, hTe, rfl, rfl, rfl, rfl, hfc⟩
  rcases grief_d F x4 with ⟨-, d1, d2⟩ | ⟨⟨g', hg', rfl⟩, d1, d2⟩
  · exact ⟨_, by unfold fX5_did; rw [a1, bd1_mk, if_neg (by decide), b1, bd1_mk, if_neg (by decide), c1, bd1_mk, if_neg (by decide), d1]; rfl, by unfold fX6_did; rw [a2, bd1_mk, if_neg (by decide), b2, bd1_mk, if_neg (by decide), c2, bd1_mk, if_neg (by decide), d2]; rfl, n, c, E, K, S, hP, hC, hKp, hRo, hTe, rfl, rfl, rfl, rfl, hfc⟩
  have h6 : i < 6 := by omega
  refine ⟨oI (fun k => decide (Int32.ofNat (gb (K i) t ((k : Int) - 4) g) = Int32.ofNat g')) 10, ?_, ?_, n, c, E, K, S, hP, hC, hKp, hRo, hTe, rfl, rfl, rfl, rfl, hfc⟩
  · unfold fX5_did
    rw [a1, bd1_mk, if_neg (by decide), b1, bd1_mk, if_neg (by decide), c1, bd1_mk, if_neg (by decide), d1, bd1_mk, if_neg (by decide)]
    refine loop_up (fun fu (a : Int32 × Int32) => fX5_did_l39 F (Int32.ofNat n) pkin (Int32.ofNat i) (Int32.ofNat t) (Int32.ofNat g) (Int32.ofNat g') fu a.1 a.2) 10 (fun k => (oI (fun k => decide (Int32.ofNat (gb (K i) t ((k : Int) - 4) g) = Int32.ofNat g')) k, Int32.ofInt ((k : Int) - 4))) _ ?_ ?_ F (by omega)
    · intro fu k hk
      obtain ⟨w1, w2, w3, w4⟩ := did_c1 k hk
      dsimp only
      rw [fX5_did_l39, fX5_did_l39_b, if_neg w4, p_cl (show i < 2147483648 by omega), if_neg (gx h6 (by omega)), (hK i hi).2.1, c_gb F (hK i hi).1 ht (by omega) (by omega) (by omega), bd1_mk, w1, w2]
      by_cases h : Int32.ofNat (gb (K i) t ((k : Int) - 4) g) = Int32.ofNat g'
      · rw [if_pos h, oI_t (p := fun k => decide (Int32.ofNat (gb (K i) t ((k : Int) - 4) g) = Int32.ofNat g')) (k := k) (decide_eq_true h)]
      · rw [if_neg h, oI_f (p := fun k => decide (Int32.ofNat (gb (K i) t ((k : Int) - 4) g) = Int32.ofNat g')) (k := k) (decide_eq_false h)]
    · intro fu
      dsimp only
      rw [fX5_did_l39, fX5_did_l39_b, if_pos (by decide)]
  · unfold fX6_did
    rw [a2, bd1_mk, if_neg (by decide), b2, bd1_mk, if_neg (by decide), c2, bd1_mk, if_neg (by decide), d2, bd1_mk, if_neg (by decide)]
    refine loop_up (fun fu (a : Int32 × Int32) => fX6_did_l48 F (Int32.ofNat n) mkinds (Int32.ofNat i) (Int32.ofNat t) (Int32.ofNat g) (Int32.ofNat g') fu a.1 a.2) 10 (fun k => (oI (fun k => decide (Int32.ofNat (gb (K i) t ((k : Int) - 4) g) = Int32.ofNat g')) k, Int32.ofNat k)) _ ?_ ?_ F (by omega)
    · intro fu k hk
      obtain ⟨w1, w2, w3, w4⟩ := did_c1 k hk
      have f0 : ¬ ((10 : Int32) ≤ Int32.ofNat k) := of_eq_false (by
        rw [show (10 : Int32) = Int32.ofNat 10 from rfl, p_le (by omega) (by omega)]
        exact p_nle hk)
      dsimp only
      rw [fX6_did_l48, fX6_did_l48_b, if_neg f0, p_cl (show i < 2147483648 by omega), if_neg (gx h6 (by omega)), (hK i hi).2.2, w3, m_gb F (hK i hi).1 ht (by omega) (by omega) (by omega), bd1_mk, p_s, Int32.or_zero]
      by_cases h : Int32.ofNat (gb (K i) t ((k : Int) - 4) g) = Int32.ofNat g'
      · rw [if_pos h, oI_t (p := fun k => decide (Int32.ofNat (gb (K i) t ((k : Int) - 4) g) = Int32.ofNat g')) (k := k) (decide_eq_true h)]
      · rw [if_neg h, oI_f (p := fun k => decide (Int32.ofNat (gb (K i) t ((k : Int) - 4) g) = Int32.ofNat g')) (k := k) (decide_eq_false h)]
    · intro fu
      dsimp only
      rw [fX6_did_l48, fX6_did_l48_b, if_pos (by decide)]
theorem all_st : ∀ n, n ≤ 6 → (1 : Int32) <<< (Int32.ofNat n &&& 31) = Int32.ofNat (2 ^ n) ∧ st (fun i => decide (i < n)) = Int32.ofNat (2 ^ n) - 1 ∧ 2 ^ n ≤ 64 ∧ 0 < 2 ^ n := by
  intro n hn
  rcases (show n = 0 ∨ n = 1 ∨ n = 2 ∨ n = 3 ∨ n = 4 ∨ n = 5 ∨ n = 6 by omega) with rfl | rfl | rfl | rfl | rfl | rfl | rfl <;> decide
theorem st_bits : ∀ k, k < 64 → Int32.ofNat k = st (fun i => k.testBit i) := by decide +kernel
theorem sp_wept : SP_wept := by
  intro F rs rm ts tm rdue rtun rsee rbeg psize pclause peff pkin pgri psig psee qsize qclause qeff qkin qgri qsig qsee cdee cnow cahe kdee know kahe fc lf told up lo mguests mclause mdeeds masked mupper mlower mfinding mreadGuests misSight mat mrowSizes mrows mtextSizes mtexts mdoes mkinds msees mnow mbefore mkeeps mkept mfindings mread maside msteps mtried mbest x1 hF hR
  obtain ⟨n, c, E, K, S, hP, hC, hKp, hRo, hTe, rfl, rfl, rfl, rfl, hfc⟩ := hR
  have hpm := pm_of hP
  obtain ⟨hn, rfl, rfl, hc, rfl, rfl, hE, hK, hS, hSn⟩ := id hP
  obtain ⟨d, hd, rfl, rfl, ⟨s, hs, rfl, hm⟩, hah⟩ := id hC
  obtain ⟨w1, w2, w3, w4⟩ := all_st n hn
  rcases rng_cases x1 (n := 2 ^ n) (by omega) with h | ⟨k, hk, rfl⟩
  · refine ⟨-1, ?_, ?_, n, c, E, K, S, hP, hC, hKp, hRo, hTe, rfl, rfl, rfl, rfl, hfc⟩
    · unfold fX5_wept
      rw [w1]
      rcases h with h | h
      · rw [if_pos h]
      · by_cases h0 : x1 < 0
        · rw [if_pos h0]
        · rw [if_neg h0, if_neg (Int32.not_lt.mpr h)]
    · unfold fX6_wept
      rw [m_everybody F hn, bd1_mk, w2, m_inF (n := 2 ^ n) (by omega) (by decide) rfl h, bd1_mk, if_pos rfl]
  · have q1 : ¬ (Int32.ofNat k < 0) := of_eq_false (p_neg (by omega))
    have q2 : Int32.ofNat k < Int32.ofNat (2 ^ n) := of_eq_true (by rw [p_lt (by omega) (by omega)]; exact eq_true hk)
    have q3 := st_bits k (by omega)
    refine ⟨oI (fun i => (s i).isSome && any6 (fun j => ((s j).isSome && k.testBit j) && S j i) && !any6 (fun j => ((s j).isSome && !k.testBit j) && S j i)) n, ?_, ?_, n, c, E, K, S, hP, hC, hKp, hRo, hTe, rfl, rfl, rfl, rfl, hfc⟩
    · unfold fX5_wept
      rw [w1, if_neg q1, if_pos q2, q3]
      refine loop_up (fun fu (a : Int32 × Int32) => fX5_wept_l23 F (Int32.ofNat n) psee (enc s) (st (fun i => k.testBit i)) fu a.1 a.2) n (fun e => (oI (fun i => (s i).isSome && any6 (fun j => ((s j).isSome && k.testBit j) && S j i) && !any6 (fun j => ((s j).isSome && !k.testBit j) && S j i)) e, Int32.ofNat e)) _ ?_ ?_ F (by omega)
      · intro fu e he
        have f0 : ¬ (Int32.ofNat n ≤ Int32.ofNat e) := of_eq_false (by rw [p_le (by omega) (by omega)]; exact p_nle he)
        have h6 : e < 6 := by omega
        dsimp only
        rw [fX5_wept_l23, fX5_wept_l23_b, if_neg f0]
        unfold fX2_watchers
        rw [p_cl (show e < 2147483648 by omega), if_neg (gx h6 (by omega)), c_insiders F hs.hb, bd1_mk, bd1_mk, c_isIn F hs.hb h6, bd1_mk, (hS e he).2.2, st_and, st_andn, p_s]
        simp only [st_zero]
        have key : any6 (fun j => S j e && (s j).isSome) = (any6 (fun j => ((s j).isSome && k.testBit j) && S j e) || any6 (fun j => ((s j).isSome && !k.testBit j) && S j e)) := by
          apply Bool.eq_iff_iff.mpr
          rw [Bool.or_eq_true, any6_iff, any6_iff, any6_iff]
          constructor
          · rintro ⟨j, hj, q⟩
            simp only [Bool.and_eq_true] at q
            cases hb : k.testBit j
            · exact Or.inr ⟨j, hj, by simp [q.1, q.2, hb]⟩
            · exact Or.inl ⟨j, hj, by simp [q.1, q.2, hb]⟩
          · rintro (⟨j, hj, q⟩ | ⟨j, hj, q⟩)
            · simp only [Bool.and_eq_true] at q
              exact ⟨j, hj, by simp [q.1.1, q.2]⟩
            · simp only [Bool.and_eq_true] at q
              exact ⟨j, hj, by simp [q.1.1, q.2]⟩
        have key2 : any6 (fun j => S j e && (s j).isSome && !k.testBit j) = any6 (fun j => ((s j).isSome && !k.testBit j) && S j e) := by
          congr 1
          funext j
          cases S j e <;> cases (s j).isSome <;> cases k.testBit j <;> rfl
        rw [key, key2]
        cases h1 : (s e).isSome with
        | false => rw [oI_f (p := fun i => (s i).isSome && any6 (fun j => ((s j).isSome && k.testBit j) && S j i) && !any6 (fun j => ((s j).isSome && !k.testBit j) && S j i)) (k := e) (by rw [h1]; rfl)]; simp
        | true =>
          cases h3 : any6 (fun j => ((s j).isSome && !k.testBit j) && S j e) with
          | true => rw [oI_f (p := fun i => (s i).isSome && any6 (fun j => ((s j).isSome && k.testBit j) && S j i) && !any6 (fun j => ((s j).isSome && !k.testBit j) && S j i)) (k := e) (by rw [h3]; simp)]; simp
          | false =>
            cases h2 : any6 (fun j => ((s j).isSome && k.testBit j) && S j e) with
            | true => rw [oI_t (p := fun i => (s i).isSome && any6 (fun j => ((s j).isSome && k.testBit j) && S j i) && !any6 (fun j => ((s j).isSome && !k.testBit j) && S j i)) (k := e) (by rw [h1, h2, h3]; rfl)]; simp
            | false => rw [oI_f (p := fun i => (s i).isSome && any6 (fun j => ((s j).isSome && k.testBit j) && S j i) && !any6 (fun j => ((s j).isSome && !k.testBit j) && S j i)) (k := e) (by rw [h1, h2]; rfl)]; simp
      · intro fu
        dsimp only
        rw [fX5_wept_l23, fX5_wept_l23_b, if_pos (Int32.le_refl _)]
    · unfold fX6_wept
      rw [m_everybody F hn, bd1_mk, w2, m_inT (n := 2 ^ n) hk (by omega) (by decide) rfl, bd1_mk, if_neg (by decide), m_inside F hn hs.1 (rm_6 hm), bd1_mk, q3]
      refine loop_up (fun fu (a : Int32 × Int32) => fX6_wept_l30 F (Int32.ofNat n) msees mnow (st (fun i => k.testBit i)) (st (fun i => (s i).isSome)) fu a.1 a.2) n (fun e => (oI (fun i => (s i).isSome && any6 (fun j => ((s j).isSome && k.testBit j) && S j i) && !any6 (fun j => ((s j).isSome && !k.testBit j) && S j i)) e, Int32.ofNat e)) _ ?_ ?_ F (by omega)
      · intro fu e he
        have f0 : ¬ (Int32.ofNat n ≤ Int32.ofNat e) := of_eq_false (by rw [p_le (by omega) (by omega)]; exact p_nle he)
        have h6 : e < 6 := by omega
        dsimp only
        rw [fX6_wept_l30, fX6_wept_l30_b, if_neg f0, m_has F _ h6, bd1_mk, st_and, st_andn, m_isSeen F hpm _ h6 (by omega), bd1_mk, m_isSeen F hpm _ h6 (by omega), bd1_mk]
        unfold fX6_wept_n79
        rw [p_s, Int32.or_zero]
        cases h1 : (s e).isSome with
        | false => rw [oI_f (p := fun i => (s i).isSome && any6 (fun j => ((s j).isSome && k.testBit j) && S j i) && !any6 (fun j => ((s j).isSome && !k.testBit j) && S j i)) (k := e) (by rw [h1]; rfl)]; simp
        | true =>
          cases h3 : any6 (fun j => ((s j).isSome && !k.testBit j) && S j e) with
          | true => rw [oI_f (p := fun i => (s i).isSome && any6 (fun j => ((s j).isSome && k.testBit j) && S j i) && !any6 (fun j => ((s j).isSome && !k.testBit j) && S j i)) (k := e) (by rw [h3]; simp)]; simp
          | false =>
            cases h2 : any6 (fun j => ((s j).isSome && k.testBit j) && S j e) with
            | true => rw [oI_t (p := fun i => (s i).isSome && any6 (fun j => ((s j).isSome && k.testBit j) && S j i) && !any6 (fun j => ((s j).isSome && !k.testBit j) && S j i)) (k := e) (by rw [h1, h2, h3]; rfl)]; simp
            | false => rw [oI_f (p := fun i => (s i).isSome && any6 (fun j => ((s j).isSome && k.testBit j) && S j i) && !any6 (fun j => ((s j).isSome && !k.testBit j) && S j i)) (k := e) (by rw [h1, h2]; rfl)]; simp
      · intro fu
        dsimp only
        rw [fX6_wept_l30, fX6_wept_l30_b, if_pos (Int32.le_refl _)]
theorem below_st : ∀ i, i < 6 → (1 : Int32) <<< (Int32.ofNat i &&& 31) - 1 = st (fun j => decide (j < i)) := by decide +kernel
theorem pop_pos {p : Nat → Bool} {i : Nat} (hi : i < 6) (h : p i = true) : 0 < pop p := by
  unfold pop
  rcases (show i = 0 ∨ i = 1 ∨ i = 2 ∨ i = 3 ∨ i = 4 ∨ i = 5 by omega) with rfl | rfl | rfl | rfl | rfl | rfl <;> rw [h] <;> simp only [Bool.toNat_true] <;> omega
theorem sp_gets : SP_gets := by
  intro F rs rm ts tm rdue rtun rsee rbeg psize pclause peff pkin pgri psig psee qsize qclause qeff qkin qgri qsig qsee cdee cnow cahe kdee know kahe fc lf told up lo mguests mclause mdeeds masked mupper mlower mfinding mreadGuests misSight mat mrowSizes mrows mtextSizes mtexts mdoes mkinds msees mnow mbefore mkeeps mkept mfindings mread maside msteps mtried mbest x1 x2 hF hR
  obtain ⟨n, c, E, K, S, hP, hC, hKp, hRo, hTe, rfl, rfl, rfl, rfl, hfc⟩ := hR
  obtain ⟨hn, rfl, rfl, hc, rfl, rfl, hE, hK, hS, hSn⟩ := id hP
  obtain ⟨d, hd, rfl, rfl, ⟨s, hs, rfl, hm⟩, hah⟩ := id hC
  rcases guest_c F hn x1 with ⟨a1, a2⟩ | ⟨i, hi, rfl, a1, a2⟩
  · exact ⟨_, by unfold fX5_gets; rw [a1]; rfl, by unfold fX6_gets; rw [a2]; rfl, n, c, E, K, S, hP, hC, hKp, hRo, hTe, rfl, rfl, rfl, rfl, hfc⟩
  have h6 : i < 6 := by omega
  have hin := m_in_gen F x2 (a := 1) (b := 999) (u := 1) (v := 999) (by decide) (by decide)
  by_cases h1 : x2 < (1 : Int32)
  · rw [if_pos h1] at hin
    exact ⟨_, by unfold fX5_gets; rw [a1, bd1_mk, if_neg (by decide), if_pos h1], by unfold fX6_gets; rw [a2, bd1_mk, if_neg (by decide), hin]; rfl, n, c, E, K, S, hP, hC, hKp, hRo, hTe, rfl, rfl, rfl, rfl, hfc⟩
  rw [if_neg h1] at hin
  by_cases h9 : x2 ≤ (999 : Int32)
  rotate_left
  · rw [if_pos (Int32.not_le.mp h9)] at hin
    exact ⟨_, by unfold fX5_gets; rw [a1, bd1_mk, if_neg (by decide), if_neg h1, if_neg h9], by unfold fX6_gets; rw [a2, bd1_mk, if_neg (by decide), hin]; rfl, n, c, E, K, S, hP, hC, hKp, hRo, hTe, rfl, rfl, rfl, rfl, hfc⟩
  rw [if_neg (Int32.not_lt.mpr h9)] at hin
  have e5 : fX5_gets F (Int32.ofNat n) (enc s) (Int32.ofNat i) x2 = (if (if (s i).isSome = true then (1 : Int32) else 0) = 0 then (some ((0 : Int32))) else (if 0 < Int32.ofNat (pop (fun i => (s i).isSome)) then (bd1 (fX1_insiders F (enc s)) fun r60 => bd1 (fJ6_bitCount_0f7a4 F (r60 &&& (((1 : Int32) <<< (Int32.ofNat i &&& 31)) - (1 : Int32)))) fun r69 => if Int32.ofNat (pop (fun i => (s i).isSome)) = 0 then none else if Int32.ofNat (pop (fun i => (s i).isSome)) = 0 then none else if (x2 - x2 / Int32.ofNat (pop (fun i => (s i).isSome)) * Int32.ofNat (pop (fun i => (s i).isSome))) ≤ r69 then (some (((x2 / Int32.ofNat (pop (fun i => (s i).isSome))) + (0 : Int32)))) else (some (((x2 / Int32.ofNat (pop (fun i => (s i).isSome))) + (1 : Int32))))) else (some ((0 : Int32))))) := by
    unfold fX5_gets
    rw [a1, bd1_mk, if_neg (by decide), if_neg h1, if_pos h9, c_many_in F hs.hb, bd1_mk, c_isIn F hs.hb h6, bd1_mk]
  have e6 : fX6_gets F (Int32.ofNat n) mnow (Int32.ofNat i) x2 = (if (if (s i).isSome = true then (1 : Int32) else 0) = 0 then (some ((0 : Int32))) else (bd1 (fX6_bits F (st (fun i => (s i).isSome))) fun r42 => bd1 (fX6_bits F (st (fun i => (s i).isSome) &&& (((1 : Int32) <<< (Int32.ofNat i &&& 31)) - (1 : Int32)))) fun r54 => if r42 = 0 then none else if r42 = 0 then none else if (x2 - x2 / r42 * r42) ≤ r54 then (some (((x2 / r42) + (0 : Int32)))) else (some (((x2 / r42) + (1 : Int32)))))) := by
    unfold fX6_gets
    rw [a2, bd1_mk, if_neg (by decide), hin, bd1_mk, if_neg (by decide), m_inside F hn hs.1 (rm_6 hm), bd1_mk, m_has F _ h6, bd1_mk]
  cases hso : (s i).isSome with
  | false =>
    rw [hso] at e5 e6
    exact ⟨0, e5.trans rfl, e6.trans rfl, n, c, E, K, S, hP, hC, hKp, hRo, hTe, rfl, rfl, rfl, rfl, hfc⟩
  | true =>
    have hpp : 0 < pop (fun i => (s i).isSome) := pop_pos h6 hso
    have hpl := pop_le (fun i => (s i).isSome)
    have hpos : (0 : Int32) < Int32.ofNat (pop (fun i => (s i).isSome)) := of_eq_true (by rw [show (0 : Int32) = Int32.ofNat 0 from rfl, p_lt (by omega) (by omega)]; exact eq_true hpp)
    have hne : ¬ (Int32.ofNat (pop (fun i => (s i).isSome)) = 0) := by rw [p_e0 (by omega)]; omega
    rw [hso, if_pos (show true = true from rfl), if_neg (by decide), if_pos hpos, c_insiders F hs.hb, bd1_mk, below_st i h6, st_and, c_pop, bd1_mk, if_neg hne, if_neg hne] at e5
    rw [hso, if_pos (show true = true from rfl), if_neg (by decide), m_bits F _ hF, bd1_mk, below_st i h6, st_and, m_bits F _ hF, bd1_mk, if_neg hne, if_neg hne] at e6
    by_cases hq : (x2 - x2 / Int32.ofNat (pop (fun i => (s i).isSome)) * Int32.ofNat (pop (fun i => (s i).isSome))) ≤ Int32.ofNat (pop (fun i_1 => (s i_1).isSome && decide (i_1 < i)))
    · rw [if_pos hq] at e5 e6
      exact ⟨_, e5, e6, n, c, E, K, S, hP, hC, hKp, hRo, hTe, rfl, rfl, rfl, rfl, hfc⟩
    · rw [if_neg hq] at e5 e6
      exact ⟨_, e5, e6, n, c, E, K, S, hP, hC, hKp, hRo, hTe, rfl, rfl, rfl, rfl, hfc⟩
