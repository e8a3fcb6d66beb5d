theorem Cb_le : ∀ r, r ≤ 6 → Cb r ≤ 156864 := by decide +kernel
theorem gV_le {n c : Nat} {E : Nat → Int} {K : Nat → Nat} {S : Nat → Nat → Bool} {r : Nat} {s : Nat → Option Nat} : gV n c E K S r s ≤ inP s := by
  unfold gV
  split
  · exact bandV_le _ _
  · exact foldA_le _
theorem acc_band {n c B d m : Nat} {E : Nat → Int} {K : Nat → Nat} {S : Nat → Nat → Bool} {s : Nat → Option Nat} (hd : d % 2 = 0) (hB : inP s ≤ B) (hB6 : B ≤ 6) : ∀ k, accA n c E K S B d (2 * m + 1) s k = Int32.ofNat (if k = 0 then 1000000 else B - mxN (fun t => foldA c K S (bandV n c E K S m) (tuneS c E K S t s) n) k)
  | 0 => by
    rw [if_pos rfl]
    show ini d = _
    unfold ini
    rw [if_pos hd]
    rfl
  | k + 1 => by
    have ih := acc_band (n := n) (c := c) (m := m) (E := E) (K := K) (S := S) hd hB hB6 k
    have hg : ∀ t, gV n c E K S (2 * m + 1) (tuneS c E K S t s) = foldA c K S (bandV n c E K S m) (tuneS c E K S t s) n := fun t => by
      unfold gV
      rw [if_neg (by omega), show (2 * m + 1) / 2 = m by omega]
    have hfl : ∀ t, foldA c K S (bandV n c E K S m) (tuneS c E K S t s) n ≤ B := fun t => Nat.le_trans (Nat.le_trans (foldA_le n) inP_tune) hB
    have hml := mxN_le (f := fun t => foldA c K S (bandV n c E K S m) (tuneS c E K S t s) n) (m := B) k (fun t _ => hfl t)
    have hfk := hfl k
    rw [if_neg (by omega), accA, ih]
    unfold chd
    rw [if_pos hd]
    dsimp only
    rw [hg]
    unfold wv
    rw [if_pos hd]
    have w : (Int32.ofNat (if k = 0 then 1000000 else B - mxN (fun t => foldA c K S (bandV n c E K S m) (tuneS c E K S t s) n) k) ≤ Int32.ofNat (B - foldA c K S (bandV n c E K S m) (tuneS c E K S k s) n)) = ((if k = 0 then 1000000 else B - mxN (fun t => foldA c K S (bandV n c E K S m) (tuneS c E K S t s) n) k) ≤ B - foldA c K S (bandV n c E K S m) (tuneS c E K S k s) n) := p_le (by split <;> omega) (by omega)
    by_cases h0 : k = 0
    · subst h0
      rw [if_neg (by rw [w, if_pos rfl]; omega), show mxN (fun t => foldA c K S (bandV n c E K S m) (tuneS c E K S t s) n) (0 + 1) = foldA c K S (bandV n c E K S m) (tuneS c E K S 0 s) n from Nat.max_eq_right (Nat.zero_le _)]
    · rw [if_neg h0] at w ⊢
      rw [mxN]
      by_cases h : foldA c K S (bandV n c E K S m) (tuneS c E K S k s) n ≤ mxN (fun t => foldA c K S (bandV n c E K S m) (tuneS c E K S t s) n) k
      · rw [if_pos (by rw [w]; omega), Nat.max_eq_left h]
      · rw [if_neg (by rw [w]; omega), Nat.max_eq_right (by omega)]
def mnO (n c : Nat) (E : Nat → Int) (K : Nat → Nat) (S : Nat → Nat → Bool) (m : Nat) (s : Nat → Option Nat) : Nat → Option Nat
  | 0 => none
  | k + 1 => if (s k).isSome = true then some (match mnO n c E K S m s k with | none => bandV n c E K S m (nameS c K S k s) | some u => min u (bandV n c E K S m (nameS c K S k s))) else mnO n c E K S m s k
theorem mnO_le {n c : Nat} {E : Nat → Int} {K : Nat → Nat} {S : Nat → Nat → Bool} {m : Nat} {s : Nat → Option Nat} : ∀ k u, mnO n c E K S m s k = some u → u ≤ inP s
  | 0, u, h => by cases h
  | k + 1, u, h => by
    have ih := mnO_le (n := n) (c := c) (E := E) (K := K) (S := S) (m := m) (s := s) k
    rw [mnO] at h
    by_cases e : (s k).isSome = true
    · rw [if_pos e] at h
      have hb := bandV_le (n := n) (c := c) (E := E) (K := K) (S := S) m (nameS c K S k s)
      have hb2 := inP_sub (sub_name (c := c) (K := K) (S := S) e)
      cases q : mnO n c E K S m s k with
      | none =>
        rw [q] at h
        cases h
        show bandV n c E K S m (nameS c K S k s) ≤ inP s
        omega
      | some v =>
        rw [q] at h
        cases h
        have := ih v q
        show min v _ ≤ _
        omega
    · rw [if_neg e] at h
      exact ih u h
theorem mnO_none {n c : Nat} {E : Nat → Int} {K : Nat → Nat} {S : Nat → Nat → Bool} {m : Nat} {s : Nat → Option Nat} : ∀ k, mnO n c E K S m s k = none → ∀ i, i < k → (s i).isSome = false
  | 0, _, i, hi => absurd hi (Nat.not_lt_zero i)
  | k + 1, h, i, hi => by
    rw [mnO] at h
    cases e : (s k).isSome with
    | true => rw [e, if_pos rfl] at h; cases h
    | false =>
      rw [e, if_neg (by decide)] at h
      by_cases q : i = k
      · subst q; exact e
      · exact mnO_none k h i (by omega)
theorem mnO_fold {n c : Nat} {E : Nat → Int} {K : Nat → Nat} {S : Nat → Nat → Bool} {m : Nat} {s : Nat → Option Nat} : ∀ k, foldA c K S (bandV n c E K S m) s k = (mnO n c E K S m s k).getD (inP s)
  | 0 => rfl
  | k + 1 => by
    have ih := mnO_fold (n := n) (c := c) (E := E) (K := K) (S := S) (m := m) (s := s) k
    rw [foldA, mnO, ih]
    by_cases e : (s k).isSome = true
    · rw [if_pos e, if_pos e]
      have hb := bandV_le (n := n) (c := c) (E := E) (K := K) (S := S) m (nameS c K S k s)
      have hb2 := inP_sub (sub_name (c := c) (K := K) (S := S) e)
      cases q : mnO n c E K S m s k with
      | none =>
        show min (inP s) _ = bandV n c E K S m (nameS c K S k s)
        omega
      | some v => rfl
    · rw [if_neg e, if_neg e]
theorem foldA_ext {n c : Nat} {K : Nat → Nat} {S : Nat → Nat → Bool} {f : (Nat → Option Nat) → Nat} {s : Nat → Option Nat} (hs : HallOk n s) : ∀ j, foldA c K S f s (n + j) = foldA c K S f s n
  | 0 => rfl
  | j + 1 => by
    show foldA c K S f s (n + j + 1) = _
    rw [foldA, hs.1 (n + j) (by omega), if_neg (by decide)]
    exact foldA_ext hs j
theorem acc_aunt {n c B d m : Nat} {E : Nat → Int} {K : Nat → Nat} {S : Nat → Nat → Bool} {s : Nat → Option Nat} (hd : ¬ d % 2 = 0) (hB : inP s ≤ B) (hB6 : B ≤ 6) : ∀ k, k ≤ 6 → accA n c E K S B d (2 * m) s k = (match mnO n c E K S m s k with | none => -1 | some u => Int32.ofNat (B - u))
  | 0, _ => by
    show ini d = _
    unfold ini
    rw [if_neg hd]
    rfl
  | k + 1, hk => by
    have ih := acc_aunt (n := n) (c := c) (m := m) (E := E) (K := K) (S := S) hd hB hB6 k (by omega)
    have hg : gV n c E K S (2 * m) (nameS c K S k s) = bandV n c E K S m (nameS c K S k s) := by
      unfold gV
      rw [if_pos (by omega), show (2 * m) / 2 = m by omega]
    rw [accA, mnO, ih]
    unfold chd
    rw [if_neg hd, if_pos (show k < 6 by omega)]
    cases e : (s k).isSome with
    | false =>
      rw [if_neg (show ¬ (false = true) by decide), if_neg (show ¬ (false = true) by decide)]
    | true =>
      have hb := bandV_le (n := n) (c := c) (E := E) (K := K) (S := S) m (nameS c K S k s)
      have hb2 := inP_sub (sub_name (c := c) (K := K) (S := S) e)
      rw [if_pos (show true = true from rfl), if_pos (show true = true from rfl)]
      dsimp only
      rw [hg]
      unfold wv
      rw [if_neg hd]
      cases q : mnO n c E K S m s k with
      | none =>
        dsimp only
        rw [if_neg (fun z => by
          rw [Int32.le_iff_toInt_le, p_ti (by omega), show ((-1 : Int32)).toInt = -1 from by decide] at z
          omega)]
      | some u =>
        have hu := mnO_le k u q
        dsimp only
        have w : (Int32.ofNat (B - bandV n c E K S m (nameS c K S k s)) ≤ Int32.ofNat (B - u)) = (B - bandV n c E K S m (nameS c K S k s) ≤ B - u) := p_le (by omega) (by omega)
        by_cases h : u ≤ bandV n c E K S m (nameS c K S k s)
        · rw [if_pos (by rw [w]; omega), Nat.min_eq_left h]
        · rw [if_neg (by rw [w]; omega), Nat.min_eq_right (by omega)]
theorem acc_end {n c B d r : Nat} {E : Nat → Int} {K : Nat → Nat} {S : Nat → Nat → Bool} {s : Nat → Option Nat} (hn : n ≤ 6) (hs : HallOk n s) (hdr : (d + (r + 1)) % 2 = 0) (hB : inP s ≤ B) (hB6 : B ≤ 6) : accA n c E K S B d r s (lim d) = Int32.ofNat (B - gV n c E K S (r + 1) s) := by
  by_cases hd : d % 2 = 0
  · obtain ⟨m, rfl⟩ : ∃ m, r = 2 * m + 1 := ⟨r / 2, by omega⟩
    have h := acc_band (n := n) (c := c) (m := m) (E := E) (K := K) (S := S) hd hB hB6 4
    rw [if_neg (by decide)] at h
    unfold lim gV
    rw [if_pos hd, if_pos (by omega), h, show (2 * m + 1 + 1) / 2 = m + 1 by omega, bandV]
  · obtain ⟨m, rfl⟩ : ∃ m, r = 2 * m := ⟨r / 2, by omega⟩
    have h := acc_aunt (n := n) (c := c) (m := m) (E := E) (K := K) (S := S) hd hB hB6 6 (Nat.le_refl _)
    have hf := mnO_fold (n := n) (c := c) (E := E) (K := K) (S := S) (m := m) (s := s) 6
    have he := foldA_ext (c := c) (K := K) (S := S) (f := bandV n c E K S m) hs (6 - n)
    rw [show n + (6 - n) = 6 by omega] at he
    unfold lim gV
    rw [if_neg hd, if_neg (by omega), show (2 * m + 1) / 2 = m by omega, ← he, hf, show (7 : Nat) = 6 + 1 from rfl, accA, h]
    unfold chd
    rw [if_neg hd, if_neg (by decide)]
    by_cases hz : inP s = 0
    · have hnone : mnO n c E K S m s 6 = none := by
        have hall : ∀ i, i < 6 → (s i).isSome = false := by
          have := hz
          rw [← inP_zero, st_zero, any_f] at this
          exact this
        have key : ∀ k, k ≤ 6 → mnO n c E K S m s k = none := by
          intro k
          induction k with
          | zero => intro _; rfl
          | succ k ih =>
            intro hk
            rw [mnO, hall k (by omega), if_neg (by decide)]
            exact ih (by omega)
        exact key 6 (Nat.le_refl _)
      have hb := bandV_le (n := n) (c := c) (E := E) (K := K) (S := S) m s
      have hg : gV n c E K S (2 * m) s = bandV n c E K S m s := by
        unfold gV
        rw [if_pos (by omega), show (2 * m) / 2 = m by omega]
      rw [if_pos hz, hnone]
      dsimp only
      rw [hg]
      unfold wv
      rw [if_neg hd, if_neg (fun z => by
        rw [Int32.le_iff_toInt_le, p_ti (by omega), show ((-1 : Int32)).toInt = -1 from by decide] at z
        omega)]
      show Int32.ofNat (B - bandV n c E K S m s) = Int32.ofNat (B - inP s)
      rw [show bandV n c E K S m s = inP s by omega]
    · rw [if_neg hz]
      cases q : mnO n c E K S m s 6 with
      | none =>
        have h0 := mnO_none 6 q
        exact absurd (by rw [← inP_zero, st_zero, any_f]; exact h0) hz
      | some u => rfl
theorem node_all (F : Nat) {n c N : Nat} {E : Nat → Int} {K : Nat → Nat} {S : Nat → Nat → Bool} {md mk ms mn : Nat → Int32} (hp : PM n c E K S (Int32.ofNat n) (Int32.ofNat c) md mk ms) {s0 : Nat → Option Nat} (hs0 : HallOk n s0) (hm0 : RM mn 0 s0 n) (hN : 0 < N) (hN3 : N ≤ 3) (hF : 1000000 ≤ F) : ∀ r, NodeP F n c N E K S md mk ms mn s0 (r + 1) := by
  intro r
  have main : ∀ r, (r = 0 ∨ NodeP F n c N E K S md mk ms mn s0 r) → NodeP F n c N E K S md mk ms mn s0 (r + 1) := by
    intro r IH d s a sp tr be hdr hs hsub hsp htr hbe
    obtain ⟨cost, a1, sp1, tr1, be1, h1, h2, h3, h4, h5, h6, h7⟩ := node_iter F hp hs0 hm0 hN hN3 hF (r := r) (d := d) (by omega) IH hs hsub (a := a) hsp htr hbe (lim d) (Nat.le_refl _)
    have hl := lim_le d
    refine ⟨1 + cost, a1, sp1, upd tr1 d (Int32.ofNat (lim d)), be1, ?_, fun fu => ?_, ?_, fun j hj => ?_, h6, h7⟩
    · have := Nat.mul_le_mul_right (Cb r + 1) hl
      rw [Cb]
      omega
    · rw [← Nat.add_assoc, h2 (fu + 1)]
      exact la_exit F (show d < 6 by omega) h3 fu
    · rw [h4]
      exact acc_end hp.1 hs (by omega) (inP_sub hsub) (pop_le _)
    · rw [upd_at, if_neg (by omega)]
      exact h5 j hj
  induction r with
  | zero => exact main 0 (Or.inl rfl)
  | succ r ih => exact main (r + 1) (Or.inr ih)
theorem sp_aunt : SP_aunt := by
  intro F rs rm ts tm rdue rtun rsee rbeg psize pclause peff pkin pgri psig psee qsize qclause qeff qkin qgri qsig qsee cdee cnow cahe kdee know kahe fc lf told up lo mguests mclause mdeeds masked mupper mlower mfinding mreadGuests misSight mat mrowSizes mrows mtextSizes mtexts mdoes mkinds msees mnow mbefore mkeeps mkept mfindings mread maside msteps mtried mbest x1 hF hR
  obtain ⟨n, c, E, K, S, hP, hC, hKp, hRo, hTe, rfl, rfl, rfl, rfl, hfc⟩ := hR
  have hpc := pc_of hP
  have hpm := pm_of hP
  obtain ⟨hn, rfl, rfl, hc, rfl, rfl, hE, hK, hS, hSn⟩ := id hP
  obtain ⟨d, hd, rfl, rfl, ⟨s, hs, rfl, hm⟩, hah⟩ := id hC
  rcases rng_cases x1 (n := 4) (by decide) with h | ⟨N, hN, rfl⟩
  · refine ⟨-1, maside, msteps, mtried, mbest, ?_, by unfold fX6_aunt; rw [m_inF (n := 4) (by decide) (by decide) (by decide) h]; rfl, n, c, E, K, S, hP, hC, hKp, hRo, hTe, rfl, rfl, rfl, rfl, hfc⟩
    unfold fX5_aunt
    rcases h with h | h
    · rw [if_pos h]
    · by_cases h0 : x1 < 0
      · rw [if_pos h0]
      · rw [if_neg h0, if_neg (fun q => by
          have := Int32.le_trans h q
          exact absurd this (by decide))]
  have w0 : ¬ (Int32.ofNat N < 0) := of_eq_false (p_neg (by omega))
  have w1 : Int32.ofNat N ≤ (3 : Int32) := of_eq_true (by rw [show (3 : Int32) = Int32.ofNat 3 from rfl, p_le (by omega) (by omega)]; exact eq_true (by omega))
  have hin : fX6_in F (Int32.ofNat N).toInt64 (0 : Int64) (3 : Int64) = some 1 := m_inT (n := 4) hN (by decide) (by decide) (by decide)
  by_cases h0 : n = 0
  · subst h0
    exact ⟨_, _, _, _, _, by unfold fX5_aunt; rw [if_neg w0, if_pos w1]; rfl, by unfold fX6_aunt; rw [hin]; rfl, 0, c, E, K, S, hP, hC, hKp, hRo, hTe, rfl, rfl, rfl, rfl, hfc⟩
  have hn0 : ¬ (Int32.ofNat n = 0) := by rw [p_e0 (by omega)]; exact h0
  have hpl : inP s ≤ 6 := pop_le _
  have hbl := bandV_le (n := n) (c := c) (E := E) (K := K) (S := S) N s
  have q5 : fX5_aunt F (Int32.ofNat n) (Int32.ofNat c) peff pkin psee (enc s) (Int32.ofNat N) = some (Int32.ofNat (inP s - bandV n c E K S N s)) := by
    unfold fX5_aunt
    rw [if_neg w0, if_pos w1, if_neg hn0, c_many_in F hs.hb, bd1_mk, c_band F hpc hF N 8 s (by omega) (by omega) hs, bd1_mk, show pop (fun i => (s i).isSome) = inP s from rfl, p_sub hbl]
  by_cases hN0 : N = 0
  · subst hN0
    refine ⟨0, maside, msteps, mtried, mbest, q5.trans ?_, by unfold fX6_aunt; rw [hin, bd1_mk, if_neg (by decide), if_neg hn0]; rfl, n, c, E, K, S, hP, hC, hKp, hRo, hTe, rfl, rfl, rfl, rfl, hfc⟩
    rw [show bandV n c E K S 0 s = inP s from rfl, Nat.sub_self]
    rfl
  have hN0' : ¬ (Int32.ofNat N = 0) := by rw [p_e0 (by omega)]; exact hN0
  have hsp : RM (fun q => if 0 ≤ q ∧ q < 0 + 7 then mnow (0 + (q - 0)) else msteps q) (7 * 0) s n := rm_congr hm fun i hi => by
    show (if 0 ≤ 7 * 0 + i ∧ 7 * 0 + i < 0 + 7 then mnow (0 + (7 * 0 + i - 0)) else msteps (7 * 0 + i)) = mnow (0 + i)
    rw [if_pos (by omega), show 7 * 0 + i - 0 = i by omega]
  obtain ⟨cost, a', sp', tr', be', h1, h2, h3, -, -, -⟩ := node_all F hpm hs hm (show 0 < N by omega) (by omega) hF (2 * N - 1) 0 s maside (fun q => if 0 ≤ q ∧ q < 0 + 7 then mnow (0 + (q - 0)) else msteps q) (upd mtried 0 (-1)) (upd mbest 0 (ini 0)) (by omega) hs (fun i hi => hi) hsp (by rw [upd_at, if_pos rfl]) (by rw [upd_at, if_pos rfl])
  have hcb := Cb_le (2 * N - 1 + 1) (by omega)
  obtain ⟨f, hf⟩ : ∃ f, F = f + 1 + cost := ⟨F - 1 - cost, by omega⟩
  have hl := h2 (f + 1)
  unfold EXT at hl
  rw [if_pos rfl] at hl
  unfold LA at hl
  rw [fX6_aunt_l52, fX6_aunt_l52_b, if_pos (by decide), show (0 : Int32).toNatClampNeg = 0 from rfl, h3] at hl
  have hg : gV n c E K S (2 * N - 1 + 1) s = bandV n c E K S N s := by
    unfold gV
    rw [if_pos (by omega), show (2 * N - 1 + 1) / 2 = N by omega]
  rw [hg, ← hf] at hl
  refine ⟨_, a', sp', tr', be', q5, ?_, n, c, E, K, S, hP, hC, hKp, hRo, hTe, rfl, rfl, rfl, rfl, hfc⟩
  unfold fX6_aunt
  rw [hin, bd1_mk, if_neg (by decide), if_neg hn0, if_neg hN0', show (0 : Int32) = Int32.ofNat 0 from rfl, show (7 : Int32) = Int32.ofNat 7 from rfl, m_copies F 7 49 _ _ (a := 0) (b := 0) (k := 7) (by omega) (by omega) (by omega) (by omega) hF, bd1_mk, m_begins F _ _ (show 0 < 7 by decide), bd2_mk]
  exact hl
