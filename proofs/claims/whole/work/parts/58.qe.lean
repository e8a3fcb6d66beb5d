theorem nar_b0 : vp_nar .boolean (0 : Int32) = 0 := by decide
def inn (n : Nat) (g : Nat → Nat) : Nat → Option Nat := fun i => if i < n then some (g i) else none
theorem inn_ok {n : Nat} {g : Nat → Nat} (hg : ∀ i, i < n → g i ≤ 9) : HallOk n (inn n g) := by
  refine ⟨fun i hi => if_neg (by omega), fun i q h => ?_⟩
  unfold inn at h
  by_cases hi : i < n
  · rw [if_pos hi] at h
    have := hg i hi
    have : g i = q := Option.some.inj h
    omega
  · rw [if_neg hi] at h
    cases h
theorem arr_c (F : Nat) {n : Nat} (hn : n ≤ 6) {gri : Nat → Int32} {g : Nat → Nat} (hg : ∀ i, i < n → g i ≤ 9 ∧ gri i = Int32.ofNat (g i)) (hF : 1000000 ≤ F) : fX2_arrival F (Int32.ofNat n) gri = some (enc (inn n g)) := by
  unfold fX2_arrival
  have key := loop_up (fun fu (a : Int64 × Int32) => fX2_arrival_l4 F (Int32.ofNat n) gri fu a.1 a.2) n (fun k => (enc (inn k g), Int32.ofNat k)) (some (enc (inn n g))) ?_ ?_ F (by omega)
  · exact key
  · intro fu k hk
    have f0 : ¬ (Int32.ofNat n ≤ Int32.ofNat k) := of_eq_false (by rw [p_le (by omega) (by omega)]; exact p_nle hk)
    dsimp only
    rw [fX2_arrival_l4, fX2_arrival_l4_b, if_neg f0, p_cl (show k < 2147483648 by omega), if_neg (gx (show k < 6 by omega) (by omega)), (hg k hk).2, c_withNew F (inn_ok (fun i hi => (hg i (by omega)).1)).hb (by omega) (if_neg (Nat.lt_irrefl k)) (show g k < 32 by have := (hg k hk).1; omega), bd1_mk, p_s]
    refine congrArg (fun z => fX2_arrival_l4 F (Int32.ofNat n) gri fu z (Int32.ofNat (k + 1))) (enc_congr fun i hi => ?_)
    unfold ups inn
    by_cases e : i = k
    · subst e
      rw [if_pos rfl, if_pos (by omega)]
    · rw [if_neg e]
      by_cases h : i < k
      · rw [if_pos h, if_pos (by omega)]
      · rw [if_neg h, if_neg (by omega)]
  · intro fu
    dsimp only
    rw [fX2_arrival_l4, fX2_arrival_l4_b, if_pos (Int32.le_refl _)]
theorem kdee_c (F p6 p12 : Nat) (ts : Nat → Int32) (tm : Nat → Nat → Int32) (psize : Int32) (pgri : Nat → Int32) (rdue rtun rsee rbeg qsize qclause : Int32) (qeff qkin qgri qsig qsee : Nat → Int32) (cdee : Int32) (cnow : Int64) (fc : Nat → Int32) (lf : Int32) (kdee : Nat → Int32) (hF : 1000000 ≤ F) : fX5_party_l90 F p6 p12 ts tm psize pgri rdue rtun rsee rbeg qsize qclause qeff qkin qgri qsig qsee cdee cnow fc lf F 0 kdee = some (qsize, rdue, rtun, rsee, rbeg, qsize, qclause, qeff, qkin, qgri, qsig, qsee, cdee, cnow, fun i => if i < 3 then -1 else kdee i, fc, lf, p12, p6) := by
  have key := loop_up (fun fu (a : Int32 × (Nat → Int32)) => fX5_party_l90 F p6 p12 ts tm psize pgri rdue rtun rsee rbeg qsize qclause qeff qkin qgri qsig qsee cdee cnow fc lf fu a.1 a.2) 3 (fun k => (Int32.ofNat k, fun i => if i < k then -1 else kdee i)) (some (qsize, rdue, rtun, rsee, rbeg, qsize, qclause, qeff, qkin, qgri, qsig, qsee, cdee, cnow, fun i => if i < 3 then -1 else kdee i, fc, lf, p12, p6)) ?_ ?_ F (by omega)
  · have e0 : (fun i => if i < 0 then (-1 : Int32) else kdee i) = kdee := by
      funext i
      rw [if_neg (by omega)]
    dsimp only at key
    rw [e0] at key
    exact key
  · intro fu k hk
    have f0 : ¬ ((3 : Int32) ≤ Int32.ofNat k) := of_eq_false (by rw [show (3 : Int32) = Int32.ofNat 3 from rfl, p_le (by omega) (by omega)]; exact p_nle hk)
    dsimp only
    rw [fX5_party_l90, fX5_party_l90_b, if_neg f0, p_cl (show k < 2147483648 by omega), if_neg (gx hk (by omega)), p_s]
    refine congrArg (fX5_party_l90 F p6 p12 ts tm psize pgri rdue rtun rsee rbeg qsize qclause qeff qkin qgri qsig qsee cdee cnow fc lf fu (Int32.ofNat (k + 1))) ?_
    funext i
    rw [vaup_at]
    by_cases e : i = k
    · rw [if_pos e, if_pos (by omega)]
    · rw [if_neg e]
      by_cases h : i < k
      · rw [if_pos h, if_pos (by omega)]
      · rw [if_neg h, if_neg (by omega)]
  · intro fu
    dsimp only
    rw [fX5_party_l90, fX5_party_l90_b, if_pos (by decide)]
/-- the model lays a party: its three loops -/
theorem kept_m (F : Nat) (mts mtx : Nat → Int32) (mg mc md mf rg mi ma : Int32) (does kinds sees now mfs rd kept : Nat → Int32) (hF : 1000000 ≤ F) : fX6_party_l195 F mts mtx mg mc md mf rg mi ma does kinds sees now mfs rd F 0 kept = some (mg, mg, mc, md, mf, rg, mi, ma, does, kinds, sees, now, (fun i => if i < 3 then 0 else kept i), mfs, rd) := by
  have key := loop_up (fun fu (a : Int32 × (Nat → Int32)) => fX6_party_l195 F mts mtx mg mc md mf rg mi ma does kinds sees now mfs rd fu a.1 a.2) 3 (fun k => (Int32.ofNat k, fun i => if i < k then 0 else kept i)) (some (mg, mg, mc, md, mf, rg, mi, ma, does, kinds, sees, now, (fun i => if i < 3 then 0 else kept i), mfs, rd)) ?_ ?_ F (by omega)
  · have e0 : (fun i => if i < 0 then (0 : Int32) else kept i) = kept := by
      funext i
      rw [if_neg (by omega)]
    dsimp only at key
    rw [e0] at key
    exact key
  · intro fu k hk
    have f0 : ¬ ((3 : Int32) ≤ Int32.ofNat k) := of_eq_false (by rw [show (3 : Int32) = Int32.ofNat 3 from rfl, p_le (by omega) (by omega)]; exact p_nle hk)
    dsimp only
    rw [fX6_party_l195, fX6_party_l195_b, if_neg f0, p_cl (show k < 2147483648 by omega), if_neg (gx hk (by omega)), p_s, nar_b0]
    refine congrArg (fX6_party_l195 F mts mtx mg mc md mf rg mi ma does kinds sees now mfs rd fu (Int32.ofNat (k + 1))) ?_
    funext i
    rw [upd_at]
    by_cases e : i = k
    · rw [if_pos e, if_pos (by omega)]
    · rw [if_neg e]
      by_cases h : i < k
      · rw [if_pos h, if_pos (by omega)]
      · rw [if_neg h, if_neg (by omega)]
  · intro fu
    dsimp only
    rw [fX6_party_l195, fX6_party_l195_b, if_pos (by decide)]
/-- a table, laid up to a place from what was read -/
def laid (k n o : Nat) (rd f : Nat → Int32) : Nat → Int32 := fun i => if i < k then (if i < n then rd (o + i) else 0) else f i
theorem laid_s (k n o : Nat) (rd f : Nat → Int32) : upd (laid k n o rd f) k (if k < n then rd (o + k) else 0) = laid (k + 1) n o rd f := by
  funext i
  rw [upd_at]
  unfold laid
  by_cases e : i = k
  · subst e
    rw [if_pos rfl, if_pos (show i < i + 1 by omega)]
  · rw [if_neg e]
    by_cases h : i < k
    · rw [if_pos h, if_pos (show i < k + 1 by omega)]
    · rw [if_neg h, if_neg (show ¬ i < k + 1 by omega)]
theorem laid_0 (n o : Nat) (rd f : Nat → Int32) : laid 0 n o rd f = f := by
  funext i
  unfold laid
  rw [if_neg (by omega)]
theorem lay_m (F : Nat) (mts mtx : Nat → Int32) {n : Nat} (hn : n ≤ 6) (mc md mf rg mi ma : Int32) (does kinds sees now mfs rd kept : Nat → Int32) (hF : 1000000 ≤ F) : fX6_party_l86 F mts mtx (Int32.ofNat n) mc md mf rg mi ma does kept mfs rd F 0 kinds sees now = some (Int32.ofNat n, Int32.ofNat n, mc, 0, mf, rg, mi, ma, does, laid 6 n 5 rd kinds, laid 6 n 17 rd sees, upd (laid 6 n 11 rd now) 6 0, (fun i => if i < 3 then 0 else kept i), mfs, rd) := by
  have key := loop_up (fun fu (a : Int32 × (Nat → Int32) × (Nat → Int32) × (Nat → Int32)) => fX6_party_l86 F mts mtx (Int32.ofNat n) mc md mf rg mi ma does kept mfs rd fu a.1 a.2.1 a.2.2.1 a.2.2.2) 6 (fun k => (Int32.ofNat k, laid k n 5 rd kinds, laid k n 17 rd sees, laid k n 11 rd now)) (some (Int32.ofNat n, Int32.ofNat n, mc, 0, mf, rg, mi, ma, does, laid 6 n 5 rd kinds, laid 6 n 17 rd sees, upd (laid 6 n 11 rd now) 6 0, (fun i => if i < 3 then 0 else kept i), mfs, rd)) ?_ ?_ F (by omega)
  · dsimp only at key
    rw [laid_0, laid_0, laid_0] at key
    exact key
  · intro fu k hk
    have f0 : ¬ ((6 : Int32) ≤ Int32.ofNat k) := of_eq_false (by rw [show (6 : Int32) = Int32.ofNat 6 from rfl, p_le (by omega) (by omega)]; exact p_nle hk)
    have e5 : (5 : Int32) + Int32.ofNat k = Int32.ofNat (5 + k) := by rw [show (5 : Int32) = Int32.ofNat 5 from rfl, p_add]
    have e11 : (11 : Int32) + Int32.ofNat k = Int32.ofNat (11 + k) := by rw [show (11 : Int32) = Int32.ofNat 11 from rfl, p_add]
    have e17 : (17 : Int32) + Int32.ofNat k = Int32.ofNat (17 + k) := by rw [show (17 : Int32) = Int32.ofNat 17 from rfl, p_add]
    have wn : (Int32.ofNat n ≤ Int32.ofNat k) = (n ≤ k) := p_le (by omega) (by omega)
    have s5 := laid_s k n 5 rd kinds
    have s17 := laid_s k n 17 rd sees
    have s11 := laid_s k n 11 rd now
    dsimp only
    rw [fX6_party_l86, fX6_party_l86_b, if_neg f0]
    by_cases h : k < n
    · rw [if_pos h] at s5 s17 s11
      rw [if_neg (by rw [wn]; omega)]
      unfold fX6_party_n105
      rw [if_neg (by decide), e5, p_cl (show 5 + k < 2147483648 by omega), if_neg (gx (show 5 + k < 23 by omega) (by omega))]
      unfold fX6_party_n127
      rw [p_cl (show k < 2147483648 by omega), if_neg (gx hk (by omega)), if_neg (by decide), e11, p_cl (show 11 + k < 2147483648 by omega), if_neg (gx (show 11 + k < 23 by omega) (by omega))]
      unfold fX6_party_n150
      rw [p_cl (show k < 2147483648 by omega), if_neg (gx (show k < 7 by omega) (by omega)), if_neg (by decide), e17, p_cl (show 17 + k < 2147483648 by omega), if_neg (gx (show 17 + k < 23 by omega) (by omega)), if_neg (gx hk (by omega)), s5, s17, s11, p_s]
    · rw [if_neg h] at s5 s17 s11
      rw [if_pos (by rw [wn]; omega)]
      unfold fX6_party_n105
      rw [if_pos rfl]
      unfold fX6_party_n127
      rw [p_cl (show k < 2147483648 by omega), if_neg (gx hk (by omega)), if_pos rfl]
      unfold fX6_party_n150
      rw [p_cl (show k < 2147483648 by omega), if_neg (gx (show k < 7 by omega) (by omega)), if_pos rfl, if_neg (gx hk (by omega)), s5, s17, s11, p_s]
  · intro fu
    dsimp only
    rw [fX6_party_l86, fX6_party_l86_b, if_pos (by decide), kept_m F _ _ _ _ _ _ _ _ _ _ _ _ _ _ _ _ hF]
    rfl
theorem does_e : ∀ f : Nat, f < 10 → Int32.ofInt (((f : Int) - 4) + 4) - (4 : Int32) = Int32.ofInt ((f : Int) - 4) := by decide
theorem does_m (F : Nat) (mts mtx : Nat → Int32) (mg mc md mf rg mi ma : Int32) (kinds sees now mfs rd kept does : Nat → Int32) (hF : 1000000 ≤ F) : fX6_party_l57 F mts mtx mg mc md mf rg mi ma kinds sees now kept mfs rd F 0 does = fX6_party_l86 F mts mtx mg mc md mf rg mi ma (fun i => if i < 4 then rd (1 + i) - 4 else does i) kept mfs rd F 0 kinds sees now := by
  have key := loop_up (fun fu (a : Int32 × (Nat → Int32)) => fX6_party_l57 F mts mtx mg mc md mf rg mi ma kinds sees now kept mfs rd fu a.1 a.2) 4 (fun k => (Int32.ofNat k, fun i => if i < k then rd (1 + i) - 4 else does i)) (fX6_party_l86 F mts mtx mg mc md mf rg mi ma (fun i => if i < 4 then rd (1 + i) - 4 else does i) kept mfs rd F 0 kinds sees now) ?_ ?_ F (by omega)
  · have e0 : (fun i => if i < 0 then rd (1 + i) - (4 : Int32) else does i) = does := by
      funext i
      rw [if_neg (by omega)]
    dsimp only at key
    rw [e0] at key
    exact key
  · intro fu k hk
    have f0 : ¬ ((4 : Int32) ≤ Int32.ofNat k) := of_eq_false (by rw [show (4 : Int32) = Int32.ofNat 4 from rfl, p_le (by omega) (by omega)]; exact p_nle hk)
    have e1 : (1 : Int32) + Int32.ofNat k = Int32.ofNat (1 + k) := by rw [show (1 : Int32) = Int32.ofNat 1 from rfl, p_add]
    dsimp only
    rw [fX6_party_l57, fX6_party_l57_b, if_neg f0, e1, p_cl (show 1 + k < 2147483648 by omega), p_cl (show k < 2147483648 by omega), if_neg (gx (show 1 + k < 23 by omega) (by omega)), if_neg (gx hk (by omega)), p_s]
    refine congrArg (fX6_party_l57 F mts mtx mg mc md mf rg mi ma kinds sees now kept mfs rd fu (Int32.ofNat (k + 1))) ?_
    funext i
    rw [upd_at]
    by_cases e : i = k
    · rw [if_pos e, if_pos (by omega), e]
    · rw [if_neg e]
      by_cases h : i < k
      · rw [if_pos h, if_pos (by omega)]
      · rw [if_neg h, if_neg (by omega)]
  · intro fu
    dsimp only
    rw [fX6_party_l57, fX6_party_l57_b, if_pos (by decide)]
theorem sp_party : SP_party := by
  intro F rs rm ts tm rdue rtun rsee rbeg psize pclause peff pkin pgri psig psee qsize qclause qeff qkin qgri qsig qsee cdee cnow cahe kdee know kahe fc lf told up lo mguests mclause mdeeds masked mupper mlower mfinding mreadGuests misSight mat mrowSizes mrows mtextSizes mtexts mdoes mkinds msees mnow mbefore mkeeps mkept mfindings mread maside msteps mtried mbest x1 p6 p12 hF hR
  obtain ⟨n, c, E, K, S, hP, hC, hKp, hRo, hTe, rfl, rfl, rfl, rfl, hfc⟩ := hR
  rcases text_c F x1 with ⟨a1, a2⟩ | ⟨r, hr, rfl, a1, a2⟩
  · exact ⟨_, _, _, _, _, _, _, _, _, _, _, _, _, _, _, _, _, _, _, _, _, _, _, _, _, _, _, _, _, _, _, Or.inl ⟨by unfold fX5_party; rw [a1]; rfl, n, c, E, K, S, hP, hC, hKp, hRo, hTe, rfl, rfl, rfl, rfl, hfc⟩, by unfold fX6_party; rw [a2]; rfl⟩
  · have hcl := p_cl (show r < 2147483648 by omega)
    have hix := gx hr (by omega)
    rcases rrow_get hTe hr with ⟨g1, g2⟩ | ⟨m, hm, g1, g2, g3⟩
    · exact ⟨_, _, _, _, _, _, _, _, _, _, _, _, _, _, _, _, _, _, _, _, _, _, _, _, _, _, _, _, _, _, _, Or.inl ⟨by unfold fX5_party; rw [hcl, a1, bd1_mk, if_neg (by decide), if_neg hix, g1, if_pos rfl, c_f1, bd3_mk], n, c, E, K, S, hP, hC, hKp, hRo, hTe, rfl, rfl, rfl, rfl, fc_up hfc (by decide)⟩, by unfold fX6_party; rw [hcl, a2, bd1_mk, if_neg (by decide), if_neg hix, g2, if_neg neg1_ge, m_f1, bd3_mk]⟩
    · obtain ⟨r9, due, tun, see, beg, size, cl, eff, kin, gri, sig, sees, gs, isS, at', rd, q1, q2, hgood⟩ := reader F hr (by omega) g2 g3 hF rdue rtun rsee rbeg qsize qclause qeff qkin qgri qsig qsee mread mreadGuests misSight mat
      by_cases h9 : r9 = -9
      · obtain ⟨n', hn', rfl, rfl, c', E', K', g', S', hc', hcl', hr0, hE, hG, hS, hR', hSn⟩ := hgood h9
        subst h9
        refine ⟨_, _, _, _, _, _, _, _, _, _, _, _, _, _, _, _, _, _, _, _, _, _, _, _, _, _, _, _, _, _, _, Or.inr ⟨by unfold fX5_party; rw [hcl, a1, bd1_mk, if_neg (by decide), if_neg hix, g1, if_neg (nat_ne1 (by omega)), if_neg hix, if_neg hix, q1, bd12_mk, if_pos rfl, arr_c F hn' (fun i hi => ⟨(hG i hi).2.2.2.1, (hG i hi).2.2.2.2.1⟩) hF, bd1_mk, fX0_begin, bd2_mk, kdee_c F _ _ _ _ _ _ _ _ _ _ _ _ _ _ _ _ _ _ _ _ _ _ hF], n', c', E', K', S', ?_, ?_, ?_, hRo, hTe, rfl, rfl, rfl, rfl, hfc⟩, by unfold fX6_party; rw [hcl, a2, bd1_mk, if_neg (by decide), if_neg hix, g2, if_pos (of_eq_true (p_ge0 (by omega))), q2, bd5_mk, if_pos rfl, does_m F _ _ _ _ _ _ _ _ _ _ _ _ _ _ _ _ hF, lay_m F _ _ hn' _ _ _ _ _ _ _ _ _ _ _ _ _ hF]⟩
        · refine ⟨hn', rfl, rfl, hc', hcl', hr0, fun i hi => ?_, fun i hi => ?_, fun i hi => ?_, hSn⟩
          · obtain ⟨b1, b2, b3, b4⟩ := hE i hi
            refine ⟨b1, b2, b3, ?_⟩
            dsimp only
            rw [if_pos hi, b4]
            have := does_e (E' i + 4).toNat (by omega)
            rw [show (((E' i + 4).toNat : Nat) : Int) - 4 = E' i by omega] at this
            exact this
          · obtain ⟨b1, b2, b3, -⟩ := hG i hi
            refine ⟨b1, b2, ?_⟩
            unfold laid
            rw [if_pos (show i < 6 by omega), if_pos hi, b3]
          · obtain ⟨b1, b2⟩ := hS i (by omega)
            refine ⟨b1, ?_, b2⟩
            unfold laid
            rw [if_pos (show i < 6 by omega), if_pos hi, hR' i hi]
        · refine ⟨0, by omega, rfl, rfl, ⟨inn n' g', inn_ok (fun i hi => (hG i hi).2.2.2.1), rfl, fun i hi => ?_, ?_⟩, fun k hk => absurd hk (by omega)⟩
          · rw [upd_at, if_neg (by omega), Nat.zero_add]
            unfold laid gv inn
            rw [if_pos hi]
            by_cases h : i < n'
            · rw [if_pos h, if_pos h, (hG i h).2.2.2.2.2]
              rfl
            · rw [if_neg h, if_neg h]
              rfl
          · rw [upd_at, if_pos (by omega), st_none]
            refine st_congr fun i hi => ?_
            unfold inn
            by_cases h : i < n' <;> simp [h]
        · intro k hk
          refine Or.inl ⟨?_, ?_⟩
          · dsimp only
            rw [if_pos hk]
          · dsimp only
            rw [if_pos hk]
      · exact ⟨_, _, _, _, _, _, _, _, _, _, _, _, _, _, _, _, _, _, _, _, _, _, _, _, _, _, _, _, _, _, _, Or.inl ⟨by unfold fX5_party; rw [hcl, a1, bd1_mk, if_neg (by decide), if_neg hix, g1, if_neg (nat_ne1 (by omega)), if_neg hix, if_neg hix, q1, bd12_mk, if_neg h9], n, c, E, K, S, hP, hC, hKp, hRo, hTe, rfl, rfl, rfl, rfl, hfc⟩, by unfold fX6_party; rw [hcl, a2, bd1_mk, if_neg (by decide), if_neg hix, g2, if_pos (of_eq_true (p_ge0 (by omega))), q2, bd5_mk, if_neg h9]⟩
