/-- a run in which nobody goes: each one's grief by itself -/
theorem run_still {c : Nat} {E : Nat → Int} {K : Nat → Nat} {S : Nat → Nat → Bool} {tN : Nat → Nat} {s : Nat → Option Nat} : ∀ k, (∀ j, j < k → ∀ i, goes c K S (mapT E K (tN j) (runS c E K S tN s j)) i = false) → ∀ i, runS c E K S tN s k i = (s i).map (fun g => seqG (K i) E tN g k) := by
  intro k
  induction k with
  | zero =>
    intro _ i
    show s i = _
    cases s i <;> rfl
  | succ k ih =>
    intro h i
    have ih := ih (fun j hj => h j (by omega)) i
    show looksS c K S (mapT E K (tN k) (runS c E K S tN s k)) i = _
    unfold looksS
    rw [h k (by omega) i, if_neg (by decide)]
    unfold mapT
    rw [ih]
    cases s i with
    | none => rw [Option.map_none, Option.map_none, Option.map_none]
    | some g => rw [Option.map_some, Option.map_some, Option.map_some, seqG]
theorem goes_ext {n c : Nat} {K : Nat → Nat} {S : Nat → Nat → Bool} {s : Nat → Option Nat} (hs : HallIn n s) (hn : n ≤ 6) : (st (goes c K S s) = 0) = ∀ i, goes c K S s i = false := by
  rw [st_zero, any_f]
  apply propext
  constructor
  · intro h i
    by_cases hi : i < 6
    · exact h i hi
    · unfold goes
      rw [hs i (by omega)]
      rfl
  · intro h i _
    exact h i
theorem tuneS_in {n c : Nat} {E : Nat → Int} {K : Nat → Nat} {S : Nat → Nat → Bool} {t : Nat} {s : Nat → Option Nat} (hs : HallIn n s) : HallIn n (mapT E K t s) ∧ HallIn n (tuneS c E K S t s) := by
  have h1 : HallIn n (mapT E K t s) := fun i hi => by unfold mapT; rw [hs i hi]; rfl
  exact ⟨h1, fun i hi => by unfold tuneS looksS; rw [h1 i hi]; split <;> rfl⟩
theorem run_in {n c : Nat} {E : Nat → Int} {K : Nat → Nat} {S : Nat → Nat → Bool} {tN : Nat → Nat} {s : Nat → Option Nat} (hs : HallIn n s) : ∀ k, HallIn n (runS c E K S tN s k)
  | 0 => hs
  | k + 1 => (tuneS_in (run_in hs k)).2
theorem need_0 {c : Nat} {E : Nat → Int} {K : Nat → Nat} {S : Nat → Nat → Bool} {tN : Nat → Nat} {m : Nat} {s : Nat → Option Nat} {i : Nat} : needI c E K S tN m s i = 0 ↔ okIce c E K S tN m s i 0 = true := by
  unfold needI
  rw [show firstN (okIce c E K S tN m s i) 8 0 = if okIce c E K S tN m s i 0 = true then 0 else firstN (okIce c E K S tN m s i) 7 1 from rfl]
  by_cases h : okIce c E K S tN m s i 0 = true
  · rw [if_pos h]; exact ⟨fun _ => h, fun _ => rfl⟩
  · rw [if_neg h]
    constructor
    · intro q
      have key : ∀ f k, 1 ≤ k → 1 ≤ firstN (okIce c E K S tN m s i) f k := by
        intro f
        induction f with
        | zero => intro k hk; exact hk
        | succ f ih =>
          intro k hk
          rw [firstN]
          split
          · exact hk
          · exact ih (k + 1) (by omega)
      have := key 7 1 (by omega)
      omega
    · intro q; exact absurd q h
theorem allB_iff {p : Nat → Bool} : ∀ q, (allB p q = true ↔ ∀ j, j < q → p j = true)
  | 0 => ⟨fun _ j hj => absurd hj (Nat.not_lt_zero j), fun _ => rfl⟩
  | q + 1 => by
    rw [allB, Bool.and_eq_true, allB_iff q]
    constructor
    · rintro ⟨h1, h2⟩ j hj
      by_cases e : j = q
      · subst e; exact h2
      · exact h1 j (by omega)
    · intro h
      exact ⟨fun j hj => h j (by omega), h q (by omega)⟩
/-- no ices are needed just if nobody falls -/
theorem ices_falls {n c m : Nat} {E : Nat → Int} {K : Nat → Nat} {S : Nat → Nat → Bool} {tN : Nat → Nat} {s : Nat → Option Nat} (hs : HallIn n s) (hn : n ≤ 6) : (∀ j, j < m → st (goes c K S (mapT E K (tN j) (runS c E K S tN s j))) = 0) ↔ ∀ i, i < n → needI c E K S tN m s i = 0 := by
  have hst : ∀ j, (st (goes c K S (mapT E K (tN j) (runS c E K S tN s j))) = 0) = ∀ i, goes c K S (mapT E K (tN j) (runS c E K S tN s j)) i = false := fun j => goes_ext (tuneS_in (c := c) (S := S) (run_in hs j)).1 hn
  -- who goes at step k, if nobody went before
  have at_k : ∀ k, (∀ j, j < k → ∀ i, goes c K S (mapT E K (tN j) (runS c E K S tN s j)) i = false) → ∀ i, goes c K S (mapT E K (tN k) (runS c E K S tN s k)) i = (canF K S s i && decide (c < seqG (K i) E tN (gv s i) (k + 1))) := by
    intro k hk i
    have hr := run_still k hk
    have hsome : ∀ j, (mapT E K (tN k) (runS c E K S tN s k) j).isSome = (s j).isSome := fun j => by
      rw [mapT_some, hr j]
      cases s j <;> rfl
    unfold goes canF
    rw [hsome i, any_congr (fun j _ => by rw [hsome j])]
    cases h : s i with
    | none => rfl
    | some g =>
      have e : gv (mapT E K (tN k) (runS c E K S tN s k)) i = seqG (K i) E tN (gv s i) (k + 1) := by
        unfold gv mapT
        rw [hr i, h]
        rfl
      rw [e]
      simp only [Option.isSome_some, Bool.true_and]
      cases decide (c < seqG (K i) E tN (gv s i) (k + 1)) <;> simp
  have ok0 : ∀ i, okIce c E K S tN m s i 0 = true ↔ (canF K S s i = true → ∀ j, j < m → seqG (K i) E tN (gv s i) (j + 1) ≤ c) := by
    intro i
    unfold okIce
    rw [Bool.or_eq_true, allB_iff, show gv s i - 3 * 0 = gv s i by omega]
    constructor
    · rintro (h | h) h2 j hj
      · rw [h2] at h; cases h
      · exact of_decide_eq_true (h j hj)
    · intro h
      cases h2 : canF K S s i
      · exact Or.inl rfl
      · exact Or.inr fun j hj => decide_eq_true (h h2 j hj)
  constructor
  · intro h i hi
    rw [need_0, ok0]
    intro hc j hj
    have hg := at_k j (fun j' hj' => by have := h j' (by omega); rw [hst] at this; exact this) i
    have h2 := h j hj
    rw [hst] at h2
    rw [h2 i, hc, Bool.true_and] at hg
    have := of_decide_eq_false hg.symm
    omega
  · intro h
    have key : ∀ k, k ≤ m → ∀ j, j < k → ∀ i, goes c K S (mapT E K (tN j) (runS c E K S tN s j)) i = false := by
      intro k
      induction k with
      | zero => intro _ j hj; exact absurd hj (Nat.not_lt_zero j)
      | succ k ih =>
        intro hk j hj i
        by_cases e : j = k
        · subst e
          rw [at_k j (ih (by omega)) i]
          cases hc : canF K S s i with
          | false => rfl
          | true =>
            have hi : i < n := by
              by_cases q : i < n
              · exact q
              · unfold canF at hc
                rw [hs i (by omega)] at hc
                cases hc
            have := (ok0 i).mp (need_0.mp (h i hi)) hc j (by omega)
            rw [Bool.true_and]
            exact decide_eq_false (by omega)
        · exact ih (by omega) j (by omega) i
    intro j hj
    rw [hst]
    exact key m (Nat.le_refl m) j hj
theorem sumN_0 {f : Nat → Nat} {k : Nat} (h : ∀ j, j < k → f j = 0) : sumN f k = 0 := sumN_zero k h
theorem sumN_ge {f : Nat → Nat} : ∀ k j, j < k → f j ≤ sumN f k
  | 0, j, h => absurd h (Nat.not_lt_zero j)
  | k + 1, j, h => by
    rw [sumN]
    by_cases e : j = k
    · subst e; omega
    · have := sumN_ge (f := f) k j (by omega)
      omega
theorem l_1205 (F : Nat) (L : Nat) (xs : Nat → Int32) (rs : Nat → Int32) (rm : Nat → Nat → Int32) (ts : Nat → Int32) (tm : Nat → Nat → Int32) (rdue : Int32) (rtun : Int32) (rsee : Int32) (rbeg : Int32) (peff : Nat → Int32) (pkin : Nat → Int32) (pgri : Nat → Int32) (psig : Nat → Int32) (psee : Nat → Int32) (qsize : Int32) (qclause : Int32) (qeff : Nat → Int32) (qkin : Nat → Int32) (qgri : Nat → Int32) (qsig : Nat → Int32) (qsee : Nat → Int32) (cahe : Nat → Int64) (kdee : Nat → Int32) (know : Nat → Int64) (kahe : Nat → Nat → Int64) (fc : Nat → Int32) (lf : Int32) (told : Int32) (up : Int64) (lo : Int64) (zz : Nat → Int32) (tt : Nat → Int32) {n c d m : Nat} {tN : Nat → Nat} {E : Nat → Int} {K : Nat → Nat} {S : Nat → Nat → Bool} {s s0 : Nat → Option Nat} (h : LH F L n c E K S peff pkin psig psee zz tt s0) (hk : KP n d s s0 kdee know) (hm6 : m ≤ 6) (g1 : rs 4 = Int32.ofNat m) (htN : ∀ p, p < m → tN p < 4 ∧ rm 4 p = Int32.ofNat (tN p)) : (fL_law_n1205 F L xs (Int32.ofNat n) (Int32.ofNat (2 ^ n - 1)) (Int32.ofNat (inP s)) (Int32.ofNat (sg s 6)) (Int32.ofNat d) rs rm ts tm rdue rtun rsee rbeg (Int32.ofNat n) (Int32.ofNat c) peff pkin pgri psig psee qsize qclause qeff qkin qgri qsig qsee (Int32.ofNat d) (enc s) cahe kdee know kahe fc lf told up lo zz tt) = some 1 := by
  obtain ⟨hF, hL, hG, hs0, hin0, hz0, hzE, hzK, htt⟩ := id h
  obtain ⟨k0, n0, k1, n1, k2, hd, hs⟩ := id hk
  have hn := hG.n6
  have hrun := runS_ok (c := c) (S := S) hs hG.E45 hG.K5 m (fun p hp => (htN p hp).1)
  unfold fL_law_n1205
  refine loop_up (fun fu (a : Int32 × (Nat → Int32) × Int32) => fL_law_l1208 F L xs (Int32.ofNat n) (Int32.ofNat (2 ^ n - 1)) (Int32.ofNat (inP s)) (Int32.ofNat (sg s 6)) (Int32.ofNat d) rs rm ts tm rdue rtun rsee rbeg (Int32.ofNat n) (Int32.ofNat c) peff pkin pgri psig psee qsize qclause qeff qkin qgri qsig qsee (Int32.ofNat d) (enc s) cahe kdee know kahe told up lo zz tt fu a.1 a.2.1 a.2.2) n (fun k => (Int32.ofNat k, fc, lf)) (some 1) ?_ ?_ F (by omega)
  · intro fu k hkn
    have f0 : ¬ (Int32.ofNat n ≤ Int32.ofNat k) := of_eq_false (by rw [p_le (by omega) (by omega)]; exact p_nle hkn)
    have hg := hrun.gv20 k
    dsimp only
    rw [fL_law_l1208, fL_law_l1208_b, if_neg f0, show (4 : Int32) = Int32.ofNat 4 from rfl, cx_grief F hG hs hF fc lf (r := 4) (by decide) hm6 g1 htN hkn, bd3_mk, if_neg (of_eq_false (p_neg (by omega))), if_pos (of_eq_true (by rw [show (20 : Int32) = Int32.ofNat 20 from rfl, p_le (by omega) (by omega)]; exact eq_true hg)), p_s]
  · intro fu
    dsimp only
    rw [fL_law_l1208, fL_law_l1208_b, if_pos (Int32.le_refl _)]
    exact l_1244 (h := h) (hk := hk) ..
theorem l_1144 (F : Nat) (L : Nat) (xs : Nat → Int32) (rs : Nat → Int32) (rm : Nat → Nat → Int32) (ts : Nat → Int32) (tm : Nat → Nat → Int32) (rdue : Int32) (rtun : Int32) (rsee : Int32) (rbeg : Int32) (peff : Nat → Int32) (pkin : Nat → Int32) (pgri : Nat → Int32) (psig : Nat → Int32) (psee : Nat → Int32) (qsize : Int32) (qclause : Int32) (qeff : Nat → Int32) (qkin : Nat → Int32) (qgri : Nat → Int32) (qsig : Nat → Int32) (qsee : Nat → Int32) (cahe : Nat → Int64) (kdee : Nat → Int32) (know : Nat → Int64) (kahe : Nat → Nat → Int64) (fc : Nat → Int32) (lf : Int32) (told : Int32) (up : Int64) (lo : Int64) (zz : Nat → Int32) (tt : Nat → Int32) {n c d m : Nat} {tN : Nat → Nat} {E : Nat → Int} {K : Nat → Nat} {S : Nat → Nat → Bool} {s s0 : Nat → Option Nat} (h : LH F L n c E K S peff pkin psig psee zz tt s0) (hk : KP n d s s0 kdee know) (hm6 : m ≤ 6) (g1 : rs 4 = Int32.ofNat m) (htN : ∀ p, p < m → tN p < 4 ∧ rm 4 p = Int32.ofNat (tN p)) : (fL_law_n1144 F L xs (Int32.ofNat n) (Int32.ofNat (2 ^ n - 1)) (Int32.ofNat (inP s)) (Int32.ofNat (sg s 6)) (Int32.ofNat d) rs rm ts tm rdue rtun rsee rbeg (Int32.ofNat n) (Int32.ofNat c) peff pkin pgri psig psee qsize qclause qeff qkin qgri qsig qsee (Int32.ofNat d) (enc s) cahe kdee know kahe fc lf told up lo zz tt) = some 1 := by
  obtain ⟨hF, hL, hG, hs0, hin0, hz0, hzE, hzK, htt⟩ := id h
  obtain ⟨k0, n0, k1, n1, k2, hd, hs⟩ := id hk
  have hn := hG.n6
  have key := ices_falls (n := n) (c := c) (m := m) (E := E) (K := K) (S := S) (tN := tN) hs.1 hn
  have hle : ∀ i, needI c E K S tN m s i ≤ 8 := fun i => needI_le
  unfold fL_law_n1144
  have fin : ∀ (v : Nat) (told : Int32), v ≤ 7 * n → (fL_law_n1178 F L xs (1 : Int32) (1 : Int32) (Int32.ofNat n) (Int32.ofNat (2 ^ n - 1)) (Int32.ofNat (inP s)) (Int32.ofNat (sg s 6)) (Int32.ofNat d) (Int32.ofNat v) rs rm ts tm rdue rtun rsee rbeg (Int32.ofNat n) (Int32.ofNat c) peff pkin pgri psig psee qsize qclause qeff qkin qgri qsig qsee (Int32.ofNat d) (enc s) cahe kdee know kahe fc lf told up lo zz tt) = some 1 ∧ (fL_law_n1178 F L xs (0 : Int32) (0 : Int32) (Int32.ofNat n) (Int32.ofNat (2 ^ n - 1)) (Int32.ofNat (inP s)) (Int32.ofNat (sg s 6)) (Int32.ofNat d) (Int32.ofNat v) rs rm ts tm rdue rtun rsee rbeg (Int32.ofNat n) (Int32.ofNat c) peff pkin pgri psig psee qsize qclause qeff qkin qgri qsig qsee (Int32.ofNat d) (enc s) cahe kdee know kahe fc lf told up lo zz tt) = some 1 := by
    intro v told hv
    have e : (fL_law_n1193 F L xs (Int32.ofNat n) (Int32.ofNat (2 ^ n - 1)) (Int32.ofNat (inP s)) (Int32.ofNat (sg s 6)) (Int32.ofNat d) (Int32.ofNat v) rs rm ts tm rdue rtun rsee rbeg (Int32.ofNat n) (Int32.ofNat c) peff pkin pgri psig psee qsize qclause qeff qkin qgri qsig qsee (Int32.ofNat d) (enc s) cahe kdee know kahe fc lf told up lo zz tt) = some 1 := by
      unfold fL_law_n1193
      rw [show (7 : Int32) * Int32.ofNat n = Int32.ofNat (7 * n) from p_mul 7 n, if_pos (of_eq_true (by rw [p_le (by omega) (by omega)]; exact eq_true hv))]
      exact l_1205 (h := h) (hk := hk) (hm6 := hm6) (g1 := g1) (htN := htN) ..
    unfold fL_law_n1178
    rw [if_pos rfl, if_pos rfl, if_pos (of_eq_true (p_ge0 (by omega)))]
    exact ⟨e, e⟩
  have fin9 : ∀ (told : Int32), (fL_law_n1178 F L xs (0 : Int32) (0 : Int32) (Int32.ofNat n) (Int32.ofNat (2 ^ n - 1)) (Int32.ofNat (inP s)) (Int32.ofNat (sg s 6)) (Int32.ofNat d) (-9 : Int32) rs rm ts tm rdue rtun rsee rbeg (Int32.ofNat n) (Int32.ofNat c) peff pkin pgri psig psee qsize qclause qeff qkin qgri qsig qsee (Int32.ofNat d) (enc s) cahe kdee know kahe fc lf told up lo zz tt) = some 1 := by
    intro told
    unfold fL_law_n1178 fL_law_n1193
    rw [if_pos rfl, if_neg (by decide), if_pos rfl, show (7 : Int32) * Int32.ofNat n = Int32.ofNat (7 * n) from p_mul 7 n, if_pos (Int32.le_trans (show (-9 : Int32) ≤ 0 by decide) (of_eq_true (p_ge0 (by omega))))]
    exact l_1205 (h := h) (hk := hk) (hm6 := hm6) (g1 := g1) (htN := htN) ..
  rw [show (4 : Int32) = Int32.ofNat 4 from rfl]
  rcases cx_falls F hG hs hF fc lf (r := 4) (by decide) hm6 g1 htN told with ⟨ef, hf⟩ | ⟨p, hp, hf, -, ef⟩
  · -- nobody falls
    have h0 := key.mp hf
    have hsum := sumN_0 (f := needI c E K S tN m s) h0
    rcases cx_ices F hG hs hF fc lf (r := 4) (by decide) hm6 g1 htN with ⟨ei, -⟩ | ⟨-, j, hj, e8⟩
    · rw [ei, bd3_mk, ef, bd4_mk, hsum, if_pos (by rfl), if_neg (by decide)]
      exact (fin 0 _ (by omega)).1
    · have := h0 j hj
      omega
  · have hne : ¬ ∀ i, i < n → needI c E K S tN m s i = 0 := fun q => hf (key.mpr q p hp)
    have wp : (0 : Int32) ≤ Int32.ofNat p := of_eq_true (p_ge0 (by omega))
    rcases cx_ices F hG hs hF fc lf (r := 4) (by decide) hm6 g1 htN with ⟨ei, e8⟩ | ⟨ei, j, hj, e8⟩
    · have hs7 : sumN (needI c E K S tN m s) n ≤ n * 7 := sumN_le n fun j hj => by
        have := hle j
        have := e8 j hj
        omega
      have hs0 : sumN (needI c E K S tN m s) n ≠ 0 := fun q => hne fun i hi => by
        have := sumN_ge (f := needI c E K S tN m s) n i hi
        omega
      rw [ei, bd3_mk, ef, bd4_mk, if_neg (by rw [p_e0 (by omega)]; exact hs0), if_pos wp]
      exact (fin _ _ (by omega)).2
    · rw [ei, bd3_mk, ef, bd4_mk, if_neg (by decide), if_pos wp]
      exact fin9 _
theorem l_1073 (F : Nat) (L : Nat) (xs : Nat → Int32) (rs : Nat → Int32) (rm : Nat → Nat → Int32) (ts : Nat → Int32) (tm : Nat → Nat → Int32) (rdue : Int32) (rtun : Int32) (rsee : Int32) (rbeg : Int32) (peff : Nat → Int32) (pkin : Nat → Int32) (pgri : Nat → Int32) (psig : Nat → Int32) (psee : Nat → Int32) (qsize : Int32) (qclause : Int32) (qeff : Nat → Int32) (qkin : Nat → Int32) (qgri : Nat → Int32) (qsig : Nat → Int32) (qsee : Nat → Int32) (cahe : Nat → Int64) (kdee : Nat → Int32) (know : Nat → Int64) (kahe : Nat → Nat → Int64) (fc : Nat → Int32) (lf : Int32) (told : Int32) (up : Int64) (lo : Int64) (zz : Nat → Int32) (tt : Nat → Int32) {n c d : Nat} {E : Nat → Int} {K : Nat → Nat} {S : Nat → Nat → Bool} {s s0 : Nat → Option Nat} (h : LH F L n c E K S peff pkin psig psee zz tt s0) (hk : KP n d s s0 kdee know) : (fL_law_n1073 F L xs (Int32.ofNat n) (Int32.ofNat (2 ^ n - 1)) (Int32.ofNat (inP s)) (Int32.ofNat (sg s 6)) (Int32.ofNat d) rs rm ts tm rdue rtun rsee rbeg (Int32.ofNat n) (Int32.ofNat c) peff pkin pgri psig psee qsize qclause qeff qkin qgri qsig qsee (Int32.ofNat d) (enc s) cahe kdee know kahe fc lf told up lo zz tt) = some 1 := by
  obtain ⟨hF, hL, hG, hs0, hin0, hz0, hzE, hzK, htt⟩ := id h
  obtain ⟨k0, n0, k1, n1, k2, hd, hs⟩ := id hk
  obtain ⟨v, hv⟩ := y_cell F xs hL (k := 37) (by omega)
  obtain ⟨m, hm, em⟩ := y_part F v (m := 7) (by decide) (by decide)
  unfold fL_law_n1073
  rw [show fL_cell F L xs (37 : Int32) = some v from hv, bd1_mk, show fL_part F v (7 : Int32) = some (Int32.ofNat m) from em, bd1_mk, show (4 : Int32) = Int32.ofNat 4 from rfl, cx_row F rs rm fc lf (r := 4) (by decide) (show m ≤ 40 by omega) hF, bd5_mk, if_pos rfl]
  have hrs : upd rs 4 (Int32.ofNat m) 4 = Int32.ofNat m := rfl
  refine loop_inv (fun fu (a : Int32 × (Nat → Nat → Int32) × (Nat → Int32) × Int32 × Int32) => fL_law_l1103 F L xs (Int32.ofNat n) (Int32.ofNat (2 ^ n - 1)) (Int32.ofNat (inP s)) (Int32.ofNat (sg s 6)) (Int32.ofNat d) (Int32.ofNat m) (upd rs 4 (Int32.ofNat m)) ts tm rdue rtun rsee rbeg (Int32.ofNat n) (Int32.ofNat c) peff pkin pgri psig psee qsize qclause qeff qkin qgri qsig qsee (Int32.ofNat d) (enc s) cahe kdee know kahe up lo zz tt fu a.1 a.2.1 a.2.2.1 a.2.2.2.1 a.2.2.2.2) m (fun k a => a.1 = Int32.ofNat k ∧ ∃ tN : Nat → Nat, ∀ p, p < k → tN p < 4 ∧ a.2.1 4 p = Int32.ofNat (tN p)) (fun o => o = some 1) ?_ ?_ F (0, _, fc, lf, told) (by omega) ⟨rfl, fun _ => 0, fun p hp => absurd hp (Nat.not_lt_zero p)⟩
  · rintro fu k ⟨x19, rm, fc, lf, td⟩ hkm ⟨e1, tN, e2⟩
    dsimp only at e1 e2 ⊢
    subst e1
    have f0 : ¬ (Int32.ofNat m ≤ Int32.ofNat k) := of_eq_false (by rw [p_le (by omega) (by omega)]; exact p_nle hkm)
    obtain ⟨v, hv⟩ := y_cell F xs hL (k := 38) (by omega)
    obtain ⟨t, ht, et⟩ := y_part F (v >>> (((2 : Int32) * Int32.ofNat k) &&& 31)) (m := 4) (by decide) (by decide)
    rw [fL_law_l1103, fL_law_l1103_b, if_neg f0, show fL_cell F L xs (38 : Int32) = some v from hv, bd1_mk, show (4 : Int32) = Int32.ofNat 4 from rfl, et, bd1_mk, cx_lay F rm fc lf td _ (r := 4) (m := m) (i := k) (by decide) (by omega) hrs hkm, bd5_mk, if_pos rfl, p_s]
    refine Or.inl ⟨(Int32.ofNat (k + 1), va_up rm 4 (upd (rm 4) k (Int32.ofNat t)), fc, lf, rm 4 k), ⟨rfl, fun p => if p = k then t else tN p, fun p hp => ?_⟩, rfl⟩
    dsimp only
    rw [vaup_at, if_pos rfl, upd_at]
    by_cases e : p = k
    · rw [if_pos e, if_pos e]; exact ⟨ht, rfl⟩
    · rw [if_neg e, if_neg e]; exact e2 p (by omega)
  · rintro fu ⟨x19, rm, fc, lf, td⟩ ⟨e1, tN, e2⟩
    dsimp only at e1 e2 ⊢
    subst e1
    rw [fL_law_l1103, fL_law_l1103_b, if_pos (Int32.le_refl _)]
    exact l_1144 (h := h) (hk := hk) (hm6 := by omega) (g1 := hrs) (htN := e2) ..
/-- the programme by which fewest fall, played: what fell till then -/
theorem fall_0 {c : Nat} {E : Nat → Int} {K : Nat → Nat} {S : Nat → Nat → Bool} {tN : Nat → Nat} {s : Nat → Option Nat} {k : Nat} : (fallS c E K S tN s k = 0) = (st (goes c K S (mapT E K (tN k) (runS c E K S tN s k))) = 0) := by
  unfold fallS
  rw [st_zero, any_f]
  apply propext
  constructor
  · intro h i hi
    cases e : goes c K S (mapT E K (tN k) (runS c E K S tN s k)) i
    · rfl
    · have := pop_pos hi e
      omega
  · intro h
    unfold pop
    rw [h 0 (by decide), h 1 (by decide), h 2 (by decide), h 3 (by decide), h 4 (by decide), h 5 (by decide)]
    rfl
theorem sum_0 {f : Nat → Nat} {k : Nat} : (sumN f k = 0) = ∀ j, j < k → f j = 0 := propext ⟨fun h j hj => by have := sumN_ge (f := f) k j hj; omega, fun h => sumN_0 h⟩
theorem st_num (p : Nat → Bool) : ∃ m, m < 64 ∧ st p = Int32.ofNat m := ⟨setN p, setN_lt p, rfl⟩
theorem l_1044 (F : Nat) (L : Nat) (xs : Nat → Int32) (rs : Nat → Int32) (rm : Nat → Nat → Int32) (ts : Nat → Int32) (tm : Nat → Nat → Int32) (rdue : Int32) (rtun : Int32) (rsee : Int32) (rbeg : Int32) (peff : Nat → Int32) (pkin : Nat → Int32) (pgri : Nat → Int32) (psig : Nat → Int32) (psee : Nat → Int32) (qsize : Int32) (qclause : Int32) (qeff : Nat → Int32) (qkin : Nat → Int32) (qgri : Nat → Int32) (qsig : Nat → Int32) (qsee : Nat → Int32) (cahe : Nat → Int64) (kdee : Nat → Int32) (know : Nat → Int64) (kahe : Nat → Nat → Int64) (fc : Nat → Int32) (lf : Int32) (told : Int32) (up : Int64) (lo : Int64) (zz : Nat → Int32) (tt : Nat → Int32) {n c d d' f : Nat} {E : Nat → Int} {K : Nat → Nat} {S : Nat → Nat → Bool} {s s' s0 : Nat → Option Nat} (h : LH F L n c E K S peff pkin psig psee zz tt s0) (hk : KP n d s s0 kdee know) : (fL_law_n1044 F L xs (Int32.ofNat n) (Int32.ofNat (2 ^ n - 1)) (Int32.ofNat (inP s)) (Int32.ofNat (sg s 6)) (Int32.ofNat d) (Int32.ofNat f) (Int32.ofNat f) rs rm ts tm rdue rtun rsee rbeg (Int32.ofNat n) (Int32.ofNat c) peff pkin pgri psig psee qsize qclause qeff qkin qgri qsig qsee (Int32.ofNat d') (enc s') cahe kdee know kahe fc lf told up lo zz tt) = some 1 := by
  obtain ⟨hF, hL, hG, hs0, hin0, hz0, hzE, hzK, htt⟩ := id h
  obtain ⟨k0, n0, k1, n1, k2, hd, hs⟩ := id hk
  unfold fL_law_n1044
  rw [if_pos rfl, show (1 : Int32) = Int32.ofNat 1 from rfl, cx_on F _ _ cahe kdee know kahe fc lf (k := 1) (d := d) (by decide) (by omega) k1, bd6_mk, if_pos rfl, n1, cx_count4 F _ _ _ _ _ _ _ hs.hb hF, bd1_mk, if_pos rfl]
  exact l_1073 (h := h) (hk := hk) ..
theorem l_948 (F : Nat) (L : Nat) (xs : Nat → Int32) (rs : Nat → Int32) (rm : Nat → Nat → Int32) (ts : Nat → Int32) (tm : Nat → Nat → Int32) (rdue : Int32) (rtun : Int32) (rsee : Int32) (rbeg : Int32) (peff : Nat → Int32) (pkin : Nat → Int32) (pgri : Nat → Int32) (psig : Nat → Int32) (psee : Nat → Int32) (qsize : Int32) (qclause : Int32) (qeff : Nat → Int32) (qkin : Nat → Int32) (qgri : Nat → Int32) (qsig : Nat → Int32) (qsee : Nat → Int32) (cahe : Nat → Int64) (kdee : Nat → Int32) (know : Nat → Int64) (kahe : Nat → Nat → Int64) (fc : Nat → Int32) (lf : Int32) (told : Int32) (up : Int64) (lo : Int64) (zz : Nat → Int32) (tt : Nat → Int32) {n c d N k3 : Nat} {E : Nat → Int} {K : Nat → Nat} {S : Nat → Nat → Bool} {s s0 : Nat → Option Nat} (h : LH F L n c E K S peff pkin psig psee zz tt s0) (hk : KP n d s s0 kdee know) (hN : N ≤ 4) (g3 : rs 3 = Int32.ofNat N) (hr3 : ∀ p, p < N → rm 3 p = Int32.ofNat (dig N k3 p)) : (fL_law_n948 F L xs (Int32.ofNat n) (Int32.ofNat (2 ^ n - 1)) (Int32.ofNat (inP s)) (Int32.ofNat (sg s 6)) (Int32.ofNat d) (Int32.ofNat N) (Int32.ofNat (inP s - lv c E K S N s k3)) rs rm ts tm rdue rtun rsee rbeg (Int32.ofNat n) (Int32.ofNat c) peff pkin pgri psig psee qsize qclause qeff qkin qgri qsig qsee (Int32.ofNat d) (enc s) cahe kdee know kahe fc lf told up lo zz tt) = some 1 := by
  obtain ⟨hF, hL, hG, hs0, hin0, hz0, hzE, hzK, htt⟩ := id h
  obtain ⟨k0, n0, k1, n1, k2, hd, hs⟩ := id hk
  have hn := hG.n6
  have hpl : inP s ≤ 6 := pop_le _
  have htN : ∀ p, p < N → dig N k3 p < 4 ∧ rm 3 p = Int32.ofNat (dig N k3 p) := fun p hp => ⟨dig_lt _ _ _, hr3 p hp⟩
  have hrun : ∀ k, HallOk n (runS c E K S (dig N k3) s k) := fun k => runS_ok hs hG.E45 hG.K5 k (fun p hp => dig_lt _ _ _)
  have hpop := run_pop (c := c) (E := E) (K := K) (S := S) (tN := dig N k3) (s := s)
  have hend : inP s - lv c E K S N s k3 = sumN (fallS c E K S (dig N k3) s) N := by
    have := hpop N
    have e : pop (fun i => (runS c E K S (dig N k3) s N i).isSome) = lv c E K S N s k3 := rfl
    have e2 : pop (fun i => (s i).isSome) = inP s := rfl
    omega
  have hsum : ∀ k, sumN (fallS c E K S (dig N k3) s) k ≤ 6 := fun k => by
    have := hpop k
    have e2 : pop (fun i => (s i).isSome) = inP s := rfl
    omega
  -- the place told by falls(): the first step at which somebody goes
  have hfell : ∃ x17 : Int32, (∃ told', fX5_falls F rs rm (Int32.ofNat n) (Int32.ofNat c) peff pkin psee (enc s) fc lf told (3 : Int32) = some (x17, fc, lf, told')) ∧ ∀ k, k < N → ((Int32.ofNat k = x17) ↔ (fallS c E K S (dig N k3) s k ≠ 0 ∧ sumN (fallS c E K S (dig N k3) s) k = 0)) := by
    rcases cx_falls F hG hs hF fc lf (r := 3) (by decide) (show N ≤ 6 by omega) g3 htN told with ⟨ef, hf⟩ | ⟨p, hp, hf, hf', ef⟩
    · refine ⟨-9, ⟨0, ef⟩, fun k hkN => ⟨fun q => ?_, fun q => ?_⟩⟩
      · have := congrArg Int32.toInt q
        rw [p_ti (by omega), show ((-9 : Int32)).toInt = -9 from by decide] at this
        omega
      · exact absurd (show fallS c E K S (dig N k3) s k = 0 by rw [fall_0]; exact hf k hkN) q.1
    · refine ⟨Int32.ofNat p, ⟨_, ef⟩, fun k hkN => ?_⟩
      rw [p_eq (by omega) (by omega), sum_0]
      constructor
      · rintro rfl
        exact ⟨fun q => hf (by rw [fall_0] at q; exact q), fun j hj => by rw [fall_0]; exact hf' j hj⟩
      · rintro ⟨q1, q2⟩
        rcases Nat.lt_trichotomy k p with e | e | e
        · exact absurd (by rw [fall_0]; exact hf' k e) q1
        · exact e
        · exact absurd (by have := q2 p e; rw [fall_0] at this; exact this) hf
  obtain ⟨x17, ⟨told', ef⟩, hx17⟩ := hfell
  unfold fL_law_n948
  rw [ef, bd4_mk, hend]
  refine loop_inv (fun fu (a : Int32 × Int32 × Int32 × Int64 × (Nat → Int64) × (Nat → Int32) × Int32 × Int32) => fL_law_l961 F L xs (Int32.ofNat n) (Int32.ofNat (2 ^ n - 1)) (Int32.ofNat (inP s)) (Int32.ofNat (sg s 6)) (Int32.ofNat d) (Int32.ofNat N) (Int32.ofNat (sumN (fallS c E K S (dig N k3) s) N)) x17 rs rm ts tm rdue rtun rsee rbeg (Int32.ofNat n) (Int32.ofNat c) peff pkin pgri psig psee qsize qclause qeff qkin qgri qsig qsee kdee know kahe up lo zz tt fu a.1 a.2.1 a.2.2.1 a.2.2.2.1 a.2.2.2.2.1 a.2.2.2.2.2.1 a.2.2.2.2.2.2.1 a.2.2.2.2.2.2.2) N (fun k a => a.1 = Int32.ofNat (sumN (fallS c E K S (dig N k3) s) k) ∧ a.2.1 = Int32.ofNat k ∧ a.2.2.1 = Int32.ofNat (d + k) ∧ a.2.2.2.1 = enc (runS c E K S (dig N k3) s k)) (fun o => o = some 1) ?_ ?_ F (0, 0, Int32.ofNat d, enc s, cahe, fc, lf, told') (by omega) ⟨rfl, rfl, rfl, rfl⟩
  · rintro fu k ⟨x16, x18, de, no, ah, fc, lf, td⟩ hkN ⟨e1, e2, e3, e4⟩
    dsimp only at e1 e2 e3 e4 ⊢
    subst e1; subst e2; subst e3; subst e4
    have f0 : ¬ (Int32.ofNat N ≤ Int32.ofNat k) := of_eq_false (by rw [p_le (by omega) (by omega)]; exact p_nle hkN)
    obtain ⟨m, hm, em⟩ := st_num (goes c K S (mapT E K (dig N k3 k) (runS c E K S (dig N k3) s k)))
    have hsk := hsum k
    have hcase := hx17 k hkN
    have hf0 : (fallS c E K S (dig N k3) s k = 0) = (m = 0) := by rw [fall_0, em, p_e0 (by omega)]
    rw [fL_law_l961, fL_law_l961_b, if_neg f0, show (3 : Int32) = Int32.ofNat 3 from rfl, cx_at F rm fc lf td (r := 3) (m := N) (i := k) (by decide) (by omega) g3 hkN, bd4_mk, if_pos rfl]
    unfold fL_law_n981
    rw [asked_y, bd1_mk, hr3 k hkN, cx_tune F hG (hrun k) hF (show d + k < 40 by omega) ah (dig_lt _ _ _), bd4_mk, em, if_neg (of_eq_false (p_neg (by omega)))]
    have fin : (fL_law_n1028 F (fL_law_l961 F L xs (Int32.ofNat n) (Int32.ofNat (2 ^ n - 1)) (Int32.ofNat (inP s)) (Int32.ofNat (sg s 6)) (Int32.ofNat d) (Int32.ofNat N) (Int32.ofNat (sumN (fallS c E K S (dig N k3) s) N)) x17 rs rm ts tm rdue rtun rsee rbeg (Int32.ofNat n) (Int32.ofNat c) peff pkin pgri psig psee qsize qclause qeff qkin qgri qsig qsee kdee know kahe up lo zz tt fu) L xs (Int32.ofNat n) (Int32.ofNat (2 ^ n - 1)) (Int32.ofNat (inP s)) (Int32.ofNat (sg s 6)) (Int32.ofNat d) (Int32.ofNat N) (Int32.ofNat (sumN (fallS c E K S (dig N k3) s) N)) (Int32.ofNat (sumN (fallS c E K S (dig N k3) s) k)) x17 (Int32.ofNat k) (Int32.ofNat m) rs rm ts tm rdue rtun rsee rbeg (Int32.ofNat n) (Int32.ofNat c) peff pkin pgri psig psee qsize qclause qeff qkin qgri qsig qsee (Int32.ofNat (d + k + 1)) (enc (tuneS c E K S (dig N k3 k) (runS c E K S (dig N k3) s k))) (vp_updL ah (d + k) (enc (runS c E K S (dig N k3) s k))) kdee know kahe fc lf (Int32.ofNat (dig N k3 k)) up lo zz tt) = fL_law_l961 F L xs (Int32.ofNat n) (Int32.ofNat (2 ^ n - 1)) (Int32.ofNat (inP s)) (Int32.ofNat (sg s 6)) (Int32.ofNat d) (Int32.ofNat N) (Int32.ofNat (sumN (fallS c E K S (dig N k3) s) N)) x17 rs rm ts tm rdue rtun rsee rbeg (Int32.ofNat n) (Int32.ofNat c) peff pkin pgri psig psee qsize qclause qeff qkin qgri qsig qsee kdee know kahe up lo zz tt fu (Int32.ofNat (sumN (fallS c E K S (dig N k3) s) (k + 1))) (Int32.ofNat (k + 1)) (Int32.ofNat (d + (k + 1))) (enc (runS c E K S (dig N k3) s (k + 1))) (vp_updL ah (d + k) (enc (runS c E K S (dig N k3) s k))) fc lf (Int32.ofNat (dig N k3 k)) := by
      unfold fL_law_n1028
      rw [← em, y_many F hF, bd1_mk, p_add, p_s]
      rfl
    have next : ∀ o, o = fL_law_l961 F L xs (Int32.ofNat n) (Int32.ofNat (2 ^ n - 1)) (Int32.ofNat (inP s)) (Int32.ofNat (sg s 6)) (Int32.ofNat d) (Int32.ofNat N) (Int32.ofNat (sumN (fallS c E K S (dig N k3) s) N)) x17 rs rm ts tm rdue rtun rsee rbeg (Int32.ofNat n) (Int32.ofNat c) peff pkin pgri psig psee qsize qclause qeff qkin qgri qsig qsee kdee know kahe up lo zz tt fu (Int32.ofNat (sumN (fallS c E K S (dig N k3) s) (k + 1))) (Int32.ofNat (k + 1)) (Int32.ofNat (d + (k + 1))) (enc (runS c E K S (dig N k3) s (k + 1))) (vp_updL ah (d + k) (enc (runS c E K S (dig N k3) s k))) fc lf (Int32.ofNat (dig N k3 k)) → (∃ a' : Int32 × Int32 × Int32 × Int64 × (Nat → Int64) × (Nat → Int32) × Int32 × Int32, (a'.1 = Int32.ofNat (sumN (fallS c E K S (dig N k3) s) (k + 1)) ∧ a'.2.1 = Int32.ofNat (k + 1) ∧ a'.2.2.1 = Int32.ofNat (d + (k + 1)) ∧ a'.2.2.2.1 = enc (runS c E K S (dig N k3) s (k + 1))) ∧ o = fL_law_l961 F L xs (Int32.ofNat n) (Int32.ofNat (2 ^ n - 1)) (Int32.ofNat (inP s)) (Int32.ofNat (sg s 6)) (Int32.ofNat d) (Int32.ofNat N) (Int32.ofNat (sumN (fallS c E K S (dig N k3) s) N)) x17 rs rm ts tm rdue rtun rsee rbeg (Int32.ofNat n) (Int32.ofNat c) peff pkin pgri psig psee qsize qclause qeff qkin qgri qsig qsee kdee know kahe up lo zz tt fu a'.1 a'.2.1 a'.2.2.1 a'.2.2.2.1 a'.2.2.2.2.1 a'.2.2.2.2.2.1 a'.2.2.2.2.2.2.1 a'.2.2.2.2.2.2.2) ∨ o = some 1 := fun o e => Or.inl ⟨(_, _, _, _, _, fc, lf, _), ⟨rfl, rfl, rfl, rfl⟩, e⟩
    apply next
    unfold fL_law_n1023
    by_cases hm0 : m = 0
    · have hxk : ¬ (Int32.ofNat k = x17) := fun q => (hcase.mp q).1 (by rw [hf0]; exact hm0)
      rw [if_pos (by rw [hm0]; decide), if_neg hxk, if_pos rfl]
      exact fin
    · rw [if_neg (of_eq_false (by rw [show (0 : Int32) = Int32.ofNat 0 from rfl, p_le (by omega) (by omega)]; exact eq_false (by omega)))]
      by_cases hs0' : sumN (fallS c E K S (dig N k3) s) k = 0
      · have hxk : Int32.ofNat k = x17 := hcase.mpr ⟨by rw [Ne, hf0]; exact hm0, hs0'⟩
        rw [if_pos (by rw [hs0']; rfl), if_pos hxk, if_pos rfl]
        exact fin
      · have hxk : ¬ (Int32.ofNat k = x17) := fun q => hs0' (hcase.mp q).2
        rw [if_neg (by rw [p_e0 (by omega)]; exact hs0'), if_neg hxk, if_pos rfl]
        exact fin
  · rintro fu ⟨x16, x18, de, no, ah, fc, lf, td⟩ ⟨e1, e2, e3, e4⟩
    dsimp only at e1 e2 e3 e4 ⊢
    subst e1; subst e2; subst e3; subst e4
    rw [fL_law_l961, fL_law_l961_b, if_pos (Int32.le_refl _)]
    exact l_1044 (h := h) (hk := hk) ..
