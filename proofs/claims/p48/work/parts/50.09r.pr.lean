def firstN (ok : Nat → Bool) : Nat → Nat → Nat
  | 0, k => k
  | f + 1, k => if ok k = true then k else firstN ok f (k + 1)
theorem firstN_le {ok : Nat → Bool} : ∀ f k, firstN ok f k ≤ k + f
  | 0, k => Nat.le_refl k
  | f + 1, k => by
    rw [firstN]
    by_cases h : ok k = true
    · rw [if_pos h]; omega
    · rw [if_neg h]; have := firstN_le (ok := ok) f (k + 1); omega
theorem c_keeps (F : Nat) {n c m i g : Nat} {E : Nat → Int} {K : Nat → Nat} {tN : Nat → Nat} {eff kin row : Nat → Int32} (hc : c ≤ 9) (hi : i < 6) (hk : K i ≤ 5) (hki : kin i = Int32.ofNat (K i)) (hE : ∀ i, i < 4 → -4 ≤ E i ∧ E i ≤ 5 ∧ eff i = Int32.ofInt (E i)) (hm : m ≤ 6) (ht : ∀ p, p < m → tN p < 4 ∧ row p = Int32.ofNat (tN p)) (hg : g ≤ 20) (hF : 1000000 ≤ F) : fX2_keepsTheClause F (Int32.ofNat c) eff kin row (Int32.ofNat i) (Int32.ofNat g) (Int32.ofNat m) = some (if allB (fun j => decide (seqG (K i) E tN g (j + 1) ≤ c)) m = true then 1 else 0) := by
  unfold fX2_keepsTheClause
  have hle := seqG_le (q := m) hk (fun i hi => ⟨(hE i hi).1, (hE i hi).2.1⟩) (fun p hp => (ht p hp).1) hg
  refine loop_inv (fun fu (a : Int32 × Int32) => fX2_keepsTheClause_l6 F (Int32.ofNat c) eff kin row (Int32.ofNat i) (Int32.ofNat m) fu a.1 a.2) m (fun j a => a.1 = Int32.ofNat (seqG (K i) E tN g j) ∧ a.2 = Int32.ofNat j ∧ allB (fun j => decide (seqG (K i) E tN g (j + 1) ≤ c)) j = true) (fun o => o = some (if allB (fun j => decide (seqG (K i) E tN g (j + 1) ≤ c)) m = true then 1 else 0)) ?_ ?_ F (Int32.ofNat g, 0) (by omega) ⟨rfl, rfl, rfl⟩
  · rintro fu j ⟨x5, x6⟩ hj ⟨e1, e2, hB⟩
    dsimp only at e1 e2
    subst e1; subst e2
    have f0 : ¬ (Int32.ofNat m ≤ Int32.ofNat j) := of_eq_false (by rw [p_le (by omega) (by omega)]; exact p_nle (by omega))
    obtain ⟨t4, t5⟩ := ht j hj
    obtain ⟨E1, E2, E3⟩ := hE _ t4
    have hl2 := hle (j + 1) (by omega)
    dsimp only
    rw [fX2_keepsTheClause_l6, fX2_keepsTheClause_l6_b, if_neg f0, p_cl (show i < 2147483648 by omega), p_cl (show j < 2147483648 by omega), if_neg (gx hi (by omega)), if_neg (gx (show j < 40 by omega) (by omega)), if_neg (gx (show j < 40 by omega) (by omega)), t5, p_cl (show tN j < 2147483648 by omega), if_neg (gx t4 (by omega)), hki, E3, c_gb F hk t4 E1 E2 (hle j (by omega)), bd1_mk, p_s]
    have w : (Int32.ofNat (gb (K i) (tN j) (E (tN j)) (seqG (K i) E tN g j)) ≤ Int32.ofNat c) = (seqG (K i) E tN g (j + 1) ≤ c) := p_le (show seqG (K i) E tN g (j + 1) < 2147483648 by omega) (by omega)
    by_cases h : seqG (K i) E tN g (j + 1) ≤ c
    · rw [if_pos (by rw [w]; exact h)]
      refine Or.inl ⟨(Int32.ofNat (seqG (K i) E tN g (j + 1)), Int32.ofNat (j + 1)), ⟨rfl, rfl, ?_⟩, rfl⟩
      rw [allB, hB, Bool.true_and]
      exact decide_eq_true h
    · rw [if_neg (by rw [w]; exact h)]
      refine Or.inr ?_
      rw [allB_f (p := fun j => decide (seqG (K i) E tN g (j + 1) ≤ c)) (k := j) (decide_eq_false h) m hj]
      rfl
  · rintro fu ⟨x5, x6⟩ ⟨e1, e2, hB⟩
    dsimp only at e1 e2
    subst e1; subst e2
    dsimp only
    rw [fX2_keepsTheClause_l6, fX2_keepsTheClause_l6_b, if_pos (Int32.le_refl _), hB]
    rfl
theorem m_keeps (F : Nat) {n c m i g r : Nat} {E : Nat → Int} {K : Nat → Nat} {tN : Nat → Nat} {mguests : Int32} {mrs mr mdoes mkinds msees mnow : Nat → Int32} (fl : Bool) (hr : r < 6) (hc : c ≤ 9) (hi : i < 6) (hk : K i ≤ 5) (hki : mkinds i = Int32.ofNat (K i)) (hE : ∀ i, i < 4 → -4 ≤ E i ∧ E i ≤ 5 ∧ mdoes i = Int32.ofInt (E i)) (hm : m ≤ 6) (hz : mrs r = Int32.ofNat m) (ht : ∀ p, p < m → tN p < 4 ∧ mr (40 * r + p) = Int32.ofNat (tN p)) (hg : g ≤ 20) (hF : 1000000 ≤ F) : fX6_staysBy_l54 F mguests (Int32.ofNat c) mrs mr mdoes mkinds msees mnow (Int32.ofNat i) (Int32.ofNat r) (if fl = true then 1 else 0) F (Int32.ofNat g) (1 : Int32) (0 : Int32) = some (if (!fl || allB (fun j => decide (seqG (K i) E tN g (j + 1) ≤ c)) m) = true then 1 else 0) := by
  have hle := seqG_le (q := m) hk (fun i hi => ⟨(hE i hi).1, (hE i hi).2.1⟩) (fun p hp => (ht p hp).1) hg
  refine loop_up (fun fu (a : Int32 × Int32 × Int32) => fX6_staysBy_l54 F mguests (Int32.ofNat c) mrs mr mdoes mkinds msees mnow (Int32.ofNat i) (Int32.ofNat r) (if fl = true then 1 else 0) fu a.1 a.2.1 a.2.2) m (fun j => (Int32.ofNat (seqG (K i) E tN g j), (if (!fl || allB (fun j => decide (seqG (K i) E tN g (j + 1) ≤ c)) j) = true then 1 else 0), Int32.ofNat j)) _ ?_ ?_ F (by omega) |> Eq.trans ?_
  · rw [show (allB (fun j => decide (seqG (K i) E tN g (j + 1) ≤ c)) 0) = true from rfl, Bool.or_true]
    rfl
  · intro fu j hj
    have f0 : ¬ (Int32.ofNat m ≤ Int32.ofNat j) := of_eq_false (by rw [p_le (by omega) (by omega)]; exact p_nle (by omega))
    obtain ⟨t4, t5⟩ := ht j hj
    obtain ⟨E1, E2, E3⟩ := hE _ t4
    have hl2 := hle (j + 1) (by omega)
    dsimp only
    rw [fX6_staysBy_l54, fX6_staysBy_l54_b, p_cl (show r < 2147483648 by omega), if_neg (gx hr (by omega)), hz, if_neg f0, lin40, p_cl (show 40 * r + j < 2147483648 by omega), if_neg (gx (show 40 * r + j < 240 by omega) (by omega)), p_cl (show i < 2147483648 by omega), if_neg (gx hi (by omega)), t5, p_cl (show tN j < 2147483648 by omega), if_neg (gx t4 (by omega)), hki, E3, m_gb F hk t4 E1 E2 (hle j (by omega)), bd1_mk, p_s]
    have w : (Int32.ofNat c < Int32.ofNat (gb (K i) (tN j) (E (tN j)) (seqG (K i) E tN g j))) = (c < seqG (K i) E tN g (j + 1)) := p_lt (by omega) (show seqG (K i) E tN g (j + 1) < 2147483648 by omega)
    rw [show allB (fun j => decide (seqG (K i) E tN g (j + 1) ≤ c)) (j + 1) = (allB (fun j => decide (seqG (K i) E tN g (j + 1) ≤ c)) j && decide (seqG (K i) E tN g (j + 1) ≤ c)) from rfl]
    cases fl with
    | false =>
      rw [if_neg (show ¬ (false = true) by decide), Bool.not_false, Bool.true_or, Bool.true_or, if_pos (show true = true from rfl), if_neg (by decide), if_pos rfl]
      rfl
    | true =>
      rw [if_pos (show true = true from rfl), Bool.not_true, Bool.false_or, Bool.false_or]
      cases hB : allB (fun j => decide (seqG (K i) E tN g (j + 1) ≤ c)) j with
      | false =>
        rw [if_neg (show ¬ (false = true) by decide), if_pos rfl, Bool.false_and, if_neg (show ¬ (false = true) by decide)]
        rfl
      | true =>
        rw [if_pos (show true = true from rfl), if_neg (by decide), if_neg (by decide), Bool.true_and]
        by_cases h : seqG (K i) E tN g (j + 1) ≤ c
        · rw [if_neg (by rw [w]; omega), decide_eq_true h]; rfl
        · rw [if_pos (by rw [w]; omega), decide_eq_false h]; rfl
  · intro fu
    dsimp only
    rw [fX6_staysBy_l54, fX6_staysBy_l54_b, p_cl (show r < 2147483648 by omega), if_neg (gx hr (by omega)), hz, if_pos (Int32.le_refl _)]
theorem ice_tab : ∀ g, g < 21 → ∀ k, k < 8 → fX2_bounded 0 (Int32.ofNat g - (3 : Int32) * Int32.ofNat k) = some (Int32.ofNat (g - 3 * k)) ∧ fX6_kept20 0 (Int32.ofNat g - (3 : Int32) * Int32.ofNat k) = some (Int32.ofNat (g - 3 * k)) := by decide +kernel
def canF (K : Nat → Nat) (S : Nat → Nat → Bool) (s : Nat → Option Nat) (i : Nat) : Bool := (s i).isSome && !(K i == 5) && any6 (fun j => (s j).isSome && S j i)
def okIce (c : Nat) (E : Nat → Int) (K : Nat → Nat) (S : Nat → Nat → Bool) (tN : Nat → Nat) (m : Nat) (s : Nat → Option Nat) (i k : Nat) : Bool := !canF K S s i || allB (fun j => decide (seqG (K i) E tN (gv s i - 3 * k) (j + 1) ≤ c)) m
def needI (c : Nat) (E : Nat → Int) (K : Nat → Nat) (S : Nat → Nat → Bool) (tN : Nat → Nat) (m : Nat) (s : Nat → Option Nat) (i : Nat) : Nat := firstN (okIce c E K S tN m s i) 8 0
theorem c_need (F : Nat) {n c m r : Nat} {E : Nat → Int} {K : Nat → Nat} {S : Nat → Nat → Bool} {tN : Nat → Nat} {size : Int32} {rs eff kin see : Nat → Int32} {rm : Nat → Nat → Int32} (hp : PC n c E K S size (Int32.ofNat c) eff kin see) {s : Nat → Option Nat} (hs : HallOk n s) (hr : r < 6) (hm : m ≤ 6) (hz : rs r = Int32.ofNat m) (ht : ∀ p, p < m → tN p < 4 ∧ rm r p = Int32.ofNat (tN p)) {i : Nat} (hi : i < n) (hF : 1000000 ≤ F) : fX5_icesNeededBy F rs rm (Int32.ofNat c) eff kin see (enc s) (Int32.ofNat i) (Int32.ofNat r) = some (if needI c E K S tN m s i = 8 then -9 else Int32.ofNat (needI c E K S tN m s i)) := by
  have hp0 := hp
  obtain ⟨hn, -, hc, -, hE, hk, -, -⟩ := hp
  have h6 : i < 6 := by omega
  have hg := hs.gv20 i
  unfold fX5_icesNeededBy
  rw [c_insiders F hs.hb, bd1_mk, c_canFall F hp0 _ hi, bd1_mk]
  rw [show ((s i).isSome && !(K i == 5) && any6 (fun j => (s j).isSome && S j i)) = canF K S s i from rfl]
  cases hcf : canF K S s i with
  | false =>
    have : needI c E K S tN m s i = 0 := by
      unfold needI
      rw [firstN, if_pos (by unfold okIce; rw [hcf]; rfl)]
    rw [if_neg (show ¬ (false = true) by decide), if_pos rfl, this]
    rfl
  | true =>
    rw [if_pos (show true = true from rfl), if_neg (by decide)]
    refine loop_inv (fun fu (a : Int32) => fX5_icesNeededBy_l25 F rs rm (Int32.ofNat c) eff kin see (enc s) (Int32.ofNat i) (Int32.ofNat r) fu a) 8 (fun k a => a = Int32.ofNat k ∧ needI c E K S tN m s i = firstN (okIce c E K S tN m s i) (8 - k) k) (fun o => o = some (if needI c E K S tN m s i = 8 then -9 else Int32.ofNat (needI c E K S tN m s i))) ?_ ?_ F 0 (by omega) ⟨rfl, rfl⟩
    · rintro fu k a hk8 ⟨rfl, hN⟩
      have f0 : ¬ ((7 : Int32) < Int32.ofNat k) := of_eq_false (by rw [show (7 : Int32) = Int32.ofNat 7 from rfl, p_lt (by omega) (by omega)]; exact eq_false (by omega))
      have htab := (ice_tab (gv s i) (by omega) k hk8).1
      rw [show 8 - k = (8 - (k + 1)) + 1 by omega, firstN] at hN
      rw [fX5_icesNeededBy_l25, fX5_icesNeededBy_l25_b, if_neg f0, c_griefOf F hs.hb h6, bd1_mk, bnd_F, htab, bd1_mk, p_cl (show r < 2147483648 by omega), if_neg (gx hr (by omega)), if_neg (gx hr (by omega)), hz, c_keeps F hc h6 (hk i hi).1 (hk i hi).2 hE hm ht (by omega) hF (n := n), bd1_mk, p_s]
      have e : okIce c E K S tN m s i k = allB (fun j => decide (seqG (K i) E tN (gv s i - 3 * k) (j + 1) ≤ c)) m := by
        unfold okIce
        rw [hcf]
        rfl
      rw [e] at hN
      cases hB : allB (fun j => decide (seqG (K i) E tN (gv s i - 3 * k) (j + 1) ≤ c)) m with
      | false =>
        rw [hB, if_neg (show ¬ (false = true) by decide)] at hN
        rw [if_neg (show ¬ (false = true) by decide), if_pos rfl]
        exact Or.inl ⟨Int32.ofNat (k + 1), ⟨rfl, hN⟩, rfl⟩
      | true =>
        rw [hB, if_pos (show true = true from rfl)] at hN
        rw [if_pos (show true = true from rfl), if_neg (by decide), hN, if_neg (by omega)]
        exact Or.inr rfl
    · rintro fu a ⟨rfl, hN⟩
      rw [Nat.sub_self, firstN] at hN
      rw [fX5_icesNeededBy_l25, fX5_icesNeededBy_l25_b, if_pos (by decide), hN, if_pos rfl]
theorem m_stays (F : Nat) {n c m r : Nat} {E : Nat → Int} {K : Nat → Nat} {S : Nat → Nat → Bool} {tN : Nat → Nat} {mrs mr mdoes mkinds msees mnow : Nat → Int32} (hp : PM n c E K S (Int32.ofNat n) (Int32.ofNat c) mdoes mkinds msees) {s : Nat → Option Nat} (hs : HallOk n s) (hmm : RM mnow 0 s n) (hr : r < 6) (hm : m ≤ 6) (hz : mrs r = Int32.ofNat m) (ht : ∀ p, p < m → tN p < 4 ∧ mr (40 * r + p) = Int32.ofNat (tN p)) {i k : Nat} (hi : i < n) (hin : (s i).isSome = true) (hk8 : k < 8) (hF : 1000000 ≤ F) : fX6_staysBy F (Int32.ofNat n) (Int32.ofNat c) mrs mr mdoes mkinds msees mnow (Int32.ofNat i) (Int32.ofNat k) (Int32.ofNat r) = some (if okIce c E K S tN m s i k = true then 1 else 0) := by
  have hp0 := hp
  obtain ⟨hn, -, hc, -, hE, hk, -, -⟩ := hp
  have h6 : i < 6 := by omega
  have hg := hs.gv20 i
  have htab := (ice_tab (gv s i) (by omega) k hk8).2
  have l0 := m_keeps F (n := n) (mguests := Int32.ofNat n) (msees := msees) (mnow := mnow) false hr hc h6 (hk i hi).1 (hk i hi).2 hE hm hz ht (show gv s i - 3 * k ≤ 20 by omega) hF
  have l1 := m_keeps F (n := n) (mguests := Int32.ofNat n) (msees := msees) (mnow := mnow) true hr hc h6 (hk i hi).1 (hk i hi).2 hE hm hz ht (show gv s i - 3 * k ≤ 20 by omega) hF
  rw [if_neg (show ¬ (false = true) by decide)] at l0
  rw [if_pos (show true = true from rfl)] at l1
  have f5 : (Int32.ofNat (K i) = (5 : Int32)) = (K i = 5) := p_eq (by have := (hk i hi).1; omega) (by decide)
  unfold fX6_staysBy
  rw [p_cl (show i < 2147483648 by omega), if_neg (gx (show i < 7 by omega) (by omega)), rm_g hmm h6, k20_F, htab, bd1_mk, if_neg (gx h6 (by omega)), (hk i hi).2, m_inside F hn hs.1 (rm_6 hmm), bd1_mk, m_isSeen F hp0 _ h6 (by omega), bd1_mk]
  unfold okIce canF
  rw [hin]
  by_cases h5 : K i = 5
  · rw [if_pos (by rw [f5]; exact h5), l0, h5]
    rfl
  · rw [if_neg (by rw [f5]; exact h5)]
    have hb : (K i == 5) = false := by simp [h5]
    rw [hb]
    cases ha : any6 (fun j => (s j).isSome && S j i) with
    | false =>
      rw [if_neg (show ¬ (false = true) by decide), if_pos rfl, l0]
      rfl
    | true =>
      rw [if_pos (show true = true from rfl), if_neg (by decide), l1]
      rfl
def sumN (f : Nat → Nat) : Nat → Nat
  | 0 => 0
  | k + 1 => sumN f k + f k
theorem needI_le {c : Nat} {E : Nat → Int} {K : Nat → Nat} {S : Nat → Nat → Bool} {tN : Nat → Nat} {m : Nat} {s : Nat → Option Nat} {i : Nat} : needI c E K S tN m s i ≤ 8 := by
  have := firstN_le (ok := okIce c E K S tN m s i) 8 0
  unfold needI
  omega
