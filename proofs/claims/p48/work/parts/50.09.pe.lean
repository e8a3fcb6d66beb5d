theorem m_isSeen (F : Nat) {n c : Nat} {E : Nat → Int} {K : Nat → Nat} {S : Nat → Nat → Bool} {mguests mclause : Int32} {mdoes mkinds msees : Nat → Int32} (hp : PM n c E K S mguests mclause mdoes mkinds msees) (p : Nat → Bool) {i : Nat} (hi : i < 6) (hF : 6 < F) : fX6_isSeen F mguests msees (Int32.ofNat i) (st p) = some (if any6 (fun j => p j && S j i) = true then 1 else 0) := by
  obtain ⟨hn, rfl, -, -, -, -, hs, hS⟩ := hp
  unfold fX6_isSeen
  have key := loop_up (fun fu (a : Int32 × Int32) => fX6_isSeen_l5 F (Int32.ofNat n) msees (Int32.ofNat i) (st p) fu a.1 a.2) n (fun k => (if any6 (fun j => decide (j < k) && (p j && S j i)) = true then 1 else 0, Int32.ofNat k)) (some (if any6 (fun j => p j && S j i) = true then 1 else 0)) ?_ ?_ F (by omega)
  · exact key
  · intro fu k hkn
    show fX6_isSeen_l5_b F (Int32.ofNat n) msees (Int32.ofNat i) (st p) (fX6_isSeen_l5 F (Int32.ofNat n) msees (Int32.ofNat i) (st p) fu) (if any6 (fun j => decide (j < k) && (p j && S j i)) = true then 1 else 0) (Int32.ofNat k) = fX6_isSeen_l5 F (Int32.ofNat n) msees (Int32.ofNat i) (st p) fu (if any6 (fun j => decide (j < k + 1) && (p j && S j i)) = true then 1 else 0) (Int32.ofNat (k + 1))
    unfold fX6_isSeen_l5_b
    have h6 : k < 6 := by omega
    have f0 : (Int32.ofNat n ≤ Int32.ofNat k) = False := by rw [p_le (by omega) (by omega)]; exact p_nle hkn
    have f1 := p_neg (k := k) (by omega)
    have f2 := p_cl (k := k) (by omega)
    have f3 : (6 ≤ k) = False := p_nle h6
    simp only [f0, f1, f2, f3, or_self, ↓reduceIte, m_has F p h6, hs k hkn, m_has F (S k) hi, bd1_mk, p_s]
    have hstep : any6 (fun j => decide (j < k + 1) && (p j && S j i)) = (any6 (fun j => decide (j < k) && (p j && S j i)) || (p k && S k i)) := by
      apply Bool.eq_iff_iff.mpr
      rw [Bool.or_eq_true, any6_iff, any6_iff]
      constructor
      · rintro ⟨j, hj, h⟩
        simp only [Bool.and_eq_true, decide_eq_true_eq] at h
        by_cases e : j = k
        · subst e; right; simp [h.2.1, h.2.2]
        · left; exact ⟨j, hj, by simp [show j < k by omega, h.2.1, h.2.2]⟩
      · rintro (⟨j, hj, h⟩ | h)
        · simp only [Bool.and_eq_true, decide_eq_true_eq] at h
          exact ⟨j, hj, by simp [show j < k + 1 by omega, h.2.1, h.2.2]⟩
        · exact ⟨k, h6, by simpa using h⟩
    rw [hstep]
    cases any6 (fun j => decide (j < k) && (p j && S j i)) <;> cases p k <;> cases S k i <;> simp
  · intro fu
    show fX6_isSeen_l5_b F (Int32.ofNat n) msees (Int32.ofNat i) (st p) (fX6_isSeen_l5 F (Int32.ofNat n) msees (Int32.ofNat i) (st p) fu) (if any6 (fun j => decide (j < n) && (p j && S j i)) = true then 1 else 0) (Int32.ofNat n) = some (if any6 (fun j => p j && S j i) = true then 1 else 0)
    unfold fX6_isSeen_l5_b
    rw [if_pos (Int32.le_refl _)]
    have e : (fun j => decide (j < n) && (p j && S j i)) = (fun j => p j && S j i) := by
      funext j
      cases h : S j i with
      | false => simp
      | true => simp [(hS j i h).1]
    rw [e]
theorem upd_at {f : Nat → Int32} {k : Nat} {x : Int32} (j : Nat) : upd f k x j = if j = k then x else f j := rfl
theorem gv_looks {c : Nat} {K : Nat → Nat} {S : Nat → Nat → Bool} {s : Nat → Option Nat} (i : Nat) : gv (looksS c K S s) i = if goes c K S s i = true then 0 else gv s i := by
  show (if goes c K S s i = true then none else s i).getD 0 = _
  by_cases h : goes c K S s i = true
  · rw [if_pos h, if_pos h]; rfl
  · rw [if_neg h, if_neg h]; rfl
/-- the model's looking -/
theorem m_looks (F : Nat) {n c : Nat} {E : Nat → Int} {K : Nat → Nat} {S : Nat → Nat → Bool} {mguests mclause : Int32} {mdoes mkinds msees : Nat → Int32} (hp : PM n c E K S mguests mclause mdoes mkinds msees) {s : Nat → Option Nat} (hs : HallOk n s) (hF : 6 < F) {tt : Nat → Int32} (ht : RM tt 0 s n) : ∃ tt', fX6_looks F mguests mclause mkinds msees tt = some (st (goes c K S s), tt') ∧ RM tt' 0 (looksS c K S s) n := by
  have hp0 := hp
  obtain ⟨hn, rfl, hc, rfl, -, hk, -, -⟩ := hp
  obtain ⟨ht1, ht6⟩ := ht
  have ht1 : ∀ i, i < 6 → tt i = Int32.ofNat (gv s i) := fun i hi => by have := ht1 i hi; rwa [Nat.zero_add] at this
  have ht6 : tt 6 = st (fun i => decide (i < n) && (s i).isNone) := by rwa [Nat.zero_add] at ht6
  have hgo : ∀ i, n ≤ i → goes c K S s i = false := fun i hi => by unfold goes; rw [hs.1 i hi]; rfl
  have key := loop_up (fun fu (a : Int32 × Int32) => fX6_looks_l11 F (Int32.ofNat n) (Int32.ofNat c) mkinds msees (st (fun i => (s i).isSome)) tt fu a.1 a.2) n (fun k => (st (fun j => decide (j < k) && goes c K S s j), Int32.ofNat k)) (fX6_looks_l93 F (Int32.ofNat n) (Int32.ofNat c) mkinds msees (st (goes c K S s)) F (0 : Int32) tt) ?_ ?_ F (by omega)
  · have key2 := loop_up (fun fu (a : Int32 × (Nat → Int32)) => fX6_looks_l93 F (Int32.ofNat n) (Int32.ofNat c) mkinds msees (st (goes c K S s)) fu a.1 a.2) n (fun k => (Int32.ofNat k, fun j => if j < k ∧ goes c K S s j = true then 0 else tt j)) (some (st (goes c K S s), upd (fun j => if j < n ∧ goes c K S s j = true then 0 else tt j) 6 (tt 6 ||| st (goes c K S s)))) ?_ ?_ F (by omega)
    · have e1 : (fun j => if j < 0 ∧ goes c K S s j = true then 0 else tt j) = tt := by
        funext j
        rw [if_neg (by omega)]
      dsimp only at key2
      rw [e1] at key2
      have e2 : st (fun j => decide (j < 0) && goes c K S s j) = (0 : Int32) := by
        rw [st_none]
        exact st_congr (fun j _ => by simp)
      dsimp only at key
      rw [e2] at key
      refine ⟨upd (fun j => if j < n ∧ goes c K S s j = true then 0 else tt j) 6 (tt 6 ||| st (goes c K S s)), ?_, ?_, ?_⟩
      · unfold fX6_looks
        rw [m_inside F hn hs.1 ht6, bd1_mk]
        exact key.trans key2
      · intro i hi
        rw [Nat.zero_add, upd_at, if_neg (by omega)]
        rw [gv_looks]
        by_cases hg : goes c K S s i = true
        · have hin : i < n := Nat.lt_of_not_le fun q => by rw [hgo i q] at hg; cases hg
          rw [if_pos ⟨hin, hg⟩, if_pos hg]
          rfl
        · rw [if_neg (fun q => hg q.2), ht1 i hi, if_neg hg]
      · rw [Nat.zero_add, upd_at, if_pos rfl, ht6, st_or]
        refine st_congr fun i hi => ?_
        unfold looksS
        by_cases hg : goes c K S s i = true
        · have hin : i < n := Nat.lt_of_not_le fun q => by rw [hgo i q] at hg; cases hg
          simp [hg, hin]
        · simp [hg]
    · intro fu k hkn
      show fX6_looks_l93_b F (Int32.ofNat n) (Int32.ofNat c) mkinds msees (st (goes c K S s)) (fX6_looks_l93 F (Int32.ofNat n) (Int32.ofNat c) mkinds msees (st (goes c K S s)) fu) (Int32.ofNat k) (fun j => if j < k ∧ goes c K S s j = true then 0 else tt j) = fX6_looks_l93 F (Int32.ofNat n) (Int32.ofNat c) mkinds msees (st (goes c K S s)) fu (Int32.ofNat (k + 1)) (fun j => if j < k + 1 ∧ goes c K S s j = true then 0 else tt j)
      unfold fX6_looks_l93_b
      have h6 : k < 6 := by omega
      have f0 : (Int32.ofNat n ≤ Int32.ofNat k) = False := by rw [p_le (by omega) (by omega)]; exact p_nle hkn
      have f1 := p_neg (k := k) (by omega)
      have f2 := p_cl (k := k) (by omega)
      have f3 : (7 ≤ k) = False := p_nle (by omega)
      simp only [f0, f1, f2, f3, or_self, ↓reduceIte, m_has F _ h6, bd1_mk, p_s]
      cases hg : goes c K S s k with
      | false =>
        have e : upd (fun j => if j < k ∧ goes c K S s j = true then 0 else tt j) k (tt k) = (fun j => if j < k + 1 ∧ goes c K S s j = true then 0 else tt j) := by
          funext j
          rw [upd_at]
          by_cases h1 : j = k
          · subst h1
            rw [if_pos rfl, if_neg (by rw [hg]; simp)]
          · rw [if_neg h1]
            by_cases h2 : j < k ∧ goes c K S s j = true
            · rw [if_pos h2, if_pos ⟨by omega, h2.2⟩]
            · rw [if_neg h2, if_neg (fun q => h2 ⟨by omega, q.2⟩)]
        simp [e]
      | true =>
        have e : upd (fun j => if j < k ∧ goes c K S s j = true then 0 else tt j) k 0 = (fun j => if j < k + 1 ∧ goes c K S s j = true then 0 else tt j) := by
          funext j
          rw [upd_at]
          by_cases h1 : j = k
          · subst h1
            rw [if_pos rfl, if_pos ⟨by omega, hg⟩]
          · rw [if_neg h1]
            by_cases h2 : j < k ∧ goes c K S s j = true
            · rw [if_pos h2, if_pos ⟨by omega, h2.2⟩]
            · rw [if_neg h2, if_neg (fun q => h2 ⟨by omega, q.2⟩)]
        simp [e]
    · intro fu
      show fX6_looks_l93_b F (Int32.ofNat n) (Int32.ofNat c) mkinds msees (st (goes c K S s)) (fX6_looks_l93 F (Int32.ofNat n) (Int32.ofNat c) mkinds msees (st (goes c K S s)) fu) (Int32.ofNat n) (fun j => if j < n ∧ goes c K S s j = true then 0 else tt j) = _
      unfold fX6_looks_l93_b
      rw [if_pos (Int32.le_refl _), show (6 : Int32).toNatClampNeg = 6 from rfl]
      dsimp only
      rw [if_neg (show ¬ (6 < n ∧ goes c K S s 6 = true) by omega)]
  · intro fu k hkn
    show fX6_looks_l11_b F (Int32.ofNat n) (Int32.ofNat c) mkinds msees (st (fun i => (s i).isSome)) tt (fX6_looks_l11 F (Int32.ofNat n) (Int32.ofNat c) mkinds msees (st (fun i => (s i).isSome)) tt fu) (st (fun j => decide (j < k) && goes c K S s j)) (Int32.ofNat k) = fX6_looks_l11 F (Int32.ofNat n) (Int32.ofNat c) mkinds msees (st (fun i => (s i).isSome)) tt fu (st (fun j => decide (j < k + 1) && goes c K S s j)) (Int32.ofNat (k + 1))
    unfold fX6_looks_l11_b fX6_looks_n66
    have h6 : k < 6 := by omega
    have f0 : (Int32.ofNat n ≤ Int32.ofNat k) = False := by rw [p_le (by omega) (by omega)]; exact p_nle hkn
    have f1 := p_neg (k := k) (by omega)
    have f2 := p_cl (k := k) (by omega)
    have f3 : (6 ≤ k) = False := p_nle h6
    have f7 : (7 ≤ k) = False := p_nle (by omega)
    have f5 : (Int32.ofNat (K k) = (5 : Int32)) = (K k = 5) := p_eq (by have := (hk k hkn).1; omega) (by decide)
    have hg20 := hs.gv20 k
    have o0 : st (fun j => decide (j < k) && goes c K S s j) ||| (0 : Int32) = st (fun j => decide (j < k) && goes c K S s j) := by
      rw [st_none, st_or]
      exact st_congr (fun j _ => by simp)
    have o1 : st (fun j => decide (j < k) && goes c K S s j) ||| ((1 : Int32) <<< (Int32.ofNat k &&& 31)) = st (fun j => decide (j < k) && goes c K S s j || (j == k)) := by
      rw [st_one h6, st_or]
    simp only [f0, f1, f2, f3, f5, f7, or_self, ↓reduceIte, m_has F _ h6, ht1 k h6, (hk k hkn).2, p_le (a := gv s k) (b := c) (by omega) (by omega), m_isSeen F hp0 _ h6 hF, bd1_mk, p_s, o0, o1]
    have n0 : goes c K S s k = false → st (fun j => decide (j < k) && goes c K S s j) = st (fun j => decide (j < k + 1) && goes c K S s j) := fun hg => st_congr (fun j _ => by
      by_cases e : j = k
      · subst e; simp [hg]
      · rw [show decide (j < k) = decide (j < k + 1) by simp only [decide_eq_decide]; omega])
    have n1 : goes c K S s k = true → st (fun j => decide (j < k) && goes c K S s j || (j == k)) = st (fun j => decide (j < k + 1) && goes c K S s j) := fun hg => st_congr (fun j _ => by
      by_cases e : j = k
      · subst e; simp [hg]
      · rw [show decide (j < k) = decide (j < k + 1) by simp only [decide_eq_decide]; omega]
        simp [e])
    cases hso : (s k).isSome with
    | false =>
      have hg : goes c K S s k = false := by unfold goes; rw [hso]; rfl
      rw [n0 hg]
      simp
    | true =>
      by_cases hcl : gv s k ≤ c
      · have hg : goes c K S s k = false := by unfold goes; simp [show ¬ c < gv s k by omega]
        rw [n0 hg]
        simp [hcl]
      · by_cases hk5 : K k = 5
        · have hg : goes c K S s k = false := by unfold goes; simp [hk5]
          rw [n0 hg]
          simp [hcl, hk5]
        · cases ha : any6 (fun j => (s j).isSome && S j k) with
          | false =>
            have hg : goes c K S s k = false := by unfold goes; rw [ha]; simp
            rw [n0 hg]
            simp [hcl, hk5]
          | true =>
            have hg : goes c K S s k = true := by unfold goes; rw [ha, hso]; simp [hk5, show c < gv s k by omega]
            rw [n1 hg]
            simp [hcl, hk5]
  · intro fu
    show fX6_looks_l11_b F (Int32.ofNat n) (Int32.ofNat c) mkinds msees (st (fun i => (s i).isSome)) tt (fX6_looks_l11 F (Int32.ofNat n) (Int32.ofNat c) mkinds msees (st (fun i => (s i).isSome)) tt fu) (st (fun j => decide (j < n) && goes c K S s j)) (Int32.ofNat n) = _
    unfold fX6_looks_l11_b
    rw [if_pos (Int32.le_refl _)]
    have e : st (fun j => decide (j < n) && goes c K S s j) = st (goes c K S s) := st_congr (fun j _ => by
      by_cases h : j < n
      · simp [h]
      · simp [h, hgo j (by omega)])
    rw [e]
/-- the model's playing -/
theorem m_plays (F : Nat) {n c : Nat} {E : Nat → Int} {K : Nat → Nat} {S : Nat → Nat → Bool} {mguests mclause : Int32} {mdoes mkinds msees : Nat → Int32} (hp : PM n c E K S mguests mclause mdoes mkinds msees) {s : Nat → Option Nat} (hs : HallOk n s) (hF : 6 < F) {tt : Nat → Int32} (ht : RM tt 0 s n) {t : Nat} (htn : t < 4) : ∃ tt', fX6_plays F mguests mclause mdoes mkinds msees tt (Int32.ofNat t) = some (st (goes c K S (mapT E K t s)), tt') ∧ RM tt' 0 (tuneS c E K S t s) n := by
  have hp0 := hp
  obtain ⟨hn, rfl, hc, rfl, hE, hk, -, -⟩ := hp
  obtain ⟨ht1, ht6⟩ := ht
  have ht1 : ∀ i, i < 6 → tt i = Int32.ofNat (gv s i) := fun i hi => by have := ht1 i hi; rwa [Nat.zero_add] at this
  have ht6 : tt 6 = st (fun i => decide (i < n) && (s i).isNone) := by rwa [Nat.zero_add] at ht6
  obtain ⟨hE1, hE2, hE3⟩ := hE t htn
  have hm : HallOk n (mapT E K t s) := mapT_ok hs htn ⟨hE1, hE2⟩ (fun i hi => (hk i hi).1)
  have hmg : ∀ i, gv (mapT E K t s) i = if (s i).isSome = true then gb (K i) t (E t) (gv s i) else 0 := fun i => by
    show ((s i).map (gb (K i) t (E t))).getD 0 = if (s i).isSome = true then gb (K i) t (E t) ((s i).getD 0) else 0
    cases s i <;> rfl
  have hmR : RM (fun j => if j < n then Int32.ofNat (gv (mapT E K t s) j) else tt j) 0 (mapT E K t s) n := by
    refine ⟨fun i hi => ?_, ?_⟩
    · simp only [Nat.zero_add]
      by_cases h : i < n
      · rw [if_pos h]
      · rw [if_neg h, ht1 i hi, gv_none (hs.1 i (by omega)), gv_none (hm.1 i (by omega))]
    · simp only [Nat.zero_add]
      rw [if_neg (by omega), ht6]
      refine st_congr fun i _ => ?_
      unfold mapT
      cases s i <;> rfl
  obtain ⟨tt', hl1, hl2⟩ := m_looks F hp0 hm hF hmR
  have key := loop_up (fun fu (a : Int32 × (Nat → Int32)) => fX6_plays_l2 F (Int32.ofNat n) (Int32.ofNat c) mdoes mkinds msees (Int32.ofNat t) fu a.1 a.2) n (fun k => (Int32.ofNat k, fun j => if j < k then Int32.ofNat (gv (mapT E K t s) j) else tt j)) (some (st (goes c K S (mapT E K t s)), tt')) ?_ ?_ F (by omega)
  · have e1 : (fun j => if j < 0 then Int32.ofNat (gv (mapT E K t s) j) else tt j) = tt := by
      funext j
      rw [if_neg (by omega)]
    dsimp only at key
    rw [e1] at key
    exact ⟨tt', key, hl2⟩
  · intro fu k hkn
    show fX6_plays_l2_b F (Int32.ofNat n) (Int32.ofNat c) mdoes mkinds msees (Int32.ofNat t) (fX6_plays_l2 F (Int32.ofNat n) (Int32.ofNat c) mdoes mkinds msees (Int32.ofNat t) fu) (Int32.ofNat k) (fun j => if j < k then Int32.ofNat (gv (mapT E K t s) j) else tt j) = fX6_plays_l2 F (Int32.ofNat n) (Int32.ofNat c) mdoes mkinds msees (Int32.ofNat t) fu (Int32.ofNat (k + 1)) (fun j => if j < k + 1 then Int32.ofNat (gv (mapT E K t s) j) else tt j)
    unfold fX6_plays_l2_b
    have h6 : k < 6 := by omega
    have f0 : (Int32.ofNat n ≤ Int32.ofNat k) = False := by rw [p_le (by omega) (by omega)]; exact p_nle hkn
    have f1 := p_neg (k := k) (by omega)
    have f2 := p_cl (k := k) (by omega)
    have f3 : (6 ≤ k) = False := p_nle h6
    have f7 : (7 ≤ k) = False := p_nle (by omega)
    have f4 := p_neg (k := t) (by omega)
    have f5 := p_cl (k := t) (by omega)
    have f6 : (4 ≤ t) = False := p_nle htn
    have f8 : (6 < k) = False := eq_false (by omega)
    simp only [f0, f1, f2, f3, f4, f5, f6, f7, f8, show (6 : Int32).toNatClampNeg = 6 from rfl, or_self, ↓reduceIte, ht6, m_has F _ h6, Nat.lt_irrefl, ht1 k h6, (hk k hkn).2, hE3, m_gb F (hk k hkn).1 htn hE1 hE2 (hs.gv20 k), bd1_mk, p_s]
    have e : ∀ v : Nat, v = gv (mapT E K t s) k → upd (fun j => if j < k then Int32.ofNat (gv (mapT E K t s) j) else tt j) k (Int32.ofNat v) = (fun j => if j < k + 1 then Int32.ofNat (gv (mapT E K t s) j) else tt j) := fun v hv => by
      funext j
      rw [upd_at]
      by_cases h1 : j = k
      · subst h1
        rw [if_pos rfl, if_pos (by omega), hv]
      · rw [if_neg h1]
        by_cases h2 : j < k
        · rw [if_pos h2, if_pos (by omega)]
        · rw [if_neg h2, if_neg (by omega)]
    cases hso : s k with
    | none =>
      have := e 0 (by rw [hmg k, hso]; rfl)
      rw [show Int32.ofNat 0 = (0 : Int32) from rfl] at this
      simp [hkn, this]
    | some g =>
      have := e (gb (K k) t (E t) (gv s k)) (by rw [hmg k, hso]; rfl)
      simp [this]
  · intro fu
    show fX6_plays_l2_b F (Int32.ofNat n) (Int32.ofNat c) mdoes mkinds msees (Int32.ofNat t) (fX6_plays_l2 F (Int32.ofNat n) (Int32.ofNat c) mdoes mkinds msees (Int32.ofNat t) fu) (Int32.ofNat n) (fun j => if j < n then Int32.ofNat (gv (mapT E K t s) j) else tt j) = _
    unfold fX6_plays_l2_b
    rw [if_pos (Int32.le_refl _), hl1, bd2_mk]
