theorem pc_of {n c : Nat} {E : Nat → Int} {K : Nat → Nat} {S : Nat → Nat → Bool} {psize pclause : Int32} {peff pkin psig psee : Nat → Int32} {mguests mclause : Int32} {mdoes mkinds msees : Nat → Int32} (h : RPar n c E K S psize pclause peff pkin psig psee mguests mclause mdoes mkinds msees) : PC n c E K S psize pclause peff pkin psee := by
  obtain ⟨hn, e1, e2, hc, e3, e4, hE, hK, hS, hSn⟩ := h
  exact ⟨hn, e1, hc, e3, fun i hi => ⟨(hE i hi).1, (hE i hi).2.1, (hE i hi).2.2.1⟩, fun i hi => ⟨(hK i hi).1, (hK i hi).2.1⟩, fun i hi => (hS i hi).2.2, hSn⟩
theorem pm_of {n c : Nat} {E : Nat → Int} {K : Nat → Nat} {S : Nat → Nat → Bool} {psize pclause : Int32} {peff pkin psig psee : Nat → Int32} {mguests mclause : Int32} {mdoes mkinds msees : Nat → Int32} (h : RPar n c E K S psize pclause peff pkin psig psee mguests mclause mdoes mkinds msees) : PM n c E K S mguests mclause mdoes mkinds msees := by
  obtain ⟨hn, e1, e2, hc, e3, e4, hE, hK, hS, hSn⟩ := h
  exact ⟨hn, e2, hc, e4, fun i hi => ⟨(hE i hi).1, (hE i hi).2.1, (hE i hi).2.2.2⟩, fun i hi => ⟨(hK i hi).1, (hK i hi).2.2⟩, fun i hi => (hS i hi).2.1, hSn⟩
theorem rm_g {t : Nat → Int32} {s : Nat → Option Nat} {n : Nat} (h : RM t 0 s n) {i : Nat} (hi : i < 6) : t i = Int32.ofNat (gv s i) := by
  have := h.1 i hi
  rwa [Nat.zero_add] at this
theorem rm_6 {t : Nat → Int32} {s : Nat → Option Nat} {n : Nat} (h : RM t 0 s n) : t 6 = st (fun i => decide (i < n) && (s i).isNone) := by
  have := h.2
  rwa [Nat.zero_add] at this
theorem rm_congr {t t' : Nat → Int32} {o o' n : Nat} {s : Nat → Option Nat} (h : RM t o s n) (he : ∀ i, i < 7 → t' (o' + i) = t (o + i)) : RM t' o' s n :=
  ⟨fun i hi => (he i (by omega)).trans (h.1 i hi), (he 6 (by omega)).trans h.2⟩
theorem rhs_congr {t t' : Nat → Int32} {o o' n : Nat} {q : Int64} (h : RHs n q t o) (he : ∀ i, i < 7 → t' (o' + i) = t (o + i)) : RHs n q t' o' := by
  obtain ⟨s, a, b, d⟩ := h
  exact ⟨s, a, b, rm_congr d he⟩
theorem p_e0 {k : Nat} (h : k < 2147483648) : (Int32.ofNat k = 0) = (k = 0) := p_eq (b := 0) h (by decide)
theorem m_copies (F n1 n2 : Nat) (f1 f2 : Nat → Int32) {a b k : Nat} (ha : a + k ≤ n1) (hb : b + k ≤ n2) (h1 : n1 < 1000000) (h2 : n2 < 1000000) (hF : 1000000 ≤ F) : fX6_copies F n1 n2 f1 f2 (Int32.ofNat a) (Int32.ofNat b) (Int32.ofNat k) = some (fun q => if b ≤ q ∧ q < b + k then f1 (a + (q - b)) else f2 q) := by
  unfold fX6_copies
  have key := loop_up (fun fu (x : Int32 × (Nat → Int32)) => fX6_copies_l3 F n1 n2 f1 (Int32.ofNat a) (Int32.ofNat b) (Int32.ofNat k) fu x.1 x.2) k (fun j => (Int32.ofNat j, fun q => if b ≤ q ∧ q < b + j then f1 (a + (q - b)) else f2 q)) (some (fun q => if b ≤ q ∧ q < b + k then f1 (a + (q - b)) else f2 q)) ?_ ?_ F (by omega)
  · have e0 : (fun q => if b ≤ q ∧ q < b + 0 then f1 (a + (q - b)) else f2 q) = f2 := by
      funext q
      rw [if_neg (by omega)]
    dsimp only at key
    rw [e0] at key
    exact key
  · intro fu j hj
    have f0 : (Int32.ofNat k ≤ Int32.ofNat j) = False := by rw [p_le (by omega) (by omega)]; exact p_nle hj
    dsimp only
    rw [fX6_copies_l3, fX6_copies_l3_b, if_neg (of_eq_false f0), p_add, p_add, if_neg (p_ix (show a + j < n1 by omega) (by omega)), if_neg (p_ix (show b + j < n2 by omega) (by omega)), p_cl (show a + j < 2147483648 by omega), p_cl (show b + j < 2147483648 by omega), p_s]
    refine congrArg (fX6_copies_l3 F n1 n2 f1 (Int32.ofNat a) (Int32.ofNat b) (Int32.ofNat k) fu (Int32.ofNat (j + 1))) ?_
    funext q
    rw [upd_at]
    by_cases h : q = b + j
    · rw [if_pos h, if_pos (by omega), show a + (q - b) = a + j by omega]
    · rw [if_neg h]
      by_cases h3 : b ≤ q ∧ q < b + j
      · rw [if_pos h3, if_pos (by omega)]
      · rw [if_neg h3, if_neg (by omega)]
  · intro fu
    dsimp only
    rw [fX6_copies_l3, fX6_copies_l3_b, if_pos (Int32.le_refl _)]
theorem m_remember (F : Nat) (mnow mbef : Nat → Int32) {d : Nat} (hd : d < 40) (hF : 1000000 ≤ F) : fX6_remember F (Int32.ofNat d) mnow mbef = some (Int32.ofNat (d + 1), fun q => if 7 * d ≤ q ∧ q < 7 * d + 7 then mnow (0 + (q - 7 * d)) else mbef q) := by
  unfold fX6_remember
  rw [show (0 : Int32) = Int32.ofNat 0 from rfl, show (7 : Int32) = Int32.ofNat 7 from rfl, p_mul, m_copies F 7 280 mnow mbef (a := 0) (b := 7 * d) (k := 7) (by omega) (by omega) (by omega) (by omega) hF, bd1_mk, p_s]
theorem c_goOn (F : Nat) (now h : Int64) (ahe : Nat → Int64) {d : Nat} (hd : d < 40) : fX0_goOn F (Int32.ofNat d) now ahe h = some (Int32.ofNat (d + 1), h, vp_updL ahe d now) := by
  have f1 : ((40 : Int32) ≤ Int32.ofNat d) = False := by
    rw [show (40 : Int32) = Int32.ofNat 40 from rfl, p_le (by omega) (by omega)]
    exact p_nle hd
  unfold fX0_goOn
  rw [if_neg (of_eq_false (p_neg (by omega))), if_neg (of_eq_false f1), if_neg (p_ix hd (by omega)), p_cl (by omega), p_s]
theorem updL_at {f : Nat → Int64} {k : Nat} {x : Int64} (j : Nat) : vp_updL f k x j = if j = k then x else f j := rfl
theorem rcou_next {n d : Nat} {s s' : Nat → Option Nat} {ahe : Nat → Int64} {mnow mbef tt : Nat → Int32} (hd : d < 40) (hs : HallOk n s) (hm : RM mnow 0 s n) (hah : ∀ k, k < d → RHs n (ahe k) mbef (7 * k)) (hs' : HallOk n s') (hm' : RM tt 0 s' n) : RCou n (Int32.ofNat (d + 1)) (enc s') (vp_updL ahe d (enc s)) (Int32.ofNat (d + 1)) tt (fun q => if 7 * d ≤ q ∧ q < 7 * d + 7 then mnow (0 + (q - 7 * d)) else mbef q) := by
  refine ⟨d + 1, by omega, rfl, rfl, ⟨s', hs', rfl, hm'⟩, fun k hk => ?_⟩
  rw [updL_at]
  by_cases h : k = d
  · subst h
    rw [if_pos rfl]
    refine ⟨s, hs, rfl, rm_congr hm fun i hi => ?_⟩
    show (if 7 * k ≤ 7 * k + i ∧ 7 * k + i < 7 * k + 7 then mnow (0 + (7 * k + i - 7 * k)) else mbef (7 * k + i)) = mnow (0 + i)
    rw [if_pos (by omega), show 7 * k + i - 7 * k = i by omega]
  · rw [if_neg h]
    refine rhs_congr (hah k (by omega)) fun i hi => ?_
    show (if 7 * d ≤ 7 * k + i ∧ 7 * k + i < 7 * d + 7 then mnow (0 + (7 * k + i - 7 * d)) else mbef (7 * k + i)) = mbef (7 * k + i)
    rw [if_neg (by omega)]
theorem mapT_some {E : Nat → Int} {K : Nat → Nat} {t : Nat} {s : Nat → Option Nat} (i : Nat) : (mapT E K t s i).isSome = (s i).isSome := by
  unfold mapT
  cases s i <;> rfl
theorem goes_some {c : Nat} {K : Nat → Nat} {S : Nat → Nat → Bool} {s : Nat → Option Nat} {i : Nat} (h : goes c K S s i = true) : (s i).isSome = true := by
  unfold goes at h
  simp only [Bool.and_eq_true] at h
  exact h.1.1.1
theorem looksS_some {c : Nat} {K : Nat → Nat} {S : Nat → Nat → Bool} {s : Nat → Option Nat} (i : Nat) : (looksS c K S s i).isSome = ((s i).isSome && !goes c K S s i) := by
  unfold looksS
  cases h : goes c K S s i
  · simp
  · simp
theorem out_set {c : Nat} {E : Nat → Int} {K : Nat → Nat} {S : Nat → Nat → Bool} {t : Nat} {s : Nat → Option Nat} : st (fun i => (s i).isSome) &&& (st (fun i => (tuneS c E K S t s i).isSome) ^^^ (-1 : Int32)) = st (goes c K S (mapT E K t s)) := by
  rw [st_andn]
  refine st_congr fun i _ => ?_
  unfold tuneS
  rw [looksS_some, mapT_some]
  cases h : goes c K S (mapT E K t s) i
  · cases (s i).isSome <;> rfl
  · have := goes_some h
    rw [mapT_some] at this
    rw [this]
    rfl
theorem tuneS_ok {n c : Nat} {E : Nat → Int} {K : Nat → Nat} {S : Nat → Nat → Bool} {t : Nat} {s : Nat → Option Nat} (h : HallOk n s) (ht : t < 4) (hE : -4 ≤ E t ∧ E t ≤ 5) (hK : ∀ i, i < n → K i ≤ 5) : HallOk n (tuneS c E K S t s) := looksS_ok (mapT_ok h ht hE hK)
theorem m_has6 (F : Nat) {t : Nat → Int32} {n : Nat} {s : Nat → Option Nat} (h : RM t 0 s n) {i : Nat} (hi : i < n) (h6 : i < 6) : fX6_has F (t (6 : Int32).toNatClampNeg) (Int32.ofNat i) = some (if (s i).isSome = true then 0 else 1) := by
  rw [show (6 : Int32).toNatClampNeg = 6 from rfl, rm_6 h, m_has F _ h6]
  cases e : s i <;> simp [hi]
theorem deed_c (F : Nat) {n d : Nat} {s : Nat → Option Nat} {mnow : Nat → Int32} (hn : n ≤ 6) (hd : d ≤ 40) (hs : HallOk n s) (hm : RM mnow 0 s n) (x : Int32) : (∃ v : Int32, v ≠ 0 ∧ fX5_deedRefusal F (Int32.ofNat n) (Int32.ofNat d) (enc s) x = some v ∧ fX6_refuses F (Int32.ofNat n) (Int32.ofNat d) mnow x = some v) ∨ ∃ i, i < n ∧ x = Int32.ofNat i ∧ (s i).isSome = true ∧ d < 40 ∧ fX5_deedRefusal F (Int32.ofNat n) (Int32.ofNat d) (enc s) x = some 0 ∧ fX6_refuses F (Int32.ofNat n) (Int32.ofNat d) mnow x = some 0 := by
  rcases guest_c F hn x with ⟨a1, a2⟩ | ⟨i, hi, rfl, a1, a2⟩
  · exact Or.inl ⟨-1, by decide, by unfold fX5_deedRefusal; rw [a1]; rfl, by unfold fX6_refuses; rw [a2]; rfl⟩
  have h6 : i < 6 := by omega
  have c1 : fX5_deedRefusal F (Int32.ofNat n) (Int32.ofNat d) (enc s) (Int32.ofNat i) = (if (if (s i).isSome = true then (1 : Int32) else 0) = 0 then some (-4) else if Int32.ofNat d < (40 : Int32) then some 0 else some (-2)) := by
    unfold fX5_deedRefusal
    rw [a1, bd1_mk, if_neg (by decide), c_isIn F hs.hb h6, bd1_mk]
  have c2 : fX6_refuses F (Int32.ofNat n) (Int32.ofNat d) mnow (Int32.ofNat i) = (if (if (s i).isSome = true then (0 : Int32) else 1) = 0 then (if Int32.ofNat d = (40 : Int32) then some (-2) else some 0) else some (-4)) := by
    unfold fX6_refuses
    rw [a2, bd1_mk, if_neg (by decide), m_has6 F hm hi h6, bd1_mk]
  cases hso : (s i).isSome with
  | false =>
    rw [hso] at c1 c2
    exact Or.inl ⟨-4, by decide, c1.trans rfl, c2.trans rfl⟩
  | true =>
    rw [hso] at c1 c2
    by_cases h40 : d = 40
    · subst h40
      exact Or.inl ⟨-2, by decide, c1.trans rfl, c2.trans rfl⟩
    · have q1 : Int32.ofNat d < (40 : Int32) := of_eq_true (by rw [show (40 : Int32) = Int32.ofNat 40 from rfl, p_lt (by omega) (by omega)]; exact eq_true (by omega))
      have q2 : ¬ (Int32.ofNat d = (40 : Int32)) := of_eq_false (by rw [show (40 : Int32) = Int32.ofNat 40 from rfl, p_eq (by omega) (by omega)]; exact eq_false h40)
      refine Or.inr ⟨i, hi, rfl, hso, by omega, ?_, ?_⟩
      · rw [c1, if_pos (show true = true from rfl), if_neg (by decide), if_pos q1]
      · rw [c2, if_pos (show true = true from rfl), if_pos rfl, if_neg q2]
theorem rm_ups {t : Nat → Int32} {n i v : Nat} {s : Nat → Option Nat} (h : RM t 0 s n) (h6 : i < 6) (hin : (s i).isSome = true) : RM (upd t i (Int32.ofNat v)) 0 (ups s i v) n := by
  refine ⟨fun j hj => ?_, ?_⟩
  · rw [Nat.zero_add, upd_at]
    by_cases e : j = i
    · rw [if_pos e]
      unfold ups gv
      simp [e]
    · rw [if_neg e, rm_g h hj]
      unfold ups gv
      simp [e]
  · rw [Nat.zero_add, upd_at, if_neg (by omega), rm_6 h]
    refine st_congr fun j _ => ?_
    unfold ups
    by_cases e : j = i
    · subst e
      cases q : s j
      · rw [q] at hin; cases hin
      · simp
    · simp [e]
theorem nmd_F (F : Nat) (x y : Int32) : fX6_named F x y = fX6_named 0 x y := rfl
theorem k20_F (F : Nat) (x : Int32) : fX6_kept20 F x = fX6_kept20 0 x := rfl
