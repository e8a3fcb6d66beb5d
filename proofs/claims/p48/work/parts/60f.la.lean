/-- what holds all through the law behind the text told -/
def LH (F L n c : Nat) (E : Nat → Int) (K : Nat → Nat) (S : Nat → Nat → Bool) (peff pkin psig psee zz tt : Nat → Int32) (s0 : Nat → Option Nat) : Prop := 1000000 ≤ F ∧ L ≤ 260 ∧ CS n c E K S peff pkin psig psee ∧ HallOk n s0 ∧ inP s0 = n ∧ zz 0 = Int32.ofNat n ∧ (∀ k, k < 4 → zz (2 + k) = Int32.ofInt (E k)) ∧ (∀ i, i < n → zz (6 + i) = Int32.ofNat (K i)) ∧ ∀ i, i < 6 → tt i = Int32.ofNat (gv s0 i)
/-- the kept places: 0 as it began, 1 as the deeds left it -/
def KP (n d : Nat) (s s0 : Nat → Option Nat) (kdee : Nat → Int32) (know : Nat → Int64) : Prop := kdee 0 = Int32.ofNat 0 ∧ know 0 = enc s0 ∧ kdee 1 = Int32.ofNat d ∧ know 1 = enc s ∧ kdee 2 = -1 ∧ d ≤ 19 ∧ HallOk n s
/-- who is out, of n -/
def oS (n : Nat) (s : Nat → Option Nat) : Nat → Bool := fun i => decide (i < n) && (s i).isNone
theorem asked_y (F : Nat) (x : Int32) : fX5_asked F x = some x := rfl
theorem upper_y (F : Nat) (x : Int64) : fX5_upper F x = some x := rfl
theorem lower_y (F : Nat) (x : Int64) : fX5_lower F x = some x := rfl
theorem y_outs (F : Nat) {n c : Nat} {E : Nat → Int} {K : Nat → Nat} {S : Nat → Nat → Bool} {peff pkin psig psee : Nat → Int32} (hG : CS n c E K S peff pkin psig psee) {s : Nat → Option Nat} (hs : HallOk n s) (hF : 1000000 ≤ F) (told : Int32) : ∃ told', fL_outs F (Int32.ofNat n) pkin psig psee (enc s) told (Int32.ofNat n) = some (st (oS n s), told') := by
  have hn := hG.n6
  unfold fL_outs
  refine loop_inv (fun fu (a : Int32 × Int32 × Int32) => fL_outs_l4 F (Int32.ofNat n) pkin psig psee (enc s) (Int32.ofNat n) fu a.1 a.2.1 a.2.2) n (fun k a => a.1 = st (fun i => decide (i < k) && (s i).isNone) ∧ a.2.1 = Int32.ofNat k) (fun o => ∃ told', o = some (st (oS n s), told')) ?_ ?_ F (0, 0, told) (by omega) ⟨st_none.trans (st_congr fun i _ => by simp), rfl⟩
  · rintro fu k ⟨x2, x3, td⟩ hk ⟨e1, e2⟩
    dsimp only at e1 e2 ⊢
    subst e1; subst e2
    have f0 : ¬ (Int32.ofNat n ≤ Int32.ofNat k) := of_eq_false (by rw [p_le (by omega) (by omega)]; exact p_nle hk)
    rw [fL_outs_l4, fL_outs_l4_b, if_neg f0, cx_guest2 F hG hs hF td hk, bd2_mk, if_pos rfl, asked_y, bd1_mk, p_s]
    cases h : (s k).isSome with
    | true =>
      rw [if_pos rfl, if_neg (by decide)]
      refine Or.inl ⟨(_, Int32.ofNat (k + 1), 0), ⟨?_, rfl⟩, rfl⟩
      refine st_congr fun i _ => ?_
      by_cases e : i = k
      · subst e
        cases hs : s i with
        | none => rw [hs] at h; cases h
        | some g => simp
      · rw [show decide (i < k) = decide (i < k + 1) by simp only [decide_eq_decide]; omega]
    | false =>
      rw [if_pos (by decide), st_one (by omega), st_or]
      refine Or.inl ⟨(_, Int32.ofNat (k + 1), 1), ⟨?_, rfl⟩, rfl⟩
      refine st_congr fun i _ => ?_
      by_cases e : i = k
      · subst e
        cases hs : s i with
        | none => simp
        | some g => rw [hs] at h; cases h
      · rw [show decide (i < k) = decide (i < k + 1) by simp only [decide_eq_decide]; omega]
        simp [e]
  · rintro fu ⟨x2, x3, td⟩ ⟨e1, e2⟩
    dsimp only at e1 e2 ⊢
    subst e1; subst e2
    rw [fL_outs_l4, fL_outs_l4_b, if_pos (Int32.le_refl _)]
    exact ⟨td, rfl⟩
theorem y_many (F : Nat) (hF : 1000000 ≤ F) (p : Nat → Bool) : fL_many F (st p) = some (Int32.ofNat (pop p)) := by
  unfold fL_many
  refine (loop_up (fun fu (a : Int32 × Int32) => fL_many_l4 F (st p) fu a.1 a.2) 6 (fun k => (Int32.ofNat (sumN (fun i => (p i).toNat) k), Int32.ofNat k)) (some (Int32.ofNat (sumN (fun i => (p i).toNat) 6))) ?_ ?_ F (by omega)).trans ?_
  · intro fu k hk
    have f0 : ¬ ((6 : Int32) ≤ Int32.ofNat k) := of_eq_false (by rw [show (6 : Int32) = Int32.ofNat 6 from rfl, p_le (by omega) (by omega)]; exact p_nle hk)
    dsimp only
    rw [fL_many_l4, fL_many_l4_b, if_neg f0, st_bit p hk, p_add, p_s]
    rfl
  · intro fu
    dsimp only
    rw [fL_many_l4, fL_many_l4_b, if_pos (by decide)]
  · unfold pop
    simp only [sumN, Nat.zero_add]
theorem y_sum (F : Nat) {tt : Nat → Int32} {s0 : Nat → Option Nat} (h : ∀ i, i < 6 → tt i = Int32.ofNat (gv s0 i)) : fL_sum F 7 tt = some (Int32.ofNat (sg s0 6)) := by
  unfold fL_sum
  rw [show (0 : Int32).toNatClampNeg = 0 from rfl, show (1 : Int32).toNatClampNeg = 1 from rfl, show (2 : Int32).toNatClampNeg = 2 from by decide, show (3 : Int32).toNatClampNeg = 3 from by decide, show (4 : Int32).toNatClampNeg = 4 from by decide, show (5 : Int32).toNatClampNeg = 5 from by decide, if_neg (by decide), if_neg (by decide), if_neg (by decide), if_neg (by decide), if_neg (by decide), if_neg (by decide), h 0 (by decide), h 1 (by decide), h 2 (by decide), h 3 (by decide), h 4 (by decide), h 5 (by decide), p_add, p_add, p_add, p_add, p_add]
  simp only [sg, Nat.zero_add]
theorem cx_lots_no (F : Nat) {n c : Nat} {E : Nat → Int} {K : Nat → Nat} {S : Nat → Nat → Bool} {peff pkin psig psee : Nat → Int32} (hG : CS n c E K S peff pkin psig psee) {s : Nat → Option Nat} (hs : HallOk n s) (hF : 1000000 ≤ F) {d nn seed : Nat} (cahe : Nat → Int64) (hn1 : 1 ≤ nn) (hn2 : nn ≤ 20) (hs1 : 1 ≤ seed) (hs2 : seed ≤ 2147483646) (hd : d ≤ 40) (h40 : ¬ (d + nn ≤ 40)) : fX5_lots F (Int32.ofNat n) (Int32.ofNat c) peff pkin psee (Int32.ofNat d) (enc s) cahe (Int32.ofNat nn) (Int32.ofNat seed) = some (-2, Int32.ofNat d, enc s, cahe) := by
  have h1 : ¬ (Int32.ofNat nn < (1 : Int32)) := of_eq_false (by rw [show (1 : Int32) = Int32.ofNat 1 from rfl, p_lt (by omega) (by omega)]; exact eq_false (by omega))
  have h2 : ¬ ((20 : Int32) < Int32.ofNat nn) := of_eq_false (by rw [show (20 : Int32) = Int32.ofNat 20 from rfl, p_lt (by omega) (by omega)]; exact eq_false (by omega))
  have h3 : ¬ (Int32.ofNat seed < (1 : Int32)) := of_eq_false (by rw [show (1 : Int32) = Int32.ofNat 1 from rfl, p_lt (by omega) (by omega)]; exact eq_false (by omega))
  have v64 : lg_cmp ((Int32.ofNat seed).toInt64) (2147483647 : Int64) < 0 := by
    rw [lgc_lt, Int64.lt_iff_toInt_lt, Int32.toInt_toInt64, show (2147483647 : Int64).toInt = 2147483647 from by decide, p_ti (by omega)]
    omega
  have hcmp : (Int32.ofNat (d + nn) ≤ (40 : Int32)) = (d + nn ≤ 40) := by rw [show (40 : Int32) = Int32.ofNat 40 from rfl, p_le (by omega) (by omega)]
  unfold fX5_lots
  rw [if_neg h1, if_neg h2, if_neg h3, if_pos v64, if_neg hG.nz, p_add, if_neg (by rw [hcmp]; exact h40)]
theorem l_2090 (F : Nat) (L : Nat) (xs : Nat → Int32) (rs : Nat → Int32) (rm : Nat → Nat → Int32) (ts : Nat → Int32) (tm : Nat → Nat → Int32) (rdue : Int32) (rtun : Int32) (rsee : Int32) (rbeg : Int32) (peff : Nat → Int32) (pkin : Nat → Int32) (pgri : Nat → Int32) (psig : Nat → Int32) (psee : Nat → Int32) (qsize : Int32) (qclause : Int32) (qeff : Nat → Int32) (qkin : Nat → Int32) (qgri : Nat → Int32) (qsig : Nat → Int32) (qsee : Nat → Int32) (cdee : Int32) (cahe : Nat → Int64) (kdee : Nat → Int32) (know : Nat → Int64) (kahe : Nat → Nat → Int64) (fc : Nat → Int32) (lf : Int32) (told : Int32) (up : Int64) (lo : Int64) (zz : Nat → Int32) (tt : Nat → Int32) {n c d1 : Nat} {E : Nat → Int} {K : Nat → Nat} {S : Nat → Nat → Bool} {s s1 s0 : Nat → Option Nat} (h : LH F L n c E K S peff pkin psig psee zz tt s0) (hs : HallOk n s) (hk : KP n d1 s1 s0 kdee know) : (fL_law_n2090 F L xs (Int32.ofNat n) (Int32.ofNat (sg s 6)) rs rm ts tm rdue rtun rsee rbeg (Int32.ofNat n) (Int32.ofNat c) peff pkin pgri psig psee qsize qclause qeff qkin qgri qsig qsee cdee (enc s) cahe kdee know kahe fc lf told up lo zz tt) = some 1 := by
  obtain ⟨hF, hL, hG, hs0, hin0, hz0, hzE, hzK, htt⟩ := h
  obtain ⟨k0, n0, k1, n1, k2, hd1, hs1⟩ := hk
  have e9 : cI (fun e => !decide (kdee e = -1)) 3 = 2 := by
    refine (cI_congr (q := fun e => decide (e < 2)) 3 fun i hi => ?_).trans rfl
    rcases (show i = 0 ∨ i = 1 ∨ i = 2 by omega) with rfl | rfl | rfl
    · rw [k0, decide_eq_false (nat_ne1 (by omega))]; rfl
    · rw [k1, decide_eq_false (nat_ne1 (by omega))]; rfl
    · rw [k2]; rfl
  unfold fL_law_n2090
  rw [cx_count4 F _ _ _ _ _ _ _ hs.hb hF, bd1_mk, if_pos rfl, show fX5_on F cdee (enc s) cahe kdee know kahe fc lf (0 : Int32) = _ from cx_on F cdee (enc s) cahe kdee know kahe fc lf (k := 0) (d := 0) (by decide) (by decide) k0, bd6_mk, if_pos (by rfl), n0, cx_count3 F _ _ _ _ _ _ _ hs0.hb, bd1_mk, hin0, if_pos rfl, cx_count4 F _ _ _ _ _ _ _ hs0.hb hF, bd1_mk, y_sum F htt, bd1_mk, if_pos rfl, show fX5_undo F (Int32.ofNat 0) (enc s0) (va_cpy (kahe 0) cahe 0 0 40) (0 : Int32) = _ from cx_undo_no F (d := 0) (by decide) _ _, bd3_mk, if_pos rfl, cx_count9 F _ _ _ _ _ _ _ _ hF, bd1_mk, e9, if_pos rfl]
theorem l_2039 (F : Nat) (L : Nat) (xs : Nat → Int32) (rs : Nat → Int32) (rm : Nat → Nat → Int32) (ts : Nat → Int32) (tm : Nat → Nat → Int32) (rdue : Int32) (rtun : Int32) (rsee : Int32) (rbeg : Int32) (peff : Nat → Int32) (pkin : Nat → Int32) (pgri : Nat → Int32) (psig : Nat → Int32) (psee : Nat → Int32) (qsize : Int32) (qclause : Int32) (qeff : Nat → Int32) (qkin : Nat → Int32) (qgri : Nat → Int32) (qsig : Nat → Int32) (qsee : Nat → Int32) (cahe : Nat → Int64) (kdee : Nat → Int32) (know : Nat → Int64) (kahe : Nat → Nat → Int64) (fc : Nat → Int32) (lf : Int32) (told : Int32) (up : Int64) (lo : Int64) (zz : Nat → Int32) (tt : Nat → Int32) {n c d d1 nn fall : Nat} {E : Nat → Int} {K : Nat → Nat} {S : Nat → Nat → Bool} {s s' s1 s0 : Nat → Option Nat} (h : LH F L n c E K S peff pkin psig psee zz tt s0) (hs : HallOk n s) (hs' : HallOk n s') (hk : KP n d1 s1 s0 kdee know) (hnn : 1 ≤ nn) (hd : d + nn ≤ 40) (hfall : inP s' + fall = inP s) (hah : cahe d = enc s) : (fL_law_n2039 F L xs (Int32.ofNat n) (Int32.ofNat (inP s)) (Int32.ofNat (sg s 6)) (Int32.ofNat d) (Int32.ofNat nn) (Int32.ofNat fall) rs rm ts tm rdue rtun rsee rbeg (Int32.ofNat n) (Int32.ofNat c) peff pkin pgri psig psee qsize qclause qeff qkin qgri qsig qsee (Int32.ofNat (d + nn)) (enc s') cahe kdee know kahe fc lf told up lo zz tt) = some 1 := by
  have hpl : inP s ≤ 6 := pop_le _
  have w : ¬ (Int32.ofNat (inP s) < Int32.ofNat fall) := of_eq_false (by rw [p_lt (by omega) (by omega)]; exact eq_false (by omega))
  unfold fL_law_n2039
  rw [if_neg (of_eq_false (p_neg (by omega))), if_neg w, cx_count2, bd1_mk, p_add, if_pos rfl, cx_count3 F _ _ _ _ _ _ _ hs'.hb, bd1_mk, p_sub (show fall ≤ inP s by omega), if_pos (by rw [show inP s - fall = inP s' by omega]), cx_undo F (d := d + nn) (k := d) (by omega) (by omega), bd3_mk, show d + nn - d = nn by omega, if_pos rfl, hah]
  exact l_2090 (h := h) (hs := hs) (hk := hk) ..
theorem l_1983 (F : Nat) (L : Nat) (xs : Nat → Int32) (rs : Nat → Int32) (rm : Nat → Nat → Int32) (ts : Nat → Int32) (tm : Nat → Nat → Int32) (rdue : Int32) (rtun : Int32) (rsee : Int32) (rbeg : Int32) (peff : Nat → Int32) (pkin : Nat → Int32) (pgri : Nat → Int32) (psig : Nat → Int32) (psee : Nat → Int32) (qsize : Int32) (qclause : Int32) (qeff : Nat → Int32) (qkin : Nat → Int32) (qgri : Nat → Int32) (qsig : Nat → Int32) (qsee : Nat → Int32) (cahe : Nat → Int64) (kdee : Nat → Int32) (know : Nat → Int64) (kahe : Nat → Nat → Int64) (fc : Nat → Int32) (lf : Int32) (told : Int32) (up : Int64) (lo : Int64) (zz : Nat → Int32) (tt : Nat → Int32) {n c d : Nat} {E : Nat → Int} {K : Nat → Nat} {S : Nat → Nat → Bool} {s s0 : Nat → Option Nat} (h : LH F L n c E K S peff pkin psig psee zz tt s0) (hk : KP n d s s0 kdee know) : (fL_law_n1983 F L xs (Int32.ofNat n) (Int32.ofNat (inP s)) (Int32.ofNat (sg s 6)) (Int32.ofNat d) rs rm ts tm rdue rtun rsee rbeg (Int32.ofNat n) (Int32.ofNat c) peff pkin pgri psig psee qsize qclause qeff qkin qgri qsig qsee (Int32.ofNat d) (enc s) cahe kdee know kahe fc lf told up lo zz tt) = some 1 := by
  obtain ⟨hF, hL, hG, hs0, hin0, hz0, hzE, hzK, htt⟩ := id h
  obtain ⟨k0, n0, k1, n1, k2, hd, hs⟩ := id hk
  obtain ⟨v, hv⟩ := y_cell F xs hL (k := 52) (by omega)
  obtain ⟨p, hp, ep⟩ := y_part F v (m := 20) (by decide) (by decide)
  obtain ⟨w, hw⟩ := y_cell F xs hL (k := 53) (by omega)
  obtain ⟨q, hq, eq⟩ := y_part F w (m := 999999) (by decide) (by decide)
  have hpl : inP s ≤ 6 := pop_le _
  unfold fL_law_n1983
  rw [show fL_cell F L xs (52 : Int32) = some v from hv, bd1_mk, show fL_part F v (20 : Int32) = some (Int32.ofNat p) from ep, bd1_mk, show fL_cell F L xs (53 : Int32) = some w from hw, bd1_mk, show fL_part F w (999999 : Int32) = some (Int32.ofNat q) from eq, bd1_mk, show (1 : Int32) = Int32.ofNat 1 from rfl, p_add, p_add, p_add]
  have hcmp : (Int32.ofNat (d + (1 + p)) ≤ (40 : Int32)) = (d + (1 + p) ≤ 40) := by rw [show (40 : Int32) = Int32.ofNat 40 from rfl, p_le (by omega) (by omega)]
  by_cases h40 : d + (1 + p) ≤ 40
  · obtain ⟨ahe', e1, e2, e3⟩ := cx_lots F hG hs hF (d := d) (nn := 1 + p) (seed := 1 + q) cahe (by omega) (by omega) (by omega) (by omega) (by omega) h40
    have hrun := runS_ok (c := c) (S := S) (tN := fun k => lotN (1 + q) (k + 1) / 16 % 4) hs hG.E45 hG.K5 (1 + p) (fun j hj => Nat.mod_lt _ (by decide))
    have hpop := run_pop (c := c) (E := E) (K := K) (S := S) (tN := fun k => lotN (1 + q) (k + 1) / 16 % 4) (s := s) (1 + p)
    rw [e1, bd4_mk, if_pos (by rw [hcmp]; exact h40)]
    exact l_2039 (h := h) (hs := hs) (hs' := hrun) (hk := hk) (hnn := by omega) (hd := h40) (hfall := hpop) (hah := by have := e3 0 (by omega); rw [Nat.add_zero] at this; exact this) ..
  · rw [cx_lots_no F hG hs hF cahe (by omega) (by omega) (by omega) (by omega) (by omega) h40, bd4_mk, if_neg (by rw [hcmp]; exact h40), if_pos rfl]
    exact l_2090 (h := h) (hs := hs) (hk := hk) ..
theorem ite_or {α : Type} {p : Prop} [Decidable p] {a b x : α} (h : (if p then a else b) = x) : (p ∧ a = x) ∨ (¬ p ∧ b = x) := by
  by_cases hp : p
  · rw [if_pos hp] at h
    exact Or.inl ⟨hp, h⟩
  · rw [if_neg hp] at h
    exact Or.inr ⟨hp, h⟩
theorem best_would {n c : Nat} {s : Nat → Option Nat} : ∀ j b, best n c s j = some b → would n c s b = true
  | 0, b, h => by cases h
  | j + 1, b, h => by
    rw [best] at h
    rcases ite_or h with ⟨hp, h⟩ | ⟨-, h⟩
    · cases h
      rw [Bool.and_eq_true] at hp
      exact hp.1
    · exact best_would j b h
theorem l_1936 (F : Nat) (L : Nat) (xs : Nat → Int32) (rs : Nat → Int32) (rm : Nat → Nat → Int32) (ts : Nat → Int32) (tm : Nat → Nat → Int32) (rdue : Int32) (rtun : Int32) (rsee : Int32) (rbeg : Int32) (peff : Nat → Int32) (pkin : Nat → Int32) (pgri : Nat → Int32) (psig : Nat → Int32) (psee : Nat → Int32) (qsize : Int32) (qclause : Int32) (qeff : Nat → Int32) (qkin : Nat → Int32) (qgri : Nat → Int32) (qsig : Nat → Int32) (qsee : Nat → Int32) (cahe : Nat → Int64) (kdee : Nat → Int32) (know : Nat → Int64) (kahe : Nat → Nat → Int64) (fc : Nat → Int32) (lf : Int32) (told : Int32) (up : Int64) (lo : Int64) (zz : Nat → Int32) (tt : Nat → Int32) {n c d : Nat} {E : Nat → Int} {K : Nat → Nat} {S : Nat → Nat → Bool} {s s0 : Nat → Option Nat} (h : LH F L n c E K S peff pkin psig psee zz tt s0) (hk : KP n d s s0 kdee know) : (fL_law_n1936 F L xs (Int32.ofNat n) (Int32.ofNat (2 ^ n - 1)) (Int32.ofNat (inP s)) (Int32.ofNat (sg s 6)) (Int32.ofNat d) (st (oS n s)) rs rm ts tm rdue rtun rsee rbeg (Int32.ofNat n) (Int32.ofNat c) peff pkin pgri psig psee qsize qclause qeff qkin qgri qsig qsee (Int32.ofNat d) (enc s) cahe kdee know kahe fc lf told up lo zz tt) = some 1 := by
  obtain ⟨hF, hL, hG, hs0, hin0, hz0, hzE, hzK, htt⟩ := id h
  obtain ⟨k0, n0, k1, n1, k2, hd, hs⟩ := id hk
  obtain ⟨w1, w2, w3, w4⟩ := all_st n hG.n6
  unfold fL_law_n1936
  rw [cx_stops F hG hs hF, bd1_mk]
  cases hb : best n c s (2 ^ n - 1) with
  | none =>
    rw [show bW none = (-9 : Int32) from rfl, if_pos (by decide), if_pos rfl]
    exact l_1983 (h := h) (hk := hk) ..
  | some b =>
    have hle := best_lt _ _ hb
    have hw := best_would _ _ hb
    unfold would at hw
    rw [Bool.and_eq_true, Bool.and_eq_true, decide_eq_true_eq, decide_eq_true_eq] at hw
    obtain ⟨⟨hsub, h2⟩, -⟩ := hw
    have hpl := pop_le (fun i => b.testBit i)
    have a1 : ¬ (Int32.ofNat (pop (fun i => b.testBit i)) < (2 : Int32)) := of_eq_false (by rw [show (2 : Int32) = Int32.ofNat 2 from rfl, p_lt (by omega) (by omega)]; exact eq_false (by omega))
    have a2 : Int32.ofNat b ≤ Int32.ofNat (2 ^ n - 1) := of_eq_true (by rw [p_le (by omega) (by omega)]; exact eq_true hle)
    have a3 : st (fun i => b.testBit i) &&& st (oS n s) = 0 := by
      rw [st_andn, st_zero, any_f] at hsub
      rw [st_and, st_zero, any_f]
      intro i hi
      have := hsub i hi
      unfold oS
      revert this
      cases b.testBit i <;> cases s i <;> simp
    rw [show bW (some b) = Int32.ofNat b from rfl, if_neg (of_eq_false (p_neg (by omega))), st_bits b (by omega), y_many F hF, bd1_mk, if_neg a1, if_pos a3, ← st_bits b (by omega), if_pos a2]
    exact l_1983 (h := h) (hk := hk) ..
