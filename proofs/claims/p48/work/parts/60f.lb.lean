/-- whom somebody that is in sees, of those that are in -/
def seenS (n : Nat) (S : Nat → Nat → Bool) (s : Nat → Option Nat) : Nat → Bool := fun i => decide (i < n) && (s i).isSome && any6 (fun j => (s j).isSome && S j i)
/-- what one gets, by who is in -/
def rank (s : Nat → Option Nat) (k : Nat) : Nat := pop (fun j => (s j).isSome && decide (j < k))
def getN (s : Nat → Option Nat) (P i : Nat) : Nat := if (s i).isSome = true then P / inP s + (if P % inP s ≤ rank s i then 0 else 1) else 0
theorem rank_s {s : Nat → Option Nat} : ∀ k, k < 6 → rank s (k + 1) = rank s k + (s k).isSome.toNat := by
  intro k hk
  unfold rank pop
  rcases (show k = 0 ∨ k = 1 ∨ k = 2 ∨ k = 3 ∨ k = 4 ∨ k = 5 by omega) with rfl | rfl | rfl | rfl | rfl | rfl <;> simp <;> omega
theorem rank_0 {s : Nat → Option Nat} : rank s 0 = 0 := by
  unfold rank pop
  simp
theorem rank_6 {s : Nat → Option Nat} : rank s 6 = inP s := by
  unfold rank inP pop
  simp
theorem rank_n {n : Nat} {s : Nat → Option Nat} (hs : HallOk n s) (hn : n ≤ 6) : rank s n = inP s := by
  have key : ∀ d, n + d ≤ 6 → rank s (n + d) = rank s n := by
    intro d
    induction d with
    | zero => intro _; rfl
    | succ d ih =>
      intro hd
      rw [← Nat.add_assoc, rank_s (n + d) (by omega), ih (by omega), hs.1 (n + d) (by omega)]
      rfl
  have := key (6 - n) (by omega)
  rw [show n + (6 - n) = 6 by omega, rank_6] at this
  exact this.symm
theorem sum_get {s : Nat → Option Nat} {P : Nat} : ∀ k, k ≤ 6 → sumN (getN s P) k = rank s k * (P / inP s) + min (P % inP s) (rank s k)
  | 0, _ => by rw [rank_0]; simp [sumN]
  | k + 1, hk => by
    rw [sumN, sum_get k (by omega), rank_s k (by omega)]
    unfold getN
    cases h : (s k).isSome with
    | false => rw [if_neg (by decide)]; simp
    | true =>
      rw [if_pos rfl, show true.toNat = 1 from rfl, Nat.add_mul, Nat.one_mul]
      by_cases h2 : P % inP s ≤ rank s k
      · rw [if_pos h2, Nat.min_eq_left h2, Nat.min_eq_left (by omega)]
        omega
      · rw [if_neg h2, Nat.min_eq_right (by omega), Nat.min_eq_right (by omega)]
        omega
theorem sum_all {n : Nat} {s : Nat → Option Nat} (hs : HallOk n s) (hn : n ≤ 6) {P : Nat} : sumN (getN s P) n = if inP s = 0 then 0 else P := by
  rw [sum_get n hn, rank_n hs hn]
  by_cases h : inP s = 0
  · rw [if_pos h, h]; simp
  · rw [if_neg h, Nat.min_eq_left (Nat.le_of_lt (Nat.mod_lt _ (by omega))), Nat.mul_comm, Nat.mul_comm (P / inP s)]
    exact Nat.div_add_mod P (inP s)
theorem get_mono {s : Nat → Option Nat} {P k : Nat} (hk : k < 6) (h1 : (s k).isSome = true) (h2 : (s (k + 1)).isSome = true) : getN s P (k + 1) ≤ getN s P k := by
  unfold getN
  rw [if_pos h1, if_pos h2, rank_s k hk, h1]
  by_cases h : P % inP s ≤ rank s k
  · rw [if_pos h, if_pos (by omega)]
    exact Nat.le_refl _
  · rw [if_neg h]
    split <;> omega
theorem get_lt {s : Nat → Option Nat} {P i : Nat} (hP : P < 1000) : getN s P i ≤ 1000 := by
  unfold getN
  have := Nat.div_le_self P (inP s)
  split
  · split <;> omega
  · omega
theorem get_out {s : Nat → Option Nat} {P i : Nat} (h : (s i).isSome = false) : getN s P i = 0 := by
  unfold getN
  rw [h, if_neg (by decide)]
theorem isN {s : Nat → Option Nat} {i : Nat} : (s i).isNone = !(s i).isSome := by cases s i <;> rfl
theorem oS_bit {n : Nat} {s : Nat → Option Nat} {i : Nat} (hi : i < n) (hn : n ≤ 6) : ((st (oS n s) >>> (Int32.ofNat i &&& 31)) &&& (1 : Int32)) = Int32.ofNat (!(s i).isSome).toNat := by
  rw [st_bit _ (by omega)]
  unfold oS
  rw [decide_eq_true hi, Bool.true_and, isN]
theorem tb_all {n j : Nat} : (2 ^ n - 1).testBit j = decide (j < n) := Nat.testBit_two_pow_sub_one n j
theorem any_congr {p q : Nat → Bool} (h : ∀ i, i < 6 → p i = q i) : any6 p = any6 q := by
  unfold any6
  rw [h 0 (by decide), h 1 (by decide), h 2 (by decide), h 3 (by decide), h 4 (by decide), h 5 (by decide)]
theorem any_false : any6 (fun _ => false) = false := rfl
theorem wept_all {n : Nat} {S : Nat → Nat → Bool} {s : Nat → Option Nat} (hSn : ∀ i j, S i j = true → i < n ∧ j < n) (hn : n ≤ 6) : oI (fun i => (s i).isSome && any6 (fun j => ((s j).isSome && (2 ^ n - 1).testBit j) && S j i) && !any6 (fun j => ((s j).isSome && !(2 ^ n - 1).testBit j) && S j i)) n = st (seenS n S s) := by
  rw [oI_st _ n hn]
  refine st_congr fun i _ => ?_
  have e1 : any6 (fun j => ((s j).isSome && (2 ^ n - 1).testBit j) && S j i) = any6 (fun j => (s j).isSome && S j i) := any_congr fun j _ => by
    rw [tb_all]
    cases h : S j i
    · simp
    · rw [decide_eq_true (hSn j i h).1]; simp
  have e2 : any6 (fun j => ((s j).isSome && !(2 ^ n - 1).testBit j) && S j i) = false := by
    refine (any_congr fun j _ => ?_).trans any_false
    rw [tb_all]
    cases h : S j i
    · simp
    · rw [decide_eq_true (hSn j i h).1]; simp
  show (decide (i < n) && _) = _
  rw [e1, e2]
  unfold seenS
  simp [Bool.and_assoc]
theorem wept_none {n : Nat} {S : Nat → Nat → Bool} {s : Nat → Option Nat} (hn : n ≤ 6) : oI (fun i => (s i).isSome && any6 (fun j => ((s j).isSome && (0 : Nat).testBit j) && S j i) && !any6 (fun j => ((s j).isSome && !(0 : Nat).testBit j) && S j i)) n = 0 := by
  rw [oI_st _ n hn, st_zero, any_f]
  intro i _
  have e1 : any6 (fun j => ((s j).isSome && (0 : Nat).testBit j) && S j i) = false := (any_congr fun j _ => by simp).trans any_false
  rw [e1]
  simp
theorem wept_sub {n k : Nat} {S : Nat → Nat → Bool} {s : Nat → Option Nat} (hn : n ≤ 6) : oI (fun i => (s i).isSome && any6 (fun j => ((s j).isSome && k.testBit j) && S j i) && !any6 (fun j => ((s j).isSome && !k.testBit j) && S j i)) n &&& (st (seenS n S s) ^^^ (-1 : Int32)) = 0 := by
  rw [oI_st _ n hn, st_andn, st_zero, any_f]
  intro i _
  unfold seenS
  cases h1 : decide (i < n)
  · rfl
  cases h2 : (s i).isSome
  · rfl
  cases h3 : any6 (fun j => ((s j).isSome && k.testBit j) && S j i)
  · rfl
  have : any6 (fun j => (s j).isSome && S j i) = true := by
    obtain ⟨j, hj, q⟩ := any6_iff.mp h3
    simp only [Bool.and_eq_true] at q
    exact any6_iff.mpr ⟨j, hj, by simp [q.1.1, q.2]⟩
  rw [this]
  simp
theorem l_1870 (F : Nat) (L : Nat) (xs : Nat → Int32) (rs : Nat → Int32) (rm : Nat → Nat → Int32) (ts : Nat → Int32) (tm : Nat → Nat → Int32) (rdue : Int32) (rtun : Int32) (rsee : Int32) (rbeg : Int32) (peff : Nat → Int32) (pkin : Nat → Int32) (pgri : Nat → Int32) (psig : Nat → Int32) (psee : Nat → Int32) (qsize : Int32) (qclause : Int32) (qeff : Nat → Int32) (qkin : Nat → Int32) (qgri : Nat → Int32) (qsig : Nat → Int32) (qsee : Nat → Int32) (cahe : Nat → Int64) (kdee : Nat → Int32) (know : Nat → Int64) (kahe : Nat → Nat → Int64) (fc : Nat → Int32) (lf : Int32) (told : Int32) (up : Int64) (lo : Int64) (zz : Nat → Int32) (tt : Nat → Int32) {n c d P : Nat} {E : Nat → Int} {K : Nat → Nat} {S : Nat → Nat → Bool} {s s0 : Nat → Option Nat} (h : LH F L n c E K S peff pkin psig psee zz tt s0) (hk : KP n d s s0 kdee know) : (fL_law_n1870 F L xs (Int32.ofNat n) (Int32.ofNat (2 ^ n - 1)) (Int32.ofNat (inP s)) (Int32.ofNat (sg s 6)) (Int32.ofNat d) (st (seenS n S s)) (st (oS n s)) (Int32.ofNat P) (Int32.ofNat (sumN (getN s P) n)) rs rm ts tm rdue rtun rsee rbeg (Int32.ofNat n) (Int32.ofNat c) peff pkin pgri psig psee qsize qclause qeff qkin qgri qsig qsee (Int32.ofNat d) (enc s) cahe kdee know kahe fc lf told up lo zz tt) = some 1 := by
  obtain ⟨hF, hL, hG, hs0, hin0, hz0, hzE, hzK, htt⟩ := id h
  obtain ⟨k0, n0, k1, n1, k2, hd, hs⟩ := id hk
  have hn := hG.n6
  obtain ⟨w1, w2, w3, w4⟩ := all_st n hn
  have hpl : inP s ≤ 6 := pop_le _
  obtain ⟨v, hv⟩ := y_cell F xs hL (k := 51) (by omega)
  obtain ⟨p, hp, ep⟩ := y_part F v (m := 2 ^ n) (by omega) (by omega)
  unfold fL_law_n1870
  rw [show fL_cell F L xs (51 : Int32) = some v from hv, bd1_mk, p_s, show 2 ^ n - 1 + 1 = 2 ^ n by omega, ep, bd1_mk, cx_wept F hG hs hF (k := 2 ^ n - 1) (by omega), bd1_mk, wept_all hG.sn hn, if_pos rfl, show fX5_wept F (Int32.ofNat n) psee (enc s) (0 : Int32) = _ from cx_wept F hG hs hF (k := 0) (by omega), bd1_mk, wept_none hn, if_pos rfl, cx_wept F hG hs hF hp, bd1_mk, wept_sub hn, if_pos rfl, sum_all hs hn]
  by_cases h0 : inP s = 0
  · rw [if_pos h0, if_pos (by rw [h0]; rfl)]
    unfold fL_law_n1931
    rw [if_pos (by rfl)]
    exact l_1936 (h := h) (hk := hk) ..
  · rw [if_neg h0, if_neg (by rw [p_e0 (by omega)]; exact h0)]
    unfold fL_law_n1931
    rw [if_pos rfl]
    exact l_1936 (h := h) (hk := hk) ..
theorem cx_gets' (F : Nat) {n c : Nat} {E : Nat → Int} {K : Nat → Nat} {S : Nat → Nat → Bool} {peff pkin psig psee : Nat → Int32} (hG : CS n c E K S peff pkin psig psee) {s : Nat → Option Nat} (hs : HallOk n s) (hF : 1000000 ≤ F) {i P : Nat} (hi : i < n) (h1 : 1 ≤ P) (h9 : P ≤ 999) : fX5_gets F (Int32.ofNat n) (enc s) (Int32.ofNat i) (Int32.ofNat P) = some (Int32.ofNat (getN s P i)) := cx_gets F hG hs hF hi h1 h9
theorem l_1736 (F : Nat) (L : Nat) (xs : Nat → Int32) (rs : Nat → Int32) (rm : Nat → Nat → Int32) (ts : Nat → Int32) (tm : Nat → Nat → Int32) (rdue : Int32) (rtun : Int32) (rsee : Int32) (rbeg : Int32) (peff : Nat → Int32) (pkin : Nat → Int32) (pgri : Nat → Int32) (psig : Nat → Int32) (psee : Nat → Int32) (qsize : Int32) (qclause : Int32) (qeff : Nat → Int32) (qkin : Nat → Int32) (qgri : Nat → Int32) (qsig : Nat → Int32) (qsee : Nat → Int32) (cahe : Nat → Int64) (kdee : Nat → Int32) (know : Nat → Int64) (kahe : Nat → Nat → Int64) (fc : Nat → Int32) (lf : Int32) (up : Int64) (lo : Int64) (zz : Nat → Int32) (tt : Nat → Int32) {n c d P : Nat} {E : Nat → Int} {K : Nat → Nat} {S : Nat → Nat → Bool} {s s0 : Nat → Option Nat} (h : LH F L n c E K S peff pkin psig psee zz tt s0) (hk : KP n d s s0 kdee know) (hP1 : 1 ≤ P) (hP9 : P ≤ 999) (told : Int32) : (fL_law_l1736 F L xs (Int32.ofNat n) (Int32.ofNat (2 ^ n - 1)) (Int32.ofNat (inP s)) (Int32.ofNat (sg s 6)) (Int32.ofNat d) (st (oS n s)) (Int32.ofNat P) rs rm ts tm rdue rtun rsee rbeg (Int32.ofNat n) (Int32.ofNat c) peff pkin pgri psig psee qsize qclause qeff qkin qgri qsig qsee (Int32.ofNat d) (enc s) cahe kdee know kahe fc lf up lo zz tt F (0 : Int32) (0 : Int32) (0 : Int32) told) = some 1 := by
  obtain ⟨hF, hL, hG, hs0, hin0, hz0, hzE, hzK, htt⟩ := id h
  obtain ⟨k0, n0, k1, n1, k2, hd, hs⟩ := id hk
  have hn := hG.n6
  refine loop_inv (fun fu (a : Int32 × Int32 × Int32 × Int32) => fL_law_l1736 F L xs (Int32.ofNat n) (Int32.ofNat (2 ^ n - 1)) (Int32.ofNat (inP s)) (Int32.ofNat (sg s 6)) (Int32.ofNat d) (st (oS n s)) (Int32.ofNat P) rs rm ts tm rdue rtun rsee rbeg (Int32.ofNat n) (Int32.ofNat c) peff pkin pgri psig psee qsize qclause qeff qkin qgri qsig qsee (Int32.ofNat d) (enc s) cahe kdee know kahe fc lf up lo zz tt fu a.1 a.2.1 a.2.2.1 a.2.2.2) n (fun k a => a.1 = st (fun i => decide (i < k) && ((s i).isSome && any6 (fun j => (s j).isSome && S j i))) ∧ a.2.1 = Int32.ofNat (sumN (getN s P) k) ∧ a.2.2.1 = Int32.ofNat k) (fun o => o = some 1) ?_ ?_ F (0, 0, 0, told) (by omega) ⟨st_none.trans (st_congr fun i _ => by simp), rfl, rfl⟩
  · rintro fu k ⟨x23, x26, x27, td⟩ hkn ⟨e1, e2, e3⟩
    dsimp only at e1 e2 e3 ⊢
    subst e1; subst e2; subst e3
    have f0 : ¬ (Int32.ofNat n ≤ Int32.ofNat k) := of_eq_false (by rw [p_le (by omega) (by omega)]; exact p_nle hkn)
    have hgl := get_lt (s := s) (i := k) (show P < 1000 by omega)
    -- the guest's rest, by the bit that it adds
    have rest : ∀ (bit td : Int32), st (fun i => decide (i < k) && ((s i).isSome && any6 (fun j => (s j).isSome && S j i))) ||| bit = st (fun i => decide (i < k + 1) && ((s i).isSome && any6 (fun j => (s j).isSome && S j i))) → (∃ a' : Int32 × Int32 × Int32 × Int32, (a'.1 = st (fun i => decide (i < k + 1) && ((s i).isSome && any6 (fun j => (s j).isSome && S j i))) ∧ a'.2.1 = Int32.ofNat (sumN (getN s P) (k + 1)) ∧ a'.2.2.1 = Int32.ofNat (k + 1)) ∧ (fL_law_n1784 F (fL_law_l1736 F L xs (Int32.ofNat n) (Int32.ofNat (2 ^ n - 1)) (Int32.ofNat (inP s)) (Int32.ofNat (sg s 6)) (Int32.ofNat d) (st (oS n s)) (Int32.ofNat P) rs rm ts tm rdue rtun rsee rbeg (Int32.ofNat n) (Int32.ofNat c) peff pkin pgri psig psee qsize qclause qeff qkin qgri qsig qsee (Int32.ofNat d) (enc s) cahe kdee know kahe fc lf up lo zz tt fu) L xs (st (fun i => decide (i < k) && ((s i).isSome && any6 (fun j => (s j).isSome && S j i)))) bit (Int32.ofNat n) (Int32.ofNat (2 ^ n - 1)) (Int32.ofNat (inP s)) (Int32.ofNat (sg s 6)) (Int32.ofNat d) (st (oS n s)) (Int32.ofNat P) (Int32.ofNat (sumN (getN s P) k)) (Int32.ofNat k) rs rm ts tm rdue rtun rsee rbeg (Int32.ofNat n) (Int32.ofNat c) peff pkin pgri psig psee qsize qclause qeff qkin qgri qsig qsee (Int32.ofNat d) (enc s) cahe kdee know kahe fc lf td up lo zz tt) = fL_law_l1736 F L xs (Int32.ofNat n) (Int32.ofNat (2 ^ n - 1)) (Int32.ofNat (inP s)) (Int32.ofNat (sg s 6)) (Int32.ofNat d) (st (oS n s)) (Int32.ofNat P) rs rm ts tm rdue rtun rsee rbeg (Int32.ofNat n) (Int32.ofNat c) peff pkin pgri psig psee qsize qclause qeff qkin qgri qsig qsee (Int32.ofNat d) (enc s) cahe kdee know kahe fc lf up lo zz tt fu a'.1 a'.2.1 a'.2.2.1 a'.2.2.2) := by
      intro bit td hbit
      have fin : (fL_law_n1818 F (fL_law_l1736 F L xs (Int32.ofNat n) (Int32.ofNat (2 ^ n - 1)) (Int32.ofNat (inP s)) (Int32.ofNat (sg s 6)) (Int32.ofNat d) (st (oS n s)) (Int32.ofNat P) rs rm ts tm rdue rtun rsee rbeg (Int32.ofNat n) (Int32.ofNat c) peff pkin pgri psig psee qsize qclause qeff qkin qgri qsig qsee (Int32.ofNat d) (enc s) cahe kdee know kahe fc lf up lo zz tt fu) L xs (Int32.ofNat n) (Int32.ofNat (2 ^ n - 1)) (Int32.ofNat (inP s)) (Int32.ofNat (sg s 6)) (Int32.ofNat d) (st (fun i => decide (i < k + 1) && ((s i).isSome && any6 (fun j => (s j).isSome && S j i)))) (st (oS n s)) (Int32.ofNat P) (Int32.ofNat (sumN (getN s P) k)) (Int32.ofNat k) (Int32.ofNat (getN s P k)) rs rm ts tm rdue rtun rsee rbeg (Int32.ofNat n) (Int32.ofNat c) peff pkin pgri psig psee qsize qclause qeff qkin qgri qsig qsee (Int32.ofNat d) (enc s) cahe kdee know kahe fc lf td up lo zz tt) = fL_law_l1736 F L xs (Int32.ofNat n) (Int32.ofNat (2 ^ n - 1)) (Int32.ofNat (inP s)) (Int32.ofNat (sg s 6)) (Int32.ofNat d) (st (oS n s)) (Int32.ofNat P) rs rm ts tm rdue rtun rsee rbeg (Int32.ofNat n) (Int32.ofNat c) peff pkin pgri psig psee qsize qclause qeff qkin qgri qsig qsee (Int32.ofNat d) (enc s) cahe kdee know kahe fc lf up lo zz tt fu (st (fun i => decide (i < k + 1) && ((s i).isSome && any6 (fun j => (s j).isSome && S j i)))) (Int32.ofNat (sumN (getN s P) (k + 1))) (Int32.ofNat (k + 1)) td := by
        unfold fL_law_n1818 fL_law_n1857
        rw [p_add, p_s, show sumN (getN s P) k + getN s P k = sumN (getN s P) (k + 1) from rfl]
        by_cases hk0 : k = 0
        · rw [if_pos (by rw [hk0]; decide)]
        rw [if_neg (of_eq_false (by rw [show (0 : Int32) = Int32.ofNat 0 from rfl, p_le (by omega) (by omega)]; exact eq_false (by omega)))]
        by_cases hg0 : getN s P k = 0
        · rw [if_pos (by rw [hg0]; decide)]
        rw [if_neg (of_eq_false (by rw [show (0 : Int32) = Int32.ofNat 0 from rfl, p_le (by omega) (by omega)]; exact eq_false (by omega)))]
        obtain ⟨j, rfl⟩ : ∃ j, k = j + 1 := ⟨k - 1, by omega⟩
        rw [sm1 j _ rfl, oS_bit (show j < n by omega) hn]
        cases hj : (s j).isSome with
        | false => rw [if_neg (by decide)]
        | true =>
          have hk1 : (s (j + 1)).isSome = true := by
            cases e : (s (j + 1)).isSome
            · exact absurd (get_out e) hg0
            · rfl
          have hgl2 := get_lt (s := s) (i := j) (show P < 1000 by omega)
          rw [if_pos (by decide), cx_gets' F hG hs hF (show j < n by omega) hP1 hP9, bd1_mk, if_pos (of_eq_true (by rw [p_le (by omega) (by omega)]; exact eq_true (get_mono (by omega) hj hk1)))]
      refine ⟨(_, _, _, td), ⟨rfl, rfl, rfl⟩, ?_⟩
      unfold fL_law_n1784
      rw [cx_gets' F hG hs hF hkn hP1 hP9, bd1_mk, if_neg (of_eq_false (p_neg (by omega))), hbit, oS_bit hkn hn]
      cases hk1 : (s k).isSome with
      | true => rw [if_neg (by decide)]; exact fin
      | false => rw [if_pos (by decide), if_pos (by rw [get_out hk1]; rfl)]; exact fin
    rw [fL_law_l1736, fL_law_l1736_b, if_neg f0, cx_guest4 F hG hs hF td hkn, bd2_mk, if_pos rfl]
    unfold fL_law_n1756
    rw [asked_y, bd1_mk, oS_bit hkn hn]
    have key : ∀ b : Bool, ((s k).isSome && any6 (fun j => (s j).isSome && S j k)) = b → st (fun i => decide (i < k) && ((s i).isSome && any6 (fun j => (s j).isSome && S j i))) ||| (if b = true then (1 : Int32) <<< (Int32.ofNat k &&& 31) else 0) = st (fun i => decide (i < k + 1) && ((s i).isSome && any6 (fun j => (s j).isSome && S j i))) := by
      intro b hb
      cases b with
      | false =>
        rw [if_neg (by decide), Int32.or_zero]
        refine st_congr fun i _ => ?_
        by_cases e : i = k
        · subst e; rw [hb]; simp
        · rw [show decide (i < k) = decide (i < k + 1) by simp only [decide_eq_decide]; omega]
      | true =>
        rw [if_pos rfl, st_one (by omega), st_or]
        refine st_congr fun i _ => ?_
        by_cases e : i = k
        · subst e; rw [hb]; simp
        · rw [show decide (i < k) = decide (i < k + 1) by simp only [decide_eq_decide]; omega]
          simp [e]
    cases ha : any6 (fun j => (s j).isSome && S j k) with
    | false =>
      rw [if_neg (by decide), if_neg (by decide)]
      obtain ⟨a', h1, h2⟩ := rest 0 0 (key false (by rw [ha, Bool.and_false]))
      exact Or.inl ⟨a', h1, h2⟩
    | true =>
      rw [if_pos rfl, if_pos rfl]
      cases hk1 : (s k).isSome with
      | true =>
        rw [if_pos (by decide)]
        obtain ⟨a', h1, h2⟩ := rest _ 1 (key true (by rw [ha, hk1]; rfl))
        exact Or.inl ⟨a', h1, h2⟩
      | false =>
        rw [if_neg (by decide)]
        obtain ⟨a', h1, h2⟩ := rest 0 1 (key false (by rw [ha, hk1]; rfl))
        exact Or.inl ⟨a', h1, h2⟩
  · rintro fu ⟨x23, x26, x27, td⟩ ⟨e1, e2, e3⟩
    dsimp only at e1 e2 e3 ⊢
    subst e1; subst e2; subst e3
    rw [fL_law_l1736, fL_law_l1736_b, if_pos (Int32.le_refl _), show st (fun i => decide (i < n) && ((s i).isSome && any6 (fun j => (s j).isSome && S j i))) = st (seenS n S s) from st_congr fun i _ => by unfold seenS; rw [Bool.and_assoc]]
    exact l_1870 (h := h) (hk := hk) ..
theorem l_1703 (F : Nat) (L : Nat) (xs : Nat → Int32) (rs : Nat → Int32) (rm : Nat → Nat → Int32) (ts : Nat → Int32) (tm : Nat → Nat → Int32) (rdue : Int32) (rtun : Int32) (rsee : Int32) (rbeg : Int32) (peff : Nat → Int32) (pkin : Nat → Int32) (pgri : Nat → Int32) (psig : Nat → Int32) (psee : Nat → Int32) (qsize : Int32) (qclause : Int32) (qeff : Nat → Int32) (qkin : Nat → Int32) (qgri : Nat → Int32) (qsig : Nat → Int32) (qsee : Nat → Int32) (cahe : Nat → Int64) (kdee : Nat → Int32) (know : Nat → Int64) (kahe : Nat → Nat → Int64) (fc : Nat → Int32) (lf : Int32) (told : Int32) (up : Int64) (lo : Int64) (zz : Nat → Int32) (tt : Nat → Int32) {n c d : Nat} {E : Nat → Int} {K : Nat → Nat} {S : Nat → Nat → Bool} {s s0 : Nat → Option Nat} (h : LH F L n c E K S peff pkin psig psee zz tt s0) (hk : KP n d s s0 kdee know) : (fL_law_n1703 F L xs (Int32.ofNat n) (Int32.ofNat (2 ^ n - 1)) (Int32.ofNat (inP s)) (Int32.ofNat (sg s 6)) (Int32.ofNat d) rs rm ts tm rdue rtun rsee rbeg (Int32.ofNat n) (Int32.ofNat c) peff pkin pgri psig psee qsize qclause qeff qkin qgri qsig qsee (Int32.ofNat d) (enc s) cahe kdee know kahe fc lf told up lo zz tt) = some 1 := by
  obtain ⟨hF, hL, hG, hs0, hin0, hz0, hzE, hzK, htt⟩ := id h
  obtain ⟨k0, n0, k1, n1, k2, hd, hs⟩ := id hk
  obtain ⟨v, hv⟩ := y_cell F xs hL (k := 50) (by omega)
  obtain ⟨p, hp, ep⟩ := y_part F v (m := 999) (by decide) (by decide)
  obtain ⟨told', eo⟩ := y_outs F hG hs hF told
  unfold fL_law_n1703
  rw [eo, bd2_mk, show fL_cell F L xs (50 : Int32) = some v from hv, bd1_mk, show fL_part F v (999 : Int32) = some (Int32.ofNat p) from ep, bd1_mk, show (1 : Int32) = Int32.ofNat 1 from rfl, p_add]
  exact l_1736 (h := h) (hk := hk) (hP1 := by omega) (hP9 := by omega) ..
