/-- sets of more than six, as numbers -/
def oN (p : Nat → Bool) : Nat → Nat
  | 0 => 0
  | k + 1 => oN p k + (if p k = true then 2 ^ k else 0)
theorem oN_lt {p : Nat → Bool} : ∀ k, oN p k < 2 ^ k
  | 0 => Nat.zero_lt_one
  | k + 1 => by
    have h := oN_lt (p := p) k
    rw [oN, Nat.pow_succ]
    split <;> omega
theorem bit_tab : ∀ k, k < 31 → (1 : Int32) <<< (Int32.ofNat k &&& 31) = Int32.ofNat (2 ^ k) ∧ (Int32.ofNat k &&& 31) = Int32.ofNat k := by decide +kernel
theorem i_setbit {a k : Nat} (hk : k < 31) (ha : a < 2 ^ k) : Int32.ofNat a ||| Int32.ofNat (2 ^ k) = Int32.ofNat (a + 2 ^ k) := by
  have h1 : 2 ^ k ≤ 2 ^ 30 := Nat.pow_le_pow_right (by decide) (by omega)
  have h2 := Nat.two_pow_add_eq_or_of_lt ha 1
  rw [Nat.mul_one] at h2
  apply Int32.toBitVec_inj.1
  rw [Int32.toBitVec_or]
  apply BitVec.eq_of_toNat_eq
  show (BitVec.ofNat 32 a ||| BitVec.ofNat 32 (2 ^ k)).toNat = (BitVec.ofNat 32 (a + 2 ^ k)).toNat
  rw [BitVec.toNat_or, BitVec.toNat_ofNat, BitVec.toNat_ofNat, BitVec.toNat_ofNat, Nat.mod_eq_of_lt (a := a) (by omega), Nat.mod_eq_of_lt (a := 2 ^ k) (by omega), Nat.mod_eq_of_lt (a := a + 2 ^ k) (by omega), Nat.or_comm, ← h2, Nat.add_comm]
theorem oI_oN {p : Nat → Bool} : ∀ k, k ≤ 30 → oI p k = Int32.ofNat (oN p k)
  | 0, _ => rfl
  | k + 1, hk => by
    have hl := oN_lt (p := p) k
    rw [oI, oN, oI_oN k (by omega)]
    by_cases h : p k = true
    · rw [if_pos h, if_pos h, (bit_tab k (by omega)).1, i_setbit (by omega) hl]
    · rw [if_neg h, if_neg h, Nat.add_zero]
theorem oN_bit {p : Nat → Bool} : ∀ k e, e < k → oN p k / 2 ^ e % 2 = (p e).toNat
  | 0, e, h => absurd h (Nat.not_lt_zero e)
  | k + 1, e, h => by
    have hl := oN_lt (p := p) k
    have hp : 0 < 2 ^ e := Nat.pow_pos (by decide)
    rw [oN]
    by_cases he : e = k
    · subst he
      by_cases hq : p e = true
      · rw [if_pos hq, hq, Nat.add_div_right _ hp, Nat.div_eq_of_lt hl]; rfl
      · rw [if_neg hq, Nat.add_zero, Nat.div_eq_of_lt hl]
        cases hh : p e
        · rfl
        · exact absurd hh hq
    · have ih := oN_bit (p := p) k e (by omega)
      by_cases hq : p k = true
      · have e2 : 2 ^ k = 2 ^ (k - e - 1) * 2 * 2 ^ e := by
          rw [← Nat.pow_succ, ← Nat.pow_add]
          congr 1
          omega
        rw [if_pos hq, e2, Nat.add_mul_div_right _ _ hp, Nat.add_mul_mod_self_right]
        exact ih
      · rw [if_neg hq, Nat.add_zero]; exact ih
theorem i_and1 {N : Nat} (hN : N < 2 ^ 31) : Int32.ofNat N &&& (1 : Int32) = Int32.ofNat (N % 2) := by
  apply Int32.toBitVec_inj.1
  rw [Int32.toBitVec_and]
  apply BitVec.eq_of_toNat_eq
  show ((BitVec.ofNat 32 N) &&& (BitVec.ofNat 32 (2 ^ 1 - 1))).toNat = (BitVec.ofNat 32 (N % 2 ^ 1)).toNat
  have h2 : N % 2 ^ 1 ≤ N := Nat.mod_le _ _
  rw [BitVec.toNat_and, BitVec.toNat_ofNat, BitVec.toNat_ofNat, BitVec.toNat_ofNat, Nat.mod_eq_of_lt (a := N) (by omega), Nat.mod_eq_of_lt (a := 2 ^ 1 - 1) (by omega), Nat.mod_eq_of_lt (a := N % 2 ^ 1) (by omega), Nat.and_two_pow_sub_one_eq_mod]
theorem oI_bit {p : Nat → Bool} {k e : Nat} (hk : k ≤ 30) (he : e < k) : ((oI p k >>> (Int32.ofNat e &&& 31)) &&& (1 : Int32)) = Int32.ofNat (p e).toNat := by
  have hl := oN_lt (p := p) k
  have h1 : 2 ^ k ≤ 2 ^ 30 := Nat.pow_le_pow_right (by decide) hk
  have hd : oN p k / 2 ^ e ≤ oN p k := Nat.div_le_self _ _
  rw [oI_oN k hk, (bit_tab e (by omega)).2, i_shr (by omega) (by omega), i_and1 (by omega), oN_bit k e he]
theorem e4_tab : ∀ v : Nat, v < 10 → Int32.ofInt ((v : Int) - 4) + (4 : Int32) = Int32.ofNat v := by decide +kernel
theorem e4 {e : Int} (h1 : -4 ≤ e) (h2 : e ≤ 5) : Int32.ofInt e + (4 : Int32) = Int32.ofNat (e + 4).toNat := by
  have := e4_tab (e + 4).toNat (by omega)
  rw [show (((e + 4).toNat : Nat) : Int) - 4 = e by omega] at this
  exact this
theorem seqG_congr {k : Nat} {E : Nat → Int} {t u : Nat → Nat} {g : Nat} : ∀ j, (∀ p, p < j → t p = u p) → seqG k E t g j = seqG k E u g j
  | 0, _ => rfl
  | j + 1, h => by rw [seqG, seqG, h j (by omega), seqG_congr j (fun p hp => h p (by omega))]
theorem allB_t {p : Nat → Bool} : ∀ q, (∀ j, j < q → p j = true) → allB p q = true
  | 0, _ => rfl
  | q + 1, h => by rw [allB, allB_t q (fun j hj => h j (by omega)), h q (by omega)]; rfl
theorem l_1612 (F : Nat) (L : Nat) (xs : Nat → Int32) (rs : Nat → Int32) (rm : Nat → Nat → Int32) (ts : Nat → Int32) (tm : Nat → Nat → Int32) (rdue : Int32) (rtun : Int32) (rsee : Int32) (rbeg : Int32) (peff : Nat → Int32) (pkin : Nat → Int32) (pgri : Nat → Int32) (psig : Nat → Int32) (psee : Nat → Int32) (qsize : Int32) (qclause : Int32) (qeff : Nat → Int32) (qkin : Nat → Int32) (qgri : Nat → Int32) (qsig : Nat → Int32) (qsee : Nat → Int32) (cahe : Nat → Int64) (kdee : Nat → Int32) (know : Nat → Int64) (kahe : Nat → Nat → Int64) (fc : Nat → Int32) (lf : Int32) (told : Int32) (up : Int64) (lo : Int64) (zz : Nat → Int32) (tt : Nat → Int32) {n c d : Nat} {E : Nat → Int} {K : Nat → Nat} {S : Nat → Nat → Bool} {s s0 : Nat → Option Nat} (h : LH F L n c E K S peff pkin psig psee zz tt s0) (hk : KP n d s s0 kdee know) : (fL_law_n1612 F L xs (Int32.ofNat n) (Int32.ofNat (2 ^ n - 1)) (Int32.ofNat (inP s)) (Int32.ofNat (sg s 6)) (Int32.ofNat d) rs rm ts tm rdue rtun rsee rbeg (Int32.ofNat n) (Int32.ofNat c) peff pkin pgri psig psee qsize qclause qeff qkin qgri qsig qsee (Int32.ofNat d) (enc s) cahe kdee know kahe fc lf told up lo zz tt) = some 1 := by
  obtain ⟨hF, hL, hG, hs0, hin0, hz0, hzE, hzK, htt⟩ := id h
  obtain ⟨k0, n0, k1, n1, k2, hd, hs⟩ := id hk
  have hn := hG.n6
  unfold fL_law_n1612
  refine loop_up (fun fu (a : Int32) => fL_law_l1615 F L xs (Int32.ofNat n) (Int32.ofNat (2 ^ n - 1)) (Int32.ofNat (inP s)) (Int32.ofNat (sg s 6)) (Int32.ofNat d) rs rm ts tm rdue rtun rsee rbeg (Int32.ofNat n) (Int32.ofNat c) peff pkin pgri psig psee qsize qclause qeff qkin qgri qsig qsee (Int32.ofNat d) (enc s) cahe kdee know kahe fc lf told up lo zz tt fu a) n (fun k => Int32.ofNat k) (some 1) ?_ ?_ F (by omega)
  · intro fu k hkn
    have f0 : ¬ (Int32.ofNat n ≤ Int32.ofNat k) := of_eq_false (by rw [p_le (by omega) (by omega)]; exact p_nle hkn)
    obtain ⟨v, hv⟩ := y_cell F xs hL (k := 43) (by omega)
    obtain ⟨t, ht, et⟩ := y_part F v (m := 4) (by decide) (by decide)
    obtain ⟨w, hw⟩ := y_cell F xs hL (k := 44 + k) (by omega)
    obtain ⟨g, hg, eg⟩ := y_part F w (m := 21) (by decide) (by decide)
    obtain ⟨E1, E2⟩ := hG.E45 t ht
    have hgb := (gb_all (hG.K5 k hkn) ht E1 E2 (show g ≤ 20 by omega)).2.2
    have hz6 := gx (show 6 + k < 18 by omega) (by omega)
    have hz2 := gx (show 2 + t < 18 by omega) (by omega)
    rw [fL_law_l1615, fL_law_l1615_b, if_neg f0, show fL_cell F L xs (43 : Int32) = some v from hv, bd1_mk, show fL_part F v (4 : Int32) = some (Int32.ofNat t) from et, bd1_mk, show (44 : Int32) + Int32.ofNat k = Int32.ofNat (44 + k) from p_add 44 k, hw, bd1_mk, show fL_part F w (21 : Int32) = some (Int32.ofNat g) from eg, bd1_mk, show (6 : Int32) + Int32.ofNat k = Int32.ofNat (6 + k) from p_add 6 k, show (2 : Int32) + Int32.ofNat t = Int32.ofNat (2 + t) from p_add 2 t, p_cl (show 6 + k < 2147483648 by omega), p_cl (show 2 + t < 2147483648 by omega), if_neg hz6, if_neg hz2, hzK k hkn, hzE t ht, y_behind F (hG.K5 k hkn) ht E1 E2 (by omega), bd1_mk, cx_did F hG hs hF hkn ht hg (show gb (K k) t (E t) g < 21 by omega), bd1_mk, if_neg hz2, e4 E1 E2, oI_bit (by decide) (show (E t + 4).toNat < 10 by omega), show (((E t + 4).toNat : Nat) : Int) - 4 = E t by omega, if_pos (by rw [decide_eq_true rfl]; rfl), p_s]
  · intro fu
    rw [fL_law_l1615, fL_law_l1615_b, if_pos (Int32.le_refl _)]
    exact l_1703 (h := h) (hk := hk) ..
theorem l_1549 (F : Nat) (L : Nat) (xs : Nat → Int32) (rs : Nat → Int32) (rm : Nat → Nat → Int32) (ts : Nat → Int32) (tm : Nat → Nat → Int32) (rdue : Int32) (rtun : Int32) (rsee : Int32) (rbeg : Int32) (peff : Nat → Int32) (pkin : Nat → Int32) (pgri : Nat → Int32) (psig : Nat → Int32) (psee : Nat → Int32) (qsize : Int32) (qclause : Int32) (qeff : Nat → Int32) (qkin : Nat → Int32) (qgri : Nat → Int32) (qsig : Nat → Int32) (qsee : Nat → Int32) (cahe : Nat → Int64) (kdee : Nat → Int32) (know : Nat → Int64) (kahe : Nat → Nat → Int64) (fc : Nat → Int32) (lf : Int32) (told : Int32) (up : Int64) (lo : Int64) (zz : Nat → Int32) (tt : Nat → Int32) {n c d i q : Nat} {E : Nat → Int} {K tN : Nat → Nat} {S : Nat → Nat → Bool} {s s0 : Nat → Option Nat} (h : LH F L n c E K S peff pkin psig psee zz tt s0) (hk : KP n d s s0 kdee know) (hi : i < n) (hin : (s i).isSome = true) (hq : q ≤ 8) (hrs : rs 5 = Int32.ofNat (2 * q)) (ht : ∀ p, p < q → tN p < 4 ∧ rm 5 (2 * p) = Int32.ofNat (tN p) ∧ rm 5 (2 * p + 1) = Int32.ofNat (seqG (K i) E tN (gv s i) (p + 1))) : (fL_law_n1549 F L xs (Int32.ofNat n) (Int32.ofNat (2 ^ n - 1)) (Int32.ofNat (inP s)) (Int32.ofNat (sg s 6)) (Int32.ofNat d) (Int32.ofNat i) (Int32.ofNat (gv s i)) rs rm ts tm rdue rtun rsee rbeg (Int32.ofNat n) (Int32.ofNat c) peff pkin pgri psig psee qsize qclause qeff qkin qgri qsig qsee (Int32.ofNat d) (enc s) cahe kdee know kahe fc lf told up lo zz tt) = some 1 := by
  obtain ⟨hF, hL, hG, hs0, hin0, hz0, hzE, hzK, htt⟩ := id h
  obtain ⟨k0, n0, k1, n1, k2, hd, hs⟩ := id hk
  have hn := hG.n6
  have hg := hs.gv20 i
  have hK := hG.K5 i hi
  have hle := seqG_le (q := q) (tN := tN) hK hG.E45 (fun p hp => (ht p hp).1) hg
  have htN : ∀ p, p < q → tN p < 4 ∧ seqG (K i) E tN (gv s i) (p + 1) < 21 ∧ rm 5 (2 * p) = Int32.ofNat (tN p) ∧ rm 5 (2 * p + 1) = Int32.ofNat (seqG (K i) E tN (gv s i) (p + 1)) := fun p hp => ⟨(ht p hp).1, by have := hle (p + 1) (by omega); omega, (ht p hp).2⟩
  have ek := cx_kinds F hG hs hF fc lf (r := 5) (gN := fun p => seqG (K i) E tN (gv s i) (p + 1)) (by decide) hq hrs htN hi hin
  have ec := cx_came F hG hs hF fc lf (r := 5) (gN := fun p => seqG (K i) E tN (gv s i) (p + 1)) (by decide) hq hrs htN hi hin
  have b1 := oN_lt (p := fun k => allB (fun j => decide (Int32.ofNat (seqG k E tN (gv s i) (j + 1)) = Int32.ofNat (seqG (K i) E tN (gv s i) (j + 1)))) q) 6
  have b2 := oN_lt (p := fun k => allB (fun j => decide (Int32.ofNat (seqG (K i) E tN k (j + 1)) = Int32.ofNat (seqG (K i) E tN (gv s i) (j + 1)))) q) 21
  have w1 : ∀ m, m < 2 ^ 6 → ¬ ((63 : Int32) < Int32.ofNat m) := fun m hm => of_eq_false (by rw [show (63 : Int32) = Int32.ofNat 63 from rfl, p_lt (by omega) (by omega)]; exact eq_false (by omega))
  have w2 : ∀ m, m < 2 ^ 21 → Int32.ofNat m < (2097152 : Int32) := fun m hm => of_eq_true (by rw [show (2097152 : Int32) = Int32.ofNat 2097152 from rfl, p_lt (by omega) (by omega)]; exact eq_true (by omega))
  have hz6 := gx (show 6 + i < 18 by omega) (by omega)
  unfold fL_law_n1549
  rw [show (5 : Int32) = Int32.ofNat 5 from rfl, ek, bd3_mk, show (6 : Int32) + Int32.ofNat i = Int32.ofNat (6 + i) from p_add 6 i, p_cl (show 6 + i < 2147483648 by omega), if_neg hz6, hzK i hi, oI_bit (by decide) (show K i < 6 by omega), if_pos (by rw [allB_t q (fun j _ => decide_eq_true rfl)]; rfl), ec, bd3_mk, oI_bit (by decide) (show gv s i < 21 by omega), if_pos (by rw [allB_t q (fun j _ => decide_eq_true rfl)]; rfl), ek, bd3_mk, oI_oN 6 (by decide), if_neg (w1 _ b1), ec, bd3_mk, oI_oN 21 (by decide), if_pos (w2 _ b2)]
  exact l_1612 (h := h) (hk := hk) ..
theorem two_k (k : Nat) : (2 : Int32) * Int32.ofNat k = Int32.ofNat (2 * k) := p_mul 2 k
theorem l_1456 (F : Nat) (L : Nat) (xs : Nat → Int32) (rs : Nat → Int32) (rm : Nat → Nat → Int32) (ts : Nat → Int32) (tm : Nat → Nat → Int32) (rdue : Int32) (rtun : Int32) (rsee : Int32) (rbeg : Int32) (peff : Nat → Int32) (pkin : Nat → Int32) (pgri : Nat → Int32) (psig : Nat → Int32) (psee : Nat → Int32) (qsize : Int32) (qclause : Int32) (qeff : Nat → Int32) (qkin : Nat → Int32) (qgri : Nat → Int32) (qsig : Nat → Int32) (qsee : Nat → Int32) (cahe : Nat → Int64) (kdee : Nat → Int32) (know : Nat → Int64) (kahe : Nat → Nat → Int64) (fc : Nat → Int32) (lf : Int32) (told : Int32) (up : Int64) (lo : Int64) (zz : Nat → Int32) (tt : Nat → Int32) {n c d i q : Nat} {E : Nat → Int} {K : Nat → Nat} {S : Nat → Nat → Bool} {s s0 : Nat → Option Nat} (h : LH F L n c E K S peff pkin psig psee zz tt s0) (hk : KP n d s s0 kdee know) (hi : i < n) (hin : (s i).isSome = true) (hq : q ≤ 8) (hrs : rs 5 = Int32.ofNat (2 * q)) : (fL_law_n1456 F L xs (Int32.ofNat n) (Int32.ofNat (2 ^ n - 1)) (Int32.ofNat (inP s)) (Int32.ofNat (sg s 6)) (Int32.ofNat d) (Int32.ofNat i) (Int32.ofNat (gv s i)) (Int32.ofNat q) rs rm ts tm rdue rtun rsee rbeg (Int32.ofNat n) (Int32.ofNat c) peff pkin pgri psig psee qsize qclause qeff qkin qgri qsig qsee (Int32.ofNat d) (enc s) cahe kdee know kahe fc lf told up lo zz tt) = some 1 := by
  obtain ⟨hF, hL, hG, hs0, hin0, hz0, hzE, hzK, htt⟩ := id h
  obtain ⟨k0, n0, k1, n1, k2, hd, hs⟩ := id hk
  have hn := hG.n6
  have hg := hs.gv20 i
  have hK := hG.K5 i hi
  unfold fL_law_n1456
  refine loop_inv (fun fu (a : Int32 × Int32 × (Nat → Nat → Int32) × (Nat → Int32) × Int32 × Int32) => fL_law_l1463 F L xs (Int32.ofNat n) (Int32.ofNat (2 ^ n - 1)) (Int32.ofNat (inP s)) (Int32.ofNat (sg s 6)) (Int32.ofNat d) (Int32.ofNat i) (Int32.ofNat (gv s i)) (Int32.ofNat q) rs ts tm rdue rtun rsee rbeg (Int32.ofNat n) (Int32.ofNat c) peff pkin pgri psig psee qsize qclause qeff qkin qgri qsig qsee (Int32.ofNat d) (enc s) cahe kdee know kahe up lo zz tt fu a.1 a.2.1 a.2.2.1 a.2.2.2.1 a.2.2.2.2.1 a.2.2.2.2.2) q (fun k a => a.2.1 = Int32.ofNat k ∧ ∃ tN : Nat → Nat, (∀ p, p < k → tN p < 4 ∧ a.2.2.1 5 (2 * p) = Int32.ofNat (tN p) ∧ a.2.2.1 5 (2 * p + 1) = Int32.ofNat (seqG (K i) E tN (gv s i) (p + 1))) ∧ a.1 = Int32.ofNat (seqG (K i) E tN (gv s i) k)) (fun o => o = some 1) ?_ ?_ F (Int32.ofNat (gv s i), 0, rm, fc, lf, told) (by omega) ⟨rfl, fun _ => 0, fun p hp => absurd hp (Nat.not_lt_zero p), rfl⟩
  · rintro fu k ⟨x25, x26, rm, fc, lf, td⟩ hkq ⟨e1, tN, e2, e3⟩
    dsimp only at e1 e2 e3 ⊢
    subst e1; subst e3
    have f0 : ¬ (Int32.ofNat q ≤ Int32.ofNat k) := of_eq_false (by rw [p_le (by omega) (by omega)]; exact p_nle hkq)
    obtain ⟨v, hv⟩ := y_cell F xs hL (k := 42) (by omega)
    obtain ⟨t, ht, et⟩ := y_part F (v >>> (((2 : Int32) * Int32.ofNat k) &&& 31)) (m := 4) (by decide) (by decide)
    obtain ⟨E1, E2⟩ := hG.E45 t ht
    have hle := seqG_le (q := k) (tN := tN) hK hG.E45 (fun p hp => (e2 p hp).1) hg k (Nat.le_refl k)
    have hz6 := gx (show 6 + i < 18 by omega) (by omega)
    have hz2 := gx (show 2 + t < 18 by omega) (by omega)
    have hcg : ∀ j, j ≤ k → seqG (K i) E (fun p => if p = k then t else tN p) (gv s i) j = seqG (K i) E tN (gv s i) j := fun j hj => seqG_congr j fun p hp => if_neg (by omega)
    rw [fL_law_l1463, fL_law_l1463_b, if_neg f0, show fL_cell F L xs (42 : Int32) = some v from hv, bd1_mk, show fL_part F (v >>> (((2 : Int32) * Int32.ofNat k) &&& 31)) (4 : Int32) = some (Int32.ofNat t) from et, bd1_mk, show (6 : Int32) + Int32.ofNat i = Int32.ofNat (6 + i) from p_add 6 i, show (2 : Int32) + Int32.ofNat t = Int32.ofNat (2 + t) from p_add 2 t, p_cl (show 6 + i < 2147483648 by omega), p_cl (show 2 + t < 2147483648 by omega), if_neg hz6, if_neg hz2, hzK i hi, hzE t ht, y_behind F hK ht E1 E2 hle, bd1_mk, two_k, p_s, show (5 : Int32) = Int32.ofNat 5 from rfl, cx_lay F rm fc lf td _ (r := 5) (m := 2 * q) (i := 2 * k) (by decide) (by omega) hrs (by omega), bd5_mk, if_pos rfl, cx_lay F _ fc lf _ _ (r := 5) (m := 2 * q) (i := 2 * k + 1) (by decide) (by omega) hrs (by omega), bd5_mk, if_pos rfl, p_s]
    refine Or.inl ⟨((Int32.ofNat (gb (K i) t (E t) (seqG (K i) E tN (gv s i) k))), Int32.ofNat (k + 1), (va_up (va_up rm 5 (upd (rm 5) (2 * k) (Int32.ofNat t))) 5 (upd ((va_up rm 5 (upd (rm 5) (2 * k) (Int32.ofNat t))) 5) (2 * k + 1) (Int32.ofNat (gb (K i) t (E t) (seqG (K i) E tN (gv s i) k))))), fc, lf, (va_up rm 5 (upd (rm 5) (2 * k) (Int32.ofNat t))) 5 (2 * k + 1)), ⟨rfl, fun p => if p = k then t else tN p, ?_, ?_⟩, rfl⟩
    · intro p hp
      dsimp only
      rw [vaup_at, if_pos rfl, vaup_at, if_pos rfl, upd_at, upd_at, upd_at, upd_at]
      by_cases e : p = k
      · subst e
        rw [if_pos rfl, if_neg (by omega), if_pos rfl, if_pos rfl, seqG, hcg p (Nat.le_refl p), if_pos rfl]
        exact ⟨ht, rfl, rfl⟩
      · rw [if_neg e, if_neg (by omega), if_neg (by omega), if_neg (by omega), if_neg (by omega), hcg (p + 1) (by omega)]
        exact e2 p (by omega)
    · dsimp only
      rw [seqG, hcg k (Nat.le_refl k), if_pos rfl]
  · rintro fu ⟨x25, x26, rm, fc, lf, td⟩ ⟨e1, tN, e2, e3⟩
    dsimp only at e1 e2 e3 ⊢
    subst e1; subst e3
    rw [fL_law_l1463, fL_law_l1463_b, if_pos (Int32.le_refl _)]
    exact l_1549 (h := h) (hk := hk) (hi := hi) (hin := hin) (hq := hq) (hrs := hrs) (ht := e2) ..
theorem oI_all6 {f : Nat → Nat → Bool} : oI (fun k => allB (f k) 0) 6 = 63 := by
  rw [show (fun k => allB (f k) 0) = fun _ => true from rfl]
  decide
theorem oI_all21 {f : Nat → Nat → Bool} : oI (fun k => allB (f k) 0) 21 = 2097151 := by
  rw [show (fun k => allB (f k) 0) = fun _ => true from rfl]
  decide
theorem l_1364 (F : Nat) (L : Nat) (xs : Nat → Int32) (rs : Nat → Int32) (rm : Nat → Nat → Int32) (ts : Nat → Int32) (tm : Nat → Nat → Int32) (rdue : Int32) (rtun : Int32) (rsee : Int32) (rbeg : Int32) (peff : Nat → Int32) (pkin : Nat → Int32) (pgri : Nat → Int32) (psig : Nat → Int32) (psee : Nat → Int32) (qsize : Int32) (qclause : Int32) (qeff : Nat → Int32) (qkin : Nat → Int32) (qgri : Nat → Int32) (qsig : Nat → Int32) (qsee : Nat → Int32) (cahe : Nat → Int64) (kdee : Nat → Int32) (know : Nat → Int64) (kahe : Nat → Nat → Int64) (fc : Nat → Int32) (lf : Int32) (up : Int64) (lo : Int64) (zz : Nat → Int32) (tt : Nat → Int32) {n c d i : Nat} {E : Nat → Int} {K : Nat → Nat} {S : Nat → Nat → Bool} {s s0 : Nat → Option Nat} (h : LH F L n c E K S peff pkin psig psee zz tt s0) (hk : KP n d s s0 kdee know) (hi : i < n) : (fL_law_n1364 F L xs (Int32.ofNat n) (Int32.ofNat (2 ^ n - 1)) (Int32.ofNat (inP s)) (Int32.ofNat (sg s 6)) (Int32.ofNat d) (Int32.ofNat i) rs rm ts tm rdue rtun rsee rbeg (Int32.ofNat n) (Int32.ofNat c) peff pkin pgri psig psee qsize qclause qeff qkin qgri qsig qsee (Int32.ofNat d) (enc s) cahe kdee know kahe fc lf (if (s i).isSome = true then 0 else 1) up lo zz tt) = some 1 := by
  obtain ⟨hF, hL, hG, hs0, hin0, hz0, hzE, hzK, htt⟩ := id h
  obtain ⟨k0, n0, k1, n1, k2, hd, hs⟩ := id hk
  have hn := hG.n6
  unfold fL_law_n1364
  rw [asked_y, bd1_mk]
  cases hin : (s i).isSome with
  | false =>
    rw [if_neg (by decide), if_neg (by decide)]
    exact l_1612 (h := h) (hk := hk) ..
  | true =>
    have hrs5 : upd rs 5 (Int32.ofNat 0) 5 = Int32.ofNat (2 * 0) := rfl
    have no : ∀ (rm : Nat → Nat → Int32) (p : Nat), p < 0 → (fun _ => 0 : Nat → Nat) p < 4 ∧ (fun _ => 0 : Nat → Nat) p < 21 ∧ rm 5 (2 * p) = Int32.ofNat ((fun _ => 0 : Nat → Nat) p) ∧ rm 5 (2 * p + 1) = Int32.ofNat ((fun _ => 0 : Nat → Nat) p) := fun rm p hp => absurd hp (Nat.not_lt_zero p)
    obtain ⟨v, hv⟩ := y_cell F xs hL (k := 41) (by omega)
    obtain ⟨p, hp, ep⟩ := y_part F v (m := 8) (by decide) (by decide)
    have g1 := cx_guest1 F hG hs hF (if true = true then 0 else 1) hi
    rw [if_pos rfl, if_pos rfl, show fX5_row F rs rm fc lf (5 : Int32) (0 : Int32) = _ from cx_row F rs rm fc lf (r := 5) (m := 0) (by decide) (by decide) hF, bd5_mk, if_pos (by rfl), show (5 : Int32) = Int32.ofNat 5 from rfl, cx_kinds F hG hs hF fc lf (r := 5) (q := 0) (tN := fun _ => 0) (gN := fun _ => 0) (by decide) (by decide) hrs5 (no _) hi hin, bd3_mk, if_pos oI_all6, cx_came F hG hs hF fc lf (r := 5) (q := 0) (tN := fun _ => 0) (gN := fun _ => 0) (by decide) (by decide) hrs5 (no _) hi hin, bd3_mk, if_pos oI_all21, cx_guest1 F hG hs hF _ hi, bd2_mk, if_pos rfl]
    unfold fL_law_n1417
    rw [asked_y, bd1_mk, show fL_cell F L xs (41 : Int32) = some v from hv, bd1_mk, show fL_part F v (8 : Int32) = some (Int32.ofNat p) from ep, bd1_mk, show (1 : Int32) = Int32.ofNat 1 from rfl, p_add, two_k, show (5 : Int32) = Int32.ofNat 5 from rfl, cx_row F _ _ fc lf (r := 5) (m := 2 * (1 + p)) (by decide) (by omega) hF, bd5_mk, if_pos rfl]
    exact l_1456 (h := h) (hk := hk) (hi := hi) (hin := hin) (hq := by omega) (hrs := rfl) ..
theorem l_1338 (F : Nat) (L : Nat) (xs : Nat → Int32) (rs : Nat → Int32) (rm : Nat → Nat → Int32) (ts : Nat → Int32) (tm : Nat → Nat → Int32) (rdue : Int32) (rtun : Int32) (rsee : Int32) (rbeg : Int32) (peff : Nat → Int32) (pkin : Nat → Int32) (pgri : Nat → Int32) (psig : Nat → Int32) (psee : Nat → Int32) (qsize : Int32) (qclause : Int32) (qeff : Nat → Int32) (qkin : Nat → Int32) (qgri : Nat → Int32) (qsig : Nat → Int32) (qsee : Nat → Int32) (cahe : Nat → Int64) (kdee : Nat → Int32) (know : Nat → Int64) (kahe : Nat → Nat → Int64) (fc : Nat → Int32) (lf : Int32) (told : Int32) (up : Int64) (lo : Int64) (zz : Nat → Int32) (tt : Nat → Int32) {n c d : Nat} {E : Nat → Int} {K : Nat → Nat} {S : Nat → Nat → Bool} {s s0 : Nat → Option Nat} (h : LH F L n c E K S peff pkin psig psee zz tt s0) (hk : KP n d s s0 kdee know) : (fL_law_n1338 F L xs (Int32.ofNat n) (Int32.ofNat (2 ^ n - 1)) (Int32.ofNat (inP s)) (Int32.ofNat (sg s 6)) (Int32.ofNat d) rs rm ts tm rdue rtun rsee rbeg (Int32.ofNat n) (Int32.ofNat c) peff pkin pgri psig psee qsize qclause qeff qkin qgri qsig qsee (Int32.ofNat d) (enc s) cahe kdee know kahe fc lf told up lo zz tt) = some 1 := by
  obtain ⟨hF, hL, hG, hs0, hin0, hz0, hzE, hzK, htt⟩ := id h
  obtain ⟨k0, n0, k1, n1, k2, hd, hs⟩ := id hk
  obtain ⟨v, hv⟩ := y_cell F xs hL (k := 40) (by omega)
  obtain ⟨i, hi, ei⟩ := y_part F v (m := n) hG.n0 (by have := hG.n6; omega)
  unfold fL_law_n1338
  rw [show fL_cell F L xs (40 : Int32) = some v from hv, bd1_mk, ei, bd1_mk, cx_guest2 F hG hs hF told hi, bd2_mk, if_pos rfl]
  exact l_1364 (h := h) (hk := hk) (hi := hi) ..
theorem l_1292 (F : Nat) (L : Nat) (xs : Nat → Int32) (rs : Nat → Int32) (rm : Nat → Nat → Int32) (ts : Nat → Int32) (tm : Nat → Nat → Int32) (rdue : Int32) (rtun : Int32) (rsee : Int32) (rbeg : Int32) (peff : Nat → Int32) (pkin : Nat → Int32) (pgri : Nat → Int32) (psig : Nat → Int32) (psee : Nat → Int32) (qsize : Int32) (qclause : Int32) (qeff : Nat → Int32) (qkin : Nat → Int32) (qgri : Nat → Int32) (qsig : Nat → Int32) (qsee : Nat → Int32) (cahe : Nat → Int64) (kdee : Nat → Int32) (know : Nat → Int64) (kahe : Nat → Nat → Int64) (fc : Nat → Int32) (lf : Int32) (told : Int32) (up : Int64) (lo : Int64) (zz : Nat → Int32) (tt : Nat → Int32) {n c d : Nat} {E : Nat → Int} {K : Nat → Nat} {S : Nat → Nat → Bool} {s s0 : Nat → Option Nat} (h : LH F L n c E K S peff pkin psig psee zz tt s0) (hk : KP n d s s0 kdee know) : (fL_law_n1292 F L xs (Int32.ofNat n) (Int32.ofNat (2 ^ n - 1)) (Int32.ofNat (inP s)) (Int32.ofNat (sg s 6)) (Int32.ofNat d) rs rm ts tm rdue rtun rsee rbeg (Int32.ofNat n) (Int32.ofNat c) peff pkin pgri psig psee qsize qclause qeff qkin qgri qsig qsee (Int32.ofNat d) (enc s) cahe kdee know kahe fc lf told up lo zz tt) = some 1 := by
  obtain ⟨hF, hL, hG, hs0, hin0, hz0, hzE, hzK, htt⟩ := id h
  obtain ⟨k0, n0, k1, n1, k2, hd, hs⟩ := id hk
  have hpl : inP s ≤ 6 := pop_le _
  have a0 := cx_aunt F hG hs hF (N := 0) (by decide)
  have a1 := cx_aunt F hG hs hF (N := 1) (by decide)
  have a2 := cx_aunt F hG hs hF (N := 2) (by decide)
  rw [show bandV n c E K S 0 s = inP s from rfl, Nat.sub_self] at a0
  have w1 : ¬ (Int32.ofNat (inP s) < Int32.ofNat (inP s - bandV n c E K S 1 s)) := of_eq_false (by rw [p_lt (by omega) (by omega)]; exact eq_false (by omega))
  have w2 : Int32.ofNat (inP s - bandV n c E K S 2 s) ≤ Int32.ofNat (inP s) := of_eq_true (by rw [p_le (by omega) (by omega)]; exact eq_true (by omega))
  unfold fL_law_n1292
  have a0 : fX5_aunt F (Int32.ofNat n) (Int32.ofNat c) peff pkin psee (enc s) (0 : Int32) = some (0 : Int32) := a0
  have a1 : fX5_aunt F (Int32.ofNat n) (Int32.ofNat c) peff pkin psee (enc s) (1 : Int32) = _ := a1
  have a2 : fX5_aunt F (Int32.ofNat n) (Int32.ofNat c) peff pkin psee (enc s) (2 : Int32) = _ := a2
  rw [a0, bd1_mk, if_pos rfl, a1, bd1_mk, if_neg (of_eq_false (p_neg (by omega))), bd1_mk, if_neg w1, a2, bd1_mk, if_neg (of_eq_false (p_neg (by omega))), bd1_mk, if_pos w2]
  exact l_1338 (h := h) (hk := hk) ..
theorem bW_fst {p : Nat → Bool} : (∃ k, k < 7 ∧ fstO p 7 = some k) ∨ fstO p 7 = none := by
  cases h : fstO p 7 with
  | none => exact Or.inr rfl
  | some k => exact Or.inl ⟨k, fstO_lt h, rfl⟩
theorem l_1244 (F : Nat) (L : Nat) (xs : Nat → Int32) (rs : Nat → Int32) (rm : Nat → Nat → Int32) (ts : Nat → Int32) (tm : Nat → Nat → Int32) (rdue : Int32) (rtun : Int32) (rsee : Int32) (rbeg : Int32) (peff : Nat → Int32) (pkin : Nat → Int32) (pgri : Nat → Int32) (psig : Nat → Int32) (psee : Nat → Int32) (qsize : Int32) (qclause : Int32) (qeff : Nat → Int32) (qkin : Nat → Int32) (qgri : Nat → Int32) (qsig : Nat → Int32) (qsee : Nat → Int32) (cahe : Nat → Int64) (kdee : Nat → Int32) (know : Nat → Int64) (kahe : Nat → Nat → Int64) (fc : Nat → Int32) (lf : Int32) (told : Int32) (up : Int64) (lo : Int64) (zz : Nat → Int32) (tt : Nat → Int32) {n c d : Nat} {E : Nat → Int} {K : Nat → Nat} {S : Nat → Nat → Bool} {s s0 : Nat → Option Nat} (h : LH F L n c E K S peff pkin psig psee zz tt s0) (hk : KP n d s s0 kdee know) : (fL_law_n1244 F L xs (Int32.ofNat n) (Int32.ofNat (2 ^ n - 1)) (Int32.ofNat (inP s)) (Int32.ofNat (sg s 6)) (Int32.ofNat d) rs rm ts tm rdue rtun rsee rbeg (Int32.ofNat n) (Int32.ofNat c) peff pkin pgri psig psee qsize qclause qeff qkin qgri qsig qsee (Int32.ofNat d) (enc s) cahe kdee know kahe fc lf told up lo zz tt) = some 1 := by
  obtain ⟨hF, hL, hG, hs0, hin0, hz0, hzE, hzK, htt⟩ := id h
  obtain ⟨k0, n0, k1, n1, k2, hd, hs⟩ := id hk
  have hsg := sg_le hs 6
  have e0 : anyN (chB c E K S 0 s) (4 ^ 0) = decide (sg s 6 = 0) := by
    show (false || chB c E K S 0 s 0) = _
    rw [Bool.false_or]
    unfold chB
    rw [lv_0, decide_eq_true rfl, Bool.true_and]
    rfl
  have f0 : fstO (fun N => anyN (chB c E K S N s) (4 ^ N)) 7 = some 0 ↔ sg s 6 = 0 := by
    rw [fstO_some]
    rw [e0, decide_eq_true_eq]
    exact ⟨fun q => q.2.1, fun q => ⟨by decide, q, fun j hj => absurd hj (Nat.not_lt_zero j)⟩⟩
  unfold fL_law_n1244
  rw [cx_gay F hG hs hF, bd1_mk]
  have fin : ∀ x : Int32, (x = 0 ↔ sg s 6 = 0) → (fL_law_n1269 F L xs (Int32.ofNat n) (Int32.ofNat (2 ^ n - 1)) (Int32.ofNat (inP s)) (Int32.ofNat (sg s 6)) (Int32.ofNat d) x rs rm ts tm rdue rtun rsee rbeg (Int32.ofNat n) (Int32.ofNat c) peff pkin pgri psig psee qsize qclause qeff qkin qgri qsig qsee (Int32.ofNat d) (enc s) cahe kdee know kahe fc lf told up lo zz tt) = some 1 := by
    intro x hx
    have w : (Int32.ofNat (sg s 6) = 0) = (sg s 6 = 0) := p_e0 (by omega)
    unfold fL_law_n1269 fL_law_n1289
    by_cases h0 : sg s 6 = 0
    · rw [if_pos (hx.mpr h0), if_pos (by rw [w]; exact h0), if_pos rfl]
      exact l_1292 (h := h) (hk := hk) ..
    · rw [if_neg (fun q => h0 (hx.mp q)), if_neg (by rw [w]; exact h0), if_pos rfl]
      exact l_1292 (h := h) (hk := hk) ..
  rcases bW_fst (p := fun N => anyN (chB c E K S N s) (4 ^ N)) with ⟨k, hk7, e⟩ | e
  · have w6 : ¬ ((6 : Int32) < Int32.ofNat k) := of_eq_false (by rw [show (6 : Int32) = Int32.ofNat 6 from rfl, p_lt (by omega) (by omega)]; exact eq_false (by omega))
    rw [e, show bW (some k) = Int32.ofNat k from rfl, if_neg w6, if_pos (of_eq_true (p_ge0 (by omega)))]
    refine fin _ ?_
    rw [p_e0 (by omega), ← f0, e]
    exact ⟨fun q => by rw [q], fun q => Option.some.inj q⟩
  · rw [e, show bW none = (-9 : Int32) from rfl, if_neg (by decide), if_neg (by decide), if_pos rfl]
    refine fin _ ⟨fun q => absurd q (by decide), fun q => ?_⟩
    rw [f0.mpr q] at e
    cases e
