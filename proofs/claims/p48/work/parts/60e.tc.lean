theorem code_tab : ∀ k, k < 36 → Int32.ofNat k / (6 : Int32) = Int32.ofNat (k / 6) ∧ Int32.ofNat k - Int32.ofNat k / (6 : Int32) * (6 : Int32) = Int32.ofNat (k % 6) := by decide +kernel
theorem a8_tab : ∀ a, a < 6 → (8 : Int32) + Int32.ofNat a = Int32.ofNat (8 + a) ∧ (12 : Int32) + Int32.ofNat a = Int32.ofNat (12 + a) ∧ (48 : Int32) + Int32.ofNat a = Int32.ofNat (48 + a) ∧ (6 : Int32) + Int32.ofNat a = Int32.ofNat (6 + a) ∧ (2 : Int32) + Int32.ofNat a = Int32.ofNat (2 + a) := by decide +kernel
/-- the sights: what holds when the code is at k -/
def IS (n c : Nat) (E : Nat → Int) (K g : Nat → Nat) (F : Nat) (q0 : RdS) (k : Nat) (x6 x7 x8 : Int32) (tm : Nat → Nat → Int32) (zz : Nat → Int32) : Prop := x8 = Int32.ofNat k ∧ ∃ (at' cnt : Nat) (S : Nat → Nat → Bool) (tun see beg : Int32) (eff kin gri sig sees : Nat → Int32), x6 = Int32.ofNat at' ∧ x7 = Int32.ofNat cnt ∧ cnt ≤ 14 ∧ at' ≤ 24 + 3 * cnt ∧ (∀ p, at' ≤ p → p < 80 → tm 2 p = 32) ∧ rd F q0 (tm 2) at' = some (mkR 3 tun see beg (Int32.ofNat n) (Int32.ofNat c) eff kin gri sig sees) ∧ (∀ k, k < 4 → -4 ≤ E k ∧ E k ≤ 5 ∧ eff k = Int32.ofInt (E k)) ∧ (∀ i, i < n → K i ≤ 5 ∧ kin i = Int32.ofNat (K i)) ∧ (∀ i, i < n → g i ≤ 9 ∧ gri i = Int32.ofNat (g i)) ∧ (∀ i, i < 6 → sig i = st (S i) ∧ sees i = st (fun j => S j i)) ∧ (∀ i j, S i j = true → i < n ∧ j < n ∧ 6 * i + j < k) ∧ zz 0 = Int32.ofNat n ∧ zz 1 = Int32.ofNat c ∧ (∀ k, k < 4 → zz (2 + k) = Int32.ofInt (E k)) ∧ ∀ i, i < n → zz (6 + i) = Int32.ofNat (K i)
theorem t_328 (p6 : Nat) (p12 : Nat) (L : Nat) (xs : Nat → Int32) (rs : Nat → Int32) (ts : Nat → Int32) (rdue : Int32) (rtun : Int32) (rsee : Int32) (rbeg : Int32) (psize : Int32) (pclause : Int32) (peff : Nat → Int32) (pkin : Nat → Int32) (pgri : Nat → Int32) (psig : Nat → Int32) (psee : Nat → Int32) (qsize : Int32) (qclause : Int32) (qeff : Nat → Int32) (qkin : Nat → Int32) (qgri : Nat → Int32) (qsig : Nat → Int32) (qsee : Nat → Int32) (cdee : Int32) (cnow : Int64) (kdee : Nat → Int32) (tt : Nat → Int32) (F : Nat) (hF : 1000000 ≤ F) (hL : L ≤ 260) (hts : ts 2 = 80) {q0 : RdS} {n c : Nat} {E : Nat → Int} {K g : Nat → Nat} (h0 : 0 < n) (hn : n ≤ 6) (hc : c ≤ 9) (hq0 : ∀ txt : Nat → Int32, ∀ at' n tun see beg cl eff kin gri sig sees, at' ≤ 80 → 0 < n → n ≤ 6 → (∀ p, at' ≤ p → p < 80 → txt p = 32) → rd F q0 txt at' = some (mkR 3 tun see beg (Int32.ofNat n) cl eff kin gri sig sees) → fX4_faultOf F rdue rtun rsee rbeg txt qsize qclause qeff qkin qgri qsig qsee (Int32.ofNat 80) = some (-9, 3, tun, see, beg, Int32.ofNat n, cl, eff, kin, gri, sig, sees)) (htt : ∀ i, i < 6 → tt i = Int32.ofNat (gv (inn n g) i)) (x6 : Int32) (tm : Nat → Nat → Int32) (fc : Nat → Int32) (lf : Int32) (zz : Nat → Int32) (hI : IS n c E K g F q0 0 x6 0 0 tm zz) : TOK (fL_tells_l328 F p6 p12 L xs rs ts rdue rtun rsee rbeg psize pclause peff pkin pgri psig psee qsize qclause qeff qkin qgri qsig qsee cdee cnow kdee tt F x6 (0 : Int32) (0 : Int32) tm fc lf zz) := by
  have done : ∀ (k : Nat) (x6 x7 x8 : Int32) (tm : Nat → Nat → Int32) (fc : Nat → Int32) (lf : Int32) (zz : Nat → Int32), IS n c E K g F q0 k x6 x7 x8 tm zz → TOK (fL_tells_n487 F p6 p12 L xs rs ts tm rdue rtun rsee rbeg psize pclause peff pkin pgri psig psee qsize qclause qeff qkin qgri qsig qsee cdee cnow kdee fc lf zz tt) := by
    rintro k x6 x7 x8 tm fc lf zz ⟨-, at', cnt, S, tun, see, beg, eff, kin, gri, sig, sees, -, -, i1, i2, i3, i4, i5, i6, i7, i8, i9, z0, z1, z2, z3⟩
    exact t_487 (hF := hF) (hts := hts) (hq0 := hq0 (tm 2)) (hat := by omega) (h0 := h0) (hn := hn) (hc := hc) (hbl := i3) (hrd := i4) (hE := i5) (hK := i6) (hgr := i7) (hS := i8) (hSn := fun i j h => ⟨(i9 i j h).1, (i9 i j h).2.1⟩) (hz0 := z0) (hz1 := z1) (hzE := z2) (hzK := z3) (htt := htt) ..
  refine loop_inv (fun fu (a : Int32 × Int32 × Int32 × (Nat → Nat → Int32) × (Nat → Int32) × Int32 × (Nat → Int32)) => fL_tells_l328 F p6 p12 L xs rs ts rdue rtun rsee rbeg psize pclause peff pkin pgri psig psee qsize qclause qeff qkin qgri qsig qsee cdee cnow kdee tt fu a.1 a.2.1 a.2.2.1 a.2.2.2.1 a.2.2.2.2.1 a.2.2.2.2.2.1 a.2.2.2.2.2.2) 36 (fun k a => IS n c E K g F q0 k a.1 a.2.1 a.2.2.1 a.2.2.2.1 a.2.2.2.2.2.2) TOK ?_ ?_ F (x6, 0, 0, tm, fc, lf, zz) (by omega) hI
  · rintro fu k ⟨x6, x7, x8, tm, fc, lf, zz⟩ hk hI
    dsimp only at hI ⊢
    have hd := done k x6 x7 x8 tm fc lf zz hI
    obtain ⟨rfl, at', cnt, S, tun, see, beg, eff, kin, gri, sig, sees, rfl, rfl, i1, i2, i3, i4, i5, i6, i7, i8, i9, z0, z1, z2, z3⟩ := hI
    obtain ⟨c1, c2⟩ := code_tab k hk
    have ha : k / 6 < 6 := by omega
    have hb : k % 6 < 6 := Nat.mod_lt _ (by decide)
    obtain ⟨d1, d2, d3, -, -⟩ := a8_tab (k / 6) ha
    obtain ⟨-, -, d4, -, -⟩ := a8_tab (k % 6) hb
    have skip : IS n c E K g F q0 (k + 1) (Int32.ofNat at') (Int32.ofNat cnt) (Int32.ofNat (k + 1)) tm zz := ⟨rfl, at', cnt, S, tun, see, beg, eff, kin, gri, sig, sees, rfl, rfl, i1, i2, i3, i4, i5, i6, i7, i8, fun i j h => ⟨(i9 i j h).1, (i9 i j h).2.1, by have := (i9 i j h).2.2; omega⟩, z0, z1, z2, z3⟩
    have f0 : ¬ ((36 : Int32) ≤ Int32.ofNat k) := of_eq_false (by rw [show (36 : Int32) = Int32.ofNat 36 from rfl, p_le (by omega) (by omega)]; exact p_nle hk)
    rw [fL_tells_l328, fL_tells_l328_b, if_neg f0, c1]
    rw [c1] at c2
    rw [c2, show (0 : Int32).toNatClampNeg = 0 from rfl, z0, p_s]
    by_cases h14 : 14 ≤ cnt
    · rw [if_pos (of_eq_true (by rw [show (14 : Int32) = Int32.ofNat 14 from rfl, p_le (by omega) (by omega)]; exact eq_true h14))]
      exact Or.inr hd
    rw [if_neg (of_eq_false (by rw [show (14 : Int32) = Int32.ofNat 14 from rfl, p_le (by omega) (by omega)]; exact eq_false h14))]
    by_cases hab : k / 6 = k % 6
    · rw [if_pos (by rw [hab])]
      exact Or.inl ⟨(Int32.ofNat at', Int32.ofNat cnt, Int32.ofNat (k + 1), tm, fc, lf, zz), skip, rfl⟩
    rw [if_neg (of_eq_false (by rw [p_eq (by omega) (by omega)]; exact eq_false hab))]
    by_cases han : n ≤ k / 6
    · rw [if_pos (of_eq_true (by rw [p_le (by omega) (by omega)]; exact eq_true han))]
      exact Or.inl ⟨(Int32.ofNat at', Int32.ofNat cnt, Int32.ofNat (k + 1), tm, fc, lf, zz), skip, rfl⟩
    rw [if_neg (of_eq_false (by rw [p_le (by omega) (by omega)]; exact eq_false han))]
    by_cases hbn : n ≤ k % 6
    · rw [if_pos (of_eq_true (by rw [p_le (by omega) (by omega)]; exact eq_true hbn))]
      exact Or.inl ⟨(Int32.ofNat at', Int32.ofNat cnt, Int32.ofNat (k + 1), tm, fc, lf, zz), skip, rfl⟩
    rw [if_neg (of_eq_false (by rw [p_le (by omega) (by omega)]; exact eq_false hbn))]
    obtain ⟨v, hv⟩ := y_cell F xs hL (k := 8 + k / 6) (by omega)
    rw [d1, hv, bd1_mk]
    obtain ⟨r, hr, e⟩ := y_part F (v >>> (((2 : Int32) * Int32.ofNat (k % 6)) &&& 31)) (m := 4) (by decide) (by decide)
    rw [show (4 : Int32) = Int32.ofNat 4 from rfl, e, bd1_mk]
    by_cases hr1 : r ≤ 1
    rotate_left
    · rw [if_neg (of_eq_false (by rw [show (1 : Int32) = Int32.ofNat 1 from rfl, p_le (by omega) (by omega)]; exact eq_false hr1))]
      exact Or.inl ⟨(Int32.ofNat at', Int32.ofNat cnt, Int32.ofNat (k + 1), tm, fc, lf, zz), skip, rfl⟩
    rw [if_pos (of_eq_true (by rw [show (1 : Int32) = Int32.ofNat 1 from rfl, p_le (by omega) (by omega)]; exact eq_true hr1))]
    -- a sight told
    have hz := gx (show 12 + k / 6 < 18 by omega) (by omega)
    have hnew : S (k / 6) (k % 6) = false := by
      cases e : S (k / 6) (k % 6)
      · rfl
      · have := (i9 _ _ e).2.2
        omega
    have hbit : ((sig (k / 6) >>> (Int32.ofNat (k % 6) &&& 31)) &&& (1 : Int32)) = 0 := by
      rw [(i8 (k / 6) ha).1, st_bit _ hb, hnew]
      rfl
    unfold fL_tells_n404
    rw [d2, p_cl (show 12 + k / 6 < 2147483648 by omega), if_neg hz, if_neg hz, show (120 : Int32) = Int32.ofNat 120 from rfl, cx_put F fc lf (show at' < 80 by omega) (by decide) hts (i3 at' (by omega) (by omega)), bd4_mk, if_pos rfl, d3, p_s, cx_put F fc lf (show at' + 1 < 80 by omega) (show 48 + k / 6 < 128 by omega) hts (by rw [va_up2, upd_at, if_neg (by omega)]; exact i3 (at' + 1) (by omega) (by omega)), bd4_mk, if_pos rfl, d4, show Int32.ofNat at' + 2 = Int32.ofNat (at' + 2) from p_add _ _, cx_put F fc lf (show at' + 2 < 80 by omega) (show 48 + k % 6 < 128 by omega) hts (by rw [va_up2, va_up2, upd_at, if_neg (by omega), upd_at, if_neg (by omega)]; exact i3 (at' + 2) (by omega) (by omega)), bd4_mk, if_pos rfl, show Int32.ofNat at' + 3 = Int32.ofNat (at' + 3) from p_add _ _, p_s, p_s]
    refine Or.inl ⟨(Int32.ofNat (at' + 3), Int32.ofNat (cnt + 1), Int32.ofNat (k + 1), (va_up (va_up (va_up tm 2 (upd (tm 2) at' (Int32.ofNat 120))) 2 (upd ((va_up tm 2 (upd (tm 2) at' (Int32.ofNat 120))) 2) (at' + 1) (Int32.ofNat (48 + k / 6)))) 2 (upd ((va_up (va_up tm 2 (upd (tm 2) at' (Int32.ofNat 120))) 2 (upd ((va_up tm 2 (upd (tm 2) at' (Int32.ofNat 120))) 2) (at' + 1) (Int32.ofNat (48 + k / 6)))) 2) (at' + 2) (Int32.ofNat (48 + k % 6)))), fc, lf, (upd zz (12 + k / 6) (zz (12 + k / 6) ||| ((1 : Int32) <<< (Int32.ofNat (k % 6) &&& 31))))), ?_, rfl⟩
    dsimp only
    have r1 := rd_put i4 (rd_x h0 hn)
    have r2 := rd_put r1 (rd_seer (show k / 6 < n by omega) hn)
    have r3 := rd_put r2 (rd_seen (show k / 6 < n by omega) (show k % 6 < n by omega) hn (Ne.symm hab) hbit)
    refine ⟨rfl, at' + 3, cnt + 1, fun i j => S i j || (decide (i = k / 6) && decide (j = k % 6)), tun, Int32.ofNat (k / 6), 1, eff, kin, gri, upd sig (k / 6) (sig (k / 6) ||| ((1 : Int32) <<< (Int32.ofNat (k % 6) &&& 31))), upd sees (k % 6) (sees (k % 6) ||| ((1 : Int32) <<< (Int32.ofNat (k / 6) &&& 31))), rfl, rfl, by omega, by omega, ?_, ?_, i5, i6, i7, ?_, ?_, ?_, ?_, fun q hq => ?_, fun i hi => ?_⟩
    · rw [va_up2, va_up2, va_up2]
      exact bl_put (bl_put (bl_put i3))
    · rw [va_up2, va_up2, va_up2]
      exact r3
    · intro i hi
      constructor
      · rw [upd_at]
        by_cases h : i = k / 6
        · rw [if_pos h, (i8 (k / 6) ha).1, st_one hb, st_or, h]
          exact st_congr fun j _ => by rw [show (j == k % 6) = decide (j = k % 6) from rfl]; simp
        · rw [if_neg h, (i8 i hi).1]
          exact st_congr fun j _ => by simp [h]
      · rw [upd_at]
        by_cases h : i = k % 6
        · rw [if_pos h, (i8 (k % 6) hb).2, st_one ha, st_or, h]
          exact st_congr fun j _ => by rw [show (j == k / 6) = decide (j = k / 6) from rfl]; simp
        · rw [if_neg h, (i8 i hi).2]
          exact st_congr fun j _ => by simp [h]
    · intro i j h
      rw [Bool.or_eq_true, Bool.and_eq_true, decide_eq_true_eq, decide_eq_true_eq] at h
      rcases h with h | ⟨h1, h2⟩
      · obtain ⟨a1, a2, a3⟩ := i9 i j h
        exact ⟨a1, a2, by omega⟩
      · subst h1; subst h2
        exact ⟨by omega, by omega, by omega⟩
    · rw [upd_at, if_neg (by omega)]; exact z0
    · rw [upd_at, if_neg (by omega)]; exact z1
    · rw [upd_at, if_neg (by omega)]; exact z2 q hq
    · rw [upd_at, if_neg (by omega)]; exact z3 i hi
  · rintro fu ⟨x6, x7, x8, tm, fc, lf, zz⟩ hI
    dsimp only at hI ⊢
    have hd := done 36 x6 x7 x8 tm fc lf zz hI
    obtain ⟨rfl, -⟩ := hI
    rw [fL_tells_l328, fL_tells_l328_b, if_pos (show (36 : Int32) ≤ Int32.ofNat 36 by decide)]
    exact hd
