theorem i_sm : ∀ p, p < 32 → ((Int32.ofNat p).toBitVec.smod 32) = BitVec.ofNat 32 p := by decide +kernel
theorem i_shr {N p : Nat} (hN : N < 2 ^ 31) (hp : p < 32) : Int32.ofNat N >>> Int32.ofNat p = Int32.ofNat (N / 2 ^ p) := by
  apply Int32.toBitVec_inj.1
  rw [Int32.toBitVec_shiftRight]
  rw [show (32 : BitVec 32) = 32 from rfl, i_sm p hp]
  show BitVec.sshiftRight (BitVec.ofNat 32 N) (BitVec.ofNat 32 p).toNat = BitVec.ofNat 32 (N / 2 ^ p)
  rw [BitVec.sshiftRight_eq_of_msb_false (by rw [BitVec.msb_eq_false_iff_two_mul_lt, BitVec.toNat_ofNat, Nat.mod_eq_of_lt (by omega)]; omega)]
  apply BitVec.eq_of_toNat_eq
  have hd : N / 2 ^ p ≤ N := Nat.div_le_self _ _
  rw [BitVec.toNat_ushiftRight, BitVec.toNat_ofNat, BitVec.toNat_ofNat, BitVec.toNat_ofNat, Nat.mod_eq_of_lt (a := N) (by omega), Nat.mod_eq_of_lt (a := p) (by omega), Nat.mod_eq_of_lt (a := N / 2 ^ p) (by omega), Nat.shiftRight_eq_div_pow]
theorem i_and3 {N : Nat} (hN : N < 2 ^ 31) : Int32.ofNat N &&& (3 : Int32) = Int32.ofNat (N % 4) := by
  apply Int32.toBitVec_inj.1
  rw [Int32.toBitVec_and]
  apply BitVec.eq_of_toNat_eq
  show ((BitVec.ofNat 32 N) &&& (BitVec.ofNat 32 (2 ^ 2 - 1))).toNat = (BitVec.ofNat 32 (N % 2 ^ 2)).toNat
  have h2 : N % 2 ^ 2 ≤ N := Nat.mod_le _ _
  rw [BitVec.toNat_and, BitVec.toNat_ofNat, BitVec.toNat_ofNat, BitVec.toNat_ofNat, Nat.mod_eq_of_lt (a := N) (by omega), Nat.mod_eq_of_lt (a := 2 ^ 2 - 1) (by omega), Nat.mod_eq_of_lt (a := N % 2 ^ 2) (by omega), Nat.and_two_pow_sub_one_eq_mod]
theorem sh2 : ∀ e, e < 7 → ((2 : Int32) * Int32.ofNat e &&& 31) = Int32.ofNat (2 * e) := by decide +kernel
theorem pow24 (e : Nat) : 2 ^ (2 * e) = 4 ^ e := by rw [Nat.pow_mul]
theorem i_dig {code e : Nat} (hc : code < 4096) (he : e < 7) : (Int32.ofNat code >>> (((2 : Int32) * Int32.ofNat e) &&& 31)) &&& (3 : Int32) = Int32.ofNat (code / 4 ^ e % 4) := by
  have hd : code / 4 ^ e ≤ code := Nat.div_le_self _ _
  rw [sh2 e he, i_shr (by omega) (by omega), pow24, i_and3 (by omega)]
theorem cod_tab : ∀ n, n < 7 → (1 : Int32) <<< (((2 : Int32) * Int32.ofNat n) &&& 31) = Int32.ofNat (4 ^ n) := by decide +kernel
theorem m_codes (F : Nat) {N : Nat} (h : N ≤ 6) : fX6_codes F (Int32.ofNat N) = some (Int32.ofNat (4 ^ N)) := by
  unfold fX6_codes
  rw [cod_tab N (by omega)]
theorem run_sub {c : Nat} {E : Nat → Int} {K : Nat → Nat} {S : Nat → Nat → Bool} {t : Nat → Nat} {s : Nat → Option Nat} {i : Nat} : ∀ k, (runS c E K S t s k i).isSome = true → (s i).isSome = true
  | 0, h => h
  | k + 1, h => by
    have : ((runS c E K S t s k i).isSome && !goes c K S (mapT E K (t k) (runS c E K S t s k)) i) = true := by
      rw [← mapT_some (E := E) (K := K) (t := t k), ← looksS_some]
      exact h
    rw [Bool.and_eq_true] at this
    exact run_sub k this.1
theorem pop_out {n : Nat} {s e : Nat → Option Nat} (hs : HallOk n s) (he : ∀ i, (e i).isSome = true → (s i).isSome = true) : pop (fun i => (decide (i < n) && (e i).isNone) && !(decide (i < n) && (s i).isNone)) + inP e = inP s := by
  have key : ∀ i, ((decide (i < n) && (e i).isNone) && !(decide (i < n) && (s i).isNone)).toNat + (e i).isSome.toNat = (s i).isSome.toNat := fun i => by
    have h1 := he i
    by_cases hi : i < n
    · rw [decide_eq_true hi]
      cases a : e i <;> cases b : s i <;> rw [a, b] at h1 <;> first | rfl | cases h1 rfl
    · have h2 := hs.1 i (by omega)
      rw [decide_eq_false hi]
      cases a : e i
      · rw [h2]; rfl
      · rw [a, h2] at h1; cases h1 rfl
  unfold inP pop
  dsimp only
  have h0 := key 0; have h1 := key 1; have h2 := key 2; have h3 := key 3; have h4 := key 4; have h5 := key 5
  omega
theorem PM.run {n c : Nat} {E : Nat → Int} {K : Nat → Nat} {S : Nat → Nat → Bool} {mguests mclause : Int32} {mdoes mkinds msees : Nat → Int32} (hp : PM n c E K S mguests mclause mdoes mkinds msees) {s : Nat → Option Nat} (hs : HallOk n s) (N code k : Nat) : HallOk n (runS c E K S (dig N code) s k) := by
  obtain ⟨hn, -, hc, -, hE, hk, -, -⟩ := hp
  exact runS_ok hs (fun i hi => ⟨(hE i hi).1, (hE i hi).2.1⟩) (fun i hi => (hk i hi).1) k fun p _ => dig_lt _ _ _
theorem m_fallen (F : Nat) {n c : Nat} {E : Nat → Int} {K : Nat → Nat} {S : Nat → Nat → Bool} {mguests mclause : Int32} {mdoes mkinds msees mnow maside : Nat → Int32} (hp : PM n c E K S mguests mclause mdoes mkinds msees) {s : Nat → Option Nat} (hs : HallOk n s) (hm : RM mnow 0 s n) {N code : Nat} (hN : N ≤ 6) (hcode : code < 4096) (hF : 1000000 ≤ F) : ∃ a', fX6_fallen F mguests mclause mdoes mkinds msees mnow maside (Int32.ofNat N) (Int32.ofNat code) = some (Int32.ofNat (inP s - lv c E K S N s code), a') ∧ RM a' 0 (endS c E K S N code s) n := by
  obtain ⟨as, l1, l2⟩ := m_lay F (maside := maside) hm hF
  unfold fX6_fallen
  rw [l1, bd1_mk]
  refine loop_inv (fun fu (a : Int32 × (Nat → Int32)) => fX6_fallen_l8 F mguests mclause mdoes mkinds msees mnow (Int32.ofNat code) fu a.1 a.2) N (fun j a => a.1 = Int32.ofInt ((N : Int) - 1 - j) ∧ RM a.2 0 (runS c E K S (dig N code) s j) n) (fun o => ∃ a', o = some (Int32.ofNat (inP s - lv c E K S N s code), a') ∧ RM a' 0 (endS c E K S N code s) n) ?_ ?_ F (Int32.ofNat N - 1, as) (by omega) ⟨?_, l2⟩
  · rintro fu j ⟨x3, a⟩ hj ⟨e1, e2⟩
    dsimp only at e1 e2
    have e1' : x3 = Int32.ofNat (N - 1 - j) := by
      rw [e1, ← p_nz]
      congr 1
      omega
    subst e1'
    obtain ⟨tt', p1, p2⟩ := m_plays F hp (hp.run hs N code j) (by omega) e2 (dig_lt N code j)
    have w0 : ¬ (Int32.ofNat (N - 1 - j) < 0) := of_eq_false (p_neg (by omega))
    dsimp only
    rw [fX6_fallen_l8, fX6_fallen_l8_b, if_neg w0, i_dig hcode (by omega), show code / 4 ^ (N - 1 - j) % 4 = dig N code j from rfl, p1, bd2_mk]
    refine Or.inl ⟨(Int32.ofInt ((N : Int) - 1 - ((j + 1 : Nat) : Int)), tt'), ⟨rfl, p2⟩, ?_⟩
    refine congrArg (fun z => fX6_fallen_l8 F mguests mclause mdoes mkinds msees mnow (Int32.ofNat code) fu z tt') ?_
    rw [← p_nz, show ((-1 : Int32)) = Int32.ofInt (-1) from by decide, ← Int32.ofInt_add]
    congr 1
    omega
  · rintro fu ⟨x3, a⟩ ⟨e1, e2⟩
    dsimp only at e1 e2
    have e1' : x3 = -1 := by
      rw [e1, show (N : Int) - 1 - N = -1 by omega]
      decide
    subst e1'
    refine ⟨a, ?_, e2⟩
    dsimp only
    have hpo := pop_out (e := runS c E K S (dig N code) s N) hs (fun i => run_sub N)
    rw [fX6_fallen_l8, fX6_fallen_l8_b, if_pos (by decide), show (6 : Int32).toNatClampNeg = 6 from rfl, rm_6 e2, rm_6 hm, st_andn, m_bits F _ hF, bd1_mk]
    refine congrArg (fun z => some (Int32.ofNat z, a)) ?_
    show _ = inP s - inP (runS c E K S (dig N code) s N)
    omega
  · show Int32.ofNat N - 1 = Int32.ofInt ((N : Int) - 1 - ((0 : Nat) : Int))
    rw [← p_nz N, show (1 : Int32) = Int32.ofInt 1 from rfl, ← Int32.ofInt_sub]
    congr 1
    omega
theorem length_c (F : Nat) {n : Nat} (hn : n ≤ 6) (x : Int32) : (fX5_searchRefusal F (Int32.ofNat n) x = some (-1) ∧ fX6_isLength F x = some 0) ∨ ∃ N, N ≤ 6 ∧ x = Int32.ofNat N ∧ fX5_searchRefusal F (Int32.ofNat n) x = some (if n = 0 then -4 else 0) ∧ fX6_isLength F x = some 1 := by
  rcases rng_cases x (n := 7) (by decide) with h | ⟨k, hk, rfl⟩
  · refine Or.inl ⟨?_, by unfold fX6_isLength; rw [m_inF (n := 7) (by decide) (by decide) (by decide) h, bd1_mk]⟩
    unfold fX5_searchRefusal
    rcases h with h | h
    · rw [if_pos h]
    · by_cases h0 : x < 0
      · rw [if_pos h0]
      · rw [if_neg h0, if_neg (fun q => by
          have := Int32.le_trans h q
          exact absurd this (by decide))]
  · refine Or.inr ⟨k, by omega, rfl, ?_, by unfold fX6_isLength; rw [m_inT (n := 7) hk (by decide) (by decide) (by decide), bd1_mk]⟩
    unfold fX5_searchRefusal
    rw [if_neg (of_eq_false (p_neg (by omega))), if_pos (of_eq_true (by rw [show (6 : Int32) = Int32.ofNat 6 from rfl, p_le (by omega) (by omega)]; exact eq_true (by omega)))]
    by_cases h0 : n = 0
    · rw [if_pos (by rw [p_e0 (by omega)]; exact h0), if_pos h0]
    · rw [if_neg (by rw [p_e0 (by omega)]; exact h0), if_neg h0]
theorem oI_st (p : Nat → Bool) : ∀ k, k ≤ 6 → oI p k = st (fun t => decide (t < k) && p t)
  | 0, _ => by
    rw [oI, st_none]
    exact st_congr fun i _ => by simp
  | k + 1, hk => by
    rw [oI, oI_st p k (by omega)]
    cases h : p k with
    | false =>
      rw [if_neg (by decide)]
      refine st_congr fun i _ => ?_
      by_cases e : i = k
      · subst e; rw [h]; simp
      · rw [show decide (i < k) = decide (i < k + 1) by simp only [decide_eq_decide]; omega]
    | true =>
      rw [if_pos rfl, st_one (by omega), st_or]
      refine st_congr fun i _ => ?_
      by_cases e : i = k
      · subst e; simp [h]
      · rw [show decide (i < k) = decide (i < k + 1) by simp only [decide_eq_decide]; omega]
        simp [e]
theorem z_eq {a b : Nat} (h : b ≤ a) (ha : a < 2147483648) : (Int32.ofNat (a - b) = 0) = (b = a) := by
  rw [p_e0 (by omega)]
  exact propext ⟨fun q => by omega, fun q => by omega⟩
def stayI (c : Nat) (E : Nat → Int) (K : Nat → Nat) (S : Nat → Nat → Bool) (N : Nat) (s : Nat → Option Nat) (k : Nat) : Nat := if lv c E K S N s k = inP s then 1 else 0
def topI (c : Nat) (E : Nat → Int) (K : Nat → Nat) (S : Nat → Nat → Bool) (N : Nat) (s : Nat → Option Nat) (t k : Nat) : Bool := decide (lv c E K S N s k = inP s) && decide (k / 4 ^ (N - 1) = t)
theorem sh22 : ∀ e, e < 6 → (((2 : Int32) * Int32.ofNat (e + 1)) - (2 : Int32) &&& 31) = Int32.ofNat (2 * e) := by decide +kernel
