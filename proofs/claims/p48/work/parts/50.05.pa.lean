theorem p_cl {k : Nat} (h : k < 2147483648) : (Int32.ofNat k).toNatClampNeg = k := Int32.toNatClampNeg_ofNat_of_lt h
theorem p_ti {k : Nat} (h : k < 2147483648) : (Int32.ofNat k).toInt = k := Int32.toInt_ofNat_of_lt h
theorem p_tz {z : Int} (h1 : -2147483648 ≤ z) (h2 : z < 2147483648) : (Int32.ofInt z).toInt = z := Int32.toInt_ofInt_of_le h1 h2
theorem p_le {a b : Nat} (ha : a < 2147483648) (hb : b < 2147483648) : (Int32.ofNat a ≤ Int32.ofNat b) = (a ≤ b) := by
  rw [Int32.le_iff_toInt_le, p_ti ha, p_ti hb]
  exact propext Int.ofNat_le
theorem p_lt {a b : Nat} (ha : a < 2147483648) (hb : b < 2147483648) : (Int32.ofNat a < Int32.ofNat b) = (a < b) := by
  rw [Int32.lt_iff_toInt_lt, p_ti ha, p_ti hb]
  exact propext Int.ofNat_lt
theorem p_eq {a b : Nat} (ha : a < 2147483648) (hb : b < 2147483648) : (Int32.ofNat a = Int32.ofNat b) = (a = b) := by
  rw [← Int32.toInt_inj, p_ti ha, p_ti hb]
  exact propext Int.ofNat_inj
theorem p_neg {k : Nat} (h : k < 2147483648) : (Int32.ofNat k < 0) = False := by
  have : (Int32.ofNat k < Int32.ofNat 0) = (k < 0) := p_lt h (by decide)
  rw [show (0 : Int32) = Int32.ofNat 0 from rfl, this]
  exact eq_false (Nat.not_lt_zero k)
theorem p_zle {a b : Int} (h1 : -2147483648 ≤ a) (h2 : a < 2147483648) (h3 : -2147483648 ≤ b) (h4 : b < 2147483648) : (Int32.ofInt a ≤ Int32.ofInt b) = (a ≤ b) := by
  rw [Int32.le_iff_toInt_le, p_tz h1 h2, p_tz h3 h4]
theorem p_zlt {a b : Int} (h1 : -2147483648 ≤ a) (h2 : a < 2147483648) (h3 : -2147483648 ≤ b) (h4 : b < 2147483648) : (Int32.ofInt a < Int32.ofInt b) = (a < b) := by
  rw [Int32.lt_iff_toInt_lt, p_tz h1 h2, p_tz h3 h4]
theorem p_zeq {a b : Int} (h1 : -2147483648 ≤ a) (h2 : a < 2147483648) (h3 : -2147483648 ≤ b) (h4 : b < 2147483648) : (Int32.ofInt a = Int32.ofInt b) = (a = b) := by
  rw [← Int32.toInt_inj, p_tz h1 h2, p_tz h3 h4]
theorem p_nz (k : Nat) : Int32.ofInt (k : Int) = Int32.ofNat k := Int32.ofInt_eq_ofNat
theorem p_s (k : Nat) : Int32.ofNat k + (1 : Int32) = Int32.ofNat (k + 1) := (Int32.ofNat_add k 1).symm
theorem p_add (a b : Nat) : Int32.ofNat a + Int32.ofNat b = Int32.ofNat (a + b) := (Int32.ofNat_add a b).symm
theorem p_mul (a b : Nat) : Int32.ofNat a * Int32.ofNat b = Int32.ofNat (a * b) := (Int32.ofNat_mul a b).symm
theorem p_sub {a b : Nat} (h : b ≤ a) : Int32.ofNat a - Int32.ofNat b = Int32.ofNat (a - b) := (Int32.ofNat_sub a b h).symm
theorem p_nle {a b : Nat} (h : b < a) : (a ≤ b) = False := eq_false (Nat.not_le.mpr h)
theorem p_ix {k n : Nat} (h : k < n) (hk : k < 2147483648) : ¬ (Int32.ofNat k < 0 ∨ n ≤ (Int32.ofNat k).toNatClampNeg) := by
  rw [p_neg hk, p_cl hk]
  intro q
  rcases q with q | q
  · exact q
  · omega
theorem p_rng (x : Int32) {n : Nat} (hn : n < 2147483648) (h : ¬ x < 0) (h2 : x < Int32.ofNat n) : ∃ k : Nat, k < n ∧ x = Int32.ofNat k := by
  have h0 : 0 ≤ x := Int32.not_lt.mp h
  refine ⟨x.toNatClampNeg, ?_, (Int32.ofNat_toNatClampNeg x h0).symm⟩
  rw [← Int32.ofNat_toNatClampNeg x h0, p_lt (Int32.toNatClampNeg_lt x) hn] at h2
  exact h2
/-- a loop that counts up: its state by its index -/
theorem loop_up {α β : Type} (L : Nat → α → Option β) (n : Nat) (st : Nat → α) (fin : Option β) (h1 : ∀ fu k : Nat, k < n → L (fu + 1) (st k) = L fu (st (k + 1))) (h2 : ∀ fu : Nat, L (fu + 1) (st n) = fin) : ∀ F : Nat, n < F → L F (st 0) = fin := by
  have key : ∀ j fu : Nat, j ≤ n → L (fu + 1 + j) (st (n - j)) = fin := by
    intro j
    induction j with
    | zero => intro fu _; exact h2 fu
    | succ j ih =>
      intro fu hj
      have := h1 (fu + 1 + j) (n - (j + 1)) (by omega)
      rw [show fu + 1 + (j + 1) = fu + 1 + j + 1 by omega, this, show n - (j + 1) + 1 = n - j by omega]
      exact ih fu (by omega)
  intro F hF
  have := key n (F - n - 1) (Nat.le_refl n)
  rw [Nat.sub_self, show F - n - 1 + 1 + n = F by omega] at this
  exact this
theorem q_sm : ∀ p, p < 64 → ((Int64.ofNat p).toBitVec.smod 64) = BitVec.ofNat 64 p := by decide +kernel
theorem q_shr {N p : Nat} (hN : N < 2 ^ 63) (hp : p < 64) : Int64.ofNat N >>> Int64.ofNat p = Int64.ofNat (N / 2 ^ p) := by
  apply Int64.toBitVec_inj.1
  rw [Int64.toBitVec_shiftRight]
  rw [show (64 : BitVec 64) = 64 from rfl, q_sm p hp]
  show BitVec.sshiftRight (BitVec.ofNat 64 N) (BitVec.ofNat 64 p).toNat = BitVec.ofNat 64 (N / 2 ^ p)
  rw [BitVec.sshiftRight_eq_of_msb_false (by rw [BitVec.msb_eq_false_iff_two_mul_lt, BitVec.toNat_ofNat, Nat.mod_eq_of_lt (by omega)]; omega)]
  apply BitVec.eq_of_toNat_eq
  have hd : N / 2 ^ p ≤ N := Nat.div_le_self _ _
  rw [BitVec.toNat_ushiftRight, BitVec.toNat_ofNat, BitVec.toNat_ofNat, BitVec.toNat_ofNat, Nat.mod_eq_of_lt (a := N) (by omega), Nat.mod_eq_of_lt (a := p) (by omega), Nat.mod_eq_of_lt (a := N / 2 ^ p) (by omega), Nat.shiftRight_eq_div_pow]
theorem q_shl {v p : Nat} (hp : p < 64) : Int64.ofNat v <<< Int64.ofNat p = Int64.ofNat (v * 2 ^ p) := by
  apply Int64.toBitVec_inj.1
  rw [Int64.toBitVec_shiftLeft]
  rw [show (64 : BitVec 64) = 64 from rfl, q_sm p hp]
  apply BitVec.eq_of_toNat_eq
  show ((BitVec.ofNat 64 v) <<< (BitVec.ofNat 64 p).toNat).toNat = (BitVec.ofNat 64 (v * 2 ^ p)).toNat
  rw [BitVec.toNat_shiftLeft, BitVec.toNat_ofNat, BitVec.toNat_ofNat, BitVec.toNat_ofNat, Nat.mod_eq_of_lt (a := p) (by omega), Nat.shiftLeft_eq, Nat.mod_mul_mod]
theorem q_and {N w : Nat} (hw : w ≤ 63) (hN : N < 2 ^ 63) : Int64.ofNat N &&& Int64.ofNat (2 ^ w - 1) = Int64.ofNat (N % 2 ^ w) := by
  apply Int64.toBitVec_inj.1
  rw [Int64.toBitVec_and]
  apply BitVec.eq_of_toNat_eq
  show ((BitVec.ofNat 64 N) &&& (BitVec.ofNat 64 (2 ^ w - 1))).toNat = (BitVec.ofNat 64 (N % 2 ^ w)).toNat
  have h1 : 2 ^ w ≤ 2 ^ 63 := Nat.pow_le_pow_right (by decide) hw
  have h2 : N % 2 ^ w ≤ N := Nat.mod_le _ _
  rw [BitVec.toNat_and, BitVec.toNat_ofNat, BitVec.toNat_ofNat, BitVec.toNat_ofNat, Nat.mod_eq_of_lt (a := N) (by omega), Nat.mod_eq_of_lt (a := 2 ^ w - 1) (by omega), Nat.mod_eq_of_lt (a := N % 2 ^ w) (by omega), Nat.and_two_pow_sub_one_eq_mod]
theorem q_bit {p A B j : Nat} (hA : A < 2 ^ p) : (2 ^ p * B + A).testBit j = if j < p then A.testBit j else B.testBit (j - p) := Nat.testBit_two_pow_mul_add B hA j
theorem q_field {p A B g v w : Nat} (hA : A < 2 ^ p) (hg : g < 2 ^ w) (hv : v < 2 ^ w) : (Int64.ofNat (2 ^ p * (2 ^ w * B + g) + A) &&& (Int64.ofNat ((2 ^ w - 1) * 2 ^ p) ^^^ (-1 : Int64))) ||| Int64.ofNat (v * 2 ^ p) = Int64.ofNat (2 ^ p * (2 ^ w * B + v) + A) := by
  apply Int64.toBitVec_inj.1
  rw [Int64.toBitVec_or, Int64.toBitVec_and, Int64.toBitVec_xor]
  show ((BitVec.ofNat 64 (2 ^ p * (2 ^ w * B + g) + A)) &&& (BitVec.ofNat 64 ((2 ^ w - 1) * 2 ^ p) ^^^ BitVec.allOnes 64)) ||| (BitVec.ofNat 64 (v * 2 ^ p)) = BitVec.ofNat 64 (2 ^ p * (2 ^ w * B + v) + A)
  apply BitVec.eq_of_getLsbD_eq
  intro k hk
  have e1 : ((2 ^ w - 1) * 2 ^ p).testBit k = if k < p then false else decide (k - p < w) := by
    have := q_bit (p := p) (A := 0) (B := 2 ^ w - 1) (j := k) (Nat.two_pow_pos p)
    rw [Nat.add_zero, Nat.mul_comm] at this
    rw [this, Nat.zero_testBit, Nat.testBit_two_pow_sub_one]
  have e2 : (v * 2 ^ p).testBit k = if k < p then false else v.testBit (k - p) := by
    have := q_bit (p := p) (A := 0) (B := v) (j := k) (Nat.two_pow_pos p)
    rw [Nat.add_zero, Nat.mul_comm] at this
    rw [this, Nat.zero_testBit]
  simp only [BitVec.getLsbD_or, BitVec.getLsbD_and, BitVec.getLsbD_xor, BitVec.getLsbD_allOnes, BitVec.getLsbD_ofNat, hk, decide_true, Bool.true_and, q_bit hA, q_bit hg, q_bit hv, e1, e2]
  by_cases h : k < p
  · simp [h]
  · by_cases h2 : k - p < w
    · simp [h, h2]
    · have hz : v.testBit (k - p) = false := Nat.testBit_lt_two_pow (Nat.lt_of_lt_of_le hv (Nat.pow_le_pow_right (by decide) (Nat.not_lt.mp h2)))
      simp [h, h2, hz]
theorem q_clear {p A B g w : Nat} (hA : A < 2 ^ p) (hg : g < 2 ^ w) : (Int64.ofNat (2 ^ p * (2 ^ w * B + g) + A) &&& (Int64.ofNat ((2 ^ w - 1) * 2 ^ p) ^^^ (-1 : Int64))) = Int64.ofNat (2 ^ p * (2 ^ w * B) + A) := by
  have := q_field (p := p) (A := A) (B := B) (g := g) (v := 0) (w := w) hA hg (Nat.two_pow_pos w)
  rw [Nat.zero_mul, show Int64.ofNat 0 = 0 from rfl, Int64.or_zero, Nat.add_zero] at this
  exact this
theorem q_set {p A B : Nat} (hA : A < 2 ^ p) : Int64.ofNat (2 ^ p * (2 * B) + A) ||| Int64.ofNat (2 ^ p) = Int64.ofNat (2 ^ p * (2 * B + 1) + A) := by
  apply Int64.toBitVec_inj.1
  rw [Int64.toBitVec_or]
  show (BitVec.ofNat 64 (2 ^ p * (2 * B) + A)) ||| (BitVec.ofNat 64 (2 ^ p)) = BitVec.ofNat 64 (2 ^ p * (2 * B + 1) + A)
  apply BitVec.eq_of_getLsbD_eq
  intro k hk
  have e1 : (2 ^ p).testBit k = if k < p then false else (1 : Nat).testBit (k - p) := by
    have := q_bit (p := p) (A := 0) (B := 1) (j := k) (Nat.two_pow_pos p)
    rw [Nat.add_zero, Nat.mul_one] at this
    rw [this, Nat.zero_testBit]
  have e2 : (2 * B + 1).testBit (k - p) = ((2 * B).testBit (k - p) || (1 : Nat).testBit (k - p)) := by
    have a1 := q_bit (p := 1) (A := 1) (B := B) (j := k - p) (by decide)
    have a2 := q_bit (p := 1) (A := 0) (B := B) (j := k - p) (by decide)
    have a3 := q_bit (p := 1) (A := 1) (B := 0) (j := k - p) (by decide)
    rw [Nat.pow_one] at a1 a2 a3
    rw [Nat.add_zero] at a2
    rw [Nat.mul_zero, Nat.zero_add] at a3
    rw [a1, a2]
    by_cases h : k - p < 1
    · simp [h]
    · rw [a3]; simp [h]
  simp only [BitVec.getLsbD_or, BitVec.getLsbD_ofNat, hk, decide_true, Bool.true_and, q_bit hA, e1, e2]
  by_cases h : k < p
  · simp [h]
  · simp [h]
