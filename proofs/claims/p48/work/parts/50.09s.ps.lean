def lotN (seed : Nat) : Nat → Nat
  | 0 => seed
  | k + 1 => lotN seed k * 48271 % 2147483647
theorem lotN_lt {seed : Nat} (h : seed < 2147483647) : ∀ k, lotN seed k < 2147483647
  | 0 => h
  | k + 1 => by rw [lotN]; exact Nat.mod_lt _ (by decide)
theorem q_lot {l : Nat} (h : l < 2147483648) : Int64.ofNat l * (48271 : Int64) - Int64.ofNat l * (48271 : Int64) / (2147483647 : Int64) * (2147483647 : Int64) = Int64.ofNat (l * 48271 % 2147483647) := by
  rw [show (48271 : Int64) = Int64.ofNat 48271 from rfl, show (2147483647 : Int64) = Int64.ofNat 2147483647 from rfl, ← Int64.ofNat_mul, ← Int64.ofNat_div (by omega) (by decide), ← Int64.ofNat_mul, ← Int64.ofNat_sub _ _ (by omega)]
  refine congrArg Int64.ofNat ?_
  omega
theorem q_tune {l : Nat} (h : l < 2147483648) : (Int64.ofNat l / (16 : Int64) - Int64.ofNat l / (16 : Int64) / (4 : Int64) * (4 : Int64)).toInt32 = Int32.ofNat (l / 16 % 4) := by
  rw [show (16 : Int64) = Int64.ofNat 16 from rfl, show (4 : Int64) = Int64.ofNat 4 from rfl, ← Int64.ofNat_div (by omega) (by decide), ← Int64.ofNat_div (by omega) (by decide), ← Int64.ofNat_mul, ← Int64.ofNat_sub _ _ (by omega), Int64.toInt32_ofNat']
  refine congrArg Int32.ofNat ?_
  omega
theorem pop_step {c : Nat} {E : Nat → Int} {K : Nat → Nat} {S : Nat → Nat → Bool} {t : Nat} {s : Nat → Option Nat} : pop (fun i => (tuneS c E K S t s i).isSome) + pop (goes c K S (mapT E K t s)) = pop (fun i => (s i).isSome) := by
  have key : ∀ i, (tuneS c E K S t s i).isSome.toNat + (goes c K S (mapT E K t s) i).toNat = (s i).isSome.toNat := fun i => by
    unfold tuneS
    rw [looksS_some, mapT_some]
    cases h : goes c K S (mapT E K t s) i
    · cases (s i).isSome <;> rfl
    · have := goes_some h
      rw [mapT_some] at this
      rw [this]
      rfl
  unfold pop
  dsimp only
  have h0 := key 0; have h1 := key 1; have h2 := key 2; have h3 := key 3; have h4 := key 4; have h5 := key 5
  omega
def fallS (c : Nat) (E : Nat → Int) (K : Nat → Nat) (S : Nat → Nat → Bool) (tN : Nat → Nat) (s : Nat → Option Nat) (k : Nat) : Nat := pop (goes c K S (mapT E K (tN k) (runS c E K S tN s k)))
theorem run_pop {c : Nat} {E : Nat → Int} {K : Nat → Nat} {S : Nat → Nat → Bool} {tN : Nat → Nat} {s : Nat → Option Nat} : ∀ k, pop (fun i => (runS c E K S tN s k i).isSome) + sumN (fallS c E K S tN s) k = pop (fun i => (s i).isSome)
  | 0 => rfl
  | k + 1 => by
    have h1 := run_pop (c := c) (E := E) (K := K) (S := S) (tN := tN) (s := s) k
    have h2 := pop_step (c := c) (E := E) (K := K) (S := S) (t := tN k) (s := runS c E K S tN s k)
    rw [sumN]
    show pop (fun i => (tuneS c E K S (tN k) (runS c E K S tN s k) i).isSome) + _ = _
    unfold fallS at h1 ⊢
    omega
-- the smallest set that would rather stop
def wSet (n c : Nat) (s : Nat → Option Nat) (k : Nat) : Nat := sumN (fun i => if k.testBit i = true then gv s i else 0) n
def would (n c : Nat) (s : Nat → Option Nat) (k : Nat) : Bool := decide (st (fun i => k.testBit i) &&& (st (fun i => (s i).isSome) ^^^ (-1 : Int32)) = 0) && decide (2 ≤ pop (fun i => k.testBit i)) && !decide (Int32.ofNat c * (Int32.ofNat (pop (fun i => k.testBit i)) - 1) ≤ Int32.ofNat (wSet n c s k))
def best (n c : Nat) (s : Nat → Option Nat) : Nat → Option Nat
  | 0 => none
  | j + 1 => if (would n c s (j + 1) && (match best n c s j with | none => true | some b => decide (pop (fun i => (j + 1).testBit i) < pop (fun i => b.testBit i)))) = true then some (j + 1) else best n c s j
def bW (o : Option Nat) : Int32 := match o with | none => -9 | some b => Int32.ofNat b
def bZ (o : Option Nat) : Nat := match o with | none => 7 | some b => pop (fun i => b.testBit i)
theorem best_lt {n c : Nat} {s : Nat → Option Nat} : ∀ j b, best n c s j = some b → b ≤ j
  | 0, b, h => by cases h
  | j + 1, b, h => by
    rw [best] at h
    by_cases hq : (would n c s (j + 1) && (match best n c s j with | none => true | some b => decide (pop (fun i => (j + 1).testBit i) < pop (fun i => b.testBit i)))) = true
    · rw [if_pos hq] at h
      cases h
      exact Nat.le_refl _
    · rw [if_neg hq] at h
      have := best_lt j b h
      omega
theorem c_ofSet (F : Nat) {n : Nat} (hn : n ≤ 6) {s : Nat → Option Nat} (hs : HallOk n s) (c : Nat) {k : Nat} (hk : k < 64) (hF : 1000000 ≤ F) : fX5_griefOfSet F (Int32.ofNat n) (enc s) (Int32.ofNat k) = some (Int32.ofNat (wSet n c s k)) := by
  unfold fX5_griefOfSet
  refine loop_up (fun fu (a : Int32 × Int32) => fX5_griefOfSet_l4 F (Int32.ofNat n) (enc s) (Int32.ofNat k) fu a.1 a.2) n (fun j => (Int32.ofNat (sumN (fun i => if k.testBit i = true then gv s i else 0) j), Int32.ofNat j)) _ ?_ ?_ F (by omega)
  · intro fu j hj
    have f0 : ¬ (Int32.ofNat n ≤ Int32.ofNat j) := of_eq_false (by rw [p_le (by omega) (by omega)]; exact p_nle hj)
    dsimp only
    rw [fX5_griefOfSet_l4, fX5_griefOfSet_l4_b, if_neg f0, st_bits k hk, st_bit (fun i => k.testBit i) (show j < 6 by omega), c_griefOf F hs.hb (by omega), bd1_mk, p_s, p_add, sumN]
    cases hb : k.testBit j with
    | false => rw [if_pos (by decide), if_neg (show ¬ (false = true) by decide)]; rfl
    | true => rw [if_neg (by decide), if_pos (show true = true from rfl)]
  · intro fu
    dsimp only
    rw [fX5_griefOfSet_l4, fX5_griefOfSet_l4_b, if_pos (Int32.le_refl _)]
    rfl
theorem m_ofSet (F : Nat) {n : Nat} (hn : n ≤ 6) {s : Nat → Option Nat} {mnow : Nat → Int32} (hm : RM mnow 0 s n) (c : Nat) {k : Nat} (hk : k < 64) (s14 : Int32 → Int32 → Option Int32) (x1 x2 mclause : Int32) (hF : 1000000 ≤ F) : fX6_stops_l28 F s14 (Int32.ofNat n) mclause mnow x1 x2 (Int32.ofNat k) F (0 : Int32) (0 : Int32) = (if (Int32.ofNat k &&& (x1 ^^^ (-1 : Int32))) = 0 then (bd1 (fX6_bits F (Int32.ofNat k)) fun r77 => if r77 ≤ (1 : Int32) then ((fX6_stops_n105 F s14 (Int32.ofNat n) mclause mnow (0 : Int32) x1 x2 (Int32.ofNat k))) else (bd1 (fX6_bits F (Int32.ofNat k)) fun r91 => if (mclause * (r91 - (1 : Int32))) ≤ Int32.ofNat (wSet n c s k) then ((fX6_stops_n105 F s14 (Int32.ofNat n) mclause mnow (0 : Int32) x1 x2 (Int32.ofNat k))) else ((fX6_stops_n105 F s14 (Int32.ofNat n) mclause mnow (1 : Int32) x1 x2 (Int32.ofNat k))))) else ((fX6_stops_n105 F s14 (Int32.ofNat n) mclause mnow (0 : Int32) x1 x2 (Int32.ofNat k)))) := by
  refine loop_up (fun fu (a : Int32 × Int32) => fX6_stops_l28 F s14 (Int32.ofNat n) mclause mnow x1 x2 (Int32.ofNat k) fu a.1 a.2) n (fun j => (Int32.ofNat (sumN (fun i => if k.testBit i = true then gv s i else 0) j), Int32.ofNat j)) _ ?_ ?_ F (by omega)
  · intro fu j hj
    have f0 : ¬ (Int32.ofNat n ≤ Int32.ofNat j) := of_eq_false (by rw [p_le (by omega) (by omega)]; exact p_nle hj)
    have hh : fX6_has F (Int32.ofNat k) (Int32.ofNat j) = some (if k.testBit j = true then 1 else 0) := by
      rw [st_bits k hk, m_has F _ (show j < 6 by omega)]
    dsimp only
    rw [fX6_stops_l28, fX6_stops_l28_b, if_neg f0, hh, bd1_mk, p_cl (show j < 2147483648 by omega), if_neg (gx (show j < 7 by omega) (by omega)), rm_g hm (show j < 6 by omega), p_s, p_add, sumN, Int32.add_zero]
    cases hb : k.testBit j with
    | false => rw [if_neg (show ¬ (false = true) by decide), if_pos rfl, if_neg (show ¬ (false = true) by decide)]; rfl
    | true => rw [if_pos (show true = true from rfl), if_neg (by decide), if_pos (show true = true from rfl)]
  · intro fu
    dsimp only
    rw [fX6_stops_l28, fX6_stops_l28_b, if_pos (Int32.le_refl _)]
    rfl
