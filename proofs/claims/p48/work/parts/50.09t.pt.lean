theorem run_congr {c : Nat} {E : Nat → Int} {K : Nat → Nat} {S : Nat → Nat → Bool} {t u : Nat → Nat} {s : Nat → Option Nat} : ∀ k, (∀ j, j < k → t j = u j) → runS c E K S t s k = runS c E K S u s k
  | 0, _ => rfl
  | k + 1, h => by
    show tuneS c E K S (t k) (runS c E K S t s k) = tuneS c E K S (u k) (runS c E K S u s k)
    rw [run_congr k (fun j hj => h j (by omega)), h k (by omega)]
theorem run_shift {c : Nat} {E : Nat → Int} {K : Nat → Nat} {S : Nat → Nat → Bool} {t : Nat → Nat} {s : Nat → Option Nat} : ∀ k, runS c E K S t s (k + 1) = runS c E K S (fun j => t (j + 1)) (tuneS c E K S (t 0) s) k
  | 0 => rfl
  | k + 1 => by
    show tuneS c E K S (t (k + 1)) (runS c E K S t s (k + 1)) = tuneS c E K S (t (k + 1)) (runS c E K S (fun j => t (j + 1)) (tuneS c E K S (t 0) s) k)
    rw [run_shift k]
def dig (n code j : Nat) : Nat := code / 4 ^ (n - 1 - j) % 4
theorem dig_lt (n code j : Nat) : dig n code j < 4 := Nat.mod_lt _ (by decide)
theorem dig_0 {n t k : Nat} (ht : t < 4) (hk : k < 4 ^ n) : dig (n + 1) (t * 4 ^ n + k) 0 = t := by
  unfold dig
  rw [show n + 1 - 1 - 0 = n by omega, Nat.add_comm, Nat.add_mul_div_right _ _ (Nat.pow_pos (by decide)), Nat.div_eq_of_lt hk, Nat.zero_add, Nat.mod_eq_of_lt ht]
theorem dig_s {n t k j : Nat} (hj : j < n) : dig (n + 1) (t * 4 ^ n + k) (j + 1) = dig n k j := by
  unfold dig
  have e : 4 ^ n = 4 ^ (n - 1 - j) * (4 * 4 ^ j) := by
    rw [← Nat.pow_succ', ← Nat.pow_add]
    congr 1
    omega
  rw [show n + 1 - 1 - (j + 1) = n - 1 - j by omega, e, show t * (4 ^ (n - 1 - j) * (4 * 4 ^ j)) + k = k + (t * (4 * 4 ^ j)) * 4 ^ (n - 1 - j) by rw [Nat.add_comm, Nat.mul_assoc t, Nat.mul_comm (4 ^ (n - 1 - j))], Nat.add_mul_div_right _ _ (Nat.pow_pos (by decide)), show t * (4 * 4 ^ j) = 4 * (t * 4 ^ j) by rw [Nat.mul_left_comm], Nat.add_mul_mod_self_left]
def endS (c : Nat) (E : Nat → Int) (K : Nat → Nat) (S : Nat → Nat → Bool) (n code : Nat) (s : Nat → Option Nat) : Nat → Option Nat := runS c E K S (dig n code) s n
theorem endS_s {c : Nat} {E : Nat → Int} {K : Nat → Nat} {S : Nat → Nat → Bool} {n t k : Nat} {s : Nat → Option Nat} (ht : t < 4) (hk : k < 4 ^ n) : endS c E K S (n + 1) (t * 4 ^ n + k) s = endS c E K S n k (tuneS c E K S t s) := by
  unfold endS
  rw [run_shift, dig_0 ht hk]
  exact run_congr n fun j hj => dig_s hj
def inP (s : Nat → Option Nat) : Nat := pop (fun i => (s i).isSome)
def lv (c : Nat) (E : Nat → Int) (K : Nat → Nat) (S : Nat → Nat → Bool) (n : Nat) (s : Nat → Option Nat) (code : Nat) : Nat := inP (endS c E K S n code s)
theorem lv_s {c : Nat} {E : Nat → Int} {K : Nat → Nat} {S : Nat → Nat → Bool} {n t k : Nat} {s : Nat → Option Nat} (ht : t < 4) (hk : k < 4 ^ n) : lv c E K S (n + 1) s (t * 4 ^ n + k) = lv c E K S n (tuneS c E K S t s) k := by
  unfold lv
  rw [endS_s ht hk]
theorem inP_tune {c : Nat} {E : Nat → Int} {K : Nat → Nat} {S : Nat → Nat → Bool} {t : Nat} {s : Nat → Option Nat} : inP (tuneS c E K S t s) ≤ inP s := by
  have := pop_step (c := c) (E := E) (K := K) (S := S) (t := t) (s := s)
  unfold inP
  omega
theorem lv_le {c : Nat} {E : Nat → Int} {K : Nat → Nat} {S : Nat → Nat → Bool} {n code : Nat} {s : Nat → Option Nat} : lv c E K S n s code ≤ inP s := by
  have := run_pop (c := c) (E := E) (K := K) (S := S) (tN := dig n code) (s := s) n
  unfold lv inP endS
  omega
theorem sumN_add (f : Nat → Nat) (m : Nat) : ∀ b, sumN f (m + b) = sumN f m + sumN (fun k => f (m + k)) b
  | 0 => rfl
  | b + 1 => by
    show sumN f (m + b) + f (m + b) = _
    rw [sumN_add f m b, sumN]
    omega
theorem sumN_blocks (f : Nat → Nat) (b : Nat) : ∀ a, sumN f (a * b) = sumN (fun t => sumN (fun k => f (t * b + k)) b) a
  | 0 => by rw [Nat.zero_mul]; rfl
  | a + 1 => by rw [Nat.succ_mul, sumN_add, sumN_blocks f b a, sumN]
theorem sumN_congr {f g : Nat → Nat} : ∀ k, (∀ j, j < k → f j = g j) → sumN f k = sumN g k
  | 0, _ => rfl
  | k + 1, h => by rw [sumN, sumN, sumN_congr k (fun j hj => h j (by omega)), h k (by omega)]
theorem sumN_zero {f : Nat → Nat} : ∀ k, (∀ j, j < k → f j = 0) → sumN f k = 0
  | 0, _ => rfl
  | k + 1, h => by rw [sumN, sumN_zero k (fun j hj => h j (by omega)), h k (by omega)]
theorem sumN_le {f : Nat → Nat} {m : Nat} : ∀ k, (∀ j, j < k → f j ≤ m) → sumN f k ≤ k * m
  | 0, _ => by rw [Nat.zero_mul]; exact Nat.le_refl 0
  | k + 1, h => by
    have h1 := sumN_le (f := f) (m := m) k (fun j hj => h j (by omega))
    have h2 := h k (by omega)
    rw [sumN, Nat.succ_mul]
    omega
theorem sumN_pos {f : Nat → Nat} : ∀ k, (0 < sumN f k ↔ ∃ j, j < k ∧ 0 < f j)
  | 0 => ⟨fun h => absurd h (Nat.lt_irrefl 0), fun ⟨j, hj, _⟩ => absurd hj (Nat.not_lt_zero j)⟩
  | k + 1 => by
    have ih := sumN_pos (f := f) k
    rw [sumN]
    constructor
    · intro h
      by_cases h2 : 0 < f k
      · exact ⟨k, by omega, h2⟩
      · obtain ⟨j, hj, q⟩ := ih.mp (by omega)
        exact ⟨j, by omega, q⟩
    · rintro ⟨j, hj, q⟩
      by_cases e : j = k
      · subst e; omega
      · have := ih.mpr ⟨j, by omega, q⟩
        omega
def mxN (f : Nat → Nat) : Nat → Nat
  | 0 => 0
  | k + 1 => max (mxN f k) (f k)
theorem mxN_add (f : Nat → Nat) (m : Nat) : ∀ b, mxN f (m + b) = max (mxN f m) (mxN (fun k => f (m + k)) b)
  | 0 => (Nat.max_eq_left (Nat.zero_le _)).symm
  | b + 1 => by
    show max (mxN f (m + b)) (f (m + b)) = _
    rw [mxN_add f m b, mxN]
    omega
theorem mxN_congr {f g : Nat → Nat} : ∀ k, (∀ j, j < k → f j = g j) → mxN f k = mxN g k
  | 0, _ => rfl
  | k + 1, h => by rw [mxN, mxN, mxN_congr k (fun j hj => h j (by omega)), h k (by omega)]
theorem mxN_le {f : Nat → Nat} {m : Nat} : ∀ k, (∀ j, j < k → f j ≤ m) → mxN f k ≤ m
  | 0, _ => Nat.zero_le _
  | k + 1, h => by
    have h1 := mxN_le (f := f) (m := m) k (fun j hj => h j (by omega))
    have h2 := h k (by omega)
    rw [mxN]
    omega
theorem mxN_ge {f : Nat → Nat} : ∀ k j, j < k → f j ≤ mxN f k
  | 0, j, h => absurd h (Nat.not_lt_zero j)
  | k + 1, j, h => by
    rw [mxN]
    by_cases e : j = k
    · subst e; omega
    · have := mxN_ge (f := f) k j (by omega)
      omega
theorem mxN_mono {f : Nat → Nat} {m k : Nat} (h : m ≤ k) : mxN f m ≤ mxN f k := mxN_le m fun j hj => mxN_ge k j (by omega)
def fstO (p : Nat → Bool) : Nat → Option Nat
  | 0 => none
  | k + 1 => match fstO p k with
    | some x => some x
    | none => if p k = true then some k else none
theorem fstO_none {p : Nat → Bool} : ∀ k, (fstO p k = none ↔ ∀ j, j < k → p j = false)
  | 0 => ⟨fun _ j hj => absurd hj (Nat.not_lt_zero j), fun _ => rfl⟩
  | k + 1 => by
    have ih := fstO_none (p := p) k
    rw [fstO]
    cases e : fstO p k with
    | some x =>
      constructor
      · intro h; cases h
      · intro h
        have := ih.mpr (fun j hj => h j (by omega))
        rw [e] at this
        cases this
    | none =>
      have h0 := ih.mp e
      constructor
      · intro h j hj
        by_cases q : j = k
        · subst q
          cases hp : p j
          · rfl
          · rw [hp] at h; cases h
        · exact h0 j (by omega)
      · intro h
        show (if p k = true then some k else none) = none
        rw [h k (by omega)]
        rfl
theorem fstO_some {p : Nat → Bool} : ∀ k x, (fstO p k = some x ↔ x < k ∧ p x = true ∧ ∀ j, j < x → p j = false)
  | 0, x => ⟨fun h => (by cases h), fun ⟨h, _⟩ => absurd h (Nat.not_lt_zero x)⟩
  | k + 1, x => by
    have ih := fstO_some (p := p) k
    have ihn := fstO_none (p := p) k
    rw [fstO]
    cases e : fstO p k with
    | some y =>
      obtain ⟨a1, a2, a3⟩ := (ih y).mp e
      constructor
      · intro h
        cases h
        exact ⟨by omega, a2, a3⟩
      · rintro ⟨b1, b2, b3⟩
        rcases Nat.lt_trichotomy x y with h | h | h
        · rw [a3 x h] at b2; cases b2
        · subst h; rfl
        · rw [b3 y h] at a2; cases a2
    | none =>
      have h0 := ihn.mp e
      show ((if p k = true then some k else none) = some x) ↔ _
      constructor
      · intro h
        by_cases hp : p k = true
        · rw [if_pos hp] at h
          cases h
          exact ⟨by omega, hp, fun j hj => h0 j hj⟩
        · rw [if_neg hp] at h; cases h
      · rintro ⟨b1, b2, b3⟩
        have : x = k := by
          rcases Nat.lt_or_ge x k with h | h
          · rw [h0 x h] at b2; cases b2
          · omega
        subst this
        rw [if_pos b2]
theorem fstO_congr {p q : Nat → Bool} : ∀ k, (∀ j, j < k → p j = q j) → fstO p k = fstO q k
  | 0, _ => rfl
  | k + 1, h => by rw [fstO, fstO, fstO_congr k (fun j hj => h j (by omega)), h k (by omega)]
theorem fstO_add (p : Nat → Bool) (m : Nat) : ∀ b, fstO p (m + b) = match fstO p m with | some x => some x | none => (fstO (fun k => p (m + k)) b).map (fun x => m + x)
  | 0 => by
    show fstO p m = _
    cases fstO p m <;> rfl
  | b + 1 => by
    show (match fstO p (m + b) with | some x => some x | none => if p (m + b) = true then some (m + b) else none) = _
    rw [fstO_add p m b]
    cases fstO p m with
    | some x => rfl
    | none =>
      show (match (fstO (fun k => p (m + k)) b).map (fun x => m + x) with | some x => some x | none => if p (m + b) = true then some (m + b) else none) = (fstO (fun k => p (m + k)) (b + 1)).map (fun x => m + x)
      rw [fstO]
      cases fstO (fun k => p (m + k)) b with
      | some x => rfl
      | none =>
        show (if p (m + b) = true then some (m + b) else none) = (if p (m + b) = true then some b else none).map (fun x => m + x)
        by_cases h : p (m + b) = true
        · rw [if_pos h, if_pos h]; rfl
        · rw [if_neg h, if_neg h]; rfl
def anyN (p : Nat → Bool) : Nat → Bool
  | 0 => false
  | k + 1 => anyN p k || p k
theorem anyN_iff {p : Nat → Bool} : ∀ k, (anyN p k = true ↔ ∃ j, j < k ∧ p j = true)
  | 0 => ⟨fun h => (by cases h), fun ⟨j, hj, _⟩ => absurd hj (Nat.not_lt_zero j)⟩
  | k + 1 => by
    have ih := anyN_iff (p := p) k
    rw [anyN, Bool.or_eq_true, ih]
    constructor
    · rintro (⟨j, hj, h⟩ | h)
      · exact ⟨j, by omega, h⟩
      · exact ⟨k, by omega, h⟩
    · rintro ⟨j, hj, h⟩
      by_cases e : j = k
      · subst e; exact Or.inr h
      · exact Or.inl ⟨j, by omega, h⟩
theorem anyN_add (p : Nat → Bool) (m : Nat) : ∀ b, anyN p (m + b) = (anyN p m || anyN (fun k => p (m + k)) b)
  | 0 => by
    show anyN p m = _
    rw [anyN, Bool.or_false]
  | b + 1 => by
    show (anyN p (m + b) || p (m + b)) = _
    rw [anyN_add p m b, anyN, Bool.or_assoc]
theorem anyN_congr {p q : Nat → Bool} : ∀ k, (∀ j, j < k → p j = q j) → anyN p k = anyN q k
  | 0, _ => rfl
  | k + 1, h => by rw [anyN, anyN, anyN_congr k (fun j hj => h j (by omega)), h k (by omega)]
theorem four (n : Nat) : 4 ^ (n + 1) = 4 * 4 ^ n := by rw [Nat.pow_succ, Nat.mul_comm]
theorem pow4_le {n : Nat} (h : n ≤ 6) : 4 ^ n ≤ 4096 := by
  have := Nat.pow_le_pow_right (n := 4) (by decide) h
  exact this
theorem sm1 (n : Nat) : ∀ x : Int32, x = Int32.ofNat (n + 1) → x - (1 : Int32) = Int32.ofNat n := by
  intro x h
  subst h
  rw [show (1 : Int32) = Int32.ofNat 1 from rfl, p_sub (by omega)]
  rfl
theorem z_lt {n : Nat} (h : n < 2147483647) : (0 : Int32) < Int32.ofNat (n + 1) := of_eq_true (by rw [show (0 : Int32) = Int32.ofNat 0 from rfl, p_lt (by omega) (by omega)]; exact eq_true (by omega))
def cntS (c : Nat) (E : Nat → Int) (K : Nat → Nat) (S : Nat → Nat → Bool) (n : Nat) (s : Nat → Option Nat) : Nat := sumN (fun k => if lv c E K S n s k = inP s then 1 else 0) (4 ^ n)
def cntB (c : Nat) (E : Nat → Int) (K : Nat → Nat) (S : Nat → Nat → Bool) (n : Nat) (s : Nat → Option Nat) (t : Nat) : Nat := sumN (fun k => if lv c E K S (n + 1) s (t * 4 ^ n + k) = inP s then 1 else 0) (4 ^ n)
theorem cntS_s {c : Nat} {E : Nat → Int} {K : Nat → Nat} {S : Nat → Nat → Bool} {n : Nat} {s : Nat → Option Nat} : cntS c E K S (n + 1) s = sumN (cntB c E K S n s) 4 := by
  unfold cntS
  rw [four, sumN_blocks]
  rfl
theorem cntB_eq {c : Nat} {E : Nat → Int} {K : Nat → Nat} {S : Nat → Nat → Bool} {n t : Nat} {s : Nat → Option Nat} (ht : t < 4) : cntB c E K S n s t = if inP (tuneS c E K S t s) = inP s then cntS c E K S n (tuneS c E K S t s) else 0 := by
  unfold cntB cntS
  by_cases h : inP (tuneS c E K S t s) = inP s
  · rw [if_pos h]
    exact sumN_congr _ fun k hk => by rw [lv_s ht hk, h]
  · rw [if_neg h]
    refine sumN_zero _ fun k hk => ?_
    have h1 := inP_tune (c := c) (E := E) (K := K) (S := S) (t := t) (s := s)
    have h2 := lv_le (c := c) (E := E) (K := K) (S := S) (n := n) (code := k) (s := tuneS c E K S t s)
    rw [lv_s ht hk, if_neg (by omega)]
theorem inP_eq {c : Nat} {E : Nat → Int} {K : Nat → Nat} {S : Nat → Nat → Bool} {t : Nat} {s : Nat → Option Nat} : (st (fun i => (tuneS c E K S t s i).isSome) = st (fun i => (s i).isSome)) = (inP (tuneS c E K S t s) = inP s) := by
  have hp := pop_step (c := c) (E := E) (K := K) (S := S) (t := t) (s := s)
  rw [safe_iff, st_zero]
  unfold inP
  apply propext
  constructor
  · intro h
    have : pop (goes c K S (mapT E K t s)) = 0 := by
      rw [any_f] at h
      unfold pop
      rw [h 0 (by decide), h 1 (by decide), h 2 (by decide), h 3 (by decide), h 4 (by decide), h 5 (by decide)]
      rfl
    omega
  · intro h
    rw [any_f]
    intro i hi
    cases e : goes c K S (mapT E K t s) i
    · rfl
    · have := pop_pos hi e
      omega
