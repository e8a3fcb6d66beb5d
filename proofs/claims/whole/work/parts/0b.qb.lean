def Good (n : Nat) (size cl : Int32) (eff kin gri sig sees : Nat → Int32) (guests : Int32) (rd : Nat → Int32) : Prop := n ≤ 6 ∧ size = Int32.ofNat n ∧ guests = Int32.ofNat n ∧ ∃ (c : Nat) (E : Nat → Int) (K g : Nat → Nat) (S : Nat → Nat → Bool), c ≤ 9 ∧ cl = Int32.ofNat c ∧ rd 0 = Int32.ofNat c ∧ (∀ i, i < 4 → -4 ≤ E i ∧ E i ≤ 5 ∧ eff i = Int32.ofInt (E i) ∧ rd (1 + i) = Int32.ofInt (E i + 4)) ∧ (∀ i, i < n → K i ≤ 5 ∧ kin i = Int32.ofNat (K i) ∧ rd (5 + i) = Int32.ofNat (K i) ∧ g i ≤ 9 ∧ gri i = Int32.ofNat (g i) ∧ rd (11 + i) = Int32.ofNat (g i)) ∧ (∀ i, i < 6 → sig i = st (S i) ∧ sees i = st (fun j => S j i)) ∧ (∀ i, i < n → rd (17 + i) = st (S i)) ∧ ∀ i j, S i j = true → i < n ∧ j < n
def RES (o5 : Option (Int32 × Int32 × Int32 × Int32 × Int32 × Int32 × Int32 × (Nat → Int32) × (Nat → Int32) × (Nat → Int32) × (Nat → Int32) × (Nat → Int32))) (o6 : Option (Int32 × Int32 × Int32 × Int32 × (Nat → Int32))) : Prop := ∃ (r due tun see beg size cl : Int32) (eff kin gri sig sees : Nat → Int32) (guests isS at' : Int32) (rd : Nat → Int32), o5 = some (r, due, tun, see, beg, size, cl, eff, kin, gri, sig, sees) ∧ o6 = some (r, guests, isS, at', rd) ∧ (r = -9 → ∃ n, Good n size cl eff kin gri sig sees guests rd)
theorem ne9 {p : Nat} (h : p < 2147483648) : ¬ (Int32.ofNat p = (-9 : Int32)) := fun q => by
  have := congrArg Int32.toInt q
  rw [p_ti h, show ((-9 : Int32)).toInt = -9 from by decide] at this
  omega
theorem res_bad {p : Nat} (hp : p < 2147483648) {due tun see beg size cl : Int32} {eff kin gri sig sees : Nat → Int32} {guests isS at' : Int32} {rd : Nat → Int32} : RES (some (Int32.ofNat p, due, tun, see, beg, size, cl, eff, kin, gri, sig, sees)) (some (Int32.ofNat p, guests, isS, at', rd)) := ⟨_, _, _, _, _, _, _, _, _, _, _, _, _, _, _, _, rfl, rfl, fun q => absurd q (ne9 hp)⟩
theorem cl_go (F : Nat) {txt : Nat → Int32} {m p : Nat} (hm : m ≤ 80) (hp : p < m) {due tun see beg size cl : Int32} {eff kin gri sig sees : Nat → Int32} {due' tun' see' beg' size' cl' : Int32} {eff' kin' gri' sig' sees' : Nat → Int32} (h : fX4_takes F due tun see beg size cl eff kin gri sig sees (txt p) = some (1, due', tun', see', beg', size', cl', eff', kin', gri', sig', sees')) (fu : Nat) : fX4_faultOf_l22 F txt (Int32.ofNat m) (fu + 1) (Int32.ofNat p) due tun see beg size cl eff kin gri sig sees = fX4_faultOf_l22 F txt (Int32.ofNat m) fu (Int32.ofNat (p + 1)) due' tun' see' beg' size' cl' eff' kin' gri' sig' sees' := by
  have f0 : ¬ (Int32.ofNat m ≤ Int32.ofNat p) := of_eq_false (by rw [p_le (by omega) (by omega)]; exact p_nle hp)
  rw [fX4_faultOf_l22, fX4_faultOf_l22_b, if_neg f0, p_cl (show p < 2147483648 by omega), if_neg (gx (show p < 80 by omega) (by omega)), h, bd12_mk, if_neg (by decide), p_s]
theorem cl_bad (F : Nat) {txt : Nat → Int32} {m p : Nat} (hm : m ≤ 80) (hp : p < m) {due tun see beg size cl : Int32} {eff kin gri sig sees : Nat → Int32} {due' tun' see' beg' size' cl' : Int32} {eff' kin' gri' sig' sees' : Nat → Int32} (h : fX4_takes F due tun see beg size cl eff kin gri sig sees (txt p) = some (0, due', tun', see', beg', size', cl', eff', kin', gri', sig', sees')) (fu : Nat) : fX4_faultOf_l22 F txt (Int32.ofNat m) (fu + 1) (Int32.ofNat p) due tun see beg size cl eff kin gri sig sees = some (Int32.ofNat p, due', tun', see', beg', size', cl', eff', kin', gri', sig', sees') := by
  have f0 : ¬ (Int32.ofNat m ≤ Int32.ofNat p) := of_eq_false (by rw [p_le (by omega) (by omega)]; exact p_nle hp)
  rw [fX4_faultOf_l22, fX4_faultOf_l22_b, if_neg f0, p_cl (show p < 2147483648 by omega), if_neg (gx (show p < 80 by omega) (by omega)), h, bd12_mk, if_pos rfl]
theorem cl_end (F : Nat) {txt : Nat → Int32} {m : Nat} {due tun see beg size cl : Int32} {eff kin gri sig sees : Nat → Int32} (hd : ¬ due = (3 : Int32)) (fu : Nat) : fX4_faultOf_l22 F txt (Int32.ofNat m) (fu + 1) (Int32.ofNat m) due tun see beg size cl eff kin gri sig sees = some (Int32.ofNat m, due, tun, see, beg, size, cl, eff, kin, gri, sig, sees) := by
  rw [fX4_faultOf_l22, fX4_faultOf_l22_b, if_pos (Int32.le_refl _), if_neg hd]
theorem cl_end3 (F : Nat) {txt : Nat → Int32} {m : Nat} {tun see beg size cl : Int32} {eff kin gri sig sees : Nat → Int32} (fu : Nat) : fX4_faultOf_l22 F txt (Int32.ofNat m) (fu + 1) (Int32.ofNat m) 3 tun see beg size cl eff kin gri sig sees = if size ≤ 0 then some (Int32.ofNat m, 3, tun, see, beg, size, cl, eff, kin, gri, sig, sees) else some (-9, 3, tun, see, beg, size, cl, eff, kin, gri, sig, sees) := by
  rw [fX4_faultOf_l22, fX4_faultOf_l22_b, if_pos (Int32.le_refl _), if_pos rfl]
/-- what the model reads at a place -/
def byI (mtx : Nat → Int32) (t m p : Nat) : Int32 := if m ≤ p then -1000 else mtx (80 * t + p)
theorem m_byte (F : Nat) {mts mtx : Nat → Int32} {t m p : Nat} (ht : t < 4) (hm : m ≤ 80) (hz : mts t = Int32.ofNat m) (hp : p < 1000) : fX6_byteAt F (Int32.ofNat p) mts mtx (Int32.ofNat t) = some (byI mtx t m p) := by
  have w : (Int32.ofNat m ≤ Int32.ofNat p) = (m ≤ p) := p_le (by omega) (by omega)
  unfold fX6_byteAt byI
  rw [p_cl (show t < 2147483648 by omega), if_neg (gx ht (by omega)), hz, lin80, p_cl (show 80 * t + p < 2147483648 by omega)]
  by_cases h : m ≤ p
  · rw [if_pos (by rw [w]; exact h), if_pos h]
  · rw [if_neg (by rw [w]; exact h), if_neg h, if_neg (gx (show 80 * t + p < 320 by omega) (by omega))]
theorem p_lt10 {x : Int32} : ((9 : Int32) < x) = (Int32.ofNat 10 ≤ x) := by
  rw [Int32.lt_iff_toInt_lt, Int32.le_iff_toInt_le, show (9 : Int32).toInt = 9 from by decide, show (Int32.ofNat 10).toInt = 10 from by decide]
  exact propext ⟨fun h => by omega, fun h => by omega⟩
theorem fig_c (F : Nat) (v : Int32) : (∃ f, f < 10 ∧ v = Int32.ofNat f ∧ fX4_isFigure F v = some 1 ∧ fX6_in F v.toInt64 (0 : Int32).toInt64 (9 : Int32).toInt64 = some 1) ∨ (fX4_isFigure F v = some 0 ∧ fX6_in F v.toInt64 (0 : Int32).toInt64 (9 : Int32).toInt64 = some 0) := by
  have e5 : ∀ y, fX4_isFigure F y = (if y < 0 then some (0 : Int32) else (if Int32.ofNat 10 ≤ y then some 0 else some 1)) := fun y => by
    unfold fX4_isFigure
    simp only [p_lt10]
  rw [e5]
  rcases rng_cases v (n := 10) (by decide) with h | ⟨k, hk, rfl⟩
  · exact Or.inr ⟨c_rng0 h, m_inF (n := 10) (by decide) rfl (by decide) h⟩
  · exact Or.inl ⟨k, hk, rfl, c_rng1 hk (by decide), m_inT (n := 10) hk (by decide) rfl (by decide)⟩
/-- blanks are gone over -/
def nbf (mtx : Nat → Int32) (t m : Nat) : Nat → Nat → Nat
  | 0, p => p
  | k + 1, p => if p < m ∧ mtx (80 * t + p) = 32 then nbf mtx t m k (p + 1) else p
theorem m_blanksL (F : Nat) {mts mtx : Nat → Int32} {t m : Nat} (ht : t < 4) (hm : m ≤ 80) (hz : mts t = Int32.ofNat m) : ∀ k p fu, m - p = k → p ≤ m → k < fu → fX6_blanks_l0 F mts mtx (Int32.ofNat t) fu (Int32.ofNat p) = some (Int32.ofNat (nbf mtx t m k p))
  | 0, p, fu, hk, hp, hf => by
    obtain ⟨fu, rfl⟩ : ∃ e, fu = e + 1 := ⟨fu - 1, by omega⟩
    rw [fX6_blanks_l0, fX6_blanks_l0_b, m_byte F ht hm hz (by omega), bd1_mk]
    unfold byI
    rw [if_pos (show m ≤ p by omega), if_neg (by decide)]
    rfl
  | k + 1, p, fu, hk, hp, hf => by
    obtain ⟨fu, rfl⟩ : ∃ e, fu = e + 1 := ⟨fu - 1, by omega⟩
    rw [fX6_blanks_l0, fX6_blanks_l0_b, m_byte F ht hm hz (by omega), bd1_mk, nbf]
    unfold byI
    rw [if_neg (show ¬ m ≤ p by omega)]
    by_cases h : mtx (80 * t + p) = 32
    · rw [if_pos h, if_pos ⟨by omega, h⟩, p_s]
      exact m_blanksL F ht hm hz k (p + 1) fu (by omega) (by omega) (by omega)
    · rw [if_neg h, if_neg (fun q => h q.2)]
theorem m_blanks (F : Nat) {mts mtx : Nat → Int32} {t m p : Nat} (ht : t < 4) (hm : m ≤ 80) (hz : mts t = Int32.ofNat m) (hp : p ≤ m) (hF : 1000000 ≤ F) : fX6_blanks F (Int32.ofNat p) mts mtx (Int32.ofNat t) = some (Int32.ofNat (nbf mtx t m (m - p) p)) := m_blanksL F ht hm hz (m - p) p F rfl hp (by omega)
theorem nb_go {mtx : Nat → Int32} {t m p : Nat} (hp : p < m) (h : mtx (80 * t + p) = 32) : nbf mtx t m (m - p) p = nbf mtx t m (m - (p + 1)) (p + 1) := by
  rw [show m - p = (m - (p + 1)) + 1 by omega, nbf, if_pos ⟨hp, h⟩]
theorem nb_stop {mtx : Nat → Int32} {t m p : Nat} (h : ¬ (p < m ∧ mtx (80 * t + p) = 32)) : nbf mtx t m (m - p) p = p := by
  cases e : m - p with
  | zero => rfl
  | succ k => rw [nbf, if_neg h]
theorem kind_l (F : Nat) (x : Int32) : (∃ kd, kd ≤ 5 ∧ fX4_kindByLetter F x = some (Int32.ofNat kd) ∧ fX6_kindOf F x = some (Int32.ofNat kd)) ∨ (fX4_kindByLetter F x = some (-9) ∧ fX6_kindOf F x = some (-1)) := by
  unfold fX4_kindByLetter fX6_kindOf
  by_cases h1 : x = 100
  · subst h1; exact Or.inl ⟨1, by decide, rfl, rfl⟩
  by_cases h2 : x = 103
  · subst h2; exact Or.inl ⟨0, by decide, rfl, rfl⟩
  by_cases h3 : x = 109
  · subst h3; exact Or.inl ⟨3, by decide, rfl, rfl⟩
  by_cases h4 : x = 115
  · subst h4; exact Or.inl ⟨2, by decide, rfl, rfl⟩
  by_cases h5 : x = 117
  · subst h5; exact Or.inl ⟨4, by decide, rfl, rfl⟩
  by_cases h6 : x = 121
  · subst h6; exact Or.inl ⟨5, by decide, rfl, rfl⟩
  · exact Or.inr ⟨by rw [if_neg h1, if_neg h2, if_neg h3, if_neg h4, if_neg h5, if_neg h6], by rw [if_neg h2, if_neg h1, if_neg h4, if_neg h3, if_neg h5, if_neg h6]⟩
theorem m32 : ¬ ((32 : Int32) - 48 = (32 : Int32)) := by decide
theorem in_off (F : Nat) {v a b : Int32} (h : v < a ∨ b < v) : fX6_in F v.toInt64 a.toInt64 b.toInt64 = some 0 := by
  rw [m_in_gen F v (u := a) (v := b) rfl rfl]
  rcases h with h | h
  · rw [if_pos h]
  · by_cases h0 : v < a
    · rw [if_pos h0]
    · rw [if_neg h0, if_pos h]
/-- the model takes a figure -/
theorem m_takesF (F : Nat) {mts mtx rd : Nat → Int32} {t m p pl : Nat} (ht : t < 4) (hm : m ≤ 80) (hz : mts t = Int32.ofNat m) (hp : p < 1000) (hpl : pl < 23) : fX6_takes F (Int32.ofNat p) mts mtx rd (Int32.ofNat t) (Int32.ofNat pl) (0 : Int32) (9 : Int32) = (bd1 (fX6_in F ((byI mtx t m p - 48).toInt64) (0 : Int32).toInt64 (9 : Int32).toInt64) fun r18 => if r18 = 0 then (some ((0 : Int32), Int32.ofNat p, rd)) else some ((1 : Int32), Int32.ofNat (p + 1), upd rd pl (byI mtx t m p - 48))) := by
  unfold fX6_takes
  rw [m_byte F ht hm hz hp, bd1_mk, p_cl (show pl < 2147483648 by omega), p_s]
  refine congrArg (bd1 _) ?_
  funext r
  rw [if_neg (gx hpl (by omega))]
