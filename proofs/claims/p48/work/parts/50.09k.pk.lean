theorem m_in_gen (F : Nat) (x : Int32) {a b : Int64} {u v : Int32} (ha : a = u.toInt64) (hb : b = v.toInt64) : fX6_in F x.toInt64 a b = if x < u then some 0 else if v < x then some 0 else some 1 := by
  subst ha; subst hb
  unfold fX6_in
  simp only [lgc_lt, lgc_gt, t64_lt]
theorem c_takeAll (F : Nat) (a : Int32) (b : Int64) (f : Nat → Int64) (a' : Int32) (b' : Int64) (f' : Nat → Int64) : fX0_takeAll F a b f a' b' f' = some (a', b', va_cpy f' f 0 0 40) := by
  unfold fX0_takeAll
  rw [if_neg (by decide)]
  rfl
theorem cpy40 {f g : Nat → Int64} {j : Nat} (hj : j < 40) : va_cpy f g 0 0 40 j = f j := by
  unfold va_cpy
  rw [if_pos (by omega), show 0 + (j - 0) = j by omega]
theorem nar_b1 : vp_nar .boolean (1 : Int32) = 1 := by decide
