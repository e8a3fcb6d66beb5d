theorem p_ixF {k n : Nat} (h : k < n) (hk : k < 2147483648) : (Int32.ofNat k < 0 ∨ n ≤ (Int32.ofNat k).toNatClampNeg) = False := eq_false (p_ix h hk)
theorem p_ixG {k n : Nat} (h : k < n) (hk : k < 2147483648) : (Int32.ofNat k < 0 ∨ n ≤ k) = False := by
  rw [p_neg hk, p_nle h, or_self]
theorem gx {k n : Nat} (h : k < n) (hk : k < 2147483648) : ¬ (Int32.ofNat k < 0 ∨ n ≤ k) := of_eq_false (p_ixG h hk)
theorem p_ge0 {k : Nat} (hk : k < 2147483648) : ((0 : Int32) ≤ Int32.ofNat k) = True := eq_true (Int32.not_lt.mp (by rw [p_neg hk]; exact not_false))
theorem e10 : ((1 : Int32) = 0) = False := eq_false (by decide)
theorem e00 : ((0 : Int32) = 0) = True := eq_true rfl
theorem rng_cases (x : Int32) {n : Nat} (hn : n < 2147483648) : (x < 0 ∨ Int32.ofNat n ≤ x) ∨ ∃ k, k < n ∧ x = Int32.ofNat k := by
  by_cases h : x < 0
  · exact Or.inl (Or.inl h)
  · by_cases h2 : x < Int32.ofNat n
    · exact Or.inr (p_rng x hn h h2)
    · exact Or.inl (Or.inr (Int32.not_lt.mp h2))
theorem p_rngle (x : Int32) {n : Nat} (hn : n < 2147483647) (h : 0 ≤ x) (h2 : x ≤ Int32.ofNat n) : ∃ k : Nat, k ≤ n ∧ x = Int32.ofNat k := by
  have e := Int32.ofNat_toNatClampNeg x h
  refine ⟨x.toNatClampNeg, ?_, e.symm⟩
  rw [← e, p_le (Int32.toNatClampNeg_lt x) (by omega)] at h2
  exact h2
theorem lgc_lt (x y : Int64) : (lg_cmp x y < 0) = (x < y) := by
  apply propext
  unfold lg_cmp
  by_cases h : y < x
  · rw [if_pos h]
    exact ⟨fun q => absurd q (by decide), fun q => Int64.lt_irrefl (Int64.lt_trans q h) |>.elim⟩
  · rw [if_neg h]
    by_cases h2 : x = y
    · rw [if_pos h2]
      exact ⟨fun q => absurd q (by decide), fun q => by subst h2; exact (Int64.lt_irrefl q).elim⟩
    · rw [if_neg h2]
      exact ⟨fun _ => Int64.lt_of_le_of_ne (Int64.not_lt.mp h) h2, fun _ => by decide⟩
theorem lgc_gt (x y : Int64) : (0 < lg_cmp x y) = (y < x) := by
  apply propext
  unfold lg_cmp
  by_cases h : y < x
  · rw [if_pos h]
    exact ⟨fun _ => h, fun _ => by decide⟩
  · rw [if_neg h]
    by_cases h2 : x = y
    · rw [if_pos h2]
      exact ⟨fun q => absurd q (by decide), fun q => absurd q h⟩
    · rw [if_neg h2]
      exact ⟨fun q => absurd q (by decide), fun q => absurd q h⟩
theorem lgc_le (x y : Int64) : (lg_cmp x y ≤ 0) = (x ≤ y) := by
  have h := lgc_gt x y
  apply propext
  rw [← Int32.not_lt, ← Int64.not_lt, h]
theorem lgc_eq (x y : Int64) : (lg_cmp x y = 0) = (x = y) := by
  apply propext
  unfold lg_cmp
  by_cases h : y < x
  · rw [if_pos h]
    exact ⟨fun q => absurd q (by decide), fun q => by subst q; exact (Int64.lt_irrefl h).elim⟩
  · rw [if_neg h]
    by_cases h2 : x = y
    · rw [if_pos h2]
      exact ⟨fun _ => h2, fun _ => rfl⟩
    · rw [if_neg h2]
      exact ⟨fun q => absurd q (by decide), fun q => absurd q h2⟩
theorem t64_lt (x y : Int32) : (x.toInt64 < y.toInt64) = (x < y) := by
  rw [Int64.lt_iff_toInt_lt, Int32.toInt_toInt64, Int32.toInt_toInt64, Int32.lt_iff_toInt_lt]
theorem t64_z : (0 : Int64) = (0 : Int32).toInt64 := by decide
theorem p_pred {n : Nat} (hn : n < 2147483648) (x : Int32) : (Int32.ofNat n - 1 < x) = (Int32.ofNat n ≤ x) := by
  have e : (Int32.ofNat n - 1).toInt = (n : Int) - 1 := by
    rw [← p_nz n, show (1 : Int32) = Int32.ofInt 1 from rfl, ← Int32.ofInt_sub, p_tz (by omega) (by omega)]
  rw [Int32.lt_iff_toInt_lt, Int32.le_iff_toInt_le, e, p_ti hn]
  exact propext ⟨fun h => by omega, fun h => by omega⟩
theorem c_rng0 {x : Int32} {n : Nat} (h : x < 0 ∨ Int32.ofNat n ≤ x) : (if x < 0 then some (0 : Int32) else (if Int32.ofNat n ≤ x then some 0 else some 1)) = some 0 := by
  rcases h with h | h
  · rw [if_pos h]
  · by_cases h0 : x < 0
    · rw [if_pos h0]
    · rw [if_neg h0, if_pos h]
theorem c_rng1 {k n : Nat} (hk : k < n) (hn : n < 2147483648) : (if Int32.ofNat k < 0 then some (0 : Int32) else (if Int32.ofNat n ≤ Int32.ofNat k then some 0 else some 1)) = some 1 := by
  have f1 := p_neg (k := k) (by omega)
  have f2 : (Int32.ofNat n ≤ Int32.ofNat k) = False := by rw [p_le (by omega) (by omega)]; exact p_nle hk
  simp only [f1, f2, ↓reduceIte]
theorem m_inF {F : Nat} {x : Int32} {n : Nat} {a b : Int64} (hn : n < 2147483648) (ha : a = (0 : Int32).toInt64) (hb : b = (Int32.ofNat n - 1).toInt64) (h : x < 0 ∨ Int32.ofNat n ≤ x) : fX6_in F x.toInt64 a b = some 0 := by
  subst ha; subst hb
  unfold fX6_in
  simp only [lgc_lt, lgc_gt, t64_lt, p_pred hn]
  exact c_rng0 h
theorem m_inT {F : Nat} {k n : Nat} {a b : Int64} (hk : k < n) (hn : n < 2147483648) (ha : a = (0 : Int32).toInt64) (hb : b = (Int32.ofNat n - 1).toInt64) : fX6_in F (Int32.ofNat k).toInt64 a b = some 1 := by
  subst ha; subst hb
  unfold fX6_in
  simp only [lgc_lt, lgc_gt, t64_lt, p_pred hn]
  exact c_rng1 hk hn
theorem row_c (F : Nat) (x : Int32) : (fX5_isRow F x = some 0 ∧ fX6_isRow F x = some 0) ∨ ∃ k, k < 6 ∧ x = Int32.ofNat k ∧ fX5_isRow F x = some 1 ∧ fX6_isRow F x = some 1 := by
  rcases rng_cases x (n := 6) (by decide) with h | ⟨k, hk, rfl⟩
  · refine Or.inl ⟨c_rng0 h, ?_⟩
    unfold fX6_isRow
    rw [m_inF (n := 6) (by decide) (by decide) (by decide) h, bd1_mk]
  · refine Or.inr ⟨k, hk, rfl, c_rng1 hk (by decide), ?_⟩
    unfold fX6_isRow
    rw [m_inT (n := 6) hk (by decide) (by decide) (by decide), bd1_mk]
theorem text_c (F : Nat) (x : Int32) : (fX5_isText F x = some 0 ∧ fX6_isText F x = some 0) ∨ ∃ k, k < 4 ∧ x = Int32.ofNat k ∧ fX5_isText F x = some 1 ∧ fX6_isText F x = some 1 := by
  rcases rng_cases x (n := 4) (by decide) with h | ⟨k, hk, rfl⟩
  · refine Or.inl ⟨c_rng0 h, ?_⟩
    unfold fX6_isText
    rw [m_inF (n := 4) (by decide) (by decide) (by decide) h, bd1_mk]
  · refine Or.inr ⟨k, hk, rfl, c_rng1 hk (by decide), ?_⟩
    unfold fX6_isText
    rw [m_inT (n := 4) hk (by decide) (by decide) (by decide), bd1_mk]
theorem tune_c (F : Nat) (x : Int32) : (fX5_isTune F x = some 0 ∧ fX6_isTune F x = some 0) ∨ ∃ k, k < 4 ∧ x = Int32.ofNat k ∧ fX5_isTune F x = some 1 ∧ fX6_isTune F x = some 1 := by
  rcases rng_cases x (n := 4) (by decide) with h | ⟨k, hk, rfl⟩
  · refine Or.inl ⟨c_rng0 h, ?_⟩
    unfold fX6_isTune
    rw [m_inF (n := 4) (by decide) (by decide) (by decide) h, bd1_mk]
  · refine Or.inr ⟨k, hk, rfl, c_rng1 hk (by decide), ?_⟩
    unfold fX6_isTune
    rw [m_inT (n := 4) hk (by decide) (by decide) (by decide), bd1_mk]
theorem place_c (F : Nat) (x : Int32) : (fX5_isKeepingPlace F x = some 0 ∧ fX6_in F x.toInt64 (0 : Int64) (2 : Int64) = some 0) ∨ ∃ k, k < 3 ∧ x = Int32.ofNat k ∧ fX5_isKeepingPlace F x = some 1 ∧ fX6_in F x.toInt64 (0 : Int64) (2 : Int64) = some 1 := by
  rcases rng_cases x (n := 3) (by decide) with h | ⟨k, hk, rfl⟩
  · exact Or.inl ⟨c_rng0 h, m_inF (n := 3) (by decide) (by decide) (by decide) h⟩
  · exact Or.inr ⟨k, hk, rfl, c_rng1 hk (by decide), m_inT (n := 3) hk (by decide) (by decide) (by decide)⟩
theorem guest_c (F : Nat) {n : Nat} (hn : n ≤ 6) (x : Int32) : (fX5_isGuest F (Int32.ofNat n) x = some 0 ∧ fX6_isGuest F (Int32.ofNat n) x = some 0) ∨ ∃ k, k < n ∧ x = Int32.ofNat k ∧ fX5_isGuest F (Int32.ofNat n) x = some 1 ∧ fX6_isGuest F (Int32.ofNat n) x = some 1 := by
  rcases rng_cases x (n := n) (by omega) with h | ⟨k, hk, rfl⟩
  · refine Or.inl ⟨c_rng0 h, ?_⟩
    unfold fX6_isGuest
    rw [m_inF (n := n) (by omega) (by decide) rfl h, bd1_mk]
  · refine Or.inr ⟨k, hk, rfl, c_rng1 hk (by omega), ?_⟩
    unfold fX6_isGuest
    rw [m_inT (n := n) hk (by omega) (by decide) rfl, bd1_mk]
theorem rrow_get {k w r : Nat} {rs mrs mr : Nat → Int32} {rm : Nat → Nat → Int32} (h : RRow k w rs rm mrs mr) (hr : r < k) : (rs r = -1 ∧ mrs r = -1) ∨ ∃ m : Nat, m ≤ w ∧ rs r = Int32.ofNat m ∧ mrs r = Int32.ofNat m ∧ ∀ i, i < m → rm r i = mr (w * r + i) := by
  obtain ⟨z, h1, h2, h3, h4, h5⟩ := h r hr
  by_cases hz : z = -1
  · subst hz
    exact Or.inl ⟨h3.trans (by decide), h4.trans (by decide)⟩
  · right
    have e : ((z.toNat : Nat) : Int) = z := by omega
    refine ⟨z.toNat, by omega, ?_, ?_, fun i hi => h5 i (by omega)⟩
    · rw [h3, ← p_nz, e]
    · rw [h4, ← p_nz, e]
theorem rrow_set {k w r : Nat} {rs mrs mr : Nat → Int32} {rm : Nat → Nat → Int32} (h : RRow k w rs rm mrs mr) {rs' mrs' mr' : Nat → Int32} {rm' : Nat → Nat → Int32} (z : Int) (h1 : -1 ≤ z) (h2 : z ≤ w) (h3 : rs' r = Int32.ofInt z) (h4 : mrs' r = Int32.ofInt z) (h5 : ∀ i : Nat, (i : Int) < z → rm' r i = mr' (w * r + i)) (ho : ∀ q, q < k → q ≠ r → rs' q = rs q ∧ mrs' q = mrs q ∧ ∀ i, i < w → rm' q i = rm q i ∧ mr' (w * q + i) = mr (w * q + i)) : RRow k w rs' rm' mrs' mr' := by
  intro q hq
  by_cases e : q = r
  · subst e
    exact ⟨z, h1, h2, h3, h4, h5⟩
  · obtain ⟨a, b, d⟩ := ho q hq e
    obtain ⟨z', g1, g2, g3, g4, g5⟩ := h q hq
    exact ⟨z', g1, g2, a.trans g3, b.trans g4, fun i hi => by rw [(d i (by omega)).1, (d i (by omega)).2, g5 i hi]⟩
theorem c_f1 (F : Nat) (fc : Nat → Int32) (lf : Int32) : fX5_found F fc lf (1 : Int32) = some (-3, upd fc 1 (fc 1 + 1), 1) := rfl
theorem c_f2 (F : Nat) (fc : Nat → Int32) (lf : Int32) : fX5_found F fc lf (2 : Int32) = some (-3, upd fc 2 (fc 2 + 1), 2) := rfl
theorem c_f3 (F : Nat) (fc : Nat → Int32) (lf : Int32) : fX5_found F fc lf (3 : Int32) = some (-3, upd fc 3 (fc 3 + 1), 3) := rfl
theorem c_f4 (F : Nat) (fc : Nat → Int32) (lf : Int32) : fX5_found F fc lf (4 : Int32) = some (-3, upd fc 4 (fc 4 + 1), 4) := rfl
theorem c_f5 (F : Nat) (fc : Nat → Int32) (lf : Int32) : fX5_found F fc lf (5 : Int32) = some (-3, upd fc 5 (fc 5 + 1), 5) := rfl
theorem m_f1 (F : Nat) (lf : Int32) (fc : Nat → Int32) : fX6_found F lf fc (1 : Int32) = some (-3, 1, upd fc 1 (fc 1 + 1)) := rfl
theorem m_f2 (F : Nat) (lf : Int32) (fc : Nat → Int32) : fX6_found F lf fc (2 : Int32) = some (-3, 2, upd fc 2 (fc 2 + 1)) := rfl
theorem m_f3 (F : Nat) (lf : Int32) (fc : Nat → Int32) : fX6_found F lf fc (3 : Int32) = some (-3, 3, upd fc 3 (fc 3 + 1)) := rfl
theorem m_f4 (F : Nat) (lf : Int32) (fc : Nat → Int32) : fX6_found F lf fc (4 : Int32) = some (-3, 4, upd fc 4 (fc 4 + 1)) := rfl
theorem m_f5 (F : Nat) (lf : Int32) (fc : Nat → Int32) : fX6_found F lf fc (5 : Int32) = some (-3, 5, upd fc 5 (fc 5 + 1)) := rfl
theorem fc_up {fc mf : Nat → Int32} (h : ∀ i, i < 6 → fc i = mf i) {w : Nat} (hw : w < 6) : ∀ i, i < 6 → upd fc w (fc w + 1) i = upd mf w (mf w + 1) i := by
  intro i hi
  rw [upd_at, upd_at, h i hi, h w hw]
theorem lin40 (r k : Nat) : (40 : Int32) * Int32.ofNat r + Int32.ofNat k = Int32.ofNat (40 * r + k) := by
  rw [show (40 : Int32) = Int32.ofNat 40 from rfl, p_mul, p_add]
theorem lin80 (r k : Nat) : (80 : Int32) * Int32.ofNat r + Int32.ofNat k = Int32.ofNat (80 * r + k) := by
  rw [show (80 : Int32) = Int32.ofNat 80 from rfl, p_mul, p_add]
theorem vaup_at {α : Type} {f : Nat → α} {k : Nat} {v : α} (j : Nat) : va_up f k v j = if j = k then v else f j := rfl
theorem c_makeRow (F : Nat) (rs : Nat → Int32) (rm : Nat → Nat → Int32) {r m : Nat} (hr : r < 6) (hm : m ≤ 40) (hF : 1000000 ≤ F) : fX5_makeRow F rs rm (Int32.ofNat r) (Int32.ofNat m) = some (upd rs r (Int32.ofNat m), fun q i => if q = r ∧ i < m then 0 else rm q i) := by
  unfold fX5_makeRow
  have key := loop_up (fun fu (a : Int32 × (Nat → Nat → Int32)) => fX5_makeRow_l2 F (Int32.ofNat r) (Int32.ofNat m) rs fu a.1 a.2) m (fun k => (Int32.ofNat k, fun q i => if q = r ∧ i < k then 0 else rm q i)) (some (upd rs r (Int32.ofNat m), fun q i => if q = r ∧ i < m then 0 else rm q i)) ?_ ?_ F (by omega)
  · have e0 : (fun q i => if q = r ∧ i < 0 then (0 : Int32) else rm q i) = rm := by
      funext q i
      rw [if_neg (by omega)]
    dsimp only at key
    rw [e0] at key
    exact key
  · intro fu k hk
    have f0 : (Int32.ofNat m ≤ Int32.ofNat k) = False := by rw [p_le (by omega) (by omega)]; exact p_nle hk
    dsimp only
    rw [fX5_makeRow_l2, fX5_makeRow_l2_b, if_neg (of_eq_false f0), if_neg (p_ix hr (by omega)), if_neg (p_ix (show k < 40 by omega) (by omega)), p_cl (show r < 2147483648 by omega), p_cl (show k < 2147483648 by omega), p_s]
    refine congrArg (fX5_makeRow_l2 F (Int32.ofNat r) (Int32.ofNat m) rs fu (Int32.ofNat (k + 1))) ?_
    funext q i
    rw [vaup_at]
    by_cases h1 : q = r
    · subst h1
      rw [if_pos rfl, upd_at]
      by_cases h2 : i = k
      · rw [if_pos h2, if_pos ⟨rfl, by omega⟩]
      · rw [if_neg h2]
        by_cases h3 : i < k
        · rw [if_pos ⟨rfl, h3⟩, if_pos ⟨rfl, by omega⟩]
        · rw [if_neg (by omega), if_neg (by omega)]
    · rw [if_neg h1, if_neg (fun z => h1 z.1), if_neg (fun z => h1 z.1)]
  · intro fu
    dsimp only
    rw [fX5_makeRow_l2, fX5_makeRow_l2_b, if_pos (Int32.le_refl _), if_neg (p_ix hr (by omega)), p_cl (show r < 2147483648 by omega)]
