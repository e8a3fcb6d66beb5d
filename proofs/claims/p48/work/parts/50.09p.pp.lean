def Gr (x : Int32) : Prop := ∃ g, g < 21 ∧ x = Int32.ofNat g
theorem p_lt21 {x : Int32} : ((20 : Int32) < x) = (Int32.ofNat 21 ≤ x) := by
  rw [Int32.lt_iff_toInt_lt, Int32.le_iff_toInt_le, show (20 : Int32).toInt = 20 from by decide, show (Int32.ofNat 21).toInt = 21 from by decide]
  exact propext ⟨fun h => by omega, fun h => by omega⟩
theorem grief_d (F : Nat) (x : Int32) : (¬ Gr x ∧ fX5_isGrief F x = some 0 ∧ fX6_in F x.toInt64 (0 : Int64) (20 : Int64) = some 0) ∨ (Gr x ∧ fX5_isGrief F x = some 1 ∧ fX6_in F x.toInt64 (0 : Int64) (20 : Int64) = some 1) := by
  have e5 : ∀ y, fX5_isGrief F y = (if y < 0 then some (0 : Int32) else (if Int32.ofNat 21 ≤ y then some 0 else some 1)) := fun y => by
    unfold fX5_isGrief
    simp only [p_lt21]
  rw [e5]
  rcases rng_cases x (n := 21) (by decide) with h | ⟨k, hk, rfl⟩
  · refine Or.inl ⟨fun ⟨g, hg, e⟩ => ?_, c_rng0 h, m_inF (n := 21) (by decide) (by decide) (by decide) h⟩
    subst e
    rcases h with h | h
    · exact (of_eq_false (p_neg (by omega))) h
    · rw [p_le (by omega) (by omega)] at h
      omega
  · exact Or.inr ⟨⟨k, hk, rfl⟩, c_rng1 hk (by decide), m_inT (n := 21) hk (by decide) (by decide) (by decide)⟩
theorem par_tab : ∀ m, m < 41 → (Int32.ofNat m - Int32.ofNat m / (2 : Int32) * (2 : Int32) = 0) = (m % 2 = 0) := by
  intro m hm
  exact propext ((show ∀ m, m < 41 → ((Int32.ofNat m - Int32.ofNat m / (2 : Int32) * (2 : Int32) = 0) ↔ (m % 2 = 0)) by decide +kernel) m hm)
theorem p_s2 (k : Nat) : Int32.ofNat (2 * k) + (2 : Int32) = Int32.ofNat (2 * (k + 1)) := by
  rw [show (2 : Int32) = Int32.ofNat 2 from rfl, p_add]
  rfl
theorem evening_c (F : Nat) {n : Nat} (hn : n ≤ 6) {s : Nat → Option Nat} (hs : HallOk n s) {mnow : Nat → Int32} (hm : RM mnow 0 s n) {rs mrs mr : Nat → Int32} {rm : Nat → Nat → Int32} (hRo : RRow 6 40 rs rm mrs mr) {fc mfs : Nat → Int32} (hfc : ∀ i, i < 6 → fc i = mfs i) (lf x1 x2 : Int32) (hF : 1000000 ≤ F) : (∃ v fc' lf' mfs', v ≠ 0 ∧ fX5_eveningRefusal F rs rm (Int32.ofNat n) (enc s) fc lf x1 x2 = some (v, fc', lf') ∧ fX6_evening F (Int32.ofNat n) lf mrs mr mnow mfs x1 x2 = some (v, lf', mfs') ∧ ∀ i, i < 6 → fc' i = mfs' i) ∨ (∃ i r q, i < n ∧ r < 6 ∧ q ≤ 8 ∧ x1 = Int32.ofNat i ∧ x2 = Int32.ofNat r ∧ (s i).isSome = true ∧ rs r = Int32.ofNat (2 * q) ∧ mrs r = Int32.ofNat (2 * q) ∧ fX5_eveningRefusal F rs rm (Int32.ofNat n) (enc s) fc lf x1 x2 = some (0, fc, lf) ∧ fX6_evening F (Int32.ofNat n) lf mrs mr mnow mfs x1 x2 = some (0, lf, mfs) ∧ ∃ tN gN : Nat → Nat, ∀ p, p < q → tN p < 4 ∧ gN p < 21 ∧ rm r (2 * p) = Int32.ofNat (tN p) ∧ mr (40 * r + 2 * p) = Int32.ofNat (tN p) ∧ rm r (2 * p + 1) = Int32.ofNat (gN p) ∧ mr (40 * r + 2 * p + 1) = Int32.ofNat (gN p)) := by
  rcases guest_c F hn x1 with ⟨a1, a2⟩ | ⟨i, hi, rfl, a1, a2⟩
  · exact Or.inl ⟨-1, fc, lf, mfs, by decide, by unfold fX5_eveningRefusal; rw [a1]; rfl, by unfold fX6_evening; rw [a2]; rfl, hfc⟩
  rcases row_c F x2 with ⟨y1, y2⟩ | ⟨r, hr, rfl, y1, y2⟩
  · exact Or.inl ⟨-1, fc, lf, mfs, by decide, by unfold fX5_eveningRefusal; rw [a1, bd1_mk, if_neg (by decide), y1]; rfl, by unfold fX6_evening; rw [a2, bd1_mk, if_neg (by decide), y2]; rfl, hfc⟩
  have h6 : i < 6 := by omega
  have hcl := p_cl (show r < 2147483648 by omega)
  have hix := gx hr (by omega)
  have e5 : fX5_eveningRefusal F rs rm (Int32.ofNat n) (enc s) fc lf (Int32.ofNat i) (Int32.ofNat r) = (if (if (s i).isSome = true then (1 : Int32) else 0) = 0 then (some ((-4 : Int32), fc, lf)) else (bd1 (fX5_eveningFinding F rs rm (Int32.ofNat r)) fun r36 => if r36 = 0 then (some ((0 : Int32), fc, lf)) else (bd3 (fX5_found F fc lf r36) fun r50 w50_fc w50_lf => some (r50, w50_fc, w50_lf)))) := by
    unfold fX5_eveningRefusal
    rw [a1, bd1_mk, if_neg (by decide), y1, bd1_mk, if_neg (by decide), c_isIn F hs.hb h6, bd1_mk]
  have e6 := m_has6 F hm hi h6
  cases hso : (s i).isSome with
  | false =>
    rw [hso] at e5 e6
    exact Or.inl ⟨-4, fc, lf, mfs, by decide, e5.trans rfl, by unfold fX6_evening; rw [a2, bd1_mk, if_neg (by decide), y2, bd1_mk, if_neg (by decide), e6]; rfl, hfc⟩
  | true =>
  rw [hso, if_pos (show true = true from rfl), if_neg (by decide)] at e5
  rw [hso, if_pos (show true = true from rfl)] at e6
  rcases rrow_get hRo hr with ⟨g1, g2⟩ | ⟨m, hm40, g1, g2, g3⟩
  · refine Or.inl ⟨-3, upd fc 1 (fc 1 + 1), 1, upd mfs 1 (mfs 1 + 1), by decide, ?_, ?_, fc_up hfc (by decide)⟩
    · rw [e5]
      unfold fX5_eveningFinding
      rw [hcl, if_neg hix, if_pos g1, bd1_mk, if_neg (by decide), c_f1, bd3_mk]
    · unfold fX6_evening
      rw [hcl, a2, bd1_mk, if_neg (by decide), y2, bd1_mk, if_neg (by decide), e6, bd1_mk, if_pos rfl, if_neg hix, g2, if_neg neg1_ge, m_f1, bd3_mk]
  have hge := of_eq_true (p_ge0 (show m < 2147483648 by omega))
  have hpar := par_tab m (by omega)
  by_cases hbad : m % 2 = 0 ∧ m ≤ 16
  rotate_left
  · refine Or.inl ⟨-3, upd fc 5 (fc 5 + 1), 5, upd mfs 5 (mfs 5 + 1), by decide, ?_, ?_, fc_up hfc (by decide)⟩
    · rw [e5]
      have : fX5_eveningFinding F rs rm (Int32.ofNat r) = some 5 := by
        unfold fX5_eveningFinding
        rw [hcl, if_neg hix, g1, if_neg (nat_ne1 (by omega))]
        by_cases h2 : m % 2 = 0
        · have w16 : ¬ (Int32.ofNat m ≤ (16 : Int32)) := of_eq_false (by rw [show (16 : Int32) = Int32.ofNat 16 from rfl, p_le (by omega) (by omega)]; exact eq_false (by omega))
          rw [if_pos (by rw [hpar]; exact h2), if_neg w16]
        · rw [if_neg (by rw [hpar]; exact h2)]
      rw [this, bd1_mk, if_neg (by decide), c_f5, bd3_mk]
    · unfold fX6_evening
      rw [hcl, a2, bd1_mk, if_neg (by decide), y2, bd1_mk, if_neg (by decide), e6, bd1_mk, if_pos rfl, if_neg hix, g2, if_pos hge, if_neg hix, m_f5, bd3_mk]
      have w16 : ((16 : Int32) < Int32.ofNat m) = (16 < m) := by rw [show (16 : Int32) = Int32.ofNat 16 from rfl, p_lt (by omega) (by omega)]
      by_cases h16 : 16 < m
      · rw [if_pos (by rw [w16]; exact h16)]
      · rw [if_neg (by rw [w16]; exact h16), if_neg hix, if_neg (by rw [hpar]; omega)]
  obtain ⟨h2, h16⟩ := hbad
  obtain ⟨q, rfl⟩ : ∃ q, m = 2 * q := ⟨m / 2, by omega⟩
  have w16 : Int32.ofNat (2 * q) ≤ (16 : Int32) := of_eq_true (by rw [show (16 : Int32) = Int32.ofNat 16 from rfl, p_le (by omega) (by omega)]; exact eq_true h16)
  have w16' : ¬ ((16 : Int32) < Int32.ofNat (2 * q)) := Int32.not_lt.mpr w16
  have q5 : (fX5_eveningFinding F rs rm (Int32.ofNat r) = some 0 ∧ ∀ j, j < q → Tu (rm r (2 * j)) ∧ Gr (rm r (2 * j + 1))) ∨ (fX5_eveningFinding F rs rm (Int32.ofNat r) = some 3 ∧ ∃ j, j < q ∧ ¬ (Tu (rm r (2 * j)) ∧ Gr (rm r (2 * j + 1)))) := by
    unfold fX5_eveningFinding
    rw [hcl, if_neg hix, g1, if_neg (nat_ne1 (by omega)), if_pos (by rw [hpar]; exact h2), if_pos w16]
    refine loop_inv (fun fu (a : Int32) => fX5_eveningFinding_l30 F rs rm (Int32.ofNat r) (Int32.ofNat (2 * q)) fu a) q (fun k a => a = Int32.ofNat (2 * k) ∧ ∀ j, j < k → Tu (rm r (2 * j)) ∧ Gr (rm r (2 * j + 1))) (fun o => (o = some 0 ∧ ∀ j, j < q → Tu (rm r (2 * j)) ∧ Gr (rm r (2 * j + 1))) ∨ (o = some 3 ∧ ∃ j, j < q ∧ ¬ (Tu (rm r (2 * j)) ∧ Gr (rm r (2 * j + 1))))) ?_ ?_ F 0 (by omega) ⟨rfl, fun j hj => absurd hj (Nat.not_lt_zero j)⟩
    · rintro fu k a hk ⟨rfl, hT⟩
      have f0 : ¬ (Int32.ofNat (2 * q) ≤ Int32.ofNat (2 * k + 1)) := of_eq_false (by rw [p_le (by omega) (by omega)]; exact p_nle (by omega))
      rw [fX5_eveningFinding_l30, fX5_eveningFinding_l30_b, p_s, hcl, if_neg f0, if_neg hix, p_cl (show 2 * k < 2147483648 by omega), p_cl (show 2 * k + 1 < 2147483648 by omega), if_neg (gx (show 2 * k < 40 by omega) (by omega)), p_s2]
      rcases tune_d F (rm r (2 * k)) with ⟨n1, n2, n3⟩ | ⟨n1, n2, n3⟩
      · rw [n2, bd1_mk, if_pos rfl]
        exact Or.inr (Or.inr ⟨rfl, k, hk, fun z => n1 z.1⟩)
      · rw [n2, bd1_mk, if_neg (by decide), if_neg hix, if_neg (gx (show 2 * k + 1 < 40 by omega) (by omega))]
        rcases grief_d F (rm r (2 * k + 1)) with ⟨o1, o2, o3⟩ | ⟨o1, o2, o3⟩
        · rw [o2, bd1_mk, if_pos rfl]
          exact Or.inr (Or.inr ⟨rfl, k, hk, fun z => o1 z.2⟩)
        · rw [o2, bd1_mk, if_neg (by decide)]
          refine Or.inl ⟨Int32.ofNat (2 * (k + 1)), ⟨rfl, fun j hj => ?_⟩, rfl⟩
          by_cases e : j = k
          · subst e; exact ⟨n1, o1⟩
          · exact hT j (by omega)
    · rintro fu a ⟨rfl, hT⟩
      have f0 : Int32.ofNat (2 * q) ≤ Int32.ofNat (2 * q + 1) := of_eq_true (by rw [p_le (by omega) (by omega)]; exact eq_true (by omega))
      rw [fX5_eveningFinding_l30, fX5_eveningFinding_l30_b, p_s, if_pos f0]
      exact Or.inl ⟨rfl, hT⟩
  have q6 : (fX6_evening F (Int32.ofNat n) lf mrs mr mnow mfs (Int32.ofNat i) (Int32.ofNat r) = some (0, lf, mfs) ∧ ∀ j, j < q → Tu (rm r (2 * j)) ∧ Gr (rm r (2 * j + 1))) ∨ (fX6_evening F (Int32.ofNat n) lf mrs mr mnow mfs (Int32.ofNat i) (Int32.ofNat r) = some (-3, 3, upd mfs 3 (mfs 3 + 1)) ∧ ∃ j, j < q ∧ ¬ (Tu (rm r (2 * j)) ∧ Gr (rm r (2 * j + 1)))) := by
    unfold fX6_evening
    rw [hcl, a2, bd1_mk, if_neg (by decide), y2, bd1_mk, if_neg (by decide), e6, bd1_mk, if_pos rfl, if_neg hix, g2, if_pos hge, if_neg hix, if_neg w16', if_neg hix, if_pos (by rw [hpar]; exact h2)]
    refine loop_inv (fun fu (a : Int32 × Int32) => fX6_evening_l82 F (Int32.ofNat n) mrs mr mnow (Int32.ofNat r) lf mfs fu a.1 a.2) q (fun k a => a.2 = Int32.ofNat (2 * k) ∧ ((a.1 = 1 ∧ ∀ j, j < k → Tu (rm r (2 * j)) ∧ Gr (rm r (2 * j + 1))) ∨ (a.1 = 0 ∧ ∃ j, j < q ∧ ¬ (Tu (rm r (2 * j)) ∧ Gr (rm r (2 * j + 1)))))) (fun o => (o = some (0, lf, mfs) ∧ ∀ j, j < q → Tu (rm r (2 * j)) ∧ Gr (rm r (2 * j + 1))) ∨ (o = some (-3, 3, upd mfs 3 (mfs 3 + 1)) ∧ ∃ j, j < q ∧ ¬ (Tu (rm r (2 * j)) ∧ Gr (rm r (2 * j + 1))))) ?_ ?_ F (1, 0) (by omega) ⟨rfl, Or.inl ⟨rfl, fun j hj => absurd hj (Nat.not_lt_zero j)⟩⟩
    · rintro fu k ⟨x3, x4⟩ hk ⟨e4, hT⟩
      dsimp only at e4 hT
      subst e4
      have f0 : ¬ (Int32.ofNat (2 * q) ≤ Int32.ofNat (2 * k)) := of_eq_false (by rw [p_le (by omega) (by omega)]; exact p_nle (by omega))
      left
      dsimp only
      rw [fX6_evening_l82, fX6_evening_l82_b, hcl, if_neg hix, g2, if_neg f0, lin40, p_s, p_cl (show 40 * r + 2 * k < 2147483648 by omega), p_cl (show 40 * r + 2 * k + 1 < 2147483648 by omega), if_neg (gx (show 40 * r + 2 * k < 240 by omega) (by omega)), if_neg (gx (show 40 * r + 2 * k + 1 < 240 by omega) (by omega)), p_s2, ← g3 (2 * k) (by omega), show 40 * r + 2 * k + 1 = 40 * r + (2 * k + 1) from rfl, ← g3 (2 * k + 1) (by omega)]
      rcases hT with ⟨rfl, hT⟩ | ⟨rfl, hT⟩
      · rw [if_neg (by decide)]
        rcases tune_d F (rm r (2 * k)) with ⟨n1, n2, n3⟩ | ⟨n1, n2, n3⟩
        · rw [n3, bd1_mk, if_pos rfl]
          exact ⟨(0, Int32.ofNat (2 * (k + 1))), ⟨rfl, Or.inr ⟨rfl, k, hk, fun z => n1 z.1⟩⟩, rfl⟩
        · rw [n3, bd1_mk, if_neg (by decide)]
          rcases grief_d F (rm r (2 * k + 1)) with ⟨o1, o2, o3⟩ | ⟨o1, o2, o3⟩
          · rw [o3, bd1_mk, if_pos rfl]
            exact ⟨(0, Int32.ofNat (2 * (k + 1))), ⟨rfl, Or.inr ⟨rfl, k, hk, fun z => o1 z.2⟩⟩, rfl⟩
          · rw [o3, bd1_mk, if_neg (by decide)]
            refine ⟨(1, Int32.ofNat (2 * (k + 1))), ⟨rfl, Or.inl ⟨rfl, fun j hj => ?_⟩⟩, rfl⟩
            by_cases e : j = k
            · subst e; exact ⟨n1, o1⟩
            · exact hT j (by omega)
      · rw [if_pos rfl]
        exact ⟨(0, Int32.ofNat (2 * (k + 1))), ⟨rfl, Or.inr ⟨rfl, hT⟩⟩, rfl⟩
    · rintro fu ⟨x3, x4⟩ ⟨e4, hT⟩
      dsimp only at e4 hT
      subst e4
      dsimp only
      rw [fX6_evening_l82, fX6_evening_l82_b, hcl, if_neg hix, g2, if_pos (Int32.le_refl _)]
      rcases hT with ⟨rfl, hT⟩ | ⟨rfl, hT⟩
      · rw [if_neg (by decide)]
        exact Or.inl ⟨rfl, hT⟩
      · rw [if_pos rfl, m_f3, bd3_mk]
        exact Or.inr ⟨rfl, hT⟩
  rcases q5 with ⟨q5, t5⟩ | ⟨q5, j5, hj5, t5⟩ <;> rcases q6 with ⟨q6, t6⟩ | ⟨q6, j6, hj6, t6⟩
  · refine Or.inr ⟨i, r, q, hi, hr, by omega, rfl, rfl, hso, g1, g2, ?_, q6, fun p => (rm r (2 * p)).toNatClampNeg, fun p => (rm r (2 * p + 1)).toNatClampNeg, fun p hp => ?_⟩
    · rw [e5, q5, bd1_mk, if_pos rfl]
    · obtain ⟨⟨t, ht, e1⟩, ⟨g, hg, e2⟩⟩ := t5 p hp
      dsimp only
      rw [← g3 (2 * p) (by omega), show 40 * r + 2 * p + 1 = 40 * r + (2 * p + 1) from rfl, ← g3 (2 * p + 1) (by omega), e1, e2, p_cl (show t < 2147483648 by omega), p_cl (show g < 2147483648 by omega)]
      exact ⟨ht, hg, rfl, rfl, rfl, rfl⟩
  · exact absurd (t5 j6 hj6) t6
  · exact absurd (t6 j5 hj5) t5
  · exact Or.inl ⟨-3, upd fc 3 (fc 3 + 1), 3, upd mfs 3 (mfs 3 + 1), by decide, by rw [e5, q5, bd1_mk, if_neg (by decide), c_f3, bd3_mk], q6, fc_up hfc (by decide)⟩
def seqG (k : Nat) (E : Nat → Int) (tN : Nat → Nat) (g : Nat) : Nat → Nat
  | 0 => g
  | j + 1 => gb k (tN j) (E (tN j)) (seqG k E tN g j)
theorem seqG_le {k q : Nat} {E : Nat → Int} {tN : Nat → Nat} {g : Nat} (hk : k ≤ 5) (hE : ∀ i, i < 4 → -4 ≤ E i ∧ E i ≤ 5) (ht : ∀ p, p < q → tN p < 4) (hg : g ≤ 20) : ∀ j, j ≤ q → seqG k E tN g j ≤ 20
  | 0, _ => hg
  | j + 1, hj => (gb_all hk (ht j (by omega)) (hE _ (ht j (by omega))).1 (hE _ (ht j (by omega))).2 (seqG_le hk hE ht hg j (by omega))).2.2
def allB (p : Nat → Bool) : Nat → Bool
  | 0 => true
  | k + 1 => allB p k && p k
theorem allB_f {p : Nat → Bool} {k : Nat} (hk : p k = false) : ∀ q, k < q → allB p q = false
  | 0, h => absurd h (Nat.not_lt_zero k)
  | q + 1, h => by
    rw [allB]
    by_cases e : k = q
    · subst e; rw [hk, Bool.and_false]
    · rw [allB_f hk q (by omega), Bool.false_and]
theorem c_went (F : Nat) {k q g : Nat} {E : Nat → Int} {tN gN : Nat → Nat} {eff row : Nat → Int32} (hk : k ≤ 5) (hE : ∀ i, i < 4 → -4 ≤ E i ∧ E i ≤ 5 ∧ eff i = Int32.ofInt (E i)) (hq : q ≤ 8) (ht : ∀ p, p < q → tN p < 4 ∧ row (2 * p) = Int32.ofNat (tN p) ∧ row (2 * p + 1) = Int32.ofNat (gN p)) (hg : g ≤ 20) (hF : 1000000 ≤ F) : fX2_wentSo F eff row (Int32.ofNat k) (Int32.ofNat g) (Int32.ofNat (2 * q)) = some (if allB (fun j => decide (Int32.ofNat (seqG k E tN g (j + 1)) = Int32.ofNat (gN j))) q = true then 1 else 0) := by
  unfold fX2_wentSo
  have hle := seqG_le (q := q) hk (fun i hi => ⟨(hE i hi).1, (hE i hi).2.1⟩) (fun p hp => (ht p hp).1) hg
  refine loop_inv (fun fu (a : Int32 × Int32) => fX2_wentSo_l6 F eff row (Int32.ofNat k) (Int32.ofNat (2 * q)) fu a.1 a.2) q (fun j a => a.1 = Int32.ofNat (seqG k E tN g j) ∧ a.2 = Int32.ofNat (2 * j) ∧ allB (fun j => decide (Int32.ofNat (seqG k E tN g (j + 1)) = Int32.ofNat (gN j))) j = true) (fun o => o = some (if allB (fun j => decide (Int32.ofNat (seqG k E tN g (j + 1)) = Int32.ofNat (gN j))) q = true then 1 else 0)) ?_ ?_ F (Int32.ofNat g, 0) (by omega) ⟨rfl, rfl, rfl⟩
  · rintro fu j ⟨x5, x6⟩ hj ⟨e1, e2, hB⟩
    dsimp only at e1 e2
    subst e1; subst e2
    have f0 : ¬ (Int32.ofNat (2 * q) ≤ Int32.ofNat (2 * j + 1)) := of_eq_false (by rw [p_le (by omega) (by omega)]; exact p_nle (by omega))
    obtain ⟨t4, t5, t6⟩ := ht j hj
    obtain ⟨E1, E2, E3⟩ := hE _ t4
    dsimp only
    rw [fX2_wentSo_l6, fX2_wentSo_l6_b, p_s, if_neg f0, p_cl (show 2 * j < 2147483648 by omega), p_cl (show 2 * j + 1 < 2147483648 by omega), if_neg (gx (show 2 * j < 40 by omega) (by omega)), if_neg (gx (show 2 * j < 40 by omega) (by omega)), t5, p_cl (show tN j < 2147483648 by omega), if_neg (gx t4 (by omega)), E3, c_gb F hk t4 E1 E2 (hle j (by omega)), bd1_mk, if_neg (gx (show 2 * j + 1 < 40 by omega) (by omega)), t6, p_s2]
    by_cases h : Int32.ofNat (gb k (tN j) (E (tN j)) (seqG k E tN g j)) = Int32.ofNat (gN j)
    · rw [if_pos h]
      refine Or.inl ⟨(Int32.ofNat (seqG k E tN g (j + 1)), Int32.ofNat (2 * (j + 1))), ⟨rfl, rfl, ?_⟩, rfl⟩
      rw [allB, hB, Bool.true_and]
      exact decide_eq_true h
    · rw [if_neg h]
      refine Or.inr ?_
      rw [allB_f (p := fun j => decide (Int32.ofNat (seqG k E tN g (j + 1)) = Int32.ofNat (gN j))) (k := j) (decide_eq_false h) q hj]
      rfl
  · rintro fu ⟨x5, x6⟩ ⟨e1, e2, hB⟩
    dsimp only at e1 e2
    subst e1; subst e2
    have f0 : Int32.ofNat (2 * q) ≤ Int32.ofNat (2 * q + 1) := of_eq_true (by rw [p_le (by omega) (by omega)]; exact eq_true (by omega))
    dsimp only
    rw [fX2_wentSo_l6, fX2_wentSo_l6_b, p_s, if_pos f0, hB]
    rfl
theorem m_went (F : Nat) {k q g r : Nat} {E : Nat → Int} {tN gN : Nat → Nat} {mrs mr mdoes : Nat → Int32} (hr : r < 6) (hk : k ≤ 5) (hE : ∀ i, i < 4 → -4 ≤ E i ∧ E i ≤ 5 ∧ mdoes i = Int32.ofInt (E i)) (hq : q ≤ 8) (hz : mrs r = Int32.ofNat (2 * q)) (ht : ∀ p, p < q → tN p < 4 ∧ mr (40 * r + 2 * p) = Int32.ofNat (tN p) ∧ mr (40 * r + 2 * p + 1) = Int32.ofNat (gN p)) (hg : g ≤ 20) (hF : 1000000 ≤ F) : fX6_comesSo F mrs mr mdoes (Int32.ofNat k) (Int32.ofNat g) (Int32.ofNat r) = some (if allB (fun j => decide (Int32.ofNat (seqG k E tN g (j + 1)) = Int32.ofNat (gN j))) q = true then 1 else 0) := by
  unfold fX6_comesSo
  have hle := seqG_le (q := q) hk (fun i hi => ⟨(hE i hi).1, (hE i hi).2.1⟩) (fun p hp => (ht p hp).1) hg
  refine loop_up (fun fu (a : Int32 × Int32 × Int32) => fX6_comesSo_l9 F mrs mr mdoes (Int32.ofNat k) (Int32.ofNat r) fu a.1 a.2.1 a.2.2) q (fun j => (Int32.ofNat (seqG k E tN g j), (if allB (fun j => decide (Int32.ofNat (seqG k E tN g (j + 1)) = Int32.ofNat (gN j))) j = true then 1 else 0), Int32.ofNat (2 * j))) _ ?_ ?_ F (by omega)
  · intro fu j hj
    have f0 : ¬ (Int32.ofNat (2 * q) ≤ Int32.ofNat (2 * j)) := of_eq_false (by rw [p_le (by omega) (by omega)]; exact p_nle (by omega))
    obtain ⟨t4, t5, t6⟩ := ht j hj
    obtain ⟨E1, E2, E3⟩ := hE _ t4
    dsimp only
    rw [fX6_comesSo_l9, fX6_comesSo_l9_b, p_cl (show r < 2147483648 by omega), if_neg (gx hr (by omega)), hz, if_neg f0, lin40, p_s, p_cl (show 40 * r + 2 * j < 2147483648 by omega), p_cl (show 40 * r + 2 * j + 1 < 2147483648 by omega), if_neg (gx (show 40 * r + 2 * j < 240 by omega) (by omega)), t5, p_cl (show tN j < 2147483648 by omega), if_neg (gx t4 (by omega)), E3, m_gb F hk t4 E1 E2 (hle j (by omega)), bd1_mk, if_neg (gx (show 40 * r + 2 * j + 1 < 240 by omega) (by omega)), t6, p_s2]
    rw [show allB (fun j => decide (Int32.ofNat (seqG k E tN g (j + 1)) = Int32.ofNat (gN j))) (j + 1) = (allB (fun j => decide (Int32.ofNat (seqG k E tN g (j + 1)) = Int32.ofNat (gN j))) j && decide (Int32.ofNat (gb k (tN j) (E (tN j)) (seqG k E tN g j)) = Int32.ofNat (gN j))) from rfl]
    cases hB : allB (fun j => decide (Int32.ofNat (seqG k E tN g (j + 1)) = Int32.ofNat (gN j))) j with
    | false =>
      rw [if_neg (show ¬ (false = true) by decide), if_pos rfl, Bool.false_and, if_neg (show ¬ (false = true) by decide)]
      rfl
    | true =>
      rw [if_pos (show true = true from rfl), if_neg (by decide), Bool.true_and]
      by_cases h : Int32.ofNat (gb k (tN j) (E (tN j)) (seqG k E tN g j)) = Int32.ofNat (gN j)
      · rw [if_pos h, decide_eq_true h]; rfl
      · rw [if_neg h, decide_eq_false h]; rfl
  · intro fu
    dsimp only
    rw [fX6_comesSo_l9, fX6_comesSo_l9_b, p_cl (show r < 2147483648 by omega), if_neg (gx hr (by omega)), hz, if_pos (Int32.le_refl _)]
