theorem y_grief (F : Nat) {g : Nat} (hg : g < 21) : fX5_isGrief F (Int32.ofNat g) = some 1 := by
  rcases grief_d F (Int32.ofNat g) with ⟨h, -, -⟩ | ⟨-, h, -⟩
  · exact absurd ⟨g, hg, rfl⟩ h
  · exact h
theorem cx_evening (F : Nat) {n c : Nat} {E : Nat → Int} {K : Nat → Nat} {S : Nat → Nat → Bool} {peff pkin psig psee : Nat → Int32} (hG : CS n c E K S peff pkin psig psee) {s : Nat → Option Nat} (hs : HallOk n s) (hF : 1000000 ≤ F) {rs : Nat → Int32} {rm : Nat → Nat → Int32} (fc : Nat → Int32) (lf : Int32) {r q : Nat} {tN gN : Nat → Nat} (hr : r < 6) (hq : q ≤ 8) (g1 : rs r = Int32.ofNat (2 * q)) (htN : ∀ p, p < q → tN p < 4 ∧ gN p < 21 ∧ rm r (2 * p) = Int32.ofNat (tN p) ∧ rm r (2 * p + 1) = Int32.ofNat (gN p)) {i : Nat} (hi : i < n) (hso : (s i).isSome = true) : fX5_eveningRefusal F rs rm (Int32.ofNat n) (enc s) fc lf (Int32.ofNat i) (Int32.ofNat r) = some (0, fc, lf) := by
  have hpc := hG.pc
  have hn := hG.n6
  have hn0 := hG.nz
  have hE := hG.eff
  have hK := hG.kin
  have hS := hG.see
  have hpl : inP s ≤ 6 := pop_le _
  have hcl := p_cl (show r < 2147483648 by omega)
  have hix := gx hr (by omega)
  have hpar := par_tab (2 * q) (by omega)
  have w16 : Int32.ofNat (2 * q) ≤ (16 : Int32) := of_eq_true (by rw [show (16 : Int32) = Int32.ofNat 16 from rfl, p_le (by omega) (by omega)]; exact eq_true (by omega))
  have q5 : fX5_eveningFinding F rs rm (Int32.ofNat r) = some 0 := by
    unfold fX5_eveningFinding
    rw [hcl, if_neg hix, g1, if_neg (nat_ne1 (by omega)), if_pos (by rw [hpar]; omega), if_pos w16]
    refine loop_up (fun fu (a : Int32) => fX5_eveningFinding_l30 F rs rm (Int32.ofNat r) (Int32.ofNat (2 * q)) fu a) q (fun k => Int32.ofNat (2 * k)) _ ?_ ?_ F (by omega)
    · intro fu k hk
      have f0 : ¬ (Int32.ofNat (2 * q) ≤ Int32.ofNat (2 * k + 1)) := of_eq_false (by rw [p_le (by omega) (by omega)]; exact p_nle (by omega))
      obtain ⟨t1, t2, t3, t4⟩ := htN k hk
      rw [fX5_eveningFinding_l30, fX5_eveningFinding_l30_b, p_s, hcl, if_neg f0, if_neg hix, p_cl (show 2 * k < 2147483648 by omega), p_cl (show 2 * k + 1 < 2147483648 by omega), if_neg (gx (show 2 * k < 40 by omega) (by omega)), p_s2, t3, y_tune F t1, bd1_mk, if_neg (by decide), if_neg hix, if_neg (gx (show 2 * k + 1 < 40 by omega) (by omega)), t4, y_grief F t2, bd1_mk, if_neg (by decide)]
    · intro fu
      have f0 : Int32.ofNat (2 * q) ≤ Int32.ofNat (2 * q + 1) := of_eq_true (by rw [p_le (by omega) (by omega)]; exact eq_true (by omega))
      rw [fX5_eveningFinding_l30, fX5_eveningFinding_l30_b, p_s, if_pos f0]
  unfold fX5_eveningRefusal
  rw [y_guest F hn hi, bd1_mk, if_neg (by decide), y_row F hr, bd1_mk, if_neg (by decide), c_isIn F hs.hb (show i < 6 by omega), bd1_mk, hso, if_pos rfl, if_neg (by decide), q5, bd1_mk, if_pos rfl]
theorem cx_kinds (F : Nat) {n c : Nat} {E : Nat → Int} {K : Nat → Nat} {S : Nat → Nat → Bool} {peff pkin psig psee : Nat → Int32} (hG : CS n c E K S peff pkin psig psee) {s : Nat → Option Nat} (hs : HallOk n s) (hF : 1000000 ≤ F) {rs : Nat → Int32} {rm : Nat → Nat → Int32} (fc : Nat → Int32) (lf : Int32) {r q : Nat} {tN gN : Nat → Nat} (hr : r < 6) (hq : q ≤ 8) (g1 : rs r = Int32.ofNat (2 * q)) (htN : ∀ p, p < q → tN p < 4 ∧ gN p < 21 ∧ rm r (2 * p) = Int32.ofNat (tN p) ∧ rm r (2 * p + 1) = Int32.ofNat (gN p)) {i : Nat} (hi : i < n) (hso : (s i).isSome = true) : fX5_kinds F rs rm (Int32.ofNat n) peff (enc s) fc lf (Int32.ofNat i) (Int32.ofNat r) = some (oI (fun k => allB (fun j => decide (Int32.ofNat (seqG k E tN (gv s i) (j + 1)) = Int32.ofNat (gN j))) q) 6, fc, lf) := by
  have hpc := hG.pc
  have hn := hG.n6
  have hn0 := hG.nz
  have hE := hG.eff
  have hK := hG.kin
  have hS := hG.see
  have hpl : inP s ≤ 6 := pop_le _
  have b1 := cx_evening F hG hs hF fc lf hr hq g1 htN hi hso
  have h6 : i < 6 := by omega
  unfold fX5_kinds
  rw [b1, bd3_mk, if_pos rfl, c_griefOf F hs.hb h6, bd1_mk]
  refine loop_up (fun fu (a : Int32 × Int32) => fX5_kinds_l32 F rs rm (Int32.ofNat n) peff (enc s) (Int32.ofNat r) (Int32.ofNat (gv s i)) fc lf fu a.1 a.2) 6 (fun k => (oI (fun k => allB (fun j => decide (Int32.ofNat (seqG k E tN (gv s i) (j + 1)) = Int32.ofNat (gN j))) q) k, Int32.ofNat k)) _ ?_ ?_ F (by omega)
  · intro fu k hk
    have f0 : ¬ ((6 : Int32) ≤ Int32.ofNat k) := of_eq_false (by
      rw [show (6 : Int32) = Int32.ofNat 6 from rfl, p_le (by omega) (by omega)]
      exact p_nle hk)
    dsimp only
    rw [fX5_kinds_l32, fX5_kinds_l32_b, if_neg f0, p_cl (show r < 2147483648 by omega), if_neg (gx hr (by omega)), if_neg (gx hr (by omega)), g1, c_went F (k := k) (by omega) (fun i hi => ⟨(hE i hi).1, (hE i hi).2.1, (hE i hi).2.2⟩) hq (fun p hp => ⟨(htN p hp).1, (htN p hp).2.2.1, (htN p hp).2.2.2⟩) (hs.gv20 i) hF, bd1_mk, p_s]
    cases hB : allB (fun j => decide (Int32.ofNat (seqG k E tN (gv s i) (j + 1)) = Int32.ofNat (gN j))) q with
    | false => rw [if_neg (show ¬ (false = true) by decide), if_pos rfl, oI_f (p := fun k => allB (fun j => decide (Int32.ofNat (seqG k E tN (gv s i) (j + 1)) = Int32.ofNat (gN j))) q) (k := k) hB]
    | true => rw [if_pos (show true = true from rfl), if_neg (by decide), oI_t (p := fun k => allB (fun j => decide (Int32.ofNat (seqG k E tN (gv s i) (j + 1)) = Int32.ofNat (gN j))) q) (k := k) hB]
  · intro fu
    dsimp only
    rw [fX5_kinds_l32, fX5_kinds_l32_b, if_pos (by decide)]
theorem cx_came (F : Nat) {n c : Nat} {E : Nat → Int} {K : Nat → Nat} {S : Nat → Nat → Bool} {peff pkin psig psee : Nat → Int32} (hG : CS n c E K S peff pkin psig psee) {s : Nat → Option Nat} (hs : HallOk n s) (hF : 1000000 ≤ F) {rs : Nat → Int32} {rm : Nat → Nat → Int32} (fc : Nat → Int32) (lf : Int32) {r q : Nat} {tN gN : Nat → Nat} (hr : r < 6) (hq : q ≤ 8) (g1 : rs r = Int32.ofNat (2 * q)) (htN : ∀ p, p < q → tN p < 4 ∧ gN p < 21 ∧ rm r (2 * p) = Int32.ofNat (tN p) ∧ rm r (2 * p + 1) = Int32.ofNat (gN p)) {i : Nat} (hi : i < n) (hso : (s i).isSome = true) : fX5_came F rs rm (Int32.ofNat n) peff pkin (enc s) fc lf (Int32.ofNat i) (Int32.ofNat r) = some (oI (fun k => allB (fun j => decide (Int32.ofNat (seqG (K i) E tN k (j + 1)) = Int32.ofNat (gN j))) q) 21, fc, lf) := by
  have hpc := hG.pc
  have hn := hG.n6
  have hn0 := hG.nz
  have hE := hG.eff
  have hK := hG.kin
  have hS := hG.see
  have hpl : inP s ≤ 6 := pop_le _
  have b1 := cx_evening F hG hs hF fc lf hr hq g1 htN hi hso
  have h6 : i < 6 := by omega
  unfold fX5_came
  rw [b1, bd3_mk, if_pos rfl]
  refine loop_up (fun fu (a : Int32 × Int32) => fX5_came_l19 F rs rm (Int32.ofNat n) peff pkin (enc s) (Int32.ofNat i) (Int32.ofNat r) fc lf fu a.1 a.2) 21 (fun k => (oI (fun k => allB (fun j => decide (Int32.ofNat (seqG (K i) E tN k (j + 1)) = Int32.ofNat (gN j))) q) k, Int32.ofNat k)) _ ?_ ?_ F (by omega)
  · intro fu k hk
    have f0 : ¬ ((20 : Int32) < Int32.ofNat k) := of_eq_false (by
      rw [show (20 : Int32) = Int32.ofNat 20 from rfl, p_lt (by omega) (by omega)]
      exact eq_false (by omega))
    dsimp only
    rw [fX5_came_l19, fX5_came_l19_b, if_neg f0, p_cl (show i < 2147483648 by omega), p_cl (show r < 2147483648 by omega), if_neg (gx h6 (by omega)), if_neg (gx hr (by omega)), if_neg (gx hr (by omega)), g1, (hK i hi).2, c_went F (g := k) (hK i hi).1 (fun i hi => ⟨(hE i hi).1, (hE i hi).2.1, (hE i hi).2.2⟩) hq (fun p hp => ⟨(htN p hp).1, (htN p hp).2.2.1, (htN p hp).2.2.2⟩) (by omega) hF, bd1_mk, p_s]
    cases hB : allB (fun j => decide (Int32.ofNat (seqG (K i) E tN k (j + 1)) = Int32.ofNat (gN j))) q with
    | false => rw [if_neg (show ¬ (false = true) by decide), if_pos rfl, oI_f (p := fun k => allB (fun j => decide (Int32.ofNat (seqG (K i) E tN k (j + 1)) = Int32.ofNat (gN j))) q) (k := k) hB]
    | true => rw [if_pos (show true = true from rfl), if_neg (by decide), oI_t (p := fun k => allB (fun j => decide (Int32.ofNat (seqG (K i) E tN k (j + 1)) = Int32.ofNat (gN j))) q) (k := k) hB]
  · intro fu
    dsimp only
    rw [fX5_came_l19, fX5_came_l19_b, if_pos (by decide)]
theorem cx_did (F : Nat) {n c : Nat} {E : Nat → Int} {K : Nat → Nat} {S : Nat → Nat → Bool} {peff pkin psig psee : Nat → Int32} (hG : CS n c E K S peff pkin psig psee) {s : Nat → Option Nat} (hs : HallOk n s) (hF : 1000000 ≤ F) {i t g g' : Nat} (hi : i < n) (ht : t < 4) (hg : g < 21) (hg' : g' < 21) : fX5_did F (Int32.ofNat n) pkin (Int32.ofNat i) (Int32.ofNat t) (Int32.ofNat g) (Int32.ofNat g') = some (oI (fun k => decide (Int32.ofNat (gb (K i) t ((k : Int) - 4) g) = Int32.ofNat g')) 10) := by
  have hpc := hG.pc
  have hn := hG.n6
  have hn0 := hG.nz
  have hE := hG.eff
  have hK := hG.kin
  have hS := hG.see
  have hpl : inP s ≤ 6 := pop_le _
  have a1 := y_guest F hn hi
  have b1 := y_tune F ht
  have c1 := y_grief F hg
  have d1 := y_grief F hg'
  have h6 : i < 6 := by omega
  unfold fX5_did
  rw [a1, bd1_mk, if_neg (by decide), b1, bd1_mk, if_neg (by decide), c1, bd1_mk, if_neg (by decide), d1, bd1_mk, if_neg (by decide)]
  refine loop_up (fun fu (a : Int32 × Int32) => fX5_did_l39 F (Int32.ofNat n) pkin (Int32.ofNat i) (Int32.ofNat t) (Int32.ofNat g) (Int32.ofNat g') fu a.1 a.2) 10 (fun k => (oI (fun k => decide (Int32.ofNat (gb (K i) t ((k : Int) - 4) g) = Int32.ofNat g')) k, Int32.ofInt ((k : Int) - 4))) _ ?_ ?_ F (by omega)
  · intro fu k hk
    obtain ⟨w1, w2, w3, w4⟩ := did_c1 k hk
    dsimp only
    rw [fX5_did_l39, fX5_did_l39_b, if_neg w4, p_cl (show i < 2147483648 by omega), if_neg (gx h6 (by omega)), (hK i hi).2, c_gb F (hK i hi).1 ht (by omega) (by omega) (by omega), bd1_mk, w1, w2]
    by_cases h : Int32.ofNat (gb (K i) t ((k : Int) - 4) g) = Int32.ofNat g'
    · rw [if_pos h, oI_t (p := fun k => decide (Int32.ofNat (gb (K i) t ((k : Int) - 4) g) = Int32.ofNat g')) (k := k) (decide_eq_true h)]
    · rw [if_neg h, oI_f (p := fun k => decide (Int32.ofNat (gb (K i) t ((k : Int) - 4) g) = Int32.ofNat g')) (k := k) (decide_eq_false h)]
  · intro fu
    dsimp only
    rw [fX5_did_l39, fX5_did_l39_b, if_pos (by decide)]
theorem cx_wept (F : Nat) {n c : Nat} {E : Nat → Int} {K : Nat → Nat} {S : Nat → Nat → Bool} {peff pkin psig psee : Nat → Int32} (hG : CS n c E K S peff pkin psig psee) {s : Nat → Option Nat} (hs : HallOk n s) (hF : 1000000 ≤ F) {k : Nat} (hk : k < 2 ^ n) : fX5_wept F (Int32.ofNat n) psee (enc s) (Int32.ofNat k) = some (oI (fun i => (s i).isSome && any6 (fun j => ((s j).isSome && k.testBit j) && S j i) && !any6 (fun j => ((s j).isSome && !k.testBit j) && S j i)) n) := by
  have hpc := hG.pc
  have hn := hG.n6
  have hn0 := hG.nz
  have hE := hG.eff
  have hK := hG.kin
  have hS := hG.see
  have hpl : inP s ≤ 6 := pop_le _
  obtain ⟨w1, w2, w3, w4⟩ := all_st n hn
  have q1 : ¬ (Int32.ofNat k < 0) := of_eq_false (p_neg (by omega))
  have q2 : Int32.ofNat k < Int32.ofNat (2 ^ n) := of_eq_true (by rw [p_lt (by omega) (by omega)]; exact eq_true hk)
  have q3 := st_bits k (by omega)
  unfold fX5_wept
  rw [w1, if_neg q1, if_pos q2, q3]
  refine loop_up (fun fu (a : Int32 × Int32) => fX5_wept_l23 F (Int32.ofNat n) psee (enc s) (st (fun i => k.testBit i)) fu a.1 a.2) n (fun e => (oI (fun i => (s i).isSome && any6 (fun j => ((s j).isSome && k.testBit j) && S j i) && !any6 (fun j => ((s j).isSome && !k.testBit j) && S j i)) e, Int32.ofNat e)) _ ?_ ?_ F (by omega)
  · intro fu e he
    have f0 : ¬ (Int32.ofNat n ≤ Int32.ofNat e) := of_eq_false (by rw [p_le (by omega) (by omega)]; exact p_nle he)
    have h6 : e < 6 := by omega
    dsimp only
    rw [fX5_wept_l23, fX5_wept_l23_b, if_neg f0]
    unfold fX2_watchers
    rw [p_cl (show e < 2147483648 by omega), if_neg (gx h6 (by omega)), c_insiders F hs.hb, bd1_mk, bd1_mk, c_isIn F hs.hb h6, bd1_mk, hS e he, st_and, st_andn, p_s]
    simp only [st_zero]
    have key : any6 (fun j => S j e && (s j).isSome) = (any6 (fun j => ((s j).isSome && k.testBit j) && S j e) || any6 (fun j => ((s j).isSome && !k.testBit j) && S j e)) := by
      apply Bool.eq_iff_iff.mpr
      rw [Bool.or_eq_true, any6_iff, any6_iff, any6_iff]
      constructor
      · rintro ⟨j, hj, q⟩
        simp only [Bool.and_eq_true] at q
        cases hb : k.testBit j
        · exact Or.inr ⟨j, hj, by simp [q.1, q.2, hb]⟩
        · exact Or.inl ⟨j, hj, by simp [q.1, q.2, hb]⟩
      · rintro (⟨j, hj, q⟩ | ⟨j, hj, q⟩)
        · simp only [Bool.and_eq_true] at q
          exact ⟨j, hj, by simp [q.1.1, q.2]⟩
        · simp only [Bool.and_eq_true] at q
          exact ⟨j, hj, by simp [q.1.1, q.2]⟩
    have key2 : any6 (fun j => S j e && (s j).isSome && !k.testBit j) = any6 (fun j => ((s j).isSome && !k.testBit j) && S j e) := by
      congr 1
      funext j
      cases S j e <;> cases (s j).isSome <;> cases k.testBit j <;> rfl
    rw [key, key2]
    cases h1 : (s e).isSome with
    | false => rw [oI_f (p := fun i => (s i).isSome && any6 (fun j => ((s j).isSome && k.testBit j) && S j i) && !any6 (fun j => ((s j).isSome && !k.testBit j) && S j i)) (k := e) (by rw [h1]; rfl)]; simp
    | true =>
      cases h3 : any6 (fun j => ((s j).isSome && !k.testBit j) && S j e) with
      | true => rw [oI_f (p := fun i => (s i).isSome && any6 (fun j => ((s j).isSome && k.testBit j) && S j i) && !any6 (fun j => ((s j).isSome && !k.testBit j) && S j i)) (k := e) (by rw [h3]; simp)]; simp
      | false =>
        cases h2 : any6 (fun j => ((s j).isSome && k.testBit j) && S j e) with
        | true => rw [oI_t (p := fun i => (s i).isSome && any6 (fun j => ((s j).isSome && k.testBit j) && S j i) && !any6 (fun j => ((s j).isSome && !k.testBit j) && S j i)) (k := e) (by rw [h1, h2, h3]; rfl)]; simp
        | false => rw [oI_f (p := fun i => (s i).isSome && any6 (fun j => ((s j).isSome && k.testBit j) && S j i) && !any6 (fun j => ((s j).isSome && !k.testBit j) && S j i)) (k := e) (by rw [h1, h2]; rfl)]; simp
  · intro fu
    dsimp only
    rw [fX5_wept_l23, fX5_wept_l23_b, if_pos (Int32.le_refl _)]
theorem gets_tab : ∀ p, p < 7 → ∀ P, P < 1000 → 0 < p → (Int32.ofNat P - Int32.ofNat P / Int32.ofNat p * Int32.ofNat p) = Int32.ofNat (P % p) ∧ Int32.ofNat P / Int32.ofNat p = Int32.ofNat (P / p) := by decide +kernel
theorem cx_gets (F : Nat) {n c : Nat} {E : Nat → Int} {K : Nat → Nat} {S : Nat → Nat → Bool} {peff pkin psig psee : Nat → Int32} (hG : CS n c E K S peff pkin psig psee) {s : Nat → Option Nat} (hs : HallOk n s) (hF : 1000000 ≤ F) {i P : Nat} (hi : i < n) (h1 : 1 ≤ P) (h9 : P ≤ 999) : fX5_gets F (Int32.ofNat n) (enc s) (Int32.ofNat i) (Int32.ofNat P) = some (Int32.ofNat (if (s i).isSome = true then P / inP s + (if P % inP s ≤ pop (fun j => (s j).isSome && decide (j < i)) then 0 else 1) else 0)) := by
  have hpc := hG.pc
  have hn := hG.n6
  have hn0 := hG.nz
  have hE := hG.eff
  have hK := hG.kin
  have hS := hG.see
  have hpl : inP s ≤ 6 := pop_le _
  have h6 : i < 6 := by omega
  have w1 : ¬ (Int32.ofNat P < (1 : Int32)) := of_eq_false (by rw [show (1 : Int32) = Int32.ofNat 1 from rfl, p_lt (by omega) (by omega)]; exact eq_false (by omega))
  have w9 : Int32.ofNat P ≤ (999 : Int32) := of_eq_true (by rw [show (999 : Int32) = Int32.ofNat 999 from rfl, p_le (by omega) (by omega)]; exact eq_true h9)
  unfold fX5_gets
  rw [y_guest F hn hi, bd1_mk, if_neg (by decide), if_neg w1, if_pos w9, c_many_in F hs.hb, bd1_mk, c_isIn F hs.hb h6, bd1_mk]
  cases hso : (s i).isSome with
  | false => exact if_pos (by decide)
  | true =>
    have hpp : 0 < inP s := pop_pos h6 hso
    have hpos : (0 : Int32) < Int32.ofNat (inP s) := of_eq_true (by rw [show (0 : Int32) = Int32.ofNat 0 from rfl, p_lt (by omega) (by omega)]; exact eq_true hpp)
    have hne : ¬ (Int32.ofNat (inP s) = 0) := by rw [p_e0 (by omega)]; omega
    have hm := Nat.mod_lt P hpp
    have hq := pop_le (fun j => (s j).isSome && decide (j < i))
    obtain ⟨e1, e2⟩ := gets_tab (inP s) (by omega) P (by omega) hpp
    rw [show pop (fun i => (s i).isSome) = inP s from rfl, if_pos rfl, if_neg (by decide), if_pos hpos, c_insiders F hs.hb, bd1_mk, below_st i h6, st_and, c_pop, bd1_mk, if_neg hne, if_neg hne, e1, e2, if_pos rfl]
    have hle : (Int32.ofNat (P % inP s) ≤ Int32.ofNat (pop (fun j => (s j).isSome && decide (j < i)))) = (P % inP s ≤ pop (fun j => (s j).isSome && decide (j < i))) := p_le (by omega) (by omega)
    by_cases h : P % inP s ≤ pop (fun j => (s j).isSome && decide (j < i))
    · rw [if_pos (by rw [hle]; exact h), if_pos h, Int32.add_zero, Nat.add_zero]
    · rw [if_neg (by rw [hle]; exact h), if_neg h, p_s]
theorem cx_stops (F : Nat) {n c : Nat} {E : Nat → Int} {K : Nat → Nat} {S : Nat → Nat → Bool} {peff pkin psig psee : Nat → Int32} (hG : CS n c E K S peff pkin psig psee) {s : Nat → Option Nat} (hs : HallOk n s) (hF : 1000000 ≤ F) : fX5_stops F (Int32.ofNat n) (Int32.ofNat c) (enc s) = some (bW (best n c s (2 ^ n - 1))) := by
  have hpc := hG.pc
  have hn := hG.n6
  have hn0 := hG.nz
  have hE := hG.eff
  have hK := hG.kin
  have hS := hG.see
  have hpl : inP s ≤ 6 := pop_le _
  obtain ⟨w1, w2, w3, w4⟩ := all_st n hn
  unfold fX5_stops
  refine loop_up (fun fu (a : Int32 × Int32 × Int32) => fX5_stops_l8 F (Int32.ofNat n) (Int32.ofNat c) (enc s) fu a.1 a.2.1 a.2.2) (2 ^ n - 1) (fun j => (bW (best n c s j), Int32.ofNat (bZ (best n c s j)), Int32.ofNat (j + 1))) _ ?_ ?_ F (by omega)
  · intro fu j hj
    have f0 : ¬ (Int32.ofNat (2 ^ n) ≤ Int32.ofNat (j + 1)) := of_eq_false (by rw [p_le (by omega) (by omega)]; exact p_nle (by omega))
    have hpl := pop_le (fun i => (j + 1).testBit i)
    have hzl : bZ (best n c s j) ≤ 7 := by
      unfold bZ
      cases best n c s j with
      | none => exact Nat.le_refl _
      | some b => exact Nat.le_trans (pop_le _) (by decide)
    have hbc : fJ6_bitCount_0f7a4 F (Int32.ofNat (j + 1)) = some (Int32.ofNat (pop (fun i => (j + 1).testBit i))) := by
      rw [st_bits (j + 1) (by omega), c_pop]
    dsimp only
    rw [fX5_stops_l8, fX5_stops_l8_b, w1, if_neg f0, hbc, bd1_mk, c_insiders F hs.hb, bd1_mk]
    unfold fX5_stops_n49
    rw [p_s, c_ofSet F hn hs c (show j + 1 < 64 by omega) hF, bd1_mk]
    have g2 : (Int32.ofNat (pop (fun i => (j + 1).testBit i)) < (2 : Int32)) = (pop (fun i => (j + 1).testBit i) < 2) := by rw [show (2 : Int32) = Int32.ofNat 2 from rfl, p_lt (by omega) (by omega)]
    have g3 : (Int32.ofNat (bZ (best n c s j)) ≤ Int32.ofNat (pop (fun i => (j + 1).testBit i))) = (bZ (best n c s j) ≤ pop (fun i => (j + 1).testBit i)) := p_le (by omega) (by omega)
    have gm : (match best n c s j with | none => true | some b => decide (pop (fun i => (j + 1).testBit i) < pop (fun i => b.testBit i))) = decide (pop (fun i => (j + 1).testBit i) < bZ (best n c s j)) := by
      unfold bZ
      cases best n c s j with
      | none => exact (decide_eq_true (show pop (fun i => (j + 1).testBit i) < 7 by omega)).symm
      | some b => rfl
    have hstep : best n c s (j + 1) = if (would n c s (j + 1) && decide (pop (fun i => (j + 1).testBit i) < bZ (best n c s j))) = true then some (j + 1) else best n c s j := by rw [best]; exact congrArg (fun z : Bool => if (would n c s (j + 1) && z) = true then some (j + 1) else best n c s j) gm
    rw [st_bits (j + 1) (by omega)]
    by_cases c1 : st (fun i => (j + 1).testBit i) &&& (st (fun i => (s i).isSome) ^^^ (-1 : Int32)) = 0
    · rw [if_pos c1, if_neg (by decide)]
      by_cases c2 : pop (fun i => (j + 1).testBit i) < 2
      · rw [if_pos (by rw [g2]; exact c2), hstep, if_neg (by unfold would; rw [decide_eq_false (show ¬ (2 ≤ pop (fun i => (j + 1).testBit i)) by omega)]; simp)]
      · rw [if_neg (by rw [g2]; exact c2)]
        by_cases c3 : bZ (best n c s j) ≤ pop (fun i => (j + 1).testBit i)
        · rw [if_pos (by rw [g3]; exact c3), hstep, if_neg (by rw [decide_eq_false (show ¬ (pop (fun i => (j + 1).testBit i) < bZ (best n c s j)) by omega)]; simp)]
        · rw [if_neg (by rw [g3]; exact c3)]
          by_cases c4 : Int32.ofNat c * (Int32.ofNat (pop (fun i => (j + 1).testBit i)) - 1) ≤ Int32.ofNat (wSet n c s (j + 1))
          · rw [if_pos c4, hstep, if_neg (by unfold would; rw [decide_eq_true c4]; simp)]
          · rw [if_neg c4, hstep, if_pos (by unfold would; rw [decide_eq_true c1, decide_eq_false c4, decide_eq_true (show 2 ≤ pop (fun i => (j + 1).testBit i) by omega), decide_eq_true (show pop (fun i => (j + 1).testBit i) < bZ (best n c s j) by omega)]; rfl), ← st_bits (j + 1) (by omega)]
            rfl
    · rw [if_neg c1, if_pos rfl, hstep, if_neg (by unfold would; rw [decide_eq_false c1]; simp)]
  · intro fu
    dsimp only
    rw [fX5_stops_l8, fX5_stops_l8_b, w1, show 2 ^ n - 1 + 1 = 2 ^ n by omega, if_pos (Int32.le_refl _)]
theorem cx_lots (F : Nat) {n c : Nat} {E : Nat → Int} {K : Nat → Nat} {S : Nat → Nat → Bool} {peff pkin psig psee : Nat → Int32} (hG : CS n c E K S peff pkin psig psee) {s : Nat → Option Nat} (hs : HallOk n s) (hF : 1000000 ≤ F) {d nn seed : Nat} (cahe : Nat → Int64) (hn1 : 1 ≤ nn) (hn2 : nn ≤ 20) (hs1 : 1 ≤ seed) (hs2 : seed ≤ 2147483646) (hd : d ≤ 40) (h40 : d + nn ≤ 40) : ∃ ahe', fX5_lots F (Int32.ofNat n) (Int32.ofNat c) peff pkin psee (Int32.ofNat d) (enc s) cahe (Int32.ofNat nn) (Int32.ofNat seed) = some (Int32.ofNat (sumN (fallS c E K S (fun k => lotN seed (k + 1) / 16 % 4) s) nn), Int32.ofNat (d + nn), enc (runS c E K S (fun k => lotN seed (k + 1) / 16 % 4) s nn), ahe') ∧ (∀ j, j < d → ahe' j = cahe j) ∧ ∀ j, j < nn → ahe' (d + j) = enc (runS c E K S (fun k => lotN seed (k + 1) / 16 % 4) s j) := by
  have hpc := hG.pc
  have hn := hG.n6
  have hn0 := hG.nz
  have hE := hG.eff
  have hK := hG.kin
  have hS := hG.see
  have hpl : inP s ≤ 6 := pop_le _
  have hnn : nn ≤ 20 := hn2
  have h1 : ¬ (Int32.ofNat nn < (1 : Int32)) := of_eq_false (by rw [show (1 : Int32) = Int32.ofNat 1 from rfl, p_lt (by omega) (by omega)]; exact eq_false (by omega))
  have h2 : ¬ ((20 : Int32) < Int32.ofNat nn) := of_eq_false (by rw [show (20 : Int32) = Int32.ofNat 20 from rfl, p_lt (by omega) (by omega)]; exact eq_false (by omega))
  have h3 : ¬ (Int32.ofNat seed < (1 : Int32)) := of_eq_false (by rw [show (1 : Int32) = Int32.ofNat 1 from rfl, p_lt (by omega) (by omega)]; exact eq_false (by omega))
  have v64 : lg_cmp ((Int32.ofNat seed).toInt64) (2147483647 : Int64) < 0 := by
    rw [lgc_lt, Int64.lt_iff_toInt_lt, Int32.toInt_toInt64, show (2147483647 : Int64).toInt = 2147483647 from by decide, p_ti (by omega)]
    omega
  have hseed : seed ≤ 2147483646 := hs2
  have hadd : Int32.ofNat d + Int32.ofNat nn = Int32.ofNat (d + nn) := p_add d nn
  have hcmp : (Int32.ofNat (d + nn) ≤ (40 : Int32)) = (d + nn ≤ 40) := by rw [show (40 : Int32) = Int32.ofNat 40 from rfl, p_le (by omega) (by omega)]
  have hl : ∀ k, lotN seed k < 2147483647 := lotN_lt (by omega)
  have htN : ∀ k, lotN seed (k + 1) / 16 % 4 < 4 := fun k => Nat.mod_lt _ (by decide)
  have hrun : ∀ k, HallOk n (runS c E K S (fun k => lotN seed (k + 1) / 16 % 4) s k) := fun k => runS_ok hs hG.E45 hG.K5 k (fun p hp => htN p)
  have hpop := run_pop (c := c) (E := E) (K := K) (S := S) (tN := fun k => lotN seed (k + 1) / 16 % 4) (s := s)
  have hp6 := pop_le (fun i => (s i).isSome)
  unfold fX5_lots
  rw [if_neg h1, if_neg h2, if_neg h3, if_pos v64, if_neg hn0, hadd, if_pos (by rw [hcmp]; exact h40), c_many_in F hs.hb, bd1_mk, q_ofNat seed (by omega)]
  refine loop_inv (fun fu (a : Int64 × Int32 × Int32 × Int64 × (Nat → Int64)) => fX5_lots_l75 F (Int32.ofNat n) (Int32.ofNat c) peff pkin psee (Int32.ofNat nn) (Int32.ofNat (pop (fun i => (s i).isSome))) fu a.1 a.2.1 a.2.2.1 a.2.2.2.1 a.2.2.2.2) nn (fun k a => a.1 = Int64.ofNat (lotN seed k) ∧ a.2.1 = Int32.ofNat k ∧ a.2.2.1 = Int32.ofNat (d + k) ∧ a.2.2.2.1 = enc (runS c E K S (fun k => lotN seed (k + 1) / 16 % 4) s k) ∧ (∀ j, j < d → a.2.2.2.2 j = cahe j) ∧ ∀ j, j < k → a.2.2.2.2 (d + j) = enc (runS c E K S (fun k => lotN seed (k + 1) / 16 % 4) s j)) (fun o => ∃ ahe', o = some (Int32.ofNat (sumN (fallS c E K S (fun k => lotN seed (k + 1) / 16 % 4) s) nn), Int32.ofNat (d + nn), enc (runS c E K S (fun k => lotN seed (k + 1) / 16 % 4) s nn), ahe') ∧ (∀ j, j < d → ahe' j = cahe j) ∧ ∀ j, j < nn → ahe' (d + j) = enc (runS c E K S (fun k => lotN seed (k + 1) / 16 % 4) s j)) ?_ ?_ F (Int64.ofNat seed, 0, Int32.ofNat d, enc s, cahe) (by omega) ⟨rfl, rfl, rfl, rfl, fun j _ => rfl, fun j hj => absurd hj (Nat.not_lt_zero j)⟩
  · rintro fu k ⟨x4, x6, de, no, ah⟩ hk ⟨e1, e2, e3, e4, e5, e6⟩
    dsimp only at e1 e2 e3 e4 e5 e6
    subst e1; subst e2; subst e3; subst e4
    have f0 : ¬ (Int32.ofNat nn ≤ Int32.ofNat k) := of_eq_false (by rw [p_le (by omega) (by omega)]; exact p_nle hk)
    have hlk := hl k
    have hlk1 := hl (k + 1)
    have el : lotN seed k * 48271 % 2147483647 = lotN seed (k + 1) := rfl
    dsimp only
    rw [fX5_lots_l75, fX5_lots_l75_b, if_neg f0, q_lot (by omega), el, q_tune (by omega), c_afterTune F hpc (hrun k) (by omega) (htN k), bd1_mk, c_goOn F _ _ _ (show d + k < 40 by omega), bd3_mk, p_s]
    refine Or.inl ⟨(Int64.ofNat (lotN seed (k + 1)), Int32.ofNat (k + 1), Int32.ofNat (d + k + 1), enc (runS c E K S (fun k => lotN seed (k + 1) / 16 % 4) s (k + 1)), vp_updL ah (d + k) (enc (runS c E K S (fun k => lotN seed (k + 1) / 16 % 4) s k))), ⟨rfl, rfl, rfl, rfl, fun j hj => ?_, fun j hj => ?_⟩, rfl⟩
    · dsimp only
      rw [updL_at, if_neg (by omega)]
      exact e5 j hj
    · dsimp only
      rw [updL_at]
      by_cases e : j = k
      · subst e; rw [if_pos rfl]
      · rw [if_neg (by omega)]
        exact e6 j (by omega)
  · rintro fu ⟨x4, x6, de, no, ah⟩ ⟨e1, e2, e3, e4, e5, e6⟩
    dsimp only at e1 e2 e3 e4 e5 e6
    subst e1; subst e2; subst e3; subst e4
    refine ⟨ah, ?_, e5, e6⟩
    have hpn := hpop nn
    dsimp only
    rw [fX5_lots_l75, fX5_lots_l75_b, if_pos (Int32.le_refl _), c_many_in F (hrun nn).hb, bd1_mk, p_sub (by omega), show pop (fun i => (s i).isSome) - pop (fun i => (runS c E K S (fun k => lotN seed (k + 1) / 16 % 4) s nn i).isSome) = sumN (fallS c E K S (fun k => lotN seed (k + 1) / 16 % 4) s) nn by omega]
