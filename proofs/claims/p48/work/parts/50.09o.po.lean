/-- a loop with a state that is known by what holds of it -/
theorem loop_inv {α β : Type} (L : Nat → α → Option β) (n : Nat) (I : Nat → α → Prop) (P : Option β → Prop) (h1 : ∀ (fu k : Nat) (a : α), k < n → I k a → (∃ a', I (k + 1) a' ∧ L (fu + 1) a = L fu a') ∨ P (L (fu + 1) a)) (h2 : ∀ (fu : Nat) (a : α), I n a → P (L (fu + 1) a)) : ∀ (F : Nat) (a : α), n < F → I 0 a → P (L F a) := by
  have key : ∀ j fu : Nat, ∀ a : α, j ≤ n → I (n - j) a → P (L (fu + 1 + j) a) := by
    intro j
    induction j with
    | zero => intro fu a _ hI; exact h2 fu a hI
    | succ j ih =>
      intro fu a hj hI
      rcases h1 (fu + 1 + j) (n - (j + 1)) a (by omega) hI with ⟨a', hI', e⟩ | hp
      · rw [show fu + 1 + (j + 1) = fu + 1 + j + 1 by omega, e]
        rw [show n - (j + 1) + 1 = n - j by omega] at hI'
        exact ih fu a' (by omega) hI'
      · exact hp
  intro F a hF hI
  have := key n (F - n - 1) a (Nat.le_refl n) (by rw [Nat.sub_self]; exact hI)
  rw [show F - n - 1 + 1 + n = F by omega] at this
  exact this
theorem m_lay (F : Nat) {mnow maside : Nat → Int32} {s : Nat → Option Nat} {n : Nat} (hm : RM mnow 0 s n) (hF : 1000000 ≤ F) : ∃ a', fX6_layAside F mnow maside = some a' ∧ RM a' 0 s n := by
  refine ⟨fun q => if 0 ≤ q ∧ q < 0 + 7 then mnow (0 + (q - 0)) else maside q, ?_, rm_congr hm fun i hi => ?_⟩
  · unfold fX6_layAside
    rw [show (0 : Int32) = Int32.ofNat 0 from rfl, show (7 : Int32) = Int32.ofNat 7 from rfl, m_copies F 7 7 _ _ (a := 0) (b := 0) (k := 7) (by omega) (by omega) (by omega) (by omega) hF, bd1_mk]
  · show (if 0 ≤ 0 + i ∧ 0 + i < 0 + 7 then mnow (0 + (0 + i - 0)) else maside (0 + i)) = mnow (0 + i)
    rw [if_pos (by omega), show 0 + i - 0 = i by omega]
theorem any_f {p : Nat → Bool} : (any6 p = false) = (∀ i, i < 6 → p i = false) := by
  apply propext
  constructor
  · intro h i hi
    cases e : p i
    · rfl
    · rw [any6_iff.mpr ⟨i, hi, e⟩] at h
      cases h
  · intro h
    cases e : any6 p
    · rfl
    · obtain ⟨i, hi, q⟩ := any6_iff.mp e
      rw [h i hi] at q
      cases q
theorem safe_iff {c : Nat} {E : Nat → Int} {K : Nat → Nat} {S : Nat → Nat → Bool} {t : Nat} {s : Nat → Option Nat} : (st (fun i => (tuneS c E K S t s i).isSome) = st (fun i => (s i).isSome)) = (st (goes c K S (mapT E K t s)) = 0) := by
  rw [st_inj, st_zero, any_f]
  apply propext
  have key : ∀ i, (tuneS c E K S t s i).isSome = ((s i).isSome && !goes c K S (mapT E K t s) i) := fun i => by
    unfold tuneS
    rw [looksS_some, mapT_some]
  constructor
  · intro h i hi
    have := h i hi
    rw [key] at this
    cases e : goes c K S (mapT E K t s) i
    · rfl
    · have q := goes_some e
      rw [mapT_some] at q
      rw [e, q] at this
      cases this
  · intro h i hi
    rw [key, h i hi]
    cases (s i).isSome <;> rfl
def oI (p : Nat → Bool) : Nat → Int32
  | 0 => 0
  | k + 1 => if p k = true then oI p k ||| ((1 : Int32) <<< (Int32.ofNat k &&& 31)) else oI p k
theorem oI_t {p : Nat → Bool} {k : Nat} (h : p k = true) : oI p (k + 1) = oI p k ||| ((1 : Int32) <<< (Int32.ofNat k &&& 31)) := if_pos h
theorem oI_f {p : Nat → Bool} {k : Nat} (h : p k = false) : oI p (k + 1) = oI p k := if_neg (by rw [h]; decide)
def Tu (x : Int32) : Prop := ∃ t, t < 4 ∧ x = Int32.ofNat t
theorem tune_d (F : Nat) (x : Int32) : (¬ Tu x ∧ fX5_isTune F x = some 0 ∧ fX6_isTune F x = some 0) ∨ (Tu x ∧ fX5_isTune F x = some 1 ∧ fX6_isTune F x = some 1) := by
  rcases tune_c F x with ⟨a1, a2⟩ | ⟨t, ht, rfl, a1, a2⟩
  · refine Or.inl ⟨fun ⟨t, ht, e⟩ => ?_, a1, a2⟩
    subst e
    rw [show fX5_isTune F (Int32.ofNat t) = some 1 from c_rng1 ht (by decide)] at a1
    cases a1
  · exact Or.inr ⟨⟨t, ht, rfl⟩, a1, a2⟩
theorem c_found (F : Nat) (fc : Nat → Int32) (lf : Int32) {w : Nat} (hw : w < 6) : fX5_found F fc lf (Int32.ofNat w) = some (-3, upd fc w (fc w + 1), Int32.ofNat w) := by
  unfold fX5_found
  rw [p_cl (by omega), if_neg (gx hw (by omega)), if_neg (gx hw (by omega))]
theorem m_found (F : Nat) (fc : Nat → Int32) (lf : Int32) {w : Nat} (hw : w < 6) : fX6_found F lf fc (Int32.ofNat w) = some (-3, Int32.ofNat w, upd fc w (fc w + 1)) := by
  unfold fX6_found
  rw [p_cl (by omega), if_neg (gx hw (by omega)), if_neg (gx hw (by omega))]
theorem prog_c (F : Nat) {rs mrs mr : Nat → Int32} {rm : Nat → Nat → Int32} (hRo : RRow 6 40 rs rm mrs mr) (mf : Int32) (mfs : Nat → Int32) {r : Nat} (hr : r < 6) (hF : 1000000 ≤ F) : (∃ w, w < 6 ∧ 0 < w ∧ fX5_programmeFinding F rs rm (Int32.ofNat r) = some (Int32.ofNat w) ∧ fX6_programme F mf mrs mr mfs (Int32.ofNat r) = some (-3, Int32.ofNat w, upd mfs w (mfs w + 1))) ∨ (∃ m, m ≤ 6 ∧ rs r = Int32.ofNat m ∧ mrs r = Int32.ofNat m ∧ fX5_programmeFinding F rs rm (Int32.ofNat r) = some 0 ∧ fX6_programme F mf mrs mr mfs (Int32.ofNat r) = some (0, mf, mfs) ∧ ∃ tN : Nat → Nat, ∀ p, p < m → tN p < 4 ∧ rm r p = Int32.ofNat (tN p) ∧ mr (40 * r + p) = Int32.ofNat (tN p)) := by
  have hcl := p_cl (show r < 2147483648 by omega)
  have hix := gx hr (by omega)
  rcases rrow_get hRo hr with ⟨g1, g2⟩ | ⟨m, hm, g1, g2, g3⟩
  · refine Or.inl ⟨1, by decide, by decide, ?_, ?_⟩
    · unfold fX5_programmeFinding
      rw [hcl, if_neg hix, if_pos g1]
      rfl
    · unfold fX6_programme
      rw [hcl, if_neg hix, g2, if_neg neg1_ge, m_f1, bd3_mk]
      rfl
  have hge := of_eq_true (p_ge0 (show m < 2147483648 by omega))
  by_cases h6 : m ≤ 6
  rotate_left
  · have w6 : ¬ (Int32.ofNat m ≤ (6 : Int32)) := of_eq_false (by rw [show (6 : Int32) = Int32.ofNat 6 from rfl, p_le (by omega) (by omega)]; exact eq_false h6)
    refine Or.inl ⟨5, by decide, by decide, ?_, ?_⟩
    · unfold fX5_programmeFinding
      rw [hcl, if_neg hix, g1, if_neg (nat_ne1 (by omega)), if_neg hix, if_neg w6]
      rfl
    · unfold fX6_programme
      rw [hcl, if_neg hix, g2, if_pos hge, if_neg hix, if_neg w6, m_f5, bd3_mk]
      rfl
  have w6 : Int32.ofNat m ≤ (6 : Int32) := of_eq_true (by rw [show (6 : Int32) = Int32.ofNat 6 from rfl, p_le (by omega) (by omega)]; exact eq_true h6)
  have q5 : (fX5_programmeFinding F rs rm (Int32.ofNat r) = some 0 ∧ ∀ j, j < m → Tu (rm r j)) ∨ (fX5_programmeFinding F rs rm (Int32.ofNat r) = some 3 ∧ ∃ j, j < m ∧ ¬ Tu (rm r j)) := by
    unfold fX5_programmeFinding
    rw [hcl, if_neg hix, g1, if_neg (nat_ne1 (by omega)), if_neg hix, if_pos w6]
    refine loop_inv (fun fu (a : Int32) => fX5_programmeFinding_l27 F rs rm (Int32.ofNat r) fu a) m (fun k a => a = Int32.ofNat k ∧ ∀ j, j < k → Tu (rm r j)) (fun o => (o = some 0 ∧ ∀ j, j < m → Tu (rm r j)) ∨ (o = some 3 ∧ ∃ j, j < m ∧ ¬ Tu (rm r j))) ?_ ?_ F 0 (by omega) ⟨rfl, fun j hj => absurd hj (Nat.not_lt_zero j)⟩
    · rintro fu k a hk ⟨rfl, hT⟩
      have f0 : ¬ (Int32.ofNat m ≤ Int32.ofNat k) := of_eq_false (by rw [p_le (by omega) (by omega)]; exact p_nle hk)
      rw [fX5_programmeFinding_l27, fX5_programmeFinding_l27_b, hcl, if_neg hix, g1, if_neg f0, if_neg hix, p_cl (show k < 2147483648 by omega), if_neg (gx (show k < 40 by omega) (by omega)), p_s]
      rcases tune_d F (rm r k) with ⟨n1, n2, n3⟩ | ⟨n1, n2, n3⟩
      · rw [n2, bd1_mk, if_pos rfl]
        exact Or.inr (Or.inr ⟨rfl, k, hk, n1⟩)
      · rw [n2, bd1_mk, if_neg (by decide)]
        refine Or.inl ⟨Int32.ofNat (k + 1), ⟨rfl, fun j hj => ?_⟩, rfl⟩
        by_cases e : j = k
        · subst e; exact n1
        · exact hT j (by omega)
    · rintro fu a ⟨rfl, hT⟩
      rw [fX5_programmeFinding_l27, fX5_programmeFinding_l27_b, hcl, if_neg hix, g1, if_pos (Int32.le_refl _)]
      exact Or.inl ⟨rfl, hT⟩
  have q6 : (fX6_programme F mf mrs mr mfs (Int32.ofNat r) = some (0, mf, mfs) ∧ ∀ j, j < m → Tu (rm r j)) ∨ (fX6_programme F mf mrs mr mfs (Int32.ofNat r) = some (-3, 3, upd mfs 3 (mfs 3 + 1)) ∧ ∃ j, j < m ∧ ¬ Tu (rm r j)) := by
    unfold fX6_programme
    rw [hcl, if_neg hix, g2, if_pos hge, if_neg hix, if_pos w6]
    refine loop_inv (fun fu (a : Int32 × Int32) => fX6_programme_l36 F mrs mr (Int32.ofNat r) mf mfs fu a.1 a.2) m (fun k a => a.2 = Int32.ofNat k ∧ ((a.1 = 1 ∧ ∀ j, j < k → Tu (rm r j)) ∨ (a.1 = 0 ∧ ∃ j, j < m ∧ ¬ Tu (rm r j)))) (fun o => (o = some (0, mf, mfs) ∧ ∀ j, j < m → Tu (rm r j)) ∨ (o = some (-3, 3, upd mfs 3 (mfs 3 + 1)) ∧ ∃ j, j < m ∧ ¬ Tu (rm r j))) ?_ ?_ F (1, 0) (by omega) ⟨rfl, Or.inl ⟨rfl, fun j hj => absurd hj (Nat.not_lt_zero j)⟩⟩
    · rintro fu k ⟨x2, x3⟩ hk ⟨e3, hT⟩
      dsimp only at e3 hT
      subst e3
      have f0 : ¬ (Int32.ofNat m ≤ Int32.ofNat k) := of_eq_false (by rw [p_le (by omega) (by omega)]; exact p_nle hk)
      left
      dsimp only
      rw [fX6_programme_l36, fX6_programme_l36_b, hcl, if_neg hix, g2, if_neg f0, lin40, p_cl (show 40 * r + k < 2147483648 by omega), if_neg (gx (show 40 * r + k < 240 by omega) (by omega)), p_s, ← g3 k hk]
      rcases hT with ⟨rfl, hT⟩ | ⟨rfl, hT⟩
      · rw [if_neg (by decide)]
        rcases tune_d F (rm r k) with ⟨n1, n2, n3⟩ | ⟨n1, n2, n3⟩
        · rw [n3, bd1_mk, if_pos rfl]
          exact ⟨(0, Int32.ofNat (k + 1)), ⟨rfl, Or.inr ⟨rfl, k, hk, n1⟩⟩, rfl⟩
        · rw [n3, bd1_mk, if_neg (by decide)]
          refine ⟨(1, Int32.ofNat (k + 1)), ⟨rfl, Or.inl ⟨rfl, fun j hj => ?_⟩⟩, rfl⟩
          by_cases e : j = k
          · subst e; exact n1
          · exact hT j (by omega)
      · rw [if_pos rfl]
        exact ⟨(0, Int32.ofNat (k + 1)), ⟨rfl, Or.inr ⟨rfl, hT⟩⟩, rfl⟩
    · rintro fu ⟨x2, x3⟩ ⟨e3, hT⟩
      dsimp only at e3 hT
      subst e3
      dsimp only
      rw [fX6_programme_l36, fX6_programme_l36_b, hcl, if_neg hix, g2, if_pos (Int32.le_refl _)]
      rcases hT with ⟨rfl, hT⟩ | ⟨rfl, hT⟩
      · rw [if_neg (by decide)]
        exact Or.inl ⟨rfl, hT⟩
      · rw [if_pos rfl, m_f3, bd3_mk]
        exact Or.inr ⟨rfl, hT⟩
  rcases q5 with ⟨q5, t5⟩ | ⟨q5, j5, hj5, t5⟩ <;> rcases q6 with ⟨q6, t6⟩ | ⟨q6, j6, hj6, t6⟩
  · refine Or.inr ⟨m, h6, g1, g2, q5, q6, fun p => (rm r p).toNatClampNeg, fun p hp => ?_⟩
    obtain ⟨t, ht, e⟩ := t5 p hp
    dsimp only
    rw [← g3 p hp, e, p_cl (by omega)]
    exact ⟨ht, rfl, rfl⟩
  · exact absurd (t5 j6 hj6) t6
  · exact absurd (t6 j5 hj5) t5
  · exact Or.inl ⟨3, by decide, by decide, q5, q6⟩
def runS (c : Nat) (E : Nat → Int) (K : Nat → Nat) (S : Nat → Nat → Bool) (tN : Nat → Nat) (s : Nat → Option Nat) : Nat → Nat → Option Nat
  | 0 => s
  | k + 1 => tuneS c E K S (tN k) (runS c E K S tN s k)
theorem runS_ok {n c : Nat} {E : Nat → Int} {K : Nat → Nat} {S : Nat → Nat → Bool} {tN : Nat → Nat} {s : Nat → Option Nat} (h : HallOk n s) (hE : ∀ i, i < 4 → -4 ≤ E i ∧ E i ≤ 5) (hK : ∀ i, i < n → K i ≤ 5) : ∀ k, (∀ p, p < k → tN p < 4) → HallOk n (runS c E K S tN s k)
  | 0, _ => h
  | k + 1, ht => tuneS_ok (runS_ok h hE hK k (fun p hp => ht p (by omega))) (ht k (by omega)) (hE _ (ht k (by omega))) hK
theorem w_ne0 {w : Nat} (h : w < 6) (h0 : 0 < w) : ¬ (Int32.ofNat w = 0) := by
  rw [p_e0 (by omega)]
  omega
