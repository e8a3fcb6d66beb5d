def foldA (c : Nat) (K : Nat → Nat) (S : Nat → Nat → Bool) (f : (Nat → Option Nat) → Nat) (s : Nat → Option Nat) : Nat → Nat
  | 0 => inP s
  | i + 1 => if (s i).isSome = true then min (foldA c K S f s i) (f (nameS c K S i s)) else foldA c K S f s i
def bandV (n c : Nat) (E : Nat → Int) (K : Nat → Nat) (S : Nat → Nat → Bool) : Nat → (Nat → Option Nat) → Nat
  | 0, s => inP s
  | m + 1, s => mxN (fun t => foldA c K S (bandV n c E K S m) (tuneS c E K S t s) n) 4
theorem foldA_le {c : Nat} {K : Nat → Nat} {S : Nat → Nat → Bool} {f : (Nat → Option Nat) → Nat} {s : Nat → Option Nat} : ∀ i, foldA c K S f s i ≤ inP s
  | 0 => Nat.le_refl _
  | i + 1 => by
    have h := foldA_le (c := c) (K := K) (S := S) (f := f) (s := s) i
    rw [foldA]
    by_cases e : (s i).isSome = true
    · rw [if_pos e]; omega
    · rw [if_neg e]; exact h
theorem bandV_le {n c : Nat} {E : Nat → Int} {K : Nat → Nat} {S : Nat → Nat → Bool} : ∀ m s, bandV n c E K S m s ≤ inP s
  | 0, s => Nat.le_refl _
  | m + 1, s => by
    rw [bandV]
    exact mxN_le 4 fun t _ => Nat.le_trans (foldA_le n) inP_tune
theorem PC.name {n c : Nat} {E : Nat → Int} {K : Nat → Nat} {S : Nat → Nat → Bool} {s : Nat → Option Nat} (hs : HallOk n s) {i : Nat} (hi : i < n) : HallOk n (nameS c K S i s) := looksS_ok (ups_ok hs hi (nm_le _ _))
theorem c_aunts (F : Nat) {n c : Nat} {E : Nat → Int} {K : Nat → Nat} {S : Nat → Nat → Bool} {size clause : Int32} {eff kin see : Nat → Int32} (hp : PC n c E K S size clause eff kin see) {s : Nat → Option Nat} (hs : HallOk n s) (hF : 1000000 ≤ F) {m : Nat} {rec : Int64 → Int32 → Option Int32} (hrec : ∀ s', HallOk n s' → rec (enc s') (Int32.ofNat m) = some (Int32.ofNat (bandV n c E K S m s'))) : fX3_leftAtAuntsTurn_b F size clause eff kin see rec (enc s) (Int32.ofNat (m + 1)) = some (Int32.ofNat (foldA c K S (bandV n c E K S m) s n)) := by
  have hp0 := hp
  obtain ⟨hn, rfl, hc, -, -, hk, -, -⟩ := hp
  have hpl : inP s ≤ 6 := pop_le _
  unfold fX3_leftAtAuntsTurn_b
  rw [c_many_in F hs.hb, bd1_mk]
  refine loop_up (fun fu (a : Int32 × Int32) => fX3_leftAtAuntsTurn_l9 F rec (Int32.ofNat n) clause eff kin see (enc s) (Int32.ofNat (m + 1)) fu a.1 a.2) n (fun k => (Int32.ofNat (foldA c K S (bandV n c E K S m) s k), Int32.ofNat k)) _ ?_ ?_ F (by omega)
  · intro fu k hkn
    have f0 : ¬ (Int32.ofNat n ≤ Int32.ofNat k) := of_eq_false (by rw [p_le (by omega) (by omega)]; exact p_nle hkn)
    have hle := foldA_le (c := c) (K := K) (S := S) (f := bandV n c E K S m) (s := s) k
    dsimp only
    rw [fX3_leftAtAuntsTurn_l9, fX3_leftAtAuntsTurn_l9_b, if_neg f0, c_isIn F hs.hb (by omega), bd1_mk, foldA, p_s]
    cases hso : (s k).isSome with
    | false => rw [if_neg (show ¬ (false = true) by decide), if_pos rfl, if_neg (show ¬ (false = true) by decide)]
    | true =>
      have hs' : HallOk n (nameS c K S k s) := looksS_ok (ups_ok hs hkn (nm_le _ _))
      have hb := bandV_le (n := n) (c := c) (E := E) (K := K) (S := S) m (nameS c K S k s)
      have hb6 : inP (nameS c K S k s) ≤ 6 := pop_le _
      have w : (Int32.ofNat (bandV n c E K S m (nameS c K S k s)) < Int32.ofNat (foldA c K S (bandV n c E K S m) s k)) = (bandV n c E K S m (nameS c K S k s) < foldA c K S (bandV n c E K S m) s k) := p_lt (by omega) (by omega)
      rw [if_pos (show true = true from rfl), if_neg (by decide), if_pos (show true = true from rfl), c_afterName F hp0 hs (by omega) hkn hso, bd1_mk, sm1 m _ rfl, hrec _ hs', bd1_mk]
      by_cases h : bandV n c E K S m (nameS c K S k s) < foldA c K S (bandV n c E K S m) s k
      · rw [if_pos (by rw [w]; exact h), Nat.min_eq_right (by omega)]
      · rw [if_neg (by rw [w]; exact h), Nat.min_eq_left (by omega)]
  · intro fu
    dsimp only
    rw [fX3_leftAtAuntsTurn_l9, fX3_leftAtAuntsTurn_l9_b, if_pos (Int32.le_refl _)]
theorem c_band (F : Nat) {n c : Nat} {E : Nat → Int} {K : Nat → Nat} {S : Nat → Nat → Bool} {size clause : Int32} {eff kin see : Nat → Int32} (hp : PC n c E K S size clause eff kin see) (hF : 1000000 ≤ F) : ∀ (m d : Nat) (s : Nat → Option Nat), m < d → m ≤ 6 → HallOk n s → fX3_leftAtBandsTurn F size clause eff kin see d (enc s) (Int32.ofNat m) = some (Int32.ofNat (bandV n c E K S m s)) := by
  intro m
  induction m with
  | zero =>
    intro d s hd _ hs
    obtain ⟨d, rfl⟩ : ∃ e, d = e + 1 := ⟨d - 1, by omega⟩
    rw [fX3_leftAtBandsTurn, fX3_leftAtBandsTurn_b, if_neg (by decide), c_many_in F hs.hb, bd1_mk]
    rfl
  | succ m ih =>
    intro d s hd h6 hs
    obtain ⟨d, rfl⟩ : ∃ e, d = e + 1 := ⟨d - 1, by omega⟩
    rw [fX3_leftAtBandsTurn, fX3_leftAtBandsTurn_b, if_pos (z_lt (by omega)), bandV]
    refine loop_up (fun fu (a : Int32 × Int32) => fX3_leftAtBandsTurn_l15 F (fX3_leftAtBandsTurn F size clause eff kin see d) size clause eff kin see (enc s) (Int32.ofNat (m + 1)) fu a.1 a.2) 4 (fun k => (Int32.ofNat (mxN (fun t => foldA c K S (bandV n c E K S m) (tuneS c E K S t s) n) k), Int32.ofNat k)) _ ?_ ?_ F (by omega)
    · intro fu k hk
      have hfl : ∀ t, foldA c K S (bandV n c E K S m) (tuneS c E K S t s) n ≤ 6 := fun t => Nat.le_trans (foldA_le n) (pop_le _)
      have hml := mxN_le (f := fun t => foldA c K S (bandV n c E K S m) (tuneS c E K S t s) n) (m := 6) k (fun t _ => hfl t)
      have hfk := hfl k
      have w : (Int32.ofNat (mxN (fun t => foldA c K S (bandV n c E K S m) (tuneS c E K S t s) n) k) < Int32.ofNat (foldA c K S (bandV n c E K S m) (tuneS c E K S k s) n)) = (mxN (fun t => foldA c K S (bandV n c E K S m) (tuneS c E K S t s) n) k < foldA c K S (bandV n c E K S m) (tuneS c E K S k s) n) := p_lt (by omega) (by omega)
      dsimp only
      rw [fX3_leftAtBandsTurn_l15, fX3_leftAtBandsTurn_l15_b, if_neg (of_eq_false (f4_lt hk)), c_afterTune F hp hs (by omega) hk, bd1_mk, c_aunts F hp (hp.tune hs hk) hF (fun s' hs' => ih d s' (by omega) (by omega) hs'), bd1_mk, p_s, mxN]
      by_cases h : mxN (fun t => foldA c K S (bandV n c E K S m) (tuneS c E K S t s) n) k < foldA c K S (bandV n c E K S m) (tuneS c E K S k s) n
      · rw [if_pos (by rw [w]; exact h), Nat.max_eq_right (by omega)]
      · rw [if_neg (by rw [w]; exact h), Nat.max_eq_left (by omega)]
    · intro fu
      dsimp only
      rw [fX3_leftAtBandsTurn_l15, fX3_leftAtBandsTurn_l15_b, if_pos (by decide)]
-- the model: a walk through the tree, step by step
def wv (k : Nat) (b v : Int32) : Int32 := if k % 2 = 0 then (if b ≤ v then b else v) else (if v ≤ b then b else v)
theorem m_weighs (F : Nat) (be : Nat → Int32) {k : Nat} (hk : k < 7) (v : Int32) : fX6_weighs F be (Int32.ofNat k) v = some (upd be k (wv k (be k) v)) := by
  have hpar := par_tab k (by omega)
  unfold fX6_weighs fX6_weighs_n39 wv
  rw [p_cl (show k < 2147483648 by omega)]
  simp only [p_ixG hk (show k < 2147483648 by omega), ↓reduceIte]
  by_cases h : k % 2 = 0
  · rw [if_pos (by rw [hpar]; exact h), if_pos h]
    by_cases h2 : be k ≤ v
    · rw [if_pos h2, if_pos h2]
    · rw [if_neg h2, if_neg h2, if_neg (by decide)]
  · rw [if_neg (by rw [hpar]; exact h), if_neg h]
    by_cases h2 : v ≤ be k
    · rw [if_pos h2, if_pos h2]
    · rw [if_neg h2, if_neg h2, if_neg (by decide)]
def ini (k : Nat) : Int32 := if k % 2 = 0 then 1000000 else -1
theorem m_begins (F : Nat) (tr be : Nat → Int32) {k : Nat} (hk : k < 7) : fX6_begins F tr be (Int32.ofNat k) = some (upd tr k (-1), upd be k (ini k)) := by
  have hpar := par_tab k (by omega)
  unfold fX6_begins ini
  rw [p_cl (show k < 2147483648 by omega), if_neg (gx hk (by omega))]
  by_cases h : k % 2 = 0
  · rw [if_pos (by rw [hpar]; exact h), if_pos h, if_neg (gx hk (by omega))]
  · rw [if_neg (by rw [hpar]; exact h), if_neg h, if_neg (gx hk (by omega))]
theorem m_n114 (F : Nat) {n d : Nat} {mguests mclause : Int32} {mdoes mkinds msees tr a st0 : Nat → Int32} {s : Nat → Option Nat} (hd : d < 6) (ha : RM a 0 s n) (hF : 1000000 ≤ F) : ∃ st', fX6_tries_n114 F mguests mclause mdoes mkinds msees tr (Int32.ofNat d) a st0 = some (1, a, st') ∧ RM st' (7 * (d + 1)) s n ∧ ∀ q, q < 7 * (d + 1) → st' q = st0 q := by
  refine ⟨fun q => if 7 * (d + 1) ≤ q ∧ q < 7 * (d + 1) + 7 then a (0 + (q - 7 * (d + 1))) else st0 q, ?_, rm_congr ha fun i hi => ?_, fun q hq => ?_⟩
  · unfold fX6_tries_n114
    rw [p_s, show (0 : Int32) = Int32.ofNat 0 from rfl, show (7 : Int32) = Int32.ofNat 7 from rfl, p_mul, m_copies F 7 49 _ _ (a := 0) (b := 7 * (d + 1)) (k := 7) (by omega) (by omega) (by omega) (by omega) hF, bd1_mk]
  · show (if 7 * (d + 1) ≤ 7 * (d + 1) + i ∧ 7 * (d + 1) + i < 7 * (d + 1) + 7 then a (0 + (7 * (d + 1) + i - 7 * (d + 1))) else st0 (7 * (d + 1) + i)) = a (0 + i)
    rw [if_pos (by omega), show 7 * (d + 1) + i - 7 * (d + 1) = i by omega]
  · show (if 7 * (d + 1) ≤ q ∧ q < 7 * (d + 1) + 7 then a (0 + (q - 7 * (d + 1))) else st0 q) = st0 q
    rw [if_neg (by omega)]
def chd (c : Nat) (E : Nat → Int) (K : Nat → Nat) (S : Nat → Nat → Bool) (d : Nat) (s : Nat → Option Nat) (k : Nat) : Option (Nat → Option Nat) := if d % 2 = 0 then some (tuneS c E K S k s) else if k < 6 then (if (s k).isSome = true then some (nameS c K S k s) else none) else (if inP s = 0 then some s else none)
def lim (d : Nat) : Nat := if d % 2 = 0 then 4 else 7
theorem inP_zero {s : Nat → Option Nat} : (st (fun i => (s i).isSome) = 0) = (inP s = 0) := by
  rw [st_zero, any_f]
  unfold inP pop
  dsimp only
  apply propext
  constructor
  · intro h
    rw [h 0 (by decide), h 1 (by decide), h 2 (by decide), h 3 (by decide), h 4 (by decide), h 5 (by decide)]
    rfl
  · intro h i hi
    cases e : (s i).isSome
    · rfl
    · exfalso
      rcases (show i = 0 ∨ i = 1 ∨ i = 2 ∨ i = 3 ∨ i = 4 ∨ i = 5 by omega) with rfl | rfl | rfl | rfl | rfl | rfl <;> rw [e] at h <;> simp only [Bool.toNat_true] at h <;> omega
theorem m_tries (F : Nat) {n c : Nat} {E : Nat → Int} {K : Nat → Nat} {S : Nat → Nat → Bool} {mguests mclause : Int32} {mdoes mkinds msees a st0 tr : Nat → Int32} (hp : PM n c E K S mguests mclause mdoes mkinds msees) {s : Nat → Option Nat} (hs : HallOk n s) {d k : Nat} (hd : d < 6) (hk : k < lim d) (htr : tr d = Int32.ofNat k) (hst : RM st0 (7 * d) s n) (hF : 1000000 ≤ F) : match chd c E K S d s k with
    | none => ∃ a', fX6_tries F mguests mclause mdoes mkinds msees a st0 tr (Int32.ofNat d) = some (0, a', st0)
    | some s' => ∃ a' st', fX6_tries F mguests mclause mdoes mkinds msees a st0 tr (Int32.ofNat d) = some (1, a', st') ∧ RM a' 0 s' n ∧ RM st' (7 * (d + 1)) s' n ∧ ∀ q, q < 7 * (d + 1) → st' q = st0 q := by
  have hp0 := hp
  obtain ⟨hn, rfl, hc, rfl, hE, hK, -, -⟩ := hp
  have hpar := par_tab d (by omega)
  have hk7 : k < 7 := by unfold lim at hk; split at hk <;> omega
  have hw : RM (fun q => if 0 ≤ q ∧ q < 0 + 7 then st0 (7 * d + (q - 0)) else a q) 0 s n := rm_congr hst fun i hi => by
    show (if 0 ≤ 0 + i ∧ 0 + i < 0 + 7 then st0 (7 * d + (0 + i - 0)) else a (0 + i)) = st0 (7 * d + i)
    rw [if_pos (by omega), show 0 + i - 0 = i by omega]
  have head : fX6_tries F (Int32.ofNat n) (Int32.ofNat c) mdoes mkinds msees a st0 tr (Int32.ofNat d) = (if d % 2 = 0 then (bd2 (fX6_plays F (Int32.ofNat n) (Int32.ofNat c) mdoes mkinds msees (fun q => if 0 ≤ q ∧ q < 0 + 7 then st0 (7 * d + (q - 0)) else a q) (Int32.ofNat k)) fun r46 w46_tt => (fX6_tries_n114 F (Int32.ofNat n) (Int32.ofNat c) mdoes mkinds msees tr (Int32.ofNat d) w46_tt st0)) else (if (6 : Int32) ≤ Int32.ofNat k then ((fX6_tries_n102 F (Int32.ofNat n) (Int32.ofNat c) mdoes mkinds msees tr (Int32.ofNat d) (Int32.ofNat k) (st (fun i => (s i).isSome)) (fun q => if 0 ≤ q ∧ q < 0 + 7 then st0 (7 * d + (q - 0)) else a q) st0)) else (bd1 (fX6_has F (st (fun i => (s i).isSome)) (Int32.ofNat k)) fun r62 => if r62 = 0 then ((fX6_tries_n102 F (Int32.ofNat n) (Int32.ofNat c) mdoes mkinds msees tr (Int32.ofNat d) (Int32.ofNat k) (st (fun i => (s i).isSome)) (fun q => if 0 ≤ q ∧ q < 0 + 7 then st0 (7 * d + (q - 0)) else a q) st0)) else (if Int32.ofNat k < 0 ∨ 6 ≤ k then none else if Int32.ofNat k < 0 ∨ 7 ≤ k then none else bd1 (fX6_named F (mkinds k) (if 0 ≤ k ∧ k < 0 + 7 then st0 (7 * d + (k - 0)) else a k)) fun r85 => if Int32.ofNat k < 0 ∨ 7 ≤ k then none else bd2 (fX6_looks F (Int32.ofNat n) (Int32.ofNat c) mkinds msees (upd (fun q => if 0 ≤ q ∧ q < 0 + 7 then st0 (7 * d + (q - 0)) else a q) k r85)) fun r94 w94_tt => (fX6_tries_n114 F (Int32.ofNat n) (Int32.ofNat c) mdoes mkinds msees tr (Int32.ofNat d) w94_tt st0))))) := by
    unfold fX6_tries
    rw [p_cl (show d < 2147483648 by omega), if_neg (gx (show d < 7 by omega) (by omega)), htr, p_cl (show k < 2147483648 by omega), show (0 : Int32) = Int32.ofNat 0 from rfl, show (7 : Int32) = Int32.ofNat 7 from rfl, p_mul, m_copies F 49 7 _ _ (a := 7 * d) (b := 0) (k := 7) (by omega) (by omega) (by omega) (by omega) hF, bd1_mk, m_inside F hn hs.1 (rm_6 hw), bd1_mk, show Int32.ofNat 0 = (0 : Int32) from rfl]
    by_cases h : d % 2 = 0
    · rw [if_pos (by rw [hpar]; exact h), if_pos h]
    · rw [if_neg (by rw [hpar]; exact h), if_neg h]
  unfold chd
  by_cases h : d % 2 = 0
  · rw [if_pos h] at head ⊢
    have hk4 : k < 4 := by unfold lim at hk; rw [if_pos h] at hk; exact hk
    obtain ⟨tt', p1, p2⟩ := m_plays F hp0 hs (by omega) hw hk4
    obtain ⟨st', e1, e2, e3⟩ := m_n114 F (mguests := Int32.ofNat n) (mclause := Int32.ofNat c) (mdoes := mdoes) (mkinds := mkinds) (msees := msees) (tr := tr) (st0 := st0) hd p2 hF
    rw [p1, bd2_mk, e1] at head
    exact ⟨tt', st', head, p2, e2, e3⟩
  · rw [if_neg h] at head ⊢
    by_cases h6 : k < 6
    · have w6 : ¬ ((6 : Int32) ≤ Int32.ofNat k) := of_eq_false (by rw [show (6 : Int32) = Int32.ofNat 6 from rfl, p_le (by omega) (by omega)]; exact p_nle h6)
      have w6' : Int32.ofNat k < (6 : Int32) := Int32.not_le.mp w6
      rw [if_neg w6, m_has F _ h6, bd1_mk] at head
      rw [if_pos h6]
      cases hso : (s k).isSome with
      | false =>
        rw [hso, if_neg (show ¬ (false = true) by decide), if_pos rfl] at head
        unfold fX6_tries_n102 at head
        rw [if_pos w6'] at head
        rw [if_neg (show ¬ (false = true) by decide)]
        exact ⟨_, head⟩
      | true =>
        have hkn : k < n := Nat.lt_of_not_le fun q => by rw [hs.1 k q] at hso; cases hso
        have hg20 := hs.gv20 k
        have hnm := (nm_dec (K k) (by have := (hK k hkn).1; omega) (gv s k) (by omega)).2
        have hu := ups_ok (i := k) hs hkn (nm_le (K k) (gv s k))
        obtain ⟨tt', p1, p2⟩ := m_looks F hp0 hu (by omega) (rm_ups (v := nm (K k) (gv s k)) hw h6 hso)
        obtain ⟨st', e1, e2, e3⟩ := m_n114 F (mguests := Int32.ofNat n) (mclause := Int32.ofNat c) (mdoes := mdoes) (mkinds := mkinds) (msees := msees) (tr := tr) (st0 := st0) hd p2 hF
        rw [hso, if_pos (show true = true from rfl), if_neg (by decide), if_neg (gx h6 (by omega)), if_neg (gx hk7 (by omega)), (hK k hkn).2, rm_g hw h6, nmd_F, hnm, bd1_mk, if_neg (gx hk7 (by omega)), p1, bd2_mk, e1] at head
        rw [if_pos (show true = true from rfl)]
        exact ⟨tt', st', head, p2, e2, e3⟩
    · have w6 : (6 : Int32) ≤ Int32.ofNat k := of_eq_true (by rw [show (6 : Int32) = Int32.ofNat 6 from rfl, p_le (by omega) (by omega)]; exact eq_true (by omega))
      rw [if_pos w6] at head
      unfold fX6_tries_n102 at head
      rw [if_neg (Int32.not_lt.mpr w6)] at head
      rw [if_neg h6]
      by_cases hz : inP s = 0
      · obtain ⟨st', e1, e2, e3⟩ := m_n114 F (mguests := Int32.ofNat n) (mclause := Int32.ofNat c) (mdoes := mdoes) (mkinds := mkinds) (msees := msees) (tr := tr) (st0 := st0) hd hw hF
        rw [if_pos (by rw [inP_zero]; exact hz), e1] at head
        rw [if_pos hz]
        exact ⟨_, st', head, hw, e2, e3⟩
      · rw [if_neg (by rw [inP_zero]; exact hz)] at head
        rw [if_neg hz]
        exact ⟨_, head⟩
