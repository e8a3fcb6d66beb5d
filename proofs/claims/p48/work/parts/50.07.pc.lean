def any6 (p : Nat → Bool) : Bool := p 0 || p 1 || p 2 || p 3 || p 4 || p 5
theorem any6_iff {p : Nat → Bool} : any6 p = true ↔ ∃ i, i < 6 ∧ p i = true := by
  unfold any6
  constructor
  · intro h
    simp only [Bool.or_eq_true] at h
    rcases h with ((((h | h) | h) | h) | h) | h
    · exact ⟨0, by decide, h⟩
    · exact ⟨1, by decide, h⟩
    · exact ⟨2, by decide, h⟩
    · exact ⟨3, by decide, h⟩
    · exact ⟨4, by decide, h⟩
    · exact ⟨5, by decide, h⟩
  · rintro ⟨i, hi, h⟩
    rcases (show i = 0 ∨ i = 1 ∨ i = 2 ∨ i = 3 ∨ i = 4 ∨ i = 5 by omega) with rfl | rfl | rfl | rfl | rfl | rfl <;> simp [h]
theorem st_congr {p q : Nat → Bool} (h : ∀ i, i < 6 → p i = q i) : st p = st q := by
  unfold st setN
  rw [h 0 (by decide), h 1 (by decide), h 2 (by decide), h 3 (by decide), h 4 (by decide), h 5 (by decide)]
theorem enc_congr {s s' : Nat → Option Nat} (h : ∀ i, i < 6 → s i = s' i) : enc s = enc s' := by
  unfold enc encN setN gv
  dsimp only
  rw [h 0 (by decide), h 1 (by decide), h 2 (by decide), h 3 (by decide), h 4 (by decide), h 5 (by decide)]
def mk6 (a b c d e f : Bool) : Int32 := Int32.ofNat (a.toNat + 2 * b.toNat + 4 * c.toNat + 8 * d.toNat + 16 * e.toNat + 32 * f.toNat)
theorem st_mk (p : Nat → Bool) : st p = mk6 (p 0) (p 1) (p 2) (p 3) (p 4) (p 5) := rfl
theorem mk6_and : ∀ a b c d e f a' b' c' d' e' f' : Bool, mk6 a b c d e f &&& mk6 a' b' c' d' e' f' = mk6 (a && a') (b && b') (c && c') (d && d') (e && e') (f && f') := by decide +kernel
theorem mk6_or : ∀ a b c d e f a' b' c' d' e' f' : Bool, mk6 a b c d e f ||| mk6 a' b' c' d' e' f' = mk6 (a || a') (b || b') (c || c') (d || d') (e || e') (f || f') := by decide +kernel
theorem mk6_andn : ∀ a b c d e f a' b' c' d' e' f' : Bool, mk6 a b c d e f &&& (mk6 a' b' c' d' e' f' ^^^ (-1 : Int32)) = mk6 (a && !a') (b && !b') (c && !c') (d && !d') (e && !e') (f && !f') := by decide +kernel
theorem mk6_zero : ∀ a b c d e f : Bool, mk6 a b c d e f = 0 ↔ (a || b || c || d || e || f) = false := by decide +kernel
theorem st_and (p q : Nat → Bool) : st p &&& st q = st (fun i => p i && q i) := mk6_and _ _ _ _ _ _ _ _ _ _ _ _
theorem st_or (p q : Nat → Bool) : st p ||| st q = st (fun i => p i || q i) := mk6_or _ _ _ _ _ _ _ _ _ _ _ _
theorem st_andn (p q : Nat → Bool) : st p &&& (st q ^^^ (-1 : Int32)) = st (fun i => p i && !q i) := mk6_andn _ _ _ _ _ _ _ _ _ _ _ _
theorem st_zero (p : Nat → Bool) : (st p = 0) = (any6 p = false) := propext (mk6_zero _ _ _ _ _ _)
theorem mk6_bit0 : ∀ a b c d e f : Bool, ((mk6 a b c d e f >>> (Int32.ofNat 0 &&& 31)) &&& (1 : Int32)) = Int32.ofNat a.toNat := by decide +kernel
theorem mk6_bit1 : ∀ a b c d e f : Bool, ((mk6 a b c d e f >>> (Int32.ofNat 1 &&& 31)) &&& (1 : Int32)) = Int32.ofNat b.toNat := by decide +kernel
theorem mk6_bit2 : ∀ a b c d e f : Bool, ((mk6 a b c d e f >>> (Int32.ofNat 2 &&& 31)) &&& (1 : Int32)) = Int32.ofNat c.toNat := by decide +kernel
theorem mk6_bit3 : ∀ a b c d e f : Bool, ((mk6 a b c d e f >>> (Int32.ofNat 3 &&& 31)) &&& (1 : Int32)) = Int32.ofNat d.toNat := by decide +kernel
theorem mk6_bit4 : ∀ a b c d e f : Bool, ((mk6 a b c d e f >>> (Int32.ofNat 4 &&& 31)) &&& (1 : Int32)) = Int32.ofNat e.toNat := by decide +kernel
theorem mk6_bit5 : ∀ a b c d e f : Bool, ((mk6 a b c d e f >>> (Int32.ofNat 5 &&& 31)) &&& (1 : Int32)) = Int32.ofNat f.toNat := by decide +kernel
theorem st_bit (p : Nat → Bool) {i : Nat} (hi : i < 6) : ((st p >>> (Int32.ofNat i &&& 31)) &&& (1 : Int32)) = Int32.ofNat (p i).toNat := by
  rcases (show i = 0 ∨ i = 1 ∨ i = 2 ∨ i = 3 ∨ i = 4 ∨ i = 5 by omega) with rfl | rfl | rfl | rfl | rfl | rfl
  · exact mk6_bit0 _ _ _ _ _ _
  · exact mk6_bit1 _ _ _ _ _ _
  · exact mk6_bit2 _ _ _ _ _ _
  · exact mk6_bit3 _ _ _ _ _ _
  · exact mk6_bit4 _ _ _ _ _ _
  · exact mk6_bit5 _ _ _ _ _ _
theorem st_one {i : Nat} (hi : i < 6) : ((1 : Int32) <<< (Int32.ofNat i &&& 31)) = st (fun j => j == i) := by
  rcases (show i = 0 ∨ i = 1 ∨ i = 2 ∨ i = 3 ∨ i = 4 ∨ i = 5 by omega) with rfl | rfl | rfl | rfl | rfl | rfl <;> rfl
theorem st_none : (0 : Int32) = st (fun _ => false) := rfl
theorem st_inj {p q : Nat → Bool} : (st p = st q) = (∀ i, i < 6 → p i = q i) := by
  apply propext
  constructor
  · intro h i hi
    have a := st_bit p hi
    rw [h, st_bit q hi] at a
    have hp := Bool.toNat_le (p i)
    have hq := Bool.toNat_le (q i)
    rw [p_eq (by omega) (by omega)] at a
    cases h1 : p i <;> cases h2 : q i <;> rw [h1, h2] at a <;> first | rfl | cases a
  · exact st_congr
theorem m_has (F : Nat) (p : Nat → Bool) {i : Nat} (hi : i < 6) : fX6_has F (st p) (Int32.ofNat i) = some (if p i = true then 1 else 0) := by
  unfold fX6_has
  rw [st_bit p hi]
  cases p i <;> rfl
theorem m_everybody (F : Nat) {n : Nat} (hn : n ≤ 6) : fX6_everybody F (Int32.ofNat n) = some (st (fun i => decide (i < n))) := by
  rcases (show n = 0 ∨ n = 1 ∨ n = 2 ∨ n = 3 ∨ n = 4 ∨ n = 5 ∨ n = 6 by omega) with rfl | rfl | rfl | rfl | rfl | rfl | rfl <;> rfl
def HallIn (n : Nat) (s : Nat → Option Nat) : Prop := ∀ i, n ≤ i → s i = none
theorem m_inside (F : Nat) {n : Nat} (hn : n ≤ 6) {s : Nat → Option Nat} {tt : Nat → Int32} (hs : HallIn n s) (h6 : tt 6 = st (fun i => decide (i < n) && (s i).isNone)) : fX6_inside F (Int32.ofNat n) tt = some (st (fun i => (s i).isSome)) := by
  unfold fX6_inside
  rw [m_everybody F hn, bd1_mk, show (6 : Int32).toNatClampNeg = 6 from rfl, h6, st_andn]
  refine congrArg some (st_congr fun i _ => ?_)
  by_cases hi : i < n
  · cases e : s i <;> simp [hi]
  · simp [hi, hs i (by omega)]
-- the spec of one step
def gb (k t : Nat) (e : Int) (g : Nat) : Nat := ((fX2_griefBehind 0 (Int32.ofNat k) (Int32.ofNat t) (Int32.ofInt e) (Int32.ofNat g)).getD 0).toNatClampNeg
def gbB (k t e g : Nat) : Bool := decide (fX2_griefBehind 0 (Int32.ofNat k) (Int32.ofNat t) (Int32.ofInt ((e : Int) - 4)) (Int32.ofNat g) = some (Int32.ofNat (gb k t ((e : Int) - 4) g))) && decide (fX6_griefBehind 0 (Int32.ofNat k) (Int32.ofNat g) (Int32.ofNat t) (Int32.ofInt ((e : Int) - 4)) = some (Int32.ofNat (gb k t ((e : Int) - 4) g))) && decide (gb k t ((e : Int) - 4) g ≤ 20)
theorem gbB_all : ((List.range 6).all fun k => (List.range 4).all fun t => (List.range 10).all fun e => (List.range 21).all fun g => gbB k t e g) = true := by decide +kernel
theorem gb_dec (k : Nat) (hk : k < 6) (t : Nat) (ht : t < 4) (e : Nat) (he : e < 10) (g : Nat) (hg : g < 21) : fX2_griefBehind 0 (Int32.ofNat k) (Int32.ofNat t) (Int32.ofInt ((e : Int) - 4)) (Int32.ofNat g) = some (Int32.ofNat (gb k t ((e : Int) - 4) g)) ∧ fX6_griefBehind 0 (Int32.ofNat k) (Int32.ofNat g) (Int32.ofNat t) (Int32.ofInt ((e : Int) - 4)) = some (Int32.ofNat (gb k t ((e : Int) - 4) g)) ∧ gb k t ((e : Int) - 4) g ≤ 20 := by
  have h := List.all_eq_true.mp (List.all_eq_true.mp (List.all_eq_true.mp (List.all_eq_true.mp gbB_all k (List.mem_range.mpr hk)) t (List.mem_range.mpr ht)) e (List.mem_range.mpr he)) g (List.mem_range.mpr hg)
  unfold gbB at h
  simp only [Bool.and_eq_true, decide_eq_true_eq] at h
  exact ⟨h.1.1, h.1.2, h.2⟩
theorem gb_all {k t : Nat} {e : Int} {g : Nat} (hk : k ≤ 5) (ht : t < 4) (h1 : -4 ≤ e) (h2 : e ≤ 5) (hg : g ≤ 20) : fX2_griefBehind 0 (Int32.ofNat k) (Int32.ofNat t) (Int32.ofInt e) (Int32.ofNat g) = some (Int32.ofNat (gb k t e g)) ∧ fX6_griefBehind 0 (Int32.ofNat k) (Int32.ofNat g) (Int32.ofNat t) (Int32.ofInt e) = some (Int32.ofNat (gb k t e g)) ∧ gb k t e g ≤ 20 := by
  have := gb_dec k (by omega) t ht (e + 4).toNat (by omega) g (by omega)
  rw [show ((e + 4).toNat : Int) - 4 = e by omega] at this
  exact this
theorem c_gb (F : Nat) {k t : Nat} {e : Int} {g : Nat} (hk : k ≤ 5) (ht : t < 4) (h1 : -4 ≤ e) (h2 : e ≤ 5) (hg : g ≤ 20) : fX2_griefBehind F (Int32.ofNat k) (Int32.ofNat t) (Int32.ofInt e) (Int32.ofNat g) = some (Int32.ofNat (gb k t e g)) := (gb_all hk ht h1 h2 hg).1
theorem m_gb (F : Nat) {k t : Nat} {e : Int} {g : Nat} (hk : k ≤ 5) (ht : t < 4) (h1 : -4 ≤ e) (h2 : e ≤ 5) (hg : g ≤ 20) : fX6_griefBehind F (Int32.ofNat k) (Int32.ofNat g) (Int32.ofNat t) (Int32.ofInt e) = some (Int32.ofNat (gb k t e g)) := (gb_all hk ht h1 h2 hg).2.1
def nm (k g : Nat) : Nat := min 20 (g + (if k = 2 ∨ k = 5 then 1 else if k = 3 then 4 else 2))
theorem nm_dec : ∀ k, k < 6 → ∀ g, g < 21 → (bd1 (fX2_riseByName 0 (Int32.ofNat k)) fun r => fX2_bounded 0 (Int32.ofNat g + r)) = some (Int32.ofNat (nm k g)) ∧ fX6_named 0 (Int32.ofNat k) (Int32.ofNat g) = some (Int32.ofNat (nm k g)) := by decide +kernel
theorem ice_dec : ∀ g, g < 21 → fX2_bounded 0 (Int32.ofNat g - (3 : Int32)) = some (Int32.ofNat (g - 3)) ∧ fX6_kept20 0 (Int32.ofNat g - (3 : Int32)) = some (Int32.ofNat (g - 3)) := by decide +kernel
def goes (c : Nat) (K : Nat → Nat) (S : Nat → Nat → Bool) (s : Nat → Option Nat) (i : Nat) : Bool := (s i).isSome && decide (c < gv s i) && !(K i == 5) && any6 (fun j => (s j).isSome && S j i)
def looksS (c : Nat) (K : Nat → Nat) (S : Nat → Nat → Bool) (s : Nat → Option Nat) : Nat → Option Nat := fun i => if goes c K S s i = true then none else s i
def mapT (E : Nat → Int) (K : Nat → Nat) (t : Nat) (s : Nat → Option Nat) : Nat → Option Nat := fun i => (s i).map (gb (K i) t (E t))
def tuneS (c : Nat) (E : Nat → Int) (K : Nat → Nat) (S : Nat → Nat → Bool) (t : Nat) (s : Nat → Option Nat) : Nat → Option Nat := looksS c K S (mapT E K t s)
def nameS (c : Nat) (K : Nat → Nat) (S : Nat → Nat → Bool) (i : Nat) (s : Nat → Option Nat) : Nat → Option Nat := looksS c K S (ups s i (nm (K i) (gv s i)))
def iceS (c : Nat) (K : Nat → Nat) (S : Nat → Nat → Bool) (i : Nat) (s : Nat → Option Nat) : Nat → Option Nat := looksS c K S (ups s i (gv s i - 3))
def PC (n c : Nat) (E : Nat → Int) (K : Nat → Nat) (S : Nat → Nat → Bool) (size clause : Int32) (eff kin see : Nat → Int32) : Prop := n ≤ 6 ∧ size = Int32.ofNat n ∧ c ≤ 9 ∧ clause = Int32.ofNat c ∧ (∀ i, i < 4 → -4 ≤ E i ∧ E i ≤ 5 ∧ eff i = Int32.ofInt (E i)) ∧ (∀ i, i < n → K i ≤ 5 ∧ kin i = Int32.ofNat (K i)) ∧ (∀ i, i < n → see i = st (fun j => S j i)) ∧ ∀ i j, S i j = true → i < n ∧ j < n
def PM (n c : Nat) (E : Nat → Int) (K : Nat → Nat) (S : Nat → Nat → Bool) (mguests mclause : Int32) (mdoes mkinds msees : Nat → Int32) : Prop := n ≤ 6 ∧ mguests = Int32.ofNat n ∧ c ≤ 9 ∧ mclause = Int32.ofNat c ∧ (∀ i, i < 4 → -4 ≤ E i ∧ E i ≤ 5 ∧ mdoes i = Int32.ofInt (E i)) ∧ (∀ i, i < n → K i ≤ 5 ∧ mkinds i = Int32.ofNat (K i)) ∧ (∀ i, i < n → msees i = st (S i)) ∧ ∀ i j, S i j = true → i < n ∧ j < n
theorem HallOk.gv20 {n : Nat} {s : Nat → Option Nat} (h : HallOk n s) (i : Nat) : gv s i ≤ 20 := by
  unfold gv
  cases e : s i with
  | none => simp
  | some g => exact h.2 i g e
theorem gv_some {s : Nat → Option Nat} {i g : Nat} (h : s i = some g) : gv s i = g := by unfold gv; rw [h]; rfl
theorem gv_none {s : Nat → Option Nat} {i : Nat} (h : s i = none) : gv s i = 0 := by unfold gv; rw [h]; rfl
theorem looksS_ok {n c : Nat} {K : Nat → Nat} {S : Nat → Nat → Bool} {s : Nat → Option Nat} (h : HallOk n s) : HallOk n (looksS c K S s) := by
  refine ⟨fun i hi => ?_, fun i g hg => ?_⟩
  · unfold looksS
    split
    · rfl
    · exact h.1 i hi
  · unfold looksS at hg
    split at hg
    · cases hg
    · exact h.2 i g hg
theorem ups_ok {n i v : Nat} {s : Nat → Option Nat} (h : HallOk n s) (hi : i < n) (hv : v ≤ 20) : HallOk n (ups s i v) := by
  refine ⟨fun j hj => ?_, fun j g hg => ?_⟩
  · unfold ups
    rw [if_neg (by omega)]
    exact h.1 j hj
  · unfold ups at hg
    split at hg
    · cases hg; exact hv
    · exact h.2 j g hg
theorem mapT_ok {n t : Nat} {E : Nat → Int} {K : Nat → Nat} {s : Nat → Option Nat} (h : HallOk n s) (ht : t < 4) (hE : -4 ≤ E t ∧ E t ≤ 5) (hK : ∀ i, i < n → K i ≤ 5) : HallOk n (mapT E K t s) := by
  refine ⟨fun j hj => ?_, fun j g hg => ?_⟩
  · unfold mapT
    rw [h.1 j hj]
    rfl
  · unfold mapT at hg
    cases e : s j with
    | none => rw [e] at hg; cases hg
    | some g0 =>
      rw [e] at hg
      cases hg
      have hj : j < n := Nat.lt_of_not_le fun q => by rw [h.1 j q] at e; cases e
      exact (gb_all (hK j hj) ht hE.1 hE.2 (h.2 j g0 e)).2.2
