def hI (f : Nat → Int32) : Nat → Int64 → Int64
  | 0, h => h
  | k + 1, h => (31 : Int64) * hI f k h + (f k).toInt64
theorem hI_congr {f g : Nat → Int32} : ∀ k (h : Int64), (∀ i, i < k → f i = g i) → hI f k h = hI g k h
  | 0, _, _ => rfl
  | k + 1, h, e => by rw [hI, hI, hI_congr k h (fun i hi => e i (by omega)), e k (by omega)]
def hG (tv : Nat → Nat → Int32) : Nat → Int64 → Int64
  | 0, h => h
  | i + 1, h => hI (tv i) 5 (hG tv i h)
def hR (f : Nat → Nat → Int32) (z : Nat → Int32) : Nat → Int64 → Int64
  | 0, h => h
  | r + 1, h => hI (f r) (z r).toNatClampNeg ((31 : Int64) * hR f z r h + (z r).toInt64)
theorem hR_congr {f g : Nat → Nat → Int32} {y z : Nat → Int32} : ∀ k (h : Int64), (∀ r, r < k → y r = z r ∧ ∀ i, i < (z r).toNatClampNeg → f r i = g r i) → hR f y k h = hR g z k h
  | 0, _, _ => rfl
  | k + 1, h, e => by
    rw [hR, hR, hR_congr k h (fun r hr => e r (by omega)), (e k (by omega)).1]
    exact hI_congr _ _ (e k (by omega)).2
def okz (w : Nat) (x : Int32) : Prop := x = -1 ∨ ∃ m : Nat, m ≤ w ∧ x = Int32.ofNat m
theorem okz_le {w : Nat} (hw : w < 1000) {x : Int32} (h : okz w x) {k : Nat} (hk : k < 1000) : (x ≤ Int32.ofNat k) = (x.toNatClampNeg ≤ k) := by
  rcases h with h | ⟨m, hm, h⟩
  · subst h
    rw [show ((-1 : Int32)).toNatClampNeg = 0 from by decide]
    have : ((-1 : Int32) ≤ Int32.ofNat k) := Int32.le_trans (show (-1 : Int32) ≤ 0 by decide) (of_eq_true (p_ge0 (by omega)))
    exact propext ⟨fun _ => Nat.zero_le _, fun _ => this⟩
  · subst h
    rw [p_le (by omega) (by omega), p_cl (by omega)]
theorem okz_sz {w : Nat} (hw : w < 1000) {x : Int32} (h : okz w x) : x.toNatClampNeg ≤ w := by
  rcases h with h | ⟨m, hm, h⟩
  · subst h
    exact Nat.zero_le _
  · subst h
    rw [p_cl (by omega)]
    exact hm
theorem okz_row {k w r : Nat} {rs mrs mr : Nat → Int32} {rm : Nat → Nat → Int32} (h : RRow k w rs rm mrs mr) (hr : r < k) : okz w (rs r) ∧ mrs r = rs r := by
  rcases rrow_get h hr with ⟨g1, g2⟩ | ⟨m, hm, g1, g2, -⟩
  · exact ⟨Or.inl g1, g2.trans g1.symm⟩
  · exact ⟨Or.inr ⟨m, hm, g1⟩, g2.trans g1.symm⟩
theorem c_l53 (F : Nat) (self : Int64 → Int32 → Option Int64) {psize : Int32} {peff pkin psig psee : Nat → Int32} {cnow : Int64} {kdee : Nat → Int32} {i : Nat} {tv : Nat → Int32} (htv : ∀ k, k < 5 → fX5_guestTells F pkin psig psee cnow (Int32.ofNat i) (Int32.ofNat k) = some (tv k)) (h : Int64) (hF : 1000000 ≤ F) : fX5_digestParty_l53 F self psize peff pkin psig psee cnow kdee (Int32.ofNat i) F h (0 : Int32) = self (hI tv 5 h) (Int32.ofNat (i + 1)) := by
  refine loop_up (fun fu (a : Int64 × Int32) => fX5_digestParty_l53 F self psize peff pkin psig psee cnow kdee (Int32.ofNat i) fu a.1 a.2) 5 (fun k => (hI tv k h, Int32.ofNat k)) _ ?_ ?_ F (by omega)
  · intro fu k hk
    have f0 : ((4 : Int32) < Int32.ofNat k) = False := by
      rw [show (4 : Int32) = Int32.ofNat 4 from rfl, p_lt (by omega) (by omega)]
      exact eq_false (by omega)
    dsimp only
    rw [fX5_digestParty_l53, fX5_digestParty_l53_b, if_neg (of_eq_false f0), htv k hk, bd1_mk, p_s, hI]
  · intro fu
    dsimp only
    rw [fX5_digestParty_l53, fX5_digestParty_l53_b, if_pos (by decide), p_s]
theorem c_l90 (F : Nat) {psize : Int32} {peff pkin psig psee : Nat → Int32} {cnow : Int64} {kdee : Nat → Int32} (h : Int64) (hF : 1000000 ≤ F) : fX5_digestParty_l90 F psize peff pkin psig psee cnow kdee F h (0 : Int32) = some (hI kdee 3 h) := by
  refine loop_up (fun fu (a : Int64 × Int32) => fX5_digestParty_l90 F psize peff pkin psig psee cnow kdee fu a.1 a.2) 3 (fun k => (hI kdee k h, Int32.ofNat k)) _ ?_ ?_ F (by omega)
  · intro fu k hk
    have f0 : ((3 : Int32) ≤ Int32.ofNat k) = False := by
      rw [show (3 : Int32) = Int32.ofNat 3 from rfl, p_le (by omega) (by omega)]
      exact p_nle hk
    dsimp only
    rw [fX5_digestParty_l90, fX5_digestParty_l90_b, if_neg (of_eq_false f0), p_cl (show k < 2147483648 by omega), if_neg (gx hk (by omega)), p_s, hI]
  · intro fu
    dsimp only
    rw [fX5_digestParty_l90, fX5_digestParty_l90_b, if_pos (by decide)]
theorem c_l38 (F : Nat)  {peff pkin psig psee : Nat → Int32} {cnow : Int64} {kdee : Nat → Int32} {n : Nat} (hn : n ≤ 6)  {tv : Nat → Nat → Int32} (htv : ∀ i, i < n → ∀ k, k < 5 → fX5_guestTells F pkin psig psee cnow (Int32.ofNat i) (Int32.ofNat k) = some (tv i k)) (h : Int64) (hF : 1000000 ≤ F) : fX5_digestParty_l38 F (Int32.ofNat n) peff pkin psig psee cnow kdee F h (0 : Int32) = some (hI kdee 3 (hG tv n h)) := by
  refine loop_up (fun fu (a : Int64 × Int32) => fX5_digestParty_l38 F (Int32.ofNat n) peff pkin psig psee cnow kdee fu a.1 a.2) n (fun k => (hG tv k h, Int32.ofNat k)) _ ?_ ?_ F (by omega)
  · intro fu k hk
    have f0 : (Int32.ofNat n ≤ Int32.ofNat k) = False := by rw [p_le (by omega) (by omega)]; exact p_nle hk
    dsimp only
    rw [fX5_digestParty_l38, fX5_digestParty_l38_b, if_neg (of_eq_false f0), c_l53 F _ (htv k hk) _ hF, hG]
  · intro fu
    dsimp only
    rw [fX5_digestParty_l38, fX5_digestParty_l38_b, if_pos (Int32.le_refl _), c_l90 F _ hF]
theorem c_l5 (F : Nat)  {peff pkin psig psee : Nat → Int32} {cnow : Int64} {kdee : Nat → Int32} {n : Nat} (hn : n ≤ 6) {tv : Nat → Nat → Int32} (htv : ∀ i, i < n → ∀ k, k < 5 → fX5_guestTells F pkin psig psee cnow (Int32.ofNat i) (Int32.ofNat k) = some (tv i k)) (h : Int64) (hF : 1000000 ≤ F) : fX5_digestParty_l5 F (Int32.ofNat n) peff pkin psig psee cnow kdee F h (0 : Int32) = some (hI kdee 3 (hG tv n (hI peff 4 h))) := by
  refine loop_up (fun fu (a : Int64 × Int32) => fX5_digestParty_l5 F (Int32.ofNat n) peff pkin psig psee cnow kdee fu a.1 a.2) 4 (fun k => (hI peff k h, Int32.ofNat k)) _ ?_ ?_ F (by omega)
  · intro fu k hk
    dsimp only
    rw [fX5_digestParty_l5, fX5_digestParty_l5_b, if_neg (of_eq_false (f4_lt hk)), p_cl (show k < 2147483648 by omega), if_neg (gx hk (by omega)), p_s, hI]
  · intro fu
    dsimp only
    rw [fX5_digestParty_l5, fX5_digestParty_l5_b, if_pos (by decide), c_l38 F hn htv _ hF]
theorem c_l62 (F : Nat) (self : Int64 → Int32 → Option Int64) {rs ts : Nat → Int32} {rm tm : Nat → Nat → Int32} {psize pclause : Int32} {peff pkin psig psee : Nat → Int32} {cdee : Int32} {cnow : Int64} {kdee : Nat → Int32} {r : Nat} (hr : r < 6) (hz : okz 40 (rs r)) (h : Int64) (hF : 1000000 ≤ F) : fX5_digest_l62 F self rs rm ts tm psize pclause peff pkin psig psee cdee cnow kdee (Int32.ofNat r) F h (0 : Int32) = self (hI (rm r) (rs r).toNatClampNeg h) (Int32.ofNat (r + 1)) := by
  have hsz := okz_sz (by decide) hz
  refine loop_up (fun fu (a : Int64 × Int32) => fX5_digest_l62 F self rs rm ts tm psize pclause peff pkin psig psee cdee cnow kdee (Int32.ofNat r) fu a.1 a.2) (rs r).toNatClampNeg (fun k => (hI (rm r) k h, Int32.ofNat k)) _ ?_ ?_ F (by omega)
  · intro fu k hk
    have f0 : (rs r ≤ Int32.ofNat k) = False := by
      rw [okz_le (by decide) hz (by omega)]
      exact p_nle hk
    dsimp only
    rw [fX5_digest_l62, fX5_digest_l62_b, p_cl (show r < 2147483648 by omega), if_neg (gx hr (by omega)), if_neg (of_eq_false f0), p_cl (show k < 2147483648 by omega), if_neg (gx hr (by omega)), if_neg (gx (show k < 40 by omega) (by omega)), p_s, hI]
  · intro fu
    have f0 : rs r ≤ Int32.ofNat (rs r).toNatClampNeg := of_eq_true (by
      rw [okz_le (by decide) hz (by omega)]
      exact eq_true (Nat.le_refl _))
    dsimp only
    rw [fX5_digest_l62, fX5_digest_l62_b, p_cl (show r < 2147483648 by omega), if_neg (gx hr (by omega)), if_pos f0, p_s]
theorem c_l126 (F : Nat) (self : Int64 → Int32 → Option Int64) {rs ts : Nat → Int32} {rm tm : Nat → Nat → Int32} {psize pclause : Int32} {peff pkin psig psee : Nat → Int32} {cdee : Int32} {cnow : Int64} {kdee : Nat → Int32} {r : Nat} (hr : r < 4) (hz : okz 80 (ts r)) (h : Int64) (hF : 1000000 ≤ F) : fX5_digest_l126 F self rs rm ts tm psize pclause peff pkin psig psee cdee cnow kdee (Int32.ofNat r) F h (0 : Int32) = self (hI (tm r) (ts r).toNatClampNeg h) (Int32.ofNat (r + 1)) := by
  have hsz := okz_sz (by decide) hz
  refine loop_up (fun fu (a : Int64 × Int32) => fX5_digest_l126 F self rs rm ts tm psize pclause peff pkin psig psee cdee cnow kdee (Int32.ofNat r) fu a.1 a.2) (ts r).toNatClampNeg (fun k => (hI (tm r) k h, Int32.ofNat k)) _ ?_ ?_ F (by omega)
  · intro fu k hk
    have f0 : (ts r ≤ Int32.ofNat k) = False := by
      rw [okz_le (by decide) hz (by omega)]
      exact p_nle hk
    dsimp only
    rw [fX5_digest_l126, fX5_digest_l126_b, p_cl (show r < 2147483648 by omega), if_neg (gx hr (by omega)), if_neg (of_eq_false f0), p_cl (show k < 2147483648 by omega), if_neg (gx hr (by omega)), if_neg (gx (show k < 80 by omega) (by omega)), p_s, hI]
  · intro fu
    have f0 : ts r ≤ Int32.ofNat (ts r).toNatClampNeg := of_eq_true (by
      rw [okz_le (by decide) hz (by omega)]
      exact eq_true (Nat.le_refl _))
    dsimp only
    rw [fX5_digest_l126, fX5_digest_l126_b, p_cl (show r < 2147483648 by omega), if_neg (gx hr (by omega)), if_pos f0, p_s]
theorem c_l104 (F : Nat) {rs ts : Nat → Int32} {rm tm : Nat → Nat → Int32} {psize pclause : Int32} {peff pkin psig psee : Nat → Int32} {cdee : Int32} {cnow : Int64} {kdee : Nat → Int32} (hz : ∀ r, r < 4 → okz 80 (ts r)) (h : Int64) (hF : 1000000 ≤ F) : fX5_digest_l104 F rs rm ts tm psize pclause peff pkin psig psee cdee cnow kdee F h (0 : Int32) = some (hR tm ts 4 h) := by
  refine loop_up (fun fu (a : Int64 × Int32) => fX5_digest_l104 F rs rm ts tm psize pclause peff pkin psig psee cdee cnow kdee fu a.1 a.2) 4 (fun k => (hR tm ts k h, Int32.ofNat k)) _ ?_ ?_ F (by omega)
  · intro fu k hk
    have f0 : ((4 : Int32) ≤ Int32.ofNat k) = False := by
      rw [show (4 : Int32) = Int32.ofNat 4 from rfl, p_le (by omega) (by omega)]
      exact p_nle hk
    dsimp only
    rw [fX5_digest_l104, fX5_digest_l104_b, if_neg (of_eq_false f0), p_cl (show k < 2147483648 by omega), if_neg (gx hk (by omega)), c_l126 F _ hk (hz k hk) _ hF, hR]
  · intro fu
    dsimp only
    rw [fX5_digest_l104, fX5_digest_l104_b, if_pos (by decide)]
theorem c_l39 (F : Nat) {rs ts : Nat → Int32} {rm tm : Nat → Nat → Int32} {psize pclause : Int32} {peff pkin psig psee : Nat → Int32} {cdee : Int32} {cnow : Int64} {kdee : Nat → Int32} (hz : ∀ r, r < 6 → okz 40 (rs r)) (hz2 : ∀ r, r < 4 → okz 80 (ts r)) (h : Int64) (hF : 1000000 ≤ F) : fX5_digest_l39 F rs rm ts tm psize pclause peff pkin psig psee cdee cnow kdee F h (0 : Int32) = some (hR tm ts 4 (hR rm rs 6 h)) := by
  refine loop_up (fun fu (a : Int64 × Int32) => fX5_digest_l39 F rs rm ts tm psize pclause peff pkin psig psee cdee cnow kdee fu a.1 a.2) 6 (fun k => (hR rm rs k h, Int32.ofNat k)) _ ?_ ?_ F (by omega)
  · intro fu k hk
    have f0 : ((6 : Int32) ≤ Int32.ofNat k) = False := by
      rw [show (6 : Int32) = Int32.ofNat 6 from rfl, p_le (by omega) (by omega)]
      exact p_nle hk
    dsimp only
    rw [fX5_digest_l39, fX5_digest_l39_b, if_neg (of_eq_false f0), p_cl (show k < 2147483648 by omega), if_neg (gx hk (by omega)), c_l62 F _ hk (hz k hk) _ hF, hR]
  · intro fu
    dsimp only
    rw [fX5_digest_l39, fX5_digest_l39_b, if_pos (by decide), c_l104 F hz2 _ hF]
theorem c_l6 (F : Nat) {rs ts : Nat → Int32} {rm tm : Nat → Nat → Int32} {psize pclause : Int32} {peff pkin psig psee : Nat → Int32} {cdee : Int32} {cnow : Int64} {kdee : Nat → Int32} {cv : Nat → Int32} (hcv : ∀ k, k < 10 → fX5_count F rs ts psize pclause pkin cdee cnow kdee (Int32.ofNat k) = some (cv k)) (h : Int64) (hF : 1000000 ≤ F) : fX5_digest_l6 F rs rm ts tm psize pclause peff pkin psig psee cdee cnow kdee F h (0 : Int32) = bd1 (fX5_digestParty F psize peff pkin psig psee cnow kdee (hI cv 10 h)) fun r33 => fX5_digest_l39 F rs rm ts tm psize pclause peff pkin psig psee cdee cnow kdee F r33 (0 : Int32) := by
  refine loop_up (fun fu (a : Int64 × Int32) => fX5_digest_l6 F rs rm ts tm psize pclause peff pkin psig psee cdee cnow kdee fu a.1 a.2) 10 (fun k => (hI cv k h, Int32.ofNat k)) _ ?_ ?_ F (by omega)
  · intro fu k hk
    have f0 : ((9 : Int32) < Int32.ofNat k) = False := by
      rw [show (9 : Int32) = Int32.ofNat 9 from rfl, p_lt (by omega) (by omega)]
      exact eq_false (by omega)
    dsimp only
    rw [fX5_digest_l6, fX5_digest_l6_b, if_neg (of_eq_false f0), hcv k hk, bd1_mk, p_s, hI]
  · intro fu
    dsimp only
    rw [fX5_digest_l6, fX5_digest_l6_b, if_pos (by decide)]
theorem m_l71 (F : Nat) (self : Int64 → Int32 → Option Int64) {mguests mclause mdeeds : Int32} {mrowSizes mrows mtextSizes mtexts mdoes mkinds msees mnow mkeeps mkept : Nat → Int32} {i : Nat} {tv : Nat → Int32} (htv : ∀ k, k < 5 → fX6_guestOf F mguests mkinds msees mnow (Int32.ofNat i) (Int32.ofNat k) = some (tv k)) (h : Int64) (hF : 1000000 ≤ F) : fX6_digest_l71 F self mguests mclause mdeeds mrowSizes mrows mtextSizes mtexts mdoes mkinds msees mnow mkeeps mkept (Int32.ofNat i) F h (0 : Int32) = self (hI tv 5 h) (Int32.ofNat (i + 1)) := by
  refine loop_up (fun fu (a : Int64 × Int32) => fX6_digest_l71 F self mguests mclause mdeeds mrowSizes mrows mtextSizes mtexts mdoes mkinds msees mnow mkeeps mkept (Int32.ofNat i) fu a.1 a.2) 5 (fun k => (hI tv k h, Int32.ofNat k)) _ ?_ ?_ F (by omega)
  · intro fu k hk
    have f0 : ((5 : Int32) ≤ Int32.ofNat k) = False := by
      rw [show (5 : Int32) = Int32.ofNat 5 from rfl, p_le (by omega) (by omega)]
      exact p_nle hk
    dsimp only
    rw [fX6_digest_l71, fX6_digest_l71_b, if_neg (of_eq_false f0), htv k hk, bd1_mk, p_s, hI]
  · intro fu
    dsimp only
    rw [fX6_digest_l71, fX6_digest_l71_b, if_pos (by decide), p_s]
theorem m_l176 (F : Nat) (self : Int64 → Int32 → Option Int64) {mguests mclause mdeeds : Int32} {mrowSizes mrows mtextSizes mtexts mdoes mkinds msees mnow mkeeps mkept : Nat → Int32} {r : Nat} (hr : r < 6) (hz : okz 40 (mrowSizes r)) (h : Int64) (hF : 1000000 ≤ F) : fX6_digest_l176 F self mguests mclause mdeeds mrowSizes mrows mtextSizes mtexts mdoes mkinds msees mnow mkeeps mkept (Int32.ofNat r) F h (0 : Int32) = self (hI (fun i => mrows (40 * r + i)) (mrowSizes r).toNatClampNeg h) (Int32.ofNat (r + 1)) := by
  have hsz := okz_sz (by decide) hz
  refine loop_up (fun fu (a : Int64 × Int32) => fX6_digest_l176 F self mguests mclause mdeeds mrowSizes mrows mtextSizes mtexts mdoes mkinds msees mnow mkeeps mkept (Int32.ofNat r) fu a.1 a.2) (mrowSizes r).toNatClampNeg (fun k => (hI (fun i => mrows (40 * r + i)) k h, Int32.ofNat k)) _ ?_ ?_ F (by omega)
  · intro fu k hk
    have f0 : (mrowSizes r ≤ Int32.ofNat k) = False := by
      rw [okz_le (by decide) hz (by omega)]
      exact p_nle hk
    dsimp only
    rw [fX6_digest_l176, fX6_digest_l176_b, p_cl (show r < 2147483648 by omega), if_neg (gx hr (by omega)), if_neg (of_eq_false f0), lin40, p_cl (show 40 * r + k < 2147483648 by omega), if_neg (gx (show 40 * r + k < 240 by omega) (by omega)), p_s, hI]
  · intro fu
    have f0 : mrowSizes r ≤ Int32.ofNat (mrowSizes r).toNatClampNeg := of_eq_true (by
      rw [okz_le (by decide) hz (by omega)]
      exact eq_true (Nat.le_refl _))
    dsimp only
    rw [fX6_digest_l176, fX6_digest_l176_b, p_cl (show r < 2147483648 by omega), if_neg (gx hr (by omega)), if_pos f0, p_s]
theorem m_l243 (F : Nat) (self : Int64 → Int32 → Option Int64) {mguests mclause mdeeds : Int32} {mrowSizes mrows mtextSizes mtexts mdoes mkinds msees mnow mkeeps mkept : Nat → Int32} {r : Nat} (hr : r < 4) (hz : okz 80 (mtextSizes r)) (h : Int64) (hF : 1000000 ≤ F) : fX6_digest_l243 F self mguests mclause mdeeds mrowSizes mrows mtextSizes mtexts mdoes mkinds msees mnow mkeeps mkept (Int32.ofNat r) F h (0 : Int32) = self (hI (fun i => mtexts (80 * r + i)) (mtextSizes r).toNatClampNeg h) (Int32.ofNat (r + 1)) := by
  have hsz := okz_sz (by decide) hz
  refine loop_up (fun fu (a : Int64 × Int32) => fX6_digest_l243 F self mguests mclause mdeeds mrowSizes mrows mtextSizes mtexts mdoes mkinds msees mnow mkeeps mkept (Int32.ofNat r) fu a.1 a.2) (mtextSizes r).toNatClampNeg (fun k => (hI (fun i => mtexts (80 * r + i)) k h, Int32.ofNat k)) _ ?_ ?_ F (by omega)
  · intro fu k hk
    have f0 : (mtextSizes r ≤ Int32.ofNat k) = False := by
      rw [okz_le (by decide) hz (by omega)]
      exact p_nle hk
    dsimp only
    rw [fX6_digest_l243, fX6_digest_l243_b, p_cl (show r < 2147483648 by omega), if_neg (gx hr (by omega)), if_neg (of_eq_false f0), lin80, p_cl (show 80 * r + k < 2147483648 by omega), if_neg (gx (show 80 * r + k < 320 by omega) (by omega)), p_s, hI]
  · intro fu
    have f0 : mtextSizes r ≤ Int32.ofNat (mtextSizes r).toNatClampNeg := of_eq_true (by
      rw [okz_le (by decide) hz (by omega)]
      exact eq_true (Nat.le_refl _))
    dsimp only
    rw [fX6_digest_l243, fX6_digest_l243_b, p_cl (show r < 2147483648 by omega), if_neg (gx hr (by omega)), if_pos f0, p_s]
theorem m_l221 (F : Nat) {mguests mclause mdeeds : Int32} {mrowSizes mrows mtextSizes mtexts mdoes mkinds msees mnow mkeeps mkept : Nat → Int32} (hz : ∀ r, r < 4 → okz 80 (mtextSizes r)) (h : Int64) (hF : 1000000 ≤ F) : fX6_digest_l221 F mguests mclause mdeeds mrowSizes mrows mtextSizes mtexts mdoes mkinds msees mnow mkeeps mkept F h (0 : Int32) = some (hR (fun r i => mtexts (80 * r + i)) mtextSizes 4 h) := by
  refine loop_up (fun fu (a : Int64 × Int32) => fX6_digest_l221 F mguests mclause mdeeds mrowSizes mrows mtextSizes mtexts mdoes mkinds msees mnow mkeeps mkept fu a.1 a.2) 4 (fun k => (hR (fun r i => mtexts (80 * r + i)) mtextSizes k h, Int32.ofNat k)) _ ?_ ?_ F (by omega)
  · intro fu k hk
    have f0 : ((4 : Int32) ≤ Int32.ofNat k) = False := by
      rw [show (4 : Int32) = Int32.ofNat 4 from rfl, p_le (by omega) (by omega)]
      exact p_nle hk
    dsimp only
    rw [fX6_digest_l221, fX6_digest_l221_b, if_neg (of_eq_false f0), p_cl (show k < 2147483648 by omega), if_neg (gx hk (by omega)), m_l243 F _ hk (hz k hk) _ hF, hR]
  · intro fu
    dsimp only
    rw [fX6_digest_l221, fX6_digest_l221_b, if_pos (by decide)]
theorem m_l153 (F : Nat) {mguests mclause mdeeds : Int32} {mrowSizes mrows mtextSizes mtexts mdoes mkinds msees mnow mkeeps mkept : Nat → Int32} (hz : ∀ r, r < 6 → okz 40 (mrowSizes r)) (hz2 : ∀ r, r < 4 → okz 80 (mtextSizes r)) (h : Int64) (hF : 1000000 ≤ F) : fX6_digest_l153 F mguests mclause mdeeds mrowSizes mrows mtextSizes mtexts mdoes mkinds msees mnow mkeeps mkept F h (0 : Int32) = some (hR (fun r i => mtexts (80 * r + i)) mtextSizes 4 (hR (fun r i => mrows (40 * r + i)) mrowSizes 6 h)) := by
  refine loop_up (fun fu (a : Int64 × Int32) => fX6_digest_l153 F mguests mclause mdeeds mrowSizes mrows mtextSizes mtexts mdoes mkinds msees mnow mkeeps mkept fu a.1 a.2) 6 (fun k => (hR (fun r i => mrows (40 * r + i)) mrowSizes k h, Int32.ofNat k)) _ ?_ ?_ F (by omega)
  · intro fu k hk
    have f0 : ((6 : Int32) ≤ Int32.ofNat k) = False := by
      rw [show (6 : Int32) = Int32.ofNat 6 from rfl, p_le (by omega) (by omega)]
      exact p_nle hk
    dsimp only
    rw [fX6_digest_l153, fX6_digest_l153_b, if_neg (of_eq_false f0), p_cl (show k < 2147483648 by omega), if_neg (gx hk (by omega)), m_l176 F _ hk (hz k hk) _ hF, hR]
  · intro fu
    dsimp only
    rw [fX6_digest_l153, fX6_digest_l153_b, if_pos (by decide), m_l221 F hz2 _ hF]
theorem m_l106 (F : Nat) {mguests mclause mdeeds : Int32} {mrowSizes mrows mtextSizes mtexts mdoes mkinds msees mnow mkeeps mkept : Nat → Int32} (hz : ∀ r, r < 6 → okz 40 (mrowSizes r)) (hz2 : ∀ r, r < 4 → okz 80 (mtextSizes r)) (h : Int64) (hF : 1000000 ≤ F) : fX6_digest_l106 F mguests mclause mdeeds mrowSizes mrows mtextSizes mtexts mdoes mkinds msees mnow mkeeps mkept F h (0 : Int32) = some (hR (fun r i => mtexts (80 * r + i)) mtextSizes 4 (hR (fun r i => mrows (40 * r + i)) mrowSizes 6 (hI (fun k => if mkept k = 0 then (-1 : Int32) else mkeeps (288 * k + 7)) 3 h))) := by
  refine loop_up (fun fu (a : Int64 × Int32) => fX6_digest_l106 F mguests mclause mdeeds mrowSizes mrows mtextSizes mtexts mdoes mkinds msees mnow mkeeps mkept fu a.1 a.2) 3 (fun k => (hI (fun k => if mkept k = 0 then (-1 : Int32) else mkeeps (288 * k + 7)) k h, Int32.ofNat k)) _ ?_ ?_ F (by omega)
  · intro fu k hk
    have f0 : ((3 : Int32) ≤ Int32.ofNat k) = False := by
      rw [show (3 : Int32) = Int32.ofNat 3 from rfl, p_le (by omega) (by omega)]
      exact p_nle hk
    have e7 : (288 : Int32) * Int32.ofNat k + (7 : Int32) = Int32.ofNat (288 * k + 7) := by
      rw [show (288 : Int32) = Int32.ofNat 288 from rfl, show (7 : Int32) = Int32.ofNat 7 from rfl, p_mul, p_add]
    dsimp only
    rw [fX6_digest_l106, fX6_digest_l106_b, if_neg (of_eq_false f0), p_cl (show k < 2147483648 by omega), if_neg (gx hk (by omega)), e7, p_cl (show 288 * k + 7 < 2147483648 by omega), if_neg (gx (show 288 * k + 7 < 864 by omega) (by omega)), p_s, hI]
    by_cases hq : mkept k = 0
    · rw [if_pos hq, if_pos hq]
    · rw [if_neg hq, if_neg hq]
  · intro fu
    dsimp only
    rw [fX6_digest_l106, fX6_digest_l106_b, if_pos (by decide), m_l153 F hz hz2 _ hF]
theorem m_l60 (F : Nat) {mclause mdeeds : Int32} {mrowSizes mrows mtextSizes mtexts mdoes mkinds msees mnow mkeeps mkept : Nat → Int32} {n : Nat} (hn : n ≤ 6) {tv : Nat → Nat → Int32} (htv : ∀ i, i < n → ∀ k, k < 5 → fX6_guestOf F (Int32.ofNat n) mkinds msees mnow (Int32.ofNat i) (Int32.ofNat k) = some (tv i k)) (hz : ∀ r, r < 6 → okz 40 (mrowSizes r)) (hz2 : ∀ r, r < 4 → okz 80 (mtextSizes r)) (h : Int64) (hF : 1000000 ≤ F) : fX6_digest_l60 F (Int32.ofNat n) mclause mdeeds mrowSizes mrows mtextSizes mtexts mdoes mkinds msees mnow mkeeps mkept F h (0 : Int32) = some (hR (fun r i => mtexts (80 * r + i)) mtextSizes 4 (hR (fun r i => mrows (40 * r + i)) mrowSizes 6 (hI (fun k => if mkept k = 0 then (-1 : Int32) else mkeeps (288 * k + 7)) 3 (hG tv n h)))) := by
  refine loop_up (fun fu (a : Int64 × Int32) => fX6_digest_l60 F (Int32.ofNat n) mclause mdeeds mrowSizes mrows mtextSizes mtexts mdoes mkinds msees mnow mkeeps mkept fu a.1 a.2) n (fun k => (hG tv k h, Int32.ofNat k)) _ ?_ ?_ F (by omega)
  · intro fu k hk
    have f0 : (Int32.ofNat n ≤ Int32.ofNat k) = False := by rw [p_le (by omega) (by omega)]; exact p_nle hk
    dsimp only
    rw [fX6_digest_l60, fX6_digest_l60_b, if_neg (of_eq_false f0), m_l71 F _ (htv k hk) _ hF, hG]
  · intro fu
    dsimp only
    rw [fX6_digest_l60, fX6_digest_l60_b, if_pos (Int32.le_refl _), m_l106 F hz hz2 _ hF]
theorem m_l33 (F : Nat) {mclause mdeeds : Int32} {mrowSizes mrows mtextSizes mtexts mdoes mkinds msees mnow mkeeps mkept : Nat → Int32} {n : Nat} (hn : n ≤ 6) {tv : Nat → Nat → Int32} (htv : ∀ i, i < n → ∀ k, k < 5 → fX6_guestOf F (Int32.ofNat n) mkinds msees mnow (Int32.ofNat i) (Int32.ofNat k) = some (tv i k)) (hz : ∀ r, r < 6 → okz 40 (mrowSizes r)) (hz2 : ∀ r, r < 4 → okz 80 (mtextSizes r)) (h : Int64) (hF : 1000000 ≤ F) : fX6_digest_l33 F (Int32.ofNat n) mclause mdeeds mrowSizes mrows mtextSizes mtexts mdoes mkinds msees mnow mkeeps mkept F h (0 : Int32) = some (hR (fun r i => mtexts (80 * r + i)) mtextSizes 4 (hR (fun r i => mrows (40 * r + i)) mrowSizes 6 (hI (fun k => if mkept k = 0 then (-1 : Int32) else mkeeps (288 * k + 7)) 3 (hG tv n (hI mdoes 4 h))))) := by
  refine loop_up (fun fu (a : Int64 × Int32) => fX6_digest_l33 F (Int32.ofNat n) mclause mdeeds mrowSizes mrows mtextSizes mtexts mdoes mkinds msees mnow mkeeps mkept fu a.1 a.2) 4 (fun k => (hI mdoes k h, Int32.ofNat k)) _ ?_ ?_ F (by omega)
  · intro fu k hk
    dsimp only
    rw [fX6_digest_l33, fX6_digest_l33_b, if_neg (of_eq_false (f4_lt hk)), p_cl (show k < 2147483648 by omega), if_neg (gx hk (by omega)), p_s, hI]
  · intro fu
    dsimp only
    rw [fX6_digest_l33, fX6_digest_l33_b, if_pos (by decide), m_l60 F hn htv hz hz2 _ hF]
theorem m_l6 (F : Nat) {mclause mdeeds : Int32} {mrowSizes mrows mtextSizes mtexts mdoes mkinds msees mnow mkeeps mkept : Nat → Int32} {n : Nat} (hn : n ≤ 6) {tv : Nat → Nat → Int32} (htv : ∀ i, i < n → ∀ k, k < 5 → fX6_guestOf F (Int32.ofNat n) mkinds msees mnow (Int32.ofNat i) (Int32.ofNat k) = some (tv i k)) (hz : ∀ r, r < 6 → okz 40 (mrowSizes r)) (hz2 : ∀ r, r < 4 → okz 80 (mtextSizes r)) {cv : Nat → Int32} (hcv : ∀ k, k < 10 → fX6_counted F (Int32.ofNat n) mclause mdeeds mrowSizes mtextSizes mkinds mnow mkept (Int32.ofNat k) = some (cv k)) (h : Int64) (hF : 1000000 ≤ F) : fX6_digest_l6 F (Int32.ofNat n) mclause mdeeds mrowSizes mrows mtextSizes mtexts mdoes mkinds msees mnow mkeeps mkept F h (0 : Int32) = some (hR (fun r i => mtexts (80 * r + i)) mtextSizes 4 (hR (fun r i => mrows (40 * r + i)) mrowSizes 6 (hI (fun k => if mkept k = 0 then (-1 : Int32) else mkeeps (288 * k + 7)) 3 (hG tv n (hI mdoes 4 (hI cv 10 h)))))) := by
  refine loop_up (fun fu (a : Int64 × Int32) => fX6_digest_l6 F (Int32.ofNat n) mclause mdeeds mrowSizes mrows mtextSizes mtexts mdoes mkinds msees mnow mkeeps mkept fu a.1 a.2) 10 (fun k => (hI cv k h, Int32.ofNat k)) _ ?_ ?_ F (by omega)
  · intro fu k hk
    have f0 : ((10 : Int32) ≤ Int32.ofNat k) = False := by
      rw [show (10 : Int32) = Int32.ofNat 10 from rfl, p_le (by omega) (by omega)]
      exact p_nle hk
    dsimp only
    rw [fX6_digest_l6, fX6_digest_l6_b, if_neg (of_eq_false f0), hcv k hk, bd1_mk, p_s, hI]
  · intro fu
    dsimp only
    rw [fX6_digest_l6, fX6_digest_l6_b, if_pos (by decide), m_l33 F hn htv hz hz2 _ hF]
theorem sp_digest : SP_digest := by
  intro F rs rm ts tm rdue rtun rsee rbeg psize pclause peff pkin pgri psig psee qsize qclause qeff qkin qgri qsig qsee cdee cnow cahe kdee know kahe fc lf told up lo mguests mclause mdeeds masked mupper mlower mfinding mreadGuests misSight mat mrowSizes mrows mtextSizes mtexts mdoes mkinds msees mnow mbefore mkeeps mkept mfindings mread maside msteps mtried mbest hF hR
  obtain ⟨n, c, E, K, S, hP, hC, hKp, hRo, hTe, rfl, rfl, rfl, rfl, hfc⟩ := hR
  obtain ⟨d, hd, rfl, rfl, ⟨s, hs, rfl, hm⟩, hah⟩ := id hC
  have hcnt : ∀ k, k < 10 → fX5_count F rs ts psize pclause pkin (Int32.ofNat d) (enc s) kdee (Int32.ofNat k) = some ((fX6_counted F mguests mclause (Int32.ofNat d) mrowSizes mtextSizes mkinds mnow mkept (Int32.ofNat k)).getD 0) ∧ fX6_counted F mguests mclause (Int32.ofNat d) mrowSizes mtextSizes mkinds mnow mkept (Int32.ofNat k) = some ((fX6_counted F mguests mclause (Int32.ofNat d) mrowSizes mtextSizes mkinds mnow mkept (Int32.ofNat k)).getD 0) := fun k hk => by
    obtain ⟨v, v1, v2⟩ := count_c F (d := d) hP hs hm hKp hRo hTe hF hk
    rw [v1, v2]
    exact ⟨rfl, rfl⟩
  have htel : ∀ i, i < n → ∀ k, k < 5 → fX5_guestTells F pkin psig psee (enc s) (Int32.ofNat i) (Int32.ofNat k) = some ((fX6_guestOf F mguests mkinds msees mnow (Int32.ofNat i) (Int32.ofNat k)).getD 0) ∧ fX6_guestOf F mguests mkinds msees mnow (Int32.ofNat i) (Int32.ofNat k) = some ((fX6_guestOf F mguests mkinds msees mnow (Int32.ofNat i) (Int32.ofNat k)).getD 0) := fun i hi k hk => by
    obtain ⟨v, v1, v2⟩ := tells_c F hP hs hm hF hi hk
    rw [v1, v2]
    exact ⟨rfl, rfl⟩
  obtain ⟨hn, rfl, rfl, hc, rfl, rfl, hE, hK, hS, hSn⟩ := id hP
  refine ⟨_, ?_, m_l6 F hn (fun i hi k hk => (htel i hi k hk).2) (fun r hr => by rw [(okz_row hRo hr).2]; exact (okz_row hRo hr).1) (fun r hr => by rw [(okz_row hTe hr).2]; exact (okz_row hTe hr).1) (fun k hk => (hcnt k hk).2) _ hF, n, c, E, K, S, hP, hC, hKp, hRo, hTe, rfl, rfl, rfl, rfl, hfc⟩
  unfold fX5_digest
  rw [c_l6 F (fun k hk => (hcnt k hk).1) _ hF]
  unfold fX5_digestParty
  rw [c_l5 F hn (fun i hi k hk => (htel i hi k hk).1) _ hF, bd1_mk, c_l39 F (fun r hr => (okz_row hRo hr).1) (fun r hr => (okz_row hTe hr).1) _ hF]
  refine congrArg some ?_
  have e1 : ∀ h, hI peff 4 h = hI mdoes 4 h := fun h => hI_congr 4 h fun i hi => ((hE i hi).2.2.1).trans ((hE i hi).2.2.2).symm
  have e2 : ∀ h, hI kdee 3 h = hI (fun k => if mkept k = 0 then (-1 : Int32) else mkeeps (288 * k + 7)) 3 h := fun h => hI_congr 3 h fun k hk => by
    rcases hKp k hk with ⟨g1, g2⟩ | ⟨g1, d', g2, g3, g4, -⟩
    · rw [g1, if_pos g2]
    · rw [g3, if_neg (by rw [g1]; decide), g4]
  have e3 : ∀ h, hR rm rs 6 h = hR (fun r i => mrows (40 * r + i)) mrowSizes 6 h := fun h => hR_congr 6 h fun r hr => by
    refine ⟨(okz_row hRo hr).2.symm, fun i hi => ?_⟩
    rcases rrow_get hRo hr with ⟨g1, g2⟩ | ⟨m, hm, g1, g2, g3⟩
    · rw [g2] at hi
      exact absurd hi (Nat.not_lt_zero i)
    · rw [g2, p_cl (by omega)] at hi
      exact g3 i hi
  have e4 : ∀ h, hR tm ts 4 h = hR (fun r i => mtexts (80 * r + i)) mtextSizes 4 h := fun h => hR_congr 4 h fun r hr => by
    refine ⟨(okz_row hTe hr).2.symm, fun i hi => ?_⟩
    rcases rrow_get hTe hr with ⟨g1, g2⟩ | ⟨m, hm, g1, g2, g3⟩
    · rw [g2] at hi
      exact absurd hi (Nat.not_lt_zero i)
    · rw [g2, p_cl (by omega)] at hi
      exact g3 i hi
  rw [e1, e2, e3, e4]
