theorem lv_0 {c : Nat} {E : Nat → Int} {K : Nat → Nat} {S : Nat → Nat → Bool} {s : Nat → Option Nat} (k : Nat) : lv c E K S 0 s k = inP s := rfl
theorem PC.tune {n c : Nat} {E : Nat → Int} {K : Nat → Nat} {S : Nat → Nat → Bool} {size clause : Int32} {eff kin see : Nat → Int32} (hp : PC n c E K S size clause eff kin see) {s : Nat → Option Nat} (hs : HallOk n s) {t : Nat} (ht : t < 4) : HallOk n (tuneS c E K S t s) := by
  obtain ⟨hn, -, hc, -, hE, hk, -, -⟩ := hp
  exact tuneS_ok hs ht ⟨(hE t ht).1, (hE t ht).2.1⟩ fun i hi => (hk i hi).1
theorem c_stayB (F : Nat) {n c : Nat} {E : Nat → Int} {K : Nat → Nat} {S : Nat → Nat → Bool} {size clause : Int32} {eff kin see : Nat → Int32} (hp : PC n c E K S size clause eff kin see) {s : Nat → Option Nat} (hs : HallOk n s) (hF : 1000000 ≤ F) {t : Nat} (ht : t < 4) {m : Nat} {x : Int32} {rec : Int64 → Int32 → Option Int64} (hrec : rec (enc (tuneS c E K S t s)) x = some (Int64.ofNat (cntS c E K S m (tuneS c E K S t s)))) : fX3_stayingBehind_b F size clause eff kin see rec (enc s) (Int32.ofNat t) x = some (Int64.ofNat (cntB c E K S m s t)) := by
  unfold fX3_stayingBehind_b
  rw [c_afterTune F hp hs (by omega) ht, bd1_mk, c_insiders F (hp.tune hs ht).hb, bd1_mk, c_insiders F hs.hb, bd1_mk, hrec, bd1_mk, cntB_eq ht]
  by_cases h : inP (tuneS c E K S t s) = inP s
  · rw [if_pos (by rw [inP_eq]; exact h), if_pos h]
  · rw [if_neg (by rw [inP_eq]; exact h), if_neg h]
    rfl
theorem c_staying (F : Nat) {n c : Nat} {E : Nat → Int} {K : Nat → Nat} {S : Nat → Nat → Bool} {size clause : Int32} {eff kin see : Nat → Int32} (hp : PC n c E K S size clause eff kin see) (hF : 1000000 ≤ F) : ∀ (m d : Nat) (s : Nat → Option Nat), m < d → m ≤ 6 → HallOk n s → fX3_staying F size clause eff kin see d (enc s) (Int32.ofNat m) = some (Int64.ofNat (cntS c E K S m s)) := by
  intro m
  induction m with
  | zero =>
    intro d s hd _ hs
    obtain ⟨d, rfl⟩ : ∃ e, d = e + 1 := ⟨d - 1, by omega⟩
    rw [fX3_staying, fX3_staying_b, if_neg (by decide)]
    have : cntS c E K S 0 s = 1 := by
      unfold cntS
      rw [show 4 ^ 0 = 0 + 1 from rfl, sumN, lv_0, if_pos rfl]
      rfl
    rw [this]
    rfl
  | succ m ih =>
    intro d s hd h6 hs
    obtain ⟨d, rfl⟩ : ∃ e, d = e + 1 := ⟨d - 1, by omega⟩
    rw [fX3_staying, fX3_staying_b, if_pos (z_lt (by omega)), cntS_s]
    refine loop_up (fun fu (a : Int64 × Int32) => fX3_staying_l12 F (fX3_staying F size clause eff kin see d) size clause eff kin see (enc s) (Int32.ofNat (m + 1)) fu a.1 a.2) 4 (fun k => (Int64.ofNat (sumN (cntB c E K S m s) k), Int32.ofNat k)) _ ?_ ?_ F (by omega)
    · intro fu k hk
      dsimp only
      rw [fX3_staying_l12, fX3_staying_l12_b, if_neg (of_eq_false (f4_lt hk)), sm1 m _ rfl, c_stayB F hp hs hF hk (m := m) (ih d _ (by omega) (by omega) (hp.tune hs hk)), bd1_mk, q_add, p_s]
      rfl
    · intro fu
      dsimp only
      rw [fX3_staying_l12, fX3_staying_l12_b, if_pos (by decide)]
def lvS (c : Nat) (E : Nat → Int) (K : Nat → Nat) (S : Nat → Nat → Bool) (n : Nat) (s : Nat → Option Nat) : Nat := sumN (lv c E K S n s) (4 ^ n)
theorem lvS_s {c : Nat} {E : Nat → Int} {K : Nat → Nat} {S : Nat → Nat → Bool} {n : Nat} {s : Nat → Option Nat} : lvS c E K S (n + 1) s = sumN (fun t => lvS c E K S n (tuneS c E K S t s)) 4 := by
  unfold lvS
  rw [four, sumN_blocks]
  exact sumN_congr 4 fun t ht => sumN_congr _ fun k hk => lv_s ht hk
theorem c_leftByAll (F : Nat) {n c : Nat} {E : Nat → Int} {K : Nat → Nat} {S : Nat → Nat → Bool} {size clause : Int32} {eff kin see : Nat → Int32} (hp : PC n c E K S size clause eff kin see) (hF : 1000000 ≤ F) : ∀ (m d : Nat) (s : Nat → Option Nat), m < d → m ≤ 6 → HallOk n s → fX3_leftByAll F size clause eff kin see d (enc s) (Int32.ofNat m) = some (Int64.ofNat (lvS c E K S m s)) := by
  intro m
  induction m with
  | zero =>
    intro d s hd _ hs
    obtain ⟨d, rfl⟩ : ∃ e, d = e + 1 := ⟨d - 1, by omega⟩
    have hpl := pop_le (fun i => (s i).isSome)
    rw [fX3_leftByAll, fX3_leftByAll_b, if_neg (by decide), c_many_in F hs.hb, bd1_mk, q_ofNat _ (by omega)]
    have : lvS c E K S 0 s = inP s := by
      unfold lvS
      rw [show 4 ^ 0 = 0 + 1 from rfl, sumN, lv_0]
      exact Nat.zero_add _
    rw [this]
    rfl
  | succ m ih =>
    intro d s hd h6 hs
    obtain ⟨d, rfl⟩ : ∃ e, d = e + 1 := ⟨d - 1, by omega⟩
    rw [fX3_leftByAll, fX3_leftByAll_b, if_pos (z_lt (by omega)), lvS_s]
    refine loop_up (fun fu (a : Int64 × Int32) => fX3_leftByAll_l16 F (fX3_leftByAll F size clause eff kin see d) size clause eff kin see (enc s) (Int32.ofNat (m + 1)) fu a.1 a.2) 4 (fun k => (Int64.ofNat (sumN (fun t => lvS c E K S m (tuneS c E K S t s)) k), Int32.ofNat k)) _ ?_ ?_ F (by omega)
    · intro fu k hk
      dsimp only
      rw [fX3_leftByAll_l16, fX3_leftByAll_l16_b, if_neg (of_eq_false (f4_lt hk)), c_afterTune F hp hs (by omega) hk, bd1_mk, sm1 m _ rfl, ih d _ (by omega) (by omega) (hp.tune hs hk), bd1_mk, q_add, p_s]
      rfl
    · intro fu
      dsimp only
      rw [fX3_leftByAll_l16, fX3_leftByAll_l16_b, if_pos (by decide)]
def lvM (c : Nat) (E : Nat → Int) (K : Nat → Nat) (S : Nat → Nat → Bool) (n : Nat) (s : Nat → Option Nat) : Nat := mxN (lv c E K S n s) (4 ^ n)
theorem lvM_le {c : Nat} {E : Nat → Int} {K : Nat → Nat} {S : Nat → Nat → Bool} {n k : Nat} {s : Nat → Option Nat} : mxN (lv c E K S n s) k ≤ inP s := mxN_le _ fun _ _ => lv_le
theorem lvM_block {c : Nat} {E : Nat → Int} {K : Nat → Nat} {S : Nat → Nat → Bool} {n t : Nat} {s : Nat → Option Nat} (ht : t < 4) : mxN (lv c E K S (n + 1) s) ((t + 1) * 4 ^ n) = max (mxN (lv c E K S (n + 1) s) (t * 4 ^ n)) (lvM c E K S n (tuneS c E K S t s)) := by
  rw [Nat.succ_mul, mxN_add]
  refine congrArg _ (mxN_congr _ fun k hk => lv_s ht hk)
theorem c_mostLeft (F : Nat) {n c : Nat} {E : Nat → Int} {K : Nat → Nat} {S : Nat → Nat → Bool} {size clause : Int32} {eff kin see : Nat → Int32} (hp : PC n c E K S size clause eff kin see) (hF : 1000000 ≤ F) : ∀ (m d : Nat) (s : Nat → Option Nat), m < d → m ≤ 6 → HallOk n s → fX3_mostLeft F size clause eff kin see d (enc s) (Int32.ofNat m) = some (Int32.ofNat (lvM c E K S m s)) := by
  intro m
  induction m with
  | zero =>
    intro d s hd _ hs
    obtain ⟨d, rfl⟩ : ∃ e, d = e + 1 := ⟨d - 1, by omega⟩
    rw [fX3_mostLeft, fX3_mostLeft_b, if_neg (by decide), c_many_in F hs.hb, bd1_mk]
    have : lvM c E K S 0 s = inP s := by
      unfold lvM
      rw [show 4 ^ 0 = 0 + 1 from rfl, mxN, lv_0]
      exact Nat.max_eq_right (Nat.zero_le _)
    rw [this]
    rfl
  | succ m ih =>
    intro d s hd h6 hs
    obtain ⟨d, rfl⟩ : ∃ e, d = e + 1 := ⟨d - 1, by omega⟩
    have hpl : inP s ≤ 6 := pop_le _
    rw [fX3_mostLeft, fX3_mostLeft_b, if_pos (z_lt (by omega))]
    refine loop_inv (fun fu (a : Int32 × Int32) => fX3_mostLeft_l15 F (fX3_mostLeft F size clause eff kin see d) size clause eff kin see (enc s) (Int32.ofNat (m + 1)) fu a.1 a.2) 4 (fun k a => a.1 = Int32.ofNat (mxN (lv c E K S (m + 1) s) (k * 4 ^ m)) ∧ a.2 = Int32.ofNat k) (fun o => o = some (Int32.ofNat (lvM c E K S (m + 1) s))) ?_ ?_ F (0, 0) (by omega) ⟨by rw [Nat.zero_mul]; rfl, rfl⟩
    · rintro fu k ⟨x4, x5⟩ hk ⟨e1, e2⟩
      dsimp only at e1 e2
      subst e1; subst e2
      have l1 := lvM_le (c := c) (E := E) (K := K) (S := S) (n := m + 1) (k := k * 4 ^ m) (s := s)
      have hm6 : lvM c E K S m (tuneS c E K S k s) ≤ 6 := Nat.le_trans lvM_le (pop_le _)
      dsimp only
      rw [fX3_mostLeft_l15, fX3_mostLeft_l15_b, if_neg (of_eq_false (f4_lt hk)), c_many_in F hs.hb, bd1_mk, c_afterTune F hp hs (by omega) hk, bd1_mk, sm1 m _ rfl, ih d _ (by omega) (by omega) (hp.tune hs hk), bd1_mk, p_s]
      have w1 : (Int32.ofNat (pop fun i => (s i).isSome) ≤ Int32.ofNat (mxN (lv c E K S (m + 1) s) (k * 4 ^ m))) = (inP s ≤ mxN (lv c E K S (m + 1) s) (k * 4 ^ m)) := p_le (show inP s < 2147483648 by omega) (by omega)
      by_cases h : inP s ≤ mxN (lv c E K S (m + 1) s) (k * 4 ^ m)
      · rw [if_pos (by rw [w1]; exact h)]
        refine Or.inr ?_
        have l2 := mxN_mono (f := lv c E K S (m + 1) s) (show k * 4 ^ m ≤ 4 ^ (m + 1) by rw [four]; exact Nat.mul_le_mul_right _ (by omega))
        have l3 := lvM_le (c := c) (E := E) (K := K) (S := S) (n := m + 1) (k := 4 ^ (m + 1)) (s := s)
        have : lvM c E K S (m + 1) s = mxN (lv c E K S (m + 1) s) (k * 4 ^ m) := by
          unfold lvM
          omega
        rw [this]
      · rw [if_neg (by rw [w1]; exact h)]
        refine Or.inl ⟨(Int32.ofNat (mxN (lv c E K S (m + 1) s) ((k + 1) * 4 ^ m)), Int32.ofNat (k + 1)), ⟨rfl, rfl⟩, ?_⟩
        rw [lvM_block hk]
        have w2 : (Int32.ofNat (mxN (lv c E K S (m + 1) s) (k * 4 ^ m)) < Int32.ofNat (lvM c E K S m (tuneS c E K S k s))) = (mxN (lv c E K S (m + 1) s) (k * 4 ^ m) < lvM c E K S m (tuneS c E K S k s)) := p_lt (by omega) (by omega)
        by_cases h2 : mxN (lv c E K S (m + 1) s) (k * 4 ^ m) < lvM c E K S m (tuneS c E K S k s)
        · rw [if_pos (by rw [w2]; exact h2), Nat.max_eq_right (by omega)]
        · rw [if_neg (by rw [w2]; exact h2), Nat.max_eq_left (by omega)]
    · rintro fu ⟨x4, x5⟩ ⟨e1, e2⟩
      dsimp only at e1 e2
      subst e1; subst e2
      dsimp only
      rw [fX3_mostLeft_l15, fX3_mostLeft_l15_b, if_pos (by decide)]
      unfold lvM
      rw [four]
theorem fstO_pre {p : Nat → Bool} {m k x : Nat} (h : fstO p m = some x) (hk : m ≤ k) : fstO p k = some x := by
  obtain ⟨a, b, d⟩ := (fstO_some m x).mp h
  exact (fstO_some k x).mpr ⟨by omega, b, d⟩
theorem fstO_lt {p : Nat → Bool} {m x : Nat} (h : fstO p m = some x) : x < m := ((fstO_some m x).mp h).1
theorem bW_ne {o : Option Nat} (h : ∀ b, o = some b → b < 2147483648) : (bW o = (-9 : Int32)) = (o = none) := by
  cases o with
  | none => exact propext ⟨fun _ => rfl, fun _ => rfl⟩
  | some b =>
    refine propext ⟨fun q => ?_, fun q => by cases q⟩
    have := congrArg Int32.toInt (show Int32.ofNat b = (-9 : Int32) from q)
    rw [p_ti (h b rfl), show ((-9 : Int32)).toInt = -9 from by decide] at this
    omega
theorem c_firstLeaving (F : Nat) {n c : Nat} {E : Nat → Int} {K : Nat → Nat} {S : Nat → Nat → Bool} {size clause : Int32} {eff kin see : Nat → Int32} (hp : PC n c E K S size clause eff kin see) (hF : 1000000 ≤ F) {w : Nat} (hw : w ≤ 6) : ∀ (m d : Nat) (s : Nat → Option Nat) (code : Nat), m < d → m ≤ 6 → (code + 1) * 4 ^ m ≤ 4096 → HallOk n s → fX3_firstLeaving F size clause eff kin see d (enc s) (Int32.ofNat m) (Int32.ofNat w) (Int32.ofNat code) = some (bW ((fstO (fun k => decide (w ≤ lv c E K S m s k)) (4 ^ m)).map (fun k => code * 4 ^ m + k))) := by
  intro m
  induction m with
  | zero =>
    intro d s code hd _ hcode hs
    obtain ⟨d, rfl⟩ : ∃ e, d = e + 1 := ⟨d - 1, by omega⟩
    have hpl := pop_le (fun i => (s i).isSome)
    rw [fX3_firstLeaving, fX3_firstLeaving_b, c_many_in F hs.hb, bd1_mk]
    have w1 : (Int32.ofNat w ≤ Int32.ofNat (pop fun i => (s i).isSome)) = (w ≤ inP s) := p_le (by omega) (by omega)
    rw [show 4 ^ 0 = 0 + 1 from rfl, fstO]
    rw [show fstO (fun k => decide (w ≤ lv c E K S 0 s k)) 0 = none from rfl]
    dsimp only
    rw [lv_0]
    by_cases h : w ≤ inP s
    · rw [if_pos (by rw [w1]; exact h), if_neg (by decide), if_pos (decide_eq_true h)]
      show some (Int32.ofNat code) = some (Int32.ofNat (code * (0 + 1) + 0))
      rw [Nat.zero_add, Nat.mul_one, Nat.add_zero]
    · rw [if_neg (by rw [w1]; exact h), if_neg (by rw [decide_eq_false h]; decide)]
      rfl
  | succ m ih =>
    intro d s code hd h6 hcode hs
    obtain ⟨d, rfl⟩ : ∃ e, d = e + 1 := ⟨d - 1, by omega⟩
    have hpl := pop_le (fun i => (s i).isSome)
    have h4m : 0 < 4 ^ m := Nat.pow_pos (by decide)
    have h44 := four m
    have hcm : (code + 1) * 4 ^ (m + 1) = (4 * code + 4) * 4 ^ m := by
      rw [h44, ← Nat.mul_assoc, Nat.add_mul]
      congr 1
      omega
    rw [fX3_firstLeaving, fX3_firstLeaving_b, c_many_in F hs.hb, bd1_mk]
    have w1 : (Int32.ofNat w ≤ Int32.ofNat (pop fun i => (s i).isSome)) = (w ≤ inP s) := p_le (by omega) (by omega)
    by_cases h : w ≤ inP s
    rotate_left
    · rw [if_neg (by rw [w1]; exact h), (fstO_none _).mpr (fun j _ => decide_eq_false (fun q => h (Nat.le_trans q lv_le)))]
      rfl
    rw [if_pos (by rw [w1]; exact h), if_pos (z_lt (by omega))]
    have hb : ∀ k, k ≤ 4 → ∀ b, (fstO (fun k => decide (w ≤ lv c E K S (m + 1) s k)) (k * 4 ^ m)).map (fun k => code * 4 ^ (m + 1) + k) = some b → b < 2147483648 := by
      intro k hk b hb
      cases e : fstO (fun k => decide (w ≤ lv c E K S (m + 1) s k)) (k * 4 ^ m) with
      | none => rw [e] at hb; cases hb
      | some x =>
        rw [e] at hb
        cases hb
        have := fstO_lt e
        have h1 : k * 4 ^ m ≤ 4 * 4 ^ m := Nat.mul_le_mul_right _ hk
        have h2 : (code + 1) * 4 ^ (m + 1) = code * 4 ^ (m + 1) + 4 ^ (m + 1) := Nat.succ_mul _ _
        show code * 4 ^ (m + 1) + x < 2147483648
        omega
    refine loop_inv (fun fu (a : Int32 × Int32) => fX3_firstLeaving_l26 F (fX3_firstLeaving F size clause eff kin see d) size clause eff kin see (enc s) (Int32.ofNat (m + 1)) (Int32.ofNat w) (Int32.ofNat code) fu a.1 a.2) 4 (fun k a => a.1 = bW ((fstO (fun k => decide (w ≤ lv c E K S (m + 1) s k)) (k * 4 ^ m)).map (fun k => code * 4 ^ (m + 1) + k)) ∧ a.2 = Int32.ofNat k) (fun o => o = some (bW ((fstO (fun k => decide (w ≤ lv c E K S (m + 1) s k)) (4 ^ (m + 1))).map (fun k => code * 4 ^ (m + 1) + k)))) ?_ ?_ F (-9, 0) (by omega) ⟨by rw [Nat.zero_mul]; rfl, rfl⟩
    · rintro fu k ⟨x6, x7⟩ hk ⟨e1, e2⟩
      dsimp only at e1 e2
      subst e1; subst e2
      dsimp only
      rw [fX3_firstLeaving_l26, fX3_firstLeaving_l26_b, if_neg (of_eq_false (f4_lt hk))]
      have hne := bW_ne (hb k (by omega))
      have hcd : Int32.ofNat 4 * Int32.ofNat code + Int32.ofNat k = Int32.ofNat (4 * code + k) := by rw [p_mul, p_add]
      have hck : (4 * code + k + 1) * 4 ^ m ≤ 4096 := Nat.le_trans (Nat.mul_le_mul_right _ (by omega)) (hcm ▸ hcode)
      rw [c_afterTune F hp hs (by omega) hk, bd1_mk, sm1 m _ rfl, show (4 : Int32) = Int32.ofNat 4 from rfl, hcd, ih d _ _ (by omega) (by omega) hck (hp.tune hs hk), bd1_mk, p_s]
      cases e : fstO (fun k => decide (w ≤ lv c E K S (m + 1) s k)) (k * 4 ^ m) with
      | none =>
        rw [if_pos (by rfl)]
        refine Or.inl ⟨(bW ((fstO (fun k => decide (w ≤ lv c E K S (m + 1) s k)) ((k + 1) * 4 ^ m)).map (fun k => code * 4 ^ (m + 1) + k)), Int32.ofNat (k + 1)), ⟨rfl, rfl⟩, ?_⟩
        refine congrArg (fun z => fX3_firstLeaving_l26 F (fX3_firstLeaving F size clause eff kin see d) size clause eff kin see (enc s) (Int32.ofNat (m + 1)) (Int32.ofNat w) (Int32.ofNat code) fu (bW z) (Int32.ofNat (k + 1))) ?_
        rw [show (k + 1) * 4 ^ m = k * 4 ^ m + 4 ^ m from Nat.succ_mul k _, fstO_add, e]
        dsimp only
        rw [fstO_congr (p := fun j => decide (w ≤ lv c E K S (m + 1) s (k * 4 ^ m + j))) (q := fun j => decide (w ≤ lv c E K S m (tuneS c E K S k s) j)) _ (fun j hj => by rw [lv_s hk hj]), Option.map_map]
        refine congrArg (fun f => Option.map f _) ?_
        funext j
        show (4 * code + k) * 4 ^ m + j = code * 4 ^ (m + 1) + (k * 4 ^ m + j)
        rw [h44, Nat.add_mul, Nat.mul_comm 4 code, Nat.mul_assoc, Nat.add_assoc]
      | some x =>
        rw [e] at hne
        rw [if_neg (by rw [hne]; exact fun q => by cases q), fstO_pre e (show k * 4 ^ m ≤ 4 ^ (m + 1) by rw [four]; exact Nat.mul_le_mul_right _ (by omega))]
        exact Or.inr rfl
    · rintro fu ⟨x6, x7⟩ ⟨e1, e2⟩
      dsimp only at e1 e2
      subst e1; subst e2
      dsimp only
      rw [fX3_firstLeaving_l26, fX3_firstLeaving_l26_b, if_pos (by decide), four]
def chB (c : Nat) (E : Nat → Int) (K : Nat → Nat) (S : Nat → Nat → Bool) (n : Nat) (s : Nat → Option Nat) (k : Nat) : Bool := decide (lv c E K S n s k = inP s) && decide (sg (endS c E K S n k s) 6 = 0)
theorem chB_block {c : Nat} {E : Nat → Int} {K : Nat → Nat} {S : Nat → Nat → Bool} {n t : Nat} {s : Nat → Option Nat} (ht : t < 4) : anyN (fun k => chB c E K S (n + 1) s (t * 4 ^ n + k)) (4 ^ n) = if inP (tuneS c E K S t s) = inP s then anyN (chB c E K S n (tuneS c E K S t s)) (4 ^ n) else false := by
  by_cases h : inP (tuneS c E K S t s) = inP s
  · rw [if_pos h]
    refine anyN_congr _ fun k hk => ?_
    unfold chB
    rw [lv_s ht hk, endS_s ht hk, h]
  · rw [if_neg h]
    cases e : anyN (fun k => chB c E K S (n + 1) s (t * 4 ^ n + k)) (4 ^ n)
    · rfl
    · obtain ⟨k, hk, q⟩ := (anyN_iff _).mp e
      unfold chB at q
      rw [Bool.and_eq_true, decide_eq_true_eq, lv_s ht hk] at q
      have h1 := inP_tune (c := c) (E := E) (K := K) (S := S) (t := t) (s := s)
      have h2 := lv_le (c := c) (E := E) (K := K) (S := S) (n := n) (code := k) (s := tuneS c E K S t s)
      have h3 := q.1
      omega
theorem sg_le {n : Nat} {s : Nat → Option Nat} (h : HallOk n s) : ∀ k, sg s k ≤ 20 * k
  | 0 => Nat.le_refl _
  | k + 1 => by
    have h1 := sg_le h k
    have h2 := h.gv20 k
    rw [sg]
    omega
theorem c_canCheer (F : Nat) {n c : Nat} {E : Nat → Int} {K : Nat → Nat} {S : Nat → Nat → Bool} {size clause : Int32} {eff kin see : Nat → Int32} (hp : PC n c E K S size clause eff kin see) (hF : 1000000 ≤ F) : ∀ (m d : Nat) (s : Nat → Option Nat), m < d → m ≤ 6 → HallOk n s → fX3_canCheerAll F size clause eff kin see d (enc s) (Int32.ofNat m) = some (if anyN (chB c E K S m s) (4 ^ m) = true then 1 else 0) := by
  intro m
  induction m with
  | zero =>
    intro d s hd _ hs
    obtain ⟨d, rfl⟩ : ∃ e, d = e + 1 := ⟨d - 1, by omega⟩
    have hsg := sg_le hs 6
    rw [fX3_canCheerAll, fX3_canCheerAll_b, if_neg (by decide), c_sum F hs.hb hF, bd1_mk]
    have : anyN (chB c E K S 0 s) (4 ^ 0) = decide (sg s 6 = 0) := by
      rw [show 4 ^ 0 = 0 + 1 from rfl, anyN]
      unfold chB
      rw [lv_0, decide_eq_true (show inP s = inP s from rfl)]
      rfl
    rw [this]
    by_cases h : sg s 6 = 0
    · rw [if_pos (by rw [p_e0 (by omega)]; exact h), if_pos (decide_eq_true h)]
    · rw [if_neg (by rw [p_e0 (by omega)]; exact h), if_neg (by rw [decide_eq_false h]; decide)]
  | succ m ih =>
    intro d s hd h6 hs
    obtain ⟨d, rfl⟩ : ∃ e, d = e + 1 := ⟨d - 1, by omega⟩
    rw [fX3_canCheerAll, fX3_canCheerAll_b, if_pos (z_lt (by omega))]
    refine loop_inv (fun fu (a : Int32) => fX3_canCheerAll_l20 F (fX3_canCheerAll F size clause eff kin see d) size clause eff kin see (enc s) (Int32.ofNat (m + 1)) fu a) 4 (fun k a => a = Int32.ofNat k ∧ anyN (chB c E K S (m + 1) s) (k * 4 ^ m) = false) (fun o => o = some (if anyN (chB c E K S (m + 1) s) (4 ^ (m + 1)) = true then 1 else 0)) ?_ ?_ F 0 (by omega) ⟨rfl, by rw [Nat.zero_mul]; rfl⟩
    · rintro fu k a hk ⟨rfl, hT⟩
      have hblk : anyN (chB c E K S (m + 1) s) ((k + 1) * 4 ^ m) = if inP (tuneS c E K S k s) = inP s then anyN (chB c E K S m (tuneS c E K S k s)) (4 ^ m) else false := by
        rw [Nat.succ_mul, anyN_add, hT, Bool.false_or]
        exact chB_block hk
      rw [fX3_canCheerAll_l20, fX3_canCheerAll_l20_b, if_neg (of_eq_false (f4_lt hk)), c_afterTune F hp hs (by omega) hk, bd1_mk, c_insiders F (hp.tune hs hk).hb, bd1_mk, c_insiders F hs.hb, bd1_mk, sm1 m _ rfl, ih d _ (by omega) (by omega) (hp.tune hs hk), bd1_mk, p_s]
      by_cases h : inP (tuneS c E K S k s) = inP s
      · rw [if_pos h] at hblk
        rw [if_pos (by rw [inP_eq]; exact h)]
        cases hB : anyN (chB c E K S m (tuneS c E K S k s)) (4 ^ m) with
        | false =>
          rw [hB] at hblk
          rw [if_neg (show ¬ (false = true) by decide), if_pos rfl]
          exact Or.inl ⟨Int32.ofNat (k + 1), ⟨rfl, hblk⟩, rfl⟩
        | true =>
          rw [hB] at hblk
          rw [if_pos (show true = true from rfl), if_neg (by decide)]
          refine Or.inr ?_
          have : anyN (chB c E K S (m + 1) s) (4 ^ (m + 1)) = true := by
            obtain ⟨j, hj, q⟩ := (anyN_iff _).mp hblk
            refine (anyN_iff _).mpr ⟨j, Nat.lt_of_lt_of_le hj ?_, q⟩
            rw [four]
            exact Nat.mul_le_mul_right _ (by omega)
          rw [this]
          rfl
      · rw [if_neg h] at hblk
        rw [if_neg (by rw [inP_eq]; exact h)]
        exact Or.inl ⟨Int32.ofNat (k + 1), ⟨rfl, hblk⟩, rfl⟩
    · rintro fu a ⟨rfl, hT⟩
      rw [← four] at hT
      rw [fX3_canCheerAll_l20, fX3_canCheerAll_l20_b, if_pos (by decide), hT]
      rfl
