theorem w5 {j : Nat} (h : j < 2147483648) : ((5 : Int32) ≤ Int32.ofNat j) = (5 ≤ j) := by rw [show (5 : Int32) = Int32.ofNat 5 from rfl, p_le (by omega) (by omega)]
theorem l34_0 (F : Nat) (mts mtx rd : Nat → Int32) (x1 mat : Int32) : ∀ (d j fu : Nat), 5 - j = d → j ≤ 5 → d < fu → fX6_takesClause_l34 F mts mtx x1 fu 0 (Int32.ofNat j) mat rd = some (0, mat, rd)
  | 0, j, fu, hd, hj, hf => by
    obtain ⟨fu, rfl⟩ : ∃ e, fu = e + 1 := ⟨fu - 1, by omega⟩
    rw [fX6_takesClause_l34, fX6_takesClause_l34_b, if_pos (by rw [w5 (by omega)]; omega)]
  | d + 1, j, fu, hd, hj, hf => by
    obtain ⟨fu, rfl⟩ : ∃ e, fu = e + 1 := ⟨fu - 1, by omega⟩
    rw [fX6_takesClause_l34, fX6_takesClause_l34_b, if_neg (by rw [w5 (by omega)]; omega), if_pos rfl, p_s]
    exact l34_0 F mts mtx rd x1 mat d (j + 1) fu (by omega) (by omega) (by omega)
theorem st_ff : st (fun _ => false) = 0 := by decide
theorem fig_eff : ∀ f, f < 10 → Int32.ofNat f + (-4 : Int32) = Int32.ofInt ((f : Int) - 4) := by decide
theorem fig_eff2 : ∀ f, f < 10 → Int32.ofNat f = Int32.ofInt ((f : Int) - 4 + 4) := by decide
/-- what the reader does behind the clause's figures -/
def behindC (F : Nat) (mts mtx : Nat → Int32) (t : Int32) : Int32 → Int32 → (Nat → Int32) → Option (Int32 × Int32 × Int32 × Int32 × (Nat → Int32)) := fun r22 w22_mat w22_mread => if r22 = 0 then (some (w22_mat, (0 : Int32), (0 : Int32), w22_mat, w22_mread)) else (bd1 (fX6_blanks F w22_mat mts mtx t) fun w35_mat => (fX6_reads_l38 F mts mtx t F (0 : Int32) (0 : Int32) w35_mat w22_mread))
theorem effs (F : Nat) {txt mts mtx : Nat → Int32} {t m : Nat} (ht : t < 4) (hm : m ≤ 80) (hz : mts t = Int32.ofNat m) (htx : ∀ p, p < m → txt p = mtx (80 * t + p)) (hF : 1000000 ≤ F) {c : Nat} (hc : c ≤ 9) : ∀ (d k p fu fu' : Nat), 4 - k = d → k ≤ 4 → p ≤ m → m - p < fu → d < fu' → ∀ (see cl : Int32) (eff kin gri sig sees rd : Nat → Int32) (E : Nat → Int), cl = Int32.ofNat c → rd 0 = Int32.ofNat c → (∀ i, i < k → -4 ≤ E i ∧ E i ≤ 5 ∧ eff i = Int32.ofInt (E i) ∧ rd (1 + i) = Int32.ofInt (E i + 4)) → (∀ i, i < 6 → sig i = 0 ∧ sees i = 0) →
    RES (fX4_faultOf_l22 F txt (Int32.ofNat m) fu (Int32.ofNat p) (if k = 4 then 3 else 2) (Int32.ofNat k) see 0 0 cl eff kin gri sig sees) (bd3 (fX6_takesClause_l34 F mts mtx (Int32.ofNat t) fu' 1 (Int32.ofNat (k + 1)) (Int32.ofNat p) rd) (behindC F mts mtx (Int32.ofNat t))) := by
  intro d
  induction d with
  | zero =>
    intro k p fu fu' hd hk hp hfu hfu' see cl eff kin gri sig sees rd E hcl hr0 hE hs
    obtain ⟨fu', rfl⟩ : ∃ e, fu' = e + 1 := ⟨fu' - 1, by omega⟩
    have k4 : k = 4 := by omega
    subst k4
    rw [if_pos rfl, fX6_takesClause_l34, fX6_takesClause_l34_b, if_pos (by decide), bd3_mk]
    unfold behindC
    rw [if_neg (by decide)]
    refine items F ht hm hz htx hF (m - p) p rfl hp fu F (by omega) (by omega) _ see 0 0 cl eff kin gri sig sees 0 0 rd 0 ⟨by omega, rfl, rfl, c, E, fun _ => 0, fun _ => 0, fun _ _ => false, hc, hcl, hr0, hE, fun i hi => absurd hi (by omega), fun i hi => ?_, fun i hi => absurd hi (by omega), fun i j h => absurd (show false = true from h) (by decide)⟩ (Or.inl ⟨rfl, rfl⟩)
    rw [(hs i hi).1, (hs i hi).2]
    exact ⟨st_ff.symm, st_ff.symm⟩
  | succ d ih =>
    intro k p fu fu' hd hk hp hfu hfu' see cl eff kin gri sig sees rd E hcl hr0 hE hs
    obtain ⟨fu, rfl⟩ : ∃ e, fu = e + 1 := ⟨fu - 1, by omega⟩
    obtain ⟨fu', rfl⟩ : ∃ e, fu' = e + 1 := ⟨fu' - 1, by omega⟩
    rw [if_neg (show ¬ k = 4 by omega), fX6_takesClause_l34, fX6_takesClause_l34_b, if_neg (by rw [w5 (by omega)]; omega), if_neg (by decide), m_takesF F ht hm hz (show p < 1000 by omega) (show k + 1 < 23 by omega), p_s]
    have bad : ∀ (r : Int32) (kk : Int32 → Option (Int32 × Int32 × (Nat → Int32))), r = 0 → kk = (fun r18 => if r18 = 0 then (some ((0 : Int32), Int32.ofNat p, rd)) else some ((1 : Int32), Int32.ofNat (p + 1), upd rd (k + 1) (byI mtx t m p - 48))) → bd3 (bd3 (bd1 (some r) kk) fun r49 w49_mat w49_mread => if r49 = 0 then ((fX6_takesClause_l34 F mts mtx (Int32.ofNat t) fu' (0 : Int32) (Int32.ofNat (k + 1 + 1)) w49_mat w49_mread)) else ((fX6_takesClause_l34 F mts mtx (Int32.ofNat t) fu' (1 : Int32) (Int32.ofNat (k + 1 + 1)) w49_mat w49_mread))) (behindC F mts mtx (Int32.ofNat t)) = some (Int32.ofNat p, 0, 0, Int32.ofNat p, rd) := fun r kk hr hkk => by
      subst hr
      subst hkk
      rw [bd1_mk, if_pos rfl, bd3_mk, if_pos rfl, l34_0 F mts mtx rd (Int32.ofNat t) (Int32.ofNat p) (5 - (k + 1 + 1)) (k + 1 + 1) fu' rfl (by omega) (by omega), bd3_mk]
      unfold behindC
      rw [if_pos rfl]
    rcases at_c F hm htx hp (due := 2) (by decide) (by decide) (Int32.ofNat k) see 0 0 cl eff kin gri sig sees with ⟨hv, hce⟩ | ⟨hq, hq32, hqb⟩
    · rw [hce fu, in_off F (Or.inl hv), bad 0 _ rfl rfl]
      exact res_bad (by omega)
    have hc2 := tk2 F (tun := Int32.ofNat k) (see := see) (beg := 0) (size := 0) (cl := cl) (eff := eff) (kin := kin) (gri := gri) (sig := sig) (sees := sees) hq32
    unfold fX4_takesEffect at hc2
    rw [hqb] at bad
    rcases fig_c F (txt p - 48) with ⟨f, hf, hfv, f1, f2⟩ | ⟨f1, f2⟩
    · have hq4 : k < 4 := by omega
      rw [f1, bd1_mk, if_neg (by decide), show fX5_isTune F (Int32.ofNat k) = some 1 from c_rng1 hq4 (by decide), bd1_mk, if_neg (by decide), p_cl (show k < 2147483648 by omega), if_neg (gx hq4 (by omega)), p_s, hfv, fig_eff f hf] at hc2
      rw [hqb, f2, bd1_mk, if_neg (by decide), bd3_mk, if_neg (by decide), hfv]
      have w4 : ((4 : Int32) ≤ Int32.ofNat (k + 1)) = (4 ≤ k + 1) := by rw [show (4 : Int32) = Int32.ofNat 4 from rfl, p_le (by omega) (by omega)]
      have hgo : fX4_takes F 2 (Int32.ofNat k) see 0 0 cl eff kin gri sig sees (txt p) = some (1, (if k + 1 = 4 then 3 else 2), Int32.ofNat (k + 1), see, 0, 0, cl, upd eff k (Int32.ofInt ((f : Int) - 4)), kin, gri, sig, sees) := by
        rw [hc2]
        by_cases h4 : k + 1 = 4
        · rw [if_pos (by rw [w4]; omega), if_pos h4, bd4_mk]
        · rw [if_neg (by rw [w4]; omega), if_neg h4, bd4_mk]
      rw [cl_go F hm hq hgo fu]
      refine ih (k + 1) (p + 1) fu fu' (by omega) (by omega) (by omega) (by omega) (by omega) see cl _ kin gri sig sees _ (fun i => if i = k then (f : Int) - 4 else E i) hcl ?_ (fun i hi => ?_) hs
      · rw [upd_at, if_neg (by omega)]
        exact hr0
      · rw [upd_at, upd_at]
        by_cases e : i = k
        · subst e
          have e1 : (if i = i then (f : Int) - 4 else E i) = (f : Int) - 4 := if_pos rfl
          show -4 ≤ (if i = i then (f : Int) - 4 else E i) ∧ (if i = i then (f : Int) - 4 else E i) ≤ 5 ∧ (if i = i then Int32.ofInt ((f : Int) - 4) else eff i) = Int32.ofInt (if i = i then (f : Int) - 4 else E i) ∧ (if 1 + i = i + 1 then Int32.ofNat f else rd (1 + i)) = Int32.ofInt ((if i = i then (f : Int) - 4 else E i) + 4)
          rw [e1, if_pos rfl, if_pos (show 1 + i = i + 1 by omega)]
          exact ⟨by omega, by omega, rfl, fig_eff2 f hf⟩
        · have e1 : (if i = k then (f : Int) - 4 else E i) = E i := if_neg e
          show -4 ≤ (if i = k then (f : Int) - 4 else E i) ∧ (if i = k then (f : Int) - 4 else E i) ≤ 5 ∧ (if i = k then Int32.ofInt ((f : Int) - 4) else eff i) = Int32.ofInt (if i = k then (f : Int) - 4 else E i) ∧ (if 1 + i = k + 1 then Int32.ofNat f else rd (1 + i)) = Int32.ofInt ((if i = k then (f : Int) - 4 else E i) + 4)
          rw [e1, if_neg e, if_neg (show ¬ 1 + i = k + 1 by omega)]
          exact hE i (by omega)
    · rw [f1, bd1_mk, if_pos rfl, bd4_mk] at hc2
      rw [cl_bad F hm hq hc2 fu, hqb, f2, bad 0 _ rfl rfl]
      exact res_bad (by omega)
theorem one_nine {x : Int32} (h1 : ¬ x < 1) (h9 : ¬ (9 : Int32) < x) : ∃ c, c ≤ 9 ∧ x = Int32.ofNat c := by
  rcases rng_cases x (n := 10) (by decide) with h | ⟨k, hk, rfl⟩
  · rcases h with h | h
    · exact absurd (Int32.lt_trans h (by decide)) h1
    · rw [← p_lt10] at h
      exact absurd h h9
  · exact ⟨k, by omega, rfl⟩
theorem m_takes19 (F : Nat) {mts mtx rd : Nat → Int32} {t m p pl : Nat} (ht : t < 4) (hm : m ≤ 80) (hz : mts t = Int32.ofNat m) (hp : p < 1000) (hpl : pl < 23) : fX6_takes F (Int32.ofNat p) mts mtx rd (Int32.ofNat t) (Int32.ofNat pl) (1 : Int32) (9 : Int32) = (if byI mtx t m p - 48 < 1 then some ((0 : Int32), Int32.ofNat p, rd) else if (9 : Int32) < byI mtx t m p - 48 then some ((0 : Int32), Int32.ofNat p, rd) else some ((1 : Int32), Int32.ofNat (p + 1), upd rd pl (byI mtx t m p - 48))) := by
  unfold fX6_takes
  rw [m_byte F ht hm hz hp, bd1_mk, p_cl (show pl < 2147483648 by omega), p_s, m_in_gen F _ (u := 1) (v := 9) rfl rfl, if_neg (gx hpl (by omega))]
  by_cases h1 : byI mtx t m p - 48 < 1
  · rw [if_pos h1, if_pos h1, bd1_mk, if_pos rfl]
  · rw [if_neg h1, if_neg h1]
    by_cases h9 : (9 : Int32) < byI mtx t m p - 48
    · rw [if_pos h9, if_pos h9, bd1_mk, if_pos rfl]
    · rw [if_neg h9, if_neg h9, bd1_mk, if_neg (by decide)]
theorem clau (F : Nat) {txt mts mtx : Nat → Int32} {t m : Nat} (ht : t < 4) (hm : m ≤ 80) (hz : mts t = Int32.ofNat m) (htx : ∀ p, p < m → txt p = mtx (80 * t + p)) (hF : 1000000 ≤ F) {p fu : Nat} (hp : p ≤ m) (hfu : m - p < fu) (see cl : Int32) (eff kin gri sig sees rd : Nat → Int32) (hs : ∀ i, i < 6 → sig i = 0 ∧ sees i = 0) :
    RES (fX4_faultOf_l22 F txt (Int32.ofNat m) fu (Int32.ofNat p) 1 0 see 0 0 cl eff kin gri sig sees) (bd3 (bd3 (fX6_takes F (Int32.ofNat p) mts mtx rd (Int32.ofNat t) (0 : Int32) (1 : Int32) (9 : Int32)) fun r28 w28_mat w28_mread => (fX6_takesClause_l34 F mts mtx (Int32.ofNat t) F r28 (1 : Int32) w28_mat w28_mread)) (behindC F mts mtx (Int32.ofNat t))) := by
  obtain ⟨fu, rfl⟩ : ∃ e, fu = e + 1 := ⟨fu - 1, by omega⟩
  have bad : bd3 (bd3 (some ((0 : Int32), Int32.ofNat p, rd)) fun r28 w28_mat w28_mread => (fX6_takesClause_l34 F mts mtx (Int32.ofNat t) F r28 (1 : Int32) w28_mat w28_mread)) (behindC F mts mtx (Int32.ofNat t)) = some (Int32.ofNat p, 0, 0, Int32.ofNat p, rd) := by
    rw [bd3_mk, show fX6_takesClause_l34 F mts mtx (Int32.ofNat t) F 0 1 (Int32.ofNat p) rd = some (0, Int32.ofNat p, rd) from l34_0 F mts mtx rd (Int32.ofNat t) (Int32.ofNat p) 4 1 F rfl (by omega) (by omega), bd3_mk]
    unfold behindC
    rw [if_pos rfl]
  rw [show fX6_takes F (Int32.ofNat p) mts mtx rd (Int32.ofNat t) (0 : Int32) (1 : Int32) (9 : Int32) = _ from m_takes19 F (rd := rd) ht hm hz (show p < 1000 by omega) (pl := 0) (by omega)]
  rcases at_c F hm htx hp (due := 1) (by decide) (by decide) 0 see 0 0 cl eff kin gri sig sees with ⟨hv, hce⟩ | ⟨hq, hq32, hqb⟩
  · rw [hce fu, if_pos (Int32.lt_trans hv (by decide)), bad]
    exact res_bad (by omega)
  have hc2 := tk1 F (tun := 0) (see := see) (beg := 0) (size := 0) (cl := cl) (eff := eff) (kin := kin) (gri := gri) (sig := sig) (sees := sees) hq32
  unfold fX4_takesClause at hc2
  rw [hqb]
  by_cases h1 : txt p - 48 < 1
  · rw [if_pos h1, bd3_mk] at hc2
    rw [cl_bad F hm hq hc2 fu, if_pos h1, bad]
    exact res_bad (by omega)
  rw [if_neg h1] at hc2
  rw [if_neg h1]
  by_cases h9 : (9 : Int32) < txt p - 48
  · rw [if_pos h9, bd3_mk] at hc2
    rw [cl_bad F hm hq hc2 fu, if_pos h9, bad]
    exact res_bad (by omega)
  rw [if_neg h9, bd3_mk] at hc2
  rw [if_neg h9, bd3_mk, cl_go F hm hq hc2 fu]
  obtain ⟨c, hc, hcv⟩ := one_nine h1 h9
  refine effs F ht hm hz htx hF hc 4 0 (p + 1) fu F rfl (by omega) (by omega) (by omega) (by omega) see _ eff kin gri sig sees _ (fun _ => 0) hcv ?_ (fun i hi => absurd hi (by omega)) hs
  rw [upd_at, if_pos rfl, hcv]
theorem opens (F : Nat) {txt mts mtx : Nat → Int32} {t m : Nat} (ht : t < 4) (hm : m ≤ 80) (hz : mts t = Int32.ofNat m) (htx : ∀ p, p < m → txt p = mtx (80 * t + p)) (hF : 1000000 ≤ F) (see cl : Int32) (eff kin gri sig sees rd : Nat → Int32) (hs : ∀ i, i < 6 → sig i = 0 ∧ sees i = 0) : ∀ (k p fu : Nat), m - p = k → p ≤ m → m - p < fu →
    RES (fX4_faultOf_l22 F txt (Int32.ofNat m) fu (Int32.ofNat p) 0 0 see 0 0 cl eff kin gri sig sees) (bd1 (fX6_blanks F (Int32.ofNat p) mts mtx (Int32.ofNat t)) fun w17_mat => bd3 (fX6_takesClause F w17_mat mts mtx rd (Int32.ofNat t)) (behindC F mts mtx (Int32.ofNat t))) := by
  intro k
  induction k with
  | zero =>
    intro p fu hk hp hfu
    obtain ⟨fu, rfl⟩ : ∃ e, fu = e + 1 := ⟨fu - 1, by omega⟩
    have e : p = m := by omega
    subst e
    rw [cl_end F (by decide) fu, m_blanks F ht hm hz hp hF, bd1_mk, nb_stop (fun q => Nat.lt_irrefl _ q.1)]
    unfold fX6_takesClause
    rw [m_byte F ht hm hz (by omega), bd1_mk]
    unfold byI
    rw [if_pos (Nat.le_refl _), if_neg (by decide), bd3_mk]
    unfold behindC
    rw [if_pos rfl]
    exact res_bad (by omega)
  | succ k ih =>
    intro p fu hk hp hfu
    obtain ⟨fu, rfl⟩ : ∃ e, fu = e + 1 := ⟨fu - 1, by omega⟩
    have hpm : p < m := by omega
    have hx := htx p hpm
    by_cases h32 : txt p = 32
    · rw [cl_go F hm hpm (tk_b0 F h32) fu, m_blanks F ht hm hz hp hF, nb_go hpm (by rw [← hx]; exact h32), ← m_blanks F ht hm hz (show p + 1 ≤ m by omega) hF]
      exact ih (p + 1) fu (by omega) (by omega) (by omega)
    · rw [m_blanks F ht hm hz hp hF, bd1_mk, nb_stop (fun q => h32 (by rw [hx]; exact q.2))]
      unfold fX6_takesClause
      have hby : byI mtx t m p = txt p := by
        unfold byI
        rw [if_neg (by omega), hx]
      rw [m_byte F ht hm hz (by omega), bd1_mk, hby]
      have hc2 := tk0 F (tun := 0) (see := see) (beg := 0) (size := 0) (cl := cl) (eff := eff) (kin := kin) (gri := gri) (sig := sig) (sees := sees) h32
      unfold fX4_takesOpening at hc2
      by_cases h99 : txt p = 99
      · rw [if_pos h99, bd2_mk] at hc2
        rw [cl_go F hm hpm hc2 fu, if_pos h99, p_s]
        exact clau F ht hm hz htx hF (by omega) (by omega) see cl eff kin gri sig sees rd hs
      · rw [if_neg h99, bd2_mk] at hc2
        rw [cl_bad F hm hpm hc2 fu, if_neg h99, bd3_mk]
        unfold behindC
        rw [if_pos rfl]
        exact res_bad (by omega)
theorem clear_c (F : Nat) (hF : 1000000 ≤ F) (size cl : Int32) : ∀ (d k fu : Nat), 6 - k = d → k ≤ 6 → d < fu → ∀ (sig sees : Nat → Int32), (∀ i, i < k → sig i = 0 ∧ sees i = 0) → ∃ sig' sees', fX2_clear_l12 F size cl fu (Int32.ofNat k) sig sees = some (size, cl, sig', sees') ∧ ∀ i, i < 6 → sig' i = 0 ∧ sees' i = 0
  | 0, k, fu, hd, hk, hfu, sig, sees, h => by
    obtain ⟨fu, rfl⟩ : ∃ e, fu = e + 1 := ⟨fu - 1, by omega⟩
    have e : k = 6 := by omega
    subst e
    exact ⟨sig, sees, by rw [fX2_clear_l12, fX2_clear_l12_b, if_pos (by decide)], h⟩
  | d + 1, k, fu, hd, hk, hfu, sig, sees, h => by
    obtain ⟨fu, rfl⟩ : ∃ e, fu = e + 1 := ⟨fu - 1, by omega⟩
    have w6 : ((6 : Int32) ≤ Int32.ofNat k) = (6 ≤ k) := by rw [show (6 : Int32) = Int32.ofNat 6 from rfl, p_le (by omega) (by omega)]
    rw [fX2_clear_l12, fX2_clear_l12_b, if_neg (by rw [w6]; omega), p_cl (show k < 2147483648 by omega), if_neg (gx (show k < 6 by omega) (by omega)), if_neg (gx (show k < 6 by omega) (by omega)), p_s]
    refine clear_c F hF size cl d (k + 1) fu (by omega) (by omega) (by omega) _ _ fun i hi => ?_
    rw [upd_at, upd_at]
    by_cases e : i = k
    · rw [if_pos e, if_pos e]
      exact ⟨rfl, rfl⟩
    · rw [if_neg e, if_neg e]
      exact h i (by omega)
theorem reader (F : Nat) {txt mts mtx : Nat → Int32} {t m : Nat} (ht : t < 4) (hm : m ≤ 80) (hz : mts t = Int32.ofNat m) (htx : ∀ p, p < m → txt p = mtx (80 * t + p)) (hF : 1000000 ≤ F) (due tun see beg size cl : Int32) (eff kin gri sig sees rd : Nat → Int32) (g s a : Int32) : RES (fX4_faultOf F due tun see beg txt size cl eff kin gri sig sees (Int32.ofNat m)) (fX6_reads F g s a mts mtx rd (Int32.ofNat t)) := by
  obtain ⟨sig', sees', h1, h2⟩ := clear_c F hF 0 0 6 0 F rfl (by omega) (by omega) sig sees (fun i hi => absurd hi (by omega))
  unfold fX4_faultOf fX2_clear
  rw [show fX2_clear_l12 F 0 0 F 0 sig sees = _ from h1, bd4_mk]
  exact opens F ht hm hz htx hF see 0 eff kin gri sig' sees' rd h2 m 0 F (by omega) (by omega) (by omega)
theorem sp_fault : SP_fault := by
  intro F rs rm ts tm rdue rtun rsee rbeg psize pclause peff pkin pgri psig psee qsize qclause qeff qkin qgri qsig qsee cdee cnow cahe kdee know kahe fc lf told up lo mguests mclause mdeeds masked mupper mlower mfinding mreadGuests misSight mat mrowSizes mrows mtextSizes mtexts mdoes mkinds msees mnow mbefore mkeeps mkept mfindings mread maside msteps mtried mbest x1 hF hR
  obtain ⟨n, c, E, K, S, hP, hC, hKp, hRo, hTe, rfl, rfl, rfl, rfl, hfc⟩ := hR
  rcases text_c F x1 with ⟨a1, a2⟩ | ⟨r, hr, rfl, a1, a2⟩
  · exact ⟨_, _, _, _, _, _, _, _, _, _, _, _, _, _, _, _, _, _, _, _, by unfold fX5_fault; rw [a1]; rfl, by unfold fX6_fault; rw [a2]; rfl, n, c, E, K, S, hP, hC, hKp, hRo, hTe, rfl, rfl, rfl, rfl, hfc⟩
  · have hcl := p_cl (show r < 2147483648 by omega)
    have hix := gx hr (by omega)
    rcases rrow_get hTe hr with ⟨g1, g2⟩ | ⟨m, hm, g1, g2, g3⟩
    · exact ⟨_, _, _, _, _, _, _, _, _, _, _, _, _, _, _, _, _, _, _, _, by unfold fX5_fault; rw [hcl, a1, bd1_mk, if_neg (by decide), if_neg hix, g1, if_pos rfl, c_f1, bd3_mk], by unfold fX6_fault; rw [hcl, a2, bd1_mk, if_neg (by decide), if_neg hix, g2, if_neg neg1_ge, m_f1, bd3_mk], n, c, E, K, S, hP, hC, hKp, hRo, hTe, rfl, rfl, rfl, rfl, fc_up hfc (by decide)⟩
    · obtain ⟨r9, due, tun, see, beg, size, cl, eff, kin, gri, sig, sees, gs, isS, at', rd, q1, q2, -⟩ := reader F hr (by omega) g2 g3 hF rdue rtun rsee rbeg qsize qclause qeff qkin qgri qsig qsee mread mreadGuests misSight mat
      exact ⟨_, _, _, _, _, _, _, _, _, _, _, _, _, _, _, _, _, _, _, _, by unfold fX5_fault; rw [hcl, a1, bd1_mk, if_neg (by decide), if_neg hix, g1, if_neg (nat_ne1 (by omega)), if_neg hix, if_neg hix, q1, bd12_mk], by unfold fX6_fault; rw [hcl, a2, bd1_mk, if_neg (by decide), if_neg hix, g2, if_pos (of_eq_true (p_ge0 (by omega))), q2, bd5_mk], n, c, E, K, S, hP, hC, hKp, hRo, hTe, rfl, rfl, rfl, rfl, hfc⟩
