theorem tk_b3 (F : Nat) {tun see beg size cl x : Int32} {eff kin gri sig sees : Nat → Int32} (h : x = 32) : fX4_takes F 3 tun see beg size cl eff kin gri sig sees x = some (1, 3, tun, see, beg, size, cl, eff, kin, gri, sig, sees) := by
  unfold fX4_takes
  rw [if_pos h, if_neg (by decide), if_pos rfl]
theorem tk_b0 (F : Nat) {tun see beg size cl x : Int32} {eff kin gri sig sees : Nat → Int32} (h : x = 32) : fX4_takes F 0 tun see beg size cl eff kin gri sig sees x = some (1, 0, tun, see, beg, size, cl, eff, kin, gri, sig, sees) := by
  unfold fX4_takes
  rw [if_pos h, if_pos rfl]
theorem tk_bx (F : Nat) {due tun see beg size cl x : Int32} {eff kin gri sig sees : Nat → Int32} (h : x = 32) (h0 : ¬ due = 0) (h3 : ¬ due = 3) : fX4_takes F due tun see beg size cl eff kin gri sig sees x = some (0, due, tun, see, beg, size, cl, eff, kin, gri, sig, sees) := by
  unfold fX4_takes
  rw [if_pos h, if_neg h0, if_neg h3]
theorem tk0 (F : Nat) {tun see beg size cl x : Int32} {eff kin gri sig sees : Nat → Int32} (h : ¬ x = 32) : fX4_takes F 0 tun see beg size cl eff kin gri sig sees x = (bd2 (fX4_takesOpening F 0 x) fun r70 w70_rdue => some (r70, w70_rdue, tun, see, beg, size, cl, eff, kin, gri, sig, sees)) := by
  unfold fX4_takes
  rw [if_neg h, if_pos rfl]
theorem tk1 (F : Nat) {tun see beg size cl x : Int32} {eff kin gri sig sees : Nat → Int32} (h : ¬ x = 32) : fX4_takes F 1 tun see beg size cl eff kin gri sig sees x = (bd3 (fX4_takesClause F 1 cl (x - (48 : Int32))) fun r80 w80_rdue w80_clause => some (r80, w80_rdue, tun, see, beg, size, w80_clause, eff, kin, gri, sig, sees)) := by
  unfold fX4_takes
  rw [if_neg h, if_neg (by decide), if_pos rfl]
theorem tk2 (F : Nat) {tun see beg size cl x : Int32} {eff kin gri sig sees : Nat → Int32} (h : ¬ x = 32) : fX4_takes F 2 tun see beg size cl eff kin gri sig sees x = (bd4 (fX4_takesEffect F 2 tun eff (x - (48 : Int32))) fun r90 w90_rdue w90_rtun w90_eff => some (r90, w90_rdue, w90_rtun, see, beg, size, cl, w90_eff, kin, gri, sig, sees)) := by
  unfold fX4_takes
  rw [if_neg h, if_neg (by decide), if_neg (by decide), if_pos rfl]
theorem tk3 (F : Nat) {tun see beg size cl x : Int32} {eff kin gri sig sees : Nat → Int32} (h : ¬ x = 32) : fX4_takes F 3 tun see beg size cl eff kin gri sig sees x = (bd4 (fX4_takesLetter F 3 beg size kin x) fun r97 w97_rdue w97_rbeg w97_kin => some (r97, w97_rdue, tun, see, w97_rbeg, size, cl, eff, w97_kin, gri, sig, sees)) := by
  unfold fX4_takes
  rw [if_neg h, if_neg (by decide), if_neg (by decide), if_neg (by decide), if_pos rfl]
theorem tk4 (F : Nat) {tun see beg size cl x : Int32} {eff kin gri sig sees : Nat → Int32} (h : ¬ x = 32) : fX4_takes F 4 tun see beg size cl eff kin gri sig sees x = (bd4 (fX4_takesGrief F 4 size gri (x - (48 : Int32))) fun r107 w107_rdue w107_size w107_gri => some (r107, w107_rdue, tun, see, beg, w107_size, cl, eff, kin, w107_gri, sig, sees)) := by
  unfold fX4_takes
  rw [if_neg h, if_neg (by decide), if_neg (by decide), if_neg (by decide), if_neg (by decide), if_pos rfl]
theorem tk5 (F : Nat) {tun see beg size cl x : Int32} {eff kin gri sig sees : Nat → Int32} (h : ¬ x = 32) : fX4_takes F 5 tun see beg size cl eff kin gri sig sees x = (bd3 (fX4_takesSeer F 5 see size (x - (48 : Int32))) fun r117 w117_rdue w117_rsee => some (r117, w117_rdue, tun, w117_rsee, beg, size, cl, eff, kin, gri, sig, sees)) := by
  unfold fX4_takes
  rw [if_neg h, if_neg (by decide), if_neg (by decide), if_neg (by decide), if_neg (by decide), if_neg (by decide), if_pos rfl]
theorem tk6 (F : Nat) {tun see beg size cl x : Int32} {eff kin gri sig sees : Nat → Int32} (h : ¬ x = 32) : fX4_takes F 6 tun see beg size cl eff kin gri sig sees x = (bd4 (fX4_takesSeen F 6 see size sig sees (x - (48 : Int32))) fun r127 w127_rdue w127_sig w127_see => some (r127, w127_rdue, tun, see, beg, size, cl, eff, kin, gri, w127_sig, w127_see)) := by
  unfold fX4_takes
  rw [if_neg h, if_neg (by decide), if_neg (by decide), if_neg (by decide), if_neg (by decide), if_neg (by decide), if_neg (by decide)]
theorem at_c (F : Nat) {txt mtx : Nat → Int32} {t m q : Nat} (hm : m ≤ 80) (htx : ∀ p, p < m → txt p = mtx (80 * t + p)) (hq : q ≤ m) {due : Int32} (h0 : ¬ due = 0) (h3 : ¬ due = 3) (tun see beg size cl : Int32) (eff kin gri sig sees : Nat → Int32) : (byI mtx t m q - 48 < 0 ∧ ∀ fu, fX4_faultOf_l22 F txt (Int32.ofNat m) (fu + 1) (Int32.ofNat q) due tun see beg size cl eff kin gri sig sees = some (Int32.ofNat q, due, tun, see, beg, size, cl, eff, kin, gri, sig, sees)) ∨ (q < m ∧ ¬ txt q = 32 ∧ byI mtx t m q = txt q) := by
  unfold byI
  by_cases h : m ≤ q
  · have e : q = m := by omega
    subst e
    rw [if_pos h]
    exact Or.inl ⟨by decide, fun fu => cl_end F h3 fu⟩
  · rw [if_neg h, ← htx q (by omega)]
    by_cases hx : txt q = 32
    · rw [hx]
      exact Or.inl ⟨by decide, fun fu => cl_bad F hm (by omega) (tk_bx F hx h0 h3) fu⟩
    · exact Or.inr ⟨by omega, hx, rfl⟩
theorem Good.guest {n kd f : Nat} {size cl : Int32} {eff kin gri sig sees : Nat → Int32} {guests : Int32} {rd : Nat → Int32} (h : Good n size cl eff kin gri sig sees guests rd) (hn : n < 6) (hk : kd ≤ 5) (hf : f < 10) : Good (n + 1) (Int32.ofNat (n + 1)) cl eff (upd kin n (Int32.ofNat kd)) (upd gri n (Int32.ofNat f)) sig sees (Int32.ofNat (n + 1)) (upd (upd (upd rd (5 + n) (Int32.ofNat kd)) (17 + n) 0) (11 + n) (Int32.ofNat f)) := by
  obtain ⟨hn6, -, -, c, E, K, g, S, hc, hcl, hr0, hE, hG, hS, hR, hSn⟩ := h
  refine ⟨by omega, rfl, rfl, c, E, fun i => if i = n then kd else K i, fun i => if i = n then f else g i, S, hc, hcl, ?_, fun i hi => ?_, fun i hi => ?_, hS, fun i hi => ?_, fun i j hij => ?_⟩
  · rw [upd_at, if_neg (by omega), upd_at, if_neg (by omega), upd_at, if_neg (by omega)]
    exact hr0
  · rw [upd_at, if_neg (by omega), upd_at, if_neg (by omega), upd_at, if_neg (by omega)]
    exact hE i hi
  · rw [upd_at, upd_at, upd_at, upd_at, upd_at, upd_at, upd_at, upd_at]
    dsimp only
    by_cases e : i = n
    · subst e
      rw [if_pos rfl, if_pos rfl, if_neg (by omega), if_neg (by omega), if_pos rfl, if_pos rfl, if_pos rfl, if_pos rfl]
      exact ⟨hk, rfl, rfl, by omega, rfl, rfl⟩
    · rw [if_neg e, if_neg e, if_neg (by omega), if_neg (by omega), if_neg (by omega), if_neg e, if_neg e, if_neg (by omega), if_neg (by omega), if_neg (by omega)]
      exact hG i (by omega)
  · rw [upd_at, if_neg (by omega), upd_at]
    by_cases e : i = n
    · subst e
      rw [if_pos rfl, st_none]
      refine st_congr fun j _ => ?_
      cases q : S i j
      · rfl
      · exact absurd (hSn i j q).1 (Nat.lt_irrefl i)
    · rw [if_neg (by omega), upd_at, if_neg (by omega)]
      exact hR i (by omega)
  · have := hSn i j hij
    omega
theorem Good.sight {n a b : Nat} {size cl : Int32} {eff kin gri sig sees : Nat → Int32} {guests : Int32} {rd : Nat → Int32} (h : Good n size cl eff kin gri sig sees guests rd) (ha : a < n) (hb : b < n) : Good n size cl eff kin gri (upd sig a (sig a ||| ((1 : Int32) <<< (Int32.ofNat b &&& 31)))) (upd sees b (sees b ||| ((1 : Int32) <<< (Int32.ofNat a &&& 31)))) guests (upd rd (17 + a) (rd (17 + a) ||| ((1 : Int32) <<< (Int32.ofNat b &&& 31)))) := by
  obtain ⟨hn6, hs, hg, c, E, K, g, S, hc, hcl, hr0, hE, hG, hS, hR, hSn⟩ := h
  have e1 : sig a ||| ((1 : Int32) <<< (Int32.ofNat b &&& 31)) = st (fun j => S a j || (a == a && j == b)) := by
    rw [(hS a (by omega)).1, st_one (by omega), st_or]
    exact st_congr fun j _ => by simp
  have e2 : sees b ||| ((1 : Int32) <<< (Int32.ofNat a &&& 31)) = st (fun j => S j b || (j == a && b == b)) := by
    rw [(hS b (by omega)).2, st_one (by omega), st_or]
    exact st_congr fun j _ => by simp
  have e3 : rd (17 + a) ||| ((1 : Int32) <<< (Int32.ofNat b &&& 31)) = st (fun j => S a j || (a == a && j == b)) := by
    rw [hR a ha, st_one (by omega), st_or]
    exact st_congr fun j _ => by simp
  refine ⟨hn6, hs, hg, c, E, K, g, fun i j => S i j || (i == a && j == b), hc, hcl, ?_, fun i hi => ?_, fun i hi => ?_, fun i hi => ⟨?_, ?_⟩, fun i hi => ?_, fun i j hij => ?_⟩
  · rw [upd_at, if_neg (by omega)]; exact hr0
  · rw [upd_at, if_neg (by omega)]; exact hE i hi
  · rw [upd_at, if_neg (by omega), upd_at, if_neg (by omega)]; exact hG i hi
  · rw [upd_at]
    by_cases e : i = a
    · subst e
      rw [if_pos rfl]
      exact e1
    · rw [if_neg e, (hS i hi).1]
      exact st_congr fun j _ => by simp [e]
  · rw [upd_at]
    by_cases e : i = b
    · subst e
      rw [if_pos rfl]
      exact e2
    · rw [if_neg e, (hS i hi).2]
      exact st_congr fun j _ => by simp [e]
  · rw [upd_at]
    by_cases e : i = a
    · subst e
      rw [if_pos rfl]
      exact e3
    · rw [if_neg (by omega), hR i hi]
      exact st_congr fun j _ => by simp [e]
  · cases q : S i j
    · have hij' : (S i j || (i == a && j == b)) = true := hij
      rw [q, Bool.false_or, Bool.and_eq_true, beq_iff_eq, beq_iff_eq] at hij'
      omega
    · exact hSn i j q
theorem sz_lt6 {n : Nat} (hn : n ≤ 6) : (Int32.ofNat n < (6 : Int32)) = (n < 6) := by rw [show (6 : Int32) = Int32.ofNat 6 from rfl, p_lt (by omega) (by omega)]
theorem sz_eq6 {n : Nat} (hn : n ≤ 6) : (Int32.ofNat n = (6 : Int32)) = (n = 6) := by rw [show (6 : Int32) = Int32.ofNat 6 from rfl, p_eq (by omega) (by omega)]
theorem sz_le0 {n : Nat} (hn : n ≤ 6) : (Int32.ofNat n ≤ 0) = (n = 0) := by
  rw [show (0 : Int32) = Int32.ofNat 0 from rfl, p_le (by omega) (by omega)]
  exact propext ⟨fun h => by omega, fun h => by omega⟩
theorem items (F : Nat) {txt mts mtx : Nat → Int32} {t m : Nat} (ht : t < 4) (hm : m ≤ 80) (hz : mts t = Int32.ofNat m) (htx : ∀ p, p < m → txt p = mtx (80 * t + p)) (hF : 1000000 ≤ F) : ∀ (k p : Nat), m - p = k → p ≤ m → ∀ (fu fu' : Nat), k < fu → k < fu' → ∀ (tun see beg size cl : Int32) (eff kin gri sig sees : Nat → Int32) (guests isS : Int32) (rd : Nat → Int32) (n : Nat), Good n size cl eff kin gri sig sees guests rd → ((beg = 0 ∧ isS = 0) ∨ (beg = 1 ∧ isS = 1)) → RES (fX4_faultOf_l22 F txt (Int32.ofNat m) fu (Int32.ofNat p) 3 tun see beg size cl eff kin gri sig sees) (bd1 (fX6_blanks F (Int32.ofNat p) mts mtx (Int32.ofNat t)) fun a => fX6_reads_l38 F mts mtx (Int32.ofNat t) fu' guests isS a rd) := by
  intro k
  induction k using Nat.strongRecOn with
  | ind k ih =>
  intro p hk hp fu fu' hfu hfu' tun see beg size cl eff kin gri sig sees guests isS rd n hG hbs
  obtain ⟨fu, rfl⟩ : ∃ e, fu = e + 1 := ⟨fu - 1, by omega⟩
  obtain ⟨fu', rfl⟩ : ∃ e, fu' = e + 1 := ⟨fu' - 1, by omega⟩
  have hG0 := hG
  obtain ⟨hn6, rfl, rfl, hrest⟩ := hG
  have htl : t < 2147483648 := by omega
  by_cases hpm : p = m
  · subst hpm
    rw [cl_end3 F fu, m_blanks F ht hm hz hp hF, bd1_mk, nb_stop (fun q => Nat.lt_irrefl _ q.1), fX6_reads_l38, fX6_reads_l38_b, p_cl htl, if_neg (gx ht (by omega)), hz, if_pos (Int32.le_refl _)]
    by_cases h0 : n = 0
    · rw [if_pos (by rw [sz_le0 hn6]; exact h0), if_pos (by rw [p_e0 (by omega)]; exact h0)]
      exact res_bad (by omega)
    · rw [if_neg (by rw [sz_le0 hn6]; exact h0), if_neg (by rw [p_e0 (by omega)]; exact h0)]
      exact ⟨_, _, _, _, _, _, _, _, _, _, _, _, _, _, _, _, rfl, rfl, fun _ => ⟨n, hG0⟩⟩
  have hpm' : p < m := by omega
  have hx := htx p hpm'
  by_cases h32 : txt p = 32
  · rw [cl_go F hm hpm' (tk_b3 F h32) fu, m_blanks F ht hm hz hp hF, nb_go hpm' (by rw [← hx]; exact h32), ← m_blanks F ht hm hz (show p + 1 ≤ m by omega) hF]
    exact ih (k - 1) (by omega) (p + 1) (by omega) (by omega) fu (fu' + 1) (by omega) (by omega) tun see beg _ cl eff kin gri sig sees _ isS rd n hG0 hbs
  have w0 : ¬ (Int32.ofNat m ≤ Int32.ofNat p) := of_eq_false (by rw [p_le (by omega) (by omega)]; exact p_nle hpm')
  have hby : byI mtx t m p = txt p := by
    unfold byI
    rw [if_neg (by omega), hx]
  rw [m_blanks F ht hm hz hp hF, bd1_mk, nb_stop (fun q => h32 (by rw [hx]; exact q.2)), fX6_reads_l38, fX6_reads_l38_b, p_cl htl, if_neg (gx ht (by omega)), hz, if_neg w0, m_byte F ht hm hz (by omega), bd1_mk, hby]
  by_cases h120 : txt p = 120
  · -- a sight
    rw [if_pos h120]
    unfold fX6_takesSight
    have hl : fX4_takesLetter F 3 beg (Int32.ofNat n) kin (txt p) = (if Int32.ofNat n ≤ 0 then (some ((0 : Int32), (5 : Int32), (1 : Int32), kin)) else (some ((1 : Int32), (5 : Int32), (1 : Int32), kin))) := by
      unfold fX4_takesLetter
      rw [if_pos h120]
    by_cases h0 : n = 0
    · rw [if_pos (by rw [sz_le0 hn6]; exact h0)] at hl
      have hc := tk3 F (tun := tun) (see := see) (beg := beg) (size := Int32.ofNat n) (cl := cl) (eff := eff) (kin := kin) (gri := gri) (sig := sig) (sees := sees) h32
      rw [hl, bd4_mk] at hc
      rw [cl_bad F hm hpm' hc fu, if_pos (by rw [p_e0 (by omega)]; exact h0), bd4_mk, if_pos rfl]
      exact res_bad (by omega)
    rw [if_neg (by rw [sz_le0 hn6]; exact h0)] at hl
    have hc := tk3 F (tun := tun) (see := see) (beg := beg) (size := Int32.ofNat n) (cl := cl) (eff := eff) (kin := kin) (gri := gri) (sig := sig) (sees := sees) h32
    rw [hl, bd4_mk] at hc
    obtain ⟨fu, rfl⟩ : ∃ e, fu = e + 1 := ⟨fu - 1, by omega⟩
    rw [cl_go F hm hpm' hc (fu + 1), if_neg (by rw [p_e0 (by omega)]; exact h0), p_s, m_byte F ht hm hz (show p + 1 < 1000 by omega), bd1_mk]
    rcases at_c F hm htx (show p + 1 ≤ m by omega) (due := 5) (by decide) (by decide) tun see 1 (Int32.ofNat n) cl eff kin gri sig sees with ⟨hv, hce⟩ | ⟨hq, hq32, hqb⟩
    · rw [hce fu, m_inF (n := n) (by omega) (by decide) rfl (Or.inl hv), bd1_mk, if_pos rfl, bd4_mk, if_pos rfl]
      exact res_bad (by omega)
    rw [hqb]
    rcases rng_cases (txt (p + 1) - 48) (n := n) (by omega) with hv | ⟨a, ha, hav⟩
    · have hse : fX4_takesSeer F 5 see (Int32.ofNat n) (txt (p + 1) - 48) = some (0, 6, txt (p + 1) - 48) := by
        unfold fX4_takesSeer
        rcases hv with hv | hv
        · rw [if_pos hv]
        · by_cases h9 : txt (p + 1) - 48 < 0
          · rw [if_pos h9]
          · rw [if_neg h9, if_pos hv]
      have hc2 := tk5 F (tun := tun) (see := see) (beg := 1) (size := Int32.ofNat n) (cl := cl) (eff := eff) (kin := kin) (gri := gri) (sig := sig) (sees := sees) hq32
      rw [hse, bd3_mk] at hc2
      rw [cl_bad F hm hq hc2 fu, m_inF (n := n) (by omega) (by decide) rfl hv, bd1_mk, if_pos rfl, bd4_mk, if_pos rfl]
      exact res_bad (by omega)
    rw [hav, m_inT (n := n) ha (by omega) (by decide) rfl, bd1_mk, if_neg (by decide), p_s]
    have hse : fX4_takesSeer F 5 see (Int32.ofNat n) (txt (p + 1) - 48) = some (1, 6, Int32.ofNat a) := by
      unfold fX4_takesSeer
      rw [hav, if_neg (of_eq_false (p_neg (by omega))), if_neg (of_eq_false (by rw [p_le (by omega) (by omega)]; exact p_nle ha))]
    have hc2 := tk5 F (tun := tun) (see := see) (beg := 1) (size := Int32.ofNat n) (cl := cl) (eff := eff) (kin := kin) (gri := gri) (sig := sig) (sees := sees) hq32
    rw [hse, bd3_mk] at hc2
    obtain ⟨fu, rfl⟩ : ∃ e, fu = e + 1 := ⟨fu - 1, by omega⟩
    rw [cl_go F hm hq hc2 (fu + 1), m_byte F ht hm hz (show p + 1 + 1 < 1000 by omega), bd1_mk]
    rcases at_c F hm htx (show p + 1 + 1 ≤ m by omega) (due := 6) (by decide) (by decide) tun (Int32.ofNat a) 1 (Int32.ofNat n) cl eff kin gri sig sees with ⟨hv, hce⟩ | ⟨hq2, hq232, hqb2⟩
    · rw [hce fu, m_inF (n := n) (by omega) (by decide) rfl (Or.inl hv), bd1_mk, if_pos rfl, bd4_mk, if_pos rfl]
      exact res_bad (by omega)
    rw [hqb2]
    have hc3 := tk6 F (tun := tun) (see := Int32.ofNat a) (beg := 1) (size := Int32.ofNat n) (cl := cl) (eff := eff) (kin := kin) (gri := gri) (sig := sig) (sees := sees) hq232
    obtain ⟨c, E, K, g, S, hc9, hcl, hr0, hE, hGu, hS, hR, hSn⟩ := id hrest
    have hn0 : ∀ x, fX4_takesSeen_n25 F (Int32.ofNat a) (Int32.ofNat n) 0 x 6 sig sees = some (0, 6, sig, sees) := fun x => by
      unfold fX4_takesSeen_n25
      rw [if_pos rfl]
    rcases rng_cases (txt (p + 1 + 1) - 48) (n := n) (by omega) with hv | ⟨b, hb, hbv⟩
    · have hse : fX4_takesSeen F 6 (Int32.ofNat a) (Int32.ofNat n) sig sees (txt (p + 1 + 1) - 48) = some (0, 6, sig, sees) := by
        unfold fX4_takesSeen
        rw [hn0]
        rcases hv with hv | hv
        · rw [if_pos hv]
        · by_cases h9 : txt (p + 1 + 1) - 48 < 0
          · rw [if_pos h9]
          · rw [if_neg h9, if_pos hv]
      rw [hse, bd4_mk] at hc3
      rw [cl_bad F hm hq2 hc3 fu, m_inF (n := n) (by omega) (by decide) rfl hv, bd1_mk, if_pos rfl, bd4_mk, if_pos rfl]
      exact res_bad (by omega)
    rw [hbv, m_inT (n := n) hb (by omega) (by decide) rfl, bd1_mk, if_neg (by decide)]
    have wab : (Int32.ofNat a = Int32.ofNat b) = (a = b) := p_eq (by omega) (by omega)
    have wba : (Int32.ofNat b = Int32.ofNat a) = (b = a) := p_eq (by omega) (by omega)
    have hsn : fX4_takesSeen F 6 (Int32.ofNat a) (Int32.ofNat n) sig sees (txt (p + 1 + 1) - 48) = (if Int32.ofNat b = Int32.ofNat a then some (0, 6, sig, sees) else fX4_takesSeen_n25 F (Int32.ofNat a) (Int32.ofNat n) 1 (Int32.ofNat b) 6 sig sees) := by
      unfold fX4_takesSeen
      rw [hbv, if_neg (of_eq_false (p_neg (by omega))), if_neg (of_eq_false (by rw [p_le (by omega) (by omega)]; exact p_nle hb)), hn0]
    by_cases hab : a = b
    · rw [if_pos (by rw [wba]; exact hab.symm)] at hsn
      rw [hsn, bd4_mk] at hc3
      rw [cl_bad F hm hq2 hc3 fu, if_pos (by rw [wab]; exact hab), bd4_mk, if_pos rfl]
      exact res_bad (by omega)
    rw [if_neg (by rw [wba]; exact fun q => hab q.symm)] at hsn
    unfold fX4_takesSeen_n25 at hsn
    rw [if_neg (by decide), p_cl (show a < 2147483648 by omega), p_cl (show b < 2147483648 by omega), if_neg (gx (show a < 6 by omega) (by omega)), if_neg (gx (show a < 6 by omega) (by omega)), if_neg (gx (show a < 6 by omega) (by omega)), if_neg (gx (show b < 6 by omega) (by omega)), if_neg (gx (show b < 6 by omega) (by omega)), (hS a (by omega)).1, st_bit (S a) (show b < 6 by omega)] at hsn
    have e17 : (17 : Int32) + Int32.ofNat a = Int32.ofNat (17 + a) := by rw [show (17 : Int32) = Int32.ofNat 17 from rfl, p_add]
    rw [if_neg (by rw [wab]; exact hab), e17, p_cl (show 17 + a < 2147483648 by omega), if_neg (gx (show 17 + a < 23 by omega) (by omega)), if_neg (gx (show 17 + a < 23 by omega) (by omega)), if_neg (gx (show 17 + a < 23 by omega) (by omega)), hR a ha, st_bit (S a) (show b < 6 by omega)]
    cases hSab : S a b with
    | true =>
      rw [hSab, if_neg (by decide)] at hsn
      rw [hsn, bd4_mk] at hc3
      rw [cl_bad F hm hq2 hc3 fu, if_pos (by decide), bd4_mk, if_pos rfl]
      exact res_bad (by omega)
    | false =>
      rw [hSab, if_pos (by decide)] at hsn
      rw [hsn, bd4_mk] at hc3
      rw [cl_go F hm hq2 hc3 fu, if_neg (by decide), bd4_mk, if_neg (by decide), p_s]
      have hG2 := hG0.sight ha hb
      rw [(hS a (by omega)).1, hR a ha] at hG2
      exact ih (k - 3) (by omega) (p + 1 + 1 + 1) (by omega) (by omega) fu fu' (by omega) (by omega) tun (Int32.ofNat a) 1 _ cl eff kin gri _ _ _ 1 _ n hG2 (Or.inr ⟨rfl, rfl⟩)
  · -- a guest
    rw [if_neg h120]
    unfold fX6_takesGuest
    rw [m_byte F ht hm hz (by omega), bd1_mk, hby]
    have hc := tk3 F (tun := tun) (see := see) (beg := beg) (size := Int32.ofNat n) (cl := cl) (eff := eff) (kin := kin) (gri := gri) (sig := sig) (sees := sees) h32
    unfold fX4_takesLetter at hc
    rw [if_neg h120] at hc
    rcases kind_l F (txt p) with ⟨kd, hkd, k1, k2⟩ | ⟨k1, k2⟩
    rotate_left
    · rw [k1, bd1_mk, if_pos rfl, bd4_mk] at hc
      rw [cl_bad F hm hpm' hc fu, k2, bd1_mk, if_pos (by decide), bd4_mk, if_pos rfl]
      exact res_bad (by omega)
    rw [k1, bd1_mk, if_neg (ne9 (by omega))] at hc
    rw [k2, bd1_mk, if_neg (of_eq_false (p_neg (show kd < 2147483648 by omega)))]
    rcases hbs with ⟨rfl, rfl⟩ | ⟨rfl, rfl⟩
    rotate_left
    · rw [if_neg (by decide), bd4_mk] at hc
      rw [cl_bad F hm hpm' hc fu]
      by_cases h6 : n = 6
      · rw [if_pos (by rw [sz_eq6 hn6]; exact h6), bd4_mk, if_pos rfl]
        exact res_bad (by omega)
      · rw [if_neg (by rw [sz_eq6 hn6]; exact h6), if_neg (by decide), bd4_mk, if_pos rfl]
        exact res_bad (by omega)
    rw [if_pos rfl] at hc
    by_cases h6 : n = 6
    · rw [if_neg (by rw [sz_lt6 hn6]; omega), bd4_mk] at hc
      rw [cl_bad F hm hpm' hc fu, if_pos (by rw [sz_eq6 hn6]; exact h6), bd4_mk, if_pos rfl]
      exact res_bad (by omega)
    rw [if_pos (by rw [sz_lt6 hn6]; omega), p_cl (show n < 2147483648 by omega), if_neg (gx (show n < 6 by omega) (by omega)), bd4_mk] at hc
    obtain ⟨fu, rfl⟩ : ∃ e, fu = e + 1 := ⟨fu - 1, by omega⟩
    have e5 : (5 : Int32) + Int32.ofNat n = Int32.ofNat (5 + n) := by rw [show (5 : Int32) = Int32.ofNat 5 from rfl, p_add]
    have e17 : (17 : Int32) + Int32.ofNat n = Int32.ofNat (17 + n) := by rw [show (17 : Int32) = Int32.ofNat 17 from rfl, p_add]
    have e11 : (10 : Int32) + Int32.ofNat (n + 1) = Int32.ofNat (11 + n) := by
      rw [show (10 : Int32) = Int32.ofNat 10 from rfl, p_add]
      congr 1
      omega
    rw [cl_go F hm hpm' hc (fu + 1), if_neg (by rw [sz_eq6 hn6]; exact h6), if_pos rfl, e5, e17, p_cl (show 5 + n < 2147483648 by omega), p_cl (show 17 + n < 2147483648 by omega), if_neg (gx (show 5 + n < 23 by omega) (by omega)), if_neg (gx (show 17 + n < 23 by omega) (by omega)), p_s, p_s, e11, m_takesF F ht hm hz (show p + 1 < 1000 by omega) (show 11 + n < 23 by omega)]
    rcases at_c F hm htx (show p + 1 ≤ m by omega) (due := 4) (by decide) (by decide) tun see 0 (Int32.ofNat n) cl eff (upd kin n (Int32.ofNat kd)) gri sig sees with ⟨hv, hce⟩ | ⟨hq, hq32, hqb⟩
    · rw [hce fu, in_off F (Or.inl hv), bd1_mk, if_pos rfl, bd3_mk, bd4_mk, if_pos rfl]
      exact res_bad (by omega)
    have hc2 := tk4 F (tun := tun) (see := see) (beg := 0) (size := Int32.ofNat n) (cl := cl) (eff := eff) (kin := upd kin n (Int32.ofNat kd)) (gri := gri) (sig := sig) (sees := sees) hq32
    unfold fX4_takesGrief at hc2
    rw [hqb]
    rcases fig_c F (txt (p + 1) - 48) with ⟨f, hf, hfv, f1, f2⟩ | ⟨f1, f2⟩
    · rw [f1, bd1_mk, if_neg (by decide), if_pos (by rw [sz_lt6 hn6]; omega), p_cl (show n < 2147483648 by omega), if_neg (gx (show n < 6 by omega) (by omega)), bd4_mk, p_s, hfv] at hc2
      rw [cl_go F hm hq hc2 fu, f2, bd1_mk, if_neg (by decide), bd3_mk, bd4_mk, if_neg (by decide), hfv]
      exact ih (k - 2) (by omega) (p + 1 + 1) (by omega) (by omega) fu fu' (by omega) (by omega) tun see 0 _ cl eff _ _ sig sees _ 0 _ (n + 1) (hG0.guest (by omega) hkd hf) (Or.inl ⟨rfl, rfl⟩)
    · rw [f1, bd1_mk, if_pos rfl, bd4_mk] at hc2
      rw [cl_bad F hm hq hc2 fu, f2, bd1_mk, if_pos rfl, bd3_mk, bd4_mk, if_pos rfl]
      exact res_bad (by omega)
