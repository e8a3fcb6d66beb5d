theorem clear_c (F : Nat) (hF : 1000000 ≤ F) (size cl : Int32) : ∀ (d k fu : Nat), 6 - k = d → k ≤ 6 → d < fu → ∀ (sig sees : Nat → Int32), (∀ i, i < k → sig i = 0 ∧ sees i = 0) → ∃ sig' sees', fX2_clear_l12 F size cl fu (Int32.ofNat k) sig sees = some (size, cl, sig', sees') ∧ ∀ i, i < 6 → sig' i = 0 ∧ sees' i = 0
  | 0, k, fu, hd, hk, hfu, sig, sees, h => by
    obtain ⟨fu, rfl⟩ : ∃ e, fu = e + 1 := ⟨fu - 1, by omega⟩
    have e : k = 6 := by omega
    subst e
    exact ⟨sig, sees, by rw [fX2_clear_l12, fX2_clear_l12_b, if_pos (by decide)], h⟩
  | d + 1, k, fu, hd, hk, hfu, sig, sees, h => by
    obtain ⟨fu, rfl⟩ : ∃ e, fu = e + 1 := ⟨fu - 1, by omega⟩
    have w6 : ((6 : Int32) ≤ Int32.ofNat k) = (6 ≤ k) := by rw [show (6 : Int32) = Int32.ofNat 6 from rfl, p_le (by omega) (by omega)]
    rw [fX2_clear_l12, fX2_clear_l12_b, if_neg (by rw [w6]; omega), p_cl (show k < 2147483648 by omega), if_neg (gx (show k < 6 by omega) (by omega)), if_neg (gx (show k < 6 by omega) (by omega)), p_s]
    refine clear_c F hF size cl d (k + 1) fu (by omega) (by omega) (by omega) _ _ fun i hi => ?_
    rw [upd_at, upd_at]
    by_cases e : i = k
    · rw [if_pos e, if_pos e]
      exact ⟨rfl, rfl⟩
    · rw [if_neg e, if_neg e]
      exact h i (by omega)
def inn (n : Nat) (g : Nat → Nat) : Nat → Option Nat := fun i => if i < n then some (g i) else none
theorem inn_ok {n : Nat} {g : Nat → Nat} (hg : ∀ i, i < n → g i ≤ 9) : HallOk n (inn n g) := by
  refine ⟨fun i hi => if_neg (by omega), fun i q h => ?_⟩
  unfold inn at h
  by_cases hi : i < n
  · rw [if_pos hi] at h
    have := hg i hi
    have : g i = q := Option.some.inj h
    omega
  · rw [if_neg hi] at h
    cases h
theorem arr_c (F : Nat) {n : Nat} (hn : n ≤ 6) {gri : Nat → Int32} {g : Nat → Nat} (hg : ∀ i, i < n → g i ≤ 9 ∧ gri i = Int32.ofNat (g i)) (hF : 1000000 ≤ F) : fX2_arrival F (Int32.ofNat n) gri = some (enc (inn n g)) := by
  unfold fX2_arrival
  have key := loop_up (fun fu (a : Int64 × Int32) => fX2_arrival_l4 F (Int32.ofNat n) gri fu a.1 a.2) n (fun k => (enc (inn k g), Int32.ofNat k)) (some (enc (inn n g))) ?_ ?_ F (by omega)
  · exact key
  · intro fu k hk
    have f0 : ¬ (Int32.ofNat n ≤ Int32.ofNat k) := of_eq_false (by rw [p_le (by omega) (by omega)]; exact p_nle hk)
    dsimp only
    rw [fX2_arrival_l4, fX2_arrival_l4_b, if_neg f0, p_cl (show k < 2147483648 by omega), if_neg (gx (show k < 6 by omega) (by omega)), (hg k hk).2, c_withNew F (inn_ok (fun i hi => (hg i (by omega)).1)).hb (by omega) (if_neg (Nat.lt_irrefl k)) (show g k < 32 by have := (hg k hk).1; omega), bd1_mk, p_s]
    refine congrArg (fun z => fX2_arrival_l4 F (Int32.ofNat n) gri fu z (Int32.ofNat (k + 1))) (enc_congr fun i hi => ?_)
    unfold ups inn
    by_cases e : i = k
    · subst e
      rw [if_pos rfl, if_pos (by omega)]
    · rw [if_neg e]
      by_cases h : i < k
      · rw [if_pos h, if_pos (by omega)]
      · rw [if_neg h, if_neg (by omega)]
  · intro fu
    dsimp only
    rw [fX2_arrival_l4, fX2_arrival_l4_b, if_pos (Int32.le_refl _)]
theorem kdee_c (F p6 p12 : Nat) (ts : Nat → Int32) (tm : Nat → Nat → Int32) (psize : Int32) (pgri : Nat → Int32) (rdue rtun rsee rbeg qsize qclause : Int32) (qeff qkin qgri qsig qsee : Nat → Int32) (cdee : Int32) (cnow : Int64) (fc : Nat → Int32) (lf : Int32) (kdee : Nat → Int32) (hF : 1000000 ≤ F) : fX5_party_l90 F p6 p12 ts tm psize pgri rdue rtun rsee rbeg qsize qclause qeff qkin qgri qsig qsee cdee cnow fc lf F 0 kdee = some (qsize, rdue, rtun, rsee, rbeg, qsize, qclause, qeff, qkin, qgri, qsig, qsee, cdee, cnow, fun i => if i < 3 then -1 else kdee i, fc, lf, p12, p6) := by
  have key := loop_up (fun fu (a : Int32 × (Nat → Int32)) => fX5_party_l90 F p6 p12 ts tm psize pgri rdue rtun rsee rbeg qsize qclause qeff qkin qgri qsig qsee cdee cnow fc lf fu a.1 a.2) 3 (fun k => (Int32.ofNat k, fun i => if i < k then -1 else kdee i)) (some (qsize, rdue, rtun, rsee, rbeg, qsize, qclause, qeff, qkin, qgri, qsig, qsee, cdee, cnow, fun i => if i < 3 then -1 else kdee i, fc, lf, p12, p6)) ?_ ?_ F (by omega)
  · have e0 : (fun i => if i < 0 then (-1 : Int32) else kdee i) = kdee := by
      funext i
      rw [if_neg (by omega)]
    dsimp only at key
    rw [e0] at key
    exact key
  · intro fu k hk
    have f0 : ¬ ((3 : Int32) ≤ Int32.ofNat k) := of_eq_false (by rw [show (3 : Int32) = Int32.ofNat 3 from rfl, p_le (by omega) (by omega)]; exact p_nle hk)
    dsimp only
    rw [fX5_party_l90, fX5_party_l90_b, if_neg f0, p_cl (show k < 2147483648 by omega), if_neg (gx hk (by omega)), p_s]
    refine congrArg (fX5_party_l90 F p6 p12 ts tm psize pgri rdue rtun rsee rbeg qsize qclause qeff qkin qgri qsig qsee cdee cnow fc lf fu (Int32.ofNat (k + 1))) ?_
    funext i
    rw [vaup_at]
    by_cases e : i = k
    · rw [if_pos e, if_pos (by omega)]
    · rw [if_neg e]
      by_cases h : i < k
      · rw [if_pos h, if_pos (by omega)]
      · rw [if_neg h, if_neg (by omega)]
  · intro fu
    dsimp only
    rw [fX5_party_l90, fX5_party_l90_b, if_pos (by decide)]
