/-- the reader between two signs: due, tune, seer, begun, size, clause, effects, kinds, griefs, sights, seers -/
abbrev RdS : Type := Int32 × Int32 × Int32 × Int32 × Int32 × Int32 × (Nat → Int32) × (Nat → Int32) × (Nat → Int32) × (Nat → Int32) × (Nat → Int32)
def mkR (due tun see beg size cl : Int32) (eff kin gri sig sees : Nat → Int32) : RdS := (due, tun, see, beg, size, cl, eff, kin, gri, sig, sees)
def rdT (F : Nat) (q : RdS) (ch : Int32) : Option RdS := match fX4_takes F q.1 q.2.1 q.2.2.1 q.2.2.2.1 q.2.2.2.2.1 q.2.2.2.2.2.1 q.2.2.2.2.2.2.1 q.2.2.2.2.2.2.2.1 q.2.2.2.2.2.2.2.2.1 q.2.2.2.2.2.2.2.2.2.1 q.2.2.2.2.2.2.2.2.2.2 ch with
  | none => none
  | some (r, z) => if r = 0 then none else some z
def rd (F : Nat) (q0 : RdS) (txt : Nat → Int32) : Nat → Option RdS
  | 0 => some q0
  | k + 1 => match rd F q0 txt k with
    | none => none
    | some q => rdT F q (txt k)
theorem rd_congr {F : Nat} {q0 : RdS} {t u : Nat → Int32} : ∀ k, (∀ j, j < k → t j = u j) → rd F q0 t k = rd F q0 u k
  | 0, _ => rfl
  | k + 1, h => by rw [rd, rd, rd_congr k (fun j hj => h j (by omega)), h k (by omega)]
theorem rd_s {F : Nat} {q0 q q' : RdS} {t : Nat → Int32} {k : Nat} (h : rd F q0 t k = some q) (h2 : rdT F q (t k) = some q') : rd F q0 t (k + 1) = some q' := by rw [rd, h]; exact h2
def LLr (F : Nat) (txt : Nat → Int32) (fu p : Nat) (q : RdS) := fX4_faultOf_l22 F txt (Int32.ofNat 80) fu (Int32.ofNat p) q.1 q.2.1 q.2.2.1 q.2.2.2.1 q.2.2.2.2.1 q.2.2.2.2.2.1 q.2.2.2.2.2.2.1 q.2.2.2.2.2.2.2.1 q.2.2.2.2.2.2.2.2.1 q.2.2.2.2.2.2.2.2.2.1 q.2.2.2.2.2.2.2.2.2.2
theorem LLr_s {F : Nat} {txt : Nat → Int32} {fu p : Nat} {q q' : RdS} (hp : p < 80) (h : rdT F q (txt p) = some q') : LLr F txt (fu + 1) p q = LLr F txt fu (p + 1) q' := by
  have f0 : ¬ (Int32.ofNat 80 ≤ Int32.ofNat p) := of_eq_false (by rw [p_le (by omega) (by omega)]; exact p_nle hp)
  unfold LLr
  rw [fX4_faultOf_l22, fX4_faultOf_l22_b, if_neg f0, if_neg (p_ix hp (by omega)), p_cl (show p < 2147483648 by omega), p_s]
  unfold rdT at h
  cases e : fX4_takes F q.1 q.2.1 q.2.2.1 q.2.2.2.1 q.2.2.2.2.1 q.2.2.2.2.2.1 q.2.2.2.2.2.2.1 q.2.2.2.2.2.2.2.1 q.2.2.2.2.2.2.2.2.1 q.2.2.2.2.2.2.2.2.2.1 q.2.2.2.2.2.2.2.2.2.2 (txt p) with
  | none => rw [e] at h; cases h
  | some z =>
    obtain ⟨r, z1, z2, z3, z4, z5, z6, z7, z8, z9, z10, z11⟩ := z
    rw [e] at h
    dsimp only at h
    rw [bd12_mk]
    by_cases hr : r = 0
    · rw [if_pos hr] at h; cases h
    · rw [if_neg hr] at h ⊢
      cases h
      rfl
theorem rd_run {F : Nat} {txt : Nat → Int32} {q0 : RdS} : ∀ (k : Nat) (q : RdS), rd F q0 txt k = some q → k ≤ 80 → ∀ fu, LLr F txt (fu + k) 0 q0 = LLr F txt fu k q
  | 0, q, h, _, fu => by cases h; rfl
  | k + 1, q, h, hk, fu => by
    rw [rd] at h
    cases e : rd F q0 txt k with
    | none => rw [e] at h; cases h
    | some q1 =>
      rw [e] at h
      dsimp only at h
      rw [show fu + (k + 1) = fu + 1 + k by omega, rd_run k q1 e (by omega) (fu + 1), LLr_s (by omega) h]
theorem ch_32 {m : Nat} (h1 : 33 ≤ m) (h2 : m < 128) : ¬ (Int32.ofNat m = (32 : Int32)) := of_eq_false (by rw [show (32 : Int32) = Int32.ofNat 32 from rfl, p_eq (by omega) (by omega)]; exact eq_false (by omega))
theorem ch_fig {v : Nat} (h : v ≤ 9) : Int32.ofNat (48 + v) - (48 : Int32) = Int32.ofNat v := by
  rw [show (48 : Int32) = Int32.ofNat 48 from rfl, p_sub (by omega)]
  congr 1
  omega
theorem y_fig (F : Nat) {v : Nat} (h : v ≤ 9) : fX4_isFigure F (Int32.ofNat v) = some 1 := by
  unfold fX4_isFigure
  rw [if_neg (of_eq_false (p_neg (by omega))), if_neg (of_eq_false (by rw [show (9 : Int32) = Int32.ofNat 9 from rfl, p_lt (by omega) (by omega)]; exact eq_false (by omega)))]
section RDT
variable {F : Nat} {tun see beg size cl : Int32} {eff kin gri sig sees : Nat → Int32}
theorem rd_blank : rdT F (mkR 3 tun see beg size cl eff kin gri sig sees) 32 = some (mkR 3 tun see beg size cl eff kin gri sig sees) := rfl
theorem rd_c : rdT F (mkR 0 tun see beg size cl eff kin gri sig sees) 99 = some (mkR 1 tun see beg size cl eff kin gri sig sees) := rfl
theorem rd_clause {c : Nat} (h1 : 1 ≤ c) (h9 : c ≤ 9) : rdT F (mkR 1 tun see beg size cl eff kin gri sig sees) (Int32.ofNat (48 + c)) = some (mkR 2 tun see beg size (Int32.ofNat c) eff kin gri sig sees) := by
  have w1 : ¬ (Int32.ofNat c < (1 : Int32)) := of_eq_false (by rw [show (1 : Int32) = Int32.ofNat 1 from rfl, p_lt (by omega) (by omega)]; exact eq_false (by omega))
  have w9 : ¬ ((9 : Int32) < Int32.ofNat c) := of_eq_false (by rw [show (9 : Int32) = Int32.ofNat 9 from rfl, p_lt (by omega) (by omega)]; exact eq_false (by omega))
  unfold rdT mkR fX4_takes fX4_takesClause
  dsimp only
  rw [if_neg (ch_32 (by omega) (by omega)), if_neg (by decide), if_pos (by decide), ch_fig h9, if_neg w1, if_neg w9, bd3_mk]
  rfl
theorem rd_eff {v k : Nat} (hv : v ≤ 9) (hk : k < 4) : rdT F (mkR 2 (Int32.ofNat k) see beg size cl eff kin gri sig sees) (Int32.ofNat (48 + v)) = some (mkR (if 4 ≤ k + 1 then 3 else 2) (Int32.ofNat (k + 1)) see beg size cl (upd eff k (Int32.ofNat v + (-4 : Int32))) kin gri sig sees) := by
  have w : ((4 : Int32) ≤ Int32.ofNat (k + 1)) = (4 ≤ k + 1) := by rw [show (4 : Int32) = Int32.ofNat 4 from rfl, p_le (by omega) (by omega)]
  unfold rdT mkR fX4_takes fX4_takesEffect
  dsimp only
  rw [if_neg (ch_32 (by omega) (by omega)), if_neg (by decide), if_neg (by decide), if_pos (by decide), ch_fig hv, y_fig F hv, bd1_mk, if_neg (by decide), show fX5_isTune F (Int32.ofNat k) = some 1 from c_rng1 hk (by decide), bd1_mk, if_neg (by decide), p_cl (show k < 2147483648 by omega), if_neg (gx hk (by omega)), p_s]
  by_cases h : 4 ≤ k + 1
  · rw [if_pos (by rw [w]; exact h), bd4_mk, if_pos h]; rfl
  · rw [if_neg (by rw [w]; exact h), bd4_mk, if_neg h]; rfl
def letN (k : Nat) : Nat := if k = 0 then 103 else if k = 1 then 100 else if k = 2 then 115 else if k = 3 then 109 else if k = 4 then 117 else 121
theorem let_tab : ∀ k, k < 6 → fX4_kindByLetter 0 (Int32.ofNat (letN k)) = some (Int32.ofNat k) ∧ ¬ (Int32.ofNat (letN k) = (32 : Int32)) ∧ ¬ (Int32.ofNat (letN k) = (120 : Int32)) ∧ ¬ (Int32.ofNat k = (-9 : Int32)) := by decide +kernel
theorem rd_letter {k i : Nat} (hk : k ≤ 5) (hi : i < 6) : rdT F (mkR 3 tun see 0 (Int32.ofNat i) cl eff kin gri sig sees) (Int32.ofNat (letN k)) = some (mkR 4 tun see 0 (Int32.ofNat i) cl eff (upd kin i (Int32.ofNat k)) gri sig sees) := by
  obtain ⟨e1, e2, e3, e4⟩ := let_tab k (by omega)
  have w : Int32.ofNat i < (6 : Int32) := of_eq_true (by rw [show (6 : Int32) = Int32.ofNat 6 from rfl, p_lt (by omega) (by omega)]; exact eq_true hi)
  unfold rdT mkR fX4_takes fX4_takesLetter
  dsimp only
  rw [if_neg e2, if_neg (by decide), if_neg (by decide), if_neg (by decide), if_pos (by decide), if_neg e3, show fX4_kindByLetter F (Int32.ofNat (letN k)) = some (Int32.ofNat k) from e1, bd1_mk, if_neg e4, if_pos rfl, if_pos w, p_cl (show i < 2147483648 by omega), if_neg (gx hi (by omega)), bd4_mk]
  rfl
theorem rd_grief {g i : Nat} (hg : g ≤ 9) (hi : i < 6) : rdT F (mkR 4 tun see beg (Int32.ofNat i) cl eff kin gri sig sees) (Int32.ofNat (48 + g)) = some (mkR 3 tun see beg (Int32.ofNat (i + 1)) cl eff kin (upd gri i (Int32.ofNat g)) sig sees) := by
  have w : Int32.ofNat i < (6 : Int32) := of_eq_true (by rw [show (6 : Int32) = Int32.ofNat 6 from rfl, p_lt (by omega) (by omega)]; exact eq_true hi)
  unfold rdT mkR fX4_takes fX4_takesGrief
  dsimp only
  rw [if_neg (ch_32 (by omega) (by omega)), if_neg (by decide), if_neg (by decide), if_neg (by decide), if_neg (by decide), if_pos (by decide), ch_fig hg, y_fig F hg, bd1_mk, if_neg (by decide), if_pos w, p_cl (show i < 2147483648 by omega), if_neg (gx hi (by omega)), p_s, bd4_mk]
  rfl
theorem rd_x {n : Nat} (h0 : 0 < n) (hn : n ≤ 6) : rdT F (mkR 3 tun see beg (Int32.ofNat n) cl eff kin gri sig sees) 120 = some (mkR 5 tun see 1 (Int32.ofNat n) cl eff kin gri sig sees) := by
  have w : ¬ (Int32.ofNat n ≤ 0) := of_eq_false (by rw [show (0 : Int32) = Int32.ofNat 0 from rfl, p_le (by omega) (by omega)]; exact eq_false (by omega))
  unfold rdT mkR fX4_takes fX4_takesLetter
  dsimp only
  rw [if_neg (by decide), if_neg (by decide), if_neg (by decide), if_neg (by decide), if_pos (by decide), if_pos (by decide), if_neg w, bd4_mk]
  rfl
theorem rd_seer {a n : Nat} (ha : a < n) (hn : n ≤ 6) : rdT F (mkR 5 tun see beg (Int32.ofNat n) cl eff kin gri sig sees) (Int32.ofNat (48 + a)) = some (mkR 6 tun (Int32.ofNat a) beg (Int32.ofNat n) cl eff kin gri sig sees) := by
  have w : ¬ (Int32.ofNat n ≤ Int32.ofNat a) := of_eq_false (by rw [p_le (by omega) (by omega)]; exact p_nle ha)
  unfold rdT mkR fX4_takes fX4_takesSeer
  dsimp only
  rw [if_neg (ch_32 (by omega) (by omega)), if_neg (by decide), if_neg (by decide), if_neg (by decide), if_neg (by decide), if_neg (by decide), if_pos (by decide), ch_fig (show a ≤ 9 by omega), if_neg (of_eq_false (p_neg (by omega))), if_neg w, bd3_mk]
  rfl
theorem rd_seen {a b n : Nat} (ha : a < n) (hb : b < n) (hn : n ≤ 6) (hab : b ≠ a) (hbit : ((sig a >>> (Int32.ofNat b &&& 31)) &&& (1 : Int32)) = 0) : rdT F (mkR 6 tun (Int32.ofNat a) beg (Int32.ofNat n) cl eff kin gri sig sees) (Int32.ofNat (48 + b)) = some (mkR 3 tun (Int32.ofNat a) beg (Int32.ofNat n) cl eff kin gri (upd sig a (sig a ||| ((1 : Int32) <<< (Int32.ofNat b &&& 31)))) (upd sees b (sees b ||| ((1 : Int32) <<< (Int32.ofNat a &&& 31))))) := by
  have w : ¬ (Int32.ofNat n ≤ Int32.ofNat b) := of_eq_false (by rw [p_le (by omega) (by omega)]; exact p_nle hb)
  have wab : ¬ (Int32.ofNat b = Int32.ofNat a) := of_eq_false (by rw [p_eq (by omega) (by omega)]; exact eq_false hab)
  unfold rdT mkR fX4_takes fX4_takesSeen fX4_takesSeen_n25
  dsimp only
  rw [if_neg (ch_32 (by omega) (by omega)), if_neg (by decide), if_neg (by decide), if_neg (by decide), if_neg (by decide), if_neg (by decide), if_neg (by decide), ch_fig (show b ≤ 9 by omega), if_neg (of_eq_false (p_neg (by omega))), if_neg w, if_neg wab, if_neg (by decide), p_cl (show a < 2147483648 by omega), if_neg (gx (show a < 6 by omega) (by omega)), if_pos hbit, if_neg (gx (show a < 6 by omega) (by omega)), if_neg (gx (show a < 6 by omega) (by omega)), p_cl (show b < 2147483648 by omega), if_neg (gx (show b < 6 by omega) (by omega)), if_neg (gx (show b < 6 by omega) (by omega)), bd4_mk]
  rfl
end RDT
/-- a whole text read: blanks behind the last sight -/
theorem rd_tail {F : Nat} {txt : Nat → Int32} {q0 : RdS} {at' : Nat} {tun see beg size cl : Int32} {eff kin gri sig sees : Nat → Int32} (h : rd F q0 txt at' = some (mkR 3 tun see beg size cl eff kin gri sig sees)) (ht : ∀ p, at' ≤ p → p < 80 → txt p = 32) : ∀ d, at' + d ≤ 80 → rd F q0 txt (at' + d) = some (mkR 3 tun see beg size cl eff kin gri sig sees)
  | 0, _ => h
  | d + 1, hd => rd_s (k := at' + d) (rd_tail h ht d (by omega)) (by rw [ht (at' + d) (by omega) (by omega)]; exact rd_blank)
theorem fault_none (F : Nat) {due tun0 see0 beg0 size0 cl0 : Int32} {eff0 kin0 gri0 sig0 sees0 : Nat → Int32} (hF : 1000000 ≤ F) : ∃ sig1 sees1 : Nat → Int32, (∀ i, i < 6 → sig1 i = 0 ∧ sees1 i = 0) ∧ ∀ (txt : Nat → Int32) at' n tun see beg cl eff kin gri sig sees, at' ≤ 80 → 0 < n → n ≤ 6 → (∀ p, at' ≤ p → p < 80 → txt p = 32) → rd F (mkR 0 0 see0 0 0 0 eff0 kin0 gri0 sig1 sees1) txt at' = some (mkR 3 tun see beg (Int32.ofNat n) cl eff kin gri sig sees) → fX4_faultOf F due tun0 see0 beg0 txt size0 cl0 eff0 kin0 gri0 sig0 sees0 (Int32.ofNat 80) = some (-9, 3, tun, see, beg, Int32.ofNat n, cl, eff, kin, gri, sig, sees) := by
  obtain ⟨sig1, sees1, h1, h2⟩ := clear_c F hF 0 0 6 0 F rfl (by omega) (by omega) sig0 sees0 (fun i hi => absurd hi (by omega))
  refine ⟨sig1, sees1, h2, fun txt at' n tun see beg cl eff kin gri sig sees hat h0 hn htx hr => ?_⟩
  have w : ¬ (Int32.ofNat n ≤ 0) := of_eq_false (by rw [show (0 : Int32) = Int32.ofNat 0 from rfl, p_le (by omega) (by omega)]; exact eq_false (by omega))
  have h80 := rd_tail hr htx (80 - at') (by omega)
  rw [show at' + (80 - at') = 80 by omega] at h80
  obtain ⟨f, hf⟩ : ∃ f, F = (f + 1) + 80 := ⟨F - 81, by omega⟩
  have e := rd_run 80 _ h80 (by omega) (f + 1)
  rw [← hf] at e
  unfold fX4_faultOf fX2_clear
  rw [show fX2_clear_l12 F 0 0 F 0 sig0 sees0 = _ from h1, bd4_mk]
  refine (show _ = LLr F txt F 0 (mkR 0 0 see0 0 0 0 eff0 kin0 gri0 sig1 sees1) from rfl).trans (e.trans ?_)
  unfold LLr mkR
  dsimp only
  rw [fX4_faultOf_l22, fX4_faultOf_l22_b, if_pos (Int32.le_refl _), if_pos (by decide), if_neg w]
