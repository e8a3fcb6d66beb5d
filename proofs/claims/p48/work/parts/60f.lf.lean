/-- whom nobody sees that is in -/
def unS (n : Nat) (S : Nat → Nat → Bool) (s : Nat → Option Nat) : Nat → Bool := fun e => decide (e < n) && !any6 (fun j => (s j).isSome && S j e)
/-- a spy is never out -/
def NoSpy (n : Nat) (K : Nat → Nat) (s : Nat → Option Nat) : Prop := ∀ e, e < n → s e = none → K e ≠ 5
/-- what a deed does: who is out stays out; who is out by it was seen, and is no spy -/
def Step (n : Nat) (K : Nat → Nat) (S : Nat → Nat → Bool) (s s' : Nat → Option Nat) : Prop := HallOk n s' ∧ (∀ i, (s' i).isSome = true → (s i).isSome = true) ∧ ∀ i, (s i).isSome = true → (s' i).isSome = false → K i ≠ 5 ∧ any6 (fun j => (s j).isSome && S j i) = true
/-- refused, or one deed more -/
def DeS (d de : Nat) (s s' : Nat → Option Nat) (x17 : Int32) (cahe : Nat → Int64) : Prop := (x17 = -4 ∧ de = d ∧ s' = s) ∨ (∃ m, m < 64 ∧ x17 = Int32.ofNat m ∧ de = d + 1 ∧ cahe d = enc s)
/-- who is out by it -/
def byS (s s' : Nat → Option Nat) : Nat → Bool := fun i => (s i).isSome && !(s' i).isSome
theorem Step.self {n : Nat} {K : Nat → Nat} {S : Nat → Nat → Bool} {s : Nat → Option Nat} (hs : HallOk n s) : Step n K S s s := ⟨hs, fun _ h => h, fun i h1 h2 => by rw [h1] at h2; cases h2⟩
theorem looks_step {n c : Nat} {K : Nat → Nat} {S : Nat → Nat → Bool} {s z : Nat → Option Nat} (hz : HallOk n z) (he : ∀ i, (z i).isSome = (s i).isSome) : Step n K S s (looksS c K S z) := by
  refine ⟨looksS_ok hz, fun i h => ?_, fun i h1 h2 => ?_⟩
  · rw [looksS_some, Bool.and_eq_true, he] at h
    exact h.1
  · rw [looksS_some, he, h1, Bool.true_and] at h2
    have hg : goes c K S z i = true := by
      cases e : goes c K S z i
      · rw [e] at h2; cases h2
      · rfl
    unfold goes at hg
    rw [Bool.and_eq_true, Bool.and_eq_true, Bool.and_eq_true] at hg
    refine ⟨fun q => ?_, ?_⟩
    · have := hg.1.2
      rw [q] at this
      cases this
    · rw [← any_congr (p := fun j => (z j).isSome && S j i) (fun j _ => by rw [he j])]
      exact hg.2
theorem ups_some {s : Nat → Option Nat} {i v : Nat} (hi : (s i).isSome = true) : ∀ j, (ups s i v j).isSome = (s j).isSome := fun j => by
  unfold ups
  by_cases e : j = i
  · subst e; rw [if_pos rfl, hi]; rfl
  · rw [if_neg e]
theorem tune_step {n c : Nat} {E : Nat → Int} {K : Nat → Nat} {S : Nat → Nat → Bool} {s : Nat → Option Nat} {t : Nat} (hs : HallOk n s) (ht : t < 4) (hE : -4 ≤ E t ∧ E t ≤ 5) (hK : ∀ i, i < n → K i ≤ 5) : Step n K S s (tuneS c E K S t s) := looks_step (mapT_ok hs ht hE hK) (fun i => mapT_some i)
theorem name_step {n c : Nat} {K : Nat → Nat} {S : Nat → Nat → Bool} {s : Nat → Option Nat} {i : Nat} (hs : HallOk n s) (hi : i < n) (hin : (s i).isSome = true) : Step n K S s (nameS c K S i s) := looks_step (ups_ok hs hi (nm_le _ _)) (ups_some hin)
theorem ice_step {n c : Nat} {K : Nat → Nat} {S : Nat → Nat → Bool} {s : Nat → Option Nat} {i : Nat} (hs : HallOk n s) (hi : i < n) (hin : (s i).isSome = true) : Step n K S s (iceS c K S i s) := looks_step (ups_ok hs hi (by have := hs.gv20 i; omega)) (ups_some hin)
theorem step_spy {n : Nat} {K : Nat → Nat} {S : Nat → Nat → Bool} {s s' : Nat → Option Nat} (h : Step n K S s s') (hy : NoSpy n K s) : NoSpy n K s' := fun e he hn => by
  cases hs : (s e).isSome with
  | false => exact hy e he (by cases q : s e with | none => rfl | some g => rw [q] at hs; cases hs)
  | true => exact (h.2.2 e hs (by rw [hn]; rfl)).1
theorem out_in {n : Nat} {s : Nat → Option Nat} (hs : HallOk n s) (hn : n ≤ 6) : pop (oS n s) + inP s = n := by
  have e : ∀ i, oS n s i = (decide (i < n) && !(s i).isSome) := fun i => by unfold oS; rw [isN]
  have hi : ∀ i, (s i).isSome = true → i < n := fun i h => by
    by_cases q : i < n
    · exact q
    · rw [hs.1 i (by omega)] at h; cases h
  have key : ∀ i, (oS n s i).toNat + (s i).isSome.toNat = (decide (i < n)).toNat := fun i => by
    rw [e]
    cases h : (s i).isSome
    · cases decide (i < n) <;> rfl
    · rw [decide_eq_true (hi i h)]; rfl
  have hp := inP_inn (n := n) (g := fun _ => 0) hn
  unfold inP at hp ⊢
  rw [show (fun i => (inn n (fun _ => 0) i).isSome) = fun i => decide (i < n) from funext fun i => inn_some i] at hp
  simp only [pop] at hp ⊢
  have a0 := key 0; have a1 := key 1; have a2 := key 2; have a3 := key 3; have a4 := key 4; have a5 := key 5
  omega
theorem un_by {n : Nat} {K : Nat → Nat} {S : Nat → Nat → Bool} {s s' : Nat → Option Nat} (h : Step n K S s s') : st (byS s s') &&& st (unS n S s) = 0 := by
  rw [st_and, st_zero, any_f]
  intro i _
  unfold byS unS
  cases h1 : (s i).isSome
  · rfl
  cases h2 : (s' i).isSome
  · rw [(h.2.2 i h1 h2).2]; simp
  · rfl
theorem by_or {n : Nat} {K : Nat → Nat} {S : Nat → Nat → Bool} {s s' : Nat → Option Nat} (hs : HallOk n s) (h : Step n K S s s') : st (oS n s') = st (oS n s) ||| st (byS s s') := by
  rw [st_or]
  refine st_congr fun i _ => ?_
  unfold oS byS
  rw [isN, isN]
  cases h1 : (s i).isSome with
  | false =>
    have : (s' i).isSome = false := by
      cases q : (s' i).isSome
      · rfl
      · rw [h.2.1 i q] at h1; cases h1
    rw [this]; simp
  | true =>
    have : i < n := by
      by_cases q : i < n
      · exact q
      · rw [hs.1 i (by omega)] at h1; cases h1
    rw [decide_eq_true this]; simp
theorem by_and {n : Nat} {s s' : Nat → Option Nat} : st (oS n s) &&& st (byS s s') = 0 := by
  rw [st_and, st_zero, any_f]
  intro i _
  unfold oS byS
  rw [isN]
  cases (s i).isSome <;> simp
theorem by_out {n : Nat} {K : Nat → Nat} {S : Nat → Nat → Bool} {s s' : Nat → Option Nat} (hs : HallOk n s) (h : Step n K S s s') : st (oS n s') &&& (st (oS n s) ^^^ (-1 : Int32)) = st (byS s s') := by
  rw [st_andn]
  refine st_congr fun i _ => ?_
  unfold oS byS
  rw [isN, isN]
  cases h1 : (s i).isSome with
  | false =>
    have : (s' i).isSome = false := by
      cases q : (s' i).isSome
      · rfl
      · rw [h.2.1 i q] at h1; cases h1
    rw [this]; cases decide (i < n) <;> rfl
  | true =>
    have : i < n := by
      by_cases q : i < n
      · exact q
      · rw [hs.1 i (by omega)] at h1; cases h1
    rw [decide_eq_true this]; simp
theorem goes_by {c : Nat} {E : Nat → Int} {K : Nat → Nat} {S : Nat → Nat → Bool} {t : Nat} {s : Nat → Option Nat} : st (goes c K S (mapT E K t s)) = st (byS s (tuneS c E K S t s)) := by
  rw [← out_set, st_andn]
  rfl
theorem d_538 (F : Nat) (s69 : Int32 → Int32 → Int64 → (Nat → Int64) → Int32 → Option (Int32)) (L : Nat) (xs : Nat → Int32) (x8 : Int32) (x17 : Int32) (rs : Nat → Int32) (rm : Nat → Nat → Int32) (ts : Nat → Int32) (tm : Nat → Nat → Int32) (rdue : Int32) (rtun : Int32) (rsee : Int32) (rbeg : Int32) (peff : Nat → Int32) (pkin : Nat → Int32) (pgri : Nat → Int32) (psig : Nat → Int32) (psee : Nat → Int32) (qsize : Int32) (qclause : Int32) (qeff : Nat → Int32) (qkin : Nat → Int32) (qgri : Nat → Int32) (qsig : Nat → Int32) (qsee : Nat → Int32) (cahe : Nat → Int64) (kdee : Nat → Int32) (know : Nat → Int64) (kahe : Nat → Nat → Int64) (fc : Nat → Int32) (lf : Int32) (told : Int32) (up : Int64) (lo : Int64) (zz : Nat → Int32) (tt : Nat → Int32) {n c d de k7 tu : Nat} {E : Nat → Int} {K : Nat → Nat} {S : Nat → Nat → Bool} {s s' s0 : Nat → Option Nat} (P : Option Int32 → Prop) (h : LH F L n c E K S peff pkin psig psee zz tt s0) (hs : HallOk n s) (hY : NoSpy n K s) (hd : d ≤ k7) (h19 : k7 < 19) (hst : Step n K S s s') (hde : DeS d de s s' x17 cahe) (hself : ∀ (de : Int32) (no : Int64) (ah : Nat → Int64) (td : Int32), (∃ (d' : Nat) (s1 : Nat → Option Nat), d' ≤ k7 + 1 ∧ de = Int32.ofNat d' ∧ no = enc s1 ∧ HallOk n s1 ∧ NoSpy n K s1) → P (s69 (Int32.ofNat (k7 + 1)) de no ah td)) : P (fL_law_n538 F s69 L xs (Int32.ofNat n) (Int32.ofNat (2 ^ n - 1)) (Int32.ofNat tu) (Int32.ofNat k7) x8 (Int32.ofNat d) (Int32.ofNat (inP s)) (Int32.ofNat (sg s 6)) (st (oS n s)) x17 rs rm ts tm rdue rtun rsee rbeg (Int32.ofNat n) (Int32.ofNat c) peff pkin pgri psig psee qsize qclause qeff qkin qgri qsig qsee (Int32.ofNat de) (enc s') cahe kdee know kahe fc lf told up lo zz tt) := by
  obtain ⟨hF, hL, hG, hs0, hin0, hz0, hzE, hzK, htt⟩ := id h
  have hn := hG.n6
  have hpl : inP s ≤ 6 := pop_le _
  have hY' := step_spy hst hY
  unfold fL_law_n538
  rw [p_s]
  rcases hde with ⟨rfl, rfl, rfl⟩ | ⟨m, hm, rfl, rfl, hah⟩
  · rw [if_pos (by decide)]
    exact hself _ _ _ _ ⟨de, s', by omega, rfl, rfl, hs, hY⟩
  · obtain ⟨p, hp, ep⟩ := y_part F (x8 >>> ((20 : Int32) &&& 31)) (m := 5) (by decide) (by decide)
    obtain ⟨td, eo⟩ := y_outs F hG hs hF told
    rw [if_neg (of_eq_false (p_neg (by omega))), show fL_part F (x8 >>> ((20 : Int32) &&& 31)) (5 : Int32) = some (Int32.ofNat p) from ep, bd1_mk]
    by_cases hp0 : Int32.ofNat p = 0
    · rw [if_pos hp0, cx_undo F (d := d + 1) (k := d) (by omega) (by omega), bd3_mk, show d + 1 - d = 1 by omega, if_pos (by rfl), hah, cx_count3 F _ _ _ _ _ _ _ hs.hb, bd1_mk, if_pos rfl, cx_count4 F _ _ _ _ _ _ _ hs.hb hF, bd1_mk, if_pos rfl, eo, bd2_mk, if_pos rfl]
      exact hself _ _ _ _ ⟨d, s, by omega, rfl, rfl, hs, hY⟩
    · rw [if_neg hp0]
      exact hself _ _ _ _ ⟨d + 1, s', by omega, rfl, rfl, hst.1, hY'⟩
theorem d_499 (F : Nat) (s69 : Int32 → Int32 → Int64 → (Nat → Int64) → Int32 → Option (Int32)) (L : Nat) (xs : Nat → Int32) (x8 : Int32) (x17 : Int32) (rs : Nat → Int32) (rm : Nat → Nat → Int32) (ts : Nat → Int32) (tm : Nat → Nat → Int32) (rdue : Int32) (rtun : Int32) (rsee : Int32) (rbeg : Int32) (peff : Nat → Int32) (pkin : Nat → Int32) (pgri : Nat → Int32) (psig : Nat → Int32) (psee : Nat → Int32) (qsize : Int32) (qclause : Int32) (qeff : Nat → Int32) (qkin : Nat → Int32) (qgri : Nat → Int32) (qsig : Nat → Int32) (qsee : Nat → Int32) (cahe : Nat → Int64) (kdee : Nat → Int32) (know : Nat → Int64) (kahe : Nat → Nat → Int64) (fc : Nat → Int32) (lf : Int32) (told : Int32) (up : Int64) (lo : Int64) (zz : Nat → Int32) (tt : Nat → Int32) {n c d de k7 tu : Nat} {E : Nat → Int} {K : Nat → Nat} {S : Nat → Nat → Bool} {s s' s0 : Nat → Option Nat} (P : Option Int32 → Prop) (h : LH F L n c E K S peff pkin psig psee zz tt s0) (hs : HallOk n s) (hY : NoSpy n K s) (hd : d ≤ k7) (h19 : k7 < 19) (hst : Step n K S s s') (hde : DeS d de s s' x17 cahe) (hself : ∀ (de : Int32) (no : Int64) (ah : Nat → Int64) (td : Int32), (∃ (d' : Nat) (s1 : Nat → Option Nat), d' ≤ k7 + 1 ∧ de = Int32.ofNat d' ∧ no = enc s1 ∧ HallOk n s1 ∧ NoSpy n K s1) → P (s69 (Int32.ofNat (k7 + 1)) de no ah td)) : P (fL_law_n499 F s69 L xs (Int32.ofNat n) (Int32.ofNat (2 ^ n - 1)) (Int32.ofNat tu) (Int32.ofNat k7) x8 (Int32.ofNat d) (Int32.ofNat (inP s)) (Int32.ofNat (sg s 6)) (st (oS n s)) x17 (st (oS n s')) rs rm ts tm rdue rtun rsee rbeg (Int32.ofNat n) (Int32.ofNat c) peff pkin pgri psig psee qsize qclause qeff qkin qgri qsig qsee (Int32.ofNat de) (enc s') cahe kdee know kahe fc lf told up lo zz tt) := by
  obtain ⟨hF, hL, hG, hs0, hin0, hz0, hzE, hzK, htt⟩ := id h
  have hn := hG.n6
  have hpl : inP s ≤ 6 := pop_le _
  have hoi := out_in hst.1 hn
  have e516 : ∀ v : Nat, de = d + v → P (fL_law_n516 F s69 L xs (Int32.ofNat de) (Int32.ofNat d) (Int32.ofNat v) (Int32.ofNat n) (Int32.ofNat (2 ^ n - 1)) (Int32.ofNat tu) (Int32.ofNat k7) x8 (Int32.ofNat d) (Int32.ofNat (inP s)) (Int32.ofNat (sg s 6)) (st (oS n s)) x17 (st (oS n s')) rs rm ts tm rdue rtun rsee rbeg (Int32.ofNat n) (Int32.ofNat c) peff pkin pgri psig psee qsize qclause qeff qkin qgri qsig qsee (Int32.ofNat de) (enc s') cahe kdee know kahe fc lf told up lo zz tt) := by
    intro v hv
    unfold fL_law_n516
    rw [p_add, if_pos (by rw [hv]), cx_count3 F _ _ _ _ _ _ _ hst.1.hb, bd1_mk, y_many F hF, bd1_mk, p_sub (show pop (oS n s') ≤ n by omega), if_pos (by rw [show n - pop (oS n s') = inP s' by omega])]
    exact d_538 (P := P) (h := h) (hs := hs) (hY := hY) (hd := hd) (h19 := h19) (hst := hst) (hde := hde) (hself := hself) ..
  unfold fL_law_n499
  rw [cx_count2, bd1_mk]
  rcases id hde with ⟨e1, e2, e3⟩ | ⟨m, hm, e1, e2, hah⟩
  · rw [if_neg (by rw [e1]; decide)]
    exact e516 0 (by omega)
  · rw [if_pos (by rw [e1]; exact of_eq_true (p_ge0 (by omega)))]
    exact e516 1 (by omega)
theorem d_425 (F : Nat) (s69 : Int32 → Int32 → Int64 → (Nat → Int64) → Int32 → Option (Int32)) (L : Nat) (xs : Nat → Int32) (x8 : Int32) (x17 : Int32) (rs : Nat → Int32) (rm : Nat → Nat → Int32) (ts : Nat → Int32) (tm : Nat → Nat → Int32) (rdue : Int32) (rtun : Int32) (rsee : Int32) (rbeg : Int32) (peff : Nat → Int32) (pkin : Nat → Int32) (pgri : Nat → Int32) (psig : Nat → Int32) (psee : Nat → Int32) (qsize : Int32) (qclause : Int32) (qeff : Nat → Int32) (qkin : Nat → Int32) (qgri : Nat → Int32) (qsig : Nat → Int32) (qsee : Nat → Int32) (cahe : Nat → Int64) (kdee : Nat → Int32) (know : Nat → Int64) (kahe : Nat → Nat → Int64) (fc : Nat → Int32) (lf : Int32) (told : Int32) (up : Int64) (lo : Int64) (zz : Nat → Int32) (tt : Nat → Int32) {n c d de k7 tu : Nat} {E : Nat → Int} {K : Nat → Nat} {S : Nat → Nat → Bool} {s s' s0 : Nat → Option Nat} (P : Option Int32 → Prop) (h : LH F L n c E K S peff pkin psig psee zz tt s0) (hs : HallOk n s) (hY : NoSpy n K s) (hd : d ≤ k7) (h19 : k7 < 19) (hst : Step n K S s s') (hde : DeS d de s s' x17 cahe) (hself : ∀ (de : Int32) (no : Int64) (ah : Nat → Int64) (td : Int32), (∃ (d' : Nat) (s1 : Nat → Option Nat), d' ≤ k7 + 1 ∧ de = Int32.ofNat d' ∧ no = enc s1 ∧ HallOk n s1 ∧ NoSpy n K s1) → P (s69 (Int32.ofNat (k7 + 1)) de no ah td)) : P (fL_law_n425 F s69 L xs (Int32.ofNat n) (Int32.ofNat (2 ^ n - 1)) (Int32.ofNat tu) (Int32.ofNat k7) x8 (Int32.ofNat d) (Int32.ofNat (inP s)) (Int32.ofNat (sg s 6)) (st (oS n s)) x17 (st (oS n s')) rs rm ts tm rdue rtun rsee rbeg (Int32.ofNat n) (Int32.ofNat c) peff pkin pgri psig psee qsize qclause qeff qkin qgri qsig qsee (Int32.ofNat de) (enc s') cahe kdee know kahe fc lf told up lo zz tt) := by
  obtain ⟨hF, hL, hG, hs0, hin0, hz0, hzE, hzK, htt⟩ := id h
  have hn := hG.n6
  have hpl : inP s ≤ 6 := pop_le _
  have hY' := step_spy hst hY
  unfold fL_law_n425
  refine loop_inv (fun fu (a : Int32 × Int32) => fL_law_l428 F s69 L xs (Int32.ofNat n) (Int32.ofNat (2 ^ n - 1)) (Int32.ofNat tu) (Int32.ofNat k7) x8 (Int32.ofNat d) (Int32.ofNat (inP s)) (Int32.ofNat (sg s 6)) (st (oS n s)) x17 (st (oS n s')) rs rm ts tm rdue rtun rsee rbeg (Int32.ofNat n) (Int32.ofNat c) peff pkin pgri psig psee qsize qclause qeff qkin qgri qsig qsee (Int32.ofNat de) (enc s') cahe kdee know kahe fc lf up lo zz tt fu a.1 a.2) n (fun k a => a.1 = Int32.ofNat k) P ?_ ?_ F (0, told) (by omega) rfl
  · rintro fu k ⟨x20, td⟩ hk e1
    dsimp only at e1 ⊢
    subst e1
    have f0 : ¬ (Int32.ofNat n ≤ Int32.ofNat k) := of_eq_false (by rw [p_le (by omega) (by omega)]; exact p_nle hk)
    have hg := hst.1.gv20 k
    have hz6 := gx (show 6 + k < 18 by omega) (by omega)
    have w20 : ¬ ((20 : Int32) < Int32.ofNat (gv s' k)) := of_eq_false (by rw [show (20 : Int32) = Int32.ofNat 20 from rfl, p_lt (by omega) (by omega)]; exact eq_false (by omega))
    rw [fL_law_l428, fL_law_l428_b, if_neg f0, cx_guest1 F hG hst.1 hF td hk, bd2_mk, if_pos rfl, asked_y, bd1_mk, if_neg (of_eq_false (p_neg (by omega))), bd1_mk, if_neg w20, oS_bit hk hn, p_s]
    refine Or.inl ⟨(Int32.ofNat (k + 1), Int32.ofNat (gv s' k)), rfl, ?_⟩
    cases hk1 : (s' k).isSome with
    | true => rw [if_neg (by decide)]
    | false =>
      have hnone : s' k = none := by
        cases q : s' k with
        | none => rfl
        | some g => rw [q] at hk1; cases hk1
      have hK5 := hG.K5 k hk
      have h5 : ¬ (Int32.ofNat (K k) = (5 : Int32)) := of_eq_false (by rw [show (5 : Int32) = Int32.ofNat 5 from rfl, p_eq (by omega) (by omega)]; exact eq_false (hY' k hk hnone))
      rw [if_pos (by decide), bd1_mk, gv_none hnone, if_pos (by rfl), show (6 : Int32) + Int32.ofNat k = Int32.ofNat (6 + k) from p_add 6 k, p_cl (show 6 + k < 2147483648 by omega), if_neg hz6, hzK k hk, if_neg h5]
  · rintro fu ⟨x20, td⟩ e1
    dsimp only at e1 ⊢
    subst e1
    rw [fL_law_l428, fL_law_l428_b, if_pos (Int32.le_refl _)]
    exact d_499 (P := P) (h := h) (hs := hs) (hY := hY) (hd := hd) (h19 := h19) (hst := hst) (hde := hde) (hself := hself) ..
theorem d_374 (F : Nat) (s69 : Int32 → Int32 → Int64 → (Nat → Int64) → Int32 → Option (Int32)) (L : Nat) (xs : Nat → Int32) (x8 : Int32) (x17 : Int32) (rs : Nat → Int32) (rm : Nat → Nat → Int32) (ts : Nat → Int32) (tm : Nat → Nat → Int32) (rdue : Int32) (rtun : Int32) (rsee : Int32) (rbeg : Int32) (peff : Nat → Int32) (pkin : Nat → Int32) (pgri : Nat → Int32) (psig : Nat → Int32) (psee : Nat → Int32) (qsize : Int32) (qclause : Int32) (qeff : Nat → Int32) (qkin : Nat → Int32) (qgri : Nat → Int32) (qsig : Nat → Int32) (qsee : Nat → Int32) (cahe : Nat → Int64) (kdee : Nat → Int32) (know : Nat → Int64) (kahe : Nat → Nat → Int64) (fc : Nat → Int32) (lf : Int32) (told : Int32) (up : Int64) (lo : Int64) (zz : Nat → Int32) (tt : Nat → Int32) {n c d de k7 tu : Nat} {E : Nat → Int} {K : Nat → Nat} {S : Nat → Nat → Bool} {s s' s0 : Nat → Option Nat} (P : Option Int32 → Prop) (h : LH F L n c E K S peff pkin psig psee zz tt s0) (hs : HallOk n s) (hY : NoSpy n K s) (hd : d ≤ k7) (h19 : k7 < 19) (hst : Step n K S s s') (hde : DeS d de s s' x17 cahe) (hself : ∀ (de : Int32) (no : Int64) (ah : Nat → Int64) (td : Int32), (∃ (d' : Nat) (s1 : Nat → Option Nat), d' ≤ k7 + 1 ∧ de = Int32.ofNat d' ∧ no = enc s1 ∧ HallOk n s1 ∧ NoSpy n K s1) → P (s69 (Int32.ofNat (k7 + 1)) de no ah td)) : P (fL_law_n374 F s69 L xs (Int32.ofNat n) (Int32.ofNat (2 ^ n - 1)) (Int32.ofNat tu) (Int32.ofNat k7) x8 (Int32.ofNat d) (Int32.ofNat (inP s)) (Int32.ofNat (sg s 6)) (st (oS n s)) (st (unS n S s)) x17 (st (byS s s')) rs rm ts tm rdue rtun rsee rbeg (Int32.ofNat n) (Int32.ofNat c) peff pkin pgri psig psee qsize qclause qeff qkin qgri qsig qsee (Int32.ofNat de) (enc s') cahe kdee know kahe fc lf told up lo zz tt) := by
  obtain ⟨hF, hL, hG, hs0, hin0, hz0, hzE, hzK, htt⟩ := id h
  have hn := hG.n6
  have hpl : inP s ≤ 6 := pop_le _
  obtain ⟨td, eo⟩ := y_outs F hG hst.1 hF told
  unfold fL_law_n374
  rw [eo, bd2_mk]
  rcases id hde with ⟨e1, e2, e3⟩ | ⟨m, hm, e1, e2, hah⟩
  · rw [if_neg (by rw [e1]; decide), if_pos (by rw [e3])]
    exact d_425 (P := P) (h := h) (hs := hs) (hY := hY) (hd := hd) (h19 := h19) (hst := hst) (hde := hde) (hself := hself) ..
  · rw [if_pos (by rw [e1]; exact of_eq_true (p_ge0 (by omega))), if_pos (by_or hs hst), if_pos by_and, if_pos (un_by hst)]
    exact d_425 (P := P) (h := h) (hs := hs) (hY := hY) (hd := hd) (h19 := h19) (hst := hst) (hde := hde) (hself := hself) ..
theorem d_352 (F : Nat) (s69 : Int32 → Int32 → Int64 → (Nat → Int64) → Int32 → Option (Int32)) (L : Nat) (xs : Nat → Int32) (x8 : Int32) (x17 : Int32) (rs : Nat → Int32) (rm : Nat → Nat → Int32) (ts : Nat → Int32) (tm : Nat → Nat → Int32) (rdue : Int32) (rtun : Int32) (rsee : Int32) (rbeg : Int32) (peff : Nat → Int32) (pkin : Nat → Int32) (pgri : Nat → Int32) (psig : Nat → Int32) (psee : Nat → Int32) (qsize : Int32) (qclause : Int32) (qeff : Nat → Int32) (qkin : Nat → Int32) (qgri : Nat → Int32) (qsig : Nat → Int32) (qsee : Nat → Int32) (cahe : Nat → Int64) (kdee : Nat → Int32) (know : Nat → Int64) (kahe : Nat → Nat → Int64) (fc : Nat → Int32) (lf : Int32) (told : Int32) (up : Int64) (lo : Int64) (zz : Nat → Int32) (tt : Nat → Int32) {n c d de k7 tu : Nat} {E : Nat → Int} {K : Nat → Nat} {S : Nat → Nat → Bool} {s s' s0 : Nat → Option Nat} (P : Option Int32 → Prop) (h : LH F L n c E K S peff pkin psig psee zz tt s0) (hs : HallOk n s) (hY : NoSpy n K s) (hd : d ≤ k7) (h19 : k7 < 19) (hst : Step n K S s s') (hde : DeS d de s s' x17 cahe) (h20 : x17 ≤ (20 : Int32)) (hself : ∀ (de : Int32) (no : Int64) (ah : Nat → Int64) (td : Int32), (∃ (d' : Nat) (s1 : Nat → Option Nat), d' ≤ k7 + 1 ∧ de = Int32.ofNat d' ∧ no = enc s1 ∧ HallOk n s1 ∧ NoSpy n K s1) → P (s69 (Int32.ofNat (k7 + 1)) de no ah td)) : P (fL_law_n352 F s69 L xs (Int32.ofNat n) (Int32.ofNat (2 ^ n - 1)) (Int32.ofNat tu) (Int32.ofNat k7) x8 (Int32.ofNat d) (Int32.ofNat (inP s)) (Int32.ofNat (sg s 6)) (st (oS n s)) (st (unS n S s)) x17 rs rm ts tm rdue rtun rsee rbeg (Int32.ofNat n) (Int32.ofNat c) peff pkin pgri psig psee qsize qclause qeff qkin qgri qsig qsee (Int32.ofNat de) (enc s') cahe kdee know kahe fc lf told up lo zz tt) := by
  obtain ⟨hF, hL, hG, hs0, hin0, hz0, hzE, hzK, htt⟩ := id h
  have hn := hG.n6
  have hpl : inP s ≤ 6 := pop_le _
  obtain ⟨td, eo⟩ := y_outs F hG hst.1 hF told
  unfold fL_law_n352
  rw [if_pos h20, eo, bd2_mk, by_out hs hst]
  exact d_374 (P := P) (h := h) (hs := hs) (hY := hY) (hd := hd) (h19 := h19) (hst := hst) (hde := hde) (hself := hself) ..
theorem d_300 (F : Nat) (s69 : Int32 → Int32 → Int64 → (Nat → Int64) → Int32 → Option (Int32)) (L : Nat) (xs : Nat → Int32) (x8 : Int32) (x16 : Int32) (rs : Nat → Int32) (rm : Nat → Nat → Int32) (ts : Nat → Int32) (tm : Nat → Nat → Int32) (rdue : Int32) (rtun : Int32) (rsee : Int32) (rbeg : Int32) (peff : Nat → Int32) (pkin : Nat → Int32) (pgri : Nat → Int32) (psig : Nat → Int32) (psee : Nat → Int32) (qsize : Int32) (qclause : Int32) (qeff : Nat → Int32) (qkin : Nat → Int32) (qgri : Nat → Int32) (qsig : Nat → Int32) (qsee : Nat → Int32) (cahe : Nat → Int64) (kdee : Nat → Int32) (know : Nat → Int64) (kahe : Nat → Nat → Int64) (fc : Nat → Int32) (lf : Int32) (told : Int32) (up : Int64) (lo : Int64) (zz : Nat → Int32) (tt : Nat → Int32) {n c d k7 tu : Nat} {E : Nat → Int} {K : Nat → Nat} {S : Nat → Nat → Bool} {s s0 : Nat → Option Nat} (P : Option Int32 → Prop) (h : LH F L n c E K S peff pkin psig psee zz tt s0) (hs : HallOk n s) (hY : NoSpy n K s) (hd : d ≤ k7) (h19 : k7 < 19) {i : Nat} (hi : i < n) (hself : ∀ (de : Int32) (no : Int64) (ah : Nat → Int64) (td : Int32), (∃ (d' : Nat) (s1 : Nat → Option Nat), d' ≤ k7 + 1 ∧ de = Int32.ofNat d' ∧ no = enc s1 ∧ HallOk n s1 ∧ NoSpy n K s1) → P (s69 (Int32.ofNat (k7 + 1)) de no ah td)) : P (fL_law_n300 F s69 L xs (if (s i).isSome = true then (0 : Int32) else 1) (Int32.ofNat n) (Int32.ofNat (2 ^ n - 1)) (Int32.ofNat tu) (Int32.ofNat k7) x8 (Int32.ofNat d) (Int32.ofNat (inP s)) (Int32.ofNat (sg s 6)) (Int32.ofNat i) (st (oS n s)) (st (unS n S s)) x16 rs rm ts tm rdue rtun rsee rbeg (Int32.ofNat n) (Int32.ofNat c) peff pkin pgri psig psee qsize qclause qeff qkin qgri qsig qsee (Int32.ofNat d) (enc s) cahe kdee know kahe fc lf told up lo zz tt) := by
  obtain ⟨hF, hL, hG, hs0, hin0, hz0, hzE, hzK, htt⟩ := id h
  have hn := hG.n6
  have hpl : inP s ≤ 6 := pop_le _
  unfold fL_law_n300
  cases hin : (s i).isSome with
  | false =>
    have no := fun (fin : P (fL_law_n335 F s69 L xs (1 : Int32) (Int32.ofNat n) (Int32.ofNat (2 ^ n - 1)) (Int32.ofNat tu) (Int32.ofNat k7) x8 (Int32.ofNat d) (Int32.ofNat (inP s)) (Int32.ofNat (sg s 6)) (st (oS n s)) (st (unS n S s)) (-4 : Int32) (1 : Int32) rs rm ts tm rdue rtun rsee rbeg (Int32.ofNat n) (Int32.ofNat c) peff pkin pgri psig psee qsize qclause qeff qkin qgri qsig qsee (Int32.ofNat d) (enc s) cahe kdee know kahe fc lf told up lo zz tt)) => fin
    have fin : P (fL_law_n335 F s69 L xs (1 : Int32) (Int32.ofNat n) (Int32.ofNat (2 ^ n - 1)) (Int32.ofNat tu) (Int32.ofNat k7) x8 (Int32.ofNat d) (Int32.ofNat (inP s)) (Int32.ofNat (sg s 6)) (st (oS n s)) (st (unS n S s)) (-4 : Int32) (1 : Int32) rs rm ts tm rdue rtun rsee rbeg (Int32.ofNat n) (Int32.ofNat c) peff pkin pgri psig psee qsize qclause qeff qkin qgri qsig qsee (Int32.ofNat d) (enc s) cahe kdee know kahe fc lf told up lo zz tt) := by
      unfold fL_law_n335
      rw [if_pos rfl, if_neg (by decide), if_pos rfl]
      exact d_352 (P := P) (h := h) (hs := hs) (hY := hY) (hd := hd) (h19 := h19) (hst := Step.self hs) (hde := Or.inl ⟨rfl, rfl, rfl⟩) (h20 := by decide) (hself := hself) ..
    rw [if_neg (show ¬ (false = true) by decide)]
    by_cases h3 : x16 = (3 : Int32)
    · rw [if_pos h3, cx_say_no F hG hs hF (show d < 40 by omega) cahe hi hin, bd4_mk, if_neg (by decide)]
      exact fin
    · rw [if_neg h3, cx_ice_no F hG hs hF (show d < 40 by omega) cahe hi hin, bd4_mk, if_neg (by decide)]
      exact fin
  | true =>
    have fin : ∀ (s' : Nat → Option Nat), Step n K S s s' → ∀ cahe : Nat → Int64, cahe d = enc s → P (fL_law_n335 F s69 L xs (0 : Int32) (Int32.ofNat n) (Int32.ofNat (2 ^ n - 1)) (Int32.ofNat tu) (Int32.ofNat k7) x8 (Int32.ofNat d) (Int32.ofNat (inP s)) (Int32.ofNat (sg s 6)) (st (oS n s)) (st (unS n S s)) (Int32.ofNat (gv s' i)) (0 : Int32) rs rm ts tm rdue rtun rsee rbeg (Int32.ofNat n) (Int32.ofNat c) peff pkin pgri psig psee qsize qclause qeff qkin qgri qsig qsee (Int32.ofNat (d + 1)) (enc s') cahe kdee know kahe fc lf told up lo zz tt) := by
      intro s' hst cahe hah
      have hg := hst.1.gv20 i
      unfold fL_law_n335
      rw [if_pos rfl, if_pos rfl]
      exact d_352 (P := P) (h := h) (hs := hs) (hY := hY) (hd := hd) (h19 := h19) (hst := hst) (hde := Or.inr ⟨gv s' i, by omega, rfl, rfl, hah⟩) (h20 := of_eq_true (by rw [show (20 : Int32) = Int32.ofNat 20 from rfl, p_le (by omega) (by omega)]; exact eq_true hg)) (hself := hself) ..
    have hah : vp_updL cahe d (enc s) d = enc s := by rw [updL_at, if_pos rfl]
    rw [if_pos (show true = true from rfl)]
    by_cases h3 : x16 = (3 : Int32)
    · have hst : Step n K S s (nameS c K S i s) := name_step hs hi hin
      have hg := hst.1.gv20 i
      rw [if_pos h3, cx_say F hG hs hF (show d < 40 by omega) cahe hi hin, bd4_mk, if_pos (of_eq_true (p_ge0 (by omega)))]
      exact fin _ hst _ hah
    · have hst : Step n K S s (iceS c K S i s) := ice_step hs hi hin
      have hg := hst.1.gv20 i
      rw [if_neg h3, cx_ice F hG hs hF (show d < 40 by omega) cahe hi hin, bd4_mk, if_pos (of_eq_true (p_ge0 (by omega)))]
      exact fin _ hst _ hah
theorem d_190 (F : Nat) (s69 : Int32 → Int32 → Int64 → (Nat → Int64) → Int32 → Option (Int32)) (L : Nat) (xs : Nat → Int32) (x8 : Int32) (rs : Nat → Int32) (rm : Nat → Nat → Int32) (ts : Nat → Int32) (tm : Nat → Nat → Int32) (rdue : Int32) (rtun : Int32) (rsee : Int32) (rbeg : Int32) (peff : Nat → Int32) (pkin : Nat → Int32) (pgri : Nat → Int32) (psig : Nat → Int32) (psee : Nat → Int32) (qsize : Int32) (qclause : Int32) (qeff : Nat → Int32) (qkin : Nat → Int32) (qgri : Nat → Int32) (qsig : Nat → Int32) (qsee : Nat → Int32) (cahe : Nat → Int64) (kdee : Nat → Int32) (know : Nat → Int64) (kahe : Nat → Nat → Int64) (fc : Nat → Int32) (lf : Int32) (told : Int32) (up : Int64) (lo : Int64) (zz : Nat → Int32) (tt : Nat → Int32) {n c d k7 tu : Nat} {E : Nat → Int} {K : Nat → Nat} {S : Nat → Nat → Bool} {s s0 : Nat → Option Nat} (P : Option Int32 → Prop) (h : LH F L n c E K S peff pkin psig psee zz tt s0) (hs : HallOk n s) (hY : NoSpy n K s) (hd : d ≤ k7) (h19 : k7 < 19) {i t : Nat} (hi : i < n) (ht : t < 4) (hself : ∀ (de : Int32) (no : Int64) (ah : Nat → Int64) (td : Int32), (∃ (d' : Nat) (s1 : Nat → Option Nat), d' ≤ k7 + 1 ∧ de = Int32.ofNat d' ∧ no = enc s1 ∧ HallOk n s1 ∧ NoSpy n K s1) → P (s69 (Int32.ofNat (k7 + 1)) de no ah td)) : P (fL_law_n190 F s69 L xs (Int32.ofNat n) (Int32.ofNat (2 ^ n - 1)) (Int32.ofNat tu) (Int32.ofNat k7) x8 (Int32.ofNat d) (Int32.ofNat (inP s)) (Int32.ofNat (sg s 6)) (Int32.ofNat i) (Int32.ofNat t) (st (oS n s)) (st (unS n S s)) rs rm ts tm rdue rtun rsee rbeg (Int32.ofNat n) (Int32.ofNat c) peff pkin pgri psig psee qsize qclause qeff qkin qgri qsig qsee (Int32.ofNat d) (enc s) cahe kdee know kahe fc lf told up lo zz tt) := by
  obtain ⟨hF, hL, hG, hs0, hin0, hz0, hzE, hzK, htt⟩ := id h
  have hn := hG.n6
  have hpl : inP s ≤ 6 := pop_le _
  obtain ⟨p, hp, ep⟩ := y_part F x8 (m := 5) (by decide) (by decide)
  unfold fL_law_n190
  rw [show fL_part F x8 (5 : Int32) = some (Int32.ofNat p) from ep, bd1_mk]
  by_cases h3 : 3 ≤ p
  · rw [if_pos (of_eq_true (by rw [show (3 : Int32) = Int32.ofNat 3 from rfl, p_le (by omega) (by omega)]; exact eq_true h3))]
    have fin : P (fL_law_n300 F s69 L xs (if (s i).isSome = true then (0 : Int32) else 1) (Int32.ofNat n) (Int32.ofNat (2 ^ n - 1)) (Int32.ofNat tu) (Int32.ofNat k7) x8 (Int32.ofNat d) (Int32.ofNat (inP s)) (Int32.ofNat (sg s 6)) (Int32.ofNat i) (st (oS n s)) (st (unS n S s)) (Int32.ofNat p) rs rm ts tm rdue rtun rsee rbeg (Int32.ofNat n) (Int32.ofNat c) peff pkin pgri psig psee qsize qclause qeff qkin qgri qsig qsee (Int32.ofNat d) (enc s) cahe kdee know kahe fc lf told up lo zz tt) := d_300 (P := P) (h := h) (hs := hs) (hY := hY) (hd := hd) (h19 := h19) (hi := hi) (hself := hself) ..
    unfold fL_law_n284
    rw [oS_bit hi hn]
    cases hin : (s i).isSome with
    | false =>
      rw [hin, if_neg (show ¬ (false = true) by decide)] at fin
      rw [if_pos (by decide)]
      exact fin
    | true =>
      rw [hin, if_pos (show true = true from rfl)] at fin
      rw [if_neg (by decide)]
      exact fin
  · have hs' := hG.tune hs ht
    have hst : Step n K S s (tuneS c E K S t s) := tune_step hs ht (hG.E45 t ht) hG.K5
    have hah : vp_updL cahe d (enc s) d = enc s := by rw [updL_at, if_pos rfl]
    obtain ⟨m, hm, em⟩ := st_num (byS s (tuneS c E K S t s))
    have fin : ∀ td : Int32, P (fL_law_n374 F s69 L xs (Int32.ofNat n) (Int32.ofNat (2 ^ n - 1)) (Int32.ofNat tu) (Int32.ofNat k7) x8 (Int32.ofNat d) (Int32.ofNat (inP s)) (Int32.ofNat (sg s 6)) (st (oS n s)) (st (unS n S s)) (st (byS s (tuneS c E K S t s))) (st (byS s (tuneS c E K S t s))) rs rm ts tm rdue rtun rsee rbeg (Int32.ofNat n) (Int32.ofNat c) peff pkin pgri psig psee qsize qclause qeff qkin qgri qsig qsee (Int32.ofNat (d + 1)) (enc (tuneS c E K S t s)) (vp_updL cahe d (enc s)) kdee know kahe fc lf td up lo zz tt) := fun td => d_374 (P := P) (h := h) (hs := hs) (hY := hY) (hd := hd) (h19 := h19) (hst := hst) (hde := Or.inr ⟨m, hm, em, rfl, hah⟩) (hself := hself) ..
    rw [if_neg (of_eq_false (by rw [show (3 : Int32) = Int32.ofNat 3 from rfl, p_le (by omega) (by omega)]; exact eq_false h3)), cx_out F hG hs hF told ht, bd2_mk, asked_y, bd1_mk, cx_safe F hG hs hF, bd1_mk, cx_tune F hG hs hF (show d < 40 by omega) cahe ht, bd4_mk, if_pos rfl, cx_count4 F _ _ _ _ _ _ _ hs'.hb hF, bd1_mk, if_pos rfl, oI_st _ 4 (by decide), st_bit _ (show t < 6 by omega), decide_eq_true ht, Bool.true_and, goes_by]
    by_cases h0 : st (byS s (tuneS c E K S t s)) = 0
    · rw [if_pos h0, decide_eq_true h0, if_pos (by decide)]
      exact fin _
    · rw [if_neg h0, decide_eq_false h0, if_pos (by decide)]
      exact fin _
theorem d_144 (F : Nat) (s69 : Int32 → Int32 → Int64 → (Nat → Int64) → Int32 → Option (Int32)) (L : Nat) (xs : Nat → Int32) (x8 : Int32) (rs : Nat → Int32) (rm : Nat → Nat → Int32) (ts : Nat → Int32) (tm : Nat → Nat → Int32) (rdue : Int32) (rtun : Int32) (rsee : Int32) (rbeg : Int32) (peff : Nat → Int32) (pkin : Nat → Int32) (pgri : Nat → Int32) (psig : Nat → Int32) (psee : Nat → Int32) (qsize : Int32) (qclause : Int32) (qeff : Nat → Int32) (qkin : Nat → Int32) (qgri : Nat → Int32) (qsig : Nat → Int32) (qsee : Nat → Int32) (cahe : Nat → Int64) (kdee : Nat → Int32) (know : Nat → Int64) (kahe : Nat → Nat → Int64) (fc : Nat → Int32) (lf : Int32) (up : Int64) (lo : Int64) (zz : Nat → Int32) (tt : Nat → Int32) {n c d k7 tu : Nat} {E : Nat → Int} {K : Nat → Nat} {S : Nat → Nat → Bool} {s s0 : Nat → Option Nat} (P : Option Int32 → Prop) (h : LH F L n c E K S peff pkin psig psee zz tt s0) (hs : HallOk n s) (hY : NoSpy n K s) (hd : d ≤ k7) (h19 : k7 < 19) {i t : Nat} (hi : i < n) (ht : t < 4) (hself : ∀ (de : Int32) (no : Int64) (ah : Nat → Int64) (td : Int32), (∃ (d' : Nat) (s1 : Nat → Option Nat), d' ≤ k7 + 1 ∧ de = Int32.ofNat d' ∧ no = enc s1 ∧ HallOk n s1 ∧ NoSpy n K s1) → P (s69 (Int32.ofNat (k7 + 1)) de no ah td)) (told : Int32) : P (fL_law_l144 F s69 L xs (Int32.ofNat n) (Int32.ofNat (2 ^ n - 1)) (Int32.ofNat tu) (Int32.ofNat k7) x8 (Int32.ofNat d) (Int32.ofNat (inP s)) (Int32.ofNat (sg s 6)) (Int32.ofNat i) (Int32.ofNat t) (st (oS n s)) rs rm ts tm rdue rtun rsee rbeg (Int32.ofNat n) (Int32.ofNat c) peff pkin pgri psig psee qsize qclause qeff qkin qgri qsig qsee (Int32.ofNat d) (enc s) cahe kdee know kahe fc lf up lo zz tt F (0 : Int32) (0 : Int32) told) := by
  obtain ⟨hF, hL, hG, hs0, hin0, hz0, hzE, hzK, htt⟩ := id h
  have hn := hG.n6
  have hpl : inP s ≤ 6 := pop_le _
  refine loop_inv (fun fu (a : Int32 × Int32 × Int32) => fL_law_l144 F s69 L xs (Int32.ofNat n) (Int32.ofNat (2 ^ n - 1)) (Int32.ofNat tu) (Int32.ofNat k7) x8 (Int32.ofNat d) (Int32.ofNat (inP s)) (Int32.ofNat (sg s 6)) (Int32.ofNat i) (Int32.ofNat t) (st (oS n s)) rs rm ts tm rdue rtun rsee rbeg (Int32.ofNat n) (Int32.ofNat c) peff pkin pgri psig psee qsize qclause qeff qkin qgri qsig qsee (Int32.ofNat d) (enc s) cahe kdee know kahe fc lf up lo zz tt fu a.1 a.2.1 a.2.2) n (fun k a => a.1 = st (fun e => decide (e < k) && !any6 (fun j => (s j).isSome && S j e)) ∧ a.2.1 = Int32.ofNat k) P ?_ ?_ F (0, 0, told) (by omega) ⟨st_none.trans (st_congr fun i _ => by simp), rfl⟩
  · rintro fu k ⟨x15, x16, td⟩ hk ⟨e1, e2⟩
    dsimp only at e1 e2 ⊢
    subst e1; subst e2
    have f0 : ¬ (Int32.ofNat n ≤ Int32.ofNat k) := of_eq_false (by rw [p_le (by omega) (by omega)]; exact p_nle hk)
    rw [fL_law_l144, fL_law_l144_b, if_neg f0, cx_guest4 F hG hs hF td hk, bd2_mk, if_pos rfl, asked_y, bd1_mk, p_s]
    cases ha : any6 (fun j => (s j).isSome && S j k) with
    | false =>
      rw [if_neg (show ¬ (false = true) by decide), if_pos rfl, st_one (by omega), st_or]
      refine Or.inl ⟨(_, Int32.ofNat (k + 1), 0), ⟨?_, rfl⟩, rfl⟩
      refine st_congr fun e _ => ?_
      by_cases q : e = k
      · subst q; rw [ha]; simp
      · rw [show decide (e < k) = decide (e < k + 1) by simp only [decide_eq_decide]; omega]
        simp [q]
    | true =>
      rw [if_pos (show true = true from rfl), if_neg (by decide), Int32.or_zero]
      refine Or.inl ⟨(_, Int32.ofNat (k + 1), 1), ⟨?_, rfl⟩, rfl⟩
      refine st_congr fun e _ => ?_
      by_cases q : e = k
      · subst q; rw [ha]; simp
      · rw [show decide (e < k) = decide (e < k + 1) by simp only [decide_eq_decide]; omega]
  · rintro fu ⟨x15, x16, td⟩ ⟨e1, e2⟩
    dsimp only at e1 e2 ⊢
    subst e1; subst e2
    rw [fL_law_l144, fL_law_l144_b, if_pos (Int32.le_refl _)]
    exact d_190 (P := P) (h := h) (hs := hs) (hY := hY) (hd := hd) (h19 := h19) (hi := hi) (ht := ht) (hself := hself) ..
theorem d_69 (F : Nat) (L : Nat) (xs : Nat → Int32) (rs : Nat → Int32) (rm : Nat → Nat → Int32) (ts : Nat → Int32) (tm : Nat → Nat → Int32) (rdue : Int32) (rtun : Int32) (rsee : Int32) (rbeg : Int32) (peff : Nat → Int32) (pkin : Nat → Int32) (pgri : Nat → Int32) (psig : Nat → Int32) (psee : Nat → Int32) (qsize : Int32) (qclause : Int32) (qeff : Nat → Int32) (qkin : Nat → Int32) (qgri : Nat → Int32) (qsig : Nat → Int32) (qsee : Nat → Int32) (kdee : Nat → Int32) (know : Nat → Int64) (kahe : Nat → Nat → Int64) (fc : Nat → Int32) (lf : Int32) (up : Int64) (lo : Int64) (zz : Nat → Int32) (tt : Nat → Int32) {n c tu : Nat} {E : Nat → Int} {K : Nat → Nat} {S : Nat → Nat → Bool} {s0 : Nat → Option Nat} (h : LH F L n c E K S peff pkin psig psee zz tt s0) (hY : NoSpy n K s0) (htu : tu < 20) (k0 : kdee 0 = Int32.ofNat 0) (n0 : know 0 = enc s0) (k2 : kdee 2 = -1) (cahe : Nat → Int64) (told : Int32) : (fL_law_l69 F L xs (Int32.ofNat n) (Int32.ofNat (2 ^ n - 1)) (Int32.ofNat tu) rs rm ts tm rdue rtun rsee rbeg (Int32.ofNat n) (Int32.ofNat c) peff pkin pgri psig psee qsize qclause qeff qkin qgri qsig qsee kdee know kahe fc lf up lo zz tt F (0 : Int32) (Int32.ofNat 0) (enc s0) cahe told) = some 1 := by
  obtain ⟨hF, hL, hG, hs0, hin0, hz0, hzE, hzK, htt⟩ := id h
  have hn := hG.n6
  refine loop_inv (fun fu (a : Int32 × Int32 × Int64 × (Nat → Int64) × Int32) => fL_law_l69 F L xs (Int32.ofNat n) (Int32.ofNat (2 ^ n - 1)) (Int32.ofNat tu) rs rm ts tm rdue rtun rsee rbeg (Int32.ofNat n) (Int32.ofNat c) peff pkin pgri psig psee qsize qclause qeff qkin qgri qsig qsee kdee know kahe fc lf up lo zz tt fu a.1 a.2.1 a.2.2.1 a.2.2.2.1 a.2.2.2.2) tu (fun k a => a.1 = Int32.ofNat k ∧ ∃ (d : Nat) (s : Nat → Option Nat), d ≤ k ∧ a.2.1 = Int32.ofNat d ∧ a.2.2.1 = enc s ∧ HallOk n s ∧ NoSpy n K s) (fun o => o = some 1) ?_ ?_ F (0, Int32.ofNat 0, enc s0, cahe, told) (by omega) ⟨rfl, 0, s0, Nat.le_refl 0, rfl, rfl, hs0, hY⟩
  · rintro fu k ⟨x7, de, no, ah, td⟩ hk ⟨e1, d, s, hd, e2, e3, hs, hYs⟩
    dsimp only at e1 e2 e3 ⊢
    subst e1; subst e2; subst e3
    have f0 : ¬ (Int32.ofNat tu ≤ Int32.ofNat k) := of_eq_false (by rw [p_le (by omega) (by omega)]; exact p_nle hk)
    obtain ⟨v, hv⟩ := y_cell F xs hL (k := 15 + k) (by omega)
    obtain ⟨i, hi, ei⟩ := y_part F (v >>> ((3 : Int32) &&& 31)) (m := n) hG.n0 (by omega)
    obtain ⟨t, ht, et⟩ := y_part F (v >>> ((6 : Int32) &&& 31)) (m := 4) (by decide) (by decide)
    obtain ⟨td', eo⟩ := y_outs F hG hs hF td
    rw [fL_law_l69, fL_law_l69_b, if_neg f0, show (15 : Int32) + Int32.ofNat k = Int32.ofNat (15 + k) from p_add 15 k, hv, bd1_mk, cx_count2, bd1_mk, cx_count3 F _ _ _ _ _ _ _ hs.hb, bd1_mk, cx_count4 F _ _ _ _ _ _ _ hs.hb hF, bd1_mk, ei, bd1_mk, show fL_part F (v >>> ((6 : Int32) &&& 31)) (4 : Int32) = some (Int32.ofNat t) from et, bd1_mk, eo, bd2_mk]
    refine Or.inl ?_
    exact d_144 (P := fun o => ∃ a' : Int32 × Int32 × Int64 × (Nat → Int64) × Int32, (a'.1 = Int32.ofNat (k + 1) ∧ ∃ (d : Nat) (s : Nat → Option Nat), d ≤ k + 1 ∧ a'.2.1 = Int32.ofNat d ∧ a'.2.2.1 = enc s ∧ HallOk n s ∧ NoSpy n K s) ∧ o = fL_law_l69 F L xs (Int32.ofNat n) (Int32.ofNat (2 ^ n - 1)) (Int32.ofNat tu) rs rm ts tm rdue rtun rsee rbeg (Int32.ofNat n) (Int32.ofNat c) peff pkin pgri psig psee qsize qclause qeff qkin qgri qsig qsee kdee know kahe fc lf up lo zz tt fu a'.1 a'.2.1 a'.2.2.1 a'.2.2.2.1 a'.2.2.2.2) (h := h) (hs := hs) (hY := hYs) (hd := hd) (h19 := by omega) (hi := hi) (ht := ht) (hself := fun de no ah td q => ⟨(_, de, no, ah, td), ⟨rfl, q⟩, rfl⟩) ..
  · rintro fu ⟨x7, de, no, ah, td⟩ ⟨e1, d, s, hd, e2, e3, hs, hYs⟩
    dsimp only at e1 e2 e3 ⊢
    subst e1; subst e2; subst e3
    rw [fL_law_l69, fL_law_l69_b, if_pos (Int32.le_refl _)]
    exact l_604 (h := h) (hs := hs) (hd := by omega) (k0 := k0) (n0 := n0) (k2 := k2) ..
theorem l_40 (F : Nat) (L : Nat) (xs : Nat → Int32) (rs : Nat → Int32) (rm : Nat → Nat → Int32) (ts : Nat → Int32) (tm : Nat → Nat → Int32) (rdue : Int32) (rtun : Int32) (rsee : Int32) (rbeg : Int32) (peff : Nat → Int32) (pkin : Nat → Int32) (pgri : Nat → Int32) (psig : Nat → Int32) (psee : Nat → Int32) (qsize : Int32) (qclause : Int32) (qeff : Nat → Int32) (qkin : Nat → Int32) (qgri : Nat → Int32) (qsig : Nat → Int32) (qsee : Nat → Int32) (cahe : Nat → Int64) (kdee : Nat → Int32) (know : Nat → Int64) (kahe : Nat → Nat → Int64) (fc : Nat → Int32) (lf : Int32) (told : Int32) (up : Int64) (lo : Int64) (zz : Nat → Int32) (tt : Nat → Int32) {n c : Nat} {E : Nat → Int} {K : Nat → Nat} {S : Nat → Nat → Bool} {s0 : Nat → Option Nat} (h : LH F L n c E K S peff pkin psig psee zz tt s0) (hY : NoSpy n K s0) (k0 : kdee 0 = Int32.ofNat 0) (n0 : know 0 = enc s0) (k2 : kdee 2 = -1) : (fL_law_n40 F L xs rs rm ts tm rdue rtun rsee rbeg (Int32.ofNat n) (Int32.ofNat c) peff pkin pgri psig psee qsize qclause qeff qkin qgri qsig qsee (Int32.ofNat 0) (enc s0) cahe kdee know kahe fc lf told up lo zz tt) = some 1 := by
  obtain ⟨hF, hL, hG, hs0, hin0, hz0, hzE, hzK, htt⟩ := id h
  obtain ⟨w1, w2, w3, w4⟩ := all_st n hG.n6
  obtain ⟨v, hv⟩ := y_cell F xs hL (k := 14) (by omega)
  obtain ⟨tu, htu, et⟩ := y_part F v (m := 20) (by decide) (by decide)
  unfold fL_law_n40
  rw [show fL_cell F L xs (14 : Int32) = some v from hv, bd1_mk, show fL_part F v (20 : Int32) = some (Int32.ofNat tu) from et, bd1_mk, show (0 : Int32).toNatClampNeg = 0 from rfl, hz0, w1, show (1 : Int32) = Int32.ofNat 1 from rfl, p_sub (show 1 ≤ 2 ^ n by omega)]
  exact d_69 (h := h) (hY := hY) (htu := htu) (k0 := k0) (n0 := n0) (k2 := k2) ..
theorem l_law (p6 : Nat) (p12 : Nat) (L : Nat) (xs : Nat → Int32) (rs : Nat → Int32) (rm : Nat → Nat → Int32) (ts : Nat → Int32) (tm : Nat → Nat → Int32) (rdue : Int32) (rtun : Int32) (rsee : Int32) (rbeg : Int32) (psize : Int32) (pclause : Int32) (peff : Nat → Int32) (pkin : Nat → Int32) (pgri : Nat → Int32) (psig : Nat → Int32) (psee : Nat → Int32) (qsize : Int32) (qclause : Int32) (qeff : Nat → Int32) (qkin : Nat → Int32) (qgri : Nat → Int32) (qsig : Nat → Int32) (qsee : Nat → Int32) (cdee : Int32) (cnow : Int64) (cahe : Nat → Int64) (kdee : Nat → Int32) (know : Nat → Int64) (kahe : Nat → Nat → Int64) (fc : Nat → Int32) (lf : Int32) (told : Int32) (up : Int64) (lo : Int64) (zz : Nat → Int32) (tt : Nat → Int32) (F : Nat) (hF : 1000000 ≤ F) (hL : L ≤ 260) : (fL_law F p6 p12 L xs rs rm ts tm rdue rtun rsee rbeg psize pclause peff pkin pgri psig psee qsize qclause qeff qkin qgri qsig qsee cdee cnow cahe kdee know kahe fc lf told up lo zz tt) = some 1 := by
  obtain ⟨zts, ztm, zrdue, zrtun, zrsee, zrbeg, zpsize, zpclause, zpeff, zpkin, zpgri, zpsig, zpsee, zqsize, zqclause, zqeff, zqkin, zqgri, zqsig, zqsee, zcdee, zcnow, zkdee, zfc, zlf, zzz, ztt, e, n, c, E, K, S, g, hG, rfl, rfl, rfl, rfl, hg, hk, z0, zE, zK, ht⟩ := t_tells (F := F) (p6 := p6) (p12 := p12) (xs := xs) (rs := rs) (ts := ts) (tm := tm) (rdue := rdue) (rtun := rtun) (rsee := rsee) (rbeg := rbeg) (psize := psize) (pclause := pclause) (peff := peff) (pkin := pkin) (pgri := pgri) (psig := psig) (psee := psee) (qsize := qsize) (qclause := qclause) (qeff := qeff) (qkin := qkin) (qgri := qgri) (qsig := qsig) (qsee := qsee) (cdee := cdee) (cnow := cnow) (kdee := kdee) (fc := fc) (lf := lf) (zz := zz) (tt := tt) (hF := hF) (hL := hL)
  have hs0 := inn_ok hg
  have hn := hG.n6
  unfold fL_law
  rw [e, bd28_mk, if_neg (by decide), show (0 : Int32) = Int32.ofNat 0 from rfl, cx_keep F hG.nz _ _ _ _ _ _ (show 0 < 3 by decide), bd4_mk, if_pos rfl]
  refine l_40 (h := ⟨hF, hL, hG, hs0, inP_inn hn, z0, zE, zK, ht⟩) (hY := fun e he hn0 => ?_) (k0 := rfl) (n0 := rfl) (k2 := ?_) ..
  · exfalso
    unfold inn at hn0
    rw [if_pos he] at hn0
    cases hn0
  · show va_up zkdee 0 _ 2 = _
    rw [vaup_at, if_neg (by decide)]
    exact hk 2 (by decide)
