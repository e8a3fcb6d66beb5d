/-- the class's own world behind its text: the party's numbers, told by n, c, E, K, S -/
def CS (n c : Nat) (E : Nat → Int) (K : Nat → Nat) (S : Nat → Nat → Bool) (peff pkin psig psee : Nat → Int32) : Prop := PC n c E K S (Int32.ofNat n) (Int32.ofNat c) peff pkin psee ∧ 0 < n ∧ ∀ i, i < n → psig i = st (S i)
theorem CS.pc {n c : Nat} {E : Nat → Int} {K : Nat → Nat} {S : Nat → Nat → Bool} {peff pkin psig psee : Nat → Int32} (h : CS n c E K S peff pkin psig psee) : PC n c E K S (Int32.ofNat n) (Int32.ofNat c) peff pkin psee := h.1
theorem CS.n6 {n c : Nat} {E : Nat → Int} {K : Nat → Nat} {S : Nat → Nat → Bool} {peff pkin psig psee : Nat → Int32} (h : CS n c E K S peff pkin psig psee) : n ≤ 6 := h.1.1
theorem CS.n0 {n c : Nat} {E : Nat → Int} {K : Nat → Nat} {S : Nat → Nat → Bool} {peff pkin psig psee : Nat → Int32} (h : CS n c E K S peff pkin psig psee) : 0 < n := h.2.1
theorem CS.sig {n c : Nat} {E : Nat → Int} {K : Nat → Nat} {S : Nat → Nat → Bool} {peff pkin psig psee : Nat → Int32} (h : CS n c E K S peff pkin psig psee) : ∀ i, i < n → psig i = st (S i) := h.2.2
theorem CS.c9 {n c : Nat} {E : Nat → Int} {K : Nat → Nat} {S : Nat → Nat → Bool} {peff pkin psig psee : Nat → Int32} (h : CS n c E K S peff pkin psig psee) : c ≤ 9 := h.1.2.2.1
theorem CS.eff {n c : Nat} {E : Nat → Int} {K : Nat → Nat} {S : Nat → Nat → Bool} {peff pkin psig psee : Nat → Int32} (h : CS n c E K S peff pkin psig psee) : ∀ i, i < 4 → -4 ≤ E i ∧ E i ≤ 5 ∧ peff i = Int32.ofInt (E i) := h.1.2.2.2.2.1
theorem CS.E45 {n c : Nat} {E : Nat → Int} {K : Nat → Nat} {S : Nat → Nat → Bool} {peff pkin psig psee : Nat → Int32} (h : CS n c E K S peff pkin psig psee) : ∀ i, i < 4 → -4 ≤ E i ∧ E i ≤ 5 := fun i hi => ⟨(h.eff i hi).1, (h.eff i hi).2.1⟩
theorem CS.kin {n c : Nat} {E : Nat → Int} {K : Nat → Nat} {S : Nat → Nat → Bool} {peff pkin psig psee : Nat → Int32} (h : CS n c E K S peff pkin psig psee) : ∀ i, i < n → K i ≤ 5 ∧ pkin i = Int32.ofNat (K i) := h.1.2.2.2.2.2.1
theorem CS.K5 {n c : Nat} {E : Nat → Int} {K : Nat → Nat} {S : Nat → Nat → Bool} {peff pkin psig psee : Nat → Int32} (h : CS n c E K S peff pkin psig psee) : ∀ i, i < n → K i ≤ 5 := fun i hi => (h.kin i hi).1
theorem CS.see {n c : Nat} {E : Nat → Int} {K : Nat → Nat} {S : Nat → Nat → Bool} {peff pkin psig psee : Nat → Int32} (h : CS n c E K S peff pkin psig psee) : ∀ i, i < n → psee i = st (fun j => S j i) := h.1.2.2.2.2.2.2.1
theorem CS.sn {n c : Nat} {E : Nat → Int} {K : Nat → Nat} {S : Nat → Nat → Bool} {peff pkin psig psee : Nat → Int32} (h : CS n c E K S peff pkin psig psee) : ∀ i j, S i j = true → i < n ∧ j < n := h.1.2.2.2.2.2.2.2
theorem CS.nz {n c : Nat} {E : Nat → Int} {K : Nat → Nat} {S : Nat → Nat → Bool} {peff pkin psig psee : Nat → Int32} (h : CS n c E K S peff pkin psig psee) : ¬ (Int32.ofNat n = 0) := by
  have := h.n6
  have := h.n0
  rw [p_e0 (by omega)]
  omega
theorem CS.tune {n c : Nat} {E : Nat → Int} {K : Nat → Nat} {S : Nat → Nat → Bool} {peff pkin psig psee : Nat → Int32} (h : CS n c E K S peff pkin psig psee) {s : Nat → Option Nat} (hs : HallOk n s) {t : Nat} (ht : t < 4) : HallOk n (tuneS c E K S t s) := tuneS_ok hs ht (h.E45 t ht) h.K5
theorem y_guest (F : Nat) {n i : Nat} (hn : n ≤ 6) (hi : i < n) : fX5_isGuest F (Int32.ofNat n) (Int32.ofNat i) = some 1 := c_rng1 hi (by omega)
theorem y_tune (F : Nat) {t : Nat} (ht : t < 4) : fX5_isTune F (Int32.ofNat t) = some 1 := c_rng1 ht (by decide)
theorem y_row (F : Nat) {r : Nat} (hr : r < 6) : fX5_isRow F (Int32.ofNat r) = some 1 := c_rng1 hr (by decide)
theorem y_text (F : Nat) {t : Nat} (ht : t < 4) : fX5_isText F (Int32.ofNat t) = some 1 := c_rng1 ht (by decide)
theorem y_keep (F : Nat) {k : Nat} (hk : k < 3) : fX5_isKeepingPlace F (Int32.ofNat k) = some 1 := c_rng1 hk (by decide)
theorem y_len (F : Nat) {n N : Nat} (hn : n ≤ 6) (h0 : 0 < n) (hN : N ≤ 6) : fX5_searchRefusal F (Int32.ofNat n) (Int32.ofNat N) = some 0 := by
  unfold fX5_searchRefusal
  rw [if_neg (of_eq_false (p_neg (by omega))), if_pos (of_eq_true (by rw [show (6 : Int32) = Int32.ofNat 6 from rfl, p_le (by omega) (by omega)]; exact eq_true (by omega))), if_neg (by rw [p_e0 (by omega)]; omega)]
theorem cx_guest1 (F : Nat) {n c : Nat} {E : Nat → Int} {K : Nat → Nat} {S : Nat → Nat → Bool} {peff pkin psig psee : Nat → Int32} (hG : CS n c E K S peff pkin psig psee) {s : Nat → Option Nat} (hs : HallOk n s) (hF : 1000000 ≤ F) (told : Int32) {i : Nat} (hi : i < n) : fX5_guest F (Int32.ofNat n) pkin psig psee (enc s) told (Int32.ofNat i) (1 : Int32) = some (1, Int32.ofNat (gv s i)) := by
  have hn := hG.n6
  unfold fX5_guest
  rw [y_guest F hn hi, bd1_mk, if_neg (by decide), if_neg (by decide), if_pos (by decide)]
  unfold fX5_guestTells
  rw [if_neg (by decide), if_pos (by decide), c_griefOf F hs.hb (show i < 6 by omega), bd1_mk, bd1_mk]
theorem cx_guest2 (F : Nat) {n c : Nat} {E : Nat → Int} {K : Nat → Nat} {S : Nat → Nat → Bool} {peff pkin psig psee : Nat → Int32} (hG : CS n c E K S peff pkin psig psee) {s : Nat → Option Nat} (hs : HallOk n s) (hF : 1000000 ≤ F) (told : Int32) {i : Nat} (hi : i < n) : fX5_guest F (Int32.ofNat n) pkin psig psee (enc s) told (Int32.ofNat i) (2 : Int32) = some (1, if (s i).isSome = true then 0 else 1) := by
  have hn := hG.n6
  unfold fX5_guest
  rw [y_guest F hn hi, bd1_mk, if_neg (by decide), if_neg (by decide), if_pos (by decide)]
  unfold fX5_guestTells
  rw [if_neg (by decide), if_neg (by decide), if_pos (by decide), c_isIn F hs.hb (show i < 6 by omega), bd1_mk]
  cases (s i).isSome <;> rfl
theorem cx_guest4 (F : Nat) {n c : Nat} {E : Nat → Int} {K : Nat → Nat} {S : Nat → Nat → Bool} {peff pkin psig psee : Nat → Int32} (hG : CS n c E K S peff pkin psig psee) {s : Nat → Option Nat} (hs : HallOk n s) (hF : 1000000 ≤ F) (told : Int32) {i : Nat} (hi : i < n) : fX5_guest F (Int32.ofNat n) pkin psig psee (enc s) told (Int32.ofNat i) (4 : Int32) = some (1, if any6 (fun j => (s j).isSome && S j i) = true then 1 else 0) := by
  have hn := hG.n6
  unfold fX5_guest
  rw [y_guest F hn hi, bd1_mk, if_neg (by decide), if_neg (by decide), if_pos (by decide)]
  unfold fX5_guestTells fX2_watchers
  rw [if_neg (by decide), if_neg (by decide), if_neg (by decide), if_neg (by decide), p_cl (show i < 2147483648 by omega), if_neg (gx (show i < 6 by omega) (by omega)), c_insiders F hs.hb, bd1_mk, bd1_mk, hG.see i hi, st_and]
  simp only [st_zero]
  rw [any_comm (fun j => S j i) (fun j => (s j).isSome)]
  cases any6 (fun j => (s j).isSome && S j i) <;> rfl
theorem cx_count0 (F : Nat) (rs ts : Nat → Int32) (psize pclause : Int32) (pkin : Nat → Int32) (cdee : Int32) (cnow : Int64) (kdee : Nat → Int32) : fX5_count F rs ts psize pclause pkin cdee cnow kdee (0 : Int32) = some psize := rfl
theorem cx_count1 (F : Nat) (rs ts : Nat → Int32) (psize pclause : Int32) (pkin : Nat → Int32) (cdee : Int32) (cnow : Int64) (kdee : Nat → Int32) : fX5_count F rs ts psize pclause pkin cdee cnow kdee (1 : Int32) = some pclause := rfl
theorem cx_count2 (F : Nat) (rs ts : Nat → Int32) (psize pclause : Int32) (pkin : Nat → Int32) (cdee : Int32) (cnow : Int64) (kdee : Nat → Int32) : fX5_count F rs ts psize pclause pkin cdee cnow kdee (2 : Int32) = some cdee := rfl
theorem cx_count3 (F : Nat) (rs ts : Nat → Int32) (psize pclause : Int32) (pkin : Nat → Int32) (cdee : Int32) (kdee : Nat → Int32) {s : Nat → Option Nat} (hb : HB s) : fX5_count F rs ts psize pclause pkin cdee (enc s) kdee (3 : Int32) = some (Int32.ofNat (inP s)) := by
  unfold fX5_count
  rw [if_neg (by decide), if_neg (by decide), if_neg (by decide), if_pos (by decide), c_many_in F hb, bd1_mk]
  rfl
theorem cx_count4 (F : Nat) (rs ts : Nat → Int32) (psize pclause : Int32) (pkin : Nat → Int32) (cdee : Int32) (kdee : Nat → Int32) {s : Nat → Option Nat} (hb : HB s) (hF : 1000000 ≤ F) : fX5_count F rs ts psize pclause pkin cdee (enc s) kdee (4 : Int32) = some (Int32.ofNat (sg s 6)) := by
  unfold fX5_count
  rw [if_neg (by decide), if_neg (by decide), if_neg (by decide), if_neg (by decide), if_pos (by decide), c_sum F hb hF, bd1_mk]
theorem cx_count9 (F : Nat) (rs ts : Nat → Int32) (psize pclause : Int32) (pkin : Nat → Int32) (cdee : Int32) (cnow : Int64) (kdee : Nat → Int32) (hF : 1000000 ≤ F) : fX5_count F rs ts psize pclause pkin cdee cnow kdee (9 : Int32) = some (cI (fun e => !decide (kdee e = -1)) 3) := by
  unfold fX5_count
  rw [if_neg (by decide), if_neg (by decide), if_neg (by decide), if_neg (by decide), if_neg (by decide), if_neg (by decide), if_neg (by decide), if_neg (by decide), if_neg (by decide), if_pos (by decide), c_thereK F hF, bd1_mk]
theorem lt40 {d : Nat} (hd : d < 40) : Int32.ofNat d < (40 : Int32) := of_eq_true (by rw [show (40 : Int32) = Int32.ofNat 40 from rfl, p_lt (by omega) (by omega)]; exact eq_true hd)
theorem cx_tune (F : Nat) {n c : Nat} {E : Nat → Int} {K : Nat → Nat} {S : Nat → Nat → Bool} {peff pkin psig psee : Nat → Int32} (hG : CS n c E K S peff pkin psig psee) {s : Nat → Option Nat} (hs : HallOk n s) (hF : 1000000 ≤ F) {d : Nat} (hd : d < 40) (cahe : Nat → Int64) {t : Nat} (ht : t < 4) : fX5_tune F (Int32.ofNat n) (Int32.ofNat c) peff pkin psee (Int32.ofNat d) (enc s) cahe (Int32.ofNat t) = some (st (goes c K S (mapT E K t s)), Int32.ofNat (d + 1), enc (tuneS c E K S t s), vp_updL cahe d (enc s)) := by
  have hs' := hG.tune hs ht
  unfold fX5_tune
  rw [y_tune F ht, bd1_mk, if_neg (by decide), if_neg hG.nz, if_pos (lt40 hd), c_insiders F hs.hb, bd1_mk, c_afterTune F hG.pc hs (by omega) ht, bd1_mk, c_goOn F _ _ _ hd, bd3_mk, c_insiders F hs'.hb, bd1_mk, out_set]
theorem y_deed (F : Nat) {n c : Nat} {E : Nat → Int} {K : Nat → Nat} {S : Nat → Nat → Bool} {peff pkin psig psee : Nat → Int32} (hG : CS n c E K S peff pkin psig psee) {s : Nat → Option Nat} (hs : HallOk n s) (hF : 1000000 ≤ F) {d : Nat} (hd : d < 40) {i : Nat} (hi : i < n) : fX5_deedRefusal F (Int32.ofNat n) (Int32.ofNat d) (enc s) (Int32.ofNat i) = some (if (s i).isSome = true then 0 else -4) := by
  have hn := hG.n6
  unfold fX5_deedRefusal
  rw [y_guest F hn hi, bd1_mk, if_neg (by decide), c_isIn F hs.hb (show i < 6 by omega), bd1_mk, if_pos (lt40 hd)]
  cases (s i).isSome <;> rfl
theorem cx_say (F : Nat) {n c : Nat} {E : Nat → Int} {K : Nat → Nat} {S : Nat → Nat → Bool} {peff pkin psig psee : Nat → Int32} (hG : CS n c E K S peff pkin psig psee) {s : Nat → Option Nat} (hs : HallOk n s) (hF : 1000000 ≤ F) {d : Nat} (hd : d < 40) (cahe : Nat → Int64) {i : Nat} (hi : i < n) (hin : (s i).isSome = true) : fX5_say F (Int32.ofNat n) (Int32.ofNat c) pkin psee (Int32.ofNat d) (enc s) cahe (Int32.ofNat i) = some (Int32.ofNat (gv (nameS c K S i s) i), Int32.ofNat (d + 1), enc (nameS c K S i s), vp_updL cahe d (enc s)) := by
  have hn := hG.n6
  have hs' := PC.name (c := c) (E := E) (K := K) (S := S) hs hi
  unfold fX5_say
  rw [y_deed F hG hs hF hd hi, hin, if_pos rfl, bd1_mk, if_pos rfl, c_afterName F hG.pc hs (by omega) hi hin, bd1_mk, c_goOn F _ _ _ hd, bd3_mk, c_griefOf F hs'.hb (show i < 6 by omega), bd1_mk]
theorem cx_say_no (F : Nat) {n c : Nat} {E : Nat → Int} {K : Nat → Nat} {S : Nat → Nat → Bool} {peff pkin psig psee : Nat → Int32} (hG : CS n c E K S peff pkin psig psee) {s : Nat → Option Nat} (hs : HallOk n s) (hF : 1000000 ≤ F) {d : Nat} (hd : d < 40) (cahe : Nat → Int64) {i : Nat} (hi : i < n) (hin : (s i).isSome = false) : fX5_say F (Int32.ofNat n) (Int32.ofNat c) pkin psee (Int32.ofNat d) (enc s) cahe (Int32.ofNat i) = some (-4, Int32.ofNat d, enc s, cahe) := by
  unfold fX5_say
  rw [y_deed F hG hs hF hd hi, hin, if_neg (by decide), bd1_mk, if_neg (by decide)]
theorem ice_ok {n c : Nat} {K : Nat → Nat} {S : Nat → Nat → Bool} {s : Nat → Option Nat} (hs : HallOk n s) {i : Nat} (hi : i < n) : HallOk n (iceS c K S i s) := looksS_ok (ups_ok hs hi (by have := hs.gv20 i; omega))
theorem cx_ice (F : Nat) {n c : Nat} {E : Nat → Int} {K : Nat → Nat} {S : Nat → Nat → Bool} {peff pkin psig psee : Nat → Int32} (hG : CS n c E K S peff pkin psig psee) {s : Nat → Option Nat} (hs : HallOk n s) (hF : 1000000 ≤ F) {d : Nat} (hd : d < 40) (cahe : Nat → Int64) {i : Nat} (hi : i < n) (hin : (s i).isSome = true) : fX5_ice F (Int32.ofNat n) (Int32.ofNat c) pkin psee (Int32.ofNat d) (enc s) cahe (Int32.ofNat i) = some (Int32.ofNat (gv (iceS c K S i s) i), Int32.ofNat (d + 1), enc (iceS c K S i s), vp_updL cahe d (enc s)) := by
  have hn := hG.n6
  have hs' := ice_ok (c := c) (K := K) (S := S) hs hi
  unfold fX5_ice
  rw [y_deed F hG hs hF hd hi, hin, if_pos rfl, bd1_mk, if_pos rfl, c_afterIce F hG.pc hs (by omega) hi hin, bd1_mk, c_goOn F _ _ _ hd, bd3_mk, c_griefOf F hs'.hb (show i < 6 by omega), bd1_mk]
theorem cx_ice_no (F : Nat) {n c : Nat} {E : Nat → Int} {K : Nat → Nat} {S : Nat → Nat → Bool} {peff pkin psig psee : Nat → Int32} (hG : CS n c E K S peff pkin psig psee) {s : Nat → Option Nat} (hs : HallOk n s) (hF : 1000000 ≤ F) {d : Nat} (hd : d < 40) (cahe : Nat → Int64) {i : Nat} (hi : i < n) (hin : (s i).isSome = false) : fX5_ice F (Int32.ofNat n) (Int32.ofNat c) pkin psee (Int32.ofNat d) (enc s) cahe (Int32.ofNat i) = some (-4, Int32.ofNat d, enc s, cahe) := by
  unfold fX5_ice
  rw [y_deed F hG hs hF hd hi, hin, if_neg (by decide), bd1_mk, if_neg (by decide)]
theorem cx_undo (F : Nat) {d k : Nat} (hd : d ≤ 40) (hk : k < d) (now : Int64) (cahe : Nat → Int64) : fX5_undo F (Int32.ofNat d) now cahe (Int32.ofNat k) = some (Int32.ofNat (d - k), Int32.ofNat k, cahe k) := by
  have w0 : ¬ (Int32.ofNat k < 0) := of_eq_false (p_neg (by omega))
  have w1 : Int32.ofNat k ≤ Int32.ofNat d := of_eq_true (by rw [p_le (by omega) (by omega)]; exact eq_true (by omega))
  have w2 : ¬ (Int32.ofNat d ≤ Int32.ofNat k) := of_eq_false (by rw [p_le (by omega) (by omega)]; exact eq_false (by omega))
  unfold fX5_undo fX0_goBackTo
  rw [if_neg w0, if_pos w1, if_neg w0, if_neg w2, if_neg (p_ix (show k < 40 by omega) (by omega)), bd2_mk, p_sub (show k ≤ d by omega), p_cl (show k < 2147483648 by omega)]
theorem cx_undo_no (F : Nat) {d : Nat} (hd : d ≤ 40) (now : Int64) (cahe : Nat → Int64) : fX5_undo F (Int32.ofNat d) now cahe (Int32.ofNat d) = some (0, Int32.ofNat d, now) := by
  have w0 : ¬ (Int32.ofNat d < 0) := of_eq_false (p_neg (by omega))
  unfold fX5_undo fX0_goBackTo
  rw [if_neg w0, if_pos (Int32.le_refl _), if_neg w0, if_pos (Int32.le_refl _), bd2_mk, p_sub (Nat.le_refl _), Nat.sub_self]
  rfl
theorem cx_keep (F : Nat) {n : Nat} (hnz : ¬ (Int32.ofNat n = 0)) (cdee : Int32) (cnow : Int64) (cahe : Nat → Int64) (kdee : Nat → Int32) (know : Nat → Int64) (kahe : Nat → Nat → Int64) {k : Nat} (hk : k < 3) : fX5_keep F (Int32.ofNat n) cdee cnow cahe kdee know kahe (Int32.ofNat k) = some (cdee, va_up kdee k cdee, va_up know k cnow, va_up kahe k (va_cpy cahe (kahe k) 0 0 40)) := by
  unfold fX5_keep
  rw [y_keep F hk, bd1_mk, if_neg (by decide), if_neg hnz, p_cl (show k < 2147483648 by omega), if_neg (gx hk (by omega)), c_takeAll, bd3_mk]
theorem cx_on (F : Nat) (cdee : Int32) (cnow : Int64) (cahe : Nat → Int64) (kdee : Nat → Int32) (know : Nat → Int64) (kahe : Nat → Nat → Int64) (fc : Nat → Int32) (lf : Int32) {k d : Nat} (hk : k < 3) (hd : d ≤ 40) (hkd : kdee k = Int32.ofNat d) : fX5_on F cdee cnow cahe kdee know kahe fc lf (Int32.ofNat k) = some (Int32.ofNat d, Int32.ofNat d, know k, va_cpy (kahe k) cahe 0 0 40, fc, lf) := by
  unfold fX5_on
  rw [y_keep F hk, bd1_mk, if_neg (by decide), p_cl (show k < 2147483648 by omega), if_neg (gx hk (by omega)), hkd, if_neg (nat_ne1 (by omega)), if_neg (gx hk (by omega)), c_takeAll, bd3_mk]
theorem cx_out (F : Nat) {n c : Nat} {E : Nat → Int} {K : Nat → Nat} {S : Nat → Nat → Bool} {peff pkin psig psee : Nat → Int32} (hG : CS n c E K S peff pkin psig psee) {s : Nat → Option Nat} (hs : HallOk n s) (hF : 1000000 ≤ F) (told : Int32) {t : Nat} (ht : t < 4) : fX5_out F (Int32.ofNat n) (Int32.ofNat c) peff pkin psee (enc s) told (Int32.ofNat t) = some (st (goes c K S (mapT E K t s)), Int32.ofNat (sg (tuneS c E K S t s) 6)) := by
  have hs' := hG.tune hs ht
  unfold fX5_out
  rw [y_tune F ht, bd1_mk, if_neg (by decide), c_afterTune F hG.pc hs (by omega) ht, bd1_mk, c_sum F hs'.hb hF, bd1_mk, c_insiders F hs.hb, bd1_mk, c_insiders F hs'.hb, bd1_mk, out_set]
theorem cx_safe (F : Nat) {n c : Nat} {E : Nat → Int} {K : Nat → Nat} {S : Nat → Nat → Bool} {peff pkin psig psee : Nat → Int32} (hG : CS n c E K S peff pkin psig psee) {s : Nat → Option Nat} (hs : HallOk n s) (hF : 1000000 ≤ F) : fX5_safe F (Int32.ofNat n) (Int32.ofNat c) peff pkin psee (enc s) = some (oI (fun t => decide (st (goes c K S (mapT E K t s)) = 0)) 4) := by
  unfold fX5_safe
  rw [if_neg hG.nz]
  refine loop_up (fun fu (a : Int32 × Int32) => fX5_safe_l17 F (Int32.ofNat n) (Int32.ofNat c) peff pkin psee (enc s) fu a.1 a.2) 4 (fun k => (oI (fun t => decide (st (goes c K S (mapT E K t s)) = 0)) k, Int32.ofNat k)) _ ?_ ?_ F (by omega)
  · intro fu k hk
    dsimp only
    rw [fX5_safe_l17, fX5_safe_l17_b, if_neg (of_eq_false (f4_lt hk)), c_afterTune F hG.pc hs (by omega) hk, bd1_mk, c_insiders F (hG.tune hs hk).hb, bd1_mk, c_insiders F hs.hb, bd1_mk, p_s]
    by_cases h : st (goes c K S (mapT E K k s)) = 0
    · rw [if_pos (by rw [safe_iff]; exact h), oI_t (decide_eq_true h)]
    · rw [if_neg (by rw [safe_iff]; exact h), oI_f (decide_eq_false h)]
  · intro fu
    dsimp only
    rw [fX5_safe_l17, fX5_safe_l17_b, if_pos (by decide)]
theorem cx_row (F : Nat) (rs : Nat → Int32) (rm : Nat → Nat → Int32) (fc : Nat → Int32) (lf : Int32) {r m : Nat} (hr : r < 6) (hm : m ≤ 40) (hF : 1000000 ≤ F) : fX5_row F rs rm fc lf (Int32.ofNat r) (Int32.ofNat m) = some (Int32.ofNat m, upd rs r (Int32.ofNat m), (fun q i => if q = r ∧ i < m then 0 else rm q i), fc, lf) := by
  unfold fX5_row
  rw [y_row F hr, bd1_mk, if_neg (by decide), if_pos (of_eq_true (by rw [show (40 : Int32) = Int32.ofNat 40 from rfl, p_le (by omega) (by omega)]; exact eq_true hm)), if_pos (of_eq_true (by rw [show (0 : Int32) = Int32.ofNat 0 from rfl, p_le (by omega) (by omega)]; exact eq_true (Nat.zero_le _))), c_makeRow F rs rm hr hm hF, bd2_mk]
