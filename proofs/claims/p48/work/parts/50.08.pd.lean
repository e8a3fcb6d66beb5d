theorem c_canFall (F : Nat) {n c : Nat} {E : Nat → Int} {K : Nat → Nat} {S : Nat → Nat → Bool} {size clause : Int32} {eff kin see : Nat → Int32} (hp : PC n c E K S size clause eff kin see) (p : Nat → Bool) {i : Nat} (hi : i < n) : fX2_canFall F kin see (st p) (Int32.ofNat i) = some (if (p i && !(K i == 5) && any6 (fun j => p j && S j i)) = true then 1 else 0) := by
  obtain ⟨hn, -, -, -, -, hk, hs, -⟩ := hp
  have h6 : i < 6 := by omega
  have f1 := p_neg (k := i) (by omega)
  have f2 := p_cl (k := i) (by omega)
  have f3 : (6 ≤ i) = False := p_nle h6
  have f4 : (Int32.ofNat (K i) = (5 : Int32)) = (K i = 5) := p_eq (by have := (hk i hi).1; omega) (by decide)
  unfold fX2_canFall
  rw [st_bit p h6]
  simp only [f1, f2, f3, or_self, ↓reduceIte, (hk i hi).2, f4, hs i hi, st_and, st_zero]
  cases hpi : p i with
  | false => simp [hpi]
  | true =>
    by_cases h5 : K i = 5
    · simp [h5]
    · have ha : any6 (fun j => S j i && p j) = any6 (fun j => p j && S j i) := by
        congr 1
        funext j
        exact Bool.and_comm _ _
      rw [ha]
      cases hq : any6 (fun j => p j && S j i) <;> simp [h5]
def wk (c : Nat) (K : Nat → Nat) (S : Nat → Nat → Bool) (s : Nat → Option Nat) (k : Nat) : Nat → Option Nat := fun j => if j < k then looksS c K S s j else s j
theorem wk_ok {n c : Nat} {K : Nat → Nat} {S : Nat → Nat → Bool} {s : Nat → Option Nat} (h : HallOk n s) (k : Nat) : HallOk n (wk c K S s k) := by
  have hl := looksS_ok (c := c) (K := K) (S := S) h
  refine ⟨fun i hi => ?_, fun i g hg => ?_⟩
  · unfold wk
    split
    · exact hl.1 i hi
    · exact h.1 i hi
  · unfold wk at hg
    split at hg
    · exact hl.2 i g hg
    · exact h.2 i g hg
theorem c_wts (F : Nat) {n c : Nat} {E : Nat → Int} {K : Nat → Nat} {S : Nat → Nat → Bool} {size clause : Int32} {eff kin see : Nat → Int32} (hp : PC n c E K S size clause eff kin see) {s : Nat → Option Nat} (hs : HallOk n s) (hF : 6 < F) : fX2_withoutTheSeen F size clause kin see (enc s) = some (enc (looksS c K S s)) := by
  have hp0 := hp
  obtain ⟨hn, rfl, hc, rfl, -, hk, -, -⟩ := hp
  unfold fX2_withoutTheSeen
  rw [c_insiders F hs.hb, bd1_mk]
  have key := loop_up (fun fu (a : Int64 × Int32) => fX2_withoutTheSeen_l11 F (Int32.ofNat n) (Int32.ofNat c) kin see (enc s) (st (fun i => (s i).isSome)) fu a.1 a.2) n (fun k => (enc (wk c K S s k), Int32.ofNat k)) (some (enc (looksS c K S s))) ?_ ?_ F (by omega)
  · have e0 : enc (wk c K S s 0) = enc s := enc_congr (fun i _ => by simp [wk])
    dsimp only at key
    rw [e0] at key
    exact key
  · intro fu k hkn
    show fX2_withoutTheSeen_l11_b F (Int32.ofNat n) (Int32.ofNat c) kin see (enc s) (st (fun i => (s i).isSome)) (fX2_withoutTheSeen_l11 F (Int32.ofNat n) (Int32.ofNat c) kin see (enc s) (st (fun i => (s i).isSome)) fu) (enc (wk c K S s k)) (Int32.ofNat k) = fX2_withoutTheSeen_l11 F (Int32.ofNat n) (Int32.ofNat c) kin see (enc s) (st (fun i => (s i).isSome)) fu (enc (wk c K S s (k + 1))) (Int32.ofNat (k + 1))
    unfold fX2_withoutTheSeen_l11_b
    have h6 : k < 6 := by omega
    have hg20 := hs.gv20 k
    have f0 : (Int32.ofNat n ≤ Int32.ofNat k) = False := by rw [p_le (by omega) (by omega)]; exact p_nle hkn
    have same : goes c K S s k = false → enc (wk c K S s k) = enc (wk c K S s (k + 1)) := fun hgo => enc_congr (fun i _ => by
      unfold wk
      by_cases h1 : i < k
      · rw [if_pos h1, if_pos (by omega)]
      · by_cases h2 : i = k
        · subst h2
          rw [if_neg h1, if_pos (by omega)]
          unfold looksS
          rw [hgo]
          rfl
        · rw [if_neg h1, if_neg (by omega)])
    simp only [f0, ↓reduceIte, c_griefOf F hs.hb h6, bd1_mk, p_le (a := gv s k) (b := c) (by omega) (by omega), c_canFall F hp0 _ hkn, p_s]
    by_cases hg : gv s k ≤ c
    · have hgo : goes c K S s k = false := by unfold goes; simp [show ¬ c < gv s k by omega]
      rw [if_pos hg, same hgo]
    · rw [if_neg hg]
      cases hq : ((s k).isSome && !(K k == 5) && any6 (fun j => (s j).isSome && S j k)) with
      | false =>
        have hgo : goes c K S s k = false := by
          unfold goes
          rw [show decide (c < gv s k) = true from decide_eq_true (by omega), Bool.and_true]
          exact hq
        rw [same hgo]
        simp
      | true =>
        have hgo : goes c K S s k = true := by
          unfold goes
          rw [show decide (c < gv s k) = true from decide_eq_true (by omega), Bool.and_true]
          exact hq
        have hsome : (wk c K S s k k).isSome = true := by
          unfold wk
          rw [if_neg (Nat.lt_irrefl k)]
          simp only [Bool.and_eq_true] at hq
          exact hq.1.1
        rw [c_without F (wk_ok hs k).hb h6 hsome]
        have e : enc (rem (wk c K S s k) k) = enc (wk c K S s (k + 1)) := enc_congr (fun i _ => by
          unfold rem wk
          by_cases h2 : i = k
          · subst h2
            rw [if_pos rfl, if_pos (by omega)]
            unfold looksS
            rw [hgo]
            rfl
          · rw [if_neg h2]
            by_cases h1 : i < k
            · rw [if_pos h1, if_pos (by omega)]
            · rw [if_neg h1, if_neg (by omega)])
        rw [e]
        simp [bd1_mk]
  · intro fu
    show fX2_withoutTheSeen_l11_b F (Int32.ofNat n) (Int32.ofNat c) kin see (enc s) (st (fun i => (s i).isSome)) (fX2_withoutTheSeen_l11 F (Int32.ofNat n) (Int32.ofNat c) kin see (enc s) (st (fun i => (s i).isSome)) fu) (enc (wk c K S s n)) (Int32.ofNat n) = some (enc (looksS c K S s))
    unfold fX2_withoutTheSeen_l11_b
    rw [if_pos (Int32.le_refl _)]
    refine congrArg some (enc_congr fun i _ => ?_)
    unfold wk
    by_cases h1 : i < n
    · rw [if_pos h1]
    · rw [if_neg h1, hs.1 i (by omega), (looksS_ok hs).1 i (by omega)]
def tk (E : Nat → Int) (K : Nat → Nat) (t : Nat) (s : Nat → Option Nat) (k : Nat) : Nat → Option Nat := fun j => if j < k then mapT E K t s j else s j
theorem c_afterTune (F : Nat) {n c : Nat} {E : Nat → Int} {K : Nat → Nat} {S : Nat → Nat → Bool} {size clause : Int32} {eff kin see : Nat → Int32} (hp : PC n c E K S size clause eff kin see) {s : Nat → Option Nat} (hs : HallOk n s) (hF : 6 < F) {t : Nat} (ht : t < 4) : fX2_afterTune F size clause eff kin see (enc s) (Int32.ofNat t) = some (enc (tuneS c E K S t s)) := by
  have hp0 := hp
  obtain ⟨hn, rfl, hc, rfl, hE, hk, -, -⟩ := hp
  obtain ⟨hE1, hE2, hE3⟩ := hE t ht
  have hm : HallOk n (mapT E K t s) := mapT_ok hs ht ⟨hE1, hE2⟩ (fun i hi => (hk i hi).1)
  have htk : ∀ k, HallOk n (tk E K t s k) := fun k => by
    refine ⟨fun i hi => ?_, fun i g hg => ?_⟩
    · unfold tk
      split
      · exact hm.1 i hi
      · exact hs.1 i hi
    · unfold tk at hg
      split at hg
      · exact hm.2 i g hg
      · exact hs.2 i g hg
  unfold fX2_afterTune
  have key := loop_up (fun fu (a : Int64 × Int32) => fX2_afterTune_l6 F (Int32.ofNat n) (Int32.ofNat c) eff kin see (enc s) (Int32.ofNat t) fu a.1 a.2) n (fun k => (enc (tk E K t s k), Int32.ofNat k)) (some (enc (tuneS c E K S t s))) ?_ ?_ F (by omega)
  · have e0 : enc (tk E K t s 0) = enc s := enc_congr (fun i _ => by simp [tk])
    dsimp only at key
    rw [e0] at key
    exact key
  · intro fu k hkn
    show fX2_afterTune_l6_b F (Int32.ofNat n) (Int32.ofNat c) eff kin see (enc s) (Int32.ofNat t) (fX2_afterTune_l6 F (Int32.ofNat n) (Int32.ofNat c) eff kin see (enc s) (Int32.ofNat t) fu) (enc (tk E K t s k)) (Int32.ofNat k) = fX2_afterTune_l6 F (Int32.ofNat n) (Int32.ofNat c) eff kin see (enc s) (Int32.ofNat t) fu (enc (tk E K t s (k + 1))) (Int32.ofNat (k + 1))
    unfold fX2_afterTune_l6_b
    have h6 : k < 6 := by omega
    have f0 : (Int32.ofNat n ≤ Int32.ofNat k) = False := by rw [p_le (by omega) (by omega)]; exact p_nle hkn
    have f1 := p_neg (k := k) (by omega)
    have f2 := p_cl (k := k) (by omega)
    have f3 : (6 ≤ k) = False := p_nle h6
    have f4 := p_neg (k := t) (by omega)
    have f5 := p_cl (k := t) (by omega)
    have f6 : (4 ≤ t) = False := p_nle ht
    simp only [f0, f1, f2, f3, f4, f5, f6, or_self, ↓reduceIte, c_griefOf F hs.hb h6, c_isIn F hs.hb h6, bd1_mk, (hk k hkn).2, hE3, c_gb F (hk k hkn).1 ht hE1 hE2 (hs.gv20 k), p_s]
    cases e : s k with
    | none =>
      have e2 : enc (tk E K t s k) = enc (tk E K t s (k + 1)) := enc_congr (fun i _ => by
        unfold tk
        by_cases h1 : i < k
        · rw [if_pos h1, if_pos (by omega)]
        · by_cases h2 : i = k
          · subst h2
            rw [if_neg h1, if_pos (by omega)]
            unfold mapT
            rw [e]
            rfl
          · rw [if_neg h1, if_neg (by omega)])
      rw [e2]
      simp
    | some g =>
      have hgb := (gb_all (hk k hkn).1 ht hE1 hE2 (hs.gv20 k)).2.2
      have hsome : (tk E K t s k k).isSome = true := by
        unfold tk
        rw [if_neg (Nat.lt_irrefl k), e]
        rfl
      rw [c_withGrief F (htk k).hb h6 hsome (by omega)]
      have e2 : enc (ups (tk E K t s k) k (gb (K k) t (E t) (gv s k))) = enc (tk E K t s (k + 1)) := enc_congr (fun i _ => by
        unfold ups tk
        by_cases h2 : i = k
        · subst h2
          rw [if_pos rfl, if_pos (by omega)]
          unfold mapT
          rw [e, gv_some e]
          rfl
        · rw [if_neg h2]
          by_cases h1 : i < k
          · rw [if_pos h1, if_pos (by omega)]
          · rw [if_neg h1, if_neg (by omega)])
      rw [e2]
      simp [bd1_mk]
  · intro fu
    show fX2_afterTune_l6_b F (Int32.ofNat n) (Int32.ofNat c) eff kin see (enc s) (Int32.ofNat t) (fX2_afterTune_l6 F (Int32.ofNat n) (Int32.ofNat c) eff kin see (enc s) (Int32.ofNat t) fu) (enc (tk E K t s n)) (Int32.ofNat n) = some (enc (tuneS c E K S t s))
    unfold fX2_afterTune_l6_b
    have e2 : enc (tk E K t s n) = enc (mapT E K t s) := enc_congr (fun i _ => by
      unfold tk
      by_cases h1 : i < n
      · rw [if_pos h1]
      · rw [if_neg h1, hs.1 i (by omega), hm.1 i (by omega)])
    rw [if_pos (Int32.le_refl _), e2, c_wts F hp0 hm hF, bd1_mk]
    rfl
theorem rbn_F (F : Nat) (x : Int32) : fX2_riseByName F x = fX2_riseByName 0 x := by
  unfold fX2_riseByName
  rfl
theorem bnd_F (F : Nat) (x : Int32) : fX2_bounded F x = fX2_bounded 0 x := by
  unfold fX2_bounded
  rfl
theorem nm_le (k g : Nat) : nm k g ≤ 20 := Nat.min_le_left _ _
theorem c_afterName (F : Nat) {n c : Nat} {E : Nat → Int} {K : Nat → Nat} {S : Nat → Nat → Bool} {size clause : Int32} {eff kin see : Nat → Int32} (hp : PC n c E K S size clause eff kin see) {s : Nat → Option Nat} (hs : HallOk n s) (hF : 6 < F) {i : Nat} (hi : i < n) (hin : (s i).isSome = true) : fX2_afterName F size clause kin see (enc s) (Int32.ofNat i) = some (enc (nameS c K S i s)) := by
  have hp0 := hp
  obtain ⟨hn, -, -, -, -, hk, -, -⟩ := hp
  have h6 : i < 6 := by omega
  have f1 := p_neg (k := i) (by omega)
  have f2 := p_cl (k := i) (by omega)
  have f3 : (6 ≤ i) = False := p_nle h6
  have hnm := (nm_dec (K i) (by have := (hk i hi).1; omega) (gv s i) (by have := hs.gv20 i; omega)).1
  obtain ⟨r1, hr1, hr2⟩ := bd1_some hnm
  have hr1 : fX2_riseByName F (Int32.ofNat (K i)) = some r1 := (rbn_F F _).trans hr1
  have hr2 : fX2_bounded F (Int32.ofNat (gv s i) + r1) = some (Int32.ofNat (nm (K i) (gv s i))) := (bnd_F F _).trans hr2
  have hle := nm_le (K i) (gv s i)
  have h32 : nm (K i) (gv s i) < 32 := by omega
  have e1 := c_griefOf F hs.hb h6
  have e2 := c_withGrief F hs.hb h6 hin h32
  have e3 := c_wts F hp0 (ups_ok hs hi hle) hF
  unfold fX2_afterName nameS
  rw [e1, bd1_mk, if_neg (p_ix h6 (by omega)), f2, (hk i hi).2, hr1, bd1_mk, hr2, bd1_mk, e2, bd1_mk, e3, bd1_mk]
theorem c_afterIce (F : Nat) {n c : Nat} {E : Nat → Int} {K : Nat → Nat} {S : Nat → Nat → Bool} {size clause : Int32} {eff kin see : Nat → Int32} (hp : PC n c E K S size clause eff kin see) {s : Nat → Option Nat} (hs : HallOk n s) (hF : 6 < F) {i : Nat} (hi : i < n) (hin : (s i).isSome = true) : fX2_afterIce F size clause kin see (enc s) (Int32.ofNat i) = some (enc (iceS c K S i s)) := by
  have hp0 := hp
  obtain ⟨hn, -, -, -, -, hk, -, -⟩ := hp
  have h6 : i < 6 := by omega
  have hg := hs.gv20 i
  have hb : fX2_bounded F (Int32.ofNat (gv s i) - (3 : Int32)) = some (Int32.ofNat (gv s i - 3)) := (bnd_F F _).trans (ice_dec (gv s i) (by omega)).1
  have h32 : gv s i - 3 < 32 := by omega
  have h20 : gv s i - 3 ≤ 20 := by omega
  have e1 := c_griefOf F hs.hb h6
  have e2 := c_withGrief F hs.hb h6 hin h32
  have e3 := c_wts F hp0 (ups_ok hs hi h20) hF
  unfold fX2_afterIce iceS
  rw [e1, bd1_mk, hb, bd1_mk, e2, bd1_mk, e3, bd1_mk]
