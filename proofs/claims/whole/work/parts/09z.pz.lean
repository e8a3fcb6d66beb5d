def LA (F n c N : Nat) (md mk ms mn : Nat → Int32) (fu : Nat) (x2 : Int32) (a sp tr be : Nat → Int32) : Option (Int32 × (Nat → Int32) × (Nat → Int32) × (Nat → Int32) × (Nat → Int32)) := fX6_aunt_l52 F (Int32.ofNat n) (Int32.ofNat c) md mk ms mn (Int32.ofNat N) fu x2 a sp tr be
def EXT (F n c N : Nat) (md mk ms mn : Nat → Int32) (d fu : Nat) (a sp tr be : Nat → Int32) : Option (Int32 × (Nat → Int32) × (Nat → Int32) × (Nat → Int32) × (Nat → Int32)) := if d = 0 then LA F n c N md mk ms mn fu (-1) a sp tr be else LA F n c N md mk ms mn fu (Int32.ofNat (d - 1)) a sp tr (upd be (d - 1) (wv (d - 1) (be (d - 1)) (be d)))
def gV (n c : Nat) (E : Nat → Int) (K : Nat → Nat) (S : Nat → Nat → Bool) (r : Nat) (s : Nat → Option Nat) : Nat := if r % 2 = 0 then bandV n c E K S (r / 2) s else foldA c K S (bandV n c E K S (r / 2)) s n
def Cb : Nat → Nat
  | 0 => 0
  | r + 1 => 7 * (Cb r + 1) + 1
theorem la_head (F : Nat) {n c N : Nat} {md mk ms mn a sp tr be : Nat → Int32} {d k : Nat} (hd : d < 6) (htr : tr d + 1 = Int32.ofNat k) (fu : Nat) : LA F n c N md mk ms mn (fu + 1) (Int32.ofNat d) a sp tr be = fX6_aunt_n84 F (LA F n c N md mk ms mn fu) (Int32.ofNat n) (Int32.ofNat c) md mk ms mn (Int32.ofNat k) (Int32.ofNat (lim d)) (Int32.ofNat N) (Int32.ofNat d) a sp (upd tr d (Int32.ofNat k)) be := by
  have hpar := par_tab d (by omega)
  have w0 : ¬ (Int32.ofNat d < 0) := of_eq_false (p_neg (by omega))
  unfold LA
  rw [fX6_aunt_l52, fX6_aunt_l52_b, if_neg w0, p_cl (show d < 2147483648 by omega), if_neg (gx (show d < 7 by omega) (by omega)), if_neg (gx (show d < 7 by omega) (by omega)), if_neg (gx (show d < 7 by omega) (by omega)), htr, upd_at, if_pos rfl]
  unfold lim
  by_cases h : d % 2 = 0
  · rw [if_pos (by rw [hpar]; exact h), if_pos h]
    rfl
  · rw [if_neg (by rw [hpar]; exact h), if_neg h]
    rfl
theorem lim_le (d : Nat) : lim d ≤ 7 := by unfold lim; split <;> omega
theorem dm1 {d : Nat} (hd : 0 < d) : Int32.ofNat d + (-1 : Int32) = Int32.ofNat (d - 1) := by
  rw [← p_nz d, ← p_nz (d - 1), show ((-1 : Int32)) = Int32.ofInt (-1) from by decide, ← Int32.ofInt_add]
  congr 1
  omega
theorem la_exit (F : Nat) {n c N : Nat} {md mk ms mn a sp tr be : Nat → Int32} {d : Nat} (hd : d < 6) (htr : tr d + 1 = Int32.ofNat (lim d)) (fu : Nat) : LA F n c N md mk ms mn (fu + 1) (Int32.ofNat d) a sp tr be = EXT F n c N md mk ms mn d fu a sp (upd tr d (Int32.ofNat (lim d))) be := by
  rw [la_head F hd htr fu]
  unfold fX6_aunt_n84 EXT
  rw [if_pos rfl]
  by_cases h0 : d = 0
  · subst h0
    rw [if_pos (by decide), if_pos rfl]
    rfl
  · rw [dm1 (by omega), if_neg (of_eq_false (p_neg (by omega))), if_neg h0, p_s, show d - 1 + 1 = d by omega, p_cl (show d < 2147483648 by omega), if_neg (gx (show d < 7 by omega) (by omega)), m_weighs F be (show d - 1 < 7 by omega), bd1_mk]
theorem la_go (F : Nat) {n c N : Nat} {md mk ms mn a sp tr be : Nat → Int32} {d k : Nat} (hd : d < 6) (hN : 0 < N) (hN3 : N ≤ 3) (htr : tr d + 1 = Int32.ofNat k) (hk : k < lim d) (fu : Nat) : LA F n c N md mk ms mn (fu + 1) (Int32.ofNat d) a sp tr be = (bd3 (fX6_tries F (Int32.ofNat n) (Int32.ofNat c) md mk ms a sp (upd tr d (Int32.ofNat k)) (Int32.ofNat d)) fun r112 a' sp' => if r112 = 0 then LA F n c N md mk ms mn fu (Int32.ofNat d) a' sp' (upd tr d (Int32.ofNat k)) be else (if d = 2 * N - 1 then (bd1 (fX6_bits F ((a' 6) &&& ((mn 6) ^^^ (-1 : Int32)))) fun r146 => LA F n c N md mk ms mn fu (Int32.ofNat d) a' sp' (upd tr d (Int32.ofNat k)) (upd be d (wv d (be d) r146))) else LA F n c N md mk ms mn fu (Int32.ofNat (d + 1)) a' sp' (upd (upd tr d (Int32.ofNat k)) (d + 1) (-1)) (upd be (d + 1) (ini (d + 1))))) := by
  have hl := lim_le d
  have e1 : (2 : Int32) * Int32.ofNat N - (1 : Int32) = Int32.ofNat (2 * N - 1) := by
    rw [show (2 : Int32) = Int32.ofNat 2 from rfl, p_mul, show (1 : Int32) = Int32.ofNat 1 from rfl, p_sub (by omega)]
  have e2 : (Int32.ofNat d = Int32.ofNat (2 * N - 1)) = (d = 2 * N - 1) := p_eq (by omega) (by omega)
  have e3 : ¬ (Int32.ofNat k = Int32.ofNat (lim d)) := of_eq_false (by rw [p_eq (by omega) (by omega)]; exact eq_false (by omega))
  rw [la_head F hd htr fu]
  unfold fX6_aunt_n84
  rw [if_neg e3, e1, show (6 : Int32).toNatClampNeg = 6 from rfl, p_s, m_begins F _ _ (show d + 1 < 7 by omega)]
  refine congrArg (bd3 _) ?_
  funext r112 a' sp'
  by_cases h0 : r112 = 0
  · rw [if_pos h0, if_pos h0]
  · rw [if_neg h0, if_neg h0]
    by_cases h : d = 2 * N - 1
    · rw [if_pos (by rw [e2]; exact h), if_pos h]
      refine congrArg (bd1 _) ?_
      funext v
      rw [m_weighs F be (show d < 7 by omega), bd1_mk]
    · rw [if_neg (by rw [e2]; exact h), if_neg h, bd2_mk]
def SubS (s s0 : Nat → Option Nat) : Prop := ∀ i, (s i).isSome = true → (s0 i).isSome = true
theorem inP_sub {s s0 : Nat → Option Nat} (h : SubS s s0) : inP s ≤ inP s0 := by
  have key : ∀ i, (s i).isSome.toNat ≤ (s0 i).isSome.toNat := fun i => by
    have := h i
    cases a : (s i).isSome
    · exact Nat.zero_le _
    · rw [a] at this
      rw [this rfl]
      exact Nat.le_refl _
  unfold inP pop
  dsimp only
  have h0 := key 0; have h1 := key 1; have h2 := key 2; have h3 := key 3; have h4 := key 4; have h5 := key 5
  omega
theorem sub_tune {c : Nat} {E : Nat → Int} {K : Nat → Nat} {S : Nat → Nat → Bool} {t : Nat} {s : Nat → Option Nat} : SubS (tuneS c E K S t s) s := fun i h => by
  have : ((s i).isSome && !goes c K S (mapT E K t s) i) = true := by
    rw [← mapT_some (E := E) (K := K) (t := t), ← looksS_some]
    exact h
  rw [Bool.and_eq_true] at this
  exact this.1
theorem sub_name {c : Nat} {K : Nat → Nat} {S : Nat → Nat → Bool} {k : Nat} {s : Nat → Option Nat} (hk : (s k).isSome = true) : SubS (nameS c K S k s) s := fun i h => by
  unfold nameS at h
  rw [looksS_some, Bool.and_eq_true] at h
  have h1 := h.1
  unfold ups at h1
  by_cases e : i = k
  · subst e; exact hk
  · rw [if_neg e] at h1
    exact h1
theorem chd_ok {n c d k : Nat} {E : Nat → Int} {K : Nat → Nat} {S : Nat → Nat → Bool} {mguests mclause : Int32} {mdoes mkinds msees : Nat → Int32} (hp : PM n c E K S mguests mclause mdoes mkinds msees) {s s' : Nat → Option Nat} (hs : HallOk n s) (hk : k < lim d) (h : chd c E K S d s k = some s') : HallOk n s' ∧ SubS s' s := by
  obtain ⟨hn, -, hc, -, hE, hK, -, -⟩ := hp
  unfold chd at h
  by_cases h2 : d % 2 = 0
  · rw [if_pos h2] at h
    cases h
    have hk4 : k < 4 := by unfold lim at hk; rw [if_pos h2] at hk; exact hk
    exact ⟨tuneS_ok hs hk4 ⟨(hE k hk4).1, (hE k hk4).2.1⟩ fun i hi => (hK i hi).1, sub_tune⟩
  · rw [if_neg h2] at h
    by_cases h6 : k < 6
    · rw [if_pos h6] at h
      cases hso : (s k).isSome with
      | false => rw [hso, if_neg (by decide)] at h; cases h
      | true =>
        rw [hso, if_pos rfl] at h
        cases h
        have hkn : k < n := Nat.lt_of_not_le fun q => by rw [hs.1 k q] at hso; cases hso
        exact ⟨looksS_ok (ups_ok hs hkn (nm_le _ _)), sub_name hso⟩
    · rw [if_neg h6] at h
      by_cases hz : inP s = 0
      · rw [if_pos hz] at h
        cases h
        exact ⟨hs, fun i hi => hi⟩
      · rw [if_neg hz] at h; cases h
def NodeP (F n c N : Nat) (E : Nat → Int) (K : Nat → Nat) (S : Nat → Nat → Bool) (md mk ms mn : Nat → Int32) (s0 : Nat → Option Nat) (r : Nat) : Prop := ∀ (d : Nat) (s : Nat → Option Nat) (a sp tr be : Nat → Int32), d + r = 2 * N → HallOk n s → SubS s s0 → RM sp (7 * d) s n → tr d = -1 → be d = ini d → ∃ (cost : Nat) (a' sp' tr' be' : Nat → Int32), cost ≤ Cb r ∧ (∀ fu, LA F n c N md mk ms mn (fu + cost) (Int32.ofNat d) a sp tr be = EXT F n c N md mk ms mn d fu a' sp' tr' be') ∧ be' d = Int32.ofNat (inP s0 - gV n c E K S r s) ∧ (∀ j, j < d → tr' j = tr j) ∧ (∀ j, j < d → be' j = be j) ∧ ∀ q, q < 7 * (d + 1) → sp' q = sp q
theorem node_step (F : Nat) {n c N : Nat} {E : Nat → Int} {K : Nat → Nat} {S : Nat → Nat → Bool} {md mk ms mn : Nat → Int32} (hp : PM n c E K S (Int32.ofNat n) (Int32.ofNat c) md mk ms) {s0 : Nat → Option Nat} (hs0 : HallOk n s0) (hm0 : RM mn 0 s0 n) (hN : 0 < N) (hN3 : N ≤ 3) (hF : 1000000 ≤ F) {r d k : Nat} (hdr : d + 1 + r = 2 * N) (IH : r = 0 ∨ NodeP F n c N E K S md mk ms mn s0 r) {s : Nat → Option Nat} (hs : HallOk n s) (hsub : SubS s s0) {a sp tr be : Nat → Int32} (hsp : RM sp (7 * d) s n) (htr : tr d + 1 = Int32.ofNat k) (hk : k < lim d) : ∃ (cost : Nat) (a1 sp1 tr1 be1 : Nat → Int32), cost ≤ Cb r + 1 ∧ (∀ fu, LA F n c N md mk ms mn (fu + cost) (Int32.ofNat d) a sp tr be = LA F n c N md mk ms mn fu (Int32.ofNat d) a1 sp1 tr1 be1) ∧ tr1 d = Int32.ofNat k ∧ be1 d = (match chd c E K S d s k with | none => be d | some s' => wv d (be d) (Int32.ofNat (inP s0 - gV n c E K S r s'))) ∧ (∀ j, j < d → tr1 j = tr j) ∧ (∀ j, j < d → be1 j = be j) ∧ ∀ q, q < 7 * (d + 1) → sp1 q = sp q := by
  have ht := m_tries F (a := a) hp hs (show d < 6 by omega) hk (show upd tr d (Int32.ofNat k) d = Int32.ofNat k by rw [upd_at, if_pos rfl]) hsp hF
  have hgo := la_go F (n := n) (c := c) (md := md) (mk := mk) (ms := ms) (mn := mn) (a := a) (sp := sp) (be := be) (show d < 6 by omega) hN hN3 htr hk
  have hok := fun s' h => chd_ok (s' := s') hp hs hk h
  cases hc : chd c E K S d s k with
  | none =>
    rw [hc] at ht
    obtain ⟨a', e1⟩ := ht
    refine ⟨1, a', sp, upd tr d (Int32.ofNat k), be, by omega, fun fu => ?_, by rw [upd_at, if_pos rfl], rfl, fun j hj => by rw [upd_at, if_neg (by omega)], fun j hj => rfl, fun q hq => rfl⟩
    rw [hgo fu, e1, bd3_mk, if_pos rfl]
  | some s' =>
    rw [hc] at ht
    obtain ⟨hs', hsub'⟩ := hok s' hc
    have hsub0 : SubS s' s0 := fun i h => hsub i (hsub' i h)
    obtain ⟨a', sp', e1, e2, e3, e4⟩ := ht
    by_cases hl : d = 2 * N - 1
    · have hr0 : r = 0 := by omega
      subst hr0
      have hpo := pop_out (n := n) hs0 hsub0
      refine ⟨1, a', sp', upd tr d (Int32.ofNat k), upd be d (wv d (be d) (Int32.ofNat (inP s0 - gV n c E K S 0 s'))), by omega, fun fu => ?_, by rw [upd_at, if_pos rfl], by rw [upd_at, if_pos rfl], fun j hj => by rw [upd_at, if_neg (by omega)], fun j hj => by rw [upd_at, if_neg (by omega)], e4⟩
      rw [hgo fu, e1, bd3_mk, if_neg (by decide), if_pos hl, rm_6 e2, rm_6 hm0, st_andn, m_bits F _ hF, bd1_mk, show pop (fun i => (decide (i < n) && (s' i).isNone) && !(decide (i < n) && (s0 i).isNone)) = inP s0 - gV n c E K S 0 s' by
        have : gV n c E K S 0 s' = inP s' := rfl
        omega]
    · rcases IH with h0 | IH
      · exact absurd h0 (by omega)
      · obtain ⟨cost, a2, sp2, tr2, be2, i1, i2, i3, i4, i5, i6⟩ := IH (d + 1) s' a' sp' (upd (upd tr d (Int32.ofNat k)) (d + 1) (-1)) (upd be (d + 1) (ini (d + 1))) hdr hs' hsub0 e3 (by rw [upd_at, if_pos rfl]) (by rw [upd_at, if_pos rfl])
        have b1 : be2 d = be d := by rw [i5 d (by omega), upd_at, if_neg (by omega)]
        refine ⟨cost + 1, a2, sp2, tr2, upd be2 d (wv d (be2 d) (be2 (d + 1))), by omega, fun fu => ?_, ?_, ?_, fun j hj => ?_, fun j hj => ?_, fun q hq => ?_⟩
        · show LA F n c N md mk ms mn (fu + cost + 1) (Int32.ofNat d) a sp tr be = _
          rw [hgo (fu + cost), e1, bd3_mk, if_neg (by decide), if_neg hl, i2 fu]
          unfold EXT
          rw [if_neg (by omega)]
          rfl
        · rw [i4 d (by omega), upd_at, if_neg (by omega), upd_at, if_pos rfl]
        · rw [upd_at, if_pos rfl, b1, i3]
        · rw [i4 j (by omega), upd_at, if_neg (by omega), upd_at, if_neg (by omega)]
        · rw [upd_at, if_neg (by omega), i5 j (by omega), upd_at, if_neg (by omega)]
        · rw [i6 q (by omega), e4 q hq]
def accA (n c : Nat) (E : Nat → Int) (K : Nat → Nat) (S : Nat → Nat → Bool) (B d r : Nat) (s : Nat → Option Nat) : Nat → Int32
  | 0 => ini d
  | k + 1 => match chd c E K S d s k with
    | none => accA n c E K S B d r s k
    | some s' => wv d (accA n c E K S B d r s k) (Int32.ofNat (B - gV n c E K S r s'))
theorem node_iter (F : Nat) {n c N : Nat} {E : Nat → Int} {K : Nat → Nat} {S : Nat → Nat → Bool} {md mk ms mn : Nat → Int32} (hp : PM n c E K S (Int32.ofNat n) (Int32.ofNat c) md mk ms) {s0 : Nat → Option Nat} (hs0 : HallOk n s0) (hm0 : RM mn 0 s0 n) (hN : 0 < N) (hN3 : N ≤ 3) (hF : 1000000 ≤ F) {r d : Nat} (hdr : d + 1 + r = 2 * N) (IH : r = 0 ∨ NodeP F n c N E K S md mk ms mn s0 r) {s : Nat → Option Nat} (hs : HallOk n s) (hsub : SubS s s0) {a sp tr be : Nat → Int32} (hsp : RM sp (7 * d) s n) (htr : tr d = -1) (hbe : be d = ini d) : ∀ k, k ≤ lim d → ∃ (cost : Nat) (a1 sp1 tr1 be1 : Nat → Int32), cost ≤ k * (Cb r + 1) ∧ (∀ fu, LA F n c N md mk ms mn (fu + cost) (Int32.ofNat d) a sp tr be = LA F n c N md mk ms mn fu (Int32.ofNat d) a1 sp1 tr1 be1) ∧ tr1 d + 1 = Int32.ofNat k ∧ be1 d = accA n c E K S (inP s0) d r s k ∧ (∀ j, j < d → tr1 j = tr j) ∧ (∀ j, j < d → be1 j = be j) ∧ ∀ q, q < 7 * (d + 1) → sp1 q = sp q
  | 0, _ => ⟨0, a, sp, tr, be, Nat.zero_le _, fun _ => rfl, by rw [htr]; decide, hbe, fun _ _ => rfl, fun _ _ => rfl, fun _ _ => rfl⟩
  | k + 1, hk => by
    obtain ⟨c1, a1, sp1, tr1, be1, h1, h2, h3, h4, h5, h6, h7⟩ := node_iter F hp hs0 hm0 hN hN3 hF hdr IH hs hsub hsp htr hbe k (by omega)
    obtain ⟨c2, a2, sp2, tr2, be2, g1, g2, g3, g4, g5, g6, g7⟩ := node_step F hp hs0 hm0 hN hN3 hF hdr IH hs hsub (a := a1) (be := be1) (rm_congr hsp fun i hi => h7 _ (by omega)) h3 (show k < lim d by omega)
    refine ⟨c2 + c1, a2, sp2, tr2, be2, ?_, fun fu => ?_, by rw [g3, p_s], ?_, fun j hj => (g5 j hj).trans (h5 j hj), fun j hj => (g6 j hj).trans (h6 j hj), fun q hq => (g7 q hq).trans (h7 q hq)⟩
    · rw [Nat.succ_mul]
      omega
    · rw [← Nat.add_assoc, h2 (fu + c2), g2 fu]
    · rw [g4, h4]
      rfl
