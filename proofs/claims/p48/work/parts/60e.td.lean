/-- the guests: what holds when i are told -/
def IG (n c : Nat) (E : Nat → Int) (F : Nat) (q0 : RdS) (rsee : Int32) (sig1 sees1 : Nat → Int32) (i : Nat) (x6 x7 : Int32) (tm : Nat → Nat → Int32) (zz tt : Nat → Int32) : Prop := x7 = Int32.ofNat i ∧ ∃ (at' : Nat) (K g : Nat → Nat) (eff kin gri : Nat → Int32), x6 = Int32.ofNat at' ∧ at' ≤ 6 + 3 * i ∧ (∀ p, at' ≤ p → p < 80 → tm 2 p = 32) ∧ rd F q0 (tm 2) at' = some (mkR 3 (Int32.ofNat 4) rsee 0 (Int32.ofNat i) (Int32.ofNat c) eff kin gri sig1 sees1) ∧ (∀ k, k < 4 → -4 ≤ E k ∧ E k ≤ 5 ∧ eff k = Int32.ofInt (E k)) ∧ (∀ j, j < i → K j ≤ 5 ∧ kin j = Int32.ofNat (K j)) ∧ (∀ j, j < i → g j ≤ 9 ∧ gri j = Int32.ofNat (g j)) ∧ zz 0 = Int32.ofNat n ∧ zz 1 = Int32.ofNat c ∧ (∀ k, k < 4 → zz (2 + k) = Int32.ofInt (E k)) ∧ (∀ j, j < i → zz (6 + j) = Int32.ofNat (K j)) ∧ ∀ j, j < 7 → tt j = Int32.ofNat (if j < i then g j else 0)
theorem upF {f : Nat → Nat} {k v : Nat} {P : Nat → Nat → Prop} {i : Nat} (h : ∀ j, j < i → P j (f j)) (hv : P i v) : ∀ j, j < i + 1 → P j (if j = i then v else f j) := fun j hj => by
  by_cases e : j = i
  · subst e; rw [if_pos rfl]; exact hv
  · rw [if_neg e]; exact h j (by omega)
theorem t_300 (s192 : Int32 → Int32 → (Nat → Nat → Int32) → (Nat → Int32) → Int32 → (Nat → Int32) → (Nat → Int32) → Option (Int32 × (Nat → Int32) × (Nat → Nat → Int32) × Int32 × Int32 × Int32 × Int32 × Int32 × Int32 × (Nat → Int32) × (Nat → Int32) × (Nat → Int32) × (Nat → Int32) × (Nat → Int32) × Int32 × Int32 × (Nat → Int32) × (Nat → Int32) × (Nat → Int32) × (Nat → Int32) × (Nat → Int32) × Int32 × Int64 × (Nat → Int32) × (Nat → Int32) × Int32 × (Nat → Int32) × (Nat → Int32))) (p6 : Nat) (p12 : Nat) (L : Nat) (xs : Nat → Int32) (rs : Nat → Int32) (x5 : Int32) (ts : Nat → Int32) (tm : Nat → Nat → Int32) (rdue : Int32) (rtun : Int32) (rsee : Int32) (rbeg : Int32) (psize : Int32) (pclause : Int32) (peff : Nat → Int32) (pkin : Nat → Int32) (pgri : Nat → Int32) (psig : Nat → Int32) (psee : Nat → Int32) (qsize : Int32) (qclause : Int32) (qeff : Nat → Int32) (qkin : Nat → Int32) (qgri : Nat → Int32) (qsig : Nat → Int32) (qsee : Nat → Int32) (cdee : Int32) (cnow : Int64) (kdee : Nat → Int32) (fc : Nat → Int32) (lf : Int32) (zz : Nat → Int32) (tt : Nat → Int32) (F : Nat) (P : Option (Int32 × (Nat → Int32) × (Nat → Nat → Int32) × Int32 × Int32 × Int32 × Int32 × Int32 × Int32 × (Nat → Int32) × (Nat → Int32) × (Nat → Int32) × (Nat → Int32) × (Nat → Int32) × Int32 × Int32 × (Nat → Int32) × (Nat → Int32) × (Nat → Int32) × (Nat → Int32) × (Nat → Int32) × Int32 × Int64 × (Nat → Int32) × (Nat → Int32) × Int32 × (Nat → Int32) × (Nat → Int32)) → Prop) {n c : Nat} {E : Nat → Int} {q0 : RdS} {sig1 sees1 : Nat → Int32} {at' i : Nat} {K g : Nat → Nat} {eff kin gri : Nat → Int32} (hi : i < n) (hn : n ≤ 6) (hat : at' ≤ 8 + 3 * i) (hbl : ∀ p, at' ≤ p → p < 80 → tm 2 p = 32) (hrd : rd F q0 (tm 2) at' = some (mkR 3 (Int32.ofNat 4) rsee 0 (Int32.ofNat (i + 1)) (Int32.ofNat c) eff kin gri sig1 sees1)) (hE : ∀ k, k < 4 → -4 ≤ E k ∧ E k ≤ 5 ∧ eff k = Int32.ofInt (E k)) (hK : ∀ j, j < i + 1 → K j ≤ 5 ∧ kin j = Int32.ofNat (K j)) (hg : ∀ j, j < i + 1 → g j ≤ 9 ∧ gri j = Int32.ofNat (g j)) (z0 : zz 0 = Int32.ofNat n) (z1 : zz 1 = Int32.ofNat c) (zE : ∀ k, k < 4 → zz (2 + k) = Int32.ofInt (E k)) (zK : ∀ j, j < i + 1 → zz (6 + j) = Int32.ofNat (K j)) (ht : ∀ j, j < 7 → tt j = Int32.ofNat (if j < i + 1 then g j else 0)) {at0 : Nat} (hat0 : at' = at0 + 2) (hself : ∀ (x6 x7 : Int32), IG n c E F q0 rsee sig1 sees1 (i + 1) x6 x7 tm zz tt → P (s192 x6 x7 tm fc lf zz tt)) : P (fL_tells_n300 F s192 p6 p12 L xs rs x5 (Int32.ofNat at0) (Int32.ofNat i) ts tm rdue rtun rsee rbeg psize pclause peff pkin pgri psig psee qsize qclause qeff qkin qgri qsig qsee cdee cnow kdee fc lf zz tt) := by
  obtain ⟨p, hp, e⟩ := y_part F (x5 >>> ((8 : Int32) &&& 31)) (m := 2) (by decide) (by decide)
  unfold fL_tells_n300
  rw [show (2 : Int32) = Int32.ofNat 2 from rfl, e, bd1_mk, p_add, p_add, p_s]
  refine hself _ _ ⟨rfl, at0 + (2 + p), K, g, eff, kin, gri, rfl, by omega, fun q hq => hbl q (by omega), ?_, hE, hK, hg, z0, z1, zE, zK, ht⟩
  rcases (show p = 0 ∨ p = 1 by omega) with rfl | rfl
  · rw [show at0 + (2 + 0) = at' by omega]; exact hrd
  · rw [show at0 + (2 + 1) = at' + 1 by omega]
    exact rd_s hrd (by rw [hbl at' (by omega) (by omega)]; exact rd_blank)
theorem t_192 (p6 : Nat) (p12 : Nat) (L : Nat) (xs : Nat → Int32) (rs : Nat → Int32) (ts : Nat → Int32) (rdue : Int32) (rtun : Int32) (rsee : Int32) (rbeg : Int32) (psize : Int32) (pclause : Int32) (peff : Nat → Int32) (pkin : Nat → Int32) (pgri : Nat → Int32) (psig : Nat → Int32) (psee : Nat → Int32) (qsize : Int32) (qclause : Int32) (qeff : Nat → Int32) (qkin : Nat → Int32) (qgri : Nat → Int32) (qsig : Nat → Int32) (qsee : Nat → Int32) (cdee : Int32) (cnow : Int64) (kdee : Nat → Int32) (F : Nat) (hF : 1000000 ≤ F) (hL : L ≤ 260) (hts : ts 2 = 80) {q0 : RdS} {sig1 sees1 : Nat → Int32} (h1 : ∀ i, i < 6 → sig1 i = 0 ∧ sees1 i = 0) {n c : Nat} {E : Nat → Int} (h0 : 0 < n) (hn : n ≤ 6) (hc : c ≤ 9) (hq0 : ∀ txt : Nat → Int32, ∀ at' n tun see beg cl eff kin gri sig sees, at' ≤ 80 → 0 < n → n ≤ 6 → (∀ p, at' ≤ p → p < 80 → txt p = 32) → rd F q0 txt at' = some (mkR 3 tun see beg (Int32.ofNat n) cl eff kin gri sig sees) → fX4_faultOf F rdue rtun rsee rbeg txt qsize qclause qeff qkin qgri qsig qsee (Int32.ofNat 80) = some (-9, 3, tun, see, beg, Int32.ofNat n, cl, eff, kin, gri, sig, sees)) (tm : Nat → Nat → Int32) (fc : Nat → Int32) (lf : Int32) (zz tt : Nat → Int32) (hI : IG n c E F q0 rsee sig1 sees1 0 6 0 tm zz tt) : TOK (fL_tells_l192 F p6 p12 L xs rs ts rdue rtun rsee rbeg psize pclause peff pkin pgri psig psee qsize qclause qeff qkin qgri qsig qsee cdee cnow kdee F (6 : Int32) (0 : Int32) tm fc lf zz tt) := by
  refine loop_inv (fun fu (a : Int32 × Int32 × (Nat → Nat → Int32) × (Nat → Int32) × Int32 × (Nat → Int32) × (Nat → Int32)) => fL_tells_l192 F p6 p12 L xs rs ts rdue rtun rsee rbeg psize pclause peff pkin pgri psig psee qsize qclause qeff qkin qgri qsig qsee cdee cnow kdee fu a.1 a.2.1 a.2.2.1 a.2.2.2.1 a.2.2.2.2.1 a.2.2.2.2.2.1 a.2.2.2.2.2.2) n (fun i a => IG n c E F q0 rsee sig1 sees1 i a.1 a.2.1 a.2.2.1 a.2.2.2.2.2.1 a.2.2.2.2.2.2) TOK ?_ ?_ F (6, 0, tm, fc, lf, zz, tt) (by omega) hI
  · rintro fu i ⟨x6, x7, tm, fc, lf, zz, tt⟩ hi hI
    dsimp only at hI ⊢
    obtain ⟨rfl, at', K, g, eff, kin, gri, rfl, i2, i3, i4, i5, i6, i7, z0, z1, z2, z3, t1⟩ := hI
    obtain ⟨-, -, -, d1, d2⟩ := a8_tab i (by omega)
    have f0 : ¬ (Int32.ofNat n ≤ Int32.ofNat i) := of_eq_false (by rw [p_le (by omega) (by omega)]; exact p_nle hi)
    have hz := gx (show 6 + i < 18 by omega) (by omega)
    obtain ⟨v, hv⟩ := y_cell F xs hL (k := 2 + i) (by omega)
    obtain ⟨k, hk, ek⟩ := y_part F v (m := 6) (by decide) (by decide)
    obtain ⟨w, hw, ew⟩ := y_part F (v >>> ((12 : Int32) &&& 31)) (m := 2) (by decide) (by decide)
    -- the guest's line, whatever its grief
    have line : ∀ (sv : Int32) (m : Nat), 0 < m → m ≤ 10 → (∃ a' : Int32 × Int32 × (Nat → Nat → Int32) × (Nat → Int32) × Int32 × (Nat → Int32) × (Nat → Int32), IG n c E F q0 rsee sig1 sees1 (i + 1) a'.1 a'.2.1 a'.2.2.1 a'.2.2.2.2.2.1 a'.2.2.2.2.2.2 ∧ (fL_tells_n249 F (fL_tells_l192 F p6 p12 L xs rs ts rdue rtun rsee rbeg psize pclause peff pkin pgri psig psee qsize qclause qeff qkin qgri qsig qsee cdee cnow kdee fu) p6 p12 L xs rs (Int32.ofNat i) sv (Int32.ofNat m) v (Int32.ofNat at') (Int32.ofNat i) ts tm rdue rtun rsee rbeg psize pclause peff pkin pgri psig psee qsize qclause qeff qkin qgri qsig qsee cdee cnow kdee fc lf (upd zz (6 + i) (Int32.ofNat k)) tt) = fL_tells_l192 F p6 p12 L xs rs ts rdue rtun rsee rbeg psize pclause peff pkin pgri psig psee qsize qclause qeff qkin qgri qsig qsee cdee cnow kdee fu a'.1 a'.2.1 a'.2.2.1 a'.2.2.2.1 a'.2.2.2.2.1 a'.2.2.2.2.2.1 a'.2.2.2.2.2.2) := by
      intro sv m hm0 hm
      obtain ⟨gg, hgg, eg⟩ := y_part F sv (m := m) hm0 (by omega)
      obtain ⟨l1, l2⟩ := letN_lt k
      unfold fL_tells_n249 fL_tells_n253
      rw [eg, bd1_mk, p_cl (show i < 2147483648 by omega), if_neg (gx (show i < 7 by omega) (by omega)), d1, p_cl (show 6 + i < 2147483648 by omega), if_neg hz, upd_at, if_pos rfl, y_letter F k hk, bd1_mk, cx_put F fc lf (show at' < 80 by omega) l2 hts (i3 at' (by omega) (by omega)), bd4_mk, if_pos rfl, if_neg (gx (show i < 7 by omega) (by omega)), p_s, upd_at, if_pos rfl, show (48 : Int32) = Int32.ofNat 48 from rfl, p_add, cx_put F fc lf (show at' + 1 < 80 by omega) (show 48 + gg < 128 by omega) hts (by rw [va_up2, upd_at, if_neg (by omega)]; exact i3 (at' + 1) (by omega) (by omega)), bd4_mk, if_pos rfl]
      have r1 := rd_put i4 (rd_letter (show k ≤ 5 by omega) (show i < 6 by omega))
      have r2 := rd_put r1 (rd_grief (show gg ≤ 9 by omega) (show i < 6 by omega))
      refine t_300 (P := fun o => ∃ a' : Int32 × Int32 × (Nat → Nat → Int32) × (Nat → Int32) × Int32 × (Nat → Int32) × (Nat → Int32), IG n c E F q0 rsee sig1 sees1 (i + 1) a'.1 a'.2.1 a'.2.2.1 a'.2.2.2.2.2.1 a'.2.2.2.2.2.2 ∧ o = fL_tells_l192 F p6 p12 L xs rs ts rdue rtun rsee rbeg psize pclause peff pkin pgri psig psee qsize qclause qeff qkin qgri qsig qsee cdee cnow kdee fu a'.1 a'.2.1 a'.2.2.1 a'.2.2.2.1 a'.2.2.2.2.1 a'.2.2.2.2.2.1 a'.2.2.2.2.2.2) (at' := at' + 2) (K := fun j => if j = i then k else K j) (g := fun j => if j = i then gg else g j) (kin := upd kin i (Int32.ofNat k)) (gri := upd gri i (Int32.ofNat gg)) (hi := hi) (hn := hn) (hat := by omega) (hbl := ?_) (hrd := ?_) (hE := i5) (hK := ?_) (hg := ?_) (z0 := ?_) (z1 := ?_) (zE := ?_) (zK := ?_) (ht := ?_) (hat0 := rfl) (hself := fun x6 x7 h => ⟨(x6, x7, _, _, _, _, _), h, rfl⟩) ..
      · exact bl_put (bl_put i3)
      · exact r2
      · intro j hj
        by_cases e : j = i
        · subst e; rw [if_pos rfl, upd_at, if_pos rfl]; exact ⟨by omega, rfl⟩
        · rw [if_neg e, upd_at, if_neg e]; exact i6 j (by omega)
      · intro j hj
        by_cases e : j = i
        · subst e; rw [if_pos rfl, upd_at, if_pos rfl]; exact ⟨by omega, rfl⟩
        · rw [if_neg e, upd_at, if_neg e]; exact i7 j (by omega)
      · rw [upd_at, if_neg (by omega)]; exact z0
      · rw [upd_at, if_neg (by omega)]; exact z1
      · intro q hq
        rw [upd_at, if_neg (by omega)]; exact z2 q hq
      · intro j hj
        rw [upd_at]
        by_cases e : j = i
        · subst e; rw [if_pos rfl, if_pos rfl]
        · rw [if_neg (by omega), if_neg e]; exact z3 j (by omega)
      · intro j hj
        rw [upd_at]
        by_cases e : j = i
        · subst e; rw [if_pos rfl, if_pos (by omega), if_pos rfl]
        · rw [if_neg e, if_neg e, t1 j hj]
          by_cases h : j < i
          · rw [if_pos h, if_pos (by omega)]
          · rw [if_neg h, if_neg (by omega)]
    rw [fL_tells_l192, fL_tells_l192_b, show (0 : Int32).toNatClampNeg = 0 from rfl, z0, if_neg f0, d2, hv, bd1_mk, show (6 : Int32) = Int32.ofNat 6 from rfl, ek, bd1_mk, ← show (6 : Int32) = Int32.ofNat 6 from rfl, d1, p_cl (show 6 + i < 2147483648 by omega), if_neg hz, show (2 : Int32) = Int32.ofNat 2 from rfl, ew, bd1_mk]
    by_cases hw0 : Int32.ofNat w = 0
    · rw [if_pos hw0]
      obtain ⟨a', h1, h2⟩ := line (v >>> ((3 : Int32) &&& 31)) 10 (by decide) (by decide)
      exact Or.inl ⟨a', h1, h2⟩
    · rw [if_neg hw0]
      obtain ⟨a', h1, h2⟩ := line (v >>> ((3 : Int32) &&& 31)) 5 (by decide) (by decide)
      exact Or.inl ⟨a', h1, h2⟩
  · rintro fu ⟨x6, x7, tm, fc, lf, zz, tt⟩ hI
    dsimp only at hI ⊢
    obtain ⟨rfl, at', K, g, eff, kin, gri, rfl, i2, i3, i4, i5, i6, i7, z0, z1, z2, z3, t1⟩ := hI
    rw [fL_tells_l192, fL_tells_l192_b, show (0 : Int32).toNatClampNeg = 0 from rfl, z0, if_pos (Int32.le_refl _)]
    unfold fL_tells_n322
    refine t_328 (hF := hF) (hL := hL) (hts := hts) (h0 := h0) (hn := hn) (hc := hc) (hq0 := hq0) (htt := fun i hi => by rw [t1 i (by omega), gv_inn]) (hI := ⟨rfl, at', 0, fun _ _ => false, Int32.ofNat 4, rsee, 0, eff, kin, gri, sig1, sees1, rfl, rfl, by omega, by omega, i3, i4, i5, i6, i7, fun i hi => ?_, fun i j h => (by cases h), z0, z1, z2, z3⟩) ..
    rw [(h1 i hi).1, (h1 i hi).2]
    exact ⟨st_none, st_none⟩
/-- what tunes do: what holds when k are told -/
def IE (n c : Nat) (F : Nat) (q0 : RdS) (rsee : Int32) (kin gri sig1 sees1 : Nat → Int32) (k : Nat) (x6 : Int32) (tm : Nat → Nat → Int32) (zz : Nat → Int32) : Prop := x6 = Int32.ofNat k ∧ ∃ (E : Nat → Int) (eff : Nat → Int32), (∀ p, 2 + k ≤ p → p < 80 → tm 2 p = 32) ∧ rd F q0 (tm 2) (2 + k) = some (mkR (if 4 ≤ k then 3 else 2) (Int32.ofNat k) rsee 0 0 (Int32.ofNat c) eff kin gri sig1 sees1) ∧ (∀ j, j < k → -4 ≤ E j ∧ E j ≤ 5 ∧ eff j = Int32.ofInt (E j) ∧ zz (2 + j) = Int32.ofInt (E j)) ∧ zz 0 = Int32.ofNat n ∧ zz 1 = Int32.ofNat c
theorem eff_tab : ∀ v, v < 10 → Int32.ofNat v + (-4 : Int32) = Int32.ofInt ((v : Int) - 4) ∧ Int32.ofNat v - (4 : Int32) = Int32.ofInt ((v : Int) - 4) := by decide +kernel
theorem t_124 (p6 : Nat) (p12 : Nat) (L : Nat) (xs : Nat → Int32) (rs : Nat → Int32) (ts : Nat → Int32) (rdue : Int32) (rtun : Int32) (rsee : Int32) (rbeg : Int32) (psize : Int32) (pclause : Int32) (peff : Nat → Int32) (pkin : Nat → Int32) (pgri : Nat → Int32) (psig : Nat → Int32) (psee : Nat → Int32) (qsize : Int32) (qclause : Int32) (qeff : Nat → Int32) (qkin : Nat → Int32) (qgri : Nat → Int32) (qsig : Nat → Int32) (qsee : Nat → Int32) (cdee : Int32) (cnow : Int64) (kdee : Nat → Int32) (tt : Nat → Int32) (F : Nat) (hF : 1000000 ≤ F) (hL : L ≤ 260) (hts : ts 2 = 80) {q0 : RdS} {kin0 gri0 sig1 sees1 : Nat → Int32} (h1 : ∀ i, i < 6 → sig1 i = 0 ∧ sees1 i = 0) {n c : Nat} (h0 : 0 < n) (hn : n ≤ 6) (hc : c ≤ 9) (hq0 : ∀ txt : Nat → Int32, ∀ at' n tun see beg cl eff kin gri sig sees, at' ≤ 80 → 0 < n → n ≤ 6 → (∀ p, at' ≤ p → p < 80 → txt p = 32) → rd F q0 txt at' = some (mkR 3 tun see beg (Int32.ofNat n) cl eff kin gri sig sees) → fX4_faultOf F rdue rtun rsee rbeg txt qsize qclause qeff qkin qgri qsig qsee (Int32.ofNat 80) = some (-9, 3, tun, see, beg, Int32.ofNat n, cl, eff, kin, gri, sig, sees)) (htt : ∀ j, j < 7 → tt j = 0) (tm : Nat → Nat → Int32) (fc : Nat → Int32) (lf : Int32) (zz : Nat → Int32) (hI : IE n c F q0 rsee kin0 gri0 sig1 sees1 0 0 tm zz) : TOK (fL_tells_l124 F p6 p12 L xs rs ts rdue rtun rsee rbeg psize pclause peff pkin pgri psig psee qsize qclause qeff qkin qgri qsig qsee cdee cnow kdee tt F (0 : Int32) tm fc lf zz) := by
  refine loop_inv (fun fu (a : Int32 × (Nat → Nat → Int32) × (Nat → Int32) × Int32 × (Nat → Int32)) => fL_tells_l124 F p6 p12 L xs rs ts rdue rtun rsee rbeg psize pclause peff pkin pgri psig psee qsize qclause qeff qkin qgri qsig qsee cdee cnow kdee tt fu a.1 a.2.1 a.2.2.1 a.2.2.2.1 a.2.2.2.2) 4 (fun k a => IE n c F q0 rsee kin0 gri0 sig1 sees1 k a.1 a.2.1 a.2.2.2.2) TOK ?_ ?_ F (0, tm, fc, lf, zz) (by omega) hI
  · rintro fu k ⟨x6, tm, fc, lf, zz⟩ hk hI
    dsimp only at hI ⊢
    obtain ⟨rfl, E, eff, i1, i2, i3, z0, z1⟩ := hI
    have hz := gx (show 2 + k < 18 by omega) (by omega)
    obtain ⟨v, hv⟩ := y_cell F xs hL (k := 1) (by omega)
    obtain ⟨w, hw, ew⟩ := y_part F (v >>> (((4 : Int32) * Int32.ofNat k) &&& 31)) (m := 10) (by decide) (by decide)
    obtain ⟨f1, f2⟩ := eff_tab w hw
    rw [if_neg (by omega)] at i2
    have r1 := rd_put i2 (rd_eff (show w ≤ 9 by omega) hk)
    rw [fL_tells_l124, fL_tells_l124_b, if_neg (of_eq_false (f4_lt hk)), show (1 : Int32) = Int32.ofNat 1 from rfl, hv, bd1_mk, show (10 : Int32) = Int32.ofNat 10 from rfl, ew, bd1_mk, show (2 : Int32) + Int32.ofNat k = Int32.ofNat (2 + k) from p_add 2 k, p_cl (show 2 + k < 2147483648 by omega), if_neg hz, show (48 : Int32) + Int32.ofNat w = Int32.ofNat (48 + w) from p_add 48 w, cx_put F fc lf (show 2 + k < 80 by omega) (show 48 + w < 128 by omega) hts (i1 (2 + k) (by omega) (by omega)), bd4_mk, if_pos rfl, f2]
    refine Or.inl ⟨(Int32.ofNat k + Int32.ofNat 1, va_up tm 2 (upd (tm 2) (2 + k) (Int32.ofNat (48 + w))), fc, lf, upd zz (2 + k) (Int32.ofInt ((w : Int) - 4))), ?_, rfl⟩
    dsimp only
    refine ⟨p_s k, fun j => if j = k then (w : Int) - 4 else E j, upd eff k (Int32.ofInt ((w : Int) - 4)), ?_, ?_, ?_, ?_, ?_⟩
    · rw [va_up2]
      exact bl_put i1
    · rw [va_up2]
      rw [f1] at r1
      exact r1
    · intro j hj
      dsimp only
      by_cases e : j = k
      · subst e
        rw [if_pos rfl, upd_at, if_pos rfl, upd_at, if_pos rfl]
        exact ⟨by omega, by omega, rfl, rfl⟩
      · rw [if_neg e, upd_at, if_neg e, upd_at, if_neg (by omega)]
        exact i3 j (by omega)
    · rw [upd_at, if_neg (by omega)]; exact z0
    · rw [upd_at, if_neg (by omega)]; exact z1
  · rintro fu ⟨x6, tm, fc, lf, zz⟩ hI
    dsimp only at hI ⊢
    obtain ⟨rfl, E, eff, i1, i2, i3, z0, z1⟩ := hI
    rw [if_pos (Nat.le_refl 4)] at i2
    rw [fL_tells_l124, fL_tells_l124_b, if_pos (by decide)]
    unfold fL_tells_n185
    exact t_192 (hF := hF) (hL := hL) (hts := hts) (h1 := h1) (h0 := h0) (hn := hn) (hc := hc) (hq0 := hq0) (hI := ⟨rfl, 6, fun _ => 0, fun _ => 0, eff, kin0, gri0, rfl, by omega, i1, i2, fun j hj => ⟨(i3 j hj).1, (i3 j hj).2.1, (i3 j hj).2.2.1⟩, fun j hj => absurd hj (Nat.not_lt_zero j), fun j hj => absurd hj (Nat.not_lt_zero j), z0, z1, fun j hj => (i3 j hj).2.2.2, fun j hj => absurd hj (Nat.not_lt_zero j), fun j hj => by rw [htt j hj, if_neg (Nat.not_lt_zero j)]; rfl⟩) ..
theorem t_42 (p6 : Nat) (p12 : Nat) (L : Nat) (xs : Nat → Int32) (rs : Nat → Int32) (ts : Nat → Int32) (tm : Nat → Nat → Int32) (rdue : Int32) (rtun : Int32) (rsee : Int32) (rbeg : Int32) (psize : Int32) (pclause : Int32) (peff : Nat → Int32) (pkin : Nat → Int32) (pgri : Nat → Int32) (psig : Nat → Int32) (psee : Nat → Int32) (qsize : Int32) (qclause : Int32) (qeff : Nat → Int32) (qkin : Nat → Int32) (qgri : Nat → Int32) (qsig : Nat → Int32) (qsee : Nat → Int32) (cdee : Int32) (cnow : Int64) (kdee : Nat → Int32) (fc : Nat → Int32) (lf : Int32) (zz : Nat → Int32) (tt : Nat → Int32) (F : Nat) (hF : 1000000 ≤ F) (hL : L ≤ 260) (htt : ∀ j, j < 7 → tt j = 0) : TOK (fL_tells_n42 F p6 p12 L xs rs (6 : Int32) ts tm rdue rtun rsee rbeg psize pclause peff pkin pgri psig psee qsize qclause qeff qkin qgri qsig qsee cdee cnow kdee fc lf zz tt) := by
  obtain ⟨v, hv⟩ := y_cell F xs hL (k := 0) (by omega)
  obtain ⟨p, hp, ep⟩ := y_part F v (m := 6) (by decide) (by decide)
  obtain ⟨q, hq, eq⟩ := y_part F (v >>> ((4 : Int32) &&& 31)) (m := 9) (by decide) (by decide)
  obtain ⟨sig1, sees1, h1, h2⟩ := fault_none F (due := rdue) (tun0 := rtun) (see0 := rsee) (beg0 := rbeg) (size0 := qsize) (cl0 := qclause) (eff0 := qeff) (kin0 := qkin) (gri0 := qgri) (sig0 := qsig) (sees0 := qsee) hF
  unfold fL_tells_n42
  rw [show fL_cell F L xs (0 : Int32) = some v from hv, bd1_mk, show fL_part F v (6 : Int32) = some (Int32.ofNat p) from ep, bd1_mk, show fL_part F (v >>> ((4 : Int32) &&& 31)) (9 : Int32) = some (Int32.ofNat q) from eq, bd1_mk, cx_text F ts fc tm lf hF, bd5_mk, if_pos rfl]
  have hts : upd ts 2 (80 : Int32) 2 = 80 := rfl
  have b0 : ∀ j, 0 ≤ j → j < 80 → (fun (q i : Nat) => if q = 2 ∧ i < 80 then (32 : Int32) else tm q i) 2 j = 32 := fun j _ hj => if_pos ⟨rfl, hj⟩
  have r0 : rd F (mkR 0 0 rsee 0 0 0 qeff qkin qgri sig1 sees1) ((fun (q i : Nat) => if q = 2 ∧ i < 80 then (32 : Int32) else tm q i) 2) 0 = some (mkR 0 0 rsee 0 0 0 qeff qkin qgri sig1 sees1) := rfl
  have r1 := rd_put r0 (rd_c (F := F))
  have r2 := rd_put r1 (rd_clause (F := F) (show 1 ≤ 1 + q by omega) (show 1 + q ≤ 9 by omega))
  rw [show (0 : Int32) = Int32.ofNat 0 from rfl, show (99 : Int32) = Int32.ofNat 99 from rfl, cx_put F fc lf (show 0 < 80 by decide) (show 99 < 128 by decide) hts (b0 0 (by omega) (by decide)), bd4_mk, if_pos rfl, show (1 : Int32) = Int32.ofNat 1 from rfl, p_add, p_add, p_cl (show 0 < 2147483648 by decide), p_cl (show 1 < 2147483648 by decide), show upd (upd zz 0 (Int32.ofNat (1 + p))) 1 (Int32.ofNat (1 + q)) 1 = Int32.ofNat (1 + q) from rfl, show (48 : Int32) = Int32.ofNat 48 from rfl, p_add, cx_put F fc lf (show 1 < 80 by decide) (show 48 + (1 + q) < 128 by omega) hts (by rw [va_up2, upd_at, if_neg (by decide)]; exact b0 1 (by omega) (by decide)), bd4_mk, if_pos rfl]
  unfold fL_tells_n121
  refine t_124 (hF := hF) (hL := hL) (hts := hts) (h1 := h1) (kin0 := qkin) (gri0 := qgri) (n := 1 + p) (c := 1 + q) (h0 := by omega) (hn := by omega) (hc := by omega) (hq0 := h2) (htt := htt) (hI := ⟨rfl, fun _ => 0, qeff, ?_, ?_, fun j hj => absurd hj (Nat.not_lt_zero j), rfl, rfl⟩) ..
  · rw [va_up2, va_up2]
    exact bl_put (bl_put b0)
  · rw [va_up2, va_up2]
    exact r2
theorem t_24 (p6 : Nat) (p12 : Nat) (L : Nat) (xs : Nat → Int32) (rs : Nat → Int32) (ts : Nat → Int32) (tm : Nat → Nat → Int32) (rdue : Int32) (rtun : Int32) (rsee : Int32) (rbeg : Int32) (psize : Int32) (pclause : Int32) (peff : Nat → Int32) (pkin : Nat → Int32) (pgri : Nat → Int32) (psig : Nat → Int32) (psee : Nat → Int32) (qsize : Int32) (qclause : Int32) (qeff : Nat → Int32) (qkin : Nat → Int32) (qgri : Nat → Int32) (qsig : Nat → Int32) (qsee : Nat → Int32) (cdee : Int32) (cnow : Int64) (kdee : Nat → Int32) (fc : Nat → Int32) (lf : Int32) (zz : Nat → Int32) (F : Nat) (hF : 1000000 ≤ F) (hL : L ≤ 260) (tt : Nat → Int32) : TOK (fL_tells_l24 F p6 p12 L xs rs (6 : Int32) ts tm rdue rtun rsee rbeg psize pclause peff pkin pgri psig psee qsize qclause qeff qkin qgri qsig qsee cdee cnow kdee fc lf zz F (0 : Int32) tt) := by
  refine loop_inv (fun fu (a : Int32 × (Nat → Int32)) => fL_tells_l24 F p6 p12 L xs rs (6 : Int32) ts tm rdue rtun rsee rbeg psize pclause peff pkin pgri psig psee qsize qclause qeff qkin qgri qsig qsee cdee cnow kdee fc lf zz fu a.1 a.2) 7 (fun k a => a.1 = Int32.ofNat k ∧ ∀ j, j < k → a.2 j = 0) TOK ?_ ?_ F (0, tt) (by omega) ⟨rfl, fun j hj => absurd hj (Nat.not_lt_zero j)⟩
  · rintro fu k ⟨x5, tt⟩ hk ⟨e1, e2⟩
    dsimp only at e1 e2 ⊢
    subst e1
    have f0 : ¬ ((7 : Int32) ≤ Int32.ofNat k) := of_eq_false (by rw [show (7 : Int32) = Int32.ofNat 7 from rfl, p_le (by omega) (by omega)]; exact p_nle hk)
    rw [fL_tells_l24, fL_tells_l24_b, if_neg f0, p_cl (show k < 2147483648 by omega), if_neg (gx hk (by omega)), p_s]
    refine Or.inl ⟨(Int32.ofNat (k + 1), upd tt k 0), ⟨rfl, fun j hj => ?_⟩, rfl⟩
    show upd tt k 0 j = 0
    rw [upd_at]
    by_cases e : j = k
    · rw [if_pos e]
    · rw [if_neg e]; exact e2 j (by omega)
  · rintro fu ⟨x5, tt⟩ ⟨e1, e2⟩
    dsimp only at e1 e2 ⊢
    subst e1
    rw [fL_tells_l24, fL_tells_l24_b, if_pos (by decide)]
    exact t_42 (hF := hF) (hL := hL) (htt := e2) ..
theorem t_tells (p6 : Nat) (p12 : Nat) (L : Nat) (xs : Nat → Int32) (rs : Nat → Int32) (ts : Nat → Int32) (tm : Nat → Nat → Int32) (rdue : Int32) (rtun : Int32) (rsee : Int32) (rbeg : Int32) (psize : Int32) (pclause : Int32) (peff : Nat → Int32) (pkin : Nat → Int32) (pgri : Nat → Int32) (psig : Nat → Int32) (psee : Nat → Int32) (qsize : Int32) (qclause : Int32) (qeff : Nat → Int32) (qkin : Nat → Int32) (qgri : Nat → Int32) (qsig : Nat → Int32) (qsee : Nat → Int32) (cdee : Int32) (cnow : Int64) (kdee : Nat → Int32) (fc : Nat → Int32) (lf : Int32) (zz : Nat → Int32) (tt : Nat → Int32) (F : Nat) (hF : 1000000 ≤ F) (hL : L ≤ 260) : TOK (fL_tells F p6 p12 L xs rs ts tm rdue rtun rsee rbeg psize pclause peff pkin pgri psig psee qsize qclause qeff qkin qgri qsig qsee cdee cnow kdee fc lf zz tt (6 : Int32)) := by
  unfold fL_tells
  refine loop_inv (fun fu (a : Int32 × (Nat → Int32)) => fL_tells_l3 F p6 p12 L xs rs (6 : Int32) ts tm rdue rtun rsee rbeg psize pclause peff pkin pgri psig psee qsize qclause qeff qkin qgri qsig qsee cdee cnow kdee fc lf tt fu a.1 a.2) 18 (fun k a => a.1 = Int32.ofNat k) TOK ?_ ?_ F (0, zz) (by omega) rfl
  · rintro fu k ⟨x5, zz⟩ hk e1
    dsimp only at e1 ⊢
    subst e1
    have f0 : ¬ ((18 : Int32) ≤ Int32.ofNat k) := of_eq_false (by rw [show (18 : Int32) = Int32.ofNat 18 from rfl, p_le (by omega) (by omega)]; exact p_nle hk)
    rw [fL_tells_l3, fL_tells_l3_b, if_neg f0, p_cl (show k < 2147483648 by omega), if_neg (gx hk (by omega)), p_s]
    exact Or.inl ⟨(Int32.ofNat (k + 1), _), rfl, rfl⟩
  · rintro fu ⟨x5, zz⟩ e1
    dsimp only at e1 ⊢
    subst e1
    rw [fL_tells_l3, fL_tells_l3_b, if_pos (by decide)]
    exact t_24 (hF := hF) (hL := hL) ..
