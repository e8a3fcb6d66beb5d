theorem i_mod {x y : Nat} (hx : x < 2147483648) (hy : y < 2147483648) : Int32.ofNat x - Int32.ofNat x / Int32.ofNat y * Int32.ofNat y = Int32.ofNat (x % y) := by
  have h := Nat.div_add_mod x y
  rw [Nat.mul_comm] at h
  rw [← Int32.ofNat_div (by omega) (by omega), ← Int32.ofNat_mul, ← Int32.ofNat_sub _ _ (by omega)]
  refine congrArg Int32.ofNat ?_
  omega
theorem and_max (x : Int32) : ∃ q : Nat, q < 2147483648 ∧ x &&& (2147483647 : Int32) = Int32.ofNat q := by
  have h : x.toBitVec.toNat &&& 2147483647 ≤ 2147483647 := Nat.and_le_right
  refine ⟨x.toBitVec.toNat &&& 2147483647, by omega, ?_⟩
  apply Int32.toBitVec_inj.1
  rw [Int32.toBitVec_and]
  apply BitVec.eq_of_toNat_eq
  show (x.toBitVec &&& (BitVec.ofNat 32 2147483647)).toNat = (BitVec.ofNat 32 (x.toBitVec.toNat &&& 2147483647)).toNat
  rw [BitVec.toNat_and, BitVec.toNat_ofNat, BitVec.toNat_ofNat, Nat.mod_eq_of_lt (a := 2147483647) (by decide), Nat.mod_eq_of_lt (by omega)]
theorem y_part (F : Nat) (x : Int32) {m : Nat} (h0 : 0 < m) (hm : m < 2147483648) : ∃ p, p < m ∧ fL_part F x (Int32.ofNat m) = some (Int32.ofNat p) := by
  obtain ⟨q, hq, e⟩ := and_max x
  refine ⟨q % m, Nat.mod_lt _ h0, ?_⟩
  unfold fL_part
  rw [if_neg (by rw [p_e0 hm]; omega), e, i_mod hq hm]
theorem y_cell (F : Nat) {L : Nat} (xs : Nat → Int32) (hL : L ≤ 260) {k : Nat} (hk : k < 1000) : ∃ v, fL_cell F L xs (Int32.ofNat k) = some v := by
  unfold fL_cell
  by_cases h : L = 0
  · rw [if_pos (by rw [p_e0 (by omega)]; exact h)]
    exact ⟨_, rfl⟩
  · have h0 : ¬ (Int32.ofNat L = 0) := by rw [p_e0 (by omega)]; exact h
    have hm : k % L < L := Nat.mod_lt _ (by omega)
    rw [if_neg h0, if_neg h0, i_mod (by omega) (by omega), if_neg (p_ix hm (by omega)), if_neg h0]
    exact ⟨_, rfl⟩
theorem behB_all : ((List.range 6).all fun k => (List.range 4).all fun t => (List.range 10).all fun e => (List.range 21).all fun g => decide (fL_behind 0 (Int32.ofNat k) (Int32.ofNat g) (Int32.ofNat t) (Int32.ofInt ((e : Int) - 4)) = some (Int32.ofNat (gb k t ((e : Int) - 4) g)))) = true := by decide +kernel
theorem y_behind (F : Nat) {k t g : Nat} {e : Int} (hk : k ≤ 5) (ht : t < 4) (h1 : -4 ≤ e) (h2 : e ≤ 5) (hg : g ≤ 20) : fL_behind F (Int32.ofNat k) (Int32.ofNat g) (Int32.ofNat t) (Int32.ofInt e) = some (Int32.ofNat (gb k t e g)) := by
  have h := behB_all
  simp only [List.all_eq_true, List.mem_range, decide_eq_true_eq] at h
  have h3 := h k (by omega) t ht (e + 4).toNat (by omega) g (by omega)
  rw [show (((e + 4).toNat : Nat) : Int) - 4 = e by omega] at h3
  exact h3
theorem y_letter (F : Nat) : ∀ k, k < 6 → fL_letter F (Int32.ofNat k) = some (Int32.ofNat (letN k)) := by
  intro k hk
  rcases (show k = 0 ∨ k = 1 ∨ k = 2 ∨ k = 3 ∨ k = 4 ∨ k = 5 by omega) with rfl | rfl | rfl | rfl | rfl | rfl <;> rfl
theorem letN_lt (k : Nat) : 33 ≤ letN k ∧ letN k < 128 := by
  unfold letN
  repeat' split
  all_goals omega
theorem nar_tab : ∀ m, m < 128 → vp_nar .byte ((Int32.ofNat m).toInt8.toInt32) = Int32.ofNat m := by decide +kernel
theorem cx_text (F : Nat) (ts fc : Nat → Int32) (tm : Nat → Nat → Int32) (lf : Int32) (hF : 1000000 ≤ F) : fX5_text F ts tm fc lf (2 : Int32) (80 : Int32) = some (80, upd ts 2 80, (fun q i => if q = 2 ∧ i < 80 then 32 else tm q i), fc, lf) := by
  unfold fX5_text
  rw [show fX5_isText F (2 : Int32) = some 1 from y_text F (t := 2) (by decide), bd1_mk, if_neg (by decide), if_pos (by decide), if_pos (by decide)]
  exact c_textLoop F ts fc tm lf (r := 2) (m := 80) (by decide) (by decide) hF
theorem cx_put (F : Nat) {ts : Nat → Int32} (fc : Nat → Int32) {tm : Nat → Nat → Int32} (lf : Int32) {p m : Nat} (hp : p < 80) (hm : m < 128) (hts : ts 2 = 80) (hb : tm 2 p = 32) : fX5_put F ts tm fc lf (2 : Int32) (Int32.ofNat p) (Int32.ofNat m) = some (1032, va_up tm 2 (upd (tm 2) p (Int32.ofNat m)), fc, lf) := by
  have w : Int32.ofNat p < (80 : Int32) := of_eq_true (by rw [show (80 : Int32) = Int32.ofNat 80 from rfl, p_lt (by omega) (by omega)]; exact eq_true hp)
  have hi := gx hp (by omega)
  unfold fX5_put
  rw [show fX5_isText F (2 : Int32) = some 1 from y_text F (t := 2) (by decide), bd1_mk, if_neg (by decide), show (2 : Int32).toNatClampNeg = 2 from by decide, if_neg (by decide), hts, if_neg (by decide), if_neg (of_eq_false (p_neg (by omega))), if_neg (by decide), if_pos w, if_neg (by decide), p_cl (show p < 2147483648 by omega), if_neg hi, if_neg (by decide), if_neg hi, hb, nar_tab m hm]
  rfl
theorem va_up2 {f : Nat → Nat → Int32} {v : Nat → Int32} : va_up f 2 v 2 = v := rfl
theorem rd_put {F : Nat} {q0 q q' : RdS} {t : Nat → Int32} {p : Nat} {ch : Int32} (h : rd F q0 t p = some q) (h2 : rdT F q ch = some q') : rd F q0 (upd t p ch) (p + 1) = some q' := by
  refine rd_s (q := q) ((rd_congr p fun j hj => ?_).trans h) ?_
  · rw [upd_at, if_neg (by omega)]
  · rw [upd_at, if_pos rfl]; exact h2
theorem bl_put {t : Nat → Int32} {p : Nat} {ch : Int32} (h : ∀ j, p ≤ j → j < 80 → t j = 32) : ∀ j, p + 1 ≤ j → j < 80 → upd t p ch j = 32 := fun j h1 h2 => by
  rw [upd_at, if_neg (by omega)]
  exact h j (by omega) h2
/-- what holds behind a text told -/
def TPost (psize pclause : Int32) (peff pkin psig psee : Nat → Int32) (cdee : Int32) (cnow : Int64) (kdee zz tt : Nat → Int32) : Prop := ∃ (n c : Nat) (E : Nat → Int) (K : Nat → Nat) (S : Nat → Nat → Bool) (g : Nat → Nat), CS n c E K S peff pkin psig psee ∧ psize = Int32.ofNat n ∧ pclause = Int32.ofNat c ∧ cdee = 0 ∧ cnow = enc (inn n g) ∧ (∀ i, i < n → g i ≤ 9) ∧ (∀ k, k < 3 → kdee k = -1) ∧ zz 0 = Int32.ofNat n ∧ (∀ k, k < 4 → zz (2 + k) = Int32.ofInt (E k)) ∧ (∀ i, i < n → zz (6 + i) = Int32.ofNat (K i)) ∧ ∀ i, i < 6 → tt i = Int32.ofNat (gv (inn n g) i)
def TOK (o : Option (Int32 × (Nat → Int32) × (Nat → Nat → Int32) × Int32 × Int32 × Int32 × Int32 × Int32 × Int32 × (Nat → Int32) × (Nat → Int32) × (Nat → Int32) × (Nat → Int32) × (Nat → Int32) × Int32 × Int32 × (Nat → Int32) × (Nat → Int32) × (Nat → Int32) × (Nat → Int32) × (Nat → Int32) × Int32 × Int64 × (Nat → Int32) × (Nat → Int32) × Int32 × (Nat → Int32) × (Nat → Int32))) : Prop := ∃ (ts : Nat → Int32) (tm : Nat → Nat → Int32) (rdue rtun rsee rbeg psize pclause : Int32) (peff pkin pgri psig psee : Nat → Int32) (qsize qclause : Int32) (qeff qkin qgri qsig qsee : Nat → Int32) (cdee : Int32) (cnow : Int64) (kdee fc : Nat → Int32) (lf : Int32) (zz tt : Nat → Int32), o = some (1, ts, tm, rdue, rtun, rsee, rbeg, psize, pclause, peff, pkin, pgri, psig, psee, qsize, qclause, qeff, qkin, qgri, qsig, qsee, cdee, cnow, kdee, fc, lf, zz, tt) ∧ TPost psize pclause peff pkin psig psee cdee cnow kdee zz tt
theorem inn_some {n : Nat} {g : Nat → Nat} (i : Nat) : (inn n g i).isSome = decide (i < n) := by
  unfold inn
  by_cases h : i < n
  · rw [if_pos h, decide_eq_true h]; rfl
  · rw [if_neg h, decide_eq_false h]; rfl
theorem inP_inn {n : Nat} {g : Nat → Nat} (hn : n ≤ 6) : inP (inn n g) = n := by
  unfold inP
  rw [show (fun i => (inn n g i).isSome) = fun i => decide (i < n) from funext fun i => inn_some i]
  unfold pop
  rcases (show n = 0 ∨ n = 1 ∨ n = 2 ∨ n = 3 ∨ n = 4 ∨ n = 5 ∨ n = 6 by omega) with rfl | rfl | rfl | rfl | rfl | rfl | rfl <;> rfl
theorem gv_inn {n : Nat} {g : Nat → Nat} (i : Nat) : gv (inn n g) i = if i < n then g i else 0 := by
  unfold gv inn
  by_cases h : i < n
  · rw [if_pos h, if_pos h]; rfl
  · rw [if_neg h, if_neg h]; rfl
theorem kd3 {kdee : Nat → Int32} (h : ∀ k, k < 3 → kdee k = -1) : cI (fun e => !decide (kdee e = -1)) 3 = 0 := by
  refine (cI_congr (q := fun _ => false) 3 fun i hi => ?_).trans rfl
  rw [h i hi]
  rfl
theorem t_492 (p6 : Nat) (p12 : Nat) (L : Nat) (xs : Nat → Int32) (rs : Nat → Int32) (ts : Nat → Int32) (tm : Nat → Nat → Int32) (rdue : Int32) (rtun : Int32) (rsee : Int32) (rbeg : Int32) (peff : Nat → Int32) (pkin : Nat → Int32) (pgri : Nat → Int32) (psig : Nat → Int32) (psee : Nat → Int32) (qsize : Int32) (qclause : Int32) (qeff : Nat → Int32) (qkin : Nat → Int32) (qgri : Nat → Int32) (qsig : Nat → Int32) (qsee : Nat → Int32) (cdee : Int32) (kdee : Nat → Int32) (fc : Nat → Int32) (lf : Int32) (zz : Nat → Int32) (tt : Nat → Int32) (F : Nat) (hF : 1000000 ≤ F) {n c : Nat} {E : Nat → Int} {K : Nat → Nat} {S : Nat → Nat → Bool} {g : Nat → Nat} (hG : CS n c E K S peff pkin psig psee) (hd : cdee = 0) (hg : ∀ i, i < n → g i ≤ 9) (hk : ∀ k, k < 3 → kdee k = -1) (hz0 : zz 0 = Int32.ofNat n) (hz1 : zz 1 = Int32.ofNat c) (hzE : ∀ k, k < 4 → zz (2 + k) = Int32.ofInt (E k)) (hzK : ∀ i, i < n → zz (6 + i) = Int32.ofNat (K i)) (htt : ∀ i, i < 6 → tt i = Int32.ofNat (gv (inn n g) i)) : TOK (fL_tells_n492 F p6 p12 L xs rs (Int32.ofNat n) ts tm rdue rtun rsee rbeg (Int32.ofNat n) (Int32.ofNat c) peff pkin pgri psig psee qsize qclause qeff qkin qgri qsig qsee cdee (enc (inn n g)) kdee fc lf zz tt) := by
  have hn := hG.n6
  subst hd
  refine ⟨ts, tm, rdue, rtun, rsee, rbeg, Int32.ofNat n, Int32.ofNat c, peff, pkin, pgri, psig, psee, qsize, qclause, qeff, qkin, qgri, qsig, qsee, 0, enc (inn n g), kdee, fc, lf, zz, tt, ?_, n, c, E, K, S, g, hG, rfl, rfl, rfl, rfl, hg, hk, hz0, hzE, hzK, htt⟩
  unfold fL_tells_n492
  rw [show (0 : Int32).toNatClampNeg = 0 from rfl, show (1 : Int32).toNatClampNeg = 1 from rfl, hz0, hz1, if_pos rfl, cx_count0, bd1_mk, if_pos rfl, cx_count1, bd1_mk, if_pos rfl, cx_count2, bd1_mk, if_pos rfl, cx_count3 F _ _ _ _ _ _ _ (inn_ok hg).hb, bd1_mk, inP_inn hn, if_pos rfl, cx_count9 F _ _ _ _ _ _ _ _ hF, bd1_mk, kd3 hk, if_pos rfl]
theorem t_487 (p6 : Nat) (p12 : Nat) (L : Nat) (xs : Nat → Int32) (rs : Nat → Int32) (ts : Nat → Int32) (tm : Nat → Nat → Int32) (rdue : Int32) (rtun : Int32) (rsee : Int32) (rbeg : Int32) (psize : Int32) (pclause : Int32) (peff : Nat → Int32) (pkin : Nat → Int32) (pgri : Nat → Int32) (psig : Nat → Int32) (psee : Nat → Int32) (qsize : Int32) (qclause : Int32) (qeff : Nat → Int32) (qkin : Nat → Int32) (qgri : Nat → Int32) (qsig : Nat → Int32) (qsee : Nat → Int32) (cdee : Int32) (cnow : Int64) (kdee : Nat → Int32) (fc : Nat → Int32) (lf : Int32) (zz : Nat → Int32) (tt : Nat → Int32) (F : Nat) (hF : 1000000 ≤ F) (hts : ts 2 = 80) {q0 : RdS} (hq0 : ∀ at' n tun see beg cl eff kin gri sig sees, at' ≤ 80 → 0 < n → n ≤ 6 → (∀ p, at' ≤ p → p < 80 → tm 2 p = 32) → rd F q0 (tm 2) at' = some (mkR 3 tun see beg (Int32.ofNat n) cl eff kin gri sig sees) → fX4_faultOf F rdue rtun rsee rbeg (tm 2) qsize qclause qeff qkin qgri qsig qsee (Int32.ofNat 80) = some (-9, 3, tun, see, beg, Int32.ofNat n, cl, eff, kin, gri, sig, sees)) {at' n c : Nat} {E : Nat → Int} {K : Nat → Nat} {S : Nat → Nat → Bool} {g : Nat → Nat} {tun see beg : Int32} {eff kin gri sig sees : Nat → Int32} (hat : at' ≤ 80) (h0 : 0 < n) (hn : n ≤ 6) (hc : c ≤ 9) (hbl : ∀ p, at' ≤ p → p < 80 → tm 2 p = 32) (hrd : rd F q0 (tm 2) at' = some (mkR 3 tun see beg (Int32.ofNat n) (Int32.ofNat c) eff kin gri sig sees)) (hE : ∀ k, k < 4 → -4 ≤ E k ∧ E k ≤ 5 ∧ eff k = Int32.ofInt (E k)) (hK : ∀ i, i < n → K i ≤ 5 ∧ kin i = Int32.ofNat (K i)) (hgr : ∀ i, i < n → g i ≤ 9 ∧ gri i = Int32.ofNat (g i)) (hS : ∀ i, i < 6 → sig i = st (S i) ∧ sees i = st (fun j => S j i)) (hSn : ∀ i j, S i j = true → i < n ∧ j < n) (hz0 : zz 0 = Int32.ofNat n) (hz1 : zz 1 = Int32.ofNat c) (hzE : ∀ k, k < 4 → zz (2 + k) = Int32.ofInt (E k)) (hzK : ∀ i, i < n → zz (6 + i) = Int32.ofNat (K i)) (htt : ∀ i, i < 6 → tt i = Int32.ofNat (gv (inn n g) i)) : TOK (fL_tells_n487 F p6 p12 L xs rs ts tm rdue rtun rsee rbeg psize pclause peff pkin pgri psig psee qsize qclause qeff qkin qgri qsig qsee cdee cnow kdee fc lf zz tt) := by
  have e1 := hq0 at' n tun see beg (Int32.ofNat c) eff kin gri sig sees hat h0 hn hbl hrd
  have hG : CS n c E K S eff kin sig sees := ⟨⟨hn, rfl, hc, rfl, hE, hK, fun i hi => (hS i (by omega)).2, hSn⟩, h0, fun i hi => (hS i (by omega)).1⟩
  have e2 : fX5_party F p6 p12 ts tm rdue rtun rsee rbeg psize pgri qsize qclause qeff qkin qgri qsig qsee cdee cnow kdee fc lf (2 : Int32) = some (Int32.ofNat n, 3, tun, see, beg, Int32.ofNat n, Int32.ofNat c, eff, kin, gri, sig, sees, 0, enc (inn n g), fun i => if i < 3 then -1 else kdee i, fc, lf, p12, p6) := by
    unfold fX5_party
    rw [show fX5_isText F (2 : Int32) = some 1 from y_text F (t := 2) (by decide), bd1_mk, if_neg (by decide), show (2 : Int32).toNatClampNeg = 2 from by decide, if_neg (by decide), hts, if_neg (by decide), if_neg (by decide), if_neg (by decide), show (80 : Int32) = Int32.ofNat 80 from rfl, e1, bd12_mk, if_pos rfl, arr_c F hn hgr hF, bd1_mk]
    unfold fX0_begin
    rw [bd2_mk, kdee_c F _ _ _ _ _ _ _ _ _ _ _ _ _ _ _ _ _ _ _ _ _ _ hF]
  unfold fL_tells_n487 gX5_party
  rw [e2]
  dsimp only
  rw [if_pos ⟨rfl, rfl⟩, bd17_mk]
  exact t_492 (hF := hF) (hG := hG) (hd := rfl) (hg := fun i hi => (hgr i hi).1) (hk := fun k hk => if_pos hk) (hz0 := hz0) (hz1 := hz1) (hzE := hzE) (hzK := hzK) (htt := htt) ..
