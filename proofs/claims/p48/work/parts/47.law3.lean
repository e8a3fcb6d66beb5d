set_option maxHeartbeats 4000000 in
set_option maxRecDepth 100000 in
theorem LN_law_l1736 {p : Program} {l : Launch} {e : Env} {s : State} {m : MethodId} {args : Array Value} {below : List Frame} {meth : Method} {c : Code} {Q : State → Prop} {D : va_G} {T : Nat → ClassId} {b L : Nat} {xs : Nat → Int32} {A : Nat → Prop} {o0 za ta : Nat} (F : Nat) (x4 : Int32) (x5 : Int32) (x7 : Int32) (x8 : Int32) (x9 : Int32) (x24 : Int32) (x25 : Int32) (rs : Nat → Int32) (rm : Nat → Nat → Int32) (ts : Nat → Int32) (tm : Nat → Nat → Int32) (rdue : Int32) (rtun : Int32) (rsee : Int32) (rbeg : Int32) (psize : Int32) (pclause : Int32) (peff : Nat → Int32) (pkin : Nat → Int32) (pgri : Nat → Int32) (psig : Nat → Int32) (psee : Nat → Int32) (qsize : Int32) (qclause : Int32) (qeff : Nat → Int32) (qkin : Nat → Int32) (qgri : Nat → Int32) (qsig : Nat → Int32) (qsee : Nat → Int32) (cdee : Int32) (cnow : Int64) (cahe : Nat → Int64) (kdee : Nat → Int32) (know : Nat → Int64) (kahe : Nat → Nat → Int64) (fc : Nat → Int32) (lf : Int32) (up : Int64) (lo : Int64) (zz : Nat → Int32) (tt : Nat → Int32) (C0 : SC_law p s m args c D T b L xs A) (hret : HR_law p l e s m args below meth c Q A) : ∀ (nu : Nat) (x23 : Int32) (x26 : Int32) (x27 : Int32) (told : Int32), fL_law_l1736 F L xs x4 x5 x7 x8 x9 x24 x25 rs rm ts tm rdue rtun rsee rbeg psize pclause peff pkin pgri psig psee qsize qclause qeff qkin qgri qsig qsee cdee cnow cahe kdee know kahe fc lf up lo zz tt nu x23 x26 x27 told = some (1 : Int32) → ∀ (ad : Nat → Nat) (H : Heap) (locs : List Loc), ad 0 = o0 → va_P D vwCl (wLW T ad (ad 6) (ad 12) za ta rs rm ts tm rdue rtun rsee rbeg psize pclause peff pkin pgri psig psee qsize qclause qeff qkin qgri qsig qsee cdee cnow cahe kdee know kahe fc lf told up lo zz tt) H → va_D A (wLW T ad (ad 6) (ad 12) za ta rs rm ts tm rdue rtun rsee rbeg psize pclause peff pkin pgri psig psee qsize qclause qeff qkin qgri qsig qsee cdee cnow cahe kdee know kahe fc lf told up lo zz tt) → va_S A s.heap H locs → ∀ (ls : Array Slot), lv_has ls 31 [(0, .ref b), (1, .ref (ad 0)), (3, .ref ta), (4, .int x4), (5, .int x5), (7, .int x7), (8, .int x8), (9, .int x9), (23, .int x23), (24, .int x24), (25, .int x25), (26, .int x26), (27, .int x27)] → W p l e room_1 s m args below meth c H locs 40 874 Q (F0 m 1736 ls []) := by
  intro nu
  induction nu with
  | zero => intro x23 x26 x27 told h; exact none_some h
  | succ nu ih1736 =>
    intro x23 x26 x27 told h ad H locs ho hP hD hS ls hl
    obtain ⟨hFix, hKK, hA, hX, hbl, hbA⟩ := id C0
    obtain ⟨hx, hb, hml, hown, hts⟩ := id hFix
    have hK := hKK.1
    have h : fL_law_l1736_b F L xs x4 x5 x7 x8 x9 x24 x25 rs rm ts tm rdue rtun rsee rbeg psize pclause peff pkin pgri psig psee qsize qclause qeff qkin qgri qsig qsee cdee cnow cahe kdee know kahe fc lf up lo zz tt (fL_law_l1736 F L xs x4 x5 x7 x8 x9 x24 x25 rs rm ts tm rdue rtun rsee rbeg psize pclause peff pkin pgri psig psee qsize qclause qeff qkin qgri qsig qsee cdee cnow cahe kdee know kahe fc lf up lo zz tt nu) x23 x26 x27 told = some (1 : Int32) := h
    unfold fL_law_l1736_b at h
    refine lv_iload hx hb dL_law_1736 (lv_at hl 12 rfl) ?_
    refine lv_iload hx hb dL_law_1738 (lv_at hl 3 rfl) ?_
    refine lv_icmp_ge (tgt := 1870) hx hb dL_law_1740 (by decide) (fun c1740 => ?_) (fun c1740 => ?_)
    · have h := br_1 h c1740
      exact LN_law_n1870 F x4 x5 x7 x8 x9 x23 x24 x25 x26 rs rm ts tm rdue rtun rsee rbeg psize pclause peff pkin pgri psig psee qsize qclause qeff qkin qgri qsig qsee cdee cnow cahe kdee know kahe fc lf told up lo zz tt C0 hret h ad _ _ ho hP hD hS _ (lv_sub hl [0, 1, 2, 3, 4, 5, 6, 7, 8, 9, 10, 11] rfl)
    · have h := br_0 h c1740
      refine lv_aload_n hx hb dL_law_1743 rfl (lv_at hl 1 rfl) ?_
      refine lv_iload hx hb dL_law_1744 (lv_at hl 12 rfl) ?_
      refine lv_iconst (v := (4 : Int32)) hx hb dL_law_1746 (by decide) ?_
      obtain ⟨r1747, w1747_told, hc, h⟩ := bd2_some h
      have hPc : va_P D vwCl (wPW T ad (ad 6) (ad 12) rs rm ts tm rdue rtun rsee rbeg psize pclause peff pkin pgri psig psee qsize qclause qeff qkin qgri qsig qsee cdee cnow cahe kdee know kahe fc lf told up lo) _ := my_subP sb_wLW_wPW_0to37 hP
      have hDc := hD.sub [0, 1, 2, 3, 4, 5, 6, 7, 8, 9, 10, 11, 12, 13, 14, 15, 16, 17, 18, 19, 20, 21, 22, 23, 24, 25, 26, 27, 28, 29, 30, 31, 32, 33, 34, 35, 36, 37] nd_LW sb_wLW_wPW_0to37
      have hFc := va_free hD hS hA [0, 1, 2, 3, 4, 5, 6, 7, 8, 9, 10, 11, 12, 13, 14, 15, 16, 17, 18, 19, 20, 21, 22, 23, 24, 25, 26, 27, 28, 29, 30, 31, 32, 33, 34, 35, 36, 37] sb_wLW_wPW_0to37
      refine my_rwi (va_runV (As := [.int x27, .int (4 : Int32)]) (rest := []) hFix (kX5_guest l D T F ad rs rm ts tm rdue rtun rsee rbeg psize pclause peff pkin pgri psig psee qsize qclause qeff qkin qgri qsig qsee cdee cnow cahe kdee know kahe fc lf told up lo x27 (4 : Int32) r1747 w1747_told hc _) (cwV 2 hts gL_law_X5_guest rfl rfl rfl ⟨rfl, hd_X5_guest⟩ ⟨Nat.le_of_ble_eq_true rfl, Nat.le_of_ble_eq_true rfl⟩) (preV_rw hPc hKK hDc (va_recv hK hP (ci := 3) (q0 := 0) rfl wLW_0)) rfl rfl hl.1 rfl (lv_room (Nat.le_of_ble_eq_true rfl)) dL_law_1747 ⟨Nat.le_of_ble_eq_true rfl, Nat.le_of_ble_eq_true rfl⟩) hS hFc (fun H1 locs hP1 hD1 hz1 hkk hS => ?_)
      obtain ⟨hP, hD⟩ := my_joinS hP hD nd_LW sb_wLW_wPW_0to37 (by rfl) hkk hFc hP1 hD1
      rw [st_LW] at hP hD
      generalize H1 = H at hP hS ⊢
      refine lv_iconst (v := (1 : Int32)) hx hb dL_law_1750 (by decide) ?_
      refine lv_icmp_eq (tgt := 1756) hx hb dL_law_1751 (by decide) (fun c1751 => ?_) (fun c1751 => ?_)
      · have h := br_1 h c1751
        exact LN_law_n1756 F (fL_law_l1736 F L xs x4 x5 x7 x8 x9 x24 x25 rs rm ts tm rdue rtun rsee rbeg psize pclause peff pkin pgri psig psee qsize qclause qeff qkin qgri qsig qsee cdee cnow cahe kdee know kahe fc lf up lo zz tt nu) x4 x5 x7 x8 x9 x23 x24 x25 x26 x27 rs rm ts tm rdue rtun rsee rbeg psize pclause peff pkin pgri psig psee qsize qclause qeff qkin qgri qsig qsee cdee cnow cahe kdee know kahe fc lf w1747_told up lo zz tt C0 hret ih1736 h ad _ _ ho hP hD hS _ (lv_sub hl [0, 1, 2, 3, 4, 5, 6, 7, 8, 9, 10, 11, 12] rfl)
      · have h := br_0 h c1751
        refine lv_iconst (v := (0 : Int32)) hx hb dL_law_1754 (by decide) ?_
        exact absurd (Option.some.inj h) (by decide)
set_option maxHeartbeats 4000000 in
set_option maxRecDepth 100000 in
theorem LN_law_n1703 {p : Program} {l : Launch} {e : Env} {s : State} {m : MethodId} {args : Array Value} {below : List Frame} {meth : Method} {c : Code} {Q : State → Prop} {D : va_G} {T : Nat → ClassId} {b L : Nat} {xs : Nat → Int32} {A : Nat → Prop} {o0 za ta : Nat} (F : Nat) (x4 : Int32) (x5 : Int32) (x7 : Int32) (x8 : Int32) (x9 : Int32) (rs : Nat → Int32) (rm : Nat → Nat → Int32) (ts : Nat → Int32) (tm : Nat → Nat → Int32) (rdue : Int32) (rtun : Int32) (rsee : Int32) (rbeg : Int32) (psize : Int32) (pclause : Int32) (peff : Nat → Int32) (pkin : Nat → Int32) (pgri : Nat → Int32) (psig : Nat → Int32) (psee : Nat → Int32) (qsize : Int32) (qclause : Int32) (qeff : Nat → Int32) (qkin : Nat → Int32) (qgri : Nat → Int32) (qsig : Nat → Int32) (qsee : Nat → Int32) (cdee : Int32) (cnow : Int64) (cahe : Nat → Int64) (kdee : Nat → Int32) (know : Nat → Int64) (kahe : Nat → Nat → Int64) (fc : Nat → Int32) (lf : Int32) (told : Int32) (up : Int64) (lo : Int64) (zz : Nat → Int32) (tt : Nat → Int32) (C0 : SC_law p s m args c D T b L xs A) (hret : HR_law p l e s m args below meth c Q A) (h : fL_law_n1703 F L xs x4 x5 x7 x8 x9 rs rm ts tm rdue rtun rsee rbeg psize pclause peff pkin pgri psig psee qsize qclause qeff qkin qgri qsig qsee cdee cnow cahe kdee know kahe fc lf told up lo zz tt = some (1 : Int32)) : ∀ (ad : Nat → Nat) (H : Heap) (locs : List Loc), ad 0 = o0 → va_P D vwCl (wLW T ad (ad 6) (ad 12) za ta rs rm ts tm rdue rtun rsee rbeg psize pclause peff pkin pgri psig psee qsize qclause qeff qkin qgri qsig qsee cdee cnow cahe kdee know kahe fc lf told up lo zz tt) H → va_D A (wLW T ad (ad 6) (ad 12) za ta rs rm ts tm rdue rtun rsee rbeg psize pclause peff pkin pgri psig psee qsize qclause qeff qkin qgri qsig qsee cdee cnow cahe kdee know kahe fc lf told up lo zz tt) → va_S A s.heap H locs → ∀ (ls : Array Slot), lv_has ls 31 [(0, .ref b), (1, .ref (ad 0)), (3, .ref ta), (4, .int x4), (5, .int x5), (7, .int x7), (8, .int x8), (9, .int x9)] → W p l e room_1 s m args below meth c H locs 40 874 Q (F0 m 1703 ls []) := by
  intro ad H locs ho hP hD hS ls hl
  obtain ⟨hFix, hKK, hA, hX, hbl, hbA⟩ := id C0
  obtain ⟨hx, hb, hml, hown, hts⟩ := id hFix
  have hK := hKK.1
  unfold fL_law_n1703 at h
  refine lv_iconst (v := (0 : Int32)) hx hb dL_law_1703 (by decide) ?_
  refine lv_istore (lv' := [(23, .int (0 : Int32)), (0, .ref b), (1, .ref (ad 0)), (3, .ref ta), (4, .int x4), (5, .int x5), (7, .int x7), (8, .int x8), (9, .int x9)]) hx hb dL_law_1704 hl (by decide) rfl (fun ls hl => ?_)
  refine lv_aload_n hx hb dL_law_1706 rfl (lv_at hl 2 rfl) ?_
  refine lv_iload hx hb dL_law_1707 (lv_at hl 4 rfl) ?_
  obtain ⟨r1709, w1709_told, hc, h⟩ := bd2_some h
  have hPc : va_P D vwCl (wPW T ad (ad 6) (ad 12) rs rm ts tm rdue rtun rsee rbeg psize pclause peff pkin pgri psig psee qsize qclause qeff qkin qgri qsig qsee cdee cnow cahe kdee know kahe fc lf told up lo) _ := my_subP sb_wLW_wPW_0to37 hP
  have hDc := hD.sub [0, 1, 2, 3, 4, 5, 6, 7, 8, 9, 10, 11, 12, 13, 14, 15, 16, 17, 18, 19, 20, 21, 22, 23, 24, 25, 26, 27, 28, 29, 30, 31, 32, 33, 34, 35, 36, 37] nd_LW sb_wLW_wPW_0to37
  have hFc := va_free hD hS hA [0, 1, 2, 3, 4, 5, 6, 7, 8, 9, 10, 11, 12, 13, 14, 15, 16, 17, 18, 19, 20, 21, 22, 23, 24, 25, 26, 27, 28, 29, 30, 31, 32, 33, 34, 35, 36, 37] sb_wLW_wPW_0to37
  refine my_rwi (va_runS (As := [.ref (ad 0), .int x4]) (rest := []) hFix (kL_outs l D T F ad rs rm ts tm rdue rtun rsee rbeg psize pclause peff pkin pgri psig psee qsize qclause qeff qkin qgri qsig qsee cdee cnow cahe kdee know kahe fc lf told up lo x4 r1709 w1709_told hc _) (va_cwS 2 hts gL_law_L_outs rfl rfl rfl hd_L_outs ⟨Nat.le_of_ble_eq_true rfl, Nat.le_of_ble_eq_true rfl⟩) (preS_rw hPc hKK hDc) rfl rfl hl.1 rfl (lv_room (Nat.le_of_ble_eq_true rfl)) dL_law_1709 ⟨Nat.le_of_ble_eq_true rfl, Nat.le_of_ble_eq_true rfl⟩) hS hFc (fun H1 locs hP1 hD1 hz1 hkk hS => ?_)
  obtain ⟨hP, hD⟩ := my_joinS hP hD nd_LW sb_wLW_wPW_0to37 (by rfl) hkk hFc hP1 hD1
  rw [st_LW] at hP hD
  generalize H1 = H at hP hS ⊢
  refine lv_istore (lv' := [(24, .int r1709), (23, .int (0 : Int32)), (0, .ref b), (1, .ref (ad 0)), (3, .ref ta), (4, .int x4), (5, .int x5), (7, .int x7), (8, .int x8), (9, .int x9)]) hx hb dL_law_1712 hl (by decide) rfl (fun ls hl => ?_)
  refine lv_iconst (v := (1 : Int32)) hx hb dL_law_1714 (by decide) ?_
  refine lv_aload_n hx hb dL_law_1715 rfl (lv_at hl 2 rfl) ?_
  refine lv_bipush (v := (50 : Int32)) hx hb dL_law_1716 (by decide) ?_
  obtain ⟨r1718, hc, h⟩ := bd1_some h
  refine my_roi (va_Run.run (va_runS (As := [.ref b, .int (50 : Int32)]) (rest := [.int (1 : Int32)]) hFix (kL_cell l D T F b L xs (50 : Int32) r1718 hc) (va_cwS 2 hts gL_law_L_cell rfl rfl rfl hd_L_cell ⟨Nat.le_of_ble_eq_true rfl, Nat.le_of_ble_eq_true rfl⟩) (preS_x (hX.kept (hS.2.1 b hbl hbA)) hKK) rfl rfl hl.1 rfl (lv_room (Nat.le_of_ble_eq_true rfl)) dL_law_1718 ⟨Nat.le_of_ble_eq_true rfl, Nat.le_of_ble_eq_true rfl⟩)) ?_
  refine lv_sipush (v := (999 : Int32)) hx hb dL_law_1721 (by decide) ?_
  obtain ⟨r1724, hc, h⟩ := bd1_some h
  refine my_roi (va_Run.run (va_runS (As := [.int r1718, .int (999 : Int32)]) (rest := [.int (1 : Int32)]) hFix (kL_part l D T F r1718 (999 : Int32) r1724 hc) (va_cwS 2 hts gL_law_L_part rfl rfl rfl hd_L_part ⟨Nat.le_of_ble_eq_true rfl, Nat.le_of_ble_eq_true rfl⟩) (preS_ro va_nil hKK) rfl rfl hl.1 rfl (lv_room (Nat.le_of_ble_eq_true rfl)) dL_law_1724 ⟨Nat.le_of_ble_eq_true rfl, Nat.le_of_ble_eq_true rfl⟩)) ?_
  refine lv_iadd hx hb dL_law_1727 ?_
  refine lv_istore (lv' := [(25, .int ((1 : Int32) + r1724)), (24, .int r1709), (23, .int (0 : Int32)), (0, .ref b), (1, .ref (ad 0)), (3, .ref ta), (4, .int x4), (5, .int x5), (7, .int x7), (8, .int x8), (9, .int x9)]) hx hb dL_law_1728 hl (by decide) rfl (fun ls hl => ?_)
  refine lv_iconst (v := (0 : Int32)) hx hb dL_law_1730 (by decide) ?_
  refine lv_istore (lv' := [(26, .int (0 : Int32)), (25, .int ((1 : Int32) + r1724)), (24, .int r1709), (23, .int (0 : Int32)), (0, .ref b), (1, .ref (ad 0)), (3, .ref ta), (4, .int x4), (5, .int x5), (7, .int x7), (8, .int x8), (9, .int x9)]) hx hb dL_law_1731 hl (by decide) rfl (fun ls hl => ?_)
  refine lv_iconst (v := (0 : Int32)) hx hb dL_law_1733 (by decide) ?_
  refine lv_istore (lv' := [(27, .int (0 : Int32)), (26, .int (0 : Int32)), (25, .int ((1 : Int32) + r1724)), (24, .int r1709), (23, .int (0 : Int32)), (0, .ref b), (1, .ref (ad 0)), (3, .ref ta), (4, .int x4), (5, .int x5), (7, .int x7), (8, .int x8), (9, .int x9)]) hx hb dL_law_1734 hl (by decide) rfl (fun ls hl => ?_)
  exact LN_law_l1736 F x4 x5 x7 x8 x9 r1709 ((1 : Int32) + r1724) rs rm ts tm rdue rtun rsee rbeg psize pclause peff pkin pgri psig psee qsize qclause qeff qkin qgri qsig qsee cdee cnow cahe kdee know kahe fc lf up lo zz tt C0 hret F (0 : Int32) (0 : Int32) (0 : Int32) w1709_told h ad _ _ ho hP hD hS _ (lv_sub hl [5, 6, 7, 8, 9, 10, 11, 12, 4, 3, 2, 1, 0] rfl)
set_option maxHeartbeats 4000000 in
set_option maxRecDepth 100000 in
theorem LN_law_l1615 {p : Program} {l : Launch} {e : Env} {s : State} {m : MethodId} {args : Array Value} {below : List Frame} {meth : Method} {c : Code} {Q : State → Prop} {D : va_G} {T : Nat → ClassId} {b L : Nat} {xs : Nat → Int32} {A : Nat → Prop} {o0 za ta : Nat} (F : Nat) (x4 : Int32) (x5 : Int32) (x7 : Int32) (x8 : Int32) (x9 : Int32) (rs : Nat → Int32) (rm : Nat → Nat → Int32) (ts : Nat → Int32) (tm : Nat → Nat → Int32) (rdue : Int32) (rtun : Int32) (rsee : Int32) (rbeg : Int32) (psize : Int32) (pclause : Int32) (peff : Nat → Int32) (pkin : Nat → Int32) (pgri : Nat → Int32) (psig : Nat → Int32) (psee : Nat → Int32) (qsize : Int32) (qclause : Int32) (qeff : Nat → Int32) (qkin : Nat → Int32) (qgri : Nat → Int32) (qsig : Nat → Int32) (qsee : Nat → Int32) (cdee : Int32) (cnow : Int64) (cahe : Nat → Int64) (kdee : Nat → Int32) (know : Nat → Int64) (kahe : Nat → Nat → Int64) (fc : Nat → Int32) (lf : Int32) (told : Int32) (up : Int64) (lo : Int64) (zz : Nat → Int32) (tt : Nat → Int32) (C0 : SC_law p s m args c D T b L xs A) (hret : HR_law p l e s m args below meth c Q A) : ∀ (nu : Nat) (x23 : Int32), fL_law_l1615 F L xs x4 x5 x7 x8 x9 rs rm ts tm rdue rtun rsee rbeg psize pclause peff pkin pgri psig psee qsize qclause qeff qkin qgri qsig qsee cdee cnow cahe kdee know kahe fc lf told up lo zz tt nu x23 = some (1 : Int32) → ∀ (ad : Nat → Nat) (H : Heap) (locs : List Loc), ad 0 = o0 → va_P D vwCl (wLW T ad (ad 6) (ad 12) za ta rs rm ts tm rdue rtun rsee rbeg psize pclause peff pkin pgri psig psee qsize qclause qeff qkin qgri qsig qsee cdee cnow cahe kdee know kahe fc lf told up lo zz tt) H → va_D A (wLW T ad (ad 6) (ad 12) za ta rs rm ts tm rdue rtun rsee rbeg psize pclause peff pkin pgri psig psee qsize qclause qeff qkin qgri qsig qsee cdee cnow cahe kdee know kahe fc lf told up lo zz tt) → va_S A s.heap H locs → ∀ (ls : Array Slot), lv_has ls 31 [(0, .ref b), (1, .ref (ad 0)), (2, .ref za), (3, .ref ta), (4, .int x4), (5, .int x5), (7, .int x7), (8, .int x8), (9, .int x9), (23, .int x23)] → W p l e room_1 s m args below meth c H locs 40 874 Q (F0 m 1615 ls []) := by
  intro nu
  induction nu with
  | zero => intro x23 h; exact none_some h
  | succ nu ih1615 =>
    intro x23 h ad H locs ho hP hD hS ls hl
    obtain ⟨hFix, hKK, hA, hX, hbl, hbA⟩ := id C0
    obtain ⟨hx, hb, hml, hown, hts⟩ := id hFix
    have hK := hKK.1
    have h : fL_law_l1615_b F L xs x4 x5 x7 x8 x9 rs rm ts tm rdue rtun rsee rbeg psize pclause peff pkin pgri psig psee qsize qclause qeff qkin qgri qsig qsee cdee cnow cahe kdee know kahe fc lf told up lo zz tt (fL_law_l1615 F L xs x4 x5 x7 x8 x9 rs rm ts tm rdue rtun rsee rbeg psize pclause peff pkin pgri psig psee qsize qclause qeff qkin qgri qsig qsee cdee cnow cahe kdee know kahe fc lf told up lo zz tt nu) x23 = some (1 : Int32) := h
    unfold fL_law_l1615_b at h
    refine lv_iload hx hb dL_law_1615 (lv_at hl 9 rfl) ?_
    refine lv_iload hx hb dL_law_1617 (lv_at hl 4 rfl) ?_
    refine lv_icmp_ge (tgt := 1703) hx hb dL_law_1619 (by decide) (fun c1619 => ?_) (fun c1619 => ?_)
    · have h := br_1 h c1619
      exact LN_law_n1703 F x4 x5 x7 x8 x9 rs rm ts tm rdue rtun rsee rbeg psize pclause peff pkin pgri psig psee qsize qclause qeff qkin qgri qsig qsee cdee cnow cahe kdee know kahe fc lf told up lo zz tt C0 hret h ad _ _ ho hP hD hS _ (lv_sub hl [0, 1, 3, 4, 5, 6, 7, 8] rfl)
    · have h := br_0 h c1619
      refine lv_aload_n hx hb dL_law_1622 rfl (lv_at hl 0 rfl) ?_
      refine lv_bipush (v := (43 : Int32)) hx hb dL_law_1623 (by decide) ?_
      obtain ⟨r1625, hc, h⟩ := bd1_some h
      refine my_roi (va_Run.run (va_runS (As := [.ref b, .int (43 : Int32)]) (rest := []) hFix (kL_cell l D T F b L xs (43 : Int32) r1625 hc) (va_cwS 2 hts gL_law_L_cell rfl rfl rfl hd_L_cell ⟨Nat.le_of_ble_eq_true rfl, Nat.le_of_ble_eq_true rfl⟩) (preS_x (hX.kept (hS.2.1 b hbl hbA)) hKK) rfl rfl hl.1 rfl (lv_room (Nat.le_of_ble_eq_true rfl)) dL_law_1625 ⟨Nat.le_of_ble_eq_true rfl, Nat.le_of_ble_eq_true rfl⟩)) ?_
      refine lv_iconst (v := (4 : Int32)) hx hb dL_law_1628 (by decide) ?_
      obtain ⟨r1629, hc, h⟩ := bd1_some h
      refine my_roi (va_Run.run (va_runS (As := [.int r1625, .int (4 : Int32)]) (rest := []) hFix (kL_part l D T F r1625 (4 : Int32) r1629 hc) (va_cwS 2 hts gL_law_L_part rfl rfl rfl hd_L_part ⟨Nat.le_of_ble_eq_true rfl, Nat.le_of_ble_eq_true rfl⟩) (preS_ro va_nil hKK) rfl rfl hl.1 rfl (lv_room (Nat.le_of_ble_eq_true rfl)) dL_law_1629 ⟨Nat.le_of_ble_eq_true rfl, Nat.le_of_ble_eq_true rfl⟩)) ?_
      refine lv_istore (lv' := [(24, .int r1629), (0, .ref b), (1, .ref (ad 0)), (2, .ref za), (3, .ref ta), (4, .int x4), (5, .int x5), (7, .int x7), (8, .int x8), (9, .int x9), (23, .int x23)]) hx hb dL_law_1632 hl (by decide) rfl (fun ls hl => ?_)
      refine lv_aload_n hx hb dL_law_1634 rfl (lv_at hl 1 rfl) ?_
      refine lv_bipush (v := (44 : Int32)) hx hb dL_law_1635 (by decide) ?_
      refine lv_iload hx hb dL_law_1637 (lv_at hl 10 rfl) ?_
      refine lv_iadd hx hb dL_law_1639 ?_
      obtain ⟨r1640, hc, h⟩ := bd1_some h
      refine my_roi (va_Run.run (va_runS (As := [.ref b, .int ((44 : Int32) + x23)]) (rest := []) hFix (kL_cell l D T F b L xs ((44 : Int32) + x23) r1640 hc) (va_cwS 2 hts gL_law_L_cell rfl rfl rfl hd_L_cell ⟨Nat.le_of_ble_eq_true rfl, Nat.le_of_ble_eq_true rfl⟩) (preS_x (hX.kept (hS.2.1 b hbl hbA)) hKK) rfl rfl hl.1 rfl (lv_room (Nat.le_of_ble_eq_true rfl)) dL_law_1640 ⟨Nat.le_of_ble_eq_true rfl, Nat.le_of_ble_eq_true rfl⟩)) ?_
      refine lv_bipush (v := (21 : Int32)) hx hb dL_law_1643 (by decide) ?_
      obtain ⟨r1645, hc, h⟩ := bd1_some h
      refine my_roi (va_Run.run (va_runS (As := [.int r1640, .int (21 : Int32)]) (rest := []) hFix (kL_part l D T F r1640 (21 : Int32) r1645 hc) (va_cwS 2 hts gL_law_L_part rfl rfl rfl hd_L_part ⟨Nat.le_of_ble_eq_true rfl, Nat.le_of_ble_eq_true rfl⟩) (preS_ro va_nil hKK) rfl rfl hl.1 rfl (lv_room (Nat.le_of_ble_eq_true rfl)) dL_law_1645 ⟨Nat.le_of_ble_eq_true rfl, Nat.le_of_ble_eq_true rfl⟩)) ?_
      refine lv_istore (lv' := [(25, .int r1645), (24, .int r1629), (0, .ref b), (1, .ref (ad 0)), (2, .ref za), (3, .ref ta), (4, .int x4), (5, .int x5), (7, .int x7), (8, .int x8), (9, .int x9), (23, .int x23)]) hx hb dL_law_1648 hl (by decide) rfl (fun ls hl => ?_)
      refine lv_aload_n hx hb dL_law_1650 rfl (lv_at hl 3 rfl) ?_
      refine lv_iload hx hb dL_law_1651 (lv_at hl 11 rfl) ?_
      refine lv_iload hx hb dL_law_1653 (lv_at hl 1 rfl) ?_
      refine lv_iload hx hb dL_law_1655 (lv_at hl 0 rfl) ?_
      refine lv_aload_n hx hb dL_law_1657 rfl (lv_at hl 4 rfl) ?_
      refine lv_bipush (v := (6 : Int32)) hx hb dL_law_1658 (by decide) ?_
      refine lv_iload hx hb dL_law_1660 (lv_at hl 11 rfl) ?_
      refine lv_iadd hx hb dL_law_1662 ?_
      obtain ⟨hin1, h⟩ := ck_some h
      refine va_iald hx hb hK hP 38 0 wLW_38 rfl hin1 dL_law_1663 ?_
      refine lv_iload hx hb dL_law_1664 (lv_at hl 0 rfl) ?_
      refine lv_iload hx hb dL_law_1666 (lv_at hl 1 rfl) ?_
      refine lv_aload_n hx hb dL_law_1668 rfl (lv_at hl 4 rfl) ?_
      refine lv_iconst (v := (2 : Int32)) hx hb dL_law_1669 (by decide) ?_
      refine lv_iload hx hb dL_law_1670 (lv_at hl 1 rfl) ?_
      refine lv_iadd hx hb dL_law_1672 ?_
      obtain ⟨hin2, h⟩ := ck_some h
      refine va_iald hx hb hK hP 38 0 wLW_38 rfl hin2 dL_law_1673 ?_
      obtain ⟨r1674, hc, h⟩ := bd1_some h
      refine my_roi (va_Run.run (va_runS (As := [.int (zz ((6 : Int32) + x23).toNatClampNeg), .int r1645, .int r1629, .int (zz ((2 : Int32) + r1629).toNatClampNeg)]) (rest := [.int r1645, .int r1629, .int x23, .ref (ad 0)]) hFix (kL_behind l D T F (zz ((6 : Int32) + x23).toNatClampNeg) r1645 r1629 (zz ((2 : Int32) + r1629).toNatClampNeg) r1674 hc) (va_cwS 4 hts gL_law_L_behind rfl rfl rfl hd_L_behind ⟨Nat.le_of_ble_eq_true rfl, Nat.le_of_ble_eq_true rfl⟩) (preS_ro va_nil hKK) rfl rfl hl.1 rfl (lv_room (Nat.le_of_ble_eq_true rfl)) dL_law_1674 ⟨Nat.le_of_ble_eq_true rfl, Nat.le_of_ble_eq_true rfl⟩)) ?_
      obtain ⟨r1677, hc, h⟩ := bd1_some h
      have hPc : va_P D vwCl (wPW T ad (ad 6) (ad 12) rs rm ts tm rdue rtun rsee rbeg psize pclause peff pkin pgri psig psee qsize qclause qeff qkin qgri qsig qsee cdee cnow cahe kdee know kahe fc lf told up lo) _ := my_subP sb_wLW_wPW_0to37 hP
      refine my_roi (va_Run.run (va_runV (As := [.int x23, .int r1629, .int r1645, .int r1674]) (rest := []) hFix (kX5_did l D T F ad rs rm ts tm rdue rtun rsee rbeg psize pclause peff pkin pgri psig psee qsize qclause qeff qkin qgri qsig qsee cdee cnow cahe kdee know kahe fc lf told up lo x23 r1629 r1645 r1674 r1677 hc) (cwV 4 hts gL_law_X5_did rfl rfl rfl ⟨rfl, hd_X5_did⟩ ⟨Nat.le_of_ble_eq_true rfl, Nat.le_of_ble_eq_true rfl⟩) (preV_ro hPc hKK (va_recv hK hP (ci := 3) (q0 := 0) rfl wLW_0)) rfl rfl hl.1 rfl (lv_room (Nat.le_of_ble_eq_true rfl)) dL_law_1677 ⟨Nat.le_of_ble_eq_true rfl, Nat.le_of_ble_eq_true rfl⟩)) ?_
      refine lv_aload_n hx hb dL_law_1680 rfl (lv_at hl 4 rfl) ?_
      refine lv_iconst (v := (2 : Int32)) hx hb dL_law_1681 (by decide) ?_
      refine lv_iload hx hb dL_law_1682 (lv_at hl 1 rfl) ?_
      refine lv_iadd hx hb dL_law_1684 ?_
      obtain ⟨hin3, h⟩ := ck_some h
      refine va_iald hx hb hK hP 38 0 wLW_38 rfl hin3 dL_law_1685 ?_
      refine lv_iconst (v := (4 : Int32)) hx hb dL_law_1686 (by decide) ?_
      refine lv_iadd hx hb dL_law_1687 ?_
      refine lv_ishr hx hb dL_law_1688 ?_
      refine lv_iconst (v := (1 : Int32)) hx hb dL_law_1689 (by decide) ?_
      refine lv_iand hx hb dL_law_1690 ?_
      refine lv_iconst (v := (1 : Int32)) hx hb dL_law_1691 (by decide) ?_
      refine lv_icmp_eq (tgt := 1697) hx hb dL_law_1692 (by decide) (fun c1692 => ?_) (fun c1692 => ?_)
      · have h := br_1 h c1692
        refine lv_iinc (v := (x23 + (1 : Int32))) (lv' := [(23, .int (x23 + (1 : Int32))), (25, .int r1645), (24, .int r1629), (0, .ref b), (1, .ref (ad 0)), (2, .ref za), (3, .ref ta), (4, .int x4), (5, .int x5), (7, .int x7), (8, .int x8), (9, .int x9)]) hx hb dL_law_1697 hl (k := 11) rfl rfl (by decide) rfl (fun ls hl => ?_)
        refine lv_goto (tgt := 1615) hx hb dL_law_1700 (by decide) ?_
        exact ih1615 (x23 + (1 : Int32)) h ad _ _ ho hP hD hS _ (lv_sub hl [3, 4, 5, 6, 7, 8, 9, 10, 11, 0] rfl)
      · have h := br_0 h c1692
        refine lv_iconst (v := (0 : Int32)) hx hb dL_law_1695 (by decide) ?_
        exact absurd (Option.some.inj h) (by decide)
set_option maxHeartbeats 4000000 in
set_option maxRecDepth 100000 in
theorem LN_law_n1612 {p : Program} {l : Launch} {e : Env} {s : State} {m : MethodId} {args : Array Value} {below : List Frame} {meth : Method} {c : Code} {Q : State → Prop} {D : va_G} {T : Nat → ClassId} {b L : Nat} {xs : Nat → Int32} {A : Nat → Prop} {o0 za ta : Nat} (F : Nat) (x4 : Int32) (x5 : Int32) (x7 : Int32) (x8 : Int32) (x9 : Int32) (rs : Nat → Int32) (rm : Nat → Nat → Int32) (ts : Nat → Int32) (tm : Nat → Nat → Int32) (rdue : Int32) (rtun : Int32) (rsee : Int32) (rbeg : Int32) (psize : Int32) (pclause : Int32) (peff : Nat → Int32) (pkin : Nat → Int32) (pgri : Nat → Int32) (psig : Nat → Int32) (psee : Nat → Int32) (qsize : Int32) (qclause : Int32) (qeff : Nat → Int32) (qkin : Nat → Int32) (qgri : Nat → Int32) (qsig : Nat → Int32) (qsee : Nat → Int32) (cdee : Int32) (cnow : Int64) (cahe : Nat → Int64) (kdee : Nat → Int32) (know : Nat → Int64) (kahe : Nat → Nat → Int64) (fc : Nat → Int32) (lf : Int32) (told : Int32) (up : Int64) (lo : Int64) (zz : Nat → Int32) (tt : Nat → Int32) (C0 : SC_law p s m args c D T b L xs A) (hret : HR_law p l e s m args below meth c Q A) (h : fL_law_n1612 F L xs x4 x5 x7 x8 x9 rs rm ts tm rdue rtun rsee rbeg psize pclause peff pkin pgri psig psee qsize qclause qeff qkin qgri qsig qsee cdee cnow cahe kdee know kahe fc lf told up lo zz tt = some (1 : Int32)) : ∀ (ad : Nat → Nat) (H : Heap) (locs : List Loc), ad 0 = o0 → va_P D vwCl (wLW T ad (ad 6) (ad 12) za ta rs rm ts tm rdue rtun rsee rbeg psize pclause peff pkin pgri psig psee qsize qclause qeff qkin qgri qsig qsee cdee cnow cahe kdee know kahe fc lf told up lo zz tt) H → va_D A (wLW T ad (ad 6) (ad 12) za ta rs rm ts tm rdue rtun rsee rbeg psize pclause peff pkin pgri psig psee qsize qclause qeff qkin qgri qsig qsee cdee cnow cahe kdee know kahe fc lf told up lo zz tt) → va_S A s.heap H locs → ∀ (ls : Array Slot), lv_has ls 31 [(0, .ref b), (1, .ref (ad 0)), (2, .ref za), (3, .ref ta), (4, .int x4), (5, .int x5), (7, .int x7), (8, .int x8), (9, .int x9)] → W p l e room_1 s m args below meth c H locs 40 874 Q (F0 m 1612 ls []) := by
  intro ad H locs ho hP hD hS ls hl
  obtain ⟨hFix, hKK, hA, hX, hbl, hbA⟩ := id C0
  obtain ⟨hx, hb, hml, hown, hts⟩ := id hFix
  have hK := hKK.1
  unfold fL_law_n1612 at h
  refine lv_iconst (v := (0 : Int32)) hx hb dL_law_1612 (by decide) ?_
  refine lv_istore (lv' := [(23, .int (0 : Int32)), (0, .ref b), (1, .ref (ad 0)), (2, .ref za), (3, .ref ta), (4, .int x4), (5, .int x5), (7, .int x7), (8, .int x8), (9, .int x9)]) hx hb dL_law_1613 hl (by decide) rfl (fun ls hl => ?_)
  exact LN_law_l1615 F x4 x5 x7 x8 x9 rs rm ts tm rdue rtun rsee rbeg psize pclause peff pkin pgri psig psee qsize qclause qeff qkin qgri qsig qsee cdee cnow cahe kdee know kahe fc lf told up lo zz tt C0 hret F (0 : Int32) h ad _ _ ho hP hD hS _ (lv_sub hl [1, 2, 3, 4, 5, 6, 7, 8, 9, 0] rfl)
set_option maxHeartbeats 4000000 in
set_option maxRecDepth 100000 in
theorem LN_law_n1549 {p : Program} {l : Launch} {e : Env} {s : State} {m : MethodId} {args : Array Value} {below : List Frame} {meth : Method} {c : Code} {Q : State → Prop} {D : va_G} {T : Nat → ClassId} {b L : Nat} {xs : Nat → Int32} {A : Nat → Prop} {o0 za ta : Nat} (F : Nat) (x4 : Int32) (x5 : Int32) (x7 : Int32) (x8 : Int32) (x9 : Int32) (x22 : Int32) (x23 : Int32) (rs : Nat → Int32) (rm : Nat → Nat → Int32) (ts : Nat → Int32) (tm : Nat → Nat → Int32) (rdue : Int32) (rtun : Int32) (rsee : Int32) (rbeg : Int32) (psize : Int32) (pclause : Int32) (peff : Nat → Int32) (pkin : Nat → Int32) (pgri : Nat → Int32) (psig : Nat → Int32) (psee : Nat → Int32) (qsize : Int32) (qclause : Int32) (qeff : Nat → Int32) (qkin : Nat → Int32) (qgri : Nat → Int32) (qsig : Nat → Int32) (qsee : Nat → Int32) (cdee : Int32) (cnow : Int64) (cahe : Nat → Int64) (kdee : Nat → Int32) (know : Nat → Int64) (kahe : Nat → Nat → Int64) (fc : Nat → Int32) (lf : Int32) (told : Int32) (up : Int64) (lo : Int64) (zz : Nat → Int32) (tt : Nat → Int32) (C0 : SC_law p s m args c D T b L xs A) (hret : HR_law p l e s m args below meth c Q A) (h : fL_law_n1549 F L xs x4 x5 x7 x8 x9 x22 x23 rs rm ts tm rdue rtun rsee rbeg psize pclause peff pkin pgri psig psee qsize qclause qeff qkin qgri qsig qsee cdee cnow cahe kdee know kahe fc lf told up lo zz tt = some (1 : Int32)) : ∀ (ad : Nat → Nat) (H : Heap) (locs : List Loc), ad 0 = o0 → va_P D vwCl (wLW T ad (ad 6) (ad 12) za ta rs rm ts tm rdue rtun rsee rbeg psize pclause peff pkin pgri psig psee qsize qclause qeff qkin qgri qsig qsee cdee cnow cahe kdee know kahe fc lf told up lo zz tt) H → va_D A (wLW T ad (ad 6) (ad 12) za ta rs rm ts tm rdue rtun rsee rbeg psize pclause peff pkin pgri psig psee qsize qclause qeff qkin qgri qsig qsee cdee cnow cahe kdee know kahe fc lf told up lo zz tt) → va_S A s.heap H locs → ∀ (ls : Array Slot), lv_has ls 31 [(0, .ref b), (1, .ref (ad 0)), (2, .ref za), (3, .ref ta), (4, .int x4), (5, .int x5), (7, .int x7), (8, .int x8), (9, .int x9), (22, .int x22), (23, .int x23)] → W p l e room_1 s m args below meth c H locs 40 874 Q (F0 m 1549 ls []) := by
  intro ad H locs ho hP hD hS ls hl
  obtain ⟨hFix, hKK, hA, hX, hbl, hbA⟩ := id C0
  obtain ⟨hx, hb, hml, hown, hts⟩ := id hFix
  have hK := hKK.1
  have q5 := hts _ (List.mem_of_getElem? (i := 5) (show wsL_law[5]? = some (Cond.constant RL 159 (2097152)) from rfl))
  unfold fL_law_n1549 at h
  refine lv_aload_n hx hb dL_law_1549 rfl (lv_at hl 1 rfl) ?_
  refine lv_iload hx hb dL_law_1550 (lv_at hl 9 rfl) ?_
  refine lv_iconst (v := (5 : Int32)) hx hb dL_law_1552 (by decide) ?_
  obtain ⟨r1553, w1553_fc, w1553_lf, hc, h⟩ := bd3_some h
  have hPc : va_P D vwCl (wPW T ad (ad 6) (ad 12) rs rm ts tm rdue rtun rsee rbeg psize pclause peff pkin pgri psig psee qsize qclause qeff qkin qgri qsig qsee cdee cnow cahe kdee know kahe fc lf told up lo) _ := my_subP sb_wLW_wPW_0to37 hP
  have hDc := hD.sub [0, 1, 2, 3, 4, 5, 6, 7, 8, 9, 10, 11, 12, 13, 14, 15, 16, 17, 18, 19, 20, 21, 22, 23, 24, 25, 26, 27, 28, 29, 30, 31, 32, 33, 34, 35, 36, 37] nd_LW sb_wLW_wPW_0to37
  have hFc := va_free hD hS hA [0, 1, 2, 3, 4, 5, 6, 7, 8, 9, 10, 11, 12, 13, 14, 15, 16, 17, 18, 19, 20, 21, 22, 23, 24, 25, 26, 27, 28, 29, 30, 31, 32, 33, 34, 35, 36, 37] sb_wLW_wPW_0to37
  refine my_rwi (va_runV (As := [.int x22, .int (5 : Int32)]) (rest := []) hFix (kX5_kinds l D T F ad rs rm ts tm rdue rtun rsee rbeg psize pclause peff pkin pgri psig psee qsize qclause qeff qkin qgri qsig qsee cdee cnow cahe kdee know kahe fc lf told up lo x22 (5 : Int32) r1553 w1553_fc w1553_lf hc _) (cwV 2 hts gL_law_X5_kinds rfl rfl rfl ⟨rfl, hd_X5_kinds⟩ ⟨Nat.le_of_ble_eq_true rfl, Nat.le_of_ble_eq_true rfl⟩) (preV_rw hPc hKK hDc (va_recv hK hP (ci := 3) (q0 := 0) rfl wLW_0)) rfl rfl hl.1 rfl (lv_room (Nat.le_of_ble_eq_true rfl)) dL_law_1553 ⟨Nat.le_of_ble_eq_true rfl, Nat.le_of_ble_eq_true rfl⟩) hS hFc (fun H1 locs hP1 hD1 hz1 hkk hS => ?_)
  obtain ⟨hP, hD⟩ := my_joinS hP hD nd_LW sb_wLW_wPW_0to37 (by rfl) hkk hFc hP1 hD1
  rw [st_LW] at hP hD
  generalize H1 = H at hP hS ⊢
  refine lv_aload_n hx hb dL_law_1556 rfl (lv_at hl 2 rfl) ?_
  refine lv_bipush (v := (6 : Int32)) hx hb dL_law_1557 (by decide) ?_
  refine lv_iload hx hb dL_law_1559 (lv_at hl 9 rfl) ?_
  refine lv_iadd hx hb dL_law_1561 ?_
  obtain ⟨hin1, h⟩ := ck_some h
  refine va_iald hx hb hK hP 38 0 wLW_38 rfl hin1 dL_law_1562 ?_
  refine lv_ishr hx hb dL_law_1563 ?_
  refine lv_iconst (v := (1 : Int32)) hx hb dL_law_1564 (by decide) ?_
  refine lv_iand hx hb dL_law_1565 ?_
  refine lv_iconst (v := (1 : Int32)) hx hb dL_law_1566 (by decide) ?_
  refine lv_icmp_ne (tgt := 1610) hx hb dL_law_1567 (by decide) (fun c1567 => ?_) (fun c1567 => ?_)
  · have h := br_0 h c1567
    refine lv_iconst (v := (0 : Int32)) hx hb dL_law_1610 (by decide) ?_
    exact absurd (Option.some.inj h) (by decide)
  · have h := br_1 h c1567
    refine lv_aload_n hx hb dL_law_1570 rfl (lv_at hl 1 rfl) ?_
    refine lv_iload hx hb dL_law_1571 (lv_at hl 9 rfl) ?_
    refine lv_iconst (v := (5 : Int32)) hx hb dL_law_1573 (by decide) ?_
    obtain ⟨r1574, w1574_fc, w1574_lf, hc, h⟩ := bd3_some h
    have hPc : va_P D vwCl (wPW T ad (ad 6) (ad 12) rs rm ts tm rdue rtun rsee rbeg psize pclause peff pkin pgri psig psee qsize qclause qeff qkin qgri qsig qsee cdee cnow cahe kdee know kahe w1553_fc w1553_lf told up lo) _ := my_subP sb_wLW_wPW_0to37 hP
    have hDc := hD.sub [0, 1, 2, 3, 4, 5, 6, 7, 8, 9, 10, 11, 12, 13, 14, 15, 16, 17, 18, 19, 20, 21, 22, 23, 24, 25, 26, 27, 28, 29, 30, 31, 32, 33, 34, 35, 36, 37] nd_LW sb_wLW_wPW_0to37
    have hFc := va_free hD hS hA [0, 1, 2, 3, 4, 5, 6, 7, 8, 9, 10, 11, 12, 13, 14, 15, 16, 17, 18, 19, 20, 21, 22, 23, 24, 25, 26, 27, 28, 29, 30, 31, 32, 33, 34, 35, 36, 37] sb_wLW_wPW_0to37
    refine my_rwi (va_runV (As := [.int x22, .int (5 : Int32)]) (rest := []) hFix (kX5_came l D T F ad rs rm ts tm rdue rtun rsee rbeg psize pclause peff pkin pgri psig psee qsize qclause qeff qkin qgri qsig qsee cdee cnow cahe kdee know kahe w1553_fc w1553_lf told up lo x22 (5 : Int32) r1574 w1574_fc w1574_lf hc _) (cwV 2 hts gL_law_X5_came rfl rfl rfl ⟨rfl, hd_X5_came⟩ ⟨Nat.le_of_ble_eq_true rfl, Nat.le_of_ble_eq_true rfl⟩) (preV_rw hPc hKK hDc (va_recv hK hP (ci := 3) (q0 := 0) rfl wLW_0)) rfl rfl hl.1 rfl (lv_room (Nat.le_of_ble_eq_true rfl)) dL_law_1574 ⟨Nat.le_of_ble_eq_true rfl, Nat.le_of_ble_eq_true rfl⟩) hS hFc (fun H1 locs hP1 hD1 hz1 hkk hS => ?_)
    obtain ⟨hP, hD⟩ := my_joinS hP hD nd_LW sb_wLW_wPW_0to37 (by rfl) hkk hFc hP1 hD1
    rw [st_LW] at hP hD
    generalize H1 = H at hP hS ⊢
    refine lv_iload hx hb dL_law_1577 (lv_at hl 10 rfl) ?_
    refine lv_ishr hx hb dL_law_1579 ?_
    refine lv_iconst (v := (1 : Int32)) hx hb dL_law_1580 (by decide) ?_
    refine lv_iand hx hb dL_law_1581 ?_
    refine lv_iconst (v := (1 : Int32)) hx hb dL_law_1582 (by decide) ?_
    refine lv_icmp_ne (tgt := 1610) hx hb dL_law_1583 (by decide) (fun c1583 => ?_) (fun c1583 => ?_)
    · have h := br_0 h c1583
      refine lv_iconst (v := (0 : Int32)) hx hb dL_law_1610 (by decide) ?_
      exact absurd (Option.some.inj h) (by decide)
    · have h := br_1 h c1583
      refine lv_aload_n hx hb dL_law_1586 rfl (lv_at hl 1 rfl) ?_
      refine lv_iload hx hb dL_law_1587 (lv_at hl 9 rfl) ?_
      refine lv_iconst (v := (5 : Int32)) hx hb dL_law_1589 (by decide) ?_
      obtain ⟨r1590, w1590_fc, w1590_lf, hc, h⟩ := bd3_some h
      have hPc : va_P D vwCl (wPW T ad (ad 6) (ad 12) rs rm ts tm rdue rtun rsee rbeg psize pclause peff pkin pgri psig psee qsize qclause qeff qkin qgri qsig qsee cdee cnow cahe kdee know kahe w1574_fc w1574_lf told up lo) _ := my_subP sb_wLW_wPW_0to37 hP
      have hDc := hD.sub [0, 1, 2, 3, 4, 5, 6, 7, 8, 9, 10, 11, 12, 13, 14, 15, 16, 17, 18, 19, 20, 21, 22, 23, 24, 25, 26, 27, 28, 29, 30, 31, 32, 33, 34, 35, 36, 37] nd_LW sb_wLW_wPW_0to37
      have hFc := va_free hD hS hA [0, 1, 2, 3, 4, 5, 6, 7, 8, 9, 10, 11, 12, 13, 14, 15, 16, 17, 18, 19, 20, 21, 22, 23, 24, 25, 26, 27, 28, 29, 30, 31, 32, 33, 34, 35, 36, 37] sb_wLW_wPW_0to37
      refine my_rwi (va_runV (As := [.int x22, .int (5 : Int32)]) (rest := []) hFix (kX5_kinds l D T F ad rs rm ts tm rdue rtun rsee rbeg psize pclause peff pkin pgri psig psee qsize qclause qeff qkin qgri qsig qsee cdee cnow cahe kdee know kahe w1574_fc w1574_lf told up lo x22 (5 : Int32) r1590 w1590_fc w1590_lf hc _) (cwV 2 hts gL_law_X5_kinds rfl rfl rfl ⟨rfl, hd_X5_kinds⟩ ⟨Nat.le_of_ble_eq_true rfl, Nat.le_of_ble_eq_true rfl⟩) (preV_rw hPc hKK hDc (va_recv hK hP (ci := 3) (q0 := 0) rfl wLW_0)) rfl rfl hl.1 rfl (lv_room (Nat.le_of_ble_eq_true rfl)) dL_law_1590 ⟨Nat.le_of_ble_eq_true rfl, Nat.le_of_ble_eq_true rfl⟩) hS hFc (fun H1 locs hP1 hD1 hz1 hkk hS => ?_)
      obtain ⟨hP, hD⟩ := my_joinS hP hD nd_LW sb_wLW_wPW_0to37 (by rfl) hkk hFc hP1 hD1
      rw [st_LW] at hP hD
      generalize H1 = H at hP hS ⊢
      refine lv_bipush (v := (63 : Int32)) hx hb dL_law_1593 (by decide) ?_
      refine lv_icmp_gt (tgt := 1610) hx hb dL_law_1595 (by decide) (fun c1595 => ?_) (fun c1595 => ?_)
      · have h := br_1 h c1595
        refine lv_iconst (v := (0 : Int32)) hx hb dL_law_1610 (by decide) ?_
        exact absurd (Option.some.inj h) (by decide)
      · have h := br_0 h c1595
        refine lv_aload_n hx hb dL_law_1598 rfl (lv_at hl 1 rfl) ?_
        refine lv_iload hx hb dL_law_1599 (lv_at hl 9 rfl) ?_
        refine lv_iconst (v := (5 : Int32)) hx hb dL_law_1601 (by decide) ?_
        obtain ⟨r1602, w1602_fc, w1602_lf, hc, h⟩ := bd3_some h
        have hPc : va_P D vwCl (wPW T ad (ad 6) (ad 12) rs rm ts tm rdue rtun rsee rbeg psize pclause peff pkin pgri psig psee qsize qclause qeff qkin qgri qsig qsee cdee cnow cahe kdee know kahe w1590_fc w1590_lf told up lo) _ := my_subP sb_wLW_wPW_0to37 hP
        have hDc := hD.sub [0, 1, 2, 3, 4, 5, 6, 7, 8, 9, 10, 11, 12, 13, 14, 15, 16, 17, 18, 19, 20, 21, 22, 23, 24, 25, 26, 27, 28, 29, 30, 31, 32, 33, 34, 35, 36, 37] nd_LW sb_wLW_wPW_0to37
        have hFc := va_free hD hS hA [0, 1, 2, 3, 4, 5, 6, 7, 8, 9, 10, 11, 12, 13, 14, 15, 16, 17, 18, 19, 20, 21, 22, 23, 24, 25, 26, 27, 28, 29, 30, 31, 32, 33, 34, 35, 36, 37] sb_wLW_wPW_0to37
        refine my_rwi (va_runV (As := [.int x22, .int (5 : Int32)]) (rest := []) hFix (kX5_came l D T F ad rs rm ts tm rdue rtun rsee rbeg psize pclause peff pkin pgri psig psee qsize qclause qeff qkin qgri qsig qsee cdee cnow cahe kdee know kahe w1590_fc w1590_lf told up lo x22 (5 : Int32) r1602 w1602_fc w1602_lf hc _) (cwV 2 hts gL_law_X5_came rfl rfl rfl ⟨rfl, hd_X5_came⟩ ⟨Nat.le_of_ble_eq_true rfl, Nat.le_of_ble_eq_true rfl⟩) (preV_rw hPc hKK hDc (va_recv hK hP (ci := 3) (q0 := 0) rfl wLW_0)) rfl rfl hl.1 rfl (lv_room (Nat.le_of_ble_eq_true rfl)) dL_law_1602 ⟨Nat.le_of_ble_eq_true rfl, Nat.le_of_ble_eq_true rfl⟩) hS hFc (fun H1 locs hP1 hD1 hz1 hkk hS => ?_)
        obtain ⟨hP, hD⟩ := my_joinS hP hD nd_LW sb_wLW_wPW_0to37 (by rfl) hkk hFc hP1 hD1
        rw [st_LW] at hP hD
        generalize H1 = H at hP hS ⊢
        refine lv_ldc (v := (2097152 : Int32)) hx hb hown q5 dL_law_1605 ?_
        refine lv_icmp_lt (tgt := 1612) hx hb dL_law_1607 (by decide) (fun c1607 => ?_) (fun c1607 => ?_)
        · have h := br_1 h c1607
          exact LN_law_n1612 F x4 x5 x7 x8 x9 rs rm ts tm rdue rtun rsee rbeg psize pclause peff pkin pgri psig psee qsize qclause qeff qkin qgri qsig qsee cdee cnow cahe kdee know kahe w1602_fc w1602_lf told up lo zz tt C0 hret h ad _ _ ho hP hD hS _ (lv_sub hl [0, 1, 2, 3, 4, 5, 6, 7, 8] rfl)
        · have h := br_0 h c1607
          refine lv_iconst (v := (0 : Int32)) hx hb dL_law_1610 (by decide) ?_
          exact absurd (Option.some.inj h) (by decide)
set_option maxHeartbeats 4000000 in
set_option maxRecDepth 100000 in
theorem LN_law_l1463 {p : Program} {l : Launch} {e : Env} {s : State} {m : MethodId} {args : Array Value} {below : List Frame} {meth : Method} {c : Code} {Q : State → Prop} {D : va_G} {T : Nat → ClassId} {b L : Nat} {xs : Nat → Int32} {A : Nat → Prop} {o0 za ta : Nat} (F : Nat) (x4 : Int32) (x5 : Int32) (x7 : Int32) (x8 : Int32) (x9 : Int32) (x22 : Int32) (x23 : Int32) (x24 : Int32) (rs : Nat → Int32) (ts : Nat → Int32) (tm : Nat → Nat → Int32) (rdue : Int32) (rtun : Int32) (rsee : Int32) (rbeg : Int32) (psize : Int32) (pclause : Int32) (peff : Nat → Int32) (pkin : Nat → Int32) (pgri : Nat → Int32) (psig : Nat → Int32) (psee : Nat → Int32) (qsize : Int32) (qclause : Int32) (qeff : Nat → Int32) (qkin : Nat → Int32) (qgri : Nat → Int32) (qsig : Nat → Int32) (qsee : Nat → Int32) (cdee : Int32) (cnow : Int64) (cahe : Nat → Int64) (kdee : Nat → Int32) (know : Nat → Int64) (kahe : Nat → Nat → Int64) (up : Int64) (lo : Int64) (zz : Nat → Int32) (tt : Nat → Int32) (C0 : SC_law p s m args c D T b L xs A) (hret : HR_law p l e s m args below meth c Q A) : ∀ (nu : Nat) (x25 : Int32) (x26 : Int32) (rm : Nat → Nat → Int32) (fc : Nat → Int32) (lf : Int32) (told : Int32), fL_law_l1463 F L xs x4 x5 x7 x8 x9 x22 x23 x24 rs ts tm rdue rtun rsee rbeg psize pclause peff pkin pgri psig psee qsize qclause qeff qkin qgri qsig qsee cdee cnow cahe kdee know kahe up lo zz tt nu x25 x26 rm fc lf told = some (1 : Int32) → ∀ (ad : Nat → Nat) (H : Heap) (locs : List Loc), ad 0 = o0 → va_P D vwCl (wLW T ad (ad 6) (ad 12) za ta rs rm ts tm rdue rtun rsee rbeg psize pclause peff pkin pgri psig psee qsize qclause qeff qkin qgri qsig qsee cdee cnow cahe kdee know kahe fc lf told up lo zz tt) H → va_D A (wLW T ad (ad 6) (ad 12) za ta rs rm ts tm rdue rtun rsee rbeg psize pclause peff pkin pgri psig psee qsize qclause qeff qkin qgri qsig qsee cdee cnow cahe kdee know kahe fc lf told up lo zz tt) → va_S A s.heap H locs → ∀ (ls : Array Slot), lv_has ls 31 [(0, .ref b), (1, .ref (ad 0)), (2, .ref za), (3, .ref ta), (4, .int x4), (5, .int x5), (7, .int x7), (8, .int x8), (9, .int x9), (22, .int x22), (23, .int x23), (24, .int x24), (25, .int x25), (26, .int x26)] → W p l e room_1 s m args below meth c H locs 40 874 Q (F0 m 1463 ls []) := by
  intro nu
  induction nu with
  | zero => intro x25 x26 rm fc lf told h; exact none_some h
  | succ nu ih1463 =>
    intro x25 x26 rm fc lf told h ad H locs ho hP hD hS ls hl
    obtain ⟨hFix, hKK, hA, hX, hbl, hbA⟩ := id C0
    obtain ⟨hx, hb, hml, hown, hts⟩ := id hFix
    have hK := hKK.1
    have h : fL_law_l1463_b F L xs x4 x5 x7 x8 x9 x22 x23 x24 rs ts tm rdue rtun rsee rbeg psize pclause peff pkin pgri psig psee qsize qclause qeff qkin qgri qsig qsee cdee cnow cahe kdee know kahe up lo zz tt (fL_law_l1463 F L xs x4 x5 x7 x8 x9 x22 x23 x24 rs ts tm rdue rtun rsee rbeg psize pclause peff pkin pgri psig psee qsize qclause qeff qkin qgri qsig qsee cdee cnow cahe kdee know kahe up lo zz tt nu) x25 x26 rm fc lf told = some (1 : Int32) := h
    unfold fL_law_l1463_b at h
    refine lv_iload hx hb dL_law_1463 (lv_at hl 13 rfl) ?_
    refine lv_iload hx hb dL_law_1465 (lv_at hl 11 rfl) ?_
    refine lv_icmp_ge (tgt := 1549) hx hb dL_law_1467 (by decide) (fun c1467 => ?_) (fun c1467 => ?_)
    · have h := br_1 h c1467
      exact LN_law_n1549 F x4 x5 x7 x8 x9 x22 x23 rs rm ts tm rdue rtun rsee rbeg psize pclause peff pkin pgri psig psee qsize qclause qeff qkin qgri qsig qsee cdee cnow cahe kdee know kahe fc lf told up lo zz tt C0 hret h ad _ _ ho hP hD hS _ (lv_sub hl [0, 1, 2, 3, 4, 5, 6, 7, 8, 9, 10] rfl)
    · have h := br_0 h c1467
      refine lv_aload_n hx hb dL_law_1470 rfl (lv_at hl 0 rfl) ?_
      refine lv_bipush (v := (42 : Int32)) hx hb dL_law_1471 (by decide) ?_
      obtain ⟨r1473, hc, h⟩ := bd1_some h
      refine my_roi (va_Run.run (va_runS (As := [.ref b, .int (42 : Int32)]) (rest := []) hFix (kL_cell l D T F b L xs (42 : Int32) r1473 hc) (va_cwS 2 hts gL_law_L_cell rfl rfl rfl hd_L_cell ⟨Nat.le_of_ble_eq_true rfl, Nat.le_of_ble_eq_true rfl⟩) (preS_x (hX.kept (hS.2.1 b hbl hbA)) hKK) rfl rfl hl.1 rfl (lv_room (Nat.le_of_ble_eq_true rfl)) dL_law_1473 ⟨Nat.le_of_ble_eq_true rfl, Nat.le_of_ble_eq_true rfl⟩)) ?_
      refine lv_iconst (v := (2 : Int32)) hx hb dL_law_1476 (by decide) ?_
      refine lv_iload hx hb dL_law_1477 (lv_at hl 13 rfl) ?_
      refine lv_imul hx hb dL_law_1479 ?_
      refine lv_ishr hx hb dL_law_1480 ?_
      refine lv_iconst (v := (4 : Int32)) hx hb dL_law_1481 (by decide) ?_
      obtain ⟨r1482, hc, h⟩ := bd1_some h
      refine my_roi (va_Run.run (va_runS (As := [.int (r1473 >>> (((2 : Int32) * x26) &&& 31)), .int (4 : Int32)]) (rest := []) hFix (kL_part l D T F (r1473 >>> (((2 : Int32) * x26) &&& 31)) (4 : Int32) r1482 hc) (va_cwS 2 hts gL_law_L_part rfl rfl rfl hd_L_part ⟨Nat.le_of_ble_eq_true rfl, Nat.le_of_ble_eq_true rfl⟩) (preS_ro va_nil hKK) rfl rfl hl.1 rfl (lv_room (Nat.le_of_ble_eq_true rfl)) dL_law_1482 ⟨Nat.le_of_ble_eq_true rfl, Nat.le_of_ble_eq_true rfl⟩)) ?_
      refine lv_istore (lv' := [(27, .int r1482), (0, .ref b), (1, .ref (ad 0)), (2, .ref za), (3, .ref ta), (4, .int x4), (5, .int x5), (7, .int x7), (8, .int x8), (9, .int x9), (22, .int x22), (23, .int x23), (24, .int x24), (25, .int x25), (26, .int x26)]) hx hb dL_law_1485 hl (by decide) rfl (fun ls hl => ?_)
      refine lv_aload_n hx hb dL_law_1487 rfl (lv_at hl 3 rfl) ?_
      refine lv_bipush (v := (6 : Int32)) hx hb dL_law_1488 (by decide) ?_
      refine lv_iload hx hb dL_law_1490 (lv_at hl 10 rfl) ?_
      refine lv_iadd hx hb dL_law_1492 ?_
      obtain ⟨hin1, h⟩ := ck_some h
      refine va_iald hx hb hK hP 38 0 wLW_38 rfl hin1 dL_law_1493 ?_
      refine lv_iload hx hb dL_law_1494 (lv_at hl 13 rfl) ?_
      refine lv_iload hx hb dL_law_1496 (lv_at hl 0 rfl) ?_
      refine lv_aload_n hx hb dL_law_1498 rfl (lv_at hl 3 rfl) ?_
      refine lv_iconst (v := (2 : Int32)) hx hb dL_law_1499 (by decide) ?_
      refine lv_iload hx hb dL_law_1500 (lv_at hl 0 rfl) ?_
      refine lv_iadd hx hb dL_law_1502 ?_
      obtain ⟨hin2, h⟩ := ck_some h
      refine va_iald hx hb hK hP 38 0 wLW_38 rfl hin2 dL_law_1503 ?_
      obtain ⟨r1504, hc, h⟩ := bd1_some h
      refine my_roi (va_Run.run (va_runS (As := [.int (zz ((6 : Int32) + x22).toNatClampNeg), .int x25, .int r1482, .int (zz ((2 : Int32) + r1482).toNatClampNeg)]) (rest := []) hFix (kL_behind l D T F (zz ((6 : Int32) + x22).toNatClampNeg) x25 r1482 (zz ((2 : Int32) + r1482).toNatClampNeg) r1504 hc) (va_cwS 4 hts gL_law_L_behind rfl rfl rfl hd_L_behind ⟨Nat.le_of_ble_eq_true rfl, Nat.le_of_ble_eq_true rfl⟩) (preS_ro va_nil hKK) rfl rfl hl.1 rfl (lv_room (Nat.le_of_ble_eq_true rfl)) dL_law_1504 ⟨Nat.le_of_ble_eq_true rfl, Nat.le_of_ble_eq_true rfl⟩)) ?_
      refine lv_istore (lv' := [(25, .int r1504), (27, .int r1482), (0, .ref b), (1, .ref (ad 0)), (2, .ref za), (3, .ref ta), (4, .int x4), (5, .int x5), (7, .int x7), (8, .int x8), (9, .int x9), (22, .int x22), (23, .int x23), (24, .int x24), (26, .int x26)]) hx hb dL_law_1507 hl (by decide) rfl (fun ls hl => ?_)
      refine lv_aload_n hx hb dL_law_1509 rfl (lv_at hl 3 rfl) ?_
      refine lv_iconst (v := (5 : Int32)) hx hb dL_law_1510 (by decide) ?_
      refine lv_iconst (v := (2 : Int32)) hx hb dL_law_1511 (by decide) ?_
      refine lv_iload hx hb dL_law_1512 (lv_at hl 14 rfl) ?_
      refine lv_imul hx hb dL_law_1514 ?_
      refine lv_iload hx hb dL_law_1515 (lv_at hl 1 rfl) ?_
      obtain ⟨r1517, w1517_rm, w1517_fc, w1517_lf, w1517_told, hc, h⟩ := bd5_some h
      have hPc : va_P D vwCl (wPW T ad (ad 6) (ad 12) rs rm ts tm rdue rtun rsee rbeg psize pclause peff pkin pgri psig psee qsize qclause qeff qkin qgri qsig qsee cdee cnow cahe kdee know kahe fc lf told up lo) _ := my_subP sb_wLW_wPW_0to37 hP
      have hDc := hD.sub [0, 1, 2, 3, 4, 5, 6, 7, 8, 9, 10, 11, 12, 13, 14, 15, 16, 17, 18, 19, 20, 21, 22, 23, 24, 25, 26, 27, 28, 29, 30, 31, 32, 33, 34, 35, 36, 37] nd_LW sb_wLW_wPW_0to37
      have hFc := va_free hD hS hA [0, 1, 2, 3, 4, 5, 6, 7, 8, 9, 10, 11, 12, 13, 14, 15, 16, 17, 18, 19, 20, 21, 22, 23, 24, 25, 26, 27, 28, 29, 30, 31, 32, 33, 34, 35, 36, 37] sb_wLW_wPW_0to37
      refine my_rwi (va_runV (As := [.int (5 : Int32), .int ((2 : Int32) * x26), .int r1482]) (rest := []) hFix (kX5_lay l D T F ad rs rm ts tm rdue rtun rsee rbeg psize pclause peff pkin pgri psig psee qsize qclause qeff qkin qgri qsig qsee cdee cnow cahe kdee know kahe fc lf told up lo (5 : Int32) ((2 : Int32) * x26) r1482 r1517 w1517_rm w1517_fc w1517_lf w1517_told hc _) (cwV 3 hts gL_law_X5_lay rfl rfl rfl ⟨rfl, hd_X5_lay⟩ ⟨Nat.le_of_ble_eq_true rfl, Nat.le_of_ble_eq_true rfl⟩) (preV_rw hPc hKK hDc (va_recv hK hP (ci := 3) (q0 := 0) rfl wLW_0)) rfl rfl hl.1 rfl (lv_room (Nat.le_of_ble_eq_true rfl)) dL_law_1517 ⟨Nat.le_of_ble_eq_true rfl, Nat.le_of_ble_eq_true rfl⟩) hS hFc (fun H1 locs hP1 hD1 hz1 hkk hS => ?_)
      obtain ⟨hP, hD⟩ := my_joinS hP hD nd_LW sb_wLW_wPW_0to37 (by rfl) hkk hFc hP1 hD1
      rw [st_LW] at hP hD
      generalize H1 = H at hP hS ⊢
      refine lv_iconst (v := (1 : Int32)) hx hb dL_law_1520 (by decide) ?_
      refine lv_icmp_ne (tgt := 1541) hx hb dL_law_1521 (by decide) (fun c1521 => ?_) (fun c1521 => ?_)
      · have h := br_0 h c1521
        refine lv_iconst (v := (0 : Int32)) hx hb dL_law_1541 (by decide) ?_
        exact absurd (Option.some.inj h) (by decide)
      · have h := br_1 h c1521
        refine lv_aload_n hx hb dL_law_1524 rfl (lv_at hl 3 rfl) ?_
        refine lv_iconst (v := (5 : Int32)) hx hb dL_law_1525 (by decide) ?_
        refine lv_iconst (v := (2 : Int32)) hx hb dL_law_1526 (by decide) ?_
        refine lv_iload hx hb dL_law_1527 (lv_at hl 14 rfl) ?_
        refine lv_imul hx hb dL_law_1529 ?_
        refine lv_iconst (v := (1 : Int32)) hx hb dL_law_1530 (by decide) ?_
        refine lv_iadd hx hb dL_law_1531 ?_
        refine lv_iload hx hb dL_law_1532 (lv_at hl 0 rfl) ?_
        obtain ⟨r1534, w1534_rm, w1534_fc, w1534_lf, w1534_told, hc, h⟩ := bd5_some h
        have hPc : va_P D vwCl (wPW T ad (ad 6) (ad 12) rs w1517_rm ts tm rdue rtun rsee rbeg psize pclause peff pkin pgri psig psee qsize qclause qeff qkin qgri qsig qsee cdee cnow cahe kdee know kahe w1517_fc w1517_lf w1517_told up lo) _ := my_subP sb_wLW_wPW_0to37 hP
        have hDc := hD.sub [0, 1, 2, 3, 4, 5, 6, 7, 8, 9, 10, 11, 12, 13, 14, 15, 16, 17, 18, 19, 20, 21, 22, 23, 24, 25, 26, 27, 28, 29, 30, 31, 32, 33, 34, 35, 36, 37] nd_LW sb_wLW_wPW_0to37
        have hFc := va_free hD hS hA [0, 1, 2, 3, 4, 5, 6, 7, 8, 9, 10, 11, 12, 13, 14, 15, 16, 17, 18, 19, 20, 21, 22, 23, 24, 25, 26, 27, 28, 29, 30, 31, 32, 33, 34, 35, 36, 37] sb_wLW_wPW_0to37
        refine my_rwi (va_runV (As := [.int (5 : Int32), .int (((2 : Int32) * x26) + (1 : Int32)), .int r1504]) (rest := []) hFix (kX5_lay l D T F ad rs w1517_rm ts tm rdue rtun rsee rbeg psize pclause peff pkin pgri psig psee qsize qclause qeff qkin qgri qsig qsee cdee cnow cahe kdee know kahe w1517_fc w1517_lf w1517_told up lo (5 : Int32) (((2 : Int32) * x26) + (1 : Int32)) r1504 r1534 w1534_rm w1534_fc w1534_lf w1534_told hc _) (cwV 3 hts gL_law_X5_lay rfl rfl rfl ⟨rfl, hd_X5_lay⟩ ⟨Nat.le_of_ble_eq_true rfl, Nat.le_of_ble_eq_true rfl⟩) (preV_rw hPc hKK hDc (va_recv hK hP (ci := 3) (q0 := 0) rfl wLW_0)) rfl rfl hl.1 rfl (lv_room (Nat.le_of_ble_eq_true rfl)) dL_law_1534 ⟨Nat.le_of_ble_eq_true rfl, Nat.le_of_ble_eq_true rfl⟩) hS hFc (fun H1 locs hP1 hD1 hz1 hkk hS => ?_)
        obtain ⟨hP, hD⟩ := my_joinS hP hD nd_LW sb_wLW_wPW_0to37 (by rfl) hkk hFc hP1 hD1
        rw [st_LW] at hP hD
        generalize H1 = H at hP hS ⊢
        refine lv_iconst (v := (1 : Int32)) hx hb dL_law_1537 (by decide) ?_
        refine lv_icmp_eq (tgt := 1543) hx hb dL_law_1538 (by decide) (fun c1538 => ?_) (fun c1538 => ?_)
        · have h := br_1 h c1538
          refine lv_iinc (v := (x26 + (1 : Int32))) (lv' := [(26, .int (x26 + (1 : Int32))), (25, .int r1504), (27, .int r1482), (0, .ref b), (1, .ref (ad 0)), (2, .ref za), (3, .ref ta), (4, .int x4), (5, .int x5), (7, .int x7), (8, .int x8), (9, .int x9), (22, .int x22), (23, .int x23), (24, .int x24)]) hx hb dL_law_1543 hl (k := 14) rfl rfl (by decide) rfl (fun ls hl => ?_)
          refine lv_goto (tgt := 1463) hx hb dL_law_1546 (by decide) ?_
          exact ih1463 r1504 (x26 + (1 : Int32)) w1534_rm w1534_fc w1534_lf w1534_told h ad _ _ ho hP hD hS _ (lv_sub hl [3, 4, 5, 6, 7, 8, 9, 10, 11, 12, 13, 14, 1, 0] rfl)
        · have h := br_0 h c1538
          refine lv_iconst (v := (0 : Int32)) hx hb dL_law_1541 (by decide) ?_
          exact absurd (Option.some.inj h) (by decide)
set_option maxHeartbeats 4000000 in
set_option maxRecDepth 100000 in
theorem LN_law_n1456 {p : Program} {l : Launch} {e : Env} {s : State} {m : MethodId} {args : Array Value} {below : List Frame} {meth : Method} {c : Code} {Q : State → Prop} {D : va_G} {T : Nat → ClassId} {b L : Nat} {xs : Nat → Int32} {A : Nat → Prop} {o0 za ta : Nat} (F : Nat) (x4 : Int32) (x5 : Int32) (x7 : Int32) (x8 : Int32) (x9 : Int32) (x22 : Int32) (x23 : Int32) (x24 : Int32) (rs : Nat → Int32) (rm : Nat → Nat → Int32) (ts : Nat → Int32) (tm : Nat → Nat → Int32) (rdue : Int32) (rtun : Int32) (rsee : Int32) (rbeg : Int32) (psize : Int32) (pclause : Int32) (peff : Nat → Int32) (pkin : Nat → Int32) (pgri : Nat → Int32) (psig : Nat → Int32) (psee : Nat → Int32) (qsize : Int32) (qclause : Int32) (qeff : Nat → Int32) (qkin : Nat → Int32) (qgri : Nat → Int32) (qsig : Nat → Int32) (qsee : Nat → Int32) (cdee : Int32) (cnow : Int64) (cahe : Nat → Int64) (kdee : Nat → Int32) (know : Nat → Int64) (kahe : Nat → Nat → Int64) (fc : Nat → Int32) (lf : Int32) (told : Int32) (up : Int64) (lo : Int64) (zz : Nat → Int32) (tt : Nat → Int32) (C0 : SC_law p s m args c D T b L xs A) (hret : HR_law p l e s m args below meth c Q A) (h : fL_law_n1456 F L xs x4 x5 x7 x8 x9 x22 x23 x24 rs rm ts tm rdue rtun rsee rbeg psize pclause peff pkin pgri psig psee qsize qclause qeff qkin qgri qsig qsee cdee cnow cahe kdee know kahe fc lf told up lo zz tt = some (1 : Int32)) : ∀ (ad : Nat → Nat) (H : Heap) (locs : List Loc), ad 0 = o0 → va_P D vwCl (wLW T ad (ad 6) (ad 12) za ta rs rm ts tm rdue rtun rsee rbeg psize pclause peff pkin pgri psig psee qsize qclause qeff qkin qgri qsig qsee cdee cnow cahe kdee know kahe fc lf told up lo zz tt) H → va_D A (wLW T ad (ad 6) (ad 12) za ta rs rm ts tm rdue rtun rsee rbeg psize pclause peff pkin pgri psig psee qsize qclause qeff qkin qgri qsig qsee cdee cnow cahe kdee know kahe fc lf told up lo zz tt) → va_S A s.heap H locs → ∀ (ls : Array Slot), lv_has ls 31 [(0, .ref b), (1, .ref (ad 0)), (2, .ref za), (3, .ref ta), (4, .int x4), (5, .int x5), (7, .int x7), (8, .int x8), (9, .int x9), (22, .int x22), (23, .int x23), (24, .int x24)] → W p l e room_1 s m args below meth c H locs 40 874 Q (F0 m 1456 ls []) := by
  intro ad H locs ho hP hD hS ls hl
  obtain ⟨hFix, hKK, hA, hX, hbl, hbA⟩ := id C0
  obtain ⟨hx, hb, hml, hown, hts⟩ := id hFix
  have hK := hKK.1
  unfold fL_law_n1456 at h
  refine lv_iload hx hb dL_law_1456 (lv_at hl 10 rfl) ?_
  refine lv_istore (lv' := [(25, .int x23), (0, .ref b), (1, .ref (ad 0)), (2, .ref za), (3, .ref ta), (4, .int x4), (5, .int x5), (7, .int x7), (8, .int x8), (9, .int x9), (22, .int x22), (23, .int x23), (24, .int x24)]) hx hb dL_law_1458 hl (by decide) rfl (fun ls hl => ?_)
  refine lv_iconst (v := (0 : Int32)) hx hb dL_law_1460 (by decide) ?_
  refine lv_istore (lv' := [(26, .int (0 : Int32)), (25, .int x23), (0, .ref b), (1, .ref (ad 0)), (2, .ref za), (3, .ref ta), (4, .int x4), (5, .int x5), (7, .int x7), (8, .int x8), (9, .int x9), (22, .int x22), (23, .int x23), (24, .int x24)]) hx hb dL_law_1461 hl (by decide) rfl (fun ls hl => ?_)
  exact LN_law_l1463 F x4 x5 x7 x8 x9 x22 x23 x24 rs ts tm rdue rtun rsee rbeg psize pclause peff pkin pgri psig psee qsize qclause qeff qkin qgri qsig qsee cdee cnow cahe kdee know kahe up lo zz tt C0 hret F x23 (0 : Int32) rm fc lf told h ad _ _ ho hP hD hS _ (lv_sub hl [2, 3, 4, 5, 6, 7, 8, 9, 10, 11, 12, 13, 1, 0] rfl)
set_option maxHeartbeats 4000000 in
set_option maxRecDepth 100000 in
theorem LN_law_n1417 {p : Program} {l : Launch} {e : Env} {s : State} {m : MethodId} {args : Array Value} {below : List Frame} {meth : Method} {c : Code} {Q : State → Prop} {D : va_G} {T : Nat → ClassId} {b L : Nat} {xs : Nat → Int32} {A : Nat → Prop} {o0 za ta : Nat} (F : Nat) (x4 : Int32) (x5 : Int32) (x7 : Int32) (x8 : Int32) (x9 : Int32) (x22 : Int32) (rs : Nat → Int32) (rm : Nat → Nat → Int32) (ts : Nat → Int32) (tm : Nat → Nat → Int32) (rdue : Int32) (rtun : Int32) (rsee : Int32) (rbeg : Int32) (psize : Int32) (pclause : Int32) (peff : Nat → Int32) (pkin : Nat → Int32) (pgri : Nat → Int32) (psig : Nat → Int32) (psee : Nat → Int32) (qsize : Int32) (qclause : Int32) (qeff : Nat → Int32) (qkin : Nat → Int32) (qgri : Nat → Int32) (qsig : Nat → Int32) (qsee : Nat → Int32) (cdee : Int32) (cnow : Int64) (cahe : Nat → Int64) (kdee : Nat → Int32) (know : Nat → Int64) (kahe : Nat → Nat → Int64) (fc : Nat → Int32) (lf : Int32) (told : Int32) (up : Int64) (lo : Int64) (zz : Nat → Int32) (tt : Nat → Int32) (C0 : SC_law p s m args c D T b L xs A) (hret : HR_law p l e s m args below meth c Q A) (h : fL_law_n1417 F L xs x4 x5 x7 x8 x9 x22 rs rm ts tm rdue rtun rsee rbeg psize pclause peff pkin pgri psig psee qsize qclause qeff qkin qgri qsig qsee cdee cnow cahe kdee know kahe fc lf told up lo zz tt = some (1 : Int32)) : ∀ (ad : Nat → Nat) (H : Heap) (locs : List Loc), ad 0 = o0 → va_P D vwCl (wLW T ad (ad 6) (ad 12) za ta rs rm ts tm rdue rtun rsee rbeg psize pclause peff pkin pgri psig psee qsize qclause qeff qkin qgri qsig qsee cdee cnow cahe kdee know kahe fc lf told up lo zz tt) H → va_D A (wLW T ad (ad 6) (ad 12) za ta rs rm ts tm rdue rtun rsee rbeg psize pclause peff pkin pgri psig psee qsize qclause qeff qkin qgri qsig qsee cdee cnow cahe kdee know kahe fc lf told up lo zz tt) → va_S A s.heap H locs → ∀ (ls : Array Slot), lv_has ls 31 [(0, .ref b), (1, .ref (ad 0)), (2, .ref za), (3, .ref ta), (4, .int x4), (5, .int x5), (7, .int x7), (8, .int x8), (9, .int x9), (22, .int x22)] → W p l e room_1 s m args below meth c H locs 40 874 Q (F0 m 1417 ls []) := by
  intro ad H locs ho hP hD hS ls hl
  obtain ⟨hFix, hKK, hA, hX, hbl, hbA⟩ := id C0
  obtain ⟨hx, hb, hml, hown, hts⟩ := id hFix
  have hK := hKK.1
  unfold fL_law_n1417 at h
  refine lv_aload_n hx hb dL_law_1417 rfl (lv_at hl 1 rfl) ?_
  obtain ⟨r1418, hc, h⟩ := bd1_some h
  have hPc : va_P D vwCl (wPW T ad (ad 6) (ad 12) rs rm ts tm rdue rtun rsee rbeg psize pclause peff pkin pgri psig psee qsize qclause qeff qkin qgri qsig qsee cdee cnow cahe kdee know kahe fc lf told up lo) _ := my_subP sb_wLW_wPW_0to37 hP
  refine my_roi (va_Run.run (va_runV (As := []) (rest := []) hFix (kX5_asked l D T F ad rs rm ts tm rdue rtun rsee rbeg psize pclause peff pkin pgri psig psee qsize qclause qeff qkin qgri qsig qsee cdee cnow cahe kdee know kahe fc lf told up lo r1418 hc) (cwV 0 hts gL_law_X5_asked rfl rfl rfl ⟨rfl, hd_X5_asked⟩ ⟨Nat.le_of_ble_eq_true rfl, Nat.le_of_ble_eq_true rfl⟩) (preV_ro hPc hKK (va_recv hK hP (ci := 3) (q0 := 0) rfl wLW_0)) rfl rfl hl.1 rfl (lv_room (Nat.le_of_ble_eq_true rfl)) dL_law_1418 ⟨Nat.le_of_ble_eq_true rfl, Nat.le_of_ble_eq_true rfl⟩)) ?_
  refine lv_istore (lv' := [(23, .int r1418), (0, .ref b), (1, .ref (ad 0)), (2, .ref za), (3, .ref ta), (4, .int x4), (5, .int x5), (7, .int x7), (8, .int x8), (9, .int x9), (22, .int x22)]) hx hb dL_law_1421 hl (by decide) rfl (fun ls hl => ?_)
  refine lv_iconst (v := (1 : Int32)) hx hb dL_law_1423 (by decide) ?_
  refine lv_aload_n hx hb dL_law_1424 rfl (lv_at hl 1 rfl) ?_
  refine lv_bipush (v := (41 : Int32)) hx hb dL_law_1425 (by decide) ?_
  obtain ⟨r1427, hc, h⟩ := bd1_some h
  refine my_roi (va_Run.run (va_runS (As := [.ref b, .int (41 : Int32)]) (rest := [.int (1 : Int32)]) hFix (kL_cell l D T F b L xs (41 : Int32) r1427 hc) (va_cwS 2 hts gL_law_L_cell rfl rfl rfl hd_L_cell ⟨Nat.le_of_ble_eq_true rfl, Nat.le_of_ble_eq_true rfl⟩) (preS_x (hX.kept (hS.2.1 b hbl hbA)) hKK) rfl rfl hl.1 rfl (lv_room (Nat.le_of_ble_eq_true rfl)) dL_law_1427 ⟨Nat.le_of_ble_eq_true rfl, Nat.le_of_ble_eq_true rfl⟩)) ?_
  refine lv_bipush (v := (8 : Int32)) hx hb dL_law_1430 (by decide) ?_
  obtain ⟨r1432, hc, h⟩ := bd1_some h
  refine my_roi (va_Run.run (va_runS (As := [.int r1427, .int (8 : Int32)]) (rest := [.int (1 : Int32)]) hFix (kL_part l D T F r1427 (8 : Int32) r1432 hc) (va_cwS 2 hts gL_law_L_part rfl rfl rfl hd_L_part ⟨Nat.le_of_ble_eq_true rfl, Nat.le_of_ble_eq_true rfl⟩) (preS_ro va_nil hKK) rfl rfl hl.1 rfl (lv_room (Nat.le_of_ble_eq_true rfl)) dL_law_1432 ⟨Nat.le_of_ble_eq_true rfl, Nat.le_of_ble_eq_true rfl⟩)) ?_
  refine lv_iadd hx hb dL_law_1435 ?_
  refine lv_istore (lv' := [(24, .int ((1 : Int32) + r1432)), (23, .int r1418), (0, .ref b), (1, .ref (ad 0)), (2, .ref za), (3, .ref ta), (4, .int x4), (5, .int x5), (7, .int x7), (8, .int x8), (9, .int x9), (22, .int x22)]) hx hb dL_law_1436 hl (by decide) rfl (fun ls hl => ?_)
  refine lv_aload_n hx hb dL_law_1438 rfl (lv_at hl 3 rfl) ?_
  refine lv_iconst (v := (5 : Int32)) hx hb dL_law_1439 (by decide) ?_
  refine lv_iconst (v := (2 : Int32)) hx hb dL_law_1440 (by decide) ?_
  refine lv_iload hx hb dL_law_1441 (lv_at hl 0 rfl) ?_
  refine lv_imul hx hb dL_law_1443 ?_
  obtain ⟨r1444, w1444_rs, w1444_rm, w1444_fc, w1444_lf, hc, h⟩ := bd5_some h
  have hPc : va_P D vwCl (wPW T ad (ad 6) (ad 12) rs rm ts tm rdue rtun rsee rbeg psize pclause peff pkin pgri psig psee qsize qclause qeff qkin qgri qsig qsee cdee cnow cahe kdee know kahe fc lf told up lo) _ := my_subP sb_wLW_wPW_0to37 hP
  have hDc := hD.sub [0, 1, 2, 3, 4, 5, 6, 7, 8, 9, 10, 11, 12, 13, 14, 15, 16, 17, 18, 19, 20, 21, 22, 23, 24, 25, 26, 27, 28, 29, 30, 31, 32, 33, 34, 35, 36, 37] nd_LW sb_wLW_wPW_0to37
  have hFc := va_free hD hS hA [0, 1, 2, 3, 4, 5, 6, 7, 8, 9, 10, 11, 12, 13, 14, 15, 16, 17, 18, 19, 20, 21, 22, 23, 24, 25, 26, 27, 28, 29, 30, 31, 32, 33, 34, 35, 36, 37] sb_wLW_wPW_0to37
  refine my_rwi (va_runV (As := [.int (5 : Int32), .int ((2 : Int32) * ((1 : Int32) + r1432))]) (rest := []) hFix (kX5_row l D T F ad rs rm ts tm rdue rtun rsee rbeg psize pclause peff pkin pgri psig psee qsize qclause qeff qkin qgri qsig qsee cdee cnow cahe kdee know kahe fc lf told up lo (5 : Int32) ((2 : Int32) * ((1 : Int32) + r1432)) r1444 w1444_rs w1444_rm w1444_fc w1444_lf hc _) (cwV 2 hts gL_law_X5_row rfl rfl rfl ⟨rfl, hd_X5_row⟩ ⟨Nat.le_of_ble_eq_true rfl, Nat.le_of_ble_eq_true rfl⟩) (preV_rw hPc hKK hDc (va_recv hK hP (ci := 3) (q0 := 0) rfl wLW_0)) rfl rfl hl.1 rfl (lv_room (Nat.le_of_ble_eq_true rfl)) dL_law_1444 ⟨Nat.le_of_ble_eq_true rfl, Nat.le_of_ble_eq_true rfl⟩) hS hFc (fun H1 locs hP1 hD1 hz1 hkk hS => ?_)
  obtain ⟨hP, hD⟩ := my_joinS hP hD nd_LW sb_wLW_wPW_0to37 (by rfl) hkk hFc hP1 hD1
  rw [st_LW] at hP hD
  generalize H1 = H at hP hS ⊢
  refine lv_iconst (v := (2 : Int32)) hx hb dL_law_1447 (by decide) ?_
  refine lv_iload hx hb dL_law_1448 (lv_at hl 0 rfl) ?_
  refine lv_imul hx hb dL_law_1450 ?_
  refine lv_icmp_eq (tgt := 1456) hx hb dL_law_1451 (by decide) (fun c1451 => ?_) (fun c1451 => ?_)
  · have h := br_1 h c1451
    exact LN_law_n1456 F x4 x5 x7 x8 x9 x22 r1418 ((1 : Int32) + r1432) w1444_rs w1444_rm ts tm rdue rtun rsee rbeg psize pclause peff pkin pgri psig psee qsize qclause qeff qkin qgri qsig qsee cdee cnow cahe kdee know kahe w1444_fc w1444_lf told up lo zz tt C0 hret h ad _ _ ho hP hD hS _ (lv_sub hl [2, 3, 4, 5, 6, 7, 8, 9, 10, 11, 1, 0] rfl)
  · have h := br_0 h c1451
    refine lv_iconst (v := (0 : Int32)) hx hb dL_law_1454 (by decide) ?_
    exact absurd (Option.some.inj h) (by decide)
