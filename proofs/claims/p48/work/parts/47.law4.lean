set_option maxHeartbeats 4000000 in
set_option maxRecDepth 100000 in
theorem LN_law_n1364 {p : Program} {l : Launch} {e : Env} {s : State} {m : MethodId} {args : Array Value} {below : List Frame} {meth : Method} {c : Code} {Q : State → Prop} {D : va_G} {T : Nat → ClassId} {b L : Nat} {xs : Nat → Int32} {A : Nat → Prop} {o0 za ta : Nat} (F : Nat) (x4 : Int32) (x5 : Int32) (x7 : Int32) (x8 : Int32) (x9 : Int32) (x22 : Int32) (rs : Nat → Int32) (rm : Nat → Nat → Int32) (ts : Nat → Int32) (tm : Nat → Nat → Int32) (rdue : Int32) (rtun : Int32) (rsee : Int32) (rbeg : Int32) (psize : Int32) (pclause : Int32) (peff : Nat → Int32) (pkin : Nat → Int32) (pgri : Nat → Int32) (psig : Nat → Int32) (psee : Nat → Int32) (qsize : Int32) (qclause : Int32) (qeff : Nat → Int32) (qkin : Nat → Int32) (qgri : Nat → Int32) (qsig : Nat → Int32) (qsee : Nat → Int32) (cdee : Int32) (cnow : Int64) (cahe : Nat → Int64) (kdee : Nat → Int32) (know : Nat → Int64) (kahe : Nat → Nat → Int64) (fc : Nat → Int32) (lf : Int32) (told : Int32) (up : Int64) (lo : Int64) (zz : Nat → Int32) (tt : Nat → Int32) (C0 : SC_law p s m args c D T b L xs A) (hret : HR_law p l e s m args below meth c Q A) (h : fL_law_n1364 F L xs x4 x5 x7 x8 x9 x22 rs rm ts tm rdue rtun rsee rbeg psize pclause peff pkin pgri psig psee qsize qclause qeff qkin qgri qsig qsee cdee cnow cahe kdee know kahe fc lf told up lo zz tt = some (1 : Int32)) : ∀ (ad : Nat → Nat) (H : Heap) (locs : List Loc), ad 0 = o0 → va_P D vwCl (wLW T ad (ad 6) (ad 12) za ta rs rm ts tm rdue rtun rsee rbeg psize pclause peff pkin pgri psig psee qsize qclause qeff qkin qgri qsig qsee cdee cnow cahe kdee know kahe fc lf told up lo zz tt) H → va_D A (wLW T ad (ad 6) (ad 12) za ta rs rm ts tm rdue rtun rsee rbeg psize pclause peff pkin pgri psig psee qsize qclause qeff qkin qgri qsig qsee cdee cnow cahe kdee know kahe fc lf told up lo zz tt) → va_S A s.heap H locs → ∀ (ls : Array Slot), lv_has ls 31 [(0, .ref b), (1, .ref (ad 0)), (2, .ref za), (3, .ref ta), (4, .int x4), (5, .int x5), (7, .int x7), (8, .int x8), (9, .int x9), (22, .int x22)] → W p l e room_1 s m args below meth c H locs 40 874 Q (F0 m 1364 ls []) := by
  intro ad H locs ho hP hD hS ls hl
  obtain ⟨hFix, hKK, hA, hX, hbl, hbA⟩ := id C0
  obtain ⟨hx, hb, hml, hown, hts⟩ := id hFix
  have hK := hKK.1
  have q4 := hts _ (List.mem_of_getElem? (i := 4) (show wsL_law[4]? = some (Cond.constant RL 158 (2097151)) from rfl))
  unfold fL_law_n1364 at h
  refine lv_aload_n hx hb dL_law_1364 rfl (lv_at hl 1 rfl) ?_
  obtain ⟨r1365, hc, h⟩ := bd1_some h
  have hPc : va_P D vwCl (wPW T ad (ad 6) (ad 12) rs rm ts tm rdue rtun rsee rbeg psize pclause peff pkin pgri psig psee qsize qclause qeff qkin qgri qsig qsee cdee cnow cahe kdee know kahe fc lf told up lo) _ := my_subP sb_wLW_wPW_0to37 hP
  refine my_roi (va_Run.run (va_runV (As := []) (rest := []) hFix (kX5_asked l D T F ad rs rm ts tm rdue rtun rsee rbeg psize pclause peff pkin pgri psig psee qsize qclause qeff qkin qgri qsig qsee cdee cnow cahe kdee know kahe fc lf told up lo r1365 hc) (cwV 0 hts gL_law_X5_asked rfl rfl rfl ⟨rfl, hd_X5_asked⟩ ⟨Nat.le_of_ble_eq_true rfl, Nat.le_of_ble_eq_true rfl⟩) (preV_ro hPc hKK (va_recv hK hP (ci := 3) (q0 := 0) rfl wLW_0)) rfl rfl hl.1 rfl (lv_room (Nat.le_of_ble_eq_true rfl)) dL_law_1365 ⟨Nat.le_of_ble_eq_true rfl, Nat.le_of_ble_eq_true rfl⟩)) ?_
  refine lv_if_ne (tgt := 1612) hx hb dL_law_1368 (by decide) (fun c1368 => ?_) (fun c1368 => ?_)
  · have h := br_0 h c1368
    exact LN_law_n1612 F x4 x5 x7 x8 x9 rs rm ts tm rdue rtun rsee rbeg psize pclause peff pkin pgri psig psee qsize qclause qeff qkin qgri qsig qsee cdee cnow cahe kdee know kahe fc lf told up lo zz tt C0 hret h ad _ _ ho hP hD hS _ (lv_sub hl [0, 1, 2, 3, 4, 5, 6, 7, 8] rfl)
  · have h := br_1 h c1368
    refine lv_aload_n hx hb dL_law_1371 rfl (lv_at hl 1 rfl) ?_
    refine lv_iconst (v := (5 : Int32)) hx hb dL_law_1372 (by decide) ?_
    refine lv_iconst (v := (0 : Int32)) hx hb dL_law_1373 (by decide) ?_
    obtain ⟨r1374, w1374_rs, w1374_rm, w1374_fc, w1374_lf, hc, h⟩ := bd5_some h
    have hPc : va_P D vwCl (wPW T ad (ad 6) (ad 12) rs rm ts tm rdue rtun rsee rbeg psize pclause peff pkin pgri psig psee qsize qclause qeff qkin qgri qsig qsee cdee cnow cahe kdee know kahe fc lf told up lo) _ := my_subP sb_wLW_wPW_0to37 hP
    have hDc := hD.sub [0, 1, 2, 3, 4, 5, 6, 7, 8, 9, 10, 11, 12, 13, 14, 15, 16, 17, 18, 19, 20, 21, 22, 23, 24, 25, 26, 27, 28, 29, 30, 31, 32, 33, 34, 35, 36, 37] nd_LW sb_wLW_wPW_0to37
    have hFc := va_free hD hS hA [0, 1, 2, 3, 4, 5, 6, 7, 8, 9, 10, 11, 12, 13, 14, 15, 16, 17, 18, 19, 20, 21, 22, 23, 24, 25, 26, 27, 28, 29, 30, 31, 32, 33, 34, 35, 36, 37] sb_wLW_wPW_0to37
    refine my_rwi (va_runV (As := [.int (5 : Int32), .int (0 : Int32)]) (rest := []) hFix (kX5_row l D T F ad rs rm ts tm rdue rtun rsee rbeg psize pclause peff pkin pgri psig psee qsize qclause qeff qkin qgri qsig qsee cdee cnow cahe kdee know kahe fc lf told up lo (5 : Int32) (0 : Int32) r1374 w1374_rs w1374_rm w1374_fc w1374_lf hc _) (cwV 2 hts gL_law_X5_row rfl rfl rfl ⟨rfl, hd_X5_row⟩ ⟨Nat.le_of_ble_eq_true rfl, Nat.le_of_ble_eq_true rfl⟩) (preV_rw hPc hKK hDc (va_recv hK hP (ci := 3) (q0 := 0) rfl wLW_0)) rfl rfl hl.1 rfl (lv_room (Nat.le_of_ble_eq_true rfl)) dL_law_1374 ⟨Nat.le_of_ble_eq_true rfl, Nat.le_of_ble_eq_true rfl⟩) hS hFc (fun H1 locs hP1 hD1 hz1 hkk hS => ?_)
    obtain ⟨hP, hD⟩ := my_joinS hP hD nd_LW sb_wLW_wPW_0to37 (by rfl) hkk hFc hP1 hD1
    rw [st_LW] at hP hD
    generalize H1 = H at hP hS ⊢
    refine lv_if_ne (tgt := 1415) hx hb dL_law_1377 (by decide) (fun c1377 => ?_) (fun c1377 => ?_)
    · have h := br_0 h c1377
      refine lv_iconst (v := (0 : Int32)) hx hb dL_law_1415 (by decide) ?_
      exact absurd (Option.some.inj h) (by decide)
    · have h := br_1 h c1377
      refine lv_aload_n hx hb dL_law_1380 rfl (lv_at hl 1 rfl) ?_
      refine lv_iload hx hb dL_law_1381 (lv_at hl 9 rfl) ?_
      refine lv_iconst (v := (5 : Int32)) hx hb dL_law_1383 (by decide) ?_
      obtain ⟨r1384, w1384_fc, w1384_lf, hc, h⟩ := bd3_some h
      have hPc : va_P D vwCl (wPW T ad (ad 6) (ad 12) w1374_rs w1374_rm ts tm rdue rtun rsee rbeg psize pclause peff pkin pgri psig psee qsize qclause qeff qkin qgri qsig qsee cdee cnow cahe kdee know kahe w1374_fc w1374_lf told up lo) _ := my_subP sb_wLW_wPW_0to37 hP
      have hDc := hD.sub [0, 1, 2, 3, 4, 5, 6, 7, 8, 9, 10, 11, 12, 13, 14, 15, 16, 17, 18, 19, 20, 21, 22, 23, 24, 25, 26, 27, 28, 29, 30, 31, 32, 33, 34, 35, 36, 37] nd_LW sb_wLW_wPW_0to37
      have hFc := va_free hD hS hA [0, 1, 2, 3, 4, 5, 6, 7, 8, 9, 10, 11, 12, 13, 14, 15, 16, 17, 18, 19, 20, 21, 22, 23, 24, 25, 26, 27, 28, 29, 30, 31, 32, 33, 34, 35, 36, 37] sb_wLW_wPW_0to37
      refine my_rwi (va_runV (As := [.int x22, .int (5 : Int32)]) (rest := []) hFix (kX5_kinds l D T F ad w1374_rs w1374_rm ts tm rdue rtun rsee rbeg psize pclause peff pkin pgri psig psee qsize qclause qeff qkin qgri qsig qsee cdee cnow cahe kdee know kahe w1374_fc w1374_lf told up lo x22 (5 : Int32) r1384 w1384_fc w1384_lf hc _) (cwV 2 hts gL_law_X5_kinds rfl rfl rfl ⟨rfl, hd_X5_kinds⟩ ⟨Nat.le_of_ble_eq_true rfl, Nat.le_of_ble_eq_true rfl⟩) (preV_rw hPc hKK hDc (va_recv hK hP (ci := 3) (q0 := 0) rfl wLW_0)) rfl rfl hl.1 rfl (lv_room (Nat.le_of_ble_eq_true rfl)) dL_law_1384 ⟨Nat.le_of_ble_eq_true rfl, Nat.le_of_ble_eq_true rfl⟩) hS hFc (fun H1 locs hP1 hD1 hz1 hkk hS => ?_)
      obtain ⟨hP, hD⟩ := my_joinS hP hD nd_LW sb_wLW_wPW_0to37 (by rfl) hkk hFc hP1 hD1
      rw [st_LW] at hP hD
      generalize H1 = H at hP hS ⊢
      refine lv_bipush (v := (63 : Int32)) hx hb dL_law_1387 (by decide) ?_
      refine lv_icmp_ne (tgt := 1415) hx hb dL_law_1389 (by decide) (fun c1389 => ?_) (fun c1389 => ?_)
      · have h := br_0 h c1389
        refine lv_iconst (v := (0 : Int32)) hx hb dL_law_1415 (by decide) ?_
        exact absurd (Option.some.inj h) (by decide)
      · have h := br_1 h c1389
        refine lv_aload_n hx hb dL_law_1392 rfl (lv_at hl 1 rfl) ?_
        refine lv_iload hx hb dL_law_1393 (lv_at hl 9 rfl) ?_
        refine lv_iconst (v := (5 : Int32)) hx hb dL_law_1395 (by decide) ?_
        obtain ⟨r1396, w1396_fc, w1396_lf, hc, h⟩ := bd3_some h
        have hPc : va_P D vwCl (wPW T ad (ad 6) (ad 12) w1374_rs w1374_rm ts tm rdue rtun rsee rbeg psize pclause peff pkin pgri psig psee qsize qclause qeff qkin qgri qsig qsee cdee cnow cahe kdee know kahe w1384_fc w1384_lf told up lo) _ := my_subP sb_wLW_wPW_0to37 hP
        have hDc := hD.sub [0, 1, 2, 3, 4, 5, 6, 7, 8, 9, 10, 11, 12, 13, 14, 15, 16, 17, 18, 19, 20, 21, 22, 23, 24, 25, 26, 27, 28, 29, 30, 31, 32, 33, 34, 35, 36, 37] nd_LW sb_wLW_wPW_0to37
        have hFc := va_free hD hS hA [0, 1, 2, 3, 4, 5, 6, 7, 8, 9, 10, 11, 12, 13, 14, 15, 16, 17, 18, 19, 20, 21, 22, 23, 24, 25, 26, 27, 28, 29, 30, 31, 32, 33, 34, 35, 36, 37] sb_wLW_wPW_0to37
        refine my_rwi (va_runV (As := [.int x22, .int (5 : Int32)]) (rest := []) hFix (kX5_came l D T F ad w1374_rs w1374_rm ts tm rdue rtun rsee rbeg psize pclause peff pkin pgri psig psee qsize qclause qeff qkin qgri qsig qsee cdee cnow cahe kdee know kahe w1384_fc w1384_lf told up lo x22 (5 : Int32) r1396 w1396_fc w1396_lf hc _) (cwV 2 hts gL_law_X5_came rfl rfl rfl ⟨rfl, hd_X5_came⟩ ⟨Nat.le_of_ble_eq_true rfl, Nat.le_of_ble_eq_true rfl⟩) (preV_rw hPc hKK hDc (va_recv hK hP (ci := 3) (q0 := 0) rfl wLW_0)) rfl rfl hl.1 rfl (lv_room (Nat.le_of_ble_eq_true rfl)) dL_law_1396 ⟨Nat.le_of_ble_eq_true rfl, Nat.le_of_ble_eq_true rfl⟩) hS hFc (fun H1 locs hP1 hD1 hz1 hkk hS => ?_)
        obtain ⟨hP, hD⟩ := my_joinS hP hD nd_LW sb_wLW_wPW_0to37 (by rfl) hkk hFc hP1 hD1
        rw [st_LW] at hP hD
        generalize H1 = H at hP hS ⊢
        refine lv_ldc (v := (2097151 : Int32)) hx hb hown q4 dL_law_1399 ?_
        refine lv_icmp_ne (tgt := 1415) hx hb dL_law_1401 (by decide) (fun c1401 => ?_) (fun c1401 => ?_)
        · have h := br_0 h c1401
          refine lv_iconst (v := (0 : Int32)) hx hb dL_law_1415 (by decide) ?_
          exact absurd (Option.some.inj h) (by decide)
        · have h := br_1 h c1401
          refine lv_aload_n hx hb dL_law_1404 rfl (lv_at hl 1 rfl) ?_
          refine lv_iload hx hb dL_law_1405 (lv_at hl 9 rfl) ?_
          refine lv_iconst (v := (1 : Int32)) hx hb dL_law_1407 (by decide) ?_
          obtain ⟨r1408, w1408_told, hc, h⟩ := bd2_some h
          have hPc : va_P D vwCl (wPW T ad (ad 6) (ad 12) w1374_rs w1374_rm ts tm rdue rtun rsee rbeg psize pclause peff pkin pgri psig psee qsize qclause qeff qkin qgri qsig qsee cdee cnow cahe kdee know kahe w1396_fc w1396_lf told up lo) _ := my_subP sb_wLW_wPW_0to37 hP
          have hDc := hD.sub [0, 1, 2, 3, 4, 5, 6, 7, 8, 9, 10, 11, 12, 13, 14, 15, 16, 17, 18, 19, 20, 21, 22, 23, 24, 25, 26, 27, 28, 29, 30, 31, 32, 33, 34, 35, 36, 37] nd_LW sb_wLW_wPW_0to37
          have hFc := va_free hD hS hA [0, 1, 2, 3, 4, 5, 6, 7, 8, 9, 10, 11, 12, 13, 14, 15, 16, 17, 18, 19, 20, 21, 22, 23, 24, 25, 26, 27, 28, 29, 30, 31, 32, 33, 34, 35, 36, 37] sb_wLW_wPW_0to37
          refine my_rwi (va_runV (As := [.int x22, .int (1 : Int32)]) (rest := []) hFix (kX5_guest l D T F ad w1374_rs w1374_rm ts tm rdue rtun rsee rbeg psize pclause peff pkin pgri psig psee qsize qclause qeff qkin qgri qsig qsee cdee cnow cahe kdee know kahe w1396_fc w1396_lf told up lo x22 (1 : Int32) r1408 w1408_told hc _) (cwV 2 hts gL_law_X5_guest rfl rfl rfl ⟨rfl, hd_X5_guest⟩ ⟨Nat.le_of_ble_eq_true rfl, Nat.le_of_ble_eq_true rfl⟩) (preV_rw hPc hKK hDc (va_recv hK hP (ci := 3) (q0 := 0) rfl wLW_0)) rfl rfl hl.1 rfl (lv_room (Nat.le_of_ble_eq_true rfl)) dL_law_1408 ⟨Nat.le_of_ble_eq_true rfl, Nat.le_of_ble_eq_true rfl⟩) hS hFc (fun H1 locs hP1 hD1 hz1 hkk hS => ?_)
          obtain ⟨hP, hD⟩ := my_joinS hP hD nd_LW sb_wLW_wPW_0to37 (by rfl) hkk hFc hP1 hD1
          rw [st_LW] at hP hD
          generalize H1 = H at hP hS ⊢
          refine lv_iconst (v := (1 : Int32)) hx hb dL_law_1411 (by decide) ?_
          refine lv_icmp_eq (tgt := 1417) hx hb dL_law_1412 (by decide) (fun c1412 => ?_) (fun c1412 => ?_)
          · have h := br_1 h c1412
            exact LN_law_n1417 F x4 x5 x7 x8 x9 x22 w1374_rs w1374_rm ts tm rdue rtun rsee rbeg psize pclause peff pkin pgri psig psee qsize qclause qeff qkin qgri qsig qsee cdee cnow cahe kdee know kahe w1396_fc w1396_lf w1408_told up lo zz tt C0 hret h ad _ _ ho hP hD hS _ (lv_sub hl [0, 1, 2, 3, 4, 5, 6, 7, 8, 9] rfl)
          · have h := br_0 h c1412
            refine lv_iconst (v := (0 : Int32)) hx hb dL_law_1415 (by decide) ?_
            exact absurd (Option.some.inj h) (by decide)
set_option maxHeartbeats 4000000 in
set_option maxRecDepth 100000 in
theorem LN_law_n1338 {p : Program} {l : Launch} {e : Env} {s : State} {m : MethodId} {args : Array Value} {below : List Frame} {meth : Method} {c : Code} {Q : State → Prop} {D : va_G} {T : Nat → ClassId} {b L : Nat} {xs : Nat → Int32} {A : Nat → Prop} {o0 za ta : Nat} (F : Nat) (x4 : Int32) (x5 : Int32) (x7 : Int32) (x8 : Int32) (x9 : Int32) (rs : Nat → Int32) (rm : Nat → Nat → Int32) (ts : Nat → Int32) (tm : Nat → Nat → Int32) (rdue : Int32) (rtun : Int32) (rsee : Int32) (rbeg : Int32) (psize : Int32) (pclause : Int32) (peff : Nat → Int32) (pkin : Nat → Int32) (pgri : Nat → Int32) (psig : Nat → Int32) (psee : Nat → Int32) (qsize : Int32) (qclause : Int32) (qeff : Nat → Int32) (qkin : Nat → Int32) (qgri : Nat → Int32) (qsig : Nat → Int32) (qsee : Nat → Int32) (cdee : Int32) (cnow : Int64) (cahe : Nat → Int64) (kdee : Nat → Int32) (know : Nat → Int64) (kahe : Nat → Nat → Int64) (fc : Nat → Int32) (lf : Int32) (told : Int32) (up : Int64) (lo : Int64) (zz : Nat → Int32) (tt : Nat → Int32) (C0 : SC_law p s m args c D T b L xs A) (hret : HR_law p l e s m args below meth c Q A) (h : fL_law_n1338 F L xs x4 x5 x7 x8 x9 rs rm ts tm rdue rtun rsee rbeg psize pclause peff pkin pgri psig psee qsize qclause qeff qkin qgri qsig qsee cdee cnow cahe kdee know kahe fc lf told up lo zz tt = some (1 : Int32)) : ∀ (ad : Nat → Nat) (H : Heap) (locs : List Loc), ad 0 = o0 → va_P D vwCl (wLW T ad (ad 6) (ad 12) za ta rs rm ts tm rdue rtun rsee rbeg psize pclause peff pkin pgri psig psee qsize qclause qeff qkin qgri qsig qsee cdee cnow cahe kdee know kahe fc lf told up lo zz tt) H → va_D A (wLW T ad (ad 6) (ad 12) za ta rs rm ts tm rdue rtun rsee rbeg psize pclause peff pkin pgri psig psee qsize qclause qeff qkin qgri qsig qsee cdee cnow cahe kdee know kahe fc lf told up lo zz tt) → va_S A s.heap H locs → ∀ (ls : Array Slot), lv_has ls 31 [(0, .ref b), (1, .ref (ad 0)), (2, .ref za), (3, .ref ta), (4, .int x4), (5, .int x5), (7, .int x7), (8, .int x8), (9, .int x9)] → W p l e room_1 s m args below meth c H locs 40 874 Q (F0 m 1338 ls []) := by
  intro ad H locs ho hP hD hS ls hl
  obtain ⟨hFix, hKK, hA, hX, hbl, hbA⟩ := id C0
  obtain ⟨hx, hb, hml, hown, hts⟩ := id hFix
  have hK := hKK.1
  unfold fL_law_n1338 at h
  refine lv_aload_n hx hb dL_law_1338 rfl (lv_at hl 0 rfl) ?_
  refine lv_bipush (v := (40 : Int32)) hx hb dL_law_1339 (by decide) ?_
  obtain ⟨r1341, hc, h⟩ := bd1_some h
  refine my_roi (va_Run.run (va_runS (As := [.ref b, .int (40 : Int32)]) (rest := []) hFix (kL_cell l D T F b L xs (40 : Int32) r1341 hc) (va_cwS 2 hts gL_law_L_cell rfl rfl rfl hd_L_cell ⟨Nat.le_of_ble_eq_true rfl, Nat.le_of_ble_eq_true rfl⟩) (preS_x (hX.kept (hS.2.1 b hbl hbA)) hKK) rfl rfl hl.1 rfl (lv_room (Nat.le_of_ble_eq_true rfl)) dL_law_1341 ⟨Nat.le_of_ble_eq_true rfl, Nat.le_of_ble_eq_true rfl⟩)) ?_
  refine lv_iload hx hb dL_law_1344 (lv_at hl 4 rfl) ?_
  obtain ⟨r1346, hc, h⟩ := bd1_some h
  refine my_roi (va_Run.run (va_runS (As := [.int r1341, .int x4]) (rest := []) hFix (kL_part l D T F r1341 x4 r1346 hc) (va_cwS 2 hts gL_law_L_part rfl rfl rfl hd_L_part ⟨Nat.le_of_ble_eq_true rfl, Nat.le_of_ble_eq_true rfl⟩) (preS_ro va_nil hKK) rfl rfl hl.1 rfl (lv_room (Nat.le_of_ble_eq_true rfl)) dL_law_1346 ⟨Nat.le_of_ble_eq_true rfl, Nat.le_of_ble_eq_true rfl⟩)) ?_
  refine lv_istore (lv' := [(22, .int r1346), (0, .ref b), (1, .ref (ad 0)), (2, .ref za), (3, .ref ta), (4, .int x4), (5, .int x5), (7, .int x7), (8, .int x8), (9, .int x9)]) hx hb dL_law_1349 hl (by decide) rfl (fun ls hl => ?_)
  refine lv_aload_n hx hb dL_law_1351 rfl (lv_at hl 2 rfl) ?_
  refine lv_iload hx hb dL_law_1352 (lv_at hl 0 rfl) ?_
  refine lv_iconst (v := (2 : Int32)) hx hb dL_law_1354 (by decide) ?_
  obtain ⟨r1355, w1355_told, hc, h⟩ := bd2_some h
  have hPc : va_P D vwCl (wPW T ad (ad 6) (ad 12) rs rm ts tm rdue rtun rsee rbeg psize pclause peff pkin pgri psig psee qsize qclause qeff qkin qgri qsig qsee cdee cnow cahe kdee know kahe fc lf told up lo) _ := my_subP sb_wLW_wPW_0to37 hP
  have hDc := hD.sub [0, 1, 2, 3, 4, 5, 6, 7, 8, 9, 10, 11, 12, 13, 14, 15, 16, 17, 18, 19, 20, 21, 22, 23, 24, 25, 26, 27, 28, 29, 30, 31, 32, 33, 34, 35, 36, 37] nd_LW sb_wLW_wPW_0to37
  have hFc := va_free hD hS hA [0, 1, 2, 3, 4, 5, 6, 7, 8, 9, 10, 11, 12, 13, 14, 15, 16, 17, 18, 19, 20, 21, 22, 23, 24, 25, 26, 27, 28, 29, 30, 31, 32, 33, 34, 35, 36, 37] sb_wLW_wPW_0to37
  refine my_rwi (va_runV (As := [.int r1346, .int (2 : Int32)]) (rest := []) hFix (kX5_guest l D T F ad rs rm ts tm rdue rtun rsee rbeg psize pclause peff pkin pgri psig psee qsize qclause qeff qkin qgri qsig qsee cdee cnow cahe kdee know kahe fc lf told up lo r1346 (2 : Int32) r1355 w1355_told hc _) (cwV 2 hts gL_law_X5_guest rfl rfl rfl ⟨rfl, hd_X5_guest⟩ ⟨Nat.le_of_ble_eq_true rfl, Nat.le_of_ble_eq_true rfl⟩) (preV_rw hPc hKK hDc (va_recv hK hP (ci := 3) (q0 := 0) rfl wLW_0)) rfl rfl hl.1 rfl (lv_room (Nat.le_of_ble_eq_true rfl)) dL_law_1355 ⟨Nat.le_of_ble_eq_true rfl, Nat.le_of_ble_eq_true rfl⟩) hS hFc (fun H1 locs hP1 hD1 hz1 hkk hS => ?_)
  obtain ⟨hP, hD⟩ := my_joinS hP hD nd_LW sb_wLW_wPW_0to37 (by rfl) hkk hFc hP1 hD1
  rw [st_LW] at hP hD
  generalize H1 = H at hP hS ⊢
  refine lv_iconst (v := (1 : Int32)) hx hb dL_law_1358 (by decide) ?_
  refine lv_icmp_eq (tgt := 1364) hx hb dL_law_1359 (by decide) (fun c1359 => ?_) (fun c1359 => ?_)
  · have h := br_1 h c1359
    exact LN_law_n1364 F x4 x5 x7 x8 x9 r1346 rs rm ts tm rdue rtun rsee rbeg psize pclause peff pkin pgri psig psee qsize qclause qeff qkin qgri qsig qsee cdee cnow cahe kdee know kahe fc lf w1355_told up lo zz tt C0 hret h ad _ _ ho hP hD hS _ (lv_sub hl [1, 2, 3, 4, 5, 6, 7, 8, 9, 0] rfl)
  · have h := br_0 h c1359
    refine lv_iconst (v := (0 : Int32)) hx hb dL_law_1362 (by decide) ?_
    exact absurd (Option.some.inj h) (by decide)
set_option maxHeartbeats 4000000 in
set_option maxRecDepth 100000 in
theorem LN_law_n1292 {p : Program} {l : Launch} {e : Env} {s : State} {m : MethodId} {args : Array Value} {below : List Frame} {meth : Method} {c : Code} {Q : State → Prop} {D : va_G} {T : Nat → ClassId} {b L : Nat} {xs : Nat → Int32} {A : Nat → Prop} {o0 za ta : Nat} (F : Nat) (x4 : Int32) (x5 : Int32) (x7 : Int32) (x8 : Int32) (x9 : Int32) (rs : Nat → Int32) (rm : Nat → Nat → Int32) (ts : Nat → Int32) (tm : Nat → Nat → Int32) (rdue : Int32) (rtun : Int32) (rsee : Int32) (rbeg : Int32) (psize : Int32) (pclause : Int32) (peff : Nat → Int32) (pkin : Nat → Int32) (pgri : Nat → Int32) (psig : Nat → Int32) (psee : Nat → Int32) (qsize : Int32) (qclause : Int32) (qeff : Nat → Int32) (qkin : Nat → Int32) (qgri : Nat → Int32) (qsig : Nat → Int32) (qsee : Nat → Int32) (cdee : Int32) (cnow : Int64) (cahe : Nat → Int64) (kdee : Nat → Int32) (know : Nat → Int64) (kahe : Nat → Nat → Int64) (fc : Nat → Int32) (lf : Int32) (told : Int32) (up : Int64) (lo : Int64) (zz : Nat → Int32) (tt : Nat → Int32) (C0 : SC_law p s m args c D T b L xs A) (hret : HR_law p l e s m args below meth c Q A) (h : fL_law_n1292 F L xs x4 x5 x7 x8 x9 rs rm ts tm rdue rtun rsee rbeg psize pclause peff pkin pgri psig psee qsize qclause qeff qkin qgri qsig qsee cdee cnow cahe kdee know kahe fc lf told up lo zz tt = some (1 : Int32)) : ∀ (ad : Nat → Nat) (H : Heap) (locs : List Loc), ad 0 = o0 → va_P D vwCl (wLW T ad (ad 6) (ad 12) za ta rs rm ts tm rdue rtun rsee rbeg psize pclause peff pkin pgri psig psee qsize qclause qeff qkin qgri qsig qsee cdee cnow cahe kdee know kahe fc lf told up lo zz tt) H → va_D A (wLW T ad (ad 6) (ad 12) za ta rs rm ts tm rdue rtun rsee rbeg psize pclause peff pkin pgri psig psee qsize qclause qeff qkin qgri qsig qsee cdee cnow cahe kdee know kahe fc lf told up lo zz tt) → va_S A s.heap H locs → ∀ (ls : Array Slot), lv_has ls 31 [(0, .ref b), (1, .ref (ad 0)), (2, .ref za), (3, .ref ta), (4, .int x4), (5, .int x5), (7, .int x7), (8, .int x8), (9, .int x9)] → W p l e room_1 s m args below meth c H locs 40 874 Q (F0 m 1292 ls []) := by
  intro ad H locs ho hP hD hS ls hl
  obtain ⟨hFix, hKK, hA, hX, hbl, hbA⟩ := id C0
  obtain ⟨hx, hb, hml, hown, hts⟩ := id hFix
  have hK := hKK.1
  unfold fL_law_n1292 at h
  refine lv_aload_n hx hb dL_law_1292 rfl (lv_at hl 1 rfl) ?_
  refine lv_iconst (v := (0 : Int32)) hx hb dL_law_1293 (by decide) ?_
  obtain ⟨r1294, hc, h⟩ := bd1_some h
  have hPc : va_P D vwCl (wPW T ad (ad 6) (ad 12) rs rm ts tm rdue rtun rsee rbeg psize pclause peff pkin pgri psig psee qsize qclause qeff qkin qgri qsig qsee cdee cnow cahe kdee know kahe fc lf told up lo) _ := my_subP sb_wLW_wPW_0to37 hP
  refine my_roi (va_Run.run (va_runV (As := [.int (0 : Int32)]) (rest := []) hFix (kX5_aunt l D T F ad rs rm ts tm rdue rtun rsee rbeg psize pclause peff pkin pgri psig psee qsize qclause qeff qkin qgri qsig qsee cdee cnow cahe kdee know kahe fc lf told up lo (0 : Int32) r1294 hc) (cwV 1 hts gL_law_X5_aunt rfl rfl rfl ⟨rfl, hd_X5_aunt⟩ ⟨Nat.le_of_ble_eq_true rfl, Nat.le_of_ble_eq_true rfl⟩) (preV_ro hPc hKK (va_recv hK hP (ci := 3) (q0 := 0) rfl wLW_0)) rfl rfl hl.1 rfl (lv_room (Nat.le_of_ble_eq_true rfl)) dL_law_1294 ⟨Nat.le_of_ble_eq_true rfl, Nat.le_of_ble_eq_true rfl⟩)) ?_
  refine lv_if_ne (tgt := 1336) hx hb dL_law_1297 (by decide) (fun c1297 => ?_) (fun c1297 => ?_)
  · have h := br_0 h c1297
    refine lv_iconst (v := (0 : Int32)) hx hb dL_law_1336 (by decide) ?_
    exact absurd (Option.some.inj h) (by decide)
  · have h := br_1 h c1297
    refine lv_aload_n hx hb dL_law_1300 rfl (lv_at hl 1 rfl) ?_
    refine lv_iconst (v := (1 : Int32)) hx hb dL_law_1301 (by decide) ?_
    obtain ⟨r1302, hc, h⟩ := bd1_some h
    have hPc : va_P D vwCl (wPW T ad (ad 6) (ad 12) rs rm ts tm rdue rtun rsee rbeg psize pclause peff pkin pgri psig psee qsize qclause qeff qkin qgri qsig qsee cdee cnow cahe kdee know kahe fc lf told up lo) _ := my_subP sb_wLW_wPW_0to37 hP
    refine my_roi (va_Run.run (va_runV (As := [.int (1 : Int32)]) (rest := []) hFix (kX5_aunt l D T F ad rs rm ts tm rdue rtun rsee rbeg psize pclause peff pkin pgri psig psee qsize qclause qeff qkin qgri qsig qsee cdee cnow cahe kdee know kahe fc lf told up lo (1 : Int32) r1302 hc) (cwV 1 hts gL_law_X5_aunt rfl rfl rfl ⟨rfl, hd_X5_aunt⟩ ⟨Nat.le_of_ble_eq_true rfl, Nat.le_of_ble_eq_true rfl⟩) (preV_ro hPc hKK (va_recv hK hP (ci := 3) (q0 := 0) rfl wLW_0)) rfl rfl hl.1 rfl (lv_room (Nat.le_of_ble_eq_true rfl)) dL_law_1302 ⟨Nat.le_of_ble_eq_true rfl, Nat.le_of_ble_eq_true rfl⟩)) ?_
    refine lv_if_lt (tgt := 1336) hx hb dL_law_1305 (by decide) (fun c1305 => ?_) (fun c1305 => ?_)
    · have h := br_1 h c1305
      refine lv_iconst (v := (0 : Int32)) hx hb dL_law_1336 (by decide) ?_
      exact absurd (Option.some.inj h) (by decide)
    · have h := br_0 h c1305
      refine lv_aload_n hx hb dL_law_1308 rfl (lv_at hl 1 rfl) ?_
      refine lv_iconst (v := (1 : Int32)) hx hb dL_law_1309 (by decide) ?_
      obtain ⟨r1310, hc, h⟩ := bd1_some h
      have hPc : va_P D vwCl (wPW T ad (ad 6) (ad 12) rs rm ts tm rdue rtun rsee rbeg psize pclause peff pkin pgri psig psee qsize qclause qeff qkin qgri qsig qsee cdee cnow cahe kdee know kahe fc lf told up lo) _ := my_subP sb_wLW_wPW_0to37 hP
      refine my_roi (va_Run.run (va_runV (As := [.int (1 : Int32)]) (rest := []) hFix (kX5_aunt l D T F ad rs rm ts tm rdue rtun rsee rbeg psize pclause peff pkin pgri psig psee qsize qclause qeff qkin qgri qsig qsee cdee cnow cahe kdee know kahe fc lf told up lo (1 : Int32) r1310 hc) (cwV 1 hts gL_law_X5_aunt rfl rfl rfl ⟨rfl, hd_X5_aunt⟩ ⟨Nat.le_of_ble_eq_true rfl, Nat.le_of_ble_eq_true rfl⟩) (preV_ro hPc hKK (va_recv hK hP (ci := 3) (q0 := 0) rfl wLW_0)) rfl rfl hl.1 rfl (lv_room (Nat.le_of_ble_eq_true rfl)) dL_law_1310 ⟨Nat.le_of_ble_eq_true rfl, Nat.le_of_ble_eq_true rfl⟩)) ?_
      refine lv_iload hx hb dL_law_1313 (lv_at hl 6 rfl) ?_
      refine lv_icmp_gt (tgt := 1336) hx hb dL_law_1315 (by decide) (fun c1315 => ?_) (fun c1315 => ?_)
      · have h := br_1 h c1315
        refine lv_iconst (v := (0 : Int32)) hx hb dL_law_1336 (by decide) ?_
        exact absurd (Option.some.inj h) (by decide)
      · have h := br_0 h c1315
        refine lv_aload_n hx hb dL_law_1318 rfl (lv_at hl 1 rfl) ?_
        refine lv_iconst (v := (2 : Int32)) hx hb dL_law_1319 (by decide) ?_
        obtain ⟨r1320, hc, h⟩ := bd1_some h
        have hPc : va_P D vwCl (wPW T ad (ad 6) (ad 12) rs rm ts tm rdue rtun rsee rbeg psize pclause peff pkin pgri psig psee qsize qclause qeff qkin qgri qsig qsee cdee cnow cahe kdee know kahe fc lf told up lo) _ := my_subP sb_wLW_wPW_0to37 hP
        refine my_roi (va_Run.run (va_runV (As := [.int (2 : Int32)]) (rest := []) hFix (kX5_aunt l D T F ad rs rm ts tm rdue rtun rsee rbeg psize pclause peff pkin pgri psig psee qsize qclause qeff qkin qgri qsig qsee cdee cnow cahe kdee know kahe fc lf told up lo (2 : Int32) r1320 hc) (cwV 1 hts gL_law_X5_aunt rfl rfl rfl ⟨rfl, hd_X5_aunt⟩ ⟨Nat.le_of_ble_eq_true rfl, Nat.le_of_ble_eq_true rfl⟩) (preV_ro hPc hKK (va_recv hK hP (ci := 3) (q0 := 0) rfl wLW_0)) rfl rfl hl.1 rfl (lv_room (Nat.le_of_ble_eq_true rfl)) dL_law_1320 ⟨Nat.le_of_ble_eq_true rfl, Nat.le_of_ble_eq_true rfl⟩)) ?_
        refine lv_if_lt (tgt := 1336) hx hb dL_law_1323 (by decide) (fun c1323 => ?_) (fun c1323 => ?_)
        · have h := br_1 h c1323
          refine lv_iconst (v := (0 : Int32)) hx hb dL_law_1336 (by decide) ?_
          exact absurd (Option.some.inj h) (by decide)
        · have h := br_0 h c1323
          refine lv_aload_n hx hb dL_law_1326 rfl (lv_at hl 1 rfl) ?_
          refine lv_iconst (v := (2 : Int32)) hx hb dL_law_1327 (by decide) ?_
          obtain ⟨r1328, hc, h⟩ := bd1_some h
          have hPc : va_P D vwCl (wPW T ad (ad 6) (ad 12) rs rm ts tm rdue rtun rsee rbeg psize pclause peff pkin pgri psig psee qsize qclause qeff qkin qgri qsig qsee cdee cnow cahe kdee know kahe fc lf told up lo) _ := my_subP sb_wLW_wPW_0to37 hP
          refine my_roi (va_Run.run (va_runV (As := [.int (2 : Int32)]) (rest := []) hFix (kX5_aunt l D T F ad rs rm ts tm rdue rtun rsee rbeg psize pclause peff pkin pgri psig psee qsize qclause qeff qkin qgri qsig qsee cdee cnow cahe kdee know kahe fc lf told up lo (2 : Int32) r1328 hc) (cwV 1 hts gL_law_X5_aunt rfl rfl rfl ⟨rfl, hd_X5_aunt⟩ ⟨Nat.le_of_ble_eq_true rfl, Nat.le_of_ble_eq_true rfl⟩) (preV_ro hPc hKK (va_recv hK hP (ci := 3) (q0 := 0) rfl wLW_0)) rfl rfl hl.1 rfl (lv_room (Nat.le_of_ble_eq_true rfl)) dL_law_1328 ⟨Nat.le_of_ble_eq_true rfl, Nat.le_of_ble_eq_true rfl⟩)) ?_
          refine lv_iload hx hb dL_law_1331 (lv_at hl 6 rfl) ?_
          refine lv_icmp_le (tgt := 1338) hx hb dL_law_1333 (by decide) (fun c1333 => ?_) (fun c1333 => ?_)
          · have h := br_1 h c1333
            exact LN_law_n1338 F x4 x5 x7 x8 x9 rs rm ts tm rdue rtun rsee rbeg psize pclause peff pkin pgri psig psee qsize qclause qeff qkin qgri qsig qsee cdee cnow cahe kdee know kahe fc lf told up lo zz tt C0 hret h ad _ _ ho hP hD hS _ (lv_sub hl [0, 1, 2, 3, 4, 5, 6, 7, 8] rfl)
          · have h := br_0 h c1333
            refine lv_iconst (v := (0 : Int32)) hx hb dL_law_1336 (by decide) ?_
            exact absurd (Option.some.inj h) (by decide)
set_option maxHeartbeats 4000000 in
set_option maxRecDepth 100000 in
theorem LN_law_n1289 {p : Program} {l : Launch} {e : Env} {s : State} {m : MethodId} {args : Array Value} {below : List Frame} {meth : Method} {c : Code} {Q : State → Prop} {D : va_G} {T : Nat → ClassId} {b L : Nat} {xs : Nat → Int32} {A : Nat → Prop} {o0 za ta : Nat} (F : Nat) (s_0 : Int32) (s_1 : Int32) (x4 : Int32) (x5 : Int32) (x7 : Int32) (x8 : Int32) (x9 : Int32) (rs : Nat → Int32) (rm : Nat → Nat → Int32) (ts : Nat → Int32) (tm : Nat → Nat → Int32) (rdue : Int32) (rtun : Int32) (rsee : Int32) (rbeg : Int32) (psize : Int32) (pclause : Int32) (peff : Nat → Int32) (pkin : Nat → Int32) (pgri : Nat → Int32) (psig : Nat → Int32) (psee : Nat → Int32) (qsize : Int32) (qclause : Int32) (qeff : Nat → Int32) (qkin : Nat → Int32) (qgri : Nat → Int32) (qsig : Nat → Int32) (qsee : Nat → Int32) (cdee : Int32) (cnow : Int64) (cahe : Nat → Int64) (kdee : Nat → Int32) (know : Nat → Int64) (kahe : Nat → Nat → Int64) (fc : Nat → Int32) (lf : Int32) (told : Int32) (up : Int64) (lo : Int64) (zz : Nat → Int32) (tt : Nat → Int32) (C0 : SC_law p s m args c D T b L xs A) (hret : HR_law p l e s m args below meth c Q A) (h : fL_law_n1289 F L xs s_0 s_1 x4 x5 x7 x8 x9 rs rm ts tm rdue rtun rsee rbeg psize pclause peff pkin pgri psig psee qsize qclause qeff qkin qgri qsig qsee cdee cnow cahe kdee know kahe fc lf told up lo zz tt = some (1 : Int32)) : ∀ (ad : Nat → Nat) (H : Heap) (locs : List Loc), ad 0 = o0 → va_P D vwCl (wLW T ad (ad 6) (ad 12) za ta rs rm ts tm rdue rtun rsee rbeg psize pclause peff pkin pgri psig psee qsize qclause qeff qkin qgri qsig qsee cdee cnow cahe kdee know kahe fc lf told up lo zz tt) H → va_D A (wLW T ad (ad 6) (ad 12) za ta rs rm ts tm rdue rtun rsee rbeg psize pclause peff pkin pgri psig psee qsize qclause qeff qkin qgri qsig qsee cdee cnow cahe kdee know kahe fc lf told up lo zz tt) → va_S A s.heap H locs → ∀ (ls : Array Slot), lv_has ls 31 [(0, .ref b), (1, .ref (ad 0)), (2, .ref za), (3, .ref ta), (4, .int x4), (5, .int x5), (7, .int x7), (8, .int x8), (9, .int x9)] → W p l e room_1 s m args below meth c H locs 40 874 Q (F0 m 1289 ls [.int s_1, .int s_0]) := by
  intro ad H locs ho hP hD hS ls hl
  obtain ⟨hFix, hKK, hA, hX, hbl, hbA⟩ := id C0
  obtain ⟨hx, hb, hml, hown, hts⟩ := id hFix
  have hK := hKK.1
  unfold fL_law_n1289 at h
  refine lv_icmp_ne (tgt := 1336) hx hb dL_law_1289 (by decide) (fun c1289 => ?_) (fun c1289 => ?_)
  · have h := br_0 h c1289
    refine lv_iconst (v := (0 : Int32)) hx hb dL_law_1336 (by decide) ?_
    exact absurd (Option.some.inj h) (by decide)
  · have h := br_1 h c1289
    exact LN_law_n1292 F x4 x5 x7 x8 x9 rs rm ts tm rdue rtun rsee rbeg psize pclause peff pkin pgri psig psee qsize qclause qeff qkin qgri qsig qsee cdee cnow cahe kdee know kahe fc lf told up lo zz tt C0 hret h ad _ _ ho hP hD hS _ (lv_sub hl [0, 1, 2, 3, 4, 5, 6, 7, 8] rfl)
set_option maxHeartbeats 4000000 in
set_option maxRecDepth 100000 in
theorem LN_law_n1269 {p : Program} {l : Launch} {e : Env} {s : State} {m : MethodId} {args : Array Value} {below : List Frame} {meth : Method} {c : Code} {Q : State → Prop} {D : va_G} {T : Nat → ClassId} {b L : Nat} {xs : Nat → Int32} {A : Nat → Prop} {o0 za ta : Nat} (F : Nat) (x4 : Int32) (x5 : Int32) (x7 : Int32) (x8 : Int32) (x9 : Int32) (x21 : Int32) (rs : Nat → Int32) (rm : Nat → Nat → Int32) (ts : Nat → Int32) (tm : Nat → Nat → Int32) (rdue : Int32) (rtun : Int32) (rsee : Int32) (rbeg : Int32) (psize : Int32) (pclause : Int32) (peff : Nat → Int32) (pkin : Nat → Int32) (pgri : Nat → Int32) (psig : Nat → Int32) (psee : Nat → Int32) (qsize : Int32) (qclause : Int32) (qeff : Nat → Int32) (qkin : Nat → Int32) (qgri : Nat → Int32) (qsig : Nat → Int32) (qsee : Nat → Int32) (cdee : Int32) (cnow : Int64) (cahe : Nat → Int64) (kdee : Nat → Int32) (know : Nat → Int64) (kahe : Nat → Nat → Int64) (fc : Nat → Int32) (lf : Int32) (told : Int32) (up : Int64) (lo : Int64) (zz : Nat → Int32) (tt : Nat → Int32) (C0 : SC_law p s m args c D T b L xs A) (hret : HR_law p l e s m args below meth c Q A) (h : fL_law_n1269 F L xs x4 x5 x7 x8 x9 x21 rs rm ts tm rdue rtun rsee rbeg psize pclause peff pkin pgri psig psee qsize qclause qeff qkin qgri qsig qsee cdee cnow cahe kdee know kahe fc lf told up lo zz tt = some (1 : Int32)) : ∀ (ad : Nat → Nat) (H : Heap) (locs : List Loc), ad 0 = o0 → va_P D vwCl (wLW T ad (ad 6) (ad 12) za ta rs rm ts tm rdue rtun rsee rbeg psize pclause peff pkin pgri psig psee qsize qclause qeff qkin qgri qsig qsee cdee cnow cahe kdee know kahe fc lf told up lo zz tt) H → va_D A (wLW T ad (ad 6) (ad 12) za ta rs rm ts tm rdue rtun rsee rbeg psize pclause peff pkin pgri psig psee qsize qclause qeff qkin qgri qsig qsee cdee cnow cahe kdee know kahe fc lf told up lo zz tt) → va_S A s.heap H locs → ∀ (ls : Array Slot), lv_has ls 31 [(0, .ref b), (1, .ref (ad 0)), (2, .ref za), (3, .ref ta), (4, .int x4), (5, .int x5), (7, .int x7), (8, .int x8), (9, .int x9), (21, .int x21)] → W p l e room_1 s m args below meth c H locs 40 874 Q (F0 m 1269 ls []) := by
  intro ad H locs ho hP hD hS ls hl
  obtain ⟨hFix, hKK, hA, hX, hbl, hbA⟩ := id C0
  obtain ⟨hx, hb, hml, hown, hts⟩ := id hFix
  have hK := hKK.1
  unfold fL_law_n1269 at h
  refine lv_iload hx hb dL_law_1269 (lv_at hl 9 rfl) ?_
  refine lv_if_ne (tgt := 1278) hx hb dL_law_1271 (by decide) (fun c1271 => ?_) (fun c1271 => ?_)
  · have h := br_0 h c1271
    refine lv_iconst (v := (0 : Int32)) hx hb dL_law_1278 (by decide) ?_
    refine lv_iload hx hb dL_law_1279 (lv_at hl 7 rfl) ?_
    refine lv_if_ne (tgt := 1288) hx hb dL_law_1281 (by decide) (fun c1281 => ?_) (fun c1281 => ?_)
    · have h := br_0 h c1281
      refine lv_iconst (v := (0 : Int32)) hx hb dL_law_1288 (by decide) ?_
      exact LN_law_n1289 F (0 : Int32) (0 : Int32) x4 x5 x7 x8 x9 rs rm ts tm rdue rtun rsee rbeg psize pclause peff pkin pgri psig psee qsize qclause qeff qkin qgri qsig qsee cdee cnow cahe kdee know kahe fc lf told up lo zz tt C0 hret h ad _ _ ho hP hD hS _ (lv_sub hl [0, 1, 2, 3, 4, 5, 6, 7, 8] rfl)
    · have h := br_1 h c1281
      refine lv_iconst (v := (1 : Int32)) hx hb dL_law_1284 (by decide) ?_
      refine lv_goto (tgt := 1289) hx hb dL_law_1285 (by decide) ?_
      exact LN_law_n1289 F (0 : Int32) (1 : Int32) x4 x5 x7 x8 x9 rs rm ts tm rdue rtun rsee rbeg psize pclause peff pkin pgri psig psee qsize qclause qeff qkin qgri qsig qsee cdee cnow cahe kdee know kahe fc lf told up lo zz tt C0 hret h ad _ _ ho hP hD hS _ (lv_sub hl [0, 1, 2, 3, 4, 5, 6, 7, 8] rfl)
  · have h := br_1 h c1271
    refine lv_iconst (v := (1 : Int32)) hx hb dL_law_1274 (by decide) ?_
    refine lv_goto (tgt := 1279) hx hb dL_law_1275 (by decide) ?_
    refine lv_iload hx hb dL_law_1279 (lv_at hl 7 rfl) ?_
    refine lv_if_ne (tgt := 1288) hx hb dL_law_1281 (by decide) (fun c1281 => ?_) (fun c1281 => ?_)
    · have h := br_0 h c1281
      refine lv_iconst (v := (0 : Int32)) hx hb dL_law_1288 (by decide) ?_
      exact LN_law_n1289 F (1 : Int32) (0 : Int32) x4 x5 x7 x8 x9 rs rm ts tm rdue rtun rsee rbeg psize pclause peff pkin pgri psig psee qsize qclause qeff qkin qgri qsig qsee cdee cnow cahe kdee know kahe fc lf told up lo zz tt C0 hret h ad _ _ ho hP hD hS _ (lv_sub hl [0, 1, 2, 3, 4, 5, 6, 7, 8] rfl)
    · have h := br_1 h c1281
      refine lv_iconst (v := (1 : Int32)) hx hb dL_law_1284 (by decide) ?_
      refine lv_goto (tgt := 1289) hx hb dL_law_1285 (by decide) ?_
      exact LN_law_n1289 F (1 : Int32) (1 : Int32) x4 x5 x7 x8 x9 rs rm ts tm rdue rtun rsee rbeg psize pclause peff pkin pgri psig psee qsize qclause qeff qkin qgri qsig qsee cdee cnow cahe kdee know kahe fc lf told up lo zz tt C0 hret h ad _ _ ho hP hD hS _ (lv_sub hl [0, 1, 2, 3, 4, 5, 6, 7, 8] rfl)
set_option maxHeartbeats 4000000 in
set_option maxRecDepth 100000 in
theorem LN_law_n1244 {p : Program} {l : Launch} {e : Env} {s : State} {m : MethodId} {args : Array Value} {below : List Frame} {meth : Method} {c : Code} {Q : State → Prop} {D : va_G} {T : Nat → ClassId} {b L : Nat} {xs : Nat → Int32} {A : Nat → Prop} {o0 za ta : Nat} (F : Nat) (x4 : Int32) (x5 : Int32) (x7 : Int32) (x8 : Int32) (x9 : Int32) (rs : Nat → Int32) (rm : Nat → Nat → Int32) (ts : Nat → Int32) (tm : Nat → Nat → Int32) (rdue : Int32) (rtun : Int32) (rsee : Int32) (rbeg : Int32) (psize : Int32) (pclause : Int32) (peff : Nat → Int32) (pkin : Nat → Int32) (pgri : Nat → Int32) (psig : Nat → Int32) (psee : Nat → Int32) (qsize : Int32) (qclause : Int32) (qeff : Nat → Int32) (qkin : Nat → Int32) (qgri : Nat → Int32) (qsig : Nat → Int32) (qsee : Nat → Int32) (cdee : Int32) (cnow : Int64) (cahe : Nat → Int64) (kdee : Nat → Int32) (know : Nat → Int64) (kahe : Nat → Nat → Int64) (fc : Nat → Int32) (lf : Int32) (told : Int32) (up : Int64) (lo : Int64) (zz : Nat → Int32) (tt : Nat → Int32) (C0 : SC_law p s m args c D T b L xs A) (hret : HR_law p l e s m args below meth c Q A) (h : fL_law_n1244 F L xs x4 x5 x7 x8 x9 rs rm ts tm rdue rtun rsee rbeg psize pclause peff pkin pgri psig psee qsize qclause qeff qkin qgri qsig qsee cdee cnow cahe kdee know kahe fc lf told up lo zz tt = some (1 : Int32)) : ∀ (ad : Nat → Nat) (H : Heap) (locs : List Loc), ad 0 = o0 → va_P D vwCl (wLW T ad (ad 6) (ad 12) za ta rs rm ts tm rdue rtun rsee rbeg psize pclause peff pkin pgri psig psee qsize qclause qeff qkin qgri qsig qsee cdee cnow cahe kdee know kahe fc lf told up lo zz tt) H → va_D A (wLW T ad (ad 6) (ad 12) za ta rs rm ts tm rdue rtun rsee rbeg psize pclause peff pkin pgri psig psee qsize qclause qeff qkin qgri qsig qsee cdee cnow cahe kdee know kahe fc lf told up lo zz tt) → va_S A s.heap H locs → ∀ (ls : Array Slot), lv_has ls 31 [(0, .ref b), (1, .ref (ad 0)), (2, .ref za), (3, .ref ta), (4, .int x4), (5, .int x5), (7, .int x7), (8, .int x8), (9, .int x9)] → W p l e room_1 s m args below meth c H locs 40 874 Q (F0 m 1244 ls []) := by
  intro ad H locs ho hP hD hS ls hl
  obtain ⟨hFix, hKK, hA, hX, hbl, hbA⟩ := id C0
  obtain ⟨hx, hb, hml, hown, hts⟩ := id hFix
  have hK := hKK.1
  unfold fL_law_n1244 at h
  refine lv_aload_n hx hb dL_law_1244 rfl (lv_at hl 1 rfl) ?_
  obtain ⟨r1245, hc, h⟩ := bd1_some h
  have hPc : va_P D vwCl (wPW T ad (ad 6) (ad 12) rs rm ts tm rdue rtun rsee rbeg psize pclause peff pkin pgri psig psee qsize qclause qeff qkin qgri qsig qsee cdee cnow cahe kdee know kahe fc lf told up lo) _ := my_subP sb_wLW_wPW_0to37 hP
  refine my_roi (va_Run.run (va_runV (As := []) (rest := []) hFix (kX5_gay l D T F ad rs rm ts tm rdue rtun rsee rbeg psize pclause peff pkin pgri psig psee qsize qclause qeff qkin qgri qsig qsee cdee cnow cahe kdee know kahe fc lf told up lo r1245 hc) (cwV 0 hts gL_law_X5_gay rfl rfl rfl ⟨rfl, hd_X5_gay⟩ ⟨Nat.le_of_ble_eq_true rfl, Nat.le_of_ble_eq_true rfl⟩) (preV_ro hPc hKK (va_recv hK hP (ci := 3) (q0 := 0) rfl wLW_0)) rfl rfl hl.1 rfl (lv_room (Nat.le_of_ble_eq_true rfl)) dL_law_1245 ⟨Nat.le_of_ble_eq_true rfl, Nat.le_of_ble_eq_true rfl⟩)) ?_
  refine lv_istore (lv' := [(21, .int r1245), (0, .ref b), (1, .ref (ad 0)), (2, .ref za), (3, .ref ta), (4, .int x4), (5, .int x5), (7, .int x7), (8, .int x8), (9, .int x9)]) hx hb dL_law_1248 hl (by decide) rfl (fun ls hl => ?_)
  refine lv_iload hx hb dL_law_1250 (lv_at hl 0 rfl) ?_
  refine lv_bipush (v := (6 : Int32)) hx hb dL_law_1252 (by decide) ?_
  refine lv_icmp_gt (tgt := 1336) hx hb dL_law_1254 (by decide) (fun c1254 => ?_) (fun c1254 => ?_)
  · have h := br_1 h c1254
    refine lv_iconst (v := (0 : Int32)) hx hb dL_law_1336 (by decide) ?_
    exact absurd (Option.some.inj h) (by decide)
  · have h := br_0 h c1254
    refine lv_iload hx hb dL_law_1257 (lv_at hl 0 rfl) ?_
    refine lv_if_ge (tgt := 1269) hx hb dL_law_1259 (by decide) (fun c1259 => ?_) (fun c1259 => ?_)
    · have h := br_1 h c1259
      exact LN_law_n1269 F x4 x5 x7 x8 x9 r1245 rs rm ts tm rdue rtun rsee rbeg psize pclause peff pkin pgri psig psee qsize qclause qeff qkin qgri qsig qsee cdee cnow cahe kdee know kahe fc lf told up lo zz tt C0 hret h ad _ _ ho hP hD hS _ (lv_sub hl [1, 2, 3, 4, 5, 6, 7, 8, 9, 0] rfl)
    · have h := br_0 h c1259
      refine lv_iload hx hb dL_law_1262 (lv_at hl 0 rfl) ?_
      refine lv_bipush (v := (-9 : Int32)) hx hb dL_law_1264 (by decide) ?_
      refine lv_icmp_ne (tgt := 1336) hx hb dL_law_1266 (by decide) (fun c1266 => ?_) (fun c1266 => ?_)
      · have h := br_0 h c1266
        refine lv_iconst (v := (0 : Int32)) hx hb dL_law_1336 (by decide) ?_
        exact absurd (Option.some.inj h) (by decide)
      · have h := br_1 h c1266
        exact LN_law_n1269 F x4 x5 x7 x8 x9 r1245 rs rm ts tm rdue rtun rsee rbeg psize pclause peff pkin pgri psig psee qsize qclause qeff qkin qgri qsig qsee cdee cnow cahe kdee know kahe fc lf told up lo zz tt C0 hret h ad _ _ ho hP hD hS _ (lv_sub hl [1, 2, 3, 4, 5, 6, 7, 8, 9, 0] rfl)
set_option maxHeartbeats 4000000 in
set_option maxRecDepth 100000 in
theorem LN_law_l1208 {p : Program} {l : Launch} {e : Env} {s : State} {m : MethodId} {args : Array Value} {below : List Frame} {meth : Method} {c : Code} {Q : State → Prop} {D : va_G} {T : Nat → ClassId} {b L : Nat} {xs : Nat → Int32} {A : Nat → Prop} {o0 za ta : Nat} (F : Nat) (x4 : Int32) (x5 : Int32) (x7 : Int32) (x8 : Int32) (x9 : Int32) (rs : Nat → Int32) (rm : Nat → Nat → Int32) (ts : Nat → Int32) (tm : Nat → Nat → Int32) (rdue : Int32) (rtun : Int32) (rsee : Int32) (rbeg : Int32) (psize : Int32) (pclause : Int32) (peff : Nat → Int32) (pkin : Nat → Int32) (pgri : Nat → Int32) (psig : Nat → Int32) (psee : Nat → Int32) (qsize : Int32) (qclause : Int32) (qeff : Nat → Int32) (qkin : Nat → Int32) (qgri : Nat → Int32) (qsig : Nat → Int32) (qsee : Nat → Int32) (cdee : Int32) (cnow : Int64) (cahe : Nat → Int64) (kdee : Nat → Int32) (know : Nat → Int64) (kahe : Nat → Nat → Int64) (told : Int32) (up : Int64) (lo : Int64) (zz : Nat → Int32) (tt : Nat → Int32) (C0 : SC_law p s m args c D T b L xs A) (hret : HR_law p l e s m args below meth c Q A) : ∀ (nu : Nat) (x21 : Int32) (fc : Nat → Int32) (lf : Int32), fL_law_l1208 F L xs x4 x5 x7 x8 x9 rs rm ts tm rdue rtun rsee rbeg psize pclause peff pkin pgri psig psee qsize qclause qeff qkin qgri qsig qsee cdee cnow cahe kdee know kahe told up lo zz tt nu x21 fc lf = some (1 : Int32) → ∀ (ad : Nat → Nat) (H : Heap) (locs : List Loc), ad 0 = o0 → va_P D vwCl (wLW T ad (ad 6) (ad 12) za ta rs rm ts tm rdue rtun rsee rbeg psize pclause peff pkin pgri psig psee qsize qclause qeff qkin qgri qsig qsee cdee cnow cahe kdee know kahe fc lf told up lo zz tt) H → va_D A (wLW T ad (ad 6) (ad 12) za ta rs rm ts tm rdue rtun rsee rbeg psize pclause peff pkin pgri psig psee qsize qclause qeff qkin qgri qsig qsee cdee cnow cahe kdee know kahe fc lf told up lo zz tt) → va_S A s.heap H locs → ∀ (ls : Array Slot), lv_has ls 31 [(0, .ref b), (1, .ref (ad 0)), (2, .ref za), (3, .ref ta), (4, .int x4), (5, .int x5), (7, .int x7), (8, .int x8), (9, .int x9), (21, .int x21)] → W p l e room_1 s m args below meth c H locs 40 874 Q (F0 m 1208 ls []) := by
  intro nu
  induction nu with
  | zero => intro x21 fc lf h; exact none_some h
  | succ nu ih1208 =>
    intro x21 fc lf h ad H locs ho hP hD hS ls hl
    obtain ⟨hFix, hKK, hA, hX, hbl, hbA⟩ := id C0
    obtain ⟨hx, hb, hml, hown, hts⟩ := id hFix
    have hK := hKK.1
    have h : fL_law_l1208_b F L xs x4 x5 x7 x8 x9 rs rm ts tm rdue rtun rsee rbeg psize pclause peff pkin pgri psig psee qsize qclause qeff qkin qgri qsig qsee cdee cnow cahe kdee know kahe told up lo zz tt (fL_law_l1208 F L xs x4 x5 x7 x8 x9 rs rm ts tm rdue rtun rsee rbeg psize pclause peff pkin pgri psig psee qsize qclause qeff qkin qgri qsig qsee cdee cnow cahe kdee know kahe told up lo zz tt nu) x21 fc lf = some (1 : Int32) := h
    unfold fL_law_l1208_b at h
    refine lv_iload hx hb dL_law_1208 (lv_at hl 9 rfl) ?_
    refine lv_iload hx hb dL_law_1210 (lv_at hl 4 rfl) ?_
    refine lv_icmp_ge (tgt := 1244) hx hb dL_law_1212 (by decide) (fun c1212 => ?_) (fun c1212 => ?_)
    · have h := br_1 h c1212
      exact LN_law_n1244 F x4 x5 x7 x8 x9 rs rm ts tm rdue rtun rsee rbeg psize pclause peff pkin pgri psig psee qsize qclause qeff qkin qgri qsig qsee cdee cnow cahe kdee know kahe fc lf told up lo zz tt C0 hret h ad _ _ ho hP hD hS _ (lv_sub hl [0, 1, 2, 3, 4, 5, 6, 7, 8] rfl)
    · have h := br_0 h c1212
      refine lv_aload_n hx hb dL_law_1215 rfl (lv_at hl 1 rfl) ?_
      refine lv_iload hx hb dL_law_1216 (lv_at hl 9 rfl) ?_
      refine lv_iconst (v := (4 : Int32)) hx hb dL_law_1218 (by decide) ?_
      obtain ⟨r1219, w1219_fc, w1219_lf, hc, h⟩ := bd3_some h
      have hPc : va_P D vwCl (wPW T ad (ad 6) (ad 12) rs rm ts tm rdue rtun rsee rbeg psize pclause peff pkin pgri psig psee qsize qclause qeff qkin qgri qsig qsee cdee cnow cahe kdee know kahe fc lf told up lo) _ := my_subP sb_wLW_wPW_0to37 hP
      have hDc := hD.sub [0, 1, 2, 3, 4, 5, 6, 7, 8, 9, 10, 11, 12, 13, 14, 15, 16, 17, 18, 19, 20, 21, 22, 23, 24, 25, 26, 27, 28, 29, 30, 31, 32, 33, 34, 35, 36, 37] nd_LW sb_wLW_wPW_0to37
      have hFc := va_free hD hS hA [0, 1, 2, 3, 4, 5, 6, 7, 8, 9, 10, 11, 12, 13, 14, 15, 16, 17, 18, 19, 20, 21, 22, 23, 24, 25, 26, 27, 28, 29, 30, 31, 32, 33, 34, 35, 36, 37] sb_wLW_wPW_0to37
      refine my_rwi (va_runV (As := [.int x21, .int (4 : Int32)]) (rest := []) hFix (kX5_grief l D T F ad rs rm ts tm rdue rtun rsee rbeg psize pclause peff pkin pgri psig psee qsize qclause qeff qkin qgri qsig qsee cdee cnow cahe kdee know kahe fc lf told up lo x21 (4 : Int32) r1219 w1219_fc w1219_lf hc _) (cwV 2 hts gL_law_X5_grief rfl rfl rfl ⟨rfl, hd_X5_grief⟩ ⟨Nat.le_of_ble_eq_true rfl, Nat.le_of_ble_eq_true rfl⟩) (preV_rw hPc hKK hDc (va_recv hK hP (ci := 3) (q0 := 0) rfl wLW_0)) rfl rfl hl.1 rfl (lv_room (Nat.le_of_ble_eq_true rfl)) dL_law_1219 ⟨Nat.le_of_ble_eq_true rfl, Nat.le_of_ble_eq_true rfl⟩) hS hFc (fun H1 locs hP1 hD1 hz1 hkk hS => ?_)
      obtain ⟨hP, hD⟩ := my_joinS hP hD nd_LW sb_wLW_wPW_0to37 (by rfl) hkk hFc hP1 hD1
      rw [st_LW] at hP hD
      generalize H1 = H at hP hS ⊢
      refine lv_istore (lv' := [(22, .int r1219), (0, .ref b), (1, .ref (ad 0)), (2, .ref za), (3, .ref ta), (4, .int x4), (5, .int x5), (7, .int x7), (8, .int x8), (9, .int x9), (21, .int x21)]) hx hb dL_law_1222 hl (by decide) rfl (fun ls hl => ?_)
      refine lv_iload hx hb dL_law_1224 (lv_at hl 0 rfl) ?_
      refine lv_if_lt (tgt := 1236) hx hb dL_law_1226 (by decide) (fun c1226 => ?_) (fun c1226 => ?_)
      · have h := br_1 h c1226
        refine lv_iconst (v := (0 : Int32)) hx hb dL_law_1236 (by decide) ?_
        exact absurd (Option.some.inj h) (by decide)
      · have h := br_0 h c1226
        refine lv_iload hx hb dL_law_1229 (lv_at hl 0 rfl) ?_
        refine lv_bipush (v := (20 : Int32)) hx hb dL_law_1231 (by decide) ?_
        refine lv_icmp_le (tgt := 1238) hx hb dL_law_1233 (by decide) (fun c1233 => ?_) (fun c1233 => ?_)
        · have h := br_1 h c1233
          refine lv_iinc (v := (x21 + (1 : Int32))) (lv' := [(21, .int (x21 + (1 : Int32))), (22, .int r1219), (0, .ref b), (1, .ref (ad 0)), (2, .ref za), (3, .ref ta), (4, .int x4), (5, .int x5), (7, .int x7), (8, .int x8), (9, .int x9)]) hx hb dL_law_1238 hl (k := 10) rfl rfl (by decide) rfl (fun ls hl => ?_)
          refine lv_goto (tgt := 1208) hx hb dL_law_1241 (by decide) ?_
          exact ih1208 (x21 + (1 : Int32)) w1219_fc w1219_lf h ad _ _ ho hP hD hS _ (lv_sub hl [2, 3, 4, 5, 6, 7, 8, 9, 10, 0] rfl)
        · have h := br_0 h c1233
          refine lv_iconst (v := (0 : Int32)) hx hb dL_law_1236 (by decide) ?_
          exact absurd (Option.some.inj h) (by decide)
set_option maxHeartbeats 4000000 in
set_option maxRecDepth 100000 in
theorem LN_law_n1205 {p : Program} {l : Launch} {e : Env} {s : State} {m : MethodId} {args : Array Value} {below : List Frame} {meth : Method} {c : Code} {Q : State → Prop} {D : va_G} {T : Nat → ClassId} {b L : Nat} {xs : Nat → Int32} {A : Nat → Prop} {o0 za ta : Nat} (F : Nat) (x4 : Int32) (x5 : Int32) (x7 : Int32) (x8 : Int32) (x9 : Int32) (rs : Nat → Int32) (rm : Nat → Nat → Int32) (ts : Nat → Int32) (tm : Nat → Nat → Int32) (rdue : Int32) (rtun : Int32) (rsee : Int32) (rbeg : Int32) (psize : Int32) (pclause : Int32) (peff : Nat → Int32) (pkin : Nat → Int32) (pgri : Nat → Int32) (psig : Nat → Int32) (psee : Nat → Int32) (qsize : Int32) (qclause : Int32) (qeff : Nat → Int32) (qkin : Nat → Int32) (qgri : Nat → Int32) (qsig : Nat → Int32) (qsee : Nat → Int32) (cdee : Int32) (cnow : Int64) (cahe : Nat → Int64) (kdee : Nat → Int32) (know : Nat → Int64) (kahe : Nat → Nat → Int64) (fc : Nat → Int32) (lf : Int32) (told : Int32) (up : Int64) (lo : Int64) (zz : Nat → Int32) (tt : Nat → Int32) (C0 : SC_law p s m args c D T b L xs A) (hret : HR_law p l e s m args below meth c Q A) (h : fL_law_n1205 F L xs x4 x5 x7 x8 x9 rs rm ts tm rdue rtun rsee rbeg psize pclause peff pkin pgri psig psee qsize qclause qeff qkin qgri qsig qsee cdee cnow cahe kdee know kahe fc lf told up lo zz tt = some (1 : Int32)) : ∀ (ad : Nat → Nat) (H : Heap) (locs : List Loc), ad 0 = o0 → va_P D vwCl (wLW T ad (ad 6) (ad 12) za ta rs rm ts tm rdue rtun rsee rbeg psize pclause peff pkin pgri psig psee qsize qclause qeff qkin qgri qsig qsee cdee cnow cahe kdee know kahe fc lf told up lo zz tt) H → va_D A (wLW T ad (ad 6) (ad 12) za ta rs rm ts tm rdue rtun rsee rbeg psize pclause peff pkin pgri psig psee qsize qclause qeff qkin qgri qsig qsee cdee cnow cahe kdee know kahe fc lf told up lo zz tt) → va_S A s.heap H locs → ∀ (ls : Array Slot), lv_has ls 31 [(0, .ref b), (1, .ref (ad 0)), (2, .ref za), (3, .ref ta), (4, .int x4), (5, .int x5), (7, .int x7), (8, .int x8), (9, .int x9)] → W p l e room_1 s m args below meth c H locs 40 874 Q (F0 m 1205 ls []) := by
  intro ad H locs ho hP hD hS ls hl
  obtain ⟨hFix, hKK, hA, hX, hbl, hbA⟩ := id C0
  obtain ⟨hx, hb, hml, hown, hts⟩ := id hFix
  have hK := hKK.1
  unfold fL_law_n1205 at h
  refine lv_iconst (v := (0 : Int32)) hx hb dL_law_1205 (by decide) ?_
  refine lv_istore (lv' := [(21, .int (0 : Int32)), (0, .ref b), (1, .ref (ad 0)), (2, .ref za), (3, .ref ta), (4, .int x4), (5, .int x5), (7, .int x7), (8, .int x8), (9, .int x9)]) hx hb dL_law_1206 hl (by decide) rfl (fun ls hl => ?_)
  exact LN_law_l1208 F x4 x5 x7 x8 x9 rs rm ts tm rdue rtun rsee rbeg psize pclause peff pkin pgri psig psee qsize qclause qeff qkin qgri qsig qsee cdee cnow cahe kdee know kahe told up lo zz tt C0 hret F (0 : Int32) fc lf h ad _ _ ho hP hD hS _ (lv_sub hl [1, 2, 3, 4, 5, 6, 7, 8, 9, 0] rfl)
set_option maxHeartbeats 4000000 in
set_option maxRecDepth 100000 in
theorem LN_law_n1193 {p : Program} {l : Launch} {e : Env} {s : State} {m : MethodId} {args : Array Value} {below : List Frame} {meth : Method} {c : Code} {Q : State → Prop} {D : va_G} {T : Nat → ClassId} {b L : Nat} {xs : Nat → Int32} {A : Nat → Prop} {o0 za ta : Nat} (F : Nat) (x4 : Int32) (x5 : Int32) (x7 : Int32) (x8 : Int32) (x9 : Int32) (x19 : Int32) (rs : Nat → Int32) (rm : Nat → Nat → Int32) (ts : Nat → Int32) (tm : Nat → Nat → Int32) (rdue : Int32) (rtun : Int32) (rsee : Int32) (rbeg : Int32) (psize : Int32) (pclause : Int32) (peff : Nat → Int32) (pkin : Nat → Int32) (pgri : Nat → Int32) (psig : Nat → Int32) (psee : Nat → Int32) (qsize : Int32) (qclause : Int32) (qeff : Nat → Int32) (qkin : Nat → Int32) (qgri : Nat → Int32) (qsig : Nat → Int32) (qsee : Nat → Int32) (cdee : Int32) (cnow : Int64) (cahe : Nat → Int64) (kdee : Nat → Int32) (know : Nat → Int64) (kahe : Nat → Nat → Int64) (fc : Nat → Int32) (lf : Int32) (told : Int32) (up : Int64) (lo : Int64) (zz : Nat → Int32) (tt : Nat → Int32) (C0 : SC_law p s m args c D T b L xs A) (hret : HR_law p l e s m args below meth c Q A) (h : fL_law_n1193 F L xs x4 x5 x7 x8 x9 x19 rs rm ts tm rdue rtun rsee rbeg psize pclause peff pkin pgri psig psee qsize qclause qeff qkin qgri qsig qsee cdee cnow cahe kdee know kahe fc lf told up lo zz tt = some (1 : Int32)) : ∀ (ad : Nat → Nat) (H : Heap) (locs : List Loc), ad 0 = o0 → va_P D vwCl (wLW T ad (ad 6) (ad 12) za ta rs rm ts tm rdue rtun rsee rbeg psize pclause peff pkin pgri psig psee qsize qclause qeff qkin qgri qsig qsee cdee cnow cahe kdee know kahe fc lf told up lo zz tt) H → va_D A (wLW T ad (ad 6) (ad 12) za ta rs rm ts tm rdue rtun rsee rbeg psize pclause peff pkin pgri psig psee qsize qclause qeff qkin qgri qsig qsee cdee cnow cahe kdee know kahe fc lf told up lo zz tt) → va_S A s.heap H locs → ∀ (ls : Array Slot), lv_has ls 31 [(0, .ref b), (1, .ref (ad 0)), (2, .ref za), (3, .ref ta), (4, .int x4), (5, .int x5), (7, .int x7), (8, .int x8), (9, .int x9), (19, .int x19)] → W p l e room_1 s m args below meth c H locs 40 874 Q (F0 m 1193 ls []) := by
  intro ad H locs ho hP hD hS ls hl
  obtain ⟨hFix, hKK, hA, hX, hbl, hbA⟩ := id C0
  obtain ⟨hx, hb, hml, hown, hts⟩ := id hFix
  have hK := hKK.1
  unfold fL_law_n1193 at h
  refine lv_iload hx hb dL_law_1193 (lv_at hl 9 rfl) ?_
  refine lv_bipush (v := (7 : Int32)) hx hb dL_law_1195 (by decide) ?_
  refine lv_iload hx hb dL_law_1197 (lv_at hl 4 rfl) ?_
  refine lv_imul hx hb dL_law_1199 ?_
  refine lv_icmp_le (tgt := 1205) hx hb dL_law_1200 (by decide) (fun c1200 => ?_) (fun c1200 => ?_)
  · have h := br_1 h c1200
    exact LN_law_n1205 F x4 x5 x7 x8 x9 rs rm ts tm rdue rtun rsee rbeg psize pclause peff pkin pgri psig psee qsize qclause qeff qkin qgri qsig qsee cdee cnow cahe kdee know kahe fc lf told up lo zz tt C0 hret h ad _ _ ho hP hD hS _ (lv_sub hl [0, 1, 2, 3, 4, 5, 6, 7, 8] rfl)
  · have h := br_0 h c1200
    refine lv_iconst (v := (0 : Int32)) hx hb dL_law_1203 (by decide) ?_
    exact absurd (Option.some.inj h) (by decide)
set_option maxHeartbeats 4000000 in
set_option maxRecDepth 100000 in
theorem LN_law_n1178 {p : Program} {l : Launch} {e : Env} {s : State} {m : MethodId} {args : Array Value} {below : List Frame} {meth : Method} {c : Code} {Q : State → Prop} {D : va_G} {T : Nat → ClassId} {b L : Nat} {xs : Nat → Int32} {A : Nat → Prop} {o0 za ta : Nat} (F : Nat) (s_0 : Int32) (s_1 : Int32) (x4 : Int32) (x5 : Int32) (x7 : Int32) (x8 : Int32) (x9 : Int32) (x19 : Int32) (rs : Nat → Int32) (rm : Nat → Nat → Int32) (ts : Nat → Int32) (tm : Nat → Nat → Int32) (rdue : Int32) (rtun : Int32) (rsee : Int32) (rbeg : Int32) (psize : Int32) (pclause : Int32) (peff : Nat → Int32) (pkin : Nat → Int32) (pgri : Nat → Int32) (psig : Nat → Int32) (psee : Nat → Int32) (qsize : Int32) (qclause : Int32) (qeff : Nat → Int32) (qkin : Nat → Int32) (qgri : Nat → Int32) (qsig : Nat → Int32) (qsee : Nat → Int32) (cdee : Int32) (cnow : Int64) (cahe : Nat → Int64) (kdee : Nat → Int32) (know : Nat → Int64) (kahe : Nat → Nat → Int64) (fc : Nat → Int32) (lf : Int32) (told : Int32) (up : Int64) (lo : Int64) (zz : Nat → Int32) (tt : Nat → Int32) (C0 : SC_law p s m args c D T b L xs A) (hret : HR_law p l e s m args below meth c Q A) (h : fL_law_n1178 F L xs s_0 s_1 x4 x5 x7 x8 x9 x19 rs rm ts tm rdue rtun rsee rbeg psize pclause peff pkin pgri psig psee qsize qclause qeff qkin qgri qsig qsee cdee cnow cahe kdee know kahe fc lf told up lo zz tt = some (1 : Int32)) : ∀ (ad : Nat → Nat) (H : Heap) (locs : List Loc), ad 0 = o0 → va_P D vwCl (wLW T ad (ad 6) (ad 12) za ta rs rm ts tm rdue rtun rsee rbeg psize pclause peff pkin pgri psig psee qsize qclause qeff qkin qgri qsig qsee cdee cnow cahe kdee know kahe fc lf told up lo zz tt) H → va_D A (wLW T ad (ad 6) (ad 12) za ta rs rm ts tm rdue rtun rsee rbeg psize pclause peff pkin pgri psig psee qsize qclause qeff qkin qgri qsig qsee cdee cnow cahe kdee know kahe fc lf told up lo zz tt) → va_S A s.heap H locs → ∀ (ls : Array Slot), lv_has ls 31 [(0, .ref b), (1, .ref (ad 0)), (2, .ref za), (3, .ref ta), (4, .int x4), (5, .int x5), (7, .int x7), (8, .int x8), (9, .int x9), (19, .int x19)] → W p l e room_1 s m args below meth c H locs 40 874 Q (F0 m 1178 ls [.int s_1, .int s_0]) := by
  intro ad H locs ho hP hD hS ls hl
  obtain ⟨hFix, hKK, hA, hX, hbl, hbA⟩ := id C0
  obtain ⟨hx, hb, hml, hown, hts⟩ := id hFix
  have hK := hKK.1
  unfold fL_law_n1178 at h
  refine lv_icmp_ne (tgt := 1203) hx hb dL_law_1178 (by decide) (fun c1178 => ?_) (fun c1178 => ?_)
  · have h := br_0 h c1178
    refine lv_iconst (v := (0 : Int32)) hx hb dL_law_1203 (by decide) ?_
    exact absurd (Option.some.inj h) (by decide)
  · have h := br_1 h c1178
    refine lv_iload hx hb dL_law_1181 (lv_at hl 9 rfl) ?_
    refine lv_if_ge (tgt := 1193) hx hb dL_law_1183 (by decide) (fun c1183 => ?_) (fun c1183 => ?_)
    · have h := br_1 h c1183
      exact LN_law_n1193 F x4 x5 x7 x8 x9 x19 rs rm ts tm rdue rtun rsee rbeg psize pclause peff pkin pgri psig psee qsize qclause qeff qkin qgri qsig qsee cdee cnow cahe kdee know kahe fc lf told up lo zz tt C0 hret h ad _ _ ho hP hD hS _ (lv_sub hl [0, 1, 2, 3, 4, 5, 6, 7, 8, 9] rfl)
    · have h := br_0 h c1183
      refine lv_iload hx hb dL_law_1186 (lv_at hl 9 rfl) ?_
      refine lv_bipush (v := (-9 : Int32)) hx hb dL_law_1188 (by decide) ?_
      refine lv_icmp_ne (tgt := 1203) hx hb dL_law_1190 (by decide) (fun c1190 => ?_) (fun c1190 => ?_)
      · have h := br_0 h c1190
        refine lv_iconst (v := (0 : Int32)) hx hb dL_law_1203 (by decide) ?_
        exact absurd (Option.some.inj h) (by decide)
      · have h := br_1 h c1190
        exact LN_law_n1193 F x4 x5 x7 x8 x9 x19 rs rm ts tm rdue rtun rsee rbeg psize pclause peff pkin pgri psig psee qsize qclause qeff qkin qgri qsig qsee cdee cnow cahe kdee know kahe fc lf told up lo zz tt C0 hret h ad _ _ ho hP hD hS _ (lv_sub hl [0, 1, 2, 3, 4, 5, 6, 7, 8, 9] rfl)
set_option maxHeartbeats 4000000 in
set_option maxRecDepth 100000 in
theorem LN_law_n1144 {p : Program} {l : Launch} {e : Env} {s : State} {m : MethodId} {args : Array Value} {below : List Frame} {meth : Method} {c : Code} {Q : State → Prop} {D : va_G} {T : Nat → ClassId} {b L : Nat} {xs : Nat → Int32} {A : Nat → Prop} {o0 za ta : Nat} (F : Nat) (x4 : Int32) (x5 : Int32) (x7 : Int32) (x8 : Int32) (x9 : Int32) (rs : Nat → Int32) (rm : Nat → Nat → Int32) (ts : Nat → Int32) (tm : Nat → Nat → Int32) (rdue : Int32) (rtun : Int32) (rsee : Int32) (rbeg : Int32) (psize : Int32) (pclause : Int32) (peff : Nat → Int32) (pkin : Nat → Int32) (pgri : Nat → Int32) (psig : Nat → Int32) (psee : Nat → Int32) (qsize : Int32) (qclause : Int32) (qeff : Nat → Int32) (qkin : Nat → Int32) (qgri : Nat → Int32) (qsig : Nat → Int32) (qsee : Nat → Int32) (cdee : Int32) (cnow : Int64) (cahe : Nat → Int64) (kdee : Nat → Int32) (know : Nat → Int64) (kahe : Nat → Nat → Int64) (fc : Nat → Int32) (lf : Int32) (told : Int32) (up : Int64) (lo : Int64) (zz : Nat → Int32) (tt : Nat → Int32) (C0 : SC_law p s m args c D T b L xs A) (hret : HR_law p l e s m args below meth c Q A) (h : fL_law_n1144 F L xs x4 x5 x7 x8 x9 rs rm ts tm rdue rtun rsee rbeg psize pclause peff pkin pgri psig psee qsize qclause qeff qkin qgri qsig qsee cdee cnow cahe kdee know kahe fc lf told up lo zz tt = some (1 : Int32)) : ∀ (ad : Nat → Nat) (H : Heap) (locs : List Loc), ad 0 = o0 → va_P D vwCl (wLW T ad (ad 6) (ad 12) za ta rs rm ts tm rdue rtun rsee rbeg psize pclause peff pkin pgri psig psee qsize qclause qeff qkin qgri qsig qsee cdee cnow cahe kdee know kahe fc lf told up lo zz tt) H → va_D A (wLW T ad (ad 6) (ad 12) za ta rs rm ts tm rdue rtun rsee rbeg psize pclause peff pkin pgri psig psee qsize qclause qeff qkin qgri qsig qsee cdee cnow cahe kdee know kahe fc lf told up lo zz tt) → va_S A s.heap H locs → ∀ (ls : Array Slot), lv_has ls 31 [(0, .ref b), (1, .ref (ad 0)), (2, .ref za), (3, .ref ta), (4, .int x4), (5, .int x5), (7, .int x7), (8, .int x8), (9, .int x9)] → W p l e room_1 s m args below meth c H locs 40 874 Q (F0 m 1144 ls []) := by
  intro ad H locs ho hP hD hS ls hl
  obtain ⟨hFix, hKK, hA, hX, hbl, hbA⟩ := id C0
  obtain ⟨hx, hb, hml, hown, hts⟩ := id hFix
  have hK := hKK.1
  unfold fL_law_n1144 at h
  refine lv_aload_n hx hb dL_law_1144 rfl (lv_at hl 1 rfl) ?_
  refine lv_iconst (v := (4 : Int32)) hx hb dL_law_1145 (by decide) ?_
  obtain ⟨r1146, w1146_fc, w1146_lf, hc, h⟩ := bd3_some h
  have hPc : va_P D vwCl (wPW T ad (ad 6) (ad 12) rs rm ts tm rdue rtun rsee rbeg psize pclause peff pkin pgri psig psee qsize qclause qeff qkin qgri qsig qsee cdee cnow cahe kdee know kahe fc lf told up lo) _ := my_subP sb_wLW_wPW_0to37 hP
  have hDc := hD.sub [0, 1, 2, 3, 4, 5, 6, 7, 8, 9, 10, 11, 12, 13, 14, 15, 16, 17, 18, 19, 20, 21, 22, 23, 24, 25, 26, 27, 28, 29, 30, 31, 32, 33, 34, 35, 36, 37] nd_LW sb_wLW_wPW_0to37
  have hFc := va_free hD hS hA [0, 1, 2, 3, 4, 5, 6, 7, 8, 9, 10, 11, 12, 13, 14, 15, 16, 17, 18, 19, 20, 21, 22, 23, 24, 25, 26, 27, 28, 29, 30, 31, 32, 33, 34, 35, 36, 37] sb_wLW_wPW_0to37
  refine my_rwi (va_runV (As := [.int (4 : Int32)]) (rest := []) hFix (kX5_ices l D T F ad rs rm ts tm rdue rtun rsee rbeg psize pclause peff pkin pgri psig psee qsize qclause qeff qkin qgri qsig qsee cdee cnow cahe kdee know kahe fc lf told up lo (4 : Int32) r1146 w1146_fc w1146_lf hc _) (cwV 1 hts gL_law_X5_ices rfl rfl rfl ⟨rfl, hd_X5_ices⟩ ⟨Nat.le_of_ble_eq_true rfl, Nat.le_of_ble_eq_true rfl⟩) (preV_rw hPc hKK hDc (va_recv hK hP (ci := 3) (q0 := 0) rfl wLW_0)) rfl rfl hl.1 rfl (lv_room (Nat.le_of_ble_eq_true rfl)) dL_law_1146 ⟨Nat.le_of_ble_eq_true rfl, Nat.le_of_ble_eq_true rfl⟩) hS hFc (fun H1 locs hP1 hD1 hz1 hkk hS => ?_)
  obtain ⟨hP, hD⟩ := my_joinS hP hD nd_LW sb_wLW_wPW_0to37 (by rfl) hkk hFc hP1 hD1
  rw [st_LW] at hP hD
  generalize H1 = H at hP hS ⊢
  refine lv_istore (lv' := [(19, .int r1146), (0, .ref b), (1, .ref (ad 0)), (2, .ref za), (3, .ref ta), (4, .int x4), (5, .int x5), (7, .int x7), (8, .int x8), (9, .int x9)]) hx hb dL_law_1149 hl (by decide) rfl (fun ls hl => ?_)
  refine lv_aload_n hx hb dL_law_1151 rfl (lv_at hl 2 rfl) ?_
  refine lv_iconst (v := (4 : Int32)) hx hb dL_law_1152 (by decide) ?_
  obtain ⟨r1153, w1153_fc, w1153_lf, w1153_told, hc, h⟩ := bd4_some h
  have hPc : va_P D vwCl (wPW T ad (ad 6) (ad 12) rs rm ts tm rdue rtun rsee rbeg psize pclause peff pkin pgri psig psee qsize qclause qeff qkin qgri qsig qsee cdee cnow cahe kdee know kahe w1146_fc w1146_lf told up lo) _ := my_subP sb_wLW_wPW_0to37 hP
  have hDc := hD.sub [0, 1, 2, 3, 4, 5, 6, 7, 8, 9, 10, 11, 12, 13, 14, 15, 16, 17, 18, 19, 20, 21, 22, 23, 24, 25, 26, 27, 28, 29, 30, 31, 32, 33, 34, 35, 36, 37] nd_LW sb_wLW_wPW_0to37
  have hFc := va_free hD hS hA [0, 1, 2, 3, 4, 5, 6, 7, 8, 9, 10, 11, 12, 13, 14, 15, 16, 17, 18, 19, 20, 21, 22, 23, 24, 25, 26, 27, 28, 29, 30, 31, 32, 33, 34, 35, 36, 37] sb_wLW_wPW_0to37
  refine my_rwi (va_runV (As := [.int (4 : Int32)]) (rest := []) hFix (kX5_falls l D T F ad rs rm ts tm rdue rtun rsee rbeg psize pclause peff pkin pgri psig psee qsize qclause qeff qkin qgri qsig qsee cdee cnow cahe kdee know kahe w1146_fc w1146_lf told up lo (4 : Int32) r1153 w1153_fc w1153_lf w1153_told hc _) (cwV 1 hts gL_law_X5_falls rfl rfl rfl ⟨rfl, hd_X5_falls⟩ ⟨Nat.le_of_ble_eq_true rfl, Nat.le_of_ble_eq_true rfl⟩) (preV_rw hPc hKK hDc (va_recv hK hP (ci := 3) (q0 := 0) rfl wLW_0)) rfl rfl hl.1 rfl (lv_room (Nat.le_of_ble_eq_true rfl)) dL_law_1153 ⟨Nat.le_of_ble_eq_true rfl, Nat.le_of_ble_eq_true rfl⟩) hS hFc (fun H1 locs hP1 hD1 hz1 hkk hS => ?_)
  obtain ⟨hP, hD⟩ := my_joinS hP hD nd_LW sb_wLW_wPW_0to37 (by rfl) hkk hFc hP1 hD1
  rw [st_LW] at hP hD
  generalize H1 = H at hP hS ⊢
  refine lv_istore (lv' := [(20, .int r1153), (19, .int r1146), (0, .ref b), (1, .ref (ad 0)), (2, .ref za), (3, .ref ta), (4, .int x4), (5, .int x5), (7, .int x7), (8, .int x8), (9, .int x9)]) hx hb dL_law_1156 hl (by decide) rfl (fun ls hl => ?_)
  refine lv_iload hx hb dL_law_1158 (lv_at hl 1 rfl) ?_
  refine lv_if_ne (tgt := 1167) hx hb dL_law_1160 (by decide) (fun c1160 => ?_) (fun c1160 => ?_)
  · have h := br_0 h c1160
    refine lv_iconst (v := (0 : Int32)) hx hb dL_law_1167 (by decide) ?_
    refine lv_iload hx hb dL_law_1168 (lv_at hl 0 rfl) ?_
    refine lv_if_ge (tgt := 1177) hx hb dL_law_1170 (by decide) (fun c1170 => ?_) (fun c1170 => ?_)
    · have h := br_1 h c1170
      refine lv_iconst (v := (0 : Int32)) hx hb dL_law_1177 (by decide) ?_
      exact LN_law_n1178 F (0 : Int32) (0 : Int32) x4 x5 x7 x8 x9 r1146 rs rm ts tm rdue rtun rsee rbeg psize pclause peff pkin pgri psig psee qsize qclause qeff qkin qgri qsig qsee cdee cnow cahe kdee know kahe w1153_fc w1153_lf w1153_told up lo zz tt C0 hret h ad _ _ ho hP hD hS _ (lv_sub hl [2, 3, 4, 5, 6, 7, 8, 9, 10, 1] rfl)
    · have h := br_0 h c1170
      refine lv_iconst (v := (1 : Int32)) hx hb dL_law_1173 (by decide) ?_
      refine lv_goto (tgt := 1178) hx hb dL_law_1174 (by decide) ?_
      exact LN_law_n1178 F (0 : Int32) (1 : Int32) x4 x5 x7 x8 x9 r1146 rs rm ts tm rdue rtun rsee rbeg psize pclause peff pkin pgri psig psee qsize qclause qeff qkin qgri qsig qsee cdee cnow cahe kdee know kahe w1153_fc w1153_lf w1153_told up lo zz tt C0 hret h ad _ _ ho hP hD hS _ (lv_sub hl [2, 3, 4, 5, 6, 7, 8, 9, 10, 1] rfl)
  · have h := br_1 h c1160
    refine lv_iconst (v := (1 : Int32)) hx hb dL_law_1163 (by decide) ?_
    refine lv_goto (tgt := 1168) hx hb dL_law_1164 (by decide) ?_
    refine lv_iload hx hb dL_law_1168 (lv_at hl 0 rfl) ?_
    refine lv_if_ge (tgt := 1177) hx hb dL_law_1170 (by decide) (fun c1170 => ?_) (fun c1170 => ?_)
    · have h := br_1 h c1170
      refine lv_iconst (v := (0 : Int32)) hx hb dL_law_1177 (by decide) ?_
      exact LN_law_n1178 F (1 : Int32) (0 : Int32) x4 x5 x7 x8 x9 r1146 rs rm ts tm rdue rtun rsee rbeg psize pclause peff pkin pgri psig psee qsize qclause qeff qkin qgri qsig qsee cdee cnow cahe kdee know kahe w1153_fc w1153_lf w1153_told up lo zz tt C0 hret h ad _ _ ho hP hD hS _ (lv_sub hl [2, 3, 4, 5, 6, 7, 8, 9, 10, 1] rfl)
    · have h := br_0 h c1170
      refine lv_iconst (v := (1 : Int32)) hx hb dL_law_1173 (by decide) ?_
      refine lv_goto (tgt := 1178) hx hb dL_law_1174 (by decide) ?_
      exact LN_law_n1178 F (1 : Int32) (1 : Int32) x4 x5 x7 x8 x9 r1146 rs rm ts tm rdue rtun rsee rbeg psize pclause peff pkin pgri psig psee qsize qclause qeff qkin qgri qsig qsee cdee cnow cahe kdee know kahe w1153_fc w1153_lf w1153_told up lo zz tt C0 hret h ad _ _ ho hP hD hS _ (lv_sub hl [2, 3, 4, 5, 6, 7, 8, 9, 10, 1] rfl)
