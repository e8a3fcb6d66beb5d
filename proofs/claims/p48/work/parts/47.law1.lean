set_option maxHeartbeats 4000000 in
set_option maxRecDepth 100000 in
theorem LN_law_n300 {p : Program} {l : Launch} {e : Env} {s : State} {m : MethodId} {args : Array Value} {below : List Frame} {meth : Method} {c : Code} {Q : State → Prop} {D : va_G} {T : Nat → ClassId} {b L : Nat} {xs : Nat → Int32} {A : Nat → Prop} {o0 za ta : Nat} (F : Nat) (s69 : Int32 → Int32 → Int64 → (Nat → Int64) → Int32 → Option (Int32)) (s_0 : Int32) (x4 : Int32) (x5 : Int32) (x6 : Int32) (x7 : Int32) (x8 : Int32) (x9 : Int32) (x10 : Int32) (x11 : Int32) (x12 : Int32) (x14 : Int32) (x15 : Int32) (x16 : Int32) (rs : Nat → Int32) (rm : Nat → Nat → Int32) (ts : Nat → Int32) (tm : Nat → Nat → Int32) (rdue : Int32) (rtun : Int32) (rsee : Int32) (rbeg : Int32) (psize : Int32) (pclause : Int32) (peff : Nat → Int32) (pkin : Nat → Int32) (pgri : Nat → Int32) (psig : Nat → Int32) (psee : Nat → Int32) (qsize : Int32) (qclause : Int32) (qeff : Nat → Int32) (qkin : Nat → Int32) (qgri : Nat → Int32) (qsig : Nat → Int32) (qsee : Nat → Int32) (cdee : Int32) (cnow : Int64) (cahe : Nat → Int64) (kdee : Nat → Int32) (know : Nat → Int64) (kahe : Nat → Nat → Int64) (fc : Nat → Int32) (lf : Int32) (told : Int32) (up : Int64) (lo : Int64) (zz : Nat → Int32) (tt : Nat → Int32) (C0 : SC_law p s m args c D T b L xs A) (hret : HR_law p l e s m args below meth c Q A) (ih69 : ∀ x7 : Int32, ∀ cdee : Int32, ∀ cnow : Int64, ∀ cahe : Nat → Int64, ∀ told : Int32, s69 x7 cdee cnow cahe told = some (1 : Int32) → ∀ (ad : Nat → Nat) (H : Heap) (locs : List Loc), ad 0 = o0 → va_P D vwCl (wLW T ad (ad 6) (ad 12) za ta rs rm ts tm rdue rtun rsee rbeg psize pclause peff pkin pgri psig psee qsize qclause qeff qkin qgri qsig qsee cdee cnow cahe kdee know kahe fc lf told up lo zz tt) H → va_D A (wLW T ad (ad 6) (ad 12) za ta rs rm ts tm rdue rtun rsee rbeg psize pclause peff pkin pgri psig psee qsize qclause qeff qkin qgri qsig qsee cdee cnow cahe kdee know kahe fc lf told up lo zz tt) → va_S A s.heap H locs → ∀ (ls : Array Slot), lv_has ls 31 [(0, .ref b), (1, .ref (ad 0)), (2, .ref za), (3, .ref ta), (4, .int x4), (5, .int x5), (6, .int x6), (7, .int x7)] → W p l e room_1 s m args below meth c H locs 40 874 Q (F0 m 69 ls [])) (h : fL_law_n300 F s69 L xs s_0 x4 x5 x6 x7 x8 x9 x10 x11 x12 x14 x15 x16 rs rm ts tm rdue rtun rsee rbeg psize pclause peff pkin pgri psig psee qsize qclause qeff qkin qgri qsig qsee cdee cnow cahe kdee know kahe fc lf told up lo zz tt = some (1 : Int32)) : ∀ (ad : Nat → Nat) (H : Heap) (locs : List Loc), ad 0 = o0 → va_P D vwCl (wLW T ad (ad 6) (ad 12) za ta rs rm ts tm rdue rtun rsee rbeg psize pclause peff pkin pgri psig psee qsize qclause qeff qkin qgri qsig qsee cdee cnow cahe kdee know kahe fc lf told up lo zz tt) H → va_D A (wLW T ad (ad 6) (ad 12) za ta rs rm ts tm rdue rtun rsee rbeg psize pclause peff pkin pgri psig psee qsize qclause qeff qkin qgri qsig qsee cdee cnow cahe kdee know kahe fc lf told up lo zz tt) → va_S A s.heap H locs → ∀ (ls : Array Slot), lv_has ls 31 [(0, .ref b), (1, .ref (ad 0)), (2, .ref za), (3, .ref ta), (4, .int x4), (5, .int x5), (6, .int x6), (7, .int x7), (8, .int x8), (9, .int x9), (10, .int x10), (11, .int x11), (12, .int x12), (14, .int x14), (15, .int x15), (16, .int x16)] → W p l e room_1 s m args below meth c H locs 40 874 Q (F0 m 300 ls [.int s_0]) := by
  intro ad H locs ho hP hD hS ls hl
  obtain ⟨hFix, hKK, hA, hX, hbl, hbA⟩ := id C0
  obtain ⟨hx, hb, hml, hown, hts⟩ := id hFix
  have hK := hKK.1
  unfold fL_law_n300 at h
  refine lv_istore (lv' := [(19, .int s_0), (0, .ref b), (1, .ref (ad 0)), (2, .ref za), (3, .ref ta), (4, .int x4), (5, .int x5), (6, .int x6), (7, .int x7), (8, .int x8), (9, .int x9), (10, .int x10), (11, .int x11), (12, .int x12), (14, .int x14), (15, .int x15), (16, .int x16)]) hx hb dL_law_300 hl (by decide) rfl (fun ls hl => ?_)
  refine lv_iload hx hb dL_law_302 (lv_at hl 16 rfl) ?_
  refine lv_iconst (v := (3 : Int32)) hx hb dL_law_304 (by decide) ?_
  refine lv_icmp_ne (tgt := 317) hx hb dL_law_305 (by decide) (fun c305 => ?_) (fun c305 => ?_)
  · have h := br_0 h c305
    refine lv_aload_n hx hb dL_law_317 rfl (lv_at hl 2 rfl) ?_
    refine lv_iload hx hb dL_law_318 (lv_at hl 13 rfl) ?_
    obtain ⟨r320, w320_cdee, w320_cnow, w320_cahe, hc, h⟩ := bd4_some h
    have hPc : va_P D vwCl (wPW T ad (ad 6) (ad 12) rs rm ts tm rdue rtun rsee rbeg psize pclause peff pkin pgri psig psee qsize qclause qeff qkin qgri qsig qsee cdee cnow cahe kdee know kahe fc lf told up lo) _ := my_subP sb_wLW_wPW_0to37 hP
    have hDc := hD.sub [0, 1, 2, 3, 4, 5, 6, 7, 8, 9, 10, 11, 12, 13, 14, 15, 16, 17, 18, 19, 20, 21, 22, 23, 24, 25, 26, 27, 28, 29, 30, 31, 32, 33, 34, 35, 36, 37] nd_LW sb_wLW_wPW_0to37
    have hFc := va_free hD hS hA [0, 1, 2, 3, 4, 5, 6, 7, 8, 9, 10, 11, 12, 13, 14, 15, 16, 17, 18, 19, 20, 21, 22, 23, 24, 25, 26, 27, 28, 29, 30, 31, 32, 33, 34, 35, 36, 37] sb_wLW_wPW_0to37
    refine my_rwi (va_runV (As := [.int x12]) (rest := []) hFix (kX5_ice l D T F ad rs rm ts tm rdue rtun rsee rbeg psize pclause peff pkin pgri psig psee qsize qclause qeff qkin qgri qsig qsee cdee cnow cahe kdee know kahe fc lf told up lo x12 r320 w320_cdee w320_cnow w320_cahe hc _) (cwV 1 hts gL_law_X5_ice rfl rfl rfl ⟨rfl, hd_X5_ice⟩ ⟨Nat.le_of_ble_eq_true rfl, Nat.le_of_ble_eq_true rfl⟩) (preV_rw hPc hKK hDc (va_recv hK hP (ci := 3) (q0 := 0) rfl wLW_0)) rfl rfl hl.1 rfl (lv_room (Nat.le_of_ble_eq_true rfl)) dL_law_320 ⟨Nat.le_of_ble_eq_true rfl, Nat.le_of_ble_eq_true rfl⟩) hS hFc (fun H1 locs hP1 hD1 hz1 hkk hS => ?_)
    obtain ⟨hP, hD⟩ := my_joinS hP hD nd_LW sb_wLW_wPW_0to37 (by rfl) hkk hFc hP1 hD1
    rw [st_LW] at hP hD
    generalize H1 = H at hP hS ⊢
    refine lv_istore (lv' := [(17, .int r320), (19, .int s_0), (0, .ref b), (1, .ref (ad 0)), (2, .ref za), (3, .ref ta), (4, .int x4), (5, .int x5), (6, .int x6), (7, .int x7), (8, .int x8), (9, .int x9), (10, .int x10), (11, .int x11), (12, .int x12), (14, .int x14), (15, .int x15), (16, .int x16)]) hx hb dL_law_323 hl (by decide) rfl (fun ls hl => ?_)
    refine lv_iload hx hb dL_law_325 (lv_at hl 0 rfl) ?_
    refine lv_if_ge (tgt := 334) hx hb dL_law_327 (by decide) (fun c327 => ?_) (fun c327 => ?_)
    · have h := br_1 h c327
      refine lv_iconst (v := (0 : Int32)) hx hb dL_law_334 (by decide) ?_
      exact LN_law_n335 F s69 (0 : Int32) x4 x5 x6 x7 x8 x9 x10 x11 x14 x15 r320 s_0 rs rm ts tm rdue rtun rsee rbeg psize pclause peff pkin pgri psig psee qsize qclause qeff qkin qgri qsig qsee w320_cdee w320_cnow w320_cahe kdee know kahe fc lf told up lo zz tt C0 hret ih69 h ad _ _ ho hP hD hS _ (lv_sub hl [2, 3, 4, 5, 6, 7, 8, 9, 10, 11, 12, 13, 15, 16, 0, 1] rfl)
    · have h := br_0 h c327
      refine lv_iconst (v := (1 : Int32)) hx hb dL_law_330 (by decide) ?_
      refine lv_goto (tgt := 335) hx hb dL_law_331 (by decide) ?_
      exact LN_law_n335 F s69 (1 : Int32) x4 x5 x6 x7 x8 x9 x10 x11 x14 x15 r320 s_0 rs rm ts tm rdue rtun rsee rbeg psize pclause peff pkin pgri psig psee qsize qclause qeff qkin qgri qsig qsee w320_cdee w320_cnow w320_cahe kdee know kahe fc lf told up lo zz tt C0 hret ih69 h ad _ _ ho hP hD hS _ (lv_sub hl [2, 3, 4, 5, 6, 7, 8, 9, 10, 11, 12, 13, 15, 16, 0, 1] rfl)
  · have h := br_1 h c305
    refine lv_aload_n hx hb dL_law_308 rfl (lv_at hl 2 rfl) ?_
    refine lv_iload hx hb dL_law_309 (lv_at hl 13 rfl) ?_
    obtain ⟨r311, w311_cdee, w311_cnow, w311_cahe, hc, h⟩ := bd4_some h
    have hPc : va_P D vwCl (wPW T ad (ad 6) (ad 12) rs rm ts tm rdue rtun rsee rbeg psize pclause peff pkin pgri psig psee qsize qclause qeff qkin qgri qsig qsee cdee cnow cahe kdee know kahe fc lf told up lo) _ := my_subP sb_wLW_wPW_0to37 hP
    have hDc := hD.sub [0, 1, 2, 3, 4, 5, 6, 7, 8, 9, 10, 11, 12, 13, 14, 15, 16, 17, 18, 19, 20, 21, 22, 23, 24, 25, 26, 27, 28, 29, 30, 31, 32, 33, 34, 35, 36, 37] nd_LW sb_wLW_wPW_0to37
    have hFc := va_free hD hS hA [0, 1, 2, 3, 4, 5, 6, 7, 8, 9, 10, 11, 12, 13, 14, 15, 16, 17, 18, 19, 20, 21, 22, 23, 24, 25, 26, 27, 28, 29, 30, 31, 32, 33, 34, 35, 36, 37] sb_wLW_wPW_0to37
    refine my_rwi (va_runV (As := [.int x12]) (rest := []) hFix (kX5_say l D T F ad rs rm ts tm rdue rtun rsee rbeg psize pclause peff pkin pgri psig psee qsize qclause qeff qkin qgri qsig qsee cdee cnow cahe kdee know kahe fc lf told up lo x12 r311 w311_cdee w311_cnow w311_cahe hc _) (cwV 1 hts gL_law_X5_say rfl rfl rfl ⟨rfl, hd_X5_say⟩ ⟨Nat.le_of_ble_eq_true rfl, Nat.le_of_ble_eq_true rfl⟩) (preV_rw hPc hKK hDc (va_recv hK hP (ci := 3) (q0 := 0) rfl wLW_0)) rfl rfl hl.1 rfl (lv_room (Nat.le_of_ble_eq_true rfl)) dL_law_311 ⟨Nat.le_of_ble_eq_true rfl, Nat.le_of_ble_eq_true rfl⟩) hS hFc (fun H1 locs hP1 hD1 hz1 hkk hS => ?_)
    obtain ⟨hP, hD⟩ := my_joinS hP hD nd_LW sb_wLW_wPW_0to37 (by rfl) hkk hFc hP1 hD1
    rw [st_LW] at hP hD
    generalize H1 = H at hP hS ⊢
    refine lv_goto (tgt := 323) hx hb dL_law_314 (by decide) ?_
    refine lv_istore (lv' := [(17, .int r311), (19, .int s_0), (0, .ref b), (1, .ref (ad 0)), (2, .ref za), (3, .ref ta), (4, .int x4), (5, .int x5), (6, .int x6), (7, .int x7), (8, .int x8), (9, .int x9), (10, .int x10), (11, .int x11), (12, .int x12), (14, .int x14), (15, .int x15), (16, .int x16)]) hx hb dL_law_323 hl (by decide) rfl (fun ls hl => ?_)
    refine lv_iload hx hb dL_law_325 (lv_at hl 0 rfl) ?_
    refine lv_if_ge (tgt := 334) hx hb dL_law_327 (by decide) (fun c327 => ?_) (fun c327 => ?_)
    · have h := br_1 h c327
      refine lv_iconst (v := (0 : Int32)) hx hb dL_law_334 (by decide) ?_
      exact LN_law_n335 F s69 (0 : Int32) x4 x5 x6 x7 x8 x9 x10 x11 x14 x15 r311 s_0 rs rm ts tm rdue rtun rsee rbeg psize pclause peff pkin pgri psig psee qsize qclause qeff qkin qgri qsig qsee w311_cdee w311_cnow w311_cahe kdee know kahe fc lf told up lo zz tt C0 hret ih69 h ad _ _ ho hP hD hS _ (lv_sub hl [2, 3, 4, 5, 6, 7, 8, 9, 10, 11, 12, 13, 15, 16, 0, 1] rfl)
    · have h := br_0 h c327
      refine lv_iconst (v := (1 : Int32)) hx hb dL_law_330 (by decide) ?_
      refine lv_goto (tgt := 335) hx hb dL_law_331 (by decide) ?_
      exact LN_law_n335 F s69 (1 : Int32) x4 x5 x6 x7 x8 x9 x10 x11 x14 x15 r311 s_0 rs rm ts tm rdue rtun rsee rbeg psize pclause peff pkin pgri psig psee qsize qclause qeff qkin qgri qsig qsee w311_cdee w311_cnow w311_cahe kdee know kahe fc lf told up lo zz tt C0 hret ih69 h ad _ _ ho hP hD hS _ (lv_sub hl [2, 3, 4, 5, 6, 7, 8, 9, 10, 11, 12, 13, 15, 16, 0, 1] rfl)
set_option maxHeartbeats 4000000 in
set_option maxRecDepth 100000 in
theorem LN_law_n284 {p : Program} {l : Launch} {e : Env} {s : State} {m : MethodId} {args : Array Value} {below : List Frame} {meth : Method} {c : Code} {Q : State → Prop} {D : va_G} {T : Nat → ClassId} {b L : Nat} {xs : Nat → Int32} {A : Nat → Prop} {o0 za ta : Nat} (F : Nat) (s69 : Int32 → Int32 → Int64 → (Nat → Int64) → Int32 → Option (Int32)) (x4 : Int32) (x5 : Int32) (x6 : Int32) (x7 : Int32) (x8 : Int32) (x9 : Int32) (x10 : Int32) (x11 : Int32) (x12 : Int32) (x14 : Int32) (x15 : Int32) (x16 : Int32) (rs : Nat → Int32) (rm : Nat → Nat → Int32) (ts : Nat → Int32) (tm : Nat → Nat → Int32) (rdue : Int32) (rtun : Int32) (rsee : Int32) (rbeg : Int32) (psize : Int32) (pclause : Int32) (peff : Nat → Int32) (pkin : Nat → Int32) (pgri : Nat → Int32) (psig : Nat → Int32) (psee : Nat → Int32) (qsize : Int32) (qclause : Int32) (qeff : Nat → Int32) (qkin : Nat → Int32) (qgri : Nat → Int32) (qsig : Nat → Int32) (qsee : Nat → Int32) (cdee : Int32) (cnow : Int64) (cahe : Nat → Int64) (kdee : Nat → Int32) (know : Nat → Int64) (kahe : Nat → Nat → Int64) (fc : Nat → Int32) (lf : Int32) (told : Int32) (up : Int64) (lo : Int64) (zz : Nat → Int32) (tt : Nat → Int32) (C0 : SC_law p s m args c D T b L xs A) (hret : HR_law p l e s m args below meth c Q A) (ih69 : ∀ x7 : Int32, ∀ cdee : Int32, ∀ cnow : Int64, ∀ cahe : Nat → Int64, ∀ told : Int32, s69 x7 cdee cnow cahe told = some (1 : Int32) → ∀ (ad : Nat → Nat) (H : Heap) (locs : List Loc), ad 0 = o0 → va_P D vwCl (wLW T ad (ad 6) (ad 12) za ta rs rm ts tm rdue rtun rsee rbeg psize pclause peff pkin pgri psig psee qsize qclause qeff qkin qgri qsig qsee cdee cnow cahe kdee know kahe fc lf told up lo zz tt) H → va_D A (wLW T ad (ad 6) (ad 12) za ta rs rm ts tm rdue rtun rsee rbeg psize pclause peff pkin pgri psig psee qsize qclause qeff qkin qgri qsig qsee cdee cnow cahe kdee know kahe fc lf told up lo zz tt) → va_S A s.heap H locs → ∀ (ls : Array Slot), lv_has ls 31 [(0, .ref b), (1, .ref (ad 0)), (2, .ref za), (3, .ref ta), (4, .int x4), (5, .int x5), (6, .int x6), (7, .int x7)] → W p l e room_1 s m args below meth c H locs 40 874 Q (F0 m 69 ls [])) (h : fL_law_n284 F s69 L xs x4 x5 x6 x7 x8 x9 x10 x11 x12 x14 x15 x16 rs rm ts tm rdue rtun rsee rbeg psize pclause peff pkin pgri psig psee qsize qclause qeff qkin qgri qsig qsee cdee cnow cahe kdee know kahe fc lf told up lo zz tt = some (1 : Int32)) : ∀ (ad : Nat → Nat) (H : Heap) (locs : List Loc), ad 0 = o0 → va_P D vwCl (wLW T ad (ad 6) (ad 12) za ta rs rm ts tm rdue rtun rsee rbeg psize pclause peff pkin pgri psig psee qsize qclause qeff qkin qgri qsig qsee cdee cnow cahe kdee know kahe fc lf told up lo zz tt) H → va_D A (wLW T ad (ad 6) (ad 12) za ta rs rm ts tm rdue rtun rsee rbeg psize pclause peff pkin pgri psig psee qsize qclause qeff qkin qgri qsig qsee cdee cnow cahe kdee know kahe fc lf told up lo zz tt) → va_S A s.heap H locs → ∀ (ls : Array Slot), lv_has ls 31 [(0, .ref b), (1, .ref (ad 0)), (2, .ref za), (3, .ref ta), (4, .int x4), (5, .int x5), (6, .int x6), (7, .int x7), (8, .int x8), (9, .int x9), (10, .int x10), (11, .int x11), (12, .int x12), (14, .int x14), (15, .int x15), (16, .int x16)] → W p l e room_1 s m args below meth c H locs 40 874 Q (F0 m 284 ls []) := by
  intro ad H locs ho hP hD hS ls hl
  obtain ⟨hFix, hKK, hA, hX, hbl, hbA⟩ := id C0
  obtain ⟨hx, hb, hml, hown, hts⟩ := id hFix
  have hK := hKK.1
  unfold fL_law_n284 at h
  refine lv_iload hx hb dL_law_284 (lv_at hl 13 rfl) ?_
  refine lv_iload hx hb dL_law_286 (lv_at hl 12 rfl) ?_
  refine lv_ishr hx hb dL_law_288 ?_
  refine lv_iconst (v := (1 : Int32)) hx hb dL_law_289 (by decide) ?_
  refine lv_iand hx hb dL_law_290 ?_
  refine lv_iconst (v := (1 : Int32)) hx hb dL_law_291 (by decide) ?_
  refine lv_icmp_ne (tgt := 299) hx hb dL_law_292 (by decide) (fun c292 => ?_) (fun c292 => ?_)
  · have h := br_0 h c292
    refine lv_iconst (v := (0 : Int32)) hx hb dL_law_299 (by decide) ?_
    exact LN_law_n300 F s69 (0 : Int32) x4 x5 x6 x7 x8 x9 x10 x11 x12 x14 x15 x16 rs rm ts tm rdue rtun rsee rbeg psize pclause peff pkin pgri psig psee qsize qclause qeff qkin qgri qsig qsee cdee cnow cahe kdee know kahe fc lf told up lo zz tt C0 hret ih69 h ad _ _ ho hP hD hS _ (lv_sub hl [0, 1, 2, 3, 4, 5, 6, 7, 8, 9, 10, 11, 12, 13, 14, 15] rfl)
  · have h := br_1 h c292
    refine lv_iconst (v := (1 : Int32)) hx hb dL_law_295 (by decide) ?_
    refine lv_goto (tgt := 300) hx hb dL_law_296 (by decide) ?_
    exact LN_law_n300 F s69 (1 : Int32) x4 x5 x6 x7 x8 x9 x10 x11 x12 x14 x15 x16 rs rm ts tm rdue rtun rsee rbeg psize pclause peff pkin pgri psig psee qsize qclause qeff qkin qgri qsig qsee cdee cnow cahe kdee know kahe fc lf told up lo zz tt C0 hret ih69 h ad _ _ ho hP hD hS _ (lv_sub hl [0, 1, 2, 3, 4, 5, 6, 7, 8, 9, 10, 11, 12, 13, 14, 15] rfl)
set_option maxHeartbeats 4000000 in
set_option maxRecDepth 100000 in
theorem LN_law_n190 {p : Program} {l : Launch} {e : Env} {s : State} {m : MethodId} {args : Array Value} {below : List Frame} {meth : Method} {c : Code} {Q : State → Prop} {D : va_G} {T : Nat → ClassId} {b L : Nat} {xs : Nat → Int32} {A : Nat → Prop} {o0 za ta : Nat} (F : Nat) (s69 : Int32 → Int32 → Int64 → (Nat → Int64) → Int32 → Option (Int32)) (x4 : Int32) (x5 : Int32) (x6 : Int32) (x7 : Int32) (x8 : Int32) (x9 : Int32) (x10 : Int32) (x11 : Int32) (x12 : Int32) (x13 : Int32) (x14 : Int32) (x15 : Int32) (rs : Nat → Int32) (rm : Nat → Nat → Int32) (ts : Nat → Int32) (tm : Nat → Nat → Int32) (rdue : Int32) (rtun : Int32) (rsee : Int32) (rbeg : Int32) (psize : Int32) (pclause : Int32) (peff : Nat → Int32) (pkin : Nat → Int32) (pgri : Nat → Int32) (psig : Nat → Int32) (psee : Nat → Int32) (qsize : Int32) (qclause : Int32) (qeff : Nat → Int32) (qkin : Nat → Int32) (qgri : Nat → Int32) (qsig : Nat → Int32) (qsee : Nat → Int32) (cdee : Int32) (cnow : Int64) (cahe : Nat → Int64) (kdee : Nat → Int32) (know : Nat → Int64) (kahe : Nat → Nat → Int64) (fc : Nat → Int32) (lf : Int32) (told : Int32) (up : Int64) (lo : Int64) (zz : Nat → Int32) (tt : Nat → Int32) (C0 : SC_law p s m args c D T b L xs A) (hret : HR_law p l e s m args below meth c Q A) (ih69 : ∀ x7 : Int32, ∀ cdee : Int32, ∀ cnow : Int64, ∀ cahe : Nat → Int64, ∀ told : Int32, s69 x7 cdee cnow cahe told = some (1 : Int32) → ∀ (ad : Nat → Nat) (H : Heap) (locs : List Loc), ad 0 = o0 → va_P D vwCl (wLW T ad (ad 6) (ad 12) za ta rs rm ts tm rdue rtun rsee rbeg psize pclause peff pkin pgri psig psee qsize qclause qeff qkin qgri qsig qsee cdee cnow cahe kdee know kahe fc lf told up lo zz tt) H → va_D A (wLW T ad (ad 6) (ad 12) za ta rs rm ts tm rdue rtun rsee rbeg psize pclause peff pkin pgri psig psee qsize qclause qeff qkin qgri qsig qsee cdee cnow cahe kdee know kahe fc lf told up lo zz tt) → va_S A s.heap H locs → ∀ (ls : Array Slot), lv_has ls 31 [(0, .ref b), (1, .ref (ad 0)), (2, .ref za), (3, .ref ta), (4, .int x4), (5, .int x5), (6, .int x6), (7, .int x7)] → W p l e room_1 s m args below meth c H locs 40 874 Q (F0 m 69 ls [])) (h : fL_law_n190 F s69 L xs x4 x5 x6 x7 x8 x9 x10 x11 x12 x13 x14 x15 rs rm ts tm rdue rtun rsee rbeg psize pclause peff pkin pgri psig psee qsize qclause qeff qkin qgri qsig qsee cdee cnow cahe kdee know kahe fc lf told up lo zz tt = some (1 : Int32)) : ∀ (ad : Nat → Nat) (H : Heap) (locs : List Loc), ad 0 = o0 → va_P D vwCl (wLW T ad (ad 6) (ad 12) za ta rs rm ts tm rdue rtun rsee rbeg psize pclause peff pkin pgri psig psee qsize qclause qeff qkin qgri qsig qsee cdee cnow cahe kdee know kahe fc lf told up lo zz tt) H → va_D A (wLW T ad (ad 6) (ad 12) za ta rs rm ts tm rdue rtun rsee rbeg psize pclause peff pkin pgri psig psee qsize qclause qeff qkin qgri qsig qsee cdee cnow cahe kdee know kahe fc lf told up lo zz tt) → va_S A s.heap H locs → ∀ (ls : Array Slot), lv_has ls 31 [(0, .ref b), (1, .ref (ad 0)), (2, .ref za), (3, .ref ta), (4, .int x4), (5, .int x5), (6, .int x6), (7, .int x7), (8, .int x8), (9, .int x9), (10, .int x10), (11, .int x11), (12, .int x12), (13, .int x13), (14, .int x14), (15, .int x15)] → W p l e room_1 s m args below meth c H locs 40 874 Q (F0 m 190 ls []) := by
  intro ad H locs ho hP hD hS ls hl
  obtain ⟨hFix, hKK, hA, hX, hbl, hbA⟩ := id C0
  obtain ⟨hx, hb, hml, hown, hts⟩ := id hFix
  have hK := hKK.1
  unfold fL_law_n190 at h
  refine lv_iload hx hb dL_law_190 (lv_at hl 8 rfl) ?_
  refine lv_iconst (v := (5 : Int32)) hx hb dL_law_192 (by decide) ?_
  obtain ⟨r193, hc, h⟩ := bd1_some h
  refine my_roi (va_Run.run (va_runS (As := [.int x8, .int (5 : Int32)]) (rest := []) hFix (kL_part l D T F x8 (5 : Int32) r193 hc) (va_cwS 2 hts gL_law_L_part rfl rfl rfl hd_L_part ⟨Nat.le_of_ble_eq_true rfl, Nat.le_of_ble_eq_true rfl⟩) (preS_ro va_nil hKK) rfl rfl hl.1 rfl (lv_room (Nat.le_of_ble_eq_true rfl)) dL_law_193 ⟨Nat.le_of_ble_eq_true rfl, Nat.le_of_ble_eq_true rfl⟩)) ?_
  refine lv_istore (lv' := [(16, .int r193), (0, .ref b), (1, .ref (ad 0)), (2, .ref za), (3, .ref ta), (4, .int x4), (5, .int x5), (6, .int x6), (7, .int x7), (8, .int x8), (9, .int x9), (10, .int x10), (11, .int x11), (12, .int x12), (13, .int x13), (14, .int x14), (15, .int x15)]) hx hb dL_law_196 hl (by decide) rfl (fun ls hl => ?_)
  refine lv_iconst (v := (-1 : Int32)) hx hb dL_law_198 (by decide) ?_
  refine lv_istore (lv' := [(17, .int (-1 : Int32)), (16, .int r193), (0, .ref b), (1, .ref (ad 0)), (2, .ref za), (3, .ref ta), (4, .int x4), (5, .int x5), (6, .int x6), (7, .int x7), (8, .int x8), (9, .int x9), (10, .int x10), (11, .int x11), (12, .int x12), (13, .int x13), (14, .int x14), (15, .int x15)]) hx hb dL_law_199 hl (by decide) rfl (fun ls hl => ?_)
  refine lv_iconst (v := (0 : Int32)) hx hb dL_law_201 (by decide) ?_
  refine lv_istore (lv' := [(18, .int (0 : Int32)), (17, .int (-1 : Int32)), (16, .int r193), (0, .ref b), (1, .ref (ad 0)), (2, .ref za), (3, .ref ta), (4, .int x4), (5, .int x5), (6, .int x6), (7, .int x7), (8, .int x8), (9, .int x9), (10, .int x10), (11, .int x11), (12, .int x12), (13, .int x13), (14, .int x14), (15, .int x15)]) hx hb dL_law_202 hl (by decide) rfl (fun ls hl => ?_)
  refine lv_iload hx hb dL_law_204 (lv_at hl 2 rfl) ?_
  refine lv_iconst (v := (3 : Int32)) hx hb dL_law_206 (by decide) ?_
  refine lv_icmp_ge (tgt := 284) hx hb dL_law_207 (by decide) (fun c207 => ?_) (fun c207 => ?_)
  · have h := br_1 h c207
    exact LN_law_n284 F s69 x4 x5 x6 x7 x8 x9 x10 x11 x12 x14 x15 r193 rs rm ts tm rdue rtun rsee rbeg psize pclause peff pkin pgri psig psee qsize qclause qeff qkin qgri qsig qsee cdee cnow cahe kdee know kahe fc lf told up lo zz tt C0 hret ih69 h ad _ _ ho hP hD hS _ (lv_sub hl [3, 4, 5, 6, 7, 8, 9, 10, 11, 12, 13, 14, 15, 17, 18, 2] rfl)
  · have h := br_0 h c207
    refine lv_aload_n hx hb dL_law_210 rfl (lv_at hl 4 rfl) ?_
    refine lv_iload hx hb dL_law_211 (lv_at hl 16 rfl) ?_
    obtain ⟨r213, w213_told, hc, h⟩ := bd2_some h
    have hPc : va_P D vwCl (wPW T ad (ad 6) (ad 12) rs rm ts tm rdue rtun rsee rbeg psize pclause peff pkin pgri psig psee qsize qclause qeff qkin qgri qsig qsee cdee cnow cahe kdee know kahe fc lf told up lo) _ := my_subP sb_wLW_wPW_0to37 hP
    have hDc := hD.sub [0, 1, 2, 3, 4, 5, 6, 7, 8, 9, 10, 11, 12, 13, 14, 15, 16, 17, 18, 19, 20, 21, 22, 23, 24, 25, 26, 27, 28, 29, 30, 31, 32, 33, 34, 35, 36, 37] nd_LW sb_wLW_wPW_0to37
    have hFc := va_free hD hS hA [0, 1, 2, 3, 4, 5, 6, 7, 8, 9, 10, 11, 12, 13, 14, 15, 16, 17, 18, 19, 20, 21, 22, 23, 24, 25, 26, 27, 28, 29, 30, 31, 32, 33, 34, 35, 36, 37] sb_wLW_wPW_0to37
    refine my_rwi (va_runV (As := [.int x13]) (rest := []) hFix (kX5_out l D T F ad rs rm ts tm rdue rtun rsee rbeg psize pclause peff pkin pgri psig psee qsize qclause qeff qkin qgri qsig qsee cdee cnow cahe kdee know kahe fc lf told up lo x13 r213 w213_told hc _) (cwV 1 hts gL_law_X5_out rfl rfl rfl ⟨rfl, hd_X5_out⟩ ⟨Nat.le_of_ble_eq_true rfl, Nat.le_of_ble_eq_true rfl⟩) (preV_rw hPc hKK hDc (va_recv hK hP (ci := 3) (q0 := 0) rfl wLW_0)) rfl rfl hl.1 rfl (lv_room (Nat.le_of_ble_eq_true rfl)) dL_law_213 ⟨Nat.le_of_ble_eq_true rfl, Nat.le_of_ble_eq_true rfl⟩) hS hFc (fun H1 locs hP1 hD1 hz1 hkk hS => ?_)
    obtain ⟨hP, hD⟩ := my_joinS hP hD nd_LW sb_wLW_wPW_0to37 (by rfl) hkk hFc hP1 hD1
    rw [st_LW] at hP hD
    generalize H1 = H at hP hS ⊢
    refine lv_istore (lv' := [(19, .int r213), (18, .int (0 : Int32)), (17, .int (-1 : Int32)), (16, .int r193), (0, .ref b), (1, .ref (ad 0)), (2, .ref za), (3, .ref ta), (4, .int x4), (5, .int x5), (6, .int x6), (7, .int x7), (8, .int x8), (9, .int x9), (10, .int x10), (11, .int x11), (12, .int x12), (13, .int x13), (14, .int x14), (15, .int x15)]) hx hb dL_law_216 hl (by decide) rfl (fun ls hl => ?_)
    refine lv_aload_n hx hb dL_law_218 rfl (lv_at hl 5 rfl) ?_
    obtain ⟨r219, hc, h⟩ := bd1_some h
    have hPc : va_P D vwCl (wPW T ad (ad 6) (ad 12) rs rm ts tm rdue rtun rsee rbeg psize pclause peff pkin pgri psig psee qsize qclause qeff qkin qgri qsig qsee cdee cnow cahe kdee know kahe fc lf w213_told up lo) _ := my_subP sb_wLW_wPW_0to37 hP
    refine my_roi (va_Run.run (va_runV (As := []) (rest := []) hFix (kX5_asked l D T F ad rs rm ts tm rdue rtun rsee rbeg psize pclause peff pkin pgri psig psee qsize qclause qeff qkin qgri qsig qsee cdee cnow cahe kdee know kahe fc lf w213_told up lo r219 hc) (cwV 0 hts gL_law_X5_asked rfl rfl rfl ⟨rfl, hd_X5_asked⟩ ⟨Nat.le_of_ble_eq_true rfl, Nat.le_of_ble_eq_true rfl⟩) (preV_ro hPc hKK (va_recv hK hP (ci := 3) (q0 := 0) rfl wLW_0)) rfl rfl hl.1 rfl (lv_room (Nat.le_of_ble_eq_true rfl)) dL_law_219 ⟨Nat.le_of_ble_eq_true rfl, Nat.le_of_ble_eq_true rfl⟩)) ?_
    refine lv_istore (lv' := [(20, .int r219), (19, .int r213), (18, .int (0 : Int32)), (17, .int (-1 : Int32)), (16, .int r193), (0, .ref b), (1, .ref (ad 0)), (2, .ref za), (3, .ref ta), (4, .int x4), (5, .int x5), (6, .int x6), (7, .int x7), (8, .int x8), (9, .int x9), (10, .int x10), (11, .int x11), (12, .int x12), (13, .int x13), (14, .int x14), (15, .int x15)]) hx hb dL_law_222 hl (by decide) rfl (fun ls hl => ?_)
    refine lv_aload_n hx hb dL_law_224 rfl (lv_at hl 6 rfl) ?_
    obtain ⟨r225, hc, h⟩ := bd1_some h
    have hPc : va_P D vwCl (wPW T ad (ad 6) (ad 12) rs rm ts tm rdue rtun rsee rbeg psize pclause peff pkin pgri psig psee qsize qclause qeff qkin qgri qsig qsee cdee cnow cahe kdee know kahe fc lf w213_told up lo) _ := my_subP sb_wLW_wPW_0to37 hP
    refine my_roi (va_Run.run (va_runV (As := []) (rest := []) hFix (kX5_safe l D T F ad rs rm ts tm rdue rtun rsee rbeg psize pclause peff pkin pgri psig psee qsize qclause qeff qkin qgri qsig qsee cdee cnow cahe kdee know kahe fc lf w213_told up lo r225 hc) (cwV 0 hts gL_law_X5_safe rfl rfl rfl ⟨rfl, hd_X5_safe⟩ ⟨Nat.le_of_ble_eq_true rfl, Nat.le_of_ble_eq_true rfl⟩) (preV_ro hPc hKK (va_recv hK hP (ci := 3) (q0 := 0) rfl wLW_0)) rfl rfl hl.1 rfl (lv_room (Nat.le_of_ble_eq_true rfl)) dL_law_225 ⟨Nat.le_of_ble_eq_true rfl, Nat.le_of_ble_eq_true rfl⟩)) ?_
    refine lv_istore (lv' := [(21, .int r225), (20, .int r219), (19, .int r213), (18, .int (0 : Int32)), (17, .int (-1 : Int32)), (16, .int r193), (0, .ref b), (1, .ref (ad 0)), (2, .ref za), (3, .ref ta), (4, .int x4), (5, .int x5), (6, .int x6), (7, .int x7), (8, .int x8), (9, .int x9), (10, .int x10), (11, .int x11), (12, .int x12), (13, .int x13), (14, .int x14), (15, .int x15)]) hx hb dL_law_228 hl (by decide) rfl (fun ls hl => ?_)
    refine lv_aload_n hx hb dL_law_230 rfl (lv_at hl 7 rfl) ?_
    refine lv_iload hx hb dL_law_231 (lv_at hl 19 rfl) ?_
    obtain ⟨r233, w233_cdee, w233_cnow, w233_cahe, hc, h⟩ := bd4_some h
    have hPc : va_P D vwCl (wPW T ad (ad 6) (ad 12) rs rm ts tm rdue rtun rsee rbeg psize pclause peff pkin pgri psig psee qsize qclause qeff qkin qgri qsig qsee cdee cnow cahe kdee know kahe fc lf w213_told up lo) _ := my_subP sb_wLW_wPW_0to37 hP
    have hDc := hD.sub [0, 1, 2, 3, 4, 5, 6, 7, 8, 9, 10, 11, 12, 13, 14, 15, 16, 17, 18, 19, 20, 21, 22, 23, 24, 25, 26, 27, 28, 29, 30, 31, 32, 33, 34, 35, 36, 37] nd_LW sb_wLW_wPW_0to37
    have hFc := va_free hD hS hA [0, 1, 2, 3, 4, 5, 6, 7, 8, 9, 10, 11, 12, 13, 14, 15, 16, 17, 18, 19, 20, 21, 22, 23, 24, 25, 26, 27, 28, 29, 30, 31, 32, 33, 34, 35, 36, 37] sb_wLW_wPW_0to37
    refine my_rwi (va_runV (As := [.int x13]) (rest := []) hFix (kX5_tune l D T F ad rs rm ts tm rdue rtun rsee rbeg psize pclause peff pkin pgri psig psee qsize qclause qeff qkin qgri qsig qsee cdee cnow cahe kdee know kahe fc lf w213_told up lo x13 r233 w233_cdee w233_cnow w233_cahe hc _) (cwV 1 hts gL_law_X5_tune rfl rfl rfl ⟨rfl, hd_X5_tune⟩ ⟨Nat.le_of_ble_eq_true rfl, Nat.le_of_ble_eq_true rfl⟩) (preV_rw hPc hKK hDc (va_recv hK hP (ci := 3) (q0 := 0) rfl wLW_0)) rfl rfl hl.1 rfl (lv_room (Nat.le_of_ble_eq_true rfl)) dL_law_233 ⟨Nat.le_of_ble_eq_true rfl, Nat.le_of_ble_eq_true rfl⟩) hS hFc (fun H1 locs hP1 hD1 hz1 hkk hS => ?_)
    obtain ⟨hP, hD⟩ := my_joinS hP hD nd_LW sb_wLW_wPW_0to37 (by rfl) hkk hFc hP1 hD1
    rw [st_LW] at hP hD
    generalize H1 = H at hP hS ⊢
    refine lv_istore (lv' := [(17, .int r233), (21, .int r225), (20, .int r219), (19, .int r213), (18, .int (0 : Int32)), (16, .int r193), (0, .ref b), (1, .ref (ad 0)), (2, .ref za), (3, .ref ta), (4, .int x4), (5, .int x5), (6, .int x6), (7, .int x7), (8, .int x8), (9, .int x9), (10, .int x10), (11, .int x11), (12, .int x12), (13, .int x13), (14, .int x14), (15, .int x15)]) hx hb dL_law_236 hl (by decide) rfl (fun ls hl => ?_)
    refine lv_iload hx hb dL_law_238 (lv_at hl 0 rfl) ?_
    refine lv_istore (lv' := [(18, .int r233), (17, .int r233), (21, .int r225), (20, .int r219), (19, .int r213), (16, .int r193), (0, .ref b), (1, .ref (ad 0)), (2, .ref za), (3, .ref ta), (4, .int x4), (5, .int x5), (6, .int x6), (7, .int x7), (8, .int x8), (9, .int x9), (10, .int x10), (11, .int x11), (12, .int x12), (13, .int x13), (14, .int x14), (15, .int x15)]) hx hb dL_law_240 hl (by decide) rfl (fun ls hl => ?_)
    refine lv_iload hx hb dL_law_242 (lv_at hl 1 rfl) ?_
    refine lv_iload hx hb dL_law_244 (lv_at hl 4 rfl) ?_
    refine lv_icmp_ne (tgt := 279) hx hb dL_law_246 (by decide) (fun c246 => ?_) (fun c246 => ?_)
    · have h := br_0 h c246
      refine lv_iconst (v := (0 : Int32)) hx hb dL_law_279 (by decide) ?_
      exact absurd (Option.some.inj h) (by decide)
    · have h := br_1 h c246
      refine lv_aload_n hx hb dL_law_249 rfl (lv_at hl 7 rfl) ?_
      refine lv_iconst (v := (4 : Int32)) hx hb dL_law_250 (by decide) ?_
      obtain ⟨r251, hc, h⟩ := bd1_some h
      have hPc : va_P D vwCl (wPW T ad (ad 6) (ad 12) rs rm ts tm rdue rtun rsee rbeg psize pclause peff pkin pgri psig psee qsize qclause qeff qkin qgri qsig qsee w233_cdee w233_cnow w233_cahe kdee know kahe fc lf w213_told up lo) _ := my_subP sb_wLW_wPW_0to37 hP
      refine my_roi (va_Run.run (va_runV (As := [.int (4 : Int32)]) (rest := []) hFix (kX5_count l D T F ad rs rm ts tm rdue rtun rsee rbeg psize pclause peff pkin pgri psig psee qsize qclause qeff qkin qgri qsig qsee w233_cdee w233_cnow w233_cahe kdee know kahe fc lf w213_told up lo (4 : Int32) r251 hc) (cwV 1 hts gL_law_X5_count rfl rfl rfl ⟨rfl, hd_X5_count⟩ ⟨Nat.le_of_ble_eq_true rfl, Nat.le_of_ble_eq_true rfl⟩) (preV_ro hPc hKK (va_recv hK hP (ci := 3) (q0 := 0) rfl wLW_0)) rfl rfl hl.1 rfl (lv_room (Nat.le_of_ble_eq_true rfl)) dL_law_251 ⟨Nat.le_of_ble_eq_true rfl, Nat.le_of_ble_eq_true rfl⟩)) ?_
      refine lv_iload hx hb dL_law_254 (lv_at hl 3 rfl) ?_
      refine lv_icmp_ne (tgt := 279) hx hb dL_law_256 (by decide) (fun c256 => ?_) (fun c256 => ?_)
      · have h := br_0 h c256
        refine lv_iconst (v := (0 : Int32)) hx hb dL_law_279 (by decide) ?_
        exact absurd (Option.some.inj h) (by decide)
      · have h := br_1 h c256
        refine lv_iload hx hb dL_law_259 (lv_at hl 2 rfl) ?_
        refine lv_iload hx hb dL_law_261 (lv_at hl 19 rfl) ?_
        refine lv_ishr hx hb dL_law_263 ?_
        refine lv_iconst (v := (1 : Int32)) hx hb dL_law_264 (by decide) ?_
        refine lv_iand hx hb dL_law_265 ?_
        refine lv_iload hx hb dL_law_266 (lv_at hl 1 rfl) ?_
        refine lv_if_ne (tgt := 275) hx hb dL_law_268 (by decide) (fun c268 => ?_) (fun c268 => ?_)
        · have h := br_0 h c268
          refine lv_iconst (v := (0 : Int32)) hx hb dL_law_275 (by decide) ?_
          refine lv_icmp_eq (tgt := 281) hx hb dL_law_276 (by decide) (fun c276 => ?_) (fun c276 => ?_)
          · have h := br_1 h c276
            refine lv_goto (tgt := 374) hx hb dL_law_281 (by decide) ?_
            exact LN_law_n374 F s69 x4 x5 x6 x7 x8 x9 x10 x11 x14 x15 r233 r233 rs rm ts tm rdue rtun rsee rbeg psize pclause peff pkin pgri psig psee qsize qclause qeff qkin qgri qsig qsee w233_cdee w233_cnow w233_cahe kdee know kahe fc lf w213_told up lo zz tt C0 hret ih69 h ad _ _ ho hP hD hS _ (lv_sub hl [6, 7, 8, 9, 10, 11, 12, 13, 14, 15, 16, 17, 20, 21, 1, 0] rfl)
          · have h := br_0 h c276
            refine lv_iconst (v := (0 : Int32)) hx hb dL_law_279 (by decide) ?_
            exact absurd (Option.some.inj h) (by decide)
        · have h := br_1 h c268
          refine lv_iconst (v := (1 : Int32)) hx hb dL_law_271 (by decide) ?_
          refine lv_goto (tgt := 276) hx hb dL_law_272 (by decide) ?_
          refine lv_icmp_eq (tgt := 281) hx hb dL_law_276 (by decide) (fun c276 => ?_) (fun c276 => ?_)
          · have h := br_1 h c276
            refine lv_goto (tgt := 374) hx hb dL_law_281 (by decide) ?_
            exact LN_law_n374 F s69 x4 x5 x6 x7 x8 x9 x10 x11 x14 x15 r233 r233 rs rm ts tm rdue rtun rsee rbeg psize pclause peff pkin pgri psig psee qsize qclause qeff qkin qgri qsig qsee w233_cdee w233_cnow w233_cahe kdee know kahe fc lf w213_told up lo zz tt C0 hret ih69 h ad _ _ ho hP hD hS _ (lv_sub hl [6, 7, 8, 9, 10, 11, 12, 13, 14, 15, 16, 17, 20, 21, 1, 0] rfl)
          · have h := br_0 h c276
            refine lv_iconst (v := (0 : Int32)) hx hb dL_law_279 (by decide) ?_
            exact absurd (Option.some.inj h) (by decide)
set_option maxHeartbeats 4000000 in
set_option maxRecDepth 100000 in
theorem LN_law_l144 {p : Program} {l : Launch} {e : Env} {s : State} {m : MethodId} {args : Array Value} {below : List Frame} {meth : Method} {c : Code} {Q : State → Prop} {D : va_G} {T : Nat → ClassId} {b L : Nat} {xs : Nat → Int32} {A : Nat → Prop} {o0 za ta : Nat} (F : Nat) (s69 : Int32 → Int32 → Int64 → (Nat → Int64) → Int32 → Option (Int32)) (x4 : Int32) (x5 : Int32) (x6 : Int32) (x7 : Int32) (x8 : Int32) (x9 : Int32) (x10 : Int32) (x11 : Int32) (x12 : Int32) (x13 : Int32) (x14 : Int32) (rs : Nat → Int32) (rm : Nat → Nat → Int32) (ts : Nat → Int32) (tm : Nat → Nat → Int32) (rdue : Int32) (rtun : Int32) (rsee : Int32) (rbeg : Int32) (psize : Int32) (pclause : Int32) (peff : Nat → Int32) (pkin : Nat → Int32) (pgri : Nat → Int32) (psig : Nat → Int32) (psee : Nat → Int32) (qsize : Int32) (qclause : Int32) (qeff : Nat → Int32) (qkin : Nat → Int32) (qgri : Nat → Int32) (qsig : Nat → Int32) (qsee : Nat → Int32) (cdee : Int32) (cnow : Int64) (cahe : Nat → Int64) (kdee : Nat → Int32) (know : Nat → Int64) (kahe : Nat → Nat → Int64) (fc : Nat → Int32) (lf : Int32) (up : Int64) (lo : Int64) (zz : Nat → Int32) (tt : Nat → Int32) (C0 : SC_law p s m args c D T b L xs A) (hret : HR_law p l e s m args below meth c Q A) (ih69 : ∀ x7 : Int32, ∀ cdee : Int32, ∀ cnow : Int64, ∀ cahe : Nat → Int64, ∀ told : Int32, s69 x7 cdee cnow cahe told = some (1 : Int32) → ∀ (ad : Nat → Nat) (H : Heap) (locs : List Loc), ad 0 = o0 → va_P D vwCl (wLW T ad (ad 6) (ad 12) za ta rs rm ts tm rdue rtun rsee rbeg psize pclause peff pkin pgri psig psee qsize qclause qeff qkin qgri qsig qsee cdee cnow cahe kdee know kahe fc lf told up lo zz tt) H → va_D A (wLW T ad (ad 6) (ad 12) za ta rs rm ts tm rdue rtun rsee rbeg psize pclause peff pkin pgri psig psee qsize qclause qeff qkin qgri qsig qsee cdee cnow cahe kdee know kahe fc lf told up lo zz tt) → va_S A s.heap H locs → ∀ (ls : Array Slot), lv_has ls 31 [(0, .ref b), (1, .ref (ad 0)), (2, .ref za), (3, .ref ta), (4, .int x4), (5, .int x5), (6, .int x6), (7, .int x7)] → W p l e room_1 s m args below meth c H locs 40 874 Q (F0 m 69 ls [])) : ∀ (nu : Nat) (x15 : Int32) (x16 : Int32) (told : Int32), fL_law_l144 F s69 L xs x4 x5 x6 x7 x8 x9 x10 x11 x12 x13 x14 rs rm ts tm rdue rtun rsee rbeg psize pclause peff pkin pgri psig psee qsize qclause qeff qkin qgri qsig qsee cdee cnow cahe kdee know kahe fc lf up lo zz tt nu x15 x16 told = some (1 : Int32) → ∀ (ad : Nat → Nat) (H : Heap) (locs : List Loc), ad 0 = o0 → va_P D vwCl (wLW T ad (ad 6) (ad 12) za ta rs rm ts tm rdue rtun rsee rbeg psize pclause peff pkin pgri psig psee qsize qclause qeff qkin qgri qsig qsee cdee cnow cahe kdee know kahe fc lf told up lo zz tt) H → va_D A (wLW T ad (ad 6) (ad 12) za ta rs rm ts tm rdue rtun rsee rbeg psize pclause peff pkin pgri psig psee qsize qclause qeff qkin qgri qsig qsee cdee cnow cahe kdee know kahe fc lf told up lo zz tt) → va_S A s.heap H locs → ∀ (ls : Array Slot), lv_has ls 31 [(0, .ref b), (1, .ref (ad 0)), (2, .ref za), (3, .ref ta), (4, .int x4), (5, .int x5), (6, .int x6), (7, .int x7), (8, .int x8), (9, .int x9), (10, .int x10), (11, .int x11), (12, .int x12), (13, .int x13), (14, .int x14), (15, .int x15), (16, .int x16)] → W p l e room_1 s m args below meth c H locs 40 874 Q (F0 m 144 ls []) := by
  intro nu
  induction nu with
  | zero => intro x15 x16 told h; exact none_some h
  | succ nu ih144 =>
    intro x15 x16 told h ad H locs ho hP hD hS ls hl
    obtain ⟨hFix, hKK, hA, hX, hbl, hbA⟩ := id C0
    obtain ⟨hx, hb, hml, hown, hts⟩ := id hFix
    have hK := hKK.1
    have h : fL_law_l144_b F s69 L xs x4 x5 x6 x7 x8 x9 x10 x11 x12 x13 x14 rs rm ts tm rdue rtun rsee rbeg psize pclause peff pkin pgri psig psee qsize qclause qeff qkin qgri qsig qsee cdee cnow cahe kdee know kahe fc lf up lo zz tt (fL_law_l144 F s69 L xs x4 x5 x6 x7 x8 x9 x10 x11 x12 x13 x14 rs rm ts tm rdue rtun rsee rbeg psize pclause peff pkin pgri psig psee qsize qclause qeff qkin qgri qsig qsee cdee cnow cahe kdee know kahe fc lf up lo zz tt nu) x15 x16 told = some (1 : Int32) := h
    unfold fL_law_l144_b at h
    refine lv_iload hx hb dL_law_144 (lv_at hl 16 rfl) ?_
    refine lv_iload hx hb dL_law_146 (lv_at hl 4 rfl) ?_
    refine lv_icmp_ge (tgt := 190) hx hb dL_law_148 (by decide) (fun c148 => ?_) (fun c148 => ?_)
    · have h := br_1 h c148
      exact LN_law_n190 F s69 x4 x5 x6 x7 x8 x9 x10 x11 x12 x13 x14 x15 rs rm ts tm rdue rtun rsee rbeg psize pclause peff pkin pgri psig psee qsize qclause qeff qkin qgri qsig qsee cdee cnow cahe kdee know kahe fc lf told up lo zz tt C0 hret ih69 h ad _ _ ho hP hD hS _ (lv_sub hl [0, 1, 2, 3, 4, 5, 6, 7, 8, 9, 10, 11, 12, 13, 14, 15] rfl)
    · have h := br_0 h c148
      refine lv_aload_n hx hb dL_law_151 rfl (lv_at hl 1 rfl) ?_
      refine lv_iload hx hb dL_law_152 (lv_at hl 16 rfl) ?_
      refine lv_iconst (v := (4 : Int32)) hx hb dL_law_154 (by decide) ?_
      obtain ⟨r155, w155_told, hc, h⟩ := bd2_some h
      have hPc : va_P D vwCl (wPW T ad (ad 6) (ad 12) rs rm ts tm rdue rtun rsee rbeg psize pclause peff pkin pgri psig psee qsize qclause qeff qkin qgri qsig qsee cdee cnow cahe kdee know kahe fc lf told up lo) _ := my_subP sb_wLW_wPW_0to37 hP
      have hDc := hD.sub [0, 1, 2, 3, 4, 5, 6, 7, 8, 9, 10, 11, 12, 13, 14, 15, 16, 17, 18, 19, 20, 21, 22, 23, 24, 25, 26, 27, 28, 29, 30, 31, 32, 33, 34, 35, 36, 37] nd_LW sb_wLW_wPW_0to37
      have hFc := va_free hD hS hA [0, 1, 2, 3, 4, 5, 6, 7, 8, 9, 10, 11, 12, 13, 14, 15, 16, 17, 18, 19, 20, 21, 22, 23, 24, 25, 26, 27, 28, 29, 30, 31, 32, 33, 34, 35, 36, 37] sb_wLW_wPW_0to37
      refine my_rwi (va_runV (As := [.int x16, .int (4 : Int32)]) (rest := []) hFix (kX5_guest l D T F ad rs rm ts tm rdue rtun rsee rbeg psize pclause peff pkin pgri psig psee qsize qclause qeff qkin qgri qsig qsee cdee cnow cahe kdee know kahe fc lf told up lo x16 (4 : Int32) r155 w155_told hc _) (cwV 2 hts gL_law_X5_guest rfl rfl rfl ⟨rfl, hd_X5_guest⟩ ⟨Nat.le_of_ble_eq_true rfl, Nat.le_of_ble_eq_true rfl⟩) (preV_rw hPc hKK hDc (va_recv hK hP (ci := 3) (q0 := 0) rfl wLW_0)) rfl rfl hl.1 rfl (lv_room (Nat.le_of_ble_eq_true rfl)) dL_law_155 ⟨Nat.le_of_ble_eq_true rfl, Nat.le_of_ble_eq_true rfl⟩) hS hFc (fun H1 locs hP1 hD1 hz1 hkk hS => ?_)
      obtain ⟨hP, hD⟩ := my_joinS hP hD nd_LW sb_wLW_wPW_0to37 (by rfl) hkk hFc hP1 hD1
      rw [st_LW] at hP hD
      generalize H1 = H at hP hS ⊢
      refine lv_iconst (v := (1 : Int32)) hx hb dL_law_158 (by decide) ?_
      refine lv_icmp_eq (tgt := 164) hx hb dL_law_159 (by decide) (fun c159 => ?_) (fun c159 => ?_)
      · have h := br_1 h c159
        refine lv_iload hx hb dL_law_164 (lv_at hl 15 rfl) ?_
        refine lv_aload_n hx hb dL_law_166 rfl (lv_at hl 1 rfl) ?_
        obtain ⟨r167, hc, h⟩ := bd1_some h
        have hPc : va_P D vwCl (wPW T ad (ad 6) (ad 12) rs rm ts tm rdue rtun rsee rbeg psize pclause peff pkin pgri psig psee qsize qclause qeff qkin qgri qsig qsee cdee cnow cahe kdee know kahe fc lf w155_told up lo) _ := my_subP sb_wLW_wPW_0to37 hP
        refine my_roi (va_Run.run (va_runV (As := []) (rest := [.int x15]) hFix (kX5_asked l D T F ad rs rm ts tm rdue rtun rsee rbeg psize pclause peff pkin pgri psig psee qsize qclause qeff qkin qgri qsig qsee cdee cnow cahe kdee know kahe fc lf w155_told up lo r167 hc) (cwV 0 hts gL_law_X5_asked rfl rfl rfl ⟨rfl, hd_X5_asked⟩ ⟨Nat.le_of_ble_eq_true rfl, Nat.le_of_ble_eq_true rfl⟩) (preV_ro hPc hKK (va_recv hK hP (ci := 3) (q0 := 0) rfl wLW_0)) rfl rfl hl.1 rfl (lv_room (Nat.le_of_ble_eq_true rfl)) dL_law_167 ⟨Nat.le_of_ble_eq_true rfl, Nat.le_of_ble_eq_true rfl⟩)) ?_
        refine lv_if_ne (tgt := 180) hx hb dL_law_170 (by decide) (fun c170 => ?_) (fun c170 => ?_)
        · have h := br_0 h c170
          refine lv_iconst (v := (0 : Int32)) hx hb dL_law_180 (by decide) ?_
          refine lv_ior hx hb dL_law_181 ?_
          refine lv_istore (lv' := [(15, .int (x15 ||| (0 : Int32))), (0, .ref b), (1, .ref (ad 0)), (2, .ref za), (3, .ref ta), (4, .int x4), (5, .int x5), (6, .int x6), (7, .int x7), (8, .int x8), (9, .int x9), (10, .int x10), (11, .int x11), (12, .int x12), (13, .int x13), (14, .int x14), (16, .int x16)]) hx hb dL_law_182 hl (by decide) rfl (fun ls hl => ?_)
          refine lv_iinc (v := (x16 + (1 : Int32))) (lv' := [(16, .int (x16 + (1 : Int32))), (15, .int (x15 ||| (0 : Int32))), (0, .ref b), (1, .ref (ad 0)), (2, .ref za), (3, .ref ta), (4, .int x4), (5, .int x5), (6, .int x6), (7, .int x7), (8, .int x8), (9, .int x9), (10, .int x10), (11, .int x11), (12, .int x12), (13, .int x13), (14, .int x14)]) hx hb dL_law_184 hl (k := 16) rfl rfl (by decide) rfl (fun ls hl => ?_)
          refine lv_goto (tgt := 144) hx hb dL_law_187 (by decide) ?_
          exact ih144 (x15 ||| (0 : Int32)) (x16 + (1 : Int32)) w155_told h ad _ _ ho hP hD hS _ (lv_sub hl [2, 3, 4, 5, 6, 7, 8, 9, 10, 11, 12, 13, 14, 15, 16, 1, 0] rfl)
        · have h := br_1 h c170
          refine lv_iconst (v := (1 : Int32)) hx hb dL_law_173 (by decide) ?_
          refine lv_iload hx hb dL_law_174 (lv_at hl 16 rfl) ?_
          refine lv_ishl hx hb dL_law_176 ?_
          refine lv_goto (tgt := 181) hx hb dL_law_177 (by decide) ?_
          refine lv_ior hx hb dL_law_181 ?_
          refine lv_istore (lv' := [(15, .int (x15 ||| ((1 : Int32) <<< (x16 &&& 31)))), (0, .ref b), (1, .ref (ad 0)), (2, .ref za), (3, .ref ta), (4, .int x4), (5, .int x5), (6, .int x6), (7, .int x7), (8, .int x8), (9, .int x9), (10, .int x10), (11, .int x11), (12, .int x12), (13, .int x13), (14, .int x14), (16, .int x16)]) hx hb dL_law_182 hl (by decide) rfl (fun ls hl => ?_)
          refine lv_iinc (v := (x16 + (1 : Int32))) (lv' := [(16, .int (x16 + (1 : Int32))), (15, .int (x15 ||| ((1 : Int32) <<< (x16 &&& 31)))), (0, .ref b), (1, .ref (ad 0)), (2, .ref za), (3, .ref ta), (4, .int x4), (5, .int x5), (6, .int x6), (7, .int x7), (8, .int x8), (9, .int x9), (10, .int x10), (11, .int x11), (12, .int x12), (13, .int x13), (14, .int x14)]) hx hb dL_law_184 hl (k := 16) rfl rfl (by decide) rfl (fun ls hl => ?_)
          refine lv_goto (tgt := 144) hx hb dL_law_187 (by decide) ?_
          exact ih144 (x15 ||| ((1 : Int32) <<< (x16 &&& 31))) (x16 + (1 : Int32)) w155_told h ad _ _ ho hP hD hS _ (lv_sub hl [2, 3, 4, 5, 6, 7, 8, 9, 10, 11, 12, 13, 14, 15, 16, 1, 0] rfl)
      · have h := br_0 h c159
        refine lv_iconst (v := (0 : Int32)) hx hb dL_law_162 (by decide) ?_
        exact absurd (Option.some.inj h) (by decide)
set_option maxHeartbeats 4000000 in
set_option maxRecDepth 100000 in
theorem LN_law_n1028 {p : Program} {l : Launch} {e : Env} {s : State} {m : MethodId} {args : Array Value} {below : List Frame} {meth : Method} {c : Code} {Q : State → Prop} {D : va_G} {T : Nat → ClassId} {b L : Nat} {xs : Nat → Int32} {A : Nat → Prop} {o0 za ta : Nat} (F : Nat) (s961 : Int32 → Int32 → Int32 → Int64 → (Nat → Int64) → (Nat → Int32) → Int32 → Int32 → Option (Int32)) (x4 : Int32) (x5 : Int32) (x7 : Int32) (x8 : Int32) (x9 : Int32) (x10 : Int32) (x15 : Int32) (x16 : Int32) (x17 : Int32) (x18 : Int32) (x19 : Int32) (rs : Nat → Int32) (rm : Nat → Nat → Int32) (ts : Nat → Int32) (tm : Nat → Nat → Int32) (rdue : Int32) (rtun : Int32) (rsee : Int32) (rbeg : Int32) (psize : Int32) (pclause : Int32) (peff : Nat → Int32) (pkin : Nat → Int32) (pgri : Nat → Int32) (psig : Nat → Int32) (psee : Nat → Int32) (qsize : Int32) (qclause : Int32) (qeff : Nat → Int32) (qkin : Nat → Int32) (qgri : Nat → Int32) (qsig : Nat → Int32) (qsee : Nat → Int32) (cdee : Int32) (cnow : Int64) (cahe : Nat → Int64) (kdee : Nat → Int32) (know : Nat → Int64) (kahe : Nat → Nat → Int64) (fc : Nat → Int32) (lf : Int32) (told : Int32) (up : Int64) (lo : Int64) (zz : Nat → Int32) (tt : Nat → Int32) (C0 : SC_law p s m args c D T b L xs A) (hret : HR_law p l e s m args below meth c Q A) (ih961 : ∀ x16 : Int32, ∀ x18 : Int32, ∀ cdee : Int32, ∀ cnow : Int64, ∀ cahe : Nat → Int64, ∀ fc : Nat → Int32, ∀ lf : Int32, ∀ told : Int32, s961 x16 x18 cdee cnow cahe fc lf told = some (1 : Int32) → ∀ (ad : Nat → Nat) (H : Heap) (locs : List Loc), ad 0 = o0 → va_P D vwCl (wLW T ad (ad 6) (ad 12) za ta rs rm ts tm rdue rtun rsee rbeg psize pclause peff pkin pgri psig psee qsize qclause qeff qkin qgri qsig qsee cdee cnow cahe kdee know kahe fc lf told up lo zz tt) H → va_D A (wLW T ad (ad 6) (ad 12) za ta rs rm ts tm rdue rtun rsee rbeg psize pclause peff pkin pgri psig psee qsize qclause qeff qkin qgri qsig qsee cdee cnow cahe kdee know kahe fc lf told up lo zz tt) → va_S A s.heap H locs → ∀ (ls : Array Slot), lv_has ls 31 [(0, .ref b), (1, .ref (ad 0)), (2, .ref za), (3, .ref ta), (4, .int x4), (5, .int x5), (7, .int x7), (8, .int x8), (9, .int x9), (10, .int x10), (15, .int x15), (16, .int x16), (17, .int x17), (18, .int x18)] → W p l e room_1 s m args below meth c H locs 40 874 Q (F0 m 961 ls [])) (h : fL_law_n1028 F s961 L xs x4 x5 x7 x8 x9 x10 x15 x16 x17 x18 x19 rs rm ts tm rdue rtun rsee rbeg psize pclause peff pkin pgri psig psee qsize qclause qeff qkin qgri qsig qsee cdee cnow cahe kdee know kahe fc lf told up lo zz tt = some (1 : Int32)) : ∀ (ad : Nat → Nat) (H : Heap) (locs : List Loc), ad 0 = o0 → va_P D vwCl (wLW T ad (ad 6) (ad 12) za ta rs rm ts tm rdue rtun rsee rbeg psize pclause peff pkin pgri psig psee qsize qclause qeff qkin qgri qsig qsee cdee cnow cahe kdee know kahe fc lf told up lo zz tt) H → va_D A (wLW T ad (ad 6) (ad 12) za ta rs rm ts tm rdue rtun rsee rbeg psize pclause peff pkin pgri psig psee qsize qclause qeff qkin qgri qsig qsee cdee cnow cahe kdee know kahe fc lf told up lo zz tt) → va_S A s.heap H locs → ∀ (ls : Array Slot), lv_has ls 31 [(0, .ref b), (1, .ref (ad 0)), (2, .ref za), (3, .ref ta), (4, .int x4), (5, .int x5), (7, .int x7), (8, .int x8), (9, .int x9), (10, .int x10), (15, .int x15), (16, .int x16), (17, .int x17), (18, .int x18), (19, .int x19)] → W p l e room_1 s m args below meth c H locs 40 874 Q (F0 m 1028 ls []) := by
  intro ad H locs ho hP hD hS ls hl
  obtain ⟨hFix, hKK, hA, hX, hbl, hbA⟩ := id C0
  obtain ⟨hx, hb, hml, hown, hts⟩ := id hFix
  have hK := hKK.1
  unfold fL_law_n1028 at h
  refine lv_iload hx hb dL_law_1028 (lv_at hl 11 rfl) ?_
  refine lv_iload hx hb dL_law_1030 (lv_at hl 14 rfl) ?_
  obtain ⟨r1032, hc, h⟩ := bd1_some h
  refine my_roi (va_Run.run (va_runS (As := [.int x19]) (rest := [.int x16]) hFix (kL_many l D T F x19 r1032 hc) (va_cwS 1 hts gL_law_L_many rfl rfl rfl hd_L_many ⟨Nat.le_of_ble_eq_true rfl, Nat.le_of_ble_eq_true rfl⟩) (preS_ro va_nil hKK) rfl rfl hl.1 rfl (lv_room (Nat.le_of_ble_eq_true rfl)) dL_law_1032 ⟨Nat.le_of_ble_eq_true rfl, Nat.le_of_ble_eq_true rfl⟩)) ?_
  refine lv_iadd hx hb dL_law_1035 ?_
  refine lv_istore (lv' := [(16, .int (x16 + r1032)), (0, .ref b), (1, .ref (ad 0)), (2, .ref za), (3, .ref ta), (4, .int x4), (5, .int x5), (7, .int x7), (8, .int x8), (9, .int x9), (10, .int x10), (15, .int x15), (17, .int x17), (18, .int x18), (19, .int x19)]) hx hb dL_law_1036 hl (by decide) rfl (fun ls hl => ?_)
  refine lv_iinc (v := (x18 + (1 : Int32))) (lv' := [(18, .int (x18 + (1 : Int32))), (16, .int (x16 + r1032)), (0, .ref b), (1, .ref (ad 0)), (2, .ref za), (3, .ref ta), (4, .int x4), (5, .int x5), (7, .int x7), (8, .int x8), (9, .int x9), (10, .int x10), (15, .int x15), (17, .int x17), (19, .int x19)]) hx hb dL_law_1038 hl (k := 13) rfl rfl (by decide) rfl (fun ls hl => ?_)
  refine lv_goto (tgt := 961) hx hb dL_law_1041 (by decide) ?_
  exact ih961 (x16 + r1032) (x18 + (1 : Int32)) cdee cnow cahe fc lf told h ad _ _ ho hP hD hS _ (lv_sub hl [2, 3, 4, 5, 6, 7, 8, 9, 10, 11, 12, 1, 13, 0] rfl)
set_option maxHeartbeats 4000000 in
set_option maxRecDepth 100000 in
theorem LN_law_n1023 {p : Program} {l : Launch} {e : Env} {s : State} {m : MethodId} {args : Array Value} {below : List Frame} {meth : Method} {c : Code} {Q : State → Prop} {D : va_G} {T : Nat → ClassId} {b L : Nat} {xs : Nat → Int32} {A : Nat → Prop} {o0 za ta : Nat} (F : Nat) (s961 : Int32 → Int32 → Int32 → Int64 → (Nat → Int64) → (Nat → Int32) → Int32 → Int32 → Option (Int32)) (s_0 : Int32) (s_1 : Int32) (x4 : Int32) (x5 : Int32) (x7 : Int32) (x8 : Int32) (x9 : Int32) (x10 : Int32) (x15 : Int32) (x16 : Int32) (x17 : Int32) (x18 : Int32) (x19 : Int32) (rs : Nat → Int32) (rm : Nat → Nat → Int32) (ts : Nat → Int32) (tm : Nat → Nat → Int32) (rdue : Int32) (rtun : Int32) (rsee : Int32) (rbeg : Int32) (psize : Int32) (pclause : Int32) (peff : Nat → Int32) (pkin : Nat → Int32) (pgri : Nat → Int32) (psig : Nat → Int32) (psee : Nat → Int32) (qsize : Int32) (qclause : Int32) (qeff : Nat → Int32) (qkin : Nat → Int32) (qgri : Nat → Int32) (qsig : Nat → Int32) (qsee : Nat → Int32) (cdee : Int32) (cnow : Int64) (cahe : Nat → Int64) (kdee : Nat → Int32) (know : Nat → Int64) (kahe : Nat → Nat → Int64) (fc : Nat → Int32) (lf : Int32) (told : Int32) (up : Int64) (lo : Int64) (zz : Nat → Int32) (tt : Nat → Int32) (C0 : SC_law p s m args c D T b L xs A) (hret : HR_law p l e s m args below meth c Q A) (ih961 : ∀ x16 : Int32, ∀ x18 : Int32, ∀ cdee : Int32, ∀ cnow : Int64, ∀ cahe : Nat → Int64, ∀ fc : Nat → Int32, ∀ lf : Int32, ∀ told : Int32, s961 x16 x18 cdee cnow cahe fc lf told = some (1 : Int32) → ∀ (ad : Nat → Nat) (H : Heap) (locs : List Loc), ad 0 = o0 → va_P D vwCl (wLW T ad (ad 6) (ad 12) za ta rs rm ts tm rdue rtun rsee rbeg psize pclause peff pkin pgri psig psee qsize qclause qeff qkin qgri qsig qsee cdee cnow cahe kdee know kahe fc lf told up lo zz tt) H → va_D A (wLW T ad (ad 6) (ad 12) za ta rs rm ts tm rdue rtun rsee rbeg psize pclause peff pkin pgri psig psee qsize qclause qeff qkin qgri qsig qsee cdee cnow cahe kdee know kahe fc lf told up lo zz tt) → va_S A s.heap H locs → ∀ (ls : Array Slot), lv_has ls 31 [(0, .ref b), (1, .ref (ad 0)), (2, .ref za), (3, .ref ta), (4, .int x4), (5, .int x5), (7, .int x7), (8, .int x8), (9, .int x9), (10, .int x10), (15, .int x15), (16, .int x16), (17, .int x17), (18, .int x18)] → W p l e room_1 s m args below meth c H locs 40 874 Q (F0 m 961 ls [])) (h : fL_law_n1023 F s961 L xs s_0 s_1 x4 x5 x7 x8 x9 x10 x15 x16 x17 x18 x19 rs rm ts tm rdue rtun rsee rbeg psize pclause peff pkin pgri psig psee qsize qclause qeff qkin qgri qsig qsee cdee cnow cahe kdee know kahe fc lf told up lo zz tt = some (1 : Int32)) : ∀ (ad : Nat → Nat) (H : Heap) (locs : List Loc), ad 0 = o0 → va_P D vwCl (wLW T ad (ad 6) (ad 12) za ta rs rm ts tm rdue rtun rsee rbeg psize pclause peff pkin pgri psig psee qsize qclause qeff qkin qgri qsig qsee cdee cnow cahe kdee know kahe fc lf told up lo zz tt) H → va_D A (wLW T ad (ad 6) (ad 12) za ta rs rm ts tm rdue rtun rsee rbeg psize pclause peff pkin pgri psig psee qsize qclause qeff qkin qgri qsig qsee cdee cnow cahe kdee know kahe fc lf told up lo zz tt) → va_S A s.heap H locs → ∀ (ls : Array Slot), lv_has ls 31 [(0, .ref b), (1, .ref (ad 0)), (2, .ref za), (3, .ref ta), (4, .int x4), (5, .int x5), (7, .int x7), (8, .int x8), (9, .int x9), (10, .int x10), (15, .int x15), (16, .int x16), (17, .int x17), (18, .int x18), (19, .int x19)] → W p l e room_1 s m args below meth c H locs 40 874 Q (F0 m 1023 ls [.int s_1, .int s_0]) := by
  intro ad H locs ho hP hD hS ls hl
  obtain ⟨hFix, hKK, hA, hX, hbl, hbA⟩ := id C0
  obtain ⟨hx, hb, hml, hown, hts⟩ := id hFix
  have hK := hKK.1
  unfold fL_law_n1023 at h
  refine lv_icmp_eq (tgt := 1028) hx hb dL_law_1023 (by decide) (fun c1023 => ?_) (fun c1023 => ?_)
  · have h := br_1 h c1023
    exact LN_law_n1028 F s961 x4 x5 x7 x8 x9 x10 x15 x16 x17 x18 x19 rs rm ts tm rdue rtun rsee rbeg psize pclause peff pkin pgri psig psee qsize qclause qeff qkin qgri qsig qsee cdee cnow cahe kdee know kahe fc lf told up lo zz tt C0 hret ih961 h ad _ _ ho hP hD hS _ (lv_sub hl [0, 1, 2, 3, 4, 5, 6, 7, 8, 9, 10, 11, 12, 13, 14] rfl)
  · have h := br_0 h c1023
    refine lv_iconst (v := (0 : Int32)) hx hb dL_law_1026 (by decide) ?_
    exact absurd (Option.some.inj h) (by decide)
set_option maxHeartbeats 4000000 in
set_option maxRecDepth 100000 in
theorem LN_law_n981 {p : Program} {l : Launch} {e : Env} {s : State} {m : MethodId} {args : Array Value} {below : List Frame} {meth : Method} {c : Code} {Q : State → Prop} {D : va_G} {T : Nat → ClassId} {b L : Nat} {xs : Nat → Int32} {A : Nat → Prop} {o0 za ta : Nat} (F : Nat) (s961 : Int32 → Int32 → Int32 → Int64 → (Nat → Int64) → (Nat → Int32) → Int32 → Int32 → Option (Int32)) (x4 : Int32) (x5 : Int32) (x7 : Int32) (x8 : Int32) (x9 : Int32) (x10 : Int32) (x15 : Int32) (x16 : Int32) (x17 : Int32) (x18 : Int32) (rs : Nat → Int32) (rm : Nat → Nat → Int32) (ts : Nat → Int32) (tm : Nat → Nat → Int32) (rdue : Int32) (rtun : Int32) (rsee : Int32) (rbeg : Int32) (psize : Int32) (pclause : Int32) (peff : Nat → Int32) (pkin : Nat → Int32) (pgri : Nat → Int32) (psig : Nat → Int32) (psee : Nat → Int32) (qsize : Int32) (qclause : Int32) (qeff : Nat → Int32) (qkin : Nat → Int32) (qgri : Nat → Int32) (qsig : Nat → Int32) (qsee : Nat → Int32) (cdee : Int32) (cnow : Int64) (cahe : Nat → Int64) (kdee : Nat → Int32) (know : Nat → Int64) (kahe : Nat → Nat → Int64) (fc : Nat → Int32) (lf : Int32) (told : Int32) (up : Int64) (lo : Int64) (zz : Nat → Int32) (tt : Nat → Int32) (C0 : SC_law p s m args c D T b L xs A) (hret : HR_law p l e s m args below meth c Q A) (ih961 : ∀ x16 : Int32, ∀ x18 : Int32, ∀ cdee : Int32, ∀ cnow : Int64, ∀ cahe : Nat → Int64, ∀ fc : Nat → Int32, ∀ lf : Int32, ∀ told : Int32, s961 x16 x18 cdee cnow cahe fc lf told = some (1 : Int32) → ∀ (ad : Nat → Nat) (H : Heap) (locs : List Loc), ad 0 = o0 → va_P D vwCl (wLW T ad (ad 6) (ad 12) za ta rs rm ts tm rdue rtun rsee rbeg psize pclause peff pkin pgri psig psee qsize qclause qeff qkin qgri qsig qsee cdee cnow cahe kdee know kahe fc lf told up lo zz tt) H → va_D A (wLW T ad (ad 6) (ad 12) za ta rs rm ts tm rdue rtun rsee rbeg psize pclause peff pkin pgri psig psee qsize qclause qeff qkin qgri qsig qsee cdee cnow cahe kdee know kahe fc lf told up lo zz tt) → va_S A s.heap H locs → ∀ (ls : Array Slot), lv_has ls 31 [(0, .ref b), (1, .ref (ad 0)), (2, .ref za), (3, .ref ta), (4, .int x4), (5, .int x5), (7, .int x7), (8, .int x8), (9, .int x9), (10, .int x10), (15, .int x15), (16, .int x16), (17, .int x17), (18, .int x18)] → W p l e room_1 s m args below meth c H locs 40 874 Q (F0 m 961 ls [])) (h : fL_law_n981 F s961 L xs x4 x5 x7 x8 x9 x10 x15 x16 x17 x18 rs rm ts tm rdue rtun rsee rbeg psize pclause peff pkin pgri psig psee qsize qclause qeff qkin qgri qsig qsee cdee cnow cahe kdee know kahe fc lf told up lo zz tt = some (1 : Int32)) : ∀ (ad : Nat → Nat) (H : Heap) (locs : List Loc), ad 0 = o0 → va_P D vwCl (wLW T ad (ad 6) (ad 12) za ta rs rm ts tm rdue rtun rsee rbeg psize pclause peff pkin pgri psig psee qsize qclause qeff qkin qgri qsig qsee cdee cnow cahe kdee know kahe fc lf told up lo zz tt) H → va_D A (wLW T ad (ad 6) (ad 12) za ta rs rm ts tm rdue rtun rsee rbeg psize pclause peff pkin pgri psig psee qsize qclause qeff qkin qgri qsig qsee cdee cnow cahe kdee know kahe fc lf told up lo zz tt) → va_S A s.heap H locs → ∀ (ls : Array Slot), lv_has ls 31 [(0, .ref b), (1, .ref (ad 0)), (2, .ref za), (3, .ref ta), (4, .int x4), (5, .int x5), (7, .int x7), (8, .int x8), (9, .int x9), (10, .int x10), (15, .int x15), (16, .int x16), (17, .int x17), (18, .int x18)] → W p l e room_1 s m args below meth c H locs 40 874 Q (F0 m 981 ls []) := by
  intro ad H locs ho hP hD hS ls hl
  obtain ⟨hFix, hKK, hA, hX, hbl, hbA⟩ := id C0
  obtain ⟨hx, hb, hml, hown, hts⟩ := id hFix
  have hK := hKK.1
  unfold fL_law_n981 at h
  refine lv_aload_n hx hb dL_law_981 rfl (lv_at hl 1 rfl) ?_
  refine lv_aload_n hx hb dL_law_982 rfl (lv_at hl 1 rfl) ?_
  obtain ⟨r983, hc, h⟩ := bd1_some h
  have hPc : va_P D vwCl (wPW T ad (ad 6) (ad 12) rs rm ts tm rdue rtun rsee rbeg psize pclause peff pkin pgri psig psee qsize qclause qeff qkin qgri qsig qsee cdee cnow cahe kdee know kahe fc lf told up lo) _ := my_subP sb_wLW_wPW_0to37 hP
  refine my_roi (va_Run.run (va_runV (As := []) (rest := [.ref (ad 0)]) hFix (kX5_asked l D T F ad rs rm ts tm rdue rtun rsee rbeg psize pclause peff pkin pgri psig psee qsize qclause qeff qkin qgri qsig qsee cdee cnow cahe kdee know kahe fc lf told up lo r983 hc) (cwV 0 hts gL_law_X5_asked rfl rfl rfl ⟨rfl, hd_X5_asked⟩ ⟨Nat.le_of_ble_eq_true rfl, Nat.le_of_ble_eq_true rfl⟩) (preV_ro hPc hKK (va_recv hK hP (ci := 3) (q0 := 0) rfl wLW_0)) rfl rfl hl.1 rfl (lv_room (Nat.le_of_ble_eq_true rfl)) dL_law_983 ⟨Nat.le_of_ble_eq_true rfl, Nat.le_of_ble_eq_true rfl⟩)) ?_
  obtain ⟨r986, w986_cdee, w986_cnow, w986_cahe, hc, h⟩ := bd4_some h
  have hPc : va_P D vwCl (wPW T ad (ad 6) (ad 12) rs rm ts tm rdue rtun rsee rbeg psize pclause peff pkin pgri psig psee qsize qclause qeff qkin qgri qsig qsee cdee cnow cahe kdee know kahe fc lf told up lo) _ := my_subP sb_wLW_wPW_0to37 hP
  have hDc := hD.sub [0, 1, 2, 3, 4, 5, 6, 7, 8, 9, 10, 11, 12, 13, 14, 15, 16, 17, 18, 19, 20, 21, 22, 23, 24, 25, 26, 27, 28, 29, 30, 31, 32, 33, 34, 35, 36, 37] nd_LW sb_wLW_wPW_0to37
  have hFc := va_free hD hS hA [0, 1, 2, 3, 4, 5, 6, 7, 8, 9, 10, 11, 12, 13, 14, 15, 16, 17, 18, 19, 20, 21, 22, 23, 24, 25, 26, 27, 28, 29, 30, 31, 32, 33, 34, 35, 36, 37] sb_wLW_wPW_0to37
  refine my_rwi (va_runV (As := [.int r983]) (rest := []) hFix (kX5_tune l D T F ad rs rm ts tm rdue rtun rsee rbeg psize pclause peff pkin pgri psig psee qsize qclause qeff qkin qgri qsig qsee cdee cnow cahe kdee know kahe fc lf told up lo r983 r986 w986_cdee w986_cnow w986_cahe hc _) (cwV 1 hts gL_law_X5_tune rfl rfl rfl ⟨rfl, hd_X5_tune⟩ ⟨Nat.le_of_ble_eq_true rfl, Nat.le_of_ble_eq_true rfl⟩) (preV_rw hPc hKK hDc (va_recv hK hP (ci := 3) (q0 := 0) rfl wLW_0)) rfl rfl hl.1 rfl (lv_room (Nat.le_of_ble_eq_true rfl)) dL_law_986 ⟨Nat.le_of_ble_eq_true rfl, Nat.le_of_ble_eq_true rfl⟩) hS hFc (fun H1 locs hP1 hD1 hz1 hkk hS => ?_)
  obtain ⟨hP, hD⟩ := my_joinS hP hD nd_LW sb_wLW_wPW_0to37 (by rfl) hkk hFc hP1 hD1
  rw [st_LW] at hP hD
  generalize H1 = H at hP hS ⊢
  refine lv_istore (lv' := [(19, .int r986), (0, .ref b), (1, .ref (ad 0)), (2, .ref za), (3, .ref ta), (4, .int x4), (5, .int x5), (7, .int x7), (8, .int x8), (9, .int x9), (10, .int x10), (15, .int x15), (16, .int x16), (17, .int x17), (18, .int x18)]) hx hb dL_law_989 hl (by decide) rfl (fun ls hl => ?_)
  refine lv_iload hx hb dL_law_991 (lv_at hl 0 rfl) ?_
  refine lv_if_lt (tgt := 1026) hx hb dL_law_993 (by decide) (fun c993 => ?_) (fun c993 => ?_)
  · have h := br_1 h c993
    refine lv_iconst (v := (0 : Int32)) hx hb dL_law_1026 (by decide) ?_
    exact absurd (Option.some.inj h) (by decide)
  · have h := br_0 h c993
    refine lv_iload hx hb dL_law_996 (lv_at hl 0 rfl) ?_
    refine lv_if_le (tgt := 1010) hx hb dL_law_998 (by decide) (fun c998 => ?_) (fun c998 => ?_)
    · have h := br_1 h c998
      refine lv_iconst (v := (0 : Int32)) hx hb dL_law_1010 (by decide) ?_
      refine lv_iload hx hb dL_law_1011 (lv_at hl 14 rfl) ?_
      refine lv_iload hx hb dL_law_1013 (lv_at hl 13 rfl) ?_
      refine lv_icmp_ne (tgt := 1022) hx hb dL_law_1015 (by decide) (fun c1015 => ?_) (fun c1015 => ?_)
      · have h := br_0 h c1015
        refine lv_iconst (v := (0 : Int32)) hx hb dL_law_1022 (by decide) ?_
        exact LN_law_n1023 F s961 (0 : Int32) (0 : Int32) x4 x5 x7 x8 x9 x10 x15 x16 x17 x18 r986 rs rm ts tm rdue rtun rsee rbeg psize pclause peff pkin pgri psig psee qsize qclause qeff qkin qgri qsig qsee w986_cdee w986_cnow w986_cahe kdee know kahe fc lf told up lo zz tt C0 hret ih961 h ad _ _ ho hP hD hS _ (lv_sub hl [1, 2, 3, 4, 5, 6, 7, 8, 9, 10, 11, 12, 13, 14, 0] rfl)
      · have h := br_1 h c1015
        refine lv_iconst (v := (1 : Int32)) hx hb dL_law_1018 (by decide) ?_
        refine lv_goto (tgt := 1023) hx hb dL_law_1019 (by decide) ?_
        exact LN_law_n1023 F s961 (0 : Int32) (1 : Int32) x4 x5 x7 x8 x9 x10 x15 x16 x17 x18 r986 rs rm ts tm rdue rtun rsee rbeg psize pclause peff pkin pgri psig psee qsize qclause qeff qkin qgri qsig qsee w986_cdee w986_cnow w986_cahe kdee know kahe fc lf told up lo zz tt C0 hret ih961 h ad _ _ ho hP hD hS _ (lv_sub hl [1, 2, 3, 4, 5, 6, 7, 8, 9, 10, 11, 12, 13, 14, 0] rfl)
    · have h := br_0 h c998
      refine lv_iload hx hb dL_law_1001 (lv_at hl 12 rfl) ?_
      refine lv_if_ne (tgt := 1010) hx hb dL_law_1003 (by decide) (fun c1003 => ?_) (fun c1003 => ?_)
      · have h := br_0 h c1003
        refine lv_iconst (v := (0 : Int32)) hx hb dL_law_1010 (by decide) ?_
        refine lv_iload hx hb dL_law_1011 (lv_at hl 14 rfl) ?_
        refine lv_iload hx hb dL_law_1013 (lv_at hl 13 rfl) ?_
        refine lv_icmp_ne (tgt := 1022) hx hb dL_law_1015 (by decide) (fun c1015 => ?_) (fun c1015 => ?_)
        · have h := br_0 h c1015
          refine lv_iconst (v := (0 : Int32)) hx hb dL_law_1022 (by decide) ?_
          exact LN_law_n1023 F s961 (0 : Int32) (0 : Int32) x4 x5 x7 x8 x9 x10 x15 x16 x17 x18 r986 rs rm ts tm rdue rtun rsee rbeg psize pclause peff pkin pgri psig psee qsize qclause qeff qkin qgri qsig qsee w986_cdee w986_cnow w986_cahe kdee know kahe fc lf told up lo zz tt C0 hret ih961 h ad _ _ ho hP hD hS _ (lv_sub hl [1, 2, 3, 4, 5, 6, 7, 8, 9, 10, 11, 12, 13, 14, 0] rfl)
        · have h := br_1 h c1015
          refine lv_iconst (v := (1 : Int32)) hx hb dL_law_1018 (by decide) ?_
          refine lv_goto (tgt := 1023) hx hb dL_law_1019 (by decide) ?_
          exact LN_law_n1023 F s961 (0 : Int32) (1 : Int32) x4 x5 x7 x8 x9 x10 x15 x16 x17 x18 r986 rs rm ts tm rdue rtun rsee rbeg psize pclause peff pkin pgri psig psee qsize qclause qeff qkin qgri qsig qsee w986_cdee w986_cnow w986_cahe kdee know kahe fc lf told up lo zz tt C0 hret ih961 h ad _ _ ho hP hD hS _ (lv_sub hl [1, 2, 3, 4, 5, 6, 7, 8, 9, 10, 11, 12, 13, 14, 0] rfl)
      · have h := br_1 h c1003
        refine lv_iconst (v := (1 : Int32)) hx hb dL_law_1006 (by decide) ?_
        refine lv_goto (tgt := 1011) hx hb dL_law_1007 (by decide) ?_
        refine lv_iload hx hb dL_law_1011 (lv_at hl 14 rfl) ?_
        refine lv_iload hx hb dL_law_1013 (lv_at hl 13 rfl) ?_
        refine lv_icmp_ne (tgt := 1022) hx hb dL_law_1015 (by decide) (fun c1015 => ?_) (fun c1015 => ?_)
        · have h := br_0 h c1015
          refine lv_iconst (v := (0 : Int32)) hx hb dL_law_1022 (by decide) ?_
          exact LN_law_n1023 F s961 (1 : Int32) (0 : Int32) x4 x5 x7 x8 x9 x10 x15 x16 x17 x18 r986 rs rm ts tm rdue rtun rsee rbeg psize pclause peff pkin pgri psig psee qsize qclause qeff qkin qgri qsig qsee w986_cdee w986_cnow w986_cahe kdee know kahe fc lf told up lo zz tt C0 hret ih961 h ad _ _ ho hP hD hS _ (lv_sub hl [1, 2, 3, 4, 5, 6, 7, 8, 9, 10, 11, 12, 13, 14, 0] rfl)
        · have h := br_1 h c1015
          refine lv_iconst (v := (1 : Int32)) hx hb dL_law_1018 (by decide) ?_
          refine lv_goto (tgt := 1023) hx hb dL_law_1019 (by decide) ?_
          exact LN_law_n1023 F s961 (1 : Int32) (1 : Int32) x4 x5 x7 x8 x9 x10 x15 x16 x17 x18 r986 rs rm ts tm rdue rtun rsee rbeg psize pclause peff pkin pgri psig psee qsize qclause qeff qkin qgri qsig qsee w986_cdee w986_cnow w986_cahe kdee know kahe fc lf told up lo zz tt C0 hret ih961 h ad _ _ ho hP hD hS _ (lv_sub hl [1, 2, 3, 4, 5, 6, 7, 8, 9, 10, 11, 12, 13, 14, 0] rfl)
set_option maxHeartbeats 4000000 in
set_option maxRecDepth 100000 in
theorem LN_law_n1857 {p : Program} {l : Launch} {e : Env} {s : State} {m : MethodId} {args : Array Value} {below : List Frame} {meth : Method} {c : Code} {Q : State → Prop} {D : va_G} {T : Nat → ClassId} {b L : Nat} {xs : Nat → Int32} {A : Nat → Prop} {o0 za ta : Nat} (F : Nat) (s1736 : Int32 → Int32 → Int32 → Int32 → Option (Int32)) (x4 : Int32) (x5 : Int32) (x7 : Int32) (x8 : Int32) (x9 : Int32) (x23 : Int32) (x24 : Int32) (x25 : Int32) (x26 : Int32) (x27 : Int32) (x28 : Int32) (rs : Nat → Int32) (rm : Nat → Nat → Int32) (ts : Nat → Int32) (tm : Nat → Nat → Int32) (rdue : Int32) (rtun : Int32) (rsee : Int32) (rbeg : Int32) (psize : Int32) (pclause : Int32) (peff : Nat → Int32) (pkin : Nat → Int32) (pgri : Nat → Int32) (psig : Nat → Int32) (psee : Nat → Int32) (qsize : Int32) (qclause : Int32) (qeff : Nat → Int32) (qkin : Nat → Int32) (qgri : Nat → Int32) (qsig : Nat → Int32) (qsee : Nat → Int32) (cdee : Int32) (cnow : Int64) (cahe : Nat → Int64) (kdee : Nat → Int32) (know : Nat → Int64) (kahe : Nat → Nat → Int64) (fc : Nat → Int32) (lf : Int32) (told : Int32) (up : Int64) (lo : Int64) (zz : Nat → Int32) (tt : Nat → Int32) (C0 : SC_law p s m args c D T b L xs A) (hret : HR_law p l e s m args below meth c Q A) (ih1736 : ∀ x23 : Int32, ∀ x26 : Int32, ∀ x27 : Int32, ∀ told : Int32, s1736 x23 x26 x27 told = some (1 : Int32) → ∀ (ad : Nat → Nat) (H : Heap) (locs : List Loc), ad 0 = o0 → va_P D vwCl (wLW T ad (ad 6) (ad 12) za ta rs rm ts tm rdue rtun rsee rbeg psize pclause peff pkin pgri psig psee qsize qclause qeff qkin qgri qsig qsee cdee cnow cahe kdee know kahe fc lf told up lo zz tt) H → va_D A (wLW T ad (ad 6) (ad 12) za ta rs rm ts tm rdue rtun rsee rbeg psize pclause peff pkin pgri psig psee qsize qclause qeff qkin qgri qsig qsee cdee cnow cahe kdee know kahe fc lf told up lo zz tt) → va_S A s.heap H locs → ∀ (ls : Array Slot), lv_has ls 31 [(0, .ref b), (1, .ref (ad 0)), (3, .ref ta), (4, .int x4), (5, .int x5), (7, .int x7), (8, .int x8), (9, .int x9), (23, .int x23), (24, .int x24), (25, .int x25), (26, .int x26), (27, .int x27)] → W p l e room_1 s m args below meth c H locs 40 874 Q (F0 m 1736 ls [])) (h : fL_law_n1857 F s1736 L xs x4 x5 x7 x8 x9 x23 x24 x25 x26 x27 x28 rs rm ts tm rdue rtun rsee rbeg psize pclause peff pkin pgri psig psee qsize qclause qeff qkin qgri qsig qsee cdee cnow cahe kdee know kahe fc lf told up lo zz tt = some (1 : Int32)) : ∀ (ad : Nat → Nat) (H : Heap) (locs : List Loc), ad 0 = o0 → va_P D vwCl (wLW T ad (ad 6) (ad 12) za ta rs rm ts tm rdue rtun rsee rbeg psize pclause peff pkin pgri psig psee qsize qclause qeff qkin qgri qsig qsee cdee cnow cahe kdee know kahe fc lf told up lo zz tt) H → va_D A (wLW T ad (ad 6) (ad 12) za ta rs rm ts tm rdue rtun rsee rbeg psize pclause peff pkin pgri psig psee qsize qclause qeff qkin qgri qsig qsee cdee cnow cahe kdee know kahe fc lf told up lo zz tt) → va_S A s.heap H locs → ∀ (ls : Array Slot), lv_has ls 31 [(0, .ref b), (1, .ref (ad 0)), (3, .ref ta), (4, .int x4), (5, .int x5), (7, .int x7), (8, .int x8), (9, .int x9), (23, .int x23), (24, .int x24), (25, .int x25), (26, .int x26), (27, .int x27), (28, .int x28)] → W p l e room_1 s m args below meth c H locs 40 874 Q (F0 m 1857 ls []) := by
  intro ad H locs ho hP hD hS ls hl
  obtain ⟨hFix, hKK, hA, hX, hbl, hbA⟩ := id C0
  obtain ⟨hx, hb, hml, hown, hts⟩ := id hFix
  have hK := hKK.1
  unfold fL_law_n1857 at h
  refine lv_iload hx hb dL_law_1857 (lv_at hl 11 rfl) ?_
  refine lv_iload hx hb dL_law_1859 (lv_at hl 13 rfl) ?_
  refine lv_iadd hx hb dL_law_1861 ?_
  refine lv_istore (lv' := [(26, .int (x26 + x28)), (0, .ref b), (1, .ref (ad 0)), (3, .ref ta), (4, .int x4), (5, .int x5), (7, .int x7), (8, .int x8), (9, .int x9), (23, .int x23), (24, .int x24), (25, .int x25), (27, .int x27), (28, .int x28)]) hx hb dL_law_1862 hl (by decide) rfl (fun ls hl => ?_)
  refine lv_iinc (v := (x27 + (1 : Int32))) (lv' := [(27, .int (x27 + (1 : Int32))), (26, .int (x26 + x28)), (0, .ref b), (1, .ref (ad 0)), (3, .ref ta), (4, .int x4), (5, .int x5), (7, .int x7), (8, .int x8), (9, .int x9), (23, .int x23), (24, .int x24), (25, .int x25), (28, .int x28)]) hx hb dL_law_1864 hl (k := 12) rfl rfl (by decide) rfl (fun ls hl => ?_)
  refine lv_goto (tgt := 1736) hx hb dL_law_1867 (by decide) ?_
  exact ih1736 x23 (x26 + x28) (x27 + (1 : Int32)) told h ad _ _ ho hP hD hS _ (lv_sub hl [2, 3, 4, 5, 6, 7, 8, 9, 10, 11, 12, 1, 0] rfl)
