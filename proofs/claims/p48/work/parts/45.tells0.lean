def HR_tells (p : Program) (l : Launch) (e : Env) (s : State) (m : MethodId) (args : Array Value) (below : List Frame) (meth : Method) (c : Code) (Q : State → Prop) (D : va_G) (T : Nat → ClassId) (A : Nat → Prop) (o0 za ta : Nat) (r : Int32) (zts : Nat → Int32) (ztm : Nat → Nat → Int32) (zrdue : Int32) (zrtun : Int32) (zrsee : Int32) (zrbeg : Int32) (zpsize : Int32) (zpclause : Int32) (zpeff : Nat → Int32) (zpkin : Nat → Int32) (zpgri : Nat → Int32) (zpsig : Nat → Int32) (zpsee : Nat → Int32) (zqsize : Int32) (zqclause : Int32) (zqeff : Nat → Int32) (zqkin : Nat → Int32) (zqgri : Nat → Int32) (zqsig : Nat → Int32) (zqsee : Nat → Int32) (zcdee : Int32) (zcnow : Int64) (zkdee : Nat → Int32) (zfc : Nat → Int32) (zlf : Int32) (zzz : Nat → Int32) (ztt : Nat → Int32) (rs : Nat → Int32) (rm : Nat → Nat → Int32) (cahe : Nat → Int64) (know : Nat → Int64) (kahe : Nat → Nat → Int64) (told : Int32) (up : Int64) (lo : Int64) : Prop := ∀ (ad : Nat → Nat) (H : Heap) (locs : List Loc) (pc : Nat) (ls : Array Slot), ad 0 = o0 → va_P D vwCl (wLW T ad (ad 6) (ad 12) za ta rs rm zts ztm zrdue zrtun zrsee zrbeg zpsize zpclause zpeff zpkin zpgri zpsig zpsee zqsize zqclause zqeff zqkin zqgri zqsig zqsee zcdee zcnow cahe zkdee know kahe zfc zlf told up lo zzz ztt) H → va_D A (wLW T ad (ad 6) (ad 12) za ta rs rm zts ztm zrdue zrtun zrsee zrbeg zpsize zpclause zpeff zpkin zpgri zpsig zpsee zqsize zqclause zqeff zqkin zqgri zqsig zqsee zcdee zcnow cahe zkdee know kahe zfc zlf told up lo zzz ztt) → va_S A s.heap H locs → decode cL_tells pc = .ok (.ireturn, 1) → b01 r → W p l e ({ frames := 5, cells := 0, slots := 0, locals := 112 } : Room) s m args below meth c H locs 0 0 Q (F0 m pc ls [.int r])
def SC_tells (p : Program) (s : State) (m : MethodId) (args : Array Value) (c : Code) (D : va_G) (T : Nat → ClassId) (b L : Nat) (xs : Nat → Int32) (A : Nat → Prop) : Prop := CallFix p m c cL_tells 11 s args wsL_tells RL ∧ KK D T s ∧ (∀ q, s.heap.size ≤ q → A q) ∧ va_X b L xs s s.heap ∧ b < s.heap.size ∧ ¬ A b
set_option maxHeartbeats 4000000 in
set_option maxRecDepth 100000 in
theorem LN_tells_n300 {p : Program} {l : Launch} {e : Env} {s : State} {m : MethodId} {args : Array Value} {below : List Frame} {meth : Method} {c : Code} {Q : State → Prop} {D : va_G} {T : Nat → ClassId} {b L : Nat} {xs : Nat → Int32} {A : Nat → Prop} {za ta : Nat} {ad : Nat → Nat} {r : Int32} {zts : Nat → Int32} {ztm : Nat → Nat → Int32} {zrdue : Int32} {zrtun : Int32} {zrsee : Int32} {zrbeg : Int32} {zpsize : Int32} {zpclause : Int32} {zpeff : Nat → Int32} {zpkin : Nat → Int32} {zpgri : Nat → Int32} {zpsig : Nat → Int32} {zpsee : Nat → Int32} {zqsize : Int32} {zqclause : Int32} {zqeff : Nat → Int32} {zqkin : Nat → Int32} {zqgri : Nat → Int32} {zqsig : Nat → Int32} {zqsee : Nat → Int32} {zcdee : Int32} {zcnow : Int64} {zkdee : Nat → Int32} {zfc : Nat → Int32} {zlf : Int32} {zzz : Nat → Int32} {ztt : Nat → Int32} {rm : Nat → Nat → Int32} {cahe : Nat → Int64} {know : Nat → Int64} {kahe : Nat → Nat → Int64} {told : Int32} {up : Int64} {lo : Int64} (F : Nat) (s192 : Int32 → Int32 → (Nat → Nat → Int32) → (Nat → Int32) → Int32 → (Nat → Int32) → (Nat → Int32) → Option (Int32 × (Nat → Int32) × (Nat → Nat → Int32) × Int32 × Int32 × Int32 × Int32 × Int32 × Int32 × (Nat → Int32) × (Nat → Int32) × (Nat → Int32) × (Nat → Int32) × (Nat → Int32) × Int32 × Int32 × (Nat → Int32) × (Nat → Int32) × (Nat → Int32) × (Nat → Int32) × (Nat → Int32) × Int32 × Int64 × (Nat → Int32) × (Nat → Int32) × Int32 × (Nat → Int32) × (Nat → Int32))) (rs : Nat → Int32) (x5 : Int32) (x6 : Int32) (x7 : Int32) (ts : Nat → Int32) (tm : Nat → Nat → Int32) (rdue : Int32) (rtun : Int32) (rsee : Int32) (rbeg : Int32) (psize : Int32) (pclause : Int32) (peff : Nat → Int32) (pkin : Nat → Int32) (pgri : Nat → Int32) (psig : Nat → Int32) (psee : Nat → Int32) (qsize : Int32) (qclause : Int32) (qeff : Nat → Int32) (qkin : Nat → Int32) (qgri : Nat → Int32) (qsig : Nat → Int32) (qsee : Nat → Int32) (cdee : Int32) (cnow : Int64) (kdee : Nat → Int32) (fc : Nat → Int32) (lf : Int32) (zz : Nat → Int32) (tt : Nat → Int32) (C0 : SC_tells p s m args c D T b L xs A) (hret : HR_tells p l e s m args below meth c Q D T A (ad 0) za ta r zts ztm zrdue zrtun zrsee zrbeg zpsize zpclause zpeff zpkin zpgri zpsig zpsee zqsize zqclause zqeff zqkin zqgri zqsig zqsee zcdee zcnow zkdee zfc zlf zzz ztt rs rm cahe know kahe told up lo) (ih192 : ∀ x6 : Int32, ∀ x7 : Int32, ∀ tm : Nat → Nat → Int32, ∀ fc : Nat → Int32, ∀ lf : Int32, ∀ zz : Nat → Int32, ∀ tt : Nat → Int32, s192 x6 x7 tm fc lf zz tt = some (r, zts, ztm, zrdue, zrtun, zrsee, zrbeg, zpsize, zpclause, zpeff, zpkin, zpgri, zpsig, zpsee, zqsize, zqclause, zqeff, zqkin, zqgri, zqsig, zqsee, zcdee, zcnow, zkdee, zfc, zlf, zzz, ztt) → ∀ (H : Heap) (locs : List Loc), va_P D vwCl (wLW T ad (ad 6) (ad 12) za ta rs rm ts tm rdue rtun rsee rbeg psize pclause peff pkin pgri psig psee qsize qclause qeff qkin qgri qsig qsee cdee cnow cahe kdee know kahe fc lf told up lo zz tt) H → va_D A (wLW T ad (ad 6) (ad 12) za ta rs rm ts tm rdue rtun rsee rbeg psize pclause peff pkin pgri psig psee qsize qclause qeff qkin qgri qsig qsee cdee cnow cahe kdee know kahe fc lf told up lo zz tt) → va_S A s.heap H locs → ∀ (ls : Array Slot), lv_has ls 11 [(0, .ref (ad 0)), (1, .ref b), (2, .ref za), (3, .ref ta), (6, .int x6), (7, .int x7)] → W p l e ({ frames := 5, cells := 0, slots := 0, locals := 112 } : Room) s m args below meth c H locs 0 0 Q (F0 m 192 ls [])) (h : fL_tells_n300 F s192 (ad 6) (ad 12) L xs rs x5 x6 x7 ts tm rdue rtun rsee rbeg psize pclause peff pkin pgri psig psee qsize qclause qeff qkin qgri qsig qsee cdee cnow kdee fc lf zz tt = some (r, zts, ztm, zrdue, zrtun, zrsee, zrbeg, zpsize, zpclause, zpeff, zpkin, zpgri, zpsig, zpsee, zqsize, zqclause, zqeff, zqkin, zqgri, zqsig, zqsee, zcdee, zcnow, zkdee, zfc, zlf, zzz, ztt)) : ∀ (H : Heap) (locs : List Loc), va_P D vwCl (wLW T ad (ad 6) (ad 12) za ta rs rm ts tm rdue rtun rsee rbeg psize pclause peff pkin pgri psig psee qsize qclause qeff qkin qgri qsig qsee cdee cnow cahe kdee know kahe fc lf told up lo zz tt) H → va_D A (wLW T ad (ad 6) (ad 12) za ta rs rm ts tm rdue rtun rsee rbeg psize pclause peff pkin pgri psig psee qsize qclause qeff qkin qgri qsig qsee cdee cnow cahe kdee know kahe fc lf told up lo zz tt) → va_S A s.heap H locs → ∀ (ls : Array Slot), lv_has ls 11 [(0, .ref (ad 0)), (1, .ref b), (2, .ref za), (3, .ref ta), (5, .int x5), (6, .int x6), (7, .int x7)] → W p l e ({ frames := 5, cells := 0, slots := 0, locals := 112 } : Room) s m args below meth c H locs 0 0 Q (F0 m 300 ls []) := by
  intro H locs hP hD hS ls hl
  obtain ⟨hFix, hKK, hA, hX, hbl, hbA⟩ := id C0
  obtain ⟨hx, hb, hml, hown, hts⟩ := id hFix
  have hK := hKK.1
  unfold fL_tells_n300 at h
  refine lv_iload hx hb dL_tells_300 (lv_at hl 5 rfl) ?_
  refine lv_iconst (v := (2 : Int32)) hx hb dL_tells_302 (by decide) ?_
  refine lv_iload hx hb dL_tells_303 (lv_at hl 4 rfl) ?_
  refine lv_bipush (v := (8 : Int32)) hx hb dL_tells_305 (by decide) ?_
  refine lv_ishr hx hb dL_tells_307 ?_
  refine lv_iconst (v := (2 : Int32)) hx hb dL_tells_308 (by decide) ?_
  obtain ⟨r309, hc, h⟩ := bd1_some h
  refine my_roi (va_Run.run (va_runS (As := [.int (x5 >>> ((8 : Int32) &&& 31)), .int (2 : Int32)]) (rest := [.int (2 : Int32), .int x6]) hFix (kL_part l D T F (x5 >>> ((8 : Int32) &&& 31)) (2 : Int32) r309 hc) (va_cwS 2 hts gL_tells_L_part rfl rfl rfl hd_L_part ⟨Nat.le_of_ble_eq_true rfl, Nat.le_of_ble_eq_true rfl⟩) (preS_ro va_nil hKK) rfl rfl hl.1 rfl (lv_room (Nat.le_of_ble_eq_true rfl)) dL_tells_309 ⟨Nat.zero_le _, Nat.zero_le _⟩)) ?_
  refine lv_iadd hx hb dL_tells_312 ?_
  refine lv_iadd hx hb dL_tells_313 ?_
  refine lv_istore (lv' := [(6, .int (x6 + ((2 : Int32) + r309))), (0, .ref (ad 0)), (1, .ref b), (2, .ref za), (3, .ref ta), (5, .int x5), (7, .int x7)]) hx hb dL_tells_314 hl (by decide) rfl (fun ls hl => ?_)
  refine lv_iinc (v := (x7 + (1 : Int32))) (lv' := [(7, .int (x7 + (1 : Int32))), (6, .int (x6 + ((2 : Int32) + r309))), (0, .ref (ad 0)), (1, .ref b), (2, .ref za), (3, .ref ta), (5, .int x5)]) hx hb dL_tells_316 hl (k := 6) rfl rfl (by decide) rfl (fun ls hl => ?_)
  refine lv_goto (tgt := 192) hx hb dL_tells_319 (by decide) ?_
  exact ih192 (x6 + ((2 : Int32) + r309)) (x7 + (1 : Int32)) tm fc lf zz tt h _ _ hP hD hS _ (lv_sub hl [2, 3, 4, 5, 1, 0] rfl)
set_option maxHeartbeats 4000000 in
set_option maxRecDepth 100000 in
theorem LN_tells_n253 {p : Program} {l : Launch} {e : Env} {s : State} {m : MethodId} {args : Array Value} {below : List Frame} {meth : Method} {c : Code} {Q : State → Prop} {D : va_G} {T : Nat → ClassId} {b L : Nat} {xs : Nat → Int32} {A : Nat → Prop} {za ta : Nat} {ad : Nat → Nat} {r : Int32} {zts : Nat → Int32} {ztm : Nat → Nat → Int32} {zrdue : Int32} {zrtun : Int32} {zrsee : Int32} {zrbeg : Int32} {zpsize : Int32} {zpclause : Int32} {zpeff : Nat → Int32} {zpkin : Nat → Int32} {zpgri : Nat → Int32} {zpsig : Nat → Int32} {zpsee : Nat → Int32} {zqsize : Int32} {zqclause : Int32} {zqeff : Nat → Int32} {zqkin : Nat → Int32} {zqgri : Nat → Int32} {zqsig : Nat → Int32} {zqsee : Nat → Int32} {zcdee : Int32} {zcnow : Int64} {zkdee : Nat → Int32} {zfc : Nat → Int32} {zlf : Int32} {zzz : Nat → Int32} {ztt : Nat → Int32} {rm : Nat → Nat → Int32} {cahe : Nat → Int64} {know : Nat → Int64} {kahe : Nat → Nat → Int64} {told : Int32} {up : Int64} {lo : Int64} (F : Nat) (s192 : Int32 → Int32 → (Nat → Nat → Int32) → (Nat → Int32) → Int32 → (Nat → Int32) → (Nat → Int32) → Option (Int32 × (Nat → Int32) × (Nat → Nat → Int32) × Int32 × Int32 × Int32 × Int32 × Int32 × Int32 × (Nat → Int32) × (Nat → Int32) × (Nat → Int32) × (Nat → Int32) × (Nat → Int32) × Int32 × Int32 × (Nat → Int32) × (Nat → Int32) × (Nat → Int32) × (Nat → Int32) × (Nat → Int32) × Int32 × Int64 × (Nat → Int32) × (Nat → Int32) × Int32 × (Nat → Int32) × (Nat → Int32))) (rs : Nat → Int32) (x5 : Int32) (x6 : Int32) (x7 : Int32) (ts : Nat → Int32) (tm : Nat → Nat → Int32) (rdue : Int32) (rtun : Int32) (rsee : Int32) (rbeg : Int32) (psize : Int32) (pclause : Int32) (peff : Nat → Int32) (pkin : Nat → Int32) (pgri : Nat → Int32) (psig : Nat → Int32) (psee : Nat → Int32) (qsize : Int32) (qclause : Int32) (qeff : Nat → Int32) (qkin : Nat → Int32) (qgri : Nat → Int32) (qsig : Nat → Int32) (qsee : Nat → Int32) (cdee : Int32) (cnow : Int64) (kdee : Nat → Int32) (fc : Nat → Int32) (lf : Int32) (zz : Nat → Int32) (tt : Nat → Int32) (C0 : SC_tells p s m args c D T b L xs A) (hret : HR_tells p l e s m args below meth c Q D T A (ad 0) za ta r zts ztm zrdue zrtun zrsee zrbeg zpsize zpclause zpeff zpkin zpgri zpsig zpsee zqsize zqclause zqeff zqkin zqgri zqsig zqsee zcdee zcnow zkdee zfc zlf zzz ztt rs rm cahe know kahe told up lo) (ih192 : ∀ x6 : Int32, ∀ x7 : Int32, ∀ tm : Nat → Nat → Int32, ∀ fc : Nat → Int32, ∀ lf : Int32, ∀ zz : Nat → Int32, ∀ tt : Nat → Int32, s192 x6 x7 tm fc lf zz tt = some (r, zts, ztm, zrdue, zrtun, zrsee, zrbeg, zpsize, zpclause, zpeff, zpkin, zpgri, zpsig, zpsee, zqsize, zqclause, zqeff, zqkin, zqgri, zqsig, zqsee, zcdee, zcnow, zkdee, zfc, zlf, zzz, ztt) → ∀ (H : Heap) (locs : List Loc), va_P D vwCl (wLW T ad (ad 6) (ad 12) za ta rs rm ts tm rdue rtun rsee rbeg psize pclause peff pkin pgri psig psee qsize qclause qeff qkin qgri qsig qsee cdee cnow cahe kdee know kahe fc lf told up lo zz tt) H → va_D A (wLW T ad (ad 6) (ad 12) za ta rs rm ts tm rdue rtun rsee rbeg psize pclause peff pkin pgri psig psee qsize qclause qeff qkin qgri qsig qsee cdee cnow cahe kdee know kahe fc lf told up lo zz tt) → va_S A s.heap H locs → ∀ (ls : Array Slot), lv_has ls 11 [(0, .ref (ad 0)), (1, .ref b), (2, .ref za), (3, .ref ta), (6, .int x6), (7, .int x7)] → W p l e ({ frames := 5, cells := 0, slots := 0, locals := 112 } : Room) s m args below meth c H locs 0 0 Q (F0 m 192 ls [])) (h : fL_tells_n253 F s192 (ad 6) (ad 12) L xs rs x5 x6 x7 ts tm rdue rtun rsee rbeg psize pclause peff pkin pgri psig psee qsize qclause qeff qkin qgri qsig qsee cdee cnow kdee fc lf zz tt = some (r, zts, ztm, zrdue, zrtun, zrsee, zrbeg, zpsize, zpclause, zpeff, zpkin, zpgri, zpsig, zpsee, zqsize, zqclause, zqeff, zqkin, zqgri, zqsig, zqsee, zcdee, zcnow, zkdee, zfc, zlf, zzz, ztt)) : ∀ (H : Heap) (locs : List Loc), va_P D vwCl (wLW T ad (ad 6) (ad 12) za ta rs rm ts tm rdue rtun rsee rbeg psize pclause peff pkin pgri psig psee qsize qclause qeff qkin qgri qsig qsee cdee cnow cahe kdee know kahe fc lf told up lo zz tt) H → va_D A (wLW T ad (ad 6) (ad 12) za ta rs rm ts tm rdue rtun rsee rbeg psize pclause peff pkin pgri psig psee qsize qclause qeff qkin qgri qsig qsee cdee cnow cahe kdee know kahe fc lf told up lo zz tt) → va_S A s.heap H locs → ∀ (ls : Array Slot), lv_has ls 11 [(0, .ref (ad 0)), (1, .ref b), (2, .ref za), (3, .ref ta), (5, .int x5), (6, .int x6), (7, .int x7)] → W p l e ({ frames := 5, cells := 0, slots := 0, locals := 112 } : Room) s m args below meth c H locs 0 0 Q (F0 m 253 ls []) := by
  intro H locs hP hD hS ls hl
  obtain ⟨hFix, hKK, hA, hX, hbl, hbA⟩ := id C0
  obtain ⟨hx, hb, hml, hown, hts⟩ := id hFix
  have hK := hKK.1
  unfold fL_tells_n253 at h
  refine lv_aload_n hx hb dL_tells_253 rfl (lv_at hl 0 rfl) ?_
  refine lv_iconst (v := (2 : Int32)) hx hb dL_tells_254 (by decide) ?_
  refine lv_iload hx hb dL_tells_255 (lv_at hl 5 rfl) ?_
  refine lv_aload_n hx hb dL_tells_257 rfl (lv_at hl 2 rfl) ?_
  refine lv_bipush (v := (6 : Int32)) hx hb dL_tells_258 (by decide) ?_
  refine lv_iload hx hb dL_tells_260 (lv_at hl 6 rfl) ?_
  refine lv_iadd hx hb dL_tells_262 ?_
  obtain ⟨hin1, h⟩ := ck_some h
  refine va_iald hx hb hK hP 38 0 wLW_38 rfl hin1 dL_tells_263 ?_
  obtain ⟨r264, hc, h⟩ := bd1_some h
  refine my_roi (va_Run.run (va_runS (As := [.int (zz ((6 : Int32) + x7).toNatClampNeg)]) (rest := [.int x6, .int (2 : Int32), .ref (ad 0)]) hFix (kL_letter l D T F (zz ((6 : Int32) + x7).toNatClampNeg) r264 hc) (va_cwS 1 hts gL_tells_L_letter rfl rfl rfl hd_L_letter ⟨Nat.le_of_ble_eq_true rfl, Nat.le_of_ble_eq_true rfl⟩) (preS_ro va_nil hKK) rfl rfl hl.1 rfl (lv_room (Nat.le_of_ble_eq_true rfl)) dL_tells_264 ⟨Nat.zero_le _, Nat.zero_le _⟩)) ?_
  obtain ⟨r267, w267_tm, w267_fc, w267_lf, hc, h⟩ := bd4_some h
  have hPc : va_P D vwCl (wPW T ad (ad 6) (ad 12) rs rm ts tm rdue rtun rsee rbeg psize pclause peff pkin pgri psig psee qsize qclause qeff qkin qgri qsig qsee cdee cnow cahe kdee know kahe fc lf told up lo) _ := my_subP sb_wLW_wPW_0to37 hP
  have hDc := hD.sub [0, 1, 2, 3, 4, 5, 6, 7, 8, 9, 10, 11, 12, 13, 14, 15, 16, 17, 18, 19, 20, 21, 22, 23, 24, 25, 26, 27, 28, 29, 30, 31, 32, 33, 34, 35, 36, 37] nd_LW sb_wLW_wPW_0to37
  have hFc := va_free hD hS hA [0, 1, 2, 3, 4, 5, 6, 7, 8, 9, 10, 11, 12, 13, 14, 15, 16, 17, 18, 19, 20, 21, 22, 23, 24, 25, 26, 27, 28, 29, 30, 31, 32, 33, 34, 35, 36, 37] sb_wLW_wPW_0to37
  refine my_rwi (va_runV (As := [.int (2 : Int32), .int x6, .int r264]) (rest := []) hFix (kX5_put l D T F ad rs rm ts tm rdue rtun rsee rbeg psize pclause peff pkin pgri psig psee qsize qclause qeff qkin qgri qsig qsee cdee cnow cahe kdee know kahe fc lf told up lo (2 : Int32) x6 r264 r267 w267_tm w267_fc w267_lf hc _) (cwV 3 hts gL_tells_X5_put rfl rfl rfl ⟨rfl, hd_X5_put⟩ ⟨Nat.le_of_ble_eq_true rfl, Nat.le_of_ble_eq_true rfl⟩) (preV_rw hPc hKK hDc (va_recv hK hP (ci := 3) (q0 := 0) rfl wLW_0)) rfl rfl hl.1 rfl (lv_room (Nat.le_of_ble_eq_true rfl)) dL_tells_267 ⟨Nat.zero_le _, Nat.zero_le _⟩) hS hFc (fun H1 locs hP1 hD1 hz1 hkk hS => ?_)
  obtain ⟨hP, hD⟩ := my_joinS hP hD nd_LW sb_wLW_wPW_0to37 (by rfl) hkk hFc hP1 hD1
  rw [st_LW] at hP hD
  generalize H1 = H at hP hS ⊢
  refine lv_sipush (v := (1032 : Int32)) hx hb dL_tells_270 (by decide) ?_
  refine lv_icmp_ne (tgt := 298) hx hb dL_tells_273 (by decide) (fun c273 => ?_) (fun c273 => ?_)
  · have h := br_0 h c273
    refine lv_iconst (v := (0 : Int32)) hx hb dL_tells_298 (by decide) ?_
    cases h
    exact hret ad _ _ _ _ rfl hP hD hS dL_tells_299 (Or.inl rfl)
  · have h := br_1 h c273
    refine lv_aload_n hx hb dL_tells_276 rfl (lv_at hl 0 rfl) ?_
    refine lv_iconst (v := (2 : Int32)) hx hb dL_tells_277 (by decide) ?_
    refine lv_iload hx hb dL_tells_278 (lv_at hl 5 rfl) ?_
    refine lv_iconst (v := (1 : Int32)) hx hb dL_tells_280 (by decide) ?_
    refine lv_iadd hx hb dL_tells_281 ?_
    refine lv_bipush (v := (48 : Int32)) hx hb dL_tells_282 (by decide) ?_
    refine lv_aload_n hx hb dL_tells_284 rfl (lv_at hl 3 rfl) ?_
    refine lv_iload hx hb dL_tells_285 (lv_at hl 6 rfl) ?_
    obtain ⟨hin2, h⟩ := ck_some h
    refine va_iald hx hb hK hP 39 0 wLW_39 rfl hin2 dL_tells_287 ?_
    refine lv_iadd hx hb dL_tells_288 ?_
    obtain ⟨r289, w289_tm, w289_fc, w289_lf, hc, h⟩ := bd4_some h
    have hPc : va_P D vwCl (wPW T ad (ad 6) (ad 12) rs rm ts w267_tm rdue rtun rsee rbeg psize pclause peff pkin pgri psig psee qsize qclause qeff qkin qgri qsig qsee cdee cnow cahe kdee know kahe w267_fc w267_lf told up lo) _ := my_subP sb_wLW_wPW_0to37 hP
    have hDc := hD.sub [0, 1, 2, 3, 4, 5, 6, 7, 8, 9, 10, 11, 12, 13, 14, 15, 16, 17, 18, 19, 20, 21, 22, 23, 24, 25, 26, 27, 28, 29, 30, 31, 32, 33, 34, 35, 36, 37] nd_LW sb_wLW_wPW_0to37
    have hFc := va_free hD hS hA [0, 1, 2, 3, 4, 5, 6, 7, 8, 9, 10, 11, 12, 13, 14, 15, 16, 17, 18, 19, 20, 21, 22, 23, 24, 25, 26, 27, 28, 29, 30, 31, 32, 33, 34, 35, 36, 37] sb_wLW_wPW_0to37
    refine my_rwi (va_runV (As := [.int (2 : Int32), .int (x6 + (1 : Int32)), .int ((48 : Int32) + (tt x7.toNatClampNeg))]) (rest := []) hFix (kX5_put l D T F ad rs rm ts w267_tm rdue rtun rsee rbeg psize pclause peff pkin pgri psig psee qsize qclause qeff qkin qgri qsig qsee cdee cnow cahe kdee know kahe w267_fc w267_lf told up lo (2 : Int32) (x6 + (1 : Int32)) ((48 : Int32) + (tt x7.toNatClampNeg)) r289 w289_tm w289_fc w289_lf hc _) (cwV 3 hts gL_tells_X5_put rfl rfl rfl ⟨rfl, hd_X5_put⟩ ⟨Nat.le_of_ble_eq_true rfl, Nat.le_of_ble_eq_true rfl⟩) (preV_rw hPc hKK hDc (va_recv hK hP (ci := 3) (q0 := 0) rfl wLW_0)) rfl rfl hl.1 rfl (lv_room (Nat.le_of_ble_eq_true rfl)) dL_tells_289 ⟨Nat.zero_le _, Nat.zero_le _⟩) hS hFc (fun H1 locs hP1 hD1 hz1 hkk hS => ?_)
    obtain ⟨hP, hD⟩ := my_joinS hP hD nd_LW sb_wLW_wPW_0to37 (by rfl) hkk hFc hP1 hD1
    rw [st_LW] at hP hD
    generalize H1 = H at hP hS ⊢
    refine lv_sipush (v := (1032 : Int32)) hx hb dL_tells_292 (by decide) ?_
    refine lv_icmp_eq (tgt := 300) hx hb dL_tells_295 (by decide) (fun c295 => ?_) (fun c295 => ?_)
    · have h := br_1 h c295
      exact LN_tells_n300 F s192 rs x5 x6 x7 ts w289_tm rdue rtun rsee rbeg psize pclause peff pkin pgri psig psee qsize qclause qeff qkin qgri qsig qsee cdee cnow kdee w289_fc w289_lf zz tt C0 hret ih192 h _ _ hP hD hS _ (lv_sub hl [0, 1, 2, 3, 4, 5, 6] rfl)
    · have h := br_0 h c295
      refine lv_iconst (v := (0 : Int32)) hx hb dL_tells_298 (by decide) ?_
      cases h
      exact hret ad _ _ _ _ rfl hP hD hS dL_tells_299 (Or.inl rfl)
set_option maxHeartbeats 4000000 in
set_option maxRecDepth 100000 in
theorem LN_tells_n249 {p : Program} {l : Launch} {e : Env} {s : State} {m : MethodId} {args : Array Value} {below : List Frame} {meth : Method} {c : Code} {Q : State → Prop} {D : va_G} {T : Nat → ClassId} {b L : Nat} {xs : Nat → Int32} {A : Nat → Prop} {za ta : Nat} {ad : Nat → Nat} {r : Int32} {zts : Nat → Int32} {ztm : Nat → Nat → Int32} {zrdue : Int32} {zrtun : Int32} {zrsee : Int32} {zrbeg : Int32} {zpsize : Int32} {zpclause : Int32} {zpeff : Nat → Int32} {zpkin : Nat → Int32} {zpgri : Nat → Int32} {zpsig : Nat → Int32} {zpsee : Nat → Int32} {zqsize : Int32} {zqclause : Int32} {zqeff : Nat → Int32} {zqkin : Nat → Int32} {zqgri : Nat → Int32} {zqsig : Nat → Int32} {zqsee : Nat → Int32} {zcdee : Int32} {zcnow : Int64} {zkdee : Nat → Int32} {zfc : Nat → Int32} {zlf : Int32} {zzz : Nat → Int32} {ztt : Nat → Int32} {rm : Nat → Nat → Int32} {cahe : Nat → Int64} {know : Nat → Int64} {kahe : Nat → Nat → Int64} {told : Int32} {up : Int64} {lo : Int64} (F : Nat) (s192 : Int32 → Int32 → (Nat → Nat → Int32) → (Nat → Int32) → Int32 → (Nat → Int32) → (Nat → Int32) → Option (Int32 × (Nat → Int32) × (Nat → Nat → Int32) × Int32 × Int32 × Int32 × Int32 × Int32 × Int32 × (Nat → Int32) × (Nat → Int32) × (Nat → Int32) × (Nat → Int32) × (Nat → Int32) × Int32 × Int32 × (Nat → Int32) × (Nat → Int32) × (Nat → Int32) × (Nat → Int32) × (Nat → Int32) × Int32 × Int64 × (Nat → Int32) × (Nat → Int32) × Int32 × (Nat → Int32) × (Nat → Int32))) (rs : Nat → Int32) (s_1 : Int32) (s_2 : Int32) (s_3 : Int32) (x5 : Int32) (x6 : Int32) (x7 : Int32) (ts : Nat → Int32) (tm : Nat → Nat → Int32) (rdue : Int32) (rtun : Int32) (rsee : Int32) (rbeg : Int32) (psize : Int32) (pclause : Int32) (peff : Nat → Int32) (pkin : Nat → Int32) (pgri : Nat → Int32) (psig : Nat → Int32) (psee : Nat → Int32) (qsize : Int32) (qclause : Int32) (qeff : Nat → Int32) (qkin : Nat → Int32) (qgri : Nat → Int32) (qsig : Nat → Int32) (qsee : Nat → Int32) (cdee : Int32) (cnow : Int64) (kdee : Nat → Int32) (fc : Nat → Int32) (lf : Int32) (zz : Nat → Int32) (tt : Nat → Int32) (C0 : SC_tells p s m args c D T b L xs A) (hret : HR_tells p l e s m args below meth c Q D T A (ad 0) za ta r zts ztm zrdue zrtun zrsee zrbeg zpsize zpclause zpeff zpkin zpgri zpsig zpsee zqsize zqclause zqeff zqkin zqgri zqsig zqsee zcdee zcnow zkdee zfc zlf zzz ztt rs rm cahe know kahe told up lo) (ih192 : ∀ x6 : Int32, ∀ x7 : Int32, ∀ tm : Nat → Nat → Int32, ∀ fc : Nat → Int32, ∀ lf : Int32, ∀ zz : Nat → Int32, ∀ tt : Nat → Int32, s192 x6 x7 tm fc lf zz tt = some (r, zts, ztm, zrdue, zrtun, zrsee, zrbeg, zpsize, zpclause, zpeff, zpkin, zpgri, zpsig, zpsee, zqsize, zqclause, zqeff, zqkin, zqgri, zqsig, zqsee, zcdee, zcnow, zkdee, zfc, zlf, zzz, ztt) → ∀ (H : Heap) (locs : List Loc), va_P D vwCl (wLW T ad (ad 6) (ad 12) za ta rs rm ts tm rdue rtun rsee rbeg psize pclause peff pkin pgri psig psee qsize qclause qeff qkin qgri qsig qsee cdee cnow cahe kdee know kahe fc lf told up lo zz tt) H → va_D A (wLW T ad (ad 6) (ad 12) za ta rs rm ts tm rdue rtun rsee rbeg psize pclause peff pkin pgri psig psee qsize qclause qeff qkin qgri qsig qsee cdee cnow cahe kdee know kahe fc lf told up lo zz tt) → va_S A s.heap H locs → ∀ (ls : Array Slot), lv_has ls 11 [(0, .ref (ad 0)), (1, .ref b), (2, .ref za), (3, .ref ta), (6, .int x6), (7, .int x7)] → W p l e ({ frames := 5, cells := 0, slots := 0, locals := 112 } : Room) s m args below meth c H locs 0 0 Q (F0 m 192 ls [])) (h : fL_tells_n249 F s192 (ad 6) (ad 12) L xs rs s_1 s_2 s_3 x5 x6 x7 ts tm rdue rtun rsee rbeg psize pclause peff pkin pgri psig psee qsize qclause qeff qkin qgri qsig qsee cdee cnow kdee fc lf zz tt = some (r, zts, ztm, zrdue, zrtun, zrsee, zrbeg, zpsize, zpclause, zpeff, zpkin, zpgri, zpsig, zpsee, zqsize, zqclause, zqeff, zqkin, zqgri, zqsig, zqsee, zcdee, zcnow, zkdee, zfc, zlf, zzz, ztt)) : ∀ (H : Heap) (locs : List Loc), va_P D vwCl (wLW T ad (ad 6) (ad 12) za ta rs rm ts tm rdue rtun rsee rbeg psize pclause peff pkin pgri psig psee qsize qclause qeff qkin qgri qsig qsee cdee cnow cahe kdee know kahe fc lf told up lo zz tt) H → va_D A (wLW T ad (ad 6) (ad 12) za ta rs rm ts tm rdue rtun rsee rbeg psize pclause peff pkin pgri psig psee qsize qclause qeff qkin qgri qsig qsee cdee cnow cahe kdee know kahe fc lf told up lo zz tt) → va_S A s.heap H locs → ∀ (ls : Array Slot), lv_has ls 11 [(0, .ref (ad 0)), (1, .ref b), (2, .ref za), (3, .ref ta), (5, .int x5), (6, .int x6), (7, .int x7)] → W p l e ({ frames := 5, cells := 0, slots := 0, locals := 112 } : Room) s m args below meth c H locs 0 0 Q (F0 m 249 ls [.int s_3, .int s_2, .int s_1, .ref ta]) := by
  intro H locs hP hD hS ls hl
  obtain ⟨hFix, hKK, hA, hX, hbl, hbA⟩ := id C0
  obtain ⟨hx, hb, hml, hown, hts⟩ := id hFix
  have hK := hKK.1
  unfold fL_tells_n249 at h
  obtain ⟨r249, hc, h⟩ := bd1_some h
  refine my_roi (va_Run.run (va_runS (As := [.int s_2, .int s_3]) (rest := [.int s_1, .ref ta]) hFix (kL_part l D T F s_2 s_3 r249 hc) (va_cwS 2 hts gL_tells_L_part rfl rfl rfl hd_L_part ⟨Nat.le_of_ble_eq_true rfl, Nat.le_of_ble_eq_true rfl⟩) (preS_ro va_nil hKK) rfl rfl hl.1 rfl (lv_room (Nat.le_of_ble_eq_true rfl)) dL_tells_249 ⟨Nat.zero_le _, Nat.zero_le _⟩)) ?_
  obtain ⟨hin1, h⟩ := ck_some h
  refine va_iast hx hb hK hP hD hS 39 0 wLW_39 rfl hin1 dL_tells_252 (fun H locs hP hD hS => ?_)
  have hP : va_P D vwCl (wLW T ad (ad 6) (ad 12) za ta rs rm ts tm rdue rtun rsee rbeg psize pclause peff pkin pgri psig psee qsize qclause qeff qkin qgri qsig qsee cdee cnow cahe kdee know kahe fc lf told up lo zz (upd tt s_1.toNatClampNeg r249)) H := hP
  have hD : va_D A (wLW T ad (ad 6) (ad 12) za ta rs rm ts tm rdue rtun rsee rbeg psize pclause peff pkin pgri psig psee qsize qclause qeff qkin qgri qsig qsee cdee cnow cahe kdee know kahe fc lf told up lo zz (upd tt s_1.toNatClampNeg r249)) := hD
  exact LN_tells_n253 F s192 rs x5 x6 x7 ts tm rdue rtun rsee rbeg psize pclause peff pkin pgri psig psee qsize qclause qeff qkin qgri qsig qsee cdee cnow kdee fc lf zz (upd tt s_1.toNatClampNeg r249) C0 hret ih192 h _ _ hP hD hS _ (lv_sub hl [0, 1, 2, 3, 4, 5, 6] rfl)
set_option maxHeartbeats 4000000 in
set_option maxRecDepth 100000 in
theorem LN_tells_n404 {p : Program} {l : Launch} {e : Env} {s : State} {m : MethodId} {args : Array Value} {below : List Frame} {meth : Method} {c : Code} {Q : State → Prop} {D : va_G} {T : Nat → ClassId} {b L : Nat} {xs : Nat → Int32} {A : Nat → Prop} {za ta : Nat} {ad : Nat → Nat} {r : Int32} {zts : Nat → Int32} {ztm : Nat → Nat → Int32} {zrdue : Int32} {zrtun : Int32} {zrsee : Int32} {zrbeg : Int32} {zpsize : Int32} {zpclause : Int32} {zpeff : Nat → Int32} {zpkin : Nat → Int32} {zpgri : Nat → Int32} {zpsig : Nat → Int32} {zpsee : Nat → Int32} {zqsize : Int32} {zqclause : Int32} {zqeff : Nat → Int32} {zqkin : Nat → Int32} {zqgri : Nat → Int32} {zqsig : Nat → Int32} {zqsee : Nat → Int32} {zcdee : Int32} {zcnow : Int64} {zkdee : Nat → Int32} {zfc : Nat → Int32} {zlf : Int32} {zzz : Nat → Int32} {ztt : Nat → Int32} {rm : Nat → Nat → Int32} {cahe : Nat → Int64} {know : Nat → Int64} {kahe : Nat → Nat → Int64} {told : Int32} {up : Int64} {lo : Int64} (F : Nat) (s328 : Int32 → Int32 → Int32 → (Nat → Nat → Int32) → (Nat → Int32) → Int32 → (Nat → Int32) → Option (Int32 × (Nat → Int32) × (Nat → Nat → Int32) × Int32 × Int32 × Int32 × Int32 × Int32 × Int32 × (Nat → Int32) × (Nat → Int32) × (Nat → Int32) × (Nat → Int32) × (Nat → Int32) × Int32 × Int32 × (Nat → Int32) × (Nat → Int32) × (Nat → Int32) × (Nat → Int32) × (Nat → Int32) × Int32 × Int64 × (Nat → Int32) × (Nat → Int32) × Int32 × (Nat → Int32) × (Nat → Int32))) (rs : Nat → Int32) (x6 : Int32) (x7 : Int32) (x8 : Int32) (x9 : Int32) (x10 : Int32) (ts : Nat → Int32) (tm : Nat → Nat → Int32) (rdue : Int32) (rtun : Int32) (rsee : Int32) (rbeg : Int32) (psize : Int32) (pclause : Int32) (peff : Nat → Int32) (pkin : Nat → Int32) (pgri : Nat → Int32) (psig : Nat → Int32) (psee : Nat → Int32) (qsize : Int32) (qclause : Int32) (qeff : Nat → Int32) (qkin : Nat → Int32) (qgri : Nat → Int32) (qsig : Nat → Int32) (qsee : Nat → Int32) (cdee : Int32) (cnow : Int64) (kdee : Nat → Int32) (fc : Nat → Int32) (lf : Int32) (zz : Nat → Int32) (tt : Nat → Int32) (C0 : SC_tells p s m args c D T b L xs A) (hret : HR_tells p l e s m args below meth c Q D T A (ad 0) za ta r zts ztm zrdue zrtun zrsee zrbeg zpsize zpclause zpeff zpkin zpgri zpsig zpsee zqsize zqclause zqeff zqkin zqgri zqsig zqsee zcdee zcnow zkdee zfc zlf zzz ztt rs rm cahe know kahe told up lo) (ih328 : ∀ x6 : Int32, ∀ x7 : Int32, ∀ x8 : Int32, ∀ tm : Nat → Nat → Int32, ∀ fc : Nat → Int32, ∀ lf : Int32, ∀ zz : Nat → Int32, s328 x6 x7 x8 tm fc lf zz = some (r, zts, ztm, zrdue, zrtun, zrsee, zrbeg, zpsize, zpclause, zpeff, zpkin, zpgri, zpsig, zpsee, zqsize, zqclause, zqeff, zqkin, zqgri, zqsig, zqsee, zcdee, zcnow, zkdee, zfc, zlf, zzz, ztt) → ∀ (H : Heap) (locs : List Loc), va_P D vwCl (wLW T ad (ad 6) (ad 12) za ta rs rm ts tm rdue rtun rsee rbeg psize pclause peff pkin pgri psig psee qsize qclause qeff qkin qgri qsig qsee cdee cnow cahe kdee know kahe fc lf told up lo zz tt) H → va_D A (wLW T ad (ad 6) (ad 12) za ta rs rm ts tm rdue rtun rsee rbeg psize pclause peff pkin pgri psig psee qsize qclause qeff qkin qgri qsig qsee cdee cnow cahe kdee know kahe fc lf told up lo zz tt) → va_S A s.heap H locs → ∀ (ls : Array Slot), lv_has ls 11 [(0, .ref (ad 0)), (1, .ref b), (2, .ref za), (6, .int x6), (7, .int x7), (8, .int x8)] → W p l e ({ frames := 5, cells := 0, slots := 0, locals := 112 } : Room) s m args below meth c H locs 0 0 Q (F0 m 328 ls [])) (h : fL_tells_n404 F s328 (ad 6) (ad 12) L xs rs x6 x7 x8 x9 x10 ts tm rdue rtun rsee rbeg psize pclause peff pkin pgri psig psee qsize qclause qeff qkin qgri qsig qsee cdee cnow kdee fc lf zz tt = some (r, zts, ztm, zrdue, zrtun, zrsee, zrbeg, zpsize, zpclause, zpeff, zpkin, zpgri, zpsig, zpsee, zqsize, zqclause, zqeff, zqkin, zqgri, zqsig, zqsee, zcdee, zcnow, zkdee, zfc, zlf, zzz, ztt)) : ∀ (H : Heap) (locs : List Loc), va_P D vwCl (wLW T ad (ad 6) (ad 12) za ta rs rm ts tm rdue rtun rsee rbeg psize pclause peff pkin pgri psig psee qsize qclause qeff qkin qgri qsig qsee cdee cnow cahe kdee know kahe fc lf told up lo zz tt) H → va_D A (wLW T ad (ad 6) (ad 12) za ta rs rm ts tm rdue rtun rsee rbeg psize pclause peff pkin pgri psig psee qsize qclause qeff qkin qgri qsig qsee cdee cnow cahe kdee know kahe fc lf told up lo zz tt) → va_S A s.heap H locs → ∀ (ls : Array Slot), lv_has ls 11 [(0, .ref (ad 0)), (1, .ref b), (2, .ref za), (6, .int x6), (7, .int x7), (8, .int x8), (9, .int x9), (10, .int x10)] → W p l e ({ frames := 5, cells := 0, slots := 0, locals := 112 } : Room) s m args below meth c H locs 0 0 Q (F0 m 404 ls []) := by
  intro H locs hP hD hS ls hl
  obtain ⟨hFix, hKK, hA, hX, hbl, hbA⟩ := id C0
  obtain ⟨hx, hb, hml, hown, hts⟩ := id hFix
  have hK := hKK.1
  unfold fL_tells_n404 at h
  refine lv_aload_n hx hb dL_tells_404 rfl (lv_at hl 2 rfl) ?_
  refine lv_bipush (v := (12 : Int32)) hx hb dL_tells_405 (by decide) ?_
  refine lv_iload hx hb dL_tells_407 (lv_at hl 6 rfl) ?_
  refine lv_iadd hx hb dL_tells_409 ?_
  refine lv_dup2_11 hx hb dL_tells_410 rfl rfl ?_
  obtain ⟨hin1, h⟩ := ck_some h
  refine va_iald hx hb hK hP 38 0 wLW_38 rfl hin1 dL_tells_411 ?_
  refine lv_iconst (v := (1 : Int32)) hx hb dL_tells_412 (by decide) ?_
  refine lv_iload hx hb dL_tells_413 (lv_at hl 7 rfl) ?_
  refine lv_ishl hx hb dL_tells_415 ?_
  refine lv_ior hx hb dL_tells_416 ?_
  obtain ⟨hin2, h⟩ := ck_some h
  refine va_iast hx hb hK hP hD hS 38 0 wLW_38 rfl hin2 dL_tells_417 (fun H locs hP hD hS => ?_)
  have hP : va_P D vwCl (wLW T ad (ad 6) (ad 12) za ta rs rm ts tm rdue rtun rsee rbeg psize pclause peff pkin pgri psig psee qsize qclause qeff qkin qgri qsig qsee cdee cnow cahe kdee know kahe fc lf told up lo (upd zz ((12 : Int32) + x9).toNatClampNeg ((zz ((12 : Int32) + x9).toNatClampNeg) ||| ((1 : Int32) <<< (x10 &&& 31)))) tt) H := hP
  have hD : va_D A (wLW T ad (ad 6) (ad 12) za ta rs rm ts tm rdue rtun rsee rbeg psize pclause peff pkin pgri psig psee qsize qclause qeff qkin qgri qsig qsee cdee cnow cahe kdee know kahe fc lf told up lo (upd zz ((12 : Int32) + x9).toNatClampNeg ((zz ((12 : Int32) + x9).toNatClampNeg) ||| ((1 : Int32) <<< (x10 &&& 31)))) tt) := hD
  refine lv_aload_n hx hb dL_tells_418 rfl (lv_at hl 0 rfl) ?_
  refine lv_iconst (v := (2 : Int32)) hx hb dL_tells_419 (by decide) ?_
  refine lv_iload hx hb dL_tells_420 (lv_at hl 3 rfl) ?_
  refine lv_bipush (v := (120 : Int32)) hx hb dL_tells_422 (by decide) ?_
  obtain ⟨r424, w424_tm, w424_fc, w424_lf, hc, h⟩ := bd4_some h
  have hPc : va_P D vwCl (wPW T ad (ad 6) (ad 12) rs rm ts tm rdue rtun rsee rbeg psize pclause peff pkin pgri psig psee qsize qclause qeff qkin qgri qsig qsee cdee cnow cahe kdee know kahe fc lf told up lo) _ := my_subP sb_wLW_wPW_0to37 hP
  have hDc := hD.sub [0, 1, 2, 3, 4, 5, 6, 7, 8, 9, 10, 11, 12, 13, 14, 15, 16, 17, 18, 19, 20, 21, 22, 23, 24, 25, 26, 27, 28, 29, 30, 31, 32, 33, 34, 35, 36, 37] nd_LW sb_wLW_wPW_0to37
  have hFc := va_free hD hS hA [0, 1, 2, 3, 4, 5, 6, 7, 8, 9, 10, 11, 12, 13, 14, 15, 16, 17, 18, 19, 20, 21, 22, 23, 24, 25, 26, 27, 28, 29, 30, 31, 32, 33, 34, 35, 36, 37] sb_wLW_wPW_0to37
  refine my_rwi (va_runV (As := [.int (2 : Int32), .int x6, .int (120 : Int32)]) (rest := []) hFix (kX5_put l D T F ad rs rm ts tm rdue rtun rsee rbeg psize pclause peff pkin pgri psig psee qsize qclause qeff qkin qgri qsig qsee cdee cnow cahe kdee know kahe fc lf told up lo (2 : Int32) x6 (120 : Int32) r424 w424_tm w424_fc w424_lf hc _) (cwV 3 hts gL_tells_X5_put rfl rfl rfl ⟨rfl, hd_X5_put⟩ ⟨Nat.le_of_ble_eq_true rfl, Nat.le_of_ble_eq_true rfl⟩) (preV_rw hPc hKK hDc (va_recv hK hP (ci := 3) (q0 := 0) rfl wLW_0)) rfl rfl hl.1 rfl (lv_room (Nat.le_of_ble_eq_true rfl)) dL_tells_424 ⟨Nat.zero_le _, Nat.zero_le _⟩) hS hFc (fun H1 locs hP1 hD1 hz1 hkk hS => ?_)
  obtain ⟨hP, hD⟩ := my_joinS hP hD nd_LW sb_wLW_wPW_0to37 (by rfl) hkk hFc hP1 hD1
  rw [st_LW] at hP hD
  generalize H1 = H at hP hS ⊢
  refine lv_sipush (v := (1032 : Int32)) hx hb dL_tells_427 (by decide) ?_
  refine lv_icmp_ne (tgt := 473) hx hb dL_tells_430 (by decide) (fun c430 => ?_) (fun c430 => ?_)
  · have h := br_0 h c430
    refine lv_iconst (v := (0 : Int32)) hx hb dL_tells_473 (by decide) ?_
    cases h
    exact hret ad _ _ _ _ rfl hP hD hS dL_tells_474 (Or.inl rfl)
  · have h := br_1 h c430
    refine lv_aload_n hx hb dL_tells_433 rfl (lv_at hl 0 rfl) ?_
    refine lv_iconst (v := (2 : Int32)) hx hb dL_tells_434 (by decide) ?_
    refine lv_iload hx hb dL_tells_435 (lv_at hl 3 rfl) ?_
    refine lv_iconst (v := (1 : Int32)) hx hb dL_tells_437 (by decide) ?_
    refine lv_iadd hx hb dL_tells_438 ?_
    refine lv_bipush (v := (48 : Int32)) hx hb dL_tells_439 (by decide) ?_
    refine lv_iload hx hb dL_tells_441 (lv_at hl 6 rfl) ?_
    refine lv_iadd hx hb dL_tells_443 ?_
    obtain ⟨r444, w444_tm, w444_fc, w444_lf, hc, h⟩ := bd4_some h
    have hPc : va_P D vwCl (wPW T ad (ad 6) (ad 12) rs rm ts w424_tm rdue rtun rsee rbeg psize pclause peff pkin pgri psig psee qsize qclause qeff qkin qgri qsig qsee cdee cnow cahe kdee know kahe w424_fc w424_lf told up lo) _ := my_subP sb_wLW_wPW_0to37 hP
    have hDc := hD.sub [0, 1, 2, 3, 4, 5, 6, 7, 8, 9, 10, 11, 12, 13, 14, 15, 16, 17, 18, 19, 20, 21, 22, 23, 24, 25, 26, 27, 28, 29, 30, 31, 32, 33, 34, 35, 36, 37] nd_LW sb_wLW_wPW_0to37
    have hFc := va_free hD hS hA [0, 1, 2, 3, 4, 5, 6, 7, 8, 9, 10, 11, 12, 13, 14, 15, 16, 17, 18, 19, 20, 21, 22, 23, 24, 25, 26, 27, 28, 29, 30, 31, 32, 33, 34, 35, 36, 37] sb_wLW_wPW_0to37
    refine my_rwi (va_runV (As := [.int (2 : Int32), .int (x6 + (1 : Int32)), .int ((48 : Int32) + x9)]) (rest := []) hFix (kX5_put l D T F ad rs rm ts w424_tm rdue rtun rsee rbeg psize pclause peff pkin pgri psig psee qsize qclause qeff qkin qgri qsig qsee cdee cnow cahe kdee know kahe w424_fc w424_lf told up lo (2 : Int32) (x6 + (1 : Int32)) ((48 : Int32) + x9) r444 w444_tm w444_fc w444_lf hc _) (cwV 3 hts gL_tells_X5_put rfl rfl rfl ⟨rfl, hd_X5_put⟩ ⟨Nat.le_of_ble_eq_true rfl, Nat.le_of_ble_eq_true rfl⟩) (preV_rw hPc hKK hDc (va_recv hK hP (ci := 3) (q0 := 0) rfl wLW_0)) rfl rfl hl.1 rfl (lv_room (Nat.le_of_ble_eq_true rfl)) dL_tells_444 ⟨Nat.zero_le _, Nat.zero_le _⟩) hS hFc (fun H1 locs hP1 hD1 hz1 hkk hS => ?_)
    obtain ⟨hP, hD⟩ := my_joinS hP hD nd_LW sb_wLW_wPW_0to37 (by rfl) hkk hFc hP1 hD1
    rw [st_LW] at hP hD
    generalize H1 = H at hP hS ⊢
    refine lv_sipush (v := (1032 : Int32)) hx hb dL_tells_447 (by decide) ?_
    refine lv_icmp_ne (tgt := 473) hx hb dL_tells_450 (by decide) (fun c450 => ?_) (fun c450 => ?_)
    · have h := br_0 h c450
      refine lv_iconst (v := (0 : Int32)) hx hb dL_tells_473 (by decide) ?_
      cases h
      exact hret ad _ _ _ _ rfl hP hD hS dL_tells_474 (Or.inl rfl)
    · have h := br_1 h c450
      refine lv_aload_n hx hb dL_tells_453 rfl (lv_at hl 0 rfl) ?_
      refine lv_iconst (v := (2 : Int32)) hx hb dL_tells_454 (by decide) ?_
      refine lv_iload hx hb dL_tells_455 (lv_at hl 3 rfl) ?_
      refine lv_iconst (v := (2 : Int32)) hx hb dL_tells_457 (by decide) ?_
      refine lv_iadd hx hb dL_tells_458 ?_
      refine lv_bipush (v := (48 : Int32)) hx hb dL_tells_459 (by decide) ?_
      refine lv_iload hx hb dL_tells_461 (lv_at hl 7 rfl) ?_
      refine lv_iadd hx hb dL_tells_463 ?_
      obtain ⟨r464, w464_tm, w464_fc, w464_lf, hc, h⟩ := bd4_some h
      have hPc : va_P D vwCl (wPW T ad (ad 6) (ad 12) rs rm ts w444_tm rdue rtun rsee rbeg psize pclause peff pkin pgri psig psee qsize qclause qeff qkin qgri qsig qsee cdee cnow cahe kdee know kahe w444_fc w444_lf told up lo) _ := my_subP sb_wLW_wPW_0to37 hP
      have hDc := hD.sub [0, 1, 2, 3, 4, 5, 6, 7, 8, 9, 10, 11, 12, 13, 14, 15, 16, 17, 18, 19, 20, 21, 22, 23, 24, 25, 26, 27, 28, 29, 30, 31, 32, 33, 34, 35, 36, 37] nd_LW sb_wLW_wPW_0to37
      have hFc := va_free hD hS hA [0, 1, 2, 3, 4, 5, 6, 7, 8, 9, 10, 11, 12, 13, 14, 15, 16, 17, 18, 19, 20, 21, 22, 23, 24, 25, 26, 27, 28, 29, 30, 31, 32, 33, 34, 35, 36, 37] sb_wLW_wPW_0to37
      refine my_rwi (va_runV (As := [.int (2 : Int32), .int (x6 + (2 : Int32)), .int ((48 : Int32) + x10)]) (rest := []) hFix (kX5_put l D T F ad rs rm ts w444_tm rdue rtun rsee rbeg psize pclause peff pkin pgri psig psee qsize qclause qeff qkin qgri qsig qsee cdee cnow cahe kdee know kahe w444_fc w444_lf told up lo (2 : Int32) (x6 + (2 : Int32)) ((48 : Int32) + x10) r464 w464_tm w464_fc w464_lf hc _) (cwV 3 hts gL_tells_X5_put rfl rfl rfl ⟨rfl, hd_X5_put⟩ ⟨Nat.le_of_ble_eq_true rfl, Nat.le_of_ble_eq_true rfl⟩) (preV_rw hPc hKK hDc (va_recv hK hP (ci := 3) (q0 := 0) rfl wLW_0)) rfl rfl hl.1 rfl (lv_room (Nat.le_of_ble_eq_true rfl)) dL_tells_464 ⟨Nat.zero_le _, Nat.zero_le _⟩) hS hFc (fun H1 locs hP1 hD1 hz1 hkk hS => ?_)
      obtain ⟨hP, hD⟩ := my_joinS hP hD nd_LW sb_wLW_wPW_0to37 (by rfl) hkk hFc hP1 hD1
      rw [st_LW] at hP hD
      generalize H1 = H at hP hS ⊢
      refine lv_sipush (v := (1032 : Int32)) hx hb dL_tells_467 (by decide) ?_
      refine lv_icmp_eq (tgt := 475) hx hb dL_tells_470 (by decide) (fun c470 => ?_) (fun c470 => ?_)
      · have h := br_1 h c470
        refine lv_iinc (v := (x6 + (3 : Int32))) (lv' := [(6, .int (x6 + (3 : Int32))), (0, .ref (ad 0)), (1, .ref b), (2, .ref za), (7, .int x7), (8, .int x8), (9, .int x9), (10, .int x10)]) hx hb dL_tells_475 hl (k := 3) rfl rfl (by decide) rfl (fun ls hl => ?_)
        refine lv_iinc (v := (x7 + (1 : Int32))) (lv' := [(7, .int (x7 + (1 : Int32))), (6, .int (x6 + (3 : Int32))), (0, .ref (ad 0)), (1, .ref b), (2, .ref za), (8, .int x8), (9, .int x9), (10, .int x10)]) hx hb dL_tells_478 hl (k := 4) rfl rfl (by decide) rfl (fun ls hl => ?_)
        refine lv_iinc (v := (x8 + (1 : Int32))) (lv' := [(8, .int (x8 + (1 : Int32))), (7, .int (x7 + (1 : Int32))), (6, .int (x6 + (3 : Int32))), (0, .ref (ad 0)), (1, .ref b), (2, .ref za), (9, .int x9), (10, .int x10)]) hx hb dL_tells_481 hl (k := 5) rfl rfl (by decide) rfl (fun ls hl => ?_)
        refine lv_goto (tgt := 328) hx hb dL_tells_484 (by decide) ?_
        exact ih328 (x6 + (3 : Int32)) (x7 + (1 : Int32)) (x8 + (1 : Int32)) w464_tm w464_fc w464_lf (upd zz ((12 : Int32) + x9).toNatClampNeg ((zz ((12 : Int32) + x9).toNatClampNeg) ||| ((1 : Int32) <<< (x10 &&& 31)))) h _ _ hP hD hS _ (lv_sub hl [3, 4, 5, 2, 1, 0] rfl)
      · have h := br_0 h c470
        refine lv_iconst (v := (0 : Int32)) hx hb dL_tells_473 (by decide) ?_
        cases h
        exact hret ad _ _ _ _ rfl hP hD hS dL_tells_474 (Or.inl rfl)
set_option maxHeartbeats 4000000 in
set_option maxRecDepth 100000 in
theorem LN_tells_n492 {p : Program} {l : Launch} {e : Env} {s : State} {m : MethodId} {args : Array Value} {below : List Frame} {meth : Method} {c : Code} {Q : State → Prop} {D : va_G} {T : Nat → ClassId} {b L : Nat} {xs : Nat → Int32} {A : Nat → Prop} {o0 za ta : Nat} {r : Int32} {zts : Nat → Int32} {ztm : Nat → Nat → Int32} {zrdue : Int32} {zrtun : Int32} {zrsee : Int32} {zrbeg : Int32} {zpsize : Int32} {zpclause : Int32} {zpeff : Nat → Int32} {zpkin : Nat → Int32} {zpgri : Nat → Int32} {zpsig : Nat → Int32} {zpsee : Nat → Int32} {zqsize : Int32} {zqclause : Int32} {zqeff : Nat → Int32} {zqkin : Nat → Int32} {zqgri : Nat → Int32} {zqsig : Nat → Int32} {zqsee : Nat → Int32} {zcdee : Int32} {zcnow : Int64} {zkdee : Nat → Int32} {zfc : Nat → Int32} {zlf : Int32} {zzz : Nat → Int32} {ztt : Nat → Int32} {rm : Nat → Nat → Int32} {cahe : Nat → Int64} {know : Nat → Int64} {kahe : Nat → Nat → Int64} {told : Int32} {up : Int64} {lo : Int64} (F : Nat) (p6 p12 : Nat) (rs : Nat → Int32) (s_0 : Int32) (ts : Nat → Int32) (tm : Nat → Nat → Int32) (rdue : Int32) (rtun : Int32) (rsee : Int32) (rbeg : Int32) (psize : Int32) (pclause : Int32) (peff : Nat → Int32) (pkin : Nat → Int32) (pgri : Nat → Int32) (psig : Nat → Int32) (psee : Nat → Int32) (qsize : Int32) (qclause : Int32) (qeff : Nat → Int32) (qkin : Nat → Int32) (qgri : Nat → Int32) (qsig : Nat → Int32) (qsee : Nat → Int32) (cdee : Int32) (cnow : Int64) (kdee : Nat → Int32) (fc : Nat → Int32) (lf : Int32) (zz : Nat → Int32) (tt : Nat → Int32) (C0 : SC_tells p s m args c D T b L xs A) (hret : HR_tells p l e s m args below meth c Q D T A o0 za ta r zts ztm zrdue zrtun zrsee zrbeg zpsize zpclause zpeff zpkin zpgri zpsig zpsee zqsize zqclause zqeff zqkin zqgri zqsig zqsee zcdee zcnow zkdee zfc zlf zzz ztt rs rm cahe know kahe told up lo) (h : fL_tells_n492 F p6 p12 L xs rs s_0 ts tm rdue rtun rsee rbeg psize pclause peff pkin pgri psig psee qsize qclause qeff qkin qgri qsig qsee cdee cnow kdee fc lf zz tt = some (r, zts, ztm, zrdue, zrtun, zrsee, zrbeg, zpsize, zpclause, zpeff, zpkin, zpgri, zpsig, zpsee, zqsize, zqclause, zqeff, zqkin, zqgri, zqsig, zqsee, zcdee, zcnow, zkdee, zfc, zlf, zzz, ztt)) : ∀ (ad : Nat → Nat) (H : Heap) (locs : List Loc), ad 0 = o0 → va_P D vwCl (wLW T ad (ad 6) (ad 12) za ta rs rm ts tm rdue rtun rsee rbeg psize pclause peff pkin pgri psig psee qsize qclause qeff qkin qgri qsig qsee cdee cnow cahe kdee know kahe fc lf told up lo zz tt) H → va_D A (wLW T ad (ad 6) (ad 12) za ta rs rm ts tm rdue rtun rsee rbeg psize pclause peff pkin pgri psig psee qsize qclause qeff qkin qgri qsig qsee cdee cnow cahe kdee know kahe fc lf told up lo zz tt) → va_S A s.heap H locs → ∀ (ls : Array Slot), lv_has ls 11 [(0, .ref (ad 0)), (2, .ref za)] → W p l e ({ frames := 5, cells := 0, slots := 0, locals := 112 } : Room) s m args below meth c H locs 0 0 Q (F0 m 492 ls [.int s_0]) := by
  intro ad H locs ho hP hD hS ls hl
  obtain ⟨hFix, hKK, hA, hX, hbl, hbA⟩ := id C0
  obtain ⟨hx, hb, hml, hown, hts⟩ := id hFix
  have hK := hKK.1
  unfold fL_tells_n492 at h
  refine lv_aload_n hx hb dL_tells_492 rfl (lv_at hl 1 rfl) ?_
  refine lv_iconst (v := (0 : Int32)) hx hb dL_tells_493 (by decide) ?_
  refine va_iald hx hb hK hP 38 0 wLW_38 rfl (show ¬ ((0 : Int32) < 0 ∨ 18 ≤ (0 : Int32).toNatClampNeg) by decide) dL_tells_494 ?_
  refine lv_icmp_ne (tgt := 552) hx hb dL_tells_495 (by decide) (fun c495 => ?_) (fun c495 => ?_)
  · have h := br_0 h c495
    refine lv_iconst (v := (0 : Int32)) hx hb dL_tells_552 (by decide) ?_
    cases h
    exact hret ad _ _ _ _ ho hP hD hS dL_tells_553 (Or.inl rfl)
  · have h := br_1 h c495
    refine lv_aload_n hx hb dL_tells_498 rfl (lv_at hl 0 rfl) ?_
    refine lv_iconst (v := (0 : Int32)) hx hb dL_tells_499 (by decide) ?_
    obtain ⟨r500, hc, h⟩ := bd1_some h
    have hPc : va_P D vwCl (wPW T ad (ad 6) (ad 12) rs rm ts tm rdue rtun rsee rbeg psize pclause peff pkin pgri psig psee qsize qclause qeff qkin qgri qsig qsee cdee cnow cahe kdee know kahe fc lf told up lo) _ := my_subP sb_wLW_wPW_0to37 hP
    refine my_roi (va_Run.run (va_runV (As := [.int (0 : Int32)]) (rest := []) hFix (kX5_count l D T F ad rs rm ts tm rdue rtun rsee rbeg psize pclause peff pkin pgri psig psee qsize qclause qeff qkin qgri qsig qsee cdee cnow cahe kdee know kahe fc lf told up lo (0 : Int32) r500 hc) (cwV 1 hts gL_tells_X5_count rfl rfl rfl ⟨rfl, hd_X5_count⟩ ⟨Nat.le_of_ble_eq_true rfl, Nat.le_of_ble_eq_true rfl⟩) (preV_ro hPc hKK (va_recv hK hP (ci := 3) (q0 := 0) rfl wLW_0)) rfl rfl hl.1 rfl (lv_room (Nat.le_of_ble_eq_true rfl)) dL_tells_500 ⟨Nat.zero_le _, Nat.zero_le _⟩)) ?_
    refine lv_aload_n hx hb dL_tells_503 rfl (lv_at hl 1 rfl) ?_
    refine lv_iconst (v := (0 : Int32)) hx hb dL_tells_504 (by decide) ?_
    refine va_iald hx hb hK hP 38 0 wLW_38 rfl (show ¬ ((0 : Int32) < 0 ∨ 18 ≤ (0 : Int32).toNatClampNeg) by decide) dL_tells_505 ?_
    refine lv_icmp_ne (tgt := 552) hx hb dL_tells_506 (by decide) (fun c506 => ?_) (fun c506 => ?_)
    · have h := br_0 h c506
      refine lv_iconst (v := (0 : Int32)) hx hb dL_tells_552 (by decide) ?_
      cases h
      exact hret ad _ _ _ _ ho hP hD hS dL_tells_553 (Or.inl rfl)
    · have h := br_1 h c506
      refine lv_aload_n hx hb dL_tells_509 rfl (lv_at hl 0 rfl) ?_
      refine lv_iconst (v := (1 : Int32)) hx hb dL_tells_510 (by decide) ?_
      obtain ⟨r511, hc, h⟩ := bd1_some h
      have hPc : va_P D vwCl (wPW T ad (ad 6) (ad 12) rs rm ts tm rdue rtun rsee rbeg psize pclause peff pkin pgri psig psee qsize qclause qeff qkin qgri qsig qsee cdee cnow cahe kdee know kahe fc lf told up lo) _ := my_subP sb_wLW_wPW_0to37 hP
      refine my_roi (va_Run.run (va_runV (As := [.int (1 : Int32)]) (rest := []) hFix (kX5_count l D T F ad rs rm ts tm rdue rtun rsee rbeg psize pclause peff pkin pgri psig psee qsize qclause qeff qkin qgri qsig qsee cdee cnow cahe kdee know kahe fc lf told up lo (1 : Int32) r511 hc) (cwV 1 hts gL_tells_X5_count rfl rfl rfl ⟨rfl, hd_X5_count⟩ ⟨Nat.le_of_ble_eq_true rfl, Nat.le_of_ble_eq_true rfl⟩) (preV_ro hPc hKK (va_recv hK hP (ci := 3) (q0 := 0) rfl wLW_0)) rfl rfl hl.1 rfl (lv_room (Nat.le_of_ble_eq_true rfl)) dL_tells_511 ⟨Nat.zero_le _, Nat.zero_le _⟩)) ?_
      refine lv_aload_n hx hb dL_tells_514 rfl (lv_at hl 1 rfl) ?_
      refine lv_iconst (v := (1 : Int32)) hx hb dL_tells_515 (by decide) ?_
      refine va_iald hx hb hK hP 38 0 wLW_38 rfl (show ¬ ((1 : Int32) < 0 ∨ 18 ≤ (1 : Int32).toNatClampNeg) by decide) dL_tells_516 ?_
      refine lv_icmp_ne (tgt := 552) hx hb dL_tells_517 (by decide) (fun c517 => ?_) (fun c517 => ?_)
      · have h := br_0 h c517
        refine lv_iconst (v := (0 : Int32)) hx hb dL_tells_552 (by decide) ?_
        cases h
        exact hret ad _ _ _ _ ho hP hD hS dL_tells_553 (Or.inl rfl)
      · have h := br_1 h c517
        refine lv_aload_n hx hb dL_tells_520 rfl (lv_at hl 0 rfl) ?_
        refine lv_iconst (v := (2 : Int32)) hx hb dL_tells_521 (by decide) ?_
        obtain ⟨r522, hc, h⟩ := bd1_some h
        have hPc : va_P D vwCl (wPW T ad (ad 6) (ad 12) rs rm ts tm rdue rtun rsee rbeg psize pclause peff pkin pgri psig psee qsize qclause qeff qkin qgri qsig qsee cdee cnow cahe kdee know kahe fc lf told up lo) _ := my_subP sb_wLW_wPW_0to37 hP
        refine my_roi (va_Run.run (va_runV (As := [.int (2 : Int32)]) (rest := []) hFix (kX5_count l D T F ad rs rm ts tm rdue rtun rsee rbeg psize pclause peff pkin pgri psig psee qsize qclause qeff qkin qgri qsig qsee cdee cnow cahe kdee know kahe fc lf told up lo (2 : Int32) r522 hc) (cwV 1 hts gL_tells_X5_count rfl rfl rfl ⟨rfl, hd_X5_count⟩ ⟨Nat.le_of_ble_eq_true rfl, Nat.le_of_ble_eq_true rfl⟩) (preV_ro hPc hKK (va_recv hK hP (ci := 3) (q0 := 0) rfl wLW_0)) rfl rfl hl.1 rfl (lv_room (Nat.le_of_ble_eq_true rfl)) dL_tells_522 ⟨Nat.zero_le _, Nat.zero_le _⟩)) ?_
        refine lv_if_ne (tgt := 552) hx hb dL_tells_525 (by decide) (fun c525 => ?_) (fun c525 => ?_)
        · have h := br_0 h c525
          refine lv_iconst (v := (0 : Int32)) hx hb dL_tells_552 (by decide) ?_
          cases h
          exact hret ad _ _ _ _ ho hP hD hS dL_tells_553 (Or.inl rfl)
        · have h := br_1 h c525
          refine lv_aload_n hx hb dL_tells_528 rfl (lv_at hl 0 rfl) ?_
          refine lv_iconst (v := (3 : Int32)) hx hb dL_tells_529 (by decide) ?_
          obtain ⟨r530, hc, h⟩ := bd1_some h
          have hPc : va_P D vwCl (wPW T ad (ad 6) (ad 12) rs rm ts tm rdue rtun rsee rbeg psize pclause peff pkin pgri psig psee qsize qclause qeff qkin qgri qsig qsee cdee cnow cahe kdee know kahe fc lf told up lo) _ := my_subP sb_wLW_wPW_0to37 hP
          refine my_roi (va_Run.run (va_runV (As := [.int (3 : Int32)]) (rest := []) hFix (kX5_count l D T F ad rs rm ts tm rdue rtun rsee rbeg psize pclause peff pkin pgri psig psee qsize qclause qeff qkin qgri qsig qsee cdee cnow cahe kdee know kahe fc lf told up lo (3 : Int32) r530 hc) (cwV 1 hts gL_tells_X5_count rfl rfl rfl ⟨rfl, hd_X5_count⟩ ⟨Nat.le_of_ble_eq_true rfl, Nat.le_of_ble_eq_true rfl⟩) (preV_ro hPc hKK (va_recv hK hP (ci := 3) (q0 := 0) rfl wLW_0)) rfl rfl hl.1 rfl (lv_room (Nat.le_of_ble_eq_true rfl)) dL_tells_530 ⟨Nat.zero_le _, Nat.zero_le _⟩)) ?_
          refine lv_aload_n hx hb dL_tells_533 rfl (lv_at hl 1 rfl) ?_
          refine lv_iconst (v := (0 : Int32)) hx hb dL_tells_534 (by decide) ?_
          refine va_iald hx hb hK hP 38 0 wLW_38 rfl (show ¬ ((0 : Int32) < 0 ∨ 18 ≤ (0 : Int32).toNatClampNeg) by decide) dL_tells_535 ?_
          refine lv_icmp_ne (tgt := 552) hx hb dL_tells_536 (by decide) (fun c536 => ?_) (fun c536 => ?_)
          · have h := br_0 h c536
            refine lv_iconst (v := (0 : Int32)) hx hb dL_tells_552 (by decide) ?_
            cases h
            exact hret ad _ _ _ _ ho hP hD hS dL_tells_553 (Or.inl rfl)
          · have h := br_1 h c536
            refine lv_aload_n hx hb dL_tells_539 rfl (lv_at hl 0 rfl) ?_
            refine lv_bipush (v := (9 : Int32)) hx hb dL_tells_540 (by decide) ?_
            obtain ⟨r542, hc, h⟩ := bd1_some h
            have hPc : va_P D vwCl (wPW T ad (ad 6) (ad 12) rs rm ts tm rdue rtun rsee rbeg psize pclause peff pkin pgri psig psee qsize qclause qeff qkin qgri qsig qsee cdee cnow cahe kdee know kahe fc lf told up lo) _ := my_subP sb_wLW_wPW_0to37 hP
            refine my_roi (va_Run.run (va_runV (As := [.int (9 : Int32)]) (rest := []) hFix (kX5_count l D T F ad rs rm ts tm rdue rtun rsee rbeg psize pclause peff pkin pgri psig psee qsize qclause qeff qkin qgri qsig qsee cdee cnow cahe kdee know kahe fc lf told up lo (9 : Int32) r542 hc) (cwV 1 hts gL_tells_X5_count rfl rfl rfl ⟨rfl, hd_X5_count⟩ ⟨Nat.le_of_ble_eq_true rfl, Nat.le_of_ble_eq_true rfl⟩) (preV_ro hPc hKK (va_recv hK hP (ci := 3) (q0 := 0) rfl wLW_0)) rfl rfl hl.1 rfl (lv_room (Nat.le_of_ble_eq_true rfl)) dL_tells_542 ⟨Nat.zero_le _, Nat.zero_le _⟩)) ?_
            refine lv_if_ne (tgt := 552) hx hb dL_tells_545 (by decide) (fun c545 => ?_) (fun c545 => ?_)
            · have h := br_0 h c545
              refine lv_iconst (v := (0 : Int32)) hx hb dL_tells_552 (by decide) ?_
              cases h
              exact hret ad _ _ _ _ ho hP hD hS dL_tells_553 (Or.inl rfl)
            · have h := br_1 h c545
              refine lv_iconst (v := (1 : Int32)) hx hb dL_tells_548 (by decide) ?_
              refine lv_goto (tgt := 553) hx hb dL_tells_549 (by decide) ?_
              cases h
              exact hret ad _ _ _ _ ho hP hD hS dL_tells_553 (Or.inr rfl)
set_option maxHeartbeats 4000000 in
set_option maxRecDepth 100000 in
theorem LN_tells_n487 {p : Program} {l : Launch} {e : Env} {s : State} {m : MethodId} {args : Array Value} {below : List Frame} {meth : Method} {c : Code} {Q : State → Prop} {D : va_G} {T : Nat → ClassId} {b L : Nat} {xs : Nat → Int32} {A : Nat → Prop} {za ta : Nat} {ad : Nat → Nat} {r : Int32} {zts : Nat → Int32} {ztm : Nat → Nat → Int32} {zrdue : Int32} {zrtun : Int32} {zrsee : Int32} {zrbeg : Int32} {zpsize : Int32} {zpclause : Int32} {zpeff : Nat → Int32} {zpkin : Nat → Int32} {zpgri : Nat → Int32} {zpsig : Nat → Int32} {zpsee : Nat → Int32} {zqsize : Int32} {zqclause : Int32} {zqeff : Nat → Int32} {zqkin : Nat → Int32} {zqgri : Nat → Int32} {zqsig : Nat → Int32} {zqsee : Nat → Int32} {zcdee : Int32} {zcnow : Int64} {zkdee : Nat → Int32} {zfc : Nat → Int32} {zlf : Int32} {zzz : Nat → Int32} {ztt : Nat → Int32} {rm : Nat → Nat → Int32} {cahe : Nat → Int64} {know : Nat → Int64} {kahe : Nat → Nat → Int64} {told : Int32} {up : Int64} {lo : Int64} (F : Nat) (rs : Nat → Int32) (ts : Nat → Int32) (tm : Nat → Nat → Int32) (rdue : Int32) (rtun : Int32) (rsee : Int32) (rbeg : Int32) (psize : Int32) (pclause : Int32) (peff : Nat → Int32) (pkin : Nat → Int32) (pgri : Nat → Int32) (psig : Nat → Int32) (psee : Nat → Int32) (qsize : Int32) (qclause : Int32) (qeff : Nat → Int32) (qkin : Nat → Int32) (qgri : Nat → Int32) (qsig : Nat → Int32) (qsee : Nat → Int32) (cdee : Int32) (cnow : Int64) (kdee : Nat → Int32) (fc : Nat → Int32) (lf : Int32) (zz : Nat → Int32) (tt : Nat → Int32) (C0 : SC_tells p s m args c D T b L xs A) (hret : HR_tells p l e s m args below meth c Q D T A (ad 0) za ta r zts ztm zrdue zrtun zrsee zrbeg zpsize zpclause zpeff zpkin zpgri zpsig zpsee zqsize zqclause zqeff zqkin zqgri zqsig zqsee zcdee zcnow zkdee zfc zlf zzz ztt rs rm cahe know kahe told up lo) (h : fL_tells_n487 F (ad 6) (ad 12) L xs rs ts tm rdue rtun rsee rbeg psize pclause peff pkin pgri psig psee qsize qclause qeff qkin qgri qsig qsee cdee cnow kdee fc lf zz tt = some (r, zts, ztm, zrdue, zrtun, zrsee, zrbeg, zpsize, zpclause, zpeff, zpkin, zpgri, zpsig, zpsee, zqsize, zqclause, zqeff, zqkin, zqgri, zqsig, zqsee, zcdee, zcnow, zkdee, zfc, zlf, zzz, ztt)) : ∀ (H : Heap) (locs : List Loc), va_P D vwCl (wLW T ad (ad 6) (ad 12) za ta rs rm ts tm rdue rtun rsee rbeg psize pclause peff pkin pgri psig psee qsize qclause qeff qkin qgri qsig qsee cdee cnow cahe kdee know kahe fc lf told up lo zz tt) H → va_D A (wLW T ad (ad 6) (ad 12) za ta rs rm ts tm rdue rtun rsee rbeg psize pclause peff pkin pgri psig psee qsize qclause qeff qkin qgri qsig qsee cdee cnow cahe kdee know kahe fc lf told up lo zz tt) → va_S A s.heap H locs → ∀ (ls : Array Slot), lv_has ls 11 [(0, .ref (ad 0)), (2, .ref za)] → W p l e ({ frames := 5, cells := 0, slots := 0, locals := 112 } : Room) s m args below meth c H locs 0 0 Q (F0 m 487 ls []) := by
  intro H locs hP hD hS ls hl
  obtain ⟨hFix, hKK, hA, hX, hbl, hbA⟩ := id C0
  obtain ⟨hx, hb, hml, hown, hts⟩ := id hFix
  have hK := hKK.1
  unfold fL_tells_n487 at h
  refine lv_aload_n hx hb dL_tells_487 rfl (lv_at hl 0 rfl) ?_
  refine lv_iconst (v := (2 : Int32)) hx hb dL_tells_488 (by decide) ?_
  obtain ⟨r489, w489_rdue, w489_rtun, w489_rsee, w489_rbeg, w489_qsize, w489_qclause, w489_qeff, w489_qkin, w489_qgri, w489_qsig, w489_qsee, w489_cdee, w489_cnow, w489_kdee, w489_fc, w489_lf, hc, h⟩ := bd17_some h
  have hc := gparty_sp hc
  have hPc : va_P D vwCl (wPW T ad (ad 6) (ad 12) rs rm ts tm rdue rtun rsee rbeg psize pclause peff pkin pgri psig psee qsize qclause qeff qkin qgri qsig qsee cdee cnow cahe kdee know kahe fc lf told up lo) _ := my_subP sb_wLW_wPW_0to37 hP
  have hDc := hD.sub [0, 1, 2, 3, 4, 5, 6, 7, 8, 9, 10, 11, 12, 13, 14, 15, 16, 17, 18, 19, 20, 21, 22, 23, 24, 25, 26, 27, 28, 29, 30, 31, 32, 33, 34, 35, 36, 37] nd_LW sb_wLW_wPW_0to37
  have hFc := va_free hD hS hA [0, 1, 2, 3, 4, 5, 6, 7, 8, 9, 10, 11, 12, 13, 14, 15, 16, 17, 18, 19, 20, 21, 22, 23, 24, 25, 26, 27, 28, 29, 30, 31, 32, 33, 34, 35, 36, 37] sb_wLW_wPW_0to37
  refine my_rwi (va_runV (As := [.int (2 : Int32)]) (rest := []) hFix (kX5_party l D T F ad rs rm ts tm rdue rtun rsee rbeg psize pclause peff pkin pgri psig psee qsize qclause qeff qkin qgri qsig qsee cdee cnow cahe kdee know kahe fc lf told up lo (2 : Int32) r489 w489_rdue w489_rtun w489_rsee w489_rbeg w489_qsize w489_qclause w489_qeff w489_qkin w489_qgri w489_qsig w489_qsee w489_cdee w489_cnow w489_kdee w489_fc w489_lf (ad 12) (ad 6) hc _) (cwV 1 hts gL_tells_X5_party rfl rfl rfl ⟨rfl, hd_X5_party⟩ ⟨Nat.le_of_ble_eq_true rfl, Nat.le_of_ble_eq_true rfl⟩) (preV_rw hPc hKK hDc (va_recv hK hP (ci := 3) (q0 := 0) rfl wLW_0)) rfl rfl hl.1 rfl (lv_room (Nat.le_of_ble_eq_true rfl)) dL_tells_489 ⟨Nat.zero_le _, Nat.zero_le _⟩) hS hFc (fun H1 locs hP1 hD1 hz1 hkk hS => ?_)
  obtain ⟨hP, hD⟩ := my_joinS hP hD nd_LW sb_wLW_wPW_0to37 (by rfl) hkk hFc hP1 hD1
  rw [st_LW] at hP hD
  obtain ⟨hP, hD⟩ := my_swapL hP hD
  generalize H1 = H at hP hS ⊢
  exact LN_tells_n492 F (ad 6) (ad 12) rs r489 ts tm w489_rdue w489_rtun w489_rsee w489_rbeg w489_qsize w489_qclause w489_qeff w489_qkin w489_qgri w489_qsig w489_qsee psize pclause peff pkin pgri psig psee w489_cdee w489_cnow w489_kdee w489_fc w489_lf zz tt C0 hret h (swp ad) _ _ rfl hP hD hS _ (lv_sub hl [0, 1] rfl)
set_option maxHeartbeats 4000000 in
set_option maxRecDepth 100000 in
theorem LN_tells_l328 {p : Program} {l : Launch} {e : Env} {s : State} {m : MethodId} {args : Array Value} {below : List Frame} {meth : Method} {c : Code} {Q : State → Prop} {D : va_G} {T : Nat → ClassId} {b L : Nat} {xs : Nat → Int32} {A : Nat → Prop} {za ta : Nat} {ad : Nat → Nat} {r : Int32} {zts : Nat → Int32} {ztm : Nat → Nat → Int32} {zrdue : Int32} {zrtun : Int32} {zrsee : Int32} {zrbeg : Int32} {zpsize : Int32} {zpclause : Int32} {zpeff : Nat → Int32} {zpkin : Nat → Int32} {zpgri : Nat → Int32} {zpsig : Nat → Int32} {zpsee : Nat → Int32} {zqsize : Int32} {zqclause : Int32} {zqeff : Nat → Int32} {zqkin : Nat → Int32} {zqgri : Nat → Int32} {zqsig : Nat → Int32} {zqsee : Nat → Int32} {zcdee : Int32} {zcnow : Int64} {zkdee : Nat → Int32} {zfc : Nat → Int32} {zlf : Int32} {zzz : Nat → Int32} {ztt : Nat → Int32} {rm : Nat → Nat → Int32} {cahe : Nat → Int64} {know : Nat → Int64} {kahe : Nat → Nat → Int64} {told : Int32} {up : Int64} {lo : Int64} (F : Nat) (rs : Nat → Int32) (ts : Nat → Int32) (rdue : Int32) (rtun : Int32) (rsee : Int32) (rbeg : Int32) (psize : Int32) (pclause : Int32) (peff : Nat → Int32) (pkin : Nat → Int32) (pgri : Nat → Int32) (psig : Nat → Int32) (psee : Nat → Int32) (qsize : Int32) (qclause : Int32) (qeff : Nat → Int32) (qkin : Nat → Int32) (qgri : Nat → Int32) (qsig : Nat → Int32) (qsee : Nat → Int32) (cdee : Int32) (cnow : Int64) (kdee : Nat → Int32) (tt : Nat → Int32) (C0 : SC_tells p s m args c D T b L xs A) (hret : HR_tells p l e s m args below meth c Q D T A (ad 0) za ta r zts ztm zrdue zrtun zrsee zrbeg zpsize zpclause zpeff zpkin zpgri zpsig zpsee zqsize zqclause zqeff zqkin zqgri zqsig zqsee zcdee zcnow zkdee zfc zlf zzz ztt rs rm cahe know kahe told up lo) : ∀ (nu : Nat) (x6 : Int32) (x7 : Int32) (x8 : Int32) (tm : Nat → Nat → Int32) (fc : Nat → Int32) (lf : Int32) (zz : Nat → Int32), fL_tells_l328 F (ad 6) (ad 12) L xs rs ts rdue rtun rsee rbeg psize pclause peff pkin pgri psig psee qsize qclause qeff qkin qgri qsig qsee cdee cnow kdee tt nu x6 x7 x8 tm fc lf zz = some (r, zts, ztm, zrdue, zrtun, zrsee, zrbeg, zpsize, zpclause, zpeff, zpkin, zpgri, zpsig, zpsee, zqsize, zqclause, zqeff, zqkin, zqgri, zqsig, zqsee, zcdee, zcnow, zkdee, zfc, zlf, zzz, ztt) → ∀ (H : Heap) (locs : List Loc), va_P D vwCl (wLW T ad (ad 6) (ad 12) za ta rs rm ts tm rdue rtun rsee rbeg psize pclause peff pkin pgri psig psee qsize qclause qeff qkin qgri qsig qsee cdee cnow cahe kdee know kahe fc lf told up lo zz tt) H → va_D A (wLW T ad (ad 6) (ad 12) za ta rs rm ts tm rdue rtun rsee rbeg psize pclause peff pkin pgri psig psee qsize qclause qeff qkin qgri qsig qsee cdee cnow cahe kdee know kahe fc lf told up lo zz tt) → va_S A s.heap H locs → ∀ (ls : Array Slot), lv_has ls 11 [(0, .ref (ad 0)), (1, .ref b), (2, .ref za), (6, .int x6), (7, .int x7), (8, .int x8)] → W p l e ({ frames := 5, cells := 0, slots := 0, locals := 112 } : Room) s m args below meth c H locs 0 0 Q (F0 m 328 ls []) := by
  intro nu
  induction nu with
  | zero => intro x6 x7 x8 tm fc lf zz h; exact none_some h
  | succ nu ih328 =>
    intro x6 x7 x8 tm fc lf zz h H locs hP hD hS ls hl
    obtain ⟨hFix, hKK, hA, hX, hbl, hbA⟩ := id C0
    obtain ⟨hx, hb, hml, hown, hts⟩ := id hFix
    have hK := hKK.1
    have h : fL_tells_l328_b F (ad 6) (ad 12) L xs rs ts rdue rtun rsee rbeg psize pclause peff pkin pgri psig psee qsize qclause qeff qkin qgri qsig qsee cdee cnow kdee tt (fL_tells_l328 F (ad 6) (ad 12) L xs rs ts rdue rtun rsee rbeg psize pclause peff pkin pgri psig psee qsize qclause qeff qkin qgri qsig qsee cdee cnow kdee tt nu) x6 x7 x8 tm fc lf zz = some (r, zts, ztm, zrdue, zrtun, zrsee, zrbeg, zpsize, zpclause, zpeff, zpkin, zpgri, zpsig, zpsee, zqsize, zqclause, zqeff, zqkin, zqgri, zqsig, zqsee, zcdee, zcnow, zkdee, zfc, zlf, zzz, ztt) := h
    unfold fL_tells_l328_b at h
    refine lv_iload hx hb dL_tells_328 (lv_at hl 5 rfl) ?_
    refine lv_bipush (v := (36 : Int32)) hx hb dL_tells_330 (by decide) ?_
    refine lv_icmp_ge (tgt := 487) hx hb dL_tells_332 (by decide) (fun c332 => ?_) (fun c332 => ?_)
    · have h := br_1 h c332
      exact LN_tells_n487 F rs ts tm rdue rtun rsee rbeg psize pclause peff pkin pgri psig psee qsize qclause qeff qkin qgri qsig qsee cdee cnow kdee fc lf zz tt C0 hret h _ _ hP hD hS _ (lv_sub hl [0, 2] rfl)
    · have h := br_0 h c332
      refine lv_iload hx hb dL_tells_335 (lv_at hl 4 rfl) ?_
      refine lv_bipush (v := (14 : Int32)) hx hb dL_tells_337 (by decide) ?_
      refine lv_icmp_ge (tgt := 487) hx hb dL_tells_339 (by decide) (fun c339 => ?_) (fun c339 => ?_)
      · have h := br_1 h c339
        exact LN_tells_n487 F rs ts tm rdue rtun rsee rbeg psize pclause peff pkin pgri psig psee qsize qclause qeff qkin qgri qsig qsee cdee cnow kdee fc lf zz tt C0 hret h _ _ hP hD hS _ (lv_sub hl [0, 2] rfl)
      · have h := br_0 h c339
        refine lv_iload hx hb dL_tells_342 (lv_at hl 5 rfl) ?_
        refine lv_bipush (v := (6 : Int32)) hx hb dL_tells_344 (by decide) ?_
        refine lv_idiv hx hb dL_tells_346 (by decide) ?_
        refine lv_istore (lv' := [(9, .int (x8 / (6 : Int32))), (0, .ref (ad 0)), (1, .ref b), (2, .ref za), (6, .int x6), (7, .int x7), (8, .int x8)]) hx hb dL_tells_347 hl (by decide) rfl (fun ls hl => ?_)
        refine lv_iload hx hb dL_tells_349 (lv_at hl 6 rfl) ?_
        refine lv_bipush (v := (6 : Int32)) hx hb dL_tells_351 (by decide) ?_
        refine lv_irem hx hb dL_tells_353 (by decide) ?_
        refine lv_istore (lv' := [(10, .int (x8 - x8 / (6 : Int32) * (6 : Int32))), (9, .int (x8 / (6 : Int32))), (0, .ref (ad 0)), (1, .ref b), (2, .ref za), (6, .int x6), (7, .int x7), (8, .int x8)]) hx hb dL_tells_354 hl (by decide) rfl (fun ls hl => ?_)
        refine lv_iload hx hb dL_tells_356 (lv_at hl 1 rfl) ?_
        refine lv_iload hx hb dL_tells_358 (lv_at hl 0 rfl) ?_
        refine lv_icmp_eq (tgt := 481) hx hb dL_tells_360 (by decide) (fun c360 => ?_) (fun c360 => ?_)
        · have h := br_1 h c360
          refine lv_iinc (v := (x8 + (1 : Int32))) (lv' := [(8, .int (x8 + (1 : Int32))), (10, .int (x8 - x8 / (6 : Int32) * (6 : Int32))), (9, .int (x8 / (6 : Int32))), (0, .ref (ad 0)), (1, .ref b), (2, .ref za), (6, .int x6), (7, .int x7)]) hx hb dL_tells_481 hl (k := 7) rfl rfl (by decide) rfl (fun ls hl => ?_)
          refine lv_goto (tgt := 328) hx hb dL_tells_484 (by decide) ?_
          exact ih328 x6 x7 (x8 + (1 : Int32)) tm fc lf zz h _ _ hP hD hS _ (lv_sub hl [3, 4, 5, 6, 7, 0] rfl)
        · have h := br_0 h c360
          refine lv_iload hx hb dL_tells_363 (lv_at hl 1 rfl) ?_
          refine lv_aload_n hx hb dL_tells_365 rfl (lv_at hl 4 rfl) ?_
          refine lv_iconst (v := (0 : Int32)) hx hb dL_tells_366 (by decide) ?_
          refine va_iald hx hb hK hP 38 0 wLW_38 rfl (show ¬ ((0 : Int32) < 0 ∨ 18 ≤ (0 : Int32).toNatClampNeg) by decide) dL_tells_367 ?_
          refine lv_icmp_ge (tgt := 481) hx hb dL_tells_368 (by decide) (fun c368 => ?_) (fun c368 => ?_)
          · have h := br_1 h c368
            refine lv_iinc (v := (x8 + (1 : Int32))) (lv' := [(8, .int (x8 + (1 : Int32))), (10, .int (x8 - x8 / (6 : Int32) * (6 : Int32))), (9, .int (x8 / (6 : Int32))), (0, .ref (ad 0)), (1, .ref b), (2, .ref za), (6, .int x6), (7, .int x7)]) hx hb dL_tells_481 hl (k := 7) rfl rfl (by decide) rfl (fun ls hl => ?_)
            refine lv_goto (tgt := 328) hx hb dL_tells_484 (by decide) ?_
            exact ih328 x6 x7 (x8 + (1 : Int32)) tm fc lf zz h _ _ hP hD hS _ (lv_sub hl [3, 4, 5, 6, 7, 0] rfl)
          · have h := br_0 h c368
            refine lv_iload hx hb dL_tells_371 (lv_at hl 0 rfl) ?_
            refine lv_aload_n hx hb dL_tells_373 rfl (lv_at hl 4 rfl) ?_
            refine lv_iconst (v := (0 : Int32)) hx hb dL_tells_374 (by decide) ?_
            refine va_iald hx hb hK hP 38 0 wLW_38 rfl (show ¬ ((0 : Int32) < 0 ∨ 18 ≤ (0 : Int32).toNatClampNeg) by decide) dL_tells_375 ?_
            refine lv_icmp_ge (tgt := 481) hx hb dL_tells_376 (by decide) (fun c376 => ?_) (fun c376 => ?_)
            · have h := br_1 h c376
              refine lv_iinc (v := (x8 + (1 : Int32))) (lv' := [(8, .int (x8 + (1 : Int32))), (10, .int (x8 - x8 / (6 : Int32) * (6 : Int32))), (9, .int (x8 / (6 : Int32))), (0, .ref (ad 0)), (1, .ref b), (2, .ref za), (6, .int x6), (7, .int x7)]) hx hb dL_tells_481 hl (k := 7) rfl rfl (by decide) rfl (fun ls hl => ?_)
              refine lv_goto (tgt := 328) hx hb dL_tells_484 (by decide) ?_
              exact ih328 x6 x7 (x8 + (1 : Int32)) tm fc lf zz h _ _ hP hD hS _ (lv_sub hl [3, 4, 5, 6, 7, 0] rfl)
            · have h := br_0 h c376
              refine lv_aload_n hx hb dL_tells_379 rfl (lv_at hl 3 rfl) ?_
              refine lv_bipush (v := (8 : Int32)) hx hb dL_tells_380 (by decide) ?_
              refine lv_iload hx hb dL_tells_382 (lv_at hl 1 rfl) ?_
              refine lv_iadd hx hb dL_tells_384 ?_
              obtain ⟨r385, hc, h⟩ := bd1_some h
              refine my_roi (va_Run.run (va_runS (As := [.ref b, .int ((8 : Int32) + (x8 / (6 : Int32)))]) (rest := []) hFix (kL_cell l D T F b L xs ((8 : Int32) + (x8 / (6 : Int32))) r385 hc) (va_cwS 2 hts gL_tells_L_cell rfl rfl rfl hd_L_cell ⟨Nat.le_of_ble_eq_true rfl, Nat.le_of_ble_eq_true rfl⟩) (preS_x (hX.kept (hS.2.1 b hbl hbA)) hKK) rfl rfl hl.1 rfl (lv_room (Nat.le_of_ble_eq_true rfl)) dL_tells_385 ⟨Nat.zero_le _, Nat.zero_le _⟩)) ?_
              refine lv_iconst (v := (2 : Int32)) hx hb dL_tells_388 (by decide) ?_
              refine lv_iload hx hb dL_tells_389 (lv_at hl 0 rfl) ?_
              refine lv_imul hx hb dL_tells_391 ?_
              refine lv_ishr hx hb dL_tells_392 ?_
              refine lv_iconst (v := (4 : Int32)) hx hb dL_tells_393 (by decide) ?_
              obtain ⟨r394, hc, h⟩ := bd1_some h
              refine my_roi (va_Run.run (va_runS (As := [.int (r385 >>> (((2 : Int32) * (x8 - x8 / (6 : Int32) * (6 : Int32))) &&& 31)), .int (4 : Int32)]) (rest := []) hFix (kL_part l D T F (r385 >>> (((2 : Int32) * (x8 - x8 / (6 : Int32) * (6 : Int32))) &&& 31)) (4 : Int32) r394 hc) (va_cwS 2 hts gL_tells_L_part rfl rfl rfl hd_L_part ⟨Nat.le_of_ble_eq_true rfl, Nat.le_of_ble_eq_true rfl⟩) (preS_ro va_nil hKK) rfl rfl hl.1 rfl (lv_room (Nat.le_of_ble_eq_true rfl)) dL_tells_394 ⟨Nat.zero_le _, Nat.zero_le _⟩)) ?_
              refine lv_iconst (v := (1 : Int32)) hx hb dL_tells_397 (by decide) ?_
              refine lv_icmp_le (tgt := 404) hx hb dL_tells_398 (by decide) (fun c398 => ?_) (fun c398 => ?_)
              · have h := br_1 h c398
                exact LN_tells_n404 F (fL_tells_l328 F (ad 6) (ad 12) L xs rs ts rdue rtun rsee rbeg psize pclause peff pkin pgri psig psee qsize qclause qeff qkin qgri qsig qsee cdee cnow kdee tt nu) rs x6 x7 x8 (x8 / (6 : Int32)) (x8 - x8 / (6 : Int32) * (6 : Int32)) ts tm rdue rtun rsee rbeg psize pclause peff pkin pgri psig psee qsize qclause qeff qkin qgri qsig qsee cdee cnow kdee fc lf zz tt C0 hret ih328 h _ _ hP hD hS _ (lv_sub hl [2, 3, 4, 5, 6, 7, 1, 0] rfl)
              · have h := br_0 h c398
                refine lv_goto (tgt := 481) hx hb dL_tells_401 (by decide) ?_
                refine lv_iinc (v := (x8 + (1 : Int32))) (lv' := [(8, .int (x8 + (1 : Int32))), (10, .int (x8 - x8 / (6 : Int32) * (6 : Int32))), (9, .int (x8 / (6 : Int32))), (0, .ref (ad 0)), (1, .ref b), (2, .ref za), (6, .int x6), (7, .int x7)]) hx hb dL_tells_481 hl (k := 7) rfl rfl (by decide) rfl (fun ls hl => ?_)
                refine lv_goto (tgt := 328) hx hb dL_tells_484 (by decide) ?_
                exact ih328 x6 x7 (x8 + (1 : Int32)) tm fc lf zz h _ _ hP hD hS _ (lv_sub hl [3, 4, 5, 6, 7, 0] rfl)
