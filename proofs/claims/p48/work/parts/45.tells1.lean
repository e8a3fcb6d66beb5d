set_option maxHeartbeats 4000000 in
set_option maxRecDepth 100000 in
theorem LN_tells_n322 {p : Program} {l : Launch} {e : Env} {s : State} {m : MethodId} {args : Array Value} {below : List Frame} {meth : Method} {c : Code} {Q : State → Prop} {D : va_G} {T : Nat → ClassId} {b L : Nat} {xs : Nat → Int32} {A : Nat → Prop} {za ta : Nat} {ad : Nat → Nat} {r : Int32} {zts : Nat → Int32} {ztm : Nat → Nat → Int32} {zrdue : Int32} {zrtun : Int32} {zrsee : Int32} {zrbeg : Int32} {zpsize : Int32} {zpclause : Int32} {zpeff : Nat → Int32} {zpkin : Nat → Int32} {zpgri : Nat → Int32} {zpsig : Nat → Int32} {zpsee : Nat → Int32} {zqsize : Int32} {zqclause : Int32} {zqeff : Nat → Int32} {zqkin : Nat → Int32} {zqgri : Nat → Int32} {zqsig : Nat → Int32} {zqsee : Nat → Int32} {zcdee : Int32} {zcnow : Int64} {zkdee : Nat → Int32} {zfc : Nat → Int32} {zlf : Int32} {zzz : Nat → Int32} {ztt : Nat → Int32} {rm : Nat → Nat → Int32} {cahe : Nat → Int64} {know : Nat → Int64} {kahe : Nat → Nat → Int64} {told : Int32} {up : Int64} {lo : Int64} (F : Nat) (rs : Nat → Int32) (x6 : Int32) (ts : Nat → Int32) (tm : Nat → Nat → Int32) (rdue : Int32) (rtun : Int32) (rsee : Int32) (rbeg : Int32) (psize : Int32) (pclause : Int32) (peff : Nat → Int32) (pkin : Nat → Int32) (pgri : Nat → Int32) (psig : Nat → Int32) (psee : Nat → Int32) (qsize : Int32) (qclause : Int32) (qeff : Nat → Int32) (qkin : Nat → Int32) (qgri : Nat → Int32) (qsig : Nat → Int32) (qsee : Nat → Int32) (cdee : Int32) (cnow : Int64) (kdee : Nat → Int32) (fc : Nat → Int32) (lf : Int32) (zz : Nat → Int32) (tt : Nat → Int32) (C0 : SC_tells p s m args c D T b L xs A) (hret : HR_tells p l e s m args below meth c Q D T A (ad 0) za ta r zts ztm zrdue zrtun zrsee zrbeg zpsize zpclause zpeff zpkin zpgri zpsig zpsee zqsize zqclause zqeff zqkin zqgri zqsig zqsee zcdee zcnow zkdee zfc zlf zzz ztt rs rm cahe know kahe told up lo) (h : fL_tells_n322 F (ad 6) (ad 12) L xs rs x6 ts tm rdue rtun rsee rbeg psize pclause peff pkin pgri psig psee qsize qclause qeff qkin qgri qsig qsee cdee cnow kdee fc lf zz tt = some (r, zts, ztm, zrdue, zrtun, zrsee, zrbeg, zpsize, zpclause, zpeff, zpkin, zpgri, zpsig, zpsee, zqsize, zqclause, zqeff, zqkin, zqgri, zqsig, zqsee, zcdee, zcnow, zkdee, zfc, zlf, zzz, ztt)) : ∀ (H : Heap) (locs : List Loc), va_P D vwCl (wLW T ad (ad 6) (ad 12) za ta rs rm ts tm rdue rtun rsee rbeg psize pclause peff pkin pgri psig psee qsize qclause qeff qkin qgri qsig qsee cdee cnow cahe kdee know kahe fc lf told up lo zz tt) H → va_D A (wLW T ad (ad 6) (ad 12) za ta rs rm ts tm rdue rtun rsee rbeg psize pclause peff pkin pgri psig psee qsize qclause qeff qkin qgri qsig qsee cdee cnow cahe kdee know kahe fc lf told up lo zz tt) → va_S A s.heap H locs → ∀ (ls : Array Slot), lv_has ls 11 [(0, .ref (ad 0)), (1, .ref b), (2, .ref za), (6, .int x6)] → W p l e ({ frames := 5, cells := 0, slots := 0, locals := 112 } : Room) s m args below meth c H locs 0 0 Q (F0 m 322 ls []) := by
  intro H locs hP hD hS ls hl
  obtain ⟨hFix, hKK, hA, hX, hbl, hbA⟩ := id C0
  obtain ⟨hx, hb, hml, hown, hts⟩ := id hFix
  have hK := hKK.1
  unfold fL_tells_n322 at h
  refine lv_iconst (v := (0 : Int32)) hx hb dL_tells_322 (by decide) ?_
  refine lv_istore (lv' := [(7, .int (0 : Int32)), (0, .ref (ad 0)), (1, .ref b), (2, .ref za), (6, .int x6)]) hx hb dL_tells_323 hl (by decide) rfl (fun ls hl => ?_)
  refine lv_iconst (v := (0 : Int32)) hx hb dL_tells_325 (by decide) ?_
  refine lv_istore (lv' := [(8, .int (0 : Int32)), (7, .int (0 : Int32)), (0, .ref (ad 0)), (1, .ref b), (2, .ref za), (6, .int x6)]) hx hb dL_tells_326 hl (by decide) rfl (fun ls hl => ?_)
  exact LN_tells_l328 F rs ts rdue rtun rsee rbeg psize pclause peff pkin pgri psig psee qsize qclause qeff qkin qgri qsig qsee cdee cnow kdee tt C0 hret F x6 (0 : Int32) (0 : Int32) tm fc lf zz h _ _ hP hD hS _ (lv_sub hl [2, 3, 4, 5, 1, 0] rfl)
set_option maxHeartbeats 4000000 in
set_option maxRecDepth 100000 in
theorem LN_tells_l192 {p : Program} {l : Launch} {e : Env} {s : State} {m : MethodId} {args : Array Value} {below : List Frame} {meth : Method} {c : Code} {Q : State → Prop} {D : va_G} {T : Nat → ClassId} {b L : Nat} {xs : Nat → Int32} {A : Nat → Prop} {za ta : Nat} {ad : Nat → Nat} {r : Int32} {zts : Nat → Int32} {ztm : Nat → Nat → Int32} {zrdue : Int32} {zrtun : Int32} {zrsee : Int32} {zrbeg : Int32} {zpsize : Int32} {zpclause : Int32} {zpeff : Nat → Int32} {zpkin : Nat → Int32} {zpgri : Nat → Int32} {zpsig : Nat → Int32} {zpsee : Nat → Int32} {zqsize : Int32} {zqclause : Int32} {zqeff : Nat → Int32} {zqkin : Nat → Int32} {zqgri : Nat → Int32} {zqsig : Nat → Int32} {zqsee : Nat → Int32} {zcdee : Int32} {zcnow : Int64} {zkdee : Nat → Int32} {zfc : Nat → Int32} {zlf : Int32} {zzz : Nat → Int32} {ztt : Nat → Int32} {rm : Nat → Nat → Int32} {cahe : Nat → Int64} {know : Nat → Int64} {kahe : Nat → Nat → Int64} {told : Int32} {up : Int64} {lo : Int64} (F : Nat) (rs : Nat → Int32) (ts : Nat → Int32) (rdue : Int32) (rtun : Int32) (rsee : Int32) (rbeg : Int32) (psize : Int32) (pclause : Int32) (peff : Nat → Int32) (pkin : Nat → Int32) (pgri : Nat → Int32) (psig : Nat → Int32) (psee : Nat → Int32) (qsize : Int32) (qclause : Int32) (qeff : Nat → Int32) (qkin : Nat → Int32) (qgri : Nat → Int32) (qsig : Nat → Int32) (qsee : Nat → Int32) (cdee : Int32) (cnow : Int64) (kdee : Nat → Int32) (C0 : SC_tells p s m args c D T b L xs A) (hret : HR_tells p l e s m args below meth c Q D T A (ad 0) za ta r zts ztm zrdue zrtun zrsee zrbeg zpsize zpclause zpeff zpkin zpgri zpsig zpsee zqsize zqclause zqeff zqkin zqgri zqsig zqsee zcdee zcnow zkdee zfc zlf zzz ztt rs rm cahe know kahe told up lo) : ∀ (nu : Nat) (x6 : Int32) (x7 : Int32) (tm : Nat → Nat → Int32) (fc : Nat → Int32) (lf : Int32) (zz : Nat → Int32) (tt : Nat → Int32), fL_tells_l192 F (ad 6) (ad 12) L xs rs ts rdue rtun rsee rbeg psize pclause peff pkin pgri psig psee qsize qclause qeff qkin qgri qsig qsee cdee cnow kdee nu x6 x7 tm fc lf zz tt = some (r, zts, ztm, zrdue, zrtun, zrsee, zrbeg, zpsize, zpclause, zpeff, zpkin, zpgri, zpsig, zpsee, zqsize, zqclause, zqeff, zqkin, zqgri, zqsig, zqsee, zcdee, zcnow, zkdee, zfc, zlf, zzz, ztt) → ∀ (H : Heap) (locs : List Loc), va_P D vwCl (wLW T ad (ad 6) (ad 12) za ta rs rm ts tm rdue rtun rsee rbeg psize pclause peff pkin pgri psig psee qsize qclause qeff qkin qgri qsig qsee cdee cnow cahe kdee know kahe fc lf told up lo zz tt) H → va_D A (wLW T ad (ad 6) (ad 12) za ta rs rm ts tm rdue rtun rsee rbeg psize pclause peff pkin pgri psig psee qsize qclause qeff qkin qgri qsig qsee cdee cnow cahe kdee know kahe fc lf told up lo zz tt) → va_S A s.heap H locs → ∀ (ls : Array Slot), lv_has ls 11 [(0, .ref (ad 0)), (1, .ref b), (2, .ref za), (3, .ref ta), (6, .int x6), (7, .int x7)] → W p l e ({ frames := 5, cells := 0, slots := 0, locals := 112 } : Room) s m args below meth c H locs 0 0 Q (F0 m 192 ls []) := by
  intro nu
  induction nu with
  | zero => intro x6 x7 tm fc lf zz tt h; exact none_some h
  | succ nu ih192 =>
    intro x6 x7 tm fc lf zz tt h H locs hP hD hS ls hl
    obtain ⟨hFix, hKK, hA, hX, hbl, hbA⟩ := id C0
    obtain ⟨hx, hb, hml, hown, hts⟩ := id hFix
    have hK := hKK.1
    have h : fL_tells_l192_b F (ad 6) (ad 12) L xs rs ts rdue rtun rsee rbeg psize pclause peff pkin pgri psig psee qsize qclause qeff qkin qgri qsig qsee cdee cnow kdee (fL_tells_l192 F (ad 6) (ad 12) L xs rs ts rdue rtun rsee rbeg psize pclause peff pkin pgri psig psee qsize qclause qeff qkin qgri qsig qsee cdee cnow kdee nu) x6 x7 tm fc lf zz tt = some (r, zts, ztm, zrdue, zrtun, zrsee, zrbeg, zpsize, zpclause, zpeff, zpkin, zpgri, zpsig, zpsee, zqsize, zqclause, zqeff, zqkin, zqgri, zqsig, zqsee, zcdee, zcnow, zkdee, zfc, zlf, zzz, ztt) := h
    unfold fL_tells_l192_b at h
    refine lv_iload hx hb dL_tells_192 (lv_at hl 5 rfl) ?_
    refine lv_aload_n hx hb dL_tells_194 rfl (lv_at hl 2 rfl) ?_
    refine lv_iconst (v := (0 : Int32)) hx hb dL_tells_195 (by decide) ?_
    refine va_iald hx hb hK hP 38 0 wLW_38 rfl (show ¬ ((0 : Int32) < 0 ∨ 18 ≤ (0 : Int32).toNatClampNeg) by decide) dL_tells_196 ?_
    refine lv_icmp_ge (tgt := 322) hx hb dL_tells_197 (by decide) (fun c197 => ?_) (fun c197 => ?_)
    · have h := br_1 h c197
      exact LN_tells_n322 F rs x6 ts tm rdue rtun rsee rbeg psize pclause peff pkin pgri psig psee qsize qclause qeff qkin qgri qsig qsee cdee cnow kdee fc lf zz tt C0 hret h _ _ hP hD hS _ (lv_sub hl [0, 1, 2, 4] rfl)
    · have h := br_0 h c197
      refine lv_aload_n hx hb dL_tells_200 rfl (lv_at hl 1 rfl) ?_
      refine lv_iconst (v := (2 : Int32)) hx hb dL_tells_201 (by decide) ?_
      refine lv_iload hx hb dL_tells_202 (lv_at hl 5 rfl) ?_
      refine lv_iadd hx hb dL_tells_204 ?_
      obtain ⟨r205, hc, h⟩ := bd1_some h
      refine my_roi (va_Run.run (va_runS (As := [.ref b, .int ((2 : Int32) + x7)]) (rest := []) hFix (kL_cell l D T F b L xs ((2 : Int32) + x7) r205 hc) (va_cwS 2 hts gL_tells_L_cell rfl rfl rfl hd_L_cell ⟨Nat.le_of_ble_eq_true rfl, Nat.le_of_ble_eq_true rfl⟩) (preS_x (hX.kept (hS.2.1 b hbl hbA)) hKK) rfl rfl hl.1 rfl (lv_room (Nat.le_of_ble_eq_true rfl)) dL_tells_205 ⟨Nat.zero_le _, Nat.zero_le _⟩)) ?_
      refine lv_istore (lv' := [(5, .int r205), (0, .ref (ad 0)), (1, .ref b), (2, .ref za), (3, .ref ta), (6, .int x6), (7, .int x7)]) hx hb dL_tells_208 hl (by decide) rfl (fun ls hl => ?_)
      refine lv_aload_n hx hb dL_tells_210 rfl (lv_at hl 3 rfl) ?_
      refine lv_bipush (v := (6 : Int32)) hx hb dL_tells_211 (by decide) ?_
      refine lv_iload hx hb dL_tells_213 (lv_at hl 6 rfl) ?_
      refine lv_iadd hx hb dL_tells_215 ?_
      refine lv_iload hx hb dL_tells_216 (lv_at hl 0 rfl) ?_
      refine lv_bipush (v := (6 : Int32)) hx hb dL_tells_218 (by decide) ?_
      obtain ⟨r220, hc, h⟩ := bd1_some h
      refine my_roi (va_Run.run (va_runS (As := [.int r205, .int (6 : Int32)]) (rest := [.int ((6 : Int32) + x7), .ref za]) hFix (kL_part l D T F r205 (6 : Int32) r220 hc) (va_cwS 2 hts gL_tells_L_part rfl rfl rfl hd_L_part ⟨Nat.le_of_ble_eq_true rfl, Nat.le_of_ble_eq_true rfl⟩) (preS_ro va_nil hKK) rfl rfl hl.1 rfl (lv_room (Nat.le_of_ble_eq_true rfl)) dL_tells_220 ⟨Nat.zero_le _, Nat.zero_le _⟩)) ?_
      obtain ⟨hin1, h⟩ := ck_some h
      refine va_iast hx hb hK hP hD hS 38 0 wLW_38 rfl hin1 dL_tells_223 (fun H locs hP hD hS => ?_)
      have hP : va_P D vwCl (wLW T ad (ad 6) (ad 12) za ta rs rm ts tm rdue rtun rsee rbeg psize pclause peff pkin pgri psig psee qsize qclause qeff qkin qgri qsig qsee cdee cnow cahe kdee know kahe fc lf told up lo (upd zz ((6 : Int32) + x7).toNatClampNeg r220) tt) H := hP
      have hD : va_D A (wLW T ad (ad 6) (ad 12) za ta rs rm ts tm rdue rtun rsee rbeg psize pclause peff pkin pgri psig psee qsize qclause qeff qkin qgri qsig qsee cdee cnow cahe kdee know kahe fc lf told up lo (upd zz ((6 : Int32) + x7).toNatClampNeg r220) tt) := hD
      refine lv_aload_n hx hb dL_tells_224 rfl (lv_at hl 4 rfl) ?_
      refine lv_iload hx hb dL_tells_225 (lv_at hl 6 rfl) ?_
      refine lv_iload hx hb dL_tells_227 (lv_at hl 0 rfl) ?_
      refine lv_iconst (v := (3 : Int32)) hx hb dL_tells_229 (by decide) ?_
      refine lv_ishr hx hb dL_tells_230 ?_
      refine lv_iload hx hb dL_tells_231 (lv_at hl 0 rfl) ?_
      refine lv_bipush (v := (12 : Int32)) hx hb dL_tells_233 (by decide) ?_
      refine lv_ishr hx hb dL_tells_235 ?_
      refine lv_iconst (v := (2 : Int32)) hx hb dL_tells_236 (by decide) ?_
      obtain ⟨r237, hc, h⟩ := bd1_some h
      refine my_roi (va_Run.run (va_runS (As := [.int (r205 >>> ((12 : Int32) &&& 31)), .int (2 : Int32)]) (rest := [.int (r205 >>> ((3 : Int32) &&& 31)), .int x7, .ref ta]) hFix (kL_part l D T F (r205 >>> ((12 : Int32) &&& 31)) (2 : Int32) r237 hc) (va_cwS 2 hts gL_tells_L_part rfl rfl rfl hd_L_part ⟨Nat.le_of_ble_eq_true rfl, Nat.le_of_ble_eq_true rfl⟩) (preS_ro va_nil hKK) rfl rfl hl.1 rfl (lv_room (Nat.le_of_ble_eq_true rfl)) dL_tells_237 ⟨Nat.zero_le _, Nat.zero_le _⟩)) ?_
      refine lv_if_ne (tgt := 248) hx hb dL_tells_240 (by decide) (fun c240 => ?_) (fun c240 => ?_)
      · have h := br_0 h c240
        refine lv_iconst (v := (5 : Int32)) hx hb dL_tells_248 (by decide) ?_
        exact LN_tells_n249 F (fL_tells_l192 F (ad 6) (ad 12) L xs rs ts rdue rtun rsee rbeg psize pclause peff pkin pgri psig psee qsize qclause qeff qkin qgri qsig qsee cdee cnow kdee nu) rs x7 (r205 >>> ((3 : Int32) &&& 31)) (5 : Int32) r205 x6 x7 ts tm rdue rtun rsee rbeg psize pclause peff pkin pgri psig psee qsize qclause qeff qkin qgri qsig qsee cdee cnow kdee fc lf (upd zz ((6 : Int32) + x7).toNatClampNeg r220) tt C0 hret ih192 h _ _ hP hD hS _ (lv_sub hl [1, 2, 3, 4, 0, 5, 6] rfl)
      · have h := br_1 h c240
        refine lv_bipush (v := (10 : Int32)) hx hb dL_tells_243 (by decide) ?_
        refine lv_goto (tgt := 249) hx hb dL_tells_245 (by decide) ?_
        exact LN_tells_n249 F (fL_tells_l192 F (ad 6) (ad 12) L xs rs ts rdue rtun rsee rbeg psize pclause peff pkin pgri psig psee qsize qclause qeff qkin qgri qsig qsee cdee cnow kdee nu) rs x7 (r205 >>> ((3 : Int32) &&& 31)) (10 : Int32) r205 x6 x7 ts tm rdue rtun rsee rbeg psize pclause peff pkin pgri psig psee qsize qclause qeff qkin qgri qsig qsee cdee cnow kdee fc lf (upd zz ((6 : Int32) + x7).toNatClampNeg r220) tt C0 hret ih192 h _ _ hP hD hS _ (lv_sub hl [1, 2, 3, 4, 0, 5, 6] rfl)
set_option maxHeartbeats 4000000 in
set_option maxRecDepth 100000 in
theorem LN_tells_n185 {p : Program} {l : Launch} {e : Env} {s : State} {m : MethodId} {args : Array Value} {below : List Frame} {meth : Method} {c : Code} {Q : State → Prop} {D : va_G} {T : Nat → ClassId} {b L : Nat} {xs : Nat → Int32} {A : Nat → Prop} {za ta : Nat} {ad : Nat → Nat} {r : Int32} {zts : Nat → Int32} {ztm : Nat → Nat → Int32} {zrdue : Int32} {zrtun : Int32} {zrsee : Int32} {zrbeg : Int32} {zpsize : Int32} {zpclause : Int32} {zpeff : Nat → Int32} {zpkin : Nat → Int32} {zpgri : Nat → Int32} {zpsig : Nat → Int32} {zpsee : Nat → Int32} {zqsize : Int32} {zqclause : Int32} {zqeff : Nat → Int32} {zqkin : Nat → Int32} {zqgri : Nat → Int32} {zqsig : Nat → Int32} {zqsee : Nat → Int32} {zcdee : Int32} {zcnow : Int64} {zkdee : Nat → Int32} {zfc : Nat → Int32} {zlf : Int32} {zzz : Nat → Int32} {ztt : Nat → Int32} {rm : Nat → Nat → Int32} {cahe : Nat → Int64} {know : Nat → Int64} {kahe : Nat → Nat → Int64} {told : Int32} {up : Int64} {lo : Int64} (F : Nat) (rs : Nat → Int32) (ts : Nat → Int32) (tm : Nat → Nat → Int32) (rdue : Int32) (rtun : Int32) (rsee : Int32) (rbeg : Int32) (psize : Int32) (pclause : Int32) (peff : Nat → Int32) (pkin : Nat → Int32) (pgri : Nat → Int32) (psig : Nat → Int32) (psee : Nat → Int32) (qsize : Int32) (qclause : Int32) (qeff : Nat → Int32) (qkin : Nat → Int32) (qgri : Nat → Int32) (qsig : Nat → Int32) (qsee : Nat → Int32) (cdee : Int32) (cnow : Int64) (kdee : Nat → Int32) (fc : Nat → Int32) (lf : Int32) (zz : Nat → Int32) (tt : Nat → Int32) (C0 : SC_tells p s m args c D T b L xs A) (hret : HR_tells p l e s m args below meth c Q D T A (ad 0) za ta r zts ztm zrdue zrtun zrsee zrbeg zpsize zpclause zpeff zpkin zpgri zpsig zpsee zqsize zqclause zqeff zqkin zqgri zqsig zqsee zcdee zcnow zkdee zfc zlf zzz ztt rs rm cahe know kahe told up lo) (h : fL_tells_n185 F (ad 6) (ad 12) L xs rs ts tm rdue rtun rsee rbeg psize pclause peff pkin pgri psig psee qsize qclause qeff qkin qgri qsig qsee cdee cnow kdee fc lf zz tt = some (r, zts, ztm, zrdue, zrtun, zrsee, zrbeg, zpsize, zpclause, zpeff, zpkin, zpgri, zpsig, zpsee, zqsize, zqclause, zqeff, zqkin, zqgri, zqsig, zqsee, zcdee, zcnow, zkdee, zfc, zlf, zzz, ztt)) : ∀ (H : Heap) (locs : List Loc), va_P D vwCl (wLW T ad (ad 6) (ad 12) za ta rs rm ts tm rdue rtun rsee rbeg psize pclause peff pkin pgri psig psee qsize qclause qeff qkin qgri qsig qsee cdee cnow cahe kdee know kahe fc lf told up lo zz tt) H → va_D A (wLW T ad (ad 6) (ad 12) za ta rs rm ts tm rdue rtun rsee rbeg psize pclause peff pkin pgri psig psee qsize qclause qeff qkin qgri qsig qsee cdee cnow cahe kdee know kahe fc lf told up lo zz tt) → va_S A s.heap H locs → ∀ (ls : Array Slot), lv_has ls 11 [(0, .ref (ad 0)), (1, .ref b), (2, .ref za), (3, .ref ta)] → W p l e ({ frames := 5, cells := 0, slots := 0, locals := 112 } : Room) s m args below meth c H locs 0 0 Q (F0 m 185 ls []) := by
  intro H locs hP hD hS ls hl
  obtain ⟨hFix, hKK, hA, hX, hbl, hbA⟩ := id C0
  obtain ⟨hx, hb, hml, hown, hts⟩ := id hFix
  have hK := hKK.1
  unfold fL_tells_n185 at h
  refine lv_bipush (v := (6 : Int32)) hx hb dL_tells_185 (by decide) ?_
  refine lv_istore (lv' := [(6, .int (6 : Int32)), (0, .ref (ad 0)), (1, .ref b), (2, .ref za), (3, .ref ta)]) hx hb dL_tells_187 hl (by decide) rfl (fun ls hl => ?_)
  refine lv_iconst (v := (0 : Int32)) hx hb dL_tells_189 (by decide) ?_
  refine lv_istore (lv' := [(7, .int (0 : Int32)), (6, .int (6 : Int32)), (0, .ref (ad 0)), (1, .ref b), (2, .ref za), (3, .ref ta)]) hx hb dL_tells_190 hl (by decide) rfl (fun ls hl => ?_)
  exact LN_tells_l192 F rs ts rdue rtun rsee rbeg psize pclause peff pkin pgri psig psee qsize qclause qeff qkin qgri qsig qsee cdee cnow kdee C0 hret F (6 : Int32) (0 : Int32) tm fc lf zz tt h _ _ hP hD hS _ (lv_sub hl [2, 3, 4, 5, 1, 0] rfl)
set_option maxHeartbeats 4000000 in
set_option maxRecDepth 100000 in
theorem LN_tells_l124 {p : Program} {l : Launch} {e : Env} {s : State} {m : MethodId} {args : Array Value} {below : List Frame} {meth : Method} {c : Code} {Q : State → Prop} {D : va_G} {T : Nat → ClassId} {b L : Nat} {xs : Nat → Int32} {A : Nat → Prop} {za ta : Nat} {ad : Nat → Nat} {r : Int32} {zts : Nat → Int32} {ztm : Nat → Nat → Int32} {zrdue : Int32} {zrtun : Int32} {zrsee : Int32} {zrbeg : Int32} {zpsize : Int32} {zpclause : Int32} {zpeff : Nat → Int32} {zpkin : Nat → Int32} {zpgri : Nat → Int32} {zpsig : Nat → Int32} {zpsee : Nat → Int32} {zqsize : Int32} {zqclause : Int32} {zqeff : Nat → Int32} {zqkin : Nat → Int32} {zqgri : Nat → Int32} {zqsig : Nat → Int32} {zqsee : Nat → Int32} {zcdee : Int32} {zcnow : Int64} {zkdee : Nat → Int32} {zfc : Nat → Int32} {zlf : Int32} {zzz : Nat → Int32} {ztt : Nat → Int32} {rm : Nat → Nat → Int32} {cahe : Nat → Int64} {know : Nat → Int64} {kahe : Nat → Nat → Int64} {told : Int32} {up : Int64} {lo : Int64} (F : Nat) (rs : Nat → Int32) (ts : Nat → Int32) (rdue : Int32) (rtun : Int32) (rsee : Int32) (rbeg : Int32) (psize : Int32) (pclause : Int32) (peff : Nat → Int32) (pkin : Nat → Int32) (pgri : Nat → Int32) (psig : Nat → Int32) (psee : Nat → Int32) (qsize : Int32) (qclause : Int32) (qeff : Nat → Int32) (qkin : Nat → Int32) (qgri : Nat → Int32) (qsig : Nat → Int32) (qsee : Nat → Int32) (cdee : Int32) (cnow : Int64) (kdee : Nat → Int32) (tt : Nat → Int32) (C0 : SC_tells p s m args c D T b L xs A) (hret : HR_tells p l e s m args below meth c Q D T A (ad 0) za ta r zts ztm zrdue zrtun zrsee zrbeg zpsize zpclause zpeff zpkin zpgri zpsig zpsee zqsize zqclause zqeff zqkin zqgri zqsig zqsee zcdee zcnow zkdee zfc zlf zzz ztt rs rm cahe know kahe told up lo) : ∀ (nu : Nat) (x6 : Int32) (tm : Nat → Nat → Int32) (fc : Nat → Int32) (lf : Int32) (zz : Nat → Int32), fL_tells_l124 F (ad 6) (ad 12) L xs rs ts rdue rtun rsee rbeg psize pclause peff pkin pgri psig psee qsize qclause qeff qkin qgri qsig qsee cdee cnow kdee tt nu x6 tm fc lf zz = some (r, zts, ztm, zrdue, zrtun, zrsee, zrbeg, zpsize, zpclause, zpeff, zpkin, zpgri, zpsig, zpsee, zqsize, zqclause, zqeff, zqkin, zqgri, zqsig, zqsee, zcdee, zcnow, zkdee, zfc, zlf, zzz, ztt) → ∀ (H : Heap) (locs : List Loc), va_P D vwCl (wLW T ad (ad 6) (ad 12) za ta rs rm ts tm rdue rtun rsee rbeg psize pclause peff pkin pgri psig psee qsize qclause qeff qkin qgri qsig qsee cdee cnow cahe kdee know kahe fc lf told up lo zz tt) H → va_D A (wLW T ad (ad 6) (ad 12) za ta rs rm ts tm rdue rtun rsee rbeg psize pclause peff pkin pgri psig psee qsize qclause qeff qkin qgri qsig qsee cdee cnow cahe kdee know kahe fc lf told up lo zz tt) → va_S A s.heap H locs → ∀ (ls : Array Slot), lv_has ls 11 [(0, .ref (ad 0)), (1, .ref b), (2, .ref za), (3, .ref ta), (6, .int x6)] → W p l e ({ frames := 5, cells := 0, slots := 0, locals := 112 } : Room) s m args below meth c H locs 0 0 Q (F0 m 124 ls []) := by
  intro nu
  induction nu with
  | zero => intro x6 tm fc lf zz h; exact none_some h
  | succ nu ih124 =>
    intro x6 tm fc lf zz h H locs hP hD hS ls hl
    obtain ⟨hFix, hKK, hA, hX, hbl, hbA⟩ := id C0
    obtain ⟨hx, hb, hml, hown, hts⟩ := id hFix
    have hK := hKK.1
    have h : fL_tells_l124_b F (ad 6) (ad 12) L xs rs ts rdue rtun rsee rbeg psize pclause peff pkin pgri psig psee qsize qclause qeff qkin qgri qsig qsee cdee cnow kdee tt (fL_tells_l124 F (ad 6) (ad 12) L xs rs ts rdue rtun rsee rbeg psize pclause peff pkin pgri psig psee qsize qclause qeff qkin qgri qsig qsee cdee cnow kdee tt nu) x6 tm fc lf zz = some (r, zts, ztm, zrdue, zrtun, zrsee, zrbeg, zpsize, zpclause, zpeff, zpkin, zpgri, zpsig, zpsee, zqsize, zqclause, zqeff, zqkin, zqgri, zqsig, zqsee, zcdee, zcnow, zkdee, zfc, zlf, zzz, ztt) := h
    unfold fL_tells_l124_b at h
    refine lv_iload hx hb dL_tells_124 (lv_at hl 4 rfl) ?_
    refine lv_iconst (v := (4 : Int32)) hx hb dL_tells_126 (by decide) ?_
    refine lv_icmp_ge (tgt := 185) hx hb dL_tells_127 (by decide) (fun c127 => ?_) (fun c127 => ?_)
    · have h := br_1 h c127
      exact LN_tells_n185 F rs ts tm rdue rtun rsee rbeg psize pclause peff pkin pgri psig psee qsize qclause qeff qkin qgri qsig qsee cdee cnow kdee fc lf zz tt C0 hret h _ _ hP hD hS _ (lv_sub hl [0, 1, 2, 3] rfl)
    · have h := br_0 h c127
      refine lv_aload_n hx hb dL_tells_130 rfl (lv_at hl 1 rfl) ?_
      refine lv_iconst (v := (1 : Int32)) hx hb dL_tells_131 (by decide) ?_
      obtain ⟨r132, hc, h⟩ := bd1_some h
      refine my_roi (va_Run.run (va_runS (As := [.ref b, .int (1 : Int32)]) (rest := []) hFix (kL_cell l D T F b L xs (1 : Int32) r132 hc) (va_cwS 2 hts gL_tells_L_cell rfl rfl rfl hd_L_cell ⟨Nat.le_of_ble_eq_true rfl, Nat.le_of_ble_eq_true rfl⟩) (preS_x (hX.kept (hS.2.1 b hbl hbA)) hKK) rfl rfl hl.1 rfl (lv_room (Nat.le_of_ble_eq_true rfl)) dL_tells_132 ⟨Nat.zero_le _, Nat.zero_le _⟩)) ?_
      refine lv_iconst (v := (4 : Int32)) hx hb dL_tells_135 (by decide) ?_
      refine lv_iload hx hb dL_tells_136 (lv_at hl 4 rfl) ?_
      refine lv_imul hx hb dL_tells_138 ?_
      refine lv_ishr hx hb dL_tells_139 ?_
      refine lv_bipush (v := (10 : Int32)) hx hb dL_tells_140 (by decide) ?_
      obtain ⟨r142, hc, h⟩ := bd1_some h
      refine my_roi (va_Run.run (va_runS (As := [.int (r132 >>> (((4 : Int32) * x6) &&& 31)), .int (10 : Int32)]) (rest := []) hFix (kL_part l D T F (r132 >>> (((4 : Int32) * x6) &&& 31)) (10 : Int32) r142 hc) (va_cwS 2 hts gL_tells_L_part rfl rfl rfl hd_L_part ⟨Nat.le_of_ble_eq_true rfl, Nat.le_of_ble_eq_true rfl⟩) (preS_ro va_nil hKK) rfl rfl hl.1 rfl (lv_room (Nat.le_of_ble_eq_true rfl)) dL_tells_142 ⟨Nat.zero_le _, Nat.zero_le _⟩)) ?_
      refine lv_istore (lv' := [(7, .int r142), (0, .ref (ad 0)), (1, .ref b), (2, .ref za), (3, .ref ta), (6, .int x6)]) hx hb dL_tells_145 hl (by decide) rfl (fun ls hl => ?_)
      refine lv_aload_n hx hb dL_tells_147 rfl (lv_at hl 3 rfl) ?_
      refine lv_iconst (v := (2 : Int32)) hx hb dL_tells_148 (by decide) ?_
      refine lv_iload hx hb dL_tells_149 (lv_at hl 5 rfl) ?_
      refine lv_iadd hx hb dL_tells_151 ?_
      refine lv_iload hx hb dL_tells_152 (lv_at hl 0 rfl) ?_
      refine lv_iconst (v := (4 : Int32)) hx hb dL_tells_154 (by decide) ?_
      refine lv_isub hx hb dL_tells_155 ?_
      obtain ⟨hin1, h⟩ := ck_some h
      refine va_iast hx hb hK hP hD hS 38 0 wLW_38 rfl hin1 dL_tells_156 (fun H locs hP hD hS => ?_)
      have hP : va_P D vwCl (wLW T ad (ad 6) (ad 12) za ta rs rm ts tm rdue rtun rsee rbeg psize pclause peff pkin pgri psig psee qsize qclause qeff qkin qgri qsig qsee cdee cnow cahe kdee know kahe fc lf told up lo (upd zz ((2 : Int32) + x6).toNatClampNeg (r142 - (4 : Int32))) tt) H := hP
      have hD : va_D A (wLW T ad (ad 6) (ad 12) za ta rs rm ts tm rdue rtun rsee rbeg psize pclause peff pkin pgri psig psee qsize qclause qeff qkin qgri qsig qsee cdee cnow cahe kdee know kahe fc lf told up lo (upd zz ((2 : Int32) + x6).toNatClampNeg (r142 - (4 : Int32))) tt) := hD
      refine lv_aload_n hx hb dL_tells_157 rfl (lv_at hl 1 rfl) ?_
      refine lv_iconst (v := (2 : Int32)) hx hb dL_tells_158 (by decide) ?_
      refine lv_iconst (v := (2 : Int32)) hx hb dL_tells_159 (by decide) ?_
      refine lv_iload hx hb dL_tells_160 (lv_at hl 5 rfl) ?_
      refine lv_iadd hx hb dL_tells_162 ?_
      refine lv_bipush (v := (48 : Int32)) hx hb dL_tells_163 (by decide) ?_
      refine lv_iload hx hb dL_tells_165 (lv_at hl 0 rfl) ?_
      refine lv_iadd hx hb dL_tells_167 ?_
      obtain ⟨r168, w168_tm, w168_fc, w168_lf, hc, h⟩ := bd4_some h
      have hPc : va_P D vwCl (wPW T ad (ad 6) (ad 12) rs rm ts tm rdue rtun rsee rbeg psize pclause peff pkin pgri psig psee qsize qclause qeff qkin qgri qsig qsee cdee cnow cahe kdee know kahe fc lf told up lo) _ := my_subP sb_wLW_wPW_0to37 hP
      have hDc := hD.sub [0, 1, 2, 3, 4, 5, 6, 7, 8, 9, 10, 11, 12, 13, 14, 15, 16, 17, 18, 19, 20, 21, 22, 23, 24, 25, 26, 27, 28, 29, 30, 31, 32, 33, 34, 35, 36, 37] nd_LW sb_wLW_wPW_0to37
      have hFc := va_free hD hS hA [0, 1, 2, 3, 4, 5, 6, 7, 8, 9, 10, 11, 12, 13, 14, 15, 16, 17, 18, 19, 20, 21, 22, 23, 24, 25, 26, 27, 28, 29, 30, 31, 32, 33, 34, 35, 36, 37] sb_wLW_wPW_0to37
      refine my_rwi (va_runV (As := [.int (2 : Int32), .int ((2 : Int32) + x6), .int ((48 : Int32) + r142)]) (rest := []) hFix (kX5_put l D T F ad rs rm ts tm rdue rtun rsee rbeg psize pclause peff pkin pgri psig psee qsize qclause qeff qkin qgri qsig qsee cdee cnow cahe kdee know kahe fc lf told up lo (2 : Int32) ((2 : Int32) + x6) ((48 : Int32) + r142) r168 w168_tm w168_fc w168_lf hc _) (cwV 3 hts gL_tells_X5_put rfl rfl rfl ⟨rfl, hd_X5_put⟩ ⟨Nat.le_of_ble_eq_true rfl, Nat.le_of_ble_eq_true rfl⟩) (preV_rw hPc hKK hDc (va_recv hK hP (ci := 3) (q0 := 0) rfl wLW_0)) rfl rfl hl.1 rfl (lv_room (Nat.le_of_ble_eq_true rfl)) dL_tells_168 ⟨Nat.zero_le _, Nat.zero_le _⟩) hS hFc (fun H1 locs hP1 hD1 hz1 hkk hS => ?_)
      obtain ⟨hP, hD⟩ := my_joinS hP hD nd_LW sb_wLW_wPW_0to37 (by rfl) hkk hFc hP1 hD1
      rw [st_LW] at hP hD
      generalize H1 = H at hP hS ⊢
      refine lv_sipush (v := (1032 : Int32)) hx hb dL_tells_171 (by decide) ?_
      refine lv_icmp_eq (tgt := 179) hx hb dL_tells_174 (by decide) (fun c174 => ?_) (fun c174 => ?_)
      · have h := br_1 h c174
        refine lv_iinc (v := (x6 + (1 : Int32))) (lv' := [(6, .int (x6 + (1 : Int32))), (7, .int r142), (0, .ref (ad 0)), (1, .ref b), (2, .ref za), (3, .ref ta)]) hx hb dL_tells_179 hl (k := 5) rfl rfl (by decide) rfl (fun ls hl => ?_)
        refine lv_goto (tgt := 124) hx hb dL_tells_182 (by decide) ?_
        exact ih124 (x6 + (1 : Int32)) w168_tm w168_fc w168_lf (upd zz ((2 : Int32) + x6).toNatClampNeg (r142 - (4 : Int32))) h _ _ hP hD hS _ (lv_sub hl [2, 3, 4, 5, 0] rfl)
      · have h := br_0 h c174
        refine lv_iconst (v := (0 : Int32)) hx hb dL_tells_177 (by decide) ?_
        cases h
        exact hret ad _ _ _ _ rfl hP hD hS dL_tells_178 (Or.inl rfl)
set_option maxHeartbeats 4000000 in
set_option maxRecDepth 100000 in
theorem LN_tells_n121 {p : Program} {l : Launch} {e : Env} {s : State} {m : MethodId} {args : Array Value} {below : List Frame} {meth : Method} {c : Code} {Q : State → Prop} {D : va_G} {T : Nat → ClassId} {b L : Nat} {xs : Nat → Int32} {A : Nat → Prop} {za ta : Nat} {ad : Nat → Nat} {r : Int32} {zts : Nat → Int32} {ztm : Nat → Nat → Int32} {zrdue : Int32} {zrtun : Int32} {zrsee : Int32} {zrbeg : Int32} {zpsize : Int32} {zpclause : Int32} {zpeff : Nat → Int32} {zpkin : Nat → Int32} {zpgri : Nat → Int32} {zpsig : Nat → Int32} {zpsee : Nat → Int32} {zqsize : Int32} {zqclause : Int32} {zqeff : Nat → Int32} {zqkin : Nat → Int32} {zqgri : Nat → Int32} {zqsig : Nat → Int32} {zqsee : Nat → Int32} {zcdee : Int32} {zcnow : Int64} {zkdee : Nat → Int32} {zfc : Nat → Int32} {zlf : Int32} {zzz : Nat → Int32} {ztt : Nat → Int32} {rm : Nat → Nat → Int32} {cahe : Nat → Int64} {know : Nat → Int64} {kahe : Nat → Nat → Int64} {told : Int32} {up : Int64} {lo : Int64} (F : Nat) (rs : Nat → Int32) (ts : Nat → Int32) (tm : Nat → Nat → Int32) (rdue : Int32) (rtun : Int32) (rsee : Int32) (rbeg : Int32) (psize : Int32) (pclause : Int32) (peff : Nat → Int32) (pkin : Nat → Int32) (pgri : Nat → Int32) (psig : Nat → Int32) (psee : Nat → Int32) (qsize : Int32) (qclause : Int32) (qeff : Nat → Int32) (qkin : Nat → Int32) (qgri : Nat → Int32) (qsig : Nat → Int32) (qsee : Nat → Int32) (cdee : Int32) (cnow : Int64) (kdee : Nat → Int32) (fc : Nat → Int32) (lf : Int32) (zz : Nat → Int32) (tt : Nat → Int32) (C0 : SC_tells p s m args c D T b L xs A) (hret : HR_tells p l e s m args below meth c Q D T A (ad 0) za ta r zts ztm zrdue zrtun zrsee zrbeg zpsize zpclause zpeff zpkin zpgri zpsig zpsee zqsize zqclause zqeff zqkin zqgri zqsig zqsee zcdee zcnow zkdee zfc zlf zzz ztt rs rm cahe know kahe told up lo) (h : fL_tells_n121 F (ad 6) (ad 12) L xs rs ts tm rdue rtun rsee rbeg psize pclause peff pkin pgri psig psee qsize qclause qeff qkin qgri qsig qsee cdee cnow kdee fc lf zz tt = some (r, zts, ztm, zrdue, zrtun, zrsee, zrbeg, zpsize, zpclause, zpeff, zpkin, zpgri, zpsig, zpsee, zqsize, zqclause, zqeff, zqkin, zqgri, zqsig, zqsee, zcdee, zcnow, zkdee, zfc, zlf, zzz, ztt)) : ∀ (H : Heap) (locs : List Loc), va_P D vwCl (wLW T ad (ad 6) (ad 12) za ta rs rm ts tm rdue rtun rsee rbeg psize pclause peff pkin pgri psig psee qsize qclause qeff qkin qgri qsig qsee cdee cnow cahe kdee know kahe fc lf told up lo zz tt) H → va_D A (wLW T ad (ad 6) (ad 12) za ta rs rm ts tm rdue rtun rsee rbeg psize pclause peff pkin pgri psig psee qsize qclause qeff qkin qgri qsig qsee cdee cnow cahe kdee know kahe fc lf told up lo zz tt) → va_S A s.heap H locs → ∀ (ls : Array Slot), lv_has ls 11 [(0, .ref (ad 0)), (1, .ref b), (2, .ref za), (3, .ref ta)] → W p l e ({ frames := 5, cells := 0, slots := 0, locals := 112 } : Room) s m args below meth c H locs 0 0 Q (F0 m 121 ls []) := by
  intro H locs hP hD hS ls hl
  obtain ⟨hFix, hKK, hA, hX, hbl, hbA⟩ := id C0
  obtain ⟨hx, hb, hml, hown, hts⟩ := id hFix
  have hK := hKK.1
  unfold fL_tells_n121 at h
  refine lv_iconst (v := (0 : Int32)) hx hb dL_tells_121 (by decide) ?_
  refine lv_istore (lv' := [(6, .int (0 : Int32)), (0, .ref (ad 0)), (1, .ref b), (2, .ref za), (3, .ref ta)]) hx hb dL_tells_122 hl (by decide) rfl (fun ls hl => ?_)
  exact LN_tells_l124 F rs ts rdue rtun rsee rbeg psize pclause peff pkin pgri psig psee qsize qclause qeff qkin qgri qsig qsee cdee cnow kdee tt C0 hret F (0 : Int32) tm fc lf zz h _ _ hP hD hS _ (lv_sub hl [1, 2, 3, 4, 0] rfl)
set_option maxHeartbeats 4000000 in
set_option maxRecDepth 100000 in
theorem LN_tells_n42 {p : Program} {l : Launch} {e : Env} {s : State} {m : MethodId} {args : Array Value} {below : List Frame} {meth : Method} {c : Code} {Q : State → Prop} {D : va_G} {T : Nat → ClassId} {b L : Nat} {xs : Nat → Int32} {A : Nat → Prop} {za ta : Nat} {ad : Nat → Nat} {r : Int32} {zts : Nat → Int32} {ztm : Nat → Nat → Int32} {zrdue : Int32} {zrtun : Int32} {zrsee : Int32} {zrbeg : Int32} {zpsize : Int32} {zpclause : Int32} {zpeff : Nat → Int32} {zpkin : Nat → Int32} {zpgri : Nat → Int32} {zpsig : Nat → Int32} {zpsee : Nat → Int32} {zqsize : Int32} {zqclause : Int32} {zqeff : Nat → Int32} {zqkin : Nat → Int32} {zqgri : Nat → Int32} {zqsig : Nat → Int32} {zqsee : Nat → Int32} {zcdee : Int32} {zcnow : Int64} {zkdee : Nat → Int32} {zfc : Nat → Int32} {zlf : Int32} {zzz : Nat → Int32} {ztt : Nat → Int32} {rm : Nat → Nat → Int32} {cahe : Nat → Int64} {know : Nat → Int64} {kahe : Nat → Nat → Int64} {told : Int32} {up : Int64} {lo : Int64} (F : Nat) (rs : Nat → Int32) (x4 : Int32) (ts : Nat → Int32) (tm : Nat → Nat → Int32) (rdue : Int32) (rtun : Int32) (rsee : Int32) (rbeg : Int32) (psize : Int32) (pclause : Int32) (peff : Nat → Int32) (pkin : Nat → Int32) (pgri : Nat → Int32) (psig : Nat → Int32) (psee : Nat → Int32) (qsize : Int32) (qclause : Int32) (qeff : Nat → Int32) (qkin : Nat → Int32) (qgri : Nat → Int32) (qsig : Nat → Int32) (qsee : Nat → Int32) (cdee : Int32) (cnow : Int64) (kdee : Nat → Int32) (fc : Nat → Int32) (lf : Int32) (zz : Nat → Int32) (tt : Nat → Int32) (C0 : SC_tells p s m args c D T b L xs A) (hret : HR_tells p l e s m args below meth c Q D T A (ad 0) za ta r zts ztm zrdue zrtun zrsee zrbeg zpsize zpclause zpeff zpkin zpgri zpsig zpsee zqsize zqclause zqeff zqkin zqgri zqsig zqsee zcdee zcnow zkdee zfc zlf zzz ztt rs rm cahe know kahe told up lo) (h : fL_tells_n42 F (ad 6) (ad 12) L xs rs x4 ts tm rdue rtun rsee rbeg psize pclause peff pkin pgri psig psee qsize qclause qeff qkin qgri qsig qsee cdee cnow kdee fc lf zz tt = some (r, zts, ztm, zrdue, zrtun, zrsee, zrbeg, zpsize, zpclause, zpeff, zpkin, zpgri, zpsig, zpsee, zqsize, zqclause, zqeff, zqkin, zqgri, zqsig, zqsee, zcdee, zcnow, zkdee, zfc, zlf, zzz, ztt)) : ∀ (H : Heap) (locs : List Loc), va_P D vwCl (wLW T ad (ad 6) (ad 12) za ta rs rm ts tm rdue rtun rsee rbeg psize pclause peff pkin pgri psig psee qsize qclause qeff qkin qgri qsig qsee cdee cnow cahe kdee know kahe fc lf told up lo zz tt) H → va_D A (wLW T ad (ad 6) (ad 12) za ta rs rm ts tm rdue rtun rsee rbeg psize pclause peff pkin pgri psig psee qsize qclause qeff qkin qgri qsig qsee cdee cnow cahe kdee know kahe fc lf told up lo zz tt) → va_S A s.heap H locs → ∀ (ls : Array Slot), lv_has ls 11 [(0, .ref (ad 0)), (1, .ref b), (2, .ref za), (3, .ref ta), (4, .int x4)] → W p l e ({ frames := 5, cells := 0, slots := 0, locals := 112 } : Room) s m args below meth c H locs 0 0 Q (F0 m 42 ls []) := by
  intro H locs hP hD hS ls hl
  obtain ⟨hFix, hKK, hA, hX, hbl, hbA⟩ := id C0
  obtain ⟨hx, hb, hml, hown, hts⟩ := id hFix
  have hK := hKK.1
  unfold fL_tells_n42 at h
  refine lv_aload_n hx hb dL_tells_42 rfl (lv_at hl 1 rfl) ?_
  refine lv_iconst (v := (0 : Int32)) hx hb dL_tells_43 (by decide) ?_
  obtain ⟨r44, hc, h⟩ := bd1_some h
  refine my_roi (va_Run.run (va_runS (As := [.ref b, .int (0 : Int32)]) (rest := []) hFix (kL_cell l D T F b L xs (0 : Int32) r44 hc) (va_cwS 2 hts gL_tells_L_cell rfl rfl rfl hd_L_cell ⟨Nat.le_of_ble_eq_true rfl, Nat.le_of_ble_eq_true rfl⟩) (preS_x (hX.kept (hS.2.1 b hbl hbA)) hKK) rfl rfl hl.1 rfl (lv_room (Nat.le_of_ble_eq_true rfl)) dL_tells_44 ⟨Nat.zero_le _, Nat.zero_le _⟩)) ?_
  refine lv_istore (lv' := [(5, .int r44), (0, .ref (ad 0)), (1, .ref b), (2, .ref za), (3, .ref ta), (4, .int x4)]) hx hb dL_tells_47 hl (by decide) rfl (fun ls hl => ?_)
  refine lv_aload_n hx hb dL_tells_49 rfl (lv_at hl 3 rfl) ?_
  refine lv_iconst (v := (0 : Int32)) hx hb dL_tells_50 (by decide) ?_
  refine lv_iconst (v := (1 : Int32)) hx hb dL_tells_51 (by decide) ?_
  refine lv_iload hx hb dL_tells_52 (lv_at hl 0 rfl) ?_
  refine lv_iload hx hb dL_tells_54 (lv_at hl 5 rfl) ?_
  obtain ⟨r56, hc, h⟩ := bd1_some h
  refine my_roi (va_Run.run (va_runS (As := [.int r44, .int x4]) (rest := [.int (1 : Int32), .int (0 : Int32), .ref za]) hFix (kL_part l D T F r44 x4 r56 hc) (va_cwS 2 hts gL_tells_L_part rfl rfl rfl hd_L_part ⟨Nat.le_of_ble_eq_true rfl, Nat.le_of_ble_eq_true rfl⟩) (preS_ro va_nil hKK) rfl rfl hl.1 rfl (lv_room (Nat.le_of_ble_eq_true rfl)) dL_tells_56 ⟨Nat.zero_le _, Nat.zero_le _⟩)) ?_
  refine lv_iadd hx hb dL_tells_59 ?_
  refine va_iast hx hb hK hP hD hS 38 0 wLW_38 rfl (show ¬ ((0 : Int32) < 0 ∨ 18 ≤ (0 : Int32).toNatClampNeg) by decide) dL_tells_60 (fun H locs hP hD hS => ?_)
  have hP : va_P D vwCl (wLW T ad (ad 6) (ad 12) za ta rs rm ts tm rdue rtun rsee rbeg psize pclause peff pkin pgri psig psee qsize qclause qeff qkin qgri qsig qsee cdee cnow cahe kdee know kahe fc lf told up lo (upd zz (0 : Int32).toNatClampNeg ((1 : Int32) + r56)) tt) H := hP
  have hD : va_D A (wLW T ad (ad 6) (ad 12) za ta rs rm ts tm rdue rtun rsee rbeg psize pclause peff pkin pgri psig psee qsize qclause qeff qkin qgri qsig qsee cdee cnow cahe kdee know kahe fc lf told up lo (upd zz (0 : Int32).toNatClampNeg ((1 : Int32) + r56)) tt) := hD
  refine lv_aload_n hx hb dL_tells_61 rfl (lv_at hl 3 rfl) ?_
  refine lv_iconst (v := (1 : Int32)) hx hb dL_tells_62 (by decide) ?_
  refine lv_iconst (v := (1 : Int32)) hx hb dL_tells_63 (by decide) ?_
  refine lv_iload hx hb dL_tells_64 (lv_at hl 0 rfl) ?_
  refine lv_iconst (v := (4 : Int32)) hx hb dL_tells_66 (by decide) ?_
  refine lv_ishr hx hb dL_tells_67 ?_
  refine lv_bipush (v := (9 : Int32)) hx hb dL_tells_68 (by decide) ?_
  obtain ⟨r70, hc, h⟩ := bd1_some h
  refine my_roi (va_Run.run (va_runS (As := [.int (r44 >>> ((4 : Int32) &&& 31)), .int (9 : Int32)]) (rest := [.int (1 : Int32), .int (1 : Int32), .ref za]) hFix (kL_part l D T F (r44 >>> ((4 : Int32) &&& 31)) (9 : Int32) r70 hc) (va_cwS 2 hts gL_tells_L_part rfl rfl rfl hd_L_part ⟨Nat.le_of_ble_eq_true rfl, Nat.le_of_ble_eq_true rfl⟩) (preS_ro va_nil hKK) rfl rfl hl.1 rfl (lv_room (Nat.le_of_ble_eq_true rfl)) dL_tells_70 ⟨Nat.zero_le _, Nat.zero_le _⟩)) ?_
  refine lv_iadd hx hb dL_tells_73 ?_
  refine va_iast hx hb hK hP hD hS 38 0 wLW_38 rfl (show ¬ ((1 : Int32) < 0 ∨ 18 ≤ (1 : Int32).toNatClampNeg) by decide) dL_tells_74 (fun H locs hP hD hS => ?_)
  have hP : va_P D vwCl (wLW T ad (ad 6) (ad 12) za ta rs rm ts tm rdue rtun rsee rbeg psize pclause peff pkin pgri psig psee qsize qclause qeff qkin qgri qsig qsee cdee cnow cahe kdee know kahe fc lf told up lo (upd (upd zz (0 : Int32).toNatClampNeg ((1 : Int32) + r56)) (1 : Int32).toNatClampNeg ((1 : Int32) + r70)) tt) H := hP
  have hD : va_D A (wLW T ad (ad 6) (ad 12) za ta rs rm ts tm rdue rtun rsee rbeg psize pclause peff pkin pgri psig psee qsize qclause qeff qkin qgri qsig qsee cdee cnow cahe kdee know kahe fc lf told up lo (upd (upd zz (0 : Int32).toNatClampNeg ((1 : Int32) + r56)) (1 : Int32).toNatClampNeg ((1 : Int32) + r70)) tt) := hD
  refine lv_aload_n hx hb dL_tells_75 rfl (lv_at hl 1 rfl) ?_
  refine lv_iconst (v := (2 : Int32)) hx hb dL_tells_76 (by decide) ?_
  refine lv_bipush (v := (80 : Int32)) hx hb dL_tells_77 (by decide) ?_
  obtain ⟨r79, w79_ts, w79_tm, w79_fc, w79_lf, hc, h⟩ := bd5_some h
  have hPc : va_P D vwCl (wPW T ad (ad 6) (ad 12) rs rm ts tm rdue rtun rsee rbeg psize pclause peff pkin pgri psig psee qsize qclause qeff qkin qgri qsig qsee cdee cnow cahe kdee know kahe fc lf told up lo) _ := my_subP sb_wLW_wPW_0to37 hP
  have hDc := hD.sub [0, 1, 2, 3, 4, 5, 6, 7, 8, 9, 10, 11, 12, 13, 14, 15, 16, 17, 18, 19, 20, 21, 22, 23, 24, 25, 26, 27, 28, 29, 30, 31, 32, 33, 34, 35, 36, 37] nd_LW sb_wLW_wPW_0to37
  have hFc := va_free hD hS hA [0, 1, 2, 3, 4, 5, 6, 7, 8, 9, 10, 11, 12, 13, 14, 15, 16, 17, 18, 19, 20, 21, 22, 23, 24, 25, 26, 27, 28, 29, 30, 31, 32, 33, 34, 35, 36, 37] sb_wLW_wPW_0to37
  refine my_rwi (va_runV (As := [.int (2 : Int32), .int (80 : Int32)]) (rest := []) hFix (kX5_text l D T F ad rs rm ts tm rdue rtun rsee rbeg psize pclause peff pkin pgri psig psee qsize qclause qeff qkin qgri qsig qsee cdee cnow cahe kdee know kahe fc lf told up lo (2 : Int32) (80 : Int32) r79 w79_ts w79_tm w79_fc w79_lf hc _) (cwV 2 hts gL_tells_X5_text rfl rfl rfl ⟨rfl, hd_X5_text⟩ ⟨Nat.le_of_ble_eq_true rfl, Nat.le_of_ble_eq_true rfl⟩) (preV_rw hPc hKK hDc (va_recv hK hP (ci := 3) (q0 := 0) rfl wLW_0)) rfl rfl hl.1 rfl (lv_room (Nat.le_of_ble_eq_true rfl)) dL_tells_79 ⟨Nat.zero_le _, Nat.zero_le _⟩) hS hFc (fun H1 locs hP1 hD1 hz1 hkk hS => ?_)
  obtain ⟨hP, hD⟩ := my_joinS hP hD nd_LW sb_wLW_wPW_0to37 (by rfl) hkk hFc hP1 hD1
  rw [st_LW] at hP hD
  generalize H1 = H at hP hS ⊢
  refine lv_bipush (v := (80 : Int32)) hx hb dL_tells_82 (by decide) ?_
  refine lv_icmp_ne (tgt := 119) hx hb dL_tells_84 (by decide) (fun c84 => ?_) (fun c84 => ?_)
  · have h := br_0 h c84
    refine lv_iconst (v := (0 : Int32)) hx hb dL_tells_119 (by decide) ?_
    cases h
    exact hret ad _ _ _ _ rfl hP hD hS dL_tells_120 (Or.inl rfl)
  · have h := br_1 h c84
    refine lv_aload_n hx hb dL_tells_87 rfl (lv_at hl 1 rfl) ?_
    refine lv_iconst (v := (2 : Int32)) hx hb dL_tells_88 (by decide) ?_
    refine lv_iconst (v := (0 : Int32)) hx hb dL_tells_89 (by decide) ?_
    refine lv_bipush (v := (99 : Int32)) hx hb dL_tells_90 (by decide) ?_
    obtain ⟨r92, w92_tm, w92_fc, w92_lf, hc, h⟩ := bd4_some h
    have hPc : va_P D vwCl (wPW T ad (ad 6) (ad 12) rs rm w79_ts w79_tm rdue rtun rsee rbeg psize pclause peff pkin pgri psig psee qsize qclause qeff qkin qgri qsig qsee cdee cnow cahe kdee know kahe w79_fc w79_lf told up lo) _ := my_subP sb_wLW_wPW_0to37 hP
    have hDc := hD.sub [0, 1, 2, 3, 4, 5, 6, 7, 8, 9, 10, 11, 12, 13, 14, 15, 16, 17, 18, 19, 20, 21, 22, 23, 24, 25, 26, 27, 28, 29, 30, 31, 32, 33, 34, 35, 36, 37] nd_LW sb_wLW_wPW_0to37
    have hFc := va_free hD hS hA [0, 1, 2, 3, 4, 5, 6, 7, 8, 9, 10, 11, 12, 13, 14, 15, 16, 17, 18, 19, 20, 21, 22, 23, 24, 25, 26, 27, 28, 29, 30, 31, 32, 33, 34, 35, 36, 37] sb_wLW_wPW_0to37
    refine my_rwi (va_runV (As := [.int (2 : Int32), .int (0 : Int32), .int (99 : Int32)]) (rest := []) hFix (kX5_put l D T F ad rs rm w79_ts w79_tm rdue rtun rsee rbeg psize pclause peff pkin pgri psig psee qsize qclause qeff qkin qgri qsig qsee cdee cnow cahe kdee know kahe w79_fc w79_lf told up lo (2 : Int32) (0 : Int32) (99 : Int32) r92 w92_tm w92_fc w92_lf hc _) (cwV 3 hts gL_tells_X5_put rfl rfl rfl ⟨rfl, hd_X5_put⟩ ⟨Nat.le_of_ble_eq_true rfl, Nat.le_of_ble_eq_true rfl⟩) (preV_rw hPc hKK hDc (va_recv hK hP (ci := 3) (q0 := 0) rfl wLW_0)) rfl rfl hl.1 rfl (lv_room (Nat.le_of_ble_eq_true rfl)) dL_tells_92 ⟨Nat.zero_le _, Nat.zero_le _⟩) hS hFc (fun H1 locs hP1 hD1 hz1 hkk hS => ?_)
    obtain ⟨hP, hD⟩ := my_joinS hP hD nd_LW sb_wLW_wPW_0to37 (by rfl) hkk hFc hP1 hD1
    rw [st_LW] at hP hD
    generalize H1 = H at hP hS ⊢
    refine lv_sipush (v := (1032 : Int32)) hx hb dL_tells_95 (by decide) ?_
    refine lv_icmp_ne (tgt := 119) hx hb dL_tells_98 (by decide) (fun c98 => ?_) (fun c98 => ?_)
    · have h := br_0 h c98
      refine lv_iconst (v := (0 : Int32)) hx hb dL_tells_119 (by decide) ?_
      cases h
      exact hret ad _ _ _ _ rfl hP hD hS dL_tells_120 (Or.inl rfl)
    · have h := br_1 h c98
      refine lv_aload_n hx hb dL_tells_101 rfl (lv_at hl 1 rfl) ?_
      refine lv_iconst (v := (2 : Int32)) hx hb dL_tells_102 (by decide) ?_
      refine lv_iconst (v := (1 : Int32)) hx hb dL_tells_103 (by decide) ?_
      refine lv_bipush (v := (48 : Int32)) hx hb dL_tells_104 (by decide) ?_
      refine lv_aload_n hx hb dL_tells_106 rfl (lv_at hl 3 rfl) ?_
      refine lv_iconst (v := (1 : Int32)) hx hb dL_tells_107 (by decide) ?_
      refine va_iald hx hb hK hP 38 0 wLW_38 rfl (show ¬ ((1 : Int32) < 0 ∨ 18 ≤ (1 : Int32).toNatClampNeg) by decide) dL_tells_108 ?_
      refine lv_iadd hx hb dL_tells_109 ?_
      obtain ⟨r110, w110_tm, w110_fc, w110_lf, hc, h⟩ := bd4_some h
      have hPc : va_P D vwCl (wPW T ad (ad 6) (ad 12) rs rm w79_ts w92_tm rdue rtun rsee rbeg psize pclause peff pkin pgri psig psee qsize qclause qeff qkin qgri qsig qsee cdee cnow cahe kdee know kahe w92_fc w92_lf told up lo) _ := my_subP sb_wLW_wPW_0to37 hP
      have hDc := hD.sub [0, 1, 2, 3, 4, 5, 6, 7, 8, 9, 10, 11, 12, 13, 14, 15, 16, 17, 18, 19, 20, 21, 22, 23, 24, 25, 26, 27, 28, 29, 30, 31, 32, 33, 34, 35, 36, 37] nd_LW sb_wLW_wPW_0to37
      have hFc := va_free hD hS hA [0, 1, 2, 3, 4, 5, 6, 7, 8, 9, 10, 11, 12, 13, 14, 15, 16, 17, 18, 19, 20, 21, 22, 23, 24, 25, 26, 27, 28, 29, 30, 31, 32, 33, 34, 35, 36, 37] sb_wLW_wPW_0to37
      refine my_rwi (va_runV (As := [.int (2 : Int32), .int (1 : Int32), .int ((48 : Int32) + ((upd (upd zz (0 : Int32).toNatClampNeg ((1 : Int32) + r56)) (1 : Int32).toNatClampNeg ((1 : Int32) + r70)) (1 : Int32).toNatClampNeg))]) (rest := []) hFix (kX5_put l D T F ad rs rm w79_ts w92_tm rdue rtun rsee rbeg psize pclause peff pkin pgri psig psee qsize qclause qeff qkin qgri qsig qsee cdee cnow cahe kdee know kahe w92_fc w92_lf told up lo (2 : Int32) (1 : Int32) ((48 : Int32) + ((upd (upd zz (0 : Int32).toNatClampNeg ((1 : Int32) + r56)) (1 : Int32).toNatClampNeg ((1 : Int32) + r70)) (1 : Int32).toNatClampNeg)) r110 w110_tm w110_fc w110_lf hc _) (cwV 3 hts gL_tells_X5_put rfl rfl rfl ⟨rfl, hd_X5_put⟩ ⟨Nat.le_of_ble_eq_true rfl, Nat.le_of_ble_eq_true rfl⟩) (preV_rw hPc hKK hDc (va_recv hK hP (ci := 3) (q0 := 0) rfl wLW_0)) rfl rfl hl.1 rfl (lv_room (Nat.le_of_ble_eq_true rfl)) dL_tells_110 ⟨Nat.zero_le _, Nat.zero_le _⟩) hS hFc (fun H1 locs hP1 hD1 hz1 hkk hS => ?_)
      obtain ⟨hP, hD⟩ := my_joinS hP hD nd_LW sb_wLW_wPW_0to37 (by rfl) hkk hFc hP1 hD1
      rw [st_LW] at hP hD
      generalize H1 = H at hP hS ⊢
      refine lv_sipush (v := (1032 : Int32)) hx hb dL_tells_113 (by decide) ?_
      refine lv_icmp_eq (tgt := 121) hx hb dL_tells_116 (by decide) (fun c116 => ?_) (fun c116 => ?_)
      · have h := br_1 h c116
        exact LN_tells_n121 F rs w79_ts w110_tm rdue rtun rsee rbeg psize pclause peff pkin pgri psig psee qsize qclause qeff qkin qgri qsig qsee cdee cnow kdee w110_fc w110_lf (upd (upd zz (0 : Int32).toNatClampNeg ((1 : Int32) + r56)) (1 : Int32).toNatClampNeg ((1 : Int32) + r70)) tt C0 hret h _ _ hP hD hS _ (lv_sub hl [1, 2, 3, 4] rfl)
      · have h := br_0 h c116
        refine lv_iconst (v := (0 : Int32)) hx hb dL_tells_119 (by decide) ?_
        cases h
        exact hret ad _ _ _ _ rfl hP hD hS dL_tells_120 (Or.inl rfl)
set_option maxHeartbeats 4000000 in
set_option maxRecDepth 100000 in
theorem LN_tells_l24 {p : Program} {l : Launch} {e : Env} {s : State} {m : MethodId} {args : Array Value} {below : List Frame} {meth : Method} {c : Code} {Q : State → Prop} {D : va_G} {T : Nat → ClassId} {b L : Nat} {xs : Nat → Int32} {A : Nat → Prop} {za ta : Nat} {ad : Nat → Nat} {r : Int32} {zts : Nat → Int32} {ztm : Nat → Nat → Int32} {zrdue : Int32} {zrtun : Int32} {zrsee : Int32} {zrbeg : Int32} {zpsize : Int32} {zpclause : Int32} {zpeff : Nat → Int32} {zpkin : Nat → Int32} {zpgri : Nat → Int32} {zpsig : Nat → Int32} {zpsee : Nat → Int32} {zqsize : Int32} {zqclause : Int32} {zqeff : Nat → Int32} {zqkin : Nat → Int32} {zqgri : Nat → Int32} {zqsig : Nat → Int32} {zqsee : Nat → Int32} {zcdee : Int32} {zcnow : Int64} {zkdee : Nat → Int32} {zfc : Nat → Int32} {zlf : Int32} {zzz : Nat → Int32} {ztt : Nat → Int32} {rm : Nat → Nat → Int32} {cahe : Nat → Int64} {know : Nat → Int64} {kahe : Nat → Nat → Int64} {told : Int32} {up : Int64} {lo : Int64} (F : Nat) (rs : Nat → Int32) (x4 : Int32) (ts : Nat → Int32) (tm : Nat → Nat → Int32) (rdue : Int32) (rtun : Int32) (rsee : Int32) (rbeg : Int32) (psize : Int32) (pclause : Int32) (peff : Nat → Int32) (pkin : Nat → Int32) (pgri : Nat → Int32) (psig : Nat → Int32) (psee : Nat → Int32) (qsize : Int32) (qclause : Int32) (qeff : Nat → Int32) (qkin : Nat → Int32) (qgri : Nat → Int32) (qsig : Nat → Int32) (qsee : Nat → Int32) (cdee : Int32) (cnow : Int64) (kdee : Nat → Int32) (fc : Nat → Int32) (lf : Int32) (zz : Nat → Int32) (C0 : SC_tells p s m args c D T b L xs A) (hret : HR_tells p l e s m args below meth c Q D T A (ad 0) za ta r zts ztm zrdue zrtun zrsee zrbeg zpsize zpclause zpeff zpkin zpgri zpsig zpsee zqsize zqclause zqeff zqkin zqgri zqsig zqsee zcdee zcnow zkdee zfc zlf zzz ztt rs rm cahe know kahe told up lo) : ∀ (nu : Nat) (x5 : Int32) (tt : Nat → Int32), fL_tells_l24 F (ad 6) (ad 12) L xs rs x4 ts tm rdue rtun rsee rbeg psize pclause peff pkin pgri psig psee qsize qclause qeff qkin qgri qsig qsee cdee cnow kdee fc lf zz nu x5 tt = some (r, zts, ztm, zrdue, zrtun, zrsee, zrbeg, zpsize, zpclause, zpeff, zpkin, zpgri, zpsig, zpsee, zqsize, zqclause, zqeff, zqkin, zqgri, zqsig, zqsee, zcdee, zcnow, zkdee, zfc, zlf, zzz, ztt) → ∀ (H : Heap) (locs : List Loc), va_P D vwCl (wLW T ad (ad 6) (ad 12) za ta rs rm ts tm rdue rtun rsee rbeg psize pclause peff pkin pgri psig psee qsize qclause qeff qkin qgri qsig qsee cdee cnow cahe kdee know kahe fc lf told up lo zz tt) H → va_D A (wLW T ad (ad 6) (ad 12) za ta rs rm ts tm rdue rtun rsee rbeg psize pclause peff pkin pgri psig psee qsize qclause qeff qkin qgri qsig qsee cdee cnow cahe kdee know kahe fc lf told up lo zz tt) → va_S A s.heap H locs → ∀ (ls : Array Slot), lv_has ls 11 [(0, .ref (ad 0)), (1, .ref b), (2, .ref za), (3, .ref ta), (4, .int x4), (5, .int x5)] → W p l e ({ frames := 5, cells := 0, slots := 0, locals := 112 } : Room) s m args below meth c H locs 0 0 Q (F0 m 24 ls []) := by
  intro nu
  induction nu with
  | zero => intro x5 tt h; exact none_some h
  | succ nu ih24 =>
    intro x5 tt h H locs hP hD hS ls hl
    obtain ⟨hFix, hKK, hA, hX, hbl, hbA⟩ := id C0
    obtain ⟨hx, hb, hml, hown, hts⟩ := id hFix
    have hK := hKK.1
    have h : fL_tells_l24_b F (ad 6) (ad 12) L xs rs x4 ts tm rdue rtun rsee rbeg psize pclause peff pkin pgri psig psee qsize qclause qeff qkin qgri qsig qsee cdee cnow kdee fc lf zz (fL_tells_l24 F (ad 6) (ad 12) L xs rs x4 ts tm rdue rtun rsee rbeg psize pclause peff pkin pgri psig psee qsize qclause qeff qkin qgri qsig qsee cdee cnow kdee fc lf zz nu) x5 tt = some (r, zts, ztm, zrdue, zrtun, zrsee, zrbeg, zpsize, zpclause, zpeff, zpkin, zpgri, zpsig, zpsee, zqsize, zqclause, zqeff, zqkin, zqgri, zqsig, zqsee, zcdee, zcnow, zkdee, zfc, zlf, zzz, ztt) := h
    unfold fL_tells_l24_b at h
    refine lv_iload hx hb dL_tells_24 (lv_at hl 5 rfl) ?_
    refine lv_bipush (v := (7 : Int32)) hx hb dL_tells_26 (by decide) ?_
    refine lv_icmp_ge (tgt := 42) hx hb dL_tells_28 (by decide) (fun c28 => ?_) (fun c28 => ?_)
    · have h := br_1 h c28
      exact LN_tells_n42 F rs x4 ts tm rdue rtun rsee rbeg psize pclause peff pkin pgri psig psee qsize qclause qeff qkin qgri qsig qsee cdee cnow kdee fc lf zz tt C0 hret h _ _ hP hD hS _ (lv_sub hl [0, 1, 2, 3, 4] rfl)
    · have h := br_0 h c28
      refine lv_aload_n hx hb dL_tells_31 rfl (lv_at hl 3 rfl) ?_
      refine lv_iload hx hb dL_tells_32 (lv_at hl 5 rfl) ?_
      refine lv_iconst (v := (0 : Int32)) hx hb dL_tells_34 (by decide) ?_
      obtain ⟨hin1, h⟩ := ck_some h
      refine va_iast hx hb hK hP hD hS 39 0 wLW_39 rfl hin1 dL_tells_35 (fun H locs hP hD hS => ?_)
      have hP : va_P D vwCl (wLW T ad (ad 6) (ad 12) za ta rs rm ts tm rdue rtun rsee rbeg psize pclause peff pkin pgri psig psee qsize qclause qeff qkin qgri qsig qsee cdee cnow cahe kdee know kahe fc lf told up lo zz (upd tt x5.toNatClampNeg (0 : Int32))) H := hP
      have hD : va_D A (wLW T ad (ad 6) (ad 12) za ta rs rm ts tm rdue rtun rsee rbeg psize pclause peff pkin pgri psig psee qsize qclause qeff qkin qgri qsig qsee cdee cnow cahe kdee know kahe fc lf told up lo zz (upd tt x5.toNatClampNeg (0 : Int32))) := hD
      refine lv_iinc (v := (x5 + (1 : Int32))) (lv' := [(5, .int (x5 + (1 : Int32))), (0, .ref (ad 0)), (1, .ref b), (2, .ref za), (3, .ref ta), (4, .int x4)]) hx hb dL_tells_36 hl (k := 5) rfl rfl (by decide) rfl (fun ls hl => ?_)
      refine lv_goto (tgt := 24) hx hb dL_tells_39 (by decide) ?_
      exact ih24 (x5 + (1 : Int32)) (upd tt x5.toNatClampNeg (0 : Int32)) h _ _ hP hD hS _ (lv_sub hl [1, 2, 3, 4, 5, 0] rfl)
set_option maxHeartbeats 4000000 in
set_option maxRecDepth 100000 in
theorem LN_tells_l3 {p : Program} {l : Launch} {e : Env} {s : State} {m : MethodId} {args : Array Value} {below : List Frame} {meth : Method} {c : Code} {Q : State → Prop} {D : va_G} {T : Nat → ClassId} {b L : Nat} {xs : Nat → Int32} {A : Nat → Prop} {za ta : Nat} {ad : Nat → Nat} {r : Int32} {zts : Nat → Int32} {ztm : Nat → Nat → Int32} {zrdue : Int32} {zrtun : Int32} {zrsee : Int32} {zrbeg : Int32} {zpsize : Int32} {zpclause : Int32} {zpeff : Nat → Int32} {zpkin : Nat → Int32} {zpgri : Nat → Int32} {zpsig : Nat → Int32} {zpsee : Nat → Int32} {zqsize : Int32} {zqclause : Int32} {zqeff : Nat → Int32} {zqkin : Nat → Int32} {zqgri : Nat → Int32} {zqsig : Nat → Int32} {zqsee : Nat → Int32} {zcdee : Int32} {zcnow : Int64} {zkdee : Nat → Int32} {zfc : Nat → Int32} {zlf : Int32} {zzz : Nat → Int32} {ztt : Nat → Int32} {rm : Nat → Nat → Int32} {cahe : Nat → Int64} {know : Nat → Int64} {kahe : Nat → Nat → Int64} {told : Int32} {up : Int64} {lo : Int64} (F : Nat) (rs : Nat → Int32) (x4 : Int32) (ts : Nat → Int32) (tm : Nat → Nat → Int32) (rdue : Int32) (rtun : Int32) (rsee : Int32) (rbeg : Int32) (psize : Int32) (pclause : Int32) (peff : Nat → Int32) (pkin : Nat → Int32) (pgri : Nat → Int32) (psig : Nat → Int32) (psee : Nat → Int32) (qsize : Int32) (qclause : Int32) (qeff : Nat → Int32) (qkin : Nat → Int32) (qgri : Nat → Int32) (qsig : Nat → Int32) (qsee : Nat → Int32) (cdee : Int32) (cnow : Int64) (kdee : Nat → Int32) (fc : Nat → Int32) (lf : Int32) (tt : Nat → Int32) (C0 : SC_tells p s m args c D T b L xs A) (hret : HR_tells p l e s m args below meth c Q D T A (ad 0) za ta r zts ztm zrdue zrtun zrsee zrbeg zpsize zpclause zpeff zpkin zpgri zpsig zpsee zqsize zqclause zqeff zqkin zqgri zqsig zqsee zcdee zcnow zkdee zfc zlf zzz ztt rs rm cahe know kahe told up lo) : ∀ (nu : Nat) (x5 : Int32) (zz : Nat → Int32), fL_tells_l3 F (ad 6) (ad 12) L xs rs x4 ts tm rdue rtun rsee rbeg psize pclause peff pkin pgri psig psee qsize qclause qeff qkin qgri qsig qsee cdee cnow kdee fc lf tt nu x5 zz = some (r, zts, ztm, zrdue, zrtun, zrsee, zrbeg, zpsize, zpclause, zpeff, zpkin, zpgri, zpsig, zpsee, zqsize, zqclause, zqeff, zqkin, zqgri, zqsig, zqsee, zcdee, zcnow, zkdee, zfc, zlf, zzz, ztt) → ∀ (H : Heap) (locs : List Loc), va_P D vwCl (wLW T ad (ad 6) (ad 12) za ta rs rm ts tm rdue rtun rsee rbeg psize pclause peff pkin pgri psig psee qsize qclause qeff qkin qgri qsig qsee cdee cnow cahe kdee know kahe fc lf told up lo zz tt) H → va_D A (wLW T ad (ad 6) (ad 12) za ta rs rm ts tm rdue rtun rsee rbeg psize pclause peff pkin pgri psig psee qsize qclause qeff qkin qgri qsig qsee cdee cnow cahe kdee know kahe fc lf told up lo zz tt) → va_S A s.heap H locs → ∀ (ls : Array Slot), lv_has ls 11 [(0, .ref (ad 0)), (1, .ref b), (2, .ref za), (3, .ref ta), (4, .int x4), (5, .int x5)] → W p l e ({ frames := 5, cells := 0, slots := 0, locals := 112 } : Room) s m args below meth c H locs 0 0 Q (F0 m 3 ls []) := by
  intro nu
  induction nu with
  | zero => intro x5 zz h; exact none_some h
  | succ nu ih3 =>
    intro x5 zz h H locs hP hD hS ls hl
    obtain ⟨hFix, hKK, hA, hX, hbl, hbA⟩ := id C0
    obtain ⟨hx, hb, hml, hown, hts⟩ := id hFix
    have hK := hKK.1
    have h : fL_tells_l3_b F (ad 6) (ad 12) L xs rs x4 ts tm rdue rtun rsee rbeg psize pclause peff pkin pgri psig psee qsize qclause qeff qkin qgri qsig qsee cdee cnow kdee fc lf tt (fL_tells_l3 F (ad 6) (ad 12) L xs rs x4 ts tm rdue rtun rsee rbeg psize pclause peff pkin pgri psig psee qsize qclause qeff qkin qgri qsig qsee cdee cnow kdee fc lf tt nu) x5 zz = some (r, zts, ztm, zrdue, zrtun, zrsee, zrbeg, zpsize, zpclause, zpeff, zpkin, zpgri, zpsig, zpsee, zqsize, zqclause, zqeff, zqkin, zqgri, zqsig, zqsee, zcdee, zcnow, zkdee, zfc, zlf, zzz, ztt) := h
    unfold fL_tells_l3_b at h
    refine lv_iload hx hb dL_tells_3 (lv_at hl 5 rfl) ?_
    refine lv_bipush (v := (18 : Int32)) hx hb dL_tells_5 (by decide) ?_
    refine lv_icmp_ge (tgt := 21) hx hb dL_tells_7 (by decide) (fun c7 => ?_) (fun c7 => ?_)
    · have h := br_1 h c7
      refine lv_iconst (v := (0 : Int32)) hx hb dL_tells_21 (by decide) ?_
      refine lv_istore (lv' := [(5, .int (0 : Int32)), (0, .ref (ad 0)), (1, .ref b), (2, .ref za), (3, .ref ta), (4, .int x4)]) hx hb dL_tells_22 hl (by decide) rfl (fun ls hl => ?_)
      exact LN_tells_l24 F rs x4 ts tm rdue rtun rsee rbeg psize pclause peff pkin pgri psig psee qsize qclause qeff qkin qgri qsig qsee cdee cnow kdee fc lf zz C0 hret F (0 : Int32) tt h _ _ hP hD hS _ (lv_sub hl [1, 2, 3, 4, 5, 0] rfl)
    · have h := br_0 h c7
      refine lv_aload_n hx hb dL_tells_10 rfl (lv_at hl 2 rfl) ?_
      refine lv_iload hx hb dL_tells_11 (lv_at hl 5 rfl) ?_
      refine lv_iconst (v := (0 : Int32)) hx hb dL_tells_13 (by decide) ?_
      obtain ⟨hin1, h⟩ := ck_some h
      refine va_iast hx hb hK hP hD hS 38 0 wLW_38 rfl hin1 dL_tells_14 (fun H locs hP hD hS => ?_)
      have hP : va_P D vwCl (wLW T ad (ad 6) (ad 12) za ta rs rm ts tm rdue rtun rsee rbeg psize pclause peff pkin pgri psig psee qsize qclause qeff qkin qgri qsig qsee cdee cnow cahe kdee know kahe fc lf told up lo (upd zz x5.toNatClampNeg (0 : Int32)) tt) H := hP
      have hD : va_D A (wLW T ad (ad 6) (ad 12) za ta rs rm ts tm rdue rtun rsee rbeg psize pclause peff pkin pgri psig psee qsize qclause qeff qkin qgri qsig qsee cdee cnow cahe kdee know kahe fc lf told up lo (upd zz x5.toNatClampNeg (0 : Int32)) tt) := hD
      refine lv_iinc (v := (x5 + (1 : Int32))) (lv' := [(5, .int (x5 + (1 : Int32))), (0, .ref (ad 0)), (1, .ref b), (2, .ref za), (3, .ref ta), (4, .int x4)]) hx hb dL_tells_15 hl (k := 5) rfl rfl (by decide) rfl (fun ls hl => ?_)
      refine lv_goto (tgt := 3) hx hb dL_tells_18 (by decide) ?_
      exact ih3 (x5 + (1 : Int32)) (upd zz x5.toNatClampNeg (0 : Int32)) h _ _ hP hD hS _ (lv_sub hl [1, 2, 3, 4, 5, 0] rfl)
set_option maxHeartbeats 4000000 in
set_option maxRecDepth 100000 in
theorem LN_tells_entry {p : Program} {l : Launch} {e : Env} {s : State} {m : MethodId} {args : Array Value} {below : List Frame} {meth : Method} {c : Code} {Q : State → Prop} {D : va_G} {T : Nat → ClassId} {b L : Nat} {xs : Nat → Int32} {A : Nat → Prop} {za ta : Nat} {ad : Nat → Nat} {r : Int32} {zts : Nat → Int32} {ztm : Nat → Nat → Int32} {zrdue : Int32} {zrtun : Int32} {zrsee : Int32} {zrbeg : Int32} {zpsize : Int32} {zpclause : Int32} {zpeff : Nat → Int32} {zpkin : Nat → Int32} {zpgri : Nat → Int32} {zpsig : Nat → Int32} {zpsee : Nat → Int32} {zqsize : Int32} {zqclause : Int32} {zqeff : Nat → Int32} {zqkin : Nat → Int32} {zqgri : Nat → Int32} {zqsig : Nat → Int32} {zqsee : Nat → Int32} {zcdee : Int32} {zcnow : Int64} {zkdee : Nat → Int32} {zfc : Nat → Int32} {zlf : Int32} {zzz : Nat → Int32} {ztt : Nat → Int32} {rm : Nat → Nat → Int32} {cahe : Nat → Int64} {know : Nat → Int64} {kahe : Nat → Nat → Int64} {told : Int32} {up : Int64} {lo : Int64} (F : Nat) (rs : Nat → Int32) (ts : Nat → Int32) (tm : Nat → Nat → Int32) (rdue : Int32) (rtun : Int32) (rsee : Int32) (rbeg : Int32) (psize : Int32) (pclause : Int32) (peff : Nat → Int32) (pkin : Nat → Int32) (pgri : Nat → Int32) (psig : Nat → Int32) (psee : Nat → Int32) (qsize : Int32) (qclause : Int32) (qeff : Nat → Int32) (qkin : Nat → Int32) (qgri : Nat → Int32) (qsig : Nat → Int32) (qsee : Nat → Int32) (cdee : Int32) (cnow : Int64) (kdee : Nat → Int32) (fc : Nat → Int32) (lf : Int32) (zz : Nat → Int32) (tt : Nat → Int32) (x4 : Int32) (C0 : SC_tells p s m args c D T b L xs A) (hret : HR_tells p l e s m args below meth c Q D T A (ad 0) za ta r zts ztm zrdue zrtun zrsee zrbeg zpsize zpclause zpeff zpkin zpgri zpsig zpsee zqsize zqclause zqeff zqkin zqgri zqsig zqsee zcdee zcnow zkdee zfc zlf zzz ztt rs rm cahe know kahe told up lo) (h : fL_tells F (ad 6) (ad 12) L xs rs ts tm rdue rtun rsee rbeg psize pclause peff pkin pgri psig psee qsize qclause qeff qkin qgri qsig qsee cdee cnow kdee fc lf zz tt x4 = some (r, zts, ztm, zrdue, zrtun, zrsee, zrbeg, zpsize, zpclause, zpeff, zpkin, zpgri, zpsig, zpsee, zqsize, zqclause, zqeff, zqkin, zqgri, zqsig, zqsee, zcdee, zcnow, zkdee, zfc, zlf, zzz, ztt)) : ∀ (H : Heap) (locs : List Loc), va_P D vwCl (wLW T ad (ad 6) (ad 12) za ta rs rm ts tm rdue rtun rsee rbeg psize pclause peff pkin pgri psig psee qsize qclause qeff qkin qgri qsig qsee cdee cnow cahe kdee know kahe fc lf told up lo zz tt) H → va_D A (wLW T ad (ad 6) (ad 12) za ta rs rm ts tm rdue rtun rsee rbeg psize pclause peff pkin pgri psig psee qsize qclause qeff qkin qgri qsig qsee cdee cnow cahe kdee know kahe fc lf told up lo zz tt) → va_S A s.heap H locs → ∀ (ls : Array Slot), lv_has ls 11 [(0, .ref (ad 0)), (1, .ref b), (2, .ref za), (3, .ref ta), (4, .int x4)] → W p l e ({ frames := 5, cells := 0, slots := 0, locals := 112 } : Room) s m args below meth c H locs 0 0 Q (F0 m 0 ls []) := by
  intro H locs hP hD hS ls hl
  obtain ⟨hFix, hKK, hA, hX, hbl, hbA⟩ := id C0
  obtain ⟨hx, hb, hml, hown, hts⟩ := id hFix
  have hK := hKK.1
  unfold fL_tells at h
  refine lv_iconst (v := (0 : Int32)) hx hb dL_tells_0 (by decide) ?_
  refine lv_istore (lv' := [(5, .int (0 : Int32)), (0, .ref (ad 0)), (1, .ref b), (2, .ref za), (3, .ref ta), (4, .int x4)]) hx hb dL_tells_1 hl (by decide) rfl (fun ls hl => ?_)
  exact LN_tells_l3 F rs x4 ts tm rdue rtun rsee rbeg psize pclause peff pkin pgri psig psee qsize qclause qeff qkin qgri qsig qsee cdee cnow kdee fc lf tt C0 hret F (0 : Int32) zz h _ _ hP hD hS _ (lv_sub hl [1, 2, 3, 4, 5, 0] rfl)
