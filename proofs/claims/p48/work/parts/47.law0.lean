def HR_law (p : Program) (l : Launch) (e : Env) (s : State) (m : MethodId) (args : Array Value) (below : List Frame) (meth : Method) (c : Code) (Q : State → Prop) (A : Nat → Prop) : Prop := ∀ (H : Heap) (locs : List Loc) (pc : Nat) (ls : Array Slot), va_S A s.heap H locs → decode cL_law pc = .ok (.ireturn, 1) → W p l e room_1 s m args below meth c H locs 40 874 Q (F0 m pc ls [.int 1])
def SC_law (p : Program) (s : State) (m : MethodId) (args : Array Value) (c : Code) (D : va_G) (T : Nat → ClassId) (b L : Nat) (xs : Nat → Int32) (A : Nat → Prop) : Prop := CallFix p m c cL_law 31 s args wsL_law RL ∧ KK D T s ∧ (∀ q, s.heap.size ≤ q → A q) ∧ va_X b L xs s s.heap ∧ b < s.heap.size ∧ ¬ A b
set_option maxHeartbeats 4000000 in
set_option maxRecDepth 100000 in
theorem LN_law_n538 {p : Program} {l : Launch} {e : Env} {s : State} {m : MethodId} {args : Array Value} {below : List Frame} {meth : Method} {c : Code} {Q : State → Prop} {D : va_G} {T : Nat → ClassId} {b L : Nat} {xs : Nat → Int32} {A : Nat → Prop} {o0 za ta : Nat} (F : Nat) (s69 : Int32 → Int32 → Int64 → (Nat → Int64) → Int32 → Option (Int32)) (x4 : Int32) (x5 : Int32) (x6 : Int32) (x7 : Int32) (x8 : Int32) (x9 : Int32) (x10 : Int32) (x11 : Int32) (x14 : Int32) (x17 : Int32) (rs : Nat → Int32) (rm : Nat → Nat → Int32) (ts : Nat → Int32) (tm : Nat → Nat → Int32) (rdue : Int32) (rtun : Int32) (rsee : Int32) (rbeg : Int32) (psize : Int32) (pclause : Int32) (peff : Nat → Int32) (pkin : Nat → Int32) (pgri : Nat → Int32) (psig : Nat → Int32) (psee : Nat → Int32) (qsize : Int32) (qclause : Int32) (qeff : Nat → Int32) (qkin : Nat → Int32) (qgri : Nat → Int32) (qsig : Nat → Int32) (qsee : Nat → Int32) (cdee : Int32) (cnow : Int64) (cahe : Nat → Int64) (kdee : Nat → Int32) (know : Nat → Int64) (kahe : Nat → Nat → Int64) (fc : Nat → Int32) (lf : Int32) (told : Int32) (up : Int64) (lo : Int64) (zz : Nat → Int32) (tt : Nat → Int32) (C0 : SC_law p s m args c D T b L xs A) (hret : HR_law p l e s m args below meth c Q A) (ih69 : ∀ x7 : Int32, ∀ cdee : Int32, ∀ cnow : Int64, ∀ cahe : Nat → Int64, ∀ told : Int32, s69 x7 cdee cnow cahe told = some (1 : Int32) → ∀ (ad : Nat → Nat) (H : Heap) (locs : List Loc), ad 0 = o0 → va_P D vwCl (wLW T ad (ad 6) (ad 12) za ta rs rm ts tm rdue rtun rsee rbeg psize pclause peff pkin pgri psig psee qsize qclause qeff qkin qgri qsig qsee cdee cnow cahe kdee know kahe fc lf told up lo zz tt) H → va_D A (wLW T ad (ad 6) (ad 12) za ta rs rm ts tm rdue rtun rsee rbeg psize pclause peff pkin pgri psig psee qsize qclause qeff qkin qgri qsig qsee cdee cnow cahe kdee know kahe fc lf told up lo zz tt) → va_S A s.heap H locs → ∀ (ls : Array Slot), lv_has ls 31 [(0, .ref b), (1, .ref (ad 0)), (2, .ref za), (3, .ref ta), (4, .int x4), (5, .int x5), (6, .int x6), (7, .int x7)] → W p l e room_1 s m args below meth c H locs 40 874 Q (F0 m 69 ls [])) (h : fL_law_n538 F s69 L xs x4 x5 x6 x7 x8 x9 x10 x11 x14 x17 rs rm ts tm rdue rtun rsee rbeg psize pclause peff pkin pgri psig psee qsize qclause qeff qkin qgri qsig qsee cdee cnow cahe kdee know kahe fc lf told up lo zz tt = some (1 : Int32)) : ∀ (ad : Nat → Nat) (H : Heap) (locs : List Loc), ad 0 = o0 → va_P D vwCl (wLW T ad (ad 6) (ad 12) za ta rs rm ts tm rdue rtun rsee rbeg psize pclause peff pkin pgri psig psee qsize qclause qeff qkin qgri qsig qsee cdee cnow cahe kdee know kahe fc lf told up lo zz tt) H → va_D A (wLW T ad (ad 6) (ad 12) za ta rs rm ts tm rdue rtun rsee rbeg psize pclause peff pkin pgri psig psee qsize qclause qeff qkin qgri qsig qsee cdee cnow cahe kdee know kahe fc lf told up lo zz tt) → va_S A s.heap H locs → ∀ (ls : Array Slot), lv_has ls 31 [(0, .ref b), (1, .ref (ad 0)), (2, .ref za), (3, .ref ta), (4, .int x4), (5, .int x5), (6, .int x6), (7, .int x7), (8, .int x8), (9, .int x9), (10, .int x10), (11, .int x11), (14, .int x14), (17, .int x17)] → W p l e room_1 s m args below meth c H locs 40 874 Q (F0 m 538 ls []) := by
  intro ad H locs ho hP hD hS ls hl
  obtain ⟨hFix, hKK, hA, hX, hbl, hbA⟩ := id C0
  obtain ⟨hx, hb, hml, hown, hts⟩ := id hFix
  have hK := hKK.1
  unfold fL_law_n538 at h
  refine lv_iload hx hb dL_law_538 (lv_at hl 13 rfl) ?_
  refine lv_if_lt (tgt := 598) hx hb dL_law_540 (by decide) (fun c540 => ?_) (fun c540 => ?_)
  · have h := br_1 h c540
    refine lv_iinc (v := (x7 + (1 : Int32))) (lv' := [(7, .int (x7 + (1 : Int32))), (0, .ref b), (1, .ref (ad 0)), (2, .ref za), (3, .ref ta), (4, .int x4), (5, .int x5), (6, .int x6), (8, .int x8), (9, .int x9), (10, .int x10), (11, .int x11), (14, .int x14), (17, .int x17)]) hx hb dL_law_598 hl (k := 7) rfl rfl (by decide) rfl (fun ls hl => ?_)
    refine lv_goto (tgt := 69) hx hb dL_law_601 (by decide) ?_
    exact ih69 (x7 + (1 : Int32)) cdee cnow cahe told h ad _ _ ho hP hD hS _ (lv_sub hl [1, 2, 3, 4, 5, 6, 7, 0] rfl)
  · have h := br_0 h c540
    refine lv_iload hx hb dL_law_543 (lv_at hl 8 rfl) ?_
    refine lv_bipush (v := (20 : Int32)) hx hb dL_law_545 (by decide) ?_
    refine lv_ishr hx hb dL_law_547 ?_
    refine lv_iconst (v := (5 : Int32)) hx hb dL_law_548 (by decide) ?_
    obtain ⟨r549, hc, h⟩ := bd1_some h
    refine my_roi (va_Run.run (va_runS (As := [.int (x8 >>> ((20 : Int32) &&& 31)), .int (5 : Int32)]) (rest := []) hFix (kL_part l D T F (x8 >>> ((20 : Int32) &&& 31)) (5 : Int32) r549 hc) (va_cwS 2 hts gL_law_L_part rfl rfl rfl hd_L_part ⟨Nat.le_of_ble_eq_true rfl, Nat.le_of_ble_eq_true rfl⟩) (preS_ro va_nil hKK) rfl rfl hl.1 rfl (lv_room (Nat.le_of_ble_eq_true rfl)) dL_law_549 ⟨Nat.le_of_ble_eq_true rfl, Nat.le_of_ble_eq_true rfl⟩)) ?_
    refine lv_if_ne (tgt := 598) hx hb dL_law_552 (by decide) (fun c552 => ?_) (fun c552 => ?_)
    · have h := br_0 h c552
      refine lv_iinc (v := (x7 + (1 : Int32))) (lv' := [(7, .int (x7 + (1 : Int32))), (0, .ref b), (1, .ref (ad 0)), (2, .ref za), (3, .ref ta), (4, .int x4), (5, .int x5), (6, .int x6), (8, .int x8), (9, .int x9), (10, .int x10), (11, .int x11), (14, .int x14), (17, .int x17)]) hx hb dL_law_598 hl (k := 7) rfl rfl (by decide) rfl (fun ls hl => ?_)
      refine lv_goto (tgt := 69) hx hb dL_law_601 (by decide) ?_
      exact ih69 (x7 + (1 : Int32)) cdee cnow cahe told h ad _ _ ho hP hD hS _ (lv_sub hl [1, 2, 3, 4, 5, 6, 7, 0] rfl)
    · have h := br_1 h c552
      refine lv_aload_n hx hb dL_law_555 rfl (lv_at hl 1 rfl) ?_
      refine lv_iload hx hb dL_law_556 (lv_at hl 9 rfl) ?_
      obtain ⟨r558, w558_cdee, w558_cnow, hc, h⟩ := bd3_some h
      have hPc : va_P D vwCl (wPW T ad (ad 6) (ad 12) rs rm ts tm rdue rtun rsee rbeg psize pclause peff pkin pgri psig psee qsize qclause qeff qkin qgri qsig qsee cdee cnow cahe kdee know kahe fc lf told up lo) _ := my_subP sb_wLW_wPW_0to37 hP
      have hDc := hD.sub [0, 1, 2, 3, 4, 5, 6, 7, 8, 9, 10, 11, 12, 13, 14, 15, 16, 17, 18, 19, 20, 21, 22, 23, 24, 25, 26, 27, 28, 29, 30, 31, 32, 33, 34, 35, 36, 37] nd_LW sb_wLW_wPW_0to37
      have hFc := va_free hD hS hA [0, 1, 2, 3, 4, 5, 6, 7, 8, 9, 10, 11, 12, 13, 14, 15, 16, 17, 18, 19, 20, 21, 22, 23, 24, 25, 26, 27, 28, 29, 30, 31, 32, 33, 34, 35, 36, 37] sb_wLW_wPW_0to37
      refine my_rwi (va_runV (As := [.int x9]) (rest := []) hFix (kX5_undo l D T F ad rs rm ts tm rdue rtun rsee rbeg psize pclause peff pkin pgri psig psee qsize qclause qeff qkin qgri qsig qsee cdee cnow cahe kdee know kahe fc lf told up lo x9 r558 w558_cdee w558_cnow hc _) (cwV 1 hts gL_law_X5_undo rfl rfl rfl ⟨rfl, hd_X5_undo⟩ ⟨Nat.le_of_ble_eq_true rfl, Nat.le_of_ble_eq_true rfl⟩) (preV_rw hPc hKK hDc (va_recv hK hP (ci := 3) (q0 := 0) rfl wLW_0)) rfl rfl hl.1 rfl (lv_room (Nat.le_of_ble_eq_true rfl)) dL_law_558 ⟨Nat.le_of_ble_eq_true rfl, Nat.le_of_ble_eq_true rfl⟩) hS hFc (fun H1 locs hP1 hD1 hz1 hkk hS => ?_)
      obtain ⟨hP, hD⟩ := my_joinS hP hD nd_LW sb_wLW_wPW_0to37 (by rfl) hkk hFc hP1 hD1
      rw [st_LW] at hP hD
      generalize H1 = H at hP hS ⊢
      refine lv_iconst (v := (1 : Int32)) hx hb dL_law_561 (by decide) ?_
      refine lv_icmp_ne (tgt := 596) hx hb dL_law_562 (by decide) (fun c562 => ?_) (fun c562 => ?_)
      · have h := br_0 h c562
        refine lv_iconst (v := (0 : Int32)) hx hb dL_law_596 (by decide) ?_
        exact absurd (Option.some.inj h) (by decide)
      · have h := br_1 h c562
        refine lv_aload_n hx hb dL_law_565 rfl (lv_at hl 1 rfl) ?_
        refine lv_iconst (v := (3 : Int32)) hx hb dL_law_566 (by decide) ?_
        obtain ⟨r567, hc, h⟩ := bd1_some h
        have hPc : va_P D vwCl (wPW T ad (ad 6) (ad 12) rs rm ts tm rdue rtun rsee rbeg psize pclause peff pkin pgri psig psee qsize qclause qeff qkin qgri qsig qsee w558_cdee w558_cnow cahe kdee know kahe fc lf told up lo) _ := my_subP sb_wLW_wPW_0to37 hP
        refine my_roi (va_Run.run (va_runV (As := [.int (3 : Int32)]) (rest := []) hFix (kX5_count l D T F ad rs rm ts tm rdue rtun rsee rbeg psize pclause peff pkin pgri psig psee qsize qclause qeff qkin qgri qsig qsee w558_cdee w558_cnow cahe kdee know kahe fc lf told up lo (3 : Int32) r567 hc) (cwV 1 hts gL_law_X5_count rfl rfl rfl ⟨rfl, hd_X5_count⟩ ⟨Nat.le_of_ble_eq_true rfl, Nat.le_of_ble_eq_true rfl⟩) (preV_ro hPc hKK (va_recv hK hP (ci := 3) (q0 := 0) rfl wLW_0)) rfl rfl hl.1 rfl (lv_room (Nat.le_of_ble_eq_true rfl)) dL_law_567 ⟨Nat.le_of_ble_eq_true rfl, Nat.le_of_ble_eq_true rfl⟩)) ?_
        refine lv_iload hx hb dL_law_570 (lv_at hl 10 rfl) ?_
        refine lv_icmp_ne (tgt := 596) hx hb dL_law_572 (by decide) (fun c572 => ?_) (fun c572 => ?_)
        · have h := br_0 h c572
          refine lv_iconst (v := (0 : Int32)) hx hb dL_law_596 (by decide) ?_
          exact absurd (Option.some.inj h) (by decide)
        · have h := br_1 h c572
          refine lv_aload_n hx hb dL_law_575 rfl (lv_at hl 1 rfl) ?_
          refine lv_iconst (v := (4 : Int32)) hx hb dL_law_576 (by decide) ?_
          obtain ⟨r577, hc, h⟩ := bd1_some h
          have hPc : va_P D vwCl (wPW T ad (ad 6) (ad 12) rs rm ts tm rdue rtun rsee rbeg psize pclause peff pkin pgri psig psee qsize qclause qeff qkin qgri qsig qsee w558_cdee w558_cnow cahe kdee know kahe fc lf told up lo) _ := my_subP sb_wLW_wPW_0to37 hP
          refine my_roi (va_Run.run (va_runV (As := [.int (4 : Int32)]) (rest := []) hFix (kX5_count l D T F ad rs rm ts tm rdue rtun rsee rbeg psize pclause peff pkin pgri psig psee qsize qclause qeff qkin qgri qsig qsee w558_cdee w558_cnow cahe kdee know kahe fc lf told up lo (4 : Int32) r577 hc) (cwV 1 hts gL_law_X5_count rfl rfl rfl ⟨rfl, hd_X5_count⟩ ⟨Nat.le_of_ble_eq_true rfl, Nat.le_of_ble_eq_true rfl⟩) (preV_ro hPc hKK (va_recv hK hP (ci := 3) (q0 := 0) rfl wLW_0)) rfl rfl hl.1 rfl (lv_room (Nat.le_of_ble_eq_true rfl)) dL_law_577 ⟨Nat.le_of_ble_eq_true rfl, Nat.le_of_ble_eq_true rfl⟩)) ?_
          refine lv_iload hx hb dL_law_580 (lv_at hl 11 rfl) ?_
          refine lv_icmp_ne (tgt := 596) hx hb dL_law_582 (by decide) (fun c582 => ?_) (fun c582 => ?_)
          · have h := br_0 h c582
            refine lv_iconst (v := (0 : Int32)) hx hb dL_law_596 (by decide) ?_
            exact absurd (Option.some.inj h) (by decide)
          · have h := br_1 h c582
            refine lv_aload_n hx hb dL_law_585 rfl (lv_at hl 1 rfl) ?_
            refine lv_iload hx hb dL_law_586 (lv_at hl 4 rfl) ?_
            obtain ⟨r588, w588_told, hc, h⟩ := bd2_some h
            have hPc : va_P D vwCl (wPW T ad (ad 6) (ad 12) rs rm ts tm rdue rtun rsee rbeg psize pclause peff pkin pgri psig psee qsize qclause qeff qkin qgri qsig qsee w558_cdee w558_cnow cahe kdee know kahe fc lf told up lo) _ := my_subP sb_wLW_wPW_0to37 hP
            have hDc := hD.sub [0, 1, 2, 3, 4, 5, 6, 7, 8, 9, 10, 11, 12, 13, 14, 15, 16, 17, 18, 19, 20, 21, 22, 23, 24, 25, 26, 27, 28, 29, 30, 31, 32, 33, 34, 35, 36, 37] nd_LW sb_wLW_wPW_0to37
            have hFc := va_free hD hS hA [0, 1, 2, 3, 4, 5, 6, 7, 8, 9, 10, 11, 12, 13, 14, 15, 16, 17, 18, 19, 20, 21, 22, 23, 24, 25, 26, 27, 28, 29, 30, 31, 32, 33, 34, 35, 36, 37] sb_wLW_wPW_0to37
            refine my_rwi (va_runS (As := [.ref (ad 0), .int x4]) (rest := []) hFix (kL_outs l D T F ad rs rm ts tm rdue rtun rsee rbeg psize pclause peff pkin pgri psig psee qsize qclause qeff qkin qgri qsig qsee w558_cdee w558_cnow cahe kdee know kahe fc lf told up lo x4 r588 w588_told hc _) (va_cwS 2 hts gL_law_L_outs rfl rfl rfl hd_L_outs ⟨Nat.le_of_ble_eq_true rfl, Nat.le_of_ble_eq_true rfl⟩) (preS_rw hPc hKK hDc) rfl rfl hl.1 rfl (lv_room (Nat.le_of_ble_eq_true rfl)) dL_law_588 ⟨Nat.le_of_ble_eq_true rfl, Nat.le_of_ble_eq_true rfl⟩) hS hFc (fun H1 locs hP1 hD1 hz1 hkk hS => ?_)
            obtain ⟨hP, hD⟩ := my_joinS hP hD nd_LW sb_wLW_wPW_0to37 (by rfl) hkk hFc hP1 hD1
            rw [st_LW] at hP hD
            generalize H1 = H at hP hS ⊢
            refine lv_iload hx hb dL_law_591 (lv_at hl 12 rfl) ?_
            refine lv_icmp_eq (tgt := 598) hx hb dL_law_593 (by decide) (fun c593 => ?_) (fun c593 => ?_)
            · have h := br_1 h c593
              refine lv_iinc (v := (x7 + (1 : Int32))) (lv' := [(7, .int (x7 + (1 : Int32))), (0, .ref b), (1, .ref (ad 0)), (2, .ref za), (3, .ref ta), (4, .int x4), (5, .int x5), (6, .int x6), (8, .int x8), (9, .int x9), (10, .int x10), (11, .int x11), (14, .int x14), (17, .int x17)]) hx hb dL_law_598 hl (k := 7) rfl rfl (by decide) rfl (fun ls hl => ?_)
              refine lv_goto (tgt := 69) hx hb dL_law_601 (by decide) ?_
              exact ih69 (x7 + (1 : Int32)) w558_cdee w558_cnow cahe w588_told h ad _ _ ho hP hD hS _ (lv_sub hl [1, 2, 3, 4, 5, 6, 7, 0] rfl)
            · have h := br_0 h c593
              refine lv_iconst (v := (0 : Int32)) hx hb dL_law_596 (by decide) ?_
              exact absurd (Option.some.inj h) (by decide)
set_option maxHeartbeats 4000000 in
set_option maxRecDepth 100000 in
theorem LN_law_n516 {p : Program} {l : Launch} {e : Env} {s : State} {m : MethodId} {args : Array Value} {below : List Frame} {meth : Method} {c : Code} {Q : State → Prop} {D : va_G} {T : Nat → ClassId} {b L : Nat} {xs : Nat → Int32} {A : Nat → Prop} {o0 za ta : Nat} (F : Nat) (s69 : Int32 → Int32 → Int64 → (Nat → Int64) → Int32 → Option (Int32)) (s_0 : Int32) (s_1 : Int32) (s_2 : Int32) (x4 : Int32) (x5 : Int32) (x6 : Int32) (x7 : Int32) (x8 : Int32) (x9 : Int32) (x10 : Int32) (x11 : Int32) (x14 : Int32) (x17 : Int32) (x19 : Int32) (rs : Nat → Int32) (rm : Nat → Nat → Int32) (ts : Nat → Int32) (tm : Nat → Nat → Int32) (rdue : Int32) (rtun : Int32) (rsee : Int32) (rbeg : Int32) (psize : Int32) (pclause : Int32) (peff : Nat → Int32) (pkin : Nat → Int32) (pgri : Nat → Int32) (psig : Nat → Int32) (psee : Nat → Int32) (qsize : Int32) (qclause : Int32) (qeff : Nat → Int32) (qkin : Nat → Int32) (qgri : Nat → Int32) (qsig : Nat → Int32) (qsee : Nat → Int32) (cdee : Int32) (cnow : Int64) (cahe : Nat → Int64) (kdee : Nat → Int32) (know : Nat → Int64) (kahe : Nat → Nat → Int64) (fc : Nat → Int32) (lf : Int32) (told : Int32) (up : Int64) (lo : Int64) (zz : Nat → Int32) (tt : Nat → Int32) (C0 : SC_law p s m args c D T b L xs A) (hret : HR_law p l e s m args below meth c Q A) (ih69 : ∀ x7 : Int32, ∀ cdee : Int32, ∀ cnow : Int64, ∀ cahe : Nat → Int64, ∀ told : Int32, s69 x7 cdee cnow cahe told = some (1 : Int32) → ∀ (ad : Nat → Nat) (H : Heap) (locs : List Loc), ad 0 = o0 → va_P D vwCl (wLW T ad (ad 6) (ad 12) za ta rs rm ts tm rdue rtun rsee rbeg psize pclause peff pkin pgri psig psee qsize qclause qeff qkin qgri qsig qsee cdee cnow cahe kdee know kahe fc lf told up lo zz tt) H → va_D A (wLW T ad (ad 6) (ad 12) za ta rs rm ts tm rdue rtun rsee rbeg psize pclause peff pkin pgri psig psee qsize qclause qeff qkin qgri qsig qsee cdee cnow cahe kdee know kahe fc lf told up lo zz tt) → va_S A s.heap H locs → ∀ (ls : Array Slot), lv_has ls 31 [(0, .ref b), (1, .ref (ad 0)), (2, .ref za), (3, .ref ta), (4, .int x4), (5, .int x5), (6, .int x6), (7, .int x7)] → W p l e room_1 s m args below meth c H locs 40 874 Q (F0 m 69 ls [])) (h : fL_law_n516 F s69 L xs s_0 s_1 s_2 x4 x5 x6 x7 x8 x9 x10 x11 x14 x17 x19 rs rm ts tm rdue rtun rsee rbeg psize pclause peff pkin pgri psig psee qsize qclause qeff qkin qgri qsig qsee cdee cnow cahe kdee know kahe fc lf told up lo zz tt = some (1 : Int32)) : ∀ (ad : Nat → Nat) (H : Heap) (locs : List Loc), ad 0 = o0 → va_P D vwCl (wLW T ad (ad 6) (ad 12) za ta rs rm ts tm rdue rtun rsee rbeg psize pclause peff pkin pgri psig psee qsize qclause qeff qkin qgri qsig qsee cdee cnow cahe kdee know kahe fc lf told up lo zz tt) H → va_D A (wLW T ad (ad 6) (ad 12) za ta rs rm ts tm rdue rtun rsee rbeg psize pclause peff pkin pgri psig psee qsize qclause qeff qkin qgri qsig qsee cdee cnow cahe kdee know kahe fc lf told up lo zz tt) → va_S A s.heap H locs → ∀ (ls : Array Slot), lv_has ls 31 [(0, .ref b), (1, .ref (ad 0)), (2, .ref za), (3, .ref ta), (4, .int x4), (5, .int x5), (6, .int x6), (7, .int x7), (8, .int x8), (9, .int x9), (10, .int x10), (11, .int x11), (14, .int x14), (17, .int x17), (19, .int x19)] → W p l e room_1 s m args below meth c H locs 40 874 Q (F0 m 516 ls [.int s_2, .int s_1, .int s_0]) := by
  intro ad H locs ho hP hD hS ls hl
  obtain ⟨hFix, hKK, hA, hX, hbl, hbA⟩ := id C0
  obtain ⟨hx, hb, hml, hown, hts⟩ := id hFix
  have hK := hKK.1
  unfold fL_law_n516 at h
  refine lv_iadd hx hb dL_law_516 ?_
  refine lv_icmp_ne (tgt := 536) hx hb dL_law_517 (by decide) (fun c517 => ?_) (fun c517 => ?_)
  · have h := br_0 h c517
    refine lv_iconst (v := (0 : Int32)) hx hb dL_law_536 (by decide) ?_
    exact absurd (Option.some.inj h) (by decide)
  · have h := br_1 h c517
    refine lv_aload_n hx hb dL_law_520 rfl (lv_at hl 1 rfl) ?_
    refine lv_iconst (v := (3 : Int32)) hx hb dL_law_521 (by decide) ?_
    obtain ⟨r522, hc, h⟩ := bd1_some h
    have hPc : va_P D vwCl (wPW T ad (ad 6) (ad 12) rs rm ts tm rdue rtun rsee rbeg psize pclause peff pkin pgri psig psee qsize qclause qeff qkin qgri qsig qsee cdee cnow cahe kdee know kahe fc lf told up lo) _ := my_subP sb_wLW_wPW_0to37 hP
    refine my_roi (va_Run.run (va_runV (As := [.int (3 : Int32)]) (rest := []) hFix (kX5_count l D T F ad rs rm ts tm rdue rtun rsee rbeg psize pclause peff pkin pgri psig psee qsize qclause qeff qkin qgri qsig qsee cdee cnow cahe kdee know kahe fc lf told up lo (3 : Int32) r522 hc) (cwV 1 hts gL_law_X5_count rfl rfl rfl ⟨rfl, hd_X5_count⟩ ⟨Nat.le_of_ble_eq_true rfl, Nat.le_of_ble_eq_true rfl⟩) (preV_ro hPc hKK (va_recv hK hP (ci := 3) (q0 := 0) rfl wLW_0)) rfl rfl hl.1 rfl (lv_room (Nat.le_of_ble_eq_true rfl)) dL_law_522 ⟨Nat.le_of_ble_eq_true rfl, Nat.le_of_ble_eq_true rfl⟩)) ?_
    refine lv_iload hx hb dL_law_525 (lv_at hl 4 rfl) ?_
    refine lv_iload hx hb dL_law_527 (lv_at hl 14 rfl) ?_
    obtain ⟨r529, hc, h⟩ := bd1_some h
    refine my_roi (va_Run.run (va_runS (As := [.int x19]) (rest := [.int x4, .int r522]) hFix (kL_many l D T F x19 r529 hc) (va_cwS 1 hts gL_law_L_many rfl rfl rfl hd_L_many ⟨Nat.le_of_ble_eq_true rfl, Nat.le_of_ble_eq_true rfl⟩) (preS_ro va_nil hKK) rfl rfl hl.1 rfl (lv_room (Nat.le_of_ble_eq_true rfl)) dL_law_529 ⟨Nat.le_of_ble_eq_true rfl, Nat.le_of_ble_eq_true rfl⟩)) ?_
    refine lv_isub hx hb dL_law_532 ?_
    refine lv_icmp_eq (tgt := 538) hx hb dL_law_533 (by decide) (fun c533 => ?_) (fun c533 => ?_)
    · have h := br_1 h c533
      exact LN_law_n538 F s69 x4 x5 x6 x7 x8 x9 x10 x11 x14 x17 rs rm ts tm rdue rtun rsee rbeg psize pclause peff pkin pgri psig psee qsize qclause qeff qkin qgri qsig qsee cdee cnow cahe kdee know kahe fc lf told up lo zz tt C0 hret ih69 h ad _ _ ho hP hD hS _ (lv_sub hl [0, 1, 2, 3, 4, 5, 6, 7, 8, 9, 10, 11, 12, 13] rfl)
    · have h := br_0 h c533
      refine lv_iconst (v := (0 : Int32)) hx hb dL_law_536 (by decide) ?_
      exact absurd (Option.some.inj h) (by decide)
set_option maxHeartbeats 4000000 in
set_option maxRecDepth 100000 in
theorem LN_law_n499 {p : Program} {l : Launch} {e : Env} {s : State} {m : MethodId} {args : Array Value} {below : List Frame} {meth : Method} {c : Code} {Q : State → Prop} {D : va_G} {T : Nat → ClassId} {b L : Nat} {xs : Nat → Int32} {A : Nat → Prop} {o0 za ta : Nat} (F : Nat) (s69 : Int32 → Int32 → Int64 → (Nat → Int64) → Int32 → Option (Int32)) (x4 : Int32) (x5 : Int32) (x6 : Int32) (x7 : Int32) (x8 : Int32) (x9 : Int32) (x10 : Int32) (x11 : Int32) (x14 : Int32) (x17 : Int32) (x19 : Int32) (rs : Nat → Int32) (rm : Nat → Nat → Int32) (ts : Nat → Int32) (tm : Nat → Nat → Int32) (rdue : Int32) (rtun : Int32) (rsee : Int32) (rbeg : Int32) (psize : Int32) (pclause : Int32) (peff : Nat → Int32) (pkin : Nat → Int32) (pgri : Nat → Int32) (psig : Nat → Int32) (psee : Nat → Int32) (qsize : Int32) (qclause : Int32) (qeff : Nat → Int32) (qkin : Nat → Int32) (qgri : Nat → Int32) (qsig : Nat → Int32) (qsee : Nat → Int32) (cdee : Int32) (cnow : Int64) (cahe : Nat → Int64) (kdee : Nat → Int32) (know : Nat → Int64) (kahe : Nat → Nat → Int64) (fc : Nat → Int32) (lf : Int32) (told : Int32) (up : Int64) (lo : Int64) (zz : Nat → Int32) (tt : Nat → Int32) (C0 : SC_law p s m args c D T b L xs A) (hret : HR_law p l e s m args below meth c Q A) (ih69 : ∀ x7 : Int32, ∀ cdee : Int32, ∀ cnow : Int64, ∀ cahe : Nat → Int64, ∀ told : Int32, s69 x7 cdee cnow cahe told = some (1 : Int32) → ∀ (ad : Nat → Nat) (H : Heap) (locs : List Loc), ad 0 = o0 → va_P D vwCl (wLW T ad (ad 6) (ad 12) za ta rs rm ts tm rdue rtun rsee rbeg psize pclause peff pkin pgri psig psee qsize qclause qeff qkin qgri qsig qsee cdee cnow cahe kdee know kahe fc lf told up lo zz tt) H → va_D A (wLW T ad (ad 6) (ad 12) za ta rs rm ts tm rdue rtun rsee rbeg psize pclause peff pkin pgri psig psee qsize qclause qeff qkin qgri qsig qsee cdee cnow cahe kdee know kahe fc lf told up lo zz tt) → va_S A s.heap H locs → ∀ (ls : Array Slot), lv_has ls 31 [(0, .ref b), (1, .ref (ad 0)), (2, .ref za), (3, .ref ta), (4, .int x4), (5, .int x5), (6, .int x6), (7, .int x7)] → W p l e room_1 s m args below meth c H locs 40 874 Q (F0 m 69 ls [])) (h : fL_law_n499 F s69 L xs x4 x5 x6 x7 x8 x9 x10 x11 x14 x17 x19 rs rm ts tm rdue rtun rsee rbeg psize pclause peff pkin pgri psig psee qsize qclause qeff qkin qgri qsig qsee cdee cnow cahe kdee know kahe fc lf told up lo zz tt = some (1 : Int32)) : ∀ (ad : Nat → Nat) (H : Heap) (locs : List Loc), ad 0 = o0 → va_P D vwCl (wLW T ad (ad 6) (ad 12) za ta rs rm ts tm rdue rtun rsee rbeg psize pclause peff pkin pgri psig psee qsize qclause qeff qkin qgri qsig qsee cdee cnow cahe kdee know kahe fc lf told up lo zz tt) H → va_D A (wLW T ad (ad 6) (ad 12) za ta rs rm ts tm rdue rtun rsee rbeg psize pclause peff pkin pgri psig psee qsize qclause qeff qkin qgri qsig qsee cdee cnow cahe kdee know kahe fc lf told up lo zz tt) → va_S A s.heap H locs → ∀ (ls : Array Slot), lv_has ls 31 [(0, .ref b), (1, .ref (ad 0)), (2, .ref za), (3, .ref ta), (4, .int x4), (5, .int x5), (6, .int x6), (7, .int x7), (8, .int x8), (9, .int x9), (10, .int x10), (11, .int x11), (14, .int x14), (17, .int x17), (19, .int x19)] → W p l e room_1 s m args below meth c H locs 40 874 Q (F0 m 499 ls []) := by
  intro ad H locs ho hP hD hS ls hl
  obtain ⟨hFix, hKK, hA, hX, hbl, hbA⟩ := id C0
  obtain ⟨hx, hb, hml, hown, hts⟩ := id hFix
  have hK := hKK.1
  unfold fL_law_n499 at h
  refine lv_aload_n hx hb dL_law_499 rfl (lv_at hl 1 rfl) ?_
  refine lv_iconst (v := (2 : Int32)) hx hb dL_law_500 (by decide) ?_
  obtain ⟨r501, hc, h⟩ := bd1_some h
  have hPc : va_P D vwCl (wPW T ad (ad 6) (ad 12) rs rm ts tm rdue rtun rsee rbeg psize pclause peff pkin pgri psig psee qsize qclause qeff qkin qgri qsig qsee cdee cnow cahe kdee know kahe fc lf told up lo) _ := my_subP sb_wLW_wPW_0to37 hP
  refine my_roi (va_Run.run (va_runV (As := [.int (2 : Int32)]) (rest := []) hFix (kX5_count l D T F ad rs rm ts tm rdue rtun rsee rbeg psize pclause peff pkin pgri psig psee qsize qclause qeff qkin qgri qsig qsee cdee cnow cahe kdee know kahe fc lf told up lo (2 : Int32) r501 hc) (cwV 1 hts gL_law_X5_count rfl rfl rfl ⟨rfl, hd_X5_count⟩ ⟨Nat.le_of_ble_eq_true rfl, Nat.le_of_ble_eq_true rfl⟩) (preV_ro hPc hKK (va_recv hK hP (ci := 3) (q0 := 0) rfl wLW_0)) rfl rfl hl.1 rfl (lv_room (Nat.le_of_ble_eq_true rfl)) dL_law_501 ⟨Nat.le_of_ble_eq_true rfl, Nat.le_of_ble_eq_true rfl⟩)) ?_
  refine lv_iload hx hb dL_law_504 (lv_at hl 9 rfl) ?_
  refine lv_iload hx hb dL_law_506 (lv_at hl 13 rfl) ?_
  refine lv_if_ge (tgt := 515) hx hb dL_law_508 (by decide) (fun c508 => ?_) (fun c508 => ?_)
  · have h := br_1 h c508
    refine lv_iconst (v := (1 : Int32)) hx hb dL_law_515 (by decide) ?_
    exact LN_law_n516 F s69 r501 x9 (1 : Int32) x4 x5 x6 x7 x8 x9 x10 x11 x14 x17 x19 rs rm ts tm rdue rtun rsee rbeg psize pclause peff pkin pgri psig psee qsize qclause qeff qkin qgri qsig qsee cdee cnow cahe kdee know kahe fc lf told up lo zz tt C0 hret ih69 h ad _ _ ho hP hD hS _ (lv_sub hl [0, 1, 2, 3, 4, 5, 6, 7, 8, 9, 10, 11, 12, 13, 14] rfl)
  · have h := br_0 h c508
    refine lv_iconst (v := (0 : Int32)) hx hb dL_law_511 (by decide) ?_
    refine lv_goto (tgt := 516) hx hb dL_law_512 (by decide) ?_
    exact LN_law_n516 F s69 r501 x9 (0 : Int32) x4 x5 x6 x7 x8 x9 x10 x11 x14 x17 x19 rs rm ts tm rdue rtun rsee rbeg psize pclause peff pkin pgri psig psee qsize qclause qeff qkin qgri qsig qsee cdee cnow cahe kdee know kahe fc lf told up lo zz tt C0 hret ih69 h ad _ _ ho hP hD hS _ (lv_sub hl [0, 1, 2, 3, 4, 5, 6, 7, 8, 9, 10, 11, 12, 13, 14] rfl)
set_option maxHeartbeats 4000000 in
set_option maxRecDepth 100000 in
theorem LN_law_l428 {p : Program} {l : Launch} {e : Env} {s : State} {m : MethodId} {args : Array Value} {below : List Frame} {meth : Method} {c : Code} {Q : State → Prop} {D : va_G} {T : Nat → ClassId} {b L : Nat} {xs : Nat → Int32} {A : Nat → Prop} {o0 za ta : Nat} (F : Nat) (s69 : Int32 → Int32 → Int64 → (Nat → Int64) → Int32 → Option (Int32)) (x4 : Int32) (x5 : Int32) (x6 : Int32) (x7 : Int32) (x8 : Int32) (x9 : Int32) (x10 : Int32) (x11 : Int32) (x14 : Int32) (x17 : Int32) (x19 : Int32) (rs : Nat → Int32) (rm : Nat → Nat → Int32) (ts : Nat → Int32) (tm : Nat → Nat → Int32) (rdue : Int32) (rtun : Int32) (rsee : Int32) (rbeg : Int32) (psize : Int32) (pclause : Int32) (peff : Nat → Int32) (pkin : Nat → Int32) (pgri : Nat → Int32) (psig : Nat → Int32) (psee : Nat → Int32) (qsize : Int32) (qclause : Int32) (qeff : Nat → Int32) (qkin : Nat → Int32) (qgri : Nat → Int32) (qsig : Nat → Int32) (qsee : Nat → Int32) (cdee : Int32) (cnow : Int64) (cahe : Nat → Int64) (kdee : Nat → Int32) (know : Nat → Int64) (kahe : Nat → Nat → Int64) (fc : Nat → Int32) (lf : Int32) (up : Int64) (lo : Int64) (zz : Nat → Int32) (tt : Nat → Int32) (C0 : SC_law p s m args c D T b L xs A) (hret : HR_law p l e s m args below meth c Q A) (ih69 : ∀ x7 : Int32, ∀ cdee : Int32, ∀ cnow : Int64, ∀ cahe : Nat → Int64, ∀ told : Int32, s69 x7 cdee cnow cahe told = some (1 : Int32) → ∀ (ad : Nat → Nat) (H : Heap) (locs : List Loc), ad 0 = o0 → va_P D vwCl (wLW T ad (ad 6) (ad 12) za ta rs rm ts tm rdue rtun rsee rbeg psize pclause peff pkin pgri psig psee qsize qclause qeff qkin qgri qsig qsee cdee cnow cahe kdee know kahe fc lf told up lo zz tt) H → va_D A (wLW T ad (ad 6) (ad 12) za ta rs rm ts tm rdue rtun rsee rbeg psize pclause peff pkin pgri psig psee qsize qclause qeff qkin qgri qsig qsee cdee cnow cahe kdee know kahe fc lf told up lo zz tt) → va_S A s.heap H locs → ∀ (ls : Array Slot), lv_has ls 31 [(0, .ref b), (1, .ref (ad 0)), (2, .ref za), (3, .ref ta), (4, .int x4), (5, .int x5), (6, .int x6), (7, .int x7)] → W p l e room_1 s m args below meth c H locs 40 874 Q (F0 m 69 ls [])) : ∀ (nu : Nat) (x20 : Int32) (told : Int32), fL_law_l428 F s69 L xs x4 x5 x6 x7 x8 x9 x10 x11 x14 x17 x19 rs rm ts tm rdue rtun rsee rbeg psize pclause peff pkin pgri psig psee qsize qclause qeff qkin qgri qsig qsee cdee cnow cahe kdee know kahe fc lf up lo zz tt nu x20 told = some (1 : Int32) → ∀ (ad : Nat → Nat) (H : Heap) (locs : List Loc), ad 0 = o0 → va_P D vwCl (wLW T ad (ad 6) (ad 12) za ta rs rm ts tm rdue rtun rsee rbeg psize pclause peff pkin pgri psig psee qsize qclause qeff qkin qgri qsig qsee cdee cnow cahe kdee know kahe fc lf told up lo zz tt) H → va_D A (wLW T ad (ad 6) (ad 12) za ta rs rm ts tm rdue rtun rsee rbeg psize pclause peff pkin pgri psig psee qsize qclause qeff qkin qgri qsig qsee cdee cnow cahe kdee know kahe fc lf told up lo zz tt) → va_S A s.heap H locs → ∀ (ls : Array Slot), lv_has ls 31 [(0, .ref b), (1, .ref (ad 0)), (2, .ref za), (3, .ref ta), (4, .int x4), (5, .int x5), (6, .int x6), (7, .int x7), (8, .int x8), (9, .int x9), (10, .int x10), (11, .int x11), (14, .int x14), (17, .int x17), (19, .int x19), (20, .int x20)] → W p l e room_1 s m args below meth c H locs 40 874 Q (F0 m 428 ls []) := by
  intro nu
  induction nu with
  | zero => intro x20 told h; exact none_some h
  | succ nu ih428 =>
    intro x20 told h ad H locs ho hP hD hS ls hl
    obtain ⟨hFix, hKK, hA, hX, hbl, hbA⟩ := id C0
    obtain ⟨hx, hb, hml, hown, hts⟩ := id hFix
    have hK := hKK.1
    have h : fL_law_l428_b F s69 L xs x4 x5 x6 x7 x8 x9 x10 x11 x14 x17 x19 rs rm ts tm rdue rtun rsee rbeg psize pclause peff pkin pgri psig psee qsize qclause qeff qkin qgri qsig qsee cdee cnow cahe kdee know kahe fc lf up lo zz tt (fL_law_l428 F s69 L xs x4 x5 x6 x7 x8 x9 x10 x11 x14 x17 x19 rs rm ts tm rdue rtun rsee rbeg psize pclause peff pkin pgri psig psee qsize qclause qeff qkin qgri qsig qsee cdee cnow cahe kdee know kahe fc lf up lo zz tt nu) x20 told = some (1 : Int32) := h
    unfold fL_law_l428_b at h
    refine lv_iload hx hb dL_law_428 (lv_at hl 15 rfl) ?_
    refine lv_iload hx hb dL_law_430 (lv_at hl 4 rfl) ?_
    refine lv_icmp_ge (tgt := 499) hx hb dL_law_432 (by decide) (fun c432 => ?_) (fun c432 => ?_)
    · have h := br_1 h c432
      exact LN_law_n499 F s69 x4 x5 x6 x7 x8 x9 x10 x11 x14 x17 x19 rs rm ts tm rdue rtun rsee rbeg psize pclause peff pkin pgri psig psee qsize qclause qeff qkin qgri qsig qsee cdee cnow cahe kdee know kahe fc lf told up lo zz tt C0 hret ih69 h ad _ _ ho hP hD hS _ (lv_sub hl [0, 1, 2, 3, 4, 5, 6, 7, 8, 9, 10, 11, 12, 13, 14] rfl)
    · have h := br_0 h c432
      refine lv_aload_n hx hb dL_law_435 rfl (lv_at hl 1 rfl) ?_
      refine lv_iload hx hb dL_law_436 (lv_at hl 15 rfl) ?_
      refine lv_iconst (v := (1 : Int32)) hx hb dL_law_438 (by decide) ?_
      obtain ⟨r439, w439_told, hc, h⟩ := bd2_some h
      have hPc : va_P D vwCl (wPW T ad (ad 6) (ad 12) rs rm ts tm rdue rtun rsee rbeg psize pclause peff pkin pgri psig psee qsize qclause qeff qkin qgri qsig qsee cdee cnow cahe kdee know kahe fc lf told up lo) _ := my_subP sb_wLW_wPW_0to37 hP
      have hDc := hD.sub [0, 1, 2, 3, 4, 5, 6, 7, 8, 9, 10, 11, 12, 13, 14, 15, 16, 17, 18, 19, 20, 21, 22, 23, 24, 25, 26, 27, 28, 29, 30, 31, 32, 33, 34, 35, 36, 37] nd_LW sb_wLW_wPW_0to37
      have hFc := va_free hD hS hA [0, 1, 2, 3, 4, 5, 6, 7, 8, 9, 10, 11, 12, 13, 14, 15, 16, 17, 18, 19, 20, 21, 22, 23, 24, 25, 26, 27, 28, 29, 30, 31, 32, 33, 34, 35, 36, 37] sb_wLW_wPW_0to37
      refine my_rwi (va_runV (As := [.int x20, .int (1 : Int32)]) (rest := []) hFix (kX5_guest l D T F ad rs rm ts tm rdue rtun rsee rbeg psize pclause peff pkin pgri psig psee qsize qclause qeff qkin qgri qsig qsee cdee cnow cahe kdee know kahe fc lf told up lo x20 (1 : Int32) r439 w439_told hc _) (cwV 2 hts gL_law_X5_guest rfl rfl rfl ⟨rfl, hd_X5_guest⟩ ⟨Nat.le_of_ble_eq_true rfl, Nat.le_of_ble_eq_true rfl⟩) (preV_rw hPc hKK hDc (va_recv hK hP (ci := 3) (q0 := 0) rfl wLW_0)) rfl rfl hl.1 rfl (lv_room (Nat.le_of_ble_eq_true rfl)) dL_law_439 ⟨Nat.le_of_ble_eq_true rfl, Nat.le_of_ble_eq_true rfl⟩) hS hFc (fun H1 locs hP1 hD1 hz1 hkk hS => ?_)
      obtain ⟨hP, hD⟩ := my_joinS hP hD nd_LW sb_wLW_wPW_0to37 (by rfl) hkk hFc hP1 hD1
      rw [st_LW] at hP hD
      generalize H1 = H at hP hS ⊢
      refine lv_iconst (v := (1 : Int32)) hx hb dL_law_442 (by decide) ?_
      refine lv_icmp_ne (tgt := 491) hx hb dL_law_443 (by decide) (fun c443 => ?_) (fun c443 => ?_)
      · have h := br_0 h c443
        refine lv_iconst (v := (0 : Int32)) hx hb dL_law_491 (by decide) ?_
        exact absurd (Option.some.inj h) (by decide)
      · have h := br_1 h c443
        refine lv_aload_n hx hb dL_law_446 rfl (lv_at hl 1 rfl) ?_
        obtain ⟨r447, hc, h⟩ := bd1_some h
        have hPc : va_P D vwCl (wPW T ad (ad 6) (ad 12) rs rm ts tm rdue rtun rsee rbeg psize pclause peff pkin pgri psig psee qsize qclause qeff qkin qgri qsig qsee cdee cnow cahe kdee know kahe fc lf w439_told up lo) _ := my_subP sb_wLW_wPW_0to37 hP
        refine my_roi (va_Run.run (va_runV (As := []) (rest := []) hFix (kX5_asked l D T F ad rs rm ts tm rdue rtun rsee rbeg psize pclause peff pkin pgri psig psee qsize qclause qeff qkin qgri qsig qsee cdee cnow cahe kdee know kahe fc lf w439_told up lo r447 hc) (cwV 0 hts gL_law_X5_asked rfl rfl rfl ⟨rfl, hd_X5_asked⟩ ⟨Nat.le_of_ble_eq_true rfl, Nat.le_of_ble_eq_true rfl⟩) (preV_ro hPc hKK (va_recv hK hP (ci := 3) (q0 := 0) rfl wLW_0)) rfl rfl hl.1 rfl (lv_room (Nat.le_of_ble_eq_true rfl)) dL_law_447 ⟨Nat.le_of_ble_eq_true rfl, Nat.le_of_ble_eq_true rfl⟩)) ?_
        refine lv_if_lt (tgt := 491) hx hb dL_law_450 (by decide) (fun c450 => ?_) (fun c450 => ?_)
        · have h := br_1 h c450
          refine lv_iconst (v := (0 : Int32)) hx hb dL_law_491 (by decide) ?_
          exact absurd (Option.some.inj h) (by decide)
        · have h := br_0 h c450
          refine lv_aload_n hx hb dL_law_453 rfl (lv_at hl 1 rfl) ?_
          obtain ⟨r454, hc, h⟩ := bd1_some h
          have hPc : va_P D vwCl (wPW T ad (ad 6) (ad 12) rs rm ts tm rdue rtun rsee rbeg psize pclause peff pkin pgri psig psee qsize qclause qeff qkin qgri qsig qsee cdee cnow cahe kdee know kahe fc lf w439_told up lo) _ := my_subP sb_wLW_wPW_0to37 hP
          refine my_roi (va_Run.run (va_runV (As := []) (rest := []) hFix (kX5_asked l D T F ad rs rm ts tm rdue rtun rsee rbeg psize pclause peff pkin pgri psig psee qsize qclause qeff qkin qgri qsig qsee cdee cnow cahe kdee know kahe fc lf w439_told up lo r454 hc) (cwV 0 hts gL_law_X5_asked rfl rfl rfl ⟨rfl, hd_X5_asked⟩ ⟨Nat.le_of_ble_eq_true rfl, Nat.le_of_ble_eq_true rfl⟩) (preV_ro hPc hKK (va_recv hK hP (ci := 3) (q0 := 0) rfl wLW_0)) rfl rfl hl.1 rfl (lv_room (Nat.le_of_ble_eq_true rfl)) dL_law_454 ⟨Nat.le_of_ble_eq_true rfl, Nat.le_of_ble_eq_true rfl⟩)) ?_
          refine lv_bipush (v := (20 : Int32)) hx hb dL_law_457 (by decide) ?_
          refine lv_icmp_gt (tgt := 491) hx hb dL_law_459 (by decide) (fun c459 => ?_) (fun c459 => ?_)
          · have h := br_1 h c459
            refine lv_iconst (v := (0 : Int32)) hx hb dL_law_491 (by decide) ?_
            exact absurd (Option.some.inj h) (by decide)
          · have h := br_0 h c459
            refine lv_iload hx hb dL_law_462 (lv_at hl 14 rfl) ?_
            refine lv_iload hx hb dL_law_464 (lv_at hl 15 rfl) ?_
            refine lv_ishr hx hb dL_law_466 ?_
            refine lv_iconst (v := (1 : Int32)) hx hb dL_law_467 (by decide) ?_
            refine lv_iand hx hb dL_law_468 ?_
            refine lv_iconst (v := (1 : Int32)) hx hb dL_law_469 (by decide) ?_
            refine lv_icmp_ne (tgt := 493) hx hb dL_law_470 (by decide) (fun c470 => ?_) (fun c470 => ?_)
            · have h := br_0 h c470
              refine lv_iinc (v := (x20 + (1 : Int32))) (lv' := [(20, .int (x20 + (1 : Int32))), (0, .ref b), (1, .ref (ad 0)), (2, .ref za), (3, .ref ta), (4, .int x4), (5, .int x5), (6, .int x6), (7, .int x7), (8, .int x8), (9, .int x9), (10, .int x10), (11, .int x11), (14, .int x14), (17, .int x17), (19, .int x19)]) hx hb dL_law_493 hl (k := 15) rfl rfl (by decide) rfl (fun ls hl => ?_)
              refine lv_goto (tgt := 428) hx hb dL_law_496 (by decide) ?_
              exact ih428 (x20 + (1 : Int32)) w439_told h ad _ _ ho hP hD hS _ (lv_sub hl [1, 2, 3, 4, 5, 6, 7, 8, 9, 10, 11, 12, 13, 14, 15, 0] rfl)
            · have h := br_1 h c470
              refine lv_aload_n hx hb dL_law_473 rfl (lv_at hl 1 rfl) ?_
              obtain ⟨r474, hc, h⟩ := bd1_some h
              have hPc : va_P D vwCl (wPW T ad (ad 6) (ad 12) rs rm ts tm rdue rtun rsee rbeg psize pclause peff pkin pgri psig psee qsize qclause qeff qkin qgri qsig qsee cdee cnow cahe kdee know kahe fc lf w439_told up lo) _ := my_subP sb_wLW_wPW_0to37 hP
              refine my_roi (va_Run.run (va_runV (As := []) (rest := []) hFix (kX5_asked l D T F ad rs rm ts tm rdue rtun rsee rbeg psize pclause peff pkin pgri psig psee qsize qclause qeff qkin qgri qsig qsee cdee cnow cahe kdee know kahe fc lf w439_told up lo r474 hc) (cwV 0 hts gL_law_X5_asked rfl rfl rfl ⟨rfl, hd_X5_asked⟩ ⟨Nat.le_of_ble_eq_true rfl, Nat.le_of_ble_eq_true rfl⟩) (preV_ro hPc hKK (va_recv hK hP (ci := 3) (q0 := 0) rfl wLW_0)) rfl rfl hl.1 rfl (lv_room (Nat.le_of_ble_eq_true rfl)) dL_law_474 ⟨Nat.le_of_ble_eq_true rfl, Nat.le_of_ble_eq_true rfl⟩)) ?_
              refine lv_if_ne (tgt := 491) hx hb dL_law_477 (by decide) (fun c477 => ?_) (fun c477 => ?_)
              · have h := br_0 h c477
                refine lv_iconst (v := (0 : Int32)) hx hb dL_law_491 (by decide) ?_
                exact absurd (Option.some.inj h) (by decide)
              · have h := br_1 h c477
                refine lv_aload_n hx hb dL_law_480 rfl (lv_at hl 2 rfl) ?_
                refine lv_bipush (v := (6 : Int32)) hx hb dL_law_481 (by decide) ?_
                refine lv_iload hx hb dL_law_483 (lv_at hl 15 rfl) ?_
                refine lv_iadd hx hb dL_law_485 ?_
                obtain ⟨hin1, h⟩ := ck_some h
                refine va_iald hx hb hK hP 38 0 wLW_38 rfl hin1 dL_law_486 ?_
                refine lv_iconst (v := (5 : Int32)) hx hb dL_law_487 (by decide) ?_
                refine lv_icmp_ne (tgt := 493) hx hb dL_law_488 (by decide) (fun c488 => ?_) (fun c488 => ?_)
                · have h := br_0 h c488
                  refine lv_iinc (v := (x20 + (1 : Int32))) (lv' := [(20, .int (x20 + (1 : Int32))), (0, .ref b), (1, .ref (ad 0)), (2, .ref za), (3, .ref ta), (4, .int x4), (5, .int x5), (6, .int x6), (7, .int x7), (8, .int x8), (9, .int x9), (10, .int x10), (11, .int x11), (14, .int x14), (17, .int x17), (19, .int x19)]) hx hb dL_law_493 hl (k := 15) rfl rfl (by decide) rfl (fun ls hl => ?_)
                  refine lv_goto (tgt := 428) hx hb dL_law_496 (by decide) ?_
                  exact ih428 (x20 + (1 : Int32)) w439_told h ad _ _ ho hP hD hS _ (lv_sub hl [1, 2, 3, 4, 5, 6, 7, 8, 9, 10, 11, 12, 13, 14, 15, 0] rfl)
                · have h := br_1 h c488
                  refine lv_iconst (v := (0 : Int32)) hx hb dL_law_491 (by decide) ?_
                  exact absurd (Option.some.inj h) (by decide)
set_option maxHeartbeats 4000000 in
set_option maxRecDepth 100000 in
theorem LN_law_n425 {p : Program} {l : Launch} {e : Env} {s : State} {m : MethodId} {args : Array Value} {below : List Frame} {meth : Method} {c : Code} {Q : State → Prop} {D : va_G} {T : Nat → ClassId} {b L : Nat} {xs : Nat → Int32} {A : Nat → Prop} {o0 za ta : Nat} (F : Nat) (s69 : Int32 → Int32 → Int64 → (Nat → Int64) → Int32 → Option (Int32)) (x4 : Int32) (x5 : Int32) (x6 : Int32) (x7 : Int32) (x8 : Int32) (x9 : Int32) (x10 : Int32) (x11 : Int32) (x14 : Int32) (x17 : Int32) (x19 : Int32) (rs : Nat → Int32) (rm : Nat → Nat → Int32) (ts : Nat → Int32) (tm : Nat → Nat → Int32) (rdue : Int32) (rtun : Int32) (rsee : Int32) (rbeg : Int32) (psize : Int32) (pclause : Int32) (peff : Nat → Int32) (pkin : Nat → Int32) (pgri : Nat → Int32) (psig : Nat → Int32) (psee : Nat → Int32) (qsize : Int32) (qclause : Int32) (qeff : Nat → Int32) (qkin : Nat → Int32) (qgri : Nat → Int32) (qsig : Nat → Int32) (qsee : Nat → Int32) (cdee : Int32) (cnow : Int64) (cahe : Nat → Int64) (kdee : Nat → Int32) (know : Nat → Int64) (kahe : Nat → Nat → Int64) (fc : Nat → Int32) (lf : Int32) (told : Int32) (up : Int64) (lo : Int64) (zz : Nat → Int32) (tt : Nat → Int32) (C0 : SC_law p s m args c D T b L xs A) (hret : HR_law p l e s m args below meth c Q A) (ih69 : ∀ x7 : Int32, ∀ cdee : Int32, ∀ cnow : Int64, ∀ cahe : Nat → Int64, ∀ told : Int32, s69 x7 cdee cnow cahe told = some (1 : Int32) → ∀ (ad : Nat → Nat) (H : Heap) (locs : List Loc), ad 0 = o0 → va_P D vwCl (wLW T ad (ad 6) (ad 12) za ta rs rm ts tm rdue rtun rsee rbeg psize pclause peff pkin pgri psig psee qsize qclause qeff qkin qgri qsig qsee cdee cnow cahe kdee know kahe fc lf told up lo zz tt) H → va_D A (wLW T ad (ad 6) (ad 12) za ta rs rm ts tm rdue rtun rsee rbeg psize pclause peff pkin pgri psig psee qsize qclause qeff qkin qgri qsig qsee cdee cnow cahe kdee know kahe fc lf told up lo zz tt) → va_S A s.heap H locs → ∀ (ls : Array Slot), lv_has ls 31 [(0, .ref b), (1, .ref (ad 0)), (2, .ref za), (3, .ref ta), (4, .int x4), (5, .int x5), (6, .int x6), (7, .int x7)] → W p l e room_1 s m args below meth c H locs 40 874 Q (F0 m 69 ls [])) (h : fL_law_n425 F s69 L xs x4 x5 x6 x7 x8 x9 x10 x11 x14 x17 x19 rs rm ts tm rdue rtun rsee rbeg psize pclause peff pkin pgri psig psee qsize qclause qeff qkin qgri qsig qsee cdee cnow cahe kdee know kahe fc lf told up lo zz tt = some (1 : Int32)) : ∀ (ad : Nat → Nat) (H : Heap) (locs : List Loc), ad 0 = o0 → va_P D vwCl (wLW T ad (ad 6) (ad 12) za ta rs rm ts tm rdue rtun rsee rbeg psize pclause peff pkin pgri psig psee qsize qclause qeff qkin qgri qsig qsee cdee cnow cahe kdee know kahe fc lf told up lo zz tt) H → va_D A (wLW T ad (ad 6) (ad 12) za ta rs rm ts tm rdue rtun rsee rbeg psize pclause peff pkin pgri psig psee qsize qclause qeff qkin qgri qsig qsee cdee cnow cahe kdee know kahe fc lf told up lo zz tt) → va_S A s.heap H locs → ∀ (ls : Array Slot), lv_has ls 31 [(0, .ref b), (1, .ref (ad 0)), (2, .ref za), (3, .ref ta), (4, .int x4), (5, .int x5), (6, .int x6), (7, .int x7), (8, .int x8), (9, .int x9), (10, .int x10), (11, .int x11), (14, .int x14), (17, .int x17), (19, .int x19)] → W p l e room_1 s m args below meth c H locs 40 874 Q (F0 m 425 ls []) := by
  intro ad H locs ho hP hD hS ls hl
  obtain ⟨hFix, hKK, hA, hX, hbl, hbA⟩ := id C0
  obtain ⟨hx, hb, hml, hown, hts⟩ := id hFix
  have hK := hKK.1
  unfold fL_law_n425 at h
  refine lv_iconst (v := (0 : Int32)) hx hb dL_law_425 (by decide) ?_
  refine lv_istore (lv' := [(20, .int (0 : Int32)), (0, .ref b), (1, .ref (ad 0)), (2, .ref za), (3, .ref ta), (4, .int x4), (5, .int x5), (6, .int x6), (7, .int x7), (8, .int x8), (9, .int x9), (10, .int x10), (11, .int x11), (14, .int x14), (17, .int x17), (19, .int x19)]) hx hb dL_law_426 hl (by decide) rfl (fun ls hl => ?_)
  exact LN_law_l428 F s69 x4 x5 x6 x7 x8 x9 x10 x11 x14 x17 x19 rs rm ts tm rdue rtun rsee rbeg psize pclause peff pkin pgri psig psee qsize qclause qeff qkin qgri qsig qsee cdee cnow cahe kdee know kahe fc lf up lo zz tt C0 hret ih69 F (0 : Int32) told h ad _ _ ho hP hD hS _ (lv_sub hl [1, 2, 3, 4, 5, 6, 7, 8, 9, 10, 11, 12, 13, 14, 15, 0] rfl)
set_option maxHeartbeats 4000000 in
set_option maxRecDepth 100000 in
theorem LN_law_n374 {p : Program} {l : Launch} {e : Env} {s : State} {m : MethodId} {args : Array Value} {below : List Frame} {meth : Method} {c : Code} {Q : State → Prop} {D : va_G} {T : Nat → ClassId} {b L : Nat} {xs : Nat → Int32} {A : Nat → Prop} {o0 za ta : Nat} (F : Nat) (s69 : Int32 → Int32 → Int64 → (Nat → Int64) → Int32 → Option (Int32)) (x4 : Int32) (x5 : Int32) (x6 : Int32) (x7 : Int32) (x8 : Int32) (x9 : Int32) (x10 : Int32) (x11 : Int32) (x14 : Int32) (x15 : Int32) (x17 : Int32) (x18 : Int32) (rs : Nat → Int32) (rm : Nat → Nat → Int32) (ts : Nat → Int32) (tm : Nat → Nat → Int32) (rdue : Int32) (rtun : Int32) (rsee : Int32) (rbeg : Int32) (psize : Int32) (pclause : Int32) (peff : Nat → Int32) (pkin : Nat → Int32) (pgri : Nat → Int32) (psig : Nat → Int32) (psee : Nat → Int32) (qsize : Int32) (qclause : Int32) (qeff : Nat → Int32) (qkin : Nat → Int32) (qgri : Nat → Int32) (qsig : Nat → Int32) (qsee : Nat → Int32) (cdee : Int32) (cnow : Int64) (cahe : Nat → Int64) (kdee : Nat → Int32) (know : Nat → Int64) (kahe : Nat → Nat → Int64) (fc : Nat → Int32) (lf : Int32) (told : Int32) (up : Int64) (lo : Int64) (zz : Nat → Int32) (tt : Nat → Int32) (C0 : SC_law p s m args c D T b L xs A) (hret : HR_law p l e s m args below meth c Q A) (ih69 : ∀ x7 : Int32, ∀ cdee : Int32, ∀ cnow : Int64, ∀ cahe : Nat → Int64, ∀ told : Int32, s69 x7 cdee cnow cahe told = some (1 : Int32) → ∀ (ad : Nat → Nat) (H : Heap) (locs : List Loc), ad 0 = o0 → va_P D vwCl (wLW T ad (ad 6) (ad 12) za ta rs rm ts tm rdue rtun rsee rbeg psize pclause peff pkin pgri psig psee qsize qclause qeff qkin qgri qsig qsee cdee cnow cahe kdee know kahe fc lf told up lo zz tt) H → va_D A (wLW T ad (ad 6) (ad 12) za ta rs rm ts tm rdue rtun rsee rbeg psize pclause peff pkin pgri psig psee qsize qclause qeff qkin qgri qsig qsee cdee cnow cahe kdee know kahe fc lf told up lo zz tt) → va_S A s.heap H locs → ∀ (ls : Array Slot), lv_has ls 31 [(0, .ref b), (1, .ref (ad 0)), (2, .ref za), (3, .ref ta), (4, .int x4), (5, .int x5), (6, .int x6), (7, .int x7)] → W p l e room_1 s m args below meth c H locs 40 874 Q (F0 m 69 ls [])) (h : fL_law_n374 F s69 L xs x4 x5 x6 x7 x8 x9 x10 x11 x14 x15 x17 x18 rs rm ts tm rdue rtun rsee rbeg psize pclause peff pkin pgri psig psee qsize qclause qeff qkin qgri qsig qsee cdee cnow cahe kdee know kahe fc lf told up lo zz tt = some (1 : Int32)) : ∀ (ad : Nat → Nat) (H : Heap) (locs : List Loc), ad 0 = o0 → va_P D vwCl (wLW T ad (ad 6) (ad 12) za ta rs rm ts tm rdue rtun rsee rbeg psize pclause peff pkin pgri psig psee qsize qclause qeff qkin qgri qsig qsee cdee cnow cahe kdee know kahe fc lf told up lo zz tt) H → va_D A (wLW T ad (ad 6) (ad 12) za ta rs rm ts tm rdue rtun rsee rbeg psize pclause peff pkin pgri psig psee qsize qclause qeff qkin qgri qsig qsee cdee cnow cahe kdee know kahe fc lf told up lo zz tt) → va_S A s.heap H locs → ∀ (ls : Array Slot), lv_has ls 31 [(0, .ref b), (1, .ref (ad 0)), (2, .ref za), (3, .ref ta), (4, .int x4), (5, .int x5), (6, .int x6), (7, .int x7), (8, .int x8), (9, .int x9), (10, .int x10), (11, .int x11), (14, .int x14), (15, .int x15), (17, .int x17), (18, .int x18)] → W p l e room_1 s m args below meth c H locs 40 874 Q (F0 m 374 ls []) := by
  intro ad H locs ho hP hD hS ls hl
  obtain ⟨hFix, hKK, hA, hX, hbl, hbA⟩ := id C0
  obtain ⟨hx, hb, hml, hown, hts⟩ := id hFix
  have hK := hKK.1
  unfold fL_law_n374 at h
  refine lv_aload_n hx hb dL_law_374 rfl (lv_at hl 1 rfl) ?_
  refine lv_iload hx hb dL_law_375 (lv_at hl 4 rfl) ?_
  obtain ⟨r377, w377_told, hc, h⟩ := bd2_some h
  have hPc : va_P D vwCl (wPW T ad (ad 6) (ad 12) rs rm ts tm rdue rtun rsee rbeg psize pclause peff pkin pgri psig psee qsize qclause qeff qkin qgri qsig qsee cdee cnow cahe kdee know kahe fc lf told up lo) _ := my_subP sb_wLW_wPW_0to37 hP
  have hDc := hD.sub [0, 1, 2, 3, 4, 5, 6, 7, 8, 9, 10, 11, 12, 13, 14, 15, 16, 17, 18, 19, 20, 21, 22, 23, 24, 25, 26, 27, 28, 29, 30, 31, 32, 33, 34, 35, 36, 37] nd_LW sb_wLW_wPW_0to37
  have hFc := va_free hD hS hA [0, 1, 2, 3, 4, 5, 6, 7, 8, 9, 10, 11, 12, 13, 14, 15, 16, 17, 18, 19, 20, 21, 22, 23, 24, 25, 26, 27, 28, 29, 30, 31, 32, 33, 34, 35, 36, 37] sb_wLW_wPW_0to37
  refine my_rwi (va_runS (As := [.ref (ad 0), .int x4]) (rest := []) hFix (kL_outs l D T F ad rs rm ts tm rdue rtun rsee rbeg psize pclause peff pkin pgri psig psee qsize qclause qeff qkin qgri qsig qsee cdee cnow cahe kdee know kahe fc lf told up lo x4 r377 w377_told hc _) (va_cwS 2 hts gL_law_L_outs rfl rfl rfl hd_L_outs ⟨Nat.le_of_ble_eq_true rfl, Nat.le_of_ble_eq_true rfl⟩) (preS_rw hPc hKK hDc) rfl rfl hl.1 rfl (lv_room (Nat.le_of_ble_eq_true rfl)) dL_law_377 ⟨Nat.le_of_ble_eq_true rfl, Nat.le_of_ble_eq_true rfl⟩) hS hFc (fun H1 locs hP1 hD1 hz1 hkk hS => ?_)
  obtain ⟨hP, hD⟩ := my_joinS hP hD nd_LW sb_wLW_wPW_0to37 (by rfl) hkk hFc hP1 hD1
  rw [st_LW] at hP hD
  generalize H1 = H at hP hS ⊢
  refine lv_istore (lv' := [(19, .int r377), (0, .ref b), (1, .ref (ad 0)), (2, .ref za), (3, .ref ta), (4, .int x4), (5, .int x5), (6, .int x6), (7, .int x7), (8, .int x8), (9, .int x9), (10, .int x10), (11, .int x11), (14, .int x14), (15, .int x15), (17, .int x17), (18, .int x18)]) hx hb dL_law_380 hl (by decide) rfl (fun ls hl => ?_)
  refine lv_iload hx hb dL_law_382 (lv_at hl 15 rfl) ?_
  refine lv_if_ge (tgt := 397) hx hb dL_law_384 (by decide) (fun c384 => ?_) (fun c384 => ?_)
  · have h := br_1 h c384
    refine lv_iload hx hb dL_law_397 (lv_at hl 0 rfl) ?_
    refine lv_iload hx hb dL_law_399 (lv_at hl 13 rfl) ?_
    refine lv_iload hx hb dL_law_401 (lv_at hl 16 rfl) ?_
    refine lv_ior hx hb dL_law_403 ?_
    refine lv_icmp_ne (tgt := 423) hx hb dL_law_404 (by decide) (fun c404 => ?_) (fun c404 => ?_)
    · have h := br_0 h c404
      refine lv_iconst (v := (0 : Int32)) hx hb dL_law_423 (by decide) ?_
      exact absurd (Option.some.inj h) (by decide)
    · have h := br_1 h c404
      refine lv_iload hx hb dL_law_407 (lv_at hl 13 rfl) ?_
      refine lv_iload hx hb dL_law_409 (lv_at hl 16 rfl) ?_
      refine lv_iand hx hb dL_law_411 ?_
      refine lv_if_ne (tgt := 423) hx hb dL_law_412 (by decide) (fun c412 => ?_) (fun c412 => ?_)
      · have h := br_0 h c412
        refine lv_iconst (v := (0 : Int32)) hx hb dL_law_423 (by decide) ?_
        exact absurd (Option.some.inj h) (by decide)
      · have h := br_1 h c412
        refine lv_iload hx hb dL_law_415 (lv_at hl 16 rfl) ?_
        refine lv_iload hx hb dL_law_417 (lv_at hl 14 rfl) ?_
        refine lv_iand hx hb dL_law_419 ?_
        refine lv_if_eq (tgt := 425) hx hb dL_law_420 (by decide) (fun c420 => ?_) (fun c420 => ?_)
        · have h := br_1 h c420
          exact LN_law_n425 F s69 x4 x5 x6 x7 x8 x9 x10 x11 x14 x17 r377 rs rm ts tm rdue rtun rsee rbeg psize pclause peff pkin pgri psig psee qsize qclause qeff qkin qgri qsig qsee cdee cnow cahe kdee know kahe fc lf w377_told up lo zz tt C0 hret ih69 h ad _ _ ho hP hD hS _ (lv_sub hl [1, 2, 3, 4, 5, 6, 7, 8, 9, 10, 11, 12, 13, 15, 0] rfl)
        · have h := br_0 h c420
          refine lv_iconst (v := (0 : Int32)) hx hb dL_law_423 (by decide) ?_
          exact absurd (Option.some.inj h) (by decide)
  · have h := br_0 h c384
    refine lv_iload hx hb dL_law_387 (lv_at hl 0 rfl) ?_
    refine lv_iload hx hb dL_law_389 (lv_at hl 13 rfl) ?_
    refine lv_icmp_eq (tgt := 425) hx hb dL_law_391 (by decide) (fun c391 => ?_) (fun c391 => ?_)
    · have h := br_1 h c391
      exact LN_law_n425 F s69 x4 x5 x6 x7 x8 x9 x10 x11 x14 x17 r377 rs rm ts tm rdue rtun rsee rbeg psize pclause peff pkin pgri psig psee qsize qclause qeff qkin qgri qsig qsee cdee cnow cahe kdee know kahe fc lf w377_told up lo zz tt C0 hret ih69 h ad _ _ ho hP hD hS _ (lv_sub hl [1, 2, 3, 4, 5, 6, 7, 8, 9, 10, 11, 12, 13, 15, 0] rfl)
    · have h := br_0 h c391
      refine lv_goto (tgt := 423) hx hb dL_law_394 (by decide) ?_
      refine lv_iconst (v := (0 : Int32)) hx hb dL_law_423 (by decide) ?_
      exact absurd (Option.some.inj h) (by decide)
set_option maxHeartbeats 4000000 in
set_option maxRecDepth 100000 in
theorem LN_law_n352 {p : Program} {l : Launch} {e : Env} {s : State} {m : MethodId} {args : Array Value} {below : List Frame} {meth : Method} {c : Code} {Q : State → Prop} {D : va_G} {T : Nat → ClassId} {b L : Nat} {xs : Nat → Int32} {A : Nat → Prop} {o0 za ta : Nat} (F : Nat) (s69 : Int32 → Int32 → Int64 → (Nat → Int64) → Int32 → Option (Int32)) (x4 : Int32) (x5 : Int32) (x6 : Int32) (x7 : Int32) (x8 : Int32) (x9 : Int32) (x10 : Int32) (x11 : Int32) (x14 : Int32) (x15 : Int32) (x17 : Int32) (rs : Nat → Int32) (rm : Nat → Nat → Int32) (ts : Nat → Int32) (tm : Nat → Nat → Int32) (rdue : Int32) (rtun : Int32) (rsee : Int32) (rbeg : Int32) (psize : Int32) (pclause : Int32) (peff : Nat → Int32) (pkin : Nat → Int32) (pgri : Nat → Int32) (psig : Nat → Int32) (psee : Nat → Int32) (qsize : Int32) (qclause : Int32) (qeff : Nat → Int32) (qkin : Nat → Int32) (qgri : Nat → Int32) (qsig : Nat → Int32) (qsee : Nat → Int32) (cdee : Int32) (cnow : Int64) (cahe : Nat → Int64) (kdee : Nat → Int32) (know : Nat → Int64) (kahe : Nat → Nat → Int64) (fc : Nat → Int32) (lf : Int32) (told : Int32) (up : Int64) (lo : Int64) (zz : Nat → Int32) (tt : Nat → Int32) (C0 : SC_law p s m args c D T b L xs A) (hret : HR_law p l e s m args below meth c Q A) (ih69 : ∀ x7 : Int32, ∀ cdee : Int32, ∀ cnow : Int64, ∀ cahe : Nat → Int64, ∀ told : Int32, s69 x7 cdee cnow cahe told = some (1 : Int32) → ∀ (ad : Nat → Nat) (H : Heap) (locs : List Loc), ad 0 = o0 → va_P D vwCl (wLW T ad (ad 6) (ad 12) za ta rs rm ts tm rdue rtun rsee rbeg psize pclause peff pkin pgri psig psee qsize qclause qeff qkin qgri qsig qsee cdee cnow cahe kdee know kahe fc lf told up lo zz tt) H → va_D A (wLW T ad (ad 6) (ad 12) za ta rs rm ts tm rdue rtun rsee rbeg psize pclause peff pkin pgri psig psee qsize qclause qeff qkin qgri qsig qsee cdee cnow cahe kdee know kahe fc lf told up lo zz tt) → va_S A s.heap H locs → ∀ (ls : Array Slot), lv_has ls 31 [(0, .ref b), (1, .ref (ad 0)), (2, .ref za), (3, .ref ta), (4, .int x4), (5, .int x5), (6, .int x6), (7, .int x7)] → W p l e room_1 s m args below meth c H locs 40 874 Q (F0 m 69 ls [])) (h : fL_law_n352 F s69 L xs x4 x5 x6 x7 x8 x9 x10 x11 x14 x15 x17 rs rm ts tm rdue rtun rsee rbeg psize pclause peff pkin pgri psig psee qsize qclause qeff qkin qgri qsig qsee cdee cnow cahe kdee know kahe fc lf told up lo zz tt = some (1 : Int32)) : ∀ (ad : Nat → Nat) (H : Heap) (locs : List Loc), ad 0 = o0 → va_P D vwCl (wLW T ad (ad 6) (ad 12) za ta rs rm ts tm rdue rtun rsee rbeg psize pclause peff pkin pgri psig psee qsize qclause qeff qkin qgri qsig qsee cdee cnow cahe kdee know kahe fc lf told up lo zz tt) H → va_D A (wLW T ad (ad 6) (ad 12) za ta rs rm ts tm rdue rtun rsee rbeg psize pclause peff pkin pgri psig psee qsize qclause qeff qkin qgri qsig qsee cdee cnow cahe kdee know kahe fc lf told up lo zz tt) → va_S A s.heap H locs → ∀ (ls : Array Slot), lv_has ls 31 [(0, .ref b), (1, .ref (ad 0)), (2, .ref za), (3, .ref ta), (4, .int x4), (5, .int x5), (6, .int x6), (7, .int x7), (8, .int x8), (9, .int x9), (10, .int x10), (11, .int x11), (14, .int x14), (15, .int x15), (17, .int x17)] → W p l e room_1 s m args below meth c H locs 40 874 Q (F0 m 352 ls []) := by
  intro ad H locs ho hP hD hS ls hl
  obtain ⟨hFix, hKK, hA, hX, hbl, hbA⟩ := id C0
  obtain ⟨hx, hb, hml, hown, hts⟩ := id hFix
  have hK := hKK.1
  unfold fL_law_n352 at h
  refine lv_iload hx hb dL_law_352 (lv_at hl 14 rfl) ?_
  refine lv_bipush (v := (20 : Int32)) hx hb dL_law_354 (by decide) ?_
  refine lv_icmp_le (tgt := 361) hx hb dL_law_356 (by decide) (fun c356 => ?_) (fun c356 => ?_)
  · have h := br_1 h c356
    refine lv_aload_n hx hb dL_law_361 rfl (lv_at hl 1 rfl) ?_
    refine lv_iload hx hb dL_law_362 (lv_at hl 4 rfl) ?_
    obtain ⟨r364, w364_told, hc, h⟩ := bd2_some h
    have hPc : va_P D vwCl (wPW T ad (ad 6) (ad 12) rs rm ts tm rdue rtun rsee rbeg psize pclause peff pkin pgri psig psee qsize qclause qeff qkin qgri qsig qsee cdee cnow cahe kdee know kahe fc lf told up lo) _ := my_subP sb_wLW_wPW_0to37 hP
    have hDc := hD.sub [0, 1, 2, 3, 4, 5, 6, 7, 8, 9, 10, 11, 12, 13, 14, 15, 16, 17, 18, 19, 20, 21, 22, 23, 24, 25, 26, 27, 28, 29, 30, 31, 32, 33, 34, 35, 36, 37] nd_LW sb_wLW_wPW_0to37
    have hFc := va_free hD hS hA [0, 1, 2, 3, 4, 5, 6, 7, 8, 9, 10, 11, 12, 13, 14, 15, 16, 17, 18, 19, 20, 21, 22, 23, 24, 25, 26, 27, 28, 29, 30, 31, 32, 33, 34, 35, 36, 37] sb_wLW_wPW_0to37
    refine my_rwi (va_runS (As := [.ref (ad 0), .int x4]) (rest := []) hFix (kL_outs l D T F ad rs rm ts tm rdue rtun rsee rbeg psize pclause peff pkin pgri psig psee qsize qclause qeff qkin qgri qsig qsee cdee cnow cahe kdee know kahe fc lf told up lo x4 r364 w364_told hc _) (va_cwS 2 hts gL_law_L_outs rfl rfl rfl hd_L_outs ⟨Nat.le_of_ble_eq_true rfl, Nat.le_of_ble_eq_true rfl⟩) (preS_rw hPc hKK hDc) rfl rfl hl.1 rfl (lv_room (Nat.le_of_ble_eq_true rfl)) dL_law_364 ⟨Nat.le_of_ble_eq_true rfl, Nat.le_of_ble_eq_true rfl⟩) hS hFc (fun H1 locs hP1 hD1 hz1 hkk hS => ?_)
    obtain ⟨hP, hD⟩ := my_joinS hP hD nd_LW sb_wLW_wPW_0to37 (by rfl) hkk hFc hP1 hD1
    rw [st_LW] at hP hD
    generalize H1 = H at hP hS ⊢
    refine lv_iload hx hb dL_law_367 (lv_at hl 12 rfl) ?_
    refine lv_iconst (v := (-1 : Int32)) hx hb dL_law_369 (by decide) ?_
    refine lv_ixor hx hb dL_law_370 ?_
    refine lv_iand hx hb dL_law_371 ?_
    refine lv_istore (lv' := [(18, .int (r364 &&& (x14 ^^^ (-1 : Int32)))), (0, .ref b), (1, .ref (ad 0)), (2, .ref za), (3, .ref ta), (4, .int x4), (5, .int x5), (6, .int x6), (7, .int x7), (8, .int x8), (9, .int x9), (10, .int x10), (11, .int x11), (14, .int x14), (15, .int x15), (17, .int x17)]) hx hb dL_law_372 hl (by decide) rfl (fun ls hl => ?_)
    exact LN_law_n374 F s69 x4 x5 x6 x7 x8 x9 x10 x11 x14 x15 x17 (r364 &&& (x14 ^^^ (-1 : Int32))) rs rm ts tm rdue rtun rsee rbeg psize pclause peff pkin pgri psig psee qsize qclause qeff qkin qgri qsig qsee cdee cnow cahe kdee know kahe fc lf w364_told up lo zz tt C0 hret ih69 h ad _ _ ho hP hD hS _ (lv_sub hl [1, 2, 3, 4, 5, 6, 7, 8, 9, 10, 11, 12, 13, 14, 15, 0] rfl)
  · have h := br_0 h c356
    refine lv_iconst (v := (0 : Int32)) hx hb dL_law_359 (by decide) ?_
    exact absurd (Option.some.inj h) (by decide)
set_option maxHeartbeats 4000000 in
set_option maxRecDepth 100000 in
theorem LN_law_n335 {p : Program} {l : Launch} {e : Env} {s : State} {m : MethodId} {args : Array Value} {below : List Frame} {meth : Method} {c : Code} {Q : State → Prop} {D : va_G} {T : Nat → ClassId} {b L : Nat} {xs : Nat → Int32} {A : Nat → Prop} {o0 za ta : Nat} (F : Nat) (s69 : Int32 → Int32 → Int64 → (Nat → Int64) → Int32 → Option (Int32)) (s_0 : Int32) (x4 : Int32) (x5 : Int32) (x6 : Int32) (x7 : Int32) (x8 : Int32) (x9 : Int32) (x10 : Int32) (x11 : Int32) (x14 : Int32) (x15 : Int32) (x17 : Int32) (x19 : Int32) (rs : Nat → Int32) (rm : Nat → Nat → Int32) (ts : Nat → Int32) (tm : Nat → Nat → Int32) (rdue : Int32) (rtun : Int32) (rsee : Int32) (rbeg : Int32) (psize : Int32) (pclause : Int32) (peff : Nat → Int32) (pkin : Nat → Int32) (pgri : Nat → Int32) (psig : Nat → Int32) (psee : Nat → Int32) (qsize : Int32) (qclause : Int32) (qeff : Nat → Int32) (qkin : Nat → Int32) (qgri : Nat → Int32) (qsig : Nat → Int32) (qsee : Nat → Int32) (cdee : Int32) (cnow : Int64) (cahe : Nat → Int64) (kdee : Nat → Int32) (know : Nat → Int64) (kahe : Nat → Nat → Int64) (fc : Nat → Int32) (lf : Int32) (told : Int32) (up : Int64) (lo : Int64) (zz : Nat → Int32) (tt : Nat → Int32) (C0 : SC_law p s m args c D T b L xs A) (hret : HR_law p l e s m args below meth c Q A) (ih69 : ∀ x7 : Int32, ∀ cdee : Int32, ∀ cnow : Int64, ∀ cahe : Nat → Int64, ∀ told : Int32, s69 x7 cdee cnow cahe told = some (1 : Int32) → ∀ (ad : Nat → Nat) (H : Heap) (locs : List Loc), ad 0 = o0 → va_P D vwCl (wLW T ad (ad 6) (ad 12) za ta rs rm ts tm rdue rtun rsee rbeg psize pclause peff pkin pgri psig psee qsize qclause qeff qkin qgri qsig qsee cdee cnow cahe kdee know kahe fc lf told up lo zz tt) H → va_D A (wLW T ad (ad 6) (ad 12) za ta rs rm ts tm rdue rtun rsee rbeg psize pclause peff pkin pgri psig psee qsize qclause qeff qkin qgri qsig qsee cdee cnow cahe kdee know kahe fc lf told up lo zz tt) → va_S A s.heap H locs → ∀ (ls : Array Slot), lv_has ls 31 [(0, .ref b), (1, .ref (ad 0)), (2, .ref za), (3, .ref ta), (4, .int x4), (5, .int x5), (6, .int x6), (7, .int x7)] → W p l e room_1 s m args below meth c H locs 40 874 Q (F0 m 69 ls [])) (h : fL_law_n335 F s69 L xs s_0 x4 x5 x6 x7 x8 x9 x10 x11 x14 x15 x17 x19 rs rm ts tm rdue rtun rsee rbeg psize pclause peff pkin pgri psig psee qsize qclause qeff qkin qgri qsig qsee cdee cnow cahe kdee know kahe fc lf told up lo zz tt = some (1 : Int32)) : ∀ (ad : Nat → Nat) (H : Heap) (locs : List Loc), ad 0 = o0 → va_P D vwCl (wLW T ad (ad 6) (ad 12) za ta rs rm ts tm rdue rtun rsee rbeg psize pclause peff pkin pgri psig psee qsize qclause qeff qkin qgri qsig qsee cdee cnow cahe kdee know kahe fc lf told up lo zz tt) H → va_D A (wLW T ad (ad 6) (ad 12) za ta rs rm ts tm rdue rtun rsee rbeg psize pclause peff pkin pgri psig psee qsize qclause qeff qkin qgri qsig qsee cdee cnow cahe kdee know kahe fc lf told up lo zz tt) → va_S A s.heap H locs → ∀ (ls : Array Slot), lv_has ls 31 [(0, .ref b), (1, .ref (ad 0)), (2, .ref za), (3, .ref ta), (4, .int x4), (5, .int x5), (6, .int x6), (7, .int x7), (8, .int x8), (9, .int x9), (10, .int x10), (11, .int x11), (14, .int x14), (15, .int x15), (17, .int x17), (19, .int x19)] → W p l e room_1 s m args below meth c H locs 40 874 Q (F0 m 335 ls [.int s_0]) := by
  intro ad H locs ho hP hD hS ls hl
  obtain ⟨hFix, hKK, hA, hX, hbl, hbA⟩ := id C0
  obtain ⟨hx, hb, hml, hown, hts⟩ := id hFix
  have hK := hKK.1
  unfold fL_law_n335 at h
  refine lv_iload hx hb dL_law_335 (lv_at hl 15 rfl) ?_
  refine lv_icmp_ne (tgt := 359) hx hb dL_law_337 (by decide) (fun c337 => ?_) (fun c337 => ?_)
  · have h := br_0 h c337
    refine lv_iconst (v := (0 : Int32)) hx hb dL_law_359 (by decide) ?_
    exact absurd (Option.some.inj h) (by decide)
  · have h := br_1 h c337
    refine lv_iload hx hb dL_law_340 (lv_at hl 15 rfl) ?_
    refine lv_if_eq (tgt := 352) hx hb dL_law_342 (by decide) (fun c342 => ?_) (fun c342 => ?_)
    · have h := br_1 h c342
      exact LN_law_n352 F s69 x4 x5 x6 x7 x8 x9 x10 x11 x14 x15 x17 rs rm ts tm rdue rtun rsee rbeg psize pclause peff pkin pgri psig psee qsize qclause qeff qkin qgri qsig qsee cdee cnow cahe kdee know kahe fc lf told up lo zz tt C0 hret ih69 h ad _ _ ho hP hD hS _ (lv_sub hl [0, 1, 2, 3, 4, 5, 6, 7, 8, 9, 10, 11, 12, 13, 14] rfl)
    · have h := br_0 h c342
      refine lv_iload hx hb dL_law_345 (lv_at hl 14 rfl) ?_
      refine lv_bipush (v := (-4 : Int32)) hx hb dL_law_347 (by decide) ?_
      refine lv_icmp_ne (tgt := 359) hx hb dL_law_349 (by decide) (fun c349 => ?_) (fun c349 => ?_)
      · have h := br_0 h c349
        refine lv_iconst (v := (0 : Int32)) hx hb dL_law_359 (by decide) ?_
        exact absurd (Option.some.inj h) (by decide)
      · have h := br_1 h c349
        exact LN_law_n352 F s69 x4 x5 x6 x7 x8 x9 x10 x11 x14 x15 x17 rs rm ts tm rdue rtun rsee rbeg psize pclause peff pkin pgri psig psee qsize qclause qeff qkin qgri qsig qsee cdee cnow cahe kdee know kahe fc lf told up lo zz tt C0 hret ih69 h ad _ _ ho hP hD hS _ (lv_sub hl [0, 1, 2, 3, 4, 5, 6, 7, 8, 9, 10, 11, 12, 13, 14] rfl)
