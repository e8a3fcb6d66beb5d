set_option maxHeartbeats 4000000 in
set_option maxRecDepth 100000 in
theorem LN_law_l1103 {p : Program} {l : Launch} {e : Env} {s : State} {m : MethodId} {args : Array Value} {below : List Frame} {meth : Method} {c : Code} {Q : State → Prop} {D : va_G} {T : Nat → ClassId} {b L : Nat} {xs : Nat → Int32} {A : Nat → Prop} {o0 za ta : Nat} (F : Nat) (x4 : Int32) (x5 : Int32) (x7 : Int32) (x8 : Int32) (x9 : Int32) (x18 : Int32) (rs : Nat → Int32) (ts : Nat → Int32) (tm : Nat → Nat → Int32) (rdue : Int32) (rtun : Int32) (rsee : Int32) (rbeg : Int32) (psize : Int32) (pclause : Int32) (peff : Nat → Int32) (pkin : Nat → Int32) (pgri : Nat → Int32) (psig : Nat → Int32) (psee : Nat → Int32) (qsize : Int32) (qclause : Int32) (qeff : Nat → Int32) (qkin : Nat → Int32) (qgri : Nat → Int32) (qsig : Nat → Int32) (qsee : Nat → Int32) (cdee : Int32) (cnow : Int64) (cahe : Nat → Int64) (kdee : Nat → Int32) (know : Nat → Int64) (kahe : Nat → Nat → Int64) (up : Int64) (lo : Int64) (zz : Nat → Int32) (tt : Nat → Int32) (C0 : SC_law p s m args c D T b L xs A) (hret : HR_law p l e s m args below meth c Q A) : ∀ (nu : Nat) (x19 : Int32) (rm : Nat → Nat → Int32) (fc : Nat → Int32) (lf : Int32) (told : Int32), fL_law_l1103 F L xs x4 x5 x7 x8 x9 x18 rs ts tm rdue rtun rsee rbeg psize pclause peff pkin pgri psig psee qsize qclause qeff qkin qgri qsig qsee cdee cnow cahe kdee know kahe up lo zz tt nu x19 rm fc lf told = some (1 : Int32) → ∀ (ad : Nat → Nat) (H : Heap) (locs : List Loc), ad 0 = o0 → va_P D vwCl (wLW T ad (ad 6) (ad 12) za ta rs rm ts tm rdue rtun rsee rbeg psize pclause peff pkin pgri psig psee qsize qclause qeff qkin qgri qsig qsee cdee cnow cahe kdee know kahe fc lf told up lo zz tt) H → va_D A (wLW T ad (ad 6) (ad 12) za ta rs rm ts tm rdue rtun rsee rbeg psize pclause peff pkin pgri psig psee qsize qclause qeff qkin qgri qsig qsee cdee cnow cahe kdee know kahe fc lf told up lo zz tt) → va_S A s.heap H locs → ∀ (ls : Array Slot), lv_has ls 31 [(0, .ref b), (1, .ref (ad 0)), (2, .ref za), (3, .ref ta), (4, .int x4), (5, .int x5), (7, .int x7), (8, .int x8), (9, .int x9), (18, .int x18), (19, .int x19)] → W p l e room_1 s m args below meth c H locs 40 874 Q (F0 m 1103 ls []) := by
  intro nu
  induction nu with
  | zero => intro x19 rm fc lf told h; exact none_some h
  | succ nu ih1103 =>
    intro x19 rm fc lf told h ad H locs ho hP hD hS ls hl
    obtain ⟨hFix, hKK, hA, hX, hbl, hbA⟩ := id C0
    obtain ⟨hx, hb, hml, hown, hts⟩ := id hFix
    have hK := hKK.1
    have h : fL_law_l1103_b F L xs x4 x5 x7 x8 x9 x18 rs ts tm rdue rtun rsee rbeg psize pclause peff pkin pgri psig psee qsize qclause qeff qkin qgri qsig qsee cdee cnow cahe kdee know kahe up lo zz tt (fL_law_l1103 F L xs x4 x5 x7 x8 x9 x18 rs ts tm rdue rtun rsee rbeg psize pclause peff pkin pgri psig psee qsize qclause qeff qkin qgri qsig qsee cdee cnow cahe kdee know kahe up lo zz tt nu) x19 rm fc lf told = some (1 : Int32) := h
    unfold fL_law_l1103_b at h
    refine lv_iload hx hb dL_law_1103 (lv_at hl 10 rfl) ?_
    refine lv_iload hx hb dL_law_1105 (lv_at hl 9 rfl) ?_
    refine lv_icmp_ge (tgt := 1144) hx hb dL_law_1107 (by decide) (fun c1107 => ?_) (fun c1107 => ?_)
    · have h := br_1 h c1107
      exact LN_law_n1144 F x4 x5 x7 x8 x9 rs rm ts tm rdue rtun rsee rbeg psize pclause peff pkin pgri psig psee qsize qclause qeff qkin qgri qsig qsee cdee cnow cahe kdee know kahe fc lf told up lo zz tt C0 hret h ad _ _ ho hP hD hS _ (lv_sub hl [0, 1, 2, 3, 4, 5, 6, 7, 8] rfl)
    · have h := br_0 h c1107
      refine lv_aload_n hx hb dL_law_1110 rfl (lv_at hl 1 rfl) ?_
      refine lv_iconst (v := (4 : Int32)) hx hb dL_law_1111 (by decide) ?_
      refine lv_iload hx hb dL_law_1112 (lv_at hl 10 rfl) ?_
      refine lv_aload_n hx hb dL_law_1114 rfl (lv_at hl 0 rfl) ?_
      refine lv_bipush (v := (38 : Int32)) hx hb dL_law_1115 (by decide) ?_
      obtain ⟨r1117, hc, h⟩ := bd1_some h
      refine my_roi (va_Run.run (va_runS (As := [.ref b, .int (38 : Int32)]) (rest := [.int x19, .int (4 : Int32), .ref (ad 0)]) hFix (kL_cell l D T F b L xs (38 : Int32) r1117 hc) (va_cwS 2 hts gL_law_L_cell rfl rfl rfl hd_L_cell ⟨Nat.le_of_ble_eq_true rfl, Nat.le_of_ble_eq_true rfl⟩) (preS_x (hX.kept (hS.2.1 b hbl hbA)) hKK) rfl rfl hl.1 rfl (lv_room (Nat.le_of_ble_eq_true rfl)) dL_law_1117 ⟨Nat.le_of_ble_eq_true rfl, Nat.le_of_ble_eq_true rfl⟩)) ?_
      refine lv_iconst (v := (2 : Int32)) hx hb dL_law_1120 (by decide) ?_
      refine lv_iload hx hb dL_law_1121 (lv_at hl 10 rfl) ?_
      refine lv_imul hx hb dL_law_1123 ?_
      refine lv_ishr hx hb dL_law_1124 ?_
      refine lv_iconst (v := (4 : Int32)) hx hb dL_law_1125 (by decide) ?_
      obtain ⟨r1126, hc, h⟩ := bd1_some h
      refine my_roi (va_Run.run (va_runS (As := [.int (r1117 >>> (((2 : Int32) * x19) &&& 31)), .int (4 : Int32)]) (rest := [.int x19, .int (4 : Int32), .ref (ad 0)]) hFix (kL_part l D T F (r1117 >>> (((2 : Int32) * x19) &&& 31)) (4 : Int32) r1126 hc) (va_cwS 2 hts gL_law_L_part rfl rfl rfl hd_L_part ⟨Nat.le_of_ble_eq_true rfl, Nat.le_of_ble_eq_true rfl⟩) (preS_ro va_nil hKK) rfl rfl hl.1 rfl (lv_room (Nat.le_of_ble_eq_true rfl)) dL_law_1126 ⟨Nat.le_of_ble_eq_true rfl, Nat.le_of_ble_eq_true rfl⟩)) ?_
      obtain ⟨r1129, w1129_rm, w1129_fc, w1129_lf, w1129_told, hc, h⟩ := bd5_some h
      have hPc : va_P D vwCl (wPW T ad (ad 6) (ad 12) rs rm ts tm rdue rtun rsee rbeg psize pclause peff pkin pgri psig psee qsize qclause qeff qkin qgri qsig qsee cdee cnow cahe kdee know kahe fc lf told up lo) _ := my_subP sb_wLW_wPW_0to37 hP
      have hDc := hD.sub [0, 1, 2, 3, 4, 5, 6, 7, 8, 9, 10, 11, 12, 13, 14, 15, 16, 17, 18, 19, 20, 21, 22, 23, 24, 25, 26, 27, 28, 29, 30, 31, 32, 33, 34, 35, 36, 37] nd_LW sb_wLW_wPW_0to37
      have hFc := va_free hD hS hA [0, 1, 2, 3, 4, 5, 6, 7, 8, 9, 10, 11, 12, 13, 14, 15, 16, 17, 18, 19, 20, 21, 22, 23, 24, 25, 26, 27, 28, 29, 30, 31, 32, 33, 34, 35, 36, 37] sb_wLW_wPW_0to37
      refine my_rwi (va_runV (As := [.int (4 : Int32), .int x19, .int r1126]) (rest := []) hFix (kX5_lay l D T F ad rs rm ts tm rdue rtun rsee rbeg psize pclause peff pkin pgri psig psee qsize qclause qeff qkin qgri qsig qsee cdee cnow cahe kdee know kahe fc lf told up lo (4 : Int32) x19 r1126 r1129 w1129_rm w1129_fc w1129_lf w1129_told hc _) (cwV 3 hts gL_law_X5_lay rfl rfl rfl ⟨rfl, hd_X5_lay⟩ ⟨Nat.le_of_ble_eq_true rfl, Nat.le_of_ble_eq_true rfl⟩) (preV_rw hPc hKK hDc (va_recv hK hP (ci := 3) (q0 := 0) rfl wLW_0)) rfl rfl hl.1 rfl (lv_room (Nat.le_of_ble_eq_true rfl)) dL_law_1129 ⟨Nat.le_of_ble_eq_true rfl, Nat.le_of_ble_eq_true rfl⟩) hS hFc (fun H1 locs hP1 hD1 hz1 hkk hS => ?_)
      obtain ⟨hP, hD⟩ := my_joinS hP hD nd_LW sb_wLW_wPW_0to37 (by rfl) hkk hFc hP1 hD1
      rw [st_LW] at hP hD
      generalize H1 = H at hP hS ⊢
      refine lv_iconst (v := (1 : Int32)) hx hb dL_law_1132 (by decide) ?_
      refine lv_icmp_eq (tgt := 1138) hx hb dL_law_1133 (by decide) (fun c1133 => ?_) (fun c1133 => ?_)
      · have h := br_1 h c1133
        refine lv_iinc (v := (x19 + (1 : Int32))) (lv' := [(19, .int (x19 + (1 : Int32))), (0, .ref b), (1, .ref (ad 0)), (2, .ref za), (3, .ref ta), (4, .int x4), (5, .int x5), (7, .int x7), (8, .int x8), (9, .int x9), (18, .int x18)]) hx hb dL_law_1138 hl (k := 10) rfl rfl (by decide) rfl (fun ls hl => ?_)
        refine lv_goto (tgt := 1103) hx hb dL_law_1141 (by decide) ?_
        exact ih1103 (x19 + (1 : Int32)) w1129_rm w1129_fc w1129_lf w1129_told h ad _ _ ho hP hD hS _ (lv_sub hl [1, 2, 3, 4, 5, 6, 7, 8, 9, 10, 0] rfl)
      · have h := br_0 h c1133
        refine lv_iconst (v := (0 : Int32)) hx hb dL_law_1136 (by decide) ?_
        exact absurd (Option.some.inj h) (by decide)
set_option maxHeartbeats 4000000 in
set_option maxRecDepth 100000 in
theorem LN_law_n1073 {p : Program} {l : Launch} {e : Env} {s : State} {m : MethodId} {args : Array Value} {below : List Frame} {meth : Method} {c : Code} {Q : State → Prop} {D : va_G} {T : Nat → ClassId} {b L : Nat} {xs : Nat → Int32} {A : Nat → Prop} {o0 za ta : Nat} (F : Nat) (x4 : Int32) (x5 : Int32) (x7 : Int32) (x8 : Int32) (x9 : Int32) (rs : Nat → Int32) (rm : Nat → Nat → Int32) (ts : Nat → Int32) (tm : Nat → Nat → Int32) (rdue : Int32) (rtun : Int32) (rsee : Int32) (rbeg : Int32) (psize : Int32) (pclause : Int32) (peff : Nat → Int32) (pkin : Nat → Int32) (pgri : Nat → Int32) (psig : Nat → Int32) (psee : Nat → Int32) (qsize : Int32) (qclause : Int32) (qeff : Nat → Int32) (qkin : Nat → Int32) (qgri : Nat → Int32) (qsig : Nat → Int32) (qsee : Nat → Int32) (cdee : Int32) (cnow : Int64) (cahe : Nat → Int64) (kdee : Nat → Int32) (know : Nat → Int64) (kahe : Nat → Nat → Int64) (fc : Nat → Int32) (lf : Int32) (told : Int32) (up : Int64) (lo : Int64) (zz : Nat → Int32) (tt : Nat → Int32) (C0 : SC_law p s m args c D T b L xs A) (hret : HR_law p l e s m args below meth c Q A) (h : fL_law_n1073 F L xs x4 x5 x7 x8 x9 rs rm ts tm rdue rtun rsee rbeg psize pclause peff pkin pgri psig psee qsize qclause qeff qkin qgri qsig qsee cdee cnow cahe kdee know kahe fc lf told up lo zz tt = some (1 : Int32)) : ∀ (ad : Nat → Nat) (H : Heap) (locs : List Loc), ad 0 = o0 → va_P D vwCl (wLW T ad (ad 6) (ad 12) za ta rs rm ts tm rdue rtun rsee rbeg psize pclause peff pkin pgri psig psee qsize qclause qeff qkin qgri qsig qsee cdee cnow cahe kdee know kahe fc lf told up lo zz tt) H → va_D A (wLW T ad (ad 6) (ad 12) za ta rs rm ts tm rdue rtun rsee rbeg psize pclause peff pkin pgri psig psee qsize qclause qeff qkin qgri qsig qsee cdee cnow cahe kdee know kahe fc lf told up lo zz tt) → va_S A s.heap H locs → ∀ (ls : Array Slot), lv_has ls 31 [(0, .ref b), (1, .ref (ad 0)), (2, .ref za), (3, .ref ta), (4, .int x4), (5, .int x5), (7, .int x7), (8, .int x8), (9, .int x9)] → W p l e room_1 s m args below meth c H locs 40 874 Q (F0 m 1073 ls []) := by
  intro ad H locs ho hP hD hS ls hl
  obtain ⟨hFix, hKK, hA, hX, hbl, hbA⟩ := id C0
  obtain ⟨hx, hb, hml, hown, hts⟩ := id hFix
  have hK := hKK.1
  unfold fL_law_n1073 at h
  refine lv_aload_n hx hb dL_law_1073 rfl (lv_at hl 0 rfl) ?_
  refine lv_bipush (v := (37 : Int32)) hx hb dL_law_1074 (by decide) ?_
  obtain ⟨r1076, hc, h⟩ := bd1_some h
  refine my_roi (va_Run.run (va_runS (As := [.ref b, .int (37 : Int32)]) (rest := []) hFix (kL_cell l D T F b L xs (37 : Int32) r1076 hc) (va_cwS 2 hts gL_law_L_cell rfl rfl rfl hd_L_cell ⟨Nat.le_of_ble_eq_true rfl, Nat.le_of_ble_eq_true rfl⟩) (preS_x (hX.kept (hS.2.1 b hbl hbA)) hKK) rfl rfl hl.1 rfl (lv_room (Nat.le_of_ble_eq_true rfl)) dL_law_1076 ⟨Nat.le_of_ble_eq_true rfl, Nat.le_of_ble_eq_true rfl⟩)) ?_
  refine lv_bipush (v := (7 : Int32)) hx hb dL_law_1079 (by decide) ?_
  obtain ⟨r1081, hc, h⟩ := bd1_some h
  refine my_roi (va_Run.run (va_runS (As := [.int r1076, .int (7 : Int32)]) (rest := []) hFix (kL_part l D T F r1076 (7 : Int32) r1081 hc) (va_cwS 2 hts gL_law_L_part rfl rfl rfl hd_L_part ⟨Nat.le_of_ble_eq_true rfl, Nat.le_of_ble_eq_true rfl⟩) (preS_ro va_nil hKK) rfl rfl hl.1 rfl (lv_room (Nat.le_of_ble_eq_true rfl)) dL_law_1081 ⟨Nat.le_of_ble_eq_true rfl, Nat.le_of_ble_eq_true rfl⟩)) ?_
  refine lv_istore (lv' := [(18, .int r1081), (0, .ref b), (1, .ref (ad 0)), (2, .ref za), (3, .ref ta), (4, .int x4), (5, .int x5), (7, .int x7), (8, .int x8), (9, .int x9)]) hx hb dL_law_1084 hl (by decide) rfl (fun ls hl => ?_)
  refine lv_aload_n hx hb dL_law_1086 rfl (lv_at hl 2 rfl) ?_
  refine lv_iconst (v := (4 : Int32)) hx hb dL_law_1087 (by decide) ?_
  refine lv_iload hx hb dL_law_1088 (lv_at hl 0 rfl) ?_
  obtain ⟨r1090, w1090_rs, w1090_rm, w1090_fc, w1090_lf, hc, h⟩ := bd5_some h
  have hPc : va_P D vwCl (wPW T ad (ad 6) (ad 12) rs rm ts tm rdue rtun rsee rbeg psize pclause peff pkin pgri psig psee qsize qclause qeff qkin qgri qsig qsee cdee cnow cahe kdee know kahe fc lf told up lo) _ := my_subP sb_wLW_wPW_0to37 hP
  have hDc := hD.sub [0, 1, 2, 3, 4, 5, 6, 7, 8, 9, 10, 11, 12, 13, 14, 15, 16, 17, 18, 19, 20, 21, 22, 23, 24, 25, 26, 27, 28, 29, 30, 31, 32, 33, 34, 35, 36, 37] nd_LW sb_wLW_wPW_0to37
  have hFc := va_free hD hS hA [0, 1, 2, 3, 4, 5, 6, 7, 8, 9, 10, 11, 12, 13, 14, 15, 16, 17, 18, 19, 20, 21, 22, 23, 24, 25, 26, 27, 28, 29, 30, 31, 32, 33, 34, 35, 36, 37] sb_wLW_wPW_0to37
  refine my_rwi (va_runV (As := [.int (4 : Int32), .int r1081]) (rest := []) hFix (kX5_row l D T F ad rs rm ts tm rdue rtun rsee rbeg psize pclause peff pkin pgri psig psee qsize qclause qeff qkin qgri qsig qsee cdee cnow cahe kdee know kahe fc lf told up lo (4 : Int32) r1081 r1090 w1090_rs w1090_rm w1090_fc w1090_lf hc _) (cwV 2 hts gL_law_X5_row rfl rfl rfl ⟨rfl, hd_X5_row⟩ ⟨Nat.le_of_ble_eq_true rfl, Nat.le_of_ble_eq_true rfl⟩) (preV_rw hPc hKK hDc (va_recv hK hP (ci := 3) (q0 := 0) rfl wLW_0)) rfl rfl hl.1 rfl (lv_room (Nat.le_of_ble_eq_true rfl)) dL_law_1090 ⟨Nat.le_of_ble_eq_true rfl, Nat.le_of_ble_eq_true rfl⟩) hS hFc (fun H1 locs hP1 hD1 hz1 hkk hS => ?_)
  obtain ⟨hP, hD⟩ := my_joinS hP hD nd_LW sb_wLW_wPW_0to37 (by rfl) hkk hFc hP1 hD1
  rw [st_LW] at hP hD
  generalize H1 = H at hP hS ⊢
  refine lv_iload hx hb dL_law_1093 (lv_at hl 0 rfl) ?_
  refine lv_icmp_eq (tgt := 1100) hx hb dL_law_1095 (by decide) (fun c1095 => ?_) (fun c1095 => ?_)
  · have h := br_1 h c1095
    refine lv_iconst (v := (0 : Int32)) hx hb dL_law_1100 (by decide) ?_
    refine lv_istore (lv' := [(19, .int (0 : Int32)), (18, .int r1081), (0, .ref b), (1, .ref (ad 0)), (2, .ref za), (3, .ref ta), (4, .int x4), (5, .int x5), (7, .int x7), (8, .int x8), (9, .int x9)]) hx hb dL_law_1101 hl (by decide) rfl (fun ls hl => ?_)
    exact LN_law_l1103 F x4 x5 x7 x8 x9 r1081 w1090_rs ts tm rdue rtun rsee rbeg psize pclause peff pkin pgri psig psee qsize qclause qeff qkin qgri qsig qsee cdee cnow cahe kdee know kahe up lo zz tt C0 hret F (0 : Int32) w1090_rm w1090_fc w1090_lf told h ad _ _ ho hP hD hS _ (lv_sub hl [2, 3, 4, 5, 6, 7, 8, 9, 10, 1, 0] rfl)
  · have h := br_0 h c1095
    refine lv_iconst (v := (0 : Int32)) hx hb dL_law_1098 (by decide) ?_
    exact absurd (Option.some.inj h) (by decide)
set_option maxHeartbeats 4000000 in
set_option maxRecDepth 100000 in
theorem LN_law_n1044 {p : Program} {l : Launch} {e : Env} {s : State} {m : MethodId} {args : Array Value} {below : List Frame} {meth : Method} {c : Code} {Q : State → Prop} {D : va_G} {T : Nat → ClassId} {b L : Nat} {xs : Nat → Int32} {A : Nat → Prop} {o0 za ta : Nat} (F : Nat) (x4 : Int32) (x5 : Int32) (x7 : Int32) (x8 : Int32) (x9 : Int32) (x15 : Int32) (x16 : Int32) (rs : Nat → Int32) (rm : Nat → Nat → Int32) (ts : Nat → Int32) (tm : Nat → Nat → Int32) (rdue : Int32) (rtun : Int32) (rsee : Int32) (rbeg : Int32) (psize : Int32) (pclause : Int32) (peff : Nat → Int32) (pkin : Nat → Int32) (pgri : Nat → Int32) (psig : Nat → Int32) (psee : Nat → Int32) (qsize : Int32) (qclause : Int32) (qeff : Nat → Int32) (qkin : Nat → Int32) (qgri : Nat → Int32) (qsig : Nat → Int32) (qsee : Nat → Int32) (cdee : Int32) (cnow : Int64) (cahe : Nat → Int64) (kdee : Nat → Int32) (know : Nat → Int64) (kahe : Nat → Nat → Int64) (fc : Nat → Int32) (lf : Int32) (told : Int32) (up : Int64) (lo : Int64) (zz : Nat → Int32) (tt : Nat → Int32) (C0 : SC_law p s m args c D T b L xs A) (hret : HR_law p l e s m args below meth c Q A) (h : fL_law_n1044 F L xs x4 x5 x7 x8 x9 x15 x16 rs rm ts tm rdue rtun rsee rbeg psize pclause peff pkin pgri psig psee qsize qclause qeff qkin qgri qsig qsee cdee cnow cahe kdee know kahe fc lf told up lo zz tt = some (1 : Int32)) : ∀ (ad : Nat → Nat) (H : Heap) (locs : List Loc), ad 0 = o0 → va_P D vwCl (wLW T ad (ad 6) (ad 12) za ta rs rm ts tm rdue rtun rsee rbeg psize pclause peff pkin pgri psig psee qsize qclause qeff qkin qgri qsig qsee cdee cnow cahe kdee know kahe fc lf told up lo zz tt) H → va_D A (wLW T ad (ad 6) (ad 12) za ta rs rm ts tm rdue rtun rsee rbeg psize pclause peff pkin pgri psig psee qsize qclause qeff qkin qgri qsig qsee cdee cnow cahe kdee know kahe fc lf told up lo zz tt) → va_S A s.heap H locs → ∀ (ls : Array Slot), lv_has ls 31 [(0, .ref b), (1, .ref (ad 0)), (2, .ref za), (3, .ref ta), (4, .int x4), (5, .int x5), (7, .int x7), (8, .int x8), (9, .int x9), (15, .int x15), (16, .int x16)] → W p l e room_1 s m args below meth c H locs 40 874 Q (F0 m 1044 ls []) := by
  intro ad H locs ho hP hD hS ls hl
  obtain ⟨hFix, hKK, hA, hX, hbl, hbA⟩ := id C0
  obtain ⟨hx, hb, hml, hown, hts⟩ := id hFix
  have hK := hKK.1
  unfold fL_law_n1044 at h
  refine lv_iload hx hb dL_law_1044 (lv_at hl 10 rfl) ?_
  refine lv_iload hx hb dL_law_1046 (lv_at hl 9 rfl) ?_
  refine lv_icmp_ne (tgt := 1071) hx hb dL_law_1048 (by decide) (fun c1048 => ?_) (fun c1048 => ?_)
  · have h := br_0 h c1048
    refine lv_iconst (v := (0 : Int32)) hx hb dL_law_1071 (by decide) ?_
    exact absurd (Option.some.inj h) (by decide)
  · have h := br_1 h c1048
    refine lv_aload_n hx hb dL_law_1051 rfl (lv_at hl 1 rfl) ?_
    refine lv_iconst (v := (1 : Int32)) hx hb dL_law_1052 (by decide) ?_
    obtain ⟨r1053, w1053_cdee, w1053_cnow, w1053_cahe, w1053_fc, w1053_lf, hc, h⟩ := bd6_some h
    have hPc : va_P D vwCl (wPW T ad (ad 6) (ad 12) rs rm ts tm rdue rtun rsee rbeg psize pclause peff pkin pgri psig psee qsize qclause qeff qkin qgri qsig qsee cdee cnow cahe kdee know kahe fc lf told up lo) _ := my_subP sb_wLW_wPW_0to37 hP
    have hDc := hD.sub [0, 1, 2, 3, 4, 5, 6, 7, 8, 9, 10, 11, 12, 13, 14, 15, 16, 17, 18, 19, 20, 21, 22, 23, 24, 25, 26, 27, 28, 29, 30, 31, 32, 33, 34, 35, 36, 37] nd_LW sb_wLW_wPW_0to37
    have hFc := va_free hD hS hA [0, 1, 2, 3, 4, 5, 6, 7, 8, 9, 10, 11, 12, 13, 14, 15, 16, 17, 18, 19, 20, 21, 22, 23, 24, 25, 26, 27, 28, 29, 30, 31, 32, 33, 34, 35, 36, 37] sb_wLW_wPW_0to37
    refine my_rwi (va_runV (As := [.int (1 : Int32)]) (rest := []) hFix (kX5_on l D T F ad rs rm ts tm rdue rtun rsee rbeg psize pclause peff pkin pgri psig psee qsize qclause qeff qkin qgri qsig qsee cdee cnow cahe kdee know kahe fc lf told up lo (1 : Int32) r1053 w1053_cdee w1053_cnow w1053_cahe w1053_fc w1053_lf hc _) (cwV 1 hts gL_law_X5_on rfl rfl rfl ⟨rfl, hd_X5_on⟩ ⟨Nat.le_of_ble_eq_true rfl, Nat.le_of_ble_eq_true rfl⟩) (preV_rw hPc hKK hDc (va_recv hK hP (ci := 3) (q0 := 0) rfl wLW_0)) rfl rfl hl.1 rfl (lv_room (Nat.le_of_ble_eq_true rfl)) dL_law_1053 ⟨Nat.le_of_ble_eq_true rfl, Nat.le_of_ble_eq_true rfl⟩) hS hFc (fun H1 locs hP1 hD1 hz1 hkk hS => ?_)
    obtain ⟨hP, hD⟩ := my_joinS hP hD nd_LW sb_wLW_wPW_0to37 (by rfl) hkk hFc hP1 hD1
    rw [st_LW] at hP hD
    generalize H1 = H at hP hS ⊢
    refine lv_iload hx hb dL_law_1056 (lv_at hl 8 rfl) ?_
    refine lv_icmp_ne (tgt := 1071) hx hb dL_law_1058 (by decide) (fun c1058 => ?_) (fun c1058 => ?_)
    · have h := br_0 h c1058
      refine lv_iconst (v := (0 : Int32)) hx hb dL_law_1071 (by decide) ?_
      exact absurd (Option.some.inj h) (by decide)
    · have h := br_1 h c1058
      refine lv_aload_n hx hb dL_law_1061 rfl (lv_at hl 1 rfl) ?_
      refine lv_iconst (v := (4 : Int32)) hx hb dL_law_1062 (by decide) ?_
      obtain ⟨r1063, hc, h⟩ := bd1_some h
      have hPc : va_P D vwCl (wPW T ad (ad 6) (ad 12) rs rm ts tm rdue rtun rsee rbeg psize pclause peff pkin pgri psig psee qsize qclause qeff qkin qgri qsig qsee w1053_cdee w1053_cnow w1053_cahe kdee know kahe w1053_fc w1053_lf told up lo) _ := my_subP sb_wLW_wPW_0to37 hP
      refine my_roi (va_Run.run (va_runV (As := [.int (4 : Int32)]) (rest := []) hFix (kX5_count l D T F ad rs rm ts tm rdue rtun rsee rbeg psize pclause peff pkin pgri psig psee qsize qclause qeff qkin qgri qsig qsee w1053_cdee w1053_cnow w1053_cahe kdee know kahe w1053_fc w1053_lf told up lo (4 : Int32) r1063 hc) (cwV 1 hts gL_law_X5_count rfl rfl rfl ⟨rfl, hd_X5_count⟩ ⟨Nat.le_of_ble_eq_true rfl, Nat.le_of_ble_eq_true rfl⟩) (preV_ro hPc hKK (va_recv hK hP (ci := 3) (q0 := 0) rfl wLW_0)) rfl rfl hl.1 rfl (lv_room (Nat.le_of_ble_eq_true rfl)) dL_law_1063 ⟨Nat.le_of_ble_eq_true rfl, Nat.le_of_ble_eq_true rfl⟩)) ?_
      refine lv_iload hx hb dL_law_1066 (lv_at hl 7 rfl) ?_
      refine lv_icmp_eq (tgt := 1073) hx hb dL_law_1068 (by decide) (fun c1068 => ?_) (fun c1068 => ?_)
      · have h := br_1 h c1068
        exact LN_law_n1073 F x4 x5 x7 x8 x9 rs rm ts tm rdue rtun rsee rbeg psize pclause peff pkin pgri psig psee qsize qclause qeff qkin qgri qsig qsee w1053_cdee w1053_cnow w1053_cahe kdee know kahe w1053_fc w1053_lf told up lo zz tt C0 hret h ad _ _ ho hP hD hS _ (lv_sub hl [0, 1, 2, 3, 4, 5, 6, 7, 8] rfl)
      · have h := br_0 h c1068
        refine lv_iconst (v := (0 : Int32)) hx hb dL_law_1071 (by decide) ?_
        exact absurd (Option.some.inj h) (by decide)
set_option maxHeartbeats 4000000 in
set_option maxRecDepth 100000 in
theorem LN_law_l961 {p : Program} {l : Launch} {e : Env} {s : State} {m : MethodId} {args : Array Value} {below : List Frame} {meth : Method} {c : Code} {Q : State → Prop} {D : va_G} {T : Nat → ClassId} {b L : Nat} {xs : Nat → Int32} {A : Nat → Prop} {o0 za ta : Nat} (F : Nat) (x4 : Int32) (x5 : Int32) (x7 : Int32) (x8 : Int32) (x9 : Int32) (x10 : Int32) (x15 : Int32) (x17 : Int32) (rs : Nat → Int32) (rm : Nat → Nat → Int32) (ts : Nat → Int32) (tm : Nat → Nat → Int32) (rdue : Int32) (rtun : Int32) (rsee : Int32) (rbeg : Int32) (psize : Int32) (pclause : Int32) (peff : Nat → Int32) (pkin : Nat → Int32) (pgri : Nat → Int32) (psig : Nat → Int32) (psee : Nat → Int32) (qsize : Int32) (qclause : Int32) (qeff : Nat → Int32) (qkin : Nat → Int32) (qgri : Nat → Int32) (qsig : Nat → Int32) (qsee : Nat → Int32) (kdee : Nat → Int32) (know : Nat → Int64) (kahe : Nat → Nat → Int64) (up : Int64) (lo : Int64) (zz : Nat → Int32) (tt : Nat → Int32) (C0 : SC_law p s m args c D T b L xs A) (hret : HR_law p l e s m args below meth c Q A) : ∀ (nu : Nat) (x16 : Int32) (x18 : Int32) (cdee : Int32) (cnow : Int64) (cahe : Nat → Int64) (fc : Nat → Int32) (lf : Int32) (told : Int32), fL_law_l961 F L xs x4 x5 x7 x8 x9 x10 x15 x17 rs rm ts tm rdue rtun rsee rbeg psize pclause peff pkin pgri psig psee qsize qclause qeff qkin qgri qsig qsee kdee know kahe up lo zz tt nu x16 x18 cdee cnow cahe fc lf told = some (1 : Int32) → ∀ (ad : Nat → Nat) (H : Heap) (locs : List Loc), ad 0 = o0 → va_P D vwCl (wLW T ad (ad 6) (ad 12) za ta rs rm ts tm rdue rtun rsee rbeg psize pclause peff pkin pgri psig psee qsize qclause qeff qkin qgri qsig qsee cdee cnow cahe kdee know kahe fc lf told up lo zz tt) H → va_D A (wLW T ad (ad 6) (ad 12) za ta rs rm ts tm rdue rtun rsee rbeg psize pclause peff pkin pgri psig psee qsize qclause qeff qkin qgri qsig qsee cdee cnow cahe kdee know kahe fc lf told up lo zz tt) → va_S A s.heap H locs → ∀ (ls : Array Slot), lv_has ls 31 [(0, .ref b), (1, .ref (ad 0)), (2, .ref za), (3, .ref ta), (4, .int x4), (5, .int x5), (7, .int x7), (8, .int x8), (9, .int x9), (10, .int x10), (15, .int x15), (16, .int x16), (17, .int x17), (18, .int x18)] → W p l e room_1 s m args below meth c H locs 40 874 Q (F0 m 961 ls []) := by
  intro nu
  induction nu with
  | zero => intro x16 x18 cdee cnow cahe fc lf told h; exact none_some h
  | succ nu ih961 =>
    intro x16 x18 cdee cnow cahe fc lf told h ad H locs ho hP hD hS ls hl
    obtain ⟨hFix, hKK, hA, hX, hbl, hbA⟩ := id C0
    obtain ⟨hx, hb, hml, hown, hts⟩ := id hFix
    have hK := hKK.1
    have h : fL_law_l961_b F L xs x4 x5 x7 x8 x9 x10 x15 x17 rs rm ts tm rdue rtun rsee rbeg psize pclause peff pkin pgri psig psee qsize qclause qeff qkin qgri qsig qsee kdee know kahe up lo zz tt (fL_law_l961 F L xs x4 x5 x7 x8 x9 x10 x15 x17 rs rm ts tm rdue rtun rsee rbeg psize pclause peff pkin pgri psig psee qsize qclause qeff qkin qgri qsig qsee kdee know kahe up lo zz tt nu) x16 x18 cdee cnow cahe fc lf told = some (1 : Int32) := h
    unfold fL_law_l961_b at h
    refine lv_iload hx hb dL_law_961 (lv_at hl 13 rfl) ?_
    refine lv_iload hx hb dL_law_963 (lv_at hl 9 rfl) ?_
    refine lv_icmp_ge (tgt := 1044) hx hb dL_law_965 (by decide) (fun c965 => ?_) (fun c965 => ?_)
    · have h := br_1 h c965
      exact LN_law_n1044 F x4 x5 x7 x8 x9 x15 x16 rs rm ts tm rdue rtun rsee rbeg psize pclause peff pkin pgri psig psee qsize qclause qeff qkin qgri qsig qsee cdee cnow cahe kdee know kahe fc lf told up lo zz tt C0 hret h ad _ _ ho hP hD hS _ (lv_sub hl [0, 1, 2, 3, 4, 5, 6, 7, 8, 10, 11] rfl)
    · have h := br_0 h c965
      refine lv_aload_n hx hb dL_law_968 rfl (lv_at hl 1 rfl) ?_
      refine lv_iconst (v := (3 : Int32)) hx hb dL_law_969 (by decide) ?_
      refine lv_iload hx hb dL_law_970 (lv_at hl 13 rfl) ?_
      obtain ⟨r972, w972_fc, w972_lf, w972_told, hc, h⟩ := bd4_some h
      have hPc : va_P D vwCl (wPW T ad (ad 6) (ad 12) rs rm ts tm rdue rtun rsee rbeg psize pclause peff pkin pgri psig psee qsize qclause qeff qkin qgri qsig qsee cdee cnow cahe kdee know kahe fc lf told up lo) _ := my_subP sb_wLW_wPW_0to37 hP
      have hDc := hD.sub [0, 1, 2, 3, 4, 5, 6, 7, 8, 9, 10, 11, 12, 13, 14, 15, 16, 17, 18, 19, 20, 21, 22, 23, 24, 25, 26, 27, 28, 29, 30, 31, 32, 33, 34, 35, 36, 37] nd_LW sb_wLW_wPW_0to37
      have hFc := va_free hD hS hA [0, 1, 2, 3, 4, 5, 6, 7, 8, 9, 10, 11, 12, 13, 14, 15, 16, 17, 18, 19, 20, 21, 22, 23, 24, 25, 26, 27, 28, 29, 30, 31, 32, 33, 34, 35, 36, 37] sb_wLW_wPW_0to37
      refine my_rwi (va_runV (As := [.int (3 : Int32), .int x18]) (rest := []) hFix (kX5_at l D T F ad rs rm ts tm rdue rtun rsee rbeg psize pclause peff pkin pgri psig psee qsize qclause qeff qkin qgri qsig qsee cdee cnow cahe kdee know kahe fc lf told up lo (3 : Int32) x18 r972 w972_fc w972_lf w972_told hc _) (cwV 2 hts gL_law_X5_at rfl rfl rfl ⟨rfl, hd_X5_at⟩ ⟨Nat.le_of_ble_eq_true rfl, Nat.le_of_ble_eq_true rfl⟩) (preV_rw hPc hKK hDc (va_recv hK hP (ci := 3) (q0 := 0) rfl wLW_0)) rfl rfl hl.1 rfl (lv_room (Nat.le_of_ble_eq_true rfl)) dL_law_972 ⟨Nat.le_of_ble_eq_true rfl, Nat.le_of_ble_eq_true rfl⟩) hS hFc (fun H1 locs hP1 hD1 hz1 hkk hS => ?_)
      obtain ⟨hP, hD⟩ := my_joinS hP hD nd_LW sb_wLW_wPW_0to37 (by rfl) hkk hFc hP1 hD1
      rw [st_LW] at hP hD
      generalize H1 = H at hP hS ⊢
      refine lv_iconst (v := (1 : Int32)) hx hb dL_law_975 (by decide) ?_
      refine lv_icmp_eq (tgt := 981) hx hb dL_law_976 (by decide) (fun c976 => ?_) (fun c976 => ?_)
      · have h := br_1 h c976
        exact LN_law_n981 F (fL_law_l961 F L xs x4 x5 x7 x8 x9 x10 x15 x17 rs rm ts tm rdue rtun rsee rbeg psize pclause peff pkin pgri psig psee qsize qclause qeff qkin qgri qsig qsee kdee know kahe up lo zz tt nu) x4 x5 x7 x8 x9 x10 x15 x16 x17 x18 rs rm ts tm rdue rtun rsee rbeg psize pclause peff pkin pgri psig psee qsize qclause qeff qkin qgri qsig qsee cdee cnow cahe kdee know kahe w972_fc w972_lf w972_told up lo zz tt C0 hret ih961 h ad _ _ ho hP hD hS _ (lv_sub hl [0, 1, 2, 3, 4, 5, 6, 7, 8, 9, 10, 11, 12, 13] rfl)
      · have h := br_0 h c976
        refine lv_iconst (v := (0 : Int32)) hx hb dL_law_979 (by decide) ?_
        exact absurd (Option.some.inj h) (by decide)
set_option maxHeartbeats 4000000 in
set_option maxRecDepth 100000 in
theorem LN_law_n948 {p : Program} {l : Launch} {e : Env} {s : State} {m : MethodId} {args : Array Value} {below : List Frame} {meth : Method} {c : Code} {Q : State → Prop} {D : va_G} {T : Nat → ClassId} {b L : Nat} {xs : Nat → Int32} {A : Nat → Prop} {o0 za ta : Nat} (F : Nat) (x4 : Int32) (x5 : Int32) (x7 : Int32) (x8 : Int32) (x9 : Int32) (x10 : Int32) (x15 : Int32) (rs : Nat → Int32) (rm : Nat → Nat → Int32) (ts : Nat → Int32) (tm : Nat → Nat → Int32) (rdue : Int32) (rtun : Int32) (rsee : Int32) (rbeg : Int32) (psize : Int32) (pclause : Int32) (peff : Nat → Int32) (pkin : Nat → Int32) (pgri : Nat → Int32) (psig : Nat → Int32) (psee : Nat → Int32) (qsize : Int32) (qclause : Int32) (qeff : Nat → Int32) (qkin : Nat → Int32) (qgri : Nat → Int32) (qsig : Nat → Int32) (qsee : Nat → Int32) (cdee : Int32) (cnow : Int64) (cahe : Nat → Int64) (kdee : Nat → Int32) (know : Nat → Int64) (kahe : Nat → Nat → Int64) (fc : Nat → Int32) (lf : Int32) (told : Int32) (up : Int64) (lo : Int64) (zz : Nat → Int32) (tt : Nat → Int32) (C0 : SC_law p s m args c D T b L xs A) (hret : HR_law p l e s m args below meth c Q A) (h : fL_law_n948 F L xs x4 x5 x7 x8 x9 x10 x15 rs rm ts tm rdue rtun rsee rbeg psize pclause peff pkin pgri psig psee qsize qclause qeff qkin qgri qsig qsee cdee cnow cahe kdee know kahe fc lf told up lo zz tt = some (1 : Int32)) : ∀ (ad : Nat → Nat) (H : Heap) (locs : List Loc), ad 0 = o0 → va_P D vwCl (wLW T ad (ad 6) (ad 12) za ta rs rm ts tm rdue rtun rsee rbeg psize pclause peff pkin pgri psig psee qsize qclause qeff qkin qgri qsig qsee cdee cnow cahe kdee know kahe fc lf told up lo zz tt) H → va_D A (wLW T ad (ad 6) (ad 12) za ta rs rm ts tm rdue rtun rsee rbeg psize pclause peff pkin pgri psig psee qsize qclause qeff qkin qgri qsig qsee cdee cnow cahe kdee know kahe fc lf told up lo zz tt) → va_S A s.heap H locs → ∀ (ls : Array Slot), lv_has ls 31 [(0, .ref b), (1, .ref (ad 0)), (2, .ref za), (3, .ref ta), (4, .int x4), (5, .int x5), (7, .int x7), (8, .int x8), (9, .int x9), (10, .int x10), (15, .int x15)] → W p l e room_1 s m args below meth c H locs 40 874 Q (F0 m 948 ls []) := by
  intro ad H locs ho hP hD hS ls hl
  obtain ⟨hFix, hKK, hA, hX, hbl, hbA⟩ := id C0
  obtain ⟨hx, hb, hml, hown, hts⟩ := id hFix
  have hK := hKK.1
  unfold fL_law_n948 at h
  refine lv_iconst (v := (0 : Int32)) hx hb dL_law_948 (by decide) ?_
  refine lv_istore (lv' := [(16, .int (0 : Int32)), (0, .ref b), (1, .ref (ad 0)), (2, .ref za), (3, .ref ta), (4, .int x4), (5, .int x5), (7, .int x7), (8, .int x8), (9, .int x9), (10, .int x10), (15, .int x15)]) hx hb dL_law_949 hl (by decide) rfl (fun ls hl => ?_)
  refine lv_aload_n hx hb dL_law_951 rfl (lv_at hl 2 rfl) ?_
  refine lv_iconst (v := (3 : Int32)) hx hb dL_law_952 (by decide) ?_
  obtain ⟨r953, w953_fc, w953_lf, w953_told, hc, h⟩ := bd4_some h
  have hPc : va_P D vwCl (wPW T ad (ad 6) (ad 12) rs rm ts tm rdue rtun rsee rbeg psize pclause peff pkin pgri psig psee qsize qclause qeff qkin qgri qsig qsee cdee cnow cahe kdee know kahe fc lf told up lo) _ := my_subP sb_wLW_wPW_0to37 hP
  have hDc := hD.sub [0, 1, 2, 3, 4, 5, 6, 7, 8, 9, 10, 11, 12, 13, 14, 15, 16, 17, 18, 19, 20, 21, 22, 23, 24, 25, 26, 27, 28, 29, 30, 31, 32, 33, 34, 35, 36, 37] nd_LW sb_wLW_wPW_0to37
  have hFc := va_free hD hS hA [0, 1, 2, 3, 4, 5, 6, 7, 8, 9, 10, 11, 12, 13, 14, 15, 16, 17, 18, 19, 20, 21, 22, 23, 24, 25, 26, 27, 28, 29, 30, 31, 32, 33, 34, 35, 36, 37] sb_wLW_wPW_0to37
  refine my_rwi (va_runV (As := [.int (3 : Int32)]) (rest := []) hFix (kX5_falls l D T F ad rs rm ts tm rdue rtun rsee rbeg psize pclause peff pkin pgri psig psee qsize qclause qeff qkin qgri qsig qsee cdee cnow cahe kdee know kahe fc lf told up lo (3 : Int32) r953 w953_fc w953_lf w953_told hc _) (cwV 1 hts gL_law_X5_falls rfl rfl rfl ⟨rfl, hd_X5_falls⟩ ⟨Nat.le_of_ble_eq_true rfl, Nat.le_of_ble_eq_true rfl⟩) (preV_rw hPc hKK hDc (va_recv hK hP (ci := 3) (q0 := 0) rfl wLW_0)) rfl rfl hl.1 rfl (lv_room (Nat.le_of_ble_eq_true rfl)) dL_law_953 ⟨Nat.le_of_ble_eq_true rfl, Nat.le_of_ble_eq_true rfl⟩) hS hFc (fun H1 locs hP1 hD1 hz1 hkk hS => ?_)
  obtain ⟨hP, hD⟩ := my_joinS hP hD nd_LW sb_wLW_wPW_0to37 (by rfl) hkk hFc hP1 hD1
  rw [st_LW] at hP hD
  generalize H1 = H at hP hS ⊢
  refine lv_istore (lv' := [(17, .int r953), (16, .int (0 : Int32)), (0, .ref b), (1, .ref (ad 0)), (2, .ref za), (3, .ref ta), (4, .int x4), (5, .int x5), (7, .int x7), (8, .int x8), (9, .int x9), (10, .int x10), (15, .int x15)]) hx hb dL_law_956 hl (by decide) rfl (fun ls hl => ?_)
  refine lv_iconst (v := (0 : Int32)) hx hb dL_law_958 (by decide) ?_
  refine lv_istore (lv' := [(18, .int (0 : Int32)), (17, .int r953), (16, .int (0 : Int32)), (0, .ref b), (1, .ref (ad 0)), (2, .ref za), (3, .ref ta), (4, .int x4), (5, .int x5), (7, .int x7), (8, .int x8), (9, .int x9), (10, .int x10), (15, .int x15)]) hx hb dL_law_959 hl (by decide) rfl (fun ls hl => ?_)
  exact LN_law_l961 F x4 x5 x7 x8 x9 x10 x15 r953 rs rm ts tm rdue rtun rsee rbeg psize pclause peff pkin pgri psig psee qsize qclause qeff qkin qgri qsig qsee kdee know kahe up lo zz tt C0 hret F (0 : Int32) (0 : Int32) cdee cnow cahe w953_fc w953_lf w953_told h ad _ _ ho hP hD hS _ (lv_sub hl [3, 4, 5, 6, 7, 8, 9, 10, 11, 12, 13, 2, 1, 0] rfl)
set_option maxHeartbeats 4000000 in
set_option maxRecDepth 100000 in
theorem LN_law_n901 {p : Program} {l : Launch} {e : Env} {s : State} {m : MethodId} {args : Array Value} {below : List Frame} {meth : Method} {c : Code} {Q : State → Prop} {D : va_G} {T : Nat → ClassId} {b L : Nat} {xs : Nat → Int32} {A : Nat → Prop} {o0 za ta : Nat} (F : Nat) (x4 : Int32) (x5 : Int32) (x7 : Int32) (x8 : Int32) (x9 : Int32) (x10 : Int32) (x13 : Int32) (x14 : Int32) (x15 : Int32) (rs : Nat → Int32) (rm : Nat → Nat → Int32) (ts : Nat → Int32) (tm : Nat → Nat → Int32) (rdue : Int32) (rtun : Int32) (rsee : Int32) (rbeg : Int32) (psize : Int32) (pclause : Int32) (peff : Nat → Int32) (pkin : Nat → Int32) (pgri : Nat → Int32) (psig : Nat → Int32) (psee : Nat → Int32) (qsize : Int32) (qclause : Int32) (qeff : Nat → Int32) (qkin : Nat → Int32) (qgri : Nat → Int32) (qsig : Nat → Int32) (qsee : Nat → Int32) (cdee : Int32) (cnow : Int64) (cahe : Nat → Int64) (kdee : Nat → Int32) (know : Nat → Int64) (kahe : Nat → Nat → Int64) (fc : Nat → Int32) (lf : Int32) (told : Int32) (up : Int64) (lo : Int64) (zz : Nat → Int32) (tt : Nat → Int32) (C0 : SC_law p s m args c D T b L xs A) (hret : HR_law p l e s m args below meth c Q A) (h : fL_law_n901 F L xs x4 x5 x7 x8 x9 x10 x13 x14 x15 rs rm ts tm rdue rtun rsee rbeg psize pclause peff pkin pgri psig psee qsize qclause qeff qkin qgri qsig qsee cdee cnow cahe kdee know kahe fc lf told up lo zz tt = some (1 : Int32)) : ∀ (ad : Nat → Nat) (H : Heap) (locs : List Loc), ad 0 = o0 → va_P D vwCl (wLW T ad (ad 6) (ad 12) za ta rs rm ts tm rdue rtun rsee rbeg psize pclause peff pkin pgri psig psee qsize qclause qeff qkin qgri qsig qsee cdee cnow cahe kdee know kahe fc lf told up lo zz tt) H → va_D A (wLW T ad (ad 6) (ad 12) za ta rs rm ts tm rdue rtun rsee rbeg psize pclause peff pkin pgri psig psee qsize qclause qeff qkin qgri qsig qsee cdee cnow cahe kdee know kahe fc lf told up lo zz tt) → va_S A s.heap H locs → ∀ (ls : Array Slot), lv_has ls 31 [(0, .ref b), (1, .ref (ad 0)), (2, .ref za), (3, .ref ta), (4, .int x4), (5, .int x5), (7, .int x7), (8, .int x8), (9, .int x9), (10, .int x10), (13, .int x13), (14, .int x14), (15, .int x15)] → W p l e room_1 s m args below meth c H locs 40 874 Q (F0 m 901 ls []) := by
  intro ad H locs ho hP hD hS ls hl
  obtain ⟨hFix, hKK, hA, hX, hbl, hbA⟩ := id C0
  obtain ⟨hx, hb, hml, hown, hts⟩ := id hFix
  have hK := hKK.1
  unfold fL_law_n901 at h
  refine lv_iload hx hb dL_law_901 (lv_at hl 11 rfl) ?_
  refine lv_if_le (tgt := 948) hx hb dL_law_903 (by decide) (fun c903 => ?_) (fun c903 => ?_)
  · have h := br_1 h c903
    exact LN_law_n948 F x4 x5 x7 x8 x9 x10 x15 rs rm ts tm rdue rtun rsee rbeg psize pclause peff pkin pgri psig psee qsize qclause qeff qkin qgri qsig qsee cdee cnow cahe kdee know kahe fc lf told up lo zz tt C0 hret h ad _ _ ho hP hD hS _ (lv_sub hl [0, 1, 2, 3, 4, 5, 6, 7, 8, 9, 12] rfl)
  · have h := br_0 h c903
    refine lv_aload_n hx hb dL_law_906 rfl (lv_at hl 1 rfl) ?_
    refine lv_iconst (v := (2 : Int32)) hx hb dL_law_907 (by decide) ?_
    obtain ⟨r908, w908_fc, w908_lf, w908_told, hc, h⟩ := bd4_some h
    have hPc : va_P D vwCl (wPW T ad (ad 6) (ad 12) rs rm ts tm rdue rtun rsee rbeg psize pclause peff pkin pgri psig psee qsize qclause qeff qkin qgri qsig qsee cdee cnow cahe kdee know kahe fc lf told up lo) _ := my_subP sb_wLW_wPW_0to37 hP
    have hDc := hD.sub [0, 1, 2, 3, 4, 5, 6, 7, 8, 9, 10, 11, 12, 13, 14, 15, 16, 17, 18, 19, 20, 21, 22, 23, 24, 25, 26, 27, 28, 29, 30, 31, 32, 33, 34, 35, 36, 37] nd_LW sb_wLW_wPW_0to37
    have hFc := va_free hD hS hA [0, 1, 2, 3, 4, 5, 6, 7, 8, 9, 10, 11, 12, 13, 14, 15, 16, 17, 18, 19, 20, 21, 22, 23, 24, 25, 26, 27, 28, 29, 30, 31, 32, 33, 34, 35, 36, 37] sb_wLW_wPW_0to37
    refine my_rwi (va_runV (As := [.int (2 : Int32)]) (rest := []) hFix (kX5_falls l D T F ad rs rm ts tm rdue rtun rsee rbeg psize pclause peff pkin pgri psig psee qsize qclause qeff qkin qgri qsig qsee cdee cnow cahe kdee know kahe fc lf told up lo (2 : Int32) r908 w908_fc w908_lf w908_told hc _) (cwV 1 hts gL_law_X5_falls rfl rfl rfl ⟨rfl, hd_X5_falls⟩ ⟨Nat.le_of_ble_eq_true rfl, Nat.le_of_ble_eq_true rfl⟩) (preV_rw hPc hKK hDc (va_recv hK hP (ci := 3) (q0 := 0) rfl wLW_0)) rfl rfl hl.1 rfl (lv_room (Nat.le_of_ble_eq_true rfl)) dL_law_908 ⟨Nat.le_of_ble_eq_true rfl, Nat.le_of_ble_eq_true rfl⟩) hS hFc (fun H1 locs hP1 hD1 hz1 hkk hS => ?_)
    obtain ⟨hP, hD⟩ := my_joinS hP hD nd_LW sb_wLW_wPW_0to37 (by rfl) hkk hFc hP1 hD1
    rw [st_LW] at hP hD
    generalize H1 = H at hP hS ⊢
    refine lv_bipush (v := (-9 : Int32)) hx hb dL_law_911 (by decide) ?_
    refine lv_icmp_ne (tgt := 946) hx hb dL_law_913 (by decide) (fun c913 => ?_) (fun c913 => ?_)
    · have h := br_0 h c913
      refine lv_iconst (v := (0 : Int32)) hx hb dL_law_946 (by decide) ?_
      exact absurd (Option.some.inj h) (by decide)
    · have h := br_1 h c913
      refine lv_aload_n hx hb dL_law_916 rfl (lv_at hl 1 rfl) ?_
      obtain ⟨r917, hc, h⟩ := bd1_some h
      have hPc : va_P D vwCl (wPW T ad (ad 6) (ad 12) rs rm ts tm rdue rtun rsee rbeg psize pclause peff pkin pgri psig psee qsize qclause qeff qkin qgri qsig qsee cdee cnow cahe kdee know kahe w908_fc w908_lf w908_told up lo) _ := my_subP sb_wLW_wPW_0to37 hP
      refine my_roi (va_Run.run (va_runV (As := []) (rest := []) hFix (kX5_asked l D T F ad rs rm ts tm rdue rtun rsee rbeg psize pclause peff pkin pgri psig psee qsize qclause qeff qkin qgri qsig qsee cdee cnow cahe kdee know kahe w908_fc w908_lf w908_told up lo r917 hc) (cwV 0 hts gL_law_X5_asked rfl rfl rfl ⟨rfl, hd_X5_asked⟩ ⟨Nat.le_of_ble_eq_true rfl, Nat.le_of_ble_eq_true rfl⟩) (preV_ro hPc hKK (va_recv hK hP (ci := 3) (q0 := 0) rfl wLW_0)) rfl rfl hl.1 rfl (lv_room (Nat.le_of_ble_eq_true rfl)) dL_law_917 ⟨Nat.le_of_ble_eq_true rfl, Nat.le_of_ble_eq_true rfl⟩)) ?_
      refine lv_if_ne (tgt := 946) hx hb dL_law_920 (by decide) (fun c920 => ?_) (fun c920 => ?_)
      · have h := br_0 h c920
        refine lv_iconst (v := (0 : Int32)) hx hb dL_law_946 (by decide) ?_
        exact absurd (Option.some.inj h) (by decide)
      · have h := br_1 h c920
        refine lv_aload_n hx hb dL_law_923 rfl (lv_at hl 1 rfl) ?_
        refine lv_iconst (v := (2 : Int32)) hx hb dL_law_924 (by decide) ?_
        refine lv_iconst (v := (0 : Int32)) hx hb dL_law_925 (by decide) ?_
        obtain ⟨r926, w926_fc, w926_lf, w926_told, hc, h⟩ := bd4_some h
        have hPc : va_P D vwCl (wPW T ad (ad 6) (ad 12) rs rm ts tm rdue rtun rsee rbeg psize pclause peff pkin pgri psig psee qsize qclause qeff qkin qgri qsig qsee cdee cnow cahe kdee know kahe w908_fc w908_lf w908_told up lo) _ := my_subP sb_wLW_wPW_0to37 hP
        have hDc := hD.sub [0, 1, 2, 3, 4, 5, 6, 7, 8, 9, 10, 11, 12, 13, 14, 15, 16, 17, 18, 19, 20, 21, 22, 23, 24, 25, 26, 27, 28, 29, 30, 31, 32, 33, 34, 35, 36, 37] nd_LW sb_wLW_wPW_0to37
        have hFc := va_free hD hS hA [0, 1, 2, 3, 4, 5, 6, 7, 8, 9, 10, 11, 12, 13, 14, 15, 16, 17, 18, 19, 20, 21, 22, 23, 24, 25, 26, 27, 28, 29, 30, 31, 32, 33, 34, 35, 36, 37] sb_wLW_wPW_0to37
        refine my_rwi (va_runV (As := [.int (2 : Int32), .int (0 : Int32)]) (rest := []) hFix (kX5_at l D T F ad rs rm ts tm rdue rtun rsee rbeg psize pclause peff pkin pgri psig psee qsize qclause qeff qkin qgri qsig qsee cdee cnow cahe kdee know kahe w908_fc w908_lf w908_told up lo (2 : Int32) (0 : Int32) r926 w926_fc w926_lf w926_told hc _) (cwV 2 hts gL_law_X5_at rfl rfl rfl ⟨rfl, hd_X5_at⟩ ⟨Nat.le_of_ble_eq_true rfl, Nat.le_of_ble_eq_true rfl⟩) (preV_rw hPc hKK hDc (va_recv hK hP (ci := 3) (q0 := 0) rfl wLW_0)) rfl rfl hl.1 rfl (lv_room (Nat.le_of_ble_eq_true rfl)) dL_law_926 ⟨Nat.le_of_ble_eq_true rfl, Nat.le_of_ble_eq_true rfl⟩) hS hFc (fun H1 locs hP1 hD1 hz1 hkk hS => ?_)
        obtain ⟨hP, hD⟩ := my_joinS hP hD nd_LW sb_wLW_wPW_0to37 (by rfl) hkk hFc hP1 hD1
        rw [st_LW] at hP hD
        generalize H1 = H at hP hS ⊢
        refine lv_iconst (v := (1 : Int32)) hx hb dL_law_929 (by decide) ?_
        refine lv_icmp_ne (tgt := 946) hx hb dL_law_930 (by decide) (fun c930 => ?_) (fun c930 => ?_)
        · have h := br_0 h c930
          refine lv_iconst (v := (0 : Int32)) hx hb dL_law_946 (by decide) ?_
          exact absurd (Option.some.inj h) (by decide)
        · have h := br_1 h c930
          refine lv_iload hx hb dL_law_933 (lv_at hl 10 rfl) ?_
          refine lv_aload_n hx hb dL_law_935 rfl (lv_at hl 1 rfl) ?_
          obtain ⟨r936, hc, h⟩ := bd1_some h
          have hPc : va_P D vwCl (wPW T ad (ad 6) (ad 12) rs rm ts tm rdue rtun rsee rbeg psize pclause peff pkin pgri psig psee qsize qclause qeff qkin qgri qsig qsee cdee cnow cahe kdee know kahe w926_fc w926_lf w926_told up lo) _ := my_subP sb_wLW_wPW_0to37 hP
          refine my_roi (va_Run.run (va_runV (As := []) (rest := [.int x13]) hFix (kX5_asked l D T F ad rs rm ts tm rdue rtun rsee rbeg psize pclause peff pkin pgri psig psee qsize qclause qeff qkin qgri qsig qsee cdee cnow cahe kdee know kahe w926_fc w926_lf w926_told up lo r936 hc) (cwV 0 hts gL_law_X5_asked rfl rfl rfl ⟨rfl, hd_X5_asked⟩ ⟨Nat.le_of_ble_eq_true rfl, Nat.le_of_ble_eq_true rfl⟩) (preV_ro hPc hKK (va_recv hK hP (ci := 3) (q0 := 0) rfl wLW_0)) rfl rfl hl.1 rfl (lv_room (Nat.le_of_ble_eq_true rfl)) dL_law_936 ⟨Nat.le_of_ble_eq_true rfl, Nat.le_of_ble_eq_true rfl⟩)) ?_
          refine lv_ishr hx hb dL_law_939 ?_
          refine lv_iconst (v := (1 : Int32)) hx hb dL_law_940 (by decide) ?_
          refine lv_iand hx hb dL_law_941 ?_
          refine lv_iconst (v := (1 : Int32)) hx hb dL_law_942 (by decide) ?_
          refine lv_icmp_eq (tgt := 948) hx hb dL_law_943 (by decide) (fun c943 => ?_) (fun c943 => ?_)
          · have h := br_1 h c943
            exact LN_law_n948 F x4 x5 x7 x8 x9 x10 x15 rs rm ts tm rdue rtun rsee rbeg psize pclause peff pkin pgri psig psee qsize qclause qeff qkin qgri qsig qsee cdee cnow cahe kdee know kahe w926_fc w926_lf w926_told up lo zz tt C0 hret h ad _ _ ho hP hD hS _ (lv_sub hl [0, 1, 2, 3, 4, 5, 6, 7, 8, 9, 12] rfl)
          · have h := br_0 h c943
            refine lv_iconst (v := (0 : Int32)) hx hb dL_law_946 (by decide) ?_
            exact absurd (Option.some.inj h) (by decide)
set_option maxHeartbeats 4000000 in
set_option maxRecDepth 100000 in
theorem LN_law_n884 {p : Program} {l : Launch} {e : Env} {s : State} {m : MethodId} {args : Array Value} {below : List Frame} {meth : Method} {c : Code} {Q : State → Prop} {D : va_G} {T : Nat → ClassId} {b L : Nat} {xs : Nat → Int32} {A : Nat → Prop} {o0 za ta : Nat} (F : Nat) (s_0 : Int32) (s_1 : Int32) (x4 : Int32) (x5 : Int32) (x7 : Int32) (x8 : Int32) (x9 : Int32) (x10 : Int32) (x13 : Int32) (x14 : Int32) (x15 : Int32) (rs : Nat → Int32) (rm : Nat → Nat → Int32) (ts : Nat → Int32) (tm : Nat → Nat → Int32) (rdue : Int32) (rtun : Int32) (rsee : Int32) (rbeg : Int32) (psize : Int32) (pclause : Int32) (peff : Nat → Int32) (pkin : Nat → Int32) (pgri : Nat → Int32) (psig : Nat → Int32) (psee : Nat → Int32) (qsize : Int32) (qclause : Int32) (qeff : Nat → Int32) (qkin : Nat → Int32) (qgri : Nat → Int32) (qsig : Nat → Int32) (qsee : Nat → Int32) (cdee : Int32) (cnow : Int64) (cahe : Nat → Int64) (kdee : Nat → Int32) (know : Nat → Int64) (kahe : Nat → Nat → Int64) (fc : Nat → Int32) (lf : Int32) (told : Int32) (up : Int64) (lo : Int64) (zz : Nat → Int32) (tt : Nat → Int32) (C0 : SC_law p s m args c D T b L xs A) (hret : HR_law p l e s m args below meth c Q A) (h : fL_law_n884 F L xs s_0 s_1 x4 x5 x7 x8 x9 x10 x13 x14 x15 rs rm ts tm rdue rtun rsee rbeg psize pclause peff pkin pgri psig psee qsize qclause qeff qkin qgri qsig qsee cdee cnow cahe kdee know kahe fc lf told up lo zz tt = some (1 : Int32)) : ∀ (ad : Nat → Nat) (H : Heap) (locs : List Loc), ad 0 = o0 → va_P D vwCl (wLW T ad (ad 6) (ad 12) za ta rs rm ts tm rdue rtun rsee rbeg psize pclause peff pkin pgri psig psee qsize qclause qeff qkin qgri qsig qsee cdee cnow cahe kdee know kahe fc lf told up lo zz tt) H → va_D A (wLW T ad (ad 6) (ad 12) za ta rs rm ts tm rdue rtun rsee rbeg psize pclause peff pkin pgri psig psee qsize qclause qeff qkin qgri qsig qsee cdee cnow cahe kdee know kahe fc lf told up lo zz tt) → va_S A s.heap H locs → ∀ (ls : Array Slot), lv_has ls 31 [(0, .ref b), (1, .ref (ad 0)), (2, .ref za), (3, .ref ta), (4, .int x4), (5, .int x5), (7, .int x7), (8, .int x8), (9, .int x9), (10, .int x10), (13, .int x13), (14, .int x14), (15, .int x15)] → W p l e room_1 s m args below meth c H locs 40 874 Q (F0 m 884 ls [.int s_1, .int s_0]) := by
  intro ad H locs ho hP hD hS ls hl
  obtain ⟨hFix, hKK, hA, hX, hbl, hbA⟩ := id C0
  obtain ⟨hx, hb, hml, hown, hts⟩ := id hFix
  have hK := hKK.1
  unfold fL_law_n884 at h
  refine lv_icmp_ne (tgt := 899) hx hb dL_law_884 (by decide) (fun c884 => ?_) (fun c884 => ?_)
  · have h := br_0 h c884
    refine lv_iconst (v := (0 : Int32)) hx hb dL_law_899 (by decide) ?_
    exact absurd (Option.some.inj h) (by decide)
  · have h := br_1 h c884
    refine lv_iload hx hb dL_law_887 (lv_at hl 12 rfl) ?_
    refine lv_if_lt (tgt := 899) hx hb dL_law_889 (by decide) (fun c889 => ?_) (fun c889 => ?_)
    · have h := br_1 h c889
      refine lv_iconst (v := (0 : Int32)) hx hb dL_law_899 (by decide) ?_
      exact absurd (Option.some.inj h) (by decide)
    · have h := br_0 h c889
      refine lv_iload hx hb dL_law_892 (lv_at hl 12 rfl) ?_
      refine lv_iload hx hb dL_law_894 (lv_at hl 6 rfl) ?_
      refine lv_icmp_le (tgt := 901) hx hb dL_law_896 (by decide) (fun c896 => ?_) (fun c896 => ?_)
      · have h := br_1 h c896
        exact LN_law_n901 F x4 x5 x7 x8 x9 x10 x13 x14 x15 rs rm ts tm rdue rtun rsee rbeg psize pclause peff pkin pgri psig psee qsize qclause qeff qkin qgri qsig qsee cdee cnow cahe kdee know kahe fc lf told up lo zz tt C0 hret h ad _ _ ho hP hD hS _ (lv_sub hl [0, 1, 2, 3, 4, 5, 6, 7, 8, 9, 10, 11, 12] rfl)
      · have h := br_0 h c896
        refine lv_iconst (v := (0 : Int32)) hx hb dL_law_899 (by decide) ?_
        exact absurd (Option.some.inj h) (by decide)
set_option maxHeartbeats 4000000 in
set_option maxRecDepth 100000 in
theorem LN_law_n864 {p : Program} {l : Launch} {e : Env} {s : State} {m : MethodId} {args : Array Value} {below : List Frame} {meth : Method} {c : Code} {Q : State → Prop} {D : va_G} {T : Nat → ClassId} {b L : Nat} {xs : Nat → Int32} {A : Nat → Prop} {o0 za ta : Nat} (F : Nat) (x4 : Int32) (x5 : Int32) (x7 : Int32) (x8 : Int32) (x9 : Int32) (x10 : Int32) (x13 : Int32) (x14 : Int32) (x15 : Int32) (rs : Nat → Int32) (rm : Nat → Nat → Int32) (ts : Nat → Int32) (tm : Nat → Nat → Int32) (rdue : Int32) (rtun : Int32) (rsee : Int32) (rbeg : Int32) (psize : Int32) (pclause : Int32) (peff : Nat → Int32) (pkin : Nat → Int32) (pgri : Nat → Int32) (psig : Nat → Int32) (psee : Nat → Int32) (qsize : Int32) (qclause : Int32) (qeff : Nat → Int32) (qkin : Nat → Int32) (qgri : Nat → Int32) (qsig : Nat → Int32) (qsee : Nat → Int32) (cdee : Int32) (cnow : Int64) (cahe : Nat → Int64) (kdee : Nat → Int32) (know : Nat → Int64) (kahe : Nat → Nat → Int64) (fc : Nat → Int32) (lf : Int32) (told : Int32) (up : Int64) (lo : Int64) (zz : Nat → Int32) (tt : Nat → Int32) (C0 : SC_law p s m args c D T b L xs A) (hret : HR_law p l e s m args below meth c Q A) (h : fL_law_n864 F L xs x4 x5 x7 x8 x9 x10 x13 x14 x15 rs rm ts tm rdue rtun rsee rbeg psize pclause peff pkin pgri psig psee qsize qclause qeff qkin qgri qsig qsee cdee cnow cahe kdee know kahe fc lf told up lo zz tt = some (1 : Int32)) : ∀ (ad : Nat → Nat) (H : Heap) (locs : List Loc), ad 0 = o0 → va_P D vwCl (wLW T ad (ad 6) (ad 12) za ta rs rm ts tm rdue rtun rsee rbeg psize pclause peff pkin pgri psig psee qsize qclause qeff qkin qgri qsig qsee cdee cnow cahe kdee know kahe fc lf told up lo zz tt) H → va_D A (wLW T ad (ad 6) (ad 12) za ta rs rm ts tm rdue rtun rsee rbeg psize pclause peff pkin pgri psig psee qsize qclause qeff qkin qgri qsig qsee cdee cnow cahe kdee know kahe fc lf told up lo zz tt) → va_S A s.heap H locs → ∀ (ls : Array Slot), lv_has ls 31 [(0, .ref b), (1, .ref (ad 0)), (2, .ref za), (3, .ref ta), (4, .int x4), (5, .int x5), (7, .int x7), (8, .int x8), (9, .int x9), (10, .int x10), (13, .int x13), (14, .int x14), (15, .int x15)] → W p l e room_1 s m args below meth c H locs 40 874 Q (F0 m 864 ls []) := by
  intro ad H locs ho hP hD hS ls hl
  obtain ⟨hFix, hKK, hA, hX, hbl, hbA⟩ := id C0
  obtain ⟨hx, hb, hml, hown, hts⟩ := id hFix
  have hK := hKK.1
  unfold fL_law_n864 at h
  refine lv_iload hx hb dL_law_864 (lv_at hl 12 rfl) ?_
  refine lv_if_ne (tgt := 873) hx hb dL_law_866 (by decide) (fun c866 => ?_) (fun c866 => ?_)
  · have h := br_0 h c866
    refine lv_iconst (v := (0 : Int32)) hx hb dL_law_873 (by decide) ?_
    refine lv_iload hx hb dL_law_874 (lv_at hl 11 rfl) ?_
    refine lv_if_lt (tgt := 883) hx hb dL_law_876 (by decide) (fun c876 => ?_) (fun c876 => ?_)
    · have h := br_1 h c876
      refine lv_iconst (v := (0 : Int32)) hx hb dL_law_883 (by decide) ?_
      exact LN_law_n884 F (0 : Int32) (0 : Int32) x4 x5 x7 x8 x9 x10 x13 x14 x15 rs rm ts tm rdue rtun rsee rbeg psize pclause peff pkin pgri psig psee qsize qclause qeff qkin qgri qsig qsee cdee cnow cahe kdee know kahe fc lf told up lo zz tt C0 hret h ad _ _ ho hP hD hS _ (lv_sub hl [0, 1, 2, 3, 4, 5, 6, 7, 8, 9, 10, 11, 12] rfl)
    · have h := br_0 h c876
      refine lv_iconst (v := (1 : Int32)) hx hb dL_law_879 (by decide) ?_
      refine lv_goto (tgt := 884) hx hb dL_law_880 (by decide) ?_
      exact LN_law_n884 F (0 : Int32) (1 : Int32) x4 x5 x7 x8 x9 x10 x13 x14 x15 rs rm ts tm rdue rtun rsee rbeg psize pclause peff pkin pgri psig psee qsize qclause qeff qkin qgri qsig qsee cdee cnow cahe kdee know kahe fc lf told up lo zz tt C0 hret h ad _ _ ho hP hD hS _ (lv_sub hl [0, 1, 2, 3, 4, 5, 6, 7, 8, 9, 10, 11, 12] rfl)
  · have h := br_1 h c866
    refine lv_iconst (v := (1 : Int32)) hx hb dL_law_869 (by decide) ?_
    refine lv_goto (tgt := 874) hx hb dL_law_870 (by decide) ?_
    refine lv_iload hx hb dL_law_874 (lv_at hl 11 rfl) ?_
    refine lv_if_lt (tgt := 883) hx hb dL_law_876 (by decide) (fun c876 => ?_) (fun c876 => ?_)
    · have h := br_1 h c876
      refine lv_iconst (v := (0 : Int32)) hx hb dL_law_883 (by decide) ?_
      exact LN_law_n884 F (1 : Int32) (0 : Int32) x4 x5 x7 x8 x9 x10 x13 x14 x15 rs rm ts tm rdue rtun rsee rbeg psize pclause peff pkin pgri psig psee qsize qclause qeff qkin qgri qsig qsee cdee cnow cahe kdee know kahe fc lf told up lo zz tt C0 hret h ad _ _ ho hP hD hS _ (lv_sub hl [0, 1, 2, 3, 4, 5, 6, 7, 8, 9, 10, 11, 12] rfl)
    · have h := br_0 h c876
      refine lv_iconst (v := (1 : Int32)) hx hb dL_law_879 (by decide) ?_
      refine lv_goto (tgt := 884) hx hb dL_law_880 (by decide) ?_
      exact LN_law_n884 F (1 : Int32) (1 : Int32) x4 x5 x7 x8 x9 x10 x13 x14 x15 rs rm ts tm rdue rtun rsee rbeg psize pclause peff pkin pgri psig psee qsize qclause qeff qkin qgri qsig qsee cdee cnow cahe kdee know kahe fc lf told up lo zz tt C0 hret h ad _ _ ho hP hD hS _ (lv_sub hl [0, 1, 2, 3, 4, 5, 6, 7, 8, 9, 10, 11, 12] rfl)
set_option maxHeartbeats 4000000 in
set_option maxRecDepth 100000 in
theorem LN_law_n849 {p : Program} {l : Launch} {e : Env} {s : State} {m : MethodId} {args : Array Value} {below : List Frame} {meth : Method} {c : Code} {Q : State → Prop} {D : va_G} {T : Nat → ClassId} {b L : Nat} {xs : Nat → Int32} {A : Nat → Prop} {o0 za ta : Nat} (F : Nat) (s_0 : Int32) (s_1 : Int32) (x4 : Int32) (x5 : Int32) (x7 : Int32) (x8 : Int32) (x9 : Int32) (x10 : Int32) (x13 : Int32) (x14 : Int32) (x15 : Int32) (rs : Nat → Int32) (rm : Nat → Nat → Int32) (ts : Nat → Int32) (tm : Nat → Nat → Int32) (rdue : Int32) (rtun : Int32) (rsee : Int32) (rbeg : Int32) (psize : Int32) (pclause : Int32) (peff : Nat → Int32) (pkin : Nat → Int32) (pgri : Nat → Int32) (psig : Nat → Int32) (psee : Nat → Int32) (qsize : Int32) (qclause : Int32) (qeff : Nat → Int32) (qkin : Nat → Int32) (qgri : Nat → Int32) (qsig : Nat → Int32) (qsee : Nat → Int32) (cdee : Int32) (cnow : Int64) (cahe : Nat → Int64) (kdee : Nat → Int32) (know : Nat → Int64) (kahe : Nat → Nat → Int64) (fc : Nat → Int32) (lf : Int32) (told : Int32) (up : Int64) (lo : Int64) (zz : Nat → Int32) (tt : Nat → Int32) (C0 : SC_law p s m args c D T b L xs A) (hret : HR_law p l e s m args below meth c Q A) (h : fL_law_n849 F L xs s_0 s_1 x4 x5 x7 x8 x9 x10 x13 x14 x15 rs rm ts tm rdue rtun rsee rbeg psize pclause peff pkin pgri psig psee qsize qclause qeff qkin qgri qsig qsee cdee cnow cahe kdee know kahe fc lf told up lo zz tt = some (1 : Int32)) : ∀ (ad : Nat → Nat) (H : Heap) (locs : List Loc), ad 0 = o0 → va_P D vwCl (wLW T ad (ad 6) (ad 12) za ta rs rm ts tm rdue rtun rsee rbeg psize pclause peff pkin pgri psig psee qsize qclause qeff qkin qgri qsig qsee cdee cnow cahe kdee know kahe fc lf told up lo zz tt) H → va_D A (wLW T ad (ad 6) (ad 12) za ta rs rm ts tm rdue rtun rsee rbeg psize pclause peff pkin pgri psig psee qsize qclause qeff qkin qgri qsig qsee cdee cnow cahe kdee know kahe fc lf told up lo zz tt) → va_S A s.heap H locs → ∀ (ls : Array Slot), lv_has ls 31 [(0, .ref b), (1, .ref (ad 0)), (2, .ref za), (3, .ref ta), (4, .int x4), (5, .int x5), (7, .int x7), (8, .int x8), (9, .int x9), (10, .int x10), (13, .int x13), (14, .int x14), (15, .int x15)] → W p l e room_1 s m args below meth c H locs 40 874 Q (F0 m 849 ls [.int s_1, .int s_0]) := by
  intro ad H locs ho hP hD hS ls hl
  obtain ⟨hFix, hKK, hA, hX, hbl, hbA⟩ := id C0
  obtain ⟨hx, hb, hml, hown, hts⟩ := id hFix
  have hK := hKK.1
  unfold fL_law_n849 at h
  refine lv_icmp_ne (tgt := 899) hx hb dL_law_849 (by decide) (fun c849 => ?_) (fun c849 => ?_)
  · have h := br_0 h c849
    refine lv_iconst (v := (0 : Int32)) hx hb dL_law_899 (by decide) ?_
    exact absurd (Option.some.inj h) (by decide)
  · have h := br_1 h c849
    refine lv_iload hx hb dL_law_852 (lv_at hl 11 rfl) ?_
    refine lv_if_lt (tgt := 864) hx hb dL_law_854 (by decide) (fun c854 => ?_) (fun c854 => ?_)
    · have h := br_1 h c854
      exact LN_law_n864 F x4 x5 x7 x8 x9 x10 x13 x14 x15 rs rm ts tm rdue rtun rsee rbeg psize pclause peff pkin pgri psig psee qsize qclause qeff qkin qgri qsig qsee cdee cnow cahe kdee know kahe fc lf told up lo zz tt C0 hret h ad _ _ ho hP hD hS _ (lv_sub hl [0, 1, 2, 3, 4, 5, 6, 7, 8, 9, 10, 11, 12] rfl)
    · have h := br_0 h c854
      refine lv_iload hx hb dL_law_857 (lv_at hl 11 rfl) ?_
      refine lv_iload hx hb dL_law_859 (lv_at hl 9 rfl) ?_
      refine lv_icmp_ne (tgt := 899) hx hb dL_law_861 (by decide) (fun c861 => ?_) (fun c861 => ?_)
      · have h := br_0 h c861
        refine lv_iconst (v := (0 : Int32)) hx hb dL_law_899 (by decide) ?_
        exact absurd (Option.some.inj h) (by decide)
      · have h := br_1 h c861
        exact LN_law_n864 F x4 x5 x7 x8 x9 x10 x13 x14 x15 rs rm ts tm rdue rtun rsee rbeg psize pclause peff pkin pgri psig psee qsize qclause qeff qkin qgri qsig qsee cdee cnow cahe kdee know kahe fc lf told up lo zz tt C0 hret h ad _ _ ho hP hD hS _ (lv_sub hl [0, 1, 2, 3, 4, 5, 6, 7, 8, 9, 10, 11, 12] rfl)
set_option maxHeartbeats 4000000 in
set_option maxRecDepth 100000 in
theorem LN_law_n809 {p : Program} {l : Launch} {e : Env} {s : State} {m : MethodId} {args : Array Value} {below : List Frame} {meth : Method} {c : Code} {Q : State → Prop} {D : va_G} {T : Nat → ClassId} {b L : Nat} {xs : Nat → Int32} {A : Nat → Prop} {o0 za ta : Nat} (F : Nat) (x4 : Int32) (x5 : Int32) (x7 : Int32) (x8 : Int32) (x9 : Int32) (x10 : Int32) (x11 : Int64) (x13 : Int32) (rs : Nat → Int32) (rm : Nat → Nat → Int32) (ts : Nat → Int32) (tm : Nat → Nat → Int32) (rdue : Int32) (rtun : Int32) (rsee : Int32) (rbeg : Int32) (psize : Int32) (pclause : Int32) (peff : Nat → Int32) (pkin : Nat → Int32) (pgri : Nat → Int32) (psig : Nat → Int32) (psee : Nat → Int32) (qsize : Int32) (qclause : Int32) (qeff : Nat → Int32) (qkin : Nat → Int32) (qgri : Nat → Int32) (qsig : Nat → Int32) (qsee : Nat → Int32) (cdee : Int32) (cnow : Int64) (cahe : Nat → Int64) (kdee : Nat → Int32) (know : Nat → Int64) (kahe : Nat → Nat → Int64) (fc : Nat → Int32) (lf : Int32) (told : Int32) (up : Int64) (lo : Int64) (zz : Nat → Int32) (tt : Nat → Int32) (C0 : SC_law p s m args c D T b L xs A) (hret : HR_law p l e s m args below meth c Q A) (h : fL_law_n809 F L xs x4 x5 x7 x8 x9 x10 x11 x13 rs rm ts tm rdue rtun rsee rbeg psize pclause peff pkin pgri psig psee qsize qclause qeff qkin qgri qsig qsee cdee cnow cahe kdee know kahe fc lf told up lo zz tt = some (1 : Int32)) : ∀ (ad : Nat → Nat) (H : Heap) (locs : List Loc), ad 0 = o0 → va_P D vwCl (wLW T ad (ad 6) (ad 12) za ta rs rm ts tm rdue rtun rsee rbeg psize pclause peff pkin pgri psig psee qsize qclause qeff qkin qgri qsig qsee cdee cnow cahe kdee know kahe fc lf told up lo zz tt) H → va_D A (wLW T ad (ad 6) (ad 12) za ta rs rm ts tm rdue rtun rsee rbeg psize pclause peff pkin pgri psig psee qsize qclause qeff qkin qgri qsig qsee cdee cnow cahe kdee know kahe fc lf told up lo zz tt) → va_S A s.heap H locs → ∀ (ls : Array Slot), lv_has ls 31 [(0, .ref b), (1, .ref (ad 0)), (2, .ref za), (3, .ref ta), (4, .int x4), (5, .int x5), (7, .int x7), (8, .int x8), (9, .int x9), (10, .int x10), (11, .long x11), (13, .int x13)] → W p l e room_1 s m args below meth c H locs 40 874 Q (F0 m 809 ls []) := by
  intro ad H locs ho hP hD hS ls hl
  obtain ⟨hFix, hKK, hA, hX, hbl, hbA⟩ := id C0
  obtain ⟨hx, hb, hml, hown, hts⟩ := id hFix
  have hK := hKK.1
  unfold fL_law_n809 at h
  refine lv_aload_n hx hb dL_law_809 rfl (lv_at hl 1 rfl) ?_
  refine lv_iload hx hb dL_law_810 (lv_at hl 9 rfl) ?_
  refine lv_iconst (v := (2 : Int32)) hx hb dL_law_812 (by decide) ?_
  obtain ⟨r813, w813_rs, w813_rm, hc, h⟩ := bd3_some h
  have hPc : va_P D vwCl (wPW T ad (ad 6) (ad 12) rs rm ts tm rdue rtun rsee rbeg psize pclause peff pkin pgri psig psee qsize qclause qeff qkin qgri qsig qsee cdee cnow cahe kdee know kahe fc lf told up lo) _ := my_subP sb_wLW_wPW_0to37 hP
  have hDc := hD.sub [0, 1, 2, 3, 4, 5, 6, 7, 8, 9, 10, 11, 12, 13, 14, 15, 16, 17, 18, 19, 20, 21, 22, 23, 24, 25, 26, 27, 28, 29, 30, 31, 32, 33, 34, 35, 36, 37] nd_LW sb_wLW_wPW_0to37
  have hFc := va_free hD hS hA [0, 1, 2, 3, 4, 5, 6, 7, 8, 9, 10, 11, 12, 13, 14, 15, 16, 17, 18, 19, 20, 21, 22, 23, 24, 25, 26, 27, 28, 29, 30, 31, 32, 33, 34, 35, 36, 37] sb_wLW_wPW_0to37
  refine my_rwi (va_runV (As := [.int x10, .int (2 : Int32)]) (rest := []) hFix (kX5_first l D T F ad rs rm ts tm rdue rtun rsee rbeg psize pclause peff pkin pgri psig psee qsize qclause qeff qkin qgri qsig qsee cdee cnow cahe kdee know kahe fc lf told up lo x10 (2 : Int32) r813 w813_rs w813_rm hc _) (cwV 2 hts gL_law_X5_first rfl rfl rfl ⟨rfl, hd_X5_first⟩ ⟨Nat.le_of_ble_eq_true rfl, Nat.le_of_ble_eq_true rfl⟩) (preV_rw hPc hKK hDc (va_recv hK hP (ci := 3) (q0 := 0) rfl wLW_0)) rfl rfl hl.1 rfl (lv_room (Nat.le_of_ble_eq_true rfl)) dL_law_813 ⟨Nat.le_of_ble_eq_true rfl, Nat.le_of_ble_eq_true rfl⟩) hS hFc (fun H1 locs hP1 hD1 hz1 hkk hS => ?_)
  obtain ⟨hP, hD⟩ := my_joinS hP hD nd_LW sb_wLW_wPW_0to37 (by rfl) hkk hFc hP1 hD1
  rw [st_LW] at hP hD
  generalize H1 = H at hP hS ⊢
  refine lv_istore (lv' := [(14, .int r813), (0, .ref b), (1, .ref (ad 0)), (2, .ref za), (3, .ref ta), (4, .int x4), (5, .int x5), (7, .int x7), (8, .int x8), (9, .int x9), (10, .int x10), (11, .long x11), (13, .int x13)]) hx hb dL_law_816 hl (by decide) rfl (fun ls hl => ?_)
  refine lv_aload_n hx hb dL_law_818 rfl (lv_at hl 2 rfl) ?_
  refine lv_iload hx hb dL_law_819 (lv_at hl 10 rfl) ?_
  refine lv_iconst (v := (3 : Int32)) hx hb dL_law_821 (by decide) ?_
  obtain ⟨r822, w822_rs, w822_rm, hc, h⟩ := bd3_some h
  have hPc : va_P D vwCl (wPW T ad (ad 6) (ad 12) w813_rs w813_rm ts tm rdue rtun rsee rbeg psize pclause peff pkin pgri psig psee qsize qclause qeff qkin qgri qsig qsee cdee cnow cahe kdee know kahe fc lf told up lo) _ := my_subP sb_wLW_wPW_0to37 hP
  have hDc := hD.sub [0, 1, 2, 3, 4, 5, 6, 7, 8, 9, 10, 11, 12, 13, 14, 15, 16, 17, 18, 19, 20, 21, 22, 23, 24, 25, 26, 27, 28, 29, 30, 31, 32, 33, 34, 35, 36, 37] nd_LW sb_wLW_wPW_0to37
  have hFc := va_free hD hS hA [0, 1, 2, 3, 4, 5, 6, 7, 8, 9, 10, 11, 12, 13, 14, 15, 16, 17, 18, 19, 20, 21, 22, 23, 24, 25, 26, 27, 28, 29, 30, 31, 32, 33, 34, 35, 36, 37] sb_wLW_wPW_0to37
  refine my_rwi (va_runV (As := [.int x10, .int (3 : Int32)]) (rest := []) hFix (kX5_fewest l D T F ad w813_rs w813_rm ts tm rdue rtun rsee rbeg psize pclause peff pkin pgri psig psee qsize qclause qeff qkin qgri qsig qsee cdee cnow cahe kdee know kahe fc lf told up lo x10 (3 : Int32) r822 w822_rs w822_rm hc _) (cwV 2 hts gL_law_X5_fewest rfl rfl rfl ⟨rfl, hd_X5_fewest⟩ ⟨Nat.le_of_ble_eq_true rfl, Nat.le_of_ble_eq_true rfl⟩) (preV_rw hPc hKK hDc (va_recv hK hP (ci := 3) (q0 := 0) rfl wLW_0)) rfl rfl hl.1 rfl (lv_room (Nat.le_of_ble_eq_true rfl)) dL_law_822 ⟨Nat.le_of_ble_eq_true rfl, Nat.le_of_ble_eq_true rfl⟩) hS hFc (fun H1 locs hP1 hD1 hz1 hkk hS => ?_)
  obtain ⟨hP, hD⟩ := my_joinS hP hD nd_LW sb_wLW_wPW_0to37 (by rfl) hkk hFc hP1 hD1
  rw [st_LW] at hP hD
  generalize H1 = H at hP hS ⊢
  refine lv_istore (lv' := [(15, .int r822), (14, .int r813), (0, .ref b), (1, .ref (ad 0)), (2, .ref za), (3, .ref ta), (4, .int x4), (5, .int x5), (7, .int x7), (8, .int x8), (9, .int x9), (10, .int x10), (11, .long x11), (13, .int x13)]) hx hb dL_law_825 hl (by decide) rfl (fun ls hl => ?_)
  refine lv_iload hx hb dL_law_827 (lv_at hl 1 rfl) ?_
  refine lv_if_ge (tgt := 836) hx hb dL_law_829 (by decide) (fun c829 => ?_) (fun c829 => ?_)
  · have h := br_1 h c829
    refine lv_iconst (v := (0 : Int32)) hx hb dL_law_836 (by decide) ?_
    refine lv_lload hx hb dL_law_837 (lv_at hl 12 rfl) ?_
    refine lv_lconst (v := (0 : Int64)) hx hb dL_law_839 (by decide) ?_
    refine W.lcmp hx hb dL_law_840 ?_
    refine lv_if_ne (tgt := 848) hx hb dL_law_841 (by decide) (fun c841 => ?_) (fun c841 => ?_)
    · have h := br_0 h c841
      refine lv_iconst (v := (0 : Int32)) hx hb dL_law_848 (by decide) ?_
      exact LN_law_n849 F (0 : Int32) (0 : Int32) x4 x5 x7 x8 x9 x10 x13 r813 r822 w822_rs w822_rm ts tm rdue rtun rsee rbeg psize pclause peff pkin pgri psig psee qsize qclause qeff qkin qgri qsig qsee cdee cnow cahe kdee know kahe fc lf told up lo zz tt C0 hret h ad _ _ ho hP hD hS _ (lv_sub hl [2, 3, 4, 5, 6, 7, 8, 9, 10, 11, 13, 1, 0] rfl)
    · have h := br_1 h c841
      refine lv_iconst (v := (1 : Int32)) hx hb dL_law_844 (by decide) ?_
      refine lv_goto (tgt := 849) hx hb dL_law_845 (by decide) ?_
      exact LN_law_n849 F (0 : Int32) (1 : Int32) x4 x5 x7 x8 x9 x10 x13 r813 r822 w822_rs w822_rm ts tm rdue rtun rsee rbeg psize pclause peff pkin pgri psig psee qsize qclause qeff qkin qgri qsig qsee cdee cnow cahe kdee know kahe fc lf told up lo zz tt C0 hret h ad _ _ ho hP hD hS _ (lv_sub hl [2, 3, 4, 5, 6, 7, 8, 9, 10, 11, 13, 1, 0] rfl)
  · have h := br_0 h c829
    refine lv_iconst (v := (1 : Int32)) hx hb dL_law_832 (by decide) ?_
    refine lv_goto (tgt := 837) hx hb dL_law_833 (by decide) ?_
    refine lv_lload hx hb dL_law_837 (lv_at hl 12 rfl) ?_
    refine lv_lconst (v := (0 : Int64)) hx hb dL_law_839 (by decide) ?_
    refine W.lcmp hx hb dL_law_840 ?_
    refine lv_if_ne (tgt := 848) hx hb dL_law_841 (by decide) (fun c841 => ?_) (fun c841 => ?_)
    · have h := br_0 h c841
      refine lv_iconst (v := (0 : Int32)) hx hb dL_law_848 (by decide) ?_
      exact LN_law_n849 F (1 : Int32) (0 : Int32) x4 x5 x7 x8 x9 x10 x13 r813 r822 w822_rs w822_rm ts tm rdue rtun rsee rbeg psize pclause peff pkin pgri psig psee qsize qclause qeff qkin qgri qsig qsee cdee cnow cahe kdee know kahe fc lf told up lo zz tt C0 hret h ad _ _ ho hP hD hS _ (lv_sub hl [2, 3, 4, 5, 6, 7, 8, 9, 10, 11, 13, 1, 0] rfl)
    · have h := br_1 h c841
      refine lv_iconst (v := (1 : Int32)) hx hb dL_law_844 (by decide) ?_
      refine lv_goto (tgt := 849) hx hb dL_law_845 (by decide) ?_
      exact LN_law_n849 F (1 : Int32) (1 : Int32) x4 x5 x7 x8 x9 x10 x13 r813 r822 w822_rs w822_rm ts tm rdue rtun rsee rbeg psize pclause peff pkin pgri psig psee qsize qclause qeff qkin qgri qsig qsee cdee cnow cahe kdee know kahe fc lf told up lo zz tt C0 hret h ad _ _ ho hP hD hS _ (lv_sub hl [2, 3, 4, 5, 6, 7, 8, 9, 10, 11, 13, 1, 0] rfl)
set_option maxHeartbeats 4000000 in
set_option maxRecDepth 100000 in
theorem LN_law_n797 {p : Program} {l : Launch} {e : Env} {s : State} {m : MethodId} {args : Array Value} {below : List Frame} {meth : Method} {c : Code} {Q : State → Prop} {D : va_G} {T : Nat → ClassId} {b L : Nat} {xs : Nat → Int32} {A : Nat → Prop} {o0 za ta : Nat} (F : Nat) (x4 : Int32) (x5 : Int32) (x7 : Int32) (x8 : Int32) (x9 : Int32) (x10 : Int32) (x11 : Int64) (x13 : Int32) (rs : Nat → Int32) (rm : Nat → Nat → Int32) (ts : Nat → Int32) (tm : Nat → Nat → Int32) (rdue : Int32) (rtun : Int32) (rsee : Int32) (rbeg : Int32) (psize : Int32) (pclause : Int32) (peff : Nat → Int32) (pkin : Nat → Int32) (pgri : Nat → Int32) (psig : Nat → Int32) (psee : Nat → Int32) (qsize : Int32) (qclause : Int32) (qeff : Nat → Int32) (qkin : Nat → Int32) (qgri : Nat → Int32) (qsig : Nat → Int32) (qsee : Nat → Int32) (cdee : Int32) (cnow : Int64) (cahe : Nat → Int64) (kdee : Nat → Int32) (know : Nat → Int64) (kahe : Nat → Nat → Int64) (fc : Nat → Int32) (lf : Int32) (told : Int32) (up : Int64) (lo : Int64) (zz : Nat → Int32) (tt : Nat → Int32) (C0 : SC_law p s m args c D T b L xs A) (hret : HR_law p l e s m args below meth c Q A) (h : fL_law_n797 F L xs x4 x5 x7 x8 x9 x10 x11 x13 rs rm ts tm rdue rtun rsee rbeg psize pclause peff pkin pgri psig psee qsize qclause qeff qkin qgri qsig qsee cdee cnow cahe kdee know kahe fc lf told up lo zz tt = some (1 : Int32)) : ∀ (ad : Nat → Nat) (H : Heap) (locs : List Loc), ad 0 = o0 → va_P D vwCl (wLW T ad (ad 6) (ad 12) za ta rs rm ts tm rdue rtun rsee rbeg psize pclause peff pkin pgri psig psee qsize qclause qeff qkin qgri qsig qsee cdee cnow cahe kdee know kahe fc lf told up lo zz tt) H → va_D A (wLW T ad (ad 6) (ad 12) za ta rs rm ts tm rdue rtun rsee rbeg psize pclause peff pkin pgri psig psee qsize qclause qeff qkin qgri qsig qsee cdee cnow cahe kdee know kahe fc lf told up lo zz tt) → va_S A s.heap H locs → ∀ (ls : Array Slot), lv_has ls 31 [(0, .ref b), (1, .ref (ad 0)), (2, .ref za), (3, .ref ta), (4, .int x4), (5, .int x5), (7, .int x7), (8, .int x8), (9, .int x9), (10, .int x10), (11, .long x11), (13, .int x13)] → W p l e room_1 s m args below meth c H locs 40 874 Q (F0 m 797 ls []) := by
  intro ad H locs ho hP hD hS ls hl
  obtain ⟨hFix, hKK, hA, hX, hbl, hbA⟩ := id C0
  obtain ⟨hx, hb, hml, hown, hts⟩ := id hFix
  have hK := hKK.1
  unfold fL_law_n797 at h
  refine lv_aload_n hx hb dL_law_797 rfl (lv_at hl 1 rfl) ?_
  refine lv_iconst (v := (2 : Int32)) hx hb dL_law_798 (by decide) ?_
  refine lv_iconst (v := (1 : Int32)) hx hb dL_law_799 (by decide) ?_
  obtain ⟨r800, w800_rs, w800_rm, w800_fc, w800_lf, hc, h⟩ := bd5_some h
  have hPc : va_P D vwCl (wPW T ad (ad 6) (ad 12) rs rm ts tm rdue rtun rsee rbeg psize pclause peff pkin pgri psig psee qsize qclause qeff qkin qgri qsig qsee cdee cnow cahe kdee know kahe fc lf told up lo) _ := my_subP sb_wLW_wPW_0to37 hP
  have hDc := hD.sub [0, 1, 2, 3, 4, 5, 6, 7, 8, 9, 10, 11, 12, 13, 14, 15, 16, 17, 18, 19, 20, 21, 22, 23, 24, 25, 26, 27, 28, 29, 30, 31, 32, 33, 34, 35, 36, 37] nd_LW sb_wLW_wPW_0to37
  have hFc := va_free hD hS hA [0, 1, 2, 3, 4, 5, 6, 7, 8, 9, 10, 11, 12, 13, 14, 15, 16, 17, 18, 19, 20, 21, 22, 23, 24, 25, 26, 27, 28, 29, 30, 31, 32, 33, 34, 35, 36, 37] sb_wLW_wPW_0to37
  refine my_rwi (va_runV (As := [.int (2 : Int32), .int (1 : Int32)]) (rest := []) hFix (kX5_row l D T F ad rs rm ts tm rdue rtun rsee rbeg psize pclause peff pkin pgri psig psee qsize qclause qeff qkin qgri qsig qsee cdee cnow cahe kdee know kahe fc lf told up lo (2 : Int32) (1 : Int32) r800 w800_rs w800_rm w800_fc w800_lf hc _) (cwV 2 hts gL_law_X5_row rfl rfl rfl ⟨rfl, hd_X5_row⟩ ⟨Nat.le_of_ble_eq_true rfl, Nat.le_of_ble_eq_true rfl⟩) (preV_rw hPc hKK hDc (va_recv hK hP (ci := 3) (q0 := 0) rfl wLW_0)) rfl rfl hl.1 rfl (lv_room (Nat.le_of_ble_eq_true rfl)) dL_law_800 ⟨Nat.le_of_ble_eq_true rfl, Nat.le_of_ble_eq_true rfl⟩) hS hFc (fun H1 locs hP1 hD1 hz1 hkk hS => ?_)
  obtain ⟨hP, hD⟩ := my_joinS hP hD nd_LW sb_wLW_wPW_0to37 (by rfl) hkk hFc hP1 hD1
  rw [st_LW] at hP hD
  generalize H1 = H at hP hS ⊢
  refine lv_iconst (v := (1 : Int32)) hx hb dL_law_803 (by decide) ?_
  refine lv_icmp_eq (tgt := 809) hx hb dL_law_804 (by decide) (fun c804 => ?_) (fun c804 => ?_)
  · have h := br_1 h c804
    exact LN_law_n809 F x4 x5 x7 x8 x9 x10 x11 x13 w800_rs w800_rm ts tm rdue rtun rsee rbeg psize pclause peff pkin pgri psig psee qsize qclause qeff qkin qgri qsig qsee cdee cnow cahe kdee know kahe w800_fc w800_lf told up lo zz tt C0 hret h ad _ _ ho hP hD hS _ (lv_sub hl [0, 1, 2, 3, 4, 5, 6, 7, 8, 9, 10, 11] rfl)
  · have h := br_0 h c804
    refine lv_iconst (v := (0 : Int32)) hx hb dL_law_807 (by decide) ?_
    exact absurd (Option.some.inj h) (by decide)
