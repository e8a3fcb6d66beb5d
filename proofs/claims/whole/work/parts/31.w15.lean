set_option maxHeartbeats 4000000 in
set_option maxRecDepth 100000 in
theorem kX5_count (l : Launch) (D : va_G) (T : Nat → ClassId) (F : Nat) (ad : Nat → Nat) (rs : Nat → Int32) (rm : Nat → Nat → Int32) (ts : Nat → Int32) (tm : Nat → Nat → Int32) (rdue : Int32) (rtun : Int32) (rsee : Int32) (rbeg : Int32) (psize : Int32) (pclause : Int32) (peff : Nat → Int32) (pkin : Nat → Int32) (pgri : Nat → Int32) (psig : Nat → Int32) (psee : Nat → Int32) (qsize : Int32) (qclause : Int32) (qeff : Nat → Int32) (qkin : Nat → Int32) (qgri : Nat → Int32) (qsig : Nat → Int32) (qsee : Nat → Int32) (cdee : Int32) (cnow : Int64) (cahe : Nat → Int64) (kdee : Nat → Int32) (know : Nat → Int64) (kahe : Nat → Nat → Int64) (fc : Nat → Int32) (lf : Int32) (told : Int32) (up : Int64) (lo : Int64) (x1 : Int32) (r : Int32) (h : fX5_count F rs ts psize pclause pkin cdee cnow kdee x1 = some (r)) : Met l yX5_count wsX5_count ({ frames := 2, cells := 0, slots := 0, locals := 45 } : Room) (va_Pc [.ref (ad 0), .int x1] (fun U => va_P D vwCl (wPW T ad (ad 6) (ad 12) rs rm ts tm rdue rtun rsee rbeg psize pclause peff pkin pgri psig psee qsize qclause qeff qkin qgri qsig qsee cdee cnow cahe kdee know kahe fc lf told up lo) U.heap ∧ KK D T U)) (vp_Si (fun r' => r' = r)) 0 0 (fun _ => False) := by
  refine Met.ofW (cc := cX5_count) (maxL := 2) (ret := some .int) (by decide) rfl ?_
  intro p e s m args below meth c s₁ B hml hv
  obtain ⟨ha, hP, hKK⟩ := hv
  have hx := B.exec
  have hb := B.bytes
  have hr := B.returns
  have hts := atoms_spec (ws := wsX5_count) B.pre
  have hown : s.vm.findClass RX5 = some m.cls := findClass_of_methodNamed B.named
  have hlocks := B.notSynchronized
  have hK := hKK.1
  have hFix : CallFix p m c cX5_count 2 s args wsX5_count RX5 := ⟨hx, hb, hml, hown, hts⟩
  have q1 := hts _ (List.mem_of_getElem? (i := 1) (show wsX5_count[1]? = some (Cond.fieldLink RX5 36 "PartyWill" "party" "LPartyWill$Party;") from rfl))
  have q2 := hts _ (List.mem_of_getElem? (i := 2) (show wsX5_count[2]? = some (Cond.fieldLink RX5 46 "PartyWill" "course" "LPartyWill$Course;") from rfl))
  have q3 := hts _ (List.mem_of_getElem? (i := 3) (show wsX5_count[3]? = some (Cond.fieldLink RX5 14 "PartyWill" "rowSizes" "[I") from rfl))
  have q4 := hts _ (List.mem_of_getElem? (i := 4) (show wsX5_count[4]? = some (Cond.fieldLink RX5 23 "PartyWill" "textSizes" "[I") from rfl))
  have q5 := hts _ (List.mem_of_getElem? (i := 5) (show wsX5_count[5]? = some (Cond.static yX1_howManyIn) from rfl))
  have q6 := hts _ (List.mem_of_getElem? (i := 6) (show wsX5_count[6]? = some (Cond.initialized RX1) from rfl))
  have q18 := hts _ (List.mem_of_getElem? (i := 18) (show wsX5_count[18]? = some (Cond.static yX1_griefOfAll) from rfl))
  have q24 := hts _ (List.mem_of_getElem? (i := 24) (show wsX5_count[24]? = some (Cond.instanceMethod yX2_howManyAre) from rfl))
  have q25 := hts _ (List.mem_of_getElem? (i := 25) (show wsX5_count[25]? = some (Cond.initialized RX2) from rfl))
  have q26 := hts _ (List.mem_of_getElem? (i := 26) (show wsX5_count[26]? = some (Cond.selects RX2 yX2_howManyAre yX2_howManyAre) from rfl))
  have iX0 : ∀ w ∈ u_ws RX0 TX0 3, w ∈ wsX5_count := fun w h => List.mem_cons_of_mem _ (List.mem_append_right _ (h))
  have iX2 : ∀ w ∈ u_ws RX2 TX2 7, w ∈ wsX5_count := fun w h => List.mem_cons_of_mem _ (List.mem_append_left _ (List.mem_append_right _ (h)))
  have iX5 : ∀ w ∈ u_ws RX5 TX5 14, w ∈ wsX5_count := fun w h => List.mem_cons_of_mem _ (List.mem_append_left _ (List.mem_append_left _ (List.mem_append_right _ (h))))
  obtain ⟨ls, hl, e0⟩ := my_entry (m := m) (n := 2) ha (Nat.le_of_ble_eq_true rfl)
  rw [e0]
  have hl : lv_has ls 2 [(0, .ref (ad 0)), (1, .int x1)] := hl
  have key : ∀ Q : State → Prop, (∀ (pc : Nat) (ls : Array Slot), decode cX5_count pc = .ok (.ireturn, 1) → W p l e ({ frames := 2, cells := 0, slots := 0, locals := 45 } : Room) s m args below meth c s.heap [] 0 0 Q (F0 m pc ls [.int r])) → W p l e ({ frames := 2, cells := 0, slots := 0, locals := 45 } : Room) s m args below meth c s.heap [] 0 0 Q (F0 m 0 ls []) := by
    intro Q hret
    unfold fX5_count at h
    refine lv_iload_n hx hb dX5_count_0 rfl (lv_at hl 1 rfl) ?_
    by_cases z1_0 : x1 = (0 : Int32)
    · have h := br_1 h z1_0
      refine lv_tableIn (tgt := 56) (off := 55) hx hb dX5_count_1 (by rw [z1_0]; decide) (by rw [z1_0]; decide) (by rw [z1_0]; decide) (by decide) ?_
      refine lv_aload_n hx hb dX5_count_56 rfl (lv_at hl 0 rfl) ?_
      refine va_get (D := D) (ci := 3) (C := RX5) (T := TX5) (N := 14) hx hb hts iX5 hown hK hP 0 wPW_0 rfl 5 (by decide) q1 (fun _ h9 => h9) rfl dX5_count_57 ?_
      refine va_getN (host := "PartyWill") (D := D) (ci := 1) (C := RX2) (T := TX2) (N := 7) hx hb hts iX2 hown hK hP 6 wPW_6 rfl 0 (by decide) (va_Nw.use rfl (nw_X5_111 hKK.2)) (fun _ h9 => h9) rfl dX5_count_60 ?_
      cases h
      exact hret _ _ dX5_count_63
    have h := br_0 h z1_0
    by_cases z1_1 : x1 = (1 : Int32)
    · have h := br_1 h z1_1
      refine lv_tableIn (tgt := 64) (off := 63) hx hb dX5_count_1 (by rw [z1_1]; decide) (by rw [z1_1]; decide) (by rw [z1_1]; decide) (by decide) ?_
      refine lv_aload_n hx hb dX5_count_64 rfl (lv_at hl 0 rfl) ?_
      refine va_get (D := D) (ci := 3) (C := RX5) (T := TX5) (N := 14) hx hb hts iX5 hown hK hP 0 wPW_0 rfl 5 (by decide) q1 (fun _ h9 => h9) rfl dX5_count_65 ?_
      refine va_getN (host := "PartyWill") (D := D) (ci := 1) (C := RX2) (T := TX2) (N := 7) hx hb hts iX2 hown hK hP 6 wPW_6 rfl 1 (by decide) (va_Nw.use rfl (nw_X5_257 hKK.2)) (fun _ h9 => h9) rfl dX5_count_68 ?_
      cases h
      exact hret _ _ dX5_count_71
    have h := br_0 h z1_1
    by_cases z1_2 : x1 = (2 : Int32)
    · have h := br_1 h z1_2
      refine lv_tableIn (tgt := 72) (off := 71) hx hb dX5_count_1 (by rw [z1_2]; decide) (by rw [z1_2]; decide) (by rw [z1_2]; decide) (by decide) ?_
      refine lv_aload_n hx hb dX5_count_72 rfl (lv_at hl 0 rfl) ?_
      refine va_get (D := D) (ci := 3) (C := RX5) (T := TX5) (N := 14) hx hb hts iX5 hown hK hP 0 wPW_0 rfl 7 (by decide) q2 (fun _ h9 => h9) rfl dX5_count_73 ?_
      refine va_getN (host := "PartyWill") (D := D) (ci := 0) (C := RX0) (T := TX0) (N := 3) hx hb hts iX0 hown hK hP 18 wPW_18 rfl 0 (by decide) (va_Nw.use rfl (nw_X5_71 hKK.2)) (fun _ h9 => h9) rfl dX5_count_76 ?_
      cases h
      exact hret _ _ dX5_count_79
    have h := br_0 h z1_2
    by_cases z1_3 : x1 = (3 : Int32)
    · have h := br_1 h z1_3
      refine lv_tableIn (tgt := 80) (off := 79) hx hb dX5_count_1 (by rw [z1_3]; decide) (by rw [z1_3]; decide) (by rw [z1_3]; decide) (by decide) ?_
      refine lv_aload_n hx hb dX5_count_80 rfl (lv_at hl 0 rfl) ?_
      refine va_get (D := D) (ci := 3) (C := RX5) (T := TX5) (N := 14) hx hb hts iX5 hown hK hP 0 wPW_0 rfl 7 (by decide) q2 (fun _ h9 => h9) rfl dX5_count_81 ?_
      refine va_getN (host := "PartyWill") (D := D) (ci := 0) (C := RX0) (T := TX0) (N := 3) hx hb hts iX0 hown hK hP 18 wPW_18 rfl 1 (by decide) (va_Nw.use rfl (nw_X5_127 hKK.2)) (fun _ h9 => h9) rfl dX5_count_84 ?_
      obtain ⟨r87, hc, h⟩ := bd1_some h
      refine my_roi (va_Run.run (va_runSN (host := "PartyWill") (As := [.long cnow]) (rest := []) hFix (kX1_howManyIn l D T F cnow r87 hc) ⟨va_cnB 1 hts gX5_count_X1_howManyIn_n207 rfl rfl rfl (nw_X5_207 hKK.2) q6 hd_X1_howManyIn ⟨Nat.le_of_ble_eq_true rfl, Nat.le_of_ble_eq_true rfl⟩, q5, trivial⟩ (preS_ro va_nil hKK) rfl rfl hl.1 rfl (lv_room (Nat.le_of_ble_eq_true rfl)) dX5_count_87 ⟨Nat.zero_le _, Nat.zero_le _⟩)) ?_
      cases h
      exact hret _ _ dX5_count_90
    have h := br_0 h z1_3
    by_cases z1_4 : x1 = (4 : Int32)
    · have h := br_1 h z1_4
      refine lv_tableIn (tgt := 91) (off := 90) hx hb dX5_count_1 (by rw [z1_4]; decide) (by rw [z1_4]; decide) (by rw [z1_4]; decide) (by decide) ?_
      refine lv_aload_n hx hb dX5_count_91 rfl (lv_at hl 0 rfl) ?_
      refine va_get (D := D) (ci := 3) (C := RX5) (T := TX5) (N := 14) hx hb hts iX5 hown hK hP 0 wPW_0 rfl 7 (by decide) q2 (fun _ h9 => h9) rfl dX5_count_92 ?_
      refine va_getN (host := "PartyWill") (D := D) (ci := 0) (C := RX0) (T := TX0) (N := 3) hx hb hts iX0 hown hK hP 18 wPW_18 rfl 1 (by decide) (va_Nw.use rfl (nw_X5_127 hKK.2)) (fun _ h9 => h9) rfl dX5_count_95 ?_
      obtain ⟨r98, hc, h⟩ := bd1_some h
      refine my_roi (va_Run.run (va_runSN (host := "PartyWill") (As := [.long cnow]) (rest := []) hFix (kX1_griefOfAll l D T F cnow r98 hc) ⟨va_cnB 1 hts gX5_count_X1_griefOfAll_n192 rfl rfl rfl (nw_X5_192 hKK.2) q6 hd_X1_griefOfAll ⟨Nat.le_of_ble_eq_true rfl, Nat.le_of_ble_eq_true rfl⟩, q18, trivial⟩ (preS_ro va_nil hKK) rfl rfl hl.1 rfl (lv_room (Nat.le_of_ble_eq_true rfl)) dX5_count_98 ⟨Nat.zero_le _, Nat.zero_le _⟩)) ?_
      cases h
      exact hret _ _ dX5_count_101
    have h := br_0 h z1_4
    by_cases z1_5 : x1 = (5 : Int32)
    · have h := br_1 h z1_5
      refine lv_tableIn (tgt := 102) (off := 101) hx hb dX5_count_1 (by rw [z1_5]; decide) (by rw [z1_5]; decide) (by rw [z1_5]; decide) (by decide) ?_
      refine lv_aload_n hx hb dX5_count_102 rfl (lv_at hl 0 rfl) ?_
      refine va_get (D := D) (ci := 3) (C := RX5) (T := TX5) (N := 14) hx hb hts iX5 hown hK hP 0 wPW_0 rfl 5 (by decide) q1 (fun _ h9 => h9) rfl dX5_count_103 ?_
      refine lv_iconst (v := (1 : Int32)) hx hb dX5_count_106 (by decide) ?_
      obtain ⟨r107, hc, h⟩ := bd1_some h
      have hPc : va_P D vwCl (wPa T (ad 6) (ad 7) (ad 8) (ad 9) (ad 10) (ad 11) psize pclause peff pkin pgri psig psee) _ := my_subP sb_wPW_wPa_6to11 hP
      refine my_roi (va_Run.run (va_runVN (host := "PartyWill") (As := [.int (1 : Int32)]) (rest := []) hFix (kX2_howManyAre l D T F (ad 6) (ad 7) (ad 8) (ad 9) (ad 10) (ad 11) psize pclause peff pkin pgri psig psee (1 : Int32) r107 hc) ⟨va_cnB 1 hts gX5_count_X2_howManyAre_n279 rfl rfl rfl (nw_X5_279 hKK.2) q25 hd_X2_howManyAre ⟨Nat.le_of_ble_eq_true rfl, Nat.le_of_ble_eq_true rfl⟩, q24, q26⟩ (preV_ro hPc hKK (va_recv hK hP (ci := 1) (q0 := 6) rfl wPW_6)) rfl rfl hl.1 rfl (lv_room (Nat.le_of_ble_eq_true rfl)) dX5_count_107 ⟨Nat.zero_le _, Nat.zero_le _⟩)) ?_
      cases h
      exact hret _ _ dX5_count_110
    have h := br_0 h z1_5
    by_cases z1_6 : x1 = (6 : Int32)
    · have h := br_1 h z1_6
      refine lv_tableIn (tgt := 111) (off := 110) hx hb dX5_count_1 (by rw [z1_6]; decide) (by rw [z1_6]; decide) (by rw [z1_6]; decide) (by decide) ?_
      refine lv_aload_n hx hb dX5_count_111 rfl (lv_at hl 0 rfl) ?_
      refine va_get (D := D) (ci := 3) (C := RX5) (T := TX5) (N := 14) hx hb hts iX5 hown hK hP 0 wPW_0 rfl 5 (by decide) q1 (fun _ h9 => h9) rfl dX5_count_112 ?_
      refine lv_iconst (v := (2 : Int32)) hx hb dX5_count_115 (by decide) ?_
      obtain ⟨r116, hc, h⟩ := bd1_some h
      have hPc : va_P D vwCl (wPa T (ad 6) (ad 7) (ad 8) (ad 9) (ad 10) (ad 11) psize pclause peff pkin pgri psig psee) _ := my_subP sb_wPW_wPa_6to11 hP
      refine my_roi (va_Run.run (va_runVN (host := "PartyWill") (As := [.int (2 : Int32)]) (rest := []) hFix (kX2_howManyAre l D T F (ad 6) (ad 7) (ad 8) (ad 9) (ad 10) (ad 11) psize pclause peff pkin pgri psig psee (2 : Int32) r116 hc) ⟨va_cnB 1 hts gX5_count_X2_howManyAre_n279 rfl rfl rfl (nw_X5_279 hKK.2) q25 hd_X2_howManyAre ⟨Nat.le_of_ble_eq_true rfl, Nat.le_of_ble_eq_true rfl⟩, q24, q26⟩ (preV_ro hPc hKK (va_recv hK hP (ci := 1) (q0 := 6) rfl wPW_6)) rfl rfl hl.1 rfl (lv_room (Nat.le_of_ble_eq_true rfl)) dX5_count_116 ⟨Nat.zero_le _, Nat.zero_le _⟩)) ?_
      cases h
      exact hret _ _ dX5_count_119
    have h := br_0 h z1_6
    by_cases z1_7 : x1 = (7 : Int32)
    · have h := br_1 h z1_7
      refine lv_tableIn (tgt := 120) (off := 119) hx hb dX5_count_1 (by rw [z1_7]; decide) (by rw [z1_7]; decide) (by rw [z1_7]; decide) (by decide) ?_
      refine lv_aload_n hx hb dX5_count_120 rfl (lv_at hl 0 rfl) ?_
      refine va_get (D := D) (ci := 3) (C := RX5) (T := TX5) (N := 14) hx hb hts iX5 hown hK hP 0 wPW_0 rfl 1 (by decide) q3 (fun _ h9 => h9) rfl dX5_count_121 ?_
      obtain ⟨r124, hc, h⟩ := bd1_some h
      have hPc : va_P D vwCl (wA1 T (ad 2) 6 rs) _ := my_subP sb_wPW_wA1_2 hP
      refine my_roi (va_Run.run (va_runS (As := [.ref (ad 2)]) (rest := []) hFix (kX5_howManyThere l D T F (ad 2) 6 rs r124 hc) (va_cwS 1 hts gX5_count_X5_howManyThere rfl rfl rfl hd_X5_howManyThere ⟨Nat.le_of_ble_eq_true rfl, Nat.le_of_ble_eq_true rfl⟩) (preS_ro hPc hKK) rfl rfl hl.1 rfl (lv_room (Nat.le_of_ble_eq_true rfl)) dX5_count_124 ⟨Nat.zero_le _, Nat.zero_le _⟩)) ?_
      cases h
      exact hret _ _ dX5_count_127
    have h := br_0 h z1_7
    by_cases z1_8 : x1 = (8 : Int32)
    · have h := br_1 h z1_8
      refine lv_tableIn (tgt := 128) (off := 127) hx hb dX5_count_1 (by rw [z1_8]; decide) (by rw [z1_8]; decide) (by rw [z1_8]; decide) (by decide) ?_
      refine lv_aload_n hx hb dX5_count_128 rfl (lv_at hl 0 rfl) ?_
      refine va_get (D := D) (ci := 3) (C := RX5) (T := TX5) (N := 14) hx hb hts iX5 hown hK hP 0 wPW_0 rfl 3 (by decide) q4 (fun _ h9 => h9) rfl dX5_count_129 ?_
      obtain ⟨r132, hc, h⟩ := bd1_some h
      have hPc : va_P D vwCl (wA1 T (ad 4) 4 ts) _ := my_subP sb_wPW_wA1_4 hP
      refine my_roi (va_Run.run (va_runS (As := [.ref (ad 4)]) (rest := []) hFix (kX5_howManyThere l D T F (ad 4) 4 ts r132 hc) (va_cwS 1 hts gX5_count_X5_howManyThere rfl rfl rfl hd_X5_howManyThere ⟨Nat.le_of_ble_eq_true rfl, Nat.le_of_ble_eq_true rfl⟩) (preS_ro hPc hKK) rfl rfl hl.1 rfl (lv_room (Nat.le_of_ble_eq_true rfl)) dX5_count_132 ⟨Nat.zero_le _, Nat.zero_le _⟩)) ?_
      cases h
      exact hret _ _ dX5_count_135
    have h := br_0 h z1_8
    by_cases z1_9 : x1 = (9 : Int32)
    · have h := br_1 h z1_9
      refine lv_tableIn (tgt := 136) (off := 135) hx hb dX5_count_1 (by rw [z1_9]; decide) (by rw [z1_9]; decide) (by rw [z1_9]; decide) (by decide) ?_
      refine lv_aload_n hx hb dX5_count_136 rfl (lv_at hl 0 rfl) ?_
      obtain ⟨r137, hc, h⟩ := bd1_some h
      refine my_roi (va_Run.run (va_runV (As := []) (rest := []) hFix (kX5_howManyKept l D T F ad rs rm ts tm rdue rtun rsee rbeg psize pclause peff pkin pgri psig psee qsize qclause qeff qkin qgri qsig qsee cdee cnow cahe kdee know kahe fc lf told up lo r137 hc) (cwV 0 hts gX5_count_X5_howManyKept rfl rfl rfl ⟨rfl, hd_X5_howManyKept⟩ ⟨Nat.le_of_ble_eq_true rfl, Nat.le_of_ble_eq_true rfl⟩) (preV_ro hP hKK (va_recv hK hP (ci := 3) (q0 := 0) rfl wPW_0)) rfl rfl hl.1 rfl (lv_room (Nat.le_of_ble_eq_true rfl)) dX5_count_137 ⟨Nat.zero_le _, Nat.zero_le _⟩)) ?_
      cases h
      exact hret _ _ dX5_count_140
    have h := br_0 h z1_9
    have e1_0 : x1.toInt ≠ 0 := fun e => z1_0 (Int32.toInt_inj.mp e)
    have e1_1 : x1.toInt ≠ 1 := fun e => z1_1 (Int32.toInt_inj.mp e)
    have e1_2 : x1.toInt ≠ 2 := fun e => z1_2 (Int32.toInt_inj.mp e)
    have e1_3 : x1.toInt ≠ 3 := fun e => z1_3 (Int32.toInt_inj.mp e)
    have e1_4 : x1.toInt ≠ 4 := fun e => z1_4 (Int32.toInt_inj.mp e)
    have e1_5 : x1.toInt ≠ 5 := fun e => z1_5 (Int32.toInt_inj.mp e)
    have e1_6 : x1.toInt ≠ 6 := fun e => z1_6 (Int32.toInt_inj.mp e)
    have e1_7 : x1.toInt ≠ 7 := fun e => z1_7 (Int32.toInt_inj.mp e)
    have e1_8 : x1.toInt ≠ 8 := fun e => z1_8 (Int32.toInt_inj.mp e)
    have e1_9 : x1.toInt ≠ 9 := fun e => z1_9 (Int32.toInt_inj.mp e)
    refine lv_tableOut (tgt := 141) hx hb dX5_count_1 (by omega) (by decide) ?_
    refine lv_iconst (v := (-1 : Int32)) hx hb dX5_count_141 (by decide) ?_
    cases h
    exact hret _ _ dX5_count_142
  exact key _ (fun pc ls hd => W.iret hx hb hr (fun t ht hW => ⟨_, rfl, rfl, ht⟩) (fun q h => by cases h) hd)
set_option maxHeartbeats 4000000 in
set_option maxRecDepth 100000 in
theorem kX5_finding (l : Launch) (D : va_G) (T : Nat → ClassId) (F : Nat) (ad : Nat → Nat) (rs : Nat → Int32) (rm : Nat → Nat → Int32) (ts : Nat → Int32) (tm : Nat → Nat → Int32) (rdue : Int32) (rtun : Int32) (rsee : Int32) (rbeg : Int32) (psize : Int32) (pclause : Int32) (peff : Nat → Int32) (pkin : Nat → Int32) (pgri : Nat → Int32) (psig : Nat → Int32) (psee : Nat → Int32) (qsize : Int32) (qclause : Int32) (qeff : Nat → Int32) (qkin : Nat → Int32) (qgri : Nat → Int32) (qsig : Nat → Int32) (qsee : Nat → Int32) (cdee : Int32) (cnow : Int64) (cahe : Nat → Int64) (kdee : Nat → Int32) (know : Nat → Int64) (kahe : Nat → Nat → Int64) (fc : Nat → Int32) (lf : Int32) (told : Int32) (up : Int64) (lo : Int64) (r : Int32) (h : fX5_finding F lf = some (r)) : Met l yX5_finding wsX5_finding ({ frames := 0, cells := 0, slots := 0, locals := 0 } : Room) (va_Pc [.ref (ad 0)] (fun U => va_P D vwCl (wPW T ad (ad 6) (ad 12) rs rm ts tm rdue rtun rsee rbeg psize pclause peff pkin pgri psig psee qsize qclause qeff qkin qgri qsig qsee cdee cnow cahe kdee know kahe fc lf told up lo) U.heap ∧ KK D T U)) (vp_Si (fun r' => r' = r)) 0 0 (fun _ => False) := by
  refine Met.ofW (cc := cX5_finding) (maxL := 1) (ret := some .int) (by decide) rfl ?_
  intro p e s m args below meth c s₁ B hml hv
  obtain ⟨ha, hP, hKK⟩ := hv
  have hx := B.exec
  have hb := B.bytes
  have hr := B.returns
  have hts := atoms_spec (ws := wsX5_finding) B.pre
  have hown : s.vm.findClass RX5 = some m.cls := findClass_of_methodNamed B.named
  have hlocks := B.notSynchronized
  have hK := hKK.1
  have hFix : CallFix p m c cX5_finding 1 s args wsX5_finding RX5 := ⟨hx, hb, hml, hown, hts⟩
  have q1 := hts _ (List.mem_of_getElem? (i := 1) (show wsX5_finding[1]? = some (Cond.fieldLink RX5 57 "PartyWill" "lastFinding" "I") from rfl))
  have iX5 : ∀ w ∈ u_ws RX5 TX5 14, w ∈ wsX5_finding := fun w h => List.mem_cons_of_mem _ (List.mem_append_right _ (h))
  obtain ⟨ls, hl, e0⟩ := my_entry (m := m) (n := 1) ha (Nat.le_of_ble_eq_true rfl)
  rw [e0]
  have hl : lv_has ls 1 [(0, .ref (ad 0))] := hl
  have key : ∀ Q : State → Prop, (∀ (pc : Nat) (ls : Array Slot), decode cX5_finding pc = .ok (.ireturn, 1) → W p l e ({ frames := 0, cells := 0, slots := 0, locals := 0 } : Room) s m args below meth c s.heap [] 0 0 Q (F0 m pc ls [.int r])) → W p l e ({ frames := 0, cells := 0, slots := 0, locals := 0 } : Room) s m args below meth c s.heap [] 0 0 Q (F0 m 0 ls []) := by
    intro Q hret
    unfold fX5_finding at h
    refine lv_aload_n hx hb dX5_finding_0 rfl (lv_at hl 0 rfl) ?_
    refine va_get (D := D) (ci := 3) (C := RX5) (T := TX5) (N := 14) hx hb hts iX5 hown hK hP 0 wPW_0 rfl 10 (by decide) q1 (fun _ h9 => h9) rfl dX5_finding_1 ?_
    cases h
    exact hret _ _ dX5_finding_4
  exact key _ (fun pc ls hd => W.iret hx hb hr (fun t ht hW => ⟨_, rfl, rfl, ht⟩) (fun q h => by cases h) hd)
set_option maxHeartbeats 4000000 in
set_option maxRecDepth 100000 in
theorem kX5_findings (l : Launch) (D : va_G) (T : Nat → ClassId) (F : Nat) (ad : Nat → Nat) (rs : Nat → Int32) (rm : Nat → Nat → Int32) (ts : Nat → Int32) (tm : Nat → Nat → Int32) (rdue : Int32) (rtun : Int32) (rsee : Int32) (rbeg : Int32) (psize : Int32) (pclause : Int32) (peff : Nat → Int32) (pkin : Nat → Int32) (pgri : Nat → Int32) (psig : Nat → Int32) (psee : Nat → Int32) (qsize : Int32) (qclause : Int32) (qeff : Nat → Int32) (qkin : Nat → Int32) (qgri : Nat → Int32) (qsig : Nat → Int32) (qsee : Nat → Int32) (cdee : Int32) (cnow : Int64) (cahe : Nat → Int64) (kdee : Nat → Int32) (know : Nat → Int64) (kahe : Nat → Nat → Int64) (fc : Nat → Int32) (lf : Int32) (told : Int32) (up : Int64) (lo : Int64) (x1 : Int32) (r : Int32) (h : fX5_findings F fc x1 = some (r)) : Met l yX5_findings wsX5_findings ({ frames := 0, cells := 0, slots := 0, locals := 0 } : Room) (va_Pc [.ref (ad 0), .int x1] (fun U => va_P D vwCl (wPW T ad (ad 6) (ad 12) rs rm ts tm rdue rtun rsee rbeg psize pclause peff pkin pgri psig psee qsize qclause qeff qkin qgri qsig qsee cdee cnow cahe kdee know kahe fc lf told up lo) U.heap ∧ KK D T U)) (vp_Si (fun r' => r' = r)) 0 0 (fun _ => False) := by
  refine Met.ofW (cc := cX5_findings) (maxL := 2) (ret := some .int) (by decide) rfl ?_
  intro p e s m args below meth c s₁ B hml hv
  obtain ⟨ha, hP, hKK⟩ := hv
  have hx := B.exec
  have hb := B.bytes
  have hr := B.returns
  have hts := atoms_spec (ws := wsX5_findings) B.pre
  have hown : s.vm.findClass RX5 = some m.cls := findClass_of_methodNamed B.named
  have hlocks := B.notSynchronized
  have hK := hKK.1
  have hFix : CallFix p m c cX5_findings 2 s args wsX5_findings RX5 := ⟨hx, hb, hml, hown, hts⟩
  have q1 := hts _ (List.mem_of_getElem? (i := 1) (show wsX5_findings[1]? = some (Cond.fieldLink RX5 54 "PartyWill" "findingCounts" "[I") from rfl))
  have iX5 : ∀ w ∈ u_ws RX5 TX5 14, w ∈ wsX5_findings := fun w h => List.mem_cons_of_mem _ (List.mem_append_right _ (h))
  obtain ⟨ls, hl, e0⟩ := my_entry (m := m) (n := 2) ha (Nat.le_of_ble_eq_true rfl)
  rw [e0]
  have hl : lv_has ls 2 [(0, .ref (ad 0)), (1, .int x1)] := hl
  have key : ∀ Q : State → Prop, (∀ (pc : Nat) (ls : Array Slot), decode cX5_findings pc = .ok (.ireturn, 1) → W p l e ({ frames := 0, cells := 0, slots := 0, locals := 0 } : Room) s m args below meth c s.heap [] 0 0 Q (F0 m pc ls [.int r])) → W p l e ({ frames := 0, cells := 0, slots := 0, locals := 0 } : Room) s m args below meth c s.heap [] 0 0 Q (F0 m 0 ls []) := by
    intro Q hret
    unfold fX5_findings at h
    refine lv_iload_n hx hb dX5_findings_0 rfl (lv_at hl 1 rfl) ?_
    refine lv_iconst (v := (1 : Int32)) hx hb dX5_findings_1 (by decide) ?_
    refine lv_icmp_lt (tgt := 10) hx hb dX5_findings_2 (by decide) (fun c2 => ?_) (fun c2 => ?_)
    · have h := br_1 h c2
      refine lv_iconst (v := (-1 : Int32)) hx hb dX5_findings_10 (by decide) ?_
      cases h
      exact hret _ _ dX5_findings_11
    · have h := br_0 h c2
      refine lv_iload_n hx hb dX5_findings_5 rfl (lv_at hl 1 rfl) ?_
      refine lv_iconst (v := (5 : Int32)) hx hb dX5_findings_6 (by decide) ?_
      refine lv_icmp_le (tgt := 12) hx hb dX5_findings_7 (by decide) (fun c7 => ?_) (fun c7 => ?_)
      · have h := br_1 h c7
        refine lv_aload_n hx hb dX5_findings_12 rfl (lv_at hl 0 rfl) ?_
        refine va_get (D := D) (ci := 3) (C := RX5) (T := TX5) (N := 14) hx hb hts iX5 hown hK hP 0 wPW_0 rfl 9 (by decide) q1 (fun _ h9 => h9) rfl dX5_findings_13 ?_
        refine lv_iload_n hx hb dX5_findings_16 rfl (lv_at hl 1 rfl) ?_
        obtain ⟨hin1, h⟩ := ck_some h
        refine va_iald hx hb hK hP 27 0 wPW_27 rfl hin1 dX5_findings_17 ?_
        cases h
        exact hret _ _ dX5_findings_18
      · have h := br_0 h c7
        refine lv_iconst (v := (-1 : Int32)) hx hb dX5_findings_10 (by decide) ?_
        cases h
        exact hret _ _ dX5_findings_11
  exact key _ (fun pc ls hd => W.iret hx hb hr (fun t ht hW => ⟨_, rfl, rfl, ht⟩) (fun q h => by cases h) hd)
set_option maxHeartbeats 4000000 in
set_option maxRecDepth 100000 in
theorem kX5_digestParty (l : Launch) (D : va_G) (T : Nat → ClassId) (F : Nat) (ad : Nat → Nat) (rs : Nat → Int32) (rm : Nat → Nat → Int32) (ts : Nat → Int32) (tm : Nat → Nat → Int32) (rdue : Int32) (rtun : Int32) (rsee : Int32) (rbeg : Int32) (psize : Int32) (pclause : Int32) (peff : Nat → Int32) (pkin : Nat → Int32) (pgri : Nat → Int32) (psig : Nat → Int32) (psee : Nat → Int32) (qsize : Int32) (qclause : Int32) (qeff : Nat → Int32) (qkin : Nat → Int32) (qgri : Nat → Int32) (qsig : Nat → Int32) (qsee : Nat → Int32) (cdee : Int32) (cnow : Int64) (cahe : Nat → Int64) (kdee : Nat → Int32) (know : Nat → Int64) (kahe : Nat → Nat → Int64) (fc : Nat → Int32) (lf : Int32) (told : Int32) (up : Int64) (lo : Int64) (x1 : Int64) (r : Int64) (h : fX5_digestParty F psize peff pkin psig psee cnow kdee x1 = some (r)) : Met l yX5_digestParty wsX5_digestParty ({ frames := 3, cells := 0, slots := 0, locals := 66 } : Room) (va_Pc [.ref (ad 0), .long x1] (fun U => va_P D vwCl (wPW T ad (ad 6) (ad 12) rs rm ts tm rdue rtun rsee rbeg psize pclause peff pkin pgri psig psee qsize qclause qeff qkin qgri qsig qsee cdee cnow cahe kdee know kahe fc lf told up lo) U.heap ∧ KK D T U)) (vp_Sl (fun r' => r' = r)) 0 0 (fun _ => False) := by
  refine Met.ofW (cc := cX5_digestParty) (maxL := 7) (ret := some .long) (by decide) rfl ?_
  intro p e s m args below meth c s₁ B hml hv
  obtain ⟨ha, hP, hKK⟩ := hv
  have hx := B.exec
  have hb := B.bytes
  have hr := B.returns
  have hts := atoms_spec (ws := wsX5_digestParty) B.pre
  have hown : s.vm.findClass RX5 = some m.cls := findClass_of_methodNamed B.named
  have hlocks := B.notSynchronized
  have hK := hKK.1
  have hFix : CallFix p m c cX5_digestParty 7 s args wsX5_digestParty RX5 := ⟨hx, hb, hml, hown, hts⟩
  have q1 := hts _ (List.mem_of_getElem? (i := 1) (show wsX5_digestParty[1]? = some (Cond.constantLong RX5 292 (31)) from rfl))
  have q2 := hts _ (List.mem_of_getElem? (i := 2) (show wsX5_digestParty[2]? = some (Cond.fieldLink RX5 36 "PartyWill" "party" "LPartyWill$Party;") from rfl))
  have q3 := hts _ (List.mem_of_getElem? (i := 3) (show wsX5_digestParty[3]? = some (Cond.fieldLink RX5 50 "PartyWill" "kept" "[LPartyWill$Course;") from rfl))
  have iX0 : ∀ w ∈ u_ws RX0 TX0 3, w ∈ wsX5_digestParty := fun w h => List.mem_cons_of_mem _ (List.mem_append_right _ (h))
  have iX2 : ∀ w ∈ u_ws RX2 TX2 7, w ∈ wsX5_digestParty := fun w h => List.mem_cons_of_mem _ (List.mem_append_left _ (List.mem_append_right _ (h)))
  have iX5 : ∀ w ∈ u_ws RX5 TX5 14, w ∈ wsX5_digestParty := fun w h => List.mem_cons_of_mem _ (List.mem_append_left _ (List.mem_append_left _ (List.mem_append_right _ (h))))
  obtain ⟨ls, hl, e0⟩ := my_entry (m := m) (n := 7) ha (Nat.le_of_ble_eq_true rfl)
  rw [e0]
  have hl : lv_has ls 7 [(0, .ref (ad 0)), (1, .long x1)] := hl
  have key : ∀ Q : State → Prop, (∀ (pc : Nat) (ls : Array Slot), decode cX5_digestParty pc = .ok (.lreturn, 1) → W p l e ({ frames := 3, cells := 0, slots := 0, locals := 66 } : Room) s m args below meth c s.heap [] 0 0 Q (F0 m pc ls [.long r])) → W p l e ({ frames := 3, cells := 0, slots := 0, locals := 66 } : Room) s m args below meth c s.heap [] 0 0 Q (F0 m 0 ls []) := by
    intro Q hret
    have l90 : ∀ nu : Nat, ∀ x3 : Int64, ∀ x5 : Int32, fX5_digestParty_l90 F psize peff pkin psig psee cnow kdee nu x3 x5 = some (r) → ∀ (ls : Array Slot), lv_has ls 7 [(0, .ref (ad 0)), (3, .long x3), (5, .int x5)] → W p l e ({ frames := 3, cells := 0, slots := 0, locals := 66 } : Room) s m args below meth c s.heap [] 0 0 Q (F0 m 90 ls []) := by
      intro nu
      induction nu with
      | zero => intro x3 x5 h; exact none_some h
      | succ nu90 ih90 =>
        intro x3 x5 h ls hl
        have h : fX5_digestParty_l90_b F psize peff pkin psig psee cnow kdee (fX5_digestParty_l90 F psize peff pkin psig psee cnow kdee nu90) x3 x5 = some (r) := h
        unfold fX5_digestParty_l90_b at h
        refine lv_iload hx hb dX5_digestParty_90 (lv_at hl 2 rfl) ?_
        refine lv_iconst (v := (3 : Int32)) hx hb dX5_digestParty_92 (by decide) ?_
        refine lv_icmp_ge (tgt := 120) hx hb dX5_digestParty_93 (by decide) (fun c93 => ?_) (fun c93 => ?_)
        · have h := br_1 h c93
          refine lv_lload_n hx hb dX5_digestParty_120 rfl (lv_at hl 1 rfl) ?_
          cases h
          exact hret _ _ dX5_digestParty_121
        · have h := br_0 h c93
          refine lv_ldc2 (v := (31 : Int64)) hx hb hown q1 dX5_digestParty_96 ?_
          refine lv_lload_n hx hb dX5_digestParty_99 rfl (lv_at hl 1 rfl) ?_
          refine lv_lmul hx hb dX5_digestParty_100 ?_
          refine lv_aload_n hx hb dX5_digestParty_101 rfl (lv_at hl 0 rfl) ?_
          refine va_get (D := D) (ci := 3) (C := RX5) (T := TX5) (N := 14) hx hb hts iX5 hown hK hP 0 wPW_0 rfl 8 (by decide) q3 (fun _ h9 => h9) rfl dX5_digestParty_102 ?_
          refine lv_iload hx hb dX5_digestParty_105 (lv_at hl 2 rfl) ?_
          obtain ⟨hin2, h⟩ := ck_some h
          have hk1 : x5.toNatClampNeg < 3 := vp_lt hin2
          refine my_ald (b := (ad (21 + 2 * x5.toNatClampNeg))) rfl hx hb hK hP 20 6 wPW_20 rfl hin2 (fun _ => if_pos hk1) dX5_digestParty_107 ?_
          refine va_getN (host := "PartyWill") (D := D) (ci := 0) (C := RX0) (T := TX0) (N := 3) hx hb hts iX0 hown hK hP (21 + 2 * x5.toNatClampNeg) (wPW_f_kept0 hk1) rfl 0 (by decide) (va_Nw.use rfl (nw_X5_71 hKK.2)) (fun _ h9 => h9) rfl dX5_digestParty_108 ?_
          refine lv_i2l (v := ((kdee x5.toNatClampNeg).toInt64)) hx hb dX5_digestParty_111 rfl ?_
          refine lv_ladd hx hb dX5_digestParty_112 ?_
          refine lv_lstore_n (lv' := [(3, .long (((31 : Int64) * x3) + ((kdee x5.toNatClampNeg).toInt64))), (0, .ref (ad 0)), (5, .int x5)]) hx hb dX5_digestParty_113 rfl hl (by decide) rfl (fun ls hl => ?_)
          refine lv_iinc (v := (x5 + (1 : Int32))) (lv' := [(5, .int (x5 + (1 : Int32))), (3, .long (((31 : Int64) * x3) + ((kdee x5.toNatClampNeg).toInt64))), (0, .ref (ad 0))]) hx hb dX5_digestParty_114 hl (k := 2) rfl rfl (by decide) rfl (fun ls hl => ?_)
          refine lv_goto (tgt := 90) hx hb dX5_digestParty_117 (by decide) ?_
          exact ih90 (((31 : Int64) * x3) + ((kdee x5.toNatClampNeg).toInt64)) (x5 + (1 : Int32)) h _ (lv_sub hl [2, 1, 0] rfl)
    have l38 : ∀ nu : Nat, ∀ x3 : Int64, ∀ x5 : Int32, fX5_digestParty_l38 F psize peff pkin psig psee cnow kdee nu x3 x5 = some (r) → ∀ (ls : Array Slot), lv_has ls 7 [(0, .ref (ad 0)), (3, .long x3), (5, .int x5)] → W p l e ({ frames := 3, cells := 0, slots := 0, locals := 66 } : Room) s m args below meth c s.heap [] 0 0 Q (F0 m 38 ls []) := by
      intro nu
      induction nu with
      | zero => intro x3 x5 h; exact none_some h
      | succ nu38 ih38 =>
        intro x3 x5 h ls hl
        have l53 : ∀ x5 : Int32, ∀ nu : Nat, ∀ x3 : Int64, ∀ x6 : Int32, fX5_digestParty_l53 F (fX5_digestParty_l38 F psize peff pkin psig psee cnow kdee nu38) psize peff pkin psig psee cnow kdee x5 nu x3 x6 = some (r) → ∀ (ls : Array Slot), lv_has ls 7 [(0, .ref (ad 0)), (3, .long x3), (5, .int x5), (6, .int x6)] → W p l e ({ frames := 3, cells := 0, slots := 0, locals := 66 } : Room) s m args below meth c s.heap [] 0 0 Q (F0 m 53 ls []) := by
          intro x5
          intro nu
          induction nu with
          | zero => intro x3 x6 h; exact none_some h
          | succ nu53 ih53 =>
            intro x3 x6 h ls hl
            have h : fX5_digestParty_l53_b F (fX5_digestParty_l38 F psize peff pkin psig psee cnow kdee nu38) psize peff pkin psig psee cnow kdee x5 (fX5_digestParty_l53 F (fX5_digestParty_l38 F psize peff pkin psig psee cnow kdee nu38) psize peff pkin psig psee cnow kdee x5 nu53) x3 x6 = some (r) := h
            unfold fX5_digestParty_l53_b at h
            refine lv_iload hx hb dX5_digestParty_53 (lv_at hl 3 rfl) ?_
            refine lv_iconst (v := (4 : Int32)) hx hb dX5_digestParty_55 (by decide) ?_
            refine lv_icmp_gt (tgt := 81) hx hb dX5_digestParty_56 (by decide) (fun c56 => ?_) (fun c56 => ?_)
            · have h := br_1 h c56
              refine lv_iinc (v := (x5 + (1 : Int32))) (lv' := [(5, .int (x5 + (1 : Int32))), (0, .ref (ad 0)), (3, .long x3), (6, .int x6)]) hx hb dX5_digestParty_81 hl (k := 2) rfl rfl (by decide) rfl (fun ls hl => ?_)
              refine lv_goto (tgt := 38) hx hb dX5_digestParty_84 (by decide) ?_
              exact ih38 x3 (x5 + (1 : Int32)) h _ (lv_sub hl [1, 2, 0] rfl)
            · have h := br_0 h c56
              refine lv_ldc2 (v := (31 : Int64)) hx hb hown q1 dX5_digestParty_59 ?_
              refine lv_lload_n hx hb dX5_digestParty_62 rfl (lv_at hl 1 rfl) ?_
              refine lv_lmul hx hb dX5_digestParty_63 ?_
              refine lv_aload_n hx hb dX5_digestParty_64 rfl (lv_at hl 0 rfl) ?_
              refine lv_iload hx hb dX5_digestParty_65 (lv_at hl 2 rfl) ?_
              refine lv_iload hx hb dX5_digestParty_67 (lv_at hl 3 rfl) ?_
              obtain ⟨r69, hc, h⟩ := bd1_some h
              refine my_roi (va_Run.run (va_runV (As := [.int x5, .int x6]) (rest := [.long ((31 : Int64) * x3)]) hFix (kX5_guestTells l D T F ad rs rm ts tm rdue rtun rsee rbeg psize pclause peff pkin pgri psig psee qsize qclause qeff qkin qgri qsig qsee cdee cnow cahe kdee know kahe fc lf told up lo x5 x6 r69 hc) (cwV 2 hts gX5_digestParty_X5_guestTells rfl rfl rfl ⟨rfl, hd_X5_guestTells⟩ ⟨Nat.le_of_ble_eq_true rfl, Nat.le_of_ble_eq_true rfl⟩) (preV_ro hP hKK (va_recv hK hP (ci := 3) (q0 := 0) rfl wPW_0)) rfl rfl hl.1 rfl (lv_room (Nat.le_of_ble_eq_true rfl)) dX5_digestParty_69 ⟨Nat.zero_le _, Nat.zero_le _⟩)) ?_
              refine lv_i2l (v := (r69.toInt64)) hx hb dX5_digestParty_72 rfl ?_
              refine lv_ladd hx hb dX5_digestParty_73 ?_
              refine lv_lstore_n (lv' := [(3, .long (((31 : Int64) * x3) + (r69.toInt64))), (0, .ref (ad 0)), (5, .int x5), (6, .int x6)]) hx hb dX5_digestParty_74 rfl hl (by decide) rfl (fun ls hl => ?_)
              refine lv_iinc (v := (x6 + (1 : Int32))) (lv' := [(6, .int (x6 + (1 : Int32))), (3, .long (((31 : Int64) * x3) + (r69.toInt64))), (0, .ref (ad 0)), (5, .int x5)]) hx hb dX5_digestParty_75 hl (k := 3) rfl rfl (by decide) rfl (fun ls hl => ?_)
              refine lv_goto (tgt := 53) hx hb dX5_digestParty_78 (by decide) ?_
              exact ih53 (((31 : Int64) * x3) + (r69.toInt64)) (x6 + (1 : Int32)) h _ (lv_sub hl [2, 1, 3, 0] rfl)
        have h : fX5_digestParty_l38_b F psize peff pkin psig psee cnow kdee (fX5_digestParty_l38 F psize peff pkin psig psee cnow kdee nu38) x3 x5 = some (r) := h
        unfold fX5_digestParty_l38_b at h
        refine lv_iload hx hb dX5_digestParty_38 (lv_at hl 2 rfl) ?_
        refine lv_aload_n hx hb dX5_digestParty_40 rfl (lv_at hl 0 rfl) ?_
        refine va_get (D := D) (ci := 3) (C := RX5) (T := TX5) (N := 14) hx hb hts iX5 hown hK hP 0 wPW_0 rfl 5 (by decide) q2 (fun _ h9 => h9) rfl dX5_digestParty_41 ?_
        refine va_getN (host := "PartyWill") (D := D) (ci := 1) (C := RX2) (T := TX2) (N := 7) hx hb hts iX2 hown hK hP 6 wPW_6 rfl 0 (by decide) (va_Nw.use rfl (nw_X5_111 hKK.2)) (fun _ h9 => h9) rfl dX5_digestParty_44 ?_
        refine lv_icmp_ge (tgt := 87) hx hb dX5_digestParty_47 (by decide) (fun c47 => ?_) (fun c47 => ?_)
        · have h := br_1 h c47
          refine lv_iconst (v := (0 : Int32)) hx hb dX5_digestParty_87 (by decide) ?_
          refine lv_istore (lv' := [(5, .int (0 : Int32)), (0, .ref (ad 0)), (3, .long x3)]) hx hb dX5_digestParty_88 hl (by decide) rfl (fun ls hl => ?_)
          exact l90 F x3 (0 : Int32) h _ (lv_sub hl [1, 2, 0] rfl)
        · have h := br_0 h c47
          refine lv_iconst (v := (0 : Int32)) hx hb dX5_digestParty_50 (by decide) ?_
          refine lv_istore (lv' := [(6, .int (0 : Int32)), (0, .ref (ad 0)), (3, .long x3), (5, .int x5)]) hx hb dX5_digestParty_51 hl (by decide) rfl (fun ls hl => ?_)
          exact l53 x5 F x3 (0 : Int32) h _ (lv_sub hl [1, 2, 3, 0] rfl)
    have l5 : ∀ nu : Nat, ∀ x3 : Int64, ∀ x5 : Int32, fX5_digestParty_l5 F psize peff pkin psig psee cnow kdee nu x3 x5 = some (r) → ∀ (ls : Array Slot), lv_has ls 7 [(0, .ref (ad 0)), (3, .long x3), (5, .int x5)] → W p l e ({ frames := 3, cells := 0, slots := 0, locals := 66 } : Room) s m args below meth c s.heap [] 0 0 Q (F0 m 5 ls []) := by
      intro nu
      induction nu with
      | zero => intro x3 x5 h; exact none_some h
      | succ nu5 ih5 =>
        intro x3 x5 h ls hl
        have h : fX5_digestParty_l5_b F psize peff pkin psig psee cnow kdee (fX5_digestParty_l5 F psize peff pkin psig psee cnow kdee nu5) x3 x5 = some (r) := h
        unfold fX5_digestParty_l5_b at h
        refine lv_iload hx hb dX5_digestParty_5 (lv_at hl 2 rfl) ?_
        refine lv_iconst (v := (4 : Int32)) hx hb dX5_digestParty_7 (by decide) ?_
        refine lv_icmp_ge (tgt := 35) hx hb dX5_digestParty_8 (by decide) (fun c8 => ?_) (fun c8 => ?_)
        · have h := br_1 h c8
          refine lv_iconst (v := (0 : Int32)) hx hb dX5_digestParty_35 (by decide) ?_
          refine lv_istore (lv' := [(5, .int (0 : Int32)), (0, .ref (ad 0)), (3, .long x3)]) hx hb dX5_digestParty_36 hl (by decide) rfl (fun ls hl => ?_)
          exact l38 F x3 (0 : Int32) h _ (lv_sub hl [1, 2, 0] rfl)
        · have h := br_0 h c8
          refine lv_ldc2 (v := (31 : Int64)) hx hb hown q1 dX5_digestParty_11 ?_
          refine lv_lload_n hx hb dX5_digestParty_14 rfl (lv_at hl 1 rfl) ?_
          refine lv_lmul hx hb dX5_digestParty_15 ?_
          refine lv_aload_n hx hb dX5_digestParty_16 rfl (lv_at hl 0 rfl) ?_
          refine va_get (D := D) (ci := 3) (C := RX5) (T := TX5) (N := 14) hx hb hts iX5 hown hK hP 0 wPW_0 rfl 5 (by decide) q2 (fun _ h9 => h9) rfl dX5_digestParty_17 ?_
          refine va_getN (host := "PartyWill") (D := D) (ci := 1) (C := RX2) (T := TX2) (N := 7) hx hb hts iX2 hown hK hP 6 wPW_6 rfl 2 (by decide) (va_Nw.use rfl (nw_X5_155 hKK.2)) (fun _ h9 => h9) rfl dX5_digestParty_20 ?_
          refine lv_iload hx hb dX5_digestParty_23 (lv_at hl 2 rfl) ?_
          obtain ⟨hin3, h⟩ := ck_some h
          refine va_iald hx hb hK hP 7 0 wPW_7 rfl hin3 dX5_digestParty_25 ?_
          refine lv_i2l (v := ((peff x5.toNatClampNeg).toInt64)) hx hb dX5_digestParty_26 rfl ?_
          refine lv_ladd hx hb dX5_digestParty_27 ?_
          refine lv_lstore_n (lv' := [(3, .long (((31 : Int64) * x3) + ((peff x5.toNatClampNeg).toInt64))), (0, .ref (ad 0)), (5, .int x5)]) hx hb dX5_digestParty_28 rfl hl (by decide) rfl (fun ls hl => ?_)
          refine lv_iinc (v := (x5 + (1 : Int32))) (lv' := [(5, .int (x5 + (1 : Int32))), (3, .long (((31 : Int64) * x3) + ((peff x5.toNatClampNeg).toInt64))), (0, .ref (ad 0))]) hx hb dX5_digestParty_29 hl (k := 2) rfl rfl (by decide) rfl (fun ls hl => ?_)
          refine lv_goto (tgt := 5) hx hb dX5_digestParty_32 (by decide) ?_
          exact ih5 (((31 : Int64) * x3) + ((peff x5.toNatClampNeg).toInt64)) (x5 + (1 : Int32)) h _ (lv_sub hl [2, 1, 0] rfl)
    unfold fX5_digestParty at h
    refine lv_lload_n hx hb dX5_digestParty_0 rfl (lv_at hl 1 rfl) ?_
    refine lv_lstore_n (lv' := [(3, .long x1), (0, .ref (ad 0)), (1, .long x1)]) hx hb dX5_digestParty_1 rfl hl (by decide) rfl (fun ls hl => ?_)
    refine lv_iconst (v := (0 : Int32)) hx hb dX5_digestParty_2 (by decide) ?_
    refine lv_istore (lv' := [(5, .int (0 : Int32)), (3, .long x1), (0, .ref (ad 0)), (1, .long x1)]) hx hb dX5_digestParty_3 hl (by decide) rfl (fun ls hl => ?_)
    exact l5 F x1 (0 : Int32) h _ (lv_sub hl [2, 1, 0] rfl)
  exact key _ (fun pc ls hd => W.lret hx hb hr (fun t ht hW => ⟨_, rfl, rfl, ht⟩) (fun q h => by cases h) hd)
set_option maxHeartbeats 4000000 in
set_option maxRecDepth 100000 in
theorem kX5_digest (l : Launch) (D : va_G) (T : Nat → ClassId) (F : Nat) (ad : Nat → Nat) (rs : Nat → Int32) (rm : Nat → Nat → Int32) (ts : Nat → Int32) (tm : Nat → Nat → Int32) (rdue : Int32) (rtun : Int32) (rsee : Int32) (rbeg : Int32) (psize : Int32) (pclause : Int32) (peff : Nat → Int32) (pkin : Nat → Int32) (pgri : Nat → Int32) (psig : Nat → Int32) (psee : Nat → Int32) (qsize : Int32) (qclause : Int32) (qeff : Nat → Int32) (qkin : Nat → Int32) (qgri : Nat → Int32) (qsig : Nat → Int32) (qsee : Nat → Int32) (cdee : Int32) (cnow : Int64) (cahe : Nat → Int64) (kdee : Nat → Int32) (know : Nat → Int64) (kahe : Nat → Nat → Int64) (fc : Nat → Int32) (lf : Int32) (told : Int32) (up : Int64) (lo : Int64) (r : Int64) (h : fX5_digest F rs rm ts tm psize pclause peff pkin psig psee cdee cnow kdee = some (r)) : Met l yX5_digest wsX5_digest ({ frames := 4, cells := 0, slots := 0, locals := 92 } : Room) (va_Pc [.ref (ad 0)] (fun U => va_P D vwCl (wPW T ad (ad 6) (ad 12) rs rm ts tm rdue rtun rsee rbeg psize pclause peff pkin pgri psig psee qsize qclause qeff qkin qgri qsig qsee cdee cnow cahe kdee know kahe fc lf told up lo) U.heap ∧ KK D T U)) (vp_Sl (fun r' => r' = r)) 0 0 (fun _ => False) := by
  refine Met.ofW (cc := cX5_digest) (maxL := 5) (ret := some .long) (by decide) rfl ?_
  intro p e s m args below meth c s₁ B hml hv
  obtain ⟨ha, hP, hKK⟩ := hv
  have hx := B.exec
  have hb := B.bytes
  have hr := B.returns
  have hts := atoms_spec (ws := wsX5_digest) B.pre
  have hown : s.vm.findClass RX5 = some m.cls := findClass_of_methodNamed B.named
  have hlocks := B.notSynchronized
  have hK := hKK.1
  have hFix : CallFix p m c cX5_digest 5 s args wsX5_digest RX5 := ⟨hx, hb, hml, hown, hts⟩
  have q1 := hts _ (List.mem_of_getElem? (i := 1) (show wsX5_digest[1]? = some (Cond.constantLong RX5 290 (17)) from rfl))
  have q2 := hts _ (List.mem_of_getElem? (i := 2) (show wsX5_digest[2]? = some (Cond.constantLong RX5 292 (31)) from rfl))
  have q3 := hts _ (List.mem_of_getElem? (i := 3) (show wsX5_digest[3]? = some (Cond.fieldLink RX5 14 "PartyWill" "rowSizes" "[I") from rfl))
  have q4 := hts _ (List.mem_of_getElem? (i := 4) (show wsX5_digest[4]? = some (Cond.fieldLink RX5 11 "PartyWill" "rows" "[[I") from rfl))
  have q5 := hts _ (List.mem_of_getElem? (i := 5) (show wsX5_digest[5]? = some (Cond.fieldLink RX5 23 "PartyWill" "textSizes" "[I") from rfl))
  have q6 := hts _ (List.mem_of_getElem? (i := 6) (show wsX5_digest[6]? = some (Cond.fieldLink RX5 20 "PartyWill" "texts" "[[B") from rfl))
  have iX5 : ∀ w ∈ u_ws RX5 TX5 14, w ∈ wsX5_digest := fun w h => List.mem_cons_of_mem _ (List.mem_append_left _ (List.mem_append_left _ (List.mem_append_right _ (h))))
  obtain ⟨ls, hl, e0⟩ := my_entry (m := m) (n := 5) ha (Nat.le_of_ble_eq_true rfl)
  rw [e0]
  have hl : lv_has ls 5 [(0, .ref (ad 0))] := hl
  have key : ∀ Q : State → Prop, (∀ (pc : Nat) (ls : Array Slot), decode cX5_digest pc = .ok (.lreturn, 1) → W p l e ({ frames := 4, cells := 0, slots := 0, locals := 92 } : Room) s m args below meth c s.heap [] 0 0 Q (F0 m pc ls [.long r])) → W p l e ({ frames := 4, cells := 0, slots := 0, locals := 92 } : Room) s m args below meth c s.heap [] 0 0 Q (F0 m 0 ls []) := by
    intro Q hret
    have l104 : ∀ nu : Nat, ∀ x1 : Int64, ∀ x3 : Int32, fX5_digest_l104 F rs rm ts tm psize pclause peff pkin psig psee cdee cnow kdee nu x1 x3 = some (r) → ∀ (ls : Array Slot), lv_has ls 5 [(0, .ref (ad 0)), (1, .long x1), (3, .int x3)] → W p l e ({ frames := 4, cells := 0, slots := 0, locals := 92 } : Room) s m args below meth c s.heap [] 0 0 Q (F0 m 104 ls []) := by
      intro nu
      induction nu with
      | zero => intro x1 x3 h; exact none_some h
      | succ nu104 ih104 =>
        intro x1 x3 h ls hl
        have l126 : ∀ x3 : Int32, ∀ nu : Nat, ∀ x1 : Int64, ∀ x4 : Int32, fX5_digest_l126 F (fX5_digest_l104 F rs rm ts tm psize pclause peff pkin psig psee cdee cnow kdee nu104) rs rm ts tm psize pclause peff pkin psig psee cdee cnow kdee x3 nu x1 x4 = some (r) → ∀ (ls : Array Slot), lv_has ls 5 [(0, .ref (ad 0)), (1, .long x1), (3, .int x3), (4, .int x4)] → W p l e ({ frames := 4, cells := 0, slots := 0, locals := 92 } : Room) s m args below meth c s.heap [] 0 0 Q (F0 m 126 ls []) := by
          intro x3
          intro nu
          induction nu with
          | zero => intro x1 x4 h; exact none_some h
          | succ nu126 ih126 =>
            intro x1 x4 h ls hl
            have h : fX5_digest_l126_b F (fX5_digest_l104 F rs rm ts tm psize pclause peff pkin psig psee cdee cnow kdee nu104) rs rm ts tm psize pclause peff pkin psig psee cdee cnow kdee x3 (fX5_digest_l126 F (fX5_digest_l104 F rs rm ts tm psize pclause peff pkin psig psee cdee cnow kdee nu104) rs rm ts tm psize pclause peff pkin psig psee cdee cnow kdee x3 nu126) x1 x4 = some (r) := h
            unfold fX5_digest_l126_b at h
            refine lv_iload hx hb dX5_digest_126 (lv_at hl 3 rfl) ?_
            refine lv_aload_n hx hb dX5_digest_128 rfl (lv_at hl 0 rfl) ?_
            refine va_get (D := D) (ci := 3) (C := RX5) (T := TX5) (N := 14) hx hb hts iX5 hown hK hP 0 wPW_0 rfl 3 (by decide) q5 (fun _ h9 => h9) rfl dX5_digest_129 ?_
            refine lv_iload_n hx hb dX5_digest_132 rfl (lv_at hl 2 rfl) ?_
            obtain ⟨hin1, h⟩ := ck_some h
            refine va_iald hx hb hK hP 4 0 wPW_4 rfl hin1 dX5_digest_133 ?_
            refine lv_icmp_ge (tgt := 160) hx hb dX5_digest_134 (by decide) (fun c134 => ?_) (fun c134 => ?_)
            · have h := br_1 h c134
              refine lv_iinc (v := (x3 + (1 : Int32))) (lv' := [(3, .int (x3 + (1 : Int32))), (0, .ref (ad 0)), (1, .long x1), (4, .int x4)]) hx hb dX5_digest_160 hl (k := 2) rfl rfl (by decide) rfl (fun ls hl => ?_)
              refine lv_goto (tgt := 104) hx hb dX5_digest_163 (by decide) ?_
              exact ih104 x1 (x3 + (1 : Int32)) h _ (lv_sub hl [1, 2, 0] rfl)
            · have h := br_0 h c134
              refine lv_ldc2 (v := (31 : Int64)) hx hb hown q2 dX5_digest_137 ?_
              refine lv_lload_n hx hb dX5_digest_140 rfl (lv_at hl 1 rfl) ?_
              refine lv_lmul hx hb dX5_digest_141 ?_
              refine lv_aload_n hx hb dX5_digest_142 rfl (lv_at hl 0 rfl) ?_
              refine va_get (D := D) (ci := 3) (C := RX5) (T := TX5) (N := 14) hx hb hts iX5 hown hK hP 0 wPW_0 rfl 2 (by decide) q6 (fun _ h9 => h9) rfl dX5_digest_143 ?_
              refine lv_iload_n hx hb dX5_digest_146 rfl (lv_at hl 2 rfl) ?_
              obtain ⟨hin3, h⟩ := ck_some h
              have hk2 : x3.toNatClampNeg < 4 := vp_lt hin3
              refine my_ald (b := (ad (34 + x3.toNatClampNeg))) rfl hx hb hK hP 3 5 wPW_3 rfl hin3 (fun _ => if_pos hk2) dX5_digest_147 ?_
              refine lv_iload hx hb dX5_digest_148 (lv_at hl 3 rfl) ?_
              obtain ⟨hin4, h⟩ := ck_some h
              refine va_bald hx hb hK hP (34 + x3.toNatClampNeg) 1 (wPW_f_texts0 hk2) rfl hin4 dX5_digest_150 ?_
              refine lv_i2l (v := (((tm x3.toNatClampNeg) x4.toNatClampNeg).toInt64)) hx hb dX5_digest_151 rfl ?_
              refine lv_ladd hx hb dX5_digest_152 ?_
              refine lv_lstore_n (lv' := [(1, .long (((31 : Int64) * x1) + (((tm x3.toNatClampNeg) x4.toNatClampNeg).toInt64))), (0, .ref (ad 0)), (3, .int x3), (4, .int x4)]) hx hb dX5_digest_153 rfl hl (by decide) rfl (fun ls hl => ?_)
              refine lv_iinc (v := (x4 + (1 : Int32))) (lv' := [(4, .int (x4 + (1 : Int32))), (1, .long (((31 : Int64) * x1) + (((tm x3.toNatClampNeg) x4.toNatClampNeg).toInt64))), (0, .ref (ad 0)), (3, .int x3)]) hx hb dX5_digest_154 hl (k := 3) rfl rfl (by decide) rfl (fun ls hl => ?_)
              refine lv_goto (tgt := 126) hx hb dX5_digest_157 (by decide) ?_
              exact ih126 (((31 : Int64) * x1) + (((tm x3.toNatClampNeg) x4.toNatClampNeg).toInt64)) (x4 + (1 : Int32)) h _ (lv_sub hl [2, 1, 3, 0] rfl)
        have h : fX5_digest_l104_b F rs rm ts tm psize pclause peff pkin psig psee cdee cnow kdee (fX5_digest_l104 F rs rm ts tm psize pclause peff pkin psig psee cdee cnow kdee nu104) x1 x3 = some (r) := h
        unfold fX5_digest_l104_b at h
        refine lv_iload_n hx hb dX5_digest_104 rfl (lv_at hl 2 rfl) ?_
        refine lv_iconst (v := (4 : Int32)) hx hb dX5_digest_105 (by decide) ?_
        refine lv_icmp_ge (tgt := 166) hx hb dX5_digest_106 (by decide) (fun c106 => ?_) (fun c106 => ?_)
        · have h := br_1 h c106
          refine lv_lload_n hx hb dX5_digest_166 rfl (lv_at hl 1 rfl) ?_
          cases h
          exact hret _ _ dX5_digest_167
        · have h := br_0 h c106
          refine lv_ldc2 (v := (31 : Int64)) hx hb hown q2 dX5_digest_109 ?_
          refine lv_lload_n hx hb dX5_digest_112 rfl (lv_at hl 1 rfl) ?_
          refine lv_lmul hx hb dX5_digest_113 ?_
          refine lv_aload_n hx hb dX5_digest_114 rfl (lv_at hl 0 rfl) ?_
          refine va_get (D := D) (ci := 3) (C := RX5) (T := TX5) (N := 14) hx hb hts iX5 hown hK hP 0 wPW_0 rfl 3 (by decide) q5 (fun _ h9 => h9) rfl dX5_digest_115 ?_
          refine lv_iload_n hx hb dX5_digest_118 rfl (lv_at hl 2 rfl) ?_
          obtain ⟨hin5, h⟩ := ck_some h
          refine va_iald hx hb hK hP 4 0 wPW_4 rfl hin5 dX5_digest_119 ?_
          refine lv_i2l (v := ((ts x3.toNatClampNeg).toInt64)) hx hb dX5_digest_120 rfl ?_
          refine lv_ladd hx hb dX5_digest_121 ?_
          refine lv_lstore_n (lv' := [(1, .long (((31 : Int64) * x1) + ((ts x3.toNatClampNeg).toInt64))), (0, .ref (ad 0)), (3, .int x3)]) hx hb dX5_digest_122 rfl hl (by decide) rfl (fun ls hl => ?_)
          refine lv_iconst (v := (0 : Int32)) hx hb dX5_digest_123 (by decide) ?_
          refine lv_istore (lv' := [(4, .int (0 : Int32)), (1, .long (((31 : Int64) * x1) + ((ts x3.toNatClampNeg).toInt64))), (0, .ref (ad 0)), (3, .int x3)]) hx hb dX5_digest_124 hl (by decide) rfl (fun ls hl => ?_)
          exact l126 x3 F (((31 : Int64) * x1) + ((ts x3.toNatClampNeg).toInt64)) (0 : Int32) h _ (lv_sub hl [2, 1, 3, 0] rfl)
    have l39 : ∀ nu : Nat, ∀ x1 : Int64, ∀ x3 : Int32, fX5_digest_l39 F rs rm ts tm psize pclause peff pkin psig psee cdee cnow kdee nu x1 x3 = some (r) → ∀ (ls : Array Slot), lv_has ls 5 [(0, .ref (ad 0)), (1, .long x1), (3, .int x3)] → W p l e ({ frames := 4, cells := 0, slots := 0, locals := 92 } : Room) s m args below meth c s.heap [] 0 0 Q (F0 m 39 ls []) := by
      intro nu
      induction nu with
      | zero => intro x1 x3 h; exact none_some h
      | succ nu39 ih39 =>
        intro x1 x3 h ls hl
        have l62 : ∀ x3 : Int32, ∀ nu : Nat, ∀ x1 : Int64, ∀ x4 : Int32, fX5_digest_l62 F (fX5_digest_l39 F rs rm ts tm psize pclause peff pkin psig psee cdee cnow kdee nu39) rs rm ts tm psize pclause peff pkin psig psee cdee cnow kdee x3 nu x1 x4 = some (r) → ∀ (ls : Array Slot), lv_has ls 5 [(0, .ref (ad 0)), (1, .long x1), (3, .int x3), (4, .int x4)] → W p l e ({ frames := 4, cells := 0, slots := 0, locals := 92 } : Room) s m args below meth c s.heap [] 0 0 Q (F0 m 62 ls []) := by
          intro x3
          intro nu
          induction nu with
          | zero => intro x1 x4 h; exact none_some h
          | succ nu62 ih62 =>
            intro x1 x4 h ls hl
            have h : fX5_digest_l62_b F (fX5_digest_l39 F rs rm ts tm psize pclause peff pkin psig psee cdee cnow kdee nu39) rs rm ts tm psize pclause peff pkin psig psee cdee cnow kdee x3 (fX5_digest_l62 F (fX5_digest_l39 F rs rm ts tm psize pclause peff pkin psig psee cdee cnow kdee nu39) rs rm ts tm psize pclause peff pkin psig psee cdee cnow kdee x3 nu62) x1 x4 = some (r) := h
            unfold fX5_digest_l62_b at h
            refine lv_iload hx hb dX5_digest_62 (lv_at hl 3 rfl) ?_
            refine lv_aload_n hx hb dX5_digest_64 rfl (lv_at hl 0 rfl) ?_
            refine va_get (D := D) (ci := 3) (C := RX5) (T := TX5) (N := 14) hx hb hts iX5 hown hK hP 0 wPW_0 rfl 1 (by decide) q3 (fun _ h9 => h9) rfl dX5_digest_65 ?_
            refine lv_iload_n hx hb dX5_digest_68 rfl (lv_at hl 2 rfl) ?_
            obtain ⟨hin6, h⟩ := ck_some h
            refine va_iald hx hb hK hP 2 0 wPW_2 rfl hin6 dX5_digest_69 ?_
            refine lv_icmp_ge (tgt := 96) hx hb dX5_digest_70 (by decide) (fun c70 => ?_) (fun c70 => ?_)
            · have h := br_1 h c70
              refine lv_iinc (v := (x3 + (1 : Int32))) (lv' := [(3, .int (x3 + (1 : Int32))), (0, .ref (ad 0)), (1, .long x1), (4, .int x4)]) hx hb dX5_digest_96 hl (k := 2) rfl rfl (by decide) rfl (fun ls hl => ?_)
              refine lv_goto (tgt := 39) hx hb dX5_digest_99 (by decide) ?_
              exact ih39 x1 (x3 + (1 : Int32)) h _ (lv_sub hl [1, 2, 0] rfl)
            · have h := br_0 h c70
              refine lv_ldc2 (v := (31 : Int64)) hx hb hown q2 dX5_digest_73 ?_
              refine lv_lload_n hx hb dX5_digest_76 rfl (lv_at hl 1 rfl) ?_
              refine lv_lmul hx hb dX5_digest_77 ?_
              refine lv_aload_n hx hb dX5_digest_78 rfl (lv_at hl 0 rfl) ?_
              refine va_get (D := D) (ci := 3) (C := RX5) (T := TX5) (N := 14) hx hb hts iX5 hown hK hP 0 wPW_0 rfl 0 (by decide) q4 (fun _ h9 => h9) rfl dX5_digest_79 ?_
              refine lv_iload_n hx hb dX5_digest_82 rfl (lv_at hl 2 rfl) ?_
              obtain ⟨hin8, h⟩ := ck_some h
              have hk7 : x3.toNatClampNeg < 6 := vp_lt hin8
              refine my_ald (b := (ad (28 + x3.toNatClampNeg))) rfl hx hb hK hP 1 4 wPW_1 rfl hin8 (fun _ => if_pos hk7) dX5_digest_83 ?_
              refine lv_iload hx hb dX5_digest_84 (lv_at hl 3 rfl) ?_
              obtain ⟨hin9, h⟩ := ck_some h
              refine va_iald hx hb hK hP (28 + x3.toNatClampNeg) 0 (wPW_f_rows0 hk7) rfl hin9 dX5_digest_86 ?_
              refine lv_i2l (v := (((rm x3.toNatClampNeg) x4.toNatClampNeg).toInt64)) hx hb dX5_digest_87 rfl ?_
              refine lv_ladd hx hb dX5_digest_88 ?_
              refine lv_lstore_n (lv' := [(1, .long (((31 : Int64) * x1) + (((rm x3.toNatClampNeg) x4.toNatClampNeg).toInt64))), (0, .ref (ad 0)), (3, .int x3), (4, .int x4)]) hx hb dX5_digest_89 rfl hl (by decide) rfl (fun ls hl => ?_)
              refine lv_iinc (v := (x4 + (1 : Int32))) (lv' := [(4, .int (x4 + (1 : Int32))), (1, .long (((31 : Int64) * x1) + (((rm x3.toNatClampNeg) x4.toNatClampNeg).toInt64))), (0, .ref (ad 0)), (3, .int x3)]) hx hb dX5_digest_90 hl (k := 3) rfl rfl (by decide) rfl (fun ls hl => ?_)
              refine lv_goto (tgt := 62) hx hb dX5_digest_93 (by decide) ?_
              exact ih62 (((31 : Int64) * x1) + (((rm x3.toNatClampNeg) x4.toNatClampNeg).toInt64)) (x4 + (1 : Int32)) h _ (lv_sub hl [2, 1, 3, 0] rfl)
        have h : fX5_digest_l39_b F rs rm ts tm psize pclause peff pkin psig psee cdee cnow kdee (fX5_digest_l39 F rs rm ts tm psize pclause peff pkin psig psee cdee cnow kdee nu39) x1 x3 = some (r) := h
        unfold fX5_digest_l39_b at h
        refine lv_iload_n hx hb dX5_digest_39 rfl (lv_at hl 2 rfl) ?_
        refine lv_bipush (v := (6 : Int32)) hx hb dX5_digest_40 (by decide) ?_
        refine lv_icmp_ge (tgt := 102) hx hb dX5_digest_42 (by decide) (fun c42 => ?_) (fun c42 => ?_)
        · have h := br_1 h c42
          refine lv_iconst (v := (0 : Int32)) hx hb dX5_digest_102 (by decide) ?_
          refine lv_istore_n (lv' := [(3, .int (0 : Int32)), (0, .ref (ad 0)), (1, .long x1)]) hx hb dX5_digest_103 rfl hl (by decide) rfl (fun ls hl => ?_)
          exact l104 F x1 (0 : Int32) h _ (lv_sub hl [1, 2, 0] rfl)
        · have h := br_0 h c42
          refine lv_ldc2 (v := (31 : Int64)) hx hb hown q2 dX5_digest_45 ?_
          refine lv_lload_n hx hb dX5_digest_48 rfl (lv_at hl 1 rfl) ?_
          refine lv_lmul hx hb dX5_digest_49 ?_
          refine lv_aload_n hx hb dX5_digest_50 rfl (lv_at hl 0 rfl) ?_
          refine va_get (D := D) (ci := 3) (C := RX5) (T := TX5) (N := 14) hx hb hts iX5 hown hK hP 0 wPW_0 rfl 1 (by decide) q3 (fun _ h9 => h9) rfl dX5_digest_51 ?_
          refine lv_iload_n hx hb dX5_digest_54 rfl (lv_at hl 2 rfl) ?_
          obtain ⟨hin10, h⟩ := ck_some h
          refine va_iald hx hb hK hP 2 0 wPW_2 rfl hin10 dX5_digest_55 ?_
          refine lv_i2l (v := ((rs x3.toNatClampNeg).toInt64)) hx hb dX5_digest_56 rfl ?_
          refine lv_ladd hx hb dX5_digest_57 ?_
          refine lv_lstore_n (lv' := [(1, .long (((31 : Int64) * x1) + ((rs x3.toNatClampNeg).toInt64))), (0, .ref (ad 0)), (3, .int x3)]) hx hb dX5_digest_58 rfl hl (by decide) rfl (fun ls hl => ?_)
          refine lv_iconst (v := (0 : Int32)) hx hb dX5_digest_59 (by decide) ?_
          refine lv_istore (lv' := [(4, .int (0 : Int32)), (1, .long (((31 : Int64) * x1) + ((rs x3.toNatClampNeg).toInt64))), (0, .ref (ad 0)), (3, .int x3)]) hx hb dX5_digest_60 hl (by decide) rfl (fun ls hl => ?_)
          exact l62 x3 F (((31 : Int64) * x1) + ((rs x3.toNatClampNeg).toInt64)) (0 : Int32) h _ (lv_sub hl [2, 1, 3, 0] rfl)
    have l6 : ∀ nu : Nat, ∀ x1 : Int64, ∀ x3 : Int32, fX5_digest_l6 F rs rm ts tm psize pclause peff pkin psig psee cdee cnow kdee nu x1 x3 = some (r) → ∀ (ls : Array Slot), lv_has ls 5 [(0, .ref (ad 0)), (1, .long x1), (3, .int x3)] → W p l e ({ frames := 4, cells := 0, slots := 0, locals := 92 } : Room) s m args below meth c s.heap [] 0 0 Q (F0 m 6 ls []) := by
      intro nu
      induction nu with
      | zero => intro x1 x3 h; exact none_some h
      | succ nu6 ih6 =>
        intro x1 x3 h ls hl
        have h : fX5_digest_l6_b F rs rm ts tm psize pclause peff pkin psig psee cdee cnow kdee (fX5_digest_l6 F rs rm ts tm psize pclause peff pkin psig psee cdee cnow kdee nu6) x1 x3 = some (r) := h
        unfold fX5_digest_l6_b at h
        refine lv_iload_n hx hb dX5_digest_6 rfl (lv_at hl 2 rfl) ?_
        refine lv_bipush (v := (9 : Int32)) hx hb dX5_digest_7 (by decide) ?_
        refine lv_icmp_gt (tgt := 31) hx hb dX5_digest_9 (by decide) (fun c9 => ?_) (fun c9 => ?_)
        · have h := br_1 h c9
          refine lv_aload_n hx hb dX5_digest_31 rfl (lv_at hl 0 rfl) ?_
          refine lv_lload_n hx hb dX5_digest_32 rfl (lv_at hl 1 rfl) ?_
          obtain ⟨r33, hc, h⟩ := bd1_some h
          refine my_rol (va_Run.run (va_runV (As := [.long x1]) (rest := []) hFix (kX5_digestParty l D T F ad rs rm ts tm rdue rtun rsee rbeg psize pclause peff pkin pgri psig psee qsize qclause qeff qkin qgri qsig qsee cdee cnow cahe kdee know kahe fc lf told up lo x1 r33 hc) (cwV 1 hts gX5_digest_X5_digestParty rfl rfl rfl ⟨rfl, hd_X5_digestParty⟩ ⟨Nat.le_of_ble_eq_true rfl, Nat.le_of_ble_eq_true rfl⟩) (preV_ro hP hKK (va_recv hK hP (ci := 3) (q0 := 0) rfl wPW_0)) rfl rfl hl.1 rfl (lv_room (Nat.le_of_ble_eq_true rfl)) dX5_digest_33 ⟨Nat.zero_le _, Nat.zero_le _⟩)) ?_
          refine lv_lstore_n (lv' := [(1, .long r33), (0, .ref (ad 0)), (3, .int x3)]) hx hb dX5_digest_36 rfl hl (by decide) rfl (fun ls hl => ?_)
          refine lv_iconst (v := (0 : Int32)) hx hb dX5_digest_37 (by decide) ?_
          refine lv_istore_n (lv' := [(3, .int (0 : Int32)), (1, .long r33), (0, .ref (ad 0))]) hx hb dX5_digest_38 rfl hl (by decide) rfl (fun ls hl => ?_)
          exact l39 F r33 (0 : Int32) h _ (lv_sub hl [2, 1, 0] rfl)
        · have h := br_0 h c9
          refine lv_ldc2 (v := (31 : Int64)) hx hb hown q2 dX5_digest_12 ?_
          refine lv_lload_n hx hb dX5_digest_15 rfl (lv_at hl 1 rfl) ?_
          refine lv_lmul hx hb dX5_digest_16 ?_
          refine lv_aload_n hx hb dX5_digest_17 rfl (lv_at hl 0 rfl) ?_
          refine lv_iload_n hx hb dX5_digest_18 rfl (lv_at hl 2 rfl) ?_
          obtain ⟨r19, hc, h⟩ := bd1_some h
          refine my_roi (va_Run.run (va_runV (As := [.int x3]) (rest := [.long ((31 : Int64) * x1)]) hFix (kX5_count l D T F ad rs rm ts tm rdue rtun rsee rbeg psize pclause peff pkin pgri psig psee qsize qclause qeff qkin qgri qsig qsee cdee cnow cahe kdee know kahe fc lf told up lo x3 r19 hc) (cwV 1 hts gX5_digest_X5_count rfl rfl rfl ⟨rfl, hd_X5_count⟩ ⟨Nat.le_of_ble_eq_true rfl, Nat.le_of_ble_eq_true rfl⟩) (preV_ro hP hKK (va_recv hK hP (ci := 3) (q0 := 0) rfl wPW_0)) rfl rfl hl.1 rfl (lv_room (Nat.le_of_ble_eq_true rfl)) dX5_digest_19 ⟨Nat.zero_le _, Nat.zero_le _⟩)) ?_
          refine lv_i2l (v := (r19.toInt64)) hx hb dX5_digest_22 rfl ?_
          refine lv_ladd hx hb dX5_digest_23 ?_
          refine lv_lstore_n (lv' := [(1, .long (((31 : Int64) * x1) + (r19.toInt64))), (0, .ref (ad 0)), (3, .int x3)]) hx hb dX5_digest_24 rfl hl (by decide) rfl (fun ls hl => ?_)
          refine lv_iinc (v := (x3 + (1 : Int32))) (lv' := [(3, .int (x3 + (1 : Int32))), (1, .long (((31 : Int64) * x1) + (r19.toInt64))), (0, .ref (ad 0))]) hx hb dX5_digest_25 hl (k := 2) rfl rfl (by decide) rfl (fun ls hl => ?_)
          refine lv_goto (tgt := 6) hx hb dX5_digest_28 (by decide) ?_
          exact ih6 (((31 : Int64) * x1) + (r19.toInt64)) (x3 + (1 : Int32)) h _ (lv_sub hl [2, 1, 0] rfl)
    unfold fX5_digest at h
    refine lv_ldc2 (v := (17 : Int64)) hx hb hown q1 dX5_digest_0 ?_
    refine lv_lstore_n (lv' := [(1, .long (17 : Int64)), (0, .ref (ad 0))]) hx hb dX5_digest_3 rfl hl (by decide) rfl (fun ls hl => ?_)
    refine lv_iconst (v := (0 : Int32)) hx hb dX5_digest_4 (by decide) ?_
    refine lv_istore_n (lv' := [(3, .int (0 : Int32)), (1, .long (17 : Int64)), (0, .ref (ad 0))]) hx hb dX5_digest_5 rfl hl (by decide) rfl (fun ls hl => ?_)
    exact l6 F (17 : Int64) (0 : Int32) h _ (lv_sub hl [2, 1, 0] rfl)
  exact key _ (fun pc ls hd => W.lret hx hb hr (fun t ht hW => ⟨_, rfl, rfl, ht⟩) (fun q h => by cases h) hd)
