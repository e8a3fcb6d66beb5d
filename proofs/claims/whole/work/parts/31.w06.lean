set_option maxHeartbeats 4000000 in
set_option maxRecDepth 100000 in
theorem kX5_mark (l : Launch) (D : va_G) (T : Nat → ClassId) (F : Nat) (ad : Nat → Nat) (rs : Nat → Int32) (rm : Nat → Nat → Int32) (ts : Nat → Int32) (tm : Nat → Nat → Int32) (rdue : Int32) (rtun : Int32) (rsee : Int32) (rbeg : Int32) (psize : Int32) (pclause : Int32) (peff : Nat → Int32) (pkin : Nat → Int32) (pgri : Nat → Int32) (psig : Nat → Int32) (psee : Nat → Int32) (qsize : Int32) (qclause : Int32) (qeff : Nat → Int32) (qkin : Nat → Int32) (qgri : Nat → Int32) (qsig : Nat → Int32) (qsee : Nat → Int32) (cdee : Int32) (cnow : Int64) (cahe : Nat → Int64) (kdee : Nat → Int32) (know : Nat → Int64) (kahe : Nat → Nat → Int64) (fc : Nat → Int32) (lf : Int32) (told : Int32) (up : Int64) (lo : Int64) (x1 : Int32) (x2 : Int32) (r : Int32) (zfc : Nat → Int32) (zlf : Int32) (h : fX5_mark F psize pclause peff pkin psig cnow fc lf x1 x2 = some (r, zfc, zlf)) : ∀ sz : Nat, Met l yX5_mark wsX5_mark ({ frames := 4, cells := 0, slots := 0, locals := 101 } : Room) (va_Pc [.ref (ad 0), .int x1, .int x2] (fun U => U.heap.size = sz ∧ va_P D vwCl (wPW T ad (ad 6) (ad 12) rs rm ts tm rdue rtun rsee rbeg psize pclause peff pkin pgri psig psee qsize qclause qeff qkin qgri qsig qsee cdee cnow cahe kdee know kahe fc lf told up lo) U.heap ∧ KK D T U ∧ va_D (fun _ => True) (wPW T ad (ad 6) (ad 12) rs rm ts tm rdue rtun rsee rbeg psize pclause peff pkin pgri psig psee qsize qclause qeff qkin qgri qsig qsee cdee cnow cahe kdee know kahe fc lf told up lo))) (va_Qi (fun r' (_ : Unit) => r' = r) (fun _ t => va_P D vwCl (wPW T ad (ad 6) (ad 12) rs rm ts tm rdue rtun rsee rbeg psize pclause peff pkin pgri psig psee qsize qclause qeff qkin qgri qsig qsee cdee cnow cahe kdee know kahe zfc zlf told up lo) t.heap ∧ va_D (va_A (wPW T ad (ad 6) (ad 12) rs rm ts tm rdue rtun rsee rbeg psize pclause peff pkin pgri psig psee qsize qclause qeff qkin qgri qsig qsee cdee cnow cahe kdee know kahe fc lf told up lo) sz) (wPW T ad (ad 6) (ad 12) rs rm ts tm rdue rtun rsee rbeg psize pclause peff pkin pgri psig psee qsize qclause qeff qkin qgri qsig qsee cdee cnow cahe kdee know kahe zfc zlf told up lo)) (va_A (wPW T ad (ad 6) (ad 12) rs rm ts tm rdue rtun rsee rbeg psize pclause peff pkin pgri psig psee qsize qclause qeff qkin qgri qsig qsee cdee cnow cahe kdee know kahe fc lf told up lo) sz)) 0 0 (va_A (wPW T ad (ad 6) (ad 12) rs rm ts tm rdue rtun rsee rbeg psize pclause peff pkin pgri psig psee qsize qclause qeff qkin qgri qsig qsee cdee cnow cahe kdee know kahe fc lf told up lo) sz) := by
  intro sz
  refine Met.ofW (cc := cX5_mark) (maxL := 3) (ret := some .int) (by decide) rfl ?_
  intro p e s m args below meth c s₁ B hml hv
  obtain ⟨ha, hsz, hP, hKK, hD0⟩ := hv
  have hx := B.exec
  have hb := B.bytes
  have hr := B.returns
  have hts := atoms_spec (ws := wsX5_mark) B.pre
  have hown : s.vm.findClass RX5 = some m.cls := findClass_of_methodNamed B.named
  have hlocks := B.notSynchronized
  have hK := hKK.1
  have hFix : CallFix p m c cX5_mark 3 s args wsX5_mark RX5 := ⟨hx, hb, hml, hown, hts⟩
  have q1 := hts _ (List.mem_of_getElem? (i := 1) (show wsX5_mark[1]? = some (Cond.fieldLink RX5 36 "PartyWill" "party" "LPartyWill$Party;") from rfl))
  have q2 := hts _ (List.mem_of_getElem? (i := 2) (show wsX5_mark[2]? = some (Cond.fieldLink RX5 46 "PartyWill" "course" "LPartyWill$Course;") from rfl))
  have q17 := hts _ (List.mem_of_getElem? (i := 17) (show wsX5_mark[17]? = some (Cond.static yX1_isIn) from rfl))
  have q18 := hts _ (List.mem_of_getElem? (i := 18) (show wsX5_mark[18]? = some (Cond.initialized RX1) from rfl))
  have q20 := hts _ (List.mem_of_getElem? (i := 20) (show wsX5_mark[20]? = some (Cond.instanceMethod yX2_tunesThatCheer) from rfl))
  have q21 := hts _ (List.mem_of_getElem? (i := 21) (show wsX5_mark[21]? = some (Cond.initialized RX2) from rfl))
  have q22 := hts _ (List.mem_of_getElem? (i := 22) (show wsX5_mark[22]? = some (Cond.selects RX2 yX2_tunesThatCheer yX2_tunesThatCheer) from rfl))
  have q48 := hts _ (List.mem_of_getElem? (i := 48) (show wsX5_mark[48]? = some (Cond.instanceMethod yX2_steepestRise) from rfl))
  have q49 := hts _ (List.mem_of_getElem? (i := 49) (show wsX5_mark[49]? = some (Cond.selects RX2 yX2_steepestRise yX2_steepestRise) from rfl))
  have q51 := hts _ (List.mem_of_getElem? (i := 51) (show wsX5_mark[51]? = some (Cond.instanceMethod yX2_namesAMournerBears) from rfl))
  have q52 := hts _ (List.mem_of_getElem? (i := 52) (show wsX5_mark[52]? = some (Cond.selects RX2 yX2_namesAMournerBears yX2_namesAMournerBears) from rfl))
  have q55 := hts _ (List.mem_of_getElem? (i := 55) (show wsX5_mark[55]? = some (Cond.instanceMethod yX2_sadderThan) from rfl))
  have q56 := hts _ (List.mem_of_getElem? (i := 56) (show wsX5_mark[56]? = some (Cond.selects RX2 yX2_sadderThan yX2_sadderThan) from rfl))
  have q59 := hts _ (List.mem_of_getElem? (i := 59) (show wsX5_mark[59]? = some (Cond.instanceMethod yX2_suspects) from rfl))
  have q60 := hts _ (List.mem_of_getElem? (i := 60) (show wsX5_mark[60]? = some (Cond.selects RX2 yX2_suspects yX2_suspects) from rfl))
  have iX0 : ∀ w ∈ u_ws RX0 TX0 3, w ∈ wsX5_mark := fun w h => List.mem_cons_of_mem _ (List.mem_append_right _ (h))
  have iX2 : ∀ w ∈ u_ws RX2 TX2 7, w ∈ wsX5_mark := fun w h => List.mem_cons_of_mem _ (List.mem_append_left _ (List.mem_append_right _ (h)))
  have iX5 : ∀ w ∈ u_ws RX5 TX5 14, w ∈ wsX5_mark := fun w h => List.mem_cons_of_mem _ (List.mem_append_left _ (List.mem_append_left _ (List.mem_append_right _ (h))))
  subst hsz
  have hD := hD0.self (sz := s.heap.size)
  generalize hAe : va_A (wPW T ad (ad 6) (ad 12) rs rm ts tm rdue rtun rsee rbeg psize pclause peff pkin pgri psig psee qsize qclause qeff qkin qgri qsig qsee cdee cnow cahe kdee know kahe fc lf told up lo) s.heap.size = A at hD ⊢
  have hA : ∀ q : Nat, s.heap.size ≤ q → A q := fun q h => by rw [← hAe]; exact Or.inr h
  have hS : va_S A s.heap s.heap [] := va_S.rf
  have hP : va_P D vwCl (wPW T ad (ad 6) (ad 12) rs rm ts tm rdue rtun rsee rbeg psize pclause peff pkin pgri psig psee qsize qclause qeff qkin qgri qsig qsee cdee cnow cahe kdee know kahe fc lf told up lo) s.heap := hP
  obtain ⟨ls, hl, e0⟩ := my_entry (m := m) (n := 3) ha (Nat.le_of_ble_eq_true rfl)
  rw [e0]
  have hl : lv_has ls 3 [(0, .ref (ad 0)), (1, .int x1), (2, .int x2)] := hl
  have key : ∀ Q : State → Prop, (∀ (H : Heap) (locs : List Loc) (pc : Nat) (ls : Array Slot), va_P D vwCl (wPW T ad (ad 6) (ad 12) rs rm ts tm rdue rtun rsee rbeg psize pclause peff pkin pgri psig psee qsize qclause qeff qkin qgri qsig qsee cdee cnow cahe kdee know kahe zfc zlf told up lo) H → va_D A (wPW T ad (ad 6) (ad 12) rs rm ts tm rdue rtun rsee rbeg psize pclause peff pkin pgri psig psee qsize qclause qeff qkin qgri qsig qsee cdee cnow cahe kdee know kahe zfc zlf told up lo) → va_S A s.heap H locs → decode cX5_mark pc = .ok (.ireturn, 1) → W p l e ({ frames := 4, cells := 0, slots := 0, locals := 101 } : Room) s m args below meth c H locs 0 0 Q (F0 m pc ls [.int r])) → W p l e ({ frames := 4, cells := 0, slots := 0, locals := 101 } : Room) s m args below meth c s.heap [] 0 0 Q (F0 m 0 ls []) := by
    intro Q hret
    skip
    unfold fX5_mark at h
    refine lv_aload_n hx hb dX5_mark_0 rfl (lv_at hl 0 rfl) ?_
    refine lv_iload_n hx hb dX5_mark_1 rfl (lv_at hl 1 rfl) ?_
    obtain ⟨r2, hc, h⟩ := bd1_some h
    refine my_roz (va_Run.run (va_runV (As := [.int x1]) (rest := []) hFix (kX5_isGuest l D T F ad rs rm ts tm rdue rtun rsee rbeg psize pclause peff pkin pgri psig psee qsize qclause qeff qkin qgri qsig qsee cdee cnow cahe kdee know kahe fc lf told up lo x1 r2 hc) (cwV 1 hts gX5_mark_X5_isGuest rfl rfl rfl ⟨rfl, hd_X5_isGuest⟩ ⟨Nat.le_of_ble_eq_true rfl, Nat.le_of_ble_eq_true rfl⟩) (preV_ro hP hKK (va_recv hK hP (ci := 3) (q0 := 0) rfl wPW_0)) rfl rfl hl.1 rfl (lv_room (Nat.le_of_ble_eq_true rfl)) dX5_mark_2 ⟨Nat.zero_le _, Nat.zero_le _⟩)) (fun hb2 => ?_)
    refine lv_if_eq (tgt := 18) hx hb dX5_mark_5 (by decide) (fun c5 => ?_) (fun c5 => ?_)
    · have h := br_1 h c5
      refine lv_iconst (v := (-1 : Int32)) hx hb dX5_mark_18 (by decide) ?_
      cases h
      exact hret _ _ _ _ hP hD hS dX5_mark_19
    · have h := br_0 h c5
      refine lv_iload_n hx hb dX5_mark_8 rfl (lv_at hl 2 rfl) ?_
      refine lv_if_le (tgt := 18) hx hb dX5_mark_9 (by decide) (fun c9 => ?_) (fun c9 => ?_)
      · have h := br_1 h c9
        refine lv_iconst (v := (-1 : Int32)) hx hb dX5_mark_18 (by decide) ?_
        cases h
        exact hret _ _ _ _ hP hD hS dX5_mark_19
      · have h := br_0 h c9
        refine lv_iload_n hx hb dX5_mark_12 rfl (lv_at hl 2 rfl) ?_
        refine lv_bipush (v := (6 : Int32)) hx hb dX5_mark_13 (by decide) ?_
        refine lv_icmp_lt (tgt := 20) hx hb dX5_mark_15 (by decide) (fun c15 => ?_) (fun c15 => ?_)
        · have h := br_1 h c15
          refine lv_aload_n hx hb dX5_mark_20 rfl (lv_at hl 0 rfl) ?_
          refine va_get (D := D) (ci := 3) (C := RX5) (T := TX5) (N := 14) hx hb hts iX5 hown hK hP 0 wPW_0 rfl 5 (by decide) q1 (fun _ h9 => h9) rfl dX5_mark_21 ?_
          refine va_getN (host := "PartyWill") (D := D) (ci := 1) (C := RX2) (T := TX2) (N := 7) hx hb hts iX2 hown hK hP 6 wPW_6 rfl 3 (by decide) (va_Nw.use rfl (nw_X5_120 hKK.2)) (fun _ h9 => h9) rfl dX5_mark_24 ?_
          refine lv_iload_n hx hb dX5_mark_27 rfl (lv_at hl 1 rfl) ?_
          obtain ⟨hin1, h⟩ := ck_some h
          refine va_iald hx hb hK hP 8 0 wPW_8 rfl hin1 dX5_mark_28 ?_
          refine lv_iload_n hx hb dX5_mark_29 rfl (lv_at hl 2 rfl) ?_
          obtain ⟨r30, hc, h⟩ := bd1_some h
          refine my_roz (va_Run.run (va_runS (As := [.int (pkin x1.toNatClampNeg), .int x2]) (rest := []) hFix (kX5_isOfKind l D T F (pkin x1.toNatClampNeg) x2 r30 hc) (va_cwS 2 hts gX5_mark_X5_isOfKind rfl rfl rfl hd_X5_isOfKind ⟨Nat.le_of_ble_eq_true rfl, Nat.le_of_ble_eq_true rfl⟩) (preS_ro va_nil hKK) rfl rfl hl.1 rfl (lv_room (Nat.le_of_ble_eq_true rfl)) dX5_mark_30 ⟨Nat.zero_le _, Nat.zero_le _⟩)) (fun hb30 => ?_)
          refine lv_if_ne (tgt := 42) hx hb dX5_mark_33 (by decide) (fun c33 => ?_) (fun c33 => ?_)
          · have h := br_0 h c33
            refine lv_aload_n hx hb dX5_mark_42 rfl (lv_at hl 0 rfl) ?_
            refine va_get (D := D) (ci := 3) (C := RX5) (T := TX5) (N := 14) hx hb hts iX5 hown hK hP 0 wPW_0 rfl 7 (by decide) q2 (fun _ h9 => h9) rfl dX5_mark_43 ?_
            refine va_getN (host := "PartyWill") (D := D) (ci := 0) (C := RX0) (T := TX0) (N := 3) hx hb hts iX0 hown hK hP 18 wPW_18 rfl 1 (by decide) (va_Nw.use rfl (nw_X5_127 hKK.2)) (fun _ h9 => h9) rfl dX5_mark_46 ?_
            refine lv_iload_n hx hb dX5_mark_49 rfl (lv_at hl 1 rfl) ?_
            obtain ⟨r50, hc, h⟩ := bd1_some h
            refine my_roz (va_Run.run (va_runSN (host := "PartyWill") (As := [.long cnow, .int x1]) (rest := []) hFix (kX1_isIn l D T F cnow x1 r50 hc) ⟨va_cnB 2 hts gX5_mark_X1_isIn_n130 rfl rfl rfl (nw_X5_130 hKK.2) q18 hd_X1_isIn ⟨Nat.le_of_ble_eq_true rfl, Nat.le_of_ble_eq_true rfl⟩, q17, trivial⟩ (preS_ro va_nil hKK) rfl rfl hl.1 rfl (lv_room (Nat.le_of_ble_eq_true rfl)) dX5_mark_50 ⟨Nat.zero_le _, Nat.zero_le _⟩)) (fun hb50 => ?_)
            refine lv_if_ne (tgt := 58) hx hb dX5_mark_53 (by decide) (fun c53 => ?_) (fun c53 => ?_)
            · have h := br_0 h c53
              refine lv_iload_n hx hb dX5_mark_58 rfl (lv_at hl 2 rfl) ?_
              by_cases z59_0 : x2 = (1 : Int32)
              · have h := br_1 h z59_0
                refine lv_tableIn (tgt := 88) (off := 29) hx hb dX5_mark_59 (by rw [z59_0]; decide) (by rw [z59_0]; decide) (by rw [z59_0]; decide) (by decide) ?_
                refine lv_aload_n hx hb dX5_mark_88 rfl (lv_at hl 0 rfl) ?_
                refine va_get (D := D) (ci := 3) (C := RX5) (T := TX5) (N := 14) hx hb hts iX5 hown hK hP 0 wPW_0 rfl 5 (by decide) q1 (fun _ h9 => h9) rfl dX5_mark_89 ?_
                refine lv_aload_n hx hb dX5_mark_92 rfl (lv_at hl 0 rfl) ?_
                refine va_get (D := D) (ci := 3) (C := RX5) (T := TX5) (N := 14) hx hb hts iX5 hown hK hP 0 wPW_0 rfl 7 (by decide) q2 (fun _ h9 => h9) rfl dX5_mark_93 ?_
                refine va_getN (host := "PartyWill") (D := D) (ci := 0) (C := RX0) (T := TX0) (N := 3) hx hb hts iX0 hown hK hP 18 wPW_18 rfl 1 (by decide) (va_Nw.use rfl (nw_X5_127 hKK.2)) (fun _ h9 => h9) rfl dX5_mark_96 ?_
                refine lv_iload_n hx hb dX5_mark_99 rfl (lv_at hl 1 rfl) ?_
                obtain ⟨r100, hc, h⟩ := bd1_some h
                have hPc : va_P D vwCl (wPa T (ad 6) (ad 7) (ad 8) (ad 9) (ad 10) (ad 11) psize pclause peff pkin pgri psig psee) _ := my_subP sb_wPW_wPa_6to11 hP
                refine my_roi (va_Run.run (va_runVN (host := "PartyWill") (As := [.long cnow, .int x1]) (rest := []) hFix (kX2_tunesThatCheer l D T F (ad 6) (ad 7) (ad 8) (ad 9) (ad 10) (ad 11) psize pclause peff pkin pgri psig psee cnow x1 r100 hc) ⟨va_cnB 2 hts gX5_mark_X2_tunesThatCheer_n136 rfl rfl rfl (nw_X5_136 hKK.2) q21 hd_X2_tunesThatCheer ⟨Nat.le_of_ble_eq_true rfl, Nat.le_of_ble_eq_true rfl⟩, q20, q22⟩ (preV_ro hPc hKK (va_recv hK hP (ci := 1) (q0 := 6) rfl wPW_6)) rfl rfl hl.1 rfl (lv_room (Nat.le_of_ble_eq_true rfl)) dX5_mark_100 ⟨Nat.zero_le _, Nat.zero_le _⟩)) ?_
                cases h
                exact hret _ _ _ _ hP hD hS dX5_mark_103
              have h := br_0 h z59_0
              by_cases z59_1 : x2 = (2 : Int32)
              · have h := br_1 h z59_1
                refine lv_tableIn (tgt := 104) (off := 45) hx hb dX5_mark_59 (by rw [z59_1]; decide) (by rw [z59_1]; decide) (by rw [z59_1]; decide) (by decide) ?_
                refine lv_aload_n hx hb dX5_mark_104 rfl (lv_at hl 0 rfl) ?_
                refine va_get (D := D) (ci := 3) (C := RX5) (T := TX5) (N := 14) hx hb hts iX5 hown hK hP 0 wPW_0 rfl 5 (by decide) q1 (fun _ h9 => h9) rfl dX5_mark_105 ?_
                refine lv_aload_n hx hb dX5_mark_108 rfl (lv_at hl 0 rfl) ?_
                refine va_get (D := D) (ci := 3) (C := RX5) (T := TX5) (N := 14) hx hb hts iX5 hown hK hP 0 wPW_0 rfl 7 (by decide) q2 (fun _ h9 => h9) rfl dX5_mark_109 ?_
                refine va_getN (host := "PartyWill") (D := D) (ci := 0) (C := RX0) (T := TX0) (N := 3) hx hb hts iX0 hown hK hP 18 wPW_18 rfl 1 (by decide) (va_Nw.use rfl (nw_X5_127 hKK.2)) (fun _ h9 => h9) rfl dX5_mark_112 ?_
                refine lv_iload_n hx hb dX5_mark_115 rfl (lv_at hl 1 rfl) ?_
                obtain ⟨r116, hc, h⟩ := bd1_some h
                have hPc : va_P D vwCl (wPa T (ad 6) (ad 7) (ad 8) (ad 9) (ad 10) (ad 11) psize pclause peff pkin pgri psig psee) _ := my_subP sb_wPW_wPa_6to11 hP
                refine my_roi (va_Run.run (va_runVN (host := "PartyWill") (As := [.long cnow, .int x1]) (rest := []) hFix (kX2_steepestRise l D T F (ad 6) (ad 7) (ad 8) (ad 9) (ad 10) (ad 11) psize pclause peff pkin pgri psig psee cnow x1 r116 hc) ⟨va_cnB 2 hts gX5_mark_X2_steepestRise_n140 rfl rfl rfl (nw_X5_140 hKK.2) q21 hd_X2_steepestRise ⟨Nat.le_of_ble_eq_true rfl, Nat.le_of_ble_eq_true rfl⟩, q48, q49⟩ (preV_ro hPc hKK (va_recv hK hP (ci := 1) (q0 := 6) rfl wPW_6)) rfl rfl hl.1 rfl (lv_room (Nat.le_of_ble_eq_true rfl)) dX5_mark_116 ⟨Nat.zero_le _, Nat.zero_le _⟩)) ?_
                cases h
                exact hret _ _ _ _ hP hD hS dX5_mark_119
              have h := br_0 h z59_1
              by_cases z59_2 : x2 = (3 : Int32)
              · have h := br_1 h z59_2
                refine lv_tableIn (tgt := 120) (off := 61) hx hb dX5_mark_59 (by rw [z59_2]; decide) (by rw [z59_2]; decide) (by rw [z59_2]; decide) (by decide) ?_
                refine lv_aload_n hx hb dX5_mark_120 rfl (lv_at hl 0 rfl) ?_
                refine va_get (D := D) (ci := 3) (C := RX5) (T := TX5) (N := 14) hx hb hts iX5 hown hK hP 0 wPW_0 rfl 5 (by decide) q1 (fun _ h9 => h9) rfl dX5_mark_121 ?_
                refine lv_aload_n hx hb dX5_mark_124 rfl (lv_at hl 0 rfl) ?_
                refine va_get (D := D) (ci := 3) (C := RX5) (T := TX5) (N := 14) hx hb hts iX5 hown hK hP 0 wPW_0 rfl 7 (by decide) q2 (fun _ h9 => h9) rfl dX5_mark_125 ?_
                refine va_getN (host := "PartyWill") (D := D) (ci := 0) (C := RX0) (T := TX0) (N := 3) hx hb hts iX0 hown hK hP 18 wPW_18 rfl 1 (by decide) (va_Nw.use rfl (nw_X5_127 hKK.2)) (fun _ h9 => h9) rfl dX5_mark_128 ?_
                refine lv_iload_n hx hb dX5_mark_131 rfl (lv_at hl 1 rfl) ?_
                obtain ⟨r132, hc, h⟩ := bd1_some h
                have hPc : va_P D vwCl (wPa T (ad 6) (ad 7) (ad 8) (ad 9) (ad 10) (ad 11) psize pclause peff pkin pgri psig psee) _ := my_subP sb_wPW_wPa_6to11 hP
                refine my_roi (va_Run.run (va_runVN (host := "PartyWill") (As := [.long cnow, .int x1]) (rest := []) hFix (kX2_namesAMournerBears l D T F (ad 6) (ad 7) (ad 8) (ad 9) (ad 10) (ad 11) psize pclause peff pkin pgri psig psee cnow x1 r132 hc) ⟨va_cnB 2 hts gX5_mark_X2_namesAMournerBears_n143 rfl rfl rfl (nw_X5_143 hKK.2) q21 hd_X2_namesAMournerBears ⟨Nat.le_of_ble_eq_true rfl, Nat.le_of_ble_eq_true rfl⟩, q51, q52⟩ (preV_ro hPc hKK (va_recv hK hP (ci := 1) (q0 := 6) rfl wPW_6)) rfl rfl hl.1 rfl (lv_room (Nat.le_of_ble_eq_true rfl)) dX5_mark_132 ⟨Nat.zero_le _, Nat.zero_le _⟩)) ?_
                cases h
                exact hret _ _ _ _ hP hD hS dX5_mark_135
              have h := br_0 h z59_2
              by_cases z59_3 : x2 = (4 : Int32)
              · have h := br_1 h z59_3
                refine lv_tableIn (tgt := 136) (off := 77) hx hb dX5_mark_59 (by rw [z59_3]; decide) (by rw [z59_3]; decide) (by rw [z59_3]; decide) (by decide) ?_
                refine lv_aload_n hx hb dX5_mark_136 rfl (lv_at hl 0 rfl) ?_
                refine va_get (D := D) (ci := 3) (C := RX5) (T := TX5) (N := 14) hx hb hts iX5 hown hK hP 0 wPW_0 rfl 5 (by decide) q1 (fun _ h9 => h9) rfl dX5_mark_137 ?_
                refine lv_aload_n hx hb dX5_mark_140 rfl (lv_at hl 0 rfl) ?_
                refine va_get (D := D) (ci := 3) (C := RX5) (T := TX5) (N := 14) hx hb hts iX5 hown hK hP 0 wPW_0 rfl 7 (by decide) q2 (fun _ h9 => h9) rfl dX5_mark_141 ?_
                refine va_getN (host := "PartyWill") (D := D) (ci := 0) (C := RX0) (T := TX0) (N := 3) hx hb hts iX0 hown hK hP 18 wPW_18 rfl 1 (by decide) (va_Nw.use rfl (nw_X5_127 hKK.2)) (fun _ h9 => h9) rfl dX5_mark_144 ?_
                refine lv_iload_n hx hb dX5_mark_147 rfl (lv_at hl 1 rfl) ?_
                obtain ⟨r148, hc, h⟩ := bd1_some h
                have hPc : va_P D vwCl (wPa T (ad 6) (ad 7) (ad 8) (ad 9) (ad 10) (ad 11) psize pclause peff pkin pgri psig psee) _ := my_subP sb_wPW_wPa_6to11 hP
                refine my_roi (va_Run.run (va_runVN (host := "PartyWill") (As := [.long cnow, .int x1]) (rest := []) hFix (kX2_sadderThan l D T F (ad 6) (ad 7) (ad 8) (ad 9) (ad 10) (ad 11) psize pclause peff pkin pgri psig psee cnow x1 r148 hc) ⟨va_cnB 2 hts gX5_mark_X2_sadderThan_n146 rfl rfl rfl (nw_X5_146 hKK.2) q21 hd_X2_sadderThan ⟨Nat.le_of_ble_eq_true rfl, Nat.le_of_ble_eq_true rfl⟩, q55, q56⟩ (preV_ro hPc hKK (va_recv hK hP (ci := 1) (q0 := 6) rfl wPW_6)) rfl rfl hl.1 rfl (lv_room (Nat.le_of_ble_eq_true rfl)) dX5_mark_148 ⟨Nat.zero_le _, Nat.zero_le _⟩)) ?_
                cases h
                exact hret _ _ _ _ hP hD hS dX5_mark_151
              have h := br_0 h z59_3
              have e59_0 : x2.toInt ≠ 1 := fun e => z59_0 (Int32.toInt_inj.mp e)
              have e59_1 : x2.toInt ≠ 2 := fun e => z59_1 (Int32.toInt_inj.mp e)
              have e59_2 : x2.toInt ≠ 3 := fun e => z59_2 (Int32.toInt_inj.mp e)
              have e59_3 : x2.toInt ≠ 4 := fun e => z59_3 (Int32.toInt_inj.mp e)
              refine lv_tableOut (tgt := 152) hx hb dX5_mark_59 (by omega) (by decide) ?_
              refine lv_aload_n hx hb dX5_mark_152 rfl (lv_at hl 0 rfl) ?_
              refine va_get (D := D) (ci := 3) (C := RX5) (T := TX5) (N := 14) hx hb hts iX5 hown hK hP 0 wPW_0 rfl 5 (by decide) q1 (fun _ h9 => h9) rfl dX5_mark_153 ?_
              refine lv_aload_n hx hb dX5_mark_156 rfl (lv_at hl 0 rfl) ?_
              refine va_get (D := D) (ci := 3) (C := RX5) (T := TX5) (N := 14) hx hb hts iX5 hown hK hP 0 wPW_0 rfl 7 (by decide) q2 (fun _ h9 => h9) rfl dX5_mark_157 ?_
              refine va_getN (host := "PartyWill") (D := D) (ci := 0) (C := RX0) (T := TX0) (N := 3) hx hb hts iX0 hown hK hP 18 wPW_18 rfl 1 (by decide) (va_Nw.use rfl (nw_X5_127 hKK.2)) (fun _ h9 => h9) rfl dX5_mark_160 ?_
              refine lv_iload_n hx hb dX5_mark_163 rfl (lv_at hl 1 rfl) ?_
              obtain ⟨r164, hc, h⟩ := bd1_some h
              have hPc : va_P D vwCl (wPa T (ad 6) (ad 7) (ad 8) (ad 9) (ad 10) (ad 11) psize pclause peff pkin pgri psig psee) _ := my_subP sb_wPW_wPa_6to11 hP
              refine my_roi (va_Run.run (va_runVN (host := "PartyWill") (As := [.long cnow, .int x1]) (rest := []) hFix (kX2_suspects l D T F (ad 6) (ad 7) (ad 8) (ad 9) (ad 10) (ad 11) psize pclause peff pkin pgri psig psee cnow x1 r164 hc) ⟨va_cnB 2 hts gX5_mark_X2_suspects_n149 rfl rfl rfl (nw_X5_149 hKK.2) q21 hd_X2_suspects ⟨Nat.le_of_ble_eq_true rfl, Nat.le_of_ble_eq_true rfl⟩, q59, q60⟩ (preV_ro hPc hKK (va_recv hK hP (ci := 1) (q0 := 6) rfl wPW_6)) rfl rfl hl.1 rfl (lv_room (Nat.le_of_ble_eq_true rfl)) dX5_mark_164 ⟨Nat.zero_le _, Nat.zero_le _⟩)) ?_
              cases h
              exact hret _ _ _ _ hP hD hS dX5_mark_167
            · have h := br_1 h c53
              refine lv_iconst (v := (0 : Int32)) hx hb dX5_mark_56 (by decide) ?_
              cases h
              exact hret _ _ _ _ hP hD hS dX5_mark_57
          · have h := br_1 h c33
            refine lv_aload_n hx hb dX5_mark_36 rfl (lv_at hl 0 rfl) ?_
            refine lv_iconst (v := (3 : Int32)) hx hb dX5_mark_37 (by decide) ?_
            obtain ⟨r38, w38_fc, w38_lf, hc, h⟩ := bd3_some h
            have hFc := my_freeS hD hS hA
            refine my_rwi (va_runV (As := [.int (3 : Int32)]) (rest := []) hFix (kX5_found l D T F ad rs rm ts tm rdue rtun rsee rbeg psize pclause peff pkin pgri psig psee qsize qclause qeff qkin qgri qsig qsee cdee cnow cahe kdee know kahe fc lf told up lo (3 : Int32) r38 w38_fc w38_lf hc _) (cwV 1 hts gX5_mark_X5_found rfl rfl rfl ⟨rfl, hd_X5_found⟩ ⟨Nat.le_of_ble_eq_true rfl, Nat.le_of_ble_eq_true rfl⟩) (preV_rw hP hKK hD (va_recv hK hP (ci := 3) (q0 := 0) rfl wPW_0)) rfl rfl hl.1 rfl (lv_room (Nat.le_of_ble_eq_true rfl)) dX5_mark_38 ⟨Nat.zero_le _, Nat.zero_le _⟩) hS hFc (fun H1 locs hP1 hD1 hz1 hkk hS => ?_)
            have hP : va_P D vwCl (wPW T ad (ad 6) (ad 12) rs rm ts tm rdue rtun rsee rbeg psize pclause peff pkin pgri psig psee qsize qclause qeff qkin qgri qsig qsee cdee cnow cahe kdee know kahe w38_fc w38_lf told up lo) H1 := hP1
            have hD : va_D A (wPW T ad (ad 6) (ad 12) rs rm ts tm rdue rtun rsee rbeg psize pclause peff pkin pgri psig psee qsize qclause qeff qkin qgri qsig qsee cdee cnow cahe kdee know kahe w38_fc w38_lf told up lo) := hD1.weaken (fun _ q _ h => hFc q.1 h)
            generalize H1 = H at hP hS ⊢
            cases h
            exact hret _ _ _ _ hP hD hS dX5_mark_41
        · have h := br_0 h c15
          refine lv_iconst (v := (-1 : Int32)) hx hb dX5_mark_18 (by decide) ?_
          cases h
          exact hret _ _ _ _ hP hD hS dX5_mark_19
  exact key _ (fun H locs pc ls hP hD hS hd => W.iret hx hb hr (fun t ht hW => ⟨⟨_, (), rfl, rfl, by show _ ∧ _; rw [ht]; exact ⟨hP, hD⟩⟩, hS.F ht⟩) hS.2.2 hd)
set_option maxHeartbeats 4000000 in
set_option maxRecDepth 100000 in
theorem kX5_does (l : Launch) (D : va_G) (T : Nat → ClassId) (F : Nat) (ad : Nat → Nat) (rs : Nat → Int32) (rm : Nat → Nat → Int32) (ts : Nat → Int32) (tm : Nat → Nat → Int32) (rdue : Int32) (rtun : Int32) (rsee : Int32) (rbeg : Int32) (psize : Int32) (pclause : Int32) (peff : Nat → Int32) (pkin : Nat → Int32) (pgri : Nat → Int32) (psig : Nat → Int32) (psee : Nat → Int32) (qsize : Int32) (qclause : Int32) (qeff : Nat → Int32) (qkin : Nat → Int32) (qgri : Nat → Int32) (qsig : Nat → Int32) (qsee : Nat → Int32) (cdee : Int32) (cnow : Int64) (cahe : Nat → Int64) (kdee : Nat → Int32) (know : Nat → Int64) (kahe : Nat → Nat → Int64) (fc : Nat → Int32) (lf : Int32) (told : Int32) (up : Int64) (lo : Int64) (x1 : Int32) (x2 : Int32) (r : Int32) (zpeff : Nat → Int32) (h : fX5_does F psize peff x1 x2 = some (r, zpeff)) : ∀ sz : Nat, Met l yX5_does wsX5_does ({ frames := 1, cells := 0, slots := 0, locals := 20 } : Room) (va_Pc [.ref (ad 0), .int x1, .int x2] (fun U => U.heap.size = sz ∧ va_P D vwCl (wPW T ad (ad 6) (ad 12) rs rm ts tm rdue rtun rsee rbeg psize pclause peff pkin pgri psig psee qsize qclause qeff qkin qgri qsig qsee cdee cnow cahe kdee know kahe fc lf told up lo) U.heap ∧ KK D T U ∧ va_D (fun _ => True) (wPW T ad (ad 6) (ad 12) rs rm ts tm rdue rtun rsee rbeg psize pclause peff pkin pgri psig psee qsize qclause qeff qkin qgri qsig qsee cdee cnow cahe kdee know kahe fc lf told up lo))) (va_Qi (fun r' (_ : Unit) => r' = r) (fun _ t => va_P D vwCl (wPW T ad (ad 6) (ad 12) rs rm ts tm rdue rtun rsee rbeg psize pclause zpeff pkin pgri psig psee qsize qclause qeff qkin qgri qsig qsee cdee cnow cahe kdee know kahe fc lf told up lo) t.heap ∧ va_D (va_A (wPW T ad (ad 6) (ad 12) rs rm ts tm rdue rtun rsee rbeg psize pclause peff pkin pgri psig psee qsize qclause qeff qkin qgri qsig qsee cdee cnow cahe kdee know kahe fc lf told up lo) sz) (wPW T ad (ad 6) (ad 12) rs rm ts tm rdue rtun rsee rbeg psize pclause zpeff pkin pgri psig psee qsize qclause qeff qkin qgri qsig qsee cdee cnow cahe kdee know kahe fc lf told up lo)) (va_A (wPW T ad (ad 6) (ad 12) rs rm ts tm rdue rtun rsee rbeg psize pclause peff pkin pgri psig psee qsize qclause qeff qkin qgri qsig qsee cdee cnow cahe kdee know kahe fc lf told up lo) sz)) 0 0 (va_A (wPW T ad (ad 6) (ad 12) rs rm ts tm rdue rtun rsee rbeg psize pclause peff pkin pgri psig psee qsize qclause qeff qkin qgri qsig qsee cdee cnow cahe kdee know kahe fc lf told up lo) sz) := by
  intro sz
  refine Met.ofW (cc := cX5_does) (maxL := 4) (ret := some .int) (by decide) rfl ?_
  intro p e s m args below meth c s₁ B hml hv
  obtain ⟨ha, hsz, hP, hKK, hD0⟩ := hv
  have hx := B.exec
  have hb := B.bytes
  have hr := B.returns
  have hts := atoms_spec (ws := wsX5_does) B.pre
  have hown : s.vm.findClass RX5 = some m.cls := findClass_of_methodNamed B.named
  have hlocks := B.notSynchronized
  have hK := hKK.1
  have hFix : CallFix p m c cX5_does 4 s args wsX5_does RX5 := ⟨hx, hb, hml, hown, hts⟩
  have q1 := hts _ (List.mem_of_getElem? (i := 1) (show wsX5_does[1]? = some (Cond.fieldLink RX5 36 "PartyWill" "party" "LPartyWill$Party;") from rfl))
  have iX2 : ∀ w ∈ u_ws RX2 TX2 7, w ∈ wsX5_does := fun w h => List.mem_cons_of_mem _ (List.mem_append_right _ (h))
  have iX5 : ∀ w ∈ u_ws RX5 TX5 14, w ∈ wsX5_does := fun w h => List.mem_cons_of_mem _ (List.mem_append_left _ (List.mem_append_right _ (h)))
  subst hsz
  have hD := hD0.self (sz := s.heap.size)
  generalize hAe : va_A (wPW T ad (ad 6) (ad 12) rs rm ts tm rdue rtun rsee rbeg psize pclause peff pkin pgri psig psee qsize qclause qeff qkin qgri qsig qsee cdee cnow cahe kdee know kahe fc lf told up lo) s.heap.size = A at hD ⊢
  have hA : ∀ q : Nat, s.heap.size ≤ q → A q := fun q h => by rw [← hAe]; exact Or.inr h
  have hS : va_S A s.heap s.heap [] := va_S.rf
  have hP : va_P D vwCl (wPW T ad (ad 6) (ad 12) rs rm ts tm rdue rtun rsee rbeg psize pclause peff pkin pgri psig psee qsize qclause qeff qkin qgri qsig qsee cdee cnow cahe kdee know kahe fc lf told up lo) s.heap := hP
  obtain ⟨ls, hl, e0⟩ := my_entry (m := m) (n := 4) ha (Nat.le_of_ble_eq_true rfl)
  rw [e0]
  have hl : lv_has ls 4 [(0, .ref (ad 0)), (1, .int x1), (2, .int x2)] := hl
  have key : ∀ Q : State → Prop, (∀ (H : Heap) (locs : List Loc) (pc : Nat) (ls : Array Slot), va_P D vwCl (wPW T ad (ad 6) (ad 12) rs rm ts tm rdue rtun rsee rbeg psize pclause zpeff pkin pgri psig psee qsize qclause qeff qkin qgri qsig qsee cdee cnow cahe kdee know kahe fc lf told up lo) H → va_D A (wPW T ad (ad 6) (ad 12) rs rm ts tm rdue rtun rsee rbeg psize pclause zpeff pkin pgri psig psee qsize qclause qeff qkin qgri qsig qsee cdee cnow cahe kdee know kahe fc lf told up lo) → va_S A s.heap H locs → decode cX5_does pc = .ok (.ireturn, 1) → W p l e ({ frames := 1, cells := 0, slots := 0, locals := 20 } : Room) s m args below meth c H locs 0 0 Q (F0 m pc ls [.int r])) → W p l e ({ frames := 1, cells := 0, slots := 0, locals := 20 } : Room) s m args below meth c s.heap [] 0 0 Q (F0 m 0 ls []) := by
    intro Q hret
    skip
    unfold fX5_does at h
    refine lv_iload_n hx hb dX5_does_0 rfl (lv_at hl 1 rfl) ?_
    obtain ⟨r1, hc, h⟩ := bd1_some h
    refine my_roz (va_Run.run (va_runS (As := [.int x1]) (rest := []) hFix (kX5_isTune l D T F x1 r1 hc) (va_cwS 1 hts gX5_does_X5_isTune rfl rfl rfl hd_X5_isTune ⟨Nat.le_of_ble_eq_true rfl, Nat.le_of_ble_eq_true rfl⟩) (preS_ro va_nil hKK) rfl rfl hl.1 rfl (lv_room (Nat.le_of_ble_eq_true rfl)) dX5_does_1 ⟨Nat.zero_le _, Nat.zero_le _⟩)) (fun hb1 => ?_)
    refine lv_if_eq (tgt := 18) hx hb dX5_does_4 (by decide) (fun c4 => ?_) (fun c4 => ?_)
    · have h := br_1 h c4
      refine lv_iconst (v := (-1 : Int32)) hx hb dX5_does_18 (by decide) ?_
      cases h
      exact hret _ _ _ _ hP hD hS dX5_does_19
    · have h := br_0 h c4
      refine lv_iload_n hx hb dX5_does_7 rfl (lv_at hl 2 rfl) ?_
      refine lv_bipush (v := (-4 : Int32)) hx hb dX5_does_8 (by decide) ?_
      refine lv_icmp_lt (tgt := 18) hx hb dX5_does_10 (by decide) (fun c10 => ?_) (fun c10 => ?_)
      · have h := br_1 h c10
        refine lv_iconst (v := (-1 : Int32)) hx hb dX5_does_18 (by decide) ?_
        cases h
        exact hret _ _ _ _ hP hD hS dX5_does_19
      · have h := br_0 h c10
        refine lv_iload_n hx hb dX5_does_13 rfl (lv_at hl 2 rfl) ?_
        refine lv_iconst (v := (5 : Int32)) hx hb dX5_does_14 (by decide) ?_
        refine lv_icmp_le (tgt := 20) hx hb dX5_does_15 (by decide) (fun c15 => ?_) (fun c15 => ?_)
        · have h := br_1 h c15
          refine lv_aload_n hx hb dX5_does_20 rfl (lv_at hl 0 rfl) ?_
          refine va_get (D := D) (ci := 3) (C := RX5) (T := TX5) (N := 14) hx hb hts iX5 hown hK hP 0 wPW_0 rfl 5 (by decide) q1 (fun _ h9 => h9) rfl dX5_does_21 ?_
          refine va_getN (host := "PartyWill") (D := D) (ci := 1) (C := RX2) (T := TX2) (N := 7) hx hb hts iX2 hown hK hP 6 wPW_6 rfl 0 (by decide) (va_Nw.use rfl (nw_X5_111 hKK.2)) (fun _ h9 => h9) rfl dX5_does_24 ?_
          refine lv_if_ne (tgt := 33) hx hb dX5_does_27 (by decide) (fun c27 => ?_) (fun c27 => ?_)
          · have h := br_0 h c27
            refine lv_aload_n hx hb dX5_does_33 rfl (lv_at hl 0 rfl) ?_
            refine va_get (D := D) (ci := 3) (C := RX5) (T := TX5) (N := 14) hx hb hts iX5 hown hK hP 0 wPW_0 rfl 5 (by decide) q1 (fun _ h9 => h9) rfl dX5_does_34 ?_
            refine va_getN (host := "PartyWill") (D := D) (ci := 1) (C := RX2) (T := TX2) (N := 7) hx hb hts iX2 hown hK hP 6 wPW_6 rfl 2 (by decide) (va_Nw.use rfl (nw_X5_155 hKK.2)) (fun _ h9 => h9) rfl dX5_does_37 ?_
            refine lv_iload_n hx hb dX5_does_40 rfl (lv_at hl 1 rfl) ?_
            obtain ⟨hin1, h⟩ := ck_some h
            refine va_iald hx hb hK hP 7 0 wPW_7 rfl hin1 dX5_does_41 ?_
            refine lv_istore_n (lv' := [(3, .int (peff x1.toNatClampNeg)), (0, .ref (ad 0)), (1, .int x1), (2, .int x2)]) hx hb dX5_does_42 rfl hl (by decide) rfl (fun ls hl => ?_)
            refine lv_aload_n hx hb dX5_does_43 rfl (lv_at hl 1 rfl) ?_
            refine va_get (D := D) (ci := 3) (C := RX5) (T := TX5) (N := 14) hx hb hts iX5 hown hK hP 0 wPW_0 rfl 5 (by decide) q1 (fun _ h9 => h9) rfl dX5_does_44 ?_
            refine va_getN (host := "PartyWill") (D := D) (ci := 1) (C := RX2) (T := TX2) (N := 7) hx hb hts iX2 hown hK hP 6 wPW_6 rfl 2 (by decide) (va_Nw.use rfl (nw_X5_155 hKK.2)) (fun _ h9 => h9) rfl dX5_does_47 ?_
            refine lv_iload_n hx hb dX5_does_50 rfl (lv_at hl 2 rfl) ?_
            refine lv_iload_n hx hb dX5_does_51 rfl (lv_at hl 3 rfl) ?_
            obtain ⟨hin2, h⟩ := ck_some h
            refine va_iast hx hb hK hP hD hS 7 0 wPW_7 rfl hin2 dX5_does_52 (fun H locs hP hD hS => ?_)
            have hP : va_P D vwCl (wPW T ad (ad 6) (ad 12) rs rm ts tm rdue rtun rsee rbeg psize pclause (upd peff x1.toNatClampNeg x2) pkin pgri psig psee qsize qclause qeff qkin qgri qsig qsee cdee cnow cahe kdee know kahe fc lf told up lo) H := hP
            have hD : va_D A (wPW T ad (ad 6) (ad 12) rs rm ts tm rdue rtun rsee rbeg psize pclause (upd peff x1.toNatClampNeg x2) pkin pgri psig psee qsize qclause qeff qkin qgri qsig qsee cdee cnow cahe kdee know kahe fc lf told up lo) := hD
            refine lv_iload_n hx hb dX5_does_53 rfl (lv_at hl 0 rfl) ?_
            cases h
            exact hret _ _ _ _ hP hD hS dX5_does_54
          · have h := br_1 h c27
            refine lv_bipush (v := (-4 : Int32)) hx hb dX5_does_30 (by decide) ?_
            cases h
            exact hret _ _ _ _ hP hD hS dX5_does_32
        · have h := br_0 h c15
          refine lv_iconst (v := (-1 : Int32)) hx hb dX5_does_18 (by decide) ?_
          cases h
          exact hret _ _ _ _ hP hD hS dX5_does_19
  exact key _ (fun H locs pc ls hP hD hS hd => W.iret hx hb hr (fun t ht hW => ⟨⟨_, (), rfl, rfl, by show _ ∧ _; rw [ht]; exact ⟨hP, hD⟩⟩, hS.F ht⟩) hS.2.2 hd)
set_option maxHeartbeats 4000000 in
set_option maxRecDepth 100000 in
theorem kX5_tune (l : Launch) (D : va_G) (T : Nat → ClassId) (F : Nat) (ad : Nat → Nat) (rs : Nat → Int32) (rm : Nat → Nat → Int32) (ts : Nat → Int32) (tm : Nat → Nat → Int32) (rdue : Int32) (rtun : Int32) (rsee : Int32) (rbeg : Int32) (psize : Int32) (pclause : Int32) (peff : Nat → Int32) (pkin : Nat → Int32) (pgri : Nat → Int32) (psig : Nat → Int32) (psee : Nat → Int32) (qsize : Int32) (qclause : Int32) (qeff : Nat → Int32) (qkin : Nat → Int32) (qgri : Nat → Int32) (qsig : Nat → Int32) (qsee : Nat → Int32) (cdee : Int32) (cnow : Int64) (cahe : Nat → Int64) (kdee : Nat → Int32) (know : Nat → Int64) (kahe : Nat → Nat → Int64) (fc : Nat → Int32) (lf : Int32) (told : Int32) (up : Int64) (lo : Int64) (x1 : Int32) (r : Int32) (zcdee : Int32) (zcnow : Int64) (zcahe : Nat → Int64) (h : fX5_tune F psize pclause peff pkin psee cdee cnow cahe x1 = some (r, zcdee, zcnow, zcahe)) : ∀ sz : Nat, Met l yX5_tune wsX5_tune ({ frames := 4, cells := 0, slots := 0, locals := 102 } : Room) (va_Pc [.ref (ad 0), .int x1] (fun U => U.heap.size = sz ∧ va_P D vwCl (wPW T ad (ad 6) (ad 12) rs rm ts tm rdue rtun rsee rbeg psize pclause peff pkin pgri psig psee qsize qclause qeff qkin qgri qsig qsee cdee cnow cahe kdee know kahe fc lf told up lo) U.heap ∧ KK D T U ∧ va_D (fun _ => True) (wPW T ad (ad 6) (ad 12) rs rm ts tm rdue rtun rsee rbeg psize pclause peff pkin pgri psig psee qsize qclause qeff qkin qgri qsig qsee cdee cnow cahe kdee know kahe fc lf told up lo))) (va_Qi (fun r' (_ : Unit) => r' = r) (fun _ t => va_P D vwCl (wPW T ad (ad 6) (ad 12) rs rm ts tm rdue rtun rsee rbeg psize pclause peff pkin pgri psig psee qsize qclause qeff qkin qgri qsig qsee zcdee zcnow zcahe kdee know kahe fc lf told up lo) t.heap ∧ va_D (va_A (wPW T ad (ad 6) (ad 12) rs rm ts tm rdue rtun rsee rbeg psize pclause peff pkin pgri psig psee qsize qclause qeff qkin qgri qsig qsee cdee cnow cahe kdee know kahe fc lf told up lo) sz) (wPW T ad (ad 6) (ad 12) rs rm ts tm rdue rtun rsee rbeg psize pclause peff pkin pgri psig psee qsize qclause qeff qkin qgri qsig qsee zcdee zcnow zcahe kdee know kahe fc lf told up lo)) (va_A (wPW T ad (ad 6) (ad 12) rs rm ts tm rdue rtun rsee rbeg psize pclause peff pkin pgri psig psee qsize qclause qeff qkin qgri qsig qsee cdee cnow cahe kdee know kahe fc lf told up lo) sz)) 0 0 (va_A (wPW T ad (ad 6) (ad 12) rs rm ts tm rdue rtun rsee rbeg psize pclause peff pkin pgri psig psee qsize qclause qeff qkin qgri qsig qsee cdee cnow cahe kdee know kahe fc lf told up lo) sz) := by
  intro sz
  refine Met.ofW (cc := cX5_tune) (maxL := 3) (ret := some .int) (by decide) rfl ?_
  intro p e s m args below meth c s₁ B hml hv
  obtain ⟨ha, hsz, hP, hKK, hD0⟩ := hv
  have hx := B.exec
  have hb := B.bytes
  have hr := B.returns
  have hts := atoms_spec (ws := wsX5_tune) B.pre
  have hown : s.vm.findClass RX5 = some m.cls := findClass_of_methodNamed B.named
  have hlocks := B.notSynchronized
  have hK := hKK.1
  have hFix : CallFix p m c cX5_tune 3 s args wsX5_tune RX5 := ⟨hx, hb, hml, hown, hts⟩
  have q1 := hts _ (List.mem_of_getElem? (i := 1) (show wsX5_tune[1]? = some (Cond.fieldLink RX5 36 "PartyWill" "party" "LPartyWill$Party;") from rfl))
  have q2 := hts _ (List.mem_of_getElem? (i := 2) (show wsX5_tune[2]? = some (Cond.fieldLink RX5 46 "PartyWill" "course" "LPartyWill$Course;") from rfl))
  have q7 := hts _ (List.mem_of_getElem? (i := 7) (show wsX5_tune[7]? = some (Cond.static yX1_insiders) from rfl))
  have q8 := hts _ (List.mem_of_getElem? (i := 8) (show wsX5_tune[8]? = some (Cond.initialized RX1) from rfl))
  have q10 := hts _ (List.mem_of_getElem? (i := 10) (show wsX5_tune[10]? = some (Cond.instanceMethod yX2_afterTune) from rfl))
  have q11 := hts _ (List.mem_of_getElem? (i := 11) (show wsX5_tune[11]? = some (Cond.initialized RX2) from rfl))
  have q12 := hts _ (List.mem_of_getElem? (i := 12) (show wsX5_tune[12]? = some (Cond.selects RX2 yX2_afterTune yX2_afterTune) from rfl))
  have q57 := hts _ (List.mem_of_getElem? (i := 57) (show wsX5_tune[57]? = some (Cond.instanceMethod yX0_goOn) from rfl))
  have q58 := hts _ (List.mem_of_getElem? (i := 58) (show wsX5_tune[58]? = some (Cond.initialized RX0) from rfl))
  have q59 := hts _ (List.mem_of_getElem? (i := 59) (show wsX5_tune[59]? = some (Cond.selects RX0 yX0_goOn yX0_goOn) from rfl))
  have iX0 : ∀ w ∈ u_ws RX0 TX0 3, w ∈ wsX5_tune := fun w h => List.mem_cons_of_mem _ (List.mem_append_right _ (h))
  have iX2 : ∀ w ∈ u_ws RX2 TX2 7, w ∈ wsX5_tune := fun w h => List.mem_cons_of_mem _ (List.mem_append_left _ (List.mem_append_right _ (h)))
  have iX5 : ∀ w ∈ u_ws RX5 TX5 14, w ∈ wsX5_tune := fun w h => List.mem_cons_of_mem _ (List.mem_append_left _ (List.mem_append_left _ (List.mem_append_right _ (h))))
  subst hsz
  have hD := hD0.self (sz := s.heap.size)
  generalize hAe : va_A (wPW T ad (ad 6) (ad 12) rs rm ts tm rdue rtun rsee rbeg psize pclause peff pkin pgri psig psee qsize qclause qeff qkin qgri qsig qsee cdee cnow cahe kdee know kahe fc lf told up lo) s.heap.size = A at hD ⊢
  have hA : ∀ q : Nat, s.heap.size ≤ q → A q := fun q h => by rw [← hAe]; exact Or.inr h
  have hS : va_S A s.heap s.heap [] := va_S.rf
  have hP : va_P D vwCl (wPW T ad (ad 6) (ad 12) rs rm ts tm rdue rtun rsee rbeg psize pclause peff pkin pgri psig psee qsize qclause qeff qkin qgri qsig qsee cdee cnow cahe kdee know kahe fc lf told up lo) s.heap := hP
  obtain ⟨ls, hl, e0⟩ := my_entry (m := m) (n := 3) ha (Nat.le_of_ble_eq_true rfl)
  rw [e0]
  have hl : lv_has ls 3 [(0, .ref (ad 0)), (1, .int x1)] := hl
  have key : ∀ Q : State → Prop, (∀ (H : Heap) (locs : List Loc) (pc : Nat) (ls : Array Slot), va_P D vwCl (wPW T ad (ad 6) (ad 12) rs rm ts tm rdue rtun rsee rbeg psize pclause peff pkin pgri psig psee qsize qclause qeff qkin qgri qsig qsee zcdee zcnow zcahe kdee know kahe fc lf told up lo) H → va_D A (wPW T ad (ad 6) (ad 12) rs rm ts tm rdue rtun rsee rbeg psize pclause peff pkin pgri psig psee qsize qclause qeff qkin qgri qsig qsee zcdee zcnow zcahe kdee know kahe fc lf told up lo) → va_S A s.heap H locs → decode cX5_tune pc = .ok (.ireturn, 1) → W p l e ({ frames := 4, cells := 0, slots := 0, locals := 102 } : Room) s m args below meth c H locs 0 0 Q (F0 m pc ls [.int r])) → W p l e ({ frames := 4, cells := 0, slots := 0, locals := 102 } : Room) s m args below meth c s.heap [] 0 0 Q (F0 m 0 ls []) := by
    intro Q hret
    skip
    unfold fX5_tune at h
    refine lv_iload_n hx hb dX5_tune_0 rfl (lv_at hl 1 rfl) ?_
    obtain ⟨r1, hc, h⟩ := bd1_some h
    refine my_roz (va_Run.run (va_runS (As := [.int x1]) (rest := []) hFix (kX5_isTune l D T F x1 r1 hc) (va_cwS 1 hts gX5_tune_X5_isTune rfl rfl rfl hd_X5_isTune ⟨Nat.le_of_ble_eq_true rfl, Nat.le_of_ble_eq_true rfl⟩) (preS_ro va_nil hKK) rfl rfl hl.1 rfl (lv_room (Nat.le_of_ble_eq_true rfl)) dX5_tune_1 ⟨Nat.zero_le _, Nat.zero_le _⟩)) (fun hb1 => ?_)
    refine lv_if_ne (tgt := 9) hx hb dX5_tune_4 (by decide) (fun c4 => ?_) (fun c4 => ?_)
    · have h := br_0 h c4
      refine lv_aload_n hx hb dX5_tune_9 rfl (lv_at hl 0 rfl) ?_
      refine va_get (D := D) (ci := 3) (C := RX5) (T := TX5) (N := 14) hx hb hts iX5 hown hK hP 0 wPW_0 rfl 5 (by decide) q1 (fun _ h9 => h9) rfl dX5_tune_10 ?_
      refine va_getN (host := "PartyWill") (D := D) (ci := 1) (C := RX2) (T := TX2) (N := 7) hx hb hts iX2 hown hK hP 6 wPW_6 rfl 0 (by decide) (va_Nw.use rfl (nw_X5_111 hKK.2)) (fun _ h9 => h9) rfl dX5_tune_13 ?_
      refine lv_if_ne (tgt := 22) hx hb dX5_tune_16 (by decide) (fun c16 => ?_) (fun c16 => ?_)
      · have h := br_0 h c16
        refine lv_aload_n hx hb dX5_tune_22 rfl (lv_at hl 0 rfl) ?_
        refine va_get (D := D) (ci := 3) (C := RX5) (T := TX5) (N := 14) hx hb hts iX5 hown hK hP 0 wPW_0 rfl 7 (by decide) q2 (fun _ h9 => h9) rfl dX5_tune_23 ?_
        refine va_getN (host := "PartyWill") (D := D) (ci := 0) (C := RX0) (T := TX0) (N := 3) hx hb hts iX0 hown hK hP 18 wPW_18 rfl 0 (by decide) (va_Nw.use rfl (nw_X5_71 hKK.2)) (fun _ h9 => h9) rfl dX5_tune_26 ?_
        refine lv_bipush (v := (40 : Int32)) hx hb dX5_tune_29 (by decide) ?_
        refine lv_icmp_lt (tgt := 37) hx hb dX5_tune_31 (by decide) (fun c31 => ?_) (fun c31 => ?_)
        · have h := br_1 h c31
          refine lv_aload_n hx hb dX5_tune_37 rfl (lv_at hl 0 rfl) ?_
          refine va_get (D := D) (ci := 3) (C := RX5) (T := TX5) (N := 14) hx hb hts iX5 hown hK hP 0 wPW_0 rfl 7 (by decide) q2 (fun _ h9 => h9) rfl dX5_tune_38 ?_
          refine va_getN (host := "PartyWill") (D := D) (ci := 0) (C := RX0) (T := TX0) (N := 3) hx hb hts iX0 hown hK hP 18 wPW_18 rfl 1 (by decide) (va_Nw.use rfl (nw_X5_127 hKK.2)) (fun _ h9 => h9) rfl dX5_tune_41 ?_
          obtain ⟨r44, hc, h⟩ := bd1_some h
          refine my_roi (va_Run.run (va_runSN (host := "PartyWill") (As := [.long cnow]) (rest := []) hFix (kX1_insiders l D T F cnow r44 hc) ⟨va_cnB 1 hts gX5_tune_X1_insiders_n158 rfl rfl rfl (nw_X5_158 hKK.2) q8 hd_X1_insiders ⟨Nat.le_of_ble_eq_true rfl, Nat.le_of_ble_eq_true rfl⟩, q7, trivial⟩ (preS_ro va_nil hKK) rfl rfl hl.1 rfl (lv_room (Nat.le_of_ble_eq_true rfl)) dX5_tune_44 ⟨Nat.zero_le _, Nat.zero_le _⟩)) ?_
          refine lv_istore_n (lv' := [(2, .int r44), (0, .ref (ad 0)), (1, .int x1)]) hx hb dX5_tune_47 rfl hl (by decide) rfl (fun ls hl => ?_)
          refine lv_aload_n hx hb dX5_tune_48 rfl (lv_at hl 1 rfl) ?_
          refine va_get (D := D) (ci := 3) (C := RX5) (T := TX5) (N := 14) hx hb hts iX5 hown hK hP 0 wPW_0 rfl 7 (by decide) q2 (fun _ h9 => h9) rfl dX5_tune_49 ?_
          refine lv_aload_n hx hb dX5_tune_52 rfl (lv_at hl 1 rfl) ?_
          refine va_get (D := D) (ci := 3) (C := RX5) (T := TX5) (N := 14) hx hb hts iX5 hown hK hP 0 wPW_0 rfl 5 (by decide) q1 (fun _ h9 => h9) rfl dX5_tune_53 ?_
          refine lv_aload_n hx hb dX5_tune_56 rfl (lv_at hl 1 rfl) ?_
          refine va_get (D := D) (ci := 3) (C := RX5) (T := TX5) (N := 14) hx hb hts iX5 hown hK hP 0 wPW_0 rfl 7 (by decide) q2 (fun _ h9 => h9) rfl dX5_tune_57 ?_
          refine va_getN (host := "PartyWill") (D := D) (ci := 0) (C := RX0) (T := TX0) (N := 3) hx hb hts iX0 hown hK hP 18 wPW_18 rfl 1 (by decide) (va_Nw.use rfl (nw_X5_127 hKK.2)) (fun _ h9 => h9) rfl dX5_tune_60 ?_
          refine lv_iload_n hx hb dX5_tune_63 rfl (lv_at hl 2 rfl) ?_
          obtain ⟨r64, hc, h⟩ := bd1_some h
          have hPc : va_P D vwCl (wPa T (ad 6) (ad 7) (ad 8) (ad 9) (ad 10) (ad 11) psize pclause peff pkin pgri psig psee) _ := my_subP sb_wPW_wPa_6to11 hP
          refine my_rol (va_Run.run (va_runVN (host := "PartyWill") (As := [.long cnow, .int x1]) (rest := [.ref (ad 18)]) hFix (kX2_afterTune l D T F (ad 6) (ad 7) (ad 8) (ad 9) (ad 10) (ad 11) psize pclause peff pkin pgri psig psee cnow x1 r64 hc) ⟨va_cnB 2 hts gX5_tune_X2_afterTune_n162 rfl rfl rfl (nw_X5_162 hKK.2) q11 hd_X2_afterTune ⟨Nat.le_of_ble_eq_true rfl, Nat.le_of_ble_eq_true rfl⟩, q10, q12⟩ (preV_ro hPc hKK (va_recv hK hP (ci := 1) (q0 := 6) rfl wPW_6)) rfl rfl hl.1 rfl (lv_room (Nat.le_of_ble_eq_true rfl)) dX5_tune_64 ⟨Nat.zero_le _, Nat.zero_le _⟩)) ?_
          obtain ⟨w67_cdee, w67_cnow, w67_cahe, hc, h⟩ := bd3_some h
          have hPc : va_P D vwCl (wCo T (ad 18) (ad 19) cdee cnow cahe) _ := my_subP sb_wPW_wCo_18_19 hP
          have hDc := hD.sub [18, 19] (by decide) sb_wPW_wCo_18_19
          have hFc := va_free hD hS hA [18, 19] sb_wPW_wCo_18_19
          refine my_rwv (va_runVN (host := "PartyWill") (As := [.long r64]) (rest := []) hFix (kX0_goOn l D T F (ad 18) (ad 19) cdee cnow cahe r64 w67_cdee w67_cnow w67_cahe hc _) ⟨va_cnB 1 hts gX5_tune_X0_goOn_n166 rfl rfl rfl (nw_X5_166 hKK.2) q58 hd_X0_goOn ⟨Nat.le_of_ble_eq_true rfl, Nat.le_of_ble_eq_true rfl⟩, q57, q59⟩ (preV_rw hPc hKK hDc (va_recv hK hP (ci := 0) (q0 := 18) rfl wPW_18)) rfl rfl hl.1 rfl (lv_room (Nat.le_of_ble_eq_true rfl)) dX5_tune_67 ⟨Nat.zero_le _, Nat.zero_le _⟩) hS hFc (fun H1 locs hP1 hD1 hz1 hkk hS => ?_)
          obtain ⟨hP, hD⟩ := my_joinS hP hD (by decide) sb_wPW_wCo_18_19 (by rfl) hkk hFc hP1 hD1
          rw [st_wPW_wCo_18_19_goOn] at hP hD
          generalize H1 = H at hP hS ⊢
          refine lv_iload_n hx hb dX5_tune_70 rfl (lv_at hl 0 rfl) ?_
          refine lv_aload_n hx hb dX5_tune_71 rfl (lv_at hl 1 rfl) ?_
          refine va_get (D := D) (ci := 3) (C := RX5) (T := TX5) (N := 14) hx hb hts iX5 hown hK hP 0 wPW_0 rfl 7 (by decide) q2 (fun _ h9 => h9) rfl dX5_tune_72 ?_
          refine va_getN (host := "PartyWill") (D := D) (ci := 0) (C := RX0) (T := TX0) (N := 3) hx hb hts iX0 hown hK hP 18 wPW_18 rfl 1 (by decide) (va_Nw.use rfl (nw_X5_127 hKK.2)) (fun _ h9 => h9) rfl dX5_tune_75 ?_
          obtain ⟨r78, hc, h⟩ := bd1_some h
          refine my_roi (va_Run.run (va_runSN (host := "PartyWill") (As := [.long w67_cnow]) (rest := [.int r44]) hFix (kX1_insiders l D T F w67_cnow r78 hc) ⟨va_cnB 1 hts gX5_tune_X1_insiders_n158 rfl rfl rfl (nw_X5_158 hKK.2) q8 hd_X1_insiders ⟨Nat.le_of_ble_eq_true rfl, Nat.le_of_ble_eq_true rfl⟩, q7, trivial⟩ (preS_ro va_nil hKK) rfl rfl hl.1 rfl (lv_room (Nat.le_of_ble_eq_true rfl)) dX5_tune_78 ⟨Nat.zero_le _, Nat.zero_le _⟩)) ?_
          refine lv_iconst (v := (-1 : Int32)) hx hb dX5_tune_81 (by decide) ?_
          refine lv_ixor hx hb dX5_tune_82 ?_
          refine lv_iand hx hb dX5_tune_83 ?_
          cases h
          exact hret _ _ _ _ hP hD hS dX5_tune_84
        · have h := br_0 h c31
          refine lv_bipush (v := (-2 : Int32)) hx hb dX5_tune_34 (by decide) ?_
          cases h
          exact hret _ _ _ _ hP hD hS dX5_tune_36
      · have h := br_1 h c16
        refine lv_bipush (v := (-4 : Int32)) hx hb dX5_tune_19 (by decide) ?_
        cases h
        exact hret _ _ _ _ hP hD hS dX5_tune_21
    · have h := br_1 h c4
      refine lv_iconst (v := (-1 : Int32)) hx hb dX5_tune_7 (by decide) ?_
      cases h
      exact hret _ _ _ _ hP hD hS dX5_tune_8
  exact key _ (fun H locs pc ls hP hD hS hd => W.iret hx hb hr (fun t ht hW => ⟨⟨_, (), rfl, rfl, by show _ ∧ _; rw [ht]; exact ⟨hP, hD⟩⟩, hS.F ht⟩) hS.2.2 hd)
set_option maxHeartbeats 4000000 in
set_option maxRecDepth 100000 in
theorem kX5_deedRefusal (l : Launch) (D : va_G) (T : Nat → ClassId) (F : Nat) (ad : Nat → Nat) (rs : Nat → Int32) (rm : Nat → Nat → Int32) (ts : Nat → Int32) (tm : Nat → Nat → Int32) (rdue : Int32) (rtun : Int32) (rsee : Int32) (rbeg : Int32) (psize : Int32) (pclause : Int32) (peff : Nat → Int32) (pkin : Nat → Int32) (pgri : Nat → Int32) (psig : Nat → Int32) (psee : Nat → Int32) (qsize : Int32) (qclause : Int32) (qeff : Nat → Int32) (qkin : Nat → Int32) (qgri : Nat → Int32) (qsig : Nat → Int32) (qsee : Nat → Int32) (cdee : Int32) (cnow : Int64) (cahe : Nat → Int64) (kdee : Nat → Int32) (know : Nat → Int64) (kahe : Nat → Nat → Int64) (fc : Nat → Int32) (lf : Int32) (told : Int32) (up : Int64) (lo : Int64) (x1 : Int32) (r : Int32) (h : fX5_deedRefusal F psize cdee cnow x1 = some (r)) : Met l yX5_deedRefusal wsX5_deedRefusal ({ frames := 1, cells := 0, slots := 0, locals := 22 } : Room) (va_Pc [.ref (ad 0), .int x1] (fun U => va_P D vwCl (wPW T ad (ad 6) (ad 12) rs rm ts tm rdue rtun rsee rbeg psize pclause peff pkin pgri psig psee qsize qclause qeff qkin qgri qsig qsee cdee cnow cahe kdee know kahe fc lf told up lo) U.heap ∧ KK D T U)) (vp_Si (fun r' => r' = r)) 0 0 (fun _ => False) := by
  refine Met.ofW (cc := cX5_deedRefusal) (maxL := 2) (ret := some .int) (by decide) rfl ?_
  intro p e s m args below meth c s₁ B hml hv
  obtain ⟨ha, hP, hKK⟩ := hv
  have hx := B.exec
  have hb := B.bytes
  have hr := B.returns
  have hts := atoms_spec (ws := wsX5_deedRefusal) B.pre
  have hown : s.vm.findClass RX5 = some m.cls := findClass_of_methodNamed B.named
  have hlocks := B.notSynchronized
  have hK := hKK.1
  have hFix : CallFix p m c cX5_deedRefusal 2 s args wsX5_deedRefusal RX5 := ⟨hx, hb, hml, hown, hts⟩
  have q1 := hts _ (List.mem_of_getElem? (i := 1) (show wsX5_deedRefusal[1]? = some (Cond.fieldLink RX5 46 "PartyWill" "course" "LPartyWill$Course;") from rfl))
  have q8 := hts _ (List.mem_of_getElem? (i := 8) (show wsX5_deedRefusal[8]? = some (Cond.static yX1_isIn) from rfl))
  have q9 := hts _ (List.mem_of_getElem? (i := 9) (show wsX5_deedRefusal[9]? = some (Cond.initialized RX1) from rfl))
  have iX0 : ∀ w ∈ u_ws RX0 TX0 3, w ∈ wsX5_deedRefusal := fun w h => List.mem_cons_of_mem _ (List.mem_append_left _ (List.mem_append_right _ (h)))
  have iX5 : ∀ w ∈ u_ws RX5 TX5 14, w ∈ wsX5_deedRefusal := fun w h => List.mem_cons_of_mem _ (List.mem_append_left _ (List.mem_append_left _ (List.mem_append_right _ (h))))
  obtain ⟨ls, hl, e0⟩ := my_entry (m := m) (n := 2) ha (Nat.le_of_ble_eq_true rfl)
  rw [e0]
  have hl : lv_has ls 2 [(0, .ref (ad 0)), (1, .int x1)] := hl
  have key : ∀ Q : State → Prop, (∀ (pc : Nat) (ls : Array Slot), decode cX5_deedRefusal pc = .ok (.ireturn, 1) → W p l e ({ frames := 1, cells := 0, slots := 0, locals := 22 } : Room) s m args below meth c s.heap [] 0 0 Q (F0 m pc ls [.int r])) → W p l e ({ frames := 1, cells := 0, slots := 0, locals := 22 } : Room) s m args below meth c s.heap [] 0 0 Q (F0 m 0 ls []) := by
    intro Q hret
    unfold fX5_deedRefusal at h
    refine lv_aload_n hx hb dX5_deedRefusal_0 rfl (lv_at hl 0 rfl) ?_
    refine lv_iload_n hx hb dX5_deedRefusal_1 rfl (lv_at hl 1 rfl) ?_
    obtain ⟨r2, hc, h⟩ := bd1_some h
    refine my_roz (va_Run.run (va_runV (As := [.int x1]) (rest := []) hFix (kX5_isGuest l D T F ad rs rm ts tm rdue rtun rsee rbeg psize pclause peff pkin pgri psig psee qsize qclause qeff qkin qgri qsig qsee cdee cnow cahe kdee know kahe fc lf told up lo x1 r2 hc) (cwV 1 hts gX5_deedRefusal_X5_isGuest rfl rfl rfl ⟨rfl, hd_X5_isGuest⟩ ⟨Nat.le_of_ble_eq_true rfl, Nat.le_of_ble_eq_true rfl⟩) (preV_ro hP hKK (va_recv hK hP (ci := 3) (q0 := 0) rfl wPW_0)) rfl rfl hl.1 rfl (lv_room (Nat.le_of_ble_eq_true rfl)) dX5_deedRefusal_2 ⟨Nat.zero_le _, Nat.zero_le _⟩)) (fun hb2 => ?_)
    refine lv_if_ne (tgt := 10) hx hb dX5_deedRefusal_5 (by decide) (fun c5 => ?_) (fun c5 => ?_)
    · have h := br_0 h c5
      refine lv_aload_n hx hb dX5_deedRefusal_10 rfl (lv_at hl 0 rfl) ?_
      refine va_get (D := D) (ci := 3) (C := RX5) (T := TX5) (N := 14) hx hb hts iX5 hown hK hP 0 wPW_0 rfl 7 (by decide) q1 (fun _ h9 => h9) rfl dX5_deedRefusal_11 ?_
      refine va_getN (host := "PartyWill") (D := D) (ci := 0) (C := RX0) (T := TX0) (N := 3) hx hb hts iX0 hown hK hP 18 wPW_18 rfl 1 (by decide) (va_Nw.use rfl (nw_X5_127 hKK.2)) (fun _ h9 => h9) rfl dX5_deedRefusal_14 ?_
      refine lv_iload_n hx hb dX5_deedRefusal_17 rfl (lv_at hl 1 rfl) ?_
      obtain ⟨r18, hc, h⟩ := bd1_some h
      refine my_roz (va_Run.run (va_runSN (host := "PartyWill") (As := [.long cnow, .int x1]) (rest := []) hFix (kX1_isIn l D T F cnow x1 r18 hc) ⟨va_cnB 2 hts gX5_deedRefusal_X1_isIn_n130 rfl rfl rfl (nw_X5_130 hKK.2) q9 hd_X1_isIn ⟨Nat.le_of_ble_eq_true rfl, Nat.le_of_ble_eq_true rfl⟩, q8, trivial⟩ (preS_ro va_nil hKK) rfl rfl hl.1 rfl (lv_room (Nat.le_of_ble_eq_true rfl)) dX5_deedRefusal_18 ⟨Nat.zero_le _, Nat.zero_le _⟩)) (fun hb18 => ?_)
      refine lv_if_ne (tgt := 27) hx hb dX5_deedRefusal_21 (by decide) (fun c21 => ?_) (fun c21 => ?_)
      · have h := br_0 h c21
        refine lv_aload_n hx hb dX5_deedRefusal_27 rfl (lv_at hl 0 rfl) ?_
        refine va_get (D := D) (ci := 3) (C := RX5) (T := TX5) (N := 14) hx hb hts iX5 hown hK hP 0 wPW_0 rfl 7 (by decide) q1 (fun _ h9 => h9) rfl dX5_deedRefusal_28 ?_
        refine va_getN (host := "PartyWill") (D := D) (ci := 0) (C := RX0) (T := TX0) (N := 3) hx hb hts iX0 hown hK hP 18 wPW_18 rfl 0 (by decide) (va_Nw.use rfl (nw_X5_71 hKK.2)) (fun _ h9 => h9) rfl dX5_deedRefusal_31 ?_
        refine lv_bipush (v := (40 : Int32)) hx hb dX5_deedRefusal_34 (by decide) ?_
        refine lv_icmp_lt (tgt := 44) hx hb dX5_deedRefusal_36 (by decide) (fun c36 => ?_) (fun c36 => ?_)
        · have h := br_1 h c36
          refine lv_iconst (v := (0 : Int32)) hx hb dX5_deedRefusal_44 (by decide) ?_
          cases h
          exact hret _ _ dX5_deedRefusal_45
        · have h := br_0 h c36
          refine lv_bipush (v := (-2 : Int32)) hx hb dX5_deedRefusal_39 (by decide) ?_
          refine lv_goto (tgt := 45) hx hb dX5_deedRefusal_41 (by decide) ?_
          cases h
          exact hret _ _ dX5_deedRefusal_45
      · have h := br_1 h c21
        refine lv_bipush (v := (-4 : Int32)) hx hb dX5_deedRefusal_24 (by decide) ?_
        cases h
        exact hret _ _ dX5_deedRefusal_26
    · have h := br_1 h c5
      refine lv_iconst (v := (-1 : Int32)) hx hb dX5_deedRefusal_8 (by decide) ?_
      cases h
      exact hret _ _ dX5_deedRefusal_9
  exact key _ (fun pc ls hd => W.iret hx hb hr (fun t ht hW => ⟨_, rfl, rfl, ht⟩) (fun q h => by cases h) hd)
