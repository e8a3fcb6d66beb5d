set_option maxHeartbeats 4000000 in
set_option maxRecDepth 100000 in
theorem kX5_tune (l : Launch) (D : va_G) (T : Nat → ClassId) (F : Nat) (ad : Nat → Nat) (rs : Nat → Int32) (rm : Nat → Nat → Int32) (ts : Nat → Int32) (tm : Nat → Nat → Int32) (rdue : Int32) (rtun : Int32) (rsee : Int32) (rbeg : Int32) (psize : Int32) (pclause : Int32) (peff : Nat → Int32) (pkin : Nat → Int32) (pgri : Nat → Int32) (psig : Nat → Int32) (psee : Nat → Int32) (qsize : Int32) (qclause : Int32) (qeff : Nat → Int32) (qkin : Nat → Int32) (qgri : Nat → Int32) (qsig : Nat → Int32) (qsee : Nat → Int32) (cdee : Int32) (cnow : Int64) (cahe : Nat → Int64) (kdee : Nat → Int32) (know : Nat → Int64) (kahe : Nat → Nat → Int64) (fc : Nat → Int32) (lf : Int32) (told : Int32) (up : Int64) (lo : Int64) (x1 : Int32) (r : Int32) (zcdee : Int32) (zcnow : Int64) (zcahe : Nat → Int64) (h : fX5_tune F psize pclause peff pkin psee cdee cnow cahe x1 = some (r, zcdee, zcnow, zcahe)) : ∀ sz : Nat, Met l yX5_tune wsX5_tune ({ frames := 4, cells := 0, slots := 0, locals := 102 } : Room) (va_Pc [.ref (ad 0), .int x1] (fun U => U.heap.size = sz ∧ va_P D vwCl (wPW T ad (ad 6) (ad 12) rs rm ts tm rdue rtun rsee rbeg psize pclause peff pkin pgri psig psee qsize qclause qeff qkin qgri qsig qsee cdee cnow cahe kdee know kahe fc lf told up lo) U.heap ∧ KK D T U ∧ va_D (fun _ => True) (wPW T ad (ad 6) (ad 12) rs rm ts tm rdue rtun rsee rbeg psize pclause peff pkin pgri psig psee qsize qclause qeff qkin qgri qsig qsee cdee cnow cahe kdee know kahe fc lf told up lo))) (va_Qi (fun r' (_ : Unit) => r' = r) (fun _ t => va_P D vwCl (wPW T ad (ad 6) (ad 12) rs rm ts tm rdue rtun rsee rbeg psize pclause peff pkin pgri psig psee qsize qclause qeff qkin qgri qsig qsee zcdee zcnow zcahe kdee know kahe fc lf told up lo) t.heap ∧ va_D (va_A (wPW T ad (ad 6) (ad 12) rs rm ts tm rdue rtun rsee rbeg psize pclause peff pkin pgri psig psee qsize qclause qeff qkin qgri qsig qsee cdee cnow cahe kdee know kahe fc lf told up lo) sz) (wPW T ad (ad 6) (ad 12) rs rm ts tm rdue rtun rsee rbeg psize pclause peff pkin pgri psig psee qsize qclause qeff qkin qgri qsig qsee zcdee zcnow zcahe kdee know kahe fc lf told up lo)) (va_A (wPW T ad (ad 6) (ad 12) rs rm ts tm rdue rtun rsee rbeg psize pclause peff pkin pgri psig psee qsize qclause qeff qkin qgri qsig qsee cdee cnow cahe kdee know kahe fc lf told up lo) sz)) 0 0 (va_A (wPW T ad (ad 6) (ad 12) rs rm ts tm rdue rtun rsee rbeg psize pclause peff pkin pgri psig psee qsize qclause qeff qkin qgri qsig qsee cdee cnow cahe kdee know kahe fc lf told up lo) sz) := by
  intro sz
  refine Met.ofW (cc := cX5_tune) (maxL := 3) (ret := some .int) (by decide) rfl ?_
  intro p e s m args below meth c s₁ B hml hv
  obtain ⟨ha, hsz, hP, hKK, hD0⟩ := hv
  have hx := B.exec
  have hb := B.bytes
  have hr := B.returns
  have hts := atoms_spec (ws := wsX5_tune) B.pre
  have hown : s.vm.findClass RX5 = some m.cls := findClass_of_methodNamed B.named
  have hlocks := B.notSynchronized
  have hK := hKK.1
  have hFix : CallFix p m c cX5_tune 3 s args wsX5_tune RX5 := ⟨hx, hb, hml, hown, hts⟩
  have q1 := hts _ (List.mem_of_getElem? (i := 1) (show wsX5_tune[1]? = some (Cond.fieldLink RX5 36 "PartyWill" "party" "LPartyWill$Party;") from rfl))
  have q2 := hts _ (List.mem_of_getElem? (i := 2) (show wsX5_tune[2]? = some (Cond.fieldLink RX5 46 "PartyWill" "course" "LPartyWill$Course;") from rfl))
  have q7 := hts _ (List.mem_of_getElem? (i := 7) (show wsX5_tune[7]? = some (Cond.static yX1_insiders) from rfl))
  have q8 := hts _ (List.mem_of_getElem? (i := 8) (show wsX5_tune[8]? = some (Cond.initialized RX1) from rfl))
  have q10 := hts _ (List.mem_of_getElem? (i := 10) (show wsX5_tune[10]? = some (Cond.instanceMethod yX2_afterTune) from rfl))
  have q11 := hts _ (List.mem_of_getElem? (i := 11) (show wsX5_tune[11]? = some (Cond.initialized RX2) from rfl))
  have q12 := hts _ (List.mem_of_getElem? (i := 12) (show wsX5_tune[12]? = some (Cond.selects RX2 yX2_afterTune yX2_afterTune) from rfl))
  have q57 := hts _ (List.mem_of_getElem? (i := 57) (show wsX5_tune[57]? = some (Cond.instanceMethod yX0_goOn) from rfl))
  have q58 := hts _ (List.mem_of_getElem? (i := 58) (show wsX5_tune[58]? = some (Cond.initialized RX0) from rfl))
  have q59 := hts _ (List.mem_of_getElem? (i := 59) (show wsX5_tune[59]? = some (Cond.selects RX0 yX0_goOn yX0_goOn) from rfl))
  have iX0 : ∀ w ∈ u_ws RX0 TX0 3, w ∈ wsX5_tune := fun w h => List.mem_cons_of_mem _ (List.mem_append_right _ (h))
  have iX2 : ∀ w ∈ u_ws RX2 TX2 7, w ∈ wsX5_tune := fun w h => List.mem_cons_of_mem _ (List.mem_append_left _ (List.mem_append_right _ (h)))
  have iX5 : ∀ w ∈ u_ws RX5 TX5 14, w ∈ wsX5_tune := fun w h => List.mem_cons_of_mem _ (List.mem_append_left _ (List.mem_append_left _ (List.mem_append_right _ (h))))
  subst hsz
  have hD := hD0.self (sz := s.heap.size)
  generalize hAe : va_A (wPW T ad (ad 6) (ad 12) rs rm ts tm rdue rtun rsee rbeg psize pclause peff pkin pgri psig psee qsize qclause qeff qkin qgri qsig qsee cdee cnow cahe kdee know kahe fc lf told up lo) s.heap.size = A at hD ⊢
  have hA : ∀ q : Nat, s.heap.size ≤ q → A q := fun q h => by rw [← hAe]; exact Or.inr h
  have hS : va_S A s.heap s.heap [] := va_S.rf
  have hP : va_P D vwCl (wPW T ad (ad 6) (ad 12) rs rm ts tm rdue rtun rsee rbeg psize pclause peff pkin pgri psig psee qsize qclause qeff qkin qgri qsig qsee cdee cnow cahe kdee know kahe fc lf told up lo) s.heap := hP
  obtain ⟨ls, hl, e0⟩ := my_entry (m := m) (n := 3) ha (Nat.le_of_ble_eq_true rfl)
  rw [e0]
  have hl : lv_has ls 3 [(0, .ref (ad 0)), (1, .int x1)] := hl
  have key : ∀ Q : State → Prop, (∀ (H : Heap) (locs : List Loc) (pc : Nat) (ls : Array Slot), va_P D vwCl (wPW T ad (ad 6) (ad 12) rs rm ts tm rdue rtun rsee rbeg psize pclause peff pkin pgri psig psee qsize qclause qeff qkin qgri qsig qsee zcdee zcnow zcahe kdee know kahe fc lf told up lo) H → va_D A (wPW T ad (ad 6) (ad 12) rs rm ts tm rdue rtun rsee rbeg psize pclause peff pkin pgri psig psee qsize qclause qeff qkin qgri qsig qsee zcdee zcnow zcahe kdee know kahe fc lf told up lo) → va_S A s.heap H locs → decode cX5_tune pc = .ok (.ireturn, 1) → W p l e ({ frames := 4, cells := 0, slots := 0, locals := 102 } : Room) s m args below meth c H locs 0 0 Q (F0 m pc ls [.int r])) → W p l e ({ frames := 4, cells := 0, slots := 0, locals := 102 } : Room) s m args below meth c s.heap [] 0 0 Q (F0 m 0 ls []) := by
    intro Q hret
    skip
    unfold fX5_tune at h
    refine lv_iload_n hx hb dX5_tune_0 rfl (lv_at hl 1 rfl) ?_
    obtain ⟨r1, hc, h⟩ := bd1_some h
    refine my_roz (va_Run.run (va_runS (As := [.int x1]) (rest := []) hFix (kX5_isTune l D T F x1 r1 hc) (va_cwS 1 hts gX5_tune_X5_isTune rfl rfl rfl hd_X5_isTune ⟨Nat.le_of_ble_eq_true rfl, Nat.le_of_ble_eq_true rfl⟩) (preS_ro va_nil hKK) rfl rfl hl.1 rfl (lv_room (Nat.le_of_ble_eq_true rfl)) dX5_tune_1 ⟨Nat.zero_le _, Nat.zero_le _⟩)) (fun hb1 => ?_)
    refine lv_if_ne (tgt := 9) hx hb dX5_tune_4 (by decide) (fun c4 => ?_) (fun c4 => ?_)
    · have h := br_0 h c4
      refine lv_aload_n hx hb dX5_tune_9 rfl (lv_at hl 0 rfl) ?_
      refine va_get (D := D) (ci := 3) (C := RX5) (T := TX5) (N := 14) hx hb hts iX5 hown hK hP 0 wPW_0 rfl 5 (by decide) q1 (fun _ h9 => h9) rfl dX5_tune_10 ?_
      refine va_getN (host := "PartyWill") (D := D) (ci := 1) (C := RX2) (T := TX2) (N := 7) hx hb hts iX2 hown hK hP 6 wPW_6 rfl 0 (by decide) (va_Nw.use rfl (nw_X5_111 hKK.2)) (fun _ h9 => h9) rfl dX5_tune_13 ?_
      refine lv_if_ne (tgt := 22) hx hb dX5_tune_16 (by decide) (fun c16 => ?_) (fun c16 => ?_)
      · have h := br_0 h c16
        refine lv_aload_n hx hb dX5_tune_22 rfl (lv_at hl 0 rfl) ?_
        refine va_get (D := D) (ci := 3) (C := RX5) (T := TX5) (N := 14) hx hb hts iX5 hown hK hP 0 wPW_0 rfl 7 (by decide) q2 (fun _ h9 => h9) rfl dX5_tune_23 ?_
        refine va_getN (host := "PartyWill") (D := D) (ci := 0) (C := RX0) (T := TX0) (N := 3) hx hb hts iX0 hown hK hP 18 wPW_18 rfl 0 (by decide) (va_Nw.use rfl (nw_X5_71 hKK.2)) (fun _ h9 => h9) rfl dX5_tune_26 ?_
        refine lv_bipush (v := (40 : Int32)) hx hb dX5_tune_29 (by decide) ?_
        refine lv_icmp_lt (tgt := 37) hx hb dX5_tune_31 (by decide) (fun c31 => ?_) (fun c31 => ?_)
        · have h := br_1 h c31
          refine lv_aload_n hx hb dX5_tune_37 rfl (lv_at hl 0 rfl) ?_
          refine va_get (D := D) (ci := 3) (C := RX5) (T := TX5) (N := 14) hx hb hts iX5 hown hK hP 0 wPW_0 rfl 7 (by decide) q2 (fun _ h9 => h9) rfl dX5_tune_38 ?_
          refine va_getN (host := "PartyWill") (D := D) (ci := 0) (C := RX0) (T := TX0) (N := 3) hx hb hts iX0 hown hK hP 18 wPW_18 rfl 1 (by decide) (va_Nw.use rfl (nw_X5_127 hKK.2)) (fun _ h9 => h9) rfl dX5_tune_41 ?_
          obtain ⟨r44, hc, h⟩ := bd1_some h
          refine my_roi (va_Run.run (va_runSN (host := "PartyWill") (As := [.long cnow]) (rest := []) hFix (kX1_insiders l D T F cnow r44 hc) ⟨va_cnB 1 hts gX5_tune_X1_insiders_n158 rfl rfl rfl (nw_X5_158 hKK.2) q8 hd_X1_insiders ⟨Nat.le_of_ble_eq_true rfl, Nat.le_of_ble_eq_true rfl⟩, q7, trivial⟩ (preS_ro va_nil hKK) rfl rfl hl.1 rfl (lv_room (Nat.le_of_ble_eq_true rfl)) dX5_tune_44 ⟨Nat.zero_le _, Nat.zero_le _⟩)) ?_
          refine lv_istore_n (lv' := [(2, .int r44), (0, .ref (ad 0)), (1, .int x1)]) hx hb dX5_tune_47 rfl hl (by decide) rfl (fun ls hl => ?_)
          refine lv_aload_n hx hb dX5_tune_48 rfl (lv_at hl 1 rfl) ?_
          refine va_get (D := D) (ci := 3) (C := RX5) (T := TX5) (N := 14) hx hb hts iX5 hown hK hP 0 wPW_0 rfl 7 (by decide) q2 (fun _ h9 => h9) rfl dX5_tune_49 ?_
          refine lv_aload_n hx hb dX5_tune_52 rfl (lv_at hl 1 rfl) ?_
          refine va_get (D := D) (ci := 3) (C := RX5) (T := TX5) (N := 14) hx hb hts iX5 hown hK hP 0 wPW_0 rfl 5 (by decide) q1 (fun _ h9 => h9) rfl dX5_tune_53 ?_
          refine lv_aload_n hx hb dX5_tune_56 rfl (lv_at hl 1 rfl) ?_
          refine va_get (D := D) (ci := 3) (C := RX5) (T := TX5) (N := 14) hx hb hts iX5 hown hK hP 0 wPW_0 rfl 7 (by decide) q2 (fun _ h9 => h9) rfl dX5_tune_57 ?_
          refine va_getN (host := "PartyWill") (D := D) (ci := 0) (C := RX0) (T := TX0) (N := 3) hx hb hts iX0 hown hK hP 18 wPW_18 rfl 1 (by decide) (va_Nw.use rfl (nw_X5_127 hKK.2)) (fun _ h9 => h9) rfl dX5_tune_60 ?_
          refine lv_iload_n hx hb dX5_tune_63 rfl (lv_at hl 2 rfl) ?_
          obtain ⟨r64, hc, h⟩ := bd1_some h
          have hPc : va_P D vwCl (wPa T (ad 6) (ad 7) (ad 8) (ad 9) (ad 10) (ad 11) psize pclause peff pkin pgri psig psee) _ := my_subP sb_wPW_wPa_6to11 hP
          refine my_rol (va_Run.run (va_runVN (host := "PartyWill") (As := [.long cnow, .int x1]) (rest := [.ref (ad 18)]) hFix (kX2_afterTune l D T F (ad 6) (ad 7) (ad 8) (ad 9) (ad 10) (ad 11) psize pclause peff pkin pgri psig psee cnow x1 r64 hc) ⟨va_cnB 2 hts gX5_tune_X2_afterTune_n162 rfl rfl rfl (nw_X5_162 hKK.2) q11 hd_X2_afterTune ⟨Nat.le_of_ble_eq_true rfl, Nat.le_of_ble_eq_true rfl⟩, q10, q12⟩ (preV_ro hPc hKK (va_recv hK hP (ci := 1) (q0 := 6) rfl wPW_6)) rfl rfl hl.1 rfl (lv_room (Nat.le_of_ble_eq_true rfl)) dX5_tune_64 ⟨Nat.zero_le _, Nat.zero_le _⟩)) ?_
          obtain ⟨w67_cdee, w67_cnow, w67_cahe, hc, h⟩ := bd3_some h
          have hPc : va_P D vwCl (wCo T (ad 18) (ad 19) cdee cnow cahe) _ := my_subP sb_wPW_wCo_18_19 hP
          have hDc := hD.sub [18, 19] (by decide) sb_wPW_wCo_18_19
          have hFc := va_free hD hS hA [18, 19] sb_wPW_wCo_18_19
          refine my_rwv (va_runVN (host := "PartyWill") (As := [.long r64]) (rest := []) hFix (kX0_goOn l D T F (ad 18) (ad 19) cdee cnow cahe r64 w67_cdee w67_cnow w67_cahe hc _) ⟨va_cnB 1 hts gX5_tune_X0_goOn_n166 rfl rfl rfl (nw_X5_166 hKK.2) q58 hd_X0_goOn ⟨Nat.le_of_ble_eq_true rfl, Nat.le_of_ble_eq_true rfl⟩, q57, q59⟩ (preV_rw hPc hKK hDc (va_recv hK hP (ci := 0) (q0 := 18) rfl wPW_18)) rfl rfl hl.1 rfl (lv_room (Nat.le_of_ble_eq_true rfl)) dX5_tune_67 ⟨Nat.zero_le _, Nat.zero_le _⟩) hS hFc (fun H1 locs hP1 hD1 hz1 hkk hS => ?_)
          obtain ⟨hP, hD⟩ := my_joinS hP hD (by decide) sb_wPW_wCo_18_19 (by rfl) hkk hFc hP1 hD1
          rw [st_wPW_wCo_18_19_goOn] at hP hD
          generalize H1 = H at hP hS ⊢
          refine lv_iload_n hx hb dX5_tune_70 rfl (lv_at hl 0 rfl) ?_
          refine lv_aload_n hx hb dX5_tune_71 rfl (lv_at hl 1 rfl) ?_
          refine va_get (D := D) (ci := 3) (C := RX5) (T := TX5) (N := 14) hx hb hts iX5 hown hK hP 0 wPW_0 rfl 7 (by decide) q2 (fun _ h9 => h9) rfl dX5_tune_72 ?_
          refine va_getN (host := "PartyWill") (D := D) (ci := 0) (C := RX0) (T := TX0) (N := 3) hx hb hts iX0 hown hK hP 18 wPW_18 rfl 1 (by decide) (va_Nw.use rfl (nw_X5_127 hKK.2)) (fun _ h9 => h9) rfl dX5_tune_75 ?_
          obtain ⟨r78, hc, h⟩ := bd1_some h
          refine my_roi (va_Run.run (va_runSN (host := "PartyWill") (As := [.long w67_cnow]) (rest := [.int r44]) hFix (kX1_insiders l D T F w67_cnow r78 hc) ⟨va_cnB 1 hts gX5_tune_X1_insiders_n158 rfl rfl rfl (nw_X5_158 hKK.2) q8 hd_X1_insiders ⟨Nat.le_of_ble_eq_true rfl, Nat.le_of_ble_eq_true rfl⟩, q7, trivial⟩ (preS_ro va_nil hKK) rfl rfl hl.1 rfl (lv_room (Nat.le_of_ble_eq_true rfl)) dX5_tune_78 ⟨Nat.zero_le _, Nat.zero_le _⟩)) ?_
          refine lv_iconst (v := (-1 : Int32)) hx hb dX5_tune_81 (by decide) ?_
          refine lv_ixor hx hb dX5_tune_82 ?_
          refine lv_iand hx hb dX5_tune_83 ?_
          cases h
          exact hret _ _ _ _ hP hD hS dX5_tune_84
        · have h := br_0 h c31
          refine lv_bipush (v := (-2 : Int32)) hx hb dX5_tune_34 (by decide) ?_
          cases h
          exact hret _ _ _ _ hP hD hS dX5_tune_36
      · have h := br_1 h c16
        refine lv_bipush (v := (-4 : Int32)) hx hb dX5_tune_19 (by decide) ?_
        cases h
        exact hret _ _ _ _ hP hD hS dX5_tune_21
    · have h := br_1 h c4
      refine lv_iconst (v := (-1 : Int32)) hx hb dX5_tune_7 (by decide) ?_
      cases h
      exact hret _ _ _ _ hP hD hS dX5_tune_8
  exact key _ (fun H locs pc ls hP hD hS hd => W.iret hx hb hr (fun t ht hW => ⟨⟨_, (), rfl, rfl, by show _ ∧ _; rw [ht]; exact ⟨hP, hD⟩⟩, hS.F ht⟩) hS.2.2 hd)
set_option maxHeartbeats 4000000 in
set_option maxRecDepth 100000 in
theorem kX5_deedRefusal (l : Launch) (D : va_G) (T : Nat → ClassId) (F : Nat) (ad : Nat → Nat) (rs : Nat → Int32) (rm : Nat → Nat → Int32) (ts : Nat → Int32) (tm : Nat → Nat → Int32) (rdue : Int32) (rtun : Int32) (rsee : Int32) (rbeg : Int32) (psize : Int32) (pclause : Int32) (peff : Nat → Int32) (pkin : Nat → Int32) (pgri : Nat → Int32) (psig : Nat → Int32) (psee : Nat → Int32) (qsize : Int32) (qclause : Int32) (qeff : Nat → Int32) (qkin : Nat → Int32) (qgri : Nat → Int32) (qsig : Nat → Int32) (qsee : Nat → Int32) (cdee : Int32) (cnow : Int64) (cahe : Nat → Int64) (kdee : Nat → Int32) (know : Nat → Int64) (kahe : Nat → Nat → Int64) (fc : Nat → Int32) (lf : Int32) (told : Int32) (up : Int64) (lo : Int64) (x1 : Int32) (r : Int32) (h : fX5_deedRefusal F psize cdee cnow x1 = some (r)) : Met l yX5_deedRefusal wsX5_deedRefusal ({ frames := 1, cells := 0, slots := 0, locals := 22 } : Room) (va_Pc [.ref (ad 0), .int x1] (fun U => va_P D vwCl (wPW T ad (ad 6) (ad 12) rs rm ts tm rdue rtun rsee rbeg psize pclause peff pkin pgri psig psee qsize qclause qeff qkin qgri qsig qsee cdee cnow cahe kdee know kahe fc lf told up lo) U.heap ∧ KK D T U)) (vp_Si (fun r' => r' = r)) 0 0 (fun _ => False) := by
  refine Met.ofW (cc := cX5_deedRefusal) (maxL := 2) (ret := some .int) (by decide) rfl ?_
  intro p e s m args below meth c s₁ B hml hv
  obtain ⟨ha, hP, hKK⟩ := hv
  have hx := B.exec
  have hb := B.bytes
  have hr := B.returns
  have hts := atoms_spec (ws := wsX5_deedRefusal) B.pre
  have hown : s.vm.findClass RX5 = some m.cls := findClass_of_methodNamed B.named
  have hlocks := B.notSynchronized
  have hK := hKK.1
  have hFix : CallFix p m c cX5_deedRefusal 2 s args wsX5_deedRefusal RX5 := ⟨hx, hb, hml, hown, hts⟩
  have q1 := hts _ (List.mem_of_getElem? (i := 1) (show wsX5_deedRefusal[1]? = some (Cond.fieldLink RX5 46 "PartyWill" "course" "LPartyWill$Course;") from rfl))
  have q8 := hts _ (List.mem_of_getElem? (i := 8) (show wsX5_deedRefusal[8]? = some (Cond.static yX1_isIn) from rfl))
  have q9 := hts _ (List.mem_of_getElem? (i := 9) (show wsX5_deedRefusal[9]? = some (Cond.initialized RX1) from rfl))
  have iX0 : ∀ w ∈ u_ws RX0 TX0 3, w ∈ wsX5_deedRefusal := fun w h => List.mem_cons_of_mem _ (List.mem_append_left _ (List.mem_append_right _ (h)))
  have iX5 : ∀ w ∈ u_ws RX5 TX5 14, w ∈ wsX5_deedRefusal := fun w h => List.mem_cons_of_mem _ (List.mem_append_left _ (List.mem_append_left _ (List.mem_append_right _ (h))))
  obtain ⟨ls, hl, e0⟩ := my_entry (m := m) (n := 2) ha (Nat.le_of_ble_eq_true rfl)
  rw [e0]
  have hl : lv_has ls 2 [(0, .ref (ad 0)), (1, .int x1)] := hl
  have key : ∀ Q : State → Prop, (∀ (pc : Nat) (ls : Array Slot), decode cX5_deedRefusal pc = .ok (.ireturn, 1) → W p l e ({ frames := 1, cells := 0, slots := 0, locals := 22 } : Room) s m args below meth c s.heap [] 0 0 Q (F0 m pc ls [.int r])) → W p l e ({ frames := 1, cells := 0, slots := 0, locals := 22 } : Room) s m args below meth c s.heap [] 0 0 Q (F0 m 0 ls []) := by
    intro Q hret
    unfold fX5_deedRefusal at h
    refine lv_aload_n hx hb dX5_deedRefusal_0 rfl (lv_at hl 0 rfl) ?_
    refine lv_iload_n hx hb dX5_deedRefusal_1 rfl (lv_at hl 1 rfl) ?_
    obtain ⟨r2, hc, h⟩ := bd1_some h
    refine my_roz (va_Run.run (va_runV (As := [.int x1]) (rest := []) hFix (kX5_isGuest l D T F ad rs rm ts tm rdue rtun rsee rbeg psize pclause peff pkin pgri psig psee qsize qclause qeff qkin qgri qsig qsee cdee cnow cahe kdee know kahe fc lf told up lo x1 r2 hc) (cwV 1 hts gX5_deedRefusal_X5_isGuest rfl rfl rfl ⟨rfl, hd_X5_isGuest⟩ ⟨Nat.le_of_ble_eq_true rfl, Nat.le_of_ble_eq_true rfl⟩) (preV_ro hP hKK (va_recv hK hP (ci := 3) (q0 := 0) rfl wPW_0)) rfl rfl hl.1 rfl (lv_room (Nat.le_of_ble_eq_true rfl)) dX5_deedRefusal_2 ⟨Nat.zero_le _, Nat.zero_le _⟩)) (fun hb2 => ?_)
    refine lv_if_ne (tgt := 10) hx hb dX5_deedRefusal_5 (by decide) (fun c5 => ?_) (fun c5 => ?_)
    · have h := br_0 h c5
      refine lv_aload_n hx hb dX5_deedRefusal_10 rfl (lv_at hl 0 rfl) ?_
      refine va_get (D := D) (ci := 3) (C := RX5) (T := TX5) (N := 14) hx hb hts iX5 hown hK hP 0 wPW_0 rfl 7 (by decide) q1 (fun _ h9 => h9) rfl dX5_deedRefusal_11 ?_
      refine va_getN (host := "PartyWill") (D := D) (ci := 0) (C := RX0) (T := TX0) (N := 3) hx hb hts iX0 hown hK hP 18 wPW_18 rfl 1 (by decide) (va_Nw.use rfl (nw_X5_127 hKK.2)) (fun _ h9 => h9) rfl dX5_deedRefusal_14 ?_
      refine lv_iload_n hx hb dX5_deedRefusal_17 rfl (lv_at hl 1 rfl) ?_
      obtain ⟨r18, hc, h⟩ := bd1_some h
      refine my_roz (va_Run.run (va_runSN (host := "PartyWill") (As := [.long cnow, .int x1]) (rest := []) hFix (kX1_isIn l D T F cnow x1 r18 hc) ⟨va_cnB 2 hts gX5_deedRefusal_X1_isIn_n130 rfl rfl rfl (nw_X5_130 hKK.2) q9 hd_X1_isIn ⟨Nat.le_of_ble_eq_true rfl, Nat.le_of_ble_eq_true rfl⟩, q8, trivial⟩ (preS_ro va_nil hKK) rfl rfl hl.1 rfl (lv_room (Nat.le_of_ble_eq_true rfl)) dX5_deedRefusal_18 ⟨Nat.zero_le _, Nat.zero_le _⟩)) (fun hb18 => ?_)
      refine lv_if_ne (tgt := 27) hx hb dX5_deedRefusal_21 (by decide) (fun c21 => ?_) (fun c21 => ?_)
      · have h := br_0 h c21
        refine lv_aload_n hx hb dX5_deedRefusal_27 rfl (lv_at hl 0 rfl) ?_
        refine va_get (D := D) (ci := 3) (C := RX5) (T := TX5) (N := 14) hx hb hts iX5 hown hK hP 0 wPW_0 rfl 7 (by decide) q1 (fun _ h9 => h9) rfl dX5_deedRefusal_28 ?_
        refine va_getN (host := "PartyWill") (D := D) (ci := 0) (C := RX0) (T := TX0) (N := 3) hx hb hts iX0 hown hK hP 18 wPW_18 rfl 0 (by decide) (va_Nw.use rfl (nw_X5_71 hKK.2)) (fun _ h9 => h9) rfl dX5_deedRefusal_31 ?_
        refine lv_bipush (v := (40 : Int32)) hx hb dX5_deedRefusal_34 (by decide) ?_
        refine lv_icmp_lt (tgt := 44) hx hb dX5_deedRefusal_36 (by decide) (fun c36 => ?_) (fun c36 => ?_)
        · have h := br_1 h c36
          refine lv_iconst (v := (0 : Int32)) hx hb dX5_deedRefusal_44 (by decide) ?_
          cases h
          exact hret _ _ dX5_deedRefusal_45
        · have h := br_0 h c36
          refine lv_bipush (v := (-2 : Int32)) hx hb dX5_deedRefusal_39 (by decide) ?_
          refine lv_goto (tgt := 45) hx hb dX5_deedRefusal_41 (by decide) ?_
          cases h
          exact hret _ _ dX5_deedRefusal_45
      · have h := br_1 h c21
        refine lv_bipush (v := (-4 : Int32)) hx hb dX5_deedRefusal_24 (by decide) ?_
        cases h
        exact hret _ _ dX5_deedRefusal_26
    · have h := br_1 h c5
      refine lv_iconst (v := (-1 : Int32)) hx hb dX5_deedRefusal_8 (by decide) ?_
      cases h
      exact hret _ _ dX5_deedRefusal_9
  exact key _ (fun pc ls hd => W.iret hx hb hr (fun t ht hW => ⟨_, rfl, rfl, ht⟩) (fun q h => by cases h) hd)
set_option maxHeartbeats 4000000 in
set_option maxRecDepth 100000 in
theorem kX5_say (l : Launch) (D : va_G) (T : Nat → ClassId) (F : Nat) (ad : Nat → Nat) (rs : Nat → Int32) (rm : Nat → Nat → Int32) (ts : Nat → Int32) (tm : Nat → Nat → Int32) (rdue : Int32) (rtun : Int32) (rsee : Int32) (rbeg : Int32) (psize : Int32) (pclause : Int32) (peff : Nat → Int32) (pkin : Nat → Int32) (pgri : Nat → Int32) (psig : Nat → Int32) (psee : Nat → Int32) (qsize : Int32) (qclause : Int32) (qeff : Nat → Int32) (qkin : Nat → Int32) (qgri : Nat → Int32) (qsig : Nat → Int32) (qsee : Nat → Int32) (cdee : Int32) (cnow : Int64) (cahe : Nat → Int64) (kdee : Nat → Int32) (know : Nat → Int64) (kahe : Nat → Nat → Int64) (fc : Nat → Int32) (lf : Int32) (told : Int32) (up : Int64) (lo : Int64) (x1 : Int32) (r : Int32) (zcdee : Int32) (zcnow : Int64) (zcahe : Nat → Int64) (h : fX5_say F psize pclause pkin psee cdee cnow cahe x1 = some (r, zcdee, zcnow, zcahe)) : ∀ sz : Nat, Met l yX5_say wsX5_say ({ frames := 4, cells := 0, slots := 0, locals := 96 } : Room) (va_Pc [.ref (ad 0), .int x1] (fun U => U.heap.size = sz ∧ va_P D vwCl (wPW T ad (ad 6) (ad 12) rs rm ts tm rdue rtun rsee rbeg psize pclause peff pkin pgri psig psee qsize qclause qeff qkin qgri qsig qsee cdee cnow cahe kdee know kahe fc lf told up lo) U.heap ∧ KK D T U ∧ va_D (fun _ => True) (wPW T ad (ad 6) (ad 12) rs rm ts tm rdue rtun rsee rbeg psize pclause peff pkin pgri psig psee qsize qclause qeff qkin qgri qsig qsee cdee cnow cahe kdee know kahe fc lf told up lo))) (va_Qi (fun r' (_ : Unit) => r' = r) (fun _ t => va_P D vwCl (wPW T ad (ad 6) (ad 12) rs rm ts tm rdue rtun rsee rbeg psize pclause peff pkin pgri psig psee qsize qclause qeff qkin qgri qsig qsee zcdee zcnow zcahe kdee know kahe fc lf told up lo) t.heap ∧ va_D (va_A (wPW T ad (ad 6) (ad 12) rs rm ts tm rdue rtun rsee rbeg psize pclause peff pkin pgri psig psee qsize qclause qeff qkin qgri qsig qsee cdee cnow cahe kdee know kahe fc lf told up lo) sz) (wPW T ad (ad 6) (ad 12) rs rm ts tm rdue rtun rsee rbeg psize pclause peff pkin pgri psig psee qsize qclause qeff qkin qgri qsig qsee zcdee zcnow zcahe kdee know kahe fc lf told up lo)) (va_A (wPW T ad (ad 6) (ad 12) rs rm ts tm rdue rtun rsee rbeg psize pclause peff pkin pgri psig psee qsize qclause qeff qkin qgri qsig qsee cdee cnow cahe kdee know kahe fc lf told up lo) sz)) 0 0 (va_A (wPW T ad (ad 6) (ad 12) rs rm ts tm rdue rtun rsee rbeg psize pclause peff pkin pgri psig psee qsize qclause qeff qkin qgri qsig qsee cdee cnow cahe kdee know kahe fc lf told up lo) sz) := by
  intro sz
  refine Met.ofW (cc := cX5_say) (maxL := 3) (ret := some .int) (by decide) rfl ?_
  intro p e s m args below meth c s₁ B hml hv
  obtain ⟨ha, hsz, hP, hKK, hD0⟩ := hv
  have hx := B.exec
  have hb := B.bytes
  have hr := B.returns
  have hts := atoms_spec (ws := wsX5_say) B.pre
  have hown : s.vm.findClass RX5 = some m.cls := findClass_of_methodNamed B.named
  have hlocks := B.notSynchronized
  have hK := hKK.1
  have hFix : CallFix p m c cX5_say 3 s args wsX5_say RX5 := ⟨hx, hb, hml, hown, hts⟩
  have q1 := hts _ (List.mem_of_getElem? (i := 1) (show wsX5_say[1]? = some (Cond.fieldLink RX5 46 "PartyWill" "course" "LPartyWill$Course;") from rfl))
  have q2 := hts _ (List.mem_of_getElem? (i := 2) (show wsX5_say[2]? = some (Cond.fieldLink RX5 36 "PartyWill" "party" "LPartyWill$Party;") from rfl))
  have q13 := hts _ (List.mem_of_getElem? (i := 13) (show wsX5_say[13]? = some (Cond.initialized RX1) from rfl))
  have q15 := hts _ (List.mem_of_getElem? (i := 15) (show wsX5_say[15]? = some (Cond.instanceMethod yX2_afterName) from rfl))
  have q16 := hts _ (List.mem_of_getElem? (i := 16) (show wsX5_say[16]? = some (Cond.initialized RX2) from rfl))
  have q17 := hts _ (List.mem_of_getElem? (i := 17) (show wsX5_say[17]? = some (Cond.selects RX2 yX2_afterName yX2_afterName) from rfl))
  have q20 := hts _ (List.mem_of_getElem? (i := 20) (show wsX5_say[20]? = some (Cond.static yX1_griefOf) from rfl))
  have q55 := hts _ (List.mem_of_getElem? (i := 55) (show wsX5_say[55]? = some (Cond.instanceMethod yX0_goOn) from rfl))
  have q56 := hts _ (List.mem_of_getElem? (i := 56) (show wsX5_say[56]? = some (Cond.initialized RX0) from rfl))
  have q57 := hts _ (List.mem_of_getElem? (i := 57) (show wsX5_say[57]? = some (Cond.selects RX0 yX0_goOn yX0_goOn) from rfl))
  have iX0 : ∀ w ∈ u_ws RX0 TX0 3, w ∈ wsX5_say := fun w h => List.mem_cons_of_mem _ (List.mem_append_left _ (List.mem_append_right _ (h)))
  have iX5 : ∀ w ∈ u_ws RX5 TX5 14, w ∈ wsX5_say := fun w h => List.mem_cons_of_mem _ (List.mem_append_left _ (List.mem_append_left _ (List.mem_append_right _ (h))))
  subst hsz
  have hD := hD0.self (sz := s.heap.size)
  generalize hAe : va_A (wPW T ad (ad 6) (ad 12) rs rm ts tm rdue rtun rsee rbeg psize pclause peff pkin pgri psig psee qsize qclause qeff qkin qgri qsig qsee cdee cnow cahe kdee know kahe fc lf told up lo) s.heap.size = A at hD ⊢
  have hA : ∀ q : Nat, s.heap.size ≤ q → A q := fun q h => by rw [← hAe]; exact Or.inr h
  have hS : va_S A s.heap s.heap [] := va_S.rf
  have hP : va_P D vwCl (wPW T ad (ad 6) (ad 12) rs rm ts tm rdue rtun rsee rbeg psize pclause peff pkin pgri psig psee qsize qclause qeff qkin qgri qsig qsee cdee cnow cahe kdee know kahe fc lf told up lo) s.heap := hP
  obtain ⟨ls, hl, e0⟩ := my_entry (m := m) (n := 3) ha (Nat.le_of_ble_eq_true rfl)
  rw [e0]
  have hl : lv_has ls 3 [(0, .ref (ad 0)), (1, .int x1)] := hl
  have key : ∀ Q : State → Prop, (∀ (H : Heap) (locs : List Loc) (pc : Nat) (ls : Array Slot), va_P D vwCl (wPW T ad (ad 6) (ad 12) rs rm ts tm rdue rtun rsee rbeg psize pclause peff pkin pgri psig psee qsize qclause qeff qkin qgri qsig qsee zcdee zcnow zcahe kdee know kahe fc lf told up lo) H → va_D A (wPW T ad (ad 6) (ad 12) rs rm ts tm rdue rtun rsee rbeg psize pclause peff pkin pgri psig psee qsize qclause qeff qkin qgri qsig qsee zcdee zcnow zcahe kdee know kahe fc lf told up lo) → va_S A s.heap H locs → decode cX5_say pc = .ok (.ireturn, 1) → W p l e ({ frames := 4, cells := 0, slots := 0, locals := 96 } : Room) s m args below meth c H locs 0 0 Q (F0 m pc ls [.int r])) → W p l e ({ frames := 4, cells := 0, slots := 0, locals := 96 } : Room) s m args below meth c s.heap [] 0 0 Q (F0 m 0 ls []) := by
    intro Q hret
    skip
    unfold fX5_say at h
    refine lv_aload_n hx hb dX5_say_0 rfl (lv_at hl 0 rfl) ?_
    refine lv_iload_n hx hb dX5_say_1 rfl (lv_at hl 1 rfl) ?_
    obtain ⟨r2, hc, h⟩ := bd1_some h
    refine my_roi (va_Run.run (va_runV (As := [.int x1]) (rest := []) hFix (kX5_deedRefusal l D T F ad rs rm ts tm rdue rtun rsee rbeg psize pclause peff pkin pgri psig psee qsize qclause qeff qkin qgri qsig qsee cdee cnow cahe kdee know kahe fc lf told up lo x1 r2 hc) (cwV 1 hts gX5_say_X5_deedRefusal rfl rfl rfl ⟨rfl, hd_X5_deedRefusal⟩ ⟨Nat.le_of_ble_eq_true rfl, Nat.le_of_ble_eq_true rfl⟩) (preV_ro hP hKK (va_recv hK hP (ci := 3) (q0 := 0) rfl wPW_0)) rfl rfl hl.1 rfl (lv_room (Nat.le_of_ble_eq_true rfl)) dX5_say_2 ⟨Nat.zero_le _, Nat.zero_le _⟩)) ?_
    refine lv_istore_n (lv' := [(2, .int r2), (0, .ref (ad 0)), (1, .int x1)]) hx hb dX5_say_5 rfl hl (by decide) rfl (fun ls hl => ?_)
    refine lv_iload_n hx hb dX5_say_6 rfl (lv_at hl 0 rfl) ?_
    refine lv_if_eq (tgt := 12) hx hb dX5_say_7 (by decide) (fun c7 => ?_) (fun c7 => ?_)
    · have h := br_1 h c7
      refine lv_aload_n hx hb dX5_say_12 rfl (lv_at hl 1 rfl) ?_
      refine va_get (D := D) (ci := 3) (C := RX5) (T := TX5) (N := 14) hx hb hts iX5 hown hK hP 0 wPW_0 rfl 7 (by decide) q1 (fun _ h9 => h9) rfl dX5_say_13 ?_
      refine lv_aload_n hx hb dX5_say_16 rfl (lv_at hl 1 rfl) ?_
      refine va_get (D := D) (ci := 3) (C := RX5) (T := TX5) (N := 14) hx hb hts iX5 hown hK hP 0 wPW_0 rfl 5 (by decide) q2 (fun _ h9 => h9) rfl dX5_say_17 ?_
      refine lv_aload_n hx hb dX5_say_20 rfl (lv_at hl 1 rfl) ?_
      refine va_get (D := D) (ci := 3) (C := RX5) (T := TX5) (N := 14) hx hb hts iX5 hown hK hP 0 wPW_0 rfl 7 (by decide) q1 (fun _ h9 => h9) rfl dX5_say_21 ?_
      refine va_getN (host := "PartyWill") (D := D) (ci := 0) (C := RX0) (T := TX0) (N := 3) hx hb hts iX0 hown hK hP 18 wPW_18 rfl 1 (by decide) (va_Nw.use rfl (nw_X5_127 hKK.2)) (fun _ h9 => h9) rfl dX5_say_24 ?_
      refine lv_iload_n hx hb dX5_say_27 rfl (lv_at hl 2 rfl) ?_
      obtain ⟨r28, hc, h⟩ := bd1_some h
      have hPc : va_P D vwCl (wPa T (ad 6) (ad 7) (ad 8) (ad 9) (ad 10) (ad 11) psize pclause peff pkin pgri psig psee) _ := my_subP sb_wPW_wPa_6to11 hP
      refine my_rol (va_Run.run (va_runVN (host := "PartyWill") (As := [.long cnow, .int x1]) (rest := [.ref (ad 18)]) hFix (kX2_afterName l D T F (ad 6) (ad 7) (ad 8) (ad 9) (ad 10) (ad 11) psize pclause peff pkin pgri psig psee cnow x1 r28 hc) ⟨va_cnB 2 hts gX5_say_X2_afterName_n172 rfl rfl rfl (nw_X5_172 hKK.2) q16 hd_X2_afterName ⟨Nat.le_of_ble_eq_true rfl, Nat.le_of_ble_eq_true rfl⟩, q15, q17⟩ (preV_ro hPc hKK (va_recv hK hP (ci := 1) (q0 := 6) rfl wPW_6)) rfl rfl hl.1 rfl (lv_room (Nat.le_of_ble_eq_true rfl)) dX5_say_28 ⟨Nat.zero_le _, Nat.zero_le _⟩)) ?_
      obtain ⟨w31_cdee, w31_cnow, w31_cahe, hc, h⟩ := bd3_some h
      have hPc : va_P D vwCl (wCo T (ad 18) (ad 19) cdee cnow cahe) _ := my_subP sb_wPW_wCo_18_19 hP
      have hDc := hD.sub [18, 19] (by decide) sb_wPW_wCo_18_19
      have hFc := va_free hD hS hA [18, 19] sb_wPW_wCo_18_19
      refine my_rwv (va_runVN (host := "PartyWill") (As := [.long r28]) (rest := []) hFix (kX0_goOn l D T F (ad 18) (ad 19) cdee cnow cahe r28 w31_cdee w31_cnow w31_cahe hc _) ⟨va_cnB 1 hts gX5_say_X0_goOn_n166 rfl rfl rfl (nw_X5_166 hKK.2) q56 hd_X0_goOn ⟨Nat.le_of_ble_eq_true rfl, Nat.le_of_ble_eq_true rfl⟩, q55, q57⟩ (preV_rw hPc hKK hDc (va_recv hK hP (ci := 0) (q0 := 18) rfl wPW_18)) rfl rfl hl.1 rfl (lv_room (Nat.le_of_ble_eq_true rfl)) dX5_say_31 ⟨Nat.zero_le _, Nat.zero_le _⟩) hS hFc (fun H1 locs hP1 hD1 hz1 hkk hS => ?_)
      obtain ⟨hP, hD⟩ := my_joinS hP hD (by decide) sb_wPW_wCo_18_19 (by rfl) hkk hFc hP1 hD1
      rw [st_wPW_wCo_18_19_goOn] at hP hD
      generalize H1 = H at hP hS ⊢
      refine lv_aload_n hx hb dX5_say_34 rfl (lv_at hl 1 rfl) ?_
      refine va_get (D := D) (ci := 3) (C := RX5) (T := TX5) (N := 14) hx hb hts iX5 hown hK hP 0 wPW_0 rfl 7 (by decide) q1 (fun _ h9 => h9) rfl dX5_say_35 ?_
      refine va_getN (host := "PartyWill") (D := D) (ci := 0) (C := RX0) (T := TX0) (N := 3) hx hb hts iX0 hown hK hP 18 wPW_18 rfl 1 (by decide) (va_Nw.use rfl (nw_X5_127 hKK.2)) (fun _ h9 => h9) rfl dX5_say_38 ?_
      refine lv_iload_n hx hb dX5_say_41 rfl (lv_at hl 2 rfl) ?_
      obtain ⟨r42, hc, h⟩ := bd1_some h
      refine my_roi (va_Run.run (va_runSN (host := "PartyWill") (As := [.long w31_cnow, .int x1]) (rest := []) hFix (kX1_griefOf l D T F w31_cnow x1 r42 hc) ⟨va_cnB 2 hts gX5_say_X1_griefOf_n175 rfl rfl rfl (nw_X5_175 hKK.2) q13 hd_X1_griefOf ⟨Nat.le_of_ble_eq_true rfl, Nat.le_of_ble_eq_true rfl⟩, q20, trivial⟩ (preS_ro va_nil hKK) rfl rfl hl.1 rfl (lv_room (Nat.le_of_ble_eq_true rfl)) dX5_say_42 ⟨Nat.zero_le _, Nat.zero_le _⟩)) ?_
      cases h
      exact hret _ _ _ _ hP hD hS dX5_say_45
    · have h := br_0 h c7
      refine lv_iload_n hx hb dX5_say_10 rfl (lv_at hl 0 rfl) ?_
      cases h
      exact hret _ _ _ _ hP hD hS dX5_say_11
  exact key _ (fun H locs pc ls hP hD hS hd => W.iret hx hb hr (fun t ht hW => ⟨⟨_, (), rfl, rfl, by show _ ∧ _; rw [ht]; exact ⟨hP, hD⟩⟩, hS.F ht⟩) hS.2.2 hd)
set_option maxHeartbeats 4000000 in
set_option maxRecDepth 100000 in
theorem kX5_ice (l : Launch) (D : va_G) (T : Nat → ClassId) (F : Nat) (ad : Nat → Nat) (rs : Nat → Int32) (rm : Nat → Nat → Int32) (ts : Nat → Int32) (tm : Nat → Nat → Int32) (rdue : Int32) (rtun : Int32) (rsee : Int32) (rbeg : Int32) (psize : Int32) (pclause : Int32) (peff : Nat → Int32) (pkin : Nat → Int32) (pgri : Nat → Int32) (psig : Nat → Int32) (psee : Nat → Int32) (qsize : Int32) (qclause : Int32) (qeff : Nat → Int32) (qkin : Nat → Int32) (qgri : Nat → Int32) (qsig : Nat → Int32) (qsee : Nat → Int32) (cdee : Int32) (cnow : Int64) (cahe : Nat → Int64) (kdee : Nat → Int32) (know : Nat → Int64) (kahe : Nat → Nat → Int64) (fc : Nat → Int32) (lf : Int32) (told : Int32) (up : Int64) (lo : Int64) (x1 : Int32) (r : Int32) (zcdee : Int32) (zcnow : Int64) (zcahe : Nat → Int64) (h : fX5_ice F psize pclause pkin psee cdee cnow cahe x1 = some (r, zcdee, zcnow, zcahe)) : ∀ sz : Nat, Met l yX5_ice wsX5_ice ({ frames := 4, cells := 0, slots := 0, locals := 96 } : Room) (va_Pc [.ref (ad 0), .int x1] (fun U => U.heap.size = sz ∧ va_P D vwCl (wPW T ad (ad 6) (ad 12) rs rm ts tm rdue rtun rsee rbeg psize pclause peff pkin pgri psig psee qsize qclause qeff qkin qgri qsig qsee cdee cnow cahe kdee know kahe fc lf told up lo) U.heap ∧ KK D T U ∧ va_D (fun _ => True) (wPW T ad (ad 6) (ad 12) rs rm ts tm rdue rtun rsee rbeg psize pclause peff pkin pgri psig psee qsize qclause qeff qkin qgri qsig qsee cdee cnow cahe kdee know kahe fc lf told up lo))) (va_Qi (fun r' (_ : Unit) => r' = r) (fun _ t => va_P D vwCl (wPW T ad (ad 6) (ad 12) rs rm ts tm rdue rtun rsee rbeg psize pclause peff pkin pgri psig psee qsize qclause qeff qkin qgri qsig qsee zcdee zcnow zcahe kdee know kahe fc lf told up lo) t.heap ∧ va_D (va_A (wPW T ad (ad 6) (ad 12) rs rm ts tm rdue rtun rsee rbeg psize pclause peff pkin pgri psig psee qsize qclause qeff qkin qgri qsig qsee cdee cnow cahe kdee know kahe fc lf told up lo) sz) (wPW T ad (ad 6) (ad 12) rs rm ts tm rdue rtun rsee rbeg psize pclause peff pkin pgri psig psee qsize qclause qeff qkin qgri qsig qsee zcdee zcnow zcahe kdee know kahe fc lf told up lo)) (va_A (wPW T ad (ad 6) (ad 12) rs rm ts tm rdue rtun rsee rbeg psize pclause peff pkin pgri psig psee qsize qclause qeff qkin qgri qsig qsee cdee cnow cahe kdee know kahe fc lf told up lo) sz)) 0 0 (va_A (wPW T ad (ad 6) (ad 12) rs rm ts tm rdue rtun rsee rbeg psize pclause peff pkin pgri psig psee qsize qclause qeff qkin qgri qsig qsee cdee cnow cahe kdee know kahe fc lf told up lo) sz) := by
  intro sz
  refine Met.ofW (cc := cX5_ice) (maxL := 3) (ret := some .int) (by decide) rfl ?_
  intro p e s m args below meth c s₁ B hml hv
  obtain ⟨ha, hsz, hP, hKK, hD0⟩ := hv
  have hx := B.exec
  have hb := B.bytes
  have hr := B.returns
  have hts := atoms_spec (ws := wsX5_ice) B.pre
  have hown : s.vm.findClass RX5 = some m.cls := findClass_of_methodNamed B.named
  have hlocks := B.notSynchronized
  have hK := hKK.1
  have hFix : CallFix p m c cX5_ice 3 s args wsX5_ice RX5 := ⟨hx, hb, hml, hown, hts⟩
  have q1 := hts _ (List.mem_of_getElem? (i := 1) (show wsX5_ice[1]? = some (Cond.fieldLink RX5 46 "PartyWill" "course" "LPartyWill$Course;") from rfl))
  have q2 := hts _ (List.mem_of_getElem? (i := 2) (show wsX5_ice[2]? = some (Cond.fieldLink RX5 36 "PartyWill" "party" "LPartyWill$Party;") from rfl))
  have q13 := hts _ (List.mem_of_getElem? (i := 13) (show wsX5_ice[13]? = some (Cond.initialized RX1) from rfl))
  have q15 := hts _ (List.mem_of_getElem? (i := 15) (show wsX5_ice[15]? = some (Cond.instanceMethod yX2_afterIce) from rfl))
  have q16 := hts _ (List.mem_of_getElem? (i := 16) (show wsX5_ice[16]? = some (Cond.initialized RX2) from rfl))
  have q17 := hts _ (List.mem_of_getElem? (i := 17) (show wsX5_ice[17]? = some (Cond.selects RX2 yX2_afterIce yX2_afterIce) from rfl))
  have q19 := hts _ (List.mem_of_getElem? (i := 19) (show wsX5_ice[19]? = some (Cond.static yX1_griefOf) from rfl))
  have q52 := hts _ (List.mem_of_getElem? (i := 52) (show wsX5_ice[52]? = some (Cond.instanceMethod yX0_goOn) from rfl))
  have q53 := hts _ (List.mem_of_getElem? (i := 53) (show wsX5_ice[53]? = some (Cond.initialized RX0) from rfl))
  have q54 := hts _ (List.mem_of_getElem? (i := 54) (show wsX5_ice[54]? = some (Cond.selects RX0 yX0_goOn yX0_goOn) from rfl))
  have iX0 : ∀ w ∈ u_ws RX0 TX0 3, w ∈ wsX5_ice := fun w h => List.mem_cons_of_mem _ (List.mem_append_left _ (List.mem_append_right _ (h)))
  have iX5 : ∀ w ∈ u_ws RX5 TX5 14, w ∈ wsX5_ice := fun w h => List.mem_cons_of_mem _ (List.mem_append_left _ (List.mem_append_left _ (List.mem_append_right _ (h))))
  subst hsz
  have hD := hD0.self (sz := s.heap.size)
  generalize hAe : va_A (wPW T ad (ad 6) (ad 12) rs rm ts tm rdue rtun rsee rbeg psize pclause peff pkin pgri psig psee qsize qclause qeff qkin qgri qsig qsee cdee cnow cahe kdee know kahe fc lf told up lo) s.heap.size = A at hD ⊢
  have hA : ∀ q : Nat, s.heap.size ≤ q → A q := fun q h => by rw [← hAe]; exact Or.inr h
  have hS : va_S A s.heap s.heap [] := va_S.rf
  have hP : va_P D vwCl (wPW T ad (ad 6) (ad 12) rs rm ts tm rdue rtun rsee rbeg psize pclause peff pkin pgri psig psee qsize qclause qeff qkin qgri qsig qsee cdee cnow cahe kdee know kahe fc lf told up lo) s.heap := hP
  obtain ⟨ls, hl, e0⟩ := my_entry (m := m) (n := 3) ha (Nat.le_of_ble_eq_true rfl)
  rw [e0]
  have hl : lv_has ls 3 [(0, .ref (ad 0)), (1, .int x1)] := hl
  have key : ∀ Q : State → Prop, (∀ (H : Heap) (locs : List Loc) (pc : Nat) (ls : Array Slot), va_P D vwCl (wPW T ad (ad 6) (ad 12) rs rm ts tm rdue rtun rsee rbeg psize pclause peff pkin pgri psig psee qsize qclause qeff qkin qgri qsig qsee zcdee zcnow zcahe kdee know kahe fc lf told up lo) H → va_D A (wPW T ad (ad 6) (ad 12) rs rm ts tm rdue rtun rsee rbeg psize pclause peff pkin pgri psig psee qsize qclause qeff qkin qgri qsig qsee zcdee zcnow zcahe kdee know kahe fc lf told up lo) → va_S A s.heap H locs → decode cX5_ice pc = .ok (.ireturn, 1) → W p l e ({ frames := 4, cells := 0, slots := 0, locals := 96 } : Room) s m args below meth c H locs 0 0 Q (F0 m pc ls [.int r])) → W p l e ({ frames := 4, cells := 0, slots := 0, locals := 96 } : Room) s m args below meth c s.heap [] 0 0 Q (F0 m 0 ls []) := by
    intro Q hret
    skip
    unfold fX5_ice at h
    refine lv_aload_n hx hb dX5_ice_0 rfl (lv_at hl 0 rfl) ?_
    refine lv_iload_n hx hb dX5_ice_1 rfl (lv_at hl 1 rfl) ?_
    obtain ⟨r2, hc, h⟩ := bd1_some h
    refine my_roi (va_Run.run (va_runV (As := [.int x1]) (rest := []) hFix (kX5_deedRefusal l D T F ad rs rm ts tm rdue rtun rsee rbeg psize pclause peff pkin pgri psig psee qsize qclause qeff qkin qgri qsig qsee cdee cnow cahe kdee know kahe fc lf told up lo x1 r2 hc) (cwV 1 hts gX5_ice_X5_deedRefusal rfl rfl rfl ⟨rfl, hd_X5_deedRefusal⟩ ⟨Nat.le_of_ble_eq_true rfl, Nat.le_of_ble_eq_true rfl⟩) (preV_ro hP hKK (va_recv hK hP (ci := 3) (q0 := 0) rfl wPW_0)) rfl rfl hl.1 rfl (lv_room (Nat.le_of_ble_eq_true rfl)) dX5_ice_2 ⟨Nat.zero_le _, Nat.zero_le _⟩)) ?_
    refine lv_istore_n (lv' := [(2, .int r2), (0, .ref (ad 0)), (1, .int x1)]) hx hb dX5_ice_5 rfl hl (by decide) rfl (fun ls hl => ?_)
    refine lv_iload_n hx hb dX5_ice_6 rfl (lv_at hl 0 rfl) ?_
    refine lv_if_eq (tgt := 12) hx hb dX5_ice_7 (by decide) (fun c7 => ?_) (fun c7 => ?_)
    · have h := br_1 h c7
      refine lv_aload_n hx hb dX5_ice_12 rfl (lv_at hl 1 rfl) ?_
      refine va_get (D := D) (ci := 3) (C := RX5) (T := TX5) (N := 14) hx hb hts iX5 hown hK hP 0 wPW_0 rfl 7 (by decide) q1 (fun _ h9 => h9) rfl dX5_ice_13 ?_
      refine lv_aload_n hx hb dX5_ice_16 rfl (lv_at hl 1 rfl) ?_
      refine va_get (D := D) (ci := 3) (C := RX5) (T := TX5) (N := 14) hx hb hts iX5 hown hK hP 0 wPW_0 rfl 5 (by decide) q2 (fun _ h9 => h9) rfl dX5_ice_17 ?_
      refine lv_aload_n hx hb dX5_ice_20 rfl (lv_at hl 1 rfl) ?_
      refine va_get (D := D) (ci := 3) (C := RX5) (T := TX5) (N := 14) hx hb hts iX5 hown hK hP 0 wPW_0 rfl 7 (by decide) q1 (fun _ h9 => h9) rfl dX5_ice_21 ?_
      refine va_getN (host := "PartyWill") (D := D) (ci := 0) (C := RX0) (T := TX0) (N := 3) hx hb hts iX0 hown hK hP 18 wPW_18 rfl 1 (by decide) (va_Nw.use rfl (nw_X5_127 hKK.2)) (fun _ h9 => h9) rfl dX5_ice_24 ?_
      refine lv_iload_n hx hb dX5_ice_27 rfl (lv_at hl 2 rfl) ?_
      obtain ⟨r28, hc, h⟩ := bd1_some h
      have hPc : va_P D vwCl (wPa T (ad 6) (ad 7) (ad 8) (ad 9) (ad 10) (ad 11) psize pclause peff pkin pgri psig psee) _ := my_subP sb_wPW_wPa_6to11 hP
      refine my_rol (va_Run.run (va_runVN (host := "PartyWill") (As := [.long cnow, .int x1]) (rest := [.ref (ad 18)]) hFix (kX2_afterIce l D T F (ad 6) (ad 7) (ad 8) (ad 9) (ad 10) (ad 11) psize pclause peff pkin pgri psig psee cnow x1 r28 hc) ⟨va_cnB 2 hts gX5_ice_X2_afterIce_n178 rfl rfl rfl (nw_X5_178 hKK.2) q16 hd_X2_afterIce ⟨Nat.le_of_ble_eq_true rfl, Nat.le_of_ble_eq_true rfl⟩, q15, q17⟩ (preV_ro hPc hKK (va_recv hK hP (ci := 1) (q0 := 6) rfl wPW_6)) rfl rfl hl.1 rfl (lv_room (Nat.le_of_ble_eq_true rfl)) dX5_ice_28 ⟨Nat.zero_le _, Nat.zero_le _⟩)) ?_
      obtain ⟨w31_cdee, w31_cnow, w31_cahe, hc, h⟩ := bd3_some h
      have hPc : va_P D vwCl (wCo T (ad 18) (ad 19) cdee cnow cahe) _ := my_subP sb_wPW_wCo_18_19 hP
      have hDc := hD.sub [18, 19] (by decide) sb_wPW_wCo_18_19
      have hFc := va_free hD hS hA [18, 19] sb_wPW_wCo_18_19
      refine my_rwv (va_runVN (host := "PartyWill") (As := [.long r28]) (rest := []) hFix (kX0_goOn l D T F (ad 18) (ad 19) cdee cnow cahe r28 w31_cdee w31_cnow w31_cahe hc _) ⟨va_cnB 1 hts gX5_ice_X0_goOn_n166 rfl rfl rfl (nw_X5_166 hKK.2) q53 hd_X0_goOn ⟨Nat.le_of_ble_eq_true rfl, Nat.le_of_ble_eq_true rfl⟩, q52, q54⟩ (preV_rw hPc hKK hDc (va_recv hK hP (ci := 0) (q0 := 18) rfl wPW_18)) rfl rfl hl.1 rfl (lv_room (Nat.le_of_ble_eq_true rfl)) dX5_ice_31 ⟨Nat.zero_le _, Nat.zero_le _⟩) hS hFc (fun H1 locs hP1 hD1 hz1 hkk hS => ?_)
      obtain ⟨hP, hD⟩ := my_joinS hP hD (by decide) sb_wPW_wCo_18_19 (by rfl) hkk hFc hP1 hD1
      rw [st_wPW_wCo_18_19_goOn] at hP hD
      generalize H1 = H at hP hS ⊢
      refine lv_aload_n hx hb dX5_ice_34 rfl (lv_at hl 1 rfl) ?_
      refine va_get (D := D) (ci := 3) (C := RX5) (T := TX5) (N := 14) hx hb hts iX5 hown hK hP 0 wPW_0 rfl 7 (by decide) q1 (fun _ h9 => h9) rfl dX5_ice_35 ?_
      refine va_getN (host := "PartyWill") (D := D) (ci := 0) (C := RX0) (T := TX0) (N := 3) hx hb hts iX0 hown hK hP 18 wPW_18 rfl 1 (by decide) (va_Nw.use rfl (nw_X5_127 hKK.2)) (fun _ h9 => h9) rfl dX5_ice_38 ?_
      refine lv_iload_n hx hb dX5_ice_41 rfl (lv_at hl 2 rfl) ?_
      obtain ⟨r42, hc, h⟩ := bd1_some h
      refine my_roi (va_Run.run (va_runSN (host := "PartyWill") (As := [.long w31_cnow, .int x1]) (rest := []) hFix (kX1_griefOf l D T F w31_cnow x1 r42 hc) ⟨va_cnB 2 hts gX5_ice_X1_griefOf_n175 rfl rfl rfl (nw_X5_175 hKK.2) q13 hd_X1_griefOf ⟨Nat.le_of_ble_eq_true rfl, Nat.le_of_ble_eq_true rfl⟩, q19, trivial⟩ (preS_ro va_nil hKK) rfl rfl hl.1 rfl (lv_room (Nat.le_of_ble_eq_true rfl)) dX5_ice_42 ⟨Nat.zero_le _, Nat.zero_le _⟩)) ?_
      cases h
      exact hret _ _ _ _ hP hD hS dX5_ice_45
    · have h := br_0 h c7
      refine lv_iload_n hx hb dX5_ice_10 rfl (lv_at hl 0 rfl) ?_
      cases h
      exact hret _ _ _ _ hP hD hS dX5_ice_11
  exact key _ (fun H locs pc ls hP hD hS hd => W.iret hx hb hr (fun t ht hW => ⟨⟨_, (), rfl, rfl, by show _ ∧ _; rw [ht]; exact ⟨hP, hD⟩⟩, hS.F ht⟩) hS.2.2 hd)
set_option maxHeartbeats 4000000 in
set_option maxRecDepth 100000 in
theorem kX5_undo (l : Launch) (D : va_G) (T : Nat → ClassId) (F : Nat) (ad : Nat → Nat) (rs : Nat → Int32) (rm : Nat → Nat → Int32) (ts : Nat → Int32) (tm : Nat → Nat → Int32) (rdue : Int32) (rtun : Int32) (rsee : Int32) (rbeg : Int32) (psize : Int32) (pclause : Int32) (peff : Nat → Int32) (pkin : Nat → Int32) (pgri : Nat → Int32) (psig : Nat → Int32) (psee : Nat → Int32) (qsize : Int32) (qclause : Int32) (qeff : Nat → Int32) (qkin : Nat → Int32) (qgri : Nat → Int32) (qsig : Nat → Int32) (qsee : Nat → Int32) (cdee : Int32) (cnow : Int64) (cahe : Nat → Int64) (kdee : Nat → Int32) (know : Nat → Int64) (kahe : Nat → Nat → Int64) (fc : Nat → Int32) (lf : Int32) (told : Int32) (up : Int64) (lo : Int64) (x1 : Int32) (r : Int32) (zcdee : Int32) (zcnow : Int64) (h : fX5_undo F cdee cnow cahe x1 = some (r, zcdee, zcnow)) : ∀ sz : Nat, Met l yX5_undo wsX5_undo ({ frames := 1, cells := 0, slots := 0, locals := 21 } : Room) (va_Pc [.ref (ad 0), .int x1] (fun U => U.heap.size = sz ∧ va_P D vwCl (wPW T ad (ad 6) (ad 12) rs rm ts tm rdue rtun rsee rbeg psize pclause peff pkin pgri psig psee qsize qclause qeff qkin qgri qsig qsee cdee cnow cahe kdee know kahe fc lf told up lo) U.heap ∧ KK D T U ∧ va_D (fun _ => True) (wPW T ad (ad 6) (ad 12) rs rm ts tm rdue rtun rsee rbeg psize pclause peff pkin pgri psig psee qsize qclause qeff qkin qgri qsig qsee cdee cnow cahe kdee know kahe fc lf told up lo))) (va_Qi (fun r' (_ : Unit) => r' = r) (fun _ t => va_P D vwCl (wPW T ad (ad 6) (ad 12) rs rm ts tm rdue rtun rsee rbeg psize pclause peff pkin pgri psig psee qsize qclause qeff qkin qgri qsig qsee zcdee zcnow cahe kdee know kahe fc lf told up lo) t.heap ∧ va_D (va_A (wPW T ad (ad 6) (ad 12) rs rm ts tm rdue rtun rsee rbeg psize pclause peff pkin pgri psig psee qsize qclause qeff qkin qgri qsig qsee cdee cnow cahe kdee know kahe fc lf told up lo) sz) (wPW T ad (ad 6) (ad 12) rs rm ts tm rdue rtun rsee rbeg psize pclause peff pkin pgri psig psee qsize qclause qeff qkin qgri qsig qsee zcdee zcnow cahe kdee know kahe fc lf told up lo)) (va_A (wPW T ad (ad 6) (ad 12) rs rm ts tm rdue rtun rsee rbeg psize pclause peff pkin pgri psig psee qsize qclause qeff qkin qgri qsig qsee cdee cnow cahe kdee know kahe fc lf told up lo) sz)) 0 0 (va_A (wPW T ad (ad 6) (ad 12) rs rm ts tm rdue rtun rsee rbeg psize pclause peff pkin pgri psig psee qsize qclause qeff qkin qgri qsig qsee cdee cnow cahe kdee know kahe fc lf told up lo) sz) := by
  intro sz
  refine Met.ofW (cc := cX5_undo) (maxL := 3) (ret := some .int) (by decide) rfl ?_
  intro p e s m args below meth c s₁ B hml hv
  obtain ⟨ha, hsz, hP, hKK, hD0⟩ := hv
  have hx := B.exec
  have hb := B.bytes
  have hr := B.returns
  have hts := atoms_spec (ws := wsX5_undo) B.pre
  have hown : s.vm.findClass RX5 = some m.cls := findClass_of_methodNamed B.named
  have hlocks := B.notSynchronized
  have hK := hKK.1
  have hFix : CallFix p m c cX5_undo 3 s args wsX5_undo RX5 := ⟨hx, hb, hml, hown, hts⟩
  have q1 := hts _ (List.mem_of_getElem? (i := 1) (show wsX5_undo[1]? = some (Cond.fieldLink RX5 46 "PartyWill" "course" "LPartyWill$Course;") from rfl))
  have q2 := hts _ (List.mem_of_getElem? (i := 2) (show wsX5_undo[2]? = some (Cond.instanceMethod yX0_goBackTo) from rfl))
  have q3 := hts _ (List.mem_of_getElem? (i := 3) (show wsX5_undo[3]? = some (Cond.initialized RX0) from rfl))
  have q4 := hts _ (List.mem_of_getElem? (i := 4) (show wsX5_undo[4]? = some (Cond.selects RX0 yX0_goBackTo yX0_goBackTo) from rfl))
  have iX0 : ∀ w ∈ u_ws RX0 TX0 3, w ∈ wsX5_undo := fun w h => List.mem_cons_of_mem _ (List.mem_append_right _ (h))
  have iX5 : ∀ w ∈ u_ws RX5 TX5 14, w ∈ wsX5_undo := fun w h => List.mem_cons_of_mem _ (List.mem_append_left _ (List.mem_append_right _ (h)))
  subst hsz
  have hD := hD0.self (sz := s.heap.size)
  generalize hAe : va_A (wPW T ad (ad 6) (ad 12) rs rm ts tm rdue rtun rsee rbeg psize pclause peff pkin pgri psig psee qsize qclause qeff qkin qgri qsig qsee cdee cnow cahe kdee know kahe fc lf told up lo) s.heap.size = A at hD ⊢
  have hA : ∀ q : Nat, s.heap.size ≤ q → A q := fun q h => by rw [← hAe]; exact Or.inr h
  have hS : va_S A s.heap s.heap [] := va_S.rf
  have hP : va_P D vwCl (wPW T ad (ad 6) (ad 12) rs rm ts tm rdue rtun rsee rbeg psize pclause peff pkin pgri psig psee qsize qclause qeff qkin qgri qsig qsee cdee cnow cahe kdee know kahe fc lf told up lo) s.heap := hP
  obtain ⟨ls, hl, e0⟩ := my_entry (m := m) (n := 3) ha (Nat.le_of_ble_eq_true rfl)
  rw [e0]
  have hl : lv_has ls 3 [(0, .ref (ad 0)), (1, .int x1)] := hl
  have key : ∀ Q : State → Prop, (∀ (H : Heap) (locs : List Loc) (pc : Nat) (ls : Array Slot), va_P D vwCl (wPW T ad (ad 6) (ad 12) rs rm ts tm rdue rtun rsee rbeg psize pclause peff pkin pgri psig psee qsize qclause qeff qkin qgri qsig qsee zcdee zcnow cahe kdee know kahe fc lf told up lo) H → va_D A (wPW T ad (ad 6) (ad 12) rs rm ts tm rdue rtun rsee rbeg psize pclause peff pkin pgri psig psee qsize qclause qeff qkin qgri qsig qsee zcdee zcnow cahe kdee know kahe fc lf told up lo) → va_S A s.heap H locs → decode cX5_undo pc = .ok (.ireturn, 1) → W p l e ({ frames := 1, cells := 0, slots := 0, locals := 21 } : Room) s m args below meth c H locs 0 0 Q (F0 m pc ls [.int r])) → W p l e ({ frames := 1, cells := 0, slots := 0, locals := 21 } : Room) s m args below meth c s.heap [] 0 0 Q (F0 m 0 ls []) := by
    intro Q hret
    skip
    unfold fX5_undo at h
    refine lv_iload_n hx hb dX5_undo_0 rfl (lv_at hl 1 rfl) ?_
    refine lv_if_lt (tgt := 15) hx hb dX5_undo_1 (by decide) (fun c1 => ?_) (fun c1 => ?_)
    · have h := br_1 h c1
      refine lv_iconst (v := (-1 : Int32)) hx hb dX5_undo_15 (by decide) ?_
      cases h
      exact hret _ _ _ _ hP hD hS dX5_undo_16
    · have h := br_0 h c1
      refine lv_iload_n hx hb dX5_undo_4 rfl (lv_at hl 1 rfl) ?_
      refine lv_aload_n hx hb dX5_undo_5 rfl (lv_at hl 0 rfl) ?_
      refine va_get (D := D) (ci := 3) (C := RX5) (T := TX5) (N := 14) hx hb hts iX5 hown hK hP 0 wPW_0 rfl 7 (by decide) q1 (fun _ h9 => h9) rfl dX5_undo_6 ?_
      refine va_getN (host := "PartyWill") (D := D) (ci := 0) (C := RX0) (T := TX0) (N := 3) hx hb hts iX0 hown hK hP 18 wPW_18 rfl 0 (by decide) (va_Nw.use rfl (nw_X5_71 hKK.2)) (fun _ h9 => h9) rfl dX5_undo_9 ?_
      refine lv_icmp_le (tgt := 17) hx hb dX5_undo_12 (by decide) (fun c12 => ?_) (fun c12 => ?_)
      · have h := br_1 h c12
        refine lv_aload_n hx hb dX5_undo_17 rfl (lv_at hl 0 rfl) ?_
        refine va_get (D := D) (ci := 3) (C := RX5) (T := TX5) (N := 14) hx hb hts iX5 hown hK hP 0 wPW_0 rfl 7 (by decide) q1 (fun _ h9 => h9) rfl dX5_undo_18 ?_
        refine va_getN (host := "PartyWill") (D := D) (ci := 0) (C := RX0) (T := TX0) (N := 3) hx hb hts iX0 hown hK hP 18 wPW_18 rfl 0 (by decide) (va_Nw.use rfl (nw_X5_71 hKK.2)) (fun _ h9 => h9) rfl dX5_undo_21 ?_
        refine lv_iload_n hx hb dX5_undo_24 rfl (lv_at hl 1 rfl) ?_
        refine lv_isub hx hb dX5_undo_25 ?_
        refine lv_istore_n (lv' := [(2, .int (cdee - x1)), (0, .ref (ad 0)), (1, .int x1)]) hx hb dX5_undo_26 rfl hl (by decide) rfl (fun ls hl => ?_)
        refine lv_aload_n hx hb dX5_undo_27 rfl (lv_at hl 1 rfl) ?_
        refine va_get (D := D) (ci := 3) (C := RX5) (T := TX5) (N := 14) hx hb hts iX5 hown hK hP 0 wPW_0 rfl 7 (by decide) q1 (fun _ h9 => h9) rfl dX5_undo_28 ?_
        refine lv_iload_n hx hb dX5_undo_31 rfl (lv_at hl 2 rfl) ?_
        obtain ⟨w32_cdee, w32_cnow, hc, h⟩ := bd2_some h
        have hPc : va_P D vwCl (wCo T (ad 18) (ad 19) cdee cnow cahe) _ := my_subP sb_wPW_wCo_18_19 hP
        have hDc := hD.sub [18, 19] (by decide) sb_wPW_wCo_18_19
        have hFc := va_free hD hS hA [18, 19] sb_wPW_wCo_18_19
        refine my_rwv (va_runVN (host := "PartyWill") (As := [.int x1]) (rest := []) hFix (kX0_goBackTo l D T F (ad 18) (ad 19) cdee cnow cahe x1 w32_cdee w32_cnow hc _) ⟨va_cnB 1 hts gX5_undo_X0_goBackTo_n181 rfl rfl rfl (nw_X5_181 hKK.2) q3 hd_X0_goBackTo ⟨Nat.le_of_ble_eq_true rfl, Nat.le_of_ble_eq_true rfl⟩, q2, q4⟩ (preV_rw hPc hKK hDc (va_recv hK hP (ci := 0) (q0 := 18) rfl wPW_18)) rfl rfl hl.1 rfl (lv_room (Nat.le_of_ble_eq_true rfl)) dX5_undo_32 ⟨Nat.zero_le _, Nat.zero_le _⟩) hS hFc (fun H1 locs hP1 hD1 hz1 hkk hS => ?_)
        obtain ⟨hP, hD⟩ := my_joinS hP hD (by decide) sb_wPW_wCo_18_19 (by rfl) hkk hFc hP1 hD1
        rw [st_wPW_wCo_18_19_goBackTo] at hP hD
        generalize H1 = H at hP hS ⊢
        refine lv_iload_n hx hb dX5_undo_35 rfl (lv_at hl 0 rfl) ?_
        cases h
        exact hret _ _ _ _ hP hD hS dX5_undo_36
      · have h := br_0 h c12
        refine lv_iconst (v := (-1 : Int32)) hx hb dX5_undo_15 (by decide) ?_
        cases h
        exact hret _ _ _ _ hP hD hS dX5_undo_16
  exact key _ (fun H locs pc ls hP hD hS hd => W.iret hx hb hr (fun t ht hW => ⟨⟨_, (), rfl, rfl, by show _ ∧ _; rw [ht]; exact ⟨hP, hD⟩⟩, hS.F ht⟩) hS.2.2 hd)
set_option maxHeartbeats 4000000 in
set_option maxRecDepth 100000 in
theorem kX5_isKeepingPlace (l : Launch) (D : va_G) (T : Nat → ClassId) (F : Nat) (x0 : Int32) (r : Int32) (h : fX5_isKeepingPlace F x0 = some (r)) : Met l yX5_isKeepingPlace wsX5_isKeepingPlace ({ frames := 0, cells := 0, slots := 0, locals := 0 } : Room) (va_Pc [.int x0] (fun U => va_P D vwCl ([] : va_W) U.heap ∧ KK D T U)) (vp_Si (fun r' => r' = r ∧ b01 r)) 0 0 (fun _ => False) := by
  refine Met.ofW (cc := cX5_isKeepingPlace) (maxL := 1) (ret := some .boolean) (by decide) rfl ?_
  intro p e s m args below meth c s₁ B hml hv
  obtain ⟨ha, hP, hKK⟩ := hv
  have hx := B.exec
  have hb := B.bytes
  have hr := B.returns
  have hts := atoms_spec (ws := wsX5_isKeepingPlace) B.pre
  have hown : s.vm.findClass RX5 = some m.cls := findClass_of_methodNamed B.named
  have hlocks := B.notSynchronized
  have hK := hKK.1
  have hFix : CallFix p m c cX5_isKeepingPlace 1 s args wsX5_isKeepingPlace RX5 := ⟨hx, hb, hml, hown, hts⟩
  obtain ⟨ls, hl, e0⟩ := my_entry (m := m) (n := 1) ha (Nat.le_of_ble_eq_true rfl)
  rw [e0]
  have hl : lv_has ls 1 [(0, .int x0)] := hl
  have key : ∀ Q : State → Prop, (∀ (pc : Nat) (ls : Array Slot), decode cX5_isKeepingPlace pc = .ok (.ireturn, 1) → b01 r → W p l e ({ frames := 0, cells := 0, slots := 0, locals := 0 } : Room) s m args below meth c s.heap [] 0 0 Q (F0 m pc ls [.int r])) → W p l e ({ frames := 0, cells := 0, slots := 0, locals := 0 } : Room) s m args below meth c s.heap [] 0 0 Q (F0 m 0 ls []) := by
    intro Q hret
    unfold fX5_isKeepingPlace at h
    refine lv_iload_n hx hb dX5_isKeepingPlace_0 rfl (lv_at hl 0 rfl) ?_
    refine lv_if_lt (tgt := 13) hx hb dX5_isKeepingPlace_1 (by decide) (fun c1 => ?_) (fun c1 => ?_)
    · have h := br_1 h c1
      refine lv_iconst (v := (0 : Int32)) hx hb dX5_isKeepingPlace_13 (by decide) ?_
      cases h
      exact hret _ _ dX5_isKeepingPlace_14 (Or.inl rfl)
    · have h := br_0 h c1
      refine lv_iload_n hx hb dX5_isKeepingPlace_4 rfl (lv_at hl 0 rfl) ?_
      refine lv_iconst (v := (3 : Int32)) hx hb dX5_isKeepingPlace_5 (by decide) ?_
      refine lv_icmp_ge (tgt := 13) hx hb dX5_isKeepingPlace_6 (by decide) (fun c6 => ?_) (fun c6 => ?_)
      · have h := br_1 h c6
        refine lv_iconst (v := (0 : Int32)) hx hb dX5_isKeepingPlace_13 (by decide) ?_
        cases h
        exact hret _ _ dX5_isKeepingPlace_14 (Or.inl rfl)
      · have h := br_0 h c6
        refine lv_iconst (v := (1 : Int32)) hx hb dX5_isKeepingPlace_9 (by decide) ?_
        refine lv_goto (tgt := 14) hx hb dX5_isKeepingPlace_10 (by decide) ?_
        cases h
        exact hret _ _ dX5_isKeepingPlace_14 (Or.inr rfl)
  exact key _ (fun pc ls hd hb1 => W.zret hx hb hr (b01_n hb1) (fun t ht hW => ⟨_, rfl, ⟨rfl, hb1⟩, ht⟩) (fun q h => by cases h) hd)
