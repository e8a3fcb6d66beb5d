set_option maxHeartbeats 4000000 in
set_option maxRecDepth 100000 in
theorem kX5_say (l : Launch) (D : va_G) (T : Nat → ClassId) (F : Nat) (ad : Nat → Nat) (rs : Nat → Int32) (rm : Nat → Nat → Int32) (ts : Nat → Int32) (tm : Nat → Nat → Int32) (rdue : Int32) (rtun : Int32) (rsee : Int32) (rbeg : Int32) (psize : Int32) (pclause : Int32) (peff : Nat → Int32) (pkin : Nat → Int32) (pgri : Nat → Int32) (psig : Nat → Int32) (psee : Nat → Int32) (qsize : Int32) (qclause : Int32) (qeff : Nat → Int32) (qkin : Nat → Int32) (qgri : Nat → Int32) (qsig : Nat → Int32) (qsee : Nat → Int32) (cdee : Int32) (cnow : Int64) (cahe : Nat → Int64) (kdee : Nat → Int32) (know : Nat → Int64) (kahe : Nat → Nat → Int64) (fc : Nat → Int32) (lf : Int32) (told : Int32) (up : Int64) (lo : Int64) (x1 : Int32) (r : Int32) (zcdee : Int32) (zcnow : Int64) (zcahe : Nat → Int64) (h : fX5_say F psize pclause pkin psee cdee cnow cahe x1 = some (r, zcdee, zcnow, zcahe)) : ∀ sz : Nat, Met l yX5_say wsX5_say ({ frames := 4, cells := 0, slots := 0, locals := 96 } : Room) (va_Pc [.ref (ad 0), .int x1] (fun U => U.heap.size = sz ∧ va_P D vwCl (wPW T ad (ad 6) (ad 12) rs rm ts tm rdue rtun rsee rbeg psize pclause peff pkin pgri psig psee qsize qclause qeff qkin qgri qsig qsee cdee cnow cahe kdee know kahe fc lf told up lo) U.heap ∧ KK D T U ∧ va_D (fun _ => True) (wPW T ad (ad 6) (ad 12) rs rm ts tm rdue rtun rsee rbeg psize pclause peff pkin pgri psig psee qsize qclause qeff qkin qgri qsig qsee cdee cnow cahe kdee know kahe fc lf told up lo))) (va_Qi (fun r' (_ : Unit) => r' = r) (fun _ t => va_P D vwCl (wPW T ad (ad 6) (ad 12) rs rm ts tm rdue rtun rsee rbeg psize pclause peff pkin pgri psig psee qsize qclause qeff qkin qgri qsig qsee zcdee zcnow zcahe kdee know kahe fc lf told up lo) t.heap ∧ va_D (va_A (wPW T ad (ad 6) (ad 12) rs rm ts tm rdue rtun rsee rbeg psize pclause peff pkin pgri psig psee qsize qclause qeff qkin qgri qsig qsee cdee cnow cahe kdee know kahe fc lf told up lo) sz) (wPW T ad (ad 6) (ad 12) rs rm ts tm rdue rtun rsee rbeg psize pclause peff pkin pgri psig psee qsize qclause qeff qkin qgri qsig qsee zcdee zcnow zcahe kdee know kahe fc lf told up lo)) (va_A (wPW T ad (ad 6) (ad 12) rs rm ts tm rdue rtun rsee rbeg psize pclause peff pkin pgri psig psee qsize qclause qeff qkin qgri qsig qsee cdee cnow cahe kdee know kahe fc lf told up lo) sz)) 0 0 (va_A (wPW T ad (ad 6) (ad 12) rs rm ts tm rdue rtun rsee rbeg psize pclause peff pkin pgri psig psee qsize qclause qeff qkin qgri qsig qsee cdee cnow cahe kdee know kahe fc lf told up lo) sz) := by
  intro sz
  refine Met.ofW (cc := cX5_say) (maxL := 3) (ret := some .int) (by decide) rfl ?_
  intro p e s m args below meth c s₁ B hml hv
  obtain ⟨ha, hsz, hP, hKK, hD0⟩ := hv
  have hx := B.exec
  have hb := B.bytes
  have hr := B.returns
  have hts := atoms_spec (ws := wsX5_say) B.pre
  have hown : s.vm.findClass RX5 = some m.cls := findClass_of_methodNamed B.named
  have hlocks := B.notSynchronized
  have hK := hKK.1
  have hFix : CallFix p m c cX5_say 3 s args wsX5_say RX5 := ⟨hx, hb, hml, hown, hts⟩
  have q1 := hts _ (List.mem_of_getElem? (i := 1) (show wsX5_say[1]? = some (Cond.fieldLink RX5 46 "PartyWill" "course" "LPartyWill$Course;") from rfl))
  have q2 := hts _ (List.mem_of_getElem? (i := 2) (show wsX5_say[2]? = some (Cond.fieldLink RX5 36 "PartyWill" "party" "LPartyWill$Party;") from rfl))
  have q13 := hts _ (List.mem_of_getElem? (i := 13) (show wsX5_say[13]? = some (Cond.initialized RX1) from rfl))
  have q15 := hts _ (List.mem_of_getElem? (i := 15) (show wsX5_say[15]? = some (Cond.instanceMethod yX2_afterName) from rfl))
  have q16 := hts _ (List.mem_of_getElem? (i := 16) (show wsX5_say[16]? = some (Cond.initialized RX2) from rfl))
  have q17 := hts _ (List.mem_of_getElem? (i := 17) (show wsX5_say[17]? = some (Cond.selects RX2 yX2_afterName yX2_afterName) from rfl))
  have q20 := hts _ (List.mem_of_getElem? (i := 20) (show wsX5_say[20]? = some (Cond.static yX1_griefOf) from rfl))
  have q55 := hts _ (List.mem_of_getElem? (i := 55) (show wsX5_say[55]? = some (Cond.instanceMethod yX0_goOn) from rfl))
  have q56 := hts _ (List.mem_of_getElem? (i := 56) (show wsX5_say[56]? = some (Cond.initialized RX0) from rfl))
  have q57 := hts _ (List.mem_of_getElem? (i := 57) (show wsX5_say[57]? = some (Cond.selects RX0 yX0_goOn yX0_goOn) from rfl))
  have iX0 : ∀ w ∈ u_ws RX0 TX0 3, w ∈ wsX5_say := fun w h => List.mem_cons_of_mem _ (List.mem_append_left _ (List.mem_append_right _ (h)))
  have iX5 : ∀ w ∈ u_ws RX5 TX5 14, w ∈ wsX5_say := fun w h => List.mem_cons_of_mem _ (List.mem_append_left _ (List.mem_append_left _ (List.mem_append_right _ (h))))
  subst hsz
  have hD := hD0.self (sz := s.heap.size)
  generalize hAe : va_A (wPW T ad (ad 6) (ad 12) rs rm ts tm rdue rtun rsee rbeg psize pclause peff pkin pgri psig psee qsize qclause qeff qkin qgri qsig qsee cdee cnow cahe kdee know kahe fc lf told up lo) s.heap.size = A at hD ⊢
  have hA : ∀ q : Nat, s.heap.size ≤ q → A q := fun q h => by rw [← hAe]; exact Or.inr h
  have hS : va_S A s.heap s.heap [] := va_S.rf
  have hP : va_P D vwCl (wPW T ad (ad 6) (ad 12) rs rm ts tm rdue rtun rsee rbeg psize pclause peff pkin pgri psig psee qsize qclause qeff qkin qgri qsig qsee cdee cnow cahe kdee know kahe fc lf told up lo) s.heap := hP
  obtain ⟨ls, hl, e0⟩ := my_entry (m := m) (n := 3) ha (Nat.le_of_ble_eq_true rfl)
  rw [e0]
  have hl : lv_has ls 3 [(0, .ref (ad 0)), (1, .int x1)] := hl
  have key : ∀ Q : State → Prop, (∀ (H : Heap) (locs : List Loc) (pc : Nat) (ls : Array Slot), va_P D vwCl (wPW T ad (ad 6) (ad 12) rs rm ts tm rdue rtun rsee rbeg psize pclause peff pkin pgri psig psee qsize qclause qeff qkin qgri qsig qsee zcdee zcnow zcahe kdee know kahe fc lf told up lo) H → va_D A (wPW T ad (ad 6) (ad 12) rs rm ts tm rdue rtun rsee rbeg psize pclause peff pkin pgri psig psee qsize qclause qeff qkin qgri qsig qsee zcdee zcnow zcahe kdee know kahe fc lf told up lo) → va_S A s.heap H locs → decode cX5_say pc = .ok (.ireturn, 1) → W p l e ({ frames := 4, cells := 0, slots := 0, locals := 96 } : Room) s m args below meth c H locs 0 0 Q (F0 m pc ls [.int r])) → W p l e ({ frames := 4, cells := 0, slots := 0, locals := 96 } : Room) s m args below meth c s.heap [] 0 0 Q (F0 m 0 ls []) := by
    intro Q hret
    skip
    unfold fX5_say at h
    refine lv_aload_n hx hb dX5_say_0 rfl (lv_at hl 0 rfl) ?_
    refine lv_iload_n hx hb dX5_say_1 rfl (lv_at hl 1 rfl) ?_
    obtain ⟨r2, hc, h⟩ := bd1_some h
    refine my_roi (va_Run.run (va_runV (As := [.int x1]) (rest := []) hFix (kX5_deedRefusal l D T F ad rs rm ts tm rdue rtun rsee rbeg psize pclause peff pkin pgri psig psee qsize qclause qeff qkin qgri qsig qsee cdee cnow cahe kdee know kahe fc lf told up lo x1 r2 hc) (cwV 1 hts gX5_say_X5_deedRefusal rfl rfl rfl ⟨rfl, hd_X5_deedRefusal⟩ ⟨Nat.le_of_ble_eq_true rfl, Nat.le_of_ble_eq_true rfl⟩) (preV_ro hP hKK (va_recv hK hP (ci := 3) (q0 := 0) rfl wPW_0)) rfl rfl hl.1 rfl (lv_room (Nat.le_of_ble_eq_true rfl)) dX5_say_2 ⟨Nat.zero_le _, Nat.zero_le _⟩)) ?_
    refine lv_istore_n (lv' := [(2, .int r2), (0, .ref (ad 0)), (1, .int x1)]) hx hb dX5_say_5 rfl hl (by decide) rfl (fun ls hl => ?_)
    refine lv_iload_n hx hb dX5_say_6 rfl (lv_at hl 0 rfl) ?_
    refine lv_if_eq (tgt := 12) hx hb dX5_say_7 (by decide) (fun c7 => ?_) (fun c7 => ?_)
    · have h := br_1 h c7
      refine lv_aload_n hx hb dX5_say_12 rfl (lv_at hl 1 rfl) ?_
      refine va_get (D := D) (ci := 3) (C := RX5) (T := TX5) (N := 14) hx hb hts iX5 hown hK hP 0 wPW_0 rfl 7 (by decide) q1 (fun _ h9 => h9) rfl dX5_say_13 ?_
      refine lv_aload_n hx hb dX5_say_16 rfl (lv_at hl 1 rfl) ?_
      refine va_get (D := D) (ci := 3) (C := RX5) (T := TX5) (N := 14) hx hb hts iX5 hown hK hP 0 wPW_0 rfl 5 (by decide) q2 (fun _ h9 => h9) rfl dX5_say_17 ?_
      refine lv_aload_n hx hb dX5_say_20 rfl (lv_at hl 1 rfl) ?_
      refine va_get (D := D) (ci := 3) (C := RX5) (T := TX5) (N := 14) hx hb hts iX5 hown hK hP 0 wPW_0 rfl 7 (by decide) q1 (fun _ h9 => h9) rfl dX5_say_21 ?_
      refine va_getN (host := "PartyWill") (D := D) (ci := 0) (C := RX0) (T := TX0) (N := 3) hx hb hts iX0 hown hK hP 18 wPW_18 rfl 1 (by decide) (va_Nw.use rfl (nw_X5_127 hKK.2)) (fun _ h9 => h9) rfl dX5_say_24 ?_
      refine lv_iload_n hx hb dX5_say_27 rfl (lv_at hl 2 rfl) ?_
      obtain ⟨r28, hc, h⟩ := bd1_some h
      have hPc : va_P D vwCl (wPa T (ad 6) (ad 7) (ad 8) (ad 9) (ad 10) (ad 11) psize pclause peff pkin pgri psig psee) _ := my_subP sb_wPW_wPa_6to11 hP
      refine my_rol (va_Run.run (va_runVN (host := "PartyWill") (As := [.long cnow, .int x1]) (rest := [.ref (ad 18)]) hFix (kX2_afterName l D T F (ad 6) (ad 7) (ad 8) (ad 9) (ad 10) (ad 11) psize pclause peff pkin pgri psig psee cnow x1 r28 hc) ⟨va_cnB 2 hts gX5_say_X2_afterName_n172 rfl rfl rfl (nw_X5_172 hKK.2) q16 hd_X2_afterName ⟨Nat.le_of_ble_eq_true rfl, Nat.le_of_ble_eq_true rfl⟩, q15, q17⟩ (preV_ro hPc hKK (va_recv hK hP (ci := 1) (q0 := 6) rfl wPW_6)) rfl rfl hl.1 rfl (lv_room (Nat.le_of_ble_eq_true rfl)) dX5_say_28 ⟨Nat.zero_le _, Nat.zero_le _⟩)) ?_
      obtain ⟨w31_cdee, w31_cnow, w31_cahe, hc, h⟩ := bd3_some h
      have hPc : va_P D vwCl (wCo T (ad 18) (ad 19) cdee cnow cahe) _ := my_subP sb_wPW_wCo_18_19 hP
      have hDc := hD.sub [18, 19] (by decide) sb_wPW_wCo_18_19
      have hFc := va_free hD hS hA [18, 19] sb_wPW_wCo_18_19
      refine my_rwv (va_runVN (host := "PartyWill") (As := [.long r28]) (rest := []) hFix (kX0_goOn l D T F (ad 18) (ad 19) cdee cnow cahe r28 w31_cdee w31_cnow w31_cahe hc _) ⟨va_cnB 1 hts gX5_say_X0_goOn_n166 rfl rfl rfl (nw_X5_166 hKK.2) q56 hd_X0_goOn ⟨Nat.le_of_ble_eq_true rfl, Nat.le_of_ble_eq_true rfl⟩, q55, q57⟩ (preV_rw hPc hKK hDc (va_recv hK hP (ci := 0) (q0 := 18) rfl wPW_18)) rfl rfl hl.1 rfl (lv_room (Nat.le_of_ble_eq_true rfl)) dX5_say_31 ⟨Nat.zero_le _, Nat.zero_le _⟩) hS hFc (fun H1 locs hP1 hD1 hz1 hkk hS => ?_)
      obtain ⟨hP, hD⟩ := my_joinS hP hD (by decide) sb_wPW_wCo_18_19 (by rfl) hkk hFc hP1 hD1
      rw [st_wPW_wCo_18_19_goOn] at hP hD
      generalize H1 = H at hP hS ⊢
      refine lv_aload_n hx hb dX5_say_34 rfl (lv_at hl 1 rfl) ?_
      refine va_get (D := D) (ci := 3) (C := RX5) (T := TX5) (N := 14) hx hb hts iX5 hown hK hP 0 wPW_0 rfl 7 (by decide) q1 (fun _ h9 => h9) rfl dX5_say_35 ?_
      refine va_getN (host := "PartyWill") (D := D) (ci := 0) (C := RX0) (T := TX0) (N := 3) hx hb hts iX0 hown hK hP 18 wPW_18 rfl 1 (by decide) (va_Nw.use rfl (nw_X5_127 hKK.2)) (fun _ h9 => h9) rfl dX5_say_38 ?_
      refine lv_iload_n hx hb dX5_say_41 rfl (lv_at hl 2 rfl) ?_
      obtain ⟨r42, hc, h⟩ := bd1_some h
      refine my_roi (va_Run.run (va_runSN (host := "PartyWill") (As := [.long w31_cnow, .int x1]) (rest := []) hFix (kX1_griefOf l D T F w31_cnow x1 r42 hc) ⟨va_cnB 2 hts gX5_say_X1_griefOf_n175 rfl rfl rfl (nw_X5_175 hKK.2) q13 hd_X1_griefOf ⟨Nat.le_of_ble_eq_true rfl, Nat.le_of_ble_eq_true rfl⟩, q20, trivial⟩ (preS_ro va_nil hKK) rfl rfl hl.1 rfl (lv_room (Nat.le_of_ble_eq_true rfl)) dX5_say_42 ⟨Nat.zero_le _, Nat.zero_le _⟩)) ?_
      cases h
      exact hret _ _ _ _ hP hD hS dX5_say_45
    · have h := br_0 h c7
      refine lv_iload_n hx hb dX5_say_10 rfl (lv_at hl 0 rfl) ?_
      cases h
      exact hret _ _ _ _ hP hD hS dX5_say_11
  exact key _ (fun H locs pc ls hP hD hS hd => W.iret hx hb hr (fun t ht hW => ⟨⟨_, (), rfl, rfl, by show _ ∧ _; rw [ht]; exact ⟨hP, hD⟩⟩, hS.F ht⟩) hS.2.2 hd)
set_option maxHeartbeats 4000000 in
set_option maxRecDepth 100000 in
theorem kX5_ice (l : Launch) (D : va_G) (T : Nat → ClassId) (F : Nat) (ad : Nat → Nat) (rs : Nat → Int32) (rm : Nat → Nat → Int32) (ts : Nat → Int32) (tm : Nat → Nat → Int32) (rdue : Int32) (rtun : Int32) (rsee : Int32) (rbeg : Int32) (psize : Int32) (pclause : Int32) (peff : Nat → Int32) (pkin : Nat → Int32) (pgri : Nat → Int32) (psig : Nat → Int32) (psee : Nat → Int32) (qsize : Int32) (qclause : Int32) (qeff : Nat → Int32) (qkin : Nat → Int32) (qgri : Nat → Int32) (qsig : Nat → Int32) (qsee : Nat → Int32) (cdee : Int32) (cnow : Int64) (cahe : Nat → Int64) (kdee : Nat → Int32) (know : Nat → Int64) (kahe : Nat → Nat → Int64) (fc : Nat → Int32) (lf : Int32) (told : Int32) (up : Int64) (lo : Int64) (x1 : Int32) (r : Int32) (zcdee : Int32) (zcnow : Int64) (zcahe : Nat → Int64) (h : fX5_ice F psize pclause pkin psee cdee cnow cahe x1 = some (r, zcdee, zcnow, zcahe)) : ∀ sz : Nat, Met l yX5_ice wsX5_ice ({ frames := 4, cells := 0, slots := 0, locals := 96 } : Room) (va_Pc [.ref (ad 0), .int x1] (fun U => U.heap.size = sz ∧ va_P D vwCl (wPW T ad (ad 6) (ad 12) rs rm ts tm rdue rtun rsee rbeg psize pclause peff pkin pgri psig psee qsize qclause qeff qkin qgri qsig qsee cdee cnow cahe kdee know kahe fc lf told up lo) U.heap ∧ KK D T U ∧ va_D (fun _ => True) (wPW T ad (ad 6) (ad 12) rs rm ts tm rdue rtun rsee rbeg psize pclause peff pkin pgri psig psee qsize qclause qeff qkin qgri qsig qsee cdee cnow cahe kdee know kahe fc lf told up lo))) (va_Qi (fun r' (_ : Unit) => r' = r) (fun _ t => va_P D vwCl (wPW T ad (ad 6) (ad 12) rs rm ts tm rdue rtun rsee rbeg psize pclause peff pkin pgri psig psee qsize qclause qeff qkin qgri qsig qsee zcdee zcnow zcahe kdee know kahe fc lf told up lo) t.heap ∧ va_D (va_A (wPW T ad (ad 6) (ad 12) rs rm ts tm rdue rtun rsee rbeg psize pclause peff pkin pgri psig psee qsize qclause qeff qkin qgri qsig qsee cdee cnow cahe kdee know kahe fc lf told up lo) sz) (wPW T ad (ad 6) (ad 12) rs rm ts tm rdue rtun rsee rbeg psize pclause peff pkin pgri psig psee qsize qclause qeff qkin qgri qsig qsee zcdee zcnow zcahe kdee know kahe fc lf told up lo)) (va_A (wPW T ad (ad 6) (ad 12) rs rm ts tm rdue rtun rsee rbeg psize pclause peff pkin pgri psig psee qsize qclause qeff qkin qgri qsig qsee cdee cnow cahe kdee know kahe fc lf told up lo) sz)) 0 0 (va_A (wPW T ad (ad 6) (ad 12) rs rm ts tm rdue rtun rsee rbeg psize pclause peff pkin pgri psig psee qsize qclause qeff qkin qgri qsig qsee cdee cnow cahe kdee know kahe fc lf told up lo) sz) := by
  intro sz
  refine Met.ofW (cc := cX5_ice) (maxL := 3) (ret := some .int) (by decide) rfl ?_
  intro p e s m args below meth c s₁ B hml hv
  obtain ⟨ha, hsz, hP, hKK, hD0⟩ := hv
  have hx := B.exec
  have hb := B.bytes
  have hr := B.returns
  have hts := atoms_spec (ws := wsX5_ice) B.pre
  have hown : s.vm.findClass RX5 = some m.cls := findClass_of_methodNamed B.named
  have hlocks := B.notSynchronized
  have hK := hKK.1
  have hFix : CallFix p m c cX5_ice 3 s args wsX5_ice RX5 := ⟨hx, hb, hml, hown, hts⟩
  have q1 := hts _ (List.mem_of_getElem? (i := 1) (show wsX5_ice[1]? = some (Cond.fieldLink RX5 46 "PartyWill" "course" "LPartyWill$Course;") from rfl))
  have q2 := hts _ (List.mem_of_getElem? (i := 2) (show wsX5_ice[2]? = some (Cond.fieldLink RX5 36 "PartyWill" "party" "LPartyWill$Party;") from rfl))
  have q13 := hts _ (List.mem_of_getElem? (i := 13) (show wsX5_ice[13]? = some (Cond.initialized RX1) from rfl))
  have q15 := hts _ (List.mem_of_getElem? (i := 15) (show wsX5_ice[15]? = some (Cond.instanceMethod yX2_afterIce) from rfl))
  have q16 := hts _ (List.mem_of_getElem? (i := 16) (show wsX5_ice[16]? = some (Cond.initialized RX2) from rfl))
  have q17 := hts _ (List.mem_of_getElem? (i := 17) (show wsX5_ice[17]? = some (Cond.selects RX2 yX2_afterIce yX2_afterIce) from rfl))
  have q19 := hts _ (List.mem_of_getElem? (i := 19) (show wsX5_ice[19]? = some (Cond.static yX1_griefOf) from rfl))
  have q52 := hts _ (List.mem_of_getElem? (i := 52) (show wsX5_ice[52]? = some (Cond.instanceMethod yX0_goOn) from rfl))
  have q53 := hts _ (List.mem_of_getElem? (i := 53) (show wsX5_ice[53]? = some (Cond.initialized RX0) from rfl))
  have q54 := hts _ (List.mem_of_getElem? (i := 54) (show wsX5_ice[54]? = some (Cond.selects RX0 yX0_goOn yX0_goOn) from rfl))
  have iX0 : ∀ w ∈ u_ws RX0 TX0 3, w ∈ wsX5_ice := fun w h => List.mem_cons_of_mem _ (List.mem_append_left _ (List.mem_append_right _ (h)))
  have iX5 : ∀ w ∈ u_ws RX5 TX5 14, w ∈ wsX5_ice := fun w h => List.mem_cons_of_mem _ (List.mem_append_left _ (List.mem_append_left _ (List.mem_append_right _ (h))))
  subst hsz
  have hD := hD0.self (sz := s.heap.size)
  generalize hAe : va_A (wPW T ad (ad 6) (ad 12) rs rm ts tm rdue rtun rsee rbeg psize pclause peff pkin pgri psig psee qsize qclause qeff qkin qgri qsig qsee cdee cnow cahe kdee know kahe fc lf told up lo) s.heap.size = A at hD ⊢
  have hA : ∀ q : Nat, s.heap.size ≤ q → A q := fun q h => by rw [← hAe]; exact Or.inr h
  have hS : va_S A s.heap s.heap [] := va_S.rf
  have hP : va_P D vwCl (wPW T ad (ad 6) (ad 12) rs rm ts tm rdue rtun rsee rbeg psize pclause peff pkin pgri psig psee qsize qclause qeff qkin qgri qsig qsee cdee cnow cahe kdee know kahe fc lf told up lo) s.heap := hP
  obtain ⟨ls, hl, e0⟩ := my_entry (m := m) (n := 3) ha (Nat.le_of_ble_eq_true rfl)
  rw [e0]
  have hl : lv_has ls 3 [(0, .ref (ad 0)), (1, .int x1)] := hl
  have key : ∀ Q : State → Prop, (∀ (H : Heap) (locs : List Loc) (pc : Nat) (ls : Array Slot), va_P D vwCl (wPW T ad (ad 6) (ad 12) rs rm ts tm rdue rtun rsee rbeg psize pclause peff pkin pgri psig psee qsize qclause qeff qkin qgri qsig qsee zcdee zcnow zcahe kdee know kahe fc lf told up lo) H → va_D A (wPW T ad (ad 6) (ad 12) rs rm ts tm rdue rtun rsee rbeg psize pclause peff pkin pgri psig psee qsize qclause qeff qkin qgri qsig qsee zcdee zcnow zcahe kdee know kahe fc lf told up lo) → va_S A s.heap H locs → decode cX5_ice pc = .ok (.ireturn, 1) → W p l e ({ frames := 4, cells := 0, slots := 0, locals := 96 } : Room) s m args below meth c H locs 0 0 Q (F0 m pc ls [.int r])) → W p l e ({ frames := 4, cells := 0, slots := 0, locals := 96 } : Room) s m args below meth c s.heap [] 0 0 Q (F0 m 0 ls []) := by
    intro Q hret
    skip
    unfold fX5_ice at h
    refine lv_aload_n hx hb dX5_ice_0 rfl (lv_at hl 0 rfl) ?_
    refine lv_iload_n hx hb dX5_ice_1 rfl (lv_at hl 1 rfl) ?_
    obtain ⟨r2, hc, h⟩ := bd1_some h
    refine my_roi (va_Run.run (va_runV (As := [.int x1]) (rest := []) hFix (kX5_deedRefusal l D T F ad rs rm ts tm rdue rtun rsee rbeg psize pclause peff pkin pgri psig psee qsize qclause qeff qkin qgri qsig qsee cdee cnow cahe kdee know kahe fc lf told up lo x1 r2 hc) (cwV 1 hts gX5_ice_X5_deedRefusal rfl rfl rfl ⟨rfl, hd_X5_deedRefusal⟩ ⟨Nat.le_of_ble_eq_true rfl, Nat.le_of_ble_eq_true rfl⟩) (preV_ro hP hKK (va_recv hK hP (ci := 3) (q0 := 0) rfl wPW_0)) rfl rfl hl.1 rfl (lv_room (Nat.le_of_ble_eq_true rfl)) dX5_ice_2 ⟨Nat.zero_le _, Nat.zero_le _⟩)) ?_
    refine lv_istore_n (lv' := [(2, .int r2), (0, .ref (ad 0)), (1, .int x1)]) hx hb dX5_ice_5 rfl hl (by decide) rfl (fun ls hl => ?_)
    refine lv_iload_n hx hb dX5_ice_6 rfl (lv_at hl 0 rfl) ?_
    refine lv_if_eq (tgt := 12) hx hb dX5_ice_7 (by decide) (fun c7 => ?_) (fun c7 => ?_)
    · have h := br_1 h c7
      refine lv_aload_n hx hb dX5_ice_12 rfl (lv_at hl 1 rfl) ?_
      refine va_get (D := D) (ci := 3) (C := RX5) (T := TX5) (N := 14) hx hb hts iX5 hown hK hP 0 wPW_0 rfl 7 (by decide) q1 (fun _ h9 => h9) rfl dX5_ice_13 ?_
      refine lv_aload_n hx hb dX5_ice_16 rfl (lv_at hl 1 rfl) ?_
      refine va_get (D := D) (ci := 3) (C := RX5) (T := TX5) (N := 14) hx hb hts iX5 hown hK hP 0 wPW_0 rfl 5 (by decide) q2 (fun _ h9 => h9) rfl dX5_ice_17 ?_
      refine lv_aload_n hx hb dX5_ice_20 rfl (lv_at hl 1 rfl) ?_
      refine va_get (D := D) (ci := 3) (C := RX5) (T := TX5) (N := 14) hx hb hts iX5 hown hK hP 0 wPW_0 rfl 7 (by decide) q1 (fun _ h9 => h9) rfl dX5_ice_21 ?_
      refine va_getN (host := "PartyWill") (D := D) (ci := 0) (C := RX0) (T := TX0) (N := 3) hx hb hts iX0 hown hK hP 18 wPW_18 rfl 1 (by decide) (va_Nw.use rfl (nw_X5_127 hKK.2)) (fun _ h9 => h9) rfl dX5_ice_24 ?_
      refine lv_iload_n hx hb dX5_ice_27 rfl (lv_at hl 2 rfl) ?_
      obtain ⟨r28, hc, h⟩ := bd1_some h
      have hPc : va_P D vwCl (wPa T (ad 6) (ad 7) (ad 8) (ad 9) (ad 10) (ad 11) psize pclause peff pkin pgri psig psee) _ := my_subP sb_wPW_wPa_6to11 hP
      refine my_rol (va_Run.run (va_runVN (host := "PartyWill") (As := [.long cnow, .int x1]) (rest := [.ref (ad 18)]) hFix (kX2_afterIce l D T F (ad 6) (ad 7) (ad 8) (ad 9) (ad 10) (ad 11) psize pclause peff pkin pgri psig psee cnow x1 r28 hc) ⟨va_cnB 2 hts gX5_ice_X2_afterIce_n178 rfl rfl rfl (nw_X5_178 hKK.2) q16 hd_X2_afterIce ⟨Nat.le_of_ble_eq_true rfl, Nat.le_of_ble_eq_true rfl⟩, q15, q17⟩ (preV_ro hPc hKK (va_recv hK hP (ci := 1) (q0 := 6) rfl wPW_6)) rfl rfl hl.1 rfl (lv_room (Nat.le_of_ble_eq_true rfl)) dX5_ice_28 ⟨Nat.zero_le _, Nat.zero_le _⟩)) ?_
      obtain ⟨w31_cdee, w31_cnow, w31_cahe, hc, h⟩ := bd3_some h
      have hPc : va_P D vwCl (wCo T (ad 18) (ad 19) cdee cnow cahe) _ := my_subP sb_wPW_wCo_18_19 hP
      have hDc := hD.sub [18, 19] (by decide) sb_wPW_wCo_18_19
      have hFc := va_free hD hS hA [18, 19] sb_wPW_wCo_18_19
      refine my_rwv (va_runVN (host := "PartyWill") (As := [.long r28]) (rest := []) hFix (kX0_goOn l D T F (ad 18) (ad 19) cdee cnow cahe r28 w31_cdee w31_cnow w31_cahe hc _) ⟨va_cnB 1 hts gX5_ice_X0_goOn_n166 rfl rfl rfl (nw_X5_166 hKK.2) q53 hd_X0_goOn ⟨Nat.le_of_ble_eq_true rfl, Nat.le_of_ble_eq_true rfl⟩, q52, q54⟩ (preV_rw hPc hKK hDc (va_recv hK hP (ci := 0) (q0 := 18) rfl wPW_18)) rfl rfl hl.1 rfl (lv_room (Nat.le_of_ble_eq_true rfl)) dX5_ice_31 ⟨Nat.zero_le _, Nat.zero_le _⟩) hS hFc (fun H1 locs hP1 hD1 hz1 hkk hS => ?_)
      obtain ⟨hP, hD⟩ := my_joinS hP hD (by decide) sb_wPW_wCo_18_19 (by rfl) hkk hFc hP1 hD1
      rw [st_wPW_wCo_18_19_goOn] at hP hD
      generalize H1 = H at hP hS ⊢
      refine lv_aload_n hx hb dX5_ice_34 rfl (lv_at hl 1 rfl) ?_
      refine va_get (D := D) (ci := 3) (C := RX5) (T := TX5) (N := 14) hx hb hts iX5 hown hK hP 0 wPW_0 rfl 7 (by decide) q1 (fun _ h9 => h9) rfl dX5_ice_35 ?_
      refine va_getN (host := "PartyWill") (D := D) (ci := 0) (C := RX0) (T := TX0) (N := 3) hx hb hts iX0 hown hK hP 18 wPW_18 rfl 1 (by decide) (va_Nw.use rfl (nw_X5_127 hKK.2)) (fun _ h9 => h9) rfl dX5_ice_38 ?_
      refine lv_iload_n hx hb dX5_ice_41 rfl (lv_at hl 2 rfl) ?_
      obtain ⟨r42, hc, h⟩ := bd1_some h
      refine my_roi (va_Run.run (va_runSN (host := "PartyWill") (As := [.long w31_cnow, .int x1]) (rest := []) hFix (kX1_griefOf l D T F w31_cnow x1 r42 hc) ⟨va_cnB 2 hts gX5_ice_X1_griefOf_n175 rfl rfl rfl (nw_X5_175 hKK.2) q13 hd_X1_griefOf ⟨Nat.le_of_ble_eq_true rfl, Nat.le_of_ble_eq_true rfl⟩, q19, trivial⟩ (preS_ro va_nil hKK) rfl rfl hl.1 rfl (lv_room (Nat.le_of_ble_eq_true rfl)) dX5_ice_42 ⟨Nat.zero_le _, Nat.zero_le _⟩)) ?_
      cases h
      exact hret _ _ _ _ hP hD hS dX5_ice_45
    · have h := br_0 h c7
      refine lv_iload_n hx hb dX5_ice_10 rfl (lv_at hl 0 rfl) ?_
      cases h
      exact hret _ _ _ _ hP hD hS dX5_ice_11
  exact key _ (fun H locs pc ls hP hD hS hd => W.iret hx hb hr (fun t ht hW => ⟨⟨_, (), rfl, rfl, by show _ ∧ _; rw [ht]; exact ⟨hP, hD⟩⟩, hS.F ht⟩) hS.2.2 hd)
set_option maxHeartbeats 4000000 in
set_option maxRecDepth 100000 in
theorem kX5_undo (l : Launch) (D : va_G) (T : Nat → ClassId) (F : Nat) (ad : Nat → Nat) (rs : Nat → Int32) (rm : Nat → Nat → Int32) (ts : Nat → Int32) (tm : Nat → Nat → Int32) (rdue : Int32) (rtun : Int32) (rsee : Int32) (rbeg : Int32) (psize : Int32) (pclause : Int32) (peff : Nat → Int32) (pkin : Nat → Int32) (pgri : Nat → Int32) (psig : Nat → Int32) (psee : Nat → Int32) (qsize : Int32) (qclause : Int32) (qeff : Nat → Int32) (qkin : Nat → Int32) (qgri : Nat → Int32) (qsig : Nat → Int32) (qsee : Nat → Int32) (cdee : Int32) (cnow : Int64) (cahe : Nat → Int64) (kdee : Nat → Int32) (know : Nat → Int64) (kahe : Nat → Nat → Int64) (fc : Nat → Int32) (lf : Int32) (told : Int32) (up : Int64) (lo : Int64) (x1 : Int32) (r : Int32) (zcdee : Int32) (zcnow : Int64) (h : fX5_undo F cdee cnow cahe x1 = some (r, zcdee, zcnow)) : ∀ sz : Nat, Met l yX5_undo wsX5_undo ({ frames := 1, cells := 0, slots := 0, locals := 21 } : Room) (va_Pc [.ref (ad 0), .int x1] (fun U => U.heap.size = sz ∧ va_P D vwCl (wPW T ad (ad 6) (ad 12) rs rm ts tm rdue rtun rsee rbeg psize pclause peff pkin pgri psig psee qsize qclause qeff qkin qgri qsig qsee cdee cnow cahe kdee know kahe fc lf told up lo) U.heap ∧ KK D T U ∧ va_D (fun _ => True) (wPW T ad (ad 6) (ad 12) rs rm ts tm rdue rtun rsee rbeg psize pclause peff pkin pgri psig psee qsize qclause qeff qkin qgri qsig qsee cdee cnow cahe kdee know kahe fc lf told up lo))) (va_Qi (fun r' (_ : Unit) => r' = r) (fun _ t => va_P D vwCl (wPW T ad (ad 6) (ad 12) rs rm ts tm rdue rtun rsee rbeg psize pclause peff pkin pgri psig psee qsize qclause qeff qkin qgri qsig qsee zcdee zcnow cahe kdee know kahe fc lf told up lo) t.heap ∧ va_D (va_A (wPW T ad (ad 6) (ad 12) rs rm ts tm rdue rtun rsee rbeg psize pclause peff pkin pgri psig psee qsize qclause qeff qkin qgri qsig qsee cdee cnow cahe kdee know kahe fc lf told up lo) sz) (wPW T ad (ad 6) (ad 12) rs rm ts tm rdue rtun rsee rbeg psize pclause peff pkin pgri psig psee qsize qclause qeff qkin qgri qsig qsee zcdee zcnow cahe kdee know kahe fc lf told up lo)) (va_A (wPW T ad (ad 6) (ad 12) rs rm ts tm rdue rtun rsee rbeg psize pclause peff pkin pgri psig psee qsize qclause qeff qkin qgri qsig qsee cdee cnow cahe kdee know kahe fc lf told up lo) sz)) 0 0 (va_A (wPW T ad (ad 6) (ad 12) rs rm ts tm rdue rtun rsee rbeg psize pclause peff pkin pgri psig psee qsize qclause qeff qkin qgri qsig qsee cdee cnow cahe kdee know kahe fc lf told up lo) sz) := by
  intro sz
  refine Met.ofW (cc := cX5_undo) (maxL := 3) (ret := some .int) (by decide) rfl ?_
  intro p e s m args below meth c s₁ B hml hv
  obtain ⟨ha, hsz, hP, hKK, hD0⟩ := hv
  have hx := B.exec
  have hb := B.bytes
  have hr := B.returns
  have hts := atoms_spec (ws := wsX5_undo) B.pre
  have hown : s.vm.findClass RX5 = some m.cls := findClass_of_methodNamed B.named
  have hlocks := B.notSynchronized
  have hK := hKK.1
  have hFix : CallFix p m c cX5_undo 3 s args wsX5_undo RX5 := ⟨hx, hb, hml, hown, hts⟩
  have q1 := hts _ (List.mem_of_getElem? (i := 1) (show wsX5_undo[1]? = some (Cond.fieldLink RX5 46 "PartyWill" "course" "LPartyWill$Course;") from rfl))
  have q2 := hts _ (List.mem_of_getElem? (i := 2) (show wsX5_undo[2]? = some (Cond.instanceMethod yX0_goBackTo) from rfl))
  have q3 := hts _ (List.mem_of_getElem? (i := 3) (show wsX5_undo[3]? = some (Cond.initialized RX0) from rfl))
  have q4 := hts _ (List.mem_of_getElem? (i := 4) (show wsX5_undo[4]? = some (Cond.selects RX0 yX0_goBackTo yX0_goBackTo) from rfl))
  have iX0 : ∀ w ∈ u_ws RX0 TX0 3, w ∈ wsX5_undo := fun w h => List.mem_cons_of_mem _ (List.mem_append_right _ (h))
  have iX5 : ∀ w ∈ u_ws RX5 TX5 14, w ∈ wsX5_undo := fun w h => List.mem_cons_of_mem _ (List.mem_append_left _ (List.mem_append_right _ (h)))
  subst hsz
  have hD := hD0.self (sz := s.heap.size)
  generalize hAe : va_A (wPW T ad (ad 6) (ad 12) rs rm ts tm rdue rtun rsee rbeg psize pclause peff pkin pgri psig psee qsize qclause qeff qkin qgri qsig qsee cdee cnow cahe kdee know kahe fc lf told up lo) s.heap.size = A at hD ⊢
  have hA : ∀ q : Nat, s.heap.size ≤ q → A q := fun q h => by rw [← hAe]; exact Or.inr h
  have hS : va_S A s.heap s.heap [] := va_S.rf
  have hP : va_P D vwCl (wPW T ad (ad 6) (ad 12) rs rm ts tm rdue rtun rsee rbeg psize pclause peff pkin pgri psig psee qsize qclause qeff qkin qgri qsig qsee cdee cnow cahe kdee know kahe fc lf told up lo) s.heap := hP
  obtain ⟨ls, hl, e0⟩ := my_entry (m := m) (n := 3) ha (Nat.le_of_ble_eq_true rfl)
  rw [e0]
  have hl : lv_has ls 3 [(0, .ref (ad 0)), (1, .int x1)] := hl
  have key : ∀ Q : State → Prop, (∀ (H : Heap) (locs : List Loc) (pc : Nat) (ls : Array Slot), va_P D vwCl (wPW T ad (ad 6) (ad 12) rs rm ts tm rdue rtun rsee rbeg psize pclause peff pkin pgri psig psee qsize qclause qeff qkin qgri qsig qsee zcdee zcnow cahe kdee know kahe fc lf told up lo) H → va_D A (wPW T ad (ad 6) (ad 12) rs rm ts tm rdue rtun rsee rbeg psize pclause peff pkin pgri psig psee qsize qclause qeff qkin qgri qsig qsee zcdee zcnow cahe kdee know kahe fc lf told up lo) → va_S A s.heap H locs → decode cX5_undo pc = .ok (.ireturn, 1) → W p l e ({ frames := 1, cells := 0, slots := 0, locals := 21 } : Room) s m args below meth c H locs 0 0 Q (F0 m pc ls [.int r])) → W p l e ({ frames := 1, cells := 0, slots := 0, locals := 21 } : Room) s m args below meth c s.heap [] 0 0 Q (F0 m 0 ls []) := by
    intro Q hret
    skip
    unfold fX5_undo at h
    refine lv_iload_n hx hb dX5_undo_0 rfl (lv_at hl 1 rfl) ?_
    refine lv_if_lt (tgt := 15) hx hb dX5_undo_1 (by decide) (fun c1 => ?_) (fun c1 => ?_)
    · have h := br_1 h c1
      refine lv_iconst (v := (-1 : Int32)) hx hb dX5_undo_15 (by decide) ?_
      cases h
      exact hret _ _ _ _ hP hD hS dX5_undo_16
    · have h := br_0 h c1
      refine lv_iload_n hx hb dX5_undo_4 rfl (lv_at hl 1 rfl) ?_
      refine lv_aload_n hx hb dX5_undo_5 rfl (lv_at hl 0 rfl) ?_
      refine va_get (D := D) (ci := 3) (C := RX5) (T := TX5) (N := 14) hx hb hts iX5 hown hK hP 0 wPW_0 rfl 7 (by decide) q1 (fun _ h9 => h9) rfl dX5_undo_6 ?_
      refine va_getN (host := "PartyWill") (D := D) (ci := 0) (C := RX0) (T := TX0) (N := 3) hx hb hts iX0 hown hK hP 18 wPW_18 rfl 0 (by decide) (va_Nw.use rfl (nw_X5_71 hKK.2)) (fun _ h9 => h9) rfl dX5_undo_9 ?_
      refine lv_icmp_le (tgt := 17) hx hb dX5_undo_12 (by decide) (fun c12 => ?_) (fun c12 => ?_)
      · have h := br_1 h c12
        refine lv_aload_n hx hb dX5_undo_17 rfl (lv_at hl 0 rfl) ?_
        refine va_get (D := D) (ci := 3) (C := RX5) (T := TX5) (N := 14) hx hb hts iX5 hown hK hP 0 wPW_0 rfl 7 (by decide) q1 (fun _ h9 => h9) rfl dX5_undo_18 ?_
        refine va_getN (host := "PartyWill") (D := D) (ci := 0) (C := RX0) (T := TX0) (N := 3) hx hb hts iX0 hown hK hP 18 wPW_18 rfl 0 (by decide) (va_Nw.use rfl (nw_X5_71 hKK.2)) (fun _ h9 => h9) rfl dX5_undo_21 ?_
        refine lv_iload_n hx hb dX5_undo_24 rfl (lv_at hl 1 rfl) ?_
        refine lv_isub hx hb dX5_undo_25 ?_
        refine lv_istore_n (lv' := [(2, .int (cdee - x1)), (0, .ref (ad 0)), (1, .int x1)]) hx hb dX5_undo_26 rfl hl (by decide) rfl (fun ls hl => ?_)
        refine lv_aload_n hx hb dX5_undo_27 rfl (lv_at hl 1 rfl) ?_
        refine va_get (D := D) (ci := 3) (C := RX5) (T := TX5) (N := 14) hx hb hts iX5 hown hK hP 0 wPW_0 rfl 7 (by decide) q1 (fun _ h9 => h9) rfl dX5_undo_28 ?_
        refine lv_iload_n hx hb dX5_undo_31 rfl (lv_at hl 2 rfl) ?_
        obtain ⟨w32_cdee, w32_cnow, hc, h⟩ := bd2_some h
        have hPc : va_P D vwCl (wCo T (ad 18) (ad 19) cdee cnow cahe) _ := my_subP sb_wPW_wCo_18_19 hP
        have hDc := hD.sub [18, 19] (by decide) sb_wPW_wCo_18_19
        have hFc := va_free hD hS hA [18, 19] sb_wPW_wCo_18_19
        refine my_rwv (va_runVN (host := "PartyWill") (As := [.int x1]) (rest := []) hFix (kX0_goBackTo l D T F (ad 18) (ad 19) cdee cnow cahe x1 w32_cdee w32_cnow hc _) ⟨va_cnB 1 hts gX5_undo_X0_goBackTo_n181 rfl rfl rfl (nw_X5_181 hKK.2) q3 hd_X0_goBackTo ⟨Nat.le_of_ble_eq_true rfl, Nat.le_of_ble_eq_true rfl⟩, q2, q4⟩ (preV_rw hPc hKK hDc (va_recv hK hP (ci := 0) (q0 := 18) rfl wPW_18)) rfl rfl hl.1 rfl (lv_room (Nat.le_of_ble_eq_true rfl)) dX5_undo_32 ⟨Nat.zero_le _, Nat.zero_le _⟩) hS hFc (fun H1 locs hP1 hD1 hz1 hkk hS => ?_)
        obtain ⟨hP, hD⟩ := my_joinS hP hD (by decide) sb_wPW_wCo_18_19 (by rfl) hkk hFc hP1 hD1
        rw [st_wPW_wCo_18_19_goBackTo] at hP hD
        generalize H1 = H at hP hS ⊢
        refine lv_iload_n hx hb dX5_undo_35 rfl (lv_at hl 0 rfl) ?_
        cases h
        exact hret _ _ _ _ hP hD hS dX5_undo_36
      · have h := br_0 h c12
        refine lv_iconst (v := (-1 : Int32)) hx hb dX5_undo_15 (by decide) ?_
        cases h
        exact hret _ _ _ _ hP hD hS dX5_undo_16
  exact key _ (fun H locs pc ls hP hD hS hd => W.iret hx hb hr (fun t ht hW => ⟨⟨_, (), rfl, rfl, by show _ ∧ _; rw [ht]; exact ⟨hP, hD⟩⟩, hS.F ht⟩) hS.2.2 hd)
set_option maxHeartbeats 4000000 in
set_option maxRecDepth 100000 in
theorem kX5_isKeepingPlace (l : Launch) (D : va_G) (T : Nat → ClassId) (F : Nat) (x0 : Int32) (r : Int32) (h : fX5_isKeepingPlace F x0 = some (r)) : Met l yX5_isKeepingPlace wsX5_isKeepingPlace ({ frames := 0, cells := 0, slots := 0, locals := 0 } : Room) (va_Pc [.int x0] (fun U => va_P D vwCl ([] : va_W) U.heap ∧ KK D T U)) (vp_Si (fun r' => r' = r ∧ b01 r)) 0 0 (fun _ => False) := by
  refine Met.ofW (cc := cX5_isKeepingPlace) (maxL := 1) (ret := some .boolean) (by decide) rfl ?_
  intro p e s m args below meth c s₁ B hml hv
  obtain ⟨ha, hP, hKK⟩ := hv
  have hx := B.exec
  have hb := B.bytes
  have hr := B.returns
  have hts := atoms_spec (ws := wsX5_isKeepingPlace) B.pre
  have hown : s.vm.findClass RX5 = some m.cls := findClass_of_methodNamed B.named
  have hlocks := B.notSynchronized
  have hK := hKK.1
  have hFix : CallFix p m c cX5_isKeepingPlace 1 s args wsX5_isKeepingPlace RX5 := ⟨hx, hb, hml, hown, hts⟩
  obtain ⟨ls, hl, e0⟩ := my_entry (m := m) (n := 1) ha (Nat.le_of_ble_eq_true rfl)
  rw [e0]
  have hl : lv_has ls 1 [(0, .int x0)] := hl
  have key : ∀ Q : State → Prop, (∀ (pc : Nat) (ls : Array Slot), decode cX5_isKeepingPlace pc = .ok (.ireturn, 1) → b01 r → W p l e ({ frames := 0, cells := 0, slots := 0, locals := 0 } : Room) s m args below meth c s.heap [] 0 0 Q (F0 m pc ls [.int r])) → W p l e ({ frames := 0, cells := 0, slots := 0, locals := 0 } : Room) s m args below meth c s.heap [] 0 0 Q (F0 m 0 ls []) := by
    intro Q hret
    unfold fX5_isKeepingPlace at h
    refine lv_iload_n hx hb dX5_isKeepingPlace_0 rfl (lv_at hl 0 rfl) ?_
    refine lv_if_lt (tgt := 13) hx hb dX5_isKeepingPlace_1 (by decide) (fun c1 => ?_) (fun c1 => ?_)
    · have h := br_1 h c1
      refine lv_iconst (v := (0 : Int32)) hx hb dX5_isKeepingPlace_13 (by decide) ?_
      cases h
      exact hret _ _ dX5_isKeepingPlace_14 (Or.inl rfl)
    · have h := br_0 h c1
      refine lv_iload_n hx hb dX5_isKeepingPlace_4 rfl (lv_at hl 0 rfl) ?_
      refine lv_iconst (v := (3 : Int32)) hx hb dX5_isKeepingPlace_5 (by decide) ?_
      refine lv_icmp_ge (tgt := 13) hx hb dX5_isKeepingPlace_6 (by decide) (fun c6 => ?_) (fun c6 => ?_)
      · have h := br_1 h c6
        refine lv_iconst (v := (0 : Int32)) hx hb dX5_isKeepingPlace_13 (by decide) ?_
        cases h
        exact hret _ _ dX5_isKeepingPlace_14 (Or.inl rfl)
      · have h := br_0 h c6
        refine lv_iconst (v := (1 : Int32)) hx hb dX5_isKeepingPlace_9 (by decide) ?_
        refine lv_goto (tgt := 14) hx hb dX5_isKeepingPlace_10 (by decide) ?_
        cases h
        exact hret _ _ dX5_isKeepingPlace_14 (Or.inr rfl)
  exact key _ (fun pc ls hd hb1 => W.zret hx hb hr (b01_n hb1) (fun t ht hW => ⟨_, rfl, ⟨rfl, hb1⟩, ht⟩) (fun q h => by cases h) hd)
set_option maxHeartbeats 4000000 in
set_option maxRecDepth 100000 in
theorem kX5_keep (l : Launch) (D : va_G) (T : Nat → ClassId) (F : Nat) (ad : Nat → Nat) (rs : Nat → Int32) (rm : Nat → Nat → Int32) (ts : Nat → Int32) (tm : Nat → Nat → Int32) (rdue : Int32) (rtun : Int32) (rsee : Int32) (rbeg : Int32) (psize : Int32) (pclause : Int32) (peff : Nat → Int32) (pkin : Nat → Int32) (pgri : Nat → Int32) (psig : Nat → Int32) (psee : Nat → Int32) (qsize : Int32) (qclause : Int32) (qeff : Nat → Int32) (qkin : Nat → Int32) (qgri : Nat → Int32) (qsig : Nat → Int32) (qsee : Nat → Int32) (cdee : Int32) (cnow : Int64) (cahe : Nat → Int64) (kdee : Nat → Int32) (know : Nat → Int64) (kahe : Nat → Nat → Int64) (fc : Nat → Int32) (lf : Int32) (told : Int32) (up : Int64) (lo : Int64) (x1 : Int32) (r : Int32) (zkdee : Nat → Int32) (zknow : Nat → Int64) (zkahe : Nat → Nat → Int64) (h : fX5_keep F psize cdee cnow cahe kdee know kahe x1 = some (r, zkdee, zknow, zkahe)) : ∀ sz : Nat, Met l yX5_keep wsX5_keep ({ frames := 2, cells := 0, slots := 0, locals := 81 } : Room) (va_Pc [.ref (ad 0), .int x1] (fun U => U.heap.size = sz ∧ va_P D vwCl (wPW T ad (ad 6) (ad 12) rs rm ts tm rdue rtun rsee rbeg psize pclause peff pkin pgri psig psee qsize qclause qeff qkin qgri qsig qsee cdee cnow cahe kdee know kahe fc lf told up lo) U.heap ∧ KK D T U ∧ va_D (fun _ => True) (wPW T ad (ad 6) (ad 12) rs rm ts tm rdue rtun rsee rbeg psize pclause peff pkin pgri psig psee qsize qclause qeff qkin qgri qsig qsee cdee cnow cahe kdee know kahe fc lf told up lo))) (va_Qi (fun r' (_ : Unit) => r' = r) (fun _ t => va_P D vwCl (wPW T ad (ad 6) (ad 12) rs rm ts tm rdue rtun rsee rbeg psize pclause peff pkin pgri psig psee qsize qclause qeff qkin qgri qsig qsee cdee cnow cahe zkdee zknow zkahe fc lf told up lo) t.heap ∧ va_D (va_A (wPW T ad (ad 6) (ad 12) rs rm ts tm rdue rtun rsee rbeg psize pclause peff pkin pgri psig psee qsize qclause qeff qkin qgri qsig qsee cdee cnow cahe kdee know kahe fc lf told up lo) sz) (wPW T ad (ad 6) (ad 12) rs rm ts tm rdue rtun rsee rbeg psize pclause peff pkin pgri psig psee qsize qclause qeff qkin qgri qsig qsee cdee cnow cahe zkdee zknow zkahe fc lf told up lo)) (va_A (wPW T ad (ad 6) (ad 12) rs rm ts tm rdue rtun rsee rbeg psize pclause peff pkin pgri psig psee qsize qclause qeff qkin qgri qsig qsee cdee cnow cahe kdee know kahe fc lf told up lo) sz)) 0 0 (va_A (wPW T ad (ad 6) (ad 12) rs rm ts tm rdue rtun rsee rbeg psize pclause peff pkin pgri psig psee qsize qclause qeff qkin qgri qsig qsee cdee cnow cahe kdee know kahe fc lf told up lo) sz) := by
  intro sz
  refine Met.ofW (cc := cX5_keep) (maxL := 2) (ret := some .int) (by decide) rfl ?_
  intro p e s m args below meth c s₁ B hml hv
  obtain ⟨ha, hsz, hP, hKK, hD0⟩ := hv
  have hx := B.exec
  have hb := B.bytes
  have hr := B.returns
  have hts := atoms_spec (ws := wsX5_keep) B.pre
  have hown : s.vm.findClass RX5 = some m.cls := findClass_of_methodNamed B.named
  have hlocks := B.notSynchronized
  have hK := hKK.1
  have hFix : CallFix p m c cX5_keep 2 s args wsX5_keep RX5 := ⟨hx, hb, hml, hown, hts⟩
  have q1 := hts _ (List.mem_of_getElem? (i := 1) (show wsX5_keep[1]? = some (Cond.fieldLink RX5 36 "PartyWill" "party" "LPartyWill$Party;") from rfl))
  have q2 := hts _ (List.mem_of_getElem? (i := 2) (show wsX5_keep[2]? = some (Cond.fieldLink RX5 50 "PartyWill" "kept" "[LPartyWill$Course;") from rfl))
  have q3 := hts _ (List.mem_of_getElem? (i := 3) (show wsX5_keep[3]? = some (Cond.fieldLink RX5 46 "PartyWill" "course" "LPartyWill$Course;") from rfl))
  have q8 := hts _ (List.mem_of_getElem? (i := 8) (show wsX5_keep[8]? = some (Cond.instanceMethod yX0_takeAll) from rfl))
  have q9 := hts _ (List.mem_of_getElem? (i := 9) (show wsX5_keep[9]? = some (Cond.initialized RX0) from rfl))
  have q10 := hts _ (List.mem_of_getElem? (i := 10) (show wsX5_keep[10]? = some (Cond.selects RX0 yX0_takeAll yX0_takeAll) from rfl))
  have iX0 : ∀ w ∈ u_ws RX0 TX0 3, w ∈ wsX5_keep := fun w h => List.mem_cons_of_mem _ (List.mem_append_right _ (h))
  have iX2 : ∀ w ∈ u_ws RX2 TX2 7, w ∈ wsX5_keep := fun w h => List.mem_cons_of_mem _ (List.mem_append_left _ (List.mem_append_right _ (h)))
  have iX5 : ∀ w ∈ u_ws RX5 TX5 14, w ∈ wsX5_keep := fun w h => List.mem_cons_of_mem _ (List.mem_append_left _ (List.mem_append_left _ (List.mem_append_right _ (h))))
  subst hsz
  have hD := hD0.self (sz := s.heap.size)
  generalize hAe : va_A (wPW T ad (ad 6) (ad 12) rs rm ts tm rdue rtun rsee rbeg psize pclause peff pkin pgri psig psee qsize qclause qeff qkin qgri qsig qsee cdee cnow cahe kdee know kahe fc lf told up lo) s.heap.size = A at hD ⊢
  have hA : ∀ q : Nat, s.heap.size ≤ q → A q := fun q h => by rw [← hAe]; exact Or.inr h
  have hS : va_S A s.heap s.heap [] := va_S.rf
  have hP : va_P D vwCl (wPW T ad (ad 6) (ad 12) rs rm ts tm rdue rtun rsee rbeg psize pclause peff pkin pgri psig psee qsize qclause qeff qkin qgri qsig qsee cdee cnow cahe kdee know kahe fc lf told up lo) s.heap := hP
  obtain ⟨ls, hl, e0⟩ := my_entry (m := m) (n := 2) ha (Nat.le_of_ble_eq_true rfl)
  rw [e0]
  have hl : lv_has ls 2 [(0, .ref (ad 0)), (1, .int x1)] := hl
  have key : ∀ Q : State → Prop, (∀ (H : Heap) (locs : List Loc) (pc : Nat) (ls : Array Slot), va_P D vwCl (wPW T ad (ad 6) (ad 12) rs rm ts tm rdue rtun rsee rbeg psize pclause peff pkin pgri psig psee qsize qclause qeff qkin qgri qsig qsee cdee cnow cahe zkdee zknow zkahe fc lf told up lo) H → va_D A (wPW T ad (ad 6) (ad 12) rs rm ts tm rdue rtun rsee rbeg psize pclause peff pkin pgri psig psee qsize qclause qeff qkin qgri qsig qsee cdee cnow cahe zkdee zknow zkahe fc lf told up lo) → va_S A s.heap H locs → decode cX5_keep pc = .ok (.ireturn, 1) → W p l e ({ frames := 2, cells := 0, slots := 0, locals := 81 } : Room) s m args below meth c H locs 0 0 Q (F0 m pc ls [.int r])) → W p l e ({ frames := 2, cells := 0, slots := 0, locals := 81 } : Room) s m args below meth c s.heap [] 0 0 Q (F0 m 0 ls []) := by
    intro Q hret
    skip
    unfold fX5_keep at h
    refine lv_iload_n hx hb dX5_keep_0 rfl (lv_at hl 1 rfl) ?_
    obtain ⟨r1, hc, h⟩ := bd1_some h
    refine my_roz (va_Run.run (va_runS (As := [.int x1]) (rest := []) hFix (kX5_isKeepingPlace l D T F x1 r1 hc) (va_cwS 1 hts gX5_keep_X5_isKeepingPlace rfl rfl rfl hd_X5_isKeepingPlace ⟨Nat.le_of_ble_eq_true rfl, Nat.le_of_ble_eq_true rfl⟩) (preS_ro va_nil hKK) rfl rfl hl.1 rfl (lv_room (Nat.le_of_ble_eq_true rfl)) dX5_keep_1 ⟨Nat.zero_le _, Nat.zero_le _⟩)) (fun hb1 => ?_)
    refine lv_if_ne (tgt := 9) hx hb dX5_keep_4 (by decide) (fun c4 => ?_) (fun c4 => ?_)
    · have h := br_0 h c4
      refine lv_aload_n hx hb dX5_keep_9 rfl (lv_at hl 0 rfl) ?_
      refine va_get (D := D) (ci := 3) (C := RX5) (T := TX5) (N := 14) hx hb hts iX5 hown hK hP 0 wPW_0 rfl 5 (by decide) q1 (fun _ h9 => h9) rfl dX5_keep_10 ?_
      refine va_getN (host := "PartyWill") (D := D) (ci := 1) (C := RX2) (T := TX2) (N := 7) hx hb hts iX2 hown hK hP 6 wPW_6 rfl 0 (by decide) (va_Nw.use rfl (nw_X5_111 hKK.2)) (fun _ h9 => h9) rfl dX5_keep_13 ?_
      refine lv_if_ne (tgt := 22) hx hb dX5_keep_16 (by decide) (fun c16 => ?_) (fun c16 => ?_)
      · have h := br_0 h c16
        refine lv_aload_n hx hb dX5_keep_22 rfl (lv_at hl 0 rfl) ?_
        refine va_get (D := D) (ci := 3) (C := RX5) (T := TX5) (N := 14) hx hb hts iX5 hown hK hP 0 wPW_0 rfl 8 (by decide) q2 (fun _ h9 => h9) rfl dX5_keep_23 ?_
        refine lv_iload_n hx hb dX5_keep_26 rfl (lv_at hl 1 rfl) ?_
        obtain ⟨hin2, h⟩ := ck_some h
        have hk1 : x1.toNatClampNeg < 3 := vp_lt hin2
        refine my_ald (b := (ad (21 + 2 * x1.toNatClampNeg))) rfl hx hb hK hP 20 6 wPW_20 rfl hin2 (fun _ => if_pos hk1) dX5_keep_27 ?_
        refine lv_aload_n hx hb dX5_keep_28 rfl (lv_at hl 0 rfl) ?_
        refine va_get (D := D) (ci := 3) (C := RX5) (T := TX5) (N := 14) hx hb hts iX5 hown hK hP 0 wPW_0 rfl 7 (by decide) q3 (fun _ h9 => h9) rfl dX5_keep_29 ?_
        obtain ⟨w32_cdee, w32_cnow, w32_cahe, hc, h⟩ := bd3_some h
        have hPc : va_P D vwCl (wCC T (ad (21 + 2 * x1.toNatClampNeg)) (ad (22 + 2 * x1.toNatClampNeg)) (ad 18) (ad 19) (kdee x1.toNatClampNeg) (know x1.toNatClampNeg) (kahe x1.toNatClampNeg) cdee cnow cahe) _ := my_subP (sb_wPW_wCC_kept0_kept1_18_19 hk1) hP
        have hDc := hD.sub [(21 + 2 * x1.toNatClampNeg), (22 + 2 * x1.toNatClampNeg), 18, 19] (nd_kept0_kept1_18_19 hk1) (sb_wPW_wCC_kept0_kept1_18_19 hk1)
        have hFc := va_free hD hS hA [(21 + 2 * x1.toNatClampNeg), (22 + 2 * x1.toNatClampNeg), 18, 19] (sb_wPW_wCC_kept0_kept1_18_19 hk1)
        refine my_rwv (va_runVN (host := "PartyWill") (As := [.ref (ad 18)]) (rest := []) hFix (kX0_takeAll l D T F (ad (21 + 2 * x1.toNatClampNeg)) (ad (22 + 2 * x1.toNatClampNeg)) (ad 18) (ad 19) (kdee x1.toNatClampNeg) (know x1.toNatClampNeg) (kahe x1.toNatClampNeg) cdee cnow cahe w32_cdee w32_cnow w32_cahe hc _) ⟨va_cnB 1 hts gX5_keep_X0_takeAll_n188 rfl rfl rfl (nw_X5_188 hKK.2) q9 hd_X0_takeAll ⟨Nat.le_of_ble_eq_true rfl, Nat.le_of_ble_eq_true rfl⟩, q8, q10⟩ (preV_rw hPc hKK hDc (va_recv hK hP (ci := 0) (q0 := (21 + 2 * x1.toNatClampNeg)) rfl (wPW_f_kept0 hk1))) rfl rfl hl.1 rfl (lv_room (Nat.le_of_ble_eq_true rfl)) dX5_keep_32 ⟨Nat.zero_le _, Nat.zero_le _⟩) hS hFc (fun H1 locs hP1 hD1 hz1 hkk hS => ?_)
        obtain ⟨hP, hD⟩ := my_joinS hP hD (nd_kept0_kept1_18_19 hk1) (sb_wPW_wCC_kept0_kept1_18_19 hk1) (by rfl) hkk hFc hP1 hD1
        rw [(st_wPW_wCC_kept0_kept1_18_19_takeAll hk1)] at hP hD
        generalize H1 = H at hP hS ⊢
        refine lv_aload_n hx hb dX5_keep_35 rfl (lv_at hl 0 rfl) ?_
        refine va_get (D := D) (ci := 3) (C := RX5) (T := TX5) (N := 14) hx hb hts iX5 hown hK hP 0 wPW_0 rfl 7 (by decide) q3 (fun _ h9 => h9) rfl dX5_keep_36 ?_
        refine va_getN (host := "PartyWill") (D := D) (ci := 0) (C := RX0) (T := TX0) (N := 3) hx hb hts iX0 hown hK hP 18 wPW_18 rfl 0 (by decide) (va_Nw.use rfl (nw_X5_71 hKK.2)) (fun _ h9 => h9) rfl dX5_keep_39 ?_
        cases h
        exact hret _ _ _ _ hP hD hS dX5_keep_42
      · have h := br_1 h c16
        refine lv_bipush (v := (-4 : Int32)) hx hb dX5_keep_19 (by decide) ?_
        cases h
        exact hret _ _ _ _ hP hD hS dX5_keep_21
    · have h := br_1 h c4
      refine lv_iconst (v := (-1 : Int32)) hx hb dX5_keep_7 (by decide) ?_
      cases h
      exact hret _ _ _ _ hP hD hS dX5_keep_8
  exact key _ (fun H locs pc ls hP hD hS hd => W.iret hx hb hr (fun t ht hW => ⟨⟨_, (), rfl, rfl, by show _ ∧ _; rw [ht]; exact ⟨hP, hD⟩⟩, hS.F ht⟩) hS.2.2 hd)
set_option maxHeartbeats 4000000 in
set_option maxRecDepth 100000 in
theorem kX5_on (l : Launch) (D : va_G) (T : Nat → ClassId) (F : Nat) (ad : Nat → Nat) (rs : Nat → Int32) (rm : Nat → Nat → Int32) (ts : Nat → Int32) (tm : Nat → Nat → Int32) (rdue : Int32) (rtun : Int32) (rsee : Int32) (rbeg : Int32) (psize : Int32) (pclause : Int32) (peff : Nat → Int32) (pkin : Nat → Int32) (pgri : Nat → Int32) (psig : Nat → Int32) (psee : Nat → Int32) (qsize : Int32) (qclause : Int32) (qeff : Nat → Int32) (qkin : Nat → Int32) (qgri : Nat → Int32) (qsig : Nat → Int32) (qsee : Nat → Int32) (cdee : Int32) (cnow : Int64) (cahe : Nat → Int64) (kdee : Nat → Int32) (know : Nat → Int64) (kahe : Nat → Nat → Int64) (fc : Nat → Int32) (lf : Int32) (told : Int32) (up : Int64) (lo : Int64) (x1 : Int32) (r : Int32) (zcdee : Int32) (zcnow : Int64) (zcahe : Nat → Int64) (zfc : Nat → Int32) (zlf : Int32) (h : fX5_on F cdee cnow cahe kdee know kahe fc lf x1 = some (r, zcdee, zcnow, zcahe, zfc, zlf)) : ∀ sz : Nat, Met l yX5_on wsX5_on ({ frames := 2, cells := 0, slots := 0, locals := 81 } : Room) (va_Pc [.ref (ad 0), .int x1] (fun U => U.heap.size = sz ∧ va_P D vwCl (wPW T ad (ad 6) (ad 12) rs rm ts tm rdue rtun rsee rbeg psize pclause peff pkin pgri psig psee qsize qclause qeff qkin qgri qsig qsee cdee cnow cahe kdee know kahe fc lf told up lo) U.heap ∧ KK D T U ∧ va_D (fun _ => True) (wPW T ad (ad 6) (ad 12) rs rm ts tm rdue rtun rsee rbeg psize pclause peff pkin pgri psig psee qsize qclause qeff qkin qgri qsig qsee cdee cnow cahe kdee know kahe fc lf told up lo))) (va_Qi (fun r' (_ : Unit) => r' = r) (fun _ t => va_P D vwCl (wPW T ad (ad 6) (ad 12) rs rm ts tm rdue rtun rsee rbeg psize pclause peff pkin pgri psig psee qsize qclause qeff qkin qgri qsig qsee zcdee zcnow zcahe kdee know kahe zfc zlf told up lo) t.heap ∧ va_D (va_A (wPW T ad (ad 6) (ad 12) rs rm ts tm rdue rtun rsee rbeg psize pclause peff pkin pgri psig psee qsize qclause qeff qkin qgri qsig qsee cdee cnow cahe kdee know kahe fc lf told up lo) sz) (wPW T ad (ad 6) (ad 12) rs rm ts tm rdue rtun rsee rbeg psize pclause peff pkin pgri psig psee qsize qclause qeff qkin qgri qsig qsee zcdee zcnow zcahe kdee know kahe zfc zlf told up lo)) (va_A (wPW T ad (ad 6) (ad 12) rs rm ts tm rdue rtun rsee rbeg psize pclause peff pkin pgri psig psee qsize qclause qeff qkin qgri qsig qsee cdee cnow cahe kdee know kahe fc lf told up lo) sz)) 0 0 (va_A (wPW T ad (ad 6) (ad 12) rs rm ts tm rdue rtun rsee rbeg psize pclause peff pkin pgri psig psee qsize qclause qeff qkin qgri qsig qsee cdee cnow cahe kdee know kahe fc lf told up lo) sz) := by
  intro sz
  refine Met.ofW (cc := cX5_on) (maxL := 2) (ret := some .int) (by decide) rfl ?_
  intro p e s m args below meth c s₁ B hml hv
  obtain ⟨ha, hsz, hP, hKK, hD0⟩ := hv
  have hx := B.exec
  have hb := B.bytes
  have hr := B.returns
  have hts := atoms_spec (ws := wsX5_on) B.pre
  have hown : s.vm.findClass RX5 = some m.cls := findClass_of_methodNamed B.named
  have hlocks := B.notSynchronized
  have hK := hKK.1
  have hFix : CallFix p m c cX5_on 2 s args wsX5_on RX5 := ⟨hx, hb, hml, hown, hts⟩
  have q1 := hts _ (List.mem_of_getElem? (i := 1) (show wsX5_on[1]? = some (Cond.fieldLink RX5 50 "PartyWill" "kept" "[LPartyWill$Course;") from rfl))
  have q2 := hts _ (List.mem_of_getElem? (i := 2) (show wsX5_on[2]? = some (Cond.fieldLink RX5 46 "PartyWill" "course" "LPartyWill$Course;") from rfl))
  have q13 := hts _ (List.mem_of_getElem? (i := 13) (show wsX5_on[13]? = some (Cond.instanceMethod yX0_takeAll) from rfl))
  have q14 := hts _ (List.mem_of_getElem? (i := 14) (show wsX5_on[14]? = some (Cond.initialized RX0) from rfl))
  have q15 := hts _ (List.mem_of_getElem? (i := 15) (show wsX5_on[15]? = some (Cond.selects RX0 yX0_takeAll yX0_takeAll) from rfl))
  have iX0 : ∀ w ∈ u_ws RX0 TX0 3, w ∈ wsX5_on := fun w h => List.mem_cons_of_mem _ (List.mem_append_right _ (h))
  have iX5 : ∀ w ∈ u_ws RX5 TX5 14, w ∈ wsX5_on := fun w h => List.mem_cons_of_mem _ (List.mem_append_left _ (List.mem_append_right _ (h)))
  subst hsz
  have hD := hD0.self (sz := s.heap.size)
  generalize hAe : va_A (wPW T ad (ad 6) (ad 12) rs rm ts tm rdue rtun rsee rbeg psize pclause peff pkin pgri psig psee qsize qclause qeff qkin qgri qsig qsee cdee cnow cahe kdee know kahe fc lf told up lo) s.heap.size = A at hD ⊢
  have hA : ∀ q : Nat, s.heap.size ≤ q → A q := fun q h => by rw [← hAe]; exact Or.inr h
  have hS : va_S A s.heap s.heap [] := va_S.rf
  have hP : va_P D vwCl (wPW T ad (ad 6) (ad 12) rs rm ts tm rdue rtun rsee rbeg psize pclause peff pkin pgri psig psee qsize qclause qeff qkin qgri qsig qsee cdee cnow cahe kdee know kahe fc lf told up lo) s.heap := hP
  obtain ⟨ls, hl, e0⟩ := my_entry (m := m) (n := 2) ha (Nat.le_of_ble_eq_true rfl)
  rw [e0]
  have hl : lv_has ls 2 [(0, .ref (ad 0)), (1, .int x1)] := hl
  have key : ∀ Q : State → Prop, (∀ (H : Heap) (locs : List Loc) (pc : Nat) (ls : Array Slot), va_P D vwCl (wPW T ad (ad 6) (ad 12) rs rm ts tm rdue rtun rsee rbeg psize pclause peff pkin pgri psig psee qsize qclause qeff qkin qgri qsig qsee zcdee zcnow zcahe kdee know kahe zfc zlf told up lo) H → va_D A (wPW T ad (ad 6) (ad 12) rs rm ts tm rdue rtun rsee rbeg psize pclause peff pkin pgri psig psee qsize qclause qeff qkin qgri qsig qsee zcdee zcnow zcahe kdee know kahe zfc zlf told up lo) → va_S A s.heap H locs → decode cX5_on pc = .ok (.ireturn, 1) → W p l e ({ frames := 2, cells := 0, slots := 0, locals := 81 } : Room) s m args below meth c H locs 0 0 Q (F0 m pc ls [.int r])) → W p l e ({ frames := 2, cells := 0, slots := 0, locals := 81 } : Room) s m args below meth c s.heap [] 0 0 Q (F0 m 0 ls []) := by
    intro Q hret
    skip
    unfold fX5_on at h
    refine lv_iload_n hx hb dX5_on_0 rfl (lv_at hl 1 rfl) ?_
    obtain ⟨r1, hc, h⟩ := bd1_some h
    refine my_roz (va_Run.run (va_runS (As := [.int x1]) (rest := []) hFix (kX5_isKeepingPlace l D T F x1 r1 hc) (va_cwS 1 hts gX5_on_X5_isKeepingPlace rfl rfl rfl hd_X5_isKeepingPlace ⟨Nat.le_of_ble_eq_true rfl, Nat.le_of_ble_eq_true rfl⟩) (preS_ro va_nil hKK) rfl rfl hl.1 rfl (lv_room (Nat.le_of_ble_eq_true rfl)) dX5_on_1 ⟨Nat.zero_le _, Nat.zero_le _⟩)) (fun hb1 => ?_)
    refine lv_if_ne (tgt := 9) hx hb dX5_on_4 (by decide) (fun c4 => ?_) (fun c4 => ?_)
    · have h := br_0 h c4
      refine lv_aload_n hx hb dX5_on_9 rfl (lv_at hl 0 rfl) ?_
      refine va_get (D := D) (ci := 3) (C := RX5) (T := TX5) (N := 14) hx hb hts iX5 hown hK hP 0 wPW_0 rfl 8 (by decide) q1 (fun _ h9 => h9) rfl dX5_on_10 ?_
      refine lv_iload_n hx hb dX5_on_13 rfl (lv_at hl 1 rfl) ?_
      obtain ⟨hin2, h⟩ := ck_some h
      have hk1 : x1.toNatClampNeg < 3 := vp_lt hin2
      refine my_ald (b := (ad (21 + 2 * x1.toNatClampNeg))) rfl hx hb hK hP 20 6 wPW_20 rfl hin2 (fun _ => if_pos hk1) dX5_on_14 ?_
      refine va_getN (host := "PartyWill") (D := D) (ci := 0) (C := RX0) (T := TX0) (N := 3) hx hb hts iX0 hown hK hP (21 + 2 * x1.toNatClampNeg) (wPW_f_kept0 hk1) rfl 0 (by decide) (va_Nw.use rfl (nw_X5_71 hKK.2)) (fun _ h9 => h9) rfl dX5_on_15 ?_
      refine lv_iconst (v := (-1 : Int32)) hx hb dX5_on_18 (by decide) ?_
      refine lv_icmp_ne (tgt := 28) hx hb dX5_on_19 (by decide) (fun c19 => ?_) (fun c19 => ?_)
      · have h := br_0 h c19
        refine lv_aload_n hx hb dX5_on_28 rfl (lv_at hl 0 rfl) ?_
        refine va_get (D := D) (ci := 3) (C := RX5) (T := TX5) (N := 14) hx hb hts iX5 hown hK hP 0 wPW_0 rfl 7 (by decide) q2 (fun _ h9 => h9) rfl dX5_on_29 ?_
        refine lv_aload_n hx hb dX5_on_32 rfl (lv_at hl 0 rfl) ?_
        refine va_get (D := D) (ci := 3) (C := RX5) (T := TX5) (N := 14) hx hb hts iX5 hown hK hP 0 wPW_0 rfl 8 (by decide) q1 (fun _ h9 => h9) rfl dX5_on_33 ?_
        refine lv_iload_n hx hb dX5_on_36 rfl (lv_at hl 1 rfl) ?_
        obtain ⟨hin4, h⟩ := ck_some h
        have hk3 : x1.toNatClampNeg < 3 := vp_lt hin4
        refine my_ald (b := (ad (21 + 2 * x1.toNatClampNeg))) rfl hx hb hK hP 20 6 wPW_20 rfl hin4 (fun _ => if_pos hk3) dX5_on_37 ?_
        obtain ⟨w38_cdee, w38_cnow, w38_cahe, hc, h⟩ := bd3_some h
        have hPc : va_P D vwCl (wCC T (ad 18) (ad 19) (ad (21 + 2 * x1.toNatClampNeg)) (ad (22 + 2 * x1.toNatClampNeg)) cdee cnow cahe (kdee x1.toNatClampNeg) (know x1.toNatClampNeg) (kahe x1.toNatClampNeg)) _ := my_subP (sb_wPW_wCC_18_19_kept0_kept1 hk3) hP
        have hDc := hD.sub [18, 19, (21 + 2 * x1.toNatClampNeg), (22 + 2 * x1.toNatClampNeg)] (nd_18_19_kept0_kept1 hk3) (sb_wPW_wCC_18_19_kept0_kept1 hk3)
        have hFc := va_free hD hS hA [18, 19, (21 + 2 * x1.toNatClampNeg), (22 + 2 * x1.toNatClampNeg)] (sb_wPW_wCC_18_19_kept0_kept1 hk3)
        refine my_rwv (va_runVN (host := "PartyWill") (As := [.ref (ad (21 + 2 * x1.toNatClampNeg))]) (rest := []) hFix (kX0_takeAll l D T F (ad 18) (ad 19) (ad (21 + 2 * x1.toNatClampNeg)) (ad (22 + 2 * x1.toNatClampNeg)) cdee cnow cahe (kdee x1.toNatClampNeg) (know x1.toNatClampNeg) (kahe x1.toNatClampNeg) w38_cdee w38_cnow w38_cahe hc _) ⟨va_cnB 1 hts gX5_on_X0_takeAll_n188 rfl rfl rfl (nw_X5_188 hKK.2) q14 hd_X0_takeAll ⟨Nat.le_of_ble_eq_true rfl, Nat.le_of_ble_eq_true rfl⟩, q13, q15⟩ (preV_rw hPc hKK hDc (va_recv hK hP (ci := 0) (q0 := 18) rfl wPW_18)) rfl rfl hl.1 rfl (lv_room (Nat.le_of_ble_eq_true rfl)) dX5_on_38 ⟨Nat.zero_le _, Nat.zero_le _⟩) hS hFc (fun H1 locs hP1 hD1 hz1 hkk hS => ?_)
        obtain ⟨hP, hD⟩ := my_joinS hP hD (nd_18_19_kept0_kept1 hk3) (sb_wPW_wCC_18_19_kept0_kept1 hk3) (by rfl) hkk hFc hP1 hD1
        rw [(st_wPW_wCC_18_19_kept0_kept1_takeAll hk3)] at hP hD
        generalize H1 = H at hP hS ⊢
        refine lv_aload_n hx hb dX5_on_41 rfl (lv_at hl 0 rfl) ?_
        refine va_get (D := D) (ci := 3) (C := RX5) (T := TX5) (N := 14) hx hb hts iX5 hown hK hP 0 wPW_0 rfl 7 (by decide) q2 (fun _ h9 => h9) rfl dX5_on_42 ?_
        refine va_getN (host := "PartyWill") (D := D) (ci := 0) (C := RX0) (T := TX0) (N := 3) hx hb hts iX0 hown hK hP 18 wPW_18 rfl 0 (by decide) (va_Nw.use rfl (nw_X5_71 hKK.2)) (fun _ h9 => h9) rfl dX5_on_45 ?_
        cases h
        exact hret _ _ _ _ hP hD hS dX5_on_48
      · have h := br_1 h c19
        refine lv_aload_n hx hb dX5_on_22 rfl (lv_at hl 0 rfl) ?_
        refine lv_iconst (v := (1 : Int32)) hx hb dX5_on_23 (by decide) ?_
        obtain ⟨r24, w24_fc, w24_lf, hc, h⟩ := bd3_some h
        have hFc := my_freeS hD hS hA
        refine my_rwi (va_runV (As := [.int (1 : Int32)]) (rest := []) hFix (kX5_found l D T F ad rs rm ts tm rdue rtun rsee rbeg psize pclause peff pkin pgri psig psee qsize qclause qeff qkin qgri qsig qsee cdee cnow cahe kdee know kahe fc lf told up lo (1 : Int32) r24 w24_fc w24_lf hc _) (cwV 1 hts gX5_on_X5_found rfl rfl rfl ⟨rfl, hd_X5_found⟩ ⟨Nat.le_of_ble_eq_true rfl, Nat.le_of_ble_eq_true rfl⟩) (preV_rw hP hKK hD (va_recv hK hP (ci := 3) (q0 := 0) rfl wPW_0)) rfl rfl hl.1 rfl (lv_room (Nat.le_of_ble_eq_true rfl)) dX5_on_24 ⟨Nat.zero_le _, Nat.zero_le _⟩) hS hFc (fun H1 locs hP1 hD1 hz1 hkk hS => ?_)
        have hP : va_P D vwCl (wPW T ad (ad 6) (ad 12) rs rm ts tm rdue rtun rsee rbeg psize pclause peff pkin pgri psig psee qsize qclause qeff qkin qgri qsig qsee cdee cnow cahe kdee know kahe w24_fc w24_lf told up lo) H1 := hP1
        have hD : va_D A (wPW T ad (ad 6) (ad 12) rs rm ts tm rdue rtun rsee rbeg psize pclause peff pkin pgri psig psee qsize qclause qeff qkin qgri qsig qsee cdee cnow cahe kdee know kahe w24_fc w24_lf told up lo) := hD1.weaken (fun _ q _ h => hFc q.1 h)
        generalize H1 = H at hP hS ⊢
        cases h
        exact hret _ _ _ _ hP hD hS dX5_on_27
    · have h := br_1 h c4
      refine lv_iconst (v := (-1 : Int32)) hx hb dX5_on_7 (by decide) ?_
      cases h
      exact hret _ _ _ _ hP hD hS dX5_on_8
  exact key _ (fun H locs pc ls hP hD hS hd => W.iret hx hb hr (fun t ht hW => ⟨⟨_, (), rfl, rfl, by show _ ∧ _; rw [ht]; exact ⟨hP, hD⟩⟩, hS.F ht⟩) hS.2.2 hd)
