set_option maxHeartbeats 4000000 in
set_option maxRecDepth 100000 in
theorem kX5_keep (l : Launch) (D : va_G) (T : Nat → ClassId) (F : Nat) (ad : Nat → Nat) (rs : Nat → Int32) (rm : Nat → Nat → Int32) (ts : Nat → Int32) (tm : Nat → Nat → Int32) (rdue : Int32) (rtun : Int32) (rsee : Int32) (rbeg : Int32) (psize : Int32) (pclause : Int32) (peff : Nat → Int32) (pkin : Nat → Int32) (pgri : Nat → Int32) (psig : Nat → Int32) (psee : Nat → Int32) (qsize : Int32) (qclause : Int32) (qeff : Nat → Int32) (qkin : Nat → Int32) (qgri : Nat → Int32) (qsig : Nat → Int32) (qsee : Nat → Int32) (cdee : Int32) (cnow : Int64) (cahe : Nat → Int64) (kdee : Nat → Int32) (know : Nat → Int64) (kahe : Nat → Nat → Int64) (fc : Nat → Int32) (lf : Int32) (told : Int32) (up : Int64) (lo : Int64) (x1 : Int32) (r : Int32) (zkdee : Nat → Int32) (zknow : Nat → Int64) (zkahe : Nat → Nat → Int64) (h : fX5_keep F psize cdee cnow cahe kdee know kahe x1 = some (r, zkdee, zknow, zkahe)) : ∀ sz : Nat, Met l yX5_keep wsX5_keep ({ frames := 2, cells := 0, slots := 0, locals := 81 } : Room) (va_Pc [.ref (ad 0), .int x1] (fun U => U.heap.size = sz ∧ va_P D vwCl (wPW T ad (ad 6) (ad 12) rs rm ts tm rdue rtun rsee rbeg psize pclause peff pkin pgri psig psee qsize qclause qeff qkin qgri qsig qsee cdee cnow cahe kdee know kahe fc lf told up lo) U.heap ∧ KK D T U ∧ va_D (fun _ => True) (wPW T ad (ad 6) (ad 12) rs rm ts tm rdue rtun rsee rbeg psize pclause peff pkin pgri psig psee qsize qclause qeff qkin qgri qsig qsee cdee cnow cahe kdee know kahe fc lf told up lo))) (va_Qi (fun r' (_ : Unit) => r' = r) (fun _ t => va_P D vwCl (wPW T ad (ad 6) (ad 12) rs rm ts tm rdue rtun rsee rbeg psize pclause peff pkin pgri psig psee qsize qclause qeff qkin qgri qsig qsee cdee cnow cahe zkdee zknow zkahe fc lf told up lo) t.heap ∧ va_D (va_A (wPW T ad (ad 6) (ad 12) rs rm ts tm rdue rtun rsee rbeg psize pclause peff pkin pgri psig psee qsize qclause qeff qkin qgri qsig qsee cdee cnow cahe kdee know kahe fc lf told up lo) sz) (wPW T ad (ad 6) (ad 12) rs rm ts tm rdue rtun rsee rbeg psize pclause peff pkin pgri psig psee qsize qclause qeff qkin qgri qsig qsee cdee cnow cahe zkdee zknow zkahe fc lf told up lo)) (va_A (wPW T ad (ad 6) (ad 12) rs rm ts tm rdue rtun rsee rbeg psize pclause peff pkin pgri psig psee qsize qclause qeff qkin qgri qsig qsee cdee cnow cahe kdee know kahe fc lf told up lo) sz)) 0 0 (va_A (wPW T ad (ad 6) (ad 12) rs rm ts tm rdue rtun rsee rbeg psize pclause peff pkin pgri psig psee qsize qclause qeff qkin qgri qsig qsee cdee cnow cahe kdee know kahe fc lf told up lo) sz) := by
  intro sz
  refine Met.ofW (cc := cX5_keep) (maxL := 2) (ret := some .int) (by decide) rfl ?_
  intro p e s m args below meth c s₁ B hml hv
  obtain ⟨ha, hsz, hP, hKK, hD0⟩ := hv
  have hx := B.exec
  have hb := B.bytes
  have hr := B.returns
  have hts := atoms_spec (ws := wsX5_keep) B.pre
  have hown : s.vm.findClass RX5 = some m.cls := findClass_of_methodNamed B.named
  have hlocks := B.notSynchronized
  have hK := hKK.1
  have hFix : CallFix p m c cX5_keep 2 s args wsX5_keep RX5 := ⟨hx, hb, hml, hown, hts⟩
  have q1 := hts _ (List.mem_of_getElem? (i := 1) (show wsX5_keep[1]? = some (Cond.fieldLink RX5 36 "PartyWill" "party" "LPartyWill$Party;") from rfl))
  have q2 := hts _ (List.mem_of_getElem? (i := 2) (show wsX5_keep[2]? = some (Cond.fieldLink RX5 50 "PartyWill" "kept" "[LPartyWill$Course;") from rfl))
  have q3 := hts _ (List.mem_of_getElem? (i := 3) (show wsX5_keep[3]? = some (Cond.fieldLink RX5 46 "PartyWill" "course" "LPartyWill$Course;") from rfl))
  have q8 := hts _ (List.mem_of_getElem? (i := 8) (show wsX5_keep[8]? = some (Cond.instanceMethod yX0_takeAll) from rfl))
  have q9 := hts _ (List.mem_of_getElem? (i := 9) (show wsX5_keep[9]? = some (Cond.initialized RX0) from rfl))
  have q10 := hts _ (List.mem_of_getElem? (i := 10) (show wsX5_keep[10]? = some (Cond.selects RX0 yX0_takeAll yX0_takeAll) from rfl))
  have iX0 : ∀ w ∈ u_ws RX0 TX0 3, w ∈ wsX5_keep := fun w h => List.mem_cons_of_mem _ (List.mem_append_right _ (h))
  have iX2 : ∀ w ∈ u_ws RX2 TX2 7, w ∈ wsX5_keep := fun w h => List.mem_cons_of_mem _ (List.mem_append_left _ (List.mem_append_right _ (h)))
  have iX5 : ∀ w ∈ u_ws RX5 TX5 14, w ∈ wsX5_keep := fun w h => List.mem_cons_of_mem _ (List.mem_append_left _ (List.mem_append_left _ (List.mem_append_right _ (h))))
  subst hsz
  have hD := hD0.self (sz := s.heap.size)
  generalize hAe : va_A (wPW T ad (ad 6) (ad 12) rs rm ts tm rdue rtun rsee rbeg psize pclause peff pkin pgri psig psee qsize qclause qeff qkin qgri qsig qsee cdee cnow cahe kdee know kahe fc lf told up lo) s.heap.size = A at hD ⊢
  have hA : ∀ q : Nat, s.heap.size ≤ q → A q := fun q h => by rw [← hAe]; exact Or.inr h
  have hS : va_S A s.heap s.heap [] := va_S.rf
  have hP : va_P D vwCl (wPW T ad (ad 6) (ad 12) rs rm ts tm rdue rtun rsee rbeg psize pclause peff pkin pgri psig psee qsize qclause qeff qkin qgri qsig qsee cdee cnow cahe kdee know kahe fc lf told up lo) s.heap := hP
  obtain ⟨ls, hl, e0⟩ := my_entry (m := m) (n := 2) ha (Nat.le_of_ble_eq_true rfl)
  rw [e0]
  have hl : lv_has ls 2 [(0, .ref (ad 0)), (1, .int x1)] := hl
  have key : ∀ Q : State → Prop, (∀ (H : Heap) (locs : List Loc) (pc : Nat) (ls : Array Slot), va_P D vwCl (wPW T ad (ad 6) (ad 12) rs rm ts tm rdue rtun rsee rbeg psize pclause peff pkin pgri psig psee qsize qclause qeff qkin qgri qsig qsee cdee cnow cahe zkdee zknow zkahe fc lf told up lo) H → va_D A (wPW T ad (ad 6) (ad 12) rs rm ts tm rdue rtun rsee rbeg psize pclause peff pkin pgri psig psee qsize qclause qeff qkin qgri qsig qsee cdee cnow cahe zkdee zknow zkahe fc lf told up lo) → va_S A s.heap H locs → decode cX5_keep pc = .ok (.ireturn, 1) → W p l e ({ frames := 2, cells := 0, slots := 0, locals := 81 } : Room) s m args below meth c H locs 0 0 Q (F0 m pc ls [.int r])) → W p l e ({ frames := 2, cells := 0, slots := 0, locals := 81 } : Room) s m args below meth c s.heap [] 0 0 Q (F0 m 0 ls []) := by
    intro Q hret
    skip
    unfold fX5_keep at h
    refine lv_iload_n hx hb dX5_keep_0 rfl (lv_at hl 1 rfl) ?_
    obtain ⟨r1, hc, h⟩ := bd1_some h
    refine my_roz (va_Run.run (va_runS (As := [.int x1]) (rest := []) hFix (kX5_isKeepingPlace l D T F x1 r1 hc) (va_cwS 1 hts gX5_keep_X5_isKeepingPlace rfl rfl rfl hd_X5_isKeepingPlace ⟨Nat.le_of_ble_eq_true rfl, Nat.le_of_ble_eq_true rfl⟩) (preS_ro va_nil hKK) rfl rfl hl.1 rfl (lv_room (Nat.le_of_ble_eq_true rfl)) dX5_keep_1 ⟨Nat.zero_le _, Nat.zero_le _⟩)) (fun hb1 => ?_)
    refine lv_if_ne (tgt := 9) hx hb dX5_keep_4 (by decide) (fun c4 => ?_) (fun c4 => ?_)
    · have h := br_0 h c4
      refine lv_aload_n hx hb dX5_keep_9 rfl (lv_at hl 0 rfl) ?_
      refine va_get (D := D) (ci := 3) (C := RX5) (T := TX5) (N := 14) hx hb hts iX5 hown hK hP 0 wPW_0 rfl 5 (by decide) q1 (fun _ h9 => h9) rfl dX5_keep_10 ?_
      refine va_getN (host := "PartyWill") (D := D) (ci := 1) (C := RX2) (T := TX2) (N := 7) hx hb hts iX2 hown hK hP 6 wPW_6 rfl 0 (by decide) (va_Nw.use rfl (nw_X5_111 hKK.2)) (fun _ h9 => h9) rfl dX5_keep_13 ?_
      refine lv_if_ne (tgt := 22) hx hb dX5_keep_16 (by decide) (fun c16 => ?_) (fun c16 => ?_)
      · have h := br_0 h c16
        refine lv_aload_n hx hb dX5_keep_22 rfl (lv_at hl 0 rfl) ?_
        refine va_get (D := D) (ci := 3) (C := RX5) (T := TX5) (N := 14) hx hb hts iX5 hown hK hP 0 wPW_0 rfl 8 (by decide) q2 (fun _ h9 => h9) rfl dX5_keep_23 ?_
        refine lv_iload_n hx hb dX5_keep_26 rfl (lv_at hl 1 rfl) ?_
        obtain ⟨hin2, h⟩ := ck_some h
        have hk1 : x1.toNatClampNeg < 3 := vp_lt hin2
        refine my_ald (b := (ad (21 + 2 * x1.toNatClampNeg))) rfl hx hb hK hP 20 6 wPW_20 rfl hin2 (fun _ => if_pos hk1) dX5_keep_27 ?_
        refine lv_aload_n hx hb dX5_keep_28 rfl (lv_at hl 0 rfl) ?_
        refine va_get (D := D) (ci := 3) (C := RX5) (T := TX5) (N := 14) hx hb hts iX5 hown hK hP 0 wPW_0 rfl 7 (by decide) q3 (fun _ h9 => h9) rfl dX5_keep_29 ?_
        obtain ⟨w32_cdee, w32_cnow, w32_cahe, hc, h⟩ := bd3_some h
        have hPc : va_P D vwCl (wCC T (ad (21 + 2 * x1.toNatClampNeg)) (ad (22 + 2 * x1.toNatClampNeg)) (ad 18) (ad 19) (kdee x1.toNatClampNeg) (know x1.toNatClampNeg) (kahe x1.toNatClampNeg) cdee cnow cahe) _ := my_subP (sb_wPW_wCC_kept0_kept1_18_19 hk1) hP
        have hDc := hD.sub [(21 + 2 * x1.toNatClampNeg), (22 + 2 * x1.toNatClampNeg), 18, 19] (nd_kept0_kept1_18_19 hk1) (sb_wPW_wCC_kept0_kept1_18_19 hk1)
        have hFc := va_free hD hS hA [(21 + 2 * x1.toNatClampNeg), (22 + 2 * x1.toNatClampNeg), 18, 19] (sb_wPW_wCC_kept0_kept1_18_19 hk1)
        refine my_rwv (va_runVN (host := "PartyWill") (As := [.ref (ad 18)]) (rest := []) hFix (kX0_takeAll l D T F (ad (21 + 2 * x1.toNatClampNeg)) (ad (22 + 2 * x1.toNatClampNeg)) (ad 18) (ad 19) (kdee x1.toNatClampNeg) (know x1.toNatClampNeg) (kahe x1.toNatClampNeg) cdee cnow cahe w32_cdee w32_cnow w32_cahe hc _) ⟨va_cnB 1 hts gX5_keep_X0_takeAll_n188 rfl rfl rfl (nw_X5_188 hKK.2) q9 hd_X0_takeAll ⟨Nat.le_of_ble_eq_true rfl, Nat.le_of_ble_eq_true rfl⟩, q8, q10⟩ (preV_rw hPc hKK hDc (va_recv hK hP (ci := 0) (q0 := (21 + 2 * x1.toNatClampNeg)) rfl (wPW_f_kept0 hk1))) rfl rfl hl.1 rfl (lv_room (Nat.le_of_ble_eq_true rfl)) dX5_keep_32 ⟨Nat.zero_le _, Nat.zero_le _⟩) hS hFc (fun H1 locs hP1 hD1 hz1 hkk hS => ?_)
        obtain ⟨hP, hD⟩ := my_joinS hP hD (nd_kept0_kept1_18_19 hk1) (sb_wPW_wCC_kept0_kept1_18_19 hk1) (by rfl) hkk hFc hP1 hD1
        rw [(st_wPW_wCC_kept0_kept1_18_19_takeAll hk1)] at hP hD
        generalize H1 = H at hP hS ⊢
        refine lv_aload_n hx hb dX5_keep_35 rfl (lv_at hl 0 rfl) ?_
        refine va_get (D := D) (ci := 3) (C := RX5) (T := TX5) (N := 14) hx hb hts iX5 hown hK hP 0 wPW_0 rfl 7 (by decide) q3 (fun _ h9 => h9) rfl dX5_keep_36 ?_
        refine va_getN (host := "PartyWill") (D := D) (ci := 0) (C := RX0) (T := TX0) (N := 3) hx hb hts iX0 hown hK hP 18 wPW_18 rfl 0 (by decide) (va_Nw.use rfl (nw_X5_71 hKK.2)) (fun _ h9 => h9) rfl dX5_keep_39 ?_
        cases h
        exact hret _ _ _ _ hP hD hS dX5_keep_42
      · have h := br_1 h c16
        refine lv_bipush (v := (-4 : Int32)) hx hb dX5_keep_19 (by decide) ?_
        cases h
        exact hret _ _ _ _ hP hD hS dX5_keep_21
    · have h := br_1 h c4
      refine lv_iconst (v := (-1 : Int32)) hx hb dX5_keep_7 (by decide) ?_
      cases h
      exact hret _ _ _ _ hP hD hS dX5_keep_8
  exact key _ (fun H locs pc ls hP hD hS hd => W.iret hx hb hr (fun t ht hW => ⟨⟨_, (), rfl, rfl, by show _ ∧ _; rw [ht]; exact ⟨hP, hD⟩⟩, hS.F ht⟩) hS.2.2 hd)
set_option maxHeartbeats 4000000 in
set_option maxRecDepth 100000 in
theorem kX5_on (l : Launch) (D : va_G) (T : Nat → ClassId) (F : Nat) (ad : Nat → Nat) (rs : Nat → Int32) (rm : Nat → Nat → Int32) (ts : Nat → Int32) (tm : Nat → Nat → Int32) (rdue : Int32) (rtun : Int32) (rsee : Int32) (rbeg : Int32) (psize : Int32) (pclause : Int32) (peff : Nat → Int32) (pkin : Nat → Int32) (pgri : Nat → Int32) (psig : Nat → Int32) (psee : Nat → Int32) (qsize : Int32) (qclause : Int32) (qeff : Nat → Int32) (qkin : Nat → Int32) (qgri : Nat → Int32) (qsig : Nat → Int32) (qsee : Nat → Int32) (cdee : Int32) (cnow : Int64) (cahe : Nat → Int64) (kdee : Nat → Int32) (know : Nat → Int64) (kahe : Nat → Nat → Int64) (fc : Nat → Int32) (lf : Int32) (told : Int32) (up : Int64) (lo : Int64) (x1 : Int32) (r : Int32) (zcdee : Int32) (zcnow : Int64) (zcahe : Nat → Int64) (zfc : Nat → Int32) (zlf : Int32) (h : fX5_on F cdee cnow cahe kdee know kahe fc lf x1 = some (r, zcdee, zcnow, zcahe, zfc, zlf)) : ∀ sz : Nat, Met l yX5_on wsX5_on ({ frames := 2, cells := 0, slots := 0, locals := 81 } : Room) (va_Pc [.ref (ad 0), .int x1] (fun U => U.heap.size = sz ∧ va_P D vwCl (wPW T ad (ad 6) (ad 12) rs rm ts tm rdue rtun rsee rbeg psize pclause peff pkin pgri psig psee qsize qclause qeff qkin qgri qsig qsee cdee cnow cahe kdee know kahe fc lf told up lo) U.heap ∧ KK D T U ∧ va_D (fun _ => True) (wPW T ad (ad 6) (ad 12) rs rm ts tm rdue rtun rsee rbeg psize pclause peff pkin pgri psig psee qsize qclause qeff qkin qgri qsig qsee cdee cnow cahe kdee know kahe fc lf told up lo))) (va_Qi (fun r' (_ : Unit) => r' = r) (fun _ t => va_P D vwCl (wPW T ad (ad 6) (ad 12) rs rm ts tm rdue rtun rsee rbeg psize pclause peff pkin pgri psig psee qsize qclause qeff qkin qgri qsig qsee zcdee zcnow zcahe kdee know kahe zfc zlf told up lo) t.heap ∧ va_D (va_A (wPW T ad (ad 6) (ad 12) rs rm ts tm rdue rtun rsee rbeg psize pclause peff pkin pgri psig psee qsize qclause qeff qkin qgri qsig qsee cdee cnow cahe kdee know kahe fc lf told up lo) sz) (wPW T ad (ad 6) (ad 12) rs rm ts tm rdue rtun rsee rbeg psize pclause peff pkin pgri psig psee qsize qclause qeff qkin qgri qsig qsee zcdee zcnow zcahe kdee know kahe zfc zlf told up lo)) (va_A (wPW T ad (ad 6) (ad 12) rs rm ts tm rdue rtun rsee rbeg psize pclause peff pkin pgri psig psee qsize qclause qeff qkin qgri qsig qsee cdee cnow cahe kdee know kahe fc lf told up lo) sz)) 0 0 (va_A (wPW T ad (ad 6) (ad 12) rs rm ts tm rdue rtun rsee rbeg psize pclause peff pkin pgri psig psee qsize qclause qeff qkin qgri qsig qsee cdee cnow cahe kdee know kahe fc lf told up lo) sz) := by
  intro sz
  refine Met.ofW (cc := cX5_on) (maxL := 2) (ret := some .int) (by decide) rfl ?_
  intro p e s m args below meth c s₁ B hml hv
  obtain ⟨ha, hsz, hP, hKK, hD0⟩ := hv
  have hx := B.exec
  have hb := B.bytes
  have hr := B.returns
  have hts := atoms_spec (ws := wsX5_on) B.pre
  have hown : s.vm.findClass RX5 = some m.cls := findClass_of_methodNamed B.named
  have hlocks := B.notSynchronized
  have hK := hKK.1
  have hFix : CallFix p m c cX5_on 2 s args wsX5_on RX5 := ⟨hx, hb, hml, hown, hts⟩
  have q1 := hts _ (List.mem_of_getElem? (i := 1) (show wsX5_on[1]? = some (Cond.fieldLink RX5 50 "PartyWill" "kept" "[LPartyWill$Course;") from rfl))
  have q2 := hts _ (List.mem_of_getElem? (i := 2) (show wsX5_on[2]? = some (Cond.fieldLink RX5 46 "PartyWill" "course" "LPartyWill$Course;") from rfl))
  have q13 := hts _ (List.mem_of_getElem? (i := 13) (show wsX5_on[13]? = some (Cond.instanceMethod yX0_takeAll) from rfl))
  have q14 := hts _ (List.mem_of_getElem? (i := 14) (show wsX5_on[14]? = some (Cond.initialized RX0) from rfl))
  have q15 := hts _ (List.mem_of_getElem? (i := 15) (show wsX5_on[15]? = some (Cond.selects RX0 yX0_takeAll yX0_takeAll) from rfl))
  have iX0 : ∀ w ∈ u_ws RX0 TX0 3, w ∈ wsX5_on := fun w h => List.mem_cons_of_mem _ (List.mem_append_right _ (h))
  have iX5 : ∀ w ∈ u_ws RX5 TX5 14, w ∈ wsX5_on := fun w h => List.mem_cons_of_mem _ (List.mem_append_left _ (List.mem_append_right _ (h)))
  subst hsz
  have hD := hD0.self (sz := s.heap.size)
  generalize hAe : va_A (wPW T ad (ad 6) (ad 12) rs rm ts tm rdue rtun rsee rbeg psize pclause peff pkin pgri psig psee qsize qclause qeff qkin qgri qsig qsee cdee cnow cahe kdee know kahe fc lf told up lo) s.heap.size = A at hD ⊢
  have hA : ∀ q : Nat, s.heap.size ≤ q → A q := fun q h => by rw [← hAe]; exact Or.inr h
  have hS : va_S A s.heap s.heap [] := va_S.rf
  have hP : va_P D vwCl (wPW T ad (ad 6) (ad 12) rs rm ts tm rdue rtun rsee rbeg psize pclause peff pkin pgri psig psee qsize qclause qeff qkin qgri qsig qsee cdee cnow cahe kdee know kahe fc lf told up lo) s.heap := hP
  obtain ⟨ls, hl, e0⟩ := my_entry (m := m) (n := 2) ha (Nat.le_of_ble_eq_true rfl)
  rw [e0]
  have hl : lv_has ls 2 [(0, .ref (ad 0)), (1, .int x1)] := hl
  have key : ∀ Q : State → Prop, (∀ (H : Heap) (locs : List Loc) (pc : Nat) (ls : Array Slot), va_P D vwCl (wPW T ad (ad 6) (ad 12) rs rm ts tm rdue rtun rsee rbeg psize pclause peff pkin pgri psig psee qsize qclause qeff qkin qgri qsig qsee zcdee zcnow zcahe kdee know kahe zfc zlf told up lo) H → va_D A (wPW T ad (ad 6) (ad 12) rs rm ts tm rdue rtun rsee rbeg psize pclause peff pkin pgri psig psee qsize qclause qeff qkin qgri qsig qsee zcdee zcnow zcahe kdee know kahe zfc zlf told up lo) → va_S A s.heap H locs → decode cX5_on pc = .ok (.ireturn, 1) → W p l e ({ frames := 2, cells := 0, slots := 0, locals := 81 } : Room) s m args below meth c H locs 0 0 Q (F0 m pc ls [.int r])) → W p l e ({ frames := 2, cells := 0, slots := 0, locals := 81 } : Room) s m args below meth c s.heap [] 0 0 Q (F0 m 0 ls []) := by
    intro Q hret
    skip
    unfold fX5_on at h
    refine lv_iload_n hx hb dX5_on_0 rfl (lv_at hl 1 rfl) ?_
    obtain ⟨r1, hc, h⟩ := bd1_some h
    refine my_roz (va_Run.run (va_runS (As := [.int x1]) (rest := []) hFix (kX5_isKeepingPlace l D T F x1 r1 hc) (va_cwS 1 hts gX5_on_X5_isKeepingPlace rfl rfl rfl hd_X5_isKeepingPlace ⟨Nat.le_of_ble_eq_true rfl, Nat.le_of_ble_eq_true rfl⟩) (preS_ro va_nil hKK) rfl rfl hl.1 rfl (lv_room (Nat.le_of_ble_eq_true rfl)) dX5_on_1 ⟨Nat.zero_le _, Nat.zero_le _⟩)) (fun hb1 => ?_)
    refine lv_if_ne (tgt := 9) hx hb dX5_on_4 (by decide) (fun c4 => ?_) (fun c4 => ?_)
    · have h := br_0 h c4
      refine lv_aload_n hx hb dX5_on_9 rfl (lv_at hl 0 rfl) ?_
      refine va_get (D := D) (ci := 3) (C := RX5) (T := TX5) (N := 14) hx hb hts iX5 hown hK hP 0 wPW_0 rfl 8 (by decide) q1 (fun _ h9 => h9) rfl dX5_on_10 ?_
      refine lv_iload_n hx hb dX5_on_13 rfl (lv_at hl 1 rfl) ?_
      obtain ⟨hin2, h⟩ := ck_some h
      have hk1 : x1.toNatClampNeg < 3 := vp_lt hin2
      refine my_ald (b := (ad (21 + 2 * x1.toNatClampNeg))) rfl hx hb hK hP 20 6 wPW_20 rfl hin2 (fun _ => if_pos hk1) dX5_on_14 ?_
      refine va_getN (host := "PartyWill") (D := D) (ci := 0) (C := RX0) (T := TX0) (N := 3) hx hb hts iX0 hown hK hP (21 + 2 * x1.toNatClampNeg) (wPW_f_kept0 hk1) rfl 0 (by decide) (va_Nw.use rfl (nw_X5_71 hKK.2)) (fun _ h9 => h9) rfl dX5_on_15 ?_
      refine lv_iconst (v := (-1 : Int32)) hx hb dX5_on_18 (by decide) ?_
      refine lv_icmp_ne (tgt := 28) hx hb dX5_on_19 (by decide) (fun c19 => ?_) (fun c19 => ?_)
      · have h := br_0 h c19
        refine lv_aload_n hx hb dX5_on_28 rfl (lv_at hl 0 rfl) ?_
        refine va_get (D := D) (ci := 3) (C := RX5) (T := TX5) (N := 14) hx hb hts iX5 hown hK hP 0 wPW_0 rfl 7 (by decide) q2 (fun _ h9 => h9) rfl dX5_on_29 ?_
        refine lv_aload_n hx hb dX5_on_32 rfl (lv_at hl 0 rfl) ?_
        refine va_get (D := D) (ci := 3) (C := RX5) (T := TX5) (N := 14) hx hb hts iX5 hown hK hP 0 wPW_0 rfl 8 (by decide) q1 (fun _ h9 => h9) rfl dX5_on_33 ?_
        refine lv_iload_n hx hb dX5_on_36 rfl (lv_at hl 1 rfl) ?_
        obtain ⟨hin4, h⟩ := ck_some h
        have hk3 : x1.toNatClampNeg < 3 := vp_lt hin4
        refine my_ald (b := (ad (21 + 2 * x1.toNatClampNeg))) rfl hx hb hK hP 20 6 wPW_20 rfl hin4 (fun _ => if_pos hk3) dX5_on_37 ?_
        obtain ⟨w38_cdee, w38_cnow, w38_cahe, hc, h⟩ := bd3_some h
        have hPc : va_P D vwCl (wCC T (ad 18) (ad 19) (ad (21 + 2 * x1.toNatClampNeg)) (ad (22 + 2 * x1.toNatClampNeg)) cdee cnow cahe (kdee x1.toNatClampNeg) (know x1.toNatClampNeg) (kahe x1.toNatClampNeg)) _ := my_subP (sb_wPW_wCC_18_19_kept0_kept1 hk3) hP
        have hDc := hD.sub [18, 19, (21 + 2 * x1.toNatClampNeg), (22 + 2 * x1.toNatClampNeg)] (nd_18_19_kept0_kept1 hk3) (sb_wPW_wCC_18_19_kept0_kept1 hk3)
        have hFc := va_free hD hS hA [18, 19, (21 + 2 * x1.toNatClampNeg), (22 + 2 * x1.toNatClampNeg)] (sb_wPW_wCC_18_19_kept0_kept1 hk3)
        refine my_rwv (va_runVN (host := "PartyWill") (As := [.ref (ad (21 + 2 * x1.toNatClampNeg))]) (rest := []) hFix (kX0_takeAll l D T F (ad 18) (ad 19) (ad (21 + 2 * x1.toNatClampNeg)) (ad (22 + 2 * x1.toNatClampNeg)) cdee cnow cahe (kdee x1.toNatClampNeg) (know x1.toNatClampNeg) (kahe x1.toNatClampNeg) w38_cdee w38_cnow w38_cahe hc _) ⟨va_cnB 1 hts gX5_on_X0_takeAll_n188 rfl rfl rfl (nw_X5_188 hKK.2) q14 hd_X0_takeAll ⟨Nat.le_of_ble_eq_true rfl, Nat.le_of_ble_eq_true rfl⟩, q13, q15⟩ (preV_rw hPc hKK hDc (va_recv hK hP (ci := 0) (q0 := 18) rfl wPW_18)) rfl rfl hl.1 rfl (lv_room (Nat.le_of_ble_eq_true rfl)) dX5_on_38 ⟨Nat.zero_le _, Nat.zero_le _⟩) hS hFc (fun H1 locs hP1 hD1 hz1 hkk hS => ?_)
        obtain ⟨hP, hD⟩ := my_joinS hP hD (nd_18_19_kept0_kept1 hk3) (sb_wPW_wCC_18_19_kept0_kept1 hk3) (by rfl) hkk hFc hP1 hD1
        rw [(st_wPW_wCC_18_19_kept0_kept1_takeAll hk3)] at hP hD
        generalize H1 = H at hP hS ⊢
        refine lv_aload_n hx hb dX5_on_41 rfl (lv_at hl 0 rfl) ?_
        refine va_get (D := D) (ci := 3) (C := RX5) (T := TX5) (N := 14) hx hb hts iX5 hown hK hP 0 wPW_0 rfl 7 (by decide) q2 (fun _ h9 => h9) rfl dX5_on_42 ?_
        refine va_getN (host := "PartyWill") (D := D) (ci := 0) (C := RX0) (T := TX0) (N := 3) hx hb hts iX0 hown hK hP 18 wPW_18 rfl 0 (by decide) (va_Nw.use rfl (nw_X5_71 hKK.2)) (fun _ h9 => h9) rfl dX5_on_45 ?_
        cases h
        exact hret _ _ _ _ hP hD hS dX5_on_48
      · have h := br_1 h c19
        refine lv_aload_n hx hb dX5_on_22 rfl (lv_at hl 0 rfl) ?_
        refine lv_iconst (v := (1 : Int32)) hx hb dX5_on_23 (by decide) ?_
        obtain ⟨r24, w24_fc, w24_lf, hc, h⟩ := bd3_some h
        have hFc := my_freeS hD hS hA
        refine my_rwi (va_runV (As := [.int (1 : Int32)]) (rest := []) hFix (kX5_found l D T F ad rs rm ts tm rdue rtun rsee rbeg psize pclause peff pkin pgri psig psee qsize qclause qeff qkin qgri qsig qsee cdee cnow cahe kdee know kahe fc lf told up lo (1 : Int32) r24 w24_fc w24_lf hc _) (cwV 1 hts gX5_on_X5_found rfl rfl rfl ⟨rfl, hd_X5_found⟩ ⟨Nat.le_of_ble_eq_true rfl, Nat.le_of_ble_eq_true rfl⟩) (preV_rw hP hKK hD (va_recv hK hP (ci := 3) (q0 := 0) rfl wPW_0)) rfl rfl hl.1 rfl (lv_room (Nat.le_of_ble_eq_true rfl)) dX5_on_24 ⟨Nat.zero_le _, Nat.zero_le _⟩) hS hFc (fun H1 locs hP1 hD1 hz1 hkk hS => ?_)
        have hP : va_P D vwCl (wPW T ad (ad 6) (ad 12) rs rm ts tm rdue rtun rsee rbeg psize pclause peff pkin pgri psig psee qsize qclause qeff qkin qgri qsig qsee cdee cnow cahe kdee know kahe w24_fc w24_lf told up lo) H1 := hP1
        have hD : va_D A (wPW T ad (ad 6) (ad 12) rs rm ts tm rdue rtun rsee rbeg psize pclause peff pkin pgri psig psee qsize qclause qeff qkin qgri qsig qsee cdee cnow cahe kdee know kahe w24_fc w24_lf told up lo) := hD1.weaken (fun _ q _ h => hFc q.1 h)
        generalize H1 = H at hP hS ⊢
        cases h
        exact hret _ _ _ _ hP hD hS dX5_on_27
    · have h := br_1 h c4
      refine lv_iconst (v := (-1 : Int32)) hx hb dX5_on_7 (by decide) ?_
      cases h
      exact hret _ _ _ _ hP hD hS dX5_on_8
  exact key _ (fun H locs pc ls hP hD hS hd => W.iret hx hb hr (fun t ht hW => ⟨⟨_, (), rfl, rfl, by show _ ∧ _; rw [ht]; exact ⟨hP, hD⟩⟩, hS.F ht⟩) hS.2.2 hd)
set_option maxHeartbeats 4000000 in
set_option maxRecDepth 100000 in
theorem kX5_out (l : Launch) (D : va_G) (T : Nat → ClassId) (F : Nat) (ad : Nat → Nat) (rs : Nat → Int32) (rm : Nat → Nat → Int32) (ts : Nat → Int32) (tm : Nat → Nat → Int32) (rdue : Int32) (rtun : Int32) (rsee : Int32) (rbeg : Int32) (psize : Int32) (pclause : Int32) (peff : Nat → Int32) (pkin : Nat → Int32) (pgri : Nat → Int32) (psig : Nat → Int32) (psee : Nat → Int32) (qsize : Int32) (qclause : Int32) (qeff : Nat → Int32) (qkin : Nat → Int32) (qgri : Nat → Int32) (qsig : Nat → Int32) (qsee : Nat → Int32) (cdee : Int32) (cnow : Int64) (cahe : Nat → Int64) (kdee : Nat → Int32) (know : Nat → Int64) (kahe : Nat → Nat → Int64) (fc : Nat → Int32) (lf : Int32) (told : Int32) (up : Int64) (lo : Int64) (x1 : Int32) (r : Int32) (ztold : Int32) (h : fX5_out F psize pclause peff pkin psee cnow told x1 = some (r, ztold)) : ∀ sz : Nat, Met l yX5_out wsX5_out ({ frames := 4, cells := 0, slots := 0, locals := 102 } : Room) (va_Pc [.ref (ad 0), .int x1] (fun U => U.heap.size = sz ∧ va_P D vwCl (wPW T ad (ad 6) (ad 12) rs rm ts tm rdue rtun rsee rbeg psize pclause peff pkin pgri psig psee qsize qclause qeff qkin qgri qsig qsee cdee cnow cahe kdee know kahe fc lf told up lo) U.heap ∧ KK D T U ∧ va_D (fun _ => True) (wPW T ad (ad 6) (ad 12) rs rm ts tm rdue rtun rsee rbeg psize pclause peff pkin pgri psig psee qsize qclause qeff qkin qgri qsig qsee cdee cnow cahe kdee know kahe fc lf told up lo))) (va_Qi (fun r' (_ : Unit) => r' = r) (fun _ t => va_P D vwCl (wPW T ad (ad 6) (ad 12) rs rm ts tm rdue rtun rsee rbeg psize pclause peff pkin pgri psig psee qsize qclause qeff qkin qgri qsig qsee cdee cnow cahe kdee know kahe fc lf ztold up lo) t.heap ∧ va_D (va_A (wPW T ad (ad 6) (ad 12) rs rm ts tm rdue rtun rsee rbeg psize pclause peff pkin pgri psig psee qsize qclause qeff qkin qgri qsig qsee cdee cnow cahe kdee know kahe fc lf told up lo) sz) (wPW T ad (ad 6) (ad 12) rs rm ts tm rdue rtun rsee rbeg psize pclause peff pkin pgri psig psee qsize qclause qeff qkin qgri qsig qsee cdee cnow cahe kdee know kahe fc lf ztold up lo)) (va_A (wPW T ad (ad 6) (ad 12) rs rm ts tm rdue rtun rsee rbeg psize pclause peff pkin pgri psig psee qsize qclause qeff qkin qgri qsig qsee cdee cnow cahe kdee know kahe fc lf told up lo) sz)) 0 0 (va_A (wPW T ad (ad 6) (ad 12) rs rm ts tm rdue rtun rsee rbeg psize pclause peff pkin pgri psig psee qsize qclause qeff qkin qgri qsig qsee cdee cnow cahe kdee know kahe fc lf told up lo) sz) := by
  intro sz
  refine Met.ofW (cc := cX5_out) (maxL := 4) (ret := some .int) (by decide) rfl ?_
  intro p e s m args below meth c s₁ B hml hv
  obtain ⟨ha, hsz, hP, hKK, hD0⟩ := hv
  have hx := B.exec
  have hb := B.bytes
  have hr := B.returns
  have hts := atoms_spec (ws := wsX5_out) B.pre
  have hown : s.vm.findClass RX5 = some m.cls := findClass_of_methodNamed B.named
  have hlocks := B.notSynchronized
  have hK := hKK.1
  have hFix : CallFix p m c cX5_out 4 s args wsX5_out RX5 := ⟨hx, hb, hml, hown, hts⟩
  have q1 := hts _ (List.mem_of_getElem? (i := 1) (show wsX5_out[1]? = some (Cond.fieldLink RX5 36 "PartyWill" "party" "LPartyWill$Party;") from rfl))
  have q2 := hts _ (List.mem_of_getElem? (i := 2) (show wsX5_out[2]? = some (Cond.fieldLink RX5 46 "PartyWill" "course" "LPartyWill$Course;") from rfl))
  have q3 := hts _ (List.mem_of_getElem? (i := 3) (show wsX5_out[3]? = some (Cond.fieldLink RX5 61 "PartyWill" "told" "I") from rfl))
  have q8 := hts _ (List.mem_of_getElem? (i := 8) (show wsX5_out[8]? = some (Cond.instanceMethod yX2_afterTune) from rfl))
  have q9 := hts _ (List.mem_of_getElem? (i := 9) (show wsX5_out[9]? = some (Cond.initialized RX2) from rfl))
  have q10 := hts _ (List.mem_of_getElem? (i := 10) (show wsX5_out[10]? = some (Cond.selects RX2 yX2_afterTune yX2_afterTune) from rfl))
  have q16 := hts _ (List.mem_of_getElem? (i := 16) (show wsX5_out[16]? = some (Cond.initialized RX1) from rfl))
  have q48 := hts _ (List.mem_of_getElem? (i := 48) (show wsX5_out[48]? = some (Cond.static yX1_insiders) from rfl))
  have q58 := hts _ (List.mem_of_getElem? (i := 58) (show wsX5_out[58]? = some (Cond.static yX1_griefOfAll) from rfl))
  have iX0 : ∀ w ∈ u_ws RX0 TX0 3, w ∈ wsX5_out := fun w h => List.mem_cons_of_mem _ (List.mem_append_left _ (List.mem_append_right _ (h)))
  have iX5 : ∀ w ∈ u_ws RX5 TX5 14, w ∈ wsX5_out := fun w h => List.mem_cons_of_mem _ (List.mem_append_left _ (List.mem_append_left _ (List.mem_append_right _ (h))))
  subst hsz
  have hD := hD0.self (sz := s.heap.size)
  generalize hAe : va_A (wPW T ad (ad 6) (ad 12) rs rm ts tm rdue rtun rsee rbeg psize pclause peff pkin pgri psig psee qsize qclause qeff qkin qgri qsig qsee cdee cnow cahe kdee know kahe fc lf told up lo) s.heap.size = A at hD ⊢
  have hA : ∀ q : Nat, s.heap.size ≤ q → A q := fun q h => by rw [← hAe]; exact Or.inr h
  have hS : va_S A s.heap s.heap [] := va_S.rf
  have hP : va_P D vwCl (wPW T ad (ad 6) (ad 12) rs rm ts tm rdue rtun rsee rbeg psize pclause peff pkin pgri psig psee qsize qclause qeff qkin qgri qsig qsee cdee cnow cahe kdee know kahe fc lf told up lo) s.heap := hP
  obtain ⟨ls, hl, e0⟩ := my_entry (m := m) (n := 4) ha (Nat.le_of_ble_eq_true rfl)
  rw [e0]
  have hl : lv_has ls 4 [(0, .ref (ad 0)), (1, .int x1)] := hl
  have key : ∀ Q : State → Prop, (∀ (H : Heap) (locs : List Loc) (pc : Nat) (ls : Array Slot), va_P D vwCl (wPW T ad (ad 6) (ad 12) rs rm ts tm rdue rtun rsee rbeg psize pclause peff pkin pgri psig psee qsize qclause qeff qkin qgri qsig qsee cdee cnow cahe kdee know kahe fc lf ztold up lo) H → va_D A (wPW T ad (ad 6) (ad 12) rs rm ts tm rdue rtun rsee rbeg psize pclause peff pkin pgri psig psee qsize qclause qeff qkin qgri qsig qsee cdee cnow cahe kdee know kahe fc lf ztold up lo) → va_S A s.heap H locs → decode cX5_out pc = .ok (.ireturn, 1) → W p l e ({ frames := 4, cells := 0, slots := 0, locals := 102 } : Room) s m args below meth c H locs 0 0 Q (F0 m pc ls [.int r])) → W p l e ({ frames := 4, cells := 0, slots := 0, locals := 102 } : Room) s m args below meth c s.heap [] 0 0 Q (F0 m 0 ls []) := by
    intro Q hret
    skip
    unfold fX5_out at h
    refine lv_iload_n hx hb dX5_out_0 rfl (lv_at hl 1 rfl) ?_
    obtain ⟨r1, hc, h⟩ := bd1_some h
    refine my_roz (va_Run.run (va_runS (As := [.int x1]) (rest := []) hFix (kX5_isTune l D T F x1 r1 hc) (va_cwS 1 hts gX5_out_X5_isTune rfl rfl rfl hd_X5_isTune ⟨Nat.le_of_ble_eq_true rfl, Nat.le_of_ble_eq_true rfl⟩) (preS_ro va_nil hKK) rfl rfl hl.1 rfl (lv_room (Nat.le_of_ble_eq_true rfl)) dX5_out_1 ⟨Nat.zero_le _, Nat.zero_le _⟩)) (fun hb1 => ?_)
    refine lv_if_ne (tgt := 9) hx hb dX5_out_4 (by decide) (fun c4 => ?_) (fun c4 => ?_)
    · have h := br_0 h c4
      refine lv_aload_n hx hb dX5_out_9 rfl (lv_at hl 0 rfl) ?_
      refine va_get (D := D) (ci := 3) (C := RX5) (T := TX5) (N := 14) hx hb hts iX5 hown hK hP 0 wPW_0 rfl 5 (by decide) q1 (fun _ h9 => h9) rfl dX5_out_10 ?_
      refine lv_aload_n hx hb dX5_out_13 rfl (lv_at hl 0 rfl) ?_
      refine va_get (D := D) (ci := 3) (C := RX5) (T := TX5) (N := 14) hx hb hts iX5 hown hK hP 0 wPW_0 rfl 7 (by decide) q2 (fun _ h9 => h9) rfl dX5_out_14 ?_
      refine va_getN (host := "PartyWill") (D := D) (ci := 0) (C := RX0) (T := TX0) (N := 3) hx hb hts iX0 hown hK hP 18 wPW_18 rfl 1 (by decide) (va_Nw.use rfl (nw_X5_127 hKK.2)) (fun _ h9 => h9) rfl dX5_out_17 ?_
      refine lv_iload_n hx hb dX5_out_20 rfl (lv_at hl 1 rfl) ?_
      obtain ⟨r21, hc, h⟩ := bd1_some h
      have hPc : va_P D vwCl (wPa T (ad 6) (ad 7) (ad 8) (ad 9) (ad 10) (ad 11) psize pclause peff pkin pgri psig psee) _ := my_subP sb_wPW_wPa_6to11 hP
      refine my_rol (va_Run.run (va_runVN (host := "PartyWill") (As := [.long cnow, .int x1]) (rest := []) hFix (kX2_afterTune l D T F (ad 6) (ad 7) (ad 8) (ad 9) (ad 10) (ad 11) psize pclause peff pkin pgri psig psee cnow x1 r21 hc) ⟨va_cnB 2 hts gX5_out_X2_afterTune_n162 rfl rfl rfl (nw_X5_162 hKK.2) q9 hd_X2_afterTune ⟨Nat.le_of_ble_eq_true rfl, Nat.le_of_ble_eq_true rfl⟩, q8, q10⟩ (preV_ro hPc hKK (va_recv hK hP (ci := 1) (q0 := 6) rfl wPW_6)) rfl rfl hl.1 rfl (lv_room (Nat.le_of_ble_eq_true rfl)) dX5_out_21 ⟨Nat.zero_le _, Nat.zero_le _⟩)) ?_
      refine lv_lstore_n (lv' := [(2, .long r21), (0, .ref (ad 0)), (1, .int x1)]) hx hb dX5_out_24 rfl hl (by decide) rfl (fun ls hl => ?_)
      refine lv_aload_n hx hb dX5_out_25 rfl (lv_at hl 1 rfl) ?_
      refine lv_lload_n hx hb dX5_out_26 rfl (lv_at hl 0 rfl) ?_
      obtain ⟨r27, hc, h⟩ := bd1_some h
      refine my_roi (va_Run.run (va_runSN (host := "PartyWill") (As := [.long r21]) (rest := [.ref (ad 0)]) hFix (kX1_griefOfAll l D T F r21 r27 hc) ⟨va_cnB 1 hts gX5_out_X1_griefOfAll_n192 rfl rfl rfl (nw_X5_192 hKK.2) q16 hd_X1_griefOfAll ⟨Nat.le_of_ble_eq_true rfl, Nat.le_of_ble_eq_true rfl⟩, q58, trivial⟩ (preS_ro va_nil hKK) rfl rfl hl.1 rfl (lv_room (Nat.le_of_ble_eq_true rfl)) dX5_out_27 ⟨Nat.zero_le _, Nat.zero_le _⟩)) ?_
      refine va_put (D := D) (ci := 3) (v := .int r27) (ty := .int) (C := RX5) (T := TX5) (N := 14) hx hb hts iX5 tyX5 tyX5_ok nmX5 hown hK hP hD hS 0 wPW_0 rfl 11 (by decide) q3 (fun _ h9 => h9) rfl (by decide +kernel) rfl rfl (Nat.le_of_ble_eq_true rfl) dX5_out_30 (fun H locs hP hD hS => ?_)
      have hP : va_P D vwCl (wPW T ad (ad 6) (ad 12) rs rm ts tm rdue rtun rsee rbeg psize pclause peff pkin pgri psig psee qsize qclause qeff qkin qgri qsig qsee cdee cnow cahe kdee know kahe fc lf r27 up lo) H := hP
      have hD : va_D A (wPW T ad (ad 6) (ad 12) rs rm ts tm rdue rtun rsee rbeg psize pclause peff pkin pgri psig psee qsize qclause qeff qkin qgri qsig qsee cdee cnow cahe kdee know kahe fc lf r27 up lo) := hD
      refine lv_aload_n hx hb dX5_out_33 rfl (lv_at hl 1 rfl) ?_
      refine va_get (D := D) (ci := 3) (C := RX5) (T := TX5) (N := 14) hx hb hts iX5 hown hK hP 0 wPW_0 rfl 7 (by decide) q2 (fun _ h9 => h9) rfl dX5_out_34 ?_
      refine va_getN (host := "PartyWill") (D := D) (ci := 0) (C := RX0) (T := TX0) (N := 3) hx hb hts iX0 hown hK hP 18 wPW_18 rfl 1 (by decide) (va_Nw.use rfl (nw_X5_127 hKK.2)) (fun _ h9 => h9) rfl dX5_out_37 ?_
      obtain ⟨r40, hc, h⟩ := bd1_some h
      refine my_roi (va_Run.run (va_runSN (host := "PartyWill") (As := [.long cnow]) (rest := []) hFix (kX1_insiders l D T F cnow r40 hc) ⟨va_cnB 1 hts gX5_out_X1_insiders_n158 rfl rfl rfl (nw_X5_158 hKK.2) q16 hd_X1_insiders ⟨Nat.le_of_ble_eq_true rfl, Nat.le_of_ble_eq_true rfl⟩, q48, trivial⟩ (preS_ro va_nil hKK) rfl rfl hl.1 rfl (lv_room (Nat.le_of_ble_eq_true rfl)) dX5_out_40 ⟨Nat.zero_le _, Nat.zero_le _⟩)) ?_
      refine lv_lload_n hx hb dX5_out_43 rfl (lv_at hl 0 rfl) ?_
      obtain ⟨r44, hc, h⟩ := bd1_some h
      refine my_roi (va_Run.run (va_runSN (host := "PartyWill") (As := [.long r21]) (rest := [.int r40]) hFix (kX1_insiders l D T F r21 r44 hc) ⟨va_cnB 1 hts gX5_out_X1_insiders_n158 rfl rfl rfl (nw_X5_158 hKK.2) q16 hd_X1_insiders ⟨Nat.le_of_ble_eq_true rfl, Nat.le_of_ble_eq_true rfl⟩, q48, trivial⟩ (preS_ro va_nil hKK) rfl rfl hl.1 rfl (lv_room (Nat.le_of_ble_eq_true rfl)) dX5_out_44 ⟨Nat.zero_le _, Nat.zero_le _⟩)) ?_
      refine lv_iconst (v := (-1 : Int32)) hx hb dX5_out_47 (by decide) ?_
      refine lv_ixor hx hb dX5_out_48 ?_
      refine lv_iand hx hb dX5_out_49 ?_
      cases h
      exact hret _ _ _ _ hP hD hS dX5_out_50
    · have h := br_1 h c4
      refine lv_iconst (v := (-1 : Int32)) hx hb dX5_out_7 (by decide) ?_
      cases h
      exact hret _ _ _ _ hP hD hS dX5_out_8
  exact key _ (fun H locs pc ls hP hD hS hd => W.iret hx hb hr (fun t ht hW => ⟨⟨_, (), rfl, rfl, by show _ ∧ _; rw [ht]; exact ⟨hP, hD⟩⟩, hS.F ht⟩) hS.2.2 hd)
set_option maxHeartbeats 4000000 in
set_option maxRecDepth 100000 in
theorem kX5_safe (l : Launch) (D : va_G) (T : Nat → ClassId) (F : Nat) (ad : Nat → Nat) (rs : Nat → Int32) (rm : Nat → Nat → Int32) (ts : Nat → Int32) (tm : Nat → Nat → Int32) (rdue : Int32) (rtun : Int32) (rsee : Int32) (rbeg : Int32) (psize : Int32) (pclause : Int32) (peff : Nat → Int32) (pkin : Nat → Int32) (pgri : Nat → Int32) (psig : Nat → Int32) (psee : Nat → Int32) (qsize : Int32) (qclause : Int32) (qeff : Nat → Int32) (qkin : Nat → Int32) (qgri : Nat → Int32) (qsig : Nat → Int32) (qsee : Nat → Int32) (cdee : Int32) (cnow : Int64) (cahe : Nat → Int64) (kdee : Nat → Int32) (know : Nat → Int64) (kahe : Nat → Nat → Int64) (fc : Nat → Int32) (lf : Int32) (told : Int32) (up : Int64) (lo : Int64) (r : Int32) (h : fX5_safe F psize pclause peff pkin psee cnow = some (r)) : Met l yX5_safe wsX5_safe ({ frames := 4, cells := 0, slots := 0, locals := 102 } : Room) (va_Pc [.ref (ad 0)] (fun U => va_P D vwCl (wPW T ad (ad 6) (ad 12) rs rm ts tm rdue rtun rsee rbeg psize pclause peff pkin pgri psig psee qsize qclause qeff qkin qgri qsig qsee cdee cnow cahe kdee know kahe fc lf told up lo) U.heap ∧ KK D T U)) (vp_Si (fun r' => r' = r)) 0 0 (fun _ => False) := by
  refine Met.ofW (cc := cX5_safe) (maxL := 3) (ret := some .int) (by decide) rfl ?_
  intro p e s m args below meth c s₁ B hml hv
  obtain ⟨ha, hP, hKK⟩ := hv
  have hx := B.exec
  have hb := B.bytes
  have hr := B.returns
  have hts := atoms_spec (ws := wsX5_safe) B.pre
  have hown : s.vm.findClass RX5 = some m.cls := findClass_of_methodNamed B.named
  have hlocks := B.notSynchronized
  have hK := hKK.1
  have hFix : CallFix p m c cX5_safe 3 s args wsX5_safe RX5 := ⟨hx, hb, hml, hown, hts⟩
  have q1 := hts _ (List.mem_of_getElem? (i := 1) (show wsX5_safe[1]? = some (Cond.fieldLink RX5 36 "PartyWill" "party" "LPartyWill$Party;") from rfl))
  have q2 := hts _ (List.mem_of_getElem? (i := 2) (show wsX5_safe[2]? = some (Cond.fieldLink RX5 46 "PartyWill" "course" "LPartyWill$Course;") from rfl))
  have q3 := hts _ (List.mem_of_getElem? (i := 3) (show wsX5_safe[3]? = some (Cond.instanceMethod yX2_afterTune) from rfl))
  have q4 := hts _ (List.mem_of_getElem? (i := 4) (show wsX5_safe[4]? = some (Cond.initialized RX2) from rfl))
  have q5 := hts _ (List.mem_of_getElem? (i := 5) (show wsX5_safe[5]? = some (Cond.selects RX2 yX2_afterTune yX2_afterTune) from rfl))
  have q11 := hts _ (List.mem_of_getElem? (i := 11) (show wsX5_safe[11]? = some (Cond.initialized RX1) from rfl))
  have q43 := hts _ (List.mem_of_getElem? (i := 43) (show wsX5_safe[43]? = some (Cond.static yX1_insiders) from rfl))
  have iX0 : ∀ w ∈ u_ws RX0 TX0 3, w ∈ wsX5_safe := fun w h => List.mem_cons_of_mem _ (List.mem_append_right _ (h))
  have iX2 : ∀ w ∈ u_ws RX2 TX2 7, w ∈ wsX5_safe := fun w h => List.mem_cons_of_mem _ (List.mem_append_left _ (List.mem_append_right _ (h)))
  have iX5 : ∀ w ∈ u_ws RX5 TX5 14, w ∈ wsX5_safe := fun w h => List.mem_cons_of_mem _ (List.mem_append_left _ (List.mem_append_left _ (List.mem_append_right _ (h))))
  obtain ⟨ls, hl, e0⟩ := my_entry (m := m) (n := 3) ha (Nat.le_of_ble_eq_true rfl)
  rw [e0]
  have hl : lv_has ls 3 [(0, .ref (ad 0))] := hl
  have key : ∀ Q : State → Prop, (∀ (pc : Nat) (ls : Array Slot), decode cX5_safe pc = .ok (.ireturn, 1) → W p l e ({ frames := 4, cells := 0, slots := 0, locals := 102 } : Room) s m args below meth c s.heap [] 0 0 Q (F0 m pc ls [.int r])) → W p l e ({ frames := 4, cells := 0, slots := 0, locals := 102 } : Room) s m args below meth c s.heap [] 0 0 Q (F0 m 0 ls []) := by
    intro Q hret
    have l17 : ∀ nu : Nat, ∀ x1 : Int32, ∀ x2 : Int32, fX5_safe_l17 F psize pclause peff pkin psee cnow nu x1 x2 = some (r) → ∀ (ls : Array Slot), lv_has ls 3 [(0, .ref (ad 0)), (1, .int x1), (2, .int x2)] → W p l e ({ frames := 4, cells := 0, slots := 0, locals := 102 } : Room) s m args below meth c s.heap [] 0 0 Q (F0 m 17 ls []) := by
      intro nu
      induction nu with
      | zero => intro x1 x2 h; exact none_some h
      | succ nu17 ih17 =>
        intro x1 x2 h ls hl
        have h : fX5_safe_l17_b F psize pclause peff pkin psee cnow (fX5_safe_l17 F psize pclause peff pkin psee cnow nu17) x1 x2 = some (r) := h
        unfold fX5_safe_l17_b at h
        refine lv_iload_n hx hb dX5_safe_17 rfl (lv_at hl 2 rfl) ?_
        refine lv_iconst (v := (4 : Int32)) hx hb dX5_safe_18 (by decide) ?_
        refine lv_icmp_ge (tgt := 65) hx hb dX5_safe_19 (by decide) (fun c19 => ?_) (fun c19 => ?_)
        · have h := br_1 h c19
          refine lv_iload_n hx hb dX5_safe_65 rfl (lv_at hl 1 rfl) ?_
          cases h
          exact hret _ _ dX5_safe_66
        · have h := br_0 h c19
          refine lv_aload_n hx hb dX5_safe_22 rfl (lv_at hl 0 rfl) ?_
          refine va_get (D := D) (ci := 3) (C := RX5) (T := TX5) (N := 14) hx hb hts iX5 hown hK hP 0 wPW_0 rfl 5 (by decide) q1 (fun _ h9 => h9) rfl dX5_safe_23 ?_
          refine lv_aload_n hx hb dX5_safe_26 rfl (lv_at hl 0 rfl) ?_
          refine va_get (D := D) (ci := 3) (C := RX5) (T := TX5) (N := 14) hx hb hts iX5 hown hK hP 0 wPW_0 rfl 7 (by decide) q2 (fun _ h9 => h9) rfl dX5_safe_27 ?_
          refine va_getN (host := "PartyWill") (D := D) (ci := 0) (C := RX0) (T := TX0) (N := 3) hx hb hts iX0 hown hK hP 18 wPW_18 rfl 1 (by decide) (va_Nw.use rfl (nw_X5_127 hKK.2)) (fun _ h9 => h9) rfl dX5_safe_30 ?_
          refine lv_iload_n hx hb dX5_safe_33 rfl (lv_at hl 2 rfl) ?_
          obtain ⟨r34, hc, h⟩ := bd1_some h
          have hPc : va_P D vwCl (wPa T (ad 6) (ad 7) (ad 8) (ad 9) (ad 10) (ad 11) psize pclause peff pkin pgri psig psee) _ := my_subP sb_wPW_wPa_6to11 hP
          refine my_rol (va_Run.run (va_runVN (host := "PartyWill") (As := [.long cnow, .int x2]) (rest := []) hFix (kX2_afterTune l D T F (ad 6) (ad 7) (ad 8) (ad 9) (ad 10) (ad 11) psize pclause peff pkin pgri psig psee cnow x2 r34 hc) ⟨va_cnB 2 hts gX5_safe_X2_afterTune_n162 rfl rfl rfl (nw_X5_162 hKK.2) q4 hd_X2_afterTune ⟨Nat.le_of_ble_eq_true rfl, Nat.le_of_ble_eq_true rfl⟩, q3, q5⟩ (preV_ro hPc hKK (va_recv hK hP (ci := 1) (q0 := 6) rfl wPW_6)) rfl rfl hl.1 rfl (lv_room (Nat.le_of_ble_eq_true rfl)) dX5_safe_34 ⟨Nat.zero_le _, Nat.zero_le _⟩)) ?_
          obtain ⟨r37, hc, h⟩ := bd1_some h
          refine my_roi (va_Run.run (va_runSN (host := "PartyWill") (As := [.long r34]) (rest := []) hFix (kX1_insiders l D T F r34 r37 hc) ⟨va_cnB 1 hts gX5_safe_X1_insiders_n158 rfl rfl rfl (nw_X5_158 hKK.2) q11 hd_X1_insiders ⟨Nat.le_of_ble_eq_true rfl, Nat.le_of_ble_eq_true rfl⟩, q43, trivial⟩ (preS_ro va_nil hKK) rfl rfl hl.1 rfl (lv_room (Nat.le_of_ble_eq_true rfl)) dX5_safe_37 ⟨Nat.zero_le _, Nat.zero_le _⟩)) ?_
          refine lv_aload_n hx hb dX5_safe_40 rfl (lv_at hl 0 rfl) ?_
          refine va_get (D := D) (ci := 3) (C := RX5) (T := TX5) (N := 14) hx hb hts iX5 hown hK hP 0 wPW_0 rfl 7 (by decide) q2 (fun _ h9 => h9) rfl dX5_safe_41 ?_
          refine va_getN (host := "PartyWill") (D := D) (ci := 0) (C := RX0) (T := TX0) (N := 3) hx hb hts iX0 hown hK hP 18 wPW_18 rfl 1 (by decide) (va_Nw.use rfl (nw_X5_127 hKK.2)) (fun _ h9 => h9) rfl dX5_safe_44 ?_
          obtain ⟨r47, hc, h⟩ := bd1_some h
          refine my_roi (va_Run.run (va_runSN (host := "PartyWill") (As := [.long cnow]) (rest := [.int r37]) hFix (kX1_insiders l D T F cnow r47 hc) ⟨va_cnB 1 hts gX5_safe_X1_insiders_n158 rfl rfl rfl (nw_X5_158 hKK.2) q11 hd_X1_insiders ⟨Nat.le_of_ble_eq_true rfl, Nat.le_of_ble_eq_true rfl⟩, q43, trivial⟩ (preS_ro va_nil hKK) rfl rfl hl.1 rfl (lv_room (Nat.le_of_ble_eq_true rfl)) dX5_safe_47 ⟨Nat.zero_le _, Nat.zero_le _⟩)) ?_
          refine lv_icmp_ne (tgt := 59) hx hb dX5_safe_50 (by decide) (fun c50 => ?_) (fun c50 => ?_)
          · have h := br_0 h c50
            refine lv_iinc (v := (x2 + (1 : Int32))) (lv' := [(2, .int (x2 + (1 : Int32))), (0, .ref (ad 0)), (1, .int x1)]) hx hb dX5_safe_59 hl (k := 2) rfl rfl (by decide) rfl (fun ls hl => ?_)
            refine lv_goto (tgt := 17) hx hb dX5_safe_62 (by decide) ?_
            exact ih17 x1 (x2 + (1 : Int32)) h _ (lv_sub hl [1, 2, 0] rfl)
          · have h := br_1 h c50
            refine lv_iload_n hx hb dX5_safe_53 rfl (lv_at hl 1 rfl) ?_
            refine lv_iconst (v := (1 : Int32)) hx hb dX5_safe_54 (by decide) ?_
            refine lv_iload_n hx hb dX5_safe_55 rfl (lv_at hl 2 rfl) ?_
            refine lv_ishl hx hb dX5_safe_56 ?_
            refine lv_ior hx hb dX5_safe_57 ?_
            refine lv_istore_n (lv' := [(1, .int (x1 ||| ((1 : Int32) <<< (x2 &&& 31)))), (0, .ref (ad 0)), (2, .int x2)]) hx hb dX5_safe_58 rfl hl (by decide) rfl (fun ls hl => ?_)
            refine lv_iinc (v := (x2 + (1 : Int32))) (lv' := [(2, .int (x2 + (1 : Int32))), (1, .int (x1 ||| ((1 : Int32) <<< (x2 &&& 31)))), (0, .ref (ad 0))]) hx hb dX5_safe_59 hl (k := 2) rfl rfl (by decide) rfl (fun ls hl => ?_)
            refine lv_goto (tgt := 17) hx hb dX5_safe_62 (by decide) ?_
            exact ih17 (x1 ||| ((1 : Int32) <<< (x2 &&& 31))) (x2 + (1 : Int32)) h _ (lv_sub hl [2, 1, 0] rfl)
    unfold fX5_safe at h
    refine lv_aload_n hx hb dX5_safe_0 rfl (lv_at hl 0 rfl) ?_
    refine va_get (D := D) (ci := 3) (C := RX5) (T := TX5) (N := 14) hx hb hts iX5 hown hK hP 0 wPW_0 rfl 5 (by decide) q1 (fun _ h9 => h9) rfl dX5_safe_1 ?_
    refine va_getN (host := "PartyWill") (D := D) (ci := 1) (C := RX2) (T := TX2) (N := 7) hx hb hts iX2 hown hK hP 6 wPW_6 rfl 0 (by decide) (va_Nw.use rfl (nw_X5_111 hKK.2)) (fun _ h9 => h9) rfl dX5_safe_4 ?_
    refine lv_if_ne (tgt := 13) hx hb dX5_safe_7 (by decide) (fun c7 => ?_) (fun c7 => ?_)
    · have h := br_0 h c7
      refine lv_iconst (v := (0 : Int32)) hx hb dX5_safe_13 (by decide) ?_
      refine lv_istore_n (lv' := [(1, .int (0 : Int32)), (0, .ref (ad 0))]) hx hb dX5_safe_14 rfl hl (by decide) rfl (fun ls hl => ?_)
      refine lv_iconst (v := (0 : Int32)) hx hb dX5_safe_15 (by decide) ?_
      refine lv_istore_n (lv' := [(2, .int (0 : Int32)), (1, .int (0 : Int32)), (0, .ref (ad 0))]) hx hb dX5_safe_16 rfl hl (by decide) rfl (fun ls hl => ?_)
      exact l17 F (0 : Int32) (0 : Int32) h _ (lv_sub hl [2, 1, 0] rfl)
    · have h := br_1 h c7
      refine lv_bipush (v := (-4 : Int32)) hx hb dX5_safe_10 (by decide) ?_
      cases h
      exact hret _ _ dX5_safe_12
  exact key _ (fun pc ls hd => W.iret hx hb hr (fun t ht hW => ⟨_, rfl, rfl, ht⟩) (fun q h => by cases h) hd)
set_option maxHeartbeats 4000000 in
set_option maxRecDepth 100000 in
theorem kX5_programmeFinding (l : Launch) (D : va_G) (T : Nat → ClassId) (F : Nat) (ad : Nat → Nat) (rs : Nat → Int32) (rm : Nat → Nat → Int32) (ts : Nat → Int32) (tm : Nat → Nat → Int32) (rdue : Int32) (rtun : Int32) (rsee : Int32) (rbeg : Int32) (psize : Int32) (pclause : Int32) (peff : Nat → Int32) (pkin : Nat → Int32) (pgri : Nat → Int32) (psig : Nat → Int32) (psee : Nat → Int32) (qsize : Int32) (qclause : Int32) (qeff : Nat → Int32) (qkin : Nat → Int32) (qgri : Nat → Int32) (qsig : Nat → Int32) (qsee : Nat → Int32) (cdee : Int32) (cnow : Int64) (cahe : Nat → Int64) (kdee : Nat → Int32) (know : Nat → Int64) (kahe : Nat → Nat → Int64) (fc : Nat → Int32) (lf : Int32) (told : Int32) (up : Int64) (lo : Int64) (x1 : Int32) (r : Int32) (h : fX5_programmeFinding F rs rm x1 = some (r)) : Met l yX5_programmeFinding wsX5_programmeFinding ({ frames := 1, cells := 0, slots := 0, locals := 20 } : Room) (va_Pc [.ref (ad 0), .int x1] (fun U => va_P D vwCl (wPW T ad (ad 6) (ad 12) rs rm ts tm rdue rtun rsee rbeg psize pclause peff pkin pgri psig psee qsize qclause qeff qkin qgri qsig qsee cdee cnow cahe kdee know kahe fc lf told up lo) U.heap ∧ KK D T U)) (vp_Si (fun r' => r' = r)) 0 0 (fun _ => False) := by
  refine Met.ofW (cc := cX5_programmeFinding) (maxL := 3) (ret := some .int) (by decide) rfl ?_
  intro p e s m args below meth c s₁ B hml hv
  obtain ⟨ha, hP, hKK⟩ := hv
  have hx := B.exec
  have hb := B.bytes
  have hr := B.returns
  have hts := atoms_spec (ws := wsX5_programmeFinding) B.pre
  have hown : s.vm.findClass RX5 = some m.cls := findClass_of_methodNamed B.named
  have hlocks := B.notSynchronized
  have hK := hKK.1
  have hFix : CallFix p m c cX5_programmeFinding 3 s args wsX5_programmeFinding RX5 := ⟨hx, hb, hml, hown, hts⟩
  have q1 := hts _ (List.mem_of_getElem? (i := 1) (show wsX5_programmeFinding[1]? = some (Cond.fieldLink RX5 14 "PartyWill" "rowSizes" "[I") from rfl))
  have q2 := hts _ (List.mem_of_getElem? (i := 2) (show wsX5_programmeFinding[2]? = some (Cond.fieldLink RX5 11 "PartyWill" "rows" "[[I") from rfl))
  have iX5 : ∀ w ∈ u_ws RX5 TX5 14, w ∈ wsX5_programmeFinding := fun w h => List.mem_cons_of_mem _ (List.mem_append_right _ (h))
  obtain ⟨ls, hl, e0⟩ := my_entry (m := m) (n := 3) ha (Nat.le_of_ble_eq_true rfl)
  rw [e0]
  have hl : lv_has ls 3 [(0, .ref (ad 0)), (1, .int x1)] := hl
  have key : ∀ Q : State → Prop, (∀ (pc : Nat) (ls : Array Slot), decode cX5_programmeFinding pc = .ok (.ireturn, 1) → W p l e ({ frames := 1, cells := 0, slots := 0, locals := 20 } : Room) s m args below meth c s.heap [] 0 0 Q (F0 m pc ls [.int r])) → W p l e ({ frames := 1, cells := 0, slots := 0, locals := 20 } : Room) s m args below meth c s.heap [] 0 0 Q (F0 m 0 ls []) := by
    intro Q hret
    have l27 : ∀ x1 : Int32, ∀ nu : Nat, ∀ x2 : Int32, fX5_programmeFinding_l27 F rs rm x1 nu x2 = some (r) → ∀ (ls : Array Slot), lv_has ls 3 [(0, .ref (ad 0)), (1, .int x1), (2, .int x2)] → W p l e ({ frames := 1, cells := 0, slots := 0, locals := 20 } : Room) s m args below meth c s.heap [] 0 0 Q (F0 m 27 ls []) := by
      intro x1
      intro nu
      induction nu with
      | zero => intro x2 h; exact none_some h
      | succ nu27 ih27 =>
        intro x2 h ls hl
        have h : fX5_programmeFinding_l27_b F rs rm x1 (fX5_programmeFinding_l27 F rs rm x1 nu27) x2 = some (r) := h
        unfold fX5_programmeFinding_l27_b at h
        refine lv_iload_n hx hb dX5_programmeFinding_27 rfl (lv_at hl 2 rfl) ?_
        refine lv_aload_n hx hb dX5_programmeFinding_28 rfl (lv_at hl 0 rfl) ?_
        refine va_get (D := D) (ci := 3) (C := RX5) (T := TX5) (N := 14) hx hb hts iX5 hown hK hP 0 wPW_0 rfl 1 (by decide) q1 (fun _ h9 => h9) rfl dX5_programmeFinding_29 ?_
        refine lv_iload_n hx hb dX5_programmeFinding_32 rfl (lv_at hl 1 rfl) ?_
        obtain ⟨hin1, h⟩ := ck_some h
        refine va_iald hx hb hK hP 2 0 wPW_2 rfl hin1 dX5_programmeFinding_33 ?_
        refine lv_icmp_ge (tgt := 59) hx hb dX5_programmeFinding_34 (by decide) (fun c34 => ?_) (fun c34 => ?_)
        · have h := br_1 h c34
          refine lv_iconst (v := (0 : Int32)) hx hb dX5_programmeFinding_59 (by decide) ?_
          cases h
          exact hret _ _ dX5_programmeFinding_60
        · have h := br_0 h c34
          refine lv_aload_n hx hb dX5_programmeFinding_37 rfl (lv_at hl 0 rfl) ?_
          refine va_get (D := D) (ci := 3) (C := RX5) (T := TX5) (N := 14) hx hb hts iX5 hown hK hP 0 wPW_0 rfl 0 (by decide) q2 (fun _ h9 => h9) rfl dX5_programmeFinding_38 ?_
          refine lv_iload_n hx hb dX5_programmeFinding_41 rfl (lv_at hl 1 rfl) ?_
          obtain ⟨hin3, h⟩ := ck_some h
          have hk2 : x1.toNatClampNeg < 6 := vp_lt hin3
          refine my_ald (b := (ad (28 + x1.toNatClampNeg))) rfl hx hb hK hP 1 4 wPW_1 rfl hin3 (fun _ => if_pos hk2) dX5_programmeFinding_42 ?_
          refine lv_iload_n hx hb dX5_programmeFinding_43 rfl (lv_at hl 2 rfl) ?_
          obtain ⟨hin4, h⟩ := ck_some h
          refine va_iald hx hb hK hP (28 + x1.toNatClampNeg) 0 (wPW_f_rows0 hk2) rfl hin4 dX5_programmeFinding_44 ?_
          obtain ⟨r45, hc, h⟩ := bd1_some h
          refine my_roz (va_Run.run (va_runS (As := [.int ((rm x1.toNatClampNeg) x2.toNatClampNeg)]) (rest := []) hFix (kX5_isTune l D T F ((rm x1.toNatClampNeg) x2.toNatClampNeg) r45 hc) (va_cwS 1 hts gX5_programmeFinding_X5_isTune rfl rfl rfl hd_X5_isTune ⟨Nat.le_of_ble_eq_true rfl, Nat.le_of_ble_eq_true rfl⟩) (preS_ro va_nil hKK) rfl rfl hl.1 rfl (lv_room (Nat.le_of_ble_eq_true rfl)) dX5_programmeFinding_45 ⟨Nat.zero_le _, Nat.zero_le _⟩)) (fun hb45 => ?_)
          refine lv_if_ne (tgt := 53) hx hb dX5_programmeFinding_48 (by decide) (fun c48 => ?_) (fun c48 => ?_)
          · have h := br_0 h c48
            refine lv_iinc (v := (x2 + (1 : Int32))) (lv' := [(2, .int (x2 + (1 : Int32))), (0, .ref (ad 0)), (1, .int x1)]) hx hb dX5_programmeFinding_53 hl (k := 2) rfl rfl (by decide) rfl (fun ls hl => ?_)
            refine lv_goto (tgt := 27) hx hb dX5_programmeFinding_56 (by decide) ?_
            exact ih27 (x2 + (1 : Int32)) h _ (lv_sub hl [1, 2, 0] rfl)
          · have h := br_1 h c48
            refine lv_iconst (v := (3 : Int32)) hx hb dX5_programmeFinding_51 (by decide) ?_
            cases h
            exact hret _ _ dX5_programmeFinding_52
    unfold fX5_programmeFinding at h
    refine lv_aload_n hx hb dX5_programmeFinding_0 rfl (lv_at hl 0 rfl) ?_
    refine va_get (D := D) (ci := 3) (C := RX5) (T := TX5) (N := 14) hx hb hts iX5 hown hK hP 0 wPW_0 rfl 1 (by decide) q1 (fun _ h9 => h9) rfl dX5_programmeFinding_1 ?_
    refine lv_iload_n hx hb dX5_programmeFinding_4 rfl (lv_at hl 1 rfl) ?_
    obtain ⟨hin5, h⟩ := ck_some h
    refine va_iald hx hb hK hP 2 0 wPW_2 rfl hin5 dX5_programmeFinding_5 ?_
    refine lv_iconst (v := (-1 : Int32)) hx hb dX5_programmeFinding_6 (by decide) ?_
    refine lv_icmp_ne (tgt := 12) hx hb dX5_programmeFinding_7 (by decide) (fun c7 => ?_) (fun c7 => ?_)
    · have h := br_0 h c7
      refine lv_aload_n hx hb dX5_programmeFinding_12 rfl (lv_at hl 0 rfl) ?_
      refine va_get (D := D) (ci := 3) (C := RX5) (T := TX5) (N := 14) hx hb hts iX5 hown hK hP 0 wPW_0 rfl 1 (by decide) q1 (fun _ h9 => h9) rfl dX5_programmeFinding_13 ?_
      refine lv_iload_n hx hb dX5_programmeFinding_16 rfl (lv_at hl 1 rfl) ?_
      obtain ⟨hin6, h⟩ := ck_some h
      refine va_iald hx hb hK hP 2 0 wPW_2 rfl hin6 dX5_programmeFinding_17 ?_
      refine lv_bipush (v := (6 : Int32)) hx hb dX5_programmeFinding_18 (by decide) ?_
      refine lv_icmp_le (tgt := 25) hx hb dX5_programmeFinding_20 (by decide) (fun c20 => ?_) (fun c20 => ?_)
      · have h := br_1 h c20
        refine lv_iconst (v := (0 : Int32)) hx hb dX5_programmeFinding_25 (by decide) ?_
        refine lv_istore_n (lv' := [(2, .int (0 : Int32)), (0, .ref (ad 0)), (1, .int x1)]) hx hb dX5_programmeFinding_26 rfl hl (by decide) rfl (fun ls hl => ?_)
        exact l27 x1 F (0 : Int32) h _ (lv_sub hl [1, 2, 0] rfl)
      · have h := br_0 h c20
        refine lv_iconst (v := (5 : Int32)) hx hb dX5_programmeFinding_23 (by decide) ?_
        cases h
        exact hret _ _ dX5_programmeFinding_24
    · have h := br_1 h c7
      refine lv_iconst (v := (1 : Int32)) hx hb dX5_programmeFinding_10 (by decide) ?_
      cases h
      exact hret _ _ dX5_programmeFinding_11
  exact key _ (fun pc ls hd => W.iret hx hb hr (fun t ht hW => ⟨_, rfl, rfl, ht⟩) (fun q h => by cases h) hd)
