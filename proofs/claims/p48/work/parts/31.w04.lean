set_option maxHeartbeats 4000000 in
set_option maxRecDepth 100000 in
theorem kX5_party (l : Launch) (D : va_G) (T : Nat → ClassId) (F : Nat) (ad : Nat → Nat) (rs : Nat → Int32) (rm : Nat → Nat → Int32) (ts : Nat → Int32) (tm : Nat → Nat → Int32) (rdue : Int32) (rtun : Int32) (rsee : Int32) (rbeg : Int32) (psize : Int32) (pclause : Int32) (peff : Nat → Int32) (pkin : Nat → Int32) (pgri : Nat → Int32) (psig : Nat → Int32) (psee : Nat → Int32) (qsize : Int32) (qclause : Int32) (qeff : Nat → Int32) (qkin : Nat → Int32) (qgri : Nat → Int32) (qsig : Nat → Int32) (qsee : Nat → Int32) (cdee : Int32) (cnow : Int64) (cahe : Nat → Int64) (kdee : Nat → Int32) (know : Nat → Int64) (kahe : Nat → Nat → Int64) (fc : Nat → Int32) (lf : Int32) (told : Int32) (up : Int64) (lo : Int64) (x1 : Int32) (r : Int32) (zrdue : Int32) (zrtun : Int32) (zrsee : Int32) (zrbeg : Int32) (zqsize : Int32) (zqclause : Int32) (zqeff : Nat → Int32) (zqkin : Nat → Int32) (zqgri : Nat → Int32) (zqsig : Nat → Int32) (zqsee : Nat → Int32) (zcdee : Int32) (zcnow : Int64) (zkdee : Nat → Int32) (zfc : Nat → Int32) (zlf : Int32) (zpp : Nat) (zps : Nat) (h : fX5_party F (ad 6) (ad 12) ts tm rdue rtun rsee rbeg psize pgri qsize qclause qeff qkin qgri qsig qsee cdee cnow kdee fc lf x1 = some (r, zrdue, zrtun, zrsee, zrbeg, zqsize, zqclause, zqeff, zqkin, zqgri, zqsig, zqsee, zcdee, zcnow, zkdee, zfc, zlf, zpp, zps)) : ∀ sz : Nat, Met l yX5_party wsX5_party ({ frames := 4, cells := 0, slots := 0, locals := 89 } : Room) (va_Pc [.ref (ad 0), .int x1] (fun U => U.heap.size = sz ∧ va_P D vwCl (wPW T ad (ad 6) (ad 12) rs rm ts tm rdue rtun rsee rbeg psize pclause peff pkin pgri psig psee qsize qclause qeff qkin qgri qsig qsee cdee cnow cahe kdee know kahe fc lf told up lo) U.heap ∧ KK D T U ∧ va_D (fun _ => True) (wPW T ad (ad 6) (ad 12) rs rm ts tm rdue rtun rsee rbeg psize pclause peff pkin pgri psig psee qsize qclause qeff qkin qgri qsig qsee cdee cnow cahe kdee know kahe fc lf told up lo))) (va_Qi (fun r' (_ : Unit) => r' = r) (fun _ t => va_P D vwCl (wPW T ad zpp zps rs rm ts tm zrdue zrtun zrsee zrbeg psize pclause peff pkin pgri psig psee zqsize zqclause zqeff zqkin zqgri zqsig zqsee zcdee zcnow cahe zkdee know kahe zfc zlf told up lo) t.heap ∧ va_D (va_A (wPW T ad (ad 6) (ad 12) rs rm ts tm rdue rtun rsee rbeg psize pclause peff pkin pgri psig psee qsize qclause qeff qkin qgri qsig qsee cdee cnow cahe kdee know kahe fc lf told up lo) sz) (wPW T ad zpp zps rs rm ts tm zrdue zrtun zrsee zrbeg psize pclause peff pkin pgri psig psee zqsize zqclause zqeff zqkin zqgri zqsig zqsee zcdee zcnow cahe zkdee know kahe zfc zlf told up lo)) (va_A (wPW T ad (ad 6) (ad 12) rs rm ts tm rdue rtun rsee rbeg psize pclause peff pkin pgri psig psee qsize qclause qeff qkin qgri qsig qsee cdee cnow cahe kdee know kahe fc lf told up lo) sz)) 0 0 (va_A (wPW T ad (ad 6) (ad 12) rs rm ts tm rdue rtun rsee rbeg psize pclause peff pkin pgri psig psee qsize qclause qeff qkin qgri qsig qsee cdee cnow cahe kdee know kahe fc lf told up lo) sz) := by
  intro sz
  refine Met.ofW (cc := cX5_party) (maxL := 4) (ret := some .int) (by decide) rfl ?_
  intro p e s m args below meth c s₁ B hml hv
  obtain ⟨ha, hsz, hP, hKK, hD0⟩ := hv
  have hx := B.exec
  have hb := B.bytes
  have hr := B.returns
  have hts := atoms_spec (ws := wsX5_party) B.pre
  have hown : s.vm.findClass RX5 = some m.cls := findClass_of_methodNamed B.named
  have hlocks := B.notSynchronized
  have hK := hKK.1
  have hFix : CallFix p m c cX5_party 4 s args wsX5_party RX5 := ⟨hx, hb, hml, hown, hts⟩
  have q1 := hts _ (List.mem_of_getElem? (i := 1) (show wsX5_party[1]? = some (Cond.fieldLink RX5 23 "PartyWill" "textSizes" "[I") from rfl))
  have q2 := hts _ (List.mem_of_getElem? (i := 2) (show wsX5_party[2]? = some (Cond.fieldLink RX5 29 "PartyWill" "reader" "LPartyWill$Reader;") from rfl))
  have q3 := hts _ (List.mem_of_getElem? (i := 3) (show wsX5_party[3]? = some (Cond.fieldLink RX5 20 "PartyWill" "texts" "[[B") from rfl))
  have q4 := hts _ (List.mem_of_getElem? (i := 4) (show wsX5_party[4]? = some (Cond.fieldLink RX5 40 "PartyWill" "spare" "LPartyWill$Party;") from rfl))
  have q5 := hts _ (List.mem_of_getElem? (i := 5) (show wsX5_party[5]? = some (Cond.fieldLink RX5 36 "PartyWill" "party" "LPartyWill$Party;") from rfl))
  have q6 := hts _ (List.mem_of_getElem? (i := 6) (show wsX5_party[6]? = some (Cond.fieldLink RX5 46 "PartyWill" "course" "LPartyWill$Course;") from rfl))
  have q7 := hts _ (List.mem_of_getElem? (i := 7) (show wsX5_party[7]? = some (Cond.fieldLink RX5 50 "PartyWill" "kept" "[LPartyWill$Course;") from rfl))
  have q18 := hts _ (List.mem_of_getElem? (i := 18) (show wsX5_party[18]? = some (Cond.instanceMethod yX4_faultOf) from rfl))
  have q19 := hts _ (List.mem_of_getElem? (i := 19) (show wsX5_party[19]? = some (Cond.initialized RX4) from rfl))
  have q20 := hts _ (List.mem_of_getElem? (i := 20) (show wsX5_party[20]? = some (Cond.selects RX4 yX4_faultOf yX4_faultOf) from rfl))
  have q26 := hts _ (List.mem_of_getElem? (i := 26) (show wsX5_party[26]? = some (Cond.initialized RX2) from rfl))
  have q74 := hts _ (List.mem_of_getElem? (i := 74) (show wsX5_party[74]? = some (Cond.instanceMethod yX2_arrival) from rfl))
  have q75 := hts _ (List.mem_of_getElem? (i := 75) (show wsX5_party[75]? = some (Cond.selects RX2 yX2_arrival yX2_arrival) from rfl))
  have q86 := hts _ (List.mem_of_getElem? (i := 86) (show wsX5_party[86]? = some (Cond.instanceMethod yX0_begin) from rfl))
  have q87 := hts _ (List.mem_of_getElem? (i := 87) (show wsX5_party[87]? = some (Cond.initialized RX0) from rfl))
  have q88 := hts _ (List.mem_of_getElem? (i := 88) (show wsX5_party[88]? = some (Cond.selects RX0 yX0_begin yX0_begin) from rfl))
  have iX0 : ∀ w ∈ u_ws RX0 TX0 3, w ∈ wsX5_party := fun w h => List.mem_cons_of_mem _ (List.mem_append_left _ (List.mem_append_left _ (List.mem_append_right _ (h))))
  have iX2 : ∀ w ∈ u_ws RX2 TX2 7, w ∈ wsX5_party := fun w h => List.mem_cons_of_mem _ (List.mem_append_left _ (List.mem_append_right _ (h)))
  have iX5 : ∀ w ∈ u_ws RX5 TX5 14, w ∈ wsX5_party := fun w h => List.mem_cons_of_mem _ (List.mem_append_left _ (List.mem_append_left _ (List.mem_append_left _ (List.mem_append_right _ (h)))))
  subst hsz
  have hD := hD0.self (sz := s.heap.size)
  generalize hAe : va_A (wPW T ad (ad 6) (ad 12) rs rm ts tm rdue rtun rsee rbeg psize pclause peff pkin pgri psig psee qsize qclause qeff qkin qgri qsig qsee cdee cnow cahe kdee know kahe fc lf told up lo) s.heap.size = A at hD ⊢
  have hA : ∀ q : Nat, s.heap.size ≤ q → A q := fun q h => by rw [← hAe]; exact Or.inr h
  have hS : va_S A s.heap s.heap [] := va_S.rf
  have hP : va_P D vwCl (wPW T ad (ad 6) (ad 12) rs rm ts tm rdue rtun rsee rbeg psize pclause peff pkin pgri psig psee qsize qclause qeff qkin qgri qsig qsee cdee cnow cahe kdee know kahe fc lf told up lo) s.heap := hP
  obtain ⟨ls, hl, e0⟩ := my_entry (m := m) (n := 4) ha (Nat.le_of_ble_eq_true rfl)
  rw [e0]
  have hl : lv_has ls 4 [(0, .ref (ad 0)), (1, .int x1)] := hl
  have key : ∀ Q : State → Prop, (∀ (H : Heap) (locs : List Loc) (pc : Nat) (ls : Array Slot), va_P D vwCl (wPW T ad zpp zps rs rm ts tm zrdue zrtun zrsee zrbeg psize pclause peff pkin pgri psig psee zqsize zqclause zqeff zqkin zqgri zqsig zqsee zcdee zcnow cahe zkdee know kahe zfc zlf told up lo) H → va_D A (wPW T ad zpp zps rs rm ts tm zrdue zrtun zrsee zrbeg psize pclause peff pkin pgri psig psee zqsize zqclause zqeff zqkin zqgri zqsig zqsee zcdee zcnow cahe zkdee know kahe zfc zlf told up lo) → va_S A s.heap H locs → decode cX5_party pc = .ok (.ireturn, 1) → W p l e ({ frames := 4, cells := 0, slots := 0, locals := 89 } : Room) s m args below meth c H locs 0 0 Q (F0 m pc ls [.int r])) → W p l e ({ frames := 4, cells := 0, slots := 0, locals := 89 } : Room) s m args below meth c s.heap [] 0 0 Q (F0 m 0 ls []) := by
    intro Q hret
    skip
    have l90 : ∀ rdue : Int32, ∀ rtun : Int32, ∀ rsee : Int32, ∀ rbeg : Int32, ∀ qsize : Int32, ∀ qclause : Int32, ∀ qeff : Nat → Int32, ∀ qkin : Nat → Int32, ∀ qgri : Nat → Int32, ∀ qsig : Nat → Int32, ∀ qsee : Nat → Int32, ∀ cdee : Int32, ∀ cnow : Int64, ∀ fc : Nat → Int32, ∀ lf : Int32, ∀ nu : Nat, ∀ x3 : Int32, ∀ kdee : Nat → Int32, fX5_party_l90 F (ad 6) (ad 12) ts tm psize pgri rdue rtun rsee rbeg qsize qclause qeff qkin qgri qsig qsee cdee cnow fc lf nu x3 kdee = some (r, zrdue, zrtun, zrsee, zrbeg, zqsize, zqclause, zqeff, zqkin, zqgri, zqsig, zqsee, zcdee, zcnow, zkdee, zfc, zlf, zpp, zps) → ∀ (H : Heap) (locs : List Loc), va_P D vwCl (wPW T ad (ad 12) (ad 6) rs rm ts tm rdue rtun rsee rbeg psize pclause peff pkin pgri psig psee qsize qclause qeff qkin qgri qsig qsee cdee cnow cahe kdee know kahe fc lf told up lo) H → va_D A (wPW T ad (ad 12) (ad 6) rs rm ts tm rdue rtun rsee rbeg psize pclause peff pkin pgri psig psee qsize qclause qeff qkin qgri qsig qsee cdee cnow cahe kdee know kahe fc lf told up lo) → va_S A s.heap H locs → ∀ (ls : Array Slot), lv_has ls 4 [(0, .ref (ad 0)), (3, .int x3)] → W p l e ({ frames := 4, cells := 0, slots := 0, locals := 89 } : Room) s m args below meth c H locs 0 0 Q (F0 m 90 ls []) := by
      intro rdue rtun rsee rbeg qsize qclause qeff qkin qgri qsig qsee cdee cnow fc lf
      intro nu
      induction nu with
      | zero => intro x3 kdee h; exact none_some h
      | succ nu90 ih90 =>
        intro x3 kdee h H locs hP hD hS ls hl
        have h : fX5_party_l90_b F (ad 6) (ad 12) ts tm psize pgri rdue rtun rsee rbeg qsize qclause qeff qkin qgri qsig qsee cdee cnow fc lf (fX5_party_l90 F (ad 6) (ad 12) ts tm psize pgri rdue rtun rsee rbeg qsize qclause qeff qkin qgri qsig qsee cdee cnow fc lf nu90) x3 kdee = some (r, zrdue, zrtun, zrsee, zrbeg, zqsize, zqclause, zqeff, zqkin, zqgri, zqsig, zqsee, zcdee, zcnow, zkdee, zfc, zlf, zpp, zps) := h
        unfold fX5_party_l90_b at h
        refine lv_iload_n hx hb dX5_party_90 rfl (lv_at hl 1 rfl) ?_
        refine lv_iconst (v := (3 : Int32)) hx hb dX5_party_91 (by decide) ?_
        refine lv_icmp_ge (tgt := 111) hx hb dX5_party_92 (by decide) (fun c92 => ?_) (fun c92 => ?_)
        · have h := br_1 h c92
          refine lv_aload_n hx hb dX5_party_111 rfl (lv_at hl 0 rfl) ?_
          refine va_get (D := D) (ci := 3) (C := RX5) (T := TX5) (N := 14) hx hb hts iX5 hown hK hP 0 wPW_0 rfl 5 (by decide) q5 (fun _ h9 => h9) rfl dX5_party_112 ?_
          refine va_getN (host := "PartyWill") (D := D) (ci := 1) (C := RX2) (T := TX2) (N := 7) hx hb hts iX2 hown hK hP 12 wPW_12 rfl 0 (by decide) (va_Nw.use rfl (nw_X5_111 hKK.2)) (fun _ h9 => h9) rfl dX5_party_115 ?_
          cases h
          exact hret _ _ _ _ hP hD hS dX5_party_118
        · have h := br_0 h c92
          refine lv_aload_n hx hb dX5_party_95 rfl (lv_at hl 0 rfl) ?_
          refine va_get (D := D) (ci := 3) (C := RX5) (T := TX5) (N := 14) hx hb hts iX5 hown hK hP 0 wPW_0 rfl 8 (by decide) q7 (fun _ h9 => h9) rfl dX5_party_96 ?_
          refine lv_iload_n hx hb dX5_party_99 rfl (lv_at hl 1 rfl) ?_
          obtain ⟨hin2, h⟩ := ck_some h
          have hk1 : x3.toNatClampNeg < 3 := vp_lt hin2
          refine my_ald (b := (ad (21 + 2 * x3.toNatClampNeg))) rfl hx hb hK hP 20 6 wPW_20 rfl hin2 (fun _ => if_pos hk1) dX5_party_100 ?_
          refine lv_iconst (v := (-1 : Int32)) hx hb dX5_party_101 (by decide) ?_
          refine va_putN (host := "PartyWill") (D := D) (ci := 0) (v := .int (-1 : Int32)) (ty := .int) (C := RX0) (T := TX0) (N := 3) hx hb hts iX0 tyX0 tyX0_ok nmX0 hown hK hP hD hS (21 + 2 * x3.toNatClampNeg) (wPW_f_kept0 hk1) rfl 0 (by decide) (va_Nw.use rfl (nw_X5_71 hKK.2)) (fun _ h9 => h9) rfl (by decide +kernel) rfl rfl (Nat.le_of_ble_eq_true rfl) dX5_party_102 (fun H locs hP hD hS => ?_)
          have hP : va_P D vwCl (wPW T ad (ad 12) (ad 6) rs rm ts tm rdue rtun rsee rbeg psize pclause peff pkin pgri psig psee qsize qclause qeff qkin qgri qsig qsee cdee cnow cahe (va_up kdee x3.toNatClampNeg (-1 : Int32)) know kahe fc lf told up lo) H := my_eqP (wPW_s_kept0 hk1) hP
          have hD : va_D A (wPW T ad (ad 12) (ad 6) rs rm ts tm rdue rtun rsee rbeg psize pclause peff pkin pgri psig psee qsize qclause qeff qkin qgri qsig qsee cdee cnow cahe (va_up kdee x3.toNatClampNeg (-1 : Int32)) know kahe fc lf told up lo) := my_eqD (wPW_s_kept0 hk1) hD
          refine lv_iinc (v := (x3 + (1 : Int32))) (lv' := [(3, .int (x3 + (1 : Int32))), (0, .ref (ad 0))]) hx hb dX5_party_105 hl (k := 1) rfl rfl (by decide) rfl (fun ls hl => ?_)
          refine lv_goto (tgt := 90) hx hb dX5_party_108 (by decide) ?_
          exact ih90 (x3 + (1 : Int32)) (va_up kdee x3.toNatClampNeg (-1 : Int32)) h _ _ hP hD hS _ (lv_sub hl [1, 0] rfl)
    unfold fX5_party at h
    refine lv_iload_n hx hb dX5_party_0 rfl (lv_at hl 1 rfl) ?_
    obtain ⟨r1, hc, h⟩ := bd1_some h
    refine my_roz (va_Run.run (va_runS (As := [.int x1]) (rest := []) hFix (kX5_isText l D T F x1 r1 hc) (va_cwS 1 hts gX5_party_X5_isText rfl rfl rfl hd_X5_isText ⟨Nat.le_of_ble_eq_true rfl, Nat.le_of_ble_eq_true rfl⟩) (preS_ro va_nil hKK) rfl rfl hl.1 rfl (lv_room (Nat.le_of_ble_eq_true rfl)) dX5_party_1 ⟨Nat.zero_le _, Nat.zero_le _⟩)) (fun hb1 => ?_)
    refine lv_if_ne (tgt := 9) hx hb dX5_party_4 (by decide) (fun c4 => ?_) (fun c4 => ?_)
    · have h := br_0 h c4
      refine lv_aload_n hx hb dX5_party_9 rfl (lv_at hl 0 rfl) ?_
      refine va_get (D := D) (ci := 3) (C := RX5) (T := TX5) (N := 14) hx hb hts iX5 hown hK hP 0 wPW_0 rfl 3 (by decide) q1 (fun _ h9 => h9) rfl dX5_party_10 ?_
      refine lv_iload_n hx hb dX5_party_13 rfl (lv_at hl 1 rfl) ?_
      obtain ⟨hin3, h⟩ := ck_some h
      refine va_iald hx hb hK hP 4 0 wPW_4 rfl hin3 dX5_party_14 ?_
      refine lv_iconst (v := (-1 : Int32)) hx hb dX5_party_15 (by decide) ?_
      refine lv_icmp_ne (tgt := 25) hx hb dX5_party_16 (by decide) (fun c16 => ?_) (fun c16 => ?_)
      · have h := br_0 h c16
        refine lv_aload_n hx hb dX5_party_25 rfl (lv_at hl 0 rfl) ?_
        refine va_get (D := D) (ci := 3) (C := RX5) (T := TX5) (N := 14) hx hb hts iX5 hown hK hP 0 wPW_0 rfl 4 (by decide) q2 (fun _ h9 => h9) rfl dX5_party_26 ?_
        refine lv_aload_n hx hb dX5_party_29 rfl (lv_at hl 0 rfl) ?_
        refine va_get (D := D) (ci := 3) (C := RX5) (T := TX5) (N := 14) hx hb hts iX5 hown hK hP 0 wPW_0 rfl 2 (by decide) q3 (fun _ h9 => h9) rfl dX5_party_30 ?_
        refine lv_iload_n hx hb dX5_party_33 rfl (lv_at hl 1 rfl) ?_
        obtain ⟨hin5, h⟩ := ck_some h
        have hk4 : x1.toNatClampNeg < 4 := vp_lt hin5
        refine my_ald (b := (ad (34 + x1.toNatClampNeg))) rfl hx hb hK hP 3 5 wPW_3 rfl hin5 (fun _ => if_pos hk4) dX5_party_34 ?_
        refine lv_aload_n hx hb dX5_party_35 rfl (lv_at hl 0 rfl) ?_
        refine va_get (D := D) (ci := 3) (C := RX5) (T := TX5) (N := 14) hx hb hts iX5 hown hK hP 0 wPW_0 rfl 3 (by decide) q1 (fun _ h9 => h9) rfl dX5_party_36 ?_
        refine lv_iload_n hx hb dX5_party_39 rfl (lv_at hl 1 rfl) ?_
        obtain ⟨hin6, h⟩ := ck_some h
        refine va_iald hx hb hK hP 4 0 wPW_4 rfl hin6 dX5_party_40 ?_
        refine lv_aload_n hx hb dX5_party_41 rfl (lv_at hl 0 rfl) ?_
        refine va_get (D := D) (ci := 3) (C := RX5) (T := TX5) (N := 14) hx hb hts iX5 hown hK hP 0 wPW_0 rfl 6 (by decide) q4 (fun _ h9 => h9) rfl dX5_party_42 ?_
        obtain ⟨r45, w45_rdue, w45_rtun, w45_rsee, w45_rbeg, w45_size, w45_clause, w45_eff, w45_kin, w45_gri, w45_sig, w45_see, hc, h⟩ := bd12_some h
        have hPc : va_P D vwCl (wRTP T (ad 5) (ad (34 + x1.toNatClampNeg)) (ad 12) (ad 13) (ad 14) (ad 15) (ad 16) (ad 17) rdue rtun rsee rbeg (tm x1.toNatClampNeg) qsize qclause qeff qkin qgri qsig qsee) _ := my_subP (sb_wPW_wRTP_5to17 hk4) hP
        have hDc := hD.sub [5, (34 + x1.toNatClampNeg), 12, 13, 14, 15, 16, 17] (nd_5to17 hk4) (sb_wPW_wRTP_5to17 hk4)
        have hFc := va_free hD hS hA [5, (34 + x1.toNatClampNeg), 12, 13, 14, 15, 16, 17] (sb_wPW_wRTP_5to17 hk4)
        refine my_rwi (va_runVN (host := "PartyWill") (As := [.ref (ad (34 + x1.toNatClampNeg)), .int (ts x1.toNatClampNeg), .ref (ad 12)]) (rest := []) hFix (kX4_faultOf l D T F (ad 5) (ad (34 + x1.toNatClampNeg)) (ad 12) (ad 13) (ad 14) (ad 15) (ad 16) (ad 17) rdue rtun rsee rbeg (tm x1.toNatClampNeg) qsize qclause qeff qkin qgri qsig qsee (ts x1.toNatClampNeg) r45 w45_rdue w45_rtun w45_rsee w45_rbeg w45_size w45_clause w45_eff w45_kin w45_gri w45_sig w45_see hc _) ⟨va_cnB 3 hts gX5_party_X4_faultOf_n99 rfl rfl rfl (nw_X5_99 hKK.2) q19 hd_X4_faultOf ⟨Nat.le_of_ble_eq_true rfl, Nat.le_of_ble_eq_true rfl⟩, q18, q20⟩ (preV_rw hPc hKK hDc (va_recv hK hP (ci := 2) (q0 := 5) rfl wPW_5)) rfl rfl hl.1 rfl (lv_room (Nat.le_of_ble_eq_true rfl)) dX5_party_45 ⟨Nat.zero_le _, Nat.zero_le _⟩) hS hFc (fun H1 locs hP1 hD1 hz1 hkk hS => ?_)
        obtain ⟨hP, hD⟩ := my_joinS hP hD (nd_5to17 hk4) (sb_wPW_wRTP_5to17 hk4) (by rfl) hkk hFc hP1 hD1
        rw [(st_wPW_wRTP_5to17_faultOf hk4)] at hP hD
        generalize H1 = H at hP hS ⊢
        refine lv_bipush (v := (-9 : Int32)) hx hb dX5_party_48 (by decide) ?_
        refine lv_icmp_eq (tgt := 56) hx hb dX5_party_50 (by decide) (fun c50 => ?_) (fun c50 => ?_)
        · have h := br_1 h c50
          refine lv_aload_n hx hb dX5_party_56 rfl (lv_at hl 0 rfl) ?_
          refine va_get (D := D) (ci := 3) (C := RX5) (T := TX5) (N := 14) hx hb hts iX5 hown hK hP 0 wPW_0 rfl 6 (by decide) q4 (fun _ h9 => h9) rfl dX5_party_57 ?_
          refine lv_astore_n (lv' := [(2, .ref (ad 12)), (0, .ref (ad 0)), (1, .int x1)]) hx hb dX5_party_60 rfl hl (by decide) rfl (fun ls hl => ?_)
          refine lv_aload_n hx hb dX5_party_61 rfl (lv_at hl 1 rfl) ?_
          refine lv_aload_n hx hb dX5_party_62 rfl (lv_at hl 1 rfl) ?_
          refine va_get (D := D) (ci := 3) (C := RX5) (T := TX5) (N := 14) hx hb hts iX5 hown hK hP 0 wPW_0 rfl 5 (by decide) q5 (fun _ h9 => h9) rfl dX5_party_63 ?_
          refine va_put (D := D) (ci := 3) (v := .ref (ad 6)) (ty := (.object "PartyWill$Party")) (C := RX5) (T := TX5) (N := 14) hx hb hts iX5 tyX5 tyX5_ok nmX5 hown hK hP hD hS 0 wPW_0 rfl 6 (by decide) q4 (fun _ h9 => h9) rfl (by decide +kernel) rfl rfl (Nat.le_of_ble_eq_true rfl) dX5_party_66 (fun H locs hP hD hS => ?_)
          have hP : va_P D vwCl (wPW T ad (ad 6) (ad 6) rs rm ts tm w45_rdue w45_rtun w45_rsee w45_rbeg psize pclause peff pkin pgri psig psee w45_size w45_clause w45_eff w45_kin w45_gri w45_sig w45_see cdee cnow cahe kdee know kahe fc lf told up lo) H := hP
          have hD : va_D A (wPW T ad (ad 6) (ad 6) rs rm ts tm w45_rdue w45_rtun w45_rsee w45_rbeg psize pclause peff pkin pgri psig psee w45_size w45_clause w45_eff w45_kin w45_gri w45_sig w45_see cdee cnow cahe kdee know kahe fc lf told up lo) := hD
          refine lv_aload_n hx hb dX5_party_69 rfl (lv_at hl 1 rfl) ?_
          refine lv_aload_n hx hb dX5_party_70 rfl (lv_at hl 0 rfl) ?_
          refine va_put (D := D) (ci := 3) (v := .ref (ad 12)) (ty := (.object "PartyWill$Party")) (C := RX5) (T := TX5) (N := 14) hx hb hts iX5 tyX5 tyX5_ok nmX5 hown hK hP hD hS 0 wPW_0 rfl 5 (by decide) q5 (fun _ h9 => h9) rfl (by decide +kernel) rfl rfl (Nat.le_of_ble_eq_true rfl) dX5_party_71 (fun H locs hP hD hS => ?_)
          have hP : va_P D vwCl (wPW T ad (ad 12) (ad 6) rs rm ts tm w45_rdue w45_rtun w45_rsee w45_rbeg psize pclause peff pkin pgri psig psee w45_size w45_clause w45_eff w45_kin w45_gri w45_sig w45_see cdee cnow cahe kdee know kahe fc lf told up lo) H := hP
          have hD : va_D A (wPW T ad (ad 12) (ad 6) rs rm ts tm w45_rdue w45_rtun w45_rsee w45_rbeg psize pclause peff pkin pgri psig psee w45_size w45_clause w45_eff w45_kin w45_gri w45_sig w45_see cdee cnow cahe kdee know kahe fc lf told up lo) := hD
          refine lv_aload_n hx hb dX5_party_74 rfl (lv_at hl 1 rfl) ?_
          refine va_get (D := D) (ci := 3) (C := RX5) (T := TX5) (N := 14) hx hb hts iX5 hown hK hP 0 wPW_0 rfl 7 (by decide) q6 (fun _ h9 => h9) rfl dX5_party_75 ?_
          refine lv_aload_n hx hb dX5_party_78 rfl (lv_at hl 1 rfl) ?_
          refine va_get (D := D) (ci := 3) (C := RX5) (T := TX5) (N := 14) hx hb hts iX5 hown hK hP 0 wPW_0 rfl 5 (by decide) q5 (fun _ h9 => h9) rfl dX5_party_79 ?_
          obtain ⟨r82, hc, h⟩ := bd1_some h
          have hPc : va_P D vwCl (wPa T (ad 12) (ad 13) (ad 14) (ad 15) (ad 16) (ad 17) w45_size w45_clause w45_eff w45_kin w45_gri w45_sig w45_see) _ := my_subP sb_wPW_wPa_12to17 hP
          refine my_rol (va_Run.run (va_runVN (host := "PartyWill") (As := []) (rest := [.ref (ad 18)]) hFix (kX2_arrival l D T F (ad 12) (ad 13) (ad 14) (ad 15) (ad 16) (ad 17) w45_size w45_clause w45_eff w45_kin w45_gri w45_sig w45_see r82 hc) ⟨va_cnB 0 hts gX5_party_X2_arrival_n103 rfl rfl rfl (nw_X5_103 hKK.2) q26 hd_X2_arrival ⟨Nat.le_of_ble_eq_true rfl, Nat.le_of_ble_eq_true rfl⟩, q74, q75⟩ (preV_ro hPc hKK (va_recv hK hP (ci := 1) (q0 := 12) rfl wPW_12)) rfl rfl hl.1 rfl (lv_room (Nat.le_of_ble_eq_true rfl)) dX5_party_82 ⟨Nat.zero_le _, Nat.zero_le _⟩)) ?_
          obtain ⟨w85_cdee, w85_cnow, hc, h⟩ := bd2_some h
          have hPc : va_P D vwCl (wCo T (ad 18) (ad 19) cdee cnow cahe) _ := my_subP sb_wPW_wCo_18_19 hP
          have hDc := hD.sub [18, 19] (by decide) sb_wPW_wCo_18_19
          have hFc := va_free hD hS hA [18, 19] sb_wPW_wCo_18_19
          refine my_rwv (va_runVN (host := "PartyWill") (As := [.long r82]) (rest := []) hFix (kX0_begin l D T F (ad 18) (ad 19) cdee cnow cahe r82 w85_cdee w85_cnow hc _) ⟨va_cnB 1 hts gX5_party_X0_begin_n107 rfl rfl rfl (nw_X5_107 hKK.2) q87 hd_X0_begin ⟨Nat.le_of_ble_eq_true rfl, Nat.le_of_ble_eq_true rfl⟩, q86, q88⟩ (preV_rw hPc hKK hDc (va_recv hK hP (ci := 0) (q0 := 18) rfl wPW_18)) rfl rfl hl.1 rfl (lv_room (Nat.le_of_ble_eq_true rfl)) dX5_party_85 ⟨Nat.zero_le _, Nat.zero_le _⟩) hS hFc (fun H1 locs hP1 hD1 hz1 hkk hS => ?_)
          obtain ⟨hP, hD⟩ := my_joinS hP hD (by decide) sb_wPW_wCo_18_19 (by rfl) hkk hFc hP1 hD1
          rw [st_wPW_wCo_18_19_begin] at hP hD
          generalize H1 = H at hP hS ⊢
          refine lv_iconst (v := (0 : Int32)) hx hb dX5_party_88 (by decide) ?_
          refine lv_istore_n (lv' := [(3, .int (0 : Int32)), (2, .ref (ad 12)), (0, .ref (ad 0)), (1, .int x1)]) hx hb dX5_party_89 rfl hl (by decide) rfl (fun ls hl => ?_)
          exact l90 w45_rdue w45_rtun w45_rsee w45_rbeg w45_size w45_clause w45_eff w45_kin w45_gri w45_sig w45_see w85_cdee w85_cnow fc lf F (0 : Int32) kdee h _ _ hP hD hS _ (lv_sub hl [2, 0] rfl)
        · have h := br_0 h c50
          refine lv_bipush (v := (-4 : Int32)) hx hb dX5_party_53 (by decide) ?_
          cases h
          exact hret _ _ _ _ hP hD hS dX5_party_55
      · have h := br_1 h c16
        refine lv_aload_n hx hb dX5_party_19 rfl (lv_at hl 0 rfl) ?_
        refine lv_iconst (v := (1 : Int32)) hx hb dX5_party_20 (by decide) ?_
        obtain ⟨r21, w21_fc, w21_lf, hc, h⟩ := bd3_some h
        have hFc := my_freeS hD hS hA
        refine my_rwi (va_runV (As := [.int (1 : Int32)]) (rest := []) hFix (kX5_found l D T F ad rs rm ts tm rdue rtun rsee rbeg psize pclause peff pkin pgri psig psee qsize qclause qeff qkin qgri qsig qsee cdee cnow cahe kdee know kahe fc lf told up lo (1 : Int32) r21 w21_fc w21_lf hc _) (cwV 1 hts gX5_party_X5_found rfl rfl rfl ⟨rfl, hd_X5_found⟩ ⟨Nat.le_of_ble_eq_true rfl, Nat.le_of_ble_eq_true rfl⟩) (preV_rw hP hKK hD (va_recv hK hP (ci := 3) (q0 := 0) rfl wPW_0)) rfl rfl hl.1 rfl (lv_room (Nat.le_of_ble_eq_true rfl)) dX5_party_21 ⟨Nat.zero_le _, Nat.zero_le _⟩) hS hFc (fun H1 locs hP1 hD1 hz1 hkk hS => ?_)
        have hP : va_P D vwCl (wPW T ad (ad 6) (ad 12) rs rm ts tm rdue rtun rsee rbeg psize pclause peff pkin pgri psig psee qsize qclause qeff qkin qgri qsig qsee cdee cnow cahe kdee know kahe w21_fc w21_lf told up lo) H1 := hP1
        have hD : va_D A (wPW T ad (ad 6) (ad 12) rs rm ts tm rdue rtun rsee rbeg psize pclause peff pkin pgri psig psee qsize qclause qeff qkin qgri qsig qsee cdee cnow cahe kdee know kahe w21_fc w21_lf told up lo) := hD1.weaken (fun _ q _ h => hFc q.1 h)
        generalize H1 = H at hP hS ⊢
        cases h
        exact hret _ _ _ _ hP hD hS dX5_party_24
    · have h := br_1 h c4
      refine lv_iconst (v := (-1 : Int32)) hx hb dX5_party_7 (by decide) ?_
      cases h
      exact hret _ _ _ _ hP hD hS dX5_party_8
  exact key _ (fun H locs pc ls hP hD hS hd => W.iret hx hb hr (fun t ht hW => ⟨⟨_, (), rfl, rfl, by show _ ∧ _; rw [ht]; exact ⟨hP, hD⟩⟩, hS.F ht⟩) hS.2.2 hd)
set_option maxHeartbeats 4000000 in
set_option maxRecDepth 100000 in
theorem kX5_guestTells (l : Launch) (D : va_G) (T : Nat → ClassId) (F : Nat) (ad : Nat → Nat) (rs : Nat → Int32) (rm : Nat → Nat → Int32) (ts : Nat → Int32) (tm : Nat → Nat → Int32) (rdue : Int32) (rtun : Int32) (rsee : Int32) (rbeg : Int32) (psize : Int32) (pclause : Int32) (peff : Nat → Int32) (pkin : Nat → Int32) (pgri : Nat → Int32) (psig : Nat → Int32) (psee : Nat → Int32) (qsize : Int32) (qclause : Int32) (qeff : Nat → Int32) (qkin : Nat → Int32) (qgri : Nat → Int32) (qsig : Nat → Int32) (qsee : Nat → Int32) (cdee : Int32) (cnow : Int64) (cahe : Nat → Int64) (kdee : Nat → Int32) (know : Nat → Int64) (kahe : Nat → Nat → Int64) (fc : Nat → Int32) (lf : Int32) (told : Int32) (up : Int64) (lo : Int64) (x1 : Int32) (x2 : Int32) (r : Int32) (h : fX5_guestTells F pkin psig psee cnow x1 x2 = some (r)) : Met l yX5_guestTells wsX5_guestTells ({ frames := 2, cells := 0, slots := 0, locals := 44 } : Room) (va_Pc [.ref (ad 0), .int x1, .int x2] (fun U => va_P D vwCl (wPW T ad (ad 6) (ad 12) rs rm ts tm rdue rtun rsee rbeg psize pclause peff pkin pgri psig psee qsize qclause qeff qkin qgri qsig qsee cdee cnow cahe kdee know kahe fc lf told up lo) U.heap ∧ KK D T U)) (vp_Si (fun r' => r' = r)) 0 0 (fun _ => False) := by
  refine Met.ofW (cc := cX5_guestTells) (maxL := 3) (ret := some .int) (by decide) rfl ?_
  intro p e s m args below meth c s₁ B hml hv
  obtain ⟨ha, hP, hKK⟩ := hv
  have hx := B.exec
  have hb := B.bytes
  have hr := B.returns
  have hts := atoms_spec (ws := wsX5_guestTells) B.pre
  have hown : s.vm.findClass RX5 = some m.cls := findClass_of_methodNamed B.named
  have hlocks := B.notSynchronized
  have hK := hKK.1
  have hFix : CallFix p m c cX5_guestTells 3 s args wsX5_guestTells RX5 := ⟨hx, hb, hml, hown, hts⟩
  have q1 := hts _ (List.mem_of_getElem? (i := 1) (show wsX5_guestTells[1]? = some (Cond.fieldLink RX5 36 "PartyWill" "party" "LPartyWill$Party;") from rfl))
  have q2 := hts _ (List.mem_of_getElem? (i := 2) (show wsX5_guestTells[2]? = some (Cond.fieldLink RX5 46 "PartyWill" "course" "LPartyWill$Course;") from rfl))
  have q3 := hts _ (List.mem_of_getElem? (i := 3) (show wsX5_guestTells[3]? = some (Cond.static yX1_griefOf) from rfl))
  have q4 := hts _ (List.mem_of_getElem? (i := 4) (show wsX5_guestTells[4]? = some (Cond.initialized RX1) from rfl))
  have q7 := hts _ (List.mem_of_getElem? (i := 7) (show wsX5_guestTells[7]? = some (Cond.static yX1_isIn) from rfl))
  have q9 := hts _ (List.mem_of_getElem? (i := 9) (show wsX5_guestTells[9]? = some (Cond.instanceMethod yX2_watchers) from rfl))
  have q10 := hts _ (List.mem_of_getElem? (i := 10) (show wsX5_guestTells[10]? = some (Cond.initialized RX2) from rfl))
  have q11 := hts _ (List.mem_of_getElem? (i := 11) (show wsX5_guestTells[11]? = some (Cond.selects RX2 yX2_watchers yX2_watchers) from rfl))
  have iX0 : ∀ w ∈ u_ws RX0 TX0 3, w ∈ wsX5_guestTells := fun w h => List.mem_cons_of_mem _ (List.mem_append_right _ (h))
  have iX2 : ∀ w ∈ u_ws RX2 TX2 7, w ∈ wsX5_guestTells := fun w h => List.mem_cons_of_mem _ (List.mem_append_left _ (List.mem_append_right _ (h)))
  have iX5 : ∀ w ∈ u_ws RX5 TX5 14, w ∈ wsX5_guestTells := fun w h => List.mem_cons_of_mem _ (List.mem_append_left _ (List.mem_append_left _ (List.mem_append_right _ (h))))
  obtain ⟨ls, hl, e0⟩ := my_entry (m := m) (n := 3) ha (Nat.le_of_ble_eq_true rfl)
  rw [e0]
  have hl : lv_has ls 3 [(0, .ref (ad 0)), (1, .int x1), (2, .int x2)] := hl
  have key : ∀ Q : State → Prop, (∀ (pc : Nat) (ls : Array Slot), decode cX5_guestTells pc = .ok (.ireturn, 1) → W p l e ({ frames := 2, cells := 0, slots := 0, locals := 44 } : Room) s m args below meth c s.heap [] 0 0 Q (F0 m pc ls [.int r])) → W p l e ({ frames := 2, cells := 0, slots := 0, locals := 44 } : Room) s m args below meth c s.heap [] 0 0 Q (F0 m 0 ls []) := by
    intro Q hret
    unfold fX5_guestTells at h
    refine lv_iload_n hx hb dX5_guestTells_0 rfl (lv_at hl 2 rfl) ?_
    by_cases z1_0 : x2 = (0 : Int32)
    · have h := br_1 h z1_0
      refine lv_tableIn (tgt := 32) (off := 31) hx hb dX5_guestTells_1 (by rw [z1_0]; decide) (by rw [z1_0]; decide) (by rw [z1_0]; decide) (by decide) ?_
      refine lv_aload_n hx hb dX5_guestTells_32 rfl (lv_at hl 0 rfl) ?_
      refine va_get (D := D) (ci := 3) (C := RX5) (T := TX5) (N := 14) hx hb hts iX5 hown hK hP 0 wPW_0 rfl 5 (by decide) q1 (fun _ h9 => h9) rfl dX5_guestTells_33 ?_
      refine va_getN (host := "PartyWill") (D := D) (ci := 1) (C := RX2) (T := TX2) (N := 7) hx hb hts iX2 hown hK hP 6 wPW_6 rfl 3 (by decide) (va_Nw.use rfl (nw_X5_120 hKK.2)) (fun _ h9 => h9) rfl dX5_guestTells_36 ?_
      refine lv_iload_n hx hb dX5_guestTells_39 rfl (lv_at hl 1 rfl) ?_
      obtain ⟨hin1, h⟩ := ck_some h
      refine va_iald hx hb hK hP 8 0 wPW_8 rfl hin1 dX5_guestTells_40 ?_
      cases h
      exact hret _ _ dX5_guestTells_41
    have h := br_0 h z1_0
    by_cases z1_1 : x2 = (1 : Int32)
    · have h := br_1 h z1_1
      refine lv_tableIn (tgt := 42) (off := 41) hx hb dX5_guestTells_1 (by rw [z1_1]; decide) (by rw [z1_1]; decide) (by rw [z1_1]; decide) (by decide) ?_
      refine lv_aload_n hx hb dX5_guestTells_42 rfl (lv_at hl 0 rfl) ?_
      refine va_get (D := D) (ci := 3) (C := RX5) (T := TX5) (N := 14) hx hb hts iX5 hown hK hP 0 wPW_0 rfl 7 (by decide) q2 (fun _ h9 => h9) rfl dX5_guestTells_43 ?_
      refine va_getN (host := "PartyWill") (D := D) (ci := 0) (C := RX0) (T := TX0) (N := 3) hx hb hts iX0 hown hK hP 18 wPW_18 rfl 1 (by decide) (va_Nw.use rfl (nw_X5_127 hKK.2)) (fun _ h9 => h9) rfl dX5_guestTells_46 ?_
      refine lv_iload_n hx hb dX5_guestTells_49 rfl (lv_at hl 1 rfl) ?_
      obtain ⟨r50, hc, h⟩ := bd1_some h
      refine my_roi (va_Run.run (va_runSN (host := "PartyWill") (As := [.long cnow, .int x1]) (rest := []) hFix (kX1_griefOf l D T F cnow x1 r50 hc) ⟨va_cnB 2 hts gX5_guestTells_X1_griefOf_n175 rfl rfl rfl (nw_X5_175 hKK.2) q4 hd_X1_griefOf ⟨Nat.le_of_ble_eq_true rfl, Nat.le_of_ble_eq_true rfl⟩, q3, trivial⟩ (preS_ro va_nil hKK) rfl rfl hl.1 rfl (lv_room (Nat.le_of_ble_eq_true rfl)) dX5_guestTells_50 ⟨Nat.zero_le _, Nat.zero_le _⟩)) ?_
      cases h
      exact hret _ _ dX5_guestTells_53
    have h := br_0 h z1_1
    by_cases z1_2 : x2 = (2 : Int32)
    · have h := br_1 h z1_2
      refine lv_tableIn (tgt := 54) (off := 53) hx hb dX5_guestTells_1 (by rw [z1_2]; decide) (by rw [z1_2]; decide) (by rw [z1_2]; decide) (by decide) ?_
      refine lv_aload_n hx hb dX5_guestTells_54 rfl (lv_at hl 0 rfl) ?_
      refine va_get (D := D) (ci := 3) (C := RX5) (T := TX5) (N := 14) hx hb hts iX5 hown hK hP 0 wPW_0 rfl 7 (by decide) q2 (fun _ h9 => h9) rfl dX5_guestTells_55 ?_
      refine va_getN (host := "PartyWill") (D := D) (ci := 0) (C := RX0) (T := TX0) (N := 3) hx hb hts iX0 hown hK hP 18 wPW_18 rfl 1 (by decide) (va_Nw.use rfl (nw_X5_127 hKK.2)) (fun _ h9 => h9) rfl dX5_guestTells_58 ?_
      refine lv_iload_n hx hb dX5_guestTells_61 rfl (lv_at hl 1 rfl) ?_
      obtain ⟨r62, hc, h⟩ := bd1_some h
      refine my_roz (va_Run.run (va_runSN (host := "PartyWill") (As := [.long cnow, .int x1]) (rest := []) hFix (kX1_isIn l D T F cnow x1 r62 hc) ⟨va_cnB 2 hts gX5_guestTells_X1_isIn_n130 rfl rfl rfl (nw_X5_130 hKK.2) q4 hd_X1_isIn ⟨Nat.le_of_ble_eq_true rfl, Nat.le_of_ble_eq_true rfl⟩, q7, trivial⟩ (preS_ro va_nil hKK) rfl rfl hl.1 rfl (lv_room (Nat.le_of_ble_eq_true rfl)) dX5_guestTells_62 ⟨Nat.zero_le _, Nat.zero_le _⟩)) (fun hb62 => ?_)
      refine lv_if_eq (tgt := 72) hx hb dX5_guestTells_65 (by decide) (fun c65 => ?_) (fun c65 => ?_)
      · have h := br_1 h c65
        refine lv_iconst (v := (1 : Int32)) hx hb dX5_guestTells_72 (by decide) ?_
        cases h
        exact hret _ _ dX5_guestTells_73
      · have h := br_0 h c65
        refine lv_iconst (v := (0 : Int32)) hx hb dX5_guestTells_68 (by decide) ?_
        refine lv_goto (tgt := 73) hx hb dX5_guestTells_69 (by decide) ?_
        cases h
        exact hret _ _ dX5_guestTells_73
    have h := br_0 h z1_2
    by_cases z1_3 : x2 = (3 : Int32)
    · have h := br_1 h z1_3
      refine lv_tableIn (tgt := 74) (off := 73) hx hb dX5_guestTells_1 (by rw [z1_3]; decide) (by rw [z1_3]; decide) (by rw [z1_3]; decide) (by decide) ?_
      refine lv_aload_n hx hb dX5_guestTells_74 rfl (lv_at hl 0 rfl) ?_
      refine va_get (D := D) (ci := 3) (C := RX5) (T := TX5) (N := 14) hx hb hts iX5 hown hK hP 0 wPW_0 rfl 5 (by decide) q1 (fun _ h9 => h9) rfl dX5_guestTells_75 ?_
      refine va_getN (host := "PartyWill") (D := D) (ci := 1) (C := RX2) (T := TX2) (N := 7) hx hb hts iX2 hown hK hP 6 wPW_6 rfl 5 (by decide) (va_Nw.use rfl (nw_X5_304 hKK.2)) (fun _ h9 => h9) rfl dX5_guestTells_78 ?_
      refine lv_iload_n hx hb dX5_guestTells_81 rfl (lv_at hl 1 rfl) ?_
      obtain ⟨hin2, h⟩ := ck_some h
      refine va_iald hx hb hK hP 10 0 wPW_10 rfl hin2 dX5_guestTells_82 ?_
      cases h
      exact hret _ _ dX5_guestTells_83
    have h := br_0 h z1_3
    have e1_0 : x2.toInt ≠ 0 := fun e => z1_0 (Int32.toInt_inj.mp e)
    have e1_1 : x2.toInt ≠ 1 := fun e => z1_1 (Int32.toInt_inj.mp e)
    have e1_2 : x2.toInt ≠ 2 := fun e => z1_2 (Int32.toInt_inj.mp e)
    have e1_3 : x2.toInt ≠ 3 := fun e => z1_3 (Int32.toInt_inj.mp e)
    refine lv_tableOut (tgt := 84) hx hb dX5_guestTells_1 (by omega) (by decide) ?_
    refine lv_aload_n hx hb dX5_guestTells_84 rfl (lv_at hl 0 rfl) ?_
    refine va_get (D := D) (ci := 3) (C := RX5) (T := TX5) (N := 14) hx hb hts iX5 hown hK hP 0 wPW_0 rfl 5 (by decide) q1 (fun _ h9 => h9) rfl dX5_guestTells_85 ?_
    refine lv_aload_n hx hb dX5_guestTells_88 rfl (lv_at hl 0 rfl) ?_
    refine va_get (D := D) (ci := 3) (C := RX5) (T := TX5) (N := 14) hx hb hts iX5 hown hK hP 0 wPW_0 rfl 7 (by decide) q2 (fun _ h9 => h9) rfl dX5_guestTells_89 ?_
    refine va_getN (host := "PartyWill") (D := D) (ci := 0) (C := RX0) (T := TX0) (N := 3) hx hb hts iX0 hown hK hP 18 wPW_18 rfl 1 (by decide) (va_Nw.use rfl (nw_X5_127 hKK.2)) (fun _ h9 => h9) rfl dX5_guestTells_92 ?_
    refine lv_iload_n hx hb dX5_guestTells_95 rfl (lv_at hl 1 rfl) ?_
    obtain ⟨r96, hc, h⟩ := bd1_some h
    have hPc : va_P D vwCl (wPa T (ad 6) (ad 7) (ad 8) (ad 9) (ad 10) (ad 11) psize pclause peff pkin pgri psig psee) _ := my_subP sb_wPW_wPa_6to11 hP
    refine my_roi (va_Run.run (va_runVN (host := "PartyWill") (As := [.long cnow, .int x1]) (rest := []) hFix (kX2_watchers l D T F (ad 6) (ad 7) (ad 8) (ad 9) (ad 10) (ad 11) psize pclause peff pkin pgri psig psee cnow x1 r96 hc) ⟨va_cnB 2 hts gX5_guestTells_X2_watchers_n246 rfl rfl rfl (nw_X5_246 hKK.2) q10 hd_X2_watchers ⟨Nat.le_of_ble_eq_true rfl, Nat.le_of_ble_eq_true rfl⟩, q9, q11⟩ (preV_ro hPc hKK (va_recv hK hP (ci := 1) (q0 := 6) rfl wPW_6)) rfl rfl hl.1 rfl (lv_room (Nat.le_of_ble_eq_true rfl)) dX5_guestTells_96 ⟨Nat.zero_le _, Nat.zero_le _⟩)) ?_
    refine lv_if_eq (tgt := 106) hx hb dX5_guestTells_99 (by decide) (fun c99 => ?_) (fun c99 => ?_)
    · have h := br_1 h c99
      refine lv_iconst (v := (0 : Int32)) hx hb dX5_guestTells_106 (by decide) ?_
      cases h
      exact hret _ _ dX5_guestTells_107
    · have h := br_0 h c99
      refine lv_iconst (v := (1 : Int32)) hx hb dX5_guestTells_102 (by decide) ?_
      refine lv_goto (tgt := 107) hx hb dX5_guestTells_103 (by decide) ?_
      cases h
      exact hret _ _ dX5_guestTells_107
  exact key _ (fun pc ls hd => W.iret hx hb hr (fun t ht hW => ⟨_, rfl, rfl, ht⟩) (fun q h => by cases h) hd)
set_option maxHeartbeats 4000000 in
set_option maxRecDepth 100000 in
theorem kX5_isGuest (l : Launch) (D : va_G) (T : Nat → ClassId) (F : Nat) (ad : Nat → Nat) (rs : Nat → Int32) (rm : Nat → Nat → Int32) (ts : Nat → Int32) (tm : Nat → Nat → Int32) (rdue : Int32) (rtun : Int32) (rsee : Int32) (rbeg : Int32) (psize : Int32) (pclause : Int32) (peff : Nat → Int32) (pkin : Nat → Int32) (pgri : Nat → Int32) (psig : Nat → Int32) (psee : Nat → Int32) (qsize : Int32) (qclause : Int32) (qeff : Nat → Int32) (qkin : Nat → Int32) (qgri : Nat → Int32) (qsig : Nat → Int32) (qsee : Nat → Int32) (cdee : Int32) (cnow : Int64) (cahe : Nat → Int64) (kdee : Nat → Int32) (know : Nat → Int64) (kahe : Nat → Nat → Int64) (fc : Nat → Int32) (lf : Int32) (told : Int32) (up : Int64) (lo : Int64) (x1 : Int32) (r : Int32) (h : fX5_isGuest F psize x1 = some (r)) : Met l yX5_isGuest wsX5_isGuest ({ frames := 0, cells := 0, slots := 0, locals := 0 } : Room) (va_Pc [.ref (ad 0), .int x1] (fun U => va_P D vwCl (wPW T ad (ad 6) (ad 12) rs rm ts tm rdue rtun rsee rbeg psize pclause peff pkin pgri psig psee qsize qclause qeff qkin qgri qsig qsee cdee cnow cahe kdee know kahe fc lf told up lo) U.heap ∧ KK D T U)) (vp_Si (fun r' => r' = r ∧ b01 r)) 0 0 (fun _ => False) := by
  refine Met.ofW (cc := cX5_isGuest) (maxL := 2) (ret := some .boolean) (by decide) rfl ?_
  intro p e s m args below meth c s₁ B hml hv
  obtain ⟨ha, hP, hKK⟩ := hv
  have hx := B.exec
  have hb := B.bytes
  have hr := B.returns
  have hts := atoms_spec (ws := wsX5_isGuest) B.pre
  have hown : s.vm.findClass RX5 = some m.cls := findClass_of_methodNamed B.named
  have hlocks := B.notSynchronized
  have hK := hKK.1
  have hFix : CallFix p m c cX5_isGuest 2 s args wsX5_isGuest RX5 := ⟨hx, hb, hml, hown, hts⟩
  have q1 := hts _ (List.mem_of_getElem? (i := 1) (show wsX5_isGuest[1]? = some (Cond.fieldLink RX5 36 "PartyWill" "party" "LPartyWill$Party;") from rfl))
  have iX2 : ∀ w ∈ u_ws RX2 TX2 7, w ∈ wsX5_isGuest := fun w h => List.mem_cons_of_mem _ (List.mem_append_right _ (h))
  have iX5 : ∀ w ∈ u_ws RX5 TX5 14, w ∈ wsX5_isGuest := fun w h => List.mem_cons_of_mem _ (List.mem_append_left _ (List.mem_append_right _ (h)))
  obtain ⟨ls, hl, e0⟩ := my_entry (m := m) (n := 2) ha (Nat.le_of_ble_eq_true rfl)
  rw [e0]
  have hl : lv_has ls 2 [(0, .ref (ad 0)), (1, .int x1)] := hl
  have key : ∀ Q : State → Prop, (∀ (pc : Nat) (ls : Array Slot), decode cX5_isGuest pc = .ok (.ireturn, 1) → b01 r → W p l e ({ frames := 0, cells := 0, slots := 0, locals := 0 } : Room) s m args below meth c s.heap [] 0 0 Q (F0 m pc ls [.int r])) → W p l e ({ frames := 0, cells := 0, slots := 0, locals := 0 } : Room) s m args below meth c s.heap [] 0 0 Q (F0 m 0 ls []) := by
    intro Q hret
    unfold fX5_isGuest at h
    refine lv_iload_n hx hb dX5_isGuest_0 rfl (lv_at hl 1 rfl) ?_
    refine lv_if_lt (tgt := 19) hx hb dX5_isGuest_1 (by decide) (fun c1 => ?_) (fun c1 => ?_)
    · have h := br_1 h c1
      refine lv_iconst (v := (0 : Int32)) hx hb dX5_isGuest_19 (by decide) ?_
      cases h
      exact hret _ _ dX5_isGuest_20 (Or.inl rfl)
    · have h := br_0 h c1
      refine lv_iload_n hx hb dX5_isGuest_4 rfl (lv_at hl 1 rfl) ?_
      refine lv_aload_n hx hb dX5_isGuest_5 rfl (lv_at hl 0 rfl) ?_
      refine va_get (D := D) (ci := 3) (C := RX5) (T := TX5) (N := 14) hx hb hts iX5 hown hK hP 0 wPW_0 rfl 5 (by decide) q1 (fun _ h9 => h9) rfl dX5_isGuest_6 ?_
      refine va_getN (host := "PartyWill") (D := D) (ci := 1) (C := RX2) (T := TX2) (N := 7) hx hb hts iX2 hown hK hP 6 wPW_6 rfl 0 (by decide) (va_Nw.use rfl (nw_X5_111 hKK.2)) (fun _ h9 => h9) rfl dX5_isGuest_9 ?_
      refine lv_icmp_ge (tgt := 19) hx hb dX5_isGuest_12 (by decide) (fun c12 => ?_) (fun c12 => ?_)
      · have h := br_1 h c12
        refine lv_iconst (v := (0 : Int32)) hx hb dX5_isGuest_19 (by decide) ?_
        cases h
        exact hret _ _ dX5_isGuest_20 (Or.inl rfl)
      · have h := br_0 h c12
        refine lv_iconst (v := (1 : Int32)) hx hb dX5_isGuest_15 (by decide) ?_
        refine lv_goto (tgt := 20) hx hb dX5_isGuest_16 (by decide) ?_
        cases h
        exact hret _ _ dX5_isGuest_20 (Or.inr rfl)
  exact key _ (fun pc ls hd hb1 => W.zret hx hb hr (b01_n hb1) (fun t ht hW => ⟨_, rfl, ⟨rfl, hb1⟩, ht⟩) (fun q h => by cases h) hd)
set_option maxHeartbeats 4000000 in
set_option maxRecDepth 100000 in
theorem kX5_guest (l : Launch) (D : va_G) (T : Nat → ClassId) (F : Nat) (ad : Nat → Nat) (rs : Nat → Int32) (rm : Nat → Nat → Int32) (ts : Nat → Int32) (tm : Nat → Nat → Int32) (rdue : Int32) (rtun : Int32) (rsee : Int32) (rbeg : Int32) (psize : Int32) (pclause : Int32) (peff : Nat → Int32) (pkin : Nat → Int32) (pgri : Nat → Int32) (psig : Nat → Int32) (psee : Nat → Int32) (qsize : Int32) (qclause : Int32) (qeff : Nat → Int32) (qkin : Nat → Int32) (qgri : Nat → Int32) (qsig : Nat → Int32) (qsee : Nat → Int32) (cdee : Int32) (cnow : Int64) (cahe : Nat → Int64) (kdee : Nat → Int32) (know : Nat → Int64) (kahe : Nat → Nat → Int64) (fc : Nat → Int32) (lf : Int32) (told : Int32) (up : Int64) (lo : Int64) (x1 : Int32) (x2 : Int32) (r : Int32) (ztold : Int32) (h : fX5_guest F psize pkin psig psee cnow told x1 x2 = some (r, ztold)) : ∀ sz : Nat, Met l yX5_guest wsX5_guest ({ frames := 3, cells := 0, slots := 0, locals := 66 } : Room) (va_Pc [.ref (ad 0), .int x1, .int x2] (fun U => U.heap.size = sz ∧ va_P D vwCl (wPW T ad (ad 6) (ad 12) rs rm ts tm rdue rtun rsee rbeg psize pclause peff pkin pgri psig psee qsize qclause qeff qkin qgri qsig qsee cdee cnow cahe kdee know kahe fc lf told up lo) U.heap ∧ KK D T U ∧ va_D (fun _ => True) (wPW T ad (ad 6) (ad 12) rs rm ts tm rdue rtun rsee rbeg psize pclause peff pkin pgri psig psee qsize qclause qeff qkin qgri qsig qsee cdee cnow cahe kdee know kahe fc lf told up lo))) (va_Qi (fun r' (_ : Unit) => r' = r) (fun _ t => va_P D vwCl (wPW T ad (ad 6) (ad 12) rs rm ts tm rdue rtun rsee rbeg psize pclause peff pkin pgri psig psee qsize qclause qeff qkin qgri qsig qsee cdee cnow cahe kdee know kahe fc lf ztold up lo) t.heap ∧ va_D (va_A (wPW T ad (ad 6) (ad 12) rs rm ts tm rdue rtun rsee rbeg psize pclause peff pkin pgri psig psee qsize qclause qeff qkin qgri qsig qsee cdee cnow cahe kdee know kahe fc lf told up lo) sz) (wPW T ad (ad 6) (ad 12) rs rm ts tm rdue rtun rsee rbeg psize pclause peff pkin pgri psig psee qsize qclause qeff qkin qgri qsig qsee cdee cnow cahe kdee know kahe fc lf ztold up lo)) (va_A (wPW T ad (ad 6) (ad 12) rs rm ts tm rdue rtun rsee rbeg psize pclause peff pkin pgri psig psee qsize qclause qeff qkin qgri qsig qsee cdee cnow cahe kdee know kahe fc lf told up lo) sz)) 0 0 (va_A (wPW T ad (ad 6) (ad 12) rs rm ts tm rdue rtun rsee rbeg psize pclause peff pkin pgri psig psee qsize qclause qeff qkin qgri qsig qsee cdee cnow cahe kdee know kahe fc lf told up lo) sz) := by
  intro sz
  refine Met.ofW (cc := cX5_guest) (maxL := 3) (ret := some .int) (by decide) rfl ?_
  intro p e s m args below meth c s₁ B hml hv
  obtain ⟨ha, hsz, hP, hKK, hD0⟩ := hv
  have hx := B.exec
  have hb := B.bytes
  have hr := B.returns
  have hts := atoms_spec (ws := wsX5_guest) B.pre
  have hown : s.vm.findClass RX5 = some m.cls := findClass_of_methodNamed B.named
  have hlocks := B.notSynchronized
  have hK := hKK.1
  have hFix : CallFix p m c cX5_guest 3 s args wsX5_guest RX5 := ⟨hx, hb, hml, hown, hts⟩
  have q1 := hts _ (List.mem_of_getElem? (i := 1) (show wsX5_guest[1]? = some (Cond.fieldLink RX5 61 "PartyWill" "told" "I") from rfl))
  have iX5 : ∀ w ∈ u_ws RX5 TX5 14, w ∈ wsX5_guest := fun w h => List.mem_cons_of_mem _ (List.mem_append_left _ (List.mem_append_left _ (List.mem_append_right _ (h))))
  subst hsz
  have hD := hD0.self (sz := s.heap.size)
  generalize hAe : va_A (wPW T ad (ad 6) (ad 12) rs rm ts tm rdue rtun rsee rbeg psize pclause peff pkin pgri psig psee qsize qclause qeff qkin qgri qsig qsee cdee cnow cahe kdee know kahe fc lf told up lo) s.heap.size = A at hD ⊢
  have hA : ∀ q : Nat, s.heap.size ≤ q → A q := fun q h => by rw [← hAe]; exact Or.inr h
  have hS : va_S A s.heap s.heap [] := va_S.rf
  have hP : va_P D vwCl (wPW T ad (ad 6) (ad 12) rs rm ts tm rdue rtun rsee rbeg psize pclause peff pkin pgri psig psee qsize qclause qeff qkin qgri qsig qsee cdee cnow cahe kdee know kahe fc lf told up lo) s.heap := hP
  obtain ⟨ls, hl, e0⟩ := my_entry (m := m) (n := 3) ha (Nat.le_of_ble_eq_true rfl)
  rw [e0]
  have hl : lv_has ls 3 [(0, .ref (ad 0)), (1, .int x1), (2, .int x2)] := hl
  have key : ∀ Q : State → Prop, (∀ (H : Heap) (locs : List Loc) (pc : Nat) (ls : Array Slot), va_P D vwCl (wPW T ad (ad 6) (ad 12) rs rm ts tm rdue rtun rsee rbeg psize pclause peff pkin pgri psig psee qsize qclause qeff qkin qgri qsig qsee cdee cnow cahe kdee know kahe fc lf ztold up lo) H → va_D A (wPW T ad (ad 6) (ad 12) rs rm ts tm rdue rtun rsee rbeg psize pclause peff pkin pgri psig psee qsize qclause qeff qkin qgri qsig qsee cdee cnow cahe kdee know kahe fc lf ztold up lo) → va_S A s.heap H locs → decode cX5_guest pc = .ok (.ireturn, 1) → W p l e ({ frames := 3, cells := 0, slots := 0, locals := 66 } : Room) s m args below meth c H locs 0 0 Q (F0 m pc ls [.int r])) → W p l e ({ frames := 3, cells := 0, slots := 0, locals := 66 } : Room) s m args below meth c s.heap [] 0 0 Q (F0 m 0 ls []) := by
    intro Q hret
    skip
    unfold fX5_guest at h
    refine lv_aload_n hx hb dX5_guest_0 rfl (lv_at hl 0 rfl) ?_
    refine lv_iload_n hx hb dX5_guest_1 rfl (lv_at hl 1 rfl) ?_
    obtain ⟨r2, hc, h⟩ := bd1_some h
    refine my_roz (va_Run.run (va_runV (As := [.int x1]) (rest := []) hFix (kX5_isGuest l D T F ad rs rm ts tm rdue rtun rsee rbeg psize pclause peff pkin pgri psig psee qsize qclause qeff qkin qgri qsig qsee cdee cnow cahe kdee know kahe fc lf told up lo x1 r2 hc) (cwV 1 hts gX5_guest_X5_isGuest rfl rfl rfl ⟨rfl, hd_X5_isGuest⟩ ⟨Nat.le_of_ble_eq_true rfl, Nat.le_of_ble_eq_true rfl⟩) (preV_ro hP hKK (va_recv hK hP (ci := 3) (q0 := 0) rfl wPW_0)) rfl rfl hl.1 rfl (lv_room (Nat.le_of_ble_eq_true rfl)) dX5_guest_2 ⟨Nat.zero_le _, Nat.zero_le _⟩)) (fun hb2 => ?_)
    refine lv_if_eq (tgt := 17) hx hb dX5_guest_5 (by decide) (fun c5 => ?_) (fun c5 => ?_)
    · have h := br_1 h c5
      refine lv_iconst (v := (-1 : Int32)) hx hb dX5_guest_17 (by decide) ?_
      cases h
      exact hret _ _ _ _ hP hD hS dX5_guest_18
    · have h := br_0 h c5
      refine lv_iload_n hx hb dX5_guest_8 rfl (lv_at hl 2 rfl) ?_
      refine lv_if_lt (tgt := 17) hx hb dX5_guest_9 (by decide) (fun c9 => ?_) (fun c9 => ?_)
      · have h := br_1 h c9
        refine lv_iconst (v := (-1 : Int32)) hx hb dX5_guest_17 (by decide) ?_
        cases h
        exact hret _ _ _ _ hP hD hS dX5_guest_18
      · have h := br_0 h c9
        refine lv_iload_n hx hb dX5_guest_12 rfl (lv_at hl 2 rfl) ?_
        refine lv_iconst (v := (4 : Int32)) hx hb dX5_guest_13 (by decide) ?_
        refine lv_icmp_le (tgt := 19) hx hb dX5_guest_14 (by decide) (fun c14 => ?_) (fun c14 => ?_)
        · have h := br_1 h c14
          refine lv_aload_n hx hb dX5_guest_19 rfl (lv_at hl 0 rfl) ?_
          refine lv_aload_n hx hb dX5_guest_20 rfl (lv_at hl 0 rfl) ?_
          refine lv_iload_n hx hb dX5_guest_21 rfl (lv_at hl 1 rfl) ?_
          refine lv_iload_n hx hb dX5_guest_22 rfl (lv_at hl 2 rfl) ?_
          obtain ⟨r23, hc, h⟩ := bd1_some h
          refine my_roi (va_Run.run (va_runV (As := [.int x1, .int x2]) (rest := [.ref (ad 0)]) hFix (kX5_guestTells l D T F ad rs rm ts tm rdue rtun rsee rbeg psize pclause peff pkin pgri psig psee qsize qclause qeff qkin qgri qsig qsee cdee cnow cahe kdee know kahe fc lf told up lo x1 x2 r23 hc) (cwV 2 hts gX5_guest_X5_guestTells rfl rfl rfl ⟨rfl, hd_X5_guestTells⟩ ⟨Nat.le_of_ble_eq_true rfl, Nat.le_of_ble_eq_true rfl⟩) (preV_ro hP hKK (va_recv hK hP (ci := 3) (q0 := 0) rfl wPW_0)) rfl rfl hl.1 rfl (lv_room (Nat.le_of_ble_eq_true rfl)) dX5_guest_23 ⟨Nat.zero_le _, Nat.zero_le _⟩)) ?_
          refine va_put (D := D) (ci := 3) (v := .int r23) (ty := .int) (C := RX5) (T := TX5) (N := 14) hx hb hts iX5 tyX5 tyX5_ok nmX5 hown hK hP hD hS 0 wPW_0 rfl 11 (by decide) q1 (fun _ h9 => h9) rfl (by decide +kernel) rfl rfl (Nat.le_of_ble_eq_true rfl) dX5_guest_26 (fun H locs hP hD hS => ?_)
          have hP : va_P D vwCl (wPW T ad (ad 6) (ad 12) rs rm ts tm rdue rtun rsee rbeg psize pclause peff pkin pgri psig psee qsize qclause qeff qkin qgri qsig qsee cdee cnow cahe kdee know kahe fc lf r23 up lo) H := hP
          have hD : va_D A (wPW T ad (ad 6) (ad 12) rs rm ts tm rdue rtun rsee rbeg psize pclause peff pkin pgri psig psee qsize qclause qeff qkin qgri qsig qsee cdee cnow cahe kdee know kahe fc lf r23 up lo) := hD
          refine lv_iconst (v := (1 : Int32)) hx hb dX5_guest_29 (by decide) ?_
          cases h
          exact hret _ _ _ _ hP hD hS dX5_guest_30
        · have h := br_0 h c14
          refine lv_iconst (v := (-1 : Int32)) hx hb dX5_guest_17 (by decide) ?_
          cases h
          exact hret _ _ _ _ hP hD hS dX5_guest_18
  exact key _ (fun H locs pc ls hP hD hS hd => W.iret hx hb hr (fun t ht hW => ⟨⟨_, (), rfl, rfl, by show _ ∧ _; rw [ht]; exact ⟨hP, hD⟩⟩, hS.F ht⟩) hS.2.2 hd)
