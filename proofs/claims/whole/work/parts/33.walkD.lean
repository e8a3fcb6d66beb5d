set_option maxHeartbeats 4000000 in
set_option maxRecDepth 100000 in
theorem kX5_grief (l : Launch) (D : va_G) (T : Nat → ClassId) (F : Nat) (ad : Nat → Nat) (rs : Nat → Int32) (rm : Nat → Nat → Int32) (ts : Nat → Int32) (tm : Nat → Nat → Int32) (rdue : Int32) (rtun : Int32) (rsee : Int32) (rbeg : Int32) (psize : Int32) (pclause : Int32) (peff : Nat → Int32) (pkin : Nat → Int32) (pgri : Nat → Int32) (psig : Nat → Int32) (psee : Nat → Int32) (qsize : Int32) (qclause : Int32) (qeff : Nat → Int32) (qkin : Nat → Int32) (qgri : Nat → Int32) (qsig : Nat → Int32) (qsee : Nat → Int32) (cdee : Int32) (cnow : Int64) (cahe : Nat → Int64) (kdee : Nat → Int32) (know : Nat → Int64) (kahe : Nat → Nat → Int64) (fc : Nat → Int32) (lf : Int32) (told : Int32) (up : Int64) (lo : Int64) (x1 : Int32) (x2 : Int32) (r : Int32) (zfc : Nat → Int32) (zlf : Int32) (h : fX5_grief F rs rm psize pclause peff pkin psee cnow fc lf x1 x2 = some (r, zfc, zlf)) : ∀ sz : Nat, Met l yX5_grief wsX5_grief ({ frames := 4, cells := 0, slots := 0, locals := 102 } : Room) (va_Pc [.ref (ad 0), .int x1, .int x2] (fun U => U.heap.size = sz ∧ va_P D vwCl (wPW T ad (ad 6) (ad 12) rs rm ts tm rdue rtun rsee rbeg psize pclause peff pkin pgri psig psee qsize qclause qeff qkin qgri qsig qsee cdee cnow cahe kdee know kahe fc lf told up lo) U.heap ∧ KK D T U ∧ va_D (fun _ => True) (wPW T ad (ad 6) (ad 12) rs rm ts tm rdue rtun rsee rbeg psize pclause peff pkin pgri psig psee qsize qclause qeff qkin qgri qsig qsee cdee cnow cahe kdee know kahe fc lf told up lo))) (va_Qi (fun r' (_ : Unit) => r' = r) (fun _ t => va_P D vwCl (wPW T ad (ad 6) (ad 12) rs rm ts tm rdue rtun rsee rbeg psize pclause peff pkin pgri psig psee qsize qclause qeff qkin qgri qsig qsee cdee cnow cahe kdee know kahe zfc zlf told up lo) t.heap ∧ va_D (va_A (wPW T ad (ad 6) (ad 12) rs rm ts tm rdue rtun rsee rbeg psize pclause peff pkin pgri psig psee qsize qclause qeff qkin qgri qsig qsee cdee cnow cahe kdee know kahe fc lf told up lo) sz) (wPW T ad (ad 6) (ad 12) rs rm ts tm rdue rtun rsee rbeg psize pclause peff pkin pgri psig psee qsize qclause qeff qkin qgri qsig qsee cdee cnow cahe kdee know kahe zfc zlf told up lo)) (va_A (wPW T ad (ad 6) (ad 12) rs rm ts tm rdue rtun rsee rbeg psize pclause peff pkin pgri psig psee qsize qclause qeff qkin qgri qsig qsee cdee cnow cahe kdee know kahe fc lf told up lo) sz)) 0 0 (va_A (wPW T ad (ad 6) (ad 12) rs rm ts tm rdue rtun rsee rbeg psize pclause peff pkin pgri psig psee qsize qclause qeff qkin qgri qsig qsee cdee cnow cahe kdee know kahe fc lf told up lo) sz) := by
  intro sz
  refine Met.ofW (cc := cX5_grief) (maxL := 7) (ret := some .int) (by decide) rfl ?_
  intro p e s m args below meth c s₁ B hml hv
  obtain ⟨ha, hsz, hP, hKK, hD0⟩ := hv
  have hx := B.exec
  have hb := B.bytes
  have hr := B.returns
  have hts := atoms_spec (ws := wsX5_grief) B.pre
  have hown : s.vm.findClass RX5 = some m.cls := findClass_of_methodNamed B.named
  have hlocks := B.notSynchronized
  have hK := hKK.1
  have hFix : CallFix p m c cX5_grief 7 s args wsX5_grief RX5 := ⟨hx, hb, hml, hown, hts⟩
  have q1 := hts _ (List.mem_of_getElem? (i := 1) (show wsX5_grief[1]? = some (Cond.fieldLink RX5 46 "PartyWill" "course" "LPartyWill$Course;") from rfl))
  have q2 := hts _ (List.mem_of_getElem? (i := 2) (show wsX5_grief[2]? = some (Cond.fieldLink RX5 14 "PartyWill" "rowSizes" "[I") from rfl))
  have q3 := hts _ (List.mem_of_getElem? (i := 3) (show wsX5_grief[3]? = some (Cond.fieldLink RX5 36 "PartyWill" "party" "LPartyWill$Party;") from rfl))
  have q4 := hts _ (List.mem_of_getElem? (i := 4) (show wsX5_grief[4]? = some (Cond.fieldLink RX5 11 "PartyWill" "rows" "[[I") from rfl))
  have q26 := hts _ (List.mem_of_getElem? (i := 26) (show wsX5_grief[26]? = some (Cond.instanceMethod yX2_afterTune) from rfl))
  have q27 := hts _ (List.mem_of_getElem? (i := 27) (show wsX5_grief[27]? = some (Cond.initialized RX2) from rfl))
  have q28 := hts _ (List.mem_of_getElem? (i := 28) (show wsX5_grief[28]? = some (Cond.selects RX2 yX2_afterTune yX2_afterTune) from rfl))
  have q34 := hts _ (List.mem_of_getElem? (i := 34) (show wsX5_grief[34]? = some (Cond.initialized RX1) from rfl))
  have q36 := hts _ (List.mem_of_getElem? (i := 36) (show wsX5_grief[36]? = some (Cond.static yX1_griefOf) from rfl))
  have iX0 : ∀ w ∈ u_ws RX0 TX0 3, w ∈ wsX5_grief := fun w h => List.mem_cons_of_mem _ (List.mem_append_left _ (List.mem_append_right _ (h)))
  have iX5 : ∀ w ∈ u_ws RX5 TX5 14, w ∈ wsX5_grief := fun w h => List.mem_cons_of_mem _ (List.mem_append_left _ (List.mem_append_left _ (List.mem_append_right _ (h))))
  subst hsz
  have hD := hD0.self (sz := s.heap.size)
  generalize hAe : va_A (wPW T ad (ad 6) (ad 12) rs rm ts tm rdue rtun rsee rbeg psize pclause peff pkin pgri psig psee qsize qclause qeff qkin qgri qsig qsee cdee cnow cahe kdee know kahe fc lf told up lo) s.heap.size = A at hD ⊢
  have hA : ∀ q : Nat, s.heap.size ≤ q → A q := fun q h => by rw [← hAe]; exact Or.inr h
  have hS : va_S A s.heap s.heap [] := va_S.rf
  have hP : va_P D vwCl (wPW T ad (ad 6) (ad 12) rs rm ts tm rdue rtun rsee rbeg psize pclause peff pkin pgri psig psee qsize qclause qeff qkin qgri qsig qsee cdee cnow cahe kdee know kahe fc lf told up lo) s.heap := hP
  obtain ⟨ls, hl, e0⟩ := my_entry (m := m) (n := 7) ha (Nat.le_of_ble_eq_true rfl)
  rw [e0]
  have hl : lv_has ls 7 [(0, .ref (ad 0)), (1, .int x1), (2, .int x2)] := hl
  have key : ∀ Q : State → Prop, (∀ (H : Heap) (locs : List Loc) (pc : Nat) (ls : Array Slot), va_P D vwCl (wPW T ad (ad 6) (ad 12) rs rm ts tm rdue rtun rsee rbeg psize pclause peff pkin pgri psig psee qsize qclause qeff qkin qgri qsig qsee cdee cnow cahe kdee know kahe zfc zlf told up lo) H → va_D A (wPW T ad (ad 6) (ad 12) rs rm ts tm rdue rtun rsee rbeg psize pclause peff pkin pgri psig psee qsize qclause qeff qkin qgri qsig qsee cdee cnow cahe kdee know kahe zfc zlf told up lo) → va_S A s.heap H locs → decode cX5_grief pc = .ok (.ireturn, 1) → W p l e ({ frames := 4, cells := 0, slots := 0, locals := 102 } : Room) s m args below meth c H locs 0 0 Q (F0 m pc ls [.int r])) → W p l e ({ frames := 4, cells := 0, slots := 0, locals := 102 } : Room) s m args below meth c s.heap [] 0 0 Q (F0 m 0 ls []) := by
    intro Q hret
    skip
    have l45 : ∀ x1 : Int32, ∀ x2 : Int32, ∀ fc : Nat → Int32, ∀ lf : Int32, ∀ nu : Nat, ∀ x4 : Int64, ∀ x6 : Int32, fX5_grief_l45 F rs rm psize pclause peff pkin psee cnow x1 x2 fc lf nu x4 x6 = some (r, zfc, zlf) → ∀ (H : Heap) (locs : List Loc), va_P D vwCl (wPW T ad (ad 6) (ad 12) rs rm ts tm rdue rtun rsee rbeg psize pclause peff pkin pgri psig psee qsize qclause qeff qkin qgri qsig qsee cdee cnow cahe kdee know kahe fc lf told up lo) H → va_D A (wPW T ad (ad 6) (ad 12) rs rm ts tm rdue rtun rsee rbeg psize pclause peff pkin pgri psig psee qsize qclause qeff qkin qgri qsig qsee cdee cnow cahe kdee know kahe fc lf told up lo) → va_S A s.heap H locs → ∀ (ls : Array Slot), lv_has ls 7 [(0, .ref (ad 0)), (1, .int x1), (2, .int x2), (4, .long x4), (6, .int x6)] → W p l e ({ frames := 4, cells := 0, slots := 0, locals := 102 } : Room) s m args below meth c H locs 0 0 Q (F0 m 45 ls []) := by
      intro x1 x2 fc lf
      intro nu
      induction nu with
      | zero => intro x4 x6 h; exact none_some h
      | succ nu45 ih45 =>
        intro x4 x6 h H locs hP hD hS ls hl
        have h : fX5_grief_l45_b F rs rm psize pclause peff pkin psee cnow x1 x2 fc lf (fX5_grief_l45 F rs rm psize pclause peff pkin psee cnow x1 x2 fc lf nu45) x4 x6 = some (r, zfc, zlf) := h
        unfold fX5_grief_l45_b at h
        refine lv_iload hx hb dX5_grief_45 (lv_at hl 4 rfl) ?_
        refine lv_aload_n hx hb dX5_grief_47 rfl (lv_at hl 0 rfl) ?_
        refine va_get (D := D) (ci := 3) (C := RX5) (T := TX5) (N := 14) hx hb hts iX5 hown hK hP 0 wPW_0 rfl 1 (by decide) q2 (fun _ h9 => h9) rfl dX5_grief_48 ?_
        refine lv_iload_n hx hb dX5_grief_51 rfl (lv_at hl 2 rfl) ?_
        obtain ⟨hin1, h⟩ := ck_some h
        refine va_iald hx hb hK hP 2 0 wPW_2 rfl hin1 dX5_grief_52 ?_
        refine lv_icmp_ge (tgt := 82) hx hb dX5_grief_53 (by decide) (fun c53 => ?_) (fun c53 => ?_)
        · have h := br_1 h c53
          refine lv_lload hx hb dX5_grief_82 (lv_at hl 3 rfl) ?_
          refine lv_iload_n hx hb dX5_grief_84 rfl (lv_at hl 1 rfl) ?_
          obtain ⟨r85, hc, h⟩ := bd1_some h
          refine my_roi (va_Run.run (va_runSN (host := "PartyWill") (As := [.long x4, .int x1]) (rest := []) hFix (kX1_griefOf l D T F x4 x1 r85 hc) ⟨va_cnB 2 hts gX5_grief_X1_griefOf_n175 rfl rfl rfl (nw_X5_175 hKK.2) q34 hd_X1_griefOf ⟨Nat.le_of_ble_eq_true rfl, Nat.le_of_ble_eq_true rfl⟩, q36, trivial⟩ (preS_ro va_nil hKK) rfl rfl hl.1 rfl (lv_room (Nat.le_of_ble_eq_true rfl)) dX5_grief_85 ⟨Nat.zero_le _, Nat.zero_le _⟩)) ?_
          cases h
          exact hret _ _ _ _ hP hD hS dX5_grief_88
        · have h := br_0 h c53
          refine lv_aload_n hx hb dX5_grief_56 rfl (lv_at hl 0 rfl) ?_
          refine va_get (D := D) (ci := 3) (C := RX5) (T := TX5) (N := 14) hx hb hts iX5 hown hK hP 0 wPW_0 rfl 5 (by decide) q3 (fun _ h9 => h9) rfl dX5_grief_57 ?_
          refine lv_lload hx hb dX5_grief_60 (lv_at hl 3 rfl) ?_
          refine lv_aload_n hx hb dX5_grief_62 rfl (lv_at hl 0 rfl) ?_
          refine va_get (D := D) (ci := 3) (C := RX5) (T := TX5) (N := 14) hx hb hts iX5 hown hK hP 0 wPW_0 rfl 0 (by decide) q4 (fun _ h9 => h9) rfl dX5_grief_63 ?_
          refine lv_iload_n hx hb dX5_grief_66 rfl (lv_at hl 2 rfl) ?_
          obtain ⟨hin3, h⟩ := ck_some h
          have hk2 : x2.toNatClampNeg < 6 := vp_lt hin3
          refine my_ald (b := (ad (28 + x2.toNatClampNeg))) rfl hx hb hK hP 1 4 wPW_1 rfl hin3 (fun _ => if_pos hk2) dX5_grief_67 ?_
          refine lv_iload hx hb dX5_grief_68 (lv_at hl 4 rfl) ?_
          obtain ⟨hin4, h⟩ := ck_some h
          refine va_iald hx hb hK hP (28 + x2.toNatClampNeg) 0 (wPW_f_rows0 hk2) rfl hin4 dX5_grief_70 ?_
          obtain ⟨r71, hc, h⟩ := bd1_some h
          have hPc : va_P D vwCl (wPa T (ad 6) (ad 7) (ad 8) (ad 9) (ad 10) (ad 11) psize pclause peff pkin pgri psig psee) H := my_subP sb_wPW_wPa_6to11 hP
          refine my_rol (va_Run.run (va_runVN (host := "PartyWill") (As := [.long x4, .int ((rm x2.toNatClampNeg) x6.toNatClampNeg)]) (rest := []) hFix (kX2_afterTune l D T F (ad 6) (ad 7) (ad 8) (ad 9) (ad 10) (ad 11) psize pclause peff pkin pgri psig psee x4 ((rm x2.toNatClampNeg) x6.toNatClampNeg) r71 hc) ⟨va_cnB 2 hts gX5_grief_X2_afterTune_n162 rfl rfl rfl (nw_X5_162 hKK.2) q27 hd_X2_afterTune ⟨Nat.le_of_ble_eq_true rfl, Nat.le_of_ble_eq_true rfl⟩, q26, q28⟩ (preV_ro hPc hKK (va_recv hK hP (ci := 1) (q0 := 6) rfl wPW_6)) rfl rfl hl.1 rfl (lv_room (Nat.le_of_ble_eq_true rfl)) dX5_grief_71 ⟨Nat.zero_le _, Nat.zero_le _⟩)) ?_
          refine lv_lstore (lv' := [(4, .long r71), (0, .ref (ad 0)), (1, .int x1), (2, .int x2), (6, .int x6)]) hx hb dX5_grief_74 hl (by decide) rfl (fun ls hl => ?_)
          refine lv_iinc (v := (x6 + (1 : Int32))) (lv' := [(6, .int (x6 + (1 : Int32))), (4, .long r71), (0, .ref (ad 0)), (1, .int x1), (2, .int x2)]) hx hb dX5_grief_76 hl (k := 4) rfl rfl (by decide) rfl (fun ls hl => ?_)
          refine lv_goto (tgt := 45) hx hb dX5_grief_79 (by decide) ?_
          exact ih45 r71 (x6 + (1 : Int32)) h _ _ hP hD hS _ (lv_sub hl [2, 3, 4, 1, 0] rfl)
    unfold fX5_grief at h
    refine lv_aload_n hx hb dX5_grief_0 rfl (lv_at hl 0 rfl) ?_
    refine lv_iload_n hx hb dX5_grief_1 rfl (lv_at hl 1 rfl) ?_
    obtain ⟨r2, hc, h⟩ := bd1_some h
    refine my_roz (va_Run.run (va_runV (As := [.int x1]) (rest := []) hFix (kX5_isGuest l D T F ad (ad 6) (ad 12) rs rm ts tm rdue rtun rsee rbeg psize pclause peff pkin pgri psig psee qsize qclause qeff qkin qgri qsig qsee cdee cnow cahe kdee know kahe fc lf told up lo x1 r2 hc) (cwV 1 hts gX5_grief_X5_isGuest rfl rfl rfl ⟨rfl, hd_X5_isGuest⟩ ⟨Nat.le_of_ble_eq_true rfl, Nat.le_of_ble_eq_true rfl⟩) (preV_ro hP hKK (va_recv hK hP (ci := 3) (q0 := 0) rfl wPW_0)) rfl rfl hl.1 rfl (lv_room (Nat.le_of_ble_eq_true rfl)) dX5_grief_2 ⟨Nat.zero_le _, Nat.zero_le _⟩)) (fun hb2 => ?_)
    refine lv_if_eq (tgt := 15) hx hb dX5_grief_5 (by decide) (fun c5 => ?_) (fun c5 => ?_)
    · have h := br_1 h c5
      refine lv_iconst (v := (-1 : Int32)) hx hb dX5_grief_15 (by decide) ?_
      cases h
      exact hret _ _ _ _ hP hD hS dX5_grief_16
    · have h := br_0 h c5
      refine lv_iload_n hx hb dX5_grief_8 rfl (lv_at hl 2 rfl) ?_
      obtain ⟨r9, hc, h⟩ := bd1_some h
      refine my_roz (va_Run.run (va_runS (As := [.int x2]) (rest := []) hFix (kX5_isRow l D T F x2 r9 hc) (va_cwS 1 hts gX5_grief_X5_isRow rfl rfl rfl hd_X5_isRow ⟨Nat.le_of_ble_eq_true rfl, Nat.le_of_ble_eq_true rfl⟩) (preS_ro va_nil hKK) rfl rfl hl.1 rfl (lv_room (Nat.le_of_ble_eq_true rfl)) dX5_grief_9 ⟨Nat.zero_le _, Nat.zero_le _⟩)) (fun hb9 => ?_)
      refine lv_if_ne (tgt := 17) hx hb dX5_grief_12 (by decide) (fun c12 => ?_) (fun c12 => ?_)
      · have h := br_0 h c12
        refine lv_aload_n hx hb dX5_grief_17 rfl (lv_at hl 0 rfl) ?_
        refine lv_iload_n hx hb dX5_grief_18 rfl (lv_at hl 2 rfl) ?_
        obtain ⟨r19, hc, h⟩ := bd1_some h
        refine my_roi (va_Run.run (va_runV (As := [.int x2]) (rest := []) hFix (kX5_programmeFinding l D T F ad (ad 6) (ad 12) rs rm ts tm rdue rtun rsee rbeg psize pclause peff pkin pgri psig psee qsize qclause qeff qkin qgri qsig qsee cdee cnow cahe kdee know kahe fc lf told up lo x2 r19 hc) (cwV 1 hts gX5_grief_X5_programmeFinding rfl rfl rfl ⟨rfl, hd_X5_programmeFinding⟩ ⟨Nat.le_of_ble_eq_true rfl, Nat.le_of_ble_eq_true rfl⟩) (preV_ro hP hKK (va_recv hK hP (ci := 3) (q0 := 0) rfl wPW_0)) rfl rfl hl.1 rfl (lv_room (Nat.le_of_ble_eq_true rfl)) dX5_grief_19 ⟨Nat.zero_le _, Nat.zero_le _⟩)) ?_
        refine lv_istore_n (lv' := [(3, .int r19), (0, .ref (ad 0)), (1, .int x1), (2, .int x2)]) hx hb dX5_grief_22 rfl hl (by decide) rfl (fun ls hl => ?_)
        refine lv_iload_n hx hb dX5_grief_23 rfl (lv_at hl 0 rfl) ?_
        refine lv_if_eq (tgt := 33) hx hb dX5_grief_24 (by decide) (fun c24 => ?_) (fun c24 => ?_)
        · have h := br_1 h c24
          refine lv_aload_n hx hb dX5_grief_33 rfl (lv_at hl 1 rfl) ?_
          refine va_get (D := D) (ci := 3) (C := RX5) (T := TX5) (N := 14) hx hb hts iX5 hown hK hP 0 wPW_0 rfl 7 (by decide) q1 (fun _ h9 => h9) rfl dX5_grief_34 ?_
          refine va_getN (host := "PartyWill") (D := D) (ci := 0) (C := RX0) (T := TX0) (N := 3) hx hb hts iX0 hown hK hP 18 wPW_18 rfl 1 (by decide) (va_Nw.use rfl (nw_X5_127 hKK.2)) (fun _ h9 => h9) rfl dX5_grief_37 ?_
          refine lv_lstore (lv' := [(4, .long cnow), (3, .int r19), (0, .ref (ad 0)), (1, .int x1), (2, .int x2)]) hx hb dX5_grief_40 hl (by decide) rfl (fun ls hl => ?_)
          refine lv_iconst (v := (0 : Int32)) hx hb dX5_grief_42 (by decide) ?_
          refine lv_istore (lv' := [(6, .int (0 : Int32)), (4, .long cnow), (3, .int r19), (0, .ref (ad 0)), (1, .int x1), (2, .int x2)]) hx hb dX5_grief_43 hl (by decide) rfl (fun ls hl => ?_)
          exact l45 x1 x2 fc lf F cnow (0 : Int32) h _ _ hP hD hS _ (lv_sub hl [3, 4, 5, 1, 0] rfl)
        · have h := br_0 h c24
          refine lv_aload_n hx hb dX5_grief_27 rfl (lv_at hl 1 rfl) ?_
          refine lv_iload_n hx hb dX5_grief_28 rfl (lv_at hl 0 rfl) ?_
          obtain ⟨r29, w29_fc, w29_lf, hc, h⟩ := bd3_some h
          have hFc := my_freeS hD hS hA
          refine my_rwi (va_runV (As := [.int r19]) (rest := []) hFix (kX5_found l D T F ad (ad 6) (ad 12) rs rm ts tm rdue rtun rsee rbeg psize pclause peff pkin pgri psig psee qsize qclause qeff qkin qgri qsig qsee cdee cnow cahe kdee know kahe fc lf told up lo r19 r29 w29_fc w29_lf hc) (cwV 1 hts gX5_grief_X5_found rfl rfl rfl ⟨rfl, hd_X5_found⟩ ⟨Nat.le_of_ble_eq_true rfl, Nat.le_of_ble_eq_true rfl⟩) (preV_rw hP hKK hD (va_recv hK hP (ci := 3) (q0 := 0) rfl wPW_0)) rfl rfl hl.1 rfl (lv_room (Nat.le_of_ble_eq_true rfl)) dX5_grief_29 ⟨Nat.zero_le _, Nat.zero_le _⟩) hS hFc (fun H1 locs hP1 hD1 hz1 hk1 hS => ?_)
          have hP : va_P D vwCl (wPW T ad (ad 6) (ad 12) rs rm ts tm rdue rtun rsee rbeg psize pclause peff pkin pgri psig psee qsize qclause qeff qkin qgri qsig qsee cdee cnow cahe kdee know kahe w29_fc w29_lf told up lo) H1 := hP1
          have hD : va_D A (wPW T ad (ad 6) (ad 12) rs rm ts tm rdue rtun rsee rbeg psize pclause peff pkin pgri psig psee qsize qclause qeff qkin qgri qsig qsee cdee cnow cahe kdee know kahe w29_fc w29_lf told up lo) := hD1.weaken (fun _ q _ h => hFc q.1 h)
          generalize H1 = H at hP hS ⊢
          cases h
          exact hret _ _ _ _ hP hD hS dX5_grief_32
      · have h := br_1 h c12
        refine lv_iconst (v := (-1 : Int32)) hx hb dX5_grief_15 (by decide) ?_
        cases h
        exact hret _ _ _ _ hP hD hS dX5_grief_16
  exact key _ (fun H locs pc ls hP hD hS hd => W.iret hx hb hr (fun t ht hW => ⟨⟨_, (), rfl, rfl, by show _ ∧ _; rw [ht]; exact ⟨hP, hD⟩⟩, hS.F ht⟩) hS.2.2 hd)
set_option maxHeartbeats 4000000 in
set_option maxRecDepth 100000 in
theorem kX5_searchRefusal (l : Launch) (D : va_G) (T : Nat → ClassId) (F : Nat) (ad : Nat → Nat) (rs : Nat → Int32) (rm : Nat → Nat → Int32) (ts : Nat → Int32) (tm : Nat → Nat → Int32) (rdue : Int32) (rtun : Int32) (rsee : Int32) (rbeg : Int32) (psize : Int32) (pclause : Int32) (peff : Nat → Int32) (pkin : Nat → Int32) (pgri : Nat → Int32) (psig : Nat → Int32) (psee : Nat → Int32) (qsize : Int32) (qclause : Int32) (qeff : Nat → Int32) (qkin : Nat → Int32) (qgri : Nat → Int32) (qsig : Nat → Int32) (qsee : Nat → Int32) (cdee : Int32) (cnow : Int64) (cahe : Nat → Int64) (kdee : Nat → Int32) (know : Nat → Int64) (kahe : Nat → Nat → Int64) (fc : Nat → Int32) (lf : Int32) (told : Int32) (up : Int64) (lo : Int64) (x1 : Int32) (r : Int32) (h : fX5_searchRefusal F psize x1 = some (r)) : Met l yX5_searchRefusal wsX5_searchRefusal ({ frames := 0, cells := 0, slots := 0, locals := 0 } : Room) (va_Pc [.ref (ad 0), .int x1] (fun U => va_P D vwCl (wPW T ad (ad 6) (ad 12) rs rm ts tm rdue rtun rsee rbeg psize pclause peff pkin pgri psig psee qsize qclause qeff qkin qgri qsig qsee cdee cnow cahe kdee know kahe fc lf told up lo) U.heap ∧ KK D T U)) (vp_Si (fun r' => r' = r)) 0 0 (fun _ => False) := by
  refine Met.ofW (cc := cX5_searchRefusal) (maxL := 2) (ret := some .int) (by decide) rfl ?_
  intro p e s m args below meth c s₁ B hml hv
  obtain ⟨ha, hP, hKK⟩ := hv
  have hx := B.exec
  have hb := B.bytes
  have hr := B.returns
  have hts := atoms_spec (ws := wsX5_searchRefusal) B.pre
  have hown : s.vm.findClass RX5 = some m.cls := findClass_of_methodNamed B.named
  have hlocks := B.notSynchronized
  have hK := hKK.1
  have hFix : CallFix p m c cX5_searchRefusal 2 s args wsX5_searchRefusal RX5 := ⟨hx, hb, hml, hown, hts⟩
  have q1 := hts _ (List.mem_of_getElem? (i := 1) (show wsX5_searchRefusal[1]? = some (Cond.fieldLink RX5 36 "PartyWill" "party" "LPartyWill$Party;") from rfl))
  have iX2 : ∀ w ∈ u_ws RX2 TX2 7, w ∈ wsX5_searchRefusal := fun w h => List.mem_cons_of_mem _ (List.mem_append_right _ (h))
  have iX5 : ∀ w ∈ u_ws RX5 TX5 14, w ∈ wsX5_searchRefusal := fun w h => List.mem_cons_of_mem _ (List.mem_append_left _ (List.mem_append_right _ (h)))
  obtain ⟨ls, hl, e0⟩ := my_entry (m := m) (n := 2) ha (Nat.le_of_ble_eq_true rfl)
  rw [e0]
  have hl : lv_has ls 2 [(0, .ref (ad 0)), (1, .int x1)] := hl
  have key : ∀ Q : State → Prop, (∀ (pc : Nat) (ls : Array Slot), decode cX5_searchRefusal pc = .ok (.ireturn, 1) → W p l e ({ frames := 0, cells := 0, slots := 0, locals := 0 } : Room) s m args below meth c s.heap [] 0 0 Q (F0 m pc ls [.int r])) → W p l e ({ frames := 0, cells := 0, slots := 0, locals := 0 } : Room) s m args below meth c s.heap [] 0 0 Q (F0 m 0 ls []) := by
    intro Q hret
    unfold fX5_searchRefusal at h
    refine lv_iload_n hx hb dX5_searchRefusal_0 rfl (lv_at hl 1 rfl) ?_
    refine lv_if_lt (tgt := 10) hx hb dX5_searchRefusal_1 (by decide) (fun c1 => ?_) (fun c1 => ?_)
    · have h := br_1 h c1
      refine lv_iconst (v := (-1 : Int32)) hx hb dX5_searchRefusal_10 (by decide) ?_
      cases h
      exact hret _ _ dX5_searchRefusal_11
    · have h := br_0 h c1
      refine lv_iload_n hx hb dX5_searchRefusal_4 rfl (lv_at hl 1 rfl) ?_
      refine lv_bipush (v := (6 : Int32)) hx hb dX5_searchRefusal_5 (by decide) ?_
      refine lv_icmp_le (tgt := 12) hx hb dX5_searchRefusal_7 (by decide) (fun c7 => ?_) (fun c7 => ?_)
      · have h := br_1 h c7
        refine lv_aload_n hx hb dX5_searchRefusal_12 rfl (lv_at hl 0 rfl) ?_
        refine va_get (D := D) (ci := 3) (C := RX5) (T := TX5) (N := 14) hx hb hts iX5 hown hK hP 0 wPW_0 rfl 5 (by decide) q1 (fun _ h9 => h9) rfl dX5_searchRefusal_13 ?_
        refine va_getN (host := "PartyWill") (D := D) (ci := 1) (C := RX2) (T := TX2) (N := 7) hx hb hts iX2 hown hK hP 6 wPW_6 rfl 0 (by decide) (va_Nw.use rfl (nw_X5_111 hKK.2)) (fun _ h9 => h9) rfl dX5_searchRefusal_16 ?_
        refine lv_if_ne (tgt := 27) hx hb dX5_searchRefusal_19 (by decide) (fun c19 => ?_) (fun c19 => ?_)
        · have h := br_0 h c19
          refine lv_iconst (v := (0 : Int32)) hx hb dX5_searchRefusal_27 (by decide) ?_
          cases h
          exact hret _ _ dX5_searchRefusal_28
        · have h := br_1 h c19
          refine lv_bipush (v := (-4 : Int32)) hx hb dX5_searchRefusal_22 (by decide) ?_
          refine lv_goto (tgt := 28) hx hb dX5_searchRefusal_24 (by decide) ?_
          cases h
          exact hret _ _ dX5_searchRefusal_28
      · have h := br_0 h c7
        refine lv_iconst (v := (-1 : Int32)) hx hb dX5_searchRefusal_10 (by decide) ?_
        cases h
        exact hret _ _ dX5_searchRefusal_11
  exact key _ (fun pc ls hd => W.iret hx hb hr (fun t ht hW => ⟨_, rfl, rfl, ht⟩) (fun q h => by cases h) hd)
set_option maxHeartbeats 4000000 in
set_option maxRecDepth 100000 in
theorem kX5_stay (l : Launch) (D : va_G) (T : Nat → ClassId) (F : Nat) (ad : Nat → Nat) (rs : Nat → Int32) (rm : Nat → Nat → Int32) (ts : Nat → Int32) (tm : Nat → Nat → Int32) (rdue : Int32) (rtun : Int32) (rsee : Int32) (rbeg : Int32) (psize : Int32) (pclause : Int32) (peff : Nat → Int32) (pkin : Nat → Int32) (pgri : Nat → Int32) (psig : Nat → Int32) (psee : Nat → Int32) (qsize : Int32) (qclause : Int32) (qeff : Nat → Int32) (qkin : Nat → Int32) (qgri : Nat → Int32) (qsig : Nat → Int32) (qsee : Nat → Int32) (cdee : Int32) (cnow : Int64) (cahe : Nat → Int64) (kdee : Nat → Int32) (know : Nat → Int64) (kahe : Nat → Nat → Int64) (fc : Nat → Int32) (lf : Int32) (told : Int32) (up : Int64) (lo : Int64) (x1 : Int32) (r : Int32) (ztold : Int32) (zup : Int64) (zlo : Int64) (h : fX5_stay F psize pclause peff pkin psee cnow told up lo x1 = some (r, ztold, zup, zlo)) : ∀ sz : Nat, Met l yX5_stay wsX5_stay ({ frames := 32, cells := 0, slots := 0, locals := 956 } : Room) (va_Pc [.ref (ad 0), .int x1] (fun U => U.heap.size = sz ∧ va_P D vwCl (wPW T ad (ad 6) (ad 12) rs rm ts tm rdue rtun rsee rbeg psize pclause peff pkin pgri psig psee qsize qclause qeff qkin qgri qsig qsee cdee cnow cahe kdee know kahe fc lf told up lo) U.heap ∧ KK D T U ∧ va_D (fun _ => True) (wPW T ad (ad 6) (ad 12) rs rm ts tm rdue rtun rsee rbeg psize pclause peff pkin pgri psig psee qsize qclause qeff qkin qgri qsig qsee cdee cnow cahe kdee know kahe fc lf told up lo))) (va_Qi (fun r' (_ : Unit) => r' = r) (fun _ t => va_P D vwCl (wPW T ad (ad 6) (ad 12) rs rm ts tm rdue rtun rsee rbeg psize pclause peff pkin pgri psig psee qsize qclause qeff qkin qgri qsig qsee cdee cnow cahe kdee know kahe fc lf ztold zup zlo) t.heap ∧ va_D (va_A (wPW T ad (ad 6) (ad 12) rs rm ts tm rdue rtun rsee rbeg psize pclause peff pkin pgri psig psee qsize qclause qeff qkin qgri qsig qsee cdee cnow cahe kdee know kahe fc lf told up lo) sz) (wPW T ad (ad 6) (ad 12) rs rm ts tm rdue rtun rsee rbeg psize pclause peff pkin pgri psig psee qsize qclause qeff qkin qgri qsig qsee cdee cnow cahe kdee know kahe fc lf ztold zup zlo)) (va_A (wPW T ad (ad 6) (ad 12) rs rm ts tm rdue rtun rsee rbeg psize pclause peff pkin pgri psig psee qsize qclause qeff qkin qgri qsig qsee cdee cnow cahe kdee know kahe fc lf told up lo) sz)) 0 0 (va_A (wPW T ad (ad 6) (ad 12) rs rm ts tm rdue rtun rsee rbeg psize pclause peff pkin pgri psig psee qsize qclause qeff qkin qgri qsig qsee cdee cnow cahe kdee know kahe fc lf told up lo) sz) := by
  intro sz
  refine Met.ofW (cc := cX5_stay) (maxL := 9) (ret := some .int) (by decide) rfl ?_
  intro p e s m args below meth c s₁ B hml hv
  obtain ⟨ha, hsz, hP, hKK, hD0⟩ := hv
  have hx := B.exec
  have hb := B.bytes
  have hr := B.returns
  have hts := atoms_spec (ws := wsX5_stay) B.pre
  have hown : s.vm.findClass RX5 = some m.cls := findClass_of_methodNamed B.named
  have hlocks := B.notSynchronized
  have hK := hKK.1
  have hFix : CallFix p m c cX5_stay 9 s args wsX5_stay RX5 := ⟨hx, hb, hml, hown, hts⟩
  have q1 := hts _ (List.mem_of_getElem? (i := 1) (show wsX5_stay[1]? = some (Cond.fieldLink RX5 36 "PartyWill" "party" "LPartyWill$Party;") from rfl))
  have q2 := hts _ (List.mem_of_getElem? (i := 2) (show wsX5_stay[2]? = some (Cond.fieldLink RX5 46 "PartyWill" "course" "LPartyWill$Course;") from rfl))
  have q3 := hts _ (List.mem_of_getElem? (i := 3) (show wsX5_stay[3]? = some (Cond.fieldLink RX5 61 "PartyWill" "told" "I") from rfl))
  have q4 := hts _ (List.mem_of_getElem? (i := 4) (show wsX5_stay[4]? = some (Cond.fieldLink RX5 64 "PartyWill" "toldUpper" "J") from rfl))
  have q5 := hts _ (List.mem_of_getElem? (i := 5) (show wsX5_stay[5]? = some (Cond.fieldLink RX5 68 "PartyWill" "toldLower" "J") from rfl))
  have q11 := hts _ (List.mem_of_getElem? (i := 11) (show wsX5_stay[11]? = some (Cond.static yX3_stayingBehind) from rfl))
  have q12 := hts _ (List.mem_of_getElem? (i := 12) (show wsX5_stay[12]? = some (Cond.initialized RX3) from rfl))
  have iX0 : ∀ w ∈ u_ws RX0 TX0 3, w ∈ wsX5_stay := fun w h => List.mem_cons_of_mem _ (List.mem_append_left _ (List.mem_append_right _ (h)))
  have iX5 : ∀ w ∈ u_ws RX5 TX5 14, w ∈ wsX5_stay := fun w h => List.mem_cons_of_mem _ (List.mem_append_left _ (List.mem_append_left _ (List.mem_append_right _ (h))))
  subst hsz
  have hD := hD0.self (sz := s.heap.size)
  generalize hAe : va_A (wPW T ad (ad 6) (ad 12) rs rm ts tm rdue rtun rsee rbeg psize pclause peff pkin pgri psig psee qsize qclause qeff qkin qgri qsig qsee cdee cnow cahe kdee know kahe fc lf told up lo) s.heap.size = A at hD ⊢
  have hA : ∀ q : Nat, s.heap.size ≤ q → A q := fun q h => by rw [← hAe]; exact Or.inr h
  have hS : va_S A s.heap s.heap [] := va_S.rf
  have hP : va_P D vwCl (wPW T ad (ad 6) (ad 12) rs rm ts tm rdue rtun rsee rbeg psize pclause peff pkin pgri psig psee qsize qclause qeff qkin qgri qsig qsee cdee cnow cahe kdee know kahe fc lf told up lo) s.heap := hP
  obtain ⟨ls, hl, e0⟩ := my_entry (m := m) (n := 9) ha (Nat.le_of_ble_eq_true rfl)
  rw [e0]
  have hl : lv_has ls 9 [(0, .ref (ad 0)), (1, .int x1)] := hl
  have key : ∀ Q : State → Prop, (∀ (H : Heap) (locs : List Loc) (pc : Nat) (ls : Array Slot), va_P D vwCl (wPW T ad (ad 6) (ad 12) rs rm ts tm rdue rtun rsee rbeg psize pclause peff pkin pgri psig psee qsize qclause qeff qkin qgri qsig qsee cdee cnow cahe kdee know kahe fc lf ztold zup zlo) H → va_D A (wPW T ad (ad 6) (ad 12) rs rm ts tm rdue rtun rsee rbeg psize pclause peff pkin pgri psig psee qsize qclause qeff qkin qgri qsig qsee cdee cnow cahe kdee know kahe fc lf ztold zup zlo) → va_S A s.heap H locs → decode cX5_stay pc = .ok (.ireturn, 1) → W p l e ({ frames := 32, cells := 0, slots := 0, locals := 956 } : Room) s m args below meth c H locs 0 0 Q (F0 m pc ls [.int r])) → W p l e ({ frames := 32, cells := 0, slots := 0, locals := 956 } : Room) s m args below meth c s.heap [] 0 0 Q (F0 m 0 ls []) := by
    intro Q hret
    skip
    have n86 : ∀ x3 : Int64, ∀ x5 : Int32, ∀ told : Int32, ∀ up : Int64, ∀ lo : Int64, fX5_stay_n86 F psize pclause peff pkin psee cnow x3 x5 told up lo = some (r, ztold, zup, zlo) → ∀ (H : Heap) (locs : List Loc), va_P D vwCl (wPW T ad (ad 6) (ad 12) rs rm ts tm rdue rtun rsee rbeg psize pclause peff pkin pgri psig psee qsize qclause qeff qkin qgri qsig qsee cdee cnow cahe kdee know kahe fc lf told up lo) H → va_D A (wPW T ad (ad 6) (ad 12) rs rm ts tm rdue rtun rsee rbeg psize pclause peff pkin pgri psig psee qsize qclause qeff qkin qgri qsig qsee cdee cnow cahe kdee know kahe fc lf told up lo) → va_S A s.heap H locs → ∀ (ls : Array Slot), lv_has ls 9 [(0, .ref (ad 0)), (3, .long x3), (5, .int x5)] → W p l e ({ frames := 32, cells := 0, slots := 0, locals := 956 } : Room) s m args below meth c H locs 0 0 Q (F0 m 86 ls []) := by
      intro x3 x5 told up lo h H locs hP hD hS ls hl
      unfold fX5_stay_n86 at h
      refine lv_aload_n hx hb dX5_stay_86 rfl (lv_at hl 0 rfl) ?_
      refine lv_iload hx hb dX5_stay_87 (lv_at hl 2 rfl) ?_
      refine va_put (D := D) (ci := 3) (v := .int x5) (ty := .int) (C := RX5) (T := TX5) (N := 14) hx hb hts iX5 tyX5 tyX5_ok nmX5 hown hK hP hD hS 0 wPW_0 rfl 11 (by decide) q3 (fun _ h9 => h9) rfl (by decide +kernel) rfl rfl (Nat.le_of_ble_eq_true rfl) dX5_stay_89 (fun H locs hP hD hS => ?_)
      have hP : va_P D vwCl (wPW T ad (ad 6) (ad 12) rs rm ts tm rdue rtun rsee rbeg psize pclause peff pkin pgri psig psee qsize qclause qeff qkin qgri qsig qsee cdee cnow cahe kdee know kahe fc lf x5 up lo) H := hP
      have hD : va_D A (wPW T ad (ad 6) (ad 12) rs rm ts tm rdue rtun rsee rbeg psize pclause peff pkin pgri psig psee qsize qclause qeff qkin qgri qsig qsee cdee cnow cahe kdee know kahe fc lf x5 up lo) := hD
      refine lv_aload_n hx hb dX5_stay_92 rfl (lv_at hl 0 rfl) ?_
      refine lv_lload_n hx hb dX5_stay_93 rfl (lv_at hl 1 rfl) ?_
      refine va_put (D := D) (ci := 3) (v := .long x3) (ty := .long) (C := RX5) (T := TX5) (N := 14) hx hb hts iX5 tyX5 tyX5_ok nmX5 hown hK hP hD hS 0 wPW_0 rfl 12 (by decide) q4 (fun _ h9 => h9) rfl (by decide +kernel) rfl rfl (Nat.le_of_ble_eq_true rfl) dX5_stay_94 (fun H locs hP hD hS => ?_)
      have hP : va_P D vwCl (wPW T ad (ad 6) (ad 12) rs rm ts tm rdue rtun rsee rbeg psize pclause peff pkin pgri psig psee qsize qclause qeff qkin qgri qsig qsee cdee cnow cahe kdee know kahe fc lf x5 x3 lo) H := hP
      have hD : va_D A (wPW T ad (ad 6) (ad 12) rs rm ts tm rdue rtun rsee rbeg psize pclause peff pkin pgri psig psee qsize qclause qeff qkin qgri qsig qsee cdee cnow cahe kdee know kahe fc lf x5 x3 lo) := hD
      refine lv_aload_n hx hb dX5_stay_97 rfl (lv_at hl 0 rfl) ?_
      refine lv_lconst (v := (1 : Int64)) hx hb dX5_stay_98 (by decide) ?_
      refine va_put (D := D) (ci := 3) (v := .long (1 : Int64)) (ty := .long) (C := RX5) (T := TX5) (N := 14) hx hb hts iX5 tyX5 tyX5_ok nmX5 hown hK hP hD hS 0 wPW_0 rfl 13 (by decide) q5 (fun _ h9 => h9) rfl (by decide +kernel) rfl rfl (Nat.le_of_ble_eq_true rfl) dX5_stay_99 (fun H locs hP hD hS => ?_)
      have hP : va_P D vwCl (wPW T ad (ad 6) (ad 12) rs rm ts tm rdue rtun rsee rbeg psize pclause peff pkin pgri psig psee qsize qclause qeff qkin qgri qsig qsee cdee cnow cahe kdee know kahe fc lf x5 x3 (1 : Int64)) H := hP
      have hD : va_D A (wPW T ad (ad 6) (ad 12) rs rm ts tm rdue rtun rsee rbeg psize pclause peff pkin pgri psig psee qsize qclause qeff qkin qgri qsig qsee cdee cnow cahe kdee know kahe fc lf x5 x3 (1 : Int64)) := hD
      refine lv_iconst (v := (1 : Int32)) hx hb dX5_stay_102 (by decide) ?_
      cases h
      exact hret _ _ _ _ hP hD hS dX5_stay_103
    have l28 : ∀ x1 : Int32, ∀ told : Int32, ∀ up : Int64, ∀ lo : Int64, ∀ nu : Nat, ∀ x3 : Int64, ∀ x5 : Int32, ∀ x6 : Int32, fX5_stay_l28 F psize pclause peff pkin psee cnow x1 told up lo nu x3 x5 x6 = some (r, ztold, zup, zlo) → ∀ (H : Heap) (locs : List Loc), va_P D vwCl (wPW T ad (ad 6) (ad 12) rs rm ts tm rdue rtun rsee rbeg psize pclause peff pkin pgri psig psee qsize qclause qeff qkin qgri qsig qsee cdee cnow cahe kdee know kahe fc lf told up lo) H → va_D A (wPW T ad (ad 6) (ad 12) rs rm ts tm rdue rtun rsee rbeg psize pclause peff pkin pgri psig psee qsize qclause qeff qkin qgri qsig qsee cdee cnow cahe kdee know kahe fc lf told up lo) → va_S A s.heap H locs → ∀ (ls : Array Slot), lv_has ls 9 [(0, .ref (ad 0)), (1, .int x1), (3, .long x3), (5, .int x5), (6, .int x6)] → W p l e ({ frames := 32, cells := 0, slots := 0, locals := 956 } : Room) s m args below meth c H locs 0 0 Q (F0 m 28 ls []) := by
      intro x1 told up lo
      intro nu
      induction nu with
      | zero => intro x3 x5 x6 h; exact none_some h
      | succ nu28 ih28 =>
        intro x3 x5 x6 h H locs hP hD hS ls hl
        have h : fX5_stay_l28_b F psize pclause peff pkin psee cnow x1 told up lo (fX5_stay_l28 F psize pclause peff pkin psee cnow x1 told up lo nu28) x3 x5 x6 = some (r, ztold, zup, zlo) := h
        unfold fX5_stay_l28_b at h
        refine lv_iload hx hb dX5_stay_28 (lv_at hl 4 rfl) ?_
        refine lv_iconst (v := (4 : Int32)) hx hb dX5_stay_30 (by decide) ?_
        refine lv_icmp_ge (tgt := 86) hx hb dX5_stay_31 (by decide) (fun c31 => ?_) (fun c31 => ?_)
        · have h := br_1 h c31
          exact n86 x3 x5 told up lo h _ _ hP hD hS _ (lv_sub hl [0, 2, 3] rfl)
        · have h := br_0 h c31
          refine lv_iload_n hx hb dX5_stay_34 rfl (lv_at hl 1 rfl) ?_
          refine lv_if_le (tgt := 86) hx hb dX5_stay_35 (by decide) (fun c35 => ?_) (fun c35 => ?_)
          · have h := br_1 h c35
            exact n86 x3 x5 told up lo h _ _ hP hD hS _ (lv_sub hl [0, 2, 3] rfl)
          · have h := br_0 h c35
            refine lv_aload_n hx hb dX5_stay_38 rfl (lv_at hl 0 rfl) ?_
            refine va_get (D := D) (ci := 3) (C := RX5) (T := TX5) (N := 14) hx hb hts iX5 hown hK hP 0 wPW_0 rfl 5 (by decide) q1 (fun _ h9 => h9) rfl dX5_stay_39 ?_
            refine lv_aload_n hx hb dX5_stay_42 rfl (lv_at hl 0 rfl) ?_
            refine va_get (D := D) (ci := 3) (C := RX5) (T := TX5) (N := 14) hx hb hts iX5 hown hK hP 0 wPW_0 rfl 7 (by decide) q2 (fun _ h9 => h9) rfl dX5_stay_43 ?_
            refine va_getN (host := "PartyWill") (D := D) (ci := 0) (C := RX0) (T := TX0) (N := 3) hx hb hts iX0 hown hK hP 18 wPW_18 rfl 1 (by decide) (va_Nw.use rfl (nw_X5_127 hKK.2)) (fun _ h9 => h9) rfl dX5_stay_46 ?_
            refine lv_iload hx hb dX5_stay_49 (lv_at hl 4 rfl) ?_
            refine lv_iload_n hx hb dX5_stay_51 rfl (lv_at hl 1 rfl) ?_
            refine lv_iconst (v := (1 : Int32)) hx hb dX5_stay_52 (by decide) ?_
            refine lv_isub hx hb dX5_stay_53 ?_
            obtain ⟨r54, hc, h⟩ := bd1_some h
            have hPc : va_P D vwCl (wPa T (ad 6) (ad 7) (ad 8) (ad 9) (ad 10) (ad 11) psize pclause peff pkin pgri psig psee) H := my_subP sb_wPW_wPa_6to11 hP
            refine my_rol (va_Run.run (va_runSN (host := "PartyWill") (As := [.ref (ad 6), .long cnow, .int x6, .int (x1 - (1 : Int32))]) (rest := []) hFix (kX3_stayingBehind l D T F 8 (ad 6) (ad 7) (ad 8) (ad 9) (ad 10) (ad 11) psize pclause peff pkin pgri psig psee cnow x6 (x1 - (1 : Int32)) r54 hc) ⟨va_cnB 4 hts gX5_stay_X3_stayingBehind_n201 rfl rfl rfl (nw_X5_201 hKK.2) q12 hd_X3_stayingBehind ⟨Nat.le_of_ble_eq_true rfl, Nat.le_of_ble_eq_true rfl⟩, q11, trivial⟩ (preS_ro hPc hKK) rfl rfl hl.1 rfl (lv_room (Nat.le_of_ble_eq_true rfl)) dX5_stay_54 ⟨Nat.zero_le _, Nat.zero_le _⟩)) ?_
            refine lv_lstore (lv' := [(7, .long r54), (0, .ref (ad 0)), (1, .int x1), (3, .long x3), (5, .int x5), (6, .int x6)]) hx hb dX5_stay_57 hl (by decide) rfl (fun ls hl => ?_)
            refine lv_lload_n hx hb dX5_stay_59 rfl (lv_at hl 3 rfl) ?_
            refine lv_lload hx hb dX5_stay_60 (lv_at hl 0 rfl) ?_
            refine lv_ladd hx hb dX5_stay_62 ?_
            refine lv_lstore_n (lv' := [(3, .long (x3 + r54)), (7, .long r54), (0, .ref (ad 0)), (1, .int x1), (5, .int x5), (6, .int x6)]) hx hb dX5_stay_63 rfl hl (by decide) rfl (fun ls hl => ?_)
            refine lv_lload hx hb dX5_stay_64 (lv_at hl 1 rfl) ?_
            refine lv_lconst (v := (0 : Int64)) hx hb dX5_stay_66 (by decide) ?_
            refine W.lcmp hx hb dX5_stay_67 ?_
            refine lv_if_le (tgt := 80) hx hb dX5_stay_68 (by decide) (fun c68 => ?_) (fun c68 => ?_)
            · have h := br_1 h c68
              refine lv_iinc (v := (x6 + (1 : Int32))) (lv' := [(6, .int (x6 + (1 : Int32))), (3, .long (x3 + r54)), (7, .long r54), (0, .ref (ad 0)), (1, .int x1), (5, .int x5)]) hx hb dX5_stay_80 hl (k := 5) rfl rfl (by decide) rfl (fun ls hl => ?_)
              refine lv_goto (tgt := 28) hx hb dX5_stay_83 (by decide) ?_
              exact ih28 (x3 + r54) x5 (x6 + (1 : Int32)) h _ _ hP hD hS _ (lv_sub hl [3, 4, 1, 5, 0] rfl)
            · have h := br_0 h c68
              refine lv_iload hx hb dX5_stay_71 (lv_at hl 4 rfl) ?_
              refine lv_iconst (v := (1 : Int32)) hx hb dX5_stay_73 (by decide) ?_
              refine lv_iload hx hb dX5_stay_74 (lv_at hl 5 rfl) ?_
              refine lv_ishl hx hb dX5_stay_76 ?_
              refine lv_ior hx hb dX5_stay_77 ?_
              refine lv_istore (lv' := [(5, .int (x5 ||| ((1 : Int32) <<< (x6 &&& 31)))), (3, .long (x3 + r54)), (7, .long r54), (0, .ref (ad 0)), (1, .int x1), (6, .int x6)]) hx hb dX5_stay_78 hl (by decide) rfl (fun ls hl => ?_)
              refine lv_iinc (v := (x6 + (1 : Int32))) (lv' := [(6, .int (x6 + (1 : Int32))), (5, .int (x5 ||| ((1 : Int32) <<< (x6 &&& 31)))), (3, .long (x3 + r54)), (7, .long r54), (0, .ref (ad 0)), (1, .int x1)]) hx hb dX5_stay_80 hl (k := 5) rfl rfl (by decide) rfl (fun ls hl => ?_)
              refine lv_goto (tgt := 28) hx hb dX5_stay_83 (by decide) ?_
              exact ih28 (x3 + r54) (x5 ||| ((1 : Int32) <<< (x6 &&& 31))) (x6 + (1 : Int32)) h _ _ hP hD hS _ (lv_sub hl [4, 5, 2, 1, 0] rfl)
    unfold fX5_stay at h
    refine lv_aload_n hx hb dX5_stay_0 rfl (lv_at hl 0 rfl) ?_
    refine lv_iload_n hx hb dX5_stay_1 rfl (lv_at hl 1 rfl) ?_
    obtain ⟨r2, hc, h⟩ := bd1_some h
    refine my_roi (va_Run.run (va_runV (As := [.int x1]) (rest := []) hFix (kX5_searchRefusal l D T F ad (ad 6) (ad 12) rs rm ts tm rdue rtun rsee rbeg psize pclause peff pkin pgri psig psee qsize qclause qeff qkin qgri qsig qsee cdee cnow cahe kdee know kahe fc lf told up lo x1 r2 hc) (cwV 1 hts gX5_stay_X5_searchRefusal rfl rfl rfl ⟨rfl, hd_X5_searchRefusal⟩ ⟨Nat.le_of_ble_eq_true rfl, Nat.le_of_ble_eq_true rfl⟩) (preV_ro hP hKK (va_recv hK hP (ci := 3) (q0 := 0) rfl wPW_0)) rfl rfl hl.1 rfl (lv_room (Nat.le_of_ble_eq_true rfl)) dX5_stay_2 ⟨Nat.zero_le _, Nat.zero_le _⟩)) ?_
    refine lv_istore_n (lv' := [(2, .int r2), (0, .ref (ad 0)), (1, .int x1)]) hx hb dX5_stay_5 rfl hl (by decide) rfl (fun ls hl => ?_)
    refine lv_iload_n hx hb dX5_stay_6 rfl (lv_at hl 0 rfl) ?_
    refine lv_if_eq (tgt := 12) hx hb dX5_stay_7 (by decide) (fun c7 => ?_) (fun c7 => ?_)
    · have h := br_1 h c7
      refine lv_iload_n hx hb dX5_stay_12 rfl (lv_at hl 2 rfl) ?_
      refine lv_if_ne (tgt := 20) hx hb dX5_stay_13 (by decide) (fun c13 => ?_) (fun c13 => ?_)
      · have h := br_0 h c13
        refine lv_lconst (v := (0 : Int64)) hx hb dX5_stay_20 (by decide) ?_
        refine lv_lstore_n (lv' := [(3, .long (0 : Int64)), (2, .int r2), (0, .ref (ad 0)), (1, .int x1)]) hx hb dX5_stay_21 rfl hl (by decide) rfl (fun ls hl => ?_)
        refine lv_iconst (v := (0 : Int32)) hx hb dX5_stay_22 (by decide) ?_
        refine lv_istore (lv' := [(5, .int (0 : Int32)), (3, .long (0 : Int64)), (2, .int r2), (0, .ref (ad 0)), (1, .int x1)]) hx hb dX5_stay_23 hl (by decide) rfl (fun ls hl => ?_)
        refine lv_iconst (v := (0 : Int32)) hx hb dX5_stay_25 (by decide) ?_
        refine lv_istore (lv' := [(6, .int (0 : Int32)), (5, .int (0 : Int32)), (3, .long (0 : Int64)), (2, .int r2), (0, .ref (ad 0)), (1, .int x1)]) hx hb dX5_stay_26 hl (by decide) rfl (fun ls hl => ?_)
        exact l28 x1 told up lo F (0 : Int64) (0 : Int32) (0 : Int32) h _ _ hP hD hS _ (lv_sub hl [4, 5, 2, 1, 0] rfl)
      · have h := br_1 h c13
        refine lv_lconst (v := (1 : Int64)) hx hb dX5_stay_16 (by decide) ?_
        refine lv_goto (tgt := 21) hx hb dX5_stay_17 (by decide) ?_
        refine lv_lstore_n (lv' := [(3, .long (1 : Int64)), (2, .int r2), (0, .ref (ad 0)), (1, .int x1)]) hx hb dX5_stay_21 rfl hl (by decide) rfl (fun ls hl => ?_)
        refine lv_iconst (v := (0 : Int32)) hx hb dX5_stay_22 (by decide) ?_
        refine lv_istore (lv' := [(5, .int (0 : Int32)), (3, .long (1 : Int64)), (2, .int r2), (0, .ref (ad 0)), (1, .int x1)]) hx hb dX5_stay_23 hl (by decide) rfl (fun ls hl => ?_)
        refine lv_iconst (v := (0 : Int32)) hx hb dX5_stay_25 (by decide) ?_
        refine lv_istore (lv' := [(6, .int (0 : Int32)), (5, .int (0 : Int32)), (3, .long (1 : Int64)), (2, .int r2), (0, .ref (ad 0)), (1, .int x1)]) hx hb dX5_stay_26 hl (by decide) rfl (fun ls hl => ?_)
        exact l28 x1 told up lo F (1 : Int64) (0 : Int32) (0 : Int32) h _ _ hP hD hS _ (lv_sub hl [4, 5, 2, 1, 0] rfl)
    · have h := br_0 h c7
      refine lv_iload_n hx hb dX5_stay_10 rfl (lv_at hl 0 rfl) ?_
      cases h
      exact hret _ _ _ _ hP hD hS dX5_stay_11
  exact key _ (fun H locs pc ls hP hD hS hd => W.iret hx hb hr (fun t ht hW => ⟨⟨_, (), rfl, rfl, by show _ ∧ _; rw [ht]; exact ⟨hP, hD⟩⟩, hS.F ht⟩) hS.2.2 hd)
set_option maxHeartbeats 4000000 in
set_option maxRecDepth 100000 in
theorem kX5_makeProgramme (l : Launch) (D : va_G) (T : Nat → ClassId) (F : Nat) (ad : Nat → Nat) (rs : Nat → Int32) (rm : Nat → Nat → Int32) (ts : Nat → Int32) (tm : Nat → Nat → Int32) (rdue : Int32) (rtun : Int32) (rsee : Int32) (rbeg : Int32) (psize : Int32) (pclause : Int32) (peff : Nat → Int32) (pkin : Nat → Int32) (pgri : Nat → Int32) (psig : Nat → Int32) (psee : Nat → Int32) (qsize : Int32) (qclause : Int32) (qeff : Nat → Int32) (qkin : Nat → Int32) (qgri : Nat → Int32) (qsig : Nat → Int32) (qsee : Nat → Int32) (cdee : Int32) (cnow : Int64) (cahe : Nat → Int64) (kdee : Nat → Int32) (know : Nat → Int64) (kahe : Nat → Nat → Int64) (fc : Nat → Int32) (lf : Int32) (told : Int32) (up : Int64) (lo : Int64) (x1 : Int32) (x2 : Int32) (x3 : Int32) (zrs : Nat → Int32) (zrm : Nat → Nat → Int32) (h : fX5_makeProgramme F rs rm x1 x2 x3 = some (zrs, zrm)) : ∀ sz : Nat, Met l yX5_makeProgramme wsX5_makeProgramme ({ frames := 1, cells := 0, slots := 0, locals := 23 } : Room) (va_Pc [.ref (ad 0), .int x1, .int x2, .int x3] (fun U => U.heap.size = sz ∧ va_P D vwCl (wPW T ad (ad 6) (ad 12) rs rm ts tm rdue rtun rsee rbeg psize pclause peff pkin pgri psig psee qsize qclause qeff qkin qgri qsig qsee cdee cnow cahe kdee know kahe fc lf told up lo) U.heap ∧ KK D T U ∧ va_D (fun _ => True) (wPW T ad (ad 6) (ad 12) rs rm ts tm rdue rtun rsee rbeg psize pclause peff pkin pgri psig psee qsize qclause qeff qkin qgri qsig qsee cdee cnow cahe kdee know kahe fc lf told up lo))) (va_Qv (fun _ : Unit => True) (fun _ t => va_P D vwCl (wPW T ad (ad 6) (ad 12) zrs zrm ts tm rdue rtun rsee rbeg psize pclause peff pkin pgri psig psee qsize qclause qeff qkin qgri qsig qsee cdee cnow cahe kdee know kahe fc lf told up lo) t.heap ∧ va_D (va_A (wPW T ad (ad 6) (ad 12) rs rm ts tm rdue rtun rsee rbeg psize pclause peff pkin pgri psig psee qsize qclause qeff qkin qgri qsig qsee cdee cnow cahe kdee know kahe fc lf told up lo) sz) (wPW T ad (ad 6) (ad 12) zrs zrm ts tm rdue rtun rsee rbeg psize pclause peff pkin pgri psig psee qsize qclause qeff qkin qgri qsig qsee cdee cnow cahe kdee know kahe fc lf told up lo)) (va_A (wPW T ad (ad 6) (ad 12) rs rm ts tm rdue rtun rsee rbeg psize pclause peff pkin pgri psig psee qsize qclause qeff qkin qgri qsig qsee cdee cnow cahe kdee know kahe fc lf told up lo) sz)) 0 0 (va_A (wPW T ad (ad 6) (ad 12) rs rm ts tm rdue rtun rsee rbeg psize pclause peff pkin pgri psig psee qsize qclause qeff qkin qgri qsig qsee cdee cnow cahe kdee know kahe fc lf told up lo) sz) := by
  intro sz
  refine Met.ofW (cc := cX5_makeProgramme) (maxL := 5) (ret := none) (by decide) rfl ?_
  intro p e s m args below meth c s₁ B hml hv
  obtain ⟨ha, hsz, hP, hKK, hD0⟩ := hv
  have hx := B.exec
  have hb := B.bytes
  have hr := B.returns
  have hts := atoms_spec (ws := wsX5_makeProgramme) B.pre
  have hown : s.vm.findClass RX5 = some m.cls := findClass_of_methodNamed B.named
  have hlocks := B.notSynchronized
  have hK := hKK.1
  have hFix : CallFix p m c cX5_makeProgramme 5 s args wsX5_makeProgramme RX5 := ⟨hx, hb, hml, hown, hts⟩
  have q1 := hts _ (List.mem_of_getElem? (i := 1) (show wsX5_makeProgramme[1]? = some (Cond.fieldLink RX5 11 "PartyWill" "rows" "[[I") from rfl))
  have iX5 : ∀ w ∈ u_ws RX5 TX5 14, w ∈ wsX5_makeProgramme := fun w h => List.mem_cons_of_mem _ (List.mem_append_right _ (h))
  subst hsz
  have hD := hD0.self (sz := s.heap.size)
  generalize hAe : va_A (wPW T ad (ad 6) (ad 12) rs rm ts tm rdue rtun rsee rbeg psize pclause peff pkin pgri psig psee qsize qclause qeff qkin qgri qsig qsee cdee cnow cahe kdee know kahe fc lf told up lo) s.heap.size = A at hD ⊢
  have hA : ∀ q : Nat, s.heap.size ≤ q → A q := fun q h => by rw [← hAe]; exact Or.inr h
  have hS : va_S A s.heap s.heap [] := va_S.rf
  have hP : va_P D vwCl (wPW T ad (ad 6) (ad 12) rs rm ts tm rdue rtun rsee rbeg psize pclause peff pkin pgri psig psee qsize qclause qeff qkin qgri qsig qsee cdee cnow cahe kdee know kahe fc lf told up lo) s.heap := hP
  obtain ⟨ls, hl, e0⟩ := my_entry (m := m) (n := 5) ha (Nat.le_of_ble_eq_true rfl)
  rw [e0]
  have hl : lv_has ls 5 [(0, .ref (ad 0)), (1, .int x1), (2, .int x2), (3, .int x3)] := hl
  have key : ∀ Q : State → Prop, (∀ (H : Heap) (locs : List Loc) (pc : Nat) (ls : Array Slot), va_P D vwCl (wPW T ad (ad 6) (ad 12) zrs zrm ts tm rdue rtun rsee rbeg psize pclause peff pkin pgri psig psee qsize qclause qeff qkin qgri qsig qsee cdee cnow cahe kdee know kahe fc lf told up lo) H → va_D A (wPW T ad (ad 6) (ad 12) zrs zrm ts tm rdue rtun rsee rbeg psize pclause peff pkin pgri psig psee qsize qclause qeff qkin qgri qsig qsee cdee cnow cahe kdee know kahe fc lf told up lo) → va_S A s.heap H locs → decode cX5_makeProgramme pc = .ok (.return_, 1) → W p l e ({ frames := 1, cells := 0, slots := 0, locals := 23 } : Room) s m args below meth c H locs 0 0 Q (F0 m pc ls [])) → W p l e ({ frames := 1, cells := 0, slots := 0, locals := 23 } : Room) s m args below meth c s.heap [] 0 0 Q (F0 m 0 ls []) := by
    intro Q hret
    skip
    have l9 : ∀ x1 : Int32, ∀ x2 : Int32, ∀ x3 : Int32, ∀ rs : Nat → Int32, ∀ nu : Nat, ∀ x4 : Int32, ∀ rm : Nat → Nat → Int32, fX5_makeProgramme_l9 F x1 x2 x3 rs nu x4 rm = some (zrs, zrm) → ∀ (H : Heap) (locs : List Loc), va_P D vwCl (wPW T ad (ad 6) (ad 12) rs rm ts tm rdue rtun rsee rbeg psize pclause peff pkin pgri psig psee qsize qclause qeff qkin qgri qsig qsee cdee cnow cahe kdee know kahe fc lf told up lo) H → va_D A (wPW T ad (ad 6) (ad 12) rs rm ts tm rdue rtun rsee rbeg psize pclause peff pkin pgri psig psee qsize qclause qeff qkin qgri qsig qsee cdee cnow cahe kdee know kahe fc lf told up lo) → va_S A s.heap H locs → ∀ (ls : Array Slot), lv_has ls 5 [(0, .ref (ad 0)), (1, .int x1), (2, .int x2), (3, .int x3), (4, .int x4)] → W p l e ({ frames := 1, cells := 0, slots := 0, locals := 23 } : Room) s m args below meth c H locs 0 0 Q (F0 m 9 ls []) := by
      intro x1 x2 x3 rs
      intro nu
      induction nu with
      | zero => intro x4 rm h; exact none_some h
      | succ nu9 ih9 =>
        intro x4 rm h H locs hP hD hS ls hl
        have h : fX5_makeProgramme_l9_b F x1 x2 x3 rs (fX5_makeProgramme_l9 F x1 x2 x3 rs nu9) x4 rm = some (zrs, zrm) := h
        unfold fX5_makeProgramme_l9_b at h
        refine lv_iload hx hb dX5_makeProgramme_9 (lv_at hl 4 rfl) ?_
        refine lv_iload_n hx hb dX5_makeProgramme_11 rfl (lv_at hl 2 rfl) ?_
        refine lv_icmp_ge (tgt := 42) hx hb dX5_makeProgramme_12 (by decide) (fun c12 => ?_) (fun c12 => ?_)
        · have h := br_1 h c12
          cases h
          exact hret _ _ _ _ hP hD hS dX5_makeProgramme_42
        · have h := br_0 h c12
          refine lv_aload_n hx hb dX5_makeProgramme_15 rfl (lv_at hl 0 rfl) ?_
          refine va_get (D := D) (ci := 3) (C := RX5) (T := TX5) (N := 14) hx hb hts iX5 hown hK hP 0 wPW_0 rfl 0 (by decide) q1 (fun _ h9 => h9) rfl dX5_makeProgramme_16 ?_
          refine lv_iload_n hx hb dX5_makeProgramme_19 rfl (lv_at hl 1 rfl) ?_
          obtain ⟨hin2, h⟩ := ck_some h
          have hk1 : x1.toNatClampNeg < 6 := vp_lt hin2
          refine my_ald (b := (ad (28 + x1.toNatClampNeg))) rfl hx hb hK hP 1 4 wPW_1 rfl hin2 (fun _ => if_pos hk1) dX5_makeProgramme_20 ?_
          refine lv_iload hx hb dX5_makeProgramme_21 (lv_at hl 4 rfl) ?_
          refine lv_iload_n hx hb dX5_makeProgramme_23 rfl (lv_at hl 3 rfl) ?_
          refine lv_iconst (v := (2 : Int32)) hx hb dX5_makeProgramme_24 (by decide) ?_
          refine lv_iload_n hx hb dX5_makeProgramme_25 rfl (lv_at hl 2 rfl) ?_
          refine lv_iconst (v := (1 : Int32)) hx hb dX5_makeProgramme_26 (by decide) ?_
          refine lv_isub hx hb dX5_makeProgramme_27 ?_
          refine lv_iload hx hb dX5_makeProgramme_28 (lv_at hl 4 rfl) ?_
          refine lv_isub hx hb dX5_makeProgramme_30 ?_
          refine lv_imul hx hb dX5_makeProgramme_31 ?_
          refine lv_ishr hx hb dX5_makeProgramme_32 ?_
          refine lv_iconst (v := (3 : Int32)) hx hb dX5_makeProgramme_33 (by decide) ?_
          refine lv_iand hx hb dX5_makeProgramme_34 ?_
          obtain ⟨hin3, h⟩ := ck_some h
          refine va_iast hx hb hK hP hD hS (28 + x1.toNatClampNeg) 0 (wPW_f_rows0 hk1) rfl hin3 dX5_makeProgramme_35 (fun H locs hP hD hS => ?_)
          have hP : va_P D vwCl (wPW T ad (ad 6) (ad 12) rs (va_up rm x1.toNatClampNeg (upd (rm x1.toNatClampNeg) x4.toNatClampNeg ((x3 >>> (((2 : Int32) * ((x2 - (1 : Int32)) - x4)) &&& 31)) &&& (3 : Int32)))) ts tm rdue rtun rsee rbeg psize pclause peff pkin pgri psig psee qsize qclause qeff qkin qgri qsig qsee cdee cnow cahe kdee know kahe fc lf told up lo) H := hP
          have hD : va_D A (wPW T ad (ad 6) (ad 12) rs (va_up rm x1.toNatClampNeg (upd (rm x1.toNatClampNeg) x4.toNatClampNeg ((x3 >>> (((2 : Int32) * ((x2 - (1 : Int32)) - x4)) &&& 31)) &&& (3 : Int32)))) ts tm rdue rtun rsee rbeg psize pclause peff pkin pgri psig psee qsize qclause qeff qkin qgri qsig qsee cdee cnow cahe kdee know kahe fc lf told up lo) := hD
          refine lv_iinc (v := (x4 + (1 : Int32))) (lv' := [(4, .int (x4 + (1 : Int32))), (0, .ref (ad 0)), (1, .int x1), (2, .int x2), (3, .int x3)]) hx hb dX5_makeProgramme_36 hl (k := 4) rfl rfl (by decide) rfl (fun ls hl => ?_)
          refine lv_goto (tgt := 9) hx hb dX5_makeProgramme_39 (by decide) ?_
          exact ih9 (x4 + (1 : Int32)) (va_up rm x1.toNatClampNeg (upd (rm x1.toNatClampNeg) x4.toNatClampNeg ((x3 >>> (((2 : Int32) * ((x2 - (1 : Int32)) - x4)) &&& 31)) &&& (3 : Int32)))) h _ _ hP hD hS _ (lv_sub hl [1, 2, 3, 4, 0] rfl)
    unfold fX5_makeProgramme at h
    refine lv_aload_n hx hb dX5_makeProgramme_0 rfl (lv_at hl 0 rfl) ?_
    refine lv_iload_n hx hb dX5_makeProgramme_1 rfl (lv_at hl 1 rfl) ?_
    refine lv_iload_n hx hb dX5_makeProgramme_2 rfl (lv_at hl 2 rfl) ?_
    obtain ⟨w3_rs, w3_rm, hc, h⟩ := bd2_some h
    have hFc := my_freeS hD hS hA
    refine my_rwv (va_runV (As := [.int x1, .int x2]) (rest := []) hFix (kX5_makeRow l D T F ad (ad 6) (ad 12) rs rm ts tm rdue rtun rsee rbeg psize pclause peff pkin pgri psig psee qsize qclause qeff qkin qgri qsig qsee cdee cnow cahe kdee know kahe fc lf told up lo x1 x2 w3_rs w3_rm hc) (cwV 2 hts gX5_makeProgramme_X5_makeRow rfl rfl rfl ⟨rfl, hd_X5_makeRow⟩ ⟨Nat.le_of_ble_eq_true rfl, Nat.le_of_ble_eq_true rfl⟩) (preV_rw hP hKK hD (va_recv hK hP (ci := 3) (q0 := 0) rfl wPW_0)) rfl rfl hl.1 rfl (lv_room (Nat.le_of_ble_eq_true rfl)) dX5_makeProgramme_3 ⟨Nat.zero_le _, Nat.zero_le _⟩) hS hFc (fun H1 locs hP1 hD1 hz1 hk1 hS => ?_)
    have hP : va_P D vwCl (wPW T ad (ad 6) (ad 12) w3_rs w3_rm ts tm rdue rtun rsee rbeg psize pclause peff pkin pgri psig psee qsize qclause qeff qkin qgri qsig qsee cdee cnow cahe kdee know kahe fc lf told up lo) H1 := hP1
    have hD : va_D A (wPW T ad (ad 6) (ad 12) w3_rs w3_rm ts tm rdue rtun rsee rbeg psize pclause peff pkin pgri psig psee qsize qclause qeff qkin qgri qsig qsee cdee cnow cahe kdee know kahe fc lf told up lo) := hD1.weaken (fun _ q _ h => hFc q.1 h)
    generalize H1 = H at hP hS ⊢
    refine lv_iconst (v := (0 : Int32)) hx hb dX5_makeProgramme_6 (by decide) ?_
    refine lv_istore (lv' := [(4, .int (0 : Int32)), (0, .ref (ad 0)), (1, .int x1), (2, .int x2), (3, .int x3)]) hx hb dX5_makeProgramme_7 hl (by decide) rfl (fun ls hl => ?_)
    exact l9 x1 x2 x3 w3_rs F (0 : Int32) w3_rm h _ _ hP hD hS _ (lv_sub hl [1, 2, 3, 4, 0] rfl)
  exact key _ (fun H locs pc ls hP hD hS hd => W.vret hx hb hr (fun t ht hW => ⟨⟨(), rfl, trivial, by show _ ∧ _; rw [ht]; exact ⟨hP, hD⟩⟩, hS.F ht⟩) hS.2.2 hd)
set_option maxHeartbeats 4000000 in
set_option maxRecDepth 100000 in
theorem kX5_first (l : Launch) (D : va_G) (T : Nat → ClassId) (F : Nat) (ad : Nat → Nat) (rs : Nat → Int32) (rm : Nat → Nat → Int32) (ts : Nat → Int32) (tm : Nat → Nat → Int32) (rdue : Int32) (rtun : Int32) (rsee : Int32) (rbeg : Int32) (psize : Int32) (pclause : Int32) (peff : Nat → Int32) (pkin : Nat → Int32) (pgri : Nat → Int32) (psig : Nat → Int32) (psee : Nat → Int32) (qsize : Int32) (qclause : Int32) (qeff : Nat → Int32) (qkin : Nat → Int32) (qgri : Nat → Int32) (qsig : Nat → Int32) (qsee : Nat → Int32) (cdee : Int32) (cnow : Int64) (cahe : Nat → Int64) (kdee : Nat → Int32) (know : Nat → Int64) (kahe : Nat → Nat → Int64) (fc : Nat → Int32) (lf : Int32) (told : Int32) (up : Int64) (lo : Int64) (x1 : Int32) (x2 : Int32) (r : Int32) (zrs : Nat → Int32) (zrm : Nat → Nat → Int32) (h : fX5_first F rs rm psize pclause peff pkin psee cnow x1 x2 = some (r, zrs, zrm)) : ∀ sz : Nat, Met l yX5_first wsX5_first ({ frames := 31, cells := 0, slots := 0, locals := 927 } : Room) (va_Pc [.ref (ad 0), .int x1, .int x2] (fun U => U.heap.size = sz ∧ va_P D vwCl (wPW T ad (ad 6) (ad 12) rs rm ts tm rdue rtun rsee rbeg psize pclause peff pkin pgri psig psee qsize qclause qeff qkin qgri qsig qsee cdee cnow cahe kdee know kahe fc lf told up lo) U.heap ∧ KK D T U ∧ va_D (fun _ => True) (wPW T ad (ad 6) (ad 12) rs rm ts tm rdue rtun rsee rbeg psize pclause peff pkin pgri psig psee qsize qclause qeff qkin qgri qsig qsee cdee cnow cahe kdee know kahe fc lf told up lo))) (va_Qi (fun r' (_ : Unit) => r' = r) (fun _ t => va_P D vwCl (wPW T ad (ad 6) (ad 12) zrs zrm ts tm rdue rtun rsee rbeg psize pclause peff pkin pgri psig psee qsize qclause qeff qkin qgri qsig qsee cdee cnow cahe kdee know kahe fc lf told up lo) t.heap ∧ va_D (va_A (wPW T ad (ad 6) (ad 12) rs rm ts tm rdue rtun rsee rbeg psize pclause peff pkin pgri psig psee qsize qclause qeff qkin qgri qsig qsee cdee cnow cahe kdee know kahe fc lf told up lo) sz) (wPW T ad (ad 6) (ad 12) zrs zrm ts tm rdue rtun rsee rbeg psize pclause peff pkin pgri psig psee qsize qclause qeff qkin qgri qsig qsee cdee cnow cahe kdee know kahe fc lf told up lo)) (va_A (wPW T ad (ad 6) (ad 12) rs rm ts tm rdue rtun rsee rbeg psize pclause peff pkin pgri psig psee qsize qclause qeff qkin qgri qsig qsee cdee cnow cahe kdee know kahe fc lf told up lo) sz)) 0 0 (va_A (wPW T ad (ad 6) (ad 12) rs rm ts tm rdue rtun rsee rbeg psize pclause peff pkin pgri psig psee qsize qclause qeff qkin qgri qsig qsee cdee cnow cahe kdee know kahe fc lf told up lo) sz) := by
  intro sz
  refine Met.ofW (cc := cX5_first) (maxL := 5) (ret := some .int) (by decide) rfl ?_
  intro p e s m args below meth c s₁ B hml hv
  obtain ⟨ha, hsz, hP, hKK, hD0⟩ := hv
  have hx := B.exec
  have hb := B.bytes
  have hr := B.returns
  have hts := atoms_spec (ws := wsX5_first) B.pre
  have hown : s.vm.findClass RX5 = some m.cls := findClass_of_methodNamed B.named
  have hlocks := B.notSynchronized
  have hK := hKK.1
  have hFix : CallFix p m c cX5_first 5 s args wsX5_first RX5 := ⟨hx, hb, hml, hown, hts⟩
  have q1 := hts _ (List.mem_of_getElem? (i := 1) (show wsX5_first[1]? = some (Cond.fieldLink RX5 36 "PartyWill" "party" "LPartyWill$Party;") from rfl))
  have q2 := hts _ (List.mem_of_getElem? (i := 2) (show wsX5_first[2]? = some (Cond.fieldLink RX5 46 "PartyWill" "course" "LPartyWill$Course;") from rfl))
  have q11 := hts _ (List.mem_of_getElem? (i := 11) (show wsX5_first[11]? = some (Cond.static yX1_howManyIn) from rfl))
  have q12 := hts _ (List.mem_of_getElem? (i := 12) (show wsX5_first[12]? = some (Cond.initialized RX1) from rfl))
  have q24 := hts _ (List.mem_of_getElem? (i := 24) (show wsX5_first[24]? = some (Cond.static yX3_firstLeaving) from rfl))
  have q25 := hts _ (List.mem_of_getElem? (i := 25) (show wsX5_first[25]? = some (Cond.initialized RX3) from rfl))
  have iX0 : ∀ w ∈ u_ws RX0 TX0 3, w ∈ wsX5_first := fun w h => List.mem_cons_of_mem _ (List.mem_append_left _ (List.mem_append_right _ (h)))
  have iX5 : ∀ w ∈ u_ws RX5 TX5 14, w ∈ wsX5_first := fun w h => List.mem_cons_of_mem _ (List.mem_append_left _ (List.mem_append_left _ (List.mem_append_right _ (h))))
  subst hsz
  have hD := hD0.self (sz := s.heap.size)
  generalize hAe : va_A (wPW T ad (ad 6) (ad 12) rs rm ts tm rdue rtun rsee rbeg psize pclause peff pkin pgri psig psee qsize qclause qeff qkin qgri qsig qsee cdee cnow cahe kdee know kahe fc lf told up lo) s.heap.size = A at hD ⊢
  have hA : ∀ q : Nat, s.heap.size ≤ q → A q := fun q h => by rw [← hAe]; exact Or.inr h
  have hS : va_S A s.heap s.heap [] := va_S.rf
  have hP : va_P D vwCl (wPW T ad (ad 6) (ad 12) rs rm ts tm rdue rtun rsee rbeg psize pclause peff pkin pgri psig psee qsize qclause qeff qkin qgri qsig qsee cdee cnow cahe kdee know kahe fc lf told up lo) s.heap := hP
  obtain ⟨ls, hl, e0⟩ := my_entry (m := m) (n := 5) ha (Nat.le_of_ble_eq_true rfl)
  rw [e0]
  have hl : lv_has ls 5 [(0, .ref (ad 0)), (1, .int x1), (2, .int x2)] := hl
  have key : ∀ Q : State → Prop, (∀ (H : Heap) (locs : List Loc) (pc : Nat) (ls : Array Slot), va_P D vwCl (wPW T ad (ad 6) (ad 12) zrs zrm ts tm rdue rtun rsee rbeg psize pclause peff pkin pgri psig psee qsize qclause qeff qkin qgri qsig qsee cdee cnow cahe kdee know kahe fc lf told up lo) H → va_D A (wPW T ad (ad 6) (ad 12) zrs zrm ts tm rdue rtun rsee rbeg psize pclause peff pkin pgri psig psee qsize qclause qeff qkin qgri qsig qsee cdee cnow cahe kdee know kahe fc lf told up lo) → va_S A s.heap H locs → decode cX5_first pc = .ok (.ireturn, 1) → W p l e ({ frames := 31, cells := 0, slots := 0, locals := 927 } : Room) s m args below meth c H locs 0 0 Q (F0 m pc ls [.int r])) → W p l e ({ frames := 31, cells := 0, slots := 0, locals := 927 } : Room) s m args below meth c s.heap [] 0 0 Q (F0 m 0 ls []) := by
    intro Q hret
    skip
    have n16 : ∀ s_0 : Int32, ∀ x1 : Int32, ∀ x2 : Int32, ∀ rs : Nat → Int32, ∀ rm : Nat → Nat → Int32, fX5_first_n16 F psize pclause peff pkin psee cnow s_0 x1 x2 rs rm = some (r, zrs, zrm) → ∀ (H : Heap) (locs : List Loc), va_P D vwCl (wPW T ad (ad 6) (ad 12) rs rm ts tm rdue rtun rsee rbeg psize pclause peff pkin pgri psig psee qsize qclause qeff qkin qgri qsig qsee cdee cnow cahe kdee know kahe fc lf told up lo) H → va_D A (wPW T ad (ad 6) (ad 12) rs rm ts tm rdue rtun rsee rbeg psize pclause peff pkin pgri psig psee qsize qclause qeff qkin qgri qsig qsee cdee cnow cahe kdee know kahe fc lf told up lo) → va_S A s.heap H locs → ∀ (ls : Array Slot), lv_has ls 5 [(0, .ref (ad 0)), (1, .int x1), (2, .int x2)] → W p l e ({ frames := 31, cells := 0, slots := 0, locals := 927 } : Room) s m args below meth c H locs 0 0 Q (F0 m 16 ls [.int s_0]) := by
      intro s_0 x1 x2 rs rm h H locs hP hD hS ls hl
      unfold fX5_first_n16 at h
      refine lv_istore_n (lv' := [(3, .int s_0), (0, .ref (ad 0)), (1, .int x1), (2, .int x2)]) hx hb dX5_first_16 rfl hl (by decide) rfl (fun ls hl => ?_)
      refine lv_iload_n hx hb dX5_first_17 rfl (lv_at hl 0 rfl) ?_
      refine lv_if_eq (tgt := 23) hx hb dX5_first_18 (by decide) (fun c18 => ?_) (fun c18 => ?_)
      · have h := br_1 h c18
        refine lv_aload_n hx hb dX5_first_23 rfl (lv_at hl 1 rfl) ?_
        refine va_get (D := D) (ci := 3) (C := RX5) (T := TX5) (N := 14) hx hb hts iX5 hown hK hP 0 wPW_0 rfl 5 (by decide) q1 (fun _ h9 => h9) rfl dX5_first_24 ?_
        refine lv_aload_n hx hb dX5_first_27 rfl (lv_at hl 1 rfl) ?_
        refine va_get (D := D) (ci := 3) (C := RX5) (T := TX5) (N := 14) hx hb hts iX5 hown hK hP 0 wPW_0 rfl 7 (by decide) q2 (fun _ h9 => h9) rfl dX5_first_28 ?_
        refine va_getN (host := "PartyWill") (D := D) (ci := 0) (C := RX0) (T := TX0) (N := 3) hx hb hts iX0 hown hK hP 18 wPW_18 rfl 1 (by decide) (va_Nw.use rfl (nw_X5_127 hKK.2)) (fun _ h9 => h9) rfl dX5_first_31 ?_
        refine lv_iload_n hx hb dX5_first_34 rfl (lv_at hl 2 rfl) ?_
        refine lv_aload_n hx hb dX5_first_35 rfl (lv_at hl 1 rfl) ?_
        refine va_get (D := D) (ci := 3) (C := RX5) (T := TX5) (N := 14) hx hb hts iX5 hown hK hP 0 wPW_0 rfl 7 (by decide) q2 (fun _ h9 => h9) rfl dX5_first_36 ?_
        refine va_getN (host := "PartyWill") (D := D) (ci := 0) (C := RX0) (T := TX0) (N := 3) hx hb hts iX0 hown hK hP 18 wPW_18 rfl 1 (by decide) (va_Nw.use rfl (nw_X5_127 hKK.2)) (fun _ h9 => h9) rfl dX5_first_39 ?_
        obtain ⟨r42, hc, h⟩ := bd1_some h
        refine my_roi (va_Run.run (va_runSN (host := "PartyWill") (As := [.long cnow]) (rest := [.int x1, .long cnow, .ref (ad 6)]) hFix (kX1_howManyIn l D T F cnow r42 hc) ⟨va_cnB 1 hts gX5_first_X1_howManyIn_n207 rfl rfl rfl (nw_X5_207 hKK.2) q12 hd_X1_howManyIn ⟨Nat.le_of_ble_eq_true rfl, Nat.le_of_ble_eq_true rfl⟩, q11, trivial⟩ (preS_ro va_nil hKK) rfl rfl hl.1 rfl (lv_room (Nat.le_of_ble_eq_true rfl)) dX5_first_42 ⟨Nat.zero_le _, Nat.zero_le _⟩)) ?_
        refine lv_iconst (v := (0 : Int32)) hx hb dX5_first_45 (by decide) ?_
        obtain ⟨r46, hc, h⟩ := bd1_some h
        have hPc : va_P D vwCl (wPa T (ad 6) (ad 7) (ad 8) (ad 9) (ad 10) (ad 11) psize pclause peff pkin pgri psig psee) H := my_subP sb_wPW_wPa_6to11 hP
        refine my_roi (va_Run.run (va_runSN (host := "PartyWill") (As := [.ref (ad 6), .long cnow, .int x1, .int r42, .int (0 : Int32)]) (rest := []) hFix (kX3_firstLeaving l D T F 8 (ad 6) (ad 7) (ad 8) (ad 9) (ad 10) (ad 11) psize pclause peff pkin pgri psig psee cnow x1 r42 (0 : Int32) r46 hc) ⟨va_cnB 5 hts gX5_first_X3_firstLeaving_n210 rfl rfl rfl (nw_X5_210 hKK.2) q25 hd_X3_firstLeaving ⟨Nat.le_of_ble_eq_true rfl, Nat.le_of_ble_eq_true rfl⟩, q24, trivial⟩ (preS_ro hPc hKK) rfl rfl hl.1 rfl (lv_room (Nat.le_of_ble_eq_true rfl)) dX5_first_46 ⟨Nat.zero_le _, Nat.zero_le _⟩)) ?_
        refine lv_istore (lv' := [(4, .int r46), (3, .int s_0), (0, .ref (ad 0)), (1, .int x1), (2, .int x2)]) hx hb dX5_first_49 hl (by decide) rfl (fun ls hl => ?_)
        refine lv_iload hx hb dX5_first_51 (lv_at hl 0 rfl) ?_
        refine lv_bipush (v := (-9 : Int32)) hx hb dX5_first_53 (by decide) ?_
        refine lv_icmp_ne (tgt := 61) hx hb dX5_first_55 (by decide) (fun c55 => ?_) (fun c55 => ?_)
        · have h := br_0 h c55
          refine lv_aload_n hx hb dX5_first_61 rfl (lv_at hl 2 rfl) ?_
          refine lv_iload_n hx hb dX5_first_62 rfl (lv_at hl 4 rfl) ?_
          refine lv_iload_n hx hb dX5_first_63 rfl (lv_at hl 3 rfl) ?_
          refine lv_iload hx hb dX5_first_64 (lv_at hl 0 rfl) ?_
          obtain ⟨w66_rs, w66_rm, hc, h⟩ := bd2_some h
          have hFc := my_freeS hD hS hA
          refine my_rwv (va_runV (As := [.int x2, .int x1, .int r46]) (rest := []) hFix (kX5_makeProgramme l D T F ad (ad 6) (ad 12) rs rm ts tm rdue rtun rsee rbeg psize pclause peff pkin pgri psig psee qsize qclause qeff qkin qgri qsig qsee cdee cnow cahe kdee know kahe fc lf told up lo x2 x1 r46 w66_rs w66_rm hc) (cwV 3 hts gX5_first_X5_makeProgramme rfl rfl rfl ⟨rfl, hd_X5_makeProgramme⟩ ⟨Nat.le_of_ble_eq_true rfl, Nat.le_of_ble_eq_true rfl⟩) (preV_rw hP hKK hD (va_recv hK hP (ci := 3) (q0 := 0) rfl wPW_0)) rfl rfl hl.1 rfl (lv_room (Nat.le_of_ble_eq_true rfl)) dX5_first_66 ⟨Nat.zero_le _, Nat.zero_le _⟩) hS hFc (fun H1 locs hP1 hD1 hz1 hk1 hS => ?_)
          have hP : va_P D vwCl (wPW T ad (ad 6) (ad 12) w66_rs w66_rm ts tm rdue rtun rsee rbeg psize pclause peff pkin pgri psig psee qsize qclause qeff qkin qgri qsig qsee cdee cnow cahe kdee know kahe fc lf told up lo) H1 := hP1
          have hD : va_D A (wPW T ad (ad 6) (ad 12) w66_rs w66_rm ts tm rdue rtun rsee rbeg psize pclause peff pkin pgri psig psee qsize qclause qeff qkin qgri qsig qsee cdee cnow cahe kdee know kahe fc lf told up lo) := hD1.weaken (fun _ q _ h => hFc q.1 h)
          generalize H1 = H at hP hS ⊢
          refine lv_iload_n hx hb dX5_first_69 rfl (lv_at hl 3 rfl) ?_
          cases h
          exact hret _ _ _ _ hP hD hS dX5_first_70
        · have h := br_1 h c55
          refine lv_bipush (v := (-9 : Int32)) hx hb dX5_first_58 (by decide) ?_
          cases h
          exact hret _ _ _ _ hP hD hS dX5_first_60
      · have h := br_0 h c18
        refine lv_iload_n hx hb dX5_first_21 rfl (lv_at hl 0 rfl) ?_
        cases h
        exact hret _ _ _ _ hP hD hS dX5_first_22
    unfold fX5_first at h
    refine lv_iload_n hx hb dX5_first_0 rfl (lv_at hl 2 rfl) ?_
    obtain ⟨r1, hc, h⟩ := bd1_some h
    refine my_roz (va_Run.run (va_runS (As := [.int x2]) (rest := []) hFix (kX5_isRow l D T F x2 r1 hc) (va_cwS 1 hts gX5_first_X5_isRow rfl rfl rfl hd_X5_isRow ⟨Nat.le_of_ble_eq_true rfl, Nat.le_of_ble_eq_true rfl⟩) (preS_ro va_nil hKK) rfl rfl hl.1 rfl (lv_room (Nat.le_of_ble_eq_true rfl)) dX5_first_1 ⟨Nat.zero_le _, Nat.zero_le _⟩)) (fun hb1 => ?_)
    refine lv_if_eq (tgt := 15) hx hb dX5_first_4 (by decide) (fun c4 => ?_) (fun c4 => ?_)
    · have h := br_1 h c4
      refine lv_iconst (v := (-1 : Int32)) hx hb dX5_first_15 (by decide) ?_
      exact n16 (-1 : Int32) x1 x2 rs rm h _ _ hP hD hS _ (lv_sub hl [0, 1, 2] rfl)
    · have h := br_0 h c4
      refine lv_aload_n hx hb dX5_first_7 rfl (lv_at hl 0 rfl) ?_
      refine lv_iload_n hx hb dX5_first_8 rfl (lv_at hl 1 rfl) ?_
      obtain ⟨r9, hc, h⟩ := bd1_some h
      refine my_roi (va_Run.run (va_runV (As := [.int x1]) (rest := []) hFix (kX5_searchRefusal l D T F ad (ad 6) (ad 12) rs rm ts tm rdue rtun rsee rbeg psize pclause peff pkin pgri psig psee qsize qclause qeff qkin qgri qsig qsee cdee cnow cahe kdee know kahe fc lf told up lo x1 r9 hc) (cwV 1 hts gX5_first_X5_searchRefusal rfl rfl rfl ⟨rfl, hd_X5_searchRefusal⟩ ⟨Nat.le_of_ble_eq_true rfl, Nat.le_of_ble_eq_true rfl⟩) (preV_ro hP hKK (va_recv hK hP (ci := 3) (q0 := 0) rfl wPW_0)) rfl rfl hl.1 rfl (lv_room (Nat.le_of_ble_eq_true rfl)) dX5_first_9 ⟨Nat.zero_le _, Nat.zero_le _⟩)) ?_
      refine lv_goto (tgt := 16) hx hb dX5_first_12 (by decide) ?_
      exact n16 r9 x1 x2 rs rm h _ _ hP hD hS _ (lv_sub hl [0, 1, 2] rfl)
  exact key _ (fun H locs pc ls hP hD hS hd => W.iret hx hb hr (fun t ht hW => ⟨⟨_, (), rfl, rfl, by show _ ∧ _; rw [ht]; exact ⟨hP, hD⟩⟩, hS.F ht⟩) hS.2.2 hd)
set_option maxHeartbeats 4000000 in
set_option maxRecDepth 100000 in
theorem kX5_fewest (l : Launch) (D : va_G) (T : Nat → ClassId) (F : Nat) (ad : Nat → Nat) (rs : Nat → Int32) (rm : Nat → Nat → Int32) (ts : Nat → Int32) (tm : Nat → Nat → Int32) (rdue : Int32) (rtun : Int32) (rsee : Int32) (rbeg : Int32) (psize : Int32) (pclause : Int32) (peff : Nat → Int32) (pkin : Nat → Int32) (pgri : Nat → Int32) (psig : Nat → Int32) (psee : Nat → Int32) (qsize : Int32) (qclause : Int32) (qeff : Nat → Int32) (qkin : Nat → Int32) (qgri : Nat → Int32) (qsig : Nat → Int32) (qsee : Nat → Int32) (cdee : Int32) (cnow : Int64) (cahe : Nat → Int64) (kdee : Nat → Int32) (know : Nat → Int64) (kahe : Nat → Nat → Int64) (fc : Nat → Int32) (lf : Int32) (told : Int32) (up : Int64) (lo : Int64) (x1 : Int32) (x2 : Int32) (r : Int32) (zrs : Nat → Int32) (zrm : Nat → Nat → Int32) (h : fX5_fewest F rs rm psize pclause peff pkin psee cnow x1 x2 = some (r, zrs, zrm)) : ∀ sz : Nat, Met l yX5_fewest wsX5_fewest ({ frames := 31, cells := 0, slots := 0, locals := 927 } : Room) (va_Pc [.ref (ad 0), .int x1, .int x2] (fun U => U.heap.size = sz ∧ va_P D vwCl (wPW T ad (ad 6) (ad 12) rs rm ts tm rdue rtun rsee rbeg psize pclause peff pkin pgri psig psee qsize qclause qeff qkin qgri qsig qsee cdee cnow cahe kdee know kahe fc lf told up lo) U.heap ∧ KK D T U ∧ va_D (fun _ => True) (wPW T ad (ad 6) (ad 12) rs rm ts tm rdue rtun rsee rbeg psize pclause peff pkin pgri psig psee qsize qclause qeff qkin qgri qsig qsee cdee cnow cahe kdee know kahe fc lf told up lo))) (va_Qi (fun r' (_ : Unit) => r' = r) (fun _ t => va_P D vwCl (wPW T ad (ad 6) (ad 12) zrs zrm ts tm rdue rtun rsee rbeg psize pclause peff pkin pgri psig psee qsize qclause qeff qkin qgri qsig qsee cdee cnow cahe kdee know kahe fc lf told up lo) t.heap ∧ va_D (va_A (wPW T ad (ad 6) (ad 12) rs rm ts tm rdue rtun rsee rbeg psize pclause peff pkin pgri psig psee qsize qclause qeff qkin qgri qsig qsee cdee cnow cahe kdee know kahe fc lf told up lo) sz) (wPW T ad (ad 6) (ad 12) zrs zrm ts tm rdue rtun rsee rbeg psize pclause peff pkin pgri psig psee qsize qclause qeff qkin qgri qsig qsee cdee cnow cahe kdee know kahe fc lf told up lo)) (va_A (wPW T ad (ad 6) (ad 12) rs rm ts tm rdue rtun rsee rbeg psize pclause peff pkin pgri psig psee qsize qclause qeff qkin qgri qsig qsee cdee cnow cahe kdee know kahe fc lf told up lo) sz)) 0 0 (va_A (wPW T ad (ad 6) (ad 12) rs rm ts tm rdue rtun rsee rbeg psize pclause peff pkin pgri psig psee qsize qclause qeff qkin qgri qsig qsee cdee cnow cahe kdee know kahe fc lf told up lo) sz) := by
  intro sz
  refine Met.ofW (cc := cX5_fewest) (maxL := 5) (ret := some .int) (by decide) rfl ?_
  intro p e s m args below meth c s₁ B hml hv
  obtain ⟨ha, hsz, hP, hKK, hD0⟩ := hv
  have hx := B.exec
  have hb := B.bytes
  have hr := B.returns
  have hts := atoms_spec (ws := wsX5_fewest) B.pre
  have hown : s.vm.findClass RX5 = some m.cls := findClass_of_methodNamed B.named
  have hlocks := B.notSynchronized
  have hK := hKK.1
  have hFix : CallFix p m c cX5_fewest 5 s args wsX5_fewest RX5 := ⟨hx, hb, hml, hown, hts⟩
  have q1 := hts _ (List.mem_of_getElem? (i := 1) (show wsX5_fewest[1]? = some (Cond.fieldLink RX5 36 "PartyWill" "party" "LPartyWill$Party;") from rfl))
  have q2 := hts _ (List.mem_of_getElem? (i := 2) (show wsX5_fewest[2]? = some (Cond.fieldLink RX5 46 "PartyWill" "course" "LPartyWill$Course;") from rfl))
  have q11 := hts _ (List.mem_of_getElem? (i := 11) (show wsX5_fewest[11]? = some (Cond.static yX3_mostLeft) from rfl))
  have q12 := hts _ (List.mem_of_getElem? (i := 12) (show wsX5_fewest[12]? = some (Cond.initialized RX3) from rfl))
  have q18 := hts _ (List.mem_of_getElem? (i := 18) (show wsX5_fewest[18]? = some (Cond.static yX1_howManyIn) from rfl))
  have q19 := hts _ (List.mem_of_getElem? (i := 19) (show wsX5_fewest[19]? = some (Cond.initialized RX1) from rfl))
  have q76 := hts _ (List.mem_of_getElem? (i := 76) (show wsX5_fewest[76]? = some (Cond.static yX3_firstLeaving) from rfl))
  have iX0 : ∀ w ∈ u_ws RX0 TX0 3, w ∈ wsX5_fewest := fun w h => List.mem_cons_of_mem _ (List.mem_append_left _ (List.mem_append_right _ (h)))
  have iX5 : ∀ w ∈ u_ws RX5 TX5 14, w ∈ wsX5_fewest := fun w h => List.mem_cons_of_mem _ (List.mem_append_left _ (List.mem_append_left _ (List.mem_append_right _ (h))))
  subst hsz
  have hD := hD0.self (sz := s.heap.size)
  generalize hAe : va_A (wPW T ad (ad 6) (ad 12) rs rm ts tm rdue rtun rsee rbeg psize pclause peff pkin pgri psig psee qsize qclause qeff qkin qgri qsig qsee cdee cnow cahe kdee know kahe fc lf told up lo) s.heap.size = A at hD ⊢
  have hA : ∀ q : Nat, s.heap.size ≤ q → A q := fun q h => by rw [← hAe]; exact Or.inr h
  have hS : va_S A s.heap s.heap [] := va_S.rf
  have hP : va_P D vwCl (wPW T ad (ad 6) (ad 12) rs rm ts tm rdue rtun rsee rbeg psize pclause peff pkin pgri psig psee qsize qclause qeff qkin qgri qsig qsee cdee cnow cahe kdee know kahe fc lf told up lo) s.heap := hP
  obtain ⟨ls, hl, e0⟩ := my_entry (m := m) (n := 5) ha (Nat.le_of_ble_eq_true rfl)
  rw [e0]
  have hl : lv_has ls 5 [(0, .ref (ad 0)), (1, .int x1), (2, .int x2)] := hl
  have key : ∀ Q : State → Prop, (∀ (H : Heap) (locs : List Loc) (pc : Nat) (ls : Array Slot), va_P D vwCl (wPW T ad (ad 6) (ad 12) zrs zrm ts tm rdue rtun rsee rbeg psize pclause peff pkin pgri psig psee qsize qclause qeff qkin qgri qsig qsee cdee cnow cahe kdee know kahe fc lf told up lo) H → va_D A (wPW T ad (ad 6) (ad 12) zrs zrm ts tm rdue rtun rsee rbeg psize pclause peff pkin pgri psig psee qsize qclause qeff qkin qgri qsig qsee cdee cnow cahe kdee know kahe fc lf told up lo) → va_S A s.heap H locs → decode cX5_fewest pc = .ok (.ireturn, 1) → W p l e ({ frames := 31, cells := 0, slots := 0, locals := 927 } : Room) s m args below meth c H locs 0 0 Q (F0 m pc ls [.int r])) → W p l e ({ frames := 31, cells := 0, slots := 0, locals := 927 } : Room) s m args below meth c s.heap [] 0 0 Q (F0 m 0 ls []) := by
    intro Q hret
    skip
    have n16 : ∀ s_0 : Int32, ∀ x1 : Int32, ∀ x2 : Int32, ∀ rs : Nat → Int32, ∀ rm : Nat → Nat → Int32, fX5_fewest_n16 F psize pclause peff pkin psee cnow s_0 x1 x2 rs rm = some (r, zrs, zrm) → ∀ (H : Heap) (locs : List Loc), va_P D vwCl (wPW T ad (ad 6) (ad 12) rs rm ts tm rdue rtun rsee rbeg psize pclause peff pkin pgri psig psee qsize qclause qeff qkin qgri qsig qsee cdee cnow cahe kdee know kahe fc lf told up lo) H → va_D A (wPW T ad (ad 6) (ad 12) rs rm ts tm rdue rtun rsee rbeg psize pclause peff pkin pgri psig psee qsize qclause qeff qkin qgri qsig qsee cdee cnow cahe kdee know kahe fc lf told up lo) → va_S A s.heap H locs → ∀ (ls : Array Slot), lv_has ls 5 [(0, .ref (ad 0)), (1, .int x1), (2, .int x2)] → W p l e ({ frames := 31, cells := 0, slots := 0, locals := 927 } : Room) s m args below meth c H locs 0 0 Q (F0 m 16 ls [.int s_0]) := by
      intro s_0 x1 x2 rs rm h H locs hP hD hS ls hl
      unfold fX5_fewest_n16 at h
      refine lv_istore_n (lv' := [(3, .int s_0), (0, .ref (ad 0)), (1, .int x1), (2, .int x2)]) hx hb dX5_fewest_16 rfl hl (by decide) rfl (fun ls hl => ?_)
      refine lv_iload_n hx hb dX5_fewest_17 rfl (lv_at hl 0 rfl) ?_
      refine lv_if_eq (tgt := 23) hx hb dX5_fewest_18 (by decide) (fun c18 => ?_) (fun c18 => ?_)
      · have h := br_1 h c18
        refine lv_aload_n hx hb dX5_fewest_23 rfl (lv_at hl 1 rfl) ?_
        refine va_get (D := D) (ci := 3) (C := RX5) (T := TX5) (N := 14) hx hb hts iX5 hown hK hP 0 wPW_0 rfl 5 (by decide) q1 (fun _ h9 => h9) rfl dX5_fewest_24 ?_
        refine lv_aload_n hx hb dX5_fewest_27 rfl (lv_at hl 1 rfl) ?_
        refine va_get (D := D) (ci := 3) (C := RX5) (T := TX5) (N := 14) hx hb hts iX5 hown hK hP 0 wPW_0 rfl 7 (by decide) q2 (fun _ h9 => h9) rfl dX5_fewest_28 ?_
        refine va_getN (host := "PartyWill") (D := D) (ci := 0) (C := RX0) (T := TX0) (N := 3) hx hb hts iX0 hown hK hP 18 wPW_18 rfl 1 (by decide) (va_Nw.use rfl (nw_X5_127 hKK.2)) (fun _ h9 => h9) rfl dX5_fewest_31 ?_
        refine lv_iload_n hx hb dX5_fewest_34 rfl (lv_at hl 2 rfl) ?_
        obtain ⟨r35, hc, h⟩ := bd1_some h
        have hPc : va_P D vwCl (wPa T (ad 6) (ad 7) (ad 8) (ad 9) (ad 10) (ad 11) psize pclause peff pkin pgri psig psee) H := my_subP sb_wPW_wPa_6to11 hP
        refine my_roi (va_Run.run (va_runSN (host := "PartyWill") (As := [.ref (ad 6), .long cnow, .int x1]) (rest := []) hFix (kX3_mostLeft l D T F 8 (ad 6) (ad 7) (ad 8) (ad 9) (ad 10) (ad 11) psize pclause peff pkin pgri psig psee cnow x1 r35 hc) ⟨va_cnB 3 hts gX5_fewest_X3_mostLeft_n218 rfl rfl rfl (nw_X5_218 hKK.2) q12 hd_X3_mostLeft ⟨Nat.le_of_ble_eq_true rfl, Nat.le_of_ble_eq_true rfl⟩, q11, trivial⟩ (preS_ro hPc hKK) rfl rfl hl.1 rfl (lv_room (Nat.le_of_ble_eq_true rfl)) dX5_fewest_35 ⟨Nat.zero_le _, Nat.zero_le _⟩)) ?_
        refine lv_istore (lv' := [(4, .int r35), (3, .int s_0), (0, .ref (ad 0)), (1, .int x1), (2, .int x2)]) hx hb dX5_fewest_38 hl (by decide) rfl (fun ls hl => ?_)
        refine lv_aload_n hx hb dX5_fewest_40 rfl (lv_at hl 2 rfl) ?_
        refine lv_iload_n hx hb dX5_fewest_41 rfl (lv_at hl 4 rfl) ?_
        refine lv_iload_n hx hb dX5_fewest_42 rfl (lv_at hl 3 rfl) ?_
        refine lv_aload_n hx hb dX5_fewest_43 rfl (lv_at hl 2 rfl) ?_
        refine va_get (D := D) (ci := 3) (C := RX5) (T := TX5) (N := 14) hx hb hts iX5 hown hK hP 0 wPW_0 rfl 5 (by decide) q1 (fun _ h9 => h9) rfl dX5_fewest_44 ?_
        refine lv_aload_n hx hb dX5_fewest_47 rfl (lv_at hl 2 rfl) ?_
        refine va_get (D := D) (ci := 3) (C := RX5) (T := TX5) (N := 14) hx hb hts iX5 hown hK hP 0 wPW_0 rfl 7 (by decide) q2 (fun _ h9 => h9) rfl dX5_fewest_48 ?_
        refine va_getN (host := "PartyWill") (D := D) (ci := 0) (C := RX0) (T := TX0) (N := 3) hx hb hts iX0 hown hK hP 18 wPW_18 rfl 1 (by decide) (va_Nw.use rfl (nw_X5_127 hKK.2)) (fun _ h9 => h9) rfl dX5_fewest_51 ?_
        refine lv_iload_n hx hb dX5_fewest_54 rfl (lv_at hl 3 rfl) ?_
        refine lv_iload hx hb dX5_fewest_55 (lv_at hl 0 rfl) ?_
        refine lv_iconst (v := (0 : Int32)) hx hb dX5_fewest_57 (by decide) ?_
        obtain ⟨r58, hc, h⟩ := bd1_some h
        have hPc : va_P D vwCl (wPa T (ad 6) (ad 7) (ad 8) (ad 9) (ad 10) (ad 11) psize pclause peff pkin pgri psig psee) H := my_subP sb_wPW_wPa_6to11 hP
        refine my_roi (va_Run.run (va_runSN (host := "PartyWill") (As := [.ref (ad 6), .long cnow, .int x1, .int r35, .int (0 : Int32)]) (rest := [.int x1, .int x2, .ref (ad 0)]) hFix (kX3_firstLeaving l D T F 8 (ad 6) (ad 7) (ad 8) (ad 9) (ad 10) (ad 11) psize pclause peff pkin pgri psig psee cnow x1 r35 (0 : Int32) r58 hc) ⟨va_cnB 5 hts gX5_fewest_X3_firstLeaving_n210 rfl rfl rfl (nw_X5_210 hKK.2) q12 hd_X3_firstLeaving ⟨Nat.le_of_ble_eq_true rfl, Nat.le_of_ble_eq_true rfl⟩, q76, trivial⟩ (preS_ro hPc hKK) rfl rfl hl.1 rfl (lv_room (Nat.le_of_ble_eq_true rfl)) dX5_fewest_58 ⟨Nat.zero_le _, Nat.zero_le _⟩)) ?_
        obtain ⟨w61_rs, w61_rm, hc, h⟩ := bd2_some h
        have hFc := my_freeS hD hS hA
        refine my_rwv (va_runV (As := [.int x2, .int x1, .int r58]) (rest := []) hFix (kX5_makeProgramme l D T F ad (ad 6) (ad 12) rs rm ts tm rdue rtun rsee rbeg psize pclause peff pkin pgri psig psee qsize qclause qeff qkin qgri qsig qsee cdee cnow cahe kdee know kahe fc lf told up lo x2 x1 r58 w61_rs w61_rm hc) (cwV 3 hts gX5_fewest_X5_makeProgramme rfl rfl rfl ⟨rfl, hd_X5_makeProgramme⟩ ⟨Nat.le_of_ble_eq_true rfl, Nat.le_of_ble_eq_true rfl⟩) (preV_rw hP hKK hD (va_recv hK hP (ci := 3) (q0 := 0) rfl wPW_0)) rfl rfl hl.1 rfl (lv_room (Nat.le_of_ble_eq_true rfl)) dX5_fewest_61 ⟨Nat.zero_le _, Nat.zero_le _⟩) hS hFc (fun H1 locs hP1 hD1 hz1 hk1 hS => ?_)
        have hP : va_P D vwCl (wPW T ad (ad 6) (ad 12) w61_rs w61_rm ts tm rdue rtun rsee rbeg psize pclause peff pkin pgri psig psee qsize qclause qeff qkin qgri qsig qsee cdee cnow cahe kdee know kahe fc lf told up lo) H1 := hP1
        have hD : va_D A (wPW T ad (ad 6) (ad 12) w61_rs w61_rm ts tm rdue rtun rsee rbeg psize pclause peff pkin pgri psig psee qsize qclause qeff qkin qgri qsig qsee cdee cnow cahe kdee know kahe fc lf told up lo) := hD1.weaken (fun _ q _ h => hFc q.1 h)
        generalize H1 = H at hP hS ⊢
        refine lv_aload_n hx hb dX5_fewest_64 rfl (lv_at hl 2 rfl) ?_
        refine va_get (D := D) (ci := 3) (C := RX5) (T := TX5) (N := 14) hx hb hts iX5 hown hK hP 0 wPW_0 rfl 7 (by decide) q2 (fun _ h9 => h9) rfl dX5_fewest_65 ?_
        refine va_getN (host := "PartyWill") (D := D) (ci := 0) (C := RX0) (T := TX0) (N := 3) hx hb hts iX0 hown hK hP 18 wPW_18 rfl 1 (by decide) (va_Nw.use rfl (nw_X5_127 hKK.2)) (fun _ h9 => h9) rfl dX5_fewest_68 ?_
        obtain ⟨r71, hc, h⟩ := bd1_some h
        refine my_roi (va_Run.run (va_runSN (host := "PartyWill") (As := [.long cnow]) (rest := []) hFix (kX1_howManyIn l D T F cnow r71 hc) ⟨va_cnB 1 hts gX5_fewest_X1_howManyIn_n207 rfl rfl rfl (nw_X5_207 hKK.2) q19 hd_X1_howManyIn ⟨Nat.le_of_ble_eq_true rfl, Nat.le_of_ble_eq_true rfl⟩, q18, trivial⟩ (preS_ro va_nil hKK) rfl rfl hl.1 rfl (lv_room (Nat.le_of_ble_eq_true rfl)) dX5_fewest_71 ⟨Nat.zero_le _, Nat.zero_le _⟩)) ?_
        refine lv_iload hx hb dX5_fewest_74 (lv_at hl 0 rfl) ?_
        refine lv_isub hx hb dX5_fewest_76 ?_
        cases h
        exact hret _ _ _ _ hP hD hS dX5_fewest_77
      · have h := br_0 h c18
        refine lv_iload_n hx hb dX5_fewest_21 rfl (lv_at hl 0 rfl) ?_
        cases h
        exact hret _ _ _ _ hP hD hS dX5_fewest_22
    unfold fX5_fewest at h
    refine lv_iload_n hx hb dX5_fewest_0 rfl (lv_at hl 2 rfl) ?_
    obtain ⟨r1, hc, h⟩ := bd1_some h
    refine my_roz (va_Run.run (va_runS (As := [.int x2]) (rest := []) hFix (kX5_isRow l D T F x2 r1 hc) (va_cwS 1 hts gX5_fewest_X5_isRow rfl rfl rfl hd_X5_isRow ⟨Nat.le_of_ble_eq_true rfl, Nat.le_of_ble_eq_true rfl⟩) (preS_ro va_nil hKK) rfl rfl hl.1 rfl (lv_room (Nat.le_of_ble_eq_true rfl)) dX5_fewest_1 ⟨Nat.zero_le _, Nat.zero_le _⟩)) (fun hb1 => ?_)
    refine lv_if_eq (tgt := 15) hx hb dX5_fewest_4 (by decide) (fun c4 => ?_) (fun c4 => ?_)
    · have h := br_1 h c4
      refine lv_iconst (v := (-1 : Int32)) hx hb dX5_fewest_15 (by decide) ?_
      exact n16 (-1 : Int32) x1 x2 rs rm h _ _ hP hD hS _ (lv_sub hl [0, 1, 2] rfl)
    · have h := br_0 h c4
      refine lv_aload_n hx hb dX5_fewest_7 rfl (lv_at hl 0 rfl) ?_
      refine lv_iload_n hx hb dX5_fewest_8 rfl (lv_at hl 1 rfl) ?_
      obtain ⟨r9, hc, h⟩ := bd1_some h
      refine my_roi (va_Run.run (va_runV (As := [.int x1]) (rest := []) hFix (kX5_searchRefusal l D T F ad (ad 6) (ad 12) rs rm ts tm rdue rtun rsee rbeg psize pclause peff pkin pgri psig psee qsize qclause qeff qkin qgri qsig qsee cdee cnow cahe kdee know kahe fc lf told up lo x1 r9 hc) (cwV 1 hts gX5_fewest_X5_searchRefusal rfl rfl rfl ⟨rfl, hd_X5_searchRefusal⟩ ⟨Nat.le_of_ble_eq_true rfl, Nat.le_of_ble_eq_true rfl⟩) (preV_ro hP hKK (va_recv hK hP (ci := 3) (q0 := 0) rfl wPW_0)) rfl rfl hl.1 rfl (lv_room (Nat.le_of_ble_eq_true rfl)) dX5_fewest_9 ⟨Nat.zero_le _, Nat.zero_le _⟩)) ?_
      refine lv_goto (tgt := 16) hx hb dX5_fewest_12 (by decide) ?_
      exact n16 r9 x1 x2 rs rm h _ _ hP hD hS _ (lv_sub hl [0, 1, 2] rfl)
  exact key _ (fun H locs pc ls hP hD hS hd => W.iret hx hb hr (fun t ht hW => ⟨⟨_, (), rfl, rfl, by show _ ∧ _; rw [ht]; exact ⟨hP, hD⟩⟩, hS.F ht⟩) hS.2.2 hd)
set_option maxHeartbeats 4000000 in
set_option maxRecDepth 100000 in
theorem kX5_gay (l : Launch) (D : va_G) (T : Nat → ClassId) (F : Nat) (ad : Nat → Nat) (rs : Nat → Int32) (rm : Nat → Nat → Int32) (ts : Nat → Int32) (tm : Nat → Nat → Int32) (rdue : Int32) (rtun : Int32) (rsee : Int32) (rbeg : Int32) (psize : Int32) (pclause : Int32) (peff : Nat → Int32) (pkin : Nat → Int32) (pgri : Nat → Int32) (psig : Nat → Int32) (psee : Nat → Int32) (qsize : Int32) (qclause : Int32) (qeff : Nat → Int32) (qkin : Nat → Int32) (qgri : Nat → Int32) (qsig : Nat → Int32) (qsee : Nat → Int32) (cdee : Int32) (cnow : Int64) (cahe : Nat → Int64) (kdee : Nat → Int32) (know : Nat → Int64) (kahe : Nat → Nat → Int64) (fc : Nat → Int32) (lf : Int32) (told : Int32) (up : Int64) (lo : Int64) (r : Int32) (h : fX5_gay F psize pclause peff pkin psee cnow = some (r)) : Met l yX5_gay wsX5_gay ({ frames := 31, cells := 0, slots := 0, locals := 926 } : Room) (va_Pc [.ref (ad 0)] (fun U => va_P D vwCl (wPW T ad (ad 6) (ad 12) rs rm ts tm rdue rtun rsee rbeg psize pclause peff pkin pgri psig psee qsize qclause qeff qkin qgri qsig qsee cdee cnow cahe kdee know kahe fc lf told up lo) U.heap ∧ KK D T U)) (vp_Si (fun r' => r' = r)) 0 0 (fun _ => False) := by
  refine Met.ofW (cc := cX5_gay) (maxL := 2) (ret := some .int) (by decide) rfl ?_
  intro p e s m args below meth c s₁ B hml hv
  obtain ⟨ha, hP, hKK⟩ := hv
  have hx := B.exec
  have hb := B.bytes
  have hr := B.returns
  have hts := atoms_spec (ws := wsX5_gay) B.pre
  have hown : s.vm.findClass RX5 = some m.cls := findClass_of_methodNamed B.named
  have hlocks := B.notSynchronized
  have hK := hKK.1
  have hFix : CallFix p m c cX5_gay 2 s args wsX5_gay RX5 := ⟨hx, hb, hml, hown, hts⟩
  have q1 := hts _ (List.mem_of_getElem? (i := 1) (show wsX5_gay[1]? = some (Cond.fieldLink RX5 36 "PartyWill" "party" "LPartyWill$Party;") from rfl))
  have q2 := hts _ (List.mem_of_getElem? (i := 2) (show wsX5_gay[2]? = some (Cond.fieldLink RX5 46 "PartyWill" "course" "LPartyWill$Course;") from rfl))
  have q3 := hts _ (List.mem_of_getElem? (i := 3) (show wsX5_gay[3]? = some (Cond.static yX3_canCheerAll) from rfl))
  have q4 := hts _ (List.mem_of_getElem? (i := 4) (show wsX5_gay[4]? = some (Cond.initialized RX3) from rfl))
  have iX0 : ∀ w ∈ u_ws RX0 TX0 3, w ∈ wsX5_gay := fun w h => List.mem_cons_of_mem _ (List.mem_append_right _ (h))
  have iX2 : ∀ w ∈ u_ws RX2 TX2 7, w ∈ wsX5_gay := fun w h => List.mem_cons_of_mem _ (List.mem_append_left _ (List.mem_append_right _ (h)))
  have iX5 : ∀ w ∈ u_ws RX5 TX5 14, w ∈ wsX5_gay := fun w h => List.mem_cons_of_mem _ (List.mem_append_left _ (List.mem_append_left _ (List.mem_append_right _ (h))))
  obtain ⟨ls, hl, e0⟩ := my_entry (m := m) (n := 2) ha (Nat.le_of_ble_eq_true rfl)
  rw [e0]
  have hl : lv_has ls 2 [(0, .ref (ad 0))] := hl
  have key : ∀ Q : State → Prop, (∀ (pc : Nat) (ls : Array Slot), decode cX5_gay pc = .ok (.ireturn, 1) → W p l e ({ frames := 31, cells := 0, slots := 0, locals := 926 } : Room) s m args below meth c s.heap [] 0 0 Q (F0 m pc ls [.int r])) → W p l e ({ frames := 31, cells := 0, slots := 0, locals := 926 } : Room) s m args below meth c s.heap [] 0 0 Q (F0 m 0 ls []) := by
    intro Q hret
    have l15 : ∀ nu : Nat, ∀ x1 : Int32, fX5_gay_l15 F psize pclause peff pkin psee cnow nu x1 = some (r) → ∀ (ls : Array Slot), lv_has ls 2 [(0, .ref (ad 0)), (1, .int x1)] → W p l e ({ frames := 31, cells := 0, slots := 0, locals := 926 } : Room) s m args below meth c s.heap [] 0 0 Q (F0 m 15 ls []) := by
      intro nu
      induction nu with
      | zero => intro x1 h; exact none_some h
      | succ nu15 ih15 =>
        intro x1 h ls hl
        have h : fX5_gay_l15_b F psize pclause peff pkin psee cnow (fX5_gay_l15 F psize pclause peff pkin psee cnow nu15) x1 = some (r) := h
        unfold fX5_gay_l15_b at h
        refine lv_iload_n hx hb dX5_gay_15 rfl (lv_at hl 1 rfl) ?_
        refine lv_bipush (v := (6 : Int32)) hx hb dX5_gay_16 (by decide) ?_
        refine lv_icmp_gt (tgt := 47) hx hb dX5_gay_18 (by decide) (fun c18 => ?_) (fun c18 => ?_)
        · have h := br_1 h c18
          refine lv_bipush (v := (-9 : Int32)) hx hb dX5_gay_47 (by decide) ?_
          cases h
          exact hret _ _ dX5_gay_49
        · have h := br_0 h c18
          refine lv_aload_n hx hb dX5_gay_21 rfl (lv_at hl 0 rfl) ?_
          refine va_get (D := D) (ci := 3) (C := RX5) (T := TX5) (N := 14) hx hb hts iX5 hown hK hP 0 wPW_0 rfl 5 (by decide) q1 (fun _ h9 => h9) rfl dX5_gay_22 ?_
          refine lv_aload_n hx hb dX5_gay_25 rfl (lv_at hl 0 rfl) ?_
          refine va_get (D := D) (ci := 3) (C := RX5) (T := TX5) (N := 14) hx hb hts iX5 hown hK hP 0 wPW_0 rfl 7 (by decide) q2 (fun _ h9 => h9) rfl dX5_gay_26 ?_
          refine va_getN (host := "PartyWill") (D := D) (ci := 0) (C := RX0) (T := TX0) (N := 3) hx hb hts iX0 hown hK hP 18 wPW_18 rfl 1 (by decide) (va_Nw.use rfl (nw_X5_127 hKK.2)) (fun _ h9 => h9) rfl dX5_gay_29 ?_
          refine lv_iload_n hx hb dX5_gay_32 rfl (lv_at hl 1 rfl) ?_
          obtain ⟨r33, hc, h⟩ := bd1_some h
          have hPc : va_P D vwCl (wPa T (ad 6) (ad 7) (ad 8) (ad 9) (ad 10) (ad 11) psize pclause peff pkin pgri psig psee) s.heap := my_subP sb_wPW_wPa_6to11 hP
          refine my_roz (va_Run.run (va_runSN (host := "PartyWill") (As := [.ref (ad 6), .long cnow, .int x1]) (rest := []) hFix (kX3_canCheerAll l D T F 8 (ad 6) (ad 7) (ad 8) (ad 9) (ad 10) (ad 11) psize pclause peff pkin pgri psig psee cnow x1 r33 hc) ⟨va_cnB 3 hts gX5_gay_X3_canCheerAll_n222 rfl rfl rfl (nw_X5_222 hKK.2) q4 hd_X3_canCheerAll ⟨Nat.le_of_ble_eq_true rfl, Nat.le_of_ble_eq_true rfl⟩, q3, trivial⟩ (preS_ro hPc hKK) rfl rfl hl.1 rfl (lv_room (Nat.le_of_ble_eq_true rfl)) dX5_gay_33 ⟨Nat.zero_le _, Nat.zero_le _⟩)) (fun hb33 => ?_)
          refine lv_if_eq (tgt := 41) hx hb dX5_gay_36 (by decide) (fun c36 => ?_) (fun c36 => ?_)
          · have h := br_1 h c36
            refine lv_iinc (v := (x1 + (1 : Int32))) (lv' := [(1, .int (x1 + (1 : Int32))), (0, .ref (ad 0))]) hx hb dX5_gay_41 hl (k := 1) rfl rfl (by decide) rfl (fun ls hl => ?_)
            refine lv_goto (tgt := 15) hx hb dX5_gay_44 (by decide) ?_
            exact ih15 (x1 + (1 : Int32)) h _ (lv_sub hl [1, 0] rfl)
          · have h := br_0 h c36
            refine lv_iload_n hx hb dX5_gay_39 rfl (lv_at hl 1 rfl) ?_
            cases h
            exact hret _ _ dX5_gay_40
    unfold fX5_gay at h
    refine lv_aload_n hx hb dX5_gay_0 rfl (lv_at hl 0 rfl) ?_
    refine va_get (D := D) (ci := 3) (C := RX5) (T := TX5) (N := 14) hx hb hts iX5 hown hK hP 0 wPW_0 rfl 5 (by decide) q1 (fun _ h9 => h9) rfl dX5_gay_1 ?_
    refine va_getN (host := "PartyWill") (D := D) (ci := 1) (C := RX2) (T := TX2) (N := 7) hx hb hts iX2 hown hK hP 6 wPW_6 rfl 0 (by decide) (va_Nw.use rfl (nw_X5_111 hKK.2)) (fun _ h9 => h9) rfl dX5_gay_4 ?_
    refine lv_if_ne (tgt := 13) hx hb dX5_gay_7 (by decide) (fun c7 => ?_) (fun c7 => ?_)
    · have h := br_0 h c7
      refine lv_iconst (v := (0 : Int32)) hx hb dX5_gay_13 (by decide) ?_
      refine lv_istore_n (lv' := [(1, .int (0 : Int32)), (0, .ref (ad 0))]) hx hb dX5_gay_14 rfl hl (by decide) rfl (fun ls hl => ?_)
      exact l15 F (0 : Int32) h _ (lv_sub hl [1, 0] rfl)
    · have h := br_1 h c7
      refine lv_bipush (v := (-4 : Int32)) hx hb dX5_gay_10 (by decide) ?_
      cases h
      exact hret _ _ dX5_gay_12
  exact key _ (fun pc ls hd => W.iret hx hb hr (fun t ht hW => ⟨_, rfl, rfl, ht⟩) (fun q h => by cases h) hd)
set_option maxHeartbeats 4000000 in
set_option maxRecDepth 100000 in
theorem kX5_icesNeededBy (l : Launch) (D : va_G) (T : Nat → ClassId) (F : Nat) (ad : Nat → Nat) (rs : Nat → Int32) (rm : Nat → Nat → Int32) (ts : Nat → Int32) (tm : Nat → Nat → Int32) (rdue : Int32) (rtun : Int32) (rsee : Int32) (rbeg : Int32) (psize : Int32) (pclause : Int32) (peff : Nat → Int32) (pkin : Nat → Int32) (pgri : Nat → Int32) (psig : Nat → Int32) (psee : Nat → Int32) (qsize : Int32) (qclause : Int32) (qeff : Nat → Int32) (qkin : Nat → Int32) (qgri : Nat → Int32) (qsig : Nat → Int32) (qsee : Nat → Int32) (cdee : Int32) (cnow : Int64) (cahe : Nat → Int64) (kdee : Nat → Int32) (know : Nat → Int64) (kahe : Nat → Nat → Int64) (fc : Nat → Int32) (lf : Int32) (told : Int32) (up : Int64) (lo : Int64) (x1 : Int32) (x2 : Int32) (r : Int32) (h : fX5_icesNeededBy F rs rm pclause peff pkin psee cnow x1 x2 = some (r)) : Met l yX5_icesNeededBy wsX5_icesNeededBy ({ frames := 4, cells := 0, slots := 0, locals := 101 } : Room) (va_Pc [.ref (ad 0), .int x1, .int x2] (fun U => va_P D vwCl (wPW T ad (ad 6) (ad 12) rs rm ts tm rdue rtun rsee rbeg psize pclause peff pkin pgri psig psee qsize qclause qeff qkin qgri qsig qsee cdee cnow cahe kdee know kahe fc lf told up lo) U.heap ∧ KK D T U)) (vp_Si (fun r' => r' = r)) 0 0 (fun _ => False) := by
  refine Met.ofW (cc := cX5_icesNeededBy) (maxL := 5) (ret := some .int) (by decide) rfl ?_
  intro p e s m args below meth c s₁ B hml hv
  obtain ⟨ha, hP, hKK⟩ := hv
  have hx := B.exec
  have hb := B.bytes
  have hr := B.returns
  have hts := atoms_spec (ws := wsX5_icesNeededBy) B.pre
  have hown : s.vm.findClass RX5 = some m.cls := findClass_of_methodNamed B.named
  have hlocks := B.notSynchronized
  have hK := hKK.1
  have hFix : CallFix p m c cX5_icesNeededBy 5 s args wsX5_icesNeededBy RX5 := ⟨hx, hb, hml, hown, hts⟩
  have q1 := hts _ (List.mem_of_getElem? (i := 1) (show wsX5_icesNeededBy[1]? = some (Cond.fieldLink RX5 36 "PartyWill" "party" "LPartyWill$Party;") from rfl))
  have q2 := hts _ (List.mem_of_getElem? (i := 2) (show wsX5_icesNeededBy[2]? = some (Cond.fieldLink RX5 46 "PartyWill" "course" "LPartyWill$Course;") from rfl))
  have q3 := hts _ (List.mem_of_getElem? (i := 3) (show wsX5_icesNeededBy[3]? = some (Cond.fieldLink RX5 11 "PartyWill" "rows" "[[I") from rfl))
  have q4 := hts _ (List.mem_of_getElem? (i := 4) (show wsX5_icesNeededBy[4]? = some (Cond.fieldLink RX5 14 "PartyWill" "rowSizes" "[I") from rfl))
  have q5 := hts _ (List.mem_of_getElem? (i := 5) (show wsX5_icesNeededBy[5]? = some (Cond.static yX1_insiders) from rfl))
  have q6 := hts _ (List.mem_of_getElem? (i := 6) (show wsX5_icesNeededBy[6]? = some (Cond.initialized RX1) from rfl))
  have q8 := hts _ (List.mem_of_getElem? (i := 8) (show wsX5_icesNeededBy[8]? = some (Cond.instanceMethod yX2_canFall) from rfl))
  have q9 := hts _ (List.mem_of_getElem? (i := 9) (show wsX5_icesNeededBy[9]? = some (Cond.initialized RX2) from rfl))
  have q10 := hts _ (List.mem_of_getElem? (i := 10) (show wsX5_icesNeededBy[10]? = some (Cond.selects RX2 yX2_canFall yX2_canFall) from rfl))
  have q14 := hts _ (List.mem_of_getElem? (i := 14) (show wsX5_icesNeededBy[14]? = some (Cond.static yX1_griefOf) from rfl))
  have q17 := hts _ (List.mem_of_getElem? (i := 17) (show wsX5_icesNeededBy[17]? = some (Cond.static yX2_bounded) from rfl))
  have q26 := hts _ (List.mem_of_getElem? (i := 26) (show wsX5_icesNeededBy[26]? = some (Cond.instanceMethod yX2_keepsTheClause) from rfl))
  have q27 := hts _ (List.mem_of_getElem? (i := 27) (show wsX5_icesNeededBy[27]? = some (Cond.selects RX2 yX2_keepsTheClause yX2_keepsTheClause) from rfl))
  have iX0 : ∀ w ∈ u_ws RX0 TX0 3, w ∈ wsX5_icesNeededBy := fun w h => List.mem_cons_of_mem _ (List.mem_append_left _ (List.mem_append_right _ (h)))
  have iX5 : ∀ w ∈ u_ws RX5 TX5 14, w ∈ wsX5_icesNeededBy := fun w h => List.mem_cons_of_mem _ (List.mem_append_left _ (List.mem_append_left _ (List.mem_append_right _ (h))))
  obtain ⟨ls, hl, e0⟩ := my_entry (m := m) (n := 5) ha (Nat.le_of_ble_eq_true rfl)
  rw [e0]
  have hl : lv_has ls 5 [(0, .ref (ad 0)), (1, .int x1), (2, .int x2)] := hl
  have key : ∀ Q : State → Prop, (∀ (pc : Nat) (ls : Array Slot), decode cX5_icesNeededBy pc = .ok (.ireturn, 1) → W p l e ({ frames := 4, cells := 0, slots := 0, locals := 101 } : Room) s m args below meth c s.heap [] 0 0 Q (F0 m pc ls [.int r])) → W p l e ({ frames := 4, cells := 0, slots := 0, locals := 101 } : Room) s m args below meth c s.heap [] 0 0 Q (F0 m 0 ls []) := by
    intro Q hret
    have l25 : ∀ x1 : Int32, ∀ x2 : Int32, ∀ nu : Nat, ∀ x3 : Int32, fX5_icesNeededBy_l25 F rs rm pclause peff pkin psee cnow x1 x2 nu x3 = some (r) → ∀ (ls : Array Slot), lv_has ls 5 [(0, .ref (ad 0)), (1, .int x1), (2, .int x2), (3, .int x3)] → W p l e ({ frames := 4, cells := 0, slots := 0, locals := 101 } : Room) s m args below meth c s.heap [] 0 0 Q (F0 m 25 ls []) := by
      intro x1 x2
      intro nu
      induction nu with
      | zero => intro x3 h; exact none_some h
      | succ nu25 ih25 =>
        intro x3 h ls hl
        have h : fX5_icesNeededBy_l25_b F rs rm pclause peff pkin psee cnow x1 x2 (fX5_icesNeededBy_l25 F rs rm pclause peff pkin psee cnow x1 x2 nu25) x3 = some (r) := h
        unfold fX5_icesNeededBy_l25_b at h
        refine lv_iload_n hx hb dX5_icesNeededBy_25 rfl (lv_at hl 3 rfl) ?_
        refine lv_bipush (v := (7 : Int32)) hx hb dX5_icesNeededBy_26 (by decide) ?_
        refine lv_icmp_gt (tgt := 84) hx hb dX5_icesNeededBy_28 (by decide) (fun c28 => ?_) (fun c28 => ?_)
        · have h := br_1 h c28
          refine lv_bipush (v := (-9 : Int32)) hx hb dX5_icesNeededBy_84 (by decide) ?_
          cases h
          exact hret _ _ dX5_icesNeededBy_86
        · have h := br_0 h c28
          refine lv_aload_n hx hb dX5_icesNeededBy_31 rfl (lv_at hl 0 rfl) ?_
          refine va_get (D := D) (ci := 3) (C := RX5) (T := TX5) (N := 14) hx hb hts iX5 hown hK hP 0 wPW_0 rfl 7 (by decide) q2 (fun _ h9 => h9) rfl dX5_icesNeededBy_32 ?_
          refine va_getN (host := "PartyWill") (D := D) (ci := 0) (C := RX0) (T := TX0) (N := 3) hx hb hts iX0 hown hK hP 18 wPW_18 rfl 1 (by decide) (va_Nw.use rfl (nw_X5_127 hKK.2)) (fun _ h9 => h9) rfl dX5_icesNeededBy_35 ?_
          refine lv_iload_n hx hb dX5_icesNeededBy_38 rfl (lv_at hl 1 rfl) ?_
          obtain ⟨r39, hc, h⟩ := bd1_some h
          refine my_roi (va_Run.run (va_runSN (host := "PartyWill") (As := [.long cnow, .int x1]) (rest := []) hFix (kX1_griefOf l D T F cnow x1 r39 hc) ⟨va_cnB 2 hts gX5_icesNeededBy_X1_griefOf_n175 rfl rfl rfl (nw_X5_175 hKK.2) q6 hd_X1_griefOf ⟨Nat.le_of_ble_eq_true rfl, Nat.le_of_ble_eq_true rfl⟩, q14, trivial⟩ (preS_ro va_nil hKK) rfl rfl hl.1 rfl (lv_room (Nat.le_of_ble_eq_true rfl)) dX5_icesNeededBy_39 ⟨Nat.zero_le _, Nat.zero_le _⟩)) ?_
          refine lv_iconst (v := (3 : Int32)) hx hb dX5_icesNeededBy_42 (by decide) ?_
          refine lv_iload_n hx hb dX5_icesNeededBy_43 rfl (lv_at hl 3 rfl) ?_
          refine lv_imul hx hb dX5_icesNeededBy_44 ?_
          refine lv_isub hx hb dX5_icesNeededBy_45 ?_
          obtain ⟨r46, hc, h⟩ := bd1_some h
          refine my_roi (va_Run.run (va_runSN (host := "PartyWill") (As := [.int (r39 - ((3 : Int32) * x3))]) (rest := []) hFix (kX2_bounded l D T F (r39 - ((3 : Int32) * x3)) r46 hc) ⟨va_cnB 1 hts gX5_icesNeededBy_X2_bounded_n310 rfl rfl rfl (nw_X5_310 hKK.2) q9 hd_X2_bounded ⟨Nat.le_of_ble_eq_true rfl, Nat.le_of_ble_eq_true rfl⟩, q17, trivial⟩ (preS_ro va_nil hKK) rfl rfl hl.1 rfl (lv_room (Nat.le_of_ble_eq_true rfl)) dX5_icesNeededBy_46 ⟨Nat.zero_le _, Nat.zero_le _⟩)) ?_
          refine lv_istore (lv' := [(4, .int r46), (0, .ref (ad 0)), (1, .int x1), (2, .int x2), (3, .int x3)]) hx hb dX5_icesNeededBy_49 hl (by decide) rfl (fun ls hl => ?_)
          refine lv_aload_n hx hb dX5_icesNeededBy_51 rfl (lv_at hl 1 rfl) ?_
          refine va_get (D := D) (ci := 3) (C := RX5) (T := TX5) (N := 14) hx hb hts iX5 hown hK hP 0 wPW_0 rfl 5 (by decide) q1 (fun _ h9 => h9) rfl dX5_icesNeededBy_52 ?_
          refine lv_iload_n hx hb dX5_icesNeededBy_55 rfl (lv_at hl 2 rfl) ?_
          refine lv_iload hx hb dX5_icesNeededBy_56 (lv_at hl 0 rfl) ?_
          refine lv_aload_n hx hb dX5_icesNeededBy_58 rfl (lv_at hl 1 rfl) ?_
          refine va_get (D := D) (ci := 3) (C := RX5) (T := TX5) (N := 14) hx hb hts iX5 hown hK hP 0 wPW_0 rfl 0 (by decide) q3 (fun _ h9 => h9) rfl dX5_icesNeededBy_59 ?_
          refine lv_iload_n hx hb dX5_icesNeededBy_62 rfl (lv_at hl 3 rfl) ?_
          obtain ⟨hin2, h⟩ := ck_some h
          have hk1 : x2.toNatClampNeg < 6 := vp_lt hin2
          refine my_ald (b := (ad (28 + x2.toNatClampNeg))) rfl hx hb hK hP 1 4 wPW_1 rfl hin2 (fun _ => if_pos hk1) dX5_icesNeededBy_63 ?_
          refine lv_aload_n hx hb dX5_icesNeededBy_64 rfl (lv_at hl 1 rfl) ?_
          refine va_get (D := D) (ci := 3) (C := RX5) (T := TX5) (N := 14) hx hb hts iX5 hown hK hP 0 wPW_0 rfl 1 (by decide) q4 (fun _ h9 => h9) rfl dX5_icesNeededBy_65 ?_
          refine lv_iload_n hx hb dX5_icesNeededBy_68 rfl (lv_at hl 3 rfl) ?_
          obtain ⟨hin3, h⟩ := ck_some h
          refine va_iald hx hb hK hP 2 0 wPW_2 rfl hin3 dX5_icesNeededBy_69 ?_
          obtain ⟨r70, hc, h⟩ := bd1_some h
          have hPc : va_P D vwCl (wPaA T (ad 6) (ad 7) (ad 8) (ad 9) (ad 10) (ad 11) (ad (28 + x2.toNatClampNeg)) psize pclause peff pkin pgri psig psee (rm x2.toNatClampNeg)) s.heap := my_subP (sb_wPW_wPaA_6torows0 hk1) hP
          refine my_roz (va_Run.run (va_runVN (host := "PartyWill") (As := [.int x1, .int r46, .ref (ad (28 + x2.toNatClampNeg)), .int (rs x2.toNatClampNeg)]) (rest := []) hFix (kX2_keepsTheClause l D T F (ad 6) (ad 7) (ad 8) (ad 9) (ad 10) (ad 11) (ad (28 + x2.toNatClampNeg)) psize pclause peff pkin pgri psig psee (rm x2.toNatClampNeg) x1 r46 (rs x2.toNatClampNeg) r70 hc) ⟨va_cnB 4 hts gX5_icesNeededBy_X2_keepsTheClause_n313 rfl rfl rfl (nw_X5_313 hKK.2) q9 hd_X2_keepsTheClause ⟨Nat.le_of_ble_eq_true rfl, Nat.le_of_ble_eq_true rfl⟩, q26, q27⟩ (preV_ro hPc hKK (va_recv hK hP (ci := 1) (q0 := 6) rfl wPW_6)) rfl rfl hl.1 rfl (lv_room (Nat.le_of_ble_eq_true rfl)) dX5_icesNeededBy_70 ⟨Nat.zero_le _, Nat.zero_le _⟩)) (fun hb70 => ?_)
          refine lv_if_eq (tgt := 78) hx hb dX5_icesNeededBy_73 (by decide) (fun c73 => ?_) (fun c73 => ?_)
          · have h := br_1 h c73
            refine lv_iinc (v := (x3 + (1 : Int32))) (lv' := [(3, .int (x3 + (1 : Int32))), (4, .int r46), (0, .ref (ad 0)), (1, .int x1), (2, .int x2)]) hx hb dX5_icesNeededBy_78 hl (k := 4) rfl rfl (by decide) rfl (fun ls hl => ?_)
            refine lv_goto (tgt := 25) hx hb dX5_icesNeededBy_81 (by decide) ?_
            exact ih25 (x3 + (1 : Int32)) h _ (lv_sub hl [2, 3, 4, 0] rfl)
          · have h := br_0 h c73
            refine lv_iload_n hx hb dX5_icesNeededBy_76 rfl (lv_at hl 4 rfl) ?_
            cases h
            exact hret _ _ dX5_icesNeededBy_77
    unfold fX5_icesNeededBy at h
    refine lv_aload_n hx hb dX5_icesNeededBy_0 rfl (lv_at hl 0 rfl) ?_
    refine va_get (D := D) (ci := 3) (C := RX5) (T := TX5) (N := 14) hx hb hts iX5 hown hK hP 0 wPW_0 rfl 5 (by decide) q1 (fun _ h9 => h9) rfl dX5_icesNeededBy_1 ?_
    refine lv_aload_n hx hb dX5_icesNeededBy_4 rfl (lv_at hl 0 rfl) ?_
    refine va_get (D := D) (ci := 3) (C := RX5) (T := TX5) (N := 14) hx hb hts iX5 hown hK hP 0 wPW_0 rfl 7 (by decide) q2 (fun _ h9 => h9) rfl dX5_icesNeededBy_5 ?_
    refine va_getN (host := "PartyWill") (D := D) (ci := 0) (C := RX0) (T := TX0) (N := 3) hx hb hts iX0 hown hK hP 18 wPW_18 rfl 1 (by decide) (va_Nw.use rfl (nw_X5_127 hKK.2)) (fun _ h9 => h9) rfl dX5_icesNeededBy_8 ?_
    obtain ⟨r11, hc, h⟩ := bd1_some h
    refine my_roi (va_Run.run (va_runSN (host := "PartyWill") (As := [.long cnow]) (rest := [.ref (ad 6)]) hFix (kX1_insiders l D T F cnow r11 hc) ⟨va_cnB 1 hts gX5_icesNeededBy_X1_insiders_n158 rfl rfl rfl (nw_X5_158 hKK.2) q6 hd_X1_insiders ⟨Nat.le_of_ble_eq_true rfl, Nat.le_of_ble_eq_true rfl⟩, q5, trivial⟩ (preS_ro va_nil hKK) rfl rfl hl.1 rfl (lv_room (Nat.le_of_ble_eq_true rfl)) dX5_icesNeededBy_11 ⟨Nat.zero_le _, Nat.zero_le _⟩)) ?_
    refine lv_iload_n hx hb dX5_icesNeededBy_14 rfl (lv_at hl 1 rfl) ?_
    obtain ⟨r15, hc, h⟩ := bd1_some h
    have hPc : va_P D vwCl (wPa T (ad 6) (ad 7) (ad 8) (ad 9) (ad 10) (ad 11) psize pclause peff pkin pgri psig psee) s.heap := my_subP sb_wPW_wPa_6to11 hP
    refine my_roz (va_Run.run (va_runVN (host := "PartyWill") (As := [.int r11, .int x1]) (rest := []) hFix (kX2_canFall l D T F (ad 6) (ad 7) (ad 8) (ad 9) (ad 10) (ad 11) psize pclause peff pkin pgri psig psee r11 x1 r15 hc) ⟨va_cnB 2 hts gX5_icesNeededBy_X2_canFall_n307 rfl rfl rfl (nw_X5_307 hKK.2) q9 hd_X2_canFall ⟨Nat.le_of_ble_eq_true rfl, Nat.le_of_ble_eq_true rfl⟩, q8, q10⟩ (preV_ro hPc hKK (va_recv hK hP (ci := 1) (q0 := 6) rfl wPW_6)) rfl rfl hl.1 rfl (lv_room (Nat.le_of_ble_eq_true rfl)) dX5_icesNeededBy_15 ⟨Nat.zero_le _, Nat.zero_le _⟩)) (fun hb15 => ?_)
    refine lv_if_ne (tgt := 23) hx hb dX5_icesNeededBy_18 (by decide) (fun c18 => ?_) (fun c18 => ?_)
    · have h := br_0 h c18
      refine lv_iconst (v := (0 : Int32)) hx hb dX5_icesNeededBy_23 (by decide) ?_
      refine lv_istore_n (lv' := [(3, .int (0 : Int32)), (0, .ref (ad 0)), (1, .int x1), (2, .int x2)]) hx hb dX5_icesNeededBy_24 rfl hl (by decide) rfl (fun ls hl => ?_)
      exact l25 x1 x2 F (0 : Int32) h _ (lv_sub hl [1, 2, 3, 0] rfl)
    · have h := br_1 h c18
      refine lv_iconst (v := (0 : Int32)) hx hb dX5_icesNeededBy_21 (by decide) ?_
      cases h
      exact hret _ _ dX5_icesNeededBy_22
  exact key _ (fun pc ls hd => W.iret hx hb hr (fun t ht hW => ⟨_, rfl, rfl, ht⟩) (fun q h => by cases h) hd)
set_option maxHeartbeats 4000000 in
set_option maxRecDepth 100000 in
theorem kX5_ices (l : Launch) (D : va_G) (T : Nat → ClassId) (F : Nat) (ad : Nat → Nat) (rs : Nat → Int32) (rm : Nat → Nat → Int32) (ts : Nat → Int32) (tm : Nat → Nat → Int32) (rdue : Int32) (rtun : Int32) (rsee : Int32) (rbeg : Int32) (psize : Int32) (pclause : Int32) (peff : Nat → Int32) (pkin : Nat → Int32) (pgri : Nat → Int32) (psig : Nat → Int32) (psee : Nat → Int32) (qsize : Int32) (qclause : Int32) (qeff : Nat → Int32) (qkin : Nat → Int32) (qgri : Nat → Int32) (qsig : Nat → Int32) (qsee : Nat → Int32) (cdee : Int32) (cnow : Int64) (cahe : Nat → Int64) (kdee : Nat → Int32) (know : Nat → Int64) (kahe : Nat → Nat → Int64) (fc : Nat → Int32) (lf : Int32) (told : Int32) (up : Int64) (lo : Int64) (x1 : Int32) (r : Int32) (zfc : Nat → Int32) (zlf : Int32) (h : fX5_ices F rs rm psize pclause peff pkin psee cnow fc lf x1 = some (r, zfc, zlf)) : ∀ sz : Nat, Met l yX5_ices wsX5_ices ({ frames := 5, cells := 0, slots := 0, locals := 125 } : Room) (va_Pc [.ref (ad 0), .int x1] (fun U => U.heap.size = sz ∧ va_P D vwCl (wPW T ad (ad 6) (ad 12) rs rm ts tm rdue rtun rsee rbeg psize pclause peff pkin pgri psig psee qsize qclause qeff qkin qgri qsig qsee cdee cnow cahe kdee know kahe fc lf told up lo) U.heap ∧ KK D T U ∧ va_D (fun _ => True) (wPW T ad (ad 6) (ad 12) rs rm ts tm rdue rtun rsee rbeg psize pclause peff pkin pgri psig psee qsize qclause qeff qkin qgri qsig qsee cdee cnow cahe kdee know kahe fc lf told up lo))) (va_Qi (fun r' (_ : Unit) => r' = r) (fun _ t => va_P D vwCl (wPW T ad (ad 6) (ad 12) rs rm ts tm rdue rtun rsee rbeg psize pclause peff pkin pgri psig psee qsize qclause qeff qkin qgri qsig qsee cdee cnow cahe kdee know kahe zfc zlf told up lo) t.heap ∧ va_D (va_A (wPW T ad (ad 6) (ad 12) rs rm ts tm rdue rtun rsee rbeg psize pclause peff pkin pgri psig psee qsize qclause qeff qkin qgri qsig qsee cdee cnow cahe kdee know kahe fc lf told up lo) sz) (wPW T ad (ad 6) (ad 12) rs rm ts tm rdue rtun rsee rbeg psize pclause peff pkin pgri psig psee qsize qclause qeff qkin qgri qsig qsee cdee cnow cahe kdee know kahe zfc zlf told up lo)) (va_A (wPW T ad (ad 6) (ad 12) rs rm ts tm rdue rtun rsee rbeg psize pclause peff pkin pgri psig psee qsize qclause qeff qkin qgri qsig qsee cdee cnow cahe kdee know kahe fc lf told up lo) sz)) 0 0 (va_A (wPW T ad (ad 6) (ad 12) rs rm ts tm rdue rtun rsee rbeg psize pclause peff pkin pgri psig psee qsize qclause qeff qkin qgri qsig qsee cdee cnow cahe kdee know kahe fc lf told up lo) sz) := by
  intro sz
  refine Met.ofW (cc := cX5_ices) (maxL := 6) (ret := some .int) (by decide) rfl ?_
  intro p e s m args below meth c s₁ B hml hv
  obtain ⟨ha, hsz, hP, hKK, hD0⟩ := hv
  have hx := B.exec
  have hb := B.bytes
  have hr := B.returns
  have hts := atoms_spec (ws := wsX5_ices) B.pre
  have hown : s.vm.findClass RX5 = some m.cls := findClass_of_methodNamed B.named
  have hlocks := B.notSynchronized
  have hK := hKK.1
  have hFix : CallFix p m c cX5_ices 6 s args wsX5_ices RX5 := ⟨hx, hb, hml, hown, hts⟩
  have q1 := hts _ (List.mem_of_getElem? (i := 1) (show wsX5_ices[1]? = some (Cond.fieldLink RX5 36 "PartyWill" "party" "LPartyWill$Party;") from rfl))
  have iX2 : ∀ w ∈ u_ws RX2 TX2 7, w ∈ wsX5_ices := fun w h => List.mem_cons_of_mem _ (List.mem_append_left _ (List.mem_append_right _ (h)))
  have iX5 : ∀ w ∈ u_ws RX5 TX5 14, w ∈ wsX5_ices := fun w h => List.mem_cons_of_mem _ (List.mem_append_left _ (List.mem_append_left _ (List.mem_append_right _ (h))))
  subst hsz
  have hD := hD0.self (sz := s.heap.size)
  generalize hAe : va_A (wPW T ad (ad 6) (ad 12) rs rm ts tm rdue rtun rsee rbeg psize pclause peff pkin pgri psig psee qsize qclause qeff qkin qgri qsig qsee cdee cnow cahe kdee know kahe fc lf told up lo) s.heap.size = A at hD ⊢
  have hA : ∀ q : Nat, s.heap.size ≤ q → A q := fun q h => by rw [← hAe]; exact Or.inr h
  have hS : va_S A s.heap s.heap [] := va_S.rf
  have hP : va_P D vwCl (wPW T ad (ad 6) (ad 12) rs rm ts tm rdue rtun rsee rbeg psize pclause peff pkin pgri psig psee qsize qclause qeff qkin qgri qsig qsee cdee cnow cahe kdee know kahe fc lf told up lo) s.heap := hP
  obtain ⟨ls, hl, e0⟩ := my_entry (m := m) (n := 6) ha (Nat.le_of_ble_eq_true rfl)
  rw [e0]
  have hl : lv_has ls 6 [(0, .ref (ad 0)), (1, .int x1)] := hl
  have key : ∀ Q : State → Prop, (∀ (H : Heap) (locs : List Loc) (pc : Nat) (ls : Array Slot), va_P D vwCl (wPW T ad (ad 6) (ad 12) rs rm ts tm rdue rtun rsee rbeg psize pclause peff pkin pgri psig psee qsize qclause qeff qkin qgri qsig qsee cdee cnow cahe kdee know kahe zfc zlf told up lo) H → va_D A (wPW T ad (ad 6) (ad 12) rs rm ts tm rdue rtun rsee rbeg psize pclause peff pkin pgri psig psee qsize qclause qeff qkin qgri qsig qsee cdee cnow cahe kdee know kahe zfc zlf told up lo) → va_S A s.heap H locs → decode cX5_ices pc = .ok (.ireturn, 1) → W p l e ({ frames := 5, cells := 0, slots := 0, locals := 125 } : Room) s m args below meth c H locs 0 0 Q (F0 m pc ls [.int r])) → W p l e ({ frames := 5, cells := 0, slots := 0, locals := 125 } : Room) s m args below meth c s.heap [] 0 0 Q (F0 m 0 ls []) := by
    intro Q hret
    skip
    have l43 : ∀ x1 : Int32, ∀ fc : Nat → Int32, ∀ lf : Int32, ∀ nu : Nat, ∀ x3 : Int32, ∀ x4 : Int32, fX5_ices_l43 F rs rm psize pclause peff pkin psee cnow x1 fc lf nu x3 x4 = some (r, zfc, zlf) → ∀ (H : Heap) (locs : List Loc), va_P D vwCl (wPW T ad (ad 6) (ad 12) rs rm ts tm rdue rtun rsee rbeg psize pclause peff pkin pgri psig psee qsize qclause qeff qkin qgri qsig qsee cdee cnow cahe kdee know kahe fc lf told up lo) H → va_D A (wPW T ad (ad 6) (ad 12) rs rm ts tm rdue rtun rsee rbeg psize pclause peff pkin pgri psig psee qsize qclause qeff qkin qgri qsig qsee cdee cnow cahe kdee know kahe fc lf told up lo) → va_S A s.heap H locs → ∀ (ls : Array Slot), lv_has ls 6 [(0, .ref (ad 0)), (1, .int x1), (3, .int x3), (4, .int x4)] → W p l e ({ frames := 5, cells := 0, slots := 0, locals := 125 } : Room) s m args below meth c H locs 0 0 Q (F0 m 43 ls []) := by
      intro x1 fc lf
      intro nu
      induction nu with
      | zero => intro x3 x4 h; exact none_some h
      | succ nu43 ih43 =>
        intro x3 x4 h H locs hP hD hS ls hl
        have h : fX5_ices_l43_b F rs rm psize pclause peff pkin psee cnow x1 fc lf (fX5_ices_l43 F rs rm psize pclause peff pkin psee cnow x1 fc lf nu43) x3 x4 = some (r, zfc, zlf) := h
        unfold fX5_ices_l43_b at h
        refine lv_iload hx hb dX5_ices_43 (lv_at hl 3 rfl) ?_
        refine lv_aload_n hx hb dX5_ices_45 rfl (lv_at hl 0 rfl) ?_
        refine va_get (D := D) (ci := 3) (C := RX5) (T := TX5) (N := 14) hx hb hts iX5 hown hK hP 0 wPW_0 rfl 5 (by decide) q1 (fun _ h9 => h9) rfl dX5_ices_46 ?_
        refine va_getN (host := "PartyWill") (D := D) (ci := 1) (C := RX2) (T := TX2) (N := 7) hx hb hts iX2 hown hK hP 6 wPW_6 rfl 0 (by decide) (va_Nw.use rfl (nw_X5_111 hKK.2)) (fun _ h9 => h9) rfl dX5_ices_49 ?_
        refine lv_icmp_ge (tgt := 85) hx hb dX5_ices_52 (by decide) (fun c52 => ?_) (fun c52 => ?_)
        · have h := br_1 h c52
          refine lv_iload_n hx hb dX5_ices_85 rfl (lv_at hl 2 rfl) ?_
          cases h
          exact hret _ _ _ _ hP hD hS dX5_ices_86
        · have h := br_0 h c52
          refine lv_aload_n hx hb dX5_ices_55 rfl (lv_at hl 0 rfl) ?_
          refine lv_iload hx hb dX5_ices_56 (lv_at hl 3 rfl) ?_
          refine lv_iload_n hx hb dX5_ices_58 rfl (lv_at hl 1 rfl) ?_
          obtain ⟨r59, hc, h⟩ := bd1_some h
          refine my_roi (va_Run.run (va_runV (As := [.int x4, .int x1]) (rest := []) hFix (kX5_icesNeededBy l D T F ad (ad 6) (ad 12) rs rm ts tm rdue rtun rsee rbeg psize pclause peff pkin pgri psig psee qsize qclause qeff qkin qgri qsig qsee cdee cnow cahe kdee know kahe fc lf told up lo x4 x1 r59 hc) (cwV 2 hts gX5_ices_X5_icesNeededBy rfl rfl rfl ⟨rfl, hd_X5_icesNeededBy⟩ ⟨Nat.le_of_ble_eq_true rfl, Nat.le_of_ble_eq_true rfl⟩) (preV_ro hP hKK (va_recv hK hP (ci := 3) (q0 := 0) rfl wPW_0)) rfl rfl hl.1 rfl (lv_room (Nat.le_of_ble_eq_true rfl)) dX5_ices_59 ⟨Nat.zero_le _, Nat.zero_le _⟩)) ?_
          refine lv_istore (lv' := [(5, .int r59), (0, .ref (ad 0)), (1, .int x1), (3, .int x3), (4, .int x4)]) hx hb dX5_ices_62 hl (by decide) rfl (fun ls hl => ?_)
          refine lv_iload hx hb dX5_ices_64 (lv_at hl 0 rfl) ?_
          refine lv_bipush (v := (-9 : Int32)) hx hb dX5_ices_66 (by decide) ?_
          refine lv_icmp_ne (tgt := 74) hx hb dX5_ices_68 (by decide) (fun c68 => ?_) (fun c68 => ?_)
          · have h := br_0 h c68
            refine lv_iload_n hx hb dX5_ices_74 rfl (lv_at hl 3 rfl) ?_
            refine lv_iload hx hb dX5_ices_75 (lv_at hl 0 rfl) ?_
            refine lv_iadd hx hb dX5_ices_77 ?_
            refine lv_istore_n (lv' := [(3, .int (x3 + r59)), (5, .int r59), (0, .ref (ad 0)), (1, .int x1), (4, .int x4)]) hx hb dX5_ices_78 rfl hl (by decide) rfl (fun ls hl => ?_)
            refine lv_iinc (v := (x4 + (1 : Int32))) (lv' := [(4, .int (x4 + (1 : Int32))), (3, .int (x3 + r59)), (5, .int r59), (0, .ref (ad 0)), (1, .int x1)]) hx hb dX5_ices_79 hl (k := 4) rfl rfl (by decide) rfl (fun ls hl => ?_)
            refine lv_goto (tgt := 43) hx hb dX5_ices_82 (by decide) ?_
            exact ih43 (x3 + r59) (x4 + (1 : Int32)) h _ _ hP hD hS _ (lv_sub hl [3, 4, 1, 0] rfl)
          · have h := br_1 h c68
            refine lv_bipush (v := (-9 : Int32)) hx hb dX5_ices_71 (by decide) ?_
            cases h
            exact hret _ _ _ _ hP hD hS dX5_ices_73
    unfold fX5_ices at h
    refine lv_iload_n hx hb dX5_ices_0 rfl (lv_at hl 1 rfl) ?_
    obtain ⟨r1, hc, h⟩ := bd1_some h
    refine my_roz (va_Run.run (va_runS (As := [.int x1]) (rest := []) hFix (kX5_isRow l D T F x1 r1 hc) (va_cwS 1 hts gX5_ices_X5_isRow rfl rfl rfl hd_X5_isRow ⟨Nat.le_of_ble_eq_true rfl, Nat.le_of_ble_eq_true rfl⟩) (preS_ro va_nil hKK) rfl rfl hl.1 rfl (lv_room (Nat.le_of_ble_eq_true rfl)) dX5_ices_1 ⟨Nat.zero_le _, Nat.zero_le _⟩)) (fun hb1 => ?_)
    refine lv_if_ne (tgt := 9) hx hb dX5_ices_4 (by decide) (fun c4 => ?_) (fun c4 => ?_)
    · have h := br_0 h c4
      refine lv_aload_n hx hb dX5_ices_9 rfl (lv_at hl 0 rfl) ?_
      refine va_get (D := D) (ci := 3) (C := RX5) (T := TX5) (N := 14) hx hb hts iX5 hown hK hP 0 wPW_0 rfl 5 (by decide) q1 (fun _ h9 => h9) rfl dX5_ices_10 ?_
      refine va_getN (host := "PartyWill") (D := D) (ci := 1) (C := RX2) (T := TX2) (N := 7) hx hb hts iX2 hown hK hP 6 wPW_6 rfl 0 (by decide) (va_Nw.use rfl (nw_X5_111 hKK.2)) (fun _ h9 => h9) rfl dX5_ices_13 ?_
      refine lv_if_ne (tgt := 22) hx hb dX5_ices_16 (by decide) (fun c16 => ?_) (fun c16 => ?_)
      · have h := br_0 h c16
        refine lv_aload_n hx hb dX5_ices_22 rfl (lv_at hl 0 rfl) ?_
        refine lv_iload_n hx hb dX5_ices_23 rfl (lv_at hl 1 rfl) ?_
        obtain ⟨r24, hc, h⟩ := bd1_some h
        refine my_roi (va_Run.run (va_runV (As := [.int x1]) (rest := []) hFix (kX5_programmeFinding l D T F ad (ad 6) (ad 12) rs rm ts tm rdue rtun rsee rbeg psize pclause peff pkin pgri psig psee qsize qclause qeff qkin qgri qsig qsee cdee cnow cahe kdee know kahe fc lf told up lo x1 r24 hc) (cwV 1 hts gX5_ices_X5_programmeFinding rfl rfl rfl ⟨rfl, hd_X5_programmeFinding⟩ ⟨Nat.le_of_ble_eq_true rfl, Nat.le_of_ble_eq_true rfl⟩) (preV_ro hP hKK (va_recv hK hP (ci := 3) (q0 := 0) rfl wPW_0)) rfl rfl hl.1 rfl (lv_room (Nat.le_of_ble_eq_true rfl)) dX5_ices_24 ⟨Nat.zero_le _, Nat.zero_le _⟩)) ?_
        refine lv_istore_n (lv' := [(2, .int r24), (0, .ref (ad 0)), (1, .int x1)]) hx hb dX5_ices_27 rfl hl (by decide) rfl (fun ls hl => ?_)
        refine lv_iload_n hx hb dX5_ices_28 rfl (lv_at hl 0 rfl) ?_
        refine lv_if_eq (tgt := 38) hx hb dX5_ices_29 (by decide) (fun c29 => ?_) (fun c29 => ?_)
        · have h := br_1 h c29
          refine lv_iconst (v := (0 : Int32)) hx hb dX5_ices_38 (by decide) ?_
          refine lv_istore_n (lv' := [(3, .int (0 : Int32)), (2, .int r24), (0, .ref (ad 0)), (1, .int x1)]) hx hb dX5_ices_39 rfl hl (by decide) rfl (fun ls hl => ?_)
          refine lv_iconst (v := (0 : Int32)) hx hb dX5_ices_40 (by decide) ?_
          refine lv_istore (lv' := [(4, .int (0 : Int32)), (3, .int (0 : Int32)), (2, .int r24), (0, .ref (ad 0)), (1, .int x1)]) hx hb dX5_ices_41 hl (by decide) rfl (fun ls hl => ?_)
          exact l43 x1 fc lf F (0 : Int32) (0 : Int32) h _ _ hP hD hS _ (lv_sub hl [3, 4, 1, 0] rfl)
        · have h := br_0 h c29
          refine lv_aload_n hx hb dX5_ices_32 rfl (lv_at hl 1 rfl) ?_
          refine lv_iload_n hx hb dX5_ices_33 rfl (lv_at hl 0 rfl) ?_
          obtain ⟨r34, w34_fc, w34_lf, hc, h⟩ := bd3_some h
          have hFc := my_freeS hD hS hA
          refine my_rwi (va_runV (As := [.int r24]) (rest := []) hFix (kX5_found l D T F ad (ad 6) (ad 12) rs rm ts tm rdue rtun rsee rbeg psize pclause peff pkin pgri psig psee qsize qclause qeff qkin qgri qsig qsee cdee cnow cahe kdee know kahe fc lf told up lo r24 r34 w34_fc w34_lf hc) (cwV 1 hts gX5_ices_X5_found rfl rfl rfl ⟨rfl, hd_X5_found⟩ ⟨Nat.le_of_ble_eq_true rfl, Nat.le_of_ble_eq_true rfl⟩) (preV_rw hP hKK hD (va_recv hK hP (ci := 3) (q0 := 0) rfl wPW_0)) rfl rfl hl.1 rfl (lv_room (Nat.le_of_ble_eq_true rfl)) dX5_ices_34 ⟨Nat.zero_le _, Nat.zero_le _⟩) hS hFc (fun H1 locs hP1 hD1 hz1 hk1 hS => ?_)
          have hP : va_P D vwCl (wPW T ad (ad 6) (ad 12) rs rm ts tm rdue rtun rsee rbeg psize pclause peff pkin pgri psig psee qsize qclause qeff qkin qgri qsig qsee cdee cnow cahe kdee know kahe w34_fc w34_lf told up lo) H1 := hP1
          have hD : va_D A (wPW T ad (ad 6) (ad 12) rs rm ts tm rdue rtun rsee rbeg psize pclause peff pkin pgri psig psee qsize qclause qeff qkin qgri qsig qsee cdee cnow cahe kdee know kahe w34_fc w34_lf told up lo) := hD1.weaken (fun _ q _ h => hFc q.1 h)
          generalize H1 = H at hP hS ⊢
          cases h
          exact hret _ _ _ _ hP hD hS dX5_ices_37
      · have h := br_1 h c16
        refine lv_bipush (v := (-4 : Int32)) hx hb dX5_ices_19 (by decide) ?_
        cases h
        exact hret _ _ _ _ hP hD hS dX5_ices_21
    · have h := br_1 h c4
      refine lv_iconst (v := (-1 : Int32)) hx hb dX5_ices_7 (by decide) ?_
      cases h
      exact hret _ _ _ _ hP hD hS dX5_ices_8
  exact key _ (fun H locs pc ls hP hD hS hd => W.iret hx hb hr (fun t ht hW => ⟨⟨_, (), rfl, rfl, by show _ ∧ _; rw [ht]; exact ⟨hP, hD⟩⟩, hS.F ht⟩) hS.2.2 hd)
set_option maxHeartbeats 4000000 in
set_option maxRecDepth 100000 in
theorem kX5_aunt (l : Launch) (D : va_G) (T : Nat → ClassId) (F : Nat) (ad : Nat → Nat) (rs : Nat → Int32) (rm : Nat → Nat → Int32) (ts : Nat → Int32) (tm : Nat → Nat → Int32) (rdue : Int32) (rtun : Int32) (rsee : Int32) (rbeg : Int32) (psize : Int32) (pclause : Int32) (peff : Nat → Int32) (pkin : Nat → Int32) (pgri : Nat → Int32) (psig : Nat → Int32) (psee : Nat → Int32) (qsize : Int32) (qclause : Int32) (qeff : Nat → Int32) (qkin : Nat → Int32) (qgri : Nat → Int32) (qsig : Nat → Int32) (qsee : Nat → Int32) (cdee : Int32) (cnow : Int64) (cahe : Nat → Int64) (kdee : Nat → Int32) (know : Nat → Int64) (kahe : Nat → Nat → Int64) (fc : Nat → Int32) (lf : Int32) (told : Int32) (up : Int64) (lo : Int64) (x1 : Int32) (r : Int32) (h : fX5_aunt F psize pclause peff pkin psee cnow x1 = some (r)) : Met l yX5_aunt wsX5_aunt ({ frames := 31, cells := 0, slots := 0, locals := 925 } : Room) (va_Pc [.ref (ad 0), .int x1] (fun U => va_P D vwCl (wPW T ad (ad 6) (ad 12) rs rm ts tm rdue rtun rsee rbeg psize pclause peff pkin pgri psig psee qsize qclause qeff qkin qgri qsig qsee cdee cnow cahe kdee know kahe fc lf told up lo) U.heap ∧ KK D T U)) (vp_Si (fun r' => r' = r)) 0 0 (fun _ => False) := by
  refine Met.ofW (cc := cX5_aunt) (maxL := 2) (ret := some .int) (by decide) rfl ?_
  intro p e s m args below meth c s₁ B hml hv
  obtain ⟨ha, hP, hKK⟩ := hv
  have hx := B.exec
  have hb := B.bytes
  have hr := B.returns
  have hts := atoms_spec (ws := wsX5_aunt) B.pre
  have hown : s.vm.findClass RX5 = some m.cls := findClass_of_methodNamed B.named
  have hlocks := B.notSynchronized
  have hK := hKK.1
  have hFix : CallFix p m c cX5_aunt 2 s args wsX5_aunt RX5 := ⟨hx, hb, hml, hown, hts⟩
  have q1 := hts _ (List.mem_of_getElem? (i := 1) (show wsX5_aunt[1]? = some (Cond.fieldLink RX5 36 "PartyWill" "party" "LPartyWill$Party;") from rfl))
  have q2 := hts _ (List.mem_of_getElem? (i := 2) (show wsX5_aunt[2]? = some (Cond.fieldLink RX5 46 "PartyWill" "course" "LPartyWill$Course;") from rfl))
  have q3 := hts _ (List.mem_of_getElem? (i := 3) (show wsX5_aunt[3]? = some (Cond.static yX1_howManyIn) from rfl))
  have q4 := hts _ (List.mem_of_getElem? (i := 4) (show wsX5_aunt[4]? = some (Cond.initialized RX1) from rfl))
  have q16 := hts _ (List.mem_of_getElem? (i := 16) (show wsX5_aunt[16]? = some (Cond.static yX3_leftAtBandsTurn) from rfl))
  have q17 := hts _ (List.mem_of_getElem? (i := 17) (show wsX5_aunt[17]? = some (Cond.initialized RX3) from rfl))
  have iX0 : ∀ w ∈ u_ws RX0 TX0 3, w ∈ wsX5_aunt := fun w h => List.mem_cons_of_mem _ (List.mem_append_right _ (h))
  have iX2 : ∀ w ∈ u_ws RX2 TX2 7, w ∈ wsX5_aunt := fun w h => List.mem_cons_of_mem _ (List.mem_append_left _ (List.mem_append_right _ (h)))
  have iX5 : ∀ w ∈ u_ws RX5 TX5 14, w ∈ wsX5_aunt := fun w h => List.mem_cons_of_mem _ (List.mem_append_left _ (List.mem_append_left _ (List.mem_append_right _ (h))))
  obtain ⟨ls, hl, e0⟩ := my_entry (m := m) (n := 2) ha (Nat.le_of_ble_eq_true rfl)
  rw [e0]
  have hl : lv_has ls 2 [(0, .ref (ad 0)), (1, .int x1)] := hl
  have key : ∀ Q : State → Prop, (∀ (pc : Nat) (ls : Array Slot), decode cX5_aunt pc = .ok (.ireturn, 1) → W p l e ({ frames := 31, cells := 0, slots := 0, locals := 925 } : Room) s m args below meth c s.heap [] 0 0 Q (F0 m pc ls [.int r])) → W p l e ({ frames := 31, cells := 0, slots := 0, locals := 925 } : Room) s m args below meth c s.heap [] 0 0 Q (F0 m 0 ls []) := by
    intro Q hret
    unfold fX5_aunt at h
    refine lv_iload_n hx hb dX5_aunt_0 rfl (lv_at hl 1 rfl) ?_
    refine lv_if_lt (tgt := 9) hx hb dX5_aunt_1 (by decide) (fun c1 => ?_) (fun c1 => ?_)
    · have h := br_1 h c1
      refine lv_iconst (v := (-1 : Int32)) hx hb dX5_aunt_9 (by decide) ?_
      cases h
      exact hret _ _ dX5_aunt_10
    · have h := br_0 h c1
      refine lv_iload_n hx hb dX5_aunt_4 rfl (lv_at hl 1 rfl) ?_
      refine lv_iconst (v := (3 : Int32)) hx hb dX5_aunt_5 (by decide) ?_
      refine lv_icmp_le (tgt := 11) hx hb dX5_aunt_6 (by decide) (fun c6 => ?_) (fun c6 => ?_)
      · have h := br_1 h c6
        refine lv_aload_n hx hb dX5_aunt_11 rfl (lv_at hl 0 rfl) ?_
        refine va_get (D := D) (ci := 3) (C := RX5) (T := TX5) (N := 14) hx hb hts iX5 hown hK hP 0 wPW_0 rfl 5 (by decide) q1 (fun _ h9 => h9) rfl dX5_aunt_12 ?_
        refine va_getN (host := "PartyWill") (D := D) (ci := 1) (C := RX2) (T := TX2) (N := 7) hx hb hts iX2 hown hK hP 6 wPW_6 rfl 0 (by decide) (va_Nw.use rfl (nw_X5_111 hKK.2)) (fun _ h9 => h9) rfl dX5_aunt_15 ?_
        refine lv_if_ne (tgt := 24) hx hb dX5_aunt_18 (by decide) (fun c18 => ?_) (fun c18 => ?_)
        · have h := br_0 h c18
          refine lv_aload_n hx hb dX5_aunt_24 rfl (lv_at hl 0 rfl) ?_
          refine va_get (D := D) (ci := 3) (C := RX5) (T := TX5) (N := 14) hx hb hts iX5 hown hK hP 0 wPW_0 rfl 7 (by decide) q2 (fun _ h9 => h9) rfl dX5_aunt_25 ?_
          refine va_getN (host := "PartyWill") (D := D) (ci := 0) (C := RX0) (T := TX0) (N := 3) hx hb hts iX0 hown hK hP 18 wPW_18 rfl 1 (by decide) (va_Nw.use rfl (nw_X5_127 hKK.2)) (fun _ h9 => h9) rfl dX5_aunt_28 ?_
          obtain ⟨r31, hc, h⟩ := bd1_some h
          refine my_roi (va_Run.run (va_runSN (host := "PartyWill") (As := [.long cnow]) (rest := []) hFix (kX1_howManyIn l D T F cnow r31 hc) ⟨va_cnB 1 hts gX5_aunt_X1_howManyIn_n207 rfl rfl rfl (nw_X5_207 hKK.2) q4 hd_X1_howManyIn ⟨Nat.le_of_ble_eq_true rfl, Nat.le_of_ble_eq_true rfl⟩, q3, trivial⟩ (preS_ro va_nil hKK) rfl rfl hl.1 rfl (lv_room (Nat.le_of_ble_eq_true rfl)) dX5_aunt_31 ⟨Nat.zero_le _, Nat.zero_le _⟩)) ?_
          refine lv_aload_n hx hb dX5_aunt_34 rfl (lv_at hl 0 rfl) ?_
          refine va_get (D := D) (ci := 3) (C := RX5) (T := TX5) (N := 14) hx hb hts iX5 hown hK hP 0 wPW_0 rfl 5 (by decide) q1 (fun _ h9 => h9) rfl dX5_aunt_35 ?_
          refine lv_aload_n hx hb dX5_aunt_38 rfl (lv_at hl 0 rfl) ?_
          refine va_get (D := D) (ci := 3) (C := RX5) (T := TX5) (N := 14) hx hb hts iX5 hown hK hP 0 wPW_0 rfl 7 (by decide) q2 (fun _ h9 => h9) rfl dX5_aunt_39 ?_
          refine va_getN (host := "PartyWill") (D := D) (ci := 0) (C := RX0) (T := TX0) (N := 3) hx hb hts iX0 hown hK hP 18 wPW_18 rfl 1 (by decide) (va_Nw.use rfl (nw_X5_127 hKK.2)) (fun _ h9 => h9) rfl dX5_aunt_42 ?_
          refine lv_iload_n hx hb dX5_aunt_45 rfl (lv_at hl 1 rfl) ?_
          obtain ⟨r46, hc, h⟩ := bd1_some h
          have hPc : va_P D vwCl (wPa T (ad 6) (ad 7) (ad 8) (ad 9) (ad 10) (ad 11) psize pclause peff pkin pgri psig psee) s.heap := my_subP sb_wPW_wPa_6to11 hP
          refine my_roi (va_Run.run (va_runSN (host := "PartyWill") (As := [.ref (ad 6), .long cnow, .int x1]) (rest := [.int r31]) hFix (kX3_leftAtBandsTurn l D T F 8 (ad 6) (ad 7) (ad 8) (ad 9) (ad 10) (ad 11) psize pclause peff pkin pgri psig psee cnow x1 r46 hc) ⟨va_cnB 3 hts gX5_aunt_X3_leftAtBandsTurn_n229 rfl rfl rfl (nw_X5_229 hKK.2) q17 hd_X3_leftAtBandsTurn ⟨Nat.le_of_ble_eq_true rfl, Nat.le_of_ble_eq_true rfl⟩, q16, trivial⟩ (preS_ro hPc hKK) rfl rfl hl.1 rfl (lv_room (Nat.le_of_ble_eq_true rfl)) dX5_aunt_46 ⟨Nat.zero_le _, Nat.zero_le _⟩)) ?_
          refine lv_isub hx hb dX5_aunt_49 ?_
          cases h
          exact hret _ _ dX5_aunt_50
        · have h := br_1 h c18
          refine lv_bipush (v := (-4 : Int32)) hx hb dX5_aunt_21 (by decide) ?_
          cases h
          exact hret _ _ dX5_aunt_23
      · have h := br_0 h c6
        refine lv_iconst (v := (-1 : Int32)) hx hb dX5_aunt_9 (by decide) ?_
        cases h
        exact hret _ _ dX5_aunt_10
  exact key _ (fun pc ls hd => W.iret hx hb hr (fun t ht hW => ⟨_, rfl, rfl, ht⟩) (fun q h => by cases h) hd)
set_option maxHeartbeats 4000000 in
set_option maxRecDepth 100000 in
theorem kX5_isGrief (l : Launch) (D : va_G) (T : Nat → ClassId) (F : Nat) (x0 : Int32) (r : Int32) (h : fX5_isGrief F x0 = some (r)) : Met l yX5_isGrief wsX5_isGrief ({ frames := 0, cells := 0, slots := 0, locals := 0 } : Room) (va_Pc [.int x0] (fun U => va_P D vwCl ([] : va_W) U.heap ∧ KK D T U)) (vp_Si (fun r' => r' = r ∧ b01 r)) 0 0 (fun _ => False) := by
  refine Met.ofW (cc := cX5_isGrief) (maxL := 1) (ret := some .boolean) (by decide) rfl ?_
  intro p e s m args below meth c s₁ B hml hv
  obtain ⟨ha, hP, hKK⟩ := hv
  have hx := B.exec
  have hb := B.bytes
  have hr := B.returns
  have hts := atoms_spec (ws := wsX5_isGrief) B.pre
  have hown : s.vm.findClass RX5 = some m.cls := findClass_of_methodNamed B.named
  have hlocks := B.notSynchronized
  have hK := hKK.1
  have hFix : CallFix p m c cX5_isGrief 1 s args wsX5_isGrief RX5 := ⟨hx, hb, hml, hown, hts⟩
  obtain ⟨ls, hl, e0⟩ := my_entry (m := m) (n := 1) ha (Nat.le_of_ble_eq_true rfl)
  rw [e0]
  have hl : lv_has ls 1 [(0, .int x0)] := hl
  have key : ∀ Q : State → Prop, (∀ (pc : Nat) (ls : Array Slot), decode cX5_isGrief pc = .ok (.ireturn, 1) → b01 r → W p l e ({ frames := 0, cells := 0, slots := 0, locals := 0 } : Room) s m args below meth c s.heap [] 0 0 Q (F0 m pc ls [.int r])) → W p l e ({ frames := 0, cells := 0, slots := 0, locals := 0 } : Room) s m args below meth c s.heap [] 0 0 Q (F0 m 0 ls []) := by
    intro Q hret
    unfold fX5_isGrief at h
    refine lv_iload_n hx hb dX5_isGrief_0 rfl (lv_at hl 0 rfl) ?_
    refine lv_if_lt (tgt := 14) hx hb dX5_isGrief_1 (by decide) (fun c1 => ?_) (fun c1 => ?_)
    · have h := br_1 h c1
      refine lv_iconst (v := (0 : Int32)) hx hb dX5_isGrief_14 (by decide) ?_
      cases h
      exact hret _ _ dX5_isGrief_15 (Or.inl rfl)
    · have h := br_0 h c1
      refine lv_iload_n hx hb dX5_isGrief_4 rfl (lv_at hl 0 rfl) ?_
      refine lv_bipush (v := (20 : Int32)) hx hb dX5_isGrief_5 (by decide) ?_
      refine lv_icmp_gt (tgt := 14) hx hb dX5_isGrief_7 (by decide) (fun c7 => ?_) (fun c7 => ?_)
      · have h := br_1 h c7
        refine lv_iconst (v := (0 : Int32)) hx hb dX5_isGrief_14 (by decide) ?_
        cases h
        exact hret _ _ dX5_isGrief_15 (Or.inl rfl)
      · have h := br_0 h c7
        refine lv_iconst (v := (1 : Int32)) hx hb dX5_isGrief_10 (by decide) ?_
        refine lv_goto (tgt := 15) hx hb dX5_isGrief_11 (by decide) ?_
        cases h
        exact hret _ _ dX5_isGrief_15 (Or.inr rfl)
  exact key _ (fun pc ls hd hb1 => W.zret hx hb hr (b01_n hb1) (fun t ht hW => ⟨_, rfl, ⟨rfl, hb1⟩, ht⟩) (fun q h => by cases h) hd)
set_option maxHeartbeats 4000000 in
set_option maxRecDepth 100000 in
theorem kX5_eveningFinding (l : Launch) (D : va_G) (T : Nat → ClassId) (F : Nat) (ad : Nat → Nat) (rs : Nat → Int32) (rm : Nat → Nat → Int32) (ts : Nat → Int32) (tm : Nat → Nat → Int32) (rdue : Int32) (rtun : Int32) (rsee : Int32) (rbeg : Int32) (psize : Int32) (pclause : Int32) (peff : Nat → Int32) (pkin : Nat → Int32) (pgri : Nat → Int32) (psig : Nat → Int32) (psee : Nat → Int32) (qsize : Int32) (qclause : Int32) (qeff : Nat → Int32) (qkin : Nat → Int32) (qgri : Nat → Int32) (qsig : Nat → Int32) (qsee : Nat → Int32) (cdee : Int32) (cnow : Int64) (cahe : Nat → Int64) (kdee : Nat → Int32) (know : Nat → Int64) (kahe : Nat → Nat → Int64) (fc : Nat → Int32) (lf : Int32) (told : Int32) (up : Int64) (lo : Int64) (x1 : Int32) (r : Int32) (h : fX5_eveningFinding F rs rm x1 = some (r)) : Met l yX5_eveningFinding wsX5_eveningFinding ({ frames := 1, cells := 0, slots := 0, locals := 20 } : Room) (va_Pc [.ref (ad 0), .int x1] (fun U => va_P D vwCl (wPW T ad (ad 6) (ad 12) rs rm ts tm rdue rtun rsee rbeg psize pclause peff pkin pgri psig psee qsize qclause qeff qkin qgri qsig qsee cdee cnow cahe kdee know kahe fc lf told up lo) U.heap ∧ KK D T U)) (vp_Si (fun r' => r' = r)) 0 0 (fun _ => False) := by
  refine Met.ofW (cc := cX5_eveningFinding) (maxL := 4) (ret := some .int) (by decide) rfl ?_
  intro p e s m args below meth c s₁ B hml hv
  obtain ⟨ha, hP, hKK⟩ := hv
  have hx := B.exec
  have hb := B.bytes
  have hr := B.returns
  have hts := atoms_spec (ws := wsX5_eveningFinding) B.pre
  have hown : s.vm.findClass RX5 = some m.cls := findClass_of_methodNamed B.named
  have hlocks := B.notSynchronized
  have hK := hKK.1
  have hFix : CallFix p m c cX5_eveningFinding 4 s args wsX5_eveningFinding RX5 := ⟨hx, hb, hml, hown, hts⟩
  have q1 := hts _ (List.mem_of_getElem? (i := 1) (show wsX5_eveningFinding[1]? = some (Cond.fieldLink RX5 14 "PartyWill" "rowSizes" "[I") from rfl))
  have q2 := hts _ (List.mem_of_getElem? (i := 2) (show wsX5_eveningFinding[2]? = some (Cond.fieldLink RX5 11 "PartyWill" "rows" "[[I") from rfl))
  have iX5 : ∀ w ∈ u_ws RX5 TX5 14, w ∈ wsX5_eveningFinding := fun w h => List.mem_cons_of_mem _ (List.mem_append_right _ (h))
  obtain ⟨ls, hl, e0⟩ := my_entry (m := m) (n := 4) ha (Nat.le_of_ble_eq_true rfl)
  rw [e0]
  have hl : lv_has ls 4 [(0, .ref (ad 0)), (1, .int x1)] := hl
  have key : ∀ Q : State → Prop, (∀ (pc : Nat) (ls : Array Slot), decode cX5_eveningFinding pc = .ok (.ireturn, 1) → W p l e ({ frames := 1, cells := 0, slots := 0, locals := 20 } : Room) s m args below meth c s.heap [] 0 0 Q (F0 m pc ls [.int r])) → W p l e ({ frames := 1, cells := 0, slots := 0, locals := 20 } : Room) s m args below meth c s.heap [] 0 0 Q (F0 m 0 ls []) := by
    intro Q hret
    have l30 : ∀ x1 : Int32, ∀ x2 : Int32, ∀ nu : Nat, ∀ x3 : Int32, fX5_eveningFinding_l30 F rs rm x1 x2 nu x3 = some (r) → ∀ (ls : Array Slot), lv_has ls 4 [(0, .ref (ad 0)), (1, .int x1), (2, .int x2), (3, .int x3)] → W p l e ({ frames := 1, cells := 0, slots := 0, locals := 20 } : Room) s m args below meth c s.heap [] 0 0 Q (F0 m 30 ls []) := by
      intro x1 x2
      intro nu
      induction nu with
      | zero => intro x3 h; exact none_some h
      | succ nu30 ih30 =>
        intro x3 h ls hl
        have h : fX5_eveningFinding_l30_b F rs rm x1 x2 (fX5_eveningFinding_l30 F rs rm x1 x2 nu30) x3 = some (r) := h
        unfold fX5_eveningFinding_l30_b at h
        refine lv_iload_n hx hb dX5_eveningFinding_30 rfl (lv_at hl 3 rfl) ?_
        refine lv_iconst (v := (1 : Int32)) hx hb dX5_eveningFinding_31 (by decide) ?_
        refine lv_iadd hx hb dX5_eveningFinding_32 ?_
        refine lv_iload_n hx hb dX5_eveningFinding_33 rfl (lv_at hl 2 rfl) ?_
        refine lv_icmp_ge (tgt := 75) hx hb dX5_eveningFinding_34 (by decide) (fun c34 => ?_) (fun c34 => ?_)
        · have h := br_1 h c34
          refine lv_iconst (v := (0 : Int32)) hx hb dX5_eveningFinding_75 (by decide) ?_
          cases h
          exact hret _ _ dX5_eveningFinding_76
        · have h := br_0 h c34
          refine lv_aload_n hx hb dX5_eveningFinding_37 rfl (lv_at hl 0 rfl) ?_
          refine va_get (D := D) (ci := 3) (C := RX5) (T := TX5) (N := 14) hx hb hts iX5 hown hK hP 0 wPW_0 rfl 0 (by decide) q2 (fun _ h9 => h9) rfl dX5_eveningFinding_38 ?_
          refine lv_iload_n hx hb dX5_eveningFinding_41 rfl (lv_at hl 1 rfl) ?_
          obtain ⟨hin2, h⟩ := ck_some h
          have hk1 : x1.toNatClampNeg < 6 := vp_lt hin2
          refine my_ald (b := (ad (28 + x1.toNatClampNeg))) rfl hx hb hK hP 1 4 wPW_1 rfl hin2 (fun _ => if_pos hk1) dX5_eveningFinding_42 ?_
          refine lv_iload_n hx hb dX5_eveningFinding_43 rfl (lv_at hl 3 rfl) ?_
          obtain ⟨hin3, h⟩ := ck_some h
          refine va_iald hx hb hK hP (28 + x1.toNatClampNeg) 0 (wPW_f_rows0 hk1) rfl hin3 dX5_eveningFinding_44 ?_
          obtain ⟨r45, hc, h⟩ := bd1_some h
          refine my_roz (va_Run.run (va_runS (As := [.int ((rm x1.toNatClampNeg) x3.toNatClampNeg)]) (rest := []) hFix (kX5_isTune l D T F ((rm x1.toNatClampNeg) x3.toNatClampNeg) r45 hc) (va_cwS 1 hts gX5_eveningFinding_X5_isTune rfl rfl rfl hd_X5_isTune ⟨Nat.le_of_ble_eq_true rfl, Nat.le_of_ble_eq_true rfl⟩) (preS_ro va_nil hKK) rfl rfl hl.1 rfl (lv_room (Nat.le_of_ble_eq_true rfl)) dX5_eveningFinding_45 ⟨Nat.zero_le _, Nat.zero_le _⟩)) (fun hb45 => ?_)
          refine lv_if_eq (tgt := 67) hx hb dX5_eveningFinding_48 (by decide) (fun c48 => ?_) (fun c48 => ?_)
          · have h := br_1 h c48
            refine lv_iconst (v := (3 : Int32)) hx hb dX5_eveningFinding_67 (by decide) ?_
            cases h
            exact hret _ _ dX5_eveningFinding_68
          · have h := br_0 h c48
            refine lv_aload_n hx hb dX5_eveningFinding_51 rfl (lv_at hl 0 rfl) ?_
            refine va_get (D := D) (ci := 3) (C := RX5) (T := TX5) (N := 14) hx hb hts iX5 hown hK hP 0 wPW_0 rfl 0 (by decide) q2 (fun _ h9 => h9) rfl dX5_eveningFinding_52 ?_
            refine lv_iload_n hx hb dX5_eveningFinding_55 rfl (lv_at hl 1 rfl) ?_
            obtain ⟨hin5, h⟩ := ck_some h
            have hk4 : x1.toNatClampNeg < 6 := vp_lt hin5
            refine my_ald (b := (ad (28 + x1.toNatClampNeg))) rfl hx hb hK hP 1 4 wPW_1 rfl hin5 (fun _ => if_pos hk4) dX5_eveningFinding_56 ?_
            refine lv_iload_n hx hb dX5_eveningFinding_57 rfl (lv_at hl 3 rfl) ?_
            refine lv_iconst (v := (1 : Int32)) hx hb dX5_eveningFinding_58 (by decide) ?_
            refine lv_iadd hx hb dX5_eveningFinding_59 ?_
            obtain ⟨hin6, h⟩ := ck_some h
            refine va_iald hx hb hK hP (28 + x1.toNatClampNeg) 0 (wPW_f_rows0 hk4) rfl hin6 dX5_eveningFinding_60 ?_
            obtain ⟨r61, hc, h⟩ := bd1_some h
            refine my_roz (va_Run.run (va_runS (As := [.int ((rm x1.toNatClampNeg) (x3 + (1 : Int32)).toNatClampNeg)]) (rest := []) hFix (kX5_isGrief l D T F ((rm x1.toNatClampNeg) (x3 + (1 : Int32)).toNatClampNeg) r61 hc) (va_cwS 1 hts gX5_eveningFinding_X5_isGrief rfl rfl rfl hd_X5_isGrief ⟨Nat.le_of_ble_eq_true rfl, Nat.le_of_ble_eq_true rfl⟩) (preS_ro va_nil hKK) rfl rfl hl.1 rfl (lv_room (Nat.le_of_ble_eq_true rfl)) dX5_eveningFinding_61 ⟨Nat.zero_le _, Nat.zero_le _⟩)) (fun hb61 => ?_)
            refine lv_if_ne (tgt := 69) hx hb dX5_eveningFinding_64 (by decide) (fun c64 => ?_) (fun c64 => ?_)
            · have h := br_0 h c64
              refine lv_iinc (v := (x3 + (2 : Int32))) (lv' := [(3, .int (x3 + (2 : Int32))), (0, .ref (ad 0)), (1, .int x1), (2, .int x2)]) hx hb dX5_eveningFinding_69 hl (k := 3) rfl rfl (by decide) rfl (fun ls hl => ?_)
              refine lv_goto (tgt := 30) hx hb dX5_eveningFinding_72 (by decide) ?_
              exact ih30 (x3 + (2 : Int32)) h _ (lv_sub hl [1, 2, 3, 0] rfl)
            · have h := br_1 h c64
              refine lv_iconst (v := (3 : Int32)) hx hb dX5_eveningFinding_67 (by decide) ?_
              cases h
              exact hret _ _ dX5_eveningFinding_68
    unfold fX5_eveningFinding at h
    refine lv_aload_n hx hb dX5_eveningFinding_0 rfl (lv_at hl 0 rfl) ?_
    refine va_get (D := D) (ci := 3) (C := RX5) (T := TX5) (N := 14) hx hb hts iX5 hown hK hP 0 wPW_0 rfl 1 (by decide) q1 (fun _ h9 => h9) rfl dX5_eveningFinding_1 ?_
    refine lv_iload_n hx hb dX5_eveningFinding_4 rfl (lv_at hl 1 rfl) ?_
    obtain ⟨hin7, h⟩ := ck_some h
    refine va_iald hx hb hK hP 2 0 wPW_2 rfl hin7 dX5_eveningFinding_5 ?_
    refine lv_istore_n (lv' := [(2, .int (rs x1.toNatClampNeg)), (0, .ref (ad 0)), (1, .int x1)]) hx hb dX5_eveningFinding_6 rfl hl (by decide) rfl (fun ls hl => ?_)
    refine lv_iload_n hx hb dX5_eveningFinding_7 rfl (lv_at hl 0 rfl) ?_
    refine lv_iconst (v := (-1 : Int32)) hx hb dX5_eveningFinding_8 (by decide) ?_
    refine lv_icmp_ne (tgt := 14) hx hb dX5_eveningFinding_9 (by decide) (fun c9 => ?_) (fun c9 => ?_)
    · have h := br_0 h c9
      refine lv_iload_n hx hb dX5_eveningFinding_14 rfl (lv_at hl 0 rfl) ?_
      refine lv_iconst (v := (2 : Int32)) hx hb dX5_eveningFinding_15 (by decide) ?_
      refine lv_irem hx hb dX5_eveningFinding_16 (by decide) ?_
      refine lv_if_ne (tgt := 26) hx hb dX5_eveningFinding_17 (by decide) (fun c17 => ?_) (fun c17 => ?_)
      · have h := br_0 h c17
        refine lv_iconst (v := (5 : Int32)) hx hb dX5_eveningFinding_26 (by decide) ?_
        cases h
        exact hret _ _ dX5_eveningFinding_27
      · have h := br_1 h c17
        refine lv_iload_n hx hb dX5_eveningFinding_20 rfl (lv_at hl 0 rfl) ?_
        refine lv_bipush (v := (16 : Int32)) hx hb dX5_eveningFinding_21 (by decide) ?_
        refine lv_icmp_le (tgt := 28) hx hb dX5_eveningFinding_23 (by decide) (fun c23 => ?_) (fun c23 => ?_)
        · have h := br_1 h c23
          refine lv_iconst (v := (0 : Int32)) hx hb dX5_eveningFinding_28 (by decide) ?_
          refine lv_istore_n (lv' := [(3, .int (0 : Int32)), (2, .int (rs x1.toNatClampNeg)), (0, .ref (ad 0)), (1, .int x1)]) hx hb dX5_eveningFinding_29 rfl hl (by decide) rfl (fun ls hl => ?_)
          exact l30 x1 (rs x1.toNatClampNeg) F (0 : Int32) h _ (lv_sub hl [2, 3, 1, 0] rfl)
        · have h := br_0 h c23
          refine lv_iconst (v := (5 : Int32)) hx hb dX5_eveningFinding_26 (by decide) ?_
          cases h
          exact hret _ _ dX5_eveningFinding_27
    · have h := br_1 h c9
      refine lv_iconst (v := (1 : Int32)) hx hb dX5_eveningFinding_12 (by decide) ?_
      cases h
      exact hret _ _ dX5_eveningFinding_13
  exact key _ (fun pc ls hd => W.iret hx hb hr (fun t ht hW => ⟨_, rfl, rfl, ht⟩) (fun q h => by cases h) hd)
set_option maxHeartbeats 4000000 in
set_option maxRecDepth 100000 in
theorem kX5_eveningRefusal (l : Launch) (D : va_G) (T : Nat → ClassId) (F : Nat) (ad : Nat → Nat) (rs : Nat → Int32) (rm : Nat → Nat → Int32) (ts : Nat → Int32) (tm : Nat → Nat → Int32) (rdue : Int32) (rtun : Int32) (rsee : Int32) (rbeg : Int32) (psize : Int32) (pclause : Int32) (peff : Nat → Int32) (pkin : Nat → Int32) (pgri : Nat → Int32) (psig : Nat → Int32) (psee : Nat → Int32) (qsize : Int32) (qclause : Int32) (qeff : Nat → Int32) (qkin : Nat → Int32) (qgri : Nat → Int32) (qsig : Nat → Int32) (qsee : Nat → Int32) (cdee : Int32) (cnow : Int64) (cahe : Nat → Int64) (kdee : Nat → Int32) (know : Nat → Int64) (kahe : Nat → Nat → Int64) (fc : Nat → Int32) (lf : Int32) (told : Int32) (up : Int64) (lo : Int64) (x1 : Int32) (x2 : Int32) (r : Int32) (zfc : Nat → Int32) (zlf : Int32) (h : fX5_eveningRefusal F rs rm psize cnow fc lf x1 x2 = some (r, zfc, zlf)) : ∀ sz : Nat, Met l yX5_eveningRefusal wsX5_eveningRefusal ({ frames := 2, cells := 0, slots := 0, locals := 43 } : Room) (va_Pc [.ref (ad 0), .int x1, .int x2] (fun U => U.heap.size = sz ∧ va_P D vwCl (wPW T ad (ad 6) (ad 12) rs rm ts tm rdue rtun rsee rbeg psize pclause peff pkin pgri psig psee qsize qclause qeff qkin qgri qsig qsee cdee cnow cahe kdee know kahe fc lf told up lo) U.heap ∧ KK D T U ∧ va_D (fun _ => True) (wPW T ad (ad 6) (ad 12) rs rm ts tm rdue rtun rsee rbeg psize pclause peff pkin pgri psig psee qsize qclause qeff qkin qgri qsig qsee cdee cnow cahe kdee know kahe fc lf told up lo))) (va_Qi (fun r' (_ : Unit) => r' = r) (fun _ t => va_P D vwCl (wPW T ad (ad 6) (ad 12) rs rm ts tm rdue rtun rsee rbeg psize pclause peff pkin pgri psig psee qsize qclause qeff qkin qgri qsig qsee cdee cnow cahe kdee know kahe zfc zlf told up lo) t.heap ∧ va_D (va_A (wPW T ad (ad 6) (ad 12) rs rm ts tm rdue rtun rsee rbeg psize pclause peff pkin pgri psig psee qsize qclause qeff qkin qgri qsig qsee cdee cnow cahe kdee know kahe fc lf told up lo) sz) (wPW T ad (ad 6) (ad 12) rs rm ts tm rdue rtun rsee rbeg psize pclause peff pkin pgri psig psee qsize qclause qeff qkin qgri qsig qsee cdee cnow cahe kdee know kahe zfc zlf told up lo)) (va_A (wPW T ad (ad 6) (ad 12) rs rm ts tm rdue rtun rsee rbeg psize pclause peff pkin pgri psig psee qsize qclause qeff qkin qgri qsig qsee cdee cnow cahe kdee know kahe fc lf told up lo) sz)) 0 0 (va_A (wPW T ad (ad 6) (ad 12) rs rm ts tm rdue rtun rsee rbeg psize pclause peff pkin pgri psig psee qsize qclause qeff qkin qgri qsig qsee cdee cnow cahe kdee know kahe fc lf told up lo) sz) := by
  intro sz
  refine Met.ofW (cc := cX5_eveningRefusal) (maxL := 4) (ret := some .int) (by decide) rfl ?_
  intro p e s m args below meth c s₁ B hml hv
  obtain ⟨ha, hsz, hP, hKK, hD0⟩ := hv
  have hx := B.exec
  have hb := B.bytes
  have hr := B.returns
  have hts := atoms_spec (ws := wsX5_eveningRefusal) B.pre
  have hown : s.vm.findClass RX5 = some m.cls := findClass_of_methodNamed B.named
  have hlocks := B.notSynchronized
  have hK := hKK.1
  have hFix : CallFix p m c cX5_eveningRefusal 4 s args wsX5_eveningRefusal RX5 := ⟨hx, hb, hml, hown, hts⟩
  have q1 := hts _ (List.mem_of_getElem? (i := 1) (show wsX5_eveningRefusal[1]? = some (Cond.fieldLink RX5 46 "PartyWill" "course" "LPartyWill$Course;") from rfl))
  have q11 := hts _ (List.mem_of_getElem? (i := 11) (show wsX5_eveningRefusal[11]? = some (Cond.static yX1_isIn) from rfl))
  have q12 := hts _ (List.mem_of_getElem? (i := 12) (show wsX5_eveningRefusal[12]? = some (Cond.initialized RX1) from rfl))
  have iX0 : ∀ w ∈ u_ws RX0 TX0 3, w ∈ wsX5_eveningRefusal := fun w h => List.mem_cons_of_mem _ (List.mem_append_left _ (List.mem_append_right _ (h)))
  have iX5 : ∀ w ∈ u_ws RX5 TX5 14, w ∈ wsX5_eveningRefusal := fun w h => List.mem_cons_of_mem _ (List.mem_append_left _ (List.mem_append_left _ (List.mem_append_right _ (h))))
  subst hsz
  have hD := hD0.self (sz := s.heap.size)
  generalize hAe : va_A (wPW T ad (ad 6) (ad 12) rs rm ts tm rdue rtun rsee rbeg psize pclause peff pkin pgri psig psee qsize qclause qeff qkin qgri qsig qsee cdee cnow cahe kdee know kahe fc lf told up lo) s.heap.size = A at hD ⊢
  have hA : ∀ q : Nat, s.heap.size ≤ q → A q := fun q h => by rw [← hAe]; exact Or.inr h
  have hS : va_S A s.heap s.heap [] := va_S.rf
  have hP : va_P D vwCl (wPW T ad (ad 6) (ad 12) rs rm ts tm rdue rtun rsee rbeg psize pclause peff pkin pgri psig psee qsize qclause qeff qkin qgri qsig qsee cdee cnow cahe kdee know kahe fc lf told up lo) s.heap := hP
  obtain ⟨ls, hl, e0⟩ := my_entry (m := m) (n := 4) ha (Nat.le_of_ble_eq_true rfl)
  rw [e0]
  have hl : lv_has ls 4 [(0, .ref (ad 0)), (1, .int x1), (2, .int x2)] := hl
  have key : ∀ Q : State → Prop, (∀ (H : Heap) (locs : List Loc) (pc : Nat) (ls : Array Slot), va_P D vwCl (wPW T ad (ad 6) (ad 12) rs rm ts tm rdue rtun rsee rbeg psize pclause peff pkin pgri psig psee qsize qclause qeff qkin qgri qsig qsee cdee cnow cahe kdee know kahe zfc zlf told up lo) H → va_D A (wPW T ad (ad 6) (ad 12) rs rm ts tm rdue rtun rsee rbeg psize pclause peff pkin pgri psig psee qsize qclause qeff qkin qgri qsig qsee cdee cnow cahe kdee know kahe zfc zlf told up lo) → va_S A s.heap H locs → decode cX5_eveningRefusal pc = .ok (.ireturn, 1) → W p l e ({ frames := 2, cells := 0, slots := 0, locals := 43 } : Room) s m args below meth c H locs 0 0 Q (F0 m pc ls [.int r])) → W p l e ({ frames := 2, cells := 0, slots := 0, locals := 43 } : Room) s m args below meth c s.heap [] 0 0 Q (F0 m 0 ls []) := by
    intro Q hret
    skip
    unfold fX5_eveningRefusal at h
    refine lv_aload_n hx hb dX5_eveningRefusal_0 rfl (lv_at hl 0 rfl) ?_
    refine lv_iload_n hx hb dX5_eveningRefusal_1 rfl (lv_at hl 1 rfl) ?_
    obtain ⟨r2, hc, h⟩ := bd1_some h
    refine my_roz (va_Run.run (va_runV (As := [.int x1]) (rest := []) hFix (kX5_isGuest l D T F ad (ad 6) (ad 12) rs rm ts tm rdue rtun rsee rbeg psize pclause peff pkin pgri psig psee qsize qclause qeff qkin qgri qsig qsee cdee cnow cahe kdee know kahe fc lf told up lo x1 r2 hc) (cwV 1 hts gX5_eveningRefusal_X5_isGuest rfl rfl rfl ⟨rfl, hd_X5_isGuest⟩ ⟨Nat.le_of_ble_eq_true rfl, Nat.le_of_ble_eq_true rfl⟩) (preV_ro hP hKK (va_recv hK hP (ci := 3) (q0 := 0) rfl wPW_0)) rfl rfl hl.1 rfl (lv_room (Nat.le_of_ble_eq_true rfl)) dX5_eveningRefusal_2 ⟨Nat.zero_le _, Nat.zero_le _⟩)) (fun hb2 => ?_)
    refine lv_if_eq (tgt := 15) hx hb dX5_eveningRefusal_5 (by decide) (fun c5 => ?_) (fun c5 => ?_)
    · have h := br_1 h c5
      refine lv_iconst (v := (-1 : Int32)) hx hb dX5_eveningRefusal_15 (by decide) ?_
      cases h
      exact hret _ _ _ _ hP hD hS dX5_eveningRefusal_16
    · have h := br_0 h c5
      refine lv_iload_n hx hb dX5_eveningRefusal_8 rfl (lv_at hl 2 rfl) ?_
      obtain ⟨r9, hc, h⟩ := bd1_some h
      refine my_roz (va_Run.run (va_runS (As := [.int x2]) (rest := []) hFix (kX5_isRow l D T F x2 r9 hc) (va_cwS 1 hts gX5_eveningRefusal_X5_isRow rfl rfl rfl hd_X5_isRow ⟨Nat.le_of_ble_eq_true rfl, Nat.le_of_ble_eq_true rfl⟩) (preS_ro va_nil hKK) rfl rfl hl.1 rfl (lv_room (Nat.le_of_ble_eq_true rfl)) dX5_eveningRefusal_9 ⟨Nat.zero_le _, Nat.zero_le _⟩)) (fun hb9 => ?_)
      refine lv_if_ne (tgt := 17) hx hb dX5_eveningRefusal_12 (by decide) (fun c12 => ?_) (fun c12 => ?_)
      · have h := br_0 h c12
        refine lv_aload_n hx hb dX5_eveningRefusal_17 rfl (lv_at hl 0 rfl) ?_
        refine va_get (D := D) (ci := 3) (C := RX5) (T := TX5) (N := 14) hx hb hts iX5 hown hK hP 0 wPW_0 rfl 7 (by decide) q1 (fun _ h9 => h9) rfl dX5_eveningRefusal_18 ?_
        refine va_getN (host := "PartyWill") (D := D) (ci := 0) (C := RX0) (T := TX0) (N := 3) hx hb hts iX0 hown hK hP 18 wPW_18 rfl 1 (by decide) (va_Nw.use rfl (nw_X5_127 hKK.2)) (fun _ h9 => h9) rfl dX5_eveningRefusal_21 ?_
        refine lv_iload_n hx hb dX5_eveningRefusal_24 rfl (lv_at hl 1 rfl) ?_
        obtain ⟨r25, hc, h⟩ := bd1_some h
        refine my_roz (va_Run.run (va_runSN (host := "PartyWill") (As := [.long cnow, .int x1]) (rest := []) hFix (kX1_isIn l D T F cnow x1 r25 hc) ⟨va_cnB 2 hts gX5_eveningRefusal_X1_isIn_n130 rfl rfl rfl (nw_X5_130 hKK.2) q12 hd_X1_isIn ⟨Nat.le_of_ble_eq_true rfl, Nat.le_of_ble_eq_true rfl⟩, q11, trivial⟩ (preS_ro va_nil hKK) rfl rfl hl.1 rfl (lv_room (Nat.le_of_ble_eq_true rfl)) dX5_eveningRefusal_25 ⟨Nat.zero_le _, Nat.zero_le _⟩)) (fun hb25 => ?_)
        refine lv_if_ne (tgt := 34) hx hb dX5_eveningRefusal_28 (by decide) (fun c28 => ?_) (fun c28 => ?_)
        · have h := br_0 h c28
          refine lv_aload_n hx hb dX5_eveningRefusal_34 rfl (lv_at hl 0 rfl) ?_
          refine lv_iload_n hx hb dX5_eveningRefusal_35 rfl (lv_at hl 2 rfl) ?_
          obtain ⟨r36, hc, h⟩ := bd1_some h
          refine my_roi (va_Run.run (va_runV (As := [.int x2]) (rest := []) hFix (kX5_eveningFinding l D T F ad (ad 6) (ad 12) rs rm ts tm rdue rtun rsee rbeg psize pclause peff pkin pgri psig psee qsize qclause qeff qkin qgri qsig qsee cdee cnow cahe kdee know kahe fc lf told up lo x2 r36 hc) (cwV 1 hts gX5_eveningRefusal_X5_eveningFinding rfl rfl rfl ⟨rfl, hd_X5_eveningFinding⟩ ⟨Nat.le_of_ble_eq_true rfl, Nat.le_of_ble_eq_true rfl⟩) (preV_ro hP hKK (va_recv hK hP (ci := 3) (q0 := 0) rfl wPW_0)) rfl rfl hl.1 rfl (lv_room (Nat.le_of_ble_eq_true rfl)) dX5_eveningRefusal_36 ⟨Nat.zero_le _, Nat.zero_le _⟩)) ?_
          refine lv_istore_n (lv' := [(3, .int r36), (0, .ref (ad 0)), (1, .int x1), (2, .int x2)]) hx hb dX5_eveningRefusal_39 rfl hl (by decide) rfl (fun ls hl => ?_)
          refine lv_iload_n hx hb dX5_eveningRefusal_40 rfl (lv_at hl 0 rfl) ?_
          refine lv_if_ne (tgt := 48) hx hb dX5_eveningRefusal_41 (by decide) (fun c41 => ?_) (fun c41 => ?_)
          · have h := br_0 h c41
            refine lv_aload_n hx hb dX5_eveningRefusal_48 rfl (lv_at hl 1 rfl) ?_
            refine lv_iload_n hx hb dX5_eveningRefusal_49 rfl (lv_at hl 0 rfl) ?_
            obtain ⟨r50, w50_fc, w50_lf, hc, h⟩ := bd3_some h
            have hFc := my_freeS hD hS hA
            refine my_rwi (va_runV (As := [.int r36]) (rest := []) hFix (kX5_found l D T F ad (ad 6) (ad 12) rs rm ts tm rdue rtun rsee rbeg psize pclause peff pkin pgri psig psee qsize qclause qeff qkin qgri qsig qsee cdee cnow cahe kdee know kahe fc lf told up lo r36 r50 w50_fc w50_lf hc) (cwV 1 hts gX5_eveningRefusal_X5_found rfl rfl rfl ⟨rfl, hd_X5_found⟩ ⟨Nat.le_of_ble_eq_true rfl, Nat.le_of_ble_eq_true rfl⟩) (preV_rw hP hKK hD (va_recv hK hP (ci := 3) (q0 := 0) rfl wPW_0)) rfl rfl hl.1 rfl (lv_room (Nat.le_of_ble_eq_true rfl)) dX5_eveningRefusal_50 ⟨Nat.zero_le _, Nat.zero_le _⟩) hS hFc (fun H1 locs hP1 hD1 hz1 hk1 hS => ?_)
            have hP : va_P D vwCl (wPW T ad (ad 6) (ad 12) rs rm ts tm rdue rtun rsee rbeg psize pclause peff pkin pgri psig psee qsize qclause qeff qkin qgri qsig qsee cdee cnow cahe kdee know kahe w50_fc w50_lf told up lo) H1 := hP1
            have hD : va_D A (wPW T ad (ad 6) (ad 12) rs rm ts tm rdue rtun rsee rbeg psize pclause peff pkin pgri psig psee qsize qclause qeff qkin qgri qsig qsee cdee cnow cahe kdee know kahe w50_fc w50_lf told up lo) := hD1.weaken (fun _ q _ h => hFc q.1 h)
            generalize H1 = H at hP hS ⊢
            cases h
            exact hret _ _ _ _ hP hD hS dX5_eveningRefusal_53
          · have h := br_1 h c41
            refine lv_iconst (v := (0 : Int32)) hx hb dX5_eveningRefusal_44 (by decide) ?_
            refine lv_goto (tgt := 53) hx hb dX5_eveningRefusal_45 (by decide) ?_
            cases h
            exact hret _ _ _ _ hP hD hS dX5_eveningRefusal_53
        · have h := br_1 h c28
          refine lv_bipush (v := (-4 : Int32)) hx hb dX5_eveningRefusal_31 (by decide) ?_
          cases h
          exact hret _ _ _ _ hP hD hS dX5_eveningRefusal_33
      · have h := br_1 h c12
        refine lv_iconst (v := (-1 : Int32)) hx hb dX5_eveningRefusal_15 (by decide) ?_
        cases h
        exact hret _ _ _ _ hP hD hS dX5_eveningRefusal_16
  exact key _ (fun H locs pc ls hP hD hS hd => W.iret hx hb hr (fun t ht hW => ⟨⟨_, (), rfl, rfl, by show _ ∧ _; rw [ht]; exact ⟨hP, hD⟩⟩, hS.F ht⟩) hS.2.2 hd)
set_option maxHeartbeats 4000000 in
set_option maxRecDepth 100000 in
theorem kX5_kinds (l : Launch) (D : va_G) (T : Nat → ClassId) (F : Nat) (ad : Nat → Nat) (rs : Nat → Int32) (rm : Nat → Nat → Int32) (ts : Nat → Int32) (tm : Nat → Nat → Int32) (rdue : Int32) (rtun : Int32) (rsee : Int32) (rbeg : Int32) (psize : Int32) (pclause : Int32) (peff : Nat → Int32) (pkin : Nat → Int32) (pgri : Nat → Int32) (psig : Nat → Int32) (psee : Nat → Int32) (qsize : Int32) (qclause : Int32) (qeff : Nat → Int32) (qkin : Nat → Int32) (qgri : Nat → Int32) (qsig : Nat → Int32) (qsee : Nat → Int32) (cdee : Int32) (cnow : Int64) (cahe : Nat → Int64) (kdee : Nat → Int32) (know : Nat → Int64) (kahe : Nat → Nat → Int64) (fc : Nat → Int32) (lf : Int32) (told : Int32) (up : Int64) (lo : Int64) (x1 : Int32) (x2 : Int32) (r : Int32) (zfc : Nat → Int32) (zlf : Int32) (h : fX5_kinds F rs rm psize peff cnow fc lf x1 x2 = some (r, zfc, zlf)) : ∀ sz : Nat, Met l yX5_kinds wsX5_kinds ({ frames := 4, cells := 0, slots := 0, locals := 101 } : Room) (va_Pc [.ref (ad 0), .int x1, .int x2] (fun U => U.heap.size = sz ∧ va_P D vwCl (wPW T ad (ad 6) (ad 12) rs rm ts tm rdue rtun rsee rbeg psize pclause peff pkin pgri psig psee qsize qclause qeff qkin qgri qsig qsee cdee cnow cahe kdee know kahe fc lf told up lo) U.heap ∧ KK D T U ∧ va_D (fun _ => True) (wPW T ad (ad 6) (ad 12) rs rm ts tm rdue rtun rsee rbeg psize pclause peff pkin pgri psig psee qsize qclause qeff qkin qgri qsig qsee cdee cnow cahe kdee know kahe fc lf told up lo))) (va_Qi (fun r' (_ : Unit) => r' = r) (fun _ t => va_P D vwCl (wPW T ad (ad 6) (ad 12) rs rm ts tm rdue rtun rsee rbeg psize pclause peff pkin pgri psig psee qsize qclause qeff qkin qgri qsig qsee cdee cnow cahe kdee know kahe zfc zlf told up lo) t.heap ∧ va_D (va_A (wPW T ad (ad 6) (ad 12) rs rm ts tm rdue rtun rsee rbeg psize pclause peff pkin pgri psig psee qsize qclause qeff qkin qgri qsig qsee cdee cnow cahe kdee know kahe fc lf told up lo) sz) (wPW T ad (ad 6) (ad 12) rs rm ts tm rdue rtun rsee rbeg psize pclause peff pkin pgri psig psee qsize qclause qeff qkin qgri qsig qsee cdee cnow cahe kdee know kahe zfc zlf told up lo)) (va_A (wPW T ad (ad 6) (ad 12) rs rm ts tm rdue rtun rsee rbeg psize pclause peff pkin pgri psig psee qsize qclause qeff qkin qgri qsig qsee cdee cnow cahe kdee know kahe fc lf told up lo) sz)) 0 0 (va_A (wPW T ad (ad 6) (ad 12) rs rm ts tm rdue rtun rsee rbeg psize pclause peff pkin pgri psig psee qsize qclause qeff qkin qgri qsig qsee cdee cnow cahe kdee know kahe fc lf told up lo) sz) := by
  intro sz
  refine Met.ofW (cc := cX5_kinds) (maxL := 7) (ret := some .int) (by decide) rfl ?_
  intro p e s m args below meth c s₁ B hml hv
  obtain ⟨ha, hsz, hP, hKK, hD0⟩ := hv
  have hx := B.exec
  have hb := B.bytes
  have hr := B.returns
  have hts := atoms_spec (ws := wsX5_kinds) B.pre
  have hown : s.vm.findClass RX5 = some m.cls := findClass_of_methodNamed B.named
  have hlocks := B.notSynchronized
  have hK := hKK.1
  have hFix : CallFix p m c cX5_kinds 7 s args wsX5_kinds RX5 := ⟨hx, hb, hml, hown, hts⟩
  have q1 := hts _ (List.mem_of_getElem? (i := 1) (show wsX5_kinds[1]? = some (Cond.fieldLink RX5 46 "PartyWill" "course" "LPartyWill$Course;") from rfl))
  have q2 := hts _ (List.mem_of_getElem? (i := 2) (show wsX5_kinds[2]? = some (Cond.fieldLink RX5 36 "PartyWill" "party" "LPartyWill$Party;") from rfl))
  have q3 := hts _ (List.mem_of_getElem? (i := 3) (show wsX5_kinds[3]? = some (Cond.fieldLink RX5 11 "PartyWill" "rows" "[[I") from rfl))
  have q4 := hts _ (List.mem_of_getElem? (i := 4) (show wsX5_kinds[4]? = some (Cond.fieldLink RX5 14 "PartyWill" "rowSizes" "[I") from rfl))
  have q18 := hts _ (List.mem_of_getElem? (i := 18) (show wsX5_kinds[18]? = some (Cond.initialized RX1) from rfl))
  have q36 := hts _ (List.mem_of_getElem? (i := 36) (show wsX5_kinds[36]? = some (Cond.static yX1_griefOf) from rfl))
  have q39 := hts _ (List.mem_of_getElem? (i := 39) (show wsX5_kinds[39]? = some (Cond.instanceMethod yX2_wentSo) from rfl))
  have q40 := hts _ (List.mem_of_getElem? (i := 40) (show wsX5_kinds[40]? = some (Cond.initialized RX2) from rfl))
  have q41 := hts _ (List.mem_of_getElem? (i := 41) (show wsX5_kinds[41]? = some (Cond.selects RX2 yX2_wentSo yX2_wentSo) from rfl))
  have iX0 : ∀ w ∈ u_ws RX0 TX0 3, w ∈ wsX5_kinds := fun w h => List.mem_cons_of_mem _ (List.mem_append_left _ (List.mem_append_right _ (h)))
  have iX5 : ∀ w ∈ u_ws RX5 TX5 14, w ∈ wsX5_kinds := fun w h => List.mem_cons_of_mem _ (List.mem_append_left _ (List.mem_append_left _ (List.mem_append_right _ (h))))
  subst hsz
  have hD := hD0.self (sz := s.heap.size)
  generalize hAe : va_A (wPW T ad (ad 6) (ad 12) rs rm ts tm rdue rtun rsee rbeg psize pclause peff pkin pgri psig psee qsize qclause qeff qkin qgri qsig qsee cdee cnow cahe kdee know kahe fc lf told up lo) s.heap.size = A at hD ⊢
  have hA : ∀ q : Nat, s.heap.size ≤ q → A q := fun q h => by rw [← hAe]; exact Or.inr h
  have hS : va_S A s.heap s.heap [] := va_S.rf
  have hP : va_P D vwCl (wPW T ad (ad 6) (ad 12) rs rm ts tm rdue rtun rsee rbeg psize pclause peff pkin pgri psig psee qsize qclause qeff qkin qgri qsig qsee cdee cnow cahe kdee know kahe fc lf told up lo) s.heap := hP
  obtain ⟨ls, hl, e0⟩ := my_entry (m := m) (n := 7) ha (Nat.le_of_ble_eq_true rfl)
  rw [e0]
  have hl : lv_has ls 7 [(0, .ref (ad 0)), (1, .int x1), (2, .int x2)] := hl
  have key : ∀ Q : State → Prop, (∀ (H : Heap) (locs : List Loc) (pc : Nat) (ls : Array Slot), va_P D vwCl (wPW T ad (ad 6) (ad 12) rs rm ts tm rdue rtun rsee rbeg psize pclause peff pkin pgri psig psee qsize qclause qeff qkin qgri qsig qsee cdee cnow cahe kdee know kahe zfc zlf told up lo) H → va_D A (wPW T ad (ad 6) (ad 12) rs rm ts tm rdue rtun rsee rbeg psize pclause peff pkin pgri psig psee qsize qclause qeff qkin qgri qsig qsee cdee cnow cahe kdee know kahe zfc zlf told up lo) → va_S A s.heap H locs → decode cX5_kinds pc = .ok (.ireturn, 1) → W p l e ({ frames := 4, cells := 0, slots := 0, locals := 101 } : Room) s m args below meth c H locs 0 0 Q (F0 m pc ls [.int r])) → W p l e ({ frames := 4, cells := 0, slots := 0, locals := 101 } : Room) s m args below meth c s.heap [] 0 0 Q (F0 m 0 ls []) := by
    intro Q hret
    skip
    have l32 : ∀ x2 : Int32, ∀ x4 : Int32, ∀ fc : Nat → Int32, ∀ lf : Int32, ∀ nu : Nat, ∀ x5 : Int32, ∀ x6 : Int32, fX5_kinds_l32 F rs rm psize peff cnow x2 x4 fc lf nu x5 x6 = some (r, zfc, zlf) → ∀ (H : Heap) (locs : List Loc), va_P D vwCl (wPW T ad (ad 6) (ad 12) rs rm ts tm rdue rtun rsee rbeg psize pclause peff pkin pgri psig psee qsize qclause qeff qkin qgri qsig qsee cdee cnow cahe kdee know kahe fc lf told up lo) H → va_D A (wPW T ad (ad 6) (ad 12) rs rm ts tm rdue rtun rsee rbeg psize pclause peff pkin pgri psig psee qsize qclause qeff qkin qgri qsig qsee cdee cnow cahe kdee know kahe fc lf told up lo) → va_S A s.heap H locs → ∀ (ls : Array Slot), lv_has ls 7 [(0, .ref (ad 0)), (2, .int x2), (4, .int x4), (5, .int x5), (6, .int x6)] → W p l e ({ frames := 4, cells := 0, slots := 0, locals := 101 } : Room) s m args below meth c H locs 0 0 Q (F0 m 32 ls []) := by
      intro x2 x4 fc lf
      intro nu
      induction nu with
      | zero => intro x5 x6 h; exact none_some h
      | succ nu32 ih32 =>
        intro x5 x6 h H locs hP hD hS ls hl
        have h : fX5_kinds_l32_b F rs rm psize peff cnow x2 x4 fc lf (fX5_kinds_l32 F rs rm psize peff cnow x2 x4 fc lf nu32) x5 x6 = some (r, zfc, zlf) := h
        unfold fX5_kinds_l32_b at h
        refine lv_iload hx hb dX5_kinds_32 (lv_at hl 4 rfl) ?_
        refine lv_bipush (v := (6 : Int32)) hx hb dX5_kinds_34 (by decide) ?_
        refine lv_icmp_ge (tgt := 80) hx hb dX5_kinds_36 (by decide) (fun c36 => ?_) (fun c36 => ?_)
        · have h := br_1 h c36
          refine lv_iload hx hb dX5_kinds_80 (lv_at hl 3 rfl) ?_
          cases h
          exact hret _ _ _ _ hP hD hS dX5_kinds_82
        · have h := br_0 h c36
          refine lv_aload_n hx hb dX5_kinds_39 rfl (lv_at hl 0 rfl) ?_
          refine va_get (D := D) (ci := 3) (C := RX5) (T := TX5) (N := 14) hx hb hts iX5 hown hK hP 0 wPW_0 rfl 5 (by decide) q2 (fun _ h9 => h9) rfl dX5_kinds_40 ?_
          refine lv_iload hx hb dX5_kinds_43 (lv_at hl 4 rfl) ?_
          refine lv_iload hx hb dX5_kinds_45 (lv_at hl 2 rfl) ?_
          refine lv_aload_n hx hb dX5_kinds_47 rfl (lv_at hl 0 rfl) ?_
          refine va_get (D := D) (ci := 3) (C := RX5) (T := TX5) (N := 14) hx hb hts iX5 hown hK hP 0 wPW_0 rfl 0 (by decide) q3 (fun _ h9 => h9) rfl dX5_kinds_48 ?_
          refine lv_iload_n hx hb dX5_kinds_51 rfl (lv_at hl 1 rfl) ?_
          obtain ⟨hin2, h⟩ := ck_some h
          have hk1 : x2.toNatClampNeg < 6 := vp_lt hin2
          refine my_ald (b := (ad (28 + x2.toNatClampNeg))) rfl hx hb hK hP 1 4 wPW_1 rfl hin2 (fun _ => if_pos hk1) dX5_kinds_52 ?_
          refine lv_aload_n hx hb dX5_kinds_53 rfl (lv_at hl 0 rfl) ?_
          refine va_get (D := D) (ci := 3) (C := RX5) (T := TX5) (N := 14) hx hb hts iX5 hown hK hP 0 wPW_0 rfl 1 (by decide) q4 (fun _ h9 => h9) rfl dX5_kinds_54 ?_
          refine lv_iload_n hx hb dX5_kinds_57 rfl (lv_at hl 1 rfl) ?_
          obtain ⟨hin3, h⟩ := ck_some h
          refine va_iald hx hb hK hP 2 0 wPW_2 rfl hin3 dX5_kinds_58 ?_
          obtain ⟨r59, hc, h⟩ := bd1_some h
          have hPc : va_P D vwCl (wPaA T (ad 6) (ad 7) (ad 8) (ad 9) (ad 10) (ad 11) (ad (28 + x2.toNatClampNeg)) psize pclause peff pkin pgri psig psee (rm x2.toNatClampNeg)) H := my_subP (sb_wPW_wPaA_6torows0 hk1) hP
          refine my_roz (va_Run.run (va_runVN (host := "PartyWill") (As := [.int x6, .int x4, .ref (ad (28 + x2.toNatClampNeg)), .int (rs x2.toNatClampNeg)]) (rest := []) hFix (kX2_wentSo l D T F (ad 6) (ad 7) (ad 8) (ad 9) (ad 10) (ad 11) (ad (28 + x2.toNatClampNeg)) psize pclause peff pkin pgri psig psee (rm x2.toNatClampNeg) x6 x4 (rs x2.toNatClampNeg) r59 hc) ⟨va_cnB 4 hts gX5_kinds_X2_wentSo_n235 rfl rfl rfl (nw_X5_235 hKK.2) q40 hd_X2_wentSo ⟨Nat.le_of_ble_eq_true rfl, Nat.le_of_ble_eq_true rfl⟩, q39, q41⟩ (preV_ro hPc hKK (va_recv hK hP (ci := 1) (q0 := 6) rfl wPW_6)) rfl rfl hl.1 rfl (lv_room (Nat.le_of_ble_eq_true rfl)) dX5_kinds_59 ⟨Nat.zero_le _, Nat.zero_le _⟩)) (fun hb59 => ?_)
          refine lv_if_eq (tgt := 74) hx hb dX5_kinds_62 (by decide) (fun c62 => ?_) (fun c62 => ?_)
          · have h := br_1 h c62
            refine lv_iinc (v := (x6 + (1 : Int32))) (lv' := [(6, .int (x6 + (1 : Int32))), (0, .ref (ad 0)), (2, .int x2), (4, .int x4), (5, .int x5)]) hx hb dX5_kinds_74 hl (k := 4) rfl rfl (by decide) rfl (fun ls hl => ?_)
            refine lv_goto (tgt := 32) hx hb dX5_kinds_77 (by decide) ?_
            exact ih32 x5 (x6 + (1 : Int32)) h _ _ hP hD hS _ (lv_sub hl [1, 2, 3, 4, 0] rfl)
          · have h := br_0 h c62
            refine lv_iload hx hb dX5_kinds_65 (lv_at hl 3 rfl) ?_
            refine lv_iconst (v := (1 : Int32)) hx hb dX5_kinds_67 (by decide) ?_
            refine lv_iload hx hb dX5_kinds_68 (lv_at hl 4 rfl) ?_
            refine lv_ishl hx hb dX5_kinds_70 ?_
            refine lv_ior hx hb dX5_kinds_71 ?_
            refine lv_istore (lv' := [(5, .int (x5 ||| ((1 : Int32) <<< (x6 &&& 31)))), (0, .ref (ad 0)), (2, .int x2), (4, .int x4), (6, .int x6)]) hx hb dX5_kinds_72 hl (by decide) rfl (fun ls hl => ?_)
            refine lv_iinc (v := (x6 + (1 : Int32))) (lv' := [(6, .int (x6 + (1 : Int32))), (5, .int (x5 ||| ((1 : Int32) <<< (x6 &&& 31)))), (0, .ref (ad 0)), (2, .int x2), (4, .int x4)]) hx hb dX5_kinds_74 hl (k := 4) rfl rfl (by decide) rfl (fun ls hl => ?_)
            refine lv_goto (tgt := 32) hx hb dX5_kinds_77 (by decide) ?_
            exact ih32 (x5 ||| ((1 : Int32) <<< (x6 &&& 31))) (x6 + (1 : Int32)) h _ _ hP hD hS _ (lv_sub hl [2, 3, 4, 1, 0] rfl)
    unfold fX5_kinds at h
    refine lv_aload_n hx hb dX5_kinds_0 rfl (lv_at hl 0 rfl) ?_
    refine lv_iload_n hx hb dX5_kinds_1 rfl (lv_at hl 1 rfl) ?_
    refine lv_iload_n hx hb dX5_kinds_2 rfl (lv_at hl 2 rfl) ?_
    obtain ⟨r3, w3_fc, w3_lf, hc, h⟩ := bd3_some h
    have hFc := my_freeS hD hS hA
    refine my_rwi (va_runV (As := [.int x1, .int x2]) (rest := []) hFix (kX5_eveningRefusal l D T F ad (ad 6) (ad 12) rs rm ts tm rdue rtun rsee rbeg psize pclause peff pkin pgri psig psee qsize qclause qeff qkin qgri qsig qsee cdee cnow cahe kdee know kahe fc lf told up lo x1 x2 r3 w3_fc w3_lf hc) (cwV 2 hts gX5_kinds_X5_eveningRefusal rfl rfl rfl ⟨rfl, hd_X5_eveningRefusal⟩ ⟨Nat.le_of_ble_eq_true rfl, Nat.le_of_ble_eq_true rfl⟩) (preV_rw hP hKK hD (va_recv hK hP (ci := 3) (q0 := 0) rfl wPW_0)) rfl rfl hl.1 rfl (lv_room (Nat.le_of_ble_eq_true rfl)) dX5_kinds_3 ⟨Nat.zero_le _, Nat.zero_le _⟩) hS hFc (fun H1 locs hP1 hD1 hz1 hk1 hS => ?_)
    have hP : va_P D vwCl (wPW T ad (ad 6) (ad 12) rs rm ts tm rdue rtun rsee rbeg psize pclause peff pkin pgri psig psee qsize qclause qeff qkin qgri qsig qsee cdee cnow cahe kdee know kahe w3_fc w3_lf told up lo) H1 := hP1
    have hD : va_D A (wPW T ad (ad 6) (ad 12) rs rm ts tm rdue rtun rsee rbeg psize pclause peff pkin pgri psig psee qsize qclause qeff qkin qgri qsig qsee cdee cnow cahe kdee know kahe w3_fc w3_lf told up lo) := hD1.weaken (fun _ q _ h => hFc q.1 h)
    generalize H1 = H at hP hS ⊢
    refine lv_istore_n (lv' := [(3, .int r3), (0, .ref (ad 0)), (1, .int x1), (2, .int x2)]) hx hb dX5_kinds_6 rfl hl (by decide) rfl (fun ls hl => ?_)
    refine lv_iload_n hx hb dX5_kinds_7 rfl (lv_at hl 0 rfl) ?_
    refine lv_if_eq (tgt := 13) hx hb dX5_kinds_8 (by decide) (fun c8 => ?_) (fun c8 => ?_)
    · have h := br_1 h c8
      refine lv_aload_n hx hb dX5_kinds_13 rfl (lv_at hl 1 rfl) ?_
      refine va_get (D := D) (ci := 3) (C := RX5) (T := TX5) (N := 14) hx hb hts iX5 hown hK hP 0 wPW_0 rfl 7 (by decide) q1 (fun _ h9 => h9) rfl dX5_kinds_14 ?_
      refine va_getN (host := "PartyWill") (D := D) (ci := 0) (C := RX0) (T := TX0) (N := 3) hx hb hts iX0 hown hK hP 18 wPW_18 rfl 1 (by decide) (va_Nw.use rfl (nw_X5_127 hKK.2)) (fun _ h9 => h9) rfl dX5_kinds_17 ?_
      refine lv_iload_n hx hb dX5_kinds_20 rfl (lv_at hl 2 rfl) ?_
      obtain ⟨r21, hc, h⟩ := bd1_some h
      refine my_roi (va_Run.run (va_runSN (host := "PartyWill") (As := [.long cnow, .int x1]) (rest := []) hFix (kX1_griefOf l D T F cnow x1 r21 hc) ⟨va_cnB 2 hts gX5_kinds_X1_griefOf_n175 rfl rfl rfl (nw_X5_175 hKK.2) q18 hd_X1_griefOf ⟨Nat.le_of_ble_eq_true rfl, Nat.le_of_ble_eq_true rfl⟩, q36, trivial⟩ (preS_ro va_nil hKK) rfl rfl hl.1 rfl (lv_room (Nat.le_of_ble_eq_true rfl)) dX5_kinds_21 ⟨Nat.zero_le _, Nat.zero_le _⟩)) ?_
      refine lv_istore (lv' := [(4, .int r21), (3, .int r3), (0, .ref (ad 0)), (1, .int x1), (2, .int x2)]) hx hb dX5_kinds_24 hl (by decide) rfl (fun ls hl => ?_)
      refine lv_iconst (v := (0 : Int32)) hx hb dX5_kinds_26 (by decide) ?_
      refine lv_istore (lv' := [(5, .int (0 : Int32)), (4, .int r21), (3, .int r3), (0, .ref (ad 0)), (1, .int x1), (2, .int x2)]) hx hb dX5_kinds_27 hl (by decide) rfl (fun ls hl => ?_)
      refine lv_iconst (v := (0 : Int32)) hx hb dX5_kinds_29 (by decide) ?_
      refine lv_istore (lv' := [(6, .int (0 : Int32)), (5, .int (0 : Int32)), (4, .int r21), (3, .int r3), (0, .ref (ad 0)), (1, .int x1), (2, .int x2)]) hx hb dX5_kinds_30 hl (by decide) rfl (fun ls hl => ?_)
      exact l32 x2 r21 w3_fc w3_lf F (0 : Int32) (0 : Int32) h _ _ hP hD hS _ (lv_sub hl [4, 6, 2, 1, 0] rfl)
    · have h := br_0 h c8
      refine lv_iload_n hx hb dX5_kinds_11 rfl (lv_at hl 0 rfl) ?_
      cases h
      exact hret _ _ _ _ hP hD hS dX5_kinds_12
  exact key _ (fun H locs pc ls hP hD hS hd => W.iret hx hb hr (fun t ht hW => ⟨⟨_, (), rfl, rfl, by show _ ∧ _; rw [ht]; exact ⟨hP, hD⟩⟩, hS.F ht⟩) hS.2.2 hd)
set_option maxHeartbeats 4000000 in
set_option maxRecDepth 100000 in
theorem kX5_came (l : Launch) (D : va_G) (T : Nat → ClassId) (F : Nat) (ad : Nat → Nat) (rs : Nat → Int32) (rm : Nat → Nat → Int32) (ts : Nat → Int32) (tm : Nat → Nat → Int32) (rdue : Int32) (rtun : Int32) (rsee : Int32) (rbeg : Int32) (psize : Int32) (pclause : Int32) (peff : Nat → Int32) (pkin : Nat → Int32) (pgri : Nat → Int32) (psig : Nat → Int32) (psee : Nat → Int32) (qsize : Int32) (qclause : Int32) (qeff : Nat → Int32) (qkin : Nat → Int32) (qgri : Nat → Int32) (qsig : Nat → Int32) (qsee : Nat → Int32) (cdee : Int32) (cnow : Int64) (cahe : Nat → Int64) (kdee : Nat → Int32) (know : Nat → Int64) (kahe : Nat → Nat → Int64) (fc : Nat → Int32) (lf : Int32) (told : Int32) (up : Int64) (lo : Int64) (x1 : Int32) (x2 : Int32) (r : Int32) (zfc : Nat → Int32) (zlf : Int32) (h : fX5_came F rs rm psize peff pkin cnow fc lf x1 x2 = some (r, zfc, zlf)) : ∀ sz : Nat, Met l yX5_came wsX5_came ({ frames := 4, cells := 0, slots := 0, locals := 101 } : Room) (va_Pc [.ref (ad 0), .int x1, .int x2] (fun U => U.heap.size = sz ∧ va_P D vwCl (wPW T ad (ad 6) (ad 12) rs rm ts tm rdue rtun rsee rbeg psize pclause peff pkin pgri psig psee qsize qclause qeff qkin qgri qsig qsee cdee cnow cahe kdee know kahe fc lf told up lo) U.heap ∧ KK D T U ∧ va_D (fun _ => True) (wPW T ad (ad 6) (ad 12) rs rm ts tm rdue rtun rsee rbeg psize pclause peff pkin pgri psig psee qsize qclause qeff qkin qgri qsig qsee cdee cnow cahe kdee know kahe fc lf told up lo))) (va_Qi (fun r' (_ : Unit) => r' = r) (fun _ t => va_P D vwCl (wPW T ad (ad 6) (ad 12) rs rm ts tm rdue rtun rsee rbeg psize pclause peff pkin pgri psig psee qsize qclause qeff qkin qgri qsig qsee cdee cnow cahe kdee know kahe zfc zlf told up lo) t.heap ∧ va_D (va_A (wPW T ad (ad 6) (ad 12) rs rm ts tm rdue rtun rsee rbeg psize pclause peff pkin pgri psig psee qsize qclause qeff qkin qgri qsig qsee cdee cnow cahe kdee know kahe fc lf told up lo) sz) (wPW T ad (ad 6) (ad 12) rs rm ts tm rdue rtun rsee rbeg psize pclause peff pkin pgri psig psee qsize qclause qeff qkin qgri qsig qsee cdee cnow cahe kdee know kahe zfc zlf told up lo)) (va_A (wPW T ad (ad 6) (ad 12) rs rm ts tm rdue rtun rsee rbeg psize pclause peff pkin pgri psig psee qsize qclause qeff qkin qgri qsig qsee cdee cnow cahe kdee know kahe fc lf told up lo) sz)) 0 0 (va_A (wPW T ad (ad 6) (ad 12) rs rm ts tm rdue rtun rsee rbeg psize pclause peff pkin pgri psig psee qsize qclause qeff qkin qgri qsig qsee cdee cnow cahe kdee know kahe fc lf told up lo) sz) := by
  intro sz
  refine Met.ofW (cc := cX5_came) (maxL := 6) (ret := some .int) (by decide) rfl ?_
  intro p e s m args below meth c s₁ B hml hv
  obtain ⟨ha, hsz, hP, hKK, hD0⟩ := hv
  have hx := B.exec
  have hb := B.bytes
  have hr := B.returns
  have hts := atoms_spec (ws := wsX5_came) B.pre
  have hown : s.vm.findClass RX5 = some m.cls := findClass_of_methodNamed B.named
  have hlocks := B.notSynchronized
  have hK := hKK.1
  have hFix : CallFix p m c cX5_came 6 s args wsX5_came RX5 := ⟨hx, hb, hml, hown, hts⟩
  have q1 := hts _ (List.mem_of_getElem? (i := 1) (show wsX5_came[1]? = some (Cond.fieldLink RX5 36 "PartyWill" "party" "LPartyWill$Party;") from rfl))
  have q2 := hts _ (List.mem_of_getElem? (i := 2) (show wsX5_came[2]? = some (Cond.fieldLink RX5 11 "PartyWill" "rows" "[[I") from rfl))
  have q3 := hts _ (List.mem_of_getElem? (i := 3) (show wsX5_came[3]? = some (Cond.fieldLink RX5 14 "PartyWill" "rowSizes" "[I") from rfl))
  have q36 := hts _ (List.mem_of_getElem? (i := 36) (show wsX5_came[36]? = some (Cond.instanceMethod yX2_wentSo) from rfl))
  have q37 := hts _ (List.mem_of_getElem? (i := 37) (show wsX5_came[37]? = some (Cond.initialized RX2) from rfl))
  have q38 := hts _ (List.mem_of_getElem? (i := 38) (show wsX5_came[38]? = some (Cond.selects RX2 yX2_wentSo yX2_wentSo) from rfl))
  have iX2 : ∀ w ∈ u_ws RX2 TX2 7, w ∈ wsX5_came := fun w h => List.mem_cons_of_mem _ (List.mem_append_left _ (List.mem_append_right _ (h)))
  have iX5 : ∀ w ∈ u_ws RX5 TX5 14, w ∈ wsX5_came := fun w h => List.mem_cons_of_mem _ (List.mem_append_left _ (List.mem_append_left _ (List.mem_append_right _ (h))))
  subst hsz
  have hD := hD0.self (sz := s.heap.size)
  generalize hAe : va_A (wPW T ad (ad 6) (ad 12) rs rm ts tm rdue rtun rsee rbeg psize pclause peff pkin pgri psig psee qsize qclause qeff qkin qgri qsig qsee cdee cnow cahe kdee know kahe fc lf told up lo) s.heap.size = A at hD ⊢
  have hA : ∀ q : Nat, s.heap.size ≤ q → A q := fun q h => by rw [← hAe]; exact Or.inr h
  have hS : va_S A s.heap s.heap [] := va_S.rf
  have hP : va_P D vwCl (wPW T ad (ad 6) (ad 12) rs rm ts tm rdue rtun rsee rbeg psize pclause peff pkin pgri psig psee qsize qclause qeff qkin qgri qsig qsee cdee cnow cahe kdee know kahe fc lf told up lo) s.heap := hP
  obtain ⟨ls, hl, e0⟩ := my_entry (m := m) (n := 6) ha (Nat.le_of_ble_eq_true rfl)
  rw [e0]
  have hl : lv_has ls 6 [(0, .ref (ad 0)), (1, .int x1), (2, .int x2)] := hl
  have key : ∀ Q : State → Prop, (∀ (H : Heap) (locs : List Loc) (pc : Nat) (ls : Array Slot), va_P D vwCl (wPW T ad (ad 6) (ad 12) rs rm ts tm rdue rtun rsee rbeg psize pclause peff pkin pgri psig psee qsize qclause qeff qkin qgri qsig qsee cdee cnow cahe kdee know kahe zfc zlf told up lo) H → va_D A (wPW T ad (ad 6) (ad 12) rs rm ts tm rdue rtun rsee rbeg psize pclause peff pkin pgri psig psee qsize qclause qeff qkin qgri qsig qsee cdee cnow cahe kdee know kahe zfc zlf told up lo) → va_S A s.heap H locs → decode cX5_came pc = .ok (.ireturn, 1) → W p l e ({ frames := 4, cells := 0, slots := 0, locals := 101 } : Room) s m args below meth c H locs 0 0 Q (F0 m pc ls [.int r])) → W p l e ({ frames := 4, cells := 0, slots := 0, locals := 101 } : Room) s m args below meth c s.heap [] 0 0 Q (F0 m 0 ls []) := by
    intro Q hret
    skip
    have l19 : ∀ x1 : Int32, ∀ x2 : Int32, ∀ fc : Nat → Int32, ∀ lf : Int32, ∀ nu : Nat, ∀ x4 : Int32, ∀ x5 : Int32, fX5_came_l19 F rs rm psize peff pkin cnow x1 x2 fc lf nu x4 x5 = some (r, zfc, zlf) → ∀ (H : Heap) (locs : List Loc), va_P D vwCl (wPW T ad (ad 6) (ad 12) rs rm ts tm rdue rtun rsee rbeg psize pclause peff pkin pgri psig psee qsize qclause qeff qkin qgri qsig qsee cdee cnow cahe kdee know kahe fc lf told up lo) H → va_D A (wPW T ad (ad 6) (ad 12) rs rm ts tm rdue rtun rsee rbeg psize pclause peff pkin pgri psig psee qsize qclause qeff qkin qgri qsig qsee cdee cnow cahe kdee know kahe fc lf told up lo) → va_S A s.heap H locs → ∀ (ls : Array Slot), lv_has ls 6 [(0, .ref (ad 0)), (1, .int x1), (2, .int x2), (4, .int x4), (5, .int x5)] → W p l e ({ frames := 4, cells := 0, slots := 0, locals := 101 } : Room) s m args below meth c H locs 0 0 Q (F0 m 19 ls []) := by
      intro x1 x2 fc lf
      intro nu
      induction nu with
      | zero => intro x4 x5 h; exact none_some h
      | succ nu19 ih19 =>
        intro x4 x5 h H locs hP hD hS ls hl
        have h : fX5_came_l19_b F rs rm psize peff pkin cnow x1 x2 fc lf (fX5_came_l19 F rs rm psize peff pkin cnow x1 x2 fc lf nu19) x4 x5 = some (r, zfc, zlf) := h
        unfold fX5_came_l19_b at h
        refine lv_iload hx hb dX5_came_19 (lv_at hl 4 rfl) ?_
        refine lv_bipush (v := (20 : Int32)) hx hb dX5_came_21 (by decide) ?_
        refine lv_icmp_gt (tgt := 74) hx hb dX5_came_23 (by decide) (fun c23 => ?_) (fun c23 => ?_)
        · have h := br_1 h c23
          refine lv_iload hx hb dX5_came_74 (lv_at hl 3 rfl) ?_
          cases h
          exact hret _ _ _ _ hP hD hS dX5_came_76
        · have h := br_0 h c23
          refine lv_aload_n hx hb dX5_came_26 rfl (lv_at hl 0 rfl) ?_
          refine va_get (D := D) (ci := 3) (C := RX5) (T := TX5) (N := 14) hx hb hts iX5 hown hK hP 0 wPW_0 rfl 5 (by decide) q1 (fun _ h9 => h9) rfl dX5_came_27 ?_
          refine lv_aload_n hx hb dX5_came_30 rfl (lv_at hl 0 rfl) ?_
          refine va_get (D := D) (ci := 3) (C := RX5) (T := TX5) (N := 14) hx hb hts iX5 hown hK hP 0 wPW_0 rfl 5 (by decide) q1 (fun _ h9 => h9) rfl dX5_came_31 ?_
          refine va_getN (host := "PartyWill") (D := D) (ci := 1) (C := RX2) (T := TX2) (N := 7) hx hb hts iX2 hown hK hP 6 wPW_6 rfl 3 (by decide) (va_Nw.use rfl (nw_X5_120 hKK.2)) (fun _ h9 => h9) rfl dX5_came_34 ?_
          refine lv_iload_n hx hb dX5_came_37 rfl (lv_at hl 1 rfl) ?_
          obtain ⟨hin1, h⟩ := ck_some h
          refine va_iald hx hb hK hP 8 0 wPW_8 rfl hin1 dX5_came_38 ?_
          refine lv_iload hx hb dX5_came_39 (lv_at hl 4 rfl) ?_
          refine lv_aload_n hx hb dX5_came_41 rfl (lv_at hl 0 rfl) ?_
          refine va_get (D := D) (ci := 3) (C := RX5) (T := TX5) (N := 14) hx hb hts iX5 hown hK hP 0 wPW_0 rfl 0 (by decide) q2 (fun _ h9 => h9) rfl dX5_came_42 ?_
          refine lv_iload_n hx hb dX5_came_45 rfl (lv_at hl 2 rfl) ?_
          obtain ⟨hin3, h⟩ := ck_some h
          have hk2 : x2.toNatClampNeg < 6 := vp_lt hin3
          refine my_ald (b := (ad (28 + x2.toNatClampNeg))) rfl hx hb hK hP 1 4 wPW_1 rfl hin3 (fun _ => if_pos hk2) dX5_came_46 ?_
          refine lv_aload_n hx hb dX5_came_47 rfl (lv_at hl 0 rfl) ?_
          refine va_get (D := D) (ci := 3) (C := RX5) (T := TX5) (N := 14) hx hb hts iX5 hown hK hP 0 wPW_0 rfl 1 (by decide) q3 (fun _ h9 => h9) rfl dX5_came_48 ?_
          refine lv_iload_n hx hb dX5_came_51 rfl (lv_at hl 2 rfl) ?_
          obtain ⟨hin4, h⟩ := ck_some h
          refine va_iald hx hb hK hP 2 0 wPW_2 rfl hin4 dX5_came_52 ?_
          obtain ⟨r53, hc, h⟩ := bd1_some h
          have hPc : va_P D vwCl (wPaA T (ad 6) (ad 7) (ad 8) (ad 9) (ad 10) (ad 11) (ad (28 + x2.toNatClampNeg)) psize pclause peff pkin pgri psig psee (rm x2.toNatClampNeg)) H := my_subP (sb_wPW_wPaA_6torows0 hk2) hP
          refine my_roz (va_Run.run (va_runVN (host := "PartyWill") (As := [.int (pkin x1.toNatClampNeg), .int x5, .ref (ad (28 + x2.toNatClampNeg)), .int (rs x2.toNatClampNeg)]) (rest := []) hFix (kX2_wentSo l D T F (ad 6) (ad 7) (ad 8) (ad 9) (ad 10) (ad 11) (ad (28 + x2.toNatClampNeg)) psize pclause peff pkin pgri psig psee (rm x2.toNatClampNeg) (pkin x1.toNatClampNeg) x5 (rs x2.toNatClampNeg) r53 hc) ⟨va_cnB 4 hts gX5_came_X2_wentSo_n235 rfl rfl rfl (nw_X5_235 hKK.2) q37 hd_X2_wentSo ⟨Nat.le_of_ble_eq_true rfl, Nat.le_of_ble_eq_true rfl⟩, q36, q38⟩ (preV_ro hPc hKK (va_recv hK hP (ci := 1) (q0 := 6) rfl wPW_6)) rfl rfl hl.1 rfl (lv_room (Nat.le_of_ble_eq_true rfl)) dX5_came_53 ⟨Nat.zero_le _, Nat.zero_le _⟩)) (fun hb53 => ?_)
          refine lv_if_eq (tgt := 68) hx hb dX5_came_56 (by decide) (fun c56 => ?_) (fun c56 => ?_)
          · have h := br_1 h c56
            refine lv_iinc (v := (x5 + (1 : Int32))) (lv' := [(5, .int (x5 + (1 : Int32))), (0, .ref (ad 0)), (1, .int x1), (2, .int x2), (4, .int x4)]) hx hb dX5_came_68 hl (k := 4) rfl rfl (by decide) rfl (fun ls hl => ?_)
            refine lv_goto (tgt := 19) hx hb dX5_came_71 (by decide) ?_
            exact ih19 x4 (x5 + (1 : Int32)) h _ _ hP hD hS _ (lv_sub hl [1, 2, 3, 4, 0] rfl)
          · have h := br_0 h c56
            refine lv_iload hx hb dX5_came_59 (lv_at hl 3 rfl) ?_
            refine lv_iconst (v := (1 : Int32)) hx hb dX5_came_61 (by decide) ?_
            refine lv_iload hx hb dX5_came_62 (lv_at hl 4 rfl) ?_
            refine lv_ishl hx hb dX5_came_64 ?_
            refine lv_ior hx hb dX5_came_65 ?_
            refine lv_istore (lv' := [(4, .int (x4 ||| ((1 : Int32) <<< (x5 &&& 31)))), (0, .ref (ad 0)), (1, .int x1), (2, .int x2), (5, .int x5)]) hx hb dX5_came_66 hl (by decide) rfl (fun ls hl => ?_)
            refine lv_iinc (v := (x5 + (1 : Int32))) (lv' := [(5, .int (x5 + (1 : Int32))), (4, .int (x4 ||| ((1 : Int32) <<< (x5 &&& 31)))), (0, .ref (ad 0)), (1, .int x1), (2, .int x2)]) hx hb dX5_came_68 hl (k := 4) rfl rfl (by decide) rfl (fun ls hl => ?_)
            refine lv_goto (tgt := 19) hx hb dX5_came_71 (by decide) ?_
            exact ih19 (x4 ||| ((1 : Int32) <<< (x5 &&& 31))) (x5 + (1 : Int32)) h _ _ hP hD hS _ (lv_sub hl [2, 3, 4, 1, 0] rfl)
    unfold fX5_came at h
    refine lv_aload_n hx hb dX5_came_0 rfl (lv_at hl 0 rfl) ?_
    refine lv_iload_n hx hb dX5_came_1 rfl (lv_at hl 1 rfl) ?_
    refine lv_iload_n hx hb dX5_came_2 rfl (lv_at hl 2 rfl) ?_
    obtain ⟨r3, w3_fc, w3_lf, hc, h⟩ := bd3_some h
    have hFc := my_freeS hD hS hA
    refine my_rwi (va_runV (As := [.int x1, .int x2]) (rest := []) hFix (kX5_eveningRefusal l D T F ad (ad 6) (ad 12) rs rm ts tm rdue rtun rsee rbeg psize pclause peff pkin pgri psig psee qsize qclause qeff qkin qgri qsig qsee cdee cnow cahe kdee know kahe fc lf told up lo x1 x2 r3 w3_fc w3_lf hc) (cwV 2 hts gX5_came_X5_eveningRefusal rfl rfl rfl ⟨rfl, hd_X5_eveningRefusal⟩ ⟨Nat.le_of_ble_eq_true rfl, Nat.le_of_ble_eq_true rfl⟩) (preV_rw hP hKK hD (va_recv hK hP (ci := 3) (q0 := 0) rfl wPW_0)) rfl rfl hl.1 rfl (lv_room (Nat.le_of_ble_eq_true rfl)) dX5_came_3 ⟨Nat.zero_le _, Nat.zero_le _⟩) hS hFc (fun H1 locs hP1 hD1 hz1 hk1 hS => ?_)
    have hP : va_P D vwCl (wPW T ad (ad 6) (ad 12) rs rm ts tm rdue rtun rsee rbeg psize pclause peff pkin pgri psig psee qsize qclause qeff qkin qgri qsig qsee cdee cnow cahe kdee know kahe w3_fc w3_lf told up lo) H1 := hP1
    have hD : va_D A (wPW T ad (ad 6) (ad 12) rs rm ts tm rdue rtun rsee rbeg psize pclause peff pkin pgri psig psee qsize qclause qeff qkin qgri qsig qsee cdee cnow cahe kdee know kahe w3_fc w3_lf told up lo) := hD1.weaken (fun _ q _ h => hFc q.1 h)
    generalize H1 = H at hP hS ⊢
    refine lv_istore_n (lv' := [(3, .int r3), (0, .ref (ad 0)), (1, .int x1), (2, .int x2)]) hx hb dX5_came_6 rfl hl (by decide) rfl (fun ls hl => ?_)
    refine lv_iload_n hx hb dX5_came_7 rfl (lv_at hl 0 rfl) ?_
    refine lv_if_eq (tgt := 13) hx hb dX5_came_8 (by decide) (fun c8 => ?_) (fun c8 => ?_)
    · have h := br_1 h c8
      refine lv_iconst (v := (0 : Int32)) hx hb dX5_came_13 (by decide) ?_
      refine lv_istore (lv' := [(4, .int (0 : Int32)), (3, .int r3), (0, .ref (ad 0)), (1, .int x1), (2, .int x2)]) hx hb dX5_came_14 hl (by decide) rfl (fun ls hl => ?_)
      refine lv_iconst (v := (0 : Int32)) hx hb dX5_came_16 (by decide) ?_
      refine lv_istore (lv' := [(5, .int (0 : Int32)), (4, .int (0 : Int32)), (3, .int r3), (0, .ref (ad 0)), (1, .int x1), (2, .int x2)]) hx hb dX5_came_17 hl (by decide) rfl (fun ls hl => ?_)
      exact l19 x1 x2 w3_fc w3_lf F (0 : Int32) (0 : Int32) h _ _ hP hD hS _ (lv_sub hl [3, 4, 5, 1, 0] rfl)
    · have h := br_0 h c8
      refine lv_iload_n hx hb dX5_came_11 rfl (lv_at hl 0 rfl) ?_
      cases h
      exact hret _ _ _ _ hP hD hS dX5_came_12
  exact key _ (fun H locs pc ls hP hD hS hd => W.iret hx hb hr (fun t ht hW => ⟨⟨_, (), rfl, rfl, by show _ ∧ _; rw [ht]; exact ⟨hP, hD⟩⟩, hS.F ht⟩) hS.2.2 hd)
set_option maxHeartbeats 4000000 in
set_option maxRecDepth 100000 in
theorem kX5_did (l : Launch) (D : va_G) (T : Nat → ClassId) (F : Nat) (ad : Nat → Nat) (rs : Nat → Int32) (rm : Nat → Nat → Int32) (ts : Nat → Int32) (tm : Nat → Nat → Int32) (rdue : Int32) (rtun : Int32) (rsee : Int32) (rbeg : Int32) (psize : Int32) (pclause : Int32) (peff : Nat → Int32) (pkin : Nat → Int32) (pgri : Nat → Int32) (psig : Nat → Int32) (psee : Nat → Int32) (qsize : Int32) (qclause : Int32) (qeff : Nat → Int32) (qkin : Nat → Int32) (qgri : Nat → Int32) (qsig : Nat → Int32) (qsee : Nat → Int32) (cdee : Int32) (cnow : Int64) (cahe : Nat → Int64) (kdee : Nat → Int32) (know : Nat → Int64) (kahe : Nat → Nat → Int64) (fc : Nat → Int32) (lf : Int32) (told : Int32) (up : Int64) (lo : Int64) (x1 : Int32) (x2 : Int32) (x3 : Int32) (x4 : Int32) (r : Int32) (h : fX5_did F psize pkin x1 x2 x3 x4 = some (r)) : Met l yX5_did wsX5_did ({ frames := 3, cells := 0, slots := 0, locals := 75 } : Room) (va_Pc [.ref (ad 0), .int x1, .int x2, .int x3, .int x4] (fun U => va_P D vwCl (wPW T ad (ad 6) (ad 12) rs rm ts tm rdue rtun rsee rbeg psize pclause peff pkin pgri psig psee qsize qclause qeff qkin qgri qsig qsee cdee cnow cahe kdee know kahe fc lf told up lo) U.heap ∧ KK D T U)) (vp_Si (fun r' => r' = r)) 0 0 (fun _ => False) := by
  refine Met.ofW (cc := cX5_did) (maxL := 7) (ret := some .int) (by decide) rfl ?_
  intro p e s m args below meth c s₁ B hml hv
  obtain ⟨ha, hP, hKK⟩ := hv
  have hx := B.exec
  have hb := B.bytes
  have hr := B.returns
  have hts := atoms_spec (ws := wsX5_did) B.pre
  have hown : s.vm.findClass RX5 = some m.cls := findClass_of_methodNamed B.named
  have hlocks := B.notSynchronized
  have hK := hKK.1
  have hFix : CallFix p m c cX5_did 7 s args wsX5_did RX5 := ⟨hx, hb, hml, hown, hts⟩
  have q1 := hts _ (List.mem_of_getElem? (i := 1) (show wsX5_did[1]? = some (Cond.fieldLink RX5 36 "PartyWill" "party" "LPartyWill$Party;") from rfl))
  have q13 := hts _ (List.mem_of_getElem? (i := 13) (show wsX5_did[13]? = some (Cond.static yX2_griefBehind) from rfl))
  have q14 := hts _ (List.mem_of_getElem? (i := 14) (show wsX5_did[14]? = some (Cond.initialized RX2) from rfl))
  have iX2 : ∀ w ∈ u_ws RX2 TX2 7, w ∈ wsX5_did := fun w h => List.mem_cons_of_mem _ (List.mem_append_right _ (h))
  have iX5 : ∀ w ∈ u_ws RX5 TX5 14, w ∈ wsX5_did := fun w h => List.mem_cons_of_mem _ (List.mem_append_left _ (List.mem_append_right _ (h)))
  obtain ⟨ls, hl, e0⟩ := my_entry (m := m) (n := 7) ha (Nat.le_of_ble_eq_true rfl)
  rw [e0]
  have hl : lv_has ls 7 [(0, .ref (ad 0)), (1, .int x1), (2, .int x2), (3, .int x3), (4, .int x4)] := hl
  have key : ∀ Q : State → Prop, (∀ (pc : Nat) (ls : Array Slot), decode cX5_did pc = .ok (.ireturn, 1) → W p l e ({ frames := 3, cells := 0, slots := 0, locals := 75 } : Room) s m args below meth c s.heap [] 0 0 Q (F0 m pc ls [.int r])) → W p l e ({ frames := 3, cells := 0, slots := 0, locals := 75 } : Room) s m args below meth c s.heap [] 0 0 Q (F0 m 0 ls []) := by
    intro Q hret
    have l39 : ∀ x1 : Int32, ∀ x2 : Int32, ∀ x3 : Int32, ∀ x4 : Int32, ∀ nu : Nat, ∀ x5 : Int32, ∀ x6 : Int32, fX5_did_l39 F psize pkin x1 x2 x3 x4 nu x5 x6 = some (r) → ∀ (ls : Array Slot), lv_has ls 7 [(0, .ref (ad 0)), (1, .int x1), (2, .int x2), (3, .int x3), (4, .int x4), (5, .int x5), (6, .int x6)] → W p l e ({ frames := 3, cells := 0, slots := 0, locals := 75 } : Room) s m args below meth c s.heap [] 0 0 Q (F0 m 39 ls []) := by
      intro x1 x2 x3 x4
      intro nu
      induction nu with
      | zero => intro x5 x6 h; exact none_some h
      | succ nu39 ih39 =>
        intro x5 x6 h ls hl
        have h : fX5_did_l39_b F psize pkin x1 x2 x3 x4 (fX5_did_l39 F psize pkin x1 x2 x3 x4 nu39) x5 x6 = some (r) := h
        unfold fX5_did_l39_b at h
        refine lv_iload hx hb dX5_did_39 (lv_at hl 6 rfl) ?_
        refine lv_iconst (v := (5 : Int32)) hx hb dX5_did_41 (by decide) ?_
        refine lv_icmp_gt (tgt := 84) hx hb dX5_did_42 (by decide) (fun c42 => ?_) (fun c42 => ?_)
        · have h := br_1 h c42
          refine lv_iload hx hb dX5_did_84 (lv_at hl 5 rfl) ?_
          cases h
          exact hret _ _ dX5_did_86
        · have h := br_0 h c42
          refine lv_aload_n hx hb dX5_did_45 rfl (lv_at hl 0 rfl) ?_
          refine va_get (D := D) (ci := 3) (C := RX5) (T := TX5) (N := 14) hx hb hts iX5 hown hK hP 0 wPW_0 rfl 5 (by decide) q1 (fun _ h9 => h9) rfl dX5_did_46 ?_
          refine va_getN (host := "PartyWill") (D := D) (ci := 1) (C := RX2) (T := TX2) (N := 7) hx hb hts iX2 hown hK hP 6 wPW_6 rfl 3 (by decide) (va_Nw.use rfl (nw_X5_120 hKK.2)) (fun _ h9 => h9) rfl dX5_did_49 ?_
          refine lv_iload_n hx hb dX5_did_52 rfl (lv_at hl 1 rfl) ?_
          obtain ⟨hin1, h⟩ := ck_some h
          refine va_iald hx hb hK hP 8 0 wPW_8 rfl hin1 dX5_did_53 ?_
          refine lv_iload_n hx hb dX5_did_54 rfl (lv_at hl 2 rfl) ?_
          refine lv_iload hx hb dX5_did_55 (lv_at hl 6 rfl) ?_
          refine lv_iload_n hx hb dX5_did_57 rfl (lv_at hl 3 rfl) ?_
          obtain ⟨r58, hc, h⟩ := bd1_some h
          refine my_roi (va_Run.run (va_runSN (host := "PartyWill") (As := [.int (pkin x1.toNatClampNeg), .int x2, .int x6, .int x3]) (rest := []) hFix (kX2_griefBehind l D T F (pkin x1.toNatClampNeg) x2 x6 x3 r58 hc) ⟨va_cnB 4 hts gX5_did_X2_griefBehind_n242 rfl rfl rfl (nw_X5_242 hKK.2) q14 hd_X2_griefBehind ⟨Nat.le_of_ble_eq_true rfl, Nat.le_of_ble_eq_true rfl⟩, q13, trivial⟩ (preS_ro va_nil hKK) rfl rfl hl.1 rfl (lv_room (Nat.le_of_ble_eq_true rfl)) dX5_did_58 ⟨Nat.zero_le _, Nat.zero_le _⟩)) ?_
          refine lv_iload hx hb dX5_did_61 (lv_at hl 4 rfl) ?_
          refine lv_icmp_ne (tgt := 78) hx hb dX5_did_63 (by decide) (fun c63 => ?_) (fun c63 => ?_)
          · have h := br_0 h c63
            refine lv_iinc (v := (x6 + (1 : Int32))) (lv' := [(6, .int (x6 + (1 : Int32))), (0, .ref (ad 0)), (1, .int x1), (2, .int x2), (3, .int x3), (4, .int x4), (5, .int x5)]) hx hb dX5_did_78 hl (k := 6) rfl rfl (by decide) rfl (fun ls hl => ?_)
            refine lv_goto (tgt := 39) hx hb dX5_did_81 (by decide) ?_
            exact ih39 x5 (x6 + (1 : Int32)) h _ (lv_sub hl [1, 2, 3, 4, 5, 6, 0] rfl)
          · have h := br_1 h c63
            refine lv_iload hx hb dX5_did_66 (lv_at hl 5 rfl) ?_
            refine lv_iconst (v := (1 : Int32)) hx hb dX5_did_68 (by decide) ?_
            refine lv_iload hx hb dX5_did_69 (lv_at hl 6 rfl) ?_
            refine lv_bipush (v := (-4 : Int32)) hx hb dX5_did_71 (by decide) ?_
            refine lv_isub hx hb dX5_did_73 ?_
            refine lv_ishl hx hb dX5_did_74 ?_
            refine lv_ior hx hb dX5_did_75 ?_
            refine lv_istore (lv' := [(5, .int (x5 ||| ((1 : Int32) <<< ((x6 - (-4 : Int32)) &&& 31)))), (0, .ref (ad 0)), (1, .int x1), (2, .int x2), (3, .int x3), (4, .int x4), (6, .int x6)]) hx hb dX5_did_76 hl (by decide) rfl (fun ls hl => ?_)
            refine lv_iinc (v := (x6 + (1 : Int32))) (lv' := [(6, .int (x6 + (1 : Int32))), (5, .int (x5 ||| ((1 : Int32) <<< ((x6 - (-4 : Int32)) &&& 31)))), (0, .ref (ad 0)), (1, .int x1), (2, .int x2), (3, .int x3), (4, .int x4)]) hx hb dX5_did_78 hl (k := 6) rfl rfl (by decide) rfl (fun ls hl => ?_)
            refine lv_goto (tgt := 39) hx hb dX5_did_81 (by decide) ?_
            exact ih39 (x5 ||| ((1 : Int32) <<< ((x6 - (-4 : Int32)) &&& 31))) (x6 + (1 : Int32)) h _ (lv_sub hl [2, 3, 4, 5, 6, 1, 0] rfl)
    unfold fX5_did at h
    refine lv_aload_n hx hb dX5_did_0 rfl (lv_at hl 0 rfl) ?_
    refine lv_iload_n hx hb dX5_did_1 rfl (lv_at hl 1 rfl) ?_
    obtain ⟨r2, hc, h⟩ := bd1_some h
    refine my_roz (va_Run.run (va_runV (As := [.int x1]) (rest := []) hFix (kX5_isGuest l D T F ad (ad 6) (ad 12) rs rm ts tm rdue rtun rsee rbeg psize pclause peff pkin pgri psig psee qsize qclause qeff qkin qgri qsig qsee cdee cnow cahe kdee know kahe fc lf told up lo x1 r2 hc) (cwV 1 hts gX5_did_X5_isGuest rfl rfl rfl ⟨rfl, hd_X5_isGuest⟩ ⟨Nat.le_of_ble_eq_true rfl, Nat.le_of_ble_eq_true rfl⟩) (preV_ro hP hKK (va_recv hK hP (ci := 3) (q0 := 0) rfl wPW_0)) rfl rfl hl.1 rfl (lv_room (Nat.le_of_ble_eq_true rfl)) dX5_did_2 ⟨Nat.zero_le _, Nat.zero_le _⟩)) (fun hb2 => ?_)
    refine lv_if_eq (tgt := 30) hx hb dX5_did_5 (by decide) (fun c5 => ?_) (fun c5 => ?_)
    · have h := br_1 h c5
      refine lv_iconst (v := (-1 : Int32)) hx hb dX5_did_30 (by decide) ?_
      cases h
      exact hret _ _ dX5_did_31
    · have h := br_0 h c5
      refine lv_iload_n hx hb dX5_did_8 rfl (lv_at hl 2 rfl) ?_
      obtain ⟨r9, hc, h⟩ := bd1_some h
      refine my_roz (va_Run.run (va_runS (As := [.int x2]) (rest := []) hFix (kX5_isTune l D T F x2 r9 hc) (va_cwS 1 hts gX5_did_X5_isTune rfl rfl rfl hd_X5_isTune ⟨Nat.le_of_ble_eq_true rfl, Nat.le_of_ble_eq_true rfl⟩) (preS_ro va_nil hKK) rfl rfl hl.1 rfl (lv_room (Nat.le_of_ble_eq_true rfl)) dX5_did_9 ⟨Nat.zero_le _, Nat.zero_le _⟩)) (fun hb9 => ?_)
      refine lv_if_eq (tgt := 30) hx hb dX5_did_12 (by decide) (fun c12 => ?_) (fun c12 => ?_)
      · have h := br_1 h c12
        refine lv_iconst (v := (-1 : Int32)) hx hb dX5_did_30 (by decide) ?_
        cases h
        exact hret _ _ dX5_did_31
      · have h := br_0 h c12
        refine lv_iload_n hx hb dX5_did_15 rfl (lv_at hl 3 rfl) ?_
        obtain ⟨r16, hc, h⟩ := bd1_some h
        refine my_roz (va_Run.run (va_runS (As := [.int x3]) (rest := []) hFix (kX5_isGrief l D T F x3 r16 hc) (va_cwS 1 hts gX5_did_X5_isGrief rfl rfl rfl hd_X5_isGrief ⟨Nat.le_of_ble_eq_true rfl, Nat.le_of_ble_eq_true rfl⟩) (preS_ro va_nil hKK) rfl rfl hl.1 rfl (lv_room (Nat.le_of_ble_eq_true rfl)) dX5_did_16 ⟨Nat.zero_le _, Nat.zero_le _⟩)) (fun hb16 => ?_)
        refine lv_if_eq (tgt := 30) hx hb dX5_did_19 (by decide) (fun c19 => ?_) (fun c19 => ?_)
        · have h := br_1 h c19
          refine lv_iconst (v := (-1 : Int32)) hx hb dX5_did_30 (by decide) ?_
          cases h
          exact hret _ _ dX5_did_31
        · have h := br_0 h c19
          refine lv_iload hx hb dX5_did_22 (lv_at hl 4 rfl) ?_
          obtain ⟨r24, hc, h⟩ := bd1_some h
          refine my_roz (va_Run.run (va_runS (As := [.int x4]) (rest := []) hFix (kX5_isGrief l D T F x4 r24 hc) (va_cwS 1 hts gX5_did_X5_isGrief rfl rfl rfl hd_X5_isGrief ⟨Nat.le_of_ble_eq_true rfl, Nat.le_of_ble_eq_true rfl⟩) (preS_ro va_nil hKK) rfl rfl hl.1 rfl (lv_room (Nat.le_of_ble_eq_true rfl)) dX5_did_24 ⟨Nat.zero_le _, Nat.zero_le _⟩)) (fun hb24 => ?_)
          refine lv_if_ne (tgt := 32) hx hb dX5_did_27 (by decide) (fun c27 => ?_) (fun c27 => ?_)
          · have h := br_0 h c27
            refine lv_iconst (v := (0 : Int32)) hx hb dX5_did_32 (by decide) ?_
            refine lv_istore (lv' := [(5, .int (0 : Int32)), (0, .ref (ad 0)), (1, .int x1), (2, .int x2), (3, .int x3), (4, .int x4)]) hx hb dX5_did_33 hl (by decide) rfl (fun ls hl => ?_)
            refine lv_bipush (v := (-4 : Int32)) hx hb dX5_did_35 (by decide) ?_
            refine lv_istore (lv' := [(6, .int (-4 : Int32)), (5, .int (0 : Int32)), (0, .ref (ad 0)), (1, .int x1), (2, .int x2), (3, .int x3), (4, .int x4)]) hx hb dX5_did_37 hl (by decide) rfl (fun ls hl => ?_)
            exact l39 x1 x2 x3 x4 F (0 : Int32) (-4 : Int32) h _ (lv_sub hl [2, 3, 4, 5, 6, 1, 0] rfl)
          · have h := br_1 h c27
            refine lv_iconst (v := (-1 : Int32)) hx hb dX5_did_30 (by decide) ?_
            cases h
            exact hret _ _ dX5_did_31
  exact key _ (fun pc ls hd => W.iret hx hb hr (fun t ht hW => ⟨_, rfl, rfl, ht⟩) (fun q h => by cases h) hd)
set_option maxHeartbeats 4000000 in
set_option maxRecDepth 100000 in
theorem kX5_wept (l : Launch) (D : va_G) (T : Nat → ClassId) (F : Nat) (ad : Nat → Nat) (rs : Nat → Int32) (rm : Nat → Nat → Int32) (ts : Nat → Int32) (tm : Nat → Nat → Int32) (rdue : Int32) (rtun : Int32) (rsee : Int32) (rbeg : Int32) (psize : Int32) (pclause : Int32) (peff : Nat → Int32) (pkin : Nat → Int32) (pgri : Nat → Int32) (psig : Nat → Int32) (psee : Nat → Int32) (qsize : Int32) (qclause : Int32) (qeff : Nat → Int32) (qkin : Nat → Int32) (qgri : Nat → Int32) (qsig : Nat → Int32) (qsee : Nat → Int32) (cdee : Int32) (cnow : Int64) (cahe : Nat → Int64) (kdee : Nat → Int32) (know : Nat → Int64) (kahe : Nat → Nat → Int64) (fc : Nat → Int32) (lf : Int32) (told : Int32) (up : Int64) (lo : Int64) (x1 : Int32) (r : Int32) (h : fX5_wept F psize psee cnow x1 = some (r)) : Met l yX5_wept wsX5_wept ({ frames := 2, cells := 0, slots := 0, locals := 44 } : Room) (va_Pc [.ref (ad 0), .int x1] (fun U => va_P D vwCl (wPW T ad (ad 6) (ad 12) rs rm ts tm rdue rtun rsee rbeg psize pclause peff pkin pgri psig psee qsize qclause qeff qkin qgri qsig qsee cdee cnow cahe kdee know kahe fc lf told up lo) U.heap ∧ KK D T U)) (vp_Si (fun r' => r' = r)) 0 0 (fun _ => False) := by
  refine Met.ofW (cc := cX5_wept) (maxL := 5) (ret := some .int) (by decide) rfl ?_
  intro p e s m args below meth c s₁ B hml hv
  obtain ⟨ha, hP, hKK⟩ := hv
  have hx := B.exec
  have hb := B.bytes
  have hr := B.returns
  have hts := atoms_spec (ws := wsX5_wept) B.pre
  have hown : s.vm.findClass RX5 = some m.cls := findClass_of_methodNamed B.named
  have hlocks := B.notSynchronized
  have hK := hKK.1
  have hFix : CallFix p m c cX5_wept 5 s args wsX5_wept RX5 := ⟨hx, hb, hml, hown, hts⟩
  have q1 := hts _ (List.mem_of_getElem? (i := 1) (show wsX5_wept[1]? = some (Cond.fieldLink RX5 36 "PartyWill" "party" "LPartyWill$Party;") from rfl))
  have q2 := hts _ (List.mem_of_getElem? (i := 2) (show wsX5_wept[2]? = some (Cond.fieldLink RX5 46 "PartyWill" "course" "LPartyWill$Course;") from rfl))
  have q3 := hts _ (List.mem_of_getElem? (i := 3) (show wsX5_wept[3]? = some (Cond.instanceMethod yX2_watchers) from rfl))
  have q4 := hts _ (List.mem_of_getElem? (i := 4) (show wsX5_wept[4]? = some (Cond.initialized RX2) from rfl))
  have q5 := hts _ (List.mem_of_getElem? (i := 5) (show wsX5_wept[5]? = some (Cond.selects RX2 yX2_watchers yX2_watchers) from rfl))
  have q9 := hts _ (List.mem_of_getElem? (i := 9) (show wsX5_wept[9]? = some (Cond.initialized RX1) from rfl))
  have q11 := hts _ (List.mem_of_getElem? (i := 11) (show wsX5_wept[11]? = some (Cond.static yX1_isIn) from rfl))
  have iX0 : ∀ w ∈ u_ws RX0 TX0 3, w ∈ wsX5_wept := fun w h => List.mem_cons_of_mem _ (List.mem_append_right _ (h))
  have iX2 : ∀ w ∈ u_ws RX2 TX2 7, w ∈ wsX5_wept := fun w h => List.mem_cons_of_mem _ (List.mem_append_left _ (List.mem_append_right _ (h)))
  have iX5 : ∀ w ∈ u_ws RX5 TX5 14, w ∈ wsX5_wept := fun w h => List.mem_cons_of_mem _ (List.mem_append_left _ (List.mem_append_left _ (List.mem_append_right _ (h))))
  obtain ⟨ls, hl, e0⟩ := my_entry (m := m) (n := 5) ha (Nat.le_of_ble_eq_true rfl)
  rw [e0]
  have hl : lv_has ls 5 [(0, .ref (ad 0)), (1, .int x1)] := hl
  have key : ∀ Q : State → Prop, (∀ (pc : Nat) (ls : Array Slot), decode cX5_wept pc = .ok (.ireturn, 1) → W p l e ({ frames := 2, cells := 0, slots := 0, locals := 44 } : Room) s m args below meth c s.heap [] 0 0 Q (F0 m pc ls [.int r])) → W p l e ({ frames := 2, cells := 0, slots := 0, locals := 44 } : Room) s m args below meth c s.heap [] 0 0 Q (F0 m 0 ls []) := by
    intro Q hret
    have l23 : ∀ x1 : Int32, ∀ nu : Nat, ∀ x2 : Int32, ∀ x3 : Int32, fX5_wept_l23 F psize psee cnow x1 nu x2 x3 = some (r) → ∀ (ls : Array Slot), lv_has ls 5 [(0, .ref (ad 0)), (1, .int x1), (2, .int x2), (3, .int x3)] → W p l e ({ frames := 2, cells := 0, slots := 0, locals := 44 } : Room) s m args below meth c s.heap [] 0 0 Q (F0 m 23 ls []) := by
      intro x1
      intro nu
      induction nu with
      | zero => intro x2 x3 h; exact none_some h
      | succ nu23 ih23 =>
        intro x2 x3 h ls hl
        have h : fX5_wept_l23_b F psize psee cnow x1 (fX5_wept_l23 F psize psee cnow x1 nu23) x2 x3 = some (r) := h
        unfold fX5_wept_l23_b at h
        refine lv_iload_n hx hb dX5_wept_23 rfl (lv_at hl 3 rfl) ?_
        refine lv_aload_n hx hb dX5_wept_24 rfl (lv_at hl 0 rfl) ?_
        refine va_get (D := D) (ci := 3) (C := RX5) (T := TX5) (N := 14) hx hb hts iX5 hown hK hP 0 wPW_0 rfl 5 (by decide) q1 (fun _ h9 => h9) rfl dX5_wept_25 ?_
        refine va_getN (host := "PartyWill") (D := D) (ci := 1) (C := RX2) (T := TX2) (N := 7) hx hb hts iX2 hown hK hP 6 wPW_6 rfl 0 (by decide) (va_Nw.use rfl (nw_X5_111 hKK.2)) (fun _ h9 => h9) rfl dX5_wept_28 ?_
        refine lv_icmp_ge (tgt := 91) hx hb dX5_wept_31 (by decide) (fun c31 => ?_) (fun c31 => ?_)
        · have h := br_1 h c31
          refine lv_iload_n hx hb dX5_wept_91 rfl (lv_at hl 2 rfl) ?_
          cases h
          exact hret _ _ dX5_wept_92
        · have h := br_0 h c31
          refine lv_aload_n hx hb dX5_wept_34 rfl (lv_at hl 0 rfl) ?_
          refine va_get (D := D) (ci := 3) (C := RX5) (T := TX5) (N := 14) hx hb hts iX5 hown hK hP 0 wPW_0 rfl 5 (by decide) q1 (fun _ h9 => h9) rfl dX5_wept_35 ?_
          refine lv_aload_n hx hb dX5_wept_38 rfl (lv_at hl 0 rfl) ?_
          refine va_get (D := D) (ci := 3) (C := RX5) (T := TX5) (N := 14) hx hb hts iX5 hown hK hP 0 wPW_0 rfl 7 (by decide) q2 (fun _ h9 => h9) rfl dX5_wept_39 ?_
          refine va_getN (host := "PartyWill") (D := D) (ci := 0) (C := RX0) (T := TX0) (N := 3) hx hb hts iX0 hown hK hP 18 wPW_18 rfl 1 (by decide) (va_Nw.use rfl (nw_X5_127 hKK.2)) (fun _ h9 => h9) rfl dX5_wept_42 ?_
          refine lv_iload_n hx hb dX5_wept_45 rfl (lv_at hl 3 rfl) ?_
          obtain ⟨r46, hc, h⟩ := bd1_some h
          have hPc : va_P D vwCl (wPa T (ad 6) (ad 7) (ad 8) (ad 9) (ad 10) (ad 11) psize pclause peff pkin pgri psig psee) s.heap := my_subP sb_wPW_wPa_6to11 hP
          refine my_roi (va_Run.run (va_runVN (host := "PartyWill") (As := [.long cnow, .int x3]) (rest := []) hFix (kX2_watchers l D T F (ad 6) (ad 7) (ad 8) (ad 9) (ad 10) (ad 11) psize pclause peff pkin pgri psig psee cnow x3 r46 hc) ⟨va_cnB 2 hts gX5_wept_X2_watchers_n246 rfl rfl rfl (nw_X5_246 hKK.2) q4 hd_X2_watchers ⟨Nat.le_of_ble_eq_true rfl, Nat.le_of_ble_eq_true rfl⟩, q3, q5⟩ (preV_ro hPc hKK (va_recv hK hP (ci := 1) (q0 := 6) rfl wPW_6)) rfl rfl hl.1 rfl (lv_room (Nat.le_of_ble_eq_true rfl)) dX5_wept_46 ⟨Nat.zero_le _, Nat.zero_le _⟩)) ?_
          refine lv_istore (lv' := [(4, .int r46), (0, .ref (ad 0)), (1, .int x1), (2, .int x2), (3, .int x3)]) hx hb dX5_wept_49 hl (by decide) rfl (fun ls hl => ?_)
          refine lv_aload_n hx hb dX5_wept_51 rfl (lv_at hl 1 rfl) ?_
          refine va_get (D := D) (ci := 3) (C := RX5) (T := TX5) (N := 14) hx hb hts iX5 hown hK hP 0 wPW_0 rfl 7 (by decide) q2 (fun _ h9 => h9) rfl dX5_wept_52 ?_
          refine va_getN (host := "PartyWill") (D := D) (ci := 0) (C := RX0) (T := TX0) (N := 3) hx hb hts iX0 hown hK hP 18 wPW_18 rfl 1 (by decide) (va_Nw.use rfl (nw_X5_127 hKK.2)) (fun _ h9 => h9) rfl dX5_wept_55 ?_
          refine lv_iload_n hx hb dX5_wept_58 rfl (lv_at hl 4 rfl) ?_
          obtain ⟨r59, hc, h⟩ := bd1_some h
          refine my_roz (va_Run.run (va_runSN (host := "PartyWill") (As := [.long cnow, .int x3]) (rest := []) hFix (kX1_isIn l D T F cnow x3 r59 hc) ⟨va_cnB 2 hts gX5_wept_X1_isIn_n130 rfl rfl rfl (nw_X5_130 hKK.2) q9 hd_X1_isIn ⟨Nat.le_of_ble_eq_true rfl, Nat.le_of_ble_eq_true rfl⟩, q11, trivial⟩ (preS_ro va_nil hKK) rfl rfl hl.1 rfl (lv_room (Nat.le_of_ble_eq_true rfl)) dX5_wept_59 ⟨Nat.zero_le _, Nat.zero_le _⟩)) (fun hb59 => ?_)
          refine lv_if_eq (tgt := 85) hx hb dX5_wept_62 (by decide) (fun c62 => ?_) (fun c62 => ?_)
          · have h := br_1 h c62
            refine lv_iinc (v := (x3 + (1 : Int32))) (lv' := [(3, .int (x3 + (1 : Int32))), (4, .int r46), (0, .ref (ad 0)), (1, .int x1), (2, .int x2)]) hx hb dX5_wept_85 hl (k := 4) rfl rfl (by decide) rfl (fun ls hl => ?_)
            refine lv_goto (tgt := 23) hx hb dX5_wept_88 (by decide) ?_
            exact ih23 x2 (x3 + (1 : Int32)) h _ (lv_sub hl [2, 3, 4, 0] rfl)
          · have h := br_0 h c62
            refine lv_iload hx hb dX5_wept_65 (lv_at hl 0 rfl) ?_
            refine lv_if_eq (tgt := 85) hx hb dX5_wept_67 (by decide) (fun c67 => ?_) (fun c67 => ?_)
            · have h := br_1 h c67
              refine lv_iinc (v := (x3 + (1 : Int32))) (lv' := [(3, .int (x3 + (1 : Int32))), (4, .int r46), (0, .ref (ad 0)), (1, .int x1), (2, .int x2)]) hx hb dX5_wept_85 hl (k := 4) rfl rfl (by decide) rfl (fun ls hl => ?_)
              refine lv_goto (tgt := 23) hx hb dX5_wept_88 (by decide) ?_
              exact ih23 x2 (x3 + (1 : Int32)) h _ (lv_sub hl [2, 3, 4, 0] rfl)
            · have h := br_0 h c67
              refine lv_iload hx hb dX5_wept_70 (lv_at hl 0 rfl) ?_
              refine lv_iload_n hx hb dX5_wept_72 rfl (lv_at hl 2 rfl) ?_
              refine lv_iconst (v := (-1 : Int32)) hx hb dX5_wept_73 (by decide) ?_
              refine lv_ixor hx hb dX5_wept_74 ?_
              refine lv_iand hx hb dX5_wept_75 ?_
              refine lv_if_ne (tgt := 85) hx hb dX5_wept_76 (by decide) (fun c76 => ?_) (fun c76 => ?_)
              · have h := br_0 h c76
                refine lv_iinc (v := (x3 + (1 : Int32))) (lv' := [(3, .int (x3 + (1 : Int32))), (4, .int r46), (0, .ref (ad 0)), (1, .int x1), (2, .int x2)]) hx hb dX5_wept_85 hl (k := 4) rfl rfl (by decide) rfl (fun ls hl => ?_)
                refine lv_goto (tgt := 23) hx hb dX5_wept_88 (by decide) ?_
                exact ih23 x2 (x3 + (1 : Int32)) h _ (lv_sub hl [2, 3, 4, 0] rfl)
              · have h := br_1 h c76
                refine lv_iload_n hx hb dX5_wept_79 rfl (lv_at hl 3 rfl) ?_
                refine lv_iconst (v := (1 : Int32)) hx hb dX5_wept_80 (by decide) ?_
                refine lv_iload_n hx hb dX5_wept_81 rfl (lv_at hl 4 rfl) ?_
                refine lv_ishl hx hb dX5_wept_82 ?_
                refine lv_ior hx hb dX5_wept_83 ?_
                refine lv_istore_n (lv' := [(2, .int (x2 ||| ((1 : Int32) <<< (x3 &&& 31)))), (4, .int r46), (0, .ref (ad 0)), (1, .int x1), (3, .int x3)]) hx hb dX5_wept_84 rfl hl (by decide) rfl (fun ls hl => ?_)
                refine lv_iinc (v := (x3 + (1 : Int32))) (lv' := [(3, .int (x3 + (1 : Int32))), (2, .int (x2 ||| ((1 : Int32) <<< (x3 &&& 31)))), (4, .int r46), (0, .ref (ad 0)), (1, .int x1)]) hx hb dX5_wept_85 hl (k := 4) rfl rfl (by decide) rfl (fun ls hl => ?_)
                refine lv_goto (tgt := 23) hx hb dX5_wept_88 (by decide) ?_
                exact ih23 (x2 ||| ((1 : Int32) <<< (x3 &&& 31))) (x3 + (1 : Int32)) h _ (lv_sub hl [3, 4, 1, 0] rfl)
    unfold fX5_wept at h
    refine lv_iload_n hx hb dX5_wept_0 rfl (lv_at hl 1 rfl) ?_
    refine lv_if_lt (tgt := 17) hx hb dX5_wept_1 (by decide) (fun c1 => ?_) (fun c1 => ?_)
    · have h := br_1 h c1
      refine lv_iconst (v := (-1 : Int32)) hx hb dX5_wept_17 (by decide) ?_
      cases h
      exact hret _ _ dX5_wept_18
    · have h := br_0 h c1
      refine lv_iload_n hx hb dX5_wept_4 rfl (lv_at hl 1 rfl) ?_
      refine lv_iconst (v := (1 : Int32)) hx hb dX5_wept_5 (by decide) ?_
      refine lv_aload_n hx hb dX5_wept_6 rfl (lv_at hl 0 rfl) ?_
      refine va_get (D := D) (ci := 3) (C := RX5) (T := TX5) (N := 14) hx hb hts iX5 hown hK hP 0 wPW_0 rfl 5 (by decide) q1 (fun _ h9 => h9) rfl dX5_wept_7 ?_
      refine va_getN (host := "PartyWill") (D := D) (ci := 1) (C := RX2) (T := TX2) (N := 7) hx hb hts iX2 hown hK hP 6 wPW_6 rfl 0 (by decide) (va_Nw.use rfl (nw_X5_111 hKK.2)) (fun _ h9 => h9) rfl dX5_wept_10 ?_
      refine lv_ishl hx hb dX5_wept_13 ?_
      refine lv_icmp_lt (tgt := 19) hx hb dX5_wept_14 (by decide) (fun c14 => ?_) (fun c14 => ?_)
      · have h := br_1 h c14
        refine lv_iconst (v := (0 : Int32)) hx hb dX5_wept_19 (by decide) ?_
        refine lv_istore_n (lv' := [(2, .int (0 : Int32)), (0, .ref (ad 0)), (1, .int x1)]) hx hb dX5_wept_20 rfl hl (by decide) rfl (fun ls hl => ?_)
        refine lv_iconst (v := (0 : Int32)) hx hb dX5_wept_21 (by decide) ?_
        refine lv_istore_n (lv' := [(3, .int (0 : Int32)), (2, .int (0 : Int32)), (0, .ref (ad 0)), (1, .int x1)]) hx hb dX5_wept_22 rfl hl (by decide) rfl (fun ls hl => ?_)
        exact l23 x1 F (0 : Int32) (0 : Int32) h _ (lv_sub hl [2, 3, 1, 0] rfl)
      · have h := br_0 h c14
        refine lv_iconst (v := (-1 : Int32)) hx hb dX5_wept_17 (by decide) ?_
        cases h
        exact hret _ _ dX5_wept_18
  exact key _ (fun pc ls hd => W.iret hx hb hr (fun t ht hW => ⟨_, rfl, rfl, ht⟩) (fun q h => by cases h) hd)
set_option maxHeartbeats 4000000 in
set_option maxRecDepth 100000 in
theorem kX5_gets (l : Launch) (D : va_G) (T : Nat → ClassId) (F : Nat) (ad : Nat → Nat) (rs : Nat → Int32) (rm : Nat → Nat → Int32) (ts : Nat → Int32) (tm : Nat → Nat → Int32) (rdue : Int32) (rtun : Int32) (rsee : Int32) (rbeg : Int32) (psize : Int32) (pclause : Int32) (peff : Nat → Int32) (pkin : Nat → Int32) (pgri : Nat → Int32) (psig : Nat → Int32) (psee : Nat → Int32) (qsize : Int32) (qclause : Int32) (qeff : Nat → Int32) (qkin : Nat → Int32) (qgri : Nat → Int32) (qsig : Nat → Int32) (qsee : Nat → Int32) (cdee : Int32) (cnow : Int64) (cahe : Nat → Int64) (kdee : Nat → Int32) (know : Nat → Int64) (kahe : Nat → Nat → Int64) (fc : Nat → Int32) (lf : Int32) (told : Int32) (up : Int64) (lo : Int64) (x1 : Int32) (x2 : Int32) (r : Int32) (h : fX5_gets F psize cnow x1 x2 = some (r)) : Met l yX5_gets wsX5_gets ({ frames := 2, cells := 0, slots := 0, locals := 42 } : Room) (va_Pc [.ref (ad 0), .int x1, .int x2] (fun U => va_P D vwCl (wPW T ad (ad 6) (ad 12) rs rm ts tm rdue rtun rsee rbeg psize pclause peff pkin pgri psig psee qsize qclause qeff qkin qgri qsig qsee cdee cnow cahe kdee know kahe fc lf told up lo) U.heap ∧ KK D T U)) (vp_Si (fun r' => r' = r)) 0 0 (fun _ => False) := by
  refine Met.ofW (cc := cX5_gets) (maxL := 5) (ret := some .int) (by decide) rfl ?_
  intro p e s m args below meth c s₁ B hml hv
  obtain ⟨ha, hP, hKK⟩ := hv
  have hx := B.exec
  have hb := B.bytes
  have hr := B.returns
  have hts := atoms_spec (ws := wsX5_gets) B.pre
  have hown : s.vm.findClass RX5 = some m.cls := findClass_of_methodNamed B.named
  have hlocks := B.notSynchronized
  have hK := hKK.1
  have hFix : CallFix p m c cX5_gets 5 s args wsX5_gets RX5 := ⟨hx, hb, hml, hown, hts⟩
  have q1 := hts _ (List.mem_of_getElem? (i := 1) (show wsX5_gets[1]? = some (Cond.fieldLink RX5 46 "PartyWill" "course" "LPartyWill$Course;") from rfl))
  have q8 := hts _ (List.mem_of_getElem? (i := 8) (show wsX5_gets[8]? = some (Cond.static yX1_howManyIn) from rfl))
  have q9 := hts _ (List.mem_of_getElem? (i := 9) (show wsX5_gets[9]? = some (Cond.initialized RX1) from rfl))
  have q12 := hts _ (List.mem_of_getElem? (i := 12) (show wsX5_gets[12]? = some (Cond.static yX1_insiders) from rfl))
  have q21 := hts _ (List.mem_of_getElem? (i := 21) (show wsX5_gets[21]? = some (Cond.static yX1_isIn) from rfl))
  have iX0 : ∀ w ∈ u_ws RX0 TX0 3, w ∈ wsX5_gets := fun w h => List.mem_cons_of_mem _ (List.mem_append_left _ (List.mem_append_right _ (h)))
  have iX5 : ∀ w ∈ u_ws RX5 TX5 14, w ∈ wsX5_gets := fun w h => List.mem_cons_of_mem _ (List.mem_append_left _ (List.mem_append_left _ (List.mem_append_right _ (h))))
  obtain ⟨ls, hl, e0⟩ := my_entry (m := m) (n := 5) ha (Nat.le_of_ble_eq_true rfl)
  rw [e0]
  have hl : lv_has ls 5 [(0, .ref (ad 0)), (1, .int x1), (2, .int x2)] := hl
  have key : ∀ Q : State → Prop, (∀ (pc : Nat) (ls : Array Slot), decode cX5_gets pc = .ok (.ireturn, 1) → W p l e ({ frames := 2, cells := 0, slots := 0, locals := 42 } : Room) s m args below meth c s.heap [] 0 0 Q (F0 m pc ls [.int r])) → W p l e ({ frames := 2, cells := 0, slots := 0, locals := 42 } : Room) s m args below meth c s.heap [] 0 0 Q (F0 m 0 ls []) := by
    intro Q hret
    unfold fX5_gets at h
    refine lv_aload_n hx hb dX5_gets_0 rfl (lv_at hl 0 rfl) ?_
    refine lv_iload_n hx hb dX5_gets_1 rfl (lv_at hl 1 rfl) ?_
    obtain ⟨r2, hc, h⟩ := bd1_some h
    refine my_roz (va_Run.run (va_runV (As := [.int x1]) (rest := []) hFix (kX5_isGuest l D T F ad (ad 6) (ad 12) rs rm ts tm rdue rtun rsee rbeg psize pclause peff pkin pgri psig psee qsize qclause qeff qkin qgri qsig qsee cdee cnow cahe kdee know kahe fc lf told up lo x1 r2 hc) (cwV 1 hts gX5_gets_X5_isGuest rfl rfl rfl ⟨rfl, hd_X5_isGuest⟩ ⟨Nat.le_of_ble_eq_true rfl, Nat.le_of_ble_eq_true rfl⟩) (preV_ro hP hKK (va_recv hK hP (ci := 3) (q0 := 0) rfl wPW_0)) rfl rfl hl.1 rfl (lv_room (Nat.le_of_ble_eq_true rfl)) dX5_gets_2 ⟨Nat.zero_le _, Nat.zero_le _⟩)) (fun hb2 => ?_)
    refine lv_if_eq (tgt := 20) hx hb dX5_gets_5 (by decide) (fun c5 => ?_) (fun c5 => ?_)
    · have h := br_1 h c5
      refine lv_iconst (v := (-1 : Int32)) hx hb dX5_gets_20 (by decide) ?_
      cases h
      exact hret _ _ dX5_gets_21
    · have h := br_0 h c5
      refine lv_iload_n hx hb dX5_gets_8 rfl (lv_at hl 2 rfl) ?_
      refine lv_iconst (v := (1 : Int32)) hx hb dX5_gets_9 (by decide) ?_
      refine lv_icmp_lt (tgt := 20) hx hb dX5_gets_10 (by decide) (fun c10 => ?_) (fun c10 => ?_)
      · have h := br_1 h c10
        refine lv_iconst (v := (-1 : Int32)) hx hb dX5_gets_20 (by decide) ?_
        cases h
        exact hret _ _ dX5_gets_21
      · have h := br_0 h c10
        refine lv_iload_n hx hb dX5_gets_13 rfl (lv_at hl 2 rfl) ?_
        refine lv_sipush (v := (999 : Int32)) hx hb dX5_gets_14 (by decide) ?_
        refine lv_icmp_le (tgt := 22) hx hb dX5_gets_17 (by decide) (fun c17 => ?_) (fun c17 => ?_)
        · have h := br_1 h c17
          refine lv_aload_n hx hb dX5_gets_22 rfl (lv_at hl 0 rfl) ?_
          refine va_get (D := D) (ci := 3) (C := RX5) (T := TX5) (N := 14) hx hb hts iX5 hown hK hP 0 wPW_0 rfl 7 (by decide) q1 (fun _ h9 => h9) rfl dX5_gets_23 ?_
          refine va_getN (host := "PartyWill") (D := D) (ci := 0) (C := RX0) (T := TX0) (N := 3) hx hb hts iX0 hown hK hP 18 wPW_18 rfl 1 (by decide) (va_Nw.use rfl (nw_X5_127 hKK.2)) (fun _ h9 => h9) rfl dX5_gets_26 ?_
          obtain ⟨r29, hc, h⟩ := bd1_some h
          refine my_roi (va_Run.run (va_runSN (host := "PartyWill") (As := [.long cnow]) (rest := []) hFix (kX1_howManyIn l D T F cnow r29 hc) ⟨va_cnB 1 hts gX5_gets_X1_howManyIn_n207 rfl rfl rfl (nw_X5_207 hKK.2) q9 hd_X1_howManyIn ⟨Nat.le_of_ble_eq_true rfl, Nat.le_of_ble_eq_true rfl⟩, q8, trivial⟩ (preS_ro va_nil hKK) rfl rfl hl.1 rfl (lv_room (Nat.le_of_ble_eq_true rfl)) dX5_gets_29 ⟨Nat.zero_le _, Nat.zero_le _⟩)) ?_
          refine lv_istore_n (lv' := [(3, .int r29), (0, .ref (ad 0)), (1, .int x1), (2, .int x2)]) hx hb dX5_gets_32 rfl hl (by decide) rfl (fun ls hl => ?_)
          refine lv_aload_n hx hb dX5_gets_33 rfl (lv_at hl 1 rfl) ?_
          refine va_get (D := D) (ci := 3) (C := RX5) (T := TX5) (N := 14) hx hb hts iX5 hown hK hP 0 wPW_0 rfl 7 (by decide) q1 (fun _ h9 => h9) rfl dX5_gets_34 ?_
          refine va_getN (host := "PartyWill") (D := D) (ci := 0) (C := RX0) (T := TX0) (N := 3) hx hb hts iX0 hown hK hP 18 wPW_18 rfl 1 (by decide) (va_Nw.use rfl (nw_X5_127 hKK.2)) (fun _ h9 => h9) rfl dX5_gets_37 ?_
          refine lv_iload_n hx hb dX5_gets_40 rfl (lv_at hl 2 rfl) ?_
          obtain ⟨r41, hc, h⟩ := bd1_some h
          refine my_roz (va_Run.run (va_runSN (host := "PartyWill") (As := [.long cnow, .int x1]) (rest := []) hFix (kX1_isIn l D T F cnow x1 r41 hc) ⟨va_cnB 2 hts gX5_gets_X1_isIn_n130 rfl rfl rfl (nw_X5_130 hKK.2) q9 hd_X1_isIn ⟨Nat.le_of_ble_eq_true rfl, Nat.le_of_ble_eq_true rfl⟩, q21, trivial⟩ (preS_ro va_nil hKK) rfl rfl hl.1 rfl (lv_room (Nat.le_of_ble_eq_true rfl)) dX5_gets_41 ⟨Nat.zero_le _, Nat.zero_le _⟩)) (fun hb41 => ?_)
          refine lv_if_eq (tgt := 51) hx hb dX5_gets_44 (by decide) (fun c44 => ?_) (fun c44 => ?_)
          · have h := br_1 h c44
            refine lv_iconst (v := (0 : Int32)) hx hb dX5_gets_51 (by decide) ?_
            cases h
            exact hret _ _ dX5_gets_52
          · have h := br_0 h c44
            refine lv_iload_n hx hb dX5_gets_47 rfl (lv_at hl 0 rfl) ?_
            refine lv_if_gt (tgt := 53) hx hb dX5_gets_48 (by decide) (fun c48 => ?_) (fun c48 => ?_)
            · have h := br_1 h c48
              refine lv_aload_n hx hb dX5_gets_53 rfl (lv_at hl 1 rfl) ?_
              refine va_get (D := D) (ci := 3) (C := RX5) (T := TX5) (N := 14) hx hb hts iX5 hown hK hP 0 wPW_0 rfl 7 (by decide) q1 (fun _ h9 => h9) rfl dX5_gets_54 ?_
              refine va_getN (host := "PartyWill") (D := D) (ci := 0) (C := RX0) (T := TX0) (N := 3) hx hb hts iX0 hown hK hP 18 wPW_18 rfl 1 (by decide) (va_Nw.use rfl (nw_X5_127 hKK.2)) (fun _ h9 => h9) rfl dX5_gets_57 ?_
              obtain ⟨r60, hc, h⟩ := bd1_some h
              refine my_roi (va_Run.run (va_runSN (host := "PartyWill") (As := [.long cnow]) (rest := []) hFix (kX1_insiders l D T F cnow r60 hc) ⟨va_cnB 1 hts gX5_gets_X1_insiders_n158 rfl rfl rfl (nw_X5_158 hKK.2) q9 hd_X1_insiders ⟨Nat.le_of_ble_eq_true rfl, Nat.le_of_ble_eq_true rfl⟩, q12, trivial⟩ (preS_ro va_nil hKK) rfl rfl hl.1 rfl (lv_room (Nat.le_of_ble_eq_true rfl)) dX5_gets_60 ⟨Nat.zero_le _, Nat.zero_le _⟩)) ?_
              refine lv_iconst (v := (1 : Int32)) hx hb dX5_gets_63 (by decide) ?_
              refine lv_iload_n hx hb dX5_gets_64 rfl (lv_at hl 2 rfl) ?_
              refine lv_ishl hx hb dX5_gets_65 ?_
              refine lv_iconst (v := (1 : Int32)) hx hb dX5_gets_66 (by decide) ?_
              refine lv_isub hx hb dX5_gets_67 ?_
              refine lv_iand hx hb dX5_gets_68 ?_
              obtain ⟨r69, hc, h⟩ := bd1_some h
              refine my_roi (va_Run.run (va_runS (As := [.int (r60 &&& (((1 : Int32) <<< (x1 &&& 31)) - (1 : Int32)))]) (rest := []) hFix (kJ6_bitCount_0f7a4 l D T F (r60 &&& (((1 : Int32) <<< (x1 &&& 31)) - (1 : Int32))) r69 hc) (va_cwS 1 hts gX5_gets_J6_bitCount_0f7a4 rfl rfl rfl hd_J6_bitCount_0f7a4 ⟨Nat.le_of_ble_eq_true rfl, Nat.le_of_ble_eq_true rfl⟩) (preS_ro va_nil hKK) rfl rfl hl.1 rfl (lv_room (Nat.le_of_ble_eq_true rfl)) dX5_gets_69 ⟨Nat.zero_le _, Nat.zero_le _⟩)) ?_
              refine lv_istore (lv' := [(4, .int r69), (3, .int r29), (0, .ref (ad 0)), (1, .int x1), (2, .int x2)]) hx hb dX5_gets_72 hl (by decide) rfl (fun ls hl => ?_)
              refine lv_iload_n hx hb dX5_gets_74 rfl (lv_at hl 4 rfl) ?_
              refine lv_iload_n hx hb dX5_gets_75 rfl (lv_at hl 1 rfl) ?_
              obtain ⟨hne, h⟩ := ck_some h
              refine lv_idiv hx hb dX5_gets_76 hne ?_
              refine lv_iload hx hb dX5_gets_77 (lv_at hl 0 rfl) ?_
              refine lv_iload_n hx hb dX5_gets_79 rfl (lv_at hl 4 rfl) ?_
              refine lv_iload_n hx hb dX5_gets_80 rfl (lv_at hl 1 rfl) ?_
              obtain ⟨hne, h⟩ := ck_some h
              refine lv_irem hx hb dX5_gets_81 hne ?_
              refine lv_icmp_ge (tgt := 89) hx hb dX5_gets_82 (by decide) (fun c82 => ?_) (fun c82 => ?_)
              · have h := br_1 h c82
                refine lv_iconst (v := (0 : Int32)) hx hb dX5_gets_89 (by decide) ?_
                refine lv_iadd hx hb dX5_gets_90 ?_
                cases h
                exact hret _ _ dX5_gets_91
              · have h := br_0 h c82
                refine lv_iconst (v := (1 : Int32)) hx hb dX5_gets_85 (by decide) ?_
                refine lv_goto (tgt := 90) hx hb dX5_gets_86 (by decide) ?_
                refine lv_iadd hx hb dX5_gets_90 ?_
                cases h
                exact hret _ _ dX5_gets_91
            · have h := br_0 h c48
              refine lv_iconst (v := (0 : Int32)) hx hb dX5_gets_51 (by decide) ?_
              cases h
              exact hret _ _ dX5_gets_52
        · have h := br_0 h c17
          refine lv_iconst (v := (-1 : Int32)) hx hb dX5_gets_20 (by decide) ?_
          cases h
          exact hret _ _ dX5_gets_21
  exact key _ (fun pc ls hd => W.iret hx hb hr (fun t ht hW => ⟨_, rfl, rfl, ht⟩) (fun q h => by cases h) hd)
set_option maxHeartbeats 4000000 in
set_option maxRecDepth 100000 in
theorem kX5_griefOfSet (l : Launch) (D : va_G) (T : Nat → ClassId) (F : Nat) (ad : Nat → Nat) (rs : Nat → Int32) (rm : Nat → Nat → Int32) (ts : Nat → Int32) (tm : Nat → Nat → Int32) (rdue : Int32) (rtun : Int32) (rsee : Int32) (rbeg : Int32) (psize : Int32) (pclause : Int32) (peff : Nat → Int32) (pkin : Nat → Int32) (pgri : Nat → Int32) (psig : Nat → Int32) (psee : Nat → Int32) (qsize : Int32) (qclause : Int32) (qeff : Nat → Int32) (qkin : Nat → Int32) (qgri : Nat → Int32) (qsig : Nat → Int32) (qsee : Nat → Int32) (cdee : Int32) (cnow : Int64) (cahe : Nat → Int64) (kdee : Nat → Int32) (know : Nat → Int64) (kahe : Nat → Nat → Int64) (fc : Nat → Int32) (lf : Int32) (told : Int32) (up : Int64) (lo : Int64) (x1 : Int32) (r : Int32) (h : fX5_griefOfSet F psize cnow x1 = some (r)) : Met l yX5_griefOfSet wsX5_griefOfSet ({ frames := 1, cells := 0, slots := 0, locals := 22 } : Room) (va_Pc [.ref (ad 0), .int x1] (fun U => va_P D vwCl (wPW T ad (ad 6) (ad 12) rs rm ts tm rdue rtun rsee rbeg psize pclause peff pkin pgri psig psee qsize qclause qeff qkin qgri qsig qsee cdee cnow cahe kdee know kahe fc lf told up lo) U.heap ∧ KK D T U)) (vp_Si (fun r' => r' = r)) 0 0 (fun _ => False) := by
  refine Met.ofW (cc := cX5_griefOfSet) (maxL := 4) (ret := some .int) (by decide) rfl ?_
  intro p e s m args below meth c s₁ B hml hv
  obtain ⟨ha, hP, hKK⟩ := hv
  have hx := B.exec
  have hb := B.bytes
  have hr := B.returns
  have hts := atoms_spec (ws := wsX5_griefOfSet) B.pre
  have hown : s.vm.findClass RX5 = some m.cls := findClass_of_methodNamed B.named
  have hlocks := B.notSynchronized
  have hK := hKK.1
  have hFix : CallFix p m c cX5_griefOfSet 4 s args wsX5_griefOfSet RX5 := ⟨hx, hb, hml, hown, hts⟩
  have q1 := hts _ (List.mem_of_getElem? (i := 1) (show wsX5_griefOfSet[1]? = some (Cond.fieldLink RX5 36 "PartyWill" "party" "LPartyWill$Party;") from rfl))
  have q2 := hts _ (List.mem_of_getElem? (i := 2) (show wsX5_griefOfSet[2]? = some (Cond.fieldLink RX5 46 "PartyWill" "course" "LPartyWill$Course;") from rfl))
  have q3 := hts _ (List.mem_of_getElem? (i := 3) (show wsX5_griefOfSet[3]? = some (Cond.static yX1_griefOf) from rfl))
  have q4 := hts _ (List.mem_of_getElem? (i := 4) (show wsX5_griefOfSet[4]? = some (Cond.initialized RX1) from rfl))
  have iX0 : ∀ w ∈ u_ws RX0 TX0 3, w ∈ wsX5_griefOfSet := fun w h => List.mem_cons_of_mem _ (List.mem_append_right _ (h))
  have iX2 : ∀ w ∈ u_ws RX2 TX2 7, w ∈ wsX5_griefOfSet := fun w h => List.mem_cons_of_mem _ (List.mem_append_left _ (List.mem_append_right _ (h)))
  have iX5 : ∀ w ∈ u_ws RX5 TX5 14, w ∈ wsX5_griefOfSet := fun w h => List.mem_cons_of_mem _ (List.mem_append_left _ (List.mem_append_left _ (List.mem_append_right _ (h))))
  obtain ⟨ls, hl, e0⟩ := my_entry (m := m) (n := 4) ha (Nat.le_of_ble_eq_true rfl)
  rw [e0]
  have hl : lv_has ls 4 [(0, .ref (ad 0)), (1, .int x1)] := hl
  have key : ∀ Q : State → Prop, (∀ (pc : Nat) (ls : Array Slot), decode cX5_griefOfSet pc = .ok (.ireturn, 1) → W p l e ({ frames := 1, cells := 0, slots := 0, locals := 22 } : Room) s m args below meth c s.heap [] 0 0 Q (F0 m pc ls [.int r])) → W p l e ({ frames := 1, cells := 0, slots := 0, locals := 22 } : Room) s m args below meth c s.heap [] 0 0 Q (F0 m 0 ls []) := by
    intro Q hret
    have l4 : ∀ x1 : Int32, ∀ nu : Nat, ∀ x2 : Int32, ∀ x3 : Int32, fX5_griefOfSet_l4 F psize cnow x1 nu x2 x3 = some (r) → ∀ (ls : Array Slot), lv_has ls 4 [(0, .ref (ad 0)), (1, .int x1), (2, .int x2), (3, .int x3)] → W p l e ({ frames := 1, cells := 0, slots := 0, locals := 22 } : Room) s m args below meth c s.heap [] 0 0 Q (F0 m 4 ls []) := by
      intro x1
      intro nu
      induction nu with
      | zero => intro x2 x3 h; exact none_some h
      | succ nu4 ih4 =>
        intro x2 x3 h ls hl
        have h : fX5_griefOfSet_l4_b F psize cnow x1 (fX5_griefOfSet_l4 F psize cnow x1 nu4) x2 x3 = some (r) := h
        unfold fX5_griefOfSet_l4_b at h
        refine lv_iload_n hx hb dX5_griefOfSet_4 rfl (lv_at hl 3 rfl) ?_
        refine lv_aload_n hx hb dX5_griefOfSet_5 rfl (lv_at hl 0 rfl) ?_
        refine va_get (D := D) (ci := 3) (C := RX5) (T := TX5) (N := 14) hx hb hts iX5 hown hK hP 0 wPW_0 rfl 5 (by decide) q1 (fun _ h9 => h9) rfl dX5_griefOfSet_6 ?_
        refine va_getN (host := "PartyWill") (D := D) (ci := 1) (C := RX2) (T := TX2) (N := 7) hx hb hts iX2 hown hK hP 6 wPW_6 rfl 0 (by decide) (va_Nw.use rfl (nw_X5_111 hKK.2)) (fun _ h9 => h9) rfl dX5_griefOfSet_9 ?_
        refine lv_icmp_ge (tgt := 43) hx hb dX5_griefOfSet_12 (by decide) (fun c12 => ?_) (fun c12 => ?_)
        · have h := br_1 h c12
          refine lv_iload_n hx hb dX5_griefOfSet_43 rfl (lv_at hl 2 rfl) ?_
          cases h
          exact hret _ _ dX5_griefOfSet_44
        · have h := br_0 h c12
          refine lv_iload_n hx hb dX5_griefOfSet_15 rfl (lv_at hl 1 rfl) ?_
          refine lv_iload_n hx hb dX5_griefOfSet_16 rfl (lv_at hl 3 rfl) ?_
          refine lv_ishr hx hb dX5_griefOfSet_17 ?_
          refine lv_iconst (v := (1 : Int32)) hx hb dX5_griefOfSet_18 (by decide) ?_
          refine lv_iand hx hb dX5_griefOfSet_19 ?_
          refine lv_if_eq (tgt := 37) hx hb dX5_griefOfSet_20 (by decide) (fun c20 => ?_) (fun c20 => ?_)
          · have h := br_1 h c20
            refine lv_iinc (v := (x3 + (1 : Int32))) (lv' := [(3, .int (x3 + (1 : Int32))), (0, .ref (ad 0)), (1, .int x1), (2, .int x2)]) hx hb dX5_griefOfSet_37 hl (k := 3) rfl rfl (by decide) rfl (fun ls hl => ?_)
            refine lv_goto (tgt := 4) hx hb dX5_griefOfSet_40 (by decide) ?_
            exact ih4 x2 (x3 + (1 : Int32)) h _ (lv_sub hl [1, 2, 3, 0] rfl)
          · have h := br_0 h c20
            refine lv_iload_n hx hb dX5_griefOfSet_23 rfl (lv_at hl 2 rfl) ?_
            refine lv_aload_n hx hb dX5_griefOfSet_24 rfl (lv_at hl 0 rfl) ?_
            refine va_get (D := D) (ci := 3) (C := RX5) (T := TX5) (N := 14) hx hb hts iX5 hown hK hP 0 wPW_0 rfl 7 (by decide) q2 (fun _ h9 => h9) rfl dX5_griefOfSet_25 ?_
            refine va_getN (host := "PartyWill") (D := D) (ci := 0) (C := RX0) (T := TX0) (N := 3) hx hb hts iX0 hown hK hP 18 wPW_18 rfl 1 (by decide) (va_Nw.use rfl (nw_X5_127 hKK.2)) (fun _ h9 => h9) rfl dX5_griefOfSet_28 ?_
            refine lv_iload_n hx hb dX5_griefOfSet_31 rfl (lv_at hl 3 rfl) ?_
            obtain ⟨r32, hc, h⟩ := bd1_some h
            refine my_roi (va_Run.run (va_runSN (host := "PartyWill") (As := [.long cnow, .int x3]) (rest := [.int x2]) hFix (kX1_griefOf l D T F cnow x3 r32 hc) ⟨va_cnB 2 hts gX5_griefOfSet_X1_griefOf_n175 rfl rfl rfl (nw_X5_175 hKK.2) q4 hd_X1_griefOf ⟨Nat.le_of_ble_eq_true rfl, Nat.le_of_ble_eq_true rfl⟩, q3, trivial⟩ (preS_ro va_nil hKK) rfl rfl hl.1 rfl (lv_room (Nat.le_of_ble_eq_true rfl)) dX5_griefOfSet_32 ⟨Nat.zero_le _, Nat.zero_le _⟩)) ?_
            refine lv_iadd hx hb dX5_griefOfSet_35 ?_
            refine lv_istore_n (lv' := [(2, .int (x2 + r32)), (0, .ref (ad 0)), (1, .int x1), (3, .int x3)]) hx hb dX5_griefOfSet_36 rfl hl (by decide) rfl (fun ls hl => ?_)
            refine lv_iinc (v := (x3 + (1 : Int32))) (lv' := [(3, .int (x3 + (1 : Int32))), (2, .int (x2 + r32)), (0, .ref (ad 0)), (1, .int x1)]) hx hb dX5_griefOfSet_37 hl (k := 3) rfl rfl (by decide) rfl (fun ls hl => ?_)
            refine lv_goto (tgt := 4) hx hb dX5_griefOfSet_40 (by decide) ?_
            exact ih4 (x2 + r32) (x3 + (1 : Int32)) h _ (lv_sub hl [2, 3, 1, 0] rfl)
    unfold fX5_griefOfSet at h
    refine lv_iconst (v := (0 : Int32)) hx hb dX5_griefOfSet_0 (by decide) ?_
    refine lv_istore_n (lv' := [(2, .int (0 : Int32)), (0, .ref (ad 0)), (1, .int x1)]) hx hb dX5_griefOfSet_1 rfl hl (by decide) rfl (fun ls hl => ?_)
    refine lv_iconst (v := (0 : Int32)) hx hb dX5_griefOfSet_2 (by decide) ?_
    refine lv_istore_n (lv' := [(3, .int (0 : Int32)), (2, .int (0 : Int32)), (0, .ref (ad 0)), (1, .int x1)]) hx hb dX5_griefOfSet_3 rfl hl (by decide) rfl (fun ls hl => ?_)
    exact l4 x1 F (0 : Int32) (0 : Int32) h _ (lv_sub hl [2, 3, 1, 0] rfl)
  exact key _ (fun pc ls hd => W.iret hx hb hr (fun t ht hW => ⟨_, rfl, rfl, ht⟩) (fun q h => by cases h) hd)
set_option maxHeartbeats 4000000 in
set_option maxRecDepth 100000 in
theorem kX5_stops (l : Launch) (D : va_G) (T : Nat → ClassId) (F : Nat) (ad : Nat → Nat) (rs : Nat → Int32) (rm : Nat → Nat → Int32) (ts : Nat → Int32) (tm : Nat → Nat → Int32) (rdue : Int32) (rtun : Int32) (rsee : Int32) (rbeg : Int32) (psize : Int32) (pclause : Int32) (peff : Nat → Int32) (pkin : Nat → Int32) (pgri : Nat → Int32) (psig : Nat → Int32) (psee : Nat → Int32) (qsize : Int32) (qclause : Int32) (qeff : Nat → Int32) (qkin : Nat → Int32) (qgri : Nat → Int32) (qsig : Nat → Int32) (qsee : Nat → Int32) (cdee : Int32) (cnow : Int64) (cahe : Nat → Int64) (kdee : Nat → Int32) (know : Nat → Int64) (kahe : Nat → Nat → Int64) (fc : Nat → Int32) (lf : Int32) (told : Int32) (up : Int64) (lo : Int64) (r : Int32) (h : fX5_stops F psize pclause cnow = some (r)) : Met l yX5_stops wsX5_stops ({ frames := 2, cells := 0, slots := 0, locals := 45 } : Room) (va_Pc [.ref (ad 0)] (fun U => va_P D vwCl (wPW T ad (ad 6) (ad 12) rs rm ts tm rdue rtun rsee rbeg psize pclause peff pkin pgri psig psee qsize qclause qeff qkin qgri qsig qsee cdee cnow cahe kdee know kahe fc lf told up lo) U.heap ∧ KK D T U)) (vp_Si (fun r' => r' = r)) 0 0 (fun _ => False) := by
  refine Met.ofW (cc := cX5_stops) (maxL := 6) (ret := some .int) (by decide) rfl ?_
  intro p e s m args below meth c s₁ B hml hv
  obtain ⟨ha, hP, hKK⟩ := hv
  have hx := B.exec
  have hb := B.bytes
  have hr := B.returns
  have hts := atoms_spec (ws := wsX5_stops) B.pre
  have hown : s.vm.findClass RX5 = some m.cls := findClass_of_methodNamed B.named
  have hlocks := B.notSynchronized
  have hK := hKK.1
  have hFix : CallFix p m c cX5_stops 6 s args wsX5_stops RX5 := ⟨hx, hb, hml, hown, hts⟩
  have q1 := hts _ (List.mem_of_getElem? (i := 1) (show wsX5_stops[1]? = some (Cond.fieldLink RX5 36 "PartyWill" "party" "LPartyWill$Party;") from rfl))
  have q2 := hts _ (List.mem_of_getElem? (i := 2) (show wsX5_stops[2]? = some (Cond.fieldLink RX5 46 "PartyWill" "course" "LPartyWill$Course;") from rfl))
  have q10 := hts _ (List.mem_of_getElem? (i := 10) (show wsX5_stops[10]? = some (Cond.static yX1_insiders) from rfl))
  have q11 := hts _ (List.mem_of_getElem? (i := 11) (show wsX5_stops[11]? = some (Cond.initialized RX1) from rfl))
  have iX0 : ∀ w ∈ u_ws RX0 TX0 3, w ∈ wsX5_stops := fun w h => List.mem_cons_of_mem _ (List.mem_append_right _ (h))
  have iX2 : ∀ w ∈ u_ws RX2 TX2 7, w ∈ wsX5_stops := fun w h => List.mem_cons_of_mem _ (List.mem_append_left _ (List.mem_append_right _ (h)))
  have iX5 : ∀ w ∈ u_ws RX5 TX5 14, w ∈ wsX5_stops := fun w h => List.mem_cons_of_mem _ (List.mem_append_left _ (List.mem_append_left _ (List.mem_append_right _ (h))))
  obtain ⟨ls, hl, e0⟩ := my_entry (m := m) (n := 6) ha (Nat.le_of_ble_eq_true rfl)
  rw [e0]
  have hl : lv_has ls 6 [(0, .ref (ad 0))] := hl
  have key : ∀ Q : State → Prop, (∀ (pc : Nat) (ls : Array Slot), decode cX5_stops pc = .ok (.ireturn, 1) → W p l e ({ frames := 2, cells := 0, slots := 0, locals := 45 } : Room) s m args below meth c s.heap [] 0 0 Q (F0 m pc ls [.int r])) → W p l e ({ frames := 2, cells := 0, slots := 0, locals := 45 } : Room) s m args below meth c s.heap [] 0 0 Q (F0 m 0 ls []) := by
    intro Q hret
    have l8 : ∀ nu : Nat, ∀ x1 : Int32, ∀ x2 : Int32, ∀ x3 : Int32, fX5_stops_l8 F psize pclause cnow nu x1 x2 x3 = some (r) → ∀ (ls : Array Slot), lv_has ls 6 [(0, .ref (ad 0)), (1, .int x1), (2, .int x2), (3, .int x3)] → W p l e ({ frames := 2, cells := 0, slots := 0, locals := 45 } : Room) s m args below meth c s.heap [] 0 0 Q (F0 m 8 ls []) := by
      intro nu
      induction nu with
      | zero => intro x1 x2 x3 h; exact none_some h
      | succ nu8 ih8 =>
        intro x1 x2 x3 h ls hl
        have n49 : ∀ s_0 : Int32, ∀ x1 : Int32, ∀ x2 : Int32, ∀ x3 : Int32, ∀ x4 : Int32, fX5_stops_n49 F (fX5_stops_l8 F psize pclause cnow nu8) psize pclause cnow s_0 x1 x2 x3 x4 = some (r) → ∀ (ls : Array Slot), lv_has ls 6 [(0, .ref (ad 0)), (1, .int x1), (2, .int x2), (3, .int x3), (4, .int x4)] → W p l e ({ frames := 2, cells := 0, slots := 0, locals := 45 } : Room) s m args below meth c s.heap [] 0 0 Q (F0 m 49 ls [.int s_0]) := by
          intro s_0 x1 x2 x3 x4 h ls hl
          unfold fX5_stops_n49 at h
          refine lv_istore (lv' := [(5, .int s_0), (0, .ref (ad 0)), (1, .int x1), (2, .int x2), (3, .int x3), (4, .int x4)]) hx hb dX5_stops_49 hl (by decide) rfl (fun ls hl => ?_)
          refine lv_iload hx hb dX5_stops_51 (lv_at hl 0 rfl) ?_
          refine lv_if_eq (tgt := 93) hx hb dX5_stops_53 (by decide) (fun c53 => ?_) (fun c53 => ?_)
          · have h := br_1 h c53
            refine lv_iinc (v := (x3 + (1 : Int32))) (lv' := [(3, .int (x3 + (1 : Int32))), (5, .int s_0), (0, .ref (ad 0)), (1, .int x1), (2, .int x2), (4, .int x4)]) hx hb dX5_stops_93 hl (k := 4) rfl rfl (by decide) rfl (fun ls hl => ?_)
            refine lv_goto (tgt := 8) hx hb dX5_stops_96 (by decide) ?_
            exact ih8 x1 x2 (x3 + (1 : Int32)) h _ (lv_sub hl [2, 3, 4, 0] rfl)
          · have h := br_0 h c53
            refine lv_iload hx hb dX5_stops_56 (lv_at hl 5 rfl) ?_
            refine lv_iconst (v := (2 : Int32)) hx hb dX5_stops_58 (by decide) ?_
            refine lv_icmp_lt (tgt := 93) hx hb dX5_stops_59 (by decide) (fun c59 => ?_) (fun c59 => ?_)
            · have h := br_1 h c59
              refine lv_iinc (v := (x3 + (1 : Int32))) (lv' := [(3, .int (x3 + (1 : Int32))), (5, .int s_0), (0, .ref (ad 0)), (1, .int x1), (2, .int x2), (4, .int x4)]) hx hb dX5_stops_93 hl (k := 4) rfl rfl (by decide) rfl (fun ls hl => ?_)
              refine lv_goto (tgt := 8) hx hb dX5_stops_96 (by decide) ?_
              exact ih8 x1 x2 (x3 + (1 : Int32)) h _ (lv_sub hl [2, 3, 4, 0] rfl)
            · have h := br_0 h c59
              refine lv_iload hx hb dX5_stops_62 (lv_at hl 5 rfl) ?_
              refine lv_iload_n hx hb dX5_stops_64 rfl (lv_at hl 3 rfl) ?_
              refine lv_icmp_ge (tgt := 93) hx hb dX5_stops_65 (by decide) (fun c65 => ?_) (fun c65 => ?_)
              · have h := br_1 h c65
                refine lv_iinc (v := (x3 + (1 : Int32))) (lv' := [(3, .int (x3 + (1 : Int32))), (5, .int s_0), (0, .ref (ad 0)), (1, .int x1), (2, .int x2), (4, .int x4)]) hx hb dX5_stops_93 hl (k := 4) rfl rfl (by decide) rfl (fun ls hl => ?_)
                refine lv_goto (tgt := 8) hx hb dX5_stops_96 (by decide) ?_
                exact ih8 x1 x2 (x3 + (1 : Int32)) h _ (lv_sub hl [2, 3, 4, 0] rfl)
              · have h := br_0 h c65
                refine lv_aload_n hx hb dX5_stops_68 rfl (lv_at hl 1 rfl) ?_
                refine lv_iload_n hx hb dX5_stops_69 rfl (lv_at hl 4 rfl) ?_
                obtain ⟨r70, hc, h⟩ := bd1_some h
                refine my_roi (va_Run.run (va_runV (As := [.int x3]) (rest := []) hFix (kX5_griefOfSet l D T F ad (ad 6) (ad 12) rs rm ts tm rdue rtun rsee rbeg psize pclause peff pkin pgri psig psee qsize qclause qeff qkin qgri qsig qsee cdee cnow cahe kdee know kahe fc lf told up lo x3 r70 hc) (cwV 1 hts gX5_stops_X5_griefOfSet rfl rfl rfl ⟨rfl, hd_X5_griefOfSet⟩ ⟨Nat.le_of_ble_eq_true rfl, Nat.le_of_ble_eq_true rfl⟩) (preV_ro hP hKK (va_recv hK hP (ci := 3) (q0 := 0) rfl wPW_0)) rfl rfl hl.1 rfl (lv_room (Nat.le_of_ble_eq_true rfl)) dX5_stops_70 ⟨Nat.zero_le _, Nat.zero_le _⟩)) ?_
                refine lv_aload_n hx hb dX5_stops_73 rfl (lv_at hl 1 rfl) ?_
                refine va_get (D := D) (ci := 3) (C := RX5) (T := TX5) (N := 14) hx hb hts iX5 hown hK hP 0 wPW_0 rfl 5 (by decide) q1 (fun _ h9 => h9) rfl dX5_stops_74 ?_
                refine va_getN (host := "PartyWill") (D := D) (ci := 1) (C := RX2) (T := TX2) (N := 7) hx hb hts iX2 hown hK hP 6 wPW_6 rfl 1 (by decide) (va_Nw.use rfl (nw_X5_257 hKK.2)) (fun _ h9 => h9) rfl dX5_stops_77 ?_
                refine lv_iload hx hb dX5_stops_80 (lv_at hl 5 rfl) ?_
                refine lv_iconst (v := (1 : Int32)) hx hb dX5_stops_82 (by decide) ?_
                refine lv_isub hx hb dX5_stops_83 ?_
                refine lv_imul hx hb dX5_stops_84 ?_
                refine lv_icmp_ge (tgt := 93) hx hb dX5_stops_85 (by decide) (fun c85 => ?_) (fun c85 => ?_)
                · have h := br_1 h c85
                  refine lv_iinc (v := (x3 + (1 : Int32))) (lv' := [(3, .int (x3 + (1 : Int32))), (5, .int s_0), (0, .ref (ad 0)), (1, .int x1), (2, .int x2), (4, .int x4)]) hx hb dX5_stops_93 hl (k := 4) rfl rfl (by decide) rfl (fun ls hl => ?_)
                  refine lv_goto (tgt := 8) hx hb dX5_stops_96 (by decide) ?_
                  exact ih8 x1 x2 (x3 + (1 : Int32)) h _ (lv_sub hl [2, 3, 4, 0] rfl)
                · have h := br_0 h c85
                  refine lv_iload_n hx hb dX5_stops_88 rfl (lv_at hl 4 rfl) ?_
                  refine lv_istore_n (lv' := [(1, .int x3), (5, .int s_0), (0, .ref (ad 0)), (2, .int x2), (3, .int x3), (4, .int x4)]) hx hb dX5_stops_89 rfl hl (by decide) rfl (fun ls hl => ?_)
                  refine lv_iload hx hb dX5_stops_90 (lv_at hl 5 rfl) ?_
                  refine lv_istore_n (lv' := [(2, .int x4), (1, .int x3), (5, .int s_0), (0, .ref (ad 0)), (3, .int x3), (4, .int x4)]) hx hb dX5_stops_92 rfl hl (by decide) rfl (fun ls hl => ?_)
                  refine lv_iinc (v := (x3 + (1 : Int32))) (lv' := [(3, .int (x3 + (1 : Int32))), (2, .int x4), (1, .int x3), (5, .int s_0), (0, .ref (ad 0)), (4, .int x4)]) hx hb dX5_stops_93 hl (k := 4) rfl rfl (by decide) rfl (fun ls hl => ?_)
                  refine lv_goto (tgt := 8) hx hb dX5_stops_96 (by decide) ?_
                  exact ih8 x3 x4 (x3 + (1 : Int32)) h _ (lv_sub hl [4, 2, 1, 0] rfl)
        have h : fX5_stops_l8_b F psize pclause cnow (fX5_stops_l8 F psize pclause cnow nu8) x1 x2 x3 = some (r) := h
        unfold fX5_stops_l8_b at h
        refine lv_iload_n hx hb dX5_stops_8 rfl (lv_at hl 3 rfl) ?_
        refine lv_iconst (v := (1 : Int32)) hx hb dX5_stops_9 (by decide) ?_
        refine lv_aload_n hx hb dX5_stops_10 rfl (lv_at hl 0 rfl) ?_
        refine va_get (D := D) (ci := 3) (C := RX5) (T := TX5) (N := 14) hx hb hts iX5 hown hK hP 0 wPW_0 rfl 5 (by decide) q1 (fun _ h9 => h9) rfl dX5_stops_11 ?_
        refine va_getN (host := "PartyWill") (D := D) (ci := 1) (C := RX2) (T := TX2) (N := 7) hx hb hts iX2 hown hK hP 6 wPW_6 rfl 0 (by decide) (va_Nw.use rfl (nw_X5_111 hKK.2)) (fun _ h9 => h9) rfl dX5_stops_14 ?_
        refine lv_ishl hx hb dX5_stops_17 ?_
        refine lv_icmp_ge (tgt := 99) hx hb dX5_stops_18 (by decide) (fun c18 => ?_) (fun c18 => ?_)
        · have h := br_1 h c18
          refine lv_iload_n hx hb dX5_stops_99 rfl (lv_at hl 1 rfl) ?_
          cases h
          exact hret _ _ dX5_stops_100
        · have h := br_0 h c18
          refine lv_iload_n hx hb dX5_stops_21 rfl (lv_at hl 3 rfl) ?_
          obtain ⟨r22, hc, h⟩ := bd1_some h
          refine my_roi (va_Run.run (va_runS (As := [.int x3]) (rest := []) hFix (kJ6_bitCount_0f7a4 l D T F x3 r22 hc) (va_cwS 1 hts gX5_stops_J6_bitCount_0f7a4 rfl rfl rfl hd_J6_bitCount_0f7a4 ⟨Nat.le_of_ble_eq_true rfl, Nat.le_of_ble_eq_true rfl⟩) (preS_ro va_nil hKK) rfl rfl hl.1 rfl (lv_room (Nat.le_of_ble_eq_true rfl)) dX5_stops_22 ⟨Nat.zero_le _, Nat.zero_le _⟩)) ?_
          refine lv_istore (lv' := [(4, .int r22), (0, .ref (ad 0)), (1, .int x1), (2, .int x2), (3, .int x3)]) hx hb dX5_stops_25 hl (by decide) rfl (fun ls hl => ?_)
          refine lv_iload_n hx hb dX5_stops_27 rfl (lv_at hl 4 rfl) ?_
          refine lv_aload_n hx hb dX5_stops_28 rfl (lv_at hl 1 rfl) ?_
          refine va_get (D := D) (ci := 3) (C := RX5) (T := TX5) (N := 14) hx hb hts iX5 hown hK hP 0 wPW_0 rfl 7 (by decide) q2 (fun _ h9 => h9) rfl dX5_stops_29 ?_
          refine va_getN (host := "PartyWill") (D := D) (ci := 0) (C := RX0) (T := TX0) (N := 3) hx hb hts iX0 hown hK hP 18 wPW_18 rfl 1 (by decide) (va_Nw.use rfl (nw_X5_127 hKK.2)) (fun _ h9 => h9) rfl dX5_stops_32 ?_
          obtain ⟨r35, hc, h⟩ := bd1_some h
          refine my_roi (va_Run.run (va_runSN (host := "PartyWill") (As := [.long cnow]) (rest := [.int x3]) hFix (kX1_insiders l D T F cnow r35 hc) ⟨va_cnB 1 hts gX5_stops_X1_insiders_n158 rfl rfl rfl (nw_X5_158 hKK.2) q11 hd_X1_insiders ⟨Nat.le_of_ble_eq_true rfl, Nat.le_of_ble_eq_true rfl⟩, q10, trivial⟩ (preS_ro va_nil hKK) rfl rfl hl.1 rfl (lv_room (Nat.le_of_ble_eq_true rfl)) dX5_stops_35 ⟨Nat.zero_le _, Nat.zero_le _⟩)) ?_
          refine lv_iconst (v := (-1 : Int32)) hx hb dX5_stops_38 (by decide) ?_
          refine lv_ixor hx hb dX5_stops_39 ?_
          refine lv_iand hx hb dX5_stops_40 ?_
          refine lv_if_ne (tgt := 48) hx hb dX5_stops_41 (by decide) (fun c41 => ?_) (fun c41 => ?_)
          · have h := br_0 h c41
            refine lv_iconst (v := (0 : Int32)) hx hb dX5_stops_48 (by decide) ?_
            exact n49 (0 : Int32) x1 x2 x3 r22 h _ (lv_sub hl [1, 2, 3, 4, 0] rfl)
          · have h := br_1 h c41
            refine lv_iconst (v := (1 : Int32)) hx hb dX5_stops_44 (by decide) ?_
            refine lv_goto (tgt := 49) hx hb dX5_stops_45 (by decide) ?_
            exact n49 (1 : Int32) x1 x2 x3 r22 h _ (lv_sub hl [1, 2, 3, 4, 0] rfl)
    unfold fX5_stops at h
    refine lv_bipush (v := (-9 : Int32)) hx hb dX5_stops_0 (by decide) ?_
    refine lv_istore_n (lv' := [(1, .int (-9 : Int32)), (0, .ref (ad 0))]) hx hb dX5_stops_2 rfl hl (by decide) rfl (fun ls hl => ?_)
    refine lv_bipush (v := (7 : Int32)) hx hb dX5_stops_3 (by decide) ?_
    refine lv_istore_n (lv' := [(2, .int (7 : Int32)), (1, .int (-9 : Int32)), (0, .ref (ad 0))]) hx hb dX5_stops_5 rfl hl (by decide) rfl (fun ls hl => ?_)
    refine lv_iconst (v := (1 : Int32)) hx hb dX5_stops_6 (by decide) ?_
    refine lv_istore_n (lv' := [(3, .int (1 : Int32)), (2, .int (7 : Int32)), (1, .int (-9 : Int32)), (0, .ref (ad 0))]) hx hb dX5_stops_7 rfl hl (by decide) rfl (fun ls hl => ?_)
    exact l8 F (-9 : Int32) (7 : Int32) (1 : Int32) h _ (lv_sub hl [3, 2, 1, 0] rfl)
  exact key _ (fun pc ls hd => W.iret hx hb hr (fun t ht hW => ⟨_, rfl, rfl, ht⟩) (fun q h => by cases h) hd)
set_option maxHeartbeats 4000000 in
set_option maxRecDepth 100000 in
theorem kX5_tellShare (l : Launch) (D : va_G) (T : Nat → ClassId) (F : Nat) (ad : Nat → Nat) (rs : Nat → Int32) (rm : Nat → Nat → Int32) (ts : Nat → Int32) (tm : Nat → Nat → Int32) (rdue : Int32) (rtun : Int32) (rsee : Int32) (rbeg : Int32) (psize : Int32) (pclause : Int32) (peff : Nat → Int32) (pkin : Nat → Int32) (pgri : Nat → Int32) (psig : Nat → Int32) (psee : Nat → Int32) (qsize : Int32) (qclause : Int32) (qeff : Nat → Int32) (qkin : Nat → Int32) (qgri : Nat → Int32) (qsig : Nat → Int32) (qsee : Nat → Int32) (cdee : Int32) (cnow : Int64) (cahe : Nat → Int64) (kdee : Nat → Int32) (know : Nat → Int64) (kahe : Nat → Nat → Int64) (fc : Nat → Int32) (lf : Int32) (told : Int32) (up : Int64) (lo : Int64) (x1 : Int64) (x3 : Int32) (zup : Int64) (zlo : Int64) (h : fX5_tellShare F up lo x1 x3 = some (zup, zlo)) : ∀ sz : Nat, Met l yX5_tellShare wsX5_tellShare ({ frames := 0, cells := 0, slots := 0, locals := 0 } : Room) (va_Pc [.ref (ad 0), .long x1, .int x3] (fun U => U.heap.size = sz ∧ va_P D vwCl (wPW T ad (ad 6) (ad 12) rs rm ts tm rdue rtun rsee rbeg psize pclause peff pkin pgri psig psee qsize qclause qeff qkin qgri qsig qsee cdee cnow cahe kdee know kahe fc lf told up lo) U.heap ∧ KK D T U ∧ va_D (fun _ => True) (wPW T ad (ad 6) (ad 12) rs rm ts tm rdue rtun rsee rbeg psize pclause peff pkin pgri psig psee qsize qclause qeff qkin qgri qsig qsee cdee cnow cahe kdee know kahe fc lf told up lo))) (va_Qv (fun _ : Unit => True) (fun _ t => va_P D vwCl (wPW T ad (ad 6) (ad 12) rs rm ts tm rdue rtun rsee rbeg psize pclause peff pkin pgri psig psee qsize qclause qeff qkin qgri qsig qsee cdee cnow cahe kdee know kahe fc lf told zup zlo) t.heap ∧ va_D (va_A (wPW T ad (ad 6) (ad 12) rs rm ts tm rdue rtun rsee rbeg psize pclause peff pkin pgri psig psee qsize qclause qeff qkin qgri qsig qsee cdee cnow cahe kdee know kahe fc lf told up lo) sz) (wPW T ad (ad 6) (ad 12) rs rm ts tm rdue rtun rsee rbeg psize pclause peff pkin pgri psig psee qsize qclause qeff qkin qgri qsig qsee cdee cnow cahe kdee know kahe fc lf told zup zlo)) (va_A (wPW T ad (ad 6) (ad 12) rs rm ts tm rdue rtun rsee rbeg psize pclause peff pkin pgri psig psee qsize qclause qeff qkin qgri qsig qsee cdee cnow cahe kdee know kahe fc lf told up lo) sz)) 0 0 (va_A (wPW T ad (ad 6) (ad 12) rs rm ts tm rdue rtun rsee rbeg psize pclause peff pkin pgri psig psee qsize qclause qeff qkin qgri qsig qsee cdee cnow cahe kdee know kahe fc lf told up lo) sz) := by
  intro sz
  refine Met.ofW (cc := cX5_tellShare) (maxL := 5) (ret := none) (by decide) rfl ?_
  intro p e s m args below meth c s₁ B hml hv
  obtain ⟨ha, hsz, hP, hKK, hD0⟩ := hv
  have hx := B.exec
  have hb := B.bytes
  have hr := B.returns
  have hts := atoms_spec (ws := wsX5_tellShare) B.pre
  have hown : s.vm.findClass RX5 = some m.cls := findClass_of_methodNamed B.named
  have hlocks := B.notSynchronized
  have hK := hKK.1
  have hFix : CallFix p m c cX5_tellShare 5 s args wsX5_tellShare RX5 := ⟨hx, hb, hml, hown, hts⟩
  have q1 := hts _ (List.mem_of_getElem? (i := 1) (show wsX5_tellShare[1]? = some (Cond.fieldLink RX5 64 "PartyWill" "toldUpper" "J") from rfl))
  have q2 := hts _ (List.mem_of_getElem? (i := 2) (show wsX5_tellShare[2]? = some (Cond.fieldLink RX5 68 "PartyWill" "toldLower" "J") from rfl))
  have q3 := hts _ (List.mem_of_getElem? (i := 3) (show wsX5_tellShare[3]? = some (Cond.constantLong RX5 316 (2)) from rfl))
  have iX5 : ∀ w ∈ u_ws RX5 TX5 14, w ∈ wsX5_tellShare := fun w h => List.mem_cons_of_mem _ (List.mem_append_right _ (h))
  subst hsz
  have hD := hD0.self (sz := s.heap.size)
  generalize hAe : va_A (wPW T ad (ad 6) (ad 12) rs rm ts tm rdue rtun rsee rbeg psize pclause peff pkin pgri psig psee qsize qclause qeff qkin qgri qsig qsee cdee cnow cahe kdee know kahe fc lf told up lo) s.heap.size = A at hD ⊢
  have hA : ∀ q : Nat, s.heap.size ≤ q → A q := fun q h => by rw [← hAe]; exact Or.inr h
  have hS : va_S A s.heap s.heap [] := va_S.rf
  have hP : va_P D vwCl (wPW T ad (ad 6) (ad 12) rs rm ts tm rdue rtun rsee rbeg psize pclause peff pkin pgri psig psee qsize qclause qeff qkin qgri qsig qsee cdee cnow cahe kdee know kahe fc lf told up lo) s.heap := hP
  obtain ⟨ls, hl, e0⟩ := my_entry (m := m) (n := 5) ha (Nat.le_of_ble_eq_true rfl)
  rw [e0]
  have hl : lv_has ls 5 [(0, .ref (ad 0)), (1, .long x1), (3, .int x3)] := hl
  have key : ∀ Q : State → Prop, (∀ (H : Heap) (locs : List Loc) (pc : Nat) (ls : Array Slot), va_P D vwCl (wPW T ad (ad 6) (ad 12) rs rm ts tm rdue rtun rsee rbeg psize pclause peff pkin pgri psig psee qsize qclause qeff qkin qgri qsig qsee cdee cnow cahe kdee know kahe fc lf told zup zlo) H → va_D A (wPW T ad (ad 6) (ad 12) rs rm ts tm rdue rtun rsee rbeg psize pclause peff pkin pgri psig psee qsize qclause qeff qkin qgri qsig qsee cdee cnow cahe kdee know kahe fc lf told zup zlo) → va_S A s.heap H locs → decode cX5_tellShare pc = .ok (.return_, 1) → W p l e ({ frames := 0, cells := 0, slots := 0, locals := 0 } : Room) s m args below meth c H locs 0 0 Q (F0 m pc ls [])) → W p l e ({ frames := 0, cells := 0, slots := 0, locals := 0 } : Room) s m args below meth c s.heap [] 0 0 Q (F0 m 0 ls []) := by
    intro Q hret
    skip
    have l17 : ∀ x3 : Int32, ∀ nu : Nat, ∀ x4 : Int32, ∀ up : Int64, ∀ lo : Int64, fX5_tellShare_l17 F x3 nu x4 up lo = some (zup, zlo) → ∀ (H : Heap) (locs : List Loc), va_P D vwCl (wPW T ad (ad 6) (ad 12) rs rm ts tm rdue rtun rsee rbeg psize pclause peff pkin pgri psig psee qsize qclause qeff qkin qgri qsig qsee cdee cnow cahe kdee know kahe fc lf told up lo) H → va_D A (wPW T ad (ad 6) (ad 12) rs rm ts tm rdue rtun rsee rbeg psize pclause peff pkin pgri psig psee qsize qclause qeff qkin qgri qsig qsee cdee cnow cahe kdee know kahe fc lf told up lo) → va_S A s.heap H locs → ∀ (ls : Array Slot), lv_has ls 5 [(0, .ref (ad 0)), (3, .int x3), (4, .int x4)] → W p l e ({ frames := 0, cells := 0, slots := 0, locals := 0 } : Room) s m args below meth c H locs 0 0 Q (F0 m 17 ls []) := by
      intro x3
      intro nu
      induction nu with
      | zero => intro x4 up lo h; exact none_some h
      | succ nu17 ih17 =>
        intro x4 up lo h H locs hP hD hS ls hl
        have h : fX5_tellShare_l17_b F x3 (fX5_tellShare_l17 F x3 nu17) x4 up lo = some (zup, zlo) := h
        unfold fX5_tellShare_l17_b at h
        refine lv_iload hx hb dX5_tellShare_17 (lv_at hl 2 rfl) ?_
        refine lv_iconst (v := (2 : Int32)) hx hb dX5_tellShare_19 (by decide) ?_
        refine lv_iload_n hx hb dX5_tellShare_20 rfl (lv_at hl 1 rfl) ?_
        refine lv_imul hx hb dX5_tellShare_21 ?_
        refine lv_icmp_ge (tgt := 68) hx hb dX5_tellShare_22 (by decide) (fun c22 => ?_) (fun c22 => ?_)
        · have h := br_1 h c22
          cases h
          exact hret _ _ _ _ hP hD hS dX5_tellShare_68
        · have h := br_0 h c22
          refine lv_aload_n hx hb dX5_tellShare_25 rfl (lv_at hl 0 rfl) ?_
          refine va_get (D := D) (ci := 3) (C := RX5) (T := TX5) (N := 14) hx hb hts iX5 hown hK hP 0 wPW_0 rfl 12 (by decide) q1 (fun _ h9 => h9) rfl dX5_tellShare_26 ?_
          refine lv_ldc2 (v := (2 : Int64)) hx hb hown q3 dX5_tellShare_29 ?_
          refine lv_lrem hx hb dX5_tellShare_32 (by decide) ?_
          refine lv_lconst (v := (0 : Int64)) hx hb dX5_tellShare_33 (by decide) ?_
          refine W.lcmp hx hb dX5_tellShare_34 ?_
          refine lv_if_ne (tgt := 68) hx hb dX5_tellShare_35 (by decide) (fun c35 => ?_) (fun c35 => ?_)
          · have h := br_0 h c35
            cases h
            exact hret _ _ _ _ hP hD hS dX5_tellShare_68
          · have h := br_1 h c35
            refine lv_aload_n hx hb dX5_tellShare_38 rfl (lv_at hl 0 rfl) ?_
            refine lv_dup hx hb dX5_tellShare_39 rfl ?_
            refine va_get (D := D) (ci := 3) (C := RX5) (T := TX5) (N := 14) hx hb hts iX5 hown hK hP 0 wPW_0 rfl 12 (by decide) q1 (fun _ h9 => h9) rfl dX5_tellShare_40 ?_
            refine lv_ldc2 (v := (2 : Int64)) hx hb hown q3 dX5_tellShare_43 ?_
            refine lv_ldiv hx hb dX5_tellShare_46 (by decide) ?_
            refine va_put (D := D) (ci := 3) (v := .long (up / (2 : Int64))) (ty := .long) (C := RX5) (T := TX5) (N := 14) hx hb hts iX5 tyX5 tyX5_ok nmX5 hown hK hP hD hS 0 wPW_0 rfl 12 (by decide) q1 (fun _ h9 => h9) rfl (by decide +kernel) rfl rfl (Nat.le_of_ble_eq_true rfl) dX5_tellShare_47 (fun H locs hP hD hS => ?_)
            have hP : va_P D vwCl (wPW T ad (ad 6) (ad 12) rs rm ts tm rdue rtun rsee rbeg psize pclause peff pkin pgri psig psee qsize qclause qeff qkin qgri qsig qsee cdee cnow cahe kdee know kahe fc lf told (up / (2 : Int64)) lo) H := hP
            have hD : va_D A (wPW T ad (ad 6) (ad 12) rs rm ts tm rdue rtun rsee rbeg psize pclause peff pkin pgri psig psee qsize qclause qeff qkin qgri qsig qsee cdee cnow cahe kdee know kahe fc lf told (up / (2 : Int64)) lo) := hD
            refine lv_aload_n hx hb dX5_tellShare_50 rfl (lv_at hl 0 rfl) ?_
            refine lv_dup hx hb dX5_tellShare_51 rfl ?_
            refine va_get (D := D) (ci := 3) (C := RX5) (T := TX5) (N := 14) hx hb hts iX5 hown hK hP 0 wPW_0 rfl 13 (by decide) q2 (fun _ h9 => h9) rfl dX5_tellShare_52 ?_
            refine lv_ldc2 (v := (2 : Int64)) hx hb hown q3 dX5_tellShare_55 ?_
            refine lv_ldiv hx hb dX5_tellShare_58 (by decide) ?_
            refine va_put (D := D) (ci := 3) (v := .long (lo / (2 : Int64))) (ty := .long) (C := RX5) (T := TX5) (N := 14) hx hb hts iX5 tyX5 tyX5_ok nmX5 hown hK hP hD hS 0 wPW_0 rfl 13 (by decide) q2 (fun _ h9 => h9) rfl (by decide +kernel) rfl rfl (Nat.le_of_ble_eq_true rfl) dX5_tellShare_59 (fun H locs hP hD hS => ?_)
            have hP : va_P D vwCl (wPW T ad (ad 6) (ad 12) rs rm ts tm rdue rtun rsee rbeg psize pclause peff pkin pgri psig psee qsize qclause qeff qkin qgri qsig qsee cdee cnow cahe kdee know kahe fc lf told (up / (2 : Int64)) (lo / (2 : Int64))) H := hP
            have hD : va_D A (wPW T ad (ad 6) (ad 12) rs rm ts tm rdue rtun rsee rbeg psize pclause peff pkin pgri psig psee qsize qclause qeff qkin qgri qsig qsee cdee cnow cahe kdee know kahe fc lf told (up / (2 : Int64)) (lo / (2 : Int64))) := hD
            refine lv_iinc (v := (x4 + (1 : Int32))) (lv' := [(4, .int (x4 + (1 : Int32))), (0, .ref (ad 0)), (3, .int x3)]) hx hb dX5_tellShare_62 hl (k := 2) rfl rfl (by decide) rfl (fun ls hl => ?_)
            refine lv_goto (tgt := 17) hx hb dX5_tellShare_65 (by decide) ?_
            exact ih17 (x4 + (1 : Int32)) (up / (2 : Int64)) (lo / (2 : Int64)) h _ _ hP hD hS _ (lv_sub hl [1, 2, 0] rfl)
    unfold fX5_tellShare at h
    refine lv_aload_n hx hb dX5_tellShare_0 rfl (lv_at hl 0 rfl) ?_
    refine lv_lload_n hx hb dX5_tellShare_1 rfl (lv_at hl 1 rfl) ?_
    refine va_put (D := D) (ci := 3) (v := .long x1) (ty := .long) (C := RX5) (T := TX5) (N := 14) hx hb hts iX5 tyX5 tyX5_ok nmX5 hown hK hP hD hS 0 wPW_0 rfl 12 (by decide) q1 (fun _ h9 => h9) rfl (by decide +kernel) rfl rfl (Nat.le_of_ble_eq_true rfl) dX5_tellShare_2 (fun H locs hP hD hS => ?_)
    have hP : va_P D vwCl (wPW T ad (ad 6) (ad 12) rs rm ts tm rdue rtun rsee rbeg psize pclause peff pkin pgri psig psee qsize qclause qeff qkin qgri qsig qsee cdee cnow cahe kdee know kahe fc lf told x1 lo) H := hP
    have hD : va_D A (wPW T ad (ad 6) (ad 12) rs rm ts tm rdue rtun rsee rbeg psize pclause peff pkin pgri psig psee qsize qclause qeff qkin qgri qsig qsee cdee cnow cahe kdee know kahe fc lf told x1 lo) := hD
    refine lv_aload_n hx hb dX5_tellShare_5 rfl (lv_at hl 0 rfl) ?_
    refine lv_lconst (v := (1 : Int64)) hx hb dX5_tellShare_6 (by decide) ?_
    refine lv_iconst (v := (2 : Int32)) hx hb dX5_tellShare_7 (by decide) ?_
    refine lv_iload_n hx hb dX5_tellShare_8 rfl (lv_at hl 2 rfl) ?_
    refine lv_imul hx hb dX5_tellShare_9 ?_
    refine lv_lshl (v := ((1 : Int64) <<< (((2 : Int32) * x3).toInt64 &&& 63))) hx hb dX5_tellShare_10 rfl ?_
    refine va_put (D := D) (ci := 3) (v := .long ((1 : Int64) <<< (((2 : Int32) * x3).toInt64 &&& 63))) (ty := .long) (C := RX5) (T := TX5) (N := 14) hx hb hts iX5 tyX5 tyX5_ok nmX5 hown hK hP hD hS 0 wPW_0 rfl 13 (by decide) q2 (fun _ h9 => h9) rfl (by decide +kernel) rfl rfl (Nat.le_of_ble_eq_true rfl) dX5_tellShare_11 (fun H locs hP hD hS => ?_)
    have hP : va_P D vwCl (wPW T ad (ad 6) (ad 12) rs rm ts tm rdue rtun rsee rbeg psize pclause peff pkin pgri psig psee qsize qclause qeff qkin qgri qsig qsee cdee cnow cahe kdee know kahe fc lf told x1 ((1 : Int64) <<< (((2 : Int32) * x3).toInt64 &&& 63))) H := hP
    have hD : va_D A (wPW T ad (ad 6) (ad 12) rs rm ts tm rdue rtun rsee rbeg psize pclause peff pkin pgri psig psee qsize qclause qeff qkin qgri qsig qsee cdee cnow cahe kdee know kahe fc lf told x1 ((1 : Int64) <<< (((2 : Int32) * x3).toInt64 &&& 63))) := hD
    refine lv_iconst (v := (0 : Int32)) hx hb dX5_tellShare_14 (by decide) ?_
    refine lv_istore (lv' := [(4, .int (0 : Int32)), (0, .ref (ad 0)), (1, .long x1), (3, .int x3)]) hx hb dX5_tellShare_15 hl (by decide) rfl (fun ls hl => ?_)
    exact l17 x3 F (0 : Int32) x1 ((1 : Int64) <<< (((2 : Int32) * x3).toInt64 &&& 63)) h _ _ hP hD hS _ (lv_sub hl [1, 3, 0] rfl)
  exact key _ (fun H locs pc ls hP hD hS hd => W.vret hx hb hr (fun t ht hW => ⟨⟨(), rfl, trivial, by show _ ∧ _; rw [ht]; exact ⟨hP, hD⟩⟩, hS.F ht⟩) hS.2.2 hd)
set_option maxHeartbeats 4000000 in
set_option maxRecDepth 100000 in
theorem kX5_odds (l : Launch) (D : va_G) (T : Nat → ClassId) (F : Nat) (ad : Nat → Nat) (rs : Nat → Int32) (rm : Nat → Nat → Int32) (ts : Nat → Int32) (tm : Nat → Nat → Int32) (rdue : Int32) (rtun : Int32) (rsee : Int32) (rbeg : Int32) (psize : Int32) (pclause : Int32) (peff : Nat → Int32) (pkin : Nat → Int32) (pgri : Nat → Int32) (psig : Nat → Int32) (psee : Nat → Int32) (qsize : Int32) (qclause : Int32) (qeff : Nat → Int32) (qkin : Nat → Int32) (qgri : Nat → Int32) (qsig : Nat → Int32) (qsee : Nat → Int32) (cdee : Int32) (cnow : Int64) (cahe : Nat → Int64) (kdee : Nat → Int32) (know : Nat → Int64) (kahe : Nat → Nat → Int64) (fc : Nat → Int32) (lf : Int32) (told : Int32) (up : Int64) (lo : Int64) (x1 : Int32) (r : Int32) (zup : Int64) (zlo : Int64) (h : fX5_odds F psize pclause peff pkin psee cnow up lo x1 = some (r, zup, zlo)) : ∀ sz : Nat, Met l yX5_odds wsX5_odds ({ frames := 31, cells := 0, slots := 0, locals := 926 } : Room) (va_Pc [.ref (ad 0), .int x1] (fun U => U.heap.size = sz ∧ va_P D vwCl (wPW T ad (ad 6) (ad 12) rs rm ts tm rdue rtun rsee rbeg psize pclause peff pkin pgri psig psee qsize qclause qeff qkin qgri qsig qsee cdee cnow cahe kdee know kahe fc lf told up lo) U.heap ∧ KK D T U ∧ va_D (fun _ => True) (wPW T ad (ad 6) (ad 12) rs rm ts tm rdue rtun rsee rbeg psize pclause peff pkin pgri psig psee qsize qclause qeff qkin qgri qsig qsee cdee cnow cahe kdee know kahe fc lf told up lo))) (va_Qi (fun r' (_ : Unit) => r' = r) (fun _ t => va_P D vwCl (wPW T ad (ad 6) (ad 12) rs rm ts tm rdue rtun rsee rbeg psize pclause peff pkin pgri psig psee qsize qclause qeff qkin qgri qsig qsee cdee cnow cahe kdee know kahe fc lf told zup zlo) t.heap ∧ va_D (va_A (wPW T ad (ad 6) (ad 12) rs rm ts tm rdue rtun rsee rbeg psize pclause peff pkin pgri psig psee qsize qclause qeff qkin qgri qsig qsee cdee cnow cahe kdee know kahe fc lf told up lo) sz) (wPW T ad (ad 6) (ad 12) rs rm ts tm rdue rtun rsee rbeg psize pclause peff pkin pgri psig psee qsize qclause qeff qkin qgri qsig qsee cdee cnow cahe kdee know kahe fc lf told zup zlo)) (va_A (wPW T ad (ad 6) (ad 12) rs rm ts tm rdue rtun rsee rbeg psize pclause peff pkin pgri psig psee qsize qclause qeff qkin qgri qsig qsee cdee cnow cahe kdee know kahe fc lf told up lo) sz)) 0 0 (va_A (wPW T ad (ad 6) (ad 12) rs rm ts tm rdue rtun rsee rbeg psize pclause peff pkin pgri psig psee qsize qclause qeff qkin qgri qsig qsee cdee cnow cahe kdee know kahe fc lf told up lo) sz) := by
  intro sz
  refine Met.ofW (cc := cX5_odds) (maxL := 3) (ret := some .int) (by decide) rfl ?_
  intro p e s m args below meth c s₁ B hml hv
  obtain ⟨ha, hsz, hP, hKK, hD0⟩ := hv
  have hx := B.exec
  have hb := B.bytes
  have hr := B.returns
  have hts := atoms_spec (ws := wsX5_odds) B.pre
  have hown : s.vm.findClass RX5 = some m.cls := findClass_of_methodNamed B.named
  have hlocks := B.notSynchronized
  have hK := hKK.1
  have hFix : CallFix p m c cX5_odds 3 s args wsX5_odds RX5 := ⟨hx, hb, hml, hown, hts⟩
  have q1 := hts _ (List.mem_of_getElem? (i := 1) (show wsX5_odds[1]? = some (Cond.fieldLink RX5 36 "PartyWill" "party" "LPartyWill$Party;") from rfl))
  have q2 := hts _ (List.mem_of_getElem? (i := 2) (show wsX5_odds[2]? = some (Cond.fieldLink RX5 46 "PartyWill" "course" "LPartyWill$Course;") from rfl))
  have q8 := hts _ (List.mem_of_getElem? (i := 8) (show wsX5_odds[8]? = some (Cond.static yX3_staying) from rfl))
  have q9 := hts _ (List.mem_of_getElem? (i := 9) (show wsX5_odds[9]? = some (Cond.initialized RX3) from rfl))
  have iX0 : ∀ w ∈ u_ws RX0 TX0 3, w ∈ wsX5_odds := fun w h => List.mem_cons_of_mem _ (List.mem_append_left _ (List.mem_append_right _ (h)))
  have iX5 : ∀ w ∈ u_ws RX5 TX5 14, w ∈ wsX5_odds := fun w h => List.mem_cons_of_mem _ (List.mem_append_left _ (List.mem_append_left _ (List.mem_append_right _ (h))))
  subst hsz
  have hD := hD0.self (sz := s.heap.size)
  generalize hAe : va_A (wPW T ad (ad 6) (ad 12) rs rm ts tm rdue rtun rsee rbeg psize pclause peff pkin pgri psig psee qsize qclause qeff qkin qgri qsig qsee cdee cnow cahe kdee know kahe fc lf told up lo) s.heap.size = A at hD ⊢
  have hA : ∀ q : Nat, s.heap.size ≤ q → A q := fun q h => by rw [← hAe]; exact Or.inr h
  have hS : va_S A s.heap s.heap [] := va_S.rf
  have hP : va_P D vwCl (wPW T ad (ad 6) (ad 12) rs rm ts tm rdue rtun rsee rbeg psize pclause peff pkin pgri psig psee qsize qclause qeff qkin qgri qsig qsee cdee cnow cahe kdee know kahe fc lf told up lo) s.heap := hP
  obtain ⟨ls, hl, e0⟩ := my_entry (m := m) (n := 3) ha (Nat.le_of_ble_eq_true rfl)
  rw [e0]
  have hl : lv_has ls 3 [(0, .ref (ad 0)), (1, .int x1)] := hl
  have key : ∀ Q : State → Prop, (∀ (H : Heap) (locs : List Loc) (pc : Nat) (ls : Array Slot), va_P D vwCl (wPW T ad (ad 6) (ad 12) rs rm ts tm rdue rtun rsee rbeg psize pclause peff pkin pgri psig psee qsize qclause qeff qkin qgri qsig qsee cdee cnow cahe kdee know kahe fc lf told zup zlo) H → va_D A (wPW T ad (ad 6) (ad 12) rs rm ts tm rdue rtun rsee rbeg psize pclause peff pkin pgri psig psee qsize qclause qeff qkin qgri qsig qsee cdee cnow cahe kdee know kahe fc lf told zup zlo) → va_S A s.heap H locs → decode cX5_odds pc = .ok (.ireturn, 1) → W p l e ({ frames := 31, cells := 0, slots := 0, locals := 926 } : Room) s m args below meth c H locs 0 0 Q (F0 m pc ls [.int r])) → W p l e ({ frames := 31, cells := 0, slots := 0, locals := 926 } : Room) s m args below meth c s.heap [] 0 0 Q (F0 m 0 ls []) := by
    intro Q hret
    skip
    unfold fX5_odds at h
    refine lv_aload_n hx hb dX5_odds_0 rfl (lv_at hl 0 rfl) ?_
    refine lv_iload_n hx hb dX5_odds_1 rfl (lv_at hl 1 rfl) ?_
    obtain ⟨r2, hc, h⟩ := bd1_some h
    refine my_roi (va_Run.run (va_runV (As := [.int x1]) (rest := []) hFix (kX5_searchRefusal l D T F ad (ad 6) (ad 12) rs rm ts tm rdue rtun rsee rbeg psize pclause peff pkin pgri psig psee qsize qclause qeff qkin qgri qsig qsee cdee cnow cahe kdee know kahe fc lf told up lo x1 r2 hc) (cwV 1 hts gX5_odds_X5_searchRefusal rfl rfl rfl ⟨rfl, hd_X5_searchRefusal⟩ ⟨Nat.le_of_ble_eq_true rfl, Nat.le_of_ble_eq_true rfl⟩) (preV_ro hP hKK (va_recv hK hP (ci := 3) (q0 := 0) rfl wPW_0)) rfl rfl hl.1 rfl (lv_room (Nat.le_of_ble_eq_true rfl)) dX5_odds_2 ⟨Nat.zero_le _, Nat.zero_le _⟩)) ?_
    refine lv_istore_n (lv' := [(2, .int r2), (0, .ref (ad 0)), (1, .int x1)]) hx hb dX5_odds_5 rfl hl (by decide) rfl (fun ls hl => ?_)
    refine lv_iload_n hx hb dX5_odds_6 rfl (lv_at hl 0 rfl) ?_
    refine lv_if_eq (tgt := 12) hx hb dX5_odds_7 (by decide) (fun c7 => ?_) (fun c7 => ?_)
    · have h := br_1 h c7
      refine lv_aload_n hx hb dX5_odds_12 rfl (lv_at hl 1 rfl) ?_
      refine lv_aload_n hx hb dX5_odds_13 rfl (lv_at hl 1 rfl) ?_
      refine va_get (D := D) (ci := 3) (C := RX5) (T := TX5) (N := 14) hx hb hts iX5 hown hK hP 0 wPW_0 rfl 5 (by decide) q1 (fun _ h9 => h9) rfl dX5_odds_14 ?_
      refine lv_aload_n hx hb dX5_odds_17 rfl (lv_at hl 1 rfl) ?_
      refine va_get (D := D) (ci := 3) (C := RX5) (T := TX5) (N := 14) hx hb hts iX5 hown hK hP 0 wPW_0 rfl 7 (by decide) q2 (fun _ h9 => h9) rfl dX5_odds_18 ?_
      refine va_getN (host := "PartyWill") (D := D) (ci := 0) (C := RX0) (T := TX0) (N := 3) hx hb hts iX0 hown hK hP 18 wPW_18 rfl 1 (by decide) (va_Nw.use rfl (nw_X5_127 hKK.2)) (fun _ h9 => h9) rfl dX5_odds_21 ?_
      refine lv_iload_n hx hb dX5_odds_24 rfl (lv_at hl 2 rfl) ?_
      obtain ⟨r25, hc, h⟩ := bd1_some h
      have hPc : va_P D vwCl (wPa T (ad 6) (ad 7) (ad 8) (ad 9) (ad 10) (ad 11) psize pclause peff pkin pgri psig psee) H := my_subP sb_wPW_wPa_6to11 hP
      refine my_rol (va_Run.run (va_runSN (host := "PartyWill") (As := [.ref (ad 6), .long cnow, .int x1]) (rest := [.ref (ad 0)]) hFix (kX3_staying l D T F 8 (ad 6) (ad 7) (ad 8) (ad 9) (ad 10) (ad 11) psize pclause peff pkin pgri psig psee cnow x1 r25 hc) ⟨va_cnB 3 hts gX5_odds_X3_staying_n260 rfl rfl rfl (nw_X5_260 hKK.2) q9 hd_X3_staying ⟨Nat.le_of_ble_eq_true rfl, Nat.le_of_ble_eq_true rfl⟩, q8, trivial⟩ (preS_ro hPc hKK) rfl rfl hl.1 rfl (lv_room (Nat.le_of_ble_eq_true rfl)) dX5_odds_25 ⟨Nat.zero_le _, Nat.zero_le _⟩)) ?_
      refine lv_iload_n hx hb dX5_odds_28 rfl (lv_at hl 2 rfl) ?_
      obtain ⟨w29_up, w29_lo, hc, h⟩ := bd2_some h
      have hFc := my_freeS hD hS hA
      refine my_rwv (va_runV (As := [.long r25, .int x1]) (rest := []) hFix (kX5_tellShare l D T F ad (ad 6) (ad 12) rs rm ts tm rdue rtun rsee rbeg psize pclause peff pkin pgri psig psee qsize qclause qeff qkin qgri qsig qsee cdee cnow cahe kdee know kahe fc lf told up lo r25 x1 w29_up w29_lo hc) (cwV 2 hts gX5_odds_X5_tellShare rfl rfl rfl ⟨rfl, hd_X5_tellShare⟩ ⟨Nat.le_of_ble_eq_true rfl, Nat.le_of_ble_eq_true rfl⟩) (preV_rw hP hKK hD (va_recv hK hP (ci := 3) (q0 := 0) rfl wPW_0)) rfl rfl hl.1 rfl (lv_room (Nat.le_of_ble_eq_true rfl)) dX5_odds_29 ⟨Nat.zero_le _, Nat.zero_le _⟩) hS hFc (fun H1 locs hP1 hD1 hz1 hk1 hS => ?_)
      have hP : va_P D vwCl (wPW T ad (ad 6) (ad 12) rs rm ts tm rdue rtun rsee rbeg psize pclause peff pkin pgri psig psee qsize qclause qeff qkin qgri qsig qsee cdee cnow cahe kdee know kahe fc lf told w29_up w29_lo) H1 := hP1
      have hD : va_D A (wPW T ad (ad 6) (ad 12) rs rm ts tm rdue rtun rsee rbeg psize pclause peff pkin pgri psig psee qsize qclause qeff qkin qgri qsig qsee cdee cnow cahe kdee know kahe fc lf told w29_up w29_lo) := hD1.weaken (fun _ q _ h => hFc q.1 h)
      generalize H1 = H at hP hS ⊢
      refine lv_iconst (v := (1 : Int32)) hx hb dX5_odds_32 (by decide) ?_
      cases h
      exact hret _ _ _ _ hP hD hS dX5_odds_33
    · have h := br_0 h c7
      refine lv_iload_n hx hb dX5_odds_10 rfl (lv_at hl 0 rfl) ?_
      cases h
      exact hret _ _ _ _ hP hD hS dX5_odds_11
  exact key _ (fun H locs pc ls hP hD hS hd => W.iret hx hb hr (fun t ht hW => ⟨⟨_, (), rfl, rfl, by show _ ∧ _; rw [ht]; exact ⟨hP, hD⟩⟩, hS.F ht⟩) hS.2.2 hd)
set_option maxHeartbeats 4000000 in
set_option maxRecDepth 100000 in
theorem kX5_mid (l : Launch) (D : va_G) (T : Nat → ClassId) (F : Nat) (ad : Nat → Nat) (rs : Nat → Int32) (rm : Nat → Nat → Int32) (ts : Nat → Int32) (tm : Nat → Nat → Int32) (rdue : Int32) (rtun : Int32) (rsee : Int32) (rbeg : Int32) (psize : Int32) (pclause : Int32) (peff : Nat → Int32) (pkin : Nat → Int32) (pgri : Nat → Int32) (psig : Nat → Int32) (psee : Nat → Int32) (qsize : Int32) (qclause : Int32) (qeff : Nat → Int32) (qkin : Nat → Int32) (qgri : Nat → Int32) (qsig : Nat → Int32) (qsee : Nat → Int32) (cdee : Int32) (cnow : Int64) (cahe : Nat → Int64) (kdee : Nat → Int32) (know : Nat → Int64) (kahe : Nat → Nat → Int64) (fc : Nat → Int32) (lf : Int32) (told : Int32) (up : Int64) (lo : Int64) (x1 : Int32) (r : Int32) (zup : Int64) (zlo : Int64) (h : fX5_mid F psize pclause peff pkin psee cnow up lo x1 = some (r, zup, zlo)) : ∀ sz : Nat, Met l yX5_mid wsX5_mid ({ frames := 31, cells := 0, slots := 0, locals := 926 } : Room) (va_Pc [.ref (ad 0), .int x1] (fun U => U.heap.size = sz ∧ va_P D vwCl (wPW T ad (ad 6) (ad 12) rs rm ts tm rdue rtun rsee rbeg psize pclause peff pkin pgri psig psee qsize qclause qeff qkin qgri qsig qsee cdee cnow cahe kdee know kahe fc lf told up lo) U.heap ∧ KK D T U ∧ va_D (fun _ => True) (wPW T ad (ad 6) (ad 12) rs rm ts tm rdue rtun rsee rbeg psize pclause peff pkin pgri psig psee qsize qclause qeff qkin qgri qsig qsee cdee cnow cahe kdee know kahe fc lf told up lo))) (va_Qi (fun r' (_ : Unit) => r' = r) (fun _ t => va_P D vwCl (wPW T ad (ad 6) (ad 12) rs rm ts tm rdue rtun rsee rbeg psize pclause peff pkin pgri psig psee qsize qclause qeff qkin qgri qsig qsee cdee cnow cahe kdee know kahe fc lf told zup zlo) t.heap ∧ va_D (va_A (wPW T ad (ad 6) (ad 12) rs rm ts tm rdue rtun rsee rbeg psize pclause peff pkin pgri psig psee qsize qclause qeff qkin qgri qsig qsee cdee cnow cahe kdee know kahe fc lf told up lo) sz) (wPW T ad (ad 6) (ad 12) rs rm ts tm rdue rtun rsee rbeg psize pclause peff pkin pgri psig psee qsize qclause qeff qkin qgri qsig qsee cdee cnow cahe kdee know kahe fc lf told zup zlo)) (va_A (wPW T ad (ad 6) (ad 12) rs rm ts tm rdue rtun rsee rbeg psize pclause peff pkin pgri psig psee qsize qclause qeff qkin qgri qsig qsee cdee cnow cahe kdee know kahe fc lf told up lo) sz)) 0 0 (va_A (wPW T ad (ad 6) (ad 12) rs rm ts tm rdue rtun rsee rbeg psize pclause peff pkin pgri psig psee qsize qclause qeff qkin qgri qsig qsee cdee cnow cahe kdee know kahe fc lf told up lo) sz) := by
  intro sz
  refine Met.ofW (cc := cX5_mid) (maxL := 5) (ret := some .int) (by decide) rfl ?_
  intro p e s m args below meth c s₁ B hml hv
  obtain ⟨ha, hsz, hP, hKK, hD0⟩ := hv
  have hx := B.exec
  have hb := B.bytes
  have hr := B.returns
  have hts := atoms_spec (ws := wsX5_mid) B.pre
  have hown : s.vm.findClass RX5 = some m.cls := findClass_of_methodNamed B.named
  have hlocks := B.notSynchronized
  have hK := hKK.1
  have hFix : CallFix p m c cX5_mid 5 s args wsX5_mid RX5 := ⟨hx, hb, hml, hown, hts⟩
  have q1 := hts _ (List.mem_of_getElem? (i := 1) (show wsX5_mid[1]? = some (Cond.fieldLink RX5 46 "PartyWill" "course" "LPartyWill$Course;") from rfl))
  have q2 := hts _ (List.mem_of_getElem? (i := 2) (show wsX5_mid[2]? = some (Cond.fieldLink RX5 36 "PartyWill" "party" "LPartyWill$Party;") from rfl))
  have q8 := hts _ (List.mem_of_getElem? (i := 8) (show wsX5_mid[8]? = some (Cond.static yX1_howManyIn) from rfl))
  have q9 := hts _ (List.mem_of_getElem? (i := 9) (show wsX5_mid[9]? = some (Cond.initialized RX1) from rfl))
  have q21 := hts _ (List.mem_of_getElem? (i := 21) (show wsX5_mid[21]? = some (Cond.static yX3_leftByAll) from rfl))
  have q22 := hts _ (List.mem_of_getElem? (i := 22) (show wsX5_mid[22]? = some (Cond.initialized RX3) from rfl))
  have iX0 : ∀ w ∈ u_ws RX0 TX0 3, w ∈ wsX5_mid := fun w h => List.mem_cons_of_mem _ (List.mem_append_left _ (List.mem_append_right _ (h)))
  have iX5 : ∀ w ∈ u_ws RX5 TX5 14, w ∈ wsX5_mid := fun w h => List.mem_cons_of_mem _ (List.mem_append_left _ (List.mem_append_left _ (List.mem_append_right _ (h))))
  subst hsz
  have hD := hD0.self (sz := s.heap.size)
  generalize hAe : va_A (wPW T ad (ad 6) (ad 12) rs rm ts tm rdue rtun rsee rbeg psize pclause peff pkin pgri psig psee qsize qclause qeff qkin qgri qsig qsee cdee cnow cahe kdee know kahe fc lf told up lo) s.heap.size = A at hD ⊢
  have hA : ∀ q : Nat, s.heap.size ≤ q → A q := fun q h => by rw [← hAe]; exact Or.inr h
  have hS : va_S A s.heap s.heap [] := va_S.rf
  have hP : va_P D vwCl (wPW T ad (ad 6) (ad 12) rs rm ts tm rdue rtun rsee rbeg psize pclause peff pkin pgri psig psee qsize qclause qeff qkin qgri qsig qsee cdee cnow cahe kdee know kahe fc lf told up lo) s.heap := hP
  obtain ⟨ls, hl, e0⟩ := my_entry (m := m) (n := 5) ha (Nat.le_of_ble_eq_true rfl)
  rw [e0]
  have hl : lv_has ls 5 [(0, .ref (ad 0)), (1, .int x1)] := hl
  have key : ∀ Q : State → Prop, (∀ (H : Heap) (locs : List Loc) (pc : Nat) (ls : Array Slot), va_P D vwCl (wPW T ad (ad 6) (ad 12) rs rm ts tm rdue rtun rsee rbeg psize pclause peff pkin pgri psig psee qsize qclause qeff qkin qgri qsig qsee cdee cnow cahe kdee know kahe fc lf told zup zlo) H → va_D A (wPW T ad (ad 6) (ad 12) rs rm ts tm rdue rtun rsee rbeg psize pclause peff pkin pgri psig psee qsize qclause qeff qkin qgri qsig qsee cdee cnow cahe kdee know kahe fc lf told zup zlo) → va_S A s.heap H locs → decode cX5_mid pc = .ok (.ireturn, 1) → W p l e ({ frames := 31, cells := 0, slots := 0, locals := 926 } : Room) s m args below meth c H locs 0 0 Q (F0 m pc ls [.int r])) → W p l e ({ frames := 31, cells := 0, slots := 0, locals := 926 } : Room) s m args below meth c s.heap [] 0 0 Q (F0 m 0 ls []) := by
    intro Q hret
    skip
    unfold fX5_mid at h
    refine lv_aload_n hx hb dX5_mid_0 rfl (lv_at hl 0 rfl) ?_
    refine lv_iload_n hx hb dX5_mid_1 rfl (lv_at hl 1 rfl) ?_
    obtain ⟨r2, hc, h⟩ := bd1_some h
    refine my_roi (va_Run.run (va_runV (As := [.int x1]) (rest := []) hFix (kX5_searchRefusal l D T F ad (ad 6) (ad 12) rs rm ts tm rdue rtun rsee rbeg psize pclause peff pkin pgri psig psee qsize qclause qeff qkin qgri qsig qsee cdee cnow cahe kdee know kahe fc lf told up lo x1 r2 hc) (cwV 1 hts gX5_mid_X5_searchRefusal rfl rfl rfl ⟨rfl, hd_X5_searchRefusal⟩ ⟨Nat.le_of_ble_eq_true rfl, Nat.le_of_ble_eq_true rfl⟩) (preV_ro hP hKK (va_recv hK hP (ci := 3) (q0 := 0) rfl wPW_0)) rfl rfl hl.1 rfl (lv_room (Nat.le_of_ble_eq_true rfl)) dX5_mid_2 ⟨Nat.zero_le _, Nat.zero_le _⟩)) ?_
    refine lv_istore_n (lv' := [(2, .int r2), (0, .ref (ad 0)), (1, .int x1)]) hx hb dX5_mid_5 rfl hl (by decide) rfl (fun ls hl => ?_)
    refine lv_iload_n hx hb dX5_mid_6 rfl (lv_at hl 0 rfl) ?_
    refine lv_if_eq (tgt := 12) hx hb dX5_mid_7 (by decide) (fun c7 => ?_) (fun c7 => ?_)
    · have h := br_1 h c7
      refine lv_aload_n hx hb dX5_mid_12 rfl (lv_at hl 1 rfl) ?_
      refine va_get (D := D) (ci := 3) (C := RX5) (T := TX5) (N := 14) hx hb hts iX5 hown hK hP 0 wPW_0 rfl 7 (by decide) q1 (fun _ h9 => h9) rfl dX5_mid_13 ?_
      refine va_getN (host := "PartyWill") (D := D) (ci := 0) (C := RX0) (T := TX0) (N := 3) hx hb hts iX0 hown hK hP 18 wPW_18 rfl 1 (by decide) (va_Nw.use rfl (nw_X5_127 hKK.2)) (fun _ h9 => h9) rfl dX5_mid_16 ?_
      obtain ⟨r19, hc, h⟩ := bd1_some h
      refine my_roi (va_Run.run (va_runSN (host := "PartyWill") (As := [.long cnow]) (rest := []) hFix (kX1_howManyIn l D T F cnow r19 hc) ⟨va_cnB 1 hts gX5_mid_X1_howManyIn_n207 rfl rfl rfl (nw_X5_207 hKK.2) q9 hd_X1_howManyIn ⟨Nat.le_of_ble_eq_true rfl, Nat.le_of_ble_eq_true rfl⟩, q8, trivial⟩ (preS_ro va_nil hKK) rfl rfl hl.1 rfl (lv_room (Nat.le_of_ble_eq_true rfl)) dX5_mid_19 ⟨Nat.zero_le _, Nat.zero_le _⟩)) ?_
      refine lv_i2l (v := (r19.toInt64)) hx hb dX5_mid_22 rfl ?_
      refine lv_iconst (v := (2 : Int32)) hx hb dX5_mid_23 (by decide) ?_
      refine lv_iload_n hx hb dX5_mid_24 rfl (lv_at hl 2 rfl) ?_
      refine lv_imul hx hb dX5_mid_25 ?_
      refine lv_lshl (v := ((r19.toInt64) <<< (((2 : Int32) * x1).toInt64 &&& 63))) hx hb dX5_mid_26 rfl ?_
      refine lv_lstore_n (lv' := [(3, .long ((r19.toInt64) <<< (((2 : Int32) * x1).toInt64 &&& 63))), (2, .int r2), (0, .ref (ad 0)), (1, .int x1)]) hx hb dX5_mid_27 rfl hl (by decide) rfl (fun ls hl => ?_)
      refine lv_aload_n hx hb dX5_mid_28 rfl (lv_at hl 2 rfl) ?_
      refine lv_lload_n hx hb dX5_mid_29 rfl (lv_at hl 0 rfl) ?_
      refine lv_aload_n hx hb dX5_mid_30 rfl (lv_at hl 2 rfl) ?_
      refine va_get (D := D) (ci := 3) (C := RX5) (T := TX5) (N := 14) hx hb hts iX5 hown hK hP 0 wPW_0 rfl 5 (by decide) q2 (fun _ h9 => h9) rfl dX5_mid_31 ?_
      refine lv_aload_n hx hb dX5_mid_34 rfl (lv_at hl 2 rfl) ?_
      refine va_get (D := D) (ci := 3) (C := RX5) (T := TX5) (N := 14) hx hb hts iX5 hown hK hP 0 wPW_0 rfl 7 (by decide) q1 (fun _ h9 => h9) rfl dX5_mid_35 ?_
      refine va_getN (host := "PartyWill") (D := D) (ci := 0) (C := RX0) (T := TX0) (N := 3) hx hb hts iX0 hown hK hP 18 wPW_18 rfl 1 (by decide) (va_Nw.use rfl (nw_X5_127 hKK.2)) (fun _ h9 => h9) rfl dX5_mid_38 ?_
      refine lv_iload_n hx hb dX5_mid_41 rfl (lv_at hl 3 rfl) ?_
      obtain ⟨r42, hc, h⟩ := bd1_some h
      have hPc : va_P D vwCl (wPa T (ad 6) (ad 7) (ad 8) (ad 9) (ad 10) (ad 11) psize pclause peff pkin pgri psig psee) H := my_subP sb_wPW_wPa_6to11 hP
      refine my_rol (va_Run.run (va_runSN (host := "PartyWill") (As := [.ref (ad 6), .long cnow, .int x1]) (rest := [.long ((r19.toInt64) <<< (((2 : Int32) * x1).toInt64 &&& 63)), .ref (ad 0)]) hFix (kX3_leftByAll l D T F 8 (ad 6) (ad 7) (ad 8) (ad 9) (ad 10) (ad 11) psize pclause peff pkin pgri psig psee cnow x1 r42 hc) ⟨va_cnB 3 hts gX5_mid_X3_leftByAll_n268 rfl rfl rfl (nw_X5_268 hKK.2) q22 hd_X3_leftByAll ⟨Nat.le_of_ble_eq_true rfl, Nat.le_of_ble_eq_true rfl⟩, q21, trivial⟩ (preS_ro hPc hKK) rfl rfl hl.1 rfl (lv_room (Nat.le_of_ble_eq_true rfl)) dX5_mid_42 ⟨Nat.zero_le _, Nat.zero_le _⟩)) ?_
      refine lv_lsub hx hb dX5_mid_45 ?_
      refine lv_iload_n hx hb dX5_mid_46 rfl (lv_at hl 3 rfl) ?_
      obtain ⟨w47_up, w47_lo, hc, h⟩ := bd2_some h
      have hFc := my_freeS hD hS hA
      refine my_rwv (va_runV (As := [.long (((r19.toInt64) <<< (((2 : Int32) * x1).toInt64 &&& 63)) - r42), .int x1]) (rest := []) hFix (kX5_tellShare l D T F ad (ad 6) (ad 12) rs rm ts tm rdue rtun rsee rbeg psize pclause peff pkin pgri psig psee qsize qclause qeff qkin qgri qsig qsee cdee cnow cahe kdee know kahe fc lf told up lo (((r19.toInt64) <<< (((2 : Int32) * x1).toInt64 &&& 63)) - r42) x1 w47_up w47_lo hc) (cwV 2 hts gX5_mid_X5_tellShare rfl rfl rfl ⟨rfl, hd_X5_tellShare⟩ ⟨Nat.le_of_ble_eq_true rfl, Nat.le_of_ble_eq_true rfl⟩) (preV_rw hP hKK hD (va_recv hK hP (ci := 3) (q0 := 0) rfl wPW_0)) rfl rfl hl.1 rfl (lv_room (Nat.le_of_ble_eq_true rfl)) dX5_mid_47 ⟨Nat.zero_le _, Nat.zero_le _⟩) hS hFc (fun H1 locs hP1 hD1 hz1 hk1 hS => ?_)
      have hP : va_P D vwCl (wPW T ad (ad 6) (ad 12) rs rm ts tm rdue rtun rsee rbeg psize pclause peff pkin pgri psig psee qsize qclause qeff qkin qgri qsig qsee cdee cnow cahe kdee know kahe fc lf told w47_up w47_lo) H1 := hP1
      have hD : va_D A (wPW T ad (ad 6) (ad 12) rs rm ts tm rdue rtun rsee rbeg psize pclause peff pkin pgri psig psee qsize qclause qeff qkin qgri qsig qsee cdee cnow cahe kdee know kahe fc lf told w47_up w47_lo) := hD1.weaken (fun _ q _ h => hFc q.1 h)
      generalize H1 = H at hP hS ⊢
      refine lv_iconst (v := (1 : Int32)) hx hb dX5_mid_50 (by decide) ?_
      cases h
      exact hret _ _ _ _ hP hD hS dX5_mid_51
    · have h := br_0 h c7
      refine lv_iload_n hx hb dX5_mid_10 rfl (lv_at hl 0 rfl) ?_
      cases h
      exact hret _ _ _ _ hP hD hS dX5_mid_11
  exact key _ (fun H locs pc ls hP hD hS hd => W.iret hx hb hr (fun t ht hW => ⟨⟨_, (), rfl, rfl, by show _ ∧ _; rw [ht]; exact ⟨hP, hD⟩⟩, hS.F ht⟩) hS.2.2 hd)
set_option maxHeartbeats 4000000 in
set_option maxRecDepth 100000 in
theorem kX5_lots (l : Launch) (D : va_G) (T : Nat → ClassId) (F : Nat) (ad : Nat → Nat) (rs : Nat → Int32) (rm : Nat → Nat → Int32) (ts : Nat → Int32) (tm : Nat → Nat → Int32) (rdue : Int32) (rtun : Int32) (rsee : Int32) (rbeg : Int32) (psize : Int32) (pclause : Int32) (peff : Nat → Int32) (pkin : Nat → Int32) (pgri : Nat → Int32) (psig : Nat → Int32) (psee : Nat → Int32) (qsize : Int32) (qclause : Int32) (qeff : Nat → Int32) (qkin : Nat → Int32) (qgri : Nat → Int32) (qsig : Nat → Int32) (qsee : Nat → Int32) (cdee : Int32) (cnow : Int64) (cahe : Nat → Int64) (kdee : Nat → Int32) (know : Nat → Int64) (kahe : Nat → Nat → Int64) (fc : Nat → Int32) (lf : Int32) (told : Int32) (up : Int64) (lo : Int64) (x1 : Int32) (x2 : Int32) (r : Int32) (zcdee : Int32) (zcnow : Int64) (zcahe : Nat → Int64) (h : fX5_lots F psize pclause peff pkin psee cdee cnow cahe x1 x2 = some (r, zcdee, zcnow, zcahe)) : ∀ sz : Nat, Met l yX5_lots wsX5_lots ({ frames := 4, cells := 0, slots := 0, locals := 102 } : Room) (va_Pc [.ref (ad 0), .int x1, .int x2] (fun U => U.heap.size = sz ∧ va_P D vwCl (wPW T ad (ad 6) (ad 12) rs rm ts tm rdue rtun rsee rbeg psize pclause peff pkin pgri psig psee qsize qclause qeff qkin qgri qsig qsee cdee cnow cahe kdee know kahe fc lf told up lo) U.heap ∧ KK D T U ∧ va_D (fun _ => True) (wPW T ad (ad 6) (ad 12) rs rm ts tm rdue rtun rsee rbeg psize pclause peff pkin pgri psig psee qsize qclause qeff qkin qgri qsig qsee cdee cnow cahe kdee know kahe fc lf told up lo))) (va_Qi (fun r' (_ : Unit) => r' = r) (fun _ t => va_P D vwCl (wPW T ad (ad 6) (ad 12) rs rm ts tm rdue rtun rsee rbeg psize pclause peff pkin pgri psig psee qsize qclause qeff qkin qgri qsig qsee zcdee zcnow zcahe kdee know kahe fc lf told up lo) t.heap ∧ va_D (va_A (wPW T ad (ad 6) (ad 12) rs rm ts tm rdue rtun rsee rbeg psize pclause peff pkin pgri psig psee qsize qclause qeff qkin qgri qsig qsee cdee cnow cahe kdee know kahe fc lf told up lo) sz) (wPW T ad (ad 6) (ad 12) rs rm ts tm rdue rtun rsee rbeg psize pclause peff pkin pgri psig psee qsize qclause qeff qkin qgri qsig qsee zcdee zcnow zcahe kdee know kahe fc lf told up lo)) (va_A (wPW T ad (ad 6) (ad 12) rs rm ts tm rdue rtun rsee rbeg psize pclause peff pkin pgri psig psee qsize qclause qeff qkin qgri qsig qsee cdee cnow cahe kdee know kahe fc lf told up lo) sz)) 0 0 (va_A (wPW T ad (ad 6) (ad 12) rs rm ts tm rdue rtun rsee rbeg psize pclause peff pkin pgri psig psee qsize qclause qeff qkin qgri qsig qsee cdee cnow cahe kdee know kahe fc lf told up lo) sz) := by
  intro sz
  refine Met.ofW (cc := cX5_lots) (maxL := 7) (ret := some .int) (by decide) rfl ?_
  intro p e s m args below meth c s₁ B hml hv
  obtain ⟨ha, hsz, hP, hKK, hD0⟩ := hv
  have hx := B.exec
  have hb := B.bytes
  have hr := B.returns
  have hts := atoms_spec (ws := wsX5_lots) B.pre
  have hown : s.vm.findClass RX5 = some m.cls := findClass_of_methodNamed B.named
  have hlocks := B.notSynchronized
  have hK := hKK.1
  have hFix : CallFix p m c cX5_lots 7 s args wsX5_lots RX5 := ⟨hx, hb, hml, hown, hts⟩
  have q1 := hts _ (List.mem_of_getElem? (i := 1) (show wsX5_lots[1]? = some (Cond.constantLong RX5 271 (2147483647)) from rfl))
  have q2 := hts _ (List.mem_of_getElem? (i := 2) (show wsX5_lots[2]? = some (Cond.fieldLink RX5 36 "PartyWill" "party" "LPartyWill$Party;") from rfl))
  have q3 := hts _ (List.mem_of_getElem? (i := 3) (show wsX5_lots[3]? = some (Cond.fieldLink RX5 46 "PartyWill" "course" "LPartyWill$Course;") from rfl))
  have q4 := hts _ (List.mem_of_getElem? (i := 4) (show wsX5_lots[4]? = some (Cond.constantLong RX5 273 (48271)) from rfl))
  have q5 := hts _ (List.mem_of_getElem? (i := 5) (show wsX5_lots[5]? = some (Cond.constantLong RX5 275 (16)) from rfl))
  have q6 := hts _ (List.mem_of_getElem? (i := 6) (show wsX5_lots[6]? = some (Cond.constantLong RX5 277 (4)) from rfl))
  have q7 := hts _ (List.mem_of_getElem? (i := 7) (show wsX5_lots[7]? = some (Cond.static yX1_howManyIn) from rfl))
  have q8 := hts _ (List.mem_of_getElem? (i := 8) (show wsX5_lots[8]? = some (Cond.initialized RX1) from rfl))
  have q20 := hts _ (List.mem_of_getElem? (i := 20) (show wsX5_lots[20]? = some (Cond.instanceMethod yX2_afterTune) from rfl))
  have q21 := hts _ (List.mem_of_getElem? (i := 21) (show wsX5_lots[21]? = some (Cond.initialized RX2) from rfl))
  have q22 := hts _ (List.mem_of_getElem? (i := 22) (show wsX5_lots[22]? = some (Cond.selects RX2 yX2_afterTune yX2_afterTune) from rfl))
  have q67 := hts _ (List.mem_of_getElem? (i := 67) (show wsX5_lots[67]? = some (Cond.instanceMethod yX0_goOn) from rfl))
  have q68 := hts _ (List.mem_of_getElem? (i := 68) (show wsX5_lots[68]? = some (Cond.initialized RX0) from rfl))
  have q69 := hts _ (List.mem_of_getElem? (i := 69) (show wsX5_lots[69]? = some (Cond.selects RX0 yX0_goOn yX0_goOn) from rfl))
  have iX0 : ∀ w ∈ u_ws RX0 TX0 3, w ∈ wsX5_lots := fun w h => List.mem_cons_of_mem _ (List.mem_append_right _ (h))
  have iX2 : ∀ w ∈ u_ws RX2 TX2 7, w ∈ wsX5_lots := fun w h => List.mem_cons_of_mem _ (List.mem_append_left _ (List.mem_append_right _ (h)))
  have iX5 : ∀ w ∈ u_ws RX5 TX5 14, w ∈ wsX5_lots := fun w h => List.mem_cons_of_mem _ (List.mem_append_left _ (List.mem_append_left _ (List.mem_append_right _ (h))))
  subst hsz
  have hD := hD0.self (sz := s.heap.size)
  generalize hAe : va_A (wPW T ad (ad 6) (ad 12) rs rm ts tm rdue rtun rsee rbeg psize pclause peff pkin pgri psig psee qsize qclause qeff qkin qgri qsig qsee cdee cnow cahe kdee know kahe fc lf told up lo) s.heap.size = A at hD ⊢
  have hA : ∀ q : Nat, s.heap.size ≤ q → A q := fun q h => by rw [← hAe]; exact Or.inr h
  have hS : va_S A s.heap s.heap [] := va_S.rf
  have hP : va_P D vwCl (wPW T ad (ad 6) (ad 12) rs rm ts tm rdue rtun rsee rbeg psize pclause peff pkin pgri psig psee qsize qclause qeff qkin qgri qsig qsee cdee cnow cahe kdee know kahe fc lf told up lo) s.heap := hP
  obtain ⟨ls, hl, e0⟩ := my_entry (m := m) (n := 7) ha (Nat.le_of_ble_eq_true rfl)
  rw [e0]
  have hl : lv_has ls 7 [(0, .ref (ad 0)), (1, .int x1), (2, .int x2)] := hl
  have key : ∀ Q : State → Prop, (∀ (H : Heap) (locs : List Loc) (pc : Nat) (ls : Array Slot), va_P D vwCl (wPW T ad (ad 6) (ad 12) rs rm ts tm rdue rtun rsee rbeg psize pclause peff pkin pgri psig psee qsize qclause qeff qkin qgri qsig qsee zcdee zcnow zcahe kdee know kahe fc lf told up lo) H → va_D A (wPW T ad (ad 6) (ad 12) rs rm ts tm rdue rtun rsee rbeg psize pclause peff pkin pgri psig psee qsize qclause qeff qkin qgri qsig qsee zcdee zcnow zcahe kdee know kahe fc lf told up lo) → va_S A s.heap H locs → decode cX5_lots pc = .ok (.ireturn, 1) → W p l e ({ frames := 4, cells := 0, slots := 0, locals := 102 } : Room) s m args below meth c H locs 0 0 Q (F0 m pc ls [.int r])) → W p l e ({ frames := 4, cells := 0, slots := 0, locals := 102 } : Room) s m args below meth c s.heap [] 0 0 Q (F0 m 0 ls []) := by
    intro Q hret
    skip
    have l75 : ∀ x1 : Int32, ∀ x3 : Int32, ∀ nu : Nat, ∀ x4 : Int64, ∀ x6 : Int32, ∀ cdee : Int32, ∀ cnow : Int64, ∀ cahe : Nat → Int64, fX5_lots_l75 F psize pclause peff pkin psee x1 x3 nu x4 x6 cdee cnow cahe = some (r, zcdee, zcnow, zcahe) → ∀ (H : Heap) (locs : List Loc), va_P D vwCl (wPW T ad (ad 6) (ad 12) rs rm ts tm rdue rtun rsee rbeg psize pclause peff pkin pgri psig psee qsize qclause qeff qkin qgri qsig qsee cdee cnow cahe kdee know kahe fc lf told up lo) H → va_D A (wPW T ad (ad 6) (ad 12) rs rm ts tm rdue rtun rsee rbeg psize pclause peff pkin pgri psig psee qsize qclause qeff qkin qgri qsig qsee cdee cnow cahe kdee know kahe fc lf told up lo) → va_S A s.heap H locs → ∀ (ls : Array Slot), lv_has ls 7 [(0, .ref (ad 0)), (1, .int x1), (3, .int x3), (4, .long x4), (6, .int x6)] → W p l e ({ frames := 4, cells := 0, slots := 0, locals := 102 } : Room) s m args below meth c H locs 0 0 Q (F0 m 75 ls []) := by
      intro x1 x3
      intro nu
      induction nu with
      | zero => intro x4 x6 cdee cnow cahe h; exact none_some h
      | succ nu75 ih75 =>
        intro x4 x6 cdee cnow cahe h H locs hP hD hS ls hl
        have h : fX5_lots_l75_b F psize pclause peff pkin psee x1 x3 (fX5_lots_l75 F psize pclause peff pkin psee x1 x3 nu75) x4 x6 cdee cnow cahe = some (r, zcdee, zcnow, zcahe) := h
        unfold fX5_lots_l75_b at h
        refine lv_iload hx hb dX5_lots_75 (lv_at hl 4 rfl) ?_
        refine lv_iload_n hx hb dX5_lots_77 rfl (lv_at hl 1 rfl) ?_
        refine lv_icmp_ge (tgt := 131) hx hb dX5_lots_78 (by decide) (fun c78 => ?_) (fun c78 => ?_)
        · have h := br_1 h c78
          refine lv_iload_n hx hb dX5_lots_131 rfl (lv_at hl 2 rfl) ?_
          refine lv_aload_n hx hb dX5_lots_132 rfl (lv_at hl 0 rfl) ?_
          refine va_get (D := D) (ci := 3) (C := RX5) (T := TX5) (N := 14) hx hb hts iX5 hown hK hP 0 wPW_0 rfl 7 (by decide) q3 (fun _ h9 => h9) rfl dX5_lots_133 ?_
          refine va_getN (host := "PartyWill") (D := D) (ci := 0) (C := RX0) (T := TX0) (N := 3) hx hb hts iX0 hown hK hP 18 wPW_18 rfl 1 (by decide) (va_Nw.use rfl (nw_X5_127 hKK.2)) (fun _ h9 => h9) rfl dX5_lots_136 ?_
          obtain ⟨r139, hc, h⟩ := bd1_some h
          refine my_roi (va_Run.run (va_runSN (host := "PartyWill") (As := [.long cnow]) (rest := [.int x3]) hFix (kX1_howManyIn l D T F cnow r139 hc) ⟨va_cnB 1 hts gX5_lots_X1_howManyIn_n207 rfl rfl rfl (nw_X5_207 hKK.2) q8 hd_X1_howManyIn ⟨Nat.le_of_ble_eq_true rfl, Nat.le_of_ble_eq_true rfl⟩, q7, trivial⟩ (preS_ro va_nil hKK) rfl rfl hl.1 rfl (lv_room (Nat.le_of_ble_eq_true rfl)) dX5_lots_139 ⟨Nat.zero_le _, Nat.zero_le _⟩)) ?_
          refine lv_isub hx hb dX5_lots_142 ?_
          cases h
          exact hret _ _ _ _ hP hD hS dX5_lots_143
        · have h := br_0 h c78
          refine lv_lload hx hb dX5_lots_81 (lv_at hl 3 rfl) ?_
          refine lv_ldc2 (v := (48271 : Int64)) hx hb hown q4 dX5_lots_83 ?_
          refine lv_lmul hx hb dX5_lots_86 ?_
          refine lv_ldc2 (v := (2147483647 : Int64)) hx hb hown q1 dX5_lots_87 ?_
          refine lv_lrem hx hb dX5_lots_90 (by decide) ?_
          refine lv_lstore (lv' := [(4, .long ((x4 * (48271 : Int64)) - (x4 * (48271 : Int64)) / (2147483647 : Int64) * (2147483647 : Int64))), (0, .ref (ad 0)), (1, .int x1), (3, .int x3), (6, .int x6)]) hx hb dX5_lots_91 hl (by decide) rfl (fun ls hl => ?_)
          refine lv_aload_n hx hb dX5_lots_93 rfl (lv_at hl 1 rfl) ?_
          refine va_get (D := D) (ci := 3) (C := RX5) (T := TX5) (N := 14) hx hb hts iX5 hown hK hP 0 wPW_0 rfl 7 (by decide) q3 (fun _ h9 => h9) rfl dX5_lots_94 ?_
          refine lv_aload_n hx hb dX5_lots_97 rfl (lv_at hl 1 rfl) ?_
          refine va_get (D := D) (ci := 3) (C := RX5) (T := TX5) (N := 14) hx hb hts iX5 hown hK hP 0 wPW_0 rfl 5 (by decide) q2 (fun _ h9 => h9) rfl dX5_lots_98 ?_
          refine lv_aload_n hx hb dX5_lots_101 rfl (lv_at hl 1 rfl) ?_
          refine va_get (D := D) (ci := 3) (C := RX5) (T := TX5) (N := 14) hx hb hts iX5 hown hK hP 0 wPW_0 rfl 7 (by decide) q3 (fun _ h9 => h9) rfl dX5_lots_102 ?_
          refine va_getN (host := "PartyWill") (D := D) (ci := 0) (C := RX0) (T := TX0) (N := 3) hx hb hts iX0 hown hK hP 18 wPW_18 rfl 1 (by decide) (va_Nw.use rfl (nw_X5_127 hKK.2)) (fun _ h9 => h9) rfl dX5_lots_105 ?_
          refine lv_lload hx hb dX5_lots_108 (lv_at hl 0 rfl) ?_
          refine lv_ldc2 (v := (16 : Int64)) hx hb hown q5 dX5_lots_110 ?_
          refine lv_ldiv hx hb dX5_lots_113 (by decide) ?_
          refine lv_ldc2 (v := (4 : Int64)) hx hb hown q6 dX5_lots_114 ?_
          refine lv_lrem hx hb dX5_lots_117 (by decide) ?_
          refine lv_l2i (v := (((((x4 * (48271 : Int64)) - (x4 * (48271 : Int64)) / (2147483647 : Int64) * (2147483647 : Int64)) / (16 : Int64)) - (((x4 * (48271 : Int64)) - (x4 * (48271 : Int64)) / (2147483647 : Int64) * (2147483647 : Int64)) / (16 : Int64)) / (4 : Int64) * (4 : Int64)).toInt32)) hx hb dX5_lots_118 rfl ?_
          obtain ⟨r119, hc, h⟩ := bd1_some h
          have hPc : va_P D vwCl (wPa T (ad 6) (ad 7) (ad 8) (ad 9) (ad 10) (ad 11) psize pclause peff pkin pgri psig psee) H := my_subP sb_wPW_wPa_6to11 hP
          refine my_rol (va_Run.run (va_runVN (host := "PartyWill") (As := [.long cnow, .int (((((x4 * (48271 : Int64)) - (x4 * (48271 : Int64)) / (2147483647 : Int64) * (2147483647 : Int64)) / (16 : Int64)) - (((x4 * (48271 : Int64)) - (x4 * (48271 : Int64)) / (2147483647 : Int64) * (2147483647 : Int64)) / (16 : Int64)) / (4 : Int64) * (4 : Int64)).toInt32)]) (rest := [.ref (ad 18)]) hFix (kX2_afterTune l D T F (ad 6) (ad 7) (ad 8) (ad 9) (ad 10) (ad 11) psize pclause peff pkin pgri psig psee cnow (((((x4 * (48271 : Int64)) - (x4 * (48271 : Int64)) / (2147483647 : Int64) * (2147483647 : Int64)) / (16 : Int64)) - (((x4 * (48271 : Int64)) - (x4 * (48271 : Int64)) / (2147483647 : Int64) * (2147483647 : Int64)) / (16 : Int64)) / (4 : Int64) * (4 : Int64)).toInt32) r119 hc) ⟨va_cnB 2 hts gX5_lots_X2_afterTune_n162 rfl rfl rfl (nw_X5_162 hKK.2) q21 hd_X2_afterTune ⟨Nat.le_of_ble_eq_true rfl, Nat.le_of_ble_eq_true rfl⟩, q20, q22⟩ (preV_ro hPc hKK (va_recv hK hP (ci := 1) (q0 := 6) rfl wPW_6)) rfl rfl hl.1 rfl (lv_room (Nat.le_of_ble_eq_true rfl)) dX5_lots_119 ⟨Nat.zero_le _, Nat.zero_le _⟩)) ?_
          obtain ⟨w122_cdee, w122_cnow, w122_cahe, hc, h⟩ := bd3_some h
          have hPc : va_P D vwCl (wCo T (ad 18) (ad 19) cdee cnow cahe) H := my_subP sb_wPW_wCo_18_19 hP
          have hDc := hD.sub [18, 19] (by decide) sb_wPW_wCo_18_19
          have hFc := va_free hD hS hA [18, 19] sb_wPW_wCo_18_19
          refine my_rwv (va_runVN (host := "PartyWill") (As := [.long r119]) (rest := []) hFix (kX0_goOn l D T F (ad 18) (ad 19) cdee cnow cahe r119 w122_cdee w122_cnow w122_cahe hc) ⟨va_cnB 1 hts gX5_lots_X0_goOn_n166 rfl rfl rfl (nw_X5_166 hKK.2) q68 hd_X0_goOn ⟨Nat.le_of_ble_eq_true rfl, Nat.le_of_ble_eq_true rfl⟩, q67, q69⟩ (preV_rw hPc hKK hDc (va_recv hK hP (ci := 0) (q0 := 18) rfl wPW_18)) rfl rfl hl.1 rfl (lv_room (Nat.le_of_ble_eq_true rfl)) dX5_lots_122 ⟨Nat.zero_le _, Nat.zero_le _⟩) hS hFc (fun H1 locs hP1 hD1 hz1 hk1 hS => ?_)
          obtain ⟨hP, hD⟩ := my_joinS hP hD (by decide) sb_wPW_wCo_18_19 hk1 hFc hP1 hD1
          have hP : va_P D vwCl (wPW T ad (ad 6) (ad 12) rs rm ts tm rdue rtun rsee rbeg psize pclause peff pkin pgri psig psee qsize qclause qeff qkin qgri qsig qsee w122_cdee w122_cnow w122_cahe kdee know kahe fc lf told up lo) H1 := st_wPW_wCo_18_19_goOn ▸ hP
          have hD : va_D A (wPW T ad (ad 6) (ad 12) rs rm ts tm rdue rtun rsee rbeg psize pclause peff pkin pgri psig psee qsize qclause qeff qkin qgri qsig qsee w122_cdee w122_cnow w122_cahe kdee know kahe fc lf told up lo) := st_wPW_wCo_18_19_goOn ▸ hD
          generalize H1 = H at hP hS ⊢
          refine lv_iinc (v := (x6 + (1 : Int32))) (lv' := [(6, .int (x6 + (1 : Int32))), (4, .long ((x4 * (48271 : Int64)) - (x4 * (48271 : Int64)) / (2147483647 : Int64) * (2147483647 : Int64))), (0, .ref (ad 0)), (1, .int x1), (3, .int x3)]) hx hb dX5_lots_125 hl (k := 4) rfl rfl (by decide) rfl (fun ls hl => ?_)
          refine lv_goto (tgt := 75) hx hb dX5_lots_128 (by decide) ?_
          exact ih75 ((x4 * (48271 : Int64)) - (x4 * (48271 : Int64)) / (2147483647 : Int64) * (2147483647 : Int64)) (x6 + (1 : Int32)) w122_cdee w122_cnow w122_cahe h _ _ hP hD hS _ (lv_sub hl [2, 3, 4, 1, 0] rfl)
    unfold fX5_lots at h
    refine lv_iload_n hx hb dX5_lots_0 rfl (lv_at hl 1 rfl) ?_
    refine lv_iconst (v := (1 : Int32)) hx hb dX5_lots_1 (by decide) ?_
    refine lv_icmp_lt (tgt := 25) hx hb dX5_lots_2 (by decide) (fun c2 => ?_) (fun c2 => ?_)
    · have h := br_1 h c2
      refine lv_iconst (v := (-1 : Int32)) hx hb dX5_lots_25 (by decide) ?_
      cases h
      exact hret _ _ _ _ hP hD hS dX5_lots_26
    · have h := br_0 h c2
      refine lv_iload_n hx hb dX5_lots_5 rfl (lv_at hl 1 rfl) ?_
      refine lv_bipush (v := (20 : Int32)) hx hb dX5_lots_6 (by decide) ?_
      refine lv_icmp_gt (tgt := 25) hx hb dX5_lots_8 (by decide) (fun c8 => ?_) (fun c8 => ?_)
      · have h := br_1 h c8
        refine lv_iconst (v := (-1 : Int32)) hx hb dX5_lots_25 (by decide) ?_
        cases h
        exact hret _ _ _ _ hP hD hS dX5_lots_26
      · have h := br_0 h c8
        refine lv_iload_n hx hb dX5_lots_11 rfl (lv_at hl 2 rfl) ?_
        refine lv_iconst (v := (1 : Int32)) hx hb dX5_lots_12 (by decide) ?_
        refine lv_icmp_lt (tgt := 25) hx hb dX5_lots_13 (by decide) (fun c13 => ?_) (fun c13 => ?_)
        · have h := br_1 h c13
          refine lv_iconst (v := (-1 : Int32)) hx hb dX5_lots_25 (by decide) ?_
          cases h
          exact hret _ _ _ _ hP hD hS dX5_lots_26
        · have h := br_0 h c13
          refine lv_iload_n hx hb dX5_lots_16 rfl (lv_at hl 2 rfl) ?_
          refine lv_i2l (v := (x2.toInt64)) hx hb dX5_lots_17 rfl ?_
          refine lv_ldc2 (v := (2147483647 : Int64)) hx hb hown q1 dX5_lots_18 ?_
          refine W.lcmp hx hb dX5_lots_21 ?_
          refine lv_if_lt (tgt := 27) hx hb dX5_lots_22 (by decide) (fun c22 => ?_) (fun c22 => ?_)
          · have h := br_1 h c22
            refine lv_aload_n hx hb dX5_lots_27 rfl (lv_at hl 0 rfl) ?_
            refine va_get (D := D) (ci := 3) (C := RX5) (T := TX5) (N := 14) hx hb hts iX5 hown hK hP 0 wPW_0 rfl 5 (by decide) q2 (fun _ h9 => h9) rfl dX5_lots_28 ?_
            refine va_getN (host := "PartyWill") (D := D) (ci := 1) (C := RX2) (T := TX2) (N := 7) hx hb hts iX2 hown hK hP 6 wPW_6 rfl 0 (by decide) (va_Nw.use rfl (nw_X5_111 hKK.2)) (fun _ h9 => h9) rfl dX5_lots_31 ?_
            refine lv_if_ne (tgt := 40) hx hb dX5_lots_34 (by decide) (fun c34 => ?_) (fun c34 => ?_)
            · have h := br_0 h c34
              refine lv_aload_n hx hb dX5_lots_40 rfl (lv_at hl 0 rfl) ?_
              refine va_get (D := D) (ci := 3) (C := RX5) (T := TX5) (N := 14) hx hb hts iX5 hown hK hP 0 wPW_0 rfl 7 (by decide) q3 (fun _ h9 => h9) rfl dX5_lots_41 ?_
              refine va_getN (host := "PartyWill") (D := D) (ci := 0) (C := RX0) (T := TX0) (N := 3) hx hb hts iX0 hown hK hP 18 wPW_18 rfl 0 (by decide) (va_Nw.use rfl (nw_X5_71 hKK.2)) (fun _ h9 => h9) rfl dX5_lots_44 ?_
              refine lv_iload_n hx hb dX5_lots_47 rfl (lv_at hl 1 rfl) ?_
              refine lv_iadd hx hb dX5_lots_48 ?_
              refine lv_bipush (v := (40 : Int32)) hx hb dX5_lots_49 (by decide) ?_
              refine lv_icmp_le (tgt := 57) hx hb dX5_lots_51 (by decide) (fun c51 => ?_) (fun c51 => ?_)
              · have h := br_1 h c51
                refine lv_aload_n hx hb dX5_lots_57 rfl (lv_at hl 0 rfl) ?_
                refine va_get (D := D) (ci := 3) (C := RX5) (T := TX5) (N := 14) hx hb hts iX5 hown hK hP 0 wPW_0 rfl 7 (by decide) q3 (fun _ h9 => h9) rfl dX5_lots_58 ?_
                refine va_getN (host := "PartyWill") (D := D) (ci := 0) (C := RX0) (T := TX0) (N := 3) hx hb hts iX0 hown hK hP 18 wPW_18 rfl 1 (by decide) (va_Nw.use rfl (nw_X5_127 hKK.2)) (fun _ h9 => h9) rfl dX5_lots_61 ?_
                obtain ⟨r64, hc, h⟩ := bd1_some h
                refine my_roi (va_Run.run (va_runSN (host := "PartyWill") (As := [.long cnow]) (rest := []) hFix (kX1_howManyIn l D T F cnow r64 hc) ⟨va_cnB 1 hts gX5_lots_X1_howManyIn_n207 rfl rfl rfl (nw_X5_207 hKK.2) q8 hd_X1_howManyIn ⟨Nat.le_of_ble_eq_true rfl, Nat.le_of_ble_eq_true rfl⟩, q7, trivial⟩ (preS_ro va_nil hKK) rfl rfl hl.1 rfl (lv_room (Nat.le_of_ble_eq_true rfl)) dX5_lots_64 ⟨Nat.zero_le _, Nat.zero_le _⟩)) ?_
                refine lv_istore_n (lv' := [(3, .int r64), (0, .ref (ad 0)), (1, .int x1), (2, .int x2)]) hx hb dX5_lots_67 rfl hl (by decide) rfl (fun ls hl => ?_)
                refine lv_iload_n hx hb dX5_lots_68 rfl (lv_at hl 3 rfl) ?_
                refine lv_i2l (v := (x2.toInt64)) hx hb dX5_lots_69 rfl ?_
                refine lv_lstore (lv' := [(4, .long (x2.toInt64)), (3, .int r64), (0, .ref (ad 0)), (1, .int x1), (2, .int x2)]) hx hb dX5_lots_70 hl (by decide) rfl (fun ls hl => ?_)
                refine lv_iconst (v := (0 : Int32)) hx hb dX5_lots_72 (by decide) ?_
                refine lv_istore (lv' := [(6, .int (0 : Int32)), (4, .long (x2.toInt64)), (3, .int r64), (0, .ref (ad 0)), (1, .int x1), (2, .int x2)]) hx hb dX5_lots_73 hl (by decide) rfl (fun ls hl => ?_)
                exact l75 x1 r64 F (x2.toInt64) (0 : Int32) cdee cnow cahe h _ _ hP hD hS _ (lv_sub hl [3, 4, 2, 1, 0] rfl)
              · have h := br_0 h c51
                refine lv_bipush (v := (-2 : Int32)) hx hb dX5_lots_54 (by decide) ?_
                cases h
                exact hret _ _ _ _ hP hD hS dX5_lots_56
            · have h := br_1 h c34
              refine lv_bipush (v := (-4 : Int32)) hx hb dX5_lots_37 (by decide) ?_
              cases h
              exact hret _ _ _ _ hP hD hS dX5_lots_39
          · have h := br_0 h c22
            refine lv_iconst (v := (-1 : Int32)) hx hb dX5_lots_25 (by decide) ?_
            cases h
            exact hret _ _ _ _ hP hD hS dX5_lots_26
  exact key _ (fun H locs pc ls hP hD hS hd => W.iret hx hb hr (fun t ht hW => ⟨⟨_, (), rfl, rfl, by show _ ∧ _; rw [ht]; exact ⟨hP, hD⟩⟩, hS.F ht⟩) hS.2.2 hd)
set_option maxHeartbeats 4000000 in
set_option maxRecDepth 100000 in
theorem kX5_asked (l : Launch) (D : va_G) (T : Nat → ClassId) (F : Nat) (ad : Nat → Nat) (rs : Nat → Int32) (rm : Nat → Nat → Int32) (ts : Nat → Int32) (tm : Nat → Nat → Int32) (rdue : Int32) (rtun : Int32) (rsee : Int32) (rbeg : Int32) (psize : Int32) (pclause : Int32) (peff : Nat → Int32) (pkin : Nat → Int32) (pgri : Nat → Int32) (psig : Nat → Int32) (psee : Nat → Int32) (qsize : Int32) (qclause : Int32) (qeff : Nat → Int32) (qkin : Nat → Int32) (qgri : Nat → Int32) (qsig : Nat → Int32) (qsee : Nat → Int32) (cdee : Int32) (cnow : Int64) (cahe : Nat → Int64) (kdee : Nat → Int32) (know : Nat → Int64) (kahe : Nat → Nat → Int64) (fc : Nat → Int32) (lf : Int32) (told : Int32) (up : Int64) (lo : Int64) (r : Int32) (h : fX5_asked F told = some (r)) : Met l yX5_asked wsX5_asked ({ frames := 0, cells := 0, slots := 0, locals := 0 } : Room) (va_Pc [.ref (ad 0)] (fun U => va_P D vwCl (wPW T ad (ad 6) (ad 12) rs rm ts tm rdue rtun rsee rbeg psize pclause peff pkin pgri psig psee qsize qclause qeff qkin qgri qsig qsee cdee cnow cahe kdee know kahe fc lf told up lo) U.heap ∧ KK D T U)) (vp_Si (fun r' => r' = r)) 0 0 (fun _ => False) := by
  refine Met.ofW (cc := cX5_asked) (maxL := 1) (ret := some .int) (by decide) rfl ?_
  intro p e s m args below meth c s₁ B hml hv
  obtain ⟨ha, hP, hKK⟩ := hv
  have hx := B.exec
  have hb := B.bytes
  have hr := B.returns
  have hts := atoms_spec (ws := wsX5_asked) B.pre
  have hown : s.vm.findClass RX5 = some m.cls := findClass_of_methodNamed B.named
  have hlocks := B.notSynchronized
  have hK := hKK.1
  have hFix : CallFix p m c cX5_asked 1 s args wsX5_asked RX5 := ⟨hx, hb, hml, hown, hts⟩
  have q1 := hts _ (List.mem_of_getElem? (i := 1) (show wsX5_asked[1]? = some (Cond.fieldLink RX5 61 "PartyWill" "told" "I") from rfl))
  have iX5 : ∀ w ∈ u_ws RX5 TX5 14, w ∈ wsX5_asked := fun w h => List.mem_cons_of_mem _ (List.mem_append_right _ (h))
  obtain ⟨ls, hl, e0⟩ := my_entry (m := m) (n := 1) ha (Nat.le_of_ble_eq_true rfl)
  rw [e0]
  have hl : lv_has ls 1 [(0, .ref (ad 0))] := hl
  have key : ∀ Q : State → Prop, (∀ (pc : Nat) (ls : Array Slot), decode cX5_asked pc = .ok (.ireturn, 1) → W p l e ({ frames := 0, cells := 0, slots := 0, locals := 0 } : Room) s m args below meth c s.heap [] 0 0 Q (F0 m pc ls [.int r])) → W p l e ({ frames := 0, cells := 0, slots := 0, locals := 0 } : Room) s m args below meth c s.heap [] 0 0 Q (F0 m 0 ls []) := by
    intro Q hret
    unfold fX5_asked at h
    refine lv_aload_n hx hb dX5_asked_0 rfl (lv_at hl 0 rfl) ?_
    refine va_get (D := D) (ci := 3) (C := RX5) (T := TX5) (N := 14) hx hb hts iX5 hown hK hP 0 wPW_0 rfl 11 (by decide) q1 (fun _ h9 => h9) rfl dX5_asked_1 ?_
    cases h
    exact hret _ _ dX5_asked_4
  exact key _ (fun pc ls hd => W.iret hx hb hr (fun t ht hW => ⟨_, rfl, rfl, ht⟩) (fun q h => by cases h) hd)
set_option maxHeartbeats 4000000 in
set_option maxRecDepth 100000 in
theorem kX5_upper (l : Launch) (D : va_G) (T : Nat → ClassId) (F : Nat) (ad : Nat → Nat) (rs : Nat → Int32) (rm : Nat → Nat → Int32) (ts : Nat → Int32) (tm : Nat → Nat → Int32) (rdue : Int32) (rtun : Int32) (rsee : Int32) (rbeg : Int32) (psize : Int32) (pclause : Int32) (peff : Nat → Int32) (pkin : Nat → Int32) (pgri : Nat → Int32) (psig : Nat → Int32) (psee : Nat → Int32) (qsize : Int32) (qclause : Int32) (qeff : Nat → Int32) (qkin : Nat → Int32) (qgri : Nat → Int32) (qsig : Nat → Int32) (qsee : Nat → Int32) (cdee : Int32) (cnow : Int64) (cahe : Nat → Int64) (kdee : Nat → Int32) (know : Nat → Int64) (kahe : Nat → Nat → Int64) (fc : Nat → Int32) (lf : Int32) (told : Int32) (up : Int64) (lo : Int64) (r : Int64) (h : fX5_upper F up = some (r)) : Met l yX5_upper wsX5_upper ({ frames := 0, cells := 0, slots := 0, locals := 0 } : Room) (va_Pc [.ref (ad 0)] (fun U => va_P D vwCl (wPW T ad (ad 6) (ad 12) rs rm ts tm rdue rtun rsee rbeg psize pclause peff pkin pgri psig psee qsize qclause qeff qkin qgri qsig qsee cdee cnow cahe kdee know kahe fc lf told up lo) U.heap ∧ KK D T U)) (vp_Sl (fun r' => r' = r)) 0 0 (fun _ => False) := by
  refine Met.ofW (cc := cX5_upper) (maxL := 1) (ret := some .long) (by decide) rfl ?_
  intro p e s m args below meth c s₁ B hml hv
  obtain ⟨ha, hP, hKK⟩ := hv
  have hx := B.exec
  have hb := B.bytes
  have hr := B.returns
  have hts := atoms_spec (ws := wsX5_upper) B.pre
  have hown : s.vm.findClass RX5 = some m.cls := findClass_of_methodNamed B.named
  have hlocks := B.notSynchronized
  have hK := hKK.1
  have hFix : CallFix p m c cX5_upper 1 s args wsX5_upper RX5 := ⟨hx, hb, hml, hown, hts⟩
  have q1 := hts _ (List.mem_of_getElem? (i := 1) (show wsX5_upper[1]? = some (Cond.fieldLink RX5 64 "PartyWill" "toldUpper" "J") from rfl))
  have iX5 : ∀ w ∈ u_ws RX5 TX5 14, w ∈ wsX5_upper := fun w h => List.mem_cons_of_mem _ (List.mem_append_right _ (h))
  obtain ⟨ls, hl, e0⟩ := my_entry (m := m) (n := 1) ha (Nat.le_of_ble_eq_true rfl)
  rw [e0]
  have hl : lv_has ls 1 [(0, .ref (ad 0))] := hl
  have key : ∀ Q : State → Prop, (∀ (pc : Nat) (ls : Array Slot), decode cX5_upper pc = .ok (.lreturn, 1) → W p l e ({ frames := 0, cells := 0, slots := 0, locals := 0 } : Room) s m args below meth c s.heap [] 0 0 Q (F0 m pc ls [.long r])) → W p l e ({ frames := 0, cells := 0, slots := 0, locals := 0 } : Room) s m args below meth c s.heap [] 0 0 Q (F0 m 0 ls []) := by
    intro Q hret
    unfold fX5_upper at h
    refine lv_aload_n hx hb dX5_upper_0 rfl (lv_at hl 0 rfl) ?_
    refine va_get (D := D) (ci := 3) (C := RX5) (T := TX5) (N := 14) hx hb hts iX5 hown hK hP 0 wPW_0 rfl 12 (by decide) q1 (fun _ h9 => h9) rfl dX5_upper_1 ?_
    cases h
    exact hret _ _ dX5_upper_4
  exact key _ (fun pc ls hd => W.lret hx hb hr (fun t ht hW => ⟨_, rfl, rfl, ht⟩) (fun q h => by cases h) hd)
set_option maxHeartbeats 4000000 in
set_option maxRecDepth 100000 in
theorem kX5_lower (l : Launch) (D : va_G) (T : Nat → ClassId) (F : Nat) (ad : Nat → Nat) (rs : Nat → Int32) (rm : Nat → Nat → Int32) (ts : Nat → Int32) (tm : Nat → Nat → Int32) (rdue : Int32) (rtun : Int32) (rsee : Int32) (rbeg : Int32) (psize : Int32) (pclause : Int32) (peff : Nat → Int32) (pkin : Nat → Int32) (pgri : Nat → Int32) (psig : Nat → Int32) (psee : Nat → Int32) (qsize : Int32) (qclause : Int32) (qeff : Nat → Int32) (qkin : Nat → Int32) (qgri : Nat → Int32) (qsig : Nat → Int32) (qsee : Nat → Int32) (cdee : Int32) (cnow : Int64) (cahe : Nat → Int64) (kdee : Nat → Int32) (know : Nat → Int64) (kahe : Nat → Nat → Int64) (fc : Nat → Int32) (lf : Int32) (told : Int32) (up : Int64) (lo : Int64) (r : Int64) (h : fX5_lower F lo = some (r)) : Met l yX5_lower wsX5_lower ({ frames := 0, cells := 0, slots := 0, locals := 0 } : Room) (va_Pc [.ref (ad 0)] (fun U => va_P D vwCl (wPW T ad (ad 6) (ad 12) rs rm ts tm rdue rtun rsee rbeg psize pclause peff pkin pgri psig psee qsize qclause qeff qkin qgri qsig qsee cdee cnow cahe kdee know kahe fc lf told up lo) U.heap ∧ KK D T U)) (vp_Sl (fun r' => r' = r)) 0 0 (fun _ => False) := by
  refine Met.ofW (cc := cX5_lower) (maxL := 1) (ret := some .long) (by decide) rfl ?_
  intro p e s m args below meth c s₁ B hml hv
  obtain ⟨ha, hP, hKK⟩ := hv
  have hx := B.exec
  have hb := B.bytes
  have hr := B.returns
  have hts := atoms_spec (ws := wsX5_lower) B.pre
  have hown : s.vm.findClass RX5 = some m.cls := findClass_of_methodNamed B.named
  have hlocks := B.notSynchronized
  have hK := hKK.1
  have hFix : CallFix p m c cX5_lower 1 s args wsX5_lower RX5 := ⟨hx, hb, hml, hown, hts⟩
  have q1 := hts _ (List.mem_of_getElem? (i := 1) (show wsX5_lower[1]? = some (Cond.fieldLink RX5 68 "PartyWill" "toldLower" "J") from rfl))
  have iX5 : ∀ w ∈ u_ws RX5 TX5 14, w ∈ wsX5_lower := fun w h => List.mem_cons_of_mem _ (List.mem_append_right _ (h))
  obtain ⟨ls, hl, e0⟩ := my_entry (m := m) (n := 1) ha (Nat.le_of_ble_eq_true rfl)
  rw [e0]
  have hl : lv_has ls 1 [(0, .ref (ad 0))] := hl
  have key : ∀ Q : State → Prop, (∀ (pc : Nat) (ls : Array Slot), decode cX5_lower pc = .ok (.lreturn, 1) → W p l e ({ frames := 0, cells := 0, slots := 0, locals := 0 } : Room) s m args below meth c s.heap [] 0 0 Q (F0 m pc ls [.long r])) → W p l e ({ frames := 0, cells := 0, slots := 0, locals := 0 } : Room) s m args below meth c s.heap [] 0 0 Q (F0 m 0 ls []) := by
    intro Q hret
    unfold fX5_lower at h
    refine lv_aload_n hx hb dX5_lower_0 rfl (lv_at hl 0 rfl) ?_
    refine va_get (D := D) (ci := 3) (C := RX5) (T := TX5) (N := 14) hx hb hts iX5 hown hK hP 0 wPW_0 rfl 13 (by decide) q1 (fun _ h9 => h9) rfl dX5_lower_1 ?_
    cases h
    exact hret _ _ dX5_lower_4
  exact key _ (fun pc ls hd => W.lret hx hb hr (fun t ht hW => ⟨_, rfl, rfl, ht⟩) (fun q h => by cases h) hd)
set_option maxHeartbeats 4000000 in
set_option maxRecDepth 100000 in
theorem kX5_howManyKept (l : Launch) (D : va_G) (T : Nat → ClassId) (F : Nat) (ad : Nat → Nat) (rs : Nat → Int32) (rm : Nat → Nat → Int32) (ts : Nat → Int32) (tm : Nat → Nat → Int32) (rdue : Int32) (rtun : Int32) (rsee : Int32) (rbeg : Int32) (psize : Int32) (pclause : Int32) (peff : Nat → Int32) (pkin : Nat → Int32) (pgri : Nat → Int32) (psig : Nat → Int32) (psee : Nat → Int32) (qsize : Int32) (qclause : Int32) (qeff : Nat → Int32) (qkin : Nat → Int32) (qgri : Nat → Int32) (qsig : Nat → Int32) (qsee : Nat → Int32) (cdee : Int32) (cnow : Int64) (cahe : Nat → Int64) (kdee : Nat → Int32) (know : Nat → Int64) (kahe : Nat → Nat → Int64) (fc : Nat → Int32) (lf : Int32) (told : Int32) (up : Int64) (lo : Int64) (r : Int32) (h : fX5_howManyKept F kdee = some (r)) : Met l yX5_howManyKept wsX5_howManyKept ({ frames := 0, cells := 0, slots := 0, locals := 0 } : Room) (va_Pc [.ref (ad 0)] (fun U => va_P D vwCl (wPW T ad (ad 6) (ad 12) rs rm ts tm rdue rtun rsee rbeg psize pclause peff pkin pgri psig psee qsize qclause qeff qkin qgri qsig qsee cdee cnow cahe kdee know kahe fc lf told up lo) U.heap ∧ KK D T U)) (vp_Si (fun r' => r' = r)) 0 0 (fun _ => False) := by
  refine Met.ofW (cc := cX5_howManyKept) (maxL := 6) (ret := some .int) (by decide) rfl ?_
  intro p e s m args below meth c s₁ B hml hv
  obtain ⟨ha, hP, hKK⟩ := hv
  have hx := B.exec
  have hb := B.bytes
  have hr := B.returns
  have hts := atoms_spec (ws := wsX5_howManyKept) B.pre
  have hown : s.vm.findClass RX5 = some m.cls := findClass_of_methodNamed B.named
  have hlocks := B.notSynchronized
  have hK := hKK.1
  have hFix : CallFix p m c cX5_howManyKept 6 s args wsX5_howManyKept RX5 := ⟨hx, hb, hml, hown, hts⟩
  have q1 := hts _ (List.mem_of_getElem? (i := 1) (show wsX5_howManyKept[1]? = some (Cond.fieldLink RX5 50 "PartyWill" "kept" "[LPartyWill$Course;") from rfl))
  have iX0 : ∀ w ∈ u_ws RX0 TX0 3, w ∈ wsX5_howManyKept := fun w h => List.mem_cons_of_mem _ (List.mem_append_right _ (h))
  have iX5 : ∀ w ∈ u_ws RX5 TX5 14, w ∈ wsX5_howManyKept := fun w h => List.mem_cons_of_mem _ (List.mem_append_left _ (List.mem_append_right _ (h)))
  obtain ⟨ls, hl, e0⟩ := my_entry (m := m) (n := 6) ha (Nat.le_of_ble_eq_true rfl)
  rw [e0]
  have hl : lv_has ls 6 [(0, .ref (ad 0))] := hl
  have key : ∀ Q : State → Prop, (∀ (pc : Nat) (ls : Array Slot), decode cX5_howManyKept pc = .ok (.ireturn, 1) → W p l e ({ frames := 0, cells := 0, slots := 0, locals := 0 } : Room) s m args below meth c s.heap [] 0 0 Q (F0 m pc ls [.int r])) → W p l e ({ frames := 0, cells := 0, slots := 0, locals := 0 } : Room) s m args below meth c s.heap [] 0 0 Q (F0 m 0 ls []) := by
    intro Q hret
    have l13 : ∀ x3 : Int32, ∀ nu : Nat, ∀ x1 : Int32, ∀ x4 : Int32, fX5_howManyKept_l13 F kdee x3 nu x1 x4 = some (r) → ∀ (ls : Array Slot), lv_has ls 6 [(1, .int x1), (2, .ref (ad 20)), (3, .int x3), (4, .int x4)] → W p l e ({ frames := 0, cells := 0, slots := 0, locals := 0 } : Room) s m args below meth c s.heap [] 0 0 Q (F0 m 13 ls []) := by
      intro x3
      intro nu
      induction nu with
      | zero => intro x1 x4 h; exact none_some h
      | succ nu13 ih13 =>
        intro x1 x4 h ls hl
        have h : fX5_howManyKept_l13_b F kdee x3 (fX5_howManyKept_l13 F kdee x3 nu13) x1 x4 = some (r) := h
        unfold fX5_howManyKept_l13_b at h
        refine lv_iload hx hb dX5_howManyKept_13 (lv_at hl 3 rfl) ?_
        refine lv_iload_n hx hb dX5_howManyKept_15 rfl (lv_at hl 2 rfl) ?_
        refine lv_icmp_ge (tgt := 43) hx hb dX5_howManyKept_16 (by decide) (fun c16 => ?_) (fun c16 => ?_)
        · have h := br_1 h c16
          refine lv_iload_n hx hb dX5_howManyKept_43 rfl (lv_at hl 0 rfl) ?_
          cases h
          exact hret _ _ dX5_howManyKept_44
        · have h := br_0 h c16
          refine lv_aload_n hx hb dX5_howManyKept_19 rfl (lv_at hl 1 rfl) ?_
          refine lv_iload hx hb dX5_howManyKept_20 (lv_at hl 3 rfl) ?_
          obtain ⟨hin2, h⟩ := ck_some h
          have hk1 : x4.toNatClampNeg < 3 := vp_lt hin2
          refine my_ald (b := (ad (21 + 2 * x4.toNatClampNeg))) rfl hx hb hK hP 20 6 wPW_20 rfl hin2 (fun _ => if_pos hk1) dX5_howManyKept_22 ?_
          refine lv_astore (lv' := [(5, .ref (ad (21 + 2 * x4.toNatClampNeg))), (1, .int x1), (2, .ref (ad 20)), (3, .int x3), (4, .int x4)]) hx hb dX5_howManyKept_23 hl (by decide) rfl (fun ls hl => ?_)
          refine lv_aload hx hb dX5_howManyKept_25 (lv_at hl 0 rfl) ?_
          refine va_getN (host := "PartyWill") (D := D) (ci := 0) (C := RX0) (T := TX0) (N := 3) hx hb hts iX0 hown hK hP (21 + 2 * x4.toNatClampNeg) (wPW_f_kept0 hk1) rfl 0 (by decide) (va_Nw.use rfl (nw_X5_71 hKK.2)) (fun _ h9 => h9) rfl dX5_howManyKept_27 ?_
          refine lv_iconst (v := (-1 : Int32)) hx hb dX5_howManyKept_30 (by decide) ?_
          refine lv_icmp_eq (tgt := 37) hx hb dX5_howManyKept_31 (by decide) (fun c31 => ?_) (fun c31 => ?_)
          · have h := br_1 h c31
            refine lv_iinc (v := (x4 + (1 : Int32))) (lv' := [(4, .int (x4 + (1 : Int32))), (5, .ref (ad (21 + 2 * x4.toNatClampNeg))), (1, .int x1), (2, .ref (ad 20)), (3, .int x3)]) hx hb dX5_howManyKept_37 hl (k := 4) rfl rfl (by decide) rfl (fun ls hl => ?_)
            refine lv_goto (tgt := 13) hx hb dX5_howManyKept_40 (by decide) ?_
            exact ih13 x1 (x4 + (1 : Int32)) h _ (lv_sub hl [2, 3, 4, 0] rfl)
          · have h := br_0 h c31
            refine lv_iinc (v := (x1 + (1 : Int32))) (lv' := [(1, .int (x1 + (1 : Int32))), (5, .ref (ad (21 + 2 * x4.toNatClampNeg))), (2, .ref (ad 20)), (3, .int x3), (4, .int x4)]) hx hb dX5_howManyKept_34 hl (k := 1) rfl rfl (by decide) rfl (fun ls hl => ?_)
            refine lv_iinc (v := (x4 + (1 : Int32))) (lv' := [(4, .int (x4 + (1 : Int32))), (1, .int (x1 + (1 : Int32))), (5, .ref (ad (21 + 2 * x4.toNatClampNeg))), (2, .ref (ad 20)), (3, .int x3)]) hx hb dX5_howManyKept_37 hl (k := 4) rfl rfl (by decide) rfl (fun ls hl => ?_)
            refine lv_goto (tgt := 13) hx hb dX5_howManyKept_40 (by decide) ?_
            exact ih13 (x1 + (1 : Int32)) (x4 + (1 : Int32)) h _ (lv_sub hl [1, 3, 4, 0] rfl)
    unfold fX5_howManyKept at h
    refine lv_iconst (v := (0 : Int32)) hx hb dX5_howManyKept_0 (by decide) ?_
    refine lv_istore_n (lv' := [(1, .int (0 : Int32)), (0, .ref (ad 0))]) hx hb dX5_howManyKept_1 rfl hl (by decide) rfl (fun ls hl => ?_)
    refine lv_aload_n hx hb dX5_howManyKept_2 rfl (lv_at hl 1 rfl) ?_
    refine va_get (D := D) (ci := 3) (C := RX5) (T := TX5) (N := 14) hx hb hts iX5 hown hK hP 0 wPW_0 rfl 8 (by decide) q1 (fun _ h9 => h9) rfl dX5_howManyKept_3 ?_
    refine lv_astore_n (lv' := [(2, .ref (ad 20)), (1, .int (0 : Int32)), (0, .ref (ad 0))]) hx hb dX5_howManyKept_6 rfl hl (by decide) rfl (fun ls hl => ?_)
    refine lv_aload_n hx hb dX5_howManyKept_7 rfl (lv_at hl 0 rfl) ?_
    refine va_alen (v := (Int32.ofNat 3)) hx hb hK hP 20 6 wPW_20 rfl rfl dX5_howManyKept_8 ?_
    refine lv_istore_n (lv' := [(3, .int (Int32.ofNat 3)), (2, .ref (ad 20)), (1, .int (0 : Int32)), (0, .ref (ad 0))]) hx hb dX5_howManyKept_9 rfl hl (by decide) rfl (fun ls hl => ?_)
    refine lv_iconst (v := (0 : Int32)) hx hb dX5_howManyKept_10 (by decide) ?_
    refine lv_istore (lv' := [(4, .int (0 : Int32)), (3, .int (Int32.ofNat 3)), (2, .ref (ad 20)), (1, .int (0 : Int32)), (0, .ref (ad 0))]) hx hb dX5_howManyKept_11 hl (by decide) rfl (fun ls hl => ?_)
    exact l13 (Int32.ofNat 3) F (0 : Int32) (0 : Int32) h _ (lv_sub hl [3, 2, 1, 0] rfl)
  exact key _ (fun pc ls hd => W.iret hx hb hr (fun t ht hW => ⟨_, rfl, rfl, ht⟩) (fun q h => by cases h) hd)
set_option maxHeartbeats 4000000 in
set_option maxRecDepth 100000 in
theorem kX5_howManyThere (l : Launch) (D : va_G) (T : Nat → ClassId) (F : Nat) (a0 : Nat) (n1 : Nat) (f1 : Nat → Int32) (r : Int32) (h : fX5_howManyThere F n1 f1 = some (r)) : Met l yX5_howManyThere wsX5_howManyThere ({ frames := 0, cells := 0, slots := 0, locals := 0 } : Room) (va_Pc [.ref a0] (fun U => va_P D vwCl (wA1 T a0 n1 f1) U.heap ∧ KK D T U)) (vp_Si (fun r' => r' = r)) 0 0 (fun _ => False) := by
  refine Met.ofW (cc := cX5_howManyThere) (maxL := 6) (ret := some .int) (by decide) rfl ?_
  intro p e s m args below meth c s₁ B hml hv
  obtain ⟨ha, hP, hKK⟩ := hv
  have hx := B.exec
  have hb := B.bytes
  have hr := B.returns
  have hts := atoms_spec (ws := wsX5_howManyThere) B.pre
  have hown : s.vm.findClass RX5 = some m.cls := findClass_of_methodNamed B.named
  have hlocks := B.notSynchronized
  have hK := hKK.1
  have hFix : CallFix p m c cX5_howManyThere 6 s args wsX5_howManyThere RX5 := ⟨hx, hb, hml, hown, hts⟩
  obtain ⟨ls, hl, e0⟩ := my_entry (m := m) (n := 6) ha (Nat.le_of_ble_eq_true rfl)
  rw [e0]
  have hl : lv_has ls 6 [(0, .ref a0)] := hl
  have key : ∀ Q : State → Prop, (∀ (pc : Nat) (ls : Array Slot), decode cX5_howManyThere pc = .ok (.ireturn, 1) → W p l e ({ frames := 0, cells := 0, slots := 0, locals := 0 } : Room) s m args below meth c s.heap [] 0 0 Q (F0 m pc ls [.int r])) → W p l e ({ frames := 0, cells := 0, slots := 0, locals := 0 } : Room) s m args below meth c s.heap [] 0 0 Q (F0 m 0 ls []) := by
    intro Q hret
    have l10 : ∀ x3 : Int32, ∀ nu : Nat, ∀ x1 : Int32, ∀ x4 : Int32, fX5_howManyThere_l10 F n1 f1 x3 nu x1 x4 = some (r) → ∀ (ls : Array Slot), lv_has ls 6 [(1, .int x1), (2, .ref a0), (3, .int x3), (4, .int x4)] → W p l e ({ frames := 0, cells := 0, slots := 0, locals := 0 } : Room) s m args below meth c s.heap [] 0 0 Q (F0 m 10 ls []) := by
      intro x3
      intro nu
      induction nu with
      | zero => intro x1 x4 h; exact none_some h
      | succ nu10 ih10 =>
        intro x1 x4 h ls hl
        have h : fX5_howManyThere_l10_b F n1 f1 x3 (fX5_howManyThere_l10 F n1 f1 x3 nu10) x1 x4 = some (r) := h
        unfold fX5_howManyThere_l10_b at h
        refine lv_iload hx hb dX5_howManyThere_10 (lv_at hl 3 rfl) ?_
        refine lv_iload_n hx hb dX5_howManyThere_12 rfl (lv_at hl 2 rfl) ?_
        refine lv_icmp_ge (tgt := 37) hx hb dX5_howManyThere_13 (by decide) (fun c13 => ?_) (fun c13 => ?_)
        · have h := br_1 h c13
          refine lv_iload_n hx hb dX5_howManyThere_37 rfl (lv_at hl 0 rfl) ?_
          cases h
          exact hret _ _ dX5_howManyThere_38
        · have h := br_0 h c13
          refine lv_aload_n hx hb dX5_howManyThere_16 rfl (lv_at hl 1 rfl) ?_
          refine lv_iload hx hb dX5_howManyThere_17 (lv_at hl 3 rfl) ?_
          obtain ⟨hin1, h⟩ := ck_some h
          refine va_iald hx hb hK hP 0 0 wA1_0 rfl hin1 dX5_howManyThere_19 ?_
          refine lv_istore (lv' := [(5, .int (f1 x4.toNatClampNeg)), (1, .int x1), (2, .ref a0), (3, .int x3), (4, .int x4)]) hx hb dX5_howManyThere_20 hl (by decide) rfl (fun ls hl => ?_)
          refine lv_iload hx hb dX5_howManyThere_22 (lv_at hl 0 rfl) ?_
          refine lv_iconst (v := (-1 : Int32)) hx hb dX5_howManyThere_24 (by decide) ?_
          refine lv_icmp_eq (tgt := 31) hx hb dX5_howManyThere_25 (by decide) (fun c25 => ?_) (fun c25 => ?_)
          · have h := br_1 h c25
            refine lv_iinc (v := (x4 + (1 : Int32))) (lv' := [(4, .int (x4 + (1 : Int32))), (5, .int (f1 x4.toNatClampNeg)), (1, .int x1), (2, .ref a0), (3, .int x3)]) hx hb dX5_howManyThere_31 hl (k := 4) rfl rfl (by decide) rfl (fun ls hl => ?_)
            refine lv_goto (tgt := 10) hx hb dX5_howManyThere_34 (by decide) ?_
            exact ih10 x1 (x4 + (1 : Int32)) h _ (lv_sub hl [2, 3, 4, 0] rfl)
          · have h := br_0 h c25
            refine lv_iinc (v := (x1 + (1 : Int32))) (lv' := [(1, .int (x1 + (1 : Int32))), (5, .int (f1 x4.toNatClampNeg)), (2, .ref a0), (3, .int x3), (4, .int x4)]) hx hb dX5_howManyThere_28 hl (k := 1) rfl rfl (by decide) rfl (fun ls hl => ?_)
            refine lv_iinc (v := (x4 + (1 : Int32))) (lv' := [(4, .int (x4 + (1 : Int32))), (1, .int (x1 + (1 : Int32))), (5, .int (f1 x4.toNatClampNeg)), (2, .ref a0), (3, .int x3)]) hx hb dX5_howManyThere_31 hl (k := 4) rfl rfl (by decide) rfl (fun ls hl => ?_)
            refine lv_goto (tgt := 10) hx hb dX5_howManyThere_34 (by decide) ?_
            exact ih10 (x1 + (1 : Int32)) (x4 + (1 : Int32)) h _ (lv_sub hl [1, 3, 4, 0] rfl)
    unfold fX5_howManyThere at h
    refine lv_iconst (v := (0 : Int32)) hx hb dX5_howManyThere_0 (by decide) ?_
    refine lv_istore_n (lv' := [(1, .int (0 : Int32)), (0, .ref a0)]) hx hb dX5_howManyThere_1 rfl hl (by decide) rfl (fun ls hl => ?_)
    refine lv_aload_n hx hb dX5_howManyThere_2 rfl (lv_at hl 1 rfl) ?_
    refine lv_astore_n (lv' := [(2, .ref a0), (1, .int (0 : Int32)), (0, .ref a0)]) hx hb dX5_howManyThere_3 rfl hl (by decide) rfl (fun ls hl => ?_)
    refine lv_aload_n hx hb dX5_howManyThere_4 rfl (lv_at hl 0 rfl) ?_
    refine va_alen (v := (Int32.ofNat n1)) hx hb hK hP 0 0 wA1_0 rfl rfl dX5_howManyThere_5 ?_
    refine lv_istore_n (lv' := [(3, .int (Int32.ofNat n1)), (2, .ref a0), (1, .int (0 : Int32)), (0, .ref a0)]) hx hb dX5_howManyThere_6 rfl hl (by decide) rfl (fun ls hl => ?_)
    refine lv_iconst (v := (0 : Int32)) hx hb dX5_howManyThere_7 (by decide) ?_
    refine lv_istore (lv' := [(4, .int (0 : Int32)), (3, .int (Int32.ofNat n1)), (2, .ref a0), (1, .int (0 : Int32)), (0, .ref a0)]) hx hb dX5_howManyThere_8 hl (by decide) rfl (fun ls hl => ?_)
    exact l10 (Int32.ofNat n1) F (0 : Int32) (0 : Int32) h _ (lv_sub hl [3, 2, 1, 0] rfl)
  exact key _ (fun pc ls hd => W.iret hx hb hr (fun t ht hW => ⟨_, rfl, rfl, ht⟩) (fun q h => by cases h) hd)
set_option maxHeartbeats 4000000 in
set_option maxRecDepth 100000 in
theorem kX5_count (l : Launch) (D : va_G) (T : Nat → ClassId) (F : Nat) (ad : Nat → Nat) (rs : Nat → Int32) (rm : Nat → Nat → Int32) (ts : Nat → Int32) (tm : Nat → Nat → Int32) (rdue : Int32) (rtun : Int32) (rsee : Int32) (rbeg : Int32) (psize : Int32) (pclause : Int32) (peff : Nat → Int32) (pkin : Nat → Int32) (pgri : Nat → Int32) (psig : Nat → Int32) (psee : Nat → Int32) (qsize : Int32) (qclause : Int32) (qeff : Nat → Int32) (qkin : Nat → Int32) (qgri : Nat → Int32) (qsig : Nat → Int32) (qsee : Nat → Int32) (cdee : Int32) (cnow : Int64) (cahe : Nat → Int64) (kdee : Nat → Int32) (know : Nat → Int64) (kahe : Nat → Nat → Int64) (fc : Nat → Int32) (lf : Int32) (told : Int32) (up : Int64) (lo : Int64) (x1 : Int32) (r : Int32) (h : fX5_count F rs ts psize pclause pkin cdee cnow kdee x1 = some (r)) : Met l yX5_count wsX5_count ({ frames := 2, cells := 0, slots := 0, locals := 45 } : Room) (va_Pc [.ref (ad 0), .int x1] (fun U => va_P D vwCl (wPW T ad (ad 6) (ad 12) rs rm ts tm rdue rtun rsee rbeg psize pclause peff pkin pgri psig psee qsize qclause qeff qkin qgri qsig qsee cdee cnow cahe kdee know kahe fc lf told up lo) U.heap ∧ KK D T U)) (vp_Si (fun r' => r' = r)) 0 0 (fun _ => False) := by
  refine Met.ofW (cc := cX5_count) (maxL := 2) (ret := some .int) (by decide) rfl ?_
  intro p e s m args below meth c s₁ B hml hv
  obtain ⟨ha, hP, hKK⟩ := hv
  have hx := B.exec
  have hb := B.bytes
  have hr := B.returns
  have hts := atoms_spec (ws := wsX5_count) B.pre
  have hown : s.vm.findClass RX5 = some m.cls := findClass_of_methodNamed B.named
  have hlocks := B.notSynchronized
  have hK := hKK.1
  have hFix : CallFix p m c cX5_count 2 s args wsX5_count RX5 := ⟨hx, hb, hml, hown, hts⟩
  have q1 := hts _ (List.mem_of_getElem? (i := 1) (show wsX5_count[1]? = some (Cond.fieldLink RX5 36 "PartyWill" "party" "LPartyWill$Party;") from rfl))
  have q2 := hts _ (List.mem_of_getElem? (i := 2) (show wsX5_count[2]? = some (Cond.fieldLink RX5 46 "PartyWill" "course" "LPartyWill$Course;") from rfl))
  have q3 := hts _ (List.mem_of_getElem? (i := 3) (show wsX5_count[3]? = some (Cond.fieldLink RX5 14 "PartyWill" "rowSizes" "[I") from rfl))
  have q4 := hts _ (List.mem_of_getElem? (i := 4) (show wsX5_count[4]? = some (Cond.fieldLink RX5 23 "PartyWill" "textSizes" "[I") from rfl))
  have q5 := hts _ (List.mem_of_getElem? (i := 5) (show wsX5_count[5]? = some (Cond.static yX1_howManyIn) from rfl))
  have q6 := hts _ (List.mem_of_getElem? (i := 6) (show wsX5_count[6]? = some (Cond.initialized RX1) from rfl))
  have q18 := hts _ (List.mem_of_getElem? (i := 18) (show wsX5_count[18]? = some (Cond.static yX1_griefOfAll) from rfl))
  have q24 := hts _ (List.mem_of_getElem? (i := 24) (show wsX5_count[24]? = some (Cond.instanceMethod yX2_howManyAre) from rfl))
  have q25 := hts _ (List.mem_of_getElem? (i := 25) (show wsX5_count[25]? = some (Cond.initialized RX2) from rfl))
  have q26 := hts _ (List.mem_of_getElem? (i := 26) (show wsX5_count[26]? = some (Cond.selects RX2 yX2_howManyAre yX2_howManyAre) from rfl))
  have iX0 : ∀ w ∈ u_ws RX0 TX0 3, w ∈ wsX5_count := fun w h => List.mem_cons_of_mem _ (List.mem_append_right _ (h))
  have iX2 : ∀ w ∈ u_ws RX2 TX2 7, w ∈ wsX5_count := fun w h => List.mem_cons_of_mem _ (List.mem_append_left _ (List.mem_append_right _ (h)))
  have iX5 : ∀ w ∈ u_ws RX5 TX5 14, w ∈ wsX5_count := fun w h => List.mem_cons_of_mem _ (List.mem_append_left _ (List.mem_append_left _ (List.mem_append_right _ (h))))
  obtain ⟨ls, hl, e0⟩ := my_entry (m := m) (n := 2) ha (Nat.le_of_ble_eq_true rfl)
  rw [e0]
  have hl : lv_has ls 2 [(0, .ref (ad 0)), (1, .int x1)] := hl
  have key : ∀ Q : State → Prop, (∀ (pc : Nat) (ls : Array Slot), decode cX5_count pc = .ok (.ireturn, 1) → W p l e ({ frames := 2, cells := 0, slots := 0, locals := 45 } : Room) s m args below meth c s.heap [] 0 0 Q (F0 m pc ls [.int r])) → W p l e ({ frames := 2, cells := 0, slots := 0, locals := 45 } : Room) s m args below meth c s.heap [] 0 0 Q (F0 m 0 ls []) := by
    intro Q hret
    unfold fX5_count at h
    refine lv_iload_n hx hb dX5_count_0 rfl (lv_at hl 1 rfl) ?_
    by_cases z1_0 : x1 = (0 : Int32)
    · have h := br_1 h z1_0
      refine lv_tableIn (tgt := 56) (off := 55) hx hb dX5_count_1 (by rw [z1_0]; decide) (by rw [z1_0]; decide) (by rw [z1_0]; decide) (by decide) ?_
      refine lv_aload_n hx hb dX5_count_56 rfl (lv_at hl 0 rfl) ?_
      refine va_get (D := D) (ci := 3) (C := RX5) (T := TX5) (N := 14) hx hb hts iX5 hown hK hP 0 wPW_0 rfl 5 (by decide) q1 (fun _ h9 => h9) rfl dX5_count_57 ?_
      refine va_getN (host := "PartyWill") (D := D) (ci := 1) (C := RX2) (T := TX2) (N := 7) hx hb hts iX2 hown hK hP 6 wPW_6 rfl 0 (by decide) (va_Nw.use rfl (nw_X5_111 hKK.2)) (fun _ h9 => h9) rfl dX5_count_60 ?_
      cases h
      exact hret _ _ dX5_count_63
    have h := br_0 h z1_0
    by_cases z1_1 : x1 = (1 : Int32)
    · have h := br_1 h z1_1
      refine lv_tableIn (tgt := 64) (off := 63) hx hb dX5_count_1 (by rw [z1_1]; decide) (by rw [z1_1]; decide) (by rw [z1_1]; decide) (by decide) ?_
      refine lv_aload_n hx hb dX5_count_64 rfl (lv_at hl 0 rfl) ?_
      refine va_get (D := D) (ci := 3) (C := RX5) (T := TX5) (N := 14) hx hb hts iX5 hown hK hP 0 wPW_0 rfl 5 (by decide) q1 (fun _ h9 => h9) rfl dX5_count_65 ?_
      refine va_getN (host := "PartyWill") (D := D) (ci := 1) (C := RX2) (T := TX2) (N := 7) hx hb hts iX2 hown hK hP 6 wPW_6 rfl 1 (by decide) (va_Nw.use rfl (nw_X5_257 hKK.2)) (fun _ h9 => h9) rfl dX5_count_68 ?_
      cases h
      exact hret _ _ dX5_count_71
    have h := br_0 h z1_1
    by_cases z1_2 : x1 = (2 : Int32)
    · have h := br_1 h z1_2
      refine lv_tableIn (tgt := 72) (off := 71) hx hb dX5_count_1 (by rw [z1_2]; decide) (by rw [z1_2]; decide) (by rw [z1_2]; decide) (by decide) ?_
      refine lv_aload_n hx hb dX5_count_72 rfl (lv_at hl 0 rfl) ?_
      refine va_get (D := D) (ci := 3) (C := RX5) (T := TX5) (N := 14) hx hb hts iX5 hown hK hP 0 wPW_0 rfl 7 (by decide) q2 (fun _ h9 => h9) rfl dX5_count_73 ?_
      refine va_getN (host := "PartyWill") (D := D) (ci := 0) (C := RX0) (T := TX0) (N := 3) hx hb hts iX0 hown hK hP 18 wPW_18 rfl 0 (by decide) (va_Nw.use rfl (nw_X5_71 hKK.2)) (fun _ h9 => h9) rfl dX5_count_76 ?_
      cases h
      exact hret _ _ dX5_count_79
    have h := br_0 h z1_2
    by_cases z1_3 : x1 = (3 : Int32)
    · have h := br_1 h z1_3
      refine lv_tableIn (tgt := 80) (off := 79) hx hb dX5_count_1 (by rw [z1_3]; decide) (by rw [z1_3]; decide) (by rw [z1_3]; decide) (by decide) ?_
      refine lv_aload_n hx hb dX5_count_80 rfl (lv_at hl 0 rfl) ?_
      refine va_get (D := D) (ci := 3) (C := RX5) (T := TX5) (N := 14) hx hb hts iX5 hown hK hP 0 wPW_0 rfl 7 (by decide) q2 (fun _ h9 => h9) rfl dX5_count_81 ?_
      refine va_getN (host := "PartyWill") (D := D) (ci := 0) (C := RX0) (T := TX0) (N := 3) hx hb hts iX0 hown hK hP 18 wPW_18 rfl 1 (by decide) (va_Nw.use rfl (nw_X5_127 hKK.2)) (fun _ h9 => h9) rfl dX5_count_84 ?_
      obtain ⟨r87, hc, h⟩ := bd1_some h
      refine my_roi (va_Run.run (va_runSN (host := "PartyWill") (As := [.long cnow]) (rest := []) hFix (kX1_howManyIn l D T F cnow r87 hc) ⟨va_cnB 1 hts gX5_count_X1_howManyIn_n207 rfl rfl rfl (nw_X5_207 hKK.2) q6 hd_X1_howManyIn ⟨Nat.le_of_ble_eq_true rfl, Nat.le_of_ble_eq_true rfl⟩, q5, trivial⟩ (preS_ro va_nil hKK) rfl rfl hl.1 rfl (lv_room (Nat.le_of_ble_eq_true rfl)) dX5_count_87 ⟨Nat.zero_le _, Nat.zero_le _⟩)) ?_
      cases h
      exact hret _ _ dX5_count_90
    have h := br_0 h z1_3
    by_cases z1_4 : x1 = (4 : Int32)
    · have h := br_1 h z1_4
      refine lv_tableIn (tgt := 91) (off := 90) hx hb dX5_count_1 (by rw [z1_4]; decide) (by rw [z1_4]; decide) (by rw [z1_4]; decide) (by decide) ?_
      refine lv_aload_n hx hb dX5_count_91 rfl (lv_at hl 0 rfl) ?_
      refine va_get (D := D) (ci := 3) (C := RX5) (T := TX5) (N := 14) hx hb hts iX5 hown hK hP 0 wPW_0 rfl 7 (by decide) q2 (fun _ h9 => h9) rfl dX5_count_92 ?_
      refine va_getN (host := "PartyWill") (D := D) (ci := 0) (C := RX0) (T := TX0) (N := 3) hx hb hts iX0 hown hK hP 18 wPW_18 rfl 1 (by decide) (va_Nw.use rfl (nw_X5_127 hKK.2)) (fun _ h9 => h9) rfl dX5_count_95 ?_
      obtain ⟨r98, hc, h⟩ := bd1_some h
      refine my_roi (va_Run.run (va_runSN (host := "PartyWill") (As := [.long cnow]) (rest := []) hFix (kX1_griefOfAll l D T F cnow r98 hc) ⟨va_cnB 1 hts gX5_count_X1_griefOfAll_n192 rfl rfl rfl (nw_X5_192 hKK.2) q6 hd_X1_griefOfAll ⟨Nat.le_of_ble_eq_true rfl, Nat.le_of_ble_eq_true rfl⟩, q18, trivial⟩ (preS_ro va_nil hKK) rfl rfl hl.1 rfl (lv_room (Nat.le_of_ble_eq_true rfl)) dX5_count_98 ⟨Nat.zero_le _, Nat.zero_le _⟩)) ?_
      cases h
      exact hret _ _ dX5_count_101
    have h := br_0 h z1_4
    by_cases z1_5 : x1 = (5 : Int32)
    · have h := br_1 h z1_5
      refine lv_tableIn (tgt := 102) (off := 101) hx hb dX5_count_1 (by rw [z1_5]; decide) (by rw [z1_5]; decide) (by rw [z1_5]; decide) (by decide) ?_
      refine lv_aload_n hx hb dX5_count_102 rfl (lv_at hl 0 rfl) ?_
      refine va_get (D := D) (ci := 3) (C := RX5) (T := TX5) (N := 14) hx hb hts iX5 hown hK hP 0 wPW_0 rfl 5 (by decide) q1 (fun _ h9 => h9) rfl dX5_count_103 ?_
      refine lv_iconst (v := (1 : Int32)) hx hb dX5_count_106 (by decide) ?_
      obtain ⟨r107, hc, h⟩ := bd1_some h
      have hPc : va_P D vwCl (wPa T (ad 6) (ad 7) (ad 8) (ad 9) (ad 10) (ad 11) psize pclause peff pkin pgri psig psee) s.heap := my_subP sb_wPW_wPa_6to11 hP
      refine my_roi (va_Run.run (va_runVN (host := "PartyWill") (As := [.int (1 : Int32)]) (rest := []) hFix (kX2_howManyAre l D T F (ad 6) (ad 7) (ad 8) (ad 9) (ad 10) (ad 11) psize pclause peff pkin pgri psig psee (1 : Int32) r107 hc) ⟨va_cnB 1 hts gX5_count_X2_howManyAre_n279 rfl rfl rfl (nw_X5_279 hKK.2) q25 hd_X2_howManyAre ⟨Nat.le_of_ble_eq_true rfl, Nat.le_of_ble_eq_true rfl⟩, q24, q26⟩ (preV_ro hPc hKK (va_recv hK hP (ci := 1) (q0 := 6) rfl wPW_6)) rfl rfl hl.1 rfl (lv_room (Nat.le_of_ble_eq_true rfl)) dX5_count_107 ⟨Nat.zero_le _, Nat.zero_le _⟩)) ?_
      cases h
      exact hret _ _ dX5_count_110
    have h := br_0 h z1_5
    by_cases z1_6 : x1 = (6 : Int32)
    · have h := br_1 h z1_6
      refine lv_tableIn (tgt := 111) (off := 110) hx hb dX5_count_1 (by rw [z1_6]; decide) (by rw [z1_6]; decide) (by rw [z1_6]; decide) (by decide) ?_
      refine lv_aload_n hx hb dX5_count_111 rfl (lv_at hl 0 rfl) ?_
      refine va_get (D := D) (ci := 3) (C := RX5) (T := TX5) (N := 14) hx hb hts iX5 hown hK hP 0 wPW_0 rfl 5 (by decide) q1 (fun _ h9 => h9) rfl dX5_count_112 ?_
      refine lv_iconst (v := (2 : Int32)) hx hb dX5_count_115 (by decide) ?_
      obtain ⟨r116, hc, h⟩ := bd1_some h
      have hPc : va_P D vwCl (wPa T (ad 6) (ad 7) (ad 8) (ad 9) (ad 10) (ad 11) psize pclause peff pkin pgri psig psee) s.heap := my_subP sb_wPW_wPa_6to11 hP
      refine my_roi (va_Run.run (va_runVN (host := "PartyWill") (As := [.int (2 : Int32)]) (rest := []) hFix (kX2_howManyAre l D T F (ad 6) (ad 7) (ad 8) (ad 9) (ad 10) (ad 11) psize pclause peff pkin pgri psig psee (2 : Int32) r116 hc) ⟨va_cnB 1 hts gX5_count_X2_howManyAre_n279 rfl rfl rfl (nw_X5_279 hKK.2) q25 hd_X2_howManyAre ⟨Nat.le_of_ble_eq_true rfl, Nat.le_of_ble_eq_true rfl⟩, q24, q26⟩ (preV_ro hPc hKK (va_recv hK hP (ci := 1) (q0 := 6) rfl wPW_6)) rfl rfl hl.1 rfl (lv_room (Nat.le_of_ble_eq_true rfl)) dX5_count_116 ⟨Nat.zero_le _, Nat.zero_le _⟩)) ?_
      cases h
      exact hret _ _ dX5_count_119
    have h := br_0 h z1_6
    by_cases z1_7 : x1 = (7 : Int32)
    · have h := br_1 h z1_7
      refine lv_tableIn (tgt := 120) (off := 119) hx hb dX5_count_1 (by rw [z1_7]; decide) (by rw [z1_7]; decide) (by rw [z1_7]; decide) (by decide) ?_
      refine lv_aload_n hx hb dX5_count_120 rfl (lv_at hl 0 rfl) ?_
      refine va_get (D := D) (ci := 3) (C := RX5) (T := TX5) (N := 14) hx hb hts iX5 hown hK hP 0 wPW_0 rfl 1 (by decide) q3 (fun _ h9 => h9) rfl dX5_count_121 ?_
      obtain ⟨r124, hc, h⟩ := bd1_some h
      have hPc : va_P D vwCl (wA1 T (ad 2) 6 rs) s.heap := my_subP sb_wPW_wA1_2 hP
      refine my_roi (va_Run.run (va_runS (As := [.ref (ad 2)]) (rest := []) hFix (kX5_howManyThere l D T F (ad 2) 6 rs r124 hc) (va_cwS 1 hts gX5_count_X5_howManyThere rfl rfl rfl hd_X5_howManyThere ⟨Nat.le_of_ble_eq_true rfl, Nat.le_of_ble_eq_true rfl⟩) (preS_ro hPc hKK) rfl rfl hl.1 rfl (lv_room (Nat.le_of_ble_eq_true rfl)) dX5_count_124 ⟨Nat.zero_le _, Nat.zero_le _⟩)) ?_
      cases h
      exact hret _ _ dX5_count_127
    have h := br_0 h z1_7
    by_cases z1_8 : x1 = (8 : Int32)
    · have h := br_1 h z1_8
      refine lv_tableIn (tgt := 128) (off := 127) hx hb dX5_count_1 (by rw [z1_8]; decide) (by rw [z1_8]; decide) (by rw [z1_8]; decide) (by decide) ?_
      refine lv_aload_n hx hb dX5_count_128 rfl (lv_at hl 0 rfl) ?_
      refine va_get (D := D) (ci := 3) (C := RX5) (T := TX5) (N := 14) hx hb hts iX5 hown hK hP 0 wPW_0 rfl 3 (by decide) q4 (fun _ h9 => h9) rfl dX5_count_129 ?_
      obtain ⟨r132, hc, h⟩ := bd1_some h
      have hPc : va_P D vwCl (wA1 T (ad 4) 4 ts) s.heap := my_subP sb_wPW_wA1_4 hP
      refine my_roi (va_Run.run (va_runS (As := [.ref (ad 4)]) (rest := []) hFix (kX5_howManyThere l D T F (ad 4) 4 ts r132 hc) (va_cwS 1 hts gX5_count_X5_howManyThere rfl rfl rfl hd_X5_howManyThere ⟨Nat.le_of_ble_eq_true rfl, Nat.le_of_ble_eq_true rfl⟩) (preS_ro hPc hKK) rfl rfl hl.1 rfl (lv_room (Nat.le_of_ble_eq_true rfl)) dX5_count_132 ⟨Nat.zero_le _, Nat.zero_le _⟩)) ?_
      cases h
      exact hret _ _ dX5_count_135
    have h := br_0 h z1_8
    by_cases z1_9 : x1 = (9 : Int32)
    · have h := br_1 h z1_9
      refine lv_tableIn (tgt := 136) (off := 135) hx hb dX5_count_1 (by rw [z1_9]; decide) (by rw [z1_9]; decide) (by rw [z1_9]; decide) (by decide) ?_
      refine lv_aload_n hx hb dX5_count_136 rfl (lv_at hl 0 rfl) ?_
      obtain ⟨r137, hc, h⟩ := bd1_some h
      refine my_roi (va_Run.run (va_runV (As := []) (rest := []) hFix (kX5_howManyKept l D T F ad (ad 6) (ad 12) rs rm ts tm rdue rtun rsee rbeg psize pclause peff pkin pgri psig psee qsize qclause qeff qkin qgri qsig qsee cdee cnow cahe kdee know kahe fc lf told up lo r137 hc) (cwV 0 hts gX5_count_X5_howManyKept rfl rfl rfl ⟨rfl, hd_X5_howManyKept⟩ ⟨Nat.le_of_ble_eq_true rfl, Nat.le_of_ble_eq_true rfl⟩) (preV_ro hP hKK (va_recv hK hP (ci := 3) (q0 := 0) rfl wPW_0)) rfl rfl hl.1 rfl (lv_room (Nat.le_of_ble_eq_true rfl)) dX5_count_137 ⟨Nat.zero_le _, Nat.zero_le _⟩)) ?_
      cases h
      exact hret _ _ dX5_count_140
    have h := br_0 h z1_9
    have e1_0 : x1.toInt ≠ 0 := fun e => z1_0 (Int32.toInt_inj.mp e)
    have e1_1 : x1.toInt ≠ 1 := fun e => z1_1 (Int32.toInt_inj.mp e)
    have e1_2 : x1.toInt ≠ 2 := fun e => z1_2 (Int32.toInt_inj.mp e)
    have e1_3 : x1.toInt ≠ 3 := fun e => z1_3 (Int32.toInt_inj.mp e)
    have e1_4 : x1.toInt ≠ 4 := fun e => z1_4 (Int32.toInt_inj.mp e)
    have e1_5 : x1.toInt ≠ 5 := fun e => z1_5 (Int32.toInt_inj.mp e)
    have e1_6 : x1.toInt ≠ 6 := fun e => z1_6 (Int32.toInt_inj.mp e)
    have e1_7 : x1.toInt ≠ 7 := fun e => z1_7 (Int32.toInt_inj.mp e)
    have e1_8 : x1.toInt ≠ 8 := fun e => z1_8 (Int32.toInt_inj.mp e)
    have e1_9 : x1.toInt ≠ 9 := fun e => z1_9 (Int32.toInt_inj.mp e)
    refine lv_tableOut (tgt := 141) hx hb dX5_count_1 (by omega) (by decide) ?_
    refine lv_iconst (v := (-1 : Int32)) hx hb dX5_count_141 (by decide) ?_
    cases h
    exact hret _ _ dX5_count_142
  exact key _ (fun pc ls hd => W.iret hx hb hr (fun t ht hW => ⟨_, rfl, rfl, ht⟩) (fun q h => by cases h) hd)
set_option maxHeartbeats 4000000 in
set_option maxRecDepth 100000 in
theorem kX5_finding (l : Launch) (D : va_G) (T : Nat → ClassId) (F : Nat) (ad : Nat → Nat) (rs : Nat → Int32) (rm : Nat → Nat → Int32) (ts : Nat → Int32) (tm : Nat → Nat → Int32) (rdue : Int32) (rtun : Int32) (rsee : Int32) (rbeg : Int32) (psize : Int32) (pclause : Int32) (peff : Nat → Int32) (pkin : Nat → Int32) (pgri : Nat → Int32) (psig : Nat → Int32) (psee : Nat → Int32) (qsize : Int32) (qclause : Int32) (qeff : Nat → Int32) (qkin : Nat → Int32) (qgri : Nat → Int32) (qsig : Nat → Int32) (qsee : Nat → Int32) (cdee : Int32) (cnow : Int64) (cahe : Nat → Int64) (kdee : Nat → Int32) (know : Nat → Int64) (kahe : Nat → Nat → Int64) (fc : Nat → Int32) (lf : Int32) (told : Int32) (up : Int64) (lo : Int64) (r : Int32) (h : fX5_finding F lf = some (r)) : Met l yX5_finding wsX5_finding ({ frames := 0, cells := 0, slots := 0, locals := 0 } : Room) (va_Pc [.ref (ad 0)] (fun U => va_P D vwCl (wPW T ad (ad 6) (ad 12) rs rm ts tm rdue rtun rsee rbeg psize pclause peff pkin pgri psig psee qsize qclause qeff qkin qgri qsig qsee cdee cnow cahe kdee know kahe fc lf told up lo) U.heap ∧ KK D T U)) (vp_Si (fun r' => r' = r)) 0 0 (fun _ => False) := by
  refine Met.ofW (cc := cX5_finding) (maxL := 1) (ret := some .int) (by decide) rfl ?_
  intro p e s m args below meth c s₁ B hml hv
  obtain ⟨ha, hP, hKK⟩ := hv
  have hx := B.exec
  have hb := B.bytes
  have hr := B.returns
  have hts := atoms_spec (ws := wsX5_finding) B.pre
  have hown : s.vm.findClass RX5 = some m.cls := findClass_of_methodNamed B.named
  have hlocks := B.notSynchronized
  have hK := hKK.1
  have hFix : CallFix p m c cX5_finding 1 s args wsX5_finding RX5 := ⟨hx, hb, hml, hown, hts⟩
  have q1 := hts _ (List.mem_of_getElem? (i := 1) (show wsX5_finding[1]? = some (Cond.fieldLink RX5 57 "PartyWill" "lastFinding" "I") from rfl))
  have iX5 : ∀ w ∈ u_ws RX5 TX5 14, w ∈ wsX5_finding := fun w h => List.mem_cons_of_mem _ (List.mem_append_right _ (h))
  obtain ⟨ls, hl, e0⟩ := my_entry (m := m) (n := 1) ha (Nat.le_of_ble_eq_true rfl)
  rw [e0]
  have hl : lv_has ls 1 [(0, .ref (ad 0))] := hl
  have key : ∀ Q : State → Prop, (∀ (pc : Nat) (ls : Array Slot), decode cX5_finding pc = .ok (.ireturn, 1) → W p l e ({ frames := 0, cells := 0, slots := 0, locals := 0 } : Room) s m args below meth c s.heap [] 0 0 Q (F0 m pc ls [.int r])) → W p l e ({ frames := 0, cells := 0, slots := 0, locals := 0 } : Room) s m args below meth c s.heap [] 0 0 Q (F0 m 0 ls []) := by
    intro Q hret
    unfold fX5_finding at h
    refine lv_aload_n hx hb dX5_finding_0 rfl (lv_at hl 0 rfl) ?_
    refine va_get (D := D) (ci := 3) (C := RX5) (T := TX5) (N := 14) hx hb hts iX5 hown hK hP 0 wPW_0 rfl 10 (by decide) q1 (fun _ h9 => h9) rfl dX5_finding_1 ?_
    cases h
    exact hret _ _ dX5_finding_4
  exact key _ (fun pc ls hd => W.iret hx hb hr (fun t ht hW => ⟨_, rfl, rfl, ht⟩) (fun q h => by cases h) hd)
set_option maxHeartbeats 4000000 in
set_option maxRecDepth 100000 in
theorem kX5_findings (l : Launch) (D : va_G) (T : Nat → ClassId) (F : Nat) (ad : Nat → Nat) (rs : Nat → Int32) (rm : Nat → Nat → Int32) (ts : Nat → Int32) (tm : Nat → Nat → Int32) (rdue : Int32) (rtun : Int32) (rsee : Int32) (rbeg : Int32) (psize : Int32) (pclause : Int32) (peff : Nat → Int32) (pkin : Nat → Int32) (pgri : Nat → Int32) (psig : Nat → Int32) (psee : Nat → Int32) (qsize : Int32) (qclause : Int32) (qeff : Nat → Int32) (qkin : Nat → Int32) (qgri : Nat → Int32) (qsig : Nat → Int32) (qsee : Nat → Int32) (cdee : Int32) (cnow : Int64) (cahe : Nat → Int64) (kdee : Nat → Int32) (know : Nat → Int64) (kahe : Nat → Nat → Int64) (fc : Nat → Int32) (lf : Int32) (told : Int32) (up : Int64) (lo : Int64) (x1 : Int32) (r : Int32) (h : fX5_findings F fc x1 = some (r)) : Met l yX5_findings wsX5_findings ({ frames := 0, cells := 0, slots := 0, locals := 0 } : Room) (va_Pc [.ref (ad 0), .int x1] (fun U => va_P D vwCl (wPW T ad (ad 6) (ad 12) rs rm ts tm rdue rtun rsee rbeg psize pclause peff pkin pgri psig psee qsize qclause qeff qkin qgri qsig qsee cdee cnow cahe kdee know kahe fc lf told up lo) U.heap ∧ KK D T U)) (vp_Si (fun r' => r' = r)) 0 0 (fun _ => False) := by
  refine Met.ofW (cc := cX5_findings) (maxL := 2) (ret := some .int) (by decide) rfl ?_
  intro p e s m args below meth c s₁ B hml hv
  obtain ⟨ha, hP, hKK⟩ := hv
  have hx := B.exec
  have hb := B.bytes
  have hr := B.returns
  have hts := atoms_spec (ws := wsX5_findings) B.pre
  have hown : s.vm.findClass RX5 = some m.cls := findClass_of_methodNamed B.named
  have hlocks := B.notSynchronized
  have hK := hKK.1
  have hFix : CallFix p m c cX5_findings 2 s args wsX5_findings RX5 := ⟨hx, hb, hml, hown, hts⟩
  have q1 := hts _ (List.mem_of_getElem? (i := 1) (show wsX5_findings[1]? = some (Cond.fieldLink RX5 54 "PartyWill" "findingCounts" "[I") from rfl))
  have iX5 : ∀ w ∈ u_ws RX5 TX5 14, w ∈ wsX5_findings := fun w h => List.mem_cons_of_mem _ (List.mem_append_right _ (h))
  obtain ⟨ls, hl, e0⟩ := my_entry (m := m) (n := 2) ha (Nat.le_of_ble_eq_true rfl)
  rw [e0]
  have hl : lv_has ls 2 [(0, .ref (ad 0)), (1, .int x1)] := hl
  have key : ∀ Q : State → Prop, (∀ (pc : Nat) (ls : Array Slot), decode cX5_findings pc = .ok (.ireturn, 1) → W p l e ({ frames := 0, cells := 0, slots := 0, locals := 0 } : Room) s m args below meth c s.heap [] 0 0 Q (F0 m pc ls [.int r])) → W p l e ({ frames := 0, cells := 0, slots := 0, locals := 0 } : Room) s m args below meth c s.heap [] 0 0 Q (F0 m 0 ls []) := by
    intro Q hret
    unfold fX5_findings at h
    refine lv_iload_n hx hb dX5_findings_0 rfl (lv_at hl 1 rfl) ?_
    refine lv_iconst (v := (1 : Int32)) hx hb dX5_findings_1 (by decide) ?_
    refine lv_icmp_lt (tgt := 10) hx hb dX5_findings_2 (by decide) (fun c2 => ?_) (fun c2 => ?_)
    · have h := br_1 h c2
      refine lv_iconst (v := (-1 : Int32)) hx hb dX5_findings_10 (by decide) ?_
      cases h
      exact hret _ _ dX5_findings_11
    · have h := br_0 h c2
      refine lv_iload_n hx hb dX5_findings_5 rfl (lv_at hl 1 rfl) ?_
      refine lv_iconst (v := (5 : Int32)) hx hb dX5_findings_6 (by decide) ?_
      refine lv_icmp_le (tgt := 12) hx hb dX5_findings_7 (by decide) (fun c7 => ?_) (fun c7 => ?_)
      · have h := br_1 h c7
        refine lv_aload_n hx hb dX5_findings_12 rfl (lv_at hl 0 rfl) ?_
        refine va_get (D := D) (ci := 3) (C := RX5) (T := TX5) (N := 14) hx hb hts iX5 hown hK hP 0 wPW_0 rfl 9 (by decide) q1 (fun _ h9 => h9) rfl dX5_findings_13 ?_
        refine lv_iload_n hx hb dX5_findings_16 rfl (lv_at hl 1 rfl) ?_
        obtain ⟨hin1, h⟩ := ck_some h
        refine va_iald hx hb hK hP 27 0 wPW_27 rfl hin1 dX5_findings_17 ?_
        cases h
        exact hret _ _ dX5_findings_18
      · have h := br_0 h c7
        refine lv_iconst (v := (-1 : Int32)) hx hb dX5_findings_10 (by decide) ?_
        cases h
        exact hret _ _ dX5_findings_11
  exact key _ (fun pc ls hd => W.iret hx hb hr (fun t ht hW => ⟨_, rfl, rfl, ht⟩) (fun q h => by cases h) hd)
set_option maxHeartbeats 4000000 in
set_option maxRecDepth 100000 in
theorem kX5_digestParty (l : Launch) (D : va_G) (T : Nat → ClassId) (F : Nat) (ad : Nat → Nat) (rs : Nat → Int32) (rm : Nat → Nat → Int32) (ts : Nat → Int32) (tm : Nat → Nat → Int32) (rdue : Int32) (rtun : Int32) (rsee : Int32) (rbeg : Int32) (psize : Int32) (pclause : Int32) (peff : Nat → Int32) (pkin : Nat → Int32) (pgri : Nat → Int32) (psig : Nat → Int32) (psee : Nat → Int32) (qsize : Int32) (qclause : Int32) (qeff : Nat → Int32) (qkin : Nat → Int32) (qgri : Nat → Int32) (qsig : Nat → Int32) (qsee : Nat → Int32) (cdee : Int32) (cnow : Int64) (cahe : Nat → Int64) (kdee : Nat → Int32) (know : Nat → Int64) (kahe : Nat → Nat → Int64) (fc : Nat → Int32) (lf : Int32) (told : Int32) (up : Int64) (lo : Int64) (x1 : Int64) (r : Int64) (h : fX5_digestParty F psize peff pkin psig psee cnow kdee x1 = some (r)) : Met l yX5_digestParty wsX5_digestParty ({ frames := 3, cells := 0, slots := 0, locals := 66 } : Room) (va_Pc [.ref (ad 0), .long x1] (fun U => va_P D vwCl (wPW T ad (ad 6) (ad 12) rs rm ts tm rdue rtun rsee rbeg psize pclause peff pkin pgri psig psee qsize qclause qeff qkin qgri qsig qsee cdee cnow cahe kdee know kahe fc lf told up lo) U.heap ∧ KK D T U)) (vp_Sl (fun r' => r' = r)) 0 0 (fun _ => False) := by
  refine Met.ofW (cc := cX5_digestParty) (maxL := 7) (ret := some .long) (by decide) rfl ?_
  intro p e s m args below meth c s₁ B hml hv
  obtain ⟨ha, hP, hKK⟩ := hv
  have hx := B.exec
  have hb := B.bytes
  have hr := B.returns
  have hts := atoms_spec (ws := wsX5_digestParty) B.pre
  have hown : s.vm.findClass RX5 = some m.cls := findClass_of_methodNamed B.named
  have hlocks := B.notSynchronized
  have hK := hKK.1
  have hFix : CallFix p m c cX5_digestParty 7 s args wsX5_digestParty RX5 := ⟨hx, hb, hml, hown, hts⟩
  have q1 := hts _ (List.mem_of_getElem? (i := 1) (show wsX5_digestParty[1]? = some (Cond.constantLong RX5 292 (31)) from rfl))
  have q2 := hts _ (List.mem_of_getElem? (i := 2) (show wsX5_digestParty[2]? = some (Cond.fieldLink RX5 36 "PartyWill" "party" "LPartyWill$Party;") from rfl))
  have q3 := hts _ (List.mem_of_getElem? (i := 3) (show wsX5_digestParty[3]? = some (Cond.fieldLink RX5 50 "PartyWill" "kept" "[LPartyWill$Course;") from rfl))
  have iX0 : ∀ w ∈ u_ws RX0 TX0 3, w ∈ wsX5_digestParty := fun w h => List.mem_cons_of_mem _ (List.mem_append_right _ (h))
  have iX2 : ∀ w ∈ u_ws RX2 TX2 7, w ∈ wsX5_digestParty := fun w h => List.mem_cons_of_mem _ (List.mem_append_left _ (List.mem_append_right _ (h)))
  have iX5 : ∀ w ∈ u_ws RX5 TX5 14, w ∈ wsX5_digestParty := fun w h => List.mem_cons_of_mem _ (List.mem_append_left _ (List.mem_append_left _ (List.mem_append_right _ (h))))
  obtain ⟨ls, hl, e0⟩ := my_entry (m := m) (n := 7) ha (Nat.le_of_ble_eq_true rfl)
  rw [e0]
  have hl : lv_has ls 7 [(0, .ref (ad 0)), (1, .long x1)] := hl
  have key : ∀ Q : State → Prop, (∀ (pc : Nat) (ls : Array Slot), decode cX5_digestParty pc = .ok (.lreturn, 1) → W p l e ({ frames := 3, cells := 0, slots := 0, locals := 66 } : Room) s m args below meth c s.heap [] 0 0 Q (F0 m pc ls [.long r])) → W p l e ({ frames := 3, cells := 0, slots := 0, locals := 66 } : Room) s m args below meth c s.heap [] 0 0 Q (F0 m 0 ls []) := by
    intro Q hret
    have l90 : ∀ nu : Nat, ∀ x3 : Int64, ∀ x5 : Int32, fX5_digestParty_l90 F psize peff pkin psig psee cnow kdee nu x3 x5 = some (r) → ∀ (ls : Array Slot), lv_has ls 7 [(0, .ref (ad 0)), (3, .long x3), (5, .int x5)] → W p l e ({ frames := 3, cells := 0, slots := 0, locals := 66 } : Room) s m args below meth c s.heap [] 0 0 Q (F0 m 90 ls []) := by
      intro nu
      induction nu with
      | zero => intro x3 x5 h; exact none_some h
      | succ nu90 ih90 =>
        intro x3 x5 h ls hl
        have h : fX5_digestParty_l90_b F psize peff pkin psig psee cnow kdee (fX5_digestParty_l90 F psize peff pkin psig psee cnow kdee nu90) x3 x5 = some (r) := h
        unfold fX5_digestParty_l90_b at h
        refine lv_iload hx hb dX5_digestParty_90 (lv_at hl 2 rfl) ?_
        refine lv_iconst (v := (3 : Int32)) hx hb dX5_digestParty_92 (by decide) ?_
        refine lv_icmp_ge (tgt := 120) hx hb dX5_digestParty_93 (by decide) (fun c93 => ?_) (fun c93 => ?_)
        · have h := br_1 h c93
          refine lv_lload_n hx hb dX5_digestParty_120 rfl (lv_at hl 1 rfl) ?_
          cases h
          exact hret _ _ dX5_digestParty_121
        · have h := br_0 h c93
          refine lv_ldc2 (v := (31 : Int64)) hx hb hown q1 dX5_digestParty_96 ?_
          refine lv_lload_n hx hb dX5_digestParty_99 rfl (lv_at hl 1 rfl) ?_
          refine lv_lmul hx hb dX5_digestParty_100 ?_
          refine lv_aload_n hx hb dX5_digestParty_101 rfl (lv_at hl 0 rfl) ?_
          refine va_get (D := D) (ci := 3) (C := RX5) (T := TX5) (N := 14) hx hb hts iX5 hown hK hP 0 wPW_0 rfl 8 (by decide) q3 (fun _ h9 => h9) rfl dX5_digestParty_102 ?_
          refine lv_iload hx hb dX5_digestParty_105 (lv_at hl 2 rfl) ?_
          obtain ⟨hin2, h⟩ := ck_some h
          have hk1 : x5.toNatClampNeg < 3 := vp_lt hin2
          refine my_ald (b := (ad (21 + 2 * x5.toNatClampNeg))) rfl hx hb hK hP 20 6 wPW_20 rfl hin2 (fun _ => if_pos hk1) dX5_digestParty_107 ?_
          refine va_getN (host := "PartyWill") (D := D) (ci := 0) (C := RX0) (T := TX0) (N := 3) hx hb hts iX0 hown hK hP (21 + 2 * x5.toNatClampNeg) (wPW_f_kept0 hk1) rfl 0 (by decide) (va_Nw.use rfl (nw_X5_71 hKK.2)) (fun _ h9 => h9) rfl dX5_digestParty_108 ?_
          refine lv_i2l (v := ((kdee x5.toNatClampNeg).toInt64)) hx hb dX5_digestParty_111 rfl ?_
          refine lv_ladd hx hb dX5_digestParty_112 ?_
          refine lv_lstore_n (lv' := [(3, .long (((31 : Int64) * x3) + ((kdee x5.toNatClampNeg).toInt64))), (0, .ref (ad 0)), (5, .int x5)]) hx hb dX5_digestParty_113 rfl hl (by decide) rfl (fun ls hl => ?_)
          refine lv_iinc (v := (x5 + (1 : Int32))) (lv' := [(5, .int (x5 + (1 : Int32))), (3, .long (((31 : Int64) * x3) + ((kdee x5.toNatClampNeg).toInt64))), (0, .ref (ad 0))]) hx hb dX5_digestParty_114 hl (k := 2) rfl rfl (by decide) rfl (fun ls hl => ?_)
          refine lv_goto (tgt := 90) hx hb dX5_digestParty_117 (by decide) ?_
          exact ih90 (((31 : Int64) * x3) + ((kdee x5.toNatClampNeg).toInt64)) (x5 + (1 : Int32)) h _ (lv_sub hl [2, 1, 0] rfl)
    have l38 : ∀ nu : Nat, ∀ x3 : Int64, ∀ x5 : Int32, fX5_digestParty_l38 F psize peff pkin psig psee cnow kdee nu x3 x5 = some (r) → ∀ (ls : Array Slot), lv_has ls 7 [(0, .ref (ad 0)), (3, .long x3), (5, .int x5)] → W p l e ({ frames := 3, cells := 0, slots := 0, locals := 66 } : Room) s m args below meth c s.heap [] 0 0 Q (F0 m 38 ls []) := by
      intro nu
      induction nu with
      | zero => intro x3 x5 h; exact none_some h
      | succ nu38 ih38 =>
        intro x3 x5 h ls hl
        have l53 : ∀ x5 : Int32, ∀ nu : Nat, ∀ x3 : Int64, ∀ x6 : Int32, fX5_digestParty_l53 F (fX5_digestParty_l38 F psize peff pkin psig psee cnow kdee nu38) psize peff pkin psig psee cnow kdee x5 nu x3 x6 = some (r) → ∀ (ls : Array Slot), lv_has ls 7 [(0, .ref (ad 0)), (3, .long x3), (5, .int x5), (6, .int x6)] → W p l e ({ frames := 3, cells := 0, slots := 0, locals := 66 } : Room) s m args below meth c s.heap [] 0 0 Q (F0 m 53 ls []) := by
          intro x5
          intro nu
          induction nu with
          | zero => intro x3 x6 h; exact none_some h
          | succ nu53 ih53 =>
            intro x3 x6 h ls hl
            have h : fX5_digestParty_l53_b F (fX5_digestParty_l38 F psize peff pkin psig psee cnow kdee nu38) psize peff pkin psig psee cnow kdee x5 (fX5_digestParty_l53 F (fX5_digestParty_l38 F psize peff pkin psig psee cnow kdee nu38) psize peff pkin psig psee cnow kdee x5 nu53) x3 x6 = some (r) := h
            unfold fX5_digestParty_l53_b at h
            refine lv_iload hx hb dX5_digestParty_53 (lv_at hl 3 rfl) ?_
            refine lv_iconst (v := (4 : Int32)) hx hb dX5_digestParty_55 (by decide) ?_
            refine lv_icmp_gt (tgt := 81) hx hb dX5_digestParty_56 (by decide) (fun c56 => ?_) (fun c56 => ?_)
            · have h := br_1 h c56
              refine lv_iinc (v := (x5 + (1 : Int32))) (lv' := [(5, .int (x5 + (1 : Int32))), (0, .ref (ad 0)), (3, .long x3), (6, .int x6)]) hx hb dX5_digestParty_81 hl (k := 2) rfl rfl (by decide) rfl (fun ls hl => ?_)
              refine lv_goto (tgt := 38) hx hb dX5_digestParty_84 (by decide) ?_
              exact ih38 x3 (x5 + (1 : Int32)) h _ (lv_sub hl [1, 2, 0] rfl)
            · have h := br_0 h c56
              refine lv_ldc2 (v := (31 : Int64)) hx hb hown q1 dX5_digestParty_59 ?_
              refine lv_lload_n hx hb dX5_digestParty_62 rfl (lv_at hl 1 rfl) ?_
              refine lv_lmul hx hb dX5_digestParty_63 ?_
              refine lv_aload_n hx hb dX5_digestParty_64 rfl (lv_at hl 0 rfl) ?_
              refine lv_iload hx hb dX5_digestParty_65 (lv_at hl 2 rfl) ?_
              refine lv_iload hx hb dX5_digestParty_67 (lv_at hl 3 rfl) ?_
              obtain ⟨r69, hc, h⟩ := bd1_some h
              refine my_roi (va_Run.run (va_runV (As := [.int x5, .int x6]) (rest := [.long ((31 : Int64) * x3)]) hFix (kX5_guestTells l D T F ad (ad 6) (ad 12) rs rm ts tm rdue rtun rsee rbeg psize pclause peff pkin pgri psig psee qsize qclause qeff qkin qgri qsig qsee cdee cnow cahe kdee know kahe fc lf told up lo x5 x6 r69 hc) (cwV 2 hts gX5_digestParty_X5_guestTells rfl rfl rfl ⟨rfl, hd_X5_guestTells⟩ ⟨Nat.le_of_ble_eq_true rfl, Nat.le_of_ble_eq_true rfl⟩) (preV_ro hP hKK (va_recv hK hP (ci := 3) (q0 := 0) rfl wPW_0)) rfl rfl hl.1 rfl (lv_room (Nat.le_of_ble_eq_true rfl)) dX5_digestParty_69 ⟨Nat.zero_le _, Nat.zero_le _⟩)) ?_
              refine lv_i2l (v := (r69.toInt64)) hx hb dX5_digestParty_72 rfl ?_
              refine lv_ladd hx hb dX5_digestParty_73 ?_
              refine lv_lstore_n (lv' := [(3, .long (((31 : Int64) * x3) + (r69.toInt64))), (0, .ref (ad 0)), (5, .int x5), (6, .int x6)]) hx hb dX5_digestParty_74 rfl hl (by decide) rfl (fun ls hl => ?_)
              refine lv_iinc (v := (x6 + (1 : Int32))) (lv' := [(6, .int (x6 + (1 : Int32))), (3, .long (((31 : Int64) * x3) + (r69.toInt64))), (0, .ref (ad 0)), (5, .int x5)]) hx hb dX5_digestParty_75 hl (k := 3) rfl rfl (by decide) rfl (fun ls hl => ?_)
              refine lv_goto (tgt := 53) hx hb dX5_digestParty_78 (by decide) ?_
              exact ih53 (((31 : Int64) * x3) + (r69.toInt64)) (x6 + (1 : Int32)) h _ (lv_sub hl [2, 1, 3, 0] rfl)
        have h : fX5_digestParty_l38_b F psize peff pkin psig psee cnow kdee (fX5_digestParty_l38 F psize peff pkin psig psee cnow kdee nu38) x3 x5 = some (r) := h
        unfold fX5_digestParty_l38_b at h
        refine lv_iload hx hb dX5_digestParty_38 (lv_at hl 2 rfl) ?_
        refine lv_aload_n hx hb dX5_digestParty_40 rfl (lv_at hl 0 rfl) ?_
        refine va_get (D := D) (ci := 3) (C := RX5) (T := TX5) (N := 14) hx hb hts iX5 hown hK hP 0 wPW_0 rfl 5 (by decide) q2 (fun _ h9 => h9) rfl dX5_digestParty_41 ?_
        refine va_getN (host := "PartyWill") (D := D) (ci := 1) (C := RX2) (T := TX2) (N := 7) hx hb hts iX2 hown hK hP 6 wPW_6 rfl 0 (by decide) (va_Nw.use rfl (nw_X5_111 hKK.2)) (fun _ h9 => h9) rfl dX5_digestParty_44 ?_
        refine lv_icmp_ge (tgt := 87) hx hb dX5_digestParty_47 (by decide) (fun c47 => ?_) (fun c47 => ?_)
        · have h := br_1 h c47
          refine lv_iconst (v := (0 : Int32)) hx hb dX5_digestParty_87 (by decide) ?_
          refine lv_istore (lv' := [(5, .int (0 : Int32)), (0, .ref (ad 0)), (3, .long x3)]) hx hb dX5_digestParty_88 hl (by decide) rfl (fun ls hl => ?_)
          exact l90 F x3 (0 : Int32) h _ (lv_sub hl [1, 2, 0] rfl)
        · have h := br_0 h c47
          refine lv_iconst (v := (0 : Int32)) hx hb dX5_digestParty_50 (by decide) ?_
          refine lv_istore (lv' := [(6, .int (0 : Int32)), (0, .ref (ad 0)), (3, .long x3), (5, .int x5)]) hx hb dX5_digestParty_51 hl (by decide) rfl (fun ls hl => ?_)
          exact l53 x5 F x3 (0 : Int32) h _ (lv_sub hl [1, 2, 3, 0] rfl)
    have l5 : ∀ nu : Nat, ∀ x3 : Int64, ∀ x5 : Int32, fX5_digestParty_l5 F psize peff pkin psig psee cnow kdee nu x3 x5 = some (r) → ∀ (ls : Array Slot), lv_has ls 7 [(0, .ref (ad 0)), (3, .long x3), (5, .int x5)] → W p l e ({ frames := 3, cells := 0, slots := 0, locals := 66 } : Room) s m args below meth c s.heap [] 0 0 Q (F0 m 5 ls []) := by
      intro nu
      induction nu with
      | zero => intro x3 x5 h; exact none_some h
      | succ nu5 ih5 =>
        intro x3 x5 h ls hl
        have h : fX5_digestParty_l5_b F psize peff pkin psig psee cnow kdee (fX5_digestParty_l5 F psize peff pkin psig psee cnow kdee nu5) x3 x5 = some (r) := h
        unfold fX5_digestParty_l5_b at h
        refine lv_iload hx hb dX5_digestParty_5 (lv_at hl 2 rfl) ?_
        refine lv_iconst (v := (4 : Int32)) hx hb dX5_digestParty_7 (by decide) ?_
        refine lv_icmp_ge (tgt := 35) hx hb dX5_digestParty_8 (by decide) (fun c8 => ?_) (fun c8 => ?_)
        · have h := br_1 h c8
          refine lv_iconst (v := (0 : Int32)) hx hb dX5_digestParty_35 (by decide) ?_
          refine lv_istore (lv' := [(5, .int (0 : Int32)), (0, .ref (ad 0)), (3, .long x3)]) hx hb dX5_digestParty_36 hl (by decide) rfl (fun ls hl => ?_)
          exact l38 F x3 (0 : Int32) h _ (lv_sub hl [1, 2, 0] rfl)
        · have h := br_0 h c8
          refine lv_ldc2 (v := (31 : Int64)) hx hb hown q1 dX5_digestParty_11 ?_
          refine lv_lload_n hx hb dX5_digestParty_14 rfl (lv_at hl 1 rfl) ?_
          refine lv_lmul hx hb dX5_digestParty_15 ?_
          refine lv_aload_n hx hb dX5_digestParty_16 rfl (lv_at hl 0 rfl) ?_
          refine va_get (D := D) (ci := 3) (C := RX5) (T := TX5) (N := 14) hx hb hts iX5 hown hK hP 0 wPW_0 rfl 5 (by decide) q2 (fun _ h9 => h9) rfl dX5_digestParty_17 ?_
          refine va_getN (host := "PartyWill") (D := D) (ci := 1) (C := RX2) (T := TX2) (N := 7) hx hb hts iX2 hown hK hP 6 wPW_6 rfl 2 (by decide) (va_Nw.use rfl (nw_X5_155 hKK.2)) (fun _ h9 => h9) rfl dX5_digestParty_20 ?_
          refine lv_iload hx hb dX5_digestParty_23 (lv_at hl 2 rfl) ?_
          obtain ⟨hin3, h⟩ := ck_some h
          refine va_iald hx hb hK hP 7 0 wPW_7 rfl hin3 dX5_digestParty_25 ?_
          refine lv_i2l (v := ((peff x5.toNatClampNeg).toInt64)) hx hb dX5_digestParty_26 rfl ?_
          refine lv_ladd hx hb dX5_digestParty_27 ?_
          refine lv_lstore_n (lv' := [(3, .long (((31 : Int64) * x3) + ((peff x5.toNatClampNeg).toInt64))), (0, .ref (ad 0)), (5, .int x5)]) hx hb dX5_digestParty_28 rfl hl (by decide) rfl (fun ls hl => ?_)
          refine lv_iinc (v := (x5 + (1 : Int32))) (lv' := [(5, .int (x5 + (1 : Int32))), (3, .long (((31 : Int64) * x3) + ((peff x5.toNatClampNeg).toInt64))), (0, .ref (ad 0))]) hx hb dX5_digestParty_29 hl (k := 2) rfl rfl (by decide) rfl (fun ls hl => ?_)
          refine lv_goto (tgt := 5) hx hb dX5_digestParty_32 (by decide) ?_
          exact ih5 (((31 : Int64) * x3) + ((peff x5.toNatClampNeg).toInt64)) (x5 + (1 : Int32)) h _ (lv_sub hl [2, 1, 0] rfl)
    unfold fX5_digestParty at h
    refine lv_lload_n hx hb dX5_digestParty_0 rfl (lv_at hl 1 rfl) ?_
    refine lv_lstore_n (lv' := [(3, .long x1), (0, .ref (ad 0)), (1, .long x1)]) hx hb dX5_digestParty_1 rfl hl (by decide) rfl (fun ls hl => ?_)
    refine lv_iconst (v := (0 : Int32)) hx hb dX5_digestParty_2 (by decide) ?_
    refine lv_istore (lv' := [(5, .int (0 : Int32)), (3, .long x1), (0, .ref (ad 0)), (1, .long x1)]) hx hb dX5_digestParty_3 hl (by decide) rfl (fun ls hl => ?_)
    exact l5 F x1 (0 : Int32) h _ (lv_sub hl [2, 1, 0] rfl)
  exact key _ (fun pc ls hd => W.lret hx hb hr (fun t ht hW => ⟨_, rfl, rfl, ht⟩) (fun q h => by cases h) hd)
set_option maxHeartbeats 4000000 in
set_option maxRecDepth 100000 in
theorem kX5_digest (l : Launch) (D : va_G) (T : Nat → ClassId) (F : Nat) (ad : Nat → Nat) (rs : Nat → Int32) (rm : Nat → Nat → Int32) (ts : Nat → Int32) (tm : Nat → Nat → Int32) (rdue : Int32) (rtun : Int32) (rsee : Int32) (rbeg : Int32) (psize : Int32) (pclause : Int32) (peff : Nat → Int32) (pkin : Nat → Int32) (pgri : Nat → Int32) (psig : Nat → Int32) (psee : Nat → Int32) (qsize : Int32) (qclause : Int32) (qeff : Nat → Int32) (qkin : Nat → Int32) (qgri : Nat → Int32) (qsig : Nat → Int32) (qsee : Nat → Int32) (cdee : Int32) (cnow : Int64) (cahe : Nat → Int64) (kdee : Nat → Int32) (know : Nat → Int64) (kahe : Nat → Nat → Int64) (fc : Nat → Int32) (lf : Int32) (told : Int32) (up : Int64) (lo : Int64) (r : Int64) (h : fX5_digest F rs rm ts tm psize pclause peff pkin psig psee cdee cnow kdee = some (r)) : Met l yX5_digest wsX5_digest ({ frames := 4, cells := 0, slots := 0, locals := 92 } : Room) (va_Pc [.ref (ad 0)] (fun U => va_P D vwCl (wPW T ad (ad 6) (ad 12) rs rm ts tm rdue rtun rsee rbeg psize pclause peff pkin pgri psig psee qsize qclause qeff qkin qgri qsig qsee cdee cnow cahe kdee know kahe fc lf told up lo) U.heap ∧ KK D T U)) (vp_Sl (fun r' => r' = r)) 0 0 (fun _ => False) := by
  refine Met.ofW (cc := cX5_digest) (maxL := 5) (ret := some .long) (by decide) rfl ?_
  intro p e s m args below meth c s₁ B hml hv
  obtain ⟨ha, hP, hKK⟩ := hv
  have hx := B.exec
  have hb := B.bytes
  have hr := B.returns
  have hts := atoms_spec (ws := wsX5_digest) B.pre
  have hown : s.vm.findClass RX5 = some m.cls := findClass_of_methodNamed B.named
  have hlocks := B.notSynchronized
  have hK := hKK.1
  have hFix : CallFix p m c cX5_digest 5 s args wsX5_digest RX5 := ⟨hx, hb, hml, hown, hts⟩
  have q1 := hts _ (List.mem_of_getElem? (i := 1) (show wsX5_digest[1]? = some (Cond.constantLong RX5 290 (17)) from rfl))
  have q2 := hts _ (List.mem_of_getElem? (i := 2) (show wsX5_digest[2]? = some (Cond.constantLong RX5 292 (31)) from rfl))
  have q3 := hts _ (List.mem_of_getElem? (i := 3) (show wsX5_digest[3]? = some (Cond.fieldLink RX5 14 "PartyWill" "rowSizes" "[I") from rfl))
  have q4 := hts _ (List.mem_of_getElem? (i := 4) (show wsX5_digest[4]? = some (Cond.fieldLink RX5 11 "PartyWill" "rows" "[[I") from rfl))
  have q5 := hts _ (List.mem_of_getElem? (i := 5) (show wsX5_digest[5]? = some (Cond.fieldLink RX5 23 "PartyWill" "textSizes" "[I") from rfl))
  have q6 := hts _ (List.mem_of_getElem? (i := 6) (show wsX5_digest[6]? = some (Cond.fieldLink RX5 20 "PartyWill" "texts" "[[B") from rfl))
  have iX5 : ∀ w ∈ u_ws RX5 TX5 14, w ∈ wsX5_digest := fun w h => List.mem_cons_of_mem _ (List.mem_append_left _ (List.mem_append_left _ (List.mem_append_right _ (h))))
  obtain ⟨ls, hl, e0⟩ := my_entry (m := m) (n := 5) ha (Nat.le_of_ble_eq_true rfl)
  rw [e0]
  have hl : lv_has ls 5 [(0, .ref (ad 0))] := hl
  have key : ∀ Q : State → Prop, (∀ (pc : Nat) (ls : Array Slot), decode cX5_digest pc = .ok (.lreturn, 1) → W p l e ({ frames := 4, cells := 0, slots := 0, locals := 92 } : Room) s m args below meth c s.heap [] 0 0 Q (F0 m pc ls [.long r])) → W p l e ({ frames := 4, cells := 0, slots := 0, locals := 92 } : Room) s m args below meth c s.heap [] 0 0 Q (F0 m 0 ls []) := by
    intro Q hret
    have l104 : ∀ nu : Nat, ∀ x1 : Int64, ∀ x3 : Int32, fX5_digest_l104 F rs rm ts tm psize pclause peff pkin psig psee cdee cnow kdee nu x1 x3 = some (r) → ∀ (ls : Array Slot), lv_has ls 5 [(0, .ref (ad 0)), (1, .long x1), (3, .int x3)] → W p l e ({ frames := 4, cells := 0, slots := 0, locals := 92 } : Room) s m args below meth c s.heap [] 0 0 Q (F0 m 104 ls []) := by
      intro nu
      induction nu with
      | zero => intro x1 x3 h; exact none_some h
      | succ nu104 ih104 =>
        intro x1 x3 h ls hl
        have l126 : ∀ x3 : Int32, ∀ nu : Nat, ∀ x1 : Int64, ∀ x4 : Int32, fX5_digest_l126 F (fX5_digest_l104 F rs rm ts tm psize pclause peff pkin psig psee cdee cnow kdee nu104) rs rm ts tm psize pclause peff pkin psig psee cdee cnow kdee x3 nu x1 x4 = some (r) → ∀ (ls : Array Slot), lv_has ls 5 [(0, .ref (ad 0)), (1, .long x1), (3, .int x3), (4, .int x4)] → W p l e ({ frames := 4, cells := 0, slots := 0, locals := 92 } : Room) s m args below meth c s.heap [] 0 0 Q (F0 m 126 ls []) := by
          intro x3
          intro nu
          induction nu with
          | zero => intro x1 x4 h; exact none_some h
          | succ nu126 ih126 =>
            intro x1 x4 h ls hl
            have h : fX5_digest_l126_b F (fX5_digest_l104 F rs rm ts tm psize pclause peff pkin psig psee cdee cnow kdee nu104) rs rm ts tm psize pclause peff pkin psig psee cdee cnow kdee x3 (fX5_digest_l126 F (fX5_digest_l104 F rs rm ts tm psize pclause peff pkin psig psee cdee cnow kdee nu104) rs rm ts tm psize pclause peff pkin psig psee cdee cnow kdee x3 nu126) x1 x4 = some (r) := h
            unfold fX5_digest_l126_b at h
            refine lv_iload hx hb dX5_digest_126 (lv_at hl 3 rfl) ?_
            refine lv_aload_n hx hb dX5_digest_128 rfl (lv_at hl 0 rfl) ?_
            refine va_get (D := D) (ci := 3) (C := RX5) (T := TX5) (N := 14) hx hb hts iX5 hown hK hP 0 wPW_0 rfl 3 (by decide) q5 (fun _ h9 => h9) rfl dX5_digest_129 ?_
            refine lv_iload_n hx hb dX5_digest_132 rfl (lv_at hl 2 rfl) ?_
            obtain ⟨hin1, h⟩ := ck_some h
            refine va_iald hx hb hK hP 4 0 wPW_4 rfl hin1 dX5_digest_133 ?_
            refine lv_icmp_ge (tgt := 160) hx hb dX5_digest_134 (by decide) (fun c134 => ?_) (fun c134 => ?_)
            · have h := br_1 h c134
              refine lv_iinc (v := (x3 + (1 : Int32))) (lv' := [(3, .int (x3 + (1 : Int32))), (0, .ref (ad 0)), (1, .long x1), (4, .int x4)]) hx hb dX5_digest_160 hl (k := 2) rfl rfl (by decide) rfl (fun ls hl => ?_)
              refine lv_goto (tgt := 104) hx hb dX5_digest_163 (by decide) ?_
              exact ih104 x1 (x3 + (1 : Int32)) h _ (lv_sub hl [1, 2, 0] rfl)
            · have h := br_0 h c134
              refine lv_ldc2 (v := (31 : Int64)) hx hb hown q2 dX5_digest_137 ?_
              refine lv_lload_n hx hb dX5_digest_140 rfl (lv_at hl 1 rfl) ?_
              refine lv_lmul hx hb dX5_digest_141 ?_
              refine lv_aload_n hx hb dX5_digest_142 rfl (lv_at hl 0 rfl) ?_
              refine va_get (D := D) (ci := 3) (C := RX5) (T := TX5) (N := 14) hx hb hts iX5 hown hK hP 0 wPW_0 rfl 2 (by decide) q6 (fun _ h9 => h9) rfl dX5_digest_143 ?_
              refine lv_iload_n hx hb dX5_digest_146 rfl (lv_at hl 2 rfl) ?_
              obtain ⟨hin3, h⟩ := ck_some h
              have hk2 : x3.toNatClampNeg < 4 := vp_lt hin3
              refine my_ald (b := (ad (34 + x3.toNatClampNeg))) rfl hx hb hK hP 3 5 wPW_3 rfl hin3 (fun _ => if_pos hk2) dX5_digest_147 ?_
              refine lv_iload hx hb dX5_digest_148 (lv_at hl 3 rfl) ?_
              obtain ⟨hin4, h⟩ := ck_some h
              refine va_bald hx hb hK hP (34 + x3.toNatClampNeg) 1 (wPW_f_texts0 hk2) rfl hin4 dX5_digest_150 ?_
              refine lv_i2l (v := (((tm x3.toNatClampNeg) x4.toNatClampNeg).toInt64)) hx hb dX5_digest_151 rfl ?_
              refine lv_ladd hx hb dX5_digest_152 ?_
              refine lv_lstore_n (lv' := [(1, .long (((31 : Int64) * x1) + (((tm x3.toNatClampNeg) x4.toNatClampNeg).toInt64))), (0, .ref (ad 0)), (3, .int x3), (4, .int x4)]) hx hb dX5_digest_153 rfl hl (by decide) rfl (fun ls hl => ?_)
              refine lv_iinc (v := (x4 + (1 : Int32))) (lv' := [(4, .int (x4 + (1 : Int32))), (1, .long (((31 : Int64) * x1) + (((tm x3.toNatClampNeg) x4.toNatClampNeg).toInt64))), (0, .ref (ad 0)), (3, .int x3)]) hx hb dX5_digest_154 hl (k := 3) rfl rfl (by decide) rfl (fun ls hl => ?_)
              refine lv_goto (tgt := 126) hx hb dX5_digest_157 (by decide) ?_
              exact ih126 (((31 : Int64) * x1) + (((tm x3.toNatClampNeg) x4.toNatClampNeg).toInt64)) (x4 + (1 : Int32)) h _ (lv_sub hl [2, 1, 3, 0] rfl)
        have h : fX5_digest_l104_b F rs rm ts tm psize pclause peff pkin psig psee cdee cnow kdee (fX5_digest_l104 F rs rm ts tm psize pclause peff pkin psig psee cdee cnow kdee nu104) x1 x3 = some (r) := h
        unfold fX5_digest_l104_b at h
        refine lv_iload_n hx hb dX5_digest_104 rfl (lv_at hl 2 rfl) ?_
        refine lv_iconst (v := (4 : Int32)) hx hb dX5_digest_105 (by decide) ?_
        refine lv_icmp_ge (tgt := 166) hx hb dX5_digest_106 (by decide) (fun c106 => ?_) (fun c106 => ?_)
        · have h := br_1 h c106
          refine lv_lload_n hx hb dX5_digest_166 rfl (lv_at hl 1 rfl) ?_
          cases h
          exact hret _ _ dX5_digest_167
        · have h := br_0 h c106
          refine lv_ldc2 (v := (31 : Int64)) hx hb hown q2 dX5_digest_109 ?_
          refine lv_lload_n hx hb dX5_digest_112 rfl (lv_at hl 1 rfl) ?_
          refine lv_lmul hx hb dX5_digest_113 ?_
          refine lv_aload_n hx hb dX5_digest_114 rfl (lv_at hl 0 rfl) ?_
          refine va_get (D := D) (ci := 3) (C := RX5) (T := TX5) (N := 14) hx hb hts iX5 hown hK hP 0 wPW_0 rfl 3 (by decide) q5 (fun _ h9 => h9) rfl dX5_digest_115 ?_
          refine lv_iload_n hx hb dX5_digest_118 rfl (lv_at hl 2 rfl) ?_
          obtain ⟨hin5, h⟩ := ck_some h
          refine va_iald hx hb hK hP 4 0 wPW_4 rfl hin5 dX5_digest_119 ?_
          refine lv_i2l (v := ((ts x3.toNatClampNeg).toInt64)) hx hb dX5_digest_120 rfl ?_
          refine lv_ladd hx hb dX5_digest_121 ?_
          refine lv_lstore_n (lv' := [(1, .long (((31 : Int64) * x1) + ((ts x3.toNatClampNeg).toInt64))), (0, .ref (ad 0)), (3, .int x3)]) hx hb dX5_digest_122 rfl hl (by decide) rfl (fun ls hl => ?_)
          refine lv_iconst (v := (0 : Int32)) hx hb dX5_digest_123 (by decide) ?_
          refine lv_istore (lv' := [(4, .int (0 : Int32)), (1, .long (((31 : Int64) * x1) + ((ts x3.toNatClampNeg).toInt64))), (0, .ref (ad 0)), (3, .int x3)]) hx hb dX5_digest_124 hl (by decide) rfl (fun ls hl => ?_)
          exact l126 x3 F (((31 : Int64) * x1) + ((ts x3.toNatClampNeg).toInt64)) (0 : Int32) h _ (lv_sub hl [2, 1, 3, 0] rfl)
    have l39 : ∀ nu : Nat, ∀ x1 : Int64, ∀ x3 : Int32, fX5_digest_l39 F rs rm ts tm psize pclause peff pkin psig psee cdee cnow kdee nu x1 x3 = some (r) → ∀ (ls : Array Slot), lv_has ls 5 [(0, .ref (ad 0)), (1, .long x1), (3, .int x3)] → W p l e ({ frames := 4, cells := 0, slots := 0, locals := 92 } : Room) s m args below meth c s.heap [] 0 0 Q (F0 m 39 ls []) := by
      intro nu
      induction nu with
      | zero => intro x1 x3 h; exact none_some h
      | succ nu39 ih39 =>
        intro x1 x3 h ls hl
        have l62 : ∀ x3 : Int32, ∀ nu : Nat, ∀ x1 : Int64, ∀ x4 : Int32, fX5_digest_l62 F (fX5_digest_l39 F rs rm ts tm psize pclause peff pkin psig psee cdee cnow kdee nu39) rs rm ts tm psize pclause peff pkin psig psee cdee cnow kdee x3 nu x1 x4 = some (r) → ∀ (ls : Array Slot), lv_has ls 5 [(0, .ref (ad 0)), (1, .long x1), (3, .int x3), (4, .int x4)] → W p l e ({ frames := 4, cells := 0, slots := 0, locals := 92 } : Room) s m args below meth c s.heap [] 0 0 Q (F0 m 62 ls []) := by
          intro x3
          intro nu
          induction nu with
          | zero => intro x1 x4 h; exact none_some h
          | succ nu62 ih62 =>
            intro x1 x4 h ls hl
            have h : fX5_digest_l62_b F (fX5_digest_l39 F rs rm ts tm psize pclause peff pkin psig psee cdee cnow kdee nu39) rs rm ts tm psize pclause peff pkin psig psee cdee cnow kdee x3 (fX5_digest_l62 F (fX5_digest_l39 F rs rm ts tm psize pclause peff pkin psig psee cdee cnow kdee nu39) rs rm ts tm psize pclause peff pkin psig psee cdee cnow kdee x3 nu62) x1 x4 = some (r) := h
            unfold fX5_digest_l62_b at h
            refine lv_iload hx hb dX5_digest_62 (lv_at hl 3 rfl) ?_
            refine lv_aload_n hx hb dX5_digest_64 rfl (lv_at hl 0 rfl) ?_
            refine va_get (D := D) (ci := 3) (C := RX5) (T := TX5) (N := 14) hx hb hts iX5 hown hK hP 0 wPW_0 rfl 1 (by decide) q3 (fun _ h9 => h9) rfl dX5_digest_65 ?_
            refine lv_iload_n hx hb dX5_digest_68 rfl (lv_at hl 2 rfl) ?_
            obtain ⟨hin6, h⟩ := ck_some h
            refine va_iald hx hb hK hP 2 0 wPW_2 rfl hin6 dX5_digest_69 ?_
            refine lv_icmp_ge (tgt := 96) hx hb dX5_digest_70 (by decide) (fun c70 => ?_) (fun c70 => ?_)
            · have h := br_1 h c70
              refine lv_iinc (v := (x3 + (1 : Int32))) (lv' := [(3, .int (x3 + (1 : Int32))), (0, .ref (ad 0)), (1, .long x1), (4, .int x4)]) hx hb dX5_digest_96 hl (k := 2) rfl rfl (by decide) rfl (fun ls hl => ?_)
              refine lv_goto (tgt := 39) hx hb dX5_digest_99 (by decide) ?_
              exact ih39 x1 (x3 + (1 : Int32)) h _ (lv_sub hl [1, 2, 0] rfl)
            · have h := br_0 h c70
              refine lv_ldc2 (v := (31 : Int64)) hx hb hown q2 dX5_digest_73 ?_
              refine lv_lload_n hx hb dX5_digest_76 rfl (lv_at hl 1 rfl) ?_
              refine lv_lmul hx hb dX5_digest_77 ?_
              refine lv_aload_n hx hb dX5_digest_78 rfl (lv_at hl 0 rfl) ?_
              refine va_get (D := D) (ci := 3) (C := RX5) (T := TX5) (N := 14) hx hb hts iX5 hown hK hP 0 wPW_0 rfl 0 (by decide) q4 (fun _ h9 => h9) rfl dX5_digest_79 ?_
              refine lv_iload_n hx hb dX5_digest_82 rfl (lv_at hl 2 rfl) ?_
              obtain ⟨hin8, h⟩ := ck_some h
              have hk7 : x3.toNatClampNeg < 6 := vp_lt hin8
              refine my_ald (b := (ad (28 + x3.toNatClampNeg))) rfl hx hb hK hP 1 4 wPW_1 rfl hin8 (fun _ => if_pos hk7) dX5_digest_83 ?_
              refine lv_iload hx hb dX5_digest_84 (lv_at hl 3 rfl) ?_
              obtain ⟨hin9, h⟩ := ck_some h
              refine va_iald hx hb hK hP (28 + x3.toNatClampNeg) 0 (wPW_f_rows0 hk7) rfl hin9 dX5_digest_86 ?_
              refine lv_i2l (v := (((rm x3.toNatClampNeg) x4.toNatClampNeg).toInt64)) hx hb dX5_digest_87 rfl ?_
              refine lv_ladd hx hb dX5_digest_88 ?_
              refine lv_lstore_n (lv' := [(1, .long (((31 : Int64) * x1) + (((rm x3.toNatClampNeg) x4.toNatClampNeg).toInt64))), (0, .ref (ad 0)), (3, .int x3), (4, .int x4)]) hx hb dX5_digest_89 rfl hl (by decide) rfl (fun ls hl => ?_)
              refine lv_iinc (v := (x4 + (1 : Int32))) (lv' := [(4, .int (x4 + (1 : Int32))), (1, .long (((31 : Int64) * x1) + (((rm x3.toNatClampNeg) x4.toNatClampNeg).toInt64))), (0, .ref (ad 0)), (3, .int x3)]) hx hb dX5_digest_90 hl (k := 3) rfl rfl (by decide) rfl (fun ls hl => ?_)
              refine lv_goto (tgt := 62) hx hb dX5_digest_93 (by decide) ?_
              exact ih62 (((31 : Int64) * x1) + (((rm x3.toNatClampNeg) x4.toNatClampNeg).toInt64)) (x4 + (1 : Int32)) h _ (lv_sub hl [2, 1, 3, 0] rfl)
        have h : fX5_digest_l39_b F rs rm ts tm psize pclause peff pkin psig psee cdee cnow kdee (fX5_digest_l39 F rs rm ts tm psize pclause peff pkin psig psee cdee cnow kdee nu39) x1 x3 = some (r) := h
        unfold fX5_digest_l39_b at h
        refine lv_iload_n hx hb dX5_digest_39 rfl (lv_at hl 2 rfl) ?_
        refine lv_bipush (v := (6 : Int32)) hx hb dX5_digest_40 (by decide) ?_
        refine lv_icmp_ge (tgt := 102) hx hb dX5_digest_42 (by decide) (fun c42 => ?_) (fun c42 => ?_)
        · have h := br_1 h c42
          refine lv_iconst (v := (0 : Int32)) hx hb dX5_digest_102 (by decide) ?_
          refine lv_istore_n (lv' := [(3, .int (0 : Int32)), (0, .ref (ad 0)), (1, .long x1)]) hx hb dX5_digest_103 rfl hl (by decide) rfl (fun ls hl => ?_)
          exact l104 F x1 (0 : Int32) h _ (lv_sub hl [1, 2, 0] rfl)
        · have h := br_0 h c42
          refine lv_ldc2 (v := (31 : Int64)) hx hb hown q2 dX5_digest_45 ?_
          refine lv_lload_n hx hb dX5_digest_48 rfl (lv_at hl 1 rfl) ?_
          refine lv_lmul hx hb dX5_digest_49 ?_
          refine lv_aload_n hx hb dX5_digest_50 rfl (lv_at hl 0 rfl) ?_
          refine va_get (D := D) (ci := 3) (C := RX5) (T := TX5) (N := 14) hx hb hts iX5 hown hK hP 0 wPW_0 rfl 1 (by decide) q3 (fun _ h9 => h9) rfl dX5_digest_51 ?_
          refine lv_iload_n hx hb dX5_digest_54 rfl (lv_at hl 2 rfl) ?_
          obtain ⟨hin10, h⟩ := ck_some h
          refine va_iald hx hb hK hP 2 0 wPW_2 rfl hin10 dX5_digest_55 ?_
          refine lv_i2l (v := ((rs x3.toNatClampNeg).toInt64)) hx hb dX5_digest_56 rfl ?_
          refine lv_ladd hx hb dX5_digest_57 ?_
          refine lv_lstore_n (lv' := [(1, .long (((31 : Int64) * x1) + ((rs x3.toNatClampNeg).toInt64))), (0, .ref (ad 0)), (3, .int x3)]) hx hb dX5_digest_58 rfl hl (by decide) rfl (fun ls hl => ?_)
          refine lv_iconst (v := (0 : Int32)) hx hb dX5_digest_59 (by decide) ?_
          refine lv_istore (lv' := [(4, .int (0 : Int32)), (1, .long (((31 : Int64) * x1) + ((rs x3.toNatClampNeg).toInt64))), (0, .ref (ad 0)), (3, .int x3)]) hx hb dX5_digest_60 hl (by decide) rfl (fun ls hl => ?_)
          exact l62 x3 F (((31 : Int64) * x1) + ((rs x3.toNatClampNeg).toInt64)) (0 : Int32) h _ (lv_sub hl [2, 1, 3, 0] rfl)
    have l6 : ∀ nu : Nat, ∀ x1 : Int64, ∀ x3 : Int32, fX5_digest_l6 F rs rm ts tm psize pclause peff pkin psig psee cdee cnow kdee nu x1 x3 = some (r) → ∀ (ls : Array Slot), lv_has ls 5 [(0, .ref (ad 0)), (1, .long x1), (3, .int x3)] → W p l e ({ frames := 4, cells := 0, slots := 0, locals := 92 } : Room) s m args below meth c s.heap [] 0 0 Q (F0 m 6 ls []) := by
      intro nu
      induction nu with
      | zero => intro x1 x3 h; exact none_some h
      | succ nu6 ih6 =>
        intro x1 x3 h ls hl
        have h : fX5_digest_l6_b F rs rm ts tm psize pclause peff pkin psig psee cdee cnow kdee (fX5_digest_l6 F rs rm ts tm psize pclause peff pkin psig psee cdee cnow kdee nu6) x1 x3 = some (r) := h
        unfold fX5_digest_l6_b at h
        refine lv_iload_n hx hb dX5_digest_6 rfl (lv_at hl 2 rfl) ?_
        refine lv_bipush (v := (9 : Int32)) hx hb dX5_digest_7 (by decide) ?_
        refine lv_icmp_gt (tgt := 31) hx hb dX5_digest_9 (by decide) (fun c9 => ?_) (fun c9 => ?_)
        · have h := br_1 h c9
          refine lv_aload_n hx hb dX5_digest_31 rfl (lv_at hl 0 rfl) ?_
          refine lv_lload_n hx hb dX5_digest_32 rfl (lv_at hl 1 rfl) ?_
          obtain ⟨r33, hc, h⟩ := bd1_some h
          refine my_rol (va_Run.run (va_runV (As := [.long x1]) (rest := []) hFix (kX5_digestParty l D T F ad (ad 6) (ad 12) rs rm ts tm rdue rtun rsee rbeg psize pclause peff pkin pgri psig psee qsize qclause qeff qkin qgri qsig qsee cdee cnow cahe kdee know kahe fc lf told up lo x1 r33 hc) (cwV 1 hts gX5_digest_X5_digestParty rfl rfl rfl ⟨rfl, hd_X5_digestParty⟩ ⟨Nat.le_of_ble_eq_true rfl, Nat.le_of_ble_eq_true rfl⟩) (preV_ro hP hKK (va_recv hK hP (ci := 3) (q0 := 0) rfl wPW_0)) rfl rfl hl.1 rfl (lv_room (Nat.le_of_ble_eq_true rfl)) dX5_digest_33 ⟨Nat.zero_le _, Nat.zero_le _⟩)) ?_
          refine lv_lstore_n (lv' := [(1, .long r33), (0, .ref (ad 0)), (3, .int x3)]) hx hb dX5_digest_36 rfl hl (by decide) rfl (fun ls hl => ?_)
          refine lv_iconst (v := (0 : Int32)) hx hb dX5_digest_37 (by decide) ?_
          refine lv_istore_n (lv' := [(3, .int (0 : Int32)), (1, .long r33), (0, .ref (ad 0))]) hx hb dX5_digest_38 rfl hl (by decide) rfl (fun ls hl => ?_)
          exact l39 F r33 (0 : Int32) h _ (lv_sub hl [2, 1, 0] rfl)
        · have h := br_0 h c9
          refine lv_ldc2 (v := (31 : Int64)) hx hb hown q2 dX5_digest_12 ?_
          refine lv_lload_n hx hb dX5_digest_15 rfl (lv_at hl 1 rfl) ?_
          refine lv_lmul hx hb dX5_digest_16 ?_
          refine lv_aload_n hx hb dX5_digest_17 rfl (lv_at hl 0 rfl) ?_
          refine lv_iload_n hx hb dX5_digest_18 rfl (lv_at hl 2 rfl) ?_
          obtain ⟨r19, hc, h⟩ := bd1_some h
          refine my_roi (va_Run.run (va_runV (As := [.int x3]) (rest := [.long ((31 : Int64) * x1)]) hFix (kX5_count l D T F ad (ad 6) (ad 12) rs rm ts tm rdue rtun rsee rbeg psize pclause peff pkin pgri psig psee qsize qclause qeff qkin qgri qsig qsee cdee cnow cahe kdee know kahe fc lf told up lo x3 r19 hc) (cwV 1 hts gX5_digest_X5_count rfl rfl rfl ⟨rfl, hd_X5_count⟩ ⟨Nat.le_of_ble_eq_true rfl, Nat.le_of_ble_eq_true rfl⟩) (preV_ro hP hKK (va_recv hK hP (ci := 3) (q0 := 0) rfl wPW_0)) rfl rfl hl.1 rfl (lv_room (Nat.le_of_ble_eq_true rfl)) dX5_digest_19 ⟨Nat.zero_le _, Nat.zero_le _⟩)) ?_
          refine lv_i2l (v := (r19.toInt64)) hx hb dX5_digest_22 rfl ?_
          refine lv_ladd hx hb dX5_digest_23 ?_
          refine lv_lstore_n (lv' := [(1, .long (((31 : Int64) * x1) + (r19.toInt64))), (0, .ref (ad 0)), (3, .int x3)]) hx hb dX5_digest_24 rfl hl (by decide) rfl (fun ls hl => ?_)
          refine lv_iinc (v := (x3 + (1 : Int32))) (lv' := [(3, .int (x3 + (1 : Int32))), (1, .long (((31 : Int64) * x1) + (r19.toInt64))), (0, .ref (ad 0))]) hx hb dX5_digest_25 hl (k := 2) rfl rfl (by decide) rfl (fun ls hl => ?_)
          refine lv_goto (tgt := 6) hx hb dX5_digest_28 (by decide) ?_
          exact ih6 (((31 : Int64) * x1) + (r19.toInt64)) (x3 + (1 : Int32)) h _ (lv_sub hl [2, 1, 0] rfl)
    unfold fX5_digest at h
    refine lv_ldc2 (v := (17 : Int64)) hx hb hown q1 dX5_digest_0 ?_
    refine lv_lstore_n (lv' := [(1, .long (17 : Int64)), (0, .ref (ad 0))]) hx hb dX5_digest_3 rfl hl (by decide) rfl (fun ls hl => ?_)
    refine lv_iconst (v := (0 : Int32)) hx hb dX5_digest_4 (by decide) ?_
    refine lv_istore_n (lv' := [(3, .int (0 : Int32)), (1, .long (17 : Int64)), (0, .ref (ad 0))]) hx hb dX5_digest_5 rfl hl (by decide) rfl (fun ls hl => ?_)
    exact l6 F (17 : Int64) (0 : Int32) h _ (lv_sub hl [2, 1, 0] rfl)
  exact key _ (fun pc ls hd => W.lret hx hb hr (fun t ht hW => ⟨_, rfl, rfl, ht⟩) (fun q h => by cases h) hd)
