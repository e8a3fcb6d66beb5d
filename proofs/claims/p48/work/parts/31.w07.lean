set_option maxHeartbeats 4000000 in
set_option maxRecDepth 100000 in
theorem kX5_falls (l : Launch) (D : va_G) (T : Nat → ClassId) (F : Nat) (ad : Nat → Nat) (rs : Nat → Int32) (rm : Nat → Nat → Int32) (ts : Nat → Int32) (tm : Nat → Nat → Int32) (rdue : Int32) (rtun : Int32) (rsee : Int32) (rbeg : Int32) (psize : Int32) (pclause : Int32) (peff : Nat → Int32) (pkin : Nat → Int32) (pgri : Nat → Int32) (psig : Nat → Int32) (psee : Nat → Int32) (qsize : Int32) (qclause : Int32) (qeff : Nat → Int32) (qkin : Nat → Int32) (qgri : Nat → Int32) (qsig : Nat → Int32) (qsee : Nat → Int32) (cdee : Int32) (cnow : Int64) (cahe : Nat → Int64) (kdee : Nat → Int32) (know : Nat → Int64) (kahe : Nat → Nat → Int64) (fc : Nat → Int32) (lf : Int32) (told : Int32) (up : Int64) (lo : Int64) (x1 : Int32) (r : Int32) (zfc : Nat → Int32) (zlf : Int32) (ztold : Int32) (h : fX5_falls F rs rm psize pclause peff pkin psee cnow fc lf told x1 = some (r, zfc, zlf, ztold)) : ∀ sz : Nat, Met l yX5_falls wsX5_falls ({ frames := 4, cells := 0, slots := 0, locals := 102 } : Room) (va_Pc [.ref (ad 0), .int x1] (fun U => U.heap.size = sz ∧ va_P D vwCl (wPW T ad (ad 6) (ad 12) rs rm ts tm rdue rtun rsee rbeg psize pclause peff pkin pgri psig psee qsize qclause qeff qkin qgri qsig qsee cdee cnow cahe kdee know kahe fc lf told up lo) U.heap ∧ KK D T U ∧ va_D (fun _ => True) (wPW T ad (ad 6) (ad 12) rs rm ts tm rdue rtun rsee rbeg psize pclause peff pkin pgri psig psee qsize qclause qeff qkin qgri qsig qsee cdee cnow cahe kdee know kahe fc lf told up lo))) (va_Qi (fun r' (_ : Unit) => r' = r) (fun _ t => va_P D vwCl (wPW T ad (ad 6) (ad 12) rs rm ts tm rdue rtun rsee rbeg psize pclause peff pkin pgri psig psee qsize qclause qeff qkin qgri qsig qsee cdee cnow cahe kdee know kahe zfc zlf ztold up lo) t.heap ∧ va_D (va_A (wPW T ad (ad 6) (ad 12) rs rm ts tm rdue rtun rsee rbeg psize pclause peff pkin pgri psig psee qsize qclause qeff qkin qgri qsig qsee cdee cnow cahe kdee know kahe fc lf told up lo) sz) (wPW T ad (ad 6) (ad 12) rs rm ts tm rdue rtun rsee rbeg psize pclause peff pkin pgri psig psee qsize qclause qeff qkin qgri qsig qsee cdee cnow cahe kdee know kahe zfc zlf ztold up lo)) (va_A (wPW T ad (ad 6) (ad 12) rs rm ts tm rdue rtun rsee rbeg psize pclause peff pkin pgri psig psee qsize qclause qeff qkin qgri qsig qsee cdee cnow cahe kdee know kahe fc lf told up lo) sz)) 0 0 (va_A (wPW T ad (ad 6) (ad 12) rs rm ts tm rdue rtun rsee rbeg psize pclause peff pkin pgri psig psee qsize qclause qeff qkin qgri qsig qsee cdee cnow cahe kdee know kahe fc lf told up lo) sz) := by
  intro sz
  refine Met.ofW (cc := cX5_falls) (maxL := 8) (ret := some .int) (by decide) rfl ?_
  intro p e s m args below meth c s₁ B hml hv
  obtain ⟨ha, hsz, hP, hKK, hD0⟩ := hv
  have hx := B.exec
  have hb := B.bytes
  have hr := B.returns
  have hts := atoms_spec (ws := wsX5_falls) B.pre
  have hown : s.vm.findClass RX5 = some m.cls := findClass_of_methodNamed B.named
  have hlocks := B.notSynchronized
  have hK := hKK.1
  have hFix : CallFix p m c cX5_falls 8 s args wsX5_falls RX5 := ⟨hx, hb, hml, hown, hts⟩
  have q1 := hts _ (List.mem_of_getElem? (i := 1) (show wsX5_falls[1]? = some (Cond.fieldLink RX5 46 "PartyWill" "course" "LPartyWill$Course;") from rfl))
  have q2 := hts _ (List.mem_of_getElem? (i := 2) (show wsX5_falls[2]? = some (Cond.fieldLink RX5 14 "PartyWill" "rowSizes" "[I") from rfl))
  have q3 := hts _ (List.mem_of_getElem? (i := 3) (show wsX5_falls[3]? = some (Cond.fieldLink RX5 36 "PartyWill" "party" "LPartyWill$Party;") from rfl))
  have q4 := hts _ (List.mem_of_getElem? (i := 4) (show wsX5_falls[4]? = some (Cond.fieldLink RX5 11 "PartyWill" "rows" "[[I") from rfl))
  have q5 := hts _ (List.mem_of_getElem? (i := 5) (show wsX5_falls[5]? = some (Cond.fieldLink RX5 61 "PartyWill" "told" "I") from rfl))
  have q23 := hts _ (List.mem_of_getElem? (i := 23) (show wsX5_falls[23]? = some (Cond.instanceMethod yX2_afterTune) from rfl))
  have q24 := hts _ (List.mem_of_getElem? (i := 24) (show wsX5_falls[24]? = some (Cond.initialized RX2) from rfl))
  have q25 := hts _ (List.mem_of_getElem? (i := 25) (show wsX5_falls[25]? = some (Cond.selects RX2 yX2_afterTune yX2_afterTune) from rfl))
  have q31 := hts _ (List.mem_of_getElem? (i := 31) (show wsX5_falls[31]? = some (Cond.initialized RX1) from rfl))
  have q63 := hts _ (List.mem_of_getElem? (i := 63) (show wsX5_falls[63]? = some (Cond.static yX1_insiders) from rfl))
  have iX0 : ∀ w ∈ u_ws RX0 TX0 3, w ∈ wsX5_falls := fun w h => List.mem_cons_of_mem _ (List.mem_append_left _ (List.mem_append_right _ (h)))
  have iX5 : ∀ w ∈ u_ws RX5 TX5 14, w ∈ wsX5_falls := fun w h => List.mem_cons_of_mem _ (List.mem_append_left _ (List.mem_append_left _ (List.mem_append_right _ (h))))
  subst hsz
  have hD := hD0.self (sz := s.heap.size)
  generalize hAe : va_A (wPW T ad (ad 6) (ad 12) rs rm ts tm rdue rtun rsee rbeg psize pclause peff pkin pgri psig psee qsize qclause qeff qkin qgri qsig qsee cdee cnow cahe kdee know kahe fc lf told up lo) s.heap.size = A at hD ⊢
  have hA : ∀ q : Nat, s.heap.size ≤ q → A q := fun q h => by rw [← hAe]; exact Or.inr h
  have hS : va_S A s.heap s.heap [] := va_S.rf
  have hP : va_P D vwCl (wPW T ad (ad 6) (ad 12) rs rm ts tm rdue rtun rsee rbeg psize pclause peff pkin pgri psig psee qsize qclause qeff qkin qgri qsig qsee cdee cnow cahe kdee know kahe fc lf told up lo) s.heap := hP
  obtain ⟨ls, hl, e0⟩ := my_entry (m := m) (n := 8) ha (Nat.le_of_ble_eq_true rfl)
  rw [e0]
  have hl : lv_has ls 8 [(0, .ref (ad 0)), (1, .int x1)] := hl
  have key : ∀ Q : State → Prop, (∀ (H : Heap) (locs : List Loc) (pc : Nat) (ls : Array Slot), va_P D vwCl (wPW T ad (ad 6) (ad 12) rs rm ts tm rdue rtun rsee rbeg psize pclause peff pkin pgri psig psee qsize qclause qeff qkin qgri qsig qsee cdee cnow cahe kdee know kahe zfc zlf ztold up lo) H → va_D A (wPW T ad (ad 6) (ad 12) rs rm ts tm rdue rtun rsee rbeg psize pclause peff pkin pgri psig psee qsize qclause qeff qkin qgri qsig qsee cdee cnow cahe kdee know kahe zfc zlf ztold up lo) → va_S A s.heap H locs → decode cX5_falls pc = .ok (.ireturn, 1) → W p l e ({ frames := 4, cells := 0, slots := 0, locals := 102 } : Room) s m args below meth c H locs 0 0 Q (F0 m pc ls [.int r])) → W p l e ({ frames := 4, cells := 0, slots := 0, locals := 102 } : Room) s m args below meth c s.heap [] 0 0 Q (F0 m 0 ls []) := by
    intro Q hret
    skip
    have l36 : ∀ x1 : Int32, ∀ fc : Nat → Int32, ∀ lf : Int32, ∀ told : Int32, ∀ nu : Nat, ∀ x3 : Int64, ∀ x5 : Int32, fX5_falls_l36 F rs rm psize pclause peff pkin psee cnow x1 fc lf told nu x3 x5 = some (r, zfc, zlf, ztold) → ∀ (H : Heap) (locs : List Loc), va_P D vwCl (wPW T ad (ad 6) (ad 12) rs rm ts tm rdue rtun rsee rbeg psize pclause peff pkin pgri psig psee qsize qclause qeff qkin qgri qsig qsee cdee cnow cahe kdee know kahe fc lf told up lo) H → va_D A (wPW T ad (ad 6) (ad 12) rs rm ts tm rdue rtun rsee rbeg psize pclause peff pkin pgri psig psee qsize qclause qeff qkin qgri qsig qsee cdee cnow cahe kdee know kahe fc lf told up lo) → va_S A s.heap H locs → ∀ (ls : Array Slot), lv_has ls 8 [(0, .ref (ad 0)), (1, .int x1), (3, .long x3), (5, .int x5)] → W p l e ({ frames := 4, cells := 0, slots := 0, locals := 102 } : Room) s m args below meth c H locs 0 0 Q (F0 m 36 ls []) := by
      intro x1 fc lf told
      intro nu
      induction nu with
      | zero => intro x3 x5 h; exact none_some h
      | succ nu36 ih36 =>
        intro x3 x5 h H locs hP hD hS ls hl
        have h : fX5_falls_l36_b F rs rm psize pclause peff pkin psee cnow x1 fc lf told (fX5_falls_l36 F rs rm psize pclause peff pkin psee cnow x1 fc lf told nu36) x3 x5 = some (r, zfc, zlf, ztold) := h
        unfold fX5_falls_l36_b at h
        refine lv_iload hx hb dX5_falls_36 (lv_at hl 3 rfl) ?_
        refine lv_aload_n hx hb dX5_falls_38 rfl (lv_at hl 0 rfl) ?_
        refine va_get (D := D) (ci := 3) (C := RX5) (T := TX5) (N := 14) hx hb hts iX5 hown hK hP 0 wPW_0 rfl 1 (by decide) q2 (fun _ h9 => h9) rfl dX5_falls_39 ?_
        refine lv_iload_n hx hb dX5_falls_42 rfl (lv_at hl 1 rfl) ?_
        obtain ⟨hin1, h⟩ := ck_some h
        refine va_iald hx hb hK hP 2 0 wPW_2 rfl hin1 dX5_falls_43 ?_
        refine lv_icmp_ge (tgt := 106) hx hb dX5_falls_44 (by decide) (fun c44 => ?_) (fun c44 => ?_)
        · have h := br_1 h c44
          refine lv_aload_n hx hb dX5_falls_106 rfl (lv_at hl 0 rfl) ?_
          refine lv_iconst (v := (0 : Int32)) hx hb dX5_falls_107 (by decide) ?_
          refine va_put (D := D) (ci := 3) (v := .int (0 : Int32)) (ty := .int) (C := RX5) (T := TX5) (N := 14) hx hb hts iX5 tyX5 tyX5_ok nmX5 hown hK hP hD hS 0 wPW_0 rfl 11 (by decide) q5 (fun _ h9 => h9) rfl (by decide +kernel) rfl rfl (Nat.le_of_ble_eq_true rfl) dX5_falls_108 (fun H locs hP hD hS => ?_)
          have hP : va_P D vwCl (wPW T ad (ad 6) (ad 12) rs rm ts tm rdue rtun rsee rbeg psize pclause peff pkin pgri psig psee qsize qclause qeff qkin qgri qsig qsee cdee cnow cahe kdee know kahe fc lf (0 : Int32) up lo) H := hP
          have hD : va_D A (wPW T ad (ad 6) (ad 12) rs rm ts tm rdue rtun rsee rbeg psize pclause peff pkin pgri psig psee qsize qclause qeff qkin qgri qsig qsee cdee cnow cahe kdee know kahe fc lf (0 : Int32) up lo) := hD
          refine lv_bipush (v := (-9 : Int32)) hx hb dX5_falls_111 (by decide) ?_
          cases h
          exact hret _ _ _ _ hP hD hS dX5_falls_113
        · have h := br_0 h c44
          refine lv_aload_n hx hb dX5_falls_47 rfl (lv_at hl 0 rfl) ?_
          refine va_get (D := D) (ci := 3) (C := RX5) (T := TX5) (N := 14) hx hb hts iX5 hown hK hP 0 wPW_0 rfl 5 (by decide) q3 (fun _ h9 => h9) rfl dX5_falls_48 ?_
          refine lv_lload_n hx hb dX5_falls_51 rfl (lv_at hl 2 rfl) ?_
          refine lv_aload_n hx hb dX5_falls_52 rfl (lv_at hl 0 rfl) ?_
          refine va_get (D := D) (ci := 3) (C := RX5) (T := TX5) (N := 14) hx hb hts iX5 hown hK hP 0 wPW_0 rfl 0 (by decide) q4 (fun _ h9 => h9) rfl dX5_falls_53 ?_
          refine lv_iload_n hx hb dX5_falls_56 rfl (lv_at hl 1 rfl) ?_
          obtain ⟨hin3, h⟩ := ck_some h
          have hk2 : x1.toNatClampNeg < 6 := vp_lt hin3
          refine my_ald (b := (ad (28 + x1.toNatClampNeg))) rfl hx hb hK hP 1 4 wPW_1 rfl hin3 (fun _ => if_pos hk2) dX5_falls_57 ?_
          refine lv_iload hx hb dX5_falls_58 (lv_at hl 3 rfl) ?_
          obtain ⟨hin4, h⟩ := ck_some h
          refine va_iald hx hb hK hP (28 + x1.toNatClampNeg) 0 (wPW_f_rows0 hk2) rfl hin4 dX5_falls_60 ?_
          obtain ⟨r61, hc, h⟩ := bd1_some h
          have hPc : va_P D vwCl (wPa T (ad 6) (ad 7) (ad 8) (ad 9) (ad 10) (ad 11) psize pclause peff pkin pgri psig psee) _ := my_subP sb_wPW_wPa_6to11 hP
          refine my_rol (va_Run.run (va_runVN (host := "PartyWill") (As := [.long x3, .int ((rm x1.toNatClampNeg) x5.toNatClampNeg)]) (rest := []) hFix (kX2_afterTune l D T F (ad 6) (ad 7) (ad 8) (ad 9) (ad 10) (ad 11) psize pclause peff pkin pgri psig psee x3 ((rm x1.toNatClampNeg) x5.toNatClampNeg) r61 hc) ⟨va_cnB 2 hts gX5_falls_X2_afterTune_n162 rfl rfl rfl (nw_X5_162 hKK.2) q24 hd_X2_afterTune ⟨Nat.le_of_ble_eq_true rfl, Nat.le_of_ble_eq_true rfl⟩, q23, q25⟩ (preV_ro hPc hKK (va_recv hK hP (ci := 1) (q0 := 6) rfl wPW_6)) rfl rfl hl.1 rfl (lv_room (Nat.le_of_ble_eq_true rfl)) dX5_falls_61 ⟨Nat.zero_le _, Nat.zero_le _⟩)) ?_
          refine lv_lstore (lv' := [(6, .long r61), (0, .ref (ad 0)), (1, .int x1), (3, .long x3), (5, .int x5)]) hx hb dX5_falls_64 hl (by decide) rfl (fun ls hl => ?_)
          refine lv_lload hx hb dX5_falls_66 (lv_at hl 0 rfl) ?_
          obtain ⟨r68, hc, h⟩ := bd1_some h
          refine my_roi (va_Run.run (va_runSN (host := "PartyWill") (As := [.long r61]) (rest := []) hFix (kX1_insiders l D T F r61 r68 hc) ⟨va_cnB 1 hts gX5_falls_X1_insiders_n158 rfl rfl rfl (nw_X5_158 hKK.2) q31 hd_X1_insiders ⟨Nat.le_of_ble_eq_true rfl, Nat.le_of_ble_eq_true rfl⟩, q63, trivial⟩ (preS_ro va_nil hKK) rfl rfl hl.1 rfl (lv_room (Nat.le_of_ble_eq_true rfl)) dX5_falls_68 ⟨Nat.zero_le _, Nat.zero_le _⟩)) ?_
          refine lv_lload_n hx hb dX5_falls_71 rfl (lv_at hl 3 rfl) ?_
          obtain ⟨r72, hc, h⟩ := bd1_some h
          refine my_roi (va_Run.run (va_runSN (host := "PartyWill") (As := [.long x3]) (rest := [.int r68]) hFix (kX1_insiders l D T F x3 r72 hc) ⟨va_cnB 1 hts gX5_falls_X1_insiders_n158 rfl rfl rfl (nw_X5_158 hKK.2) q31 hd_X1_insiders ⟨Nat.le_of_ble_eq_true rfl, Nat.le_of_ble_eq_true rfl⟩, q63, trivial⟩ (preS_ro va_nil hKK) rfl rfl hl.1 rfl (lv_room (Nat.le_of_ble_eq_true rfl)) dX5_falls_72 ⟨Nat.zero_le _, Nat.zero_le _⟩)) ?_
          refine lv_icmp_eq (tgt := 97) hx hb dX5_falls_75 (by decide) (fun c75 => ?_) (fun c75 => ?_)
          · have h := br_1 h c75
            refine lv_lload hx hb dX5_falls_97 (lv_at hl 0 rfl) ?_
            refine lv_lstore_n (lv' := [(3, .long r61), (6, .long r61), (0, .ref (ad 0)), (1, .int x1), (5, .int x5)]) hx hb dX5_falls_99 rfl hl (by decide) rfl (fun ls hl => ?_)
            refine lv_iinc (v := (x5 + (1 : Int32))) (lv' := [(5, .int (x5 + (1 : Int32))), (3, .long r61), (6, .long r61), (0, .ref (ad 0)), (1, .int x1)]) hx hb dX5_falls_100 hl (k := 4) rfl rfl (by decide) rfl (fun ls hl => ?_)
            refine lv_goto (tgt := 36) hx hb dX5_falls_103 (by decide) ?_
            exact ih36 r61 (x5 + (1 : Int32)) h _ _ hP hD hS _ (lv_sub hl [3, 4, 1, 0] rfl)
          · have h := br_0 h c75
            refine lv_aload_n hx hb dX5_falls_78 rfl (lv_at hl 1 rfl) ?_
            refine lv_lload_n hx hb dX5_falls_79 rfl (lv_at hl 3 rfl) ?_
            obtain ⟨r80, hc, h⟩ := bd1_some h
            refine my_roi (va_Run.run (va_runSN (host := "PartyWill") (As := [.long x3]) (rest := [.ref (ad 0)]) hFix (kX1_insiders l D T F x3 r80 hc) ⟨va_cnB 1 hts gX5_falls_X1_insiders_n158 rfl rfl rfl (nw_X5_158 hKK.2) q31 hd_X1_insiders ⟨Nat.le_of_ble_eq_true rfl, Nat.le_of_ble_eq_true rfl⟩, q63, trivial⟩ (preS_ro va_nil hKK) rfl rfl hl.1 rfl (lv_room (Nat.le_of_ble_eq_true rfl)) dX5_falls_80 ⟨Nat.zero_le _, Nat.zero_le _⟩)) ?_
            refine lv_lload hx hb dX5_falls_83 (lv_at hl 0 rfl) ?_
            obtain ⟨r85, hc, h⟩ := bd1_some h
            refine my_roi (va_Run.run (va_runSN (host := "PartyWill") (As := [.long r61]) (rest := [.int r80, .ref (ad 0)]) hFix (kX1_insiders l D T F r61 r85 hc) ⟨va_cnB 1 hts gX5_falls_X1_insiders_n158 rfl rfl rfl (nw_X5_158 hKK.2) q31 hd_X1_insiders ⟨Nat.le_of_ble_eq_true rfl, Nat.le_of_ble_eq_true rfl⟩, q63, trivial⟩ (preS_ro va_nil hKK) rfl rfl hl.1 rfl (lv_room (Nat.le_of_ble_eq_true rfl)) dX5_falls_85 ⟨Nat.zero_le _, Nat.zero_le _⟩)) ?_
            refine lv_iconst (v := (-1 : Int32)) hx hb dX5_falls_88 (by decide) ?_
            refine lv_ixor hx hb dX5_falls_89 ?_
            refine lv_iand hx hb dX5_falls_90 ?_
            refine va_put (D := D) (ci := 3) (v := .int (r80 &&& (r85 ^^^ (-1 : Int32)))) (ty := .int) (C := RX5) (T := TX5) (N := 14) hx hb hts iX5 tyX5 tyX5_ok nmX5 hown hK hP hD hS 0 wPW_0 rfl 11 (by decide) q5 (fun _ h9 => h9) rfl (by decide +kernel) rfl rfl (Nat.le_of_ble_eq_true rfl) dX5_falls_91 (fun H locs hP hD hS => ?_)
            have hP : va_P D vwCl (wPW T ad (ad 6) (ad 12) rs rm ts tm rdue rtun rsee rbeg psize pclause peff pkin pgri psig psee qsize qclause qeff qkin qgri qsig qsee cdee cnow cahe kdee know kahe fc lf (r80 &&& (r85 ^^^ (-1 : Int32))) up lo) H := hP
            have hD : va_D A (wPW T ad (ad 6) (ad 12) rs rm ts tm rdue rtun rsee rbeg psize pclause peff pkin pgri psig psee qsize qclause qeff qkin qgri qsig qsee cdee cnow cahe kdee know kahe fc lf (r80 &&& (r85 ^^^ (-1 : Int32))) up lo) := hD
            refine lv_iload hx hb dX5_falls_94 (lv_at hl 4 rfl) ?_
            cases h
            exact hret _ _ _ _ hP hD hS dX5_falls_96
    unfold fX5_falls at h
    refine lv_iload_n hx hb dX5_falls_0 rfl (lv_at hl 1 rfl) ?_
    obtain ⟨r1, hc, h⟩ := bd1_some h
    refine my_roz (va_Run.run (va_runS (As := [.int x1]) (rest := []) hFix (kX5_isRow l D T F x1 r1 hc) (va_cwS 1 hts gX5_falls_X5_isRow rfl rfl rfl hd_X5_isRow ⟨Nat.le_of_ble_eq_true rfl, Nat.le_of_ble_eq_true rfl⟩) (preS_ro va_nil hKK) rfl rfl hl.1 rfl (lv_room (Nat.le_of_ble_eq_true rfl)) dX5_falls_1 ⟨Nat.zero_le _, Nat.zero_le _⟩)) (fun hb1 => ?_)
    refine lv_if_ne (tgt := 9) hx hb dX5_falls_4 (by decide) (fun c4 => ?_) (fun c4 => ?_)
    · have h := br_0 h c4
      refine lv_aload_n hx hb dX5_falls_9 rfl (lv_at hl 0 rfl) ?_
      refine lv_iload_n hx hb dX5_falls_10 rfl (lv_at hl 1 rfl) ?_
      obtain ⟨r11, hc, h⟩ := bd1_some h
      refine my_roi (va_Run.run (va_runV (As := [.int x1]) (rest := []) hFix (kX5_programmeFinding l D T F ad rs rm ts tm rdue rtun rsee rbeg psize pclause peff pkin pgri psig psee qsize qclause qeff qkin qgri qsig qsee cdee cnow cahe kdee know kahe fc lf told up lo x1 r11 hc) (cwV 1 hts gX5_falls_X5_programmeFinding rfl rfl rfl ⟨rfl, hd_X5_programmeFinding⟩ ⟨Nat.le_of_ble_eq_true rfl, Nat.le_of_ble_eq_true rfl⟩) (preV_ro hP hKK (va_recv hK hP (ci := 3) (q0 := 0) rfl wPW_0)) rfl rfl hl.1 rfl (lv_room (Nat.le_of_ble_eq_true rfl)) dX5_falls_11 ⟨Nat.zero_le _, Nat.zero_le _⟩)) ?_
      refine lv_istore_n (lv' := [(2, .int r11), (0, .ref (ad 0)), (1, .int x1)]) hx hb dX5_falls_14 rfl hl (by decide) rfl (fun ls hl => ?_)
      refine lv_iload_n hx hb dX5_falls_15 rfl (lv_at hl 0 rfl) ?_
      refine lv_if_eq (tgt := 25) hx hb dX5_falls_16 (by decide) (fun c16 => ?_) (fun c16 => ?_)
      · have h := br_1 h c16
        refine lv_aload_n hx hb dX5_falls_25 rfl (lv_at hl 1 rfl) ?_
        refine va_get (D := D) (ci := 3) (C := RX5) (T := TX5) (N := 14) hx hb hts iX5 hown hK hP 0 wPW_0 rfl 7 (by decide) q1 (fun _ h9 => h9) rfl dX5_falls_26 ?_
        refine va_getN (host := "PartyWill") (D := D) (ci := 0) (C := RX0) (T := TX0) (N := 3) hx hb hts iX0 hown hK hP 18 wPW_18 rfl 1 (by decide) (va_Nw.use rfl (nw_X5_127 hKK.2)) (fun _ h9 => h9) rfl dX5_falls_29 ?_
        refine lv_lstore_n (lv' := [(3, .long cnow), (2, .int r11), (0, .ref (ad 0)), (1, .int x1)]) hx hb dX5_falls_32 rfl hl (by decide) rfl (fun ls hl => ?_)
        refine lv_iconst (v := (0 : Int32)) hx hb dX5_falls_33 (by decide) ?_
        refine lv_istore (lv' := [(5, .int (0 : Int32)), (3, .long cnow), (2, .int r11), (0, .ref (ad 0)), (1, .int x1)]) hx hb dX5_falls_34 hl (by decide) rfl (fun ls hl => ?_)
        exact l36 x1 fc lf told F cnow (0 : Int32) h _ _ hP hD hS _ (lv_sub hl [3, 4, 1, 0] rfl)
      · have h := br_0 h c16
        refine lv_aload_n hx hb dX5_falls_19 rfl (lv_at hl 1 rfl) ?_
        refine lv_iload_n hx hb dX5_falls_20 rfl (lv_at hl 0 rfl) ?_
        obtain ⟨r21, w21_fc, w21_lf, hc, h⟩ := bd3_some h
        have hFc := my_freeS hD hS hA
        refine my_rwi (va_runV (As := [.int r11]) (rest := []) hFix (kX5_found l D T F ad rs rm ts tm rdue rtun rsee rbeg psize pclause peff pkin pgri psig psee qsize qclause qeff qkin qgri qsig qsee cdee cnow cahe kdee know kahe fc lf told up lo r11 r21 w21_fc w21_lf hc _) (cwV 1 hts gX5_falls_X5_found rfl rfl rfl ⟨rfl, hd_X5_found⟩ ⟨Nat.le_of_ble_eq_true rfl, Nat.le_of_ble_eq_true rfl⟩) (preV_rw hP hKK hD (va_recv hK hP (ci := 3) (q0 := 0) rfl wPW_0)) rfl rfl hl.1 rfl (lv_room (Nat.le_of_ble_eq_true rfl)) dX5_falls_21 ⟨Nat.zero_le _, Nat.zero_le _⟩) hS hFc (fun H1 locs hP1 hD1 hz1 hkk hS => ?_)
        have hP : va_P D vwCl (wPW T ad (ad 6) (ad 12) rs rm ts tm rdue rtun rsee rbeg psize pclause peff pkin pgri psig psee qsize qclause qeff qkin qgri qsig qsee cdee cnow cahe kdee know kahe w21_fc w21_lf told up lo) H1 := hP1
        have hD : va_D A (wPW T ad (ad 6) (ad 12) rs rm ts tm rdue rtun rsee rbeg psize pclause peff pkin pgri psig psee qsize qclause qeff qkin qgri qsig qsee cdee cnow cahe kdee know kahe w21_fc w21_lf told up lo) := hD1.weaken (fun _ q _ h => hFc q.1 h)
        generalize H1 = H at hP hS ⊢
        cases h
        exact hret _ _ _ _ hP hD hS dX5_falls_24
    · have h := br_1 h c4
      refine lv_iconst (v := (-1 : Int32)) hx hb dX5_falls_7 (by decide) ?_
      cases h
      exact hret _ _ _ _ hP hD hS dX5_falls_8
  exact key _ (fun H locs pc ls hP hD hS hd => W.iret hx hb hr (fun t ht hW => ⟨⟨_, (), rfl, rfl, by show _ ∧ _; rw [ht]; exact ⟨hP, hD⟩⟩, hS.F ht⟩) hS.2.2 hd)
set_option maxHeartbeats 4000000 in
set_option maxRecDepth 100000 in
theorem kX5_grief (l : Launch) (D : va_G) (T : Nat → ClassId) (F : Nat) (ad : Nat → Nat) (rs : Nat → Int32) (rm : Nat → Nat → Int32) (ts : Nat → Int32) (tm : Nat → Nat → Int32) (rdue : Int32) (rtun : Int32) (rsee : Int32) (rbeg : Int32) (psize : Int32) (pclause : Int32) (peff : Nat → Int32) (pkin : Nat → Int32) (pgri : Nat → Int32) (psig : Nat → Int32) (psee : Nat → Int32) (qsize : Int32) (qclause : Int32) (qeff : Nat → Int32) (qkin : Nat → Int32) (qgri : Nat → Int32) (qsig : Nat → Int32) (qsee : Nat → Int32) (cdee : Int32) (cnow : Int64) (cahe : Nat → Int64) (kdee : Nat → Int32) (know : Nat → Int64) (kahe : Nat → Nat → Int64) (fc : Nat → Int32) (lf : Int32) (told : Int32) (up : Int64) (lo : Int64) (x1 : Int32) (x2 : Int32) (r : Int32) (zfc : Nat → Int32) (zlf : Int32) (h : fX5_grief F rs rm psize pclause peff pkin psee cnow fc lf x1 x2 = some (r, zfc, zlf)) : ∀ sz : Nat, Met l yX5_grief wsX5_grief ({ frames := 4, cells := 0, slots := 0, locals := 102 } : Room) (va_Pc [.ref (ad 0), .int x1, .int x2] (fun U => U.heap.size = sz ∧ va_P D vwCl (wPW T ad (ad 6) (ad 12) rs rm ts tm rdue rtun rsee rbeg psize pclause peff pkin pgri psig psee qsize qclause qeff qkin qgri qsig qsee cdee cnow cahe kdee know kahe fc lf told up lo) U.heap ∧ KK D T U ∧ va_D (fun _ => True) (wPW T ad (ad 6) (ad 12) rs rm ts tm rdue rtun rsee rbeg psize pclause peff pkin pgri psig psee qsize qclause qeff qkin qgri qsig qsee cdee cnow cahe kdee know kahe fc lf told up lo))) (va_Qi (fun r' (_ : Unit) => r' = r) (fun _ t => va_P D vwCl (wPW T ad (ad 6) (ad 12) rs rm ts tm rdue rtun rsee rbeg psize pclause peff pkin pgri psig psee qsize qclause qeff qkin qgri qsig qsee cdee cnow cahe kdee know kahe zfc zlf told up lo) t.heap ∧ va_D (va_A (wPW T ad (ad 6) (ad 12) rs rm ts tm rdue rtun rsee rbeg psize pclause peff pkin pgri psig psee qsize qclause qeff qkin qgri qsig qsee cdee cnow cahe kdee know kahe fc lf told up lo) sz) (wPW T ad (ad 6) (ad 12) rs rm ts tm rdue rtun rsee rbeg psize pclause peff pkin pgri psig psee qsize qclause qeff qkin qgri qsig qsee cdee cnow cahe kdee know kahe zfc zlf told up lo)) (va_A (wPW T ad (ad 6) (ad 12) rs rm ts tm rdue rtun rsee rbeg psize pclause peff pkin pgri psig psee qsize qclause qeff qkin qgri qsig qsee cdee cnow cahe kdee know kahe fc lf told up lo) sz)) 0 0 (va_A (wPW T ad (ad 6) (ad 12) rs rm ts tm rdue rtun rsee rbeg psize pclause peff pkin pgri psig psee qsize qclause qeff qkin qgri qsig qsee cdee cnow cahe kdee know kahe fc lf told up lo) sz) := by
  intro sz
  refine Met.ofW (cc := cX5_grief) (maxL := 7) (ret := some .int) (by decide) rfl ?_
  intro p e s m args below meth c s₁ B hml hv
  obtain ⟨ha, hsz, hP, hKK, hD0⟩ := hv
  have hx := B.exec
  have hb := B.bytes
  have hr := B.returns
  have hts := atoms_spec (ws := wsX5_grief) B.pre
  have hown : s.vm.findClass RX5 = some m.cls := findClass_of_methodNamed B.named
  have hlocks := B.notSynchronized
  have hK := hKK.1
  have hFix : CallFix p m c cX5_grief 7 s args wsX5_grief RX5 := ⟨hx, hb, hml, hown, hts⟩
  have q1 := hts _ (List.mem_of_getElem? (i := 1) (show wsX5_grief[1]? = some (Cond.fieldLink RX5 46 "PartyWill" "course" "LPartyWill$Course;") from rfl))
  have q2 := hts _ (List.mem_of_getElem? (i := 2) (show wsX5_grief[2]? = some (Cond.fieldLink RX5 14 "PartyWill" "rowSizes" "[I") from rfl))
  have q3 := hts _ (List.mem_of_getElem? (i := 3) (show wsX5_grief[3]? = some (Cond.fieldLink RX5 36 "PartyWill" "party" "LPartyWill$Party;") from rfl))
  have q4 := hts _ (List.mem_of_getElem? (i := 4) (show wsX5_grief[4]? = some (Cond.fieldLink RX5 11 "PartyWill" "rows" "[[I") from rfl))
  have q26 := hts _ (List.mem_of_getElem? (i := 26) (show wsX5_grief[26]? = some (Cond.instanceMethod yX2_afterTune) from rfl))
  have q27 := hts _ (List.mem_of_getElem? (i := 27) (show wsX5_grief[27]? = some (Cond.initialized RX2) from rfl))
  have q28 := hts _ (List.mem_of_getElem? (i := 28) (show wsX5_grief[28]? = some (Cond.selects RX2 yX2_afterTune yX2_afterTune) from rfl))
  have q34 := hts _ (List.mem_of_getElem? (i := 34) (show wsX5_grief[34]? = some (Cond.initialized RX1) from rfl))
  have q36 := hts _ (List.mem_of_getElem? (i := 36) (show wsX5_grief[36]? = some (Cond.static yX1_griefOf) from rfl))
  have iX0 : ∀ w ∈ u_ws RX0 TX0 3, w ∈ wsX5_grief := fun w h => List.mem_cons_of_mem _ (List.mem_append_left _ (List.mem_append_right _ (h)))
  have iX5 : ∀ w ∈ u_ws RX5 TX5 14, w ∈ wsX5_grief := fun w h => List.mem_cons_of_mem _ (List.mem_append_left _ (List.mem_append_left _ (List.mem_append_right _ (h))))
  subst hsz
  have hD := hD0.self (sz := s.heap.size)
  generalize hAe : va_A (wPW T ad (ad 6) (ad 12) rs rm ts tm rdue rtun rsee rbeg psize pclause peff pkin pgri psig psee qsize qclause qeff qkin qgri qsig qsee cdee cnow cahe kdee know kahe fc lf told up lo) s.heap.size = A at hD ⊢
  have hA : ∀ q : Nat, s.heap.size ≤ q → A q := fun q h => by rw [← hAe]; exact Or.inr h
  have hS : va_S A s.heap s.heap [] := va_S.rf
  have hP : va_P D vwCl (wPW T ad (ad 6) (ad 12) rs rm ts tm rdue rtun rsee rbeg psize pclause peff pkin pgri psig psee qsize qclause qeff qkin qgri qsig qsee cdee cnow cahe kdee know kahe fc lf told up lo) s.heap := hP
  obtain ⟨ls, hl, e0⟩ := my_entry (m := m) (n := 7) ha (Nat.le_of_ble_eq_true rfl)
  rw [e0]
  have hl : lv_has ls 7 [(0, .ref (ad 0)), (1, .int x1), (2, .int x2)] := hl
  have key : ∀ Q : State → Prop, (∀ (H : Heap) (locs : List Loc) (pc : Nat) (ls : Array Slot), va_P D vwCl (wPW T ad (ad 6) (ad 12) rs rm ts tm rdue rtun rsee rbeg psize pclause peff pkin pgri psig psee qsize qclause qeff qkin qgri qsig qsee cdee cnow cahe kdee know kahe zfc zlf told up lo) H → va_D A (wPW T ad (ad 6) (ad 12) rs rm ts tm rdue rtun rsee rbeg psize pclause peff pkin pgri psig psee qsize qclause qeff qkin qgri qsig qsee cdee cnow cahe kdee know kahe zfc zlf told up lo) → va_S A s.heap H locs → decode cX5_grief pc = .ok (.ireturn, 1) → W p l e ({ frames := 4, cells := 0, slots := 0, locals := 102 } : Room) s m args below meth c H locs 0 0 Q (F0 m pc ls [.int r])) → W p l e ({ frames := 4, cells := 0, slots := 0, locals := 102 } : Room) s m args below meth c s.heap [] 0 0 Q (F0 m 0 ls []) := by
    intro Q hret
    skip
    have l45 : ∀ x1 : Int32, ∀ x2 : Int32, ∀ fc : Nat → Int32, ∀ lf : Int32, ∀ nu : Nat, ∀ x4 : Int64, ∀ x6 : Int32, fX5_grief_l45 F rs rm psize pclause peff pkin psee cnow x1 x2 fc lf nu x4 x6 = some (r, zfc, zlf) → ∀ (H : Heap) (locs : List Loc), va_P D vwCl (wPW T ad (ad 6) (ad 12) rs rm ts tm rdue rtun rsee rbeg psize pclause peff pkin pgri psig psee qsize qclause qeff qkin qgri qsig qsee cdee cnow cahe kdee know kahe fc lf told up lo) H → va_D A (wPW T ad (ad 6) (ad 12) rs rm ts tm rdue rtun rsee rbeg psize pclause peff pkin pgri psig psee qsize qclause qeff qkin qgri qsig qsee cdee cnow cahe kdee know kahe fc lf told up lo) → va_S A s.heap H locs → ∀ (ls : Array Slot), lv_has ls 7 [(0, .ref (ad 0)), (1, .int x1), (2, .int x2), (4, .long x4), (6, .int x6)] → W p l e ({ frames := 4, cells := 0, slots := 0, locals := 102 } : Room) s m args below meth c H locs 0 0 Q (F0 m 45 ls []) := by
      intro x1 x2 fc lf
      intro nu
      induction nu with
      | zero => intro x4 x6 h; exact none_some h
      | succ nu45 ih45 =>
        intro x4 x6 h H locs hP hD hS ls hl
        have h : fX5_grief_l45_b F rs rm psize pclause peff pkin psee cnow x1 x2 fc lf (fX5_grief_l45 F rs rm psize pclause peff pkin psee cnow x1 x2 fc lf nu45) x4 x6 = some (r, zfc, zlf) := h
        unfold fX5_grief_l45_b at h
        refine lv_iload hx hb dX5_grief_45 (lv_at hl 4 rfl) ?_
        refine lv_aload_n hx hb dX5_grief_47 rfl (lv_at hl 0 rfl) ?_
        refine va_get (D := D) (ci := 3) (C := RX5) (T := TX5) (N := 14) hx hb hts iX5 hown hK hP 0 wPW_0 rfl 1 (by decide) q2 (fun _ h9 => h9) rfl dX5_grief_48 ?_
        refine lv_iload_n hx hb dX5_grief_51 rfl (lv_at hl 2 rfl) ?_
        obtain ⟨hin1, h⟩ := ck_some h
        refine va_iald hx hb hK hP 2 0 wPW_2 rfl hin1 dX5_grief_52 ?_
        refine lv_icmp_ge (tgt := 82) hx hb dX5_grief_53 (by decide) (fun c53 => ?_) (fun c53 => ?_)
        · have h := br_1 h c53
          refine lv_lload hx hb dX5_grief_82 (lv_at hl 3 rfl) ?_
          refine lv_iload_n hx hb dX5_grief_84 rfl (lv_at hl 1 rfl) ?_
          obtain ⟨r85, hc, h⟩ := bd1_some h
          refine my_roi (va_Run.run (va_runSN (host := "PartyWill") (As := [.long x4, .int x1]) (rest := []) hFix (kX1_griefOf l D T F x4 x1 r85 hc) ⟨va_cnB 2 hts gX5_grief_X1_griefOf_n175 rfl rfl rfl (nw_X5_175 hKK.2) q34 hd_X1_griefOf ⟨Nat.le_of_ble_eq_true rfl, Nat.le_of_ble_eq_true rfl⟩, q36, trivial⟩ (preS_ro va_nil hKK) rfl rfl hl.1 rfl (lv_room (Nat.le_of_ble_eq_true rfl)) dX5_grief_85 ⟨Nat.zero_le _, Nat.zero_le _⟩)) ?_
          cases h
          exact hret _ _ _ _ hP hD hS dX5_grief_88
        · have h := br_0 h c53
          refine lv_aload_n hx hb dX5_grief_56 rfl (lv_at hl 0 rfl) ?_
          refine va_get (D := D) (ci := 3) (C := RX5) (T := TX5) (N := 14) hx hb hts iX5 hown hK hP 0 wPW_0 rfl 5 (by decide) q3 (fun _ h9 => h9) rfl dX5_grief_57 ?_
          refine lv_lload hx hb dX5_grief_60 (lv_at hl 3 rfl) ?_
          refine lv_aload_n hx hb dX5_grief_62 rfl (lv_at hl 0 rfl) ?_
          refine va_get (D := D) (ci := 3) (C := RX5) (T := TX5) (N := 14) hx hb hts iX5 hown hK hP 0 wPW_0 rfl 0 (by decide) q4 (fun _ h9 => h9) rfl dX5_grief_63 ?_
          refine lv_iload_n hx hb dX5_grief_66 rfl (lv_at hl 2 rfl) ?_
          obtain ⟨hin3, h⟩ := ck_some h
          have hk2 : x2.toNatClampNeg < 6 := vp_lt hin3
          refine my_ald (b := (ad (28 + x2.toNatClampNeg))) rfl hx hb hK hP 1 4 wPW_1 rfl hin3 (fun _ => if_pos hk2) dX5_grief_67 ?_
          refine lv_iload hx hb dX5_grief_68 (lv_at hl 4 rfl) ?_
          obtain ⟨hin4, h⟩ := ck_some h
          refine va_iald hx hb hK hP (28 + x2.toNatClampNeg) 0 (wPW_f_rows0 hk2) rfl hin4 dX5_grief_70 ?_
          obtain ⟨r71, hc, h⟩ := bd1_some h
          have hPc : va_P D vwCl (wPa T (ad 6) (ad 7) (ad 8) (ad 9) (ad 10) (ad 11) psize pclause peff pkin pgri psig psee) _ := my_subP sb_wPW_wPa_6to11 hP
          refine my_rol (va_Run.run (va_runVN (host := "PartyWill") (As := [.long x4, .int ((rm x2.toNatClampNeg) x6.toNatClampNeg)]) (rest := []) hFix (kX2_afterTune l D T F (ad 6) (ad 7) (ad 8) (ad 9) (ad 10) (ad 11) psize pclause peff pkin pgri psig psee x4 ((rm x2.toNatClampNeg) x6.toNatClampNeg) r71 hc) ⟨va_cnB 2 hts gX5_grief_X2_afterTune_n162 rfl rfl rfl (nw_X5_162 hKK.2) q27 hd_X2_afterTune ⟨Nat.le_of_ble_eq_true rfl, Nat.le_of_ble_eq_true rfl⟩, q26, q28⟩ (preV_ro hPc hKK (va_recv hK hP (ci := 1) (q0 := 6) rfl wPW_6)) rfl rfl hl.1 rfl (lv_room (Nat.le_of_ble_eq_true rfl)) dX5_grief_71 ⟨Nat.zero_le _, Nat.zero_le _⟩)) ?_
          refine lv_lstore (lv' := [(4, .long r71), (0, .ref (ad 0)), (1, .int x1), (2, .int x2), (6, .int x6)]) hx hb dX5_grief_74 hl (by decide) rfl (fun ls hl => ?_)
          refine lv_iinc (v := (x6 + (1 : Int32))) (lv' := [(6, .int (x6 + (1 : Int32))), (4, .long r71), (0, .ref (ad 0)), (1, .int x1), (2, .int x2)]) hx hb dX5_grief_76 hl (k := 4) rfl rfl (by decide) rfl (fun ls hl => ?_)
          refine lv_goto (tgt := 45) hx hb dX5_grief_79 (by decide) ?_
          exact ih45 r71 (x6 + (1 : Int32)) h _ _ hP hD hS _ (lv_sub hl [2, 3, 4, 1, 0] rfl)
    unfold fX5_grief at h
    refine lv_aload_n hx hb dX5_grief_0 rfl (lv_at hl 0 rfl) ?_
    refine lv_iload_n hx hb dX5_grief_1 rfl (lv_at hl 1 rfl) ?_
    obtain ⟨r2, hc, h⟩ := bd1_some h
    refine my_roz (va_Run.run (va_runV (As := [.int x1]) (rest := []) hFix (kX5_isGuest l D T F ad rs rm ts tm rdue rtun rsee rbeg psize pclause peff pkin pgri psig psee qsize qclause qeff qkin qgri qsig qsee cdee cnow cahe kdee know kahe fc lf told up lo x1 r2 hc) (cwV 1 hts gX5_grief_X5_isGuest rfl rfl rfl ⟨rfl, hd_X5_isGuest⟩ ⟨Nat.le_of_ble_eq_true rfl, Nat.le_of_ble_eq_true rfl⟩) (preV_ro hP hKK (va_recv hK hP (ci := 3) (q0 := 0) rfl wPW_0)) rfl rfl hl.1 rfl (lv_room (Nat.le_of_ble_eq_true rfl)) dX5_grief_2 ⟨Nat.zero_le _, Nat.zero_le _⟩)) (fun hb2 => ?_)
    refine lv_if_eq (tgt := 15) hx hb dX5_grief_5 (by decide) (fun c5 => ?_) (fun c5 => ?_)
    · have h := br_1 h c5
      refine lv_iconst (v := (-1 : Int32)) hx hb dX5_grief_15 (by decide) ?_
      cases h
      exact hret _ _ _ _ hP hD hS dX5_grief_16
    · have h := br_0 h c5
      refine lv_iload_n hx hb dX5_grief_8 rfl (lv_at hl 2 rfl) ?_
      obtain ⟨r9, hc, h⟩ := bd1_some h
      refine my_roz (va_Run.run (va_runS (As := [.int x2]) (rest := []) hFix (kX5_isRow l D T F x2 r9 hc) (va_cwS 1 hts gX5_grief_X5_isRow rfl rfl rfl hd_X5_isRow ⟨Nat.le_of_ble_eq_true rfl, Nat.le_of_ble_eq_true rfl⟩) (preS_ro va_nil hKK) rfl rfl hl.1 rfl (lv_room (Nat.le_of_ble_eq_true rfl)) dX5_grief_9 ⟨Nat.zero_le _, Nat.zero_le _⟩)) (fun hb9 => ?_)
      refine lv_if_ne (tgt := 17) hx hb dX5_grief_12 (by decide) (fun c12 => ?_) (fun c12 => ?_)
      · have h := br_0 h c12
        refine lv_aload_n hx hb dX5_grief_17 rfl (lv_at hl 0 rfl) ?_
        refine lv_iload_n hx hb dX5_grief_18 rfl (lv_at hl 2 rfl) ?_
        obtain ⟨r19, hc, h⟩ := bd1_some h
        refine my_roi (va_Run.run (va_runV (As := [.int x2]) (rest := []) hFix (kX5_programmeFinding l D T F ad rs rm ts tm rdue rtun rsee rbeg psize pclause peff pkin pgri psig psee qsize qclause qeff qkin qgri qsig qsee cdee cnow cahe kdee know kahe fc lf told up lo x2 r19 hc) (cwV 1 hts gX5_grief_X5_programmeFinding rfl rfl rfl ⟨rfl, hd_X5_programmeFinding⟩ ⟨Nat.le_of_ble_eq_true rfl, Nat.le_of_ble_eq_true rfl⟩) (preV_ro hP hKK (va_recv hK hP (ci := 3) (q0 := 0) rfl wPW_0)) rfl rfl hl.1 rfl (lv_room (Nat.le_of_ble_eq_true rfl)) dX5_grief_19 ⟨Nat.zero_le _, Nat.zero_le _⟩)) ?_
        refine lv_istore_n (lv' := [(3, .int r19), (0, .ref (ad 0)), (1, .int x1), (2, .int x2)]) hx hb dX5_grief_22 rfl hl (by decide) rfl (fun ls hl => ?_)
        refine lv_iload_n hx hb dX5_grief_23 rfl (lv_at hl 0 rfl) ?_
        refine lv_if_eq (tgt := 33) hx hb dX5_grief_24 (by decide) (fun c24 => ?_) (fun c24 => ?_)
        · have h := br_1 h c24
          refine lv_aload_n hx hb dX5_grief_33 rfl (lv_at hl 1 rfl) ?_
          refine va_get (D := D) (ci := 3) (C := RX5) (T := TX5) (N := 14) hx hb hts iX5 hown hK hP 0 wPW_0 rfl 7 (by decide) q1 (fun _ h9 => h9) rfl dX5_grief_34 ?_
          refine va_getN (host := "PartyWill") (D := D) (ci := 0) (C := RX0) (T := TX0) (N := 3) hx hb hts iX0 hown hK hP 18 wPW_18 rfl 1 (by decide) (va_Nw.use rfl (nw_X5_127 hKK.2)) (fun _ h9 => h9) rfl dX5_grief_37 ?_
          refine lv_lstore (lv' := [(4, .long cnow), (3, .int r19), (0, .ref (ad 0)), (1, .int x1), (2, .int x2)]) hx hb dX5_grief_40 hl (by decide) rfl (fun ls hl => ?_)
          refine lv_iconst (v := (0 : Int32)) hx hb dX5_grief_42 (by decide) ?_
          refine lv_istore (lv' := [(6, .int (0 : Int32)), (4, .long cnow), (3, .int r19), (0, .ref (ad 0)), (1, .int x1), (2, .int x2)]) hx hb dX5_grief_43 hl (by decide) rfl (fun ls hl => ?_)
          exact l45 x1 x2 fc lf F cnow (0 : Int32) h _ _ hP hD hS _ (lv_sub hl [3, 4, 5, 1, 0] rfl)
        · have h := br_0 h c24
          refine lv_aload_n hx hb dX5_grief_27 rfl (lv_at hl 1 rfl) ?_
          refine lv_iload_n hx hb dX5_grief_28 rfl (lv_at hl 0 rfl) ?_
          obtain ⟨r29, w29_fc, w29_lf, hc, h⟩ := bd3_some h
          have hFc := my_freeS hD hS hA
          refine my_rwi (va_runV (As := [.int r19]) (rest := []) hFix (kX5_found l D T F ad rs rm ts tm rdue rtun rsee rbeg psize pclause peff pkin pgri psig psee qsize qclause qeff qkin qgri qsig qsee cdee cnow cahe kdee know kahe fc lf told up lo r19 r29 w29_fc w29_lf hc _) (cwV 1 hts gX5_grief_X5_found rfl rfl rfl ⟨rfl, hd_X5_found⟩ ⟨Nat.le_of_ble_eq_true rfl, Nat.le_of_ble_eq_true rfl⟩) (preV_rw hP hKK hD (va_recv hK hP (ci := 3) (q0 := 0) rfl wPW_0)) rfl rfl hl.1 rfl (lv_room (Nat.le_of_ble_eq_true rfl)) dX5_grief_29 ⟨Nat.zero_le _, Nat.zero_le _⟩) hS hFc (fun H1 locs hP1 hD1 hz1 hkk hS => ?_)
          have hP : va_P D vwCl (wPW T ad (ad 6) (ad 12) rs rm ts tm rdue rtun rsee rbeg psize pclause peff pkin pgri psig psee qsize qclause qeff qkin qgri qsig qsee cdee cnow cahe kdee know kahe w29_fc w29_lf told up lo) H1 := hP1
          have hD : va_D A (wPW T ad (ad 6) (ad 12) rs rm ts tm rdue rtun rsee rbeg psize pclause peff pkin pgri psig psee qsize qclause qeff qkin qgri qsig qsee cdee cnow cahe kdee know kahe w29_fc w29_lf told up lo) := hD1.weaken (fun _ q _ h => hFc q.1 h)
          generalize H1 = H at hP hS ⊢
          cases h
          exact hret _ _ _ _ hP hD hS dX5_grief_32
      · have h := br_1 h c12
        refine lv_iconst (v := (-1 : Int32)) hx hb dX5_grief_15 (by decide) ?_
        cases h
        exact hret _ _ _ _ hP hD hS dX5_grief_16
  exact key _ (fun H locs pc ls hP hD hS hd => W.iret hx hb hr (fun t ht hW => ⟨⟨_, (), rfl, rfl, by show _ ∧ _; rw [ht]; exact ⟨hP, hD⟩⟩, hS.F ht⟩) hS.2.2 hd)
set_option maxHeartbeats 4000000 in
set_option maxRecDepth 100000 in
theorem kX5_searchRefusal (l : Launch) (D : va_G) (T : Nat → ClassId) (F : Nat) (ad : Nat → Nat) (rs : Nat → Int32) (rm : Nat → Nat → Int32) (ts : Nat → Int32) (tm : Nat → Nat → Int32) (rdue : Int32) (rtun : Int32) (rsee : Int32) (rbeg : Int32) (psize : Int32) (pclause : Int32) (peff : Nat → Int32) (pkin : Nat → Int32) (pgri : Nat → Int32) (psig : Nat → Int32) (psee : Nat → Int32) (qsize : Int32) (qclause : Int32) (qeff : Nat → Int32) (qkin : Nat → Int32) (qgri : Nat → Int32) (qsig : Nat → Int32) (qsee : Nat → Int32) (cdee : Int32) (cnow : Int64) (cahe : Nat → Int64) (kdee : Nat → Int32) (know : Nat → Int64) (kahe : Nat → Nat → Int64) (fc : Nat → Int32) (lf : Int32) (told : Int32) (up : Int64) (lo : Int64) (x1 : Int32) (r : Int32) (h : fX5_searchRefusal F psize x1 = some (r)) : Met l yX5_searchRefusal wsX5_searchRefusal ({ frames := 0, cells := 0, slots := 0, locals := 0 } : Room) (va_Pc [.ref (ad 0), .int x1] (fun U => va_P D vwCl (wPW T ad (ad 6) (ad 12) rs rm ts tm rdue rtun rsee rbeg psize pclause peff pkin pgri psig psee qsize qclause qeff qkin qgri qsig qsee cdee cnow cahe kdee know kahe fc lf told up lo) U.heap ∧ KK D T U)) (vp_Si (fun r' => r' = r)) 0 0 (fun _ => False) := by
  refine Met.ofW (cc := cX5_searchRefusal) (maxL := 2) (ret := some .int) (by decide) rfl ?_
  intro p e s m args below meth c s₁ B hml hv
  obtain ⟨ha, hP, hKK⟩ := hv
  have hx := B.exec
  have hb := B.bytes
  have hr := B.returns
  have hts := atoms_spec (ws := wsX5_searchRefusal) B.pre
  have hown : s.vm.findClass RX5 = some m.cls := findClass_of_methodNamed B.named
  have hlocks := B.notSynchronized
  have hK := hKK.1
  have hFix : CallFix p m c cX5_searchRefusal 2 s args wsX5_searchRefusal RX5 := ⟨hx, hb, hml, hown, hts⟩
  have q1 := hts _ (List.mem_of_getElem? (i := 1) (show wsX5_searchRefusal[1]? = some (Cond.fieldLink RX5 36 "PartyWill" "party" "LPartyWill$Party;") from rfl))
  have iX2 : ∀ w ∈ u_ws RX2 TX2 7, w ∈ wsX5_searchRefusal := fun w h => List.mem_cons_of_mem _ (List.mem_append_right _ (h))
  have iX5 : ∀ w ∈ u_ws RX5 TX5 14, w ∈ wsX5_searchRefusal := fun w h => List.mem_cons_of_mem _ (List.mem_append_left _ (List.mem_append_right _ (h)))
  obtain ⟨ls, hl, e0⟩ := my_entry (m := m) (n := 2) ha (Nat.le_of_ble_eq_true rfl)
  rw [e0]
  have hl : lv_has ls 2 [(0, .ref (ad 0)), (1, .int x1)] := hl
  have key : ∀ Q : State → Prop, (∀ (pc : Nat) (ls : Array Slot), decode cX5_searchRefusal pc = .ok (.ireturn, 1) → W p l e ({ frames := 0, cells := 0, slots := 0, locals := 0 } : Room) s m args below meth c s.heap [] 0 0 Q (F0 m pc ls [.int r])) → W p l e ({ frames := 0, cells := 0, slots := 0, locals := 0 } : Room) s m args below meth c s.heap [] 0 0 Q (F0 m 0 ls []) := by
    intro Q hret
    unfold fX5_searchRefusal at h
    refine lv_iload_n hx hb dX5_searchRefusal_0 rfl (lv_at hl 1 rfl) ?_
    refine lv_if_lt (tgt := 10) hx hb dX5_searchRefusal_1 (by decide) (fun c1 => ?_) (fun c1 => ?_)
    · have h := br_1 h c1
      refine lv_iconst (v := (-1 : Int32)) hx hb dX5_searchRefusal_10 (by decide) ?_
      cases h
      exact hret _ _ dX5_searchRefusal_11
    · have h := br_0 h c1
      refine lv_iload_n hx hb dX5_searchRefusal_4 rfl (lv_at hl 1 rfl) ?_
      refine lv_bipush (v := (6 : Int32)) hx hb dX5_searchRefusal_5 (by decide) ?_
      refine lv_icmp_le (tgt := 12) hx hb dX5_searchRefusal_7 (by decide) (fun c7 => ?_) (fun c7 => ?_)
      · have h := br_1 h c7
        refine lv_aload_n hx hb dX5_searchRefusal_12 rfl (lv_at hl 0 rfl) ?_
        refine va_get (D := D) (ci := 3) (C := RX5) (T := TX5) (N := 14) hx hb hts iX5 hown hK hP 0 wPW_0 rfl 5 (by decide) q1 (fun _ h9 => h9) rfl dX5_searchRefusal_13 ?_
        refine va_getN (host := "PartyWill") (D := D) (ci := 1) (C := RX2) (T := TX2) (N := 7) hx hb hts iX2 hown hK hP 6 wPW_6 rfl 0 (by decide) (va_Nw.use rfl (nw_X5_111 hKK.2)) (fun _ h9 => h9) rfl dX5_searchRefusal_16 ?_
        refine lv_if_ne (tgt := 27) hx hb dX5_searchRefusal_19 (by decide) (fun c19 => ?_) (fun c19 => ?_)
        · have h := br_0 h c19
          refine lv_iconst (v := (0 : Int32)) hx hb dX5_searchRefusal_27 (by decide) ?_
          cases h
          exact hret _ _ dX5_searchRefusal_28
        · have h := br_1 h c19
          refine lv_bipush (v := (-4 : Int32)) hx hb dX5_searchRefusal_22 (by decide) ?_
          refine lv_goto (tgt := 28) hx hb dX5_searchRefusal_24 (by decide) ?_
          cases h
          exact hret _ _ dX5_searchRefusal_28
      · have h := br_0 h c7
        refine lv_iconst (v := (-1 : Int32)) hx hb dX5_searchRefusal_10 (by decide) ?_
        cases h
        exact hret _ _ dX5_searchRefusal_11
  exact key _ (fun pc ls hd => W.iret hx hb hr (fun t ht hW => ⟨_, rfl, rfl, ht⟩) (fun q h => by cases h) hd)
