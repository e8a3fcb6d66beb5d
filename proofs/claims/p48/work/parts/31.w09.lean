set_option maxHeartbeats 4000000 in
set_option maxRecDepth 100000 in
theorem kX5_fewest (l : Launch) (D : va_G) (T : Nat → ClassId) (F : Nat) (ad : Nat → Nat) (rs : Nat → Int32) (rm : Nat → Nat → Int32) (ts : Nat → Int32) (tm : Nat → Nat → Int32) (rdue : Int32) (rtun : Int32) (rsee : Int32) (rbeg : Int32) (psize : Int32) (pclause : Int32) (peff : Nat → Int32) (pkin : Nat → Int32) (pgri : Nat → Int32) (psig : Nat → Int32) (psee : Nat → Int32) (qsize : Int32) (qclause : Int32) (qeff : Nat → Int32) (qkin : Nat → Int32) (qgri : Nat → Int32) (qsig : Nat → Int32) (qsee : Nat → Int32) (cdee : Int32) (cnow : Int64) (cahe : Nat → Int64) (kdee : Nat → Int32) (know : Nat → Int64) (kahe : Nat → Nat → Int64) (fc : Nat → Int32) (lf : Int32) (told : Int32) (up : Int64) (lo : Int64) (x1 : Int32) (x2 : Int32) (r : Int32) (zrs : Nat → Int32) (zrm : Nat → Nat → Int32) (h : fX5_fewest F rs rm psize pclause peff pkin psee cnow x1 x2 = some (r, zrs, zrm)) : ∀ sz : Nat, Met l yX5_fewest wsX5_fewest ({ frames := 31, cells := 0, slots := 0, locals := 927 } : Room) (va_Pc [.ref (ad 0), .int x1, .int x2] (fun U => U.heap.size = sz ∧ va_P D vwCl (wPW T ad (ad 6) (ad 12) rs rm ts tm rdue rtun rsee rbeg psize pclause peff pkin pgri psig psee qsize qclause qeff qkin qgri qsig qsee cdee cnow cahe kdee know kahe fc lf told up lo) U.heap ∧ KK D T U ∧ va_D (fun _ => True) (wPW T ad (ad 6) (ad 12) rs rm ts tm rdue rtun rsee rbeg psize pclause peff pkin pgri psig psee qsize qclause qeff qkin qgri qsig qsee cdee cnow cahe kdee know kahe fc lf told up lo))) (va_Qi (fun r' (_ : Unit) => r' = r) (fun _ t => va_P D vwCl (wPW T ad (ad 6) (ad 12) zrs zrm ts tm rdue rtun rsee rbeg psize pclause peff pkin pgri psig psee qsize qclause qeff qkin qgri qsig qsee cdee cnow cahe kdee know kahe fc lf told up lo) t.heap ∧ va_D (va_A (wPW T ad (ad 6) (ad 12) rs rm ts tm rdue rtun rsee rbeg psize pclause peff pkin pgri psig psee qsize qclause qeff qkin qgri qsig qsee cdee cnow cahe kdee know kahe fc lf told up lo) sz) (wPW T ad (ad 6) (ad 12) zrs zrm ts tm rdue rtun rsee rbeg psize pclause peff pkin pgri psig psee qsize qclause qeff qkin qgri qsig qsee cdee cnow cahe kdee know kahe fc lf told up lo)) (va_A (wPW T ad (ad 6) (ad 12) rs rm ts tm rdue rtun rsee rbeg psize pclause peff pkin pgri psig psee qsize qclause qeff qkin qgri qsig qsee cdee cnow cahe kdee know kahe fc lf told up lo) sz)) 0 0 (va_A (wPW T ad (ad 6) (ad 12) rs rm ts tm rdue rtun rsee rbeg psize pclause peff pkin pgri psig psee qsize qclause qeff qkin qgri qsig qsee cdee cnow cahe kdee know kahe fc lf told up lo) sz) := by
  intro sz
  refine Met.ofW (cc := cX5_fewest) (maxL := 5) (ret := some .int) (by decide) rfl ?_
  intro p e s m args below meth c s₁ B hml hv
  obtain ⟨ha, hsz, hP, hKK, hD0⟩ := hv
  have hx := B.exec
  have hb := B.bytes
  have hr := B.returns
  have hts := atoms_spec (ws := wsX5_fewest) B.pre
  have hown : s.vm.findClass RX5 = some m.cls := findClass_of_methodNamed B.named
  have hlocks := B.notSynchronized
  have hK := hKK.1
  have hFix : CallFix p m c cX5_fewest 5 s args wsX5_fewest RX5 := ⟨hx, hb, hml, hown, hts⟩
  have q1 := hts _ (List.mem_of_getElem? (i := 1) (show wsX5_fewest[1]? = some (Cond.fieldLink RX5 36 "PartyWill" "party" "LPartyWill$Party;") from rfl))
  have q2 := hts _ (List.mem_of_getElem? (i := 2) (show wsX5_fewest[2]? = some (Cond.fieldLink RX5 46 "PartyWill" "course" "LPartyWill$Course;") from rfl))
  have q11 := hts _ (List.mem_of_getElem? (i := 11) (show wsX5_fewest[11]? = some (Cond.static yX3_mostLeft) from rfl))
  have q12 := hts _ (List.mem_of_getElem? (i := 12) (show wsX5_fewest[12]? = some (Cond.initialized RX3) from rfl))
  have q18 := hts _ (List.mem_of_getElem? (i := 18) (show wsX5_fewest[18]? = some (Cond.static yX1_howManyIn) from rfl))
  have q19 := hts _ (List.mem_of_getElem? (i := 19) (show wsX5_fewest[19]? = some (Cond.initialized RX1) from rfl))
  have q76 := hts _ (List.mem_of_getElem? (i := 76) (show wsX5_fewest[76]? = some (Cond.static yX3_firstLeaving) from rfl))
  have iX0 : ∀ w ∈ u_ws RX0 TX0 3, w ∈ wsX5_fewest := fun w h => List.mem_cons_of_mem _ (List.mem_append_left _ (List.mem_append_right _ (h)))
  have iX5 : ∀ w ∈ u_ws RX5 TX5 14, w ∈ wsX5_fewest := fun w h => List.mem_cons_of_mem _ (List.mem_append_left _ (List.mem_append_left _ (List.mem_append_right _ (h))))
  subst hsz
  have hD := hD0.self (sz := s.heap.size)
  generalize hAe : va_A (wPW T ad (ad 6) (ad 12) rs rm ts tm rdue rtun rsee rbeg psize pclause peff pkin pgri psig psee qsize qclause qeff qkin qgri qsig qsee cdee cnow cahe kdee know kahe fc lf told up lo) s.heap.size = A at hD ⊢
  have hA : ∀ q : Nat, s.heap.size ≤ q → A q := fun q h => by rw [← hAe]; exact Or.inr h
  have hS : va_S A s.heap s.heap [] := va_S.rf
  have hP : va_P D vwCl (wPW T ad (ad 6) (ad 12) rs rm ts tm rdue rtun rsee rbeg psize pclause peff pkin pgri psig psee qsize qclause qeff qkin qgri qsig qsee cdee cnow cahe kdee know kahe fc lf told up lo) s.heap := hP
  obtain ⟨ls, hl, e0⟩ := my_entry (m := m) (n := 5) ha (Nat.le_of_ble_eq_true rfl)
  rw [e0]
  have hl : lv_has ls 5 [(0, .ref (ad 0)), (1, .int x1), (2, .int x2)] := hl
  have key : ∀ Q : State → Prop, (∀ (H : Heap) (locs : List Loc) (pc : Nat) (ls : Array Slot), va_P D vwCl (wPW T ad (ad 6) (ad 12) zrs zrm ts tm rdue rtun rsee rbeg psize pclause peff pkin pgri psig psee qsize qclause qeff qkin qgri qsig qsee cdee cnow cahe kdee know kahe fc lf told up lo) H → va_D A (wPW T ad (ad 6) (ad 12) zrs zrm ts tm rdue rtun rsee rbeg psize pclause peff pkin pgri psig psee qsize qclause qeff qkin qgri qsig qsee cdee cnow cahe kdee know kahe fc lf told up lo) → va_S A s.heap H locs → decode cX5_fewest pc = .ok (.ireturn, 1) → W p l e ({ frames := 31, cells := 0, slots := 0, locals := 927 } : Room) s m args below meth c H locs 0 0 Q (F0 m pc ls [.int r])) → W p l e ({ frames := 31, cells := 0, slots := 0, locals := 927 } : Room) s m args below meth c s.heap [] 0 0 Q (F0 m 0 ls []) := by
    intro Q hret
    skip
    have n16 : ∀ s_0 : Int32, ∀ x1 : Int32, ∀ x2 : Int32, ∀ rs : Nat → Int32, ∀ rm : Nat → Nat → Int32, fX5_fewest_n16 F psize pclause peff pkin psee cnow s_0 x1 x2 rs rm = some (r, zrs, zrm) → ∀ (H : Heap) (locs : List Loc), va_P D vwCl (wPW T ad (ad 6) (ad 12) rs rm ts tm rdue rtun rsee rbeg psize pclause peff pkin pgri psig psee qsize qclause qeff qkin qgri qsig qsee cdee cnow cahe kdee know kahe fc lf told up lo) H → va_D A (wPW T ad (ad 6) (ad 12) rs rm ts tm rdue rtun rsee rbeg psize pclause peff pkin pgri psig psee qsize qclause qeff qkin qgri qsig qsee cdee cnow cahe kdee know kahe fc lf told up lo) → va_S A s.heap H locs → ∀ (ls : Array Slot), lv_has ls 5 [(0, .ref (ad 0)), (1, .int x1), (2, .int x2)] → W p l e ({ frames := 31, cells := 0, slots := 0, locals := 927 } : Room) s m args below meth c H locs 0 0 Q (F0 m 16 ls [.int s_0]) := by
      intro s_0 x1 x2 rs rm h H locs hP hD hS ls hl
      unfold fX5_fewest_n16 at h
      refine lv_istore_n (lv' := [(3, .int s_0), (0, .ref (ad 0)), (1, .int x1), (2, .int x2)]) hx hb dX5_fewest_16 rfl hl (by decide) rfl (fun ls hl => ?_)
      refine lv_iload_n hx hb dX5_fewest_17 rfl (lv_at hl 0 rfl) ?_
      refine lv_if_eq (tgt := 23) hx hb dX5_fewest_18 (by decide) (fun c18 => ?_) (fun c18 => ?_)
      · have h := br_1 h c18
        refine lv_aload_n hx hb dX5_fewest_23 rfl (lv_at hl 1 rfl) ?_
        refine va_get (D := D) (ci := 3) (C := RX5) (T := TX5) (N := 14) hx hb hts iX5 hown hK hP 0 wPW_0 rfl 5 (by decide) q1 (fun _ h9 => h9) rfl dX5_fewest_24 ?_
        refine lv_aload_n hx hb dX5_fewest_27 rfl (lv_at hl 1 rfl) ?_
        refine va_get (D := D) (ci := 3) (C := RX5) (T := TX5) (N := 14) hx hb hts iX5 hown hK hP 0 wPW_0 rfl 7 (by decide) q2 (fun _ h9 => h9) rfl dX5_fewest_28 ?_
        refine va_getN (host := "PartyWill") (D := D) (ci := 0) (C := RX0) (T := TX0) (N := 3) hx hb hts iX0 hown hK hP 18 wPW_18 rfl 1 (by decide) (va_Nw.use rfl (nw_X5_127 hKK.2)) (fun _ h9 => h9) rfl dX5_fewest_31 ?_
        refine lv_iload_n hx hb dX5_fewest_34 rfl (lv_at hl 2 rfl) ?_
        obtain ⟨r35, hc, h⟩ := bd1_some h
        have hPc : va_P D vwCl (wPa T (ad 6) (ad 7) (ad 8) (ad 9) (ad 10) (ad 11) psize pclause peff pkin pgri psig psee) _ := my_subP sb_wPW_wPa_6to11 hP
        refine my_roi (va_Run.run (va_runSN (host := "PartyWill") (As := [.ref (ad 6), .long cnow, .int x1]) (rest := []) hFix (kX3_mostLeft l D T F 8 (ad 6) (ad 7) (ad 8) (ad 9) (ad 10) (ad 11) psize pclause peff pkin pgri psig psee cnow x1 r35 hc) ⟨va_cnB 3 hts gX5_fewest_X3_mostLeft_n218 rfl rfl rfl (nw_X5_218 hKK.2) q12 hd_X3_mostLeft ⟨Nat.le_of_ble_eq_true rfl, Nat.le_of_ble_eq_true rfl⟩, q11, trivial⟩ (preS_ro hPc hKK) rfl rfl hl.1 rfl (lv_room (Nat.le_of_ble_eq_true rfl)) dX5_fewest_35 ⟨Nat.zero_le _, Nat.zero_le _⟩)) ?_
        refine lv_istore (lv' := [(4, .int r35), (3, .int s_0), (0, .ref (ad 0)), (1, .int x1), (2, .int x2)]) hx hb dX5_fewest_38 hl (by decide) rfl (fun ls hl => ?_)
        refine lv_aload_n hx hb dX5_fewest_40 rfl (lv_at hl 2 rfl) ?_
        refine lv_iload_n hx hb dX5_fewest_41 rfl (lv_at hl 4 rfl) ?_
        refine lv_iload_n hx hb dX5_fewest_42 rfl (lv_at hl 3 rfl) ?_
        refine lv_aload_n hx hb dX5_fewest_43 rfl (lv_at hl 2 rfl) ?_
        refine va_get (D := D) (ci := 3) (C := RX5) (T := TX5) (N := 14) hx hb hts iX5 hown hK hP 0 wPW_0 rfl 5 (by decide) q1 (fun _ h9 => h9) rfl dX5_fewest_44 ?_
        refine lv_aload_n hx hb dX5_fewest_47 rfl (lv_at hl 2 rfl) ?_
        refine va_get (D := D) (ci := 3) (C := RX5) (T := TX5) (N := 14) hx hb hts iX5 hown hK hP 0 wPW_0 rfl 7 (by decide) q2 (fun _ h9 => h9) rfl dX5_fewest_48 ?_
        refine va_getN (host := "PartyWill") (D := D) (ci := 0) (C := RX0) (T := TX0) (N := 3) hx hb hts iX0 hown hK hP 18 wPW_18 rfl 1 (by decide) (va_Nw.use rfl (nw_X5_127 hKK.2)) (fun _ h9 => h9) rfl dX5_fewest_51 ?_
        refine lv_iload_n hx hb dX5_fewest_54 rfl (lv_at hl 3 rfl) ?_
        refine lv_iload hx hb dX5_fewest_55 (lv_at hl 0 rfl) ?_
        refine lv_iconst (v := (0 : Int32)) hx hb dX5_fewest_57 (by decide) ?_
        obtain ⟨r58, hc, h⟩ := bd1_some h
        have hPc : va_P D vwCl (wPa T (ad 6) (ad 7) (ad 8) (ad 9) (ad 10) (ad 11) psize pclause peff pkin pgri psig psee) _ := my_subP sb_wPW_wPa_6to11 hP
        refine my_roi (va_Run.run (va_runSN (host := "PartyWill") (As := [.ref (ad 6), .long cnow, .int x1, .int r35, .int (0 : Int32)]) (rest := [.int x1, .int x2, .ref (ad 0)]) hFix (kX3_firstLeaving l D T F 8 (ad 6) (ad 7) (ad 8) (ad 9) (ad 10) (ad 11) psize pclause peff pkin pgri psig psee cnow x1 r35 (0 : Int32) r58 hc) ⟨va_cnB 5 hts gX5_fewest_X3_firstLeaving_n210 rfl rfl rfl (nw_X5_210 hKK.2) q12 hd_X3_firstLeaving ⟨Nat.le_of_ble_eq_true rfl, Nat.le_of_ble_eq_true rfl⟩, q76, trivial⟩ (preS_ro hPc hKK) rfl rfl hl.1 rfl (lv_room (Nat.le_of_ble_eq_true rfl)) dX5_fewest_58 ⟨Nat.zero_le _, Nat.zero_le _⟩)) ?_
        obtain ⟨w61_rs, w61_rm, hc, h⟩ := bd2_some h
        have hFc := my_freeS hD hS hA
        refine my_rwv (va_runV (As := [.int x2, .int x1, .int r58]) (rest := []) hFix (kX5_makeProgramme l D T F ad rs rm ts tm rdue rtun rsee rbeg psize pclause peff pkin pgri psig psee qsize qclause qeff qkin qgri qsig qsee cdee cnow cahe kdee know kahe fc lf told up lo x2 x1 r58 w61_rs w61_rm hc _) (cwV 3 hts gX5_fewest_X5_makeProgramme rfl rfl rfl ⟨rfl, hd_X5_makeProgramme⟩ ⟨Nat.le_of_ble_eq_true rfl, Nat.le_of_ble_eq_true rfl⟩) (preV_rw hP hKK hD (va_recv hK hP (ci := 3) (q0 := 0) rfl wPW_0)) rfl rfl hl.1 rfl (lv_room (Nat.le_of_ble_eq_true rfl)) dX5_fewest_61 ⟨Nat.zero_le _, Nat.zero_le _⟩) hS hFc (fun H1 locs hP1 hD1 hz1 hkk hS => ?_)
        have hP : va_P D vwCl (wPW T ad (ad 6) (ad 12) w61_rs w61_rm ts tm rdue rtun rsee rbeg psize pclause peff pkin pgri psig psee qsize qclause qeff qkin qgri qsig qsee cdee cnow cahe kdee know kahe fc lf told up lo) H1 := hP1
        have hD : va_D A (wPW T ad (ad 6) (ad 12) w61_rs w61_rm ts tm rdue rtun rsee rbeg psize pclause peff pkin pgri psig psee qsize qclause qeff qkin qgri qsig qsee cdee cnow cahe kdee know kahe fc lf told up lo) := hD1.weaken (fun _ q _ h => hFc q.1 h)
        generalize H1 = H at hP hS ⊢
        refine lv_aload_n hx hb dX5_fewest_64 rfl (lv_at hl 2 rfl) ?_
        refine va_get (D := D) (ci := 3) (C := RX5) (T := TX5) (N := 14) hx hb hts iX5 hown hK hP 0 wPW_0 rfl 7 (by decide) q2 (fun _ h9 => h9) rfl dX5_fewest_65 ?_
        refine va_getN (host := "PartyWill") (D := D) (ci := 0) (C := RX0) (T := TX0) (N := 3) hx hb hts iX0 hown hK hP 18 wPW_18 rfl 1 (by decide) (va_Nw.use rfl (nw_X5_127 hKK.2)) (fun _ h9 => h9) rfl dX5_fewest_68 ?_
        obtain ⟨r71, hc, h⟩ := bd1_some h
        refine my_roi (va_Run.run (va_runSN (host := "PartyWill") (As := [.long cnow]) (rest := []) hFix (kX1_howManyIn l D T F cnow r71 hc) ⟨va_cnB 1 hts gX5_fewest_X1_howManyIn_n207 rfl rfl rfl (nw_X5_207 hKK.2) q19 hd_X1_howManyIn ⟨Nat.le_of_ble_eq_true rfl, Nat.le_of_ble_eq_true rfl⟩, q18, trivial⟩ (preS_ro va_nil hKK) rfl rfl hl.1 rfl (lv_room (Nat.le_of_ble_eq_true rfl)) dX5_fewest_71 ⟨Nat.zero_le _, Nat.zero_le _⟩)) ?_
        refine lv_iload hx hb dX5_fewest_74 (lv_at hl 0 rfl) ?_
        refine lv_isub hx hb dX5_fewest_76 ?_
        cases h
        exact hret _ _ _ _ hP hD hS dX5_fewest_77
      · have h := br_0 h c18
        refine lv_iload_n hx hb dX5_fewest_21 rfl (lv_at hl 0 rfl) ?_
        cases h
        exact hret _ _ _ _ hP hD hS dX5_fewest_22
    unfold fX5_fewest at h
    refine lv_iload_n hx hb dX5_fewest_0 rfl (lv_at hl 2 rfl) ?_
    obtain ⟨r1, hc, h⟩ := bd1_some h
    refine my_roz (va_Run.run (va_runS (As := [.int x2]) (rest := []) hFix (kX5_isRow l D T F x2 r1 hc) (va_cwS 1 hts gX5_fewest_X5_isRow rfl rfl rfl hd_X5_isRow ⟨Nat.le_of_ble_eq_true rfl, Nat.le_of_ble_eq_true rfl⟩) (preS_ro va_nil hKK) rfl rfl hl.1 rfl (lv_room (Nat.le_of_ble_eq_true rfl)) dX5_fewest_1 ⟨Nat.zero_le _, Nat.zero_le _⟩)) (fun hb1 => ?_)
    refine lv_if_eq (tgt := 15) hx hb dX5_fewest_4 (by decide) (fun c4 => ?_) (fun c4 => ?_)
    · have h := br_1 h c4
      refine lv_iconst (v := (-1 : Int32)) hx hb dX5_fewest_15 (by decide) ?_
      exact n16 (-1 : Int32) x1 x2 rs rm h _ _ hP hD hS _ (lv_sub hl [0, 1, 2] rfl)
    · have h := br_0 h c4
      refine lv_aload_n hx hb dX5_fewest_7 rfl (lv_at hl 0 rfl) ?_
      refine lv_iload_n hx hb dX5_fewest_8 rfl (lv_at hl 1 rfl) ?_
      obtain ⟨r9, hc, h⟩ := bd1_some h
      refine my_roi (va_Run.run (va_runV (As := [.int x1]) (rest := []) hFix (kX5_searchRefusal l D T F ad rs rm ts tm rdue rtun rsee rbeg psize pclause peff pkin pgri psig psee qsize qclause qeff qkin qgri qsig qsee cdee cnow cahe kdee know kahe fc lf told up lo x1 r9 hc) (cwV 1 hts gX5_fewest_X5_searchRefusal rfl rfl rfl ⟨rfl, hd_X5_searchRefusal⟩ ⟨Nat.le_of_ble_eq_true rfl, Nat.le_of_ble_eq_true rfl⟩) (preV_ro hP hKK (va_recv hK hP (ci := 3) (q0 := 0) rfl wPW_0)) rfl rfl hl.1 rfl (lv_room (Nat.le_of_ble_eq_true rfl)) dX5_fewest_9 ⟨Nat.zero_le _, Nat.zero_le _⟩)) ?_
      refine lv_goto (tgt := 16) hx hb dX5_fewest_12 (by decide) ?_
      exact n16 r9 x1 x2 rs rm h _ _ hP hD hS _ (lv_sub hl [0, 1, 2] rfl)
  exact key _ (fun H locs pc ls hP hD hS hd => W.iret hx hb hr (fun t ht hW => ⟨⟨_, (), rfl, rfl, by show _ ∧ _; rw [ht]; exact ⟨hP, hD⟩⟩, hS.F ht⟩) hS.2.2 hd)
set_option maxHeartbeats 4000000 in
set_option maxRecDepth 100000 in
theorem kX5_gay (l : Launch) (D : va_G) (T : Nat → ClassId) (F : Nat) (ad : Nat → Nat) (rs : Nat → Int32) (rm : Nat → Nat → Int32) (ts : Nat → Int32) (tm : Nat → Nat → Int32) (rdue : Int32) (rtun : Int32) (rsee : Int32) (rbeg : Int32) (psize : Int32) (pclause : Int32) (peff : Nat → Int32) (pkin : Nat → Int32) (pgri : Nat → Int32) (psig : Nat → Int32) (psee : Nat → Int32) (qsize : Int32) (qclause : Int32) (qeff : Nat → Int32) (qkin : Nat → Int32) (qgri : Nat → Int32) (qsig : Nat → Int32) (qsee : Nat → Int32) (cdee : Int32) (cnow : Int64) (cahe : Nat → Int64) (kdee : Nat → Int32) (know : Nat → Int64) (kahe : Nat → Nat → Int64) (fc : Nat → Int32) (lf : Int32) (told : Int32) (up : Int64) (lo : Int64) (r : Int32) (h : fX5_gay F psize pclause peff pkin psee cnow = some (r)) : Met l yX5_gay wsX5_gay ({ frames := 31, cells := 0, slots := 0, locals := 926 } : Room) (va_Pc [.ref (ad 0)] (fun U => va_P D vwCl (wPW T ad (ad 6) (ad 12) rs rm ts tm rdue rtun rsee rbeg psize pclause peff pkin pgri psig psee qsize qclause qeff qkin qgri qsig qsee cdee cnow cahe kdee know kahe fc lf told up lo) U.heap ∧ KK D T U)) (vp_Si (fun r' => r' = r)) 0 0 (fun _ => False) := by
  refine Met.ofW (cc := cX5_gay) (maxL := 2) (ret := some .int) (by decide) rfl ?_
  intro p e s m args below meth c s₁ B hml hv
  obtain ⟨ha, hP, hKK⟩ := hv
  have hx := B.exec
  have hb := B.bytes
  have hr := B.returns
  have hts := atoms_spec (ws := wsX5_gay) B.pre
  have hown : s.vm.findClass RX5 = some m.cls := findClass_of_methodNamed B.named
  have hlocks := B.notSynchronized
  have hK := hKK.1
  have hFix : CallFix p m c cX5_gay 2 s args wsX5_gay RX5 := ⟨hx, hb, hml, hown, hts⟩
  have q1 := hts _ (List.mem_of_getElem? (i := 1) (show wsX5_gay[1]? = some (Cond.fieldLink RX5 36 "PartyWill" "party" "LPartyWill$Party;") from rfl))
  have q2 := hts _ (List.mem_of_getElem? (i := 2) (show wsX5_gay[2]? = some (Cond.fieldLink RX5 46 "PartyWill" "course" "LPartyWill$Course;") from rfl))
  have q3 := hts _ (List.mem_of_getElem? (i := 3) (show wsX5_gay[3]? = some (Cond.static yX3_canCheerAll) from rfl))
  have q4 := hts _ (List.mem_of_getElem? (i := 4) (show wsX5_gay[4]? = some (Cond.initialized RX3) from rfl))
  have iX0 : ∀ w ∈ u_ws RX0 TX0 3, w ∈ wsX5_gay := fun w h => List.mem_cons_of_mem _ (List.mem_append_right _ (h))
  have iX2 : ∀ w ∈ u_ws RX2 TX2 7, w ∈ wsX5_gay := fun w h => List.mem_cons_of_mem _ (List.mem_append_left _ (List.mem_append_right _ (h)))
  have iX5 : ∀ w ∈ u_ws RX5 TX5 14, w ∈ wsX5_gay := fun w h => List.mem_cons_of_mem _ (List.mem_append_left _ (List.mem_append_left _ (List.mem_append_right _ (h))))
  obtain ⟨ls, hl, e0⟩ := my_entry (m := m) (n := 2) ha (Nat.le_of_ble_eq_true rfl)
  rw [e0]
  have hl : lv_has ls 2 [(0, .ref (ad 0))] := hl
  have key : ∀ Q : State → Prop, (∀ (pc : Nat) (ls : Array Slot), decode cX5_gay pc = .ok (.ireturn, 1) → W p l e ({ frames := 31, cells := 0, slots := 0, locals := 926 } : Room) s m args below meth c s.heap [] 0 0 Q (F0 m pc ls [.int r])) → W p l e ({ frames := 31, cells := 0, slots := 0, locals := 926 } : Room) s m args below meth c s.heap [] 0 0 Q (F0 m 0 ls []) := by
    intro Q hret
    have l15 : ∀ nu : Nat, ∀ x1 : Int32, fX5_gay_l15 F psize pclause peff pkin psee cnow nu x1 = some (r) → ∀ (ls : Array Slot), lv_has ls 2 [(0, .ref (ad 0)), (1, .int x1)] → W p l e ({ frames := 31, cells := 0, slots := 0, locals := 926 } : Room) s m args below meth c s.heap [] 0 0 Q (F0 m 15 ls []) := by
      intro nu
      induction nu with
      | zero => intro x1 h; exact none_some h
      | succ nu15 ih15 =>
        intro x1 h ls hl
        have h : fX5_gay_l15_b F psize pclause peff pkin psee cnow (fX5_gay_l15 F psize pclause peff pkin psee cnow nu15) x1 = some (r) := h
        unfold fX5_gay_l15_b at h
        refine lv_iload_n hx hb dX5_gay_15 rfl (lv_at hl 1 rfl) ?_
        refine lv_bipush (v := (6 : Int32)) hx hb dX5_gay_16 (by decide) ?_
        refine lv_icmp_gt (tgt := 47) hx hb dX5_gay_18 (by decide) (fun c18 => ?_) (fun c18 => ?_)
        · have h := br_1 h c18
          refine lv_bipush (v := (-9 : Int32)) hx hb dX5_gay_47 (by decide) ?_
          cases h
          exact hret _ _ dX5_gay_49
        · have h := br_0 h c18
          refine lv_aload_n hx hb dX5_gay_21 rfl (lv_at hl 0 rfl) ?_
          refine va_get (D := D) (ci := 3) (C := RX5) (T := TX5) (N := 14) hx hb hts iX5 hown hK hP 0 wPW_0 rfl 5 (by decide) q1 (fun _ h9 => h9) rfl dX5_gay_22 ?_
          refine lv_aload_n hx hb dX5_gay_25 rfl (lv_at hl 0 rfl) ?_
          refine va_get (D := D) (ci := 3) (C := RX5) (T := TX5) (N := 14) hx hb hts iX5 hown hK hP 0 wPW_0 rfl 7 (by decide) q2 (fun _ h9 => h9) rfl dX5_gay_26 ?_
          refine va_getN (host := "PartyWill") (D := D) (ci := 0) (C := RX0) (T := TX0) (N := 3) hx hb hts iX0 hown hK hP 18 wPW_18 rfl 1 (by decide) (va_Nw.use rfl (nw_X5_127 hKK.2)) (fun _ h9 => h9) rfl dX5_gay_29 ?_
          refine lv_iload_n hx hb dX5_gay_32 rfl (lv_at hl 1 rfl) ?_
          obtain ⟨r33, hc, h⟩ := bd1_some h
          have hPc : va_P D vwCl (wPa T (ad 6) (ad 7) (ad 8) (ad 9) (ad 10) (ad 11) psize pclause peff pkin pgri psig psee) _ := my_subP sb_wPW_wPa_6to11 hP
          refine my_roz (va_Run.run (va_runSN (host := "PartyWill") (As := [.ref (ad 6), .long cnow, .int x1]) (rest := []) hFix (kX3_canCheerAll l D T F 8 (ad 6) (ad 7) (ad 8) (ad 9) (ad 10) (ad 11) psize pclause peff pkin pgri psig psee cnow x1 r33 hc) ⟨va_cnB 3 hts gX5_gay_X3_canCheerAll_n222 rfl rfl rfl (nw_X5_222 hKK.2) q4 hd_X3_canCheerAll ⟨Nat.le_of_ble_eq_true rfl, Nat.le_of_ble_eq_true rfl⟩, q3, trivial⟩ (preS_ro hPc hKK) rfl rfl hl.1 rfl (lv_room (Nat.le_of_ble_eq_true rfl)) dX5_gay_33 ⟨Nat.zero_le _, Nat.zero_le _⟩)) (fun hb33 => ?_)
          refine lv_if_eq (tgt := 41) hx hb dX5_gay_36 (by decide) (fun c36 => ?_) (fun c36 => ?_)
          · have h := br_1 h c36
            refine lv_iinc (v := (x1 + (1 : Int32))) (lv' := [(1, .int (x1 + (1 : Int32))), (0, .ref (ad 0))]) hx hb dX5_gay_41 hl (k := 1) rfl rfl (by decide) rfl (fun ls hl => ?_)
            refine lv_goto (tgt := 15) hx hb dX5_gay_44 (by decide) ?_
            exact ih15 (x1 + (1 : Int32)) h _ (lv_sub hl [1, 0] rfl)
          · have h := br_0 h c36
            refine lv_iload_n hx hb dX5_gay_39 rfl (lv_at hl 1 rfl) ?_
            cases h
            exact hret _ _ dX5_gay_40
    unfold fX5_gay at h
    refine lv_aload_n hx hb dX5_gay_0 rfl (lv_at hl 0 rfl) ?_
    refine va_get (D := D) (ci := 3) (C := RX5) (T := TX5) (N := 14) hx hb hts iX5 hown hK hP 0 wPW_0 rfl 5 (by decide) q1 (fun _ h9 => h9) rfl dX5_gay_1 ?_
    refine va_getN (host := "PartyWill") (D := D) (ci := 1) (C := RX2) (T := TX2) (N := 7) hx hb hts iX2 hown hK hP 6 wPW_6 rfl 0 (by decide) (va_Nw.use rfl (nw_X5_111 hKK.2)) (fun _ h9 => h9) rfl dX5_gay_4 ?_
    refine lv_if_ne (tgt := 13) hx hb dX5_gay_7 (by decide) (fun c7 => ?_) (fun c7 => ?_)
    · have h := br_0 h c7
      refine lv_iconst (v := (0 : Int32)) hx hb dX5_gay_13 (by decide) ?_
      refine lv_istore_n (lv' := [(1, .int (0 : Int32)), (0, .ref (ad 0))]) hx hb dX5_gay_14 rfl hl (by decide) rfl (fun ls hl => ?_)
      exact l15 F (0 : Int32) h _ (lv_sub hl [1, 0] rfl)
    · have h := br_1 h c7
      refine lv_bipush (v := (-4 : Int32)) hx hb dX5_gay_10 (by decide) ?_
      cases h
      exact hret _ _ dX5_gay_12
  exact key _ (fun pc ls hd => W.iret hx hb hr (fun t ht hW => ⟨_, rfl, rfl, ht⟩) (fun q h => by cases h) hd)
set_option maxHeartbeats 4000000 in
set_option maxRecDepth 100000 in
theorem kX5_icesNeededBy (l : Launch) (D : va_G) (T : Nat → ClassId) (F : Nat) (ad : Nat → Nat) (rs : Nat → Int32) (rm : Nat → Nat → Int32) (ts : Nat → Int32) (tm : Nat → Nat → Int32) (rdue : Int32) (rtun : Int32) (rsee : Int32) (rbeg : Int32) (psize : Int32) (pclause : Int32) (peff : Nat → Int32) (pkin : Nat → Int32) (pgri : Nat → Int32) (psig : Nat → Int32) (psee : Nat → Int32) (qsize : Int32) (qclause : Int32) (qeff : Nat → Int32) (qkin : Nat → Int32) (qgri : Nat → Int32) (qsig : Nat → Int32) (qsee : Nat → Int32) (cdee : Int32) (cnow : Int64) (cahe : Nat → Int64) (kdee : Nat → Int32) (know : Nat → Int64) (kahe : Nat → Nat → Int64) (fc : Nat → Int32) (lf : Int32) (told : Int32) (up : Int64) (lo : Int64) (x1 : Int32) (x2 : Int32) (r : Int32) (h : fX5_icesNeededBy F rs rm pclause peff pkin psee cnow x1 x2 = some (r)) : Met l yX5_icesNeededBy wsX5_icesNeededBy ({ frames := 4, cells := 0, slots := 0, locals := 101 } : Room) (va_Pc [.ref (ad 0), .int x1, .int x2] (fun U => va_P D vwCl (wPW T ad (ad 6) (ad 12) rs rm ts tm rdue rtun rsee rbeg psize pclause peff pkin pgri psig psee qsize qclause qeff qkin qgri qsig qsee cdee cnow cahe kdee know kahe fc lf told up lo) U.heap ∧ KK D T U)) (vp_Si (fun r' => r' = r)) 0 0 (fun _ => False) := by
  refine Met.ofW (cc := cX5_icesNeededBy) (maxL := 5) (ret := some .int) (by decide) rfl ?_
  intro p e s m args below meth c s₁ B hml hv
  obtain ⟨ha, hP, hKK⟩ := hv
  have hx := B.exec
  have hb := B.bytes
  have hr := B.returns
  have hts := atoms_spec (ws := wsX5_icesNeededBy) B.pre
  have hown : s.vm.findClass RX5 = some m.cls := findClass_of_methodNamed B.named
  have hlocks := B.notSynchronized
  have hK := hKK.1
  have hFix : CallFix p m c cX5_icesNeededBy 5 s args wsX5_icesNeededBy RX5 := ⟨hx, hb, hml, hown, hts⟩
  have q1 := hts _ (List.mem_of_getElem? (i := 1) (show wsX5_icesNeededBy[1]? = some (Cond.fieldLink RX5 36 "PartyWill" "party" "LPartyWill$Party;") from rfl))
  have q2 := hts _ (List.mem_of_getElem? (i := 2) (show wsX5_icesNeededBy[2]? = some (Cond.fieldLink RX5 46 "PartyWill" "course" "LPartyWill$Course;") from rfl))
  have q3 := hts _ (List.mem_of_getElem? (i := 3) (show wsX5_icesNeededBy[3]? = some (Cond.fieldLink RX5 11 "PartyWill" "rows" "[[I") from rfl))
  have q4 := hts _ (List.mem_of_getElem? (i := 4) (show wsX5_icesNeededBy[4]? = some (Cond.fieldLink RX5 14 "PartyWill" "rowSizes" "[I") from rfl))
  have q5 := hts _ (List.mem_of_getElem? (i := 5) (show wsX5_icesNeededBy[5]? = some (Cond.static yX1_insiders) from rfl))
  have q6 := hts _ (List.mem_of_getElem? (i := 6) (show wsX5_icesNeededBy[6]? = some (Cond.initialized RX1) from rfl))
  have q8 := hts _ (List.mem_of_getElem? (i := 8) (show wsX5_icesNeededBy[8]? = some (Cond.instanceMethod yX2_canFall) from rfl))
  have q9 := hts _ (List.mem_of_getElem? (i := 9) (show wsX5_icesNeededBy[9]? = some (Cond.initialized RX2) from rfl))
  have q10 := hts _ (List.mem_of_getElem? (i := 10) (show wsX5_icesNeededBy[10]? = some (Cond.selects RX2 yX2_canFall yX2_canFall) from rfl))
  have q14 := hts _ (List.mem_of_getElem? (i := 14) (show wsX5_icesNeededBy[14]? = some (Cond.static yX1_griefOf) from rfl))
  have q17 := hts _ (List.mem_of_getElem? (i := 17) (show wsX5_icesNeededBy[17]? = some (Cond.static yX2_bounded) from rfl))
  have q26 := hts _ (List.mem_of_getElem? (i := 26) (show wsX5_icesNeededBy[26]? = some (Cond.instanceMethod yX2_keepsTheClause) from rfl))
  have q27 := hts _ (List.mem_of_getElem? (i := 27) (show wsX5_icesNeededBy[27]? = some (Cond.selects RX2 yX2_keepsTheClause yX2_keepsTheClause) from rfl))
  have iX0 : ∀ w ∈ u_ws RX0 TX0 3, w ∈ wsX5_icesNeededBy := fun w h => List.mem_cons_of_mem _ (List.mem_append_left _ (List.mem_append_right _ (h)))
  have iX5 : ∀ w ∈ u_ws RX5 TX5 14, w ∈ wsX5_icesNeededBy := fun w h => List.mem_cons_of_mem _ (List.mem_append_left _ (List.mem_append_left _ (List.mem_append_right _ (h))))
  obtain ⟨ls, hl, e0⟩ := my_entry (m := m) (n := 5) ha (Nat.le_of_ble_eq_true rfl)
  rw [e0]
  have hl : lv_has ls 5 [(0, .ref (ad 0)), (1, .int x1), (2, .int x2)] := hl
  have key : ∀ Q : State → Prop, (∀ (pc : Nat) (ls : Array Slot), decode cX5_icesNeededBy pc = .ok (.ireturn, 1) → W p l e ({ frames := 4, cells := 0, slots := 0, locals := 101 } : Room) s m args below meth c s.heap [] 0 0 Q (F0 m pc ls [.int r])) → W p l e ({ frames := 4, cells := 0, slots := 0, locals := 101 } : Room) s m args below meth c s.heap [] 0 0 Q (F0 m 0 ls []) := by
    intro Q hret
    have l25 : ∀ x1 : Int32, ∀ x2 : Int32, ∀ nu : Nat, ∀ x3 : Int32, fX5_icesNeededBy_l25 F rs rm pclause peff pkin psee cnow x1 x2 nu x3 = some (r) → ∀ (ls : Array Slot), lv_has ls 5 [(0, .ref (ad 0)), (1, .int x1), (2, .int x2), (3, .int x3)] → W p l e ({ frames := 4, cells := 0, slots := 0, locals := 101 } : Room) s m args below meth c s.heap [] 0 0 Q (F0 m 25 ls []) := by
      intro x1 x2
      intro nu
      induction nu with
      | zero => intro x3 h; exact none_some h
      | succ nu25 ih25 =>
        intro x3 h ls hl
        have h : fX5_icesNeededBy_l25_b F rs rm pclause peff pkin psee cnow x1 x2 (fX5_icesNeededBy_l25 F rs rm pclause peff pkin psee cnow x1 x2 nu25) x3 = some (r) := h
        unfold fX5_icesNeededBy_l25_b at h
        refine lv_iload_n hx hb dX5_icesNeededBy_25 rfl (lv_at hl 3 rfl) ?_
        refine lv_bipush (v := (7 : Int32)) hx hb dX5_icesNeededBy_26 (by decide) ?_
        refine lv_icmp_gt (tgt := 84) hx hb dX5_icesNeededBy_28 (by decide) (fun c28 => ?_) (fun c28 => ?_)
        · have h := br_1 h c28
          refine lv_bipush (v := (-9 : Int32)) hx hb dX5_icesNeededBy_84 (by decide) ?_
          cases h
          exact hret _ _ dX5_icesNeededBy_86
        · have h := br_0 h c28
          refine lv_aload_n hx hb dX5_icesNeededBy_31 rfl (lv_at hl 0 rfl) ?_
          refine va_get (D := D) (ci := 3) (C := RX5) (T := TX5) (N := 14) hx hb hts iX5 hown hK hP 0 wPW_0 rfl 7 (by decide) q2 (fun _ h9 => h9) rfl dX5_icesNeededBy_32 ?_
          refine va_getN (host := "PartyWill") (D := D) (ci := 0) (C := RX0) (T := TX0) (N := 3) hx hb hts iX0 hown hK hP 18 wPW_18 rfl 1 (by decide) (va_Nw.use rfl (nw_X5_127 hKK.2)) (fun _ h9 => h9) rfl dX5_icesNeededBy_35 ?_
          refine lv_iload_n hx hb dX5_icesNeededBy_38 rfl (lv_at hl 1 rfl) ?_
          obtain ⟨r39, hc, h⟩ := bd1_some h
          refine my_roi (va_Run.run (va_runSN (host := "PartyWill") (As := [.long cnow, .int x1]) (rest := []) hFix (kX1_griefOf l D T F cnow x1 r39 hc) ⟨va_cnB 2 hts gX5_icesNeededBy_X1_griefOf_n175 rfl rfl rfl (nw_X5_175 hKK.2) q6 hd_X1_griefOf ⟨Nat.le_of_ble_eq_true rfl, Nat.le_of_ble_eq_true rfl⟩, q14, trivial⟩ (preS_ro va_nil hKK) rfl rfl hl.1 rfl (lv_room (Nat.le_of_ble_eq_true rfl)) dX5_icesNeededBy_39 ⟨Nat.zero_le _, Nat.zero_le _⟩)) ?_
          refine lv_iconst (v := (3 : Int32)) hx hb dX5_icesNeededBy_42 (by decide) ?_
          refine lv_iload_n hx hb dX5_icesNeededBy_43 rfl (lv_at hl 3 rfl) ?_
          refine lv_imul hx hb dX5_icesNeededBy_44 ?_
          refine lv_isub hx hb dX5_icesNeededBy_45 ?_
          obtain ⟨r46, hc, h⟩ := bd1_some h
          refine my_roi (va_Run.run (va_runSN (host := "PartyWill") (As := [.int (r39 - ((3 : Int32) * x3))]) (rest := []) hFix (kX2_bounded l D T F (r39 - ((3 : Int32) * x3)) r46 hc) ⟨va_cnB 1 hts gX5_icesNeededBy_X2_bounded_n310 rfl rfl rfl (nw_X5_310 hKK.2) q9 hd_X2_bounded ⟨Nat.le_of_ble_eq_true rfl, Nat.le_of_ble_eq_true rfl⟩, q17, trivial⟩ (preS_ro va_nil hKK) rfl rfl hl.1 rfl (lv_room (Nat.le_of_ble_eq_true rfl)) dX5_icesNeededBy_46 ⟨Nat.zero_le _, Nat.zero_le _⟩)) ?_
          refine lv_istore (lv' := [(4, .int r46), (0, .ref (ad 0)), (1, .int x1), (2, .int x2), (3, .int x3)]) hx hb dX5_icesNeededBy_49 hl (by decide) rfl (fun ls hl => ?_)
          refine lv_aload_n hx hb dX5_icesNeededBy_51 rfl (lv_at hl 1 rfl) ?_
          refine va_get (D := D) (ci := 3) (C := RX5) (T := TX5) (N := 14) hx hb hts iX5 hown hK hP 0 wPW_0 rfl 5 (by decide) q1 (fun _ h9 => h9) rfl dX5_icesNeededBy_52 ?_
          refine lv_iload_n hx hb dX5_icesNeededBy_55 rfl (lv_at hl 2 rfl) ?_
          refine lv_iload hx hb dX5_icesNeededBy_56 (lv_at hl 0 rfl) ?_
          refine lv_aload_n hx hb dX5_icesNeededBy_58 rfl (lv_at hl 1 rfl) ?_
          refine va_get (D := D) (ci := 3) (C := RX5) (T := TX5) (N := 14) hx hb hts iX5 hown hK hP 0 wPW_0 rfl 0 (by decide) q3 (fun _ h9 => h9) rfl dX5_icesNeededBy_59 ?_
          refine lv_iload_n hx hb dX5_icesNeededBy_62 rfl (lv_at hl 3 rfl) ?_
          obtain ⟨hin2, h⟩ := ck_some h
          have hk1 : x2.toNatClampNeg < 6 := vp_lt hin2
          refine my_ald (b := (ad (28 + x2.toNatClampNeg))) rfl hx hb hK hP 1 4 wPW_1 rfl hin2 (fun _ => if_pos hk1) dX5_icesNeededBy_63 ?_
          refine lv_aload_n hx hb dX5_icesNeededBy_64 rfl (lv_at hl 1 rfl) ?_
          refine va_get (D := D) (ci := 3) (C := RX5) (T := TX5) (N := 14) hx hb hts iX5 hown hK hP 0 wPW_0 rfl 1 (by decide) q4 (fun _ h9 => h9) rfl dX5_icesNeededBy_65 ?_
          refine lv_iload_n hx hb dX5_icesNeededBy_68 rfl (lv_at hl 3 rfl) ?_
          obtain ⟨hin3, h⟩ := ck_some h
          refine va_iald hx hb hK hP 2 0 wPW_2 rfl hin3 dX5_icesNeededBy_69 ?_
          obtain ⟨r70, hc, h⟩ := bd1_some h
          have hPc : va_P D vwCl (wPaA T (ad 6) (ad 7) (ad 8) (ad 9) (ad 10) (ad 11) (ad (28 + x2.toNatClampNeg)) psize pclause peff pkin pgri psig psee (rm x2.toNatClampNeg)) _ := my_subP (sb_wPW_wPaA_6torows0 hk1) hP
          refine my_roz (va_Run.run (va_runVN (host := "PartyWill") (As := [.int x1, .int r46, .ref (ad (28 + x2.toNatClampNeg)), .int (rs x2.toNatClampNeg)]) (rest := []) hFix (kX2_keepsTheClause l D T F (ad 6) (ad 7) (ad 8) (ad 9) (ad 10) (ad 11) (ad (28 + x2.toNatClampNeg)) psize pclause peff pkin pgri psig psee (rm x2.toNatClampNeg) x1 r46 (rs x2.toNatClampNeg) r70 hc) ⟨va_cnB 4 hts gX5_icesNeededBy_X2_keepsTheClause_n313 rfl rfl rfl (nw_X5_313 hKK.2) q9 hd_X2_keepsTheClause ⟨Nat.le_of_ble_eq_true rfl, Nat.le_of_ble_eq_true rfl⟩, q26, q27⟩ (preV_ro hPc hKK (va_recv hK hP (ci := 1) (q0 := 6) rfl wPW_6)) rfl rfl hl.1 rfl (lv_room (Nat.le_of_ble_eq_true rfl)) dX5_icesNeededBy_70 ⟨Nat.zero_le _, Nat.zero_le _⟩)) (fun hb70 => ?_)
          refine lv_if_eq (tgt := 78) hx hb dX5_icesNeededBy_73 (by decide) (fun c73 => ?_) (fun c73 => ?_)
          · have h := br_1 h c73
            refine lv_iinc (v := (x3 + (1 : Int32))) (lv' := [(3, .int (x3 + (1 : Int32))), (4, .int r46), (0, .ref (ad 0)), (1, .int x1), (2, .int x2)]) hx hb dX5_icesNeededBy_78 hl (k := 4) rfl rfl (by decide) rfl (fun ls hl => ?_)
            refine lv_goto (tgt := 25) hx hb dX5_icesNeededBy_81 (by decide) ?_
            exact ih25 (x3 + (1 : Int32)) h _ (lv_sub hl [2, 3, 4, 0] rfl)
          · have h := br_0 h c73
            refine lv_iload_n hx hb dX5_icesNeededBy_76 rfl (lv_at hl 4 rfl) ?_
            cases h
            exact hret _ _ dX5_icesNeededBy_77
    unfold fX5_icesNeededBy at h
    refine lv_aload_n hx hb dX5_icesNeededBy_0 rfl (lv_at hl 0 rfl) ?_
    refine va_get (D := D) (ci := 3) (C := RX5) (T := TX5) (N := 14) hx hb hts iX5 hown hK hP 0 wPW_0 rfl 5 (by decide) q1 (fun _ h9 => h9) rfl dX5_icesNeededBy_1 ?_
    refine lv_aload_n hx hb dX5_icesNeededBy_4 rfl (lv_at hl 0 rfl) ?_
    refine va_get (D := D) (ci := 3) (C := RX5) (T := TX5) (N := 14) hx hb hts iX5 hown hK hP 0 wPW_0 rfl 7 (by decide) q2 (fun _ h9 => h9) rfl dX5_icesNeededBy_5 ?_
    refine va_getN (host := "PartyWill") (D := D) (ci := 0) (C := RX0) (T := TX0) (N := 3) hx hb hts iX0 hown hK hP 18 wPW_18 rfl 1 (by decide) (va_Nw.use rfl (nw_X5_127 hKK.2)) (fun _ h9 => h9) rfl dX5_icesNeededBy_8 ?_
    obtain ⟨r11, hc, h⟩ := bd1_some h
    refine my_roi (va_Run.run (va_runSN (host := "PartyWill") (As := [.long cnow]) (rest := [.ref (ad 6)]) hFix (kX1_insiders l D T F cnow r11 hc) ⟨va_cnB 1 hts gX5_icesNeededBy_X1_insiders_n158 rfl rfl rfl (nw_X5_158 hKK.2) q6 hd_X1_insiders ⟨Nat.le_of_ble_eq_true rfl, Nat.le_of_ble_eq_true rfl⟩, q5, trivial⟩ (preS_ro va_nil hKK) rfl rfl hl.1 rfl (lv_room (Nat.le_of_ble_eq_true rfl)) dX5_icesNeededBy_11 ⟨Nat.zero_le _, Nat.zero_le _⟩)) ?_
    refine lv_iload_n hx hb dX5_icesNeededBy_14 rfl (lv_at hl 1 rfl) ?_
    obtain ⟨r15, hc, h⟩ := bd1_some h
    have hPc : va_P D vwCl (wPa T (ad 6) (ad 7) (ad 8) (ad 9) (ad 10) (ad 11) psize pclause peff pkin pgri psig psee) _ := my_subP sb_wPW_wPa_6to11 hP
    refine my_roz (va_Run.run (va_runVN (host := "PartyWill") (As := [.int r11, .int x1]) (rest := []) hFix (kX2_canFall l D T F (ad 6) (ad 7) (ad 8) (ad 9) (ad 10) (ad 11) psize pclause peff pkin pgri psig psee r11 x1 r15 hc) ⟨va_cnB 2 hts gX5_icesNeededBy_X2_canFall_n307 rfl rfl rfl (nw_X5_307 hKK.2) q9 hd_X2_canFall ⟨Nat.le_of_ble_eq_true rfl, Nat.le_of_ble_eq_true rfl⟩, q8, q10⟩ (preV_ro hPc hKK (va_recv hK hP (ci := 1) (q0 := 6) rfl wPW_6)) rfl rfl hl.1 rfl (lv_room (Nat.le_of_ble_eq_true rfl)) dX5_icesNeededBy_15 ⟨Nat.zero_le _, Nat.zero_le _⟩)) (fun hb15 => ?_)
    refine lv_if_ne (tgt := 23) hx hb dX5_icesNeededBy_18 (by decide) (fun c18 => ?_) (fun c18 => ?_)
    · have h := br_0 h c18
      refine lv_iconst (v := (0 : Int32)) hx hb dX5_icesNeededBy_23 (by decide) ?_
      refine lv_istore_n (lv' := [(3, .int (0 : Int32)), (0, .ref (ad 0)), (1, .int x1), (2, .int x2)]) hx hb dX5_icesNeededBy_24 rfl hl (by decide) rfl (fun ls hl => ?_)
      exact l25 x1 x2 F (0 : Int32) h _ (lv_sub hl [1, 2, 3, 0] rfl)
    · have h := br_1 h c18
      refine lv_iconst (v := (0 : Int32)) hx hb dX5_icesNeededBy_21 (by decide) ?_
      cases h
      exact hret _ _ dX5_icesNeededBy_22
  exact key _ (fun pc ls hd => W.iret hx hb hr (fun t ht hW => ⟨_, rfl, rfl, ht⟩) (fun q h => by cases h) hd)
set_option maxHeartbeats 4000000 in
set_option maxRecDepth 100000 in
theorem kX5_ices (l : Launch) (D : va_G) (T : Nat → ClassId) (F : Nat) (ad : Nat → Nat) (rs : Nat → Int32) (rm : Nat → Nat → Int32) (ts : Nat → Int32) (tm : Nat → Nat → Int32) (rdue : Int32) (rtun : Int32) (rsee : Int32) (rbeg : Int32) (psize : Int32) (pclause : Int32) (peff : Nat → Int32) (pkin : Nat → Int32) (pgri : Nat → Int32) (psig : Nat → Int32) (psee : Nat → Int32) (qsize : Int32) (qclause : Int32) (qeff : Nat → Int32) (qkin : Nat → Int32) (qgri : Nat → Int32) (qsig : Nat → Int32) (qsee : Nat → Int32) (cdee : Int32) (cnow : Int64) (cahe : Nat → Int64) (kdee : Nat → Int32) (know : Nat → Int64) (kahe : Nat → Nat → Int64) (fc : Nat → Int32) (lf : Int32) (told : Int32) (up : Int64) (lo : Int64) (x1 : Int32) (r : Int32) (zfc : Nat → Int32) (zlf : Int32) (h : fX5_ices F rs rm psize pclause peff pkin psee cnow fc lf x1 = some (r, zfc, zlf)) : ∀ sz : Nat, Met l yX5_ices wsX5_ices ({ frames := 5, cells := 0, slots := 0, locals := 125 } : Room) (va_Pc [.ref (ad 0), .int x1] (fun U => U.heap.size = sz ∧ va_P D vwCl (wPW T ad (ad 6) (ad 12) rs rm ts tm rdue rtun rsee rbeg psize pclause peff pkin pgri psig psee qsize qclause qeff qkin qgri qsig qsee cdee cnow cahe kdee know kahe fc lf told up lo) U.heap ∧ KK D T U ∧ va_D (fun _ => True) (wPW T ad (ad 6) (ad 12) rs rm ts tm rdue rtun rsee rbeg psize pclause peff pkin pgri psig psee qsize qclause qeff qkin qgri qsig qsee cdee cnow cahe kdee know kahe fc lf told up lo))) (va_Qi (fun r' (_ : Unit) => r' = r) (fun _ t => va_P D vwCl (wPW T ad (ad 6) (ad 12) rs rm ts tm rdue rtun rsee rbeg psize pclause peff pkin pgri psig psee qsize qclause qeff qkin qgri qsig qsee cdee cnow cahe kdee know kahe zfc zlf told up lo) t.heap ∧ va_D (va_A (wPW T ad (ad 6) (ad 12) rs rm ts tm rdue rtun rsee rbeg psize pclause peff pkin pgri psig psee qsize qclause qeff qkin qgri qsig qsee cdee cnow cahe kdee know kahe fc lf told up lo) sz) (wPW T ad (ad 6) (ad 12) rs rm ts tm rdue rtun rsee rbeg psize pclause peff pkin pgri psig psee qsize qclause qeff qkin qgri qsig qsee cdee cnow cahe kdee know kahe zfc zlf told up lo)) (va_A (wPW T ad (ad 6) (ad 12) rs rm ts tm rdue rtun rsee rbeg psize pclause peff pkin pgri psig psee qsize qclause qeff qkin qgri qsig qsee cdee cnow cahe kdee know kahe fc lf told up lo) sz)) 0 0 (va_A (wPW T ad (ad 6) (ad 12) rs rm ts tm rdue rtun rsee rbeg psize pclause peff pkin pgri psig psee qsize qclause qeff qkin qgri qsig qsee cdee cnow cahe kdee know kahe fc lf told up lo) sz) := by
  intro sz
  refine Met.ofW (cc := cX5_ices) (maxL := 6) (ret := some .int) (by decide) rfl ?_
  intro p e s m args below meth c s₁ B hml hv
  obtain ⟨ha, hsz, hP, hKK, hD0⟩ := hv
  have hx := B.exec
  have hb := B.bytes
  have hr := B.returns
  have hts := atoms_spec (ws := wsX5_ices) B.pre
  have hown : s.vm.findClass RX5 = some m.cls := findClass_of_methodNamed B.named
  have hlocks := B.notSynchronized
  have hK := hKK.1
  have hFix : CallFix p m c cX5_ices 6 s args wsX5_ices RX5 := ⟨hx, hb, hml, hown, hts⟩
  have q1 := hts _ (List.mem_of_getElem? (i := 1) (show wsX5_ices[1]? = some (Cond.fieldLink RX5 36 "PartyWill" "party" "LPartyWill$Party;") from rfl))
  have iX2 : ∀ w ∈ u_ws RX2 TX2 7, w ∈ wsX5_ices := fun w h => List.mem_cons_of_mem _ (List.mem_append_left _ (List.mem_append_right _ (h)))
  have iX5 : ∀ w ∈ u_ws RX5 TX5 14, w ∈ wsX5_ices := fun w h => List.mem_cons_of_mem _ (List.mem_append_left _ (List.mem_append_left _ (List.mem_append_right _ (h))))
  subst hsz
  have hD := hD0.self (sz := s.heap.size)
  generalize hAe : va_A (wPW T ad (ad 6) (ad 12) rs rm ts tm rdue rtun rsee rbeg psize pclause peff pkin pgri psig psee qsize qclause qeff qkin qgri qsig qsee cdee cnow cahe kdee know kahe fc lf told up lo) s.heap.size = A at hD ⊢
  have hA : ∀ q : Nat, s.heap.size ≤ q → A q := fun q h => by rw [← hAe]; exact Or.inr h
  have hS : va_S A s.heap s.heap [] := va_S.rf
  have hP : va_P D vwCl (wPW T ad (ad 6) (ad 12) rs rm ts tm rdue rtun rsee rbeg psize pclause peff pkin pgri psig psee qsize qclause qeff qkin qgri qsig qsee cdee cnow cahe kdee know kahe fc lf told up lo) s.heap := hP
  obtain ⟨ls, hl, e0⟩ := my_entry (m := m) (n := 6) ha (Nat.le_of_ble_eq_true rfl)
  rw [e0]
  have hl : lv_has ls 6 [(0, .ref (ad 0)), (1, .int x1)] := hl
  have key : ∀ Q : State → Prop, (∀ (H : Heap) (locs : List Loc) (pc : Nat) (ls : Array Slot), va_P D vwCl (wPW T ad (ad 6) (ad 12) rs rm ts tm rdue rtun rsee rbeg psize pclause peff pkin pgri psig psee qsize qclause qeff qkin qgri qsig qsee cdee cnow cahe kdee know kahe zfc zlf told up lo) H → va_D A (wPW T ad (ad 6) (ad 12) rs rm ts tm rdue rtun rsee rbeg psize pclause peff pkin pgri psig psee qsize qclause qeff qkin qgri qsig qsee cdee cnow cahe kdee know kahe zfc zlf told up lo) → va_S A s.heap H locs → decode cX5_ices pc = .ok (.ireturn, 1) → W p l e ({ frames := 5, cells := 0, slots := 0, locals := 125 } : Room) s m args below meth c H locs 0 0 Q (F0 m pc ls [.int r])) → W p l e ({ frames := 5, cells := 0, slots := 0, locals := 125 } : Room) s m args below meth c s.heap [] 0 0 Q (F0 m 0 ls []) := by
    intro Q hret
    skip
    have l43 : ∀ x1 : Int32, ∀ fc : Nat → Int32, ∀ lf : Int32, ∀ nu : Nat, ∀ x3 : Int32, ∀ x4 : Int32, fX5_ices_l43 F rs rm psize pclause peff pkin psee cnow x1 fc lf nu x3 x4 = some (r, zfc, zlf) → ∀ (H : Heap) (locs : List Loc), va_P D vwCl (wPW T ad (ad 6) (ad 12) rs rm ts tm rdue rtun rsee rbeg psize pclause peff pkin pgri psig psee qsize qclause qeff qkin qgri qsig qsee cdee cnow cahe kdee know kahe fc lf told up lo) H → va_D A (wPW T ad (ad 6) (ad 12) rs rm ts tm rdue rtun rsee rbeg psize pclause peff pkin pgri psig psee qsize qclause qeff qkin qgri qsig qsee cdee cnow cahe kdee know kahe fc lf told up lo) → va_S A s.heap H locs → ∀ (ls : Array Slot), lv_has ls 6 [(0, .ref (ad 0)), (1, .int x1), (3, .int x3), (4, .int x4)] → W p l e ({ frames := 5, cells := 0, slots := 0, locals := 125 } : Room) s m args below meth c H locs 0 0 Q (F0 m 43 ls []) := by
      intro x1 fc lf
      intro nu
      induction nu with
      | zero => intro x3 x4 h; exact none_some h
      | succ nu43 ih43 =>
        intro x3 x4 h H locs hP hD hS ls hl
        have h : fX5_ices_l43_b F rs rm psize pclause peff pkin psee cnow x1 fc lf (fX5_ices_l43 F rs rm psize pclause peff pkin psee cnow x1 fc lf nu43) x3 x4 = some (r, zfc, zlf) := h
        unfold fX5_ices_l43_b at h
        refine lv_iload hx hb dX5_ices_43 (lv_at hl 3 rfl) ?_
        refine lv_aload_n hx hb dX5_ices_45 rfl (lv_at hl 0 rfl) ?_
        refine va_get (D := D) (ci := 3) (C := RX5) (T := TX5) (N := 14) hx hb hts iX5 hown hK hP 0 wPW_0 rfl 5 (by decide) q1 (fun _ h9 => h9) rfl dX5_ices_46 ?_
        refine va_getN (host := "PartyWill") (D := D) (ci := 1) (C := RX2) (T := TX2) (N := 7) hx hb hts iX2 hown hK hP 6 wPW_6 rfl 0 (by decide) (va_Nw.use rfl (nw_X5_111 hKK.2)) (fun _ h9 => h9) rfl dX5_ices_49 ?_
        refine lv_icmp_ge (tgt := 85) hx hb dX5_ices_52 (by decide) (fun c52 => ?_) (fun c52 => ?_)
        · have h := br_1 h c52
          refine lv_iload_n hx hb dX5_ices_85 rfl (lv_at hl 2 rfl) ?_
          cases h
          exact hret _ _ _ _ hP hD hS dX5_ices_86
        · have h := br_0 h c52
          refine lv_aload_n hx hb dX5_ices_55 rfl (lv_at hl 0 rfl) ?_
          refine lv_iload hx hb dX5_ices_56 (lv_at hl 3 rfl) ?_
          refine lv_iload_n hx hb dX5_ices_58 rfl (lv_at hl 1 rfl) ?_
          obtain ⟨r59, hc, h⟩ := bd1_some h
          refine my_roi (va_Run.run (va_runV (As := [.int x4, .int x1]) (rest := []) hFix (kX5_icesNeededBy l D T F ad rs rm ts tm rdue rtun rsee rbeg psize pclause peff pkin pgri psig psee qsize qclause qeff qkin qgri qsig qsee cdee cnow cahe kdee know kahe fc lf told up lo x4 x1 r59 hc) (cwV 2 hts gX5_ices_X5_icesNeededBy rfl rfl rfl ⟨rfl, hd_X5_icesNeededBy⟩ ⟨Nat.le_of_ble_eq_true rfl, Nat.le_of_ble_eq_true rfl⟩) (preV_ro hP hKK (va_recv hK hP (ci := 3) (q0 := 0) rfl wPW_0)) rfl rfl hl.1 rfl (lv_room (Nat.le_of_ble_eq_true rfl)) dX5_ices_59 ⟨Nat.zero_le _, Nat.zero_le _⟩)) ?_
          refine lv_istore (lv' := [(5, .int r59), (0, .ref (ad 0)), (1, .int x1), (3, .int x3), (4, .int x4)]) hx hb dX5_ices_62 hl (by decide) rfl (fun ls hl => ?_)
          refine lv_iload hx hb dX5_ices_64 (lv_at hl 0 rfl) ?_
          refine lv_bipush (v := (-9 : Int32)) hx hb dX5_ices_66 (by decide) ?_
          refine lv_icmp_ne (tgt := 74) hx hb dX5_ices_68 (by decide) (fun c68 => ?_) (fun c68 => ?_)
          · have h := br_0 h c68
            refine lv_iload_n hx hb dX5_ices_74 rfl (lv_at hl 3 rfl) ?_
            refine lv_iload hx hb dX5_ices_75 (lv_at hl 0 rfl) ?_
            refine lv_iadd hx hb dX5_ices_77 ?_
            refine lv_istore_n (lv' := [(3, .int (x3 + r59)), (5, .int r59), (0, .ref (ad 0)), (1, .int x1), (4, .int x4)]) hx hb dX5_ices_78 rfl hl (by decide) rfl (fun ls hl => ?_)
            refine lv_iinc (v := (x4 + (1 : Int32))) (lv' := [(4, .int (x4 + (1 : Int32))), (3, .int (x3 + r59)), (5, .int r59), (0, .ref (ad 0)), (1, .int x1)]) hx hb dX5_ices_79 hl (k := 4) rfl rfl (by decide) rfl (fun ls hl => ?_)
            refine lv_goto (tgt := 43) hx hb dX5_ices_82 (by decide) ?_
            exact ih43 (x3 + r59) (x4 + (1 : Int32)) h _ _ hP hD hS _ (lv_sub hl [3, 4, 1, 0] rfl)
          · have h := br_1 h c68
            refine lv_bipush (v := (-9 : Int32)) hx hb dX5_ices_71 (by decide) ?_
            cases h
            exact hret _ _ _ _ hP hD hS dX5_ices_73
    unfold fX5_ices at h
    refine lv_iload_n hx hb dX5_ices_0 rfl (lv_at hl 1 rfl) ?_
    obtain ⟨r1, hc, h⟩ := bd1_some h
    refine my_roz (va_Run.run (va_runS (As := [.int x1]) (rest := []) hFix (kX5_isRow l D T F x1 r1 hc) (va_cwS 1 hts gX5_ices_X5_isRow rfl rfl rfl hd_X5_isRow ⟨Nat.le_of_ble_eq_true rfl, Nat.le_of_ble_eq_true rfl⟩) (preS_ro va_nil hKK) rfl rfl hl.1 rfl (lv_room (Nat.le_of_ble_eq_true rfl)) dX5_ices_1 ⟨Nat.zero_le _, Nat.zero_le _⟩)) (fun hb1 => ?_)
    refine lv_if_ne (tgt := 9) hx hb dX5_ices_4 (by decide) (fun c4 => ?_) (fun c4 => ?_)
    · have h := br_0 h c4
      refine lv_aload_n hx hb dX5_ices_9 rfl (lv_at hl 0 rfl) ?_
      refine va_get (D := D) (ci := 3) (C := RX5) (T := TX5) (N := 14) hx hb hts iX5 hown hK hP 0 wPW_0 rfl 5 (by decide) q1 (fun _ h9 => h9) rfl dX5_ices_10 ?_
      refine va_getN (host := "PartyWill") (D := D) (ci := 1) (C := RX2) (T := TX2) (N := 7) hx hb hts iX2 hown hK hP 6 wPW_6 rfl 0 (by decide) (va_Nw.use rfl (nw_X5_111 hKK.2)) (fun _ h9 => h9) rfl dX5_ices_13 ?_
      refine lv_if_ne (tgt := 22) hx hb dX5_ices_16 (by decide) (fun c16 => ?_) (fun c16 => ?_)
      · have h := br_0 h c16
        refine lv_aload_n hx hb dX5_ices_22 rfl (lv_at hl 0 rfl) ?_
        refine lv_iload_n hx hb dX5_ices_23 rfl (lv_at hl 1 rfl) ?_
        obtain ⟨r24, hc, h⟩ := bd1_some h
        refine my_roi (va_Run.run (va_runV (As := [.int x1]) (rest := []) hFix (kX5_programmeFinding l D T F ad rs rm ts tm rdue rtun rsee rbeg psize pclause peff pkin pgri psig psee qsize qclause qeff qkin qgri qsig qsee cdee cnow cahe kdee know kahe fc lf told up lo x1 r24 hc) (cwV 1 hts gX5_ices_X5_programmeFinding rfl rfl rfl ⟨rfl, hd_X5_programmeFinding⟩ ⟨Nat.le_of_ble_eq_true rfl, Nat.le_of_ble_eq_true rfl⟩) (preV_ro hP hKK (va_recv hK hP (ci := 3) (q0 := 0) rfl wPW_0)) rfl rfl hl.1 rfl (lv_room (Nat.le_of_ble_eq_true rfl)) dX5_ices_24 ⟨Nat.zero_le _, Nat.zero_le _⟩)) ?_
        refine lv_istore_n (lv' := [(2, .int r24), (0, .ref (ad 0)), (1, .int x1)]) hx hb dX5_ices_27 rfl hl (by decide) rfl (fun ls hl => ?_)
        refine lv_iload_n hx hb dX5_ices_28 rfl (lv_at hl 0 rfl) ?_
        refine lv_if_eq (tgt := 38) hx hb dX5_ices_29 (by decide) (fun c29 => ?_) (fun c29 => ?_)
        · have h := br_1 h c29
          refine lv_iconst (v := (0 : Int32)) hx hb dX5_ices_38 (by decide) ?_
          refine lv_istore_n (lv' := [(3, .int (0 : Int32)), (2, .int r24), (0, .ref (ad 0)), (1, .int x1)]) hx hb dX5_ices_39 rfl hl (by decide) rfl (fun ls hl => ?_)
          refine lv_iconst (v := (0 : Int32)) hx hb dX5_ices_40 (by decide) ?_
          refine lv_istore (lv' := [(4, .int (0 : Int32)), (3, .int (0 : Int32)), (2, .int r24), (0, .ref (ad 0)), (1, .int x1)]) hx hb dX5_ices_41 hl (by decide) rfl (fun ls hl => ?_)
          exact l43 x1 fc lf F (0 : Int32) (0 : Int32) h _ _ hP hD hS _ (lv_sub hl [3, 4, 1, 0] rfl)
        · have h := br_0 h c29
          refine lv_aload_n hx hb dX5_ices_32 rfl (lv_at hl 1 rfl) ?_
          refine lv_iload_n hx hb dX5_ices_33 rfl (lv_at hl 0 rfl) ?_
          obtain ⟨r34, w34_fc, w34_lf, hc, h⟩ := bd3_some h
          have hFc := my_freeS hD hS hA
          refine my_rwi (va_runV (As := [.int r24]) (rest := []) hFix (kX5_found l D T F ad rs rm ts tm rdue rtun rsee rbeg psize pclause peff pkin pgri psig psee qsize qclause qeff qkin qgri qsig qsee cdee cnow cahe kdee know kahe fc lf told up lo r24 r34 w34_fc w34_lf hc _) (cwV 1 hts gX5_ices_X5_found rfl rfl rfl ⟨rfl, hd_X5_found⟩ ⟨Nat.le_of_ble_eq_true rfl, Nat.le_of_ble_eq_true rfl⟩) (preV_rw hP hKK hD (va_recv hK hP (ci := 3) (q0 := 0) rfl wPW_0)) rfl rfl hl.1 rfl (lv_room (Nat.le_of_ble_eq_true rfl)) dX5_ices_34 ⟨Nat.zero_le _, Nat.zero_le _⟩) hS hFc (fun H1 locs hP1 hD1 hz1 hkk hS => ?_)
          have hP : va_P D vwCl (wPW T ad (ad 6) (ad 12) rs rm ts tm rdue rtun rsee rbeg psize pclause peff pkin pgri psig psee qsize qclause qeff qkin qgri qsig qsee cdee cnow cahe kdee know kahe w34_fc w34_lf told up lo) H1 := hP1
          have hD : va_D A (wPW T ad (ad 6) (ad 12) rs rm ts tm rdue rtun rsee rbeg psize pclause peff pkin pgri psig psee qsize qclause qeff qkin qgri qsig qsee cdee cnow cahe kdee know kahe w34_fc w34_lf told up lo) := hD1.weaken (fun _ q _ h => hFc q.1 h)
          generalize H1 = H at hP hS ⊢
          cases h
          exact hret _ _ _ _ hP hD hS dX5_ices_37
      · have h := br_1 h c16
        refine lv_bipush (v := (-4 : Int32)) hx hb dX5_ices_19 (by decide) ?_
        cases h
        exact hret _ _ _ _ hP hD hS dX5_ices_21
    · have h := br_1 h c4
      refine lv_iconst (v := (-1 : Int32)) hx hb dX5_ices_7 (by decide) ?_
      cases h
      exact hret _ _ _ _ hP hD hS dX5_ices_8
  exact key _ (fun H locs pc ls hP hD hS hd => W.iret hx hb hr (fun t ht hW => ⟨⟨_, (), rfl, rfl, by show _ ∧ _; rw [ht]; exact ⟨hP, hD⟩⟩, hS.F ht⟩) hS.2.2 hd)
set_option maxHeartbeats 4000000 in
set_option maxRecDepth 100000 in
theorem kX5_aunt (l : Launch) (D : va_G) (T : Nat → ClassId) (F : Nat) (ad : Nat → Nat) (rs : Nat → Int32) (rm : Nat → Nat → Int32) (ts : Nat → Int32) (tm : Nat → Nat → Int32) (rdue : Int32) (rtun : Int32) (rsee : Int32) (rbeg : Int32) (psize : Int32) (pclause : Int32) (peff : Nat → Int32) (pkin : Nat → Int32) (pgri : Nat → Int32) (psig : Nat → Int32) (psee : Nat → Int32) (qsize : Int32) (qclause : Int32) (qeff : Nat → Int32) (qkin : Nat → Int32) (qgri : Nat → Int32) (qsig : Nat → Int32) (qsee : Nat → Int32) (cdee : Int32) (cnow : Int64) (cahe : Nat → Int64) (kdee : Nat → Int32) (know : Nat → Int64) (kahe : Nat → Nat → Int64) (fc : Nat → Int32) (lf : Int32) (told : Int32) (up : Int64) (lo : Int64) (x1 : Int32) (r : Int32) (h : fX5_aunt F psize pclause peff pkin psee cnow x1 = some (r)) : Met l yX5_aunt wsX5_aunt ({ frames := 31, cells := 0, slots := 0, locals := 925 } : Room) (va_Pc [.ref (ad 0), .int x1] (fun U => va_P D vwCl (wPW T ad (ad 6) (ad 12) rs rm ts tm rdue rtun rsee rbeg psize pclause peff pkin pgri psig psee qsize qclause qeff qkin qgri qsig qsee cdee cnow cahe kdee know kahe fc lf told up lo) U.heap ∧ KK D T U)) (vp_Si (fun r' => r' = r)) 0 0 (fun _ => False) := by
  refine Met.ofW (cc := cX5_aunt) (maxL := 2) (ret := some .int) (by decide) rfl ?_
  intro p e s m args below meth c s₁ B hml hv
  obtain ⟨ha, hP, hKK⟩ := hv
  have hx := B.exec
  have hb := B.bytes
  have hr := B.returns
  have hts := atoms_spec (ws := wsX5_aunt) B.pre
  have hown : s.vm.findClass RX5 = some m.cls := findClass_of_methodNamed B.named
  have hlocks := B.notSynchronized
  have hK := hKK.1
  have hFix : CallFix p m c cX5_aunt 2 s args wsX5_aunt RX5 := ⟨hx, hb, hml, hown, hts⟩
  have q1 := hts _ (List.mem_of_getElem? (i := 1) (show wsX5_aunt[1]? = some (Cond.fieldLink RX5 36 "PartyWill" "party" "LPartyWill$Party;") from rfl))
  have q2 := hts _ (List.mem_of_getElem? (i := 2) (show wsX5_aunt[2]? = some (Cond.fieldLink RX5 46 "PartyWill" "course" "LPartyWill$Course;") from rfl))
  have q3 := hts _ (List.mem_of_getElem? (i := 3) (show wsX5_aunt[3]? = some (Cond.static yX1_howManyIn) from rfl))
  have q4 := hts _ (List.mem_of_getElem? (i := 4) (show wsX5_aunt[4]? = some (Cond.initialized RX1) from rfl))
  have q16 := hts _ (List.mem_of_getElem? (i := 16) (show wsX5_aunt[16]? = some (Cond.static yX3_leftAtBandsTurn) from rfl))
  have q17 := hts _ (List.mem_of_getElem? (i := 17) (show wsX5_aunt[17]? = some (Cond.initialized RX3) from rfl))
  have iX0 : ∀ w ∈ u_ws RX0 TX0 3, w ∈ wsX5_aunt := fun w h => List.mem_cons_of_mem _ (List.mem_append_right _ (h))
  have iX2 : ∀ w ∈ u_ws RX2 TX2 7, w ∈ wsX5_aunt := fun w h => List.mem_cons_of_mem _ (List.mem_append_left _ (List.mem_append_right _ (h)))
  have iX5 : ∀ w ∈ u_ws RX5 TX5 14, w ∈ wsX5_aunt := fun w h => List.mem_cons_of_mem _ (List.mem_append_left _ (List.mem_append_left _ (List.mem_append_right _ (h))))
  obtain ⟨ls, hl, e0⟩ := my_entry (m := m) (n := 2) ha (Nat.le_of_ble_eq_true rfl)
  rw [e0]
  have hl : lv_has ls 2 [(0, .ref (ad 0)), (1, .int x1)] := hl
  have key : ∀ Q : State → Prop, (∀ (pc : Nat) (ls : Array Slot), decode cX5_aunt pc = .ok (.ireturn, 1) → W p l e ({ frames := 31, cells := 0, slots := 0, locals := 925 } : Room) s m args below meth c s.heap [] 0 0 Q (F0 m pc ls [.int r])) → W p l e ({ frames := 31, cells := 0, slots := 0, locals := 925 } : Room) s m args below meth c s.heap [] 0 0 Q (F0 m 0 ls []) := by
    intro Q hret
    unfold fX5_aunt at h
    refine lv_iload_n hx hb dX5_aunt_0 rfl (lv_at hl 1 rfl) ?_
    refine lv_if_lt (tgt := 9) hx hb dX5_aunt_1 (by decide) (fun c1 => ?_) (fun c1 => ?_)
    · have h := br_1 h c1
      refine lv_iconst (v := (-1 : Int32)) hx hb dX5_aunt_9 (by decide) ?_
      cases h
      exact hret _ _ dX5_aunt_10
    · have h := br_0 h c1
      refine lv_iload_n hx hb dX5_aunt_4 rfl (lv_at hl 1 rfl) ?_
      refine lv_iconst (v := (3 : Int32)) hx hb dX5_aunt_5 (by decide) ?_
      refine lv_icmp_le (tgt := 11) hx hb dX5_aunt_6 (by decide) (fun c6 => ?_) (fun c6 => ?_)
      · have h := br_1 h c6
        refine lv_aload_n hx hb dX5_aunt_11 rfl (lv_at hl 0 rfl) ?_
        refine va_get (D := D) (ci := 3) (C := RX5) (T := TX5) (N := 14) hx hb hts iX5 hown hK hP 0 wPW_0 rfl 5 (by decide) q1 (fun _ h9 => h9) rfl dX5_aunt_12 ?_
        refine va_getN (host := "PartyWill") (D := D) (ci := 1) (C := RX2) (T := TX2) (N := 7) hx hb hts iX2 hown hK hP 6 wPW_6 rfl 0 (by decide) (va_Nw.use rfl (nw_X5_111 hKK.2)) (fun _ h9 => h9) rfl dX5_aunt_15 ?_
        refine lv_if_ne (tgt := 24) hx hb dX5_aunt_18 (by decide) (fun c18 => ?_) (fun c18 => ?_)
        · have h := br_0 h c18
          refine lv_aload_n hx hb dX5_aunt_24 rfl (lv_at hl 0 rfl) ?_
          refine va_get (D := D) (ci := 3) (C := RX5) (T := TX5) (N := 14) hx hb hts iX5 hown hK hP 0 wPW_0 rfl 7 (by decide) q2 (fun _ h9 => h9) rfl dX5_aunt_25 ?_
          refine va_getN (host := "PartyWill") (D := D) (ci := 0) (C := RX0) (T := TX0) (N := 3) hx hb hts iX0 hown hK hP 18 wPW_18 rfl 1 (by decide) (va_Nw.use rfl (nw_X5_127 hKK.2)) (fun _ h9 => h9) rfl dX5_aunt_28 ?_
          obtain ⟨r31, hc, h⟩ := bd1_some h
          refine my_roi (va_Run.run (va_runSN (host := "PartyWill") (As := [.long cnow]) (rest := []) hFix (kX1_howManyIn l D T F cnow r31 hc) ⟨va_cnB 1 hts gX5_aunt_X1_howManyIn_n207 rfl rfl rfl (nw_X5_207 hKK.2) q4 hd_X1_howManyIn ⟨Nat.le_of_ble_eq_true rfl, Nat.le_of_ble_eq_true rfl⟩, q3, trivial⟩ (preS_ro va_nil hKK) rfl rfl hl.1 rfl (lv_room (Nat.le_of_ble_eq_true rfl)) dX5_aunt_31 ⟨Nat.zero_le _, Nat.zero_le _⟩)) ?_
          refine lv_aload_n hx hb dX5_aunt_34 rfl (lv_at hl 0 rfl) ?_
          refine va_get (D := D) (ci := 3) (C := RX5) (T := TX5) (N := 14) hx hb hts iX5 hown hK hP 0 wPW_0 rfl 5 (by decide) q1 (fun _ h9 => h9) rfl dX5_aunt_35 ?_
          refine lv_aload_n hx hb dX5_aunt_38 rfl (lv_at hl 0 rfl) ?_
          refine va_get (D := D) (ci := 3) (C := RX5) (T := TX5) (N := 14) hx hb hts iX5 hown hK hP 0 wPW_0 rfl 7 (by decide) q2 (fun _ h9 => h9) rfl dX5_aunt_39 ?_
          refine va_getN (host := "PartyWill") (D := D) (ci := 0) (C := RX0) (T := TX0) (N := 3) hx hb hts iX0 hown hK hP 18 wPW_18 rfl 1 (by decide) (va_Nw.use rfl (nw_X5_127 hKK.2)) (fun _ h9 => h9) rfl dX5_aunt_42 ?_
          refine lv_iload_n hx hb dX5_aunt_45 rfl (lv_at hl 1 rfl) ?_
          obtain ⟨r46, hc, h⟩ := bd1_some h
          have hPc : va_P D vwCl (wPa T (ad 6) (ad 7) (ad 8) (ad 9) (ad 10) (ad 11) psize pclause peff pkin pgri psig psee) _ := my_subP sb_wPW_wPa_6to11 hP
          refine my_roi (va_Run.run (va_runSN (host := "PartyWill") (As := [.ref (ad 6), .long cnow, .int x1]) (rest := [.int r31]) hFix (kX3_leftAtBandsTurn l D T F 8 (ad 6) (ad 7) (ad 8) (ad 9) (ad 10) (ad 11) psize pclause peff pkin pgri psig psee cnow x1 r46 hc) ⟨va_cnB 3 hts gX5_aunt_X3_leftAtBandsTurn_n229 rfl rfl rfl (nw_X5_229 hKK.2) q17 hd_X3_leftAtBandsTurn ⟨Nat.le_of_ble_eq_true rfl, Nat.le_of_ble_eq_true rfl⟩, q16, trivial⟩ (preS_ro hPc hKK) rfl rfl hl.1 rfl (lv_room (Nat.le_of_ble_eq_true rfl)) dX5_aunt_46 ⟨Nat.zero_le _, Nat.zero_le _⟩)) ?_
          refine lv_isub hx hb dX5_aunt_49 ?_
          cases h
          exact hret _ _ dX5_aunt_50
        · have h := br_1 h c18
          refine lv_bipush (v := (-4 : Int32)) hx hb dX5_aunt_21 (by decide) ?_
          cases h
          exact hret _ _ dX5_aunt_23
      · have h := br_0 h c6
        refine lv_iconst (v := (-1 : Int32)) hx hb dX5_aunt_9 (by decide) ?_
        cases h
        exact hret _ _ dX5_aunt_10
  exact key _ (fun pc ls hd => W.iret hx hb hr (fun t ht hW => ⟨_, rfl, rfl, ht⟩) (fun q h => by cases h) hd)
