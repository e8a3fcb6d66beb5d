set_option maxHeartbeats 4000000 in
set_option maxRecDepth 100000 in
theorem kX5_did (l : Launch) (D : va_G) (T : Nat → ClassId) (F : Nat) (ad : Nat → Nat) (rs : Nat → Int32) (rm : Nat → Nat → Int32) (ts : Nat → Int32) (tm : Nat → Nat → Int32) (rdue : Int32) (rtun : Int32) (rsee : Int32) (rbeg : Int32) (psize : Int32) (pclause : Int32) (peff : Nat → Int32) (pkin : Nat → Int32) (pgri : Nat → Int32) (psig : Nat → Int32) (psee : Nat → Int32) (qsize : Int32) (qclause : Int32) (qeff : Nat → Int32) (qkin : Nat → Int32) (qgri : Nat → Int32) (qsig : Nat → Int32) (qsee : Nat → Int32) (cdee : Int32) (cnow : Int64) (cahe : Nat → Int64) (kdee : Nat → Int32) (know : Nat → Int64) (kahe : Nat → Nat → Int64) (fc : Nat → Int32) (lf : Int32) (told : Int32) (up : Int64) (lo : Int64) (x1 : Int32) (x2 : Int32) (x3 : Int32) (x4 : Int32) (r : Int32) (h : fX5_did F psize pkin x1 x2 x3 x4 = some (r)) : Met l yX5_did wsX5_did ({ frames := 3, cells := 0, slots := 0, locals := 75 } : Room) (va_Pc [.ref (ad 0), .int x1, .int x2, .int x3, .int x4] (fun U => va_P D vwCl (wPW T ad (ad 6) (ad 12) rs rm ts tm rdue rtun rsee rbeg psize pclause peff pkin pgri psig psee qsize qclause qeff qkin qgri qsig qsee cdee cnow cahe kdee know kahe fc lf told up lo) U.heap ∧ KK D T U)) (vp_Si (fun r' => r' = r)) 0 0 (fun _ => False) := by
  refine Met.ofW (cc := cX5_did) (maxL := 7) (ret := some .int) (by decide) rfl ?_
  intro p e s m args below meth c s₁ B hml hv
  obtain ⟨ha, hP, hKK⟩ := hv
  have hx := B.exec
  have hb := B.bytes
  have hr := B.returns
  have hts := atoms_spec (ws := wsX5_did) B.pre
  have hown : s.vm.findClass RX5 = some m.cls := findClass_of_methodNamed B.named
  have hlocks := B.notSynchronized
  have hK := hKK.1
  have hFix : CallFix p m c cX5_did 7 s args wsX5_did RX5 := ⟨hx, hb, hml, hown, hts⟩
  have q1 := hts _ (List.mem_of_getElem? (i := 1) (show wsX5_did[1]? = some (Cond.fieldLink RX5 36 "PartyWill" "party" "LPartyWill$Party;") from rfl))
  have q13 := hts _ (List.mem_of_getElem? (i := 13) (show wsX5_did[13]? = some (Cond.static yX2_griefBehind) from rfl))
  have q14 := hts _ (List.mem_of_getElem? (i := 14) (show wsX5_did[14]? = some (Cond.initialized RX2) from rfl))
  have iX2 : ∀ w ∈ u_ws RX2 TX2 7, w ∈ wsX5_did := fun w h => List.mem_cons_of_mem _ (List.mem_append_right _ (h))
  have iX5 : ∀ w ∈ u_ws RX5 TX5 14, w ∈ wsX5_did := fun w h => List.mem_cons_of_mem _ (List.mem_append_left _ (List.mem_append_right _ (h)))
  obtain ⟨ls, hl, e0⟩ := my_entry (m := m) (n := 7) ha (Nat.le_of_ble_eq_true rfl)
  rw [e0]
  have hl : lv_has ls 7 [(0, .ref (ad 0)), (1, .int x1), (2, .int x2), (3, .int x3), (4, .int x4)] := hl
  have key : ∀ Q : State → Prop, (∀ (pc : Nat) (ls : Array Slot), decode cX5_did pc = .ok (.ireturn, 1) → W p l e ({ frames := 3, cells := 0, slots := 0, locals := 75 } : Room) s m args below meth c s.heap [] 0 0 Q (F0 m pc ls [.int r])) → W p l e ({ frames := 3, cells := 0, slots := 0, locals := 75 } : Room) s m args below meth c s.heap [] 0 0 Q (F0 m 0 ls []) := by
    intro Q hret
    have l39 : ∀ x1 : Int32, ∀ x2 : Int32, ∀ x3 : Int32, ∀ x4 : Int32, ∀ nu : Nat, ∀ x5 : Int32, ∀ x6 : Int32, fX5_did_l39 F psize pkin x1 x2 x3 x4 nu x5 x6 = some (r) → ∀ (ls : Array Slot), lv_has ls 7 [(0, .ref (ad 0)), (1, .int x1), (2, .int x2), (3, .int x3), (4, .int x4), (5, .int x5), (6, .int x6)] → W p l e ({ frames := 3, cells := 0, slots := 0, locals := 75 } : Room) s m args below meth c s.heap [] 0 0 Q (F0 m 39 ls []) := by
      intro x1 x2 x3 x4
      intro nu
      induction nu with
      | zero => intro x5 x6 h; exact none_some h
      | succ nu39 ih39 =>
        intro x5 x6 h ls hl
        have h : fX5_did_l39_b F psize pkin x1 x2 x3 x4 (fX5_did_l39 F psize pkin x1 x2 x3 x4 nu39) x5 x6 = some (r) := h
        unfold fX5_did_l39_b at h
        refine lv_iload hx hb dX5_did_39 (lv_at hl 6 rfl) ?_
        refine lv_iconst (v := (5 : Int32)) hx hb dX5_did_41 (by decide) ?_
        refine lv_icmp_gt (tgt := 84) hx hb dX5_did_42 (by decide) (fun c42 => ?_) (fun c42 => ?_)
        · have h := br_1 h c42
          refine lv_iload hx hb dX5_did_84 (lv_at hl 5 rfl) ?_
          cases h
          exact hret _ _ dX5_did_86
        · have h := br_0 h c42
          refine lv_aload_n hx hb dX5_did_45 rfl (lv_at hl 0 rfl) ?_
          refine va_get (D := D) (ci := 3) (C := RX5) (T := TX5) (N := 14) hx hb hts iX5 hown hK hP 0 wPW_0 rfl 5 (by decide) q1 (fun _ h9 => h9) rfl dX5_did_46 ?_
          refine va_getN (host := "PartyWill") (D := D) (ci := 1) (C := RX2) (T := TX2) (N := 7) hx hb hts iX2 hown hK hP 6 wPW_6 rfl 3 (by decide) (va_Nw.use rfl (nw_X5_120 hKK.2)) (fun _ h9 => h9) rfl dX5_did_49 ?_
          refine lv_iload_n hx hb dX5_did_52 rfl (lv_at hl 1 rfl) ?_
          obtain ⟨hin1, h⟩ := ck_some h
          refine va_iald hx hb hK hP 8 0 wPW_8 rfl hin1 dX5_did_53 ?_
          refine lv_iload_n hx hb dX5_did_54 rfl (lv_at hl 2 rfl) ?_
          refine lv_iload hx hb dX5_did_55 (lv_at hl 6 rfl) ?_
          refine lv_iload_n hx hb dX5_did_57 rfl (lv_at hl 3 rfl) ?_
          obtain ⟨r58, hc, h⟩ := bd1_some h
          refine my_roi (va_Run.run (va_runSN (host := "PartyWill") (As := [.int (pkin x1.toNatClampNeg), .int x2, .int x6, .int x3]) (rest := []) hFix (kX2_griefBehind l D T F (pkin x1.toNatClampNeg) x2 x6 x3 r58 hc) ⟨va_cnB 4 hts gX5_did_X2_griefBehind_n242 rfl rfl rfl (nw_X5_242 hKK.2) q14 hd_X2_griefBehind ⟨Nat.le_of_ble_eq_true rfl, Nat.le_of_ble_eq_true rfl⟩, q13, trivial⟩ (preS_ro va_nil hKK) rfl rfl hl.1 rfl (lv_room (Nat.le_of_ble_eq_true rfl)) dX5_did_58 ⟨Nat.zero_le _, Nat.zero_le _⟩)) ?_
          refine lv_iload hx hb dX5_did_61 (lv_at hl 4 rfl) ?_
          refine lv_icmp_ne (tgt := 78) hx hb dX5_did_63 (by decide) (fun c63 => ?_) (fun c63 => ?_)
          · have h := br_0 h c63
            refine lv_iinc (v := (x6 + (1 : Int32))) (lv' := [(6, .int (x6 + (1 : Int32))), (0, .ref (ad 0)), (1, .int x1), (2, .int x2), (3, .int x3), (4, .int x4), (5, .int x5)]) hx hb dX5_did_78 hl (k := 6) rfl rfl (by decide) rfl (fun ls hl => ?_)
            refine lv_goto (tgt := 39) hx hb dX5_did_81 (by decide) ?_
            exact ih39 x5 (x6 + (1 : Int32)) h _ (lv_sub hl [1, 2, 3, 4, 5, 6, 0] rfl)
          · have h := br_1 h c63
            refine lv_iload hx hb dX5_did_66 (lv_at hl 5 rfl) ?_
            refine lv_iconst (v := (1 : Int32)) hx hb dX5_did_68 (by decide) ?_
            refine lv_iload hx hb dX5_did_69 (lv_at hl 6 rfl) ?_
            refine lv_bipush (v := (-4 : Int32)) hx hb dX5_did_71 (by decide) ?_
            refine lv_isub hx hb dX5_did_73 ?_
            refine lv_ishl hx hb dX5_did_74 ?_
            refine lv_ior hx hb dX5_did_75 ?_
            refine lv_istore (lv' := [(5, .int (x5 ||| ((1 : Int32) <<< ((x6 - (-4 : Int32)) &&& 31)))), (0, .ref (ad 0)), (1, .int x1), (2, .int x2), (3, .int x3), (4, .int x4), (6, .int x6)]) hx hb dX5_did_76 hl (by decide) rfl (fun ls hl => ?_)
            refine lv_iinc (v := (x6 + (1 : Int32))) (lv' := [(6, .int (x6 + (1 : Int32))), (5, .int (x5 ||| ((1 : Int32) <<< ((x6 - (-4 : Int32)) &&& 31)))), (0, .ref (ad 0)), (1, .int x1), (2, .int x2), (3, .int x3), (4, .int x4)]) hx hb dX5_did_78 hl (k := 6) rfl rfl (by decide) rfl (fun ls hl => ?_)
            refine lv_goto (tgt := 39) hx hb dX5_did_81 (by decide) ?_
            exact ih39 (x5 ||| ((1 : Int32) <<< ((x6 - (-4 : Int32)) &&& 31))) (x6 + (1 : Int32)) h _ (lv_sub hl [2, 3, 4, 5, 6, 1, 0] rfl)
    unfold fX5_did at h
    refine lv_aload_n hx hb dX5_did_0 rfl (lv_at hl 0 rfl) ?_
    refine lv_iload_n hx hb dX5_did_1 rfl (lv_at hl 1 rfl) ?_
    obtain ⟨r2, hc, h⟩ := bd1_some h
    refine my_roz (va_Run.run (va_runV (As := [.int x1]) (rest := []) hFix (kX5_isGuest l D T F ad rs rm ts tm rdue rtun rsee rbeg psize pclause peff pkin pgri psig psee qsize qclause qeff qkin qgri qsig qsee cdee cnow cahe kdee know kahe fc lf told up lo x1 r2 hc) (cwV 1 hts gX5_did_X5_isGuest rfl rfl rfl ⟨rfl, hd_X5_isGuest⟩ ⟨Nat.le_of_ble_eq_true rfl, Nat.le_of_ble_eq_true rfl⟩) (preV_ro hP hKK (va_recv hK hP (ci := 3) (q0 := 0) rfl wPW_0)) rfl rfl hl.1 rfl (lv_room (Nat.le_of_ble_eq_true rfl)) dX5_did_2 ⟨Nat.zero_le _, Nat.zero_le _⟩)) (fun hb2 => ?_)
    refine lv_if_eq (tgt := 30) hx hb dX5_did_5 (by decide) (fun c5 => ?_) (fun c5 => ?_)
    · have h := br_1 h c5
      refine lv_iconst (v := (-1 : Int32)) hx hb dX5_did_30 (by decide) ?_
      cases h
      exact hret _ _ dX5_did_31
    · have h := br_0 h c5
      refine lv_iload_n hx hb dX5_did_8 rfl (lv_at hl 2 rfl) ?_
      obtain ⟨r9, hc, h⟩ := bd1_some h
      refine my_roz (va_Run.run (va_runS (As := [.int x2]) (rest := []) hFix (kX5_isTune l D T F x2 r9 hc) (va_cwS 1 hts gX5_did_X5_isTune rfl rfl rfl hd_X5_isTune ⟨Nat.le_of_ble_eq_true rfl, Nat.le_of_ble_eq_true rfl⟩) (preS_ro va_nil hKK) rfl rfl hl.1 rfl (lv_room (Nat.le_of_ble_eq_true rfl)) dX5_did_9 ⟨Nat.zero_le _, Nat.zero_le _⟩)) (fun hb9 => ?_)
      refine lv_if_eq (tgt := 30) hx hb dX5_did_12 (by decide) (fun c12 => ?_) (fun c12 => ?_)
      · have h := br_1 h c12
        refine lv_iconst (v := (-1 : Int32)) hx hb dX5_did_30 (by decide) ?_
        cases h
        exact hret _ _ dX5_did_31
      · have h := br_0 h c12
        refine lv_iload_n hx hb dX5_did_15 rfl (lv_at hl 3 rfl) ?_
        obtain ⟨r16, hc, h⟩ := bd1_some h
        refine my_roz (va_Run.run (va_runS (As := [.int x3]) (rest := []) hFix (kX5_isGrief l D T F x3 r16 hc) (va_cwS 1 hts gX5_did_X5_isGrief rfl rfl rfl hd_X5_isGrief ⟨Nat.le_of_ble_eq_true rfl, Nat.le_of_ble_eq_true rfl⟩) (preS_ro va_nil hKK) rfl rfl hl.1 rfl (lv_room (Nat.le_of_ble_eq_true rfl)) dX5_did_16 ⟨Nat.zero_le _, Nat.zero_le _⟩)) (fun hb16 => ?_)
        refine lv_if_eq (tgt := 30) hx hb dX5_did_19 (by decide) (fun c19 => ?_) (fun c19 => ?_)
        · have h := br_1 h c19
          refine lv_iconst (v := (-1 : Int32)) hx hb dX5_did_30 (by decide) ?_
          cases h
          exact hret _ _ dX5_did_31
        · have h := br_0 h c19
          refine lv_iload hx hb dX5_did_22 (lv_at hl 4 rfl) ?_
          obtain ⟨r24, hc, h⟩ := bd1_some h
          refine my_roz (va_Run.run (va_runS (As := [.int x4]) (rest := []) hFix (kX5_isGrief l D T F x4 r24 hc) (va_cwS 1 hts gX5_did_X5_isGrief rfl rfl rfl hd_X5_isGrief ⟨Nat.le_of_ble_eq_true rfl, Nat.le_of_ble_eq_true rfl⟩) (preS_ro va_nil hKK) rfl rfl hl.1 rfl (lv_room (Nat.le_of_ble_eq_true rfl)) dX5_did_24 ⟨Nat.zero_le _, Nat.zero_le _⟩)) (fun hb24 => ?_)
          refine lv_if_ne (tgt := 32) hx hb dX5_did_27 (by decide) (fun c27 => ?_) (fun c27 => ?_)
          · have h := br_0 h c27
            refine lv_iconst (v := (0 : Int32)) hx hb dX5_did_32 (by decide) ?_
            refine lv_istore (lv' := [(5, .int (0 : Int32)), (0, .ref (ad 0)), (1, .int x1), (2, .int x2), (3, .int x3), (4, .int x4)]) hx hb dX5_did_33 hl (by decide) rfl (fun ls hl => ?_)
            refine lv_bipush (v := (-4 : Int32)) hx hb dX5_did_35 (by decide) ?_
            refine lv_istore (lv' := [(6, .int (-4 : Int32)), (5, .int (0 : Int32)), (0, .ref (ad 0)), (1, .int x1), (2, .int x2), (3, .int x3), (4, .int x4)]) hx hb dX5_did_37 hl (by decide) rfl (fun ls hl => ?_)
            exact l39 x1 x2 x3 x4 F (0 : Int32) (-4 : Int32) h _ (lv_sub hl [2, 3, 4, 5, 6, 1, 0] rfl)
          · have h := br_1 h c27
            refine lv_iconst (v := (-1 : Int32)) hx hb dX5_did_30 (by decide) ?_
            cases h
            exact hret _ _ dX5_did_31
  exact key _ (fun pc ls hd => W.iret hx hb hr (fun t ht hW => ⟨_, rfl, rfl, ht⟩) (fun q h => by cases h) hd)
set_option maxHeartbeats 4000000 in
set_option maxRecDepth 100000 in
theorem kX5_wept (l : Launch) (D : va_G) (T : Nat → ClassId) (F : Nat) (ad : Nat → Nat) (rs : Nat → Int32) (rm : Nat → Nat → Int32) (ts : Nat → Int32) (tm : Nat → Nat → Int32) (rdue : Int32) (rtun : Int32) (rsee : Int32) (rbeg : Int32) (psize : Int32) (pclause : Int32) (peff : Nat → Int32) (pkin : Nat → Int32) (pgri : Nat → Int32) (psig : Nat → Int32) (psee : Nat → Int32) (qsize : Int32) (qclause : Int32) (qeff : Nat → Int32) (qkin : Nat → Int32) (qgri : Nat → Int32) (qsig : Nat → Int32) (qsee : Nat → Int32) (cdee : Int32) (cnow : Int64) (cahe : Nat → Int64) (kdee : Nat → Int32) (know : Nat → Int64) (kahe : Nat → Nat → Int64) (fc : Nat → Int32) (lf : Int32) (told : Int32) (up : Int64) (lo : Int64) (x1 : Int32) (r : Int32) (h : fX5_wept F psize psee cnow x1 = some (r)) : Met l yX5_wept wsX5_wept ({ frames := 2, cells := 0, slots := 0, locals := 44 } : Room) (va_Pc [.ref (ad 0), .int x1] (fun U => va_P D vwCl (wPW T ad (ad 6) (ad 12) rs rm ts tm rdue rtun rsee rbeg psize pclause peff pkin pgri psig psee qsize qclause qeff qkin qgri qsig qsee cdee cnow cahe kdee know kahe fc lf told up lo) U.heap ∧ KK D T U)) (vp_Si (fun r' => r' = r)) 0 0 (fun _ => False) := by
  refine Met.ofW (cc := cX5_wept) (maxL := 5) (ret := some .int) (by decide) rfl ?_
  intro p e s m args below meth c s₁ B hml hv
  obtain ⟨ha, hP, hKK⟩ := hv
  have hx := B.exec
  have hb := B.bytes
  have hr := B.returns
  have hts := atoms_spec (ws := wsX5_wept) B.pre
  have hown : s.vm.findClass RX5 = some m.cls := findClass_of_methodNamed B.named
  have hlocks := B.notSynchronized
  have hK := hKK.1
  have hFix : CallFix p m c cX5_wept 5 s args wsX5_wept RX5 := ⟨hx, hb, hml, hown, hts⟩
  have q1 := hts _ (List.mem_of_getElem? (i := 1) (show wsX5_wept[1]? = some (Cond.fieldLink RX5 36 "PartyWill" "party" "LPartyWill$Party;") from rfl))
  have q2 := hts _ (List.mem_of_getElem? (i := 2) (show wsX5_wept[2]? = some (Cond.fieldLink RX5 46 "PartyWill" "course" "LPartyWill$Course;") from rfl))
  have q3 := hts _ (List.mem_of_getElem? (i := 3) (show wsX5_wept[3]? = some (Cond.instanceMethod yX2_watchers) from rfl))
  have q4 := hts _ (List.mem_of_getElem? (i := 4) (show wsX5_wept[4]? = some (Cond.initialized RX2) from rfl))
  have q5 := hts _ (List.mem_of_getElem? (i := 5) (show wsX5_wept[5]? = some (Cond.selects RX2 yX2_watchers yX2_watchers) from rfl))
  have q9 := hts _ (List.mem_of_getElem? (i := 9) (show wsX5_wept[9]? = some (Cond.initialized RX1) from rfl))
  have q11 := hts _ (List.mem_of_getElem? (i := 11) (show wsX5_wept[11]? = some (Cond.static yX1_isIn) from rfl))
  have iX0 : ∀ w ∈ u_ws RX0 TX0 3, w ∈ wsX5_wept := fun w h => List.mem_cons_of_mem _ (List.mem_append_right _ (h))
  have iX2 : ∀ w ∈ u_ws RX2 TX2 7, w ∈ wsX5_wept := fun w h => List.mem_cons_of_mem _ (List.mem_append_left _ (List.mem_append_right _ (h)))
  have iX5 : ∀ w ∈ u_ws RX5 TX5 14, w ∈ wsX5_wept := fun w h => List.mem_cons_of_mem _ (List.mem_append_left _ (List.mem_append_left _ (List.mem_append_right _ (h))))
  obtain ⟨ls, hl, e0⟩ := my_entry (m := m) (n := 5) ha (Nat.le_of_ble_eq_true rfl)
  rw [e0]
  have hl : lv_has ls 5 [(0, .ref (ad 0)), (1, .int x1)] := hl
  have key : ∀ Q : State → Prop, (∀ (pc : Nat) (ls : Array Slot), decode cX5_wept pc = .ok (.ireturn, 1) → W p l e ({ frames := 2, cells := 0, slots := 0, locals := 44 } : Room) s m args below meth c s.heap [] 0 0 Q (F0 m pc ls [.int r])) → W p l e ({ frames := 2, cells := 0, slots := 0, locals := 44 } : Room) s m args below meth c s.heap [] 0 0 Q (F0 m 0 ls []) := by
    intro Q hret
    have l23 : ∀ x1 : Int32, ∀ nu : Nat, ∀ x2 : Int32, ∀ x3 : Int32, fX5_wept_l23 F psize psee cnow x1 nu x2 x3 = some (r) → ∀ (ls : Array Slot), lv_has ls 5 [(0, .ref (ad 0)), (1, .int x1), (2, .int x2), (3, .int x3)] → W p l e ({ frames := 2, cells := 0, slots := 0, locals := 44 } : Room) s m args below meth c s.heap [] 0 0 Q (F0 m 23 ls []) := by
      intro x1
      intro nu
      induction nu with
      | zero => intro x2 x3 h; exact none_some h
      | succ nu23 ih23 =>
        intro x2 x3 h ls hl
        have h : fX5_wept_l23_b F psize psee cnow x1 (fX5_wept_l23 F psize psee cnow x1 nu23) x2 x3 = some (r) := h
        unfold fX5_wept_l23_b at h
        refine lv_iload_n hx hb dX5_wept_23 rfl (lv_at hl 3 rfl) ?_
        refine lv_aload_n hx hb dX5_wept_24 rfl (lv_at hl 0 rfl) ?_
        refine va_get (D := D) (ci := 3) (C := RX5) (T := TX5) (N := 14) hx hb hts iX5 hown hK hP 0 wPW_0 rfl 5 (by decide) q1 (fun _ h9 => h9) rfl dX5_wept_25 ?_
        refine va_getN (host := "PartyWill") (D := D) (ci := 1) (C := RX2) (T := TX2) (N := 7) hx hb hts iX2 hown hK hP 6 wPW_6 rfl 0 (by decide) (va_Nw.use rfl (nw_X5_111 hKK.2)) (fun _ h9 => h9) rfl dX5_wept_28 ?_
        refine lv_icmp_ge (tgt := 91) hx hb dX5_wept_31 (by decide) (fun c31 => ?_) (fun c31 => ?_)
        · have h := br_1 h c31
          refine lv_iload_n hx hb dX5_wept_91 rfl (lv_at hl 2 rfl) ?_
          cases h
          exact hret _ _ dX5_wept_92
        · have h := br_0 h c31
          refine lv_aload_n hx hb dX5_wept_34 rfl (lv_at hl 0 rfl) ?_
          refine va_get (D := D) (ci := 3) (C := RX5) (T := TX5) (N := 14) hx hb hts iX5 hown hK hP 0 wPW_0 rfl 5 (by decide) q1 (fun _ h9 => h9) rfl dX5_wept_35 ?_
          refine lv_aload_n hx hb dX5_wept_38 rfl (lv_at hl 0 rfl) ?_
          refine va_get (D := D) (ci := 3) (C := RX5) (T := TX5) (N := 14) hx hb hts iX5 hown hK hP 0 wPW_0 rfl 7 (by decide) q2 (fun _ h9 => h9) rfl dX5_wept_39 ?_
          refine va_getN (host := "PartyWill") (D := D) (ci := 0) (C := RX0) (T := TX0) (N := 3) hx hb hts iX0 hown hK hP 18 wPW_18 rfl 1 (by decide) (va_Nw.use rfl (nw_X5_127 hKK.2)) (fun _ h9 => h9) rfl dX5_wept_42 ?_
          refine lv_iload_n hx hb dX5_wept_45 rfl (lv_at hl 3 rfl) ?_
          obtain ⟨r46, hc, h⟩ := bd1_some h
          have hPc : va_P D vwCl (wPa T (ad 6) (ad 7) (ad 8) (ad 9) (ad 10) (ad 11) psize pclause peff pkin pgri psig psee) _ := my_subP sb_wPW_wPa_6to11 hP
          refine my_roi (va_Run.run (va_runVN (host := "PartyWill") (As := [.long cnow, .int x3]) (rest := []) hFix (kX2_watchers l D T F (ad 6) (ad 7) (ad 8) (ad 9) (ad 10) (ad 11) psize pclause peff pkin pgri psig psee cnow x3 r46 hc) ⟨va_cnB 2 hts gX5_wept_X2_watchers_n246 rfl rfl rfl (nw_X5_246 hKK.2) q4 hd_X2_watchers ⟨Nat.le_of_ble_eq_true rfl, Nat.le_of_ble_eq_true rfl⟩, q3, q5⟩ (preV_ro hPc hKK (va_recv hK hP (ci := 1) (q0 := 6) rfl wPW_6)) rfl rfl hl.1 rfl (lv_room (Nat.le_of_ble_eq_true rfl)) dX5_wept_46 ⟨Nat.zero_le _, Nat.zero_le _⟩)) ?_
          refine lv_istore (lv' := [(4, .int r46), (0, .ref (ad 0)), (1, .int x1), (2, .int x2), (3, .int x3)]) hx hb dX5_wept_49 hl (by decide) rfl (fun ls hl => ?_)
          refine lv_aload_n hx hb dX5_wept_51 rfl (lv_at hl 1 rfl) ?_
          refine va_get (D := D) (ci := 3) (C := RX5) (T := TX5) (N := 14) hx hb hts iX5 hown hK hP 0 wPW_0 rfl 7 (by decide) q2 (fun _ h9 => h9) rfl dX5_wept_52 ?_
          refine va_getN (host := "PartyWill") (D := D) (ci := 0) (C := RX0) (T := TX0) (N := 3) hx hb hts iX0 hown hK hP 18 wPW_18 rfl 1 (by decide) (va_Nw.use rfl (nw_X5_127 hKK.2)) (fun _ h9 => h9) rfl dX5_wept_55 ?_
          refine lv_iload_n hx hb dX5_wept_58 rfl (lv_at hl 4 rfl) ?_
          obtain ⟨r59, hc, h⟩ := bd1_some h
          refine my_roz (va_Run.run (va_runSN (host := "PartyWill") (As := [.long cnow, .int x3]) (rest := []) hFix (kX1_isIn l D T F cnow x3 r59 hc) ⟨va_cnB 2 hts gX5_wept_X1_isIn_n130 rfl rfl rfl (nw_X5_130 hKK.2) q9 hd_X1_isIn ⟨Nat.le_of_ble_eq_true rfl, Nat.le_of_ble_eq_true rfl⟩, q11, trivial⟩ (preS_ro va_nil hKK) rfl rfl hl.1 rfl (lv_room (Nat.le_of_ble_eq_true rfl)) dX5_wept_59 ⟨Nat.zero_le _, Nat.zero_le _⟩)) (fun hb59 => ?_)
          refine lv_if_eq (tgt := 85) hx hb dX5_wept_62 (by decide) (fun c62 => ?_) (fun c62 => ?_)
          · have h := br_1 h c62
            refine lv_iinc (v := (x3 + (1 : Int32))) (lv' := [(3, .int (x3 + (1 : Int32))), (4, .int r46), (0, .ref (ad 0)), (1, .int x1), (2, .int x2)]) hx hb dX5_wept_85 hl (k := 4) rfl rfl (by decide) rfl (fun ls hl => ?_)
            refine lv_goto (tgt := 23) hx hb dX5_wept_88 (by decide) ?_
            exact ih23 x2 (x3 + (1 : Int32)) h _ (lv_sub hl [2, 3, 4, 0] rfl)
          · have h := br_0 h c62
            refine lv_iload hx hb dX5_wept_65 (lv_at hl 0 rfl) ?_
            refine lv_if_eq (tgt := 85) hx hb dX5_wept_67 (by decide) (fun c67 => ?_) (fun c67 => ?_)
            · have h := br_1 h c67
              refine lv_iinc (v := (x3 + (1 : Int32))) (lv' := [(3, .int (x3 + (1 : Int32))), (4, .int r46), (0, .ref (ad 0)), (1, .int x1), (2, .int x2)]) hx hb dX5_wept_85 hl (k := 4) rfl rfl (by decide) rfl (fun ls hl => ?_)
              refine lv_goto (tgt := 23) hx hb dX5_wept_88 (by decide) ?_
              exact ih23 x2 (x3 + (1 : Int32)) h _ (lv_sub hl [2, 3, 4, 0] rfl)
            · have h := br_0 h c67
              refine lv_iload hx hb dX5_wept_70 (lv_at hl 0 rfl) ?_
              refine lv_iload_n hx hb dX5_wept_72 rfl (lv_at hl 2 rfl) ?_
              refine lv_iconst (v := (-1 : Int32)) hx hb dX5_wept_73 (by decide) ?_
              refine lv_ixor hx hb dX5_wept_74 ?_
              refine lv_iand hx hb dX5_wept_75 ?_
              refine lv_if_ne (tgt := 85) hx hb dX5_wept_76 (by decide) (fun c76 => ?_) (fun c76 => ?_)
              · have h := br_0 h c76
                refine lv_iinc (v := (x3 + (1 : Int32))) (lv' := [(3, .int (x3 + (1 : Int32))), (4, .int r46), (0, .ref (ad 0)), (1, .int x1), (2, .int x2)]) hx hb dX5_wept_85 hl (k := 4) rfl rfl (by decide) rfl (fun ls hl => ?_)
                refine lv_goto (tgt := 23) hx hb dX5_wept_88 (by decide) ?_
                exact ih23 x2 (x3 + (1 : Int32)) h _ (lv_sub hl [2, 3, 4, 0] rfl)
              · have h := br_1 h c76
                refine lv_iload_n hx hb dX5_wept_79 rfl (lv_at hl 3 rfl) ?_
                refine lv_iconst (v := (1 : Int32)) hx hb dX5_wept_80 (by decide) ?_
                refine lv_iload_n hx hb dX5_wept_81 rfl (lv_at hl 4 rfl) ?_
                refine lv_ishl hx hb dX5_wept_82 ?_
                refine lv_ior hx hb dX5_wept_83 ?_
                refine lv_istore_n (lv' := [(2, .int (x2 ||| ((1 : Int32) <<< (x3 &&& 31)))), (4, .int r46), (0, .ref (ad 0)), (1, .int x1), (3, .int x3)]) hx hb dX5_wept_84 rfl hl (by decide) rfl (fun ls hl => ?_)
                refine lv_iinc (v := (x3 + (1 : Int32))) (lv' := [(3, .int (x3 + (1 : Int32))), (2, .int (x2 ||| ((1 : Int32) <<< (x3 &&& 31)))), (4, .int r46), (0, .ref (ad 0)), (1, .int x1)]) hx hb dX5_wept_85 hl (k := 4) rfl rfl (by decide) rfl (fun ls hl => ?_)
                refine lv_goto (tgt := 23) hx hb dX5_wept_88 (by decide) ?_
                exact ih23 (x2 ||| ((1 : Int32) <<< (x3 &&& 31))) (x3 + (1 : Int32)) h _ (lv_sub hl [3, 4, 1, 0] rfl)
    unfold fX5_wept at h
    refine lv_iload_n hx hb dX5_wept_0 rfl (lv_at hl 1 rfl) ?_
    refine lv_if_lt (tgt := 17) hx hb dX5_wept_1 (by decide) (fun c1 => ?_) (fun c1 => ?_)
    · have h := br_1 h c1
      refine lv_iconst (v := (-1 : Int32)) hx hb dX5_wept_17 (by decide) ?_
      cases h
      exact hret _ _ dX5_wept_18
    · have h := br_0 h c1
      refine lv_iload_n hx hb dX5_wept_4 rfl (lv_at hl 1 rfl) ?_
      refine lv_iconst (v := (1 : Int32)) hx hb dX5_wept_5 (by decide) ?_
      refine lv_aload_n hx hb dX5_wept_6 rfl (lv_at hl 0 rfl) ?_
      refine va_get (D := D) (ci := 3) (C := RX5) (T := TX5) (N := 14) hx hb hts iX5 hown hK hP 0 wPW_0 rfl 5 (by decide) q1 (fun _ h9 => h9) rfl dX5_wept_7 ?_
      refine va_getN (host := "PartyWill") (D := D) (ci := 1) (C := RX2) (T := TX2) (N := 7) hx hb hts iX2 hown hK hP 6 wPW_6 rfl 0 (by decide) (va_Nw.use rfl (nw_X5_111 hKK.2)) (fun _ h9 => h9) rfl dX5_wept_10 ?_
      refine lv_ishl hx hb dX5_wept_13 ?_
      refine lv_icmp_lt (tgt := 19) hx hb dX5_wept_14 (by decide) (fun c14 => ?_) (fun c14 => ?_)
      · have h := br_1 h c14
        refine lv_iconst (v := (0 : Int32)) hx hb dX5_wept_19 (by decide) ?_
        refine lv_istore_n (lv' := [(2, .int (0 : Int32)), (0, .ref (ad 0)), (1, .int x1)]) hx hb dX5_wept_20 rfl hl (by decide) rfl (fun ls hl => ?_)
        refine lv_iconst (v := (0 : Int32)) hx hb dX5_wept_21 (by decide) ?_
        refine lv_istore_n (lv' := [(3, .int (0 : Int32)), (2, .int (0 : Int32)), (0, .ref (ad 0)), (1, .int x1)]) hx hb dX5_wept_22 rfl hl (by decide) rfl (fun ls hl => ?_)
        exact l23 x1 F (0 : Int32) (0 : Int32) h _ (lv_sub hl [2, 3, 1, 0] rfl)
      · have h := br_0 h c14
        refine lv_iconst (v := (-1 : Int32)) hx hb dX5_wept_17 (by decide) ?_
        cases h
        exact hret _ _ dX5_wept_18
  exact key _ (fun pc ls hd => W.iret hx hb hr (fun t ht hW => ⟨_, rfl, rfl, ht⟩) (fun q h => by cases h) hd)
set_option maxHeartbeats 4000000 in
set_option maxRecDepth 100000 in
theorem kX5_gets (l : Launch) (D : va_G) (T : Nat → ClassId) (F : Nat) (ad : Nat → Nat) (rs : Nat → Int32) (rm : Nat → Nat → Int32) (ts : Nat → Int32) (tm : Nat → Nat → Int32) (rdue : Int32) (rtun : Int32) (rsee : Int32) (rbeg : Int32) (psize : Int32) (pclause : Int32) (peff : Nat → Int32) (pkin : Nat → Int32) (pgri : Nat → Int32) (psig : Nat → Int32) (psee : Nat → Int32) (qsize : Int32) (qclause : Int32) (qeff : Nat → Int32) (qkin : Nat → Int32) (qgri : Nat → Int32) (qsig : Nat → Int32) (qsee : Nat → Int32) (cdee : Int32) (cnow : Int64) (cahe : Nat → Int64) (kdee : Nat → Int32) (know : Nat → Int64) (kahe : Nat → Nat → Int64) (fc : Nat → Int32) (lf : Int32) (told : Int32) (up : Int64) (lo : Int64) (x1 : Int32) (x2 : Int32) (r : Int32) (h : fX5_gets F psize cnow x1 x2 = some (r)) : Met l yX5_gets wsX5_gets ({ frames := 2, cells := 0, slots := 0, locals := 42 } : Room) (va_Pc [.ref (ad 0), .int x1, .int x2] (fun U => va_P D vwCl (wPW T ad (ad 6) (ad 12) rs rm ts tm rdue rtun rsee rbeg psize pclause peff pkin pgri psig psee qsize qclause qeff qkin qgri qsig qsee cdee cnow cahe kdee know kahe fc lf told up lo) U.heap ∧ KK D T U)) (vp_Si (fun r' => r' = r)) 0 0 (fun _ => False) := by
  refine Met.ofW (cc := cX5_gets) (maxL := 5) (ret := some .int) (by decide) rfl ?_
  intro p e s m args below meth c s₁ B hml hv
  obtain ⟨ha, hP, hKK⟩ := hv
  have hx := B.exec
  have hb := B.bytes
  have hr := B.returns
  have hts := atoms_spec (ws := wsX5_gets) B.pre
  have hown : s.vm.findClass RX5 = some m.cls := findClass_of_methodNamed B.named
  have hlocks := B.notSynchronized
  have hK := hKK.1
  have hFix : CallFix p m c cX5_gets 5 s args wsX5_gets RX5 := ⟨hx, hb, hml, hown, hts⟩
  have q1 := hts _ (List.mem_of_getElem? (i := 1) (show wsX5_gets[1]? = some (Cond.fieldLink RX5 46 "PartyWill" "course" "LPartyWill$Course;") from rfl))
  have q8 := hts _ (List.mem_of_getElem? (i := 8) (show wsX5_gets[8]? = some (Cond.static yX1_howManyIn) from rfl))
  have q9 := hts _ (List.mem_of_getElem? (i := 9) (show wsX5_gets[9]? = some (Cond.initialized RX1) from rfl))
  have q12 := hts _ (List.mem_of_getElem? (i := 12) (show wsX5_gets[12]? = some (Cond.static yX1_insiders) from rfl))
  have q21 := hts _ (List.mem_of_getElem? (i := 21) (show wsX5_gets[21]? = some (Cond.static yX1_isIn) from rfl))
  have iX0 : ∀ w ∈ u_ws RX0 TX0 3, w ∈ wsX5_gets := fun w h => List.mem_cons_of_mem _ (List.mem_append_left _ (List.mem_append_right _ (h)))
  have iX5 : ∀ w ∈ u_ws RX5 TX5 14, w ∈ wsX5_gets := fun w h => List.mem_cons_of_mem _ (List.mem_append_left _ (List.mem_append_left _ (List.mem_append_right _ (h))))
  obtain ⟨ls, hl, e0⟩ := my_entry (m := m) (n := 5) ha (Nat.le_of_ble_eq_true rfl)
  rw [e0]
  have hl : lv_has ls 5 [(0, .ref (ad 0)), (1, .int x1), (2, .int x2)] := hl
  have key : ∀ Q : State → Prop, (∀ (pc : Nat) (ls : Array Slot), decode cX5_gets pc = .ok (.ireturn, 1) → W p l e ({ frames := 2, cells := 0, slots := 0, locals := 42 } : Room) s m args below meth c s.heap [] 0 0 Q (F0 m pc ls [.int r])) → W p l e ({ frames := 2, cells := 0, slots := 0, locals := 42 } : Room) s m args below meth c s.heap [] 0 0 Q (F0 m 0 ls []) := by
    intro Q hret
    unfold fX5_gets at h
    refine lv_aload_n hx hb dX5_gets_0 rfl (lv_at hl 0 rfl) ?_
    refine lv_iload_n hx hb dX5_gets_1 rfl (lv_at hl 1 rfl) ?_
    obtain ⟨r2, hc, h⟩ := bd1_some h
    refine my_roz (va_Run.run (va_runV (As := [.int x1]) (rest := []) hFix (kX5_isGuest l D T F ad rs rm ts tm rdue rtun rsee rbeg psize pclause peff pkin pgri psig psee qsize qclause qeff qkin qgri qsig qsee cdee cnow cahe kdee know kahe fc lf told up lo x1 r2 hc) (cwV 1 hts gX5_gets_X5_isGuest rfl rfl rfl ⟨rfl, hd_X5_isGuest⟩ ⟨Nat.le_of_ble_eq_true rfl, Nat.le_of_ble_eq_true rfl⟩) (preV_ro hP hKK (va_recv hK hP (ci := 3) (q0 := 0) rfl wPW_0)) rfl rfl hl.1 rfl (lv_room (Nat.le_of_ble_eq_true rfl)) dX5_gets_2 ⟨Nat.zero_le _, Nat.zero_le _⟩)) (fun hb2 => ?_)
    refine lv_if_eq (tgt := 20) hx hb dX5_gets_5 (by decide) (fun c5 => ?_) (fun c5 => ?_)
    · have h := br_1 h c5
      refine lv_iconst (v := (-1 : Int32)) hx hb dX5_gets_20 (by decide) ?_
      cases h
      exact hret _ _ dX5_gets_21
    · have h := br_0 h c5
      refine lv_iload_n hx hb dX5_gets_8 rfl (lv_at hl 2 rfl) ?_
      refine lv_iconst (v := (1 : Int32)) hx hb dX5_gets_9 (by decide) ?_
      refine lv_icmp_lt (tgt := 20) hx hb dX5_gets_10 (by decide) (fun c10 => ?_) (fun c10 => ?_)
      · have h := br_1 h c10
        refine lv_iconst (v := (-1 : Int32)) hx hb dX5_gets_20 (by decide) ?_
        cases h
        exact hret _ _ dX5_gets_21
      · have h := br_0 h c10
        refine lv_iload_n hx hb dX5_gets_13 rfl (lv_at hl 2 rfl) ?_
        refine lv_sipush (v := (999 : Int32)) hx hb dX5_gets_14 (by decide) ?_
        refine lv_icmp_le (tgt := 22) hx hb dX5_gets_17 (by decide) (fun c17 => ?_) (fun c17 => ?_)
        · have h := br_1 h c17
          refine lv_aload_n hx hb dX5_gets_22 rfl (lv_at hl 0 rfl) ?_
          refine va_get (D := D) (ci := 3) (C := RX5) (T := TX5) (N := 14) hx hb hts iX5 hown hK hP 0 wPW_0 rfl 7 (by decide) q1 (fun _ h9 => h9) rfl dX5_gets_23 ?_
          refine va_getN (host := "PartyWill") (D := D) (ci := 0) (C := RX0) (T := TX0) (N := 3) hx hb hts iX0 hown hK hP 18 wPW_18 rfl 1 (by decide) (va_Nw.use rfl (nw_X5_127 hKK.2)) (fun _ h9 => h9) rfl dX5_gets_26 ?_
          obtain ⟨r29, hc, h⟩ := bd1_some h
          refine my_roi (va_Run.run (va_runSN (host := "PartyWill") (As := [.long cnow]) (rest := []) hFix (kX1_howManyIn l D T F cnow r29 hc) ⟨va_cnB 1 hts gX5_gets_X1_howManyIn_n207 rfl rfl rfl (nw_X5_207 hKK.2) q9 hd_X1_howManyIn ⟨Nat.le_of_ble_eq_true rfl, Nat.le_of_ble_eq_true rfl⟩, q8, trivial⟩ (preS_ro va_nil hKK) rfl rfl hl.1 rfl (lv_room (Nat.le_of_ble_eq_true rfl)) dX5_gets_29 ⟨Nat.zero_le _, Nat.zero_le _⟩)) ?_
          refine lv_istore_n (lv' := [(3, .int r29), (0, .ref (ad 0)), (1, .int x1), (2, .int x2)]) hx hb dX5_gets_32 rfl hl (by decide) rfl (fun ls hl => ?_)
          refine lv_aload_n hx hb dX5_gets_33 rfl (lv_at hl 1 rfl) ?_
          refine va_get (D := D) (ci := 3) (C := RX5) (T := TX5) (N := 14) hx hb hts iX5 hown hK hP 0 wPW_0 rfl 7 (by decide) q1 (fun _ h9 => h9) rfl dX5_gets_34 ?_
          refine va_getN (host := "PartyWill") (D := D) (ci := 0) (C := RX0) (T := TX0) (N := 3) hx hb hts iX0 hown hK hP 18 wPW_18 rfl 1 (by decide) (va_Nw.use rfl (nw_X5_127 hKK.2)) (fun _ h9 => h9) rfl dX5_gets_37 ?_
          refine lv_iload_n hx hb dX5_gets_40 rfl (lv_at hl 2 rfl) ?_
          obtain ⟨r41, hc, h⟩ := bd1_some h
          refine my_roz (va_Run.run (va_runSN (host := "PartyWill") (As := [.long cnow, .int x1]) (rest := []) hFix (kX1_isIn l D T F cnow x1 r41 hc) ⟨va_cnB 2 hts gX5_gets_X1_isIn_n130 rfl rfl rfl (nw_X5_130 hKK.2) q9 hd_X1_isIn ⟨Nat.le_of_ble_eq_true rfl, Nat.le_of_ble_eq_true rfl⟩, q21, trivial⟩ (preS_ro va_nil hKK) rfl rfl hl.1 rfl (lv_room (Nat.le_of_ble_eq_true rfl)) dX5_gets_41 ⟨Nat.zero_le _, Nat.zero_le _⟩)) (fun hb41 => ?_)
          refine lv_if_eq (tgt := 51) hx hb dX5_gets_44 (by decide) (fun c44 => ?_) (fun c44 => ?_)
          · have h := br_1 h c44
            refine lv_iconst (v := (0 : Int32)) hx hb dX5_gets_51 (by decide) ?_
            cases h
            exact hret _ _ dX5_gets_52
          · have h := br_0 h c44
            refine lv_iload_n hx hb dX5_gets_47 rfl (lv_at hl 0 rfl) ?_
            refine lv_if_gt (tgt := 53) hx hb dX5_gets_48 (by decide) (fun c48 => ?_) (fun c48 => ?_)
            · have h := br_1 h c48
              refine lv_aload_n hx hb dX5_gets_53 rfl (lv_at hl 1 rfl) ?_
              refine va_get (D := D) (ci := 3) (C := RX5) (T := TX5) (N := 14) hx hb hts iX5 hown hK hP 0 wPW_0 rfl 7 (by decide) q1 (fun _ h9 => h9) rfl dX5_gets_54 ?_
              refine va_getN (host := "PartyWill") (D := D) (ci := 0) (C := RX0) (T := TX0) (N := 3) hx hb hts iX0 hown hK hP 18 wPW_18 rfl 1 (by decide) (va_Nw.use rfl (nw_X5_127 hKK.2)) (fun _ h9 => h9) rfl dX5_gets_57 ?_
              obtain ⟨r60, hc, h⟩ := bd1_some h
              refine my_roi (va_Run.run (va_runSN (host := "PartyWill") (As := [.long cnow]) (rest := []) hFix (kX1_insiders l D T F cnow r60 hc) ⟨va_cnB 1 hts gX5_gets_X1_insiders_n158 rfl rfl rfl (nw_X5_158 hKK.2) q9 hd_X1_insiders ⟨Nat.le_of_ble_eq_true rfl, Nat.le_of_ble_eq_true rfl⟩, q12, trivial⟩ (preS_ro va_nil hKK) rfl rfl hl.1 rfl (lv_room (Nat.le_of_ble_eq_true rfl)) dX5_gets_60 ⟨Nat.zero_le _, Nat.zero_le _⟩)) ?_
              refine lv_iconst (v := (1 : Int32)) hx hb dX5_gets_63 (by decide) ?_
              refine lv_iload_n hx hb dX5_gets_64 rfl (lv_at hl 2 rfl) ?_
              refine lv_ishl hx hb dX5_gets_65 ?_
              refine lv_iconst (v := (1 : Int32)) hx hb dX5_gets_66 (by decide) ?_
              refine lv_isub hx hb dX5_gets_67 ?_
              refine lv_iand hx hb dX5_gets_68 ?_
              obtain ⟨r69, hc, h⟩ := bd1_some h
              refine my_roi (va_Run.run (va_runS (As := [.int (r60 &&& (((1 : Int32) <<< (x1 &&& 31)) - (1 : Int32)))]) (rest := []) hFix (kJ6_bitCount_0f7a4 l D T F (r60 &&& (((1 : Int32) <<< (x1 &&& 31)) - (1 : Int32))) r69 hc) (va_cwS 1 hts gX5_gets_J6_bitCount_0f7a4 rfl rfl rfl hd_J6_bitCount_0f7a4 ⟨Nat.le_of_ble_eq_true rfl, Nat.le_of_ble_eq_true rfl⟩) (preS_ro va_nil hKK) rfl rfl hl.1 rfl (lv_room (Nat.le_of_ble_eq_true rfl)) dX5_gets_69 ⟨Nat.zero_le _, Nat.zero_le _⟩)) ?_
              refine lv_istore (lv' := [(4, .int r69), (3, .int r29), (0, .ref (ad 0)), (1, .int x1), (2, .int x2)]) hx hb dX5_gets_72 hl (by decide) rfl (fun ls hl => ?_)
              refine lv_iload_n hx hb dX5_gets_74 rfl (lv_at hl 4 rfl) ?_
              refine lv_iload_n hx hb dX5_gets_75 rfl (lv_at hl 1 rfl) ?_
              obtain ⟨hne, h⟩ := ck_some h
              refine lv_idiv hx hb dX5_gets_76 hne ?_
              refine lv_iload hx hb dX5_gets_77 (lv_at hl 0 rfl) ?_
              refine lv_iload_n hx hb dX5_gets_79 rfl (lv_at hl 4 rfl) ?_
              refine lv_iload_n hx hb dX5_gets_80 rfl (lv_at hl 1 rfl) ?_
              obtain ⟨hne, h⟩ := ck_some h
              refine lv_irem hx hb dX5_gets_81 hne ?_
              refine lv_icmp_ge (tgt := 89) hx hb dX5_gets_82 (by decide) (fun c82 => ?_) (fun c82 => ?_)
              · have h := br_1 h c82
                refine lv_iconst (v := (0 : Int32)) hx hb dX5_gets_89 (by decide) ?_
                refine lv_iadd hx hb dX5_gets_90 ?_
                cases h
                exact hret _ _ dX5_gets_91
              · have h := br_0 h c82
                refine lv_iconst (v := (1 : Int32)) hx hb dX5_gets_85 (by decide) ?_
                refine lv_goto (tgt := 90) hx hb dX5_gets_86 (by decide) ?_
                refine lv_iadd hx hb dX5_gets_90 ?_
                cases h
                exact hret _ _ dX5_gets_91
            · have h := br_0 h c48
              refine lv_iconst (v := (0 : Int32)) hx hb dX5_gets_51 (by decide) ?_
              cases h
              exact hret _ _ dX5_gets_52
        · have h := br_0 h c17
          refine lv_iconst (v := (-1 : Int32)) hx hb dX5_gets_20 (by decide) ?_
          cases h
          exact hret _ _ dX5_gets_21
  exact key _ (fun pc ls hd => W.iret hx hb hr (fun t ht hW => ⟨_, rfl, rfl, ht⟩) (fun q h => by cases h) hd)
set_option maxHeartbeats 4000000 in
set_option maxRecDepth 100000 in
theorem kX5_griefOfSet (l : Launch) (D : va_G) (T : Nat → ClassId) (F : Nat) (ad : Nat → Nat) (rs : Nat → Int32) (rm : Nat → Nat → Int32) (ts : Nat → Int32) (tm : Nat → Nat → Int32) (rdue : Int32) (rtun : Int32) (rsee : Int32) (rbeg : Int32) (psize : Int32) (pclause : Int32) (peff : Nat → Int32) (pkin : Nat → Int32) (pgri : Nat → Int32) (psig : Nat → Int32) (psee : Nat → Int32) (qsize : Int32) (qclause : Int32) (qeff : Nat → Int32) (qkin : Nat → Int32) (qgri : Nat → Int32) (qsig : Nat → Int32) (qsee : Nat → Int32) (cdee : Int32) (cnow : Int64) (cahe : Nat → Int64) (kdee : Nat → Int32) (know : Nat → Int64) (kahe : Nat → Nat → Int64) (fc : Nat → Int32) (lf : Int32) (told : Int32) (up : Int64) (lo : Int64) (x1 : Int32) (r : Int32) (h : fX5_griefOfSet F psize cnow x1 = some (r)) : Met l yX5_griefOfSet wsX5_griefOfSet ({ frames := 1, cells := 0, slots := 0, locals := 22 } : Room) (va_Pc [.ref (ad 0), .int x1] (fun U => va_P D vwCl (wPW T ad (ad 6) (ad 12) rs rm ts tm rdue rtun rsee rbeg psize pclause peff pkin pgri psig psee qsize qclause qeff qkin qgri qsig qsee cdee cnow cahe kdee know kahe fc lf told up lo) U.heap ∧ KK D T U)) (vp_Si (fun r' => r' = r)) 0 0 (fun _ => False) := by
  refine Met.ofW (cc := cX5_griefOfSet) (maxL := 4) (ret := some .int) (by decide) rfl ?_
  intro p e s m args below meth c s₁ B hml hv
  obtain ⟨ha, hP, hKK⟩ := hv
  have hx := B.exec
  have hb := B.bytes
  have hr := B.returns
  have hts := atoms_spec (ws := wsX5_griefOfSet) B.pre
  have hown : s.vm.findClass RX5 = some m.cls := findClass_of_methodNamed B.named
  have hlocks := B.notSynchronized
  have hK := hKK.1
  have hFix : CallFix p m c cX5_griefOfSet 4 s args wsX5_griefOfSet RX5 := ⟨hx, hb, hml, hown, hts⟩
  have q1 := hts _ (List.mem_of_getElem? (i := 1) (show wsX5_griefOfSet[1]? = some (Cond.fieldLink RX5 36 "PartyWill" "party" "LPartyWill$Party;") from rfl))
  have q2 := hts _ (List.mem_of_getElem? (i := 2) (show wsX5_griefOfSet[2]? = some (Cond.fieldLink RX5 46 "PartyWill" "course" "LPartyWill$Course;") from rfl))
  have q3 := hts _ (List.mem_of_getElem? (i := 3) (show wsX5_griefOfSet[3]? = some (Cond.static yX1_griefOf) from rfl))
  have q4 := hts _ (List.mem_of_getElem? (i := 4) (show wsX5_griefOfSet[4]? = some (Cond.initialized RX1) from rfl))
  have iX0 : ∀ w ∈ u_ws RX0 TX0 3, w ∈ wsX5_griefOfSet := fun w h => List.mem_cons_of_mem _ (List.mem_append_right _ (h))
  have iX2 : ∀ w ∈ u_ws RX2 TX2 7, w ∈ wsX5_griefOfSet := fun w h => List.mem_cons_of_mem _ (List.mem_append_left _ (List.mem_append_right _ (h)))
  have iX5 : ∀ w ∈ u_ws RX5 TX5 14, w ∈ wsX5_griefOfSet := fun w h => List.mem_cons_of_mem _ (List.mem_append_left _ (List.mem_append_left _ (List.mem_append_right _ (h))))
  obtain ⟨ls, hl, e0⟩ := my_entry (m := m) (n := 4) ha (Nat.le_of_ble_eq_true rfl)
  rw [e0]
  have hl : lv_has ls 4 [(0, .ref (ad 0)), (1, .int x1)] := hl
  have key : ∀ Q : State → Prop, (∀ (pc : Nat) (ls : Array Slot), decode cX5_griefOfSet pc = .ok (.ireturn, 1) → W p l e ({ frames := 1, cells := 0, slots := 0, locals := 22 } : Room) s m args below meth c s.heap [] 0 0 Q (F0 m pc ls [.int r])) → W p l e ({ frames := 1, cells := 0, slots := 0, locals := 22 } : Room) s m args below meth c s.heap [] 0 0 Q (F0 m 0 ls []) := by
    intro Q hret
    have l4 : ∀ x1 : Int32, ∀ nu : Nat, ∀ x2 : Int32, ∀ x3 : Int32, fX5_griefOfSet_l4 F psize cnow x1 nu x2 x3 = some (r) → ∀ (ls : Array Slot), lv_has ls 4 [(0, .ref (ad 0)), (1, .int x1), (2, .int x2), (3, .int x3)] → W p l e ({ frames := 1, cells := 0, slots := 0, locals := 22 } : Room) s m args below meth c s.heap [] 0 0 Q (F0 m 4 ls []) := by
      intro x1
      intro nu
      induction nu with
      | zero => intro x2 x3 h; exact none_some h
      | succ nu4 ih4 =>
        intro x2 x3 h ls hl
        have h : fX5_griefOfSet_l4_b F psize cnow x1 (fX5_griefOfSet_l4 F psize cnow x1 nu4) x2 x3 = some (r) := h
        unfold fX5_griefOfSet_l4_b at h
        refine lv_iload_n hx hb dX5_griefOfSet_4 rfl (lv_at hl 3 rfl) ?_
        refine lv_aload_n hx hb dX5_griefOfSet_5 rfl (lv_at hl 0 rfl) ?_
        refine va_get (D := D) (ci := 3) (C := RX5) (T := TX5) (N := 14) hx hb hts iX5 hown hK hP 0 wPW_0 rfl 5 (by decide) q1 (fun _ h9 => h9) rfl dX5_griefOfSet_6 ?_
        refine va_getN (host := "PartyWill") (D := D) (ci := 1) (C := RX2) (T := TX2) (N := 7) hx hb hts iX2 hown hK hP 6 wPW_6 rfl 0 (by decide) (va_Nw.use rfl (nw_X5_111 hKK.2)) (fun _ h9 => h9) rfl dX5_griefOfSet_9 ?_
        refine lv_icmp_ge (tgt := 43) hx hb dX5_griefOfSet_12 (by decide) (fun c12 => ?_) (fun c12 => ?_)
        · have h := br_1 h c12
          refine lv_iload_n hx hb dX5_griefOfSet_43 rfl (lv_at hl 2 rfl) ?_
          cases h
          exact hret _ _ dX5_griefOfSet_44
        · have h := br_0 h c12
          refine lv_iload_n hx hb dX5_griefOfSet_15 rfl (lv_at hl 1 rfl) ?_
          refine lv_iload_n hx hb dX5_griefOfSet_16 rfl (lv_at hl 3 rfl) ?_
          refine lv_ishr hx hb dX5_griefOfSet_17 ?_
          refine lv_iconst (v := (1 : Int32)) hx hb dX5_griefOfSet_18 (by decide) ?_
          refine lv_iand hx hb dX5_griefOfSet_19 ?_
          refine lv_if_eq (tgt := 37) hx hb dX5_griefOfSet_20 (by decide) (fun c20 => ?_) (fun c20 => ?_)
          · have h := br_1 h c20
            refine lv_iinc (v := (x3 + (1 : Int32))) (lv' := [(3, .int (x3 + (1 : Int32))), (0, .ref (ad 0)), (1, .int x1), (2, .int x2)]) hx hb dX5_griefOfSet_37 hl (k := 3) rfl rfl (by decide) rfl (fun ls hl => ?_)
            refine lv_goto (tgt := 4) hx hb dX5_griefOfSet_40 (by decide) ?_
            exact ih4 x2 (x3 + (1 : Int32)) h _ (lv_sub hl [1, 2, 3, 0] rfl)
          · have h := br_0 h c20
            refine lv_iload_n hx hb dX5_griefOfSet_23 rfl (lv_at hl 2 rfl) ?_
            refine lv_aload_n hx hb dX5_griefOfSet_24 rfl (lv_at hl 0 rfl) ?_
            refine va_get (D := D) (ci := 3) (C := RX5) (T := TX5) (N := 14) hx hb hts iX5 hown hK hP 0 wPW_0 rfl 7 (by decide) q2 (fun _ h9 => h9) rfl dX5_griefOfSet_25 ?_
            refine va_getN (host := "PartyWill") (D := D) (ci := 0) (C := RX0) (T := TX0) (N := 3) hx hb hts iX0 hown hK hP 18 wPW_18 rfl 1 (by decide) (va_Nw.use rfl (nw_X5_127 hKK.2)) (fun _ h9 => h9) rfl dX5_griefOfSet_28 ?_
            refine lv_iload_n hx hb dX5_griefOfSet_31 rfl (lv_at hl 3 rfl) ?_
            obtain ⟨r32, hc, h⟩ := bd1_some h
            refine my_roi (va_Run.run (va_runSN (host := "PartyWill") (As := [.long cnow, .int x3]) (rest := [.int x2]) hFix (kX1_griefOf l D T F cnow x3 r32 hc) ⟨va_cnB 2 hts gX5_griefOfSet_X1_griefOf_n175 rfl rfl rfl (nw_X5_175 hKK.2) q4 hd_X1_griefOf ⟨Nat.le_of_ble_eq_true rfl, Nat.le_of_ble_eq_true rfl⟩, q3, trivial⟩ (preS_ro va_nil hKK) rfl rfl hl.1 rfl (lv_room (Nat.le_of_ble_eq_true rfl)) dX5_griefOfSet_32 ⟨Nat.zero_le _, Nat.zero_le _⟩)) ?_
            refine lv_iadd hx hb dX5_griefOfSet_35 ?_
            refine lv_istore_n (lv' := [(2, .int (x2 + r32)), (0, .ref (ad 0)), (1, .int x1), (3, .int x3)]) hx hb dX5_griefOfSet_36 rfl hl (by decide) rfl (fun ls hl => ?_)
            refine lv_iinc (v := (x3 + (1 : Int32))) (lv' := [(3, .int (x3 + (1 : Int32))), (2, .int (x2 + r32)), (0, .ref (ad 0)), (1, .int x1)]) hx hb dX5_griefOfSet_37 hl (k := 3) rfl rfl (by decide) rfl (fun ls hl => ?_)
            refine lv_goto (tgt := 4) hx hb dX5_griefOfSet_40 (by decide) ?_
            exact ih4 (x2 + r32) (x3 + (1 : Int32)) h _ (lv_sub hl [2, 3, 1, 0] rfl)
    unfold fX5_griefOfSet at h
    refine lv_iconst (v := (0 : Int32)) hx hb dX5_griefOfSet_0 (by decide) ?_
    refine lv_istore_n (lv' := [(2, .int (0 : Int32)), (0, .ref (ad 0)), (1, .int x1)]) hx hb dX5_griefOfSet_1 rfl hl (by decide) rfl (fun ls hl => ?_)
    refine lv_iconst (v := (0 : Int32)) hx hb dX5_griefOfSet_2 (by decide) ?_
    refine lv_istore_n (lv' := [(3, .int (0 : Int32)), (2, .int (0 : Int32)), (0, .ref (ad 0)), (1, .int x1)]) hx hb dX5_griefOfSet_3 rfl hl (by decide) rfl (fun ls hl => ?_)
    exact l4 x1 F (0 : Int32) (0 : Int32) h _ (lv_sub hl [2, 3, 1, 0] rfl)
  exact key _ (fun pc ls hd => W.iret hx hb hr (fun t ht hW => ⟨_, rfl, rfl, ht⟩) (fun q h => by cases h) hd)
set_option maxHeartbeats 4000000 in
set_option maxRecDepth 100000 in
theorem kX5_stops (l : Launch) (D : va_G) (T : Nat → ClassId) (F : Nat) (ad : Nat → Nat) (rs : Nat → Int32) (rm : Nat → Nat → Int32) (ts : Nat → Int32) (tm : Nat → Nat → Int32) (rdue : Int32) (rtun : Int32) (rsee : Int32) (rbeg : Int32) (psize : Int32) (pclause : Int32) (peff : Nat → Int32) (pkin : Nat → Int32) (pgri : Nat → Int32) (psig : Nat → Int32) (psee : Nat → Int32) (qsize : Int32) (qclause : Int32) (qeff : Nat → Int32) (qkin : Nat → Int32) (qgri : Nat → Int32) (qsig : Nat → Int32) (qsee : Nat → Int32) (cdee : Int32) (cnow : Int64) (cahe : Nat → Int64) (kdee : Nat → Int32) (know : Nat → Int64) (kahe : Nat → Nat → Int64) (fc : Nat → Int32) (lf : Int32) (told : Int32) (up : Int64) (lo : Int64) (r : Int32) (h : fX5_stops F psize pclause cnow = some (r)) : Met l yX5_stops wsX5_stops ({ frames := 2, cells := 0, slots := 0, locals := 45 } : Room) (va_Pc [.ref (ad 0)] (fun U => va_P D vwCl (wPW T ad (ad 6) (ad 12) rs rm ts tm rdue rtun rsee rbeg psize pclause peff pkin pgri psig psee qsize qclause qeff qkin qgri qsig qsee cdee cnow cahe kdee know kahe fc lf told up lo) U.heap ∧ KK D T U)) (vp_Si (fun r' => r' = r)) 0 0 (fun _ => False) := by
  refine Met.ofW (cc := cX5_stops) (maxL := 6) (ret := some .int) (by decide) rfl ?_
  intro p e s m args below meth c s₁ B hml hv
  obtain ⟨ha, hP, hKK⟩ := hv
  have hx := B.exec
  have hb := B.bytes
  have hr := B.returns
  have hts := atoms_spec (ws := wsX5_stops) B.pre
  have hown : s.vm.findClass RX5 = some m.cls := findClass_of_methodNamed B.named
  have hlocks := B.notSynchronized
  have hK := hKK.1
  have hFix : CallFix p m c cX5_stops 6 s args wsX5_stops RX5 := ⟨hx, hb, hml, hown, hts⟩
  have q1 := hts _ (List.mem_of_getElem? (i := 1) (show wsX5_stops[1]? = some (Cond.fieldLink RX5 36 "PartyWill" "party" "LPartyWill$Party;") from rfl))
  have q2 := hts _ (List.mem_of_getElem? (i := 2) (show wsX5_stops[2]? = some (Cond.fieldLink RX5 46 "PartyWill" "course" "LPartyWill$Course;") from rfl))
  have q10 := hts _ (List.mem_of_getElem? (i := 10) (show wsX5_stops[10]? = some (Cond.static yX1_insiders) from rfl))
  have q11 := hts _ (List.mem_of_getElem? (i := 11) (show wsX5_stops[11]? = some (Cond.initialized RX1) from rfl))
  have iX0 : ∀ w ∈ u_ws RX0 TX0 3, w ∈ wsX5_stops := fun w h => List.mem_cons_of_mem _ (List.mem_append_right _ (h))
  have iX2 : ∀ w ∈ u_ws RX2 TX2 7, w ∈ wsX5_stops := fun w h => List.mem_cons_of_mem _ (List.mem_append_left _ (List.mem_append_right _ (h)))
  have iX5 : ∀ w ∈ u_ws RX5 TX5 14, w ∈ wsX5_stops := fun w h => List.mem_cons_of_mem _ (List.mem_append_left _ (List.mem_append_left _ (List.mem_append_right _ (h))))
  obtain ⟨ls, hl, e0⟩ := my_entry (m := m) (n := 6) ha (Nat.le_of_ble_eq_true rfl)
  rw [e0]
  have hl : lv_has ls 6 [(0, .ref (ad 0))] := hl
  have key : ∀ Q : State → Prop, (∀ (pc : Nat) (ls : Array Slot), decode cX5_stops pc = .ok (.ireturn, 1) → W p l e ({ frames := 2, cells := 0, slots := 0, locals := 45 } : Room) s m args below meth c s.heap [] 0 0 Q (F0 m pc ls [.int r])) → W p l e ({ frames := 2, cells := 0, slots := 0, locals := 45 } : Room) s m args below meth c s.heap [] 0 0 Q (F0 m 0 ls []) := by
    intro Q hret
    have l8 : ∀ nu : Nat, ∀ x1 : Int32, ∀ x2 : Int32, ∀ x3 : Int32, fX5_stops_l8 F psize pclause cnow nu x1 x2 x3 = some (r) → ∀ (ls : Array Slot), lv_has ls 6 [(0, .ref (ad 0)), (1, .int x1), (2, .int x2), (3, .int x3)] → W p l e ({ frames := 2, cells := 0, slots := 0, locals := 45 } : Room) s m args below meth c s.heap [] 0 0 Q (F0 m 8 ls []) := by
      intro nu
      induction nu with
      | zero => intro x1 x2 x3 h; exact none_some h
      | succ nu8 ih8 =>
        intro x1 x2 x3 h ls hl
        have n49 : ∀ s_0 : Int32, ∀ x1 : Int32, ∀ x2 : Int32, ∀ x3 : Int32, ∀ x4 : Int32, fX5_stops_n49 F (fX5_stops_l8 F psize pclause cnow nu8) psize pclause cnow s_0 x1 x2 x3 x4 = some (r) → ∀ (ls : Array Slot), lv_has ls 6 [(0, .ref (ad 0)), (1, .int x1), (2, .int x2), (3, .int x3), (4, .int x4)] → W p l e ({ frames := 2, cells := 0, slots := 0, locals := 45 } : Room) s m args below meth c s.heap [] 0 0 Q (F0 m 49 ls [.int s_0]) := by
          intro s_0 x1 x2 x3 x4 h ls hl
          unfold fX5_stops_n49 at h
          refine lv_istore (lv' := [(5, .int s_0), (0, .ref (ad 0)), (1, .int x1), (2, .int x2), (3, .int x3), (4, .int x4)]) hx hb dX5_stops_49 hl (by decide) rfl (fun ls hl => ?_)
          refine lv_iload hx hb dX5_stops_51 (lv_at hl 0 rfl) ?_
          refine lv_if_eq (tgt := 93) hx hb dX5_stops_53 (by decide) (fun c53 => ?_) (fun c53 => ?_)
          · have h := br_1 h c53
            refine lv_iinc (v := (x3 + (1 : Int32))) (lv' := [(3, .int (x3 + (1 : Int32))), (5, .int s_0), (0, .ref (ad 0)), (1, .int x1), (2, .int x2), (4, .int x4)]) hx hb dX5_stops_93 hl (k := 4) rfl rfl (by decide) rfl (fun ls hl => ?_)
            refine lv_goto (tgt := 8) hx hb dX5_stops_96 (by decide) ?_
            exact ih8 x1 x2 (x3 + (1 : Int32)) h _ (lv_sub hl [2, 3, 4, 0] rfl)
          · have h := br_0 h c53
            refine lv_iload hx hb dX5_stops_56 (lv_at hl 5 rfl) ?_
            refine lv_iconst (v := (2 : Int32)) hx hb dX5_stops_58 (by decide) ?_
            refine lv_icmp_lt (tgt := 93) hx hb dX5_stops_59 (by decide) (fun c59 => ?_) (fun c59 => ?_)
            · have h := br_1 h c59
              refine lv_iinc (v := (x3 + (1 : Int32))) (lv' := [(3, .int (x3 + (1 : Int32))), (5, .int s_0), (0, .ref (ad 0)), (1, .int x1), (2, .int x2), (4, .int x4)]) hx hb dX5_stops_93 hl (k := 4) rfl rfl (by decide) rfl (fun ls hl => ?_)
              refine lv_goto (tgt := 8) hx hb dX5_stops_96 (by decide) ?_
              exact ih8 x1 x2 (x3 + (1 : Int32)) h _ (lv_sub hl [2, 3, 4, 0] rfl)
            · have h := br_0 h c59
              refine lv_iload hx hb dX5_stops_62 (lv_at hl 5 rfl) ?_
              refine lv_iload_n hx hb dX5_stops_64 rfl (lv_at hl 3 rfl) ?_
              refine lv_icmp_ge (tgt := 93) hx hb dX5_stops_65 (by decide) (fun c65 => ?_) (fun c65 => ?_)
              · have h := br_1 h c65
                refine lv_iinc (v := (x3 + (1 : Int32))) (lv' := [(3, .int (x3 + (1 : Int32))), (5, .int s_0), (0, .ref (ad 0)), (1, .int x1), (2, .int x2), (4, .int x4)]) hx hb dX5_stops_93 hl (k := 4) rfl rfl (by decide) rfl (fun ls hl => ?_)
                refine lv_goto (tgt := 8) hx hb dX5_stops_96 (by decide) ?_
                exact ih8 x1 x2 (x3 + (1 : Int32)) h _ (lv_sub hl [2, 3, 4, 0] rfl)
              · have h := br_0 h c65
                refine lv_aload_n hx hb dX5_stops_68 rfl (lv_at hl 1 rfl) ?_
                refine lv_iload_n hx hb dX5_stops_69 rfl (lv_at hl 4 rfl) ?_
                obtain ⟨r70, hc, h⟩ := bd1_some h
                refine my_roi (va_Run.run (va_runV (As := [.int x3]) (rest := []) hFix (kX5_griefOfSet l D T F ad rs rm ts tm rdue rtun rsee rbeg psize pclause peff pkin pgri psig psee qsize qclause qeff qkin qgri qsig qsee cdee cnow cahe kdee know kahe fc lf told up lo x3 r70 hc) (cwV 1 hts gX5_stops_X5_griefOfSet rfl rfl rfl ⟨rfl, hd_X5_griefOfSet⟩ ⟨Nat.le_of_ble_eq_true rfl, Nat.le_of_ble_eq_true rfl⟩) (preV_ro hP hKK (va_recv hK hP (ci := 3) (q0 := 0) rfl wPW_0)) rfl rfl hl.1 rfl (lv_room (Nat.le_of_ble_eq_true rfl)) dX5_stops_70 ⟨Nat.zero_le _, Nat.zero_le _⟩)) ?_
                refine lv_aload_n hx hb dX5_stops_73 rfl (lv_at hl 1 rfl) ?_
                refine va_get (D := D) (ci := 3) (C := RX5) (T := TX5) (N := 14) hx hb hts iX5 hown hK hP 0 wPW_0 rfl 5 (by decide) q1 (fun _ h9 => h9) rfl dX5_stops_74 ?_
                refine va_getN (host := "PartyWill") (D := D) (ci := 1) (C := RX2) (T := TX2) (N := 7) hx hb hts iX2 hown hK hP 6 wPW_6 rfl 1 (by decide) (va_Nw.use rfl (nw_X5_257 hKK.2)) (fun _ h9 => h9) rfl dX5_stops_77 ?_
                refine lv_iload hx hb dX5_stops_80 (lv_at hl 5 rfl) ?_
                refine lv_iconst (v := (1 : Int32)) hx hb dX5_stops_82 (by decide) ?_
                refine lv_isub hx hb dX5_stops_83 ?_
                refine lv_imul hx hb dX5_stops_84 ?_
                refine lv_icmp_ge (tgt := 93) hx hb dX5_stops_85 (by decide) (fun c85 => ?_) (fun c85 => ?_)
                · have h := br_1 h c85
                  refine lv_iinc (v := (x3 + (1 : Int32))) (lv' := [(3, .int (x3 + (1 : Int32))), (5, .int s_0), (0, .ref (ad 0)), (1, .int x1), (2, .int x2), (4, .int x4)]) hx hb dX5_stops_93 hl (k := 4) rfl rfl (by decide) rfl (fun ls hl => ?_)
                  refine lv_goto (tgt := 8) hx hb dX5_stops_96 (by decide) ?_
                  exact ih8 x1 x2 (x3 + (1 : Int32)) h _ (lv_sub hl [2, 3, 4, 0] rfl)
                · have h := br_0 h c85
                  refine lv_iload_n hx hb dX5_stops_88 rfl (lv_at hl 4 rfl) ?_
                  refine lv_istore_n (lv' := [(1, .int x3), (5, .int s_0), (0, .ref (ad 0)), (2, .int x2), (3, .int x3), (4, .int x4)]) hx hb dX5_stops_89 rfl hl (by decide) rfl (fun ls hl => ?_)
                  refine lv_iload hx hb dX5_stops_90 (lv_at hl 5 rfl) ?_
                  refine lv_istore_n (lv' := [(2, .int x4), (1, .int x3), (5, .int s_0), (0, .ref (ad 0)), (3, .int x3), (4, .int x4)]) hx hb dX5_stops_92 rfl hl (by decide) rfl (fun ls hl => ?_)
                  refine lv_iinc (v := (x3 + (1 : Int32))) (lv' := [(3, .int (x3 + (1 : Int32))), (2, .int x4), (1, .int x3), (5, .int s_0), (0, .ref (ad 0)), (4, .int x4)]) hx hb dX5_stops_93 hl (k := 4) rfl rfl (by decide) rfl (fun ls hl => ?_)
                  refine lv_goto (tgt := 8) hx hb dX5_stops_96 (by decide) ?_
                  exact ih8 x3 x4 (x3 + (1 : Int32)) h _ (lv_sub hl [4, 2, 1, 0] rfl)
        have h : fX5_stops_l8_b F psize pclause cnow (fX5_stops_l8 F psize pclause cnow nu8) x1 x2 x3 = some (r) := h
        unfold fX5_stops_l8_b at h
        refine lv_iload_n hx hb dX5_stops_8 rfl (lv_at hl 3 rfl) ?_
        refine lv_iconst (v := (1 : Int32)) hx hb dX5_stops_9 (by decide) ?_
        refine lv_aload_n hx hb dX5_stops_10 rfl (lv_at hl 0 rfl) ?_
        refine va_get (D := D) (ci := 3) (C := RX5) (T := TX5) (N := 14) hx hb hts iX5 hown hK hP 0 wPW_0 rfl 5 (by decide) q1 (fun _ h9 => h9) rfl dX5_stops_11 ?_
        refine va_getN (host := "PartyWill") (D := D) (ci := 1) (C := RX2) (T := TX2) (N := 7) hx hb hts iX2 hown hK hP 6 wPW_6 rfl 0 (by decide) (va_Nw.use rfl (nw_X5_111 hKK.2)) (fun _ h9 => h9) rfl dX5_stops_14 ?_
        refine lv_ishl hx hb dX5_stops_17 ?_
        refine lv_icmp_ge (tgt := 99) hx hb dX5_stops_18 (by decide) (fun c18 => ?_) (fun c18 => ?_)
        · have h := br_1 h c18
          refine lv_iload_n hx hb dX5_stops_99 rfl (lv_at hl 1 rfl) ?_
          cases h
          exact hret _ _ dX5_stops_100
        · have h := br_0 h c18
          refine lv_iload_n hx hb dX5_stops_21 rfl (lv_at hl 3 rfl) ?_
          obtain ⟨r22, hc, h⟩ := bd1_some h
          refine my_roi (va_Run.run (va_runS (As := [.int x3]) (rest := []) hFix (kJ6_bitCount_0f7a4 l D T F x3 r22 hc) (va_cwS 1 hts gX5_stops_J6_bitCount_0f7a4 rfl rfl rfl hd_J6_bitCount_0f7a4 ⟨Nat.le_of_ble_eq_true rfl, Nat.le_of_ble_eq_true rfl⟩) (preS_ro va_nil hKK) rfl rfl hl.1 rfl (lv_room (Nat.le_of_ble_eq_true rfl)) dX5_stops_22 ⟨Nat.zero_le _, Nat.zero_le _⟩)) ?_
          refine lv_istore (lv' := [(4, .int r22), (0, .ref (ad 0)), (1, .int x1), (2, .int x2), (3, .int x3)]) hx hb dX5_stops_25 hl (by decide) rfl (fun ls hl => ?_)
          refine lv_iload_n hx hb dX5_stops_27 rfl (lv_at hl 4 rfl) ?_
          refine lv_aload_n hx hb dX5_stops_28 rfl (lv_at hl 1 rfl) ?_
          refine va_get (D := D) (ci := 3) (C := RX5) (T := TX5) (N := 14) hx hb hts iX5 hown hK hP 0 wPW_0 rfl 7 (by decide) q2 (fun _ h9 => h9) rfl dX5_stops_29 ?_
          refine va_getN (host := "PartyWill") (D := D) (ci := 0) (C := RX0) (T := TX0) (N := 3) hx hb hts iX0 hown hK hP 18 wPW_18 rfl 1 (by decide) (va_Nw.use rfl (nw_X5_127 hKK.2)) (fun _ h9 => h9) rfl dX5_stops_32 ?_
          obtain ⟨r35, hc, h⟩ := bd1_some h
          refine my_roi (va_Run.run (va_runSN (host := "PartyWill") (As := [.long cnow]) (rest := [.int x3]) hFix (kX1_insiders l D T F cnow r35 hc) ⟨va_cnB 1 hts gX5_stops_X1_insiders_n158 rfl rfl rfl (nw_X5_158 hKK.2) q11 hd_X1_insiders ⟨Nat.le_of_ble_eq_true rfl, Nat.le_of_ble_eq_true rfl⟩, q10, trivial⟩ (preS_ro va_nil hKK) rfl rfl hl.1 rfl (lv_room (Nat.le_of_ble_eq_true rfl)) dX5_stops_35 ⟨Nat.zero_le _, Nat.zero_le _⟩)) ?_
          refine lv_iconst (v := (-1 : Int32)) hx hb dX5_stops_38 (by decide) ?_
          refine lv_ixor hx hb dX5_stops_39 ?_
          refine lv_iand hx hb dX5_stops_40 ?_
          refine lv_if_ne (tgt := 48) hx hb dX5_stops_41 (by decide) (fun c41 => ?_) (fun c41 => ?_)
          · have h := br_0 h c41
            refine lv_iconst (v := (0 : Int32)) hx hb dX5_stops_48 (by decide) ?_
            exact n49 (0 : Int32) x1 x2 x3 r22 h _ (lv_sub hl [1, 2, 3, 4, 0] rfl)
          · have h := br_1 h c41
            refine lv_iconst (v := (1 : Int32)) hx hb dX5_stops_44 (by decide) ?_
            refine lv_goto (tgt := 49) hx hb dX5_stops_45 (by decide) ?_
            exact n49 (1 : Int32) x1 x2 x3 r22 h _ (lv_sub hl [1, 2, 3, 4, 0] rfl)
    unfold fX5_stops at h
    refine lv_bipush (v := (-9 : Int32)) hx hb dX5_stops_0 (by decide) ?_
    refine lv_istore_n (lv' := [(1, .int (-9 : Int32)), (0, .ref (ad 0))]) hx hb dX5_stops_2 rfl hl (by decide) rfl (fun ls hl => ?_)
    refine lv_bipush (v := (7 : Int32)) hx hb dX5_stops_3 (by decide) ?_
    refine lv_istore_n (lv' := [(2, .int (7 : Int32)), (1, .int (-9 : Int32)), (0, .ref (ad 0))]) hx hb dX5_stops_5 rfl hl (by decide) rfl (fun ls hl => ?_)
    refine lv_iconst (v := (1 : Int32)) hx hb dX5_stops_6 (by decide) ?_
    refine lv_istore_n (lv' := [(3, .int (1 : Int32)), (2, .int (7 : Int32)), (1, .int (-9 : Int32)), (0, .ref (ad 0))]) hx hb dX5_stops_7 rfl hl (by decide) rfl (fun ls hl => ?_)
    exact l8 F (-9 : Int32) (7 : Int32) (1 : Int32) h _ (lv_sub hl [3, 2, 1, 0] rfl)
  exact key _ (fun pc ls hd => W.iret hx hb hr (fun t ht hW => ⟨_, rfl, rfl, ht⟩) (fun q h => by cases h) hd)
