set_option maxHeartbeats 4000000 in
set_option maxRecDepth 100000 in
theorem kX6_wept (l : Launch) (D : va_G) (T : Nat → ClassId) (F : Nat) (am : Nat → Nat) (mguests : Int32) (mclause : Int32) (mdeeds : Int32) (masked : Int32) (mupper : Int64) (mlower : Int64) (mfinding : Int32) (mreadGuests : Int32) (misSight : Int32) (mat : Int32) (mrowSizes : Nat → Int32) (mrows : Nat → Int32) (mtextSizes : Nat → Int32) (mtexts : Nat → Int32) (mdoes : Nat → Int32) (mkinds : Nat → Int32) (msees : Nat → Int32) (mnow : Nat → Int32) (mbefore : Nat → Int32) (mkeeps : Nat → Int32) (mkept : Nat → Int32) (mfindings : Nat → Int32) (mread : Nat → Int32) (maside : Nat → Int32) (msteps : Nat → Int32) (mtried : Nat → Int32) (mbest : Nat → Int32) (x1 : Int32) (r : Int32) (h : fX6_wept F mguests msees mnow x1 = some (r)) : Met l yX6_wept wsX6_wept ({ frames := 2, cells := 0, slots := 0, locals := 45 } : Room) (va_Pc [.ref (am 0), .int x1] (fun U => va_P D vwCl (wMo T am mguests mclause mdeeds masked mupper mlower mfinding mreadGuests misSight mat mrowSizes mrows mtextSizes mtexts mdoes mkinds msees mnow mbefore mkeeps mkept mfindings mread maside msteps mtried mbest) U.heap ∧ KK D T U)) (vp_Si (fun r' => r' = r)) 0 0 (fun _ => False) := by
  refine Met.ofW (cc := cX6_wept) (maxL := 6) (ret := some .int) (by decide) rfl ?_
  intro p e s m args below meth c s₁ B hml hv
  obtain ⟨ha, hP, hKK⟩ := hv
  have hx := B.exec
  have hb := B.bytes
  have hr := B.returns
  have hts := atoms_spec (ws := wsX6_wept) B.pre
  have hown : s.vm.findClass RX6 = some m.cls := findClass_of_methodNamed B.named
  have hlocks := B.notSynchronized
  have hK := hKK.1
  have hFix : CallFix p m c cX6_wept 6 s args wsX6_wept RX6 := ⟨hx, hb, hml, hown, hts⟩
  have q1 := hts _ (List.mem_of_getElem? (i := 1) (show wsX6_wept[1]? = some (Cond.fieldLink RX6 31 "PartyWillModel" "now" "[I") from rfl))
  have q2 := hts _ (List.mem_of_getElem? (i := 2) (show wsX6_wept[2]? = some (Cond.fieldLink RX6 131 "PartyWillModel" "guests" "I") from rfl))
  have iX6 : ∀ w ∈ u_ws RX6 TX6 27, w ∈ wsX6_wept := fun w h => List.mem_cons_of_mem _ (List.mem_append_right _ (h))
  obtain ⟨ls, hl, e0⟩ := my_entry (m := m) (n := 6) ha (Nat.le_of_ble_eq_true rfl)
  rw [e0]
  have hl : lv_has ls 6 [(0, .ref (am 0)), (1, .int x1)] := hl
  have key : ∀ Q : State → Prop, (∀ (pc : Nat) (ls : Array Slot), decode cX6_wept pc = .ok (.ireturn, 1) → W p l e ({ frames := 2, cells := 0, slots := 0, locals := 45 } : Room) s m args below meth c s.heap [] 0 0 Q (F0 m pc ls [.int r])) → W p l e ({ frames := 2, cells := 0, slots := 0, locals := 45 } : Room) s m args below meth c s.heap [] 0 0 Q (F0 m 0 ls []) := by
    intro Q hret
    have l30 : ∀ x1 : Int32, ∀ x2 : Int32, ∀ nu : Nat, ∀ x3 : Int32, ∀ x4 : Int32, fX6_wept_l30 F mguests msees mnow x1 x2 nu x3 x4 = some (r) → ∀ (ls : Array Slot), lv_has ls 6 [(0, .ref (am 0)), (1, .int x1), (2, .int x2), (3, .int x3), (4, .int x4)] → W p l e ({ frames := 2, cells := 0, slots := 0, locals := 45 } : Room) s m args below meth c s.heap [] 0 0 Q (F0 m 30 ls []) := by
      intro x1 x2
      intro nu
      induction nu with
      | zero => intro x3 x4 h; exact none_some h
      | succ nu30 ih30 =>
        intro x3 x4 h ls hl
        have n79 : ∀ s_0 : Int32, ∀ x3 : Int32, ∀ x4 : Int32, fX6_wept_n79 F (fX6_wept_l30 F mguests msees mnow x1 x2 nu30) mguests msees mnow s_0 x1 x2 x3 x4 = some (r) → ∀ (ls : Array Slot), lv_has ls 6 [(0, .ref (am 0)), (1, .int x1), (2, .int x2), (3, .int x3), (4, .int x4)] → W p l e ({ frames := 2, cells := 0, slots := 0, locals := 45 } : Room) s m args below meth c s.heap [] 0 0 Q (F0 m 79 ls [.int s_0]) := by
          intro s_0 x3 x4 h ls hl
          unfold fX6_wept_n79 at h
          refine lv_istore (lv' := [(5, .int s_0), (0, .ref (am 0)), (1, .int x1), (2, .int x2), (3, .int x3), (4, .int x4)]) hx hb dX6_wept_79 hl (by decide) rfl (fun ls hl => ?_)
          refine lv_iload_n hx hb dX6_wept_81 rfl (lv_at hl 4 rfl) ?_
          refine lv_iload hx hb dX6_wept_82 (lv_at hl 0 rfl) ?_
          refine lv_if_eq (tgt := 94) hx hb dX6_wept_84 (by decide) (fun c84 => ?_) (fun c84 => ?_)
          · have h := br_1 h c84
            refine lv_iconst (v := (0 : Int32)) hx hb dX6_wept_94 (by decide) ?_
            refine lv_ior hx hb dX6_wept_95 ?_
            refine lv_istore_n (lv' := [(3, .int (x3 ||| (0 : Int32))), (5, .int s_0), (0, .ref (am 0)), (1, .int x1), (2, .int x2), (4, .int x4)]) hx hb dX6_wept_96 rfl hl (by decide) rfl (fun ls hl => ?_)
            refine lv_iinc (v := (x4 + (1 : Int32))) (lv' := [(4, .int (x4 + (1 : Int32))), (3, .int (x3 ||| (0 : Int32))), (5, .int s_0), (0, .ref (am 0)), (1, .int x1), (2, .int x2)]) hx hb dX6_wept_97 hl (k := 5) rfl rfl (by decide) rfl (fun ls hl => ?_)
            refine lv_goto (tgt := 30) hx hb dX6_wept_100 (by decide) ?_
            exact ih30 (x3 ||| (0 : Int32)) (x4 + (1 : Int32)) h _ (lv_sub hl [3, 4, 5, 1, 0] rfl)
          · have h := br_0 h c84
            refine lv_iconst (v := (1 : Int32)) hx hb dX6_wept_87 (by decide) ?_
            refine lv_iload hx hb dX6_wept_88 (lv_at hl 5 rfl) ?_
            refine lv_ishl hx hb dX6_wept_90 ?_
            refine lv_goto (tgt := 95) hx hb dX6_wept_91 (by decide) ?_
            refine lv_ior hx hb dX6_wept_95 ?_
            refine lv_istore_n (lv' := [(3, .int (x3 ||| ((1 : Int32) <<< (x4 &&& 31)))), (5, .int s_0), (0, .ref (am 0)), (1, .int x1), (2, .int x2), (4, .int x4)]) hx hb dX6_wept_96 rfl hl (by decide) rfl (fun ls hl => ?_)
            refine lv_iinc (v := (x4 + (1 : Int32))) (lv' := [(4, .int (x4 + (1 : Int32))), (3, .int (x3 ||| ((1 : Int32) <<< (x4 &&& 31)))), (5, .int s_0), (0, .ref (am 0)), (1, .int x1), (2, .int x2)]) hx hb dX6_wept_97 hl (k := 5) rfl rfl (by decide) rfl (fun ls hl => ?_)
            refine lv_goto (tgt := 30) hx hb dX6_wept_100 (by decide) ?_
            exact ih30 (x3 ||| ((1 : Int32) <<< (x4 &&& 31))) (x4 + (1 : Int32)) h _ (lv_sub hl [3, 4, 5, 1, 0] rfl)
        have h : fX6_wept_l30_b F mguests msees mnow x1 x2 (fX6_wept_l30 F mguests msees mnow x1 x2 nu30) x3 x4 = some (r) := h
        unfold fX6_wept_l30_b at h
        refine lv_iload hx hb dX6_wept_30 (lv_at hl 4 rfl) ?_
        refine lv_aload_n hx hb dX6_wept_32 rfl (lv_at hl 0 rfl) ?_
        refine va_get (D := D) (ci := 4) (C := RX6) (T := TX6) (N := 27) hx hb hts iX6 hown hK hP 0 wMo_0 rfl 4 (by decide) q2 (fun _ h9 => h9) rfl dX6_wept_33 ?_
        refine lv_icmp_ge (tgt := 103) hx hb dX6_wept_36 (by decide) (fun c36 => ?_) (fun c36 => ?_)
        · have h := br_1 h c36
          refine lv_iload_n hx hb dX6_wept_103 rfl (lv_at hl 3 rfl) ?_
          cases h
          exact hret _ _ dX6_wept_104
        · have h := br_0 h c36
          refine lv_iload_n hx hb dX6_wept_39 rfl (lv_at hl 2 rfl) ?_
          refine lv_iload hx hb dX6_wept_40 (lv_at hl 4 rfl) ?_
          obtain ⟨r42, hc, h⟩ := bd1_some h
          refine my_roz (va_Run.run (va_runS (As := [.int x2, .int x4]) (rest := []) hFix (kX6_has l D T F x2 x4 r42 hc) (va_cwS 2 hts gX6_wept_X6_has rfl rfl rfl hd_X6_has ⟨Nat.le_of_ble_eq_true rfl, Nat.le_of_ble_eq_true rfl⟩) (preS_ro va_nil hKK) rfl rfl hl.1 rfl (lv_room (Nat.le_of_ble_eq_true rfl)) dX6_wept_42 ⟨Nat.zero_le _, Nat.zero_le _⟩)) (fun hb42 => ?_)
          refine lv_if_eq (tgt := 78) hx hb dX6_wept_45 (by decide) (fun c45 => ?_) (fun c45 => ?_)
          · have h := br_1 h c45
            refine lv_iconst (v := (0 : Int32)) hx hb dX6_wept_78 (by decide) ?_
            exact n79 (0 : Int32) x3 x4 h _ (lv_sub hl [0, 1, 2, 3, 4] rfl)
          · have h := br_0 h c45
            refine lv_aload_n hx hb dX6_wept_48 rfl (lv_at hl 0 rfl) ?_
            refine lv_iload hx hb dX6_wept_49 (lv_at hl 4 rfl) ?_
            refine lv_iload_n hx hb dX6_wept_51 rfl (lv_at hl 2 rfl) ?_
            refine lv_iload_n hx hb dX6_wept_52 rfl (lv_at hl 1 rfl) ?_
            refine lv_iand hx hb dX6_wept_53 ?_
            obtain ⟨r54, hc, h⟩ := bd1_some h
            have hPc : va_P D vwCl (wMs T am mguests mclause mdeeds masked mupper mlower mfinding mreadGuests misSight mat msees) _ := my_subP sb_wMo_wMs_0_7 hP
            refine my_roz (va_Run.run (va_runV (As := [.int x4, .int (x2 &&& x1)]) (rest := []) hFix (kX6_isSeen l D T F am mguests mclause mdeeds masked mupper mlower mfinding mreadGuests misSight mat msees x4 (x2 &&& x1) r54 hc) (cwV 2 hts gX6_wept_X6_isSeen rfl rfl rfl ⟨rfl, hd_X6_isSeen⟩ ⟨Nat.le_of_ble_eq_true rfl, Nat.le_of_ble_eq_true rfl⟩) (preV_ro hPc hKK (va_recv hK hP (ci := 4) (q0 := 0) rfl wMo_0)) rfl rfl hl.1 rfl (lv_room (Nat.le_of_ble_eq_true rfl)) dX6_wept_54 ⟨Nat.zero_le _, Nat.zero_le _⟩)) (fun hb54 => ?_)
            refine lv_if_eq (tgt := 78) hx hb dX6_wept_57 (by decide) (fun c57 => ?_) (fun c57 => ?_)
            · have h := br_1 h c57
              refine lv_iconst (v := (0 : Int32)) hx hb dX6_wept_78 (by decide) ?_
              exact n79 (0 : Int32) x3 x4 h _ (lv_sub hl [0, 1, 2, 3, 4] rfl)
            · have h := br_0 h c57
              refine lv_aload_n hx hb dX6_wept_60 rfl (lv_at hl 0 rfl) ?_
              refine lv_iload hx hb dX6_wept_61 (lv_at hl 4 rfl) ?_
              refine lv_iload_n hx hb dX6_wept_63 rfl (lv_at hl 2 rfl) ?_
              refine lv_iload_n hx hb dX6_wept_64 rfl (lv_at hl 1 rfl) ?_
              refine lv_iconst (v := (-1 : Int32)) hx hb dX6_wept_65 (by decide) ?_
              refine lv_ixor hx hb dX6_wept_66 ?_
              refine lv_iand hx hb dX6_wept_67 ?_
              obtain ⟨r68, hc, h⟩ := bd1_some h
              have hPc : va_P D vwCl (wMs T am mguests mclause mdeeds masked mupper mlower mfinding mreadGuests misSight mat msees) _ := my_subP sb_wMo_wMs_0_7 hP
              refine my_roz (va_Run.run (va_runV (As := [.int x4, .int (x2 &&& (x1 ^^^ (-1 : Int32)))]) (rest := []) hFix (kX6_isSeen l D T F am mguests mclause mdeeds masked mupper mlower mfinding mreadGuests misSight mat msees x4 (x2 &&& (x1 ^^^ (-1 : Int32))) r68 hc) (cwV 2 hts gX6_wept_X6_isSeen rfl rfl rfl ⟨rfl, hd_X6_isSeen⟩ ⟨Nat.le_of_ble_eq_true rfl, Nat.le_of_ble_eq_true rfl⟩) (preV_ro hPc hKK (va_recv hK hP (ci := 4) (q0 := 0) rfl wMo_0)) rfl rfl hl.1 rfl (lv_room (Nat.le_of_ble_eq_true rfl)) dX6_wept_68 ⟨Nat.zero_le _, Nat.zero_le _⟩)) (fun hb68 => ?_)
              refine lv_if_ne (tgt := 78) hx hb dX6_wept_71 (by decide) (fun c71 => ?_) (fun c71 => ?_)
              · have h := br_0 h c71
                refine lv_iconst (v := (0 : Int32)) hx hb dX6_wept_78 (by decide) ?_
                exact n79 (0 : Int32) x3 x4 h _ (lv_sub hl [0, 1, 2, 3, 4] rfl)
              · have h := br_1 h c71
                refine lv_iconst (v := (1 : Int32)) hx hb dX6_wept_74 (by decide) ?_
                refine lv_goto (tgt := 79) hx hb dX6_wept_75 (by decide) ?_
                exact n79 (1 : Int32) x3 x4 h _ (lv_sub hl [0, 1, 2, 3, 4] rfl)
    unfold fX6_wept at h
    refine lv_iload_n hx hb dX6_wept_0 rfl (lv_at hl 1 rfl) ?_
    refine lv_i2l (v := (x1.toInt64)) hx hb dX6_wept_1 rfl ?_
    refine lv_lconst (v := (0 : Int64)) hx hb dX6_wept_2 (by decide) ?_
    refine lv_aload_n hx hb dX6_wept_3 rfl (lv_at hl 0 rfl) ?_
    obtain ⟨r4, hc, h⟩ := bd1_some h
    have hPc : va_P D vwCl (wM0 T am mguests mclause mdeeds masked mupper mlower mfinding mreadGuests misSight mat) _ := my_subP sb_wMo_wM0_0 hP
    refine my_roi (va_Run.run (va_runV (As := []) (rest := [.long (0 : Int64), .long (x1.toInt64)]) hFix (kX6_everybody l D T F am mguests mclause mdeeds masked mupper mlower mfinding mreadGuests misSight mat r4 hc) (cwV 0 hts gX6_wept_X6_everybody rfl rfl rfl ⟨rfl, hd_X6_everybody⟩ ⟨Nat.le_of_ble_eq_true rfl, Nat.le_of_ble_eq_true rfl⟩) (preV_ro hPc hKK (va_recv hK hP (ci := 4) (q0 := 0) rfl wMo_0)) rfl rfl hl.1 rfl (lv_room (Nat.le_of_ble_eq_true rfl)) dX6_wept_4 ⟨Nat.zero_le _, Nat.zero_le _⟩)) ?_
    refine lv_i2l (v := (r4.toInt64)) hx hb dX6_wept_7 rfl ?_
    obtain ⟨r8, hc, h⟩ := bd1_some h
    refine my_roz (va_Run.run (va_runS (As := [.long (x1.toInt64), .long (0 : Int64), .long (r4.toInt64)]) (rest := []) hFix (kX6_in l D T F (x1.toInt64) (0 : Int64) (r4.toInt64) r8 hc) (va_cwS 3 hts gX6_wept_X6_in rfl rfl rfl hd_X6_in ⟨Nat.le_of_ble_eq_true rfl, Nat.le_of_ble_eq_true rfl⟩) (preS_ro va_nil hKK) rfl rfl hl.1 rfl (lv_room (Nat.le_of_ble_eq_true rfl)) dX6_wept_8 ⟨Nat.zero_le _, Nat.zero_le _⟩)) (fun hb8 => ?_)
    refine lv_if_ne (tgt := 16) hx hb dX6_wept_11 (by decide) (fun c11 => ?_) (fun c11 => ?_)
    · have h := br_0 h c11
      refine lv_aload_n hx hb dX6_wept_16 rfl (lv_at hl 0 rfl) ?_
      refine lv_aload_n hx hb dX6_wept_17 rfl (lv_at hl 0 rfl) ?_
      refine va_get (D := D) (ci := 4) (C := RX6) (T := TX6) (N := 27) hx hb hts iX6 hown hK hP 0 wMo_0 rfl 9 (by decide) q1 (fun _ h9 => h9) rfl dX6_wept_18 ?_
      obtain ⟨r21, hc, h⟩ := bd1_some h
      have hPc : va_P D vwCl (wMi T am (am 8) mguests mclause mdeeds masked mupper mlower mfinding mreadGuests misSight mat mnow) _ := my_subP sb_wMo_wMi_0_8 hP
      refine my_roi (va_Run.run (va_runV (As := [.ref (am 8)]) (rest := []) hFix (kX6_inside l D T F am (am 8) mguests mclause mdeeds masked mupper mlower mfinding mreadGuests misSight mat mnow r21 hc) (cwV 1 hts gX6_wept_X6_inside rfl rfl rfl ⟨rfl, hd_X6_inside⟩ ⟨Nat.le_of_ble_eq_true rfl, Nat.le_of_ble_eq_true rfl⟩) (preV_ro hPc hKK (va_recv hK hP (ci := 4) (q0 := 0) rfl wMo_0)) rfl rfl hl.1 rfl (lv_room (Nat.le_of_ble_eq_true rfl)) dX6_wept_21 ⟨Nat.zero_le _, Nat.zero_le _⟩)) ?_
      refine lv_istore_n (lv' := [(2, .int r21), (0, .ref (am 0)), (1, .int x1)]) hx hb dX6_wept_24 rfl hl (by decide) rfl (fun ls hl => ?_)
      refine lv_iconst (v := (0 : Int32)) hx hb dX6_wept_25 (by decide) ?_
      refine lv_istore_n (lv' := [(3, .int (0 : Int32)), (2, .int r21), (0, .ref (am 0)), (1, .int x1)]) hx hb dX6_wept_26 rfl hl (by decide) rfl (fun ls hl => ?_)
      refine lv_iconst (v := (0 : Int32)) hx hb dX6_wept_27 (by decide) ?_
      refine lv_istore (lv' := [(4, .int (0 : Int32)), (3, .int (0 : Int32)), (2, .int r21), (0, .ref (am 0)), (1, .int x1)]) hx hb dX6_wept_28 hl (by decide) rfl (fun ls hl => ?_)
      exact l30 x1 r21 F (0 : Int32) (0 : Int32) h _ (lv_sub hl [3, 4, 2, 1, 0] rfl)
    · have h := br_1 h c11
      refine lv_iconst (v := (-1 : Int32)) hx hb dX6_wept_14 (by decide) ?_
      cases h
      exact hret _ _ dX6_wept_15
  exact key _ (fun pc ls hd => W.iret hx hb hr (fun t ht hW => ⟨_, rfl, rfl, ht⟩) (fun q h => by cases h) hd)
set_option maxHeartbeats 4000000 in
set_option maxRecDepth 100000 in
theorem kX6_gets (l : Launch) (D : va_G) (T : Nat → ClassId) (F : Nat) (am : Nat → Nat) (mguests : Int32) (mclause : Int32) (mdeeds : Int32) (masked : Int32) (mupper : Int64) (mlower : Int64) (mfinding : Int32) (mreadGuests : Int32) (misSight : Int32) (mat : Int32) (mrowSizes : Nat → Int32) (mrows : Nat → Int32) (mtextSizes : Nat → Int32) (mtexts : Nat → Int32) (mdoes : Nat → Int32) (mkinds : Nat → Int32) (msees : Nat → Int32) (mnow : Nat → Int32) (mbefore : Nat → Int32) (mkeeps : Nat → Int32) (mkept : Nat → Int32) (mfindings : Nat → Int32) (mread : Nat → Int32) (maside : Nat → Int32) (msteps : Nat → Int32) (mtried : Nat → Int32) (mbest : Nat → Int32) (x1 : Int32) (x2 : Int32) (r : Int32) (h : fX6_gets F mguests mnow x1 x2 = some (r)) : Met l yX6_gets wsX6_gets ({ frames := 2, cells := 0, slots := 0, locals := 46 } : Room) (va_Pc [.ref (am 0), .int x1, .int x2] (fun U => va_P D vwCl (wMo T am mguests mclause mdeeds masked mupper mlower mfinding mreadGuests misSight mat mrowSizes mrows mtextSizes mtexts mdoes mkinds msees mnow mbefore mkeeps mkept mfindings mread maside msteps mtried mbest) U.heap ∧ KK D T U)) (vp_Si (fun r' => r' = r)) 0 0 (fun _ => False) := by
  refine Met.ofW (cc := cX6_gets) (maxL := 6) (ret := some .int) (by decide) rfl ?_
  intro p e s m args below meth c s₁ B hml hv
  obtain ⟨ha, hP, hKK⟩ := hv
  have hx := B.exec
  have hb := B.bytes
  have hr := B.returns
  have hts := atoms_spec (ws := wsX6_gets) B.pre
  have hown : s.vm.findClass RX6 = some m.cls := findClass_of_methodNamed B.named
  have hlocks := B.notSynchronized
  have hK := hKK.1
  have hFix : CallFix p m c cX6_gets 6 s args wsX6_gets RX6 := ⟨hx, hb, hml, hown, hts⟩
  have q1 := hts _ (List.mem_of_getElem? (i := 1) (show wsX6_gets[1]? = some (Cond.constantLong RX6 260 (999)) from rfl))
  have q2 := hts _ (List.mem_of_getElem? (i := 2) (show wsX6_gets[2]? = some (Cond.fieldLink RX6 31 "PartyWillModel" "now" "[I") from rfl))
  have iX6 : ∀ w ∈ u_ws RX6 TX6 27, w ∈ wsX6_gets := fun w h => List.mem_cons_of_mem _ (List.mem_append_right _ (h))
  obtain ⟨ls, hl, e0⟩ := my_entry (m := m) (n := 6) ha (Nat.le_of_ble_eq_true rfl)
  rw [e0]
  have hl : lv_has ls 6 [(0, .ref (am 0)), (1, .int x1), (2, .int x2)] := hl
  have key : ∀ Q : State → Prop, (∀ (pc : Nat) (ls : Array Slot), decode cX6_gets pc = .ok (.ireturn, 1) → W p l e ({ frames := 2, cells := 0, slots := 0, locals := 46 } : Room) s m args below meth c s.heap [] 0 0 Q (F0 m pc ls [.int r])) → W p l e ({ frames := 2, cells := 0, slots := 0, locals := 46 } : Room) s m args below meth c s.heap [] 0 0 Q (F0 m 0 ls []) := by
    intro Q hret
    unfold fX6_gets at h
    refine lv_aload_n hx hb dX6_gets_0 rfl (lv_at hl 0 rfl) ?_
    refine lv_iload_n hx hb dX6_gets_1 rfl (lv_at hl 1 rfl) ?_
    obtain ⟨r2, hc, h⟩ := bd1_some h
    refine my_roz (va_Run.run (va_runV (As := [.int x1]) (rest := []) hFix (kX6_isGuest l D T F am mguests mclause mdeeds masked mupper mlower mfinding mreadGuests misSight mat mrowSizes mrows mtextSizes mtexts mdoes mkinds msees mnow mbefore mkeeps mkept mfindings mread maside msteps mtried mbest x1 r2 hc) (cwV 1 hts gX6_gets_X6_isGuest rfl rfl rfl ⟨rfl, hd_X6_isGuest⟩ ⟨Nat.le_of_ble_eq_true rfl, Nat.le_of_ble_eq_true rfl⟩) (preV_ro hP hKK (va_recv hK hP (ci := 4) (q0 := 0) rfl wMo_0)) rfl rfl hl.1 rfl (lv_room (Nat.le_of_ble_eq_true rfl)) dX6_gets_2 ⟨Nat.zero_le _, Nat.zero_le _⟩)) (fun hb2 => ?_)
    refine lv_if_eq (tgt := 20) hx hb dX6_gets_5 (by decide) (fun c5 => ?_) (fun c5 => ?_)
    · have h := br_1 h c5
      refine lv_iconst (v := (-1 : Int32)) hx hb dX6_gets_20 (by decide) ?_
      cases h
      exact hret _ _ dX6_gets_21
    · have h := br_0 h c5
      refine lv_iload_n hx hb dX6_gets_8 rfl (lv_at hl 2 rfl) ?_
      refine lv_i2l (v := (x2.toInt64)) hx hb dX6_gets_9 rfl ?_
      refine lv_lconst (v := (1 : Int64)) hx hb dX6_gets_10 (by decide) ?_
      refine lv_ldc2 (v := (999 : Int64)) hx hb hown q1 dX6_gets_11 ?_
      obtain ⟨r14, hc, h⟩ := bd1_some h
      refine my_roz (va_Run.run (va_runS (As := [.long (x2.toInt64), .long (1 : Int64), .long (999 : Int64)]) (rest := []) hFix (kX6_in l D T F (x2.toInt64) (1 : Int64) (999 : Int64) r14 hc) (va_cwS 3 hts gX6_gets_X6_in rfl rfl rfl hd_X6_in ⟨Nat.le_of_ble_eq_true rfl, Nat.le_of_ble_eq_true rfl⟩) (preS_ro va_nil hKK) rfl rfl hl.1 rfl (lv_room (Nat.le_of_ble_eq_true rfl)) dX6_gets_14 ⟨Nat.zero_le _, Nat.zero_le _⟩)) (fun hb14 => ?_)
      refine lv_if_ne (tgt := 22) hx hb dX6_gets_17 (by decide) (fun c17 => ?_) (fun c17 => ?_)
      · have h := br_0 h c17
        refine lv_aload_n hx hb dX6_gets_22 rfl (lv_at hl 0 rfl) ?_
        refine lv_aload_n hx hb dX6_gets_23 rfl (lv_at hl 0 rfl) ?_
        refine va_get (D := D) (ci := 4) (C := RX6) (T := TX6) (N := 27) hx hb hts iX6 hown hK hP 0 wMo_0 rfl 9 (by decide) q2 (fun _ h9 => h9) rfl dX6_gets_24 ?_
        obtain ⟨r27, hc, h⟩ := bd1_some h
        have hPc : va_P D vwCl (wMi T am (am 8) mguests mclause mdeeds masked mupper mlower mfinding mreadGuests misSight mat mnow) _ := my_subP sb_wMo_wMi_0_8 hP
        refine my_roi (va_Run.run (va_runV (As := [.ref (am 8)]) (rest := []) hFix (kX6_inside l D T F am (am 8) mguests mclause mdeeds masked mupper mlower mfinding mreadGuests misSight mat mnow r27 hc) (cwV 1 hts gX6_gets_X6_inside rfl rfl rfl ⟨rfl, hd_X6_inside⟩ ⟨Nat.le_of_ble_eq_true rfl, Nat.le_of_ble_eq_true rfl⟩) (preV_ro hPc hKK (va_recv hK hP (ci := 4) (q0 := 0) rfl wMo_0)) rfl rfl hl.1 rfl (lv_room (Nat.le_of_ble_eq_true rfl)) dX6_gets_27 ⟨Nat.zero_le _, Nat.zero_le _⟩)) ?_
        refine lv_istore_n (lv' := [(3, .int r27), (0, .ref (am 0)), (1, .int x1), (2, .int x2)]) hx hb dX6_gets_30 rfl hl (by decide) rfl (fun ls hl => ?_)
        refine lv_iload_n hx hb dX6_gets_31 rfl (lv_at hl 0 rfl) ?_
        refine lv_iload_n hx hb dX6_gets_32 rfl (lv_at hl 2 rfl) ?_
        obtain ⟨r33, hc, h⟩ := bd1_some h
        refine my_roz (va_Run.run (va_runS (As := [.int r27, .int x1]) (rest := []) hFix (kX6_has l D T F r27 x1 r33 hc) (va_cwS 2 hts gX6_gets_X6_has rfl rfl rfl hd_X6_has ⟨Nat.le_of_ble_eq_true rfl, Nat.le_of_ble_eq_true rfl⟩) (preS_ro va_nil hKK) rfl rfl hl.1 rfl (lv_room (Nat.le_of_ble_eq_true rfl)) dX6_gets_33 ⟨Nat.zero_le _, Nat.zero_le _⟩)) (fun hb33 => ?_)
        refine lv_if_ne (tgt := 41) hx hb dX6_gets_36 (by decide) (fun c36 => ?_) (fun c36 => ?_)
        · have h := br_0 h c36
          refine lv_iload_n hx hb dX6_gets_41 rfl (lv_at hl 0 rfl) ?_
          obtain ⟨r42, hc, h⟩ := bd1_some h
          refine my_roi (va_Run.run (va_runS (As := [.int r27]) (rest := []) hFix (kX6_bits l D T F r27 r42 hc) (va_cwS 1 hts gX6_gets_X6_bits rfl rfl rfl hd_X6_bits ⟨Nat.le_of_ble_eq_true rfl, Nat.le_of_ble_eq_true rfl⟩) (preS_ro va_nil hKK) rfl rfl hl.1 rfl (lv_room (Nat.le_of_ble_eq_true rfl)) dX6_gets_42 ⟨Nat.zero_le _, Nat.zero_le _⟩)) ?_
          refine lv_istore (lv' := [(4, .int r42), (3, .int r27), (0, .ref (am 0)), (1, .int x1), (2, .int x2)]) hx hb dX6_gets_45 hl (by decide) rfl (fun ls hl => ?_)
          refine lv_iload_n hx hb dX6_gets_47 rfl (lv_at hl 1 rfl) ?_
          refine lv_iconst (v := (1 : Int32)) hx hb dX6_gets_48 (by decide) ?_
          refine lv_iload_n hx hb dX6_gets_49 rfl (lv_at hl 3 rfl) ?_
          refine lv_ishl hx hb dX6_gets_50 ?_
          refine lv_iconst (v := (1 : Int32)) hx hb dX6_gets_51 (by decide) ?_
          refine lv_isub hx hb dX6_gets_52 ?_
          refine lv_iand hx hb dX6_gets_53 ?_
          obtain ⟨r54, hc, h⟩ := bd1_some h
          refine my_roi (va_Run.run (va_runS (As := [.int (r27 &&& (((1 : Int32) <<< (x1 &&& 31)) - (1 : Int32)))]) (rest := []) hFix (kX6_bits l D T F (r27 &&& (((1 : Int32) <<< (x1 &&& 31)) - (1 : Int32))) r54 hc) (va_cwS 1 hts gX6_gets_X6_bits rfl rfl rfl hd_X6_bits ⟨Nat.le_of_ble_eq_true rfl, Nat.le_of_ble_eq_true rfl⟩) (preS_ro va_nil hKK) rfl rfl hl.1 rfl (lv_room (Nat.le_of_ble_eq_true rfl)) dX6_gets_54 ⟨Nat.zero_le _, Nat.zero_le _⟩)) ?_
          refine lv_istore (lv' := [(5, .int r54), (4, .int r42), (3, .int r27), (0, .ref (am 0)), (1, .int x1), (2, .int x2)]) hx hb dX6_gets_57 hl (by decide) rfl (fun ls hl => ?_)
          refine lv_iload_n hx hb dX6_gets_59 rfl (lv_at hl 5 rfl) ?_
          refine lv_iload hx hb dX6_gets_60 (lv_at hl 1 rfl) ?_
          obtain ⟨hne, h⟩ := ck_some h
          refine lv_idiv hx hb dX6_gets_62 hne ?_
          refine lv_iload hx hb dX6_gets_63 (lv_at hl 0 rfl) ?_
          refine lv_iload_n hx hb dX6_gets_65 rfl (lv_at hl 5 rfl) ?_
          refine lv_iload hx hb dX6_gets_66 (lv_at hl 1 rfl) ?_
          obtain ⟨hne, h⟩ := ck_some h
          refine lv_irem hx hb dX6_gets_68 hne ?_
          refine lv_icmp_ge (tgt := 76) hx hb dX6_gets_69 (by decide) (fun c69 => ?_) (fun c69 => ?_)
          · have h := br_1 h c69
            refine lv_iconst (v := (0 : Int32)) hx hb dX6_gets_76 (by decide) ?_
            refine lv_iadd hx hb dX6_gets_77 ?_
            cases h
            exact hret _ _ dX6_gets_78
          · have h := br_0 h c69
            refine lv_iconst (v := (1 : Int32)) hx hb dX6_gets_72 (by decide) ?_
            refine lv_goto (tgt := 77) hx hb dX6_gets_73 (by decide) ?_
            refine lv_iadd hx hb dX6_gets_77 ?_
            cases h
            exact hret _ _ dX6_gets_78
        · have h := br_1 h c36
          refine lv_iconst (v := (0 : Int32)) hx hb dX6_gets_39 (by decide) ?_
          cases h
          exact hret _ _ dX6_gets_40
      · have h := br_1 h c17
        refine lv_iconst (v := (-1 : Int32)) hx hb dX6_gets_20 (by decide) ?_
        cases h
        exact hret _ _ dX6_gets_21
  exact key _ (fun pc ls hd => W.iret hx hb hr (fun t ht hW => ⟨_, rfl, rfl, ht⟩) (fun q h => by cases h) hd)
set_option maxHeartbeats 4000000 in
set_option maxRecDepth 100000 in
theorem kX6_stops (l : Launch) (D : va_G) (T : Nat → ClassId) (F : Nat) (am : Nat → Nat) (mguests : Int32) (mclause : Int32) (mdeeds : Int32) (masked : Int32) (mupper : Int64) (mlower : Int64) (mfinding : Int32) (mreadGuests : Int32) (misSight : Int32) (mat : Int32) (mrowSizes : Nat → Int32) (mrows : Nat → Int32) (mtextSizes : Nat → Int32) (mtexts : Nat → Int32) (mdoes : Nat → Int32) (mkinds : Nat → Int32) (msees : Nat → Int32) (mnow : Nat → Int32) (mbefore : Nat → Int32) (mkeeps : Nat → Int32) (mkept : Nat → Int32) (mfindings : Nat → Int32) (mread : Nat → Int32) (maside : Nat → Int32) (msteps : Nat → Int32) (mtried : Nat → Int32) (mbest : Nat → Int32) (r : Int32) (h : fX6_stops F mguests mclause mnow = some (r)) : Met l yX6_stops wsX6_stops ({ frames := 2, cells := 0, slots := 0, locals := 41 } : Room) (va_Pc [.ref (am 0)] (fun U => va_P D vwCl (wMo T am mguests mclause mdeeds masked mupper mlower mfinding mreadGuests misSight mat mrowSizes mrows mtextSizes mtexts mdoes mkinds msees mnow mbefore mkeeps mkept mfindings mread maside msteps mtried mbest) U.heap ∧ KK D T U)) (vp_Si (fun r' => r' = r)) 0 0 (fun _ => False) := by
  refine Met.ofW (cc := cX6_stops) (maxL := 6) (ret := some .int) (by decide) rfl ?_
  intro p e s m args below meth c s₁ B hml hv
  obtain ⟨ha, hP, hKK⟩ := hv
  have hx := B.exec
  have hb := B.bytes
  have hr := B.returns
  have hts := atoms_spec (ws := wsX6_stops) B.pre
  have hown : s.vm.findClass RX6 = some m.cls := findClass_of_methodNamed B.named
  have hlocks := B.notSynchronized
  have hK := hKK.1
  have hFix : CallFix p m c cX6_stops 6 s args wsX6_stops RX6 := ⟨hx, hb, hml, hown, hts⟩
  have q1 := hts _ (List.mem_of_getElem? (i := 1) (show wsX6_stops[1]? = some (Cond.fieldLink RX6 31 "PartyWillModel" "now" "[I") from rfl))
  have q2 := hts _ (List.mem_of_getElem? (i := 2) (show wsX6_stops[2]? = some (Cond.fieldLink RX6 131 "PartyWillModel" "guests" "I") from rfl))
  have q3 := hts _ (List.mem_of_getElem? (i := 3) (show wsX6_stops[3]? = some (Cond.fieldLink RX6 134 "PartyWillModel" "clause" "I") from rfl))
  have iX6 : ∀ w ∈ u_ws RX6 TX6 27, w ∈ wsX6_stops := fun w h => List.mem_cons_of_mem _ (List.mem_append_right _ (h))
  obtain ⟨ls, hl, e0⟩ := my_entry (m := m) (n := 6) ha (Nat.le_of_ble_eq_true rfl)
  rw [e0]
  have hl : lv_has ls 6 [(0, .ref (am 0))] := hl
  have key : ∀ Q : State → Prop, (∀ (pc : Nat) (ls : Array Slot), decode cX6_stops pc = .ok (.ireturn, 1) → W p l e ({ frames := 2, cells := 0, slots := 0, locals := 41 } : Room) s m args below meth c s.heap [] 0 0 Q (F0 m pc ls [.int r])) → W p l e ({ frames := 2, cells := 0, slots := 0, locals := 41 } : Room) s m args below meth c s.heap [] 0 0 Q (F0 m 0 ls []) := by
    intro Q hret
    have l14 : ∀ x1 : Int32, ∀ nu : Nat, ∀ x2 : Int32, ∀ x3 : Int32, fX6_stops_l14 F mguests mclause mnow x1 nu x2 x3 = some (r) → ∀ (ls : Array Slot), lv_has ls 6 [(0, .ref (am 0)), (1, .int x1), (2, .int x2), (3, .int x3)] → W p l e ({ frames := 2, cells := 0, slots := 0, locals := 41 } : Room) s m args below meth c s.heap [] 0 0 Q (F0 m 14 ls []) := by
      intro x1
      intro nu
      induction nu with
      | zero => intro x2 x3 h; exact none_some h
      | succ nu14 ih14 =>
        intro x2 x3 h ls hl
        have n105 : ∀ s_0 : Int32, ∀ x2 : Int32, ∀ x3 : Int32, fX6_stops_n105 F (fX6_stops_l14 F mguests mclause mnow x1 nu14) mguests mclause mnow s_0 x1 x2 x3 = some (r) → ∀ (ls : Array Slot), lv_has ls 6 [(0, .ref (am 0)), (1, .int x1), (2, .int x2), (3, .int x3)] → W p l e ({ frames := 2, cells := 0, slots := 0, locals := 41 } : Room) s m args below meth c s.heap [] 0 0 Q (F0 m 105 ls [.int s_0]) := by
          intro s_0 x2 x3 h ls hl
          unfold fX6_stops_n105 at h
          refine lv_istore (lv' := [(5, .int s_0), (0, .ref (am 0)), (1, .int x1), (2, .int x2), (3, .int x3)]) hx hb dX6_stops_105 hl (by decide) rfl (fun ls hl => ?_)
          refine lv_iload hx hb dX6_stops_107 (lv_at hl 0 rfl) ?_
          refine lv_if_eq (tgt := 133) hx hb dX6_stops_109 (by decide) (fun c109 => ?_) (fun c109 => ?_)
          · have h := br_1 h c109
            refine lv_iload_n hx hb dX6_stops_133 rfl (lv_at hl 3 rfl) ?_
            refine lv_istore_n (lv' := [(2, .int x2), (5, .int s_0), (0, .ref (am 0)), (1, .int x1), (3, .int x3)]) hx hb dX6_stops_134 rfl hl (by decide) rfl (fun ls hl => ?_)
            refine lv_iinc (v := (x3 + (1 : Int32))) (lv' := [(3, .int (x3 + (1 : Int32))), (2, .int x2), (5, .int s_0), (0, .ref (am 0)), (1, .int x1)]) hx hb dX6_stops_135 hl (k := 4) rfl rfl (by decide) rfl (fun ls hl => ?_)
            refine lv_goto (tgt := 14) hx hb dX6_stops_138 (by decide) ?_
            exact ih14 x2 (x3 + (1 : Int32)) h _ (lv_sub hl [3, 4, 1, 0] rfl)
          · have h := br_0 h c109
            refine lv_iload_n hx hb dX6_stops_112 rfl (lv_at hl 3 rfl) ?_
            refine lv_bipush (v := (-9 : Int32)) hx hb dX6_stops_113 (by decide) ?_
            refine lv_icmp_eq (tgt := 129) hx hb dX6_stops_115 (by decide) (fun c115 => ?_) (fun c115 => ?_)
            · have h := br_1 h c115
              refine lv_iload_n hx hb dX6_stops_129 rfl (lv_at hl 4 rfl) ?_
              refine lv_goto (tgt := 134) hx hb dX6_stops_130 (by decide) ?_
              refine lv_istore_n (lv' := [(2, .int x3), (5, .int s_0), (0, .ref (am 0)), (1, .int x1), (3, .int x3)]) hx hb dX6_stops_134 rfl hl (by decide) rfl (fun ls hl => ?_)
              refine lv_iinc (v := (x3 + (1 : Int32))) (lv' := [(3, .int (x3 + (1 : Int32))), (2, .int x3), (5, .int s_0), (0, .ref (am 0)), (1, .int x1)]) hx hb dX6_stops_135 hl (k := 4) rfl rfl (by decide) rfl (fun ls hl => ?_)
              refine lv_goto (tgt := 14) hx hb dX6_stops_138 (by decide) ?_
              exact ih14 x3 (x3 + (1 : Int32)) h _ (lv_sub hl [3, 4, 1, 0] rfl)
            · have h := br_0 h c115
              refine lv_iload_n hx hb dX6_stops_118 rfl (lv_at hl 4 rfl) ?_
              obtain ⟨r119, hc, h⟩ := bd1_some h
              refine my_roi (va_Run.run (va_runS (As := [.int x3]) (rest := []) hFix (kX6_bits l D T F x3 r119 hc) (va_cwS 1 hts gX6_stops_X6_bits rfl rfl rfl hd_X6_bits ⟨Nat.le_of_ble_eq_true rfl, Nat.le_of_ble_eq_true rfl⟩) (preS_ro va_nil hKK) rfl rfl hl.1 rfl (lv_room (Nat.le_of_ble_eq_true rfl)) dX6_stops_119 ⟨Nat.zero_le _, Nat.zero_le _⟩)) ?_
              refine lv_iload_n hx hb dX6_stops_122 rfl (lv_at hl 3 rfl) ?_
              obtain ⟨r123, hc, h⟩ := bd1_some h
              refine my_roi (va_Run.run (va_runS (As := [.int x2]) (rest := [.int r119]) hFix (kX6_bits l D T F x2 r123 hc) (va_cwS 1 hts gX6_stops_X6_bits rfl rfl rfl hd_X6_bits ⟨Nat.le_of_ble_eq_true rfl, Nat.le_of_ble_eq_true rfl⟩) (preS_ro va_nil hKK) rfl rfl hl.1 rfl (lv_room (Nat.le_of_ble_eq_true rfl)) dX6_stops_123 ⟨Nat.zero_le _, Nat.zero_le _⟩)) ?_
              refine lv_icmp_ge (tgt := 133) hx hb dX6_stops_126 (by decide) (fun c126 => ?_) (fun c126 => ?_)
              · have h := br_1 h c126
                refine lv_iload_n hx hb dX6_stops_133 rfl (lv_at hl 3 rfl) ?_
                refine lv_istore_n (lv' := [(2, .int x2), (5, .int s_0), (0, .ref (am 0)), (1, .int x1), (3, .int x3)]) hx hb dX6_stops_134 rfl hl (by decide) rfl (fun ls hl => ?_)
                refine lv_iinc (v := (x3 + (1 : Int32))) (lv' := [(3, .int (x3 + (1 : Int32))), (2, .int x2), (5, .int s_0), (0, .ref (am 0)), (1, .int x1)]) hx hb dX6_stops_135 hl (k := 4) rfl rfl (by decide) rfl (fun ls hl => ?_)
                refine lv_goto (tgt := 14) hx hb dX6_stops_138 (by decide) ?_
                exact ih14 x2 (x3 + (1 : Int32)) h _ (lv_sub hl [3, 4, 1, 0] rfl)
              · have h := br_0 h c126
                refine lv_iload_n hx hb dX6_stops_129 rfl (lv_at hl 4 rfl) ?_
                refine lv_goto (tgt := 134) hx hb dX6_stops_130 (by decide) ?_
                refine lv_istore_n (lv' := [(2, .int x3), (5, .int s_0), (0, .ref (am 0)), (1, .int x1), (3, .int x3)]) hx hb dX6_stops_134 rfl hl (by decide) rfl (fun ls hl => ?_)
                refine lv_iinc (v := (x3 + (1 : Int32))) (lv' := [(3, .int (x3 + (1 : Int32))), (2, .int x3), (5, .int s_0), (0, .ref (am 0)), (1, .int x1)]) hx hb dX6_stops_135 hl (k := 4) rfl rfl (by decide) rfl (fun ls hl => ?_)
                refine lv_goto (tgt := 14) hx hb dX6_stops_138 (by decide) ?_
                exact ih14 x3 (x3 + (1 : Int32)) h _ (lv_sub hl [3, 4, 1, 0] rfl)
        have l28 : ∀ x2 : Int32, ∀ x3 : Int32, ∀ nu : Nat, ∀ x4 : Int32, ∀ x5 : Int32, fX6_stops_l28 F (fX6_stops_l14 F mguests mclause mnow x1 nu14) mguests mclause mnow x1 x2 x3 nu x4 x5 = some (r) → ∀ (ls : Array Slot), lv_has ls 6 [(0, .ref (am 0)), (1, .int x1), (2, .int x2), (3, .int x3), (4, .int x4), (5, .int x5)] → W p l e ({ frames := 2, cells := 0, slots := 0, locals := 41 } : Room) s m args below meth c s.heap [] 0 0 Q (F0 m 28 ls []) := by
          intro x2 x3
          intro nu
          induction nu with
          | zero => intro x4 x5 h; exact none_some h
          | succ nu28 ih28 =>
            intro x4 x5 h ls hl
            have h : fX6_stops_l28_b F (fX6_stops_l14 F mguests mclause mnow x1 nu14) mguests mclause mnow x1 x2 x3 (fX6_stops_l28 F (fX6_stops_l14 F mguests mclause mnow x1 nu14) mguests mclause mnow x1 x2 x3 nu28) x4 x5 = some (r) := h
            unfold fX6_stops_l28_b at h
            refine lv_iload hx hb dX6_stops_28 (lv_at hl 5 rfl) ?_
            refine lv_aload_n hx hb dX6_stops_30 rfl (lv_at hl 0 rfl) ?_
            refine va_get (D := D) (ci := 4) (C := RX6) (T := TX6) (N := 27) hx hb hts iX6 hown hK hP 0 wMo_0 rfl 4 (by decide) q2 (fun _ h9 => h9) rfl dX6_stops_31 ?_
            refine lv_icmp_ge (tgt := 68) hx hb dX6_stops_34 (by decide) (fun c34 => ?_) (fun c34 => ?_)
            · have h := br_1 h c34
              refine lv_iload_n hx hb dX6_stops_68 rfl (lv_at hl 3 rfl) ?_
              refine lv_iload_n hx hb dX6_stops_69 rfl (lv_at hl 1 rfl) ?_
              refine lv_iconst (v := (-1 : Int32)) hx hb dX6_stops_70 (by decide) ?_
              refine lv_ixor hx hb dX6_stops_71 ?_
              refine lv_iand hx hb dX6_stops_72 ?_
              refine lv_if_ne (tgt := 104) hx hb dX6_stops_73 (by decide) (fun c73 => ?_) (fun c73 => ?_)
              · have h := br_0 h c73
                refine lv_iconst (v := (0 : Int32)) hx hb dX6_stops_104 (by decide) ?_
                exact n105 (0 : Int32) x2 x3 h _ (lv_sub hl [0, 1, 2, 3] rfl)
              · have h := br_1 h c73
                refine lv_iload_n hx hb dX6_stops_76 rfl (lv_at hl 3 rfl) ?_
                obtain ⟨r77, hc, h⟩ := bd1_some h
                refine my_roi (va_Run.run (va_runS (As := [.int x3]) (rest := []) hFix (kX6_bits l D T F x3 r77 hc) (va_cwS 1 hts gX6_stops_X6_bits rfl rfl rfl hd_X6_bits ⟨Nat.le_of_ble_eq_true rfl, Nat.le_of_ble_eq_true rfl⟩) (preS_ro va_nil hKK) rfl rfl hl.1 rfl (lv_room (Nat.le_of_ble_eq_true rfl)) dX6_stops_77 ⟨Nat.zero_le _, Nat.zero_le _⟩)) ?_
                refine lv_iconst (v := (1 : Int32)) hx hb dX6_stops_80 (by decide) ?_
                refine lv_icmp_le (tgt := 104) hx hb dX6_stops_81 (by decide) (fun c81 => ?_) (fun c81 => ?_)
                · have h := br_1 h c81
                  refine lv_iconst (v := (0 : Int32)) hx hb dX6_stops_104 (by decide) ?_
                  exact n105 (0 : Int32) x2 x3 h _ (lv_sub hl [0, 1, 2, 3] rfl)
                · have h := br_0 h c81
                  refine lv_iload hx hb dX6_stops_84 (lv_at hl 4 rfl) ?_
                  refine lv_aload_n hx hb dX6_stops_86 rfl (lv_at hl 0 rfl) ?_
                  refine va_get (D := D) (ci := 4) (C := RX6) (T := TX6) (N := 27) hx hb hts iX6 hown hK hP 0 wMo_0 rfl 5 (by decide) q3 (fun _ h9 => h9) rfl dX6_stops_87 ?_
                  refine lv_iload_n hx hb dX6_stops_90 rfl (lv_at hl 3 rfl) ?_
                  obtain ⟨r91, hc, h⟩ := bd1_some h
                  refine my_roi (va_Run.run (va_runS (As := [.int x3]) (rest := [.int mclause, .int x4]) hFix (kX6_bits l D T F x3 r91 hc) (va_cwS 1 hts gX6_stops_X6_bits rfl rfl rfl hd_X6_bits ⟨Nat.le_of_ble_eq_true rfl, Nat.le_of_ble_eq_true rfl⟩) (preS_ro va_nil hKK) rfl rfl hl.1 rfl (lv_room (Nat.le_of_ble_eq_true rfl)) dX6_stops_91 ⟨Nat.zero_le _, Nat.zero_le _⟩)) ?_
                  refine lv_iconst (v := (1 : Int32)) hx hb dX6_stops_94 (by decide) ?_
                  refine lv_isub hx hb dX6_stops_95 ?_
                  refine lv_imul hx hb dX6_stops_96 ?_
                  refine lv_icmp_ge (tgt := 104) hx hb dX6_stops_97 (by decide) (fun c97 => ?_) (fun c97 => ?_)
                  · have h := br_1 h c97
                    refine lv_iconst (v := (0 : Int32)) hx hb dX6_stops_104 (by decide) ?_
                    exact n105 (0 : Int32) x2 x3 h _ (lv_sub hl [0, 1, 2, 3] rfl)
                  · have h := br_0 h c97
                    refine lv_iconst (v := (1 : Int32)) hx hb dX6_stops_100 (by decide) ?_
                    refine lv_goto (tgt := 105) hx hb dX6_stops_101 (by decide) ?_
                    exact n105 (1 : Int32) x2 x3 h _ (lv_sub hl [0, 1, 2, 3] rfl)
            · have h := br_0 h c34
              refine lv_iload hx hb dX6_stops_37 (lv_at hl 4 rfl) ?_
              refine lv_iload_n hx hb dX6_stops_39 rfl (lv_at hl 3 rfl) ?_
              refine lv_iload hx hb dX6_stops_40 (lv_at hl 5 rfl) ?_
              obtain ⟨r42, hc, h⟩ := bd1_some h
              refine my_roz (va_Run.run (va_runS (As := [.int x3, .int x5]) (rest := [.int x4]) hFix (kX6_has l D T F x3 x5 r42 hc) (va_cwS 2 hts gX6_stops_X6_has rfl rfl rfl hd_X6_has ⟨Nat.le_of_ble_eq_true rfl, Nat.le_of_ble_eq_true rfl⟩) (preS_ro va_nil hKK) rfl rfl hl.1 rfl (lv_room (Nat.le_of_ble_eq_true rfl)) dX6_stops_42 ⟨Nat.zero_le _, Nat.zero_le _⟩)) (fun hb42 => ?_)
              refine lv_if_eq (tgt := 58) hx hb dX6_stops_45 (by decide) (fun c45 => ?_) (fun c45 => ?_)
              · have h := br_1 h c45
                refine lv_iconst (v := (0 : Int32)) hx hb dX6_stops_58 (by decide) ?_
                refine lv_iadd hx hb dX6_stops_59 ?_
                refine lv_istore (lv' := [(4, .int (x4 + (0 : Int32))), (0, .ref (am 0)), (1, .int x1), (2, .int x2), (3, .int x3), (5, .int x5)]) hx hb dX6_stops_60 hl (by decide) rfl (fun ls hl => ?_)
                refine lv_iinc (v := (x5 + (1 : Int32))) (lv' := [(5, .int (x5 + (1 : Int32))), (4, .int (x4 + (0 : Int32))), (0, .ref (am 0)), (1, .int x1), (2, .int x2), (3, .int x3)]) hx hb dX6_stops_62 hl (k := 5) rfl rfl (by decide) rfl (fun ls hl => ?_)
                refine lv_goto (tgt := 28) hx hb dX6_stops_65 (by decide) ?_
                exact ih28 (x4 + (0 : Int32)) (x5 + (1 : Int32)) h _ (lv_sub hl [2, 3, 4, 5, 1, 0] rfl)
              · have h := br_0 h c45
                refine lv_aload_n hx hb dX6_stops_48 rfl (lv_at hl 0 rfl) ?_
                refine va_get (D := D) (ci := 4) (C := RX6) (T := TX6) (N := 27) hx hb hts iX6 hown hK hP 0 wMo_0 rfl 9 (by decide) q1 (fun _ h9 => h9) rfl dX6_stops_49 ?_
                refine lv_iload hx hb dX6_stops_52 (lv_at hl 5 rfl) ?_
                obtain ⟨hin1, h⟩ := ck_some h
                refine va_iald hx hb hK hP 8 0 wMo_8 rfl hin1 dX6_stops_54 ?_
                refine lv_goto (tgt := 59) hx hb dX6_stops_55 (by decide) ?_
                refine lv_iadd hx hb dX6_stops_59 ?_
                refine lv_istore (lv' := [(4, .int (x4 + (mnow x5.toNatClampNeg))), (0, .ref (am 0)), (1, .int x1), (2, .int x2), (3, .int x3), (5, .int x5)]) hx hb dX6_stops_60 hl (by decide) rfl (fun ls hl => ?_)
                refine lv_iinc (v := (x5 + (1 : Int32))) (lv' := [(5, .int (x5 + (1 : Int32))), (4, .int (x4 + (mnow x5.toNatClampNeg))), (0, .ref (am 0)), (1, .int x1), (2, .int x2), (3, .int x3)]) hx hb dX6_stops_62 hl (k := 5) rfl rfl (by decide) rfl (fun ls hl => ?_)
                refine lv_goto (tgt := 28) hx hb dX6_stops_65 (by decide) ?_
                exact ih28 (x4 + (mnow x5.toNatClampNeg)) (x5 + (1 : Int32)) h _ (lv_sub hl [2, 3, 4, 5, 1, 0] rfl)
        have h : fX6_stops_l14_b F mguests mclause mnow x1 (fX6_stops_l14 F mguests mclause mnow x1 nu14) x2 x3 = some (r) := h
        unfold fX6_stops_l14_b at h
        refine lv_iload_n hx hb dX6_stops_14 rfl (lv_at hl 3 rfl) ?_
        refine lv_aload_n hx hb dX6_stops_15 rfl (lv_at hl 0 rfl) ?_
        obtain ⟨r16, hc, h⟩ := bd1_some h
        have hPc : va_P D vwCl (wM0 T am mguests mclause mdeeds masked mupper mlower mfinding mreadGuests misSight mat) _ := my_subP sb_wMo_wM0_0 hP
        refine my_roi (va_Run.run (va_runV (As := []) (rest := [.int x3]) hFix (kX6_everybody l D T F am mguests mclause mdeeds masked mupper mlower mfinding mreadGuests misSight mat r16 hc) (cwV 0 hts gX6_stops_X6_everybody rfl rfl rfl ⟨rfl, hd_X6_everybody⟩ ⟨Nat.le_of_ble_eq_true rfl, Nat.le_of_ble_eq_true rfl⟩) (preV_ro hPc hKK (va_recv hK hP (ci := 4) (q0 := 0) rfl wMo_0)) rfl rfl hl.1 rfl (lv_room (Nat.le_of_ble_eq_true rfl)) dX6_stops_16 ⟨Nat.zero_le _, Nat.zero_le _⟩)) ?_
        refine lv_icmp_gt (tgt := 141) hx hb dX6_stops_19 (by decide) (fun c19 => ?_) (fun c19 => ?_)
        · have h := br_1 h c19
          refine lv_iload_n hx hb dX6_stops_141 rfl (lv_at hl 2 rfl) ?_
          cases h
          exact hret _ _ dX6_stops_142
        · have h := br_0 h c19
          refine lv_iconst (v := (0 : Int32)) hx hb dX6_stops_22 (by decide) ?_
          refine lv_istore (lv' := [(4, .int (0 : Int32)), (0, .ref (am 0)), (1, .int x1), (2, .int x2), (3, .int x3)]) hx hb dX6_stops_23 hl (by decide) rfl (fun ls hl => ?_)
          refine lv_iconst (v := (0 : Int32)) hx hb dX6_stops_25 (by decide) ?_
          refine lv_istore (lv' := [(5, .int (0 : Int32)), (4, .int (0 : Int32)), (0, .ref (am 0)), (1, .int x1), (2, .int x2), (3, .int x3)]) hx hb dX6_stops_26 hl (by decide) rfl (fun ls hl => ?_)
          exact l28 x2 x3 F (0 : Int32) (0 : Int32) h _ (lv_sub hl [2, 3, 4, 5, 1, 0] rfl)
    unfold fX6_stops at h
    refine lv_aload_n hx hb dX6_stops_0 rfl (lv_at hl 0 rfl) ?_
    refine lv_aload_n hx hb dX6_stops_1 rfl (lv_at hl 0 rfl) ?_
    refine va_get (D := D) (ci := 4) (C := RX6) (T := TX6) (N := 27) hx hb hts iX6 hown hK hP 0 wMo_0 rfl 9 (by decide) q1 (fun _ h9 => h9) rfl dX6_stops_2 ?_
    obtain ⟨r5, hc, h⟩ := bd1_some h
    have hPc : va_P D vwCl (wMi T am (am 8) mguests mclause mdeeds masked mupper mlower mfinding mreadGuests misSight mat mnow) _ := my_subP sb_wMo_wMi_0_8 hP
    refine my_roi (va_Run.run (va_runV (As := [.ref (am 8)]) (rest := []) hFix (kX6_inside l D T F am (am 8) mguests mclause mdeeds masked mupper mlower mfinding mreadGuests misSight mat mnow r5 hc) (cwV 1 hts gX6_stops_X6_inside rfl rfl rfl ⟨rfl, hd_X6_inside⟩ ⟨Nat.le_of_ble_eq_true rfl, Nat.le_of_ble_eq_true rfl⟩) (preV_ro hPc hKK (va_recv hK hP (ci := 4) (q0 := 0) rfl wMo_0)) rfl rfl hl.1 rfl (lv_room (Nat.le_of_ble_eq_true rfl)) dX6_stops_5 ⟨Nat.zero_le _, Nat.zero_le _⟩)) ?_
    refine lv_istore_n (lv' := [(1, .int r5), (0, .ref (am 0))]) hx hb dX6_stops_8 rfl hl (by decide) rfl (fun ls hl => ?_)
    refine lv_bipush (v := (-9 : Int32)) hx hb dX6_stops_9 (by decide) ?_
    refine lv_istore_n (lv' := [(2, .int (-9 : Int32)), (1, .int r5), (0, .ref (am 0))]) hx hb dX6_stops_11 rfl hl (by decide) rfl (fun ls hl => ?_)
    refine lv_iconst (v := (1 : Int32)) hx hb dX6_stops_12 (by decide) ?_
    refine lv_istore_n (lv' := [(3, .int (1 : Int32)), (2, .int (-9 : Int32)), (1, .int r5), (0, .ref (am 0))]) hx hb dX6_stops_13 rfl hl (by decide) rfl (fun ls hl => ?_)
    exact l14 r5 F (-9 : Int32) (1 : Int32) h _ (lv_sub hl [3, 2, 1, 0] rfl)
  exact key _ (fun pc ls hd => W.iret hx hb hr (fun t ht hW => ⟨_, rfl, rfl, ht⟩) (fun q h => by cases h) hd)
set_option maxHeartbeats 4000000 in
set_option maxRecDepth 100000 in
theorem kX6_fraction (l : Launch) (D : va_G) (T : Nat → ClassId) (F : Nat) (am : Nat → Nat) (mguests : Int32) (mclause : Int32) (mdeeds : Int32) (masked : Int32) (mupper : Int64) (mlower : Int64) (mfinding : Int32) (mreadGuests : Int32) (misSight : Int32) (mat : Int32) (mrowSizes : Nat → Int32) (mrows : Nat → Int32) (mtextSizes : Nat → Int32) (mtexts : Nat → Int32) (mdoes : Nat → Int32) (mkinds : Nat → Int32) (msees : Nat → Int32) (mnow : Nat → Int32) (mbefore : Nat → Int32) (mkeeps : Nat → Int32) (mkept : Nat → Int32) (mfindings : Nat → Int32) (mread : Nat → Int32) (maside : Nat → Int32) (msteps : Nat → Int32) (mtried : Nat → Int32) (mbest : Nat → Int32) (x1 : Int64) (x3 : Int64) (r : Int32) (zmupper : Int64) (zmlower : Int64) (h : fX6_fraction F mupper mlower x1 x3 = some (r, zmupper, zmlower)) : ∀ sz : Nat, Met l yX6_fraction wsX6_fraction ({ frames := 0, cells := 0, slots := 0, locals := 0 } : Room) (va_Pc [.ref (am 0), .long x1, .long x3] (fun U => U.heap.size = sz ∧ va_P D vwCl (wMo T am mguests mclause mdeeds masked mupper mlower mfinding mreadGuests misSight mat mrowSizes mrows mtextSizes mtexts mdoes mkinds msees mnow mbefore mkeeps mkept mfindings mread maside msteps mtried mbest) U.heap ∧ KK D T U ∧ va_D (fun _ => True) (wMo T am mguests mclause mdeeds masked mupper mlower mfinding mreadGuests misSight mat mrowSizes mrows mtextSizes mtexts mdoes mkinds msees mnow mbefore mkeeps mkept mfindings mread maside msteps mtried mbest))) (va_Qi (fun r' (_ : Unit) => r' = r) (fun _ t => va_P D vwCl (wMo T am mguests mclause mdeeds masked zmupper zmlower mfinding mreadGuests misSight mat mrowSizes mrows mtextSizes mtexts mdoes mkinds msees mnow mbefore mkeeps mkept mfindings mread maside msteps mtried mbest) t.heap ∧ va_D (va_A (wMo T am mguests mclause mdeeds masked mupper mlower mfinding mreadGuests misSight mat mrowSizes mrows mtextSizes mtexts mdoes mkinds msees mnow mbefore mkeeps mkept mfindings mread maside msteps mtried mbest) sz) (wMo T am mguests mclause mdeeds masked zmupper zmlower mfinding mreadGuests misSight mat mrowSizes mrows mtextSizes mtexts mdoes mkinds msees mnow mbefore mkeeps mkept mfindings mread maside msteps mtried mbest)) (va_A (wMo T am mguests mclause mdeeds masked mupper mlower mfinding mreadGuests misSight mat mrowSizes mrows mtextSizes mtexts mdoes mkinds msees mnow mbefore mkeeps mkept mfindings mread maside msteps mtried mbest) sz)) 0 0 (va_A (wMo T am mguests mclause mdeeds masked mupper mlower mfinding mreadGuests misSight mat mrowSizes mrows mtextSizes mtexts mdoes mkinds msees mnow mbefore mkeeps mkept mfindings mread maside msteps mtried mbest) sz) := by
  intro sz
  refine Met.ofW (cc := cX6_fraction) (maxL := 11) (ret := some .int) (by decide) rfl ?_
  intro p e s m args below meth c s₁ B hml hv
  obtain ⟨ha, hsz, hP, hKK, hD0⟩ := hv
  have hx := B.exec
  have hb := B.bytes
  have hr := B.returns
  have hts := atoms_spec (ws := wsX6_fraction) B.pre
  have hown : s.vm.findClass RX6 = some m.cls := findClass_of_methodNamed B.named
  have hlocks := B.notSynchronized
  have hK := hKK.1
  have hFix : CallFix p m c cX6_fraction 11 s args wsX6_fraction RX6 := ⟨hx, hb, hml, hown, hts⟩
  have q1 := hts _ (List.mem_of_getElem? (i := 1) (show wsX6_fraction[1]? = some (Cond.fieldLink RX6 230 "PartyWillModel" "upper" "J") from rfl))
  have q2 := hts _ (List.mem_of_getElem? (i := 2) (show wsX6_fraction[2]? = some (Cond.fieldLink RX6 44 "PartyWillModel" "lower" "J") from rfl))
  have iX6 : ∀ w ∈ u_ws RX6 TX6 27, w ∈ wsX6_fraction := fun w h => List.mem_cons_of_mem _ (List.mem_append_right _ (h))
  subst hsz
  have hD := hD0.self (sz := s.heap.size)
  generalize hAe : va_A (wMo T am mguests mclause mdeeds masked mupper mlower mfinding mreadGuests misSight mat mrowSizes mrows mtextSizes mtexts mdoes mkinds msees mnow mbefore mkeeps mkept mfindings mread maside msteps mtried mbest) s.heap.size = A at hD ⊢
  have hA : ∀ q : Nat, s.heap.size ≤ q → A q := fun q h => by rw [← hAe]; exact Or.inr h
  have hS : va_S A s.heap s.heap [] := va_S.rf
  have hP : va_P D vwCl (wMo T am mguests mclause mdeeds masked mupper mlower mfinding mreadGuests misSight mat mrowSizes mrows mtextSizes mtexts mdoes mkinds msees mnow mbefore mkeeps mkept mfindings mread maside msteps mtried mbest) s.heap := hP
  obtain ⟨ls, hl, e0⟩ := my_entry (m := m) (n := 11) ha (Nat.le_of_ble_eq_true rfl)
  rw [e0]
  have hl : lv_has ls 11 [(0, .ref (am 0)), (1, .long x1), (3, .long x3)] := hl
  have key : ∀ Q : State → Prop, (∀ (H : Heap) (locs : List Loc) (pc : Nat) (ls : Array Slot), va_P D vwCl (wMo T am mguests mclause mdeeds masked zmupper zmlower mfinding mreadGuests misSight mat mrowSizes mrows mtextSizes mtexts mdoes mkinds msees mnow mbefore mkeeps mkept mfindings mread maside msteps mtried mbest) H → va_D A (wMo T am mguests mclause mdeeds masked zmupper zmlower mfinding mreadGuests misSight mat mrowSizes mrows mtextSizes mtexts mdoes mkinds msees mnow mbefore mkeeps mkept mfindings mread maside msteps mtried mbest) → va_S A s.heap H locs → decode cX6_fraction pc = .ok (.ireturn, 1) → W p l e ({ frames := 0, cells := 0, slots := 0, locals := 0 } : Room) s m args below meth c H locs 0 0 Q (F0 m pc ls [.int r])) → W p l e ({ frames := 0, cells := 0, slots := 0, locals := 0 } : Room) s m args below meth c s.heap [] 0 0 Q (F0 m 0 ls []) := by
    intro Q hret
    skip
    have l6 : ∀ x1 : Int64, ∀ x3 : Int64, ∀ mupper : Int64, ∀ mlower : Int64, ∀ nu : Nat, ∀ x5 : Int64, ∀ x7 : Int64, fX6_fraction_l6 F x1 x3 mupper mlower nu x5 x7 = some (r, zmupper, zmlower) → ∀ (H : Heap) (locs : List Loc), va_P D vwCl (wMo T am mguests mclause mdeeds masked mupper mlower mfinding mreadGuests misSight mat mrowSizes mrows mtextSizes mtexts mdoes mkinds msees mnow mbefore mkeeps mkept mfindings mread maside msteps mtried mbest) H → va_D A (wMo T am mguests mclause mdeeds masked mupper mlower mfinding mreadGuests misSight mat mrowSizes mrows mtextSizes mtexts mdoes mkinds msees mnow mbefore mkeeps mkept mfindings mread maside msteps mtried mbest) → va_S A s.heap H locs → ∀ (ls : Array Slot), lv_has ls 11 [(0, .ref (am 0)), (1, .long x1), (3, .long x3), (5, .long x5), (7, .long x7)] → W p l e ({ frames := 0, cells := 0, slots := 0, locals := 0 } : Room) s m args below meth c H locs 0 0 Q (F0 m 6 ls []) := by
      intro x1 x3 mupper mlower
      intro nu
      induction nu with
      | zero => intro x5 x7 h; exact none_some h
      | succ nu6 ih6 =>
        intro x5 x7 h H locs hP hD hS ls hl
        have h : fX6_fraction_l6_b F x1 x3 mupper mlower (fX6_fraction_l6 F x1 x3 mupper mlower nu6) x5 x7 = some (r, zmupper, zmlower) := h
        unfold fX6_fraction_l6_b at h
        refine lv_lload hx hb dX6_fraction_6 (lv_at hl 4 rfl) ?_
        refine lv_lconst (v := (0 : Int64)) hx hb dX6_fraction_8 (by decide) ?_
        refine W.lcmp hx hb dX6_fraction_9 ?_
        refine lv_if_eq (tgt := 31) hx hb dX6_fraction_10 (by decide) (fun c10 => ?_) (fun c10 => ?_)
        · have h := br_1 h c10
          refine lv_aload_n hx hb dX6_fraction_31 rfl (lv_at hl 0 rfl) ?_
          refine lv_lload_n hx hb dX6_fraction_32 rfl (lv_at hl 1 rfl) ?_
          refine lv_lload hx hb dX6_fraction_33 (lv_at hl 3 rfl) ?_
          obtain ⟨hne, h⟩ := ck_some h
          refine lv_ldiv hx hb dX6_fraction_35 hne ?_
          refine va_put (D := D) (ci := 4) (v := .long (x1 / x5)) (ty := .long) (C := RX6) (T := TX6) (N := 27) hx hb hts iX6 tyX6 tyX6_ok nmX6 hown hK hP hD hS 0 wMo_0 rfl 15 (by decide) q1 (fun _ h9 => h9) rfl (by decide +kernel) rfl rfl (Nat.le_of_ble_eq_true rfl) dX6_fraction_36 (fun H locs hP hD hS => ?_)
          have hP : va_P D vwCl (wMo T am mguests mclause mdeeds masked (x1 / x5) mlower mfinding mreadGuests misSight mat mrowSizes mrows mtextSizes mtexts mdoes mkinds msees mnow mbefore mkeeps mkept mfindings mread maside msteps mtried mbest) H := hP
          have hD : va_D A (wMo T am mguests mclause mdeeds masked (x1 / x5) mlower mfinding mreadGuests misSight mat mrowSizes mrows mtextSizes mtexts mdoes mkinds msees mnow mbefore mkeeps mkept mfindings mread maside msteps mtried mbest) := hD
          refine lv_aload_n hx hb dX6_fraction_39 rfl (lv_at hl 0 rfl) ?_
          refine lv_lload_n hx hb dX6_fraction_40 rfl (lv_at hl 2 rfl) ?_
          refine lv_lload hx hb dX6_fraction_41 (lv_at hl 3 rfl) ?_
          obtain ⟨hne, h⟩ := ck_some h
          refine lv_ldiv hx hb dX6_fraction_43 hne ?_
          refine va_put (D := D) (ci := 4) (v := .long (x3 / x5)) (ty := .long) (C := RX6) (T := TX6) (N := 27) hx hb hts iX6 tyX6 tyX6_ok nmX6 hown hK hP hD hS 0 wMo_0 rfl 16 (by decide) q2 (fun _ h9 => h9) rfl (by decide +kernel) rfl rfl (Nat.le_of_ble_eq_true rfl) dX6_fraction_44 (fun H locs hP hD hS => ?_)
          have hP : va_P D vwCl (wMo T am mguests mclause mdeeds masked (x1 / x5) (x3 / x5) mfinding mreadGuests misSight mat mrowSizes mrows mtextSizes mtexts mdoes mkinds msees mnow mbefore mkeeps mkept mfindings mread maside msteps mtried mbest) H := hP
          have hD : va_D A (wMo T am mguests mclause mdeeds masked (x1 / x5) (x3 / x5) mfinding mreadGuests misSight mat mrowSizes mrows mtextSizes mtexts mdoes mkinds msees mnow mbefore mkeeps mkept mfindings mread maside msteps mtried mbest) := hD
          refine lv_iconst (v := (1 : Int32)) hx hb dX6_fraction_47 (by decide) ?_
          cases h
          exact hret _ _ _ _ hP hD hS dX6_fraction_48
        · have h := br_0 h c10
          refine lv_lload hx hb dX6_fraction_13 (lv_at hl 3 rfl) ?_
          refine lv_lload hx hb dX6_fraction_15 (lv_at hl 4 rfl) ?_
          obtain ⟨hne, h⟩ := ck_some h
          refine lv_lrem hx hb dX6_fraction_17 hne ?_
          refine lv_lstore (lv' := [(9, .long (x5 - x5 / x7 * x7)), (0, .ref (am 0)), (1, .long x1), (3, .long x3), (5, .long x5), (7, .long x7)]) hx hb dX6_fraction_18 hl (by decide) rfl (fun ls hl => ?_)
          refine lv_lload hx hb dX6_fraction_20 (lv_at hl 5 rfl) ?_
          refine lv_lstore (lv' := [(5, .long x7), (9, .long (x5 - x5 / x7 * x7)), (0, .ref (am 0)), (1, .long x1), (3, .long x3), (7, .long x7)]) hx hb dX6_fraction_22 hl (by decide) rfl (fun ls hl => ?_)
          refine lv_lload hx hb dX6_fraction_24 (lv_at hl 1 rfl) ?_
          refine lv_lstore (lv' := [(7, .long (x5 - x5 / x7 * x7)), (5, .long x7), (9, .long (x5 - x5 / x7 * x7)), (0, .ref (am 0)), (1, .long x1), (3, .long x3)]) hx hb dX6_fraction_26 hl (by decide) rfl (fun ls hl => ?_)
          refine lv_goto (tgt := 6) hx hb dX6_fraction_28 (by decide) ?_
          exact ih6 x7 (x5 - x5 / x7 * x7) h _ _ hP hD hS _ (lv_sub hl [3, 4, 5, 1, 0] rfl)
    unfold fX6_fraction at h
    refine lv_lload_n hx hb dX6_fraction_0 rfl (lv_at hl 1 rfl) ?_
    refine lv_lstore (lv' := [(5, .long x1), (0, .ref (am 0)), (1, .long x1), (3, .long x3)]) hx hb dX6_fraction_1 hl (by decide) rfl (fun ls hl => ?_)
    refine lv_lload_n hx hb dX6_fraction_3 rfl (lv_at hl 3 rfl) ?_
    refine lv_lstore (lv' := [(7, .long x3), (5, .long x1), (0, .ref (am 0)), (1, .long x1), (3, .long x3)]) hx hb dX6_fraction_4 hl (by decide) rfl (fun ls hl => ?_)
    exact l6 x1 x3 mupper mlower F x1 x3 h _ _ hP hD hS _ (lv_sub hl [2, 3, 4, 1, 0] rfl)
  exact key _ (fun H locs pc ls hP hD hS hd => W.iret hx hb hr (fun t ht hW => ⟨⟨_, (), rfl, rfl, by show _ ∧ _; rw [ht]; exact ⟨hP, hD⟩⟩, hS.F ht⟩) hS.2.2 hd)
