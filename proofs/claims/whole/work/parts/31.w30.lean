set_option maxHeartbeats 4000000 in
set_option maxRecDepth 100000 in
theorem kX6_gay (l : Launch) (D : va_G) (T : Nat → ClassId) (F : Nat) (am : Nat → Nat) (mguests : Int32) (mclause : Int32) (mdeeds : Int32) (masked : Int32) (mupper : Int64) (mlower : Int64) (mfinding : Int32) (mreadGuests : Int32) (misSight : Int32) (mat : Int32) (mrowSizes : Nat → Int32) (mrows : Nat → Int32) (mtextSizes : Nat → Int32) (mtexts : Nat → Int32) (mdoes : Nat → Int32) (mkinds : Nat → Int32) (msees : Nat → Int32) (mnow : Nat → Int32) (mbefore : Nat → Int32) (mkeeps : Nat → Int32) (mkept : Nat → Int32) (mfindings : Nat → Int32) (mread : Nat → Int32) (maside : Nat → Int32) (msteps : Nat → Int32) (mtried : Nat → Int32) (mbest : Nat → Int32) (r : Int32) (zmaside : Nat → Int32) (h : fX6_gay F mguests mclause mdoes mkinds msees mnow maside = some (r, zmaside)) : ∀ sz : Nat, Met l yX6_gay wsX6_gay ({ frames := 5, cells := 0, slots := 0, locals := 117 } : Room) (va_Pc [.ref (am 0)] (fun U => U.heap.size = sz ∧ va_P D vwCl (wMo T am mguests mclause mdeeds masked mupper mlower mfinding mreadGuests misSight mat mrowSizes mrows mtextSizes mtexts mdoes mkinds msees mnow mbefore mkeeps mkept mfindings mread maside msteps mtried mbest) U.heap ∧ KK D T U ∧ va_D (fun _ => True) (wMo T am mguests mclause mdeeds masked mupper mlower mfinding mreadGuests misSight mat mrowSizes mrows mtextSizes mtexts mdoes mkinds msees mnow mbefore mkeeps mkept mfindings mread maside msteps mtried mbest))) (va_Qi (fun r' (_ : Unit) => r' = r) (fun _ t => va_P D vwCl (wMo T am mguests mclause mdeeds masked mupper mlower mfinding mreadGuests misSight mat mrowSizes mrows mtextSizes mtexts mdoes mkinds msees mnow mbefore mkeeps mkept mfindings mread zmaside msteps mtried mbest) t.heap ∧ va_D (va_A (wMo T am mguests mclause mdeeds masked mupper mlower mfinding mreadGuests misSight mat mrowSizes mrows mtextSizes mtexts mdoes mkinds msees mnow mbefore mkeeps mkept mfindings mread maside msteps mtried mbest) sz) (wMo T am mguests mclause mdeeds masked mupper mlower mfinding mreadGuests misSight mat mrowSizes mrows mtextSizes mtexts mdoes mkinds msees mnow mbefore mkeeps mkept mfindings mread zmaside msteps mtried mbest)) (va_A (wMo T am mguests mclause mdeeds masked mupper mlower mfinding mreadGuests misSight mat mrowSizes mrows mtextSizes mtexts mdoes mkinds msees mnow mbefore mkeeps mkept mfindings mread maside msteps mtried mbest) sz)) 0 0 (va_A (wMo T am mguests mclause mdeeds masked mupper mlower mfinding mreadGuests misSight mat mrowSizes mrows mtextSizes mtexts mdoes mkinds msees mnow mbefore mkeeps mkept mfindings mread maside msteps mtried mbest) sz) := by
  intro sz
  refine Met.ofW (cc := cX6_gay) (maxL := 3) (ret := some .int) (by decide) rfl ?_
  intro p e s m args below meth c s₁ B hml hv
  obtain ⟨ha, hsz, hP, hKK, hD0⟩ := hv
  have hx := B.exec
  have hb := B.bytes
  have hr := B.returns
  have hts := atoms_spec (ws := wsX6_gay) B.pre
  have hown : s.vm.findClass RX6 = some m.cls := findClass_of_methodNamed B.named
  have hlocks := B.notSynchronized
  have hK := hKK.1
  have hFix : CallFix p m c cX6_gay 3 s args wsX6_gay RX6 := ⟨hx, hb, hml, hown, hts⟩
  have q1 := hts _ (List.mem_of_getElem? (i := 1) (show wsX6_gay[1]? = some (Cond.fieldLink RX6 131 "PartyWillModel" "guests" "I") from rfl))
  have q2 := hts _ (List.mem_of_getElem? (i := 2) (show wsX6_gay[2]? = some (Cond.fieldLink RX6 54 "PartyWillModel" "aside" "[I") from rfl))
  have iX6 : ∀ w ∈ u_ws RX6 TX6 27, w ∈ wsX6_gay := fun w h => List.mem_cons_of_mem _ (List.mem_append_right _ (h))
  subst hsz
  have hD := hD0.self (sz := s.heap.size)
  generalize hAe : va_A (wMo T am mguests mclause mdeeds masked mupper mlower mfinding mreadGuests misSight mat mrowSizes mrows mtextSizes mtexts mdoes mkinds msees mnow mbefore mkeeps mkept mfindings mread maside msteps mtried mbest) s.heap.size = A at hD ⊢
  have hA : ∀ q : Nat, s.heap.size ≤ q → A q := fun q h => by rw [← hAe]; exact Or.inr h
  have hS : va_S A s.heap s.heap [] := va_S.rf
  have hP : va_P D vwCl (wMo T am mguests mclause mdeeds masked mupper mlower mfinding mreadGuests misSight mat mrowSizes mrows mtextSizes mtexts mdoes mkinds msees mnow mbefore mkeeps mkept mfindings mread maside msteps mtried mbest) s.heap := hP
  obtain ⟨ls, hl, e0⟩ := my_entry (m := m) (n := 3) ha (Nat.le_of_ble_eq_true rfl)
  rw [e0]
  have hl : lv_has ls 3 [(0, .ref (am 0))] := hl
  have key : ∀ Q : State → Prop, (∀ (H : Heap) (locs : List Loc) (pc : Nat) (ls : Array Slot), va_P D vwCl (wMo T am mguests mclause mdeeds masked mupper mlower mfinding mreadGuests misSight mat mrowSizes mrows mtextSizes mtexts mdoes mkinds msees mnow mbefore mkeeps mkept mfindings mread zmaside msteps mtried mbest) H → va_D A (wMo T am mguests mclause mdeeds masked mupper mlower mfinding mreadGuests misSight mat mrowSizes mrows mtextSizes mtexts mdoes mkinds msees mnow mbefore mkeeps mkept mfindings mread zmaside msteps mtried mbest) → va_S A s.heap H locs → decode cX6_gay pc = .ok (.ireturn, 1) → W p l e ({ frames := 5, cells := 0, slots := 0, locals := 117 } : Room) s m args below meth c H locs 0 0 Q (F0 m pc ls [.int r])) → W p l e ({ frames := 5, cells := 0, slots := 0, locals := 117 } : Room) s m args below meth c s.heap [] 0 0 Q (F0 m 0 ls []) := by
    intro Q hret
    skip
    have l12 : ∀ nu : Nat, ∀ x1 : Int32, ∀ maside : Nat → Int32, fX6_gay_l12 F mguests mclause mdoes mkinds msees mnow nu x1 maside = some (r, zmaside) → ∀ (H : Heap) (locs : List Loc), va_P D vwCl (wMo T am mguests mclause mdeeds masked mupper mlower mfinding mreadGuests misSight mat mrowSizes mrows mtextSizes mtexts mdoes mkinds msees mnow mbefore mkeeps mkept mfindings mread maside msteps mtried mbest) H → va_D A (wMo T am mguests mclause mdeeds masked mupper mlower mfinding mreadGuests misSight mat mrowSizes mrows mtextSizes mtexts mdoes mkinds msees mnow mbefore mkeeps mkept mfindings mread maside msteps mtried mbest) → va_S A s.heap H locs → ∀ (ls : Array Slot), lv_has ls 3 [(0, .ref (am 0)), (1, .int x1)] → W p l e ({ frames := 5, cells := 0, slots := 0, locals := 117 } : Room) s m args below meth c H locs 0 0 Q (F0 m 12 ls []) := by
      intro nu
      induction nu with
      | zero => intro x1 maside h; exact none_some h
      | succ nu12 ih12 =>
        intro x1 maside h H locs hP hD hS ls hl
        have l20 : ∀ x1 : Int32, ∀ nu : Nat, ∀ x2 : Int32, ∀ maside : Nat → Int32, fX6_gay_l20 F (fX6_gay_l12 F mguests mclause mdoes mkinds msees mnow nu12) mguests mclause mdoes mkinds msees mnow x1 nu x2 maside = some (r, zmaside) → ∀ (H : Heap) (locs : List Loc), va_P D vwCl (wMo T am mguests mclause mdeeds masked mupper mlower mfinding mreadGuests misSight mat mrowSizes mrows mtextSizes mtexts mdoes mkinds msees mnow mbefore mkeeps mkept mfindings mread maside msteps mtried mbest) H → va_D A (wMo T am mguests mclause mdeeds masked mupper mlower mfinding mreadGuests misSight mat mrowSizes mrows mtextSizes mtexts mdoes mkinds msees mnow mbefore mkeeps mkept mfindings mread maside msteps mtried mbest) → va_S A s.heap H locs → ∀ (ls : Array Slot), lv_has ls 3 [(0, .ref (am 0)), (1, .int x1), (2, .int x2)] → W p l e ({ frames := 5, cells := 0, slots := 0, locals := 117 } : Room) s m args below meth c H locs 0 0 Q (F0 m 20 ls []) := by
          intro x1
          intro nu
          induction nu with
          | zero => intro x2 maside h; exact none_some h
          | succ nu20 ih20 =>
            intro x2 maside h H locs hP hD hS ls hl
            have h : fX6_gay_l20_b F (fX6_gay_l12 F mguests mclause mdoes mkinds msees mnow nu12) mguests mclause mdoes mkinds msees mnow x1 (fX6_gay_l20 F (fX6_gay_l12 F mguests mclause mdoes mkinds msees mnow nu12) mguests mclause mdoes mkinds msees mnow x1 nu20) x2 maside = some (r, zmaside) := h
            unfold fX6_gay_l20_b at h
            refine lv_iload_n hx hb dX6_gay_20 rfl (lv_at hl 2 rfl) ?_
            refine lv_iload_n hx hb dX6_gay_21 rfl (lv_at hl 1 rfl) ?_
            obtain ⟨r22, hc, h⟩ := bd1_some h
            refine my_roi (va_Run.run (va_runS (As := [.int x1]) (rest := [.int x2]) hFix (kX6_codes l D T F x1 r22 hc) (va_cwS 1 hts gX6_gay_X6_codes rfl rfl rfl hd_X6_codes ⟨Nat.le_of_ble_eq_true rfl, Nat.le_of_ble_eq_true rfl⟩) (preS_ro va_nil hKK) rfl rfl hl.1 rfl (lv_room (Nat.le_of_ble_eq_true rfl)) dX6_gay_22 ⟨Nat.zero_le _, Nat.zero_le _⟩)) ?_
            refine lv_icmp_ge (tgt := 55) hx hb dX6_gay_25 (by decide) (fun c25 => ?_) (fun c25 => ?_)
            · have h := br_1 h c25
              refine lv_iinc (v := (x1 + (1 : Int32))) (lv' := [(1, .int (x1 + (1 : Int32))), (0, .ref (am 0)), (2, .int x2)]) hx hb dX6_gay_55 hl (k := 1) rfl rfl (by decide) rfl (fun ls hl => ?_)
              refine lv_goto (tgt := 12) hx hb dX6_gay_58 (by decide) ?_
              exact ih12 (x1 + (1 : Int32)) maside h _ _ hP hD hS _ (lv_sub hl [1, 0] rfl)
            · have h := br_0 h c25
              refine lv_aload_n hx hb dX6_gay_28 rfl (lv_at hl 0 rfl) ?_
              refine lv_iload_n hx hb dX6_gay_29 rfl (lv_at hl 1 rfl) ?_
              refine lv_iload_n hx hb dX6_gay_30 rfl (lv_at hl 2 rfl) ?_
              obtain ⟨r31, w31_maside, hc, h⟩ := bd2_some h
              have hFc := my_freeS hD hS hA
              refine my_rwi (va_runV (As := [.int x1, .int x2]) (rest := []) hFix (kX6_fallen l D T F am mguests mclause mdeeds masked mupper mlower mfinding mreadGuests misSight mat mrowSizes mrows mtextSizes mtexts mdoes mkinds msees mnow mbefore mkeeps mkept mfindings mread maside msteps mtried mbest x1 x2 r31 w31_maside hc _) (cwV 2 hts gX6_gay_X6_fallen rfl rfl rfl ⟨rfl, hd_X6_fallen⟩ ⟨Nat.le_of_ble_eq_true rfl, Nat.le_of_ble_eq_true rfl⟩) (preV_rw hP hKK hD (va_recv hK hP (ci := 4) (q0 := 0) rfl wMo_0)) rfl rfl hl.1 rfl (lv_room (Nat.le_of_ble_eq_true rfl)) dX6_gay_31 ⟨Nat.zero_le _, Nat.zero_le _⟩) hS hFc (fun H1 locs hP1 hD1 hz1 hkk hS => ?_)
              have hP : va_P D vwCl (wMo T am mguests mclause mdeeds masked mupper mlower mfinding mreadGuests misSight mat mrowSizes mrows mtextSizes mtexts mdoes mkinds msees mnow mbefore mkeeps mkept mfindings mread w31_maside msteps mtried mbest) H1 := hP1
              have hD : va_D A (wMo T am mguests mclause mdeeds masked mupper mlower mfinding mreadGuests misSight mat mrowSizes mrows mtextSizes mtexts mdoes mkinds msees mnow mbefore mkeeps mkept mfindings mread w31_maside msteps mtried mbest) := hD1.weaken (fun _ q _ h => hFc q.1 h)
              generalize H1 = H at hP hS ⊢
              refine lv_if_ne (tgt := 49) hx hb dX6_gay_34 (by decide) (fun c34 => ?_) (fun c34 => ?_)
              · have h := br_0 h c34
                refine lv_iinc (v := (x2 + (1 : Int32))) (lv' := [(2, .int (x2 + (1 : Int32))), (0, .ref (am 0)), (1, .int x1)]) hx hb dX6_gay_49 hl (k := 2) rfl rfl (by decide) rfl (fun ls hl => ?_)
                refine lv_goto (tgt := 20) hx hb dX6_gay_52 (by decide) ?_
                exact ih20 (x2 + (1 : Int32)) w31_maside h _ _ hP hD hS _ (lv_sub hl [1, 2, 0] rfl)
              · have h := br_1 h c34
                refine lv_aload_n hx hb dX6_gay_37 rfl (lv_at hl 0 rfl) ?_
                refine va_get (D := D) (ci := 4) (C := RX6) (T := TX6) (N := 27) hx hb hts iX6 hown hK hP 0 wMo_0 rfl 23 (by decide) q2 (fun _ h9 => h9) rfl dX6_gay_38 ?_
                obtain ⟨r41, hc, h⟩ := bd1_some h
                have hPc : va_P D vwCl (wA1 T (am 14) 7 w31_maside) _ := my_subP sb_wMo_wA1_14 hP
                refine my_roi (va_Run.run (va_runS (As := [.ref (am 14)]) (rest := []) hFix (kX6_sumOf l D T F (am 14) 7 w31_maside r41 hc) (va_cwS 1 hts gX6_gay_X6_sumOf rfl rfl rfl hd_X6_sumOf ⟨Nat.le_of_ble_eq_true rfl, Nat.le_of_ble_eq_true rfl⟩) (preS_ro hPc hKK) rfl rfl hl.1 rfl (lv_room (Nat.le_of_ble_eq_true rfl)) dX6_gay_41 ⟨Nat.zero_le _, Nat.zero_le _⟩)) ?_
                refine lv_if_ne (tgt := 49) hx hb dX6_gay_44 (by decide) (fun c44 => ?_) (fun c44 => ?_)
                · have h := br_0 h c44
                  refine lv_iinc (v := (x2 + (1 : Int32))) (lv' := [(2, .int (x2 + (1 : Int32))), (0, .ref (am 0)), (1, .int x1)]) hx hb dX6_gay_49 hl (k := 2) rfl rfl (by decide) rfl (fun ls hl => ?_)
                  refine lv_goto (tgt := 20) hx hb dX6_gay_52 (by decide) ?_
                  exact ih20 (x2 + (1 : Int32)) w31_maside h _ _ hP hD hS _ (lv_sub hl [1, 2, 0] rfl)
                · have h := br_1 h c44
                  refine lv_iload_n hx hb dX6_gay_47 rfl (lv_at hl 1 rfl) ?_
                  cases h
                  exact hret _ _ _ _ hP hD hS dX6_gay_48
        have h : fX6_gay_l12_b F mguests mclause mdoes mkinds msees mnow (fX6_gay_l12 F mguests mclause mdoes mkinds msees mnow nu12) x1 maside = some (r, zmaside) := h
        unfold fX6_gay_l12_b at h
        refine lv_iload_n hx hb dX6_gay_12 rfl (lv_at hl 1 rfl) ?_
        refine lv_bipush (v := (7 : Int32)) hx hb dX6_gay_13 (by decide) ?_
        refine lv_icmp_ge (tgt := 61) hx hb dX6_gay_15 (by decide) (fun c15 => ?_) (fun c15 => ?_)
        · have h := br_1 h c15
          refine lv_bipush (v := (-9 : Int32)) hx hb dX6_gay_61 (by decide) ?_
          cases h
          exact hret _ _ _ _ hP hD hS dX6_gay_63
        · have h := br_0 h c15
          refine lv_iconst (v := (0 : Int32)) hx hb dX6_gay_18 (by decide) ?_
          refine lv_istore_n (lv' := [(2, .int (0 : Int32)), (0, .ref (am 0)), (1, .int x1)]) hx hb dX6_gay_19 rfl hl (by decide) rfl (fun ls hl => ?_)
          exact l20 x1 F (0 : Int32) maside h _ _ hP hD hS _ (lv_sub hl [1, 2, 0] rfl)
    unfold fX6_gay at h
    refine lv_aload_n hx hb dX6_gay_0 rfl (lv_at hl 0 rfl) ?_
    refine va_get (D := D) (ci := 4) (C := RX6) (T := TX6) (N := 27) hx hb hts iX6 hown hK hP 0 wMo_0 rfl 4 (by decide) q1 (fun _ h9 => h9) rfl dX6_gay_1 ?_
    refine lv_if_ne (tgt := 10) hx hb dX6_gay_4 (by decide) (fun c4 => ?_) (fun c4 => ?_)
    · have h := br_0 h c4
      refine lv_iconst (v := (0 : Int32)) hx hb dX6_gay_10 (by decide) ?_
      refine lv_istore_n (lv' := [(1, .int (0 : Int32)), (0, .ref (am 0))]) hx hb dX6_gay_11 rfl hl (by decide) rfl (fun ls hl => ?_)
      exact l12 F (0 : Int32) maside h _ _ hP hD hS _ (lv_sub hl [1, 0] rfl)
    · have h := br_1 h c4
      refine lv_bipush (v := (-4 : Int32)) hx hb dX6_gay_7 (by decide) ?_
      cases h
      exact hret _ _ _ _ hP hD hS dX6_gay_9
  exact key _ (fun H locs pc ls hP hD hS hd => W.iret hx hb hr (fun t ht hW => ⟨⟨_, (), rfl, rfl, by show _ ∧ _; rw [ht]; exact ⟨hP, hD⟩⟩, hS.F ht⟩) hS.2.2 hd)
set_option maxHeartbeats 4000000 in
set_option maxRecDepth 100000 in
theorem kX6_staysBy (l : Launch) (D : va_G) (T : Nat → ClassId) (F : Nat) (am : Nat → Nat) (mguests : Int32) (mclause : Int32) (mdeeds : Int32) (masked : Int32) (mupper : Int64) (mlower : Int64) (mfinding : Int32) (mreadGuests : Int32) (misSight : Int32) (mat : Int32) (mrowSizes : Nat → Int32) (mrows : Nat → Int32) (mtextSizes : Nat → Int32) (mtexts : Nat → Int32) (mdoes : Nat → Int32) (mkinds : Nat → Int32) (msees : Nat → Int32) (mnow : Nat → Int32) (mbefore : Nat → Int32) (mkeeps : Nat → Int32) (mkept : Nat → Int32) (mfindings : Nat → Int32) (mread : Nat → Int32) (maside : Nat → Int32) (msteps : Nat → Int32) (mtried : Nat → Int32) (mbest : Nat → Int32) (x1 : Int32) (x2 : Int32) (x3 : Int32) (r : Int32) (h : fX6_staysBy F mguests mclause mrowSizes mrows mdoes mkinds msees mnow x1 x2 x3 = some (r)) : Met l yX6_staysBy wsX6_staysBy ({ frames := 2, cells := 0, slots := 0, locals := 45 } : Room) (va_Pc [.ref (am 0), .int x1, .int x2, .int x3] (fun U => va_P D vwCl (wMo T am mguests mclause mdeeds masked mupper mlower mfinding mreadGuests misSight mat mrowSizes mrows mtextSizes mtexts mdoes mkinds msees mnow mbefore mkeeps mkept mfindings mread maside msteps mtried mbest) U.heap ∧ KK D T U)) (vp_Si (fun r' => r' = r ∧ b01 r)) 0 0 (fun _ => False) := by
  refine Met.ofW (cc := cX6_staysBy) (maxL := 9) (ret := some .boolean) (by decide) rfl ?_
  intro p e s m args below meth c s₁ B hml hv
  obtain ⟨ha, hP, hKK⟩ := hv
  have hx := B.exec
  have hb := B.bytes
  have hr := B.returns
  have hts := atoms_spec (ws := wsX6_staysBy) B.pre
  have hown : s.vm.findClass RX6 = some m.cls := findClass_of_methodNamed B.named
  have hlocks := B.notSynchronized
  have hK := hKK.1
  have hFix : CallFix p m c cX6_staysBy 9 s args wsX6_staysBy RX6 := ⟨hx, hb, hml, hown, hts⟩
  have q1 := hts _ (List.mem_of_getElem? (i := 1) (show wsX6_staysBy[1]? = some (Cond.fieldLink RX6 31 "PartyWillModel" "now" "[I") from rfl))
  have q2 := hts _ (List.mem_of_getElem? (i := 2) (show wsX6_staysBy[2]? = some (Cond.fieldLink RX6 25 "PartyWillModel" "kinds" "[I") from rfl))
  have q3 := hts _ (List.mem_of_getElem? (i := 3) (show wsX6_staysBy[3]? = some (Cond.fieldLink RX6 7 "PartyWillModel" "rowSizes" "[I") from rfl))
  have q4 := hts _ (List.mem_of_getElem? (i := 4) (show wsX6_staysBy[4]? = some (Cond.fieldLink RX6 13 "PartyWillModel" "rows" "[I") from rfl))
  have q5 := hts _ (List.mem_of_getElem? (i := 5) (show wsX6_staysBy[5]? = some (Cond.fieldLink RX6 22 "PartyWillModel" "does" "[I") from rfl))
  have q6 := hts _ (List.mem_of_getElem? (i := 6) (show wsX6_staysBy[6]? = some (Cond.fieldLink RX6 134 "PartyWillModel" "clause" "I") from rfl))
  have iX6 : ∀ w ∈ u_ws RX6 TX6 27, w ∈ wsX6_staysBy := fun w h => List.mem_cons_of_mem _ (List.mem_append_right _ (h))
  obtain ⟨ls, hl, e0⟩ := my_entry (m := m) (n := 9) ha (Nat.le_of_ble_eq_true rfl)
  rw [e0]
  have hl : lv_has ls 9 [(0, .ref (am 0)), (1, .int x1), (2, .int x2), (3, .int x3)] := hl
  have key : ∀ Q : State → Prop, (∀ (pc : Nat) (ls : Array Slot), decode cX6_staysBy pc = .ok (.ireturn, 1) → b01 r → W p l e ({ frames := 2, cells := 0, slots := 0, locals := 45 } : Room) s m args below meth c s.heap [] 0 0 Q (F0 m pc ls [.int r])) → W p l e ({ frames := 2, cells := 0, slots := 0, locals := 45 } : Room) s m args below meth c s.heap [] 0 0 Q (F0 m 0 ls []) := by
    intro Q hret
    have l54 : ∀ x1 : Int32, ∀ x3 : Int32, ∀ x5 : Int32, ∀ nu : Nat, ∀ x4 : Int32, ∀ x6 : Int32, ∀ x7 : Int32, fX6_staysBy_l54 F mguests mclause mrowSizes mrows mdoes mkinds msees mnow x1 x3 x5 nu x4 x6 x7 = some (r) → b01 x6 → ∀ (ls : Array Slot), lv_has ls 9 [(0, .ref (am 0)), (1, .int x1), (3, .int x3), (4, .int x4), (5, .int x5), (6, .int x6), (7, .int x7)] → W p l e ({ frames := 2, cells := 0, slots := 0, locals := 45 } : Room) s m args below meth c s.heap [] 0 0 Q (F0 m 54 ls []) := by
      intro x1 x3 x5
      intro nu
      induction nu with
      | zero => intro x4 x6 x7 h; exact none_some h
      | succ nu54 ih54 =>
        intro x4 x6 x7 h hbx6 ls hl
        have h : fX6_staysBy_l54_b F mguests mclause mrowSizes mrows mdoes mkinds msees mnow x1 x3 x5 (fX6_staysBy_l54 F mguests mclause mrowSizes mrows mdoes mkinds msees mnow x1 x3 x5 nu54) x4 x6 x7 = some (r) := h
        unfold fX6_staysBy_l54_b at h
        refine lv_iload hx hb dX6_staysBy_54 (lv_at hl 6 rfl) ?_
        refine lv_aload_n hx hb dX6_staysBy_56 rfl (lv_at hl 0 rfl) ?_
        refine va_get (D := D) (ci := 4) (C := RX6) (T := TX6) (N := 27) hx hb hts iX6 hown hK hP 0 wMo_0 rfl 0 (by decide) q3 (fun _ h9 => h9) rfl dX6_staysBy_57 ?_
        refine lv_iload_n hx hb dX6_staysBy_60 rfl (lv_at hl 2 rfl) ?_
        obtain ⟨hin1, h⟩ := ck_some h
        refine va_iald hx hb hK hP 1 0 wMo_1 rfl hin1 dX6_staysBy_61 ?_
        refine lv_icmp_ge (tgt := 133) hx hb dX6_staysBy_62 (by decide) (fun c62 => ?_) (fun c62 => ?_)
        · have h := br_1 h c62
          refine lv_iload hx hb dX6_staysBy_133 (lv_at hl 5 rfl) ?_
          cases h
          exact hret _ _ dX6_staysBy_135 hbx6
        · have h := br_0 h c62
          refine lv_aload_n hx hb dX6_staysBy_65 rfl (lv_at hl 0 rfl) ?_
          refine va_get (D := D) (ci := 4) (C := RX6) (T := TX6) (N := 27) hx hb hts iX6 hown hK hP 0 wMo_0 rfl 1 (by decide) q4 (fun _ h9 => h9) rfl dX6_staysBy_66 ?_
          refine lv_bipush (v := (40 : Int32)) hx hb dX6_staysBy_69 (by decide) ?_
          refine lv_iload_n hx hb dX6_staysBy_71 rfl (lv_at hl 2 rfl) ?_
          refine lv_imul hx hb dX6_staysBy_72 ?_
          refine lv_iload hx hb dX6_staysBy_73 (lv_at hl 6 rfl) ?_
          refine lv_iadd hx hb dX6_staysBy_75 ?_
          obtain ⟨hin2, h⟩ := ck_some h
          refine va_iald hx hb hK hP 2 0 wMo_2 rfl hin2 dX6_staysBy_76 ?_
          refine lv_istore (lv' := [(8, .int (mrows (((40 : Int32) * x3) + x7).toNatClampNeg)), (0, .ref (am 0)), (1, .int x1), (3, .int x3), (4, .int x4), (5, .int x5), (6, .int x6), (7, .int x7)]) hx hb dX6_staysBy_77 hl (by decide) rfl (fun ls hl => ?_)
          refine lv_aload_n hx hb dX6_staysBy_79 rfl (lv_at hl 1 rfl) ?_
          refine va_get (D := D) (ci := 4) (C := RX6) (T := TX6) (N := 27) hx hb hts iX6 hown hK hP 0 wMo_0 rfl 7 (by decide) q2 (fun _ h9 => h9) rfl dX6_staysBy_80 ?_
          refine lv_iload_n hx hb dX6_staysBy_83 rfl (lv_at hl 2 rfl) ?_
          obtain ⟨hin3, h⟩ := ck_some h
          refine va_iald hx hb hK hP 6 0 wMo_6 rfl hin3 dX6_staysBy_84 ?_
          refine lv_iload hx hb dX6_staysBy_85 (lv_at hl 4 rfl) ?_
          refine lv_iload hx hb dX6_staysBy_87 (lv_at hl 0 rfl) ?_
          refine lv_aload_n hx hb dX6_staysBy_89 rfl (lv_at hl 1 rfl) ?_
          refine va_get (D := D) (ci := 4) (C := RX6) (T := TX6) (N := 27) hx hb hts iX6 hown hK hP 0 wMo_0 rfl 6 (by decide) q5 (fun _ h9 => h9) rfl dX6_staysBy_90 ?_
          refine lv_iload hx hb dX6_staysBy_93 (lv_at hl 0 rfl) ?_
          obtain ⟨hin4, h⟩ := ck_some h
          refine va_iald hx hb hK hP 5 0 wMo_5 rfl hin4 dX6_staysBy_95 ?_
          obtain ⟨r96, hc, h⟩ := bd1_some h
          refine my_roi (va_Run.run (va_runS (As := [.int (mkinds x1.toNatClampNeg), .int x4, .int (mrows (((40 : Int32) * x3) + x7).toNatClampNeg), .int (mdoes (mrows (((40 : Int32) * x3) + x7).toNatClampNeg).toNatClampNeg)]) (rest := []) hFix (kX6_griefBehind l D T F (mkinds x1.toNatClampNeg) x4 (mrows (((40 : Int32) * x3) + x7).toNatClampNeg) (mdoes (mrows (((40 : Int32) * x3) + x7).toNatClampNeg).toNatClampNeg) r96 hc) (va_cwS 4 hts gX6_staysBy_X6_griefBehind rfl rfl rfl hd_X6_griefBehind ⟨Nat.le_of_ble_eq_true rfl, Nat.le_of_ble_eq_true rfl⟩) (preS_ro va_nil hKK) rfl rfl hl.1 rfl (lv_room (Nat.le_of_ble_eq_true rfl)) dX6_staysBy_96 ⟨Nat.zero_le _, Nat.zero_le _⟩)) ?_
          refine lv_istore (lv' := [(4, .int r96), (8, .int (mrows (((40 : Int32) * x3) + x7).toNatClampNeg)), (0, .ref (am 0)), (1, .int x1), (3, .int x3), (5, .int x5), (6, .int x6), (7, .int x7)]) hx hb dX6_staysBy_99 hl (by decide) rfl (fun ls hl => ?_)
          refine lv_iload hx hb dX6_staysBy_101 (lv_at hl 6 rfl) ?_
          refine lv_if_eq (tgt := 124) hx hb dX6_staysBy_103 (by decide) (fun c103 => ?_) (fun c103 => ?_)
          · have h := br_1 h c103
            refine lv_iconst (v := (0 : Int32)) hx hb dX6_staysBy_124 (by decide) ?_
            refine lv_istore (lv' := [(6, .int (0 : Int32)), (4, .int r96), (8, .int (mrows (((40 : Int32) * x3) + x7).toNatClampNeg)), (0, .ref (am 0)), (1, .int x1), (3, .int x3), (5, .int x5), (7, .int x7)]) hx hb dX6_staysBy_125 hl (by decide) rfl (fun ls hl => ?_)
            refine lv_iinc (v := (x7 + (1 : Int32))) (lv' := [(7, .int (x7 + (1 : Int32))), (6, .int (0 : Int32)), (4, .int r96), (8, .int (mrows (((40 : Int32) * x3) + x7).toNatClampNeg)), (0, .ref (am 0)), (1, .int x1), (3, .int x3), (5, .int x5)]) hx hb dX6_staysBy_127 hl (k := 7) rfl rfl (by decide) rfl (fun ls hl => ?_)
            refine lv_goto (tgt := 54) hx hb dX6_staysBy_130 (by decide) ?_
            exact ih54 r96 (0 : Int32) (x7 + (1 : Int32)) h (Or.inl rfl) _ (lv_sub hl [4, 5, 6, 2, 7, 1, 0] rfl)
          · have h := br_0 h c103
            refine lv_iload hx hb dX6_staysBy_106 (lv_at hl 5 rfl) ?_
            refine lv_if_eq (tgt := 120) hx hb dX6_staysBy_108 (by decide) (fun c108 => ?_) (fun c108 => ?_)
            · have h := br_1 h c108
              refine lv_iconst (v := (1 : Int32)) hx hb dX6_staysBy_120 (by decide) ?_
              refine lv_goto (tgt := 125) hx hb dX6_staysBy_121 (by decide) ?_
              refine lv_istore (lv' := [(6, .int (1 : Int32)), (4, .int r96), (8, .int (mrows (((40 : Int32) * x3) + x7).toNatClampNeg)), (0, .ref (am 0)), (1, .int x1), (3, .int x3), (5, .int x5), (7, .int x7)]) hx hb dX6_staysBy_125 hl (by decide) rfl (fun ls hl => ?_)
              refine lv_iinc (v := (x7 + (1 : Int32))) (lv' := [(7, .int (x7 + (1 : Int32))), (6, .int (1 : Int32)), (4, .int r96), (8, .int (mrows (((40 : Int32) * x3) + x7).toNatClampNeg)), (0, .ref (am 0)), (1, .int x1), (3, .int x3), (5, .int x5)]) hx hb dX6_staysBy_127 hl (k := 7) rfl rfl (by decide) rfl (fun ls hl => ?_)
              refine lv_goto (tgt := 54) hx hb dX6_staysBy_130 (by decide) ?_
              exact ih54 r96 (1 : Int32) (x7 + (1 : Int32)) h (Or.inr rfl) _ (lv_sub hl [4, 5, 6, 2, 7, 1, 0] rfl)
            · have h := br_0 h c108
              refine lv_iload hx hb dX6_staysBy_111 (lv_at hl 0 rfl) ?_
              refine lv_aload_n hx hb dX6_staysBy_113 rfl (lv_at hl 2 rfl) ?_
              refine va_get (D := D) (ci := 4) (C := RX6) (T := TX6) (N := 27) hx hb hts iX6 hown hK hP 0 wMo_0 rfl 5 (by decide) q6 (fun _ h9 => h9) rfl dX6_staysBy_114 ?_
              refine lv_icmp_gt (tgt := 124) hx hb dX6_staysBy_117 (by decide) (fun c117 => ?_) (fun c117 => ?_)
              · have h := br_1 h c117
                refine lv_iconst (v := (0 : Int32)) hx hb dX6_staysBy_124 (by decide) ?_
                refine lv_istore (lv' := [(6, .int (0 : Int32)), (4, .int r96), (8, .int (mrows (((40 : Int32) * x3) + x7).toNatClampNeg)), (0, .ref (am 0)), (1, .int x1), (3, .int x3), (5, .int x5), (7, .int x7)]) hx hb dX6_staysBy_125 hl (by decide) rfl (fun ls hl => ?_)
                refine lv_iinc (v := (x7 + (1 : Int32))) (lv' := [(7, .int (x7 + (1 : Int32))), (6, .int (0 : Int32)), (4, .int r96), (8, .int (mrows (((40 : Int32) * x3) + x7).toNatClampNeg)), (0, .ref (am 0)), (1, .int x1), (3, .int x3), (5, .int x5)]) hx hb dX6_staysBy_127 hl (k := 7) rfl rfl (by decide) rfl (fun ls hl => ?_)
                refine lv_goto (tgt := 54) hx hb dX6_staysBy_130 (by decide) ?_
                exact ih54 r96 (0 : Int32) (x7 + (1 : Int32)) h (Or.inl rfl) _ (lv_sub hl [4, 5, 6, 2, 7, 1, 0] rfl)
              · have h := br_0 h c117
                refine lv_iconst (v := (1 : Int32)) hx hb dX6_staysBy_120 (by decide) ?_
                refine lv_goto (tgt := 125) hx hb dX6_staysBy_121 (by decide) ?_
                refine lv_istore (lv' := [(6, .int (1 : Int32)), (4, .int r96), (8, .int (mrows (((40 : Int32) * x3) + x7).toNatClampNeg)), (0, .ref (am 0)), (1, .int x1), (3, .int x3), (5, .int x5), (7, .int x7)]) hx hb dX6_staysBy_125 hl (by decide) rfl (fun ls hl => ?_)
                refine lv_iinc (v := (x7 + (1 : Int32))) (lv' := [(7, .int (x7 + (1 : Int32))), (6, .int (1 : Int32)), (4, .int r96), (8, .int (mrows (((40 : Int32) * x3) + x7).toNatClampNeg)), (0, .ref (am 0)), (1, .int x1), (3, .int x3), (5, .int x5)]) hx hb dX6_staysBy_127 hl (k := 7) rfl rfl (by decide) rfl (fun ls hl => ?_)
                refine lv_goto (tgt := 54) hx hb dX6_staysBy_130 (by decide) ?_
                exact ih54 r96 (1 : Int32) (x7 + (1 : Int32)) h (Or.inr rfl) _ (lv_sub hl [4, 5, 6, 2, 7, 1, 0] rfl)
    unfold fX6_staysBy at h
    refine lv_aload_n hx hb dX6_staysBy_0 rfl (lv_at hl 0 rfl) ?_
    refine va_get (D := D) (ci := 4) (C := RX6) (T := TX6) (N := 27) hx hb hts iX6 hown hK hP 0 wMo_0 rfl 9 (by decide) q1 (fun _ h9 => h9) rfl dX6_staysBy_1 ?_
    refine lv_iload_n hx hb dX6_staysBy_4 rfl (lv_at hl 1 rfl) ?_
    obtain ⟨hin5, h⟩ := ck_some h
    refine va_iald hx hb hK hP 8 0 wMo_8 rfl hin5 dX6_staysBy_5 ?_
    refine lv_iconst (v := (3 : Int32)) hx hb dX6_staysBy_6 (by decide) ?_
    refine lv_iload_n hx hb dX6_staysBy_7 rfl (lv_at hl 2 rfl) ?_
    refine lv_imul hx hb dX6_staysBy_8 ?_
    refine lv_isub hx hb dX6_staysBy_9 ?_
    obtain ⟨r10, hc, h⟩ := bd1_some h
    refine my_roi (va_Run.run (va_runS (As := [.int ((mnow x1.toNatClampNeg) - ((3 : Int32) * x2))]) (rest := []) hFix (kX6_kept20 l D T F ((mnow x1.toNatClampNeg) - ((3 : Int32) * x2)) r10 hc) (va_cwS 1 hts gX6_staysBy_X6_kept20 rfl rfl rfl hd_X6_kept20 ⟨Nat.le_of_ble_eq_true rfl, Nat.le_of_ble_eq_true rfl⟩) (preS_ro va_nil hKK) rfl rfl hl.1 rfl (lv_room (Nat.le_of_ble_eq_true rfl)) dX6_staysBy_10 ⟨Nat.zero_le _, Nat.zero_le _⟩)) ?_
    refine lv_istore (lv' := [(4, .int r10), (0, .ref (am 0)), (1, .int x1), (2, .int x2), (3, .int x3)]) hx hb dX6_staysBy_13 hl (by decide) rfl (fun ls hl => ?_)
    refine lv_aload_n hx hb dX6_staysBy_15 rfl (lv_at hl 1 rfl) ?_
    refine va_get (D := D) (ci := 4) (C := RX6) (T := TX6) (N := 27) hx hb hts iX6 hown hK hP 0 wMo_0 rfl 7 (by decide) q2 (fun _ h9 => h9) rfl dX6_staysBy_16 ?_
    refine lv_iload_n hx hb dX6_staysBy_19 rfl (lv_at hl 2 rfl) ?_
    obtain ⟨hin6, h⟩ := ck_some h
    refine va_iald hx hb hK hP 6 0 wMo_6 rfl hin6 dX6_staysBy_20 ?_
    refine lv_iconst (v := (5 : Int32)) hx hb dX6_staysBy_21 (by decide) ?_
    refine lv_icmp_eq (tgt := 45) hx hb dX6_staysBy_22 (by decide) (fun c22 => ?_) (fun c22 => ?_)
    · have h := br_1 h c22
      refine lv_iconst (v := (0 : Int32)) hx hb dX6_staysBy_45 (by decide) ?_
      refine lv_istore (lv' := [(5, .int (0 : Int32)), (4, .int r10), (0, .ref (am 0)), (1, .int x1), (2, .int x2), (3, .int x3)]) hx hb dX6_staysBy_46 hl (by decide) rfl (fun ls hl => ?_)
      refine lv_iconst (v := (1 : Int32)) hx hb dX6_staysBy_48 (by decide) ?_
      refine lv_istore (lv' := [(6, .int (1 : Int32)), (5, .int (0 : Int32)), (4, .int r10), (0, .ref (am 0)), (1, .int x1), (2, .int x2), (3, .int x3)]) hx hb dX6_staysBy_49 hl (by decide) rfl (fun ls hl => ?_)
      refine lv_iconst (v := (0 : Int32)) hx hb dX6_staysBy_51 (by decide) ?_
      refine lv_istore (lv' := [(7, .int (0 : Int32)), (6, .int (1 : Int32)), (5, .int (0 : Int32)), (4, .int r10), (0, .ref (am 0)), (1, .int x1), (2, .int x2), (3, .int x3)]) hx hb dX6_staysBy_52 hl (by decide) rfl (fun ls hl => ?_)
      exact l54 x1 x3 (0 : Int32) F r10 (1 : Int32) (0 : Int32) h (Or.inr rfl) _ (lv_sub hl [4, 5, 7, 3, 2, 1, 0] rfl)
    · have h := br_0 h c22
      refine lv_aload_n hx hb dX6_staysBy_25 rfl (lv_at hl 1 rfl) ?_
      refine lv_iload_n hx hb dX6_staysBy_26 rfl (lv_at hl 2 rfl) ?_
      refine lv_aload_n hx hb dX6_staysBy_27 rfl (lv_at hl 1 rfl) ?_
      refine lv_aload_n hx hb dX6_staysBy_28 rfl (lv_at hl 1 rfl) ?_
      refine va_get (D := D) (ci := 4) (C := RX6) (T := TX6) (N := 27) hx hb hts iX6 hown hK hP 0 wMo_0 rfl 9 (by decide) q1 (fun _ h9 => h9) rfl dX6_staysBy_29 ?_
      obtain ⟨r32, hc, h⟩ := bd1_some h
      have hPc : va_P D vwCl (wMi T am (am 8) mguests mclause mdeeds masked mupper mlower mfinding mreadGuests misSight mat mnow) _ := my_subP sb_wMo_wMi_0_8 hP
      refine my_roi (va_Run.run (va_runV (As := [.ref (am 8)]) (rest := [.int x1, .ref (am 0)]) hFix (kX6_inside l D T F am (am 8) mguests mclause mdeeds masked mupper mlower mfinding mreadGuests misSight mat mnow r32 hc) (cwV 1 hts gX6_staysBy_X6_inside rfl rfl rfl ⟨rfl, hd_X6_inside⟩ ⟨Nat.le_of_ble_eq_true rfl, Nat.le_of_ble_eq_true rfl⟩) (preV_ro hPc hKK (va_recv hK hP (ci := 4) (q0 := 0) rfl wMo_0)) rfl rfl hl.1 rfl (lv_room (Nat.le_of_ble_eq_true rfl)) dX6_staysBy_32 ⟨Nat.zero_le _, Nat.zero_le _⟩)) ?_
      obtain ⟨r35, hc, h⟩ := bd1_some h
      have hPc : va_P D vwCl (wMs T am mguests mclause mdeeds masked mupper mlower mfinding mreadGuests misSight mat msees) _ := my_subP sb_wMo_wMs_0_7 hP
      refine my_roz (va_Run.run (va_runV (As := [.int x1, .int r32]) (rest := []) hFix (kX6_isSeen l D T F am mguests mclause mdeeds masked mupper mlower mfinding mreadGuests misSight mat msees x1 r32 r35 hc) (cwV 2 hts gX6_staysBy_X6_isSeen rfl rfl rfl ⟨rfl, hd_X6_isSeen⟩ ⟨Nat.le_of_ble_eq_true rfl, Nat.le_of_ble_eq_true rfl⟩) (preV_ro hPc hKK (va_recv hK hP (ci := 4) (q0 := 0) rfl wMo_0)) rfl rfl hl.1 rfl (lv_room (Nat.le_of_ble_eq_true rfl)) dX6_staysBy_35 ⟨Nat.zero_le _, Nat.zero_le _⟩)) (fun hb35 => ?_)
      refine lv_if_eq (tgt := 45) hx hb dX6_staysBy_38 (by decide) (fun c38 => ?_) (fun c38 => ?_)
      · have h := br_1 h c38
        refine lv_iconst (v := (0 : Int32)) hx hb dX6_staysBy_45 (by decide) ?_
        refine lv_istore (lv' := [(5, .int (0 : Int32)), (4, .int r10), (0, .ref (am 0)), (1, .int x1), (2, .int x2), (3, .int x3)]) hx hb dX6_staysBy_46 hl (by decide) rfl (fun ls hl => ?_)
        refine lv_iconst (v := (1 : Int32)) hx hb dX6_staysBy_48 (by decide) ?_
        refine lv_istore (lv' := [(6, .int (1 : Int32)), (5, .int (0 : Int32)), (4, .int r10), (0, .ref (am 0)), (1, .int x1), (2, .int x2), (3, .int x3)]) hx hb dX6_staysBy_49 hl (by decide) rfl (fun ls hl => ?_)
        refine lv_iconst (v := (0 : Int32)) hx hb dX6_staysBy_51 (by decide) ?_
        refine lv_istore (lv' := [(7, .int (0 : Int32)), (6, .int (1 : Int32)), (5, .int (0 : Int32)), (4, .int r10), (0, .ref (am 0)), (1, .int x1), (2, .int x2), (3, .int x3)]) hx hb dX6_staysBy_52 hl (by decide) rfl (fun ls hl => ?_)
        exact l54 x1 x3 (0 : Int32) F r10 (1 : Int32) (0 : Int32) h (Or.inr rfl) _ (lv_sub hl [4, 5, 7, 3, 2, 1, 0] rfl)
      · have h := br_0 h c38
        refine lv_iconst (v := (1 : Int32)) hx hb dX6_staysBy_41 (by decide) ?_
        refine lv_goto (tgt := 46) hx hb dX6_staysBy_42 (by decide) ?_
        refine lv_istore (lv' := [(5, .int (1 : Int32)), (4, .int r10), (0, .ref (am 0)), (1, .int x1), (2, .int x2), (3, .int x3)]) hx hb dX6_staysBy_46 hl (by decide) rfl (fun ls hl => ?_)
        refine lv_iconst (v := (1 : Int32)) hx hb dX6_staysBy_48 (by decide) ?_
        refine lv_istore (lv' := [(6, .int (1 : Int32)), (5, .int (1 : Int32)), (4, .int r10), (0, .ref (am 0)), (1, .int x1), (2, .int x2), (3, .int x3)]) hx hb dX6_staysBy_49 hl (by decide) rfl (fun ls hl => ?_)
        refine lv_iconst (v := (0 : Int32)) hx hb dX6_staysBy_51 (by decide) ?_
        refine lv_istore (lv' := [(7, .int (0 : Int32)), (6, .int (1 : Int32)), (5, .int (1 : Int32)), (4, .int r10), (0, .ref (am 0)), (1, .int x1), (2, .int x2), (3, .int x3)]) hx hb dX6_staysBy_52 hl (by decide) rfl (fun ls hl => ?_)
        exact l54 x1 x3 (1 : Int32) F r10 (1 : Int32) (0 : Int32) h (Or.inr rfl) _ (lv_sub hl [4, 5, 7, 3, 2, 1, 0] rfl)
  exact key _ (fun pc ls hd hb1 => W.zret hx hb hr (b01_n hb1) (fun t ht hW => ⟨_, rfl, ⟨rfl, hb1⟩, ht⟩) (fun q h => by cases h) hd)
set_option maxHeartbeats 4000000 in
set_option maxRecDepth 100000 in
theorem kX6_ices (l : Launch) (D : va_G) (T : Nat → ClassId) (F : Nat) (am : Nat → Nat) (mguests : Int32) (mclause : Int32) (mdeeds : Int32) (masked : Int32) (mupper : Int64) (mlower : Int64) (mfinding : Int32) (mreadGuests : Int32) (misSight : Int32) (mat : Int32) (mrowSizes : Nat → Int32) (mrows : Nat → Int32) (mtextSizes : Nat → Int32) (mtexts : Nat → Int32) (mdoes : Nat → Int32) (mkinds : Nat → Int32) (msees : Nat → Int32) (mnow : Nat → Int32) (mbefore : Nat → Int32) (mkeeps : Nat → Int32) (mkept : Nat → Int32) (mfindings : Nat → Int32) (mread : Nat → Int32) (maside : Nat → Int32) (msteps : Nat → Int32) (mtried : Nat → Int32) (mbest : Nat → Int32) (x1 : Int32) (r : Int32) (zmfinding : Int32) (zmfindings : Nat → Int32) (h : fX6_ices F mguests mclause mfinding mrowSizes mrows mdoes mkinds msees mnow mfindings x1 = some (r, zmfinding, zmfindings)) : ∀ sz : Nat, Met l yX6_ices wsX6_ices ({ frames := 3, cells := 0, slots := 0, locals := 73 } : Room) (va_Pc [.ref (am 0), .int x1] (fun U => U.heap.size = sz ∧ va_P D vwCl (wMo T am mguests mclause mdeeds masked mupper mlower mfinding mreadGuests misSight mat mrowSizes mrows mtextSizes mtexts mdoes mkinds msees mnow mbefore mkeeps mkept mfindings mread maside msteps mtried mbest) U.heap ∧ KK D T U ∧ va_D (fun _ => True) (wMo T am mguests mclause mdeeds masked mupper mlower mfinding mreadGuests misSight mat mrowSizes mrows mtextSizes mtexts mdoes mkinds msees mnow mbefore mkeeps mkept mfindings mread maside msteps mtried mbest))) (va_Qi (fun r' (_ : Unit) => r' = r) (fun _ t => va_P D vwCl (wMo T am mguests mclause mdeeds masked mupper mlower zmfinding mreadGuests misSight mat mrowSizes mrows mtextSizes mtexts mdoes mkinds msees mnow mbefore mkeeps mkept zmfindings mread maside msteps mtried mbest) t.heap ∧ va_D (va_A (wMo T am mguests mclause mdeeds masked mupper mlower mfinding mreadGuests misSight mat mrowSizes mrows mtextSizes mtexts mdoes mkinds msees mnow mbefore mkeeps mkept mfindings mread maside msteps mtried mbest) sz) (wMo T am mguests mclause mdeeds masked mupper mlower zmfinding mreadGuests misSight mat mrowSizes mrows mtextSizes mtexts mdoes mkinds msees mnow mbefore mkeeps mkept zmfindings mread maside msteps mtried mbest)) (va_A (wMo T am mguests mclause mdeeds masked mupper mlower mfinding mreadGuests misSight mat mrowSizes mrows mtextSizes mtexts mdoes mkinds msees mnow mbefore mkeeps mkept mfindings mread maside msteps mtried mbest) sz)) 0 0 (va_A (wMo T am mguests mclause mdeeds masked mupper mlower mfinding mreadGuests misSight mat mrowSizes mrows mtextSizes mtexts mdoes mkinds msees mnow mbefore mkeeps mkept mfindings mread maside msteps mtried mbest) sz) := by
  intro sz
  refine Met.ofW (cc := cX6_ices) (maxL := 6) (ret := some .int) (by decide) rfl ?_
  intro p e s m args below meth c s₁ B hml hv
  obtain ⟨ha, hsz, hP, hKK, hD0⟩ := hv
  have hx := B.exec
  have hb := B.bytes
  have hr := B.returns
  have hts := atoms_spec (ws := wsX6_ices) B.pre
  have hown : s.vm.findClass RX6 = some m.cls := findClass_of_methodNamed B.named
  have hlocks := B.notSynchronized
  have hK := hKK.1
  have hFix : CallFix p m c cX6_ices 6 s args wsX6_ices RX6 := ⟨hx, hb, hml, hown, hts⟩
  have q1 := hts _ (List.mem_of_getElem? (i := 1) (show wsX6_ices[1]? = some (Cond.fieldLink RX6 131 "PartyWillModel" "guests" "I") from rfl))
  have q2 := hts _ (List.mem_of_getElem? (i := 2) (show wsX6_ices[2]? = some (Cond.fieldLink RX6 31 "PartyWillModel" "now" "[I") from rfl))
  have iX6 : ∀ w ∈ u_ws RX6 TX6 27, w ∈ wsX6_ices := fun w h => List.mem_cons_of_mem _ (List.mem_append_right _ (h))
  subst hsz
  have hD := hD0.self (sz := s.heap.size)
  generalize hAe : va_A (wMo T am mguests mclause mdeeds masked mupper mlower mfinding mreadGuests misSight mat mrowSizes mrows mtextSizes mtexts mdoes mkinds msees mnow mbefore mkeeps mkept mfindings mread maside msteps mtried mbest) s.heap.size = A at hD ⊢
  have hA : ∀ q : Nat, s.heap.size ≤ q → A q := fun q h => by rw [← hAe]; exact Or.inr h
  have hS : va_S A s.heap s.heap [] := va_S.rf
  have hP : va_P D vwCl (wMo T am mguests mclause mdeeds masked mupper mlower mfinding mreadGuests misSight mat mrowSizes mrows mtextSizes mtexts mdoes mkinds msees mnow mbefore mkeeps mkept mfindings mread maside msteps mtried mbest) s.heap := hP
  obtain ⟨ls, hl, e0⟩ := my_entry (m := m) (n := 6) ha (Nat.le_of_ble_eq_true rfl)
  rw [e0]
  have hl : lv_has ls 6 [(0, .ref (am 0)), (1, .int x1)] := hl
  have key : ∀ Q : State → Prop, (∀ (H : Heap) (locs : List Loc) (pc : Nat) (ls : Array Slot), va_P D vwCl (wMo T am mguests mclause mdeeds masked mupper mlower zmfinding mreadGuests misSight mat mrowSizes mrows mtextSizes mtexts mdoes mkinds msees mnow mbefore mkeeps mkept zmfindings mread maside msteps mtried mbest) H → va_D A (wMo T am mguests mclause mdeeds masked mupper mlower zmfinding mreadGuests misSight mat mrowSizes mrows mtextSizes mtexts mdoes mkinds msees mnow mbefore mkeeps mkept zmfindings mread maside msteps mtried mbest) → va_S A s.heap H locs → decode cX6_ices pc = .ok (.ireturn, 1) → W p l e ({ frames := 3, cells := 0, slots := 0, locals := 73 } : Room) s m args below meth c H locs 0 0 Q (F0 m pc ls [.int r])) → W p l e ({ frames := 3, cells := 0, slots := 0, locals := 73 } : Room) s m args below meth c s.heap [] 0 0 Q (F0 m 0 ls []) := by
    intro Q hret
    skip
    have l36 : ∀ x1 : Int32, ∀ mfinding : Int32, ∀ mfindings : Nat → Int32, ∀ nu : Nat, ∀ x3 : Int32, ∀ x4 : Int32, fX6_ices_l36 F mguests mclause mrowSizes mrows mdoes mkinds msees mnow x1 mfinding mfindings nu x3 x4 = some (r, zmfinding, zmfindings) → ∀ (H : Heap) (locs : List Loc), va_P D vwCl (wMo T am mguests mclause mdeeds masked mupper mlower mfinding mreadGuests misSight mat mrowSizes mrows mtextSizes mtexts mdoes mkinds msees mnow mbefore mkeeps mkept mfindings mread maside msteps mtried mbest) H → va_D A (wMo T am mguests mclause mdeeds masked mupper mlower mfinding mreadGuests misSight mat mrowSizes mrows mtextSizes mtexts mdoes mkinds msees mnow mbefore mkeeps mkept mfindings mread maside msteps mtried mbest) → va_S A s.heap H locs → ∀ (ls : Array Slot), lv_has ls 6 [(0, .ref (am 0)), (1, .int x1), (3, .int x3), (4, .int x4)] → W p l e ({ frames := 3, cells := 0, slots := 0, locals := 73 } : Room) s m args below meth c H locs 0 0 Q (F0 m 36 ls []) := by
      intro x1 mfinding mfindings
      intro nu
      induction nu with
      | zero => intro x3 x4 h; exact none_some h
      | succ nu36 ih36 =>
        intro x3 x4 h H locs hP hD hS ls hl
        have n88 : ∀ x3 : Int32, ∀ x4 : Int32, ∀ x5 : Int32, fX6_ices_n88 F (fX6_ices_l36 F mguests mclause mrowSizes mrows mdoes mkinds msees mnow x1 mfinding mfindings nu36) mguests mclause mrowSizes mrows mdoes mkinds msees mnow x1 x3 x4 x5 mfinding mfindings = some (r, zmfinding, zmfindings) → ∀ (H : Heap) (locs : List Loc), va_P D vwCl (wMo T am mguests mclause mdeeds masked mupper mlower mfinding mreadGuests misSight mat mrowSizes mrows mtextSizes mtexts mdoes mkinds msees mnow mbefore mkeeps mkept mfindings mread maside msteps mtried mbest) H → va_D A (wMo T am mguests mclause mdeeds masked mupper mlower mfinding mreadGuests misSight mat mrowSizes mrows mtextSizes mtexts mdoes mkinds msees mnow mbefore mkeeps mkept mfindings mread maside msteps mtried mbest) → va_S A s.heap H locs → ∀ (ls : Array Slot), lv_has ls 6 [(0, .ref (am 0)), (1, .int x1), (3, .int x3), (4, .int x4), (5, .int x5)] → W p l e ({ frames := 3, cells := 0, slots := 0, locals := 73 } : Room) s m args below meth c H locs 0 0 Q (F0 m 88 ls []) := by
          intro x3 x4 x5 h H locs hP hD hS ls hl
          unfold fX6_ices_n88 at h
          refine lv_iload hx hb dX6_ices_88 (lv_at hl 4 rfl) ?_
          refine lv_bipush (v := (8 : Int32)) hx hb dX6_ices_90 (by decide) ?_
          refine lv_icmp_ne (tgt := 98) hx hb dX6_ices_92 (by decide) (fun c92 => ?_) (fun c92 => ?_)
          · have h := br_0 h c92
            refine lv_iload_n hx hb dX6_ices_98 rfl (lv_at hl 2 rfl) ?_
            refine lv_iload hx hb dX6_ices_99 (lv_at hl 4 rfl) ?_
            refine lv_iadd hx hb dX6_ices_101 ?_
            refine lv_istore_n (lv' := [(3, .int (x3 + x5)), (0, .ref (am 0)), (1, .int x1), (4, .int x4), (5, .int x5)]) hx hb dX6_ices_102 rfl hl (by decide) rfl (fun ls hl => ?_)
            refine lv_iinc (v := (x4 + (1 : Int32))) (lv' := [(4, .int (x4 + (1 : Int32))), (3, .int (x3 + x5)), (0, .ref (am 0)), (1, .int x1), (5, .int x5)]) hx hb dX6_ices_103 hl (k := 3) rfl rfl (by decide) rfl (fun ls hl => ?_)
            refine lv_goto (tgt := 36) hx hb dX6_ices_106 (by decide) ?_
            exact ih36 (x3 + x5) (x4 + (1 : Int32)) h _ _ hP hD hS _ (lv_sub hl [2, 3, 1, 0] rfl)
          · have h := br_1 h c92
            refine lv_bipush (v := (-9 : Int32)) hx hb dX6_ices_95 (by decide) ?_
            cases h
            exact hret _ _ _ _ hP hD hS dX6_ices_97
        have l63 : ∀ x3 : Int32, ∀ x4 : Int32, ∀ nu : Nat, ∀ x5 : Int32, fX6_ices_l63 F (fX6_ices_l36 F mguests mclause mrowSizes mrows mdoes mkinds msees mnow x1 mfinding mfindings nu36) mguests mclause mrowSizes mrows mdoes mkinds msees mnow x1 x3 x4 mfinding mfindings nu x5 = some (r, zmfinding, zmfindings) → ∀ (H : Heap) (locs : List Loc), va_P D vwCl (wMo T am mguests mclause mdeeds masked mupper mlower mfinding mreadGuests misSight mat mrowSizes mrows mtextSizes mtexts mdoes mkinds msees mnow mbefore mkeeps mkept mfindings mread maside msteps mtried mbest) H → va_D A (wMo T am mguests mclause mdeeds masked mupper mlower mfinding mreadGuests misSight mat mrowSizes mrows mtextSizes mtexts mdoes mkinds msees mnow mbefore mkeeps mkept mfindings mread maside msteps mtried mbest) → va_S A s.heap H locs → ∀ (ls : Array Slot), lv_has ls 6 [(0, .ref (am 0)), (1, .int x1), (3, .int x3), (4, .int x4), (5, .int x5)] → W p l e ({ frames := 3, cells := 0, slots := 0, locals := 73 } : Room) s m args below meth c H locs 0 0 Q (F0 m 63 ls []) := by
          intro x3 x4
          intro nu
          induction nu with
          | zero => intro x5 h; exact none_some h
          | succ nu63 ih63 =>
            intro x5 h H locs hP hD hS ls hl
            have h : fX6_ices_l63_b F (fX6_ices_l36 F mguests mclause mrowSizes mrows mdoes mkinds msees mnow x1 mfinding mfindings nu36) mguests mclause mrowSizes mrows mdoes mkinds msees mnow x1 x3 x4 mfinding mfindings (fX6_ices_l63 F (fX6_ices_l36 F mguests mclause mrowSizes mrows mdoes mkinds msees mnow x1 mfinding mfindings nu36) mguests mclause mrowSizes mrows mdoes mkinds msees mnow x1 x3 x4 mfinding mfindings nu63) x5 = some (r, zmfinding, zmfindings) := h
            unfold fX6_ices_l63_b at h
            refine lv_iload hx hb dX6_ices_63 (lv_at hl 4 rfl) ?_
            refine lv_bipush (v := (8 : Int32)) hx hb dX6_ices_65 (by decide) ?_
            refine lv_icmp_ge (tgt := 88) hx hb dX6_ices_67 (by decide) (fun c67 => ?_) (fun c67 => ?_)
            · have h := br_1 h c67
              exact n88 x3 x4 x5 h _ _ hP hD hS _ (lv_sub hl [0, 1, 2, 3, 4] rfl)
            · have h := br_0 h c67
              refine lv_aload_n hx hb dX6_ices_70 rfl (lv_at hl 0 rfl) ?_
              refine lv_iload hx hb dX6_ices_71 (lv_at hl 3 rfl) ?_
              refine lv_iload hx hb dX6_ices_73 (lv_at hl 4 rfl) ?_
              refine lv_iload_n hx hb dX6_ices_75 rfl (lv_at hl 1 rfl) ?_
              obtain ⟨r76, hc, h⟩ := bd1_some h
              refine my_roz (va_Run.run (va_runV (As := [.int x4, .int x5, .int x1]) (rest := []) hFix (kX6_staysBy l D T F am mguests mclause mdeeds masked mupper mlower mfinding mreadGuests misSight mat mrowSizes mrows mtextSizes mtexts mdoes mkinds msees mnow mbefore mkeeps mkept mfindings mread maside msteps mtried mbest x4 x5 x1 r76 hc) (cwV 3 hts gX6_ices_X6_staysBy rfl rfl rfl ⟨rfl, hd_X6_staysBy⟩ ⟨Nat.le_of_ble_eq_true rfl, Nat.le_of_ble_eq_true rfl⟩) (preV_ro hP hKK (va_recv hK hP (ci := 4) (q0 := 0) rfl wMo_0)) rfl rfl hl.1 rfl (lv_room (Nat.le_of_ble_eq_true rfl)) dX6_ices_76 ⟨Nat.zero_le _, Nat.zero_le _⟩)) (fun hb76 => ?_)
              refine lv_if_ne (tgt := 88) hx hb dX6_ices_79 (by decide) (fun c79 => ?_) (fun c79 => ?_)
              · have h := br_0 h c79
                exact n88 x3 x4 x5 h _ _ hP hD hS _ (lv_sub hl [0, 1, 2, 3, 4] rfl)
              · have h := br_1 h c79
                refine lv_iinc (v := (x5 + (1 : Int32))) (lv' := [(5, .int (x5 + (1 : Int32))), (0, .ref (am 0)), (1, .int x1), (3, .int x3), (4, .int x4)]) hx hb dX6_ices_82 hl (k := 4) rfl rfl (by decide) rfl (fun ls hl => ?_)
                refine lv_goto (tgt := 63) hx hb dX6_ices_85 (by decide) ?_
                exact ih63 (x5 + (1 : Int32)) h _ _ hP hD hS _ (lv_sub hl [1, 2, 3, 4, 0] rfl)
        have h : fX6_ices_l36_b F mguests mclause mrowSizes mrows mdoes mkinds msees mnow x1 mfinding mfindings (fX6_ices_l36 F mguests mclause mrowSizes mrows mdoes mkinds msees mnow x1 mfinding mfindings nu36) x3 x4 = some (r, zmfinding, zmfindings) := h
        unfold fX6_ices_l36_b at h
        refine lv_iload hx hb dX6_ices_36 (lv_at hl 3 rfl) ?_
        refine lv_aload_n hx hb dX6_ices_38 rfl (lv_at hl 0 rfl) ?_
        refine va_get (D := D) (ci := 4) (C := RX6) (T := TX6) (N := 27) hx hb hts iX6 hown hK hP 0 wMo_0 rfl 4 (by decide) q1 (fun _ h9 => h9) rfl dX6_ices_39 ?_
        refine lv_icmp_ge (tgt := 109) hx hb dX6_ices_42 (by decide) (fun c42 => ?_) (fun c42 => ?_)
        · have h := br_1 h c42
          refine lv_iload_n hx hb dX6_ices_109 rfl (lv_at hl 2 rfl) ?_
          cases h
          exact hret _ _ _ _ hP hD hS dX6_ices_110
        · have h := br_0 h c42
          refine lv_aload_n hx hb dX6_ices_45 rfl (lv_at hl 0 rfl) ?_
          refine va_get (D := D) (ci := 4) (C := RX6) (T := TX6) (N := 27) hx hb hts iX6 hown hK hP 0 wMo_0 rfl 9 (by decide) q2 (fun _ h9 => h9) rfl dX6_ices_46 ?_
          refine lv_bipush (v := (6 : Int32)) hx hb dX6_ices_49 (by decide) ?_
          refine va_iald hx hb hK hP 8 0 wMo_8 rfl (show ¬ ((6 : Int32) < 0 ∨ 7 ≤ (6 : Int32).toNatClampNeg) by decide) dX6_ices_51 ?_
          refine lv_iload hx hb dX6_ices_52 (lv_at hl 3 rfl) ?_
          obtain ⟨r54, hc, h⟩ := bd1_some h
          refine my_roz (va_Run.run (va_runS (As := [.int (mnow (6 : Int32).toNatClampNeg), .int x4]) (rest := []) hFix (kX6_has l D T F (mnow (6 : Int32).toNatClampNeg) x4 r54 hc) (va_cwS 2 hts gX6_ices_X6_has rfl rfl rfl hd_X6_has ⟨Nat.le_of_ble_eq_true rfl, Nat.le_of_ble_eq_true rfl⟩) (preS_ro va_nil hKK) rfl rfl hl.1 rfl (lv_room (Nat.le_of_ble_eq_true rfl)) dX6_ices_54 ⟨Nat.zero_le _, Nat.zero_le _⟩)) (fun hb54 => ?_)
          refine lv_if_ne (tgt := 103) hx hb dX6_ices_57 (by decide) (fun c57 => ?_) (fun c57 => ?_)
          · have h := br_0 h c57
            refine lv_iinc (v := (x4 + (1 : Int32))) (lv' := [(4, .int (x4 + (1 : Int32))), (0, .ref (am 0)), (1, .int x1), (3, .int x3)]) hx hb dX6_ices_103 hl (k := 3) rfl rfl (by decide) rfl (fun ls hl => ?_)
            refine lv_goto (tgt := 36) hx hb dX6_ices_106 (by decide) ?_
            exact ih36 x3 (x4 + (1 : Int32)) h _ _ hP hD hS _ (lv_sub hl [1, 2, 3, 0] rfl)
          · have h := br_1 h c57
            refine lv_iconst (v := (0 : Int32)) hx hb dX6_ices_60 (by decide) ?_
            refine lv_istore (lv' := [(5, .int (0 : Int32)), (0, .ref (am 0)), (1, .int x1), (3, .int x3), (4, .int x4)]) hx hb dX6_ices_61 hl (by decide) rfl (fun ls hl => ?_)
            exact l63 x3 x4 F (0 : Int32) h _ _ hP hD hS _ (lv_sub hl [1, 2, 3, 4, 0] rfl)
    unfold fX6_ices at h
    refine lv_iload_n hx hb dX6_ices_0 rfl (lv_at hl 1 rfl) ?_
    obtain ⟨r1, hc, h⟩ := bd1_some h
    refine my_roz (va_Run.run (va_runS (As := [.int x1]) (rest := []) hFix (kX6_isRow l D T F x1 r1 hc) (va_cwS 1 hts gX6_ices_X6_isRow rfl rfl rfl hd_X6_isRow ⟨Nat.le_of_ble_eq_true rfl, Nat.le_of_ble_eq_true rfl⟩) (preS_ro va_nil hKK) rfl rfl hl.1 rfl (lv_room (Nat.le_of_ble_eq_true rfl)) dX6_ices_1 ⟨Nat.zero_le _, Nat.zero_le _⟩)) (fun hb1 => ?_)
    refine lv_if_ne (tgt := 9) hx hb dX6_ices_4 (by decide) (fun c4 => ?_) (fun c4 => ?_)
    · have h := br_0 h c4
      refine lv_aload_n hx hb dX6_ices_9 rfl (lv_at hl 0 rfl) ?_
      refine va_get (D := D) (ci := 4) (C := RX6) (T := TX6) (N := 27) hx hb hts iX6 hown hK hP 0 wMo_0 rfl 4 (by decide) q1 (fun _ h9 => h9) rfl dX6_ices_10 ?_
      refine lv_if_ne (tgt := 19) hx hb dX6_ices_13 (by decide) (fun c13 => ?_) (fun c13 => ?_)
      · have h := br_0 h c13
        refine lv_aload_n hx hb dX6_ices_19 rfl (lv_at hl 0 rfl) ?_
        refine lv_iload_n hx hb dX6_ices_20 rfl (lv_at hl 1 rfl) ?_
        obtain ⟨r21, w21_mfinding, w21_mfindings, hc, h⟩ := bd3_some h
        have hFc := my_freeS hD hS hA
        refine my_rwi (va_runV (As := [.int x1]) (rest := []) hFix (kX6_programme l D T F am mguests mclause mdeeds masked mupper mlower mfinding mreadGuests misSight mat mrowSizes mrows mtextSizes mtexts mdoes mkinds msees mnow mbefore mkeeps mkept mfindings mread maside msteps mtried mbest x1 r21 w21_mfinding w21_mfindings hc _) (cwV 1 hts gX6_ices_X6_programme rfl rfl rfl ⟨rfl, hd_X6_programme⟩ ⟨Nat.le_of_ble_eq_true rfl, Nat.le_of_ble_eq_true rfl⟩) (preV_rw hP hKK hD (va_recv hK hP (ci := 4) (q0 := 0) rfl wMo_0)) rfl rfl hl.1 rfl (lv_room (Nat.le_of_ble_eq_true rfl)) dX6_ices_21 ⟨Nat.zero_le _, Nat.zero_le _⟩) hS hFc (fun H1 locs hP1 hD1 hz1 hkk hS => ?_)
        have hP : va_P D vwCl (wMo T am mguests mclause mdeeds masked mupper mlower w21_mfinding mreadGuests misSight mat mrowSizes mrows mtextSizes mtexts mdoes mkinds msees mnow mbefore mkeeps mkept w21_mfindings mread maside msteps mtried mbest) H1 := hP1
        have hD : va_D A (wMo T am mguests mclause mdeeds masked mupper mlower w21_mfinding mreadGuests misSight mat mrowSizes mrows mtextSizes mtexts mdoes mkinds msees mnow mbefore mkeeps mkept w21_mfindings mread maside msteps mtried mbest) := hD1.weaken (fun _ q _ h => hFc q.1 h)
        generalize H1 = H at hP hS ⊢
        refine lv_istore_n (lv' := [(2, .int r21), (0, .ref (am 0)), (1, .int x1)]) hx hb dX6_ices_24 rfl hl (by decide) rfl (fun ls hl => ?_)
        refine lv_iload_n hx hb dX6_ices_25 rfl (lv_at hl 0 rfl) ?_
        refine lv_if_eq (tgt := 31) hx hb dX6_ices_26 (by decide) (fun c26 => ?_) (fun c26 => ?_)
        · have h := br_1 h c26
          refine lv_iconst (v := (0 : Int32)) hx hb dX6_ices_31 (by decide) ?_
          refine lv_istore_n (lv' := [(3, .int (0 : Int32)), (2, .int r21), (0, .ref (am 0)), (1, .int x1)]) hx hb dX6_ices_32 rfl hl (by decide) rfl (fun ls hl => ?_)
          refine lv_iconst (v := (0 : Int32)) hx hb dX6_ices_33 (by decide) ?_
          refine lv_istore (lv' := [(4, .int (0 : Int32)), (3, .int (0 : Int32)), (2, .int r21), (0, .ref (am 0)), (1, .int x1)]) hx hb dX6_ices_34 hl (by decide) rfl (fun ls hl => ?_)
          exact l36 x1 w21_mfinding w21_mfindings F (0 : Int32) (0 : Int32) h _ _ hP hD hS _ (lv_sub hl [3, 4, 1, 0] rfl)
        · have h := br_0 h c26
          refine lv_iload_n hx hb dX6_ices_29 rfl (lv_at hl 0 rfl) ?_
          cases h
          exact hret _ _ _ _ hP hD hS dX6_ices_30
      · have h := br_1 h c13
        refine lv_bipush (v := (-4 : Int32)) hx hb dX6_ices_16 (by decide) ?_
        cases h
        exact hret _ _ _ _ hP hD hS dX6_ices_18
    · have h := br_1 h c4
      refine lv_iconst (v := (-1 : Int32)) hx hb dX6_ices_7 (by decide) ?_
      cases h
      exact hret _ _ _ _ hP hD hS dX6_ices_8
  exact key _ (fun H locs pc ls hP hD hS hd => W.iret hx hb hr (fun t ht hW => ⟨⟨_, (), rfl, rfl, by show _ ∧ _; rw [ht]; exact ⟨hP, hD⟩⟩, hS.F ht⟩) hS.2.2 hd)
