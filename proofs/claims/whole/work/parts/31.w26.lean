set_option maxHeartbeats 4000000 in
set_option maxRecDepth 100000 in
theorem kX6_undo (l : Launch) (D : va_G) (T : Nat → ClassId) (F : Nat) (am : Nat → Nat) (mguests : Int32) (mclause : Int32) (mdeeds : Int32) (masked : Int32) (mupper : Int64) (mlower : Int64) (mfinding : Int32) (mreadGuests : Int32) (misSight : Int32) (mat : Int32) (mrowSizes : Nat → Int32) (mrows : Nat → Int32) (mtextSizes : Nat → Int32) (mtexts : Nat → Int32) (mdoes : Nat → Int32) (mkinds : Nat → Int32) (msees : Nat → Int32) (mnow : Nat → Int32) (mbefore : Nat → Int32) (mkeeps : Nat → Int32) (mkept : Nat → Int32) (mfindings : Nat → Int32) (mread : Nat → Int32) (maside : Nat → Int32) (msteps : Nat → Int32) (mtried : Nat → Int32) (mbest : Nat → Int32) (x1 : Int32) (r : Int32) (zmdeeds : Int32) (zmnow : Nat → Int32) (h : fX6_undo F mdeeds mnow mbefore x1 = some (r, zmdeeds, zmnow)) : ∀ sz : Nat, Met l yX6_undo wsX6_undo ({ frames := 1, cells := 0, slots := 0, locals := 25 } : Room) (va_Pc [.ref (am 0), .int x1] (fun U => U.heap.size = sz ∧ va_P D vwCl (wMo T am mguests mclause mdeeds masked mupper mlower mfinding mreadGuests misSight mat mrowSizes mrows mtextSizes mtexts mdoes mkinds msees mnow mbefore mkeeps mkept mfindings mread maside msteps mtried mbest) U.heap ∧ KK D T U ∧ va_D (fun _ => True) (wMo T am mguests mclause mdeeds masked mupper mlower mfinding mreadGuests misSight mat mrowSizes mrows mtextSizes mtexts mdoes mkinds msees mnow mbefore mkeeps mkept mfindings mread maside msteps mtried mbest))) (va_Qi (fun r' (_ : Unit) => r' = r) (fun _ t => va_P D vwCl (wMo T am mguests mclause zmdeeds masked mupper mlower mfinding mreadGuests misSight mat mrowSizes mrows mtextSizes mtexts mdoes mkinds msees zmnow mbefore mkeeps mkept mfindings mread maside msteps mtried mbest) t.heap ∧ va_D (va_A (wMo T am mguests mclause mdeeds masked mupper mlower mfinding mreadGuests misSight mat mrowSizes mrows mtextSizes mtexts mdoes mkinds msees mnow mbefore mkeeps mkept mfindings mread maside msteps mtried mbest) sz) (wMo T am mguests mclause zmdeeds masked mupper mlower mfinding mreadGuests misSight mat mrowSizes mrows mtextSizes mtexts mdoes mkinds msees zmnow mbefore mkeeps mkept mfindings mread maside msteps mtried mbest)) (va_A (wMo T am mguests mclause mdeeds masked mupper mlower mfinding mreadGuests misSight mat mrowSizes mrows mtextSizes mtexts mdoes mkinds msees mnow mbefore mkeeps mkept mfindings mread maside msteps mtried mbest) sz)) 0 0 (va_A (wMo T am mguests mclause mdeeds masked mupper mlower mfinding mreadGuests misSight mat mrowSizes mrows mtextSizes mtexts mdoes mkinds msees mnow mbefore mkeeps mkept mfindings mread maside msteps mtried mbest) sz) := by
  intro sz
  refine Met.ofW (cc := cX6_undo) (maxL := 3) (ret := some .int) (by decide) rfl ?_
  intro p e s m args below meth c s₁ B hml hv
  obtain ⟨ha, hsz, hP, hKK, hD0⟩ := hv
  have hx := B.exec
  have hb := B.bytes
  have hr := B.returns
  have hts := atoms_spec (ws := wsX6_undo) B.pre
  have hown : s.vm.findClass RX6 = some m.cls := findClass_of_methodNamed B.named
  have hlocks := B.notSynchronized
  have hK := hKK.1
  have hFix : CallFix p m c cX6_undo 3 s args wsX6_undo RX6 := ⟨hx, hb, hml, hown, hts⟩
  have q1 := hts _ (List.mem_of_getElem? (i := 1) (show wsX6_undo[1]? = some (Cond.fieldLink RX6 137 "PartyWillModel" "deeds" "I") from rfl))
  have q2 := hts _ (List.mem_of_getElem? (i := 2) (show wsX6_undo[2]? = some (Cond.fieldLink RX6 34 "PartyWillModel" "before" "[I") from rfl))
  have q3 := hts _ (List.mem_of_getElem? (i := 3) (show wsX6_undo[3]? = some (Cond.fieldLink RX6 31 "PartyWillModel" "now" "[I") from rfl))
  have iX6 : ∀ w ∈ u_ws RX6 TX6 27, w ∈ wsX6_undo := fun w h => List.mem_cons_of_mem _ (List.mem_append_right _ (h))
  subst hsz
  have hD := hD0.self (sz := s.heap.size)
  generalize hAe : va_A (wMo T am mguests mclause mdeeds masked mupper mlower mfinding mreadGuests misSight mat mrowSizes mrows mtextSizes mtexts mdoes mkinds msees mnow mbefore mkeeps mkept mfindings mread maside msteps mtried mbest) s.heap.size = A at hD ⊢
  have hA : ∀ q : Nat, s.heap.size ≤ q → A q := fun q h => by rw [← hAe]; exact Or.inr h
  have hS : va_S A s.heap s.heap [] := va_S.rf
  have hP : va_P D vwCl (wMo T am mguests mclause mdeeds masked mupper mlower mfinding mreadGuests misSight mat mrowSizes mrows mtextSizes mtexts mdoes mkinds msees mnow mbefore mkeeps mkept mfindings mread maside msteps mtried mbest) s.heap := hP
  obtain ⟨ls, hl, e0⟩ := my_entry (m := m) (n := 3) ha (Nat.le_of_ble_eq_true rfl)
  rw [e0]
  have hl : lv_has ls 3 [(0, .ref (am 0)), (1, .int x1)] := hl
  have key : ∀ Q : State → Prop, (∀ (H : Heap) (locs : List Loc) (pc : Nat) (ls : Array Slot), va_P D vwCl (wMo T am mguests mclause zmdeeds masked mupper mlower mfinding mreadGuests misSight mat mrowSizes mrows mtextSizes mtexts mdoes mkinds msees zmnow mbefore mkeeps mkept mfindings mread maside msteps mtried mbest) H → va_D A (wMo T am mguests mclause zmdeeds masked mupper mlower mfinding mreadGuests misSight mat mrowSizes mrows mtextSizes mtexts mdoes mkinds msees zmnow mbefore mkeeps mkept mfindings mread maside msteps mtried mbest) → va_S A s.heap H locs → decode cX6_undo pc = .ok (.ireturn, 1) → W p l e ({ frames := 1, cells := 0, slots := 0, locals := 25 } : Room) s m args below meth c H locs 0 0 Q (F0 m pc ls [.int r])) → W p l e ({ frames := 1, cells := 0, slots := 0, locals := 25 } : Room) s m args below meth c s.heap [] 0 0 Q (F0 m 0 ls []) := by
    intro Q hret
    skip
    unfold fX6_undo at h
    refine lv_iload_n hx hb dX6_undo_0 rfl (lv_at hl 1 rfl) ?_
    refine lv_i2l (v := (x1.toInt64)) hx hb dX6_undo_1 rfl ?_
    refine lv_lconst (v := (0 : Int64)) hx hb dX6_undo_2 (by decide) ?_
    refine lv_aload_n hx hb dX6_undo_3 rfl (lv_at hl 0 rfl) ?_
    refine va_get (D := D) (ci := 4) (C := RX6) (T := TX6) (N := 27) hx hb hts iX6 hown hK hP 0 wMo_0 rfl 10 (by decide) q1 (fun _ h9 => h9) rfl dX6_undo_4 ?_
    refine lv_i2l (v := (mdeeds.toInt64)) hx hb dX6_undo_7 rfl ?_
    obtain ⟨r8, hc, h⟩ := bd1_some h
    refine my_roz (va_Run.run (va_runS (As := [.long (x1.toInt64), .long (0 : Int64), .long (mdeeds.toInt64)]) (rest := []) hFix (kX6_in l D T F (x1.toInt64) (0 : Int64) (mdeeds.toInt64) r8 hc) (va_cwS 3 hts gX6_undo_X6_in rfl rfl rfl hd_X6_in ⟨Nat.le_of_ble_eq_true rfl, Nat.le_of_ble_eq_true rfl⟩) (preS_ro va_nil hKK) rfl rfl hl.1 rfl (lv_room (Nat.le_of_ble_eq_true rfl)) dX6_undo_8 ⟨Nat.zero_le _, Nat.zero_le _⟩)) (fun hb8 => ?_)
    refine lv_if_ne (tgt := 16) hx hb dX6_undo_11 (by decide) (fun c11 => ?_) (fun c11 => ?_)
    · have h := br_0 h c11
      refine lv_aload_n hx hb dX6_undo_16 rfl (lv_at hl 0 rfl) ?_
      refine va_get (D := D) (ci := 4) (C := RX6) (T := TX6) (N := 27) hx hb hts iX6 hown hK hP 0 wMo_0 rfl 10 (by decide) q1 (fun _ h9 => h9) rfl dX6_undo_17 ?_
      refine lv_iload_n hx hb dX6_undo_20 rfl (lv_at hl 1 rfl) ?_
      refine lv_isub hx hb dX6_undo_21 ?_
      refine lv_istore_n (lv' := [(2, .int (mdeeds - x1)), (0, .ref (am 0)), (1, .int x1)]) hx hb dX6_undo_22 rfl hl (by decide) rfl (fun ls hl => ?_)
      refine lv_iload_n hx hb dX6_undo_23 rfl (lv_at hl 0 rfl) ?_
      refine lv_if_le (tgt := 45) hx hb dX6_undo_24 (by decide) (fun c24 => ?_) (fun c24 => ?_)
      · have h := br_1 h c24
        refine lv_aload_n hx hb dX6_undo_45 rfl (lv_at hl 1 rfl) ?_
        refine lv_iload_n hx hb dX6_undo_46 rfl (lv_at hl 2 rfl) ?_
        refine va_put (D := D) (ci := 4) (v := .int x1) (ty := .int) (C := RX6) (T := TX6) (N := 27) hx hb hts iX6 tyX6 tyX6_ok nmX6 hown hK hP hD hS 0 wMo_0 rfl 10 (by decide) q1 (fun _ h9 => h9) rfl (by decide +kernel) rfl rfl (Nat.le_of_ble_eq_true rfl) dX6_undo_47 (fun H locs hP hD hS => ?_)
        have hP : va_P D vwCl (wMo T am mguests mclause x1 masked mupper mlower mfinding mreadGuests misSight mat mrowSizes mrows mtextSizes mtexts mdoes mkinds msees mnow mbefore mkeeps mkept mfindings mread maside msteps mtried mbest) H := hP
        have hD : va_D A (wMo T am mguests mclause x1 masked mupper mlower mfinding mreadGuests misSight mat mrowSizes mrows mtextSizes mtexts mdoes mkinds msees mnow mbefore mkeeps mkept mfindings mread maside msteps mtried mbest) := hD
        refine lv_iload_n hx hb dX6_undo_50 rfl (lv_at hl 0 rfl) ?_
        cases h
        exact hret _ _ _ _ hP hD hS dX6_undo_51
      · have h := br_0 h c24
        refine lv_aload_n hx hb dX6_undo_27 rfl (lv_at hl 1 rfl) ?_
        refine va_get (D := D) (ci := 4) (C := RX6) (T := TX6) (N := 27) hx hb hts iX6 hown hK hP 0 wMo_0 rfl 11 (by decide) q2 (fun _ h9 => h9) rfl dX6_undo_28 ?_
        refine lv_bipush (v := (7 : Int32)) hx hb dX6_undo_31 (by decide) ?_
        refine lv_iload_n hx hb dX6_undo_33 rfl (lv_at hl 2 rfl) ?_
        refine lv_imul hx hb dX6_undo_34 ?_
        refine lv_aload_n hx hb dX6_undo_35 rfl (lv_at hl 1 rfl) ?_
        refine va_get (D := D) (ci := 4) (C := RX6) (T := TX6) (N := 27) hx hb hts iX6 hown hK hP 0 wMo_0 rfl 9 (by decide) q3 (fun _ h9 => h9) rfl dX6_undo_36 ?_
        refine lv_iconst (v := (0 : Int32)) hx hb dX6_undo_39 (by decide) ?_
        refine lv_bipush (v := (7 : Int32)) hx hb dX6_undo_40 (by decide) ?_
        obtain ⟨w42_f2, hc, h⟩ := bd1_some h
        have hPc : va_P D vwCl (wA2 T (am 9) (am 8) 280 7 mbefore mnow) _ := my_subP sb_wMo_wA2_9_8 hP
        have hDc := hD.sub [9, 8] (by decide) sb_wMo_wA2_9_8
        have hFc := va_free hD hS hA [9, 8] sb_wMo_wA2_9_8
        refine my_rwv (va_runS (As := [.ref (am 9), .int ((7 : Int32) * x1), .ref (am 8), .int (0 : Int32), .int (7 : Int32)]) (rest := []) hFix (kX6_copies l D T F (am 9) (am 8) 280 7 mbefore mnow ((7 : Int32) * x1) (0 : Int32) (7 : Int32) w42_f2 hc _) (va_cwS 5 hts gX6_undo_X6_copies rfl rfl rfl hd_X6_copies ⟨Nat.le_of_ble_eq_true rfl, Nat.le_of_ble_eq_true rfl⟩) (preS_rw hPc hKK hDc) rfl rfl hl.1 rfl (lv_room (Nat.le_of_ble_eq_true rfl)) dX6_undo_42 ⟨Nat.zero_le _, Nat.zero_le _⟩) hS hFc (fun H1 locs hP1 hD1 hz1 hkk hS => ?_)
        obtain ⟨hP, hD⟩ := my_joinS hP hD (by decide) sb_wMo_wA2_9_8 (by rfl) hkk hFc hP1 hD1
        rw [st_wMo_wA2_9_8_copies] at hP hD
        generalize H1 = H at hP hS ⊢
        refine lv_aload_n hx hb dX6_undo_45 rfl (lv_at hl 1 rfl) ?_
        refine lv_iload_n hx hb dX6_undo_46 rfl (lv_at hl 2 rfl) ?_
        refine va_put (D := D) (ci := 4) (v := .int x1) (ty := .int) (C := RX6) (T := TX6) (N := 27) hx hb hts iX6 tyX6 tyX6_ok nmX6 hown hK hP hD hS 0 wMo_0 rfl 10 (by decide) q1 (fun _ h9 => h9) rfl (by decide +kernel) rfl rfl (Nat.le_of_ble_eq_true rfl) dX6_undo_47 (fun H locs hP hD hS => ?_)
        have hP : va_P D vwCl (wMo T am mguests mclause x1 masked mupper mlower mfinding mreadGuests misSight mat mrowSizes mrows mtextSizes mtexts mdoes mkinds msees w42_f2 mbefore mkeeps mkept mfindings mread maside msteps mtried mbest) H := hP
        have hD : va_D A (wMo T am mguests mclause x1 masked mupper mlower mfinding mreadGuests misSight mat mrowSizes mrows mtextSizes mtexts mdoes mkinds msees w42_f2 mbefore mkeeps mkept mfindings mread maside msteps mtried mbest) := hD
        refine lv_iload_n hx hb dX6_undo_50 rfl (lv_at hl 0 rfl) ?_
        cases h
        exact hret _ _ _ _ hP hD hS dX6_undo_51
    · have h := br_1 h c11
      refine lv_iconst (v := (-1 : Int32)) hx hb dX6_undo_14 (by decide) ?_
      cases h
      exact hret _ _ _ _ hP hD hS dX6_undo_15
  exact key _ (fun H locs pc ls hP hD hS hd => W.iret hx hb hr (fun t ht hW => ⟨⟨_, (), rfl, rfl, by show _ ∧ _; rw [ht]; exact ⟨hP, hD⟩⟩, hS.F ht⟩) hS.2.2 hd)
set_option maxHeartbeats 4000000 in
set_option maxRecDepth 100000 in
theorem kX6_keep (l : Launch) (D : va_G) (T : Nat → ClassId) (F : Nat) (am : Nat → Nat) (mguests : Int32) (mclause : Int32) (mdeeds : Int32) (masked : Int32) (mupper : Int64) (mlower : Int64) (mfinding : Int32) (mreadGuests : Int32) (misSight : Int32) (mat : Int32) (mrowSizes : Nat → Int32) (mrows : Nat → Int32) (mtextSizes : Nat → Int32) (mtexts : Nat → Int32) (mdoes : Nat → Int32) (mkinds : Nat → Int32) (msees : Nat → Int32) (mnow : Nat → Int32) (mbefore : Nat → Int32) (mkeeps : Nat → Int32) (mkept : Nat → Int32) (mfindings : Nat → Int32) (mread : Nat → Int32) (maside : Nat → Int32) (msteps : Nat → Int32) (mtried : Nat → Int32) (mbest : Nat → Int32) (x1 : Int32) (r : Int32) (zmkeeps : Nat → Int32) (zmkept : Nat → Int32) (h : fX6_keep F mguests mdeeds mnow mbefore mkeeps mkept x1 = some (r, zmkeeps, zmkept)) : ∀ sz : Nat, Met l yX6_keep wsX6_keep ({ frames := 1, cells := 0, slots := 0, locals := 25 } : Room) (va_Pc [.ref (am 0), .int x1] (fun U => U.heap.size = sz ∧ va_P D vwCl (wMo T am mguests mclause mdeeds masked mupper mlower mfinding mreadGuests misSight mat mrowSizes mrows mtextSizes mtexts mdoes mkinds msees mnow mbefore mkeeps mkept mfindings mread maside msteps mtried mbest) U.heap ∧ KK D T U ∧ va_D (fun _ => True) (wMo T am mguests mclause mdeeds masked mupper mlower mfinding mreadGuests misSight mat mrowSizes mrows mtextSizes mtexts mdoes mkinds msees mnow mbefore mkeeps mkept mfindings mread maside msteps mtried mbest))) (va_Qi (fun r' (_ : Unit) => r' = r) (fun _ t => va_P D vwCl (wMo T am mguests mclause mdeeds masked mupper mlower mfinding mreadGuests misSight mat mrowSizes mrows mtextSizes mtexts mdoes mkinds msees mnow mbefore zmkeeps zmkept mfindings mread maside msteps mtried mbest) t.heap ∧ va_D (va_A (wMo T am mguests mclause mdeeds masked mupper mlower mfinding mreadGuests misSight mat mrowSizes mrows mtextSizes mtexts mdoes mkinds msees mnow mbefore mkeeps mkept mfindings mread maside msteps mtried mbest) sz) (wMo T am mguests mclause mdeeds masked mupper mlower mfinding mreadGuests misSight mat mrowSizes mrows mtextSizes mtexts mdoes mkinds msees mnow mbefore zmkeeps zmkept mfindings mread maside msteps mtried mbest)) (va_A (wMo T am mguests mclause mdeeds masked mupper mlower mfinding mreadGuests misSight mat mrowSizes mrows mtextSizes mtexts mdoes mkinds msees mnow mbefore mkeeps mkept mfindings mread maside msteps mtried mbest) sz)) 0 0 (va_A (wMo T am mguests mclause mdeeds masked mupper mlower mfinding mreadGuests misSight mat mrowSizes mrows mtextSizes mtexts mdoes mkinds msees mnow mbefore mkeeps mkept mfindings mread maside msteps mtried mbest) sz) := by
  intro sz
  refine Met.ofW (cc := cX6_keep) (maxL := 2) (ret := some .int) (by decide) rfl ?_
  intro p e s m args below meth c s₁ B hml hv
  obtain ⟨ha, hsz, hP, hKK, hD0⟩ := hv
  have hx := B.exec
  have hb := B.bytes
  have hr := B.returns
  have hts := atoms_spec (ws := wsX6_keep) B.pre
  have hown : s.vm.findClass RX6 = some m.cls := findClass_of_methodNamed B.named
  have hlocks := B.notSynchronized
  have hK := hKK.1
  have hFix : CallFix p m c cX6_keep 2 s args wsX6_keep RX6 := ⟨hx, hb, hml, hown, hts⟩
  have q1 := hts _ (List.mem_of_getElem? (i := 1) (show wsX6_keep[1]? = some (Cond.constantLong RX6 202 (2)) from rfl))
  have q2 := hts _ (List.mem_of_getElem? (i := 2) (show wsX6_keep[2]? = some (Cond.fieldLink RX6 131 "PartyWillModel" "guests" "I") from rfl))
  have q3 := hts _ (List.mem_of_getElem? (i := 3) (show wsX6_keep[3]? = some (Cond.fieldLink RX6 31 "PartyWillModel" "now" "[I") from rfl))
  have q4 := hts _ (List.mem_of_getElem? (i := 4) (show wsX6_keep[4]? = some (Cond.fieldLink RX6 37 "PartyWillModel" "keeps" "[I") from rfl))
  have q5 := hts _ (List.mem_of_getElem? (i := 5) (show wsX6_keep[5]? = some (Cond.fieldLink RX6 137 "PartyWillModel" "deeds" "I") from rfl))
  have q6 := hts _ (List.mem_of_getElem? (i := 6) (show wsX6_keep[6]? = some (Cond.fieldLink RX6 34 "PartyWillModel" "before" "[I") from rfl))
  have q7 := hts _ (List.mem_of_getElem? (i := 7) (show wsX6_keep[7]? = some (Cond.fieldLink RX6 40 "PartyWillModel" "kept" "[Z") from rfl))
  have iX6 : ∀ w ∈ u_ws RX6 TX6 27, w ∈ wsX6_keep := fun w h => List.mem_cons_of_mem _ (List.mem_append_right _ (h))
  subst hsz
  have hD := hD0.self (sz := s.heap.size)
  generalize hAe : va_A (wMo T am mguests mclause mdeeds masked mupper mlower mfinding mreadGuests misSight mat mrowSizes mrows mtextSizes mtexts mdoes mkinds msees mnow mbefore mkeeps mkept mfindings mread maside msteps mtried mbest) s.heap.size = A at hD ⊢
  have hA : ∀ q : Nat, s.heap.size ≤ q → A q := fun q h => by rw [← hAe]; exact Or.inr h
  have hS : va_S A s.heap s.heap [] := va_S.rf
  have hP : va_P D vwCl (wMo T am mguests mclause mdeeds masked mupper mlower mfinding mreadGuests misSight mat mrowSizes mrows mtextSizes mtexts mdoes mkinds msees mnow mbefore mkeeps mkept mfindings mread maside msteps mtried mbest) s.heap := hP
  obtain ⟨ls, hl, e0⟩ := my_entry (m := m) (n := 2) ha (Nat.le_of_ble_eq_true rfl)
  rw [e0]
  have hl : lv_has ls 2 [(0, .ref (am 0)), (1, .int x1)] := hl
  have key : ∀ Q : State → Prop, (∀ (H : Heap) (locs : List Loc) (pc : Nat) (ls : Array Slot), va_P D vwCl (wMo T am mguests mclause mdeeds masked mupper mlower mfinding mreadGuests misSight mat mrowSizes mrows mtextSizes mtexts mdoes mkinds msees mnow mbefore zmkeeps zmkept mfindings mread maside msteps mtried mbest) H → va_D A (wMo T am mguests mclause mdeeds masked mupper mlower mfinding mreadGuests misSight mat mrowSizes mrows mtextSizes mtexts mdoes mkinds msees mnow mbefore zmkeeps zmkept mfindings mread maside msteps mtried mbest) → va_S A s.heap H locs → decode cX6_keep pc = .ok (.ireturn, 1) → W p l e ({ frames := 1, cells := 0, slots := 0, locals := 25 } : Room) s m args below meth c H locs 0 0 Q (F0 m pc ls [.int r])) → W p l e ({ frames := 1, cells := 0, slots := 0, locals := 25 } : Room) s m args below meth c s.heap [] 0 0 Q (F0 m 0 ls []) := by
    intro Q hret
    skip
    unfold fX6_keep at h
    refine lv_iload_n hx hb dX6_keep_0 rfl (lv_at hl 1 rfl) ?_
    refine lv_i2l (v := (x1.toInt64)) hx hb dX6_keep_1 rfl ?_
    refine lv_lconst (v := (0 : Int64)) hx hb dX6_keep_2 (by decide) ?_
    refine lv_ldc2 (v := (2 : Int64)) hx hb hown q1 dX6_keep_3 ?_
    obtain ⟨r6, hc, h⟩ := bd1_some h
    refine my_roz (va_Run.run (va_runS (As := [.long (x1.toInt64), .long (0 : Int64), .long (2 : Int64)]) (rest := []) hFix (kX6_in l D T F (x1.toInt64) (0 : Int64) (2 : Int64) r6 hc) (va_cwS 3 hts gX6_keep_X6_in rfl rfl rfl hd_X6_in ⟨Nat.le_of_ble_eq_true rfl, Nat.le_of_ble_eq_true rfl⟩) (preS_ro va_nil hKK) rfl rfl hl.1 rfl (lv_room (Nat.le_of_ble_eq_true rfl)) dX6_keep_6 ⟨Nat.zero_le _, Nat.zero_le _⟩)) (fun hb6 => ?_)
    refine lv_if_ne (tgt := 14) hx hb dX6_keep_9 (by decide) (fun c9 => ?_) (fun c9 => ?_)
    · have h := br_0 h c9
      refine lv_aload_n hx hb dX6_keep_14 rfl (lv_at hl 0 rfl) ?_
      refine va_get (D := D) (ci := 4) (C := RX6) (T := TX6) (N := 27) hx hb hts iX6 hown hK hP 0 wMo_0 rfl 4 (by decide) q2 (fun _ h9 => h9) rfl dX6_keep_15 ?_
      refine lv_if_ne (tgt := 24) hx hb dX6_keep_18 (by decide) (fun c18 => ?_) (fun c18 => ?_)
      · have h := br_0 h c18
        refine lv_aload_n hx hb dX6_keep_24 rfl (lv_at hl 0 rfl) ?_
        refine va_get (D := D) (ci := 4) (C := RX6) (T := TX6) (N := 27) hx hb hts iX6 hown hK hP 0 wMo_0 rfl 9 (by decide) q3 (fun _ h9 => h9) rfl dX6_keep_25 ?_
        refine lv_iconst (v := (0 : Int32)) hx hb dX6_keep_28 (by decide) ?_
        refine lv_aload_n hx hb dX6_keep_29 rfl (lv_at hl 0 rfl) ?_
        refine va_get (D := D) (ci := 4) (C := RX6) (T := TX6) (N := 27) hx hb hts iX6 hown hK hP 0 wMo_0 rfl 12 (by decide) q4 (fun _ h9 => h9) rfl dX6_keep_30 ?_
        refine lv_sipush (v := (288 : Int32)) hx hb dX6_keep_33 (by decide) ?_
        refine lv_iload_n hx hb dX6_keep_36 rfl (lv_at hl 1 rfl) ?_
        refine lv_imul hx hb dX6_keep_37 ?_
        refine lv_bipush (v := (7 : Int32)) hx hb dX6_keep_38 (by decide) ?_
        obtain ⟨w40_f2, hc, h⟩ := bd1_some h
        have hPc : va_P D vwCl (wA2 T (am 8) (am 10) 7 864 mnow mkeeps) _ := my_subP sb_wMo_wA2_8_10 hP
        have hDc := hD.sub [8, 10] (by decide) sb_wMo_wA2_8_10
        have hFc := va_free hD hS hA [8, 10] sb_wMo_wA2_8_10
        refine my_rwv (va_runS (As := [.ref (am 8), .int (0 : Int32), .ref (am 10), .int ((288 : Int32) * x1), .int (7 : Int32)]) (rest := []) hFix (kX6_copies l D T F (am 8) (am 10) 7 864 mnow mkeeps (0 : Int32) ((288 : Int32) * x1) (7 : Int32) w40_f2 hc _) (va_cwS 5 hts gX6_keep_X6_copies rfl rfl rfl hd_X6_copies ⟨Nat.le_of_ble_eq_true rfl, Nat.le_of_ble_eq_true rfl⟩) (preS_rw hPc hKK hDc) rfl rfl hl.1 rfl (lv_room (Nat.le_of_ble_eq_true rfl)) dX6_keep_40 ⟨Nat.zero_le _, Nat.zero_le _⟩) hS hFc (fun H1 locs hP1 hD1 hz1 hkk hS => ?_)
        obtain ⟨hP, hD⟩ := my_joinS hP hD (by decide) sb_wMo_wA2_8_10 (by rfl) hkk hFc hP1 hD1
        rw [st_wMo_wA2_8_10_copies] at hP hD
        generalize H1 = H at hP hS ⊢
        refine lv_aload_n hx hb dX6_keep_43 rfl (lv_at hl 0 rfl) ?_
        refine va_get (D := D) (ci := 4) (C := RX6) (T := TX6) (N := 27) hx hb hts iX6 hown hK hP 0 wMo_0 rfl 12 (by decide) q4 (fun _ h9 => h9) rfl dX6_keep_44 ?_
        refine lv_sipush (v := (288 : Int32)) hx hb dX6_keep_47 (by decide) ?_
        refine lv_iload_n hx hb dX6_keep_50 rfl (lv_at hl 1 rfl) ?_
        refine lv_imul hx hb dX6_keep_51 ?_
        refine lv_bipush (v := (7 : Int32)) hx hb dX6_keep_52 (by decide) ?_
        refine lv_iadd hx hb dX6_keep_54 ?_
        refine lv_aload_n hx hb dX6_keep_55 rfl (lv_at hl 0 rfl) ?_
        refine va_get (D := D) (ci := 4) (C := RX6) (T := TX6) (N := 27) hx hb hts iX6 hown hK hP 0 wMo_0 rfl 10 (by decide) q5 (fun _ h9 => h9) rfl dX6_keep_56 ?_
        obtain ⟨hin1, h⟩ := ck_some h
        refine va_iast hx hb hK hP hD hS 10 0 wMo_10 rfl hin1 dX6_keep_59 (fun H locs hP hD hS => ?_)
        have hP : va_P D vwCl (wMo T am mguests mclause mdeeds masked mupper mlower mfinding mreadGuests misSight mat mrowSizes mrows mtextSizes mtexts mdoes mkinds msees mnow mbefore (upd w40_f2 (((288 : Int32) * x1) + (7 : Int32)).toNatClampNeg mdeeds) mkept mfindings mread maside msteps mtried mbest) H := hP
        have hD : va_D A (wMo T am mguests mclause mdeeds masked mupper mlower mfinding mreadGuests misSight mat mrowSizes mrows mtextSizes mtexts mdoes mkinds msees mnow mbefore (upd w40_f2 (((288 : Int32) * x1) + (7 : Int32)).toNatClampNeg mdeeds) mkept mfindings mread maside msteps mtried mbest) := hD
        refine lv_aload_n hx hb dX6_keep_60 rfl (lv_at hl 0 rfl) ?_
        refine va_get (D := D) (ci := 4) (C := RX6) (T := TX6) (N := 27) hx hb hts iX6 hown hK hP 0 wMo_0 rfl 11 (by decide) q6 (fun _ h9 => h9) rfl dX6_keep_61 ?_
        refine lv_iconst (v := (0 : Int32)) hx hb dX6_keep_64 (by decide) ?_
        refine lv_aload_n hx hb dX6_keep_65 rfl (lv_at hl 0 rfl) ?_
        refine va_get (D := D) (ci := 4) (C := RX6) (T := TX6) (N := 27) hx hb hts iX6 hown hK hP 0 wMo_0 rfl 12 (by decide) q4 (fun _ h9 => h9) rfl dX6_keep_66 ?_
        refine lv_sipush (v := (288 : Int32)) hx hb dX6_keep_69 (by decide) ?_
        refine lv_iload_n hx hb dX6_keep_72 rfl (lv_at hl 1 rfl) ?_
        refine lv_imul hx hb dX6_keep_73 ?_
        refine lv_bipush (v := (8 : Int32)) hx hb dX6_keep_74 (by decide) ?_
        refine lv_iadd hx hb dX6_keep_76 ?_
        refine lv_sipush (v := (280 : Int32)) hx hb dX6_keep_77 (by decide) ?_
        obtain ⟨w80_f2, hc, h⟩ := bd1_some h
        have hPc : va_P D vwCl (wA2 T (am 9) (am 10) 280 864 mbefore (upd w40_f2 (((288 : Int32) * x1) + (7 : Int32)).toNatClampNeg mdeeds)) _ := my_subP sb_wMo_wA2_9_10 hP
        have hDc := hD.sub [9, 10] (by decide) sb_wMo_wA2_9_10
        have hFc := va_free hD hS hA [9, 10] sb_wMo_wA2_9_10
        refine my_rwv (va_runS (As := [.ref (am 9), .int (0 : Int32), .ref (am 10), .int (((288 : Int32) * x1) + (8 : Int32)), .int (280 : Int32)]) (rest := []) hFix (kX6_copies l D T F (am 9) (am 10) 280 864 mbefore (upd w40_f2 (((288 : Int32) * x1) + (7 : Int32)).toNatClampNeg mdeeds) (0 : Int32) (((288 : Int32) * x1) + (8 : Int32)) (280 : Int32) w80_f2 hc _) (va_cwS 5 hts gX6_keep_X6_copies rfl rfl rfl hd_X6_copies ⟨Nat.le_of_ble_eq_true rfl, Nat.le_of_ble_eq_true rfl⟩) (preS_rw hPc hKK hDc) rfl rfl hl.1 rfl (lv_room (Nat.le_of_ble_eq_true rfl)) dX6_keep_80 ⟨Nat.zero_le _, Nat.zero_le _⟩) hS hFc (fun H1 locs hP1 hD1 hz1 hkk hS => ?_)
        obtain ⟨hP, hD⟩ := my_joinS hP hD (by decide) sb_wMo_wA2_9_10 (by rfl) hkk hFc hP1 hD1
        rw [st_wMo_wA2_9_10_copies] at hP hD
        generalize H1 = H at hP hS ⊢
        refine lv_aload_n hx hb dX6_keep_83 rfl (lv_at hl 0 rfl) ?_
        refine va_get (D := D) (ci := 4) (C := RX6) (T := TX6) (N := 27) hx hb hts iX6 hown hK hP 0 wMo_0 rfl 13 (by decide) q7 (fun _ h9 => h9) rfl dX6_keep_84 ?_
        refine lv_iload_n hx hb dX6_keep_87 rfl (lv_at hl 1 rfl) ?_
        refine lv_iconst (v := (1 : Int32)) hx hb dX6_keep_88 (by decide) ?_
        obtain ⟨hin2, h⟩ := ck_some h
        refine va_zast hx hb hK hP hD hS 11 3 wMo_11 rfl hin2 dX6_keep_89 (fun H locs hP hD hS => ?_)
        have hP : va_P D vwCl (wMo T am mguests mclause mdeeds masked mupper mlower mfinding mreadGuests misSight mat mrowSizes mrows mtextSizes mtexts mdoes mkinds msees mnow mbefore w80_f2 (upd mkept x1.toNatClampNeg (vp_nar .boolean (1 : Int32))) mfindings mread maside msteps mtried mbest) H := hP
        have hD : va_D A (wMo T am mguests mclause mdeeds masked mupper mlower mfinding mreadGuests misSight mat mrowSizes mrows mtextSizes mtexts mdoes mkinds msees mnow mbefore w80_f2 (upd mkept x1.toNatClampNeg (vp_nar .boolean (1 : Int32))) mfindings mread maside msteps mtried mbest) := hD
        refine lv_aload_n hx hb dX6_keep_90 rfl (lv_at hl 0 rfl) ?_
        refine va_get (D := D) (ci := 4) (C := RX6) (T := TX6) (N := 27) hx hb hts iX6 hown hK hP 0 wMo_0 rfl 10 (by decide) q5 (fun _ h9 => h9) rfl dX6_keep_91 ?_
        cases h
        exact hret _ _ _ _ hP hD hS dX6_keep_94
      · have h := br_1 h c18
        refine lv_bipush (v := (-4 : Int32)) hx hb dX6_keep_21 (by decide) ?_
        cases h
        exact hret _ _ _ _ hP hD hS dX6_keep_23
    · have h := br_1 h c9
      refine lv_iconst (v := (-1 : Int32)) hx hb dX6_keep_12 (by decide) ?_
      cases h
      exact hret _ _ _ _ hP hD hS dX6_keep_13
  exact key _ (fun H locs pc ls hP hD hS hd => W.iret hx hb hr (fun t ht hW => ⟨⟨_, (), rfl, rfl, by show _ ∧ _; rw [ht]; exact ⟨hP, hD⟩⟩, hS.F ht⟩) hS.2.2 hd)
set_option maxHeartbeats 4000000 in
set_option maxRecDepth 100000 in
theorem kX6_on (l : Launch) (D : va_G) (T : Nat → ClassId) (F : Nat) (am : Nat → Nat) (mguests : Int32) (mclause : Int32) (mdeeds : Int32) (masked : Int32) (mupper : Int64) (mlower : Int64) (mfinding : Int32) (mreadGuests : Int32) (misSight : Int32) (mat : Int32) (mrowSizes : Nat → Int32) (mrows : Nat → Int32) (mtextSizes : Nat → Int32) (mtexts : Nat → Int32) (mdoes : Nat → Int32) (mkinds : Nat → Int32) (msees : Nat → Int32) (mnow : Nat → Int32) (mbefore : Nat → Int32) (mkeeps : Nat → Int32) (mkept : Nat → Int32) (mfindings : Nat → Int32) (mread : Nat → Int32) (maside : Nat → Int32) (msteps : Nat → Int32) (mtried : Nat → Int32) (mbest : Nat → Int32) (x1 : Int32) (r : Int32) (zmdeeds : Int32) (zmfinding : Int32) (zmnow : Nat → Int32) (zmbefore : Nat → Int32) (zmfindings : Nat → Int32) (h : fX6_on F mdeeds mfinding mnow mbefore mkeeps mkept mfindings x1 = some (r, zmdeeds, zmfinding, zmnow, zmbefore, zmfindings)) : ∀ sz : Nat, Met l yX6_on wsX6_on ({ frames := 1, cells := 0, slots := 0, locals := 25 } : Room) (va_Pc [.ref (am 0), .int x1] (fun U => U.heap.size = sz ∧ va_P D vwCl (wMo T am mguests mclause mdeeds masked mupper mlower mfinding mreadGuests misSight mat mrowSizes mrows mtextSizes mtexts mdoes mkinds msees mnow mbefore mkeeps mkept mfindings mread maside msteps mtried mbest) U.heap ∧ KK D T U ∧ va_D (fun _ => True) (wMo T am mguests mclause mdeeds masked mupper mlower mfinding mreadGuests misSight mat mrowSizes mrows mtextSizes mtexts mdoes mkinds msees mnow mbefore mkeeps mkept mfindings mread maside msteps mtried mbest))) (va_Qi (fun r' (_ : Unit) => r' = r) (fun _ t => va_P D vwCl (wMo T am mguests mclause zmdeeds masked mupper mlower zmfinding mreadGuests misSight mat mrowSizes mrows mtextSizes mtexts mdoes mkinds msees zmnow zmbefore mkeeps mkept zmfindings mread maside msteps mtried mbest) t.heap ∧ va_D (va_A (wMo T am mguests mclause mdeeds masked mupper mlower mfinding mreadGuests misSight mat mrowSizes mrows mtextSizes mtexts mdoes mkinds msees mnow mbefore mkeeps mkept mfindings mread maside msteps mtried mbest) sz) (wMo T am mguests mclause zmdeeds masked mupper mlower zmfinding mreadGuests misSight mat mrowSizes mrows mtextSizes mtexts mdoes mkinds msees zmnow zmbefore mkeeps mkept zmfindings mread maside msteps mtried mbest)) (va_A (wMo T am mguests mclause mdeeds masked mupper mlower mfinding mreadGuests misSight mat mrowSizes mrows mtextSizes mtexts mdoes mkinds msees mnow mbefore mkeeps mkept mfindings mread maside msteps mtried mbest) sz)) 0 0 (va_A (wMo T am mguests mclause mdeeds masked mupper mlower mfinding mreadGuests misSight mat mrowSizes mrows mtextSizes mtexts mdoes mkinds msees mnow mbefore mkeeps mkept mfindings mread maside msteps mtried mbest) sz) := by
  intro sz
  refine Met.ofW (cc := cX6_on) (maxL := 2) (ret := some .int) (by decide) rfl ?_
  intro p e s m args below meth c s₁ B hml hv
  obtain ⟨ha, hsz, hP, hKK, hD0⟩ := hv
  have hx := B.exec
  have hb := B.bytes
  have hr := B.returns
  have hts := atoms_spec (ws := wsX6_on) B.pre
  have hown : s.vm.findClass RX6 = some m.cls := findClass_of_methodNamed B.named
  have hlocks := B.notSynchronized
  have hK := hKK.1
  have hFix : CallFix p m c cX6_on 2 s args wsX6_on RX6 := ⟨hx, hb, hml, hown, hts⟩
  have q1 := hts _ (List.mem_of_getElem? (i := 1) (show wsX6_on[1]? = some (Cond.constantLong RX6 202 (2)) from rfl))
  have q2 := hts _ (List.mem_of_getElem? (i := 2) (show wsX6_on[2]? = some (Cond.fieldLink RX6 40 "PartyWillModel" "kept" "[Z") from rfl))
  have q3 := hts _ (List.mem_of_getElem? (i := 3) (show wsX6_on[3]? = some (Cond.fieldLink RX6 37 "PartyWillModel" "keeps" "[I") from rfl))
  have q4 := hts _ (List.mem_of_getElem? (i := 4) (show wsX6_on[4]? = some (Cond.fieldLink RX6 31 "PartyWillModel" "now" "[I") from rfl))
  have q5 := hts _ (List.mem_of_getElem? (i := 5) (show wsX6_on[5]? = some (Cond.fieldLink RX6 137 "PartyWillModel" "deeds" "I") from rfl))
  have q6 := hts _ (List.mem_of_getElem? (i := 6) (show wsX6_on[6]? = some (Cond.fieldLink RX6 34 "PartyWillModel" "before" "[I") from rfl))
  have iX6 : ∀ w ∈ u_ws RX6 TX6 27, w ∈ wsX6_on := fun w h => List.mem_cons_of_mem _ (List.mem_append_right _ (h))
  subst hsz
  have hD := hD0.self (sz := s.heap.size)
  generalize hAe : va_A (wMo T am mguests mclause mdeeds masked mupper mlower mfinding mreadGuests misSight mat mrowSizes mrows mtextSizes mtexts mdoes mkinds msees mnow mbefore mkeeps mkept mfindings mread maside msteps mtried mbest) s.heap.size = A at hD ⊢
  have hA : ∀ q : Nat, s.heap.size ≤ q → A q := fun q h => by rw [← hAe]; exact Or.inr h
  have hS : va_S A s.heap s.heap [] := va_S.rf
  have hP : va_P D vwCl (wMo T am mguests mclause mdeeds masked mupper mlower mfinding mreadGuests misSight mat mrowSizes mrows mtextSizes mtexts mdoes mkinds msees mnow mbefore mkeeps mkept mfindings mread maside msteps mtried mbest) s.heap := hP
  obtain ⟨ls, hl, e0⟩ := my_entry (m := m) (n := 2) ha (Nat.le_of_ble_eq_true rfl)
  rw [e0]
  have hl : lv_has ls 2 [(0, .ref (am 0)), (1, .int x1)] := hl
  have key : ∀ Q : State → Prop, (∀ (H : Heap) (locs : List Loc) (pc : Nat) (ls : Array Slot), va_P D vwCl (wMo T am mguests mclause zmdeeds masked mupper mlower zmfinding mreadGuests misSight mat mrowSizes mrows mtextSizes mtexts mdoes mkinds msees zmnow zmbefore mkeeps mkept zmfindings mread maside msteps mtried mbest) H → va_D A (wMo T am mguests mclause zmdeeds masked mupper mlower zmfinding mreadGuests misSight mat mrowSizes mrows mtextSizes mtexts mdoes mkinds msees zmnow zmbefore mkeeps mkept zmfindings mread maside msteps mtried mbest) → va_S A s.heap H locs → decode cX6_on pc = .ok (.ireturn, 1) → W p l e ({ frames := 1, cells := 0, slots := 0, locals := 25 } : Room) s m args below meth c H locs 0 0 Q (F0 m pc ls [.int r])) → W p l e ({ frames := 1, cells := 0, slots := 0, locals := 25 } : Room) s m args below meth c s.heap [] 0 0 Q (F0 m 0 ls []) := by
    intro Q hret
    skip
    unfold fX6_on at h
    refine lv_iload_n hx hb dX6_on_0 rfl (lv_at hl 1 rfl) ?_
    refine lv_i2l (v := (x1.toInt64)) hx hb dX6_on_1 rfl ?_
    refine lv_lconst (v := (0 : Int64)) hx hb dX6_on_2 (by decide) ?_
    refine lv_ldc2 (v := (2 : Int64)) hx hb hown q1 dX6_on_3 ?_
    obtain ⟨r6, hc, h⟩ := bd1_some h
    refine my_roz (va_Run.run (va_runS (As := [.long (x1.toInt64), .long (0 : Int64), .long (2 : Int64)]) (rest := []) hFix (kX6_in l D T F (x1.toInt64) (0 : Int64) (2 : Int64) r6 hc) (va_cwS 3 hts gX6_on_X6_in rfl rfl rfl hd_X6_in ⟨Nat.le_of_ble_eq_true rfl, Nat.le_of_ble_eq_true rfl⟩) (preS_ro va_nil hKK) rfl rfl hl.1 rfl (lv_room (Nat.le_of_ble_eq_true rfl)) dX6_on_6 ⟨Nat.zero_le _, Nat.zero_le _⟩)) (fun hb6 => ?_)
    refine lv_if_ne (tgt := 14) hx hb dX6_on_9 (by decide) (fun c9 => ?_) (fun c9 => ?_)
    · have h := br_0 h c9
      refine lv_aload_n hx hb dX6_on_14 rfl (lv_at hl 0 rfl) ?_
      refine va_get (D := D) (ci := 4) (C := RX6) (T := TX6) (N := 27) hx hb hts iX6 hown hK hP 0 wMo_0 rfl 13 (by decide) q2 (fun _ h9 => h9) rfl dX6_on_15 ?_
      refine lv_iload_n hx hb dX6_on_18 rfl (lv_at hl 1 rfl) ?_
      obtain ⟨hin1, h⟩ := ck_some h
      refine va_zald hx hb hK hP 11 3 wMo_11 rfl hin1 dX6_on_19 ?_
      refine lv_if_ne (tgt := 29) hx hb dX6_on_20 (by decide) (fun c20 => ?_) (fun c20 => ?_)
      · have h := br_0 h c20
        refine lv_aload_n hx hb dX6_on_29 rfl (lv_at hl 0 rfl) ?_
        refine va_get (D := D) (ci := 4) (C := RX6) (T := TX6) (N := 27) hx hb hts iX6 hown hK hP 0 wMo_0 rfl 12 (by decide) q3 (fun _ h9 => h9) rfl dX6_on_30 ?_
        refine lv_sipush (v := (288 : Int32)) hx hb dX6_on_33 (by decide) ?_
        refine lv_iload_n hx hb dX6_on_36 rfl (lv_at hl 1 rfl) ?_
        refine lv_imul hx hb dX6_on_37 ?_
        refine lv_aload_n hx hb dX6_on_38 rfl (lv_at hl 0 rfl) ?_
        refine va_get (D := D) (ci := 4) (C := RX6) (T := TX6) (N := 27) hx hb hts iX6 hown hK hP 0 wMo_0 rfl 9 (by decide) q4 (fun _ h9 => h9) rfl dX6_on_39 ?_
        refine lv_iconst (v := (0 : Int32)) hx hb dX6_on_42 (by decide) ?_
        refine lv_bipush (v := (7 : Int32)) hx hb dX6_on_43 (by decide) ?_
        obtain ⟨w45_f2, hc, h⟩ := bd1_some h
        have hPc : va_P D vwCl (wA2 T (am 10) (am 8) 864 7 mkeeps mnow) _ := my_subP sb_wMo_wA2_10_8 hP
        have hDc := hD.sub [10, 8] (by decide) sb_wMo_wA2_10_8
        have hFc := va_free hD hS hA [10, 8] sb_wMo_wA2_10_8
        refine my_rwv (va_runS (As := [.ref (am 10), .int ((288 : Int32) * x1), .ref (am 8), .int (0 : Int32), .int (7 : Int32)]) (rest := []) hFix (kX6_copies l D T F (am 10) (am 8) 864 7 mkeeps mnow ((288 : Int32) * x1) (0 : Int32) (7 : Int32) w45_f2 hc _) (va_cwS 5 hts gX6_on_X6_copies rfl rfl rfl hd_X6_copies ⟨Nat.le_of_ble_eq_true rfl, Nat.le_of_ble_eq_true rfl⟩) (preS_rw hPc hKK hDc) rfl rfl hl.1 rfl (lv_room (Nat.le_of_ble_eq_true rfl)) dX6_on_45 ⟨Nat.zero_le _, Nat.zero_le _⟩) hS hFc (fun H1 locs hP1 hD1 hz1 hkk hS => ?_)
        obtain ⟨hP, hD⟩ := my_joinS hP hD (by decide) sb_wMo_wA2_10_8 (by rfl) hkk hFc hP1 hD1
        rw [st_wMo_wA2_10_8_copies] at hP hD
        generalize H1 = H at hP hS ⊢
        refine lv_aload_n hx hb dX6_on_48 rfl (lv_at hl 0 rfl) ?_
        refine lv_aload_n hx hb dX6_on_49 rfl (lv_at hl 0 rfl) ?_
        refine va_get (D := D) (ci := 4) (C := RX6) (T := TX6) (N := 27) hx hb hts iX6 hown hK hP 0 wMo_0 rfl 12 (by decide) q3 (fun _ h9 => h9) rfl dX6_on_50 ?_
        refine lv_sipush (v := (288 : Int32)) hx hb dX6_on_53 (by decide) ?_
        refine lv_iload_n hx hb dX6_on_56 rfl (lv_at hl 1 rfl) ?_
        refine lv_imul hx hb dX6_on_57 ?_
        refine lv_bipush (v := (7 : Int32)) hx hb dX6_on_58 (by decide) ?_
        refine lv_iadd hx hb dX6_on_60 ?_
        obtain ⟨hin2, h⟩ := ck_some h
        refine va_iald hx hb hK hP 10 0 wMo_10 rfl hin2 dX6_on_61 ?_
        refine va_put (D := D) (ci := 4) (v := .int (mkeeps (((288 : Int32) * x1) + (7 : Int32)).toNatClampNeg)) (ty := .int) (C := RX6) (T := TX6) (N := 27) hx hb hts iX6 tyX6 tyX6_ok nmX6 hown hK hP hD hS 0 wMo_0 rfl 10 (by decide) q5 (fun _ h9 => h9) rfl (by decide +kernel) rfl rfl (Nat.le_of_ble_eq_true rfl) dX6_on_62 (fun H locs hP hD hS => ?_)
        have hP : va_P D vwCl (wMo T am mguests mclause (mkeeps (((288 : Int32) * x1) + (7 : Int32)).toNatClampNeg) masked mupper mlower mfinding mreadGuests misSight mat mrowSizes mrows mtextSizes mtexts mdoes mkinds msees w45_f2 mbefore mkeeps mkept mfindings mread maside msteps mtried mbest) H := hP
        have hD : va_D A (wMo T am mguests mclause (mkeeps (((288 : Int32) * x1) + (7 : Int32)).toNatClampNeg) masked mupper mlower mfinding mreadGuests misSight mat mrowSizes mrows mtextSizes mtexts mdoes mkinds msees w45_f2 mbefore mkeeps mkept mfindings mread maside msteps mtried mbest) := hD
        refine lv_aload_n hx hb dX6_on_65 rfl (lv_at hl 0 rfl) ?_
        refine va_get (D := D) (ci := 4) (C := RX6) (T := TX6) (N := 27) hx hb hts iX6 hown hK hP 0 wMo_0 rfl 12 (by decide) q3 (fun _ h9 => h9) rfl dX6_on_66 ?_
        refine lv_sipush (v := (288 : Int32)) hx hb dX6_on_69 (by decide) ?_
        refine lv_iload_n hx hb dX6_on_72 rfl (lv_at hl 1 rfl) ?_
        refine lv_imul hx hb dX6_on_73 ?_
        refine lv_bipush (v := (8 : Int32)) hx hb dX6_on_74 (by decide) ?_
        refine lv_iadd hx hb dX6_on_76 ?_
        refine lv_aload_n hx hb dX6_on_77 rfl (lv_at hl 0 rfl) ?_
        refine va_get (D := D) (ci := 4) (C := RX6) (T := TX6) (N := 27) hx hb hts iX6 hown hK hP 0 wMo_0 rfl 11 (by decide) q6 (fun _ h9 => h9) rfl dX6_on_78 ?_
        refine lv_iconst (v := (0 : Int32)) hx hb dX6_on_81 (by decide) ?_
        refine lv_sipush (v := (280 : Int32)) hx hb dX6_on_82 (by decide) ?_
        obtain ⟨w85_f2, hc, h⟩ := bd1_some h
        have hPc : va_P D vwCl (wA2 T (am 10) (am 9) 864 280 mkeeps mbefore) _ := my_subP sb_wMo_wA2_10_9 hP
        have hDc := hD.sub [10, 9] (by decide) sb_wMo_wA2_10_9
        have hFc := va_free hD hS hA [10, 9] sb_wMo_wA2_10_9
        refine my_rwv (va_runS (As := [.ref (am 10), .int (((288 : Int32) * x1) + (8 : Int32)), .ref (am 9), .int (0 : Int32), .int (280 : Int32)]) (rest := []) hFix (kX6_copies l D T F (am 10) (am 9) 864 280 mkeeps mbefore (((288 : Int32) * x1) + (8 : Int32)) (0 : Int32) (280 : Int32) w85_f2 hc _) (va_cwS 5 hts gX6_on_X6_copies rfl rfl rfl hd_X6_copies ⟨Nat.le_of_ble_eq_true rfl, Nat.le_of_ble_eq_true rfl⟩) (preS_rw hPc hKK hDc) rfl rfl hl.1 rfl (lv_room (Nat.le_of_ble_eq_true rfl)) dX6_on_85 ⟨Nat.zero_le _, Nat.zero_le _⟩) hS hFc (fun H1 locs hP1 hD1 hz1 hkk hS => ?_)
        obtain ⟨hP, hD⟩ := my_joinS hP hD (by decide) sb_wMo_wA2_10_9 (by rfl) hkk hFc hP1 hD1
        rw [st_wMo_wA2_10_9_copies] at hP hD
        generalize H1 = H at hP hS ⊢
        refine lv_aload_n hx hb dX6_on_88 rfl (lv_at hl 0 rfl) ?_
        refine va_get (D := D) (ci := 4) (C := RX6) (T := TX6) (N := 27) hx hb hts iX6 hown hK hP 0 wMo_0 rfl 10 (by decide) q5 (fun _ h9 => h9) rfl dX6_on_89 ?_
        cases h
        exact hret _ _ _ _ hP hD hS dX6_on_92
      · have h := br_1 h c20
        refine lv_aload_n hx hb dX6_on_23 rfl (lv_at hl 0 rfl) ?_
        refine lv_iconst (v := (1 : Int32)) hx hb dX6_on_24 (by decide) ?_
        obtain ⟨r25, w25_mfinding, w25_mfindings, hc, h⟩ := bd3_some h
        have hFc := my_freeS hD hS hA
        refine my_rwi (va_runV (As := [.int (1 : Int32)]) (rest := []) hFix (kX6_found l D T F am mguests mclause mdeeds masked mupper mlower mfinding mreadGuests misSight mat mrowSizes mrows mtextSizes mtexts mdoes mkinds msees mnow mbefore mkeeps mkept mfindings mread maside msteps mtried mbest (1 : Int32) r25 w25_mfinding w25_mfindings hc _) (cwV 1 hts gX6_on_X6_found rfl rfl rfl ⟨rfl, hd_X6_found⟩ ⟨Nat.le_of_ble_eq_true rfl, Nat.le_of_ble_eq_true rfl⟩) (preV_rw hP hKK hD (va_recv hK hP (ci := 4) (q0 := 0) rfl wMo_0)) rfl rfl hl.1 rfl (lv_room (Nat.le_of_ble_eq_true rfl)) dX6_on_25 ⟨Nat.zero_le _, Nat.zero_le _⟩) hS hFc (fun H1 locs hP1 hD1 hz1 hkk hS => ?_)
        have hP : va_P D vwCl (wMo T am mguests mclause mdeeds masked mupper mlower w25_mfinding mreadGuests misSight mat mrowSizes mrows mtextSizes mtexts mdoes mkinds msees mnow mbefore mkeeps mkept w25_mfindings mread maside msteps mtried mbest) H1 := hP1
        have hD : va_D A (wMo T am mguests mclause mdeeds masked mupper mlower w25_mfinding mreadGuests misSight mat mrowSizes mrows mtextSizes mtexts mdoes mkinds msees mnow mbefore mkeeps mkept w25_mfindings mread maside msteps mtried mbest) := hD1.weaken (fun _ q _ h => hFc q.1 h)
        generalize H1 = H at hP hS ⊢
        cases h
        exact hret _ _ _ _ hP hD hS dX6_on_28
    · have h := br_1 h c9
      refine lv_iconst (v := (-1 : Int32)) hx hb dX6_on_12 (by decide) ?_
      cases h
      exact hret _ _ _ _ hP hD hS dX6_on_13
  exact key _ (fun H locs pc ls hP hD hS hd => W.iret hx hb hr (fun t ht hW => ⟨⟨_, (), rfl, rfl, by show _ ∧ _; rw [ht]; exact ⟨hP, hD⟩⟩, hS.F ht⟩) hS.2.2 hd)
set_option maxHeartbeats 4000000 in
set_option maxRecDepth 100000 in
theorem kX6_layAside (l : Launch) (D : va_G) (T : Nat → ClassId) (F : Nat) (am : Nat → Nat) (mguests : Int32) (mclause : Int32) (mdeeds : Int32) (masked : Int32) (mupper : Int64) (mlower : Int64) (mfinding : Int32) (mreadGuests : Int32) (misSight : Int32) (mat : Int32) (mrowSizes : Nat → Int32) (mrows : Nat → Int32) (mtextSizes : Nat → Int32) (mtexts : Nat → Int32) (mdoes : Nat → Int32) (mkinds : Nat → Int32) (msees : Nat → Int32) (mnow : Nat → Int32) (mbefore : Nat → Int32) (mkeeps : Nat → Int32) (mkept : Nat → Int32) (mfindings : Nat → Int32) (mread : Nat → Int32) (maside : Nat → Int32) (msteps : Nat → Int32) (mtried : Nat → Int32) (mbest : Nat → Int32) (zmaside : Nat → Int32) (h : fX6_layAside F mnow maside = some (zmaside)) : ∀ sz : Nat, Met l yX6_layAside wsX6_layAside ({ frames := 1, cells := 0, slots := 0, locals := 25 } : Room) (va_Pc [.ref (am 0)] (fun U => U.heap.size = sz ∧ va_P D vwCl (wMo T am mguests mclause mdeeds masked mupper mlower mfinding mreadGuests misSight mat mrowSizes mrows mtextSizes mtexts mdoes mkinds msees mnow mbefore mkeeps mkept mfindings mread maside msteps mtried mbest) U.heap ∧ KK D T U ∧ va_D (fun _ => True) (wMo T am mguests mclause mdeeds masked mupper mlower mfinding mreadGuests misSight mat mrowSizes mrows mtextSizes mtexts mdoes mkinds msees mnow mbefore mkeeps mkept mfindings mread maside msteps mtried mbest))) (va_Qv (fun _ : Unit => True) (fun _ t => va_P D vwCl (wMo T am mguests mclause mdeeds masked mupper mlower mfinding mreadGuests misSight mat mrowSizes mrows mtextSizes mtexts mdoes mkinds msees mnow mbefore mkeeps mkept mfindings mread zmaside msteps mtried mbest) t.heap ∧ va_D (va_A (wMo T am mguests mclause mdeeds masked mupper mlower mfinding mreadGuests misSight mat mrowSizes mrows mtextSizes mtexts mdoes mkinds msees mnow mbefore mkeeps mkept mfindings mread maside msteps mtried mbest) sz) (wMo T am mguests mclause mdeeds masked mupper mlower mfinding mreadGuests misSight mat mrowSizes mrows mtextSizes mtexts mdoes mkinds msees mnow mbefore mkeeps mkept mfindings mread zmaside msteps mtried mbest)) (va_A (wMo T am mguests mclause mdeeds masked mupper mlower mfinding mreadGuests misSight mat mrowSizes mrows mtextSizes mtexts mdoes mkinds msees mnow mbefore mkeeps mkept mfindings mread maside msteps mtried mbest) sz)) 0 0 (va_A (wMo T am mguests mclause mdeeds masked mupper mlower mfinding mreadGuests misSight mat mrowSizes mrows mtextSizes mtexts mdoes mkinds msees mnow mbefore mkeeps mkept mfindings mread maside msteps mtried mbest) sz) := by
  intro sz
  refine Met.ofW (cc := cX6_layAside) (maxL := 1) (ret := none) (by decide) rfl ?_
  intro p e s m args below meth c s₁ B hml hv
  obtain ⟨ha, hsz, hP, hKK, hD0⟩ := hv
  have hx := B.exec
  have hb := B.bytes
  have hr := B.returns
  have hts := atoms_spec (ws := wsX6_layAside) B.pre
  have hown : s.vm.findClass RX6 = some m.cls := findClass_of_methodNamed B.named
  have hlocks := B.notSynchronized
  have hK := hKK.1
  have hFix : CallFix p m c cX6_layAside 1 s args wsX6_layAside RX6 := ⟨hx, hb, hml, hown, hts⟩
  have q1 := hts _ (List.mem_of_getElem? (i := 1) (show wsX6_layAside[1]? = some (Cond.fieldLink RX6 31 "PartyWillModel" "now" "[I") from rfl))
  have q2 := hts _ (List.mem_of_getElem? (i := 2) (show wsX6_layAside[2]? = some (Cond.fieldLink RX6 54 "PartyWillModel" "aside" "[I") from rfl))
  have iX6 : ∀ w ∈ u_ws RX6 TX6 27, w ∈ wsX6_layAside := fun w h => List.mem_cons_of_mem _ (List.mem_append_right _ (h))
  subst hsz
  have hD := hD0.self (sz := s.heap.size)
  generalize hAe : va_A (wMo T am mguests mclause mdeeds masked mupper mlower mfinding mreadGuests misSight mat mrowSizes mrows mtextSizes mtexts mdoes mkinds msees mnow mbefore mkeeps mkept mfindings mread maside msteps mtried mbest) s.heap.size = A at hD ⊢
  have hA : ∀ q : Nat, s.heap.size ≤ q → A q := fun q h => by rw [← hAe]; exact Or.inr h
  have hS : va_S A s.heap s.heap [] := va_S.rf
  have hP : va_P D vwCl (wMo T am mguests mclause mdeeds masked mupper mlower mfinding mreadGuests misSight mat mrowSizes mrows mtextSizes mtexts mdoes mkinds msees mnow mbefore mkeeps mkept mfindings mread maside msteps mtried mbest) s.heap := hP
  obtain ⟨ls, hl, e0⟩ := my_entry (m := m) (n := 1) ha (Nat.le_of_ble_eq_true rfl)
  rw [e0]
  have hl : lv_has ls 1 [(0, .ref (am 0))] := hl
  have key : ∀ Q : State → Prop, (∀ (H : Heap) (locs : List Loc) (pc : Nat) (ls : Array Slot), va_P D vwCl (wMo T am mguests mclause mdeeds masked mupper mlower mfinding mreadGuests misSight mat mrowSizes mrows mtextSizes mtexts mdoes mkinds msees mnow mbefore mkeeps mkept mfindings mread zmaside msteps mtried mbest) H → va_D A (wMo T am mguests mclause mdeeds masked mupper mlower mfinding mreadGuests misSight mat mrowSizes mrows mtextSizes mtexts mdoes mkinds msees mnow mbefore mkeeps mkept mfindings mread zmaside msteps mtried mbest) → va_S A s.heap H locs → decode cX6_layAside pc = .ok (.return_, 1) → W p l e ({ frames := 1, cells := 0, slots := 0, locals := 25 } : Room) s m args below meth c H locs 0 0 Q (F0 m pc ls [])) → W p l e ({ frames := 1, cells := 0, slots := 0, locals := 25 } : Room) s m args below meth c s.heap [] 0 0 Q (F0 m 0 ls []) := by
    intro Q hret
    skip
    unfold fX6_layAside at h
    refine lv_aload_n hx hb dX6_layAside_0 rfl (lv_at hl 0 rfl) ?_
    refine va_get (D := D) (ci := 4) (C := RX6) (T := TX6) (N := 27) hx hb hts iX6 hown hK hP 0 wMo_0 rfl 9 (by decide) q1 (fun _ h9 => h9) rfl dX6_layAside_1 ?_
    refine lv_iconst (v := (0 : Int32)) hx hb dX6_layAside_4 (by decide) ?_
    refine lv_aload_n hx hb dX6_layAside_5 rfl (lv_at hl 0 rfl) ?_
    refine va_get (D := D) (ci := 4) (C := RX6) (T := TX6) (N := 27) hx hb hts iX6 hown hK hP 0 wMo_0 rfl 23 (by decide) q2 (fun _ h9 => h9) rfl dX6_layAside_6 ?_
    refine lv_iconst (v := (0 : Int32)) hx hb dX6_layAside_9 (by decide) ?_
    refine lv_bipush (v := (7 : Int32)) hx hb dX6_layAside_10 (by decide) ?_
    obtain ⟨w12_f2, hc, h⟩ := bd1_some h
    have hPc : va_P D vwCl (wA2 T (am 8) (am 14) 7 7 mnow maside) _ := my_subP sb_wMo_wA2_8_14 hP
    have hDc := hD.sub [8, 14] (by decide) sb_wMo_wA2_8_14
    have hFc := va_free hD hS hA [8, 14] sb_wMo_wA2_8_14
    refine my_rwv (va_runS (As := [.ref (am 8), .int (0 : Int32), .ref (am 14), .int (0 : Int32), .int (7 : Int32)]) (rest := []) hFix (kX6_copies l D T F (am 8) (am 14) 7 7 mnow maside (0 : Int32) (0 : Int32) (7 : Int32) w12_f2 hc _) (va_cwS 5 hts gX6_layAside_X6_copies rfl rfl rfl hd_X6_copies ⟨Nat.le_of_ble_eq_true rfl, Nat.le_of_ble_eq_true rfl⟩) (preS_rw hPc hKK hDc) rfl rfl hl.1 rfl (lv_room (Nat.le_of_ble_eq_true rfl)) dX6_layAside_12 ⟨Nat.zero_le _, Nat.zero_le _⟩) hS hFc (fun H1 locs hP1 hD1 hz1 hkk hS => ?_)
    obtain ⟨hP, hD⟩ := my_joinS hP hD (by decide) sb_wMo_wA2_8_14 (by rfl) hkk hFc hP1 hD1
    rw [st_wMo_wA2_8_14_copies] at hP hD
    generalize H1 = H at hP hS ⊢
    cases h
    exact hret _ _ _ _ hP hD hS dX6_layAside_15
  exact key _ (fun H locs pc ls hP hD hS hd => W.vret hx hb hr (fun t ht hW => ⟨⟨(), rfl, trivial, by show _ ∧ _; rw [ht]; exact ⟨hP, hD⟩⟩, hS.F ht⟩) hS.2.2 hd)
set_option maxHeartbeats 4000000 in
set_option maxRecDepth 100000 in
theorem kX6_out (l : Launch) (D : va_G) (T : Nat → ClassId) (F : Nat) (am : Nat → Nat) (mguests : Int32) (mclause : Int32) (mdeeds : Int32) (masked : Int32) (mupper : Int64) (mlower : Int64) (mfinding : Int32) (mreadGuests : Int32) (misSight : Int32) (mat : Int32) (mrowSizes : Nat → Int32) (mrows : Nat → Int32) (mtextSizes : Nat → Int32) (mtexts : Nat → Int32) (mdoes : Nat → Int32) (mkinds : Nat → Int32) (msees : Nat → Int32) (mnow : Nat → Int32) (mbefore : Nat → Int32) (mkeeps : Nat → Int32) (mkept : Nat → Int32) (mfindings : Nat → Int32) (mread : Nat → Int32) (maside : Nat → Int32) (msteps : Nat → Int32) (mtried : Nat → Int32) (mbest : Nat → Int32) (x1 : Int32) (r : Int32) (zmasked : Int32) (zmaside : Nat → Int32) (h : fX6_out F mguests mclause masked mdoes mkinds msees mnow maside x1 = some (r, zmasked, zmaside)) : ∀ sz : Nat, Met l yX6_out wsX6_out ({ frames := 4, cells := 0, slots := 0, locals := 93 } : Room) (va_Pc [.ref (am 0), .int x1] (fun U => U.heap.size = sz ∧ va_P D vwCl (wMo T am mguests mclause mdeeds masked mupper mlower mfinding mreadGuests misSight mat mrowSizes mrows mtextSizes mtexts mdoes mkinds msees mnow mbefore mkeeps mkept mfindings mread maside msteps mtried mbest) U.heap ∧ KK D T U ∧ va_D (fun _ => True) (wMo T am mguests mclause mdeeds masked mupper mlower mfinding mreadGuests misSight mat mrowSizes mrows mtextSizes mtexts mdoes mkinds msees mnow mbefore mkeeps mkept mfindings mread maside msteps mtried mbest))) (va_Qi (fun r' (_ : Unit) => r' = r) (fun _ t => va_P D vwCl (wMo T am mguests mclause mdeeds zmasked mupper mlower mfinding mreadGuests misSight mat mrowSizes mrows mtextSizes mtexts mdoes mkinds msees mnow mbefore mkeeps mkept mfindings mread zmaside msteps mtried mbest) t.heap ∧ va_D (va_A (wMo T am mguests mclause mdeeds masked mupper mlower mfinding mreadGuests misSight mat mrowSizes mrows mtextSizes mtexts mdoes mkinds msees mnow mbefore mkeeps mkept mfindings mread maside msteps mtried mbest) sz) (wMo T am mguests mclause mdeeds zmasked mupper mlower mfinding mreadGuests misSight mat mrowSizes mrows mtextSizes mtexts mdoes mkinds msees mnow mbefore mkeeps mkept mfindings mread zmaside msteps mtried mbest)) (va_A (wMo T am mguests mclause mdeeds masked mupper mlower mfinding mreadGuests misSight mat mrowSizes mrows mtextSizes mtexts mdoes mkinds msees mnow mbefore mkeeps mkept mfindings mread maside msteps mtried mbest) sz)) 0 0 (va_A (wMo T am mguests mclause mdeeds masked mupper mlower mfinding mreadGuests misSight mat mrowSizes mrows mtextSizes mtexts mdoes mkinds msees mnow mbefore mkeeps mkept mfindings mread maside msteps mtried mbest) sz) := by
  intro sz
  refine Met.ofW (cc := cX6_out) (maxL := 3) (ret := some .int) (by decide) rfl ?_
  intro p e s m args below meth c s₁ B hml hv
  obtain ⟨ha, hsz, hP, hKK, hD0⟩ := hv
  have hx := B.exec
  have hb := B.bytes
  have hr := B.returns
  have hts := atoms_spec (ws := wsX6_out) B.pre
  have hown : s.vm.findClass RX6 = some m.cls := findClass_of_methodNamed B.named
  have hlocks := B.notSynchronized
  have hK := hKK.1
  have hFix : CallFix p m c cX6_out 3 s args wsX6_out RX6 := ⟨hx, hb, hml, hown, hts⟩
  have q1 := hts _ (List.mem_of_getElem? (i := 1) (show wsX6_out[1]? = some (Cond.fieldLink RX6 54 "PartyWillModel" "aside" "[I") from rfl))
  have iX6 : ∀ w ∈ u_ws RX6 TX6 27, w ∈ wsX6_out := fun w h => List.mem_cons_of_mem _ (List.mem_append_right _ (h))
  subst hsz
  have hD := hD0.self (sz := s.heap.size)
  generalize hAe : va_A (wMo T am mguests mclause mdeeds masked mupper mlower mfinding mreadGuests misSight mat mrowSizes mrows mtextSizes mtexts mdoes mkinds msees mnow mbefore mkeeps mkept mfindings mread maside msteps mtried mbest) s.heap.size = A at hD ⊢
  have hA : ∀ q : Nat, s.heap.size ≤ q → A q := fun q h => by rw [← hAe]; exact Or.inr h
  have hS : va_S A s.heap s.heap [] := va_S.rf
  have hP : va_P D vwCl (wMo T am mguests mclause mdeeds masked mupper mlower mfinding mreadGuests misSight mat mrowSizes mrows mtextSizes mtexts mdoes mkinds msees mnow mbefore mkeeps mkept mfindings mread maside msteps mtried mbest) s.heap := hP
  obtain ⟨ls, hl, e0⟩ := my_entry (m := m) (n := 3) ha (Nat.le_of_ble_eq_true rfl)
  rw [e0]
  have hl : lv_has ls 3 [(0, .ref (am 0)), (1, .int x1)] := hl
  have key : ∀ Q : State → Prop, (∀ (H : Heap) (locs : List Loc) (pc : Nat) (ls : Array Slot), va_P D vwCl (wMo T am mguests mclause mdeeds zmasked mupper mlower mfinding mreadGuests misSight mat mrowSizes mrows mtextSizes mtexts mdoes mkinds msees mnow mbefore mkeeps mkept mfindings mread zmaside msteps mtried mbest) H → va_D A (wMo T am mguests mclause mdeeds zmasked mupper mlower mfinding mreadGuests misSight mat mrowSizes mrows mtextSizes mtexts mdoes mkinds msees mnow mbefore mkeeps mkept mfindings mread zmaside msteps mtried mbest) → va_S A s.heap H locs → decode cX6_out pc = .ok (.ireturn, 1) → W p l e ({ frames := 4, cells := 0, slots := 0, locals := 93 } : Room) s m args below meth c H locs 0 0 Q (F0 m pc ls [.int r])) → W p l e ({ frames := 4, cells := 0, slots := 0, locals := 93 } : Room) s m args below meth c s.heap [] 0 0 Q (F0 m 0 ls []) := by
    intro Q hret
    skip
    unfold fX6_out at h
    refine lv_iload_n hx hb dX6_out_0 rfl (lv_at hl 1 rfl) ?_
    obtain ⟨r1, hc, h⟩ := bd1_some h
    refine my_roz (va_Run.run (va_runS (As := [.int x1]) (rest := []) hFix (kX6_isTune l D T F x1 r1 hc) (va_cwS 1 hts gX6_out_X6_isTune rfl rfl rfl hd_X6_isTune ⟨Nat.le_of_ble_eq_true rfl, Nat.le_of_ble_eq_true rfl⟩) (preS_ro va_nil hKK) rfl rfl hl.1 rfl (lv_room (Nat.le_of_ble_eq_true rfl)) dX6_out_1 ⟨Nat.zero_le _, Nat.zero_le _⟩)) (fun hb1 => ?_)
    refine lv_if_ne (tgt := 9) hx hb dX6_out_4 (by decide) (fun c4 => ?_) (fun c4 => ?_)
    · have h := br_0 h c4
      refine lv_aload_n hx hb dX6_out_9 rfl (lv_at hl 0 rfl) ?_
      obtain ⟨w10_maside, hc, h⟩ := bd1_some h
      have hFc := my_freeS hD hS hA
      refine my_rwv (va_runV (As := []) (rest := []) hFix (kX6_layAside l D T F am mguests mclause mdeeds masked mupper mlower mfinding mreadGuests misSight mat mrowSizes mrows mtextSizes mtexts mdoes mkinds msees mnow mbefore mkeeps mkept mfindings mread maside msteps mtried mbest w10_maside hc _) (cwV 0 hts gX6_out_X6_layAside rfl rfl rfl ⟨rfl, hd_X6_layAside⟩ ⟨Nat.le_of_ble_eq_true rfl, Nat.le_of_ble_eq_true rfl⟩) (preV_rw hP hKK hD (va_recv hK hP (ci := 4) (q0 := 0) rfl wMo_0)) rfl rfl hl.1 rfl (lv_room (Nat.le_of_ble_eq_true rfl)) dX6_out_10 ⟨Nat.zero_le _, Nat.zero_le _⟩) hS hFc (fun H1 locs hP1 hD1 hz1 hkk hS => ?_)
      have hP : va_P D vwCl (wMo T am mguests mclause mdeeds masked mupper mlower mfinding mreadGuests misSight mat mrowSizes mrows mtextSizes mtexts mdoes mkinds msees mnow mbefore mkeeps mkept mfindings mread w10_maside msteps mtried mbest) H1 := hP1
      have hD : va_D A (wMo T am mguests mclause mdeeds masked mupper mlower mfinding mreadGuests misSight mat mrowSizes mrows mtextSizes mtexts mdoes mkinds msees mnow mbefore mkeeps mkept mfindings mread w10_maside msteps mtried mbest) := hD1.weaken (fun _ q _ h => hFc q.1 h)
      generalize H1 = H at hP hS ⊢
      refine lv_aload_n hx hb dX6_out_13 rfl (lv_at hl 0 rfl) ?_
      refine lv_aload_n hx hb dX6_out_14 rfl (lv_at hl 0 rfl) ?_
      refine va_get (D := D) (ci := 4) (C := RX6) (T := TX6) (N := 27) hx hb hts iX6 hown hK hP 0 wMo_0 rfl 23 (by decide) q1 (fun _ h9 => h9) rfl dX6_out_15 ?_
      refine lv_iload_n hx hb dX6_out_18 rfl (lv_at hl 1 rfl) ?_
      obtain ⟨r19, w19_tt, hc, h⟩ := bd2_some h
      have hPc : va_P D vwCl (wMp T am (am 14) mguests mclause mdeeds masked mupper mlower mfinding mreadGuests misSight mat mdoes mkinds msees w10_maside) _ := my_subP sb_wMo_wMp_0_5_6_7_14 hP
      have hDc := hD.sub [0, 5, 6, 7, 14] (by decide) sb_wMo_wMp_0_5_6_7_14
      have hFc := va_free hD hS hA [0, 5, 6, 7, 14] sb_wMo_wMp_0_5_6_7_14
      refine my_rwi (va_runV (As := [.ref (am 14), .int x1]) (rest := []) hFix (kX6_plays l D T F am (am 14) mguests mclause mdeeds masked mupper mlower mfinding mreadGuests misSight mat mdoes mkinds msees w10_maside x1 r19 w19_tt hc _) (cwV 2 hts gX6_out_X6_plays rfl rfl rfl ⟨rfl, hd_X6_plays⟩ ⟨Nat.le_of_ble_eq_true rfl, Nat.le_of_ble_eq_true rfl⟩) (preV_rw hPc hKK hDc (va_recv hK hP (ci := 4) (q0 := 0) rfl wMo_0)) rfl rfl hl.1 rfl (lv_room (Nat.le_of_ble_eq_true rfl)) dX6_out_19 ⟨Nat.zero_le _, Nat.zero_le _⟩) hS hFc (fun H1 locs hP1 hD1 hz1 hkk hS => ?_)
      obtain ⟨hP, hD⟩ := my_joinS hP hD (by decide) sb_wMo_wMp_0_5_6_7_14 (by rfl) hkk hFc hP1 hD1
      rw [st_wMo_wMp_0_5_6_7_14_plays] at hP hD
      generalize H1 = H at hP hS ⊢
      refine lv_istore_n (lv' := [(2, .int r19), (0, .ref (am 0)), (1, .int x1)]) hx hb dX6_out_22 rfl hl (by decide) rfl (fun ls hl => ?_)
      refine lv_aload_n hx hb dX6_out_23 rfl (lv_at hl 1 rfl) ?_
      refine lv_iload_n hx hb dX6_out_24 rfl (lv_at hl 0 rfl) ?_
      refine lv_aload_n hx hb dX6_out_25 rfl (lv_at hl 1 rfl) ?_
      refine va_get (D := D) (ci := 4) (C := RX6) (T := TX6) (N := 27) hx hb hts iX6 hown hK hP 0 wMo_0 rfl 23 (by decide) q1 (fun _ h9 => h9) rfl dX6_out_26 ?_
      obtain ⟨r29, hc, h⟩ := bd1_some h
      have hPc : va_P D vwCl (wA1 T (am 14) 7 w19_tt) _ := my_subP sb_wMo_wA1_14 hP
      refine my_roi (va_Run.run (va_runS (As := [.ref (am 14)]) (rest := [.int r19, .ref (am 0)]) hFix (kX6_sumOf l D T F (am 14) 7 w19_tt r29 hc) (va_cwS 1 hts gX6_out_X6_sumOf rfl rfl rfl hd_X6_sumOf ⟨Nat.le_of_ble_eq_true rfl, Nat.le_of_ble_eq_true rfl⟩) (preS_ro hPc hKK) rfl rfl hl.1 rfl (lv_room (Nat.le_of_ble_eq_true rfl)) dX6_out_29 ⟨Nat.zero_le _, Nat.zero_le _⟩)) ?_
      obtain ⟨r32, w32_masked, hc, h⟩ := bd2_some h
      have hFc := my_freeS hD hS hA
      refine my_rwi (va_runV (As := [.int r19, .int r29]) (rest := []) hFix (kX6_answer l D T F am mguests mclause mdeeds masked mupper mlower mfinding mreadGuests misSight mat mrowSizes mrows mtextSizes mtexts mdoes mkinds msees mnow mbefore mkeeps mkept mfindings mread w19_tt msteps mtried mbest r19 r29 r32 w32_masked hc _) (cwV 2 hts gX6_out_X6_answer rfl rfl rfl ⟨rfl, hd_X6_answer⟩ ⟨Nat.le_of_ble_eq_true rfl, Nat.le_of_ble_eq_true rfl⟩) (preV_rw hP hKK hD (va_recv hK hP (ci := 4) (q0 := 0) rfl wMo_0)) rfl rfl hl.1 rfl (lv_room (Nat.le_of_ble_eq_true rfl)) dX6_out_32 ⟨Nat.zero_le _, Nat.zero_le _⟩) hS hFc (fun H1 locs hP1 hD1 hz1 hkk hS => ?_)
      have hP : va_P D vwCl (wMo T am mguests mclause mdeeds w32_masked mupper mlower mfinding mreadGuests misSight mat mrowSizes mrows mtextSizes mtexts mdoes mkinds msees mnow mbefore mkeeps mkept mfindings mread w19_tt msteps mtried mbest) H1 := hP1
      have hD : va_D A (wMo T am mguests mclause mdeeds w32_masked mupper mlower mfinding mreadGuests misSight mat mrowSizes mrows mtextSizes mtexts mdoes mkinds msees mnow mbefore mkeeps mkept mfindings mread w19_tt msteps mtried mbest) := hD1.weaken (fun _ q _ h => hFc q.1 h)
      generalize H1 = H at hP hS ⊢
      cases h
      exact hret _ _ _ _ hP hD hS dX6_out_35
    · have h := br_1 h c4
      refine lv_iconst (v := (-1 : Int32)) hx hb dX6_out_7 (by decide) ?_
      cases h
      exact hret _ _ _ _ hP hD hS dX6_out_8
  exact key _ (fun H locs pc ls hP hD hS hd => W.iret hx hb hr (fun t ht hW => ⟨⟨_, (), rfl, rfl, by show _ ∧ _; rw [ht]; exact ⟨hP, hD⟩⟩, hS.F ht⟩) hS.2.2 hd)
