set_option maxHeartbeats 4000000 in
set_option maxRecDepth 100000 in
theorem kX6_odds (l : Launch) (D : va_G) (T : Nat → ClassId) (F : Nat) (am : Nat → Nat) (mguests : Int32) (mclause : Int32) (mdeeds : Int32) (masked : Int32) (mupper : Int64) (mlower : Int64) (mfinding : Int32) (mreadGuests : Int32) (misSight : Int32) (mat : Int32) (mrowSizes : Nat → Int32) (mrows : Nat → Int32) (mtextSizes : Nat → Int32) (mtexts : Nat → Int32) (mdoes : Nat → Int32) (mkinds : Nat → Int32) (msees : Nat → Int32) (mnow : Nat → Int32) (mbefore : Nat → Int32) (mkeeps : Nat → Int32) (mkept : Nat → Int32) (mfindings : Nat → Int32) (mread : Nat → Int32) (maside : Nat → Int32) (msteps : Nat → Int32) (mtried : Nat → Int32) (mbest : Nat → Int32) (x1 : Int32) (r : Int32) (zmupper : Int64) (zmlower : Int64) (zmaside : Nat → Int32) (h : fX6_odds F mguests mclause mupper mlower mdoes mkinds msees mnow maside x1 = some (r, zmupper, zmlower, zmaside)) : ∀ sz : Nat, Met l yX6_odds wsX6_odds ({ frames := 5, cells := 0, slots := 0, locals := 117 } : Room) (va_Pc [.ref (am 0), .int x1] (fun U => U.heap.size = sz ∧ va_P D vwCl (wMo T am mguests mclause mdeeds masked mupper mlower mfinding mreadGuests misSight mat mrowSizes mrows mtextSizes mtexts mdoes mkinds msees mnow mbefore mkeeps mkept mfindings mread maside msteps mtried mbest) U.heap ∧ KK D T U ∧ va_D (fun _ => True) (wMo T am mguests mclause mdeeds masked mupper mlower mfinding mreadGuests misSight mat mrowSizes mrows mtextSizes mtexts mdoes mkinds msees mnow mbefore mkeeps mkept mfindings mread maside msteps mtried mbest))) (va_Qi (fun r' (_ : Unit) => r' = r) (fun _ t => va_P D vwCl (wMo T am mguests mclause mdeeds masked zmupper zmlower mfinding mreadGuests misSight mat mrowSizes mrows mtextSizes mtexts mdoes mkinds msees mnow mbefore mkeeps mkept mfindings mread zmaside msteps mtried mbest) t.heap ∧ va_D (va_A (wMo T am mguests mclause mdeeds masked mupper mlower mfinding mreadGuests misSight mat mrowSizes mrows mtextSizes mtexts mdoes mkinds msees mnow mbefore mkeeps mkept mfindings mread maside msteps mtried mbest) sz) (wMo T am mguests mclause mdeeds masked zmupper zmlower mfinding mreadGuests misSight mat mrowSizes mrows mtextSizes mtexts mdoes mkinds msees mnow mbefore mkeeps mkept mfindings mread zmaside msteps mtried mbest)) (va_A (wMo T am mguests mclause mdeeds masked mupper mlower mfinding mreadGuests misSight mat mrowSizes mrows mtextSizes mtexts mdoes mkinds msees mnow mbefore mkeeps mkept mfindings mread maside msteps mtried mbest) sz)) 0 0 (va_A (wMo T am mguests mclause mdeeds masked mupper mlower mfinding mreadGuests misSight mat mrowSizes mrows mtextSizes mtexts mdoes mkinds msees mnow mbefore mkeeps mkept mfindings mread maside msteps mtried mbest) sz) := by
  intro sz
  refine Met.ofW (cc := cX6_odds) (maxL := 4) (ret := some .int) (by decide) rfl ?_
  intro p e s m args below meth c s₁ B hml hv
  obtain ⟨ha, hsz, hP, hKK, hD0⟩ := hv
  have hx := B.exec
  have hb := B.bytes
  have hr := B.returns
  have hts := atoms_spec (ws := wsX6_odds) B.pre
  have hown : s.vm.findClass RX6 = some m.cls := findClass_of_methodNamed B.named
  have hlocks := B.notSynchronized
  have hK := hKK.1
  have hFix : CallFix p m c cX6_odds 4 s args wsX6_odds RX6 := ⟨hx, hb, hml, hown, hts⟩
  have q1 := hts _ (List.mem_of_getElem? (i := 1) (show wsX6_odds[1]? = some (Cond.fieldLink RX6 131 "PartyWillModel" "guests" "I") from rfl))
  have iX6 : ∀ w ∈ u_ws RX6 TX6 27, w ∈ wsX6_odds := fun w h => List.mem_cons_of_mem _ (List.mem_append_right _ (h))
  subst hsz
  have hD := hD0.self (sz := s.heap.size)
  generalize hAe : va_A (wMo T am mguests mclause mdeeds masked mupper mlower mfinding mreadGuests misSight mat mrowSizes mrows mtextSizes mtexts mdoes mkinds msees mnow mbefore mkeeps mkept mfindings mread maside msteps mtried mbest) s.heap.size = A at hD ⊢
  have hA : ∀ q : Nat, s.heap.size ≤ q → A q := fun q h => by rw [← hAe]; exact Or.inr h
  have hS : va_S A s.heap s.heap [] := va_S.rf
  have hP : va_P D vwCl (wMo T am mguests mclause mdeeds masked mupper mlower mfinding mreadGuests misSight mat mrowSizes mrows mtextSizes mtexts mdoes mkinds msees mnow mbefore mkeeps mkept mfindings mread maside msteps mtried mbest) s.heap := hP
  obtain ⟨ls, hl, e0⟩ := my_entry (m := m) (n := 4) ha (Nat.le_of_ble_eq_true rfl)
  rw [e0]
  have hl : lv_has ls 4 [(0, .ref (am 0)), (1, .int x1)] := hl
  have key : ∀ Q : State → Prop, (∀ (H : Heap) (locs : List Loc) (pc : Nat) (ls : Array Slot), va_P D vwCl (wMo T am mguests mclause mdeeds masked zmupper zmlower mfinding mreadGuests misSight mat mrowSizes mrows mtextSizes mtexts mdoes mkinds msees mnow mbefore mkeeps mkept mfindings mread zmaside msteps mtried mbest) H → va_D A (wMo T am mguests mclause mdeeds masked zmupper zmlower mfinding mreadGuests misSight mat mrowSizes mrows mtextSizes mtexts mdoes mkinds msees mnow mbefore mkeeps mkept mfindings mread zmaside msteps mtried mbest) → va_S A s.heap H locs → decode cX6_odds pc = .ok (.ireturn, 1) → W p l e ({ frames := 5, cells := 0, slots := 0, locals := 117 } : Room) s m args below meth c H locs 0 0 Q (F0 m pc ls [.int r])) → W p l e ({ frames := 5, cells := 0, slots := 0, locals := 117 } : Room) s m args below meth c s.heap [] 0 0 Q (F0 m 0 ls []) := by
    intro Q hret
    skip
    have l23 : ∀ x1 : Int32, ∀ mupper : Int64, ∀ mlower : Int64, ∀ nu : Nat, ∀ x2 : Int32, ∀ x3 : Int32, ∀ maside : Nat → Int32, fX6_odds_l23 F mguests mclause mdoes mkinds msees mnow x1 mupper mlower nu x2 x3 maside = some (r, zmupper, zmlower, zmaside) → ∀ (H : Heap) (locs : List Loc), va_P D vwCl (wMo T am mguests mclause mdeeds masked mupper mlower mfinding mreadGuests misSight mat mrowSizes mrows mtextSizes mtexts mdoes mkinds msees mnow mbefore mkeeps mkept mfindings mread maside msteps mtried mbest) H → va_D A (wMo T am mguests mclause mdeeds masked mupper mlower mfinding mreadGuests misSight mat mrowSizes mrows mtextSizes mtexts mdoes mkinds msees mnow mbefore mkeeps mkept mfindings mread maside msteps mtried mbest) → va_S A s.heap H locs → ∀ (ls : Array Slot), lv_has ls 4 [(0, .ref (am 0)), (1, .int x1), (2, .int x2), (3, .int x3)] → W p l e ({ frames := 5, cells := 0, slots := 0, locals := 117 } : Room) s m args below meth c H locs 0 0 Q (F0 m 23 ls []) := by
      intro x1 mupper mlower
      intro nu
      induction nu with
      | zero => intro x2 x3 maside h; exact none_some h
      | succ nu23 ih23 =>
        intro x2 x3 maside h H locs hP hD hS ls hl
        have h : fX6_odds_l23_b F mguests mclause mdoes mkinds msees mnow x1 mupper mlower (fX6_odds_l23 F mguests mclause mdoes mkinds msees mnow x1 mupper mlower nu23) x2 x3 maside = some (r, zmupper, zmlower, zmaside) := h
        unfold fX6_odds_l23_b at h
        refine lv_iload_n hx hb dX6_odds_23 rfl (lv_at hl 3 rfl) ?_
        refine lv_iload_n hx hb dX6_odds_24 rfl (lv_at hl 1 rfl) ?_
        obtain ⟨r25, hc, h⟩ := bd1_some h
        refine my_roi (va_Run.run (va_runS (As := [.int x1]) (rest := [.int x3]) hFix (kX6_codes l D T F x1 r25 hc) (va_cwS 1 hts gX6_odds_X6_codes rfl rfl rfl hd_X6_codes ⟨Nat.le_of_ble_eq_true rfl, Nat.le_of_ble_eq_true rfl⟩) (preS_ro va_nil hKK) rfl rfl hl.1 rfl (lv_room (Nat.le_of_ble_eq_true rfl)) dX6_odds_25 ⟨Nat.zero_le _, Nat.zero_le _⟩)) ?_
        refine lv_icmp_ge (tgt := 54) hx hb dX6_odds_28 (by decide) (fun c28 => ?_) (fun c28 => ?_)
        · have h := br_1 h c28
          refine lv_aload_n hx hb dX6_odds_54 rfl (lv_at hl 0 rfl) ?_
          refine lv_iload_n hx hb dX6_odds_55 rfl (lv_at hl 2 rfl) ?_
          refine lv_i2l (v := (x2.toInt64)) hx hb dX6_odds_56 rfl ?_
          refine lv_iload_n hx hb dX6_odds_57 rfl (lv_at hl 1 rfl) ?_
          obtain ⟨r58, hc, h⟩ := bd1_some h
          refine my_roi (va_Run.run (va_runS (As := [.int x1]) (rest := [.long (x2.toInt64), .ref (am 0)]) hFix (kX6_codes l D T F x1 r58 hc) (va_cwS 1 hts gX6_odds_X6_codes rfl rfl rfl hd_X6_codes ⟨Nat.le_of_ble_eq_true rfl, Nat.le_of_ble_eq_true rfl⟩) (preS_ro va_nil hKK) rfl rfl hl.1 rfl (lv_room (Nat.le_of_ble_eq_true rfl)) dX6_odds_58 ⟨Nat.zero_le _, Nat.zero_le _⟩)) ?_
          refine lv_i2l (v := (r58.toInt64)) hx hb dX6_odds_61 rfl ?_
          obtain ⟨r62, w62_mupper, w62_mlower, hc, h⟩ := bd3_some h
          have hFc := my_freeS hD hS hA
          refine my_rwi (va_runV (As := [.long (x2.toInt64), .long (r58.toInt64)]) (rest := []) hFix (kX6_fraction l D T F am mguests mclause mdeeds masked mupper mlower mfinding mreadGuests misSight mat mrowSizes mrows mtextSizes mtexts mdoes mkinds msees mnow mbefore mkeeps mkept mfindings mread maside msteps mtried mbest (x2.toInt64) (r58.toInt64) r62 w62_mupper w62_mlower hc _) (cwV 2 hts gX6_odds_X6_fraction rfl rfl rfl ⟨rfl, hd_X6_fraction⟩ ⟨Nat.le_of_ble_eq_true rfl, Nat.le_of_ble_eq_true rfl⟩) (preV_rw hP hKK hD (va_recv hK hP (ci := 4) (q0 := 0) rfl wMo_0)) rfl rfl hl.1 rfl (lv_room (Nat.le_of_ble_eq_true rfl)) dX6_odds_62 ⟨Nat.zero_le _, Nat.zero_le _⟩) hS hFc (fun H1 locs hP1 hD1 hz1 hkk hS => ?_)
          have hP : va_P D vwCl (wMo T am mguests mclause mdeeds masked w62_mupper w62_mlower mfinding mreadGuests misSight mat mrowSizes mrows mtextSizes mtexts mdoes mkinds msees mnow mbefore mkeeps mkept mfindings mread maside msteps mtried mbest) H1 := hP1
          have hD : va_D A (wMo T am mguests mclause mdeeds masked w62_mupper w62_mlower mfinding mreadGuests misSight mat mrowSizes mrows mtextSizes mtexts mdoes mkinds msees mnow mbefore mkeeps mkept mfindings mread maside msteps mtried mbest) := hD1.weaken (fun _ q _ h => hFc q.1 h)
          generalize H1 = H at hP hS ⊢
          cases h
          exact hret _ _ _ _ hP hD hS dX6_odds_65
        · have h := br_0 h c28
          refine lv_iload_n hx hb dX6_odds_31 rfl (lv_at hl 2 rfl) ?_
          refine lv_aload_n hx hb dX6_odds_32 rfl (lv_at hl 0 rfl) ?_
          refine lv_iload_n hx hb dX6_odds_33 rfl (lv_at hl 1 rfl) ?_
          refine lv_iload_n hx hb dX6_odds_34 rfl (lv_at hl 3 rfl) ?_
          obtain ⟨r35, w35_maside, hc, h⟩ := bd2_some h
          have hFc := my_freeS hD hS hA
          refine my_rwi (va_runV (As := [.int x1, .int x3]) (rest := [.int x2]) hFix (kX6_fallen l D T F am mguests mclause mdeeds masked mupper mlower mfinding mreadGuests misSight mat mrowSizes mrows mtextSizes mtexts mdoes mkinds msees mnow mbefore mkeeps mkept mfindings mread maside msteps mtried mbest x1 x3 r35 w35_maside hc _) (cwV 2 hts gX6_odds_X6_fallen rfl rfl rfl ⟨rfl, hd_X6_fallen⟩ ⟨Nat.le_of_ble_eq_true rfl, Nat.le_of_ble_eq_true rfl⟩) (preV_rw hP hKK hD (va_recv hK hP (ci := 4) (q0 := 0) rfl wMo_0)) rfl rfl hl.1 rfl (lv_room (Nat.le_of_ble_eq_true rfl)) dX6_odds_35 ⟨Nat.zero_le _, Nat.zero_le _⟩) hS hFc (fun H1 locs hP1 hD1 hz1 hkk hS => ?_)
          have hP : va_P D vwCl (wMo T am mguests mclause mdeeds masked mupper mlower mfinding mreadGuests misSight mat mrowSizes mrows mtextSizes mtexts mdoes mkinds msees mnow mbefore mkeeps mkept mfindings mread w35_maside msteps mtried mbest) H1 := hP1
          have hD : va_D A (wMo T am mguests mclause mdeeds masked mupper mlower mfinding mreadGuests misSight mat mrowSizes mrows mtextSizes mtexts mdoes mkinds msees mnow mbefore mkeeps mkept mfindings mread w35_maside msteps mtried mbest) := hD1.weaken (fun _ q _ h => hFc q.1 h)
          generalize H1 = H at hP hS ⊢
          refine lv_if_ne (tgt := 45) hx hb dX6_odds_38 (by decide) (fun c38 => ?_) (fun c38 => ?_)
          · have h := br_0 h c38
            refine lv_iconst (v := (0 : Int32)) hx hb dX6_odds_45 (by decide) ?_
            refine lv_iadd hx hb dX6_odds_46 ?_
            refine lv_istore_n (lv' := [(2, .int (x2 + (0 : Int32))), (0, .ref (am 0)), (1, .int x1), (3, .int x3)]) hx hb dX6_odds_47 rfl hl (by decide) rfl (fun ls hl => ?_)
            refine lv_iinc (v := (x3 + (1 : Int32))) (lv' := [(3, .int (x3 + (1 : Int32))), (2, .int (x2 + (0 : Int32))), (0, .ref (am 0)), (1, .int x1)]) hx hb dX6_odds_48 hl (k := 3) rfl rfl (by decide) rfl (fun ls hl => ?_)
            refine lv_goto (tgt := 23) hx hb dX6_odds_51 (by decide) ?_
            exact ih23 (x2 + (0 : Int32)) (x3 + (1 : Int32)) w35_maside h _ _ hP hD hS _ (lv_sub hl [2, 3, 1, 0] rfl)
          · have h := br_1 h c38
            refine lv_iconst (v := (1 : Int32)) hx hb dX6_odds_41 (by decide) ?_
            refine lv_goto (tgt := 46) hx hb dX6_odds_42 (by decide) ?_
            refine lv_iadd hx hb dX6_odds_46 ?_
            refine lv_istore_n (lv' := [(2, .int (x2 + (1 : Int32))), (0, .ref (am 0)), (1, .int x1), (3, .int x3)]) hx hb dX6_odds_47 rfl hl (by decide) rfl (fun ls hl => ?_)
            refine lv_iinc (v := (x3 + (1 : Int32))) (lv' := [(3, .int (x3 + (1 : Int32))), (2, .int (x2 + (1 : Int32))), (0, .ref (am 0)), (1, .int x1)]) hx hb dX6_odds_48 hl (k := 3) rfl rfl (by decide) rfl (fun ls hl => ?_)
            refine lv_goto (tgt := 23) hx hb dX6_odds_51 (by decide) ?_
            exact ih23 (x2 + (1 : Int32)) (x3 + (1 : Int32)) w35_maside h _ _ hP hD hS _ (lv_sub hl [2, 3, 1, 0] rfl)
    unfold fX6_odds at h
    refine lv_iload_n hx hb dX6_odds_0 rfl (lv_at hl 1 rfl) ?_
    obtain ⟨r1, hc, h⟩ := bd1_some h
    refine my_roz (va_Run.run (va_runS (As := [.int x1]) (rest := []) hFix (kX6_isLength l D T F x1 r1 hc) (va_cwS 1 hts gX6_odds_X6_isLength rfl rfl rfl hd_X6_isLength ⟨Nat.le_of_ble_eq_true rfl, Nat.le_of_ble_eq_true rfl⟩) (preS_ro va_nil hKK) rfl rfl hl.1 rfl (lv_room (Nat.le_of_ble_eq_true rfl)) dX6_odds_1 ⟨Nat.zero_le _, Nat.zero_le _⟩)) (fun hb1 => ?_)
    refine lv_if_ne (tgt := 9) hx hb dX6_odds_4 (by decide) (fun c4 => ?_) (fun c4 => ?_)
    · have h := br_0 h c4
      refine lv_aload_n hx hb dX6_odds_9 rfl (lv_at hl 0 rfl) ?_
      refine va_get (D := D) (ci := 4) (C := RX6) (T := TX6) (N := 27) hx hb hts iX6 hown hK hP 0 wMo_0 rfl 4 (by decide) q1 (fun _ h9 => h9) rfl dX6_odds_10 ?_
      refine lv_if_ne (tgt := 19) hx hb dX6_odds_13 (by decide) (fun c13 => ?_) (fun c13 => ?_)
      · have h := br_0 h c13
        refine lv_iconst (v := (0 : Int32)) hx hb dX6_odds_19 (by decide) ?_
        refine lv_istore_n (lv' := [(2, .int (0 : Int32)), (0, .ref (am 0)), (1, .int x1)]) hx hb dX6_odds_20 rfl hl (by decide) rfl (fun ls hl => ?_)
        refine lv_iconst (v := (0 : Int32)) hx hb dX6_odds_21 (by decide) ?_
        refine lv_istore_n (lv' := [(3, .int (0 : Int32)), (2, .int (0 : Int32)), (0, .ref (am 0)), (1, .int x1)]) hx hb dX6_odds_22 rfl hl (by decide) rfl (fun ls hl => ?_)
        exact l23 x1 mupper mlower F (0 : Int32) (0 : Int32) maside h _ _ hP hD hS _ (lv_sub hl [2, 3, 1, 0] rfl)
      · have h := br_1 h c13
        refine lv_bipush (v := (-4 : Int32)) hx hb dX6_odds_16 (by decide) ?_
        cases h
        exact hret _ _ _ _ hP hD hS dX6_odds_18
    · have h := br_1 h c4
      refine lv_iconst (v := (-1 : Int32)) hx hb dX6_odds_7 (by decide) ?_
      cases h
      exact hret _ _ _ _ hP hD hS dX6_odds_8
  exact key _ (fun H locs pc ls hP hD hS hd => W.iret hx hb hr (fun t ht hW => ⟨⟨_, (), rfl, rfl, by show _ ∧ _; rw [ht]; exact ⟨hP, hD⟩⟩, hS.F ht⟩) hS.2.2 hd)
set_option maxHeartbeats 4000000 in
set_option maxRecDepth 100000 in
theorem kX6_mid (l : Launch) (D : va_G) (T : Nat → ClassId) (F : Nat) (am : Nat → Nat) (mguests : Int32) (mclause : Int32) (mdeeds : Int32) (masked : Int32) (mupper : Int64) (mlower : Int64) (mfinding : Int32) (mreadGuests : Int32) (misSight : Int32) (mat : Int32) (mrowSizes : Nat → Int32) (mrows : Nat → Int32) (mtextSizes : Nat → Int32) (mtexts : Nat → Int32) (mdoes : Nat → Int32) (mkinds : Nat → Int32) (msees : Nat → Int32) (mnow : Nat → Int32) (mbefore : Nat → Int32) (mkeeps : Nat → Int32) (mkept : Nat → Int32) (mfindings : Nat → Int32) (mread : Nat → Int32) (maside : Nat → Int32) (msteps : Nat → Int32) (mtried : Nat → Int32) (mbest : Nat → Int32) (x1 : Int32) (r : Int32) (zmupper : Int64) (zmlower : Int64) (zmaside : Nat → Int32) (h : fX6_mid F mguests mclause mupper mlower mdoes mkinds msees mnow maside x1 = some (r, zmupper, zmlower, zmaside)) : ∀ sz : Nat, Met l yX6_mid wsX6_mid ({ frames := 5, cells := 0, slots := 0, locals := 117 } : Room) (va_Pc [.ref (am 0), .int x1] (fun U => U.heap.size = sz ∧ va_P D vwCl (wMo T am mguests mclause mdeeds masked mupper mlower mfinding mreadGuests misSight mat mrowSizes mrows mtextSizes mtexts mdoes mkinds msees mnow mbefore mkeeps mkept mfindings mread maside msteps mtried mbest) U.heap ∧ KK D T U ∧ va_D (fun _ => True) (wMo T am mguests mclause mdeeds masked mupper mlower mfinding mreadGuests misSight mat mrowSizes mrows mtextSizes mtexts mdoes mkinds msees mnow mbefore mkeeps mkept mfindings mread maside msteps mtried mbest))) (va_Qi (fun r' (_ : Unit) => r' = r) (fun _ t => va_P D vwCl (wMo T am mguests mclause mdeeds masked zmupper zmlower mfinding mreadGuests misSight mat mrowSizes mrows mtextSizes mtexts mdoes mkinds msees mnow mbefore mkeeps mkept mfindings mread zmaside msteps mtried mbest) t.heap ∧ va_D (va_A (wMo T am mguests mclause mdeeds masked mupper mlower mfinding mreadGuests misSight mat mrowSizes mrows mtextSizes mtexts mdoes mkinds msees mnow mbefore mkeeps mkept mfindings mread maside msteps mtried mbest) sz) (wMo T am mguests mclause mdeeds masked zmupper zmlower mfinding mreadGuests misSight mat mrowSizes mrows mtextSizes mtexts mdoes mkinds msees mnow mbefore mkeeps mkept mfindings mread zmaside msteps mtried mbest)) (va_A (wMo T am mguests mclause mdeeds masked mupper mlower mfinding mreadGuests misSight mat mrowSizes mrows mtextSizes mtexts mdoes mkinds msees mnow mbefore mkeeps mkept mfindings mread maside msteps mtried mbest) sz)) 0 0 (va_A (wMo T am mguests mclause mdeeds masked mupper mlower mfinding mreadGuests misSight mat mrowSizes mrows mtextSizes mtexts mdoes mkinds msees mnow mbefore mkeeps mkept mfindings mread maside msteps mtried mbest) sz) := by
  intro sz
  refine Met.ofW (cc := cX6_mid) (maxL := 4) (ret := some .int) (by decide) rfl ?_
  intro p e s m args below meth c s₁ B hml hv
  obtain ⟨ha, hsz, hP, hKK, hD0⟩ := hv
  have hx := B.exec
  have hb := B.bytes
  have hr := B.returns
  have hts := atoms_spec (ws := wsX6_mid) B.pre
  have hown : s.vm.findClass RX6 = some m.cls := findClass_of_methodNamed B.named
  have hlocks := B.notSynchronized
  have hK := hKK.1
  have hFix : CallFix p m c cX6_mid 4 s args wsX6_mid RX6 := ⟨hx, hb, hml, hown, hts⟩
  have q1 := hts _ (List.mem_of_getElem? (i := 1) (show wsX6_mid[1]? = some (Cond.fieldLink RX6 131 "PartyWillModel" "guests" "I") from rfl))
  have iX6 : ∀ w ∈ u_ws RX6 TX6 27, w ∈ wsX6_mid := fun w h => List.mem_cons_of_mem _ (List.mem_append_right _ (h))
  subst hsz
  have hD := hD0.self (sz := s.heap.size)
  generalize hAe : va_A (wMo T am mguests mclause mdeeds masked mupper mlower mfinding mreadGuests misSight mat mrowSizes mrows mtextSizes mtexts mdoes mkinds msees mnow mbefore mkeeps mkept mfindings mread maside msteps mtried mbest) s.heap.size = A at hD ⊢
  have hA : ∀ q : Nat, s.heap.size ≤ q → A q := fun q h => by rw [← hAe]; exact Or.inr h
  have hS : va_S A s.heap s.heap [] := va_S.rf
  have hP : va_P D vwCl (wMo T am mguests mclause mdeeds masked mupper mlower mfinding mreadGuests misSight mat mrowSizes mrows mtextSizes mtexts mdoes mkinds msees mnow mbefore mkeeps mkept mfindings mread maside msteps mtried mbest) s.heap := hP
  obtain ⟨ls, hl, e0⟩ := my_entry (m := m) (n := 4) ha (Nat.le_of_ble_eq_true rfl)
  rw [e0]
  have hl : lv_has ls 4 [(0, .ref (am 0)), (1, .int x1)] := hl
  have key : ∀ Q : State → Prop, (∀ (H : Heap) (locs : List Loc) (pc : Nat) (ls : Array Slot), va_P D vwCl (wMo T am mguests mclause mdeeds masked zmupper zmlower mfinding mreadGuests misSight mat mrowSizes mrows mtextSizes mtexts mdoes mkinds msees mnow mbefore mkeeps mkept mfindings mread zmaside msteps mtried mbest) H → va_D A (wMo T am mguests mclause mdeeds masked zmupper zmlower mfinding mreadGuests misSight mat mrowSizes mrows mtextSizes mtexts mdoes mkinds msees mnow mbefore mkeeps mkept mfindings mread zmaside msteps mtried mbest) → va_S A s.heap H locs → decode cX6_mid pc = .ok (.ireturn, 1) → W p l e ({ frames := 5, cells := 0, slots := 0, locals := 117 } : Room) s m args below meth c H locs 0 0 Q (F0 m pc ls [.int r])) → W p l e ({ frames := 5, cells := 0, slots := 0, locals := 117 } : Room) s m args below meth c s.heap [] 0 0 Q (F0 m 0 ls []) := by
    intro Q hret
    skip
    have l23 : ∀ x1 : Int32, ∀ mupper : Int64, ∀ mlower : Int64, ∀ nu : Nat, ∀ x2 : Int32, ∀ x3 : Int32, ∀ maside : Nat → Int32, fX6_mid_l23 F mguests mclause mdoes mkinds msees mnow x1 mupper mlower nu x2 x3 maside = some (r, zmupper, zmlower, zmaside) → ∀ (H : Heap) (locs : List Loc), va_P D vwCl (wMo T am mguests mclause mdeeds masked mupper mlower mfinding mreadGuests misSight mat mrowSizes mrows mtextSizes mtexts mdoes mkinds msees mnow mbefore mkeeps mkept mfindings mread maside msteps mtried mbest) H → va_D A (wMo T am mguests mclause mdeeds masked mupper mlower mfinding mreadGuests misSight mat mrowSizes mrows mtextSizes mtexts mdoes mkinds msees mnow mbefore mkeeps mkept mfindings mread maside msteps mtried mbest) → va_S A s.heap H locs → ∀ (ls : Array Slot), lv_has ls 4 [(0, .ref (am 0)), (1, .int x1), (2, .int x2), (3, .int x3)] → W p l e ({ frames := 5, cells := 0, slots := 0, locals := 117 } : Room) s m args below meth c H locs 0 0 Q (F0 m 23 ls []) := by
      intro x1 mupper mlower
      intro nu
      induction nu with
      | zero => intro x2 x3 maside h; exact none_some h
      | succ nu23 ih23 =>
        intro x2 x3 maside h H locs hP hD hS ls hl
        have h : fX6_mid_l23_b F mguests mclause mdoes mkinds msees mnow x1 mupper mlower (fX6_mid_l23 F mguests mclause mdoes mkinds msees mnow x1 mupper mlower nu23) x2 x3 maside = some (r, zmupper, zmlower, zmaside) := h
        unfold fX6_mid_l23_b at h
        refine lv_iload_n hx hb dX6_mid_23 rfl (lv_at hl 3 rfl) ?_
        refine lv_iload_n hx hb dX6_mid_24 rfl (lv_at hl 1 rfl) ?_
        obtain ⟨r25, hc, h⟩ := bd1_some h
        refine my_roi (va_Run.run (va_runS (As := [.int x1]) (rest := [.int x3]) hFix (kX6_codes l D T F x1 r25 hc) (va_cwS 1 hts gX6_mid_X6_codes rfl rfl rfl hd_X6_codes ⟨Nat.le_of_ble_eq_true rfl, Nat.le_of_ble_eq_true rfl⟩) (preS_ro va_nil hKK) rfl rfl hl.1 rfl (lv_room (Nat.le_of_ble_eq_true rfl)) dX6_mid_25 ⟨Nat.zero_le _, Nat.zero_le _⟩)) ?_
        refine lv_icmp_ge (tgt := 46) hx hb dX6_mid_28 (by decide) (fun c28 => ?_) (fun c28 => ?_)
        · have h := br_1 h c28
          refine lv_aload_n hx hb dX6_mid_46 rfl (lv_at hl 0 rfl) ?_
          refine lv_iload_n hx hb dX6_mid_47 rfl (lv_at hl 2 rfl) ?_
          refine lv_i2l (v := (x2.toInt64)) hx hb dX6_mid_48 rfl ?_
          refine lv_iload_n hx hb dX6_mid_49 rfl (lv_at hl 1 rfl) ?_
          obtain ⟨r50, hc, h⟩ := bd1_some h
          refine my_roi (va_Run.run (va_runS (As := [.int x1]) (rest := [.long (x2.toInt64), .ref (am 0)]) hFix (kX6_codes l D T F x1 r50 hc) (va_cwS 1 hts gX6_mid_X6_codes rfl rfl rfl hd_X6_codes ⟨Nat.le_of_ble_eq_true rfl, Nat.le_of_ble_eq_true rfl⟩) (preS_ro va_nil hKK) rfl rfl hl.1 rfl (lv_room (Nat.le_of_ble_eq_true rfl)) dX6_mid_50 ⟨Nat.zero_le _, Nat.zero_le _⟩)) ?_
          refine lv_i2l (v := (r50.toInt64)) hx hb dX6_mid_53 rfl ?_
          obtain ⟨r54, w54_mupper, w54_mlower, hc, h⟩ := bd3_some h
          have hFc := my_freeS hD hS hA
          refine my_rwi (va_runV (As := [.long (x2.toInt64), .long (r50.toInt64)]) (rest := []) hFix (kX6_fraction l D T F am mguests mclause mdeeds masked mupper mlower mfinding mreadGuests misSight mat mrowSizes mrows mtextSizes mtexts mdoes mkinds msees mnow mbefore mkeeps mkept mfindings mread maside msteps mtried mbest (x2.toInt64) (r50.toInt64) r54 w54_mupper w54_mlower hc _) (cwV 2 hts gX6_mid_X6_fraction rfl rfl rfl ⟨rfl, hd_X6_fraction⟩ ⟨Nat.le_of_ble_eq_true rfl, Nat.le_of_ble_eq_true rfl⟩) (preV_rw hP hKK hD (va_recv hK hP (ci := 4) (q0 := 0) rfl wMo_0)) rfl rfl hl.1 rfl (lv_room (Nat.le_of_ble_eq_true rfl)) dX6_mid_54 ⟨Nat.zero_le _, Nat.zero_le _⟩) hS hFc (fun H1 locs hP1 hD1 hz1 hkk hS => ?_)
          have hP : va_P D vwCl (wMo T am mguests mclause mdeeds masked w54_mupper w54_mlower mfinding mreadGuests misSight mat mrowSizes mrows mtextSizes mtexts mdoes mkinds msees mnow mbefore mkeeps mkept mfindings mread maside msteps mtried mbest) H1 := hP1
          have hD : va_D A (wMo T am mguests mclause mdeeds masked w54_mupper w54_mlower mfinding mreadGuests misSight mat mrowSizes mrows mtextSizes mtexts mdoes mkinds msees mnow mbefore mkeeps mkept mfindings mread maside msteps mtried mbest) := hD1.weaken (fun _ q _ h => hFc q.1 h)
          generalize H1 = H at hP hS ⊢
          cases h
          exact hret _ _ _ _ hP hD hS dX6_mid_57
        · have h := br_0 h c28
          refine lv_iload_n hx hb dX6_mid_31 rfl (lv_at hl 2 rfl) ?_
          refine lv_aload_n hx hb dX6_mid_32 rfl (lv_at hl 0 rfl) ?_
          refine lv_iload_n hx hb dX6_mid_33 rfl (lv_at hl 1 rfl) ?_
          refine lv_iload_n hx hb dX6_mid_34 rfl (lv_at hl 3 rfl) ?_
          obtain ⟨r35, w35_maside, hc, h⟩ := bd2_some h
          have hFc := my_freeS hD hS hA
          refine my_rwi (va_runV (As := [.int x1, .int x3]) (rest := [.int x2]) hFix (kX6_fallen l D T F am mguests mclause mdeeds masked mupper mlower mfinding mreadGuests misSight mat mrowSizes mrows mtextSizes mtexts mdoes mkinds msees mnow mbefore mkeeps mkept mfindings mread maside msteps mtried mbest x1 x3 r35 w35_maside hc _) (cwV 2 hts gX6_mid_X6_fallen rfl rfl rfl ⟨rfl, hd_X6_fallen⟩ ⟨Nat.le_of_ble_eq_true rfl, Nat.le_of_ble_eq_true rfl⟩) (preV_rw hP hKK hD (va_recv hK hP (ci := 4) (q0 := 0) rfl wMo_0)) rfl rfl hl.1 rfl (lv_room (Nat.le_of_ble_eq_true rfl)) dX6_mid_35 ⟨Nat.zero_le _, Nat.zero_le _⟩) hS hFc (fun H1 locs hP1 hD1 hz1 hkk hS => ?_)
          have hP : va_P D vwCl (wMo T am mguests mclause mdeeds masked mupper mlower mfinding mreadGuests misSight mat mrowSizes mrows mtextSizes mtexts mdoes mkinds msees mnow mbefore mkeeps mkept mfindings mread w35_maside msteps mtried mbest) H1 := hP1
          have hD : va_D A (wMo T am mguests mclause mdeeds masked mupper mlower mfinding mreadGuests misSight mat mrowSizes mrows mtextSizes mtexts mdoes mkinds msees mnow mbefore mkeeps mkept mfindings mread w35_maside msteps mtried mbest) := hD1.weaken (fun _ q _ h => hFc q.1 h)
          generalize H1 = H at hP hS ⊢
          refine lv_iadd hx hb dX6_mid_38 ?_
          refine lv_istore_n (lv' := [(2, .int (x2 + r35)), (0, .ref (am 0)), (1, .int x1), (3, .int x3)]) hx hb dX6_mid_39 rfl hl (by decide) rfl (fun ls hl => ?_)
          refine lv_iinc (v := (x3 + (1 : Int32))) (lv' := [(3, .int (x3 + (1 : Int32))), (2, .int (x2 + r35)), (0, .ref (am 0)), (1, .int x1)]) hx hb dX6_mid_40 hl (k := 3) rfl rfl (by decide) rfl (fun ls hl => ?_)
          refine lv_goto (tgt := 23) hx hb dX6_mid_43 (by decide) ?_
          exact ih23 (x2 + r35) (x3 + (1 : Int32)) w35_maside h _ _ hP hD hS _ (lv_sub hl [2, 3, 1, 0] rfl)
    unfold fX6_mid at h
    refine lv_iload_n hx hb dX6_mid_0 rfl (lv_at hl 1 rfl) ?_
    obtain ⟨r1, hc, h⟩ := bd1_some h
    refine my_roz (va_Run.run (va_runS (As := [.int x1]) (rest := []) hFix (kX6_isLength l D T F x1 r1 hc) (va_cwS 1 hts gX6_mid_X6_isLength rfl rfl rfl hd_X6_isLength ⟨Nat.le_of_ble_eq_true rfl, Nat.le_of_ble_eq_true rfl⟩) (preS_ro va_nil hKK) rfl rfl hl.1 rfl (lv_room (Nat.le_of_ble_eq_true rfl)) dX6_mid_1 ⟨Nat.zero_le _, Nat.zero_le _⟩)) (fun hb1 => ?_)
    refine lv_if_ne (tgt := 9) hx hb dX6_mid_4 (by decide) (fun c4 => ?_) (fun c4 => ?_)
    · have h := br_0 h c4
      refine lv_aload_n hx hb dX6_mid_9 rfl (lv_at hl 0 rfl) ?_
      refine va_get (D := D) (ci := 4) (C := RX6) (T := TX6) (N := 27) hx hb hts iX6 hown hK hP 0 wMo_0 rfl 4 (by decide) q1 (fun _ h9 => h9) rfl dX6_mid_10 ?_
      refine lv_if_ne (tgt := 19) hx hb dX6_mid_13 (by decide) (fun c13 => ?_) (fun c13 => ?_)
      · have h := br_0 h c13
        refine lv_iconst (v := (0 : Int32)) hx hb dX6_mid_19 (by decide) ?_
        refine lv_istore_n (lv' := [(2, .int (0 : Int32)), (0, .ref (am 0)), (1, .int x1)]) hx hb dX6_mid_20 rfl hl (by decide) rfl (fun ls hl => ?_)
        refine lv_iconst (v := (0 : Int32)) hx hb dX6_mid_21 (by decide) ?_
        refine lv_istore_n (lv' := [(3, .int (0 : Int32)), (2, .int (0 : Int32)), (0, .ref (am 0)), (1, .int x1)]) hx hb dX6_mid_22 rfl hl (by decide) rfl (fun ls hl => ?_)
        exact l23 x1 mupper mlower F (0 : Int32) (0 : Int32) maside h _ _ hP hD hS _ (lv_sub hl [2, 3, 1, 0] rfl)
      · have h := br_1 h c13
        refine lv_bipush (v := (-4 : Int32)) hx hb dX6_mid_16 (by decide) ?_
        cases h
        exact hret _ _ _ _ hP hD hS dX6_mid_18
    · have h := br_1 h c4
      refine lv_iconst (v := (-1 : Int32)) hx hb dX6_mid_7 (by decide) ?_
      cases h
      exact hret _ _ _ _ hP hD hS dX6_mid_8
  exact key _ (fun H locs pc ls hP hD hS hd => W.iret hx hb hr (fun t ht hW => ⟨⟨_, (), rfl, rfl, by show _ ∧ _; rw [ht]; exact ⟨hP, hD⟩⟩, hS.F ht⟩) hS.2.2 hd)
set_option maxHeartbeats 4000000 in
set_option maxRecDepth 100000 in
theorem kX6_lots (l : Launch) (D : va_G) (T : Nat → ClassId) (F : Nat) (am : Nat → Nat) (mguests : Int32) (mclause : Int32) (mdeeds : Int32) (masked : Int32) (mupper : Int64) (mlower : Int64) (mfinding : Int32) (mreadGuests : Int32) (misSight : Int32) (mat : Int32) (mrowSizes : Nat → Int32) (mrows : Nat → Int32) (mtextSizes : Nat → Int32) (mtexts : Nat → Int32) (mdoes : Nat → Int32) (mkinds : Nat → Int32) (msees : Nat → Int32) (mnow : Nat → Int32) (mbefore : Nat → Int32) (mkeeps : Nat → Int32) (mkept : Nat → Int32) (mfindings : Nat → Int32) (mread : Nat → Int32) (maside : Nat → Int32) (msteps : Nat → Int32) (mtried : Nat → Int32) (mbest : Nat → Int32) (x1 : Int32) (x2 : Int32) (r : Int32) (zmdeeds : Int32) (zmnow : Nat → Int32) (zmbefore : Nat → Int32) (h : fX6_lots F mguests mclause mdeeds mdoes mkinds msees mnow mbefore x1 x2 = some (r, zmdeeds, zmnow, zmbefore)) : ∀ sz : Nat, Met l yX6_lots wsX6_lots ({ frames := 4, cells := 0, slots := 0, locals := 93 } : Room) (va_Pc [.ref (am 0), .int x1, .int x2] (fun U => U.heap.size = sz ∧ va_P D vwCl (wMo T am mguests mclause mdeeds masked mupper mlower mfinding mreadGuests misSight mat mrowSizes mrows mtextSizes mtexts mdoes mkinds msees mnow mbefore mkeeps mkept mfindings mread maside msteps mtried mbest) U.heap ∧ KK D T U ∧ va_D (fun _ => True) (wMo T am mguests mclause mdeeds masked mupper mlower mfinding mreadGuests misSight mat mrowSizes mrows mtextSizes mtexts mdoes mkinds msees mnow mbefore mkeeps mkept mfindings mread maside msteps mtried mbest))) (va_Qi (fun r' (_ : Unit) => r' = r) (fun _ t => va_P D vwCl (wMo T am mguests mclause zmdeeds masked mupper mlower mfinding mreadGuests misSight mat mrowSizes mrows mtextSizes mtexts mdoes mkinds msees zmnow zmbefore mkeeps mkept mfindings mread maside msteps mtried mbest) t.heap ∧ va_D (va_A (wMo T am mguests mclause mdeeds masked mupper mlower mfinding mreadGuests misSight mat mrowSizes mrows mtextSizes mtexts mdoes mkinds msees mnow mbefore mkeeps mkept mfindings mread maside msteps mtried mbest) sz) (wMo T am mguests mclause zmdeeds masked mupper mlower mfinding mreadGuests misSight mat mrowSizes mrows mtextSizes mtexts mdoes mkinds msees zmnow zmbefore mkeeps mkept mfindings mread maside msteps mtried mbest)) (va_A (wMo T am mguests mclause mdeeds masked mupper mlower mfinding mreadGuests misSight mat mrowSizes mrows mtextSizes mtexts mdoes mkinds msees mnow mbefore mkeeps mkept mfindings mread maside msteps mtried mbest) sz)) 0 0 (va_A (wMo T am mguests mclause mdeeds masked mupper mlower mfinding mreadGuests misSight mat mrowSizes mrows mtextSizes mtexts mdoes mkinds msees mnow mbefore mkeeps mkept mfindings mread maside msteps mtried mbest) sz) := by
  intro sz
  refine Met.ofW (cc := cX6_lots) (maxL := 7) (ret := some .int) (by decide) rfl ?_
  intro p e s m args below meth c s₁ B hml hv
  obtain ⟨ha, hsz, hP, hKK, hD0⟩ := hv
  have hx := B.exec
  have hb := B.bytes
  have hr := B.returns
  have hts := atoms_spec (ws := wsX6_lots) B.pre
  have hown : s.vm.findClass RX6 = some m.cls := findClass_of_methodNamed B.named
  have hlocks := B.notSynchronized
  have hK := hKK.1
  have hFix : CallFix p m c cX6_lots 7 s args wsX6_lots RX6 := ⟨hx, hb, hml, hown, hts⟩
  have q1 := hts _ (List.mem_of_getElem? (i := 1) (show wsX6_lots[1]? = some (Cond.constantLong RX6 252 (20)) from rfl))
  have q2 := hts _ (List.mem_of_getElem? (i := 2) (show wsX6_lots[2]? = some (Cond.constantLong RX6 266 (2147483646)) from rfl))
  have q3 := hts _ (List.mem_of_getElem? (i := 3) (show wsX6_lots[3]? = some (Cond.fieldLink RX6 131 "PartyWillModel" "guests" "I") from rfl))
  have q4 := hts _ (List.mem_of_getElem? (i := 4) (show wsX6_lots[4]? = some (Cond.fieldLink RX6 137 "PartyWillModel" "deeds" "I") from rfl))
  have q5 := hts _ (List.mem_of_getElem? (i := 5) (show wsX6_lots[5]? = some (Cond.constantLong RX6 268 (48271)) from rfl))
  have q6 := hts _ (List.mem_of_getElem? (i := 6) (show wsX6_lots[6]? = some (Cond.constantLong RX6 270 (2147483647)) from rfl))
  have q7 := hts _ (List.mem_of_getElem? (i := 7) (show wsX6_lots[7]? = some (Cond.fieldLink RX6 31 "PartyWillModel" "now" "[I") from rfl))
  have q8 := hts _ (List.mem_of_getElem? (i := 8) (show wsX6_lots[8]? = some (Cond.constantLong RX6 272 (16)) from rfl))
  have q9 := hts _ (List.mem_of_getElem? (i := 9) (show wsX6_lots[9]? = some (Cond.constantLong RX6 171 (4)) from rfl))
  have iX6 : ∀ w ∈ u_ws RX6 TX6 27, w ∈ wsX6_lots := fun w h => List.mem_cons_of_mem _ (List.mem_append_right _ (h))
  subst hsz
  have hD := hD0.self (sz := s.heap.size)
  generalize hAe : va_A (wMo T am mguests mclause mdeeds masked mupper mlower mfinding mreadGuests misSight mat mrowSizes mrows mtextSizes mtexts mdoes mkinds msees mnow mbefore mkeeps mkept mfindings mread maside msteps mtried mbest) s.heap.size = A at hD ⊢
  have hA : ∀ q : Nat, s.heap.size ≤ q → A q := fun q h => by rw [← hAe]; exact Or.inr h
  have hS : va_S A s.heap s.heap [] := va_S.rf
  have hP : va_P D vwCl (wMo T am mguests mclause mdeeds masked mupper mlower mfinding mreadGuests misSight mat mrowSizes mrows mtextSizes mtexts mdoes mkinds msees mnow mbefore mkeeps mkept mfindings mread maside msteps mtried mbest) s.heap := hP
  obtain ⟨ls, hl, e0⟩ := my_entry (m := m) (n := 7) ha (Nat.le_of_ble_eq_true rfl)
  rw [e0]
  have hl : lv_has ls 7 [(0, .ref (am 0)), (1, .int x1), (2, .int x2)] := hl
  have key : ∀ Q : State → Prop, (∀ (H : Heap) (locs : List Loc) (pc : Nat) (ls : Array Slot), va_P D vwCl (wMo T am mguests mclause zmdeeds masked mupper mlower mfinding mreadGuests misSight mat mrowSizes mrows mtextSizes mtexts mdoes mkinds msees zmnow zmbefore mkeeps mkept mfindings mread maside msteps mtried mbest) H → va_D A (wMo T am mguests mclause zmdeeds masked mupper mlower mfinding mreadGuests misSight mat mrowSizes mrows mtextSizes mtexts mdoes mkinds msees zmnow zmbefore mkeeps mkept mfindings mread maside msteps mtried mbest) → va_S A s.heap H locs → decode cX6_lots pc = .ok (.ireturn, 1) → W p l e ({ frames := 4, cells := 0, slots := 0, locals := 93 } : Room) s m args below meth c H locs 0 0 Q (F0 m pc ls [.int r])) → W p l e ({ frames := 4, cells := 0, slots := 0, locals := 93 } : Room) s m args below meth c s.heap [] 0 0 Q (F0 m 0 ls []) := by
    intro Q hret
    skip
    have l59 : ∀ x1 : Int32, ∀ nu : Nat, ∀ x3 : Int64, ∀ x5 : Int32, ∀ x6 : Int32, ∀ mdeeds : Int32, ∀ mnow : Nat → Int32, ∀ mbefore : Nat → Int32, fX6_lots_l59 F mguests mclause mdoes mkinds msees x1 nu x3 x5 x6 mdeeds mnow mbefore = some (r, zmdeeds, zmnow, zmbefore) → ∀ (H : Heap) (locs : List Loc), va_P D vwCl (wMo T am mguests mclause mdeeds masked mupper mlower mfinding mreadGuests misSight mat mrowSizes mrows mtextSizes mtexts mdoes mkinds msees mnow mbefore mkeeps mkept mfindings mread maside msteps mtried mbest) H → va_D A (wMo T am mguests mclause mdeeds masked mupper mlower mfinding mreadGuests misSight mat mrowSizes mrows mtextSizes mtexts mdoes mkinds msees mnow mbefore mkeeps mkept mfindings mread maside msteps mtried mbest) → va_S A s.heap H locs → ∀ (ls : Array Slot), lv_has ls 7 [(0, .ref (am 0)), (1, .int x1), (3, .long x3), (5, .int x5), (6, .int x6)] → W p l e ({ frames := 4, cells := 0, slots := 0, locals := 93 } : Room) s m args below meth c H locs 0 0 Q (F0 m 59 ls []) := by
      intro x1
      intro nu
      induction nu with
      | zero => intro x3 x5 x6 mdeeds mnow mbefore h; exact none_some h
      | succ nu59 ih59 =>
        intro x3 x5 x6 mdeeds mnow mbefore h H locs hP hD hS ls hl
        have h : fX6_lots_l59_b F mguests mclause mdoes mkinds msees x1 (fX6_lots_l59 F mguests mclause mdoes mkinds msees x1 nu59) x3 x5 x6 mdeeds mnow mbefore = some (r, zmdeeds, zmnow, zmbefore) := h
        unfold fX6_lots_l59_b at h
        refine lv_iload hx hb dX6_lots_59 (lv_at hl 4 rfl) ?_
        refine lv_iload_n hx hb dX6_lots_61 rfl (lv_at hl 1 rfl) ?_
        refine lv_icmp_ge (tgt := 111) hx hb dX6_lots_62 (by decide) (fun c62 => ?_) (fun c62 => ?_)
        · have h := br_1 h c62
          refine lv_iload hx hb dX6_lots_111 (lv_at hl 3 rfl) ?_
          cases h
          exact hret _ _ _ _ hP hD hS dX6_lots_113
        · have h := br_0 h c62
          refine lv_ldc2 (v := (48271 : Int64)) hx hb hown q5 dX6_lots_65 ?_
          refine lv_lload_n hx hb dX6_lots_68 rfl (lv_at hl 2 rfl) ?_
          refine lv_lmul hx hb dX6_lots_69 ?_
          refine lv_ldc2 (v := (2147483647 : Int64)) hx hb hown q6 dX6_lots_70 ?_
          refine lv_lrem hx hb dX6_lots_73 (by decide) ?_
          refine lv_lstore_n (lv' := [(3, .long (((48271 : Int64) * x3) - ((48271 : Int64) * x3) / (2147483647 : Int64) * (2147483647 : Int64))), (0, .ref (am 0)), (1, .int x1), (5, .int x5), (6, .int x6)]) hx hb dX6_lots_74 rfl hl (by decide) rfl (fun ls hl => ?_)
          refine lv_aload_n hx hb dX6_lots_75 rfl (lv_at hl 1 rfl) ?_
          obtain ⟨w76_mdeeds, w76_mbefore, hc, h⟩ := bd2_some h
          have hFc := my_freeS hD hS hA
          refine my_rwv (va_runV (As := []) (rest := []) hFix (kX6_remember l D T F am mguests mclause mdeeds masked mupper mlower mfinding mreadGuests misSight mat mrowSizes mrows mtextSizes mtexts mdoes mkinds msees mnow mbefore mkeeps mkept mfindings mread maside msteps mtried mbest w76_mdeeds w76_mbefore hc _) (cwV 0 hts gX6_lots_X6_remember rfl rfl rfl ⟨rfl, hd_X6_remember⟩ ⟨Nat.le_of_ble_eq_true rfl, Nat.le_of_ble_eq_true rfl⟩) (preV_rw hP hKK hD (va_recv hK hP (ci := 4) (q0 := 0) rfl wMo_0)) rfl rfl hl.1 rfl (lv_room (Nat.le_of_ble_eq_true rfl)) dX6_lots_76 ⟨Nat.zero_le _, Nat.zero_le _⟩) hS hFc (fun H1 locs hP1 hD1 hz1 hkk hS => ?_)
          have hP : va_P D vwCl (wMo T am mguests mclause w76_mdeeds masked mupper mlower mfinding mreadGuests misSight mat mrowSizes mrows mtextSizes mtexts mdoes mkinds msees mnow w76_mbefore mkeeps mkept mfindings mread maside msteps mtried mbest) H1 := hP1
          have hD : va_D A (wMo T am mguests mclause w76_mdeeds masked mupper mlower mfinding mreadGuests misSight mat mrowSizes mrows mtextSizes mtexts mdoes mkinds msees mnow w76_mbefore mkeeps mkept mfindings mread maside msteps mtried mbest) := hD1.weaken (fun _ q _ h => hFc q.1 h)
          generalize H1 = H at hP hS ⊢
          refine lv_iload hx hb dX6_lots_79 (lv_at hl 3 rfl) ?_
          refine lv_aload_n hx hb dX6_lots_81 rfl (lv_at hl 1 rfl) ?_
          refine lv_aload_n hx hb dX6_lots_82 rfl (lv_at hl 1 rfl) ?_
          refine va_get (D := D) (ci := 4) (C := RX6) (T := TX6) (N := 27) hx hb hts iX6 hown hK hP 0 wMo_0 rfl 9 (by decide) q7 (fun _ h9 => h9) rfl dX6_lots_83 ?_
          refine lv_lload_n hx hb dX6_lots_86 rfl (lv_at hl 0 rfl) ?_
          refine lv_ldc2 (v := (16 : Int64)) hx hb hown q8 dX6_lots_87 ?_
          refine lv_ldiv hx hb dX6_lots_90 (by decide) ?_
          refine lv_ldc2 (v := (4 : Int64)) hx hb hown q9 dX6_lots_91 ?_
          refine lv_lrem hx hb dX6_lots_94 (by decide) ?_
          refine lv_l2i (v := ((((((48271 : Int64) * x3) - ((48271 : Int64) * x3) / (2147483647 : Int64) * (2147483647 : Int64)) / (16 : Int64)) - ((((48271 : Int64) * x3) - ((48271 : Int64) * x3) / (2147483647 : Int64) * (2147483647 : Int64)) / (16 : Int64)) / (4 : Int64) * (4 : Int64)).toInt32)) hx hb dX6_lots_95 rfl ?_
          obtain ⟨r96, w96_tt, hc, h⟩ := bd2_some h
          have hPc : va_P D vwCl (wMp T am (am 8) mguests mclause w76_mdeeds masked mupper mlower mfinding mreadGuests misSight mat mdoes mkinds msees mnow) _ := my_subP sb_wMo_wMp_0_5_6_7_8 hP
          have hDc := hD.sub [0, 5, 6, 7, 8] (by decide) sb_wMo_wMp_0_5_6_7_8
          have hFc := va_free hD hS hA [0, 5, 6, 7, 8] sb_wMo_wMp_0_5_6_7_8
          refine my_rwi (va_runV (As := [.ref (am 8), .int ((((((48271 : Int64) * x3) - ((48271 : Int64) * x3) / (2147483647 : Int64) * (2147483647 : Int64)) / (16 : Int64)) - ((((48271 : Int64) * x3) - ((48271 : Int64) * x3) / (2147483647 : Int64) * (2147483647 : Int64)) / (16 : Int64)) / (4 : Int64) * (4 : Int64)).toInt32)]) (rest := [.int x5]) hFix (kX6_plays l D T F am (am 8) mguests mclause w76_mdeeds masked mupper mlower mfinding mreadGuests misSight mat mdoes mkinds msees mnow ((((((48271 : Int64) * x3) - ((48271 : Int64) * x3) / (2147483647 : Int64) * (2147483647 : Int64)) / (16 : Int64)) - ((((48271 : Int64) * x3) - ((48271 : Int64) * x3) / (2147483647 : Int64) * (2147483647 : Int64)) / (16 : Int64)) / (4 : Int64) * (4 : Int64)).toInt32) r96 w96_tt hc _) (cwV 2 hts gX6_lots_X6_plays rfl rfl rfl ⟨rfl, hd_X6_plays⟩ ⟨Nat.le_of_ble_eq_true rfl, Nat.le_of_ble_eq_true rfl⟩) (preV_rw hPc hKK hDc (va_recv hK hP (ci := 4) (q0 := 0) rfl wMo_0)) rfl rfl hl.1 rfl (lv_room (Nat.le_of_ble_eq_true rfl)) dX6_lots_96 ⟨Nat.zero_le _, Nat.zero_le _⟩) hS hFc (fun H1 locs hP1 hD1 hz1 hkk hS => ?_)
          obtain ⟨hP, hD⟩ := my_joinS hP hD (by decide) sb_wMo_wMp_0_5_6_7_8 (by rfl) hkk hFc hP1 hD1
          rw [st_wMo_wMp_0_5_6_7_8_plays] at hP hD
          generalize H1 = H at hP hS ⊢
          obtain ⟨r99, hc, h⟩ := bd1_some h
          refine my_roi (va_Run.run (va_runS (As := [.int r96]) (rest := [.int x5]) hFix (kX6_bits l D T F r96 r99 hc) (va_cwS 1 hts gX6_lots_X6_bits rfl rfl rfl hd_X6_bits ⟨Nat.le_of_ble_eq_true rfl, Nat.le_of_ble_eq_true rfl⟩) (preS_ro va_nil hKK) rfl rfl hl.1 rfl (lv_room (Nat.le_of_ble_eq_true rfl)) dX6_lots_99 ⟨Nat.zero_le _, Nat.zero_le _⟩)) ?_
          refine lv_iadd hx hb dX6_lots_102 ?_
          refine lv_istore (lv' := [(5, .int (x5 + r99)), (3, .long (((48271 : Int64) * x3) - ((48271 : Int64) * x3) / (2147483647 : Int64) * (2147483647 : Int64))), (0, .ref (am 0)), (1, .int x1), (6, .int x6)]) hx hb dX6_lots_103 hl (by decide) rfl (fun ls hl => ?_)
          refine lv_iinc (v := (x6 + (1 : Int32))) (lv' := [(6, .int (x6 + (1 : Int32))), (5, .int (x5 + r99)), (3, .long (((48271 : Int64) * x3) - ((48271 : Int64) * x3) / (2147483647 : Int64) * (2147483647 : Int64))), (0, .ref (am 0)), (1, .int x1)]) hx hb dX6_lots_105 hl (k := 4) rfl rfl (by decide) rfl (fun ls hl => ?_)
          refine lv_goto (tgt := 59) hx hb dX6_lots_108 (by decide) ?_
          exact ih59 (((48271 : Int64) * x3) - ((48271 : Int64) * x3) / (2147483647 : Int64) * (2147483647 : Int64)) (x5 + r99) (x6 + (1 : Int32)) w76_mdeeds w96_tt w76_mbefore h _ _ hP hD hS _ (lv_sub hl [3, 4, 2, 1, 0] rfl)
    unfold fX6_lots at h
    refine lv_iload_n hx hb dX6_lots_0 rfl (lv_at hl 1 rfl) ?_
    refine lv_i2l (v := (x1.toInt64)) hx hb dX6_lots_1 rfl ?_
    refine lv_lconst (v := (1 : Int64)) hx hb dX6_lots_2 (by decide) ?_
    refine lv_ldc2 (v := (20 : Int64)) hx hb hown q1 dX6_lots_3 ?_
    obtain ⟨r6, hc, h⟩ := bd1_some h
    refine my_roz (va_Run.run (va_runS (As := [.long (x1.toInt64), .long (1 : Int64), .long (20 : Int64)]) (rest := []) hFix (kX6_in l D T F (x1.toInt64) (1 : Int64) (20 : Int64) r6 hc) (va_cwS 3 hts gX6_lots_X6_in rfl rfl rfl hd_X6_in ⟨Nat.le_of_ble_eq_true rfl, Nat.le_of_ble_eq_true rfl⟩) (preS_ro va_nil hKK) rfl rfl hl.1 rfl (lv_room (Nat.le_of_ble_eq_true rfl)) dX6_lots_6 ⟨Nat.zero_le _, Nat.zero_le _⟩)) (fun hb6 => ?_)
    refine lv_if_eq (tgt := 24) hx hb dX6_lots_9 (by decide) (fun c9 => ?_) (fun c9 => ?_)
    · have h := br_1 h c9
      refine lv_iconst (v := (-1 : Int32)) hx hb dX6_lots_24 (by decide) ?_
      cases h
      exact hret _ _ _ _ hP hD hS dX6_lots_25
    · have h := br_0 h c9
      refine lv_iload_n hx hb dX6_lots_12 rfl (lv_at hl 2 rfl) ?_
      refine lv_i2l (v := (x2.toInt64)) hx hb dX6_lots_13 rfl ?_
      refine lv_lconst (v := (1 : Int64)) hx hb dX6_lots_14 (by decide) ?_
      refine lv_ldc2 (v := (2147483646 : Int64)) hx hb hown q2 dX6_lots_15 ?_
      obtain ⟨r18, hc, h⟩ := bd1_some h
      refine my_roz (va_Run.run (va_runS (As := [.long (x2.toInt64), .long (1 : Int64), .long (2147483646 : Int64)]) (rest := []) hFix (kX6_in l D T F (x2.toInt64) (1 : Int64) (2147483646 : Int64) r18 hc) (va_cwS 3 hts gX6_lots_X6_in rfl rfl rfl hd_X6_in ⟨Nat.le_of_ble_eq_true rfl, Nat.le_of_ble_eq_true rfl⟩) (preS_ro va_nil hKK) rfl rfl hl.1 rfl (lv_room (Nat.le_of_ble_eq_true rfl)) dX6_lots_18 ⟨Nat.zero_le _, Nat.zero_le _⟩)) (fun hb18 => ?_)
      refine lv_if_ne (tgt := 26) hx hb dX6_lots_21 (by decide) (fun c21 => ?_) (fun c21 => ?_)
      · have h := br_0 h c21
        refine lv_aload_n hx hb dX6_lots_26 rfl (lv_at hl 0 rfl) ?_
        refine va_get (D := D) (ci := 4) (C := RX6) (T := TX6) (N := 27) hx hb hts iX6 hown hK hP 0 wMo_0 rfl 4 (by decide) q3 (fun _ h9 => h9) rfl dX6_lots_27 ?_
        refine lv_if_ne (tgt := 36) hx hb dX6_lots_30 (by decide) (fun c30 => ?_) (fun c30 => ?_)
        · have h := br_0 h c30
          refine lv_aload_n hx hb dX6_lots_36 rfl (lv_at hl 0 rfl) ?_
          refine va_get (D := D) (ci := 4) (C := RX6) (T := TX6) (N := 27) hx hb hts iX6 hown hK hP 0 wMo_0 rfl 10 (by decide) q4 (fun _ h9 => h9) rfl dX6_lots_37 ?_
          refine lv_iload_n hx hb dX6_lots_40 rfl (lv_at hl 1 rfl) ?_
          refine lv_iadd hx hb dX6_lots_41 ?_
          refine lv_bipush (v := (40 : Int32)) hx hb dX6_lots_42 (by decide) ?_
          refine lv_icmp_le (tgt := 50) hx hb dX6_lots_44 (by decide) (fun c44 => ?_) (fun c44 => ?_)
          · have h := br_1 h c44
            refine lv_iload_n hx hb dX6_lots_50 rfl (lv_at hl 2 rfl) ?_
            refine lv_i2l (v := (x2.toInt64)) hx hb dX6_lots_51 rfl ?_
            refine lv_lstore_n (lv' := [(3, .long (x2.toInt64)), (0, .ref (am 0)), (1, .int x1), (2, .int x2)]) hx hb dX6_lots_52 rfl hl (by decide) rfl (fun ls hl => ?_)
            refine lv_iconst (v := (0 : Int32)) hx hb dX6_lots_53 (by decide) ?_
            refine lv_istore (lv' := [(5, .int (0 : Int32)), (3, .long (x2.toInt64)), (0, .ref (am 0)), (1, .int x1), (2, .int x2)]) hx hb dX6_lots_54 hl (by decide) rfl (fun ls hl => ?_)
            refine lv_iconst (v := (0 : Int32)) hx hb dX6_lots_56 (by decide) ?_
            refine lv_istore (lv' := [(6, .int (0 : Int32)), (5, .int (0 : Int32)), (3, .long (x2.toInt64)), (0, .ref (am 0)), (1, .int x1), (2, .int x2)]) hx hb dX6_lots_57 hl (by decide) rfl (fun ls hl => ?_)
            exact l59 x1 F (x2.toInt64) (0 : Int32) (0 : Int32) mdeeds mnow mbefore h _ _ hP hD hS _ (lv_sub hl [3, 4, 2, 1, 0] rfl)
          · have h := br_0 h c44
            refine lv_bipush (v := (-2 : Int32)) hx hb dX6_lots_47 (by decide) ?_
            cases h
            exact hret _ _ _ _ hP hD hS dX6_lots_49
        · have h := br_1 h c30
          refine lv_bipush (v := (-4 : Int32)) hx hb dX6_lots_33 (by decide) ?_
          cases h
          exact hret _ _ _ _ hP hD hS dX6_lots_35
      · have h := br_1 h c21
        refine lv_iconst (v := (-1 : Int32)) hx hb dX6_lots_24 (by decide) ?_
        cases h
        exact hret _ _ _ _ hP hD hS dX6_lots_25
  exact key _ (fun H locs pc ls hP hD hS hd => W.iret hx hb hr (fun t ht hW => ⟨⟨_, (), rfl, rfl, by show _ ∧ _; rw [ht]; exact ⟨hP, hD⟩⟩, hS.F ht⟩) hS.2.2 hd)
set_option maxHeartbeats 4000000 in
set_option maxRecDepth 100000 in
theorem kX6_asked (l : Launch) (D : va_G) (T : Nat → ClassId) (F : Nat) (am : Nat → Nat) (mguests : Int32) (mclause : Int32) (mdeeds : Int32) (masked : Int32) (mupper : Int64) (mlower : Int64) (mfinding : Int32) (mreadGuests : Int32) (misSight : Int32) (mat : Int32) (mrowSizes : Nat → Int32) (mrows : Nat → Int32) (mtextSizes : Nat → Int32) (mtexts : Nat → Int32) (mdoes : Nat → Int32) (mkinds : Nat → Int32) (msees : Nat → Int32) (mnow : Nat → Int32) (mbefore : Nat → Int32) (mkeeps : Nat → Int32) (mkept : Nat → Int32) (mfindings : Nat → Int32) (mread : Nat → Int32) (maside : Nat → Int32) (msteps : Nat → Int32) (mtried : Nat → Int32) (mbest : Nat → Int32) (r : Int32) (h : fX6_asked F masked = some (r)) : Met l yX6_asked wsX6_asked ({ frames := 0, cells := 0, slots := 0, locals := 0 } : Room) (va_Pc [.ref (am 0)] (fun U => va_P D vwCl (wMo T am mguests mclause mdeeds masked mupper mlower mfinding mreadGuests misSight mat mrowSizes mrows mtextSizes mtexts mdoes mkinds msees mnow mbefore mkeeps mkept mfindings mread maside msteps mtried mbest) U.heap ∧ KK D T U)) (vp_Si (fun r' => r' = r)) 0 0 (fun _ => False) := by
  refine Met.ofW (cc := cX6_asked) (maxL := 1) (ret := some .int) (by decide) rfl ?_
  intro p e s m args below meth c s₁ B hml hv
  obtain ⟨ha, hP, hKK⟩ := hv
  have hx := B.exec
  have hb := B.bytes
  have hr := B.returns
  have hts := atoms_spec (ws := wsX6_asked) B.pre
  have hown : s.vm.findClass RX6 = some m.cls := findClass_of_methodNamed B.named
  have hlocks := B.notSynchronized
  have hK := hKK.1
  have hFix : CallFix p m c cX6_asked 1 s args wsX6_asked RX6 := ⟨hx, hb, hml, hown, hts⟩
  have q1 := hts _ (List.mem_of_getElem? (i := 1) (show wsX6_asked[1]? = some (Cond.fieldLink RX6 70 "PartyWillModel" "asked" "I") from rfl))
  have iX6 : ∀ w ∈ u_ws RX6 TX6 27, w ∈ wsX6_asked := fun w h => List.mem_cons_of_mem _ (List.mem_append_right _ (h))
  obtain ⟨ls, hl, e0⟩ := my_entry (m := m) (n := 1) ha (Nat.le_of_ble_eq_true rfl)
  rw [e0]
  have hl : lv_has ls 1 [(0, .ref (am 0))] := hl
  have key : ∀ Q : State → Prop, (∀ (pc : Nat) (ls : Array Slot), decode cX6_asked pc = .ok (.ireturn, 1) → W p l e ({ frames := 0, cells := 0, slots := 0, locals := 0 } : Room) s m args below meth c s.heap [] 0 0 Q (F0 m pc ls [.int r])) → W p l e ({ frames := 0, cells := 0, slots := 0, locals := 0 } : Room) s m args below meth c s.heap [] 0 0 Q (F0 m 0 ls []) := by
    intro Q hret
    unfold fX6_asked at h
    refine lv_aload_n hx hb dX6_asked_0 rfl (lv_at hl 0 rfl) ?_
    refine va_get (D := D) (ci := 4) (C := RX6) (T := TX6) (N := 27) hx hb hts iX6 hown hK hP 0 wMo_0 rfl 14 (by decide) q1 (fun _ h9 => h9) rfl dX6_asked_1 ?_
    cases h
    exact hret _ _ dX6_asked_4
  exact key _ (fun pc ls hd => W.iret hx hb hr (fun t ht hW => ⟨_, rfl, rfl, ht⟩) (fun q h => by cases h) hd)
set_option maxHeartbeats 4000000 in
set_option maxRecDepth 100000 in
theorem kX6_upper (l : Launch) (D : va_G) (T : Nat → ClassId) (F : Nat) (am : Nat → Nat) (mguests : Int32) (mclause : Int32) (mdeeds : Int32) (masked : Int32) (mupper : Int64) (mlower : Int64) (mfinding : Int32) (mreadGuests : Int32) (misSight : Int32) (mat : Int32) (mrowSizes : Nat → Int32) (mrows : Nat → Int32) (mtextSizes : Nat → Int32) (mtexts : Nat → Int32) (mdoes : Nat → Int32) (mkinds : Nat → Int32) (msees : Nat → Int32) (mnow : Nat → Int32) (mbefore : Nat → Int32) (mkeeps : Nat → Int32) (mkept : Nat → Int32) (mfindings : Nat → Int32) (mread : Nat → Int32) (maside : Nat → Int32) (msteps : Nat → Int32) (mtried : Nat → Int32) (mbest : Nat → Int32) (r : Int64) (h : fX6_upper F mupper = some (r)) : Met l yX6_upper wsX6_upper ({ frames := 0, cells := 0, slots := 0, locals := 0 } : Room) (va_Pc [.ref (am 0)] (fun U => va_P D vwCl (wMo T am mguests mclause mdeeds masked mupper mlower mfinding mreadGuests misSight mat mrowSizes mrows mtextSizes mtexts mdoes mkinds msees mnow mbefore mkeeps mkept mfindings mread maside msteps mtried mbest) U.heap ∧ KK D T U)) (vp_Sl (fun r' => r' = r)) 0 0 (fun _ => False) := by
  refine Met.ofW (cc := cX6_upper) (maxL := 1) (ret := some .long) (by decide) rfl ?_
  intro p e s m args below meth c s₁ B hml hv
  obtain ⟨ha, hP, hKK⟩ := hv
  have hx := B.exec
  have hb := B.bytes
  have hr := B.returns
  have hts := atoms_spec (ws := wsX6_upper) B.pre
  have hown : s.vm.findClass RX6 = some m.cls := findClass_of_methodNamed B.named
  have hlocks := B.notSynchronized
  have hK := hKK.1
  have hFix : CallFix p m c cX6_upper 1 s args wsX6_upper RX6 := ⟨hx, hb, hml, hown, hts⟩
  have q1 := hts _ (List.mem_of_getElem? (i := 1) (show wsX6_upper[1]? = some (Cond.fieldLink RX6 230 "PartyWillModel" "upper" "J") from rfl))
  have iX6 : ∀ w ∈ u_ws RX6 TX6 27, w ∈ wsX6_upper := fun w h => List.mem_cons_of_mem _ (List.mem_append_right _ (h))
  obtain ⟨ls, hl, e0⟩ := my_entry (m := m) (n := 1) ha (Nat.le_of_ble_eq_true rfl)
  rw [e0]
  have hl : lv_has ls 1 [(0, .ref (am 0))] := hl
  have key : ∀ Q : State → Prop, (∀ (pc : Nat) (ls : Array Slot), decode cX6_upper pc = .ok (.lreturn, 1) → W p l e ({ frames := 0, cells := 0, slots := 0, locals := 0 } : Room) s m args below meth c s.heap [] 0 0 Q (F0 m pc ls [.long r])) → W p l e ({ frames := 0, cells := 0, slots := 0, locals := 0 } : Room) s m args below meth c s.heap [] 0 0 Q (F0 m 0 ls []) := by
    intro Q hret
    unfold fX6_upper at h
    refine lv_aload_n hx hb dX6_upper_0 rfl (lv_at hl 0 rfl) ?_
    refine va_get (D := D) (ci := 4) (C := RX6) (T := TX6) (N := 27) hx hb hts iX6 hown hK hP 0 wMo_0 rfl 15 (by decide) q1 (fun _ h9 => h9) rfl dX6_upper_1 ?_
    cases h
    exact hret _ _ dX6_upper_4
  exact key _ (fun pc ls hd => W.lret hx hb hr (fun t ht hW => ⟨_, rfl, rfl, ht⟩) (fun q h => by cases h) hd)
set_option maxHeartbeats 4000000 in
set_option maxRecDepth 100000 in
theorem kX6_lower (l : Launch) (D : va_G) (T : Nat → ClassId) (F : Nat) (am : Nat → Nat) (mguests : Int32) (mclause : Int32) (mdeeds : Int32) (masked : Int32) (mupper : Int64) (mlower : Int64) (mfinding : Int32) (mreadGuests : Int32) (misSight : Int32) (mat : Int32) (mrowSizes : Nat → Int32) (mrows : Nat → Int32) (mtextSizes : Nat → Int32) (mtexts : Nat → Int32) (mdoes : Nat → Int32) (mkinds : Nat → Int32) (msees : Nat → Int32) (mnow : Nat → Int32) (mbefore : Nat → Int32) (mkeeps : Nat → Int32) (mkept : Nat → Int32) (mfindings : Nat → Int32) (mread : Nat → Int32) (maside : Nat → Int32) (msteps : Nat → Int32) (mtried : Nat → Int32) (mbest : Nat → Int32) (r : Int64) (h : fX6_lower F mlower = some (r)) : Met l yX6_lower wsX6_lower ({ frames := 0, cells := 0, slots := 0, locals := 0 } : Room) (va_Pc [.ref (am 0)] (fun U => va_P D vwCl (wMo T am mguests mclause mdeeds masked mupper mlower mfinding mreadGuests misSight mat mrowSizes mrows mtextSizes mtexts mdoes mkinds msees mnow mbefore mkeeps mkept mfindings mread maside msteps mtried mbest) U.heap ∧ KK D T U)) (vp_Sl (fun r' => r' = r)) 0 0 (fun _ => False) := by
  refine Met.ofW (cc := cX6_lower) (maxL := 1) (ret := some .long) (by decide) rfl ?_
  intro p e s m args below meth c s₁ B hml hv
  obtain ⟨ha, hP, hKK⟩ := hv
  have hx := B.exec
  have hb := B.bytes
  have hr := B.returns
  have hts := atoms_spec (ws := wsX6_lower) B.pre
  have hown : s.vm.findClass RX6 = some m.cls := findClass_of_methodNamed B.named
  have hlocks := B.notSynchronized
  have hK := hKK.1
  have hFix : CallFix p m c cX6_lower 1 s args wsX6_lower RX6 := ⟨hx, hb, hml, hown, hts⟩
  have q1 := hts _ (List.mem_of_getElem? (i := 1) (show wsX6_lower[1]? = some (Cond.fieldLink RX6 44 "PartyWillModel" "lower" "J") from rfl))
  have iX6 : ∀ w ∈ u_ws RX6 TX6 27, w ∈ wsX6_lower := fun w h => List.mem_cons_of_mem _ (List.mem_append_right _ (h))
  obtain ⟨ls, hl, e0⟩ := my_entry (m := m) (n := 1) ha (Nat.le_of_ble_eq_true rfl)
  rw [e0]
  have hl : lv_has ls 1 [(0, .ref (am 0))] := hl
  have key : ∀ Q : State → Prop, (∀ (pc : Nat) (ls : Array Slot), decode cX6_lower pc = .ok (.lreturn, 1) → W p l e ({ frames := 0, cells := 0, slots := 0, locals := 0 } : Room) s m args below meth c s.heap [] 0 0 Q (F0 m pc ls [.long r])) → W p l e ({ frames := 0, cells := 0, slots := 0, locals := 0 } : Room) s m args below meth c s.heap [] 0 0 Q (F0 m 0 ls []) := by
    intro Q hret
    unfold fX6_lower at h
    refine lv_aload_n hx hb dX6_lower_0 rfl (lv_at hl 0 rfl) ?_
    refine va_get (D := D) (ci := 4) (C := RX6) (T := TX6) (N := 27) hx hb hts iX6 hown hK hP 0 wMo_0 rfl 16 (by decide) q1 (fun _ h9 => h9) rfl dX6_lower_1 ?_
    cases h
    exact hret _ _ dX6_lower_4
  exact key _ (fun pc ls hd => W.lret hx hb hr (fun t ht hW => ⟨_, rfl, rfl, ht⟩) (fun q h => by cases h) hd)
