set_option maxHeartbeats 4000000 in
set_option maxRecDepth 100000 in
theorem kX6_safe (l : Launch) (D : va_G) (T : Nat → ClassId) (F : Nat) (am : Nat → Nat) (mguests : Int32) (mclause : Int32) (mdeeds : Int32) (masked : Int32) (mupper : Int64) (mlower : Int64) (mfinding : Int32) (mreadGuests : Int32) (misSight : Int32) (mat : Int32) (mrowSizes : Nat → Int32) (mrows : Nat → Int32) (mtextSizes : Nat → Int32) (mtexts : Nat → Int32) (mdoes : Nat → Int32) (mkinds : Nat → Int32) (msees : Nat → Int32) (mnow : Nat → Int32) (mbefore : Nat → Int32) (mkeeps : Nat → Int32) (mkept : Nat → Int32) (mfindings : Nat → Int32) (mread : Nat → Int32) (maside : Nat → Int32) (msteps : Nat → Int32) (mtried : Nat → Int32) (mbest : Nat → Int32) (r : Int32) (zmaside : Nat → Int32) (h : fX6_safe F mguests mclause mdoes mkinds msees mnow maside = some (r, zmaside)) : ∀ sz : Nat, Met l yX6_safe wsX6_safe ({ frames := 4, cells := 0, slots := 0, locals := 93 } : Room) (va_Pc [.ref (am 0)] (fun U => U.heap.size = sz ∧ va_P D vwCl (wMo T am mguests mclause mdeeds masked mupper mlower mfinding mreadGuests misSight mat mrowSizes mrows mtextSizes mtexts mdoes mkinds msees mnow mbefore mkeeps mkept mfindings mread maside msteps mtried mbest) U.heap ∧ KK D T U ∧ va_D (fun _ => True) (wMo T am mguests mclause mdeeds masked mupper mlower mfinding mreadGuests misSight mat mrowSizes mrows mtextSizes mtexts mdoes mkinds msees mnow mbefore mkeeps mkept mfindings mread maside msteps mtried mbest))) (va_Qi (fun r' (_ : Unit) => r' = r) (fun _ t => va_P D vwCl (wMo T am mguests mclause mdeeds masked mupper mlower mfinding mreadGuests misSight mat mrowSizes mrows mtextSizes mtexts mdoes mkinds msees mnow mbefore mkeeps mkept mfindings mread zmaside msteps mtried mbest) t.heap ∧ va_D (va_A (wMo T am mguests mclause mdeeds masked mupper mlower mfinding mreadGuests misSight mat mrowSizes mrows mtextSizes mtexts mdoes mkinds msees mnow mbefore mkeeps mkept mfindings mread maside msteps mtried mbest) sz) (wMo T am mguests mclause mdeeds masked mupper mlower mfinding mreadGuests misSight mat mrowSizes mrows mtextSizes mtexts mdoes mkinds msees mnow mbefore mkeeps mkept mfindings mread zmaside msteps mtried mbest)) (va_A (wMo T am mguests mclause mdeeds masked mupper mlower mfinding mreadGuests misSight mat mrowSizes mrows mtextSizes mtexts mdoes mkinds msees mnow mbefore mkeeps mkept mfindings mread maside msteps mtried mbest) sz)) 0 0 (va_A (wMo T am mguests mclause mdeeds masked mupper mlower mfinding mreadGuests misSight mat mrowSizes mrows mtextSizes mtexts mdoes mkinds msees mnow mbefore mkeeps mkept mfindings mread maside msteps mtried mbest) sz) := by
  intro sz
  refine Met.ofW (cc := cX6_safe) (maxL := 3) (ret := some .int) (by decide) rfl ?_
  intro p e s m args below meth c s₁ B hml hv
  obtain ⟨ha, hsz, hP, hKK, hD0⟩ := hv
  have hx := B.exec
  have hb := B.bytes
  have hr := B.returns
  have hts := atoms_spec (ws := wsX6_safe) B.pre
  have hown : s.vm.findClass RX6 = some m.cls := findClass_of_methodNamed B.named
  have hlocks := B.notSynchronized
  have hK := hKK.1
  have hFix : CallFix p m c cX6_safe 3 s args wsX6_safe RX6 := ⟨hx, hb, hml, hown, hts⟩
  have q1 := hts _ (List.mem_of_getElem? (i := 1) (show wsX6_safe[1]? = some (Cond.fieldLink RX6 131 "PartyWillModel" "guests" "I") from rfl))
  have q2 := hts _ (List.mem_of_getElem? (i := 2) (show wsX6_safe[2]? = some (Cond.fieldLink RX6 54 "PartyWillModel" "aside" "[I") from rfl))
  have iX6 : ∀ w ∈ u_ws RX6 TX6 27, w ∈ wsX6_safe := fun w h => List.mem_cons_of_mem _ (List.mem_append_right _ (h))
  subst hsz
  have hD := hD0.self (sz := s.heap.size)
  generalize hAe : va_A (wMo T am mguests mclause mdeeds masked mupper mlower mfinding mreadGuests misSight mat mrowSizes mrows mtextSizes mtexts mdoes mkinds msees mnow mbefore mkeeps mkept mfindings mread maside msteps mtried mbest) s.heap.size = A at hD ⊢
  have hA : ∀ q : Nat, s.heap.size ≤ q → A q := fun q h => by rw [← hAe]; exact Or.inr h
  have hS : va_S A s.heap s.heap [] := va_S.rf
  have hP : va_P D vwCl (wMo T am mguests mclause mdeeds masked mupper mlower mfinding mreadGuests misSight mat mrowSizes mrows mtextSizes mtexts mdoes mkinds msees mnow mbefore mkeeps mkept mfindings mread maside msteps mtried mbest) s.heap := hP
  obtain ⟨ls, hl, e0⟩ := my_entry (m := m) (n := 3) ha (Nat.le_of_ble_eq_true rfl)
  rw [e0]
  have hl : lv_has ls 3 [(0, .ref (am 0))] := hl
  have key : ∀ Q : State → Prop, (∀ (H : Heap) (locs : List Loc) (pc : Nat) (ls : Array Slot), va_P D vwCl (wMo T am mguests mclause mdeeds masked mupper mlower mfinding mreadGuests misSight mat mrowSizes mrows mtextSizes mtexts mdoes mkinds msees mnow mbefore mkeeps mkept mfindings mread zmaside msteps mtried mbest) H → va_D A (wMo T am mguests mclause mdeeds masked mupper mlower mfinding mreadGuests misSight mat mrowSizes mrows mtextSizes mtexts mdoes mkinds msees mnow mbefore mkeeps mkept mfindings mread zmaside msteps mtried mbest) → va_S A s.heap H locs → decode cX6_safe pc = .ok (.ireturn, 1) → W p l e ({ frames := 4, cells := 0, slots := 0, locals := 93 } : Room) s m args below meth c H locs 0 0 Q (F0 m pc ls [.int r])) → W p l e ({ frames := 4, cells := 0, slots := 0, locals := 93 } : Room) s m args below meth c s.heap [] 0 0 Q (F0 m 0 ls []) := by
    intro Q hret
    skip
    have l14 : ∀ nu : Nat, ∀ x1 : Int32, ∀ x2 : Int32, ∀ maside : Nat → Int32, fX6_safe_l14 F mguests mclause mdoes mkinds msees mnow nu x1 x2 maside = some (r, zmaside) → ∀ (H : Heap) (locs : List Loc), va_P D vwCl (wMo T am mguests mclause mdeeds masked mupper mlower mfinding mreadGuests misSight mat mrowSizes mrows mtextSizes mtexts mdoes mkinds msees mnow mbefore mkeeps mkept mfindings mread maside msteps mtried mbest) H → va_D A (wMo T am mguests mclause mdeeds masked mupper mlower mfinding mreadGuests misSight mat mrowSizes mrows mtextSizes mtexts mdoes mkinds msees mnow mbefore mkeeps mkept mfindings mread maside msteps mtried mbest) → va_S A s.heap H locs → ∀ (ls : Array Slot), lv_has ls 3 [(0, .ref (am 0)), (1, .int x1), (2, .int x2)] → W p l e ({ frames := 4, cells := 0, slots := 0, locals := 93 } : Room) s m args below meth c H locs 0 0 Q (F0 m 14 ls []) := by
      intro nu
      induction nu with
      | zero => intro x1 x2 maside h; exact none_some h
      | succ nu14 ih14 =>
        intro x1 x2 maside h H locs hP hD hS ls hl
        have h : fX6_safe_l14_b F mguests mclause mdoes mkinds msees mnow (fX6_safe_l14 F mguests mclause mdoes mkinds msees mnow nu14) x1 x2 maside = some (r, zmaside) := h
        unfold fX6_safe_l14_b at h
        refine lv_iload_n hx hb dX6_safe_14 rfl (lv_at hl 2 rfl) ?_
        refine lv_iconst (v := (4 : Int32)) hx hb dX6_safe_15 (by decide) ?_
        refine lv_icmp_ge (tgt := 51) hx hb dX6_safe_16 (by decide) (fun c16 => ?_) (fun c16 => ?_)
        · have h := br_1 h c16
          refine lv_iload_n hx hb dX6_safe_51 rfl (lv_at hl 1 rfl) ?_
          cases h
          exact hret _ _ _ _ hP hD hS dX6_safe_52
        · have h := br_0 h c16
          refine lv_aload_n hx hb dX6_safe_19 rfl (lv_at hl 0 rfl) ?_
          obtain ⟨w20_maside, hc, h⟩ := bd1_some h
          have hFc := my_freeS hD hS hA
          refine my_rwv (va_runV (As := []) (rest := []) hFix (kX6_layAside l D T F am mguests mclause mdeeds masked mupper mlower mfinding mreadGuests misSight mat mrowSizes mrows mtextSizes mtexts mdoes mkinds msees mnow mbefore mkeeps mkept mfindings mread maside msteps mtried mbest w20_maside hc _) (cwV 0 hts gX6_safe_X6_layAside rfl rfl rfl ⟨rfl, hd_X6_layAside⟩ ⟨Nat.le_of_ble_eq_true rfl, Nat.le_of_ble_eq_true rfl⟩) (preV_rw hP hKK hD (va_recv hK hP (ci := 4) (q0 := 0) rfl wMo_0)) rfl rfl hl.1 rfl (lv_room (Nat.le_of_ble_eq_true rfl)) dX6_safe_20 ⟨Nat.zero_le _, Nat.zero_le _⟩) hS hFc (fun H1 locs hP1 hD1 hz1 hkk hS => ?_)
          have hP : va_P D vwCl (wMo T am mguests mclause mdeeds masked mupper mlower mfinding mreadGuests misSight mat mrowSizes mrows mtextSizes mtexts mdoes mkinds msees mnow mbefore mkeeps mkept mfindings mread w20_maside msteps mtried mbest) H1 := hP1
          have hD : va_D A (wMo T am mguests mclause mdeeds masked mupper mlower mfinding mreadGuests misSight mat mrowSizes mrows mtextSizes mtexts mdoes mkinds msees mnow mbefore mkeeps mkept mfindings mread w20_maside msteps mtried mbest) := hD1.weaken (fun _ q _ h => hFc q.1 h)
          generalize H1 = H at hP hS ⊢
          refine lv_iload_n hx hb dX6_safe_23 rfl (lv_at hl 1 rfl) ?_
          refine lv_aload_n hx hb dX6_safe_24 rfl (lv_at hl 0 rfl) ?_
          refine lv_aload_n hx hb dX6_safe_25 rfl (lv_at hl 0 rfl) ?_
          refine va_get (D := D) (ci := 4) (C := RX6) (T := TX6) (N := 27) hx hb hts iX6 hown hK hP 0 wMo_0 rfl 23 (by decide) q2 (fun _ h9 => h9) rfl dX6_safe_26 ?_
          refine lv_iload_n hx hb dX6_safe_29 rfl (lv_at hl 2 rfl) ?_
          obtain ⟨r30, w30_tt, hc, h⟩ := bd2_some h
          have hPc : va_P D vwCl (wMp T am (am 14) mguests mclause mdeeds masked mupper mlower mfinding mreadGuests misSight mat mdoes mkinds msees w20_maside) _ := my_subP sb_wMo_wMp_0_5_6_7_14 hP
          have hDc := hD.sub [0, 5, 6, 7, 14] (by decide) sb_wMo_wMp_0_5_6_7_14
          have hFc := va_free hD hS hA [0, 5, 6, 7, 14] sb_wMo_wMp_0_5_6_7_14
          refine my_rwi (va_runV (As := [.ref (am 14), .int x2]) (rest := [.int x1]) hFix (kX6_plays l D T F am (am 14) mguests mclause mdeeds masked mupper mlower mfinding mreadGuests misSight mat mdoes mkinds msees w20_maside x2 r30 w30_tt hc _) (cwV 2 hts gX6_safe_X6_plays rfl rfl rfl ⟨rfl, hd_X6_plays⟩ ⟨Nat.le_of_ble_eq_true rfl, Nat.le_of_ble_eq_true rfl⟩) (preV_rw hPc hKK hDc (va_recv hK hP (ci := 4) (q0 := 0) rfl wMo_0)) rfl rfl hl.1 rfl (lv_room (Nat.le_of_ble_eq_true rfl)) dX6_safe_30 ⟨Nat.zero_le _, Nat.zero_le _⟩) hS hFc (fun H1 locs hP1 hD1 hz1 hkk hS => ?_)
          obtain ⟨hP, hD⟩ := my_joinS hP hD (by decide) sb_wMo_wMp_0_5_6_7_14 (by rfl) hkk hFc hP1 hD1
          rw [st_wMo_wMp_0_5_6_7_14_plays] at hP hD
          generalize H1 = H at hP hS ⊢
          refine lv_if_ne (tgt := 42) hx hb dX6_safe_33 (by decide) (fun c33 => ?_) (fun c33 => ?_)
          · have h := br_0 h c33
            refine lv_iconst (v := (0 : Int32)) hx hb dX6_safe_42 (by decide) ?_
            refine lv_ior hx hb dX6_safe_43 ?_
            refine lv_istore_n (lv' := [(1, .int (x1 ||| (0 : Int32))), (0, .ref (am 0)), (2, .int x2)]) hx hb dX6_safe_44 rfl hl (by decide) rfl (fun ls hl => ?_)
            refine lv_iinc (v := (x2 + (1 : Int32))) (lv' := [(2, .int (x2 + (1 : Int32))), (1, .int (x1 ||| (0 : Int32))), (0, .ref (am 0))]) hx hb dX6_safe_45 hl (k := 2) rfl rfl (by decide) rfl (fun ls hl => ?_)
            refine lv_goto (tgt := 14) hx hb dX6_safe_48 (by decide) ?_
            exact ih14 (x1 ||| (0 : Int32)) (x2 + (1 : Int32)) w30_tt h _ _ hP hD hS _ (lv_sub hl [2, 1, 0] rfl)
          · have h := br_1 h c33
            refine lv_iconst (v := (1 : Int32)) hx hb dX6_safe_36 (by decide) ?_
            refine lv_iload_n hx hb dX6_safe_37 rfl (lv_at hl 2 rfl) ?_
            refine lv_ishl hx hb dX6_safe_38 ?_
            refine lv_goto (tgt := 43) hx hb dX6_safe_39 (by decide) ?_
            refine lv_ior hx hb dX6_safe_43 ?_
            refine lv_istore_n (lv' := [(1, .int (x1 ||| ((1 : Int32) <<< (x2 &&& 31)))), (0, .ref (am 0)), (2, .int x2)]) hx hb dX6_safe_44 rfl hl (by decide) rfl (fun ls hl => ?_)
            refine lv_iinc (v := (x2 + (1 : Int32))) (lv' := [(2, .int (x2 + (1 : Int32))), (1, .int (x1 ||| ((1 : Int32) <<< (x2 &&& 31)))), (0, .ref (am 0))]) hx hb dX6_safe_45 hl (k := 2) rfl rfl (by decide) rfl (fun ls hl => ?_)
            refine lv_goto (tgt := 14) hx hb dX6_safe_48 (by decide) ?_
            exact ih14 (x1 ||| ((1 : Int32) <<< (x2 &&& 31))) (x2 + (1 : Int32)) w30_tt h _ _ hP hD hS _ (lv_sub hl [2, 1, 0] rfl)
    unfold fX6_safe at h
    refine lv_aload_n hx hb dX6_safe_0 rfl (lv_at hl 0 rfl) ?_
    refine va_get (D := D) (ci := 4) (C := RX6) (T := TX6) (N := 27) hx hb hts iX6 hown hK hP 0 wMo_0 rfl 4 (by decide) q1 (fun _ h9 => h9) rfl dX6_safe_1 ?_
    refine lv_if_ne (tgt := 10) hx hb dX6_safe_4 (by decide) (fun c4 => ?_) (fun c4 => ?_)
    · have h := br_0 h c4
      refine lv_iconst (v := (0 : Int32)) hx hb dX6_safe_10 (by decide) ?_
      refine lv_istore_n (lv' := [(1, .int (0 : Int32)), (0, .ref (am 0))]) hx hb dX6_safe_11 rfl hl (by decide) rfl (fun ls hl => ?_)
      refine lv_iconst (v := (0 : Int32)) hx hb dX6_safe_12 (by decide) ?_
      refine lv_istore_n (lv' := [(2, .int (0 : Int32)), (1, .int (0 : Int32)), (0, .ref (am 0))]) hx hb dX6_safe_13 rfl hl (by decide) rfl (fun ls hl => ?_)
      exact l14 F (0 : Int32) (0 : Int32) maside h _ _ hP hD hS _ (lv_sub hl [2, 1, 0] rfl)
    · have h := br_1 h c4
      refine lv_bipush (v := (-4 : Int32)) hx hb dX6_safe_7 (by decide) ?_
      cases h
      exact hret _ _ _ _ hP hD hS dX6_safe_9
  exact key _ (fun H locs pc ls hP hD hS hd => W.iret hx hb hr (fun t ht hW => ⟨⟨_, (), rfl, rfl, by show _ ∧ _; rw [ht]; exact ⟨hP, hD⟩⟩, hS.F ht⟩) hS.2.2 hd)
set_option maxHeartbeats 4000000 in
set_option maxRecDepth 100000 in
theorem kX6_programme (l : Launch) (D : va_G) (T : Nat → ClassId) (F : Nat) (am : Nat → Nat) (mguests : Int32) (mclause : Int32) (mdeeds : Int32) (masked : Int32) (mupper : Int64) (mlower : Int64) (mfinding : Int32) (mreadGuests : Int32) (misSight : Int32) (mat : Int32) (mrowSizes : Nat → Int32) (mrows : Nat → Int32) (mtextSizes : Nat → Int32) (mtexts : Nat → Int32) (mdoes : Nat → Int32) (mkinds : Nat → Int32) (msees : Nat → Int32) (mnow : Nat → Int32) (mbefore : Nat → Int32) (mkeeps : Nat → Int32) (mkept : Nat → Int32) (mfindings : Nat → Int32) (mread : Nat → Int32) (maside : Nat → Int32) (msteps : Nat → Int32) (mtried : Nat → Int32) (mbest : Nat → Int32) (x1 : Int32) (r : Int32) (zmfinding : Int32) (zmfindings : Nat → Int32) (h : fX6_programme F mfinding mrowSizes mrows mfindings x1 = some (r, zmfinding, zmfindings)) : ∀ sz : Nat, Met l yX6_programme wsX6_programme ({ frames := 2, cells := 0, slots := 0, locals := 45 } : Room) (va_Pc [.ref (am 0), .int x1] (fun U => U.heap.size = sz ∧ va_P D vwCl (wMo T am mguests mclause mdeeds masked mupper mlower mfinding mreadGuests misSight mat mrowSizes mrows mtextSizes mtexts mdoes mkinds msees mnow mbefore mkeeps mkept mfindings mread maside msteps mtried mbest) U.heap ∧ KK D T U ∧ va_D (fun _ => True) (wMo T am mguests mclause mdeeds masked mupper mlower mfinding mreadGuests misSight mat mrowSizes mrows mtextSizes mtexts mdoes mkinds msees mnow mbefore mkeeps mkept mfindings mread maside msteps mtried mbest))) (va_Qi (fun r' (_ : Unit) => r' = r) (fun _ t => va_P D vwCl (wMo T am mguests mclause mdeeds masked mupper mlower zmfinding mreadGuests misSight mat mrowSizes mrows mtextSizes mtexts mdoes mkinds msees mnow mbefore mkeeps mkept zmfindings mread maside msteps mtried mbest) t.heap ∧ va_D (va_A (wMo T am mguests mclause mdeeds masked mupper mlower mfinding mreadGuests misSight mat mrowSizes mrows mtextSizes mtexts mdoes mkinds msees mnow mbefore mkeeps mkept mfindings mread maside msteps mtried mbest) sz) (wMo T am mguests mclause mdeeds masked mupper mlower zmfinding mreadGuests misSight mat mrowSizes mrows mtextSizes mtexts mdoes mkinds msees mnow mbefore mkeeps mkept zmfindings mread maside msteps mtried mbest)) (va_A (wMo T am mguests mclause mdeeds masked mupper mlower mfinding mreadGuests misSight mat mrowSizes mrows mtextSizes mtexts mdoes mkinds msees mnow mbefore mkeeps mkept mfindings mread maside msteps mtried mbest) sz)) 0 0 (va_A (wMo T am mguests mclause mdeeds masked mupper mlower mfinding mreadGuests misSight mat mrowSizes mrows mtextSizes mtexts mdoes mkinds msees mnow mbefore mkeeps mkept mfindings mread maside msteps mtried mbest) sz) := by
  intro sz
  refine Met.ofW (cc := cX6_programme) (maxL := 4) (ret := some .int) (by decide) rfl ?_
  intro p e s m args below meth c s₁ B hml hv
  obtain ⟨ha, hsz, hP, hKK, hD0⟩ := hv
  have hx := B.exec
  have hb := B.bytes
  have hr := B.returns
  have hts := atoms_spec (ws := wsX6_programme) B.pre
  have hown : s.vm.findClass RX6 = some m.cls := findClass_of_methodNamed B.named
  have hlocks := B.notSynchronized
  have hK := hKK.1
  have hFix : CallFix p m c cX6_programme 4 s args wsX6_programme RX6 := ⟨hx, hb, hml, hown, hts⟩
  have q1 := hts _ (List.mem_of_getElem? (i := 1) (show wsX6_programme[1]? = some (Cond.fieldLink RX6 7 "PartyWillModel" "rowSizes" "[I") from rfl))
  have q2 := hts _ (List.mem_of_getElem? (i := 2) (show wsX6_programme[2]? = some (Cond.fieldLink RX6 13 "PartyWillModel" "rows" "[I") from rfl))
  have iX6 : ∀ w ∈ u_ws RX6 TX6 27, w ∈ wsX6_programme := fun w h => List.mem_cons_of_mem _ (List.mem_append_right _ (h))
  subst hsz
  have hD := hD0.self (sz := s.heap.size)
  generalize hAe : va_A (wMo T am mguests mclause mdeeds masked mupper mlower mfinding mreadGuests misSight mat mrowSizes mrows mtextSizes mtexts mdoes mkinds msees mnow mbefore mkeeps mkept mfindings mread maside msteps mtried mbest) s.heap.size = A at hD ⊢
  have hA : ∀ q : Nat, s.heap.size ≤ q → A q := fun q h => by rw [← hAe]; exact Or.inr h
  have hS : va_S A s.heap s.heap [] := va_S.rf
  have hP : va_P D vwCl (wMo T am mguests mclause mdeeds masked mupper mlower mfinding mreadGuests misSight mat mrowSizes mrows mtextSizes mtexts mdoes mkinds msees mnow mbefore mkeeps mkept mfindings mread maside msteps mtried mbest) s.heap := hP
  obtain ⟨ls, hl, e0⟩ := my_entry (m := m) (n := 4) ha (Nat.le_of_ble_eq_true rfl)
  rw [e0]
  have hl : lv_has ls 4 [(0, .ref (am 0)), (1, .int x1)] := hl
  have key : ∀ Q : State → Prop, (∀ (H : Heap) (locs : List Loc) (pc : Nat) (ls : Array Slot), va_P D vwCl (wMo T am mguests mclause mdeeds masked mupper mlower zmfinding mreadGuests misSight mat mrowSizes mrows mtextSizes mtexts mdoes mkinds msees mnow mbefore mkeeps mkept zmfindings mread maside msteps mtried mbest) H → va_D A (wMo T am mguests mclause mdeeds masked mupper mlower zmfinding mreadGuests misSight mat mrowSizes mrows mtextSizes mtexts mdoes mkinds msees mnow mbefore mkeeps mkept zmfindings mread maside msteps mtried mbest) → va_S A s.heap H locs → decode cX6_programme pc = .ok (.ireturn, 1) → W p l e ({ frames := 2, cells := 0, slots := 0, locals := 45 } : Room) s m args below meth c H locs 0 0 Q (F0 m pc ls [.int r])) → W p l e ({ frames := 2, cells := 0, slots := 0, locals := 45 } : Room) s m args below meth c s.heap [] 0 0 Q (F0 m 0 ls []) := by
    intro Q hret
    skip
    have l36 : ∀ x1 : Int32, ∀ mfinding : Int32, ∀ mfindings : Nat → Int32, ∀ nu : Nat, ∀ x2 : Int32, ∀ x3 : Int32, fX6_programme_l36 F mrowSizes mrows x1 mfinding mfindings nu x2 x3 = some (r, zmfinding, zmfindings) → ∀ (H : Heap) (locs : List Loc), va_P D vwCl (wMo T am mguests mclause mdeeds masked mupper mlower mfinding mreadGuests misSight mat mrowSizes mrows mtextSizes mtexts mdoes mkinds msees mnow mbefore mkeeps mkept mfindings mread maside msteps mtried mbest) H → va_D A (wMo T am mguests mclause mdeeds masked mupper mlower mfinding mreadGuests misSight mat mrowSizes mrows mtextSizes mtexts mdoes mkinds msees mnow mbefore mkeeps mkept mfindings mread maside msteps mtried mbest) → va_S A s.heap H locs → ∀ (ls : Array Slot), lv_has ls 4 [(0, .ref (am 0)), (1, .int x1), (2, .int x2), (3, .int x3)] → W p l e ({ frames := 2, cells := 0, slots := 0, locals := 45 } : Room) s m args below meth c H locs 0 0 Q (F0 m 36 ls []) := by
      intro x1 mfinding mfindings
      intro nu
      induction nu with
      | zero => intro x2 x3 h; exact none_some h
      | succ nu36 ih36 =>
        intro x2 x3 h H locs hP hD hS ls hl
        have h : fX6_programme_l36_b F mrowSizes mrows x1 mfinding mfindings (fX6_programme_l36 F mrowSizes mrows x1 mfinding mfindings nu36) x2 x3 = some (r, zmfinding, zmfindings) := h
        unfold fX6_programme_l36_b at h
        refine lv_iload_n hx hb dX6_programme_36 rfl (lv_at hl 3 rfl) ?_
        refine lv_aload_n hx hb dX6_programme_37 rfl (lv_at hl 0 rfl) ?_
        refine va_get (D := D) (ci := 4) (C := RX6) (T := TX6) (N := 27) hx hb hts iX6 hown hK hP 0 wMo_0 rfl 0 (by decide) q1 (fun _ h9 => h9) rfl dX6_programme_38 ?_
        refine lv_iload_n hx hb dX6_programme_41 rfl (lv_at hl 1 rfl) ?_
        obtain ⟨hin1, h⟩ := ck_some h
        refine va_iald hx hb hK hP 1 0 wMo_1 rfl hin1 dX6_programme_42 ?_
        refine lv_icmp_ge (tgt := 79) hx hb dX6_programme_43 (by decide) (fun c43 => ?_) (fun c43 => ?_)
        · have h := br_1 h c43
          refine lv_iload_n hx hb dX6_programme_79 rfl (lv_at hl 2 rfl) ?_
          refine lv_if_eq (tgt := 87) hx hb dX6_programme_80 (by decide) (fun c80 => ?_) (fun c80 => ?_)
          · have h := br_1 h c80
            refine lv_aload_n hx hb dX6_programme_87 rfl (lv_at hl 0 rfl) ?_
            refine lv_iconst (v := (3 : Int32)) hx hb dX6_programme_88 (by decide) ?_
            obtain ⟨r89, w89_mfinding, w89_mfindings, hc, h⟩ := bd3_some h
            have hFc := my_freeS hD hS hA
            refine my_rwi (va_runV (As := [.int (3 : Int32)]) (rest := []) hFix (kX6_found l D T F am mguests mclause mdeeds masked mupper mlower mfinding mreadGuests misSight mat mrowSizes mrows mtextSizes mtexts mdoes mkinds msees mnow mbefore mkeeps mkept mfindings mread maside msteps mtried mbest (3 : Int32) r89 w89_mfinding w89_mfindings hc _) (cwV 1 hts gX6_programme_X6_found rfl rfl rfl ⟨rfl, hd_X6_found⟩ ⟨Nat.le_of_ble_eq_true rfl, Nat.le_of_ble_eq_true rfl⟩) (preV_rw hP hKK hD (va_recv hK hP (ci := 4) (q0 := 0) rfl wMo_0)) rfl rfl hl.1 rfl (lv_room (Nat.le_of_ble_eq_true rfl)) dX6_programme_89 ⟨Nat.zero_le _, Nat.zero_le _⟩) hS hFc (fun H1 locs hP1 hD1 hz1 hkk hS => ?_)
            have hP : va_P D vwCl (wMo T am mguests mclause mdeeds masked mupper mlower w89_mfinding mreadGuests misSight mat mrowSizes mrows mtextSizes mtexts mdoes mkinds msees mnow mbefore mkeeps mkept w89_mfindings mread maside msteps mtried mbest) H1 := hP1
            have hD : va_D A (wMo T am mguests mclause mdeeds masked mupper mlower w89_mfinding mreadGuests misSight mat mrowSizes mrows mtextSizes mtexts mdoes mkinds msees mnow mbefore mkeeps mkept w89_mfindings mread maside msteps mtried mbest) := hD1.weaken (fun _ q _ h => hFc q.1 h)
            generalize H1 = H at hP hS ⊢
            cases h
            exact hret _ _ _ _ hP hD hS dX6_programme_92
          · have h := br_0 h c80
            refine lv_iconst (v := (0 : Int32)) hx hb dX6_programme_83 (by decide) ?_
            refine lv_goto (tgt := 92) hx hb dX6_programme_84 (by decide) ?_
            cases h
            exact hret _ _ _ _ hP hD hS dX6_programme_92
        · have h := br_0 h c43
          refine lv_iload_n hx hb dX6_programme_46 rfl (lv_at hl 2 rfl) ?_
          refine lv_if_eq (tgt := 71) hx hb dX6_programme_47 (by decide) (fun c47 => ?_) (fun c47 => ?_)
          · have h := br_1 h c47
            refine lv_iconst (v := (0 : Int32)) hx hb dX6_programme_71 (by decide) ?_
            refine lv_istore_n (lv' := [(2, .int (0 : Int32)), (0, .ref (am 0)), (1, .int x1), (3, .int x3)]) hx hb dX6_programme_72 rfl hl (by decide) rfl (fun ls hl => ?_)
            refine lv_iinc (v := (x3 + (1 : Int32))) (lv' := [(3, .int (x3 + (1 : Int32))), (2, .int (0 : Int32)), (0, .ref (am 0)), (1, .int x1)]) hx hb dX6_programme_73 hl (k := 3) rfl rfl (by decide) rfl (fun ls hl => ?_)
            refine lv_goto (tgt := 36) hx hb dX6_programme_76 (by decide) ?_
            exact ih36 (0 : Int32) (x3 + (1 : Int32)) h _ _ hP hD hS _ (lv_sub hl [2, 3, 1, 0] rfl)
          · have h := br_0 h c47
            refine lv_aload_n hx hb dX6_programme_50 rfl (lv_at hl 0 rfl) ?_
            refine va_get (D := D) (ci := 4) (C := RX6) (T := TX6) (N := 27) hx hb hts iX6 hown hK hP 0 wMo_0 rfl 1 (by decide) q2 (fun _ h9 => h9) rfl dX6_programme_51 ?_
            refine lv_bipush (v := (40 : Int32)) hx hb dX6_programme_54 (by decide) ?_
            refine lv_iload_n hx hb dX6_programme_56 rfl (lv_at hl 1 rfl) ?_
            refine lv_imul hx hb dX6_programme_57 ?_
            refine lv_iload_n hx hb dX6_programme_58 rfl (lv_at hl 3 rfl) ?_
            refine lv_iadd hx hb dX6_programme_59 ?_
            obtain ⟨hin2, h⟩ := ck_some h
            refine va_iald hx hb hK hP 2 0 wMo_2 rfl hin2 dX6_programme_60 ?_
            obtain ⟨r61, hc, h⟩ := bd1_some h
            refine my_roz (va_Run.run (va_runS (As := [.int (mrows (((40 : Int32) * x1) + x3).toNatClampNeg)]) (rest := []) hFix (kX6_isTune l D T F (mrows (((40 : Int32) * x1) + x3).toNatClampNeg) r61 hc) (va_cwS 1 hts gX6_programme_X6_isTune rfl rfl rfl hd_X6_isTune ⟨Nat.le_of_ble_eq_true rfl, Nat.le_of_ble_eq_true rfl⟩) (preS_ro va_nil hKK) rfl rfl hl.1 rfl (lv_room (Nat.le_of_ble_eq_true rfl)) dX6_programme_61 ⟨Nat.zero_le _, Nat.zero_le _⟩)) (fun hb61 => ?_)
            refine lv_if_eq (tgt := 71) hx hb dX6_programme_64 (by decide) (fun c64 => ?_) (fun c64 => ?_)
            · have h := br_1 h c64
              refine lv_iconst (v := (0 : Int32)) hx hb dX6_programme_71 (by decide) ?_
              refine lv_istore_n (lv' := [(2, .int (0 : Int32)), (0, .ref (am 0)), (1, .int x1), (3, .int x3)]) hx hb dX6_programme_72 rfl hl (by decide) rfl (fun ls hl => ?_)
              refine lv_iinc (v := (x3 + (1 : Int32))) (lv' := [(3, .int (x3 + (1 : Int32))), (2, .int (0 : Int32)), (0, .ref (am 0)), (1, .int x1)]) hx hb dX6_programme_73 hl (k := 3) rfl rfl (by decide) rfl (fun ls hl => ?_)
              refine lv_goto (tgt := 36) hx hb dX6_programme_76 (by decide) ?_
              exact ih36 (0 : Int32) (x3 + (1 : Int32)) h _ _ hP hD hS _ (lv_sub hl [2, 3, 1, 0] rfl)
            · have h := br_0 h c64
              refine lv_iconst (v := (1 : Int32)) hx hb dX6_programme_67 (by decide) ?_
              refine lv_goto (tgt := 72) hx hb dX6_programme_68 (by decide) ?_
              refine lv_istore_n (lv' := [(2, .int (1 : Int32)), (0, .ref (am 0)), (1, .int x1), (3, .int x3)]) hx hb dX6_programme_72 rfl hl (by decide) rfl (fun ls hl => ?_)
              refine lv_iinc (v := (x3 + (1 : Int32))) (lv' := [(3, .int (x3 + (1 : Int32))), (2, .int (1 : Int32)), (0, .ref (am 0)), (1, .int x1)]) hx hb dX6_programme_73 hl (k := 3) rfl rfl (by decide) rfl (fun ls hl => ?_)
              refine lv_goto (tgt := 36) hx hb dX6_programme_76 (by decide) ?_
              exact ih36 (1 : Int32) (x3 + (1 : Int32)) h _ _ hP hD hS _ (lv_sub hl [2, 3, 1, 0] rfl)
    unfold fX6_programme at h
    refine lv_aload_n hx hb dX6_programme_0 rfl (lv_at hl 0 rfl) ?_
    refine va_get (D := D) (ci := 4) (C := RX6) (T := TX6) (N := 27) hx hb hts iX6 hown hK hP 0 wMo_0 rfl 0 (by decide) q1 (fun _ h9 => h9) rfl dX6_programme_1 ?_
    refine lv_iload_n hx hb dX6_programme_4 rfl (lv_at hl 1 rfl) ?_
    obtain ⟨hin3, h⟩ := ck_some h
    refine va_iald hx hb hK hP 1 0 wMo_1 rfl hin3 dX6_programme_5 ?_
    refine lv_if_ge (tgt := 15) hx hb dX6_programme_6 (by decide) (fun c6 => ?_) (fun c6 => ?_)
    · have h := br_1 h c6
      refine lv_aload_n hx hb dX6_programme_15 rfl (lv_at hl 0 rfl) ?_
      refine va_get (D := D) (ci := 4) (C := RX6) (T := TX6) (N := 27) hx hb hts iX6 hown hK hP 0 wMo_0 rfl 0 (by decide) q1 (fun _ h9 => h9) rfl dX6_programme_16 ?_
      refine lv_iload_n hx hb dX6_programme_19 rfl (lv_at hl 1 rfl) ?_
      obtain ⟨hin4, h⟩ := ck_some h
      refine va_iald hx hb hK hP 1 0 wMo_1 rfl hin4 dX6_programme_20 ?_
      refine lv_bipush (v := (6 : Int32)) hx hb dX6_programme_21 (by decide) ?_
      refine lv_icmp_le (tgt := 32) hx hb dX6_programme_23 (by decide) (fun c23 => ?_) (fun c23 => ?_)
      · have h := br_1 h c23
        refine lv_iconst (v := (1 : Int32)) hx hb dX6_programme_32 (by decide) ?_
        refine lv_istore_n (lv' := [(2, .int (1 : Int32)), (0, .ref (am 0)), (1, .int x1)]) hx hb dX6_programme_33 rfl hl (by decide) rfl (fun ls hl => ?_)
        refine lv_iconst (v := (0 : Int32)) hx hb dX6_programme_34 (by decide) ?_
        refine lv_istore_n (lv' := [(3, .int (0 : Int32)), (2, .int (1 : Int32)), (0, .ref (am 0)), (1, .int x1)]) hx hb dX6_programme_35 rfl hl (by decide) rfl (fun ls hl => ?_)
        exact l36 x1 mfinding mfindings F (1 : Int32) (0 : Int32) h _ _ hP hD hS _ (lv_sub hl [2, 3, 1, 0] rfl)
      · have h := br_0 h c23
        refine lv_aload_n hx hb dX6_programme_26 rfl (lv_at hl 0 rfl) ?_
        refine lv_iconst (v := (5 : Int32)) hx hb dX6_programme_27 (by decide) ?_
        obtain ⟨r28, w28_mfinding, w28_mfindings, hc, h⟩ := bd3_some h
        have hFc := my_freeS hD hS hA
        refine my_rwi (va_runV (As := [.int (5 : Int32)]) (rest := []) hFix (kX6_found l D T F am mguests mclause mdeeds masked mupper mlower mfinding mreadGuests misSight mat mrowSizes mrows mtextSizes mtexts mdoes mkinds msees mnow mbefore mkeeps mkept mfindings mread maside msteps mtried mbest (5 : Int32) r28 w28_mfinding w28_mfindings hc _) (cwV 1 hts gX6_programme_X6_found rfl rfl rfl ⟨rfl, hd_X6_found⟩ ⟨Nat.le_of_ble_eq_true rfl, Nat.le_of_ble_eq_true rfl⟩) (preV_rw hP hKK hD (va_recv hK hP (ci := 4) (q0 := 0) rfl wMo_0)) rfl rfl hl.1 rfl (lv_room (Nat.le_of_ble_eq_true rfl)) dX6_programme_28 ⟨Nat.zero_le _, Nat.zero_le _⟩) hS hFc (fun H1 locs hP1 hD1 hz1 hkk hS => ?_)
        have hP : va_P D vwCl (wMo T am mguests mclause mdeeds masked mupper mlower w28_mfinding mreadGuests misSight mat mrowSizes mrows mtextSizes mtexts mdoes mkinds msees mnow mbefore mkeeps mkept w28_mfindings mread maside msteps mtried mbest) H1 := hP1
        have hD : va_D A (wMo T am mguests mclause mdeeds masked mupper mlower w28_mfinding mreadGuests misSight mat mrowSizes mrows mtextSizes mtexts mdoes mkinds msees mnow mbefore mkeeps mkept w28_mfindings mread maside msteps mtried mbest) := hD1.weaken (fun _ q _ h => hFc q.1 h)
        generalize H1 = H at hP hS ⊢
        cases h
        exact hret _ _ _ _ hP hD hS dX6_programme_31
    · have h := br_0 h c6
      refine lv_aload_n hx hb dX6_programme_9 rfl (lv_at hl 0 rfl) ?_
      refine lv_iconst (v := (1 : Int32)) hx hb dX6_programme_10 (by decide) ?_
      obtain ⟨r11, w11_mfinding, w11_mfindings, hc, h⟩ := bd3_some h
      have hFc := my_freeS hD hS hA
      refine my_rwi (va_runV (As := [.int (1 : Int32)]) (rest := []) hFix (kX6_found l D T F am mguests mclause mdeeds masked mupper mlower mfinding mreadGuests misSight mat mrowSizes mrows mtextSizes mtexts mdoes mkinds msees mnow mbefore mkeeps mkept mfindings mread maside msteps mtried mbest (1 : Int32) r11 w11_mfinding w11_mfindings hc _) (cwV 1 hts gX6_programme_X6_found rfl rfl rfl ⟨rfl, hd_X6_found⟩ ⟨Nat.le_of_ble_eq_true rfl, Nat.le_of_ble_eq_true rfl⟩) (preV_rw hP hKK hD (va_recv hK hP (ci := 4) (q0 := 0) rfl wMo_0)) rfl rfl hl.1 rfl (lv_room (Nat.le_of_ble_eq_true rfl)) dX6_programme_11 ⟨Nat.zero_le _, Nat.zero_le _⟩) hS hFc (fun H1 locs hP1 hD1 hz1 hkk hS => ?_)
      have hP : va_P D vwCl (wMo T am mguests mclause mdeeds masked mupper mlower w11_mfinding mreadGuests misSight mat mrowSizes mrows mtextSizes mtexts mdoes mkinds msees mnow mbefore mkeeps mkept w11_mfindings mread maside msteps mtried mbest) H1 := hP1
      have hD : va_D A (wMo T am mguests mclause mdeeds masked mupper mlower w11_mfinding mreadGuests misSight mat mrowSizes mrows mtextSizes mtexts mdoes mkinds msees mnow mbefore mkeeps mkept w11_mfindings mread maside msteps mtried mbest) := hD1.weaken (fun _ q _ h => hFc q.1 h)
      generalize H1 = H at hP hS ⊢
      cases h
      exact hret _ _ _ _ hP hD hS dX6_programme_14
  exact key _ (fun H locs pc ls hP hD hS hd => W.iret hx hb hr (fun t ht hW => ⟨⟨_, (), rfl, rfl, by show _ ∧ _; rw [ht]; exact ⟨hP, hD⟩⟩, hS.F ht⟩) hS.2.2 hd)
set_option maxHeartbeats 4000000 in
set_option maxRecDepth 100000 in
theorem kX6_falls (l : Launch) (D : va_G) (T : Nat → ClassId) (F : Nat) (am : Nat → Nat) (mguests : Int32) (mclause : Int32) (mdeeds : Int32) (masked : Int32) (mupper : Int64) (mlower : Int64) (mfinding : Int32) (mreadGuests : Int32) (misSight : Int32) (mat : Int32) (mrowSizes : Nat → Int32) (mrows : Nat → Int32) (mtextSizes : Nat → Int32) (mtexts : Nat → Int32) (mdoes : Nat → Int32) (mkinds : Nat → Int32) (msees : Nat → Int32) (mnow : Nat → Int32) (mbefore : Nat → Int32) (mkeeps : Nat → Int32) (mkept : Nat → Int32) (mfindings : Nat → Int32) (mread : Nat → Int32) (maside : Nat → Int32) (msteps : Nat → Int32) (mtried : Nat → Int32) (mbest : Nat → Int32) (x1 : Int32) (r : Int32) (zmasked : Int32) (zmfinding : Int32) (zmfindings : Nat → Int32) (zmaside : Nat → Int32) (h : fX6_falls F mguests mclause masked mfinding mrowSizes mrows mdoes mkinds msees mnow mfindings maside x1 = some (r, zmasked, zmfinding, zmfindings, zmaside)) : ∀ sz : Nat, Met l yX6_falls wsX6_falls ({ frames := 4, cells := 0, slots := 0, locals := 93 } : Room) (va_Pc [.ref (am 0), .int x1] (fun U => U.heap.size = sz ∧ va_P D vwCl (wMo T am mguests mclause mdeeds masked mupper mlower mfinding mreadGuests misSight mat mrowSizes mrows mtextSizes mtexts mdoes mkinds msees mnow mbefore mkeeps mkept mfindings mread maside msteps mtried mbest) U.heap ∧ KK D T U ∧ va_D (fun _ => True) (wMo T am mguests mclause mdeeds masked mupper mlower mfinding mreadGuests misSight mat mrowSizes mrows mtextSizes mtexts mdoes mkinds msees mnow mbefore mkeeps mkept mfindings mread maside msteps mtried mbest))) (va_Qi (fun r' (_ : Unit) => r' = r) (fun _ t => va_P D vwCl (wMo T am mguests mclause mdeeds zmasked mupper mlower zmfinding mreadGuests misSight mat mrowSizes mrows mtextSizes mtexts mdoes mkinds msees mnow mbefore mkeeps mkept zmfindings mread zmaside msteps mtried mbest) t.heap ∧ va_D (va_A (wMo T am mguests mclause mdeeds masked mupper mlower mfinding mreadGuests misSight mat mrowSizes mrows mtextSizes mtexts mdoes mkinds msees mnow mbefore mkeeps mkept mfindings mread maside msteps mtried mbest) sz) (wMo T am mguests mclause mdeeds zmasked mupper mlower zmfinding mreadGuests misSight mat mrowSizes mrows mtextSizes mtexts mdoes mkinds msees mnow mbefore mkeeps mkept zmfindings mread zmaside msteps mtried mbest)) (va_A (wMo T am mguests mclause mdeeds masked mupper mlower mfinding mreadGuests misSight mat mrowSizes mrows mtextSizes mtexts mdoes mkinds msees mnow mbefore mkeeps mkept mfindings mread maside msteps mtried mbest) sz)) 0 0 (va_A (wMo T am mguests mclause mdeeds masked mupper mlower mfinding mreadGuests misSight mat mrowSizes mrows mtextSizes mtexts mdoes mkinds msees mnow mbefore mkeeps mkept mfindings mread maside msteps mtried mbest) sz) := by
  intro sz
  refine Met.ofW (cc := cX6_falls) (maxL := 5) (ret := some .int) (by decide) rfl ?_
  intro p e s m args below meth c s₁ B hml hv
  obtain ⟨ha, hsz, hP, hKK, hD0⟩ := hv
  have hx := B.exec
  have hb := B.bytes
  have hr := B.returns
  have hts := atoms_spec (ws := wsX6_falls) B.pre
  have hown : s.vm.findClass RX6 = some m.cls := findClass_of_methodNamed B.named
  have hlocks := B.notSynchronized
  have hK := hKK.1
  have hFix : CallFix p m c cX6_falls 5 s args wsX6_falls RX6 := ⟨hx, hb, hml, hown, hts⟩
  have q1 := hts _ (List.mem_of_getElem? (i := 1) (show wsX6_falls[1]? = some (Cond.fieldLink RX6 7 "PartyWillModel" "rowSizes" "[I") from rfl))
  have q2 := hts _ (List.mem_of_getElem? (i := 2) (show wsX6_falls[2]? = some (Cond.fieldLink RX6 54 "PartyWillModel" "aside" "[I") from rfl))
  have q3 := hts _ (List.mem_of_getElem? (i := 3) (show wsX6_falls[3]? = some (Cond.fieldLink RX6 13 "PartyWillModel" "rows" "[I") from rfl))
  have iX6 : ∀ w ∈ u_ws RX6 TX6 27, w ∈ wsX6_falls := fun w h => List.mem_cons_of_mem _ (List.mem_append_right _ (h))
  subst hsz
  have hD := hD0.self (sz := s.heap.size)
  generalize hAe : va_A (wMo T am mguests mclause mdeeds masked mupper mlower mfinding mreadGuests misSight mat mrowSizes mrows mtextSizes mtexts mdoes mkinds msees mnow mbefore mkeeps mkept mfindings mread maside msteps mtried mbest) s.heap.size = A at hD ⊢
  have hA : ∀ q : Nat, s.heap.size ≤ q → A q := fun q h => by rw [← hAe]; exact Or.inr h
  have hS : va_S A s.heap s.heap [] := va_S.rf
  have hP : va_P D vwCl (wMo T am mguests mclause mdeeds masked mupper mlower mfinding mreadGuests misSight mat mrowSizes mrows mtextSizes mtexts mdoes mkinds msees mnow mbefore mkeeps mkept mfindings mread maside msteps mtried mbest) s.heap := hP
  obtain ⟨ls, hl, e0⟩ := my_entry (m := m) (n := 5) ha (Nat.le_of_ble_eq_true rfl)
  rw [e0]
  have hl : lv_has ls 5 [(0, .ref (am 0)), (1, .int x1)] := hl
  have key : ∀ Q : State → Prop, (∀ (H : Heap) (locs : List Loc) (pc : Nat) (ls : Array Slot), va_P D vwCl (wMo T am mguests mclause mdeeds zmasked mupper mlower zmfinding mreadGuests misSight mat mrowSizes mrows mtextSizes mtexts mdoes mkinds msees mnow mbefore mkeeps mkept zmfindings mread zmaside msteps mtried mbest) H → va_D A (wMo T am mguests mclause mdeeds zmasked mupper mlower zmfinding mreadGuests misSight mat mrowSizes mrows mtextSizes mtexts mdoes mkinds msees mnow mbefore mkeeps mkept zmfindings mread zmaside msteps mtried mbest) → va_S A s.heap H locs → decode cX6_falls pc = .ok (.ireturn, 1) → W p l e ({ frames := 4, cells := 0, slots := 0, locals := 93 } : Room) s m args below meth c H locs 0 0 Q (F0 m pc ls [.int r])) → W p l e ({ frames := 4, cells := 0, slots := 0, locals := 93 } : Room) s m args below meth c s.heap [] 0 0 Q (F0 m 0 ls []) := by
    intro Q hret
    skip
    have l29 : ∀ x1 : Int32, ∀ masked : Int32, ∀ mfinding : Int32, ∀ mfindings : Nat → Int32, ∀ nu : Nat, ∀ x3 : Int32, ∀ maside : Nat → Int32, fX6_falls_l29 F mguests mclause mrowSizes mrows mdoes mkinds msees mnow x1 masked mfinding mfindings nu x3 maside = some (r, zmasked, zmfinding, zmfindings, zmaside) → ∀ (H : Heap) (locs : List Loc), va_P D vwCl (wMo T am mguests mclause mdeeds masked mupper mlower mfinding mreadGuests misSight mat mrowSizes mrows mtextSizes mtexts mdoes mkinds msees mnow mbefore mkeeps mkept mfindings mread maside msteps mtried mbest) H → va_D A (wMo T am mguests mclause mdeeds masked mupper mlower mfinding mreadGuests misSight mat mrowSizes mrows mtextSizes mtexts mdoes mkinds msees mnow mbefore mkeeps mkept mfindings mread maside msteps mtried mbest) → va_S A s.heap H locs → ∀ (ls : Array Slot), lv_has ls 5 [(0, .ref (am 0)), (1, .int x1), (3, .int x3)] → W p l e ({ frames := 4, cells := 0, slots := 0, locals := 93 } : Room) s m args below meth c H locs 0 0 Q (F0 m 29 ls []) := by
      intro x1 masked mfinding mfindings
      intro nu
      induction nu with
      | zero => intro x3 maside h; exact none_some h
      | succ nu29 ih29 =>
        intro x3 maside h H locs hP hD hS ls hl
        have h : fX6_falls_l29_b F mguests mclause mrowSizes mrows mdoes mkinds msees mnow x1 masked mfinding mfindings (fX6_falls_l29 F mguests mclause mrowSizes mrows mdoes mkinds msees mnow x1 masked mfinding mfindings nu29) x3 maside = some (r, zmasked, zmfinding, zmfindings, zmaside) := h
        unfold fX6_falls_l29_b at h
        refine lv_iload_n hx hb dX6_falls_29 rfl (lv_at hl 2 rfl) ?_
        refine lv_aload_n hx hb dX6_falls_30 rfl (lv_at hl 0 rfl) ?_
        refine va_get (D := D) (ci := 4) (C := RX6) (T := TX6) (N := 27) hx hb hts iX6 hown hK hP 0 wMo_0 rfl 0 (by decide) q1 (fun _ h9 => h9) rfl dX6_falls_31 ?_
        refine lv_iload_n hx hb dX6_falls_34 rfl (lv_at hl 1 rfl) ?_
        obtain ⟨hin1, h⟩ := ck_some h
        refine va_iald hx hb hK hP 1 0 wMo_1 rfl hin1 dX6_falls_35 ?_
        refine lv_icmp_ge (tgt := 79) hx hb dX6_falls_36 (by decide) (fun c36 => ?_) (fun c36 => ?_)
        · have h := br_1 h c36
          refine lv_aload_n hx hb dX6_falls_79 rfl (lv_at hl 0 rfl) ?_
          refine lv_bipush (v := (-9 : Int32)) hx hb dX6_falls_80 (by decide) ?_
          refine lv_iconst (v := (0 : Int32)) hx hb dX6_falls_82 (by decide) ?_
          obtain ⟨r83, w83_masked, hc, h⟩ := bd2_some h
          have hFc := my_freeS hD hS hA
          refine my_rwi (va_runV (As := [.int (-9 : Int32), .int (0 : Int32)]) (rest := []) hFix (kX6_answer l D T F am mguests mclause mdeeds masked mupper mlower mfinding mreadGuests misSight mat mrowSizes mrows mtextSizes mtexts mdoes mkinds msees mnow mbefore mkeeps mkept mfindings mread maside msteps mtried mbest (-9 : Int32) (0 : Int32) r83 w83_masked hc _) (cwV 2 hts gX6_falls_X6_answer rfl rfl rfl ⟨rfl, hd_X6_answer⟩ ⟨Nat.le_of_ble_eq_true rfl, Nat.le_of_ble_eq_true rfl⟩) (preV_rw hP hKK hD (va_recv hK hP (ci := 4) (q0 := 0) rfl wMo_0)) rfl rfl hl.1 rfl (lv_room (Nat.le_of_ble_eq_true rfl)) dX6_falls_83 ⟨Nat.zero_le _, Nat.zero_le _⟩) hS hFc (fun H1 locs hP1 hD1 hz1 hkk hS => ?_)
          have hP : va_P D vwCl (wMo T am mguests mclause mdeeds w83_masked mupper mlower mfinding mreadGuests misSight mat mrowSizes mrows mtextSizes mtexts mdoes mkinds msees mnow mbefore mkeeps mkept mfindings mread maside msteps mtried mbest) H1 := hP1
          have hD : va_D A (wMo T am mguests mclause mdeeds w83_masked mupper mlower mfinding mreadGuests misSight mat mrowSizes mrows mtextSizes mtexts mdoes mkinds msees mnow mbefore mkeeps mkept mfindings mread maside msteps mtried mbest) := hD1.weaken (fun _ q _ h => hFc q.1 h)
          generalize H1 = H at hP hS ⊢
          cases h
          exact hret _ _ _ _ hP hD hS dX6_falls_86
        · have h := br_0 h c36
          refine lv_aload_n hx hb dX6_falls_39 rfl (lv_at hl 0 rfl) ?_
          refine lv_aload_n hx hb dX6_falls_40 rfl (lv_at hl 0 rfl) ?_
          refine va_get (D := D) (ci := 4) (C := RX6) (T := TX6) (N := 27) hx hb hts iX6 hown hK hP 0 wMo_0 rfl 23 (by decide) q2 (fun _ h9 => h9) rfl dX6_falls_41 ?_
          refine lv_aload_n hx hb dX6_falls_44 rfl (lv_at hl 0 rfl) ?_
          refine va_get (D := D) (ci := 4) (C := RX6) (T := TX6) (N := 27) hx hb hts iX6 hown hK hP 0 wMo_0 rfl 1 (by decide) q3 (fun _ h9 => h9) rfl dX6_falls_45 ?_
          refine lv_bipush (v := (40 : Int32)) hx hb dX6_falls_48 (by decide) ?_
          refine lv_iload_n hx hb dX6_falls_50 rfl (lv_at hl 1 rfl) ?_
          refine lv_imul hx hb dX6_falls_51 ?_
          refine lv_iload_n hx hb dX6_falls_52 rfl (lv_at hl 2 rfl) ?_
          refine lv_iadd hx hb dX6_falls_53 ?_
          obtain ⟨hin2, h⟩ := ck_some h
          refine va_iald hx hb hK hP 2 0 wMo_2 rfl hin2 dX6_falls_54 ?_
          obtain ⟨r55, w55_tt, hc, h⟩ := bd2_some h
          have hPc : va_P D vwCl (wMp T am (am 14) mguests mclause mdeeds masked mupper mlower mfinding mreadGuests misSight mat mdoes mkinds msees maside) _ := my_subP sb_wMo_wMp_0_5_6_7_14 hP
          have hDc := hD.sub [0, 5, 6, 7, 14] (by decide) sb_wMo_wMp_0_5_6_7_14
          have hFc := va_free hD hS hA [0, 5, 6, 7, 14] sb_wMo_wMp_0_5_6_7_14
          refine my_rwi (va_runV (As := [.ref (am 14), .int (mrows (((40 : Int32) * x1) + x3).toNatClampNeg)]) (rest := []) hFix (kX6_plays l D T F am (am 14) mguests mclause mdeeds masked mupper mlower mfinding mreadGuests misSight mat mdoes mkinds msees maside (mrows (((40 : Int32) * x1) + x3).toNatClampNeg) r55 w55_tt hc _) (cwV 2 hts gX6_falls_X6_plays rfl rfl rfl ⟨rfl, hd_X6_plays⟩ ⟨Nat.le_of_ble_eq_true rfl, Nat.le_of_ble_eq_true rfl⟩) (preV_rw hPc hKK hDc (va_recv hK hP (ci := 4) (q0 := 0) rfl wMo_0)) rfl rfl hl.1 rfl (lv_room (Nat.le_of_ble_eq_true rfl)) dX6_falls_55 ⟨Nat.zero_le _, Nat.zero_le _⟩) hS hFc (fun H1 locs hP1 hD1 hz1 hkk hS => ?_)
          obtain ⟨hP, hD⟩ := my_joinS hP hD (by decide) sb_wMo_wMp_0_5_6_7_14 (by rfl) hkk hFc hP1 hD1
          rw [st_wMo_wMp_0_5_6_7_14_plays] at hP hD
          generalize H1 = H at hP hS ⊢
          refine lv_istore (lv' := [(4, .int r55), (0, .ref (am 0)), (1, .int x1), (3, .int x3)]) hx hb dX6_falls_58 hl (by decide) rfl (fun ls hl => ?_)
          refine lv_iload hx hb dX6_falls_60 (lv_at hl 0 rfl) ?_
          refine lv_if_eq (tgt := 73) hx hb dX6_falls_62 (by decide) (fun c62 => ?_) (fun c62 => ?_)
          · have h := br_1 h c62
            refine lv_iinc (v := (x3 + (1 : Int32))) (lv' := [(3, .int (x3 + (1 : Int32))), (4, .int r55), (0, .ref (am 0)), (1, .int x1)]) hx hb dX6_falls_73 hl (k := 3) rfl rfl (by decide) rfl (fun ls hl => ?_)
            refine lv_goto (tgt := 29) hx hb dX6_falls_76 (by decide) ?_
            exact ih29 (x3 + (1 : Int32)) w55_tt h _ _ hP hD hS _ (lv_sub hl [2, 3, 0] rfl)
          · have h := br_0 h c62
            refine lv_aload_n hx hb dX6_falls_65 rfl (lv_at hl 1 rfl) ?_
            refine lv_iload_n hx hb dX6_falls_66 rfl (lv_at hl 3 rfl) ?_
            refine lv_iload hx hb dX6_falls_67 (lv_at hl 0 rfl) ?_
            obtain ⟨r69, w69_masked, hc, h⟩ := bd2_some h
            have hFc := my_freeS hD hS hA
            refine my_rwi (va_runV (As := [.int x3, .int r55]) (rest := []) hFix (kX6_answer l D T F am mguests mclause mdeeds masked mupper mlower mfinding mreadGuests misSight mat mrowSizes mrows mtextSizes mtexts mdoes mkinds msees mnow mbefore mkeeps mkept mfindings mread w55_tt msteps mtried mbest x3 r55 r69 w69_masked hc _) (cwV 2 hts gX6_falls_X6_answer rfl rfl rfl ⟨rfl, hd_X6_answer⟩ ⟨Nat.le_of_ble_eq_true rfl, Nat.le_of_ble_eq_true rfl⟩) (preV_rw hP hKK hD (va_recv hK hP (ci := 4) (q0 := 0) rfl wMo_0)) rfl rfl hl.1 rfl (lv_room (Nat.le_of_ble_eq_true rfl)) dX6_falls_69 ⟨Nat.zero_le _, Nat.zero_le _⟩) hS hFc (fun H1 locs hP1 hD1 hz1 hkk hS => ?_)
            have hP : va_P D vwCl (wMo T am mguests mclause mdeeds w69_masked mupper mlower mfinding mreadGuests misSight mat mrowSizes mrows mtextSizes mtexts mdoes mkinds msees mnow mbefore mkeeps mkept mfindings mread w55_tt msteps mtried mbest) H1 := hP1
            have hD : va_D A (wMo T am mguests mclause mdeeds w69_masked mupper mlower mfinding mreadGuests misSight mat mrowSizes mrows mtextSizes mtexts mdoes mkinds msees mnow mbefore mkeeps mkept mfindings mread w55_tt msteps mtried mbest) := hD1.weaken (fun _ q _ h => hFc q.1 h)
            generalize H1 = H at hP hS ⊢
            cases h
            exact hret _ _ _ _ hP hD hS dX6_falls_72
    have n16 : ∀ s_0 : Int32, ∀ x1 : Int32, ∀ masked : Int32, ∀ mfinding : Int32, ∀ mfindings : Nat → Int32, ∀ maside : Nat → Int32, fX6_falls_n16 F mguests mclause mrowSizes mrows mdoes mkinds msees mnow s_0 x1 masked mfinding mfindings maside = some (r, zmasked, zmfinding, zmfindings, zmaside) → ∀ (H : Heap) (locs : List Loc), va_P D vwCl (wMo T am mguests mclause mdeeds masked mupper mlower mfinding mreadGuests misSight mat mrowSizes mrows mtextSizes mtexts mdoes mkinds msees mnow mbefore mkeeps mkept mfindings mread maside msteps mtried mbest) H → va_D A (wMo T am mguests mclause mdeeds masked mupper mlower mfinding mreadGuests misSight mat mrowSizes mrows mtextSizes mtexts mdoes mkinds msees mnow mbefore mkeeps mkept mfindings mread maside msteps mtried mbest) → va_S A s.heap H locs → ∀ (ls : Array Slot), lv_has ls 5 [(0, .ref (am 0)), (1, .int x1)] → W p l e ({ frames := 4, cells := 0, slots := 0, locals := 93 } : Room) s m args below meth c H locs 0 0 Q (F0 m 16 ls [.int s_0]) := by
      intro s_0 x1 masked mfinding mfindings maside h H locs hP hD hS ls hl
      unfold fX6_falls_n16 at h
      refine lv_istore_n (lv' := [(2, .int s_0), (0, .ref (am 0)), (1, .int x1)]) hx hb dX6_falls_16 rfl hl (by decide) rfl (fun ls hl => ?_)
      refine lv_iload_n hx hb dX6_falls_17 rfl (lv_at hl 0 rfl) ?_
      refine lv_if_eq (tgt := 23) hx hb dX6_falls_18 (by decide) (fun c18 => ?_) (fun c18 => ?_)
      · have h := br_1 h c18
        refine lv_aload_n hx hb dX6_falls_23 rfl (lv_at hl 1 rfl) ?_
        obtain ⟨w24_maside, hc, h⟩ := bd1_some h
        have hFc := my_freeS hD hS hA
        refine my_rwv (va_runV (As := []) (rest := []) hFix (kX6_layAside l D T F am mguests mclause mdeeds masked mupper mlower mfinding mreadGuests misSight mat mrowSizes mrows mtextSizes mtexts mdoes mkinds msees mnow mbefore mkeeps mkept mfindings mread maside msteps mtried mbest w24_maside hc _) (cwV 0 hts gX6_falls_X6_layAside rfl rfl rfl ⟨rfl, hd_X6_layAside⟩ ⟨Nat.le_of_ble_eq_true rfl, Nat.le_of_ble_eq_true rfl⟩) (preV_rw hP hKK hD (va_recv hK hP (ci := 4) (q0 := 0) rfl wMo_0)) rfl rfl hl.1 rfl (lv_room (Nat.le_of_ble_eq_true rfl)) dX6_falls_24 ⟨Nat.zero_le _, Nat.zero_le _⟩) hS hFc (fun H1 locs hP1 hD1 hz1 hkk hS => ?_)
        have hP : va_P D vwCl (wMo T am mguests mclause mdeeds masked mupper mlower mfinding mreadGuests misSight mat mrowSizes mrows mtextSizes mtexts mdoes mkinds msees mnow mbefore mkeeps mkept mfindings mread w24_maside msteps mtried mbest) H1 := hP1
        have hD : va_D A (wMo T am mguests mclause mdeeds masked mupper mlower mfinding mreadGuests misSight mat mrowSizes mrows mtextSizes mtexts mdoes mkinds msees mnow mbefore mkeeps mkept mfindings mread w24_maside msteps mtried mbest) := hD1.weaken (fun _ q _ h => hFc q.1 h)
        generalize H1 = H at hP hS ⊢
        refine lv_iconst (v := (0 : Int32)) hx hb dX6_falls_27 (by decide) ?_
        refine lv_istore_n (lv' := [(3, .int (0 : Int32)), (2, .int s_0), (0, .ref (am 0)), (1, .int x1)]) hx hb dX6_falls_28 rfl hl (by decide) rfl (fun ls hl => ?_)
        exact l29 x1 masked mfinding mfindings F (0 : Int32) w24_maside h _ _ hP hD hS _ (lv_sub hl [2, 3, 0] rfl)
      · have h := br_0 h c18
        refine lv_iload_n hx hb dX6_falls_21 rfl (lv_at hl 0 rfl) ?_
        cases h
        exact hret _ _ _ _ hP hD hS dX6_falls_22
    unfold fX6_falls at h
    refine lv_iload_n hx hb dX6_falls_0 rfl (lv_at hl 1 rfl) ?_
    obtain ⟨r1, hc, h⟩ := bd1_some h
    refine my_roz (va_Run.run (va_runS (As := [.int x1]) (rest := []) hFix (kX6_isRow l D T F x1 r1 hc) (va_cwS 1 hts gX6_falls_X6_isRow rfl rfl rfl hd_X6_isRow ⟨Nat.le_of_ble_eq_true rfl, Nat.le_of_ble_eq_true rfl⟩) (preS_ro va_nil hKK) rfl rfl hl.1 rfl (lv_room (Nat.le_of_ble_eq_true rfl)) dX6_falls_1 ⟨Nat.zero_le _, Nat.zero_le _⟩)) (fun hb1 => ?_)
    refine lv_if_eq (tgt := 15) hx hb dX6_falls_4 (by decide) (fun c4 => ?_) (fun c4 => ?_)
    · have h := br_1 h c4
      refine lv_iconst (v := (-1 : Int32)) hx hb dX6_falls_15 (by decide) ?_
      exact n16 (-1 : Int32) x1 masked mfinding mfindings maside h _ _ hP hD hS _ (lv_sub hl [0, 1] rfl)
    · have h := br_0 h c4
      refine lv_aload_n hx hb dX6_falls_7 rfl (lv_at hl 0 rfl) ?_
      refine lv_iload_n hx hb dX6_falls_8 rfl (lv_at hl 1 rfl) ?_
      obtain ⟨r9, w9_mfinding, w9_mfindings, hc, h⟩ := bd3_some h
      have hFc := my_freeS hD hS hA
      refine my_rwi (va_runV (As := [.int x1]) (rest := []) hFix (kX6_programme l D T F am mguests mclause mdeeds masked mupper mlower mfinding mreadGuests misSight mat mrowSizes mrows mtextSizes mtexts mdoes mkinds msees mnow mbefore mkeeps mkept mfindings mread maside msteps mtried mbest x1 r9 w9_mfinding w9_mfindings hc _) (cwV 1 hts gX6_falls_X6_programme rfl rfl rfl ⟨rfl, hd_X6_programme⟩ ⟨Nat.le_of_ble_eq_true rfl, Nat.le_of_ble_eq_true rfl⟩) (preV_rw hP hKK hD (va_recv hK hP (ci := 4) (q0 := 0) rfl wMo_0)) rfl rfl hl.1 rfl (lv_room (Nat.le_of_ble_eq_true rfl)) dX6_falls_9 ⟨Nat.zero_le _, Nat.zero_le _⟩) hS hFc (fun H1 locs hP1 hD1 hz1 hkk hS => ?_)
      have hP : va_P D vwCl (wMo T am mguests mclause mdeeds masked mupper mlower w9_mfinding mreadGuests misSight mat mrowSizes mrows mtextSizes mtexts mdoes mkinds msees mnow mbefore mkeeps mkept w9_mfindings mread maside msteps mtried mbest) H1 := hP1
      have hD : va_D A (wMo T am mguests mclause mdeeds masked mupper mlower w9_mfinding mreadGuests misSight mat mrowSizes mrows mtextSizes mtexts mdoes mkinds msees mnow mbefore mkeeps mkept w9_mfindings mread maside msteps mtried mbest) := hD1.weaken (fun _ q _ h => hFc q.1 h)
      generalize H1 = H at hP hS ⊢
      refine lv_goto (tgt := 16) hx hb dX6_falls_12 (by decide) ?_
      exact n16 r9 x1 masked w9_mfinding w9_mfindings maside h _ _ hP hD hS _ (lv_sub hl [0, 1] rfl)
  exact key _ (fun H locs pc ls hP hD hS hd => W.iret hx hb hr (fun t ht hW => ⟨⟨_, (), rfl, rfl, by show _ ∧ _; rw [ht]; exact ⟨hP, hD⟩⟩, hS.F ht⟩) hS.2.2 hd)
