set_option maxHeartbeats 4000000 in
set_option maxRecDepth 100000 in
theorem kX6_layProgramme (l : Launch) (D : va_G) (T : Nat → ClassId) (F : Nat) (am : Nat → Nat) (mguests : Int32) (mclause : Int32) (mdeeds : Int32) (masked : Int32) (mupper : Int64) (mlower : Int64) (mfinding : Int32) (mreadGuests : Int32) (misSight : Int32) (mat : Int32) (mrowSizes : Nat → Int32) (mrows : Nat → Int32) (mtextSizes : Nat → Int32) (mtexts : Nat → Int32) (mdoes : Nat → Int32) (mkinds : Nat → Int32) (msees : Nat → Int32) (mnow : Nat → Int32) (mbefore : Nat → Int32) (mkeeps : Nat → Int32) (mkept : Nat → Int32) (mfindings : Nat → Int32) (mread : Nat → Int32) (maside : Nat → Int32) (msteps : Nat → Int32) (mtried : Nat → Int32) (mbest : Nat → Int32) (x1 : Int32) (x2 : Int32) (x3 : Int32) (zmrowSizes : Nat → Int32) (zmrows : Nat → Int32) (h : fX6_layProgramme F mrowSizes mrows x1 x2 x3 = some (zmrowSizes, zmrows)) : ∀ sz : Nat, Met l yX6_layProgramme wsX6_layProgramme ({ frames := 0, cells := 0, slots := 0, locals := 0 } : Room) (va_Pc [.ref (am 0), .int x1, .int x2, .int x3] (fun U => U.heap.size = sz ∧ va_P D vwCl (wMo T am mguests mclause mdeeds masked mupper mlower mfinding mreadGuests misSight mat mrowSizes mrows mtextSizes mtexts mdoes mkinds msees mnow mbefore mkeeps mkept mfindings mread maside msteps mtried mbest) U.heap ∧ KK D T U ∧ va_D (fun _ => True) (wMo T am mguests mclause mdeeds masked mupper mlower mfinding mreadGuests misSight mat mrowSizes mrows mtextSizes mtexts mdoes mkinds msees mnow mbefore mkeeps mkept mfindings mread maside msteps mtried mbest))) (va_Qv (fun _ : Unit => True) (fun _ t => va_P D vwCl (wMo T am mguests mclause mdeeds masked mupper mlower mfinding mreadGuests misSight mat zmrowSizes zmrows mtextSizes mtexts mdoes mkinds msees mnow mbefore mkeeps mkept mfindings mread maside msteps mtried mbest) t.heap ∧ va_D (va_A (wMo T am mguests mclause mdeeds masked mupper mlower mfinding mreadGuests misSight mat mrowSizes mrows mtextSizes mtexts mdoes mkinds msees mnow mbefore mkeeps mkept mfindings mread maside msteps mtried mbest) sz) (wMo T am mguests mclause mdeeds masked mupper mlower mfinding mreadGuests misSight mat zmrowSizes zmrows mtextSizes mtexts mdoes mkinds msees mnow mbefore mkeeps mkept mfindings mread maside msteps mtried mbest)) (va_A (wMo T am mguests mclause mdeeds masked mupper mlower mfinding mreadGuests misSight mat mrowSizes mrows mtextSizes mtexts mdoes mkinds msees mnow mbefore mkeeps mkept mfindings mread maside msteps mtried mbest) sz)) 0 0 (va_A (wMo T am mguests mclause mdeeds masked mupper mlower mfinding mreadGuests misSight mat mrowSizes mrows mtextSizes mtexts mdoes mkinds msees mnow mbefore mkeeps mkept mfindings mread maside msteps mtried mbest) sz) := by
  intro sz
  refine Met.ofW (cc := cX6_layProgramme) (maxL := 5) (ret := none) (by decide) rfl ?_
  intro p e s m args below meth c s₁ B hml hv
  obtain ⟨ha, hsz, hP, hKK, hD0⟩ := hv
  have hx := B.exec
  have hb := B.bytes
  have hr := B.returns
  have hts := atoms_spec (ws := wsX6_layProgramme) B.pre
  have hown : s.vm.findClass RX6 = some m.cls := findClass_of_methodNamed B.named
  have hlocks := B.notSynchronized
  have hK := hKK.1
  have hFix : CallFix p m c cX6_layProgramme 5 s args wsX6_layProgramme RX6 := ⟨hx, hb, hml, hown, hts⟩
  have q1 := hts _ (List.mem_of_getElem? (i := 1) (show wsX6_layProgramme[1]? = some (Cond.fieldLink RX6 7 "PartyWillModel" "rowSizes" "[I") from rfl))
  have q2 := hts _ (List.mem_of_getElem? (i := 2) (show wsX6_layProgramme[2]? = some (Cond.fieldLink RX6 13 "PartyWillModel" "rows" "[I") from rfl))
  have iX6 : ∀ w ∈ u_ws RX6 TX6 27, w ∈ wsX6_layProgramme := fun w h => List.mem_cons_of_mem _ (List.mem_append_right _ (h))
  subst hsz
  have hD := hD0.self (sz := s.heap.size)
  generalize hAe : va_A (wMo T am mguests mclause mdeeds masked mupper mlower mfinding mreadGuests misSight mat mrowSizes mrows mtextSizes mtexts mdoes mkinds msees mnow mbefore mkeeps mkept mfindings mread maside msteps mtried mbest) s.heap.size = A at hD ⊢
  have hA : ∀ q : Nat, s.heap.size ≤ q → A q := fun q h => by rw [← hAe]; exact Or.inr h
  have hS : va_S A s.heap s.heap [] := va_S.rf
  have hP : va_P D vwCl (wMo T am mguests mclause mdeeds masked mupper mlower mfinding mreadGuests misSight mat mrowSizes mrows mtextSizes mtexts mdoes mkinds msees mnow mbefore mkeeps mkept mfindings mread maside msteps mtried mbest) s.heap := hP
  obtain ⟨ls, hl, e0⟩ := my_entry (m := m) (n := 5) ha (Nat.le_of_ble_eq_true rfl)
  rw [e0]
  have hl : lv_has ls 5 [(0, .ref (am 0)), (1, .int x1), (2, .int x2), (3, .int x3)] := hl
  have key : ∀ Q : State → Prop, (∀ (H : Heap) (locs : List Loc) (pc : Nat) (ls : Array Slot), va_P D vwCl (wMo T am mguests mclause mdeeds masked mupper mlower mfinding mreadGuests misSight mat zmrowSizes zmrows mtextSizes mtexts mdoes mkinds msees mnow mbefore mkeeps mkept mfindings mread maside msteps mtried mbest) H → va_D A (wMo T am mguests mclause mdeeds masked mupper mlower mfinding mreadGuests misSight mat zmrowSizes zmrows mtextSizes mtexts mdoes mkinds msees mnow mbefore mkeeps mkept mfindings mread maside msteps mtried mbest) → va_S A s.heap H locs → decode cX6_layProgramme pc = .ok (.return_, 1) → W p l e ({ frames := 0, cells := 0, slots := 0, locals := 0 } : Room) s m args below meth c H locs 0 0 Q (F0 m pc ls [])) → W p l e ({ frames := 0, cells := 0, slots := 0, locals := 0 } : Room) s m args below meth c s.heap [] 0 0 Q (F0 m 0 ls []) := by
    intro Q hret
    skip
    have l10 : ∀ x1 : Int32, ∀ x2 : Int32, ∀ x3 : Int32, ∀ mrowSizes : Nat → Int32, ∀ nu : Nat, ∀ x4 : Int32, ∀ mrows : Nat → Int32, fX6_layProgramme_l10 F x1 x2 x3 mrowSizes nu x4 mrows = some (zmrowSizes, zmrows) → ∀ (H : Heap) (locs : List Loc), va_P D vwCl (wMo T am mguests mclause mdeeds masked mupper mlower mfinding mreadGuests misSight mat mrowSizes mrows mtextSizes mtexts mdoes mkinds msees mnow mbefore mkeeps mkept mfindings mread maside msteps mtried mbest) H → va_D A (wMo T am mguests mclause mdeeds masked mupper mlower mfinding mreadGuests misSight mat mrowSizes mrows mtextSizes mtexts mdoes mkinds msees mnow mbefore mkeeps mkept mfindings mread maside msteps mtried mbest) → va_S A s.heap H locs → ∀ (ls : Array Slot), lv_has ls 5 [(0, .ref (am 0)), (1, .int x1), (2, .int x2), (3, .int x3), (4, .int x4)] → W p l e ({ frames := 0, cells := 0, slots := 0, locals := 0 } : Room) s m args below meth c H locs 0 0 Q (F0 m 10 ls []) := by
      intro x1 x2 x3 mrowSizes
      intro nu
      induction nu with
      | zero => intro x4 mrows h; exact none_some h
      | succ nu10 ih10 =>
        intro x4 mrows h H locs hP hD hS ls hl
        have h : fX6_layProgramme_l10_b F x1 x2 x3 mrowSizes (fX6_layProgramme_l10 F x1 x2 x3 mrowSizes nu10) x4 mrows = some (zmrowSizes, zmrows) := h
        unfold fX6_layProgramme_l10_b at h
        refine lv_iload hx hb dX6_layProgramme_10 (lv_at hl 4 rfl) ?_
        refine lv_bipush (v := (40 : Int32)) hx hb dX6_layProgramme_12 (by decide) ?_
        refine lv_icmp_ge (tgt := 57) hx hb dX6_layProgramme_14 (by decide) (fun c14 => ?_) (fun c14 => ?_)
        · have h := br_1 h c14
          cases h
          exact hret _ _ _ _ hP hD hS dX6_layProgramme_57
        · have h := br_0 h c14
          refine lv_aload_n hx hb dX6_layProgramme_17 rfl (lv_at hl 0 rfl) ?_
          refine va_get (D := D) (ci := 4) (C := RX6) (T := TX6) (N := 27) hx hb hts iX6 hown hK hP 0 wMo_0 rfl 1 (by decide) q2 (fun _ h9 => h9) rfl dX6_layProgramme_18 ?_
          refine lv_bipush (v := (40 : Int32)) hx hb dX6_layProgramme_21 (by decide) ?_
          refine lv_iload_n hx hb dX6_layProgramme_23 rfl (lv_at hl 3 rfl) ?_
          refine lv_imul hx hb dX6_layProgramme_24 ?_
          refine lv_iload hx hb dX6_layProgramme_25 (lv_at hl 4 rfl) ?_
          refine lv_iadd hx hb dX6_layProgramme_27 ?_
          refine lv_iload hx hb dX6_layProgramme_28 (lv_at hl 4 rfl) ?_
          refine lv_iload_n hx hb dX6_layProgramme_30 rfl (lv_at hl 1 rfl) ?_
          refine lv_icmp_ge (tgt := 49) hx hb dX6_layProgramme_31 (by decide) (fun c31 => ?_) (fun c31 => ?_)
          · have h := br_1 h c31
            refine lv_iconst (v := (0 : Int32)) hx hb dX6_layProgramme_49 (by decide) ?_
            obtain ⟨hin1, h⟩ := ck_some h
            refine va_iast hx hb hK hP hD hS 2 0 wMo_2 rfl hin1 dX6_layProgramme_50 (fun H locs hP hD hS => ?_)
            have hP : va_P D vwCl (wMo T am mguests mclause mdeeds masked mupper mlower mfinding mreadGuests misSight mat mrowSizes (upd mrows (((40 : Int32) * x3) + x4).toNatClampNeg (0 : Int32)) mtextSizes mtexts mdoes mkinds msees mnow mbefore mkeeps mkept mfindings mread maside msteps mtried mbest) H := hP
            have hD : va_D A (wMo T am mguests mclause mdeeds masked mupper mlower mfinding mreadGuests misSight mat mrowSizes (upd mrows (((40 : Int32) * x3) + x4).toNatClampNeg (0 : Int32)) mtextSizes mtexts mdoes mkinds msees mnow mbefore mkeeps mkept mfindings mread maside msteps mtried mbest) := hD
            refine lv_iinc (v := (x4 + (1 : Int32))) (lv' := [(4, .int (x4 + (1 : Int32))), (0, .ref (am 0)), (1, .int x1), (2, .int x2), (3, .int x3)]) hx hb dX6_layProgramme_51 hl (k := 4) rfl rfl (by decide) rfl (fun ls hl => ?_)
            refine lv_goto (tgt := 10) hx hb dX6_layProgramme_54 (by decide) ?_
            exact ih10 (x4 + (1 : Int32)) (upd mrows (((40 : Int32) * x3) + x4).toNatClampNeg (0 : Int32)) h _ _ hP hD hS _ (lv_sub hl [1, 2, 3, 4, 0] rfl)
          · have h := br_0 h c31
            refine lv_iload_n hx hb dX6_layProgramme_34 rfl (lv_at hl 2 rfl) ?_
            refine lv_iconst (v := (2 : Int32)) hx hb dX6_layProgramme_35 (by decide) ?_
            refine lv_iload_n hx hb dX6_layProgramme_36 rfl (lv_at hl 1 rfl) ?_
            refine lv_iconst (v := (1 : Int32)) hx hb dX6_layProgramme_37 (by decide) ?_
            refine lv_isub hx hb dX6_layProgramme_38 ?_
            refine lv_iload hx hb dX6_layProgramme_39 (lv_at hl 4 rfl) ?_
            refine lv_isub hx hb dX6_layProgramme_41 ?_
            refine lv_imul hx hb dX6_layProgramme_42 ?_
            refine lv_ishr hx hb dX6_layProgramme_43 ?_
            refine lv_iconst (v := (3 : Int32)) hx hb dX6_layProgramme_44 (by decide) ?_
            refine lv_iand hx hb dX6_layProgramme_45 ?_
            refine lv_goto (tgt := 50) hx hb dX6_layProgramme_46 (by decide) ?_
            obtain ⟨hin2, h⟩ := ck_some h
            refine va_iast hx hb hK hP hD hS 2 0 wMo_2 rfl hin2 dX6_layProgramme_50 (fun H locs hP hD hS => ?_)
            have hP : va_P D vwCl (wMo T am mguests mclause mdeeds masked mupper mlower mfinding mreadGuests misSight mat mrowSizes (upd mrows (((40 : Int32) * x3) + x4).toNatClampNeg ((x2 >>> (((2 : Int32) * ((x1 - (1 : Int32)) - x4)) &&& 31)) &&& (3 : Int32))) mtextSizes mtexts mdoes mkinds msees mnow mbefore mkeeps mkept mfindings mread maside msteps mtried mbest) H := hP
            have hD : va_D A (wMo T am mguests mclause mdeeds masked mupper mlower mfinding mreadGuests misSight mat mrowSizes (upd mrows (((40 : Int32) * x3) + x4).toNatClampNeg ((x2 >>> (((2 : Int32) * ((x1 - (1 : Int32)) - x4)) &&& 31)) &&& (3 : Int32))) mtextSizes mtexts mdoes mkinds msees mnow mbefore mkeeps mkept mfindings mread maside msteps mtried mbest) := hD
            refine lv_iinc (v := (x4 + (1 : Int32))) (lv' := [(4, .int (x4 + (1 : Int32))), (0, .ref (am 0)), (1, .int x1), (2, .int x2), (3, .int x3)]) hx hb dX6_layProgramme_51 hl (k := 4) rfl rfl (by decide) rfl (fun ls hl => ?_)
            refine lv_goto (tgt := 10) hx hb dX6_layProgramme_54 (by decide) ?_
            exact ih10 (x4 + (1 : Int32)) (upd mrows (((40 : Int32) * x3) + x4).toNatClampNeg ((x2 >>> (((2 : Int32) * ((x1 - (1 : Int32)) - x4)) &&& 31)) &&& (3 : Int32))) h _ _ hP hD hS _ (lv_sub hl [1, 2, 3, 4, 0] rfl)
    unfold fX6_layProgramme at h
    refine lv_aload_n hx hb dX6_layProgramme_0 rfl (lv_at hl 0 rfl) ?_
    refine va_get (D := D) (ci := 4) (C := RX6) (T := TX6) (N := 27) hx hb hts iX6 hown hK hP 0 wMo_0 rfl 0 (by decide) q1 (fun _ h9 => h9) rfl dX6_layProgramme_1 ?_
    refine lv_iload_n hx hb dX6_layProgramme_4 rfl (lv_at hl 3 rfl) ?_
    refine lv_iload_n hx hb dX6_layProgramme_5 rfl (lv_at hl 1 rfl) ?_
    obtain ⟨hin3, h⟩ := ck_some h
    refine va_iast hx hb hK hP hD hS 1 0 wMo_1 rfl hin3 dX6_layProgramme_6 (fun H locs hP hD hS => ?_)
    have hP : va_P D vwCl (wMo T am mguests mclause mdeeds masked mupper mlower mfinding mreadGuests misSight mat (upd mrowSizes x3.toNatClampNeg x1) mrows mtextSizes mtexts mdoes mkinds msees mnow mbefore mkeeps mkept mfindings mread maside msteps mtried mbest) H := hP
    have hD : va_D A (wMo T am mguests mclause mdeeds masked mupper mlower mfinding mreadGuests misSight mat (upd mrowSizes x3.toNatClampNeg x1) mrows mtextSizes mtexts mdoes mkinds msees mnow mbefore mkeeps mkept mfindings mread maside msteps mtried mbest) := hD
    refine lv_iconst (v := (0 : Int32)) hx hb dX6_layProgramme_7 (by decide) ?_
    refine lv_istore (lv' := [(4, .int (0 : Int32)), (0, .ref (am 0)), (1, .int x1), (2, .int x2), (3, .int x3)]) hx hb dX6_layProgramme_8 hl (by decide) rfl (fun ls hl => ?_)
    exact l10 x1 x2 x3 (upd mrowSizes x3.toNatClampNeg x1) F (0 : Int32) mrows h _ _ hP hD hS _ (lv_sub hl [1, 2, 3, 4, 0] rfl)
  exact key _ (fun H locs pc ls hP hD hS hd => W.vret hx hb hr (fun t ht hW => ⟨⟨(), rfl, trivial, by show _ ∧ _; rw [ht]; exact ⟨hP, hD⟩⟩, hS.F ht⟩) hS.2.2 hd)
set_option maxHeartbeats 4000000 in
set_option maxRecDepth 100000 in
theorem kX6_first (l : Launch) (D : va_G) (T : Nat → ClassId) (F : Nat) (am : Nat → Nat) (mguests : Int32) (mclause : Int32) (mdeeds : Int32) (masked : Int32) (mupper : Int64) (mlower : Int64) (mfinding : Int32) (mreadGuests : Int32) (misSight : Int32) (mat : Int32) (mrowSizes : Nat → Int32) (mrows : Nat → Int32) (mtextSizes : Nat → Int32) (mtexts : Nat → Int32) (mdoes : Nat → Int32) (mkinds : Nat → Int32) (msees : Nat → Int32) (mnow : Nat → Int32) (mbefore : Nat → Int32) (mkeeps : Nat → Int32) (mkept : Nat → Int32) (mfindings : Nat → Int32) (mread : Nat → Int32) (maside : Nat → Int32) (msteps : Nat → Int32) (mtried : Nat → Int32) (mbest : Nat → Int32) (x1 : Int32) (x2 : Int32) (r : Int32) (zmrowSizes : Nat → Int32) (zmrows : Nat → Int32) (zmaside : Nat → Int32) (h : fX6_first F mguests mclause mrowSizes mrows mdoes mkinds msees mnow maside x1 x2 = some (r, zmrowSizes, zmrows, zmaside)) : ∀ sz : Nat, Met l yX6_first wsX6_first ({ frames := 5, cells := 0, slots := 0, locals := 117 } : Room) (va_Pc [.ref (am 0), .int x1, .int x2] (fun U => U.heap.size = sz ∧ va_P D vwCl (wMo T am mguests mclause mdeeds masked mupper mlower mfinding mreadGuests misSight mat mrowSizes mrows mtextSizes mtexts mdoes mkinds msees mnow mbefore mkeeps mkept mfindings mread maside msteps mtried mbest) U.heap ∧ KK D T U ∧ va_D (fun _ => True) (wMo T am mguests mclause mdeeds masked mupper mlower mfinding mreadGuests misSight mat mrowSizes mrows mtextSizes mtexts mdoes mkinds msees mnow mbefore mkeeps mkept mfindings mread maside msteps mtried mbest))) (va_Qi (fun r' (_ : Unit) => r' = r) (fun _ t => va_P D vwCl (wMo T am mguests mclause mdeeds masked mupper mlower mfinding mreadGuests misSight mat zmrowSizes zmrows mtextSizes mtexts mdoes mkinds msees mnow mbefore mkeeps mkept mfindings mread zmaside msteps mtried mbest) t.heap ∧ va_D (va_A (wMo T am mguests mclause mdeeds masked mupper mlower mfinding mreadGuests misSight mat mrowSizes mrows mtextSizes mtexts mdoes mkinds msees mnow mbefore mkeeps mkept mfindings mread maside msteps mtried mbest) sz) (wMo T am mguests mclause mdeeds masked mupper mlower mfinding mreadGuests misSight mat zmrowSizes zmrows mtextSizes mtexts mdoes mkinds msees mnow mbefore mkeeps mkept mfindings mread zmaside msteps mtried mbest)) (va_A (wMo T am mguests mclause mdeeds masked mupper mlower mfinding mreadGuests misSight mat mrowSizes mrows mtextSizes mtexts mdoes mkinds msees mnow mbefore mkeeps mkept mfindings mread maside msteps mtried mbest) sz)) 0 0 (va_A (wMo T am mguests mclause mdeeds masked mupper mlower mfinding mreadGuests misSight mat mrowSizes mrows mtextSizes mtexts mdoes mkinds msees mnow mbefore mkeeps mkept mfindings mread maside msteps mtried mbest) sz) := by
  intro sz
  refine Met.ofW (cc := cX6_first) (maxL := 4) (ret := some .int) (by decide) rfl ?_
  intro p e s m args below meth c s₁ B hml hv
  obtain ⟨ha, hsz, hP, hKK, hD0⟩ := hv
  have hx := B.exec
  have hb := B.bytes
  have hr := B.returns
  have hts := atoms_spec (ws := wsX6_first) B.pre
  have hown : s.vm.findClass RX6 = some m.cls := findClass_of_methodNamed B.named
  have hlocks := B.notSynchronized
  have hK := hKK.1
  have hFix : CallFix p m c cX6_first 4 s args wsX6_first RX6 := ⟨hx, hb, hml, hown, hts⟩
  have q1 := hts _ (List.mem_of_getElem? (i := 1) (show wsX6_first[1]? = some (Cond.fieldLink RX6 131 "PartyWillModel" "guests" "I") from rfl))
  have iX6 : ∀ w ∈ u_ws RX6 TX6 27, w ∈ wsX6_first := fun w h => List.mem_cons_of_mem _ (List.mem_append_right _ (h))
  subst hsz
  have hD := hD0.self (sz := s.heap.size)
  generalize hAe : va_A (wMo T am mguests mclause mdeeds masked mupper mlower mfinding mreadGuests misSight mat mrowSizes mrows mtextSizes mtexts mdoes mkinds msees mnow mbefore mkeeps mkept mfindings mread maside msteps mtried mbest) s.heap.size = A at hD ⊢
  have hA : ∀ q : Nat, s.heap.size ≤ q → A q := fun q h => by rw [← hAe]; exact Or.inr h
  have hS : va_S A s.heap s.heap [] := va_S.rf
  have hP : va_P D vwCl (wMo T am mguests mclause mdeeds masked mupper mlower mfinding mreadGuests misSight mat mrowSizes mrows mtextSizes mtexts mdoes mkinds msees mnow mbefore mkeeps mkept mfindings mread maside msteps mtried mbest) s.heap := hP
  obtain ⟨ls, hl, e0⟩ := my_entry (m := m) (n := 4) ha (Nat.le_of_ble_eq_true rfl)
  rw [e0]
  have hl : lv_has ls 4 [(0, .ref (am 0)), (1, .int x1), (2, .int x2)] := hl
  have key : ∀ Q : State → Prop, (∀ (H : Heap) (locs : List Loc) (pc : Nat) (ls : Array Slot), va_P D vwCl (wMo T am mguests mclause mdeeds masked mupper mlower mfinding mreadGuests misSight mat zmrowSizes zmrows mtextSizes mtexts mdoes mkinds msees mnow mbefore mkeeps mkept mfindings mread zmaside msteps mtried mbest) H → va_D A (wMo T am mguests mclause mdeeds masked mupper mlower mfinding mreadGuests misSight mat zmrowSizes zmrows mtextSizes mtexts mdoes mkinds msees mnow mbefore mkeeps mkept mfindings mread zmaside msteps mtried mbest) → va_S A s.heap H locs → decode cX6_first pc = .ok (.ireturn, 1) → W p l e ({ frames := 5, cells := 0, slots := 0, locals := 117 } : Room) s m args below meth c H locs 0 0 Q (F0 m pc ls [.int r])) → W p l e ({ frames := 5, cells := 0, slots := 0, locals := 117 } : Room) s m args below meth c s.heap [] 0 0 Q (F0 m 0 ls []) := by
    intro Q hret
    skip
    have l28 : ∀ x1 : Int32, ∀ x2 : Int32, ∀ mrowSizes : Nat → Int32, ∀ mrows : Nat → Int32, ∀ nu : Nat, ∀ x3 : Int32, ∀ maside : Nat → Int32, fX6_first_l28 F mguests mclause mdoes mkinds msees mnow x1 x2 mrowSizes mrows nu x3 maside = some (r, zmrowSizes, zmrows, zmaside) → ∀ (H : Heap) (locs : List Loc), va_P D vwCl (wMo T am mguests mclause mdeeds masked mupper mlower mfinding mreadGuests misSight mat mrowSizes mrows mtextSizes mtexts mdoes mkinds msees mnow mbefore mkeeps mkept mfindings mread maside msteps mtried mbest) H → va_D A (wMo T am mguests mclause mdeeds masked mupper mlower mfinding mreadGuests misSight mat mrowSizes mrows mtextSizes mtexts mdoes mkinds msees mnow mbefore mkeeps mkept mfindings mread maside msteps mtried mbest) → va_S A s.heap H locs → ∀ (ls : Array Slot), lv_has ls 4 [(0, .ref (am 0)), (1, .int x1), (2, .int x2), (3, .int x3)] → W p l e ({ frames := 5, cells := 0, slots := 0, locals := 117 } : Room) s m args below meth c H locs 0 0 Q (F0 m 28 ls []) := by
      intro x1 x2 mrowSizes mrows
      intro nu
      induction nu with
      | zero => intro x3 maside h; exact none_some h
      | succ nu28 ih28 =>
        intro x3 maside h H locs hP hD hS ls hl
        have h : fX6_first_l28_b F mguests mclause mdoes mkinds msees mnow x1 x2 mrowSizes mrows (fX6_first_l28 F mguests mclause mdoes mkinds msees mnow x1 x2 mrowSizes mrows nu28) x3 maside = some (r, zmrowSizes, zmrows, zmaside) := h
        unfold fX6_first_l28_b at h
        refine lv_iload_n hx hb dX6_first_28 rfl (lv_at hl 3 rfl) ?_
        refine lv_iload_n hx hb dX6_first_29 rfl (lv_at hl 1 rfl) ?_
        obtain ⟨r30, hc, h⟩ := bd1_some h
        refine my_roi (va_Run.run (va_runS (As := [.int x1]) (rest := [.int x3]) hFix (kX6_codes l D T F x1 r30 hc) (va_cwS 1 hts gX6_first_X6_codes rfl rfl rfl hd_X6_codes ⟨Nat.le_of_ble_eq_true rfl, Nat.le_of_ble_eq_true rfl⟩) (preS_ro va_nil hKK) rfl rfl hl.1 rfl (lv_room (Nat.le_of_ble_eq_true rfl)) dX6_first_30 ⟨Nat.zero_le _, Nat.zero_le _⟩)) ?_
        refine lv_icmp_ge (tgt := 60) hx hb dX6_first_33 (by decide) (fun c33 => ?_) (fun c33 => ?_)
        · have h := br_1 h c33
          refine lv_bipush (v := (-9 : Int32)) hx hb dX6_first_60 (by decide) ?_
          cases h
          exact hret _ _ _ _ hP hD hS dX6_first_62
        · have h := br_0 h c33
          refine lv_aload_n hx hb dX6_first_36 rfl (lv_at hl 0 rfl) ?_
          refine lv_iload_n hx hb dX6_first_37 rfl (lv_at hl 1 rfl) ?_
          refine lv_iload_n hx hb dX6_first_38 rfl (lv_at hl 3 rfl) ?_
          obtain ⟨r39, w39_maside, hc, h⟩ := bd2_some h
          have hFc := my_freeS hD hS hA
          refine my_rwi (va_runV (As := [.int x1, .int x3]) (rest := []) hFix (kX6_fallen l D T F am mguests mclause mdeeds masked mupper mlower mfinding mreadGuests misSight mat mrowSizes mrows mtextSizes mtexts mdoes mkinds msees mnow mbefore mkeeps mkept mfindings mread maside msteps mtried mbest x1 x3 r39 w39_maside hc _) (cwV 2 hts gX6_first_X6_fallen rfl rfl rfl ⟨rfl, hd_X6_fallen⟩ ⟨Nat.le_of_ble_eq_true rfl, Nat.le_of_ble_eq_true rfl⟩) (preV_rw hP hKK hD (va_recv hK hP (ci := 4) (q0 := 0) rfl wMo_0)) rfl rfl hl.1 rfl (lv_room (Nat.le_of_ble_eq_true rfl)) dX6_first_39 ⟨Nat.zero_le _, Nat.zero_le _⟩) hS hFc (fun H1 locs hP1 hD1 hz1 hkk hS => ?_)
          have hP : va_P D vwCl (wMo T am mguests mclause mdeeds masked mupper mlower mfinding mreadGuests misSight mat mrowSizes mrows mtextSizes mtexts mdoes mkinds msees mnow mbefore mkeeps mkept mfindings mread w39_maside msteps mtried mbest) H1 := hP1
          have hD : va_D A (wMo T am mguests mclause mdeeds masked mupper mlower mfinding mreadGuests misSight mat mrowSizes mrows mtextSizes mtexts mdoes mkinds msees mnow mbefore mkeeps mkept mfindings mread w39_maside msteps mtried mbest) := hD1.weaken (fun _ q _ h => hFc q.1 h)
          generalize H1 = H at hP hS ⊢
          refine lv_if_ne (tgt := 54) hx hb dX6_first_42 (by decide) (fun c42 => ?_) (fun c42 => ?_)
          · have h := br_0 h c42
            refine lv_iinc (v := (x3 + (1 : Int32))) (lv' := [(3, .int (x3 + (1 : Int32))), (0, .ref (am 0)), (1, .int x1), (2, .int x2)]) hx hb dX6_first_54 hl (k := 3) rfl rfl (by decide) rfl (fun ls hl => ?_)
            refine lv_goto (tgt := 28) hx hb dX6_first_57 (by decide) ?_
            exact ih28 (x3 + (1 : Int32)) w39_maside h _ _ hP hD hS _ (lv_sub hl [1, 2, 3, 0] rfl)
          · have h := br_1 h c42
            refine lv_aload_n hx hb dX6_first_45 rfl (lv_at hl 0 rfl) ?_
            refine lv_iload_n hx hb dX6_first_46 rfl (lv_at hl 1 rfl) ?_
            refine lv_iload_n hx hb dX6_first_47 rfl (lv_at hl 3 rfl) ?_
            refine lv_iload_n hx hb dX6_first_48 rfl (lv_at hl 2 rfl) ?_
            obtain ⟨w49_mrowSizes, w49_mrows, hc, h⟩ := bd2_some h
            have hFc := my_freeS hD hS hA
            refine my_rwv (va_runV (As := [.int x1, .int x3, .int x2]) (rest := []) hFix (kX6_layProgramme l D T F am mguests mclause mdeeds masked mupper mlower mfinding mreadGuests misSight mat mrowSizes mrows mtextSizes mtexts mdoes mkinds msees mnow mbefore mkeeps mkept mfindings mread w39_maside msteps mtried mbest x1 x3 x2 w49_mrowSizes w49_mrows hc _) (cwV 3 hts gX6_first_X6_layProgramme rfl rfl rfl ⟨rfl, hd_X6_layProgramme⟩ ⟨Nat.le_of_ble_eq_true rfl, Nat.le_of_ble_eq_true rfl⟩) (preV_rw hP hKK hD (va_recv hK hP (ci := 4) (q0 := 0) rfl wMo_0)) rfl rfl hl.1 rfl (lv_room (Nat.le_of_ble_eq_true rfl)) dX6_first_49 ⟨Nat.zero_le _, Nat.zero_le _⟩) hS hFc (fun H1 locs hP1 hD1 hz1 hkk hS => ?_)
            have hP : va_P D vwCl (wMo T am mguests mclause mdeeds masked mupper mlower mfinding mreadGuests misSight mat w49_mrowSizes w49_mrows mtextSizes mtexts mdoes mkinds msees mnow mbefore mkeeps mkept mfindings mread w39_maside msteps mtried mbest) H1 := hP1
            have hD : va_D A (wMo T am mguests mclause mdeeds masked mupper mlower mfinding mreadGuests misSight mat w49_mrowSizes w49_mrows mtextSizes mtexts mdoes mkinds msees mnow mbefore mkeeps mkept mfindings mread w39_maside msteps mtried mbest) := hD1.weaken (fun _ q _ h => hFc q.1 h)
            generalize H1 = H at hP hS ⊢
            refine lv_iload_n hx hb dX6_first_52 rfl (lv_at hl 1 rfl) ?_
            cases h
            exact hret _ _ _ _ hP hD hS dX6_first_53
    unfold fX6_first at h
    refine lv_iload_n hx hb dX6_first_0 rfl (lv_at hl 1 rfl) ?_
    obtain ⟨r1, hc, h⟩ := bd1_some h
    refine my_roz (va_Run.run (va_runS (As := [.int x1]) (rest := []) hFix (kX6_isLength l D T F x1 r1 hc) (va_cwS 1 hts gX6_first_X6_isLength rfl rfl rfl hd_X6_isLength ⟨Nat.le_of_ble_eq_true rfl, Nat.le_of_ble_eq_true rfl⟩) (preS_ro va_nil hKK) rfl rfl hl.1 rfl (lv_room (Nat.le_of_ble_eq_true rfl)) dX6_first_1 ⟨Nat.zero_le _, Nat.zero_le _⟩)) (fun hb1 => ?_)
    refine lv_if_eq (tgt := 14) hx hb dX6_first_4 (by decide) (fun c4 => ?_) (fun c4 => ?_)
    · have h := br_1 h c4
      refine lv_iconst (v := (-1 : Int32)) hx hb dX6_first_14 (by decide) ?_
      cases h
      exact hret _ _ _ _ hP hD hS dX6_first_15
    · have h := br_0 h c4
      refine lv_iload_n hx hb dX6_first_7 rfl (lv_at hl 2 rfl) ?_
      obtain ⟨r8, hc, h⟩ := bd1_some h
      refine my_roz (va_Run.run (va_runS (As := [.int x2]) (rest := []) hFix (kX6_isRow l D T F x2 r8 hc) (va_cwS 1 hts gX6_first_X6_isRow rfl rfl rfl hd_X6_isRow ⟨Nat.le_of_ble_eq_true rfl, Nat.le_of_ble_eq_true rfl⟩) (preS_ro va_nil hKK) rfl rfl hl.1 rfl (lv_room (Nat.le_of_ble_eq_true rfl)) dX6_first_8 ⟨Nat.zero_le _, Nat.zero_le _⟩)) (fun hb8 => ?_)
      refine lv_if_ne (tgt := 16) hx hb dX6_first_11 (by decide) (fun c11 => ?_) (fun c11 => ?_)
      · have h := br_0 h c11
        refine lv_aload_n hx hb dX6_first_16 rfl (lv_at hl 0 rfl) ?_
        refine va_get (D := D) (ci := 4) (C := RX6) (T := TX6) (N := 27) hx hb hts iX6 hown hK hP 0 wMo_0 rfl 4 (by decide) q1 (fun _ h9 => h9) rfl dX6_first_17 ?_
        refine lv_if_ne (tgt := 26) hx hb dX6_first_20 (by decide) (fun c20 => ?_) (fun c20 => ?_)
        · have h := br_0 h c20
          refine lv_iconst (v := (0 : Int32)) hx hb dX6_first_26 (by decide) ?_
          refine lv_istore_n (lv' := [(3, .int (0 : Int32)), (0, .ref (am 0)), (1, .int x1), (2, .int x2)]) hx hb dX6_first_27 rfl hl (by decide) rfl (fun ls hl => ?_)
          exact l28 x1 x2 mrowSizes mrows F (0 : Int32) maside h _ _ hP hD hS _ (lv_sub hl [1, 2, 3, 0] rfl)
        · have h := br_1 h c20
          refine lv_bipush (v := (-4 : Int32)) hx hb dX6_first_23 (by decide) ?_
          cases h
          exact hret _ _ _ _ hP hD hS dX6_first_25
      · have h := br_1 h c11
        refine lv_iconst (v := (-1 : Int32)) hx hb dX6_first_14 (by decide) ?_
        cases h
        exact hret _ _ _ _ hP hD hS dX6_first_15
  exact key _ (fun H locs pc ls hP hD hS hd => W.iret hx hb hr (fun t ht hW => ⟨⟨_, (), rfl, rfl, by show _ ∧ _; rw [ht]; exact ⟨hP, hD⟩⟩, hS.F ht⟩) hS.2.2 hd)
set_option maxHeartbeats 4000000 in
set_option maxRecDepth 100000 in
theorem kX6_fewest (l : Launch) (D : va_G) (T : Nat → ClassId) (F : Nat) (am : Nat → Nat) (mguests : Int32) (mclause : Int32) (mdeeds : Int32) (masked : Int32) (mupper : Int64) (mlower : Int64) (mfinding : Int32) (mreadGuests : Int32) (misSight : Int32) (mat : Int32) (mrowSizes : Nat → Int32) (mrows : Nat → Int32) (mtextSizes : Nat → Int32) (mtexts : Nat → Int32) (mdoes : Nat → Int32) (mkinds : Nat → Int32) (msees : Nat → Int32) (mnow : Nat → Int32) (mbefore : Nat → Int32) (mkeeps : Nat → Int32) (mkept : Nat → Int32) (mfindings : Nat → Int32) (mread : Nat → Int32) (maside : Nat → Int32) (msteps : Nat → Int32) (mtried : Nat → Int32) (mbest : Nat → Int32) (x1 : Int32) (x2 : Int32) (r : Int32) (zmrowSizes : Nat → Int32) (zmrows : Nat → Int32) (zmaside : Nat → Int32) (h : fX6_fewest F mguests mclause mrowSizes mrows mdoes mkinds msees mnow maside x1 x2 = some (r, zmrowSizes, zmrows, zmaside)) : ∀ sz : Nat, Met l yX6_fewest wsX6_fewest ({ frames := 5, cells := 0, slots := 0, locals := 117 } : Room) (va_Pc [.ref (am 0), .int x1, .int x2] (fun U => U.heap.size = sz ∧ va_P D vwCl (wMo T am mguests mclause mdeeds masked mupper mlower mfinding mreadGuests misSight mat mrowSizes mrows mtextSizes mtexts mdoes mkinds msees mnow mbefore mkeeps mkept mfindings mread maside msteps mtried mbest) U.heap ∧ KK D T U ∧ va_D (fun _ => True) (wMo T am mguests mclause mdeeds masked mupper mlower mfinding mreadGuests misSight mat mrowSizes mrows mtextSizes mtexts mdoes mkinds msees mnow mbefore mkeeps mkept mfindings mread maside msteps mtried mbest))) (va_Qi (fun r' (_ : Unit) => r' = r) (fun _ t => va_P D vwCl (wMo T am mguests mclause mdeeds masked mupper mlower mfinding mreadGuests misSight mat zmrowSizes zmrows mtextSizes mtexts mdoes mkinds msees mnow mbefore mkeeps mkept mfindings mread zmaside msteps mtried mbest) t.heap ∧ va_D (va_A (wMo T am mguests mclause mdeeds masked mupper mlower mfinding mreadGuests misSight mat mrowSizes mrows mtextSizes mtexts mdoes mkinds msees mnow mbefore mkeeps mkept mfindings mread maside msteps mtried mbest) sz) (wMo T am mguests mclause mdeeds masked mupper mlower mfinding mreadGuests misSight mat zmrowSizes zmrows mtextSizes mtexts mdoes mkinds msees mnow mbefore mkeeps mkept mfindings mread zmaside msteps mtried mbest)) (va_A (wMo T am mguests mclause mdeeds masked mupper mlower mfinding mreadGuests misSight mat mrowSizes mrows mtextSizes mtexts mdoes mkinds msees mnow mbefore mkeeps mkept mfindings mread maside msteps mtried mbest) sz)) 0 0 (va_A (wMo T am mguests mclause mdeeds masked mupper mlower mfinding mreadGuests misSight mat mrowSizes mrows mtextSizes mtexts mdoes mkinds msees mnow mbefore mkeeps mkept mfindings mread maside msteps mtried mbest) sz) := by
  intro sz
  refine Met.ofW (cc := cX6_fewest) (maxL := 7) (ret := some .int) (by decide) rfl ?_
  intro p e s m args below meth c s₁ B hml hv
  obtain ⟨ha, hsz, hP, hKK, hD0⟩ := hv
  have hx := B.exec
  have hb := B.bytes
  have hr := B.returns
  have hts := atoms_spec (ws := wsX6_fewest) B.pre
  have hown : s.vm.findClass RX6 = some m.cls := findClass_of_methodNamed B.named
  have hlocks := B.notSynchronized
  have hK := hKK.1
  have hFix : CallFix p m c cX6_fewest 7 s args wsX6_fewest RX6 := ⟨hx, hb, hml, hown, hts⟩
  have q1 := hts _ (List.mem_of_getElem? (i := 1) (show wsX6_fewest[1]? = some (Cond.fieldLink RX6 131 "PartyWillModel" "guests" "I") from rfl))
  have q2 := hts _ (List.mem_of_getElem? (i := 2) (show wsX6_fewest[2]? = some (Cond.constant RX6 237 (1000000)) from rfl))
  have iX6 : ∀ w ∈ u_ws RX6 TX6 27, w ∈ wsX6_fewest := fun w h => List.mem_cons_of_mem _ (List.mem_append_right _ (h))
  subst hsz
  have hD := hD0.self (sz := s.heap.size)
  generalize hAe : va_A (wMo T am mguests mclause mdeeds masked mupper mlower mfinding mreadGuests misSight mat mrowSizes mrows mtextSizes mtexts mdoes mkinds msees mnow mbefore mkeeps mkept mfindings mread maside msteps mtried mbest) s.heap.size = A at hD ⊢
  have hA : ∀ q : Nat, s.heap.size ≤ q → A q := fun q h => by rw [← hAe]; exact Or.inr h
  have hS : va_S A s.heap s.heap [] := va_S.rf
  have hP : va_P D vwCl (wMo T am mguests mclause mdeeds masked mupper mlower mfinding mreadGuests misSight mat mrowSizes mrows mtextSizes mtexts mdoes mkinds msees mnow mbefore mkeeps mkept mfindings mread maside msteps mtried mbest) s.heap := hP
  obtain ⟨ls, hl, e0⟩ := my_entry (m := m) (n := 7) ha (Nat.le_of_ble_eq_true rfl)
  rw [e0]
  have hl : lv_has ls 7 [(0, .ref (am 0)), (1, .int x1), (2, .int x2)] := hl
  have key : ∀ Q : State → Prop, (∀ (H : Heap) (locs : List Loc) (pc : Nat) (ls : Array Slot), va_P D vwCl (wMo T am mguests mclause mdeeds masked mupper mlower mfinding mreadGuests misSight mat zmrowSizes zmrows mtextSizes mtexts mdoes mkinds msees mnow mbefore mkeeps mkept mfindings mread zmaside msteps mtried mbest) H → va_D A (wMo T am mguests mclause mdeeds masked mupper mlower mfinding mreadGuests misSight mat zmrowSizes zmrows mtextSizes mtexts mdoes mkinds msees mnow mbefore mkeeps mkept mfindings mread zmaside msteps mtried mbest) → va_S A s.heap H locs → decode cX6_fewest pc = .ok (.ireturn, 1) → W p l e ({ frames := 5, cells := 0, slots := 0, locals := 117 } : Room) s m args below meth c H locs 0 0 Q (F0 m pc ls [.int r])) → W p l e ({ frames := 5, cells := 0, slots := 0, locals := 117 } : Room) s m args below meth c s.heap [] 0 0 Q (F0 m 0 ls []) := by
    intro Q hret
    skip
    have l35 : ∀ x1 : Int32, ∀ x2 : Int32, ∀ mrowSizes : Nat → Int32, ∀ mrows : Nat → Int32, ∀ nu : Nat, ∀ x3 : Int32, ∀ x4 : Int32, ∀ x5 : Int32, ∀ maside : Nat → Int32, fX6_fewest_l35 F mguests mclause mdoes mkinds msees mnow x1 x2 mrowSizes mrows nu x3 x4 x5 maside = some (r, zmrowSizes, zmrows, zmaside) → ∀ (H : Heap) (locs : List Loc), va_P D vwCl (wMo T am mguests mclause mdeeds masked mupper mlower mfinding mreadGuests misSight mat mrowSizes mrows mtextSizes mtexts mdoes mkinds msees mnow mbefore mkeeps mkept mfindings mread maside msteps mtried mbest) H → va_D A (wMo T am mguests mclause mdeeds masked mupper mlower mfinding mreadGuests misSight mat mrowSizes mrows mtextSizes mtexts mdoes mkinds msees mnow mbefore mkeeps mkept mfindings mread maside msteps mtried mbest) → va_S A s.heap H locs → ∀ (ls : Array Slot), lv_has ls 7 [(0, .ref (am 0)), (1, .int x1), (2, .int x2), (3, .int x3), (4, .int x4), (5, .int x5)] → W p l e ({ frames := 5, cells := 0, slots := 0, locals := 117 } : Room) s m args below meth c H locs 0 0 Q (F0 m 35 ls []) := by
      intro x1 x2 mrowSizes mrows
      intro nu
      induction nu with
      | zero => intro x3 x4 x5 maside h; exact none_some h
      | succ nu35 ih35 =>
        intro x3 x4 x5 maside h H locs hP hD hS ls hl
        have n66 : ∀ s_0 : Int32, ∀ x4 : Int32, ∀ x5 : Int32, ∀ x6 : Int32, ∀ maside : Nat → Int32, fX6_fewest_n66 F (fX6_fewest_l35 F mguests mclause mdoes mkinds msees mnow x1 x2 mrowSizes mrows nu35) mguests mclause mdoes mkinds msees mnow s_0 x1 x2 x4 x5 x6 mrowSizes mrows maside = some (r, zmrowSizes, zmrows, zmaside) → ∀ (H : Heap) (locs : List Loc), va_P D vwCl (wMo T am mguests mclause mdeeds masked mupper mlower mfinding mreadGuests misSight mat mrowSizes mrows mtextSizes mtexts mdoes mkinds msees mnow mbefore mkeeps mkept mfindings mread maside msteps mtried mbest) H → va_D A (wMo T am mguests mclause mdeeds masked mupper mlower mfinding mreadGuests misSight mat mrowSizes mrows mtextSizes mtexts mdoes mkinds msees mnow mbefore mkeeps mkept mfindings mread maside msteps mtried mbest) → va_S A s.heap H locs → ∀ (ls : Array Slot), lv_has ls 7 [(0, .ref (am 0)), (1, .int x1), (2, .int x2), (4, .int x4), (5, .int x5), (6, .int x6)] → W p l e ({ frames := 5, cells := 0, slots := 0, locals := 117 } : Room) s m args below meth c H locs 0 0 Q (F0 m 66 ls [.int s_0]) := by
          intro s_0 x4 x5 x6 maside h H locs hP hD hS ls hl
          unfold fX6_fewest_n66 at h
          refine lv_istore_n (lv' := [(3, .int s_0), (0, .ref (am 0)), (1, .int x1), (2, .int x2), (4, .int x4), (5, .int x5), (6, .int x6)]) hx hb dX6_fewest_66 rfl hl (by decide) rfl (fun ls hl => ?_)
          refine lv_iload hx hb dX6_fewest_67 (lv_at hl 6 rfl) ?_
          refine lv_iload hx hb dX6_fewest_69 (lv_at hl 4 rfl) ?_
          refine lv_icmp_ge (tgt := 79) hx hb dX6_fewest_71 (by decide) (fun c71 => ?_) (fun c71 => ?_)
          · have h := br_1 h c71
            refine lv_iload hx hb dX6_fewest_79 (lv_at hl 4 rfl) ?_
            refine lv_istore (lv' := [(4, .int x4), (3, .int s_0), (0, .ref (am 0)), (1, .int x1), (2, .int x2), (5, .int x5), (6, .int x6)]) hx hb dX6_fewest_81 hl (by decide) rfl (fun ls hl => ?_)
            refine lv_iinc (v := (x5 + (1 : Int32))) (lv' := [(5, .int (x5 + (1 : Int32))), (4, .int x4), (3, .int s_0), (0, .ref (am 0)), (1, .int x1), (2, .int x2), (6, .int x6)]) hx hb dX6_fewest_83 hl (k := 5) rfl rfl (by decide) rfl (fun ls hl => ?_)
            refine lv_goto (tgt := 35) hx hb dX6_fewest_86 (by decide) ?_
            exact ih35 s_0 x4 (x5 + (1 : Int32)) maside h _ _ hP hD hS _ (lv_sub hl [3, 4, 5, 2, 1, 0] rfl)
          · have h := br_0 h c71
            refine lv_iload hx hb dX6_fewest_74 (lv_at hl 6 rfl) ?_
            refine lv_goto (tgt := 81) hx hb dX6_fewest_76 (by decide) ?_
            refine lv_istore (lv' := [(4, .int x6), (3, .int s_0), (0, .ref (am 0)), (1, .int x1), (2, .int x2), (5, .int x5), (6, .int x6)]) hx hb dX6_fewest_81 hl (by decide) rfl (fun ls hl => ?_)
            refine lv_iinc (v := (x5 + (1 : Int32))) (lv' := [(5, .int (x5 + (1 : Int32))), (4, .int x6), (3, .int s_0), (0, .ref (am 0)), (1, .int x1), (2, .int x2), (6, .int x6)]) hx hb dX6_fewest_83 hl (k := 5) rfl rfl (by decide) rfl (fun ls hl => ?_)
            refine lv_goto (tgt := 35) hx hb dX6_fewest_86 (by decide) ?_
            exact ih35 s_0 x6 (x5 + (1 : Int32)) maside h _ _ hP hD hS _ (lv_sub hl [3, 4, 5, 2, 1, 0] rfl)
        have h : fX6_fewest_l35_b F mguests mclause mdoes mkinds msees mnow x1 x2 mrowSizes mrows (fX6_fewest_l35 F mguests mclause mdoes mkinds msees mnow x1 x2 mrowSizes mrows nu35) x3 x4 x5 maside = some (r, zmrowSizes, zmrows, zmaside) := h
        unfold fX6_fewest_l35_b at h
        refine lv_iload hx hb dX6_fewest_35 (lv_at hl 5 rfl) ?_
        refine lv_iload_n hx hb dX6_fewest_37 rfl (lv_at hl 1 rfl) ?_
        obtain ⟨r38, hc, h⟩ := bd1_some h
        refine my_roi (va_Run.run (va_runS (As := [.int x1]) (rest := [.int x5]) hFix (kX6_codes l D T F x1 r38 hc) (va_cwS 1 hts gX6_fewest_X6_codes rfl rfl rfl hd_X6_codes ⟨Nat.le_of_ble_eq_true rfl, Nat.le_of_ble_eq_true rfl⟩) (preS_ro va_nil hKK) rfl rfl hl.1 rfl (lv_room (Nat.le_of_ble_eq_true rfl)) dX6_fewest_38 ⟨Nat.zero_le _, Nat.zero_le _⟩)) ?_
        refine lv_icmp_ge (tgt := 89) hx hb dX6_fewest_41 (by decide) (fun c41 => ?_) (fun c41 => ?_)
        · have h := br_1 h c41
          refine lv_aload_n hx hb dX6_fewest_89 rfl (lv_at hl 0 rfl) ?_
          refine lv_iload_n hx hb dX6_fewest_90 rfl (lv_at hl 1 rfl) ?_
          refine lv_iload_n hx hb dX6_fewest_91 rfl (lv_at hl 3 rfl) ?_
          refine lv_iload_n hx hb dX6_fewest_92 rfl (lv_at hl 2 rfl) ?_
          obtain ⟨w93_mrowSizes, w93_mrows, hc, h⟩ := bd2_some h
          have hFc := my_freeS hD hS hA
          refine my_rwv (va_runV (As := [.int x1, .int x3, .int x2]) (rest := []) hFix (kX6_layProgramme l D T F am mguests mclause mdeeds masked mupper mlower mfinding mreadGuests misSight mat mrowSizes mrows mtextSizes mtexts mdoes mkinds msees mnow mbefore mkeeps mkept mfindings mread maside msteps mtried mbest x1 x3 x2 w93_mrowSizes w93_mrows hc _) (cwV 3 hts gX6_fewest_X6_layProgramme rfl rfl rfl ⟨rfl, hd_X6_layProgramme⟩ ⟨Nat.le_of_ble_eq_true rfl, Nat.le_of_ble_eq_true rfl⟩) (preV_rw hP hKK hD (va_recv hK hP (ci := 4) (q0 := 0) rfl wMo_0)) rfl rfl hl.1 rfl (lv_room (Nat.le_of_ble_eq_true rfl)) dX6_fewest_93 ⟨Nat.zero_le _, Nat.zero_le _⟩) hS hFc (fun H1 locs hP1 hD1 hz1 hkk hS => ?_)
          have hP : va_P D vwCl (wMo T am mguests mclause mdeeds masked mupper mlower mfinding mreadGuests misSight mat w93_mrowSizes w93_mrows mtextSizes mtexts mdoes mkinds msees mnow mbefore mkeeps mkept mfindings mread maside msteps mtried mbest) H1 := hP1
          have hD : va_D A (wMo T am mguests mclause mdeeds masked mupper mlower mfinding mreadGuests misSight mat w93_mrowSizes w93_mrows mtextSizes mtexts mdoes mkinds msees mnow mbefore mkeeps mkept mfindings mread maside msteps mtried mbest) := hD1.weaken (fun _ q _ h => hFc q.1 h)
          generalize H1 = H at hP hS ⊢
          refine lv_iload hx hb dX6_fewest_96 (lv_at hl 4 rfl) ?_
          cases h
          exact hret _ _ _ _ hP hD hS dX6_fewest_98
        · have h := br_0 h c41
          refine lv_aload_n hx hb dX6_fewest_44 rfl (lv_at hl 0 rfl) ?_
          refine lv_iload_n hx hb dX6_fewest_45 rfl (lv_at hl 1 rfl) ?_
          refine lv_iload hx hb dX6_fewest_46 (lv_at hl 5 rfl) ?_
          obtain ⟨r48, w48_maside, hc, h⟩ := bd2_some h
          have hFc := my_freeS hD hS hA
          refine my_rwi (va_runV (As := [.int x1, .int x5]) (rest := []) hFix (kX6_fallen l D T F am mguests mclause mdeeds masked mupper mlower mfinding mreadGuests misSight mat mrowSizes mrows mtextSizes mtexts mdoes mkinds msees mnow mbefore mkeeps mkept mfindings mread maside msteps mtried mbest x1 x5 r48 w48_maside hc _) (cwV 2 hts gX6_fewest_X6_fallen rfl rfl rfl ⟨rfl, hd_X6_fallen⟩ ⟨Nat.le_of_ble_eq_true rfl, Nat.le_of_ble_eq_true rfl⟩) (preV_rw hP hKK hD (va_recv hK hP (ci := 4) (q0 := 0) rfl wMo_0)) rfl rfl hl.1 rfl (lv_room (Nat.le_of_ble_eq_true rfl)) dX6_fewest_48 ⟨Nat.zero_le _, Nat.zero_le _⟩) hS hFc (fun H1 locs hP1 hD1 hz1 hkk hS => ?_)
          have hP : va_P D vwCl (wMo T am mguests mclause mdeeds masked mupper mlower mfinding mreadGuests misSight mat mrowSizes mrows mtextSizes mtexts mdoes mkinds msees mnow mbefore mkeeps mkept mfindings mread w48_maside msteps mtried mbest) H1 := hP1
          have hD : va_D A (wMo T am mguests mclause mdeeds masked mupper mlower mfinding mreadGuests misSight mat mrowSizes mrows mtextSizes mtexts mdoes mkinds msees mnow mbefore mkeeps mkept mfindings mread w48_maside msteps mtried mbest) := hD1.weaken (fun _ q _ h => hFc q.1 h)
          generalize H1 = H at hP hS ⊢
          refine lv_istore (lv' := [(6, .int r48), (0, .ref (am 0)), (1, .int x1), (2, .int x2), (3, .int x3), (4, .int x4), (5, .int x5)]) hx hb dX6_fewest_51 hl (by decide) rfl (fun ls hl => ?_)
          refine lv_iload hx hb dX6_fewest_53 (lv_at hl 0 rfl) ?_
          refine lv_iload hx hb dX6_fewest_55 (lv_at hl 5 rfl) ?_
          refine lv_icmp_ge (tgt := 65) hx hb dX6_fewest_57 (by decide) (fun c57 => ?_) (fun c57 => ?_)
          · have h := br_1 h c57
            refine lv_iload_n hx hb dX6_fewest_65 rfl (lv_at hl 4 rfl) ?_
            exact n66 x3 x4 x5 r48 w48_maside h _ _ hP hD hS _ (lv_sub hl [1, 2, 3, 5, 6, 0] rfl)
          · have h := br_0 h c57
            refine lv_iload hx hb dX6_fewest_60 (lv_at hl 6 rfl) ?_
            refine lv_goto (tgt := 66) hx hb dX6_fewest_62 (by decide) ?_
            exact n66 x5 x4 x5 r48 w48_maside h _ _ hP hD hS _ (lv_sub hl [1, 2, 3, 5, 6, 0] rfl)
    unfold fX6_fewest at h
    refine lv_iload_n hx hb dX6_fewest_0 rfl (lv_at hl 1 rfl) ?_
    obtain ⟨r1, hc, h⟩ := bd1_some h
    refine my_roz (va_Run.run (va_runS (As := [.int x1]) (rest := []) hFix (kX6_isLength l D T F x1 r1 hc) (va_cwS 1 hts gX6_fewest_X6_isLength rfl rfl rfl hd_X6_isLength ⟨Nat.le_of_ble_eq_true rfl, Nat.le_of_ble_eq_true rfl⟩) (preS_ro va_nil hKK) rfl rfl hl.1 rfl (lv_room (Nat.le_of_ble_eq_true rfl)) dX6_fewest_1 ⟨Nat.zero_le _, Nat.zero_le _⟩)) (fun hb1 => ?_)
    refine lv_if_eq (tgt := 14) hx hb dX6_fewest_4 (by decide) (fun c4 => ?_) (fun c4 => ?_)
    · have h := br_1 h c4
      refine lv_iconst (v := (-1 : Int32)) hx hb dX6_fewest_14 (by decide) ?_
      cases h
      exact hret _ _ _ _ hP hD hS dX6_fewest_15
    · have h := br_0 h c4
      refine lv_iload_n hx hb dX6_fewest_7 rfl (lv_at hl 2 rfl) ?_
      obtain ⟨r8, hc, h⟩ := bd1_some h
      refine my_roz (va_Run.run (va_runS (As := [.int x2]) (rest := []) hFix (kX6_isRow l D T F x2 r8 hc) (va_cwS 1 hts gX6_fewest_X6_isRow rfl rfl rfl hd_X6_isRow ⟨Nat.le_of_ble_eq_true rfl, Nat.le_of_ble_eq_true rfl⟩) (preS_ro va_nil hKK) rfl rfl hl.1 rfl (lv_room (Nat.le_of_ble_eq_true rfl)) dX6_fewest_8 ⟨Nat.zero_le _, Nat.zero_le _⟩)) (fun hb8 => ?_)
      refine lv_if_ne (tgt := 16) hx hb dX6_fewest_11 (by decide) (fun c11 => ?_) (fun c11 => ?_)
      · have h := br_0 h c11
        refine lv_aload_n hx hb dX6_fewest_16 rfl (lv_at hl 0 rfl) ?_
        refine va_get (D := D) (ci := 4) (C := RX6) (T := TX6) (N := 27) hx hb hts iX6 hown hK hP 0 wMo_0 rfl 4 (by decide) q1 (fun _ h9 => h9) rfl dX6_fewest_17 ?_
        refine lv_if_ne (tgt := 26) hx hb dX6_fewest_20 (by decide) (fun c20 => ?_) (fun c20 => ?_)
        · have h := br_0 h c20
          refine lv_iconst (v := (0 : Int32)) hx hb dX6_fewest_26 (by decide) ?_
          refine lv_istore_n (lv' := [(3, .int (0 : Int32)), (0, .ref (am 0)), (1, .int x1), (2, .int x2)]) hx hb dX6_fewest_27 rfl hl (by decide) rfl (fun ls hl => ?_)
          refine lv_ldc (v := (1000000 : Int32)) hx hb hown q2 dX6_fewest_28 ?_
          refine lv_istore (lv' := [(4, .int (1000000 : Int32)), (3, .int (0 : Int32)), (0, .ref (am 0)), (1, .int x1), (2, .int x2)]) hx hb dX6_fewest_30 hl (by decide) rfl (fun ls hl => ?_)
          refine lv_iconst (v := (0 : Int32)) hx hb dX6_fewest_32 (by decide) ?_
          refine lv_istore (lv' := [(5, .int (0 : Int32)), (4, .int (1000000 : Int32)), (3, .int (0 : Int32)), (0, .ref (am 0)), (1, .int x1), (2, .int x2)]) hx hb dX6_fewest_33 hl (by decide) rfl (fun ls hl => ?_)
          exact l35 x1 x2 mrowSizes mrows F (0 : Int32) (1000000 : Int32) (0 : Int32) maside h _ _ hP hD hS _ (lv_sub hl [3, 4, 5, 2, 1, 0] rfl)
        · have h := br_1 h c20
          refine lv_bipush (v := (-4 : Int32)) hx hb dX6_fewest_23 (by decide) ?_
          cases h
          exact hret _ _ _ _ hP hD hS dX6_fewest_25
      · have h := br_1 h c11
        refine lv_iconst (v := (-1 : Int32)) hx hb dX6_fewest_14 (by decide) ?_
        cases h
        exact hret _ _ _ _ hP hD hS dX6_fewest_15
  exact key _ (fun H locs pc ls hP hD hS hd => W.iret hx hb hr (fun t ht hW => ⟨⟨_, (), rfl, rfl, by show _ ∧ _; rw [ht]; exact ⟨hP, hD⟩⟩, hS.F ht⟩) hS.2.2 hd)
