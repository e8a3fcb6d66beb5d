set_option maxHeartbeats 4000000 in
set_option maxRecDepth 100000 in
theorem kX6_in (l : Launch) (D : va_G) (T : Nat → ClassId) (F : Nat) (x0 : Int64) (x2 : Int64) (x4 : Int64) (r : Int32) (h : fX6_in F x0 x2 x4 = some (r)) : Met l yX6_in wsX6_in ({ frames := 0, cells := 0, slots := 0, locals := 0 } : Room) (va_Pc [.long x0, .long x2, .long x4] (fun U => va_P D vwCl ([] : va_W) U.heap ∧ KK D T U)) (vp_Si (fun r' => r' = r ∧ b01 r)) 0 0 (fun _ => False) := by
  refine Met.ofW (cc := cX6_in) (maxL := 6) (ret := some .boolean) (by decide) rfl ?_
  intro p e s m args below meth c s₁ B hml hv
  obtain ⟨ha, hP, hKK⟩ := hv
  have hx := B.exec
  have hb := B.bytes
  have hr := B.returns
  have hts := atoms_spec (ws := wsX6_in) B.pre
  have hown : s.vm.findClass RX6 = some m.cls := findClass_of_methodNamed B.named
  have hlocks := B.notSynchronized
  have hK := hKK.1
  have hFix : CallFix p m c cX6_in 6 s args wsX6_in RX6 := ⟨hx, hb, hml, hown, hts⟩
  obtain ⟨ls, hl, e0⟩ := my_entry (m := m) (n := 6) ha (Nat.le_of_ble_eq_true rfl)
  rw [e0]
  have hl : lv_has ls 6 [(0, .long x0), (2, .long x2), (4, .long x4)] := hl
  have key : ∀ Q : State → Prop, (∀ (pc : Nat) (ls : Array Slot), decode cX6_in pc = .ok (.ireturn, 1) → b01 r → W p l e ({ frames := 0, cells := 0, slots := 0, locals := 0 } : Room) s m args below meth c s.heap [] 0 0 Q (F0 m pc ls [.int r])) → W p l e ({ frames := 0, cells := 0, slots := 0, locals := 0 } : Room) s m args below meth c s.heap [] 0 0 Q (F0 m 0 ls []) := by
    intro Q hret
    unfold fX6_in at h
    refine lv_lload_n hx hb dX6_in_0 rfl (lv_at hl 0 rfl) ?_
    refine lv_lload_n hx hb dX6_in_1 rfl (lv_at hl 1 rfl) ?_
    refine W.lcmp hx hb dX6_in_2 ?_
    refine lv_if_lt (tgt := 17) hx hb dX6_in_3 (by decide) (fun c3 => ?_) (fun c3 => ?_)
    · have h := br_1 h c3
      refine lv_iconst (v := (0 : Int32)) hx hb dX6_in_17 (by decide) ?_
      cases h
      exact hret _ _ dX6_in_18 (Or.inl rfl)
    · have h := br_0 h c3
      refine lv_lload_n hx hb dX6_in_6 rfl (lv_at hl 0 rfl) ?_
      refine lv_lload hx hb dX6_in_7 (lv_at hl 2 rfl) ?_
      refine W.lcmp hx hb dX6_in_9 ?_
      refine lv_if_gt (tgt := 17) hx hb dX6_in_10 (by decide) (fun c10 => ?_) (fun c10 => ?_)
      · have h := br_1 h c10
        refine lv_iconst (v := (0 : Int32)) hx hb dX6_in_17 (by decide) ?_
        cases h
        exact hret _ _ dX6_in_18 (Or.inl rfl)
      · have h := br_0 h c10
        refine lv_iconst (v := (1 : Int32)) hx hb dX6_in_13 (by decide) ?_
        refine lv_goto (tgt := 18) hx hb dX6_in_14 (by decide) ?_
        cases h
        exact hret _ _ dX6_in_18 (Or.inr rfl)
  exact key _ (fun pc ls hd hb1 => W.zret hx hb hr (b01_n hb1) (fun t ht hW => ⟨_, rfl, ⟨rfl, hb1⟩, ht⟩) (fun q h => by cases h) hd)
set_option maxHeartbeats 4000000 in
set_option maxRecDepth 100000 in
theorem kX6_found (l : Launch) (D : va_G) (T : Nat → ClassId) (F : Nat) (am : Nat → Nat) (mguests : Int32) (mclause : Int32) (mdeeds : Int32) (masked : Int32) (mupper : Int64) (mlower : Int64) (mfinding : Int32) (mreadGuests : Int32) (misSight : Int32) (mat : Int32) (mrowSizes : Nat → Int32) (mrows : Nat → Int32) (mtextSizes : Nat → Int32) (mtexts : Nat → Int32) (mdoes : Nat → Int32) (mkinds : Nat → Int32) (msees : Nat → Int32) (mnow : Nat → Int32) (mbefore : Nat → Int32) (mkeeps : Nat → Int32) (mkept : Nat → Int32) (mfindings : Nat → Int32) (mread : Nat → Int32) (maside : Nat → Int32) (msteps : Nat → Int32) (mtried : Nat → Int32) (mbest : Nat → Int32) (x1 : Int32) (r : Int32) (zmfinding : Int32) (zmfindings : Nat → Int32) (h : fX6_found F mfinding mfindings x1 = some (r, zmfinding, zmfindings)) : ∀ sz : Nat, Met l yX6_found wsX6_found ({ frames := 0, cells := 0, slots := 0, locals := 0 } : Room) (va_Pc [.ref (am 0), .int x1] (fun U => U.heap.size = sz ∧ va_P D vwCl (wMo T am mguests mclause mdeeds masked mupper mlower mfinding mreadGuests misSight mat mrowSizes mrows mtextSizes mtexts mdoes mkinds msees mnow mbefore mkeeps mkept mfindings mread maside msteps mtried mbest) U.heap ∧ KK D T U ∧ va_D (fun _ => True) (wMo T am mguests mclause mdeeds masked mupper mlower mfinding mreadGuests misSight mat mrowSizes mrows mtextSizes mtexts mdoes mkinds msees mnow mbefore mkeeps mkept mfindings mread maside msteps mtried mbest))) (va_Qi (fun r' (_ : Unit) => r' = r) (fun _ t => va_P D vwCl (wMo T am mguests mclause mdeeds masked mupper mlower zmfinding mreadGuests misSight mat mrowSizes mrows mtextSizes mtexts mdoes mkinds msees mnow mbefore mkeeps mkept zmfindings mread maside msteps mtried mbest) t.heap ∧ va_D (va_A (wMo T am mguests mclause mdeeds masked mupper mlower mfinding mreadGuests misSight mat mrowSizes mrows mtextSizes mtexts mdoes mkinds msees mnow mbefore mkeeps mkept mfindings mread maside msteps mtried mbest) sz) (wMo T am mguests mclause mdeeds masked mupper mlower zmfinding mreadGuests misSight mat mrowSizes mrows mtextSizes mtexts mdoes mkinds msees mnow mbefore mkeeps mkept zmfindings mread maside msteps mtried mbest)) (va_A (wMo T am mguests mclause mdeeds masked mupper mlower mfinding mreadGuests misSight mat mrowSizes mrows mtextSizes mtexts mdoes mkinds msees mnow mbefore mkeeps mkept mfindings mread maside msteps mtried mbest) sz)) 0 0 (va_A (wMo T am mguests mclause mdeeds masked mupper mlower mfinding mreadGuests misSight mat mrowSizes mrows mtextSizes mtexts mdoes mkinds msees mnow mbefore mkeeps mkept mfindings mread maside msteps mtried mbest) sz) := by
  intro sz
  refine Met.ofW (cc := cX6_found) (maxL := 2) (ret := some .int) (by decide) rfl ?_
  intro p e s m args below meth c s₁ B hml hv
  obtain ⟨ha, hsz, hP, hKK, hD0⟩ := hv
  have hx := B.exec
  have hb := B.bytes
  have hr := B.returns
  have hts := atoms_spec (ws := wsX6_found) B.pre
  have hown : s.vm.findClass RX6 = some m.cls := findClass_of_methodNamed B.named
  have hlocks := B.notSynchronized
  have hK := hKK.1
  have hFix : CallFix p m c cX6_found 2 s args wsX6_found RX6 := ⟨hx, hb, hml, hown, hts⟩
  have q1 := hts _ (List.mem_of_getElem? (i := 1) (show wsX6_found[1]? = some (Cond.fieldLink RX6 66 "PartyWillModel" "finding" "I") from rfl))
  have q2 := hts _ (List.mem_of_getElem? (i := 2) (show wsX6_found[2]? = some (Cond.fieldLink RX6 48 "PartyWillModel" "findings" "[I") from rfl))
  have iX6 : ∀ w ∈ u_ws RX6 TX6 27, w ∈ wsX6_found := fun w h => List.mem_cons_of_mem _ (List.mem_append_right _ (h))
  subst hsz
  have hD := hD0.self (sz := s.heap.size)
  generalize hAe : va_A (wMo T am mguests mclause mdeeds masked mupper mlower mfinding mreadGuests misSight mat mrowSizes mrows mtextSizes mtexts mdoes mkinds msees mnow mbefore mkeeps mkept mfindings mread maside msteps mtried mbest) s.heap.size = A at hD ⊢
  have hA : ∀ q : Nat, s.heap.size ≤ q → A q := fun q h => by rw [← hAe]; exact Or.inr h
  have hS : va_S A s.heap s.heap [] := va_S.rf
  have hP : va_P D vwCl (wMo T am mguests mclause mdeeds masked mupper mlower mfinding mreadGuests misSight mat mrowSizes mrows mtextSizes mtexts mdoes mkinds msees mnow mbefore mkeeps mkept mfindings mread maside msteps mtried mbest) s.heap := hP
  obtain ⟨ls, hl, e0⟩ := my_entry (m := m) (n := 2) ha (Nat.le_of_ble_eq_true rfl)
  rw [e0]
  have hl : lv_has ls 2 [(0, .ref (am 0)), (1, .int x1)] := hl
  have key : ∀ Q : State → Prop, (∀ (H : Heap) (locs : List Loc) (pc : Nat) (ls : Array Slot), va_P D vwCl (wMo T am mguests mclause mdeeds masked mupper mlower zmfinding mreadGuests misSight mat mrowSizes mrows mtextSizes mtexts mdoes mkinds msees mnow mbefore mkeeps mkept zmfindings mread maside msteps mtried mbest) H → va_D A (wMo T am mguests mclause mdeeds masked mupper mlower zmfinding mreadGuests misSight mat mrowSizes mrows mtextSizes mtexts mdoes mkinds msees mnow mbefore mkeeps mkept zmfindings mread maside msteps mtried mbest) → va_S A s.heap H locs → decode cX6_found pc = .ok (.ireturn, 1) → W p l e ({ frames := 0, cells := 0, slots := 0, locals := 0 } : Room) s m args below meth c H locs 0 0 Q (F0 m pc ls [.int r])) → W p l e ({ frames := 0, cells := 0, slots := 0, locals := 0 } : Room) s m args below meth c s.heap [] 0 0 Q (F0 m 0 ls []) := by
    intro Q hret
    skip
    unfold fX6_found at h
    refine lv_aload_n hx hb dX6_found_0 rfl (lv_at hl 0 rfl) ?_
    refine lv_iload_n hx hb dX6_found_1 rfl (lv_at hl 1 rfl) ?_
    refine va_put (D := D) (ci := 4) (v := .int x1) (ty := .int) (C := RX6) (T := TX6) (N := 27) hx hb hts iX6 tyX6 tyX6_ok nmX6 hown hK hP hD hS 0 wMo_0 rfl 17 (by decide) q1 (fun _ h9 => h9) rfl (by decide +kernel) rfl rfl (Nat.le_of_ble_eq_true rfl) dX6_found_2 (fun H locs hP hD hS => ?_)
    have hP : va_P D vwCl (wMo T am mguests mclause mdeeds masked mupper mlower x1 mreadGuests misSight mat mrowSizes mrows mtextSizes mtexts mdoes mkinds msees mnow mbefore mkeeps mkept mfindings mread maside msteps mtried mbest) H := hP
    have hD : va_D A (wMo T am mguests mclause mdeeds masked mupper mlower x1 mreadGuests misSight mat mrowSizes mrows mtextSizes mtexts mdoes mkinds msees mnow mbefore mkeeps mkept mfindings mread maside msteps mtried mbest) := hD
    refine lv_aload_n hx hb dX6_found_5 rfl (lv_at hl 0 rfl) ?_
    refine va_get (D := D) (ci := 4) (C := RX6) (T := TX6) (N := 27) hx hb hts iX6 hown hK hP 0 wMo_0 rfl 18 (by decide) q2 (fun _ h9 => h9) rfl dX6_found_6 ?_
    refine lv_iload_n hx hb dX6_found_9 rfl (lv_at hl 1 rfl) ?_
    refine lv_dup2_11 hx hb dX6_found_10 rfl rfl ?_
    obtain ⟨hin1, h⟩ := ck_some h
    refine va_iald hx hb hK hP 12 0 wMo_12 rfl hin1 dX6_found_11 ?_
    refine lv_iconst (v := (1 : Int32)) hx hb dX6_found_12 (by decide) ?_
    refine lv_iadd hx hb dX6_found_13 ?_
    obtain ⟨hin2, h⟩ := ck_some h
    refine va_iast hx hb hK hP hD hS 12 0 wMo_12 rfl hin2 dX6_found_14 (fun H locs hP hD hS => ?_)
    have hP : va_P D vwCl (wMo T am mguests mclause mdeeds masked mupper mlower x1 mreadGuests misSight mat mrowSizes mrows mtextSizes mtexts mdoes mkinds msees mnow mbefore mkeeps mkept (upd mfindings x1.toNatClampNeg ((mfindings x1.toNatClampNeg) + (1 : Int32))) mread maside msteps mtried mbest) H := hP
    have hD : va_D A (wMo T am mguests mclause mdeeds masked mupper mlower x1 mreadGuests misSight mat mrowSizes mrows mtextSizes mtexts mdoes mkinds msees mnow mbefore mkeeps mkept (upd mfindings x1.toNatClampNeg ((mfindings x1.toNatClampNeg) + (1 : Int32))) mread maside msteps mtried mbest) := hD
    refine lv_bipush (v := (-3 : Int32)) hx hb dX6_found_15 (by decide) ?_
    cases h
    exact hret _ _ _ _ hP hD hS dX6_found_17
  exact key _ (fun H locs pc ls hP hD hS hd => W.iret hx hb hr (fun t ht hW => ⟨⟨_, (), rfl, rfl, by show _ ∧ _; rw [ht]; exact ⟨hP, hD⟩⟩, hS.F ht⟩) hS.2.2 hd)
set_option maxHeartbeats 4000000 in
set_option maxRecDepth 100000 in
theorem kX6_tell (l : Launch) (D : va_G) (T : Nat → ClassId) (F : Nat) (am : Nat → Nat) (mguests : Int32) (mclause : Int32) (mdeeds : Int32) (masked : Int32) (mupper : Int64) (mlower : Int64) (mfinding : Int32) (mreadGuests : Int32) (misSight : Int32) (mat : Int32) (mrowSizes : Nat → Int32) (mrows : Nat → Int32) (mtextSizes : Nat → Int32) (mtexts : Nat → Int32) (mdoes : Nat → Int32) (mkinds : Nat → Int32) (msees : Nat → Int32) (mnow : Nat → Int32) (mbefore : Nat → Int32) (mkeeps : Nat → Int32) (mkept : Nat → Int32) (mfindings : Nat → Int32) (mread : Nat → Int32) (maside : Nat → Int32) (msteps : Nat → Int32) (mtried : Nat → Int32) (mbest : Nat → Int32) (x1 : Int32) (r : Int32) (zmasked : Int32) (h : fX6_tell F masked x1 = some (r, zmasked)) : ∀ sz : Nat, Met l yX6_tell wsX6_tell ({ frames := 0, cells := 0, slots := 0, locals := 0 } : Room) (va_Pc [.ref (am 0), .int x1] (fun U => U.heap.size = sz ∧ va_P D vwCl (wMo T am mguests mclause mdeeds masked mupper mlower mfinding mreadGuests misSight mat mrowSizes mrows mtextSizes mtexts mdoes mkinds msees mnow mbefore mkeeps mkept mfindings mread maside msteps mtried mbest) U.heap ∧ KK D T U ∧ va_D (fun _ => True) (wMo T am mguests mclause mdeeds masked mupper mlower mfinding mreadGuests misSight mat mrowSizes mrows mtextSizes mtexts mdoes mkinds msees mnow mbefore mkeeps mkept mfindings mread maside msteps mtried mbest))) (va_Qi (fun r' (_ : Unit) => r' = r) (fun _ t => va_P D vwCl (wMo T am mguests mclause mdeeds zmasked mupper mlower mfinding mreadGuests misSight mat mrowSizes mrows mtextSizes mtexts mdoes mkinds msees mnow mbefore mkeeps mkept mfindings mread maside msteps mtried mbest) t.heap ∧ va_D (va_A (wMo T am mguests mclause mdeeds masked mupper mlower mfinding mreadGuests misSight mat mrowSizes mrows mtextSizes mtexts mdoes mkinds msees mnow mbefore mkeeps mkept mfindings mread maside msteps mtried mbest) sz) (wMo T am mguests mclause mdeeds zmasked mupper mlower mfinding mreadGuests misSight mat mrowSizes mrows mtextSizes mtexts mdoes mkinds msees mnow mbefore mkeeps mkept mfindings mread maside msteps mtried mbest)) (va_A (wMo T am mguests mclause mdeeds masked mupper mlower mfinding mreadGuests misSight mat mrowSizes mrows mtextSizes mtexts mdoes mkinds msees mnow mbefore mkeeps mkept mfindings mread maside msteps mtried mbest) sz)) 0 0 (va_A (wMo T am mguests mclause mdeeds masked mupper mlower mfinding mreadGuests misSight mat mrowSizes mrows mtextSizes mtexts mdoes mkinds msees mnow mbefore mkeeps mkept mfindings mread maside msteps mtried mbest) sz) := by
  intro sz
  refine Met.ofW (cc := cX6_tell) (maxL := 2) (ret := some .int) (by decide) rfl ?_
  intro p e s m args below meth c s₁ B hml hv
  obtain ⟨ha, hsz, hP, hKK, hD0⟩ := hv
  have hx := B.exec
  have hb := B.bytes
  have hr := B.returns
  have hts := atoms_spec (ws := wsX6_tell) B.pre
  have hown : s.vm.findClass RX6 = some m.cls := findClass_of_methodNamed B.named
  have hlocks := B.notSynchronized
  have hK := hKK.1
  have hFix : CallFix p m c cX6_tell 2 s args wsX6_tell RX6 := ⟨hx, hb, hml, hown, hts⟩
  have q1 := hts _ (List.mem_of_getElem? (i := 1) (show wsX6_tell[1]? = some (Cond.fieldLink RX6 70 "PartyWillModel" "asked" "I") from rfl))
  have iX6 : ∀ w ∈ u_ws RX6 TX6 27, w ∈ wsX6_tell := fun w h => List.mem_cons_of_mem _ (List.mem_append_right _ (h))
  subst hsz
  have hD := hD0.self (sz := s.heap.size)
  generalize hAe : va_A (wMo T am mguests mclause mdeeds masked mupper mlower mfinding mreadGuests misSight mat mrowSizes mrows mtextSizes mtexts mdoes mkinds msees mnow mbefore mkeeps mkept mfindings mread maside msteps mtried mbest) s.heap.size = A at hD ⊢
  have hA : ∀ q : Nat, s.heap.size ≤ q → A q := fun q h => by rw [← hAe]; exact Or.inr h
  have hS : va_S A s.heap s.heap [] := va_S.rf
  have hP : va_P D vwCl (wMo T am mguests mclause mdeeds masked mupper mlower mfinding mreadGuests misSight mat mrowSizes mrows mtextSizes mtexts mdoes mkinds msees mnow mbefore mkeeps mkept mfindings mread maside msteps mtried mbest) s.heap := hP
  obtain ⟨ls, hl, e0⟩ := my_entry (m := m) (n := 2) ha (Nat.le_of_ble_eq_true rfl)
  rw [e0]
  have hl : lv_has ls 2 [(0, .ref (am 0)), (1, .int x1)] := hl
  have key : ∀ Q : State → Prop, (∀ (H : Heap) (locs : List Loc) (pc : Nat) (ls : Array Slot), va_P D vwCl (wMo T am mguests mclause mdeeds zmasked mupper mlower mfinding mreadGuests misSight mat mrowSizes mrows mtextSizes mtexts mdoes mkinds msees mnow mbefore mkeeps mkept mfindings mread maside msteps mtried mbest) H → va_D A (wMo T am mguests mclause mdeeds zmasked mupper mlower mfinding mreadGuests misSight mat mrowSizes mrows mtextSizes mtexts mdoes mkinds msees mnow mbefore mkeeps mkept mfindings mread maside msteps mtried mbest) → va_S A s.heap H locs → decode cX6_tell pc = .ok (.ireturn, 1) → W p l e ({ frames := 0, cells := 0, slots := 0, locals := 0 } : Room) s m args below meth c H locs 0 0 Q (F0 m pc ls [.int r])) → W p l e ({ frames := 0, cells := 0, slots := 0, locals := 0 } : Room) s m args below meth c s.heap [] 0 0 Q (F0 m 0 ls []) := by
    intro Q hret
    skip
    unfold fX6_tell at h
    refine lv_aload_n hx hb dX6_tell_0 rfl (lv_at hl 0 rfl) ?_
    refine lv_iload_n hx hb dX6_tell_1 rfl (lv_at hl 1 rfl) ?_
    refine va_put (D := D) (ci := 4) (v := .int x1) (ty := .int) (C := RX6) (T := TX6) (N := 27) hx hb hts iX6 tyX6 tyX6_ok nmX6 hown hK hP hD hS 0 wMo_0 rfl 14 (by decide) q1 (fun _ h9 => h9) rfl (by decide +kernel) rfl rfl (Nat.le_of_ble_eq_true rfl) dX6_tell_2 (fun H locs hP hD hS => ?_)
    have hP : va_P D vwCl (wMo T am mguests mclause mdeeds x1 mupper mlower mfinding mreadGuests misSight mat mrowSizes mrows mtextSizes mtexts mdoes mkinds msees mnow mbefore mkeeps mkept mfindings mread maside msteps mtried mbest) H := hP
    have hD : va_D A (wMo T am mguests mclause mdeeds x1 mupper mlower mfinding mreadGuests misSight mat mrowSizes mrows mtextSizes mtexts mdoes mkinds msees mnow mbefore mkeeps mkept mfindings mread maside msteps mtried mbest) := hD
    refine lv_iconst (v := (1 : Int32)) hx hb dX6_tell_5 (by decide) ?_
    cases h
    exact hret _ _ _ _ hP hD hS dX6_tell_6
  exact key _ (fun H locs pc ls hP hD hS hd => W.iret hx hb hr (fun t ht hW => ⟨⟨_, (), rfl, rfl, by show _ ∧ _; rw [ht]; exact ⟨hP, hD⟩⟩, hS.F ht⟩) hS.2.2 hd)
set_option maxHeartbeats 4000000 in
set_option maxRecDepth 100000 in
theorem kX6_answer (l : Launch) (D : va_G) (T : Nat → ClassId) (F : Nat) (am : Nat → Nat) (mguests : Int32) (mclause : Int32) (mdeeds : Int32) (masked : Int32) (mupper : Int64) (mlower : Int64) (mfinding : Int32) (mreadGuests : Int32) (misSight : Int32) (mat : Int32) (mrowSizes : Nat → Int32) (mrows : Nat → Int32) (mtextSizes : Nat → Int32) (mtexts : Nat → Int32) (mdoes : Nat → Int32) (mkinds : Nat → Int32) (msees : Nat → Int32) (mnow : Nat → Int32) (mbefore : Nat → Int32) (mkeeps : Nat → Int32) (mkept : Nat → Int32) (mfindings : Nat → Int32) (mread : Nat → Int32) (maside : Nat → Int32) (msteps : Nat → Int32) (mtried : Nat → Int32) (mbest : Nat → Int32) (x1 : Int32) (x2 : Int32) (r : Int32) (zmasked : Int32) (h : fX6_answer F masked x1 x2 = some (r, zmasked)) : ∀ sz : Nat, Met l yX6_answer wsX6_answer ({ frames := 0, cells := 0, slots := 0, locals := 0 } : Room) (va_Pc [.ref (am 0), .int x1, .int x2] (fun U => U.heap.size = sz ∧ va_P D vwCl (wMo T am mguests mclause mdeeds masked mupper mlower mfinding mreadGuests misSight mat mrowSizes mrows mtextSizes mtexts mdoes mkinds msees mnow mbefore mkeeps mkept mfindings mread maside msteps mtried mbest) U.heap ∧ KK D T U ∧ va_D (fun _ => True) (wMo T am mguests mclause mdeeds masked mupper mlower mfinding mreadGuests misSight mat mrowSizes mrows mtextSizes mtexts mdoes mkinds msees mnow mbefore mkeeps mkept mfindings mread maside msteps mtried mbest))) (va_Qi (fun r' (_ : Unit) => r' = r) (fun _ t => va_P D vwCl (wMo T am mguests mclause mdeeds zmasked mupper mlower mfinding mreadGuests misSight mat mrowSizes mrows mtextSizes mtexts mdoes mkinds msees mnow mbefore mkeeps mkept mfindings mread maside msteps mtried mbest) t.heap ∧ va_D (va_A (wMo T am mguests mclause mdeeds masked mupper mlower mfinding mreadGuests misSight mat mrowSizes mrows mtextSizes mtexts mdoes mkinds msees mnow mbefore mkeeps mkept mfindings mread maside msteps mtried mbest) sz) (wMo T am mguests mclause mdeeds zmasked mupper mlower mfinding mreadGuests misSight mat mrowSizes mrows mtextSizes mtexts mdoes mkinds msees mnow mbefore mkeeps mkept mfindings mread maside msteps mtried mbest)) (va_A (wMo T am mguests mclause mdeeds masked mupper mlower mfinding mreadGuests misSight mat mrowSizes mrows mtextSizes mtexts mdoes mkinds msees mnow mbefore mkeeps mkept mfindings mread maside msteps mtried mbest) sz)) 0 0 (va_A (wMo T am mguests mclause mdeeds masked mupper mlower mfinding mreadGuests misSight mat mrowSizes mrows mtextSizes mtexts mdoes mkinds msees mnow mbefore mkeeps mkept mfindings mread maside msteps mtried mbest) sz) := by
  intro sz
  refine Met.ofW (cc := cX6_answer) (maxL := 3) (ret := some .int) (by decide) rfl ?_
  intro p e s m args below meth c s₁ B hml hv
  obtain ⟨ha, hsz, hP, hKK, hD0⟩ := hv
  have hx := B.exec
  have hb := B.bytes
  have hr := B.returns
  have hts := atoms_spec (ws := wsX6_answer) B.pre
  have hown : s.vm.findClass RX6 = some m.cls := findClass_of_methodNamed B.named
  have hlocks := B.notSynchronized
  have hK := hKK.1
  have hFix : CallFix p m c cX6_answer 3 s args wsX6_answer RX6 := ⟨hx, hb, hml, hown, hts⟩
  have q1 := hts _ (List.mem_of_getElem? (i := 1) (show wsX6_answer[1]? = some (Cond.fieldLink RX6 70 "PartyWillModel" "asked" "I") from rfl))
  have iX6 : ∀ w ∈ u_ws RX6 TX6 27, w ∈ wsX6_answer := fun w h => List.mem_cons_of_mem _ (List.mem_append_right _ (h))
  subst hsz
  have hD := hD0.self (sz := s.heap.size)
  generalize hAe : va_A (wMo T am mguests mclause mdeeds masked mupper mlower mfinding mreadGuests misSight mat mrowSizes mrows mtextSizes mtexts mdoes mkinds msees mnow mbefore mkeeps mkept mfindings mread maside msteps mtried mbest) s.heap.size = A at hD ⊢
  have hA : ∀ q : Nat, s.heap.size ≤ q → A q := fun q h => by rw [← hAe]; exact Or.inr h
  have hS : va_S A s.heap s.heap [] := va_S.rf
  have hP : va_P D vwCl (wMo T am mguests mclause mdeeds masked mupper mlower mfinding mreadGuests misSight mat mrowSizes mrows mtextSizes mtexts mdoes mkinds msees mnow mbefore mkeeps mkept mfindings mread maside msteps mtried mbest) s.heap := hP
  obtain ⟨ls, hl, e0⟩ := my_entry (m := m) (n := 3) ha (Nat.le_of_ble_eq_true rfl)
  rw [e0]
  have hl : lv_has ls 3 [(0, .ref (am 0)), (1, .int x1), (2, .int x2)] := hl
  have key : ∀ Q : State → Prop, (∀ (H : Heap) (locs : List Loc) (pc : Nat) (ls : Array Slot), va_P D vwCl (wMo T am mguests mclause mdeeds zmasked mupper mlower mfinding mreadGuests misSight mat mrowSizes mrows mtextSizes mtexts mdoes mkinds msees mnow mbefore mkeeps mkept mfindings mread maside msteps mtried mbest) H → va_D A (wMo T am mguests mclause mdeeds zmasked mupper mlower mfinding mreadGuests misSight mat mrowSizes mrows mtextSizes mtexts mdoes mkinds msees mnow mbefore mkeeps mkept mfindings mread maside msteps mtried mbest) → va_S A s.heap H locs → decode cX6_answer pc = .ok (.ireturn, 1) → W p l e ({ frames := 0, cells := 0, slots := 0, locals := 0 } : Room) s m args below meth c H locs 0 0 Q (F0 m pc ls [.int r])) → W p l e ({ frames := 0, cells := 0, slots := 0, locals := 0 } : Room) s m args below meth c s.heap [] 0 0 Q (F0 m 0 ls []) := by
    intro Q hret
    skip
    unfold fX6_answer at h
    refine lv_aload_n hx hb dX6_answer_0 rfl (lv_at hl 0 rfl) ?_
    refine lv_iload_n hx hb dX6_answer_1 rfl (lv_at hl 2 rfl) ?_
    refine va_put (D := D) (ci := 4) (v := .int x2) (ty := .int) (C := RX6) (T := TX6) (N := 27) hx hb hts iX6 tyX6 tyX6_ok nmX6 hown hK hP hD hS 0 wMo_0 rfl 14 (by decide) q1 (fun _ h9 => h9) rfl (by decide +kernel) rfl rfl (Nat.le_of_ble_eq_true rfl) dX6_answer_2 (fun H locs hP hD hS => ?_)
    have hP : va_P D vwCl (wMo T am mguests mclause mdeeds x2 mupper mlower mfinding mreadGuests misSight mat mrowSizes mrows mtextSizes mtexts mdoes mkinds msees mnow mbefore mkeeps mkept mfindings mread maside msteps mtried mbest) H := hP
    have hD : va_D A (wMo T am mguests mclause mdeeds x2 mupper mlower mfinding mreadGuests misSight mat mrowSizes mrows mtextSizes mtexts mdoes mkinds msees mnow mbefore mkeeps mkept mfindings mread maside msteps mtried mbest) := hD
    refine lv_iload_n hx hb dX6_answer_5 rfl (lv_at hl 1 rfl) ?_
    cases h
    exact hret _ _ _ _ hP hD hS dX6_answer_6
  exact key _ (fun H locs pc ls hP hD hS hd => W.iret hx hb hr (fun t ht hW => ⟨⟨_, (), rfl, rfl, by show _ ∧ _; rw [ht]; exact ⟨hP, hD⟩⟩, hS.F ht⟩) hS.2.2 hd)
set_option maxHeartbeats 4000000 in
set_option maxRecDepth 100000 in
theorem kX6_isRow (l : Launch) (D : va_G) (T : Nat → ClassId) (F : Nat) (x0 : Int32) (r : Int32) (h : fX6_isRow F x0 = some (r)) : Met l yX6_isRow wsX6_isRow ({ frames := 1, cells := 0, slots := 0, locals := 25 } : Room) (va_Pc [.int x0] (fun U => va_P D vwCl ([] : va_W) U.heap ∧ KK D T U)) (vp_Si (fun r' => r' = r ∧ b01 r)) 0 0 (fun _ => False) := by
  refine Met.ofW (cc := cX6_isRow) (maxL := 1) (ret := some .boolean) (by decide) rfl ?_
  intro p e s m args below meth c s₁ B hml hv
  obtain ⟨ha, hP, hKK⟩ := hv
  have hx := B.exec
  have hb := B.bytes
  have hr := B.returns
  have hts := atoms_spec (ws := wsX6_isRow) B.pre
  have hown : s.vm.findClass RX6 = some m.cls := findClass_of_methodNamed B.named
  have hlocks := B.notSynchronized
  have hK := hKK.1
  have hFix : CallFix p m c cX6_isRow 1 s args wsX6_isRow RX6 := ⟨hx, hb, hml, hown, hts⟩
  have q1 := hts _ (List.mem_of_getElem? (i := 1) (show wsX6_isRow[1]? = some (Cond.constantLong RX6 73 (5)) from rfl))
  obtain ⟨ls, hl, e0⟩ := my_entry (m := m) (n := 1) ha (Nat.le_of_ble_eq_true rfl)
  rw [e0]
  have hl : lv_has ls 1 [(0, .int x0)] := hl
  have key : ∀ Q : State → Prop, (∀ (pc : Nat) (ls : Array Slot), decode cX6_isRow pc = .ok (.ireturn, 1) → b01 r → W p l e ({ frames := 1, cells := 0, slots := 0, locals := 25 } : Room) s m args below meth c s.heap [] 0 0 Q (F0 m pc ls [.int r])) → W p l e ({ frames := 1, cells := 0, slots := 0, locals := 25 } : Room) s m args below meth c s.heap [] 0 0 Q (F0 m 0 ls []) := by
    intro Q hret
    unfold fX6_isRow at h
    refine lv_iload_n hx hb dX6_isRow_0 rfl (lv_at hl 0 rfl) ?_
    refine lv_i2l (v := (x0.toInt64)) hx hb dX6_isRow_1 rfl ?_
    refine lv_lconst (v := (0 : Int64)) hx hb dX6_isRow_2 (by decide) ?_
    refine lv_ldc2 (v := (5 : Int64)) hx hb hown q1 dX6_isRow_3 ?_
    obtain ⟨r6, hc, h⟩ := bd1_some h
    refine my_roz (va_Run.run (va_runS (As := [.long (x0.toInt64), .long (0 : Int64), .long (5 : Int64)]) (rest := []) hFix (kX6_in l D T F (x0.toInt64) (0 : Int64) (5 : Int64) r6 hc) (va_cwS 3 hts gX6_isRow_X6_in rfl rfl rfl hd_X6_in ⟨Nat.le_of_ble_eq_true rfl, Nat.le_of_ble_eq_true rfl⟩) (preS_ro hP hKK) rfl rfl hl.1 rfl (lv_room (Nat.le_of_ble_eq_true rfl)) dX6_isRow_6 ⟨Nat.zero_le _, Nat.zero_le _⟩)) (fun hb6 => ?_)
    cases h
    exact hret _ _ dX6_isRow_9 hb6
  exact key _ (fun pc ls hd hb1 => W.zret hx hb hr (b01_n hb1) (fun t ht hW => ⟨_, rfl, ⟨rfl, hb1⟩, ht⟩) (fun q h => by cases h) hd)
set_option maxHeartbeats 4000000 in
set_option maxRecDepth 100000 in
theorem kX6_isText (l : Launch) (D : va_G) (T : Nat → ClassId) (F : Nat) (x0 : Int32) (r : Int32) (h : fX6_isText F x0 = some (r)) : Met l yX6_isText wsX6_isText ({ frames := 1, cells := 0, slots := 0, locals := 25 } : Room) (va_Pc [.int x0] (fun U => va_P D vwCl ([] : va_W) U.heap ∧ KK D T U)) (vp_Si (fun r' => r' = r ∧ b01 r)) 0 0 (fun _ => False) := by
  refine Met.ofW (cc := cX6_isText) (maxL := 1) (ret := some .boolean) (by decide) rfl ?_
  intro p e s m args below meth c s₁ B hml hv
  obtain ⟨ha, hP, hKK⟩ := hv
  have hx := B.exec
  have hb := B.bytes
  have hr := B.returns
  have hts := atoms_spec (ws := wsX6_isText) B.pre
  have hown : s.vm.findClass RX6 = some m.cls := findClass_of_methodNamed B.named
  have hlocks := B.notSynchronized
  have hK := hKK.1
  have hFix : CallFix p m c cX6_isText 1 s args wsX6_isText RX6 := ⟨hx, hb, hml, hown, hts⟩
  have q1 := hts _ (List.mem_of_getElem? (i := 1) (show wsX6_isText[1]? = some (Cond.constantLong RX6 79 (3)) from rfl))
  obtain ⟨ls, hl, e0⟩ := my_entry (m := m) (n := 1) ha (Nat.le_of_ble_eq_true rfl)
  rw [e0]
  have hl : lv_has ls 1 [(0, .int x0)] := hl
  have key : ∀ Q : State → Prop, (∀ (pc : Nat) (ls : Array Slot), decode cX6_isText pc = .ok (.ireturn, 1) → b01 r → W p l e ({ frames := 1, cells := 0, slots := 0, locals := 25 } : Room) s m args below meth c s.heap [] 0 0 Q (F0 m pc ls [.int r])) → W p l e ({ frames := 1, cells := 0, slots := 0, locals := 25 } : Room) s m args below meth c s.heap [] 0 0 Q (F0 m 0 ls []) := by
    intro Q hret
    unfold fX6_isText at h
    refine lv_iload_n hx hb dX6_isText_0 rfl (lv_at hl 0 rfl) ?_
    refine lv_i2l (v := (x0.toInt64)) hx hb dX6_isText_1 rfl ?_
    refine lv_lconst (v := (0 : Int64)) hx hb dX6_isText_2 (by decide) ?_
    refine lv_ldc2 (v := (3 : Int64)) hx hb hown q1 dX6_isText_3 ?_
    obtain ⟨r6, hc, h⟩ := bd1_some h
    refine my_roz (va_Run.run (va_runS (As := [.long (x0.toInt64), .long (0 : Int64), .long (3 : Int64)]) (rest := []) hFix (kX6_in l D T F (x0.toInt64) (0 : Int64) (3 : Int64) r6 hc) (va_cwS 3 hts gX6_isText_X6_in rfl rfl rfl hd_X6_in ⟨Nat.le_of_ble_eq_true rfl, Nat.le_of_ble_eq_true rfl⟩) (preS_ro hP hKK) rfl rfl hl.1 rfl (lv_room (Nat.le_of_ble_eq_true rfl)) dX6_isText_6 ⟨Nat.zero_le _, Nat.zero_le _⟩)) (fun hb6 => ?_)
    cases h
    exact hret _ _ dX6_isText_9 hb6
  exact key _ (fun pc ls hd hb1 => W.zret hx hb hr (b01_n hb1) (fun t ht hW => ⟨_, rfl, ⟨rfl, hb1⟩, ht⟩) (fun q h => by cases h) hd)
set_option maxHeartbeats 4000000 in
set_option maxRecDepth 100000 in
theorem kX6_row (l : Launch) (D : va_G) (T : Nat → ClassId) (F : Nat) (am : Nat → Nat) (mguests : Int32) (mclause : Int32) (mdeeds : Int32) (masked : Int32) (mupper : Int64) (mlower : Int64) (mfinding : Int32) (mreadGuests : Int32) (misSight : Int32) (mat : Int32) (mrowSizes : Nat → Int32) (mrows : Nat → Int32) (mtextSizes : Nat → Int32) (mtexts : Nat → Int32) (mdoes : Nat → Int32) (mkinds : Nat → Int32) (msees : Nat → Int32) (mnow : Nat → Int32) (mbefore : Nat → Int32) (mkeeps : Nat → Int32) (mkept : Nat → Int32) (mfindings : Nat → Int32) (mread : Nat → Int32) (maside : Nat → Int32) (msteps : Nat → Int32) (mtried : Nat → Int32) (mbest : Nat → Int32) (x1 : Int32) (x2 : Int32) (r : Int32) (zmfinding : Int32) (zmrowSizes : Nat → Int32) (zmrows : Nat → Int32) (zmfindings : Nat → Int32) (h : fX6_row F mfinding mrowSizes mrows mfindings x1 x2 = some (r, zmfinding, zmrowSizes, zmrows, zmfindings)) : ∀ sz : Nat, Met l yX6_row wsX6_row ({ frames := 2, cells := 0, slots := 0, locals := 45 } : Room) (va_Pc [.ref (am 0), .int x1, .int x2] (fun U => U.heap.size = sz ∧ va_P D vwCl (wMo T am mguests mclause mdeeds masked mupper mlower mfinding mreadGuests misSight mat mrowSizes mrows mtextSizes mtexts mdoes mkinds msees mnow mbefore mkeeps mkept mfindings mread maside msteps mtried mbest) U.heap ∧ KK D T U ∧ va_D (fun _ => True) (wMo T am mguests mclause mdeeds masked mupper mlower mfinding mreadGuests misSight mat mrowSizes mrows mtextSizes mtexts mdoes mkinds msees mnow mbefore mkeeps mkept mfindings mread maside msteps mtried mbest))) (va_Qi (fun r' (_ : Unit) => r' = r) (fun _ t => va_P D vwCl (wMo T am mguests mclause mdeeds masked mupper mlower zmfinding mreadGuests misSight mat zmrowSizes zmrows mtextSizes mtexts mdoes mkinds msees mnow mbefore mkeeps mkept zmfindings mread maside msteps mtried mbest) t.heap ∧ va_D (va_A (wMo T am mguests mclause mdeeds masked mupper mlower mfinding mreadGuests misSight mat mrowSizes mrows mtextSizes mtexts mdoes mkinds msees mnow mbefore mkeeps mkept mfindings mread maside msteps mtried mbest) sz) (wMo T am mguests mclause mdeeds masked mupper mlower zmfinding mreadGuests misSight mat zmrowSizes zmrows mtextSizes mtexts mdoes mkinds msees mnow mbefore mkeeps mkept zmfindings mread maside msteps mtried mbest)) (va_A (wMo T am mguests mclause mdeeds masked mupper mlower mfinding mreadGuests misSight mat mrowSizes mrows mtextSizes mtexts mdoes mkinds msees mnow mbefore mkeeps mkept mfindings mread maside msteps mtried mbest) sz)) 0 0 (va_A (wMo T am mguests mclause mdeeds masked mupper mlower mfinding mreadGuests misSight mat mrowSizes mrows mtextSizes mtexts mdoes mkinds msees mnow mbefore mkeeps mkept mfindings mread maside msteps mtried mbest) sz) := by
  intro sz
  refine Met.ofW (cc := cX6_row) (maxL := 4) (ret := some .int) (by decide) rfl ?_
  intro p e s m args below meth c s₁ B hml hv
  obtain ⟨ha, hsz, hP, hKK, hD0⟩ := hv
  have hx := B.exec
  have hb := B.bytes
  have hr := B.returns
  have hts := atoms_spec (ws := wsX6_row) B.pre
  have hown : s.vm.findClass RX6 = some m.cls := findClass_of_methodNamed B.named
  have hlocks := B.notSynchronized
  have hK := hKK.1
  have hFix : CallFix p m c cX6_row 4 s args wsX6_row RX6 := ⟨hx, hb, hml, hown, hts⟩
  have q1 := hts _ (List.mem_of_getElem? (i := 1) (show wsX6_row[1]? = some (Cond.fieldLink RX6 7 "PartyWillModel" "rowSizes" "[I") from rfl))
  have q2 := hts _ (List.mem_of_getElem? (i := 2) (show wsX6_row[2]? = some (Cond.fieldLink RX6 13 "PartyWillModel" "rows" "[I") from rfl))
  have iX6 : ∀ w ∈ u_ws RX6 TX6 27, w ∈ wsX6_row := fun w h => List.mem_cons_of_mem _ (List.mem_append_right _ (h))
  subst hsz
  have hD := hD0.self (sz := s.heap.size)
  generalize hAe : va_A (wMo T am mguests mclause mdeeds masked mupper mlower mfinding mreadGuests misSight mat mrowSizes mrows mtextSizes mtexts mdoes mkinds msees mnow mbefore mkeeps mkept mfindings mread maside msteps mtried mbest) s.heap.size = A at hD ⊢
  have hA : ∀ q : Nat, s.heap.size ≤ q → A q := fun q h => by rw [← hAe]; exact Or.inr h
  have hS : va_S A s.heap s.heap [] := va_S.rf
  have hP : va_P D vwCl (wMo T am mguests mclause mdeeds masked mupper mlower mfinding mreadGuests misSight mat mrowSizes mrows mtextSizes mtexts mdoes mkinds msees mnow mbefore mkeeps mkept mfindings mread maside msteps mtried mbest) s.heap := hP
  obtain ⟨ls, hl, e0⟩ := my_entry (m := m) (n := 4) ha (Nat.le_of_ble_eq_true rfl)
  rw [e0]
  have hl : lv_has ls 4 [(0, .ref (am 0)), (1, .int x1), (2, .int x2)] := hl
  have key : ∀ Q : State → Prop, (∀ (H : Heap) (locs : List Loc) (pc : Nat) (ls : Array Slot), va_P D vwCl (wMo T am mguests mclause mdeeds masked mupper mlower zmfinding mreadGuests misSight mat zmrowSizes zmrows mtextSizes mtexts mdoes mkinds msees mnow mbefore mkeeps mkept zmfindings mread maside msteps mtried mbest) H → va_D A (wMo T am mguests mclause mdeeds masked mupper mlower zmfinding mreadGuests misSight mat zmrowSizes zmrows mtextSizes mtexts mdoes mkinds msees mnow mbefore mkeeps mkept zmfindings mread maside msteps mtried mbest) → va_S A s.heap H locs → decode cX6_row pc = .ok (.ireturn, 1) → W p l e ({ frames := 2, cells := 0, slots := 0, locals := 45 } : Room) s m args below meth c H locs 0 0 Q (F0 m pc ls [.int r])) → W p l e ({ frames := 2, cells := 0, slots := 0, locals := 45 } : Room) s m args below meth c s.heap [] 0 0 Q (F0 m 0 ls []) := by
    intro Q hret
    skip
    have l34 : ∀ x1 : Int32, ∀ x2 : Int32, ∀ mfinding : Int32, ∀ mrowSizes : Nat → Int32, ∀ mfindings : Nat → Int32, ∀ nu : Nat, ∀ x3 : Int32, ∀ mrows : Nat → Int32, fX6_row_l34 F x1 x2 mfinding mrowSizes mfindings nu x3 mrows = some (r, zmfinding, zmrowSizes, zmrows, zmfindings) → ∀ (H : Heap) (locs : List Loc), va_P D vwCl (wMo T am mguests mclause mdeeds masked mupper mlower mfinding mreadGuests misSight mat mrowSizes mrows mtextSizes mtexts mdoes mkinds msees mnow mbefore mkeeps mkept mfindings mread maside msteps mtried mbest) H → va_D A (wMo T am mguests mclause mdeeds masked mupper mlower mfinding mreadGuests misSight mat mrowSizes mrows mtextSizes mtexts mdoes mkinds msees mnow mbefore mkeeps mkept mfindings mread maside msteps mtried mbest) → va_S A s.heap H locs → ∀ (ls : Array Slot), lv_has ls 4 [(0, .ref (am 0)), (1, .int x1), (2, .int x2), (3, .int x3)] → W p l e ({ frames := 2, cells := 0, slots := 0, locals := 45 } : Room) s m args below meth c H locs 0 0 Q (F0 m 34 ls []) := by
      intro x1 x2 mfinding mrowSizes mfindings
      intro nu
      induction nu with
      | zero => intro x3 mrows h; exact none_some h
      | succ nu34 ih34 =>
        intro x3 mrows h H locs hP hD hS ls hl
        have h : fX6_row_l34_b F x1 x2 mfinding mrowSizes mfindings (fX6_row_l34 F x1 x2 mfinding mrowSizes mfindings nu34) x3 mrows = some (r, zmfinding, zmrowSizes, zmrows, zmfindings) := h
        unfold fX6_row_l34_b at h
        refine lv_iload_n hx hb dX6_row_34 rfl (lv_at hl 3 rfl) ?_
        refine lv_bipush (v := (40 : Int32)) hx hb dX6_row_35 (by decide) ?_
        refine lv_icmp_ge (tgt := 58) hx hb dX6_row_37 (by decide) (fun c37 => ?_) (fun c37 => ?_)
        · have h := br_1 h c37
          refine lv_iload_n hx hb dX6_row_58 rfl (lv_at hl 2 rfl) ?_
          cases h
          exact hret _ _ _ _ hP hD hS dX6_row_59
        · have h := br_0 h c37
          refine lv_aload_n hx hb dX6_row_40 rfl (lv_at hl 0 rfl) ?_
          refine va_get (D := D) (ci := 4) (C := RX6) (T := TX6) (N := 27) hx hb hts iX6 hown hK hP 0 wMo_0 rfl 1 (by decide) q2 (fun _ h9 => h9) rfl dX6_row_41 ?_
          refine lv_bipush (v := (40 : Int32)) hx hb dX6_row_44 (by decide) ?_
          refine lv_iload_n hx hb dX6_row_46 rfl (lv_at hl 1 rfl) ?_
          refine lv_imul hx hb dX6_row_47 ?_
          refine lv_iload_n hx hb dX6_row_48 rfl (lv_at hl 3 rfl) ?_
          refine lv_iadd hx hb dX6_row_49 ?_
          refine lv_iconst (v := (0 : Int32)) hx hb dX6_row_50 (by decide) ?_
          obtain ⟨hin1, h⟩ := ck_some h
          refine va_iast hx hb hK hP hD hS 2 0 wMo_2 rfl hin1 dX6_row_51 (fun H locs hP hD hS => ?_)
          have hP : va_P D vwCl (wMo T am mguests mclause mdeeds masked mupper mlower mfinding mreadGuests misSight mat mrowSizes (upd mrows (((40 : Int32) * x1) + x3).toNatClampNeg (0 : Int32)) mtextSizes mtexts mdoes mkinds msees mnow mbefore mkeeps mkept mfindings mread maside msteps mtried mbest) H := hP
          have hD : va_D A (wMo T am mguests mclause mdeeds masked mupper mlower mfinding mreadGuests misSight mat mrowSizes (upd mrows (((40 : Int32) * x1) + x3).toNatClampNeg (0 : Int32)) mtextSizes mtexts mdoes mkinds msees mnow mbefore mkeeps mkept mfindings mread maside msteps mtried mbest) := hD
          refine lv_iinc (v := (x3 + (1 : Int32))) (lv' := [(3, .int (x3 + (1 : Int32))), (0, .ref (am 0)), (1, .int x1), (2, .int x2)]) hx hb dX6_row_52 hl (k := 3) rfl rfl (by decide) rfl (fun ls hl => ?_)
          refine lv_goto (tgt := 34) hx hb dX6_row_55 (by decide) ?_
          exact ih34 (x3 + (1 : Int32)) (upd mrows (((40 : Int32) * x1) + x3).toNatClampNeg (0 : Int32)) h _ _ hP hD hS _ (lv_sub hl [1, 2, 3, 0] rfl)
    unfold fX6_row at h
    refine lv_iload_n hx hb dX6_row_0 rfl (lv_at hl 1 rfl) ?_
    obtain ⟨r1, hc, h⟩ := bd1_some h
    refine my_roz (va_Run.run (va_runS (As := [.int x1]) (rest := []) hFix (kX6_isRow l D T F x1 r1 hc) (va_cwS 1 hts gX6_row_X6_isRow rfl rfl rfl hd_X6_isRow ⟨Nat.le_of_ble_eq_true rfl, Nat.le_of_ble_eq_true rfl⟩) (preS_ro va_nil hKK) rfl rfl hl.1 rfl (lv_room (Nat.le_of_ble_eq_true rfl)) dX6_row_1 ⟨Nat.zero_le _, Nat.zero_le _⟩)) (fun hb1 => ?_)
    refine lv_if_eq (tgt := 13) hx hb dX6_row_4 (by decide) (fun c4 => ?_) (fun c4 => ?_)
    · have h := br_1 h c4
      refine lv_iconst (v := (-1 : Int32)) hx hb dX6_row_13 (by decide) ?_
      cases h
      exact hret _ _ _ _ hP hD hS dX6_row_14
    · have h := br_0 h c4
      refine lv_iload_n hx hb dX6_row_7 rfl (lv_at hl 2 rfl) ?_
      refine lv_bipush (v := (40 : Int32)) hx hb dX6_row_8 (by decide) ?_
      refine lv_icmp_le (tgt := 15) hx hb dX6_row_10 (by decide) (fun c10 => ?_) (fun c10 => ?_)
      · have h := br_1 h c10
        refine lv_iload_n hx hb dX6_row_15 rfl (lv_at hl 2 rfl) ?_
        refine lv_if_ge (tgt := 25) hx hb dX6_row_16 (by decide) (fun c16 => ?_) (fun c16 => ?_)
        · have h := br_1 h c16
          refine lv_aload_n hx hb dX6_row_25 rfl (lv_at hl 0 rfl) ?_
          refine va_get (D := D) (ci := 4) (C := RX6) (T := TX6) (N := 27) hx hb hts iX6 hown hK hP 0 wMo_0 rfl 0 (by decide) q1 (fun _ h9 => h9) rfl dX6_row_26 ?_
          refine lv_iload_n hx hb dX6_row_29 rfl (lv_at hl 1 rfl) ?_
          refine lv_iload_n hx hb dX6_row_30 rfl (lv_at hl 2 rfl) ?_
          obtain ⟨hin2, h⟩ := ck_some h
          refine va_iast hx hb hK hP hD hS 1 0 wMo_1 rfl hin2 dX6_row_31 (fun H locs hP hD hS => ?_)
          have hP : va_P D vwCl (wMo T am mguests mclause mdeeds masked mupper mlower mfinding mreadGuests misSight mat (upd mrowSizes x1.toNatClampNeg x2) mrows mtextSizes mtexts mdoes mkinds msees mnow mbefore mkeeps mkept mfindings mread maside msteps mtried mbest) H := hP
          have hD : va_D A (wMo T am mguests mclause mdeeds masked mupper mlower mfinding mreadGuests misSight mat (upd mrowSizes x1.toNatClampNeg x2) mrows mtextSizes mtexts mdoes mkinds msees mnow mbefore mkeeps mkept mfindings mread maside msteps mtried mbest) := hD
          refine lv_iconst (v := (0 : Int32)) hx hb dX6_row_32 (by decide) ?_
          refine lv_istore_n (lv' := [(3, .int (0 : Int32)), (0, .ref (am 0)), (1, .int x1), (2, .int x2)]) hx hb dX6_row_33 rfl hl (by decide) rfl (fun ls hl => ?_)
          exact l34 x1 x2 mfinding (upd mrowSizes x1.toNatClampNeg x2) mfindings F (0 : Int32) mrows h _ _ hP hD hS _ (lv_sub hl [1, 2, 3, 0] rfl)
        · have h := br_0 h c16
          refine lv_aload_n hx hb dX6_row_19 rfl (lv_at hl 0 rfl) ?_
          refine lv_iconst (v := (5 : Int32)) hx hb dX6_row_20 (by decide) ?_
          obtain ⟨r21, w21_mfinding, w21_mfindings, hc, h⟩ := bd3_some h
          have hFc := my_freeS hD hS hA
          refine my_rwi (va_runV (As := [.int (5 : Int32)]) (rest := []) hFix (kX6_found l D T F am mguests mclause mdeeds masked mupper mlower mfinding mreadGuests misSight mat mrowSizes mrows mtextSizes mtexts mdoes mkinds msees mnow mbefore mkeeps mkept mfindings mread maside msteps mtried mbest (5 : Int32) r21 w21_mfinding w21_mfindings hc) (cwV 1 hts gX6_row_X6_found rfl rfl rfl ⟨rfl, hd_X6_found⟩ ⟨Nat.le_of_ble_eq_true rfl, Nat.le_of_ble_eq_true rfl⟩) (preV_rw hP hKK hD (va_recv hK hP (ci := 4) (q0 := 0) rfl wMo_0)) rfl rfl hl.1 rfl (lv_room (Nat.le_of_ble_eq_true rfl)) dX6_row_21 ⟨Nat.zero_le _, Nat.zero_le _⟩) hS hFc (fun H1 locs hP1 hD1 hz1 hk1 hS => ?_)
          have hP : va_P D vwCl (wMo T am mguests mclause mdeeds masked mupper mlower w21_mfinding mreadGuests misSight mat mrowSizes mrows mtextSizes mtexts mdoes mkinds msees mnow mbefore mkeeps mkept w21_mfindings mread maside msteps mtried mbest) H1 := hP1
          have hD : va_D A (wMo T am mguests mclause mdeeds masked mupper mlower w21_mfinding mreadGuests misSight mat mrowSizes mrows mtextSizes mtexts mdoes mkinds msees mnow mbefore mkeeps mkept w21_mfindings mread maside msteps mtried mbest) := hD1.weaken (fun _ q _ h => hFc q.1 h)
          generalize H1 = H at hP hS ⊢
          cases h
          exact hret _ _ _ _ hP hD hS dX6_row_24
      · have h := br_0 h c10
        refine lv_iconst (v := (-1 : Int32)) hx hb dX6_row_13 (by decide) ?_
        cases h
        exact hret _ _ _ _ hP hD hS dX6_row_14
  exact key _ (fun H locs pc ls hP hD hS hd => W.iret hx hb hr (fun t ht hW => ⟨⟨_, (), rfl, rfl, by show _ ∧ _; rw [ht]; exact ⟨hP, hD⟩⟩, hS.F ht⟩) hS.2.2 hd)
set_option maxHeartbeats 4000000 in
set_option maxRecDepth 100000 in
theorem kX6_lay (l : Launch) (D : va_G) (T : Nat → ClassId) (F : Nat) (am : Nat → Nat) (mguests : Int32) (mclause : Int32) (mdeeds : Int32) (masked : Int32) (mupper : Int64) (mlower : Int64) (mfinding : Int32) (mreadGuests : Int32) (misSight : Int32) (mat : Int32) (mrowSizes : Nat → Int32) (mrows : Nat → Int32) (mtextSizes : Nat → Int32) (mtexts : Nat → Int32) (mdoes : Nat → Int32) (mkinds : Nat → Int32) (msees : Nat → Int32) (mnow : Nat → Int32) (mbefore : Nat → Int32) (mkeeps : Nat → Int32) (mkept : Nat → Int32) (mfindings : Nat → Int32) (mread : Nat → Int32) (maside : Nat → Int32) (msteps : Nat → Int32) (mtried : Nat → Int32) (mbest : Nat → Int32) (x1 : Int32) (x2 : Int32) (x3 : Int32) (r : Int32) (zmasked : Int32) (zmfinding : Int32) (zmrows : Nat → Int32) (zmfindings : Nat → Int32) (h : fX6_lay F masked mfinding mrowSizes mrows mfindings x1 x2 x3 = some (r, zmasked, zmfinding, zmrows, zmfindings)) : ∀ sz : Nat, Met l yX6_lay wsX6_lay ({ frames := 2, cells := 0, slots := 0, locals := 45 } : Room) (va_Pc [.ref (am 0), .int x1, .int x2, .int x3] (fun U => U.heap.size = sz ∧ va_P D vwCl (wMo T am mguests mclause mdeeds masked mupper mlower mfinding mreadGuests misSight mat mrowSizes mrows mtextSizes mtexts mdoes mkinds msees mnow mbefore mkeeps mkept mfindings mread maside msteps mtried mbest) U.heap ∧ KK D T U ∧ va_D (fun _ => True) (wMo T am mguests mclause mdeeds masked mupper mlower mfinding mreadGuests misSight mat mrowSizes mrows mtextSizes mtexts mdoes mkinds msees mnow mbefore mkeeps mkept mfindings mread maside msteps mtried mbest))) (va_Qi (fun r' (_ : Unit) => r' = r) (fun _ t => va_P D vwCl (wMo T am mguests mclause mdeeds zmasked mupper mlower zmfinding mreadGuests misSight mat mrowSizes zmrows mtextSizes mtexts mdoes mkinds msees mnow mbefore mkeeps mkept zmfindings mread maside msteps mtried mbest) t.heap ∧ va_D (va_A (wMo T am mguests mclause mdeeds masked mupper mlower mfinding mreadGuests misSight mat mrowSizes mrows mtextSizes mtexts mdoes mkinds msees mnow mbefore mkeeps mkept mfindings mread maside msteps mtried mbest) sz) (wMo T am mguests mclause mdeeds zmasked mupper mlower zmfinding mreadGuests misSight mat mrowSizes zmrows mtextSizes mtexts mdoes mkinds msees mnow mbefore mkeeps mkept zmfindings mread maside msteps mtried mbest)) (va_A (wMo T am mguests mclause mdeeds masked mupper mlower mfinding mreadGuests misSight mat mrowSizes mrows mtextSizes mtexts mdoes mkinds msees mnow mbefore mkeeps mkept mfindings mread maside msteps mtried mbest) sz)) 0 0 (va_A (wMo T am mguests mclause mdeeds masked mupper mlower mfinding mreadGuests misSight mat mrowSizes mrows mtextSizes mtexts mdoes mkinds msees mnow mbefore mkeeps mkept mfindings mread maside msteps mtried mbest) sz) := by
  intro sz
  refine Met.ofW (cc := cX6_lay) (maxL := 5) (ret := some .int) (by decide) rfl ?_
  intro p e s m args below meth c s₁ B hml hv
  obtain ⟨ha, hsz, hP, hKK, hD0⟩ := hv
  have hx := B.exec
  have hb := B.bytes
  have hr := B.returns
  have hts := atoms_spec (ws := wsX6_lay) B.pre
  have hown : s.vm.findClass RX6 = some m.cls := findClass_of_methodNamed B.named
  have hlocks := B.notSynchronized
  have hK := hKK.1
  have hFix : CallFix p m c cX6_lay 5 s args wsX6_lay RX6 := ⟨hx, hb, hml, hown, hts⟩
  have q1 := hts _ (List.mem_of_getElem? (i := 1) (show wsX6_lay[1]? = some (Cond.fieldLink RX6 7 "PartyWillModel" "rowSizes" "[I") from rfl))
  have q2 := hts _ (List.mem_of_getElem? (i := 2) (show wsX6_lay[2]? = some (Cond.fieldLink RX6 13 "PartyWillModel" "rows" "[I") from rfl))
  have iX6 : ∀ w ∈ u_ws RX6 TX6 27, w ∈ wsX6_lay := fun w h => List.mem_cons_of_mem _ (List.mem_append_right _ (h))
  subst hsz
  have hD := hD0.self (sz := s.heap.size)
  generalize hAe : va_A (wMo T am mguests mclause mdeeds masked mupper mlower mfinding mreadGuests misSight mat mrowSizes mrows mtextSizes mtexts mdoes mkinds msees mnow mbefore mkeeps mkept mfindings mread maside msteps mtried mbest) s.heap.size = A at hD ⊢
  have hA : ∀ q : Nat, s.heap.size ≤ q → A q := fun q h => by rw [← hAe]; exact Or.inr h
  have hS : va_S A s.heap s.heap [] := va_S.rf
  have hP : va_P D vwCl (wMo T am mguests mclause mdeeds masked mupper mlower mfinding mreadGuests misSight mat mrowSizes mrows mtextSizes mtexts mdoes mkinds msees mnow mbefore mkeeps mkept mfindings mread maside msteps mtried mbest) s.heap := hP
  obtain ⟨ls, hl, e0⟩ := my_entry (m := m) (n := 5) ha (Nat.le_of_ble_eq_true rfl)
  rw [e0]
  have hl : lv_has ls 5 [(0, .ref (am 0)), (1, .int x1), (2, .int x2), (3, .int x3)] := hl
  have key : ∀ Q : State → Prop, (∀ (H : Heap) (locs : List Loc) (pc : Nat) (ls : Array Slot), va_P D vwCl (wMo T am mguests mclause mdeeds zmasked mupper mlower zmfinding mreadGuests misSight mat mrowSizes zmrows mtextSizes mtexts mdoes mkinds msees mnow mbefore mkeeps mkept zmfindings mread maside msteps mtried mbest) H → va_D A (wMo T am mguests mclause mdeeds zmasked mupper mlower zmfinding mreadGuests misSight mat mrowSizes zmrows mtextSizes mtexts mdoes mkinds msees mnow mbefore mkeeps mkept zmfindings mread maside msteps mtried mbest) → va_S A s.heap H locs → decode cX6_lay pc = .ok (.ireturn, 1) → W p l e ({ frames := 2, cells := 0, slots := 0, locals := 45 } : Room) s m args below meth c H locs 0 0 Q (F0 m pc ls [.int r])) → W p l e ({ frames := 2, cells := 0, slots := 0, locals := 45 } : Room) s m args below meth c s.heap [] 0 0 Q (F0 m 0 ls []) := by
    intro Q hret
    skip
    unfold fX6_lay at h
    refine lv_iload_n hx hb dX6_lay_0 rfl (lv_at hl 1 rfl) ?_
    obtain ⟨r1, hc, h⟩ := bd1_some h
    refine my_roz (va_Run.run (va_runS (As := [.int x1]) (rest := []) hFix (kX6_isRow l D T F x1 r1 hc) (va_cwS 1 hts gX6_lay_X6_isRow rfl rfl rfl hd_X6_isRow ⟨Nat.le_of_ble_eq_true rfl, Nat.le_of_ble_eq_true rfl⟩) (preS_ro va_nil hKK) rfl rfl hl.1 rfl (lv_room (Nat.le_of_ble_eq_true rfl)) dX6_lay_1 ⟨Nat.zero_le _, Nat.zero_le _⟩)) (fun hb1 => ?_)
    refine lv_if_ne (tgt := 9) hx hb dX6_lay_4 (by decide) (fun c4 => ?_) (fun c4 => ?_)
    · have h := br_0 h c4
      refine lv_aload_n hx hb dX6_lay_9 rfl (lv_at hl 0 rfl) ?_
      refine va_get (D := D) (ci := 4) (C := RX6) (T := TX6) (N := 27) hx hb hts iX6 hown hK hP 0 wMo_0 rfl 0 (by decide) q1 (fun _ h9 => h9) rfl dX6_lay_10 ?_
      refine lv_iload_n hx hb dX6_lay_13 rfl (lv_at hl 1 rfl) ?_
      obtain ⟨hin1, h⟩ := ck_some h
      refine va_iald hx hb hK hP 1 0 wMo_1 rfl hin1 dX6_lay_14 ?_
      refine lv_if_ge (tgt := 24) hx hb dX6_lay_15 (by decide) (fun c15 => ?_) (fun c15 => ?_)
      · have h := br_1 h c15
        refine lv_iload_n hx hb dX6_lay_24 rfl (lv_at hl 2 rfl) ?_
        refine lv_i2l (v := (x2.toInt64)) hx hb dX6_lay_25 rfl ?_
        refine lv_lconst (v := (0 : Int64)) hx hb dX6_lay_26 (by decide) ?_
        refine lv_aload_n hx hb dX6_lay_27 rfl (lv_at hl 0 rfl) ?_
        refine va_get (D := D) (ci := 4) (C := RX6) (T := TX6) (N := 27) hx hb hts iX6 hown hK hP 0 wMo_0 rfl 0 (by decide) q1 (fun _ h9 => h9) rfl dX6_lay_28 ?_
        refine lv_iload_n hx hb dX6_lay_31 rfl (lv_at hl 1 rfl) ?_
        obtain ⟨hin2, h⟩ := ck_some h
        refine va_iald hx hb hK hP 1 0 wMo_1 rfl hin2 dX6_lay_32 ?_
        refine lv_iconst (v := (1 : Int32)) hx hb dX6_lay_33 (by decide) ?_
        refine lv_isub hx hb dX6_lay_34 ?_
        refine lv_i2l (v := (((mrowSizes x1.toNatClampNeg) - (1 : Int32)).toInt64)) hx hb dX6_lay_35 rfl ?_
        obtain ⟨r36, hc, h⟩ := bd1_some h
        refine my_roz (va_Run.run (va_runS (As := [.long (x2.toInt64), .long (0 : Int64), .long (((mrowSizes x1.toNatClampNeg) - (1 : Int32)).toInt64)]) (rest := []) hFix (kX6_in l D T F (x2.toInt64) (0 : Int64) (((mrowSizes x1.toNatClampNeg) - (1 : Int32)).toInt64) r36 hc) (va_cwS 3 hts gX6_lay_X6_in rfl rfl rfl hd_X6_in ⟨Nat.le_of_ble_eq_true rfl, Nat.le_of_ble_eq_true rfl⟩) (preS_ro va_nil hKK) rfl rfl hl.1 rfl (lv_room (Nat.le_of_ble_eq_true rfl)) dX6_lay_36 ⟨Nat.zero_le _, Nat.zero_le _⟩)) (fun hb36 => ?_)
        refine lv_if_ne (tgt := 48) hx hb dX6_lay_39 (by decide) (fun c39 => ?_) (fun c39 => ?_)
        · have h := br_0 h c39
          refine lv_aload_n hx hb dX6_lay_48 rfl (lv_at hl 0 rfl) ?_
          refine va_get (D := D) (ci := 4) (C := RX6) (T := TX6) (N := 27) hx hb hts iX6 hown hK hP 0 wMo_0 rfl 1 (by decide) q2 (fun _ h9 => h9) rfl dX6_lay_49 ?_
          refine lv_bipush (v := (40 : Int32)) hx hb dX6_lay_52 (by decide) ?_
          refine lv_iload_n hx hb dX6_lay_54 rfl (lv_at hl 1 rfl) ?_
          refine lv_imul hx hb dX6_lay_55 ?_
          refine lv_iload_n hx hb dX6_lay_56 rfl (lv_at hl 2 rfl) ?_
          refine lv_iadd hx hb dX6_lay_57 ?_
          obtain ⟨hin3, h⟩ := ck_some h
          refine va_iald hx hb hK hP 2 0 wMo_2 rfl hin3 dX6_lay_58 ?_
          refine lv_istore (lv' := [(4, .int (mrows (((40 : Int32) * x1) + x2).toNatClampNeg)), (0, .ref (am 0)), (1, .int x1), (2, .int x2), (3, .int x3)]) hx hb dX6_lay_59 hl (by decide) rfl (fun ls hl => ?_)
          refine lv_aload_n hx hb dX6_lay_61 rfl (lv_at hl 1 rfl) ?_
          refine va_get (D := D) (ci := 4) (C := RX6) (T := TX6) (N := 27) hx hb hts iX6 hown hK hP 0 wMo_0 rfl 1 (by decide) q2 (fun _ h9 => h9) rfl dX6_lay_62 ?_
          refine lv_bipush (v := (40 : Int32)) hx hb dX6_lay_65 (by decide) ?_
          refine lv_iload_n hx hb dX6_lay_67 rfl (lv_at hl 2 rfl) ?_
          refine lv_imul hx hb dX6_lay_68 ?_
          refine lv_iload_n hx hb dX6_lay_69 rfl (lv_at hl 3 rfl) ?_
          refine lv_iadd hx hb dX6_lay_70 ?_
          refine lv_iload_n hx hb dX6_lay_71 rfl (lv_at hl 4 rfl) ?_
          obtain ⟨hin4, h⟩ := ck_some h
          refine va_iast hx hb hK hP hD hS 2 0 wMo_2 rfl hin4 dX6_lay_72 (fun H locs hP hD hS => ?_)
          have hP : va_P D vwCl (wMo T am mguests mclause mdeeds masked mupper mlower mfinding mreadGuests misSight mat mrowSizes (upd mrows (((40 : Int32) * x1) + x2).toNatClampNeg x3) mtextSizes mtexts mdoes mkinds msees mnow mbefore mkeeps mkept mfindings mread maside msteps mtried mbest) H := hP
          have hD : va_D A (wMo T am mguests mclause mdeeds masked mupper mlower mfinding mreadGuests misSight mat mrowSizes (upd mrows (((40 : Int32) * x1) + x2).toNatClampNeg x3) mtextSizes mtexts mdoes mkinds msees mnow mbefore mkeeps mkept mfindings mread maside msteps mtried mbest) := hD
          refine lv_aload_n hx hb dX6_lay_73 rfl (lv_at hl 1 rfl) ?_
          refine lv_iload hx hb dX6_lay_74 (lv_at hl 0 rfl) ?_
          obtain ⟨r76, w76_masked, hc, h⟩ := bd2_some h
          have hFc := my_freeS hD hS hA
          refine my_rwi (va_runV (As := [.int (mrows (((40 : Int32) * x1) + x2).toNatClampNeg)]) (rest := []) hFix (kX6_tell l D T F am mguests mclause mdeeds masked mupper mlower mfinding mreadGuests misSight mat mrowSizes (upd mrows (((40 : Int32) * x1) + x2).toNatClampNeg x3) mtextSizes mtexts mdoes mkinds msees mnow mbefore mkeeps mkept mfindings mread maside msteps mtried mbest (mrows (((40 : Int32) * x1) + x2).toNatClampNeg) r76 w76_masked hc) (cwV 1 hts gX6_lay_X6_tell rfl rfl rfl ⟨rfl, hd_X6_tell⟩ ⟨Nat.le_of_ble_eq_true rfl, Nat.le_of_ble_eq_true rfl⟩) (preV_rw hP hKK hD (va_recv hK hP (ci := 4) (q0 := 0) rfl wMo_0)) rfl rfl hl.1 rfl (lv_room (Nat.le_of_ble_eq_true rfl)) dX6_lay_76 ⟨Nat.zero_le _, Nat.zero_le _⟩) hS hFc (fun H1 locs hP1 hD1 hz1 hk1 hS => ?_)
          have hP : va_P D vwCl (wMo T am mguests mclause mdeeds w76_masked mupper mlower mfinding mreadGuests misSight mat mrowSizes (upd mrows (((40 : Int32) * x1) + x2).toNatClampNeg x3) mtextSizes mtexts mdoes mkinds msees mnow mbefore mkeeps mkept mfindings mread maside msteps mtried mbest) H1 := hP1
          have hD : va_D A (wMo T am mguests mclause mdeeds w76_masked mupper mlower mfinding mreadGuests misSight mat mrowSizes (upd mrows (((40 : Int32) * x1) + x2).toNatClampNeg x3) mtextSizes mtexts mdoes mkinds msees mnow mbefore mkeeps mkept mfindings mread maside msteps mtried mbest) := hD1.weaken (fun _ q _ h => hFc q.1 h)
          generalize H1 = H at hP hS ⊢
          cases h
          exact hret _ _ _ _ hP hD hS dX6_lay_79
        · have h := br_1 h c39
          refine lv_aload_n hx hb dX6_lay_42 rfl (lv_at hl 0 rfl) ?_
          refine lv_iconst (v := (2 : Int32)) hx hb dX6_lay_43 (by decide) ?_
          obtain ⟨r44, w44_mfinding, w44_mfindings, hc, h⟩ := bd3_some h
          have hFc := my_freeS hD hS hA
          refine my_rwi (va_runV (As := [.int (2 : Int32)]) (rest := []) hFix (kX6_found l D T F am mguests mclause mdeeds masked mupper mlower mfinding mreadGuests misSight mat mrowSizes mrows mtextSizes mtexts mdoes mkinds msees mnow mbefore mkeeps mkept mfindings mread maside msteps mtried mbest (2 : Int32) r44 w44_mfinding w44_mfindings hc) (cwV 1 hts gX6_lay_X6_found rfl rfl rfl ⟨rfl, hd_X6_found⟩ ⟨Nat.le_of_ble_eq_true rfl, Nat.le_of_ble_eq_true rfl⟩) (preV_rw hP hKK hD (va_recv hK hP (ci := 4) (q0 := 0) rfl wMo_0)) rfl rfl hl.1 rfl (lv_room (Nat.le_of_ble_eq_true rfl)) dX6_lay_44 ⟨Nat.zero_le _, Nat.zero_le _⟩) hS hFc (fun H1 locs hP1 hD1 hz1 hk1 hS => ?_)
          have hP : va_P D vwCl (wMo T am mguests mclause mdeeds masked mupper mlower w44_mfinding mreadGuests misSight mat mrowSizes mrows mtextSizes mtexts mdoes mkinds msees mnow mbefore mkeeps mkept w44_mfindings mread maside msteps mtried mbest) H1 := hP1
          have hD : va_D A (wMo T am mguests mclause mdeeds masked mupper mlower w44_mfinding mreadGuests misSight mat mrowSizes mrows mtextSizes mtexts mdoes mkinds msees mnow mbefore mkeeps mkept w44_mfindings mread maside msteps mtried mbest) := hD1.weaken (fun _ q _ h => hFc q.1 h)
          generalize H1 = H at hP hS ⊢
          cases h
          exact hret _ _ _ _ hP hD hS dX6_lay_47
      · have h := br_0 h c15
        refine lv_aload_n hx hb dX6_lay_18 rfl (lv_at hl 0 rfl) ?_
        refine lv_iconst (v := (1 : Int32)) hx hb dX6_lay_19 (by decide) ?_
        obtain ⟨r20, w20_mfinding, w20_mfindings, hc, h⟩ := bd3_some h
        have hFc := my_freeS hD hS hA
        refine my_rwi (va_runV (As := [.int (1 : Int32)]) (rest := []) hFix (kX6_found l D T F am mguests mclause mdeeds masked mupper mlower mfinding mreadGuests misSight mat mrowSizes mrows mtextSizes mtexts mdoes mkinds msees mnow mbefore mkeeps mkept mfindings mread maside msteps mtried mbest (1 : Int32) r20 w20_mfinding w20_mfindings hc) (cwV 1 hts gX6_lay_X6_found rfl rfl rfl ⟨rfl, hd_X6_found⟩ ⟨Nat.le_of_ble_eq_true rfl, Nat.le_of_ble_eq_true rfl⟩) (preV_rw hP hKK hD (va_recv hK hP (ci := 4) (q0 := 0) rfl wMo_0)) rfl rfl hl.1 rfl (lv_room (Nat.le_of_ble_eq_true rfl)) dX6_lay_20 ⟨Nat.zero_le _, Nat.zero_le _⟩) hS hFc (fun H1 locs hP1 hD1 hz1 hk1 hS => ?_)
        have hP : va_P D vwCl (wMo T am mguests mclause mdeeds masked mupper mlower w20_mfinding mreadGuests misSight mat mrowSizes mrows mtextSizes mtexts mdoes mkinds msees mnow mbefore mkeeps mkept w20_mfindings mread maside msteps mtried mbest) H1 := hP1
        have hD : va_D A (wMo T am mguests mclause mdeeds masked mupper mlower w20_mfinding mreadGuests misSight mat mrowSizes mrows mtextSizes mtexts mdoes mkinds msees mnow mbefore mkeeps mkept w20_mfindings mread maside msteps mtried mbest) := hD1.weaken (fun _ q _ h => hFc q.1 h)
        generalize H1 = H at hP hS ⊢
        cases h
        exact hret _ _ _ _ hP hD hS dX6_lay_23
    · have h := br_1 h c4
      refine lv_iconst (v := (-1 : Int32)) hx hb dX6_lay_7 (by decide) ?_
      cases h
      exact hret _ _ _ _ hP hD hS dX6_lay_8
  exact key _ (fun H locs pc ls hP hD hS hd => W.iret hx hb hr (fun t ht hW => ⟨⟨_, (), rfl, rfl, by show _ ∧ _; rw [ht]; exact ⟨hP, hD⟩⟩, hS.F ht⟩) hS.2.2 hd)
set_option maxHeartbeats 4000000 in
set_option maxRecDepth 100000 in
theorem kX6_at (l : Launch) (D : va_G) (T : Nat → ClassId) (F : Nat) (am : Nat → Nat) (mguests : Int32) (mclause : Int32) (mdeeds : Int32) (masked : Int32) (mupper : Int64) (mlower : Int64) (mfinding : Int32) (mreadGuests : Int32) (misSight : Int32) (mat : Int32) (mrowSizes : Nat → Int32) (mrows : Nat → Int32) (mtextSizes : Nat → Int32) (mtexts : Nat → Int32) (mdoes : Nat → Int32) (mkinds : Nat → Int32) (msees : Nat → Int32) (mnow : Nat → Int32) (mbefore : Nat → Int32) (mkeeps : Nat → Int32) (mkept : Nat → Int32) (mfindings : Nat → Int32) (mread : Nat → Int32) (maside : Nat → Int32) (msteps : Nat → Int32) (mtried : Nat → Int32) (mbest : Nat → Int32) (x1 : Int32) (x2 : Int32) (r : Int32) (zmasked : Int32) (zmfinding : Int32) (zmfindings : Nat → Int32) (h : fX6_at F masked mfinding mrowSizes mrows mfindings x1 x2 = some (r, zmasked, zmfinding, zmfindings)) : ∀ sz : Nat, Met l yX6_at wsX6_at ({ frames := 2, cells := 0, slots := 0, locals := 45 } : Room) (va_Pc [.ref (am 0), .int x1, .int x2] (fun U => U.heap.size = sz ∧ va_P D vwCl (wMo T am mguests mclause mdeeds masked mupper mlower mfinding mreadGuests misSight mat mrowSizes mrows mtextSizes mtexts mdoes mkinds msees mnow mbefore mkeeps mkept mfindings mread maside msteps mtried mbest) U.heap ∧ KK D T U ∧ va_D (fun _ => True) (wMo T am mguests mclause mdeeds masked mupper mlower mfinding mreadGuests misSight mat mrowSizes mrows mtextSizes mtexts mdoes mkinds msees mnow mbefore mkeeps mkept mfindings mread maside msteps mtried mbest))) (va_Qi (fun r' (_ : Unit) => r' = r) (fun _ t => va_P D vwCl (wMo T am mguests mclause mdeeds zmasked mupper mlower zmfinding mreadGuests misSight mat mrowSizes mrows mtextSizes mtexts mdoes mkinds msees mnow mbefore mkeeps mkept zmfindings mread maside msteps mtried mbest) t.heap ∧ va_D (va_A (wMo T am mguests mclause mdeeds masked mupper mlower mfinding mreadGuests misSight mat mrowSizes mrows mtextSizes mtexts mdoes mkinds msees mnow mbefore mkeeps mkept mfindings mread maside msteps mtried mbest) sz) (wMo T am mguests mclause mdeeds zmasked mupper mlower zmfinding mreadGuests misSight mat mrowSizes mrows mtextSizes mtexts mdoes mkinds msees mnow mbefore mkeeps mkept zmfindings mread maside msteps mtried mbest)) (va_A (wMo T am mguests mclause mdeeds masked mupper mlower mfinding mreadGuests misSight mat mrowSizes mrows mtextSizes mtexts mdoes mkinds msees mnow mbefore mkeeps mkept mfindings mread maside msteps mtried mbest) sz)) 0 0 (va_A (wMo T am mguests mclause mdeeds masked mupper mlower mfinding mreadGuests misSight mat mrowSizes mrows mtextSizes mtexts mdoes mkinds msees mnow mbefore mkeeps mkept mfindings mread maside msteps mtried mbest) sz) := by
  intro sz
  refine Met.ofW (cc := cX6_at) (maxL := 3) (ret := some .int) (by decide) rfl ?_
  intro p e s m args below meth c s₁ B hml hv
  obtain ⟨ha, hsz, hP, hKK, hD0⟩ := hv
  have hx := B.exec
  have hb := B.bytes
  have hr := B.returns
  have hts := atoms_spec (ws := wsX6_at) B.pre
  have hown : s.vm.findClass RX6 = some m.cls := findClass_of_methodNamed B.named
  have hlocks := B.notSynchronized
  have hK := hKK.1
  have hFix : CallFix p m c cX6_at 3 s args wsX6_at RX6 := ⟨hx, hb, hml, hown, hts⟩
  have q1 := hts _ (List.mem_of_getElem? (i := 1) (show wsX6_at[1]? = some (Cond.fieldLink RX6 7 "PartyWillModel" "rowSizes" "[I") from rfl))
  have q2 := hts _ (List.mem_of_getElem? (i := 2) (show wsX6_at[2]? = some (Cond.fieldLink RX6 13 "PartyWillModel" "rows" "[I") from rfl))
  have iX6 : ∀ w ∈ u_ws RX6 TX6 27, w ∈ wsX6_at := fun w h => List.mem_cons_of_mem _ (List.mem_append_right _ (h))
  subst hsz
  have hD := hD0.self (sz := s.heap.size)
  generalize hAe : va_A (wMo T am mguests mclause mdeeds masked mupper mlower mfinding mreadGuests misSight mat mrowSizes mrows mtextSizes mtexts mdoes mkinds msees mnow mbefore mkeeps mkept mfindings mread maside msteps mtried mbest) s.heap.size = A at hD ⊢
  have hA : ∀ q : Nat, s.heap.size ≤ q → A q := fun q h => by rw [← hAe]; exact Or.inr h
  have hS : va_S A s.heap s.heap [] := va_S.rf
  have hP : va_P D vwCl (wMo T am mguests mclause mdeeds masked mupper mlower mfinding mreadGuests misSight mat mrowSizes mrows mtextSizes mtexts mdoes mkinds msees mnow mbefore mkeeps mkept mfindings mread maside msteps mtried mbest) s.heap := hP
  obtain ⟨ls, hl, e0⟩ := my_entry (m := m) (n := 3) ha (Nat.le_of_ble_eq_true rfl)
  rw [e0]
  have hl : lv_has ls 3 [(0, .ref (am 0)), (1, .int x1), (2, .int x2)] := hl
  have key : ∀ Q : State → Prop, (∀ (H : Heap) (locs : List Loc) (pc : Nat) (ls : Array Slot), va_P D vwCl (wMo T am mguests mclause mdeeds zmasked mupper mlower zmfinding mreadGuests misSight mat mrowSizes mrows mtextSizes mtexts mdoes mkinds msees mnow mbefore mkeeps mkept zmfindings mread maside msteps mtried mbest) H → va_D A (wMo T am mguests mclause mdeeds zmasked mupper mlower zmfinding mreadGuests misSight mat mrowSizes mrows mtextSizes mtexts mdoes mkinds msees mnow mbefore mkeeps mkept zmfindings mread maside msteps mtried mbest) → va_S A s.heap H locs → decode cX6_at pc = .ok (.ireturn, 1) → W p l e ({ frames := 2, cells := 0, slots := 0, locals := 45 } : Room) s m args below meth c H locs 0 0 Q (F0 m pc ls [.int r])) → W p l e ({ frames := 2, cells := 0, slots := 0, locals := 45 } : Room) s m args below meth c s.heap [] 0 0 Q (F0 m 0 ls []) := by
    intro Q hret
    skip
    unfold fX6_at at h
    refine lv_iload_n hx hb dX6_at_0 rfl (lv_at hl 1 rfl) ?_
    obtain ⟨r1, hc, h⟩ := bd1_some h
    refine my_roz (va_Run.run (va_runS (As := [.int x1]) (rest := []) hFix (kX6_isRow l D T F x1 r1 hc) (va_cwS 1 hts gX6_at_X6_isRow rfl rfl rfl hd_X6_isRow ⟨Nat.le_of_ble_eq_true rfl, Nat.le_of_ble_eq_true rfl⟩) (preS_ro va_nil hKK) rfl rfl hl.1 rfl (lv_room (Nat.le_of_ble_eq_true rfl)) dX6_at_1 ⟨Nat.zero_le _, Nat.zero_le _⟩)) (fun hb1 => ?_)
    refine lv_if_ne (tgt := 9) hx hb dX6_at_4 (by decide) (fun c4 => ?_) (fun c4 => ?_)
    · have h := br_0 h c4
      refine lv_aload_n hx hb dX6_at_9 rfl (lv_at hl 0 rfl) ?_
      refine va_get (D := D) (ci := 4) (C := RX6) (T := TX6) (N := 27) hx hb hts iX6 hown hK hP 0 wMo_0 rfl 0 (by decide) q1 (fun _ h9 => h9) rfl dX6_at_10 ?_
      refine lv_iload_n hx hb dX6_at_13 rfl (lv_at hl 1 rfl) ?_
      obtain ⟨hin1, h⟩ := ck_some h
      refine va_iald hx hb hK hP 1 0 wMo_1 rfl hin1 dX6_at_14 ?_
      refine lv_if_ge (tgt := 24) hx hb dX6_at_15 (by decide) (fun c15 => ?_) (fun c15 => ?_)
      · have h := br_1 h c15
        refine lv_iload_n hx hb dX6_at_24 rfl (lv_at hl 2 rfl) ?_
        refine lv_i2l (v := (x2.toInt64)) hx hb dX6_at_25 rfl ?_
        refine lv_lconst (v := (0 : Int64)) hx hb dX6_at_26 (by decide) ?_
        refine lv_aload_n hx hb dX6_at_27 rfl (lv_at hl 0 rfl) ?_
        refine va_get (D := D) (ci := 4) (C := RX6) (T := TX6) (N := 27) hx hb hts iX6 hown hK hP 0 wMo_0 rfl 0 (by decide) q1 (fun _ h9 => h9) rfl dX6_at_28 ?_
        refine lv_iload_n hx hb dX6_at_31 rfl (lv_at hl 1 rfl) ?_
        obtain ⟨hin2, h⟩ := ck_some h
        refine va_iald hx hb hK hP 1 0 wMo_1 rfl hin2 dX6_at_32 ?_
        refine lv_iconst (v := (1 : Int32)) hx hb dX6_at_33 (by decide) ?_
        refine lv_isub hx hb dX6_at_34 ?_
        refine lv_i2l (v := (((mrowSizes x1.toNatClampNeg) - (1 : Int32)).toInt64)) hx hb dX6_at_35 rfl ?_
        obtain ⟨r36, hc, h⟩ := bd1_some h
        refine my_roz (va_Run.run (va_runS (As := [.long (x2.toInt64), .long (0 : Int64), .long (((mrowSizes x1.toNatClampNeg) - (1 : Int32)).toInt64)]) (rest := []) hFix (kX6_in l D T F (x2.toInt64) (0 : Int64) (((mrowSizes x1.toNatClampNeg) - (1 : Int32)).toInt64) r36 hc) (va_cwS 3 hts gX6_at_X6_in rfl rfl rfl hd_X6_in ⟨Nat.le_of_ble_eq_true rfl, Nat.le_of_ble_eq_true rfl⟩) (preS_ro va_nil hKK) rfl rfl hl.1 rfl (lv_room (Nat.le_of_ble_eq_true rfl)) dX6_at_36 ⟨Nat.zero_le _, Nat.zero_le _⟩)) (fun hb36 => ?_)
        refine lv_if_eq (tgt := 60) hx hb dX6_at_39 (by decide) (fun c39 => ?_) (fun c39 => ?_)
        · have h := br_1 h c39
          refine lv_aload_n hx hb dX6_at_60 rfl (lv_at hl 0 rfl) ?_
          refine lv_iconst (v := (2 : Int32)) hx hb dX6_at_61 (by decide) ?_
          obtain ⟨r62, w62_mfinding, w62_mfindings, hc, h⟩ := bd3_some h
          have hFc := my_freeS hD hS hA
          refine my_rwi (va_runV (As := [.int (2 : Int32)]) (rest := []) hFix (kX6_found l D T F am mguests mclause mdeeds masked mupper mlower mfinding mreadGuests misSight mat mrowSizes mrows mtextSizes mtexts mdoes mkinds msees mnow mbefore mkeeps mkept mfindings mread maside msteps mtried mbest (2 : Int32) r62 w62_mfinding w62_mfindings hc) (cwV 1 hts gX6_at_X6_found rfl rfl rfl ⟨rfl, hd_X6_found⟩ ⟨Nat.le_of_ble_eq_true rfl, Nat.le_of_ble_eq_true rfl⟩) (preV_rw hP hKK hD (va_recv hK hP (ci := 4) (q0 := 0) rfl wMo_0)) rfl rfl hl.1 rfl (lv_room (Nat.le_of_ble_eq_true rfl)) dX6_at_62 ⟨Nat.zero_le _, Nat.zero_le _⟩) hS hFc (fun H1 locs hP1 hD1 hz1 hk1 hS => ?_)
          have hP : va_P D vwCl (wMo T am mguests mclause mdeeds masked mupper mlower w62_mfinding mreadGuests misSight mat mrowSizes mrows mtextSizes mtexts mdoes mkinds msees mnow mbefore mkeeps mkept w62_mfindings mread maside msteps mtried mbest) H1 := hP1
          have hD : va_D A (wMo T am mguests mclause mdeeds masked mupper mlower w62_mfinding mreadGuests misSight mat mrowSizes mrows mtextSizes mtexts mdoes mkinds msees mnow mbefore mkeeps mkept w62_mfindings mread maside msteps mtried mbest) := hD1.weaken (fun _ q _ h => hFc q.1 h)
          generalize H1 = H at hP hS ⊢
          cases h
          exact hret _ _ _ _ hP hD hS dX6_at_65
        · have h := br_0 h c39
          refine lv_aload_n hx hb dX6_at_42 rfl (lv_at hl 0 rfl) ?_
          refine lv_aload_n hx hb dX6_at_43 rfl (lv_at hl 0 rfl) ?_
          refine va_get (D := D) (ci := 4) (C := RX6) (T := TX6) (N := 27) hx hb hts iX6 hown hK hP 0 wMo_0 rfl 1 (by decide) q2 (fun _ h9 => h9) rfl dX6_at_44 ?_
          refine lv_bipush (v := (40 : Int32)) hx hb dX6_at_47 (by decide) ?_
          refine lv_iload_n hx hb dX6_at_49 rfl (lv_at hl 1 rfl) ?_
          refine lv_imul hx hb dX6_at_50 ?_
          refine lv_iload_n hx hb dX6_at_51 rfl (lv_at hl 2 rfl) ?_
          refine lv_iadd hx hb dX6_at_52 ?_
          obtain ⟨hin3, h⟩ := ck_some h
          refine va_iald hx hb hK hP 2 0 wMo_2 rfl hin3 dX6_at_53 ?_
          obtain ⟨r54, w54_masked, hc, h⟩ := bd2_some h
          have hFc := my_freeS hD hS hA
          refine my_rwi (va_runV (As := [.int (mrows (((40 : Int32) * x1) + x2).toNatClampNeg)]) (rest := []) hFix (kX6_tell l D T F am mguests mclause mdeeds masked mupper mlower mfinding mreadGuests misSight mat mrowSizes mrows mtextSizes mtexts mdoes mkinds msees mnow mbefore mkeeps mkept mfindings mread maside msteps mtried mbest (mrows (((40 : Int32) * x1) + x2).toNatClampNeg) r54 w54_masked hc) (cwV 1 hts gX6_at_X6_tell rfl rfl rfl ⟨rfl, hd_X6_tell⟩ ⟨Nat.le_of_ble_eq_true rfl, Nat.le_of_ble_eq_true rfl⟩) (preV_rw hP hKK hD (va_recv hK hP (ci := 4) (q0 := 0) rfl wMo_0)) rfl rfl hl.1 rfl (lv_room (Nat.le_of_ble_eq_true rfl)) dX6_at_54 ⟨Nat.zero_le _, Nat.zero_le _⟩) hS hFc (fun H1 locs hP1 hD1 hz1 hk1 hS => ?_)
          have hP : va_P D vwCl (wMo T am mguests mclause mdeeds w54_masked mupper mlower mfinding mreadGuests misSight mat mrowSizes mrows mtextSizes mtexts mdoes mkinds msees mnow mbefore mkeeps mkept mfindings mread maside msteps mtried mbest) H1 := hP1
          have hD : va_D A (wMo T am mguests mclause mdeeds w54_masked mupper mlower mfinding mreadGuests misSight mat mrowSizes mrows mtextSizes mtexts mdoes mkinds msees mnow mbefore mkeeps mkept mfindings mread maside msteps mtried mbest) := hD1.weaken (fun _ q _ h => hFc q.1 h)
          generalize H1 = H at hP hS ⊢
          refine lv_goto (tgt := 65) hx hb dX6_at_57 (by decide) ?_
          cases h
          exact hret _ _ _ _ hP hD hS dX6_at_65
      · have h := br_0 h c15
        refine lv_aload_n hx hb dX6_at_18 rfl (lv_at hl 0 rfl) ?_
        refine lv_iconst (v := (1 : Int32)) hx hb dX6_at_19 (by decide) ?_
        obtain ⟨r20, w20_mfinding, w20_mfindings, hc, h⟩ := bd3_some h
        have hFc := my_freeS hD hS hA
        refine my_rwi (va_runV (As := [.int (1 : Int32)]) (rest := []) hFix (kX6_found l D T F am mguests mclause mdeeds masked mupper mlower mfinding mreadGuests misSight mat mrowSizes mrows mtextSizes mtexts mdoes mkinds msees mnow mbefore mkeeps mkept mfindings mread maside msteps mtried mbest (1 : Int32) r20 w20_mfinding w20_mfindings hc) (cwV 1 hts gX6_at_X6_found rfl rfl rfl ⟨rfl, hd_X6_found⟩ ⟨Nat.le_of_ble_eq_true rfl, Nat.le_of_ble_eq_true rfl⟩) (preV_rw hP hKK hD (va_recv hK hP (ci := 4) (q0 := 0) rfl wMo_0)) rfl rfl hl.1 rfl (lv_room (Nat.le_of_ble_eq_true rfl)) dX6_at_20 ⟨Nat.zero_le _, Nat.zero_le _⟩) hS hFc (fun H1 locs hP1 hD1 hz1 hk1 hS => ?_)
        have hP : va_P D vwCl (wMo T am mguests mclause mdeeds masked mupper mlower w20_mfinding mreadGuests misSight mat mrowSizes mrows mtextSizes mtexts mdoes mkinds msees mnow mbefore mkeeps mkept w20_mfindings mread maside msteps mtried mbest) H1 := hP1
        have hD : va_D A (wMo T am mguests mclause mdeeds masked mupper mlower w20_mfinding mreadGuests misSight mat mrowSizes mrows mtextSizes mtexts mdoes mkinds msees mnow mbefore mkeeps mkept w20_mfindings mread maside msteps mtried mbest) := hD1.weaken (fun _ q _ h => hFc q.1 h)
        generalize H1 = H at hP hS ⊢
        cases h
        exact hret _ _ _ _ hP hD hS dX6_at_23
    · have h := br_1 h c4
      refine lv_iconst (v := (-1 : Int32)) hx hb dX6_at_7 (by decide) ?_
      cases h
      exact hret _ _ _ _ hP hD hS dX6_at_8
  exact key _ (fun H locs pc ls hP hD hS hd => W.iret hx hb hr (fun t ht hW => ⟨⟨_, (), rfl, rfl, by show _ ∧ _; rw [ht]; exact ⟨hP, hD⟩⟩, hS.F ht⟩) hS.2.2 hd)
set_option maxHeartbeats 4000000 in
set_option maxRecDepth 100000 in
theorem kX6_tear (l : Launch) (D : va_G) (T : Nat → ClassId) (F : Nat) (am : Nat → Nat) (mguests : Int32) (mclause : Int32) (mdeeds : Int32) (masked : Int32) (mupper : Int64) (mlower : Int64) (mfinding : Int32) (mreadGuests : Int32) (misSight : Int32) (mat : Int32) (mrowSizes : Nat → Int32) (mrows : Nat → Int32) (mtextSizes : Nat → Int32) (mtexts : Nat → Int32) (mdoes : Nat → Int32) (mkinds : Nat → Int32) (msees : Nat → Int32) (mnow : Nat → Int32) (mbefore : Nat → Int32) (mkeeps : Nat → Int32) (mkept : Nat → Int32) (mfindings : Nat → Int32) (mread : Nat → Int32) (maside : Nat → Int32) (msteps : Nat → Int32) (mtried : Nat → Int32) (mbest : Nat → Int32) (x1 : Int32) (r : Int32) (zmfinding : Int32) (zmrowSizes : Nat → Int32) (zmfindings : Nat → Int32) (h : fX6_tear F mfinding mrowSizes mfindings x1 = some (r, zmfinding, zmrowSizes, zmfindings)) : ∀ sz : Nat, Met l yX6_tear wsX6_tear ({ frames := 2, cells := 0, slots := 0, locals := 45 } : Room) (va_Pc [.ref (am 0), .int x1] (fun U => U.heap.size = sz ∧ va_P D vwCl (wMo T am mguests mclause mdeeds masked mupper mlower mfinding mreadGuests misSight mat mrowSizes mrows mtextSizes mtexts mdoes mkinds msees mnow mbefore mkeeps mkept mfindings mread maside msteps mtried mbest) U.heap ∧ KK D T U ∧ va_D (fun _ => True) (wMo T am mguests mclause mdeeds masked mupper mlower mfinding mreadGuests misSight mat mrowSizes mrows mtextSizes mtexts mdoes mkinds msees mnow mbefore mkeeps mkept mfindings mread maside msteps mtried mbest))) (va_Qi (fun r' (_ : Unit) => r' = r) (fun _ t => va_P D vwCl (wMo T am mguests mclause mdeeds masked mupper mlower zmfinding mreadGuests misSight mat zmrowSizes mrows mtextSizes mtexts mdoes mkinds msees mnow mbefore mkeeps mkept zmfindings mread maside msteps mtried mbest) t.heap ∧ va_D (va_A (wMo T am mguests mclause mdeeds masked mupper mlower mfinding mreadGuests misSight mat mrowSizes mrows mtextSizes mtexts mdoes mkinds msees mnow mbefore mkeeps mkept mfindings mread maside msteps mtried mbest) sz) (wMo T am mguests mclause mdeeds masked mupper mlower zmfinding mreadGuests misSight mat zmrowSizes mrows mtextSizes mtexts mdoes mkinds msees mnow mbefore mkeeps mkept zmfindings mread maside msteps mtried mbest)) (va_A (wMo T am mguests mclause mdeeds masked mupper mlower mfinding mreadGuests misSight mat mrowSizes mrows mtextSizes mtexts mdoes mkinds msees mnow mbefore mkeeps mkept mfindings mread maside msteps mtried mbest) sz)) 0 0 (va_A (wMo T am mguests mclause mdeeds masked mupper mlower mfinding mreadGuests misSight mat mrowSizes mrows mtextSizes mtexts mdoes mkinds msees mnow mbefore mkeeps mkept mfindings mread maside msteps mtried mbest) sz) := by
  intro sz
  refine Met.ofW (cc := cX6_tear) (maxL := 2) (ret := some .int) (by decide) rfl ?_
  intro p e s m args below meth c s₁ B hml hv
  obtain ⟨ha, hsz, hP, hKK, hD0⟩ := hv
  have hx := B.exec
  have hb := B.bytes
  have hr := B.returns
  have hts := atoms_spec (ws := wsX6_tear) B.pre
  have hown : s.vm.findClass RX6 = some m.cls := findClass_of_methodNamed B.named
  have hlocks := B.notSynchronized
  have hK := hKK.1
  have hFix : CallFix p m c cX6_tear 2 s args wsX6_tear RX6 := ⟨hx, hb, hml, hown, hts⟩
  have q1 := hts _ (List.mem_of_getElem? (i := 1) (show wsX6_tear[1]? = some (Cond.fieldLink RX6 7 "PartyWillModel" "rowSizes" "[I") from rfl))
  have iX6 : ∀ w ∈ u_ws RX6 TX6 27, w ∈ wsX6_tear := fun w h => List.mem_cons_of_mem _ (List.mem_append_right _ (h))
  subst hsz
  have hD := hD0.self (sz := s.heap.size)
  generalize hAe : va_A (wMo T am mguests mclause mdeeds masked mupper mlower mfinding mreadGuests misSight mat mrowSizes mrows mtextSizes mtexts mdoes mkinds msees mnow mbefore mkeeps mkept mfindings mread maside msteps mtried mbest) s.heap.size = A at hD ⊢
  have hA : ∀ q : Nat, s.heap.size ≤ q → A q := fun q h => by rw [← hAe]; exact Or.inr h
  have hS : va_S A s.heap s.heap [] := va_S.rf
  have hP : va_P D vwCl (wMo T am mguests mclause mdeeds masked mupper mlower mfinding mreadGuests misSight mat mrowSizes mrows mtextSizes mtexts mdoes mkinds msees mnow mbefore mkeeps mkept mfindings mread maside msteps mtried mbest) s.heap := hP
  obtain ⟨ls, hl, e0⟩ := my_entry (m := m) (n := 2) ha (Nat.le_of_ble_eq_true rfl)
  rw [e0]
  have hl : lv_has ls 2 [(0, .ref (am 0)), (1, .int x1)] := hl
  have key : ∀ Q : State → Prop, (∀ (H : Heap) (locs : List Loc) (pc : Nat) (ls : Array Slot), va_P D vwCl (wMo T am mguests mclause mdeeds masked mupper mlower zmfinding mreadGuests misSight mat zmrowSizes mrows mtextSizes mtexts mdoes mkinds msees mnow mbefore mkeeps mkept zmfindings mread maside msteps mtried mbest) H → va_D A (wMo T am mguests mclause mdeeds masked mupper mlower zmfinding mreadGuests misSight mat zmrowSizes mrows mtextSizes mtexts mdoes mkinds msees mnow mbefore mkeeps mkept zmfindings mread maside msteps mtried mbest) → va_S A s.heap H locs → decode cX6_tear pc = .ok (.ireturn, 1) → W p l e ({ frames := 2, cells := 0, slots := 0, locals := 45 } : Room) s m args below meth c H locs 0 0 Q (F0 m pc ls [.int r])) → W p l e ({ frames := 2, cells := 0, slots := 0, locals := 45 } : Room) s m args below meth c s.heap [] 0 0 Q (F0 m 0 ls []) := by
    intro Q hret
    skip
    unfold fX6_tear at h
    refine lv_iload_n hx hb dX6_tear_0 rfl (lv_at hl 1 rfl) ?_
    obtain ⟨r1, hc, h⟩ := bd1_some h
    refine my_roz (va_Run.run (va_runS (As := [.int x1]) (rest := []) hFix (kX6_isRow l D T F x1 r1 hc) (va_cwS 1 hts gX6_tear_X6_isRow rfl rfl rfl hd_X6_isRow ⟨Nat.le_of_ble_eq_true rfl, Nat.le_of_ble_eq_true rfl⟩) (preS_ro va_nil hKK) rfl rfl hl.1 rfl (lv_room (Nat.le_of_ble_eq_true rfl)) dX6_tear_1 ⟨Nat.zero_le _, Nat.zero_le _⟩)) (fun hb1 => ?_)
    refine lv_if_ne (tgt := 9) hx hb dX6_tear_4 (by decide) (fun c4 => ?_) (fun c4 => ?_)
    · have h := br_0 h c4
      refine lv_aload_n hx hb dX6_tear_9 rfl (lv_at hl 0 rfl) ?_
      refine va_get (D := D) (ci := 4) (C := RX6) (T := TX6) (N := 27) hx hb hts iX6 hown hK hP 0 wMo_0 rfl 0 (by decide) q1 (fun _ h9 => h9) rfl dX6_tear_10 ?_
      refine lv_iload_n hx hb dX6_tear_13 rfl (lv_at hl 1 rfl) ?_
      obtain ⟨hin1, h⟩ := ck_some h
      refine va_iald hx hb hK hP 1 0 wMo_1 rfl hin1 dX6_tear_14 ?_
      refine lv_if_ge (tgt := 24) hx hb dX6_tear_15 (by decide) (fun c15 => ?_) (fun c15 => ?_)
      · have h := br_1 h c15
        refine lv_aload_n hx hb dX6_tear_24 rfl (lv_at hl 0 rfl) ?_
        refine va_get (D := D) (ci := 4) (C := RX6) (T := TX6) (N := 27) hx hb hts iX6 hown hK hP 0 wMo_0 rfl 0 (by decide) q1 (fun _ h9 => h9) rfl dX6_tear_25 ?_
        refine lv_iload_n hx hb dX6_tear_28 rfl (lv_at hl 1 rfl) ?_
        refine lv_iconst (v := (-1 : Int32)) hx hb dX6_tear_29 (by decide) ?_
        obtain ⟨hin2, h⟩ := ck_some h
        refine va_iast hx hb hK hP hD hS 1 0 wMo_1 rfl hin2 dX6_tear_30 (fun H locs hP hD hS => ?_)
        have hP : va_P D vwCl (wMo T am mguests mclause mdeeds masked mupper mlower mfinding mreadGuests misSight mat (upd mrowSizes x1.toNatClampNeg (-1 : Int32)) mrows mtextSizes mtexts mdoes mkinds msees mnow mbefore mkeeps mkept mfindings mread maside msteps mtried mbest) H := hP
        have hD : va_D A (wMo T am mguests mclause mdeeds masked mupper mlower mfinding mreadGuests misSight mat (upd mrowSizes x1.toNatClampNeg (-1 : Int32)) mrows mtextSizes mtexts mdoes mkinds msees mnow mbefore mkeeps mkept mfindings mread maside msteps mtried mbest) := hD
        refine lv_iconst (v := (1 : Int32)) hx hb dX6_tear_31 (by decide) ?_
        cases h
        exact hret _ _ _ _ hP hD hS dX6_tear_32
      · have h := br_0 h c15
        refine lv_aload_n hx hb dX6_tear_18 rfl (lv_at hl 0 rfl) ?_
        refine lv_iconst (v := (1 : Int32)) hx hb dX6_tear_19 (by decide) ?_
        obtain ⟨r20, w20_mfinding, w20_mfindings, hc, h⟩ := bd3_some h
        have hFc := my_freeS hD hS hA
        refine my_rwi (va_runV (As := [.int (1 : Int32)]) (rest := []) hFix (kX6_found l D T F am mguests mclause mdeeds masked mupper mlower mfinding mreadGuests misSight mat mrowSizes mrows mtextSizes mtexts mdoes mkinds msees mnow mbefore mkeeps mkept mfindings mread maside msteps mtried mbest (1 : Int32) r20 w20_mfinding w20_mfindings hc) (cwV 1 hts gX6_tear_X6_found rfl rfl rfl ⟨rfl, hd_X6_found⟩ ⟨Nat.le_of_ble_eq_true rfl, Nat.le_of_ble_eq_true rfl⟩) (preV_rw hP hKK hD (va_recv hK hP (ci := 4) (q0 := 0) rfl wMo_0)) rfl rfl hl.1 rfl (lv_room (Nat.le_of_ble_eq_true rfl)) dX6_tear_20 ⟨Nat.zero_le _, Nat.zero_le _⟩) hS hFc (fun H1 locs hP1 hD1 hz1 hk1 hS => ?_)
        have hP : va_P D vwCl (wMo T am mguests mclause mdeeds masked mupper mlower w20_mfinding mreadGuests misSight mat mrowSizes mrows mtextSizes mtexts mdoes mkinds msees mnow mbefore mkeeps mkept w20_mfindings mread maside msteps mtried mbest) H1 := hP1
        have hD : va_D A (wMo T am mguests mclause mdeeds masked mupper mlower w20_mfinding mreadGuests misSight mat mrowSizes mrows mtextSizes mtexts mdoes mkinds msees mnow mbefore mkeeps mkept w20_mfindings mread maside msteps mtried mbest) := hD1.weaken (fun _ q _ h => hFc q.1 h)
        generalize H1 = H at hP hS ⊢
        cases h
        exact hret _ _ _ _ hP hD hS dX6_tear_23
    · have h := br_1 h c4
      refine lv_iconst (v := (-1 : Int32)) hx hb dX6_tear_7 (by decide) ?_
      cases h
      exact hret _ _ _ _ hP hD hS dX6_tear_8
  exact key _ (fun H locs pc ls hP hD hS hd => W.iret hx hb hr (fun t ht hW => ⟨⟨_, (), rfl, rfl, by show _ ∧ _; rw [ht]; exact ⟨hP, hD⟩⟩, hS.F ht⟩) hS.2.2 hd)
set_option maxHeartbeats 4000000 in
set_option maxRecDepth 100000 in
theorem kX6_copy (l : Launch) (D : va_G) (T : Nat → ClassId) (F : Nat) (am : Nat → Nat) (mguests : Int32) (mclause : Int32) (mdeeds : Int32) (masked : Int32) (mupper : Int64) (mlower : Int64) (mfinding : Int32) (mreadGuests : Int32) (misSight : Int32) (mat : Int32) (mrowSizes : Nat → Int32) (mrows : Nat → Int32) (mtextSizes : Nat → Int32) (mtexts : Nat → Int32) (mdoes : Nat → Int32) (mkinds : Nat → Int32) (msees : Nat → Int32) (mnow : Nat → Int32) (mbefore : Nat → Int32) (mkeeps : Nat → Int32) (mkept : Nat → Int32) (mfindings : Nat → Int32) (mread : Nat → Int32) (maside : Nat → Int32) (msteps : Nat → Int32) (mtried : Nat → Int32) (mbest : Nat → Int32) (x1 : Int32) (x2 : Int32) (x3 : Int32) (x4 : Int32) (x5 : Int32) (r : Int32) (zmfinding : Int32) (zmrows : Nat → Int32) (zmfindings : Nat → Int32) (h : fX6_copy F mfinding mrowSizes mrows mfindings x1 x2 x3 x4 x5 = some (r, zmfinding, zmrows, zmfindings)) : ∀ sz : Nat, Met l yX6_copy wsX6_copy ({ frames := 2, cells := 0, slots := 0, locals := 45 } : Room) (va_Pc [.ref (am 0), .int x1, .int x2, .int x3, .int x4, .int x5] (fun U => U.heap.size = sz ∧ va_P D vwCl (wMo T am mguests mclause mdeeds masked mupper mlower mfinding mreadGuests misSight mat mrowSizes mrows mtextSizes mtexts mdoes mkinds msees mnow mbefore mkeeps mkept mfindings mread maside msteps mtried mbest) U.heap ∧ KK D T U ∧ va_D (fun _ => True) (wMo T am mguests mclause mdeeds masked mupper mlower mfinding mreadGuests misSight mat mrowSizes mrows mtextSizes mtexts mdoes mkinds msees mnow mbefore mkeeps mkept mfindings mread maside msteps mtried mbest))) (va_Qi (fun r' (_ : Unit) => r' = r) (fun _ t => va_P D vwCl (wMo T am mguests mclause mdeeds masked mupper mlower zmfinding mreadGuests misSight mat mrowSizes zmrows mtextSizes mtexts mdoes mkinds msees mnow mbefore mkeeps mkept zmfindings mread maside msteps mtried mbest) t.heap ∧ va_D (va_A (wMo T am mguests mclause mdeeds masked mupper mlower mfinding mreadGuests misSight mat mrowSizes mrows mtextSizes mtexts mdoes mkinds msees mnow mbefore mkeeps mkept mfindings mread maside msteps mtried mbest) sz) (wMo T am mguests mclause mdeeds masked mupper mlower zmfinding mreadGuests misSight mat mrowSizes zmrows mtextSizes mtexts mdoes mkinds msees mnow mbefore mkeeps mkept zmfindings mread maside msteps mtried mbest)) (va_A (wMo T am mguests mclause mdeeds masked mupper mlower mfinding mreadGuests misSight mat mrowSizes mrows mtextSizes mtexts mdoes mkinds msees mnow mbefore mkeeps mkept mfindings mread maside msteps mtried mbest) sz)) 0 0 (va_A (wMo T am mguests mclause mdeeds masked mupper mlower mfinding mreadGuests misSight mat mrowSizes mrows mtextSizes mtexts mdoes mkinds msees mnow mbefore mkeeps mkept mfindings mread maside msteps mtried mbest) sz) := by
  intro sz
  refine Met.ofW (cc := cX6_copy) (maxL := 8) (ret := some .int) (by decide) rfl ?_
  intro p e s m args below meth c s₁ B hml hv
  obtain ⟨ha, hsz, hP, hKK, hD0⟩ := hv
  have hx := B.exec
  have hb := B.bytes
  have hr := B.returns
  have hts := atoms_spec (ws := wsX6_copy) B.pre
  have hown : s.vm.findClass RX6 = some m.cls := findClass_of_methodNamed B.named
  have hlocks := B.notSynchronized
  have hK := hKK.1
  have hFix : CallFix p m c cX6_copy 8 s args wsX6_copy RX6 := ⟨hx, hb, hml, hown, hts⟩
  have q1 := hts _ (List.mem_of_getElem? (i := 1) (show wsX6_copy[1]? = some (Cond.fieldLink RX6 7 "PartyWillModel" "rowSizes" "[I") from rfl))
  have q2 := hts _ (List.mem_of_getElem? (i := 2) (show wsX6_copy[2]? = some (Cond.fieldLink RX6 13 "PartyWillModel" "rows" "[I") from rfl))
  have iX6 : ∀ w ∈ u_ws RX6 TX6 27, w ∈ wsX6_copy := fun w h => List.mem_cons_of_mem _ (List.mem_append_right _ (h))
  subst hsz
  have hD := hD0.self (sz := s.heap.size)
  generalize hAe : va_A (wMo T am mguests mclause mdeeds masked mupper mlower mfinding mreadGuests misSight mat mrowSizes mrows mtextSizes mtexts mdoes mkinds msees mnow mbefore mkeeps mkept mfindings mread maside msteps mtried mbest) s.heap.size = A at hD ⊢
  have hA : ∀ q : Nat, s.heap.size ≤ q → A q := fun q h => by rw [← hAe]; exact Or.inr h
  have hS : va_S A s.heap s.heap [] := va_S.rf
  have hP : va_P D vwCl (wMo T am mguests mclause mdeeds masked mupper mlower mfinding mreadGuests misSight mat mrowSizes mrows mtextSizes mtexts mdoes mkinds msees mnow mbefore mkeeps mkept mfindings mread maside msteps mtried mbest) s.heap := hP
  obtain ⟨ls, hl, e0⟩ := my_entry (m := m) (n := 8) ha (Nat.le_of_ble_eq_true rfl)
  rw [e0]
  have hl : lv_has ls 8 [(0, .ref (am 0)), (1, .int x1), (2, .int x2), (3, .int x3), (4, .int x4), (5, .int x5)] := hl
  have key : ∀ Q : State → Prop, (∀ (H : Heap) (locs : List Loc) (pc : Nat) (ls : Array Slot), va_P D vwCl (wMo T am mguests mclause mdeeds masked mupper mlower zmfinding mreadGuests misSight mat mrowSizes zmrows mtextSizes mtexts mdoes mkinds msees mnow mbefore mkeeps mkept zmfindings mread maside msteps mtried mbest) H → va_D A (wMo T am mguests mclause mdeeds masked mupper mlower zmfinding mreadGuests misSight mat mrowSizes zmrows mtextSizes mtexts mdoes mkinds msees mnow mbefore mkeeps mkept zmfindings mread maside msteps mtried mbest) → va_S A s.heap H locs → decode cX6_copy pc = .ok (.ireturn, 1) → W p l e ({ frames := 2, cells := 0, slots := 0, locals := 45 } : Room) s m args below meth c H locs 0 0 Q (F0 m pc ls [.int r])) → W p l e ({ frames := 2, cells := 0, slots := 0, locals := 45 } : Room) s m args below meth c s.heap [] 0 0 Q (F0 m 0 ls []) := by
    intro Q hret
    skip
    have l104 : ∀ x1 : Int32, ∀ x2 : Int32, ∀ x3 : Int32, ∀ x4 : Int32, ∀ x5 : Int32, ∀ mfinding : Int32, ∀ mfindings : Nat → Int32, ∀ nu : Nat, ∀ x6 : Int32, ∀ mrows : Nat → Int32, fX6_copy_l104 F mrowSizes x1 x2 x3 x4 x5 mfinding mfindings nu x6 mrows = some (r, zmfinding, zmrows, zmfindings) → ∀ (H : Heap) (locs : List Loc), va_P D vwCl (wMo T am mguests mclause mdeeds masked mupper mlower mfinding mreadGuests misSight mat mrowSizes mrows mtextSizes mtexts mdoes mkinds msees mnow mbefore mkeeps mkept mfindings mread maside msteps mtried mbest) H → va_D A (wMo T am mguests mclause mdeeds masked mupper mlower mfinding mreadGuests misSight mat mrowSizes mrows mtextSizes mtexts mdoes mkinds msees mnow mbefore mkeeps mkept mfindings mread maside msteps mtried mbest) → va_S A s.heap H locs → ∀ (ls : Array Slot), lv_has ls 8 [(0, .ref (am 0)), (1, .int x1), (2, .int x2), (3, .int x3), (4, .int x4), (5, .int x5), (6, .int x6)] → W p l e ({ frames := 2, cells := 0, slots := 0, locals := 45 } : Room) s m args below meth c H locs 0 0 Q (F0 m 104 ls []) := by
      intro x1 x2 x3 x4 x5 mfinding mfindings
      intro nu
      induction nu with
      | zero => intro x6 mrows h; exact none_some h
      | succ nu104 ih104 =>
        intro x6 mrows h H locs hP hD hS ls hl
        have n129 : ∀ s_0 : Int32, ∀ x1 : Int32, ∀ x2 : Int32, ∀ x3 : Int32, ∀ x4 : Int32, ∀ x5 : Int32, ∀ x6 : Int32, ∀ mfinding : Int32, ∀ mrows : Nat → Int32, ∀ mfindings : Nat → Int32, fX6_copy_n129 F (fX6_copy_l104 F mrowSizes x1 x2 x3 x4 x5 mfinding mfindings nu104) mrowSizes s_0 x1 x2 x3 x4 x5 x6 mfinding mrows mfindings = some (r, zmfinding, zmrows, zmfindings) → ∀ (H : Heap) (locs : List Loc), va_P D vwCl (wMo T am mguests mclause mdeeds masked mupper mlower mfinding mreadGuests misSight mat mrowSizes mrows mtextSizes mtexts mdoes mkinds msees mnow mbefore mkeeps mkept mfindings mread maside msteps mtried mbest) H → va_D A (wMo T am mguests mclause mdeeds masked mupper mlower mfinding mreadGuests misSight mat mrowSizes mrows mtextSizes mtexts mdoes mkinds msees mnow mbefore mkeeps mkept mfindings mread maside msteps mtried mbest) → va_S A s.heap H locs → ∀ (ls : Array Slot), lv_has ls 8 [(0, .ref (am 0)), (1, .int x1), (2, .int x2), (3, .int x3), (4, .int x4), (5, .int x5), (6, .int x6)] → W p l e ({ frames := 2, cells := 0, slots := 0, locals := 45 } : Room) s m args below meth c H locs 0 0 Q (F0 m 129 ls [.int s_0]) := by
          intro s_0 x1 x2 x3 x4 x5 x6 mfinding mrows mfindings h H locs hP hD hS ls hl
          unfold fX6_copy_n129 at h
          refine lv_istore (lv' := [(7, .int s_0), (0, .ref (am 0)), (1, .int x1), (2, .int x2), (3, .int x3), (4, .int x4), (5, .int x5), (6, .int x6)]) hx hb dX6_copy_129 hl (by decide) rfl (fun ls hl => ?_)
          refine lv_aload_n hx hb dX6_copy_131 rfl (lv_at hl 1 rfl) ?_
          refine va_get (D := D) (ci := 4) (C := RX6) (T := TX6) (N := 27) hx hb hts iX6 hown hK hP 0 wMo_0 rfl 1 (by decide) q2 (fun _ h9 => h9) rfl dX6_copy_132 ?_
          refine lv_bipush (v := (40 : Int32)) hx hb dX6_copy_135 (by decide) ?_
          refine lv_iload_n hx hb dX6_copy_137 rfl (lv_at hl 4 rfl) ?_
          refine lv_imul hx hb dX6_copy_138 ?_
          refine lv_iload hx hb dX6_copy_139 (lv_at hl 5 rfl) ?_
          refine lv_iadd hx hb dX6_copy_141 ?_
          refine lv_iload hx hb dX6_copy_142 (lv_at hl 0 rfl) ?_
          refine lv_iadd hx hb dX6_copy_144 ?_
          refine lv_aload_n hx hb dX6_copy_145 rfl (lv_at hl 1 rfl) ?_
          refine va_get (D := D) (ci := 4) (C := RX6) (T := TX6) (N := 27) hx hb hts iX6 hown hK hP 0 wMo_0 rfl 1 (by decide) q2 (fun _ h9 => h9) rfl dX6_copy_146 ?_
          refine lv_bipush (v := (40 : Int32)) hx hb dX6_copy_149 (by decide) ?_
          refine lv_iload_n hx hb dX6_copy_151 rfl (lv_at hl 2 rfl) ?_
          refine lv_imul hx hb dX6_copy_152 ?_
          refine lv_iload_n hx hb dX6_copy_153 rfl (lv_at hl 3 rfl) ?_
          refine lv_iadd hx hb dX6_copy_154 ?_
          refine lv_iload hx hb dX6_copy_155 (lv_at hl 0 rfl) ?_
          refine lv_iadd hx hb dX6_copy_157 ?_
          obtain ⟨hin1, h⟩ := ck_some h
          refine va_iald hx hb hK hP 2 0 wMo_2 rfl hin1 dX6_copy_158 ?_
          obtain ⟨hin2, h⟩ := ck_some h
          refine va_iast hx hb hK hP hD hS 2 0 wMo_2 rfl hin2 dX6_copy_159 (fun H locs hP hD hS => ?_)
          have hP : va_P D vwCl (wMo T am mguests mclause mdeeds masked mupper mlower mfinding mreadGuests misSight mat mrowSizes (upd mrows ((((40 : Int32) * x3) + x4) + s_0).toNatClampNeg (mrows ((((40 : Int32) * x1) + x2) + s_0).toNatClampNeg)) mtextSizes mtexts mdoes mkinds msees mnow mbefore mkeeps mkept mfindings mread maside msteps mtried mbest) H := hP
          have hD : va_D A (wMo T am mguests mclause mdeeds masked mupper mlower mfinding mreadGuests misSight mat mrowSizes (upd mrows ((((40 : Int32) * x3) + x4) + s_0).toNatClampNeg (mrows ((((40 : Int32) * x1) + x2) + s_0).toNatClampNeg)) mtextSizes mtexts mdoes mkinds msees mnow mbefore mkeeps mkept mfindings mread maside msteps mtried mbest) := hD
          refine lv_iinc (v := (x6 + (1 : Int32))) (lv' := [(6, .int (x6 + (1 : Int32))), (7, .int s_0), (0, .ref (am 0)), (1, .int x1), (2, .int x2), (3, .int x3), (4, .int x4), (5, .int x5)]) hx hb dX6_copy_160 hl (k := 7) rfl rfl (by decide) rfl (fun ls hl => ?_)
          refine lv_goto (tgt := 104) hx hb dX6_copy_163 (by decide) ?_
          exact ih104 (x6 + (1 : Int32)) (upd mrows ((((40 : Int32) * x3) + x4) + s_0).toNatClampNeg (mrows ((((40 : Int32) * x1) + x2) + s_0).toNatClampNeg)) h _ _ hP hD hS _ (lv_sub hl [2, 3, 4, 5, 6, 7, 0] rfl)
        have h : fX6_copy_l104_b F mrowSizes x1 x2 x3 x4 x5 mfinding mfindings (fX6_copy_l104 F mrowSizes x1 x2 x3 x4 x5 mfinding mfindings nu104) x6 mrows = some (r, zmfinding, zmrows, zmfindings) := h
        unfold fX6_copy_l104_b at h
        refine lv_iload hx hb dX6_copy_104 (lv_at hl 6 rfl) ?_
        refine lv_iload hx hb dX6_copy_106 (lv_at hl 5 rfl) ?_
        refine lv_icmp_ge (tgt := 166) hx hb dX6_copy_108 (by decide) (fun c108 => ?_) (fun c108 => ?_)
        · have h := br_1 h c108
          refine lv_iconst (v := (1 : Int32)) hx hb dX6_copy_166 (by decide) ?_
          cases h
          exact hret _ _ _ _ hP hD hS dX6_copy_167
        · have h := br_0 h c108
          refine lv_iload hx hb dX6_copy_111 (lv_at hl 4 rfl) ?_
          refine lv_iload_n hx hb dX6_copy_113 rfl (lv_at hl 2 rfl) ?_
          refine lv_icmp_le (tgt := 127) hx hb dX6_copy_114 (by decide) (fun c114 => ?_) (fun c114 => ?_)
          · have h := br_1 h c114
            refine lv_iload hx hb dX6_copy_127 (lv_at hl 6 rfl) ?_
            exact n129 x6 x1 x2 x3 x4 x5 x6 mfinding mrows mfindings h _ _ hP hD hS _ (lv_sub hl [0, 1, 2, 3, 4, 5, 6] rfl)
          · have h := br_0 h c114
            refine lv_iload hx hb dX6_copy_117 (lv_at hl 5 rfl) ?_
            refine lv_iconst (v := (1 : Int32)) hx hb dX6_copy_119 (by decide) ?_
            refine lv_isub hx hb dX6_copy_120 ?_
            refine lv_iload hx hb dX6_copy_121 (lv_at hl 6 rfl) ?_
            refine lv_isub hx hb dX6_copy_123 ?_
            refine lv_goto (tgt := 129) hx hb dX6_copy_124 (by decide) ?_
            exact n129 ((x5 - (1 : Int32)) - x6) x1 x2 x3 x4 x5 x6 mfinding mrows mfindings h _ _ hP hD hS _ (lv_sub hl [0, 1, 2, 3, 4, 5, 6] rfl)
    unfold fX6_copy at h
    refine lv_iload_n hx hb dX6_copy_0 rfl (lv_at hl 1 rfl) ?_
    obtain ⟨r1, hc, h⟩ := bd1_some h
    refine my_roz (va_Run.run (va_runS (As := [.int x1]) (rest := []) hFix (kX6_isRow l D T F x1 r1 hc) (va_cwS 1 hts gX6_copy_X6_isRow rfl rfl rfl hd_X6_isRow ⟨Nat.le_of_ble_eq_true rfl, Nat.le_of_ble_eq_true rfl⟩) (preS_ro va_nil hKK) rfl rfl hl.1 rfl (lv_room (Nat.le_of_ble_eq_true rfl)) dX6_copy_1 ⟨Nat.zero_le _, Nat.zero_le _⟩)) (fun hb1 => ?_)
    refine lv_if_eq (tgt := 14) hx hb dX6_copy_4 (by decide) (fun c4 => ?_) (fun c4 => ?_)
    · have h := br_1 h c4
      refine lv_iconst (v := (-1 : Int32)) hx hb dX6_copy_14 (by decide) ?_
      cases h
      exact hret _ _ _ _ hP hD hS dX6_copy_15
    · have h := br_0 h c4
      refine lv_iload_n hx hb dX6_copy_7 rfl (lv_at hl 3 rfl) ?_
      obtain ⟨r8, hc, h⟩ := bd1_some h
      refine my_roz (va_Run.run (va_runS (As := [.int x3]) (rest := []) hFix (kX6_isRow l D T F x3 r8 hc) (va_cwS 1 hts gX6_copy_X6_isRow rfl rfl rfl hd_X6_isRow ⟨Nat.le_of_ble_eq_true rfl, Nat.le_of_ble_eq_true rfl⟩) (preS_ro va_nil hKK) rfl rfl hl.1 rfl (lv_room (Nat.le_of_ble_eq_true rfl)) dX6_copy_8 ⟨Nat.zero_le _, Nat.zero_le _⟩)) (fun hb8 => ?_)
      refine lv_if_ne (tgt := 16) hx hb dX6_copy_11 (by decide) (fun c11 => ?_) (fun c11 => ?_)
      · have h := br_0 h c11
        refine lv_iload hx hb dX6_copy_16 (lv_at hl 5 rfl) ?_
        refine lv_if_ge (tgt := 27) hx hb dX6_copy_18 (by decide) (fun c18 => ?_) (fun c18 => ?_)
        · have h := br_1 h c18
          refine lv_aload_n hx hb dX6_copy_27 rfl (lv_at hl 0 rfl) ?_
          refine va_get (D := D) (ci := 4) (C := RX6) (T := TX6) (N := 27) hx hb hts iX6 hown hK hP 0 wMo_0 rfl 0 (by decide) q1 (fun _ h9 => h9) rfl dX6_copy_28 ?_
          refine lv_iload_n hx hb dX6_copy_31 rfl (lv_at hl 1 rfl) ?_
          obtain ⟨hin3, h⟩ := ck_some h
          refine va_iald hx hb hK hP 1 0 wMo_1 rfl hin3 dX6_copy_32 ?_
          refine lv_if_lt (tgt := 45) hx hb dX6_copy_33 (by decide) (fun c33 => ?_) (fun c33 => ?_)
          · have h := br_1 h c33
            refine lv_aload_n hx hb dX6_copy_45 rfl (lv_at hl 0 rfl) ?_
            refine lv_iconst (v := (1 : Int32)) hx hb dX6_copy_46 (by decide) ?_
            obtain ⟨r47, w47_mfinding, w47_mfindings, hc, h⟩ := bd3_some h
            have hFc := my_freeS hD hS hA
            refine my_rwi (va_runV (As := [.int (1 : Int32)]) (rest := []) hFix (kX6_found l D T F am mguests mclause mdeeds masked mupper mlower mfinding mreadGuests misSight mat mrowSizes mrows mtextSizes mtexts mdoes mkinds msees mnow mbefore mkeeps mkept mfindings mread maside msteps mtried mbest (1 : Int32) r47 w47_mfinding w47_mfindings hc) (cwV 1 hts gX6_copy_X6_found rfl rfl rfl ⟨rfl, hd_X6_found⟩ ⟨Nat.le_of_ble_eq_true rfl, Nat.le_of_ble_eq_true rfl⟩) (preV_rw hP hKK hD (va_recv hK hP (ci := 4) (q0 := 0) rfl wMo_0)) rfl rfl hl.1 rfl (lv_room (Nat.le_of_ble_eq_true rfl)) dX6_copy_47 ⟨Nat.zero_le _, Nat.zero_le _⟩) hS hFc (fun H1 locs hP1 hD1 hz1 hk1 hS => ?_)
            have hP : va_P D vwCl (wMo T am mguests mclause mdeeds masked mupper mlower w47_mfinding mreadGuests misSight mat mrowSizes mrows mtextSizes mtexts mdoes mkinds msees mnow mbefore mkeeps mkept w47_mfindings mread maside msteps mtried mbest) H1 := hP1
            have hD : va_D A (wMo T am mguests mclause mdeeds masked mupper mlower w47_mfinding mreadGuests misSight mat mrowSizes mrows mtextSizes mtexts mdoes mkinds msees mnow mbefore mkeeps mkept w47_mfindings mread maside msteps mtried mbest) := hD1.weaken (fun _ q _ h => hFc q.1 h)
            generalize H1 = H at hP hS ⊢
            cases h
            exact hret _ _ _ _ hP hD hS dX6_copy_50
          · have h := br_0 h c33
            refine lv_aload_n hx hb dX6_copy_36 rfl (lv_at hl 0 rfl) ?_
            refine va_get (D := D) (ci := 4) (C := RX6) (T := TX6) (N := 27) hx hb hts iX6 hown hK hP 0 wMo_0 rfl 0 (by decide) q1 (fun _ h9 => h9) rfl dX6_copy_37 ?_
            refine lv_iload_n hx hb dX6_copy_40 rfl (lv_at hl 3 rfl) ?_
            obtain ⟨hin4, h⟩ := ck_some h
            refine va_iald hx hb hK hP 1 0 wMo_1 rfl hin4 dX6_copy_41 ?_
            refine lv_if_ge (tgt := 51) hx hb dX6_copy_42 (by decide) (fun c42 => ?_) (fun c42 => ?_)
            · have h := br_1 h c42
              refine lv_iload_n hx hb dX6_copy_51 rfl (lv_at hl 2 rfl) ?_
              refine lv_if_lt (tgt := 95) hx hb dX6_copy_52 (by decide) (fun c52 => ?_) (fun c52 => ?_)
              · have h := br_1 h c52
                refine lv_aload_n hx hb dX6_copy_95 rfl (lv_at hl 0 rfl) ?_
                refine lv_iconst (v := (2 : Int32)) hx hb dX6_copy_96 (by decide) ?_
                obtain ⟨r97, w97_mfinding, w97_mfindings, hc, h⟩ := bd3_some h
                have hFc := my_freeS hD hS hA
                refine my_rwi (va_runV (As := [.int (2 : Int32)]) (rest := []) hFix (kX6_found l D T F am mguests mclause mdeeds masked mupper mlower mfinding mreadGuests misSight mat mrowSizes mrows mtextSizes mtexts mdoes mkinds msees mnow mbefore mkeeps mkept mfindings mread maside msteps mtried mbest (2 : Int32) r97 w97_mfinding w97_mfindings hc) (cwV 1 hts gX6_copy_X6_found rfl rfl rfl ⟨rfl, hd_X6_found⟩ ⟨Nat.le_of_ble_eq_true rfl, Nat.le_of_ble_eq_true rfl⟩) (preV_rw hP hKK hD (va_recv hK hP (ci := 4) (q0 := 0) rfl wMo_0)) rfl rfl hl.1 rfl (lv_room (Nat.le_of_ble_eq_true rfl)) dX6_copy_97 ⟨Nat.zero_le _, Nat.zero_le _⟩) hS hFc (fun H1 locs hP1 hD1 hz1 hk1 hS => ?_)
                have hP : va_P D vwCl (wMo T am mguests mclause mdeeds masked mupper mlower w97_mfinding mreadGuests misSight mat mrowSizes mrows mtextSizes mtexts mdoes mkinds msees mnow mbefore mkeeps mkept w97_mfindings mread maside msteps mtried mbest) H1 := hP1
                have hD : va_D A (wMo T am mguests mclause mdeeds masked mupper mlower w97_mfinding mreadGuests misSight mat mrowSizes mrows mtextSizes mtexts mdoes mkinds msees mnow mbefore mkeeps mkept w97_mfindings mread maside msteps mtried mbest) := hD1.weaken (fun _ q _ h => hFc q.1 h)
                generalize H1 = H at hP hS ⊢
                cases h
                exact hret _ _ _ _ hP hD hS dX6_copy_100
              · have h := br_0 h c52
                refine lv_iload hx hb dX6_copy_55 (lv_at hl 4 rfl) ?_
                refine lv_if_lt (tgt := 95) hx hb dX6_copy_57 (by decide) (fun c57 => ?_) (fun c57 => ?_)
                · have h := br_1 h c57
                  refine lv_aload_n hx hb dX6_copy_95 rfl (lv_at hl 0 rfl) ?_
                  refine lv_iconst (v := (2 : Int32)) hx hb dX6_copy_96 (by decide) ?_
                  obtain ⟨r97, w97_mfinding, w97_mfindings, hc, h⟩ := bd3_some h
                  have hFc := my_freeS hD hS hA
                  refine my_rwi (va_runV (As := [.int (2 : Int32)]) (rest := []) hFix (kX6_found l D T F am mguests mclause mdeeds masked mupper mlower mfinding mreadGuests misSight mat mrowSizes mrows mtextSizes mtexts mdoes mkinds msees mnow mbefore mkeeps mkept mfindings mread maside msteps mtried mbest (2 : Int32) r97 w97_mfinding w97_mfindings hc) (cwV 1 hts gX6_copy_X6_found rfl rfl rfl ⟨rfl, hd_X6_found⟩ ⟨Nat.le_of_ble_eq_true rfl, Nat.le_of_ble_eq_true rfl⟩) (preV_rw hP hKK hD (va_recv hK hP (ci := 4) (q0 := 0) rfl wMo_0)) rfl rfl hl.1 rfl (lv_room (Nat.le_of_ble_eq_true rfl)) dX6_copy_97 ⟨Nat.zero_le _, Nat.zero_le _⟩) hS hFc (fun H1 locs hP1 hD1 hz1 hk1 hS => ?_)
                  have hP : va_P D vwCl (wMo T am mguests mclause mdeeds masked mupper mlower w97_mfinding mreadGuests misSight mat mrowSizes mrows mtextSizes mtexts mdoes mkinds msees mnow mbefore mkeeps mkept w97_mfindings mread maside msteps mtried mbest) H1 := hP1
                  have hD : va_D A (wMo T am mguests mclause mdeeds masked mupper mlower w97_mfinding mreadGuests misSight mat mrowSizes mrows mtextSizes mtexts mdoes mkinds msees mnow mbefore mkeeps mkept w97_mfindings mread maside msteps mtried mbest) := hD1.weaken (fun _ q _ h => hFc q.1 h)
                  generalize H1 = H at hP hS ⊢
                  cases h
                  exact hret _ _ _ _ hP hD hS dX6_copy_100
                · have h := br_0 h c57
                  refine lv_iload_n hx hb dX6_copy_60 rfl (lv_at hl 2 rfl) ?_
                  refine lv_i2l (v := (x2.toInt64)) hx hb dX6_copy_61 rfl ?_
                  refine lv_iload hx hb dX6_copy_62 (lv_at hl 5 rfl) ?_
                  refine lv_i2l (v := (x5.toInt64)) hx hb dX6_copy_64 rfl ?_
                  refine lv_ladd hx hb dX6_copy_65 ?_
                  refine lv_aload_n hx hb dX6_copy_66 rfl (lv_at hl 0 rfl) ?_
                  refine va_get (D := D) (ci := 4) (C := RX6) (T := TX6) (N := 27) hx hb hts iX6 hown hK hP 0 wMo_0 rfl 0 (by decide) q1 (fun _ h9 => h9) rfl dX6_copy_67 ?_
                  refine lv_iload_n hx hb dX6_copy_70 rfl (lv_at hl 1 rfl) ?_
                  obtain ⟨hin5, h⟩ := ck_some h
                  refine va_iald hx hb hK hP 1 0 wMo_1 rfl hin5 dX6_copy_71 ?_
                  refine lv_i2l (v := ((mrowSizes x1.toNatClampNeg).toInt64)) hx hb dX6_copy_72 rfl ?_
                  refine W.lcmp hx hb dX6_copy_73 ?_
                  refine lv_if_gt (tgt := 95) hx hb dX6_copy_74 (by decide) (fun c74 => ?_) (fun c74 => ?_)
                  · have h := br_1 h c74
                    refine lv_aload_n hx hb dX6_copy_95 rfl (lv_at hl 0 rfl) ?_
                    refine lv_iconst (v := (2 : Int32)) hx hb dX6_copy_96 (by decide) ?_
                    obtain ⟨r97, w97_mfinding, w97_mfindings, hc, h⟩ := bd3_some h
                    have hFc := my_freeS hD hS hA
                    refine my_rwi (va_runV (As := [.int (2 : Int32)]) (rest := []) hFix (kX6_found l D T F am mguests mclause mdeeds masked mupper mlower mfinding mreadGuests misSight mat mrowSizes mrows mtextSizes mtexts mdoes mkinds msees mnow mbefore mkeeps mkept mfindings mread maside msteps mtried mbest (2 : Int32) r97 w97_mfinding w97_mfindings hc) (cwV 1 hts gX6_copy_X6_found rfl rfl rfl ⟨rfl, hd_X6_found⟩ ⟨Nat.le_of_ble_eq_true rfl, Nat.le_of_ble_eq_true rfl⟩) (preV_rw hP hKK hD (va_recv hK hP (ci := 4) (q0 := 0) rfl wMo_0)) rfl rfl hl.1 rfl (lv_room (Nat.le_of_ble_eq_true rfl)) dX6_copy_97 ⟨Nat.zero_le _, Nat.zero_le _⟩) hS hFc (fun H1 locs hP1 hD1 hz1 hk1 hS => ?_)
                    have hP : va_P D vwCl (wMo T am mguests mclause mdeeds masked mupper mlower w97_mfinding mreadGuests misSight mat mrowSizes mrows mtextSizes mtexts mdoes mkinds msees mnow mbefore mkeeps mkept w97_mfindings mread maside msteps mtried mbest) H1 := hP1
                    have hD : va_D A (wMo T am mguests mclause mdeeds masked mupper mlower w97_mfinding mreadGuests misSight mat mrowSizes mrows mtextSizes mtexts mdoes mkinds msees mnow mbefore mkeeps mkept w97_mfindings mread maside msteps mtried mbest) := hD1.weaken (fun _ q _ h => hFc q.1 h)
                    generalize H1 = H at hP hS ⊢
                    cases h
                    exact hret _ _ _ _ hP hD hS dX6_copy_100
                  · have h := br_0 h c74
                    refine lv_iload hx hb dX6_copy_77 (lv_at hl 4 rfl) ?_
                    refine lv_i2l (v := (x4.toInt64)) hx hb dX6_copy_79 rfl ?_
                    refine lv_iload hx hb dX6_copy_80 (lv_at hl 5 rfl) ?_
                    refine lv_i2l (v := (x5.toInt64)) hx hb dX6_copy_82 rfl ?_
                    refine lv_ladd hx hb dX6_copy_83 ?_
                    refine lv_aload_n hx hb dX6_copy_84 rfl (lv_at hl 0 rfl) ?_
                    refine va_get (D := D) (ci := 4) (C := RX6) (T := TX6) (N := 27) hx hb hts iX6 hown hK hP 0 wMo_0 rfl 0 (by decide) q1 (fun _ h9 => h9) rfl dX6_copy_85 ?_
                    refine lv_iload_n hx hb dX6_copy_88 rfl (lv_at hl 3 rfl) ?_
                    obtain ⟨hin6, h⟩ := ck_some h
                    refine va_iald hx hb hK hP 1 0 wMo_1 rfl hin6 dX6_copy_89 ?_
                    refine lv_i2l (v := ((mrowSizes x3.toNatClampNeg).toInt64)) hx hb dX6_copy_90 rfl ?_
                    refine W.lcmp hx hb dX6_copy_91 ?_
                    refine lv_if_le (tgt := 101) hx hb dX6_copy_92 (by decide) (fun c92 => ?_) (fun c92 => ?_)
                    · have h := br_1 h c92
                      refine lv_iconst (v := (0 : Int32)) hx hb dX6_copy_101 (by decide) ?_
                      refine lv_istore (lv' := [(6, .int (0 : Int32)), (0, .ref (am 0)), (1, .int x1), (2, .int x2), (3, .int x3), (4, .int x4), (5, .int x5)]) hx hb dX6_copy_102 hl (by decide) rfl (fun ls hl => ?_)
                      exact l104 x1 x2 x3 x4 x5 mfinding mfindings F (0 : Int32) mrows h _ _ hP hD hS _ (lv_sub hl [1, 2, 3, 4, 5, 6, 0] rfl)
                    · have h := br_0 h c92
                      refine lv_aload_n hx hb dX6_copy_95 rfl (lv_at hl 0 rfl) ?_
                      refine lv_iconst (v := (2 : Int32)) hx hb dX6_copy_96 (by decide) ?_
                      obtain ⟨r97, w97_mfinding, w97_mfindings, hc, h⟩ := bd3_some h
                      have hFc := my_freeS hD hS hA
                      refine my_rwi (va_runV (As := [.int (2 : Int32)]) (rest := []) hFix (kX6_found l D T F am mguests mclause mdeeds masked mupper mlower mfinding mreadGuests misSight mat mrowSizes mrows mtextSizes mtexts mdoes mkinds msees mnow mbefore mkeeps mkept mfindings mread maside msteps mtried mbest (2 : Int32) r97 w97_mfinding w97_mfindings hc) (cwV 1 hts gX6_copy_X6_found rfl rfl rfl ⟨rfl, hd_X6_found⟩ ⟨Nat.le_of_ble_eq_true rfl, Nat.le_of_ble_eq_true rfl⟩) (preV_rw hP hKK hD (va_recv hK hP (ci := 4) (q0 := 0) rfl wMo_0)) rfl rfl hl.1 rfl (lv_room (Nat.le_of_ble_eq_true rfl)) dX6_copy_97 ⟨Nat.zero_le _, Nat.zero_le _⟩) hS hFc (fun H1 locs hP1 hD1 hz1 hk1 hS => ?_)
                      have hP : va_P D vwCl (wMo T am mguests mclause mdeeds masked mupper mlower w97_mfinding mreadGuests misSight mat mrowSizes mrows mtextSizes mtexts mdoes mkinds msees mnow mbefore mkeeps mkept w97_mfindings mread maside msteps mtried mbest) H1 := hP1
                      have hD : va_D A (wMo T am mguests mclause mdeeds masked mupper mlower w97_mfinding mreadGuests misSight mat mrowSizes mrows mtextSizes mtexts mdoes mkinds msees mnow mbefore mkeeps mkept w97_mfindings mread maside msteps mtried mbest) := hD1.weaken (fun _ q _ h => hFc q.1 h)
                      generalize H1 = H at hP hS ⊢
                      cases h
                      exact hret _ _ _ _ hP hD hS dX6_copy_100
            · have h := br_0 h c42
              refine lv_aload_n hx hb dX6_copy_45 rfl (lv_at hl 0 rfl) ?_
              refine lv_iconst (v := (1 : Int32)) hx hb dX6_copy_46 (by decide) ?_
              obtain ⟨r47, w47_mfinding, w47_mfindings, hc, h⟩ := bd3_some h
              have hFc := my_freeS hD hS hA
              refine my_rwi (va_runV (As := [.int (1 : Int32)]) (rest := []) hFix (kX6_found l D T F am mguests mclause mdeeds masked mupper mlower mfinding mreadGuests misSight mat mrowSizes mrows mtextSizes mtexts mdoes mkinds msees mnow mbefore mkeeps mkept mfindings mread maside msteps mtried mbest (1 : Int32) r47 w47_mfinding w47_mfindings hc) (cwV 1 hts gX6_copy_X6_found rfl rfl rfl ⟨rfl, hd_X6_found⟩ ⟨Nat.le_of_ble_eq_true rfl, Nat.le_of_ble_eq_true rfl⟩) (preV_rw hP hKK hD (va_recv hK hP (ci := 4) (q0 := 0) rfl wMo_0)) rfl rfl hl.1 rfl (lv_room (Nat.le_of_ble_eq_true rfl)) dX6_copy_47 ⟨Nat.zero_le _, Nat.zero_le _⟩) hS hFc (fun H1 locs hP1 hD1 hz1 hk1 hS => ?_)
              have hP : va_P D vwCl (wMo T am mguests mclause mdeeds masked mupper mlower w47_mfinding mreadGuests misSight mat mrowSizes mrows mtextSizes mtexts mdoes mkinds msees mnow mbefore mkeeps mkept w47_mfindings mread maside msteps mtried mbest) H1 := hP1
              have hD : va_D A (wMo T am mguests mclause mdeeds masked mupper mlower w47_mfinding mreadGuests misSight mat mrowSizes mrows mtextSizes mtexts mdoes mkinds msees mnow mbefore mkeeps mkept w47_mfindings mread maside msteps mtried mbest) := hD1.weaken (fun _ q _ h => hFc q.1 h)
              generalize H1 = H at hP hS ⊢
              cases h
              exact hret _ _ _ _ hP hD hS dX6_copy_50
        · have h := br_0 h c18
          refine lv_aload_n hx hb dX6_copy_21 rfl (lv_at hl 0 rfl) ?_
          refine lv_iconst (v := (5 : Int32)) hx hb dX6_copy_22 (by decide) ?_
          obtain ⟨r23, w23_mfinding, w23_mfindings, hc, h⟩ := bd3_some h
          have hFc := my_freeS hD hS hA
          refine my_rwi (va_runV (As := [.int (5 : Int32)]) (rest := []) hFix (kX6_found l D T F am mguests mclause mdeeds masked mupper mlower mfinding mreadGuests misSight mat mrowSizes mrows mtextSizes mtexts mdoes mkinds msees mnow mbefore mkeeps mkept mfindings mread maside msteps mtried mbest (5 : Int32) r23 w23_mfinding w23_mfindings hc) (cwV 1 hts gX6_copy_X6_found rfl rfl rfl ⟨rfl, hd_X6_found⟩ ⟨Nat.le_of_ble_eq_true rfl, Nat.le_of_ble_eq_true rfl⟩) (preV_rw hP hKK hD (va_recv hK hP (ci := 4) (q0 := 0) rfl wMo_0)) rfl rfl hl.1 rfl (lv_room (Nat.le_of_ble_eq_true rfl)) dX6_copy_23 ⟨Nat.zero_le _, Nat.zero_le _⟩) hS hFc (fun H1 locs hP1 hD1 hz1 hk1 hS => ?_)
          have hP : va_P D vwCl (wMo T am mguests mclause mdeeds masked mupper mlower w23_mfinding mreadGuests misSight mat mrowSizes mrows mtextSizes mtexts mdoes mkinds msees mnow mbefore mkeeps mkept w23_mfindings mread maside msteps mtried mbest) H1 := hP1
          have hD : va_D A (wMo T am mguests mclause mdeeds masked mupper mlower w23_mfinding mreadGuests misSight mat mrowSizes mrows mtextSizes mtexts mdoes mkinds msees mnow mbefore mkeeps mkept w23_mfindings mread maside msteps mtried mbest) := hD1.weaken (fun _ q _ h => hFc q.1 h)
          generalize H1 = H at hP hS ⊢
          cases h
          exact hret _ _ _ _ hP hD hS dX6_copy_26
      · have h := br_1 h c11
        refine lv_iconst (v := (-1 : Int32)) hx hb dX6_copy_14 (by decide) ?_
        cases h
        exact hret _ _ _ _ hP hD hS dX6_copy_15
  exact key _ (fun H locs pc ls hP hD hS hd => W.iret hx hb hr (fun t ht hW => ⟨⟨_, (), rfl, rfl, by show _ ∧ _; rw [ht]; exact ⟨hP, hD⟩⟩, hS.F ht⟩) hS.2.2 hd)
set_option maxHeartbeats 4000000 in
set_option maxRecDepth 100000 in
theorem kX6_mean (l : Launch) (D : va_G) (T : Nat → ClassId) (F : Nat) (am : Nat → Nat) (mguests : Int32) (mclause : Int32) (mdeeds : Int32) (masked : Int32) (mupper : Int64) (mlower : Int64) (mfinding : Int32) (mreadGuests : Int32) (misSight : Int32) (mat : Int32) (mrowSizes : Nat → Int32) (mrows : Nat → Int32) (mtextSizes : Nat → Int32) (mtexts : Nat → Int32) (mdoes : Nat → Int32) (mkinds : Nat → Int32) (msees : Nat → Int32) (mnow : Nat → Int32) (mbefore : Nat → Int32) (mkeeps : Nat → Int32) (mkept : Nat → Int32) (mfindings : Nat → Int32) (mread : Nat → Int32) (maside : Nat → Int32) (msteps : Nat → Int32) (mtried : Nat → Int32) (mbest : Nat → Int32) (x1 : Int32) (r : Int32) (zmasked : Int32) (zmfinding : Int32) (zmfindings : Nat → Int32) (h : fX6_mean F masked mfinding mrowSizes mrows mfindings x1 = some (r, zmasked, zmfinding, zmfindings)) : ∀ sz : Nat, Met l yX6_mean wsX6_mean ({ frames := 2, cells := 0, slots := 0, locals := 45 } : Room) (va_Pc [.ref (am 0), .int x1] (fun U => U.heap.size = sz ∧ va_P D vwCl (wMo T am mguests mclause mdeeds masked mupper mlower mfinding mreadGuests misSight mat mrowSizes mrows mtextSizes mtexts mdoes mkinds msees mnow mbefore mkeeps mkept mfindings mread maside msteps mtried mbest) U.heap ∧ KK D T U ∧ va_D (fun _ => True) (wMo T am mguests mclause mdeeds masked mupper mlower mfinding mreadGuests misSight mat mrowSizes mrows mtextSizes mtexts mdoes mkinds msees mnow mbefore mkeeps mkept mfindings mread maside msteps mtried mbest))) (va_Qi (fun r' (_ : Unit) => r' = r) (fun _ t => va_P D vwCl (wMo T am mguests mclause mdeeds zmasked mupper mlower zmfinding mreadGuests misSight mat mrowSizes mrows mtextSizes mtexts mdoes mkinds msees mnow mbefore mkeeps mkept zmfindings mread maside msteps mtried mbest) t.heap ∧ va_D (va_A (wMo T am mguests mclause mdeeds masked mupper mlower mfinding mreadGuests misSight mat mrowSizes mrows mtextSizes mtexts mdoes mkinds msees mnow mbefore mkeeps mkept mfindings mread maside msteps mtried mbest) sz) (wMo T am mguests mclause mdeeds zmasked mupper mlower zmfinding mreadGuests misSight mat mrowSizes mrows mtextSizes mtexts mdoes mkinds msees mnow mbefore mkeeps mkept zmfindings mread maside msteps mtried mbest)) (va_A (wMo T am mguests mclause mdeeds masked mupper mlower mfinding mreadGuests misSight mat mrowSizes mrows mtextSizes mtexts mdoes mkinds msees mnow mbefore mkeeps mkept mfindings mread maside msteps mtried mbest) sz)) 0 0 (va_A (wMo T am mguests mclause mdeeds masked mupper mlower mfinding mreadGuests misSight mat mrowSizes mrows mtextSizes mtexts mdoes mkinds msees mnow mbefore mkeeps mkept mfindings mread maside msteps mtried mbest) sz) := by
  intro sz
  refine Met.ofW (cc := cX6_mean) (maxL := 5) (ret := some .int) (by decide) rfl ?_
  intro p e s m args below meth c s₁ B hml hv
  obtain ⟨ha, hsz, hP, hKK, hD0⟩ := hv
  have hx := B.exec
  have hb := B.bytes
  have hr := B.returns
  have hts := atoms_spec (ws := wsX6_mean) B.pre
  have hown : s.vm.findClass RX6 = some m.cls := findClass_of_methodNamed B.named
  have hlocks := B.notSynchronized
  have hK := hKK.1
  have hFix : CallFix p m c cX6_mean 5 s args wsX6_mean RX6 := ⟨hx, hb, hml, hown, hts⟩
  have q1 := hts _ (List.mem_of_getElem? (i := 1) (show wsX6_mean[1]? = some (Cond.fieldLink RX6 7 "PartyWillModel" "rowSizes" "[I") from rfl))
  have q2 := hts _ (List.mem_of_getElem? (i := 2) (show wsX6_mean[2]? = some (Cond.fieldLink RX6 13 "PartyWillModel" "rows" "[I") from rfl))
  have iX6 : ∀ w ∈ u_ws RX6 TX6 27, w ∈ wsX6_mean := fun w h => List.mem_cons_of_mem _ (List.mem_append_right _ (h))
  subst hsz
  have hD := hD0.self (sz := s.heap.size)
  generalize hAe : va_A (wMo T am mguests mclause mdeeds masked mupper mlower mfinding mreadGuests misSight mat mrowSizes mrows mtextSizes mtexts mdoes mkinds msees mnow mbefore mkeeps mkept mfindings mread maside msteps mtried mbest) s.heap.size = A at hD ⊢
  have hA : ∀ q : Nat, s.heap.size ≤ q → A q := fun q h => by rw [← hAe]; exact Or.inr h
  have hS : va_S A s.heap s.heap [] := va_S.rf
  have hP : va_P D vwCl (wMo T am mguests mclause mdeeds masked mupper mlower mfinding mreadGuests misSight mat mrowSizes mrows mtextSizes mtexts mdoes mkinds msees mnow mbefore mkeeps mkept mfindings mread maside msteps mtried mbest) s.heap := hP
  obtain ⟨ls, hl, e0⟩ := my_entry (m := m) (n := 5) ha (Nat.le_of_ble_eq_true rfl)
  rw [e0]
  have hl : lv_has ls 5 [(0, .ref (am 0)), (1, .int x1)] := hl
  have key : ∀ Q : State → Prop, (∀ (H : Heap) (locs : List Loc) (pc : Nat) (ls : Array Slot), va_P D vwCl (wMo T am mguests mclause mdeeds zmasked mupper mlower zmfinding mreadGuests misSight mat mrowSizes mrows mtextSizes mtexts mdoes mkinds msees mnow mbefore mkeeps mkept zmfindings mread maside msteps mtried mbest) H → va_D A (wMo T am mguests mclause mdeeds zmasked mupper mlower zmfinding mreadGuests misSight mat mrowSizes mrows mtextSizes mtexts mdoes mkinds msees mnow mbefore mkeeps mkept zmfindings mread maside msteps mtried mbest) → va_S A s.heap H locs → decode cX6_mean pc = .ok (.ireturn, 1) → W p l e ({ frames := 2, cells := 0, slots := 0, locals := 45 } : Room) s m args below meth c H locs 0 0 Q (F0 m pc ls [.int r])) → W p l e ({ frames := 2, cells := 0, slots := 0, locals := 45 } : Room) s m args below meth c s.heap [] 0 0 Q (F0 m 0 ls []) := by
    intro Q hret
    skip
    have l44 : ∀ x1 : Int32, ∀ masked : Int32, ∀ mfinding : Int32, ∀ mfindings : Nat → Int32, ∀ nu : Nat, ∀ x2 : Int64, ∀ x4 : Int32, fX6_mean_l44 F mrowSizes mrows x1 masked mfinding mfindings nu x2 x4 = some (r, zmasked, zmfinding, zmfindings) → ∀ (H : Heap) (locs : List Loc), va_P D vwCl (wMo T am mguests mclause mdeeds masked mupper mlower mfinding mreadGuests misSight mat mrowSizes mrows mtextSizes mtexts mdoes mkinds msees mnow mbefore mkeeps mkept mfindings mread maside msteps mtried mbest) H → va_D A (wMo T am mguests mclause mdeeds masked mupper mlower mfinding mreadGuests misSight mat mrowSizes mrows mtextSizes mtexts mdoes mkinds msees mnow mbefore mkeeps mkept mfindings mread maside msteps mtried mbest) → va_S A s.heap H locs → ∀ (ls : Array Slot), lv_has ls 5 [(0, .ref (am 0)), (1, .int x1), (2, .long x2), (4, .int x4)] → W p l e ({ frames := 2, cells := 0, slots := 0, locals := 45 } : Room) s m args below meth c H locs 0 0 Q (F0 m 44 ls []) := by
      intro x1 masked mfinding mfindings
      intro nu
      induction nu with
      | zero => intro x2 x4 h; exact none_some h
      | succ nu44 ih44 =>
        intro x2 x4 h H locs hP hD hS ls hl
        have h : fX6_mean_l44_b F mrowSizes mrows x1 masked mfinding mfindings (fX6_mean_l44 F mrowSizes mrows x1 masked mfinding mfindings nu44) x2 x4 = some (r, zmasked, zmfinding, zmfindings) := h
        unfold fX6_mean_l44_b at h
        refine lv_iload hx hb dX6_mean_44 (lv_at hl 3 rfl) ?_
        refine lv_aload_n hx hb dX6_mean_46 rfl (lv_at hl 0 rfl) ?_
        refine va_get (D := D) (ci := 4) (C := RX6) (T := TX6) (N := 27) hx hb hts iX6 hown hK hP 0 wMo_0 rfl 0 (by decide) q1 (fun _ h9 => h9) rfl dX6_mean_47 ?_
        refine lv_iload_n hx hb dX6_mean_50 rfl (lv_at hl 1 rfl) ?_
        obtain ⟨hin1, h⟩ := ck_some h
        refine va_iald hx hb hK hP 1 0 wMo_1 rfl hin1 dX6_mean_51 ?_
        refine lv_icmp_ge (tgt := 77) hx hb dX6_mean_52 (by decide) (fun c52 => ?_) (fun c52 => ?_)
        · have h := br_1 h c52
          refine lv_aload_n hx hb dX6_mean_77 rfl (lv_at hl 0 rfl) ?_
          refine lv_lload_n hx hb dX6_mean_78 rfl (lv_at hl 2 rfl) ?_
          refine lv_aload_n hx hb dX6_mean_79 rfl (lv_at hl 0 rfl) ?_
          refine va_get (D := D) (ci := 4) (C := RX6) (T := TX6) (N := 27) hx hb hts iX6 hown hK hP 0 wMo_0 rfl 0 (by decide) q1 (fun _ h9 => h9) rfl dX6_mean_80 ?_
          refine lv_iload_n hx hb dX6_mean_83 rfl (lv_at hl 1 rfl) ?_
          obtain ⟨hin2, h⟩ := ck_some h
          refine va_iald hx hb hK hP 1 0 wMo_1 rfl hin2 dX6_mean_84 ?_
          refine lv_i2l (v := ((mrowSizes x1.toNatClampNeg).toInt64)) hx hb dX6_mean_85 rfl ?_
          obtain ⟨hne, h⟩ := ck_some h
          refine lv_ldiv hx hb dX6_mean_86 hne ?_
          refine lv_l2i (v := ((x2 / ((mrowSizes x1.toNatClampNeg).toInt64)).toInt32)) hx hb dX6_mean_87 rfl ?_
          obtain ⟨r88, w88_masked, hc, h⟩ := bd2_some h
          have hFc := my_freeS hD hS hA
          refine my_rwi (va_runV (As := [.int ((x2 / ((mrowSizes x1.toNatClampNeg).toInt64)).toInt32)]) (rest := []) hFix (kX6_tell l D T F am mguests mclause mdeeds masked mupper mlower mfinding mreadGuests misSight mat mrowSizes mrows mtextSizes mtexts mdoes mkinds msees mnow mbefore mkeeps mkept mfindings mread maside msteps mtried mbest ((x2 / ((mrowSizes x1.toNatClampNeg).toInt64)).toInt32) r88 w88_masked hc) (cwV 1 hts gX6_mean_X6_tell rfl rfl rfl ⟨rfl, hd_X6_tell⟩ ⟨Nat.le_of_ble_eq_true rfl, Nat.le_of_ble_eq_true rfl⟩) (preV_rw hP hKK hD (va_recv hK hP (ci := 4) (q0 := 0) rfl wMo_0)) rfl rfl hl.1 rfl (lv_room (Nat.le_of_ble_eq_true rfl)) dX6_mean_88 ⟨Nat.zero_le _, Nat.zero_le _⟩) hS hFc (fun H1 locs hP1 hD1 hz1 hk1 hS => ?_)
          have hP : va_P D vwCl (wMo T am mguests mclause mdeeds w88_masked mupper mlower mfinding mreadGuests misSight mat mrowSizes mrows mtextSizes mtexts mdoes mkinds msees mnow mbefore mkeeps mkept mfindings mread maside msteps mtried mbest) H1 := hP1
          have hD : va_D A (wMo T am mguests mclause mdeeds w88_masked mupper mlower mfinding mreadGuests misSight mat mrowSizes mrows mtextSizes mtexts mdoes mkinds msees mnow mbefore mkeeps mkept mfindings mread maside msteps mtried mbest) := hD1.weaken (fun _ q _ h => hFc q.1 h)
          generalize H1 = H at hP hS ⊢
          cases h
          exact hret _ _ _ _ hP hD hS dX6_mean_91
        · have h := br_0 h c52
          refine lv_lload_n hx hb dX6_mean_55 rfl (lv_at hl 2 rfl) ?_
          refine lv_aload_n hx hb dX6_mean_56 rfl (lv_at hl 0 rfl) ?_
          refine va_get (D := D) (ci := 4) (C := RX6) (T := TX6) (N := 27) hx hb hts iX6 hown hK hP 0 wMo_0 rfl 1 (by decide) q2 (fun _ h9 => h9) rfl dX6_mean_57 ?_
          refine lv_bipush (v := (40 : Int32)) hx hb dX6_mean_60 (by decide) ?_
          refine lv_iload_n hx hb dX6_mean_62 rfl (lv_at hl 1 rfl) ?_
          refine lv_imul hx hb dX6_mean_63 ?_
          refine lv_iload hx hb dX6_mean_64 (lv_at hl 3 rfl) ?_
          refine lv_iadd hx hb dX6_mean_66 ?_
          obtain ⟨hin3, h⟩ := ck_some h
          refine va_iald hx hb hK hP 2 0 wMo_2 rfl hin3 dX6_mean_67 ?_
          refine lv_i2l (v := ((mrows (((40 : Int32) * x1) + x4).toNatClampNeg).toInt64)) hx hb dX6_mean_68 rfl ?_
          refine lv_ladd hx hb dX6_mean_69 ?_
          refine lv_lstore_n (lv' := [(2, .long (x2 + ((mrows (((40 : Int32) * x1) + x4).toNatClampNeg).toInt64))), (0, .ref (am 0)), (1, .int x1), (4, .int x4)]) hx hb dX6_mean_70 rfl hl (by decide) rfl (fun ls hl => ?_)
          refine lv_iinc (v := (x4 + (1 : Int32))) (lv' := [(4, .int (x4 + (1 : Int32))), (2, .long (x2 + ((mrows (((40 : Int32) * x1) + x4).toNatClampNeg).toInt64))), (0, .ref (am 0)), (1, .int x1)]) hx hb dX6_mean_71 hl (k := 3) rfl rfl (by decide) rfl (fun ls hl => ?_)
          refine lv_goto (tgt := 44) hx hb dX6_mean_74 (by decide) ?_
          exact ih44 (x2 + ((mrows (((40 : Int32) * x1) + x4).toNatClampNeg).toInt64)) (x4 + (1 : Int32)) h _ _ hP hD hS _ (lv_sub hl [2, 3, 1, 0] rfl)
    unfold fX6_mean at h
    refine lv_iload_n hx hb dX6_mean_0 rfl (lv_at hl 1 rfl) ?_
    obtain ⟨r1, hc, h⟩ := bd1_some h
    refine my_roz (va_Run.run (va_runS (As := [.int x1]) (rest := []) hFix (kX6_isRow l D T F x1 r1 hc) (va_cwS 1 hts gX6_mean_X6_isRow rfl rfl rfl hd_X6_isRow ⟨Nat.le_of_ble_eq_true rfl, Nat.le_of_ble_eq_true rfl⟩) (preS_ro va_nil hKK) rfl rfl hl.1 rfl (lv_room (Nat.le_of_ble_eq_true rfl)) dX6_mean_1 ⟨Nat.zero_le _, Nat.zero_le _⟩)) (fun hb1 => ?_)
    refine lv_if_ne (tgt := 9) hx hb dX6_mean_4 (by decide) (fun c4 => ?_) (fun c4 => ?_)
    · have h := br_0 h c4
      refine lv_aload_n hx hb dX6_mean_9 rfl (lv_at hl 0 rfl) ?_
      refine va_get (D := D) (ci := 4) (C := RX6) (T := TX6) (N := 27) hx hb hts iX6 hown hK hP 0 wMo_0 rfl 0 (by decide) q1 (fun _ h9 => h9) rfl dX6_mean_10 ?_
      refine lv_iload_n hx hb dX6_mean_13 rfl (lv_at hl 1 rfl) ?_
      obtain ⟨hin4, h⟩ := ck_some h
      refine va_iald hx hb hK hP 1 0 wMo_1 rfl hin4 dX6_mean_14 ?_
      refine lv_if_ge (tgt := 24) hx hb dX6_mean_15 (by decide) (fun c15 => ?_) (fun c15 => ?_)
      · have h := br_1 h c15
        refine lv_aload_n hx hb dX6_mean_24 rfl (lv_at hl 0 rfl) ?_
        refine va_get (D := D) (ci := 4) (C := RX6) (T := TX6) (N := 27) hx hb hts iX6 hown hK hP 0 wMo_0 rfl 0 (by decide) q1 (fun _ h9 => h9) rfl dX6_mean_25 ?_
        refine lv_iload_n hx hb dX6_mean_28 rfl (lv_at hl 1 rfl) ?_
        obtain ⟨hin5, h⟩ := ck_some h
        refine va_iald hx hb hK hP 1 0 wMo_1 rfl hin5 dX6_mean_29 ?_
        refine lv_if_ne (tgt := 39) hx hb dX6_mean_30 (by decide) (fun c30 => ?_) (fun c30 => ?_)
        · have h := br_0 h c30
          refine lv_lconst (v := (0 : Int64)) hx hb dX6_mean_39 (by decide) ?_
          refine lv_lstore_n (lv' := [(2, .long (0 : Int64)), (0, .ref (am 0)), (1, .int x1)]) hx hb dX6_mean_40 rfl hl (by decide) rfl (fun ls hl => ?_)
          refine lv_iconst (v := (0 : Int32)) hx hb dX6_mean_41 (by decide) ?_
          refine lv_istore (lv' := [(4, .int (0 : Int32)), (2, .long (0 : Int64)), (0, .ref (am 0)), (1, .int x1)]) hx hb dX6_mean_42 hl (by decide) rfl (fun ls hl => ?_)
          exact l44 x1 masked mfinding mfindings F (0 : Int64) (0 : Int32) h _ _ hP hD hS _ (lv_sub hl [2, 3, 1, 0] rfl)
        · have h := br_1 h c30
          refine lv_aload_n hx hb dX6_mean_33 rfl (lv_at hl 0 rfl) ?_
          refine lv_iconst (v := (4 : Int32)) hx hb dX6_mean_34 (by decide) ?_
          obtain ⟨r35, w35_mfinding, w35_mfindings, hc, h⟩ := bd3_some h
          have hFc := my_freeS hD hS hA
          refine my_rwi (va_runV (As := [.int (4 : Int32)]) (rest := []) hFix (kX6_found l D T F am mguests mclause mdeeds masked mupper mlower mfinding mreadGuests misSight mat mrowSizes mrows mtextSizes mtexts mdoes mkinds msees mnow mbefore mkeeps mkept mfindings mread maside msteps mtried mbest (4 : Int32) r35 w35_mfinding w35_mfindings hc) (cwV 1 hts gX6_mean_X6_found rfl rfl rfl ⟨rfl, hd_X6_found⟩ ⟨Nat.le_of_ble_eq_true rfl, Nat.le_of_ble_eq_true rfl⟩) (preV_rw hP hKK hD (va_recv hK hP (ci := 4) (q0 := 0) rfl wMo_0)) rfl rfl hl.1 rfl (lv_room (Nat.le_of_ble_eq_true rfl)) dX6_mean_35 ⟨Nat.zero_le _, Nat.zero_le _⟩) hS hFc (fun H1 locs hP1 hD1 hz1 hk1 hS => ?_)
          have hP : va_P D vwCl (wMo T am mguests mclause mdeeds masked mupper mlower w35_mfinding mreadGuests misSight mat mrowSizes mrows mtextSizes mtexts mdoes mkinds msees mnow mbefore mkeeps mkept w35_mfindings mread maside msteps mtried mbest) H1 := hP1
          have hD : va_D A (wMo T am mguests mclause mdeeds masked mupper mlower w35_mfinding mreadGuests misSight mat mrowSizes mrows mtextSizes mtexts mdoes mkinds msees mnow mbefore mkeeps mkept w35_mfindings mread maside msteps mtried mbest) := hD1.weaken (fun _ q _ h => hFc q.1 h)
          generalize H1 = H at hP hS ⊢
          cases h
          exact hret _ _ _ _ hP hD hS dX6_mean_38
      · have h := br_0 h c15
        refine lv_aload_n hx hb dX6_mean_18 rfl (lv_at hl 0 rfl) ?_
        refine lv_iconst (v := (1 : Int32)) hx hb dX6_mean_19 (by decide) ?_
        obtain ⟨r20, w20_mfinding, w20_mfindings, hc, h⟩ := bd3_some h
        have hFc := my_freeS hD hS hA
        refine my_rwi (va_runV (As := [.int (1 : Int32)]) (rest := []) hFix (kX6_found l D T F am mguests mclause mdeeds masked mupper mlower mfinding mreadGuests misSight mat mrowSizes mrows mtextSizes mtexts mdoes mkinds msees mnow mbefore mkeeps mkept mfindings mread maside msteps mtried mbest (1 : Int32) r20 w20_mfinding w20_mfindings hc) (cwV 1 hts gX6_mean_X6_found rfl rfl rfl ⟨rfl, hd_X6_found⟩ ⟨Nat.le_of_ble_eq_true rfl, Nat.le_of_ble_eq_true rfl⟩) (preV_rw hP hKK hD (va_recv hK hP (ci := 4) (q0 := 0) rfl wMo_0)) rfl rfl hl.1 rfl (lv_room (Nat.le_of_ble_eq_true rfl)) dX6_mean_20 ⟨Nat.zero_le _, Nat.zero_le _⟩) hS hFc (fun H1 locs hP1 hD1 hz1 hk1 hS => ?_)
        have hP : va_P D vwCl (wMo T am mguests mclause mdeeds masked mupper mlower w20_mfinding mreadGuests misSight mat mrowSizes mrows mtextSizes mtexts mdoes mkinds msees mnow mbefore mkeeps mkept w20_mfindings mread maside msteps mtried mbest) H1 := hP1
        have hD : va_D A (wMo T am mguests mclause mdeeds masked mupper mlower w20_mfinding mreadGuests misSight mat mrowSizes mrows mtextSizes mtexts mdoes mkinds msees mnow mbefore mkeeps mkept w20_mfindings mread maside msteps mtried mbest) := hD1.weaken (fun _ q _ h => hFc q.1 h)
        generalize H1 = H at hP hS ⊢
        cases h
        exact hret _ _ _ _ hP hD hS dX6_mean_23
    · have h := br_1 h c4
      refine lv_iconst (v := (-1 : Int32)) hx hb dX6_mean_7 (by decide) ?_
      cases h
      exact hret _ _ _ _ hP hD hS dX6_mean_8
  exact key _ (fun H locs pc ls hP hD hS hd => W.iret hx hb hr (fun t ht hW => ⟨⟨_, (), rfl, rfl, by show _ ∧ _; rw [ht]; exact ⟨hP, hD⟩⟩, hS.F ht⟩) hS.2.2 hd)
set_option maxHeartbeats 4000000 in
set_option maxRecDepth 100000 in
theorem kX6_text (l : Launch) (D : va_G) (T : Nat → ClassId) (F : Nat) (am : Nat → Nat) (mguests : Int32) (mclause : Int32) (mdeeds : Int32) (masked : Int32) (mupper : Int64) (mlower : Int64) (mfinding : Int32) (mreadGuests : Int32) (misSight : Int32) (mat : Int32) (mrowSizes : Nat → Int32) (mrows : Nat → Int32) (mtextSizes : Nat → Int32) (mtexts : Nat → Int32) (mdoes : Nat → Int32) (mkinds : Nat → Int32) (msees : Nat → Int32) (mnow : Nat → Int32) (mbefore : Nat → Int32) (mkeeps : Nat → Int32) (mkept : Nat → Int32) (mfindings : Nat → Int32) (mread : Nat → Int32) (maside : Nat → Int32) (msteps : Nat → Int32) (mtried : Nat → Int32) (mbest : Nat → Int32) (x1 : Int32) (x2 : Int32) (r : Int32) (zmfinding : Int32) (zmtextSizes : Nat → Int32) (zmtexts : Nat → Int32) (zmfindings : Nat → Int32) (h : fX6_text F mfinding mtextSizes mtexts mfindings x1 x2 = some (r, zmfinding, zmtextSizes, zmtexts, zmfindings)) : ∀ sz : Nat, Met l yX6_text wsX6_text ({ frames := 2, cells := 0, slots := 0, locals := 45 } : Room) (va_Pc [.ref (am 0), .int x1, .int x2] (fun U => U.heap.size = sz ∧ va_P D vwCl (wMo T am mguests mclause mdeeds masked mupper mlower mfinding mreadGuests misSight mat mrowSizes mrows mtextSizes mtexts mdoes mkinds msees mnow mbefore mkeeps mkept mfindings mread maside msteps mtried mbest) U.heap ∧ KK D T U ∧ va_D (fun _ => True) (wMo T am mguests mclause mdeeds masked mupper mlower mfinding mreadGuests misSight mat mrowSizes mrows mtextSizes mtexts mdoes mkinds msees mnow mbefore mkeeps mkept mfindings mread maside msteps mtried mbest))) (va_Qi (fun r' (_ : Unit) => r' = r) (fun _ t => va_P D vwCl (wMo T am mguests mclause mdeeds masked mupper mlower zmfinding mreadGuests misSight mat mrowSizes mrows zmtextSizes zmtexts mdoes mkinds msees mnow mbefore mkeeps mkept zmfindings mread maside msteps mtried mbest) t.heap ∧ va_D (va_A (wMo T am mguests mclause mdeeds masked mupper mlower mfinding mreadGuests misSight mat mrowSizes mrows mtextSizes mtexts mdoes mkinds msees mnow mbefore mkeeps mkept mfindings mread maside msteps mtried mbest) sz) (wMo T am mguests mclause mdeeds masked mupper mlower zmfinding mreadGuests misSight mat mrowSizes mrows zmtextSizes zmtexts mdoes mkinds msees mnow mbefore mkeeps mkept zmfindings mread maside msteps mtried mbest)) (va_A (wMo T am mguests mclause mdeeds masked mupper mlower mfinding mreadGuests misSight mat mrowSizes mrows mtextSizes mtexts mdoes mkinds msees mnow mbefore mkeeps mkept mfindings mread maside msteps mtried mbest) sz)) 0 0 (va_A (wMo T am mguests mclause mdeeds masked mupper mlower mfinding mreadGuests misSight mat mrowSizes mrows mtextSizes mtexts mdoes mkinds msees mnow mbefore mkeeps mkept mfindings mread maside msteps mtried mbest) sz) := by
  intro sz
  refine Met.ofW (cc := cX6_text) (maxL := 4) (ret := some .int) (by decide) rfl ?_
  intro p e s m args below meth c s₁ B hml hv
  obtain ⟨ha, hsz, hP, hKK, hD0⟩ := hv
  have hx := B.exec
  have hb := B.bytes
  have hr := B.returns
  have hts := atoms_spec (ws := wsX6_text) B.pre
  have hown : s.vm.findClass RX6 = some m.cls := findClass_of_methodNamed B.named
  have hlocks := B.notSynchronized
  have hK := hKK.1
  have hFix : CallFix p m c cX6_text 4 s args wsX6_text RX6 := ⟨hx, hb, hml, hown, hts⟩
  have q1 := hts _ (List.mem_of_getElem? (i := 1) (show wsX6_text[1]? = some (Cond.fieldLink RX6 16 "PartyWillModel" "textSizes" "[I") from rfl))
  have q2 := hts _ (List.mem_of_getElem? (i := 2) (show wsX6_text[2]? = some (Cond.fieldLink RX6 19 "PartyWillModel" "texts" "[I") from rfl))
  have iX6 : ∀ w ∈ u_ws RX6 TX6 27, w ∈ wsX6_text := fun w h => List.mem_cons_of_mem _ (List.mem_append_right _ (h))
  subst hsz
  have hD := hD0.self (sz := s.heap.size)
  generalize hAe : va_A (wMo T am mguests mclause mdeeds masked mupper mlower mfinding mreadGuests misSight mat mrowSizes mrows mtextSizes mtexts mdoes mkinds msees mnow mbefore mkeeps mkept mfindings mread maside msteps mtried mbest) s.heap.size = A at hD ⊢
  have hA : ∀ q : Nat, s.heap.size ≤ q → A q := fun q h => by rw [← hAe]; exact Or.inr h
  have hS : va_S A s.heap s.heap [] := va_S.rf
  have hP : va_P D vwCl (wMo T am mguests mclause mdeeds masked mupper mlower mfinding mreadGuests misSight mat mrowSizes mrows mtextSizes mtexts mdoes mkinds msees mnow mbefore mkeeps mkept mfindings mread maside msteps mtried mbest) s.heap := hP
  obtain ⟨ls, hl, e0⟩ := my_entry (m := m) (n := 4) ha (Nat.le_of_ble_eq_true rfl)
  rw [e0]
  have hl : lv_has ls 4 [(0, .ref (am 0)), (1, .int x1), (2, .int x2)] := hl
  have key : ∀ Q : State → Prop, (∀ (H : Heap) (locs : List Loc) (pc : Nat) (ls : Array Slot), va_P D vwCl (wMo T am mguests mclause mdeeds masked mupper mlower zmfinding mreadGuests misSight mat mrowSizes mrows zmtextSizes zmtexts mdoes mkinds msees mnow mbefore mkeeps mkept zmfindings mread maside msteps mtried mbest) H → va_D A (wMo T am mguests mclause mdeeds masked mupper mlower zmfinding mreadGuests misSight mat mrowSizes mrows zmtextSizes zmtexts mdoes mkinds msees mnow mbefore mkeeps mkept zmfindings mread maside msteps mtried mbest) → va_S A s.heap H locs → decode cX6_text pc = .ok (.ireturn, 1) → W p l e ({ frames := 2, cells := 0, slots := 0, locals := 45 } : Room) s m args below meth c H locs 0 0 Q (F0 m pc ls [.int r])) → W p l e ({ frames := 2, cells := 0, slots := 0, locals := 45 } : Room) s m args below meth c s.heap [] 0 0 Q (F0 m 0 ls []) := by
    intro Q hret
    skip
    have l34 : ∀ x1 : Int32, ∀ x2 : Int32, ∀ mfinding : Int32, ∀ mtextSizes : Nat → Int32, ∀ mfindings : Nat → Int32, ∀ nu : Nat, ∀ x3 : Int32, ∀ mtexts : Nat → Int32, fX6_text_l34 F x1 x2 mfinding mtextSizes mfindings nu x3 mtexts = some (r, zmfinding, zmtextSizes, zmtexts, zmfindings) → ∀ (H : Heap) (locs : List Loc), va_P D vwCl (wMo T am mguests mclause mdeeds masked mupper mlower mfinding mreadGuests misSight mat mrowSizes mrows mtextSizes mtexts mdoes mkinds msees mnow mbefore mkeeps mkept mfindings mread maside msteps mtried mbest) H → va_D A (wMo T am mguests mclause mdeeds masked mupper mlower mfinding mreadGuests misSight mat mrowSizes mrows mtextSizes mtexts mdoes mkinds msees mnow mbefore mkeeps mkept mfindings mread maside msteps mtried mbest) → va_S A s.heap H locs → ∀ (ls : Array Slot), lv_has ls 4 [(0, .ref (am 0)), (1, .int x1), (2, .int x2), (3, .int x3)] → W p l e ({ frames := 2, cells := 0, slots := 0, locals := 45 } : Room) s m args below meth c H locs 0 0 Q (F0 m 34 ls []) := by
      intro x1 x2 mfinding mtextSizes mfindings
      intro nu
      induction nu with
      | zero => intro x3 mtexts h; exact none_some h
      | succ nu34 ih34 =>
        intro x3 mtexts h H locs hP hD hS ls hl
        have h : fX6_text_l34_b F x1 x2 mfinding mtextSizes mfindings (fX6_text_l34 F x1 x2 mfinding mtextSizes mfindings nu34) x3 mtexts = some (r, zmfinding, zmtextSizes, zmtexts, zmfindings) := h
        unfold fX6_text_l34_b at h
        refine lv_iload_n hx hb dX6_text_34 rfl (lv_at hl 3 rfl) ?_
        refine lv_bipush (v := (80 : Int32)) hx hb dX6_text_35 (by decide) ?_
        refine lv_icmp_ge (tgt := 59) hx hb dX6_text_37 (by decide) (fun c37 => ?_) (fun c37 => ?_)
        · have h := br_1 h c37
          refine lv_iload_n hx hb dX6_text_59 rfl (lv_at hl 2 rfl) ?_
          cases h
          exact hret _ _ _ _ hP hD hS dX6_text_60
        · have h := br_0 h c37
          refine lv_aload_n hx hb dX6_text_40 rfl (lv_at hl 0 rfl) ?_
          refine va_get (D := D) (ci := 4) (C := RX6) (T := TX6) (N := 27) hx hb hts iX6 hown hK hP 0 wMo_0 rfl 3 (by decide) q2 (fun _ h9 => h9) rfl dX6_text_41 ?_
          refine lv_bipush (v := (80 : Int32)) hx hb dX6_text_44 (by decide) ?_
          refine lv_iload_n hx hb dX6_text_46 rfl (lv_at hl 1 rfl) ?_
          refine lv_imul hx hb dX6_text_47 ?_
          refine lv_iload_n hx hb dX6_text_48 rfl (lv_at hl 3 rfl) ?_
          refine lv_iadd hx hb dX6_text_49 ?_
          refine lv_bipush (v := (32 : Int32)) hx hb dX6_text_50 (by decide) ?_
          obtain ⟨hin1, h⟩ := ck_some h
          refine va_iast hx hb hK hP hD hS 4 0 wMo_4 rfl hin1 dX6_text_52 (fun H locs hP hD hS => ?_)
          have hP : va_P D vwCl (wMo T am mguests mclause mdeeds masked mupper mlower mfinding mreadGuests misSight mat mrowSizes mrows mtextSizes (upd mtexts (((80 : Int32) * x1) + x3).toNatClampNeg (32 : Int32)) mdoes mkinds msees mnow mbefore mkeeps mkept mfindings mread maside msteps mtried mbest) H := hP
          have hD : va_D A (wMo T am mguests mclause mdeeds masked mupper mlower mfinding mreadGuests misSight mat mrowSizes mrows mtextSizes (upd mtexts (((80 : Int32) * x1) + x3).toNatClampNeg (32 : Int32)) mdoes mkinds msees mnow mbefore mkeeps mkept mfindings mread maside msteps mtried mbest) := hD
          refine lv_iinc (v := (x3 + (1 : Int32))) (lv' := [(3, .int (x3 + (1 : Int32))), (0, .ref (am 0)), (1, .int x1), (2, .int x2)]) hx hb dX6_text_53 hl (k := 3) rfl rfl (by decide) rfl (fun ls hl => ?_)
          refine lv_goto (tgt := 34) hx hb dX6_text_56 (by decide) ?_
          exact ih34 (x3 + (1 : Int32)) (upd mtexts (((80 : Int32) * x1) + x3).toNatClampNeg (32 : Int32)) h _ _ hP hD hS _ (lv_sub hl [1, 2, 3, 0] rfl)
    unfold fX6_text at h
    refine lv_iload_n hx hb dX6_text_0 rfl (lv_at hl 1 rfl) ?_
    obtain ⟨r1, hc, h⟩ := bd1_some h
    refine my_roz (va_Run.run (va_runS (As := [.int x1]) (rest := []) hFix (kX6_isText l D T F x1 r1 hc) (va_cwS 1 hts gX6_text_X6_isText rfl rfl rfl hd_X6_isText ⟨Nat.le_of_ble_eq_true rfl, Nat.le_of_ble_eq_true rfl⟩) (preS_ro va_nil hKK) rfl rfl hl.1 rfl (lv_room (Nat.le_of_ble_eq_true rfl)) dX6_text_1 ⟨Nat.zero_le _, Nat.zero_le _⟩)) (fun hb1 => ?_)
    refine lv_if_eq (tgt := 13) hx hb dX6_text_4 (by decide) (fun c4 => ?_) (fun c4 => ?_)
    · have h := br_1 h c4
      refine lv_iconst (v := (-1 : Int32)) hx hb dX6_text_13 (by decide) ?_
      cases h
      exact hret _ _ _ _ hP hD hS dX6_text_14
    · have h := br_0 h c4
      refine lv_iload_n hx hb dX6_text_7 rfl (lv_at hl 2 rfl) ?_
      refine lv_bipush (v := (80 : Int32)) hx hb dX6_text_8 (by decide) ?_
      refine lv_icmp_le (tgt := 15) hx hb dX6_text_10 (by decide) (fun c10 => ?_) (fun c10 => ?_)
      · have h := br_1 h c10
        refine lv_iload_n hx hb dX6_text_15 rfl (lv_at hl 2 rfl) ?_
        refine lv_if_ge (tgt := 25) hx hb dX6_text_16 (by decide) (fun c16 => ?_) (fun c16 => ?_)
        · have h := br_1 h c16
          refine lv_aload_n hx hb dX6_text_25 rfl (lv_at hl 0 rfl) ?_
          refine va_get (D := D) (ci := 4) (C := RX6) (T := TX6) (N := 27) hx hb hts iX6 hown hK hP 0 wMo_0 rfl 2 (by decide) q1 (fun _ h9 => h9) rfl dX6_text_26 ?_
          refine lv_iload_n hx hb dX6_text_29 rfl (lv_at hl 1 rfl) ?_
          refine lv_iload_n hx hb dX6_text_30 rfl (lv_at hl 2 rfl) ?_
          obtain ⟨hin2, h⟩ := ck_some h
          refine va_iast hx hb hK hP hD hS 3 0 wMo_3 rfl hin2 dX6_text_31 (fun H locs hP hD hS => ?_)
          have hP : va_P D vwCl (wMo T am mguests mclause mdeeds masked mupper mlower mfinding mreadGuests misSight mat mrowSizes mrows (upd mtextSizes x1.toNatClampNeg x2) mtexts mdoes mkinds msees mnow mbefore mkeeps mkept mfindings mread maside msteps mtried mbest) H := hP
          have hD : va_D A (wMo T am mguests mclause mdeeds masked mupper mlower mfinding mreadGuests misSight mat mrowSizes mrows (upd mtextSizes x1.toNatClampNeg x2) mtexts mdoes mkinds msees mnow mbefore mkeeps mkept mfindings mread maside msteps mtried mbest) := hD
          refine lv_iconst (v := (0 : Int32)) hx hb dX6_text_32 (by decide) ?_
          refine lv_istore_n (lv' := [(3, .int (0 : Int32)), (0, .ref (am 0)), (1, .int x1), (2, .int x2)]) hx hb dX6_text_33 rfl hl (by decide) rfl (fun ls hl => ?_)
          exact l34 x1 x2 mfinding (upd mtextSizes x1.toNatClampNeg x2) mfindings F (0 : Int32) mtexts h _ _ hP hD hS _ (lv_sub hl [1, 2, 3, 0] rfl)
        · have h := br_0 h c16
          refine lv_aload_n hx hb dX6_text_19 rfl (lv_at hl 0 rfl) ?_
          refine lv_iconst (v := (5 : Int32)) hx hb dX6_text_20 (by decide) ?_
          obtain ⟨r21, w21_mfinding, w21_mfindings, hc, h⟩ := bd3_some h
          have hFc := my_freeS hD hS hA
          refine my_rwi (va_runV (As := [.int (5 : Int32)]) (rest := []) hFix (kX6_found l D T F am mguests mclause mdeeds masked mupper mlower mfinding mreadGuests misSight mat mrowSizes mrows mtextSizes mtexts mdoes mkinds msees mnow mbefore mkeeps mkept mfindings mread maside msteps mtried mbest (5 : Int32) r21 w21_mfinding w21_mfindings hc) (cwV 1 hts gX6_text_X6_found rfl rfl rfl ⟨rfl, hd_X6_found⟩ ⟨Nat.le_of_ble_eq_true rfl, Nat.le_of_ble_eq_true rfl⟩) (preV_rw hP hKK hD (va_recv hK hP (ci := 4) (q0 := 0) rfl wMo_0)) rfl rfl hl.1 rfl (lv_room (Nat.le_of_ble_eq_true rfl)) dX6_text_21 ⟨Nat.zero_le _, Nat.zero_le _⟩) hS hFc (fun H1 locs hP1 hD1 hz1 hk1 hS => ?_)
          have hP : va_P D vwCl (wMo T am mguests mclause mdeeds masked mupper mlower w21_mfinding mreadGuests misSight mat mrowSizes mrows mtextSizes mtexts mdoes mkinds msees mnow mbefore mkeeps mkept w21_mfindings mread maside msteps mtried mbest) H1 := hP1
          have hD : va_D A (wMo T am mguests mclause mdeeds masked mupper mlower w21_mfinding mreadGuests misSight mat mrowSizes mrows mtextSizes mtexts mdoes mkinds msees mnow mbefore mkeeps mkept w21_mfindings mread maside msteps mtried mbest) := hD1.weaken (fun _ q _ h => hFc q.1 h)
          generalize H1 = H at hP hS ⊢
          cases h
          exact hret _ _ _ _ hP hD hS dX6_text_24
      · have h := br_0 h c10
        refine lv_iconst (v := (-1 : Int32)) hx hb dX6_text_13 (by decide) ?_
        cases h
        exact hret _ _ _ _ hP hD hS dX6_text_14
  exact key _ (fun H locs pc ls hP hD hS hd => W.iret hx hb hr (fun t ht hW => ⟨⟨_, (), rfl, rfl, by show _ ∧ _; rw [ht]; exact ⟨hP, hD⟩⟩, hS.F ht⟩) hS.2.2 hd)
set_option maxHeartbeats 4000000 in
set_option maxRecDepth 100000 in
theorem kX6_put (l : Launch) (D : va_G) (T : Nat → ClassId) (F : Nat) (am : Nat → Nat) (mguests : Int32) (mclause : Int32) (mdeeds : Int32) (masked : Int32) (mupper : Int64) (mlower : Int64) (mfinding : Int32) (mreadGuests : Int32) (misSight : Int32) (mat : Int32) (mrowSizes : Nat → Int32) (mrows : Nat → Int32) (mtextSizes : Nat → Int32) (mtexts : Nat → Int32) (mdoes : Nat → Int32) (mkinds : Nat → Int32) (msees : Nat → Int32) (mnow : Nat → Int32) (mbefore : Nat → Int32) (mkeeps : Nat → Int32) (mkept : Nat → Int32) (mfindings : Nat → Int32) (mread : Nat → Int32) (maside : Nat → Int32) (msteps : Nat → Int32) (mtried : Nat → Int32) (mbest : Nat → Int32) (x1 : Int32) (x2 : Int32) (x3 : Int32) (r : Int32) (zmfinding : Int32) (zmtexts : Nat → Int32) (zmfindings : Nat → Int32) (h : fX6_put F mfinding mtextSizes mtexts mfindings x1 x2 x3 = some (r, zmfinding, zmtexts, zmfindings)) : ∀ sz : Nat, Met l yX6_put wsX6_put ({ frames := 2, cells := 0, slots := 0, locals := 45 } : Room) (va_Pc [.ref (am 0), .int x1, .int x2, .int x3] (fun U => U.heap.size = sz ∧ va_P D vwCl (wMo T am mguests mclause mdeeds masked mupper mlower mfinding mreadGuests misSight mat mrowSizes mrows mtextSizes mtexts mdoes mkinds msees mnow mbefore mkeeps mkept mfindings mread maside msteps mtried mbest) U.heap ∧ KK D T U ∧ va_D (fun _ => True) (wMo T am mguests mclause mdeeds masked mupper mlower mfinding mreadGuests misSight mat mrowSizes mrows mtextSizes mtexts mdoes mkinds msees mnow mbefore mkeeps mkept mfindings mread maside msteps mtried mbest))) (va_Qi (fun r' (_ : Unit) => r' = r) (fun _ t => va_P D vwCl (wMo T am mguests mclause mdeeds masked mupper mlower zmfinding mreadGuests misSight mat mrowSizes mrows mtextSizes zmtexts mdoes mkinds msees mnow mbefore mkeeps mkept zmfindings mread maside msteps mtried mbest) t.heap ∧ va_D (va_A (wMo T am mguests mclause mdeeds masked mupper mlower mfinding mreadGuests misSight mat mrowSizes mrows mtextSizes mtexts mdoes mkinds msees mnow mbefore mkeeps mkept mfindings mread maside msteps mtried mbest) sz) (wMo T am mguests mclause mdeeds masked mupper mlower zmfinding mreadGuests misSight mat mrowSizes mrows mtextSizes zmtexts mdoes mkinds msees mnow mbefore mkeeps mkept zmfindings mread maside msteps mtried mbest)) (va_A (wMo T am mguests mclause mdeeds masked mupper mlower mfinding mreadGuests misSight mat mrowSizes mrows mtextSizes mtexts mdoes mkinds msees mnow mbefore mkeeps mkept mfindings mread maside msteps mtried mbest) sz)) 0 0 (va_A (wMo T am mguests mclause mdeeds masked mupper mlower mfinding mreadGuests misSight mat mrowSizes mrows mtextSizes mtexts mdoes mkinds msees mnow mbefore mkeeps mkept mfindings mread maside msteps mtried mbest) sz) := by
  intro sz
  refine Met.ofW (cc := cX6_put) (maxL := 5) (ret := some .int) (by decide) rfl ?_
  intro p e s m args below meth c s₁ B hml hv
  obtain ⟨ha, hsz, hP, hKK, hD0⟩ := hv
  have hx := B.exec
  have hb := B.bytes
  have hr := B.returns
  have hts := atoms_spec (ws := wsX6_put) B.pre
  have hown : s.vm.findClass RX6 = some m.cls := findClass_of_methodNamed B.named
  have hlocks := B.notSynchronized
  have hK := hKK.1
  have hFix : CallFix p m c cX6_put 5 s args wsX6_put RX6 := ⟨hx, hb, hml, hown, hts⟩
  have q1 := hts _ (List.mem_of_getElem? (i := 1) (show wsX6_put[1]? = some (Cond.fieldLink RX6 16 "PartyWillModel" "textSizes" "[I") from rfl))
  have q2 := hts _ (List.mem_of_getElem? (i := 2) (show wsX6_put[2]? = some (Cond.fieldLink RX6 19 "PartyWillModel" "texts" "[I") from rfl))
  have iX6 : ∀ w ∈ u_ws RX6 TX6 27, w ∈ wsX6_put := fun w h => List.mem_cons_of_mem _ (List.mem_append_right _ (h))
  subst hsz
  have hD := hD0.self (sz := s.heap.size)
  generalize hAe : va_A (wMo T am mguests mclause mdeeds masked mupper mlower mfinding mreadGuests misSight mat mrowSizes mrows mtextSizes mtexts mdoes mkinds msees mnow mbefore mkeeps mkept mfindings mread maside msteps mtried mbest) s.heap.size = A at hD ⊢
  have hA : ∀ q : Nat, s.heap.size ≤ q → A q := fun q h => by rw [← hAe]; exact Or.inr h
  have hS : va_S A s.heap s.heap [] := va_S.rf
  have hP : va_P D vwCl (wMo T am mguests mclause mdeeds masked mupper mlower mfinding mreadGuests misSight mat mrowSizes mrows mtextSizes mtexts mdoes mkinds msees mnow mbefore mkeeps mkept mfindings mread maside msteps mtried mbest) s.heap := hP
  obtain ⟨ls, hl, e0⟩ := my_entry (m := m) (n := 5) ha (Nat.le_of_ble_eq_true rfl)
  rw [e0]
  have hl : lv_has ls 5 [(0, .ref (am 0)), (1, .int x1), (2, .int x2), (3, .int x3)] := hl
  have key : ∀ Q : State → Prop, (∀ (H : Heap) (locs : List Loc) (pc : Nat) (ls : Array Slot), va_P D vwCl (wMo T am mguests mclause mdeeds masked mupper mlower zmfinding mreadGuests misSight mat mrowSizes mrows mtextSizes zmtexts mdoes mkinds msees mnow mbefore mkeeps mkept zmfindings mread maside msteps mtried mbest) H → va_D A (wMo T am mguests mclause mdeeds masked mupper mlower zmfinding mreadGuests misSight mat mrowSizes mrows mtextSizes zmtexts mdoes mkinds msees mnow mbefore mkeeps mkept zmfindings mread maside msteps mtried mbest) → va_S A s.heap H locs → decode cX6_put pc = .ok (.ireturn, 1) → W p l e ({ frames := 2, cells := 0, slots := 0, locals := 45 } : Room) s m args below meth c H locs 0 0 Q (F0 m pc ls [.int r])) → W p l e ({ frames := 2, cells := 0, slots := 0, locals := 45 } : Room) s m args below meth c s.heap [] 0 0 Q (F0 m 0 ls []) := by
    intro Q hret
    skip
    unfold fX6_put at h
    refine lv_iload_n hx hb dX6_put_0 rfl (lv_at hl 1 rfl) ?_
    obtain ⟨r1, hc, h⟩ := bd1_some h
    refine my_roz (va_Run.run (va_runS (As := [.int x1]) (rest := []) hFix (kX6_isText l D T F x1 r1 hc) (va_cwS 1 hts gX6_put_X6_isText rfl rfl rfl hd_X6_isText ⟨Nat.le_of_ble_eq_true rfl, Nat.le_of_ble_eq_true rfl⟩) (preS_ro va_nil hKK) rfl rfl hl.1 rfl (lv_room (Nat.le_of_ble_eq_true rfl)) dX6_put_1 ⟨Nat.zero_le _, Nat.zero_le _⟩)) (fun hb1 => ?_)
    refine lv_if_ne (tgt := 9) hx hb dX6_put_4 (by decide) (fun c4 => ?_) (fun c4 => ?_)
    · have h := br_0 h c4
      refine lv_aload_n hx hb dX6_put_9 rfl (lv_at hl 0 rfl) ?_
      refine va_get (D := D) (ci := 4) (C := RX6) (T := TX6) (N := 27) hx hb hts iX6 hown hK hP 0 wMo_0 rfl 2 (by decide) q1 (fun _ h9 => h9) rfl dX6_put_10 ?_
      refine lv_iload_n hx hb dX6_put_13 rfl (lv_at hl 1 rfl) ?_
      obtain ⟨hin1, h⟩ := ck_some h
      refine va_iald hx hb hK hP 3 0 wMo_3 rfl hin1 dX6_put_14 ?_
      refine lv_if_ge (tgt := 24) hx hb dX6_put_15 (by decide) (fun c15 => ?_) (fun c15 => ?_)
      · have h := br_1 h c15
        refine lv_iload_n hx hb dX6_put_24 rfl (lv_at hl 2 rfl) ?_
        refine lv_i2l (v := (x2.toInt64)) hx hb dX6_put_25 rfl ?_
        refine lv_lconst (v := (0 : Int64)) hx hb dX6_put_26 (by decide) ?_
        refine lv_aload_n hx hb dX6_put_27 rfl (lv_at hl 0 rfl) ?_
        refine va_get (D := D) (ci := 4) (C := RX6) (T := TX6) (N := 27) hx hb hts iX6 hown hK hP 0 wMo_0 rfl 2 (by decide) q1 (fun _ h9 => h9) rfl dX6_put_28 ?_
        refine lv_iload_n hx hb dX6_put_31 rfl (lv_at hl 1 rfl) ?_
        obtain ⟨hin2, h⟩ := ck_some h
        refine va_iald hx hb hK hP 3 0 wMo_3 rfl hin2 dX6_put_32 ?_
        refine lv_iconst (v := (1 : Int32)) hx hb dX6_put_33 (by decide) ?_
        refine lv_isub hx hb dX6_put_34 ?_
        refine lv_i2l (v := (((mtextSizes x1.toNatClampNeg) - (1 : Int32)).toInt64)) hx hb dX6_put_35 rfl ?_
        obtain ⟨r36, hc, h⟩ := bd1_some h
        refine my_roz (va_Run.run (va_runS (As := [.long (x2.toInt64), .long (0 : Int64), .long (((mtextSizes x1.toNatClampNeg) - (1 : Int32)).toInt64)]) (rest := []) hFix (kX6_in l D T F (x2.toInt64) (0 : Int64) (((mtextSizes x1.toNatClampNeg) - (1 : Int32)).toInt64) r36 hc) (va_cwS 3 hts gX6_put_X6_in rfl rfl rfl hd_X6_in ⟨Nat.le_of_ble_eq_true rfl, Nat.le_of_ble_eq_true rfl⟩) (preS_ro va_nil hKK) rfl rfl hl.1 rfl (lv_room (Nat.le_of_ble_eq_true rfl)) dX6_put_36 ⟨Nat.zero_le _, Nat.zero_le _⟩)) (fun hb36 => ?_)
        refine lv_if_ne (tgt := 48) hx hb dX6_put_39 (by decide) (fun c39 => ?_) (fun c39 => ?_)
        · have h := br_0 h c39
          refine lv_aload_n hx hb dX6_put_48 rfl (lv_at hl 0 rfl) ?_
          refine va_get (D := D) (ci := 4) (C := RX6) (T := TX6) (N := 27) hx hb hts iX6 hown hK hP 0 wMo_0 rfl 3 (by decide) q2 (fun _ h9 => h9) rfl dX6_put_49 ?_
          refine lv_bipush (v := (80 : Int32)) hx hb dX6_put_52 (by decide) ?_
          refine lv_iload_n hx hb dX6_put_54 rfl (lv_at hl 1 rfl) ?_
          refine lv_imul hx hb dX6_put_55 ?_
          refine lv_iload_n hx hb dX6_put_56 rfl (lv_at hl 2 rfl) ?_
          refine lv_iadd hx hb dX6_put_57 ?_
          obtain ⟨hin3, h⟩ := ck_some h
          refine va_iald hx hb hK hP 4 0 wMo_4 rfl hin3 dX6_put_58 ?_
          refine lv_istore (lv' := [(4, .int (mtexts (((80 : Int32) * x1) + x2).toNatClampNeg)), (0, .ref (am 0)), (1, .int x1), (2, .int x2), (3, .int x3)]) hx hb dX6_put_59 hl (by decide) rfl (fun ls hl => ?_)
          refine lv_aload_n hx hb dX6_put_61 rfl (lv_at hl 1 rfl) ?_
          refine va_get (D := D) (ci := 4) (C := RX6) (T := TX6) (N := 27) hx hb hts iX6 hown hK hP 0 wMo_0 rfl 3 (by decide) q2 (fun _ h9 => h9) rfl dX6_put_62 ?_
          refine lv_bipush (v := (80 : Int32)) hx hb dX6_put_65 (by decide) ?_
          refine lv_iload_n hx hb dX6_put_67 rfl (lv_at hl 2 rfl) ?_
          refine lv_imul hx hb dX6_put_68 ?_
          refine lv_iload_n hx hb dX6_put_69 rfl (lv_at hl 3 rfl) ?_
          refine lv_iadd hx hb dX6_put_70 ?_
          refine lv_iload_n hx hb dX6_put_71 rfl (lv_at hl 4 rfl) ?_
          refine lv_i2b (v := (x3.toInt8.toInt32)) hx hb dX6_put_72 rfl ?_
          obtain ⟨hin4, h⟩ := ck_some h
          refine va_iast hx hb hK hP hD hS 4 0 wMo_4 rfl hin4 dX6_put_73 (fun H locs hP hD hS => ?_)
          have hP : va_P D vwCl (wMo T am mguests mclause mdeeds masked mupper mlower mfinding mreadGuests misSight mat mrowSizes mrows mtextSizes (upd mtexts (((80 : Int32) * x1) + x2).toNatClampNeg (x3.toInt8.toInt32)) mdoes mkinds msees mnow mbefore mkeeps mkept mfindings mread maside msteps mtried mbest) H := hP
          have hD : va_D A (wMo T am mguests mclause mdeeds masked mupper mlower mfinding mreadGuests misSight mat mrowSizes mrows mtextSizes (upd mtexts (((80 : Int32) * x1) + x2).toNatClampNeg (x3.toInt8.toInt32)) mdoes mkinds msees mnow mbefore mkeeps mkept mfindings mread maside msteps mtried mbest) := hD
          refine lv_iload hx hb dX6_put_74 (lv_at hl 0 rfl) ?_
          refine lv_sipush (v := (1000 : Int32)) hx hb dX6_put_76 (by decide) ?_
          refine lv_iadd hx hb dX6_put_79 ?_
          cases h
          exact hret _ _ _ _ hP hD hS dX6_put_80
        · have h := br_1 h c39
          refine lv_aload_n hx hb dX6_put_42 rfl (lv_at hl 0 rfl) ?_
          refine lv_iconst (v := (2 : Int32)) hx hb dX6_put_43 (by decide) ?_
          obtain ⟨r44, w44_mfinding, w44_mfindings, hc, h⟩ := bd3_some h
          have hFc := my_freeS hD hS hA
          refine my_rwi (va_runV (As := [.int (2 : Int32)]) (rest := []) hFix (kX6_found l D T F am mguests mclause mdeeds masked mupper mlower mfinding mreadGuests misSight mat mrowSizes mrows mtextSizes mtexts mdoes mkinds msees mnow mbefore mkeeps mkept mfindings mread maside msteps mtried mbest (2 : Int32) r44 w44_mfinding w44_mfindings hc) (cwV 1 hts gX6_put_X6_found rfl rfl rfl ⟨rfl, hd_X6_found⟩ ⟨Nat.le_of_ble_eq_true rfl, Nat.le_of_ble_eq_true rfl⟩) (preV_rw hP hKK hD (va_recv hK hP (ci := 4) (q0 := 0) rfl wMo_0)) rfl rfl hl.1 rfl (lv_room (Nat.le_of_ble_eq_true rfl)) dX6_put_44 ⟨Nat.zero_le _, Nat.zero_le _⟩) hS hFc (fun H1 locs hP1 hD1 hz1 hk1 hS => ?_)
          have hP : va_P D vwCl (wMo T am mguests mclause mdeeds masked mupper mlower w44_mfinding mreadGuests misSight mat mrowSizes mrows mtextSizes mtexts mdoes mkinds msees mnow mbefore mkeeps mkept w44_mfindings mread maside msteps mtried mbest) H1 := hP1
          have hD : va_D A (wMo T am mguests mclause mdeeds masked mupper mlower w44_mfinding mreadGuests misSight mat mrowSizes mrows mtextSizes mtexts mdoes mkinds msees mnow mbefore mkeeps mkept w44_mfindings mread maside msteps mtried mbest) := hD1.weaken (fun _ q _ h => hFc q.1 h)
          generalize H1 = H at hP hS ⊢
          cases h
          exact hret _ _ _ _ hP hD hS dX6_put_47
      · have h := br_0 h c15
        refine lv_aload_n hx hb dX6_put_18 rfl (lv_at hl 0 rfl) ?_
        refine lv_iconst (v := (1 : Int32)) hx hb dX6_put_19 (by decide) ?_
        obtain ⟨r20, w20_mfinding, w20_mfindings, hc, h⟩ := bd3_some h
        have hFc := my_freeS hD hS hA
        refine my_rwi (va_runV (As := [.int (1 : Int32)]) (rest := []) hFix (kX6_found l D T F am mguests mclause mdeeds masked mupper mlower mfinding mreadGuests misSight mat mrowSizes mrows mtextSizes mtexts mdoes mkinds msees mnow mbefore mkeeps mkept mfindings mread maside msteps mtried mbest (1 : Int32) r20 w20_mfinding w20_mfindings hc) (cwV 1 hts gX6_put_X6_found rfl rfl rfl ⟨rfl, hd_X6_found⟩ ⟨Nat.le_of_ble_eq_true rfl, Nat.le_of_ble_eq_true rfl⟩) (preV_rw hP hKK hD (va_recv hK hP (ci := 4) (q0 := 0) rfl wMo_0)) rfl rfl hl.1 rfl (lv_room (Nat.le_of_ble_eq_true rfl)) dX6_put_20 ⟨Nat.zero_le _, Nat.zero_le _⟩) hS hFc (fun H1 locs hP1 hD1 hz1 hk1 hS => ?_)
        have hP : va_P D vwCl (wMo T am mguests mclause mdeeds masked mupper mlower w20_mfinding mreadGuests misSight mat mrowSizes mrows mtextSizes mtexts mdoes mkinds msees mnow mbefore mkeeps mkept w20_mfindings mread maside msteps mtried mbest) H1 := hP1
        have hD : va_D A (wMo T am mguests mclause mdeeds masked mupper mlower w20_mfinding mreadGuests misSight mat mrowSizes mrows mtextSizes mtexts mdoes mkinds msees mnow mbefore mkeeps mkept w20_mfindings mread maside msteps mtried mbest) := hD1.weaken (fun _ q _ h => hFc q.1 h)
        generalize H1 = H at hP hS ⊢
        cases h
        exact hret _ _ _ _ hP hD hS dX6_put_23
    · have h := br_1 h c4
      refine lv_iconst (v := (-1 : Int32)) hx hb dX6_put_7 (by decide) ?_
      cases h
      exact hret _ _ _ _ hP hD hS dX6_put_8
  exact key _ (fun H locs pc ls hP hD hS hd => W.iret hx hb hr (fun t ht hW => ⟨⟨_, (), rfl, rfl, by show _ ∧ _; rw [ht]; exact ⟨hP, hD⟩⟩, hS.F ht⟩) hS.2.2 hd)
set_option maxHeartbeats 4000000 in
set_option maxRecDepth 100000 in
theorem kX6_byteAt (l : Launch) (D : va_G) (T : Nat → ClassId) (F : Nat) (am : Nat → Nat) (mguests : Int32) (mclause : Int32) (mdeeds : Int32) (masked : Int32) (mupper : Int64) (mlower : Int64) (mfinding : Int32) (mreadGuests : Int32) (misSight : Int32) (mat : Int32) (mrowSizes : Nat → Int32) (mrows : Nat → Int32) (mtextSizes : Nat → Int32) (mtexts : Nat → Int32) (mdoes : Nat → Int32) (mkinds : Nat → Int32) (msees : Nat → Int32) (mnow : Nat → Int32) (mbefore : Nat → Int32) (mkeeps : Nat → Int32) (mkept : Nat → Int32) (mfindings : Nat → Int32) (mread : Nat → Int32) (maside : Nat → Int32) (msteps : Nat → Int32) (mtried : Nat → Int32) (mbest : Nat → Int32) (x1 : Int32) (r : Int32) (h : fX6_byteAt F mat mtextSizes mtexts x1 = some (r)) : Met l yX6_byteAt wsX6_byteAt ({ frames := 0, cells := 0, slots := 0, locals := 0 } : Room) (va_Pc [.ref (am 0), .int x1] (fun U => va_P D vwCl (wMo T am mguests mclause mdeeds masked mupper mlower mfinding mreadGuests misSight mat mrowSizes mrows mtextSizes mtexts mdoes mkinds msees mnow mbefore mkeeps mkept mfindings mread maside msteps mtried mbest) U.heap ∧ KK D T U)) (vp_Si (fun r' => r' = r)) 0 0 (fun _ => False) := by
  refine Met.ofW (cc := cX6_byteAt) (maxL := 2) (ret := some .int) (by decide) rfl ?_
  intro p e s m args below meth c s₁ B hml hv
  obtain ⟨ha, hP, hKK⟩ := hv
  have hx := B.exec
  have hb := B.bytes
  have hr := B.returns
  have hts := atoms_spec (ws := wsX6_byteAt) B.pre
  have hown : s.vm.findClass RX6 = some m.cls := findClass_of_methodNamed B.named
  have hlocks := B.notSynchronized
  have hK := hKK.1
  have hFix : CallFix p m c cX6_byteAt 2 s args wsX6_byteAt RX6 := ⟨hx, hb, hml, hown, hts⟩
  have q1 := hts _ (List.mem_of_getElem? (i := 1) (show wsX6_byteAt[1]? = some (Cond.fieldLink RX6 95 "PartyWillModel" "at" "I") from rfl))
  have q2 := hts _ (List.mem_of_getElem? (i := 2) (show wsX6_byteAt[2]? = some (Cond.fieldLink RX6 16 "PartyWillModel" "textSizes" "[I") from rfl))
  have q3 := hts _ (List.mem_of_getElem? (i := 3) (show wsX6_byteAt[3]? = some (Cond.fieldLink RX6 19 "PartyWillModel" "texts" "[I") from rfl))
  have iX6 : ∀ w ∈ u_ws RX6 TX6 27, w ∈ wsX6_byteAt := fun w h => List.mem_cons_of_mem _ (List.mem_append_right _ (h))
  obtain ⟨ls, hl, e0⟩ := my_entry (m := m) (n := 2) ha (Nat.le_of_ble_eq_true rfl)
  rw [e0]
  have hl : lv_has ls 2 [(0, .ref (am 0)), (1, .int x1)] := hl
  have key : ∀ Q : State → Prop, (∀ (pc : Nat) (ls : Array Slot), decode cX6_byteAt pc = .ok (.ireturn, 1) → W p l e ({ frames := 0, cells := 0, slots := 0, locals := 0 } : Room) s m args below meth c s.heap [] 0 0 Q (F0 m pc ls [.int r])) → W p l e ({ frames := 0, cells := 0, slots := 0, locals := 0 } : Room) s m args below meth c s.heap [] 0 0 Q (F0 m 0 ls []) := by
    intro Q hret
    unfold fX6_byteAt at h
    refine lv_aload_n hx hb dX6_byteAt_0 rfl (lv_at hl 0 rfl) ?_
    refine va_get (D := D) (ci := 4) (C := RX6) (T := TX6) (N := 27) hx hb hts iX6 hown hK hP 0 wMo_0 rfl 22 (by decide) q1 (fun _ h9 => h9) rfl dX6_byteAt_1 ?_
    refine lv_aload_n hx hb dX6_byteAt_4 rfl (lv_at hl 0 rfl) ?_
    refine va_get (D := D) (ci := 4) (C := RX6) (T := TX6) (N := 27) hx hb hts iX6 hown hK hP 0 wMo_0 rfl 2 (by decide) q2 (fun _ h9 => h9) rfl dX6_byteAt_5 ?_
    refine lv_iload_n hx hb dX6_byteAt_8 rfl (lv_at hl 1 rfl) ?_
    obtain ⟨hin1, h⟩ := ck_some h
    refine va_iald hx hb hK hP 3 0 wMo_3 rfl hin1 dX6_byteAt_9 ?_
    refine lv_icmp_ge (tgt := 30) hx hb dX6_byteAt_10 (by decide) (fun c10 => ?_) (fun c10 => ?_)
    · have h := br_1 h c10
      refine lv_sipush (v := (-1000 : Int32)) hx hb dX6_byteAt_30 (by decide) ?_
      cases h
      exact hret _ _ dX6_byteAt_33
    · have h := br_0 h c10
      refine lv_aload_n hx hb dX6_byteAt_13 rfl (lv_at hl 0 rfl) ?_
      refine va_get (D := D) (ci := 4) (C := RX6) (T := TX6) (N := 27) hx hb hts iX6 hown hK hP 0 wMo_0 rfl 3 (by decide) q3 (fun _ h9 => h9) rfl dX6_byteAt_14 ?_
      refine lv_bipush (v := (80 : Int32)) hx hb dX6_byteAt_17 (by decide) ?_
      refine lv_iload_n hx hb dX6_byteAt_19 rfl (lv_at hl 1 rfl) ?_
      refine lv_imul hx hb dX6_byteAt_20 ?_
      refine lv_aload_n hx hb dX6_byteAt_21 rfl (lv_at hl 0 rfl) ?_
      refine va_get (D := D) (ci := 4) (C := RX6) (T := TX6) (N := 27) hx hb hts iX6 hown hK hP 0 wMo_0 rfl 22 (by decide) q1 (fun _ h9 => h9) rfl dX6_byteAt_22 ?_
      refine lv_iadd hx hb dX6_byteAt_25 ?_
      obtain ⟨hin2, h⟩ := ck_some h
      refine va_iald hx hb hK hP 4 0 wMo_4 rfl hin2 dX6_byteAt_26 ?_
      refine lv_goto (tgt := 33) hx hb dX6_byteAt_27 (by decide) ?_
      cases h
      exact hret _ _ dX6_byteAt_33
  exact key _ (fun pc ls hd => W.iret hx hb hr (fun t ht hW => ⟨_, rfl, rfl, ht⟩) (fun q h => by cases h) hd)
set_option maxHeartbeats 4000000 in
set_option maxRecDepth 100000 in
theorem kX6_takes (l : Launch) (D : va_G) (T : Nat → ClassId) (F : Nat) (am : Nat → Nat) (mguests : Int32) (mclause : Int32) (mdeeds : Int32) (masked : Int32) (mupper : Int64) (mlower : Int64) (mfinding : Int32) (mreadGuests : Int32) (misSight : Int32) (mat : Int32) (mrowSizes : Nat → Int32) (mrows : Nat → Int32) (mtextSizes : Nat → Int32) (mtexts : Nat → Int32) (mdoes : Nat → Int32) (mkinds : Nat → Int32) (msees : Nat → Int32) (mnow : Nat → Int32) (mbefore : Nat → Int32) (mkeeps : Nat → Int32) (mkept : Nat → Int32) (mfindings : Nat → Int32) (mread : Nat → Int32) (maside : Nat → Int32) (msteps : Nat → Int32) (mtried : Nat → Int32) (mbest : Nat → Int32) (x1 : Int32) (x2 : Int32) (x3 : Int32) (x4 : Int32) (r : Int32) (zmat : Int32) (zmread : Nat → Int32) (h : fX6_takes F mat mtextSizes mtexts mread x1 x2 x3 x4 = some (r, zmat, zmread)) : ∀ sz : Nat, Met l yX6_takes wsX6_takes ({ frames := 1, cells := 0, slots := 0, locals := 25 } : Room) (va_Pc [.ref (am 0), .int x1, .int x2, .int x3, .int x4] (fun U => U.heap.size = sz ∧ va_P D vwCl (wMo T am mguests mclause mdeeds masked mupper mlower mfinding mreadGuests misSight mat mrowSizes mrows mtextSizes mtexts mdoes mkinds msees mnow mbefore mkeeps mkept mfindings mread maside msteps mtried mbest) U.heap ∧ KK D T U ∧ va_D (fun _ => True) (wMo T am mguests mclause mdeeds masked mupper mlower mfinding mreadGuests misSight mat mrowSizes mrows mtextSizes mtexts mdoes mkinds msees mnow mbefore mkeeps mkept mfindings mread maside msteps mtried mbest))) (va_Qi (fun r' (_ : Unit) => r' = r ∧ b01 r) (fun _ t => va_P D vwCl (wMo T am mguests mclause mdeeds masked mupper mlower mfinding mreadGuests misSight zmat mrowSizes mrows mtextSizes mtexts mdoes mkinds msees mnow mbefore mkeeps mkept mfindings zmread maside msteps mtried mbest) t.heap ∧ va_D (va_A (wMo T am mguests mclause mdeeds masked mupper mlower mfinding mreadGuests misSight mat mrowSizes mrows mtextSizes mtexts mdoes mkinds msees mnow mbefore mkeeps mkept mfindings mread maside msteps mtried mbest) sz) (wMo T am mguests mclause mdeeds masked mupper mlower mfinding mreadGuests misSight zmat mrowSizes mrows mtextSizes mtexts mdoes mkinds msees mnow mbefore mkeeps mkept mfindings zmread maside msteps mtried mbest)) (va_A (wMo T am mguests mclause mdeeds masked mupper mlower mfinding mreadGuests misSight mat mrowSizes mrows mtextSizes mtexts mdoes mkinds msees mnow mbefore mkeeps mkept mfindings mread maside msteps mtried mbest) sz)) 0 0 (va_A (wMo T am mguests mclause mdeeds masked mupper mlower mfinding mreadGuests misSight mat mrowSizes mrows mtextSizes mtexts mdoes mkinds msees mnow mbefore mkeeps mkept mfindings mread maside msteps mtried mbest) sz) := by
  intro sz
  refine Met.ofW (cc := cX6_takes) (maxL := 6) (ret := some .boolean) (by decide) rfl ?_
  intro p e s m args below meth c s₁ B hml hv
  obtain ⟨ha, hsz, hP, hKK, hD0⟩ := hv
  have hx := B.exec
  have hb := B.bytes
  have hr := B.returns
  have hts := atoms_spec (ws := wsX6_takes) B.pre
  have hown : s.vm.findClass RX6 = some m.cls := findClass_of_methodNamed B.named
  have hlocks := B.notSynchronized
  have hK := hKK.1
  have hFix : CallFix p m c cX6_takes 6 s args wsX6_takes RX6 := ⟨hx, hb, hml, hown, hts⟩
  have q1 := hts _ (List.mem_of_getElem? (i := 1) (show wsX6_takes[1]? = some (Cond.fieldLink RX6 51 "PartyWillModel" "read" "[I") from rfl))
  have q2 := hts _ (List.mem_of_getElem? (i := 2) (show wsX6_takes[2]? = some (Cond.fieldLink RX6 95 "PartyWillModel" "at" "I") from rfl))
  have iX6 : ∀ w ∈ u_ws RX6 TX6 27, w ∈ wsX6_takes := fun w h => List.mem_cons_of_mem _ (List.mem_append_right _ (h))
  subst hsz
  have hD := hD0.self (sz := s.heap.size)
  generalize hAe : va_A (wMo T am mguests mclause mdeeds masked mupper mlower mfinding mreadGuests misSight mat mrowSizes mrows mtextSizes mtexts mdoes mkinds msees mnow mbefore mkeeps mkept mfindings mread maside msteps mtried mbest) s.heap.size = A at hD ⊢
  have hA : ∀ q : Nat, s.heap.size ≤ q → A q := fun q h => by rw [← hAe]; exact Or.inr h
  have hS : va_S A s.heap s.heap [] := va_S.rf
  have hP : va_P D vwCl (wMo T am mguests mclause mdeeds masked mupper mlower mfinding mreadGuests misSight mat mrowSizes mrows mtextSizes mtexts mdoes mkinds msees mnow mbefore mkeeps mkept mfindings mread maside msteps mtried mbest) s.heap := hP
  obtain ⟨ls, hl, e0⟩ := my_entry (m := m) (n := 6) ha (Nat.le_of_ble_eq_true rfl)
  rw [e0]
  have hl : lv_has ls 6 [(0, .ref (am 0)), (1, .int x1), (2, .int x2), (3, .int x3), (4, .int x4)] := hl
  have key : ∀ Q : State → Prop, (∀ (H : Heap) (locs : List Loc) (pc : Nat) (ls : Array Slot), va_P D vwCl (wMo T am mguests mclause mdeeds masked mupper mlower mfinding mreadGuests misSight zmat mrowSizes mrows mtextSizes mtexts mdoes mkinds msees mnow mbefore mkeeps mkept mfindings zmread maside msteps mtried mbest) H → va_D A (wMo T am mguests mclause mdeeds masked mupper mlower mfinding mreadGuests misSight zmat mrowSizes mrows mtextSizes mtexts mdoes mkinds msees mnow mbefore mkeeps mkept mfindings zmread maside msteps mtried mbest) → va_S A s.heap H locs → decode cX6_takes pc = .ok (.ireturn, 1) → b01 r → W p l e ({ frames := 1, cells := 0, slots := 0, locals := 25 } : Room) s m args below meth c H locs 0 0 Q (F0 m pc ls [.int r])) → W p l e ({ frames := 1, cells := 0, slots := 0, locals := 25 } : Room) s m args below meth c s.heap [] 0 0 Q (F0 m 0 ls []) := by
    intro Q hret
    skip
    unfold fX6_takes at h
    refine lv_aload_n hx hb dX6_takes_0 rfl (lv_at hl 0 rfl) ?_
    refine lv_iload_n hx hb dX6_takes_1 rfl (lv_at hl 1 rfl) ?_
    obtain ⟨r2, hc, h⟩ := bd1_some h
    refine my_roi (va_Run.run (va_runV (As := [.int x1]) (rest := []) hFix (kX6_byteAt l D T F am mguests mclause mdeeds masked mupper mlower mfinding mreadGuests misSight mat mrowSizes mrows mtextSizes mtexts mdoes mkinds msees mnow mbefore mkeeps mkept mfindings mread maside msteps mtried mbest x1 r2 hc) (cwV 1 hts gX6_takes_X6_byteAt rfl rfl rfl ⟨rfl, hd_X6_byteAt⟩ ⟨Nat.le_of_ble_eq_true rfl, Nat.le_of_ble_eq_true rfl⟩) (preV_ro hP hKK (va_recv hK hP (ci := 4) (q0 := 0) rfl wMo_0)) rfl rfl hl.1 rfl (lv_room (Nat.le_of_ble_eq_true rfl)) dX6_takes_2 ⟨Nat.zero_le _, Nat.zero_le _⟩)) ?_
    refine lv_bipush (v := (48 : Int32)) hx hb dX6_takes_5 (by decide) ?_
    refine lv_isub hx hb dX6_takes_7 ?_
    refine lv_istore (lv' := [(5, .int (r2 - (48 : Int32))), (0, .ref (am 0)), (1, .int x1), (2, .int x2), (3, .int x3), (4, .int x4)]) hx hb dX6_takes_8 hl (by decide) rfl (fun ls hl => ?_)
    refine lv_iload hx hb dX6_takes_10 (lv_at hl 0 rfl) ?_
    refine lv_i2l (v := ((r2 - (48 : Int32)).toInt64)) hx hb dX6_takes_12 rfl ?_
    refine lv_iload_n hx hb dX6_takes_13 rfl (lv_at hl 4 rfl) ?_
    refine lv_i2l (v := (x3.toInt64)) hx hb dX6_takes_14 rfl ?_
    refine lv_iload hx hb dX6_takes_15 (lv_at hl 5 rfl) ?_
    refine lv_i2l (v := (x4.toInt64)) hx hb dX6_takes_17 rfl ?_
    obtain ⟨r18, hc, h⟩ := bd1_some h
    refine my_roz (va_Run.run (va_runS (As := [.long ((r2 - (48 : Int32)).toInt64), .long (x3.toInt64), .long (x4.toInt64)]) (rest := []) hFix (kX6_in l D T F ((r2 - (48 : Int32)).toInt64) (x3.toInt64) (x4.toInt64) r18 hc) (va_cwS 3 hts gX6_takes_X6_in rfl rfl rfl hd_X6_in ⟨Nat.le_of_ble_eq_true rfl, Nat.le_of_ble_eq_true rfl⟩) (preS_ro va_nil hKK) rfl rfl hl.1 rfl (lv_room (Nat.le_of_ble_eq_true rfl)) dX6_takes_18 ⟨Nat.zero_le _, Nat.zero_le _⟩)) (fun hb18 => ?_)
    refine lv_if_ne (tgt := 26) hx hb dX6_takes_21 (by decide) (fun c21 => ?_) (fun c21 => ?_)
    · have h := br_0 h c21
      refine lv_aload_n hx hb dX6_takes_26 rfl (lv_at hl 1 rfl) ?_
      refine va_get (D := D) (ci := 4) (C := RX6) (T := TX6) (N := 27) hx hb hts iX6 hown hK hP 0 wMo_0 rfl 20 (by decide) q1 (fun _ h9 => h9) rfl dX6_takes_27 ?_
      refine lv_iload_n hx hb dX6_takes_30 rfl (lv_at hl 3 rfl) ?_
      refine lv_iload hx hb dX6_takes_31 (lv_at hl 0 rfl) ?_
      obtain ⟨hin1, h⟩ := ck_some h
      refine va_iast hx hb hK hP hD hS 13 0 wMo_13 rfl hin1 dX6_takes_33 (fun H locs hP hD hS => ?_)
      have hP : va_P D vwCl (wMo T am mguests mclause mdeeds masked mupper mlower mfinding mreadGuests misSight mat mrowSizes mrows mtextSizes mtexts mdoes mkinds msees mnow mbefore mkeeps mkept mfindings (upd mread x2.toNatClampNeg (r2 - (48 : Int32))) maside msteps mtried mbest) H := hP
      have hD : va_D A (wMo T am mguests mclause mdeeds masked mupper mlower mfinding mreadGuests misSight mat mrowSizes mrows mtextSizes mtexts mdoes mkinds msees mnow mbefore mkeeps mkept mfindings (upd mread x2.toNatClampNeg (r2 - (48 : Int32))) maside msteps mtried mbest) := hD
      refine lv_aload_n hx hb dX6_takes_34 rfl (lv_at hl 1 rfl) ?_
      refine lv_dup hx hb dX6_takes_35 rfl ?_
      refine va_get (D := D) (ci := 4) (C := RX6) (T := TX6) (N := 27) hx hb hts iX6 hown hK hP 0 wMo_0 rfl 22 (by decide) q2 (fun _ h9 => h9) rfl dX6_takes_36 ?_
      refine lv_iconst (v := (1 : Int32)) hx hb dX6_takes_39 (by decide) ?_
      refine lv_iadd hx hb dX6_takes_40 ?_
      refine va_put (D := D) (ci := 4) (v := .int (mat + (1 : Int32))) (ty := .int) (C := RX6) (T := TX6) (N := 27) hx hb hts iX6 tyX6 tyX6_ok nmX6 hown hK hP hD hS 0 wMo_0 rfl 22 (by decide) q2 (fun _ h9 => h9) rfl (by decide +kernel) rfl rfl (Nat.le_of_ble_eq_true rfl) dX6_takes_41 (fun H locs hP hD hS => ?_)
      have hP : va_P D vwCl (wMo T am mguests mclause mdeeds masked mupper mlower mfinding mreadGuests misSight (mat + (1 : Int32)) mrowSizes mrows mtextSizes mtexts mdoes mkinds msees mnow mbefore mkeeps mkept mfindings (upd mread x2.toNatClampNeg (r2 - (48 : Int32))) maside msteps mtried mbest) H := hP
      have hD : va_D A (wMo T am mguests mclause mdeeds masked mupper mlower mfinding mreadGuests misSight (mat + (1 : Int32)) mrowSizes mrows mtextSizes mtexts mdoes mkinds msees mnow mbefore mkeeps mkept mfindings (upd mread x2.toNatClampNeg (r2 - (48 : Int32))) maside msteps mtried mbest) := hD
      refine lv_iconst (v := (1 : Int32)) hx hb dX6_takes_44 (by decide) ?_
      cases h
      exact hret _ _ _ _ hP hD hS dX6_takes_45 (Or.inr rfl)
    · have h := br_1 h c21
      refine lv_iconst (v := (0 : Int32)) hx hb dX6_takes_24 (by decide) ?_
      cases h
      exact hret _ _ _ _ hP hD hS dX6_takes_25 (Or.inl rfl)
  exact key _ (fun H locs pc ls hP hD hS hd hb1 => W.zret hx hb hr (b01_n hb1) (fun t ht hW => ⟨⟨_, (), rfl, ⟨rfl, hb1⟩, by show _ ∧ _; rw [ht]; exact ⟨hP, hD⟩⟩, hS.F ht⟩) hS.2.2 hd)
set_option maxHeartbeats 4000000 in
set_option maxRecDepth 100000 in
theorem kX6_takesClause (l : Launch) (D : va_G) (T : Nat → ClassId) (F : Nat) (am : Nat → Nat) (mguests : Int32) (mclause : Int32) (mdeeds : Int32) (masked : Int32) (mupper : Int64) (mlower : Int64) (mfinding : Int32) (mreadGuests : Int32) (misSight : Int32) (mat : Int32) (mrowSizes : Nat → Int32) (mrows : Nat → Int32) (mtextSizes : Nat → Int32) (mtexts : Nat → Int32) (mdoes : Nat → Int32) (mkinds : Nat → Int32) (msees : Nat → Int32) (mnow : Nat → Int32) (mbefore : Nat → Int32) (mkeeps : Nat → Int32) (mkept : Nat → Int32) (mfindings : Nat → Int32) (mread : Nat → Int32) (maside : Nat → Int32) (msteps : Nat → Int32) (mtried : Nat → Int32) (mbest : Nat → Int32) (x1 : Int32) (r : Int32) (zmat : Int32) (zmread : Nat → Int32) (h : fX6_takesClause F mat mtextSizes mtexts mread x1 = some (r, zmat, zmread)) : ∀ sz : Nat, Met l yX6_takesClause wsX6_takesClause ({ frames := 2, cells := 0, slots := 0, locals := 50 } : Room) (va_Pc [.ref (am 0), .int x1] (fun U => U.heap.size = sz ∧ va_P D vwCl (wMo T am mguests mclause mdeeds masked mupper mlower mfinding mreadGuests misSight mat mrowSizes mrows mtextSizes mtexts mdoes mkinds msees mnow mbefore mkeeps mkept mfindings mread maside msteps mtried mbest) U.heap ∧ KK D T U ∧ va_D (fun _ => True) (wMo T am mguests mclause mdeeds masked mupper mlower mfinding mreadGuests misSight mat mrowSizes mrows mtextSizes mtexts mdoes mkinds msees mnow mbefore mkeeps mkept mfindings mread maside msteps mtried mbest))) (va_Qi (fun r' (_ : Unit) => r' = r ∧ b01 r) (fun _ t => va_P D vwCl (wMo T am mguests mclause mdeeds masked mupper mlower mfinding mreadGuests misSight zmat mrowSizes mrows mtextSizes mtexts mdoes mkinds msees mnow mbefore mkeeps mkept mfindings zmread maside msteps mtried mbest) t.heap ∧ va_D (va_A (wMo T am mguests mclause mdeeds masked mupper mlower mfinding mreadGuests misSight mat mrowSizes mrows mtextSizes mtexts mdoes mkinds msees mnow mbefore mkeeps mkept mfindings mread maside msteps mtried mbest) sz) (wMo T am mguests mclause mdeeds masked mupper mlower mfinding mreadGuests misSight zmat mrowSizes mrows mtextSizes mtexts mdoes mkinds msees mnow mbefore mkeeps mkept mfindings zmread maside msteps mtried mbest)) (va_A (wMo T am mguests mclause mdeeds masked mupper mlower mfinding mreadGuests misSight mat mrowSizes mrows mtextSizes mtexts mdoes mkinds msees mnow mbefore mkeeps mkept mfindings mread maside msteps mtried mbest) sz)) 0 0 (va_A (wMo T am mguests mclause mdeeds masked mupper mlower mfinding mreadGuests misSight mat mrowSizes mrows mtextSizes mtexts mdoes mkinds msees mnow mbefore mkeeps mkept mfindings mread maside msteps mtried mbest) sz) := by
  intro sz
  refine Met.ofW (cc := cX6_takesClause) (maxL := 4) (ret := some .boolean) (by decide) rfl ?_
  intro p e s m args below meth c s₁ B hml hv
  obtain ⟨ha, hsz, hP, hKK, hD0⟩ := hv
  have hx := B.exec
  have hb := B.bytes
  have hr := B.returns
  have hts := atoms_spec (ws := wsX6_takesClause) B.pre
  have hown : s.vm.findClass RX6 = some m.cls := findClass_of_methodNamed B.named
  have hlocks := B.notSynchronized
  have hK := hKK.1
  have hFix : CallFix p m c cX6_takesClause 4 s args wsX6_takesClause RX6 := ⟨hx, hb, hml, hown, hts⟩
  have q1 := hts _ (List.mem_of_getElem? (i := 1) (show wsX6_takesClause[1]? = some (Cond.fieldLink RX6 95 "PartyWillModel" "at" "I") from rfl))
  have iX6 : ∀ w ∈ u_ws RX6 TX6 27, w ∈ wsX6_takesClause := fun w h => List.mem_cons_of_mem _ (List.mem_append_right _ (h))
  subst hsz
  have hD := hD0.self (sz := s.heap.size)
  generalize hAe : va_A (wMo T am mguests mclause mdeeds masked mupper mlower mfinding mreadGuests misSight mat mrowSizes mrows mtextSizes mtexts mdoes mkinds msees mnow mbefore mkeeps mkept mfindings mread maside msteps mtried mbest) s.heap.size = A at hD ⊢
  have hA : ∀ q : Nat, s.heap.size ≤ q → A q := fun q h => by rw [← hAe]; exact Or.inr h
  have hS : va_S A s.heap s.heap [] := va_S.rf
  have hP : va_P D vwCl (wMo T am mguests mclause mdeeds masked mupper mlower mfinding mreadGuests misSight mat mrowSizes mrows mtextSizes mtexts mdoes mkinds msees mnow mbefore mkeeps mkept mfindings mread maside msteps mtried mbest) s.heap := hP
  obtain ⟨ls, hl, e0⟩ := my_entry (m := m) (n := 4) ha (Nat.le_of_ble_eq_true rfl)
  rw [e0]
  have hl : lv_has ls 4 [(0, .ref (am 0)), (1, .int x1)] := hl
  have key : ∀ Q : State → Prop, (∀ (H : Heap) (locs : List Loc) (pc : Nat) (ls : Array Slot), va_P D vwCl (wMo T am mguests mclause mdeeds masked mupper mlower mfinding mreadGuests misSight zmat mrowSizes mrows mtextSizes mtexts mdoes mkinds msees mnow mbefore mkeeps mkept mfindings zmread maside msteps mtried mbest) H → va_D A (wMo T am mguests mclause mdeeds masked mupper mlower mfinding mreadGuests misSight zmat mrowSizes mrows mtextSizes mtexts mdoes mkinds msees mnow mbefore mkeeps mkept mfindings zmread maside msteps mtried mbest) → va_S A s.heap H locs → decode cX6_takesClause pc = .ok (.ireturn, 1) → b01 r → W p l e ({ frames := 2, cells := 0, slots := 0, locals := 50 } : Room) s m args below meth c H locs 0 0 Q (F0 m pc ls [.int r])) → W p l e ({ frames := 2, cells := 0, slots := 0, locals := 50 } : Room) s m args below meth c s.heap [] 0 0 Q (F0 m 0 ls []) := by
    intro Q hret
    skip
    have l34 : ∀ x1 : Int32, ∀ nu : Nat, ∀ x2 : Int32, ∀ x3 : Int32, ∀ mat : Int32, ∀ mread : Nat → Int32, fX6_takesClause_l34 F mtextSizes mtexts x1 nu x2 x3 mat mread = some (r, zmat, zmread) → b01 x2 → ∀ (H : Heap) (locs : List Loc), va_P D vwCl (wMo T am mguests mclause mdeeds masked mupper mlower mfinding mreadGuests misSight mat mrowSizes mrows mtextSizes mtexts mdoes mkinds msees mnow mbefore mkeeps mkept mfindings mread maside msteps mtried mbest) H → va_D A (wMo T am mguests mclause mdeeds masked mupper mlower mfinding mreadGuests misSight mat mrowSizes mrows mtextSizes mtexts mdoes mkinds msees mnow mbefore mkeeps mkept mfindings mread maside msteps mtried mbest) → va_S A s.heap H locs → ∀ (ls : Array Slot), lv_has ls 4 [(0, .ref (am 0)), (1, .int x1), (2, .int x2), (3, .int x3)] → W p l e ({ frames := 2, cells := 0, slots := 0, locals := 50 } : Room) s m args below meth c H locs 0 0 Q (F0 m 34 ls []) := by
      intro x1
      intro nu
      induction nu with
      | zero => intro x2 x3 mat mread h; exact none_some h
      | succ nu34 ih34 =>
        intro x2 x3 mat mread h hbx2 H locs hP hD hS ls hl
        have h : fX6_takesClause_l34_b F mtextSizes mtexts x1 (fX6_takesClause_l34 F mtextSizes mtexts x1 nu34) x2 x3 mat mread = some (r, zmat, zmread) := h
        unfold fX6_takesClause_l34_b at h
        refine lv_iload_n hx hb dX6_takesClause_34 rfl (lv_at hl 3 rfl) ?_
        refine lv_iconst (v := (5 : Int32)) hx hb dX6_takesClause_35 (by decide) ?_
        refine lv_icmp_ge (tgt := 67) hx hb dX6_takesClause_36 (by decide) (fun c36 => ?_) (fun c36 => ?_)
        · have h := br_1 h c36
          refine lv_iload_n hx hb dX6_takesClause_67 rfl (lv_at hl 2 rfl) ?_
          cases h
          exact hret _ _ _ _ hP hD hS dX6_takesClause_68 hbx2
        · have h := br_0 h c36
          refine lv_iload_n hx hb dX6_takesClause_39 rfl (lv_at hl 2 rfl) ?_
          refine lv_if_eq (tgt := 59) hx hb dX6_takesClause_40 (by decide) (fun c40 => ?_) (fun c40 => ?_)
          · have h := br_1 h c40
            refine lv_iconst (v := (0 : Int32)) hx hb dX6_takesClause_59 (by decide) ?_
            refine lv_istore_n (lv' := [(2, .int (0 : Int32)), (0, .ref (am 0)), (1, .int x1), (3, .int x3)]) hx hb dX6_takesClause_60 rfl hl (by decide) rfl (fun ls hl => ?_)
            refine lv_iinc (v := (x3 + (1 : Int32))) (lv' := [(3, .int (x3 + (1 : Int32))), (2, .int (0 : Int32)), (0, .ref (am 0)), (1, .int x1)]) hx hb dX6_takesClause_61 hl (k := 3) rfl rfl (by decide) rfl (fun ls hl => ?_)
            refine lv_goto (tgt := 34) hx hb dX6_takesClause_64 (by decide) ?_
            exact ih34 (0 : Int32) (x3 + (1 : Int32)) mat mread h (Or.inl rfl) _ _ hP hD hS _ (lv_sub hl [2, 3, 1, 0] rfl)
          · have h := br_0 h c40
            refine lv_aload_n hx hb dX6_takesClause_43 rfl (lv_at hl 0 rfl) ?_
            refine lv_iload_n hx hb dX6_takesClause_44 rfl (lv_at hl 1 rfl) ?_
            refine lv_iload_n hx hb dX6_takesClause_45 rfl (lv_at hl 3 rfl) ?_
            refine lv_iconst (v := (0 : Int32)) hx hb dX6_takesClause_46 (by decide) ?_
            refine lv_bipush (v := (9 : Int32)) hx hb dX6_takesClause_47 (by decide) ?_
            obtain ⟨r49, w49_mat, w49_mread, hc, h⟩ := bd3_some h
            have hFc := my_freeS hD hS hA
            refine my_rwz (va_runV (As := [.int x1, .int x3, .int (0 : Int32), .int (9 : Int32)]) (rest := []) hFix (kX6_takes l D T F am mguests mclause mdeeds masked mupper mlower mfinding mreadGuests misSight mat mrowSizes mrows mtextSizes mtexts mdoes mkinds msees mnow mbefore mkeeps mkept mfindings mread maside msteps mtried mbest x1 x3 (0 : Int32) (9 : Int32) r49 w49_mat w49_mread hc) (cwV 4 hts gX6_takesClause_X6_takes rfl rfl rfl ⟨rfl, hd_X6_takes⟩ ⟨Nat.le_of_ble_eq_true rfl, Nat.le_of_ble_eq_true rfl⟩) (preV_rw hP hKK hD (va_recv hK hP (ci := 4) (q0 := 0) rfl wMo_0)) rfl rfl hl.1 rfl (lv_room (Nat.le_of_ble_eq_true rfl)) dX6_takesClause_49 ⟨Nat.zero_le _, Nat.zero_le _⟩) hS hFc (fun hb49 H1 locs hP1 hD1 hz1 hk1 hS => ?_)
            have hP : va_P D vwCl (wMo T am mguests mclause mdeeds masked mupper mlower mfinding mreadGuests misSight w49_mat mrowSizes mrows mtextSizes mtexts mdoes mkinds msees mnow mbefore mkeeps mkept mfindings w49_mread maside msteps mtried mbest) H1 := hP1
            have hD : va_D A (wMo T am mguests mclause mdeeds masked mupper mlower mfinding mreadGuests misSight w49_mat mrowSizes mrows mtextSizes mtexts mdoes mkinds msees mnow mbefore mkeeps mkept mfindings w49_mread maside msteps mtried mbest) := hD1.weaken (fun _ q _ h => hFc q.1 h)
            generalize H1 = H at hP hS ⊢
            refine lv_if_eq (tgt := 59) hx hb dX6_takesClause_52 (by decide) (fun c52 => ?_) (fun c52 => ?_)
            · have h := br_1 h c52
              refine lv_iconst (v := (0 : Int32)) hx hb dX6_takesClause_59 (by decide) ?_
              refine lv_istore_n (lv' := [(2, .int (0 : Int32)), (0, .ref (am 0)), (1, .int x1), (3, .int x3)]) hx hb dX6_takesClause_60 rfl hl (by decide) rfl (fun ls hl => ?_)
              refine lv_iinc (v := (x3 + (1 : Int32))) (lv' := [(3, .int (x3 + (1 : Int32))), (2, .int (0 : Int32)), (0, .ref (am 0)), (1, .int x1)]) hx hb dX6_takesClause_61 hl (k := 3) rfl rfl (by decide) rfl (fun ls hl => ?_)
              refine lv_goto (tgt := 34) hx hb dX6_takesClause_64 (by decide) ?_
              exact ih34 (0 : Int32) (x3 + (1 : Int32)) w49_mat w49_mread h (Or.inl rfl) _ _ hP hD hS _ (lv_sub hl [2, 3, 1, 0] rfl)
            · have h := br_0 h c52
              refine lv_iconst (v := (1 : Int32)) hx hb dX6_takesClause_55 (by decide) ?_
              refine lv_goto (tgt := 60) hx hb dX6_takesClause_56 (by decide) ?_
              refine lv_istore_n (lv' := [(2, .int (1 : Int32)), (0, .ref (am 0)), (1, .int x1), (3, .int x3)]) hx hb dX6_takesClause_60 rfl hl (by decide) rfl (fun ls hl => ?_)
              refine lv_iinc (v := (x3 + (1 : Int32))) (lv' := [(3, .int (x3 + (1 : Int32))), (2, .int (1 : Int32)), (0, .ref (am 0)), (1, .int x1)]) hx hb dX6_takesClause_61 hl (k := 3) rfl rfl (by decide) rfl (fun ls hl => ?_)
              refine lv_goto (tgt := 34) hx hb dX6_takesClause_64 (by decide) ?_
              exact ih34 (1 : Int32) (x3 + (1 : Int32)) w49_mat w49_mread h (Or.inr rfl) _ _ hP hD hS _ (lv_sub hl [2, 3, 1, 0] rfl)
    unfold fX6_takesClause at h
    refine lv_aload_n hx hb dX6_takesClause_0 rfl (lv_at hl 0 rfl) ?_
    refine lv_iload_n hx hb dX6_takesClause_1 rfl (lv_at hl 1 rfl) ?_
    obtain ⟨r2, hc, h⟩ := bd1_some h
    refine my_roi (va_Run.run (va_runV (As := [.int x1]) (rest := []) hFix (kX6_byteAt l D T F am mguests mclause mdeeds masked mupper mlower mfinding mreadGuests misSight mat mrowSizes mrows mtextSizes mtexts mdoes mkinds msees mnow mbefore mkeeps mkept mfindings mread maside msteps mtried mbest x1 r2 hc) (cwV 1 hts gX6_takesClause_X6_byteAt rfl rfl rfl ⟨rfl, hd_X6_byteAt⟩ ⟨Nat.le_of_ble_eq_true rfl, Nat.le_of_ble_eq_true rfl⟩) (preV_ro hP hKK (va_recv hK hP (ci := 4) (q0 := 0) rfl wMo_0)) rfl rfl hl.1 rfl (lv_room (Nat.le_of_ble_eq_true rfl)) dX6_takesClause_2 ⟨Nat.zero_le _, Nat.zero_le _⟩)) ?_
    refine lv_bipush (v := (99 : Int32)) hx hb dX6_takesClause_5 (by decide) ?_
    refine lv_icmp_eq (tgt := 12) hx hb dX6_takesClause_7 (by decide) (fun c7 => ?_) (fun c7 => ?_)
    · have h := br_1 h c7
      refine lv_aload_n hx hb dX6_takesClause_12 rfl (lv_at hl 0 rfl) ?_
      refine lv_dup hx hb dX6_takesClause_13 rfl ?_
      refine va_get (D := D) (ci := 4) (C := RX6) (T := TX6) (N := 27) hx hb hts iX6 hown hK hP 0 wMo_0 rfl 22 (by decide) q1 (fun _ h9 => h9) rfl dX6_takesClause_14 ?_
      refine lv_iconst (v := (1 : Int32)) hx hb dX6_takesClause_17 (by decide) ?_
      refine lv_iadd hx hb dX6_takesClause_18 ?_
      refine va_put (D := D) (ci := 4) (v := .int (mat + (1 : Int32))) (ty := .int) (C := RX6) (T := TX6) (N := 27) hx hb hts iX6 tyX6 tyX6_ok nmX6 hown hK hP hD hS 0 wMo_0 rfl 22 (by decide) q1 (fun _ h9 => h9) rfl (by decide +kernel) rfl rfl (Nat.le_of_ble_eq_true rfl) dX6_takesClause_19 (fun H locs hP hD hS => ?_)
      have hP : va_P D vwCl (wMo T am mguests mclause mdeeds masked mupper mlower mfinding mreadGuests misSight (mat + (1 : Int32)) mrowSizes mrows mtextSizes mtexts mdoes mkinds msees mnow mbefore mkeeps mkept mfindings mread maside msteps mtried mbest) H := hP
      have hD : va_D A (wMo T am mguests mclause mdeeds masked mupper mlower mfinding mreadGuests misSight (mat + (1 : Int32)) mrowSizes mrows mtextSizes mtexts mdoes mkinds msees mnow mbefore mkeeps mkept mfindings mread maside msteps mtried mbest) := hD
      refine lv_aload_n hx hb dX6_takesClause_22 rfl (lv_at hl 0 rfl) ?_
      refine lv_iload_n hx hb dX6_takesClause_23 rfl (lv_at hl 1 rfl) ?_
      refine lv_iconst (v := (0 : Int32)) hx hb dX6_takesClause_24 (by decide) ?_
      refine lv_iconst (v := (1 : Int32)) hx hb dX6_takesClause_25 (by decide) ?_
      refine lv_bipush (v := (9 : Int32)) hx hb dX6_takesClause_26 (by decide) ?_
      obtain ⟨r28, w28_mat, w28_mread, hc, h⟩ := bd3_some h
      have hFc := my_freeS hD hS hA
      refine my_rwz (va_runV (As := [.int x1, .int (0 : Int32), .int (1 : Int32), .int (9 : Int32)]) (rest := []) hFix (kX6_takes l D T F am mguests mclause mdeeds masked mupper mlower mfinding mreadGuests misSight (mat + (1 : Int32)) mrowSizes mrows mtextSizes mtexts mdoes mkinds msees mnow mbefore mkeeps mkept mfindings mread maside msteps mtried mbest x1 (0 : Int32) (1 : Int32) (9 : Int32) r28 w28_mat w28_mread hc) (cwV 4 hts gX6_takesClause_X6_takes rfl rfl rfl ⟨rfl, hd_X6_takes⟩ ⟨Nat.le_of_ble_eq_true rfl, Nat.le_of_ble_eq_true rfl⟩) (preV_rw hP hKK hD (va_recv hK hP (ci := 4) (q0 := 0) rfl wMo_0)) rfl rfl hl.1 rfl (lv_room (Nat.le_of_ble_eq_true rfl)) dX6_takesClause_28 ⟨Nat.zero_le _, Nat.zero_le _⟩) hS hFc (fun hb28 H1 locs hP1 hD1 hz1 hk1 hS => ?_)
      have hP : va_P D vwCl (wMo T am mguests mclause mdeeds masked mupper mlower mfinding mreadGuests misSight w28_mat mrowSizes mrows mtextSizes mtexts mdoes mkinds msees mnow mbefore mkeeps mkept mfindings w28_mread maside msteps mtried mbest) H1 := hP1
      have hD : va_D A (wMo T am mguests mclause mdeeds masked mupper mlower mfinding mreadGuests misSight w28_mat mrowSizes mrows mtextSizes mtexts mdoes mkinds msees mnow mbefore mkeeps mkept mfindings w28_mread maside msteps mtried mbest) := hD1.weaken (fun _ q _ h => hFc q.1 h)
      generalize H1 = H at hP hS ⊢
      refine lv_istore_n (lv' := [(2, .int r28), (0, .ref (am 0)), (1, .int x1)]) hx hb dX6_takesClause_31 rfl hl (by decide) rfl (fun ls hl => ?_)
      refine lv_iconst (v := (1 : Int32)) hx hb dX6_takesClause_32 (by decide) ?_
      refine lv_istore_n (lv' := [(3, .int (1 : Int32)), (2, .int r28), (0, .ref (am 0)), (1, .int x1)]) hx hb dX6_takesClause_33 rfl hl (by decide) rfl (fun ls hl => ?_)
      exact l34 x1 F r28 (1 : Int32) w28_mat w28_mread h hb28 _ _ hP hD hS _ (lv_sub hl [2, 3, 1, 0] rfl)
    · have h := br_0 h c7
      refine lv_iconst (v := (0 : Int32)) hx hb dX6_takesClause_10 (by decide) ?_
      cases h
      exact hret _ _ _ _ hP hD hS dX6_takesClause_11 (Or.inl rfl)
  exact key _ (fun H locs pc ls hP hD hS hd hb1 => W.zret hx hb hr (b01_n hb1) (fun t ht hW => ⟨⟨_, (), rfl, ⟨rfl, hb1⟩, by show _ ∧ _; rw [ht]; exact ⟨hP, hD⟩⟩, hS.F ht⟩) hS.2.2 hd)
set_option maxHeartbeats 4000000 in
set_option maxRecDepth 100000 in
theorem kX6_kindOf (l : Launch) (D : va_G) (T : Nat → ClassId) (F : Nat) (x0 : Int32) (r : Int32) (h : fX6_kindOf F x0 = some (r)) : Met l yX6_kindOf wsX6_kindOf ({ frames := 0, cells := 0, slots := 0, locals := 0 } : Room) (va_Pc [.int x0] (fun U => va_P D vwCl ([] : va_W) U.heap ∧ KK D T U)) (vp_Si (fun r' => r' = r)) 0 0 (fun _ => False) := by
  refine Met.ofW (cc := cX6_kindOf) (maxL := 1) (ret := some .int) (by decide) rfl ?_
  intro p e s m args below meth c s₁ B hml hv
  obtain ⟨ha, hP, hKK⟩ := hv
  have hx := B.exec
  have hb := B.bytes
  have hr := B.returns
  have hts := atoms_spec (ws := wsX6_kindOf) B.pre
  have hown : s.vm.findClass RX6 = some m.cls := findClass_of_methodNamed B.named
  have hlocks := B.notSynchronized
  have hK := hKK.1
  have hFix : CallFix p m c cX6_kindOf 1 s args wsX6_kindOf RX6 := ⟨hx, hb, hml, hown, hts⟩
  obtain ⟨ls, hl, e0⟩ := my_entry (m := m) (n := 1) ha (Nat.le_of_ble_eq_true rfl)
  rw [e0]
  have hl : lv_has ls 1 [(0, .int x0)] := hl
  have key : ∀ Q : State → Prop, (∀ (pc : Nat) (ls : Array Slot), decode cX6_kindOf pc = .ok (.ireturn, 1) → W p l e ({ frames := 0, cells := 0, slots := 0, locals := 0 } : Room) s m args below meth c s.heap [] 0 0 Q (F0 m pc ls [.int r])) → W p l e ({ frames := 0, cells := 0, slots := 0, locals := 0 } : Room) s m args below meth c s.heap [] 0 0 Q (F0 m 0 ls []) := by
    intro Q hret
    unfold fX6_kindOf at h
    refine lv_iload_n hx hb dX6_kindOf_0 rfl (lv_at hl 0 rfl) ?_
    refine lv_bipush (v := (103 : Int32)) hx hb dX6_kindOf_1 (by decide) ?_
    refine lv_icmp_ne (tgt := 10) hx hb dX6_kindOf_3 (by decide) (fun c3 => ?_) (fun c3 => ?_)
    · have h := br_0 h c3
      refine lv_iload_n hx hb dX6_kindOf_10 rfl (lv_at hl 0 rfl) ?_
      refine lv_bipush (v := (100 : Int32)) hx hb dX6_kindOf_11 (by decide) ?_
      refine lv_icmp_ne (tgt := 20) hx hb dX6_kindOf_13 (by decide) (fun c13 => ?_) (fun c13 => ?_)
      · have h := br_0 h c13
        refine lv_iload_n hx hb dX6_kindOf_20 rfl (lv_at hl 0 rfl) ?_
        refine lv_bipush (v := (115 : Int32)) hx hb dX6_kindOf_21 (by decide) ?_
        refine lv_icmp_ne (tgt := 30) hx hb dX6_kindOf_23 (by decide) (fun c23 => ?_) (fun c23 => ?_)
        · have h := br_0 h c23
          refine lv_iload_n hx hb dX6_kindOf_30 rfl (lv_at hl 0 rfl) ?_
          refine lv_bipush (v := (109 : Int32)) hx hb dX6_kindOf_31 (by decide) ?_
          refine lv_icmp_ne (tgt := 40) hx hb dX6_kindOf_33 (by decide) (fun c33 => ?_) (fun c33 => ?_)
          · have h := br_0 h c33
            refine lv_iload_n hx hb dX6_kindOf_40 rfl (lv_at hl 0 rfl) ?_
            refine lv_bipush (v := (117 : Int32)) hx hb dX6_kindOf_41 (by decide) ?_
            refine lv_icmp_ne (tgt := 50) hx hb dX6_kindOf_43 (by decide) (fun c43 => ?_) (fun c43 => ?_)
            · have h := br_0 h c43
              refine lv_iload_n hx hb dX6_kindOf_50 rfl (lv_at hl 0 rfl) ?_
              refine lv_bipush (v := (121 : Int32)) hx hb dX6_kindOf_51 (by decide) ?_
              refine lv_icmp_ne (tgt := 60) hx hb dX6_kindOf_53 (by decide) (fun c53 => ?_) (fun c53 => ?_)
              · have h := br_0 h c53
                refine lv_iconst (v := (-1 : Int32)) hx hb dX6_kindOf_60 (by decide) ?_
                cases h
                exact hret _ _ dX6_kindOf_61
              · have h := br_1 h c53
                refine lv_iconst (v := (5 : Int32)) hx hb dX6_kindOf_56 (by decide) ?_
                refine lv_goto (tgt := 61) hx hb dX6_kindOf_57 (by decide) ?_
                cases h
                exact hret _ _ dX6_kindOf_61
            · have h := br_1 h c43
              refine lv_iconst (v := (4 : Int32)) hx hb dX6_kindOf_46 (by decide) ?_
              refine lv_goto (tgt := 61) hx hb dX6_kindOf_47 (by decide) ?_
              cases h
              exact hret _ _ dX6_kindOf_61
          · have h := br_1 h c33
            refine lv_iconst (v := (3 : Int32)) hx hb dX6_kindOf_36 (by decide) ?_
            refine lv_goto (tgt := 61) hx hb dX6_kindOf_37 (by decide) ?_
            cases h
            exact hret _ _ dX6_kindOf_61
        · have h := br_1 h c23
          refine lv_iconst (v := (2 : Int32)) hx hb dX6_kindOf_26 (by decide) ?_
          refine lv_goto (tgt := 61) hx hb dX6_kindOf_27 (by decide) ?_
          cases h
          exact hret _ _ dX6_kindOf_61
      · have h := br_1 h c13
        refine lv_iconst (v := (1 : Int32)) hx hb dX6_kindOf_16 (by decide) ?_
        refine lv_goto (tgt := 61) hx hb dX6_kindOf_17 (by decide) ?_
        cases h
        exact hret _ _ dX6_kindOf_61
    · have h := br_1 h c3
      refine lv_iconst (v := (0 : Int32)) hx hb dX6_kindOf_6 (by decide) ?_
      refine lv_goto (tgt := 61) hx hb dX6_kindOf_7 (by decide) ?_
      cases h
      exact hret _ _ dX6_kindOf_61
  exact key _ (fun pc ls hd => W.iret hx hb hr (fun t ht hW => ⟨_, rfl, rfl, ht⟩) (fun q h => by cases h) hd)
set_option maxHeartbeats 4000000 in
set_option maxRecDepth 100000 in
theorem kX6_takesGuest (l : Launch) (D : va_G) (T : Nat → ClassId) (F : Nat) (am : Nat → Nat) (mguests : Int32) (mclause : Int32) (mdeeds : Int32) (masked : Int32) (mupper : Int64) (mlower : Int64) (mfinding : Int32) (mreadGuests : Int32) (misSight : Int32) (mat : Int32) (mrowSizes : Nat → Int32) (mrows : Nat → Int32) (mtextSizes : Nat → Int32) (mtexts : Nat → Int32) (mdoes : Nat → Int32) (mkinds : Nat → Int32) (msees : Nat → Int32) (mnow : Nat → Int32) (mbefore : Nat → Int32) (mkeeps : Nat → Int32) (mkept : Nat → Int32) (mfindings : Nat → Int32) (mread : Nat → Int32) (maside : Nat → Int32) (msteps : Nat → Int32) (mtried : Nat → Int32) (mbest : Nat → Int32) (x1 : Int32) (r : Int32) (zmreadGuests : Int32) (zmat : Int32) (zmread : Nat → Int32) (h : fX6_takesGuest F mreadGuests misSight mat mtextSizes mtexts mread x1 = some (r, zmreadGuests, zmat, zmread)) : ∀ sz : Nat, Met l yX6_takesGuest wsX6_takesGuest ({ frames := 2, cells := 0, slots := 0, locals := 50 } : Room) (va_Pc [.ref (am 0), .int x1] (fun U => U.heap.size = sz ∧ va_P D vwCl (wMo T am mguests mclause mdeeds masked mupper mlower mfinding mreadGuests misSight mat mrowSizes mrows mtextSizes mtexts mdoes mkinds msees mnow mbefore mkeeps mkept mfindings mread maside msteps mtried mbest) U.heap ∧ KK D T U ∧ va_D (fun _ => True) (wMo T am mguests mclause mdeeds masked mupper mlower mfinding mreadGuests misSight mat mrowSizes mrows mtextSizes mtexts mdoes mkinds msees mnow mbefore mkeeps mkept mfindings mread maside msteps mtried mbest))) (va_Qi (fun r' (_ : Unit) => r' = r ∧ b01 r) (fun _ t => va_P D vwCl (wMo T am mguests mclause mdeeds masked mupper mlower mfinding zmreadGuests misSight zmat mrowSizes mrows mtextSizes mtexts mdoes mkinds msees mnow mbefore mkeeps mkept mfindings zmread maside msteps mtried mbest) t.heap ∧ va_D (va_A (wMo T am mguests mclause mdeeds masked mupper mlower mfinding mreadGuests misSight mat mrowSizes mrows mtextSizes mtexts mdoes mkinds msees mnow mbefore mkeeps mkept mfindings mread maside msteps mtried mbest) sz) (wMo T am mguests mclause mdeeds masked mupper mlower mfinding zmreadGuests misSight zmat mrowSizes mrows mtextSizes mtexts mdoes mkinds msees mnow mbefore mkeeps mkept mfindings zmread maside msteps mtried mbest)) (va_A (wMo T am mguests mclause mdeeds masked mupper mlower mfinding mreadGuests misSight mat mrowSizes mrows mtextSizes mtexts mdoes mkinds msees mnow mbefore mkeeps mkept mfindings mread maside msteps mtried mbest) sz)) 0 0 (va_A (wMo T am mguests mclause mdeeds masked mupper mlower mfinding mreadGuests misSight mat mrowSizes mrows mtextSizes mtexts mdoes mkinds msees mnow mbefore mkeeps mkept mfindings mread maside msteps mtried mbest) sz) := by
  intro sz
  refine Met.ofW (cc := cX6_takesGuest) (maxL := 3) (ret := some .boolean) (by decide) rfl ?_
  intro p e s m args below meth c s₁ B hml hv
  obtain ⟨ha, hsz, hP, hKK, hD0⟩ := hv
  have hx := B.exec
  have hb := B.bytes
  have hr := B.returns
  have hts := atoms_spec (ws := wsX6_takesGuest) B.pre
  have hown : s.vm.findClass RX6 = some m.cls := findClass_of_methodNamed B.named
  have hlocks := B.notSynchronized
  have hK := hKK.1
  have hFix : CallFix p m c cX6_takesGuest 3 s args wsX6_takesGuest RX6 := ⟨hx, hb, hml, hown, hts⟩
  have q1 := hts _ (List.mem_of_getElem? (i := 1) (show wsX6_takesGuest[1]? = some (Cond.fieldLink RX6 108 "PartyWillModel" "readGuests" "I") from rfl))
  have q2 := hts _ (List.mem_of_getElem? (i := 2) (show wsX6_takesGuest[2]? = some (Cond.fieldLink RX6 111 "PartyWillModel" "isSight" "Z") from rfl))
  have q3 := hts _ (List.mem_of_getElem? (i := 3) (show wsX6_takesGuest[3]? = some (Cond.fieldLink RX6 95 "PartyWillModel" "at" "I") from rfl))
  have q4 := hts _ (List.mem_of_getElem? (i := 4) (show wsX6_takesGuest[4]? = some (Cond.fieldLink RX6 51 "PartyWillModel" "read" "[I") from rfl))
  have iX6 : ∀ w ∈ u_ws RX6 TX6 27, w ∈ wsX6_takesGuest := fun w h => List.mem_cons_of_mem _ (List.mem_append_right _ (h))
  subst hsz
  have hD := hD0.self (sz := s.heap.size)
  generalize hAe : va_A (wMo T am mguests mclause mdeeds masked mupper mlower mfinding mreadGuests misSight mat mrowSizes mrows mtextSizes mtexts mdoes mkinds msees mnow mbefore mkeeps mkept mfindings mread maside msteps mtried mbest) s.heap.size = A at hD ⊢
  have hA : ∀ q : Nat, s.heap.size ≤ q → A q := fun q h => by rw [← hAe]; exact Or.inr h
  have hS : va_S A s.heap s.heap [] := va_S.rf
  have hP : va_P D vwCl (wMo T am mguests mclause mdeeds masked mupper mlower mfinding mreadGuests misSight mat mrowSizes mrows mtextSizes mtexts mdoes mkinds msees mnow mbefore mkeeps mkept mfindings mread maside msteps mtried mbest) s.heap := hP
  obtain ⟨ls, hl, e0⟩ := my_entry (m := m) (n := 3) ha (Nat.le_of_ble_eq_true rfl)
  rw [e0]
  have hl : lv_has ls 3 [(0, .ref (am 0)), (1, .int x1)] := hl
  have key : ∀ Q : State → Prop, (∀ (H : Heap) (locs : List Loc) (pc : Nat) (ls : Array Slot), va_P D vwCl (wMo T am mguests mclause mdeeds masked mupper mlower mfinding zmreadGuests misSight zmat mrowSizes mrows mtextSizes mtexts mdoes mkinds msees mnow mbefore mkeeps mkept mfindings zmread maside msteps mtried mbest) H → va_D A (wMo T am mguests mclause mdeeds masked mupper mlower mfinding zmreadGuests misSight zmat mrowSizes mrows mtextSizes mtexts mdoes mkinds msees mnow mbefore mkeeps mkept mfindings zmread maside msteps mtried mbest) → va_S A s.heap H locs → decode cX6_takesGuest pc = .ok (.ireturn, 1) → b01 r → W p l e ({ frames := 2, cells := 0, slots := 0, locals := 50 } : Room) s m args below meth c H locs 0 0 Q (F0 m pc ls [.int r])) → W p l e ({ frames := 2, cells := 0, slots := 0, locals := 50 } : Room) s m args below meth c s.heap [] 0 0 Q (F0 m 0 ls []) := by
    intro Q hret
    skip
    unfold fX6_takesGuest at h
    refine lv_aload_n hx hb dX6_takesGuest_0 rfl (lv_at hl 0 rfl) ?_
    refine lv_iload_n hx hb dX6_takesGuest_1 rfl (lv_at hl 1 rfl) ?_
    obtain ⟨r2, hc, h⟩ := bd1_some h
    refine my_roi (va_Run.run (va_runV (As := [.int x1]) (rest := []) hFix (kX6_byteAt l D T F am mguests mclause mdeeds masked mupper mlower mfinding mreadGuests misSight mat mrowSizes mrows mtextSizes mtexts mdoes mkinds msees mnow mbefore mkeeps mkept mfindings mread maside msteps mtried mbest x1 r2 hc) (cwV 1 hts gX6_takesGuest_X6_byteAt rfl rfl rfl ⟨rfl, hd_X6_byteAt⟩ ⟨Nat.le_of_ble_eq_true rfl, Nat.le_of_ble_eq_true rfl⟩) (preV_ro hP hKK (va_recv hK hP (ci := 4) (q0 := 0) rfl wMo_0)) rfl rfl hl.1 rfl (lv_room (Nat.le_of_ble_eq_true rfl)) dX6_takesGuest_2 ⟨Nat.zero_le _, Nat.zero_le _⟩)) ?_
    obtain ⟨r5, hc, h⟩ := bd1_some h
    refine my_roi (va_Run.run (va_runS (As := [.int r2]) (rest := []) hFix (kX6_kindOf l D T F r2 r5 hc) (va_cwS 1 hts gX6_takesGuest_X6_kindOf rfl rfl rfl hd_X6_kindOf ⟨Nat.le_of_ble_eq_true rfl, Nat.le_of_ble_eq_true rfl⟩) (preS_ro va_nil hKK) rfl rfl hl.1 rfl (lv_room (Nat.le_of_ble_eq_true rfl)) dX6_takesGuest_5 ⟨Nat.zero_le _, Nat.zero_le _⟩)) ?_
    refine lv_istore_n (lv' := [(2, .int r5), (0, .ref (am 0)), (1, .int x1)]) hx hb dX6_takesGuest_8 rfl hl (by decide) rfl (fun ls hl => ?_)
    refine lv_iload_n hx hb dX6_takesGuest_9 rfl (lv_at hl 0 rfl) ?_
    refine lv_if_lt (tgt := 29) hx hb dX6_takesGuest_10 (by decide) (fun c10 => ?_) (fun c10 => ?_)
    · have h := br_1 h c10
      refine lv_iconst (v := (0 : Int32)) hx hb dX6_takesGuest_29 (by decide) ?_
      cases h
      exact hret _ _ _ _ hP hD hS dX6_takesGuest_30 (Or.inl rfl)
    · have h := br_0 h c10
      refine lv_aload_n hx hb dX6_takesGuest_13 rfl (lv_at hl 1 rfl) ?_
      refine va_get (D := D) (ci := 4) (C := RX6) (T := TX6) (N := 27) hx hb hts iX6 hown hK hP 0 wMo_0 rfl 19 (by decide) q1 (fun _ h9 => h9) rfl dX6_takesGuest_14 ?_
      refine lv_bipush (v := (6 : Int32)) hx hb dX6_takesGuest_17 (by decide) ?_
      refine lv_icmp_eq (tgt := 29) hx hb dX6_takesGuest_19 (by decide) (fun c19 => ?_) (fun c19 => ?_)
      · have h := br_1 h c19
        refine lv_iconst (v := (0 : Int32)) hx hb dX6_takesGuest_29 (by decide) ?_
        cases h
        exact hret _ _ _ _ hP hD hS dX6_takesGuest_30 (Or.inl rfl)
      · have h := br_0 h c19
        refine lv_aload_n hx hb dX6_takesGuest_22 rfl (lv_at hl 1 rfl) ?_
        refine va_get (D := D) (ci := 4) (C := RX6) (T := TX6) (N := 27) hx hb hts iX6 hown hK hP 0 wMo_0 rfl 21 (by decide) q2 (fun _ h9 => h9) rfl dX6_takesGuest_23 ?_
        refine lv_if_eq (tgt := 31) hx hb dX6_takesGuest_26 (by decide) (fun c26 => ?_) (fun c26 => ?_)
        · have h := br_1 h c26
          refine lv_aload_n hx hb dX6_takesGuest_31 rfl (lv_at hl 1 rfl) ?_
          refine lv_dup hx hb dX6_takesGuest_32 rfl ?_
          refine va_get (D := D) (ci := 4) (C := RX6) (T := TX6) (N := 27) hx hb hts iX6 hown hK hP 0 wMo_0 rfl 22 (by decide) q3 (fun _ h9 => h9) rfl dX6_takesGuest_33 ?_
          refine lv_iconst (v := (1 : Int32)) hx hb dX6_takesGuest_36 (by decide) ?_
          refine lv_iadd hx hb dX6_takesGuest_37 ?_
          refine va_put (D := D) (ci := 4) (v := .int (mat + (1 : Int32))) (ty := .int) (C := RX6) (T := TX6) (N := 27) hx hb hts iX6 tyX6 tyX6_ok nmX6 hown hK hP hD hS 0 wMo_0 rfl 22 (by decide) q3 (fun _ h9 => h9) rfl (by decide +kernel) rfl rfl (Nat.le_of_ble_eq_true rfl) dX6_takesGuest_38 (fun H locs hP hD hS => ?_)
          have hP : va_P D vwCl (wMo T am mguests mclause mdeeds masked mupper mlower mfinding mreadGuests misSight (mat + (1 : Int32)) mrowSizes mrows mtextSizes mtexts mdoes mkinds msees mnow mbefore mkeeps mkept mfindings mread maside msteps mtried mbest) H := hP
          have hD : va_D A (wMo T am mguests mclause mdeeds masked mupper mlower mfinding mreadGuests misSight (mat + (1 : Int32)) mrowSizes mrows mtextSizes mtexts mdoes mkinds msees mnow mbefore mkeeps mkept mfindings mread maside msteps mtried mbest) := hD
          refine lv_aload_n hx hb dX6_takesGuest_41 rfl (lv_at hl 1 rfl) ?_
          refine va_get (D := D) (ci := 4) (C := RX6) (T := TX6) (N := 27) hx hb hts iX6 hown hK hP 0 wMo_0 rfl 20 (by decide) q4 (fun _ h9 => h9) rfl dX6_takesGuest_42 ?_
          refine lv_iconst (v := (5 : Int32)) hx hb dX6_takesGuest_45 (by decide) ?_
          refine lv_aload_n hx hb dX6_takesGuest_46 rfl (lv_at hl 1 rfl) ?_
          refine va_get (D := D) (ci := 4) (C := RX6) (T := TX6) (N := 27) hx hb hts iX6 hown hK hP 0 wMo_0 rfl 19 (by decide) q1 (fun _ h9 => h9) rfl dX6_takesGuest_47 ?_
          refine lv_iadd hx hb dX6_takesGuest_50 ?_
          refine lv_iload_n hx hb dX6_takesGuest_51 rfl (lv_at hl 0 rfl) ?_
          obtain ⟨hin1, h⟩ := ck_some h
          refine va_iast hx hb hK hP hD hS 13 0 wMo_13 rfl hin1 dX6_takesGuest_52 (fun H locs hP hD hS => ?_)
          have hP : va_P D vwCl (wMo T am mguests mclause mdeeds masked mupper mlower mfinding mreadGuests misSight (mat + (1 : Int32)) mrowSizes mrows mtextSizes mtexts mdoes mkinds msees mnow mbefore mkeeps mkept mfindings (upd mread ((5 : Int32) + mreadGuests).toNatClampNeg r5) maside msteps mtried mbest) H := hP
          have hD : va_D A (wMo T am mguests mclause mdeeds masked mupper mlower mfinding mreadGuests misSight (mat + (1 : Int32)) mrowSizes mrows mtextSizes mtexts mdoes mkinds msees mnow mbefore mkeeps mkept mfindings (upd mread ((5 : Int32) + mreadGuests).toNatClampNeg r5) maside msteps mtried mbest) := hD
          refine lv_aload_n hx hb dX6_takesGuest_53 rfl (lv_at hl 1 rfl) ?_
          refine va_get (D := D) (ci := 4) (C := RX6) (T := TX6) (N := 27) hx hb hts iX6 hown hK hP 0 wMo_0 rfl 20 (by decide) q4 (fun _ h9 => h9) rfl dX6_takesGuest_54 ?_
          refine lv_bipush (v := (17 : Int32)) hx hb dX6_takesGuest_57 (by decide) ?_
          refine lv_aload_n hx hb dX6_takesGuest_59 rfl (lv_at hl 1 rfl) ?_
          refine va_get (D := D) (ci := 4) (C := RX6) (T := TX6) (N := 27) hx hb hts iX6 hown hK hP 0 wMo_0 rfl 19 (by decide) q1 (fun _ h9 => h9) rfl dX6_takesGuest_60 ?_
          refine lv_iadd hx hb dX6_takesGuest_63 ?_
          refine lv_iconst (v := (0 : Int32)) hx hb dX6_takesGuest_64 (by decide) ?_
          obtain ⟨hin2, h⟩ := ck_some h
          refine va_iast hx hb hK hP hD hS 13 0 wMo_13 rfl hin2 dX6_takesGuest_65 (fun H locs hP hD hS => ?_)
          have hP : va_P D vwCl (wMo T am mguests mclause mdeeds masked mupper mlower mfinding mreadGuests misSight (mat + (1 : Int32)) mrowSizes mrows mtextSizes mtexts mdoes mkinds msees mnow mbefore mkeeps mkept mfindings (upd (upd mread ((5 : Int32) + mreadGuests).toNatClampNeg r5) ((17 : Int32) + mreadGuests).toNatClampNeg (0 : Int32)) maside msteps mtried mbest) H := hP
          have hD : va_D A (wMo T am mguests mclause mdeeds masked mupper mlower mfinding mreadGuests misSight (mat + (1 : Int32)) mrowSizes mrows mtextSizes mtexts mdoes mkinds msees mnow mbefore mkeeps mkept mfindings (upd (upd mread ((5 : Int32) + mreadGuests).toNatClampNeg r5) ((17 : Int32) + mreadGuests).toNatClampNeg (0 : Int32)) maside msteps mtried mbest) := hD
          refine lv_aload_n hx hb dX6_takesGuest_66 rfl (lv_at hl 1 rfl) ?_
          refine lv_dup hx hb dX6_takesGuest_67 rfl ?_
          refine va_get (D := D) (ci := 4) (C := RX6) (T := TX6) (N := 27) hx hb hts iX6 hown hK hP 0 wMo_0 rfl 19 (by decide) q1 (fun _ h9 => h9) rfl dX6_takesGuest_68 ?_
          refine lv_iconst (v := (1 : Int32)) hx hb dX6_takesGuest_71 (by decide) ?_
          refine lv_iadd hx hb dX6_takesGuest_72 ?_
          refine va_put (D := D) (ci := 4) (v := .int (mreadGuests + (1 : Int32))) (ty := .int) (C := RX6) (T := TX6) (N := 27) hx hb hts iX6 tyX6 tyX6_ok nmX6 hown hK hP hD hS 0 wMo_0 rfl 19 (by decide) q1 (fun _ h9 => h9) rfl (by decide +kernel) rfl rfl (Nat.le_of_ble_eq_true rfl) dX6_takesGuest_73 (fun H locs hP hD hS => ?_)
          have hP : va_P D vwCl (wMo T am mguests mclause mdeeds masked mupper mlower mfinding (mreadGuests + (1 : Int32)) misSight (mat + (1 : Int32)) mrowSizes mrows mtextSizes mtexts mdoes mkinds msees mnow mbefore mkeeps mkept mfindings (upd (upd mread ((5 : Int32) + mreadGuests).toNatClampNeg r5) ((17 : Int32) + mreadGuests).toNatClampNeg (0 : Int32)) maside msteps mtried mbest) H := hP
          have hD : va_D A (wMo T am mguests mclause mdeeds masked mupper mlower mfinding (mreadGuests + (1 : Int32)) misSight (mat + (1 : Int32)) mrowSizes mrows mtextSizes mtexts mdoes mkinds msees mnow mbefore mkeeps mkept mfindings (upd (upd mread ((5 : Int32) + mreadGuests).toNatClampNeg r5) ((17 : Int32) + mreadGuests).toNatClampNeg (0 : Int32)) maside msteps mtried mbest) := hD
          refine lv_aload_n hx hb dX6_takesGuest_76 rfl (lv_at hl 1 rfl) ?_
          refine lv_iload_n hx hb dX6_takesGuest_77 rfl (lv_at hl 2 rfl) ?_
          refine lv_bipush (v := (10 : Int32)) hx hb dX6_takesGuest_78 (by decide) ?_
          refine lv_aload_n hx hb dX6_takesGuest_80 rfl (lv_at hl 1 rfl) ?_
          refine va_get (D := D) (ci := 4) (C := RX6) (T := TX6) (N := 27) hx hb hts iX6 hown hK hP 0 wMo_0 rfl 19 (by decide) q1 (fun _ h9 => h9) rfl dX6_takesGuest_81 ?_
          refine lv_iadd hx hb dX6_takesGuest_84 ?_
          refine lv_iconst (v := (0 : Int32)) hx hb dX6_takesGuest_85 (by decide) ?_
          refine lv_bipush (v := (9 : Int32)) hx hb dX6_takesGuest_86 (by decide) ?_
          obtain ⟨r88, w88_mat, w88_mread, hc, h⟩ := bd3_some h
          have hFc := my_freeS hD hS hA
          refine my_rwz (va_runV (As := [.int x1, .int ((10 : Int32) + (mreadGuests + (1 : Int32))), .int (0 : Int32), .int (9 : Int32)]) (rest := []) hFix (kX6_takes l D T F am mguests mclause mdeeds masked mupper mlower mfinding (mreadGuests + (1 : Int32)) misSight (mat + (1 : Int32)) mrowSizes mrows mtextSizes mtexts mdoes mkinds msees mnow mbefore mkeeps mkept mfindings (upd (upd mread ((5 : Int32) + mreadGuests).toNatClampNeg r5) ((17 : Int32) + mreadGuests).toNatClampNeg (0 : Int32)) maside msteps mtried mbest x1 ((10 : Int32) + (mreadGuests + (1 : Int32))) (0 : Int32) (9 : Int32) r88 w88_mat w88_mread hc) (cwV 4 hts gX6_takesGuest_X6_takes rfl rfl rfl ⟨rfl, hd_X6_takes⟩ ⟨Nat.le_of_ble_eq_true rfl, Nat.le_of_ble_eq_true rfl⟩) (preV_rw hP hKK hD (va_recv hK hP (ci := 4) (q0 := 0) rfl wMo_0)) rfl rfl hl.1 rfl (lv_room (Nat.le_of_ble_eq_true rfl)) dX6_takesGuest_88 ⟨Nat.zero_le _, Nat.zero_le _⟩) hS hFc (fun hb88 H1 locs hP1 hD1 hz1 hk1 hS => ?_)
          have hP : va_P D vwCl (wMo T am mguests mclause mdeeds masked mupper mlower mfinding (mreadGuests + (1 : Int32)) misSight w88_mat mrowSizes mrows mtextSizes mtexts mdoes mkinds msees mnow mbefore mkeeps mkept mfindings w88_mread maside msteps mtried mbest) H1 := hP1
          have hD : va_D A (wMo T am mguests mclause mdeeds masked mupper mlower mfinding (mreadGuests + (1 : Int32)) misSight w88_mat mrowSizes mrows mtextSizes mtexts mdoes mkinds msees mnow mbefore mkeeps mkept mfindings w88_mread maside msteps mtried mbest) := hD1.weaken (fun _ q _ h => hFc q.1 h)
          generalize H1 = H at hP hS ⊢
          cases h
          exact hret _ _ _ _ hP hD hS dX6_takesGuest_91 hb88
        · have h := br_0 h c26
          refine lv_iconst (v := (0 : Int32)) hx hb dX6_takesGuest_29 (by decide) ?_
          cases h
          exact hret _ _ _ _ hP hD hS dX6_takesGuest_30 (Or.inl rfl)
  exact key _ (fun H locs pc ls hP hD hS hd hb1 => W.zret hx hb hr (b01_n hb1) (fun t ht hW => ⟨⟨_, (), rfl, ⟨rfl, hb1⟩, by show _ ∧ _; rw [ht]; exact ⟨hP, hD⟩⟩, hS.F ht⟩) hS.2.2 hd)
set_option maxHeartbeats 4000000 in
set_option maxRecDepth 100000 in
theorem kX6_takesSight (l : Launch) (D : va_G) (T : Nat → ClassId) (F : Nat) (am : Nat → Nat) (mguests : Int32) (mclause : Int32) (mdeeds : Int32) (masked : Int32) (mupper : Int64) (mlower : Int64) (mfinding : Int32) (mreadGuests : Int32) (misSight : Int32) (mat : Int32) (mrowSizes : Nat → Int32) (mrows : Nat → Int32) (mtextSizes : Nat → Int32) (mtexts : Nat → Int32) (mdoes : Nat → Int32) (mkinds : Nat → Int32) (msees : Nat → Int32) (mnow : Nat → Int32) (mbefore : Nat → Int32) (mkeeps : Nat → Int32) (mkept : Nat → Int32) (mfindings : Nat → Int32) (mread : Nat → Int32) (maside : Nat → Int32) (msteps : Nat → Int32) (mtried : Nat → Int32) (mbest : Nat → Int32) (x1 : Int32) (r : Int32) (zmisSight : Int32) (zmat : Int32) (zmread : Nat → Int32) (h : fX6_takesSight F mreadGuests misSight mat mtextSizes mtexts mread x1 = some (r, zmisSight, zmat, zmread)) : ∀ sz : Nat, Met l yX6_takesSight wsX6_takesSight ({ frames := 1, cells := 0, slots := 0, locals := 25 } : Room) (va_Pc [.ref (am 0), .int x1] (fun U => U.heap.size = sz ∧ va_P D vwCl (wMo T am mguests mclause mdeeds masked mupper mlower mfinding mreadGuests misSight mat mrowSizes mrows mtextSizes mtexts mdoes mkinds msees mnow mbefore mkeeps mkept mfindings mread maside msteps mtried mbest) U.heap ∧ KK D T U ∧ va_D (fun _ => True) (wMo T am mguests mclause mdeeds masked mupper mlower mfinding mreadGuests misSight mat mrowSizes mrows mtextSizes mtexts mdoes mkinds msees mnow mbefore mkeeps mkept mfindings mread maside msteps mtried mbest))) (va_Qi (fun r' (_ : Unit) => r' = r ∧ b01 r) (fun _ t => va_P D vwCl (wMo T am mguests mclause mdeeds masked mupper mlower mfinding mreadGuests zmisSight zmat mrowSizes mrows mtextSizes mtexts mdoes mkinds msees mnow mbefore mkeeps mkept mfindings zmread maside msteps mtried mbest) t.heap ∧ va_D (va_A (wMo T am mguests mclause mdeeds masked mupper mlower mfinding mreadGuests misSight mat mrowSizes mrows mtextSizes mtexts mdoes mkinds msees mnow mbefore mkeeps mkept mfindings mread maside msteps mtried mbest) sz) (wMo T am mguests mclause mdeeds masked mupper mlower mfinding mreadGuests zmisSight zmat mrowSizes mrows mtextSizes mtexts mdoes mkinds msees mnow mbefore mkeeps mkept mfindings zmread maside msteps mtried mbest)) (va_A (wMo T am mguests mclause mdeeds masked mupper mlower mfinding mreadGuests misSight mat mrowSizes mrows mtextSizes mtexts mdoes mkinds msees mnow mbefore mkeeps mkept mfindings mread maside msteps mtried mbest) sz)) 0 0 (va_A (wMo T am mguests mclause mdeeds masked mupper mlower mfinding mreadGuests misSight mat mrowSizes mrows mtextSizes mtexts mdoes mkinds msees mnow mbefore mkeeps mkept mfindings mread maside msteps mtried mbest) sz) := by
  intro sz
  refine Met.ofW (cc := cX6_takesSight) (maxL := 5) (ret := some .boolean) (by decide) rfl ?_
  intro p e s m args below meth c s₁ B hml hv
  obtain ⟨ha, hsz, hP, hKK, hD0⟩ := hv
  have hx := B.exec
  have hb := B.bytes
  have hr := B.returns
  have hts := atoms_spec (ws := wsX6_takesSight) B.pre
  have hown : s.vm.findClass RX6 = some m.cls := findClass_of_methodNamed B.named
  have hlocks := B.notSynchronized
  have hK := hKK.1
  have hFix : CallFix p m c cX6_takesSight 5 s args wsX6_takesSight RX6 := ⟨hx, hb, hml, hown, hts⟩
  have q1 := hts _ (List.mem_of_getElem? (i := 1) (show wsX6_takesSight[1]? = some (Cond.fieldLink RX6 108 "PartyWillModel" "readGuests" "I") from rfl))
  have q2 := hts _ (List.mem_of_getElem? (i := 2) (show wsX6_takesSight[2]? = some (Cond.fieldLink RX6 95 "PartyWillModel" "at" "I") from rfl))
  have q3 := hts _ (List.mem_of_getElem? (i := 3) (show wsX6_takesSight[3]? = some (Cond.fieldLink RX6 111 "PartyWillModel" "isSight" "Z") from rfl))
  have q4 := hts _ (List.mem_of_getElem? (i := 4) (show wsX6_takesSight[4]? = some (Cond.fieldLink RX6 51 "PartyWillModel" "read" "[I") from rfl))
  have iX6 : ∀ w ∈ u_ws RX6 TX6 27, w ∈ wsX6_takesSight := fun w h => List.mem_cons_of_mem _ (List.mem_append_right _ (h))
  subst hsz
  have hD := hD0.self (sz := s.heap.size)
  generalize hAe : va_A (wMo T am mguests mclause mdeeds masked mupper mlower mfinding mreadGuests misSight mat mrowSizes mrows mtextSizes mtexts mdoes mkinds msees mnow mbefore mkeeps mkept mfindings mread maside msteps mtried mbest) s.heap.size = A at hD ⊢
  have hA : ∀ q : Nat, s.heap.size ≤ q → A q := fun q h => by rw [← hAe]; exact Or.inr h
  have hS : va_S A s.heap s.heap [] := va_S.rf
  have hP : va_P D vwCl (wMo T am mguests mclause mdeeds masked mupper mlower mfinding mreadGuests misSight mat mrowSizes mrows mtextSizes mtexts mdoes mkinds msees mnow mbefore mkeeps mkept mfindings mread maside msteps mtried mbest) s.heap := hP
  obtain ⟨ls, hl, e0⟩ := my_entry (m := m) (n := 5) ha (Nat.le_of_ble_eq_true rfl)
  rw [e0]
  have hl : lv_has ls 5 [(0, .ref (am 0)), (1, .int x1)] := hl
  have key : ∀ Q : State → Prop, (∀ (H : Heap) (locs : List Loc) (pc : Nat) (ls : Array Slot), va_P D vwCl (wMo T am mguests mclause mdeeds masked mupper mlower mfinding mreadGuests zmisSight zmat mrowSizes mrows mtextSizes mtexts mdoes mkinds msees mnow mbefore mkeeps mkept mfindings zmread maside msteps mtried mbest) H → va_D A (wMo T am mguests mclause mdeeds masked mupper mlower mfinding mreadGuests zmisSight zmat mrowSizes mrows mtextSizes mtexts mdoes mkinds msees mnow mbefore mkeeps mkept mfindings zmread maside msteps mtried mbest) → va_S A s.heap H locs → decode cX6_takesSight pc = .ok (.ireturn, 1) → b01 r → W p l e ({ frames := 1, cells := 0, slots := 0, locals := 25 } : Room) s m args below meth c H locs 0 0 Q (F0 m pc ls [.int r])) → W p l e ({ frames := 1, cells := 0, slots := 0, locals := 25 } : Room) s m args below meth c s.heap [] 0 0 Q (F0 m 0 ls []) := by
    intro Q hret
    skip
    unfold fX6_takesSight at h
    refine lv_aload_n hx hb dX6_takesSight_0 rfl (lv_at hl 0 rfl) ?_
    refine va_get (D := D) (ci := 4) (C := RX6) (T := TX6) (N := 27) hx hb hts iX6 hown hK hP 0 wMo_0 rfl 19 (by decide) q1 (fun _ h9 => h9) rfl dX6_takesSight_1 ?_
    refine lv_if_ne (tgt := 9) hx hb dX6_takesSight_4 (by decide) (fun c4 => ?_) (fun c4 => ?_)
    · have h := br_0 h c4
      refine lv_aload_n hx hb dX6_takesSight_9 rfl (lv_at hl 0 rfl) ?_
      refine lv_dup hx hb dX6_takesSight_10 rfl ?_
      refine va_get (D := D) (ci := 4) (C := RX6) (T := TX6) (N := 27) hx hb hts iX6 hown hK hP 0 wMo_0 rfl 22 (by decide) q2 (fun _ h9 => h9) rfl dX6_takesSight_11 ?_
      refine lv_iconst (v := (1 : Int32)) hx hb dX6_takesSight_14 (by decide) ?_
      refine lv_iadd hx hb dX6_takesSight_15 ?_
      refine va_put (D := D) (ci := 4) (v := .int (mat + (1 : Int32))) (ty := .int) (C := RX6) (T := TX6) (N := 27) hx hb hts iX6 tyX6 tyX6_ok nmX6 hown hK hP hD hS 0 wMo_0 rfl 22 (by decide) q2 (fun _ h9 => h9) rfl (by decide +kernel) rfl rfl (Nat.le_of_ble_eq_true rfl) dX6_takesSight_16 (fun H locs hP hD hS => ?_)
      have hP : va_P D vwCl (wMo T am mguests mclause mdeeds masked mupper mlower mfinding mreadGuests misSight (mat + (1 : Int32)) mrowSizes mrows mtextSizes mtexts mdoes mkinds msees mnow mbefore mkeeps mkept mfindings mread maside msteps mtried mbest) H := hP
      have hD : va_D A (wMo T am mguests mclause mdeeds masked mupper mlower mfinding mreadGuests misSight (mat + (1 : Int32)) mrowSizes mrows mtextSizes mtexts mdoes mkinds msees mnow mbefore mkeeps mkept mfindings mread maside msteps mtried mbest) := hD
      refine lv_aload_n hx hb dX6_takesSight_19 rfl (lv_at hl 0 rfl) ?_
      refine lv_iconst (v := (1 : Int32)) hx hb dX6_takesSight_20 (by decide) ?_
      refine va_put (D := D) (ci := 4) (v := .int (1 : Int32)) (ty := .boolean) (C := RX6) (T := TX6) (N := 27) hx hb hts iX6 tyX6 tyX6_ok nmX6 hown hK hP hD hS 0 wMo_0 rfl 21 (by decide) q3 (fun _ h9 => h9) rfl (by decide +kernel) rfl rfl (Nat.le_of_ble_eq_true rfl) dX6_takesSight_21 (fun H locs hP hD hS => ?_)
      have hP : va_P D vwCl (wMo T am mguests mclause mdeeds masked mupper mlower mfinding mreadGuests (1 : Int32) (mat + (1 : Int32)) mrowSizes mrows mtextSizes mtexts mdoes mkinds msees mnow mbefore mkeeps mkept mfindings mread maside msteps mtried mbest) H := hP
      have hD : va_D A (wMo T am mguests mclause mdeeds masked mupper mlower mfinding mreadGuests (1 : Int32) (mat + (1 : Int32)) mrowSizes mrows mtextSizes mtexts mdoes mkinds msees mnow mbefore mkeeps mkept mfindings mread maside msteps mtried mbest) := hD
      refine lv_aload_n hx hb dX6_takesSight_24 rfl (lv_at hl 0 rfl) ?_
      refine va_get (D := D) (ci := 4) (C := RX6) (T := TX6) (N := 27) hx hb hts iX6 hown hK hP 0 wMo_0 rfl 19 (by decide) q1 (fun _ h9 => h9) rfl dX6_takesSight_25 ?_
      refine lv_iconst (v := (1 : Int32)) hx hb dX6_takesSight_28 (by decide) ?_
      refine lv_isub hx hb dX6_takesSight_29 ?_
      refine lv_istore_n (lv' := [(2, .int (mreadGuests - (1 : Int32))), (0, .ref (am 0)), (1, .int x1)]) hx hb dX6_takesSight_30 rfl hl (by decide) rfl (fun ls hl => ?_)
      refine lv_aload_n hx hb dX6_takesSight_31 rfl (lv_at hl 1 rfl) ?_
      refine lv_iload_n hx hb dX6_takesSight_32 rfl (lv_at hl 2 rfl) ?_
      obtain ⟨r33, hc, h⟩ := bd1_some h
      refine my_roi (va_Run.run (va_runV (As := [.int x1]) (rest := []) hFix (kX6_byteAt l D T F am mguests mclause mdeeds masked mupper mlower mfinding mreadGuests (1 : Int32) (mat + (1 : Int32)) mrowSizes mrows mtextSizes mtexts mdoes mkinds msees mnow mbefore mkeeps mkept mfindings mread maside msteps mtried mbest x1 r33 hc) (cwV 1 hts gX6_takesSight_X6_byteAt rfl rfl rfl ⟨rfl, hd_X6_byteAt⟩ ⟨Nat.le_of_ble_eq_true rfl, Nat.le_of_ble_eq_true rfl⟩) (preV_ro hP hKK (va_recv hK hP (ci := 4) (q0 := 0) rfl wMo_0)) rfl rfl hl.1 rfl (lv_room (Nat.le_of_ble_eq_true rfl)) dX6_takesSight_33 ⟨Nat.zero_le _, Nat.zero_le _⟩)) ?_
      refine lv_bipush (v := (48 : Int32)) hx hb dX6_takesSight_36 (by decide) ?_
      refine lv_isub hx hb dX6_takesSight_38 ?_
      refine lv_istore_n (lv' := [(3, .int (r33 - (48 : Int32))), (2, .int (mreadGuests - (1 : Int32))), (0, .ref (am 0)), (1, .int x1)]) hx hb dX6_takesSight_39 rfl hl (by decide) rfl (fun ls hl => ?_)
      refine lv_iload_n hx hb dX6_takesSight_40 rfl (lv_at hl 0 rfl) ?_
      refine lv_i2l (v := ((r33 - (48 : Int32)).toInt64)) hx hb dX6_takesSight_41 rfl ?_
      refine lv_lconst (v := (0 : Int64)) hx hb dX6_takesSight_42 (by decide) ?_
      refine lv_iload_n hx hb dX6_takesSight_43 rfl (lv_at hl 1 rfl) ?_
      refine lv_i2l (v := ((mreadGuests - (1 : Int32)).toInt64)) hx hb dX6_takesSight_44 rfl ?_
      obtain ⟨r45, hc, h⟩ := bd1_some h
      refine my_roz (va_Run.run (va_runS (As := [.long ((r33 - (48 : Int32)).toInt64), .long (0 : Int64), .long ((mreadGuests - (1 : Int32)).toInt64)]) (rest := []) hFix (kX6_in l D T F ((r33 - (48 : Int32)).toInt64) (0 : Int64) ((mreadGuests - (1 : Int32)).toInt64) r45 hc) (va_cwS 3 hts gX6_takesSight_X6_in rfl rfl rfl hd_X6_in ⟨Nat.le_of_ble_eq_true rfl, Nat.le_of_ble_eq_true rfl⟩) (preS_ro va_nil hKK) rfl rfl hl.1 rfl (lv_room (Nat.le_of_ble_eq_true rfl)) dX6_takesSight_45 ⟨Nat.zero_le _, Nat.zero_le _⟩)) (fun hb45 => ?_)
      refine lv_if_ne (tgt := 53) hx hb dX6_takesSight_48 (by decide) (fun c48 => ?_) (fun c48 => ?_)
      · have h := br_0 h c48
        refine lv_aload_n hx hb dX6_takesSight_53 rfl (lv_at hl 2 rfl) ?_
        refine lv_dup hx hb dX6_takesSight_54 rfl ?_
        refine va_get (D := D) (ci := 4) (C := RX6) (T := TX6) (N := 27) hx hb hts iX6 hown hK hP 0 wMo_0 rfl 22 (by decide) q2 (fun _ h9 => h9) rfl dX6_takesSight_55 ?_
        refine lv_iconst (v := (1 : Int32)) hx hb dX6_takesSight_58 (by decide) ?_
        refine lv_iadd hx hb dX6_takesSight_59 ?_
        refine va_put (D := D) (ci := 4) (v := .int ((mat + (1 : Int32)) + (1 : Int32))) (ty := .int) (C := RX6) (T := TX6) (N := 27) hx hb hts iX6 tyX6 tyX6_ok nmX6 hown hK hP hD hS 0 wMo_0 rfl 22 (by decide) q2 (fun _ h9 => h9) rfl (by decide +kernel) rfl rfl (Nat.le_of_ble_eq_true rfl) dX6_takesSight_60 (fun H locs hP hD hS => ?_)
        have hP : va_P D vwCl (wMo T am mguests mclause mdeeds masked mupper mlower mfinding mreadGuests (1 : Int32) ((mat + (1 : Int32)) + (1 : Int32)) mrowSizes mrows mtextSizes mtexts mdoes mkinds msees mnow mbefore mkeeps mkept mfindings mread maside msteps mtried mbest) H := hP
        have hD : va_D A (wMo T am mguests mclause mdeeds masked mupper mlower mfinding mreadGuests (1 : Int32) ((mat + (1 : Int32)) + (1 : Int32)) mrowSizes mrows mtextSizes mtexts mdoes mkinds msees mnow mbefore mkeeps mkept mfindings mread maside msteps mtried mbest) := hD
        refine lv_aload_n hx hb dX6_takesSight_63 rfl (lv_at hl 2 rfl) ?_
        refine lv_iload_n hx hb dX6_takesSight_64 rfl (lv_at hl 3 rfl) ?_
        obtain ⟨r65, hc, h⟩ := bd1_some h
        refine my_roi (va_Run.run (va_runV (As := [.int x1]) (rest := []) hFix (kX6_byteAt l D T F am mguests mclause mdeeds masked mupper mlower mfinding mreadGuests (1 : Int32) ((mat + (1 : Int32)) + (1 : Int32)) mrowSizes mrows mtextSizes mtexts mdoes mkinds msees mnow mbefore mkeeps mkept mfindings mread maside msteps mtried mbest x1 r65 hc) (cwV 1 hts gX6_takesSight_X6_byteAt rfl rfl rfl ⟨rfl, hd_X6_byteAt⟩ ⟨Nat.le_of_ble_eq_true rfl, Nat.le_of_ble_eq_true rfl⟩) (preV_ro hP hKK (va_recv hK hP (ci := 4) (q0 := 0) rfl wMo_0)) rfl rfl hl.1 rfl (lv_room (Nat.le_of_ble_eq_true rfl)) dX6_takesSight_65 ⟨Nat.zero_le _, Nat.zero_le _⟩)) ?_
        refine lv_bipush (v := (48 : Int32)) hx hb dX6_takesSight_68 (by decide) ?_
        refine lv_isub hx hb dX6_takesSight_70 ?_
        refine lv_istore (lv' := [(4, .int (r65 - (48 : Int32))), (3, .int (r33 - (48 : Int32))), (2, .int (mreadGuests - (1 : Int32))), (0, .ref (am 0)), (1, .int x1)]) hx hb dX6_takesSight_71 hl (by decide) rfl (fun ls hl => ?_)
        refine lv_iload hx hb dX6_takesSight_73 (lv_at hl 0 rfl) ?_
        refine lv_i2l (v := ((r65 - (48 : Int32)).toInt64)) hx hb dX6_takesSight_75 rfl ?_
        refine lv_lconst (v := (0 : Int64)) hx hb dX6_takesSight_76 (by decide) ?_
        refine lv_iload_n hx hb dX6_takesSight_77 rfl (lv_at hl 2 rfl) ?_
        refine lv_i2l (v := ((mreadGuests - (1 : Int32)).toInt64)) hx hb dX6_takesSight_78 rfl ?_
        obtain ⟨r79, hc, h⟩ := bd1_some h
        refine my_roz (va_Run.run (va_runS (As := [.long ((r65 - (48 : Int32)).toInt64), .long (0 : Int64), .long ((mreadGuests - (1 : Int32)).toInt64)]) (rest := []) hFix (kX6_in l D T F ((r65 - (48 : Int32)).toInt64) (0 : Int64) ((mreadGuests - (1 : Int32)).toInt64) r79 hc) (va_cwS 3 hts gX6_takesSight_X6_in rfl rfl rfl hd_X6_in ⟨Nat.le_of_ble_eq_true rfl, Nat.le_of_ble_eq_true rfl⟩) (preS_ro va_nil hKK) rfl rfl hl.1 rfl (lv_room (Nat.le_of_ble_eq_true rfl)) dX6_takesSight_79 ⟨Nat.zero_le _, Nat.zero_le _⟩)) (fun hb79 => ?_)
        refine lv_if_eq (tgt := 109) hx hb dX6_takesSight_82 (by decide) (fun c82 => ?_) (fun c82 => ?_)
        · have h := br_1 h c82
          refine lv_iconst (v := (0 : Int32)) hx hb dX6_takesSight_109 (by decide) ?_
          cases h
          exact hret _ _ _ _ hP hD hS dX6_takesSight_110 (Or.inl rfl)
        · have h := br_0 h c82
          refine lv_iload_n hx hb dX6_takesSight_85 rfl (lv_at hl 1 rfl) ?_
          refine lv_iload hx hb dX6_takesSight_86 (lv_at hl 0 rfl) ?_
          refine lv_icmp_eq (tgt := 109) hx hb dX6_takesSight_88 (by decide) (fun c88 => ?_) (fun c88 => ?_)
          · have h := br_1 h c88
            refine lv_iconst (v := (0 : Int32)) hx hb dX6_takesSight_109 (by decide) ?_
            cases h
            exact hret _ _ _ _ hP hD hS dX6_takesSight_110 (Or.inl rfl)
          · have h := br_0 h c88
            refine lv_aload_n hx hb dX6_takesSight_91 rfl (lv_at hl 3 rfl) ?_
            refine va_get (D := D) (ci := 4) (C := RX6) (T := TX6) (N := 27) hx hb hts iX6 hown hK hP 0 wMo_0 rfl 20 (by decide) q4 (fun _ h9 => h9) rfl dX6_takesSight_92 ?_
            refine lv_bipush (v := (17 : Int32)) hx hb dX6_takesSight_95 (by decide) ?_
            refine lv_iload_n hx hb dX6_takesSight_97 rfl (lv_at hl 1 rfl) ?_
            refine lv_iadd hx hb dX6_takesSight_98 ?_
            obtain ⟨hin1, h⟩ := ck_some h
            refine va_iald hx hb hK hP 13 0 wMo_13 rfl hin1 dX6_takesSight_99 ?_
            refine lv_iload hx hb dX6_takesSight_100 (lv_at hl 0 rfl) ?_
            refine lv_ishr hx hb dX6_takesSight_102 ?_
            refine lv_iconst (v := (1 : Int32)) hx hb dX6_takesSight_103 (by decide) ?_
            refine lv_iand hx hb dX6_takesSight_104 ?_
            refine lv_iconst (v := (1 : Int32)) hx hb dX6_takesSight_105 (by decide) ?_
            refine lv_icmp_ne (tgt := 111) hx hb dX6_takesSight_106 (by decide) (fun c106 => ?_) (fun c106 => ?_)
            · have h := br_0 h c106
              refine lv_aload_n hx hb dX6_takesSight_111 rfl (lv_at hl 3 rfl) ?_
              refine lv_dup hx hb dX6_takesSight_112 rfl ?_
              refine va_get (D := D) (ci := 4) (C := RX6) (T := TX6) (N := 27) hx hb hts iX6 hown hK hP 0 wMo_0 rfl 22 (by decide) q2 (fun _ h9 => h9) rfl dX6_takesSight_113 ?_
              refine lv_iconst (v := (1 : Int32)) hx hb dX6_takesSight_116 (by decide) ?_
              refine lv_iadd hx hb dX6_takesSight_117 ?_
              refine va_put (D := D) (ci := 4) (v := .int (((mat + (1 : Int32)) + (1 : Int32)) + (1 : Int32))) (ty := .int) (C := RX6) (T := TX6) (N := 27) hx hb hts iX6 tyX6 tyX6_ok nmX6 hown hK hP hD hS 0 wMo_0 rfl 22 (by decide) q2 (fun _ h9 => h9) rfl (by decide +kernel) rfl rfl (Nat.le_of_ble_eq_true rfl) dX6_takesSight_118 (fun H locs hP hD hS => ?_)
              have hP : va_P D vwCl (wMo T am mguests mclause mdeeds masked mupper mlower mfinding mreadGuests (1 : Int32) (((mat + (1 : Int32)) + (1 : Int32)) + (1 : Int32)) mrowSizes mrows mtextSizes mtexts mdoes mkinds msees mnow mbefore mkeeps mkept mfindings mread maside msteps mtried mbest) H := hP
              have hD : va_D A (wMo T am mguests mclause mdeeds masked mupper mlower mfinding mreadGuests (1 : Int32) (((mat + (1 : Int32)) + (1 : Int32)) + (1 : Int32)) mrowSizes mrows mtextSizes mtexts mdoes mkinds msees mnow mbefore mkeeps mkept mfindings mread maside msteps mtried mbest) := hD
              refine lv_aload_n hx hb dX6_takesSight_121 rfl (lv_at hl 3 rfl) ?_
              refine va_get (D := D) (ci := 4) (C := RX6) (T := TX6) (N := 27) hx hb hts iX6 hown hK hP 0 wMo_0 rfl 20 (by decide) q4 (fun _ h9 => h9) rfl dX6_takesSight_122 ?_
              refine lv_bipush (v := (17 : Int32)) hx hb dX6_takesSight_125 (by decide) ?_
              refine lv_iload_n hx hb dX6_takesSight_127 rfl (lv_at hl 1 rfl) ?_
              refine lv_iadd hx hb dX6_takesSight_128 ?_
              refine lv_dup2_11 hx hb dX6_takesSight_129 rfl rfl ?_
              obtain ⟨hin2, h⟩ := ck_some h
              refine va_iald hx hb hK hP 13 0 wMo_13 rfl hin2 dX6_takesSight_130 ?_
              refine lv_iconst (v := (1 : Int32)) hx hb dX6_takesSight_131 (by decide) ?_
              refine lv_iload hx hb dX6_takesSight_132 (lv_at hl 0 rfl) ?_
              refine lv_ishl hx hb dX6_takesSight_134 ?_
              refine lv_ior hx hb dX6_takesSight_135 ?_
              obtain ⟨hin3, h⟩ := ck_some h
              refine va_iast hx hb hK hP hD hS 13 0 wMo_13 rfl hin3 dX6_takesSight_136 (fun H locs hP hD hS => ?_)
              have hP : va_P D vwCl (wMo T am mguests mclause mdeeds masked mupper mlower mfinding mreadGuests (1 : Int32) (((mat + (1 : Int32)) + (1 : Int32)) + (1 : Int32)) mrowSizes mrows mtextSizes mtexts mdoes mkinds msees mnow mbefore mkeeps mkept mfindings (upd mread ((17 : Int32) + (r33 - (48 : Int32))).toNatClampNeg ((mread ((17 : Int32) + (r33 - (48 : Int32))).toNatClampNeg) ||| ((1 : Int32) <<< ((r65 - (48 : Int32)) &&& 31)))) maside msteps mtried mbest) H := hP
              have hD : va_D A (wMo T am mguests mclause mdeeds masked mupper mlower mfinding mreadGuests (1 : Int32) (((mat + (1 : Int32)) + (1 : Int32)) + (1 : Int32)) mrowSizes mrows mtextSizes mtexts mdoes mkinds msees mnow mbefore mkeeps mkept mfindings (upd mread ((17 : Int32) + (r33 - (48 : Int32))).toNatClampNeg ((mread ((17 : Int32) + (r33 - (48 : Int32))).toNatClampNeg) ||| ((1 : Int32) <<< ((r65 - (48 : Int32)) &&& 31)))) maside msteps mtried mbest) := hD
              refine lv_iconst (v := (1 : Int32)) hx hb dX6_takesSight_137 (by decide) ?_
              cases h
              exact hret _ _ _ _ hP hD hS dX6_takesSight_138 (Or.inr rfl)
            · have h := br_1 h c106
              refine lv_iconst (v := (0 : Int32)) hx hb dX6_takesSight_109 (by decide) ?_
              cases h
              exact hret _ _ _ _ hP hD hS dX6_takesSight_110 (Or.inl rfl)
      · have h := br_1 h c48
        refine lv_iconst (v := (0 : Int32)) hx hb dX6_takesSight_51 (by decide) ?_
        cases h
        exact hret _ _ _ _ hP hD hS dX6_takesSight_52 (Or.inl rfl)
    · have h := br_1 h c4
      refine lv_iconst (v := (0 : Int32)) hx hb dX6_takesSight_7 (by decide) ?_
      cases h
      exact hret _ _ _ _ hP hD hS dX6_takesSight_8 (Or.inl rfl)
  exact key _ (fun H locs pc ls hP hD hS hd hb1 => W.zret hx hb hr (b01_n hb1) (fun t ht hW => ⟨⟨_, (), rfl, ⟨rfl, hb1⟩, by show _ ∧ _; rw [ht]; exact ⟨hP, hD⟩⟩, hS.F ht⟩) hS.2.2 hd)
set_option maxHeartbeats 4000000 in
set_option maxRecDepth 100000 in
theorem kX6_blanks (l : Launch) (D : va_G) (T : Nat → ClassId) (F : Nat) (am : Nat → Nat) (mguests : Int32) (mclause : Int32) (mdeeds : Int32) (masked : Int32) (mupper : Int64) (mlower : Int64) (mfinding : Int32) (mreadGuests : Int32) (misSight : Int32) (mat : Int32) (mrowSizes : Nat → Int32) (mrows : Nat → Int32) (mtextSizes : Nat → Int32) (mtexts : Nat → Int32) (mdoes : Nat → Int32) (mkinds : Nat → Int32) (msees : Nat → Int32) (mnow : Nat → Int32) (mbefore : Nat → Int32) (mkeeps : Nat → Int32) (mkept : Nat → Int32) (mfindings : Nat → Int32) (mread : Nat → Int32) (maside : Nat → Int32) (msteps : Nat → Int32) (mtried : Nat → Int32) (mbest : Nat → Int32) (x1 : Int32) (zmat : Int32) (h : fX6_blanks F mat mtextSizes mtexts x1 = some (zmat)) : ∀ sz : Nat, Met l yX6_blanks wsX6_blanks ({ frames := 1, cells := 0, slots := 0, locals := 21 } : Room) (va_Pc [.ref (am 0), .int x1] (fun U => U.heap.size = sz ∧ va_P D vwCl (wMo T am mguests mclause mdeeds masked mupper mlower mfinding mreadGuests misSight mat mrowSizes mrows mtextSizes mtexts mdoes mkinds msees mnow mbefore mkeeps mkept mfindings mread maside msteps mtried mbest) U.heap ∧ KK D T U ∧ va_D (fun _ => True) (wMo T am mguests mclause mdeeds masked mupper mlower mfinding mreadGuests misSight mat mrowSizes mrows mtextSizes mtexts mdoes mkinds msees mnow mbefore mkeeps mkept mfindings mread maside msteps mtried mbest))) (va_Qv (fun _ : Unit => True) (fun _ t => va_P D vwCl (wMo T am mguests mclause mdeeds masked mupper mlower mfinding mreadGuests misSight zmat mrowSizes mrows mtextSizes mtexts mdoes mkinds msees mnow mbefore mkeeps mkept mfindings mread maside msteps mtried mbest) t.heap ∧ va_D (va_A (wMo T am mguests mclause mdeeds masked mupper mlower mfinding mreadGuests misSight mat mrowSizes mrows mtextSizes mtexts mdoes mkinds msees mnow mbefore mkeeps mkept mfindings mread maside msteps mtried mbest) sz) (wMo T am mguests mclause mdeeds masked mupper mlower mfinding mreadGuests misSight zmat mrowSizes mrows mtextSizes mtexts mdoes mkinds msees mnow mbefore mkeeps mkept mfindings mread maside msteps mtried mbest)) (va_A (wMo T am mguests mclause mdeeds masked mupper mlower mfinding mreadGuests misSight mat mrowSizes mrows mtextSizes mtexts mdoes mkinds msees mnow mbefore mkeeps mkept mfindings mread maside msteps mtried mbest) sz)) 0 0 (va_A (wMo T am mguests mclause mdeeds masked mupper mlower mfinding mreadGuests misSight mat mrowSizes mrows mtextSizes mtexts mdoes mkinds msees mnow mbefore mkeeps mkept mfindings mread maside msteps mtried mbest) sz) := by
  intro sz
  refine Met.ofW (cc := cX6_blanks) (maxL := 2) (ret := none) (by decide) rfl ?_
  intro p e s m args below meth c s₁ B hml hv
  obtain ⟨ha, hsz, hP, hKK, hD0⟩ := hv
  have hx := B.exec
  have hb := B.bytes
  have hr := B.returns
  have hts := atoms_spec (ws := wsX6_blanks) B.pre
  have hown : s.vm.findClass RX6 = some m.cls := findClass_of_methodNamed B.named
  have hlocks := B.notSynchronized
  have hK := hKK.1
  have hFix : CallFix p m c cX6_blanks 2 s args wsX6_blanks RX6 := ⟨hx, hb, hml, hown, hts⟩
  have q1 := hts _ (List.mem_of_getElem? (i := 1) (show wsX6_blanks[1]? = some (Cond.fieldLink RX6 95 "PartyWillModel" "at" "I") from rfl))
  have iX6 : ∀ w ∈ u_ws RX6 TX6 27, w ∈ wsX6_blanks := fun w h => List.mem_cons_of_mem _ (List.mem_append_right _ (h))
  subst hsz
  have hD := hD0.self (sz := s.heap.size)
  generalize hAe : va_A (wMo T am mguests mclause mdeeds masked mupper mlower mfinding mreadGuests misSight mat mrowSizes mrows mtextSizes mtexts mdoes mkinds msees mnow mbefore mkeeps mkept mfindings mread maside msteps mtried mbest) s.heap.size = A at hD ⊢
  have hA : ∀ q : Nat, s.heap.size ≤ q → A q := fun q h => by rw [← hAe]; exact Or.inr h
  have hS : va_S A s.heap s.heap [] := va_S.rf
  have hP : va_P D vwCl (wMo T am mguests mclause mdeeds masked mupper mlower mfinding mreadGuests misSight mat mrowSizes mrows mtextSizes mtexts mdoes mkinds msees mnow mbefore mkeeps mkept mfindings mread maside msteps mtried mbest) s.heap := hP
  obtain ⟨ls, hl, e0⟩ := my_entry (m := m) (n := 2) ha (Nat.le_of_ble_eq_true rfl)
  rw [e0]
  have hl : lv_has ls 2 [(0, .ref (am 0)), (1, .int x1)] := hl
  have key : ∀ Q : State → Prop, (∀ (H : Heap) (locs : List Loc) (pc : Nat) (ls : Array Slot), va_P D vwCl (wMo T am mguests mclause mdeeds masked mupper mlower mfinding mreadGuests misSight zmat mrowSizes mrows mtextSizes mtexts mdoes mkinds msees mnow mbefore mkeeps mkept mfindings mread maside msteps mtried mbest) H → va_D A (wMo T am mguests mclause mdeeds masked mupper mlower mfinding mreadGuests misSight zmat mrowSizes mrows mtextSizes mtexts mdoes mkinds msees mnow mbefore mkeeps mkept mfindings mread maside msteps mtried mbest) → va_S A s.heap H locs → decode cX6_blanks pc = .ok (.return_, 1) → W p l e ({ frames := 1, cells := 0, slots := 0, locals := 21 } : Room) s m args below meth c H locs 0 0 Q (F0 m pc ls [])) → W p l e ({ frames := 1, cells := 0, slots := 0, locals := 21 } : Room) s m args below meth c s.heap [] 0 0 Q (F0 m 0 ls []) := by
    intro Q hret
    skip
    have l0 : ∀ x1 : Int32, ∀ nu : Nat, ∀ mat : Int32, fX6_blanks_l0 F mtextSizes mtexts x1 nu mat = some (zmat) → ∀ (H : Heap) (locs : List Loc), va_P D vwCl (wMo T am mguests mclause mdeeds masked mupper mlower mfinding mreadGuests misSight mat mrowSizes mrows mtextSizes mtexts mdoes mkinds msees mnow mbefore mkeeps mkept mfindings mread maside msteps mtried mbest) H → va_D A (wMo T am mguests mclause mdeeds masked mupper mlower mfinding mreadGuests misSight mat mrowSizes mrows mtextSizes mtexts mdoes mkinds msees mnow mbefore mkeeps mkept mfindings mread maside msteps mtried mbest) → va_S A s.heap H locs → ∀ (ls : Array Slot), lv_has ls 2 [(0, .ref (am 0)), (1, .int x1)] → W p l e ({ frames := 1, cells := 0, slots := 0, locals := 21 } : Room) s m args below meth c H locs 0 0 Q (F0 m 0 ls []) := by
      intro x1
      intro nu
      induction nu with
      | zero => intro mat h; exact none_some h
      | succ nu0 ih0 =>
        intro mat h H locs hP hD hS ls hl
        have h : fX6_blanks_l0_b F mtextSizes mtexts x1 (fX6_blanks_l0 F mtextSizes mtexts x1 nu0) mat = some (zmat) := h
        unfold fX6_blanks_l0_b at h
        refine lv_aload_n hx hb dX6_blanks_0 rfl (lv_at hl 0 rfl) ?_
        refine lv_iload_n hx hb dX6_blanks_1 rfl (lv_at hl 1 rfl) ?_
        obtain ⟨r2, hc, h⟩ := bd1_some h
        refine my_roi (va_Run.run (va_runV (As := [.int x1]) (rest := []) hFix (kX6_byteAt l D T F am mguests mclause mdeeds masked mupper mlower mfinding mreadGuests misSight mat mrowSizes mrows mtextSizes mtexts mdoes mkinds msees mnow mbefore mkeeps mkept mfindings mread maside msteps mtried mbest x1 r2 hc) (cwV 1 hts gX6_blanks_X6_byteAt rfl rfl rfl ⟨rfl, hd_X6_byteAt⟩ ⟨Nat.le_of_ble_eq_true rfl, Nat.le_of_ble_eq_true rfl⟩) (preV_ro hP hKK (va_recv hK hP (ci := 4) (q0 := 0) rfl wMo_0)) rfl rfl hl.1 rfl (lv_room (Nat.le_of_ble_eq_true rfl)) dX6_blanks_2 ⟨Nat.zero_le _, Nat.zero_le _⟩)) ?_
        refine lv_bipush (v := (32 : Int32)) hx hb dX6_blanks_5 (by decide) ?_
        refine lv_icmp_ne (tgt := 23) hx hb dX6_blanks_7 (by decide) (fun c7 => ?_) (fun c7 => ?_)
        · have h := br_0 h c7
          cases h
          exact hret _ _ _ _ hP hD hS dX6_blanks_23
        · have h := br_1 h c7
          refine lv_aload_n hx hb dX6_blanks_10 rfl (lv_at hl 0 rfl) ?_
          refine lv_dup hx hb dX6_blanks_11 rfl ?_
          refine va_get (D := D) (ci := 4) (C := RX6) (T := TX6) (N := 27) hx hb hts iX6 hown hK hP 0 wMo_0 rfl 22 (by decide) q1 (fun _ h9 => h9) rfl dX6_blanks_12 ?_
          refine lv_iconst (v := (1 : Int32)) hx hb dX6_blanks_15 (by decide) ?_
          refine lv_iadd hx hb dX6_blanks_16 ?_
          refine va_put (D := D) (ci := 4) (v := .int (mat + (1 : Int32))) (ty := .int) (C := RX6) (T := TX6) (N := 27) hx hb hts iX6 tyX6 tyX6_ok nmX6 hown hK hP hD hS 0 wMo_0 rfl 22 (by decide) q1 (fun _ h9 => h9) rfl (by decide +kernel) rfl rfl (Nat.le_of_ble_eq_true rfl) dX6_blanks_17 (fun H locs hP hD hS => ?_)
          have hP : va_P D vwCl (wMo T am mguests mclause mdeeds masked mupper mlower mfinding mreadGuests misSight (mat + (1 : Int32)) mrowSizes mrows mtextSizes mtexts mdoes mkinds msees mnow mbefore mkeeps mkept mfindings mread maside msteps mtried mbest) H := hP
          have hD : va_D A (wMo T am mguests mclause mdeeds masked mupper mlower mfinding mreadGuests misSight (mat + (1 : Int32)) mrowSizes mrows mtextSizes mtexts mdoes mkinds msees mnow mbefore mkeeps mkept mfindings mread maside msteps mtried mbest) := hD
          refine lv_goto (tgt := 0) hx hb dX6_blanks_20 (by decide) ?_
          exact ih0 (mat + (1 : Int32)) h _ _ hP hD hS _ (lv_sub hl [0, 1] rfl)
    unfold fX6_blanks at h
    exact l0 x1 F mat h _ _ hP hD hS _ (lv_sub hl [0, 1] rfl)
  exact key _ (fun H locs pc ls hP hD hS hd => W.vret hx hb hr (fun t ht hW => ⟨⟨(), rfl, trivial, by show _ ∧ _; rw [ht]; exact ⟨hP, hD⟩⟩, hS.F ht⟩) hS.2.2 hd)
set_option maxHeartbeats 4000000 in
set_option maxRecDepth 100000 in
theorem kX6_reads (l : Launch) (D : va_G) (T : Nat → ClassId) (F : Nat) (am : Nat → Nat) (mguests : Int32) (mclause : Int32) (mdeeds : Int32) (masked : Int32) (mupper : Int64) (mlower : Int64) (mfinding : Int32) (mreadGuests : Int32) (misSight : Int32) (mat : Int32) (mrowSizes : Nat → Int32) (mrows : Nat → Int32) (mtextSizes : Nat → Int32) (mtexts : Nat → Int32) (mdoes : Nat → Int32) (mkinds : Nat → Int32) (msees : Nat → Int32) (mnow : Nat → Int32) (mbefore : Nat → Int32) (mkeeps : Nat → Int32) (mkept : Nat → Int32) (mfindings : Nat → Int32) (mread : Nat → Int32) (maside : Nat → Int32) (msteps : Nat → Int32) (mtried : Nat → Int32) (mbest : Nat → Int32) (x1 : Int32) (r : Int32) (zmreadGuests : Int32) (zmisSight : Int32) (zmat : Int32) (zmread : Nat → Int32) (h : fX6_reads F mreadGuests misSight mat mtextSizes mtexts mread x1 = some (r, zmreadGuests, zmisSight, zmat, zmread)) : ∀ sz : Nat, Met l yX6_reads wsX6_reads ({ frames := 3, cells := 0, slots := 0, locals := 73 } : Room) (va_Pc [.ref (am 0), .int x1] (fun U => U.heap.size = sz ∧ va_P D vwCl (wMo T am mguests mclause mdeeds masked mupper mlower mfinding mreadGuests misSight mat mrowSizes mrows mtextSizes mtexts mdoes mkinds msees mnow mbefore mkeeps mkept mfindings mread maside msteps mtried mbest) U.heap ∧ KK D T U ∧ va_D (fun _ => True) (wMo T am mguests mclause mdeeds masked mupper mlower mfinding mreadGuests misSight mat mrowSizes mrows mtextSizes mtexts mdoes mkinds msees mnow mbefore mkeeps mkept mfindings mread maside msteps mtried mbest))) (va_Qi (fun r' (_ : Unit) => r' = r) (fun _ t => va_P D vwCl (wMo T am mguests mclause mdeeds masked mupper mlower mfinding zmreadGuests zmisSight zmat mrowSizes mrows mtextSizes mtexts mdoes mkinds msees mnow mbefore mkeeps mkept mfindings zmread maside msteps mtried mbest) t.heap ∧ va_D (va_A (wMo T am mguests mclause mdeeds masked mupper mlower mfinding mreadGuests misSight mat mrowSizes mrows mtextSizes mtexts mdoes mkinds msees mnow mbefore mkeeps mkept mfindings mread maside msteps mtried mbest) sz) (wMo T am mguests mclause mdeeds masked mupper mlower mfinding zmreadGuests zmisSight zmat mrowSizes mrows mtextSizes mtexts mdoes mkinds msees mnow mbefore mkeeps mkept mfindings zmread maside msteps mtried mbest)) (va_A (wMo T am mguests mclause mdeeds masked mupper mlower mfinding mreadGuests misSight mat mrowSizes mrows mtextSizes mtexts mdoes mkinds msees mnow mbefore mkeeps mkept mfindings mread maside msteps mtried mbest) sz)) 0 0 (va_A (wMo T am mguests mclause mdeeds masked mupper mlower mfinding mreadGuests misSight mat mrowSizes mrows mtextSizes mtexts mdoes mkinds msees mnow mbefore mkeeps mkept mfindings mread maside msteps mtried mbest) sz) := by
  intro sz
  refine Met.ofW (cc := cX6_reads) (maxL := 2) (ret := some .int) (by decide) rfl ?_
  intro p e s m args below meth c s₁ B hml hv
  obtain ⟨ha, hsz, hP, hKK, hD0⟩ := hv
  have hx := B.exec
  have hb := B.bytes
  have hr := B.returns
  have hts := atoms_spec (ws := wsX6_reads) B.pre
  have hown : s.vm.findClass RX6 = some m.cls := findClass_of_methodNamed B.named
  have hlocks := B.notSynchronized
  have hK := hKK.1
  have hFix : CallFix p m c cX6_reads 2 s args wsX6_reads RX6 := ⟨hx, hb, hml, hown, hts⟩
  have q1 := hts _ (List.mem_of_getElem? (i := 1) (show wsX6_reads[1]? = some (Cond.fieldLink RX6 108 "PartyWillModel" "readGuests" "I") from rfl))
  have q2 := hts _ (List.mem_of_getElem? (i := 2) (show wsX6_reads[2]? = some (Cond.fieldLink RX6 111 "PartyWillModel" "isSight" "Z") from rfl))
  have q3 := hts _ (List.mem_of_getElem? (i := 3) (show wsX6_reads[3]? = some (Cond.fieldLink RX6 95 "PartyWillModel" "at" "I") from rfl))
  have q4 := hts _ (List.mem_of_getElem? (i := 4) (show wsX6_reads[4]? = some (Cond.fieldLink RX6 16 "PartyWillModel" "textSizes" "[I") from rfl))
  have iX6 : ∀ w ∈ u_ws RX6 TX6 27, w ∈ wsX6_reads := fun w h => List.mem_cons_of_mem _ (List.mem_append_right _ (h))
  subst hsz
  have hD := hD0.self (sz := s.heap.size)
  generalize hAe : va_A (wMo T am mguests mclause mdeeds masked mupper mlower mfinding mreadGuests misSight mat mrowSizes mrows mtextSizes mtexts mdoes mkinds msees mnow mbefore mkeeps mkept mfindings mread maside msteps mtried mbest) s.heap.size = A at hD ⊢
  have hA : ∀ q : Nat, s.heap.size ≤ q → A q := fun q h => by rw [← hAe]; exact Or.inr h
  have hS : va_S A s.heap s.heap [] := va_S.rf
  have hP : va_P D vwCl (wMo T am mguests mclause mdeeds masked mupper mlower mfinding mreadGuests misSight mat mrowSizes mrows mtextSizes mtexts mdoes mkinds msees mnow mbefore mkeeps mkept mfindings mread maside msteps mtried mbest) s.heap := hP
  obtain ⟨ls, hl, e0⟩ := my_entry (m := m) (n := 2) ha (Nat.le_of_ble_eq_true rfl)
  rw [e0]
  have hl : lv_has ls 2 [(0, .ref (am 0)), (1, .int x1)] := hl
  have key : ∀ Q : State → Prop, (∀ (H : Heap) (locs : List Loc) (pc : Nat) (ls : Array Slot), va_P D vwCl (wMo T am mguests mclause mdeeds masked mupper mlower mfinding zmreadGuests zmisSight zmat mrowSizes mrows mtextSizes mtexts mdoes mkinds msees mnow mbefore mkeeps mkept mfindings zmread maside msteps mtried mbest) H → va_D A (wMo T am mguests mclause mdeeds masked mupper mlower mfinding zmreadGuests zmisSight zmat mrowSizes mrows mtextSizes mtexts mdoes mkinds msees mnow mbefore mkeeps mkept mfindings zmread maside msteps mtried mbest) → va_S A s.heap H locs → decode cX6_reads pc = .ok (.ireturn, 1) → W p l e ({ frames := 3, cells := 0, slots := 0, locals := 73 } : Room) s m args below meth c H locs 0 0 Q (F0 m pc ls [.int r])) → W p l e ({ frames := 3, cells := 0, slots := 0, locals := 73 } : Room) s m args below meth c s.heap [] 0 0 Q (F0 m 0 ls []) := by
    intro Q hret
    skip
    have l38 : ∀ x1 : Int32, ∀ nu : Nat, ∀ mreadGuests : Int32, ∀ misSight : Int32, ∀ mat : Int32, ∀ mread : Nat → Int32, fX6_reads_l38 F mtextSizes mtexts x1 nu mreadGuests misSight mat mread = some (r, zmreadGuests, zmisSight, zmat, zmread) → ∀ (H : Heap) (locs : List Loc), va_P D vwCl (wMo T am mguests mclause mdeeds masked mupper mlower mfinding mreadGuests misSight mat mrowSizes mrows mtextSizes mtexts mdoes mkinds msees mnow mbefore mkeeps mkept mfindings mread maside msteps mtried mbest) H → va_D A (wMo T am mguests mclause mdeeds masked mupper mlower mfinding mreadGuests misSight mat mrowSizes mrows mtextSizes mtexts mdoes mkinds msees mnow mbefore mkeeps mkept mfindings mread maside msteps mtried mbest) → va_S A s.heap H locs → ∀ (ls : Array Slot), lv_has ls 2 [(0, .ref (am 0)), (1, .int x1)] → W p l e ({ frames := 3, cells := 0, slots := 0, locals := 73 } : Room) s m args below meth c H locs 0 0 Q (F0 m 38 ls []) := by
      intro x1
      intro nu
      induction nu with
      | zero => intro mreadGuests misSight mat mread h; exact none_some h
      | succ nu38 ih38 =>
        intro mreadGuests misSight mat mread h H locs hP hD hS ls hl
        have h : fX6_reads_l38_b F mtextSizes mtexts x1 (fX6_reads_l38 F mtextSizes mtexts x1 nu38) mreadGuests misSight mat mread = some (r, zmreadGuests, zmisSight, zmat, zmread) := h
        unfold fX6_reads_l38_b at h
        refine lv_aload_n hx hb dX6_reads_38 rfl (lv_at hl 0 rfl) ?_
        refine va_get (D := D) (ci := 4) (C := RX6) (T := TX6) (N := 27) hx hb hts iX6 hown hK hP 0 wMo_0 rfl 22 (by decide) q3 (fun _ h9 => h9) rfl dX6_reads_39 ?_
        refine lv_aload_n hx hb dX6_reads_42 rfl (lv_at hl 0 rfl) ?_
        refine va_get (D := D) (ci := 4) (C := RX6) (T := TX6) (N := 27) hx hb hts iX6 hown hK hP 0 wMo_0 rfl 2 (by decide) q4 (fun _ h9 => h9) rfl dX6_reads_43 ?_
        refine lv_iload_n hx hb dX6_reads_46 rfl (lv_at hl 1 rfl) ?_
        obtain ⟨hin1, h⟩ := ck_some h
        refine va_iald hx hb hK hP 3 0 wMo_3 rfl hin1 dX6_reads_47 ?_
        refine lv_icmp_ge (tgt := 93) hx hb dX6_reads_48 (by decide) (fun c48 => ?_) (fun c48 => ?_)
        · have h := br_1 h c48
          refine lv_aload_n hx hb dX6_reads_93 rfl (lv_at hl 0 rfl) ?_
          refine va_get (D := D) (ci := 4) (C := RX6) (T := TX6) (N := 27) hx hb hts iX6 hown hK hP 0 wMo_0 rfl 19 (by decide) q1 (fun _ h9 => h9) rfl dX6_reads_94 ?_
          refine lv_if_ne (tgt := 107) hx hb dX6_reads_97 (by decide) (fun c97 => ?_) (fun c97 => ?_)
          · have h := br_0 h c97
            refine lv_bipush (v := (-9 : Int32)) hx hb dX6_reads_107 (by decide) ?_
            cases h
            exact hret _ _ _ _ hP hD hS dX6_reads_109
          · have h := br_1 h c97
            refine lv_aload_n hx hb dX6_reads_100 rfl (lv_at hl 0 rfl) ?_
            refine va_get (D := D) (ci := 4) (C := RX6) (T := TX6) (N := 27) hx hb hts iX6 hown hK hP 0 wMo_0 rfl 22 (by decide) q3 (fun _ h9 => h9) rfl dX6_reads_101 ?_
            refine lv_goto (tgt := 109) hx hb dX6_reads_104 (by decide) ?_
            cases h
            exact hret _ _ _ _ hP hD hS dX6_reads_109
        · have h := br_0 h c48
          refine lv_aload_n hx hb dX6_reads_51 rfl (lv_at hl 0 rfl) ?_
          refine lv_iload_n hx hb dX6_reads_52 rfl (lv_at hl 1 rfl) ?_
          obtain ⟨r53, hc, h⟩ := bd1_some h
          refine my_roi (va_Run.run (va_runV (As := [.int x1]) (rest := []) hFix (kX6_byteAt l D T F am mguests mclause mdeeds masked mupper mlower mfinding mreadGuests misSight mat mrowSizes mrows mtextSizes mtexts mdoes mkinds msees mnow mbefore mkeeps mkept mfindings mread maside msteps mtried mbest x1 r53 hc) (cwV 1 hts gX6_reads_X6_byteAt rfl rfl rfl ⟨rfl, hd_X6_byteAt⟩ ⟨Nat.le_of_ble_eq_true rfl, Nat.le_of_ble_eq_true rfl⟩) (preV_ro hP hKK (va_recv hK hP (ci := 4) (q0 := 0) rfl wMo_0)) rfl rfl hl.1 rfl (lv_room (Nat.le_of_ble_eq_true rfl)) dX6_reads_53 ⟨Nat.zero_le _, Nat.zero_le _⟩)) ?_
          refine lv_bipush (v := (120 : Int32)) hx hb dX6_reads_56 (by decide) ?_
          refine lv_icmp_ne (tgt := 72) hx hb dX6_reads_58 (by decide) (fun c58 => ?_) (fun c58 => ?_)
          · have h := br_0 h c58
            refine lv_aload_n hx hb dX6_reads_72 rfl (lv_at hl 0 rfl) ?_
            refine lv_iload_n hx hb dX6_reads_73 rfl (lv_at hl 1 rfl) ?_
            obtain ⟨r74, w74_mreadGuests, w74_mat, w74_mread, hc, h⟩ := bd4_some h
            have hFc := my_freeS hD hS hA
            refine my_rwz (va_runV (As := [.int x1]) (rest := []) hFix (kX6_takesGuest l D T F am mguests mclause mdeeds masked mupper mlower mfinding mreadGuests misSight mat mrowSizes mrows mtextSizes mtexts mdoes mkinds msees mnow mbefore mkeeps mkept mfindings mread maside msteps mtried mbest x1 r74 w74_mreadGuests w74_mat w74_mread hc) (cwV 1 hts gX6_reads_X6_takesGuest rfl rfl rfl ⟨rfl, hd_X6_takesGuest⟩ ⟨Nat.le_of_ble_eq_true rfl, Nat.le_of_ble_eq_true rfl⟩) (preV_rw hP hKK hD (va_recv hK hP (ci := 4) (q0 := 0) rfl wMo_0)) rfl rfl hl.1 rfl (lv_room (Nat.le_of_ble_eq_true rfl)) dX6_reads_74 ⟨Nat.zero_le _, Nat.zero_le _⟩) hS hFc (fun hb74 H1 locs hP1 hD1 hz1 hk1 hS => ?_)
            have hP : va_P D vwCl (wMo T am mguests mclause mdeeds masked mupper mlower mfinding w74_mreadGuests misSight w74_mat mrowSizes mrows mtextSizes mtexts mdoes mkinds msees mnow mbefore mkeeps mkept mfindings w74_mread maside msteps mtried mbest) H1 := hP1
            have hD : va_D A (wMo T am mguests mclause mdeeds masked mupper mlower mfinding w74_mreadGuests misSight w74_mat mrowSizes mrows mtextSizes mtexts mdoes mkinds msees mnow mbefore mkeeps mkept mfindings w74_mread maside msteps mtried mbest) := hD1.weaken (fun _ q _ h => hFc q.1 h)
            generalize H1 = H at hP hS ⊢
            refine lv_if_ne (tgt := 85) hx hb dX6_reads_77 (by decide) (fun c77 => ?_) (fun c77 => ?_)
            · have h := br_0 h c77
              refine lv_aload_n hx hb dX6_reads_85 rfl (lv_at hl 0 rfl) ?_
              refine lv_iload_n hx hb dX6_reads_86 rfl (lv_at hl 1 rfl) ?_
              obtain ⟨w87_mat, hc, h⟩ := bd1_some h
              have hFc := my_freeS hD hS hA
              refine my_rwv (va_runV (As := [.int x1]) (rest := []) hFix (kX6_blanks l D T F am mguests mclause mdeeds masked mupper mlower mfinding w74_mreadGuests misSight w74_mat mrowSizes mrows mtextSizes mtexts mdoes mkinds msees mnow mbefore mkeeps mkept mfindings w74_mread maside msteps mtried mbest x1 w87_mat hc) (cwV 1 hts gX6_reads_X6_blanks rfl rfl rfl ⟨rfl, hd_X6_blanks⟩ ⟨Nat.le_of_ble_eq_true rfl, Nat.le_of_ble_eq_true rfl⟩) (preV_rw hP hKK hD (va_recv hK hP (ci := 4) (q0 := 0) rfl wMo_0)) rfl rfl hl.1 rfl (lv_room (Nat.le_of_ble_eq_true rfl)) dX6_reads_87 ⟨Nat.zero_le _, Nat.zero_le _⟩) hS hFc (fun H1 locs hP1 hD1 hz1 hk1 hS => ?_)
              have hP : va_P D vwCl (wMo T am mguests mclause mdeeds masked mupper mlower mfinding w74_mreadGuests misSight w87_mat mrowSizes mrows mtextSizes mtexts mdoes mkinds msees mnow mbefore mkeeps mkept mfindings w74_mread maside msteps mtried mbest) H1 := hP1
              have hD : va_D A (wMo T am mguests mclause mdeeds masked mupper mlower mfinding w74_mreadGuests misSight w87_mat mrowSizes mrows mtextSizes mtexts mdoes mkinds msees mnow mbefore mkeeps mkept mfindings w74_mread maside msteps mtried mbest) := hD1.weaken (fun _ q _ h => hFc q.1 h)
              generalize H1 = H at hP hS ⊢
              refine lv_goto (tgt := 38) hx hb dX6_reads_90 (by decide) ?_
              exact ih38 w74_mreadGuests misSight w87_mat w74_mread h _ _ hP hD hS _ (lv_sub hl [0, 1] rfl)
            · have h := br_1 h c77
              refine lv_aload_n hx hb dX6_reads_80 rfl (lv_at hl 0 rfl) ?_
              refine va_get (D := D) (ci := 4) (C := RX6) (T := TX6) (N := 27) hx hb hts iX6 hown hK hP 0 wMo_0 rfl 22 (by decide) q3 (fun _ h9 => h9) rfl dX6_reads_81 ?_
              cases h
              exact hret _ _ _ _ hP hD hS dX6_reads_84
          · have h := br_1 h c58
            refine lv_aload_n hx hb dX6_reads_61 rfl (lv_at hl 0 rfl) ?_
            refine lv_iload_n hx hb dX6_reads_62 rfl (lv_at hl 1 rfl) ?_
            obtain ⟨r63, w63_misSight, w63_mat, w63_mread, hc, h⟩ := bd4_some h
            have hFc := my_freeS hD hS hA
            refine my_rwz (va_runV (As := [.int x1]) (rest := []) hFix (kX6_takesSight l D T F am mguests mclause mdeeds masked mupper mlower mfinding mreadGuests misSight mat mrowSizes mrows mtextSizes mtexts mdoes mkinds msees mnow mbefore mkeeps mkept mfindings mread maside msteps mtried mbest x1 r63 w63_misSight w63_mat w63_mread hc) (cwV 1 hts gX6_reads_X6_takesSight rfl rfl rfl ⟨rfl, hd_X6_takesSight⟩ ⟨Nat.le_of_ble_eq_true rfl, Nat.le_of_ble_eq_true rfl⟩) (preV_rw hP hKK hD (va_recv hK hP (ci := 4) (q0 := 0) rfl wMo_0)) rfl rfl hl.1 rfl (lv_room (Nat.le_of_ble_eq_true rfl)) dX6_reads_63 ⟨Nat.zero_le _, Nat.zero_le _⟩) hS hFc (fun hb63 H1 locs hP1 hD1 hz1 hk1 hS => ?_)
            have hP : va_P D vwCl (wMo T am mguests mclause mdeeds masked mupper mlower mfinding mreadGuests w63_misSight w63_mat mrowSizes mrows mtextSizes mtexts mdoes mkinds msees mnow mbefore mkeeps mkept mfindings w63_mread maside msteps mtried mbest) H1 := hP1
            have hD : va_D A (wMo T am mguests mclause mdeeds masked mupper mlower mfinding mreadGuests w63_misSight w63_mat mrowSizes mrows mtextSizes mtexts mdoes mkinds msees mnow mbefore mkeeps mkept mfindings w63_mread maside msteps mtried mbest) := hD1.weaken (fun _ q _ h => hFc q.1 h)
            generalize H1 = H at hP hS ⊢
            refine lv_if_eq (tgt := 80) hx hb dX6_reads_66 (by decide) (fun c66 => ?_) (fun c66 => ?_)
            · have h := br_1 h c66
              refine lv_aload_n hx hb dX6_reads_80 rfl (lv_at hl 0 rfl) ?_
              refine va_get (D := D) (ci := 4) (C := RX6) (T := TX6) (N := 27) hx hb hts iX6 hown hK hP 0 wMo_0 rfl 22 (by decide) q3 (fun _ h9 => h9) rfl dX6_reads_81 ?_
              cases h
              exact hret _ _ _ _ hP hD hS dX6_reads_84
            · have h := br_0 h c66
              refine lv_goto (tgt := 85) hx hb dX6_reads_69 (by decide) ?_
              refine lv_aload_n hx hb dX6_reads_85 rfl (lv_at hl 0 rfl) ?_
              refine lv_iload_n hx hb dX6_reads_86 rfl (lv_at hl 1 rfl) ?_
              obtain ⟨w87_mat, hc, h⟩ := bd1_some h
              have hFc := my_freeS hD hS hA
              refine my_rwv (va_runV (As := [.int x1]) (rest := []) hFix (kX6_blanks l D T F am mguests mclause mdeeds masked mupper mlower mfinding mreadGuests w63_misSight w63_mat mrowSizes mrows mtextSizes mtexts mdoes mkinds msees mnow mbefore mkeeps mkept mfindings w63_mread maside msteps mtried mbest x1 w87_mat hc) (cwV 1 hts gX6_reads_X6_blanks rfl rfl rfl ⟨rfl, hd_X6_blanks⟩ ⟨Nat.le_of_ble_eq_true rfl, Nat.le_of_ble_eq_true rfl⟩) (preV_rw hP hKK hD (va_recv hK hP (ci := 4) (q0 := 0) rfl wMo_0)) rfl rfl hl.1 rfl (lv_room (Nat.le_of_ble_eq_true rfl)) dX6_reads_87 ⟨Nat.zero_le _, Nat.zero_le _⟩) hS hFc (fun H1 locs hP1 hD1 hz1 hk1 hS => ?_)
              have hP : va_P D vwCl (wMo T am mguests mclause mdeeds masked mupper mlower mfinding mreadGuests w63_misSight w87_mat mrowSizes mrows mtextSizes mtexts mdoes mkinds msees mnow mbefore mkeeps mkept mfindings w63_mread maside msteps mtried mbest) H1 := hP1
              have hD : va_D A (wMo T am mguests mclause mdeeds masked mupper mlower mfinding mreadGuests w63_misSight w87_mat mrowSizes mrows mtextSizes mtexts mdoes mkinds msees mnow mbefore mkeeps mkept mfindings w63_mread maside msteps mtried mbest) := hD1.weaken (fun _ q _ h => hFc q.1 h)
              generalize H1 = H at hP hS ⊢
              refine lv_goto (tgt := 38) hx hb dX6_reads_90 (by decide) ?_
              exact ih38 mreadGuests w63_misSight w87_mat w63_mread h _ _ hP hD hS _ (lv_sub hl [0, 1] rfl)
    unfold fX6_reads at h
    refine lv_aload_n hx hb dX6_reads_0 rfl (lv_at hl 0 rfl) ?_
    refine lv_iconst (v := (0 : Int32)) hx hb dX6_reads_1 (by decide) ?_
    refine va_put (D := D) (ci := 4) (v := .int (0 : Int32)) (ty := .int) (C := RX6) (T := TX6) (N := 27) hx hb hts iX6 tyX6 tyX6_ok nmX6 hown hK hP hD hS 0 wMo_0 rfl 19 (by decide) q1 (fun _ h9 => h9) rfl (by decide +kernel) rfl rfl (Nat.le_of_ble_eq_true rfl) dX6_reads_2 (fun H locs hP hD hS => ?_)
    have hP : va_P D vwCl (wMo T am mguests mclause mdeeds masked mupper mlower mfinding (0 : Int32) misSight mat mrowSizes mrows mtextSizes mtexts mdoes mkinds msees mnow mbefore mkeeps mkept mfindings mread maside msteps mtried mbest) H := hP
    have hD : va_D A (wMo T am mguests mclause mdeeds masked mupper mlower mfinding (0 : Int32) misSight mat mrowSizes mrows mtextSizes mtexts mdoes mkinds msees mnow mbefore mkeeps mkept mfindings mread maside msteps mtried mbest) := hD
    refine lv_aload_n hx hb dX6_reads_5 rfl (lv_at hl 0 rfl) ?_
    refine lv_iconst (v := (0 : Int32)) hx hb dX6_reads_6 (by decide) ?_
    refine va_put (D := D) (ci := 4) (v := .int (0 : Int32)) (ty := .boolean) (C := RX6) (T := TX6) (N := 27) hx hb hts iX6 tyX6 tyX6_ok nmX6 hown hK hP hD hS 0 wMo_0 rfl 21 (by decide) q2 (fun _ h9 => h9) rfl (by decide +kernel) rfl rfl (Nat.le_of_ble_eq_true rfl) dX6_reads_7 (fun H locs hP hD hS => ?_)
    have hP : va_P D vwCl (wMo T am mguests mclause mdeeds masked mupper mlower mfinding (0 : Int32) (0 : Int32) mat mrowSizes mrows mtextSizes mtexts mdoes mkinds msees mnow mbefore mkeeps mkept mfindings mread maside msteps mtried mbest) H := hP
    have hD : va_D A (wMo T am mguests mclause mdeeds masked mupper mlower mfinding (0 : Int32) (0 : Int32) mat mrowSizes mrows mtextSizes mtexts mdoes mkinds msees mnow mbefore mkeeps mkept mfindings mread maside msteps mtried mbest) := hD
    refine lv_aload_n hx hb dX6_reads_10 rfl (lv_at hl 0 rfl) ?_
    refine lv_iconst (v := (0 : Int32)) hx hb dX6_reads_11 (by decide) ?_
    refine va_put (D := D) (ci := 4) (v := .int (0 : Int32)) (ty := .int) (C := RX6) (T := TX6) (N := 27) hx hb hts iX6 tyX6 tyX6_ok nmX6 hown hK hP hD hS 0 wMo_0 rfl 22 (by decide) q3 (fun _ h9 => h9) rfl (by decide +kernel) rfl rfl (Nat.le_of_ble_eq_true rfl) dX6_reads_12 (fun H locs hP hD hS => ?_)
    have hP : va_P D vwCl (wMo T am mguests mclause mdeeds masked mupper mlower mfinding (0 : Int32) (0 : Int32) (0 : Int32) mrowSizes mrows mtextSizes mtexts mdoes mkinds msees mnow mbefore mkeeps mkept mfindings mread maside msteps mtried mbest) H := hP
    have hD : va_D A (wMo T am mguests mclause mdeeds masked mupper mlower mfinding (0 : Int32) (0 : Int32) (0 : Int32) mrowSizes mrows mtextSizes mtexts mdoes mkinds msees mnow mbefore mkeeps mkept mfindings mread maside msteps mtried mbest) := hD
    refine lv_aload_n hx hb dX6_reads_15 rfl (lv_at hl 0 rfl) ?_
    refine lv_iload_n hx hb dX6_reads_16 rfl (lv_at hl 1 rfl) ?_
    obtain ⟨w17_mat, hc, h⟩ := bd1_some h
    have hFc := my_freeS hD hS hA
    refine my_rwv (va_runV (As := [.int x1]) (rest := []) hFix (kX6_blanks l D T F am mguests mclause mdeeds masked mupper mlower mfinding (0 : Int32) (0 : Int32) (0 : Int32) mrowSizes mrows mtextSizes mtexts mdoes mkinds msees mnow mbefore mkeeps mkept mfindings mread maside msteps mtried mbest x1 w17_mat hc) (cwV 1 hts gX6_reads_X6_blanks rfl rfl rfl ⟨rfl, hd_X6_blanks⟩ ⟨Nat.le_of_ble_eq_true rfl, Nat.le_of_ble_eq_true rfl⟩) (preV_rw hP hKK hD (va_recv hK hP (ci := 4) (q0 := 0) rfl wMo_0)) rfl rfl hl.1 rfl (lv_room (Nat.le_of_ble_eq_true rfl)) dX6_reads_17 ⟨Nat.zero_le _, Nat.zero_le _⟩) hS hFc (fun H1 locs hP1 hD1 hz1 hk1 hS => ?_)
    have hP : va_P D vwCl (wMo T am mguests mclause mdeeds masked mupper mlower mfinding (0 : Int32) (0 : Int32) w17_mat mrowSizes mrows mtextSizes mtexts mdoes mkinds msees mnow mbefore mkeeps mkept mfindings mread maside msteps mtried mbest) H1 := hP1
    have hD : va_D A (wMo T am mguests mclause mdeeds masked mupper mlower mfinding (0 : Int32) (0 : Int32) w17_mat mrowSizes mrows mtextSizes mtexts mdoes mkinds msees mnow mbefore mkeeps mkept mfindings mread maside msteps mtried mbest) := hD1.weaken (fun _ q _ h => hFc q.1 h)
    generalize H1 = H at hP hS ⊢
    refine lv_aload_n hx hb dX6_reads_20 rfl (lv_at hl 0 rfl) ?_
    refine lv_iload_n hx hb dX6_reads_21 rfl (lv_at hl 1 rfl) ?_
    obtain ⟨r22, w22_mat, w22_mread, hc, h⟩ := bd3_some h
    have hFc := my_freeS hD hS hA
    refine my_rwz (va_runV (As := [.int x1]) (rest := []) hFix (kX6_takesClause l D T F am mguests mclause mdeeds masked mupper mlower mfinding (0 : Int32) (0 : Int32) w17_mat mrowSizes mrows mtextSizes mtexts mdoes mkinds msees mnow mbefore mkeeps mkept mfindings mread maside msteps mtried mbest x1 r22 w22_mat w22_mread hc) (cwV 1 hts gX6_reads_X6_takesClause rfl rfl rfl ⟨rfl, hd_X6_takesClause⟩ ⟨Nat.le_of_ble_eq_true rfl, Nat.le_of_ble_eq_true rfl⟩) (preV_rw hP hKK hD (va_recv hK hP (ci := 4) (q0 := 0) rfl wMo_0)) rfl rfl hl.1 rfl (lv_room (Nat.le_of_ble_eq_true rfl)) dX6_reads_22 ⟨Nat.zero_le _, Nat.zero_le _⟩) hS hFc (fun hb22 H1 locs hP1 hD1 hz1 hk1 hS => ?_)
    have hP : va_P D vwCl (wMo T am mguests mclause mdeeds masked mupper mlower mfinding (0 : Int32) (0 : Int32) w22_mat mrowSizes mrows mtextSizes mtexts mdoes mkinds msees mnow mbefore mkeeps mkept mfindings w22_mread maside msteps mtried mbest) H1 := hP1
    have hD : va_D A (wMo T am mguests mclause mdeeds masked mupper mlower mfinding (0 : Int32) (0 : Int32) w22_mat mrowSizes mrows mtextSizes mtexts mdoes mkinds msees mnow mbefore mkeeps mkept mfindings w22_mread maside msteps mtried mbest) := hD1.weaken (fun _ q _ h => hFc q.1 h)
    generalize H1 = H at hP hS ⊢
    refine lv_if_ne (tgt := 33) hx hb dX6_reads_25 (by decide) (fun c25 => ?_) (fun c25 => ?_)
    · have h := br_0 h c25
      refine lv_aload_n hx hb dX6_reads_33 rfl (lv_at hl 0 rfl) ?_
      refine lv_iload_n hx hb dX6_reads_34 rfl (lv_at hl 1 rfl) ?_
      obtain ⟨w35_mat, hc, h⟩ := bd1_some h
      have hFc := my_freeS hD hS hA
      refine my_rwv (va_runV (As := [.int x1]) (rest := []) hFix (kX6_blanks l D T F am mguests mclause mdeeds masked mupper mlower mfinding (0 : Int32) (0 : Int32) w22_mat mrowSizes mrows mtextSizes mtexts mdoes mkinds msees mnow mbefore mkeeps mkept mfindings w22_mread maside msteps mtried mbest x1 w35_mat hc) (cwV 1 hts gX6_reads_X6_blanks rfl rfl rfl ⟨rfl, hd_X6_blanks⟩ ⟨Nat.le_of_ble_eq_true rfl, Nat.le_of_ble_eq_true rfl⟩) (preV_rw hP hKK hD (va_recv hK hP (ci := 4) (q0 := 0) rfl wMo_0)) rfl rfl hl.1 rfl (lv_room (Nat.le_of_ble_eq_true rfl)) dX6_reads_35 ⟨Nat.zero_le _, Nat.zero_le _⟩) hS hFc (fun H1 locs hP1 hD1 hz1 hk1 hS => ?_)
      have hP : va_P D vwCl (wMo T am mguests mclause mdeeds masked mupper mlower mfinding (0 : Int32) (0 : Int32) w35_mat mrowSizes mrows mtextSizes mtexts mdoes mkinds msees mnow mbefore mkeeps mkept mfindings w22_mread maside msteps mtried mbest) H1 := hP1
      have hD : va_D A (wMo T am mguests mclause mdeeds masked mupper mlower mfinding (0 : Int32) (0 : Int32) w35_mat mrowSizes mrows mtextSizes mtexts mdoes mkinds msees mnow mbefore mkeeps mkept mfindings w22_mread maside msteps mtried mbest) := hD1.weaken (fun _ q _ h => hFc q.1 h)
      generalize H1 = H at hP hS ⊢
      exact l38 x1 F (0 : Int32) (0 : Int32) w35_mat w22_mread h _ _ hP hD hS _ (lv_sub hl [0, 1] rfl)
    · have h := br_1 h c25
      refine lv_aload_n hx hb dX6_reads_28 rfl (lv_at hl 0 rfl) ?_
      refine va_get (D := D) (ci := 4) (C := RX6) (T := TX6) (N := 27) hx hb hts iX6 hown hK hP 0 wMo_0 rfl 22 (by decide) q3 (fun _ h9 => h9) rfl dX6_reads_29 ?_
      cases h
      exact hret _ _ _ _ hP hD hS dX6_reads_32
  exact key _ (fun H locs pc ls hP hD hS hd => W.iret hx hb hr (fun t ht hW => ⟨⟨_, (), rfl, rfl, by show _ ∧ _; rw [ht]; exact ⟨hP, hD⟩⟩, hS.F ht⟩) hS.2.2 hd)
set_option maxHeartbeats 4000000 in
set_option maxRecDepth 100000 in
theorem kX6_fault (l : Launch) (D : va_G) (T : Nat → ClassId) (F : Nat) (am : Nat → Nat) (mguests : Int32) (mclause : Int32) (mdeeds : Int32) (masked : Int32) (mupper : Int64) (mlower : Int64) (mfinding : Int32) (mreadGuests : Int32) (misSight : Int32) (mat : Int32) (mrowSizes : Nat → Int32) (mrows : Nat → Int32) (mtextSizes : Nat → Int32) (mtexts : Nat → Int32) (mdoes : Nat → Int32) (mkinds : Nat → Int32) (msees : Nat → Int32) (mnow : Nat → Int32) (mbefore : Nat → Int32) (mkeeps : Nat → Int32) (mkept : Nat → Int32) (mfindings : Nat → Int32) (mread : Nat → Int32) (maside : Nat → Int32) (msteps : Nat → Int32) (mtried : Nat → Int32) (mbest : Nat → Int32) (x1 : Int32) (r : Int32) (zmfinding : Int32) (zmreadGuests : Int32) (zmisSight : Int32) (zmat : Int32) (zmfindings : Nat → Int32) (zmread : Nat → Int32) (h : fX6_fault F mfinding mreadGuests misSight mat mtextSizes mtexts mfindings mread x1 = some (r, zmfinding, zmreadGuests, zmisSight, zmat, zmfindings, zmread)) : ∀ sz : Nat, Met l yX6_fault wsX6_fault ({ frames := 4, cells := 0, slots := 0, locals := 94 } : Room) (va_Pc [.ref (am 0), .int x1] (fun U => U.heap.size = sz ∧ va_P D vwCl (wMo T am mguests mclause mdeeds masked mupper mlower mfinding mreadGuests misSight mat mrowSizes mrows mtextSizes mtexts mdoes mkinds msees mnow mbefore mkeeps mkept mfindings mread maside msteps mtried mbest) U.heap ∧ KK D T U ∧ va_D (fun _ => True) (wMo T am mguests mclause mdeeds masked mupper mlower mfinding mreadGuests misSight mat mrowSizes mrows mtextSizes mtexts mdoes mkinds msees mnow mbefore mkeeps mkept mfindings mread maside msteps mtried mbest))) (va_Qi (fun r' (_ : Unit) => r' = r) (fun _ t => va_P D vwCl (wMo T am mguests mclause mdeeds masked mupper mlower zmfinding zmreadGuests zmisSight zmat mrowSizes mrows mtextSizes mtexts mdoes mkinds msees mnow mbefore mkeeps mkept zmfindings zmread maside msteps mtried mbest) t.heap ∧ va_D (va_A (wMo T am mguests mclause mdeeds masked mupper mlower mfinding mreadGuests misSight mat mrowSizes mrows mtextSizes mtexts mdoes mkinds msees mnow mbefore mkeeps mkept mfindings mread maside msteps mtried mbest) sz) (wMo T am mguests mclause mdeeds masked mupper mlower zmfinding zmreadGuests zmisSight zmat mrowSizes mrows mtextSizes mtexts mdoes mkinds msees mnow mbefore mkeeps mkept zmfindings zmread maside msteps mtried mbest)) (va_A (wMo T am mguests mclause mdeeds masked mupper mlower mfinding mreadGuests misSight mat mrowSizes mrows mtextSizes mtexts mdoes mkinds msees mnow mbefore mkeeps mkept mfindings mread maside msteps mtried mbest) sz)) 0 0 (va_A (wMo T am mguests mclause mdeeds masked mupper mlower mfinding mreadGuests misSight mat mrowSizes mrows mtextSizes mtexts mdoes mkinds msees mnow mbefore mkeeps mkept mfindings mread maside msteps mtried mbest) sz) := by
  intro sz
  refine Met.ofW (cc := cX6_fault) (maxL := 2) (ret := some .int) (by decide) rfl ?_
  intro p e s m args below meth c s₁ B hml hv
  obtain ⟨ha, hsz, hP, hKK, hD0⟩ := hv
  have hx := B.exec
  have hb := B.bytes
  have hr := B.returns
  have hts := atoms_spec (ws := wsX6_fault) B.pre
  have hown : s.vm.findClass RX6 = some m.cls := findClass_of_methodNamed B.named
  have hlocks := B.notSynchronized
  have hK := hKK.1
  have hFix : CallFix p m c cX6_fault 2 s args wsX6_fault RX6 := ⟨hx, hb, hml, hown, hts⟩
  have q1 := hts _ (List.mem_of_getElem? (i := 1) (show wsX6_fault[1]? = some (Cond.fieldLink RX6 16 "PartyWillModel" "textSizes" "[I") from rfl))
  have iX6 : ∀ w ∈ u_ws RX6 TX6 27, w ∈ wsX6_fault := fun w h => List.mem_cons_of_mem _ (List.mem_append_right _ (h))
  subst hsz
  have hD := hD0.self (sz := s.heap.size)
  generalize hAe : va_A (wMo T am mguests mclause mdeeds masked mupper mlower mfinding mreadGuests misSight mat mrowSizes mrows mtextSizes mtexts mdoes mkinds msees mnow mbefore mkeeps mkept mfindings mread maside msteps mtried mbest) s.heap.size = A at hD ⊢
  have hA : ∀ q : Nat, s.heap.size ≤ q → A q := fun q h => by rw [← hAe]; exact Or.inr h
  have hS : va_S A s.heap s.heap [] := va_S.rf
  have hP : va_P D vwCl (wMo T am mguests mclause mdeeds masked mupper mlower mfinding mreadGuests misSight mat mrowSizes mrows mtextSizes mtexts mdoes mkinds msees mnow mbefore mkeeps mkept mfindings mread maside msteps mtried mbest) s.heap := hP
  obtain ⟨ls, hl, e0⟩ := my_entry (m := m) (n := 2) ha (Nat.le_of_ble_eq_true rfl)
  rw [e0]
  have hl : lv_has ls 2 [(0, .ref (am 0)), (1, .int x1)] := hl
  have key : ∀ Q : State → Prop, (∀ (H : Heap) (locs : List Loc) (pc : Nat) (ls : Array Slot), va_P D vwCl (wMo T am mguests mclause mdeeds masked mupper mlower zmfinding zmreadGuests zmisSight zmat mrowSizes mrows mtextSizes mtexts mdoes mkinds msees mnow mbefore mkeeps mkept zmfindings zmread maside msteps mtried mbest) H → va_D A (wMo T am mguests mclause mdeeds masked mupper mlower zmfinding zmreadGuests zmisSight zmat mrowSizes mrows mtextSizes mtexts mdoes mkinds msees mnow mbefore mkeeps mkept zmfindings zmread maside msteps mtried mbest) → va_S A s.heap H locs → decode cX6_fault pc = .ok (.ireturn, 1) → W p l e ({ frames := 4, cells := 0, slots := 0, locals := 94 } : Room) s m args below meth c H locs 0 0 Q (F0 m pc ls [.int r])) → W p l e ({ frames := 4, cells := 0, slots := 0, locals := 94 } : Room) s m args below meth c s.heap [] 0 0 Q (F0 m 0 ls []) := by
    intro Q hret
    skip
    unfold fX6_fault at h
    refine lv_iload_n hx hb dX6_fault_0 rfl (lv_at hl 1 rfl) ?_
    obtain ⟨r1, hc, h⟩ := bd1_some h
    refine my_roz (va_Run.run (va_runS (As := [.int x1]) (rest := []) hFix (kX6_isText l D T F x1 r1 hc) (va_cwS 1 hts gX6_fault_X6_isText rfl rfl rfl hd_X6_isText ⟨Nat.le_of_ble_eq_true rfl, Nat.le_of_ble_eq_true rfl⟩) (preS_ro va_nil hKK) rfl rfl hl.1 rfl (lv_room (Nat.le_of_ble_eq_true rfl)) dX6_fault_1 ⟨Nat.zero_le _, Nat.zero_le _⟩)) (fun hb1 => ?_)
    refine lv_if_ne (tgt := 9) hx hb dX6_fault_4 (by decide) (fun c4 => ?_) (fun c4 => ?_)
    · have h := br_0 h c4
      refine lv_aload_n hx hb dX6_fault_9 rfl (lv_at hl 0 rfl) ?_
      refine va_get (D := D) (ci := 4) (C := RX6) (T := TX6) (N := 27) hx hb hts iX6 hown hK hP 0 wMo_0 rfl 2 (by decide) q1 (fun _ h9 => h9) rfl dX6_fault_10 ?_
      refine lv_iload_n hx hb dX6_fault_13 rfl (lv_at hl 1 rfl) ?_
      obtain ⟨hin1, h⟩ := ck_some h
      refine va_iald hx hb hK hP 3 0 wMo_3 rfl hin1 dX6_fault_14 ?_
      refine lv_if_ge (tgt := 26) hx hb dX6_fault_15 (by decide) (fun c15 => ?_) (fun c15 => ?_)
      · have h := br_1 h c15
        refine lv_aload_n hx hb dX6_fault_26 rfl (lv_at hl 0 rfl) ?_
        refine lv_iload_n hx hb dX6_fault_27 rfl (lv_at hl 1 rfl) ?_
        obtain ⟨r28, w28_mreadGuests, w28_misSight, w28_mat, w28_mread, hc, h⟩ := bd5_some h
        have hFc := my_freeS hD hS hA
        refine my_rwi (va_runV (As := [.int x1]) (rest := []) hFix (kX6_reads l D T F am mguests mclause mdeeds masked mupper mlower mfinding mreadGuests misSight mat mrowSizes mrows mtextSizes mtexts mdoes mkinds msees mnow mbefore mkeeps mkept mfindings mread maside msteps mtried mbest x1 r28 w28_mreadGuests w28_misSight w28_mat w28_mread hc) (cwV 1 hts gX6_fault_X6_reads rfl rfl rfl ⟨rfl, hd_X6_reads⟩ ⟨Nat.le_of_ble_eq_true rfl, Nat.le_of_ble_eq_true rfl⟩) (preV_rw hP hKK hD (va_recv hK hP (ci := 4) (q0 := 0) rfl wMo_0)) rfl rfl hl.1 rfl (lv_room (Nat.le_of_ble_eq_true rfl)) dX6_fault_28 ⟨Nat.zero_le _, Nat.zero_le _⟩) hS hFc (fun H1 locs hP1 hD1 hz1 hk1 hS => ?_)
        have hP : va_P D vwCl (wMo T am mguests mclause mdeeds masked mupper mlower mfinding w28_mreadGuests w28_misSight w28_mat mrowSizes mrows mtextSizes mtexts mdoes mkinds msees mnow mbefore mkeeps mkept mfindings w28_mread maside msteps mtried mbest) H1 := hP1
        have hD : va_D A (wMo T am mguests mclause mdeeds masked mupper mlower mfinding w28_mreadGuests w28_misSight w28_mat mrowSizes mrows mtextSizes mtexts mdoes mkinds msees mnow mbefore mkeeps mkept mfindings w28_mread maside msteps mtried mbest) := hD1.weaken (fun _ q _ h => hFc q.1 h)
        generalize H1 = H at hP hS ⊢
        cases h
        exact hret _ _ _ _ hP hD hS dX6_fault_31
      · have h := br_0 h c15
        refine lv_aload_n hx hb dX6_fault_18 rfl (lv_at hl 0 rfl) ?_
        refine lv_iconst (v := (1 : Int32)) hx hb dX6_fault_19 (by decide) ?_
        obtain ⟨r20, w20_mfinding, w20_mfindings, hc, h⟩ := bd3_some h
        have hFc := my_freeS hD hS hA
        refine my_rwi (va_runV (As := [.int (1 : Int32)]) (rest := []) hFix (kX6_found l D T F am mguests mclause mdeeds masked mupper mlower mfinding mreadGuests misSight mat mrowSizes mrows mtextSizes mtexts mdoes mkinds msees mnow mbefore mkeeps mkept mfindings mread maside msteps mtried mbest (1 : Int32) r20 w20_mfinding w20_mfindings hc) (cwV 1 hts gX6_fault_X6_found rfl rfl rfl ⟨rfl, hd_X6_found⟩ ⟨Nat.le_of_ble_eq_true rfl, Nat.le_of_ble_eq_true rfl⟩) (preV_rw hP hKK hD (va_recv hK hP (ci := 4) (q0 := 0) rfl wMo_0)) rfl rfl hl.1 rfl (lv_room (Nat.le_of_ble_eq_true rfl)) dX6_fault_20 ⟨Nat.zero_le _, Nat.zero_le _⟩) hS hFc (fun H1 locs hP1 hD1 hz1 hk1 hS => ?_)
        have hP : va_P D vwCl (wMo T am mguests mclause mdeeds masked mupper mlower w20_mfinding mreadGuests misSight mat mrowSizes mrows mtextSizes mtexts mdoes mkinds msees mnow mbefore mkeeps mkept w20_mfindings mread maside msteps mtried mbest) H1 := hP1
        have hD : va_D A (wMo T am mguests mclause mdeeds masked mupper mlower w20_mfinding mreadGuests misSight mat mrowSizes mrows mtextSizes mtexts mdoes mkinds msees mnow mbefore mkeeps mkept w20_mfindings mread maside msteps mtried mbest) := hD1.weaken (fun _ q _ h => hFc q.1 h)
        generalize H1 = H at hP hS ⊢
        refine lv_goto (tgt := 31) hx hb dX6_fault_23 (by decide) ?_
        cases h
        exact hret _ _ _ _ hP hD hS dX6_fault_31
    · have h := br_1 h c4
      refine lv_iconst (v := (-1 : Int32)) hx hb dX6_fault_7 (by decide) ?_
      cases h
      exact hret _ _ _ _ hP hD hS dX6_fault_8
  exact key _ (fun H locs pc ls hP hD hS hd => W.iret hx hb hr (fun t ht hW => ⟨⟨_, (), rfl, rfl, by show _ ∧ _; rw [ht]; exact ⟨hP, hD⟩⟩, hS.F ht⟩) hS.2.2 hd)
set_option maxHeartbeats 4000000 in
set_option maxRecDepth 100000 in
theorem kX6_party (l : Launch) (D : va_G) (T : Nat → ClassId) (F : Nat) (am : Nat → Nat) (mguests : Int32) (mclause : Int32) (mdeeds : Int32) (masked : Int32) (mupper : Int64) (mlower : Int64) (mfinding : Int32) (mreadGuests : Int32) (misSight : Int32) (mat : Int32) (mrowSizes : Nat → Int32) (mrows : Nat → Int32) (mtextSizes : Nat → Int32) (mtexts : Nat → Int32) (mdoes : Nat → Int32) (mkinds : Nat → Int32) (msees : Nat → Int32) (mnow : Nat → Int32) (mbefore : Nat → Int32) (mkeeps : Nat → Int32) (mkept : Nat → Int32) (mfindings : Nat → Int32) (mread : Nat → Int32) (maside : Nat → Int32) (msteps : Nat → Int32) (mtried : Nat → Int32) (mbest : Nat → Int32) (x1 : Int32) (r : Int32) (zmguests : Int32) (zmclause : Int32) (zmdeeds : Int32) (zmfinding : Int32) (zmreadGuests : Int32) (zmisSight : Int32) (zmat : Int32) (zmdoes : Nat → Int32) (zmkinds : Nat → Int32) (zmsees : Nat → Int32) (zmnow : Nat → Int32) (zmkept : Nat → Int32) (zmfindings : Nat → Int32) (zmread : Nat → Int32) (h : fX6_party F mguests mclause mdeeds mfinding mreadGuests misSight mat mtextSizes mtexts mdoes mkinds msees mnow mkept mfindings mread x1 = some (r, zmguests, zmclause, zmdeeds, zmfinding, zmreadGuests, zmisSight, zmat, zmdoes, zmkinds, zmsees, zmnow, zmkept, zmfindings, zmread)) : ∀ sz : Nat, Met l yX6_party wsX6_party ({ frames := 4, cells := 0, slots := 0, locals := 94 } : Room) (va_Pc [.ref (am 0), .int x1] (fun U => U.heap.size = sz ∧ va_P D vwCl (wMo T am mguests mclause mdeeds masked mupper mlower mfinding mreadGuests misSight mat mrowSizes mrows mtextSizes mtexts mdoes mkinds msees mnow mbefore mkeeps mkept mfindings mread maside msteps mtried mbest) U.heap ∧ KK D T U ∧ va_D (fun _ => True) (wMo T am mguests mclause mdeeds masked mupper mlower mfinding mreadGuests misSight mat mrowSizes mrows mtextSizes mtexts mdoes mkinds msees mnow mbefore mkeeps mkept mfindings mread maside msteps mtried mbest))) (va_Qi (fun r' (_ : Unit) => r' = r) (fun _ t => va_P D vwCl (wMo T am zmguests zmclause zmdeeds masked mupper mlower zmfinding zmreadGuests zmisSight zmat mrowSizes mrows mtextSizes mtexts zmdoes zmkinds zmsees zmnow mbefore mkeeps zmkept zmfindings zmread maside msteps mtried mbest) t.heap ∧ va_D (va_A (wMo T am mguests mclause mdeeds masked mupper mlower mfinding mreadGuests misSight mat mrowSizes mrows mtextSizes mtexts mdoes mkinds msees mnow mbefore mkeeps mkept mfindings mread maside msteps mtried mbest) sz) (wMo T am zmguests zmclause zmdeeds masked mupper mlower zmfinding zmreadGuests zmisSight zmat mrowSizes mrows mtextSizes mtexts zmdoes zmkinds zmsees zmnow mbefore mkeeps zmkept zmfindings zmread maside msteps mtried mbest)) (va_A (wMo T am mguests mclause mdeeds masked mupper mlower mfinding mreadGuests misSight mat mrowSizes mrows mtextSizes mtexts mdoes mkinds msees mnow mbefore mkeeps mkept mfindings mread maside msteps mtried mbest) sz)) 0 0 (va_A (wMo T am mguests mclause mdeeds masked mupper mlower mfinding mreadGuests misSight mat mrowSizes mrows mtextSizes mtexts mdoes mkinds msees mnow mbefore mkeeps mkept mfindings mread maside msteps mtried mbest) sz) := by
  intro sz
  refine Met.ofW (cc := cX6_party) (maxL := 4) (ret := some .int) (by decide) rfl ?_
  intro p e s m args below meth c s₁ B hml hv
  obtain ⟨ha, hsz, hP, hKK, hD0⟩ := hv
  have hx := B.exec
  have hb := B.bytes
  have hr := B.returns
  have hts := atoms_spec (ws := wsX6_party) B.pre
  have hown : s.vm.findClass RX6 = some m.cls := findClass_of_methodNamed B.named
  have hlocks := B.notSynchronized
  have hK := hKK.1
  have hFix : CallFix p m c cX6_party 4 s args wsX6_party RX6 := ⟨hx, hb, hml, hown, hts⟩
  have q1 := hts _ (List.mem_of_getElem? (i := 1) (show wsX6_party[1]? = some (Cond.fieldLink RX6 16 "PartyWillModel" "textSizes" "[I") from rfl))
  have q2 := hts _ (List.mem_of_getElem? (i := 2) (show wsX6_party[2]? = some (Cond.fieldLink RX6 108 "PartyWillModel" "readGuests" "I") from rfl))
  have q3 := hts _ (List.mem_of_getElem? (i := 3) (show wsX6_party[3]? = some (Cond.fieldLink RX6 131 "PartyWillModel" "guests" "I") from rfl))
  have q4 := hts _ (List.mem_of_getElem? (i := 4) (show wsX6_party[4]? = some (Cond.fieldLink RX6 51 "PartyWillModel" "read" "[I") from rfl))
  have q5 := hts _ (List.mem_of_getElem? (i := 5) (show wsX6_party[5]? = some (Cond.fieldLink RX6 134 "PartyWillModel" "clause" "I") from rfl))
  have q6 := hts _ (List.mem_of_getElem? (i := 6) (show wsX6_party[6]? = some (Cond.fieldLink RX6 22 "PartyWillModel" "does" "[I") from rfl))
  have q7 := hts _ (List.mem_of_getElem? (i := 7) (show wsX6_party[7]? = some (Cond.fieldLink RX6 25 "PartyWillModel" "kinds" "[I") from rfl))
  have q8 := hts _ (List.mem_of_getElem? (i := 8) (show wsX6_party[8]? = some (Cond.fieldLink RX6 31 "PartyWillModel" "now" "[I") from rfl))
  have q9 := hts _ (List.mem_of_getElem? (i := 9) (show wsX6_party[9]? = some (Cond.fieldLink RX6 28 "PartyWillModel" "sees" "[I") from rfl))
  have q10 := hts _ (List.mem_of_getElem? (i := 10) (show wsX6_party[10]? = some (Cond.fieldLink RX6 137 "PartyWillModel" "deeds" "I") from rfl))
  have q11 := hts _ (List.mem_of_getElem? (i := 11) (show wsX6_party[11]? = some (Cond.fieldLink RX6 40 "PartyWillModel" "kept" "[Z") from rfl))
  have iX6 : ∀ w ∈ u_ws RX6 TX6 27, w ∈ wsX6_party := fun w h => List.mem_cons_of_mem _ (List.mem_append_right _ (h))
  subst hsz
  have hD := hD0.self (sz := s.heap.size)
  generalize hAe : va_A (wMo T am mguests mclause mdeeds masked mupper mlower mfinding mreadGuests misSight mat mrowSizes mrows mtextSizes mtexts mdoes mkinds msees mnow mbefore mkeeps mkept mfindings mread maside msteps mtried mbest) s.heap.size = A at hD ⊢
  have hA : ∀ q : Nat, s.heap.size ≤ q → A q := fun q h => by rw [← hAe]; exact Or.inr h
  have hS : va_S A s.heap s.heap [] := va_S.rf
  have hP : va_P D vwCl (wMo T am mguests mclause mdeeds masked mupper mlower mfinding mreadGuests misSight mat mrowSizes mrows mtextSizes mtexts mdoes mkinds msees mnow mbefore mkeeps mkept mfindings mread maside msteps mtried mbest) s.heap := hP
  obtain ⟨ls, hl, e0⟩ := my_entry (m := m) (n := 4) ha (Nat.le_of_ble_eq_true rfl)
  rw [e0]
  have hl : lv_has ls 4 [(0, .ref (am 0)), (1, .int x1)] := hl
  have key : ∀ Q : State → Prop, (∀ (H : Heap) (locs : List Loc) (pc : Nat) (ls : Array Slot), va_P D vwCl (wMo T am zmguests zmclause zmdeeds masked mupper mlower zmfinding zmreadGuests zmisSight zmat mrowSizes mrows mtextSizes mtexts zmdoes zmkinds zmsees zmnow mbefore mkeeps zmkept zmfindings zmread maside msteps mtried mbest) H → va_D A (wMo T am zmguests zmclause zmdeeds masked mupper mlower zmfinding zmreadGuests zmisSight zmat mrowSizes mrows mtextSizes mtexts zmdoes zmkinds zmsees zmnow mbefore mkeeps zmkept zmfindings zmread maside msteps mtried mbest) → va_S A s.heap H locs → decode cX6_party pc = .ok (.ireturn, 1) → W p l e ({ frames := 4, cells := 0, slots := 0, locals := 94 } : Room) s m args below meth c H locs 0 0 Q (F0 m pc ls [.int r])) → W p l e ({ frames := 4, cells := 0, slots := 0, locals := 94 } : Room) s m args below meth c s.heap [] 0 0 Q (F0 m 0 ls []) := by
    intro Q hret
    skip
    have l195 : ∀ mguests : Int32, ∀ mclause : Int32, ∀ mdeeds : Int32, ∀ mfinding : Int32, ∀ mreadGuests : Int32, ∀ misSight : Int32, ∀ mat : Int32, ∀ mdoes : Nat → Int32, ∀ mkinds : Nat → Int32, ∀ msees : Nat → Int32, ∀ mnow : Nat → Int32, ∀ mfindings : Nat → Int32, ∀ mread : Nat → Int32, ∀ nu : Nat, ∀ x2 : Int32, ∀ mkept : Nat → Int32, fX6_party_l195 F mtextSizes mtexts mguests mclause mdeeds mfinding mreadGuests misSight mat mdoes mkinds msees mnow mfindings mread nu x2 mkept = some (r, zmguests, zmclause, zmdeeds, zmfinding, zmreadGuests, zmisSight, zmat, zmdoes, zmkinds, zmsees, zmnow, zmkept, zmfindings, zmread) → ∀ (H : Heap) (locs : List Loc), va_P D vwCl (wMo T am mguests mclause mdeeds masked mupper mlower mfinding mreadGuests misSight mat mrowSizes mrows mtextSizes mtexts mdoes mkinds msees mnow mbefore mkeeps mkept mfindings mread maside msteps mtried mbest) H → va_D A (wMo T am mguests mclause mdeeds masked mupper mlower mfinding mreadGuests misSight mat mrowSizes mrows mtextSizes mtexts mdoes mkinds msees mnow mbefore mkeeps mkept mfindings mread maside msteps mtried mbest) → va_S A s.heap H locs → ∀ (ls : Array Slot), lv_has ls 4 [(0, .ref (am 0)), (2, .int x2)] → W p l e ({ frames := 4, cells := 0, slots := 0, locals := 94 } : Room) s m args below meth c H locs 0 0 Q (F0 m 195 ls []) := by
      intro mguests mclause mdeeds mfinding mreadGuests misSight mat mdoes mkinds msees mnow mfindings mread
      intro nu
      induction nu with
      | zero => intro x2 mkept h; exact none_some h
      | succ nu195 ih195 =>
        intro x2 mkept h H locs hP hD hS ls hl
        have h : fX6_party_l195_b F mtextSizes mtexts mguests mclause mdeeds mfinding mreadGuests misSight mat mdoes mkinds msees mnow mfindings mread (fX6_party_l195 F mtextSizes mtexts mguests mclause mdeeds mfinding mreadGuests misSight mat mdoes mkinds msees mnow mfindings mread nu195) x2 mkept = some (r, zmguests, zmclause, zmdeeds, zmfinding, zmreadGuests, zmisSight, zmat, zmdoes, zmkinds, zmsees, zmnow, zmkept, zmfindings, zmread) := h
        unfold fX6_party_l195_b at h
        refine lv_iload_n hx hb dX6_party_195 rfl (lv_at hl 1 rfl) ?_
        refine lv_iconst (v := (3 : Int32)) hx hb dX6_party_196 (by decide) ?_
        refine lv_icmp_ge (tgt := 213) hx hb dX6_party_197 (by decide) (fun c197 => ?_) (fun c197 => ?_)
        · have h := br_1 h c197
          refine lv_aload_n hx hb dX6_party_213 rfl (lv_at hl 0 rfl) ?_
          refine va_get (D := D) (ci := 4) (C := RX6) (T := TX6) (N := 27) hx hb hts iX6 hown hK hP 0 wMo_0 rfl 4 (by decide) q3 (fun _ h9 => h9) rfl dX6_party_214 ?_
          cases h
          exact hret _ _ _ _ hP hD hS dX6_party_217
        · have h := br_0 h c197
          refine lv_aload_n hx hb dX6_party_200 rfl (lv_at hl 0 rfl) ?_
          refine va_get (D := D) (ci := 4) (C := RX6) (T := TX6) (N := 27) hx hb hts iX6 hown hK hP 0 wMo_0 rfl 13 (by decide) q11 (fun _ h9 => h9) rfl dX6_party_201 ?_
          refine lv_iload_n hx hb dX6_party_204 rfl (lv_at hl 1 rfl) ?_
          refine lv_iconst (v := (0 : Int32)) hx hb dX6_party_205 (by decide) ?_
          obtain ⟨hin1, h⟩ := ck_some h
          refine va_zast hx hb hK hP hD hS 11 3 wMo_11 rfl hin1 dX6_party_206 (fun H locs hP hD hS => ?_)
          have hP : va_P D vwCl (wMo T am mguests mclause mdeeds masked mupper mlower mfinding mreadGuests misSight mat mrowSizes mrows mtextSizes mtexts mdoes mkinds msees mnow mbefore mkeeps (upd mkept x2.toNatClampNeg (vp_nar .boolean (0 : Int32))) mfindings mread maside msteps mtried mbest) H := hP
          have hD : va_D A (wMo T am mguests mclause mdeeds masked mupper mlower mfinding mreadGuests misSight mat mrowSizes mrows mtextSizes mtexts mdoes mkinds msees mnow mbefore mkeeps (upd mkept x2.toNatClampNeg (vp_nar .boolean (0 : Int32))) mfindings mread maside msteps mtried mbest) := hD
          refine lv_iinc (v := (x2 + (1 : Int32))) (lv' := [(2, .int (x2 + (1 : Int32))), (0, .ref (am 0))]) hx hb dX6_party_207 hl (k := 1) rfl rfl (by decide) rfl (fun ls hl => ?_)
          refine lv_goto (tgt := 195) hx hb dX6_party_210 (by decide) ?_
          exact ih195 (x2 + (1 : Int32)) (upd mkept x2.toNatClampNeg (vp_nar .boolean (0 : Int32))) h _ _ hP hD hS _ (lv_sub hl [1, 0] rfl)
    have l86 : ∀ mguests : Int32, ∀ mclause : Int32, ∀ mdeeds : Int32, ∀ mfinding : Int32, ∀ mreadGuests : Int32, ∀ misSight : Int32, ∀ mat : Int32, ∀ mdoes : Nat → Int32, ∀ mkept : Nat → Int32, ∀ mfindings : Nat → Int32, ∀ mread : Nat → Int32, ∀ nu : Nat, ∀ x2 : Int32, ∀ mkinds : Nat → Int32, ∀ msees : Nat → Int32, ∀ mnow : Nat → Int32, fX6_party_l86 F mtextSizes mtexts mguests mclause mdeeds mfinding mreadGuests misSight mat mdoes mkept mfindings mread nu x2 mkinds msees mnow = some (r, zmguests, zmclause, zmdeeds, zmfinding, zmreadGuests, zmisSight, zmat, zmdoes, zmkinds, zmsees, zmnow, zmkept, zmfindings, zmread) → ∀ (H : Heap) (locs : List Loc), va_P D vwCl (wMo T am mguests mclause mdeeds masked mupper mlower mfinding mreadGuests misSight mat mrowSizes mrows mtextSizes mtexts mdoes mkinds msees mnow mbefore mkeeps mkept mfindings mread maside msteps mtried mbest) H → va_D A (wMo T am mguests mclause mdeeds masked mupper mlower mfinding mreadGuests misSight mat mrowSizes mrows mtextSizes mtexts mdoes mkinds msees mnow mbefore mkeeps mkept mfindings mread maside msteps mtried mbest) → va_S A s.heap H locs → ∀ (ls : Array Slot), lv_has ls 4 [(0, .ref (am 0)), (2, .int x2)] → W p l e ({ frames := 4, cells := 0, slots := 0, locals := 94 } : Room) s m args below meth c H locs 0 0 Q (F0 m 86 ls []) := by
      intro mguests mclause mdeeds mfinding mreadGuests misSight mat mdoes mkept mfindings mread
      intro nu
      induction nu with
      | zero => intro x2 mkinds msees mnow h; exact none_some h
      | succ nu86 ih86 =>
        intro x2 mkinds msees mnow h H locs hP hD hS ls hl
        have n150 : ∀ s_1 : Int32, ∀ s_2 : Int32, ∀ x2 : Int32, ∀ x3 : Int32, ∀ mguests : Int32, ∀ mclause : Int32, ∀ mdeeds : Int32, ∀ mfinding : Int32, ∀ mreadGuests : Int32, ∀ misSight : Int32, ∀ mat : Int32, ∀ mdoes : Nat → Int32, ∀ mkinds : Nat → Int32, ∀ msees : Nat → Int32, ∀ mnow : Nat → Int32, ∀ mkept : Nat → Int32, ∀ mfindings : Nat → Int32, ∀ mread : Nat → Int32, fX6_party_n150 F (fX6_party_l86 F mtextSizes mtexts mguests mclause mdeeds mfinding mreadGuests misSight mat mdoes mkept mfindings mread nu86) mtextSizes mtexts s_1 s_2 x2 x3 mguests mclause mdeeds mfinding mreadGuests misSight mat mdoes mkinds msees mnow mkept mfindings mread = some (r, zmguests, zmclause, zmdeeds, zmfinding, zmreadGuests, zmisSight, zmat, zmdoes, zmkinds, zmsees, zmnow, zmkept, zmfindings, zmread) → ∀ (H : Heap) (locs : List Loc), va_P D vwCl (wMo T am mguests mclause mdeeds masked mupper mlower mfinding mreadGuests misSight mat mrowSizes mrows mtextSizes mtexts mdoes mkinds msees mnow mbefore mkeeps mkept mfindings mread maside msteps mtried mbest) H → va_D A (wMo T am mguests mclause mdeeds masked mupper mlower mfinding mreadGuests misSight mat mrowSizes mrows mtextSizes mtexts mdoes mkinds msees mnow mbefore mkeeps mkept mfindings mread maside msteps mtried mbest) → va_S A s.heap H locs → ∀ (ls : Array Slot), lv_has ls 4 [(0, .ref (am 0)), (2, .int x2), (3, .int x3)] → W p l e ({ frames := 4, cells := 0, slots := 0, locals := 94 } : Room) s m args below meth c H locs 0 0 Q (F0 m 150 ls [.int s_2, .int s_1, .ref (am 8)]) := by
          intro s_1 s_2 x2 x3 mguests mclause mdeeds mfinding mreadGuests misSight mat mdoes mkinds msees mnow mkept mfindings mread h H locs hP hD hS ls hl
          unfold fX6_party_n150 at h
          obtain ⟨hin2, h⟩ := ck_some h
          refine va_iast hx hb hK hP hD hS 8 0 wMo_8 rfl hin2 dX6_party_150 (fun H locs hP hD hS => ?_)
          have hP : va_P D vwCl (wMo T am mguests mclause mdeeds masked mupper mlower mfinding mreadGuests misSight mat mrowSizes mrows mtextSizes mtexts mdoes mkinds msees (upd mnow s_1.toNatClampNeg s_2) mbefore mkeeps mkept mfindings mread maside msteps mtried mbest) H := hP
          have hD : va_D A (wMo T am mguests mclause mdeeds masked mupper mlower mfinding mreadGuests misSight mat mrowSizes mrows mtextSizes mtexts mdoes mkinds msees (upd mnow s_1.toNatClampNeg s_2) mbefore mkeeps mkept mfindings mread maside msteps mtried mbest) := hD
          refine lv_aload_n hx hb dX6_party_151 rfl (lv_at hl 0 rfl) ?_
          refine va_get (D := D) (ci := 4) (C := RX6) (T := TX6) (N := 27) hx hb hts iX6 hown hK hP 0 wMo_0 rfl 8 (by decide) q9 (fun _ h9 => h9) rfl dX6_party_152 ?_
          refine lv_iload_n hx hb dX6_party_155 rfl (lv_at hl 1 rfl) ?_
          refine lv_iload_n hx hb dX6_party_156 rfl (lv_at hl 2 rfl) ?_
          refine lv_if_eq (tgt := 172) hx hb dX6_party_157 (by decide) (fun c157 => ?_) (fun c157 => ?_)
          · have h := br_1 h c157
            refine lv_iconst (v := (0 : Int32)) hx hb dX6_party_172 (by decide) ?_
            obtain ⟨hin3, h⟩ := ck_some h
            refine va_iast hx hb hK hP hD hS 7 0 wMo_7 rfl hin3 dX6_party_173 (fun H locs hP hD hS => ?_)
            have hP : va_P D vwCl (wMo T am mguests mclause mdeeds masked mupper mlower mfinding mreadGuests misSight mat mrowSizes mrows mtextSizes mtexts mdoes mkinds (upd msees x2.toNatClampNeg (0 : Int32)) (upd mnow s_1.toNatClampNeg s_2) mbefore mkeeps mkept mfindings mread maside msteps mtried mbest) H := hP
            have hD : va_D A (wMo T am mguests mclause mdeeds masked mupper mlower mfinding mreadGuests misSight mat mrowSizes mrows mtextSizes mtexts mdoes mkinds (upd msees x2.toNatClampNeg (0 : Int32)) (upd mnow s_1.toNatClampNeg s_2) mbefore mkeeps mkept mfindings mread maside msteps mtried mbest) := hD
            refine lv_iinc (v := (x2 + (1 : Int32))) (lv' := [(2, .int (x2 + (1 : Int32))), (0, .ref (am 0)), (3, .int x3)]) hx hb dX6_party_174 hl (k := 1) rfl rfl (by decide) rfl (fun ls hl => ?_)
            refine lv_goto (tgt := 86) hx hb dX6_party_177 (by decide) ?_
            exact ih86 (x2 + (1 : Int32)) mkinds (upd msees x2.toNatClampNeg (0 : Int32)) (upd mnow s_1.toNatClampNeg s_2) h _ _ hP hD hS _ (lv_sub hl [1, 0] rfl)
          · have h := br_0 h c157
            refine lv_aload_n hx hb dX6_party_160 rfl (lv_at hl 0 rfl) ?_
            refine va_get (D := D) (ci := 4) (C := RX6) (T := TX6) (N := 27) hx hb hts iX6 hown hK hP 0 wMo_0 rfl 20 (by decide) q4 (fun _ h9 => h9) rfl dX6_party_161 ?_
            refine lv_bipush (v := (17 : Int32)) hx hb dX6_party_164 (by decide) ?_
            refine lv_iload_n hx hb dX6_party_166 rfl (lv_at hl 1 rfl) ?_
            refine lv_iadd hx hb dX6_party_167 ?_
            obtain ⟨hin4, h⟩ := ck_some h
            refine va_iald hx hb hK hP 13 0 wMo_13 rfl hin4 dX6_party_168 ?_
            refine lv_goto (tgt := 173) hx hb dX6_party_169 (by decide) ?_
            obtain ⟨hin5, h⟩ := ck_some h
            refine va_iast hx hb hK hP hD hS 7 0 wMo_7 rfl hin5 dX6_party_173 (fun H locs hP hD hS => ?_)
            have hP : va_P D vwCl (wMo T am mguests mclause mdeeds masked mupper mlower mfinding mreadGuests misSight mat mrowSizes mrows mtextSizes mtexts mdoes mkinds (upd msees x2.toNatClampNeg (mread ((17 : Int32) + x2).toNatClampNeg)) (upd mnow s_1.toNatClampNeg s_2) mbefore mkeeps mkept mfindings mread maside msteps mtried mbest) H := hP
            have hD : va_D A (wMo T am mguests mclause mdeeds masked mupper mlower mfinding mreadGuests misSight mat mrowSizes mrows mtextSizes mtexts mdoes mkinds (upd msees x2.toNatClampNeg (mread ((17 : Int32) + x2).toNatClampNeg)) (upd mnow s_1.toNatClampNeg s_2) mbefore mkeeps mkept mfindings mread maside msteps mtried mbest) := hD
            refine lv_iinc (v := (x2 + (1 : Int32))) (lv' := [(2, .int (x2 + (1 : Int32))), (0, .ref (am 0)), (3, .int x3)]) hx hb dX6_party_174 hl (k := 1) rfl rfl (by decide) rfl (fun ls hl => ?_)
            refine lv_goto (tgt := 86) hx hb dX6_party_177 (by decide) ?_
            exact ih86 (x2 + (1 : Int32)) mkinds (upd msees x2.toNatClampNeg (mread ((17 : Int32) + x2).toNatClampNeg)) (upd mnow s_1.toNatClampNeg s_2) h _ _ hP hD hS _ (lv_sub hl [1, 0] rfl)
        have n127 : ∀ s_1 : Int32, ∀ s_2 : Int32, ∀ x2 : Int32, ∀ x3 : Int32, ∀ mguests : Int32, ∀ mclause : Int32, ∀ mdeeds : Int32, ∀ mfinding : Int32, ∀ mreadGuests : Int32, ∀ misSight : Int32, ∀ mat : Int32, ∀ mdoes : Nat → Int32, ∀ mkinds : Nat → Int32, ∀ msees : Nat → Int32, ∀ mnow : Nat → Int32, ∀ mkept : Nat → Int32, ∀ mfindings : Nat → Int32, ∀ mread : Nat → Int32, fX6_party_n127 F (fX6_party_l86 F mtextSizes mtexts mguests mclause mdeeds mfinding mreadGuests misSight mat mdoes mkept mfindings mread nu86) mtextSizes mtexts s_1 s_2 x2 x3 mguests mclause mdeeds mfinding mreadGuests misSight mat mdoes mkinds msees mnow mkept mfindings mread = some (r, zmguests, zmclause, zmdeeds, zmfinding, zmreadGuests, zmisSight, zmat, zmdoes, zmkinds, zmsees, zmnow, zmkept, zmfindings, zmread) → ∀ (H : Heap) (locs : List Loc), va_P D vwCl (wMo T am mguests mclause mdeeds masked mupper mlower mfinding mreadGuests misSight mat mrowSizes mrows mtextSizes mtexts mdoes mkinds msees mnow mbefore mkeeps mkept mfindings mread maside msteps mtried mbest) H → va_D A (wMo T am mguests mclause mdeeds masked mupper mlower mfinding mreadGuests misSight mat mrowSizes mrows mtextSizes mtexts mdoes mkinds msees mnow mbefore mkeeps mkept mfindings mread maside msteps mtried mbest) → va_S A s.heap H locs → ∀ (ls : Array Slot), lv_has ls 4 [(0, .ref (am 0)), (2, .int x2), (3, .int x3)] → W p l e ({ frames := 4, cells := 0, slots := 0, locals := 94 } : Room) s m args below meth c H locs 0 0 Q (F0 m 127 ls [.int s_2, .int s_1, .ref (am 6)]) := by
          intro s_1 s_2 x2 x3 mguests mclause mdeeds mfinding mreadGuests misSight mat mdoes mkinds msees mnow mkept mfindings mread h H locs hP hD hS ls hl
          unfold fX6_party_n127 at h
          obtain ⟨hin6, h⟩ := ck_some h
          refine va_iast hx hb hK hP hD hS 6 0 wMo_6 rfl hin6 dX6_party_127 (fun H locs hP hD hS => ?_)
          have hP : va_P D vwCl (wMo T am mguests mclause mdeeds masked mupper mlower mfinding mreadGuests misSight mat mrowSizes mrows mtextSizes mtexts mdoes (upd mkinds s_1.toNatClampNeg s_2) msees mnow mbefore mkeeps mkept mfindings mread maside msteps mtried mbest) H := hP
          have hD : va_D A (wMo T am mguests mclause mdeeds masked mupper mlower mfinding mreadGuests misSight mat mrowSizes mrows mtextSizes mtexts mdoes (upd mkinds s_1.toNatClampNeg s_2) msees mnow mbefore mkeeps mkept mfindings mread maside msteps mtried mbest) := hD
          refine lv_aload_n hx hb dX6_party_128 rfl (lv_at hl 0 rfl) ?_
          refine va_get (D := D) (ci := 4) (C := RX6) (T := TX6) (N := 27) hx hb hts iX6 hown hK hP 0 wMo_0 rfl 9 (by decide) q8 (fun _ h9 => h9) rfl dX6_party_129 ?_
          refine lv_iload_n hx hb dX6_party_132 rfl (lv_at hl 1 rfl) ?_
          refine lv_iload_n hx hb dX6_party_133 rfl (lv_at hl 2 rfl) ?_
          refine lv_if_eq (tgt := 149) hx hb dX6_party_134 (by decide) (fun c134 => ?_) (fun c134 => ?_)
          · have h := br_1 h c134
            refine lv_iconst (v := (0 : Int32)) hx hb dX6_party_149 (by decide) ?_
            exact n150 x2 (0 : Int32) x2 x3 mguests mclause mdeeds mfinding mreadGuests misSight mat mdoes (upd mkinds s_1.toNatClampNeg s_2) msees mnow mkept mfindings mread h _ _ hP hD hS _ (lv_sub hl [0, 1, 2] rfl)
          · have h := br_0 h c134
            refine lv_aload_n hx hb dX6_party_137 rfl (lv_at hl 0 rfl) ?_
            refine va_get (D := D) (ci := 4) (C := RX6) (T := TX6) (N := 27) hx hb hts iX6 hown hK hP 0 wMo_0 rfl 20 (by decide) q4 (fun _ h9 => h9) rfl dX6_party_138 ?_
            refine lv_bipush (v := (11 : Int32)) hx hb dX6_party_141 (by decide) ?_
            refine lv_iload_n hx hb dX6_party_143 rfl (lv_at hl 1 rfl) ?_
            refine lv_iadd hx hb dX6_party_144 ?_
            obtain ⟨hin7, h⟩ := ck_some h
            refine va_iald hx hb hK hP 13 0 wMo_13 rfl hin7 dX6_party_145 ?_
            refine lv_goto (tgt := 150) hx hb dX6_party_146 (by decide) ?_
            exact n150 x2 (mread ((11 : Int32) + x2).toNatClampNeg) x2 x3 mguests mclause mdeeds mfinding mreadGuests misSight mat mdoes (upd mkinds s_1.toNatClampNeg s_2) msees mnow mkept mfindings mread h _ _ hP hD hS _ (lv_sub hl [0, 1, 2] rfl)
        have n105 : ∀ s_0 : Int32, ∀ x2 : Int32, ∀ mguests : Int32, ∀ mclause : Int32, ∀ mdeeds : Int32, ∀ mfinding : Int32, ∀ mreadGuests : Int32, ∀ misSight : Int32, ∀ mat : Int32, ∀ mdoes : Nat → Int32, ∀ mkinds : Nat → Int32, ∀ msees : Nat → Int32, ∀ mnow : Nat → Int32, ∀ mkept : Nat → Int32, ∀ mfindings : Nat → Int32, ∀ mread : Nat → Int32, fX6_party_n105 F (fX6_party_l86 F mtextSizes mtexts mguests mclause mdeeds mfinding mreadGuests misSight mat mdoes mkept mfindings mread nu86) mtextSizes mtexts s_0 x2 mguests mclause mdeeds mfinding mreadGuests misSight mat mdoes mkinds msees mnow mkept mfindings mread = some (r, zmguests, zmclause, zmdeeds, zmfinding, zmreadGuests, zmisSight, zmat, zmdoes, zmkinds, zmsees, zmnow, zmkept, zmfindings, zmread) → ∀ (H : Heap) (locs : List Loc), va_P D vwCl (wMo T am mguests mclause mdeeds masked mupper mlower mfinding mreadGuests misSight mat mrowSizes mrows mtextSizes mtexts mdoes mkinds msees mnow mbefore mkeeps mkept mfindings mread maside msteps mtried mbest) H → va_D A (wMo T am mguests mclause mdeeds masked mupper mlower mfinding mreadGuests misSight mat mrowSizes mrows mtextSizes mtexts mdoes mkinds msees mnow mbefore mkeeps mkept mfindings mread maside msteps mtried mbest) → va_S A s.heap H locs → ∀ (ls : Array Slot), lv_has ls 4 [(0, .ref (am 0)), (2, .int x2)] → W p l e ({ frames := 4, cells := 0, slots := 0, locals := 94 } : Room) s m args below meth c H locs 0 0 Q (F0 m 105 ls [.int s_0]) := by
          intro s_0 x2 mguests mclause mdeeds mfinding mreadGuests misSight mat mdoes mkinds msees mnow mkept mfindings mread h H locs hP hD hS ls hl
          unfold fX6_party_n105 at h
          refine lv_istore_n (lv' := [(3, .int s_0), (0, .ref (am 0)), (2, .int x2)]) hx hb dX6_party_105 rfl hl (by decide) rfl (fun ls hl => ?_)
          refine lv_aload_n hx hb dX6_party_106 rfl (lv_at hl 1 rfl) ?_
          refine va_get (D := D) (ci := 4) (C := RX6) (T := TX6) (N := 27) hx hb hts iX6 hown hK hP 0 wMo_0 rfl 7 (by decide) q7 (fun _ h9 => h9) rfl dX6_party_107 ?_
          refine lv_iload_n hx hb dX6_party_110 rfl (lv_at hl 2 rfl) ?_
          refine lv_iload_n hx hb dX6_party_111 rfl (lv_at hl 0 rfl) ?_
          refine lv_if_eq (tgt := 126) hx hb dX6_party_112 (by decide) (fun c112 => ?_) (fun c112 => ?_)
          · have h := br_1 h c112
            refine lv_iconst (v := (0 : Int32)) hx hb dX6_party_126 (by decide) ?_
            exact n127 x2 (0 : Int32) x2 s_0 mguests mclause mdeeds mfinding mreadGuests misSight mat mdoes mkinds msees mnow mkept mfindings mread h _ _ hP hD hS _ (lv_sub hl [1, 2, 0] rfl)
          · have h := br_0 h c112
            refine lv_aload_n hx hb dX6_party_115 rfl (lv_at hl 1 rfl) ?_
            refine va_get (D := D) (ci := 4) (C := RX6) (T := TX6) (N := 27) hx hb hts iX6 hown hK hP 0 wMo_0 rfl 20 (by decide) q4 (fun _ h9 => h9) rfl dX6_party_116 ?_
            refine lv_iconst (v := (5 : Int32)) hx hb dX6_party_119 (by decide) ?_
            refine lv_iload_n hx hb dX6_party_120 rfl (lv_at hl 2 rfl) ?_
            refine lv_iadd hx hb dX6_party_121 ?_
            obtain ⟨hin8, h⟩ := ck_some h
            refine va_iald hx hb hK hP 13 0 wMo_13 rfl hin8 dX6_party_122 ?_
            refine lv_goto (tgt := 127) hx hb dX6_party_123 (by decide) ?_
            exact n127 x2 (mread ((5 : Int32) + x2).toNatClampNeg) x2 s_0 mguests mclause mdeeds mfinding mreadGuests misSight mat mdoes mkinds msees mnow mkept mfindings mread h _ _ hP hD hS _ (lv_sub hl [1, 2, 0] rfl)
        have h : fX6_party_l86_b F mtextSizes mtexts mguests mclause mdeeds mfinding mreadGuests misSight mat mdoes mkept mfindings mread (fX6_party_l86 F mtextSizes mtexts mguests mclause mdeeds mfinding mreadGuests misSight mat mdoes mkept mfindings mread nu86) x2 mkinds msees mnow = some (r, zmguests, zmclause, zmdeeds, zmfinding, zmreadGuests, zmisSight, zmat, zmdoes, zmkinds, zmsees, zmnow, zmkept, zmfindings, zmread) := h
        unfold fX6_party_l86_b at h
        refine lv_iload_n hx hb dX6_party_86 rfl (lv_at hl 1 rfl) ?_
        refine lv_bipush (v := (6 : Int32)) hx hb dX6_party_87 (by decide) ?_
        refine lv_icmp_ge (tgt := 180) hx hb dX6_party_89 (by decide) (fun c89 => ?_) (fun c89 => ?_)
        · have h := br_1 h c89
          refine lv_aload_n hx hb dX6_party_180 rfl (lv_at hl 0 rfl) ?_
          refine va_get (D := D) (ci := 4) (C := RX6) (T := TX6) (N := 27) hx hb hts iX6 hown hK hP 0 wMo_0 rfl 9 (by decide) q8 (fun _ h9 => h9) rfl dX6_party_181 ?_
          refine lv_bipush (v := (6 : Int32)) hx hb dX6_party_184 (by decide) ?_
          refine lv_iconst (v := (0 : Int32)) hx hb dX6_party_186 (by decide) ?_
          refine va_iast hx hb hK hP hD hS 8 0 wMo_8 rfl (show ¬ ((6 : Int32) < 0 ∨ 7 ≤ (6 : Int32).toNatClampNeg) by decide) dX6_party_187 (fun H locs hP hD hS => ?_)
          have hP : va_P D vwCl (wMo T am mguests mclause mdeeds masked mupper mlower mfinding mreadGuests misSight mat mrowSizes mrows mtextSizes mtexts mdoes mkinds msees (upd mnow (6 : Int32).toNatClampNeg (0 : Int32)) mbefore mkeeps mkept mfindings mread maside msteps mtried mbest) H := hP
          have hD : va_D A (wMo T am mguests mclause mdeeds masked mupper mlower mfinding mreadGuests misSight mat mrowSizes mrows mtextSizes mtexts mdoes mkinds msees (upd mnow (6 : Int32).toNatClampNeg (0 : Int32)) mbefore mkeeps mkept mfindings mread maside msteps mtried mbest) := hD
          refine lv_aload_n hx hb dX6_party_188 rfl (lv_at hl 0 rfl) ?_
          refine lv_iconst (v := (0 : Int32)) hx hb dX6_party_189 (by decide) ?_
          refine va_put (D := D) (ci := 4) (v := .int (0 : Int32)) (ty := .int) (C := RX6) (T := TX6) (N := 27) hx hb hts iX6 tyX6 tyX6_ok nmX6 hown hK hP hD hS 0 wMo_0 rfl 10 (by decide) q10 (fun _ h9 => h9) rfl (by decide +kernel) rfl rfl (Nat.le_of_ble_eq_true rfl) dX6_party_190 (fun H locs hP hD hS => ?_)
          have hP : va_P D vwCl (wMo T am mguests mclause (0 : Int32) masked mupper mlower mfinding mreadGuests misSight mat mrowSizes mrows mtextSizes mtexts mdoes mkinds msees (upd mnow (6 : Int32).toNatClampNeg (0 : Int32)) mbefore mkeeps mkept mfindings mread maside msteps mtried mbest) H := hP
          have hD : va_D A (wMo T am mguests mclause (0 : Int32) masked mupper mlower mfinding mreadGuests misSight mat mrowSizes mrows mtextSizes mtexts mdoes mkinds msees (upd mnow (6 : Int32).toNatClampNeg (0 : Int32)) mbefore mkeeps mkept mfindings mread maside msteps mtried mbest) := hD
          refine lv_iconst (v := (0 : Int32)) hx hb dX6_party_193 (by decide) ?_
          refine lv_istore_n (lv' := [(2, .int (0 : Int32)), (0, .ref (am 0))]) hx hb dX6_party_194 rfl hl (by decide) rfl (fun ls hl => ?_)
          exact l195 mguests mclause (0 : Int32) mfinding mreadGuests misSight mat mdoes mkinds msees (upd mnow (6 : Int32).toNatClampNeg (0 : Int32)) mfindings mread F (0 : Int32) mkept h _ _ hP hD hS _ (lv_sub hl [1, 0] rfl)
        · have h := br_0 h c89
          refine lv_iload_n hx hb dX6_party_92 rfl (lv_at hl 1 rfl) ?_
          refine lv_aload_n hx hb dX6_party_93 rfl (lv_at hl 0 rfl) ?_
          refine va_get (D := D) (ci := 4) (C := RX6) (T := TX6) (N := 27) hx hb hts iX6 hown hK hP 0 wMo_0 rfl 4 (by decide) q3 (fun _ h9 => h9) rfl dX6_party_94 ?_
          refine lv_icmp_ge (tgt := 104) hx hb dX6_party_97 (by decide) (fun c97 => ?_) (fun c97 => ?_)
          · have h := br_1 h c97
            refine lv_iconst (v := (0 : Int32)) hx hb dX6_party_104 (by decide) ?_
            exact n105 (0 : Int32) x2 mguests mclause mdeeds mfinding mreadGuests misSight mat mdoes mkinds msees mnow mkept mfindings mread h _ _ hP hD hS _ (lv_sub hl [0, 1] rfl)
          · have h := br_0 h c97
            refine lv_iconst (v := (1 : Int32)) hx hb dX6_party_100 (by decide) ?_
            refine lv_goto (tgt := 105) hx hb dX6_party_101 (by decide) ?_
            exact n105 (1 : Int32) x2 mguests mclause mdeeds mfinding mreadGuests misSight mat mdoes mkinds msees mnow mkept mfindings mread h _ _ hP hD hS _ (lv_sub hl [0, 1] rfl)
    have l57 : ∀ mguests : Int32, ∀ mclause : Int32, ∀ mdeeds : Int32, ∀ mfinding : Int32, ∀ mreadGuests : Int32, ∀ misSight : Int32, ∀ mat : Int32, ∀ mkinds : Nat → Int32, ∀ msees : Nat → Int32, ∀ mnow : Nat → Int32, ∀ mkept : Nat → Int32, ∀ mfindings : Nat → Int32, ∀ mread : Nat → Int32, ∀ nu : Nat, ∀ x2 : Int32, ∀ mdoes : Nat → Int32, fX6_party_l57 F mtextSizes mtexts mguests mclause mdeeds mfinding mreadGuests misSight mat mkinds msees mnow mkept mfindings mread nu x2 mdoes = some (r, zmguests, zmclause, zmdeeds, zmfinding, zmreadGuests, zmisSight, zmat, zmdoes, zmkinds, zmsees, zmnow, zmkept, zmfindings, zmread) → ∀ (H : Heap) (locs : List Loc), va_P D vwCl (wMo T am mguests mclause mdeeds masked mupper mlower mfinding mreadGuests misSight mat mrowSizes mrows mtextSizes mtexts mdoes mkinds msees mnow mbefore mkeeps mkept mfindings mread maside msteps mtried mbest) H → va_D A (wMo T am mguests mclause mdeeds masked mupper mlower mfinding mreadGuests misSight mat mrowSizes mrows mtextSizes mtexts mdoes mkinds msees mnow mbefore mkeeps mkept mfindings mread maside msteps mtried mbest) → va_S A s.heap H locs → ∀ (ls : Array Slot), lv_has ls 4 [(0, .ref (am 0)), (2, .int x2)] → W p l e ({ frames := 4, cells := 0, slots := 0, locals := 94 } : Room) s m args below meth c H locs 0 0 Q (F0 m 57 ls []) := by
      intro mguests mclause mdeeds mfinding mreadGuests misSight mat mkinds msees mnow mkept mfindings mread
      intro nu
      induction nu with
      | zero => intro x2 mdoes h; exact none_some h
      | succ nu57 ih57 =>
        intro x2 mdoes h H locs hP hD hS ls hl
        have h : fX6_party_l57_b F mtextSizes mtexts mguests mclause mdeeds mfinding mreadGuests misSight mat mkinds msees mnow mkept mfindings mread (fX6_party_l57 F mtextSizes mtexts mguests mclause mdeeds mfinding mreadGuests misSight mat mkinds msees mnow mkept mfindings mread nu57) x2 mdoes = some (r, zmguests, zmclause, zmdeeds, zmfinding, zmreadGuests, zmisSight, zmat, zmdoes, zmkinds, zmsees, zmnow, zmkept, zmfindings, zmread) := h
        unfold fX6_party_l57_b at h
        refine lv_iload_n hx hb dX6_party_57 rfl (lv_at hl 1 rfl) ?_
        refine lv_iconst (v := (4 : Int32)) hx hb dX6_party_58 (by decide) ?_
        refine lv_icmp_ge (tgt := 84) hx hb dX6_party_59 (by decide) (fun c59 => ?_) (fun c59 => ?_)
        · have h := br_1 h c59
          refine lv_iconst (v := (0 : Int32)) hx hb dX6_party_84 (by decide) ?_
          refine lv_istore_n (lv' := [(2, .int (0 : Int32)), (0, .ref (am 0))]) hx hb dX6_party_85 rfl hl (by decide) rfl (fun ls hl => ?_)
          exact l86 mguests mclause mdeeds mfinding mreadGuests misSight mat mdoes mkept mfindings mread F (0 : Int32) mkinds msees mnow h _ _ hP hD hS _ (lv_sub hl [1, 0] rfl)
        · have h := br_0 h c59
          refine lv_aload_n hx hb dX6_party_62 rfl (lv_at hl 0 rfl) ?_
          refine va_get (D := D) (ci := 4) (C := RX6) (T := TX6) (N := 27) hx hb hts iX6 hown hK hP 0 wMo_0 rfl 6 (by decide) q6 (fun _ h9 => h9) rfl dX6_party_63 ?_
          refine lv_iload_n hx hb dX6_party_66 rfl (lv_at hl 1 rfl) ?_
          refine lv_aload_n hx hb dX6_party_67 rfl (lv_at hl 0 rfl) ?_
          refine va_get (D := D) (ci := 4) (C := RX6) (T := TX6) (N := 27) hx hb hts iX6 hown hK hP 0 wMo_0 rfl 20 (by decide) q4 (fun _ h9 => h9) rfl dX6_party_68 ?_
          refine lv_iconst (v := (1 : Int32)) hx hb dX6_party_71 (by decide) ?_
          refine lv_iload_n hx hb dX6_party_72 rfl (lv_at hl 1 rfl) ?_
          refine lv_iadd hx hb dX6_party_73 ?_
          obtain ⟨hin9, h⟩ := ck_some h
          refine va_iald hx hb hK hP 13 0 wMo_13 rfl hin9 dX6_party_74 ?_
          refine lv_iconst (v := (4 : Int32)) hx hb dX6_party_75 (by decide) ?_
          refine lv_isub hx hb dX6_party_76 ?_
          obtain ⟨hin10, h⟩ := ck_some h
          refine va_iast hx hb hK hP hD hS 5 0 wMo_5 rfl hin10 dX6_party_77 (fun H locs hP hD hS => ?_)
          have hP : va_P D vwCl (wMo T am mguests mclause mdeeds masked mupper mlower mfinding mreadGuests misSight mat mrowSizes mrows mtextSizes mtexts (upd mdoes x2.toNatClampNeg ((mread ((1 : Int32) + x2).toNatClampNeg) - (4 : Int32))) mkinds msees mnow mbefore mkeeps mkept mfindings mread maside msteps mtried mbest) H := hP
          have hD : va_D A (wMo T am mguests mclause mdeeds masked mupper mlower mfinding mreadGuests misSight mat mrowSizes mrows mtextSizes mtexts (upd mdoes x2.toNatClampNeg ((mread ((1 : Int32) + x2).toNatClampNeg) - (4 : Int32))) mkinds msees mnow mbefore mkeeps mkept mfindings mread maside msteps mtried mbest) := hD
          refine lv_iinc (v := (x2 + (1 : Int32))) (lv' := [(2, .int (x2 + (1 : Int32))), (0, .ref (am 0))]) hx hb dX6_party_78 hl (k := 1) rfl rfl (by decide) rfl (fun ls hl => ?_)
          refine lv_goto (tgt := 57) hx hb dX6_party_81 (by decide) ?_
          exact ih57 (x2 + (1 : Int32)) (upd mdoes x2.toNatClampNeg ((mread ((1 : Int32) + x2).toNatClampNeg) - (4 : Int32))) h _ _ hP hD hS _ (lv_sub hl [1, 0] rfl)
    unfold fX6_party at h
    refine lv_iload_n hx hb dX6_party_0 rfl (lv_at hl 1 rfl) ?_
    obtain ⟨r1, hc, h⟩ := bd1_some h
    refine my_roz (va_Run.run (va_runS (As := [.int x1]) (rest := []) hFix (kX6_isText l D T F x1 r1 hc) (va_cwS 1 hts gX6_party_X6_isText rfl rfl rfl hd_X6_isText ⟨Nat.le_of_ble_eq_true rfl, Nat.le_of_ble_eq_true rfl⟩) (preS_ro va_nil hKK) rfl rfl hl.1 rfl (lv_room (Nat.le_of_ble_eq_true rfl)) dX6_party_1 ⟨Nat.zero_le _, Nat.zero_le _⟩)) (fun hb1 => ?_)
    refine lv_if_ne (tgt := 9) hx hb dX6_party_4 (by decide) (fun c4 => ?_) (fun c4 => ?_)
    · have h := br_0 h c4
      refine lv_aload_n hx hb dX6_party_9 rfl (lv_at hl 0 rfl) ?_
      refine va_get (D := D) (ci := 4) (C := RX6) (T := TX6) (N := 27) hx hb hts iX6 hown hK hP 0 wMo_0 rfl 2 (by decide) q1 (fun _ h9 => h9) rfl dX6_party_10 ?_
      refine lv_iload_n hx hb dX6_party_13 rfl (lv_at hl 1 rfl) ?_
      obtain ⟨hin11, h⟩ := ck_some h
      refine va_iald hx hb hK hP 3 0 wMo_3 rfl hin11 dX6_party_14 ?_
      refine lv_if_ge (tgt := 24) hx hb dX6_party_15 (by decide) (fun c15 => ?_) (fun c15 => ?_)
      · have h := br_1 h c15
        refine lv_aload_n hx hb dX6_party_24 rfl (lv_at hl 0 rfl) ?_
        refine lv_iload_n hx hb dX6_party_25 rfl (lv_at hl 1 rfl) ?_
        obtain ⟨r26, w26_mreadGuests, w26_misSight, w26_mat, w26_mread, hc, h⟩ := bd5_some h
        have hFc := my_freeS hD hS hA
        refine my_rwi (va_runV (As := [.int x1]) (rest := []) hFix (kX6_reads l D T F am mguests mclause mdeeds masked mupper mlower mfinding mreadGuests misSight mat mrowSizes mrows mtextSizes mtexts mdoes mkinds msees mnow mbefore mkeeps mkept mfindings mread maside msteps mtried mbest x1 r26 w26_mreadGuests w26_misSight w26_mat w26_mread hc) (cwV 1 hts gX6_party_X6_reads rfl rfl rfl ⟨rfl, hd_X6_reads⟩ ⟨Nat.le_of_ble_eq_true rfl, Nat.le_of_ble_eq_true rfl⟩) (preV_rw hP hKK hD (va_recv hK hP (ci := 4) (q0 := 0) rfl wMo_0)) rfl rfl hl.1 rfl (lv_room (Nat.le_of_ble_eq_true rfl)) dX6_party_26 ⟨Nat.zero_le _, Nat.zero_le _⟩) hS hFc (fun H1 locs hP1 hD1 hz1 hk1 hS => ?_)
        have hP : va_P D vwCl (wMo T am mguests mclause mdeeds masked mupper mlower mfinding w26_mreadGuests w26_misSight w26_mat mrowSizes mrows mtextSizes mtexts mdoes mkinds msees mnow mbefore mkeeps mkept mfindings w26_mread maside msteps mtried mbest) H1 := hP1
        have hD : va_D A (wMo T am mguests mclause mdeeds masked mupper mlower mfinding w26_mreadGuests w26_misSight w26_mat mrowSizes mrows mtextSizes mtexts mdoes mkinds msees mnow mbefore mkeeps mkept mfindings w26_mread maside msteps mtried mbest) := hD1.weaken (fun _ q _ h => hFc q.1 h)
        generalize H1 = H at hP hS ⊢
        refine lv_bipush (v := (-9 : Int32)) hx hb dX6_party_29 (by decide) ?_
        refine lv_icmp_eq (tgt := 37) hx hb dX6_party_31 (by decide) (fun c31 => ?_) (fun c31 => ?_)
        · have h := br_1 h c31
          refine lv_aload_n hx hb dX6_party_37 rfl (lv_at hl 0 rfl) ?_
          refine lv_aload_n hx hb dX6_party_38 rfl (lv_at hl 0 rfl) ?_
          refine va_get (D := D) (ci := 4) (C := RX6) (T := TX6) (N := 27) hx hb hts iX6 hown hK hP 0 wMo_0 rfl 19 (by decide) q2 (fun _ h9 => h9) rfl dX6_party_39 ?_
          refine va_put (D := D) (ci := 4) (v := .int w26_mreadGuests) (ty := .int) (C := RX6) (T := TX6) (N := 27) hx hb hts iX6 tyX6 tyX6_ok nmX6 hown hK hP hD hS 0 wMo_0 rfl 4 (by decide) q3 (fun _ h9 => h9) rfl (by decide +kernel) rfl rfl (Nat.le_of_ble_eq_true rfl) dX6_party_42 (fun H locs hP hD hS => ?_)
          have hP : va_P D vwCl (wMo T am w26_mreadGuests mclause mdeeds masked mupper mlower mfinding w26_mreadGuests w26_misSight w26_mat mrowSizes mrows mtextSizes mtexts mdoes mkinds msees mnow mbefore mkeeps mkept mfindings w26_mread maside msteps mtried mbest) H := hP
          have hD : va_D A (wMo T am w26_mreadGuests mclause mdeeds masked mupper mlower mfinding w26_mreadGuests w26_misSight w26_mat mrowSizes mrows mtextSizes mtexts mdoes mkinds msees mnow mbefore mkeeps mkept mfindings w26_mread maside msteps mtried mbest) := hD
          refine lv_aload_n hx hb dX6_party_45 rfl (lv_at hl 0 rfl) ?_
          refine lv_aload_n hx hb dX6_party_46 rfl (lv_at hl 0 rfl) ?_
          refine va_get (D := D) (ci := 4) (C := RX6) (T := TX6) (N := 27) hx hb hts iX6 hown hK hP 0 wMo_0 rfl 20 (by decide) q4 (fun _ h9 => h9) rfl dX6_party_47 ?_
          refine lv_iconst (v := (0 : Int32)) hx hb dX6_party_50 (by decide) ?_
          refine va_iald hx hb hK hP 13 0 wMo_13 rfl (show ¬ ((0 : Int32) < 0 ∨ 23 ≤ (0 : Int32).toNatClampNeg) by decide) dX6_party_51 ?_
          refine va_put (D := D) (ci := 4) (v := .int (w26_mread (0 : Int32).toNatClampNeg)) (ty := .int) (C := RX6) (T := TX6) (N := 27) hx hb hts iX6 tyX6 tyX6_ok nmX6 hown hK hP hD hS 0 wMo_0 rfl 5 (by decide) q5 (fun _ h9 => h9) rfl (by decide +kernel) rfl rfl (Nat.le_of_ble_eq_true rfl) dX6_party_52 (fun H locs hP hD hS => ?_)
          have hP : va_P D vwCl (wMo T am w26_mreadGuests (w26_mread (0 : Int32).toNatClampNeg) mdeeds masked mupper mlower mfinding w26_mreadGuests w26_misSight w26_mat mrowSizes mrows mtextSizes mtexts mdoes mkinds msees mnow mbefore mkeeps mkept mfindings w26_mread maside msteps mtried mbest) H := hP
          have hD : va_D A (wMo T am w26_mreadGuests (w26_mread (0 : Int32).toNatClampNeg) mdeeds masked mupper mlower mfinding w26_mreadGuests w26_misSight w26_mat mrowSizes mrows mtextSizes mtexts mdoes mkinds msees mnow mbefore mkeeps mkept mfindings w26_mread maside msteps mtried mbest) := hD
          refine lv_iconst (v := (0 : Int32)) hx hb dX6_party_55 (by decide) ?_
          refine lv_istore_n (lv' := [(2, .int (0 : Int32)), (0, .ref (am 0)), (1, .int x1)]) hx hb dX6_party_56 rfl hl (by decide) rfl (fun ls hl => ?_)
          exact l57 w26_mreadGuests (w26_mread (0 : Int32).toNatClampNeg) mdeeds mfinding w26_mreadGuests w26_misSight w26_mat mkinds msees mnow mkept mfindings w26_mread F (0 : Int32) mdoes h _ _ hP hD hS _ (lv_sub hl [1, 0] rfl)
        · have h := br_0 h c31
          refine lv_bipush (v := (-4 : Int32)) hx hb dX6_party_34 (by decide) ?_
          cases h
          exact hret _ _ _ _ hP hD hS dX6_party_36
      · have h := br_0 h c15
        refine lv_aload_n hx hb dX6_party_18 rfl (lv_at hl 0 rfl) ?_
        refine lv_iconst (v := (1 : Int32)) hx hb dX6_party_19 (by decide) ?_
        obtain ⟨r20, w20_mfinding, w20_mfindings, hc, h⟩ := bd3_some h
        have hFc := my_freeS hD hS hA
        refine my_rwi (va_runV (As := [.int (1 : Int32)]) (rest := []) hFix (kX6_found l D T F am mguests mclause mdeeds masked mupper mlower mfinding mreadGuests misSight mat mrowSizes mrows mtextSizes mtexts mdoes mkinds msees mnow mbefore mkeeps mkept mfindings mread maside msteps mtried mbest (1 : Int32) r20 w20_mfinding w20_mfindings hc) (cwV 1 hts gX6_party_X6_found rfl rfl rfl ⟨rfl, hd_X6_found⟩ ⟨Nat.le_of_ble_eq_true rfl, Nat.le_of_ble_eq_true rfl⟩) (preV_rw hP hKK hD (va_recv hK hP (ci := 4) (q0 := 0) rfl wMo_0)) rfl rfl hl.1 rfl (lv_room (Nat.le_of_ble_eq_true rfl)) dX6_party_20 ⟨Nat.zero_le _, Nat.zero_le _⟩) hS hFc (fun H1 locs hP1 hD1 hz1 hk1 hS => ?_)
        have hP : va_P D vwCl (wMo T am mguests mclause mdeeds masked mupper mlower w20_mfinding mreadGuests misSight mat mrowSizes mrows mtextSizes mtexts mdoes mkinds msees mnow mbefore mkeeps mkept w20_mfindings mread maside msteps mtried mbest) H1 := hP1
        have hD : va_D A (wMo T am mguests mclause mdeeds masked mupper mlower w20_mfinding mreadGuests misSight mat mrowSizes mrows mtextSizes mtexts mdoes mkinds msees mnow mbefore mkeeps mkept w20_mfindings mread maside msteps mtried mbest) := hD1.weaken (fun _ q _ h => hFc q.1 h)
        generalize H1 = H at hP hS ⊢
        cases h
        exact hret _ _ _ _ hP hD hS dX6_party_23
    · have h := br_1 h c4
      refine lv_iconst (v := (-1 : Int32)) hx hb dX6_party_7 (by decide) ?_
      cases h
      exact hret _ _ _ _ hP hD hS dX6_party_8
  exact key _ (fun H locs pc ls hP hD hS hd => W.iret hx hb hr (fun t ht hW => ⟨⟨_, (), rfl, rfl, by show _ ∧ _; rw [ht]; exact ⟨hP, hD⟩⟩, hS.F ht⟩) hS.2.2 hd)
set_option maxHeartbeats 4000000 in
set_option maxRecDepth 100000 in
theorem kX6_isGuest (l : Launch) (D : va_G) (T : Nat → ClassId) (F : Nat) (am : Nat → Nat) (mguests : Int32) (mclause : Int32) (mdeeds : Int32) (masked : Int32) (mupper : Int64) (mlower : Int64) (mfinding : Int32) (mreadGuests : Int32) (misSight : Int32) (mat : Int32) (mrowSizes : Nat → Int32) (mrows : Nat → Int32) (mtextSizes : Nat → Int32) (mtexts : Nat → Int32) (mdoes : Nat → Int32) (mkinds : Nat → Int32) (msees : Nat → Int32) (mnow : Nat → Int32) (mbefore : Nat → Int32) (mkeeps : Nat → Int32) (mkept : Nat → Int32) (mfindings : Nat → Int32) (mread : Nat → Int32) (maside : Nat → Int32) (msteps : Nat → Int32) (mtried : Nat → Int32) (mbest : Nat → Int32) (x1 : Int32) (r : Int32) (h : fX6_isGuest F mguests x1 = some (r)) : Met l yX6_isGuest wsX6_isGuest ({ frames := 1, cells := 0, slots := 0, locals := 25 } : Room) (va_Pc [.ref (am 0), .int x1] (fun U => va_P D vwCl (wMo T am mguests mclause mdeeds masked mupper mlower mfinding mreadGuests misSight mat mrowSizes mrows mtextSizes mtexts mdoes mkinds msees mnow mbefore mkeeps mkept mfindings mread maside msteps mtried mbest) U.heap ∧ KK D T U)) (vp_Si (fun r' => r' = r ∧ b01 r)) 0 0 (fun _ => False) := by
  refine Met.ofW (cc := cX6_isGuest) (maxL := 2) (ret := some .boolean) (by decide) rfl ?_
  intro p e s m args below meth c s₁ B hml hv
  obtain ⟨ha, hP, hKK⟩ := hv
  have hx := B.exec
  have hb := B.bytes
  have hr := B.returns
  have hts := atoms_spec (ws := wsX6_isGuest) B.pre
  have hown : s.vm.findClass RX6 = some m.cls := findClass_of_methodNamed B.named
  have hlocks := B.notSynchronized
  have hK := hKK.1
  have hFix : CallFix p m c cX6_isGuest 2 s args wsX6_isGuest RX6 := ⟨hx, hb, hml, hown, hts⟩
  have q1 := hts _ (List.mem_of_getElem? (i := 1) (show wsX6_isGuest[1]? = some (Cond.fieldLink RX6 131 "PartyWillModel" "guests" "I") from rfl))
  have iX6 : ∀ w ∈ u_ws RX6 TX6 27, w ∈ wsX6_isGuest := fun w h => List.mem_cons_of_mem _ (List.mem_append_right _ (h))
  obtain ⟨ls, hl, e0⟩ := my_entry (m := m) (n := 2) ha (Nat.le_of_ble_eq_true rfl)
  rw [e0]
  have hl : lv_has ls 2 [(0, .ref (am 0)), (1, .int x1)] := hl
  have key : ∀ Q : State → Prop, (∀ (pc : Nat) (ls : Array Slot), decode cX6_isGuest pc = .ok (.ireturn, 1) → b01 r → W p l e ({ frames := 1, cells := 0, slots := 0, locals := 25 } : Room) s m args below meth c s.heap [] 0 0 Q (F0 m pc ls [.int r])) → W p l e ({ frames := 1, cells := 0, slots := 0, locals := 25 } : Room) s m args below meth c s.heap [] 0 0 Q (F0 m 0 ls []) := by
    intro Q hret
    unfold fX6_isGuest at h
    refine lv_iload_n hx hb dX6_isGuest_0 rfl (lv_at hl 1 rfl) ?_
    refine lv_i2l (v := (x1.toInt64)) hx hb dX6_isGuest_1 rfl ?_
    refine lv_lconst (v := (0 : Int64)) hx hb dX6_isGuest_2 (by decide) ?_
    refine lv_aload_n hx hb dX6_isGuest_3 rfl (lv_at hl 0 rfl) ?_
    refine va_get (D := D) (ci := 4) (C := RX6) (T := TX6) (N := 27) hx hb hts iX6 hown hK hP 0 wMo_0 rfl 4 (by decide) q1 (fun _ h9 => h9) rfl dX6_isGuest_4 ?_
    refine lv_iconst (v := (1 : Int32)) hx hb dX6_isGuest_7 (by decide) ?_
    refine lv_isub hx hb dX6_isGuest_8 ?_
    refine lv_i2l (v := ((mguests - (1 : Int32)).toInt64)) hx hb dX6_isGuest_9 rfl ?_
    obtain ⟨r10, hc, h⟩ := bd1_some h
    refine my_roz (va_Run.run (va_runS (As := [.long (x1.toInt64), .long (0 : Int64), .long ((mguests - (1 : Int32)).toInt64)]) (rest := []) hFix (kX6_in l D T F (x1.toInt64) (0 : Int64) ((mguests - (1 : Int32)).toInt64) r10 hc) (va_cwS 3 hts gX6_isGuest_X6_in rfl rfl rfl hd_X6_in ⟨Nat.le_of_ble_eq_true rfl, Nat.le_of_ble_eq_true rfl⟩) (preS_ro va_nil hKK) rfl rfl hl.1 rfl (lv_room (Nat.le_of_ble_eq_true rfl)) dX6_isGuest_10 ⟨Nat.zero_le _, Nat.zero_le _⟩)) (fun hb10 => ?_)
    cases h
    exact hret _ _ dX6_isGuest_13 hb10
  exact key _ (fun pc ls hd hb1 => W.zret hx hb hr (b01_n hb1) (fun t ht hW => ⟨_, rfl, ⟨rfl, hb1⟩, ht⟩) (fun q h => by cases h) hd)
set_option maxHeartbeats 4000000 in
set_option maxRecDepth 100000 in
theorem kX6_isTune (l : Launch) (D : va_G) (T : Nat → ClassId) (F : Nat) (x0 : Int32) (r : Int32) (h : fX6_isTune F x0 = some (r)) : Met l yX6_isTune wsX6_isTune ({ frames := 1, cells := 0, slots := 0, locals := 25 } : Room) (va_Pc [.int x0] (fun U => va_P D vwCl ([] : va_W) U.heap ∧ KK D T U)) (vp_Si (fun r' => r' = r ∧ b01 r)) 0 0 (fun _ => False) := by
  refine Met.ofW (cc := cX6_isTune) (maxL := 1) (ret := some .boolean) (by decide) rfl ?_
  intro p e s m args below meth c s₁ B hml hv
  obtain ⟨ha, hP, hKK⟩ := hv
  have hx := B.exec
  have hb := B.bytes
  have hr := B.returns
  have hts := atoms_spec (ws := wsX6_isTune) B.pre
  have hown : s.vm.findClass RX6 = some m.cls := findClass_of_methodNamed B.named
  have hlocks := B.notSynchronized
  have hK := hKK.1
  have hFix : CallFix p m c cX6_isTune 1 s args wsX6_isTune RX6 := ⟨hx, hb, hml, hown, hts⟩
  have q1 := hts _ (List.mem_of_getElem? (i := 1) (show wsX6_isTune[1]? = some (Cond.constantLong RX6 79 (3)) from rfl))
  obtain ⟨ls, hl, e0⟩ := my_entry (m := m) (n := 1) ha (Nat.le_of_ble_eq_true rfl)
  rw [e0]
  have hl : lv_has ls 1 [(0, .int x0)] := hl
  have key : ∀ Q : State → Prop, (∀ (pc : Nat) (ls : Array Slot), decode cX6_isTune pc = .ok (.ireturn, 1) → b01 r → W p l e ({ frames := 1, cells := 0, slots := 0, locals := 25 } : Room) s m args below meth c s.heap [] 0 0 Q (F0 m pc ls [.int r])) → W p l e ({ frames := 1, cells := 0, slots := 0, locals := 25 } : Room) s m args below meth c s.heap [] 0 0 Q (F0 m 0 ls []) := by
    intro Q hret
    unfold fX6_isTune at h
    refine lv_iload_n hx hb dX6_isTune_0 rfl (lv_at hl 0 rfl) ?_
    refine lv_i2l (v := (x0.toInt64)) hx hb dX6_isTune_1 rfl ?_
    refine lv_lconst (v := (0 : Int64)) hx hb dX6_isTune_2 (by decide) ?_
    refine lv_ldc2 (v := (3 : Int64)) hx hb hown q1 dX6_isTune_3 ?_
    obtain ⟨r6, hc, h⟩ := bd1_some h
    refine my_roz (va_Run.run (va_runS (As := [.long (x0.toInt64), .long (0 : Int64), .long (3 : Int64)]) (rest := []) hFix (kX6_in l D T F (x0.toInt64) (0 : Int64) (3 : Int64) r6 hc) (va_cwS 3 hts gX6_isTune_X6_in rfl rfl rfl hd_X6_in ⟨Nat.le_of_ble_eq_true rfl, Nat.le_of_ble_eq_true rfl⟩) (preS_ro hP hKK) rfl rfl hl.1 rfl (lv_room (Nat.le_of_ble_eq_true rfl)) dX6_isTune_6 ⟨Nat.zero_le _, Nat.zero_le _⟩)) (fun hb6 => ?_)
    cases h
    exact hret _ _ dX6_isTune_9 hb6
  exact key _ (fun pc ls hd hb1 => W.zret hx hb hr (b01_n hb1) (fun t ht hW => ⟨_, rfl, ⟨rfl, hb1⟩, ht⟩) (fun q h => by cases h) hd)
set_option maxHeartbeats 4000000 in
set_option maxRecDepth 100000 in
theorem kX6_has (l : Launch) (D : va_G) (T : Nat → ClassId) (F : Nat) (x0 : Int32) (x1 : Int32) (r : Int32) (h : fX6_has F x0 x1 = some (r)) : Met l yX6_has wsX6_has ({ frames := 0, cells := 0, slots := 0, locals := 0 } : Room) (va_Pc [.int x0, .int x1] (fun U => va_P D vwCl ([] : va_W) U.heap ∧ KK D T U)) (vp_Si (fun r' => r' = r ∧ b01 r)) 0 0 (fun _ => False) := by
  refine Met.ofW (cc := cX6_has) (maxL := 2) (ret := some .boolean) (by decide) rfl ?_
  intro p e s m args below meth c s₁ B hml hv
  obtain ⟨ha, hP, hKK⟩ := hv
  have hx := B.exec
  have hb := B.bytes
  have hr := B.returns
  have hts := atoms_spec (ws := wsX6_has) B.pre
  have hown : s.vm.findClass RX6 = some m.cls := findClass_of_methodNamed B.named
  have hlocks := B.notSynchronized
  have hK := hKK.1
  have hFix : CallFix p m c cX6_has 2 s args wsX6_has RX6 := ⟨hx, hb, hml, hown, hts⟩
  obtain ⟨ls, hl, e0⟩ := my_entry (m := m) (n := 2) ha (Nat.le_of_ble_eq_true rfl)
  rw [e0]
  have hl : lv_has ls 2 [(0, .int x0), (1, .int x1)] := hl
  have key : ∀ Q : State → Prop, (∀ (pc : Nat) (ls : Array Slot), decode cX6_has pc = .ok (.ireturn, 1) → b01 r → W p l e ({ frames := 0, cells := 0, slots := 0, locals := 0 } : Room) s m args below meth c s.heap [] 0 0 Q (F0 m pc ls [.int r])) → W p l e ({ frames := 0, cells := 0, slots := 0, locals := 0 } : Room) s m args below meth c s.heap [] 0 0 Q (F0 m 0 ls []) := by
    intro Q hret
    unfold fX6_has at h
    refine lv_iload_n hx hb dX6_has_0 rfl (lv_at hl 0 rfl) ?_
    refine lv_iload_n hx hb dX6_has_1 rfl (lv_at hl 1 rfl) ?_
    refine lv_ishr hx hb dX6_has_2 ?_
    refine lv_iconst (v := (1 : Int32)) hx hb dX6_has_3 (by decide) ?_
    refine lv_iand hx hb dX6_has_4 ?_
    refine lv_iconst (v := (1 : Int32)) hx hb dX6_has_5 (by decide) ?_
    refine lv_icmp_ne (tgt := 13) hx hb dX6_has_6 (by decide) (fun c6 => ?_) (fun c6 => ?_)
    · have h := br_0 h c6
      refine lv_iconst (v := (0 : Int32)) hx hb dX6_has_13 (by decide) ?_
      cases h
      exact hret _ _ dX6_has_14 (Or.inl rfl)
    · have h := br_1 h c6
      refine lv_iconst (v := (1 : Int32)) hx hb dX6_has_9 (by decide) ?_
      refine lv_goto (tgt := 14) hx hb dX6_has_10 (by decide) ?_
      cases h
      exact hret _ _ dX6_has_14 (Or.inr rfl)
  exact key _ (fun pc ls hd hb1 => W.zret hx hb hr (b01_n hb1) (fun t ht hW => ⟨_, rfl, ⟨rfl, hb1⟩, ht⟩) (fun q h => by cases h) hd)
set_option maxHeartbeats 4000000 in
set_option maxRecDepth 100000 in
theorem kX6_bits (l : Launch) (D : va_G) (T : Nat → ClassId) (F : Nat) (x0 : Int32) (r : Int32) (h : fX6_bits F x0 = some (r)) : Met l yX6_bits wsX6_bits ({ frames := 0, cells := 0, slots := 0, locals := 0 } : Room) (va_Pc [.int x0] (fun U => va_P D vwCl ([] : va_W) U.heap ∧ KK D T U)) (vp_Si (fun r' => r' = r)) 0 0 (fun _ => False) := by
  refine Met.ofW (cc := cX6_bits) (maxL := 3) (ret := some .int) (by decide) rfl ?_
  intro p e s m args below meth c s₁ B hml hv
  obtain ⟨ha, hP, hKK⟩ := hv
  have hx := B.exec
  have hb := B.bytes
  have hr := B.returns
  have hts := atoms_spec (ws := wsX6_bits) B.pre
  have hown : s.vm.findClass RX6 = some m.cls := findClass_of_methodNamed B.named
  have hlocks := B.notSynchronized
  have hK := hKK.1
  have hFix : CallFix p m c cX6_bits 3 s args wsX6_bits RX6 := ⟨hx, hb, hml, hown, hts⟩
  obtain ⟨ls, hl, e0⟩ := my_entry (m := m) (n := 3) ha (Nat.le_of_ble_eq_true rfl)
  rw [e0]
  have hl : lv_has ls 3 [(0, .int x0)] := hl
  have key : ∀ Q : State → Prop, (∀ (pc : Nat) (ls : Array Slot), decode cX6_bits pc = .ok (.ireturn, 1) → W p l e ({ frames := 0, cells := 0, slots := 0, locals := 0 } : Room) s m args below meth c s.heap [] 0 0 Q (F0 m pc ls [.int r])) → W p l e ({ frames := 0, cells := 0, slots := 0, locals := 0 } : Room) s m args below meth c s.heap [] 0 0 Q (F0 m 0 ls []) := by
    intro Q hret
    have l4 : ∀ nu : Nat, ∀ x1 : Int32, ∀ x2 : Int32, fX6_bits_l4 F nu x1 x2 = some (r) → ∀ (ls : Array Slot), lv_has ls 3 [(1, .int x1), (2, .int x2)] → W p l e ({ frames := 0, cells := 0, slots := 0, locals := 0 } : Room) s m args below meth c s.heap [] 0 0 Q (F0 m 4 ls []) := by
      intro nu
      induction nu with
      | zero => intro x1 x2 h; exact none_some h
      | succ nu4 ih4 =>
        intro x1 x2 h ls hl
        have h : fX6_bits_l4_b F (fX6_bits_l4 F nu4) x1 x2 = some (r) := h
        unfold fX6_bits_l4_b at h
        refine lv_iload_n hx hb dX6_bits_4 rfl (lv_at hl 1 rfl) ?_
        refine lv_if_eq (tgt := 20) hx hb dX6_bits_5 (by decide) (fun c5 => ?_) (fun c5 => ?_)
        · have h := br_1 h c5
          refine lv_iload_n hx hb dX6_bits_20 rfl (lv_at hl 0 rfl) ?_
          cases h
          exact hret _ _ dX6_bits_21
        · have h := br_0 h c5
          refine lv_iinc (v := (x1 + (1 : Int32))) (lv' := [(1, .int (x1 + (1 : Int32))), (2, .int x2)]) hx hb dX6_bits_8 hl (k := 0) rfl rfl (by decide) rfl (fun ls hl => ?_)
          refine lv_iload_n hx hb dX6_bits_11 rfl (lv_at hl 1 rfl) ?_
          refine lv_iload_n hx hb dX6_bits_12 rfl (lv_at hl 1 rfl) ?_
          refine lv_iconst (v := (1 : Int32)) hx hb dX6_bits_13 (by decide) ?_
          refine lv_isub hx hb dX6_bits_14 ?_
          refine lv_iand hx hb dX6_bits_15 ?_
          refine lv_istore_n (lv' := [(2, .int (x2 &&& (x2 - (1 : Int32)))), (1, .int (x1 + (1 : Int32)))]) hx hb dX6_bits_16 rfl hl (by decide) rfl (fun ls hl => ?_)
          refine lv_goto (tgt := 4) hx hb dX6_bits_17 (by decide) ?_
          exact ih4 (x1 + (1 : Int32)) (x2 &&& (x2 - (1 : Int32))) h _ (lv_sub hl [1, 0] rfl)
    unfold fX6_bits at h
    refine lv_iconst (v := (0 : Int32)) hx hb dX6_bits_0 (by decide) ?_
    refine lv_istore_n (lv' := [(1, .int (0 : Int32)), (0, .int x0)]) hx hb dX6_bits_1 rfl hl (by decide) rfl (fun ls hl => ?_)
    refine lv_iload_n hx hb dX6_bits_2 rfl (lv_at hl 1 rfl) ?_
    refine lv_istore_n (lv' := [(2, .int x0), (1, .int (0 : Int32)), (0, .int x0)]) hx hb dX6_bits_3 rfl hl (by decide) rfl (fun ls hl => ?_)
    exact l4 F (0 : Int32) x0 h _ (lv_sub hl [1, 0] rfl)
  exact key _ (fun pc ls hd => W.iret hx hb hr (fun t ht hW => ⟨_, rfl, rfl, ht⟩) (fun q h => by cases h) hd)
set_option maxHeartbeats 4000000 in
set_option maxRecDepth 100000 in
theorem kX6_everybody (l : Launch) (D : va_G) (T : Nat → ClassId) (F : Nat) (am : Nat → Nat) (mguests : Int32) (mclause : Int32) (mdeeds : Int32) (masked : Int32) (mupper : Int64) (mlower : Int64) (mfinding : Int32) (mreadGuests : Int32) (misSight : Int32) (mat : Int32) (r : Int32) (h : fX6_everybody F mguests = some (r)) : Met l yX6_everybody wsX6_everybody ({ frames := 0, cells := 0, slots := 0, locals := 0 } : Room) (va_Pc [.ref (am 0)] (fun U => va_P D vwCl (wM0 T am mguests mclause mdeeds masked mupper mlower mfinding mreadGuests misSight mat) U.heap ∧ KK D T U)) (vp_Si (fun r' => r' = r)) 0 0 (fun _ => False) := by
  refine Met.ofW (cc := cX6_everybody) (maxL := 1) (ret := some .int) (by decide) rfl ?_
  intro p e s m args below meth c s₁ B hml hv
  obtain ⟨ha, hP, hKK⟩ := hv
  have hx := B.exec
  have hb := B.bytes
  have hr := B.returns
  have hts := atoms_spec (ws := wsX6_everybody) B.pre
  have hown : s.vm.findClass RX6 = some m.cls := findClass_of_methodNamed B.named
  have hlocks := B.notSynchronized
  have hK := hKK.1
  have hFix : CallFix p m c cX6_everybody 1 s args wsX6_everybody RX6 := ⟨hx, hb, hml, hown, hts⟩
  have q1 := hts _ (List.mem_of_getElem? (i := 1) (show wsX6_everybody[1]? = some (Cond.fieldLink RX6 131 "PartyWillModel" "guests" "I") from rfl))
  have iX6 : ∀ w ∈ u_ws RX6 TX6 27, w ∈ wsX6_everybody := fun w h => List.mem_cons_of_mem _ (List.mem_append_right _ (h))
  obtain ⟨ls, hl, e0⟩ := my_entry (m := m) (n := 1) ha (Nat.le_of_ble_eq_true rfl)
  rw [e0]
  have hl : lv_has ls 1 [(0, .ref (am 0))] := hl
  have key : ∀ Q : State → Prop, (∀ (pc : Nat) (ls : Array Slot), decode cX6_everybody pc = .ok (.ireturn, 1) → W p l e ({ frames := 0, cells := 0, slots := 0, locals := 0 } : Room) s m args below meth c s.heap [] 0 0 Q (F0 m pc ls [.int r])) → W p l e ({ frames := 0, cells := 0, slots := 0, locals := 0 } : Room) s m args below meth c s.heap [] 0 0 Q (F0 m 0 ls []) := by
    intro Q hret
    unfold fX6_everybody at h
    refine lv_iconst (v := (1 : Int32)) hx hb dX6_everybody_0 (by decide) ?_
    refine lv_aload_n hx hb dX6_everybody_1 rfl (lv_at hl 0 rfl) ?_
    refine va_get (D := D) (ci := 4) (C := RX6) (T := TX6) (N := 27) hx hb hts iX6 hown hK hP 0 wM0_0 rfl 4 (by decide) q1 (fun _ h9 => h9) rfl dX6_everybody_2 ?_
    refine lv_ishl hx hb dX6_everybody_5 ?_
    refine lv_iconst (v := (1 : Int32)) hx hb dX6_everybody_6 (by decide) ?_
    refine lv_isub hx hb dX6_everybody_7 ?_
    cases h
    exact hret _ _ dX6_everybody_8
  exact key _ (fun pc ls hd => W.iret hx hb hr (fun t ht hW => ⟨_, rfl, rfl, ht⟩) (fun q h => by cases h) hd)
set_option maxHeartbeats 4000000 in
set_option maxRecDepth 100000 in
theorem kX6_inside (l : Launch) (D : va_G) (T : Nat → ClassId) (F : Nat) (am : Nat → Nat) (b0 : Nat) (mguests : Int32) (mclause : Int32) (mdeeds : Int32) (masked : Int32) (mupper : Int64) (mlower : Int64) (mfinding : Int32) (mreadGuests : Int32) (misSight : Int32) (mat : Int32) (tt : Nat → Int32) (r : Int32) (h : fX6_inside F mguests tt = some (r)) : Met l yX6_inside wsX6_inside ({ frames := 1, cells := 0, slots := 0, locals := 20 } : Room) (va_Pc [.ref (am 0), .ref b0] (fun U => va_P D vwCl (wMi T am b0 mguests mclause mdeeds masked mupper mlower mfinding mreadGuests misSight mat tt) U.heap ∧ KK D T U)) (vp_Si (fun r' => r' = r)) 0 0 (fun _ => False) := by
  refine Met.ofW (cc := cX6_inside) (maxL := 2) (ret := some .int) (by decide) rfl ?_
  intro p e s m args below meth c s₁ B hml hv
  obtain ⟨ha, hP, hKK⟩ := hv
  have hx := B.exec
  have hb := B.bytes
  have hr := B.returns
  have hts := atoms_spec (ws := wsX6_inside) B.pre
  have hown : s.vm.findClass RX6 = some m.cls := findClass_of_methodNamed B.named
  have hlocks := B.notSynchronized
  have hK := hKK.1
  have hFix : CallFix p m c cX6_inside 2 s args wsX6_inside RX6 := ⟨hx, hb, hml, hown, hts⟩
  obtain ⟨ls, hl, e0⟩ := my_entry (m := m) (n := 2) ha (Nat.le_of_ble_eq_true rfl)
  rw [e0]
  have hl : lv_has ls 2 [(0, .ref (am 0)), (1, .ref b0)] := hl
  have key : ∀ Q : State → Prop, (∀ (pc : Nat) (ls : Array Slot), decode cX6_inside pc = .ok (.ireturn, 1) → W p l e ({ frames := 1, cells := 0, slots := 0, locals := 20 } : Room) s m args below meth c s.heap [] 0 0 Q (F0 m pc ls [.int r])) → W p l e ({ frames := 1, cells := 0, slots := 0, locals := 20 } : Room) s m args below meth c s.heap [] 0 0 Q (F0 m 0 ls []) := by
    intro Q hret
    unfold fX6_inside at h
    refine lv_aload_n hx hb dX6_inside_0 rfl (lv_at hl 0 rfl) ?_
    obtain ⟨r1, hc, h⟩ := bd1_some h
    have hPc : va_P D vwCl (wM0 T am mguests mclause mdeeds masked mupper mlower mfinding mreadGuests misSight mat) s.heap := my_subP sb_wMi_wM0_0 hP
    refine my_roi (va_Run.run (va_runV (As := []) (rest := []) hFix (kX6_everybody l D T F am mguests mclause mdeeds masked mupper mlower mfinding mreadGuests misSight mat r1 hc) (cwV 0 hts gX6_inside_X6_everybody rfl rfl rfl ⟨rfl, hd_X6_everybody⟩ ⟨Nat.le_of_ble_eq_true rfl, Nat.le_of_ble_eq_true rfl⟩) (preV_ro hPc hKK (va_recv hK hP (ci := 4) (q0 := 0) rfl wMi_0)) rfl rfl hl.1 rfl (lv_room (Nat.le_of_ble_eq_true rfl)) dX6_inside_1 ⟨Nat.zero_le _, Nat.zero_le _⟩)) ?_
    refine lv_aload_n hx hb dX6_inside_4 rfl (lv_at hl 1 rfl) ?_
    refine lv_bipush (v := (6 : Int32)) hx hb dX6_inside_5 (by decide) ?_
    refine va_iald hx hb hK hP 1 0 wMi_1 rfl (show ¬ ((6 : Int32) < 0 ∨ 7 ≤ (6 : Int32).toNatClampNeg) by decide) dX6_inside_7 ?_
    refine lv_iconst (v := (-1 : Int32)) hx hb dX6_inside_8 (by decide) ?_
    refine lv_ixor hx hb dX6_inside_9 ?_
    refine lv_iand hx hb dX6_inside_10 ?_
    cases h
    exact hret _ _ dX6_inside_11
  exact key _ (fun pc ls hd => W.iret hx hb hr (fun t ht hW => ⟨_, rfl, rfl, ht⟩) (fun q h => by cases h) hd)
set_option maxHeartbeats 4000000 in
set_option maxRecDepth 100000 in
theorem kX6_isOf (l : Launch) (D : va_G) (T : Nat → ClassId) (F : Nat) (x0 : Int32) (x1 : Int32) (r : Int32) (h : fX6_isOf F x0 x1 = some (r)) : Met l yX6_isOf wsX6_isOf ({ frames := 0, cells := 0, slots := 0, locals := 0 } : Room) (va_Pc [.int x0, .int x1] (fun U => va_P D vwCl ([] : va_W) U.heap ∧ KK D T U)) (vp_Si (fun r' => r' = r ∧ b01 r)) 0 0 (fun _ => False) := by
  refine Met.ofW (cc := cX6_isOf) (maxL := 2) (ret := some .boolean) (by decide) rfl ?_
  intro p e s m args below meth c s₁ B hml hv
  obtain ⟨ha, hP, hKK⟩ := hv
  have hx := B.exec
  have hb := B.bytes
  have hr := B.returns
  have hts := atoms_spec (ws := wsX6_isOf) B.pre
  have hown : s.vm.findClass RX6 = some m.cls := findClass_of_methodNamed B.named
  have hlocks := B.notSynchronized
  have hK := hKK.1
  have hFix : CallFix p m c cX6_isOf 2 s args wsX6_isOf RX6 := ⟨hx, hb, hml, hown, hts⟩
  obtain ⟨ls, hl, e0⟩ := my_entry (m := m) (n := 2) ha (Nat.le_of_ble_eq_true rfl)
  rw [e0]
  have hl : lv_has ls 2 [(0, .int x0), (1, .int x1)] := hl
  have key : ∀ Q : State → Prop, (∀ (pc : Nat) (ls : Array Slot), decode cX6_isOf pc = .ok (.ireturn, 1) → b01 r → W p l e ({ frames := 0, cells := 0, slots := 0, locals := 0 } : Room) s m args below meth c s.heap [] 0 0 Q (F0 m pc ls [.int r])) → W p l e ({ frames := 0, cells := 0, slots := 0, locals := 0 } : Room) s m args below meth c s.heap [] 0 0 Q (F0 m 0 ls []) := by
    intro Q hret
    have n19 : ∀ x0 : Int32, ∀ x1 : Int32, fX6_isOf_n19 F x0 x1 = some (r) → ∀ (ls : Array Slot), lv_has ls 2 [(0, .int x0), (1, .int x1)] → W p l e ({ frames := 0, cells := 0, slots := 0, locals := 0 } : Room) s m args below meth c s.heap [] 0 0 Q (F0 m 19 ls []) := by
      intro x0 x1 h ls hl
      unfold fX6_isOf_n19 at h
      refine lv_iload_n hx hb dX6_isOf_19 rfl (lv_at hl 1 rfl) ?_
      refine lv_iconst (v := (2 : Int32)) hx hb dX6_isOf_20 (by decide) ?_
      refine lv_icmp_ne (tgt := 33) hx hb dX6_isOf_21 (by decide) (fun c21 => ?_) (fun c21 => ?_)
      · have h := br_0 h c21
        refine lv_iconst (v := (0 : Int32)) hx hb dX6_isOf_33 (by decide) ?_
        cases h
        exact hret _ _ dX6_isOf_34 (Or.inl rfl)
      · have h := br_1 h c21
        refine lv_iload_n hx hb dX6_isOf_24 rfl (lv_at hl 0 rfl) ?_
        refine lv_iconst (v := (5 : Int32)) hx hb dX6_isOf_25 (by decide) ?_
        refine lv_icmp_ne (tgt := 33) hx hb dX6_isOf_26 (by decide) (fun c26 => ?_) (fun c26 => ?_)
        · have h := br_0 h c26
          refine lv_iconst (v := (0 : Int32)) hx hb dX6_isOf_33 (by decide) ?_
          cases h
          exact hret _ _ dX6_isOf_34 (Or.inl rfl)
        · have h := br_1 h c26
          refine lv_iconst (v := (1 : Int32)) hx hb dX6_isOf_29 (by decide) ?_
          refine lv_goto (tgt := 34) hx hb dX6_isOf_30 (by decide) ?_
          cases h
          exact hret _ _ dX6_isOf_34 (Or.inr rfl)
    unfold fX6_isOf at h
    refine lv_iload_n hx hb dX6_isOf_0 rfl (lv_at hl 1 rfl) ?_
    refine lv_if_eq (tgt := 29) hx hb dX6_isOf_1 (by decide) (fun c1 => ?_) (fun c1 => ?_)
    · have h := br_1 h c1
      refine lv_iconst (v := (1 : Int32)) hx hb dX6_isOf_29 (by decide) ?_
      refine lv_goto (tgt := 34) hx hb dX6_isOf_30 (by decide) ?_
      cases h
      exact hret _ _ dX6_isOf_34 (Or.inr rfl)
    · have h := br_0 h c1
      refine lv_iload_n hx hb dX6_isOf_4 rfl (lv_at hl 0 rfl) ?_
      refine lv_iload_n hx hb dX6_isOf_5 rfl (lv_at hl 1 rfl) ?_
      refine lv_icmp_eq (tgt := 29) hx hb dX6_isOf_6 (by decide) (fun c6 => ?_) (fun c6 => ?_)
      · have h := br_1 h c6
        refine lv_iconst (v := (1 : Int32)) hx hb dX6_isOf_29 (by decide) ?_
        refine lv_goto (tgt := 34) hx hb dX6_isOf_30 (by decide) ?_
        cases h
        exact hret _ _ dX6_isOf_34 (Or.inr rfl)
      · have h := br_0 h c6
        refine lv_iload_n hx hb dX6_isOf_9 rfl (lv_at hl 1 rfl) ?_
        refine lv_iconst (v := (1 : Int32)) hx hb dX6_isOf_10 (by decide) ?_
        refine lv_icmp_ne (tgt := 19) hx hb dX6_isOf_11 (by decide) (fun c11 => ?_) (fun c11 => ?_)
        · have h := br_0 h c11
          exact n19 x0 x1 h _ (lv_sub hl [0, 1] rfl)
        · have h := br_1 h c11
          refine lv_iload_n hx hb dX6_isOf_14 rfl (lv_at hl 0 rfl) ?_
          refine lv_iconst (v := (4 : Int32)) hx hb dX6_isOf_15 (by decide) ?_
          refine lv_icmp_eq (tgt := 29) hx hb dX6_isOf_16 (by decide) (fun c16 => ?_) (fun c16 => ?_)
          · have h := br_1 h c16
            refine lv_iconst (v := (1 : Int32)) hx hb dX6_isOf_29 (by decide) ?_
            refine lv_goto (tgt := 34) hx hb dX6_isOf_30 (by decide) ?_
            cases h
            exact hret _ _ dX6_isOf_34 (Or.inr rfl)
          · have h := br_0 h c16
            exact n19 x0 x1 h _ (lv_sub hl [0, 1] rfl)
  exact key _ (fun pc ls hd hb1 => W.zret hx hb hr (b01_n hb1) (fun t ht hW => ⟨_, rfl, ⟨rfl, hb1⟩, ht⟩) (fun q h => by cases h) hd)
set_option maxHeartbeats 4000000 in
set_option maxRecDepth 100000 in
theorem kX6_kept20 (l : Launch) (D : va_G) (T : Nat → ClassId) (F : Nat) (x0 : Int32) (r : Int32) (h : fX6_kept20 F x0 = some (r)) : Met l yX6_kept20 wsX6_kept20 ({ frames := 0, cells := 0, slots := 0, locals := 0 } : Room) (va_Pc [.int x0] (fun U => va_P D vwCl ([] : va_W) U.heap ∧ KK D T U)) (vp_Si (fun r' => r' = r)) 0 0 (fun _ => False) := by
  refine Met.ofW (cc := cX6_kept20) (maxL := 1) (ret := some .int) (by decide) rfl ?_
  intro p e s m args below meth c s₁ B hml hv
  obtain ⟨ha, hP, hKK⟩ := hv
  have hx := B.exec
  have hb := B.bytes
  have hr := B.returns
  have hts := atoms_spec (ws := wsX6_kept20) B.pre
  have hown : s.vm.findClass RX6 = some m.cls := findClass_of_methodNamed B.named
  have hlocks := B.notSynchronized
  have hK := hKK.1
  have hFix : CallFix p m c cX6_kept20 1 s args wsX6_kept20 RX6 := ⟨hx, hb, hml, hown, hts⟩
  obtain ⟨ls, hl, e0⟩ := my_entry (m := m) (n := 1) ha (Nat.le_of_ble_eq_true rfl)
  rw [e0]
  have hl : lv_has ls 1 [(0, .int x0)] := hl
  have key : ∀ Q : State → Prop, (∀ (pc : Nat) (ls : Array Slot), decode cX6_kept20 pc = .ok (.ireturn, 1) → W p l e ({ frames := 0, cells := 0, slots := 0, locals := 0 } : Room) s m args below meth c s.heap [] 0 0 Q (F0 m pc ls [.int r])) → W p l e ({ frames := 0, cells := 0, slots := 0, locals := 0 } : Room) s m args below meth c s.heap [] 0 0 Q (F0 m 0 ls []) := by
    intro Q hret
    unfold fX6_kept20 at h
    refine lv_iload_n hx hb dX6_kept20_0 rfl (lv_at hl 0 rfl) ?_
    refine lv_if_ge (tgt := 8) hx hb dX6_kept20_1 (by decide) (fun c1 => ?_) (fun c1 => ?_)
    · have h := br_1 h c1
      refine lv_iload_n hx hb dX6_kept20_8 rfl (lv_at hl 0 rfl) ?_
      refine lv_bipush (v := (20 : Int32)) hx hb dX6_kept20_9 (by decide) ?_
      refine lv_icmp_le (tgt := 19) hx hb dX6_kept20_11 (by decide) (fun c11 => ?_) (fun c11 => ?_)
      · have h := br_1 h c11
        refine lv_iload_n hx hb dX6_kept20_19 rfl (lv_at hl 0 rfl) ?_
        cases h
        exact hret _ _ dX6_kept20_20
      · have h := br_0 h c11
        refine lv_bipush (v := (20 : Int32)) hx hb dX6_kept20_14 (by decide) ?_
        refine lv_goto (tgt := 20) hx hb dX6_kept20_16 (by decide) ?_
        cases h
        exact hret _ _ dX6_kept20_20
    · have h := br_0 h c1
      refine lv_iconst (v := (0 : Int32)) hx hb dX6_kept20_4 (by decide) ?_
      refine lv_goto (tgt := 20) hx hb dX6_kept20_5 (by decide) ?_
      cases h
      exact hret _ _ dX6_kept20_20
  exact key _ (fun pc ls hd => W.iret hx hb hr (fun t ht hW => ⟨_, rfl, rfl, ht⟩) (fun q h => by cases h) hd)
set_option maxHeartbeats 4000000 in
set_option maxRecDepth 100000 in
theorem kX6_griefBehind (l : Launch) (D : va_G) (T : Nat → ClassId) (F : Nat) (x0 : Int32) (x1 : Int32) (x2 : Int32) (x3 : Int32) (r : Int32) (h : fX6_griefBehind F x0 x1 x2 x3 = some (r)) : Met l yX6_griefBehind wsX6_griefBehind ({ frames := 1, cells := 0, slots := 0, locals := 21 } : Room) (va_Pc [.int x0, .int x1, .int x2, .int x3] (fun U => va_P D vwCl ([] : va_W) U.heap ∧ KK D T U)) (vp_Si (fun r' => r' = r)) 0 0 (fun _ => False) := by
  refine Met.ofW (cc := cX6_griefBehind) (maxL := 5) (ret := some .int) (by decide) rfl ?_
  intro p e s m args below meth c s₁ B hml hv
  obtain ⟨ha, hP, hKK⟩ := hv
  have hx := B.exec
  have hb := B.bytes
  have hr := B.returns
  have hts := atoms_spec (ws := wsX6_griefBehind) B.pre
  have hown : s.vm.findClass RX6 = some m.cls := findClass_of_methodNamed B.named
  have hlocks := B.notSynchronized
  have hK := hKK.1
  have hFix : CallFix p m c cX6_griefBehind 5 s args wsX6_griefBehind RX6 := ⟨hx, hb, hml, hown, hts⟩
  obtain ⟨ls, hl, e0⟩ := my_entry (m := m) (n := 5) ha (Nat.le_of_ble_eq_true rfl)
  rw [e0]
  have hl : lv_has ls 5 [(0, .int x0), (1, .int x1), (2, .int x2), (3, .int x3)] := hl
  have key : ∀ Q : State → Prop, (∀ (pc : Nat) (ls : Array Slot), decode cX6_griefBehind pc = .ok (.ireturn, 1) → W p l e ({ frames := 1, cells := 0, slots := 0, locals := 21 } : Room) s m args below meth c s.heap [] 0 0 Q (F0 m pc ls [.int r])) → W p l e ({ frames := 1, cells := 0, slots := 0, locals := 21 } : Room) s m args below meth c s.heap [] 0 0 Q (F0 m 0 ls []) := by
    intro Q hret
    have n40 : ∀ s_0 : Int32, ∀ s_1 : Int32, ∀ x1 : Int32, fX6_griefBehind_n40 F s_0 s_1 x1 = some (r) → ∀ (ls : Array Slot), lv_has ls 5 [(1, .int x1)] → W p l e ({ frames := 1, cells := 0, slots := 0, locals := 21 } : Room) s m args below meth c s.heap [] 0 0 Q (F0 m 40 ls [.int s_1, .int s_0]) := by
      intro s_0 s_1 x1 h ls hl
      unfold fX6_griefBehind_n40 at h
      refine lv_isub hx hb dX6_griefBehind_40 ?_
      refine lv_istore (lv' := [(4, .int (s_0 - s_1)), (1, .int x1)]) hx hb dX6_griefBehind_41 hl (by decide) rfl (fun ls hl => ?_)
      refine lv_goto (tgt := 92) hx hb dX6_griefBehind_43 (by decide) ?_
      refine lv_iload_n hx hb dX6_griefBehind_92 rfl (lv_at hl 1 rfl) ?_
      refine lv_iload hx hb dX6_griefBehind_93 (lv_at hl 0 rfl) ?_
      refine lv_iadd hx hb dX6_griefBehind_95 ?_
      obtain ⟨r96, hc, h⟩ := bd1_some h
      refine my_roi (va_Run.run (va_runS (As := [.int (x1 + (s_0 - s_1))]) (rest := []) hFix (kX6_kept20 l D T F (x1 + (s_0 - s_1)) r96 hc) (va_cwS 1 hts gX6_griefBehind_X6_kept20 rfl rfl rfl hd_X6_kept20 ⟨Nat.le_of_ble_eq_true rfl, Nat.le_of_ble_eq_true rfl⟩) (preS_ro hP hKK) rfl rfl hl.1 rfl (lv_room (Nat.le_of_ble_eq_true rfl)) dX6_griefBehind_96 ⟨Nat.zero_le _, Nat.zero_le _⟩)) ?_
      cases h
      exact hret _ _ dX6_griefBehind_99
    have n66 : ∀ s_0 : Int32, ∀ x1 : Int32, fX6_griefBehind_n66 F s_0 x1 = some (r) → ∀ (ls : Array Slot), lv_has ls 5 [(1, .int x1)] → W p l e ({ frames := 1, cells := 0, slots := 0, locals := 21 } : Room) s m args below meth c s.heap [] 0 0 Q (F0 m 66 ls [.int s_0]) := by
      intro s_0 x1 h ls hl
      unfold fX6_griefBehind_n66 at h
      refine lv_istore (lv' := [(4, .int s_0), (1, .int x1)]) hx hb dX6_griefBehind_66 hl (by decide) rfl (fun ls hl => ?_)
      refine lv_goto (tgt := 92) hx hb dX6_griefBehind_68 (by decide) ?_
      refine lv_iload_n hx hb dX6_griefBehind_92 rfl (lv_at hl 1 rfl) ?_
      refine lv_iload hx hb dX6_griefBehind_93 (lv_at hl 0 rfl) ?_
      refine lv_iadd hx hb dX6_griefBehind_95 ?_
      obtain ⟨r96, hc, h⟩ := bd1_some h
      refine my_roi (va_Run.run (va_runS (As := [.int (x1 + s_0)]) (rest := []) hFix (kX6_kept20 l D T F (x1 + s_0) r96 hc) (va_cwS 1 hts gX6_griefBehind_X6_kept20 rfl rfl rfl hd_X6_kept20 ⟨Nat.le_of_ble_eq_true rfl, Nat.le_of_ble_eq_true rfl⟩) (preS_ro hP hKK) rfl rfl hl.1 rfl (lv_room (Nat.le_of_ble_eq_true rfl)) dX6_griefBehind_96 ⟨Nat.zero_le _, Nat.zero_le _⟩)) ?_
      cases h
      exact hret _ _ dX6_griefBehind_99
    have n90 : ∀ s_0 : Int32, ∀ x1 : Int32, fX6_griefBehind_n90 F s_0 x1 = some (r) → ∀ (ls : Array Slot), lv_has ls 5 [(1, .int x1)] → W p l e ({ frames := 1, cells := 0, slots := 0, locals := 21 } : Room) s m args below meth c s.heap [] 0 0 Q (F0 m 90 ls [.int s_0]) := by
      intro s_0 x1 h ls hl
      unfold fX6_griefBehind_n90 at h
      refine lv_istore (lv' := [(4, .int s_0), (1, .int x1)]) hx hb dX6_griefBehind_90 hl (by decide) rfl (fun ls hl => ?_)
      refine lv_iload_n hx hb dX6_griefBehind_92 rfl (lv_at hl 1 rfl) ?_
      refine lv_iload hx hb dX6_griefBehind_93 (lv_at hl 0 rfl) ?_
      refine lv_iadd hx hb dX6_griefBehind_95 ?_
      obtain ⟨r96, hc, h⟩ := bd1_some h
      refine my_roi (va_Run.run (va_runS (As := [.int (x1 + s_0)]) (rest := []) hFix (kX6_kept20 l D T F (x1 + s_0) r96 hc) (va_cwS 1 hts gX6_griefBehind_X6_kept20 rfl rfl rfl hd_X6_kept20 ⟨Nat.le_of_ble_eq_true rfl, Nat.le_of_ble_eq_true rfl⟩) (preS_ro hP hKK) rfl rfl hl.1 rfl (lv_room (Nat.le_of_ble_eq_true rfl)) dX6_griefBehind_96 ⟨Nat.zero_le _, Nat.zero_le _⟩)) ?_
      cases h
      exact hret _ _ dX6_griefBehind_99
    have n12 : ∀ x0 : Int32, ∀ x1 : Int32, ∀ x2 : Int32, ∀ x3 : Int32, fX6_griefBehind_n12 F x0 x1 x2 x3 = some (r) → ∀ (ls : Array Slot), lv_has ls 5 [(0, .int x0), (1, .int x1), (2, .int x2), (3, .int x3)] → W p l e ({ frames := 1, cells := 0, slots := 0, locals := 21 } : Room) s m args below meth c s.heap [] 0 0 Q (F0 m 12 ls []) := by
      intro x0 x1 x2 x3 h ls hl
      unfold fX6_griefBehind_n12 at h
      refine lv_iload_n hx hb dX6_griefBehind_12 rfl (lv_at hl 3 rfl) ?_
      refine lv_istore (lv' := [(4, .int x3), (0, .int x0), (1, .int x1), (2, .int x2), (3, .int x3)]) hx hb dX6_griefBehind_13 hl (by decide) rfl (fun ls hl => ?_)
      refine lv_iload_n hx hb dX6_griefBehind_15 rfl (lv_at hl 1 rfl) ?_
      refine lv_iconst (v := (1 : Int32)) hx hb dX6_griefBehind_16 (by decide) ?_
      obtain ⟨r17, hc, h⟩ := bd1_some h
      refine my_roz (va_Run.run (va_runS (As := [.int x0, .int (1 : Int32)]) (rest := []) hFix (kX6_isOf l D T F x0 (1 : Int32) r17 hc) (va_cwS 2 hts gX6_griefBehind_X6_isOf rfl rfl rfl hd_X6_isOf ⟨Nat.le_of_ble_eq_true rfl, Nat.le_of_ble_eq_true rfl⟩) (preS_ro hP hKK) rfl rfl hl.1 rfl (lv_room (Nat.le_of_ble_eq_true rfl)) dX6_griefBehind_17 ⟨Nat.zero_le _, Nat.zero_le _⟩)) (fun hb17 => ?_)
      refine lv_if_eq (tgt := 46) hx hb dX6_griefBehind_20 (by decide) (fun c20 => ?_) (fun c20 => ?_)
      · have h := br_1 h c20
        refine lv_iload_n hx hb dX6_griefBehind_46 rfl (lv_at hl 1 rfl) ?_
        refine lv_iconst (v := (2 : Int32)) hx hb dX6_griefBehind_47 (by decide) ?_
        obtain ⟨r48, hc, h⟩ := bd1_some h
        refine my_roz (va_Run.run (va_runS (As := [.int x0, .int (2 : Int32)]) (rest := []) hFix (kX6_isOf l D T F x0 (2 : Int32) r48 hc) (va_cwS 2 hts gX6_griefBehind_X6_isOf rfl rfl rfl hd_X6_isOf ⟨Nat.le_of_ble_eq_true rfl, Nat.le_of_ble_eq_true rfl⟩) (preS_ro hP hKK) rfl rfl hl.1 rfl (lv_room (Nat.le_of_ble_eq_true rfl)) dX6_griefBehind_48 ⟨Nat.zero_le _, Nat.zero_le _⟩)) (fun hb48 => ?_)
        refine lv_if_eq (tgt := 71) hx hb dX6_griefBehind_51 (by decide) (fun c51 => ?_) (fun c51 => ?_)
        · have h := br_1 h c51
          refine lv_iload_n hx hb dX6_griefBehind_71 rfl (lv_at hl 1 rfl) ?_
          refine lv_iconst (v := (3 : Int32)) hx hb dX6_griefBehind_72 (by decide) ?_
          refine lv_icmp_ne (tgt := 92) hx hb dX6_griefBehind_73 (by decide) (fun c73 => ?_) (fun c73 => ?_)
          · have h := br_0 h c73
            refine lv_iload_n hx hb dX6_griefBehind_92 rfl (lv_at hl 2 rfl) ?_
            refine lv_iload hx hb dX6_griefBehind_93 (lv_at hl 0 rfl) ?_
            refine lv_iadd hx hb dX6_griefBehind_95 ?_
            obtain ⟨r96, hc, h⟩ := bd1_some h
            refine my_roi (va_Run.run (va_runS (As := [.int (x1 + x3)]) (rest := []) hFix (kX6_kept20 l D T F (x1 + x3) r96 hc) (va_cwS 1 hts gX6_griefBehind_X6_kept20 rfl rfl rfl hd_X6_kept20 ⟨Nat.le_of_ble_eq_true rfl, Nat.le_of_ble_eq_true rfl⟩) (preS_ro hP hKK) rfl rfl hl.1 rfl (lv_room (Nat.le_of_ble_eq_true rfl)) dX6_griefBehind_96 ⟨Nat.zero_le _, Nat.zero_le _⟩)) ?_
            cases h
            exact hret _ _ dX6_griefBehind_99
          · have h := br_1 h c73
            refine lv_iload hx hb dX6_griefBehind_76 (lv_at hl 0 rfl) ?_
            refine lv_if_le (tgt := 88) hx hb dX6_griefBehind_78 (by decide) (fun c78 => ?_) (fun c78 => ?_)
            · have h := br_1 h c78
              refine lv_iload hx hb dX6_griefBehind_88 (lv_at hl 0 rfl) ?_
              exact n90 x3 x1 h _ (lv_sub hl [2] rfl)
            · have h := br_0 h c78
              refine lv_iconst (v := (2 : Int32)) hx hb dX6_griefBehind_81 (by decide) ?_
              refine lv_iload hx hb dX6_griefBehind_82 (lv_at hl 0 rfl) ?_
              refine lv_imul hx hb dX6_griefBehind_84 ?_
              refine lv_goto (tgt := 90) hx hb dX6_griefBehind_85 (by decide) ?_
              exact n90 ((2 : Int32) * x3) x1 h _ (lv_sub hl [2] rfl)
        · have h := br_0 h c51
          refine lv_iload hx hb dX6_griefBehind_54 (lv_at hl 0 rfl) ?_
          refine lv_iconst (v := (1 : Int32)) hx hb dX6_griefBehind_56 (by decide) ?_
          refine lv_icmp_le (tgt := 64) hx hb dX6_griefBehind_57 (by decide) (fun c57 => ?_) (fun c57 => ?_)
          · have h := br_1 h c57
            refine lv_iload hx hb dX6_griefBehind_64 (lv_at hl 0 rfl) ?_
            exact n66 x3 x1 h _ (lv_sub hl [2] rfl)
          · have h := br_0 h c57
            refine lv_iconst (v := (1 : Int32)) hx hb dX6_griefBehind_60 (by decide) ?_
            refine lv_goto (tgt := 66) hx hb dX6_griefBehind_61 (by decide) ?_
            exact n66 (1 : Int32) x1 h _ (lv_sub hl [2] rfl)
      · have h := br_0 h c20
        refine lv_iload hx hb dX6_griefBehind_23 (lv_at hl 0 rfl) ?_
        refine lv_iload_n hx hb dX6_griefBehind_25 rfl (lv_at hl 3 rfl) ?_
        refine lv_iconst (v := (1 : Int32)) hx hb dX6_griefBehind_26 (by decide) ?_
        refine lv_icmp_eq (tgt := 35) hx hb dX6_griefBehind_27 (by decide) (fun c27 => ?_) (fun c27 => ?_)
        · have h := br_1 h c27
          refine lv_iconst (v := (1 : Int32)) hx hb dX6_griefBehind_35 (by decide) ?_
          refine lv_goto (tgt := 40) hx hb dX6_griefBehind_36 (by decide) ?_
          exact n40 x3 (1 : Int32) x1 h _ (lv_sub hl [2] rfl)
        · have h := br_0 h c27
          refine lv_iload_n hx hb dX6_griefBehind_30 rfl (lv_at hl 3 rfl) ?_
          refine lv_iconst (v := (2 : Int32)) hx hb dX6_griefBehind_31 (by decide) ?_
          refine lv_icmp_ne (tgt := 39) hx hb dX6_griefBehind_32 (by decide) (fun c32 => ?_) (fun c32 => ?_)
          · have h := br_0 h c32
            refine lv_iconst (v := (0 : Int32)) hx hb dX6_griefBehind_39 (by decide) ?_
            exact n40 x3 (0 : Int32) x1 h _ (lv_sub hl [2] rfl)
          · have h := br_1 h c32
            refine lv_iconst (v := (1 : Int32)) hx hb dX6_griefBehind_35 (by decide) ?_
            refine lv_goto (tgt := 40) hx hb dX6_griefBehind_36 (by decide) ?_
            exact n40 x3 (1 : Int32) x1 h _ (lv_sub hl [2] rfl)
    unfold fX6_griefBehind at h
    refine lv_iload_n hx hb dX6_griefBehind_0 rfl (lv_at hl 0 rfl) ?_
    refine lv_iconst (v := (4 : Int32)) hx hb dX6_griefBehind_1 (by decide) ?_
    refine lv_icmp_ne (tgt := 12) hx hb dX6_griefBehind_2 (by decide) (fun c2 => ?_) (fun c2 => ?_)
    · have h := br_0 h c2
      exact n12 x0 x1 x2 x3 h _ (lv_sub hl [0, 1, 2, 3] rfl)
    · have h := br_1 h c2
      refine lv_iload_n hx hb dX6_griefBehind_5 rfl (lv_at hl 2 rfl) ?_
      refine lv_iconst (v := (1 : Int32)) hx hb dX6_griefBehind_6 (by decide) ?_
      refine lv_icmp_ne (tgt := 12) hx hb dX6_griefBehind_7 (by decide) (fun c7 => ?_) (fun c7 => ?_)
      · have h := br_0 h c7
        exact n12 x0 x1 x2 x3 h _ (lv_sub hl [0, 1, 2, 3] rfl)
      · have h := br_1 h c7
        refine lv_iconst (v := (0 : Int32)) hx hb dX6_griefBehind_10 (by decide) ?_
        cases h
        exact hret _ _ dX6_griefBehind_11
  exact key _ (fun pc ls hd => W.iret hx hb hr (fun t ht hW => ⟨_, rfl, rfl, ht⟩) (fun q h => by cases h) hd)
set_option maxHeartbeats 4000000 in
set_option maxRecDepth 100000 in
theorem kX6_named (l : Launch) (D : va_G) (T : Nat → ClassId) (F : Nat) (x0 : Int32) (x1 : Int32) (r : Int32) (h : fX6_named F x0 x1 = some (r)) : Met l yX6_named wsX6_named ({ frames := 1, cells := 0, slots := 0, locals := 21 } : Room) (va_Pc [.int x0, .int x1] (fun U => va_P D vwCl ([] : va_W) U.heap ∧ KK D T U)) (vp_Si (fun r' => r' = r)) 0 0 (fun _ => False) := by
  refine Met.ofW (cc := cX6_named) (maxL := 2) (ret := some .int) (by decide) rfl ?_
  intro p e s m args below meth c s₁ B hml hv
  obtain ⟨ha, hP, hKK⟩ := hv
  have hx := B.exec
  have hb := B.bytes
  have hr := B.returns
  have hts := atoms_spec (ws := wsX6_named) B.pre
  have hown : s.vm.findClass RX6 = some m.cls := findClass_of_methodNamed B.named
  have hlocks := B.notSynchronized
  have hK := hKK.1
  have hFix : CallFix p m c cX6_named 2 s args wsX6_named RX6 := ⟨hx, hb, hml, hown, hts⟩
  obtain ⟨ls, hl, e0⟩ := my_entry (m := m) (n := 2) ha (Nat.le_of_ble_eq_true rfl)
  rw [e0]
  have hl : lv_has ls 2 [(0, .int x0), (1, .int x1)] := hl
  have key : ∀ Q : State → Prop, (∀ (pc : Nat) (ls : Array Slot), decode cX6_named pc = .ok (.ireturn, 1) → W p l e ({ frames := 1, cells := 0, slots := 0, locals := 21 } : Room) s m args below meth c s.heap [] 0 0 Q (F0 m pc ls [.int r])) → W p l e ({ frames := 1, cells := 0, slots := 0, locals := 21 } : Room) s m args below meth c s.heap [] 0 0 Q (F0 m 0 ls []) := by
    intro Q hret
    unfold fX6_named at h
    refine lv_iload_n hx hb dX6_named_0 rfl (lv_at hl 1 rfl) ?_
    refine lv_iload_n hx hb dX6_named_1 rfl (lv_at hl 0 rfl) ?_
    refine lv_iconst (v := (2 : Int32)) hx hb dX6_named_2 (by decide) ?_
    obtain ⟨r3, hc, h⟩ := bd1_some h
    refine my_roz (va_Run.run (va_runS (As := [.int x0, .int (2 : Int32)]) (rest := [.int x1]) hFix (kX6_isOf l D T F x0 (2 : Int32) r3 hc) (va_cwS 2 hts gX6_named_X6_isOf rfl rfl rfl hd_X6_isOf ⟨Nat.le_of_ble_eq_true rfl, Nat.le_of_ble_eq_true rfl⟩) (preS_ro hP hKK) rfl rfl hl.1 rfl (lv_room (Nat.le_of_ble_eq_true rfl)) dX6_named_3 ⟨Nat.zero_le _, Nat.zero_le _⟩)) (fun hb3 => ?_)
    refine lv_if_eq (tgt := 13) hx hb dX6_named_6 (by decide) (fun c6 => ?_) (fun c6 => ?_)
    · have h := br_1 h c6
      refine lv_iload_n hx hb dX6_named_13 rfl (lv_at hl 0 rfl) ?_
      refine lv_iconst (v := (3 : Int32)) hx hb dX6_named_14 (by decide) ?_
      refine lv_icmp_ne (tgt := 22) hx hb dX6_named_15 (by decide) (fun c15 => ?_) (fun c15 => ?_)
      · have h := br_0 h c15
        refine lv_iconst (v := (2 : Int32)) hx hb dX6_named_22 (by decide) ?_
        refine lv_iadd hx hb dX6_named_23 ?_
        obtain ⟨r24, hc, h⟩ := bd1_some h
        refine my_roi (va_Run.run (va_runS (As := [.int (x1 + (2 : Int32))]) (rest := []) hFix (kX6_kept20 l D T F (x1 + (2 : Int32)) r24 hc) (va_cwS 1 hts gX6_named_X6_kept20 rfl rfl rfl hd_X6_kept20 ⟨Nat.le_of_ble_eq_true rfl, Nat.le_of_ble_eq_true rfl⟩) (preS_ro hP hKK) rfl rfl hl.1 rfl (lv_room (Nat.le_of_ble_eq_true rfl)) dX6_named_24 ⟨Nat.zero_le _, Nat.zero_le _⟩)) ?_
        cases h
        exact hret _ _ dX6_named_27
      · have h := br_1 h c15
        refine lv_iconst (v := (4 : Int32)) hx hb dX6_named_18 (by decide) ?_
        refine lv_goto (tgt := 23) hx hb dX6_named_19 (by decide) ?_
        refine lv_iadd hx hb dX6_named_23 ?_
        obtain ⟨r24, hc, h⟩ := bd1_some h
        refine my_roi (va_Run.run (va_runS (As := [.int (x1 + (4 : Int32))]) (rest := []) hFix (kX6_kept20 l D T F (x1 + (4 : Int32)) r24 hc) (va_cwS 1 hts gX6_named_X6_kept20 rfl rfl rfl hd_X6_kept20 ⟨Nat.le_of_ble_eq_true rfl, Nat.le_of_ble_eq_true rfl⟩) (preS_ro hP hKK) rfl rfl hl.1 rfl (lv_room (Nat.le_of_ble_eq_true rfl)) dX6_named_24 ⟨Nat.zero_le _, Nat.zero_le _⟩)) ?_
        cases h
        exact hret _ _ dX6_named_27
    · have h := br_0 h c6
      refine lv_iconst (v := (1 : Int32)) hx hb dX6_named_9 (by decide) ?_
      refine lv_goto (tgt := 23) hx hb dX6_named_10 (by decide) ?_
      refine lv_iadd hx hb dX6_named_23 ?_
      obtain ⟨r24, hc, h⟩ := bd1_some h
      refine my_roi (va_Run.run (va_runS (As := [.int (x1 + (1 : Int32))]) (rest := []) hFix (kX6_kept20 l D T F (x1 + (1 : Int32)) r24 hc) (va_cwS 1 hts gX6_named_X6_kept20 rfl rfl rfl hd_X6_kept20 ⟨Nat.le_of_ble_eq_true rfl, Nat.le_of_ble_eq_true rfl⟩) (preS_ro hP hKK) rfl rfl hl.1 rfl (lv_room (Nat.le_of_ble_eq_true rfl)) dX6_named_24 ⟨Nat.zero_le _, Nat.zero_le _⟩)) ?_
      cases h
      exact hret _ _ dX6_named_27
  exact key _ (fun pc ls hd => W.iret hx hb hr (fun t ht hW => ⟨_, rfl, rfl, ht⟩) (fun q h => by cases h) hd)
set_option maxHeartbeats 4000000 in
set_option maxRecDepth 100000 in
theorem kX6_isSeen (l : Launch) (D : va_G) (T : Nat → ClassId) (F : Nat) (am : Nat → Nat) (mguests : Int32) (mclause : Int32) (mdeeds : Int32) (masked : Int32) (mupper : Int64) (mlower : Int64) (mfinding : Int32) (mreadGuests : Int32) (misSight : Int32) (mat : Int32) (msees : Nat → Int32) (x1 : Int32) (x2 : Int32) (r : Int32) (h : fX6_isSeen F mguests msees x1 x2 = some (r)) : Met l yX6_isSeen wsX6_isSeen ({ frames := 1, cells := 0, slots := 0, locals := 21 } : Room) (va_Pc [.ref (am 0), .int x1, .int x2] (fun U => va_P D vwCl (wMs T am mguests mclause mdeeds masked mupper mlower mfinding mreadGuests misSight mat msees) U.heap ∧ KK D T U)) (vp_Si (fun r' => r' = r ∧ b01 r)) 0 0 (fun _ => False) := by
  refine Met.ofW (cc := cX6_isSeen) (maxL := 5) (ret := some .boolean) (by decide) rfl ?_
  intro p e s m args below meth c s₁ B hml hv
  obtain ⟨ha, hP, hKK⟩ := hv
  have hx := B.exec
  have hb := B.bytes
  have hr := B.returns
  have hts := atoms_spec (ws := wsX6_isSeen) B.pre
  have hown : s.vm.findClass RX6 = some m.cls := findClass_of_methodNamed B.named
  have hlocks := B.notSynchronized
  have hK := hKK.1
  have hFix : CallFix p m c cX6_isSeen 5 s args wsX6_isSeen RX6 := ⟨hx, hb, hml, hown, hts⟩
  have q1 := hts _ (List.mem_of_getElem? (i := 1) (show wsX6_isSeen[1]? = some (Cond.fieldLink RX6 131 "PartyWillModel" "guests" "I") from rfl))
  have q2 := hts _ (List.mem_of_getElem? (i := 2) (show wsX6_isSeen[2]? = some (Cond.fieldLink RX6 28 "PartyWillModel" "sees" "[I") from rfl))
  have iX6 : ∀ w ∈ u_ws RX6 TX6 27, w ∈ wsX6_isSeen := fun w h => List.mem_cons_of_mem _ (List.mem_append_right _ (h))
  obtain ⟨ls, hl, e0⟩ := my_entry (m := m) (n := 5) ha (Nat.le_of_ble_eq_true rfl)
  rw [e0]
  have hl : lv_has ls 5 [(0, .ref (am 0)), (1, .int x1), (2, .int x2)] := hl
  have key : ∀ Q : State → Prop, (∀ (pc : Nat) (ls : Array Slot), decode cX6_isSeen pc = .ok (.ireturn, 1) → b01 r → W p l e ({ frames := 1, cells := 0, slots := 0, locals := 21 } : Room) s m args below meth c s.heap [] 0 0 Q (F0 m pc ls [.int r])) → W p l e ({ frames := 1, cells := 0, slots := 0, locals := 21 } : Room) s m args below meth c s.heap [] 0 0 Q (F0 m 0 ls []) := by
    intro Q hret
    have l5 : ∀ x1 : Int32, ∀ x2 : Int32, ∀ nu : Nat, ∀ x3 : Int32, ∀ x4 : Int32, fX6_isSeen_l5 F mguests msees x1 x2 nu x3 x4 = some (r) → b01 x3 → ∀ (ls : Array Slot), lv_has ls 5 [(0, .ref (am 0)), (1, .int x1), (2, .int x2), (3, .int x3), (4, .int x4)] → W p l e ({ frames := 1, cells := 0, slots := 0, locals := 21 } : Room) s m args below meth c s.heap [] 0 0 Q (F0 m 5 ls []) := by
      intro x1 x2
      intro nu
      induction nu with
      | zero => intro x3 x4 h; exact none_some h
      | succ nu5 ih5 =>
        intro x3 x4 h hbx3 ls hl
        have h : fX6_isSeen_l5_b F mguests msees x1 x2 (fX6_isSeen_l5 F mguests msees x1 x2 nu5) x3 x4 = some (r) := h
        unfold fX6_isSeen_l5_b at h
        refine lv_iload hx hb dX6_isSeen_5 (lv_at hl 4 rfl) ?_
        refine lv_aload_n hx hb dX6_isSeen_7 rfl (lv_at hl 0 rfl) ?_
        refine va_get (D := D) (ci := 4) (C := RX6) (T := TX6) (N := 27) hx hb hts iX6 hown hK hP 0 wMs_0 rfl 4 (by decide) q1 (fun _ h9 => h9) rfl dX6_isSeen_8 ?_
        refine lv_icmp_ge (tgt := 53) hx hb dX6_isSeen_11 (by decide) (fun c11 => ?_) (fun c11 => ?_)
        · have h := br_1 h c11
          refine lv_iload_n hx hb dX6_isSeen_53 rfl (lv_at hl 3 rfl) ?_
          cases h
          exact hret _ _ dX6_isSeen_54 hbx3
        · have h := br_0 h c11
          refine lv_iload_n hx hb dX6_isSeen_14 rfl (lv_at hl 3 rfl) ?_
          refine lv_if_ne (tgt := 41) hx hb dX6_isSeen_15 (by decide) (fun c15 => ?_) (fun c15 => ?_)
          · have h := br_0 h c15
            refine lv_iconst (v := (1 : Int32)) hx hb dX6_isSeen_41 (by decide) ?_
            refine lv_goto (tgt := 46) hx hb dX6_isSeen_42 (by decide) ?_
            refine lv_istore_n (lv' := [(3, .int (1 : Int32)), (0, .ref (am 0)), (1, .int x1), (2, .int x2), (4, .int x4)]) hx hb dX6_isSeen_46 rfl hl (by decide) rfl (fun ls hl => ?_)
            refine lv_iinc (v := (x4 + (1 : Int32))) (lv' := [(4, .int (x4 + (1 : Int32))), (3, .int (1 : Int32)), (0, .ref (am 0)), (1, .int x1), (2, .int x2)]) hx hb dX6_isSeen_47 hl (k := 4) rfl rfl (by decide) rfl (fun ls hl => ?_)
            refine lv_goto (tgt := 5) hx hb dX6_isSeen_50 (by decide) ?_
            exact ih5 (1 : Int32) (x4 + (1 : Int32)) h (Or.inr rfl) _ (lv_sub hl [2, 3, 4, 1, 0] rfl)
          · have h := br_1 h c15
            refine lv_iload_n hx hb dX6_isSeen_18 rfl (lv_at hl 2 rfl) ?_
            refine lv_iload hx hb dX6_isSeen_19 (lv_at hl 4 rfl) ?_
            obtain ⟨r21, hc, h⟩ := bd1_some h
            refine my_roz (va_Run.run (va_runS (As := [.int x2, .int x4]) (rest := []) hFix (kX6_has l D T F x2 x4 r21 hc) (va_cwS 2 hts gX6_isSeen_X6_has rfl rfl rfl hd_X6_has ⟨Nat.le_of_ble_eq_true rfl, Nat.le_of_ble_eq_true rfl⟩) (preS_ro va_nil hKK) rfl rfl hl.1 rfl (lv_room (Nat.le_of_ble_eq_true rfl)) dX6_isSeen_21 ⟨Nat.zero_le _, Nat.zero_le _⟩)) (fun hb21 => ?_)
            refine lv_if_eq (tgt := 45) hx hb dX6_isSeen_24 (by decide) (fun c24 => ?_) (fun c24 => ?_)
            · have h := br_1 h c24
              refine lv_iconst (v := (0 : Int32)) hx hb dX6_isSeen_45 (by decide) ?_
              refine lv_istore_n (lv' := [(3, .int (0 : Int32)), (0, .ref (am 0)), (1, .int x1), (2, .int x2), (4, .int x4)]) hx hb dX6_isSeen_46 rfl hl (by decide) rfl (fun ls hl => ?_)
              refine lv_iinc (v := (x4 + (1 : Int32))) (lv' := [(4, .int (x4 + (1 : Int32))), (3, .int (0 : Int32)), (0, .ref (am 0)), (1, .int x1), (2, .int x2)]) hx hb dX6_isSeen_47 hl (k := 4) rfl rfl (by decide) rfl (fun ls hl => ?_)
              refine lv_goto (tgt := 5) hx hb dX6_isSeen_50 (by decide) ?_
              exact ih5 (0 : Int32) (x4 + (1 : Int32)) h (Or.inl rfl) _ (lv_sub hl [2, 3, 4, 1, 0] rfl)
            · have h := br_0 h c24
              refine lv_aload_n hx hb dX6_isSeen_27 rfl (lv_at hl 0 rfl) ?_
              refine va_get (D := D) (ci := 4) (C := RX6) (T := TX6) (N := 27) hx hb hts iX6 hown hK hP 0 wMs_0 rfl 8 (by decide) q2 (fun _ h9 => h9) rfl dX6_isSeen_28 ?_
              refine lv_iload hx hb dX6_isSeen_31 (lv_at hl 4 rfl) ?_
              obtain ⟨hin1, h⟩ := ck_some h
              refine va_iald hx hb hK hP 1 0 wMs_1 rfl hin1 dX6_isSeen_33 ?_
              refine lv_iload_n hx hb dX6_isSeen_34 rfl (lv_at hl 1 rfl) ?_
              obtain ⟨r35, hc, h⟩ := bd1_some h
              refine my_roz (va_Run.run (va_runS (As := [.int (msees x4.toNatClampNeg), .int x1]) (rest := []) hFix (kX6_has l D T F (msees x4.toNatClampNeg) x1 r35 hc) (va_cwS 2 hts gX6_isSeen_X6_has rfl rfl rfl hd_X6_has ⟨Nat.le_of_ble_eq_true rfl, Nat.le_of_ble_eq_true rfl⟩) (preS_ro va_nil hKK) rfl rfl hl.1 rfl (lv_room (Nat.le_of_ble_eq_true rfl)) dX6_isSeen_35 ⟨Nat.zero_le _, Nat.zero_le _⟩)) (fun hb35 => ?_)
              refine lv_if_eq (tgt := 45) hx hb dX6_isSeen_38 (by decide) (fun c38 => ?_) (fun c38 => ?_)
              · have h := br_1 h c38
                refine lv_iconst (v := (0 : Int32)) hx hb dX6_isSeen_45 (by decide) ?_
                refine lv_istore_n (lv' := [(3, .int (0 : Int32)), (0, .ref (am 0)), (1, .int x1), (2, .int x2), (4, .int x4)]) hx hb dX6_isSeen_46 rfl hl (by decide) rfl (fun ls hl => ?_)
                refine lv_iinc (v := (x4 + (1 : Int32))) (lv' := [(4, .int (x4 + (1 : Int32))), (3, .int (0 : Int32)), (0, .ref (am 0)), (1, .int x1), (2, .int x2)]) hx hb dX6_isSeen_47 hl (k := 4) rfl rfl (by decide) rfl (fun ls hl => ?_)
                refine lv_goto (tgt := 5) hx hb dX6_isSeen_50 (by decide) ?_
                exact ih5 (0 : Int32) (x4 + (1 : Int32)) h (Or.inl rfl) _ (lv_sub hl [2, 3, 4, 1, 0] rfl)
              · have h := br_0 h c38
                refine lv_iconst (v := (1 : Int32)) hx hb dX6_isSeen_41 (by decide) ?_
                refine lv_goto (tgt := 46) hx hb dX6_isSeen_42 (by decide) ?_
                refine lv_istore_n (lv' := [(3, .int (1 : Int32)), (0, .ref (am 0)), (1, .int x1), (2, .int x2), (4, .int x4)]) hx hb dX6_isSeen_46 rfl hl (by decide) rfl (fun ls hl => ?_)
                refine lv_iinc (v := (x4 + (1 : Int32))) (lv' := [(4, .int (x4 + (1 : Int32))), (3, .int (1 : Int32)), (0, .ref (am 0)), (1, .int x1), (2, .int x2)]) hx hb dX6_isSeen_47 hl (k := 4) rfl rfl (by decide) rfl (fun ls hl => ?_)
                refine lv_goto (tgt := 5) hx hb dX6_isSeen_50 (by decide) ?_
                exact ih5 (1 : Int32) (x4 + (1 : Int32)) h (Or.inr rfl) _ (lv_sub hl [2, 3, 4, 1, 0] rfl)
    unfold fX6_isSeen at h
    refine lv_iconst (v := (0 : Int32)) hx hb dX6_isSeen_0 (by decide) ?_
    refine lv_istore_n (lv' := [(3, .int (0 : Int32)), (0, .ref (am 0)), (1, .int x1), (2, .int x2)]) hx hb dX6_isSeen_1 rfl hl (by decide) rfl (fun ls hl => ?_)
    refine lv_iconst (v := (0 : Int32)) hx hb dX6_isSeen_2 (by decide) ?_
    refine lv_istore (lv' := [(4, .int (0 : Int32)), (3, .int (0 : Int32)), (0, .ref (am 0)), (1, .int x1), (2, .int x2)]) hx hb dX6_isSeen_3 hl (by decide) rfl (fun ls hl => ?_)
    exact l5 x1 x2 F (0 : Int32) (0 : Int32) h (Or.inl rfl) _ (lv_sub hl [2, 3, 4, 1, 0] rfl)
  exact key _ (fun pc ls hd hb1 => W.zret hx hb hr (b01_n hb1) (fun t ht hW => ⟨_, rfl, ⟨rfl, hb1⟩, ht⟩) (fun q h => by cases h) hd)
set_option maxHeartbeats 4000000 in
set_option maxRecDepth 100000 in
theorem kX6_looks (l : Launch) (D : va_G) (T : Nat → ClassId) (F : Nat) (am : Nat → Nat) (b0 : Nat) (mguests : Int32) (mclause : Int32) (mdeeds : Int32) (masked : Int32) (mupper : Int64) (mlower : Int64) (mfinding : Int32) (mreadGuests : Int32) (misSight : Int32) (mat : Int32) (mkinds : Nat → Int32) (msees : Nat → Int32) (tt : Nat → Int32) (r : Int32) (ztt : Nat → Int32) (h : fX6_looks F mguests mclause mkinds msees tt = some (r, ztt)) : ∀ sz : Nat, Met l yX6_looks wsX6_looks ({ frames := 2, cells := 0, slots := 0, locals := 45 } : Room) (va_Pc [.ref (am 0), .ref b0] (fun U => U.heap.size = sz ∧ va_P D vwCl (wMl T am b0 mguests mclause mdeeds masked mupper mlower mfinding mreadGuests misSight mat mkinds msees tt) U.heap ∧ KK D T U ∧ va_D (fun _ => True) (wMl T am b0 mguests mclause mdeeds masked mupper mlower mfinding mreadGuests misSight mat mkinds msees tt))) (va_Qi (fun r' (_ : Unit) => r' = r) (fun _ t => va_P D vwCl (wMl T am b0 mguests mclause mdeeds masked mupper mlower mfinding mreadGuests misSight mat mkinds msees ztt) t.heap ∧ va_D (va_A (wMl T am b0 mguests mclause mdeeds masked mupper mlower mfinding mreadGuests misSight mat mkinds msees tt) sz) (wMl T am b0 mguests mclause mdeeds masked mupper mlower mfinding mreadGuests misSight mat mkinds msees ztt)) (va_A (wMl T am b0 mguests mclause mdeeds masked mupper mlower mfinding mreadGuests misSight mat mkinds msees tt) sz)) 0 0 (va_A (wMl T am b0 mguests mclause mdeeds masked mupper mlower mfinding mreadGuests misSight mat mkinds msees tt) sz) := by
  intro sz
  refine Met.ofW (cc := cX6_looks) (maxL := 6) (ret := some .int) (by decide) rfl ?_
  intro p e s m args below meth c s₁ B hml hv
  obtain ⟨ha, hsz, hP, hKK, hD0⟩ := hv
  have hx := B.exec
  have hb := B.bytes
  have hr := B.returns
  have hts := atoms_spec (ws := wsX6_looks) B.pre
  have hown : s.vm.findClass RX6 = some m.cls := findClass_of_methodNamed B.named
  have hlocks := B.notSynchronized
  have hK := hKK.1
  have hFix : CallFix p m c cX6_looks 6 s args wsX6_looks RX6 := ⟨hx, hb, hml, hown, hts⟩
  have q1 := hts _ (List.mem_of_getElem? (i := 1) (show wsX6_looks[1]? = some (Cond.fieldLink RX6 131 "PartyWillModel" "guests" "I") from rfl))
  have q2 := hts _ (List.mem_of_getElem? (i := 2) (show wsX6_looks[2]? = some (Cond.fieldLink RX6 134 "PartyWillModel" "clause" "I") from rfl))
  have q3 := hts _ (List.mem_of_getElem? (i := 3) (show wsX6_looks[3]? = some (Cond.fieldLink RX6 25 "PartyWillModel" "kinds" "[I") from rfl))
  have iX6 : ∀ w ∈ u_ws RX6 TX6 27, w ∈ wsX6_looks := fun w h => List.mem_cons_of_mem _ (List.mem_append_right _ (h))
  subst hsz
  have hD := hD0.self (sz := s.heap.size)
  generalize hAe : va_A (wMl T am b0 mguests mclause mdeeds masked mupper mlower mfinding mreadGuests misSight mat mkinds msees tt) s.heap.size = A at hD ⊢
  have hA : ∀ q : Nat, s.heap.size ≤ q → A q := fun q h => by rw [← hAe]; exact Or.inr h
  have hS : va_S A s.heap s.heap [] := va_S.rf
  have hP : va_P D vwCl (wMl T am b0 mguests mclause mdeeds masked mupper mlower mfinding mreadGuests misSight mat mkinds msees tt) s.heap := hP
  obtain ⟨ls, hl, e0⟩ := my_entry (m := m) (n := 6) ha (Nat.le_of_ble_eq_true rfl)
  rw [e0]
  have hl : lv_has ls 6 [(0, .ref (am 0)), (1, .ref b0)] := hl
  have key : ∀ Q : State → Prop, (∀ (H : Heap) (locs : List Loc) (pc : Nat) (ls : Array Slot), va_P D vwCl (wMl T am b0 mguests mclause mdeeds masked mupper mlower mfinding mreadGuests misSight mat mkinds msees ztt) H → va_D A (wMl T am b0 mguests mclause mdeeds masked mupper mlower mfinding mreadGuests misSight mat mkinds msees ztt) → va_S A s.heap H locs → decode cX6_looks pc = .ok (.ireturn, 1) → W p l e ({ frames := 2, cells := 0, slots := 0, locals := 45 } : Room) s m args below meth c H locs 0 0 Q (F0 m pc ls [.int r])) → W p l e ({ frames := 2, cells := 0, slots := 0, locals := 45 } : Room) s m args below meth c s.heap [] 0 0 Q (F0 m 0 ls []) := by
    intro Q hret
    skip
    have l93 : ∀ x3 : Int32, ∀ nu : Nat, ∀ x4 : Int32, ∀ tt : Nat → Int32, fX6_looks_l93 F mguests mclause mkinds msees x3 nu x4 tt = some (r, ztt) → ∀ (H : Heap) (locs : List Loc), va_P D vwCl (wMl T am b0 mguests mclause mdeeds masked mupper mlower mfinding mreadGuests misSight mat mkinds msees tt) H → va_D A (wMl T am b0 mguests mclause mdeeds masked mupper mlower mfinding mreadGuests misSight mat mkinds msees tt) → va_S A s.heap H locs → ∀ (ls : Array Slot), lv_has ls 6 [(0, .ref (am 0)), (1, .ref b0), (3, .int x3), (4, .int x4)] → W p l e ({ frames := 2, cells := 0, slots := 0, locals := 45 } : Room) s m args below meth c H locs 0 0 Q (F0 m 93 ls []) := by
      intro x3
      intro nu
      induction nu with
      | zero => intro x4 tt h; exact none_some h
      | succ nu93 ih93 =>
        intro x4 tt h H locs hP hD hS ls hl
        have h : fX6_looks_l93_b F mguests mclause mkinds msees x3 (fX6_looks_l93 F mguests mclause mkinds msees x3 nu93) x4 tt = some (r, ztt) := h
        unfold fX6_looks_l93_b at h
        refine lv_iload hx hb dX6_looks_93 (lv_at hl 3 rfl) ?_
        refine lv_aload_n hx hb dX6_looks_95 rfl (lv_at hl 0 rfl) ?_
        refine va_get (D := D) (ci := 4) (C := RX6) (T := TX6) (N := 27) hx hb hts iX6 hown hK hP 0 wMl_0 rfl 4 (by decide) q1 (fun _ h9 => h9) rfl dX6_looks_96 ?_
        refine lv_icmp_ge (tgt := 129) hx hb dX6_looks_99 (by decide) (fun c99 => ?_) (fun c99 => ?_)
        · have h := br_1 h c99
          refine lv_aload_n hx hb dX6_looks_129 rfl (lv_at hl 1 rfl) ?_
          refine lv_bipush (v := (6 : Int32)) hx hb dX6_looks_130 (by decide) ?_
          refine lv_dup2_11 hx hb dX6_looks_132 rfl rfl ?_
          refine va_iald hx hb hK hP 3 0 wMl_3 rfl (show ¬ ((6 : Int32) < 0 ∨ 7 ≤ (6 : Int32).toNatClampNeg) by decide) dX6_looks_133 ?_
          refine lv_iload_n hx hb dX6_looks_134 rfl (lv_at hl 2 rfl) ?_
          refine lv_ior hx hb dX6_looks_135 ?_
          refine va_iast hx hb hK hP hD hS 3 0 wMl_3 rfl (show ¬ ((6 : Int32) < 0 ∨ 7 ≤ (6 : Int32).toNatClampNeg) by decide) dX6_looks_136 (fun H locs hP hD hS => ?_)
          have hP : va_P D vwCl (wMl T am b0 mguests mclause mdeeds masked mupper mlower mfinding mreadGuests misSight mat mkinds msees (upd tt (6 : Int32).toNatClampNeg ((tt (6 : Int32).toNatClampNeg) ||| x3))) H := hP
          have hD : va_D A (wMl T am b0 mguests mclause mdeeds masked mupper mlower mfinding mreadGuests misSight mat mkinds msees (upd tt (6 : Int32).toNatClampNeg ((tt (6 : Int32).toNatClampNeg) ||| x3))) := hD
          refine lv_iload_n hx hb dX6_looks_137 rfl (lv_at hl 2 rfl) ?_
          cases h
          exact hret _ _ _ _ hP hD hS dX6_looks_138
        · have h := br_0 h c99
          refine lv_aload_n hx hb dX6_looks_102 rfl (lv_at hl 1 rfl) ?_
          refine lv_iload hx hb dX6_looks_103 (lv_at hl 3 rfl) ?_
          refine lv_iload_n hx hb dX6_looks_105 rfl (lv_at hl 2 rfl) ?_
          refine lv_iload hx hb dX6_looks_106 (lv_at hl 3 rfl) ?_
          obtain ⟨r108, hc, h⟩ := bd1_some h
          refine my_roz (va_Run.run (va_runS (As := [.int x3, .int x4]) (rest := [.int x4, .ref b0]) hFix (kX6_has l D T F x3 x4 r108 hc) (va_cwS 2 hts gX6_looks_X6_has rfl rfl rfl hd_X6_has ⟨Nat.le_of_ble_eq_true rfl, Nat.le_of_ble_eq_true rfl⟩) (preS_ro va_nil hKK) rfl rfl hl.1 rfl (lv_room (Nat.le_of_ble_eq_true rfl)) dX6_looks_108 ⟨Nat.zero_le _, Nat.zero_le _⟩)) (fun hb108 => ?_)
          refine lv_if_eq (tgt := 118) hx hb dX6_looks_111 (by decide) (fun c111 => ?_) (fun c111 => ?_)
          · have h := br_1 h c111
            refine lv_aload_n hx hb dX6_looks_118 rfl (lv_at hl 1 rfl) ?_
            refine lv_iload hx hb dX6_looks_119 (lv_at hl 3 rfl) ?_
            obtain ⟨hin1, h⟩ := ck_some h
            refine va_iald hx hb hK hP 3 0 wMl_3 rfl hin1 dX6_looks_121 ?_
            obtain ⟨hin2, h⟩ := ck_some h
            refine va_iast hx hb hK hP hD hS 3 0 wMl_3 rfl hin2 dX6_looks_122 (fun H locs hP hD hS => ?_)
            have hP : va_P D vwCl (wMl T am b0 mguests mclause mdeeds masked mupper mlower mfinding mreadGuests misSight mat mkinds msees (upd tt x4.toNatClampNeg (tt x4.toNatClampNeg))) H := hP
            have hD : va_D A (wMl T am b0 mguests mclause mdeeds masked mupper mlower mfinding mreadGuests misSight mat mkinds msees (upd tt x4.toNatClampNeg (tt x4.toNatClampNeg))) := hD
            refine lv_iinc (v := (x4 + (1 : Int32))) (lv' := [(4, .int (x4 + (1 : Int32))), (0, .ref (am 0)), (1, .ref b0), (3, .int x3)]) hx hb dX6_looks_123 hl (k := 3) rfl rfl (by decide) rfl (fun ls hl => ?_)
            refine lv_goto (tgt := 93) hx hb dX6_looks_126 (by decide) ?_
            exact ih93 (x4 + (1 : Int32)) (upd tt x4.toNatClampNeg (tt x4.toNatClampNeg)) h _ _ hP hD hS _ (lv_sub hl [1, 2, 3, 0] rfl)
          · have h := br_0 h c111
            refine lv_iconst (v := (0 : Int32)) hx hb dX6_looks_114 (by decide) ?_
            refine lv_goto (tgt := 122) hx hb dX6_looks_115 (by decide) ?_
            obtain ⟨hin3, h⟩ := ck_some h
            refine va_iast hx hb hK hP hD hS 3 0 wMl_3 rfl hin3 dX6_looks_122 (fun H locs hP hD hS => ?_)
            have hP : va_P D vwCl (wMl T am b0 mguests mclause mdeeds masked mupper mlower mfinding mreadGuests misSight mat mkinds msees (upd tt x4.toNatClampNeg (0 : Int32))) H := hP
            have hD : va_D A (wMl T am b0 mguests mclause mdeeds masked mupper mlower mfinding mreadGuests misSight mat mkinds msees (upd tt x4.toNatClampNeg (0 : Int32))) := hD
            refine lv_iinc (v := (x4 + (1 : Int32))) (lv' := [(4, .int (x4 + (1 : Int32))), (0, .ref (am 0)), (1, .ref b0), (3, .int x3)]) hx hb dX6_looks_123 hl (k := 3) rfl rfl (by decide) rfl (fun ls hl => ?_)
            refine lv_goto (tgt := 93) hx hb dX6_looks_126 (by decide) ?_
            exact ih93 (x4 + (1 : Int32)) (upd tt x4.toNatClampNeg (0 : Int32)) h _ _ hP hD hS _ (lv_sub hl [1, 2, 3, 0] rfl)
    have l11 : ∀ x2 : Int32, ∀ tt : Nat → Int32, ∀ nu : Nat, ∀ x3 : Int32, ∀ x4 : Int32, fX6_looks_l11 F mguests mclause mkinds msees x2 tt nu x3 x4 = some (r, ztt) → ∀ (H : Heap) (locs : List Loc), va_P D vwCl (wMl T am b0 mguests mclause mdeeds masked mupper mlower mfinding mreadGuests misSight mat mkinds msees tt) H → va_D A (wMl T am b0 mguests mclause mdeeds masked mupper mlower mfinding mreadGuests misSight mat mkinds msees tt) → va_S A s.heap H locs → ∀ (ls : Array Slot), lv_has ls 6 [(0, .ref (am 0)), (1, .ref b0), (2, .int x2), (3, .int x3), (4, .int x4)] → W p l e ({ frames := 2, cells := 0, slots := 0, locals := 45 } : Room) s m args below meth c H locs 0 0 Q (F0 m 11 ls []) := by
      intro x2 tt
      intro nu
      induction nu with
      | zero => intro x3 x4 h; exact none_some h
      | succ nu11 ih11 =>
        intro x3 x4 h H locs hP hD hS ls hl
        have n66 : ∀ s_0 : Int32, ∀ x2 : Int32, ∀ x3 : Int32, ∀ x4 : Int32, ∀ tt : Nat → Int32, fX6_looks_n66 F (fX6_looks_l11 F mguests mclause mkinds msees x2 tt nu11) mguests mclause mkinds msees s_0 x2 x3 x4 tt = some (r, ztt) → ∀ (H : Heap) (locs : List Loc), va_P D vwCl (wMl T am b0 mguests mclause mdeeds masked mupper mlower mfinding mreadGuests misSight mat mkinds msees tt) H → va_D A (wMl T am b0 mguests mclause mdeeds masked mupper mlower mfinding mreadGuests misSight mat mkinds msees tt) → va_S A s.heap H locs → ∀ (ls : Array Slot), lv_has ls 6 [(0, .ref (am 0)), (1, .ref b0), (2, .int x2), (3, .int x3), (4, .int x4)] → W p l e ({ frames := 2, cells := 0, slots := 0, locals := 45 } : Room) s m args below meth c H locs 0 0 Q (F0 m 66 ls [.int s_0]) := by
          intro s_0 x2 x3 x4 tt h H locs hP hD hS ls hl
          unfold fX6_looks_n66 at h
          refine lv_istore (lv' := [(5, .int s_0), (0, .ref (am 0)), (1, .ref b0), (2, .int x2), (3, .int x3), (4, .int x4)]) hx hb dX6_looks_66 hl (by decide) rfl (fun ls hl => ?_)
          refine lv_iload_n hx hb dX6_looks_68 rfl (lv_at hl 4 rfl) ?_
          refine lv_iload hx hb dX6_looks_69 (lv_at hl 0 rfl) ?_
          refine lv_if_eq (tgt := 81) hx hb dX6_looks_71 (by decide) (fun c71 => ?_) (fun c71 => ?_)
          · have h := br_1 h c71
            refine lv_iconst (v := (0 : Int32)) hx hb dX6_looks_81 (by decide) ?_
            refine lv_ior hx hb dX6_looks_82 ?_
            refine lv_istore_n (lv' := [(3, .int (x3 ||| (0 : Int32))), (5, .int s_0), (0, .ref (am 0)), (1, .ref b0), (2, .int x2), (4, .int x4)]) hx hb dX6_looks_83 rfl hl (by decide) rfl (fun ls hl => ?_)
            refine lv_iinc (v := (x4 + (1 : Int32))) (lv' := [(4, .int (x4 + (1 : Int32))), (3, .int (x3 ||| (0 : Int32))), (5, .int s_0), (0, .ref (am 0)), (1, .ref b0), (2, .int x2)]) hx hb dX6_looks_84 hl (k := 5) rfl rfl (by decide) rfl (fun ls hl => ?_)
            refine lv_goto (tgt := 11) hx hb dX6_looks_87 (by decide) ?_
            exact ih11 (x3 ||| (0 : Int32)) (x4 + (1 : Int32)) h _ _ hP hD hS _ (lv_sub hl [3, 4, 5, 1, 0] rfl)
          · have h := br_0 h c71
            refine lv_iconst (v := (1 : Int32)) hx hb dX6_looks_74 (by decide) ?_
            refine lv_iload hx hb dX6_looks_75 (lv_at hl 5 rfl) ?_
            refine lv_ishl hx hb dX6_looks_77 ?_
            refine lv_goto (tgt := 82) hx hb dX6_looks_78 (by decide) ?_
            refine lv_ior hx hb dX6_looks_82 ?_
            refine lv_istore_n (lv' := [(3, .int (x3 ||| ((1 : Int32) <<< (x4 &&& 31)))), (5, .int s_0), (0, .ref (am 0)), (1, .ref b0), (2, .int x2), (4, .int x4)]) hx hb dX6_looks_83 rfl hl (by decide) rfl (fun ls hl => ?_)
            refine lv_iinc (v := (x4 + (1 : Int32))) (lv' := [(4, .int (x4 + (1 : Int32))), (3, .int (x3 ||| ((1 : Int32) <<< (x4 &&& 31)))), (5, .int s_0), (0, .ref (am 0)), (1, .ref b0), (2, .int x2)]) hx hb dX6_looks_84 hl (k := 5) rfl rfl (by decide) rfl (fun ls hl => ?_)
            refine lv_goto (tgt := 11) hx hb dX6_looks_87 (by decide) ?_
            exact ih11 (x3 ||| ((1 : Int32) <<< (x4 &&& 31))) (x4 + (1 : Int32)) h _ _ hP hD hS _ (lv_sub hl [3, 4, 5, 1, 0] rfl)
        have h : fX6_looks_l11_b F mguests mclause mkinds msees x2 tt (fX6_looks_l11 F mguests mclause mkinds msees x2 tt nu11) x3 x4 = some (r, ztt) := h
        unfold fX6_looks_l11_b at h
        refine lv_iload hx hb dX6_looks_11 (lv_at hl 4 rfl) ?_
        refine lv_aload_n hx hb dX6_looks_13 rfl (lv_at hl 0 rfl) ?_
        refine va_get (D := D) (ci := 4) (C := RX6) (T := TX6) (N := 27) hx hb hts iX6 hown hK hP 0 wMl_0 rfl 4 (by decide) q1 (fun _ h9 => h9) rfl dX6_looks_14 ?_
        refine lv_icmp_ge (tgt := 90) hx hb dX6_looks_17 (by decide) (fun c17 => ?_) (fun c17 => ?_)
        · have h := br_1 h c17
          refine lv_iconst (v := (0 : Int32)) hx hb dX6_looks_90 (by decide) ?_
          refine lv_istore (lv' := [(4, .int (0 : Int32)), (0, .ref (am 0)), (1, .ref b0), (2, .int x2), (3, .int x3)]) hx hb dX6_looks_91 hl (by decide) rfl (fun ls hl => ?_)
          exact l93 x3 F (0 : Int32) tt h _ _ hP hD hS _ (lv_sub hl [1, 2, 4, 0] rfl)
        · have h := br_0 h c17
          refine lv_iload_n hx hb dX6_looks_20 rfl (lv_at hl 2 rfl) ?_
          refine lv_iload hx hb dX6_looks_21 (lv_at hl 4 rfl) ?_
          obtain ⟨r23, hc, h⟩ := bd1_some h
          refine my_roz (va_Run.run (va_runS (As := [.int x2, .int x4]) (rest := []) hFix (kX6_has l D T F x2 x4 r23 hc) (va_cwS 2 hts gX6_looks_X6_has rfl rfl rfl hd_X6_has ⟨Nat.le_of_ble_eq_true rfl, Nat.le_of_ble_eq_true rfl⟩) (preS_ro va_nil hKK) rfl rfl hl.1 rfl (lv_room (Nat.le_of_ble_eq_true rfl)) dX6_looks_23 ⟨Nat.zero_le _, Nat.zero_le _⟩)) (fun hb23 => ?_)
          refine lv_if_eq (tgt := 65) hx hb dX6_looks_26 (by decide) (fun c26 => ?_) (fun c26 => ?_)
          · have h := br_1 h c26
            refine lv_iconst (v := (0 : Int32)) hx hb dX6_looks_65 (by decide) ?_
            exact n66 (0 : Int32) x2 x3 x4 tt h _ _ hP hD hS _ (lv_sub hl [0, 1, 2, 3, 4] rfl)
          · have h := br_0 h c26
            refine lv_aload_n hx hb dX6_looks_29 rfl (lv_at hl 1 rfl) ?_
            refine lv_iload hx hb dX6_looks_30 (lv_at hl 4 rfl) ?_
            obtain ⟨hin4, h⟩ := ck_some h
            refine va_iald hx hb hK hP 3 0 wMl_3 rfl hin4 dX6_looks_32 ?_
            refine lv_aload_n hx hb dX6_looks_33 rfl (lv_at hl 0 rfl) ?_
            refine va_get (D := D) (ci := 4) (C := RX6) (T := TX6) (N := 27) hx hb hts iX6 hown hK hP 0 wMl_0 rfl 5 (by decide) q2 (fun _ h9 => h9) rfl dX6_looks_34 ?_
            refine lv_icmp_le (tgt := 65) hx hb dX6_looks_37 (by decide) (fun c37 => ?_) (fun c37 => ?_)
            · have h := br_1 h c37
              refine lv_iconst (v := (0 : Int32)) hx hb dX6_looks_65 (by decide) ?_
              exact n66 (0 : Int32) x2 x3 x4 tt h _ _ hP hD hS _ (lv_sub hl [0, 1, 2, 3, 4] rfl)
            · have h := br_0 h c37
              refine lv_aload_n hx hb dX6_looks_40 rfl (lv_at hl 0 rfl) ?_
              refine va_get (D := D) (ci := 4) (C := RX6) (T := TX6) (N := 27) hx hb hts iX6 hown hK hP 0 wMl_0 rfl 7 (by decide) q3 (fun _ h9 => h9) rfl dX6_looks_41 ?_
              refine lv_iload hx hb dX6_looks_44 (lv_at hl 4 rfl) ?_
              obtain ⟨hin5, h⟩ := ck_some h
              refine va_iald hx hb hK hP 1 0 wMl_1 rfl hin5 dX6_looks_46 ?_
              refine lv_iconst (v := (5 : Int32)) hx hb dX6_looks_47 (by decide) ?_
              refine lv_icmp_eq (tgt := 65) hx hb dX6_looks_48 (by decide) (fun c48 => ?_) (fun c48 => ?_)
              · have h := br_1 h c48
                refine lv_iconst (v := (0 : Int32)) hx hb dX6_looks_65 (by decide) ?_
                exact n66 (0 : Int32) x2 x3 x4 tt h _ _ hP hD hS _ (lv_sub hl [0, 1, 2, 3, 4] rfl)
              · have h := br_0 h c48
                refine lv_aload_n hx hb dX6_looks_51 rfl (lv_at hl 0 rfl) ?_
                refine lv_iload hx hb dX6_looks_52 (lv_at hl 4 rfl) ?_
                refine lv_iload_n hx hb dX6_looks_54 rfl (lv_at hl 2 rfl) ?_
                obtain ⟨r55, hc, h⟩ := bd1_some h
                have hPc : va_P D vwCl (wMs T am mguests mclause mdeeds masked mupper mlower mfinding mreadGuests misSight mat msees) H := my_subP sb_wMl_wMs_0_2 hP
                refine my_roz (va_Run.run (va_runV (As := [.int x4, .int x2]) (rest := []) hFix (kX6_isSeen l D T F am mguests mclause mdeeds masked mupper mlower mfinding mreadGuests misSight mat msees x4 x2 r55 hc) (cwV 2 hts gX6_looks_X6_isSeen rfl rfl rfl ⟨rfl, hd_X6_isSeen⟩ ⟨Nat.le_of_ble_eq_true rfl, Nat.le_of_ble_eq_true rfl⟩) (preV_ro hPc hKK (va_recv hK hP (ci := 4) (q0 := 0) rfl wMl_0)) rfl rfl hl.1 rfl (lv_room (Nat.le_of_ble_eq_true rfl)) dX6_looks_55 ⟨Nat.zero_le _, Nat.zero_le _⟩)) (fun hb55 => ?_)
                refine lv_if_eq (tgt := 65) hx hb dX6_looks_58 (by decide) (fun c58 => ?_) (fun c58 => ?_)
                · have h := br_1 h c58
                  refine lv_iconst (v := (0 : Int32)) hx hb dX6_looks_65 (by decide) ?_
                  exact n66 (0 : Int32) x2 x3 x4 tt h _ _ hP hD hS _ (lv_sub hl [0, 1, 2, 3, 4] rfl)
                · have h := br_0 h c58
                  refine lv_iconst (v := (1 : Int32)) hx hb dX6_looks_61 (by decide) ?_
                  refine lv_goto (tgt := 66) hx hb dX6_looks_62 (by decide) ?_
                  exact n66 (1 : Int32) x2 x3 x4 tt h _ _ hP hD hS _ (lv_sub hl [0, 1, 2, 3, 4] rfl)
    unfold fX6_looks at h
    refine lv_aload_n hx hb dX6_looks_0 rfl (lv_at hl 0 rfl) ?_
    refine lv_aload_n hx hb dX6_looks_1 rfl (lv_at hl 1 rfl) ?_
    obtain ⟨r2, hc, h⟩ := bd1_some h
    have hPc : va_P D vwCl (wMi T am b0 mguests mclause mdeeds masked mupper mlower mfinding mreadGuests misSight mat tt) H := my_subP sb_wMl_wMi_0_3 hP
    refine my_roi (va_Run.run (va_runV (As := [.ref b0]) (rest := []) hFix (kX6_inside l D T F am b0 mguests mclause mdeeds masked mupper mlower mfinding mreadGuests misSight mat tt r2 hc) (cwV 1 hts gX6_looks_X6_inside rfl rfl rfl ⟨rfl, hd_X6_inside⟩ ⟨Nat.le_of_ble_eq_true rfl, Nat.le_of_ble_eq_true rfl⟩) (preV_ro hPc hKK (va_recv hK hP (ci := 4) (q0 := 0) rfl wMl_0)) rfl rfl hl.1 rfl (lv_room (Nat.le_of_ble_eq_true rfl)) dX6_looks_2 ⟨Nat.zero_le _, Nat.zero_le _⟩)) ?_
    refine lv_istore_n (lv' := [(2, .int r2), (0, .ref (am 0)), (1, .ref b0)]) hx hb dX6_looks_5 rfl hl (by decide) rfl (fun ls hl => ?_)
    refine lv_iconst (v := (0 : Int32)) hx hb dX6_looks_6 (by decide) ?_
    refine lv_istore_n (lv' := [(3, .int (0 : Int32)), (2, .int r2), (0, .ref (am 0)), (1, .ref b0)]) hx hb dX6_looks_7 rfl hl (by decide) rfl (fun ls hl => ?_)
    refine lv_iconst (v := (0 : Int32)) hx hb dX6_looks_8 (by decide) ?_
    refine lv_istore (lv' := [(4, .int (0 : Int32)), (3, .int (0 : Int32)), (2, .int r2), (0, .ref (am 0)), (1, .ref b0)]) hx hb dX6_looks_9 hl (by decide) rfl (fun ls hl => ?_)
    exact l11 r2 tt F (0 : Int32) (0 : Int32) h _ _ hP hD hS _ (lv_sub hl [3, 4, 2, 1, 0] rfl)
  exact key _ (fun H locs pc ls hP hD hS hd => W.iret hx hb hr (fun t ht hW => ⟨⟨_, (), rfl, rfl, by show _ ∧ _; rw [ht]; exact ⟨hP, hD⟩⟩, hS.F ht⟩) hS.2.2 hd)
set_option maxHeartbeats 4000000 in
set_option maxRecDepth 100000 in
theorem kX6_plays (l : Launch) (D : va_G) (T : Nat → ClassId) (F : Nat) (am : Nat → Nat) (b0 : Nat) (mguests : Int32) (mclause : Int32) (mdeeds : Int32) (masked : Int32) (mupper : Int64) (mlower : Int64) (mfinding : Int32) (mreadGuests : Int32) (misSight : Int32) (mat : Int32) (mdoes : Nat → Int32) (mkinds : Nat → Int32) (msees : Nat → Int32) (tt : Nat → Int32) (x2 : Int32) (r : Int32) (ztt : Nat → Int32) (h : fX6_plays F mguests mclause mdoes mkinds msees tt x2 = some (r, ztt)) : ∀ sz : Nat, Met l yX6_plays wsX6_plays ({ frames := 3, cells := 0, slots := 0, locals := 70 } : Room) (va_Pc [.ref (am 0), .ref b0, .int x2] (fun U => U.heap.size = sz ∧ va_P D vwCl (wMp T am b0 mguests mclause mdeeds masked mupper mlower mfinding mreadGuests misSight mat mdoes mkinds msees tt) U.heap ∧ KK D T U ∧ va_D (fun _ => True) (wMp T am b0 mguests mclause mdeeds masked mupper mlower mfinding mreadGuests misSight mat mdoes mkinds msees tt))) (va_Qi (fun r' (_ : Unit) => r' = r) (fun _ t => va_P D vwCl (wMp T am b0 mguests mclause mdeeds masked mupper mlower mfinding mreadGuests misSight mat mdoes mkinds msees ztt) t.heap ∧ va_D (va_A (wMp T am b0 mguests mclause mdeeds masked mupper mlower mfinding mreadGuests misSight mat mdoes mkinds msees tt) sz) (wMp T am b0 mguests mclause mdeeds masked mupper mlower mfinding mreadGuests misSight mat mdoes mkinds msees ztt)) (va_A (wMp T am b0 mguests mclause mdeeds masked mupper mlower mfinding mreadGuests misSight mat mdoes mkinds msees tt) sz)) 0 0 (va_A (wMp T am b0 mguests mclause mdeeds masked mupper mlower mfinding mreadGuests misSight mat mdoes mkinds msees tt) sz) := by
  intro sz
  refine Met.ofW (cc := cX6_plays) (maxL := 4) (ret := some .int) (by decide) rfl ?_
  intro p e s m args below meth c s₁ B hml hv
  obtain ⟨ha, hsz, hP, hKK, hD0⟩ := hv
  have hx := B.exec
  have hb := B.bytes
  have hr := B.returns
  have hts := atoms_spec (ws := wsX6_plays) B.pre
  have hown : s.vm.findClass RX6 = some m.cls := findClass_of_methodNamed B.named
  have hlocks := B.notSynchronized
  have hK := hKK.1
  have hFix : CallFix p m c cX6_plays 4 s args wsX6_plays RX6 := ⟨hx, hb, hml, hown, hts⟩
  have q1 := hts _ (List.mem_of_getElem? (i := 1) (show wsX6_plays[1]? = some (Cond.fieldLink RX6 131 "PartyWillModel" "guests" "I") from rfl))
  have q2 := hts _ (List.mem_of_getElem? (i := 2) (show wsX6_plays[2]? = some (Cond.fieldLink RX6 25 "PartyWillModel" "kinds" "[I") from rfl))
  have q3 := hts _ (List.mem_of_getElem? (i := 3) (show wsX6_plays[3]? = some (Cond.fieldLink RX6 22 "PartyWillModel" "does" "[I") from rfl))
  have iX6 : ∀ w ∈ u_ws RX6 TX6 27, w ∈ wsX6_plays := fun w h => List.mem_cons_of_mem _ (List.mem_append_right _ (h))
  subst hsz
  have hD := hD0.self (sz := s.heap.size)
  generalize hAe : va_A (wMp T am b0 mguests mclause mdeeds masked mupper mlower mfinding mreadGuests misSight mat mdoes mkinds msees tt) s.heap.size = A at hD ⊢
  have hA : ∀ q : Nat, s.heap.size ≤ q → A q := fun q h => by rw [← hAe]; exact Or.inr h
  have hS : va_S A s.heap s.heap [] := va_S.rf
  have hP : va_P D vwCl (wMp T am b0 mguests mclause mdeeds masked mupper mlower mfinding mreadGuests misSight mat mdoes mkinds msees tt) s.heap := hP
  obtain ⟨ls, hl, e0⟩ := my_entry (m := m) (n := 4) ha (Nat.le_of_ble_eq_true rfl)
  rw [e0]
  have hl : lv_has ls 4 [(0, .ref (am 0)), (1, .ref b0), (2, .int x2)] := hl
  have key : ∀ Q : State → Prop, (∀ (H : Heap) (locs : List Loc) (pc : Nat) (ls : Array Slot), va_P D vwCl (wMp T am b0 mguests mclause mdeeds masked mupper mlower mfinding mreadGuests misSight mat mdoes mkinds msees ztt) H → va_D A (wMp T am b0 mguests mclause mdeeds masked mupper mlower mfinding mreadGuests misSight mat mdoes mkinds msees ztt) → va_S A s.heap H locs → decode cX6_plays pc = .ok (.ireturn, 1) → W p l e ({ frames := 3, cells := 0, slots := 0, locals := 70 } : Room) s m args below meth c H locs 0 0 Q (F0 m pc ls [.int r])) → W p l e ({ frames := 3, cells := 0, slots := 0, locals := 70 } : Room) s m args below meth c s.heap [] 0 0 Q (F0 m 0 ls []) := by
    intro Q hret
    skip
    have l2 : ∀ x2 : Int32, ∀ nu : Nat, ∀ x3 : Int32, ∀ tt : Nat → Int32, fX6_plays_l2 F mguests mclause mdoes mkinds msees x2 nu x3 tt = some (r, ztt) → ∀ (H : Heap) (locs : List Loc), va_P D vwCl (wMp T am b0 mguests mclause mdeeds masked mupper mlower mfinding mreadGuests misSight mat mdoes mkinds msees tt) H → va_D A (wMp T am b0 mguests mclause mdeeds masked mupper mlower mfinding mreadGuests misSight mat mdoes mkinds msees tt) → va_S A s.heap H locs → ∀ (ls : Array Slot), lv_has ls 4 [(0, .ref (am 0)), (1, .ref b0), (2, .int x2), (3, .int x3)] → W p l e ({ frames := 3, cells := 0, slots := 0, locals := 70 } : Room) s m args below meth c H locs 0 0 Q (F0 m 2 ls []) := by
      intro x2
      intro nu
      induction nu with
      | zero => intro x3 tt h; exact none_some h
      | succ nu2 ih2 =>
        intro x3 tt h H locs hP hD hS ls hl
        have h : fX6_plays_l2_b F mguests mclause mdoes mkinds msees x2 (fX6_plays_l2 F mguests mclause mdoes mkinds msees x2 nu2) x3 tt = some (r, ztt) := h
        unfold fX6_plays_l2_b at h
        refine lv_iload_n hx hb dX6_plays_2 rfl (lv_at hl 3 rfl) ?_
        refine lv_aload_n hx hb dX6_plays_3 rfl (lv_at hl 0 rfl) ?_
        refine va_get (D := D) (ci := 4) (C := RX6) (T := TX6) (N := 27) hx hb hts iX6 hown hK hP 0 wMp_0 rfl 4 (by decide) q1 (fun _ h9 => h9) rfl dX6_plays_4 ?_
        refine lv_icmp_ge (tgt := 53) hx hb dX6_plays_7 (by decide) (fun c7 => ?_) (fun c7 => ?_)
        · have h := br_1 h c7
          refine lv_aload_n hx hb dX6_plays_53 rfl (lv_at hl 0 rfl) ?_
          refine lv_aload_n hx hb dX6_plays_54 rfl (lv_at hl 1 rfl) ?_
          obtain ⟨r55, w55_tt, hc, h⟩ := bd2_some h
          have hPc : va_P D vwCl (wMl T am b0 mguests mclause mdeeds masked mupper mlower mfinding mreadGuests misSight mat mkinds msees tt) H := my_subP sb_wMp_wMl_0_2_3_4 hP
          have hDc := hD.sub [0, 2, 3, 4] (by decide) sb_wMp_wMl_0_2_3_4
          have hFc := va_free hD hS hA [0, 2, 3, 4] sb_wMp_wMl_0_2_3_4
          refine my_rwi (va_runV (As := [.ref b0]) (rest := []) hFix (kX6_looks l D T F am b0 mguests mclause mdeeds masked mupper mlower mfinding mreadGuests misSight mat mkinds msees tt r55 w55_tt hc) (cwV 1 hts gX6_plays_X6_looks rfl rfl rfl ⟨rfl, hd_X6_looks⟩ ⟨Nat.le_of_ble_eq_true rfl, Nat.le_of_ble_eq_true rfl⟩) (preV_rw hPc hKK hDc (va_recv hK hP (ci := 4) (q0 := 0) rfl wMp_0)) rfl rfl hl.1 rfl (lv_room (Nat.le_of_ble_eq_true rfl)) dX6_plays_55 ⟨Nat.zero_le _, Nat.zero_le _⟩) hS hFc (fun H1 locs hP1 hD1 hz1 hk1 hS => ?_)
          obtain ⟨hP, hD⟩ := my_joinS hP hD (by decide) sb_wMp_wMl_0_2_3_4 hk1 hFc hP1 hD1
          have hP : va_P D vwCl (wMp T am b0 mguests mclause mdeeds masked mupper mlower mfinding mreadGuests misSight mat mdoes mkinds msees w55_tt) H1 := st_wMp_wMl_0_2_3_4_looks ▸ hP
          have hD : va_D A (wMp T am b0 mguests mclause mdeeds masked mupper mlower mfinding mreadGuests misSight mat mdoes mkinds msees w55_tt) := st_wMp_wMl_0_2_3_4_looks ▸ hD
          generalize H1 = H at hP hS ⊢
          cases h
          exact hret _ _ _ _ hP hD hS dX6_plays_58
        · have h := br_0 h c7
          refine lv_aload_n hx hb dX6_plays_10 rfl (lv_at hl 1 rfl) ?_
          refine lv_iload_n hx hb dX6_plays_11 rfl (lv_at hl 3 rfl) ?_
          refine lv_aload_n hx hb dX6_plays_12 rfl (lv_at hl 1 rfl) ?_
          refine lv_bipush (v := (6 : Int32)) hx hb dX6_plays_13 (by decide) ?_
          refine va_iald hx hb hK hP 4 0 wMp_4 rfl (show ¬ ((6 : Int32) < 0 ∨ 7 ≤ (6 : Int32).toNatClampNeg) by decide) dX6_plays_15 ?_
          refine lv_iload_n hx hb dX6_plays_16 rfl (lv_at hl 3 rfl) ?_
          obtain ⟨r17, hc, h⟩ := bd1_some h
          refine my_roz (va_Run.run (va_runS (As := [.int (tt (6 : Int32).toNatClampNeg), .int x3]) (rest := [.int x3, .ref b0]) hFix (kX6_has l D T F (tt (6 : Int32).toNatClampNeg) x3 r17 hc) (va_cwS 2 hts gX6_plays_X6_has rfl rfl rfl hd_X6_has ⟨Nat.le_of_ble_eq_true rfl, Nat.le_of_ble_eq_true rfl⟩) (preS_ro va_nil hKK) rfl rfl hl.1 rfl (lv_room (Nat.le_of_ble_eq_true rfl)) dX6_plays_17 ⟨Nat.zero_le _, Nat.zero_le _⟩)) (fun hb17 => ?_)
          refine lv_if_eq (tgt := 27) hx hb dX6_plays_20 (by decide) (fun c20 => ?_) (fun c20 => ?_)
          · have h := br_1 h c20
            refine lv_aload_n hx hb dX6_plays_27 rfl (lv_at hl 0 rfl) ?_
            refine va_get (D := D) (ci := 4) (C := RX6) (T := TX6) (N := 27) hx hb hts iX6 hown hK hP 0 wMp_0 rfl 7 (by decide) q2 (fun _ h9 => h9) rfl dX6_plays_28 ?_
            refine lv_iload_n hx hb dX6_plays_31 rfl (lv_at hl 3 rfl) ?_
            obtain ⟨hin1, h⟩ := ck_some h
            refine va_iald hx hb hK hP 2 0 wMp_2 rfl hin1 dX6_plays_32 ?_
            refine lv_aload_n hx hb dX6_plays_33 rfl (lv_at hl 1 rfl) ?_
            refine lv_iload_n hx hb dX6_plays_34 rfl (lv_at hl 3 rfl) ?_
            obtain ⟨hin2, h⟩ := ck_some h
            refine va_iald hx hb hK hP 4 0 wMp_4 rfl hin2 dX6_plays_35 ?_
            refine lv_iload_n hx hb dX6_plays_36 rfl (lv_at hl 2 rfl) ?_
            refine lv_aload_n hx hb dX6_plays_37 rfl (lv_at hl 0 rfl) ?_
            refine va_get (D := D) (ci := 4) (C := RX6) (T := TX6) (N := 27) hx hb hts iX6 hown hK hP 0 wMp_0 rfl 6 (by decide) q3 (fun _ h9 => h9) rfl dX6_plays_38 ?_
            refine lv_iload_n hx hb dX6_plays_41 rfl (lv_at hl 2 rfl) ?_
            obtain ⟨hin3, h⟩ := ck_some h
            refine va_iald hx hb hK hP 1 0 wMp_1 rfl hin3 dX6_plays_42 ?_
            obtain ⟨r43, hc, h⟩ := bd1_some h
            refine my_roi (va_Run.run (va_runS (As := [.int (mkinds x3.toNatClampNeg), .int (tt x3.toNatClampNeg), .int x2, .int (mdoes x2.toNatClampNeg)]) (rest := [.int x3, .ref b0]) hFix (kX6_griefBehind l D T F (mkinds x3.toNatClampNeg) (tt x3.toNatClampNeg) x2 (mdoes x2.toNatClampNeg) r43 hc) (va_cwS 4 hts gX6_plays_X6_griefBehind rfl rfl rfl hd_X6_griefBehind ⟨Nat.le_of_ble_eq_true rfl, Nat.le_of_ble_eq_true rfl⟩) (preS_ro va_nil hKK) rfl rfl hl.1 rfl (lv_room (Nat.le_of_ble_eq_true rfl)) dX6_plays_43 ⟨Nat.zero_le _, Nat.zero_le _⟩)) ?_
            obtain ⟨hin4, h⟩ := ck_some h
            refine va_iast hx hb hK hP hD hS 4 0 wMp_4 rfl hin4 dX6_plays_46 (fun H locs hP hD hS => ?_)
            have hP : va_P D vwCl (wMp T am b0 mguests mclause mdeeds masked mupper mlower mfinding mreadGuests misSight mat mdoes mkinds msees (upd tt x3.toNatClampNeg r43)) H := hP
            have hD : va_D A (wMp T am b0 mguests mclause mdeeds masked mupper mlower mfinding mreadGuests misSight mat mdoes mkinds msees (upd tt x3.toNatClampNeg r43)) := hD
            refine lv_iinc (v := (x3 + (1 : Int32))) (lv' := [(3, .int (x3 + (1 : Int32))), (0, .ref (am 0)), (1, .ref b0), (2, .int x2)]) hx hb dX6_plays_47 hl (k := 3) rfl rfl (by decide) rfl (fun ls hl => ?_)
            refine lv_goto (tgt := 2) hx hb dX6_plays_50 (by decide) ?_
            exact ih2 (x3 + (1 : Int32)) (upd tt x3.toNatClampNeg r43) h _ _ hP hD hS _ (lv_sub hl [1, 2, 3, 0] rfl)
          · have h := br_0 h c20
            refine lv_iconst (v := (0 : Int32)) hx hb dX6_plays_23 (by decide) ?_
            refine lv_goto (tgt := 46) hx hb dX6_plays_24 (by decide) ?_
            obtain ⟨hin5, h⟩ := ck_some h
            refine va_iast hx hb hK hP hD hS 4 0 wMp_4 rfl hin5 dX6_plays_46 (fun H locs hP hD hS => ?_)
            have hP : va_P D vwCl (wMp T am b0 mguests mclause mdeeds masked mupper mlower mfinding mreadGuests misSight mat mdoes mkinds msees (upd tt x3.toNatClampNeg (0 : Int32))) H := hP
            have hD : va_D A (wMp T am b0 mguests mclause mdeeds masked mupper mlower mfinding mreadGuests misSight mat mdoes mkinds msees (upd tt x3.toNatClampNeg (0 : Int32))) := hD
            refine lv_iinc (v := (x3 + (1 : Int32))) (lv' := [(3, .int (x3 + (1 : Int32))), (0, .ref (am 0)), (1, .ref b0), (2, .int x2)]) hx hb dX6_plays_47 hl (k := 3) rfl rfl (by decide) rfl (fun ls hl => ?_)
            refine lv_goto (tgt := 2) hx hb dX6_plays_50 (by decide) ?_
            exact ih2 (x3 + (1 : Int32)) (upd tt x3.toNatClampNeg (0 : Int32)) h _ _ hP hD hS _ (lv_sub hl [1, 2, 3, 0] rfl)
    unfold fX6_plays at h
    refine lv_iconst (v := (0 : Int32)) hx hb dX6_plays_0 (by decide) ?_
    refine lv_istore_n (lv' := [(3, .int (0 : Int32)), (0, .ref (am 0)), (1, .ref b0), (2, .int x2)]) hx hb dX6_plays_1 rfl hl (by decide) rfl (fun ls hl => ?_)
    exact l2 x2 F (0 : Int32) tt h _ _ hP hD hS _ (lv_sub hl [1, 2, 3, 0] rfl)
  exact key _ (fun H locs pc ls hP hD hS hd => W.iret hx hb hr (fun t ht hW => ⟨⟨_, (), rfl, rfl, by show _ ∧ _; rw [ht]; exact ⟨hP, hD⟩⟩, hS.F ht⟩) hS.2.2 hd)
set_option maxHeartbeats 4000000 in
set_option maxRecDepth 100000 in
theorem kX6_sumOf (l : Launch) (D : va_G) (T : Nat → ClassId) (F : Nat) (a0 : Nat) (n1 : Nat) (f1 : Nat → Int32) (r : Int32) (h : fX6_sumOf F n1 f1 = some (r)) : Met l yX6_sumOf wsX6_sumOf ({ frames := 0, cells := 0, slots := 0, locals := 0 } : Room) (va_Pc [.ref a0] (fun U => va_P D vwCl (wA1 T a0 n1 f1) U.heap ∧ KK D T U)) (vp_Si (fun r' => r' = r)) 0 0 (fun _ => False) := by
  refine Met.ofW (cc := cX6_sumOf) (maxL := 3) (ret := some .int) (by decide) rfl ?_
  intro p e s m args below meth c s₁ B hml hv
  obtain ⟨ha, hP, hKK⟩ := hv
  have hx := B.exec
  have hb := B.bytes
  have hr := B.returns
  have hts := atoms_spec (ws := wsX6_sumOf) B.pre
  have hown : s.vm.findClass RX6 = some m.cls := findClass_of_methodNamed B.named
  have hlocks := B.notSynchronized
  have hK := hKK.1
  have hFix : CallFix p m c cX6_sumOf 3 s args wsX6_sumOf RX6 := ⟨hx, hb, hml, hown, hts⟩
  obtain ⟨ls, hl, e0⟩ := my_entry (m := m) (n := 3) ha (Nat.le_of_ble_eq_true rfl)
  rw [e0]
  have hl : lv_has ls 3 [(0, .ref a0)] := hl
  have key : ∀ Q : State → Prop, (∀ (pc : Nat) (ls : Array Slot), decode cX6_sumOf pc = .ok (.ireturn, 1) → W p l e ({ frames := 0, cells := 0, slots := 0, locals := 0 } : Room) s m args below meth c s.heap [] 0 0 Q (F0 m pc ls [.int r])) → W p l e ({ frames := 0, cells := 0, slots := 0, locals := 0 } : Room) s m args below meth c s.heap [] 0 0 Q (F0 m 0 ls []) := by
    intro Q hret
    have l4 : ∀ nu : Nat, ∀ x1 : Int32, ∀ x2 : Int32, fX6_sumOf_l4 F n1 f1 nu x1 x2 = some (r) → ∀ (ls : Array Slot), lv_has ls 3 [(0, .ref a0), (1, .int x1), (2, .int x2)] → W p l e ({ frames := 0, cells := 0, slots := 0, locals := 0 } : Room) s m args below meth c s.heap [] 0 0 Q (F0 m 4 ls []) := by
      intro nu
      induction nu with
      | zero => intro x1 x2 h; exact none_some h
      | succ nu4 ih4 =>
        intro x1 x2 h ls hl
        have h : fX6_sumOf_l4_b F n1 f1 (fX6_sumOf_l4 F n1 f1 nu4) x1 x2 = some (r) := h
        unfold fX6_sumOf_l4_b at h
        refine lv_iload_n hx hb dX6_sumOf_4 rfl (lv_at hl 2 rfl) ?_
        refine lv_bipush (v := (6 : Int32)) hx hb dX6_sumOf_5 (by decide) ?_
        refine lv_icmp_ge (tgt := 22) hx hb dX6_sumOf_7 (by decide) (fun c7 => ?_) (fun c7 => ?_)
        · have h := br_1 h c7
          refine lv_iload_n hx hb dX6_sumOf_22 rfl (lv_at hl 1 rfl) ?_
          cases h
          exact hret _ _ dX6_sumOf_23
        · have h := br_0 h c7
          refine lv_iload_n hx hb dX6_sumOf_10 rfl (lv_at hl 1 rfl) ?_
          refine lv_aload_n hx hb dX6_sumOf_11 rfl (lv_at hl 0 rfl) ?_
          refine lv_iload_n hx hb dX6_sumOf_12 rfl (lv_at hl 2 rfl) ?_
          obtain ⟨hin1, h⟩ := ck_some h
          refine va_iald hx hb hK hP 0 0 wA1_0 rfl hin1 dX6_sumOf_13 ?_
          refine lv_iadd hx hb dX6_sumOf_14 ?_
          refine lv_istore_n (lv' := [(1, .int (x1 + (f1 x2.toNatClampNeg))), (0, .ref a0), (2, .int x2)]) hx hb dX6_sumOf_15 rfl hl (by decide) rfl (fun ls hl => ?_)
          refine lv_iinc (v := (x2 + (1 : Int32))) (lv' := [(2, .int (x2 + (1 : Int32))), (1, .int (x1 + (f1 x2.toNatClampNeg))), (0, .ref a0)]) hx hb dX6_sumOf_16 hl (k := 2) rfl rfl (by decide) rfl (fun ls hl => ?_)
          refine lv_goto (tgt := 4) hx hb dX6_sumOf_19 (by decide) ?_
          exact ih4 (x1 + (f1 x2.toNatClampNeg)) (x2 + (1 : Int32)) h _ (lv_sub hl [2, 1, 0] rfl)
    unfold fX6_sumOf at h
    refine lv_iconst (v := (0 : Int32)) hx hb dX6_sumOf_0 (by decide) ?_
    refine lv_istore_n (lv' := [(1, .int (0 : Int32)), (0, .ref a0)]) hx hb dX6_sumOf_1 rfl hl (by decide) rfl (fun ls hl => ?_)
    refine lv_iconst (v := (0 : Int32)) hx hb dX6_sumOf_2 (by decide) ?_
    refine lv_istore_n (lv' := [(2, .int (0 : Int32)), (1, .int (0 : Int32)), (0, .ref a0)]) hx hb dX6_sumOf_3 rfl hl (by decide) rfl (fun ls hl => ?_)
    exact l4 F (0 : Int32) (0 : Int32) h _ (lv_sub hl [2, 1, 0] rfl)
  exact key _ (fun pc ls hd => W.iret hx hb hr (fun t ht hW => ⟨_, rfl, rfl, ht⟩) (fun q h => by cases h) hd)
set_option maxHeartbeats 4000000 in
set_option maxRecDepth 100000 in
theorem kX6_guestOf (l : Launch) (D : va_G) (T : Nat → ClassId) (F : Nat) (am : Nat → Nat) (mguests : Int32) (mclause : Int32) (mdeeds : Int32) (masked : Int32) (mupper : Int64) (mlower : Int64) (mfinding : Int32) (mreadGuests : Int32) (misSight : Int32) (mat : Int32) (mrowSizes : Nat → Int32) (mrows : Nat → Int32) (mtextSizes : Nat → Int32) (mtexts : Nat → Int32) (mdoes : Nat → Int32) (mkinds : Nat → Int32) (msees : Nat → Int32) (mnow : Nat → Int32) (mbefore : Nat → Int32) (mkeeps : Nat → Int32) (mkept : Nat → Int32) (mfindings : Nat → Int32) (mread : Nat → Int32) (maside : Nat → Int32) (msteps : Nat → Int32) (mtried : Nat → Int32) (mbest : Nat → Int32) (x1 : Int32) (x2 : Int32) (r : Int32) (h : fX6_guestOf F mguests mkinds msees mnow x1 x2 = some (r)) : Met l yX6_guestOf wsX6_guestOf ({ frames := 2, cells := 0, slots := 0, locals := 45 } : Room) (va_Pc [.ref (am 0), .int x1, .int x2] (fun U => va_P D vwCl (wMo T am mguests mclause mdeeds masked mupper mlower mfinding mreadGuests misSight mat mrowSizes mrows mtextSizes mtexts mdoes mkinds msees mnow mbefore mkeeps mkept mfindings mread maside msteps mtried mbest) U.heap ∧ KK D T U)) (vp_Si (fun r' => r' = r)) 0 0 (fun _ => False) := by
  refine Met.ofW (cc := cX6_guestOf) (maxL := 3) (ret := some .int) (by decide) rfl ?_
  intro p e s m args below meth c s₁ B hml hv
  obtain ⟨ha, hP, hKK⟩ := hv
  have hx := B.exec
  have hb := B.bytes
  have hr := B.returns
  have hts := atoms_spec (ws := wsX6_guestOf) B.pre
  have hown : s.vm.findClass RX6 = some m.cls := findClass_of_methodNamed B.named
  have hlocks := B.notSynchronized
  have hK := hKK.1
  have hFix : CallFix p m c cX6_guestOf 3 s args wsX6_guestOf RX6 := ⟨hx, hb, hml, hown, hts⟩
  have q1 := hts _ (List.mem_of_getElem? (i := 1) (show wsX6_guestOf[1]? = some (Cond.fieldLink RX6 25 "PartyWillModel" "kinds" "[I") from rfl))
  have q2 := hts _ (List.mem_of_getElem? (i := 2) (show wsX6_guestOf[2]? = some (Cond.fieldLink RX6 31 "PartyWillModel" "now" "[I") from rfl))
  have q3 := hts _ (List.mem_of_getElem? (i := 3) (show wsX6_guestOf[3]? = some (Cond.fieldLink RX6 28 "PartyWillModel" "sees" "[I") from rfl))
  have iX6 : ∀ w ∈ u_ws RX6 TX6 27, w ∈ wsX6_guestOf := fun w h => List.mem_cons_of_mem _ (List.mem_append_right _ (h))
  obtain ⟨ls, hl, e0⟩ := my_entry (m := m) (n := 3) ha (Nat.le_of_ble_eq_true rfl)
  rw [e0]
  have hl : lv_has ls 3 [(0, .ref (am 0)), (1, .int x1), (2, .int x2)] := hl
  have key : ∀ Q : State → Prop, (∀ (pc : Nat) (ls : Array Slot), decode cX6_guestOf pc = .ok (.ireturn, 1) → W p l e ({ frames := 2, cells := 0, slots := 0, locals := 45 } : Room) s m args below meth c s.heap [] 0 0 Q (F0 m pc ls [.int r])) → W p l e ({ frames := 2, cells := 0, slots := 0, locals := 45 } : Room) s m args below meth c s.heap [] 0 0 Q (F0 m 0 ls []) := by
    intro Q hret
    unfold fX6_guestOf at h
    refine lv_iload_n hx hb dX6_guestOf_0 rfl (lv_at hl 2 rfl) ?_
    by_cases z1_0 : x2 = (0 : Int32)
    · have h := br_1 h z1_0
      refine lv_tableIn (tgt := 32) (off := 31) hx hb dX6_guestOf_1 (by rw [z1_0]; decide) (by rw [z1_0]; decide) (by rw [z1_0]; decide) (by decide) ?_
      refine lv_aload_n hx hb dX6_guestOf_32 rfl (lv_at hl 0 rfl) ?_
      refine va_get (D := D) (ci := 4) (C := RX6) (T := TX6) (N := 27) hx hb hts iX6 hown hK hP 0 wMo_0 rfl 7 (by decide) q1 (fun _ h9 => h9) rfl dX6_guestOf_33 ?_
      refine lv_iload_n hx hb dX6_guestOf_36 rfl (lv_at hl 1 rfl) ?_
      obtain ⟨hin1, h⟩ := ck_some h
      refine va_iald hx hb hK hP 6 0 wMo_6 rfl hin1 dX6_guestOf_37 ?_
      cases h
      exact hret _ _ dX6_guestOf_38
    have h := br_0 h z1_0
    by_cases z1_1 : x2 = (1 : Int32)
    · have h := br_1 h z1_1
      refine lv_tableIn (tgt := 39) (off := 38) hx hb dX6_guestOf_1 (by rw [z1_1]; decide) (by rw [z1_1]; decide) (by rw [z1_1]; decide) (by decide) ?_
      refine lv_aload_n hx hb dX6_guestOf_39 rfl (lv_at hl 0 rfl) ?_
      refine va_get (D := D) (ci := 4) (C := RX6) (T := TX6) (N := 27) hx hb hts iX6 hown hK hP 0 wMo_0 rfl 9 (by decide) q2 (fun _ h9 => h9) rfl dX6_guestOf_40 ?_
      refine lv_iload_n hx hb dX6_guestOf_43 rfl (lv_at hl 1 rfl) ?_
      obtain ⟨hin2, h⟩ := ck_some h
      refine va_iald hx hb hK hP 8 0 wMo_8 rfl hin2 dX6_guestOf_44 ?_
      cases h
      exact hret _ _ dX6_guestOf_45
    have h := br_0 h z1_1
    by_cases z1_2 : x2 = (2 : Int32)
    · have h := br_1 h z1_2
      refine lv_tableIn (tgt := 46) (off := 45) hx hb dX6_guestOf_1 (by rw [z1_2]; decide) (by rw [z1_2]; decide) (by rw [z1_2]; decide) (by decide) ?_
      refine lv_aload_n hx hb dX6_guestOf_46 rfl (lv_at hl 0 rfl) ?_
      refine va_get (D := D) (ci := 4) (C := RX6) (T := TX6) (N := 27) hx hb hts iX6 hown hK hP 0 wMo_0 rfl 9 (by decide) q2 (fun _ h9 => h9) rfl dX6_guestOf_47 ?_
      refine lv_bipush (v := (6 : Int32)) hx hb dX6_guestOf_50 (by decide) ?_
      refine va_iald hx hb hK hP 8 0 wMo_8 rfl (show ¬ ((6 : Int32) < 0 ∨ 7 ≤ (6 : Int32).toNatClampNeg) by decide) dX6_guestOf_52 ?_
      refine lv_iload_n hx hb dX6_guestOf_53 rfl (lv_at hl 1 rfl) ?_
      obtain ⟨r54, hc, h⟩ := bd1_some h
      refine my_roz (va_Run.run (va_runS (As := [.int (mnow (6 : Int32).toNatClampNeg), .int x1]) (rest := []) hFix (kX6_has l D T F (mnow (6 : Int32).toNatClampNeg) x1 r54 hc) (va_cwS 2 hts gX6_guestOf_X6_has rfl rfl rfl hd_X6_has ⟨Nat.le_of_ble_eq_true rfl, Nat.le_of_ble_eq_true rfl⟩) (preS_ro va_nil hKK) rfl rfl hl.1 rfl (lv_room (Nat.le_of_ble_eq_true rfl)) dX6_guestOf_54 ⟨Nat.zero_le _, Nat.zero_le _⟩)) (fun hb54 => ?_)
      refine lv_if_eq (tgt := 64) hx hb dX6_guestOf_57 (by decide) (fun c57 => ?_) (fun c57 => ?_)
      · have h := br_1 h c57
        refine lv_iconst (v := (0 : Int32)) hx hb dX6_guestOf_64 (by decide) ?_
        cases h
        exact hret _ _ dX6_guestOf_65
      · have h := br_0 h c57
        refine lv_iconst (v := (1 : Int32)) hx hb dX6_guestOf_60 (by decide) ?_
        refine lv_goto (tgt := 65) hx hb dX6_guestOf_61 (by decide) ?_
        cases h
        exact hret _ _ dX6_guestOf_65
    have h := br_0 h z1_2
    by_cases z1_3 : x2 = (3 : Int32)
    · have h := br_1 h z1_3
      refine lv_tableIn (tgt := 66) (off := 65) hx hb dX6_guestOf_1 (by rw [z1_3]; decide) (by rw [z1_3]; decide) (by rw [z1_3]; decide) (by decide) ?_
      refine lv_aload_n hx hb dX6_guestOf_66 rfl (lv_at hl 0 rfl) ?_
      refine va_get (D := D) (ci := 4) (C := RX6) (T := TX6) (N := 27) hx hb hts iX6 hown hK hP 0 wMo_0 rfl 8 (by decide) q3 (fun _ h9 => h9) rfl dX6_guestOf_67 ?_
      refine lv_iload_n hx hb dX6_guestOf_70 rfl (lv_at hl 1 rfl) ?_
      obtain ⟨hin3, h⟩ := ck_some h
      refine va_iald hx hb hK hP 7 0 wMo_7 rfl hin3 dX6_guestOf_71 ?_
      cases h
      exact hret _ _ dX6_guestOf_72
    have h := br_0 h z1_3
    have e1_0 : x2.toInt ≠ 0 := fun e => z1_0 (Int32.toInt_inj.mp e)
    have e1_1 : x2.toInt ≠ 1 := fun e => z1_1 (Int32.toInt_inj.mp e)
    have e1_2 : x2.toInt ≠ 2 := fun e => z1_2 (Int32.toInt_inj.mp e)
    have e1_3 : x2.toInt ≠ 3 := fun e => z1_3 (Int32.toInt_inj.mp e)
    refine lv_tableOut (tgt := 73) hx hb dX6_guestOf_1 (by omega) (by decide) ?_
    refine lv_aload_n hx hb dX6_guestOf_73 rfl (lv_at hl 0 rfl) ?_
    refine lv_iload_n hx hb dX6_guestOf_74 rfl (lv_at hl 1 rfl) ?_
    refine lv_aload_n hx hb dX6_guestOf_75 rfl (lv_at hl 0 rfl) ?_
    refine lv_aload_n hx hb dX6_guestOf_76 rfl (lv_at hl 0 rfl) ?_
    refine va_get (D := D) (ci := 4) (C := RX6) (T := TX6) (N := 27) hx hb hts iX6 hown hK hP 0 wMo_0 rfl 9 (by decide) q2 (fun _ h9 => h9) rfl dX6_guestOf_77 ?_
    obtain ⟨r80, hc, h⟩ := bd1_some h
    have hPc : va_P D vwCl (wMi T am (am 8) mguests mclause mdeeds masked mupper mlower mfinding mreadGuests misSight mat mnow) s.heap := my_subP sb_wMo_wMi_0_8 hP
    refine my_roi (va_Run.run (va_runV (As := [.ref (am 8)]) (rest := [.int x1, .ref (am 0)]) hFix (kX6_inside l D T F am (am 8) mguests mclause mdeeds masked mupper mlower mfinding mreadGuests misSight mat mnow r80 hc) (cwV 1 hts gX6_guestOf_X6_inside rfl rfl rfl ⟨rfl, hd_X6_inside⟩ ⟨Nat.le_of_ble_eq_true rfl, Nat.le_of_ble_eq_true rfl⟩) (preV_ro hPc hKK (va_recv hK hP (ci := 4) (q0 := 0) rfl wMo_0)) rfl rfl hl.1 rfl (lv_room (Nat.le_of_ble_eq_true rfl)) dX6_guestOf_80 ⟨Nat.zero_le _, Nat.zero_le _⟩)) ?_
    obtain ⟨r83, hc, h⟩ := bd1_some h
    have hPc : va_P D vwCl (wMs T am mguests mclause mdeeds masked mupper mlower mfinding mreadGuests misSight mat msees) s.heap := my_subP sb_wMo_wMs_0_7 hP
    refine my_roz (va_Run.run (va_runV (As := [.int x1, .int r80]) (rest := []) hFix (kX6_isSeen l D T F am mguests mclause mdeeds masked mupper mlower mfinding mreadGuests misSight mat msees x1 r80 r83 hc) (cwV 2 hts gX6_guestOf_X6_isSeen rfl rfl rfl ⟨rfl, hd_X6_isSeen⟩ ⟨Nat.le_of_ble_eq_true rfl, Nat.le_of_ble_eq_true rfl⟩) (preV_ro hPc hKK (va_recv hK hP (ci := 4) (q0 := 0) rfl wMo_0)) rfl rfl hl.1 rfl (lv_room (Nat.le_of_ble_eq_true rfl)) dX6_guestOf_83 ⟨Nat.zero_le _, Nat.zero_le _⟩)) (fun hb83 => ?_)
    refine lv_if_eq (tgt := 93) hx hb dX6_guestOf_86 (by decide) (fun c86 => ?_) (fun c86 => ?_)
    · have h := br_1 h c86
      refine lv_iconst (v := (0 : Int32)) hx hb dX6_guestOf_93 (by decide) ?_
      cases h
      exact hret _ _ dX6_guestOf_94
    · have h := br_0 h c86
      refine lv_iconst (v := (1 : Int32)) hx hb dX6_guestOf_89 (by decide) ?_
      refine lv_goto (tgt := 94) hx hb dX6_guestOf_90 (by decide) ?_
      cases h
      exact hret _ _ dX6_guestOf_94
  exact key _ (fun pc ls hd => W.iret hx hb hr (fun t ht hW => ⟨_, rfl, rfl, ht⟩) (fun q h => by cases h) hd)
set_option maxHeartbeats 4000000 in
set_option maxRecDepth 100000 in
theorem kX6_guest (l : Launch) (D : va_G) (T : Nat → ClassId) (F : Nat) (am : Nat → Nat) (mguests : Int32) (mclause : Int32) (mdeeds : Int32) (masked : Int32) (mupper : Int64) (mlower : Int64) (mfinding : Int32) (mreadGuests : Int32) (misSight : Int32) (mat : Int32) (mrowSizes : Nat → Int32) (mrows : Nat → Int32) (mtextSizes : Nat → Int32) (mtexts : Nat → Int32) (mdoes : Nat → Int32) (mkinds : Nat → Int32) (msees : Nat → Int32) (mnow : Nat → Int32) (mbefore : Nat → Int32) (mkeeps : Nat → Int32) (mkept : Nat → Int32) (mfindings : Nat → Int32) (mread : Nat → Int32) (maside : Nat → Int32) (msteps : Nat → Int32) (mtried : Nat → Int32) (mbest : Nat → Int32) (x1 : Int32) (x2 : Int32) (r : Int32) (zmasked : Int32) (h : fX6_guest F mguests masked mkinds msees mnow x1 x2 = some (r, zmasked)) : ∀ sz : Nat, Met l yX6_guest wsX6_guest ({ frames := 3, cells := 0, slots := 0, locals := 67 } : Room) (va_Pc [.ref (am 0), .int x1, .int x2] (fun U => U.heap.size = sz ∧ va_P D vwCl (wMo T am mguests mclause mdeeds masked mupper mlower mfinding mreadGuests misSight mat mrowSizes mrows mtextSizes mtexts mdoes mkinds msees mnow mbefore mkeeps mkept mfindings mread maside msteps mtried mbest) U.heap ∧ KK D T U ∧ va_D (fun _ => True) (wMo T am mguests mclause mdeeds masked mupper mlower mfinding mreadGuests misSight mat mrowSizes mrows mtextSizes mtexts mdoes mkinds msees mnow mbefore mkeeps mkept mfindings mread maside msteps mtried mbest))) (va_Qi (fun r' (_ : Unit) => r' = r) (fun _ t => va_P D vwCl (wMo T am mguests mclause mdeeds zmasked mupper mlower mfinding mreadGuests misSight mat mrowSizes mrows mtextSizes mtexts mdoes mkinds msees mnow mbefore mkeeps mkept mfindings mread maside msteps mtried mbest) t.heap ∧ va_D (va_A (wMo T am mguests mclause mdeeds masked mupper mlower mfinding mreadGuests misSight mat mrowSizes mrows mtextSizes mtexts mdoes mkinds msees mnow mbefore mkeeps mkept mfindings mread maside msteps mtried mbest) sz) (wMo T am mguests mclause mdeeds zmasked mupper mlower mfinding mreadGuests misSight mat mrowSizes mrows mtextSizes mtexts mdoes mkinds msees mnow mbefore mkeeps mkept mfindings mread maside msteps mtried mbest)) (va_A (wMo T am mguests mclause mdeeds masked mupper mlower mfinding mreadGuests misSight mat mrowSizes mrows mtextSizes mtexts mdoes mkinds msees mnow mbefore mkeeps mkept mfindings mread maside msteps mtried mbest) sz)) 0 0 (va_A (wMo T am mguests mclause mdeeds masked mupper mlower mfinding mreadGuests misSight mat mrowSizes mrows mtextSizes mtexts mdoes mkinds msees mnow mbefore mkeeps mkept mfindings mread maside msteps mtried mbest) sz) := by
  intro sz
  refine Met.ofW (cc := cX6_guest) (maxL := 3) (ret := some .int) (by decide) rfl ?_
  intro p e s m args below meth c s₁ B hml hv
  obtain ⟨ha, hsz, hP, hKK, hD0⟩ := hv
  have hx := B.exec
  have hb := B.bytes
  have hr := B.returns
  have hts := atoms_spec (ws := wsX6_guest) B.pre
  have hown : s.vm.findClass RX6 = some m.cls := findClass_of_methodNamed B.named
  have hlocks := B.notSynchronized
  have hK := hKK.1
  have hFix : CallFix p m c cX6_guest 3 s args wsX6_guest RX6 := ⟨hx, hb, hml, hown, hts⟩
  have q1 := hts _ (List.mem_of_getElem? (i := 1) (show wsX6_guest[1]? = some (Cond.constantLong RX6 171 (4)) from rfl))
  subst hsz
  have hD := hD0.self (sz := s.heap.size)
  generalize hAe : va_A (wMo T am mguests mclause mdeeds masked mupper mlower mfinding mreadGuests misSight mat mrowSizes mrows mtextSizes mtexts mdoes mkinds msees mnow mbefore mkeeps mkept mfindings mread maside msteps mtried mbest) s.heap.size = A at hD ⊢
  have hA : ∀ q : Nat, s.heap.size ≤ q → A q := fun q h => by rw [← hAe]; exact Or.inr h
  have hS : va_S A s.heap s.heap [] := va_S.rf
  have hP : va_P D vwCl (wMo T am mguests mclause mdeeds masked mupper mlower mfinding mreadGuests misSight mat mrowSizes mrows mtextSizes mtexts mdoes mkinds msees mnow mbefore mkeeps mkept mfindings mread maside msteps mtried mbest) s.heap := hP
  obtain ⟨ls, hl, e0⟩ := my_entry (m := m) (n := 3) ha (Nat.le_of_ble_eq_true rfl)
  rw [e0]
  have hl : lv_has ls 3 [(0, .ref (am 0)), (1, .int x1), (2, .int x2)] := hl
  have key : ∀ Q : State → Prop, (∀ (H : Heap) (locs : List Loc) (pc : Nat) (ls : Array Slot), va_P D vwCl (wMo T am mguests mclause mdeeds zmasked mupper mlower mfinding mreadGuests misSight mat mrowSizes mrows mtextSizes mtexts mdoes mkinds msees mnow mbefore mkeeps mkept mfindings mread maside msteps mtried mbest) H → va_D A (wMo T am mguests mclause mdeeds zmasked mupper mlower mfinding mreadGuests misSight mat mrowSizes mrows mtextSizes mtexts mdoes mkinds msees mnow mbefore mkeeps mkept mfindings mread maside msteps mtried mbest) → va_S A s.heap H locs → decode cX6_guest pc = .ok (.ireturn, 1) → W p l e ({ frames := 3, cells := 0, slots := 0, locals := 67 } : Room) s m args below meth c H locs 0 0 Q (F0 m pc ls [.int r])) → W p l e ({ frames := 3, cells := 0, slots := 0, locals := 67 } : Room) s m args below meth c s.heap [] 0 0 Q (F0 m 0 ls []) := by
    intro Q hret
    skip
    unfold fX6_guest at h
    refine lv_aload_n hx hb dX6_guest_0 rfl (lv_at hl 0 rfl) ?_
    refine lv_iload_n hx hb dX6_guest_1 rfl (lv_at hl 1 rfl) ?_
    obtain ⟨r2, hc, h⟩ := bd1_some h
    refine my_roz (va_Run.run (va_runV (As := [.int x1]) (rest := []) hFix (kX6_isGuest l D T F am mguests mclause mdeeds masked mupper mlower mfinding mreadGuests misSight mat mrowSizes mrows mtextSizes mtexts mdoes mkinds msees mnow mbefore mkeeps mkept mfindings mread maside msteps mtried mbest x1 r2 hc) (cwV 1 hts gX6_guest_X6_isGuest rfl rfl rfl ⟨rfl, hd_X6_isGuest⟩ ⟨Nat.le_of_ble_eq_true rfl, Nat.le_of_ble_eq_true rfl⟩) (preV_ro hP hKK (va_recv hK hP (ci := 4) (q0 := 0) rfl wMo_0)) rfl rfl hl.1 rfl (lv_room (Nat.le_of_ble_eq_true rfl)) dX6_guest_2 ⟨Nat.zero_le _, Nat.zero_le _⟩)) (fun hb2 => ?_)
    refine lv_if_eq (tgt := 20) hx hb dX6_guest_5 (by decide) (fun c5 => ?_) (fun c5 => ?_)
    · have h := br_1 h c5
      refine lv_iconst (v := (-1 : Int32)) hx hb dX6_guest_20 (by decide) ?_
      cases h
      exact hret _ _ _ _ hP hD hS dX6_guest_21
    · have h := br_0 h c5
      refine lv_iload_n hx hb dX6_guest_8 rfl (lv_at hl 2 rfl) ?_
      refine lv_i2l (v := (x2.toInt64)) hx hb dX6_guest_9 rfl ?_
      refine lv_lconst (v := (0 : Int64)) hx hb dX6_guest_10 (by decide) ?_
      refine lv_ldc2 (v := (4 : Int64)) hx hb hown q1 dX6_guest_11 ?_
      obtain ⟨r14, hc, h⟩ := bd1_some h
      refine my_roz (va_Run.run (va_runS (As := [.long (x2.toInt64), .long (0 : Int64), .long (4 : Int64)]) (rest := []) hFix (kX6_in l D T F (x2.toInt64) (0 : Int64) (4 : Int64) r14 hc) (va_cwS 3 hts gX6_guest_X6_in rfl rfl rfl hd_X6_in ⟨Nat.le_of_ble_eq_true rfl, Nat.le_of_ble_eq_true rfl⟩) (preS_ro va_nil hKK) rfl rfl hl.1 rfl (lv_room (Nat.le_of_ble_eq_true rfl)) dX6_guest_14 ⟨Nat.zero_le _, Nat.zero_le _⟩)) (fun hb14 => ?_)
      refine lv_if_ne (tgt := 22) hx hb dX6_guest_17 (by decide) (fun c17 => ?_) (fun c17 => ?_)
      · have h := br_0 h c17
        refine lv_aload_n hx hb dX6_guest_22 rfl (lv_at hl 0 rfl) ?_
        refine lv_aload_n hx hb dX6_guest_23 rfl (lv_at hl 0 rfl) ?_
        refine lv_iload_n hx hb dX6_guest_24 rfl (lv_at hl 1 rfl) ?_
        refine lv_iload_n hx hb dX6_guest_25 rfl (lv_at hl 2 rfl) ?_
        obtain ⟨r26, hc, h⟩ := bd1_some h
        refine my_roi (va_Run.run (va_runV (As := [.int x1, .int x2]) (rest := [.ref (am 0)]) hFix (kX6_guestOf l D T F am mguests mclause mdeeds masked mupper mlower mfinding mreadGuests misSight mat mrowSizes mrows mtextSizes mtexts mdoes mkinds msees mnow mbefore mkeeps mkept mfindings mread maside msteps mtried mbest x1 x2 r26 hc) (cwV 2 hts gX6_guest_X6_guestOf rfl rfl rfl ⟨rfl, hd_X6_guestOf⟩ ⟨Nat.le_of_ble_eq_true rfl, Nat.le_of_ble_eq_true rfl⟩) (preV_ro hP hKK (va_recv hK hP (ci := 4) (q0 := 0) rfl wMo_0)) rfl rfl hl.1 rfl (lv_room (Nat.le_of_ble_eq_true rfl)) dX6_guest_26 ⟨Nat.zero_le _, Nat.zero_le _⟩)) ?_
        obtain ⟨r29, w29_masked, hc, h⟩ := bd2_some h
        have hFc := my_freeS hD hS hA
        refine my_rwi (va_runV (As := [.int r26]) (rest := []) hFix (kX6_tell l D T F am mguests mclause mdeeds masked mupper mlower mfinding mreadGuests misSight mat mrowSizes mrows mtextSizes mtexts mdoes mkinds msees mnow mbefore mkeeps mkept mfindings mread maside msteps mtried mbest r26 r29 w29_masked hc) (cwV 1 hts gX6_guest_X6_tell rfl rfl rfl ⟨rfl, hd_X6_tell⟩ ⟨Nat.le_of_ble_eq_true rfl, Nat.le_of_ble_eq_true rfl⟩) (preV_rw hP hKK hD (va_recv hK hP (ci := 4) (q0 := 0) rfl wMo_0)) rfl rfl hl.1 rfl (lv_room (Nat.le_of_ble_eq_true rfl)) dX6_guest_29 ⟨Nat.zero_le _, Nat.zero_le _⟩) hS hFc (fun H1 locs hP1 hD1 hz1 hk1 hS => ?_)
        have hP : va_P D vwCl (wMo T am mguests mclause mdeeds w29_masked mupper mlower mfinding mreadGuests misSight mat mrowSizes mrows mtextSizes mtexts mdoes mkinds msees mnow mbefore mkeeps mkept mfindings mread maside msteps mtried mbest) H1 := hP1
        have hD : va_D A (wMo T am mguests mclause mdeeds w29_masked mupper mlower mfinding mreadGuests misSight mat mrowSizes mrows mtextSizes mtexts mdoes mkinds msees mnow mbefore mkeeps mkept mfindings mread maside msteps mtried mbest) := hD1.weaken (fun _ q _ h => hFc q.1 h)
        generalize H1 = H at hP hS ⊢
        cases h
        exact hret _ _ _ _ hP hD hS dX6_guest_32
      · have h := br_1 h c17
        refine lv_iconst (v := (-1 : Int32)) hx hb dX6_guest_20 (by decide) ?_
        cases h
        exact hret _ _ _ _ hP hD hS dX6_guest_21
  exact key _ (fun H locs pc ls hP hD hS hd => W.iret hx hb hr (fun t ht hW => ⟨⟨_, (), rfl, rfl, by show _ ∧ _; rw [ht]; exact ⟨hP, hD⟩⟩, hS.F ht⟩) hS.2.2 hd)
set_option maxHeartbeats 4000000 in
set_option maxRecDepth 100000 in
theorem kX6_markOf (l : Launch) (D : va_G) (T : Nat → ClassId) (F : Nat) (am : Nat → Nat) (mguests : Int32) (mclause : Int32) (mdeeds : Int32) (masked : Int32) (mupper : Int64) (mlower : Int64) (mfinding : Int32) (mreadGuests : Int32) (misSight : Int32) (mat : Int32) (mrowSizes : Nat → Int32) (mrows : Nat → Int32) (mtextSizes : Nat → Int32) (mtexts : Nat → Int32) (mdoes : Nat → Int32) (mkinds : Nat → Int32) (msees : Nat → Int32) (mnow : Nat → Int32) (mbefore : Nat → Int32) (mkeeps : Nat → Int32) (mkept : Nat → Int32) (mfindings : Nat → Int32) (mread : Nat → Int32) (maside : Nat → Int32) (msteps : Nat → Int32) (mtried : Nat → Int32) (mbest : Nat → Int32) (x1 : Int32) (x2 : Int32) (r : Int32) (h : fX6_markOf F mguests mclause mdoes mkinds msees mnow x1 x2 = some (r)) : Met l yX6_markOf wsX6_markOf ({ frames := 2, cells := 0, slots := 0, locals := 45 } : Room) (va_Pc [.ref (am 0), .int x1, .int x2] (fun U => va_P D vwCl (wMo T am mguests mclause mdeeds masked mupper mlower mfinding mreadGuests misSight mat mrowSizes mrows mtextSizes mtexts mdoes mkinds msees mnow mbefore mkeeps mkept mfindings mread maside msteps mtried mbest) U.heap ∧ KK D T U)) (vp_Si (fun r' => r' = r)) 0 0 (fun _ => False) := by
  refine Met.ofW (cc := cX6_markOf) (maxL := 6) (ret := some .int) (by decide) rfl ?_
  intro p e s m args below meth c s₁ B hml hv
  obtain ⟨ha, hP, hKK⟩ := hv
  have hx := B.exec
  have hb := B.bytes
  have hr := B.returns
  have hts := atoms_spec (ws := wsX6_markOf) B.pre
  have hown : s.vm.findClass RX6 = some m.cls := findClass_of_methodNamed B.named
  have hlocks := B.notSynchronized
  have hK := hKK.1
  have hFix : CallFix p m c cX6_markOf 6 s args wsX6_markOf RX6 := ⟨hx, hb, hml, hown, hts⟩
  have q1 := hts _ (List.mem_of_getElem? (i := 1) (show wsX6_markOf[1]? = some (Cond.fieldLink RX6 25 "PartyWillModel" "kinds" "[I") from rfl))
  have q2 := hts _ (List.mem_of_getElem? (i := 2) (show wsX6_markOf[2]? = some (Cond.fieldLink RX6 31 "PartyWillModel" "now" "[I") from rfl))
  have q3 := hts _ (List.mem_of_getElem? (i := 3) (show wsX6_markOf[3]? = some (Cond.fieldLink RX6 22 "PartyWillModel" "does" "[I") from rfl))
  have q4 := hts _ (List.mem_of_getElem? (i := 4) (show wsX6_markOf[4]? = some (Cond.fieldLink RX6 134 "PartyWillModel" "clause" "I") from rfl))
  have q5 := hts _ (List.mem_of_getElem? (i := 5) (show wsX6_markOf[5]? = some (Cond.fieldLink RX6 131 "PartyWillModel" "guests" "I") from rfl))
  have q6 := hts _ (List.mem_of_getElem? (i := 6) (show wsX6_markOf[6]? = some (Cond.fieldLink RX6 28 "PartyWillModel" "sees" "[I") from rfl))
  have iX6 : ∀ w ∈ u_ws RX6 TX6 27, w ∈ wsX6_markOf := fun w h => List.mem_cons_of_mem _ (List.mem_append_right _ (h))
  obtain ⟨ls, hl, e0⟩ := my_entry (m := m) (n := 6) ha (Nat.le_of_ble_eq_true rfl)
  rw [e0]
  have hl : lv_has ls 6 [(0, .ref (am 0)), (1, .int x1), (2, .int x2)] := hl
  have key : ∀ Q : State → Prop, (∀ (pc : Nat) (ls : Array Slot), decode cX6_markOf pc = .ok (.ireturn, 1) → W p l e ({ frames := 2, cells := 0, slots := 0, locals := 45 } : Room) s m args below meth c s.heap [] 0 0 Q (F0 m pc ls [.int r])) → W p l e ({ frames := 2, cells := 0, slots := 0, locals := 45 } : Room) s m args below meth c s.heap [] 0 0 Q (F0 m 0 ls []) := by
    intro Q hret
    have l231 : ∀ x1 : Int32, ∀ nu : Nat, ∀ x3 : Int32, ∀ x4 : Int32, fX6_markOf_l231 F mguests mclause mdoes mkinds msees mnow x1 nu x3 x4 = some (r) → ∀ (ls : Array Slot), lv_has ls 6 [(0, .ref (am 0)), (1, .int x1), (3, .int x3), (4, .int x4)] → W p l e ({ frames := 2, cells := 0, slots := 0, locals := 45 } : Room) s m args below meth c s.heap [] 0 0 Q (F0 m 231 ls []) := by
      intro x1
      intro nu
      induction nu with
      | zero => intro x3 x4 h; exact none_some h
      | succ nu231 ih231 =>
        intro x3 x4 h ls hl
        have h : fX6_markOf_l231_b F mguests mclause mdoes mkinds msees mnow x1 (fX6_markOf_l231 F mguests mclause mdoes mkinds msees mnow x1 nu231) x3 x4 = some (r) := h
        unfold fX6_markOf_l231_b at h
        refine lv_iload hx hb dX6_markOf_231 (lv_at hl 3 rfl) ?_
        refine lv_aload_n hx hb dX6_markOf_233 rfl (lv_at hl 0 rfl) ?_
        refine va_get (D := D) (ci := 4) (C := RX6) (T := TX6) (N := 27) hx hb hts iX6 hown hK hP 0 wMo_0 rfl 4 (by decide) q5 (fun _ h9 => h9) rfl dX6_markOf_234 ?_
        refine lv_icmp_ge (tgt := 284) hx hb dX6_markOf_237 (by decide) (fun c237 => ?_) (fun c237 => ?_)
        · have h := br_1 h c237
          refine lv_iload_n hx hb dX6_markOf_284 rfl (lv_at hl 2 rfl) ?_
          cases h
          exact hret _ _ dX6_markOf_285
        · have h := br_0 h c237
          refine lv_iload_n hx hb dX6_markOf_240 rfl (lv_at hl 2 rfl) ?_
          refine lv_aload_n hx hb dX6_markOf_241 rfl (lv_at hl 0 rfl) ?_
          refine va_get (D := D) (ci := 4) (C := RX6) (T := TX6) (N := 27) hx hb hts iX6 hown hK hP 0 wMo_0 rfl 8 (by decide) q6 (fun _ h9 => h9) rfl dX6_markOf_242 ?_
          refine lv_iload_n hx hb dX6_markOf_245 rfl (lv_at hl 1 rfl) ?_
          obtain ⟨hin1, h⟩ := ck_some h
          refine va_iald hx hb hK hP 7 0 wMo_7 rfl hin1 dX6_markOf_246 ?_
          refine lv_iload hx hb dX6_markOf_247 (lv_at hl 3 rfl) ?_
          obtain ⟨r249, hc, h⟩ := bd1_some h
          refine my_roz (va_Run.run (va_runS (As := [.int (msees x1.toNatClampNeg), .int x4]) (rest := [.int x3]) hFix (kX6_has l D T F (msees x1.toNatClampNeg) x4 r249 hc) (va_cwS 2 hts gX6_markOf_X6_has rfl rfl rfl hd_X6_has ⟨Nat.le_of_ble_eq_true rfl, Nat.le_of_ble_eq_true rfl⟩) (preS_ro va_nil hKK) rfl rfl hl.1 rfl (lv_room (Nat.le_of_ble_eq_true rfl)) dX6_markOf_249 ⟨Nat.zero_le _, Nat.zero_le _⟩)) (fun hb249 => ?_)
          refine lv_if_eq (tgt := 275) hx hb dX6_markOf_252 (by decide) (fun c252 => ?_) (fun c252 => ?_)
          · have h := br_1 h c252
            refine lv_iconst (v := (0 : Int32)) hx hb dX6_markOf_275 (by decide) ?_
            refine lv_iadd hx hb dX6_markOf_276 ?_
            refine lv_istore_n (lv' := [(3, .int (x3 + (0 : Int32))), (0, .ref (am 0)), (1, .int x1), (4, .int x4)]) hx hb dX6_markOf_277 rfl hl (by decide) rfl (fun ls hl => ?_)
            refine lv_iinc (v := (x4 + (1 : Int32))) (lv' := [(4, .int (x4 + (1 : Int32))), (3, .int (x3 + (0 : Int32))), (0, .ref (am 0)), (1, .int x1)]) hx hb dX6_markOf_278 hl (k := 3) rfl rfl (by decide) rfl (fun ls hl => ?_)
            refine lv_goto (tgt := 231) hx hb dX6_markOf_281 (by decide) ?_
            exact ih231 (x3 + (0 : Int32)) (x4 + (1 : Int32)) h _ (lv_sub hl [2, 3, 1, 0] rfl)
          · have h := br_0 h c252
            refine lv_aload_n hx hb dX6_markOf_255 rfl (lv_at hl 0 rfl) ?_
            refine va_get (D := D) (ci := 4) (C := RX6) (T := TX6) (N := 27) hx hb hts iX6 hown hK hP 0 wMo_0 rfl 9 (by decide) q2 (fun _ h9 => h9) rfl dX6_markOf_256 ?_
            refine lv_iload hx hb dX6_markOf_259 (lv_at hl 3 rfl) ?_
            obtain ⟨hin2, h⟩ := ck_some h
            refine va_iald hx hb hK hP 8 0 wMo_8 rfl hin2 dX6_markOf_261 ?_
            refine lv_aload_n hx hb dX6_markOf_262 rfl (lv_at hl 0 rfl) ?_
            refine va_get (D := D) (ci := 4) (C := RX6) (T := TX6) (N := 27) hx hb hts iX6 hown hK hP 0 wMo_0 rfl 5 (by decide) q4 (fun _ h9 => h9) rfl dX6_markOf_263 ?_
            refine lv_iconst (v := (3 : Int32)) hx hb dX6_markOf_266 (by decide) ?_
            refine lv_isub hx hb dX6_markOf_267 ?_
            refine lv_icmp_le (tgt := 275) hx hb dX6_markOf_268 (by decide) (fun c268 => ?_) (fun c268 => ?_)
            · have h := br_1 h c268
              refine lv_iconst (v := (0 : Int32)) hx hb dX6_markOf_275 (by decide) ?_
              refine lv_iadd hx hb dX6_markOf_276 ?_
              refine lv_istore_n (lv' := [(3, .int (x3 + (0 : Int32))), (0, .ref (am 0)), (1, .int x1), (4, .int x4)]) hx hb dX6_markOf_277 rfl hl (by decide) rfl (fun ls hl => ?_)
              refine lv_iinc (v := (x4 + (1 : Int32))) (lv' := [(4, .int (x4 + (1 : Int32))), (3, .int (x3 + (0 : Int32))), (0, .ref (am 0)), (1, .int x1)]) hx hb dX6_markOf_278 hl (k := 3) rfl rfl (by decide) rfl (fun ls hl => ?_)
              refine lv_goto (tgt := 231) hx hb dX6_markOf_281 (by decide) ?_
              exact ih231 (x3 + (0 : Int32)) (x4 + (1 : Int32)) h _ (lv_sub hl [2, 3, 1, 0] rfl)
            · have h := br_0 h c268
              refine lv_iconst (v := (1 : Int32)) hx hb dX6_markOf_271 (by decide) ?_
              refine lv_goto (tgt := 276) hx hb dX6_markOf_272 (by decide) ?_
              refine lv_iadd hx hb dX6_markOf_276 ?_
              refine lv_istore_n (lv' := [(3, .int (x3 + (1 : Int32))), (0, .ref (am 0)), (1, .int x1), (4, .int x4)]) hx hb dX6_markOf_277 rfl hl (by decide) rfl (fun ls hl => ?_)
              refine lv_iinc (v := (x4 + (1 : Int32))) (lv' := [(4, .int (x4 + (1 : Int32))), (3, .int (x3 + (1 : Int32))), (0, .ref (am 0)), (1, .int x1)]) hx hb dX6_markOf_278 hl (k := 3) rfl rfl (by decide) rfl (fun ls hl => ?_)
              refine lv_goto (tgt := 231) hx hb dX6_markOf_281 (by decide) ?_
              exact ih231 (x3 + (1 : Int32)) (x4 + (1 : Int32)) h _ (lv_sub hl [2, 3, 1, 0] rfl)
    have l35 : ∀ x1 : Int32, ∀ nu : Nat, ∀ x3 : Int32, ∀ x4 : Int32, fX6_markOf_l35 F mguests mclause mdoes mkinds msees mnow x1 nu x3 x4 = some (r) → ∀ (ls : Array Slot), lv_has ls 6 [(0, .ref (am 0)), (1, .int x1), (3, .int x3), (4, .int x4)] → W p l e ({ frames := 2, cells := 0, slots := 0, locals := 45 } : Room) s m args below meth c s.heap [] 0 0 Q (F0 m 35 ls []) := by
      intro x1
      intro nu
      induction nu with
      | zero => intro x3 x4 h; exact none_some h
      | succ nu35 ih35 =>
        intro x3 x4 h ls hl
        have h : fX6_markOf_l35_b F mguests mclause mdoes mkinds msees mnow x1 (fX6_markOf_l35 F mguests mclause mdoes mkinds msees mnow x1 nu35) x3 x4 = some (r) := h
        unfold fX6_markOf_l35_b at h
        refine lv_iload hx hb dX6_markOf_35 (lv_at hl 3 rfl) ?_
        refine lv_iconst (v := (4 : Int32)) hx hb dX6_markOf_37 (by decide) ?_
        refine lv_icmp_ge (tgt := 88) hx hb dX6_markOf_38 (by decide) (fun c38 => ?_) (fun c38 => ?_)
        · have h := br_1 h c38
          refine lv_iload_n hx hb dX6_markOf_88 rfl (lv_at hl 2 rfl) ?_
          cases h
          exact hret _ _ dX6_markOf_89
        · have h := br_0 h c38
          refine lv_iload_n hx hb dX6_markOf_41 rfl (lv_at hl 2 rfl) ?_
          refine lv_aload_n hx hb dX6_markOf_42 rfl (lv_at hl 0 rfl) ?_
          refine va_get (D := D) (ci := 4) (C := RX6) (T := TX6) (N := 27) hx hb hts iX6 hown hK hP 0 wMo_0 rfl 7 (by decide) q1 (fun _ h9 => h9) rfl dX6_markOf_43 ?_
          refine lv_iload_n hx hb dX6_markOf_46 rfl (lv_at hl 1 rfl) ?_
          obtain ⟨hin3, h⟩ := ck_some h
          refine va_iald hx hb hK hP 6 0 wMo_6 rfl hin3 dX6_markOf_47 ?_
          refine lv_aload_n hx hb dX6_markOf_48 rfl (lv_at hl 0 rfl) ?_
          refine va_get (D := D) (ci := 4) (C := RX6) (T := TX6) (N := 27) hx hb hts iX6 hown hK hP 0 wMo_0 rfl 9 (by decide) q2 (fun _ h9 => h9) rfl dX6_markOf_49 ?_
          refine lv_iload_n hx hb dX6_markOf_52 rfl (lv_at hl 1 rfl) ?_
          obtain ⟨hin4, h⟩ := ck_some h
          refine va_iald hx hb hK hP 8 0 wMo_8 rfl hin4 dX6_markOf_53 ?_
          refine lv_iload hx hb dX6_markOf_54 (lv_at hl 3 rfl) ?_
          refine lv_aload_n hx hb dX6_markOf_56 rfl (lv_at hl 0 rfl) ?_
          refine va_get (D := D) (ci := 4) (C := RX6) (T := TX6) (N := 27) hx hb hts iX6 hown hK hP 0 wMo_0 rfl 6 (by decide) q3 (fun _ h9 => h9) rfl dX6_markOf_57 ?_
          refine lv_iload hx hb dX6_markOf_60 (lv_at hl 3 rfl) ?_
          obtain ⟨hin5, h⟩ := ck_some h
          refine va_iald hx hb hK hP 5 0 wMo_5 rfl hin5 dX6_markOf_62 ?_
          obtain ⟨r63, hc, h⟩ := bd1_some h
          refine my_roi (va_Run.run (va_runS (As := [.int (mkinds x1.toNatClampNeg), .int (mnow x1.toNatClampNeg), .int x4, .int (mdoes x4.toNatClampNeg)]) (rest := [.int x3]) hFix (kX6_griefBehind l D T F (mkinds x1.toNatClampNeg) (mnow x1.toNatClampNeg) x4 (mdoes x4.toNatClampNeg) r63 hc) (va_cwS 4 hts gX6_markOf_X6_griefBehind rfl rfl rfl hd_X6_griefBehind ⟨Nat.le_of_ble_eq_true rfl, Nat.le_of_ble_eq_true rfl⟩) (preS_ro va_nil hKK) rfl rfl hl.1 rfl (lv_room (Nat.le_of_ble_eq_true rfl)) dX6_markOf_63 ⟨Nat.zero_le _, Nat.zero_le _⟩)) ?_
          refine lv_aload_n hx hb dX6_markOf_66 rfl (lv_at hl 0 rfl) ?_
          refine va_get (D := D) (ci := 4) (C := RX6) (T := TX6) (N := 27) hx hb hts iX6 hown hK hP 0 wMo_0 rfl 9 (by decide) q2 (fun _ h9 => h9) rfl dX6_markOf_67 ?_
          refine lv_iload_n hx hb dX6_markOf_70 rfl (lv_at hl 1 rfl) ?_
          obtain ⟨hin6, h⟩ := ck_some h
          refine va_iald hx hb hK hP 8 0 wMo_8 rfl hin6 dX6_markOf_71 ?_
          refine lv_icmp_ge (tgt := 79) hx hb dX6_markOf_72 (by decide) (fun c72 => ?_) (fun c72 => ?_)
          · have h := br_1 h c72
            refine lv_iconst (v := (0 : Int32)) hx hb dX6_markOf_79 (by decide) ?_
            refine lv_iadd hx hb dX6_markOf_80 ?_
            refine lv_istore_n (lv' := [(3, .int (x3 + (0 : Int32))), (0, .ref (am 0)), (1, .int x1), (4, .int x4)]) hx hb dX6_markOf_81 rfl hl (by decide) rfl (fun ls hl => ?_)
            refine lv_iinc (v := (x4 + (1 : Int32))) (lv' := [(4, .int (x4 + (1 : Int32))), (3, .int (x3 + (0 : Int32))), (0, .ref (am 0)), (1, .int x1)]) hx hb dX6_markOf_82 hl (k := 3) rfl rfl (by decide) rfl (fun ls hl => ?_)
            refine lv_goto (tgt := 35) hx hb dX6_markOf_85 (by decide) ?_
            exact ih35 (x3 + (0 : Int32)) (x4 + (1 : Int32)) h _ (lv_sub hl [2, 3, 1, 0] rfl)
          · have h := br_0 h c72
            refine lv_iconst (v := (1 : Int32)) hx hb dX6_markOf_75 (by decide) ?_
            refine lv_goto (tgt := 80) hx hb dX6_markOf_76 (by decide) ?_
            refine lv_iadd hx hb dX6_markOf_80 ?_
            refine lv_istore_n (lv' := [(3, .int (x3 + (1 : Int32))), (0, .ref (am 0)), (1, .int x1), (4, .int x4)]) hx hb dX6_markOf_81 rfl hl (by decide) rfl (fun ls hl => ?_)
            refine lv_iinc (v := (x4 + (1 : Int32))) (lv' := [(4, .int (x4 + (1 : Int32))), (3, .int (x3 + (1 : Int32))), (0, .ref (am 0)), (1, .int x1)]) hx hb dX6_markOf_82 hl (k := 3) rfl rfl (by decide) rfl (fun ls hl => ?_)
            refine lv_goto (tgt := 35) hx hb dX6_markOf_85 (by decide) ?_
            exact ih35 (x3 + (1 : Int32)) (x4 + (1 : Int32)) h _ (lv_sub hl [2, 3, 1, 0] rfl)
    have l93 : ∀ x1 : Int32, ∀ nu : Nat, ∀ x3 : Int32, ∀ x4 : Int32, fX6_markOf_l93 F mguests mclause mdoes mkinds msees mnow x1 nu x3 x4 = some (r) → ∀ (ls : Array Slot), lv_has ls 6 [(0, .ref (am 0)), (1, .int x1), (3, .int x3), (4, .int x4)] → W p l e ({ frames := 2, cells := 0, slots := 0, locals := 45 } : Room) s m args below meth c s.heap [] 0 0 Q (F0 m 93 ls []) := by
      intro x1
      intro nu
      induction nu with
      | zero => intro x3 x4 h; exact none_some h
      | succ nu93 ih93 =>
        intro x3 x4 h ls hl
        have h : fX6_markOf_l93_b F mguests mclause mdoes mkinds msees mnow x1 (fX6_markOf_l93 F mguests mclause mdoes mkinds msees mnow x1 nu93) x3 x4 = some (r) := h
        unfold fX6_markOf_l93_b at h
        refine lv_iload hx hb dX6_markOf_93 (lv_at hl 3 rfl) ?_
        refine lv_iconst (v := (4 : Int32)) hx hb dX6_markOf_95 (by decide) ?_
        refine lv_icmp_ge (tgt := 151) hx hb dX6_markOf_96 (by decide) (fun c96 => ?_) (fun c96 => ?_)
        · have h := br_1 h c96
          refine lv_iload_n hx hb dX6_markOf_151 rfl (lv_at hl 2 rfl) ?_
          cases h
          exact hret _ _ dX6_markOf_152
        · have h := br_0 h c96
          refine lv_aload_n hx hb dX6_markOf_99 rfl (lv_at hl 0 rfl) ?_
          refine va_get (D := D) (ci := 4) (C := RX6) (T := TX6) (N := 27) hx hb hts iX6 hown hK hP 0 wMo_0 rfl 7 (by decide) q1 (fun _ h9 => h9) rfl dX6_markOf_100 ?_
          refine lv_iload_n hx hb dX6_markOf_103 rfl (lv_at hl 1 rfl) ?_
          obtain ⟨hin7, h⟩ := ck_some h
          refine va_iald hx hb hK hP 6 0 wMo_6 rfl hin7 dX6_markOf_104 ?_
          refine lv_aload_n hx hb dX6_markOf_105 rfl (lv_at hl 0 rfl) ?_
          refine va_get (D := D) (ci := 4) (C := RX6) (T := TX6) (N := 27) hx hb hts iX6 hown hK hP 0 wMo_0 rfl 9 (by decide) q2 (fun _ h9 => h9) rfl dX6_markOf_106 ?_
          refine lv_iload_n hx hb dX6_markOf_109 rfl (lv_at hl 1 rfl) ?_
          obtain ⟨hin8, h⟩ := ck_some h
          refine va_iald hx hb hK hP 8 0 wMo_8 rfl hin8 dX6_markOf_110 ?_
          refine lv_iload hx hb dX6_markOf_111 (lv_at hl 3 rfl) ?_
          refine lv_aload_n hx hb dX6_markOf_113 rfl (lv_at hl 0 rfl) ?_
          refine va_get (D := D) (ci := 4) (C := RX6) (T := TX6) (N := 27) hx hb hts iX6 hown hK hP 0 wMo_0 rfl 6 (by decide) q3 (fun _ h9 => h9) rfl dX6_markOf_114 ?_
          refine lv_iload hx hb dX6_markOf_117 (lv_at hl 3 rfl) ?_
          obtain ⟨hin9, h⟩ := ck_some h
          refine va_iald hx hb hK hP 5 0 wMo_5 rfl hin9 dX6_markOf_119 ?_
          obtain ⟨r120, hc, h⟩ := bd1_some h
          refine my_roi (va_Run.run (va_runS (As := [.int (mkinds x1.toNatClampNeg), .int (mnow x1.toNatClampNeg), .int x4, .int (mdoes x4.toNatClampNeg)]) (rest := []) hFix (kX6_griefBehind l D T F (mkinds x1.toNatClampNeg) (mnow x1.toNatClampNeg) x4 (mdoes x4.toNatClampNeg) r120 hc) (va_cwS 4 hts gX6_markOf_X6_griefBehind rfl rfl rfl hd_X6_griefBehind ⟨Nat.le_of_ble_eq_true rfl, Nat.le_of_ble_eq_true rfl⟩) (preS_ro va_nil hKK) rfl rfl hl.1 rfl (lv_room (Nat.le_of_ble_eq_true rfl)) dX6_markOf_120 ⟨Nat.zero_le _, Nat.zero_le _⟩)) ?_
          refine lv_aload_n hx hb dX6_markOf_123 rfl (lv_at hl 0 rfl) ?_
          refine va_get (D := D) (ci := 4) (C := RX6) (T := TX6) (N := 27) hx hb hts iX6 hown hK hP 0 wMo_0 rfl 9 (by decide) q2 (fun _ h9 => h9) rfl dX6_markOf_124 ?_
          refine lv_iload_n hx hb dX6_markOf_127 rfl (lv_at hl 1 rfl) ?_
          obtain ⟨hin10, h⟩ := ck_some h
          refine va_iald hx hb hK hP 8 0 wMo_8 rfl hin10 dX6_markOf_128 ?_
          refine lv_isub hx hb dX6_markOf_129 ?_
          refine lv_istore (lv' := [(5, .int (r120 - (mnow x1.toNatClampNeg))), (0, .ref (am 0)), (1, .int x1), (3, .int x3), (4, .int x4)]) hx hb dX6_markOf_130 hl (by decide) rfl (fun ls hl => ?_)
          refine lv_iload hx hb dX6_markOf_132 (lv_at hl 0 rfl) ?_
          refine lv_iload_n hx hb dX6_markOf_134 rfl (lv_at hl 3 rfl) ?_
          refine lv_icmp_le (tgt := 143) hx hb dX6_markOf_135 (by decide) (fun c135 => ?_) (fun c135 => ?_)
          · have h := br_1 h c135
            refine lv_iload_n hx hb dX6_markOf_143 rfl (lv_at hl 3 rfl) ?_
            refine lv_istore_n (lv' := [(3, .int x3), (5, .int (r120 - (mnow x1.toNatClampNeg))), (0, .ref (am 0)), (1, .int x1), (4, .int x4)]) hx hb dX6_markOf_144 rfl hl (by decide) rfl (fun ls hl => ?_)
            refine lv_iinc (v := (x4 + (1 : Int32))) (lv' := [(4, .int (x4 + (1 : Int32))), (3, .int x3), (5, .int (r120 - (mnow x1.toNatClampNeg))), (0, .ref (am 0)), (1, .int x1)]) hx hb dX6_markOf_145 hl (k := 4) rfl rfl (by decide) rfl (fun ls hl => ?_)
            refine lv_goto (tgt := 93) hx hb dX6_markOf_148 (by decide) ?_
            exact ih93 x3 (x4 + (1 : Int32)) h _ (lv_sub hl [3, 4, 1, 0] rfl)
          · have h := br_0 h c135
            refine lv_iload hx hb dX6_markOf_138 (lv_at hl 0 rfl) ?_
            refine lv_goto (tgt := 144) hx hb dX6_markOf_140 (by decide) ?_
            refine lv_istore_n (lv' := [(3, .int (r120 - (mnow x1.toNatClampNeg))), (5, .int (r120 - (mnow x1.toNatClampNeg))), (0, .ref (am 0)), (1, .int x1), (4, .int x4)]) hx hb dX6_markOf_144 rfl hl (by decide) rfl (fun ls hl => ?_)
            refine lv_iinc (v := (x4 + (1 : Int32))) (lv' := [(4, .int (x4 + (1 : Int32))), (3, .int (r120 - (mnow x1.toNatClampNeg))), (5, .int (r120 - (mnow x1.toNatClampNeg))), (0, .ref (am 0)), (1, .int x1)]) hx hb dX6_markOf_145 hl (k := 4) rfl rfl (by decide) rfl (fun ls hl => ?_)
            refine lv_goto (tgt := 93) hx hb dX6_markOf_148 (by decide) ?_
            exact ih93 (r120 - (mnow x1.toNatClampNeg)) (x4 + (1 : Int32)) h _ (lv_sub hl [3, 4, 1, 0] rfl)
    have l187 : ∀ x1 : Int32, ∀ nu : Nat, ∀ x3 : Int32, ∀ x4 : Int32, fX6_markOf_l187 F mguests mclause mdoes mkinds msees mnow x1 nu x3 x4 = some (r) → ∀ (ls : Array Slot), lv_has ls 6 [(0, .ref (am 0)), (1, .int x1), (3, .int x3), (4, .int x4)] → W p l e ({ frames := 2, cells := 0, slots := 0, locals := 45 } : Room) s m args below meth c s.heap [] 0 0 Q (F0 m 187 ls []) := by
      intro x1
      intro nu
      induction nu with
      | zero => intro x3 x4 h; exact none_some h
      | succ nu187 ih187 =>
        intro x3 x4 h ls hl
        have h : fX6_markOf_l187_b F mguests mclause mdoes mkinds msees mnow x1 (fX6_markOf_l187 F mguests mclause mdoes mkinds msees mnow x1 nu187) x3 x4 = some (r) := h
        unfold fX6_markOf_l187_b at h
        refine lv_iload hx hb dX6_markOf_187 (lv_at hl 3 rfl) ?_
        refine lv_aload_n hx hb dX6_markOf_189 rfl (lv_at hl 0 rfl) ?_
        refine va_get (D := D) (ci := 4) (C := RX6) (T := TX6) (N := 27) hx hb hts iX6 hown hK hP 0 wMo_0 rfl 4 (by decide) q5 (fun _ h9 => h9) rfl dX6_markOf_190 ?_
        refine lv_icmp_ge (tgt := 226) hx hb dX6_markOf_193 (by decide) (fun c193 => ?_) (fun c193 => ?_)
        · have h := br_1 h c193
          refine lv_iload_n hx hb dX6_markOf_226 rfl (lv_at hl 2 rfl) ?_
          cases h
          exact hret _ _ dX6_markOf_227
        · have h := br_0 h c193
          refine lv_iload_n hx hb dX6_markOf_196 rfl (lv_at hl 2 rfl) ?_
          refine lv_aload_n hx hb dX6_markOf_197 rfl (lv_at hl 0 rfl) ?_
          refine va_get (D := D) (ci := 4) (C := RX6) (T := TX6) (N := 27) hx hb hts iX6 hown hK hP 0 wMo_0 rfl 9 (by decide) q2 (fun _ h9 => h9) rfl dX6_markOf_198 ?_
          refine lv_iload hx hb dX6_markOf_201 (lv_at hl 3 rfl) ?_
          obtain ⟨hin11, h⟩ := ck_some h
          refine va_iald hx hb hK hP 8 0 wMo_8 rfl hin11 dX6_markOf_203 ?_
          refine lv_aload_n hx hb dX6_markOf_204 rfl (lv_at hl 0 rfl) ?_
          refine va_get (D := D) (ci := 4) (C := RX6) (T := TX6) (N := 27) hx hb hts iX6 hown hK hP 0 wMo_0 rfl 9 (by decide) q2 (fun _ h9 => h9) rfl dX6_markOf_205 ?_
          refine lv_iload_n hx hb dX6_markOf_208 rfl (lv_at hl 1 rfl) ?_
          obtain ⟨hin12, h⟩ := ck_some h
          refine va_iald hx hb hK hP 8 0 wMo_8 rfl hin12 dX6_markOf_209 ?_
          refine lv_icmp_le (tgt := 217) hx hb dX6_markOf_210 (by decide) (fun c210 => ?_) (fun c210 => ?_)
          · have h := br_1 h c210
            refine lv_iconst (v := (0 : Int32)) hx hb dX6_markOf_217 (by decide) ?_
            refine lv_iadd hx hb dX6_markOf_218 ?_
            refine lv_istore_n (lv' := [(3, .int (x3 + (0 : Int32))), (0, .ref (am 0)), (1, .int x1), (4, .int x4)]) hx hb dX6_markOf_219 rfl hl (by decide) rfl (fun ls hl => ?_)
            refine lv_iinc (v := (x4 + (1 : Int32))) (lv' := [(4, .int (x4 + (1 : Int32))), (3, .int (x3 + (0 : Int32))), (0, .ref (am 0)), (1, .int x1)]) hx hb dX6_markOf_220 hl (k := 3) rfl rfl (by decide) rfl (fun ls hl => ?_)
            refine lv_goto (tgt := 187) hx hb dX6_markOf_223 (by decide) ?_
            exact ih187 (x3 + (0 : Int32)) (x4 + (1 : Int32)) h _ (lv_sub hl [2, 3, 1, 0] rfl)
          · have h := br_0 h c210
            refine lv_iconst (v := (1 : Int32)) hx hb dX6_markOf_213 (by decide) ?_
            refine lv_goto (tgt := 218) hx hb dX6_markOf_214 (by decide) ?_
            refine lv_iadd hx hb dX6_markOf_218 ?_
            refine lv_istore_n (lv' := [(3, .int (x3 + (1 : Int32))), (0, .ref (am 0)), (1, .int x1), (4, .int x4)]) hx hb dX6_markOf_219 rfl hl (by decide) rfl (fun ls hl => ?_)
            refine lv_iinc (v := (x4 + (1 : Int32))) (lv' := [(4, .int (x4 + (1 : Int32))), (3, .int (x3 + (1 : Int32))), (0, .ref (am 0)), (1, .int x1)]) hx hb dX6_markOf_220 hl (k := 3) rfl rfl (by decide) rfl (fun ls hl => ?_)
            refine lv_goto (tgt := 187) hx hb dX6_markOf_223 (by decide) ?_
            exact ih187 (x3 + (1 : Int32)) (x4 + (1 : Int32)) h _ (lv_sub hl [2, 3, 1, 0] rfl)
    unfold fX6_markOf at h
    refine lv_iconst (v := (0 : Int32)) hx hb dX6_markOf_0 (by decide) ?_
    refine lv_istore_n (lv' := [(3, .int (0 : Int32)), (0, .ref (am 0)), (1, .int x1), (2, .int x2)]) hx hb dX6_markOf_1 rfl hl (by decide) rfl (fun ls hl => ?_)
    refine lv_iload_n hx hb dX6_markOf_2 rfl (lv_at hl 3 rfl) ?_
    by_cases z3_0 : x2 = (1 : Int32)
    · have h := br_1 h z3_0
      refine lv_tableIn (tgt := 32) (off := 29) hx hb dX6_markOf_3 (by rw [z3_0]; decide) (by rw [z3_0]; decide) (by rw [z3_0]; decide) (by decide) ?_
      refine lv_iconst (v := (0 : Int32)) hx hb dX6_markOf_32 (by decide) ?_
      refine lv_istore (lv' := [(4, .int (0 : Int32)), (3, .int (0 : Int32)), (0, .ref (am 0)), (1, .int x1), (2, .int x2)]) hx hb dX6_markOf_33 hl (by decide) rfl (fun ls hl => ?_)
      exact l35 x1 F (0 : Int32) (0 : Int32) h _ (lv_sub hl [2, 3, 1, 0] rfl)
    have h := br_0 h z3_0
    by_cases z3_1 : x2 = (2 : Int32)
    · have h := br_1 h z3_1
      refine lv_tableIn (tgt := 90) (off := 87) hx hb dX6_markOf_3 (by rw [z3_1]; decide) (by rw [z3_1]; decide) (by rw [z3_1]; decide) (by decide) ?_
      refine lv_iconst (v := (0 : Int32)) hx hb dX6_markOf_90 (by decide) ?_
      refine lv_istore (lv' := [(4, .int (0 : Int32)), (3, .int (0 : Int32)), (0, .ref (am 0)), (1, .int x1), (2, .int x2)]) hx hb dX6_markOf_91 hl (by decide) rfl (fun ls hl => ?_)
      exact l93 x1 F (0 : Int32) (0 : Int32) h _ (lv_sub hl [2, 3, 1, 0] rfl)
    have h := br_0 h z3_1
    by_cases z3_2 : x2 = (3 : Int32)
    · have h := br_1 h z3_2
      refine lv_tableIn (tgt := 153) (off := 150) hx hb dX6_markOf_3 (by rw [z3_2]; decide) (by rw [z3_2]; decide) (by rw [z3_2]; decide) (by decide) ?_
      refine lv_aload_n hx hb dX6_markOf_153 rfl (lv_at hl 1 rfl) ?_
      refine va_get (D := D) (ci := 4) (C := RX6) (T := TX6) (N := 27) hx hb hts iX6 hown hK hP 0 wMo_0 rfl 9 (by decide) q2 (fun _ h9 => h9) rfl dX6_markOf_154 ?_
      refine lv_iload_n hx hb dX6_markOf_157 rfl (lv_at hl 2 rfl) ?_
      obtain ⟨hin13, h⟩ := ck_some h
      refine va_iald hx hb hK hP 8 0 wMo_8 rfl hin13 dX6_markOf_158 ?_
      refine lv_aload_n hx hb dX6_markOf_159 rfl (lv_at hl 1 rfl) ?_
      refine va_get (D := D) (ci := 4) (C := RX6) (T := TX6) (N := 27) hx hb hts iX6 hown hK hP 0 wMo_0 rfl 5 (by decide) q4 (fun _ h9 => h9) rfl dX6_markOf_160 ?_
      refine lv_icmp_le (tgt := 170) hx hb dX6_markOf_163 (by decide) (fun c163 => ?_) (fun c163 => ?_)
      · have h := br_1 h c163
        refine lv_aload_n hx hb dX6_markOf_170 rfl (lv_at hl 1 rfl) ?_
        refine va_get (D := D) (ci := 4) (C := RX6) (T := TX6) (N := 27) hx hb hts iX6 hown hK hP 0 wMo_0 rfl 5 (by decide) q4 (fun _ h9 => h9) rfl dX6_markOf_171 ?_
        refine lv_aload_n hx hb dX6_markOf_174 rfl (lv_at hl 1 rfl) ?_
        refine va_get (D := D) (ci := 4) (C := RX6) (T := TX6) (N := 27) hx hb hts iX6 hown hK hP 0 wMo_0 rfl 9 (by decide) q2 (fun _ h9 => h9) rfl dX6_markOf_175 ?_
        refine lv_iload_n hx hb dX6_markOf_178 rfl (lv_at hl 2 rfl) ?_
        obtain ⟨hin14, h⟩ := ck_some h
        refine va_iald hx hb hK hP 8 0 wMo_8 rfl hin14 dX6_markOf_179 ?_
        refine lv_isub hx hb dX6_markOf_180 ?_
        refine lv_iconst (v := (4 : Int32)) hx hb dX6_markOf_181 (by decide) ?_
        refine lv_idiv hx hb dX6_markOf_182 (by decide) ?_
        cases h
        exact hret _ _ dX6_markOf_183
      · have h := br_0 h c163
        refine lv_iconst (v := (0 : Int32)) hx hb dX6_markOf_166 (by decide) ?_
        refine lv_goto (tgt := 183) hx hb dX6_markOf_167 (by decide) ?_
        cases h
        exact hret _ _ dX6_markOf_183
    have h := br_0 h z3_2
    by_cases z3_3 : x2 = (4 : Int32)
    · have h := br_1 h z3_3
      refine lv_tableIn (tgt := 184) (off := 181) hx hb dX6_markOf_3 (by rw [z3_3]; decide) (by rw [z3_3]; decide) (by rw [z3_3]; decide) (by decide) ?_
      refine lv_iconst (v := (0 : Int32)) hx hb dX6_markOf_184 (by decide) ?_
      refine lv_istore (lv' := [(4, .int (0 : Int32)), (3, .int (0 : Int32)), (0, .ref (am 0)), (1, .int x1), (2, .int x2)]) hx hb dX6_markOf_185 hl (by decide) rfl (fun ls hl => ?_)
      exact l187 x1 F (0 : Int32) (0 : Int32) h _ (lv_sub hl [2, 3, 1, 0] rfl)
    have h := br_0 h z3_3
    have e3_0 : x2.toInt ≠ 1 := fun e => z3_0 (Int32.toInt_inj.mp e)
    have e3_1 : x2.toInt ≠ 2 := fun e => z3_1 (Int32.toInt_inj.mp e)
    have e3_2 : x2.toInt ≠ 3 := fun e => z3_2 (Int32.toInt_inj.mp e)
    have e3_3 : x2.toInt ≠ 4 := fun e => z3_3 (Int32.toInt_inj.mp e)
    refine lv_tableOut (tgt := 228) hx hb dX6_markOf_3 (by omega) (by decide) ?_
    refine lv_iconst (v := (0 : Int32)) hx hb dX6_markOf_228 (by decide) ?_
    refine lv_istore (lv' := [(4, .int (0 : Int32)), (3, .int (0 : Int32)), (0, .ref (am 0)), (1, .int x1), (2, .int x2)]) hx hb dX6_markOf_229 hl (by decide) rfl (fun ls hl => ?_)
    exact l231 x1 F (0 : Int32) (0 : Int32) h _ (lv_sub hl [2, 3, 1, 0] rfl)
  exact key _ (fun pc ls hd => W.iret hx hb hr (fun t ht hW => ⟨_, rfl, rfl, ht⟩) (fun q h => by cases h) hd)
set_option maxHeartbeats 4000000 in
set_option maxRecDepth 100000 in
theorem kX6_mark (l : Launch) (D : va_G) (T : Nat → ClassId) (F : Nat) (am : Nat → Nat) (mguests : Int32) (mclause : Int32) (mdeeds : Int32) (masked : Int32) (mupper : Int64) (mlower : Int64) (mfinding : Int32) (mreadGuests : Int32) (misSight : Int32) (mat : Int32) (mrowSizes : Nat → Int32) (mrows : Nat → Int32) (mtextSizes : Nat → Int32) (mtexts : Nat → Int32) (mdoes : Nat → Int32) (mkinds : Nat → Int32) (msees : Nat → Int32) (mnow : Nat → Int32) (mbefore : Nat → Int32) (mkeeps : Nat → Int32) (mkept : Nat → Int32) (mfindings : Nat → Int32) (mread : Nat → Int32) (maside : Nat → Int32) (msteps : Nat → Int32) (mtried : Nat → Int32) (mbest : Nat → Int32) (x1 : Int32) (x2 : Int32) (r : Int32) (zmfinding : Int32) (zmfindings : Nat → Int32) (h : fX6_mark F mguests mclause mfinding mdoes mkinds msees mnow mfindings x1 x2 = some (r, zmfinding, zmfindings)) : ∀ sz : Nat, Met l yX6_mark wsX6_mark ({ frames := 3, cells := 0, slots := 0, locals := 70 } : Room) (va_Pc [.ref (am 0), .int x1, .int x2] (fun U => U.heap.size = sz ∧ va_P D vwCl (wMo T am mguests mclause mdeeds masked mupper mlower mfinding mreadGuests misSight mat mrowSizes mrows mtextSizes mtexts mdoes mkinds msees mnow mbefore mkeeps mkept mfindings mread maside msteps mtried mbest) U.heap ∧ KK D T U ∧ va_D (fun _ => True) (wMo T am mguests mclause mdeeds masked mupper mlower mfinding mreadGuests misSight mat mrowSizes mrows mtextSizes mtexts mdoes mkinds msees mnow mbefore mkeeps mkept mfindings mread maside msteps mtried mbest))) (va_Qi (fun r' (_ : Unit) => r' = r) (fun _ t => va_P D vwCl (wMo T am mguests mclause mdeeds masked mupper mlower zmfinding mreadGuests misSight mat mrowSizes mrows mtextSizes mtexts mdoes mkinds msees mnow mbefore mkeeps mkept zmfindings mread maside msteps mtried mbest) t.heap ∧ va_D (va_A (wMo T am mguests mclause mdeeds masked mupper mlower mfinding mreadGuests misSight mat mrowSizes mrows mtextSizes mtexts mdoes mkinds msees mnow mbefore mkeeps mkept mfindings mread maside msteps mtried mbest) sz) (wMo T am mguests mclause mdeeds masked mupper mlower zmfinding mreadGuests misSight mat mrowSizes mrows mtextSizes mtexts mdoes mkinds msees mnow mbefore mkeeps mkept zmfindings mread maside msteps mtried mbest)) (va_A (wMo T am mguests mclause mdeeds masked mupper mlower mfinding mreadGuests misSight mat mrowSizes mrows mtextSizes mtexts mdoes mkinds msees mnow mbefore mkeeps mkept mfindings mread maside msteps mtried mbest) sz)) 0 0 (va_A (wMo T am mguests mclause mdeeds masked mupper mlower mfinding mreadGuests misSight mat mrowSizes mrows mtextSizes mtexts mdoes mkinds msees mnow mbefore mkeeps mkept mfindings mread maside msteps mtried mbest) sz) := by
  intro sz
  refine Met.ofW (cc := cX6_mark) (maxL := 3) (ret := some .int) (by decide) rfl ?_
  intro p e s m args below meth c s₁ B hml hv
  obtain ⟨ha, hsz, hP, hKK, hD0⟩ := hv
  have hx := B.exec
  have hb := B.bytes
  have hr := B.returns
  have hts := atoms_spec (ws := wsX6_mark) B.pre
  have hown : s.vm.findClass RX6 = some m.cls := findClass_of_methodNamed B.named
  have hlocks := B.notSynchronized
  have hK := hKK.1
  have hFix : CallFix p m c cX6_mark 3 s args wsX6_mark RX6 := ⟨hx, hb, hml, hown, hts⟩
  have q1 := hts _ (List.mem_of_getElem? (i := 1) (show wsX6_mark[1]? = some (Cond.constantLong RX6 73 (5)) from rfl))
  have q2 := hts _ (List.mem_of_getElem? (i := 2) (show wsX6_mark[2]? = some (Cond.fieldLink RX6 25 "PartyWillModel" "kinds" "[I") from rfl))
  have q3 := hts _ (List.mem_of_getElem? (i := 3) (show wsX6_mark[3]? = some (Cond.fieldLink RX6 31 "PartyWillModel" "now" "[I") from rfl))
  have iX6 : ∀ w ∈ u_ws RX6 TX6 27, w ∈ wsX6_mark := fun w h => List.mem_cons_of_mem _ (List.mem_append_right _ (h))
  subst hsz
  have hD := hD0.self (sz := s.heap.size)
  generalize hAe : va_A (wMo T am mguests mclause mdeeds masked mupper mlower mfinding mreadGuests misSight mat mrowSizes mrows mtextSizes mtexts mdoes mkinds msees mnow mbefore mkeeps mkept mfindings mread maside msteps mtried mbest) s.heap.size = A at hD ⊢
  have hA : ∀ q : Nat, s.heap.size ≤ q → A q := fun q h => by rw [← hAe]; exact Or.inr h
  have hS : va_S A s.heap s.heap [] := va_S.rf
  have hP : va_P D vwCl (wMo T am mguests mclause mdeeds masked mupper mlower mfinding mreadGuests misSight mat mrowSizes mrows mtextSizes mtexts mdoes mkinds msees mnow mbefore mkeeps mkept mfindings mread maside msteps mtried mbest) s.heap := hP
  obtain ⟨ls, hl, e0⟩ := my_entry (m := m) (n := 3) ha (Nat.le_of_ble_eq_true rfl)
  rw [e0]
  have hl : lv_has ls 3 [(0, .ref (am 0)), (1, .int x1), (2, .int x2)] := hl
  have key : ∀ Q : State → Prop, (∀ (H : Heap) (locs : List Loc) (pc : Nat) (ls : Array Slot), va_P D vwCl (wMo T am mguests mclause mdeeds masked mupper mlower zmfinding mreadGuests misSight mat mrowSizes mrows mtextSizes mtexts mdoes mkinds msees mnow mbefore mkeeps mkept zmfindings mread maside msteps mtried mbest) H → va_D A (wMo T am mguests mclause mdeeds masked mupper mlower zmfinding mreadGuests misSight mat mrowSizes mrows mtextSizes mtexts mdoes mkinds msees mnow mbefore mkeeps mkept zmfindings mread maside msteps mtried mbest) → va_S A s.heap H locs → decode cX6_mark pc = .ok (.ireturn, 1) → W p l e ({ frames := 3, cells := 0, slots := 0, locals := 70 } : Room) s m args below meth c H locs 0 0 Q (F0 m pc ls [.int r])) → W p l e ({ frames := 3, cells := 0, slots := 0, locals := 70 } : Room) s m args below meth c s.heap [] 0 0 Q (F0 m 0 ls []) := by
    intro Q hret
    skip
    unfold fX6_mark at h
    refine lv_aload_n hx hb dX6_mark_0 rfl (lv_at hl 0 rfl) ?_
    refine lv_iload_n hx hb dX6_mark_1 rfl (lv_at hl 1 rfl) ?_
    obtain ⟨r2, hc, h⟩ := bd1_some h
    refine my_roz (va_Run.run (va_runV (As := [.int x1]) (rest := []) hFix (kX6_isGuest l D T F am mguests mclause mdeeds masked mupper mlower mfinding mreadGuests misSight mat mrowSizes mrows mtextSizes mtexts mdoes mkinds msees mnow mbefore mkeeps mkept mfindings mread maside msteps mtried mbest x1 r2 hc) (cwV 1 hts gX6_mark_X6_isGuest rfl rfl rfl ⟨rfl, hd_X6_isGuest⟩ ⟨Nat.le_of_ble_eq_true rfl, Nat.le_of_ble_eq_true rfl⟩) (preV_ro hP hKK (va_recv hK hP (ci := 4) (q0 := 0) rfl wMo_0)) rfl rfl hl.1 rfl (lv_room (Nat.le_of_ble_eq_true rfl)) dX6_mark_2 ⟨Nat.zero_le _, Nat.zero_le _⟩)) (fun hb2 => ?_)
    refine lv_if_eq (tgt := 20) hx hb dX6_mark_5 (by decide) (fun c5 => ?_) (fun c5 => ?_)
    · have h := br_1 h c5
      refine lv_iconst (v := (-1 : Int32)) hx hb dX6_mark_20 (by decide) ?_
      cases h
      exact hret _ _ _ _ hP hD hS dX6_mark_21
    · have h := br_0 h c5
      refine lv_iload_n hx hb dX6_mark_8 rfl (lv_at hl 2 rfl) ?_
      refine lv_i2l (v := (x2.toInt64)) hx hb dX6_mark_9 rfl ?_
      refine lv_lconst (v := (1 : Int64)) hx hb dX6_mark_10 (by decide) ?_
      refine lv_ldc2 (v := (5 : Int64)) hx hb hown q1 dX6_mark_11 ?_
      obtain ⟨r14, hc, h⟩ := bd1_some h
      refine my_roz (va_Run.run (va_runS (As := [.long (x2.toInt64), .long (1 : Int64), .long (5 : Int64)]) (rest := []) hFix (kX6_in l D T F (x2.toInt64) (1 : Int64) (5 : Int64) r14 hc) (va_cwS 3 hts gX6_mark_X6_in rfl rfl rfl hd_X6_in ⟨Nat.le_of_ble_eq_true rfl, Nat.le_of_ble_eq_true rfl⟩) (preS_ro va_nil hKK) rfl rfl hl.1 rfl (lv_room (Nat.le_of_ble_eq_true rfl)) dX6_mark_14 ⟨Nat.zero_le _, Nat.zero_le _⟩)) (fun hb14 => ?_)
      refine lv_if_ne (tgt := 22) hx hb dX6_mark_17 (by decide) (fun c17 => ?_) (fun c17 => ?_)
      · have h := br_0 h c17
        refine lv_aload_n hx hb dX6_mark_22 rfl (lv_at hl 0 rfl) ?_
        refine va_get (D := D) (ci := 4) (C := RX6) (T := TX6) (N := 27) hx hb hts iX6 hown hK hP 0 wMo_0 rfl 7 (by decide) q2 (fun _ h9 => h9) rfl dX6_mark_23 ?_
        refine lv_iload_n hx hb dX6_mark_26 rfl (lv_at hl 1 rfl) ?_
        obtain ⟨hin1, h⟩ := ck_some h
        refine va_iald hx hb hK hP 6 0 wMo_6 rfl hin1 dX6_mark_27 ?_
        refine lv_iload_n hx hb dX6_mark_28 rfl (lv_at hl 2 rfl) ?_
        obtain ⟨r29, hc, h⟩ := bd1_some h
        refine my_roz (va_Run.run (va_runS (As := [.int (mkinds x1.toNatClampNeg), .int x2]) (rest := []) hFix (kX6_isOf l D T F (mkinds x1.toNatClampNeg) x2 r29 hc) (va_cwS 2 hts gX6_mark_X6_isOf rfl rfl rfl hd_X6_isOf ⟨Nat.le_of_ble_eq_true rfl, Nat.le_of_ble_eq_true rfl⟩) (preS_ro va_nil hKK) rfl rfl hl.1 rfl (lv_room (Nat.le_of_ble_eq_true rfl)) dX6_mark_29 ⟨Nat.zero_le _, Nat.zero_le _⟩)) (fun hb29 => ?_)
        refine lv_if_ne (tgt := 41) hx hb dX6_mark_32 (by decide) (fun c32 => ?_) (fun c32 => ?_)
        · have h := br_0 h c32
          refine lv_aload_n hx hb dX6_mark_41 rfl (lv_at hl 0 rfl) ?_
          refine va_get (D := D) (ci := 4) (C := RX6) (T := TX6) (N := 27) hx hb hts iX6 hown hK hP 0 wMo_0 rfl 9 (by decide) q3 (fun _ h9 => h9) rfl dX6_mark_42 ?_
          refine lv_bipush (v := (6 : Int32)) hx hb dX6_mark_45 (by decide) ?_
          refine va_iald hx hb hK hP 8 0 wMo_8 rfl (show ¬ ((6 : Int32) < 0 ∨ 7 ≤ (6 : Int32).toNatClampNeg) by decide) dX6_mark_47 ?_
          refine lv_iload_n hx hb dX6_mark_48 rfl (lv_at hl 1 rfl) ?_
          obtain ⟨r49, hc, h⟩ := bd1_some h
          refine my_roz (va_Run.run (va_runS (As := [.int (mnow (6 : Int32).toNatClampNeg), .int x1]) (rest := []) hFix (kX6_has l D T F (mnow (6 : Int32).toNatClampNeg) x1 r49 hc) (va_cwS 2 hts gX6_mark_X6_has rfl rfl rfl hd_X6_has ⟨Nat.le_of_ble_eq_true rfl, Nat.le_of_ble_eq_true rfl⟩) (preS_ro va_nil hKK) rfl rfl hl.1 rfl (lv_room (Nat.le_of_ble_eq_true rfl)) dX6_mark_49 ⟨Nat.zero_le _, Nat.zero_le _⟩)) (fun hb49 => ?_)
          refine lv_if_eq (tgt := 59) hx hb dX6_mark_52 (by decide) (fun c52 => ?_) (fun c52 => ?_)
          · have h := br_1 h c52
            refine lv_aload_n hx hb dX6_mark_59 rfl (lv_at hl 0 rfl) ?_
            refine lv_iload_n hx hb dX6_mark_60 rfl (lv_at hl 1 rfl) ?_
            refine lv_iload_n hx hb dX6_mark_61 rfl (lv_at hl 2 rfl) ?_
            obtain ⟨r62, hc, h⟩ := bd1_some h
            refine my_roi (va_Run.run (va_runV (As := [.int x1, .int x2]) (rest := []) hFix (kX6_markOf l D T F am mguests mclause mdeeds masked mupper mlower mfinding mreadGuests misSight mat mrowSizes mrows mtextSizes mtexts mdoes mkinds msees mnow mbefore mkeeps mkept mfindings mread maside msteps mtried mbest x1 x2 r62 hc) (cwV 2 hts gX6_mark_X6_markOf rfl rfl rfl ⟨rfl, hd_X6_markOf⟩ ⟨Nat.le_of_ble_eq_true rfl, Nat.le_of_ble_eq_true rfl⟩) (preV_ro hP hKK (va_recv hK hP (ci := 4) (q0 := 0) rfl wMo_0)) rfl rfl hl.1 rfl (lv_room (Nat.le_of_ble_eq_true rfl)) dX6_mark_62 ⟨Nat.zero_le _, Nat.zero_le _⟩)) ?_
            cases h
            exact hret _ _ _ _ hP hD hS dX6_mark_65
          · have h := br_0 h c52
            refine lv_iconst (v := (0 : Int32)) hx hb dX6_mark_55 (by decide) ?_
            refine lv_goto (tgt := 65) hx hb dX6_mark_56 (by decide) ?_
            cases h
            exact hret _ _ _ _ hP hD hS dX6_mark_65
        · have h := br_1 h c32
          refine lv_aload_n hx hb dX6_mark_35 rfl (lv_at hl 0 rfl) ?_
          refine lv_iconst (v := (3 : Int32)) hx hb dX6_mark_36 (by decide) ?_
          obtain ⟨r37, w37_mfinding, w37_mfindings, hc, h⟩ := bd3_some h
          have hFc := my_freeS hD hS hA
          refine my_rwi (va_runV (As := [.int (3 : Int32)]) (rest := []) hFix (kX6_found l D T F am mguests mclause mdeeds masked mupper mlower mfinding mreadGuests misSight mat mrowSizes mrows mtextSizes mtexts mdoes mkinds msees mnow mbefore mkeeps mkept mfindings mread maside msteps mtried mbest (3 : Int32) r37 w37_mfinding w37_mfindings hc) (cwV 1 hts gX6_mark_X6_found rfl rfl rfl ⟨rfl, hd_X6_found⟩ ⟨Nat.le_of_ble_eq_true rfl, Nat.le_of_ble_eq_true rfl⟩) (preV_rw hP hKK hD (va_recv hK hP (ci := 4) (q0 := 0) rfl wMo_0)) rfl rfl hl.1 rfl (lv_room (Nat.le_of_ble_eq_true rfl)) dX6_mark_37 ⟨Nat.zero_le _, Nat.zero_le _⟩) hS hFc (fun H1 locs hP1 hD1 hz1 hk1 hS => ?_)
          have hP : va_P D vwCl (wMo T am mguests mclause mdeeds masked mupper mlower w37_mfinding mreadGuests misSight mat mrowSizes mrows mtextSizes mtexts mdoes mkinds msees mnow mbefore mkeeps mkept w37_mfindings mread maside msteps mtried mbest) H1 := hP1
          have hD : va_D A (wMo T am mguests mclause mdeeds masked mupper mlower w37_mfinding mreadGuests misSight mat mrowSizes mrows mtextSizes mtexts mdoes mkinds msees mnow mbefore mkeeps mkept w37_mfindings mread maside msteps mtried mbest) := hD1.weaken (fun _ q _ h => hFc q.1 h)
          generalize H1 = H at hP hS ⊢
          cases h
          exact hret _ _ _ _ hP hD hS dX6_mark_40
      · have h := br_1 h c17
        refine lv_iconst (v := (-1 : Int32)) hx hb dX6_mark_20 (by decide) ?_
        cases h
        exact hret _ _ _ _ hP hD hS dX6_mark_21
  exact key _ (fun H locs pc ls hP hD hS hd => W.iret hx hb hr (fun t ht hW => ⟨⟨_, (), rfl, rfl, by show _ ∧ _; rw [ht]; exact ⟨hP, hD⟩⟩, hS.F ht⟩) hS.2.2 hd)
set_option maxHeartbeats 4000000 in
set_option maxRecDepth 100000 in
theorem kX6_does (l : Launch) (D : va_G) (T : Nat → ClassId) (F : Nat) (am : Nat → Nat) (mguests : Int32) (mclause : Int32) (mdeeds : Int32) (masked : Int32) (mupper : Int64) (mlower : Int64) (mfinding : Int32) (mreadGuests : Int32) (misSight : Int32) (mat : Int32) (mrowSizes : Nat → Int32) (mrows : Nat → Int32) (mtextSizes : Nat → Int32) (mtexts : Nat → Int32) (mdoes : Nat → Int32) (mkinds : Nat → Int32) (msees : Nat → Int32) (mnow : Nat → Int32) (mbefore : Nat → Int32) (mkeeps : Nat → Int32) (mkept : Nat → Int32) (mfindings : Nat → Int32) (mread : Nat → Int32) (maside : Nat → Int32) (msteps : Nat → Int32) (mtried : Nat → Int32) (mbest : Nat → Int32) (x1 : Int32) (x2 : Int32) (r : Int32) (zmdoes : Nat → Int32) (h : fX6_does F mguests mdoes x1 x2 = some (r, zmdoes)) : ∀ sz : Nat, Met l yX6_does wsX6_does ({ frames := 2, cells := 0, slots := 0, locals := 45 } : Room) (va_Pc [.ref (am 0), .int x1, .int x2] (fun U => U.heap.size = sz ∧ va_P D vwCl (wMo T am mguests mclause mdeeds masked mupper mlower mfinding mreadGuests misSight mat mrowSizes mrows mtextSizes mtexts mdoes mkinds msees mnow mbefore mkeeps mkept mfindings mread maside msteps mtried mbest) U.heap ∧ KK D T U ∧ va_D (fun _ => True) (wMo T am mguests mclause mdeeds masked mupper mlower mfinding mreadGuests misSight mat mrowSizes mrows mtextSizes mtexts mdoes mkinds msees mnow mbefore mkeeps mkept mfindings mread maside msteps mtried mbest))) (va_Qi (fun r' (_ : Unit) => r' = r) (fun _ t => va_P D vwCl (wMo T am mguests mclause mdeeds masked mupper mlower mfinding mreadGuests misSight mat mrowSizes mrows mtextSizes mtexts zmdoes mkinds msees mnow mbefore mkeeps mkept mfindings mread maside msteps mtried mbest) t.heap ∧ va_D (va_A (wMo T am mguests mclause mdeeds masked mupper mlower mfinding mreadGuests misSight mat mrowSizes mrows mtextSizes mtexts mdoes mkinds msees mnow mbefore mkeeps mkept mfindings mread maside msteps mtried mbest) sz) (wMo T am mguests mclause mdeeds masked mupper mlower mfinding mreadGuests misSight mat mrowSizes mrows mtextSizes mtexts zmdoes mkinds msees mnow mbefore mkeeps mkept mfindings mread maside msteps mtried mbest)) (va_A (wMo T am mguests mclause mdeeds masked mupper mlower mfinding mreadGuests misSight mat mrowSizes mrows mtextSizes mtexts mdoes mkinds msees mnow mbefore mkeeps mkept mfindings mread maside msteps mtried mbest) sz)) 0 0 (va_A (wMo T am mguests mclause mdeeds masked mupper mlower mfinding mreadGuests misSight mat mrowSizes mrows mtextSizes mtexts mdoes mkinds msees mnow mbefore mkeeps mkept mfindings mread maside msteps mtried mbest) sz) := by
  intro sz
  refine Met.ofW (cc := cX6_does) (maxL := 4) (ret := some .int) (by decide) rfl ?_
  intro p e s m args below meth c s₁ B hml hv
  obtain ⟨ha, hsz, hP, hKK, hD0⟩ := hv
  have hx := B.exec
  have hb := B.bytes
  have hr := B.returns
  have hts := atoms_spec (ws := wsX6_does) B.pre
  have hown : s.vm.findClass RX6 = some m.cls := findClass_of_methodNamed B.named
  have hlocks := B.notSynchronized
  have hK := hKK.1
  have hFix : CallFix p m c cX6_does 4 s args wsX6_does RX6 := ⟨hx, hb, hml, hown, hts⟩
  have q1 := hts _ (List.mem_of_getElem? (i := 1) (show wsX6_does[1]? = some (Cond.constantLong RX6 183 (-4)) from rfl))
  have q2 := hts _ (List.mem_of_getElem? (i := 2) (show wsX6_does[2]? = some (Cond.constantLong RX6 73 (5)) from rfl))
  have q3 := hts _ (List.mem_of_getElem? (i := 3) (show wsX6_does[3]? = some (Cond.fieldLink RX6 131 "PartyWillModel" "guests" "I") from rfl))
  have q4 := hts _ (List.mem_of_getElem? (i := 4) (show wsX6_does[4]? = some (Cond.fieldLink RX6 22 "PartyWillModel" "does" "[I") from rfl))
  have iX6 : ∀ w ∈ u_ws RX6 TX6 27, w ∈ wsX6_does := fun w h => List.mem_cons_of_mem _ (List.mem_append_right _ (h))
  subst hsz
  have hD := hD0.self (sz := s.heap.size)
  generalize hAe : va_A (wMo T am mguests mclause mdeeds masked mupper mlower mfinding mreadGuests misSight mat mrowSizes mrows mtextSizes mtexts mdoes mkinds msees mnow mbefore mkeeps mkept mfindings mread maside msteps mtried mbest) s.heap.size = A at hD ⊢
  have hA : ∀ q : Nat, s.heap.size ≤ q → A q := fun q h => by rw [← hAe]; exact Or.inr h
  have hS : va_S A s.heap s.heap [] := va_S.rf
  have hP : va_P D vwCl (wMo T am mguests mclause mdeeds masked mupper mlower mfinding mreadGuests misSight mat mrowSizes mrows mtextSizes mtexts mdoes mkinds msees mnow mbefore mkeeps mkept mfindings mread maside msteps mtried mbest) s.heap := hP
  obtain ⟨ls, hl, e0⟩ := my_entry (m := m) (n := 4) ha (Nat.le_of_ble_eq_true rfl)
  rw [e0]
  have hl : lv_has ls 4 [(0, .ref (am 0)), (1, .int x1), (2, .int x2)] := hl
  have key : ∀ Q : State → Prop, (∀ (H : Heap) (locs : List Loc) (pc : Nat) (ls : Array Slot), va_P D vwCl (wMo T am mguests mclause mdeeds masked mupper mlower mfinding mreadGuests misSight mat mrowSizes mrows mtextSizes mtexts zmdoes mkinds msees mnow mbefore mkeeps mkept mfindings mread maside msteps mtried mbest) H → va_D A (wMo T am mguests mclause mdeeds masked mupper mlower mfinding mreadGuests misSight mat mrowSizes mrows mtextSizes mtexts zmdoes mkinds msees mnow mbefore mkeeps mkept mfindings mread maside msteps mtried mbest) → va_S A s.heap H locs → decode cX6_does pc = .ok (.ireturn, 1) → W p l e ({ frames := 2, cells := 0, slots := 0, locals := 45 } : Room) s m args below meth c H locs 0 0 Q (F0 m pc ls [.int r])) → W p l e ({ frames := 2, cells := 0, slots := 0, locals := 45 } : Room) s m args below meth c s.heap [] 0 0 Q (F0 m 0 ls []) := by
    intro Q hret
    skip
    unfold fX6_does at h
    refine lv_iload_n hx hb dX6_does_0 rfl (lv_at hl 1 rfl) ?_
    obtain ⟨r1, hc, h⟩ := bd1_some h
    refine my_roz (va_Run.run (va_runS (As := [.int x1]) (rest := []) hFix (kX6_isTune l D T F x1 r1 hc) (va_cwS 1 hts gX6_does_X6_isTune rfl rfl rfl hd_X6_isTune ⟨Nat.le_of_ble_eq_true rfl, Nat.le_of_ble_eq_true rfl⟩) (preS_ro va_nil hKK) rfl rfl hl.1 rfl (lv_room (Nat.le_of_ble_eq_true rfl)) dX6_does_1 ⟨Nat.zero_le _, Nat.zero_le _⟩)) (fun hb1 => ?_)
    refine lv_if_eq (tgt := 21) hx hb dX6_does_4 (by decide) (fun c4 => ?_) (fun c4 => ?_)
    · have h := br_1 h c4
      refine lv_iconst (v := (-1 : Int32)) hx hb dX6_does_21 (by decide) ?_
      cases h
      exact hret _ _ _ _ hP hD hS dX6_does_22
    · have h := br_0 h c4
      refine lv_iload_n hx hb dX6_does_7 rfl (lv_at hl 2 rfl) ?_
      refine lv_i2l (v := (x2.toInt64)) hx hb dX6_does_8 rfl ?_
      refine lv_ldc2 (v := (-4 : Int64)) hx hb hown q1 dX6_does_9 ?_
      refine lv_ldc2 (v := (5 : Int64)) hx hb hown q2 dX6_does_12 ?_
      obtain ⟨r15, hc, h⟩ := bd1_some h
      refine my_roz (va_Run.run (va_runS (As := [.long (x2.toInt64), .long (-4 : Int64), .long (5 : Int64)]) (rest := []) hFix (kX6_in l D T F (x2.toInt64) (-4 : Int64) (5 : Int64) r15 hc) (va_cwS 3 hts gX6_does_X6_in rfl rfl rfl hd_X6_in ⟨Nat.le_of_ble_eq_true rfl, Nat.le_of_ble_eq_true rfl⟩) (preS_ro va_nil hKK) rfl rfl hl.1 rfl (lv_room (Nat.le_of_ble_eq_true rfl)) dX6_does_15 ⟨Nat.zero_le _, Nat.zero_le _⟩)) (fun hb15 => ?_)
      refine lv_if_ne (tgt := 23) hx hb dX6_does_18 (by decide) (fun c18 => ?_) (fun c18 => ?_)
      · have h := br_0 h c18
        refine lv_aload_n hx hb dX6_does_23 rfl (lv_at hl 0 rfl) ?_
        refine va_get (D := D) (ci := 4) (C := RX6) (T := TX6) (N := 27) hx hb hts iX6 hown hK hP 0 wMo_0 rfl 4 (by decide) q3 (fun _ h9 => h9) rfl dX6_does_24 ?_
        refine lv_if_ne (tgt := 33) hx hb dX6_does_27 (by decide) (fun c27 => ?_) (fun c27 => ?_)
        · have h := br_0 h c27
          refine lv_aload_n hx hb dX6_does_33 rfl (lv_at hl 0 rfl) ?_
          refine va_get (D := D) (ci := 4) (C := RX6) (T := TX6) (N := 27) hx hb hts iX6 hown hK hP 0 wMo_0 rfl 6 (by decide) q4 (fun _ h9 => h9) rfl dX6_does_34 ?_
          refine lv_iload_n hx hb dX6_does_37 rfl (lv_at hl 1 rfl) ?_
          obtain ⟨hin1, h⟩ := ck_some h
          refine va_iald hx hb hK hP 5 0 wMo_5 rfl hin1 dX6_does_38 ?_
          refine lv_istore_n (lv' := [(3, .int (mdoes x1.toNatClampNeg)), (0, .ref (am 0)), (1, .int x1), (2, .int x2)]) hx hb dX6_does_39 rfl hl (by decide) rfl (fun ls hl => ?_)
          refine lv_aload_n hx hb dX6_does_40 rfl (lv_at hl 1 rfl) ?_
          refine va_get (D := D) (ci := 4) (C := RX6) (T := TX6) (N := 27) hx hb hts iX6 hown hK hP 0 wMo_0 rfl 6 (by decide) q4 (fun _ h9 => h9) rfl dX6_does_41 ?_
          refine lv_iload_n hx hb dX6_does_44 rfl (lv_at hl 2 rfl) ?_
          refine lv_iload_n hx hb dX6_does_45 rfl (lv_at hl 3 rfl) ?_
          obtain ⟨hin2, h⟩ := ck_some h
          refine va_iast hx hb hK hP hD hS 5 0 wMo_5 rfl hin2 dX6_does_46 (fun H locs hP hD hS => ?_)
          have hP : va_P D vwCl (wMo T am mguests mclause mdeeds masked mupper mlower mfinding mreadGuests misSight mat mrowSizes mrows mtextSizes mtexts (upd mdoes x1.toNatClampNeg x2) mkinds msees mnow mbefore mkeeps mkept mfindings mread maside msteps mtried mbest) H := hP
          have hD : va_D A (wMo T am mguests mclause mdeeds masked mupper mlower mfinding mreadGuests misSight mat mrowSizes mrows mtextSizes mtexts (upd mdoes x1.toNatClampNeg x2) mkinds msees mnow mbefore mkeeps mkept mfindings mread maside msteps mtried mbest) := hD
          refine lv_iload_n hx hb dX6_does_47 rfl (lv_at hl 0 rfl) ?_
          cases h
          exact hret _ _ _ _ hP hD hS dX6_does_48
        · have h := br_1 h c27
          refine lv_bipush (v := (-4 : Int32)) hx hb dX6_does_30 (by decide) ?_
          cases h
          exact hret _ _ _ _ hP hD hS dX6_does_32
      · have h := br_1 h c18
        refine lv_iconst (v := (-1 : Int32)) hx hb dX6_does_21 (by decide) ?_
        cases h
        exact hret _ _ _ _ hP hD hS dX6_does_22
  exact key _ (fun H locs pc ls hP hD hS hd => W.iret hx hb hr (fun t ht hW => ⟨⟨_, (), rfl, rfl, by show _ ∧ _; rw [ht]; exact ⟨hP, hD⟩⟩, hS.F ht⟩) hS.2.2 hd)
set_option maxHeartbeats 4000000 in
set_option maxRecDepth 100000 in
theorem kX6_copies (l : Launch) (D : va_G) (T : Nat → ClassId) (F : Nat) (a0 : Nat) (b0 : Nat) (n1 : Nat) (n2 : Nat) (f1 : Nat → Int32) (f2 : Nat → Int32) (x1 : Int32) (x3 : Int32) (x4 : Int32) (zf2 : Nat → Int32) (h : fX6_copies F n1 n2 f1 f2 x1 x3 x4 = some (zf2)) : ∀ sz : Nat, Met l yX6_copies wsX6_copies ({ frames := 0, cells := 0, slots := 0, locals := 0 } : Room) (va_Pc [.ref a0, .int x1, .ref b0, .int x3, .int x4] (fun U => U.heap.size = sz ∧ va_P D vwCl (wA2 T a0 b0 n1 n2 f1 f2) U.heap ∧ KK D T U ∧ va_D (fun _ => True) (wA2 T a0 b0 n1 n2 f1 f2))) (va_Qv (fun _ : Unit => True) (fun _ t => va_P D vwCl (wA2 T a0 b0 n1 n2 f1 zf2) t.heap ∧ va_D (va_A (wA2 T a0 b0 n1 n2 f1 f2) sz) (wA2 T a0 b0 n1 n2 f1 zf2)) (va_A (wA2 T a0 b0 n1 n2 f1 f2) sz)) 0 0 (va_A (wA2 T a0 b0 n1 n2 f1 f2) sz) := by
  intro sz
  refine Met.ofW (cc := cX6_copies) (maxL := 6) (ret := none) (by decide) rfl ?_
  intro p e s m args below meth c s₁ B hml hv
  obtain ⟨ha, hsz, hP, hKK, hD0⟩ := hv
  have hx := B.exec
  have hb := B.bytes
  have hr := B.returns
  have hts := atoms_spec (ws := wsX6_copies) B.pre
  have hown : s.vm.findClass RX6 = some m.cls := findClass_of_methodNamed B.named
  have hlocks := B.notSynchronized
  have hK := hKK.1
  have hFix : CallFix p m c cX6_copies 6 s args wsX6_copies RX6 := ⟨hx, hb, hml, hown, hts⟩
  subst hsz
  have hD := hD0.self (sz := s.heap.size)
  generalize hAe : va_A (wA2 T a0 b0 n1 n2 f1 f2) s.heap.size = A at hD ⊢
  have hA : ∀ q : Nat, s.heap.size ≤ q → A q := fun q h => by rw [← hAe]; exact Or.inr h
  have hS : va_S A s.heap s.heap [] := va_S.rf
  have hP : va_P D vwCl (wA2 T a0 b0 n1 n2 f1 f2) s.heap := hP
  obtain ⟨ls, hl, e0⟩ := my_entry (m := m) (n := 6) ha (Nat.le_of_ble_eq_true rfl)
  rw [e0]
  have hl : lv_has ls 6 [(0, .ref a0), (1, .int x1), (2, .ref b0), (3, .int x3), (4, .int x4)] := hl
  have key : ∀ Q : State → Prop, (∀ (H : Heap) (locs : List Loc) (pc : Nat) (ls : Array Slot), va_P D vwCl (wA2 T a0 b0 n1 n2 f1 zf2) H → va_D A (wA2 T a0 b0 n1 n2 f1 zf2) → va_S A s.heap H locs → decode cX6_copies pc = .ok (.return_, 1) → W p l e ({ frames := 0, cells := 0, slots := 0, locals := 0 } : Room) s m args below meth c H locs 0 0 Q (F0 m pc ls [])) → W p l e ({ frames := 0, cells := 0, slots := 0, locals := 0 } : Room) s m args below meth c s.heap [] 0 0 Q (F0 m 0 ls []) := by
    intro Q hret
    skip
    have l3 : ∀ x1 : Int32, ∀ x3 : Int32, ∀ x4 : Int32, ∀ nu : Nat, ∀ x5 : Int32, ∀ f2 : Nat → Int32, fX6_copies_l3 F n1 n2 f1 x1 x3 x4 nu x5 f2 = some (zf2) → ∀ (H : Heap) (locs : List Loc), va_P D vwCl (wA2 T a0 b0 n1 n2 f1 f2) H → va_D A (wA2 T a0 b0 n1 n2 f1 f2) → va_S A s.heap H locs → ∀ (ls : Array Slot), lv_has ls 6 [(0, .ref a0), (1, .int x1), (2, .ref b0), (3, .int x3), (4, .int x4), (5, .int x5)] → W p l e ({ frames := 0, cells := 0, slots := 0, locals := 0 } : Room) s m args below meth c H locs 0 0 Q (F0 m 3 ls []) := by
      intro x1 x3 x4
      intro nu
      induction nu with
      | zero => intro x5 f2 h; exact none_some h
      | succ nu3 ih3 =>
        intro x5 f2 h H locs hP hD hS ls hl
        have h : fX6_copies_l3_b F n1 n2 f1 x1 x3 x4 (fX6_copies_l3 F n1 n2 f1 x1 x3 x4 nu3) x5 f2 = some (zf2) := h
        unfold fX6_copies_l3_b at h
        refine lv_iload hx hb dX6_copies_3 (lv_at hl 5 rfl) ?_
        refine lv_iload hx hb dX6_copies_5 (lv_at hl 4 rfl) ?_
        refine lv_icmp_ge (tgt := 28) hx hb dX6_copies_7 (by decide) (fun c7 => ?_) (fun c7 => ?_)
        · have h := br_1 h c7
          cases h
          exact hret _ _ _ _ hP hD hS dX6_copies_28
        · have h := br_0 h c7
          refine lv_aload_n hx hb dX6_copies_10 rfl (lv_at hl 2 rfl) ?_
          refine lv_iload_n hx hb dX6_copies_11 rfl (lv_at hl 3 rfl) ?_
          refine lv_iload hx hb dX6_copies_12 (lv_at hl 5 rfl) ?_
          refine lv_iadd hx hb dX6_copies_14 ?_
          refine lv_aload_n hx hb dX6_copies_15 rfl (lv_at hl 0 rfl) ?_
          refine lv_iload_n hx hb dX6_copies_16 rfl (lv_at hl 1 rfl) ?_
          refine lv_iload hx hb dX6_copies_17 (lv_at hl 5 rfl) ?_
          refine lv_iadd hx hb dX6_copies_19 ?_
          obtain ⟨hin1, h⟩ := ck_some h
          refine va_iald hx hb hK hP 0 0 wA2_0 rfl hin1 dX6_copies_20 ?_
          obtain ⟨hin2, h⟩ := ck_some h
          refine va_iast hx hb hK hP hD hS 1 0 wA2_1 rfl hin2 dX6_copies_21 (fun H locs hP hD hS => ?_)
          have hP : va_P D vwCl (wA2 T a0 b0 n1 n2 f1 (upd f2 (x3 + x5).toNatClampNeg (f1 (x1 + x5).toNatClampNeg))) H := hP
          have hD : va_D A (wA2 T a0 b0 n1 n2 f1 (upd f2 (x3 + x5).toNatClampNeg (f1 (x1 + x5).toNatClampNeg))) := hD
          refine lv_iinc (v := (x5 + (1 : Int32))) (lv' := [(5, .int (x5 + (1 : Int32))), (0, .ref a0), (1, .int x1), (2, .ref b0), (3, .int x3), (4, .int x4)]) hx hb dX6_copies_22 hl (k := 5) rfl rfl (by decide) rfl (fun ls hl => ?_)
          refine lv_goto (tgt := 3) hx hb dX6_copies_25 (by decide) ?_
          exact ih3 (x5 + (1 : Int32)) (upd f2 (x3 + x5).toNatClampNeg (f1 (x1 + x5).toNatClampNeg)) h _ _ hP hD hS _ (lv_sub hl [1, 2, 3, 4, 5, 0] rfl)
    unfold fX6_copies at h
    refine lv_iconst (v := (0 : Int32)) hx hb dX6_copies_0 (by decide) ?_
    refine lv_istore (lv' := [(5, .int (0 : Int32)), (0, .ref a0), (1, .int x1), (2, .ref b0), (3, .int x3), (4, .int x4)]) hx hb dX6_copies_1 hl (by decide) rfl (fun ls hl => ?_)
    exact l3 x1 x3 x4 F (0 : Int32) f2 h _ _ hP hD hS _ (lv_sub hl [1, 2, 3, 4, 5, 0] rfl)
  exact key _ (fun H locs pc ls hP hD hS hd => W.vret hx hb hr (fun t ht hW => ⟨⟨(), rfl, trivial, by show _ ∧ _; rw [ht]; exact ⟨hP, hD⟩⟩, hS.F ht⟩) hS.2.2 hd)
set_option maxHeartbeats 4000000 in
set_option maxRecDepth 100000 in
theorem kX6_remember (l : Launch) (D : va_G) (T : Nat → ClassId) (F : Nat) (am : Nat → Nat) (mguests : Int32) (mclause : Int32) (mdeeds : Int32) (masked : Int32) (mupper : Int64) (mlower : Int64) (mfinding : Int32) (mreadGuests : Int32) (misSight : Int32) (mat : Int32) (mrowSizes : Nat → Int32) (mrows : Nat → Int32) (mtextSizes : Nat → Int32) (mtexts : Nat → Int32) (mdoes : Nat → Int32) (mkinds : Nat → Int32) (msees : Nat → Int32) (mnow : Nat → Int32) (mbefore : Nat → Int32) (mkeeps : Nat → Int32) (mkept : Nat → Int32) (mfindings : Nat → Int32) (mread : Nat → Int32) (maside : Nat → Int32) (msteps : Nat → Int32) (mtried : Nat → Int32) (mbest : Nat → Int32) (zmdeeds : Int32) (zmbefore : Nat → Int32) (h : fX6_remember F mdeeds mnow mbefore = some (zmdeeds, zmbefore)) : ∀ sz : Nat, Met l yX6_remember wsX6_remember ({ frames := 1, cells := 0, slots := 0, locals := 25 } : Room) (va_Pc [.ref (am 0)] (fun U => U.heap.size = sz ∧ va_P D vwCl (wMo T am mguests mclause mdeeds masked mupper mlower mfinding mreadGuests misSight mat mrowSizes mrows mtextSizes mtexts mdoes mkinds msees mnow mbefore mkeeps mkept mfindings mread maside msteps mtried mbest) U.heap ∧ KK D T U ∧ va_D (fun _ => True) (wMo T am mguests mclause mdeeds masked mupper mlower mfinding mreadGuests misSight mat mrowSizes mrows mtextSizes mtexts mdoes mkinds msees mnow mbefore mkeeps mkept mfindings mread maside msteps mtried mbest))) (va_Qv (fun _ : Unit => True) (fun _ t => va_P D vwCl (wMo T am mguests mclause zmdeeds masked mupper mlower mfinding mreadGuests misSight mat mrowSizes mrows mtextSizes mtexts mdoes mkinds msees mnow zmbefore mkeeps mkept mfindings mread maside msteps mtried mbest) t.heap ∧ va_D (va_A (wMo T am mguests mclause mdeeds masked mupper mlower mfinding mreadGuests misSight mat mrowSizes mrows mtextSizes mtexts mdoes mkinds msees mnow mbefore mkeeps mkept mfindings mread maside msteps mtried mbest) sz) (wMo T am mguests mclause zmdeeds masked mupper mlower mfinding mreadGuests misSight mat mrowSizes mrows mtextSizes mtexts mdoes mkinds msees mnow zmbefore mkeeps mkept mfindings mread maside msteps mtried mbest)) (va_A (wMo T am mguests mclause mdeeds masked mupper mlower mfinding mreadGuests misSight mat mrowSizes mrows mtextSizes mtexts mdoes mkinds msees mnow mbefore mkeeps mkept mfindings mread maside msteps mtried mbest) sz)) 0 0 (va_A (wMo T am mguests mclause mdeeds masked mupper mlower mfinding mreadGuests misSight mat mrowSizes mrows mtextSizes mtexts mdoes mkinds msees mnow mbefore mkeeps mkept mfindings mread maside msteps mtried mbest) sz) := by
  intro sz
  refine Met.ofW (cc := cX6_remember) (maxL := 1) (ret := none) (by decide) rfl ?_
  intro p e s m args below meth c s₁ B hml hv
  obtain ⟨ha, hsz, hP, hKK, hD0⟩ := hv
  have hx := B.exec
  have hb := B.bytes
  have hr := B.returns
  have hts := atoms_spec (ws := wsX6_remember) B.pre
  have hown : s.vm.findClass RX6 = some m.cls := findClass_of_methodNamed B.named
  have hlocks := B.notSynchronized
  have hK := hKK.1
  have hFix : CallFix p m c cX6_remember 1 s args wsX6_remember RX6 := ⟨hx, hb, hml, hown, hts⟩
  have q1 := hts _ (List.mem_of_getElem? (i := 1) (show wsX6_remember[1]? = some (Cond.fieldLink RX6 31 "PartyWillModel" "now" "[I") from rfl))
  have q2 := hts _ (List.mem_of_getElem? (i := 2) (show wsX6_remember[2]? = some (Cond.fieldLink RX6 34 "PartyWillModel" "before" "[I") from rfl))
  have q3 := hts _ (List.mem_of_getElem? (i := 3) (show wsX6_remember[3]? = some (Cond.fieldLink RX6 137 "PartyWillModel" "deeds" "I") from rfl))
  have iX6 : ∀ w ∈ u_ws RX6 TX6 27, w ∈ wsX6_remember := fun w h => List.mem_cons_of_mem _ (List.mem_append_right _ (h))
  subst hsz
  have hD := hD0.self (sz := s.heap.size)
  generalize hAe : va_A (wMo T am mguests mclause mdeeds masked mupper mlower mfinding mreadGuests misSight mat mrowSizes mrows mtextSizes mtexts mdoes mkinds msees mnow mbefore mkeeps mkept mfindings mread maside msteps mtried mbest) s.heap.size = A at hD ⊢
  have hA : ∀ q : Nat, s.heap.size ≤ q → A q := fun q h => by rw [← hAe]; exact Or.inr h
  have hS : va_S A s.heap s.heap [] := va_S.rf
  have hP : va_P D vwCl (wMo T am mguests mclause mdeeds masked mupper mlower mfinding mreadGuests misSight mat mrowSizes mrows mtextSizes mtexts mdoes mkinds msees mnow mbefore mkeeps mkept mfindings mread maside msteps mtried mbest) s.heap := hP
  obtain ⟨ls, hl, e0⟩ := my_entry (m := m) (n := 1) ha (Nat.le_of_ble_eq_true rfl)
  rw [e0]
  have hl : lv_has ls 1 [(0, .ref (am 0))] := hl
  have key : ∀ Q : State → Prop, (∀ (H : Heap) (locs : List Loc) (pc : Nat) (ls : Array Slot), va_P D vwCl (wMo T am mguests mclause zmdeeds masked mupper mlower mfinding mreadGuests misSight mat mrowSizes mrows mtextSizes mtexts mdoes mkinds msees mnow zmbefore mkeeps mkept mfindings mread maside msteps mtried mbest) H → va_D A (wMo T am mguests mclause zmdeeds masked mupper mlower mfinding mreadGuests misSight mat mrowSizes mrows mtextSizes mtexts mdoes mkinds msees mnow zmbefore mkeeps mkept mfindings mread maside msteps mtried mbest) → va_S A s.heap H locs → decode cX6_remember pc = .ok (.return_, 1) → W p l e ({ frames := 1, cells := 0, slots := 0, locals := 25 } : Room) s m args below meth c H locs 0 0 Q (F0 m pc ls [])) → W p l e ({ frames := 1, cells := 0, slots := 0, locals := 25 } : Room) s m args below meth c s.heap [] 0 0 Q (F0 m 0 ls []) := by
    intro Q hret
    skip
    unfold fX6_remember at h
    refine lv_aload_n hx hb dX6_remember_0 rfl (lv_at hl 0 rfl) ?_
    refine va_get (D := D) (ci := 4) (C := RX6) (T := TX6) (N := 27) hx hb hts iX6 hown hK hP 0 wMo_0 rfl 9 (by decide) q1 (fun _ h9 => h9) rfl dX6_remember_1 ?_
    refine lv_iconst (v := (0 : Int32)) hx hb dX6_remember_4 (by decide) ?_
    refine lv_aload_n hx hb dX6_remember_5 rfl (lv_at hl 0 rfl) ?_
    refine va_get (D := D) (ci := 4) (C := RX6) (T := TX6) (N := 27) hx hb hts iX6 hown hK hP 0 wMo_0 rfl 11 (by decide) q2 (fun _ h9 => h9) rfl dX6_remember_6 ?_
    refine lv_bipush (v := (7 : Int32)) hx hb dX6_remember_9 (by decide) ?_
    refine lv_aload_n hx hb dX6_remember_11 rfl (lv_at hl 0 rfl) ?_
    refine va_get (D := D) (ci := 4) (C := RX6) (T := TX6) (N := 27) hx hb hts iX6 hown hK hP 0 wMo_0 rfl 10 (by decide) q3 (fun _ h9 => h9) rfl dX6_remember_12 ?_
    refine lv_imul hx hb dX6_remember_15 ?_
    refine lv_bipush (v := (7 : Int32)) hx hb dX6_remember_16 (by decide) ?_
    obtain ⟨w18_f2, hc, h⟩ := bd1_some h
    have hPc : va_P D vwCl (wA2 T (am 8) (am 9) 7 280 mnow mbefore) H := my_subP sb_wMo_wA2_8_9 hP
    have hDc := hD.sub [8, 9] (by decide) sb_wMo_wA2_8_9
    have hFc := va_free hD hS hA [8, 9] sb_wMo_wA2_8_9
    refine my_rwv (va_runS (As := [.ref (am 8), .int (0 : Int32), .ref (am 9), .int ((7 : Int32) * mdeeds), .int (7 : Int32)]) (rest := []) hFix (kX6_copies l D T F (am 8) (am 9) 7 280 mnow mbefore (0 : Int32) ((7 : Int32) * mdeeds) (7 : Int32) w18_f2 hc) (va_cwS 5 hts gX6_remember_X6_copies rfl rfl rfl hd_X6_copies ⟨Nat.le_of_ble_eq_true rfl, Nat.le_of_ble_eq_true rfl⟩) (preS_rw hPc hKK hDc) rfl rfl hl.1 rfl (lv_room (Nat.le_of_ble_eq_true rfl)) dX6_remember_18 ⟨Nat.zero_le _, Nat.zero_le _⟩) hS hFc (fun H1 locs hP1 hD1 hz1 hk1 hS => ?_)
    obtain ⟨hP, hD⟩ := my_joinS hP hD (by decide) sb_wMo_wA2_8_9 hk1 hFc hP1 hD1
    have hP : va_P D vwCl (wMo T am mguests mclause mdeeds masked mupper mlower mfinding mreadGuests misSight mat mrowSizes mrows mtextSizes mtexts mdoes mkinds msees mnow w18_f2 mkeeps mkept mfindings mread maside msteps mtried mbest) H1 := st_wMo_wA2_8_9_copies ▸ hP
    have hD : va_D A (wMo T am mguests mclause mdeeds masked mupper mlower mfinding mreadGuests misSight mat mrowSizes mrows mtextSizes mtexts mdoes mkinds msees mnow w18_f2 mkeeps mkept mfindings mread maside msteps mtried mbest) := st_wMo_wA2_8_9_copies ▸ hD
    generalize H1 = H at hP hS ⊢
    refine lv_aload_n hx hb dX6_remember_21 rfl (lv_at hl 0 rfl) ?_
    refine lv_dup hx hb dX6_remember_22 rfl ?_
    refine va_get (D := D) (ci := 4) (C := RX6) (T := TX6) (N := 27) hx hb hts iX6 hown hK hP 0 wMo_0 rfl 10 (by decide) q3 (fun _ h9 => h9) rfl dX6_remember_23 ?_
    refine lv_iconst (v := (1 : Int32)) hx hb dX6_remember_26 (by decide) ?_
    refine lv_iadd hx hb dX6_remember_27 ?_
    refine va_put (D := D) (ci := 4) (v := .int (mdeeds + (1 : Int32))) (ty := .int) (C := RX6) (T := TX6) (N := 27) hx hb hts iX6 tyX6 tyX6_ok nmX6 hown hK hP hD hS 0 wMo_0 rfl 10 (by decide) q3 (fun _ h9 => h9) rfl (by decide +kernel) rfl rfl (Nat.le_of_ble_eq_true rfl) dX6_remember_28 (fun H locs hP hD hS => ?_)
    have hP : va_P D vwCl (wMo T am mguests mclause (mdeeds + (1 : Int32)) masked mupper mlower mfinding mreadGuests misSight mat mrowSizes mrows mtextSizes mtexts mdoes mkinds msees mnow w18_f2 mkeeps mkept mfindings mread maside msteps mtried mbest) H := hP
    have hD : va_D A (wMo T am mguests mclause (mdeeds + (1 : Int32)) masked mupper mlower mfinding mreadGuests misSight mat mrowSizes mrows mtextSizes mtexts mdoes mkinds msees mnow w18_f2 mkeeps mkept mfindings mread maside msteps mtried mbest) := hD
    cases h
    exact hret _ _ _ _ hP hD hS dX6_remember_31
  exact key _ (fun H locs pc ls hP hD hS hd => W.vret hx hb hr (fun t ht hW => ⟨⟨(), rfl, trivial, by show _ ∧ _; rw [ht]; exact ⟨hP, hD⟩⟩, hS.F ht⟩) hS.2.2 hd)
set_option maxHeartbeats 4000000 in
set_option maxRecDepth 100000 in
theorem kX6_tune (l : Launch) (D : va_G) (T : Nat → ClassId) (F : Nat) (am : Nat → Nat) (mguests : Int32) (mclause : Int32) (mdeeds : Int32) (masked : Int32) (mupper : Int64) (mlower : Int64) (mfinding : Int32) (mreadGuests : Int32) (misSight : Int32) (mat : Int32) (mrowSizes : Nat → Int32) (mrows : Nat → Int32) (mtextSizes : Nat → Int32) (mtexts : Nat → Int32) (mdoes : Nat → Int32) (mkinds : Nat → Int32) (msees : Nat → Int32) (mnow : Nat → Int32) (mbefore : Nat → Int32) (mkeeps : Nat → Int32) (mkept : Nat → Int32) (mfindings : Nat → Int32) (mread : Nat → Int32) (maside : Nat → Int32) (msteps : Nat → Int32) (mtried : Nat → Int32) (mbest : Nat → Int32) (x1 : Int32) (r : Int32) (zmdeeds : Int32) (zmnow : Nat → Int32) (zmbefore : Nat → Int32) (h : fX6_tune F mguests mclause mdeeds mdoes mkinds msees mnow mbefore x1 = some (r, zmdeeds, zmnow, zmbefore)) : ∀ sz : Nat, Met l yX6_tune wsX6_tune ({ frames := 4, cells := 0, slots := 0, locals := 93 } : Room) (va_Pc [.ref (am 0), .int x1] (fun U => U.heap.size = sz ∧ va_P D vwCl (wMo T am mguests mclause mdeeds masked mupper mlower mfinding mreadGuests misSight mat mrowSizes mrows mtextSizes mtexts mdoes mkinds msees mnow mbefore mkeeps mkept mfindings mread maside msteps mtried mbest) U.heap ∧ KK D T U ∧ va_D (fun _ => True) (wMo T am mguests mclause mdeeds masked mupper mlower mfinding mreadGuests misSight mat mrowSizes mrows mtextSizes mtexts mdoes mkinds msees mnow mbefore mkeeps mkept mfindings mread maside msteps mtried mbest))) (va_Qi (fun r' (_ : Unit) => r' = r) (fun _ t => va_P D vwCl (wMo T am mguests mclause zmdeeds masked mupper mlower mfinding mreadGuests misSight mat mrowSizes mrows mtextSizes mtexts mdoes mkinds msees zmnow zmbefore mkeeps mkept mfindings mread maside msteps mtried mbest) t.heap ∧ va_D (va_A (wMo T am mguests mclause mdeeds masked mupper mlower mfinding mreadGuests misSight mat mrowSizes mrows mtextSizes mtexts mdoes mkinds msees mnow mbefore mkeeps mkept mfindings mread maside msteps mtried mbest) sz) (wMo T am mguests mclause zmdeeds masked mupper mlower mfinding mreadGuests misSight mat mrowSizes mrows mtextSizes mtexts mdoes mkinds msees zmnow zmbefore mkeeps mkept mfindings mread maside msteps mtried mbest)) (va_A (wMo T am mguests mclause mdeeds masked mupper mlower mfinding mreadGuests misSight mat mrowSizes mrows mtextSizes mtexts mdoes mkinds msees mnow mbefore mkeeps mkept mfindings mread maside msteps mtried mbest) sz)) 0 0 (va_A (wMo T am mguests mclause mdeeds masked mupper mlower mfinding mreadGuests misSight mat mrowSizes mrows mtextSizes mtexts mdoes mkinds msees mnow mbefore mkeeps mkept mfindings mread maside msteps mtried mbest) sz) := by
  intro sz
  refine Met.ofW (cc := cX6_tune) (maxL := 2) (ret := some .int) (by decide) rfl ?_
  intro p e s m args below meth c s₁ B hml hv
  obtain ⟨ha, hsz, hP, hKK, hD0⟩ := hv
  have hx := B.exec
  have hb := B.bytes
  have hr := B.returns
  have hts := atoms_spec (ws := wsX6_tune) B.pre
  have hown : s.vm.findClass RX6 = some m.cls := findClass_of_methodNamed B.named
  have hlocks := B.notSynchronized
  have hK := hKK.1
  have hFix : CallFix p m c cX6_tune 2 s args wsX6_tune RX6 := ⟨hx, hb, hml, hown, hts⟩
  have q1 := hts _ (List.mem_of_getElem? (i := 1) (show wsX6_tune[1]? = some (Cond.fieldLink RX6 131 "PartyWillModel" "guests" "I") from rfl))
  have q2 := hts _ (List.mem_of_getElem? (i := 2) (show wsX6_tune[2]? = some (Cond.fieldLink RX6 137 "PartyWillModel" "deeds" "I") from rfl))
  have q3 := hts _ (List.mem_of_getElem? (i := 3) (show wsX6_tune[3]? = some (Cond.fieldLink RX6 31 "PartyWillModel" "now" "[I") from rfl))
  have iX6 : ∀ w ∈ u_ws RX6 TX6 27, w ∈ wsX6_tune := fun w h => List.mem_cons_of_mem _ (List.mem_append_right _ (h))
  subst hsz
  have hD := hD0.self (sz := s.heap.size)
  generalize hAe : va_A (wMo T am mguests mclause mdeeds masked mupper mlower mfinding mreadGuests misSight mat mrowSizes mrows mtextSizes mtexts mdoes mkinds msees mnow mbefore mkeeps mkept mfindings mread maside msteps mtried mbest) s.heap.size = A at hD ⊢
  have hA : ∀ q : Nat, s.heap.size ≤ q → A q := fun q h => by rw [← hAe]; exact Or.inr h
  have hS : va_S A s.heap s.heap [] := va_S.rf
  have hP : va_P D vwCl (wMo T am mguests mclause mdeeds masked mupper mlower mfinding mreadGuests misSight mat mrowSizes mrows mtextSizes mtexts mdoes mkinds msees mnow mbefore mkeeps mkept mfindings mread maside msteps mtried mbest) s.heap := hP
  obtain ⟨ls, hl, e0⟩ := my_entry (m := m) (n := 2) ha (Nat.le_of_ble_eq_true rfl)
  rw [e0]
  have hl : lv_has ls 2 [(0, .ref (am 0)), (1, .int x1)] := hl
  have key : ∀ Q : State → Prop, (∀ (H : Heap) (locs : List Loc) (pc : Nat) (ls : Array Slot), va_P D vwCl (wMo T am mguests mclause zmdeeds masked mupper mlower mfinding mreadGuests misSight mat mrowSizes mrows mtextSizes mtexts mdoes mkinds msees zmnow zmbefore mkeeps mkept mfindings mread maside msteps mtried mbest) H → va_D A (wMo T am mguests mclause zmdeeds masked mupper mlower mfinding mreadGuests misSight mat mrowSizes mrows mtextSizes mtexts mdoes mkinds msees zmnow zmbefore mkeeps mkept mfindings mread maside msteps mtried mbest) → va_S A s.heap H locs → decode cX6_tune pc = .ok (.ireturn, 1) → W p l e ({ frames := 4, cells := 0, slots := 0, locals := 93 } : Room) s m args below meth c H locs 0 0 Q (F0 m pc ls [.int r])) → W p l e ({ frames := 4, cells := 0, slots := 0, locals := 93 } : Room) s m args below meth c s.heap [] 0 0 Q (F0 m 0 ls []) := by
    intro Q hret
    skip
    unfold fX6_tune at h
    refine lv_iload_n hx hb dX6_tune_0 rfl (lv_at hl 1 rfl) ?_
    obtain ⟨r1, hc, h⟩ := bd1_some h
    refine my_roz (va_Run.run (va_runS (As := [.int x1]) (rest := []) hFix (kX6_isTune l D T F x1 r1 hc) (va_cwS 1 hts gX6_tune_X6_isTune rfl rfl rfl hd_X6_isTune ⟨Nat.le_of_ble_eq_true rfl, Nat.le_of_ble_eq_true rfl⟩) (preS_ro va_nil hKK) rfl rfl hl.1 rfl (lv_room (Nat.le_of_ble_eq_true rfl)) dX6_tune_1 ⟨Nat.zero_le _, Nat.zero_le _⟩)) (fun hb1 => ?_)
    refine lv_if_ne (tgt := 9) hx hb dX6_tune_4 (by decide) (fun c4 => ?_) (fun c4 => ?_)
    · have h := br_0 h c4
      refine lv_aload_n hx hb dX6_tune_9 rfl (lv_at hl 0 rfl) ?_
      refine va_get (D := D) (ci := 4) (C := RX6) (T := TX6) (N := 27) hx hb hts iX6 hown hK hP 0 wMo_0 rfl 4 (by decide) q1 (fun _ h9 => h9) rfl dX6_tune_10 ?_
      refine lv_if_ne (tgt := 19) hx hb dX6_tune_13 (by decide) (fun c13 => ?_) (fun c13 => ?_)
      · have h := br_0 h c13
        refine lv_aload_n hx hb dX6_tune_19 rfl (lv_at hl 0 rfl) ?_
        refine va_get (D := D) (ci := 4) (C := RX6) (T := TX6) (N := 27) hx hb hts iX6 hown hK hP 0 wMo_0 rfl 10 (by decide) q2 (fun _ h9 => h9) rfl dX6_tune_20 ?_
        refine lv_bipush (v := (40 : Int32)) hx hb dX6_tune_23 (by decide) ?_
        refine lv_icmp_ne (tgt := 31) hx hb dX6_tune_25 (by decide) (fun c25 => ?_) (fun c25 => ?_)
        · have h := br_0 h c25
          refine lv_aload_n hx hb dX6_tune_31 rfl (lv_at hl 0 rfl) ?_
          obtain ⟨w32_mdeeds, w32_mbefore, hc, h⟩ := bd2_some h
          have hFc := my_freeS hD hS hA
          refine my_rwv (va_runV (As := []) (rest := []) hFix (kX6_remember l D T F am mguests mclause mdeeds masked mupper mlower mfinding mreadGuests misSight mat mrowSizes mrows mtextSizes mtexts mdoes mkinds msees mnow mbefore mkeeps mkept mfindings mread maside msteps mtried mbest w32_mdeeds w32_mbefore hc) (cwV 0 hts gX6_tune_X6_remember rfl rfl rfl ⟨rfl, hd_X6_remember⟩ ⟨Nat.le_of_ble_eq_true rfl, Nat.le_of_ble_eq_true rfl⟩) (preV_rw hP hKK hD (va_recv hK hP (ci := 4) (q0 := 0) rfl wMo_0)) rfl rfl hl.1 rfl (lv_room (Nat.le_of_ble_eq_true rfl)) dX6_tune_32 ⟨Nat.zero_le _, Nat.zero_le _⟩) hS hFc (fun H1 locs hP1 hD1 hz1 hk1 hS => ?_)
          have hP : va_P D vwCl (wMo T am mguests mclause w32_mdeeds masked mupper mlower mfinding mreadGuests misSight mat mrowSizes mrows mtextSizes mtexts mdoes mkinds msees mnow w32_mbefore mkeeps mkept mfindings mread maside msteps mtried mbest) H1 := hP1
          have hD : va_D A (wMo T am mguests mclause w32_mdeeds masked mupper mlower mfinding mreadGuests misSight mat mrowSizes mrows mtextSizes mtexts mdoes mkinds msees mnow w32_mbefore mkeeps mkept mfindings mread maside msteps mtried mbest) := hD1.weaken (fun _ q _ h => hFc q.1 h)
          generalize H1 = H at hP hS ⊢
          refine lv_aload_n hx hb dX6_tune_35 rfl (lv_at hl 0 rfl) ?_
          refine lv_aload_n hx hb dX6_tune_36 rfl (lv_at hl 0 rfl) ?_
          refine va_get (D := D) (ci := 4) (C := RX6) (T := TX6) (N := 27) hx hb hts iX6 hown hK hP 0 wMo_0 rfl 9 (by decide) q3 (fun _ h9 => h9) rfl dX6_tune_37 ?_
          refine lv_iload_n hx hb dX6_tune_40 rfl (lv_at hl 1 rfl) ?_
          obtain ⟨r41, w41_tt, hc, h⟩ := bd2_some h
          have hPc : va_P D vwCl (wMp T am (am 8) mguests mclause w32_mdeeds masked mupper mlower mfinding mreadGuests misSight mat mdoes mkinds msees mnow) H := my_subP sb_wMo_wMp_0_5_6_7_8 hP
          have hDc := hD.sub [0, 5, 6, 7, 8] (by decide) sb_wMo_wMp_0_5_6_7_8
          have hFc := va_free hD hS hA [0, 5, 6, 7, 8] sb_wMo_wMp_0_5_6_7_8
          refine my_rwi (va_runV (As := [.ref (am 8), .int x1]) (rest := []) hFix (kX6_plays l D T F am (am 8) mguests mclause w32_mdeeds masked mupper mlower mfinding mreadGuests misSight mat mdoes mkinds msees mnow x1 r41 w41_tt hc) (cwV 2 hts gX6_tune_X6_plays rfl rfl rfl ⟨rfl, hd_X6_plays⟩ ⟨Nat.le_of_ble_eq_true rfl, Nat.le_of_ble_eq_true rfl⟩) (preV_rw hPc hKK hDc (va_recv hK hP (ci := 4) (q0 := 0) rfl wMo_0)) rfl rfl hl.1 rfl (lv_room (Nat.le_of_ble_eq_true rfl)) dX6_tune_41 ⟨Nat.zero_le _, Nat.zero_le _⟩) hS hFc (fun H1 locs hP1 hD1 hz1 hk1 hS => ?_)
          obtain ⟨hP, hD⟩ := my_joinS hP hD (by decide) sb_wMo_wMp_0_5_6_7_8 hk1 hFc hP1 hD1
          have hP : va_P D vwCl (wMo T am mguests mclause w32_mdeeds masked mupper mlower mfinding mreadGuests misSight mat mrowSizes mrows mtextSizes mtexts mdoes mkinds msees w41_tt w32_mbefore mkeeps mkept mfindings mread maside msteps mtried mbest) H1 := st_wMo_wMp_0_5_6_7_8_plays ▸ hP
          have hD : va_D A (wMo T am mguests mclause w32_mdeeds masked mupper mlower mfinding mreadGuests misSight mat mrowSizes mrows mtextSizes mtexts mdoes mkinds msees w41_tt w32_mbefore mkeeps mkept mfindings mread maside msteps mtried mbest) := st_wMo_wMp_0_5_6_7_8_plays ▸ hD
          generalize H1 = H at hP hS ⊢
          cases h
          exact hret _ _ _ _ hP hD hS dX6_tune_44
        · have h := br_1 h c25
          refine lv_bipush (v := (-2 : Int32)) hx hb dX6_tune_28 (by decide) ?_
          cases h
          exact hret _ _ _ _ hP hD hS dX6_tune_30
      · have h := br_1 h c13
        refine lv_bipush (v := (-4 : Int32)) hx hb dX6_tune_16 (by decide) ?_
        cases h
        exact hret _ _ _ _ hP hD hS dX6_tune_18
    · have h := br_1 h c4
      refine lv_iconst (v := (-1 : Int32)) hx hb dX6_tune_7 (by decide) ?_
      cases h
      exact hret _ _ _ _ hP hD hS dX6_tune_8
  exact key _ (fun H locs pc ls hP hD hS hd => W.iret hx hb hr (fun t ht hW => ⟨⟨_, (), rfl, rfl, by show _ ∧ _; rw [ht]; exact ⟨hP, hD⟩⟩, hS.F ht⟩) hS.2.2 hd)
