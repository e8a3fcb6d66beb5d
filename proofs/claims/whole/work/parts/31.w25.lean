set_option maxHeartbeats 4000000 in
set_option maxRecDepth 100000 in
theorem kX6_remember (l : Launch) (D : va_G) (T : Nat → ClassId) (F : Nat) (am : Nat → Nat) (mguests : Int32) (mclause : Int32) (mdeeds : Int32) (masked : Int32) (mupper : Int64) (mlower : Int64) (mfinding : Int32) (mreadGuests : Int32) (misSight : Int32) (mat : Int32) (mrowSizes : Nat → Int32) (mrows : Nat → Int32) (mtextSizes : Nat → Int32) (mtexts : Nat → Int32) (mdoes : Nat → Int32) (mkinds : Nat → Int32) (msees : Nat → Int32) (mnow : Nat → Int32) (mbefore : Nat → Int32) (mkeeps : Nat → Int32) (mkept : Nat → Int32) (mfindings : Nat → Int32) (mread : Nat → Int32) (maside : Nat → Int32) (msteps : Nat → Int32) (mtried : Nat → Int32) (mbest : Nat → Int32) (zmdeeds : Int32) (zmbefore : Nat → Int32) (h : fX6_remember F mdeeds mnow mbefore = some (zmdeeds, zmbefore)) : ∀ sz : Nat, Met l yX6_remember wsX6_remember ({ frames := 1, cells := 0, slots := 0, locals := 25 } : Room) (va_Pc [.ref (am 0)] (fun U => U.heap.size = sz ∧ va_P D vwCl (wMo T am mguests mclause mdeeds masked mupper mlower mfinding mreadGuests misSight mat mrowSizes mrows mtextSizes mtexts mdoes mkinds msees mnow mbefore mkeeps mkept mfindings mread maside msteps mtried mbest) U.heap ∧ KK D T U ∧ va_D (fun _ => True) (wMo T am mguests mclause mdeeds masked mupper mlower mfinding mreadGuests misSight mat mrowSizes mrows mtextSizes mtexts mdoes mkinds msees mnow mbefore mkeeps mkept mfindings mread maside msteps mtried mbest))) (va_Qv (fun _ : Unit => True) (fun _ t => va_P D vwCl (wMo T am mguests mclause zmdeeds masked mupper mlower mfinding mreadGuests misSight mat mrowSizes mrows mtextSizes mtexts mdoes mkinds msees mnow zmbefore mkeeps mkept mfindings mread maside msteps mtried mbest) t.heap ∧ va_D (va_A (wMo T am mguests mclause mdeeds masked mupper mlower mfinding mreadGuests misSight mat mrowSizes mrows mtextSizes mtexts mdoes mkinds msees mnow mbefore mkeeps mkept mfindings mread maside msteps mtried mbest) sz) (wMo T am mguests mclause zmdeeds masked mupper mlower mfinding mreadGuests misSight mat mrowSizes mrows mtextSizes mtexts mdoes mkinds msees mnow zmbefore mkeeps mkept mfindings mread maside msteps mtried mbest)) (va_A (wMo T am mguests mclause mdeeds masked mupper mlower mfinding mreadGuests misSight mat mrowSizes mrows mtextSizes mtexts mdoes mkinds msees mnow mbefore mkeeps mkept mfindings mread maside msteps mtried mbest) sz)) 0 0 (va_A (wMo T am mguests mclause mdeeds masked mupper mlower mfinding mreadGuests misSight mat mrowSizes mrows mtextSizes mtexts mdoes mkinds msees mnow mbefore mkeeps mkept mfindings mread maside msteps mtried mbest) sz) := by
  intro sz
  refine Met.ofW (cc := cX6_remember) (maxL := 1) (ret := none) (by decide) rfl ?_
  intro p e s m args below meth c s₁ B hml hv
  obtain ⟨ha, hsz, hP, hKK, hD0⟩ := hv
  have hx := B.exec
  have hb := B.bytes
  have hr := B.returns
  have hts := atoms_spec (ws := wsX6_remember) B.pre
  have hown : s.vm.findClass RX6 = some m.cls := findClass_of_methodNamed B.named
  have hlocks := B.notSynchronized
  have hK := hKK.1
  have hFix : CallFix p m c cX6_remember 1 s args wsX6_remember RX6 := ⟨hx, hb, hml, hown, hts⟩
  have q1 := hts _ (List.mem_of_getElem? (i := 1) (show wsX6_remember[1]? = some (Cond.fieldLink RX6 31 "PartyWillModel" "now" "[I") from rfl))
  have q2 := hts _ (List.mem_of_getElem? (i := 2) (show wsX6_remember[2]? = some (Cond.fieldLink RX6 34 "PartyWillModel" "before" "[I") from rfl))
  have q3 := hts _ (List.mem_of_getElem? (i := 3) (show wsX6_remember[3]? = some (Cond.fieldLink RX6 137 "PartyWillModel" "deeds" "I") from rfl))
  have iX6 : ∀ w ∈ u_ws RX6 TX6 27, w ∈ wsX6_remember := fun w h => List.mem_cons_of_mem _ (List.mem_append_right _ (h))
  subst hsz
  have hD := hD0.self (sz := s.heap.size)
  generalize hAe : va_A (wMo T am mguests mclause mdeeds masked mupper mlower mfinding mreadGuests misSight mat mrowSizes mrows mtextSizes mtexts mdoes mkinds msees mnow mbefore mkeeps mkept mfindings mread maside msteps mtried mbest) s.heap.size = A at hD ⊢
  have hA : ∀ q : Nat, s.heap.size ≤ q → A q := fun q h => by rw [← hAe]; exact Or.inr h
  have hS : va_S A s.heap s.heap [] := va_S.rf
  have hP : va_P D vwCl (wMo T am mguests mclause mdeeds masked mupper mlower mfinding mreadGuests misSight mat mrowSizes mrows mtextSizes mtexts mdoes mkinds msees mnow mbefore mkeeps mkept mfindings mread maside msteps mtried mbest) s.heap := hP
  obtain ⟨ls, hl, e0⟩ := my_entry (m := m) (n := 1) ha (Nat.le_of_ble_eq_true rfl)
  rw [e0]
  have hl : lv_has ls 1 [(0, .ref (am 0))] := hl
  have key : ∀ Q : State → Prop, (∀ (H : Heap) (locs : List Loc) (pc : Nat) (ls : Array Slot), va_P D vwCl (wMo T am mguests mclause zmdeeds masked mupper mlower mfinding mreadGuests misSight mat mrowSizes mrows mtextSizes mtexts mdoes mkinds msees mnow zmbefore mkeeps mkept mfindings mread maside msteps mtried mbest) H → va_D A (wMo T am mguests mclause zmdeeds masked mupper mlower mfinding mreadGuests misSight mat mrowSizes mrows mtextSizes mtexts mdoes mkinds msees mnow zmbefore mkeeps mkept mfindings mread maside msteps mtried mbest) → va_S A s.heap H locs → decode cX6_remember pc = .ok (.return_, 1) → W p l e ({ frames := 1, cells := 0, slots := 0, locals := 25 } : Room) s m args below meth c H locs 0 0 Q (F0 m pc ls [])) → W p l e ({ frames := 1, cells := 0, slots := 0, locals := 25 } : Room) s m args below meth c s.heap [] 0 0 Q (F0 m 0 ls []) := by
    intro Q hret
    skip
    unfold fX6_remember at h
    refine lv_aload_n hx hb dX6_remember_0 rfl (lv_at hl 0 rfl) ?_
    refine va_get (D := D) (ci := 4) (C := RX6) (T := TX6) (N := 27) hx hb hts iX6 hown hK hP 0 wMo_0 rfl 9 (by decide) q1 (fun _ h9 => h9) rfl dX6_remember_1 ?_
    refine lv_iconst (v := (0 : Int32)) hx hb dX6_remember_4 (by decide) ?_
    refine lv_aload_n hx hb dX6_remember_5 rfl (lv_at hl 0 rfl) ?_
    refine va_get (D := D) (ci := 4) (C := RX6) (T := TX6) (N := 27) hx hb hts iX6 hown hK hP 0 wMo_0 rfl 11 (by decide) q2 (fun _ h9 => h9) rfl dX6_remember_6 ?_
    refine lv_bipush (v := (7 : Int32)) hx hb dX6_remember_9 (by decide) ?_
    refine lv_aload_n hx hb dX6_remember_11 rfl (lv_at hl 0 rfl) ?_
    refine va_get (D := D) (ci := 4) (C := RX6) (T := TX6) (N := 27) hx hb hts iX6 hown hK hP 0 wMo_0 rfl 10 (by decide) q3 (fun _ h9 => h9) rfl dX6_remember_12 ?_
    refine lv_imul hx hb dX6_remember_15 ?_
    refine lv_bipush (v := (7 : Int32)) hx hb dX6_remember_16 (by decide) ?_
    obtain ⟨w18_f2, hc, h⟩ := bd1_some h
    have hPc : va_P D vwCl (wA2 T (am 8) (am 9) 7 280 mnow mbefore) _ := my_subP sb_wMo_wA2_8_9 hP
    have hDc := hD.sub [8, 9] (by decide) sb_wMo_wA2_8_9
    have hFc := va_free hD hS hA [8, 9] sb_wMo_wA2_8_9
    refine my_rwv (va_runS (As := [.ref (am 8), .int (0 : Int32), .ref (am 9), .int ((7 : Int32) * mdeeds), .int (7 : Int32)]) (rest := []) hFix (kX6_copies l D T F (am 8) (am 9) 7 280 mnow mbefore (0 : Int32) ((7 : Int32) * mdeeds) (7 : Int32) w18_f2 hc _) (va_cwS 5 hts gX6_remember_X6_copies rfl rfl rfl hd_X6_copies ⟨Nat.le_of_ble_eq_true rfl, Nat.le_of_ble_eq_true rfl⟩) (preS_rw hPc hKK hDc) rfl rfl hl.1 rfl (lv_room (Nat.le_of_ble_eq_true rfl)) dX6_remember_18 ⟨Nat.zero_le _, Nat.zero_le _⟩) hS hFc (fun H1 locs hP1 hD1 hz1 hkk hS => ?_)
    obtain ⟨hP, hD⟩ := my_joinS hP hD (by decide) sb_wMo_wA2_8_9 (by rfl) hkk hFc hP1 hD1
    rw [st_wMo_wA2_8_9_copies] at hP hD
    generalize H1 = H at hP hS ⊢
    refine lv_aload_n hx hb dX6_remember_21 rfl (lv_at hl 0 rfl) ?_
    refine lv_dup hx hb dX6_remember_22 rfl ?_
    refine va_get (D := D) (ci := 4) (C := RX6) (T := TX6) (N := 27) hx hb hts iX6 hown hK hP 0 wMo_0 rfl 10 (by decide) q3 (fun _ h9 => h9) rfl dX6_remember_23 ?_
    refine lv_iconst (v := (1 : Int32)) hx hb dX6_remember_26 (by decide) ?_
    refine lv_iadd hx hb dX6_remember_27 ?_
    refine va_put (D := D) (ci := 4) (v := .int (mdeeds + (1 : Int32))) (ty := .int) (C := RX6) (T := TX6) (N := 27) hx hb hts iX6 tyX6 tyX6_ok nmX6 hown hK hP hD hS 0 wMo_0 rfl 10 (by decide) q3 (fun _ h9 => h9) rfl (by decide +kernel) rfl rfl (Nat.le_of_ble_eq_true rfl) dX6_remember_28 (fun H locs hP hD hS => ?_)
    have hP : va_P D vwCl (wMo T am mguests mclause (mdeeds + (1 : Int32)) masked mupper mlower mfinding mreadGuests misSight mat mrowSizes mrows mtextSizes mtexts mdoes mkinds msees mnow w18_f2 mkeeps mkept mfindings mread maside msteps mtried mbest) H := hP
    have hD : va_D A (wMo T am mguests mclause (mdeeds + (1 : Int32)) masked mupper mlower mfinding mreadGuests misSight mat mrowSizes mrows mtextSizes mtexts mdoes mkinds msees mnow w18_f2 mkeeps mkept mfindings mread maside msteps mtried mbest) := hD
    cases h
    exact hret _ _ _ _ hP hD hS dX6_remember_31
  exact key _ (fun H locs pc ls hP hD hS hd => W.vret hx hb hr (fun t ht hW => ⟨⟨(), rfl, trivial, by show _ ∧ _; rw [ht]; exact ⟨hP, hD⟩⟩, hS.F ht⟩) hS.2.2 hd)
set_option maxHeartbeats 4000000 in
set_option maxRecDepth 100000 in
theorem kX6_tune (l : Launch) (D : va_G) (T : Nat → ClassId) (F : Nat) (am : Nat → Nat) (mguests : Int32) (mclause : Int32) (mdeeds : Int32) (masked : Int32) (mupper : Int64) (mlower : Int64) (mfinding : Int32) (mreadGuests : Int32) (misSight : Int32) (mat : Int32) (mrowSizes : Nat → Int32) (mrows : Nat → Int32) (mtextSizes : Nat → Int32) (mtexts : Nat → Int32) (mdoes : Nat → Int32) (mkinds : Nat → Int32) (msees : Nat → Int32) (mnow : Nat → Int32) (mbefore : Nat → Int32) (mkeeps : Nat → Int32) (mkept : Nat → Int32) (mfindings : Nat → Int32) (mread : Nat → Int32) (maside : Nat → Int32) (msteps : Nat → Int32) (mtried : Nat → Int32) (mbest : Nat → Int32) (x1 : Int32) (r : Int32) (zmdeeds : Int32) (zmnow : Nat → Int32) (zmbefore : Nat → Int32) (h : fX6_tune F mguests mclause mdeeds mdoes mkinds msees mnow mbefore x1 = some (r, zmdeeds, zmnow, zmbefore)) : ∀ sz : Nat, Met l yX6_tune wsX6_tune ({ frames := 4, cells := 0, slots := 0, locals := 93 } : Room) (va_Pc [.ref (am 0), .int x1] (fun U => U.heap.size = sz ∧ va_P D vwCl (wMo T am mguests mclause mdeeds masked mupper mlower mfinding mreadGuests misSight mat mrowSizes mrows mtextSizes mtexts mdoes mkinds msees mnow mbefore mkeeps mkept mfindings mread maside msteps mtried mbest) U.heap ∧ KK D T U ∧ va_D (fun _ => True) (wMo T am mguests mclause mdeeds masked mupper mlower mfinding mreadGuests misSight mat mrowSizes mrows mtextSizes mtexts mdoes mkinds msees mnow mbefore mkeeps mkept mfindings mread maside msteps mtried mbest))) (va_Qi (fun r' (_ : Unit) => r' = r) (fun _ t => va_P D vwCl (wMo T am mguests mclause zmdeeds masked mupper mlower mfinding mreadGuests misSight mat mrowSizes mrows mtextSizes mtexts mdoes mkinds msees zmnow zmbefore mkeeps mkept mfindings mread maside msteps mtried mbest) t.heap ∧ va_D (va_A (wMo T am mguests mclause mdeeds masked mupper mlower mfinding mreadGuests misSight mat mrowSizes mrows mtextSizes mtexts mdoes mkinds msees mnow mbefore mkeeps mkept mfindings mread maside msteps mtried mbest) sz) (wMo T am mguests mclause zmdeeds masked mupper mlower mfinding mreadGuests misSight mat mrowSizes mrows mtextSizes mtexts mdoes mkinds msees zmnow zmbefore mkeeps mkept mfindings mread maside msteps mtried mbest)) (va_A (wMo T am mguests mclause mdeeds masked mupper mlower mfinding mreadGuests misSight mat mrowSizes mrows mtextSizes mtexts mdoes mkinds msees mnow mbefore mkeeps mkept mfindings mread maside msteps mtried mbest) sz)) 0 0 (va_A (wMo T am mguests mclause mdeeds masked mupper mlower mfinding mreadGuests misSight mat mrowSizes mrows mtextSizes mtexts mdoes mkinds msees mnow mbefore mkeeps mkept mfindings mread maside msteps mtried mbest) sz) := by
  intro sz
  refine Met.ofW (cc := cX6_tune) (maxL := 2) (ret := some .int) (by decide) rfl ?_
  intro p e s m args below meth c s₁ B hml hv
  obtain ⟨ha, hsz, hP, hKK, hD0⟩ := hv
  have hx := B.exec
  have hb := B.bytes
  have hr := B.returns
  have hts := atoms_spec (ws := wsX6_tune) B.pre
  have hown : s.vm.findClass RX6 = some m.cls := findClass_of_methodNamed B.named
  have hlocks := B.notSynchronized
  have hK := hKK.1
  have hFix : CallFix p m c cX6_tune 2 s args wsX6_tune RX6 := ⟨hx, hb, hml, hown, hts⟩
  have q1 := hts _ (List.mem_of_getElem? (i := 1) (show wsX6_tune[1]? = some (Cond.fieldLink RX6 131 "PartyWillModel" "guests" "I") from rfl))
  have q2 := hts _ (List.mem_of_getElem? (i := 2) (show wsX6_tune[2]? = some (Cond.fieldLink RX6 137 "PartyWillModel" "deeds" "I") from rfl))
  have q3 := hts _ (List.mem_of_getElem? (i := 3) (show wsX6_tune[3]? = some (Cond.fieldLink RX6 31 "PartyWillModel" "now" "[I") from rfl))
  have iX6 : ∀ w ∈ u_ws RX6 TX6 27, w ∈ wsX6_tune := fun w h => List.mem_cons_of_mem _ (List.mem_append_right _ (h))
  subst hsz
  have hD := hD0.self (sz := s.heap.size)
  generalize hAe : va_A (wMo T am mguests mclause mdeeds masked mupper mlower mfinding mreadGuests misSight mat mrowSizes mrows mtextSizes mtexts mdoes mkinds msees mnow mbefore mkeeps mkept mfindings mread maside msteps mtried mbest) s.heap.size = A at hD ⊢
  have hA : ∀ q : Nat, s.heap.size ≤ q → A q := fun q h => by rw [← hAe]; exact Or.inr h
  have hS : va_S A s.heap s.heap [] := va_S.rf
  have hP : va_P D vwCl (wMo T am mguests mclause mdeeds masked mupper mlower mfinding mreadGuests misSight mat mrowSizes mrows mtextSizes mtexts mdoes mkinds msees mnow mbefore mkeeps mkept mfindings mread maside msteps mtried mbest) s.heap := hP
  obtain ⟨ls, hl, e0⟩ := my_entry (m := m) (n := 2) ha (Nat.le_of_ble_eq_true rfl)
  rw [e0]
  have hl : lv_has ls 2 [(0, .ref (am 0)), (1, .int x1)] := hl
  have key : ∀ Q : State → Prop, (∀ (H : Heap) (locs : List Loc) (pc : Nat) (ls : Array Slot), va_P D vwCl (wMo T am mguests mclause zmdeeds masked mupper mlower mfinding mreadGuests misSight mat mrowSizes mrows mtextSizes mtexts mdoes mkinds msees zmnow zmbefore mkeeps mkept mfindings mread maside msteps mtried mbest) H → va_D A (wMo T am mguests mclause zmdeeds masked mupper mlower mfinding mreadGuests misSight mat mrowSizes mrows mtextSizes mtexts mdoes mkinds msees zmnow zmbefore mkeeps mkept mfindings mread maside msteps mtried mbest) → va_S A s.heap H locs → decode cX6_tune pc = .ok (.ireturn, 1) → W p l e ({ frames := 4, cells := 0, slots := 0, locals := 93 } : Room) s m args below meth c H locs 0 0 Q (F0 m pc ls [.int r])) → W p l e ({ frames := 4, cells := 0, slots := 0, locals := 93 } : Room) s m args below meth c s.heap [] 0 0 Q (F0 m 0 ls []) := by
    intro Q hret
    skip
    unfold fX6_tune at h
    refine lv_iload_n hx hb dX6_tune_0 rfl (lv_at hl 1 rfl) ?_
    obtain ⟨r1, hc, h⟩ := bd1_some h
    refine my_roz (va_Run.run (va_runS (As := [.int x1]) (rest := []) hFix (kX6_isTune l D T F x1 r1 hc) (va_cwS 1 hts gX6_tune_X6_isTune rfl rfl rfl hd_X6_isTune ⟨Nat.le_of_ble_eq_true rfl, Nat.le_of_ble_eq_true rfl⟩) (preS_ro va_nil hKK) rfl rfl hl.1 rfl (lv_room (Nat.le_of_ble_eq_true rfl)) dX6_tune_1 ⟨Nat.zero_le _, Nat.zero_le _⟩)) (fun hb1 => ?_)
    refine lv_if_ne (tgt := 9) hx hb dX6_tune_4 (by decide) (fun c4 => ?_) (fun c4 => ?_)
    · have h := br_0 h c4
      refine lv_aload_n hx hb dX6_tune_9 rfl (lv_at hl 0 rfl) ?_
      refine va_get (D := D) (ci := 4) (C := RX6) (T := TX6) (N := 27) hx hb hts iX6 hown hK hP 0 wMo_0 rfl 4 (by decide) q1 (fun _ h9 => h9) rfl dX6_tune_10 ?_
      refine lv_if_ne (tgt := 19) hx hb dX6_tune_13 (by decide) (fun c13 => ?_) (fun c13 => ?_)
      · have h := br_0 h c13
        refine lv_aload_n hx hb dX6_tune_19 rfl (lv_at hl 0 rfl) ?_
        refine va_get (D := D) (ci := 4) (C := RX6) (T := TX6) (N := 27) hx hb hts iX6 hown hK hP 0 wMo_0 rfl 10 (by decide) q2 (fun _ h9 => h9) rfl dX6_tune_20 ?_
        refine lv_bipush (v := (40 : Int32)) hx hb dX6_tune_23 (by decide) ?_
        refine lv_icmp_ne (tgt := 31) hx hb dX6_tune_25 (by decide) (fun c25 => ?_) (fun c25 => ?_)
        · have h := br_0 h c25
          refine lv_aload_n hx hb dX6_tune_31 rfl (lv_at hl 0 rfl) ?_
          obtain ⟨w32_mdeeds, w32_mbefore, hc, h⟩ := bd2_some h
          have hFc := my_freeS hD hS hA
          refine my_rwv (va_runV (As := []) (rest := []) hFix (kX6_remember l D T F am mguests mclause mdeeds masked mupper mlower mfinding mreadGuests misSight mat mrowSizes mrows mtextSizes mtexts mdoes mkinds msees mnow mbefore mkeeps mkept mfindings mread maside msteps mtried mbest w32_mdeeds w32_mbefore hc _) (cwV 0 hts gX6_tune_X6_remember rfl rfl rfl ⟨rfl, hd_X6_remember⟩ ⟨Nat.le_of_ble_eq_true rfl, Nat.le_of_ble_eq_true rfl⟩) (preV_rw hP hKK hD (va_recv hK hP (ci := 4) (q0 := 0) rfl wMo_0)) rfl rfl hl.1 rfl (lv_room (Nat.le_of_ble_eq_true rfl)) dX6_tune_32 ⟨Nat.zero_le _, Nat.zero_le _⟩) hS hFc (fun H1 locs hP1 hD1 hz1 hkk hS => ?_)
          have hP : va_P D vwCl (wMo T am mguests mclause w32_mdeeds masked mupper mlower mfinding mreadGuests misSight mat mrowSizes mrows mtextSizes mtexts mdoes mkinds msees mnow w32_mbefore mkeeps mkept mfindings mread maside msteps mtried mbest) H1 := hP1
          have hD : va_D A (wMo T am mguests mclause w32_mdeeds masked mupper mlower mfinding mreadGuests misSight mat mrowSizes mrows mtextSizes mtexts mdoes mkinds msees mnow w32_mbefore mkeeps mkept mfindings mread maside msteps mtried mbest) := hD1.weaken (fun _ q _ h => hFc q.1 h)
          generalize H1 = H at hP hS ⊢
          refine lv_aload_n hx hb dX6_tune_35 rfl (lv_at hl 0 rfl) ?_
          refine lv_aload_n hx hb dX6_tune_36 rfl (lv_at hl 0 rfl) ?_
          refine va_get (D := D) (ci := 4) (C := RX6) (T := TX6) (N := 27) hx hb hts iX6 hown hK hP 0 wMo_0 rfl 9 (by decide) q3 (fun _ h9 => h9) rfl dX6_tune_37 ?_
          refine lv_iload_n hx hb dX6_tune_40 rfl (lv_at hl 1 rfl) ?_
          obtain ⟨r41, w41_tt, hc, h⟩ := bd2_some h
          have hPc : va_P D vwCl (wMp T am (am 8) mguests mclause w32_mdeeds masked mupper mlower mfinding mreadGuests misSight mat mdoes mkinds msees mnow) _ := my_subP sb_wMo_wMp_0_5_6_7_8 hP
          have hDc := hD.sub [0, 5, 6, 7, 8] (by decide) sb_wMo_wMp_0_5_6_7_8
          have hFc := va_free hD hS hA [0, 5, 6, 7, 8] sb_wMo_wMp_0_5_6_7_8
          refine my_rwi (va_runV (As := [.ref (am 8), .int x1]) (rest := []) hFix (kX6_plays l D T F am (am 8) mguests mclause w32_mdeeds masked mupper mlower mfinding mreadGuests misSight mat mdoes mkinds msees mnow x1 r41 w41_tt hc _) (cwV 2 hts gX6_tune_X6_plays rfl rfl rfl ⟨rfl, hd_X6_plays⟩ ⟨Nat.le_of_ble_eq_true rfl, Nat.le_of_ble_eq_true rfl⟩) (preV_rw hPc hKK hDc (va_recv hK hP (ci := 4) (q0 := 0) rfl wMo_0)) rfl rfl hl.1 rfl (lv_room (Nat.le_of_ble_eq_true rfl)) dX6_tune_41 ⟨Nat.zero_le _, Nat.zero_le _⟩) hS hFc (fun H1 locs hP1 hD1 hz1 hkk hS => ?_)
          obtain ⟨hP, hD⟩ := my_joinS hP hD (by decide) sb_wMo_wMp_0_5_6_7_8 (by rfl) hkk hFc hP1 hD1
          rw [st_wMo_wMp_0_5_6_7_8_plays] at hP hD
          generalize H1 = H at hP hS ⊢
          cases h
          exact hret _ _ _ _ hP hD hS dX6_tune_44
        · have h := br_1 h c25
          refine lv_bipush (v := (-2 : Int32)) hx hb dX6_tune_28 (by decide) ?_
          cases h
          exact hret _ _ _ _ hP hD hS dX6_tune_30
      · have h := br_1 h c13
        refine lv_bipush (v := (-4 : Int32)) hx hb dX6_tune_16 (by decide) ?_
        cases h
        exact hret _ _ _ _ hP hD hS dX6_tune_18
    · have h := br_1 h c4
      refine lv_iconst (v := (-1 : Int32)) hx hb dX6_tune_7 (by decide) ?_
      cases h
      exact hret _ _ _ _ hP hD hS dX6_tune_8
  exact key _ (fun H locs pc ls hP hD hS hd => W.iret hx hb hr (fun t ht hW => ⟨⟨_, (), rfl, rfl, by show _ ∧ _; rw [ht]; exact ⟨hP, hD⟩⟩, hS.F ht⟩) hS.2.2 hd)
set_option maxHeartbeats 4000000 in
set_option maxRecDepth 100000 in
theorem kX6_refuses (l : Launch) (D : va_G) (T : Nat → ClassId) (F : Nat) (am : Nat → Nat) (mguests : Int32) (mclause : Int32) (mdeeds : Int32) (masked : Int32) (mupper : Int64) (mlower : Int64) (mfinding : Int32) (mreadGuests : Int32) (misSight : Int32) (mat : Int32) (mrowSizes : Nat → Int32) (mrows : Nat → Int32) (mtextSizes : Nat → Int32) (mtexts : Nat → Int32) (mdoes : Nat → Int32) (mkinds : Nat → Int32) (msees : Nat → Int32) (mnow : Nat → Int32) (mbefore : Nat → Int32) (mkeeps : Nat → Int32) (mkept : Nat → Int32) (mfindings : Nat → Int32) (mread : Nat → Int32) (maside : Nat → Int32) (msteps : Nat → Int32) (mtried : Nat → Int32) (mbest : Nat → Int32) (x1 : Int32) (r : Int32) (h : fX6_refuses F mguests mdeeds mnow x1 = some (r)) : Met l yX6_refuses wsX6_refuses ({ frames := 2, cells := 0, slots := 0, locals := 46 } : Room) (va_Pc [.ref (am 0), .int x1] (fun U => va_P D vwCl (wMo T am mguests mclause mdeeds masked mupper mlower mfinding mreadGuests misSight mat mrowSizes mrows mtextSizes mtexts mdoes mkinds msees mnow mbefore mkeeps mkept mfindings mread maside msteps mtried mbest) U.heap ∧ KK D T U)) (vp_Si (fun r' => r' = r)) 0 0 (fun _ => False) := by
  refine Met.ofW (cc := cX6_refuses) (maxL := 2) (ret := some .int) (by decide) rfl ?_
  intro p e s m args below meth c s₁ B hml hv
  obtain ⟨ha, hP, hKK⟩ := hv
  have hx := B.exec
  have hb := B.bytes
  have hr := B.returns
  have hts := atoms_spec (ws := wsX6_refuses) B.pre
  have hown : s.vm.findClass RX6 = some m.cls := findClass_of_methodNamed B.named
  have hlocks := B.notSynchronized
  have hK := hKK.1
  have hFix : CallFix p m c cX6_refuses 2 s args wsX6_refuses RX6 := ⟨hx, hb, hml, hown, hts⟩
  have q1 := hts _ (List.mem_of_getElem? (i := 1) (show wsX6_refuses[1]? = some (Cond.fieldLink RX6 31 "PartyWillModel" "now" "[I") from rfl))
  have q2 := hts _ (List.mem_of_getElem? (i := 2) (show wsX6_refuses[2]? = some (Cond.fieldLink RX6 137 "PartyWillModel" "deeds" "I") from rfl))
  have iX6 : ∀ w ∈ u_ws RX6 TX6 27, w ∈ wsX6_refuses := fun w h => List.mem_cons_of_mem _ (List.mem_append_right _ (h))
  obtain ⟨ls, hl, e0⟩ := my_entry (m := m) (n := 2) ha (Nat.le_of_ble_eq_true rfl)
  rw [e0]
  have hl : lv_has ls 2 [(0, .ref (am 0)), (1, .int x1)] := hl
  have key : ∀ Q : State → Prop, (∀ (pc : Nat) (ls : Array Slot), decode cX6_refuses pc = .ok (.ireturn, 1) → W p l e ({ frames := 2, cells := 0, slots := 0, locals := 46 } : Room) s m args below meth c s.heap [] 0 0 Q (F0 m pc ls [.int r])) → W p l e ({ frames := 2, cells := 0, slots := 0, locals := 46 } : Room) s m args below meth c s.heap [] 0 0 Q (F0 m 0 ls []) := by
    intro Q hret
    unfold fX6_refuses at h
    refine lv_aload_n hx hb dX6_refuses_0 rfl (lv_at hl 0 rfl) ?_
    refine lv_iload_n hx hb dX6_refuses_1 rfl (lv_at hl 1 rfl) ?_
    obtain ⟨r2, hc, h⟩ := bd1_some h
    refine my_roz (va_Run.run (va_runV (As := [.int x1]) (rest := []) hFix (kX6_isGuest l D T F am mguests mclause mdeeds masked mupper mlower mfinding mreadGuests misSight mat mrowSizes mrows mtextSizes mtexts mdoes mkinds msees mnow mbefore mkeeps mkept mfindings mread maside msteps mtried mbest x1 r2 hc) (cwV 1 hts gX6_refuses_X6_isGuest rfl rfl rfl ⟨rfl, hd_X6_isGuest⟩ ⟨Nat.le_of_ble_eq_true rfl, Nat.le_of_ble_eq_true rfl⟩) (preV_ro hP hKK (va_recv hK hP (ci := 4) (q0 := 0) rfl wMo_0)) rfl rfl hl.1 rfl (lv_room (Nat.le_of_ble_eq_true rfl)) dX6_refuses_2 ⟨Nat.zero_le _, Nat.zero_le _⟩)) (fun hb2 => ?_)
    refine lv_if_ne (tgt := 10) hx hb dX6_refuses_5 (by decide) (fun c5 => ?_) (fun c5 => ?_)
    · have h := br_0 h c5
      refine lv_aload_n hx hb dX6_refuses_10 rfl (lv_at hl 0 rfl) ?_
      refine va_get (D := D) (ci := 4) (C := RX6) (T := TX6) (N := 27) hx hb hts iX6 hown hK hP 0 wMo_0 rfl 9 (by decide) q1 (fun _ h9 => h9) rfl dX6_refuses_11 ?_
      refine lv_bipush (v := (6 : Int32)) hx hb dX6_refuses_14 (by decide) ?_
      refine va_iald hx hb hK hP 8 0 wMo_8 rfl (show ¬ ((6 : Int32) < 0 ∨ 7 ≤ (6 : Int32).toNatClampNeg) by decide) dX6_refuses_16 ?_
      refine lv_iload_n hx hb dX6_refuses_17 rfl (lv_at hl 1 rfl) ?_
      obtain ⟨r18, hc, h⟩ := bd1_some h
      refine my_roz (va_Run.run (va_runS (As := [.int (mnow (6 : Int32).toNatClampNeg), .int x1]) (rest := []) hFix (kX6_has l D T F (mnow (6 : Int32).toNatClampNeg) x1 r18 hc) (va_cwS 2 hts gX6_refuses_X6_has rfl rfl rfl hd_X6_has ⟨Nat.le_of_ble_eq_true rfl, Nat.le_of_ble_eq_true rfl⟩) (preS_ro va_nil hKK) rfl rfl hl.1 rfl (lv_room (Nat.le_of_ble_eq_true rfl)) dX6_refuses_18 ⟨Nat.zero_le _, Nat.zero_le _⟩)) (fun hb18 => ?_)
      refine lv_if_eq (tgt := 29) hx hb dX6_refuses_21 (by decide) (fun c21 => ?_) (fun c21 => ?_)
      · have h := br_1 h c21
        refine lv_aload_n hx hb dX6_refuses_29 rfl (lv_at hl 0 rfl) ?_
        refine va_get (D := D) (ci := 4) (C := RX6) (T := TX6) (N := 27) hx hb hts iX6 hown hK hP 0 wMo_0 rfl 10 (by decide) q2 (fun _ h9 => h9) rfl dX6_refuses_30 ?_
        refine lv_bipush (v := (40 : Int32)) hx hb dX6_refuses_33 (by decide) ?_
        refine lv_icmp_ne (tgt := 43) hx hb dX6_refuses_35 (by decide) (fun c35 => ?_) (fun c35 => ?_)
        · have h := br_0 h c35
          refine lv_iconst (v := (0 : Int32)) hx hb dX6_refuses_43 (by decide) ?_
          cases h
          exact hret _ _ dX6_refuses_44
        · have h := br_1 h c35
          refine lv_bipush (v := (-2 : Int32)) hx hb dX6_refuses_38 (by decide) ?_
          refine lv_goto (tgt := 44) hx hb dX6_refuses_40 (by decide) ?_
          cases h
          exact hret _ _ dX6_refuses_44
      · have h := br_0 h c21
        refine lv_bipush (v := (-4 : Int32)) hx hb dX6_refuses_24 (by decide) ?_
        refine lv_goto (tgt := 44) hx hb dX6_refuses_26 (by decide) ?_
        cases h
        exact hret _ _ dX6_refuses_44
    · have h := br_1 h c5
      refine lv_iconst (v := (-1 : Int32)) hx hb dX6_refuses_8 (by decide) ?_
      cases h
      exact hret _ _ dX6_refuses_9
  exact key _ (fun pc ls hd => W.iret hx hb hr (fun t ht hW => ⟨_, rfl, rfl, ht⟩) (fun q h => by cases h) hd)
set_option maxHeartbeats 4000000 in
set_option maxRecDepth 100000 in
theorem kX6_say (l : Launch) (D : va_G) (T : Nat → ClassId) (F : Nat) (am : Nat → Nat) (mguests : Int32) (mclause : Int32) (mdeeds : Int32) (masked : Int32) (mupper : Int64) (mlower : Int64) (mfinding : Int32) (mreadGuests : Int32) (misSight : Int32) (mat : Int32) (mrowSizes : Nat → Int32) (mrows : Nat → Int32) (mtextSizes : Nat → Int32) (mtexts : Nat → Int32) (mdoes : Nat → Int32) (mkinds : Nat → Int32) (msees : Nat → Int32) (mnow : Nat → Int32) (mbefore : Nat → Int32) (mkeeps : Nat → Int32) (mkept : Nat → Int32) (mfindings : Nat → Int32) (mread : Nat → Int32) (maside : Nat → Int32) (msteps : Nat → Int32) (mtried : Nat → Int32) (mbest : Nat → Int32) (x1 : Int32) (r : Int32) (zmdeeds : Int32) (zmnow : Nat → Int32) (zmbefore : Nat → Int32) (h : fX6_say F mguests mclause mdeeds mkinds msees mnow mbefore x1 = some (r, zmdeeds, zmnow, zmbefore)) : ∀ sz : Nat, Met l yX6_say wsX6_say ({ frames := 3, cells := 0, slots := 0, locals := 70 } : Room) (va_Pc [.ref (am 0), .int x1] (fun U => U.heap.size = sz ∧ va_P D vwCl (wMo T am mguests mclause mdeeds masked mupper mlower mfinding mreadGuests misSight mat mrowSizes mrows mtextSizes mtexts mdoes mkinds msees mnow mbefore mkeeps mkept mfindings mread maside msteps mtried mbest) U.heap ∧ KK D T U ∧ va_D (fun _ => True) (wMo T am mguests mclause mdeeds masked mupper mlower mfinding mreadGuests misSight mat mrowSizes mrows mtextSizes mtexts mdoes mkinds msees mnow mbefore mkeeps mkept mfindings mread maside msteps mtried mbest))) (va_Qi (fun r' (_ : Unit) => r' = r) (fun _ t => va_P D vwCl (wMo T am mguests mclause zmdeeds masked mupper mlower mfinding mreadGuests misSight mat mrowSizes mrows mtextSizes mtexts mdoes mkinds msees zmnow zmbefore mkeeps mkept mfindings mread maside msteps mtried mbest) t.heap ∧ va_D (va_A (wMo T am mguests mclause mdeeds masked mupper mlower mfinding mreadGuests misSight mat mrowSizes mrows mtextSizes mtexts mdoes mkinds msees mnow mbefore mkeeps mkept mfindings mread maside msteps mtried mbest) sz) (wMo T am mguests mclause zmdeeds masked mupper mlower mfinding mreadGuests misSight mat mrowSizes mrows mtextSizes mtexts mdoes mkinds msees zmnow zmbefore mkeeps mkept mfindings mread maside msteps mtried mbest)) (va_A (wMo T am mguests mclause mdeeds masked mupper mlower mfinding mreadGuests misSight mat mrowSizes mrows mtextSizes mtexts mdoes mkinds msees mnow mbefore mkeeps mkept mfindings mread maside msteps mtried mbest) sz)) 0 0 (va_A (wMo T am mguests mclause mdeeds masked mupper mlower mfinding mreadGuests misSight mat mrowSizes mrows mtextSizes mtexts mdoes mkinds msees mnow mbefore mkeeps mkept mfindings mread maside msteps mtried mbest) sz) := by
  intro sz
  refine Met.ofW (cc := cX6_say) (maxL := 4) (ret := some .int) (by decide) rfl ?_
  intro p e s m args below meth c s₁ B hml hv
  obtain ⟨ha, hsz, hP, hKK, hD0⟩ := hv
  have hx := B.exec
  have hb := B.bytes
  have hr := B.returns
  have hts := atoms_spec (ws := wsX6_say) B.pre
  have hown : s.vm.findClass RX6 = some m.cls := findClass_of_methodNamed B.named
  have hlocks := B.notSynchronized
  have hK := hKK.1
  have hFix : CallFix p m c cX6_say 4 s args wsX6_say RX6 := ⟨hx, hb, hml, hown, hts⟩
  have q1 := hts _ (List.mem_of_getElem? (i := 1) (show wsX6_say[1]? = some (Cond.fieldLink RX6 31 "PartyWillModel" "now" "[I") from rfl))
  have q2 := hts _ (List.mem_of_getElem? (i := 2) (show wsX6_say[2]? = some (Cond.fieldLink RX6 25 "PartyWillModel" "kinds" "[I") from rfl))
  have iX6 : ∀ w ∈ u_ws RX6 TX6 27, w ∈ wsX6_say := fun w h => List.mem_cons_of_mem _ (List.mem_append_right _ (h))
  subst hsz
  have hD := hD0.self (sz := s.heap.size)
  generalize hAe : va_A (wMo T am mguests mclause mdeeds masked mupper mlower mfinding mreadGuests misSight mat mrowSizes mrows mtextSizes mtexts mdoes mkinds msees mnow mbefore mkeeps mkept mfindings mread maside msteps mtried mbest) s.heap.size = A at hD ⊢
  have hA : ∀ q : Nat, s.heap.size ≤ q → A q := fun q h => by rw [← hAe]; exact Or.inr h
  have hS : va_S A s.heap s.heap [] := va_S.rf
  have hP : va_P D vwCl (wMo T am mguests mclause mdeeds masked mupper mlower mfinding mreadGuests misSight mat mrowSizes mrows mtextSizes mtexts mdoes mkinds msees mnow mbefore mkeeps mkept mfindings mread maside msteps mtried mbest) s.heap := hP
  obtain ⟨ls, hl, e0⟩ := my_entry (m := m) (n := 4) ha (Nat.le_of_ble_eq_true rfl)
  rw [e0]
  have hl : lv_has ls 4 [(0, .ref (am 0)), (1, .int x1)] := hl
  have key : ∀ Q : State → Prop, (∀ (H : Heap) (locs : List Loc) (pc : Nat) (ls : Array Slot), va_P D vwCl (wMo T am mguests mclause zmdeeds masked mupper mlower mfinding mreadGuests misSight mat mrowSizes mrows mtextSizes mtexts mdoes mkinds msees zmnow zmbefore mkeeps mkept mfindings mread maside msteps mtried mbest) H → va_D A (wMo T am mguests mclause zmdeeds masked mupper mlower mfinding mreadGuests misSight mat mrowSizes mrows mtextSizes mtexts mdoes mkinds msees zmnow zmbefore mkeeps mkept mfindings mread maside msteps mtried mbest) → va_S A s.heap H locs → decode cX6_say pc = .ok (.ireturn, 1) → W p l e ({ frames := 3, cells := 0, slots := 0, locals := 70 } : Room) s m args below meth c H locs 0 0 Q (F0 m pc ls [.int r])) → W p l e ({ frames := 3, cells := 0, slots := 0, locals := 70 } : Room) s m args below meth c s.heap [] 0 0 Q (F0 m 0 ls []) := by
    intro Q hret
    skip
    unfold fX6_say at h
    refine lv_aload_n hx hb dX6_say_0 rfl (lv_at hl 0 rfl) ?_
    refine lv_iload_n hx hb dX6_say_1 rfl (lv_at hl 1 rfl) ?_
    obtain ⟨r2, hc, h⟩ := bd1_some h
    refine my_roi (va_Run.run (va_runV (As := [.int x1]) (rest := []) hFix (kX6_refuses l D T F am mguests mclause mdeeds masked mupper mlower mfinding mreadGuests misSight mat mrowSizes mrows mtextSizes mtexts mdoes mkinds msees mnow mbefore mkeeps mkept mfindings mread maside msteps mtried mbest x1 r2 hc) (cwV 1 hts gX6_say_X6_refuses rfl rfl rfl ⟨rfl, hd_X6_refuses⟩ ⟨Nat.le_of_ble_eq_true rfl, Nat.le_of_ble_eq_true rfl⟩) (preV_ro hP hKK (va_recv hK hP (ci := 4) (q0 := 0) rfl wMo_0)) rfl rfl hl.1 rfl (lv_room (Nat.le_of_ble_eq_true rfl)) dX6_say_2 ⟨Nat.zero_le _, Nat.zero_le _⟩)) ?_
    refine lv_istore_n (lv' := [(2, .int r2), (0, .ref (am 0)), (1, .int x1)]) hx hb dX6_say_5 rfl hl (by decide) rfl (fun ls hl => ?_)
    refine lv_iload_n hx hb dX6_say_6 rfl (lv_at hl 0 rfl) ?_
    refine lv_if_eq (tgt := 12) hx hb dX6_say_7 (by decide) (fun c7 => ?_) (fun c7 => ?_)
    · have h := br_1 h c7
      refine lv_aload_n hx hb dX6_say_12 rfl (lv_at hl 1 rfl) ?_
      obtain ⟨w13_mdeeds, w13_mbefore, hc, h⟩ := bd2_some h
      have hFc := my_freeS hD hS hA
      refine my_rwv (va_runV (As := []) (rest := []) hFix (kX6_remember l D T F am mguests mclause mdeeds masked mupper mlower mfinding mreadGuests misSight mat mrowSizes mrows mtextSizes mtexts mdoes mkinds msees mnow mbefore mkeeps mkept mfindings mread maside msteps mtried mbest w13_mdeeds w13_mbefore hc _) (cwV 0 hts gX6_say_X6_remember rfl rfl rfl ⟨rfl, hd_X6_remember⟩ ⟨Nat.le_of_ble_eq_true rfl, Nat.le_of_ble_eq_true rfl⟩) (preV_rw hP hKK hD (va_recv hK hP (ci := 4) (q0 := 0) rfl wMo_0)) rfl rfl hl.1 rfl (lv_room (Nat.le_of_ble_eq_true rfl)) dX6_say_13 ⟨Nat.zero_le _, Nat.zero_le _⟩) hS hFc (fun H1 locs hP1 hD1 hz1 hkk hS => ?_)
      have hP : va_P D vwCl (wMo T am mguests mclause w13_mdeeds masked mupper mlower mfinding mreadGuests misSight mat mrowSizes mrows mtextSizes mtexts mdoes mkinds msees mnow w13_mbefore mkeeps mkept mfindings mread maside msteps mtried mbest) H1 := hP1
      have hD : va_D A (wMo T am mguests mclause w13_mdeeds masked mupper mlower mfinding mreadGuests misSight mat mrowSizes mrows mtextSizes mtexts mdoes mkinds msees mnow w13_mbefore mkeeps mkept mfindings mread maside msteps mtried mbest) := hD1.weaken (fun _ q _ h => hFc q.1 h)
      generalize H1 = H at hP hS ⊢
      refine lv_aload_n hx hb dX6_say_16 rfl (lv_at hl 1 rfl) ?_
      refine va_get (D := D) (ci := 4) (C := RX6) (T := TX6) (N := 27) hx hb hts iX6 hown hK hP 0 wMo_0 rfl 9 (by decide) q1 (fun _ h9 => h9) rfl dX6_say_17 ?_
      refine lv_iload_n hx hb dX6_say_20 rfl (lv_at hl 2 rfl) ?_
      refine lv_aload_n hx hb dX6_say_21 rfl (lv_at hl 1 rfl) ?_
      refine va_get (D := D) (ci := 4) (C := RX6) (T := TX6) (N := 27) hx hb hts iX6 hown hK hP 0 wMo_0 rfl 7 (by decide) q2 (fun _ h9 => h9) rfl dX6_say_22 ?_
      refine lv_iload_n hx hb dX6_say_25 rfl (lv_at hl 2 rfl) ?_
      obtain ⟨hin1, h⟩ := ck_some h
      refine va_iald hx hb hK hP 6 0 wMo_6 rfl hin1 dX6_say_26 ?_
      refine lv_aload_n hx hb dX6_say_27 rfl (lv_at hl 1 rfl) ?_
      refine va_get (D := D) (ci := 4) (C := RX6) (T := TX6) (N := 27) hx hb hts iX6 hown hK hP 0 wMo_0 rfl 9 (by decide) q1 (fun _ h9 => h9) rfl dX6_say_28 ?_
      refine lv_iload_n hx hb dX6_say_31 rfl (lv_at hl 2 rfl) ?_
      obtain ⟨hin2, h⟩ := ck_some h
      refine va_iald hx hb hK hP 8 0 wMo_8 rfl hin2 dX6_say_32 ?_
      obtain ⟨r33, hc, h⟩ := bd1_some h
      refine my_roi (va_Run.run (va_runS (As := [.int (mkinds x1.toNatClampNeg), .int (mnow x1.toNatClampNeg)]) (rest := [.int x1, .ref (am 8)]) hFix (kX6_named l D T F (mkinds x1.toNatClampNeg) (mnow x1.toNatClampNeg) r33 hc) (va_cwS 2 hts gX6_say_X6_named rfl rfl rfl hd_X6_named ⟨Nat.le_of_ble_eq_true rfl, Nat.le_of_ble_eq_true rfl⟩) (preS_ro va_nil hKK) rfl rfl hl.1 rfl (lv_room (Nat.le_of_ble_eq_true rfl)) dX6_say_33 ⟨Nat.zero_le _, Nat.zero_le _⟩)) ?_
      obtain ⟨hin3, h⟩ := ck_some h
      refine va_iast hx hb hK hP hD hS 8 0 wMo_8 rfl hin3 dX6_say_36 (fun H locs hP hD hS => ?_)
      have hP : va_P D vwCl (wMo T am mguests mclause w13_mdeeds masked mupper mlower mfinding mreadGuests misSight mat mrowSizes mrows mtextSizes mtexts mdoes mkinds msees (upd mnow x1.toNatClampNeg r33) w13_mbefore mkeeps mkept mfindings mread maside msteps mtried mbest) H := hP
      have hD : va_D A (wMo T am mguests mclause w13_mdeeds masked mupper mlower mfinding mreadGuests misSight mat mrowSizes mrows mtextSizes mtexts mdoes mkinds msees (upd mnow x1.toNatClampNeg r33) w13_mbefore mkeeps mkept mfindings mread maside msteps mtried mbest) := hD
      refine lv_aload_n hx hb dX6_say_37 rfl (lv_at hl 1 rfl) ?_
      refine lv_aload_n hx hb dX6_say_38 rfl (lv_at hl 1 rfl) ?_
      refine va_get (D := D) (ci := 4) (C := RX6) (T := TX6) (N := 27) hx hb hts iX6 hown hK hP 0 wMo_0 rfl 9 (by decide) q1 (fun _ h9 => h9) rfl dX6_say_39 ?_
      obtain ⟨r42, w42_tt, hc, h⟩ := bd2_some h
      have hPc : va_P D vwCl (wMl T am (am 8) mguests mclause w13_mdeeds masked mupper mlower mfinding mreadGuests misSight mat mkinds msees (upd mnow x1.toNatClampNeg r33)) _ := my_subP sb_wMo_wMl_0_6_7_8 hP
      have hDc := hD.sub [0, 6, 7, 8] (by decide) sb_wMo_wMl_0_6_7_8
      have hFc := va_free hD hS hA [0, 6, 7, 8] sb_wMo_wMl_0_6_7_8
      refine my_rwi (va_runV (As := [.ref (am 8)]) (rest := []) hFix (kX6_looks l D T F am (am 8) mguests mclause w13_mdeeds masked mupper mlower mfinding mreadGuests misSight mat mkinds msees (upd mnow x1.toNatClampNeg r33) r42 w42_tt hc _) (cwV 1 hts gX6_say_X6_looks rfl rfl rfl ⟨rfl, hd_X6_looks⟩ ⟨Nat.le_of_ble_eq_true rfl, Nat.le_of_ble_eq_true rfl⟩) (preV_rw hPc hKK hDc (va_recv hK hP (ci := 4) (q0 := 0) rfl wMo_0)) rfl rfl hl.1 rfl (lv_room (Nat.le_of_ble_eq_true rfl)) dX6_say_42 ⟨Nat.zero_le _, Nat.zero_le _⟩) hS hFc (fun H1 locs hP1 hD1 hz1 hkk hS => ?_)
      obtain ⟨hP, hD⟩ := my_joinS hP hD (by decide) sb_wMo_wMl_0_6_7_8 (by rfl) hkk hFc hP1 hD1
      rw [st_wMo_wMl_0_6_7_8_looks] at hP hD
      generalize H1 = H at hP hS ⊢
      refine lv_istore_n (lv' := [(3, .int r42), (2, .int r2), (0, .ref (am 0)), (1, .int x1)]) hx hb dX6_say_45 rfl hl (by decide) rfl (fun ls hl => ?_)
      refine lv_iload_n hx hb dX6_say_46 rfl (lv_at hl 0 rfl) ?_
      refine lv_iload_n hx hb dX6_say_47 rfl (lv_at hl 3 rfl) ?_
      obtain ⟨r48, hc, h⟩ := bd1_some h
      refine my_roz (va_Run.run (va_runS (As := [.int r42, .int x1]) (rest := []) hFix (kX6_has l D T F r42 x1 r48 hc) (va_cwS 2 hts gX6_say_X6_has rfl rfl rfl hd_X6_has ⟨Nat.le_of_ble_eq_true rfl, Nat.le_of_ble_eq_true rfl⟩) (preS_ro va_nil hKK) rfl rfl hl.1 rfl (lv_room (Nat.le_of_ble_eq_true rfl)) dX6_say_48 ⟨Nat.zero_le _, Nat.zero_le _⟩)) (fun hb48 => ?_)
      refine lv_if_eq (tgt := 58) hx hb dX6_say_51 (by decide) (fun c51 => ?_) (fun c51 => ?_)
      · have h := br_1 h c51
        refine lv_aload_n hx hb dX6_say_58 rfl (lv_at hl 2 rfl) ?_
        refine va_get (D := D) (ci := 4) (C := RX6) (T := TX6) (N := 27) hx hb hts iX6 hown hK hP 0 wMo_0 rfl 9 (by decide) q1 (fun _ h9 => h9) rfl dX6_say_59 ?_
        refine lv_iload_n hx hb dX6_say_62 rfl (lv_at hl 3 rfl) ?_
        obtain ⟨hin4, h⟩ := ck_some h
        refine va_iald hx hb hK hP 8 0 wMo_8 rfl hin4 dX6_say_63 ?_
        cases h
        exact hret _ _ _ _ hP hD hS dX6_say_64
      · have h := br_0 h c51
        refine lv_iconst (v := (0 : Int32)) hx hb dX6_say_54 (by decide) ?_
        refine lv_goto (tgt := 64) hx hb dX6_say_55 (by decide) ?_
        cases h
        exact hret _ _ _ _ hP hD hS dX6_say_64
    · have h := br_0 h c7
      refine lv_iload_n hx hb dX6_say_10 rfl (lv_at hl 0 rfl) ?_
      cases h
      exact hret _ _ _ _ hP hD hS dX6_say_11
  exact key _ (fun H locs pc ls hP hD hS hd => W.iret hx hb hr (fun t ht hW => ⟨⟨_, (), rfl, rfl, by show _ ∧ _; rw [ht]; exact ⟨hP, hD⟩⟩, hS.F ht⟩) hS.2.2 hd)
set_option maxHeartbeats 4000000 in
set_option maxRecDepth 100000 in
theorem kX6_ice (l : Launch) (D : va_G) (T : Nat → ClassId) (F : Nat) (am : Nat → Nat) (mguests : Int32) (mclause : Int32) (mdeeds : Int32) (masked : Int32) (mupper : Int64) (mlower : Int64) (mfinding : Int32) (mreadGuests : Int32) (misSight : Int32) (mat : Int32) (mrowSizes : Nat → Int32) (mrows : Nat → Int32) (mtextSizes : Nat → Int32) (mtexts : Nat → Int32) (mdoes : Nat → Int32) (mkinds : Nat → Int32) (msees : Nat → Int32) (mnow : Nat → Int32) (mbefore : Nat → Int32) (mkeeps : Nat → Int32) (mkept : Nat → Int32) (mfindings : Nat → Int32) (mread : Nat → Int32) (maside : Nat → Int32) (msteps : Nat → Int32) (mtried : Nat → Int32) (mbest : Nat → Int32) (x1 : Int32) (r : Int32) (zmdeeds : Int32) (zmnow : Nat → Int32) (zmbefore : Nat → Int32) (h : fX6_ice F mguests mclause mdeeds mkinds msees mnow mbefore x1 = some (r, zmdeeds, zmnow, zmbefore)) : ∀ sz : Nat, Met l yX6_ice wsX6_ice ({ frames := 3, cells := 0, slots := 0, locals := 70 } : Room) (va_Pc [.ref (am 0), .int x1] (fun U => U.heap.size = sz ∧ va_P D vwCl (wMo T am mguests mclause mdeeds masked mupper mlower mfinding mreadGuests misSight mat mrowSizes mrows mtextSizes mtexts mdoes mkinds msees mnow mbefore mkeeps mkept mfindings mread maside msteps mtried mbest) U.heap ∧ KK D T U ∧ va_D (fun _ => True) (wMo T am mguests mclause mdeeds masked mupper mlower mfinding mreadGuests misSight mat mrowSizes mrows mtextSizes mtexts mdoes mkinds msees mnow mbefore mkeeps mkept mfindings mread maside msteps mtried mbest))) (va_Qi (fun r' (_ : Unit) => r' = r) (fun _ t => va_P D vwCl (wMo T am mguests mclause zmdeeds masked mupper mlower mfinding mreadGuests misSight mat mrowSizes mrows mtextSizes mtexts mdoes mkinds msees zmnow zmbefore mkeeps mkept mfindings mread maside msteps mtried mbest) t.heap ∧ va_D (va_A (wMo T am mguests mclause mdeeds masked mupper mlower mfinding mreadGuests misSight mat mrowSizes mrows mtextSizes mtexts mdoes mkinds msees mnow mbefore mkeeps mkept mfindings mread maside msteps mtried mbest) sz) (wMo T am mguests mclause zmdeeds masked mupper mlower mfinding mreadGuests misSight mat mrowSizes mrows mtextSizes mtexts mdoes mkinds msees zmnow zmbefore mkeeps mkept mfindings mread maside msteps mtried mbest)) (va_A (wMo T am mguests mclause mdeeds masked mupper mlower mfinding mreadGuests misSight mat mrowSizes mrows mtextSizes mtexts mdoes mkinds msees mnow mbefore mkeeps mkept mfindings mread maside msteps mtried mbest) sz)) 0 0 (va_A (wMo T am mguests mclause mdeeds masked mupper mlower mfinding mreadGuests misSight mat mrowSizes mrows mtextSizes mtexts mdoes mkinds msees mnow mbefore mkeeps mkept mfindings mread maside msteps mtried mbest) sz) := by
  intro sz
  refine Met.ofW (cc := cX6_ice) (maxL := 4) (ret := some .int) (by decide) rfl ?_
  intro p e s m args below meth c s₁ B hml hv
  obtain ⟨ha, hsz, hP, hKK, hD0⟩ := hv
  have hx := B.exec
  have hb := B.bytes
  have hr := B.returns
  have hts := atoms_spec (ws := wsX6_ice) B.pre
  have hown : s.vm.findClass RX6 = some m.cls := findClass_of_methodNamed B.named
  have hlocks := B.notSynchronized
  have hK := hKK.1
  have hFix : CallFix p m c cX6_ice 4 s args wsX6_ice RX6 := ⟨hx, hb, hml, hown, hts⟩
  have q1 := hts _ (List.mem_of_getElem? (i := 1) (show wsX6_ice[1]? = some (Cond.fieldLink RX6 31 "PartyWillModel" "now" "[I") from rfl))
  have iX6 : ∀ w ∈ u_ws RX6 TX6 27, w ∈ wsX6_ice := fun w h => List.mem_cons_of_mem _ (List.mem_append_right _ (h))
  subst hsz
  have hD := hD0.self (sz := s.heap.size)
  generalize hAe : va_A (wMo T am mguests mclause mdeeds masked mupper mlower mfinding mreadGuests misSight mat mrowSizes mrows mtextSizes mtexts mdoes mkinds msees mnow mbefore mkeeps mkept mfindings mread maside msteps mtried mbest) s.heap.size = A at hD ⊢
  have hA : ∀ q : Nat, s.heap.size ≤ q → A q := fun q h => by rw [← hAe]; exact Or.inr h
  have hS : va_S A s.heap s.heap [] := va_S.rf
  have hP : va_P D vwCl (wMo T am mguests mclause mdeeds masked mupper mlower mfinding mreadGuests misSight mat mrowSizes mrows mtextSizes mtexts mdoes mkinds msees mnow mbefore mkeeps mkept mfindings mread maside msteps mtried mbest) s.heap := hP
  obtain ⟨ls, hl, e0⟩ := my_entry (m := m) (n := 4) ha (Nat.le_of_ble_eq_true rfl)
  rw [e0]
  have hl : lv_has ls 4 [(0, .ref (am 0)), (1, .int x1)] := hl
  have key : ∀ Q : State → Prop, (∀ (H : Heap) (locs : List Loc) (pc : Nat) (ls : Array Slot), va_P D vwCl (wMo T am mguests mclause zmdeeds masked mupper mlower mfinding mreadGuests misSight mat mrowSizes mrows mtextSizes mtexts mdoes mkinds msees zmnow zmbefore mkeeps mkept mfindings mread maside msteps mtried mbest) H → va_D A (wMo T am mguests mclause zmdeeds masked mupper mlower mfinding mreadGuests misSight mat mrowSizes mrows mtextSizes mtexts mdoes mkinds msees zmnow zmbefore mkeeps mkept mfindings mread maside msteps mtried mbest) → va_S A s.heap H locs → decode cX6_ice pc = .ok (.ireturn, 1) → W p l e ({ frames := 3, cells := 0, slots := 0, locals := 70 } : Room) s m args below meth c H locs 0 0 Q (F0 m pc ls [.int r])) → W p l e ({ frames := 3, cells := 0, slots := 0, locals := 70 } : Room) s m args below meth c s.heap [] 0 0 Q (F0 m 0 ls []) := by
    intro Q hret
    skip
    unfold fX6_ice at h
    refine lv_aload_n hx hb dX6_ice_0 rfl (lv_at hl 0 rfl) ?_
    refine lv_iload_n hx hb dX6_ice_1 rfl (lv_at hl 1 rfl) ?_
    obtain ⟨r2, hc, h⟩ := bd1_some h
    refine my_roi (va_Run.run (va_runV (As := [.int x1]) (rest := []) hFix (kX6_refuses l D T F am mguests mclause mdeeds masked mupper mlower mfinding mreadGuests misSight mat mrowSizes mrows mtextSizes mtexts mdoes mkinds msees mnow mbefore mkeeps mkept mfindings mread maside msteps mtried mbest x1 r2 hc) (cwV 1 hts gX6_ice_X6_refuses rfl rfl rfl ⟨rfl, hd_X6_refuses⟩ ⟨Nat.le_of_ble_eq_true rfl, Nat.le_of_ble_eq_true rfl⟩) (preV_ro hP hKK (va_recv hK hP (ci := 4) (q0 := 0) rfl wMo_0)) rfl rfl hl.1 rfl (lv_room (Nat.le_of_ble_eq_true rfl)) dX6_ice_2 ⟨Nat.zero_le _, Nat.zero_le _⟩)) ?_
    refine lv_istore_n (lv' := [(2, .int r2), (0, .ref (am 0)), (1, .int x1)]) hx hb dX6_ice_5 rfl hl (by decide) rfl (fun ls hl => ?_)
    refine lv_iload_n hx hb dX6_ice_6 rfl (lv_at hl 0 rfl) ?_
    refine lv_if_eq (tgt := 12) hx hb dX6_ice_7 (by decide) (fun c7 => ?_) (fun c7 => ?_)
    · have h := br_1 h c7
      refine lv_aload_n hx hb dX6_ice_12 rfl (lv_at hl 1 rfl) ?_
      obtain ⟨w13_mdeeds, w13_mbefore, hc, h⟩ := bd2_some h
      have hFc := my_freeS hD hS hA
      refine my_rwv (va_runV (As := []) (rest := []) hFix (kX6_remember l D T F am mguests mclause mdeeds masked mupper mlower mfinding mreadGuests misSight mat mrowSizes mrows mtextSizes mtexts mdoes mkinds msees mnow mbefore mkeeps mkept mfindings mread maside msteps mtried mbest w13_mdeeds w13_mbefore hc _) (cwV 0 hts gX6_ice_X6_remember rfl rfl rfl ⟨rfl, hd_X6_remember⟩ ⟨Nat.le_of_ble_eq_true rfl, Nat.le_of_ble_eq_true rfl⟩) (preV_rw hP hKK hD (va_recv hK hP (ci := 4) (q0 := 0) rfl wMo_0)) rfl rfl hl.1 rfl (lv_room (Nat.le_of_ble_eq_true rfl)) dX6_ice_13 ⟨Nat.zero_le _, Nat.zero_le _⟩) hS hFc (fun H1 locs hP1 hD1 hz1 hkk hS => ?_)
      have hP : va_P D vwCl (wMo T am mguests mclause w13_mdeeds masked mupper mlower mfinding mreadGuests misSight mat mrowSizes mrows mtextSizes mtexts mdoes mkinds msees mnow w13_mbefore mkeeps mkept mfindings mread maside msteps mtried mbest) H1 := hP1
      have hD : va_D A (wMo T am mguests mclause w13_mdeeds masked mupper mlower mfinding mreadGuests misSight mat mrowSizes mrows mtextSizes mtexts mdoes mkinds msees mnow w13_mbefore mkeeps mkept mfindings mread maside msteps mtried mbest) := hD1.weaken (fun _ q _ h => hFc q.1 h)
      generalize H1 = H at hP hS ⊢
      refine lv_aload_n hx hb dX6_ice_16 rfl (lv_at hl 1 rfl) ?_
      refine va_get (D := D) (ci := 4) (C := RX6) (T := TX6) (N := 27) hx hb hts iX6 hown hK hP 0 wMo_0 rfl 9 (by decide) q1 (fun _ h9 => h9) rfl dX6_ice_17 ?_
      refine lv_iload_n hx hb dX6_ice_20 rfl (lv_at hl 2 rfl) ?_
      refine lv_aload_n hx hb dX6_ice_21 rfl (lv_at hl 1 rfl) ?_
      refine va_get (D := D) (ci := 4) (C := RX6) (T := TX6) (N := 27) hx hb hts iX6 hown hK hP 0 wMo_0 rfl 9 (by decide) q1 (fun _ h9 => h9) rfl dX6_ice_22 ?_
      refine lv_iload_n hx hb dX6_ice_25 rfl (lv_at hl 2 rfl) ?_
      obtain ⟨hin1, h⟩ := ck_some h
      refine va_iald hx hb hK hP 8 0 wMo_8 rfl hin1 dX6_ice_26 ?_
      refine lv_iconst (v := (3 : Int32)) hx hb dX6_ice_27 (by decide) ?_
      refine lv_isub hx hb dX6_ice_28 ?_
      obtain ⟨r29, hc, h⟩ := bd1_some h
      refine my_roi (va_Run.run (va_runS (As := [.int ((mnow x1.toNatClampNeg) - (3 : Int32))]) (rest := [.int x1, .ref (am 8)]) hFix (kX6_kept20 l D T F ((mnow x1.toNatClampNeg) - (3 : Int32)) r29 hc) (va_cwS 1 hts gX6_ice_X6_kept20 rfl rfl rfl hd_X6_kept20 ⟨Nat.le_of_ble_eq_true rfl, Nat.le_of_ble_eq_true rfl⟩) (preS_ro va_nil hKK) rfl rfl hl.1 rfl (lv_room (Nat.le_of_ble_eq_true rfl)) dX6_ice_29 ⟨Nat.zero_le _, Nat.zero_le _⟩)) ?_
      obtain ⟨hin2, h⟩ := ck_some h
      refine va_iast hx hb hK hP hD hS 8 0 wMo_8 rfl hin2 dX6_ice_32 (fun H locs hP hD hS => ?_)
      have hP : va_P D vwCl (wMo T am mguests mclause w13_mdeeds masked mupper mlower mfinding mreadGuests misSight mat mrowSizes mrows mtextSizes mtexts mdoes mkinds msees (upd mnow x1.toNatClampNeg r29) w13_mbefore mkeeps mkept mfindings mread maside msteps mtried mbest) H := hP
      have hD : va_D A (wMo T am mguests mclause w13_mdeeds masked mupper mlower mfinding mreadGuests misSight mat mrowSizes mrows mtextSizes mtexts mdoes mkinds msees (upd mnow x1.toNatClampNeg r29) w13_mbefore mkeeps mkept mfindings mread maside msteps mtried mbest) := hD
      refine lv_aload_n hx hb dX6_ice_33 rfl (lv_at hl 1 rfl) ?_
      refine lv_aload_n hx hb dX6_ice_34 rfl (lv_at hl 1 rfl) ?_
      refine va_get (D := D) (ci := 4) (C := RX6) (T := TX6) (N := 27) hx hb hts iX6 hown hK hP 0 wMo_0 rfl 9 (by decide) q1 (fun _ h9 => h9) rfl dX6_ice_35 ?_
      obtain ⟨r38, w38_tt, hc, h⟩ := bd2_some h
      have hPc : va_P D vwCl (wMl T am (am 8) mguests mclause w13_mdeeds masked mupper mlower mfinding mreadGuests misSight mat mkinds msees (upd mnow x1.toNatClampNeg r29)) _ := my_subP sb_wMo_wMl_0_6_7_8 hP
      have hDc := hD.sub [0, 6, 7, 8] (by decide) sb_wMo_wMl_0_6_7_8
      have hFc := va_free hD hS hA [0, 6, 7, 8] sb_wMo_wMl_0_6_7_8
      refine my_rwi (va_runV (As := [.ref (am 8)]) (rest := []) hFix (kX6_looks l D T F am (am 8) mguests mclause w13_mdeeds masked mupper mlower mfinding mreadGuests misSight mat mkinds msees (upd mnow x1.toNatClampNeg r29) r38 w38_tt hc _) (cwV 1 hts gX6_ice_X6_looks rfl rfl rfl ⟨rfl, hd_X6_looks⟩ ⟨Nat.le_of_ble_eq_true rfl, Nat.le_of_ble_eq_true rfl⟩) (preV_rw hPc hKK hDc (va_recv hK hP (ci := 4) (q0 := 0) rfl wMo_0)) rfl rfl hl.1 rfl (lv_room (Nat.le_of_ble_eq_true rfl)) dX6_ice_38 ⟨Nat.zero_le _, Nat.zero_le _⟩) hS hFc (fun H1 locs hP1 hD1 hz1 hkk hS => ?_)
      obtain ⟨hP, hD⟩ := my_joinS hP hD (by decide) sb_wMo_wMl_0_6_7_8 (by rfl) hkk hFc hP1 hD1
      rw [st_wMo_wMl_0_6_7_8_looks] at hP hD
      generalize H1 = H at hP hS ⊢
      refine lv_istore_n (lv' := [(3, .int r38), (2, .int r2), (0, .ref (am 0)), (1, .int x1)]) hx hb dX6_ice_41 rfl hl (by decide) rfl (fun ls hl => ?_)
      refine lv_iload_n hx hb dX6_ice_42 rfl (lv_at hl 0 rfl) ?_
      refine lv_iload_n hx hb dX6_ice_43 rfl (lv_at hl 3 rfl) ?_
      obtain ⟨r44, hc, h⟩ := bd1_some h
      refine my_roz (va_Run.run (va_runS (As := [.int r38, .int x1]) (rest := []) hFix (kX6_has l D T F r38 x1 r44 hc) (va_cwS 2 hts gX6_ice_X6_has rfl rfl rfl hd_X6_has ⟨Nat.le_of_ble_eq_true rfl, Nat.le_of_ble_eq_true rfl⟩) (preS_ro va_nil hKK) rfl rfl hl.1 rfl (lv_room (Nat.le_of_ble_eq_true rfl)) dX6_ice_44 ⟨Nat.zero_le _, Nat.zero_le _⟩)) (fun hb44 => ?_)
      refine lv_if_eq (tgt := 54) hx hb dX6_ice_47 (by decide) (fun c47 => ?_) (fun c47 => ?_)
      · have h := br_1 h c47
        refine lv_aload_n hx hb dX6_ice_54 rfl (lv_at hl 2 rfl) ?_
        refine va_get (D := D) (ci := 4) (C := RX6) (T := TX6) (N := 27) hx hb hts iX6 hown hK hP 0 wMo_0 rfl 9 (by decide) q1 (fun _ h9 => h9) rfl dX6_ice_55 ?_
        refine lv_iload_n hx hb dX6_ice_58 rfl (lv_at hl 3 rfl) ?_
        obtain ⟨hin3, h⟩ := ck_some h
        refine va_iald hx hb hK hP 8 0 wMo_8 rfl hin3 dX6_ice_59 ?_
        cases h
        exact hret _ _ _ _ hP hD hS dX6_ice_60
      · have h := br_0 h c47
        refine lv_iconst (v := (0 : Int32)) hx hb dX6_ice_50 (by decide) ?_
        refine lv_goto (tgt := 60) hx hb dX6_ice_51 (by decide) ?_
        cases h
        exact hret _ _ _ _ hP hD hS dX6_ice_60
    · have h := br_0 h c7
      refine lv_iload_n hx hb dX6_ice_10 rfl (lv_at hl 0 rfl) ?_
      cases h
      exact hret _ _ _ _ hP hD hS dX6_ice_11
  exact key _ (fun H locs pc ls hP hD hS hd => W.iret hx hb hr (fun t ht hW => ⟨⟨_, (), rfl, rfl, by show _ ∧ _; rw [ht]; exact ⟨hP, hD⟩⟩, hS.F ht⟩) hS.2.2 hd)
