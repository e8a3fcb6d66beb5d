set_option maxHeartbeats 4000000 in
set_option maxRecDepth 100000 in
theorem kX6_refuses (l : Launch) (D : va_G) (T : Nat → ClassId) (F : Nat) (am : Nat → Nat) (mguests : Int32) (mclause : Int32) (mdeeds : Int32) (masked : Int32) (mupper : Int64) (mlower : Int64) (mfinding : Int32) (mreadGuests : Int32) (misSight : Int32) (mat : Int32) (mrowSizes : Nat → Int32) (mrows : Nat → Int32) (mtextSizes : Nat → Int32) (mtexts : Nat → Int32) (mdoes : Nat → Int32) (mkinds : Nat → Int32) (msees : Nat → Int32) (mnow : Nat → Int32) (mbefore : Nat → Int32) (mkeeps : Nat → Int32) (mkept : Nat → Int32) (mfindings : Nat → Int32) (mread : Nat → Int32) (maside : Nat → Int32) (msteps : Nat → Int32) (mtried : Nat → Int32) (mbest : Nat → Int32) (x1 : Int32) (r : Int32) (h : fX6_refuses F mguests mdeeds mnow x1 = some (r)) : Met l yX6_refuses wsX6_refuses ({ frames := 2, cells := 0, slots := 0, locals := 46 } : Room) (va_Pc [.ref (am 0), .int x1] (fun U => va_P D vwCl (wMo T am mguests mclause mdeeds masked mupper mlower mfinding mreadGuests misSight mat mrowSizes mrows mtextSizes mtexts mdoes mkinds msees mnow mbefore mkeeps mkept mfindings mread maside msteps mtried mbest) U.heap ∧ KK D T U)) (vp_Si (fun r' => r' = r)) 0 0 (fun _ => False) := by
  refine Met.ofW (cc := cX6_refuses) (maxL := 2) (ret := some .int) (by decide) rfl ?_
  intro p e s m args below meth c s₁ B hml hv
  obtain ⟨ha, hP, hKK⟩ := hv
  have hx := B.exec
  have hb := B.bytes
  have hr := B.returns
  have hts := atoms_spec (ws := wsX6_refuses) B.pre
  have hown : s.vm.findClass RX6 = some m.cls := findClass_of_methodNamed B.named
  have hlocks := B.notSynchronized
  have hK := hKK.1
  have hFix : CallFix p m c cX6_refuses 2 s args wsX6_refuses RX6 := ⟨hx, hb, hml, hown, hts⟩
  have q1 := hts _ (List.mem_of_getElem? (i := 1) (show wsX6_refuses[1]? = some (Cond.fieldLink RX6 31 "PartyWillModel" "now" "[I") from rfl))
  have q2 := hts _ (List.mem_of_getElem? (i := 2) (show wsX6_refuses[2]? = some (Cond.fieldLink RX6 137 "PartyWillModel" "deeds" "I") from rfl))
  have iX6 : ∀ w ∈ u_ws RX6 TX6 27, w ∈ wsX6_refuses := fun w h => List.mem_cons_of_mem _ (List.mem_append_right _ (h))
  obtain ⟨ls, hl, e0⟩ := my_entry (m := m) (n := 2) ha (Nat.le_of_ble_eq_true rfl)
  rw [e0]
  have hl : lv_has ls 2 [(0, .ref (am 0)), (1, .int x1)] := hl
  have key : ∀ Q : State → Prop, (∀ (pc : Nat) (ls : Array Slot), decode cX6_refuses pc = .ok (.ireturn, 1) → W p l e ({ frames := 2, cells := 0, slots := 0, locals := 46 } : Room) s m args below meth c s.heap [] 0 0 Q (F0 m pc ls [.int r])) → W p l e ({ frames := 2, cells := 0, slots := 0, locals := 46 } : Room) s m args below meth c s.heap [] 0 0 Q (F0 m 0 ls []) := by
    intro Q hret
    unfold fX6_refuses at h
    refine lv_aload_n hx hb dX6_refuses_0 rfl (lv_at hl 0 rfl) ?_
    refine lv_iload_n hx hb dX6_refuses_1 rfl (lv_at hl 1 rfl) ?_
    obtain ⟨r2, hc, h⟩ := bd1_some h
    refine my_roz (va_Run.run (va_runV (As := [.int x1]) (rest := []) hFix (kX6_isGuest l D T F am mguests mclause mdeeds masked mupper mlower mfinding mreadGuests misSight mat mrowSizes mrows mtextSizes mtexts mdoes mkinds msees mnow mbefore mkeeps mkept mfindings mread maside msteps mtried mbest x1 r2 hc) (cwV 1 hts gX6_refuses_X6_isGuest rfl rfl rfl ⟨rfl, hd_X6_isGuest⟩ ⟨Nat.le_of_ble_eq_true rfl, Nat.le_of_ble_eq_true rfl⟩) (preV_ro hP hKK (va_recv hK hP (ci := 4) (q0 := 0) rfl wMo_0)) rfl rfl hl.1 rfl (lv_room (Nat.le_of_ble_eq_true rfl)) dX6_refuses_2 ⟨Nat.zero_le _, Nat.zero_le _⟩)) (fun hb2 => ?_)
    refine lv_if_ne (tgt := 10) hx hb dX6_refuses_5 (by decide) (fun c5 => ?_) (fun c5 => ?_)
    · have h := br_0 h c5
      refine lv_aload_n hx hb dX6_refuses_10 rfl (lv_at hl 0 rfl) ?_
      refine va_get (D := D) (ci := 4) (C := RX6) (T := TX6) (N := 27) hx hb hts iX6 hown hK hP 0 wMo_0 rfl 9 (by decide) q1 (fun _ h9 => h9) rfl dX6_refuses_11 ?_
      refine lv_bipush (v := (6 : Int32)) hx hb dX6_refuses_14 (by decide) ?_
      refine va_iald hx hb hK hP 8 0 wMo_8 rfl (show ¬ ((6 : Int32) < 0 ∨ 7 ≤ (6 : Int32).toNatClampNeg) by decide) dX6_refuses_16 ?_
      refine lv_iload_n hx hb dX6_refuses_17 rfl (lv_at hl 1 rfl) ?_
      obtain ⟨r18, hc, h⟩ := bd1_some h
      refine my_roz (va_Run.run (va_runS (As := [.int (mnow (6 : Int32).toNatClampNeg), .int x1]) (rest := []) hFix (kX6_has l D T F (mnow (6 : Int32).toNatClampNeg) x1 r18 hc) (va_cwS 2 hts gX6_refuses_X6_has rfl rfl rfl hd_X6_has ⟨Nat.le_of_ble_eq_true rfl, Nat.le_of_ble_eq_true rfl⟩) (preS_ro va_nil hKK) rfl rfl hl.1 rfl (lv_room (Nat.le_of_ble_eq_true rfl)) dX6_refuses_18 ⟨Nat.zero_le _, Nat.zero_le _⟩)) (fun hb18 => ?_)
      refine lv_if_eq (tgt := 29) hx hb dX6_refuses_21 (by decide) (fun c21 => ?_) (fun c21 => ?_)
      · have h := br_1 h c21
        refine lv_aload_n hx hb dX6_refuses_29 rfl (lv_at hl 0 rfl) ?_
        refine va_get (D := D) (ci := 4) (C := RX6) (T := TX6) (N := 27) hx hb hts iX6 hown hK hP 0 wMo_0 rfl 10 (by decide) q2 (fun _ h9 => h9) rfl dX6_refuses_30 ?_
        refine lv_bipush (v := (40 : Int32)) hx hb dX6_refuses_33 (by decide) ?_
        refine lv_icmp_ne (tgt := 43) hx hb dX6_refuses_35 (by decide) (fun c35 => ?_) (fun c35 => ?_)
        · have h := br_0 h c35
          refine lv_iconst (v := (0 : Int32)) hx hb dX6_refuses_43 (by decide) ?_
          cases h
          exact hret _ _ dX6_refuses_44
        · have h := br_1 h c35
          refine lv_bipush (v := (-2 : Int32)) hx hb dX6_refuses_38 (by decide) ?_
          refine lv_goto (tgt := 44) hx hb dX6_refuses_40 (by decide) ?_
          cases h
          exact hret _ _ dX6_refuses_44
      · have h := br_0 h c21
        refine lv_bipush (v := (-4 : Int32)) hx hb dX6_refuses_24 (by decide) ?_
        refine lv_goto (tgt := 44) hx hb dX6_refuses_26 (by decide) ?_
        cases h
        exact hret _ _ dX6_refuses_44
    · have h := br_1 h c5
      refine lv_iconst (v := (-1 : Int32)) hx hb dX6_refuses_8 (by decide) ?_
      cases h
      exact hret _ _ dX6_refuses_9
  exact key _ (fun pc ls hd => W.iret hx hb hr (fun t ht hW => ⟨_, rfl, rfl, ht⟩) (fun q h => by cases h) hd)
set_option maxHeartbeats 4000000 in
set_option maxRecDepth 100000 in
theorem kX6_say (l : Launch) (D : va_G) (T : Nat → ClassId) (F : Nat) (am : Nat → Nat) (mguests : Int32) (mclause : Int32) (mdeeds : Int32) (masked : Int32) (mupper : Int64) (mlower : Int64) (mfinding : Int32) (mreadGuests : Int32) (misSight : Int32) (mat : Int32) (mrowSizes : Nat → Int32) (mrows : Nat → Int32) (mtextSizes : Nat → Int32) (mtexts : Nat → Int32) (mdoes : Nat → Int32) (mkinds : Nat → Int32) (msees : Nat → Int32) (mnow : Nat → Int32) (mbefore : Nat → Int32) (mkeeps : Nat → Int32) (mkept : Nat → Int32) (mfindings : Nat → Int32) (mread : Nat → Int32) (maside : Nat → Int32) (msteps : Nat → Int32) (mtried : Nat → Int32) (mbest : Nat → Int32) (x1 : Int32) (r : Int32) (zmdeeds : Int32) (zmnow : Nat → Int32) (zmbefore : Nat → Int32) (h : fX6_say F mguests mclause mdeeds mkinds msees mnow mbefore x1 = some (r, zmdeeds, zmnow, zmbefore)) : ∀ sz : Nat, Met l yX6_say wsX6_say ({ frames := 3, cells := 0, slots := 0, locals := 70 } : Room) (va_Pc [.ref (am 0), .int x1] (fun U => U.heap.size = sz ∧ va_P D vwCl (wMo T am mguests mclause mdeeds masked mupper mlower mfinding mreadGuests misSight mat mrowSizes mrows mtextSizes mtexts mdoes mkinds msees mnow mbefore mkeeps mkept mfindings mread maside msteps mtried mbest) U.heap ∧ KK D T U ∧ va_D (fun _ => True) (wMo T am mguests mclause mdeeds masked mupper mlower mfinding mreadGuests misSight mat mrowSizes mrows mtextSizes mtexts mdoes mkinds msees mnow mbefore mkeeps mkept mfindings mread maside msteps mtried mbest))) (va_Qi (fun r' (_ : Unit) => r' = r) (fun _ t => va_P D vwCl (wMo T am mguests mclause zmdeeds masked mupper mlower mfinding mreadGuests misSight mat mrowSizes mrows mtextSizes mtexts mdoes mkinds msees zmnow zmbefore mkeeps mkept mfindings mread maside msteps mtried mbest) t.heap ∧ va_D (va_A (wMo T am mguests mclause mdeeds masked mupper mlower mfinding mreadGuests misSight mat mrowSizes mrows mtextSizes mtexts mdoes mkinds msees mnow mbefore mkeeps mkept mfindings mread maside msteps mtried mbest) sz) (wMo T am mguests mclause zmdeeds masked mupper mlower mfinding mreadGuests misSight mat mrowSizes mrows mtextSizes mtexts mdoes mkinds msees zmnow zmbefore mkeeps mkept mfindings mread maside msteps mtried mbest)) (va_A (wMo T am mguests mclause mdeeds masked mupper mlower mfinding mreadGuests misSight mat mrowSizes mrows mtextSizes mtexts mdoes mkinds msees mnow mbefore mkeeps mkept mfindings mread maside msteps mtried mbest) sz)) 0 0 (va_A (wMo T am mguests mclause mdeeds masked mupper mlower mfinding mreadGuests misSight mat mrowSizes mrows mtextSizes mtexts mdoes mkinds msees mnow mbefore mkeeps mkept mfindings mread maside msteps mtried mbest) sz) := by
  intro sz
  refine Met.ofW (cc := cX6_say) (maxL := 4) (ret := some .int) (by decide) rfl ?_
  intro p e s m args below meth c s₁ B hml hv
  obtain ⟨ha, hsz, hP, hKK, hD0⟩ := hv
  have hx := B.exec
  have hb := B.bytes
  have hr := B.returns
  have hts := atoms_spec (ws := wsX6_say) B.pre
  have hown : s.vm.findClass RX6 = some m.cls := findClass_of_methodNamed B.named
  have hlocks := B.notSynchronized
  have hK := hKK.1
  have hFix : CallFix p m c cX6_say 4 s args wsX6_say RX6 := ⟨hx, hb, hml, hown, hts⟩
  have q1 := hts _ (List.mem_of_getElem? (i := 1) (show wsX6_say[1]? = some (Cond.fieldLink RX6 31 "PartyWillModel" "now" "[I") from rfl))
  have q2 := hts _ (List.mem_of_getElem? (i := 2) (show wsX6_say[2]? = some (Cond.fieldLink RX6 25 "PartyWillModel" "kinds" "[I") from rfl))
  have iX6 : ∀ w ∈ u_ws RX6 TX6 27, w ∈ wsX6_say := fun w h => List.mem_cons_of_mem _ (List.mem_append_right _ (h))
  subst hsz
  have hD := hD0.self (sz := s.heap.size)
  generalize hAe : va_A (wMo T am mguests mclause mdeeds masked mupper mlower mfinding mreadGuests misSight mat mrowSizes mrows mtextSizes mtexts mdoes mkinds msees mnow mbefore mkeeps mkept mfindings mread maside msteps mtried mbest) s.heap.size = A at hD ⊢
  have hA : ∀ q : Nat, s.heap.size ≤ q → A q := fun q h => by rw [← hAe]; exact Or.inr h
  have hS : va_S A s.heap s.heap [] := va_S.rf
  have hP : va_P D vwCl (wMo T am mguests mclause mdeeds masked mupper mlower mfinding mreadGuests misSight mat mrowSizes mrows mtextSizes mtexts mdoes mkinds msees mnow mbefore mkeeps mkept mfindings mread maside msteps mtried mbest) s.heap := hP
  obtain ⟨ls, hl, e0⟩ := my_entry (m := m) (n := 4) ha (Nat.le_of_ble_eq_true rfl)
  rw [e0]
  have hl : lv_has ls 4 [(0, .ref (am 0)), (1, .int x1)] := hl
  have key : ∀ Q : State → Prop, (∀ (H : Heap) (locs : List Loc) (pc : Nat) (ls : Array Slot), va_P D vwCl (wMo T am mguests mclause zmdeeds masked mupper mlower mfinding mreadGuests misSight mat mrowSizes mrows mtextSizes mtexts mdoes mkinds msees zmnow zmbefore mkeeps mkept mfindings mread maside msteps mtried mbest) H → va_D A (wMo T am mguests mclause zmdeeds masked mupper mlower mfinding mreadGuests misSight mat mrowSizes mrows mtextSizes mtexts mdoes mkinds msees zmnow zmbefore mkeeps mkept mfindings mread maside msteps mtried mbest) → va_S A s.heap H locs → decode cX6_say pc = .ok (.ireturn, 1) → W p l e ({ frames := 3, cells := 0, slots := 0, locals := 70 } : Room) s m args below meth c H locs 0 0 Q (F0 m pc ls [.int r])) → W p l e ({ frames := 3, cells := 0, slots := 0, locals := 70 } : Room) s m args below meth c s.heap [] 0 0 Q (F0 m 0 ls []) := by
    intro Q hret
    skip
    unfold fX6_say at h
    refine lv_aload_n hx hb dX6_say_0 rfl (lv_at hl 0 rfl) ?_
    refine lv_iload_n hx hb dX6_say_1 rfl (lv_at hl 1 rfl) ?_
    obtain ⟨r2, hc, h⟩ := bd1_some h
    refine my_roi (va_Run.run (va_runV (As := [.int x1]) (rest := []) hFix (kX6_refuses l D T F am mguests mclause mdeeds masked mupper mlower mfinding mreadGuests misSight mat mrowSizes mrows mtextSizes mtexts mdoes mkinds msees mnow mbefore mkeeps mkept mfindings mread maside msteps mtried mbest x1 r2 hc) (cwV 1 hts gX6_say_X6_refuses rfl rfl rfl ⟨rfl, hd_X6_refuses⟩ ⟨Nat.le_of_ble_eq_true rfl, Nat.le_of_ble_eq_true rfl⟩) (preV_ro hP hKK (va_recv hK hP (ci := 4) (q0 := 0) rfl wMo_0)) rfl rfl hl.1 rfl (lv_room (Nat.le_of_ble_eq_true rfl)) dX6_say_2 ⟨Nat.zero_le _, Nat.zero_le _⟩)) ?_
    refine lv_istore_n (lv' := [(2, .int r2), (0, .ref (am 0)), (1, .int x1)]) hx hb dX6_say_5 rfl hl (by decide) rfl (fun ls hl => ?_)
    refine lv_iload_n hx hb dX6_say_6 rfl (lv_at hl 0 rfl) ?_
    refine lv_if_eq (tgt := 12) hx hb dX6_say_7 (by decide) (fun c7 => ?_) (fun c7 => ?_)
    · have h := br_1 h c7
      refine lv_aload_n hx hb dX6_say_12 rfl (lv_at hl 1 rfl) ?_
      obtain ⟨w13_mdeeds, w13_mbefore, hc, h⟩ := bd2_some h
      have hFc := my_freeS hD hS hA
      refine my_rwv (va_runV (As := []) (rest := []) hFix (kX6_remember l D T F am mguests mclause mdeeds masked mupper mlower mfinding mreadGuests misSight mat mrowSizes mrows mtextSizes mtexts mdoes mkinds msees mnow mbefore mkeeps mkept mfindings mread maside msteps mtried mbest w13_mdeeds w13_mbefore hc) (cwV 0 hts gX6_say_X6_remember rfl rfl rfl ⟨rfl, hd_X6_remember⟩ ⟨Nat.le_of_ble_eq_true rfl, Nat.le_of_ble_eq_true rfl⟩) (preV_rw hP hKK hD (va_recv hK hP (ci := 4) (q0 := 0) rfl wMo_0)) rfl rfl hl.1 rfl (lv_room (Nat.le_of_ble_eq_true rfl)) dX6_say_13 ⟨Nat.zero_le _, Nat.zero_le _⟩) hS hFc (fun H1 locs hP1 hD1 hz1 hk1 hS => ?_)
      have hP : va_P D vwCl (wMo T am mguests mclause w13_mdeeds masked mupper mlower mfinding mreadGuests misSight mat mrowSizes mrows mtextSizes mtexts mdoes mkinds msees mnow w13_mbefore mkeeps mkept mfindings mread maside msteps mtried mbest) H1 := hP1
      have hD : va_D A (wMo T am mguests mclause w13_mdeeds masked mupper mlower mfinding mreadGuests misSight mat mrowSizes mrows mtextSizes mtexts mdoes mkinds msees mnow w13_mbefore mkeeps mkept mfindings mread maside msteps mtried mbest) := hD1.weaken (fun _ q _ h => hFc q.1 h)
      generalize H1 = H at hP hS ⊢
      refine lv_aload_n hx hb dX6_say_16 rfl (lv_at hl 1 rfl) ?_
      refine va_get (D := D) (ci := 4) (C := RX6) (T := TX6) (N := 27) hx hb hts iX6 hown hK hP 0 wMo_0 rfl 9 (by decide) q1 (fun _ h9 => h9) rfl dX6_say_17 ?_
      refine lv_iload_n hx hb dX6_say_20 rfl (lv_at hl 2 rfl) ?_
      refine lv_aload_n hx hb dX6_say_21 rfl (lv_at hl 1 rfl) ?_
      refine va_get (D := D) (ci := 4) (C := RX6) (T := TX6) (N := 27) hx hb hts iX6 hown hK hP 0 wMo_0 rfl 7 (by decide) q2 (fun _ h9 => h9) rfl dX6_say_22 ?_
      refine lv_iload_n hx hb dX6_say_25 rfl (lv_at hl 2 rfl) ?_
      obtain ⟨hin1, h⟩ := ck_some h
      refine va_iald hx hb hK hP 6 0 wMo_6 rfl hin1 dX6_say_26 ?_
      refine lv_aload_n hx hb dX6_say_27 rfl (lv_at hl 1 rfl) ?_
      refine va_get (D := D) (ci := 4) (C := RX6) (T := TX6) (N := 27) hx hb hts iX6 hown hK hP 0 wMo_0 rfl 9 (by decide) q1 (fun _ h9 => h9) rfl dX6_say_28 ?_
      refine lv_iload_n hx hb dX6_say_31 rfl (lv_at hl 2 rfl) ?_
      obtain ⟨hin2, h⟩ := ck_some h
      refine va_iald hx hb hK hP 8 0 wMo_8 rfl hin2 dX6_say_32 ?_
      obtain ⟨r33, hc, h⟩ := bd1_some h
      refine my_roi (va_Run.run (va_runS (As := [.int (mkinds x1.toNatClampNeg), .int (mnow x1.toNatClampNeg)]) (rest := [.int x1, .ref (am 8)]) hFix (kX6_named l D T F (mkinds x1.toNatClampNeg) (mnow x1.toNatClampNeg) r33 hc) (va_cwS 2 hts gX6_say_X6_named rfl rfl rfl hd_X6_named ⟨Nat.le_of_ble_eq_true rfl, Nat.le_of_ble_eq_true rfl⟩) (preS_ro va_nil hKK) rfl rfl hl.1 rfl (lv_room (Nat.le_of_ble_eq_true rfl)) dX6_say_33 ⟨Nat.zero_le _, Nat.zero_le _⟩)) ?_
      obtain ⟨hin3, h⟩ := ck_some h
      refine va_iast hx hb hK hP hD hS 8 0 wMo_8 rfl hin3 dX6_say_36 (fun H locs hP hD hS => ?_)
      have hP : va_P D vwCl (wMo T am mguests mclause w13_mdeeds masked mupper mlower mfinding mreadGuests misSight mat mrowSizes mrows mtextSizes mtexts mdoes mkinds msees (upd mnow x1.toNatClampNeg r33) w13_mbefore mkeeps mkept mfindings mread maside msteps mtried mbest) H := hP
      have hD : va_D A (wMo T am mguests mclause w13_mdeeds masked mupper mlower mfinding mreadGuests misSight mat mrowSizes mrows mtextSizes mtexts mdoes mkinds msees (upd mnow x1.toNatClampNeg r33) w13_mbefore mkeeps mkept mfindings mread maside msteps mtried mbest) := hD
      refine lv_aload_n hx hb dX6_say_37 rfl (lv_at hl 1 rfl) ?_
      refine lv_aload_n hx hb dX6_say_38 rfl (lv_at hl 1 rfl) ?_
      refine va_get (D := D) (ci := 4) (C := RX6) (T := TX6) (N := 27) hx hb hts iX6 hown hK hP 0 wMo_0 rfl 9 (by decide) q1 (fun _ h9 => h9) rfl dX6_say_39 ?_
      obtain ⟨r42, w42_tt, hc, h⟩ := bd2_some h
      have hPc : va_P D vwCl (wMl T am (am 8) mguests mclause w13_mdeeds masked mupper mlower mfinding mreadGuests misSight mat mkinds msees (upd mnow x1.toNatClampNeg r33)) H := my_subP sb_wMo_wMl_0_6_7_8 hP
      have hDc := hD.sub [0, 6, 7, 8] (by decide) sb_wMo_wMl_0_6_7_8
      have hFc := va_free hD hS hA [0, 6, 7, 8] sb_wMo_wMl_0_6_7_8
      refine my_rwi (va_runV (As := [.ref (am 8)]) (rest := []) hFix (kX6_looks l D T F am (am 8) mguests mclause w13_mdeeds masked mupper mlower mfinding mreadGuests misSight mat mkinds msees (upd mnow x1.toNatClampNeg r33) r42 w42_tt hc) (cwV 1 hts gX6_say_X6_looks rfl rfl rfl ⟨rfl, hd_X6_looks⟩ ⟨Nat.le_of_ble_eq_true rfl, Nat.le_of_ble_eq_true rfl⟩) (preV_rw hPc hKK hDc (va_recv hK hP (ci := 4) (q0 := 0) rfl wMo_0)) rfl rfl hl.1 rfl (lv_room (Nat.le_of_ble_eq_true rfl)) dX6_say_42 ⟨Nat.zero_le _, Nat.zero_le _⟩) hS hFc (fun H1 locs hP1 hD1 hz1 hk1 hS => ?_)
      obtain ⟨hP, hD⟩ := my_joinS hP hD (by decide) sb_wMo_wMl_0_6_7_8 hk1 hFc hP1 hD1
      have hP : va_P D vwCl (wMo T am mguests mclause w13_mdeeds masked mupper mlower mfinding mreadGuests misSight mat mrowSizes mrows mtextSizes mtexts mdoes mkinds msees w42_tt w13_mbefore mkeeps mkept mfindings mread maside msteps mtried mbest) H1 := st_wMo_wMl_0_6_7_8_looks ▸ hP
      have hD : va_D A (wMo T am mguests mclause w13_mdeeds masked mupper mlower mfinding mreadGuests misSight mat mrowSizes mrows mtextSizes mtexts mdoes mkinds msees w42_tt w13_mbefore mkeeps mkept mfindings mread maside msteps mtried mbest) := st_wMo_wMl_0_6_7_8_looks ▸ hD
      generalize H1 = H at hP hS ⊢
      refine lv_istore_n (lv' := [(3, .int r42), (2, .int r2), (0, .ref (am 0)), (1, .int x1)]) hx hb dX6_say_45 rfl hl (by decide) rfl (fun ls hl => ?_)
      refine lv_iload_n hx hb dX6_say_46 rfl (lv_at hl 0 rfl) ?_
      refine lv_iload_n hx hb dX6_say_47 rfl (lv_at hl 3 rfl) ?_
      obtain ⟨r48, hc, h⟩ := bd1_some h
      refine my_roz (va_Run.run (va_runS (As := [.int r42, .int x1]) (rest := []) hFix (kX6_has l D T F r42 x1 r48 hc) (va_cwS 2 hts gX6_say_X6_has rfl rfl rfl hd_X6_has ⟨Nat.le_of_ble_eq_true rfl, Nat.le_of_ble_eq_true rfl⟩) (preS_ro va_nil hKK) rfl rfl hl.1 rfl (lv_room (Nat.le_of_ble_eq_true rfl)) dX6_say_48 ⟨Nat.zero_le _, Nat.zero_le _⟩)) (fun hb48 => ?_)
      refine lv_if_eq (tgt := 58) hx hb dX6_say_51 (by decide) (fun c51 => ?_) (fun c51 => ?_)
      · have h := br_1 h c51
        refine lv_aload_n hx hb dX6_say_58 rfl (lv_at hl 2 rfl) ?_
        refine va_get (D := D) (ci := 4) (C := RX6) (T := TX6) (N := 27) hx hb hts iX6 hown hK hP 0 wMo_0 rfl 9 (by decide) q1 (fun _ h9 => h9) rfl dX6_say_59 ?_
        refine lv_iload_n hx hb dX6_say_62 rfl (lv_at hl 3 rfl) ?_
        obtain ⟨hin4, h⟩ := ck_some h
        refine va_iald hx hb hK hP 8 0 wMo_8 rfl hin4 dX6_say_63 ?_
        cases h
        exact hret _ _ _ _ hP hD hS dX6_say_64
      · have h := br_0 h c51
        refine lv_iconst (v := (0 : Int32)) hx hb dX6_say_54 (by decide) ?_
        refine lv_goto (tgt := 64) hx hb dX6_say_55 (by decide) ?_
        cases h
        exact hret _ _ _ _ hP hD hS dX6_say_64
    · have h := br_0 h c7
      refine lv_iload_n hx hb dX6_say_10 rfl (lv_at hl 0 rfl) ?_
      cases h
      exact hret _ _ _ _ hP hD hS dX6_say_11
  exact key _ (fun H locs pc ls hP hD hS hd => W.iret hx hb hr (fun t ht hW => ⟨⟨_, (), rfl, rfl, by show _ ∧ _; rw [ht]; exact ⟨hP, hD⟩⟩, hS.F ht⟩) hS.2.2 hd)
set_option maxHeartbeats 4000000 in
set_option maxRecDepth 100000 in
theorem kX6_ice (l : Launch) (D : va_G) (T : Nat → ClassId) (F : Nat) (am : Nat → Nat) (mguests : Int32) (mclause : Int32) (mdeeds : Int32) (masked : Int32) (mupper : Int64) (mlower : Int64) (mfinding : Int32) (mreadGuests : Int32) (misSight : Int32) (mat : Int32) (mrowSizes : Nat → Int32) (mrows : Nat → Int32) (mtextSizes : Nat → Int32) (mtexts : Nat → Int32) (mdoes : Nat → Int32) (mkinds : Nat → Int32) (msees : Nat → Int32) (mnow : Nat → Int32) (mbefore : Nat → Int32) (mkeeps : Nat → Int32) (mkept : Nat → Int32) (mfindings : Nat → Int32) (mread : Nat → Int32) (maside : Nat → Int32) (msteps : Nat → Int32) (mtried : Nat → Int32) (mbest : Nat → Int32) (x1 : Int32) (r : Int32) (zmdeeds : Int32) (zmnow : Nat → Int32) (zmbefore : Nat → Int32) (h : fX6_ice F mguests mclause mdeeds mkinds msees mnow mbefore x1 = some (r, zmdeeds, zmnow, zmbefore)) : ∀ sz : Nat, Met l yX6_ice wsX6_ice ({ frames := 3, cells := 0, slots := 0, locals := 70 } : Room) (va_Pc [.ref (am 0), .int x1] (fun U => U.heap.size = sz ∧ va_P D vwCl (wMo T am mguests mclause mdeeds masked mupper mlower mfinding mreadGuests misSight mat mrowSizes mrows mtextSizes mtexts mdoes mkinds msees mnow mbefore mkeeps mkept mfindings mread maside msteps mtried mbest) U.heap ∧ KK D T U ∧ va_D (fun _ => True) (wMo T am mguests mclause mdeeds masked mupper mlower mfinding mreadGuests misSight mat mrowSizes mrows mtextSizes mtexts mdoes mkinds msees mnow mbefore mkeeps mkept mfindings mread maside msteps mtried mbest))) (va_Qi (fun r' (_ : Unit) => r' = r) (fun _ t => va_P D vwCl (wMo T am mguests mclause zmdeeds masked mupper mlower mfinding mreadGuests misSight mat mrowSizes mrows mtextSizes mtexts mdoes mkinds msees zmnow zmbefore mkeeps mkept mfindings mread maside msteps mtried mbest) t.heap ∧ va_D (va_A (wMo T am mguests mclause mdeeds masked mupper mlower mfinding mreadGuests misSight mat mrowSizes mrows mtextSizes mtexts mdoes mkinds msees mnow mbefore mkeeps mkept mfindings mread maside msteps mtried mbest) sz) (wMo T am mguests mclause zmdeeds masked mupper mlower mfinding mreadGuests misSight mat mrowSizes mrows mtextSizes mtexts mdoes mkinds msees zmnow zmbefore mkeeps mkept mfindings mread maside msteps mtried mbest)) (va_A (wMo T am mguests mclause mdeeds masked mupper mlower mfinding mreadGuests misSight mat mrowSizes mrows mtextSizes mtexts mdoes mkinds msees mnow mbefore mkeeps mkept mfindings mread maside msteps mtried mbest) sz)) 0 0 (va_A (wMo T am mguests mclause mdeeds masked mupper mlower mfinding mreadGuests misSight mat mrowSizes mrows mtextSizes mtexts mdoes mkinds msees mnow mbefore mkeeps mkept mfindings mread maside msteps mtried mbest) sz) := by
  intro sz
  refine Met.ofW (cc := cX6_ice) (maxL := 4) (ret := some .int) (by decide) rfl ?_
  intro p e s m args below meth c s₁ B hml hv
  obtain ⟨ha, hsz, hP, hKK, hD0⟩ := hv
  have hx := B.exec
  have hb := B.bytes
  have hr := B.returns
  have hts := atoms_spec (ws := wsX6_ice) B.pre
  have hown : s.vm.findClass RX6 = some m.cls := findClass_of_methodNamed B.named
  have hlocks := B.notSynchronized
  have hK := hKK.1
  have hFix : CallFix p m c cX6_ice 4 s args wsX6_ice RX6 := ⟨hx, hb, hml, hown, hts⟩
  have q1 := hts _ (List.mem_of_getElem? (i := 1) (show wsX6_ice[1]? = some (Cond.fieldLink RX6 31 "PartyWillModel" "now" "[I") from rfl))
  have iX6 : ∀ w ∈ u_ws RX6 TX6 27, w ∈ wsX6_ice := fun w h => List.mem_cons_of_mem _ (List.mem_append_right _ (h))
  subst hsz
  have hD := hD0.self (sz := s.heap.size)
  generalize hAe : va_A (wMo T am mguests mclause mdeeds masked mupper mlower mfinding mreadGuests misSight mat mrowSizes mrows mtextSizes mtexts mdoes mkinds msees mnow mbefore mkeeps mkept mfindings mread maside msteps mtried mbest) s.heap.size = A at hD ⊢
  have hA : ∀ q : Nat, s.heap.size ≤ q → A q := fun q h => by rw [← hAe]; exact Or.inr h
  have hS : va_S A s.heap s.heap [] := va_S.rf
  have hP : va_P D vwCl (wMo T am mguests mclause mdeeds masked mupper mlower mfinding mreadGuests misSight mat mrowSizes mrows mtextSizes mtexts mdoes mkinds msees mnow mbefore mkeeps mkept mfindings mread maside msteps mtried mbest) s.heap := hP
  obtain ⟨ls, hl, e0⟩ := my_entry (m := m) (n := 4) ha (Nat.le_of_ble_eq_true rfl)
  rw [e0]
  have hl : lv_has ls 4 [(0, .ref (am 0)), (1, .int x1)] := hl
  have key : ∀ Q : State → Prop, (∀ (H : Heap) (locs : List Loc) (pc : Nat) (ls : Array Slot), va_P D vwCl (wMo T am mguests mclause zmdeeds masked mupper mlower mfinding mreadGuests misSight mat mrowSizes mrows mtextSizes mtexts mdoes mkinds msees zmnow zmbefore mkeeps mkept mfindings mread maside msteps mtried mbest) H → va_D A (wMo T am mguests mclause zmdeeds masked mupper mlower mfinding mreadGuests misSight mat mrowSizes mrows mtextSizes mtexts mdoes mkinds msees zmnow zmbefore mkeeps mkept mfindings mread maside msteps mtried mbest) → va_S A s.heap H locs → decode cX6_ice pc = .ok (.ireturn, 1) → W p l e ({ frames := 3, cells := 0, slots := 0, locals := 70 } : Room) s m args below meth c H locs 0 0 Q (F0 m pc ls [.int r])) → W p l e ({ frames := 3, cells := 0, slots := 0, locals := 70 } : Room) s m args below meth c s.heap [] 0 0 Q (F0 m 0 ls []) := by
    intro Q hret
    skip
    unfold fX6_ice at h
    refine lv_aload_n hx hb dX6_ice_0 rfl (lv_at hl 0 rfl) ?_
    refine lv_iload_n hx hb dX6_ice_1 rfl (lv_at hl 1 rfl) ?_
    obtain ⟨r2, hc, h⟩ := bd1_some h
    refine my_roi (va_Run.run (va_runV (As := [.int x1]) (rest := []) hFix (kX6_refuses l D T F am mguests mclause mdeeds masked mupper mlower mfinding mreadGuests misSight mat mrowSizes mrows mtextSizes mtexts mdoes mkinds msees mnow mbefore mkeeps mkept mfindings mread maside msteps mtried mbest x1 r2 hc) (cwV 1 hts gX6_ice_X6_refuses rfl rfl rfl ⟨rfl, hd_X6_refuses⟩ ⟨Nat.le_of_ble_eq_true rfl, Nat.le_of_ble_eq_true rfl⟩) (preV_ro hP hKK (va_recv hK hP (ci := 4) (q0 := 0) rfl wMo_0)) rfl rfl hl.1 rfl (lv_room (Nat.le_of_ble_eq_true rfl)) dX6_ice_2 ⟨Nat.zero_le _, Nat.zero_le _⟩)) ?_
    refine lv_istore_n (lv' := [(2, .int r2), (0, .ref (am 0)), (1, .int x1)]) hx hb dX6_ice_5 rfl hl (by decide) rfl (fun ls hl => ?_)
    refine lv_iload_n hx hb dX6_ice_6 rfl (lv_at hl 0 rfl) ?_
    refine lv_if_eq (tgt := 12) hx hb dX6_ice_7 (by decide) (fun c7 => ?_) (fun c7 => ?_)
    · have h := br_1 h c7
      refine lv_aload_n hx hb dX6_ice_12 rfl (lv_at hl 1 rfl) ?_
      obtain ⟨w13_mdeeds, w13_mbefore, hc, h⟩ := bd2_some h
      have hFc := my_freeS hD hS hA
      refine my_rwv (va_runV (As := []) (rest := []) hFix (kX6_remember l D T F am mguests mclause mdeeds masked mupper mlower mfinding mreadGuests misSight mat mrowSizes mrows mtextSizes mtexts mdoes mkinds msees mnow mbefore mkeeps mkept mfindings mread maside msteps mtried mbest w13_mdeeds w13_mbefore hc) (cwV 0 hts gX6_ice_X6_remember rfl rfl rfl ⟨rfl, hd_X6_remember⟩ ⟨Nat.le_of_ble_eq_true rfl, Nat.le_of_ble_eq_true rfl⟩) (preV_rw hP hKK hD (va_recv hK hP (ci := 4) (q0 := 0) rfl wMo_0)) rfl rfl hl.1 rfl (lv_room (Nat.le_of_ble_eq_true rfl)) dX6_ice_13 ⟨Nat.zero_le _, Nat.zero_le _⟩) hS hFc (fun H1 locs hP1 hD1 hz1 hk1 hS => ?_)
      have hP : va_P D vwCl (wMo T am mguests mclause w13_mdeeds masked mupper mlower mfinding mreadGuests misSight mat mrowSizes mrows mtextSizes mtexts mdoes mkinds msees mnow w13_mbefore mkeeps mkept mfindings mread maside msteps mtried mbest) H1 := hP1
      have hD : va_D A (wMo T am mguests mclause w13_mdeeds masked mupper mlower mfinding mreadGuests misSight mat mrowSizes mrows mtextSizes mtexts mdoes mkinds msees mnow w13_mbefore mkeeps mkept mfindings mread maside msteps mtried mbest) := hD1.weaken (fun _ q _ h => hFc q.1 h)
      generalize H1 = H at hP hS ⊢
      refine lv_aload_n hx hb dX6_ice_16 rfl (lv_at hl 1 rfl) ?_
      refine va_get (D := D) (ci := 4) (C := RX6) (T := TX6) (N := 27) hx hb hts iX6 hown hK hP 0 wMo_0 rfl 9 (by decide) q1 (fun _ h9 => h9) rfl dX6_ice_17 ?_
      refine lv_iload_n hx hb dX6_ice_20 rfl (lv_at hl 2 rfl) ?_
      refine lv_aload_n hx hb dX6_ice_21 rfl (lv_at hl 1 rfl) ?_
      refine va_get (D := D) (ci := 4) (C := RX6) (T := TX6) (N := 27) hx hb hts iX6 hown hK hP 0 wMo_0 rfl 9 (by decide) q1 (fun _ h9 => h9) rfl dX6_ice_22 ?_
      refine lv_iload_n hx hb dX6_ice_25 rfl (lv_at hl 2 rfl) ?_
      obtain ⟨hin1, h⟩ := ck_some h
      refine va_iald hx hb hK hP 8 0 wMo_8 rfl hin1 dX6_ice_26 ?_
      refine lv_iconst (v := (3 : Int32)) hx hb dX6_ice_27 (by decide) ?_
      refine lv_isub hx hb dX6_ice_28 ?_
      obtain ⟨r29, hc, h⟩ := bd1_some h
      refine my_roi (va_Run.run (va_runS (As := [.int ((mnow x1.toNatClampNeg) - (3 : Int32))]) (rest := [.int x1, .ref (am 8)]) hFix (kX6_kept20 l D T F ((mnow x1.toNatClampNeg) - (3 : Int32)) r29 hc) (va_cwS 1 hts gX6_ice_X6_kept20 rfl rfl rfl hd_X6_kept20 ⟨Nat.le_of_ble_eq_true rfl, Nat.le_of_ble_eq_true rfl⟩) (preS_ro va_nil hKK) rfl rfl hl.1 rfl (lv_room (Nat.le_of_ble_eq_true rfl)) dX6_ice_29 ⟨Nat.zero_le _, Nat.zero_le _⟩)) ?_
      obtain ⟨hin2, h⟩ := ck_some h
      refine va_iast hx hb hK hP hD hS 8 0 wMo_8 rfl hin2 dX6_ice_32 (fun H locs hP hD hS => ?_)
      have hP : va_P D vwCl (wMo T am mguests mclause w13_mdeeds masked mupper mlower mfinding mreadGuests misSight mat mrowSizes mrows mtextSizes mtexts mdoes mkinds msees (upd mnow x1.toNatClampNeg r29) w13_mbefore mkeeps mkept mfindings mread maside msteps mtried mbest) H := hP
      have hD : va_D A (wMo T am mguests mclause w13_mdeeds masked mupper mlower mfinding mreadGuests misSight mat mrowSizes mrows mtextSizes mtexts mdoes mkinds msees (upd mnow x1.toNatClampNeg r29) w13_mbefore mkeeps mkept mfindings mread maside msteps mtried mbest) := hD
      refine lv_aload_n hx hb dX6_ice_33 rfl (lv_at hl 1 rfl) ?_
      refine lv_aload_n hx hb dX6_ice_34 rfl (lv_at hl 1 rfl) ?_
      refine va_get (D := D) (ci := 4) (C := RX6) (T := TX6) (N := 27) hx hb hts iX6 hown hK hP 0 wMo_0 rfl 9 (by decide) q1 (fun _ h9 => h9) rfl dX6_ice_35 ?_
      obtain ⟨r38, w38_tt, hc, h⟩ := bd2_some h
      have hPc : va_P D vwCl (wMl T am (am 8) mguests mclause w13_mdeeds masked mupper mlower mfinding mreadGuests misSight mat mkinds msees (upd mnow x1.toNatClampNeg r29)) H := my_subP sb_wMo_wMl_0_6_7_8 hP
      have hDc := hD.sub [0, 6, 7, 8] (by decide) sb_wMo_wMl_0_6_7_8
      have hFc := va_free hD hS hA [0, 6, 7, 8] sb_wMo_wMl_0_6_7_8
      refine my_rwi (va_runV (As := [.ref (am 8)]) (rest := []) hFix (kX6_looks l D T F am (am 8) mguests mclause w13_mdeeds masked mupper mlower mfinding mreadGuests misSight mat mkinds msees (upd mnow x1.toNatClampNeg r29) r38 w38_tt hc) (cwV 1 hts gX6_ice_X6_looks rfl rfl rfl ⟨rfl, hd_X6_looks⟩ ⟨Nat.le_of_ble_eq_true rfl, Nat.le_of_ble_eq_true rfl⟩) (preV_rw hPc hKK hDc (va_recv hK hP (ci := 4) (q0 := 0) rfl wMo_0)) rfl rfl hl.1 rfl (lv_room (Nat.le_of_ble_eq_true rfl)) dX6_ice_38 ⟨Nat.zero_le _, Nat.zero_le _⟩) hS hFc (fun H1 locs hP1 hD1 hz1 hk1 hS => ?_)
      obtain ⟨hP, hD⟩ := my_joinS hP hD (by decide) sb_wMo_wMl_0_6_7_8 hk1 hFc hP1 hD1
      have hP : va_P D vwCl (wMo T am mguests mclause w13_mdeeds masked mupper mlower mfinding mreadGuests misSight mat mrowSizes mrows mtextSizes mtexts mdoes mkinds msees w38_tt w13_mbefore mkeeps mkept mfindings mread maside msteps mtried mbest) H1 := st_wMo_wMl_0_6_7_8_looks ▸ hP
      have hD : va_D A (wMo T am mguests mclause w13_mdeeds masked mupper mlower mfinding mreadGuests misSight mat mrowSizes mrows mtextSizes mtexts mdoes mkinds msees w38_tt w13_mbefore mkeeps mkept mfindings mread maside msteps mtried mbest) := st_wMo_wMl_0_6_7_8_looks ▸ hD
      generalize H1 = H at hP hS ⊢
      refine lv_istore_n (lv' := [(3, .int r38), (2, .int r2), (0, .ref (am 0)), (1, .int x1)]) hx hb dX6_ice_41 rfl hl (by decide) rfl (fun ls hl => ?_)
      refine lv_iload_n hx hb dX6_ice_42 rfl (lv_at hl 0 rfl) ?_
      refine lv_iload_n hx hb dX6_ice_43 rfl (lv_at hl 3 rfl) ?_
      obtain ⟨r44, hc, h⟩ := bd1_some h
      refine my_roz (va_Run.run (va_runS (As := [.int r38, .int x1]) (rest := []) hFix (kX6_has l D T F r38 x1 r44 hc) (va_cwS 2 hts gX6_ice_X6_has rfl rfl rfl hd_X6_has ⟨Nat.le_of_ble_eq_true rfl, Nat.le_of_ble_eq_true rfl⟩) (preS_ro va_nil hKK) rfl rfl hl.1 rfl (lv_room (Nat.le_of_ble_eq_true rfl)) dX6_ice_44 ⟨Nat.zero_le _, Nat.zero_le _⟩)) (fun hb44 => ?_)
      refine lv_if_eq (tgt := 54) hx hb dX6_ice_47 (by decide) (fun c47 => ?_) (fun c47 => ?_)
      · have h := br_1 h c47
        refine lv_aload_n hx hb dX6_ice_54 rfl (lv_at hl 2 rfl) ?_
        refine va_get (D := D) (ci := 4) (C := RX6) (T := TX6) (N := 27) hx hb hts iX6 hown hK hP 0 wMo_0 rfl 9 (by decide) q1 (fun _ h9 => h9) rfl dX6_ice_55 ?_
        refine lv_iload_n hx hb dX6_ice_58 rfl (lv_at hl 3 rfl) ?_
        obtain ⟨hin3, h⟩ := ck_some h
        refine va_iald hx hb hK hP 8 0 wMo_8 rfl hin3 dX6_ice_59 ?_
        cases h
        exact hret _ _ _ _ hP hD hS dX6_ice_60
      · have h := br_0 h c47
        refine lv_iconst (v := (0 : Int32)) hx hb dX6_ice_50 (by decide) ?_
        refine lv_goto (tgt := 60) hx hb dX6_ice_51 (by decide) ?_
        cases h
        exact hret _ _ _ _ hP hD hS dX6_ice_60
    · have h := br_0 h c7
      refine lv_iload_n hx hb dX6_ice_10 rfl (lv_at hl 0 rfl) ?_
      cases h
      exact hret _ _ _ _ hP hD hS dX6_ice_11
  exact key _ (fun H locs pc ls hP hD hS hd => W.iret hx hb hr (fun t ht hW => ⟨⟨_, (), rfl, rfl, by show _ ∧ _; rw [ht]; exact ⟨hP, hD⟩⟩, hS.F ht⟩) hS.2.2 hd)
set_option maxHeartbeats 4000000 in
set_option maxRecDepth 100000 in
theorem kX6_undo (l : Launch) (D : va_G) (T : Nat → ClassId) (F : Nat) (am : Nat → Nat) (mguests : Int32) (mclause : Int32) (mdeeds : Int32) (masked : Int32) (mupper : Int64) (mlower : Int64) (mfinding : Int32) (mreadGuests : Int32) (misSight : Int32) (mat : Int32) (mrowSizes : Nat → Int32) (mrows : Nat → Int32) (mtextSizes : Nat → Int32) (mtexts : Nat → Int32) (mdoes : Nat → Int32) (mkinds : Nat → Int32) (msees : Nat → Int32) (mnow : Nat → Int32) (mbefore : Nat → Int32) (mkeeps : Nat → Int32) (mkept : Nat → Int32) (mfindings : Nat → Int32) (mread : Nat → Int32) (maside : Nat → Int32) (msteps : Nat → Int32) (mtried : Nat → Int32) (mbest : Nat → Int32) (x1 : Int32) (r : Int32) (zmdeeds : Int32) (zmnow : Nat → Int32) (h : fX6_undo F mdeeds mnow mbefore x1 = some (r, zmdeeds, zmnow)) : ∀ sz : Nat, Met l yX6_undo wsX6_undo ({ frames := 1, cells := 0, slots := 0, locals := 25 } : Room) (va_Pc [.ref (am 0), .int x1] (fun U => U.heap.size = sz ∧ va_P D vwCl (wMo T am mguests mclause mdeeds masked mupper mlower mfinding mreadGuests misSight mat mrowSizes mrows mtextSizes mtexts mdoes mkinds msees mnow mbefore mkeeps mkept mfindings mread maside msteps mtried mbest) U.heap ∧ KK D T U ∧ va_D (fun _ => True) (wMo T am mguests mclause mdeeds masked mupper mlower mfinding mreadGuests misSight mat mrowSizes mrows mtextSizes mtexts mdoes mkinds msees mnow mbefore mkeeps mkept mfindings mread maside msteps mtried mbest))) (va_Qi (fun r' (_ : Unit) => r' = r) (fun _ t => va_P D vwCl (wMo T am mguests mclause zmdeeds masked mupper mlower mfinding mreadGuests misSight mat mrowSizes mrows mtextSizes mtexts mdoes mkinds msees zmnow mbefore mkeeps mkept mfindings mread maside msteps mtried mbest) t.heap ∧ va_D (va_A (wMo T am mguests mclause mdeeds masked mupper mlower mfinding mreadGuests misSight mat mrowSizes mrows mtextSizes mtexts mdoes mkinds msees mnow mbefore mkeeps mkept mfindings mread maside msteps mtried mbest) sz) (wMo T am mguests mclause zmdeeds masked mupper mlower mfinding mreadGuests misSight mat mrowSizes mrows mtextSizes mtexts mdoes mkinds msees zmnow mbefore mkeeps mkept mfindings mread maside msteps mtried mbest)) (va_A (wMo T am mguests mclause mdeeds masked mupper mlower mfinding mreadGuests misSight mat mrowSizes mrows mtextSizes mtexts mdoes mkinds msees mnow mbefore mkeeps mkept mfindings mread maside msteps mtried mbest) sz)) 0 0 (va_A (wMo T am mguests mclause mdeeds masked mupper mlower mfinding mreadGuests misSight mat mrowSizes mrows mtextSizes mtexts mdoes mkinds msees mnow mbefore mkeeps mkept mfindings mread maside msteps mtried mbest) sz) := by
  intro sz
  refine Met.ofW (cc := cX6_undo) (maxL := 3) (ret := some .int) (by decide) rfl ?_
  intro p e s m args below meth c s₁ B hml hv
  obtain ⟨ha, hsz, hP, hKK, hD0⟩ := hv
  have hx := B.exec
  have hb := B.bytes
  have hr := B.returns
  have hts := atoms_spec (ws := wsX6_undo) B.pre
  have hown : s.vm.findClass RX6 = some m.cls := findClass_of_methodNamed B.named
  have hlocks := B.notSynchronized
  have hK := hKK.1
  have hFix : CallFix p m c cX6_undo 3 s args wsX6_undo RX6 := ⟨hx, hb, hml, hown, hts⟩
  have q1 := hts _ (List.mem_of_getElem? (i := 1) (show wsX6_undo[1]? = some (Cond.fieldLink RX6 137 "PartyWillModel" "deeds" "I") from rfl))
  have q2 := hts _ (List.mem_of_getElem? (i := 2) (show wsX6_undo[2]? = some (Cond.fieldLink RX6 34 "PartyWillModel" "before" "[I") from rfl))
  have q3 := hts _ (List.mem_of_getElem? (i := 3) (show wsX6_undo[3]? = some (Cond.fieldLink RX6 31 "PartyWillModel" "now" "[I") from rfl))
  have iX6 : ∀ w ∈ u_ws RX6 TX6 27, w ∈ wsX6_undo := fun w h => List.mem_cons_of_mem _ (List.mem_append_right _ (h))
  subst hsz
  have hD := hD0.self (sz := s.heap.size)
  generalize hAe : va_A (wMo T am mguests mclause mdeeds masked mupper mlower mfinding mreadGuests misSight mat mrowSizes mrows mtextSizes mtexts mdoes mkinds msees mnow mbefore mkeeps mkept mfindings mread maside msteps mtried mbest) s.heap.size = A at hD ⊢
  have hA : ∀ q : Nat, s.heap.size ≤ q → A q := fun q h => by rw [← hAe]; exact Or.inr h
  have hS : va_S A s.heap s.heap [] := va_S.rf
  have hP : va_P D vwCl (wMo T am mguests mclause mdeeds masked mupper mlower mfinding mreadGuests misSight mat mrowSizes mrows mtextSizes mtexts mdoes mkinds msees mnow mbefore mkeeps mkept mfindings mread maside msteps mtried mbest) s.heap := hP
  obtain ⟨ls, hl, e0⟩ := my_entry (m := m) (n := 3) ha (Nat.le_of_ble_eq_true rfl)
  rw [e0]
  have hl : lv_has ls 3 [(0, .ref (am 0)), (1, .int x1)] := hl
  have key : ∀ Q : State → Prop, (∀ (H : Heap) (locs : List Loc) (pc : Nat) (ls : Array Slot), va_P D vwCl (wMo T am mguests mclause zmdeeds masked mupper mlower mfinding mreadGuests misSight mat mrowSizes mrows mtextSizes mtexts mdoes mkinds msees zmnow mbefore mkeeps mkept mfindings mread maside msteps mtried mbest) H → va_D A (wMo T am mguests mclause zmdeeds masked mupper mlower mfinding mreadGuests misSight mat mrowSizes mrows mtextSizes mtexts mdoes mkinds msees zmnow mbefore mkeeps mkept mfindings mread maside msteps mtried mbest) → va_S A s.heap H locs → decode cX6_undo pc = .ok (.ireturn, 1) → W p l e ({ frames := 1, cells := 0, slots := 0, locals := 25 } : Room) s m args below meth c H locs 0 0 Q (F0 m pc ls [.int r])) → W p l e ({ frames := 1, cells := 0, slots := 0, locals := 25 } : Room) s m args below meth c s.heap [] 0 0 Q (F0 m 0 ls []) := by
    intro Q hret
    skip
    unfold fX6_undo at h
    refine lv_iload_n hx hb dX6_undo_0 rfl (lv_at hl 1 rfl) ?_
    refine lv_i2l (v := (x1.toInt64)) hx hb dX6_undo_1 rfl ?_
    refine lv_lconst (v := (0 : Int64)) hx hb dX6_undo_2 (by decide) ?_
    refine lv_aload_n hx hb dX6_undo_3 rfl (lv_at hl 0 rfl) ?_
    refine va_get (D := D) (ci := 4) (C := RX6) (T := TX6) (N := 27) hx hb hts iX6 hown hK hP 0 wMo_0 rfl 10 (by decide) q1 (fun _ h9 => h9) rfl dX6_undo_4 ?_
    refine lv_i2l (v := (mdeeds.toInt64)) hx hb dX6_undo_7 rfl ?_
    obtain ⟨r8, hc, h⟩ := bd1_some h
    refine my_roz (va_Run.run (va_runS (As := [.long (x1.toInt64), .long (0 : Int64), .long (mdeeds.toInt64)]) (rest := []) hFix (kX6_in l D T F (x1.toInt64) (0 : Int64) (mdeeds.toInt64) r8 hc) (va_cwS 3 hts gX6_undo_X6_in rfl rfl rfl hd_X6_in ⟨Nat.le_of_ble_eq_true rfl, Nat.le_of_ble_eq_true rfl⟩) (preS_ro va_nil hKK) rfl rfl hl.1 rfl (lv_room (Nat.le_of_ble_eq_true rfl)) dX6_undo_8 ⟨Nat.zero_le _, Nat.zero_le _⟩)) (fun hb8 => ?_)
    refine lv_if_ne (tgt := 16) hx hb dX6_undo_11 (by decide) (fun c11 => ?_) (fun c11 => ?_)
    · have h := br_0 h c11
      refine lv_aload_n hx hb dX6_undo_16 rfl (lv_at hl 0 rfl) ?_
      refine va_get (D := D) (ci := 4) (C := RX6) (T := TX6) (N := 27) hx hb hts iX6 hown hK hP 0 wMo_0 rfl 10 (by decide) q1 (fun _ h9 => h9) rfl dX6_undo_17 ?_
      refine lv_iload_n hx hb dX6_undo_20 rfl (lv_at hl 1 rfl) ?_
      refine lv_isub hx hb dX6_undo_21 ?_
      refine lv_istore_n (lv' := [(2, .int (mdeeds - x1)), (0, .ref (am 0)), (1, .int x1)]) hx hb dX6_undo_22 rfl hl (by decide) rfl (fun ls hl => ?_)
      refine lv_iload_n hx hb dX6_undo_23 rfl (lv_at hl 0 rfl) ?_
      refine lv_if_le (tgt := 45) hx hb dX6_undo_24 (by decide) (fun c24 => ?_) (fun c24 => ?_)
      · have h := br_1 h c24
        refine lv_aload_n hx hb dX6_undo_45 rfl (lv_at hl 1 rfl) ?_
        refine lv_iload_n hx hb dX6_undo_46 rfl (lv_at hl 2 rfl) ?_
        refine va_put (D := D) (ci := 4) (v := .int x1) (ty := .int) (C := RX6) (T := TX6) (N := 27) hx hb hts iX6 tyX6 tyX6_ok nmX6 hown hK hP hD hS 0 wMo_0 rfl 10 (by decide) q1 (fun _ h9 => h9) rfl (by decide +kernel) rfl rfl (Nat.le_of_ble_eq_true rfl) dX6_undo_47 (fun H locs hP hD hS => ?_)
        have hP : va_P D vwCl (wMo T am mguests mclause x1 masked mupper mlower mfinding mreadGuests misSight mat mrowSizes mrows mtextSizes mtexts mdoes mkinds msees mnow mbefore mkeeps mkept mfindings mread maside msteps mtried mbest) H := hP
        have hD : va_D A (wMo T am mguests mclause x1 masked mupper mlower mfinding mreadGuests misSight mat mrowSizes mrows mtextSizes mtexts mdoes mkinds msees mnow mbefore mkeeps mkept mfindings mread maside msteps mtried mbest) := hD
        refine lv_iload_n hx hb dX6_undo_50 rfl (lv_at hl 0 rfl) ?_
        cases h
        exact hret _ _ _ _ hP hD hS dX6_undo_51
      · have h := br_0 h c24
        refine lv_aload_n hx hb dX6_undo_27 rfl (lv_at hl 1 rfl) ?_
        refine va_get (D := D) (ci := 4) (C := RX6) (T := TX6) (N := 27) hx hb hts iX6 hown hK hP 0 wMo_0 rfl 11 (by decide) q2 (fun _ h9 => h9) rfl dX6_undo_28 ?_
        refine lv_bipush (v := (7 : Int32)) hx hb dX6_undo_31 (by decide) ?_
        refine lv_iload_n hx hb dX6_undo_33 rfl (lv_at hl 2 rfl) ?_
        refine lv_imul hx hb dX6_undo_34 ?_
        refine lv_aload_n hx hb dX6_undo_35 rfl (lv_at hl 1 rfl) ?_
        refine va_get (D := D) (ci := 4) (C := RX6) (T := TX6) (N := 27) hx hb hts iX6 hown hK hP 0 wMo_0 rfl 9 (by decide) q3 (fun _ h9 => h9) rfl dX6_undo_36 ?_
        refine lv_iconst (v := (0 : Int32)) hx hb dX6_undo_39 (by decide) ?_
        refine lv_bipush (v := (7 : Int32)) hx hb dX6_undo_40 (by decide) ?_
        obtain ⟨w42_f2, hc, h⟩ := bd1_some h
        have hPc : va_P D vwCl (wA2 T (am 9) (am 8) 280 7 mbefore mnow) H := my_subP sb_wMo_wA2_9_8 hP
        have hDc := hD.sub [9, 8] (by decide) sb_wMo_wA2_9_8
        have hFc := va_free hD hS hA [9, 8] sb_wMo_wA2_9_8
        refine my_rwv (va_runS (As := [.ref (am 9), .int ((7 : Int32) * x1), .ref (am 8), .int (0 : Int32), .int (7 : Int32)]) (rest := []) hFix (kX6_copies l D T F (am 9) (am 8) 280 7 mbefore mnow ((7 : Int32) * x1) (0 : Int32) (7 : Int32) w42_f2 hc) (va_cwS 5 hts gX6_undo_X6_copies rfl rfl rfl hd_X6_copies ⟨Nat.le_of_ble_eq_true rfl, Nat.le_of_ble_eq_true rfl⟩) (preS_rw hPc hKK hDc) rfl rfl hl.1 rfl (lv_room (Nat.le_of_ble_eq_true rfl)) dX6_undo_42 ⟨Nat.zero_le _, Nat.zero_le _⟩) hS hFc (fun H1 locs hP1 hD1 hz1 hk1 hS => ?_)
        obtain ⟨hP, hD⟩ := my_joinS hP hD (by decide) sb_wMo_wA2_9_8 hk1 hFc hP1 hD1
        have hP : va_P D vwCl (wMo T am mguests mclause mdeeds masked mupper mlower mfinding mreadGuests misSight mat mrowSizes mrows mtextSizes mtexts mdoes mkinds msees w42_f2 mbefore mkeeps mkept mfindings mread maside msteps mtried mbest) H1 := st_wMo_wA2_9_8_copies ▸ hP
        have hD : va_D A (wMo T am mguests mclause mdeeds masked mupper mlower mfinding mreadGuests misSight mat mrowSizes mrows mtextSizes mtexts mdoes mkinds msees w42_f2 mbefore mkeeps mkept mfindings mread maside msteps mtried mbest) := st_wMo_wA2_9_8_copies ▸ hD
        generalize H1 = H at hP hS ⊢
        refine lv_aload_n hx hb dX6_undo_45 rfl (lv_at hl 1 rfl) ?_
        refine lv_iload_n hx hb dX6_undo_46 rfl (lv_at hl 2 rfl) ?_
        refine va_put (D := D) (ci := 4) (v := .int x1) (ty := .int) (C := RX6) (T := TX6) (N := 27) hx hb hts iX6 tyX6 tyX6_ok nmX6 hown hK hP hD hS 0 wMo_0 rfl 10 (by decide) q1 (fun _ h9 => h9) rfl (by decide +kernel) rfl rfl (Nat.le_of_ble_eq_true rfl) dX6_undo_47 (fun H locs hP hD hS => ?_)
        have hP : va_P D vwCl (wMo T am mguests mclause x1 masked mupper mlower mfinding mreadGuests misSight mat mrowSizes mrows mtextSizes mtexts mdoes mkinds msees w42_f2 mbefore mkeeps mkept mfindings mread maside msteps mtried mbest) H := hP
        have hD : va_D A (wMo T am mguests mclause x1 masked mupper mlower mfinding mreadGuests misSight mat mrowSizes mrows mtextSizes mtexts mdoes mkinds msees w42_f2 mbefore mkeeps mkept mfindings mread maside msteps mtried mbest) := hD
        refine lv_iload_n hx hb dX6_undo_50 rfl (lv_at hl 0 rfl) ?_
        cases h
        exact hret _ _ _ _ hP hD hS dX6_undo_51
    · have h := br_1 h c11
      refine lv_iconst (v := (-1 : Int32)) hx hb dX6_undo_14 (by decide) ?_
      cases h
      exact hret _ _ _ _ hP hD hS dX6_undo_15
  exact key _ (fun H locs pc ls hP hD hS hd => W.iret hx hb hr (fun t ht hW => ⟨⟨_, (), rfl, rfl, by show _ ∧ _; rw [ht]; exact ⟨hP, hD⟩⟩, hS.F ht⟩) hS.2.2 hd)
set_option maxHeartbeats 4000000 in
set_option maxRecDepth 100000 in
theorem kX6_keep (l : Launch) (D : va_G) (T : Nat → ClassId) (F : Nat) (am : Nat → Nat) (mguests : Int32) (mclause : Int32) (mdeeds : Int32) (masked : Int32) (mupper : Int64) (mlower : Int64) (mfinding : Int32) (mreadGuests : Int32) (misSight : Int32) (mat : Int32) (mrowSizes : Nat → Int32) (mrows : Nat → Int32) (mtextSizes : Nat → Int32) (mtexts : Nat → Int32) (mdoes : Nat → Int32) (mkinds : Nat → Int32) (msees : Nat → Int32) (mnow : Nat → Int32) (mbefore : Nat → Int32) (mkeeps : Nat → Int32) (mkept : Nat → Int32) (mfindings : Nat → Int32) (mread : Nat → Int32) (maside : Nat → Int32) (msteps : Nat → Int32) (mtried : Nat → Int32) (mbest : Nat → Int32) (x1 : Int32) (r : Int32) (zmkeeps : Nat → Int32) (zmkept : Nat → Int32) (h : fX6_keep F mguests mdeeds mnow mbefore mkeeps mkept x1 = some (r, zmkeeps, zmkept)) : ∀ sz : Nat, Met l yX6_keep wsX6_keep ({ frames := 1, cells := 0, slots := 0, locals := 25 } : Room) (va_Pc [.ref (am 0), .int x1] (fun U => U.heap.size = sz ∧ va_P D vwCl (wMo T am mguests mclause mdeeds masked mupper mlower mfinding mreadGuests misSight mat mrowSizes mrows mtextSizes mtexts mdoes mkinds msees mnow mbefore mkeeps mkept mfindings mread maside msteps mtried mbest) U.heap ∧ KK D T U ∧ va_D (fun _ => True) (wMo T am mguests mclause mdeeds masked mupper mlower mfinding mreadGuests misSight mat mrowSizes mrows mtextSizes mtexts mdoes mkinds msees mnow mbefore mkeeps mkept mfindings mread maside msteps mtried mbest))) (va_Qi (fun r' (_ : Unit) => r' = r) (fun _ t => va_P D vwCl (wMo T am mguests mclause mdeeds masked mupper mlower mfinding mreadGuests misSight mat mrowSizes mrows mtextSizes mtexts mdoes mkinds msees mnow mbefore zmkeeps zmkept mfindings mread maside msteps mtried mbest) t.heap ∧ va_D (va_A (wMo T am mguests mclause mdeeds masked mupper mlower mfinding mreadGuests misSight mat mrowSizes mrows mtextSizes mtexts mdoes mkinds msees mnow mbefore mkeeps mkept mfindings mread maside msteps mtried mbest) sz) (wMo T am mguests mclause mdeeds masked mupper mlower mfinding mreadGuests misSight mat mrowSizes mrows mtextSizes mtexts mdoes mkinds msees mnow mbefore zmkeeps zmkept mfindings mread maside msteps mtried mbest)) (va_A (wMo T am mguests mclause mdeeds masked mupper mlower mfinding mreadGuests misSight mat mrowSizes mrows mtextSizes mtexts mdoes mkinds msees mnow mbefore mkeeps mkept mfindings mread maside msteps mtried mbest) sz)) 0 0 (va_A (wMo T am mguests mclause mdeeds masked mupper mlower mfinding mreadGuests misSight mat mrowSizes mrows mtextSizes mtexts mdoes mkinds msees mnow mbefore mkeeps mkept mfindings mread maside msteps mtried mbest) sz) := by
  intro sz
  refine Met.ofW (cc := cX6_keep) (maxL := 2) (ret := some .int) (by decide) rfl ?_
  intro p e s m args below meth c s₁ B hml hv
  obtain ⟨ha, hsz, hP, hKK, hD0⟩ := hv
  have hx := B.exec
  have hb := B.bytes
  have hr := B.returns
  have hts := atoms_spec (ws := wsX6_keep) B.pre
  have hown : s.vm.findClass RX6 = some m.cls := findClass_of_methodNamed B.named
  have hlocks := B.notSynchronized
  have hK := hKK.1
  have hFix : CallFix p m c cX6_keep 2 s args wsX6_keep RX6 := ⟨hx, hb, hml, hown, hts⟩
  have q1 := hts _ (List.mem_of_getElem? (i := 1) (show wsX6_keep[1]? = some (Cond.constantLong RX6 202 (2)) from rfl))
  have q2 := hts _ (List.mem_of_getElem? (i := 2) (show wsX6_keep[2]? = some (Cond.fieldLink RX6 131 "PartyWillModel" "guests" "I") from rfl))
  have q3 := hts _ (List.mem_of_getElem? (i := 3) (show wsX6_keep[3]? = some (Cond.fieldLink RX6 31 "PartyWillModel" "now" "[I") from rfl))
  have q4 := hts _ (List.mem_of_getElem? (i := 4) (show wsX6_keep[4]? = some (Cond.fieldLink RX6 37 "PartyWillModel" "keeps" "[I") from rfl))
  have q5 := hts _ (List.mem_of_getElem? (i := 5) (show wsX6_keep[5]? = some (Cond.fieldLink RX6 137 "PartyWillModel" "deeds" "I") from rfl))
  have q6 := hts _ (List.mem_of_getElem? (i := 6) (show wsX6_keep[6]? = some (Cond.fieldLink RX6 34 "PartyWillModel" "before" "[I") from rfl))
  have q7 := hts _ (List.mem_of_getElem? (i := 7) (show wsX6_keep[7]? = some (Cond.fieldLink RX6 40 "PartyWillModel" "kept" "[Z") from rfl))
  have iX6 : ∀ w ∈ u_ws RX6 TX6 27, w ∈ wsX6_keep := fun w h => List.mem_cons_of_mem _ (List.mem_append_right _ (h))
  subst hsz
  have hD := hD0.self (sz := s.heap.size)
  generalize hAe : va_A (wMo T am mguests mclause mdeeds masked mupper mlower mfinding mreadGuests misSight mat mrowSizes mrows mtextSizes mtexts mdoes mkinds msees mnow mbefore mkeeps mkept mfindings mread maside msteps mtried mbest) s.heap.size = A at hD ⊢
  have hA : ∀ q : Nat, s.heap.size ≤ q → A q := fun q h => by rw [← hAe]; exact Or.inr h
  have hS : va_S A s.heap s.heap [] := va_S.rf
  have hP : va_P D vwCl (wMo T am mguests mclause mdeeds masked mupper mlower mfinding mreadGuests misSight mat mrowSizes mrows mtextSizes mtexts mdoes mkinds msees mnow mbefore mkeeps mkept mfindings mread maside msteps mtried mbest) s.heap := hP
  obtain ⟨ls, hl, e0⟩ := my_entry (m := m) (n := 2) ha (Nat.le_of_ble_eq_true rfl)
  rw [e0]
  have hl : lv_has ls 2 [(0, .ref (am 0)), (1, .int x1)] := hl
  have key : ∀ Q : State → Prop, (∀ (H : Heap) (locs : List Loc) (pc : Nat) (ls : Array Slot), va_P D vwCl (wMo T am mguests mclause mdeeds masked mupper mlower mfinding mreadGuests misSight mat mrowSizes mrows mtextSizes mtexts mdoes mkinds msees mnow mbefore zmkeeps zmkept mfindings mread maside msteps mtried mbest) H → va_D A (wMo T am mguests mclause mdeeds masked mupper mlower mfinding mreadGuests misSight mat mrowSizes mrows mtextSizes mtexts mdoes mkinds msees mnow mbefore zmkeeps zmkept mfindings mread maside msteps mtried mbest) → va_S A s.heap H locs → decode cX6_keep pc = .ok (.ireturn, 1) → W p l e ({ frames := 1, cells := 0, slots := 0, locals := 25 } : Room) s m args below meth c H locs 0 0 Q (F0 m pc ls [.int r])) → W p l e ({ frames := 1, cells := 0, slots := 0, locals := 25 } : Room) s m args below meth c s.heap [] 0 0 Q (F0 m 0 ls []) := by
    intro Q hret
    skip
    unfold fX6_keep at h
    refine lv_iload_n hx hb dX6_keep_0 rfl (lv_at hl 1 rfl) ?_
    refine lv_i2l (v := (x1.toInt64)) hx hb dX6_keep_1 rfl ?_
    refine lv_lconst (v := (0 : Int64)) hx hb dX6_keep_2 (by decide) ?_
    refine lv_ldc2 (v := (2 : Int64)) hx hb hown q1 dX6_keep_3 ?_
    obtain ⟨r6, hc, h⟩ := bd1_some h
    refine my_roz (va_Run.run (va_runS (As := [.long (x1.toInt64), .long (0 : Int64), .long (2 : Int64)]) (rest := []) hFix (kX6_in l D T F (x1.toInt64) (0 : Int64) (2 : Int64) r6 hc) (va_cwS 3 hts gX6_keep_X6_in rfl rfl rfl hd_X6_in ⟨Nat.le_of_ble_eq_true rfl, Nat.le_of_ble_eq_true rfl⟩) (preS_ro va_nil hKK) rfl rfl hl.1 rfl (lv_room (Nat.le_of_ble_eq_true rfl)) dX6_keep_6 ⟨Nat.zero_le _, Nat.zero_le _⟩)) (fun hb6 => ?_)
    refine lv_if_ne (tgt := 14) hx hb dX6_keep_9 (by decide) (fun c9 => ?_) (fun c9 => ?_)
    · have h := br_0 h c9
      refine lv_aload_n hx hb dX6_keep_14 rfl (lv_at hl 0 rfl) ?_
      refine va_get (D := D) (ci := 4) (C := RX6) (T := TX6) (N := 27) hx hb hts iX6 hown hK hP 0 wMo_0 rfl 4 (by decide) q2 (fun _ h9 => h9) rfl dX6_keep_15 ?_
      refine lv_if_ne (tgt := 24) hx hb dX6_keep_18 (by decide) (fun c18 => ?_) (fun c18 => ?_)
      · have h := br_0 h c18
        refine lv_aload_n hx hb dX6_keep_24 rfl (lv_at hl 0 rfl) ?_
        refine va_get (D := D) (ci := 4) (C := RX6) (T := TX6) (N := 27) hx hb hts iX6 hown hK hP 0 wMo_0 rfl 9 (by decide) q3 (fun _ h9 => h9) rfl dX6_keep_25 ?_
        refine lv_iconst (v := (0 : Int32)) hx hb dX6_keep_28 (by decide) ?_
        refine lv_aload_n hx hb dX6_keep_29 rfl (lv_at hl 0 rfl) ?_
        refine va_get (D := D) (ci := 4) (C := RX6) (T := TX6) (N := 27) hx hb hts iX6 hown hK hP 0 wMo_0 rfl 12 (by decide) q4 (fun _ h9 => h9) rfl dX6_keep_30 ?_
        refine lv_sipush (v := (288 : Int32)) hx hb dX6_keep_33 (by decide) ?_
        refine lv_iload_n hx hb dX6_keep_36 rfl (lv_at hl 1 rfl) ?_
        refine lv_imul hx hb dX6_keep_37 ?_
        refine lv_bipush (v := (7 : Int32)) hx hb dX6_keep_38 (by decide) ?_
        obtain ⟨w40_f2, hc, h⟩ := bd1_some h
        have hPc : va_P D vwCl (wA2 T (am 8) (am 10) 7 864 mnow mkeeps) H := my_subP sb_wMo_wA2_8_10 hP
        have hDc := hD.sub [8, 10] (by decide) sb_wMo_wA2_8_10
        have hFc := va_free hD hS hA [8, 10] sb_wMo_wA2_8_10
        refine my_rwv (va_runS (As := [.ref (am 8), .int (0 : Int32), .ref (am 10), .int ((288 : Int32) * x1), .int (7 : Int32)]) (rest := []) hFix (kX6_copies l D T F (am 8) (am 10) 7 864 mnow mkeeps (0 : Int32) ((288 : Int32) * x1) (7 : Int32) w40_f2 hc) (va_cwS 5 hts gX6_keep_X6_copies rfl rfl rfl hd_X6_copies ⟨Nat.le_of_ble_eq_true rfl, Nat.le_of_ble_eq_true rfl⟩) (preS_rw hPc hKK hDc) rfl rfl hl.1 rfl (lv_room (Nat.le_of_ble_eq_true rfl)) dX6_keep_40 ⟨Nat.zero_le _, Nat.zero_le _⟩) hS hFc (fun H1 locs hP1 hD1 hz1 hk1 hS => ?_)
        obtain ⟨hP, hD⟩ := my_joinS hP hD (by decide) sb_wMo_wA2_8_10 hk1 hFc hP1 hD1
        have hP : va_P D vwCl (wMo T am mguests mclause mdeeds masked mupper mlower mfinding mreadGuests misSight mat mrowSizes mrows mtextSizes mtexts mdoes mkinds msees mnow mbefore w40_f2 mkept mfindings mread maside msteps mtried mbest) H1 := st_wMo_wA2_8_10_copies ▸ hP
        have hD : va_D A (wMo T am mguests mclause mdeeds masked mupper mlower mfinding mreadGuests misSight mat mrowSizes mrows mtextSizes mtexts mdoes mkinds msees mnow mbefore w40_f2 mkept mfindings mread maside msteps mtried mbest) := st_wMo_wA2_8_10_copies ▸ hD
        generalize H1 = H at hP hS ⊢
        refine lv_aload_n hx hb dX6_keep_43 rfl (lv_at hl 0 rfl) ?_
        refine va_get (D := D) (ci := 4) (C := RX6) (T := TX6) (N := 27) hx hb hts iX6 hown hK hP 0 wMo_0 rfl 12 (by decide) q4 (fun _ h9 => h9) rfl dX6_keep_44 ?_
        refine lv_sipush (v := (288 : Int32)) hx hb dX6_keep_47 (by decide) ?_
        refine lv_iload_n hx hb dX6_keep_50 rfl (lv_at hl 1 rfl) ?_
        refine lv_imul hx hb dX6_keep_51 ?_
        refine lv_bipush (v := (7 : Int32)) hx hb dX6_keep_52 (by decide) ?_
        refine lv_iadd hx hb dX6_keep_54 ?_
        refine lv_aload_n hx hb dX6_keep_55 rfl (lv_at hl 0 rfl) ?_
        refine va_get (D := D) (ci := 4) (C := RX6) (T := TX6) (N := 27) hx hb hts iX6 hown hK hP 0 wMo_0 rfl 10 (by decide) q5 (fun _ h9 => h9) rfl dX6_keep_56 ?_
        obtain ⟨hin1, h⟩ := ck_some h
        refine va_iast hx hb hK hP hD hS 10 0 wMo_10 rfl hin1 dX6_keep_59 (fun H locs hP hD hS => ?_)
        have hP : va_P D vwCl (wMo T am mguests mclause mdeeds masked mupper mlower mfinding mreadGuests misSight mat mrowSizes mrows mtextSizes mtexts mdoes mkinds msees mnow mbefore (upd w40_f2 (((288 : Int32) * x1) + (7 : Int32)).toNatClampNeg mdeeds) mkept mfindings mread maside msteps mtried mbest) H := hP
        have hD : va_D A (wMo T am mguests mclause mdeeds masked mupper mlower mfinding mreadGuests misSight mat mrowSizes mrows mtextSizes mtexts mdoes mkinds msees mnow mbefore (upd w40_f2 (((288 : Int32) * x1) + (7 : Int32)).toNatClampNeg mdeeds) mkept mfindings mread maside msteps mtried mbest) := hD
        refine lv_aload_n hx hb dX6_keep_60 rfl (lv_at hl 0 rfl) ?_
        refine va_get (D := D) (ci := 4) (C := RX6) (T := TX6) (N := 27) hx hb hts iX6 hown hK hP 0 wMo_0 rfl 11 (by decide) q6 (fun _ h9 => h9) rfl dX6_keep_61 ?_
        refine lv_iconst (v := (0 : Int32)) hx hb dX6_keep_64 (by decide) ?_
        refine lv_aload_n hx hb dX6_keep_65 rfl (lv_at hl 0 rfl) ?_
        refine va_get (D := D) (ci := 4) (C := RX6) (T := TX6) (N := 27) hx hb hts iX6 hown hK hP 0 wMo_0 rfl 12 (by decide) q4 (fun _ h9 => h9) rfl dX6_keep_66 ?_
        refine lv_sipush (v := (288 : Int32)) hx hb dX6_keep_69 (by decide) ?_
        refine lv_iload_n hx hb dX6_keep_72 rfl (lv_at hl 1 rfl) ?_
        refine lv_imul hx hb dX6_keep_73 ?_
        refine lv_bipush (v := (8 : Int32)) hx hb dX6_keep_74 (by decide) ?_
        refine lv_iadd hx hb dX6_keep_76 ?_
        refine lv_sipush (v := (280 : Int32)) hx hb dX6_keep_77 (by decide) ?_
        obtain ⟨w80_f2, hc, h⟩ := bd1_some h
        have hPc : va_P D vwCl (wA2 T (am 9) (am 10) 280 864 mbefore (upd w40_f2 (((288 : Int32) * x1) + (7 : Int32)).toNatClampNeg mdeeds)) H := my_subP sb_wMo_wA2_9_10 hP
        have hDc := hD.sub [9, 10] (by decide) sb_wMo_wA2_9_10
        have hFc := va_free hD hS hA [9, 10] sb_wMo_wA2_9_10
        refine my_rwv (va_runS (As := [.ref (am 9), .int (0 : Int32), .ref (am 10), .int (((288 : Int32) * x1) + (8 : Int32)), .int (280 : Int32)]) (rest := []) hFix (kX6_copies l D T F (am 9) (am 10) 280 864 mbefore (upd w40_f2 (((288 : Int32) * x1) + (7 : Int32)).toNatClampNeg mdeeds) (0 : Int32) (((288 : Int32) * x1) + (8 : Int32)) (280 : Int32) w80_f2 hc) (va_cwS 5 hts gX6_keep_X6_copies rfl rfl rfl hd_X6_copies ⟨Nat.le_of_ble_eq_true rfl, Nat.le_of_ble_eq_true rfl⟩) (preS_rw hPc hKK hDc) rfl rfl hl.1 rfl (lv_room (Nat.le_of_ble_eq_true rfl)) dX6_keep_80 ⟨Nat.zero_le _, Nat.zero_le _⟩) hS hFc (fun H1 locs hP1 hD1 hz1 hk1 hS => ?_)
        obtain ⟨hP, hD⟩ := my_joinS hP hD (by decide) sb_wMo_wA2_9_10 hk1 hFc hP1 hD1
        have hP : va_P D vwCl (wMo T am mguests mclause mdeeds masked mupper mlower mfinding mreadGuests misSight mat mrowSizes mrows mtextSizes mtexts mdoes mkinds msees mnow mbefore w80_f2 mkept mfindings mread maside msteps mtried mbest) H1 := st_wMo_wA2_9_10_copies ▸ hP
        have hD : va_D A (wMo T am mguests mclause mdeeds masked mupper mlower mfinding mreadGuests misSight mat mrowSizes mrows mtextSizes mtexts mdoes mkinds msees mnow mbefore w80_f2 mkept mfindings mread maside msteps mtried mbest) := st_wMo_wA2_9_10_copies ▸ hD
        generalize H1 = H at hP hS ⊢
        refine lv_aload_n hx hb dX6_keep_83 rfl (lv_at hl 0 rfl) ?_
        refine va_get (D := D) (ci := 4) (C := RX6) (T := TX6) (N := 27) hx hb hts iX6 hown hK hP 0 wMo_0 rfl 13 (by decide) q7 (fun _ h9 => h9) rfl dX6_keep_84 ?_
        refine lv_iload_n hx hb dX6_keep_87 rfl (lv_at hl 1 rfl) ?_
        refine lv_iconst (v := (1 : Int32)) hx hb dX6_keep_88 (by decide) ?_
        obtain ⟨hin2, h⟩ := ck_some h
        refine va_zast hx hb hK hP hD hS 11 3 wMo_11 rfl hin2 dX6_keep_89 (fun H locs hP hD hS => ?_)
        have hP : va_P D vwCl (wMo T am mguests mclause mdeeds masked mupper mlower mfinding mreadGuests misSight mat mrowSizes mrows mtextSizes mtexts mdoes mkinds msees mnow mbefore w80_f2 (upd mkept x1.toNatClampNeg (vp_nar .boolean (1 : Int32))) mfindings mread maside msteps mtried mbest) H := hP
        have hD : va_D A (wMo T am mguests mclause mdeeds masked mupper mlower mfinding mreadGuests misSight mat mrowSizes mrows mtextSizes mtexts mdoes mkinds msees mnow mbefore w80_f2 (upd mkept x1.toNatClampNeg (vp_nar .boolean (1 : Int32))) mfindings mread maside msteps mtried mbest) := hD
        refine lv_aload_n hx hb dX6_keep_90 rfl (lv_at hl 0 rfl) ?_
        refine va_get (D := D) (ci := 4) (C := RX6) (T := TX6) (N := 27) hx hb hts iX6 hown hK hP 0 wMo_0 rfl 10 (by decide) q5 (fun _ h9 => h9) rfl dX6_keep_91 ?_
        cases h
        exact hret _ _ _ _ hP hD hS dX6_keep_94
      · have h := br_1 h c18
        refine lv_bipush (v := (-4 : Int32)) hx hb dX6_keep_21 (by decide) ?_
        cases h
        exact hret _ _ _ _ hP hD hS dX6_keep_23
    · have h := br_1 h c9
      refine lv_iconst (v := (-1 : Int32)) hx hb dX6_keep_12 (by decide) ?_
      cases h
      exact hret _ _ _ _ hP hD hS dX6_keep_13
  exact key _ (fun H locs pc ls hP hD hS hd => W.iret hx hb hr (fun t ht hW => ⟨⟨_, (), rfl, rfl, by show _ ∧ _; rw [ht]; exact ⟨hP, hD⟩⟩, hS.F ht⟩) hS.2.2 hd)
set_option maxHeartbeats 4000000 in
set_option maxRecDepth 100000 in
theorem kX6_on (l : Launch) (D : va_G) (T : Nat → ClassId) (F : Nat) (am : Nat → Nat) (mguests : Int32) (mclause : Int32) (mdeeds : Int32) (masked : Int32) (mupper : Int64) (mlower : Int64) (mfinding : Int32) (mreadGuests : Int32) (misSight : Int32) (mat : Int32) (mrowSizes : Nat → Int32) (mrows : Nat → Int32) (mtextSizes : Nat → Int32) (mtexts : Nat → Int32) (mdoes : Nat → Int32) (mkinds : Nat → Int32) (msees : Nat → Int32) (mnow : Nat → Int32) (mbefore : Nat → Int32) (mkeeps : Nat → Int32) (mkept : Nat → Int32) (mfindings : Nat → Int32) (mread : Nat → Int32) (maside : Nat → Int32) (msteps : Nat → Int32) (mtried : Nat → Int32) (mbest : Nat → Int32) (x1 : Int32) (r : Int32) (zmdeeds : Int32) (zmfinding : Int32) (zmnow : Nat → Int32) (zmbefore : Nat → Int32) (zmfindings : Nat → Int32) (h : fX6_on F mdeeds mfinding mnow mbefore mkeeps mkept mfindings x1 = some (r, zmdeeds, zmfinding, zmnow, zmbefore, zmfindings)) : ∀ sz : Nat, Met l yX6_on wsX6_on ({ frames := 1, cells := 0, slots := 0, locals := 25 } : Room) (va_Pc [.ref (am 0), .int x1] (fun U => U.heap.size = sz ∧ va_P D vwCl (wMo T am mguests mclause mdeeds masked mupper mlower mfinding mreadGuests misSight mat mrowSizes mrows mtextSizes mtexts mdoes mkinds msees mnow mbefore mkeeps mkept mfindings mread maside msteps mtried mbest) U.heap ∧ KK D T U ∧ va_D (fun _ => True) (wMo T am mguests mclause mdeeds masked mupper mlower mfinding mreadGuests misSight mat mrowSizes mrows mtextSizes mtexts mdoes mkinds msees mnow mbefore mkeeps mkept mfindings mread maside msteps mtried mbest))) (va_Qi (fun r' (_ : Unit) => r' = r) (fun _ t => va_P D vwCl (wMo T am mguests mclause zmdeeds masked mupper mlower zmfinding mreadGuests misSight mat mrowSizes mrows mtextSizes mtexts mdoes mkinds msees zmnow zmbefore mkeeps mkept zmfindings mread maside msteps mtried mbest) t.heap ∧ va_D (va_A (wMo T am mguests mclause mdeeds masked mupper mlower mfinding mreadGuests misSight mat mrowSizes mrows mtextSizes mtexts mdoes mkinds msees mnow mbefore mkeeps mkept mfindings mread maside msteps mtried mbest) sz) (wMo T am mguests mclause zmdeeds masked mupper mlower zmfinding mreadGuests misSight mat mrowSizes mrows mtextSizes mtexts mdoes mkinds msees zmnow zmbefore mkeeps mkept zmfindings mread maside msteps mtried mbest)) (va_A (wMo T am mguests mclause mdeeds masked mupper mlower mfinding mreadGuests misSight mat mrowSizes mrows mtextSizes mtexts mdoes mkinds msees mnow mbefore mkeeps mkept mfindings mread maside msteps mtried mbest) sz)) 0 0 (va_A (wMo T am mguests mclause mdeeds masked mupper mlower mfinding mreadGuests misSight mat mrowSizes mrows mtextSizes mtexts mdoes mkinds msees mnow mbefore mkeeps mkept mfindings mread maside msteps mtried mbest) sz) := by
  intro sz
  refine Met.ofW (cc := cX6_on) (maxL := 2) (ret := some .int) (by decide) rfl ?_
  intro p e s m args below meth c s₁ B hml hv
  obtain ⟨ha, hsz, hP, hKK, hD0⟩ := hv
  have hx := B.exec
  have hb := B.bytes
  have hr := B.returns
  have hts := atoms_spec (ws := wsX6_on) B.pre
  have hown : s.vm.findClass RX6 = some m.cls := findClass_of_methodNamed B.named
  have hlocks := B.notSynchronized
  have hK := hKK.1
  have hFix : CallFix p m c cX6_on 2 s args wsX6_on RX6 := ⟨hx, hb, hml, hown, hts⟩
  have q1 := hts _ (List.mem_of_getElem? (i := 1) (show wsX6_on[1]? = some (Cond.constantLong RX6 202 (2)) from rfl))
  have q2 := hts _ (List.mem_of_getElem? (i := 2) (show wsX6_on[2]? = some (Cond.fieldLink RX6 40 "PartyWillModel" "kept" "[Z") from rfl))
  have q3 := hts _ (List.mem_of_getElem? (i := 3) (show wsX6_on[3]? = some (Cond.fieldLink RX6 37 "PartyWillModel" "keeps" "[I") from rfl))
  have q4 := hts _ (List.mem_of_getElem? (i := 4) (show wsX6_on[4]? = some (Cond.fieldLink RX6 31 "PartyWillModel" "now" "[I") from rfl))
  have q5 := hts _ (List.mem_of_getElem? (i := 5) (show wsX6_on[5]? = some (Cond.fieldLink RX6 137 "PartyWillModel" "deeds" "I") from rfl))
  have q6 := hts _ (List.mem_of_getElem? (i := 6) (show wsX6_on[6]? = some (Cond.fieldLink RX6 34 "PartyWillModel" "before" "[I") from rfl))
  have iX6 : ∀ w ∈ u_ws RX6 TX6 27, w ∈ wsX6_on := fun w h => List.mem_cons_of_mem _ (List.mem_append_right _ (h))
  subst hsz
  have hD := hD0.self (sz := s.heap.size)
  generalize hAe : va_A (wMo T am mguests mclause mdeeds masked mupper mlower mfinding mreadGuests misSight mat mrowSizes mrows mtextSizes mtexts mdoes mkinds msees mnow mbefore mkeeps mkept mfindings mread maside msteps mtried mbest) s.heap.size = A at hD ⊢
  have hA : ∀ q : Nat, s.heap.size ≤ q → A q := fun q h => by rw [← hAe]; exact Or.inr h
  have hS : va_S A s.heap s.heap [] := va_S.rf
  have hP : va_P D vwCl (wMo T am mguests mclause mdeeds masked mupper mlower mfinding mreadGuests misSight mat mrowSizes mrows mtextSizes mtexts mdoes mkinds msees mnow mbefore mkeeps mkept mfindings mread maside msteps mtried mbest) s.heap := hP
  obtain ⟨ls, hl, e0⟩ := my_entry (m := m) (n := 2) ha (Nat.le_of_ble_eq_true rfl)
  rw [e0]
  have hl : lv_has ls 2 [(0, .ref (am 0)), (1, .int x1)] := hl
  have key : ∀ Q : State → Prop, (∀ (H : Heap) (locs : List Loc) (pc : Nat) (ls : Array Slot), va_P D vwCl (wMo T am mguests mclause zmdeeds masked mupper mlower zmfinding mreadGuests misSight mat mrowSizes mrows mtextSizes mtexts mdoes mkinds msees zmnow zmbefore mkeeps mkept zmfindings mread maside msteps mtried mbest) H → va_D A (wMo T am mguests mclause zmdeeds masked mupper mlower zmfinding mreadGuests misSight mat mrowSizes mrows mtextSizes mtexts mdoes mkinds msees zmnow zmbefore mkeeps mkept zmfindings mread maside msteps mtried mbest) → va_S A s.heap H locs → decode cX6_on pc = .ok (.ireturn, 1) → W p l e ({ frames := 1, cells := 0, slots := 0, locals := 25 } : Room) s m args below meth c H locs 0 0 Q (F0 m pc ls [.int r])) → W p l e ({ frames := 1, cells := 0, slots := 0, locals := 25 } : Room) s m args below meth c s.heap [] 0 0 Q (F0 m 0 ls []) := by
    intro Q hret
    skip
    unfold fX6_on at h
    refine lv_iload_n hx hb dX6_on_0 rfl (lv_at hl 1 rfl) ?_
    refine lv_i2l (v := (x1.toInt64)) hx hb dX6_on_1 rfl ?_
    refine lv_lconst (v := (0 : Int64)) hx hb dX6_on_2 (by decide) ?_
    refine lv_ldc2 (v := (2 : Int64)) hx hb hown q1 dX6_on_3 ?_
    obtain ⟨r6, hc, h⟩ := bd1_some h
    refine my_roz (va_Run.run (va_runS (As := [.long (x1.toInt64), .long (0 : Int64), .long (2 : Int64)]) (rest := []) hFix (kX6_in l D T F (x1.toInt64) (0 : Int64) (2 : Int64) r6 hc) (va_cwS 3 hts gX6_on_X6_in rfl rfl rfl hd_X6_in ⟨Nat.le_of_ble_eq_true rfl, Nat.le_of_ble_eq_true rfl⟩) (preS_ro va_nil hKK) rfl rfl hl.1 rfl (lv_room (Nat.le_of_ble_eq_true rfl)) dX6_on_6 ⟨Nat.zero_le _, Nat.zero_le _⟩)) (fun hb6 => ?_)
    refine lv_if_ne (tgt := 14) hx hb dX6_on_9 (by decide) (fun c9 => ?_) (fun c9 => ?_)
    · have h := br_0 h c9
      refine lv_aload_n hx hb dX6_on_14 rfl (lv_at hl 0 rfl) ?_
      refine va_get (D := D) (ci := 4) (C := RX6) (T := TX6) (N := 27) hx hb hts iX6 hown hK hP 0 wMo_0 rfl 13 (by decide) q2 (fun _ h9 => h9) rfl dX6_on_15 ?_
      refine lv_iload_n hx hb dX6_on_18 rfl (lv_at hl 1 rfl) ?_
      obtain ⟨hin1, h⟩ := ck_some h
      refine va_zald hx hb hK hP 11 3 wMo_11 rfl hin1 dX6_on_19 ?_
      refine lv_if_ne (tgt := 29) hx hb dX6_on_20 (by decide) (fun c20 => ?_) (fun c20 => ?_)
      · have h := br_0 h c20
        refine lv_aload_n hx hb dX6_on_29 rfl (lv_at hl 0 rfl) ?_
        refine va_get (D := D) (ci := 4) (C := RX6) (T := TX6) (N := 27) hx hb hts iX6 hown hK hP 0 wMo_0 rfl 12 (by decide) q3 (fun _ h9 => h9) rfl dX6_on_30 ?_
        refine lv_sipush (v := (288 : Int32)) hx hb dX6_on_33 (by decide) ?_
        refine lv_iload_n hx hb dX6_on_36 rfl (lv_at hl 1 rfl) ?_
        refine lv_imul hx hb dX6_on_37 ?_
        refine lv_aload_n hx hb dX6_on_38 rfl (lv_at hl 0 rfl) ?_
        refine va_get (D := D) (ci := 4) (C := RX6) (T := TX6) (N := 27) hx hb hts iX6 hown hK hP 0 wMo_0 rfl 9 (by decide) q4 (fun _ h9 => h9) rfl dX6_on_39 ?_
        refine lv_iconst (v := (0 : Int32)) hx hb dX6_on_42 (by decide) ?_
        refine lv_bipush (v := (7 : Int32)) hx hb dX6_on_43 (by decide) ?_
        obtain ⟨w45_f2, hc, h⟩ := bd1_some h
        have hPc : va_P D vwCl (wA2 T (am 10) (am 8) 864 7 mkeeps mnow) H := my_subP sb_wMo_wA2_10_8 hP
        have hDc := hD.sub [10, 8] (by decide) sb_wMo_wA2_10_8
        have hFc := va_free hD hS hA [10, 8] sb_wMo_wA2_10_8
        refine my_rwv (va_runS (As := [.ref (am 10), .int ((288 : Int32) * x1), .ref (am 8), .int (0 : Int32), .int (7 : Int32)]) (rest := []) hFix (kX6_copies l D T F (am 10) (am 8) 864 7 mkeeps mnow ((288 : Int32) * x1) (0 : Int32) (7 : Int32) w45_f2 hc) (va_cwS 5 hts gX6_on_X6_copies rfl rfl rfl hd_X6_copies ⟨Nat.le_of_ble_eq_true rfl, Nat.le_of_ble_eq_true rfl⟩) (preS_rw hPc hKK hDc) rfl rfl hl.1 rfl (lv_room (Nat.le_of_ble_eq_true rfl)) dX6_on_45 ⟨Nat.zero_le _, Nat.zero_le _⟩) hS hFc (fun H1 locs hP1 hD1 hz1 hk1 hS => ?_)
        obtain ⟨hP, hD⟩ := my_joinS hP hD (by decide) sb_wMo_wA2_10_8 hk1 hFc hP1 hD1
        have hP : va_P D vwCl (wMo T am mguests mclause mdeeds masked mupper mlower mfinding mreadGuests misSight mat mrowSizes mrows mtextSizes mtexts mdoes mkinds msees w45_f2 mbefore mkeeps mkept mfindings mread maside msteps mtried mbest) H1 := st_wMo_wA2_10_8_copies ▸ hP
        have hD : va_D A (wMo T am mguests mclause mdeeds masked mupper mlower mfinding mreadGuests misSight mat mrowSizes mrows mtextSizes mtexts mdoes mkinds msees w45_f2 mbefore mkeeps mkept mfindings mread maside msteps mtried mbest) := st_wMo_wA2_10_8_copies ▸ hD
        generalize H1 = H at hP hS ⊢
        refine lv_aload_n hx hb dX6_on_48 rfl (lv_at hl 0 rfl) ?_
        refine lv_aload_n hx hb dX6_on_49 rfl (lv_at hl 0 rfl) ?_
        refine va_get (D := D) (ci := 4) (C := RX6) (T := TX6) (N := 27) hx hb hts iX6 hown hK hP 0 wMo_0 rfl 12 (by decide) q3 (fun _ h9 => h9) rfl dX6_on_50 ?_
        refine lv_sipush (v := (288 : Int32)) hx hb dX6_on_53 (by decide) ?_
        refine lv_iload_n hx hb dX6_on_56 rfl (lv_at hl 1 rfl) ?_
        refine lv_imul hx hb dX6_on_57 ?_
        refine lv_bipush (v := (7 : Int32)) hx hb dX6_on_58 (by decide) ?_
        refine lv_iadd hx hb dX6_on_60 ?_
        obtain ⟨hin2, h⟩ := ck_some h
        refine va_iald hx hb hK hP 10 0 wMo_10 rfl hin2 dX6_on_61 ?_
        refine va_put (D := D) (ci := 4) (v := .int (mkeeps (((288 : Int32) * x1) + (7 : Int32)).toNatClampNeg)) (ty := .int) (C := RX6) (T := TX6) (N := 27) hx hb hts iX6 tyX6 tyX6_ok nmX6 hown hK hP hD hS 0 wMo_0 rfl 10 (by decide) q5 (fun _ h9 => h9) rfl (by decide +kernel) rfl rfl (Nat.le_of_ble_eq_true rfl) dX6_on_62 (fun H locs hP hD hS => ?_)
        have hP : va_P D vwCl (wMo T am mguests mclause (mkeeps (((288 : Int32) * x1) + (7 : Int32)).toNatClampNeg) masked mupper mlower mfinding mreadGuests misSight mat mrowSizes mrows mtextSizes mtexts mdoes mkinds msees w45_f2 mbefore mkeeps mkept mfindings mread maside msteps mtried mbest) H := hP
        have hD : va_D A (wMo T am mguests mclause (mkeeps (((288 : Int32) * x1) + (7 : Int32)).toNatClampNeg) masked mupper mlower mfinding mreadGuests misSight mat mrowSizes mrows mtextSizes mtexts mdoes mkinds msees w45_f2 mbefore mkeeps mkept mfindings mread maside msteps mtried mbest) := hD
        refine lv_aload_n hx hb dX6_on_65 rfl (lv_at hl 0 rfl) ?_
        refine va_get (D := D) (ci := 4) (C := RX6) (T := TX6) (N := 27) hx hb hts iX6 hown hK hP 0 wMo_0 rfl 12 (by decide) q3 (fun _ h9 => h9) rfl dX6_on_66 ?_
        refine lv_sipush (v := (288 : Int32)) hx hb dX6_on_69 (by decide) ?_
        refine lv_iload_n hx hb dX6_on_72 rfl (lv_at hl 1 rfl) ?_
        refine lv_imul hx hb dX6_on_73 ?_
        refine lv_bipush (v := (8 : Int32)) hx hb dX6_on_74 (by decide) ?_
        refine lv_iadd hx hb dX6_on_76 ?_
        refine lv_aload_n hx hb dX6_on_77 rfl (lv_at hl 0 rfl) ?_
        refine va_get (D := D) (ci := 4) (C := RX6) (T := TX6) (N := 27) hx hb hts iX6 hown hK hP 0 wMo_0 rfl 11 (by decide) q6 (fun _ h9 => h9) rfl dX6_on_78 ?_
        refine lv_iconst (v := (0 : Int32)) hx hb dX6_on_81 (by decide) ?_
        refine lv_sipush (v := (280 : Int32)) hx hb dX6_on_82 (by decide) ?_
        obtain ⟨w85_f2, hc, h⟩ := bd1_some h
        have hPc : va_P D vwCl (wA2 T (am 10) (am 9) 864 280 mkeeps mbefore) H := my_subP sb_wMo_wA2_10_9 hP
        have hDc := hD.sub [10, 9] (by decide) sb_wMo_wA2_10_9
        have hFc := va_free hD hS hA [10, 9] sb_wMo_wA2_10_9
        refine my_rwv (va_runS (As := [.ref (am 10), .int (((288 : Int32) * x1) + (8 : Int32)), .ref (am 9), .int (0 : Int32), .int (280 : Int32)]) (rest := []) hFix (kX6_copies l D T F (am 10) (am 9) 864 280 mkeeps mbefore (((288 : Int32) * x1) + (8 : Int32)) (0 : Int32) (280 : Int32) w85_f2 hc) (va_cwS 5 hts gX6_on_X6_copies rfl rfl rfl hd_X6_copies ⟨Nat.le_of_ble_eq_true rfl, Nat.le_of_ble_eq_true rfl⟩) (preS_rw hPc hKK hDc) rfl rfl hl.1 rfl (lv_room (Nat.le_of_ble_eq_true rfl)) dX6_on_85 ⟨Nat.zero_le _, Nat.zero_le _⟩) hS hFc (fun H1 locs hP1 hD1 hz1 hk1 hS => ?_)
        obtain ⟨hP, hD⟩ := my_joinS hP hD (by decide) sb_wMo_wA2_10_9 hk1 hFc hP1 hD1
        have hP : va_P D vwCl (wMo T am mguests mclause (mkeeps (((288 : Int32) * x1) + (7 : Int32)).toNatClampNeg) masked mupper mlower mfinding mreadGuests misSight mat mrowSizes mrows mtextSizes mtexts mdoes mkinds msees w45_f2 w85_f2 mkeeps mkept mfindings mread maside msteps mtried mbest) H1 := st_wMo_wA2_10_9_copies ▸ hP
        have hD : va_D A (wMo T am mguests mclause (mkeeps (((288 : Int32) * x1) + (7 : Int32)).toNatClampNeg) masked mupper mlower mfinding mreadGuests misSight mat mrowSizes mrows mtextSizes mtexts mdoes mkinds msees w45_f2 w85_f2 mkeeps mkept mfindings mread maside msteps mtried mbest) := st_wMo_wA2_10_9_copies ▸ hD
        generalize H1 = H at hP hS ⊢
        refine lv_aload_n hx hb dX6_on_88 rfl (lv_at hl 0 rfl) ?_
        refine va_get (D := D) (ci := 4) (C := RX6) (T := TX6) (N := 27) hx hb hts iX6 hown hK hP 0 wMo_0 rfl 10 (by decide) q5 (fun _ h9 => h9) rfl dX6_on_89 ?_
        cases h
        exact hret _ _ _ _ hP hD hS dX6_on_92
      · have h := br_1 h c20
        refine lv_aload_n hx hb dX6_on_23 rfl (lv_at hl 0 rfl) ?_
        refine lv_iconst (v := (1 : Int32)) hx hb dX6_on_24 (by decide) ?_
        obtain ⟨r25, w25_mfinding, w25_mfindings, hc, h⟩ := bd3_some h
        have hFc := my_freeS hD hS hA
        refine my_rwi (va_runV (As := [.int (1 : Int32)]) (rest := []) hFix (kX6_found l D T F am mguests mclause mdeeds masked mupper mlower mfinding mreadGuests misSight mat mrowSizes mrows mtextSizes mtexts mdoes mkinds msees mnow mbefore mkeeps mkept mfindings mread maside msteps mtried mbest (1 : Int32) r25 w25_mfinding w25_mfindings hc) (cwV 1 hts gX6_on_X6_found rfl rfl rfl ⟨rfl, hd_X6_found⟩ ⟨Nat.le_of_ble_eq_true rfl, Nat.le_of_ble_eq_true rfl⟩) (preV_rw hP hKK hD (va_recv hK hP (ci := 4) (q0 := 0) rfl wMo_0)) rfl rfl hl.1 rfl (lv_room (Nat.le_of_ble_eq_true rfl)) dX6_on_25 ⟨Nat.zero_le _, Nat.zero_le _⟩) hS hFc (fun H1 locs hP1 hD1 hz1 hk1 hS => ?_)
        have hP : va_P D vwCl (wMo T am mguests mclause mdeeds masked mupper mlower w25_mfinding mreadGuests misSight mat mrowSizes mrows mtextSizes mtexts mdoes mkinds msees mnow mbefore mkeeps mkept w25_mfindings mread maside msteps mtried mbest) H1 := hP1
        have hD : va_D A (wMo T am mguests mclause mdeeds masked mupper mlower w25_mfinding mreadGuests misSight mat mrowSizes mrows mtextSizes mtexts mdoes mkinds msees mnow mbefore mkeeps mkept w25_mfindings mread maside msteps mtried mbest) := hD1.weaken (fun _ q _ h => hFc q.1 h)
        generalize H1 = H at hP hS ⊢
        cases h
        exact hret _ _ _ _ hP hD hS dX6_on_28
    · have h := br_1 h c9
      refine lv_iconst (v := (-1 : Int32)) hx hb dX6_on_12 (by decide) ?_
      cases h
      exact hret _ _ _ _ hP hD hS dX6_on_13
  exact key _ (fun H locs pc ls hP hD hS hd => W.iret hx hb hr (fun t ht hW => ⟨⟨_, (), rfl, rfl, by show _ ∧ _; rw [ht]; exact ⟨hP, hD⟩⟩, hS.F ht⟩) hS.2.2 hd)
set_option maxHeartbeats 4000000 in
set_option maxRecDepth 100000 in
theorem kX6_layAside (l : Launch) (D : va_G) (T : Nat → ClassId) (F : Nat) (am : Nat → Nat) (mguests : Int32) (mclause : Int32) (mdeeds : Int32) (masked : Int32) (mupper : Int64) (mlower : Int64) (mfinding : Int32) (mreadGuests : Int32) (misSight : Int32) (mat : Int32) (mrowSizes : Nat → Int32) (mrows : Nat → Int32) (mtextSizes : Nat → Int32) (mtexts : Nat → Int32) (mdoes : Nat → Int32) (mkinds : Nat → Int32) (msees : Nat → Int32) (mnow : Nat → Int32) (mbefore : Nat → Int32) (mkeeps : Nat → Int32) (mkept : Nat → Int32) (mfindings : Nat → Int32) (mread : Nat → Int32) (maside : Nat → Int32) (msteps : Nat → Int32) (mtried : Nat → Int32) (mbest : Nat → Int32) (zmaside : Nat → Int32) (h : fX6_layAside F mnow maside = some (zmaside)) : ∀ sz : Nat, Met l yX6_layAside wsX6_layAside ({ frames := 1, cells := 0, slots := 0, locals := 25 } : Room) (va_Pc [.ref (am 0)] (fun U => U.heap.size = sz ∧ va_P D vwCl (wMo T am mguests mclause mdeeds masked mupper mlower mfinding mreadGuests misSight mat mrowSizes mrows mtextSizes mtexts mdoes mkinds msees mnow mbefore mkeeps mkept mfindings mread maside msteps mtried mbest) U.heap ∧ KK D T U ∧ va_D (fun _ => True) (wMo T am mguests mclause mdeeds masked mupper mlower mfinding mreadGuests misSight mat mrowSizes mrows mtextSizes mtexts mdoes mkinds msees mnow mbefore mkeeps mkept mfindings mread maside msteps mtried mbest))) (va_Qv (fun _ : Unit => True) (fun _ t => va_P D vwCl (wMo T am mguests mclause mdeeds masked mupper mlower mfinding mreadGuests misSight mat mrowSizes mrows mtextSizes mtexts mdoes mkinds msees mnow mbefore mkeeps mkept mfindings mread zmaside msteps mtried mbest) t.heap ∧ va_D (va_A (wMo T am mguests mclause mdeeds masked mupper mlower mfinding mreadGuests misSight mat mrowSizes mrows mtextSizes mtexts mdoes mkinds msees mnow mbefore mkeeps mkept mfindings mread maside msteps mtried mbest) sz) (wMo T am mguests mclause mdeeds masked mupper mlower mfinding mreadGuests misSight mat mrowSizes mrows mtextSizes mtexts mdoes mkinds msees mnow mbefore mkeeps mkept mfindings mread zmaside msteps mtried mbest)) (va_A (wMo T am mguests mclause mdeeds masked mupper mlower mfinding mreadGuests misSight mat mrowSizes mrows mtextSizes mtexts mdoes mkinds msees mnow mbefore mkeeps mkept mfindings mread maside msteps mtried mbest) sz)) 0 0 (va_A (wMo T am mguests mclause mdeeds masked mupper mlower mfinding mreadGuests misSight mat mrowSizes mrows mtextSizes mtexts mdoes mkinds msees mnow mbefore mkeeps mkept mfindings mread maside msteps mtried mbest) sz) := by
  intro sz
  refine Met.ofW (cc := cX6_layAside) (maxL := 1) (ret := none) (by decide) rfl ?_
  intro p e s m args below meth c s₁ B hml hv
  obtain ⟨ha, hsz, hP, hKK, hD0⟩ := hv
  have hx := B.exec
  have hb := B.bytes
  have hr := B.returns
  have hts := atoms_spec (ws := wsX6_layAside) B.pre
  have hown : s.vm.findClass RX6 = some m.cls := findClass_of_methodNamed B.named
  have hlocks := B.notSynchronized
  have hK := hKK.1
  have hFix : CallFix p m c cX6_layAside 1 s args wsX6_layAside RX6 := ⟨hx, hb, hml, hown, hts⟩
  have q1 := hts _ (List.mem_of_getElem? (i := 1) (show wsX6_layAside[1]? = some (Cond.fieldLink RX6 31 "PartyWillModel" "now" "[I") from rfl))
  have q2 := hts _ (List.mem_of_getElem? (i := 2) (show wsX6_layAside[2]? = some (Cond.fieldLink RX6 54 "PartyWillModel" "aside" "[I") from rfl))
  have iX6 : ∀ w ∈ u_ws RX6 TX6 27, w ∈ wsX6_layAside := fun w h => List.mem_cons_of_mem _ (List.mem_append_right _ (h))
  subst hsz
  have hD := hD0.self (sz := s.heap.size)
  generalize hAe : va_A (wMo T am mguests mclause mdeeds masked mupper mlower mfinding mreadGuests misSight mat mrowSizes mrows mtextSizes mtexts mdoes mkinds msees mnow mbefore mkeeps mkept mfindings mread maside msteps mtried mbest) s.heap.size = A at hD ⊢
  have hA : ∀ q : Nat, s.heap.size ≤ q → A q := fun q h => by rw [← hAe]; exact Or.inr h
  have hS : va_S A s.heap s.heap [] := va_S.rf
  have hP : va_P D vwCl (wMo T am mguests mclause mdeeds masked mupper mlower mfinding mreadGuests misSight mat mrowSizes mrows mtextSizes mtexts mdoes mkinds msees mnow mbefore mkeeps mkept mfindings mread maside msteps mtried mbest) s.heap := hP
  obtain ⟨ls, hl, e0⟩ := my_entry (m := m) (n := 1) ha (Nat.le_of_ble_eq_true rfl)
  rw [e0]
  have hl : lv_has ls 1 [(0, .ref (am 0))] := hl
  have key : ∀ Q : State → Prop, (∀ (H : Heap) (locs : List Loc) (pc : Nat) (ls : Array Slot), va_P D vwCl (wMo T am mguests mclause mdeeds masked mupper mlower mfinding mreadGuests misSight mat mrowSizes mrows mtextSizes mtexts mdoes mkinds msees mnow mbefore mkeeps mkept mfindings mread zmaside msteps mtried mbest) H → va_D A (wMo T am mguests mclause mdeeds masked mupper mlower mfinding mreadGuests misSight mat mrowSizes mrows mtextSizes mtexts mdoes mkinds msees mnow mbefore mkeeps mkept mfindings mread zmaside msteps mtried mbest) → va_S A s.heap H locs → decode cX6_layAside pc = .ok (.return_, 1) → W p l e ({ frames := 1, cells := 0, slots := 0, locals := 25 } : Room) s m args below meth c H locs 0 0 Q (F0 m pc ls [])) → W p l e ({ frames := 1, cells := 0, slots := 0, locals := 25 } : Room) s m args below meth c s.heap [] 0 0 Q (F0 m 0 ls []) := by
    intro Q hret
    skip
    unfold fX6_layAside at h
    refine lv_aload_n hx hb dX6_layAside_0 rfl (lv_at hl 0 rfl) ?_
    refine va_get (D := D) (ci := 4) (C := RX6) (T := TX6) (N := 27) hx hb hts iX6 hown hK hP 0 wMo_0 rfl 9 (by decide) q1 (fun _ h9 => h9) rfl dX6_layAside_1 ?_
    refine lv_iconst (v := (0 : Int32)) hx hb dX6_layAside_4 (by decide) ?_
    refine lv_aload_n hx hb dX6_layAside_5 rfl (lv_at hl 0 rfl) ?_
    refine va_get (D := D) (ci := 4) (C := RX6) (T := TX6) (N := 27) hx hb hts iX6 hown hK hP 0 wMo_0 rfl 23 (by decide) q2 (fun _ h9 => h9) rfl dX6_layAside_6 ?_
    refine lv_iconst (v := (0 : Int32)) hx hb dX6_layAside_9 (by decide) ?_
    refine lv_bipush (v := (7 : Int32)) hx hb dX6_layAside_10 (by decide) ?_
    obtain ⟨w12_f2, hc, h⟩ := bd1_some h
    have hPc : va_P D vwCl (wA2 T (am 8) (am 14) 7 7 mnow maside) H := my_subP sb_wMo_wA2_8_14 hP
    have hDc := hD.sub [8, 14] (by decide) sb_wMo_wA2_8_14
    have hFc := va_free hD hS hA [8, 14] sb_wMo_wA2_8_14
    refine my_rwv (va_runS (As := [.ref (am 8), .int (0 : Int32), .ref (am 14), .int (0 : Int32), .int (7 : Int32)]) (rest := []) hFix (kX6_copies l D T F (am 8) (am 14) 7 7 mnow maside (0 : Int32) (0 : Int32) (7 : Int32) w12_f2 hc) (va_cwS 5 hts gX6_layAside_X6_copies rfl rfl rfl hd_X6_copies ⟨Nat.le_of_ble_eq_true rfl, Nat.le_of_ble_eq_true rfl⟩) (preS_rw hPc hKK hDc) rfl rfl hl.1 rfl (lv_room (Nat.le_of_ble_eq_true rfl)) dX6_layAside_12 ⟨Nat.zero_le _, Nat.zero_le _⟩) hS hFc (fun H1 locs hP1 hD1 hz1 hk1 hS => ?_)
    obtain ⟨hP, hD⟩ := my_joinS hP hD (by decide) sb_wMo_wA2_8_14 hk1 hFc hP1 hD1
    have hP : va_P D vwCl (wMo T am mguests mclause mdeeds masked mupper mlower mfinding mreadGuests misSight mat mrowSizes mrows mtextSizes mtexts mdoes mkinds msees mnow mbefore mkeeps mkept mfindings mread w12_f2 msteps mtried mbest) H1 := st_wMo_wA2_8_14_copies ▸ hP
    have hD : va_D A (wMo T am mguests mclause mdeeds masked mupper mlower mfinding mreadGuests misSight mat mrowSizes mrows mtextSizes mtexts mdoes mkinds msees mnow mbefore mkeeps mkept mfindings mread w12_f2 msteps mtried mbest) := st_wMo_wA2_8_14_copies ▸ hD
    generalize H1 = H at hP hS ⊢
    cases h
    exact hret _ _ _ _ hP hD hS dX6_layAside_15
  exact key _ (fun H locs pc ls hP hD hS hd => W.vret hx hb hr (fun t ht hW => ⟨⟨(), rfl, trivial, by show _ ∧ _; rw [ht]; exact ⟨hP, hD⟩⟩, hS.F ht⟩) hS.2.2 hd)
set_option maxHeartbeats 4000000 in
set_option maxRecDepth 100000 in
theorem kX6_out (l : Launch) (D : va_G) (T : Nat → ClassId) (F : Nat) (am : Nat → Nat) (mguests : Int32) (mclause : Int32) (mdeeds : Int32) (masked : Int32) (mupper : Int64) (mlower : Int64) (mfinding : Int32) (mreadGuests : Int32) (misSight : Int32) (mat : Int32) (mrowSizes : Nat → Int32) (mrows : Nat → Int32) (mtextSizes : Nat → Int32) (mtexts : Nat → Int32) (mdoes : Nat → Int32) (mkinds : Nat → Int32) (msees : Nat → Int32) (mnow : Nat → Int32) (mbefore : Nat → Int32) (mkeeps : Nat → Int32) (mkept : Nat → Int32) (mfindings : Nat → Int32) (mread : Nat → Int32) (maside : Nat → Int32) (msteps : Nat → Int32) (mtried : Nat → Int32) (mbest : Nat → Int32) (x1 : Int32) (r : Int32) (zmasked : Int32) (zmaside : Nat → Int32) (h : fX6_out F mguests mclause masked mdoes mkinds msees mnow maside x1 = some (r, zmasked, zmaside)) : ∀ sz : Nat, Met l yX6_out wsX6_out ({ frames := 4, cells := 0, slots := 0, locals := 93 } : Room) (va_Pc [.ref (am 0), .int x1] (fun U => U.heap.size = sz ∧ va_P D vwCl (wMo T am mguests mclause mdeeds masked mupper mlower mfinding mreadGuests misSight mat mrowSizes mrows mtextSizes mtexts mdoes mkinds msees mnow mbefore mkeeps mkept mfindings mread maside msteps mtried mbest) U.heap ∧ KK D T U ∧ va_D (fun _ => True) (wMo T am mguests mclause mdeeds masked mupper mlower mfinding mreadGuests misSight mat mrowSizes mrows mtextSizes mtexts mdoes mkinds msees mnow mbefore mkeeps mkept mfindings mread maside msteps mtried mbest))) (va_Qi (fun r' (_ : Unit) => r' = r) (fun _ t => va_P D vwCl (wMo T am mguests mclause mdeeds zmasked mupper mlower mfinding mreadGuests misSight mat mrowSizes mrows mtextSizes mtexts mdoes mkinds msees mnow mbefore mkeeps mkept mfindings mread zmaside msteps mtried mbest) t.heap ∧ va_D (va_A (wMo T am mguests mclause mdeeds masked mupper mlower mfinding mreadGuests misSight mat mrowSizes mrows mtextSizes mtexts mdoes mkinds msees mnow mbefore mkeeps mkept mfindings mread maside msteps mtried mbest) sz) (wMo T am mguests mclause mdeeds zmasked mupper mlower mfinding mreadGuests misSight mat mrowSizes mrows mtextSizes mtexts mdoes mkinds msees mnow mbefore mkeeps mkept mfindings mread zmaside msteps mtried mbest)) (va_A (wMo T am mguests mclause mdeeds masked mupper mlower mfinding mreadGuests misSight mat mrowSizes mrows mtextSizes mtexts mdoes mkinds msees mnow mbefore mkeeps mkept mfindings mread maside msteps mtried mbest) sz)) 0 0 (va_A (wMo T am mguests mclause mdeeds masked mupper mlower mfinding mreadGuests misSight mat mrowSizes mrows mtextSizes mtexts mdoes mkinds msees mnow mbefore mkeeps mkept mfindings mread maside msteps mtried mbest) sz) := by
  intro sz
  refine Met.ofW (cc := cX6_out) (maxL := 3) (ret := some .int) (by decide) rfl ?_
  intro p e s m args below meth c s₁ B hml hv
  obtain ⟨ha, hsz, hP, hKK, hD0⟩ := hv
  have hx := B.exec
  have hb := B.bytes
  have hr := B.returns
  have hts := atoms_spec (ws := wsX6_out) B.pre
  have hown : s.vm.findClass RX6 = some m.cls := findClass_of_methodNamed B.named
  have hlocks := B.notSynchronized
  have hK := hKK.1
  have hFix : CallFix p m c cX6_out 3 s args wsX6_out RX6 := ⟨hx, hb, hml, hown, hts⟩
  have q1 := hts _ (List.mem_of_getElem? (i := 1) (show wsX6_out[1]? = some (Cond.fieldLink RX6 54 "PartyWillModel" "aside" "[I") from rfl))
  have iX6 : ∀ w ∈ u_ws RX6 TX6 27, w ∈ wsX6_out := fun w h => List.mem_cons_of_mem _ (List.mem_append_right _ (h))
  subst hsz
  have hD := hD0.self (sz := s.heap.size)
  generalize hAe : va_A (wMo T am mguests mclause mdeeds masked mupper mlower mfinding mreadGuests misSight mat mrowSizes mrows mtextSizes mtexts mdoes mkinds msees mnow mbefore mkeeps mkept mfindings mread maside msteps mtried mbest) s.heap.size = A at hD ⊢
  have hA : ∀ q : Nat, s.heap.size ≤ q → A q := fun q h => by rw [← hAe]; exact Or.inr h
  have hS : va_S A s.heap s.heap [] := va_S.rf
  have hP : va_P D vwCl (wMo T am mguests mclause mdeeds masked mupper mlower mfinding mreadGuests misSight mat mrowSizes mrows mtextSizes mtexts mdoes mkinds msees mnow mbefore mkeeps mkept mfindings mread maside msteps mtried mbest) s.heap := hP
  obtain ⟨ls, hl, e0⟩ := my_entry (m := m) (n := 3) ha (Nat.le_of_ble_eq_true rfl)
  rw [e0]
  have hl : lv_has ls 3 [(0, .ref (am 0)), (1, .int x1)] := hl
  have key : ∀ Q : State → Prop, (∀ (H : Heap) (locs : List Loc) (pc : Nat) (ls : Array Slot), va_P D vwCl (wMo T am mguests mclause mdeeds zmasked mupper mlower mfinding mreadGuests misSight mat mrowSizes mrows mtextSizes mtexts mdoes mkinds msees mnow mbefore mkeeps mkept mfindings mread zmaside msteps mtried mbest) H → va_D A (wMo T am mguests mclause mdeeds zmasked mupper mlower mfinding mreadGuests misSight mat mrowSizes mrows mtextSizes mtexts mdoes mkinds msees mnow mbefore mkeeps mkept mfindings mread zmaside msteps mtried mbest) → va_S A s.heap H locs → decode cX6_out pc = .ok (.ireturn, 1) → W p l e ({ frames := 4, cells := 0, slots := 0, locals := 93 } : Room) s m args below meth c H locs 0 0 Q (F0 m pc ls [.int r])) → W p l e ({ frames := 4, cells := 0, slots := 0, locals := 93 } : Room) s m args below meth c s.heap [] 0 0 Q (F0 m 0 ls []) := by
    intro Q hret
    skip
    unfold fX6_out at h
    refine lv_iload_n hx hb dX6_out_0 rfl (lv_at hl 1 rfl) ?_
    obtain ⟨r1, hc, h⟩ := bd1_some h
    refine my_roz (va_Run.run (va_runS (As := [.int x1]) (rest := []) hFix (kX6_isTune l D T F x1 r1 hc) (va_cwS 1 hts gX6_out_X6_isTune rfl rfl rfl hd_X6_isTune ⟨Nat.le_of_ble_eq_true rfl, Nat.le_of_ble_eq_true rfl⟩) (preS_ro va_nil hKK) rfl rfl hl.1 rfl (lv_room (Nat.le_of_ble_eq_true rfl)) dX6_out_1 ⟨Nat.zero_le _, Nat.zero_le _⟩)) (fun hb1 => ?_)
    refine lv_if_ne (tgt := 9) hx hb dX6_out_4 (by decide) (fun c4 => ?_) (fun c4 => ?_)
    · have h := br_0 h c4
      refine lv_aload_n hx hb dX6_out_9 rfl (lv_at hl 0 rfl) ?_
      obtain ⟨w10_maside, hc, h⟩ := bd1_some h
      have hFc := my_freeS hD hS hA
      refine my_rwv (va_runV (As := []) (rest := []) hFix (kX6_layAside l D T F am mguests mclause mdeeds masked mupper mlower mfinding mreadGuests misSight mat mrowSizes mrows mtextSizes mtexts mdoes mkinds msees mnow mbefore mkeeps mkept mfindings mread maside msteps mtried mbest w10_maside hc) (cwV 0 hts gX6_out_X6_layAside rfl rfl rfl ⟨rfl, hd_X6_layAside⟩ ⟨Nat.le_of_ble_eq_true rfl, Nat.le_of_ble_eq_true rfl⟩) (preV_rw hP hKK hD (va_recv hK hP (ci := 4) (q0 := 0) rfl wMo_0)) rfl rfl hl.1 rfl (lv_room (Nat.le_of_ble_eq_true rfl)) dX6_out_10 ⟨Nat.zero_le _, Nat.zero_le _⟩) hS hFc (fun H1 locs hP1 hD1 hz1 hk1 hS => ?_)
      have hP : va_P D vwCl (wMo T am mguests mclause mdeeds masked mupper mlower mfinding mreadGuests misSight mat mrowSizes mrows mtextSizes mtexts mdoes mkinds msees mnow mbefore mkeeps mkept mfindings mread w10_maside msteps mtried mbest) H1 := hP1
      have hD : va_D A (wMo T am mguests mclause mdeeds masked mupper mlower mfinding mreadGuests misSight mat mrowSizes mrows mtextSizes mtexts mdoes mkinds msees mnow mbefore mkeeps mkept mfindings mread w10_maside msteps mtried mbest) := hD1.weaken (fun _ q _ h => hFc q.1 h)
      generalize H1 = H at hP hS ⊢
      refine lv_aload_n hx hb dX6_out_13 rfl (lv_at hl 0 rfl) ?_
      refine lv_aload_n hx hb dX6_out_14 rfl (lv_at hl 0 rfl) ?_
      refine va_get (D := D) (ci := 4) (C := RX6) (T := TX6) (N := 27) hx hb hts iX6 hown hK hP 0 wMo_0 rfl 23 (by decide) q1 (fun _ h9 => h9) rfl dX6_out_15 ?_
      refine lv_iload_n hx hb dX6_out_18 rfl (lv_at hl 1 rfl) ?_
      obtain ⟨r19, w19_tt, hc, h⟩ := bd2_some h
      have hPc : va_P D vwCl (wMp T am (am 14) mguests mclause mdeeds masked mupper mlower mfinding mreadGuests misSight mat mdoes mkinds msees w10_maside) H := my_subP sb_wMo_wMp_0_5_6_7_14 hP
      have hDc := hD.sub [0, 5, 6, 7, 14] (by decide) sb_wMo_wMp_0_5_6_7_14
      have hFc := va_free hD hS hA [0, 5, 6, 7, 14] sb_wMo_wMp_0_5_6_7_14
      refine my_rwi (va_runV (As := [.ref (am 14), .int x1]) (rest := []) hFix (kX6_plays l D T F am (am 14) mguests mclause mdeeds masked mupper mlower mfinding mreadGuests misSight mat mdoes mkinds msees w10_maside x1 r19 w19_tt hc) (cwV 2 hts gX6_out_X6_plays rfl rfl rfl ⟨rfl, hd_X6_plays⟩ ⟨Nat.le_of_ble_eq_true rfl, Nat.le_of_ble_eq_true rfl⟩) (preV_rw hPc hKK hDc (va_recv hK hP (ci := 4) (q0 := 0) rfl wMo_0)) rfl rfl hl.1 rfl (lv_room (Nat.le_of_ble_eq_true rfl)) dX6_out_19 ⟨Nat.zero_le _, Nat.zero_le _⟩) hS hFc (fun H1 locs hP1 hD1 hz1 hk1 hS => ?_)
      obtain ⟨hP, hD⟩ := my_joinS hP hD (by decide) sb_wMo_wMp_0_5_6_7_14 hk1 hFc hP1 hD1
      have hP : va_P D vwCl (wMo T am mguests mclause mdeeds masked mupper mlower mfinding mreadGuests misSight mat mrowSizes mrows mtextSizes mtexts mdoes mkinds msees mnow mbefore mkeeps mkept mfindings mread w19_tt msteps mtried mbest) H1 := st_wMo_wMp_0_5_6_7_14_plays ▸ hP
      have hD : va_D A (wMo T am mguests mclause mdeeds masked mupper mlower mfinding mreadGuests misSight mat mrowSizes mrows mtextSizes mtexts mdoes mkinds msees mnow mbefore mkeeps mkept mfindings mread w19_tt msteps mtried mbest) := st_wMo_wMp_0_5_6_7_14_plays ▸ hD
      generalize H1 = H at hP hS ⊢
      refine lv_istore_n (lv' := [(2, .int r19), (0, .ref (am 0)), (1, .int x1)]) hx hb dX6_out_22 rfl hl (by decide) rfl (fun ls hl => ?_)
      refine lv_aload_n hx hb dX6_out_23 rfl (lv_at hl 1 rfl) ?_
      refine lv_iload_n hx hb dX6_out_24 rfl (lv_at hl 0 rfl) ?_
      refine lv_aload_n hx hb dX6_out_25 rfl (lv_at hl 1 rfl) ?_
      refine va_get (D := D) (ci := 4) (C := RX6) (T := TX6) (N := 27) hx hb hts iX6 hown hK hP 0 wMo_0 rfl 23 (by decide) q1 (fun _ h9 => h9) rfl dX6_out_26 ?_
      obtain ⟨r29, hc, h⟩ := bd1_some h
      have hPc : va_P D vwCl (wA1 T (am 14) 7 w19_tt) H := my_subP sb_wMo_wA1_14 hP
      refine my_roi (va_Run.run (va_runS (As := [.ref (am 14)]) (rest := [.int r19, .ref (am 0)]) hFix (kX6_sumOf l D T F (am 14) 7 w19_tt r29 hc) (va_cwS 1 hts gX6_out_X6_sumOf rfl rfl rfl hd_X6_sumOf ⟨Nat.le_of_ble_eq_true rfl, Nat.le_of_ble_eq_true rfl⟩) (preS_ro hPc hKK) rfl rfl hl.1 rfl (lv_room (Nat.le_of_ble_eq_true rfl)) dX6_out_29 ⟨Nat.zero_le _, Nat.zero_le _⟩)) ?_
      obtain ⟨r32, w32_masked, hc, h⟩ := bd2_some h
      have hFc := my_freeS hD hS hA
      refine my_rwi (va_runV (As := [.int r19, .int r29]) (rest := []) hFix (kX6_answer l D T F am mguests mclause mdeeds masked mupper mlower mfinding mreadGuests misSight mat mrowSizes mrows mtextSizes mtexts mdoes mkinds msees mnow mbefore mkeeps mkept mfindings mread w19_tt msteps mtried mbest r19 r29 r32 w32_masked hc) (cwV 2 hts gX6_out_X6_answer rfl rfl rfl ⟨rfl, hd_X6_answer⟩ ⟨Nat.le_of_ble_eq_true rfl, Nat.le_of_ble_eq_true rfl⟩) (preV_rw hP hKK hD (va_recv hK hP (ci := 4) (q0 := 0) rfl wMo_0)) rfl rfl hl.1 rfl (lv_room (Nat.le_of_ble_eq_true rfl)) dX6_out_32 ⟨Nat.zero_le _, Nat.zero_le _⟩) hS hFc (fun H1 locs hP1 hD1 hz1 hk1 hS => ?_)
      have hP : va_P D vwCl (wMo T am mguests mclause mdeeds w32_masked mupper mlower mfinding mreadGuests misSight mat mrowSizes mrows mtextSizes mtexts mdoes mkinds msees mnow mbefore mkeeps mkept mfindings mread w19_tt msteps mtried mbest) H1 := hP1
      have hD : va_D A (wMo T am mguests mclause mdeeds w32_masked mupper mlower mfinding mreadGuests misSight mat mrowSizes mrows mtextSizes mtexts mdoes mkinds msees mnow mbefore mkeeps mkept mfindings mread w19_tt msteps mtried mbest) := hD1.weaken (fun _ q _ h => hFc q.1 h)
      generalize H1 = H at hP hS ⊢
      cases h
      exact hret _ _ _ _ hP hD hS dX6_out_35
    · have h := br_1 h c4
      refine lv_iconst (v := (-1 : Int32)) hx hb dX6_out_7 (by decide) ?_
      cases h
      exact hret _ _ _ _ hP hD hS dX6_out_8
  exact key _ (fun H locs pc ls hP hD hS hd => W.iret hx hb hr (fun t ht hW => ⟨⟨_, (), rfl, rfl, by show _ ∧ _; rw [ht]; exact ⟨hP, hD⟩⟩, hS.F ht⟩) hS.2.2 hd)
set_option maxHeartbeats 4000000 in
set_option maxRecDepth 100000 in
theorem kX6_safe (l : Launch) (D : va_G) (T : Nat → ClassId) (F : Nat) (am : Nat → Nat) (mguests : Int32) (mclause : Int32) (mdeeds : Int32) (masked : Int32) (mupper : Int64) (mlower : Int64) (mfinding : Int32) (mreadGuests : Int32) (misSight : Int32) (mat : Int32) (mrowSizes : Nat → Int32) (mrows : Nat → Int32) (mtextSizes : Nat → Int32) (mtexts : Nat → Int32) (mdoes : Nat → Int32) (mkinds : Nat → Int32) (msees : Nat → Int32) (mnow : Nat → Int32) (mbefore : Nat → Int32) (mkeeps : Nat → Int32) (mkept : Nat → Int32) (mfindings : Nat → Int32) (mread : Nat → Int32) (maside : Nat → Int32) (msteps : Nat → Int32) (mtried : Nat → Int32) (mbest : Nat → Int32) (r : Int32) (zmaside : Nat → Int32) (h : fX6_safe F mguests mclause mdoes mkinds msees mnow maside = some (r, zmaside)) : ∀ sz : Nat, Met l yX6_safe wsX6_safe ({ frames := 4, cells := 0, slots := 0, locals := 93 } : Room) (va_Pc [.ref (am 0)] (fun U => U.heap.size = sz ∧ va_P D vwCl (wMo T am mguests mclause mdeeds masked mupper mlower mfinding mreadGuests misSight mat mrowSizes mrows mtextSizes mtexts mdoes mkinds msees mnow mbefore mkeeps mkept mfindings mread maside msteps mtried mbest) U.heap ∧ KK D T U ∧ va_D (fun _ => True) (wMo T am mguests mclause mdeeds masked mupper mlower mfinding mreadGuests misSight mat mrowSizes mrows mtextSizes mtexts mdoes mkinds msees mnow mbefore mkeeps mkept mfindings mread maside msteps mtried mbest))) (va_Qi (fun r' (_ : Unit) => r' = r) (fun _ t => va_P D vwCl (wMo T am mguests mclause mdeeds masked mupper mlower mfinding mreadGuests misSight mat mrowSizes mrows mtextSizes mtexts mdoes mkinds msees mnow mbefore mkeeps mkept mfindings mread zmaside msteps mtried mbest) t.heap ∧ va_D (va_A (wMo T am mguests mclause mdeeds masked mupper mlower mfinding mreadGuests misSight mat mrowSizes mrows mtextSizes mtexts mdoes mkinds msees mnow mbefore mkeeps mkept mfindings mread maside msteps mtried mbest) sz) (wMo T am mguests mclause mdeeds masked mupper mlower mfinding mreadGuests misSight mat mrowSizes mrows mtextSizes mtexts mdoes mkinds msees mnow mbefore mkeeps mkept mfindings mread zmaside msteps mtried mbest)) (va_A (wMo T am mguests mclause mdeeds masked mupper mlower mfinding mreadGuests misSight mat mrowSizes mrows mtextSizes mtexts mdoes mkinds msees mnow mbefore mkeeps mkept mfindings mread maside msteps mtried mbest) sz)) 0 0 (va_A (wMo T am mguests mclause mdeeds masked mupper mlower mfinding mreadGuests misSight mat mrowSizes mrows mtextSizes mtexts mdoes mkinds msees mnow mbefore mkeeps mkept mfindings mread maside msteps mtried mbest) sz) := by
  intro sz
  refine Met.ofW (cc := cX6_safe) (maxL := 3) (ret := some .int) (by decide) rfl ?_
  intro p e s m args below meth c s₁ B hml hv
  obtain ⟨ha, hsz, hP, hKK, hD0⟩ := hv
  have hx := B.exec
  have hb := B.bytes
  have hr := B.returns
  have hts := atoms_spec (ws := wsX6_safe) B.pre
  have hown : s.vm.findClass RX6 = some m.cls := findClass_of_methodNamed B.named
  have hlocks := B.notSynchronized
  have hK := hKK.1
  have hFix : CallFix p m c cX6_safe 3 s args wsX6_safe RX6 := ⟨hx, hb, hml, hown, hts⟩
  have q1 := hts _ (List.mem_of_getElem? (i := 1) (show wsX6_safe[1]? = some (Cond.fieldLink RX6 131 "PartyWillModel" "guests" "I") from rfl))
  have q2 := hts _ (List.mem_of_getElem? (i := 2) (show wsX6_safe[2]? = some (Cond.fieldLink RX6 54 "PartyWillModel" "aside" "[I") from rfl))
  have iX6 : ∀ w ∈ u_ws RX6 TX6 27, w ∈ wsX6_safe := fun w h => List.mem_cons_of_mem _ (List.mem_append_right _ (h))
  subst hsz
  have hD := hD0.self (sz := s.heap.size)
  generalize hAe : va_A (wMo T am mguests mclause mdeeds masked mupper mlower mfinding mreadGuests misSight mat mrowSizes mrows mtextSizes mtexts mdoes mkinds msees mnow mbefore mkeeps mkept mfindings mread maside msteps mtried mbest) s.heap.size = A at hD ⊢
  have hA : ∀ q : Nat, s.heap.size ≤ q → A q := fun q h => by rw [← hAe]; exact Or.inr h
  have hS : va_S A s.heap s.heap [] := va_S.rf
  have hP : va_P D vwCl (wMo T am mguests mclause mdeeds masked mupper mlower mfinding mreadGuests misSight mat mrowSizes mrows mtextSizes mtexts mdoes mkinds msees mnow mbefore mkeeps mkept mfindings mread maside msteps mtried mbest) s.heap := hP
  obtain ⟨ls, hl, e0⟩ := my_entry (m := m) (n := 3) ha (Nat.le_of_ble_eq_true rfl)
  rw [e0]
  have hl : lv_has ls 3 [(0, .ref (am 0))] := hl
  have key : ∀ Q : State → Prop, (∀ (H : Heap) (locs : List Loc) (pc : Nat) (ls : Array Slot), va_P D vwCl (wMo T am mguests mclause mdeeds masked mupper mlower mfinding mreadGuests misSight mat mrowSizes mrows mtextSizes mtexts mdoes mkinds msees mnow mbefore mkeeps mkept mfindings mread zmaside msteps mtried mbest) H → va_D A (wMo T am mguests mclause mdeeds masked mupper mlower mfinding mreadGuests misSight mat mrowSizes mrows mtextSizes mtexts mdoes mkinds msees mnow mbefore mkeeps mkept mfindings mread zmaside msteps mtried mbest) → va_S A s.heap H locs → decode cX6_safe pc = .ok (.ireturn, 1) → W p l e ({ frames := 4, cells := 0, slots := 0, locals := 93 } : Room) s m args below meth c H locs 0 0 Q (F0 m pc ls [.int r])) → W p l e ({ frames := 4, cells := 0, slots := 0, locals := 93 } : Room) s m args below meth c s.heap [] 0 0 Q (F0 m 0 ls []) := by
    intro Q hret
    skip
    have l14 : ∀ nu : Nat, ∀ x1 : Int32, ∀ x2 : Int32, ∀ maside : Nat → Int32, fX6_safe_l14 F mguests mclause mdoes mkinds msees mnow nu x1 x2 maside = some (r, zmaside) → ∀ (H : Heap) (locs : List Loc), va_P D vwCl (wMo T am mguests mclause mdeeds masked mupper mlower mfinding mreadGuests misSight mat mrowSizes mrows mtextSizes mtexts mdoes mkinds msees mnow mbefore mkeeps mkept mfindings mread maside msteps mtried mbest) H → va_D A (wMo T am mguests mclause mdeeds masked mupper mlower mfinding mreadGuests misSight mat mrowSizes mrows mtextSizes mtexts mdoes mkinds msees mnow mbefore mkeeps mkept mfindings mread maside msteps mtried mbest) → va_S A s.heap H locs → ∀ (ls : Array Slot), lv_has ls 3 [(0, .ref (am 0)), (1, .int x1), (2, .int x2)] → W p l e ({ frames := 4, cells := 0, slots := 0, locals := 93 } : Room) s m args below meth c H locs 0 0 Q (F0 m 14 ls []) := by
      intro nu
      induction nu with
      | zero => intro x1 x2 maside h; exact none_some h
      | succ nu14 ih14 =>
        intro x1 x2 maside h H locs hP hD hS ls hl
        have h : fX6_safe_l14_b F mguests mclause mdoes mkinds msees mnow (fX6_safe_l14 F mguests mclause mdoes mkinds msees mnow nu14) x1 x2 maside = some (r, zmaside) := h
        unfold fX6_safe_l14_b at h
        refine lv_iload_n hx hb dX6_safe_14 rfl (lv_at hl 2 rfl) ?_
        refine lv_iconst (v := (4 : Int32)) hx hb dX6_safe_15 (by decide) ?_
        refine lv_icmp_ge (tgt := 51) hx hb dX6_safe_16 (by decide) (fun c16 => ?_) (fun c16 => ?_)
        · have h := br_1 h c16
          refine lv_iload_n hx hb dX6_safe_51 rfl (lv_at hl 1 rfl) ?_
          cases h
          exact hret _ _ _ _ hP hD hS dX6_safe_52
        · have h := br_0 h c16
          refine lv_aload_n hx hb dX6_safe_19 rfl (lv_at hl 0 rfl) ?_
          obtain ⟨w20_maside, hc, h⟩ := bd1_some h
          have hFc := my_freeS hD hS hA
          refine my_rwv (va_runV (As := []) (rest := []) hFix (kX6_layAside l D T F am mguests mclause mdeeds masked mupper mlower mfinding mreadGuests misSight mat mrowSizes mrows mtextSizes mtexts mdoes mkinds msees mnow mbefore mkeeps mkept mfindings mread maside msteps mtried mbest w20_maside hc) (cwV 0 hts gX6_safe_X6_layAside rfl rfl rfl ⟨rfl, hd_X6_layAside⟩ ⟨Nat.le_of_ble_eq_true rfl, Nat.le_of_ble_eq_true rfl⟩) (preV_rw hP hKK hD (va_recv hK hP (ci := 4) (q0 := 0) rfl wMo_0)) rfl rfl hl.1 rfl (lv_room (Nat.le_of_ble_eq_true rfl)) dX6_safe_20 ⟨Nat.zero_le _, Nat.zero_le _⟩) hS hFc (fun H1 locs hP1 hD1 hz1 hk1 hS => ?_)
          have hP : va_P D vwCl (wMo T am mguests mclause mdeeds masked mupper mlower mfinding mreadGuests misSight mat mrowSizes mrows mtextSizes mtexts mdoes mkinds msees mnow mbefore mkeeps mkept mfindings mread w20_maside msteps mtried mbest) H1 := hP1
          have hD : va_D A (wMo T am mguests mclause mdeeds masked mupper mlower mfinding mreadGuests misSight mat mrowSizes mrows mtextSizes mtexts mdoes mkinds msees mnow mbefore mkeeps mkept mfindings mread w20_maside msteps mtried mbest) := hD1.weaken (fun _ q _ h => hFc q.1 h)
          generalize H1 = H at hP hS ⊢
          refine lv_iload_n hx hb dX6_safe_23 rfl (lv_at hl 1 rfl) ?_
          refine lv_aload_n hx hb dX6_safe_24 rfl (lv_at hl 0 rfl) ?_
          refine lv_aload_n hx hb dX6_safe_25 rfl (lv_at hl 0 rfl) ?_
          refine va_get (D := D) (ci := 4) (C := RX6) (T := TX6) (N := 27) hx hb hts iX6 hown hK hP 0 wMo_0 rfl 23 (by decide) q2 (fun _ h9 => h9) rfl dX6_safe_26 ?_
          refine lv_iload_n hx hb dX6_safe_29 rfl (lv_at hl 2 rfl) ?_
          obtain ⟨r30, w30_tt, hc, h⟩ := bd2_some h
          have hPc : va_P D vwCl (wMp T am (am 14) mguests mclause mdeeds masked mupper mlower mfinding mreadGuests misSight mat mdoes mkinds msees w20_maside) H := my_subP sb_wMo_wMp_0_5_6_7_14 hP
          have hDc := hD.sub [0, 5, 6, 7, 14] (by decide) sb_wMo_wMp_0_5_6_7_14
          have hFc := va_free hD hS hA [0, 5, 6, 7, 14] sb_wMo_wMp_0_5_6_7_14
          refine my_rwi (va_runV (As := [.ref (am 14), .int x2]) (rest := [.int x1]) hFix (kX6_plays l D T F am (am 14) mguests mclause mdeeds masked mupper mlower mfinding mreadGuests misSight mat mdoes mkinds msees w20_maside x2 r30 w30_tt hc) (cwV 2 hts gX6_safe_X6_plays rfl rfl rfl ⟨rfl, hd_X6_plays⟩ ⟨Nat.le_of_ble_eq_true rfl, Nat.le_of_ble_eq_true rfl⟩) (preV_rw hPc hKK hDc (va_recv hK hP (ci := 4) (q0 := 0) rfl wMo_0)) rfl rfl hl.1 rfl (lv_room (Nat.le_of_ble_eq_true rfl)) dX6_safe_30 ⟨Nat.zero_le _, Nat.zero_le _⟩) hS hFc (fun H1 locs hP1 hD1 hz1 hk1 hS => ?_)
          obtain ⟨hP, hD⟩ := my_joinS hP hD (by decide) sb_wMo_wMp_0_5_6_7_14 hk1 hFc hP1 hD1
          have hP : va_P D vwCl (wMo T am mguests mclause mdeeds masked mupper mlower mfinding mreadGuests misSight mat mrowSizes mrows mtextSizes mtexts mdoes mkinds msees mnow mbefore mkeeps mkept mfindings mread w30_tt msteps mtried mbest) H1 := st_wMo_wMp_0_5_6_7_14_plays ▸ hP
          have hD : va_D A (wMo T am mguests mclause mdeeds masked mupper mlower mfinding mreadGuests misSight mat mrowSizes mrows mtextSizes mtexts mdoes mkinds msees mnow mbefore mkeeps mkept mfindings mread w30_tt msteps mtried mbest) := st_wMo_wMp_0_5_6_7_14_plays ▸ hD
          generalize H1 = H at hP hS ⊢
          refine lv_if_ne (tgt := 42) hx hb dX6_safe_33 (by decide) (fun c33 => ?_) (fun c33 => ?_)
          · have h := br_0 h c33
            refine lv_iconst (v := (0 : Int32)) hx hb dX6_safe_42 (by decide) ?_
            refine lv_ior hx hb dX6_safe_43 ?_
            refine lv_istore_n (lv' := [(1, .int (x1 ||| (0 : Int32))), (0, .ref (am 0)), (2, .int x2)]) hx hb dX6_safe_44 rfl hl (by decide) rfl (fun ls hl => ?_)
            refine lv_iinc (v := (x2 + (1 : Int32))) (lv' := [(2, .int (x2 + (1 : Int32))), (1, .int (x1 ||| (0 : Int32))), (0, .ref (am 0))]) hx hb dX6_safe_45 hl (k := 2) rfl rfl (by decide) rfl (fun ls hl => ?_)
            refine lv_goto (tgt := 14) hx hb dX6_safe_48 (by decide) ?_
            exact ih14 (x1 ||| (0 : Int32)) (x2 + (1 : Int32)) w30_tt h _ _ hP hD hS _ (lv_sub hl [2, 1, 0] rfl)
          · have h := br_1 h c33
            refine lv_iconst (v := (1 : Int32)) hx hb dX6_safe_36 (by decide) ?_
            refine lv_iload_n hx hb dX6_safe_37 rfl (lv_at hl 2 rfl) ?_
            refine lv_ishl hx hb dX6_safe_38 ?_
            refine lv_goto (tgt := 43) hx hb dX6_safe_39 (by decide) ?_
            refine lv_ior hx hb dX6_safe_43 ?_
            refine lv_istore_n (lv' := [(1, .int (x1 ||| ((1 : Int32) <<< (x2 &&& 31)))), (0, .ref (am 0)), (2, .int x2)]) hx hb dX6_safe_44 rfl hl (by decide) rfl (fun ls hl => ?_)
            refine lv_iinc (v := (x2 + (1 : Int32))) (lv' := [(2, .int (x2 + (1 : Int32))), (1, .int (x1 ||| ((1 : Int32) <<< (x2 &&& 31)))), (0, .ref (am 0))]) hx hb dX6_safe_45 hl (k := 2) rfl rfl (by decide) rfl (fun ls hl => ?_)
            refine lv_goto (tgt := 14) hx hb dX6_safe_48 (by decide) ?_
            exact ih14 (x1 ||| ((1 : Int32) <<< (x2 &&& 31))) (x2 + (1 : Int32)) w30_tt h _ _ hP hD hS _ (lv_sub hl [2, 1, 0] rfl)
    unfold fX6_safe at h
    refine lv_aload_n hx hb dX6_safe_0 rfl (lv_at hl 0 rfl) ?_
    refine va_get (D := D) (ci := 4) (C := RX6) (T := TX6) (N := 27) hx hb hts iX6 hown hK hP 0 wMo_0 rfl 4 (by decide) q1 (fun _ h9 => h9) rfl dX6_safe_1 ?_
    refine lv_if_ne (tgt := 10) hx hb dX6_safe_4 (by decide) (fun c4 => ?_) (fun c4 => ?_)
    · have h := br_0 h c4
      refine lv_iconst (v := (0 : Int32)) hx hb dX6_safe_10 (by decide) ?_
      refine lv_istore_n (lv' := [(1, .int (0 : Int32)), (0, .ref (am 0))]) hx hb dX6_safe_11 rfl hl (by decide) rfl (fun ls hl => ?_)
      refine lv_iconst (v := (0 : Int32)) hx hb dX6_safe_12 (by decide) ?_
      refine lv_istore_n (lv' := [(2, .int (0 : Int32)), (1, .int (0 : Int32)), (0, .ref (am 0))]) hx hb dX6_safe_13 rfl hl (by decide) rfl (fun ls hl => ?_)
      exact l14 F (0 : Int32) (0 : Int32) maside h _ _ hP hD hS _ (lv_sub hl [2, 1, 0] rfl)
    · have h := br_1 h c4
      refine lv_bipush (v := (-4 : Int32)) hx hb dX6_safe_7 (by decide) ?_
      cases h
      exact hret _ _ _ _ hP hD hS dX6_safe_9
  exact key _ (fun H locs pc ls hP hD hS hd => W.iret hx hb hr (fun t ht hW => ⟨⟨_, (), rfl, rfl, by show _ ∧ _; rw [ht]; exact ⟨hP, hD⟩⟩, hS.F ht⟩) hS.2.2 hd)
set_option maxHeartbeats 4000000 in
set_option maxRecDepth 100000 in
theorem kX6_programme (l : Launch) (D : va_G) (T : Nat → ClassId) (F : Nat) (am : Nat → Nat) (mguests : Int32) (mclause : Int32) (mdeeds : Int32) (masked : Int32) (mupper : Int64) (mlower : Int64) (mfinding : Int32) (mreadGuests : Int32) (misSight : Int32) (mat : Int32) (mrowSizes : Nat → Int32) (mrows : Nat → Int32) (mtextSizes : Nat → Int32) (mtexts : Nat → Int32) (mdoes : Nat → Int32) (mkinds : Nat → Int32) (msees : Nat → Int32) (mnow : Nat → Int32) (mbefore : Nat → Int32) (mkeeps : Nat → Int32) (mkept : Nat → Int32) (mfindings : Nat → Int32) (mread : Nat → Int32) (maside : Nat → Int32) (msteps : Nat → Int32) (mtried : Nat → Int32) (mbest : Nat → Int32) (x1 : Int32) (r : Int32) (zmfinding : Int32) (zmfindings : Nat → Int32) (h : fX6_programme F mfinding mrowSizes mrows mfindings x1 = some (r, zmfinding, zmfindings)) : ∀ sz : Nat, Met l yX6_programme wsX6_programme ({ frames := 2, cells := 0, slots := 0, locals := 45 } : Room) (va_Pc [.ref (am 0), .int x1] (fun U => U.heap.size = sz ∧ va_P D vwCl (wMo T am mguests mclause mdeeds masked mupper mlower mfinding mreadGuests misSight mat mrowSizes mrows mtextSizes mtexts mdoes mkinds msees mnow mbefore mkeeps mkept mfindings mread maside msteps mtried mbest) U.heap ∧ KK D T U ∧ va_D (fun _ => True) (wMo T am mguests mclause mdeeds masked mupper mlower mfinding mreadGuests misSight mat mrowSizes mrows mtextSizes mtexts mdoes mkinds msees mnow mbefore mkeeps mkept mfindings mread maside msteps mtried mbest))) (va_Qi (fun r' (_ : Unit) => r' = r) (fun _ t => va_P D vwCl (wMo T am mguests mclause mdeeds masked mupper mlower zmfinding mreadGuests misSight mat mrowSizes mrows mtextSizes mtexts mdoes mkinds msees mnow mbefore mkeeps mkept zmfindings mread maside msteps mtried mbest) t.heap ∧ va_D (va_A (wMo T am mguests mclause mdeeds masked mupper mlower mfinding mreadGuests misSight mat mrowSizes mrows mtextSizes mtexts mdoes mkinds msees mnow mbefore mkeeps mkept mfindings mread maside msteps mtried mbest) sz) (wMo T am mguests mclause mdeeds masked mupper mlower zmfinding mreadGuests misSight mat mrowSizes mrows mtextSizes mtexts mdoes mkinds msees mnow mbefore mkeeps mkept zmfindings mread maside msteps mtried mbest)) (va_A (wMo T am mguests mclause mdeeds masked mupper mlower mfinding mreadGuests misSight mat mrowSizes mrows mtextSizes mtexts mdoes mkinds msees mnow mbefore mkeeps mkept mfindings mread maside msteps mtried mbest) sz)) 0 0 (va_A (wMo T am mguests mclause mdeeds masked mupper mlower mfinding mreadGuests misSight mat mrowSizes mrows mtextSizes mtexts mdoes mkinds msees mnow mbefore mkeeps mkept mfindings mread maside msteps mtried mbest) sz) := by
  intro sz
  refine Met.ofW (cc := cX6_programme) (maxL := 4) (ret := some .int) (by decide) rfl ?_
  intro p e s m args below meth c s₁ B hml hv
  obtain ⟨ha, hsz, hP, hKK, hD0⟩ := hv
  have hx := B.exec
  have hb := B.bytes
  have hr := B.returns
  have hts := atoms_spec (ws := wsX6_programme) B.pre
  have hown : s.vm.findClass RX6 = some m.cls := findClass_of_methodNamed B.named
  have hlocks := B.notSynchronized
  have hK := hKK.1
  have hFix : CallFix p m c cX6_programme 4 s args wsX6_programme RX6 := ⟨hx, hb, hml, hown, hts⟩
  have q1 := hts _ (List.mem_of_getElem? (i := 1) (show wsX6_programme[1]? = some (Cond.fieldLink RX6 7 "PartyWillModel" "rowSizes" "[I") from rfl))
  have q2 := hts _ (List.mem_of_getElem? (i := 2) (show wsX6_programme[2]? = some (Cond.fieldLink RX6 13 "PartyWillModel" "rows" "[I") from rfl))
  have iX6 : ∀ w ∈ u_ws RX6 TX6 27, w ∈ wsX6_programme := fun w h => List.mem_cons_of_mem _ (List.mem_append_right _ (h))
  subst hsz
  have hD := hD0.self (sz := s.heap.size)
  generalize hAe : va_A (wMo T am mguests mclause mdeeds masked mupper mlower mfinding mreadGuests misSight mat mrowSizes mrows mtextSizes mtexts mdoes mkinds msees mnow mbefore mkeeps mkept mfindings mread maside msteps mtried mbest) s.heap.size = A at hD ⊢
  have hA : ∀ q : Nat, s.heap.size ≤ q → A q := fun q h => by rw [← hAe]; exact Or.inr h
  have hS : va_S A s.heap s.heap [] := va_S.rf
  have hP : va_P D vwCl (wMo T am mguests mclause mdeeds masked mupper mlower mfinding mreadGuests misSight mat mrowSizes mrows mtextSizes mtexts mdoes mkinds msees mnow mbefore mkeeps mkept mfindings mread maside msteps mtried mbest) s.heap := hP
  obtain ⟨ls, hl, e0⟩ := my_entry (m := m) (n := 4) ha (Nat.le_of_ble_eq_true rfl)
  rw [e0]
  have hl : lv_has ls 4 [(0, .ref (am 0)), (1, .int x1)] := hl
  have key : ∀ Q : State → Prop, (∀ (H : Heap) (locs : List Loc) (pc : Nat) (ls : Array Slot), va_P D vwCl (wMo T am mguests mclause mdeeds masked mupper mlower zmfinding mreadGuests misSight mat mrowSizes mrows mtextSizes mtexts mdoes mkinds msees mnow mbefore mkeeps mkept zmfindings mread maside msteps mtried mbest) H → va_D A (wMo T am mguests mclause mdeeds masked mupper mlower zmfinding mreadGuests misSight mat mrowSizes mrows mtextSizes mtexts mdoes mkinds msees mnow mbefore mkeeps mkept zmfindings mread maside msteps mtried mbest) → va_S A s.heap H locs → decode cX6_programme pc = .ok (.ireturn, 1) → W p l e ({ frames := 2, cells := 0, slots := 0, locals := 45 } : Room) s m args below meth c H locs 0 0 Q (F0 m pc ls [.int r])) → W p l e ({ frames := 2, cells := 0, slots := 0, locals := 45 } : Room) s m args below meth c s.heap [] 0 0 Q (F0 m 0 ls []) := by
    intro Q hret
    skip
    have l36 : ∀ x1 : Int32, ∀ mfinding : Int32, ∀ mfindings : Nat → Int32, ∀ nu : Nat, ∀ x2 : Int32, ∀ x3 : Int32, fX6_programme_l36 F mrowSizes mrows x1 mfinding mfindings nu x2 x3 = some (r, zmfinding, zmfindings) → ∀ (H : Heap) (locs : List Loc), va_P D vwCl (wMo T am mguests mclause mdeeds masked mupper mlower mfinding mreadGuests misSight mat mrowSizes mrows mtextSizes mtexts mdoes mkinds msees mnow mbefore mkeeps mkept mfindings mread maside msteps mtried mbest) H → va_D A (wMo T am mguests mclause mdeeds masked mupper mlower mfinding mreadGuests misSight mat mrowSizes mrows mtextSizes mtexts mdoes mkinds msees mnow mbefore mkeeps mkept mfindings mread maside msteps mtried mbest) → va_S A s.heap H locs → ∀ (ls : Array Slot), lv_has ls 4 [(0, .ref (am 0)), (1, .int x1), (2, .int x2), (3, .int x3)] → W p l e ({ frames := 2, cells := 0, slots := 0, locals := 45 } : Room) s m args below meth c H locs 0 0 Q (F0 m 36 ls []) := by
      intro x1 mfinding mfindings
      intro nu
      induction nu with
      | zero => intro x2 x3 h; exact none_some h
      | succ nu36 ih36 =>
        intro x2 x3 h H locs hP hD hS ls hl
        have h : fX6_programme_l36_b F mrowSizes mrows x1 mfinding mfindings (fX6_programme_l36 F mrowSizes mrows x1 mfinding mfindings nu36) x2 x3 = some (r, zmfinding, zmfindings) := h
        unfold fX6_programme_l36_b at h
        refine lv_iload_n hx hb dX6_programme_36 rfl (lv_at hl 3 rfl) ?_
        refine lv_aload_n hx hb dX6_programme_37 rfl (lv_at hl 0 rfl) ?_
        refine va_get (D := D) (ci := 4) (C := RX6) (T := TX6) (N := 27) hx hb hts iX6 hown hK hP 0 wMo_0 rfl 0 (by decide) q1 (fun _ h9 => h9) rfl dX6_programme_38 ?_
        refine lv_iload_n hx hb dX6_programme_41 rfl (lv_at hl 1 rfl) ?_
        obtain ⟨hin1, h⟩ := ck_some h
        refine va_iald hx hb hK hP 1 0 wMo_1 rfl hin1 dX6_programme_42 ?_
        refine lv_icmp_ge (tgt := 79) hx hb dX6_programme_43 (by decide) (fun c43 => ?_) (fun c43 => ?_)
        · have h := br_1 h c43
          refine lv_iload_n hx hb dX6_programme_79 rfl (lv_at hl 2 rfl) ?_
          refine lv_if_eq (tgt := 87) hx hb dX6_programme_80 (by decide) (fun c80 => ?_) (fun c80 => ?_)
          · have h := br_1 h c80
            refine lv_aload_n hx hb dX6_programme_87 rfl (lv_at hl 0 rfl) ?_
            refine lv_iconst (v := (3 : Int32)) hx hb dX6_programme_88 (by decide) ?_
            obtain ⟨r89, w89_mfinding, w89_mfindings, hc, h⟩ := bd3_some h
            have hFc := my_freeS hD hS hA
            refine my_rwi (va_runV (As := [.int (3 : Int32)]) (rest := []) hFix (kX6_found l D T F am mguests mclause mdeeds masked mupper mlower mfinding mreadGuests misSight mat mrowSizes mrows mtextSizes mtexts mdoes mkinds msees mnow mbefore mkeeps mkept mfindings mread maside msteps mtried mbest (3 : Int32) r89 w89_mfinding w89_mfindings hc) (cwV 1 hts gX6_programme_X6_found rfl rfl rfl ⟨rfl, hd_X6_found⟩ ⟨Nat.le_of_ble_eq_true rfl, Nat.le_of_ble_eq_true rfl⟩) (preV_rw hP hKK hD (va_recv hK hP (ci := 4) (q0 := 0) rfl wMo_0)) rfl rfl hl.1 rfl (lv_room (Nat.le_of_ble_eq_true rfl)) dX6_programme_89 ⟨Nat.zero_le _, Nat.zero_le _⟩) hS hFc (fun H1 locs hP1 hD1 hz1 hk1 hS => ?_)
            have hP : va_P D vwCl (wMo T am mguests mclause mdeeds masked mupper mlower w89_mfinding mreadGuests misSight mat mrowSizes mrows mtextSizes mtexts mdoes mkinds msees mnow mbefore mkeeps mkept w89_mfindings mread maside msteps mtried mbest) H1 := hP1
            have hD : va_D A (wMo T am mguests mclause mdeeds masked mupper mlower w89_mfinding mreadGuests misSight mat mrowSizes mrows mtextSizes mtexts mdoes mkinds msees mnow mbefore mkeeps mkept w89_mfindings mread maside msteps mtried mbest) := hD1.weaken (fun _ q _ h => hFc q.1 h)
            generalize H1 = H at hP hS ⊢
            cases h
            exact hret _ _ _ _ hP hD hS dX6_programme_92
          · have h := br_0 h c80
            refine lv_iconst (v := (0 : Int32)) hx hb dX6_programme_83 (by decide) ?_
            refine lv_goto (tgt := 92) hx hb dX6_programme_84 (by decide) ?_
            cases h
            exact hret _ _ _ _ hP hD hS dX6_programme_92
        · have h := br_0 h c43
          refine lv_iload_n hx hb dX6_programme_46 rfl (lv_at hl 2 rfl) ?_
          refine lv_if_eq (tgt := 71) hx hb dX6_programme_47 (by decide) (fun c47 => ?_) (fun c47 => ?_)
          · have h := br_1 h c47
            refine lv_iconst (v := (0 : Int32)) hx hb dX6_programme_71 (by decide) ?_
            refine lv_istore_n (lv' := [(2, .int (0 : Int32)), (0, .ref (am 0)), (1, .int x1), (3, .int x3)]) hx hb dX6_programme_72 rfl hl (by decide) rfl (fun ls hl => ?_)
            refine lv_iinc (v := (x3 + (1 : Int32))) (lv' := [(3, .int (x3 + (1 : Int32))), (2, .int (0 : Int32)), (0, .ref (am 0)), (1, .int x1)]) hx hb dX6_programme_73 hl (k := 3) rfl rfl (by decide) rfl (fun ls hl => ?_)
            refine lv_goto (tgt := 36) hx hb dX6_programme_76 (by decide) ?_
            exact ih36 (0 : Int32) (x3 + (1 : Int32)) h _ _ hP hD hS _ (lv_sub hl [2, 3, 1, 0] rfl)
          · have h := br_0 h c47
            refine lv_aload_n hx hb dX6_programme_50 rfl (lv_at hl 0 rfl) ?_
            refine va_get (D := D) (ci := 4) (C := RX6) (T := TX6) (N := 27) hx hb hts iX6 hown hK hP 0 wMo_0 rfl 1 (by decide) q2 (fun _ h9 => h9) rfl dX6_programme_51 ?_
            refine lv_bipush (v := (40 : Int32)) hx hb dX6_programme_54 (by decide) ?_
            refine lv_iload_n hx hb dX6_programme_56 rfl (lv_at hl 1 rfl) ?_
            refine lv_imul hx hb dX6_programme_57 ?_
            refine lv_iload_n hx hb dX6_programme_58 rfl (lv_at hl 3 rfl) ?_
            refine lv_iadd hx hb dX6_programme_59 ?_
            obtain ⟨hin2, h⟩ := ck_some h
            refine va_iald hx hb hK hP 2 0 wMo_2 rfl hin2 dX6_programme_60 ?_
            obtain ⟨r61, hc, h⟩ := bd1_some h
            refine my_roz (va_Run.run (va_runS (As := [.int (mrows (((40 : Int32) * x1) + x3).toNatClampNeg)]) (rest := []) hFix (kX6_isTune l D T F (mrows (((40 : Int32) * x1) + x3).toNatClampNeg) r61 hc) (va_cwS 1 hts gX6_programme_X6_isTune rfl rfl rfl hd_X6_isTune ⟨Nat.le_of_ble_eq_true rfl, Nat.le_of_ble_eq_true rfl⟩) (preS_ro va_nil hKK) rfl rfl hl.1 rfl (lv_room (Nat.le_of_ble_eq_true rfl)) dX6_programme_61 ⟨Nat.zero_le _, Nat.zero_le _⟩)) (fun hb61 => ?_)
            refine lv_if_eq (tgt := 71) hx hb dX6_programme_64 (by decide) (fun c64 => ?_) (fun c64 => ?_)
            · have h := br_1 h c64
              refine lv_iconst (v := (0 : Int32)) hx hb dX6_programme_71 (by decide) ?_
              refine lv_istore_n (lv' := [(2, .int (0 : Int32)), (0, .ref (am 0)), (1, .int x1), (3, .int x3)]) hx hb dX6_programme_72 rfl hl (by decide) rfl (fun ls hl => ?_)
              refine lv_iinc (v := (x3 + (1 : Int32))) (lv' := [(3, .int (x3 + (1 : Int32))), (2, .int (0 : Int32)), (0, .ref (am 0)), (1, .int x1)]) hx hb dX6_programme_73 hl (k := 3) rfl rfl (by decide) rfl (fun ls hl => ?_)
              refine lv_goto (tgt := 36) hx hb dX6_programme_76 (by decide) ?_
              exact ih36 (0 : Int32) (x3 + (1 : Int32)) h _ _ hP hD hS _ (lv_sub hl [2, 3, 1, 0] rfl)
            · have h := br_0 h c64
              refine lv_iconst (v := (1 : Int32)) hx hb dX6_programme_67 (by decide) ?_
              refine lv_goto (tgt := 72) hx hb dX6_programme_68 (by decide) ?_
              refine lv_istore_n (lv' := [(2, .int (1 : Int32)), (0, .ref (am 0)), (1, .int x1), (3, .int x3)]) hx hb dX6_programme_72 rfl hl (by decide) rfl (fun ls hl => ?_)
              refine lv_iinc (v := (x3 + (1 : Int32))) (lv' := [(3, .int (x3 + (1 : Int32))), (2, .int (1 : Int32)), (0, .ref (am 0)), (1, .int x1)]) hx hb dX6_programme_73 hl (k := 3) rfl rfl (by decide) rfl (fun ls hl => ?_)
              refine lv_goto (tgt := 36) hx hb dX6_programme_76 (by decide) ?_
              exact ih36 (1 : Int32) (x3 + (1 : Int32)) h _ _ hP hD hS _ (lv_sub hl [2, 3, 1, 0] rfl)
    unfold fX6_programme at h
    refine lv_aload_n hx hb dX6_programme_0 rfl (lv_at hl 0 rfl) ?_
    refine va_get (D := D) (ci := 4) (C := RX6) (T := TX6) (N := 27) hx hb hts iX6 hown hK hP 0 wMo_0 rfl 0 (by decide) q1 (fun _ h9 => h9) rfl dX6_programme_1 ?_
    refine lv_iload_n hx hb dX6_programme_4 rfl (lv_at hl 1 rfl) ?_
    obtain ⟨hin3, h⟩ := ck_some h
    refine va_iald hx hb hK hP 1 0 wMo_1 rfl hin3 dX6_programme_5 ?_
    refine lv_if_ge (tgt := 15) hx hb dX6_programme_6 (by decide) (fun c6 => ?_) (fun c6 => ?_)
    · have h := br_1 h c6
      refine lv_aload_n hx hb dX6_programme_15 rfl (lv_at hl 0 rfl) ?_
      refine va_get (D := D) (ci := 4) (C := RX6) (T := TX6) (N := 27) hx hb hts iX6 hown hK hP 0 wMo_0 rfl 0 (by decide) q1 (fun _ h9 => h9) rfl dX6_programme_16 ?_
      refine lv_iload_n hx hb dX6_programme_19 rfl (lv_at hl 1 rfl) ?_
      obtain ⟨hin4, h⟩ := ck_some h
      refine va_iald hx hb hK hP 1 0 wMo_1 rfl hin4 dX6_programme_20 ?_
      refine lv_bipush (v := (6 : Int32)) hx hb dX6_programme_21 (by decide) ?_
      refine lv_icmp_le (tgt := 32) hx hb dX6_programme_23 (by decide) (fun c23 => ?_) (fun c23 => ?_)
      · have h := br_1 h c23
        refine lv_iconst (v := (1 : Int32)) hx hb dX6_programme_32 (by decide) ?_
        refine lv_istore_n (lv' := [(2, .int (1 : Int32)), (0, .ref (am 0)), (1, .int x1)]) hx hb dX6_programme_33 rfl hl (by decide) rfl (fun ls hl => ?_)
        refine lv_iconst (v := (0 : Int32)) hx hb dX6_programme_34 (by decide) ?_
        refine lv_istore_n (lv' := [(3, .int (0 : Int32)), (2, .int (1 : Int32)), (0, .ref (am 0)), (1, .int x1)]) hx hb dX6_programme_35 rfl hl (by decide) rfl (fun ls hl => ?_)
        exact l36 x1 mfinding mfindings F (1 : Int32) (0 : Int32) h _ _ hP hD hS _ (lv_sub hl [2, 3, 1, 0] rfl)
      · have h := br_0 h c23
        refine lv_aload_n hx hb dX6_programme_26 rfl (lv_at hl 0 rfl) ?_
        refine lv_iconst (v := (5 : Int32)) hx hb dX6_programme_27 (by decide) ?_
        obtain ⟨r28, w28_mfinding, w28_mfindings, hc, h⟩ := bd3_some h
        have hFc := my_freeS hD hS hA
        refine my_rwi (va_runV (As := [.int (5 : Int32)]) (rest := []) hFix (kX6_found l D T F am mguests mclause mdeeds masked mupper mlower mfinding mreadGuests misSight mat mrowSizes mrows mtextSizes mtexts mdoes mkinds msees mnow mbefore mkeeps mkept mfindings mread maside msteps mtried mbest (5 : Int32) r28 w28_mfinding w28_mfindings hc) (cwV 1 hts gX6_programme_X6_found rfl rfl rfl ⟨rfl, hd_X6_found⟩ ⟨Nat.le_of_ble_eq_true rfl, Nat.le_of_ble_eq_true rfl⟩) (preV_rw hP hKK hD (va_recv hK hP (ci := 4) (q0 := 0) rfl wMo_0)) rfl rfl hl.1 rfl (lv_room (Nat.le_of_ble_eq_true rfl)) dX6_programme_28 ⟨Nat.zero_le _, Nat.zero_le _⟩) hS hFc (fun H1 locs hP1 hD1 hz1 hk1 hS => ?_)
        have hP : va_P D vwCl (wMo T am mguests mclause mdeeds masked mupper mlower w28_mfinding mreadGuests misSight mat mrowSizes mrows mtextSizes mtexts mdoes mkinds msees mnow mbefore mkeeps mkept w28_mfindings mread maside msteps mtried mbest) H1 := hP1
        have hD : va_D A (wMo T am mguests mclause mdeeds masked mupper mlower w28_mfinding mreadGuests misSight mat mrowSizes mrows mtextSizes mtexts mdoes mkinds msees mnow mbefore mkeeps mkept w28_mfindings mread maside msteps mtried mbest) := hD1.weaken (fun _ q _ h => hFc q.1 h)
        generalize H1 = H at hP hS ⊢
        cases h
        exact hret _ _ _ _ hP hD hS dX6_programme_31
    · have h := br_0 h c6
      refine lv_aload_n hx hb dX6_programme_9 rfl (lv_at hl 0 rfl) ?_
      refine lv_iconst (v := (1 : Int32)) hx hb dX6_programme_10 (by decide) ?_
      obtain ⟨r11, w11_mfinding, w11_mfindings, hc, h⟩ := bd3_some h
      have hFc := my_freeS hD hS hA
      refine my_rwi (va_runV (As := [.int (1 : Int32)]) (rest := []) hFix (kX6_found l D T F am mguests mclause mdeeds masked mupper mlower mfinding mreadGuests misSight mat mrowSizes mrows mtextSizes mtexts mdoes mkinds msees mnow mbefore mkeeps mkept mfindings mread maside msteps mtried mbest (1 : Int32) r11 w11_mfinding w11_mfindings hc) (cwV 1 hts gX6_programme_X6_found rfl rfl rfl ⟨rfl, hd_X6_found⟩ ⟨Nat.le_of_ble_eq_true rfl, Nat.le_of_ble_eq_true rfl⟩) (preV_rw hP hKK hD (va_recv hK hP (ci := 4) (q0 := 0) rfl wMo_0)) rfl rfl hl.1 rfl (lv_room (Nat.le_of_ble_eq_true rfl)) dX6_programme_11 ⟨Nat.zero_le _, Nat.zero_le _⟩) hS hFc (fun H1 locs hP1 hD1 hz1 hk1 hS => ?_)
      have hP : va_P D vwCl (wMo T am mguests mclause mdeeds masked mupper mlower w11_mfinding mreadGuests misSight mat mrowSizes mrows mtextSizes mtexts mdoes mkinds msees mnow mbefore mkeeps mkept w11_mfindings mread maside msteps mtried mbest) H1 := hP1
      have hD : va_D A (wMo T am mguests mclause mdeeds masked mupper mlower w11_mfinding mreadGuests misSight mat mrowSizes mrows mtextSizes mtexts mdoes mkinds msees mnow mbefore mkeeps mkept w11_mfindings mread maside msteps mtried mbest) := hD1.weaken (fun _ q _ h => hFc q.1 h)
      generalize H1 = H at hP hS ⊢
      cases h
      exact hret _ _ _ _ hP hD hS dX6_programme_14
  exact key _ (fun H locs pc ls hP hD hS hd => W.iret hx hb hr (fun t ht hW => ⟨⟨_, (), rfl, rfl, by show _ ∧ _; rw [ht]; exact ⟨hP, hD⟩⟩, hS.F ht⟩) hS.2.2 hd)
set_option maxHeartbeats 4000000 in
set_option maxRecDepth 100000 in
theorem kX6_falls (l : Launch) (D : va_G) (T : Nat → ClassId) (F : Nat) (am : Nat → Nat) (mguests : Int32) (mclause : Int32) (mdeeds : Int32) (masked : Int32) (mupper : Int64) (mlower : Int64) (mfinding : Int32) (mreadGuests : Int32) (misSight : Int32) (mat : Int32) (mrowSizes : Nat → Int32) (mrows : Nat → Int32) (mtextSizes : Nat → Int32) (mtexts : Nat → Int32) (mdoes : Nat → Int32) (mkinds : Nat → Int32) (msees : Nat → Int32) (mnow : Nat → Int32) (mbefore : Nat → Int32) (mkeeps : Nat → Int32) (mkept : Nat → Int32) (mfindings : Nat → Int32) (mread : Nat → Int32) (maside : Nat → Int32) (msteps : Nat → Int32) (mtried : Nat → Int32) (mbest : Nat → Int32) (x1 : Int32) (r : Int32) (zmasked : Int32) (zmfinding : Int32) (zmfindings : Nat → Int32) (zmaside : Nat → Int32) (h : fX6_falls F mguests mclause masked mfinding mrowSizes mrows mdoes mkinds msees mnow mfindings maside x1 = some (r, zmasked, zmfinding, zmfindings, zmaside)) : ∀ sz : Nat, Met l yX6_falls wsX6_falls ({ frames := 4, cells := 0, slots := 0, locals := 93 } : Room) (va_Pc [.ref (am 0), .int x1] (fun U => U.heap.size = sz ∧ va_P D vwCl (wMo T am mguests mclause mdeeds masked mupper mlower mfinding mreadGuests misSight mat mrowSizes mrows mtextSizes mtexts mdoes mkinds msees mnow mbefore mkeeps mkept mfindings mread maside msteps mtried mbest) U.heap ∧ KK D T U ∧ va_D (fun _ => True) (wMo T am mguests mclause mdeeds masked mupper mlower mfinding mreadGuests misSight mat mrowSizes mrows mtextSizes mtexts mdoes mkinds msees mnow mbefore mkeeps mkept mfindings mread maside msteps mtried mbest))) (va_Qi (fun r' (_ : Unit) => r' = r) (fun _ t => va_P D vwCl (wMo T am mguests mclause mdeeds zmasked mupper mlower zmfinding mreadGuests misSight mat mrowSizes mrows mtextSizes mtexts mdoes mkinds msees mnow mbefore mkeeps mkept zmfindings mread zmaside msteps mtried mbest) t.heap ∧ va_D (va_A (wMo T am mguests mclause mdeeds masked mupper mlower mfinding mreadGuests misSight mat mrowSizes mrows mtextSizes mtexts mdoes mkinds msees mnow mbefore mkeeps mkept mfindings mread maside msteps mtried mbest) sz) (wMo T am mguests mclause mdeeds zmasked mupper mlower zmfinding mreadGuests misSight mat mrowSizes mrows mtextSizes mtexts mdoes mkinds msees mnow mbefore mkeeps mkept zmfindings mread zmaside msteps mtried mbest)) (va_A (wMo T am mguests mclause mdeeds masked mupper mlower mfinding mreadGuests misSight mat mrowSizes mrows mtextSizes mtexts mdoes mkinds msees mnow mbefore mkeeps mkept mfindings mread maside msteps mtried mbest) sz)) 0 0 (va_A (wMo T am mguests mclause mdeeds masked mupper mlower mfinding mreadGuests misSight mat mrowSizes mrows mtextSizes mtexts mdoes mkinds msees mnow mbefore mkeeps mkept mfindings mread maside msteps mtried mbest) sz) := by
  intro sz
  refine Met.ofW (cc := cX6_falls) (maxL := 5) (ret := some .int) (by decide) rfl ?_
  intro p e s m args below meth c s₁ B hml hv
  obtain ⟨ha, hsz, hP, hKK, hD0⟩ := hv
  have hx := B.exec
  have hb := B.bytes
  have hr := B.returns
  have hts := atoms_spec (ws := wsX6_falls) B.pre
  have hown : s.vm.findClass RX6 = some m.cls := findClass_of_methodNamed B.named
  have hlocks := B.notSynchronized
  have hK := hKK.1
  have hFix : CallFix p m c cX6_falls 5 s args wsX6_falls RX6 := ⟨hx, hb, hml, hown, hts⟩
  have q1 := hts _ (List.mem_of_getElem? (i := 1) (show wsX6_falls[1]? = some (Cond.fieldLink RX6 7 "PartyWillModel" "rowSizes" "[I") from rfl))
  have q2 := hts _ (List.mem_of_getElem? (i := 2) (show wsX6_falls[2]? = some (Cond.fieldLink RX6 54 "PartyWillModel" "aside" "[I") from rfl))
  have q3 := hts _ (List.mem_of_getElem? (i := 3) (show wsX6_falls[3]? = some (Cond.fieldLink RX6 13 "PartyWillModel" "rows" "[I") from rfl))
  have iX6 : ∀ w ∈ u_ws RX6 TX6 27, w ∈ wsX6_falls := fun w h => List.mem_cons_of_mem _ (List.mem_append_right _ (h))
  subst hsz
  have hD := hD0.self (sz := s.heap.size)
  generalize hAe : va_A (wMo T am mguests mclause mdeeds masked mupper mlower mfinding mreadGuests misSight mat mrowSizes mrows mtextSizes mtexts mdoes mkinds msees mnow mbefore mkeeps mkept mfindings mread maside msteps mtried mbest) s.heap.size = A at hD ⊢
  have hA : ∀ q : Nat, s.heap.size ≤ q → A q := fun q h => by rw [← hAe]; exact Or.inr h
  have hS : va_S A s.heap s.heap [] := va_S.rf
  have hP : va_P D vwCl (wMo T am mguests mclause mdeeds masked mupper mlower mfinding mreadGuests misSight mat mrowSizes mrows mtextSizes mtexts mdoes mkinds msees mnow mbefore mkeeps mkept mfindings mread maside msteps mtried mbest) s.heap := hP
  obtain ⟨ls, hl, e0⟩ := my_entry (m := m) (n := 5) ha (Nat.le_of_ble_eq_true rfl)
  rw [e0]
  have hl : lv_has ls 5 [(0, .ref (am 0)), (1, .int x1)] := hl
  have key : ∀ Q : State → Prop, (∀ (H : Heap) (locs : List Loc) (pc : Nat) (ls : Array Slot), va_P D vwCl (wMo T am mguests mclause mdeeds zmasked mupper mlower zmfinding mreadGuests misSight mat mrowSizes mrows mtextSizes mtexts mdoes mkinds msees mnow mbefore mkeeps mkept zmfindings mread zmaside msteps mtried mbest) H → va_D A (wMo T am mguests mclause mdeeds zmasked mupper mlower zmfinding mreadGuests misSight mat mrowSizes mrows mtextSizes mtexts mdoes mkinds msees mnow mbefore mkeeps mkept zmfindings mread zmaside msteps mtried mbest) → va_S A s.heap H locs → decode cX6_falls pc = .ok (.ireturn, 1) → W p l e ({ frames := 4, cells := 0, slots := 0, locals := 93 } : Room) s m args below meth c H locs 0 0 Q (F0 m pc ls [.int r])) → W p l e ({ frames := 4, cells := 0, slots := 0, locals := 93 } : Room) s m args below meth c s.heap [] 0 0 Q (F0 m 0 ls []) := by
    intro Q hret
    skip
    have l29 : ∀ x1 : Int32, ∀ masked : Int32, ∀ mfinding : Int32, ∀ mfindings : Nat → Int32, ∀ nu : Nat, ∀ x3 : Int32, ∀ maside : Nat → Int32, fX6_falls_l29 F mguests mclause mrowSizes mrows mdoes mkinds msees mnow x1 masked mfinding mfindings nu x3 maside = some (r, zmasked, zmfinding, zmfindings, zmaside) → ∀ (H : Heap) (locs : List Loc), va_P D vwCl (wMo T am mguests mclause mdeeds masked mupper mlower mfinding mreadGuests misSight mat mrowSizes mrows mtextSizes mtexts mdoes mkinds msees mnow mbefore mkeeps mkept mfindings mread maside msteps mtried mbest) H → va_D A (wMo T am mguests mclause mdeeds masked mupper mlower mfinding mreadGuests misSight mat mrowSizes mrows mtextSizes mtexts mdoes mkinds msees mnow mbefore mkeeps mkept mfindings mread maside msteps mtried mbest) → va_S A s.heap H locs → ∀ (ls : Array Slot), lv_has ls 5 [(0, .ref (am 0)), (1, .int x1), (3, .int x3)] → W p l e ({ frames := 4, cells := 0, slots := 0, locals := 93 } : Room) s m args below meth c H locs 0 0 Q (F0 m 29 ls []) := by
      intro x1 masked mfinding mfindings
      intro nu
      induction nu with
      | zero => intro x3 maside h; exact none_some h
      | succ nu29 ih29 =>
        intro x3 maside h H locs hP hD hS ls hl
        have h : fX6_falls_l29_b F mguests mclause mrowSizes mrows mdoes mkinds msees mnow x1 masked mfinding mfindings (fX6_falls_l29 F mguests mclause mrowSizes mrows mdoes mkinds msees mnow x1 masked mfinding mfindings nu29) x3 maside = some (r, zmasked, zmfinding, zmfindings, zmaside) := h
        unfold fX6_falls_l29_b at h
        refine lv_iload_n hx hb dX6_falls_29 rfl (lv_at hl 2 rfl) ?_
        refine lv_aload_n hx hb dX6_falls_30 rfl (lv_at hl 0 rfl) ?_
        refine va_get (D := D) (ci := 4) (C := RX6) (T := TX6) (N := 27) hx hb hts iX6 hown hK hP 0 wMo_0 rfl 0 (by decide) q1 (fun _ h9 => h9) rfl dX6_falls_31 ?_
        refine lv_iload_n hx hb dX6_falls_34 rfl (lv_at hl 1 rfl) ?_
        obtain ⟨hin1, h⟩ := ck_some h
        refine va_iald hx hb hK hP 1 0 wMo_1 rfl hin1 dX6_falls_35 ?_
        refine lv_icmp_ge (tgt := 79) hx hb dX6_falls_36 (by decide) (fun c36 => ?_) (fun c36 => ?_)
        · have h := br_1 h c36
          refine lv_aload_n hx hb dX6_falls_79 rfl (lv_at hl 0 rfl) ?_
          refine lv_bipush (v := (-9 : Int32)) hx hb dX6_falls_80 (by decide) ?_
          refine lv_iconst (v := (0 : Int32)) hx hb dX6_falls_82 (by decide) ?_
          obtain ⟨r83, w83_masked, hc, h⟩ := bd2_some h
          have hFc := my_freeS hD hS hA
          refine my_rwi (va_runV (As := [.int (-9 : Int32), .int (0 : Int32)]) (rest := []) hFix (kX6_answer l D T F am mguests mclause mdeeds masked mupper mlower mfinding mreadGuests misSight mat mrowSizes mrows mtextSizes mtexts mdoes mkinds msees mnow mbefore mkeeps mkept mfindings mread maside msteps mtried mbest (-9 : Int32) (0 : Int32) r83 w83_masked hc) (cwV 2 hts gX6_falls_X6_answer rfl rfl rfl ⟨rfl, hd_X6_answer⟩ ⟨Nat.le_of_ble_eq_true rfl, Nat.le_of_ble_eq_true rfl⟩) (preV_rw hP hKK hD (va_recv hK hP (ci := 4) (q0 := 0) rfl wMo_0)) rfl rfl hl.1 rfl (lv_room (Nat.le_of_ble_eq_true rfl)) dX6_falls_83 ⟨Nat.zero_le _, Nat.zero_le _⟩) hS hFc (fun H1 locs hP1 hD1 hz1 hk1 hS => ?_)
          have hP : va_P D vwCl (wMo T am mguests mclause mdeeds w83_masked mupper mlower mfinding mreadGuests misSight mat mrowSizes mrows mtextSizes mtexts mdoes mkinds msees mnow mbefore mkeeps mkept mfindings mread maside msteps mtried mbest) H1 := hP1
          have hD : va_D A (wMo T am mguests mclause mdeeds w83_masked mupper mlower mfinding mreadGuests misSight mat mrowSizes mrows mtextSizes mtexts mdoes mkinds msees mnow mbefore mkeeps mkept mfindings mread maside msteps mtried mbest) := hD1.weaken (fun _ q _ h => hFc q.1 h)
          generalize H1 = H at hP hS ⊢
          cases h
          exact hret _ _ _ _ hP hD hS dX6_falls_86
        · have h := br_0 h c36
          refine lv_aload_n hx hb dX6_falls_39 rfl (lv_at hl 0 rfl) ?_
          refine lv_aload_n hx hb dX6_falls_40 rfl (lv_at hl 0 rfl) ?_
          refine va_get (D := D) (ci := 4) (C := RX6) (T := TX6) (N := 27) hx hb hts iX6 hown hK hP 0 wMo_0 rfl 23 (by decide) q2 (fun _ h9 => h9) rfl dX6_falls_41 ?_
          refine lv_aload_n hx hb dX6_falls_44 rfl (lv_at hl 0 rfl) ?_
          refine va_get (D := D) (ci := 4) (C := RX6) (T := TX6) (N := 27) hx hb hts iX6 hown hK hP 0 wMo_0 rfl 1 (by decide) q3 (fun _ h9 => h9) rfl dX6_falls_45 ?_
          refine lv_bipush (v := (40 : Int32)) hx hb dX6_falls_48 (by decide) ?_
          refine lv_iload_n hx hb dX6_falls_50 rfl (lv_at hl 1 rfl) ?_
          refine lv_imul hx hb dX6_falls_51 ?_
          refine lv_iload_n hx hb dX6_falls_52 rfl (lv_at hl 2 rfl) ?_
          refine lv_iadd hx hb dX6_falls_53 ?_
          obtain ⟨hin2, h⟩ := ck_some h
          refine va_iald hx hb hK hP 2 0 wMo_2 rfl hin2 dX6_falls_54 ?_
          obtain ⟨r55, w55_tt, hc, h⟩ := bd2_some h
          have hPc : va_P D vwCl (wMp T am (am 14) mguests mclause mdeeds masked mupper mlower mfinding mreadGuests misSight mat mdoes mkinds msees maside) H := my_subP sb_wMo_wMp_0_5_6_7_14 hP
          have hDc := hD.sub [0, 5, 6, 7, 14] (by decide) sb_wMo_wMp_0_5_6_7_14
          have hFc := va_free hD hS hA [0, 5, 6, 7, 14] sb_wMo_wMp_0_5_6_7_14
          refine my_rwi (va_runV (As := [.ref (am 14), .int (mrows (((40 : Int32) * x1) + x3).toNatClampNeg)]) (rest := []) hFix (kX6_plays l D T F am (am 14) mguests mclause mdeeds masked mupper mlower mfinding mreadGuests misSight mat mdoes mkinds msees maside (mrows (((40 : Int32) * x1) + x3).toNatClampNeg) r55 w55_tt hc) (cwV 2 hts gX6_falls_X6_plays rfl rfl rfl ⟨rfl, hd_X6_plays⟩ ⟨Nat.le_of_ble_eq_true rfl, Nat.le_of_ble_eq_true rfl⟩) (preV_rw hPc hKK hDc (va_recv hK hP (ci := 4) (q0 := 0) rfl wMo_0)) rfl rfl hl.1 rfl (lv_room (Nat.le_of_ble_eq_true rfl)) dX6_falls_55 ⟨Nat.zero_le _, Nat.zero_le _⟩) hS hFc (fun H1 locs hP1 hD1 hz1 hk1 hS => ?_)
          obtain ⟨hP, hD⟩ := my_joinS hP hD (by decide) sb_wMo_wMp_0_5_6_7_14 hk1 hFc hP1 hD1
          have hP : va_P D vwCl (wMo T am mguests mclause mdeeds masked mupper mlower mfinding mreadGuests misSight mat mrowSizes mrows mtextSizes mtexts mdoes mkinds msees mnow mbefore mkeeps mkept mfindings mread w55_tt msteps mtried mbest) H1 := st_wMo_wMp_0_5_6_7_14_plays ▸ hP
          have hD : va_D A (wMo T am mguests mclause mdeeds masked mupper mlower mfinding mreadGuests misSight mat mrowSizes mrows mtextSizes mtexts mdoes mkinds msees mnow mbefore mkeeps mkept mfindings mread w55_tt msteps mtried mbest) := st_wMo_wMp_0_5_6_7_14_plays ▸ hD
          generalize H1 = H at hP hS ⊢
          refine lv_istore (lv' := [(4, .int r55), (0, .ref (am 0)), (1, .int x1), (3, .int x3)]) hx hb dX6_falls_58 hl (by decide) rfl (fun ls hl => ?_)
          refine lv_iload hx hb dX6_falls_60 (lv_at hl 0 rfl) ?_
          refine lv_if_eq (tgt := 73) hx hb dX6_falls_62 (by decide) (fun c62 => ?_) (fun c62 => ?_)
          · have h := br_1 h c62
            refine lv_iinc (v := (x3 + (1 : Int32))) (lv' := [(3, .int (x3 + (1 : Int32))), (4, .int r55), (0, .ref (am 0)), (1, .int x1)]) hx hb dX6_falls_73 hl (k := 3) rfl rfl (by decide) rfl (fun ls hl => ?_)
            refine lv_goto (tgt := 29) hx hb dX6_falls_76 (by decide) ?_
            exact ih29 (x3 + (1 : Int32)) w55_tt h _ _ hP hD hS _ (lv_sub hl [2, 3, 0] rfl)
          · have h := br_0 h c62
            refine lv_aload_n hx hb dX6_falls_65 rfl (lv_at hl 1 rfl) ?_
            refine lv_iload_n hx hb dX6_falls_66 rfl (lv_at hl 3 rfl) ?_
            refine lv_iload hx hb dX6_falls_67 (lv_at hl 0 rfl) ?_
            obtain ⟨r69, w69_masked, hc, h⟩ := bd2_some h
            have hFc := my_freeS hD hS hA
            refine my_rwi (va_runV (As := [.int x3, .int r55]) (rest := []) hFix (kX6_answer l D T F am mguests mclause mdeeds masked mupper mlower mfinding mreadGuests misSight mat mrowSizes mrows mtextSizes mtexts mdoes mkinds msees mnow mbefore mkeeps mkept mfindings mread w55_tt msteps mtried mbest x3 r55 r69 w69_masked hc) (cwV 2 hts gX6_falls_X6_answer rfl rfl rfl ⟨rfl, hd_X6_answer⟩ ⟨Nat.le_of_ble_eq_true rfl, Nat.le_of_ble_eq_true rfl⟩) (preV_rw hP hKK hD (va_recv hK hP (ci := 4) (q0 := 0) rfl wMo_0)) rfl rfl hl.1 rfl (lv_room (Nat.le_of_ble_eq_true rfl)) dX6_falls_69 ⟨Nat.zero_le _, Nat.zero_le _⟩) hS hFc (fun H1 locs hP1 hD1 hz1 hk1 hS => ?_)
            have hP : va_P D vwCl (wMo T am mguests mclause mdeeds w69_masked mupper mlower mfinding mreadGuests misSight mat mrowSizes mrows mtextSizes mtexts mdoes mkinds msees mnow mbefore mkeeps mkept mfindings mread w55_tt msteps mtried mbest) H1 := hP1
            have hD : va_D A (wMo T am mguests mclause mdeeds w69_masked mupper mlower mfinding mreadGuests misSight mat mrowSizes mrows mtextSizes mtexts mdoes mkinds msees mnow mbefore mkeeps mkept mfindings mread w55_tt msteps mtried mbest) := hD1.weaken (fun _ q _ h => hFc q.1 h)
            generalize H1 = H at hP hS ⊢
            cases h
            exact hret _ _ _ _ hP hD hS dX6_falls_72
    have n16 : ∀ s_0 : Int32, ∀ x1 : Int32, ∀ masked : Int32, ∀ mfinding : Int32, ∀ mfindings : Nat → Int32, ∀ maside : Nat → Int32, fX6_falls_n16 F mguests mclause mrowSizes mrows mdoes mkinds msees mnow s_0 x1 masked mfinding mfindings maside = some (r, zmasked, zmfinding, zmfindings, zmaside) → ∀ (H : Heap) (locs : List Loc), va_P D vwCl (wMo T am mguests mclause mdeeds masked mupper mlower mfinding mreadGuests misSight mat mrowSizes mrows mtextSizes mtexts mdoes mkinds msees mnow mbefore mkeeps mkept mfindings mread maside msteps mtried mbest) H → va_D A (wMo T am mguests mclause mdeeds masked mupper mlower mfinding mreadGuests misSight mat mrowSizes mrows mtextSizes mtexts mdoes mkinds msees mnow mbefore mkeeps mkept mfindings mread maside msteps mtried mbest) → va_S A s.heap H locs → ∀ (ls : Array Slot), lv_has ls 5 [(0, .ref (am 0)), (1, .int x1)] → W p l e ({ frames := 4, cells := 0, slots := 0, locals := 93 } : Room) s m args below meth c H locs 0 0 Q (F0 m 16 ls [.int s_0]) := by
      intro s_0 x1 masked mfinding mfindings maside h H locs hP hD hS ls hl
      unfold fX6_falls_n16 at h
      refine lv_istore_n (lv' := [(2, .int s_0), (0, .ref (am 0)), (1, .int x1)]) hx hb dX6_falls_16 rfl hl (by decide) rfl (fun ls hl => ?_)
      refine lv_iload_n hx hb dX6_falls_17 rfl (lv_at hl 0 rfl) ?_
      refine lv_if_eq (tgt := 23) hx hb dX6_falls_18 (by decide) (fun c18 => ?_) (fun c18 => ?_)
      · have h := br_1 h c18
        refine lv_aload_n hx hb dX6_falls_23 rfl (lv_at hl 1 rfl) ?_
        obtain ⟨w24_maside, hc, h⟩ := bd1_some h
        have hFc := my_freeS hD hS hA
        refine my_rwv (va_runV (As := []) (rest := []) hFix (kX6_layAside l D T F am mguests mclause mdeeds masked mupper mlower mfinding mreadGuests misSight mat mrowSizes mrows mtextSizes mtexts mdoes mkinds msees mnow mbefore mkeeps mkept mfindings mread maside msteps mtried mbest w24_maside hc) (cwV 0 hts gX6_falls_X6_layAside rfl rfl rfl ⟨rfl, hd_X6_layAside⟩ ⟨Nat.le_of_ble_eq_true rfl, Nat.le_of_ble_eq_true rfl⟩) (preV_rw hP hKK hD (va_recv hK hP (ci := 4) (q0 := 0) rfl wMo_0)) rfl rfl hl.1 rfl (lv_room (Nat.le_of_ble_eq_true rfl)) dX6_falls_24 ⟨Nat.zero_le _, Nat.zero_le _⟩) hS hFc (fun H1 locs hP1 hD1 hz1 hk1 hS => ?_)
        have hP : va_P D vwCl (wMo T am mguests mclause mdeeds masked mupper mlower mfinding mreadGuests misSight mat mrowSizes mrows mtextSizes mtexts mdoes mkinds msees mnow mbefore mkeeps mkept mfindings mread w24_maside msteps mtried mbest) H1 := hP1
        have hD : va_D A (wMo T am mguests mclause mdeeds masked mupper mlower mfinding mreadGuests misSight mat mrowSizes mrows mtextSizes mtexts mdoes mkinds msees mnow mbefore mkeeps mkept mfindings mread w24_maside msteps mtried mbest) := hD1.weaken (fun _ q _ h => hFc q.1 h)
        generalize H1 = H at hP hS ⊢
        refine lv_iconst (v := (0 : Int32)) hx hb dX6_falls_27 (by decide) ?_
        refine lv_istore_n (lv' := [(3, .int (0 : Int32)), (2, .int s_0), (0, .ref (am 0)), (1, .int x1)]) hx hb dX6_falls_28 rfl hl (by decide) rfl (fun ls hl => ?_)
        exact l29 x1 masked mfinding mfindings F (0 : Int32) w24_maside h _ _ hP hD hS _ (lv_sub hl [2, 3, 0] rfl)
      · have h := br_0 h c18
        refine lv_iload_n hx hb dX6_falls_21 rfl (lv_at hl 0 rfl) ?_
        cases h
        exact hret _ _ _ _ hP hD hS dX6_falls_22
    unfold fX6_falls at h
    refine lv_iload_n hx hb dX6_falls_0 rfl (lv_at hl 1 rfl) ?_
    obtain ⟨r1, hc, h⟩ := bd1_some h
    refine my_roz (va_Run.run (va_runS (As := [.int x1]) (rest := []) hFix (kX6_isRow l D T F x1 r1 hc) (va_cwS 1 hts gX6_falls_X6_isRow rfl rfl rfl hd_X6_isRow ⟨Nat.le_of_ble_eq_true rfl, Nat.le_of_ble_eq_true rfl⟩) (preS_ro va_nil hKK) rfl rfl hl.1 rfl (lv_room (Nat.le_of_ble_eq_true rfl)) dX6_falls_1 ⟨Nat.zero_le _, Nat.zero_le _⟩)) (fun hb1 => ?_)
    refine lv_if_eq (tgt := 15) hx hb dX6_falls_4 (by decide) (fun c4 => ?_) (fun c4 => ?_)
    · have h := br_1 h c4
      refine lv_iconst (v := (-1 : Int32)) hx hb dX6_falls_15 (by decide) ?_
      exact n16 (-1 : Int32) x1 masked mfinding mfindings maside h _ _ hP hD hS _ (lv_sub hl [0, 1] rfl)
    · have h := br_0 h c4
      refine lv_aload_n hx hb dX6_falls_7 rfl (lv_at hl 0 rfl) ?_
      refine lv_iload_n hx hb dX6_falls_8 rfl (lv_at hl 1 rfl) ?_
      obtain ⟨r9, w9_mfinding, w9_mfindings, hc, h⟩ := bd3_some h
      have hFc := my_freeS hD hS hA
      refine my_rwi (va_runV (As := [.int x1]) (rest := []) hFix (kX6_programme l D T F am mguests mclause mdeeds masked mupper mlower mfinding mreadGuests misSight mat mrowSizes mrows mtextSizes mtexts mdoes mkinds msees mnow mbefore mkeeps mkept mfindings mread maside msteps mtried mbest x1 r9 w9_mfinding w9_mfindings hc) (cwV 1 hts gX6_falls_X6_programme rfl rfl rfl ⟨rfl, hd_X6_programme⟩ ⟨Nat.le_of_ble_eq_true rfl, Nat.le_of_ble_eq_true rfl⟩) (preV_rw hP hKK hD (va_recv hK hP (ci := 4) (q0 := 0) rfl wMo_0)) rfl rfl hl.1 rfl (lv_room (Nat.le_of_ble_eq_true rfl)) dX6_falls_9 ⟨Nat.zero_le _, Nat.zero_le _⟩) hS hFc (fun H1 locs hP1 hD1 hz1 hk1 hS => ?_)
      have hP : va_P D vwCl (wMo T am mguests mclause mdeeds masked mupper mlower w9_mfinding mreadGuests misSight mat mrowSizes mrows mtextSizes mtexts mdoes mkinds msees mnow mbefore mkeeps mkept w9_mfindings mread maside msteps mtried mbest) H1 := hP1
      have hD : va_D A (wMo T am mguests mclause mdeeds masked mupper mlower w9_mfinding mreadGuests misSight mat mrowSizes mrows mtextSizes mtexts mdoes mkinds msees mnow mbefore mkeeps mkept w9_mfindings mread maside msteps mtried mbest) := hD1.weaken (fun _ q _ h => hFc q.1 h)
      generalize H1 = H at hP hS ⊢
      refine lv_goto (tgt := 16) hx hb dX6_falls_12 (by decide) ?_
      exact n16 r9 x1 masked w9_mfinding w9_mfindings maside h _ _ hP hD hS _ (lv_sub hl [0, 1] rfl)
  exact key _ (fun H locs pc ls hP hD hS hd => W.iret hx hb hr (fun t ht hW => ⟨⟨_, (), rfl, rfl, by show _ ∧ _; rw [ht]; exact ⟨hP, hD⟩⟩, hS.F ht⟩) hS.2.2 hd)
set_option maxHeartbeats 4000000 in
set_option maxRecDepth 100000 in
theorem kX6_grief (l : Launch) (D : va_G) (T : Nat → ClassId) (F : Nat) (am : Nat → Nat) (mguests : Int32) (mclause : Int32) (mdeeds : Int32) (masked : Int32) (mupper : Int64) (mlower : Int64) (mfinding : Int32) (mreadGuests : Int32) (misSight : Int32) (mat : Int32) (mrowSizes : Nat → Int32) (mrows : Nat → Int32) (mtextSizes : Nat → Int32) (mtexts : Nat → Int32) (mdoes : Nat → Int32) (mkinds : Nat → Int32) (msees : Nat → Int32) (mnow : Nat → Int32) (mbefore : Nat → Int32) (mkeeps : Nat → Int32) (mkept : Nat → Int32) (mfindings : Nat → Int32) (mread : Nat → Int32) (maside : Nat → Int32) (msteps : Nat → Int32) (mtried : Nat → Int32) (mbest : Nat → Int32) (x1 : Int32) (x2 : Int32) (r : Int32) (zmfinding : Int32) (zmfindings : Nat → Int32) (zmaside : Nat → Int32) (h : fX6_grief F mguests mclause mfinding mrowSizes mrows mdoes mkinds msees mnow mfindings maside x1 x2 = some (r, zmfinding, zmfindings, zmaside)) : ∀ sz : Nat, Met l yX6_grief wsX6_grief ({ frames := 4, cells := 0, slots := 0, locals := 93 } : Room) (va_Pc [.ref (am 0), .int x1, .int x2] (fun U => U.heap.size = sz ∧ va_P D vwCl (wMo T am mguests mclause mdeeds masked mupper mlower mfinding mreadGuests misSight mat mrowSizes mrows mtextSizes mtexts mdoes mkinds msees mnow mbefore mkeeps mkept mfindings mread maside msteps mtried mbest) U.heap ∧ KK D T U ∧ va_D (fun _ => True) (wMo T am mguests mclause mdeeds masked mupper mlower mfinding mreadGuests misSight mat mrowSizes mrows mtextSizes mtexts mdoes mkinds msees mnow mbefore mkeeps mkept mfindings mread maside msteps mtried mbest))) (va_Qi (fun r' (_ : Unit) => r' = r) (fun _ t => va_P D vwCl (wMo T am mguests mclause mdeeds masked mupper mlower zmfinding mreadGuests misSight mat mrowSizes mrows mtextSizes mtexts mdoes mkinds msees mnow mbefore mkeeps mkept zmfindings mread zmaside msteps mtried mbest) t.heap ∧ va_D (va_A (wMo T am mguests mclause mdeeds masked mupper mlower mfinding mreadGuests misSight mat mrowSizes mrows mtextSizes mtexts mdoes mkinds msees mnow mbefore mkeeps mkept mfindings mread maside msteps mtried mbest) sz) (wMo T am mguests mclause mdeeds masked mupper mlower zmfinding mreadGuests misSight mat mrowSizes mrows mtextSizes mtexts mdoes mkinds msees mnow mbefore mkeeps mkept zmfindings mread zmaside msteps mtried mbest)) (va_A (wMo T am mguests mclause mdeeds masked mupper mlower mfinding mreadGuests misSight mat mrowSizes mrows mtextSizes mtexts mdoes mkinds msees mnow mbefore mkeeps mkept mfindings mread maside msteps mtried mbest) sz)) 0 0 (va_A (wMo T am mguests mclause mdeeds masked mupper mlower mfinding mreadGuests misSight mat mrowSizes mrows mtextSizes mtexts mdoes mkinds msees mnow mbefore mkeeps mkept mfindings mread maside msteps mtried mbest) sz) := by
  intro sz
  refine Met.ofW (cc := cX6_grief) (maxL := 6) (ret := some .int) (by decide) rfl ?_
  intro p e s m args below meth c s₁ B hml hv
  obtain ⟨ha, hsz, hP, hKK, hD0⟩ := hv
  have hx := B.exec
  have hb := B.bytes
  have hr := B.returns
  have hts := atoms_spec (ws := wsX6_grief) B.pre
  have hown : s.vm.findClass RX6 = some m.cls := findClass_of_methodNamed B.named
  have hlocks := B.notSynchronized
  have hK := hKK.1
  have hFix : CallFix p m c cX6_grief 6 s args wsX6_grief RX6 := ⟨hx, hb, hml, hown, hts⟩
  have q1 := hts _ (List.mem_of_getElem? (i := 1) (show wsX6_grief[1]? = some (Cond.fieldLink RX6 7 "PartyWillModel" "rowSizes" "[I") from rfl))
  have q2 := hts _ (List.mem_of_getElem? (i := 2) (show wsX6_grief[2]? = some (Cond.fieldLink RX6 54 "PartyWillModel" "aside" "[I") from rfl))
  have q3 := hts _ (List.mem_of_getElem? (i := 3) (show wsX6_grief[3]? = some (Cond.fieldLink RX6 13 "PartyWillModel" "rows" "[I") from rfl))
  have iX6 : ∀ w ∈ u_ws RX6 TX6 27, w ∈ wsX6_grief := fun w h => List.mem_cons_of_mem _ (List.mem_append_right _ (h))
  subst hsz
  have hD := hD0.self (sz := s.heap.size)
  generalize hAe : va_A (wMo T am mguests mclause mdeeds masked mupper mlower mfinding mreadGuests misSight mat mrowSizes mrows mtextSizes mtexts mdoes mkinds msees mnow mbefore mkeeps mkept mfindings mread maside msteps mtried mbest) s.heap.size = A at hD ⊢
  have hA : ∀ q : Nat, s.heap.size ≤ q → A q := fun q h => by rw [← hAe]; exact Or.inr h
  have hS : va_S A s.heap s.heap [] := va_S.rf
  have hP : va_P D vwCl (wMo T am mguests mclause mdeeds masked mupper mlower mfinding mreadGuests misSight mat mrowSizes mrows mtextSizes mtexts mdoes mkinds msees mnow mbefore mkeeps mkept mfindings mread maside msteps mtried mbest) s.heap := hP
  obtain ⟨ls, hl, e0⟩ := my_entry (m := m) (n := 6) ha (Nat.le_of_ble_eq_true rfl)
  rw [e0]
  have hl : lv_has ls 6 [(0, .ref (am 0)), (1, .int x1), (2, .int x2)] := hl
  have key : ∀ Q : State → Prop, (∀ (H : Heap) (locs : List Loc) (pc : Nat) (ls : Array Slot), va_P D vwCl (wMo T am mguests mclause mdeeds masked mupper mlower zmfinding mreadGuests misSight mat mrowSizes mrows mtextSizes mtexts mdoes mkinds msees mnow mbefore mkeeps mkept zmfindings mread zmaside msteps mtried mbest) H → va_D A (wMo T am mguests mclause mdeeds masked mupper mlower zmfinding mreadGuests misSight mat mrowSizes mrows mtextSizes mtexts mdoes mkinds msees mnow mbefore mkeeps mkept zmfindings mread zmaside msteps mtried mbest) → va_S A s.heap H locs → decode cX6_grief pc = .ok (.ireturn, 1) → W p l e ({ frames := 4, cells := 0, slots := 0, locals := 93 } : Room) s m args below meth c H locs 0 0 Q (F0 m pc ls [.int r])) → W p l e ({ frames := 4, cells := 0, slots := 0, locals := 93 } : Room) s m args below meth c s.heap [] 0 0 Q (F0 m 0 ls []) := by
    intro Q hret
    skip
    have l38 : ∀ x1 : Int32, ∀ x2 : Int32, ∀ mfinding : Int32, ∀ mfindings : Nat → Int32, ∀ nu : Nat, ∀ x4 : Int32, ∀ maside : Nat → Int32, fX6_grief_l38 F mguests mclause mrowSizes mrows mdoes mkinds msees mnow x1 x2 mfinding mfindings nu x4 maside = some (r, zmfinding, zmfindings, zmaside) → ∀ (H : Heap) (locs : List Loc), va_P D vwCl (wMo T am mguests mclause mdeeds masked mupper mlower mfinding mreadGuests misSight mat mrowSizes mrows mtextSizes mtexts mdoes mkinds msees mnow mbefore mkeeps mkept mfindings mread maside msteps mtried mbest) H → va_D A (wMo T am mguests mclause mdeeds masked mupper mlower mfinding mreadGuests misSight mat mrowSizes mrows mtextSizes mtexts mdoes mkinds msees mnow mbefore mkeeps mkept mfindings mread maside msteps mtried mbest) → va_S A s.heap H locs → ∀ (ls : Array Slot), lv_has ls 6 [(0, .ref (am 0)), (1, .int x1), (2, .int x2), (4, .int x4)] → W p l e ({ frames := 4, cells := 0, slots := 0, locals := 93 } : Room) s m args below meth c H locs 0 0 Q (F0 m 38 ls []) := by
      intro x1 x2 mfinding mfindings
      intro nu
      induction nu with
      | zero => intro x4 maside h; exact none_some h
      | succ nu38 ih38 =>
        intro x4 maside h H locs hP hD hS ls hl
        have h : fX6_grief_l38_b F mguests mclause mrowSizes mrows mdoes mkinds msees mnow x1 x2 mfinding mfindings (fX6_grief_l38 F mguests mclause mrowSizes mrows mdoes mkinds msees mnow x1 x2 mfinding mfindings nu38) x4 maside = some (r, zmfinding, zmfindings, zmaside) := h
        unfold fX6_grief_l38_b at h
        refine lv_iload hx hb dX6_grief_38 (lv_at hl 3 rfl) ?_
        refine lv_aload_n hx hb dX6_grief_40 rfl (lv_at hl 0 rfl) ?_
        refine va_get (D := D) (ci := 4) (C := RX6) (T := TX6) (N := 27) hx hb hts iX6 hown hK hP 0 wMo_0 rfl 0 (by decide) q1 (fun _ h9 => h9) rfl dX6_grief_41 ?_
        refine lv_iload_n hx hb dX6_grief_44 rfl (lv_at hl 2 rfl) ?_
        obtain ⟨hin1, h⟩ := ck_some h
        refine va_iald hx hb hK hP 1 0 wMo_1 rfl hin1 dX6_grief_45 ?_
        refine lv_icmp_ge (tgt := 77) hx hb dX6_grief_46 (by decide) (fun c46 => ?_) (fun c46 => ?_)
        · have h := br_1 h c46
          refine lv_aload_n hx hb dX6_grief_77 rfl (lv_at hl 0 rfl) ?_
          refine va_get (D := D) (ci := 4) (C := RX6) (T := TX6) (N := 27) hx hb hts iX6 hown hK hP 0 wMo_0 rfl 23 (by decide) q2 (fun _ h9 => h9) rfl dX6_grief_78 ?_
          refine lv_iload_n hx hb dX6_grief_81 rfl (lv_at hl 1 rfl) ?_
          obtain ⟨hin2, h⟩ := ck_some h
          refine va_iald hx hb hK hP 14 0 wMo_14 rfl hin2 dX6_grief_82 ?_
          cases h
          exact hret _ _ _ _ hP hD hS dX6_grief_83
        · have h := br_0 h c46
          refine lv_aload_n hx hb dX6_grief_49 rfl (lv_at hl 0 rfl) ?_
          refine lv_aload_n hx hb dX6_grief_50 rfl (lv_at hl 0 rfl) ?_
          refine va_get (D := D) (ci := 4) (C := RX6) (T := TX6) (N := 27) hx hb hts iX6 hown hK hP 0 wMo_0 rfl 23 (by decide) q2 (fun _ h9 => h9) rfl dX6_grief_51 ?_
          refine lv_aload_n hx hb dX6_grief_54 rfl (lv_at hl 0 rfl) ?_
          refine va_get (D := D) (ci := 4) (C := RX6) (T := TX6) (N := 27) hx hb hts iX6 hown hK hP 0 wMo_0 rfl 1 (by decide) q3 (fun _ h9 => h9) rfl dX6_grief_55 ?_
          refine lv_bipush (v := (40 : Int32)) hx hb dX6_grief_58 (by decide) ?_
          refine lv_iload_n hx hb dX6_grief_60 rfl (lv_at hl 2 rfl) ?_
          refine lv_imul hx hb dX6_grief_61 ?_
          refine lv_iload hx hb dX6_grief_62 (lv_at hl 3 rfl) ?_
          refine lv_iadd hx hb dX6_grief_64 ?_
          obtain ⟨hin3, h⟩ := ck_some h
          refine va_iald hx hb hK hP 2 0 wMo_2 rfl hin3 dX6_grief_65 ?_
          obtain ⟨r66, w66_tt, hc, h⟩ := bd2_some h
          have hPc : va_P D vwCl (wMp T am (am 14) mguests mclause mdeeds masked mupper mlower mfinding mreadGuests misSight mat mdoes mkinds msees maside) H := my_subP sb_wMo_wMp_0_5_6_7_14 hP
          have hDc := hD.sub [0, 5, 6, 7, 14] (by decide) sb_wMo_wMp_0_5_6_7_14
          have hFc := va_free hD hS hA [0, 5, 6, 7, 14] sb_wMo_wMp_0_5_6_7_14
          refine my_rwi (va_runV (As := [.ref (am 14), .int (mrows (((40 : Int32) * x2) + x4).toNatClampNeg)]) (rest := []) hFix (kX6_plays l D T F am (am 14) mguests mclause mdeeds masked mupper mlower mfinding mreadGuests misSight mat mdoes mkinds msees maside (mrows (((40 : Int32) * x2) + x4).toNatClampNeg) r66 w66_tt hc) (cwV 2 hts gX6_grief_X6_plays rfl rfl rfl ⟨rfl, hd_X6_plays⟩ ⟨Nat.le_of_ble_eq_true rfl, Nat.le_of_ble_eq_true rfl⟩) (preV_rw hPc hKK hDc (va_recv hK hP (ci := 4) (q0 := 0) rfl wMo_0)) rfl rfl hl.1 rfl (lv_room (Nat.le_of_ble_eq_true rfl)) dX6_grief_66 ⟨Nat.zero_le _, Nat.zero_le _⟩) hS hFc (fun H1 locs hP1 hD1 hz1 hk1 hS => ?_)
          obtain ⟨hP, hD⟩ := my_joinS hP hD (by decide) sb_wMo_wMp_0_5_6_7_14 hk1 hFc hP1 hD1
          have hP : va_P D vwCl (wMo T am mguests mclause mdeeds masked mupper mlower mfinding mreadGuests misSight mat mrowSizes mrows mtextSizes mtexts mdoes mkinds msees mnow mbefore mkeeps mkept mfindings mread w66_tt msteps mtried mbest) H1 := st_wMo_wMp_0_5_6_7_14_plays ▸ hP
          have hD : va_D A (wMo T am mguests mclause mdeeds masked mupper mlower mfinding mreadGuests misSight mat mrowSizes mrows mtextSizes mtexts mdoes mkinds msees mnow mbefore mkeeps mkept mfindings mread w66_tt msteps mtried mbest) := st_wMo_wMp_0_5_6_7_14_plays ▸ hD
          generalize H1 = H at hP hS ⊢
          refine lv_istore (lv' := [(5, .int r66), (0, .ref (am 0)), (1, .int x1), (2, .int x2), (4, .int x4)]) hx hb dX6_grief_69 hl (by decide) rfl (fun ls hl => ?_)
          refine lv_iinc (v := (x4 + (1 : Int32))) (lv' := [(4, .int (x4 + (1 : Int32))), (5, .int r66), (0, .ref (am 0)), (1, .int x1), (2, .int x2)]) hx hb dX6_grief_71 hl (k := 4) rfl rfl (by decide) rfl (fun ls hl => ?_)
          refine lv_goto (tgt := 38) hx hb dX6_grief_74 (by decide) ?_
          exact ih38 (x4 + (1 : Int32)) w66_tt h _ _ hP hD hS _ (lv_sub hl [2, 3, 4, 0] rfl)
    have n24 : ∀ s_0 : Int32, ∀ x1 : Int32, ∀ x2 : Int32, ∀ mfinding : Int32, ∀ mfindings : Nat → Int32, ∀ maside : Nat → Int32, fX6_grief_n24 F mguests mclause mrowSizes mrows mdoes mkinds msees mnow s_0 x1 x2 mfinding mfindings maside = some (r, zmfinding, zmfindings, zmaside) → ∀ (H : Heap) (locs : List Loc), va_P D vwCl (wMo T am mguests mclause mdeeds masked mupper mlower mfinding mreadGuests misSight mat mrowSizes mrows mtextSizes mtexts mdoes mkinds msees mnow mbefore mkeeps mkept mfindings mread maside msteps mtried mbest) H → va_D A (wMo T am mguests mclause mdeeds masked mupper mlower mfinding mreadGuests misSight mat mrowSizes mrows mtextSizes mtexts mdoes mkinds msees mnow mbefore mkeeps mkept mfindings mread maside msteps mtried mbest) → va_S A s.heap H locs → ∀ (ls : Array Slot), lv_has ls 6 [(0, .ref (am 0)), (1, .int x1), (2, .int x2)] → W p l e ({ frames := 4, cells := 0, slots := 0, locals := 93 } : Room) s m args below meth c H locs 0 0 Q (F0 m 24 ls [.int s_0]) := by
      intro s_0 x1 x2 mfinding mfindings maside h H locs hP hD hS ls hl
      unfold fX6_grief_n24 at h
      refine lv_istore_n (lv' := [(3, .int s_0), (0, .ref (am 0)), (1, .int x1), (2, .int x2)]) hx hb dX6_grief_24 rfl hl (by decide) rfl (fun ls hl => ?_)
      refine lv_iload_n hx hb dX6_grief_25 rfl (lv_at hl 0 rfl) ?_
      refine lv_if_eq (tgt := 31) hx hb dX6_grief_26 (by decide) (fun c26 => ?_) (fun c26 => ?_)
      · have h := br_1 h c26
        refine lv_aload_n hx hb dX6_grief_31 rfl (lv_at hl 1 rfl) ?_
        obtain ⟨w32_maside, hc, h⟩ := bd1_some h
        have hFc := my_freeS hD hS hA
        refine my_rwv (va_runV (As := []) (rest := []) hFix (kX6_layAside l D T F am mguests mclause mdeeds masked mupper mlower mfinding mreadGuests misSight mat mrowSizes mrows mtextSizes mtexts mdoes mkinds msees mnow mbefore mkeeps mkept mfindings mread maside msteps mtried mbest w32_maside hc) (cwV 0 hts gX6_grief_X6_layAside rfl rfl rfl ⟨rfl, hd_X6_layAside⟩ ⟨Nat.le_of_ble_eq_true rfl, Nat.le_of_ble_eq_true rfl⟩) (preV_rw hP hKK hD (va_recv hK hP (ci := 4) (q0 := 0) rfl wMo_0)) rfl rfl hl.1 rfl (lv_room (Nat.le_of_ble_eq_true rfl)) dX6_grief_32 ⟨Nat.zero_le _, Nat.zero_le _⟩) hS hFc (fun H1 locs hP1 hD1 hz1 hk1 hS => ?_)
        have hP : va_P D vwCl (wMo T am mguests mclause mdeeds masked mupper mlower mfinding mreadGuests misSight mat mrowSizes mrows mtextSizes mtexts mdoes mkinds msees mnow mbefore mkeeps mkept mfindings mread w32_maside msteps mtried mbest) H1 := hP1
        have hD : va_D A (wMo T am mguests mclause mdeeds masked mupper mlower mfinding mreadGuests misSight mat mrowSizes mrows mtextSizes mtexts mdoes mkinds msees mnow mbefore mkeeps mkept mfindings mread w32_maside msteps mtried mbest) := hD1.weaken (fun _ q _ h => hFc q.1 h)
        generalize H1 = H at hP hS ⊢
        refine lv_iconst (v := (0 : Int32)) hx hb dX6_grief_35 (by decide) ?_
        refine lv_istore (lv' := [(4, .int (0 : Int32)), (3, .int s_0), (0, .ref (am 0)), (1, .int x1), (2, .int x2)]) hx hb dX6_grief_36 hl (by decide) rfl (fun ls hl => ?_)
        exact l38 x1 x2 mfinding mfindings F (0 : Int32) w32_maside h _ _ hP hD hS _ (lv_sub hl [2, 3, 4, 0] rfl)
      · have h := br_0 h c26
        refine lv_iload_n hx hb dX6_grief_29 rfl (lv_at hl 0 rfl) ?_
        cases h
        exact hret _ _ _ _ hP hD hS dX6_grief_30
    unfold fX6_grief at h
    refine lv_aload_n hx hb dX6_grief_0 rfl (lv_at hl 0 rfl) ?_
    refine lv_iload_n hx hb dX6_grief_1 rfl (lv_at hl 1 rfl) ?_
    obtain ⟨r2, hc, h⟩ := bd1_some h
    refine my_roz (va_Run.run (va_runV (As := [.int x1]) (rest := []) hFix (kX6_isGuest l D T F am mguests mclause mdeeds masked mupper mlower mfinding mreadGuests misSight mat mrowSizes mrows mtextSizes mtexts mdoes mkinds msees mnow mbefore mkeeps mkept mfindings mread maside msteps mtried mbest x1 r2 hc) (cwV 1 hts gX6_grief_X6_isGuest rfl rfl rfl ⟨rfl, hd_X6_isGuest⟩ ⟨Nat.le_of_ble_eq_true rfl, Nat.le_of_ble_eq_true rfl⟩) (preV_ro hP hKK (va_recv hK hP (ci := 4) (q0 := 0) rfl wMo_0)) rfl rfl hl.1 rfl (lv_room (Nat.le_of_ble_eq_true rfl)) dX6_grief_2 ⟨Nat.zero_le _, Nat.zero_le _⟩)) (fun hb2 => ?_)
    refine lv_if_eq (tgt := 23) hx hb dX6_grief_5 (by decide) (fun c5 => ?_) (fun c5 => ?_)
    · have h := br_1 h c5
      refine lv_iconst (v := (-1 : Int32)) hx hb dX6_grief_23 (by decide) ?_
      exact n24 (-1 : Int32) x1 x2 mfinding mfindings maside h _ _ hP hD hS _ (lv_sub hl [0, 1, 2] rfl)
    · have h := br_0 h c5
      refine lv_iload_n hx hb dX6_grief_8 rfl (lv_at hl 2 rfl) ?_
      obtain ⟨r9, hc, h⟩ := bd1_some h
      refine my_roz (va_Run.run (va_runS (As := [.int x2]) (rest := []) hFix (kX6_isRow l D T F x2 r9 hc) (va_cwS 1 hts gX6_grief_X6_isRow rfl rfl rfl hd_X6_isRow ⟨Nat.le_of_ble_eq_true rfl, Nat.le_of_ble_eq_true rfl⟩) (preS_ro va_nil hKK) rfl rfl hl.1 rfl (lv_room (Nat.le_of_ble_eq_true rfl)) dX6_grief_9 ⟨Nat.zero_le _, Nat.zero_le _⟩)) (fun hb9 => ?_)
      refine lv_if_eq (tgt := 23) hx hb dX6_grief_12 (by decide) (fun c12 => ?_) (fun c12 => ?_)
      · have h := br_1 h c12
        refine lv_iconst (v := (-1 : Int32)) hx hb dX6_grief_23 (by decide) ?_
        exact n24 (-1 : Int32) x1 x2 mfinding mfindings maside h _ _ hP hD hS _ (lv_sub hl [0, 1, 2] rfl)
      · have h := br_0 h c12
        refine lv_aload_n hx hb dX6_grief_15 rfl (lv_at hl 0 rfl) ?_
        refine lv_iload_n hx hb dX6_grief_16 rfl (lv_at hl 2 rfl) ?_
        obtain ⟨r17, w17_mfinding, w17_mfindings, hc, h⟩ := bd3_some h
        have hFc := my_freeS hD hS hA
        refine my_rwi (va_runV (As := [.int x2]) (rest := []) hFix (kX6_programme l D T F am mguests mclause mdeeds masked mupper mlower mfinding mreadGuests misSight mat mrowSizes mrows mtextSizes mtexts mdoes mkinds msees mnow mbefore mkeeps mkept mfindings mread maside msteps mtried mbest x2 r17 w17_mfinding w17_mfindings hc) (cwV 1 hts gX6_grief_X6_programme rfl rfl rfl ⟨rfl, hd_X6_programme⟩ ⟨Nat.le_of_ble_eq_true rfl, Nat.le_of_ble_eq_true rfl⟩) (preV_rw hP hKK hD (va_recv hK hP (ci := 4) (q0 := 0) rfl wMo_0)) rfl rfl hl.1 rfl (lv_room (Nat.le_of_ble_eq_true rfl)) dX6_grief_17 ⟨Nat.zero_le _, Nat.zero_le _⟩) hS hFc (fun H1 locs hP1 hD1 hz1 hk1 hS => ?_)
        have hP : va_P D vwCl (wMo T am mguests mclause mdeeds masked mupper mlower w17_mfinding mreadGuests misSight mat mrowSizes mrows mtextSizes mtexts mdoes mkinds msees mnow mbefore mkeeps mkept w17_mfindings mread maside msteps mtried mbest) H1 := hP1
        have hD : va_D A (wMo T am mguests mclause mdeeds masked mupper mlower w17_mfinding mreadGuests misSight mat mrowSizes mrows mtextSizes mtexts mdoes mkinds msees mnow mbefore mkeeps mkept w17_mfindings mread maside msteps mtried mbest) := hD1.weaken (fun _ q _ h => hFc q.1 h)
        generalize H1 = H at hP hS ⊢
        refine lv_goto (tgt := 24) hx hb dX6_grief_20 (by decide) ?_
        exact n24 r17 x1 x2 w17_mfinding w17_mfindings maside h _ _ hP hD hS _ (lv_sub hl [0, 1, 2] rfl)
  exact key _ (fun H locs pc ls hP hD hS hd => W.iret hx hb hr (fun t ht hW => ⟨⟨_, (), rfl, rfl, by show _ ∧ _; rw [ht]; exact ⟨hP, hD⟩⟩, hS.F ht⟩) hS.2.2 hd)
set_option maxHeartbeats 4000000 in
set_option maxRecDepth 100000 in
theorem kX6_codes (l : Launch) (D : va_G) (T : Nat → ClassId) (F : Nat) (x0 : Int32) (r : Int32) (h : fX6_codes F x0 = some (r)) : Met l yX6_codes wsX6_codes ({ frames := 0, cells := 0, slots := 0, locals := 0 } : Room) (va_Pc [.int x0] (fun U => va_P D vwCl ([] : va_W) U.heap ∧ KK D T U)) (vp_Si (fun r' => r' = r)) 0 0 (fun _ => False) := by
  refine Met.ofW (cc := cX6_codes) (maxL := 1) (ret := some .int) (by decide) rfl ?_
  intro p e s m args below meth c s₁ B hml hv
  obtain ⟨ha, hP, hKK⟩ := hv
  have hx := B.exec
  have hb := B.bytes
  have hr := B.returns
  have hts := atoms_spec (ws := wsX6_codes) B.pre
  have hown : s.vm.findClass RX6 = some m.cls := findClass_of_methodNamed B.named
  have hlocks := B.notSynchronized
  have hK := hKK.1
  have hFix : CallFix p m c cX6_codes 1 s args wsX6_codes RX6 := ⟨hx, hb, hml, hown, hts⟩
  obtain ⟨ls, hl, e0⟩ := my_entry (m := m) (n := 1) ha (Nat.le_of_ble_eq_true rfl)
  rw [e0]
  have hl : lv_has ls 1 [(0, .int x0)] := hl
  have key : ∀ Q : State → Prop, (∀ (pc : Nat) (ls : Array Slot), decode cX6_codes pc = .ok (.ireturn, 1) → W p l e ({ frames := 0, cells := 0, slots := 0, locals := 0 } : Room) s m args below meth c s.heap [] 0 0 Q (F0 m pc ls [.int r])) → W p l e ({ frames := 0, cells := 0, slots := 0, locals := 0 } : Room) s m args below meth c s.heap [] 0 0 Q (F0 m 0 ls []) := by
    intro Q hret
    unfold fX6_codes at h
    refine lv_iconst (v := (1 : Int32)) hx hb dX6_codes_0 (by decide) ?_
    refine lv_iconst (v := (2 : Int32)) hx hb dX6_codes_1 (by decide) ?_
    refine lv_iload_n hx hb dX6_codes_2 rfl (lv_at hl 0 rfl) ?_
    refine lv_imul hx hb dX6_codes_3 ?_
    refine lv_ishl hx hb dX6_codes_4 ?_
    cases h
    exact hret _ _ dX6_codes_5
  exact key _ (fun pc ls hd => W.iret hx hb hr (fun t ht hW => ⟨_, rfl, rfl, ht⟩) (fun q h => by cases h) hd)
set_option maxHeartbeats 4000000 in
set_option maxRecDepth 100000 in
theorem kX6_fallen (l : Launch) (D : va_G) (T : Nat → ClassId) (F : Nat) (am : Nat → Nat) (mguests : Int32) (mclause : Int32) (mdeeds : Int32) (masked : Int32) (mupper : Int64) (mlower : Int64) (mfinding : Int32) (mreadGuests : Int32) (misSight : Int32) (mat : Int32) (mrowSizes : Nat → Int32) (mrows : Nat → Int32) (mtextSizes : Nat → Int32) (mtexts : Nat → Int32) (mdoes : Nat → Int32) (mkinds : Nat → Int32) (msees : Nat → Int32) (mnow : Nat → Int32) (mbefore : Nat → Int32) (mkeeps : Nat → Int32) (mkept : Nat → Int32) (mfindings : Nat → Int32) (mread : Nat → Int32) (maside : Nat → Int32) (msteps : Nat → Int32) (mtried : Nat → Int32) (mbest : Nat → Int32) (x1 : Int32) (x2 : Int32) (r : Int32) (zmaside : Nat → Int32) (h : fX6_fallen F mguests mclause mdoes mkinds msees mnow maside x1 x2 = some (r, zmaside)) : ∀ sz : Nat, Met l yX6_fallen wsX6_fallen ({ frames := 4, cells := 0, slots := 0, locals := 93 } : Room) (va_Pc [.ref (am 0), .int x1, .int x2] (fun U => U.heap.size = sz ∧ va_P D vwCl (wMo T am mguests mclause mdeeds masked mupper mlower mfinding mreadGuests misSight mat mrowSizes mrows mtextSizes mtexts mdoes mkinds msees mnow mbefore mkeeps mkept mfindings mread maside msteps mtried mbest) U.heap ∧ KK D T U ∧ va_D (fun _ => True) (wMo T am mguests mclause mdeeds masked mupper mlower mfinding mreadGuests misSight mat mrowSizes mrows mtextSizes mtexts mdoes mkinds msees mnow mbefore mkeeps mkept mfindings mread maside msteps mtried mbest))) (va_Qi (fun r' (_ : Unit) => r' = r) (fun _ t => va_P D vwCl (wMo T am mguests mclause mdeeds masked mupper mlower mfinding mreadGuests misSight mat mrowSizes mrows mtextSizes mtexts mdoes mkinds msees mnow mbefore mkeeps mkept mfindings mread zmaside msteps mtried mbest) t.heap ∧ va_D (va_A (wMo T am mguests mclause mdeeds masked mupper mlower mfinding mreadGuests misSight mat mrowSizes mrows mtextSizes mtexts mdoes mkinds msees mnow mbefore mkeeps mkept mfindings mread maside msteps mtried mbest) sz) (wMo T am mguests mclause mdeeds masked mupper mlower mfinding mreadGuests misSight mat mrowSizes mrows mtextSizes mtexts mdoes mkinds msees mnow mbefore mkeeps mkept mfindings mread zmaside msteps mtried mbest)) (va_A (wMo T am mguests mclause mdeeds masked mupper mlower mfinding mreadGuests misSight mat mrowSizes mrows mtextSizes mtexts mdoes mkinds msees mnow mbefore mkeeps mkept mfindings mread maside msteps mtried mbest) sz)) 0 0 (va_A (wMo T am mguests mclause mdeeds masked mupper mlower mfinding mreadGuests misSight mat mrowSizes mrows mtextSizes mtexts mdoes mkinds msees mnow mbefore mkeeps mkept mfindings mread maside msteps mtried mbest) sz) := by
  intro sz
  refine Met.ofW (cc := cX6_fallen) (maxL := 5) (ret := some .int) (by decide) rfl ?_
  intro p e s m args below meth c s₁ B hml hv
  obtain ⟨ha, hsz, hP, hKK, hD0⟩ := hv
  have hx := B.exec
  have hb := B.bytes
  have hr := B.returns
  have hts := atoms_spec (ws := wsX6_fallen) B.pre
  have hown : s.vm.findClass RX6 = some m.cls := findClass_of_methodNamed B.named
  have hlocks := B.notSynchronized
  have hK := hKK.1
  have hFix : CallFix p m c cX6_fallen 5 s args wsX6_fallen RX6 := ⟨hx, hb, hml, hown, hts⟩
  have q1 := hts _ (List.mem_of_getElem? (i := 1) (show wsX6_fallen[1]? = some (Cond.fieldLink RX6 54 "PartyWillModel" "aside" "[I") from rfl))
  have q2 := hts _ (List.mem_of_getElem? (i := 2) (show wsX6_fallen[2]? = some (Cond.fieldLink RX6 31 "PartyWillModel" "now" "[I") from rfl))
  have iX6 : ∀ w ∈ u_ws RX6 TX6 27, w ∈ wsX6_fallen := fun w h => List.mem_cons_of_mem _ (List.mem_append_right _ (h))
  subst hsz
  have hD := hD0.self (sz := s.heap.size)
  generalize hAe : va_A (wMo T am mguests mclause mdeeds masked mupper mlower mfinding mreadGuests misSight mat mrowSizes mrows mtextSizes mtexts mdoes mkinds msees mnow mbefore mkeeps mkept mfindings mread maside msteps mtried mbest) s.heap.size = A at hD ⊢
  have hA : ∀ q : Nat, s.heap.size ≤ q → A q := fun q h => by rw [← hAe]; exact Or.inr h
  have hS : va_S A s.heap s.heap [] := va_S.rf
  have hP : va_P D vwCl (wMo T am mguests mclause mdeeds masked mupper mlower mfinding mreadGuests misSight mat mrowSizes mrows mtextSizes mtexts mdoes mkinds msees mnow mbefore mkeeps mkept mfindings mread maside msteps mtried mbest) s.heap := hP
  obtain ⟨ls, hl, e0⟩ := my_entry (m := m) (n := 5) ha (Nat.le_of_ble_eq_true rfl)
  rw [e0]
  have hl : lv_has ls 5 [(0, .ref (am 0)), (1, .int x1), (2, .int x2)] := hl
  have key : ∀ Q : State → Prop, (∀ (H : Heap) (locs : List Loc) (pc : Nat) (ls : Array Slot), va_P D vwCl (wMo T am mguests mclause mdeeds masked mupper mlower mfinding mreadGuests misSight mat mrowSizes mrows mtextSizes mtexts mdoes mkinds msees mnow mbefore mkeeps mkept mfindings mread zmaside msteps mtried mbest) H → va_D A (wMo T am mguests mclause mdeeds masked mupper mlower mfinding mreadGuests misSight mat mrowSizes mrows mtextSizes mtexts mdoes mkinds msees mnow mbefore mkeeps mkept mfindings mread zmaside msteps mtried mbest) → va_S A s.heap H locs → decode cX6_fallen pc = .ok (.ireturn, 1) → W p l e ({ frames := 4, cells := 0, slots := 0, locals := 93 } : Room) s m args below meth c H locs 0 0 Q (F0 m pc ls [.int r])) → W p l e ({ frames := 4, cells := 0, slots := 0, locals := 93 } : Room) s m args below meth c s.heap [] 0 0 Q (F0 m 0 ls []) := by
    intro Q hret
    skip
    have l8 : ∀ x2 : Int32, ∀ nu : Nat, ∀ x3 : Int32, ∀ maside : Nat → Int32, fX6_fallen_l8 F mguests mclause mdoes mkinds msees mnow x2 nu x3 maside = some (r, zmaside) → ∀ (H : Heap) (locs : List Loc), va_P D vwCl (wMo T am mguests mclause mdeeds masked mupper mlower mfinding mreadGuests misSight mat mrowSizes mrows mtextSizes mtexts mdoes mkinds msees mnow mbefore mkeeps mkept mfindings mread maside msteps mtried mbest) H → va_D A (wMo T am mguests mclause mdeeds masked mupper mlower mfinding mreadGuests misSight mat mrowSizes mrows mtextSizes mtexts mdoes mkinds msees mnow mbefore mkeeps mkept mfindings mread maside msteps mtried mbest) → va_S A s.heap H locs → ∀ (ls : Array Slot), lv_has ls 5 [(0, .ref (am 0)), (2, .int x2), (3, .int x3)] → W p l e ({ frames := 4, cells := 0, slots := 0, locals := 93 } : Room) s m args below meth c H locs 0 0 Q (F0 m 8 ls []) := by
      intro x2
      intro nu
      induction nu with
      | zero => intro x3 maside h; exact none_some h
      | succ nu8 ih8 =>
        intro x3 maside h H locs hP hD hS ls hl
        have h : fX6_fallen_l8_b F mguests mclause mdoes mkinds msees mnow x2 (fX6_fallen_l8 F mguests mclause mdoes mkinds msees mnow x2 nu8) x3 maside = some (r, zmaside) := h
        unfold fX6_fallen_l8_b at h
        refine lv_iload_n hx hb dX6_fallen_8 rfl (lv_at hl 2 rfl) ?_
        refine lv_if_lt (tgt := 35) hx hb dX6_fallen_9 (by decide) (fun c9 => ?_) (fun c9 => ?_)
        · have h := br_1 h c9
          refine lv_aload_n hx hb dX6_fallen_35 rfl (lv_at hl 0 rfl) ?_
          refine va_get (D := D) (ci := 4) (C := RX6) (T := TX6) (N := 27) hx hb hts iX6 hown hK hP 0 wMo_0 rfl 23 (by decide) q1 (fun _ h9 => h9) rfl dX6_fallen_36 ?_
          refine lv_bipush (v := (6 : Int32)) hx hb dX6_fallen_39 (by decide) ?_
          refine va_iald hx hb hK hP 14 0 wMo_14 rfl (show ¬ ((6 : Int32) < 0 ∨ 7 ≤ (6 : Int32).toNatClampNeg) by decide) dX6_fallen_41 ?_
          refine lv_aload_n hx hb dX6_fallen_42 rfl (lv_at hl 0 rfl) ?_
          refine va_get (D := D) (ci := 4) (C := RX6) (T := TX6) (N := 27) hx hb hts iX6 hown hK hP 0 wMo_0 rfl 9 (by decide) q2 (fun _ h9 => h9) rfl dX6_fallen_43 ?_
          refine lv_bipush (v := (6 : Int32)) hx hb dX6_fallen_46 (by decide) ?_
          refine va_iald hx hb hK hP 8 0 wMo_8 rfl (show ¬ ((6 : Int32) < 0 ∨ 7 ≤ (6 : Int32).toNatClampNeg) by decide) dX6_fallen_48 ?_
          refine lv_iconst (v := (-1 : Int32)) hx hb dX6_fallen_49 (by decide) ?_
          refine lv_ixor hx hb dX6_fallen_50 ?_
          refine lv_iand hx hb dX6_fallen_51 ?_
          obtain ⟨r52, hc, h⟩ := bd1_some h
          refine my_roi (va_Run.run (va_runS (As := [.int ((maside (6 : Int32).toNatClampNeg) &&& ((mnow (6 : Int32).toNatClampNeg) ^^^ (-1 : Int32)))]) (rest := []) hFix (kX6_bits l D T F ((maside (6 : Int32).toNatClampNeg) &&& ((mnow (6 : Int32).toNatClampNeg) ^^^ (-1 : Int32))) r52 hc) (va_cwS 1 hts gX6_fallen_X6_bits rfl rfl rfl hd_X6_bits ⟨Nat.le_of_ble_eq_true rfl, Nat.le_of_ble_eq_true rfl⟩) (preS_ro va_nil hKK) rfl rfl hl.1 rfl (lv_room (Nat.le_of_ble_eq_true rfl)) dX6_fallen_52 ⟨Nat.zero_le _, Nat.zero_le _⟩)) ?_
          cases h
          exact hret _ _ _ _ hP hD hS dX6_fallen_55
        · have h := br_0 h c9
          refine lv_aload_n hx hb dX6_fallen_12 rfl (lv_at hl 0 rfl) ?_
          refine lv_aload_n hx hb dX6_fallen_13 rfl (lv_at hl 0 rfl) ?_
          refine va_get (D := D) (ci := 4) (C := RX6) (T := TX6) (N := 27) hx hb hts iX6 hown hK hP 0 wMo_0 rfl 23 (by decide) q1 (fun _ h9 => h9) rfl dX6_fallen_14 ?_
          refine lv_iload_n hx hb dX6_fallen_17 rfl (lv_at hl 1 rfl) ?_
          refine lv_iconst (v := (2 : Int32)) hx hb dX6_fallen_18 (by decide) ?_
          refine lv_iload_n hx hb dX6_fallen_19 rfl (lv_at hl 2 rfl) ?_
          refine lv_imul hx hb dX6_fallen_20 ?_
          refine lv_ishr hx hb dX6_fallen_21 ?_
          refine lv_iconst (v := (3 : Int32)) hx hb dX6_fallen_22 (by decide) ?_
          refine lv_iand hx hb dX6_fallen_23 ?_
          obtain ⟨r24, w24_tt, hc, h⟩ := bd2_some h
          have hPc : va_P D vwCl (wMp T am (am 14) mguests mclause mdeeds masked mupper mlower mfinding mreadGuests misSight mat mdoes mkinds msees maside) H := my_subP sb_wMo_wMp_0_5_6_7_14 hP
          have hDc := hD.sub [0, 5, 6, 7, 14] (by decide) sb_wMo_wMp_0_5_6_7_14
          have hFc := va_free hD hS hA [0, 5, 6, 7, 14] sb_wMo_wMp_0_5_6_7_14
          refine my_rwi (va_runV (As := [.ref (am 14), .int ((x2 >>> (((2 : Int32) * x3) &&& 31)) &&& (3 : Int32))]) (rest := []) hFix (kX6_plays l D T F am (am 14) mguests mclause mdeeds masked mupper mlower mfinding mreadGuests misSight mat mdoes mkinds msees maside ((x2 >>> (((2 : Int32) * x3) &&& 31)) &&& (3 : Int32)) r24 w24_tt hc) (cwV 2 hts gX6_fallen_X6_plays rfl rfl rfl ⟨rfl, hd_X6_plays⟩ ⟨Nat.le_of_ble_eq_true rfl, Nat.le_of_ble_eq_true rfl⟩) (preV_rw hPc hKK hDc (va_recv hK hP (ci := 4) (q0 := 0) rfl wMo_0)) rfl rfl hl.1 rfl (lv_room (Nat.le_of_ble_eq_true rfl)) dX6_fallen_24 ⟨Nat.zero_le _, Nat.zero_le _⟩) hS hFc (fun H1 locs hP1 hD1 hz1 hk1 hS => ?_)
          obtain ⟨hP, hD⟩ := my_joinS hP hD (by decide) sb_wMo_wMp_0_5_6_7_14 hk1 hFc hP1 hD1
          have hP : va_P D vwCl (wMo T am mguests mclause mdeeds masked mupper mlower mfinding mreadGuests misSight mat mrowSizes mrows mtextSizes mtexts mdoes mkinds msees mnow mbefore mkeeps mkept mfindings mread w24_tt msteps mtried mbest) H1 := st_wMo_wMp_0_5_6_7_14_plays ▸ hP
          have hD : va_D A (wMo T am mguests mclause mdeeds masked mupper mlower mfinding mreadGuests misSight mat mrowSizes mrows mtextSizes mtexts mdoes mkinds msees mnow mbefore mkeeps mkept mfindings mread w24_tt msteps mtried mbest) := st_wMo_wMp_0_5_6_7_14_plays ▸ hD
          generalize H1 = H at hP hS ⊢
          refine lv_istore (lv' := [(4, .int r24), (0, .ref (am 0)), (2, .int x2), (3, .int x3)]) hx hb dX6_fallen_27 hl (by decide) rfl (fun ls hl => ?_)
          refine lv_iinc (v := (x3 + (-1 : Int32))) (lv' := [(3, .int (x3 + (-1 : Int32))), (4, .int r24), (0, .ref (am 0)), (2, .int x2)]) hx hb dX6_fallen_29 hl (k := 3) rfl rfl (by decide) rfl (fun ls hl => ?_)
          refine lv_goto (tgt := 8) hx hb dX6_fallen_32 (by decide) ?_
          exact ih8 (x3 + (-1 : Int32)) w24_tt h _ _ hP hD hS _ (lv_sub hl [2, 3, 0] rfl)
    unfold fX6_fallen at h
    refine lv_aload_n hx hb dX6_fallen_0 rfl (lv_at hl 0 rfl) ?_
    obtain ⟨w1_maside, hc, h⟩ := bd1_some h
    have hFc := my_freeS hD hS hA
    refine my_rwv (va_runV (As := []) (rest := []) hFix (kX6_layAside l D T F am mguests mclause mdeeds masked mupper mlower mfinding mreadGuests misSight mat mrowSizes mrows mtextSizes mtexts mdoes mkinds msees mnow mbefore mkeeps mkept mfindings mread maside msteps mtried mbest w1_maside hc) (cwV 0 hts gX6_fallen_X6_layAside rfl rfl rfl ⟨rfl, hd_X6_layAside⟩ ⟨Nat.le_of_ble_eq_true rfl, Nat.le_of_ble_eq_true rfl⟩) (preV_rw hP hKK hD (va_recv hK hP (ci := 4) (q0 := 0) rfl wMo_0)) rfl rfl hl.1 rfl (lv_room (Nat.le_of_ble_eq_true rfl)) dX6_fallen_1 ⟨Nat.zero_le _, Nat.zero_le _⟩) hS hFc (fun H1 locs hP1 hD1 hz1 hk1 hS => ?_)
    have hP : va_P D vwCl (wMo T am mguests mclause mdeeds masked mupper mlower mfinding mreadGuests misSight mat mrowSizes mrows mtextSizes mtexts mdoes mkinds msees mnow mbefore mkeeps mkept mfindings mread w1_maside msteps mtried mbest) H1 := hP1
    have hD : va_D A (wMo T am mguests mclause mdeeds masked mupper mlower mfinding mreadGuests misSight mat mrowSizes mrows mtextSizes mtexts mdoes mkinds msees mnow mbefore mkeeps mkept mfindings mread w1_maside msteps mtried mbest) := hD1.weaken (fun _ q _ h => hFc q.1 h)
    generalize H1 = H at hP hS ⊢
    refine lv_iload_n hx hb dX6_fallen_4 rfl (lv_at hl 1 rfl) ?_
    refine lv_iconst (v := (1 : Int32)) hx hb dX6_fallen_5 (by decide) ?_
    refine lv_isub hx hb dX6_fallen_6 ?_
    refine lv_istore_n (lv' := [(3, .int (x1 - (1 : Int32))), (0, .ref (am 0)), (1, .int x1), (2, .int x2)]) hx hb dX6_fallen_7 rfl hl (by decide) rfl (fun ls hl => ?_)
    exact l8 x2 F (x1 - (1 : Int32)) w1_maside h _ _ hP hD hS _ (lv_sub hl [1, 3, 0] rfl)
  exact key _ (fun H locs pc ls hP hD hS hd => W.iret hx hb hr (fun t ht hW => ⟨⟨_, (), rfl, rfl, by show _ ∧ _; rw [ht]; exact ⟨hP, hD⟩⟩, hS.F ht⟩) hS.2.2 hd)
set_option maxHeartbeats 4000000 in
set_option maxRecDepth 100000 in
theorem kX6_isLength (l : Launch) (D : va_G) (T : Nat → ClassId) (F : Nat) (x0 : Int32) (r : Int32) (h : fX6_isLength F x0 = some (r)) : Met l yX6_isLength wsX6_isLength ({ frames := 1, cells := 0, slots := 0, locals := 25 } : Room) (va_Pc [.int x0] (fun U => va_P D vwCl ([] : va_W) U.heap ∧ KK D T U)) (vp_Si (fun r' => r' = r ∧ b01 r)) 0 0 (fun _ => False) := by
  refine Met.ofW (cc := cX6_isLength) (maxL := 1) (ret := some .boolean) (by decide) rfl ?_
  intro p e s m args below meth c s₁ B hml hv
  obtain ⟨ha, hP, hKK⟩ := hv
  have hx := B.exec
  have hb := B.bytes
  have hr := B.returns
  have hts := atoms_spec (ws := wsX6_isLength) B.pre
  have hown : s.vm.findClass RX6 = some m.cls := findClass_of_methodNamed B.named
  have hlocks := B.notSynchronized
  have hK := hKK.1
  have hFix : CallFix p m c cX6_isLength 1 s args wsX6_isLength RX6 := ⟨hx, hb, hml, hown, hts⟩
  have q1 := hts _ (List.mem_of_getElem? (i := 1) (show wsX6_isLength[1]? = some (Cond.constantLong RX6 219 (6)) from rfl))
  obtain ⟨ls, hl, e0⟩ := my_entry (m := m) (n := 1) ha (Nat.le_of_ble_eq_true rfl)
  rw [e0]
  have hl : lv_has ls 1 [(0, .int x0)] := hl
  have key : ∀ Q : State → Prop, (∀ (pc : Nat) (ls : Array Slot), decode cX6_isLength pc = .ok (.ireturn, 1) → b01 r → W p l e ({ frames := 1, cells := 0, slots := 0, locals := 25 } : Room) s m args below meth c s.heap [] 0 0 Q (F0 m pc ls [.int r])) → W p l e ({ frames := 1, cells := 0, slots := 0, locals := 25 } : Room) s m args below meth c s.heap [] 0 0 Q (F0 m 0 ls []) := by
    intro Q hret
    unfold fX6_isLength at h
    refine lv_iload_n hx hb dX6_isLength_0 rfl (lv_at hl 0 rfl) ?_
    refine lv_i2l (v := (x0.toInt64)) hx hb dX6_isLength_1 rfl ?_
    refine lv_lconst (v := (0 : Int64)) hx hb dX6_isLength_2 (by decide) ?_
    refine lv_ldc2 (v := (6 : Int64)) hx hb hown q1 dX6_isLength_3 ?_
    obtain ⟨r6, hc, h⟩ := bd1_some h
    refine my_roz (va_Run.run (va_runS (As := [.long (x0.toInt64), .long (0 : Int64), .long (6 : Int64)]) (rest := []) hFix (kX6_in l D T F (x0.toInt64) (0 : Int64) (6 : Int64) r6 hc) (va_cwS 3 hts gX6_isLength_X6_in rfl rfl rfl hd_X6_in ⟨Nat.le_of_ble_eq_true rfl, Nat.le_of_ble_eq_true rfl⟩) (preS_ro hP hKK) rfl rfl hl.1 rfl (lv_room (Nat.le_of_ble_eq_true rfl)) dX6_isLength_6 ⟨Nat.zero_le _, Nat.zero_le _⟩)) (fun hb6 => ?_)
    cases h
    exact hret _ _ dX6_isLength_9 hb6
  exact key _ (fun pc ls hd hb1 => W.zret hx hb hr (b01_n hb1) (fun t ht hW => ⟨_, rfl, ⟨rfl, hb1⟩, ht⟩) (fun q h => by cases h) hd)
set_option maxHeartbeats 4000000 in
set_option maxRecDepth 100000 in
theorem kX6_stay (l : Launch) (D : va_G) (T : Nat → ClassId) (F : Nat) (am : Nat → Nat) (mguests : Int32) (mclause : Int32) (mdeeds : Int32) (masked : Int32) (mupper : Int64) (mlower : Int64) (mfinding : Int32) (mreadGuests : Int32) (misSight : Int32) (mat : Int32) (mrowSizes : Nat → Int32) (mrows : Nat → Int32) (mtextSizes : Nat → Int32) (mtexts : Nat → Int32) (mdoes : Nat → Int32) (mkinds : Nat → Int32) (msees : Nat → Int32) (mnow : Nat → Int32) (mbefore : Nat → Int32) (mkeeps : Nat → Int32) (mkept : Nat → Int32) (mfindings : Nat → Int32) (mread : Nat → Int32) (maside : Nat → Int32) (msteps : Nat → Int32) (mtried : Nat → Int32) (mbest : Nat → Int32) (x1 : Int32) (r : Int32) (zmasked : Int32) (zmupper : Int64) (zmlower : Int64) (zmaside : Nat → Int32) (h : fX6_stay F mguests mclause masked mupper mlower mdoes mkinds msees mnow maside x1 = some (r, zmasked, zmupper, zmlower, zmaside)) : ∀ sz : Nat, Met l yX6_stay wsX6_stay ({ frames := 5, cells := 0, slots := 0, locals := 117 } : Room) (va_Pc [.ref (am 0), .int x1] (fun U => U.heap.size = sz ∧ va_P D vwCl (wMo T am mguests mclause mdeeds masked mupper mlower mfinding mreadGuests misSight mat mrowSizes mrows mtextSizes mtexts mdoes mkinds msees mnow mbefore mkeeps mkept mfindings mread maside msteps mtried mbest) U.heap ∧ KK D T U ∧ va_D (fun _ => True) (wMo T am mguests mclause mdeeds masked mupper mlower mfinding mreadGuests misSight mat mrowSizes mrows mtextSizes mtexts mdoes mkinds msees mnow mbefore mkeeps mkept mfindings mread maside msteps mtried mbest))) (va_Qi (fun r' (_ : Unit) => r' = r) (fun _ t => va_P D vwCl (wMo T am mguests mclause mdeeds zmasked zmupper zmlower mfinding mreadGuests misSight mat mrowSizes mrows mtextSizes mtexts mdoes mkinds msees mnow mbefore mkeeps mkept mfindings mread zmaside msteps mtried mbest) t.heap ∧ va_D (va_A (wMo T am mguests mclause mdeeds masked mupper mlower mfinding mreadGuests misSight mat mrowSizes mrows mtextSizes mtexts mdoes mkinds msees mnow mbefore mkeeps mkept mfindings mread maside msteps mtried mbest) sz) (wMo T am mguests mclause mdeeds zmasked zmupper zmlower mfinding mreadGuests misSight mat mrowSizes mrows mtextSizes mtexts mdoes mkinds msees mnow mbefore mkeeps mkept mfindings mread zmaside msteps mtried mbest)) (va_A (wMo T am mguests mclause mdeeds masked mupper mlower mfinding mreadGuests misSight mat mrowSizes mrows mtextSizes mtexts mdoes mkinds msees mnow mbefore mkeeps mkept mfindings mread maside msteps mtried mbest) sz)) 0 0 (va_A (wMo T am mguests mclause mdeeds masked mupper mlower mfinding mreadGuests misSight mat mrowSizes mrows mtextSizes mtexts mdoes mkinds msees mnow mbefore mkeeps mkept mfindings mread maside msteps mtried mbest) sz) := by
  intro sz
  refine Met.ofW (cc := cX6_stay) (maxL := 5) (ret := some .int) (by decide) rfl ?_
  intro p e s m args below meth c s₁ B hml hv
  obtain ⟨ha, hsz, hP, hKK, hD0⟩ := hv
  have hx := B.exec
  have hb := B.bytes
  have hr := B.returns
  have hts := atoms_spec (ws := wsX6_stay) B.pre
  have hown : s.vm.findClass RX6 = some m.cls := findClass_of_methodNamed B.named
  have hlocks := B.notSynchronized
  have hK := hKK.1
  have hFix : CallFix p m c cX6_stay 5 s args wsX6_stay RX6 := ⟨hx, hb, hml, hown, hts⟩
  have q1 := hts _ (List.mem_of_getElem? (i := 1) (show wsX6_stay[1]? = some (Cond.fieldLink RX6 131 "PartyWillModel" "guests" "I") from rfl))
  have q2 := hts _ (List.mem_of_getElem? (i := 2) (show wsX6_stay[2]? = some (Cond.fieldLink RX6 230 "PartyWillModel" "upper" "J") from rfl))
  have q3 := hts _ (List.mem_of_getElem? (i := 3) (show wsX6_stay[3]? = some (Cond.fieldLink RX6 44 "PartyWillModel" "lower" "J") from rfl))
  have iX6 : ∀ w ∈ u_ws RX6 TX6 27, w ∈ wsX6_stay := fun w h => List.mem_cons_of_mem _ (List.mem_append_right _ (h))
  subst hsz
  have hD := hD0.self (sz := s.heap.size)
  generalize hAe : va_A (wMo T am mguests mclause mdeeds masked mupper mlower mfinding mreadGuests misSight mat mrowSizes mrows mtextSizes mtexts mdoes mkinds msees mnow mbefore mkeeps mkept mfindings mread maside msteps mtried mbest) s.heap.size = A at hD ⊢
  have hA : ∀ q : Nat, s.heap.size ≤ q → A q := fun q h => by rw [← hAe]; exact Or.inr h
  have hS : va_S A s.heap s.heap [] := va_S.rf
  have hP : va_P D vwCl (wMo T am mguests mclause mdeeds masked mupper mlower mfinding mreadGuests misSight mat mrowSizes mrows mtextSizes mtexts mdoes mkinds msees mnow mbefore mkeeps mkept mfindings mread maside msteps mtried mbest) s.heap := hP
  obtain ⟨ls, hl, e0⟩ := my_entry (m := m) (n := 5) ha (Nat.le_of_ble_eq_true rfl)
  rw [e0]
  have hl : lv_has ls 5 [(0, .ref (am 0)), (1, .int x1)] := hl
  have key : ∀ Q : State → Prop, (∀ (H : Heap) (locs : List Loc) (pc : Nat) (ls : Array Slot), va_P D vwCl (wMo T am mguests mclause mdeeds zmasked zmupper zmlower mfinding mreadGuests misSight mat mrowSizes mrows mtextSizes mtexts mdoes mkinds msees mnow mbefore mkeeps mkept mfindings mread zmaside msteps mtried mbest) H → va_D A (wMo T am mguests mclause mdeeds zmasked zmupper zmlower mfinding mreadGuests misSight mat mrowSizes mrows mtextSizes mtexts mdoes mkinds msees mnow mbefore mkeeps mkept mfindings mread zmaside msteps mtried mbest) → va_S A s.heap H locs → decode cX6_stay pc = .ok (.ireturn, 1) → W p l e ({ frames := 5, cells := 0, slots := 0, locals := 117 } : Room) s m args below meth c H locs 0 0 Q (F0 m pc ls [.int r])) → W p l e ({ frames := 5, cells := 0, slots := 0, locals := 117 } : Room) s m args below meth c s.heap [] 0 0 Q (F0 m 0 ls []) := by
    intro Q hret
    skip
    have l26 : ∀ x1 : Int32, ∀ masked : Int32, ∀ mupper : Int64, ∀ mlower : Int64, ∀ nu : Nat, ∀ x2 : Int32, ∀ x3 : Int32, ∀ x4 : Int32, ∀ maside : Nat → Int32, fX6_stay_l26 F mguests mclause mdoes mkinds msees mnow x1 masked mupper mlower nu x2 x3 x4 maside = some (r, zmasked, zmupper, zmlower, zmaside) → ∀ (H : Heap) (locs : List Loc), va_P D vwCl (wMo T am mguests mclause mdeeds masked mupper mlower mfinding mreadGuests misSight mat mrowSizes mrows mtextSizes mtexts mdoes mkinds msees mnow mbefore mkeeps mkept mfindings mread maside msteps mtried mbest) H → va_D A (wMo T am mguests mclause mdeeds masked mupper mlower mfinding mreadGuests misSight mat mrowSizes mrows mtextSizes mtexts mdoes mkinds msees mnow mbefore mkeeps mkept mfindings mread maside msteps mtried mbest) → va_S A s.heap H locs → ∀ (ls : Array Slot), lv_has ls 5 [(0, .ref (am 0)), (1, .int x1), (2, .int x2), (3, .int x3), (4, .int x4)] → W p l e ({ frames := 5, cells := 0, slots := 0, locals := 117 } : Room) s m args below meth c H locs 0 0 Q (F0 m 26 ls []) := by
      intro x1 masked mupper mlower
      intro nu
      induction nu with
      | zero => intro x2 x3 x4 maside h; exact none_some h
      | succ nu26 ih26 =>
        intro x2 x3 x4 maside h H locs hP hD hS ls hl
        have h : fX6_stay_l26_b F mguests mclause mdoes mkinds msees mnow x1 masked mupper mlower (fX6_stay_l26 F mguests mclause mdoes mkinds msees mnow x1 masked mupper mlower nu26) x2 x3 x4 maside = some (r, zmasked, zmupper, zmlower, zmaside) := h
        unfold fX6_stay_l26_b at h
        refine lv_iload hx hb dX6_stay_26 (lv_at hl 4 rfl) ?_
        refine lv_iload_n hx hb dX6_stay_28 rfl (lv_at hl 1 rfl) ?_
        obtain ⟨r29, hc, h⟩ := bd1_some h
        refine my_roi (va_Run.run (va_runS (As := [.int x1]) (rest := [.int x4]) hFix (kX6_codes l D T F x1 r29 hc) (va_cwS 1 hts gX6_stay_X6_codes rfl rfl rfl hd_X6_codes ⟨Nat.le_of_ble_eq_true rfl, Nat.le_of_ble_eq_true rfl⟩) (preS_ro va_nil hKK) rfl rfl hl.1 rfl (lv_room (Nat.le_of_ble_eq_true rfl)) dX6_stay_29 ⟨Nat.zero_le _, Nat.zero_le _⟩)) ?_
        refine lv_icmp_ge (tgt := 75) hx hb dX6_stay_32 (by decide) (fun c32 => ?_) (fun c32 => ?_)
        · have h := br_1 h c32
          refine lv_aload_n hx hb dX6_stay_75 rfl (lv_at hl 0 rfl) ?_
          refine lv_iload_n hx hb dX6_stay_76 rfl (lv_at hl 2 rfl) ?_
          refine lv_i2l (v := (x2.toInt64)) hx hb dX6_stay_77 rfl ?_
          refine va_put (D := D) (ci := 4) (v := .long (x2.toInt64)) (ty := .long) (C := RX6) (T := TX6) (N := 27) hx hb hts iX6 tyX6 tyX6_ok nmX6 hown hK hP hD hS 0 wMo_0 rfl 15 (by decide) q2 (fun _ h9 => h9) rfl (by decide +kernel) rfl rfl (Nat.le_of_ble_eq_true rfl) dX6_stay_78 (fun H locs hP hD hS => ?_)
          have hP : va_P D vwCl (wMo T am mguests mclause mdeeds masked (x2.toInt64) mlower mfinding mreadGuests misSight mat mrowSizes mrows mtextSizes mtexts mdoes mkinds msees mnow mbefore mkeeps mkept mfindings mread maside msteps mtried mbest) H := hP
          have hD : va_D A (wMo T am mguests mclause mdeeds masked (x2.toInt64) mlower mfinding mreadGuests misSight mat mrowSizes mrows mtextSizes mtexts mdoes mkinds msees mnow mbefore mkeeps mkept mfindings mread maside msteps mtried mbest) := hD
          refine lv_aload_n hx hb dX6_stay_81 rfl (lv_at hl 0 rfl) ?_
          refine lv_lconst (v := (1 : Int64)) hx hb dX6_stay_82 (by decide) ?_
          refine va_put (D := D) (ci := 4) (v := .long (1 : Int64)) (ty := .long) (C := RX6) (T := TX6) (N := 27) hx hb hts iX6 tyX6 tyX6_ok nmX6 hown hK hP hD hS 0 wMo_0 rfl 16 (by decide) q3 (fun _ h9 => h9) rfl (by decide +kernel) rfl rfl (Nat.le_of_ble_eq_true rfl) dX6_stay_83 (fun H locs hP hD hS => ?_)
          have hP : va_P D vwCl (wMo T am mguests mclause mdeeds masked (x2.toInt64) (1 : Int64) mfinding mreadGuests misSight mat mrowSizes mrows mtextSizes mtexts mdoes mkinds msees mnow mbefore mkeeps mkept mfindings mread maside msteps mtried mbest) H := hP
          have hD : va_D A (wMo T am mguests mclause mdeeds masked (x2.toInt64) (1 : Int64) mfinding mreadGuests misSight mat mrowSizes mrows mtextSizes mtexts mdoes mkinds msees mnow mbefore mkeeps mkept mfindings mread maside msteps mtried mbest) := hD
          refine lv_aload_n hx hb dX6_stay_86 rfl (lv_at hl 0 rfl) ?_
          refine lv_iload_n hx hb dX6_stay_87 rfl (lv_at hl 3 rfl) ?_
          obtain ⟨r88, w88_masked, hc, h⟩ := bd2_some h
          have hFc := my_freeS hD hS hA
          refine my_rwi (va_runV (As := [.int x3]) (rest := []) hFix (kX6_tell l D T F am mguests mclause mdeeds masked (x2.toInt64) (1 : Int64) mfinding mreadGuests misSight mat mrowSizes mrows mtextSizes mtexts mdoes mkinds msees mnow mbefore mkeeps mkept mfindings mread maside msteps mtried mbest x3 r88 w88_masked hc) (cwV 1 hts gX6_stay_X6_tell rfl rfl rfl ⟨rfl, hd_X6_tell⟩ ⟨Nat.le_of_ble_eq_true rfl, Nat.le_of_ble_eq_true rfl⟩) (preV_rw hP hKK hD (va_recv hK hP (ci := 4) (q0 := 0) rfl wMo_0)) rfl rfl hl.1 rfl (lv_room (Nat.le_of_ble_eq_true rfl)) dX6_stay_88 ⟨Nat.zero_le _, Nat.zero_le _⟩) hS hFc (fun H1 locs hP1 hD1 hz1 hk1 hS => ?_)
          have hP : va_P D vwCl (wMo T am mguests mclause mdeeds w88_masked (x2.toInt64) (1 : Int64) mfinding mreadGuests misSight mat mrowSizes mrows mtextSizes mtexts mdoes mkinds msees mnow mbefore mkeeps mkept mfindings mread maside msteps mtried mbest) H1 := hP1
          have hD : va_D A (wMo T am mguests mclause mdeeds w88_masked (x2.toInt64) (1 : Int64) mfinding mreadGuests misSight mat mrowSizes mrows mtextSizes mtexts mdoes mkinds msees mnow mbefore mkeeps mkept mfindings mread maside msteps mtried mbest) := hD1.weaken (fun _ q _ h => hFc q.1 h)
          generalize H1 = H at hP hS ⊢
          cases h
          exact hret _ _ _ _ hP hD hS dX6_stay_91
        · have h := br_0 h c32
          refine lv_aload_n hx hb dX6_stay_35 rfl (lv_at hl 0 rfl) ?_
          refine lv_iload_n hx hb dX6_stay_36 rfl (lv_at hl 1 rfl) ?_
          refine lv_iload hx hb dX6_stay_37 (lv_at hl 4 rfl) ?_
          obtain ⟨r39, w39_maside, hc, h⟩ := bd2_some h
          have hFc := my_freeS hD hS hA
          refine my_rwi (va_runV (As := [.int x1, .int x4]) (rest := []) hFix (kX6_fallen l D T F am mguests mclause mdeeds masked mupper mlower mfinding mreadGuests misSight mat mrowSizes mrows mtextSizes mtexts mdoes mkinds msees mnow mbefore mkeeps mkept mfindings mread maside msteps mtried mbest x1 x4 r39 w39_maside hc) (cwV 2 hts gX6_stay_X6_fallen rfl rfl rfl ⟨rfl, hd_X6_fallen⟩ ⟨Nat.le_of_ble_eq_true rfl, Nat.le_of_ble_eq_true rfl⟩) (preV_rw hP hKK hD (va_recv hK hP (ci := 4) (q0 := 0) rfl wMo_0)) rfl rfl hl.1 rfl (lv_room (Nat.le_of_ble_eq_true rfl)) dX6_stay_39 ⟨Nat.zero_le _, Nat.zero_le _⟩) hS hFc (fun H1 locs hP1 hD1 hz1 hk1 hS => ?_)
          have hP : va_P D vwCl (wMo T am mguests mclause mdeeds masked mupper mlower mfinding mreadGuests misSight mat mrowSizes mrows mtextSizes mtexts mdoes mkinds msees mnow mbefore mkeeps mkept mfindings mread w39_maside msteps mtried mbest) H1 := hP1
          have hD : va_D A (wMo T am mguests mclause mdeeds masked mupper mlower mfinding mreadGuests misSight mat mrowSizes mrows mtextSizes mtexts mdoes mkinds msees mnow mbefore mkeeps mkept mfindings mread w39_maside msteps mtried mbest) := hD1.weaken (fun _ q _ h => hFc q.1 h)
          generalize H1 = H at hP hS ⊢
          refine lv_if_ne (tgt := 69) hx hb dX6_stay_42 (by decide) (fun c42 => ?_) (fun c42 => ?_)
          · have h := br_0 h c42
            refine lv_iinc (v := (x4 + (1 : Int32))) (lv' := [(4, .int (x4 + (1 : Int32))), (0, .ref (am 0)), (1, .int x1), (2, .int x2), (3, .int x3)]) hx hb dX6_stay_69 hl (k := 4) rfl rfl (by decide) rfl (fun ls hl => ?_)
            refine lv_goto (tgt := 26) hx hb dX6_stay_72 (by decide) ?_
            exact ih26 x2 x3 (x4 + (1 : Int32)) w39_maside h _ _ hP hD hS _ (lv_sub hl [1, 2, 3, 4, 0] rfl)
          · have h := br_1 h c42
            refine lv_iinc (v := (x2 + (1 : Int32))) (lv' := [(2, .int (x2 + (1 : Int32))), (0, .ref (am 0)), (1, .int x1), (3, .int x3), (4, .int x4)]) hx hb dX6_stay_45 hl (k := 2) rfl rfl (by decide) rfl (fun ls hl => ?_)
            refine lv_iload_n hx hb dX6_stay_48 rfl (lv_at hl 3 rfl) ?_
            refine lv_iload_n hx hb dX6_stay_49 rfl (lv_at hl 2 rfl) ?_
            refine lv_if_le (tgt := 66) hx hb dX6_stay_50 (by decide) (fun c50 => ?_) (fun c50 => ?_)
            · have h := br_1 h c50
              refine lv_iconst (v := (0 : Int32)) hx hb dX6_stay_66 (by decide) ?_
              refine lv_ior hx hb dX6_stay_67 ?_
              refine lv_istore_n (lv' := [(3, .int (x3 ||| (0 : Int32))), (2, .int (x2 + (1 : Int32))), (0, .ref (am 0)), (1, .int x1), (4, .int x4)]) hx hb dX6_stay_68 rfl hl (by decide) rfl (fun ls hl => ?_)
              refine lv_iinc (v := (x4 + (1 : Int32))) (lv' := [(4, .int (x4 + (1 : Int32))), (3, .int (x3 ||| (0 : Int32))), (2, .int (x2 + (1 : Int32))), (0, .ref (am 0)), (1, .int x1)]) hx hb dX6_stay_69 hl (k := 4) rfl rfl (by decide) rfl (fun ls hl => ?_)
              refine lv_goto (tgt := 26) hx hb dX6_stay_72 (by decide) ?_
              exact ih26 (x2 + (1 : Int32)) (x3 ||| (0 : Int32)) (x4 + (1 : Int32)) w39_maside h _ _ hP hD hS _ (lv_sub hl [3, 4, 2, 1, 0] rfl)
            · have h := br_0 h c50
              refine lv_iconst (v := (1 : Int32)) hx hb dX6_stay_53 (by decide) ?_
              refine lv_iload hx hb dX6_stay_54 (lv_at hl 4 rfl) ?_
              refine lv_iconst (v := (2 : Int32)) hx hb dX6_stay_56 (by decide) ?_
              refine lv_iload_n hx hb dX6_stay_57 rfl (lv_at hl 2 rfl) ?_
              refine lv_imul hx hb dX6_stay_58 ?_
              refine lv_iconst (v := (2 : Int32)) hx hb dX6_stay_59 (by decide) ?_
              refine lv_isub hx hb dX6_stay_60 ?_
              refine lv_ishr hx hb dX6_stay_61 ?_
              refine lv_ishl hx hb dX6_stay_62 ?_
              refine lv_goto (tgt := 67) hx hb dX6_stay_63 (by decide) ?_
              refine lv_ior hx hb dX6_stay_67 ?_
              refine lv_istore_n (lv' := [(3, .int (x3 ||| ((1 : Int32) <<< ((x4 >>> ((((2 : Int32) * x1) - (2 : Int32)) &&& 31)) &&& 31)))), (2, .int (x2 + (1 : Int32))), (0, .ref (am 0)), (1, .int x1), (4, .int x4)]) hx hb dX6_stay_68 rfl hl (by decide) rfl (fun ls hl => ?_)
              refine lv_iinc (v := (x4 + (1 : Int32))) (lv' := [(4, .int (x4 + (1 : Int32))), (3, .int (x3 ||| ((1 : Int32) <<< ((x4 >>> ((((2 : Int32) * x1) - (2 : Int32)) &&& 31)) &&& 31)))), (2, .int (x2 + (1 : Int32))), (0, .ref (am 0)), (1, .int x1)]) hx hb dX6_stay_69 hl (k := 4) rfl rfl (by decide) rfl (fun ls hl => ?_)
              refine lv_goto (tgt := 26) hx hb dX6_stay_72 (by decide) ?_
              exact ih26 (x2 + (1 : Int32)) (x3 ||| ((1 : Int32) <<< ((x4 >>> ((((2 : Int32) * x1) - (2 : Int32)) &&& 31)) &&& 31))) (x4 + (1 : Int32)) w39_maside h _ _ hP hD hS _ (lv_sub hl [3, 4, 2, 1, 0] rfl)
    unfold fX6_stay at h
    refine lv_iload_n hx hb dX6_stay_0 rfl (lv_at hl 1 rfl) ?_
    obtain ⟨r1, hc, h⟩ := bd1_some h
    refine my_roz (va_Run.run (va_runS (As := [.int x1]) (rest := []) hFix (kX6_isLength l D T F x1 r1 hc) (va_cwS 1 hts gX6_stay_X6_isLength rfl rfl rfl hd_X6_isLength ⟨Nat.le_of_ble_eq_true rfl, Nat.le_of_ble_eq_true rfl⟩) (preS_ro va_nil hKK) rfl rfl hl.1 rfl (lv_room (Nat.le_of_ble_eq_true rfl)) dX6_stay_1 ⟨Nat.zero_le _, Nat.zero_le _⟩)) (fun hb1 => ?_)
    refine lv_if_ne (tgt := 9) hx hb dX6_stay_4 (by decide) (fun c4 => ?_) (fun c4 => ?_)
    · have h := br_0 h c4
      refine lv_aload_n hx hb dX6_stay_9 rfl (lv_at hl 0 rfl) ?_
      refine va_get (D := D) (ci := 4) (C := RX6) (T := TX6) (N := 27) hx hb hts iX6 hown hK hP 0 wMo_0 rfl 4 (by decide) q1 (fun _ h9 => h9) rfl dX6_stay_10 ?_
      refine lv_if_ne (tgt := 19) hx hb dX6_stay_13 (by decide) (fun c13 => ?_) (fun c13 => ?_)
      · have h := br_0 h c13
        refine lv_iconst (v := (0 : Int32)) hx hb dX6_stay_19 (by decide) ?_
        refine lv_istore_n (lv' := [(2, .int (0 : Int32)), (0, .ref (am 0)), (1, .int x1)]) hx hb dX6_stay_20 rfl hl (by decide) rfl (fun ls hl => ?_)
        refine lv_iconst (v := (0 : Int32)) hx hb dX6_stay_21 (by decide) ?_
        refine lv_istore_n (lv' := [(3, .int (0 : Int32)), (2, .int (0 : Int32)), (0, .ref (am 0)), (1, .int x1)]) hx hb dX6_stay_22 rfl hl (by decide) rfl (fun ls hl => ?_)
        refine lv_iconst (v := (0 : Int32)) hx hb dX6_stay_23 (by decide) ?_
        refine lv_istore (lv' := [(4, .int (0 : Int32)), (3, .int (0 : Int32)), (2, .int (0 : Int32)), (0, .ref (am 0)), (1, .int x1)]) hx hb dX6_stay_24 hl (by decide) rfl (fun ls hl => ?_)
        exact l26 x1 masked mupper mlower F (0 : Int32) (0 : Int32) (0 : Int32) maside h _ _ hP hD hS _ (lv_sub hl [3, 4, 2, 1, 0] rfl)
      · have h := br_1 h c13
        refine lv_bipush (v := (-4 : Int32)) hx hb dX6_stay_16 (by decide) ?_
        cases h
        exact hret _ _ _ _ hP hD hS dX6_stay_18
    · have h := br_1 h c4
      refine lv_iconst (v := (-1 : Int32)) hx hb dX6_stay_7 (by decide) ?_
      cases h
      exact hret _ _ _ _ hP hD hS dX6_stay_8
  exact key _ (fun H locs pc ls hP hD hS hd => W.iret hx hb hr (fun t ht hW => ⟨⟨_, (), rfl, rfl, by show _ ∧ _; rw [ht]; exact ⟨hP, hD⟩⟩, hS.F ht⟩) hS.2.2 hd)
set_option maxHeartbeats 4000000 in
set_option maxRecDepth 100000 in
theorem kX6_layProgramme (l : Launch) (D : va_G) (T : Nat → ClassId) (F : Nat) (am : Nat → Nat) (mguests : Int32) (mclause : Int32) (mdeeds : Int32) (masked : Int32) (mupper : Int64) (mlower : Int64) (mfinding : Int32) (mreadGuests : Int32) (misSight : Int32) (mat : Int32) (mrowSizes : Nat → Int32) (mrows : Nat → Int32) (mtextSizes : Nat → Int32) (mtexts : Nat → Int32) (mdoes : Nat → Int32) (mkinds : Nat → Int32) (msees : Nat → Int32) (mnow : Nat → Int32) (mbefore : Nat → Int32) (mkeeps : Nat → Int32) (mkept : Nat → Int32) (mfindings : Nat → Int32) (mread : Nat → Int32) (maside : Nat → Int32) (msteps : Nat → Int32) (mtried : Nat → Int32) (mbest : Nat → Int32) (x1 : Int32) (x2 : Int32) (x3 : Int32) (zmrowSizes : Nat → Int32) (zmrows : Nat → Int32) (h : fX6_layProgramme F mrowSizes mrows x1 x2 x3 = some (zmrowSizes, zmrows)) : ∀ sz : Nat, Met l yX6_layProgramme wsX6_layProgramme ({ frames := 0, cells := 0, slots := 0, locals := 0 } : Room) (va_Pc [.ref (am 0), .int x1, .int x2, .int x3] (fun U => U.heap.size = sz ∧ va_P D vwCl (wMo T am mguests mclause mdeeds masked mupper mlower mfinding mreadGuests misSight mat mrowSizes mrows mtextSizes mtexts mdoes mkinds msees mnow mbefore mkeeps mkept mfindings mread maside msteps mtried mbest) U.heap ∧ KK D T U ∧ va_D (fun _ => True) (wMo T am mguests mclause mdeeds masked mupper mlower mfinding mreadGuests misSight mat mrowSizes mrows mtextSizes mtexts mdoes mkinds msees mnow mbefore mkeeps mkept mfindings mread maside msteps mtried mbest))) (va_Qv (fun _ : Unit => True) (fun _ t => va_P D vwCl (wMo T am mguests mclause mdeeds masked mupper mlower mfinding mreadGuests misSight mat zmrowSizes zmrows mtextSizes mtexts mdoes mkinds msees mnow mbefore mkeeps mkept mfindings mread maside msteps mtried mbest) t.heap ∧ va_D (va_A (wMo T am mguests mclause mdeeds masked mupper mlower mfinding mreadGuests misSight mat mrowSizes mrows mtextSizes mtexts mdoes mkinds msees mnow mbefore mkeeps mkept mfindings mread maside msteps mtried mbest) sz) (wMo T am mguests mclause mdeeds masked mupper mlower mfinding mreadGuests misSight mat zmrowSizes zmrows mtextSizes mtexts mdoes mkinds msees mnow mbefore mkeeps mkept mfindings mread maside msteps mtried mbest)) (va_A (wMo T am mguests mclause mdeeds masked mupper mlower mfinding mreadGuests misSight mat mrowSizes mrows mtextSizes mtexts mdoes mkinds msees mnow mbefore mkeeps mkept mfindings mread maside msteps mtried mbest) sz)) 0 0 (va_A (wMo T am mguests mclause mdeeds masked mupper mlower mfinding mreadGuests misSight mat mrowSizes mrows mtextSizes mtexts mdoes mkinds msees mnow mbefore mkeeps mkept mfindings mread maside msteps mtried mbest) sz) := by
  intro sz
  refine Met.ofW (cc := cX6_layProgramme) (maxL := 5) (ret := none) (by decide) rfl ?_
  intro p e s m args below meth c s₁ B hml hv
  obtain ⟨ha, hsz, hP, hKK, hD0⟩ := hv
  have hx := B.exec
  have hb := B.bytes
  have hr := B.returns
  have hts := atoms_spec (ws := wsX6_layProgramme) B.pre
  have hown : s.vm.findClass RX6 = some m.cls := findClass_of_methodNamed B.named
  have hlocks := B.notSynchronized
  have hK := hKK.1
  have hFix : CallFix p m c cX6_layProgramme 5 s args wsX6_layProgramme RX6 := ⟨hx, hb, hml, hown, hts⟩
  have q1 := hts _ (List.mem_of_getElem? (i := 1) (show wsX6_layProgramme[1]? = some (Cond.fieldLink RX6 7 "PartyWillModel" "rowSizes" "[I") from rfl))
  have q2 := hts _ (List.mem_of_getElem? (i := 2) (show wsX6_layProgramme[2]? = some (Cond.fieldLink RX6 13 "PartyWillModel" "rows" "[I") from rfl))
  have iX6 : ∀ w ∈ u_ws RX6 TX6 27, w ∈ wsX6_layProgramme := fun w h => List.mem_cons_of_mem _ (List.mem_append_right _ (h))
  subst hsz
  have hD := hD0.self (sz := s.heap.size)
  generalize hAe : va_A (wMo T am mguests mclause mdeeds masked mupper mlower mfinding mreadGuests misSight mat mrowSizes mrows mtextSizes mtexts mdoes mkinds msees mnow mbefore mkeeps mkept mfindings mread maside msteps mtried mbest) s.heap.size = A at hD ⊢
  have hA : ∀ q : Nat, s.heap.size ≤ q → A q := fun q h => by rw [← hAe]; exact Or.inr h
  have hS : va_S A s.heap s.heap [] := va_S.rf
  have hP : va_P D vwCl (wMo T am mguests mclause mdeeds masked mupper mlower mfinding mreadGuests misSight mat mrowSizes mrows mtextSizes mtexts mdoes mkinds msees mnow mbefore mkeeps mkept mfindings mread maside msteps mtried mbest) s.heap := hP
  obtain ⟨ls, hl, e0⟩ := my_entry (m := m) (n := 5) ha (Nat.le_of_ble_eq_true rfl)
  rw [e0]
  have hl : lv_has ls 5 [(0, .ref (am 0)), (1, .int x1), (2, .int x2), (3, .int x3)] := hl
  have key : ∀ Q : State → Prop, (∀ (H : Heap) (locs : List Loc) (pc : Nat) (ls : Array Slot), va_P D vwCl (wMo T am mguests mclause mdeeds masked mupper mlower mfinding mreadGuests misSight mat zmrowSizes zmrows mtextSizes mtexts mdoes mkinds msees mnow mbefore mkeeps mkept mfindings mread maside msteps mtried mbest) H → va_D A (wMo T am mguests mclause mdeeds masked mupper mlower mfinding mreadGuests misSight mat zmrowSizes zmrows mtextSizes mtexts mdoes mkinds msees mnow mbefore mkeeps mkept mfindings mread maside msteps mtried mbest) → va_S A s.heap H locs → decode cX6_layProgramme pc = .ok (.return_, 1) → W p l e ({ frames := 0, cells := 0, slots := 0, locals := 0 } : Room) s m args below meth c H locs 0 0 Q (F0 m pc ls [])) → W p l e ({ frames := 0, cells := 0, slots := 0, locals := 0 } : Room) s m args below meth c s.heap [] 0 0 Q (F0 m 0 ls []) := by
    intro Q hret
    skip
    have l10 : ∀ x1 : Int32, ∀ x2 : Int32, ∀ x3 : Int32, ∀ mrowSizes : Nat → Int32, ∀ nu : Nat, ∀ x4 : Int32, ∀ mrows : Nat → Int32, fX6_layProgramme_l10 F x1 x2 x3 mrowSizes nu x4 mrows = some (zmrowSizes, zmrows) → ∀ (H : Heap) (locs : List Loc), va_P D vwCl (wMo T am mguests mclause mdeeds masked mupper mlower mfinding mreadGuests misSight mat mrowSizes mrows mtextSizes mtexts mdoes mkinds msees mnow mbefore mkeeps mkept mfindings mread maside msteps mtried mbest) H → va_D A (wMo T am mguests mclause mdeeds masked mupper mlower mfinding mreadGuests misSight mat mrowSizes mrows mtextSizes mtexts mdoes mkinds msees mnow mbefore mkeeps mkept mfindings mread maside msteps mtried mbest) → va_S A s.heap H locs → ∀ (ls : Array Slot), lv_has ls 5 [(0, .ref (am 0)), (1, .int x1), (2, .int x2), (3, .int x3), (4, .int x4)] → W p l e ({ frames := 0, cells := 0, slots := 0, locals := 0 } : Room) s m args below meth c H locs 0 0 Q (F0 m 10 ls []) := by
      intro x1 x2 x3 mrowSizes
      intro nu
      induction nu with
      | zero => intro x4 mrows h; exact none_some h
      | succ nu10 ih10 =>
        intro x4 mrows h H locs hP hD hS ls hl
        have h : fX6_layProgramme_l10_b F x1 x2 x3 mrowSizes (fX6_layProgramme_l10 F x1 x2 x3 mrowSizes nu10) x4 mrows = some (zmrowSizes, zmrows) := h
        unfold fX6_layProgramme_l10_b at h
        refine lv_iload hx hb dX6_layProgramme_10 (lv_at hl 4 rfl) ?_
        refine lv_bipush (v := (40 : Int32)) hx hb dX6_layProgramme_12 (by decide) ?_
        refine lv_icmp_ge (tgt := 57) hx hb dX6_layProgramme_14 (by decide) (fun c14 => ?_) (fun c14 => ?_)
        · have h := br_1 h c14
          cases h
          exact hret _ _ _ _ hP hD hS dX6_layProgramme_57
        · have h := br_0 h c14
          refine lv_aload_n hx hb dX6_layProgramme_17 rfl (lv_at hl 0 rfl) ?_
          refine va_get (D := D) (ci := 4) (C := RX6) (T := TX6) (N := 27) hx hb hts iX6 hown hK hP 0 wMo_0 rfl 1 (by decide) q2 (fun _ h9 => h9) rfl dX6_layProgramme_18 ?_
          refine lv_bipush (v := (40 : Int32)) hx hb dX6_layProgramme_21 (by decide) ?_
          refine lv_iload_n hx hb dX6_layProgramme_23 rfl (lv_at hl 3 rfl) ?_
          refine lv_imul hx hb dX6_layProgramme_24 ?_
          refine lv_iload hx hb dX6_layProgramme_25 (lv_at hl 4 rfl) ?_
          refine lv_iadd hx hb dX6_layProgramme_27 ?_
          refine lv_iload hx hb dX6_layProgramme_28 (lv_at hl 4 rfl) ?_
          refine lv_iload_n hx hb dX6_layProgramme_30 rfl (lv_at hl 1 rfl) ?_
          refine lv_icmp_ge (tgt := 49) hx hb dX6_layProgramme_31 (by decide) (fun c31 => ?_) (fun c31 => ?_)
          · have h := br_1 h c31
            refine lv_iconst (v := (0 : Int32)) hx hb dX6_layProgramme_49 (by decide) ?_
            obtain ⟨hin1, h⟩ := ck_some h
            refine va_iast hx hb hK hP hD hS 2 0 wMo_2 rfl hin1 dX6_layProgramme_50 (fun H locs hP hD hS => ?_)
            have hP : va_P D vwCl (wMo T am mguests mclause mdeeds masked mupper mlower mfinding mreadGuests misSight mat mrowSizes (upd mrows (((40 : Int32) * x3) + x4).toNatClampNeg (0 : Int32)) mtextSizes mtexts mdoes mkinds msees mnow mbefore mkeeps mkept mfindings mread maside msteps mtried mbest) H := hP
            have hD : va_D A (wMo T am mguests mclause mdeeds masked mupper mlower mfinding mreadGuests misSight mat mrowSizes (upd mrows (((40 : Int32) * x3) + x4).toNatClampNeg (0 : Int32)) mtextSizes mtexts mdoes mkinds msees mnow mbefore mkeeps mkept mfindings mread maside msteps mtried mbest) := hD
            refine lv_iinc (v := (x4 + (1 : Int32))) (lv' := [(4, .int (x4 + (1 : Int32))), (0, .ref (am 0)), (1, .int x1), (2, .int x2), (3, .int x3)]) hx hb dX6_layProgramme_51 hl (k := 4) rfl rfl (by decide) rfl (fun ls hl => ?_)
            refine lv_goto (tgt := 10) hx hb dX6_layProgramme_54 (by decide) ?_
            exact ih10 (x4 + (1 : Int32)) (upd mrows (((40 : Int32) * x3) + x4).toNatClampNeg (0 : Int32)) h _ _ hP hD hS _ (lv_sub hl [1, 2, 3, 4, 0] rfl)
          · have h := br_0 h c31
            refine lv_iload_n hx hb dX6_layProgramme_34 rfl (lv_at hl 2 rfl) ?_
            refine lv_iconst (v := (2 : Int32)) hx hb dX6_layProgramme_35 (by decide) ?_
            refine lv_iload_n hx hb dX6_layProgramme_36 rfl (lv_at hl 1 rfl) ?_
            refine lv_iconst (v := (1 : Int32)) hx hb dX6_layProgramme_37 (by decide) ?_
            refine lv_isub hx hb dX6_layProgramme_38 ?_
            refine lv_iload hx hb dX6_layProgramme_39 (lv_at hl 4 rfl) ?_
            refine lv_isub hx hb dX6_layProgramme_41 ?_
            refine lv_imul hx hb dX6_layProgramme_42 ?_
            refine lv_ishr hx hb dX6_layProgramme_43 ?_
            refine lv_iconst (v := (3 : Int32)) hx hb dX6_layProgramme_44 (by decide) ?_
            refine lv_iand hx hb dX6_layProgramme_45 ?_
            refine lv_goto (tgt := 50) hx hb dX6_layProgramme_46 (by decide) ?_
            obtain ⟨hin2, h⟩ := ck_some h
            refine va_iast hx hb hK hP hD hS 2 0 wMo_2 rfl hin2 dX6_layProgramme_50 (fun H locs hP hD hS => ?_)
            have hP : va_P D vwCl (wMo T am mguests mclause mdeeds masked mupper mlower mfinding mreadGuests misSight mat mrowSizes (upd mrows (((40 : Int32) * x3) + x4).toNatClampNeg ((x2 >>> (((2 : Int32) * ((x1 - (1 : Int32)) - x4)) &&& 31)) &&& (3 : Int32))) mtextSizes mtexts mdoes mkinds msees mnow mbefore mkeeps mkept mfindings mread maside msteps mtried mbest) H := hP
            have hD : va_D A (wMo T am mguests mclause mdeeds masked mupper mlower mfinding mreadGuests misSight mat mrowSizes (upd mrows (((40 : Int32) * x3) + x4).toNatClampNeg ((x2 >>> (((2 : Int32) * ((x1 - (1 : Int32)) - x4)) &&& 31)) &&& (3 : Int32))) mtextSizes mtexts mdoes mkinds msees mnow mbefore mkeeps mkept mfindings mread maside msteps mtried mbest) := hD
            refine lv_iinc (v := (x4 + (1 : Int32))) (lv' := [(4, .int (x4 + (1 : Int32))), (0, .ref (am 0)), (1, .int x1), (2, .int x2), (3, .int x3)]) hx hb dX6_layProgramme_51 hl (k := 4) rfl rfl (by decide) rfl (fun ls hl => ?_)
            refine lv_goto (tgt := 10) hx hb dX6_layProgramme_54 (by decide) ?_
            exact ih10 (x4 + (1 : Int32)) (upd mrows (((40 : Int32) * x3) + x4).toNatClampNeg ((x2 >>> (((2 : Int32) * ((x1 - (1 : Int32)) - x4)) &&& 31)) &&& (3 : Int32))) h _ _ hP hD hS _ (lv_sub hl [1, 2, 3, 4, 0] rfl)
    unfold fX6_layProgramme at h
    refine lv_aload_n hx hb dX6_layProgramme_0 rfl (lv_at hl 0 rfl) ?_
    refine va_get (D := D) (ci := 4) (C := RX6) (T := TX6) (N := 27) hx hb hts iX6 hown hK hP 0 wMo_0 rfl 0 (by decide) q1 (fun _ h9 => h9) rfl dX6_layProgramme_1 ?_
    refine lv_iload_n hx hb dX6_layProgramme_4 rfl (lv_at hl 3 rfl) ?_
    refine lv_iload_n hx hb dX6_layProgramme_5 rfl (lv_at hl 1 rfl) ?_
    obtain ⟨hin3, h⟩ := ck_some h
    refine va_iast hx hb hK hP hD hS 1 0 wMo_1 rfl hin3 dX6_layProgramme_6 (fun H locs hP hD hS => ?_)
    have hP : va_P D vwCl (wMo T am mguests mclause mdeeds masked mupper mlower mfinding mreadGuests misSight mat (upd mrowSizes x3.toNatClampNeg x1) mrows mtextSizes mtexts mdoes mkinds msees mnow mbefore mkeeps mkept mfindings mread maside msteps mtried mbest) H := hP
    have hD : va_D A (wMo T am mguests mclause mdeeds masked mupper mlower mfinding mreadGuests misSight mat (upd mrowSizes x3.toNatClampNeg x1) mrows mtextSizes mtexts mdoes mkinds msees mnow mbefore mkeeps mkept mfindings mread maside msteps mtried mbest) := hD
    refine lv_iconst (v := (0 : Int32)) hx hb dX6_layProgramme_7 (by decide) ?_
    refine lv_istore (lv' := [(4, .int (0 : Int32)), (0, .ref (am 0)), (1, .int x1), (2, .int x2), (3, .int x3)]) hx hb dX6_layProgramme_8 hl (by decide) rfl (fun ls hl => ?_)
    exact l10 x1 x2 x3 (upd mrowSizes x3.toNatClampNeg x1) F (0 : Int32) mrows h _ _ hP hD hS _ (lv_sub hl [1, 2, 3, 4, 0] rfl)
  exact key _ (fun H locs pc ls hP hD hS hd => W.vret hx hb hr (fun t ht hW => ⟨⟨(), rfl, trivial, by show _ ∧ _; rw [ht]; exact ⟨hP, hD⟩⟩, hS.F ht⟩) hS.2.2 hd)
set_option maxHeartbeats 4000000 in
set_option maxRecDepth 100000 in
theorem kX6_first (l : Launch) (D : va_G) (T : Nat → ClassId) (F : Nat) (am : Nat → Nat) (mguests : Int32) (mclause : Int32) (mdeeds : Int32) (masked : Int32) (mupper : Int64) (mlower : Int64) (mfinding : Int32) (mreadGuests : Int32) (misSight : Int32) (mat : Int32) (mrowSizes : Nat → Int32) (mrows : Nat → Int32) (mtextSizes : Nat → Int32) (mtexts : Nat → Int32) (mdoes : Nat → Int32) (mkinds : Nat → Int32) (msees : Nat → Int32) (mnow : Nat → Int32) (mbefore : Nat → Int32) (mkeeps : Nat → Int32) (mkept : Nat → Int32) (mfindings : Nat → Int32) (mread : Nat → Int32) (maside : Nat → Int32) (msteps : Nat → Int32) (mtried : Nat → Int32) (mbest : Nat → Int32) (x1 : Int32) (x2 : Int32) (r : Int32) (zmrowSizes : Nat → Int32) (zmrows : Nat → Int32) (zmaside : Nat → Int32) (h : fX6_first F mguests mclause mrowSizes mrows mdoes mkinds msees mnow maside x1 x2 = some (r, zmrowSizes, zmrows, zmaside)) : ∀ sz : Nat, Met l yX6_first wsX6_first ({ frames := 5, cells := 0, slots := 0, locals := 117 } : Room) (va_Pc [.ref (am 0), .int x1, .int x2] (fun U => U.heap.size = sz ∧ va_P D vwCl (wMo T am mguests mclause mdeeds masked mupper mlower mfinding mreadGuests misSight mat mrowSizes mrows mtextSizes mtexts mdoes mkinds msees mnow mbefore mkeeps mkept mfindings mread maside msteps mtried mbest) U.heap ∧ KK D T U ∧ va_D (fun _ => True) (wMo T am mguests mclause mdeeds masked mupper mlower mfinding mreadGuests misSight mat mrowSizes mrows mtextSizes mtexts mdoes mkinds msees mnow mbefore mkeeps mkept mfindings mread maside msteps mtried mbest))) (va_Qi (fun r' (_ : Unit) => r' = r) (fun _ t => va_P D vwCl (wMo T am mguests mclause mdeeds masked mupper mlower mfinding mreadGuests misSight mat zmrowSizes zmrows mtextSizes mtexts mdoes mkinds msees mnow mbefore mkeeps mkept mfindings mread zmaside msteps mtried mbest) t.heap ∧ va_D (va_A (wMo T am mguests mclause mdeeds masked mupper mlower mfinding mreadGuests misSight mat mrowSizes mrows mtextSizes mtexts mdoes mkinds msees mnow mbefore mkeeps mkept mfindings mread maside msteps mtried mbest) sz) (wMo T am mguests mclause mdeeds masked mupper mlower mfinding mreadGuests misSight mat zmrowSizes zmrows mtextSizes mtexts mdoes mkinds msees mnow mbefore mkeeps mkept mfindings mread zmaside msteps mtried mbest)) (va_A (wMo T am mguests mclause mdeeds masked mupper mlower mfinding mreadGuests misSight mat mrowSizes mrows mtextSizes mtexts mdoes mkinds msees mnow mbefore mkeeps mkept mfindings mread maside msteps mtried mbest) sz)) 0 0 (va_A (wMo T am mguests mclause mdeeds masked mupper mlower mfinding mreadGuests misSight mat mrowSizes mrows mtextSizes mtexts mdoes mkinds msees mnow mbefore mkeeps mkept mfindings mread maside msteps mtried mbest) sz) := by
  intro sz
  refine Met.ofW (cc := cX6_first) (maxL := 4) (ret := some .int) (by decide) rfl ?_
  intro p e s m args below meth c s₁ B hml hv
  obtain ⟨ha, hsz, hP, hKK, hD0⟩ := hv
  have hx := B.exec
  have hb := B.bytes
  have hr := B.returns
  have hts := atoms_spec (ws := wsX6_first) B.pre
  have hown : s.vm.findClass RX6 = some m.cls := findClass_of_methodNamed B.named
  have hlocks := B.notSynchronized
  have hK := hKK.1
  have hFix : CallFix p m c cX6_first 4 s args wsX6_first RX6 := ⟨hx, hb, hml, hown, hts⟩
  have q1 := hts _ (List.mem_of_getElem? (i := 1) (show wsX6_first[1]? = some (Cond.fieldLink RX6 131 "PartyWillModel" "guests" "I") from rfl))
  have iX6 : ∀ w ∈ u_ws RX6 TX6 27, w ∈ wsX6_first := fun w h => List.mem_cons_of_mem _ (List.mem_append_right _ (h))
  subst hsz
  have hD := hD0.self (sz := s.heap.size)
  generalize hAe : va_A (wMo T am mguests mclause mdeeds masked mupper mlower mfinding mreadGuests misSight mat mrowSizes mrows mtextSizes mtexts mdoes mkinds msees mnow mbefore mkeeps mkept mfindings mread maside msteps mtried mbest) s.heap.size = A at hD ⊢
  have hA : ∀ q : Nat, s.heap.size ≤ q → A q := fun q h => by rw [← hAe]; exact Or.inr h
  have hS : va_S A s.heap s.heap [] := va_S.rf
  have hP : va_P D vwCl (wMo T am mguests mclause mdeeds masked mupper mlower mfinding mreadGuests misSight mat mrowSizes mrows mtextSizes mtexts mdoes mkinds msees mnow mbefore mkeeps mkept mfindings mread maside msteps mtried mbest) s.heap := hP
  obtain ⟨ls, hl, e0⟩ := my_entry (m := m) (n := 4) ha (Nat.le_of_ble_eq_true rfl)
  rw [e0]
  have hl : lv_has ls 4 [(0, .ref (am 0)), (1, .int x1), (2, .int x2)] := hl
  have key : ∀ Q : State → Prop, (∀ (H : Heap) (locs : List Loc) (pc : Nat) (ls : Array Slot), va_P D vwCl (wMo T am mguests mclause mdeeds masked mupper mlower mfinding mreadGuests misSight mat zmrowSizes zmrows mtextSizes mtexts mdoes mkinds msees mnow mbefore mkeeps mkept mfindings mread zmaside msteps mtried mbest) H → va_D A (wMo T am mguests mclause mdeeds masked mupper mlower mfinding mreadGuests misSight mat zmrowSizes zmrows mtextSizes mtexts mdoes mkinds msees mnow mbefore mkeeps mkept mfindings mread zmaside msteps mtried mbest) → va_S A s.heap H locs → decode cX6_first pc = .ok (.ireturn, 1) → W p l e ({ frames := 5, cells := 0, slots := 0, locals := 117 } : Room) s m args below meth c H locs 0 0 Q (F0 m pc ls [.int r])) → W p l e ({ frames := 5, cells := 0, slots := 0, locals := 117 } : Room) s m args below meth c s.heap [] 0 0 Q (F0 m 0 ls []) := by
    intro Q hret
    skip
    have l28 : ∀ x1 : Int32, ∀ x2 : Int32, ∀ mrowSizes : Nat → Int32, ∀ mrows : Nat → Int32, ∀ nu : Nat, ∀ x3 : Int32, ∀ maside : Nat → Int32, fX6_first_l28 F mguests mclause mdoes mkinds msees mnow x1 x2 mrowSizes mrows nu x3 maside = some (r, zmrowSizes, zmrows, zmaside) → ∀ (H : Heap) (locs : List Loc), va_P D vwCl (wMo T am mguests mclause mdeeds masked mupper mlower mfinding mreadGuests misSight mat mrowSizes mrows mtextSizes mtexts mdoes mkinds msees mnow mbefore mkeeps mkept mfindings mread maside msteps mtried mbest) H → va_D A (wMo T am mguests mclause mdeeds masked mupper mlower mfinding mreadGuests misSight mat mrowSizes mrows mtextSizes mtexts mdoes mkinds msees mnow mbefore mkeeps mkept mfindings mread maside msteps mtried mbest) → va_S A s.heap H locs → ∀ (ls : Array Slot), lv_has ls 4 [(0, .ref (am 0)), (1, .int x1), (2, .int x2), (3, .int x3)] → W p l e ({ frames := 5, cells := 0, slots := 0, locals := 117 } : Room) s m args below meth c H locs 0 0 Q (F0 m 28 ls []) := by
      intro x1 x2 mrowSizes mrows
      intro nu
      induction nu with
      | zero => intro x3 maside h; exact none_some h
      | succ nu28 ih28 =>
        intro x3 maside h H locs hP hD hS ls hl
        have h : fX6_first_l28_b F mguests mclause mdoes mkinds msees mnow x1 x2 mrowSizes mrows (fX6_first_l28 F mguests mclause mdoes mkinds msees mnow x1 x2 mrowSizes mrows nu28) x3 maside = some (r, zmrowSizes, zmrows, zmaside) := h
        unfold fX6_first_l28_b at h
        refine lv_iload_n hx hb dX6_first_28 rfl (lv_at hl 3 rfl) ?_
        refine lv_iload_n hx hb dX6_first_29 rfl (lv_at hl 1 rfl) ?_
        obtain ⟨r30, hc, h⟩ := bd1_some h
        refine my_roi (va_Run.run (va_runS (As := [.int x1]) (rest := [.int x3]) hFix (kX6_codes l D T F x1 r30 hc) (va_cwS 1 hts gX6_first_X6_codes rfl rfl rfl hd_X6_codes ⟨Nat.le_of_ble_eq_true rfl, Nat.le_of_ble_eq_true rfl⟩) (preS_ro va_nil hKK) rfl rfl hl.1 rfl (lv_room (Nat.le_of_ble_eq_true rfl)) dX6_first_30 ⟨Nat.zero_le _, Nat.zero_le _⟩)) ?_
        refine lv_icmp_ge (tgt := 60) hx hb dX6_first_33 (by decide) (fun c33 => ?_) (fun c33 => ?_)
        · have h := br_1 h c33
          refine lv_bipush (v := (-9 : Int32)) hx hb dX6_first_60 (by decide) ?_
          cases h
          exact hret _ _ _ _ hP hD hS dX6_first_62
        · have h := br_0 h c33
          refine lv_aload_n hx hb dX6_first_36 rfl (lv_at hl 0 rfl) ?_
          refine lv_iload_n hx hb dX6_first_37 rfl (lv_at hl 1 rfl) ?_
          refine lv_iload_n hx hb dX6_first_38 rfl (lv_at hl 3 rfl) ?_
          obtain ⟨r39, w39_maside, hc, h⟩ := bd2_some h
          have hFc := my_freeS hD hS hA
          refine my_rwi (va_runV (As := [.int x1, .int x3]) (rest := []) hFix (kX6_fallen l D T F am mguests mclause mdeeds masked mupper mlower mfinding mreadGuests misSight mat mrowSizes mrows mtextSizes mtexts mdoes mkinds msees mnow mbefore mkeeps mkept mfindings mread maside msteps mtried mbest x1 x3 r39 w39_maside hc) (cwV 2 hts gX6_first_X6_fallen rfl rfl rfl ⟨rfl, hd_X6_fallen⟩ ⟨Nat.le_of_ble_eq_true rfl, Nat.le_of_ble_eq_true rfl⟩) (preV_rw hP hKK hD (va_recv hK hP (ci := 4) (q0 := 0) rfl wMo_0)) rfl rfl hl.1 rfl (lv_room (Nat.le_of_ble_eq_true rfl)) dX6_first_39 ⟨Nat.zero_le _, Nat.zero_le _⟩) hS hFc (fun H1 locs hP1 hD1 hz1 hk1 hS => ?_)
          have hP : va_P D vwCl (wMo T am mguests mclause mdeeds masked mupper mlower mfinding mreadGuests misSight mat mrowSizes mrows mtextSizes mtexts mdoes mkinds msees mnow mbefore mkeeps mkept mfindings mread w39_maside msteps mtried mbest) H1 := hP1
          have hD : va_D A (wMo T am mguests mclause mdeeds masked mupper mlower mfinding mreadGuests misSight mat mrowSizes mrows mtextSizes mtexts mdoes mkinds msees mnow mbefore mkeeps mkept mfindings mread w39_maside msteps mtried mbest) := hD1.weaken (fun _ q _ h => hFc q.1 h)
          generalize H1 = H at hP hS ⊢
          refine lv_if_ne (tgt := 54) hx hb dX6_first_42 (by decide) (fun c42 => ?_) (fun c42 => ?_)
          · have h := br_0 h c42
            refine lv_iinc (v := (x3 + (1 : Int32))) (lv' := [(3, .int (x3 + (1 : Int32))), (0, .ref (am 0)), (1, .int x1), (2, .int x2)]) hx hb dX6_first_54 hl (k := 3) rfl rfl (by decide) rfl (fun ls hl => ?_)
            refine lv_goto (tgt := 28) hx hb dX6_first_57 (by decide) ?_
            exact ih28 (x3 + (1 : Int32)) w39_maside h _ _ hP hD hS _ (lv_sub hl [1, 2, 3, 0] rfl)
          · have h := br_1 h c42
            refine lv_aload_n hx hb dX6_first_45 rfl (lv_at hl 0 rfl) ?_
            refine lv_iload_n hx hb dX6_first_46 rfl (lv_at hl 1 rfl) ?_
            refine lv_iload_n hx hb dX6_first_47 rfl (lv_at hl 3 rfl) ?_
            refine lv_iload_n hx hb dX6_first_48 rfl (lv_at hl 2 rfl) ?_
            obtain ⟨w49_mrowSizes, w49_mrows, hc, h⟩ := bd2_some h
            have hFc := my_freeS hD hS hA
            refine my_rwv (va_runV (As := [.int x1, .int x3, .int x2]) (rest := []) hFix (kX6_layProgramme l D T F am mguests mclause mdeeds masked mupper mlower mfinding mreadGuests misSight mat mrowSizes mrows mtextSizes mtexts mdoes mkinds msees mnow mbefore mkeeps mkept mfindings mread w39_maside msteps mtried mbest x1 x3 x2 w49_mrowSizes w49_mrows hc) (cwV 3 hts gX6_first_X6_layProgramme rfl rfl rfl ⟨rfl, hd_X6_layProgramme⟩ ⟨Nat.le_of_ble_eq_true rfl, Nat.le_of_ble_eq_true rfl⟩) (preV_rw hP hKK hD (va_recv hK hP (ci := 4) (q0 := 0) rfl wMo_0)) rfl rfl hl.1 rfl (lv_room (Nat.le_of_ble_eq_true rfl)) dX6_first_49 ⟨Nat.zero_le _, Nat.zero_le _⟩) hS hFc (fun H1 locs hP1 hD1 hz1 hk1 hS => ?_)
            have hP : va_P D vwCl (wMo T am mguests mclause mdeeds masked mupper mlower mfinding mreadGuests misSight mat w49_mrowSizes w49_mrows mtextSizes mtexts mdoes mkinds msees mnow mbefore mkeeps mkept mfindings mread w39_maside msteps mtried mbest) H1 := hP1
            have hD : va_D A (wMo T am mguests mclause mdeeds masked mupper mlower mfinding mreadGuests misSight mat w49_mrowSizes w49_mrows mtextSizes mtexts mdoes mkinds msees mnow mbefore mkeeps mkept mfindings mread w39_maside msteps mtried mbest) := hD1.weaken (fun _ q _ h => hFc q.1 h)
            generalize H1 = H at hP hS ⊢
            refine lv_iload_n hx hb dX6_first_52 rfl (lv_at hl 1 rfl) ?_
            cases h
            exact hret _ _ _ _ hP hD hS dX6_first_53
    unfold fX6_first at h
    refine lv_iload_n hx hb dX6_first_0 rfl (lv_at hl 1 rfl) ?_
    obtain ⟨r1, hc, h⟩ := bd1_some h
    refine my_roz (va_Run.run (va_runS (As := [.int x1]) (rest := []) hFix (kX6_isLength l D T F x1 r1 hc) (va_cwS 1 hts gX6_first_X6_isLength rfl rfl rfl hd_X6_isLength ⟨Nat.le_of_ble_eq_true rfl, Nat.le_of_ble_eq_true rfl⟩) (preS_ro va_nil hKK) rfl rfl hl.1 rfl (lv_room (Nat.le_of_ble_eq_true rfl)) dX6_first_1 ⟨Nat.zero_le _, Nat.zero_le _⟩)) (fun hb1 => ?_)
    refine lv_if_eq (tgt := 14) hx hb dX6_first_4 (by decide) (fun c4 => ?_) (fun c4 => ?_)
    · have h := br_1 h c4
      refine lv_iconst (v := (-1 : Int32)) hx hb dX6_first_14 (by decide) ?_
      cases h
      exact hret _ _ _ _ hP hD hS dX6_first_15
    · have h := br_0 h c4
      refine lv_iload_n hx hb dX6_first_7 rfl (lv_at hl 2 rfl) ?_
      obtain ⟨r8, hc, h⟩ := bd1_some h
      refine my_roz (va_Run.run (va_runS (As := [.int x2]) (rest := []) hFix (kX6_isRow l D T F x2 r8 hc) (va_cwS 1 hts gX6_first_X6_isRow rfl rfl rfl hd_X6_isRow ⟨Nat.le_of_ble_eq_true rfl, Nat.le_of_ble_eq_true rfl⟩) (preS_ro va_nil hKK) rfl rfl hl.1 rfl (lv_room (Nat.le_of_ble_eq_true rfl)) dX6_first_8 ⟨Nat.zero_le _, Nat.zero_le _⟩)) (fun hb8 => ?_)
      refine lv_if_ne (tgt := 16) hx hb dX6_first_11 (by decide) (fun c11 => ?_) (fun c11 => ?_)
      · have h := br_0 h c11
        refine lv_aload_n hx hb dX6_first_16 rfl (lv_at hl 0 rfl) ?_
        refine va_get (D := D) (ci := 4) (C := RX6) (T := TX6) (N := 27) hx hb hts iX6 hown hK hP 0 wMo_0 rfl 4 (by decide) q1 (fun _ h9 => h9) rfl dX6_first_17 ?_
        refine lv_if_ne (tgt := 26) hx hb dX6_first_20 (by decide) (fun c20 => ?_) (fun c20 => ?_)
        · have h := br_0 h c20
          refine lv_iconst (v := (0 : Int32)) hx hb dX6_first_26 (by decide) ?_
          refine lv_istore_n (lv' := [(3, .int (0 : Int32)), (0, .ref (am 0)), (1, .int x1), (2, .int x2)]) hx hb dX6_first_27 rfl hl (by decide) rfl (fun ls hl => ?_)
          exact l28 x1 x2 mrowSizes mrows F (0 : Int32) maside h _ _ hP hD hS _ (lv_sub hl [1, 2, 3, 0] rfl)
        · have h := br_1 h c20
          refine lv_bipush (v := (-4 : Int32)) hx hb dX6_first_23 (by decide) ?_
          cases h
          exact hret _ _ _ _ hP hD hS dX6_first_25
      · have h := br_1 h c11
        refine lv_iconst (v := (-1 : Int32)) hx hb dX6_first_14 (by decide) ?_
        cases h
        exact hret _ _ _ _ hP hD hS dX6_first_15
  exact key _ (fun H locs pc ls hP hD hS hd => W.iret hx hb hr (fun t ht hW => ⟨⟨_, (), rfl, rfl, by show _ ∧ _; rw [ht]; exact ⟨hP, hD⟩⟩, hS.F ht⟩) hS.2.2 hd)
set_option maxHeartbeats 4000000 in
set_option maxRecDepth 100000 in
theorem kX6_fewest (l : Launch) (D : va_G) (T : Nat → ClassId) (F : Nat) (am : Nat → Nat) (mguests : Int32) (mclause : Int32) (mdeeds : Int32) (masked : Int32) (mupper : Int64) (mlower : Int64) (mfinding : Int32) (mreadGuests : Int32) (misSight : Int32) (mat : Int32) (mrowSizes : Nat → Int32) (mrows : Nat → Int32) (mtextSizes : Nat → Int32) (mtexts : Nat → Int32) (mdoes : Nat → Int32) (mkinds : Nat → Int32) (msees : Nat → Int32) (mnow : Nat → Int32) (mbefore : Nat → Int32) (mkeeps : Nat → Int32) (mkept : Nat → Int32) (mfindings : Nat → Int32) (mread : Nat → Int32) (maside : Nat → Int32) (msteps : Nat → Int32) (mtried : Nat → Int32) (mbest : Nat → Int32) (x1 : Int32) (x2 : Int32) (r : Int32) (zmrowSizes : Nat → Int32) (zmrows : Nat → Int32) (zmaside : Nat → Int32) (h : fX6_fewest F mguests mclause mrowSizes mrows mdoes mkinds msees mnow maside x1 x2 = some (r, zmrowSizes, zmrows, zmaside)) : ∀ sz : Nat, Met l yX6_fewest wsX6_fewest ({ frames := 5, cells := 0, slots := 0, locals := 117 } : Room) (va_Pc [.ref (am 0), .int x1, .int x2] (fun U => U.heap.size = sz ∧ va_P D vwCl (wMo T am mguests mclause mdeeds masked mupper mlower mfinding mreadGuests misSight mat mrowSizes mrows mtextSizes mtexts mdoes mkinds msees mnow mbefore mkeeps mkept mfindings mread maside msteps mtried mbest) U.heap ∧ KK D T U ∧ va_D (fun _ => True) (wMo T am mguests mclause mdeeds masked mupper mlower mfinding mreadGuests misSight mat mrowSizes mrows mtextSizes mtexts mdoes mkinds msees mnow mbefore mkeeps mkept mfindings mread maside msteps mtried mbest))) (va_Qi (fun r' (_ : Unit) => r' = r) (fun _ t => va_P D vwCl (wMo T am mguests mclause mdeeds masked mupper mlower mfinding mreadGuests misSight mat zmrowSizes zmrows mtextSizes mtexts mdoes mkinds msees mnow mbefore mkeeps mkept mfindings mread zmaside msteps mtried mbest) t.heap ∧ va_D (va_A (wMo T am mguests mclause mdeeds masked mupper mlower mfinding mreadGuests misSight mat mrowSizes mrows mtextSizes mtexts mdoes mkinds msees mnow mbefore mkeeps mkept mfindings mread maside msteps mtried mbest) sz) (wMo T am mguests mclause mdeeds masked mupper mlower mfinding mreadGuests misSight mat zmrowSizes zmrows mtextSizes mtexts mdoes mkinds msees mnow mbefore mkeeps mkept mfindings mread zmaside msteps mtried mbest)) (va_A (wMo T am mguests mclause mdeeds masked mupper mlower mfinding mreadGuests misSight mat mrowSizes mrows mtextSizes mtexts mdoes mkinds msees mnow mbefore mkeeps mkept mfindings mread maside msteps mtried mbest) sz)) 0 0 (va_A (wMo T am mguests mclause mdeeds masked mupper mlower mfinding mreadGuests misSight mat mrowSizes mrows mtextSizes mtexts mdoes mkinds msees mnow mbefore mkeeps mkept mfindings mread maside msteps mtried mbest) sz) := by
  intro sz
  refine Met.ofW (cc := cX6_fewest) (maxL := 7) (ret := some .int) (by decide) rfl ?_
  intro p e s m args below meth c s₁ B hml hv
  obtain ⟨ha, hsz, hP, hKK, hD0⟩ := hv
  have hx := B.exec
  have hb := B.bytes
  have hr := B.returns
  have hts := atoms_spec (ws := wsX6_fewest) B.pre
  have hown : s.vm.findClass RX6 = some m.cls := findClass_of_methodNamed B.named
  have hlocks := B.notSynchronized
  have hK := hKK.1
  have hFix : CallFix p m c cX6_fewest 7 s args wsX6_fewest RX6 := ⟨hx, hb, hml, hown, hts⟩
  have q1 := hts _ (List.mem_of_getElem? (i := 1) (show wsX6_fewest[1]? = some (Cond.fieldLink RX6 131 "PartyWillModel" "guests" "I") from rfl))
  have q2 := hts _ (List.mem_of_getElem? (i := 2) (show wsX6_fewest[2]? = some (Cond.constant RX6 237 (1000000)) from rfl))
  have iX6 : ∀ w ∈ u_ws RX6 TX6 27, w ∈ wsX6_fewest := fun w h => List.mem_cons_of_mem _ (List.mem_append_right _ (h))
  subst hsz
  have hD := hD0.self (sz := s.heap.size)
  generalize hAe : va_A (wMo T am mguests mclause mdeeds masked mupper mlower mfinding mreadGuests misSight mat mrowSizes mrows mtextSizes mtexts mdoes mkinds msees mnow mbefore mkeeps mkept mfindings mread maside msteps mtried mbest) s.heap.size = A at hD ⊢
  have hA : ∀ q : Nat, s.heap.size ≤ q → A q := fun q h => by rw [← hAe]; exact Or.inr h
  have hS : va_S A s.heap s.heap [] := va_S.rf
  have hP : va_P D vwCl (wMo T am mguests mclause mdeeds masked mupper mlower mfinding mreadGuests misSight mat mrowSizes mrows mtextSizes mtexts mdoes mkinds msees mnow mbefore mkeeps mkept mfindings mread maside msteps mtried mbest) s.heap := hP
  obtain ⟨ls, hl, e0⟩ := my_entry (m := m) (n := 7) ha (Nat.le_of_ble_eq_true rfl)
  rw [e0]
  have hl : lv_has ls 7 [(0, .ref (am 0)), (1, .int x1), (2, .int x2)] := hl
  have key : ∀ Q : State → Prop, (∀ (H : Heap) (locs : List Loc) (pc : Nat) (ls : Array Slot), va_P D vwCl (wMo T am mguests mclause mdeeds masked mupper mlower mfinding mreadGuests misSight mat zmrowSizes zmrows mtextSizes mtexts mdoes mkinds msees mnow mbefore mkeeps mkept mfindings mread zmaside msteps mtried mbest) H → va_D A (wMo T am mguests mclause mdeeds masked mupper mlower mfinding mreadGuests misSight mat zmrowSizes zmrows mtextSizes mtexts mdoes mkinds msees mnow mbefore mkeeps mkept mfindings mread zmaside msteps mtried mbest) → va_S A s.heap H locs → decode cX6_fewest pc = .ok (.ireturn, 1) → W p l e ({ frames := 5, cells := 0, slots := 0, locals := 117 } : Room) s m args below meth c H locs 0 0 Q (F0 m pc ls [.int r])) → W p l e ({ frames := 5, cells := 0, slots := 0, locals := 117 } : Room) s m args below meth c s.heap [] 0 0 Q (F0 m 0 ls []) := by
    intro Q hret
    skip
    have l35 : ∀ x1 : Int32, ∀ x2 : Int32, ∀ mrowSizes : Nat → Int32, ∀ mrows : Nat → Int32, ∀ nu : Nat, ∀ x3 : Int32, ∀ x4 : Int32, ∀ x5 : Int32, ∀ maside : Nat → Int32, fX6_fewest_l35 F mguests mclause mdoes mkinds msees mnow x1 x2 mrowSizes mrows nu x3 x4 x5 maside = some (r, zmrowSizes, zmrows, zmaside) → ∀ (H : Heap) (locs : List Loc), va_P D vwCl (wMo T am mguests mclause mdeeds masked mupper mlower mfinding mreadGuests misSight mat mrowSizes mrows mtextSizes mtexts mdoes mkinds msees mnow mbefore mkeeps mkept mfindings mread maside msteps mtried mbest) H → va_D A (wMo T am mguests mclause mdeeds masked mupper mlower mfinding mreadGuests misSight mat mrowSizes mrows mtextSizes mtexts mdoes mkinds msees mnow mbefore mkeeps mkept mfindings mread maside msteps mtried mbest) → va_S A s.heap H locs → ∀ (ls : Array Slot), lv_has ls 7 [(0, .ref (am 0)), (1, .int x1), (2, .int x2), (3, .int x3), (4, .int x4), (5, .int x5)] → W p l e ({ frames := 5, cells := 0, slots := 0, locals := 117 } : Room) s m args below meth c H locs 0 0 Q (F0 m 35 ls []) := by
      intro x1 x2 mrowSizes mrows
      intro nu
      induction nu with
      | zero => intro x3 x4 x5 maside h; exact none_some h
      | succ nu35 ih35 =>
        intro x3 x4 x5 maside h H locs hP hD hS ls hl
        have n66 : ∀ s_0 : Int32, ∀ x1 : Int32, ∀ x2 : Int32, ∀ x4 : Int32, ∀ x5 : Int32, ∀ x6 : Int32, ∀ mrowSizes : Nat → Int32, ∀ mrows : Nat → Int32, ∀ maside : Nat → Int32, fX6_fewest_n66 F (fX6_fewest_l35 F mguests mclause mdoes mkinds msees mnow x1 x2 mrowSizes mrows nu35) mguests mclause mdoes mkinds msees mnow s_0 x1 x2 x4 x5 x6 mrowSizes mrows maside = some (r, zmrowSizes, zmrows, zmaside) → ∀ (H : Heap) (locs : List Loc), va_P D vwCl (wMo T am mguests mclause mdeeds masked mupper mlower mfinding mreadGuests misSight mat mrowSizes mrows mtextSizes mtexts mdoes mkinds msees mnow mbefore mkeeps mkept mfindings mread maside msteps mtried mbest) H → va_D A (wMo T am mguests mclause mdeeds masked mupper mlower mfinding mreadGuests misSight mat mrowSizes mrows mtextSizes mtexts mdoes mkinds msees mnow mbefore mkeeps mkept mfindings mread maside msteps mtried mbest) → va_S A s.heap H locs → ∀ (ls : Array Slot), lv_has ls 7 [(0, .ref (am 0)), (1, .int x1), (2, .int x2), (4, .int x4), (5, .int x5), (6, .int x6)] → W p l e ({ frames := 5, cells := 0, slots := 0, locals := 117 } : Room) s m args below meth c H locs 0 0 Q (F0 m 66 ls [.int s_0]) := by
          intro s_0 x1 x2 x4 x5 x6 mrowSizes mrows maside h H locs hP hD hS ls hl
          unfold fX6_fewest_n66 at h
          refine lv_istore_n (lv' := [(3, .int s_0), (0, .ref (am 0)), (1, .int x1), (2, .int x2), (4, .int x4), (5, .int x5), (6, .int x6)]) hx hb dX6_fewest_66 rfl hl (by decide) rfl (fun ls hl => ?_)
          refine lv_iload hx hb dX6_fewest_67 (lv_at hl 6 rfl) ?_
          refine lv_iload hx hb dX6_fewest_69 (lv_at hl 4 rfl) ?_
          refine lv_icmp_ge (tgt := 79) hx hb dX6_fewest_71 (by decide) (fun c71 => ?_) (fun c71 => ?_)
          · have h := br_1 h c71
            refine lv_iload hx hb dX6_fewest_79 (lv_at hl 4 rfl) ?_
            refine lv_istore (lv' := [(4, .int x4), (3, .int s_0), (0, .ref (am 0)), (1, .int x1), (2, .int x2), (5, .int x5), (6, .int x6)]) hx hb dX6_fewest_81 hl (by decide) rfl (fun ls hl => ?_)
            refine lv_iinc (v := (x5 + (1 : Int32))) (lv' := [(5, .int (x5 + (1 : Int32))), (4, .int x4), (3, .int s_0), (0, .ref (am 0)), (1, .int x1), (2, .int x2), (6, .int x6)]) hx hb dX6_fewest_83 hl (k := 5) rfl rfl (by decide) rfl (fun ls hl => ?_)
            refine lv_goto (tgt := 35) hx hb dX6_fewest_86 (by decide) ?_
            exact ih35 s_0 x4 (x5 + (1 : Int32)) maside h _ _ hP hD hS _ (lv_sub hl [3, 4, 5, 2, 1, 0] rfl)
          · have h := br_0 h c71
            refine lv_iload hx hb dX6_fewest_74 (lv_at hl 6 rfl) ?_
            refine lv_goto (tgt := 81) hx hb dX6_fewest_76 (by decide) ?_
            refine lv_istore (lv' := [(4, .int x6), (3, .int s_0), (0, .ref (am 0)), (1, .int x1), (2, .int x2), (5, .int x5), (6, .int x6)]) hx hb dX6_fewest_81 hl (by decide) rfl (fun ls hl => ?_)
            refine lv_iinc (v := (x5 + (1 : Int32))) (lv' := [(5, .int (x5 + (1 : Int32))), (4, .int x6), (3, .int s_0), (0, .ref (am 0)), (1, .int x1), (2, .int x2), (6, .int x6)]) hx hb dX6_fewest_83 hl (k := 5) rfl rfl (by decide) rfl (fun ls hl => ?_)
            refine lv_goto (tgt := 35) hx hb dX6_fewest_86 (by decide) ?_
            exact ih35 s_0 x6 (x5 + (1 : Int32)) maside h _ _ hP hD hS _ (lv_sub hl [3, 4, 5, 2, 1, 0] rfl)
        have h : fX6_fewest_l35_b F mguests mclause mdoes mkinds msees mnow x1 x2 mrowSizes mrows (fX6_fewest_l35 F mguests mclause mdoes mkinds msees mnow x1 x2 mrowSizes mrows nu35) x3 x4 x5 maside = some (r, zmrowSizes, zmrows, zmaside) := h
        unfold fX6_fewest_l35_b at h
        refine lv_iload hx hb dX6_fewest_35 (lv_at hl 5 rfl) ?_
        refine lv_iload_n hx hb dX6_fewest_37 rfl (lv_at hl 1 rfl) ?_
        obtain ⟨r38, hc, h⟩ := bd1_some h
        refine my_roi (va_Run.run (va_runS (As := [.int x1]) (rest := [.int x5]) hFix (kX6_codes l D T F x1 r38 hc) (va_cwS 1 hts gX6_fewest_X6_codes rfl rfl rfl hd_X6_codes ⟨Nat.le_of_ble_eq_true rfl, Nat.le_of_ble_eq_true rfl⟩) (preS_ro va_nil hKK) rfl rfl hl.1 rfl (lv_room (Nat.le_of_ble_eq_true rfl)) dX6_fewest_38 ⟨Nat.zero_le _, Nat.zero_le _⟩)) ?_
        refine lv_icmp_ge (tgt := 89) hx hb dX6_fewest_41 (by decide) (fun c41 => ?_) (fun c41 => ?_)
        · have h := br_1 h c41
          refine lv_aload_n hx hb dX6_fewest_89 rfl (lv_at hl 0 rfl) ?_
          refine lv_iload_n hx hb dX6_fewest_90 rfl (lv_at hl 1 rfl) ?_
          refine lv_iload_n hx hb dX6_fewest_91 rfl (lv_at hl 3 rfl) ?_
          refine lv_iload_n hx hb dX6_fewest_92 rfl (lv_at hl 2 rfl) ?_
          obtain ⟨w93_mrowSizes, w93_mrows, hc, h⟩ := bd2_some h
          have hFc := my_freeS hD hS hA
          refine my_rwv (va_runV (As := [.int x1, .int x3, .int x2]) (rest := []) hFix (kX6_layProgramme l D T F am mguests mclause mdeeds masked mupper mlower mfinding mreadGuests misSight mat mrowSizes mrows mtextSizes mtexts mdoes mkinds msees mnow mbefore mkeeps mkept mfindings mread maside msteps mtried mbest x1 x3 x2 w93_mrowSizes w93_mrows hc) (cwV 3 hts gX6_fewest_X6_layProgramme rfl rfl rfl ⟨rfl, hd_X6_layProgramme⟩ ⟨Nat.le_of_ble_eq_true rfl, Nat.le_of_ble_eq_true rfl⟩) (preV_rw hP hKK hD (va_recv hK hP (ci := 4) (q0 := 0) rfl wMo_0)) rfl rfl hl.1 rfl (lv_room (Nat.le_of_ble_eq_true rfl)) dX6_fewest_93 ⟨Nat.zero_le _, Nat.zero_le _⟩) hS hFc (fun H1 locs hP1 hD1 hz1 hk1 hS => ?_)
          have hP : va_P D vwCl (wMo T am mguests mclause mdeeds masked mupper mlower mfinding mreadGuests misSight mat w93_mrowSizes w93_mrows mtextSizes mtexts mdoes mkinds msees mnow mbefore mkeeps mkept mfindings mread maside msteps mtried mbest) H1 := hP1
          have hD : va_D A (wMo T am mguests mclause mdeeds masked mupper mlower mfinding mreadGuests misSight mat w93_mrowSizes w93_mrows mtextSizes mtexts mdoes mkinds msees mnow mbefore mkeeps mkept mfindings mread maside msteps mtried mbest) := hD1.weaken (fun _ q _ h => hFc q.1 h)
          generalize H1 = H at hP hS ⊢
          refine lv_iload hx hb dX6_fewest_96 (lv_at hl 4 rfl) ?_
          cases h
          exact hret _ _ _ _ hP hD hS dX6_fewest_98
        · have h := br_0 h c41
          refine lv_aload_n hx hb dX6_fewest_44 rfl (lv_at hl 0 rfl) ?_
          refine lv_iload_n hx hb dX6_fewest_45 rfl (lv_at hl 1 rfl) ?_
          refine lv_iload hx hb dX6_fewest_46 (lv_at hl 5 rfl) ?_
          obtain ⟨r48, w48_maside, hc, h⟩ := bd2_some h
          have hFc := my_freeS hD hS hA
          refine my_rwi (va_runV (As := [.int x1, .int x5]) (rest := []) hFix (kX6_fallen l D T F am mguests mclause mdeeds masked mupper mlower mfinding mreadGuests misSight mat mrowSizes mrows mtextSizes mtexts mdoes mkinds msees mnow mbefore mkeeps mkept mfindings mread maside msteps mtried mbest x1 x5 r48 w48_maside hc) (cwV 2 hts gX6_fewest_X6_fallen rfl rfl rfl ⟨rfl, hd_X6_fallen⟩ ⟨Nat.le_of_ble_eq_true rfl, Nat.le_of_ble_eq_true rfl⟩) (preV_rw hP hKK hD (va_recv hK hP (ci := 4) (q0 := 0) rfl wMo_0)) rfl rfl hl.1 rfl (lv_room (Nat.le_of_ble_eq_true rfl)) dX6_fewest_48 ⟨Nat.zero_le _, Nat.zero_le _⟩) hS hFc (fun H1 locs hP1 hD1 hz1 hk1 hS => ?_)
          have hP : va_P D vwCl (wMo T am mguests mclause mdeeds masked mupper mlower mfinding mreadGuests misSight mat mrowSizes mrows mtextSizes mtexts mdoes mkinds msees mnow mbefore mkeeps mkept mfindings mread w48_maside msteps mtried mbest) H1 := hP1
          have hD : va_D A (wMo T am mguests mclause mdeeds masked mupper mlower mfinding mreadGuests misSight mat mrowSizes mrows mtextSizes mtexts mdoes mkinds msees mnow mbefore mkeeps mkept mfindings mread w48_maside msteps mtried mbest) := hD1.weaken (fun _ q _ h => hFc q.1 h)
          generalize H1 = H at hP hS ⊢
          refine lv_istore (lv' := [(6, .int r48), (0, .ref (am 0)), (1, .int x1), (2, .int x2), (3, .int x3), (4, .int x4), (5, .int x5)]) hx hb dX6_fewest_51 hl (by decide) rfl (fun ls hl => ?_)
          refine lv_iload hx hb dX6_fewest_53 (lv_at hl 0 rfl) ?_
          refine lv_iload hx hb dX6_fewest_55 (lv_at hl 5 rfl) ?_
          refine lv_icmp_ge (tgt := 65) hx hb dX6_fewest_57 (by decide) (fun c57 => ?_) (fun c57 => ?_)
          · have h := br_1 h c57
            refine lv_iload_n hx hb dX6_fewest_65 rfl (lv_at hl 4 rfl) ?_
            exact n66 x3 x1 x2 x4 x5 r48 mrowSizes mrows w48_maside h _ _ hP hD hS _ (lv_sub hl [1, 2, 3, 5, 6, 0] rfl)
          · have h := br_0 h c57
            refine lv_iload hx hb dX6_fewest_60 (lv_at hl 6 rfl) ?_
            refine lv_goto (tgt := 66) hx hb dX6_fewest_62 (by decide) ?_
            exact n66 x5 x1 x2 x4 x5 r48 mrowSizes mrows w48_maside h _ _ hP hD hS _ (lv_sub hl [1, 2, 3, 5, 6, 0] rfl)
    unfold fX6_fewest at h
    refine lv_iload_n hx hb dX6_fewest_0 rfl (lv_at hl 1 rfl) ?_
    obtain ⟨r1, hc, h⟩ := bd1_some h
    refine my_roz (va_Run.run (va_runS (As := [.int x1]) (rest := []) hFix (kX6_isLength l D T F x1 r1 hc) (va_cwS 1 hts gX6_fewest_X6_isLength rfl rfl rfl hd_X6_isLength ⟨Nat.le_of_ble_eq_true rfl, Nat.le_of_ble_eq_true rfl⟩) (preS_ro va_nil hKK) rfl rfl hl.1 rfl (lv_room (Nat.le_of_ble_eq_true rfl)) dX6_fewest_1 ⟨Nat.zero_le _, Nat.zero_le _⟩)) (fun hb1 => ?_)
    refine lv_if_eq (tgt := 14) hx hb dX6_fewest_4 (by decide) (fun c4 => ?_) (fun c4 => ?_)
    · have h := br_1 h c4
      refine lv_iconst (v := (-1 : Int32)) hx hb dX6_fewest_14 (by decide) ?_
      cases h
      exact hret _ _ _ _ hP hD hS dX6_fewest_15
    · have h := br_0 h c4
      refine lv_iload_n hx hb dX6_fewest_7 rfl (lv_at hl 2 rfl) ?_
      obtain ⟨r8, hc, h⟩ := bd1_some h
      refine my_roz (va_Run.run (va_runS (As := [.int x2]) (rest := []) hFix (kX6_isRow l D T F x2 r8 hc) (va_cwS 1 hts gX6_fewest_X6_isRow rfl rfl rfl hd_X6_isRow ⟨Nat.le_of_ble_eq_true rfl, Nat.le_of_ble_eq_true rfl⟩) (preS_ro va_nil hKK) rfl rfl hl.1 rfl (lv_room (Nat.le_of_ble_eq_true rfl)) dX6_fewest_8 ⟨Nat.zero_le _, Nat.zero_le _⟩)) (fun hb8 => ?_)
      refine lv_if_ne (tgt := 16) hx hb dX6_fewest_11 (by decide) (fun c11 => ?_) (fun c11 => ?_)
      · have h := br_0 h c11
        refine lv_aload_n hx hb dX6_fewest_16 rfl (lv_at hl 0 rfl) ?_
        refine va_get (D := D) (ci := 4) (C := RX6) (T := TX6) (N := 27) hx hb hts iX6 hown hK hP 0 wMo_0 rfl 4 (by decide) q1 (fun _ h9 => h9) rfl dX6_fewest_17 ?_
        refine lv_if_ne (tgt := 26) hx hb dX6_fewest_20 (by decide) (fun c20 => ?_) (fun c20 => ?_)
        · have h := br_0 h c20
          refine lv_iconst (v := (0 : Int32)) hx hb dX6_fewest_26 (by decide) ?_
          refine lv_istore_n (lv' := [(3, .int (0 : Int32)), (0, .ref (am 0)), (1, .int x1), (2, .int x2)]) hx hb dX6_fewest_27 rfl hl (by decide) rfl (fun ls hl => ?_)
          refine lv_ldc (v := (1000000 : Int32)) hx hb hown q2 dX6_fewest_28 ?_
          refine lv_istore (lv' := [(4, .int (1000000 : Int32)), (3, .int (0 : Int32)), (0, .ref (am 0)), (1, .int x1), (2, .int x2)]) hx hb dX6_fewest_30 hl (by decide) rfl (fun ls hl => ?_)
          refine lv_iconst (v := (0 : Int32)) hx hb dX6_fewest_32 (by decide) ?_
          refine lv_istore (lv' := [(5, .int (0 : Int32)), (4, .int (1000000 : Int32)), (3, .int (0 : Int32)), (0, .ref (am 0)), (1, .int x1), (2, .int x2)]) hx hb dX6_fewest_33 hl (by decide) rfl (fun ls hl => ?_)
          exact l35 x1 x2 mrowSizes mrows F (0 : Int32) (1000000 : Int32) (0 : Int32) maside h _ _ hP hD hS _ (lv_sub hl [3, 4, 5, 2, 1, 0] rfl)
        · have h := br_1 h c20
          refine lv_bipush (v := (-4 : Int32)) hx hb dX6_fewest_23 (by decide) ?_
          cases h
          exact hret _ _ _ _ hP hD hS dX6_fewest_25
      · have h := br_1 h c11
        refine lv_iconst (v := (-1 : Int32)) hx hb dX6_fewest_14 (by decide) ?_
        cases h
        exact hret _ _ _ _ hP hD hS dX6_fewest_15
  exact key _ (fun H locs pc ls hP hD hS hd => W.iret hx hb hr (fun t ht hW => ⟨⟨_, (), rfl, rfl, by show _ ∧ _; rw [ht]; exact ⟨hP, hD⟩⟩, hS.F ht⟩) hS.2.2 hd)
set_option maxHeartbeats 4000000 in
set_option maxRecDepth 100000 in
theorem kX6_gay (l : Launch) (D : va_G) (T : Nat → ClassId) (F : Nat) (am : Nat → Nat) (mguests : Int32) (mclause : Int32) (mdeeds : Int32) (masked : Int32) (mupper : Int64) (mlower : Int64) (mfinding : Int32) (mreadGuests : Int32) (misSight : Int32) (mat : Int32) (mrowSizes : Nat → Int32) (mrows : Nat → Int32) (mtextSizes : Nat → Int32) (mtexts : Nat → Int32) (mdoes : Nat → Int32) (mkinds : Nat → Int32) (msees : Nat → Int32) (mnow : Nat → Int32) (mbefore : Nat → Int32) (mkeeps : Nat → Int32) (mkept : Nat → Int32) (mfindings : Nat → Int32) (mread : Nat → Int32) (maside : Nat → Int32) (msteps : Nat → Int32) (mtried : Nat → Int32) (mbest : Nat → Int32) (r : Int32) (zmaside : Nat → Int32) (h : fX6_gay F mguests mclause mdoes mkinds msees mnow maside = some (r, zmaside)) : ∀ sz : Nat, Met l yX6_gay wsX6_gay ({ frames := 5, cells := 0, slots := 0, locals := 117 } : Room) (va_Pc [.ref (am 0)] (fun U => U.heap.size = sz ∧ va_P D vwCl (wMo T am mguests mclause mdeeds masked mupper mlower mfinding mreadGuests misSight mat mrowSizes mrows mtextSizes mtexts mdoes mkinds msees mnow mbefore mkeeps mkept mfindings mread maside msteps mtried mbest) U.heap ∧ KK D T U ∧ va_D (fun _ => True) (wMo T am mguests mclause mdeeds masked mupper mlower mfinding mreadGuests misSight mat mrowSizes mrows mtextSizes mtexts mdoes mkinds msees mnow mbefore mkeeps mkept mfindings mread maside msteps mtried mbest))) (va_Qi (fun r' (_ : Unit) => r' = r) (fun _ t => va_P D vwCl (wMo T am mguests mclause mdeeds masked mupper mlower mfinding mreadGuests misSight mat mrowSizes mrows mtextSizes mtexts mdoes mkinds msees mnow mbefore mkeeps mkept mfindings mread zmaside msteps mtried mbest) t.heap ∧ va_D (va_A (wMo T am mguests mclause mdeeds masked mupper mlower mfinding mreadGuests misSight mat mrowSizes mrows mtextSizes mtexts mdoes mkinds msees mnow mbefore mkeeps mkept mfindings mread maside msteps mtried mbest) sz) (wMo T am mguests mclause mdeeds masked mupper mlower mfinding mreadGuests misSight mat mrowSizes mrows mtextSizes mtexts mdoes mkinds msees mnow mbefore mkeeps mkept mfindings mread zmaside msteps mtried mbest)) (va_A (wMo T am mguests mclause mdeeds masked mupper mlower mfinding mreadGuests misSight mat mrowSizes mrows mtextSizes mtexts mdoes mkinds msees mnow mbefore mkeeps mkept mfindings mread maside msteps mtried mbest) sz)) 0 0 (va_A (wMo T am mguests mclause mdeeds masked mupper mlower mfinding mreadGuests misSight mat mrowSizes mrows mtextSizes mtexts mdoes mkinds msees mnow mbefore mkeeps mkept mfindings mread maside msteps mtried mbest) sz) := by
  intro sz
  refine Met.ofW (cc := cX6_gay) (maxL := 3) (ret := some .int) (by decide) rfl ?_
  intro p e s m args below meth c s₁ B hml hv
  obtain ⟨ha, hsz, hP, hKK, hD0⟩ := hv
  have hx := B.exec
  have hb := B.bytes
  have hr := B.returns
  have hts := atoms_spec (ws := wsX6_gay) B.pre
  have hown : s.vm.findClass RX6 = some m.cls := findClass_of_methodNamed B.named
  have hlocks := B.notSynchronized
  have hK := hKK.1
  have hFix : CallFix p m c cX6_gay 3 s args wsX6_gay RX6 := ⟨hx, hb, hml, hown, hts⟩
  have q1 := hts _ (List.mem_of_getElem? (i := 1) (show wsX6_gay[1]? = some (Cond.fieldLink RX6 131 "PartyWillModel" "guests" "I") from rfl))
  have q2 := hts _ (List.mem_of_getElem? (i := 2) (show wsX6_gay[2]? = some (Cond.fieldLink RX6 54 "PartyWillModel" "aside" "[I") from rfl))
  have iX6 : ∀ w ∈ u_ws RX6 TX6 27, w ∈ wsX6_gay := fun w h => List.mem_cons_of_mem _ (List.mem_append_right _ (h))
  subst hsz
  have hD := hD0.self (sz := s.heap.size)
  generalize hAe : va_A (wMo T am mguests mclause mdeeds masked mupper mlower mfinding mreadGuests misSight mat mrowSizes mrows mtextSizes mtexts mdoes mkinds msees mnow mbefore mkeeps mkept mfindings mread maside msteps mtried mbest) s.heap.size = A at hD ⊢
  have hA : ∀ q : Nat, s.heap.size ≤ q → A q := fun q h => by rw [← hAe]; exact Or.inr h
  have hS : va_S A s.heap s.heap [] := va_S.rf
  have hP : va_P D vwCl (wMo T am mguests mclause mdeeds masked mupper mlower mfinding mreadGuests misSight mat mrowSizes mrows mtextSizes mtexts mdoes mkinds msees mnow mbefore mkeeps mkept mfindings mread maside msteps mtried mbest) s.heap := hP
  obtain ⟨ls, hl, e0⟩ := my_entry (m := m) (n := 3) ha (Nat.le_of_ble_eq_true rfl)
  rw [e0]
  have hl : lv_has ls 3 [(0, .ref (am 0))] := hl
  have key : ∀ Q : State → Prop, (∀ (H : Heap) (locs : List Loc) (pc : Nat) (ls : Array Slot), va_P D vwCl (wMo T am mguests mclause mdeeds masked mupper mlower mfinding mreadGuests misSight mat mrowSizes mrows mtextSizes mtexts mdoes mkinds msees mnow mbefore mkeeps mkept mfindings mread zmaside msteps mtried mbest) H → va_D A (wMo T am mguests mclause mdeeds masked mupper mlower mfinding mreadGuests misSight mat mrowSizes mrows mtextSizes mtexts mdoes mkinds msees mnow mbefore mkeeps mkept mfindings mread zmaside msteps mtried mbest) → va_S A s.heap H locs → decode cX6_gay pc = .ok (.ireturn, 1) → W p l e ({ frames := 5, cells := 0, slots := 0, locals := 117 } : Room) s m args below meth c H locs 0 0 Q (F0 m pc ls [.int r])) → W p l e ({ frames := 5, cells := 0, slots := 0, locals := 117 } : Room) s m args below meth c s.heap [] 0 0 Q (F0 m 0 ls []) := by
    intro Q hret
    skip
    have l12 : ∀ nu : Nat, ∀ x1 : Int32, ∀ maside : Nat → Int32, fX6_gay_l12 F mguests mclause mdoes mkinds msees mnow nu x1 maside = some (r, zmaside) → ∀ (H : Heap) (locs : List Loc), va_P D vwCl (wMo T am mguests mclause mdeeds masked mupper mlower mfinding mreadGuests misSight mat mrowSizes mrows mtextSizes mtexts mdoes mkinds msees mnow mbefore mkeeps mkept mfindings mread maside msteps mtried mbest) H → va_D A (wMo T am mguests mclause mdeeds masked mupper mlower mfinding mreadGuests misSight mat mrowSizes mrows mtextSizes mtexts mdoes mkinds msees mnow mbefore mkeeps mkept mfindings mread maside msteps mtried mbest) → va_S A s.heap H locs → ∀ (ls : Array Slot), lv_has ls 3 [(0, .ref (am 0)), (1, .int x1)] → W p l e ({ frames := 5, cells := 0, slots := 0, locals := 117 } : Room) s m args below meth c H locs 0 0 Q (F0 m 12 ls []) := by
      intro nu
      induction nu with
      | zero => intro x1 maside h; exact none_some h
      | succ nu12 ih12 =>
        intro x1 maside h H locs hP hD hS ls hl
        have l20 : ∀ x1 : Int32, ∀ nu : Nat, ∀ x2 : Int32, ∀ maside : Nat → Int32, fX6_gay_l20 F (fX6_gay_l12 F mguests mclause mdoes mkinds msees mnow nu12) mguests mclause mdoes mkinds msees mnow x1 nu x2 maside = some (r, zmaside) → ∀ (H : Heap) (locs : List Loc), va_P D vwCl (wMo T am mguests mclause mdeeds masked mupper mlower mfinding mreadGuests misSight mat mrowSizes mrows mtextSizes mtexts mdoes mkinds msees mnow mbefore mkeeps mkept mfindings mread maside msteps mtried mbest) H → va_D A (wMo T am mguests mclause mdeeds masked mupper mlower mfinding mreadGuests misSight mat mrowSizes mrows mtextSizes mtexts mdoes mkinds msees mnow mbefore mkeeps mkept mfindings mread maside msteps mtried mbest) → va_S A s.heap H locs → ∀ (ls : Array Slot), lv_has ls 3 [(0, .ref (am 0)), (1, .int x1), (2, .int x2)] → W p l e ({ frames := 5, cells := 0, slots := 0, locals := 117 } : Room) s m args below meth c H locs 0 0 Q (F0 m 20 ls []) := by
          intro x1
          intro nu
          induction nu with
          | zero => intro x2 maside h; exact none_some h
          | succ nu20 ih20 =>
            intro x2 maside h H locs hP hD hS ls hl
            have h : fX6_gay_l20_b F (fX6_gay_l12 F mguests mclause mdoes mkinds msees mnow nu12) mguests mclause mdoes mkinds msees mnow x1 (fX6_gay_l20 F (fX6_gay_l12 F mguests mclause mdoes mkinds msees mnow nu12) mguests mclause mdoes mkinds msees mnow x1 nu20) x2 maside = some (r, zmaside) := h
            unfold fX6_gay_l20_b at h
            refine lv_iload_n hx hb dX6_gay_20 rfl (lv_at hl 2 rfl) ?_
            refine lv_iload_n hx hb dX6_gay_21 rfl (lv_at hl 1 rfl) ?_
            obtain ⟨r22, hc, h⟩ := bd1_some h
            refine my_roi (va_Run.run (va_runS (As := [.int x1]) (rest := [.int x2]) hFix (kX6_codes l D T F x1 r22 hc) (va_cwS 1 hts gX6_gay_X6_codes rfl rfl rfl hd_X6_codes ⟨Nat.le_of_ble_eq_true rfl, Nat.le_of_ble_eq_true rfl⟩) (preS_ro va_nil hKK) rfl rfl hl.1 rfl (lv_room (Nat.le_of_ble_eq_true rfl)) dX6_gay_22 ⟨Nat.zero_le _, Nat.zero_le _⟩)) ?_
            refine lv_icmp_ge (tgt := 55) hx hb dX6_gay_25 (by decide) (fun c25 => ?_) (fun c25 => ?_)
            · have h := br_1 h c25
              refine lv_iinc (v := (x1 + (1 : Int32))) (lv' := [(1, .int (x1 + (1 : Int32))), (0, .ref (am 0)), (2, .int x2)]) hx hb dX6_gay_55 hl (k := 1) rfl rfl (by decide) rfl (fun ls hl => ?_)
              refine lv_goto (tgt := 12) hx hb dX6_gay_58 (by decide) ?_
              exact ih12 (x1 + (1 : Int32)) maside h _ _ hP hD hS _ (lv_sub hl [1, 0] rfl)
            · have h := br_0 h c25
              refine lv_aload_n hx hb dX6_gay_28 rfl (lv_at hl 0 rfl) ?_
              refine lv_iload_n hx hb dX6_gay_29 rfl (lv_at hl 1 rfl) ?_
              refine lv_iload_n hx hb dX6_gay_30 rfl (lv_at hl 2 rfl) ?_
              obtain ⟨r31, w31_maside, hc, h⟩ := bd2_some h
              have hFc := my_freeS hD hS hA
              refine my_rwi (va_runV (As := [.int x1, .int x2]) (rest := []) hFix (kX6_fallen l D T F am mguests mclause mdeeds masked mupper mlower mfinding mreadGuests misSight mat mrowSizes mrows mtextSizes mtexts mdoes mkinds msees mnow mbefore mkeeps mkept mfindings mread maside msteps mtried mbest x1 x2 r31 w31_maside hc) (cwV 2 hts gX6_gay_X6_fallen rfl rfl rfl ⟨rfl, hd_X6_fallen⟩ ⟨Nat.le_of_ble_eq_true rfl, Nat.le_of_ble_eq_true rfl⟩) (preV_rw hP hKK hD (va_recv hK hP (ci := 4) (q0 := 0) rfl wMo_0)) rfl rfl hl.1 rfl (lv_room (Nat.le_of_ble_eq_true rfl)) dX6_gay_31 ⟨Nat.zero_le _, Nat.zero_le _⟩) hS hFc (fun H1 locs hP1 hD1 hz1 hk1 hS => ?_)
              have hP : va_P D vwCl (wMo T am mguests mclause mdeeds masked mupper mlower mfinding mreadGuests misSight mat mrowSizes mrows mtextSizes mtexts mdoes mkinds msees mnow mbefore mkeeps mkept mfindings mread w31_maside msteps mtried mbest) H1 := hP1
              have hD : va_D A (wMo T am mguests mclause mdeeds masked mupper mlower mfinding mreadGuests misSight mat mrowSizes mrows mtextSizes mtexts mdoes mkinds msees mnow mbefore mkeeps mkept mfindings mread w31_maside msteps mtried mbest) := hD1.weaken (fun _ q _ h => hFc q.1 h)
              generalize H1 = H at hP hS ⊢
              refine lv_if_ne (tgt := 49) hx hb dX6_gay_34 (by decide) (fun c34 => ?_) (fun c34 => ?_)
              · have h := br_0 h c34
                refine lv_iinc (v := (x2 + (1 : Int32))) (lv' := [(2, .int (x2 + (1 : Int32))), (0, .ref (am 0)), (1, .int x1)]) hx hb dX6_gay_49 hl (k := 2) rfl rfl (by decide) rfl (fun ls hl => ?_)
                refine lv_goto (tgt := 20) hx hb dX6_gay_52 (by decide) ?_
                exact ih20 (x2 + (1 : Int32)) w31_maside h _ _ hP hD hS _ (lv_sub hl [1, 2, 0] rfl)
              · have h := br_1 h c34
                refine lv_aload_n hx hb dX6_gay_37 rfl (lv_at hl 0 rfl) ?_
                refine va_get (D := D) (ci := 4) (C := RX6) (T := TX6) (N := 27) hx hb hts iX6 hown hK hP 0 wMo_0 rfl 23 (by decide) q2 (fun _ h9 => h9) rfl dX6_gay_38 ?_
                obtain ⟨r41, hc, h⟩ := bd1_some h
                have hPc : va_P D vwCl (wA1 T (am 14) 7 w31_maside) H := my_subP sb_wMo_wA1_14 hP
                refine my_roi (va_Run.run (va_runS (As := [.ref (am 14)]) (rest := []) hFix (kX6_sumOf l D T F (am 14) 7 w31_maside r41 hc) (va_cwS 1 hts gX6_gay_X6_sumOf rfl rfl rfl hd_X6_sumOf ⟨Nat.le_of_ble_eq_true rfl, Nat.le_of_ble_eq_true rfl⟩) (preS_ro hPc hKK) rfl rfl hl.1 rfl (lv_room (Nat.le_of_ble_eq_true rfl)) dX6_gay_41 ⟨Nat.zero_le _, Nat.zero_le _⟩)) ?_
                refine lv_if_ne (tgt := 49) hx hb dX6_gay_44 (by decide) (fun c44 => ?_) (fun c44 => ?_)
                · have h := br_0 h c44
                  refine lv_iinc (v := (x2 + (1 : Int32))) (lv' := [(2, .int (x2 + (1 : Int32))), (0, .ref (am 0)), (1, .int x1)]) hx hb dX6_gay_49 hl (k := 2) rfl rfl (by decide) rfl (fun ls hl => ?_)
                  refine lv_goto (tgt := 20) hx hb dX6_gay_52 (by decide) ?_
                  exact ih20 (x2 + (1 : Int32)) w31_maside h _ _ hP hD hS _ (lv_sub hl [1, 2, 0] rfl)
                · have h := br_1 h c44
                  refine lv_iload_n hx hb dX6_gay_47 rfl (lv_at hl 1 rfl) ?_
                  cases h
                  exact hret _ _ _ _ hP hD hS dX6_gay_48
        have h : fX6_gay_l12_b F mguests mclause mdoes mkinds msees mnow (fX6_gay_l12 F mguests mclause mdoes mkinds msees mnow nu12) x1 maside = some (r, zmaside) := h
        unfold fX6_gay_l12_b at h
        refine lv_iload_n hx hb dX6_gay_12 rfl (lv_at hl 1 rfl) ?_
        refine lv_bipush (v := (7 : Int32)) hx hb dX6_gay_13 (by decide) ?_
        refine lv_icmp_ge (tgt := 61) hx hb dX6_gay_15 (by decide) (fun c15 => ?_) (fun c15 => ?_)
        · have h := br_1 h c15
          refine lv_bipush (v := (-9 : Int32)) hx hb dX6_gay_61 (by decide) ?_
          cases h
          exact hret _ _ _ _ hP hD hS dX6_gay_63
        · have h := br_0 h c15
          refine lv_iconst (v := (0 : Int32)) hx hb dX6_gay_18 (by decide) ?_
          refine lv_istore_n (lv' := [(2, .int (0 : Int32)), (0, .ref (am 0)), (1, .int x1)]) hx hb dX6_gay_19 rfl hl (by decide) rfl (fun ls hl => ?_)
          exact l20 x1 F (0 : Int32) maside h _ _ hP hD hS _ (lv_sub hl [1, 2, 0] rfl)
    unfold fX6_gay at h
    refine lv_aload_n hx hb dX6_gay_0 rfl (lv_at hl 0 rfl) ?_
    refine va_get (D := D) (ci := 4) (C := RX6) (T := TX6) (N := 27) hx hb hts iX6 hown hK hP 0 wMo_0 rfl 4 (by decide) q1 (fun _ h9 => h9) rfl dX6_gay_1 ?_
    refine lv_if_ne (tgt := 10) hx hb dX6_gay_4 (by decide) (fun c4 => ?_) (fun c4 => ?_)
    · have h := br_0 h c4
      refine lv_iconst (v := (0 : Int32)) hx hb dX6_gay_10 (by decide) ?_
      refine lv_istore_n (lv' := [(1, .int (0 : Int32)), (0, .ref (am 0))]) hx hb dX6_gay_11 rfl hl (by decide) rfl (fun ls hl => ?_)
      exact l12 F (0 : Int32) maside h _ _ hP hD hS _ (lv_sub hl [1, 0] rfl)
    · have h := br_1 h c4
      refine lv_bipush (v := (-4 : Int32)) hx hb dX6_gay_7 (by decide) ?_
      cases h
      exact hret _ _ _ _ hP hD hS dX6_gay_9
  exact key _ (fun H locs pc ls hP hD hS hd => W.iret hx hb hr (fun t ht hW => ⟨⟨_, (), rfl, rfl, by show _ ∧ _; rw [ht]; exact ⟨hP, hD⟩⟩, hS.F ht⟩) hS.2.2 hd)
set_option maxHeartbeats 4000000 in
set_option maxRecDepth 100000 in
theorem kX6_staysBy (l : Launch) (D : va_G) (T : Nat → ClassId) (F : Nat) (am : Nat → Nat) (mguests : Int32) (mclause : Int32) (mdeeds : Int32) (masked : Int32) (mupper : Int64) (mlower : Int64) (mfinding : Int32) (mreadGuests : Int32) (misSight : Int32) (mat : Int32) (mrowSizes : Nat → Int32) (mrows : Nat → Int32) (mtextSizes : Nat → Int32) (mtexts : Nat → Int32) (mdoes : Nat → Int32) (mkinds : Nat → Int32) (msees : Nat → Int32) (mnow : Nat → Int32) (mbefore : Nat → Int32) (mkeeps : Nat → Int32) (mkept : Nat → Int32) (mfindings : Nat → Int32) (mread : Nat → Int32) (maside : Nat → Int32) (msteps : Nat → Int32) (mtried : Nat → Int32) (mbest : Nat → Int32) (x1 : Int32) (x2 : Int32) (x3 : Int32) (r : Int32) (h : fX6_staysBy F mguests mclause mrowSizes mrows mdoes mkinds msees mnow x1 x2 x3 = some (r)) : Met l yX6_staysBy wsX6_staysBy ({ frames := 2, cells := 0, slots := 0, locals := 45 } : Room) (va_Pc [.ref (am 0), .int x1, .int x2, .int x3] (fun U => va_P D vwCl (wMo T am mguests mclause mdeeds masked mupper mlower mfinding mreadGuests misSight mat mrowSizes mrows mtextSizes mtexts mdoes mkinds msees mnow mbefore mkeeps mkept mfindings mread maside msteps mtried mbest) U.heap ∧ KK D T U)) (vp_Si (fun r' => r' = r ∧ b01 r)) 0 0 (fun _ => False) := by
  refine Met.ofW (cc := cX6_staysBy) (maxL := 9) (ret := some .boolean) (by decide) rfl ?_
  intro p e s m args below meth c s₁ B hml hv
  obtain ⟨ha, hP, hKK⟩ := hv
  have hx := B.exec
  have hb := B.bytes
  have hr := B.returns
  have hts := atoms_spec (ws := wsX6_staysBy) B.pre
  have hown : s.vm.findClass RX6 = some m.cls := findClass_of_methodNamed B.named
  have hlocks := B.notSynchronized
  have hK := hKK.1
  have hFix : CallFix p m c cX6_staysBy 9 s args wsX6_staysBy RX6 := ⟨hx, hb, hml, hown, hts⟩
  have q1 := hts _ (List.mem_of_getElem? (i := 1) (show wsX6_staysBy[1]? = some (Cond.fieldLink RX6 31 "PartyWillModel" "now" "[I") from rfl))
  have q2 := hts _ (List.mem_of_getElem? (i := 2) (show wsX6_staysBy[2]? = some (Cond.fieldLink RX6 25 "PartyWillModel" "kinds" "[I") from rfl))
  have q3 := hts _ (List.mem_of_getElem? (i := 3) (show wsX6_staysBy[3]? = some (Cond.fieldLink RX6 7 "PartyWillModel" "rowSizes" "[I") from rfl))
  have q4 := hts _ (List.mem_of_getElem? (i := 4) (show wsX6_staysBy[4]? = some (Cond.fieldLink RX6 13 "PartyWillModel" "rows" "[I") from rfl))
  have q5 := hts _ (List.mem_of_getElem? (i := 5) (show wsX6_staysBy[5]? = some (Cond.fieldLink RX6 22 "PartyWillModel" "does" "[I") from rfl))
  have q6 := hts _ (List.mem_of_getElem? (i := 6) (show wsX6_staysBy[6]? = some (Cond.fieldLink RX6 134 "PartyWillModel" "clause" "I") from rfl))
  have iX6 : ∀ w ∈ u_ws RX6 TX6 27, w ∈ wsX6_staysBy := fun w h => List.mem_cons_of_mem _ (List.mem_append_right _ (h))
  obtain ⟨ls, hl, e0⟩ := my_entry (m := m) (n := 9) ha (Nat.le_of_ble_eq_true rfl)
  rw [e0]
  have hl : lv_has ls 9 [(0, .ref (am 0)), (1, .int x1), (2, .int x2), (3, .int x3)] := hl
  have key : ∀ Q : State → Prop, (∀ (pc : Nat) (ls : Array Slot), decode cX6_staysBy pc = .ok (.ireturn, 1) → b01 r → W p l e ({ frames := 2, cells := 0, slots := 0, locals := 45 } : Room) s m args below meth c s.heap [] 0 0 Q (F0 m pc ls [.int r])) → W p l e ({ frames := 2, cells := 0, slots := 0, locals := 45 } : Room) s m args below meth c s.heap [] 0 0 Q (F0 m 0 ls []) := by
    intro Q hret
    have l54 : ∀ x1 : Int32, ∀ x3 : Int32, ∀ x5 : Int32, ∀ nu : Nat, ∀ x4 : Int32, ∀ x6 : Int32, ∀ x7 : Int32, fX6_staysBy_l54 F mguests mclause mrowSizes mrows mdoes mkinds msees mnow x1 x3 x5 nu x4 x6 x7 = some (r) → b01 x6 → ∀ (ls : Array Slot), lv_has ls 9 [(0, .ref (am 0)), (1, .int x1), (3, .int x3), (4, .int x4), (5, .int x5), (6, .int x6), (7, .int x7)] → W p l e ({ frames := 2, cells := 0, slots := 0, locals := 45 } : Room) s m args below meth c s.heap [] 0 0 Q (F0 m 54 ls []) := by
      intro x1 x3 x5
      intro nu
      induction nu with
      | zero => intro x4 x6 x7 h; exact none_some h
      | succ nu54 ih54 =>
        intro x4 x6 x7 h hbx6 ls hl
        have h : fX6_staysBy_l54_b F mguests mclause mrowSizes mrows mdoes mkinds msees mnow x1 x3 x5 (fX6_staysBy_l54 F mguests mclause mrowSizes mrows mdoes mkinds msees mnow x1 x3 x5 nu54) x4 x6 x7 = some (r) := h
        unfold fX6_staysBy_l54_b at h
        refine lv_iload hx hb dX6_staysBy_54 (lv_at hl 6 rfl) ?_
        refine lv_aload_n hx hb dX6_staysBy_56 rfl (lv_at hl 0 rfl) ?_
        refine va_get (D := D) (ci := 4) (C := RX6) (T := TX6) (N := 27) hx hb hts iX6 hown hK hP 0 wMo_0 rfl 0 (by decide) q3 (fun _ h9 => h9) rfl dX6_staysBy_57 ?_
        refine lv_iload_n hx hb dX6_staysBy_60 rfl (lv_at hl 2 rfl) ?_
        obtain ⟨hin1, h⟩ := ck_some h
        refine va_iald hx hb hK hP 1 0 wMo_1 rfl hin1 dX6_staysBy_61 ?_
        refine lv_icmp_ge (tgt := 133) hx hb dX6_staysBy_62 (by decide) (fun c62 => ?_) (fun c62 => ?_)
        · have h := br_1 h c62
          refine lv_iload hx hb dX6_staysBy_133 (lv_at hl 5 rfl) ?_
          cases h
          exact hret _ _ dX6_staysBy_135 hbx6
        · have h := br_0 h c62
          refine lv_aload_n hx hb dX6_staysBy_65 rfl (lv_at hl 0 rfl) ?_
          refine va_get (D := D) (ci := 4) (C := RX6) (T := TX6) (N := 27) hx hb hts iX6 hown hK hP 0 wMo_0 rfl 1 (by decide) q4 (fun _ h9 => h9) rfl dX6_staysBy_66 ?_
          refine lv_bipush (v := (40 : Int32)) hx hb dX6_staysBy_69 (by decide) ?_
          refine lv_iload_n hx hb dX6_staysBy_71 rfl (lv_at hl 2 rfl) ?_
          refine lv_imul hx hb dX6_staysBy_72 ?_
          refine lv_iload hx hb dX6_staysBy_73 (lv_at hl 6 rfl) ?_
          refine lv_iadd hx hb dX6_staysBy_75 ?_
          obtain ⟨hin2, h⟩ := ck_some h
          refine va_iald hx hb hK hP 2 0 wMo_2 rfl hin2 dX6_staysBy_76 ?_
          refine lv_istore (lv' := [(8, .int (mrows (((40 : Int32) * x3) + x7).toNatClampNeg)), (0, .ref (am 0)), (1, .int x1), (3, .int x3), (4, .int x4), (5, .int x5), (6, .int x6), (7, .int x7)]) hx hb dX6_staysBy_77 hl (by decide) rfl (fun ls hl => ?_)
          refine lv_aload_n hx hb dX6_staysBy_79 rfl (lv_at hl 1 rfl) ?_
          refine va_get (D := D) (ci := 4) (C := RX6) (T := TX6) (N := 27) hx hb hts iX6 hown hK hP 0 wMo_0 rfl 7 (by decide) q2 (fun _ h9 => h9) rfl dX6_staysBy_80 ?_
          refine lv_iload_n hx hb dX6_staysBy_83 rfl (lv_at hl 2 rfl) ?_
          obtain ⟨hin3, h⟩ := ck_some h
          refine va_iald hx hb hK hP 6 0 wMo_6 rfl hin3 dX6_staysBy_84 ?_
          refine lv_iload hx hb dX6_staysBy_85 (lv_at hl 4 rfl) ?_
          refine lv_iload hx hb dX6_staysBy_87 (lv_at hl 0 rfl) ?_
          refine lv_aload_n hx hb dX6_staysBy_89 rfl (lv_at hl 1 rfl) ?_
          refine va_get (D := D) (ci := 4) (C := RX6) (T := TX6) (N := 27) hx hb hts iX6 hown hK hP 0 wMo_0 rfl 6 (by decide) q5 (fun _ h9 => h9) rfl dX6_staysBy_90 ?_
          refine lv_iload hx hb dX6_staysBy_93 (lv_at hl 0 rfl) ?_
          obtain ⟨hin4, h⟩ := ck_some h
          refine va_iald hx hb hK hP 5 0 wMo_5 rfl hin4 dX6_staysBy_95 ?_
          obtain ⟨r96, hc, h⟩ := bd1_some h
          refine my_roi (va_Run.run (va_runS (As := [.int (mkinds x1.toNatClampNeg), .int x4, .int (mrows (((40 : Int32) * x3) + x7).toNatClampNeg), .int (mdoes (mrows (((40 : Int32) * x3) + x7).toNatClampNeg).toNatClampNeg)]) (rest := []) hFix (kX6_griefBehind l D T F (mkinds x1.toNatClampNeg) x4 (mrows (((40 : Int32) * x3) + x7).toNatClampNeg) (mdoes (mrows (((40 : Int32) * x3) + x7).toNatClampNeg).toNatClampNeg) r96 hc) (va_cwS 4 hts gX6_staysBy_X6_griefBehind rfl rfl rfl hd_X6_griefBehind ⟨Nat.le_of_ble_eq_true rfl, Nat.le_of_ble_eq_true rfl⟩) (preS_ro va_nil hKK) rfl rfl hl.1 rfl (lv_room (Nat.le_of_ble_eq_true rfl)) dX6_staysBy_96 ⟨Nat.zero_le _, Nat.zero_le _⟩)) ?_
          refine lv_istore (lv' := [(4, .int r96), (8, .int (mrows (((40 : Int32) * x3) + x7).toNatClampNeg)), (0, .ref (am 0)), (1, .int x1), (3, .int x3), (5, .int x5), (6, .int x6), (7, .int x7)]) hx hb dX6_staysBy_99 hl (by decide) rfl (fun ls hl => ?_)
          refine lv_iload hx hb dX6_staysBy_101 (lv_at hl 6 rfl) ?_
          refine lv_if_eq (tgt := 124) hx hb dX6_staysBy_103 (by decide) (fun c103 => ?_) (fun c103 => ?_)
          · have h := br_1 h c103
            refine lv_iconst (v := (0 : Int32)) hx hb dX6_staysBy_124 (by decide) ?_
            refine lv_istore (lv' := [(6, .int (0 : Int32)), (4, .int r96), (8, .int (mrows (((40 : Int32) * x3) + x7).toNatClampNeg)), (0, .ref (am 0)), (1, .int x1), (3, .int x3), (5, .int x5), (7, .int x7)]) hx hb dX6_staysBy_125 hl (by decide) rfl (fun ls hl => ?_)
            refine lv_iinc (v := (x7 + (1 : Int32))) (lv' := [(7, .int (x7 + (1 : Int32))), (6, .int (0 : Int32)), (4, .int r96), (8, .int (mrows (((40 : Int32) * x3) + x7).toNatClampNeg)), (0, .ref (am 0)), (1, .int x1), (3, .int x3), (5, .int x5)]) hx hb dX6_staysBy_127 hl (k := 7) rfl rfl (by decide) rfl (fun ls hl => ?_)
            refine lv_goto (tgt := 54) hx hb dX6_staysBy_130 (by decide) ?_
            exact ih54 r96 (0 : Int32) (x7 + (1 : Int32)) h (Or.inl rfl) _ (lv_sub hl [4, 5, 6, 2, 7, 1, 0] rfl)
          · have h := br_0 h c103
            refine lv_iload hx hb dX6_staysBy_106 (lv_at hl 5 rfl) ?_
            refine lv_if_eq (tgt := 120) hx hb dX6_staysBy_108 (by decide) (fun c108 => ?_) (fun c108 => ?_)
            · have h := br_1 h c108
              refine lv_iconst (v := (1 : Int32)) hx hb dX6_staysBy_120 (by decide) ?_
              refine lv_goto (tgt := 125) hx hb dX6_staysBy_121 (by decide) ?_
              refine lv_istore (lv' := [(6, .int (1 : Int32)), (4, .int r96), (8, .int (mrows (((40 : Int32) * x3) + x7).toNatClampNeg)), (0, .ref (am 0)), (1, .int x1), (3, .int x3), (5, .int x5), (7, .int x7)]) hx hb dX6_staysBy_125 hl (by decide) rfl (fun ls hl => ?_)
              refine lv_iinc (v := (x7 + (1 : Int32))) (lv' := [(7, .int (x7 + (1 : Int32))), (6, .int (1 : Int32)), (4, .int r96), (8, .int (mrows (((40 : Int32) * x3) + x7).toNatClampNeg)), (0, .ref (am 0)), (1, .int x1), (3, .int x3), (5, .int x5)]) hx hb dX6_staysBy_127 hl (k := 7) rfl rfl (by decide) rfl (fun ls hl => ?_)
              refine lv_goto (tgt := 54) hx hb dX6_staysBy_130 (by decide) ?_
              exact ih54 r96 (1 : Int32) (x7 + (1 : Int32)) h (Or.inr rfl) _ (lv_sub hl [4, 5, 6, 2, 7, 1, 0] rfl)
            · have h := br_0 h c108
              refine lv_iload hx hb dX6_staysBy_111 (lv_at hl 0 rfl) ?_
              refine lv_aload_n hx hb dX6_staysBy_113 rfl (lv_at hl 2 rfl) ?_
              refine va_get (D := D) (ci := 4) (C := RX6) (T := TX6) (N := 27) hx hb hts iX6 hown hK hP 0 wMo_0 rfl 5 (by decide) q6 (fun _ h9 => h9) rfl dX6_staysBy_114 ?_
              refine lv_icmp_gt (tgt := 124) hx hb dX6_staysBy_117 (by decide) (fun c117 => ?_) (fun c117 => ?_)
              · have h := br_1 h c117
                refine lv_iconst (v := (0 : Int32)) hx hb dX6_staysBy_124 (by decide) ?_
                refine lv_istore (lv' := [(6, .int (0 : Int32)), (4, .int r96), (8, .int (mrows (((40 : Int32) * x3) + x7).toNatClampNeg)), (0, .ref (am 0)), (1, .int x1), (3, .int x3), (5, .int x5), (7, .int x7)]) hx hb dX6_staysBy_125 hl (by decide) rfl (fun ls hl => ?_)
                refine lv_iinc (v := (x7 + (1 : Int32))) (lv' := [(7, .int (x7 + (1 : Int32))), (6, .int (0 : Int32)), (4, .int r96), (8, .int (mrows (((40 : Int32) * x3) + x7).toNatClampNeg)), (0, .ref (am 0)), (1, .int x1), (3, .int x3), (5, .int x5)]) hx hb dX6_staysBy_127 hl (k := 7) rfl rfl (by decide) rfl (fun ls hl => ?_)
                refine lv_goto (tgt := 54) hx hb dX6_staysBy_130 (by decide) ?_
                exact ih54 r96 (0 : Int32) (x7 + (1 : Int32)) h (Or.inl rfl) _ (lv_sub hl [4, 5, 6, 2, 7, 1, 0] rfl)
              · have h := br_0 h c117
                refine lv_iconst (v := (1 : Int32)) hx hb dX6_staysBy_120 (by decide) ?_
                refine lv_goto (tgt := 125) hx hb dX6_staysBy_121 (by decide) ?_
                refine lv_istore (lv' := [(6, .int (1 : Int32)), (4, .int r96), (8, .int (mrows (((40 : Int32) * x3) + x7).toNatClampNeg)), (0, .ref (am 0)), (1, .int x1), (3, .int x3), (5, .int x5), (7, .int x7)]) hx hb dX6_staysBy_125 hl (by decide) rfl (fun ls hl => ?_)
                refine lv_iinc (v := (x7 + (1 : Int32))) (lv' := [(7, .int (x7 + (1 : Int32))), (6, .int (1 : Int32)), (4, .int r96), (8, .int (mrows (((40 : Int32) * x3) + x7).toNatClampNeg)), (0, .ref (am 0)), (1, .int x1), (3, .int x3), (5, .int x5)]) hx hb dX6_staysBy_127 hl (k := 7) rfl rfl (by decide) rfl (fun ls hl => ?_)
                refine lv_goto (tgt := 54) hx hb dX6_staysBy_130 (by decide) ?_
                exact ih54 r96 (1 : Int32) (x7 + (1 : Int32)) h (Or.inr rfl) _ (lv_sub hl [4, 5, 6, 2, 7, 1, 0] rfl)
    unfold fX6_staysBy at h
    refine lv_aload_n hx hb dX6_staysBy_0 rfl (lv_at hl 0 rfl) ?_
    refine va_get (D := D) (ci := 4) (C := RX6) (T := TX6) (N := 27) hx hb hts iX6 hown hK hP 0 wMo_0 rfl 9 (by decide) q1 (fun _ h9 => h9) rfl dX6_staysBy_1 ?_
    refine lv_iload_n hx hb dX6_staysBy_4 rfl (lv_at hl 1 rfl) ?_
    obtain ⟨hin5, h⟩ := ck_some h
    refine va_iald hx hb hK hP 8 0 wMo_8 rfl hin5 dX6_staysBy_5 ?_
    refine lv_iconst (v := (3 : Int32)) hx hb dX6_staysBy_6 (by decide) ?_
    refine lv_iload_n hx hb dX6_staysBy_7 rfl (lv_at hl 2 rfl) ?_
    refine lv_imul hx hb dX6_staysBy_8 ?_
    refine lv_isub hx hb dX6_staysBy_9 ?_
    obtain ⟨r10, hc, h⟩ := bd1_some h
    refine my_roi (va_Run.run (va_runS (As := [.int ((mnow x1.toNatClampNeg) - ((3 : Int32) * x2))]) (rest := []) hFix (kX6_kept20 l D T F ((mnow x1.toNatClampNeg) - ((3 : Int32) * x2)) r10 hc) (va_cwS 1 hts gX6_staysBy_X6_kept20 rfl rfl rfl hd_X6_kept20 ⟨Nat.le_of_ble_eq_true rfl, Nat.le_of_ble_eq_true rfl⟩) (preS_ro va_nil hKK) rfl rfl hl.1 rfl (lv_room (Nat.le_of_ble_eq_true rfl)) dX6_staysBy_10 ⟨Nat.zero_le _, Nat.zero_le _⟩)) ?_
    refine lv_istore (lv' := [(4, .int r10), (0, .ref (am 0)), (1, .int x1), (2, .int x2), (3, .int x3)]) hx hb dX6_staysBy_13 hl (by decide) rfl (fun ls hl => ?_)
    refine lv_aload_n hx hb dX6_staysBy_15 rfl (lv_at hl 1 rfl) ?_
    refine va_get (D := D) (ci := 4) (C := RX6) (T := TX6) (N := 27) hx hb hts iX6 hown hK hP 0 wMo_0 rfl 7 (by decide) q2 (fun _ h9 => h9) rfl dX6_staysBy_16 ?_
    refine lv_iload_n hx hb dX6_staysBy_19 rfl (lv_at hl 2 rfl) ?_
    obtain ⟨hin6, h⟩ := ck_some h
    refine va_iald hx hb hK hP 6 0 wMo_6 rfl hin6 dX6_staysBy_20 ?_
    refine lv_iconst (v := (5 : Int32)) hx hb dX6_staysBy_21 (by decide) ?_
    refine lv_icmp_eq (tgt := 45) hx hb dX6_staysBy_22 (by decide) (fun c22 => ?_) (fun c22 => ?_)
    · have h := br_1 h c22
      refine lv_iconst (v := (0 : Int32)) hx hb dX6_staysBy_45 (by decide) ?_
      refine lv_istore (lv' := [(5, .int (0 : Int32)), (4, .int r10), (0, .ref (am 0)), (1, .int x1), (2, .int x2), (3, .int x3)]) hx hb dX6_staysBy_46 hl (by decide) rfl (fun ls hl => ?_)
      refine lv_iconst (v := (1 : Int32)) hx hb dX6_staysBy_48 (by decide) ?_
      refine lv_istore (lv' := [(6, .int (1 : Int32)), (5, .int (0 : Int32)), (4, .int r10), (0, .ref (am 0)), (1, .int x1), (2, .int x2), (3, .int x3)]) hx hb dX6_staysBy_49 hl (by decide) rfl (fun ls hl => ?_)
      refine lv_iconst (v := (0 : Int32)) hx hb dX6_staysBy_51 (by decide) ?_
      refine lv_istore (lv' := [(7, .int (0 : Int32)), (6, .int (1 : Int32)), (5, .int (0 : Int32)), (4, .int r10), (0, .ref (am 0)), (1, .int x1), (2, .int x2), (3, .int x3)]) hx hb dX6_staysBy_52 hl (by decide) rfl (fun ls hl => ?_)
      exact l54 x1 x3 (0 : Int32) F r10 (1 : Int32) (0 : Int32) h (Or.inr rfl) _ (lv_sub hl [4, 5, 7, 3, 2, 1, 0] rfl)
    · have h := br_0 h c22
      refine lv_aload_n hx hb dX6_staysBy_25 rfl (lv_at hl 1 rfl) ?_
      refine lv_iload_n hx hb dX6_staysBy_26 rfl (lv_at hl 2 rfl) ?_
      refine lv_aload_n hx hb dX6_staysBy_27 rfl (lv_at hl 1 rfl) ?_
      refine lv_aload_n hx hb dX6_staysBy_28 rfl (lv_at hl 1 rfl) ?_
      refine va_get (D := D) (ci := 4) (C := RX6) (T := TX6) (N := 27) hx hb hts iX6 hown hK hP 0 wMo_0 rfl 9 (by decide) q1 (fun _ h9 => h9) rfl dX6_staysBy_29 ?_
      obtain ⟨r32, hc, h⟩ := bd1_some h
      have hPc : va_P D vwCl (wMi T am (am 8) mguests mclause mdeeds masked mupper mlower mfinding mreadGuests misSight mat mnow) s.heap := my_subP sb_wMo_wMi_0_8 hP
      refine my_roi (va_Run.run (va_runV (As := [.ref (am 8)]) (rest := [.int x1, .ref (am 0)]) hFix (kX6_inside l D T F am (am 8) mguests mclause mdeeds masked mupper mlower mfinding mreadGuests misSight mat mnow r32 hc) (cwV 1 hts gX6_staysBy_X6_inside rfl rfl rfl ⟨rfl, hd_X6_inside⟩ ⟨Nat.le_of_ble_eq_true rfl, Nat.le_of_ble_eq_true rfl⟩) (preV_ro hPc hKK (va_recv hK hP (ci := 4) (q0 := 0) rfl wMo_0)) rfl rfl hl.1 rfl (lv_room (Nat.le_of_ble_eq_true rfl)) dX6_staysBy_32 ⟨Nat.zero_le _, Nat.zero_le _⟩)) ?_
      obtain ⟨r35, hc, h⟩ := bd1_some h
      have hPc : va_P D vwCl (wMs T am mguests mclause mdeeds masked mupper mlower mfinding mreadGuests misSight mat msees) s.heap := my_subP sb_wMo_wMs_0_7 hP
      refine my_roz (va_Run.run (va_runV (As := [.int x1, .int r32]) (rest := []) hFix (kX6_isSeen l D T F am mguests mclause mdeeds masked mupper mlower mfinding mreadGuests misSight mat msees x1 r32 r35 hc) (cwV 2 hts gX6_staysBy_X6_isSeen rfl rfl rfl ⟨rfl, hd_X6_isSeen⟩ ⟨Nat.le_of_ble_eq_true rfl, Nat.le_of_ble_eq_true rfl⟩) (preV_ro hPc hKK (va_recv hK hP (ci := 4) (q0 := 0) rfl wMo_0)) rfl rfl hl.1 rfl (lv_room (Nat.le_of_ble_eq_true rfl)) dX6_staysBy_35 ⟨Nat.zero_le _, Nat.zero_le _⟩)) (fun hb35 => ?_)
      refine lv_if_eq (tgt := 45) hx hb dX6_staysBy_38 (by decide) (fun c38 => ?_) (fun c38 => ?_)
      · have h := br_1 h c38
        refine lv_iconst (v := (0 : Int32)) hx hb dX6_staysBy_45 (by decide) ?_
        refine lv_istore (lv' := [(5, .int (0 : Int32)), (4, .int r10), (0, .ref (am 0)), (1, .int x1), (2, .int x2), (3, .int x3)]) hx hb dX6_staysBy_46 hl (by decide) rfl (fun ls hl => ?_)
        refine lv_iconst (v := (1 : Int32)) hx hb dX6_staysBy_48 (by decide) ?_
        refine lv_istore (lv' := [(6, .int (1 : Int32)), (5, .int (0 : Int32)), (4, .int r10), (0, .ref (am 0)), (1, .int x1), (2, .int x2), (3, .int x3)]) hx hb dX6_staysBy_49 hl (by decide) rfl (fun ls hl => ?_)
        refine lv_iconst (v := (0 : Int32)) hx hb dX6_staysBy_51 (by decide) ?_
        refine lv_istore (lv' := [(7, .int (0 : Int32)), (6, .int (1 : Int32)), (5, .int (0 : Int32)), (4, .int r10), (0, .ref (am 0)), (1, .int x1), (2, .int x2), (3, .int x3)]) hx hb dX6_staysBy_52 hl (by decide) rfl (fun ls hl => ?_)
        exact l54 x1 x3 (0 : Int32) F r10 (1 : Int32) (0 : Int32) h (Or.inr rfl) _ (lv_sub hl [4, 5, 7, 3, 2, 1, 0] rfl)
      · have h := br_0 h c38
        refine lv_iconst (v := (1 : Int32)) hx hb dX6_staysBy_41 (by decide) ?_
        refine lv_goto (tgt := 46) hx hb dX6_staysBy_42 (by decide) ?_
        refine lv_istore (lv' := [(5, .int (1 : Int32)), (4, .int r10), (0, .ref (am 0)), (1, .int x1), (2, .int x2), (3, .int x3)]) hx hb dX6_staysBy_46 hl (by decide) rfl (fun ls hl => ?_)
        refine lv_iconst (v := (1 : Int32)) hx hb dX6_staysBy_48 (by decide) ?_
        refine lv_istore (lv' := [(6, .int (1 : Int32)), (5, .int (1 : Int32)), (4, .int r10), (0, .ref (am 0)), (1, .int x1), (2, .int x2), (3, .int x3)]) hx hb dX6_staysBy_49 hl (by decide) rfl (fun ls hl => ?_)
        refine lv_iconst (v := (0 : Int32)) hx hb dX6_staysBy_51 (by decide) ?_
        refine lv_istore (lv' := [(7, .int (0 : Int32)), (6, .int (1 : Int32)), (5, .int (1 : Int32)), (4, .int r10), (0, .ref (am 0)), (1, .int x1), (2, .int x2), (3, .int x3)]) hx hb dX6_staysBy_52 hl (by decide) rfl (fun ls hl => ?_)
        exact l54 x1 x3 (1 : Int32) F r10 (1 : Int32) (0 : Int32) h (Or.inr rfl) _ (lv_sub hl [4, 5, 7, 3, 2, 1, 0] rfl)
  exact key _ (fun pc ls hd hb1 => W.zret hx hb hr (b01_n hb1) (fun t ht hW => ⟨_, rfl, ⟨rfl, hb1⟩, ht⟩) (fun q h => by cases h) hd)
set_option maxHeartbeats 4000000 in
set_option maxRecDepth 100000 in
theorem kX6_ices (l : Launch) (D : va_G) (T : Nat → ClassId) (F : Nat) (am : Nat → Nat) (mguests : Int32) (mclause : Int32) (mdeeds : Int32) (masked : Int32) (mupper : Int64) (mlower : Int64) (mfinding : Int32) (mreadGuests : Int32) (misSight : Int32) (mat : Int32) (mrowSizes : Nat → Int32) (mrows : Nat → Int32) (mtextSizes : Nat → Int32) (mtexts : Nat → Int32) (mdoes : Nat → Int32) (mkinds : Nat → Int32) (msees : Nat → Int32) (mnow : Nat → Int32) (mbefore : Nat → Int32) (mkeeps : Nat → Int32) (mkept : Nat → Int32) (mfindings : Nat → Int32) (mread : Nat → Int32) (maside : Nat → Int32) (msteps : Nat → Int32) (mtried : Nat → Int32) (mbest : Nat → Int32) (x1 : Int32) (r : Int32) (zmfinding : Int32) (zmfindings : Nat → Int32) (h : fX6_ices F mguests mclause mfinding mrowSizes mrows mdoes mkinds msees mnow mfindings x1 = some (r, zmfinding, zmfindings)) : ∀ sz : Nat, Met l yX6_ices wsX6_ices ({ frames := 3, cells := 0, slots := 0, locals := 73 } : Room) (va_Pc [.ref (am 0), .int x1] (fun U => U.heap.size = sz ∧ va_P D vwCl (wMo T am mguests mclause mdeeds masked mupper mlower mfinding mreadGuests misSight mat mrowSizes mrows mtextSizes mtexts mdoes mkinds msees mnow mbefore mkeeps mkept mfindings mread maside msteps mtried mbest) U.heap ∧ KK D T U ∧ va_D (fun _ => True) (wMo T am mguests mclause mdeeds masked mupper mlower mfinding mreadGuests misSight mat mrowSizes mrows mtextSizes mtexts mdoes mkinds msees mnow mbefore mkeeps mkept mfindings mread maside msteps mtried mbest))) (va_Qi (fun r' (_ : Unit) => r' = r) (fun _ t => va_P D vwCl (wMo T am mguests mclause mdeeds masked mupper mlower zmfinding mreadGuests misSight mat mrowSizes mrows mtextSizes mtexts mdoes mkinds msees mnow mbefore mkeeps mkept zmfindings mread maside msteps mtried mbest) t.heap ∧ va_D (va_A (wMo T am mguests mclause mdeeds masked mupper mlower mfinding mreadGuests misSight mat mrowSizes mrows mtextSizes mtexts mdoes mkinds msees mnow mbefore mkeeps mkept mfindings mread maside msteps mtried mbest) sz) (wMo T am mguests mclause mdeeds masked mupper mlower zmfinding mreadGuests misSight mat mrowSizes mrows mtextSizes mtexts mdoes mkinds msees mnow mbefore mkeeps mkept zmfindings mread maside msteps mtried mbest)) (va_A (wMo T am mguests mclause mdeeds masked mupper mlower mfinding mreadGuests misSight mat mrowSizes mrows mtextSizes mtexts mdoes mkinds msees mnow mbefore mkeeps mkept mfindings mread maside msteps mtried mbest) sz)) 0 0 (va_A (wMo T am mguests mclause mdeeds masked mupper mlower mfinding mreadGuests misSight mat mrowSizes mrows mtextSizes mtexts mdoes mkinds msees mnow mbefore mkeeps mkept mfindings mread maside msteps mtried mbest) sz) := by
  intro sz
  refine Met.ofW (cc := cX6_ices) (maxL := 6) (ret := some .int) (by decide) rfl ?_
  intro p e s m args below meth c s₁ B hml hv
  obtain ⟨ha, hsz, hP, hKK, hD0⟩ := hv
  have hx := B.exec
  have hb := B.bytes
  have hr := B.returns
  have hts := atoms_spec (ws := wsX6_ices) B.pre
  have hown : s.vm.findClass RX6 = some m.cls := findClass_of_methodNamed B.named
  have hlocks := B.notSynchronized
  have hK := hKK.1
  have hFix : CallFix p m c cX6_ices 6 s args wsX6_ices RX6 := ⟨hx, hb, hml, hown, hts⟩
  have q1 := hts _ (List.mem_of_getElem? (i := 1) (show wsX6_ices[1]? = some (Cond.fieldLink RX6 131 "PartyWillModel" "guests" "I") from rfl))
  have q2 := hts _ (List.mem_of_getElem? (i := 2) (show wsX6_ices[2]? = some (Cond.fieldLink RX6 31 "PartyWillModel" "now" "[I") from rfl))
  have iX6 : ∀ w ∈ u_ws RX6 TX6 27, w ∈ wsX6_ices := fun w h => List.mem_cons_of_mem _ (List.mem_append_right _ (h))
  subst hsz
  have hD := hD0.self (sz := s.heap.size)
  generalize hAe : va_A (wMo T am mguests mclause mdeeds masked mupper mlower mfinding mreadGuests misSight mat mrowSizes mrows mtextSizes mtexts mdoes mkinds msees mnow mbefore mkeeps mkept mfindings mread maside msteps mtried mbest) s.heap.size = A at hD ⊢
  have hA : ∀ q : Nat, s.heap.size ≤ q → A q := fun q h => by rw [← hAe]; exact Or.inr h
  have hS : va_S A s.heap s.heap [] := va_S.rf
  have hP : va_P D vwCl (wMo T am mguests mclause mdeeds masked mupper mlower mfinding mreadGuests misSight mat mrowSizes mrows mtextSizes mtexts mdoes mkinds msees mnow mbefore mkeeps mkept mfindings mread maside msteps mtried mbest) s.heap := hP
  obtain ⟨ls, hl, e0⟩ := my_entry (m := m) (n := 6) ha (Nat.le_of_ble_eq_true rfl)
  rw [e0]
  have hl : lv_has ls 6 [(0, .ref (am 0)), (1, .int x1)] := hl
  have key : ∀ Q : State → Prop, (∀ (H : Heap) (locs : List Loc) (pc : Nat) (ls : Array Slot), va_P D vwCl (wMo T am mguests mclause mdeeds masked mupper mlower zmfinding mreadGuests misSight mat mrowSizes mrows mtextSizes mtexts mdoes mkinds msees mnow mbefore mkeeps mkept zmfindings mread maside msteps mtried mbest) H → va_D A (wMo T am mguests mclause mdeeds masked mupper mlower zmfinding mreadGuests misSight mat mrowSizes mrows mtextSizes mtexts mdoes mkinds msees mnow mbefore mkeeps mkept zmfindings mread maside msteps mtried mbest) → va_S A s.heap H locs → decode cX6_ices pc = .ok (.ireturn, 1) → W p l e ({ frames := 3, cells := 0, slots := 0, locals := 73 } : Room) s m args below meth c H locs 0 0 Q (F0 m pc ls [.int r])) → W p l e ({ frames := 3, cells := 0, slots := 0, locals := 73 } : Room) s m args below meth c s.heap [] 0 0 Q (F0 m 0 ls []) := by
    intro Q hret
    skip
    have l36 : ∀ x1 : Int32, ∀ mfinding : Int32, ∀ mfindings : Nat → Int32, ∀ nu : Nat, ∀ x3 : Int32, ∀ x4 : Int32, fX6_ices_l36 F mguests mclause mrowSizes mrows mdoes mkinds msees mnow x1 mfinding mfindings nu x3 x4 = some (r, zmfinding, zmfindings) → ∀ (H : Heap) (locs : List Loc), va_P D vwCl (wMo T am mguests mclause mdeeds masked mupper mlower mfinding mreadGuests misSight mat mrowSizes mrows mtextSizes mtexts mdoes mkinds msees mnow mbefore mkeeps mkept mfindings mread maside msteps mtried mbest) H → va_D A (wMo T am mguests mclause mdeeds masked mupper mlower mfinding mreadGuests misSight mat mrowSizes mrows mtextSizes mtexts mdoes mkinds msees mnow mbefore mkeeps mkept mfindings mread maside msteps mtried mbest) → va_S A s.heap H locs → ∀ (ls : Array Slot), lv_has ls 6 [(0, .ref (am 0)), (1, .int x1), (3, .int x3), (4, .int x4)] → W p l e ({ frames := 3, cells := 0, slots := 0, locals := 73 } : Room) s m args below meth c H locs 0 0 Q (F0 m 36 ls []) := by
      intro x1 mfinding mfindings
      intro nu
      induction nu with
      | zero => intro x3 x4 h; exact none_some h
      | succ nu36 ih36 =>
        intro x3 x4 h H locs hP hD hS ls hl
        have n88 : ∀ x1 : Int32, ∀ x3 : Int32, ∀ x4 : Int32, ∀ x5 : Int32, ∀ mfinding : Int32, ∀ mfindings : Nat → Int32, fX6_ices_n88 F (fX6_ices_l36 F mguests mclause mrowSizes mrows mdoes mkinds msees mnow x1 mfinding mfindings nu36) mguests mclause mrowSizes mrows mdoes mkinds msees mnow x1 x3 x4 x5 mfinding mfindings = some (r, zmfinding, zmfindings) → ∀ (H : Heap) (locs : List Loc), va_P D vwCl (wMo T am mguests mclause mdeeds masked mupper mlower mfinding mreadGuests misSight mat mrowSizes mrows mtextSizes mtexts mdoes mkinds msees mnow mbefore mkeeps mkept mfindings mread maside msteps mtried mbest) H → va_D A (wMo T am mguests mclause mdeeds masked mupper mlower mfinding mreadGuests misSight mat mrowSizes mrows mtextSizes mtexts mdoes mkinds msees mnow mbefore mkeeps mkept mfindings mread maside msteps mtried mbest) → va_S A s.heap H locs → ∀ (ls : Array Slot), lv_has ls 6 [(0, .ref (am 0)), (1, .int x1), (3, .int x3), (4, .int x4), (5, .int x5)] → W p l e ({ frames := 3, cells := 0, slots := 0, locals := 73 } : Room) s m args below meth c H locs 0 0 Q (F0 m 88 ls []) := by
          intro x1 x3 x4 x5 mfinding mfindings h H locs hP hD hS ls hl
          unfold fX6_ices_n88 at h
          refine lv_iload hx hb dX6_ices_88 (lv_at hl 4 rfl) ?_
          refine lv_bipush (v := (8 : Int32)) hx hb dX6_ices_90 (by decide) ?_
          refine lv_icmp_ne (tgt := 98) hx hb dX6_ices_92 (by decide) (fun c92 => ?_) (fun c92 => ?_)
          · have h := br_0 h c92
            refine lv_iload_n hx hb dX6_ices_98 rfl (lv_at hl 2 rfl) ?_
            refine lv_iload hx hb dX6_ices_99 (lv_at hl 4 rfl) ?_
            refine lv_iadd hx hb dX6_ices_101 ?_
            refine lv_istore_n (lv' := [(3, .int (x3 + x5)), (0, .ref (am 0)), (1, .int x1), (4, .int x4), (5, .int x5)]) hx hb dX6_ices_102 rfl hl (by decide) rfl (fun ls hl => ?_)
            refine lv_iinc (v := (x4 + (1 : Int32))) (lv' := [(4, .int (x4 + (1 : Int32))), (3, .int (x3 + x5)), (0, .ref (am 0)), (1, .int x1), (5, .int x5)]) hx hb dX6_ices_103 hl (k := 3) rfl rfl (by decide) rfl (fun ls hl => ?_)
            refine lv_goto (tgt := 36) hx hb dX6_ices_106 (by decide) ?_
            exact ih36 (x3 + x5) (x4 + (1 : Int32)) h _ _ hP hD hS _ (lv_sub hl [2, 3, 1, 0] rfl)
          · have h := br_1 h c92
            refine lv_bipush (v := (-9 : Int32)) hx hb dX6_ices_95 (by decide) ?_
            cases h
            exact hret _ _ _ _ hP hD hS dX6_ices_97
        have l63 : ∀ x1 : Int32, ∀ x3 : Int32, ∀ x4 : Int32, ∀ mfinding : Int32, ∀ mfindings : Nat → Int32, ∀ nu : Nat, ∀ x5 : Int32, fX6_ices_l63 F (fX6_ices_l36 F mguests mclause mrowSizes mrows mdoes mkinds msees mnow x1 mfinding mfindings nu36) mguests mclause mrowSizes mrows mdoes mkinds msees mnow x1 x3 x4 mfinding mfindings nu x5 = some (r, zmfinding, zmfindings) → ∀ (H : Heap) (locs : List Loc), va_P D vwCl (wMo T am mguests mclause mdeeds masked mupper mlower mfinding mreadGuests misSight mat mrowSizes mrows mtextSizes mtexts mdoes mkinds msees mnow mbefore mkeeps mkept mfindings mread maside msteps mtried mbest) H → va_D A (wMo T am mguests mclause mdeeds masked mupper mlower mfinding mreadGuests misSight mat mrowSizes mrows mtextSizes mtexts mdoes mkinds msees mnow mbefore mkeeps mkept mfindings mread maside msteps mtried mbest) → va_S A s.heap H locs → ∀ (ls : Array Slot), lv_has ls 6 [(0, .ref (am 0)), (1, .int x1), (3, .int x3), (4, .int x4), (5, .int x5)] → W p l e ({ frames := 3, cells := 0, slots := 0, locals := 73 } : Room) s m args below meth c H locs 0 0 Q (F0 m 63 ls []) := by
          intro x1 x3 x4 mfinding mfindings
          intro nu
          induction nu with
          | zero => intro x5 h; exact none_some h
          | succ nu63 ih63 =>
            intro x5 h H locs hP hD hS ls hl
            have h : fX6_ices_l63_b F (fX6_ices_l36 F mguests mclause mrowSizes mrows mdoes mkinds msees mnow x1 mfinding mfindings nu36) mguests mclause mrowSizes mrows mdoes mkinds msees mnow x1 x3 x4 mfinding mfindings (fX6_ices_l63 F (fX6_ices_l36 F mguests mclause mrowSizes mrows mdoes mkinds msees mnow x1 mfinding mfindings nu36) mguests mclause mrowSizes mrows mdoes mkinds msees mnow x1 x3 x4 mfinding mfindings nu63) x5 = some (r, zmfinding, zmfindings) := h
            unfold fX6_ices_l63_b at h
            refine lv_iload hx hb dX6_ices_63 (lv_at hl 4 rfl) ?_
            refine lv_bipush (v := (8 : Int32)) hx hb dX6_ices_65 (by decide) ?_
            refine lv_icmp_ge (tgt := 88) hx hb dX6_ices_67 (by decide) (fun c67 => ?_) (fun c67 => ?_)
            · have h := br_1 h c67
              exact n88 x1 x3 x4 x5 mfinding mfindings h _ _ hP hD hS _ (lv_sub hl [0, 1, 2, 3, 4] rfl)
            · have h := br_0 h c67
              refine lv_aload_n hx hb dX6_ices_70 rfl (lv_at hl 0 rfl) ?_
              refine lv_iload hx hb dX6_ices_71 (lv_at hl 3 rfl) ?_
              refine lv_iload hx hb dX6_ices_73 (lv_at hl 4 rfl) ?_
              refine lv_iload_n hx hb dX6_ices_75 rfl (lv_at hl 1 rfl) ?_
              obtain ⟨r76, hc, h⟩ := bd1_some h
              refine my_roz (va_Run.run (va_runV (As := [.int x4, .int x5, .int x1]) (rest := []) hFix (kX6_staysBy l D T F am mguests mclause mdeeds masked mupper mlower mfinding mreadGuests misSight mat mrowSizes mrows mtextSizes mtexts mdoes mkinds msees mnow mbefore mkeeps mkept mfindings mread maside msteps mtried mbest x4 x5 x1 r76 hc) (cwV 3 hts gX6_ices_X6_staysBy rfl rfl rfl ⟨rfl, hd_X6_staysBy⟩ ⟨Nat.le_of_ble_eq_true rfl, Nat.le_of_ble_eq_true rfl⟩) (preV_ro hP hKK (va_recv hK hP (ci := 4) (q0 := 0) rfl wMo_0)) rfl rfl hl.1 rfl (lv_room (Nat.le_of_ble_eq_true rfl)) dX6_ices_76 ⟨Nat.zero_le _, Nat.zero_le _⟩)) (fun hb76 => ?_)
              refine lv_if_ne (tgt := 88) hx hb dX6_ices_79 (by decide) (fun c79 => ?_) (fun c79 => ?_)
              · have h := br_0 h c79
                exact n88 x1 x3 x4 x5 mfinding mfindings h _ _ hP hD hS _ (lv_sub hl [0, 1, 2, 3, 4] rfl)
              · have h := br_1 h c79
                refine lv_iinc (v := (x5 + (1 : Int32))) (lv' := [(5, .int (x5 + (1 : Int32))), (0, .ref (am 0)), (1, .int x1), (3, .int x3), (4, .int x4)]) hx hb dX6_ices_82 hl (k := 4) rfl rfl (by decide) rfl (fun ls hl => ?_)
                refine lv_goto (tgt := 63) hx hb dX6_ices_85 (by decide) ?_
                exact ih63 (x5 + (1 : Int32)) h _ _ hP hD hS _ (lv_sub hl [1, 2, 3, 4, 0] rfl)
        have h : fX6_ices_l36_b F mguests mclause mrowSizes mrows mdoes mkinds msees mnow x1 mfinding mfindings (fX6_ices_l36 F mguests mclause mrowSizes mrows mdoes mkinds msees mnow x1 mfinding mfindings nu36) x3 x4 = some (r, zmfinding, zmfindings) := h
        unfold fX6_ices_l36_b at h
        refine lv_iload hx hb dX6_ices_36 (lv_at hl 3 rfl) ?_
        refine lv_aload_n hx hb dX6_ices_38 rfl (lv_at hl 0 rfl) ?_
        refine va_get (D := D) (ci := 4) (C := RX6) (T := TX6) (N := 27) hx hb hts iX6 hown hK hP 0 wMo_0 rfl 4 (by decide) q1 (fun _ h9 => h9) rfl dX6_ices_39 ?_
        refine lv_icmp_ge (tgt := 109) hx hb dX6_ices_42 (by decide) (fun c42 => ?_) (fun c42 => ?_)
        · have h := br_1 h c42
          refine lv_iload_n hx hb dX6_ices_109 rfl (lv_at hl 2 rfl) ?_
          cases h
          exact hret _ _ _ _ hP hD hS dX6_ices_110
        · have h := br_0 h c42
          refine lv_aload_n hx hb dX6_ices_45 rfl (lv_at hl 0 rfl) ?_
          refine va_get (D := D) (ci := 4) (C := RX6) (T := TX6) (N := 27) hx hb hts iX6 hown hK hP 0 wMo_0 rfl 9 (by decide) q2 (fun _ h9 => h9) rfl dX6_ices_46 ?_
          refine lv_bipush (v := (6 : Int32)) hx hb dX6_ices_49 (by decide) ?_
          refine va_iald hx hb hK hP 8 0 wMo_8 rfl (show ¬ ((6 : Int32) < 0 ∨ 7 ≤ (6 : Int32).toNatClampNeg) by decide) dX6_ices_51 ?_
          refine lv_iload hx hb dX6_ices_52 (lv_at hl 3 rfl) ?_
          obtain ⟨r54, hc, h⟩ := bd1_some h
          refine my_roz (va_Run.run (va_runS (As := [.int (mnow (6 : Int32).toNatClampNeg), .int x4]) (rest := []) hFix (kX6_has l D T F (mnow (6 : Int32).toNatClampNeg) x4 r54 hc) (va_cwS 2 hts gX6_ices_X6_has rfl rfl rfl hd_X6_has ⟨Nat.le_of_ble_eq_true rfl, Nat.le_of_ble_eq_true rfl⟩) (preS_ro va_nil hKK) rfl rfl hl.1 rfl (lv_room (Nat.le_of_ble_eq_true rfl)) dX6_ices_54 ⟨Nat.zero_le _, Nat.zero_le _⟩)) (fun hb54 => ?_)
          refine lv_if_ne (tgt := 103) hx hb dX6_ices_57 (by decide) (fun c57 => ?_) (fun c57 => ?_)
          · have h := br_0 h c57
            refine lv_iinc (v := (x4 + (1 : Int32))) (lv' := [(4, .int (x4 + (1 : Int32))), (0, .ref (am 0)), (1, .int x1), (3, .int x3)]) hx hb dX6_ices_103 hl (k := 3) rfl rfl (by decide) rfl (fun ls hl => ?_)
            refine lv_goto (tgt := 36) hx hb dX6_ices_106 (by decide) ?_
            exact ih36 x3 (x4 + (1 : Int32)) h _ _ hP hD hS _ (lv_sub hl [1, 2, 3, 0] rfl)
          · have h := br_1 h c57
            refine lv_iconst (v := (0 : Int32)) hx hb dX6_ices_60 (by decide) ?_
            refine lv_istore (lv' := [(5, .int (0 : Int32)), (0, .ref (am 0)), (1, .int x1), (3, .int x3), (4, .int x4)]) hx hb dX6_ices_61 hl (by decide) rfl (fun ls hl => ?_)
            exact l63 x1 x3 x4 mfinding mfindings F (0 : Int32) h _ _ hP hD hS _ (lv_sub hl [1, 2, 3, 4, 0] rfl)
    unfold fX6_ices at h
    refine lv_iload_n hx hb dX6_ices_0 rfl (lv_at hl 1 rfl) ?_
    obtain ⟨r1, hc, h⟩ := bd1_some h
    refine my_roz (va_Run.run (va_runS (As := [.int x1]) (rest := []) hFix (kX6_isRow l D T F x1 r1 hc) (va_cwS 1 hts gX6_ices_X6_isRow rfl rfl rfl hd_X6_isRow ⟨Nat.le_of_ble_eq_true rfl, Nat.le_of_ble_eq_true rfl⟩) (preS_ro va_nil hKK) rfl rfl hl.1 rfl (lv_room (Nat.le_of_ble_eq_true rfl)) dX6_ices_1 ⟨Nat.zero_le _, Nat.zero_le _⟩)) (fun hb1 => ?_)
    refine lv_if_ne (tgt := 9) hx hb dX6_ices_4 (by decide) (fun c4 => ?_) (fun c4 => ?_)
    · have h := br_0 h c4
      refine lv_aload_n hx hb dX6_ices_9 rfl (lv_at hl 0 rfl) ?_
      refine va_get (D := D) (ci := 4) (C := RX6) (T := TX6) (N := 27) hx hb hts iX6 hown hK hP 0 wMo_0 rfl 4 (by decide) q1 (fun _ h9 => h9) rfl dX6_ices_10 ?_
      refine lv_if_ne (tgt := 19) hx hb dX6_ices_13 (by decide) (fun c13 => ?_) (fun c13 => ?_)
      · have h := br_0 h c13
        refine lv_aload_n hx hb dX6_ices_19 rfl (lv_at hl 0 rfl) ?_
        refine lv_iload_n hx hb dX6_ices_20 rfl (lv_at hl 1 rfl) ?_
        obtain ⟨r21, w21_mfinding, w21_mfindings, hc, h⟩ := bd3_some h
        have hFc := my_freeS hD hS hA
        refine my_rwi (va_runV (As := [.int x1]) (rest := []) hFix (kX6_programme l D T F am mguests mclause mdeeds masked mupper mlower mfinding mreadGuests misSight mat mrowSizes mrows mtextSizes mtexts mdoes mkinds msees mnow mbefore mkeeps mkept mfindings mread maside msteps mtried mbest x1 r21 w21_mfinding w21_mfindings hc) (cwV 1 hts gX6_ices_X6_programme rfl rfl rfl ⟨rfl, hd_X6_programme⟩ ⟨Nat.le_of_ble_eq_true rfl, Nat.le_of_ble_eq_true rfl⟩) (preV_rw hP hKK hD (va_recv hK hP (ci := 4) (q0 := 0) rfl wMo_0)) rfl rfl hl.1 rfl (lv_room (Nat.le_of_ble_eq_true rfl)) dX6_ices_21 ⟨Nat.zero_le _, Nat.zero_le _⟩) hS hFc (fun H1 locs hP1 hD1 hz1 hk1 hS => ?_)
        have hP : va_P D vwCl (wMo T am mguests mclause mdeeds masked mupper mlower w21_mfinding mreadGuests misSight mat mrowSizes mrows mtextSizes mtexts mdoes mkinds msees mnow mbefore mkeeps mkept w21_mfindings mread maside msteps mtried mbest) H1 := hP1
        have hD : va_D A (wMo T am mguests mclause mdeeds masked mupper mlower w21_mfinding mreadGuests misSight mat mrowSizes mrows mtextSizes mtexts mdoes mkinds msees mnow mbefore mkeeps mkept w21_mfindings mread maside msteps mtried mbest) := hD1.weaken (fun _ q _ h => hFc q.1 h)
        generalize H1 = H at hP hS ⊢
        refine lv_istore_n (lv' := [(2, .int r21), (0, .ref (am 0)), (1, .int x1)]) hx hb dX6_ices_24 rfl hl (by decide) rfl (fun ls hl => ?_)
        refine lv_iload_n hx hb dX6_ices_25 rfl (lv_at hl 0 rfl) ?_
        refine lv_if_eq (tgt := 31) hx hb dX6_ices_26 (by decide) (fun c26 => ?_) (fun c26 => ?_)
        · have h := br_1 h c26
          refine lv_iconst (v := (0 : Int32)) hx hb dX6_ices_31 (by decide) ?_
          refine lv_istore_n (lv' := [(3, .int (0 : Int32)), (2, .int r21), (0, .ref (am 0)), (1, .int x1)]) hx hb dX6_ices_32 rfl hl (by decide) rfl (fun ls hl => ?_)
          refine lv_iconst (v := (0 : Int32)) hx hb dX6_ices_33 (by decide) ?_
          refine lv_istore (lv' := [(4, .int (0 : Int32)), (3, .int (0 : Int32)), (2, .int r21), (0, .ref (am 0)), (1, .int x1)]) hx hb dX6_ices_34 hl (by decide) rfl (fun ls hl => ?_)
          exact l36 x1 w21_mfinding w21_mfindings F (0 : Int32) (0 : Int32) h _ _ hP hD hS _ (lv_sub hl [3, 4, 1, 0] rfl)
        · have h := br_0 h c26
          refine lv_iload_n hx hb dX6_ices_29 rfl (lv_at hl 0 rfl) ?_
          cases h
          exact hret _ _ _ _ hP hD hS dX6_ices_30
      · have h := br_1 h c13
        refine lv_bipush (v := (-4 : Int32)) hx hb dX6_ices_16 (by decide) ?_
        cases h
        exact hret _ _ _ _ hP hD hS dX6_ices_18
    · have h := br_1 h c4
      refine lv_iconst (v := (-1 : Int32)) hx hb dX6_ices_7 (by decide) ?_
      cases h
      exact hret _ _ _ _ hP hD hS dX6_ices_8
  exact key _ (fun H locs pc ls hP hD hS hd => W.iret hx hb hr (fun t ht hW => ⟨⟨_, (), rfl, rfl, by show _ ∧ _; rw [ht]; exact ⟨hP, hD⟩⟩, hS.F ht⟩) hS.2.2 hd)
set_option maxHeartbeats 4000000 in
set_option maxRecDepth 100000 in
theorem kX6_tries (l : Launch) (D : va_G) (T : Nat → ClassId) (F : Nat) (am : Nat → Nat) (mguests : Int32) (mclause : Int32) (mdeeds : Int32) (masked : Int32) (mupper : Int64) (mlower : Int64) (mfinding : Int32) (mreadGuests : Int32) (misSight : Int32) (mat : Int32) (mrowSizes : Nat → Int32) (mrows : Nat → Int32) (mtextSizes : Nat → Int32) (mtexts : Nat → Int32) (mdoes : Nat → Int32) (mkinds : Nat → Int32) (msees : Nat → Int32) (mnow : Nat → Int32) (mbefore : Nat → Int32) (mkeeps : Nat → Int32) (mkept : Nat → Int32) (mfindings : Nat → Int32) (mread : Nat → Int32) (maside : Nat → Int32) (msteps : Nat → Int32) (mtried : Nat → Int32) (mbest : Nat → Int32) (x1 : Int32) (r : Int32) (zmaside : Nat → Int32) (zmsteps : Nat → Int32) (h : fX6_tries F mguests mclause mdoes mkinds msees maside msteps mtried x1 = some (r, zmaside, zmsteps)) : ∀ sz : Nat, Met l yX6_tries wsX6_tries ({ frames := 4, cells := 0, slots := 0, locals := 93 } : Room) (va_Pc [.ref (am 0), .int x1] (fun U => U.heap.size = sz ∧ va_P D vwCl (wMo T am mguests mclause mdeeds masked mupper mlower mfinding mreadGuests misSight mat mrowSizes mrows mtextSizes mtexts mdoes mkinds msees mnow mbefore mkeeps mkept mfindings mread maside msteps mtried mbest) U.heap ∧ KK D T U ∧ va_D (fun _ => True) (wMo T am mguests mclause mdeeds masked mupper mlower mfinding mreadGuests misSight mat mrowSizes mrows mtextSizes mtexts mdoes mkinds msees mnow mbefore mkeeps mkept mfindings mread maside msteps mtried mbest))) (va_Qi (fun r' (_ : Unit) => r' = r ∧ b01 r) (fun _ t => va_P D vwCl (wMo T am mguests mclause mdeeds masked mupper mlower mfinding mreadGuests misSight mat mrowSizes mrows mtextSizes mtexts mdoes mkinds msees mnow mbefore mkeeps mkept mfindings mread zmaside zmsteps mtried mbest) t.heap ∧ va_D (va_A (wMo T am mguests mclause mdeeds masked mupper mlower mfinding mreadGuests misSight mat mrowSizes mrows mtextSizes mtexts mdoes mkinds msees mnow mbefore mkeeps mkept mfindings mread maside msteps mtried mbest) sz) (wMo T am mguests mclause mdeeds masked mupper mlower mfinding mreadGuests misSight mat mrowSizes mrows mtextSizes mtexts mdoes mkinds msees mnow mbefore mkeeps mkept mfindings mread zmaside zmsteps mtried mbest)) (va_A (wMo T am mguests mclause mdeeds masked mupper mlower mfinding mreadGuests misSight mat mrowSizes mrows mtextSizes mtexts mdoes mkinds msees mnow mbefore mkeeps mkept mfindings mread maside msteps mtried mbest) sz)) 0 0 (va_A (wMo T am mguests mclause mdeeds masked mupper mlower mfinding mreadGuests misSight mat mrowSizes mrows mtextSizes mtexts mdoes mkinds msees mnow mbefore mkeeps mkept mfindings mread maside msteps mtried mbest) sz) := by
  intro sz
  refine Met.ofW (cc := cX6_tries) (maxL := 5) (ret := some .boolean) (by decide) rfl ?_
  intro p e s m args below meth c s₁ B hml hv
  obtain ⟨ha, hsz, hP, hKK, hD0⟩ := hv
  have hx := B.exec
  have hb := B.bytes
  have hr := B.returns
  have hts := atoms_spec (ws := wsX6_tries) B.pre
  have hown : s.vm.findClass RX6 = some m.cls := findClass_of_methodNamed B.named
  have hlocks := B.notSynchronized
  have hK := hKK.1
  have hFix : CallFix p m c cX6_tries 5 s args wsX6_tries RX6 := ⟨hx, hb, hml, hown, hts⟩
  have q1 := hts _ (List.mem_of_getElem? (i := 1) (show wsX6_tries[1]? = some (Cond.fieldLink RX6 60 "PartyWillModel" "tried" "[I") from rfl))
  have q2 := hts _ (List.mem_of_getElem? (i := 2) (show wsX6_tries[2]? = some (Cond.fieldLink RX6 57 "PartyWillModel" "steps" "[I") from rfl))
  have q3 := hts _ (List.mem_of_getElem? (i := 3) (show wsX6_tries[3]? = some (Cond.fieldLink RX6 54 "PartyWillModel" "aside" "[I") from rfl))
  have q4 := hts _ (List.mem_of_getElem? (i := 4) (show wsX6_tries[4]? = some (Cond.fieldLink RX6 25 "PartyWillModel" "kinds" "[I") from rfl))
  have iX6 : ∀ w ∈ u_ws RX6 TX6 27, w ∈ wsX6_tries := fun w h => List.mem_cons_of_mem _ (List.mem_append_right _ (h))
  subst hsz
  have hD := hD0.self (sz := s.heap.size)
  generalize hAe : va_A (wMo T am mguests mclause mdeeds masked mupper mlower mfinding mreadGuests misSight mat mrowSizes mrows mtextSizes mtexts mdoes mkinds msees mnow mbefore mkeeps mkept mfindings mread maside msteps mtried mbest) s.heap.size = A at hD ⊢
  have hA : ∀ q : Nat, s.heap.size ≤ q → A q := fun q h => by rw [← hAe]; exact Or.inr h
  have hS : va_S A s.heap s.heap [] := va_S.rf
  have hP : va_P D vwCl (wMo T am mguests mclause mdeeds masked mupper mlower mfinding mreadGuests misSight mat mrowSizes mrows mtextSizes mtexts mdoes mkinds msees mnow mbefore mkeeps mkept mfindings mread maside msteps mtried mbest) s.heap := hP
  obtain ⟨ls, hl, e0⟩ := my_entry (m := m) (n := 5) ha (Nat.le_of_ble_eq_true rfl)
  rw [e0]
  have hl : lv_has ls 5 [(0, .ref (am 0)), (1, .int x1)] := hl
  have key : ∀ Q : State → Prop, (∀ (H : Heap) (locs : List Loc) (pc : Nat) (ls : Array Slot), va_P D vwCl (wMo T am mguests mclause mdeeds masked mupper mlower mfinding mreadGuests misSight mat mrowSizes mrows mtextSizes mtexts mdoes mkinds msees mnow mbefore mkeeps mkept mfindings mread zmaside zmsteps mtried mbest) H → va_D A (wMo T am mguests mclause mdeeds masked mupper mlower mfinding mreadGuests misSight mat mrowSizes mrows mtextSizes mtexts mdoes mkinds msees mnow mbefore mkeeps mkept mfindings mread zmaside zmsteps mtried mbest) → va_S A s.heap H locs → decode cX6_tries pc = .ok (.ireturn, 1) → b01 r → W p l e ({ frames := 4, cells := 0, slots := 0, locals := 93 } : Room) s m args below meth c H locs 0 0 Q (F0 m pc ls [.int r])) → W p l e ({ frames := 4, cells := 0, slots := 0, locals := 93 } : Room) s m args below meth c s.heap [] 0 0 Q (F0 m 0 ls []) := by
    intro Q hret
    skip
    have n114 : ∀ x1 : Int32, ∀ maside : Nat → Int32, ∀ msteps : Nat → Int32, fX6_tries_n114 F mguests mclause mdoes mkinds msees mtried x1 maside msteps = some (r, zmaside, zmsteps) → ∀ (H : Heap) (locs : List Loc), va_P D vwCl (wMo T am mguests mclause mdeeds masked mupper mlower mfinding mreadGuests misSight mat mrowSizes mrows mtextSizes mtexts mdoes mkinds msees mnow mbefore mkeeps mkept mfindings mread maside msteps mtried mbest) H → va_D A (wMo T am mguests mclause mdeeds masked mupper mlower mfinding mreadGuests misSight mat mrowSizes mrows mtextSizes mtexts mdoes mkinds msees mnow mbefore mkeeps mkept mfindings mread maside msteps mtried mbest) → va_S A s.heap H locs → ∀ (ls : Array Slot), lv_has ls 5 [(0, .ref (am 0)), (1, .int x1)] → W p l e ({ frames := 4, cells := 0, slots := 0, locals := 93 } : Room) s m args below meth c H locs 0 0 Q (F0 m 114 ls []) := by
      intro x1 maside msteps h H locs hP hD hS ls hl
      unfold fX6_tries_n114 at h
      refine lv_aload_n hx hb dX6_tries_114 rfl (lv_at hl 0 rfl) ?_
      refine va_get (D := D) (ci := 4) (C := RX6) (T := TX6) (N := 27) hx hb hts iX6 hown hK hP 0 wMo_0 rfl 23 (by decide) q3 (fun _ h9 => h9) rfl dX6_tries_115 ?_
      refine lv_iconst (v := (0 : Int32)) hx hb dX6_tries_118 (by decide) ?_
      refine lv_aload_n hx hb dX6_tries_119 rfl (lv_at hl 0 rfl) ?_
      refine va_get (D := D) (ci := 4) (C := RX6) (T := TX6) (N := 27) hx hb hts iX6 hown hK hP 0 wMo_0 rfl 24 (by decide) q2 (fun _ h9 => h9) rfl dX6_tries_120 ?_
      refine lv_bipush (v := (7 : Int32)) hx hb dX6_tries_123 (by decide) ?_
      refine lv_iload_n hx hb dX6_tries_125 rfl (lv_at hl 1 rfl) ?_
      refine lv_iconst (v := (1 : Int32)) hx hb dX6_tries_126 (by decide) ?_
      refine lv_iadd hx hb dX6_tries_127 ?_
      refine lv_imul hx hb dX6_tries_128 ?_
      refine lv_bipush (v := (7 : Int32)) hx hb dX6_tries_129 (by decide) ?_
      obtain ⟨w131_f2, hc, h⟩ := bd1_some h
      have hPc : va_P D vwCl (wA2 T (am 14) (am 15) 7 49 maside msteps) H := my_subP sb_wMo_wA2_14_15 hP
      have hDc := hD.sub [14, 15] (by decide) sb_wMo_wA2_14_15
      have hFc := va_free hD hS hA [14, 15] sb_wMo_wA2_14_15
      refine my_rwv (va_runS (As := [.ref (am 14), .int (0 : Int32), .ref (am 15), .int ((7 : Int32) * (x1 + (1 : Int32))), .int (7 : Int32)]) (rest := []) hFix (kX6_copies l D T F (am 14) (am 15) 7 49 maside msteps (0 : Int32) ((7 : Int32) * (x1 + (1 : Int32))) (7 : Int32) w131_f2 hc) (va_cwS 5 hts gX6_tries_X6_copies rfl rfl rfl hd_X6_copies ⟨Nat.le_of_ble_eq_true rfl, Nat.le_of_ble_eq_true rfl⟩) (preS_rw hPc hKK hDc) rfl rfl hl.1 rfl (lv_room (Nat.le_of_ble_eq_true rfl)) dX6_tries_131 ⟨Nat.zero_le _, Nat.zero_le _⟩) hS hFc (fun H1 locs hP1 hD1 hz1 hk1 hS => ?_)
      obtain ⟨hP, hD⟩ := my_joinS hP hD (by decide) sb_wMo_wA2_14_15 hk1 hFc hP1 hD1
      have hP : va_P D vwCl (wMo T am mguests mclause mdeeds masked mupper mlower mfinding mreadGuests misSight mat mrowSizes mrows mtextSizes mtexts mdoes mkinds msees mnow mbefore mkeeps mkept mfindings mread maside w131_f2 mtried mbest) H1 := st_wMo_wA2_14_15_copies ▸ hP
      have hD : va_D A (wMo T am mguests mclause mdeeds masked mupper mlower mfinding mreadGuests misSight mat mrowSizes mrows mtextSizes mtexts mdoes mkinds msees mnow mbefore mkeeps mkept mfindings mread maside w131_f2 mtried mbest) := st_wMo_wA2_14_15_copies ▸ hD
      generalize H1 = H at hP hS ⊢
      refine lv_iconst (v := (1 : Int32)) hx hb dX6_tries_134 (by decide) ?_
      cases h
      exact hret _ _ _ _ hP hD hS dX6_tries_135 (Or.inr rfl)
    have n102 : ∀ x1 : Int32, ∀ x2 : Int32, ∀ x3 : Int32, ∀ maside : Nat → Int32, ∀ msteps : Nat → Int32, fX6_tries_n102 F mguests mclause mdoes mkinds msees mtried x1 x2 x3 maside msteps = some (r, zmaside, zmsteps) → ∀ (H : Heap) (locs : List Loc), va_P D vwCl (wMo T am mguests mclause mdeeds masked mupper mlower mfinding mreadGuests misSight mat mrowSizes mrows mtextSizes mtexts mdoes mkinds msees mnow mbefore mkeeps mkept mfindings mread maside msteps mtried mbest) H → va_D A (wMo T am mguests mclause mdeeds masked mupper mlower mfinding mreadGuests misSight mat mrowSizes mrows mtextSizes mtexts mdoes mkinds msees mnow mbefore mkeeps mkept mfindings mread maside msteps mtried mbest) → va_S A s.heap H locs → ∀ (ls : Array Slot), lv_has ls 5 [(0, .ref (am 0)), (1, .int x1), (2, .int x2), (3, .int x3)] → W p l e ({ frames := 4, cells := 0, slots := 0, locals := 93 } : Room) s m args below meth c H locs 0 0 Q (F0 m 102 ls []) := by
      intro x1 x2 x3 maside msteps h H locs hP hD hS ls hl
      unfold fX6_tries_n102 at h
      refine lv_iload_n hx hb dX6_tries_102 rfl (lv_at hl 2 rfl) ?_
      refine lv_bipush (v := (6 : Int32)) hx hb dX6_tries_103 (by decide) ?_
      refine lv_icmp_lt (tgt := 112) hx hb dX6_tries_105 (by decide) (fun c105 => ?_) (fun c105 => ?_)
      · have h := br_1 h c105
        refine lv_iconst (v := (0 : Int32)) hx hb dX6_tries_112 (by decide) ?_
        cases h
        exact hret _ _ _ _ hP hD hS dX6_tries_113 (Or.inl rfl)
      · have h := br_0 h c105
        refine lv_iload_n hx hb dX6_tries_108 rfl (lv_at hl 3 rfl) ?_
        refine lv_if_eq (tgt := 114) hx hb dX6_tries_109 (by decide) (fun c109 => ?_) (fun c109 => ?_)
        · have h := br_1 h c109
          exact n114 x1 maside msteps h _ _ hP hD hS _ (lv_sub hl [0, 1] rfl)
        · have h := br_0 h c109
          refine lv_iconst (v := (0 : Int32)) hx hb dX6_tries_112 (by decide) ?_
          cases h
          exact hret _ _ _ _ hP hD hS dX6_tries_113 (Or.inl rfl)
    unfold fX6_tries at h
    refine lv_aload_n hx hb dX6_tries_0 rfl (lv_at hl 0 rfl) ?_
    refine va_get (D := D) (ci := 4) (C := RX6) (T := TX6) (N := 27) hx hb hts iX6 hown hK hP 0 wMo_0 rfl 25 (by decide) q1 (fun _ h9 => h9) rfl dX6_tries_1 ?_
    refine lv_iload_n hx hb dX6_tries_4 rfl (lv_at hl 1 rfl) ?_
    obtain ⟨hin1, h⟩ := ck_some h
    refine va_iald hx hb hK hP 16 0 wMo_16 rfl hin1 dX6_tries_5 ?_
    refine lv_istore_n (lv' := [(2, .int (mtried x1.toNatClampNeg)), (0, .ref (am 0)), (1, .int x1)]) hx hb dX6_tries_6 rfl hl (by decide) rfl (fun ls hl => ?_)
    refine lv_aload_n hx hb dX6_tries_7 rfl (lv_at hl 1 rfl) ?_
    refine va_get (D := D) (ci := 4) (C := RX6) (T := TX6) (N := 27) hx hb hts iX6 hown hK hP 0 wMo_0 rfl 24 (by decide) q2 (fun _ h9 => h9) rfl dX6_tries_8 ?_
    refine lv_bipush (v := (7 : Int32)) hx hb dX6_tries_11 (by decide) ?_
    refine lv_iload_n hx hb dX6_tries_13 rfl (lv_at hl 2 rfl) ?_
    refine lv_imul hx hb dX6_tries_14 ?_
    refine lv_aload_n hx hb dX6_tries_15 rfl (lv_at hl 1 rfl) ?_
    refine va_get (D := D) (ci := 4) (C := RX6) (T := TX6) (N := 27) hx hb hts iX6 hown hK hP 0 wMo_0 rfl 23 (by decide) q3 (fun _ h9 => h9) rfl dX6_tries_16 ?_
    refine lv_iconst (v := (0 : Int32)) hx hb dX6_tries_19 (by decide) ?_
    refine lv_bipush (v := (7 : Int32)) hx hb dX6_tries_20 (by decide) ?_
    obtain ⟨w22_f2, hc, h⟩ := bd1_some h
    have hPc : va_P D vwCl (wA2 T (am 15) (am 14) 49 7 msteps maside) H := my_subP sb_wMo_wA2_15_14 hP
    have hDc := hD.sub [15, 14] (by decide) sb_wMo_wA2_15_14
    have hFc := va_free hD hS hA [15, 14] sb_wMo_wA2_15_14
    refine my_rwv (va_runS (As := [.ref (am 15), .int ((7 : Int32) * x1), .ref (am 14), .int (0 : Int32), .int (7 : Int32)]) (rest := []) hFix (kX6_copies l D T F (am 15) (am 14) 49 7 msteps maside ((7 : Int32) * x1) (0 : Int32) (7 : Int32) w22_f2 hc) (va_cwS 5 hts gX6_tries_X6_copies rfl rfl rfl hd_X6_copies ⟨Nat.le_of_ble_eq_true rfl, Nat.le_of_ble_eq_true rfl⟩) (preS_rw hPc hKK hDc) rfl rfl hl.1 rfl (lv_room (Nat.le_of_ble_eq_true rfl)) dX6_tries_22 ⟨Nat.zero_le _, Nat.zero_le _⟩) hS hFc (fun H1 locs hP1 hD1 hz1 hk1 hS => ?_)
    obtain ⟨hP, hD⟩ := my_joinS hP hD (by decide) sb_wMo_wA2_15_14 hk1 hFc hP1 hD1
    have hP : va_P D vwCl (wMo T am mguests mclause mdeeds masked mupper mlower mfinding mreadGuests misSight mat mrowSizes mrows mtextSizes mtexts mdoes mkinds msees mnow mbefore mkeeps mkept mfindings mread w22_f2 msteps mtried mbest) H1 := st_wMo_wA2_15_14_copies ▸ hP
    have hD : va_D A (wMo T am mguests mclause mdeeds masked mupper mlower mfinding mreadGuests misSight mat mrowSizes mrows mtextSizes mtexts mdoes mkinds msees mnow mbefore mkeeps mkept mfindings mread w22_f2 msteps mtried mbest) := st_wMo_wA2_15_14_copies ▸ hD
    generalize H1 = H at hP hS ⊢
    refine lv_aload_n hx hb dX6_tries_25 rfl (lv_at hl 1 rfl) ?_
    refine lv_aload_n hx hb dX6_tries_26 rfl (lv_at hl 1 rfl) ?_
    refine va_get (D := D) (ci := 4) (C := RX6) (T := TX6) (N := 27) hx hb hts iX6 hown hK hP 0 wMo_0 rfl 23 (by decide) q3 (fun _ h9 => h9) rfl dX6_tries_27 ?_
    obtain ⟨r30, hc, h⟩ := bd1_some h
    have hPc : va_P D vwCl (wMi T am (am 14) mguests mclause mdeeds masked mupper mlower mfinding mreadGuests misSight mat w22_f2) H := my_subP sb_wMo_wMi_0_14 hP
    refine my_roi (va_Run.run (va_runV (As := [.ref (am 14)]) (rest := []) hFix (kX6_inside l D T F am (am 14) mguests mclause mdeeds masked mupper mlower mfinding mreadGuests misSight mat w22_f2 r30 hc) (cwV 1 hts gX6_tries_X6_inside rfl rfl rfl ⟨rfl, hd_X6_inside⟩ ⟨Nat.le_of_ble_eq_true rfl, Nat.le_of_ble_eq_true rfl⟩) (preV_ro hPc hKK (va_recv hK hP (ci := 4) (q0 := 0) rfl wMo_0)) rfl rfl hl.1 rfl (lv_room (Nat.le_of_ble_eq_true rfl)) dX6_tries_30 ⟨Nat.zero_le _, Nat.zero_le _⟩)) ?_
    refine lv_istore_n (lv' := [(3, .int r30), (2, .int (mtried x1.toNatClampNeg)), (0, .ref (am 0)), (1, .int x1)]) hx hb dX6_tries_33 rfl hl (by decide) rfl (fun ls hl => ?_)
    refine lv_iload_n hx hb dX6_tries_34 rfl (lv_at hl 3 rfl) ?_
    refine lv_iconst (v := (2 : Int32)) hx hb dX6_tries_35 (by decide) ?_
    refine lv_irem hx hb dX6_tries_36 (by decide) ?_
    refine lv_if_ne (tgt := 54) hx hb dX6_tries_37 (by decide) (fun c37 => ?_) (fun c37 => ?_)
    · have h := br_0 h c37
      refine lv_iload_n hx hb dX6_tries_54 rfl (lv_at hl 1 rfl) ?_
      refine lv_bipush (v := (6 : Int32)) hx hb dX6_tries_55 (by decide) ?_
      refine lv_icmp_ge (tgt := 102) hx hb dX6_tries_57 (by decide) (fun c57 => ?_) (fun c57 => ?_)
      · have h := br_1 h c57
        exact n102 x1 (mtried x1.toNatClampNeg) r30 w22_f2 msteps h _ _ hP hD hS _ (lv_sub hl [2, 3, 1, 0] rfl)
      · have h := br_0 h c57
        refine lv_iload_n hx hb dX6_tries_60 rfl (lv_at hl 0 rfl) ?_
        refine lv_iload_n hx hb dX6_tries_61 rfl (lv_at hl 1 rfl) ?_
        obtain ⟨r62, hc, h⟩ := bd1_some h
        refine my_roz (va_Run.run (va_runS (As := [.int r30, .int (mtried x1.toNatClampNeg)]) (rest := []) hFix (kX6_has l D T F r30 (mtried x1.toNatClampNeg) r62 hc) (va_cwS 2 hts gX6_tries_X6_has rfl rfl rfl hd_X6_has ⟨Nat.le_of_ble_eq_true rfl, Nat.le_of_ble_eq_true rfl⟩) (preS_ro va_nil hKK) rfl rfl hl.1 rfl (lv_room (Nat.le_of_ble_eq_true rfl)) dX6_tries_62 ⟨Nat.zero_le _, Nat.zero_le _⟩)) (fun hb62 => ?_)
        refine lv_if_eq (tgt := 102) hx hb dX6_tries_65 (by decide) (fun c65 => ?_) (fun c65 => ?_)
        · have h := br_1 h c65
          exact n102 x1 (mtried x1.toNatClampNeg) r30 w22_f2 msteps h _ _ hP hD hS _ (lv_sub hl [2, 3, 1, 0] rfl)
        · have h := br_0 h c65
          refine lv_aload_n hx hb dX6_tries_68 rfl (lv_at hl 2 rfl) ?_
          refine va_get (D := D) (ci := 4) (C := RX6) (T := TX6) (N := 27) hx hb hts iX6 hown hK hP 0 wMo_0 rfl 23 (by decide) q3 (fun _ h9 => h9) rfl dX6_tries_69 ?_
          refine lv_iload_n hx hb dX6_tries_72 rfl (lv_at hl 1 rfl) ?_
          refine lv_aload_n hx hb dX6_tries_73 rfl (lv_at hl 2 rfl) ?_
          refine va_get (D := D) (ci := 4) (C := RX6) (T := TX6) (N := 27) hx hb hts iX6 hown hK hP 0 wMo_0 rfl 7 (by decide) q4 (fun _ h9 => h9) rfl dX6_tries_74 ?_
          refine lv_iload_n hx hb dX6_tries_77 rfl (lv_at hl 1 rfl) ?_
          obtain ⟨hin2, h⟩ := ck_some h
          refine va_iald hx hb hK hP 6 0 wMo_6 rfl hin2 dX6_tries_78 ?_
          refine lv_aload_n hx hb dX6_tries_79 rfl (lv_at hl 2 rfl) ?_
          refine va_get (D := D) (ci := 4) (C := RX6) (T := TX6) (N := 27) hx hb hts iX6 hown hK hP 0 wMo_0 rfl 23 (by decide) q3 (fun _ h9 => h9) rfl dX6_tries_80 ?_
          refine lv_iload_n hx hb dX6_tries_83 rfl (lv_at hl 1 rfl) ?_
          obtain ⟨hin3, h⟩ := ck_some h
          refine va_iald hx hb hK hP 14 0 wMo_14 rfl hin3 dX6_tries_84 ?_
          obtain ⟨r85, hc, h⟩ := bd1_some h
          refine my_roi (va_Run.run (va_runS (As := [.int (mkinds (mtried x1.toNatClampNeg).toNatClampNeg), .int (w22_f2 (mtried x1.toNatClampNeg).toNatClampNeg)]) (rest := [.int (mtried x1.toNatClampNeg), .ref (am 14)]) hFix (kX6_named l D T F (mkinds (mtried x1.toNatClampNeg).toNatClampNeg) (w22_f2 (mtried x1.toNatClampNeg).toNatClampNeg) r85 hc) (va_cwS 2 hts gX6_tries_X6_named rfl rfl rfl hd_X6_named ⟨Nat.le_of_ble_eq_true rfl, Nat.le_of_ble_eq_true rfl⟩) (preS_ro va_nil hKK) rfl rfl hl.1 rfl (lv_room (Nat.le_of_ble_eq_true rfl)) dX6_tries_85 ⟨Nat.zero_le _, Nat.zero_le _⟩)) ?_
          obtain ⟨hin4, h⟩ := ck_some h
          refine va_iast hx hb hK hP hD hS 14 0 wMo_14 rfl hin4 dX6_tries_88 (fun H locs hP hD hS => ?_)
          have hP : va_P D vwCl (wMo T am mguests mclause mdeeds masked mupper mlower mfinding mreadGuests misSight mat mrowSizes mrows mtextSizes mtexts mdoes mkinds msees mnow mbefore mkeeps mkept mfindings mread (upd w22_f2 (mtried x1.toNatClampNeg).toNatClampNeg r85) msteps mtried mbest) H := hP
          have hD : va_D A (wMo T am mguests mclause mdeeds masked mupper mlower mfinding mreadGuests misSight mat mrowSizes mrows mtextSizes mtexts mdoes mkinds msees mnow mbefore mkeeps mkept mfindings mread (upd w22_f2 (mtried x1.toNatClampNeg).toNatClampNeg r85) msteps mtried mbest) := hD
          refine lv_aload_n hx hb dX6_tries_89 rfl (lv_at hl 2 rfl) ?_
          refine lv_aload_n hx hb dX6_tries_90 rfl (lv_at hl 2 rfl) ?_
          refine va_get (D := D) (ci := 4) (C := RX6) (T := TX6) (N := 27) hx hb hts iX6 hown hK hP 0 wMo_0 rfl 23 (by decide) q3 (fun _ h9 => h9) rfl dX6_tries_91 ?_
          obtain ⟨r94, w94_tt, hc, h⟩ := bd2_some h
          have hPc : va_P D vwCl (wMl T am (am 14) mguests mclause mdeeds masked mupper mlower mfinding mreadGuests misSight mat mkinds msees (upd w22_f2 (mtried x1.toNatClampNeg).toNatClampNeg r85)) H := my_subP sb_wMo_wMl_0_6_7_14 hP
          have hDc := hD.sub [0, 6, 7, 14] (by decide) sb_wMo_wMl_0_6_7_14
          have hFc := va_free hD hS hA [0, 6, 7, 14] sb_wMo_wMl_0_6_7_14
          refine my_rwi (va_runV (As := [.ref (am 14)]) (rest := []) hFix (kX6_looks l D T F am (am 14) mguests mclause mdeeds masked mupper mlower mfinding mreadGuests misSight mat mkinds msees (upd w22_f2 (mtried x1.toNatClampNeg).toNatClampNeg r85) r94 w94_tt hc) (cwV 1 hts gX6_tries_X6_looks rfl rfl rfl ⟨rfl, hd_X6_looks⟩ ⟨Nat.le_of_ble_eq_true rfl, Nat.le_of_ble_eq_true rfl⟩) (preV_rw hPc hKK hDc (va_recv hK hP (ci := 4) (q0 := 0) rfl wMo_0)) rfl rfl hl.1 rfl (lv_room (Nat.le_of_ble_eq_true rfl)) dX6_tries_94 ⟨Nat.zero_le _, Nat.zero_le _⟩) hS hFc (fun H1 locs hP1 hD1 hz1 hk1 hS => ?_)
          obtain ⟨hP, hD⟩ := my_joinS hP hD (by decide) sb_wMo_wMl_0_6_7_14 hk1 hFc hP1 hD1
          have hP : va_P D vwCl (wMo T am mguests mclause mdeeds masked mupper mlower mfinding mreadGuests misSight mat mrowSizes mrows mtextSizes mtexts mdoes mkinds msees mnow mbefore mkeeps mkept mfindings mread w94_tt msteps mtried mbest) H1 := st_wMo_wMl_0_6_7_14_looks ▸ hP
          have hD : va_D A (wMo T am mguests mclause mdeeds masked mupper mlower mfinding mreadGuests misSight mat mrowSizes mrows mtextSizes mtexts mdoes mkinds msees mnow mbefore mkeeps mkept mfindings mread w94_tt msteps mtried mbest) := st_wMo_wMl_0_6_7_14_looks ▸ hD
          generalize H1 = H at hP hS ⊢
          refine lv_istore (lv' := [(4, .int r94), (3, .int r30), (2, .int (mtried x1.toNatClampNeg)), (0, .ref (am 0)), (1, .int x1)]) hx hb dX6_tries_97 hl (by decide) rfl (fun ls hl => ?_)
          refine lv_goto (tgt := 114) hx hb dX6_tries_99 (by decide) ?_
          exact n114 x1 w94_tt msteps h _ _ hP hD hS _ (lv_sub hl [3, 4] rfl)
    · have h := br_1 h c37
      refine lv_aload_n hx hb dX6_tries_40 rfl (lv_at hl 2 rfl) ?_
      refine lv_aload_n hx hb dX6_tries_41 rfl (lv_at hl 2 rfl) ?_
      refine va_get (D := D) (ci := 4) (C := RX6) (T := TX6) (N := 27) hx hb hts iX6 hown hK hP 0 wMo_0 rfl 23 (by decide) q3 (fun _ h9 => h9) rfl dX6_tries_42 ?_
      refine lv_iload_n hx hb dX6_tries_45 rfl (lv_at hl 1 rfl) ?_
      obtain ⟨r46, w46_tt, hc, h⟩ := bd2_some h
      have hPc : va_P D vwCl (wMp T am (am 14) mguests mclause mdeeds masked mupper mlower mfinding mreadGuests misSight mat mdoes mkinds msees w22_f2) H := my_subP sb_wMo_wMp_0_5_6_7_14 hP
      have hDc := hD.sub [0, 5, 6, 7, 14] (by decide) sb_wMo_wMp_0_5_6_7_14
      have hFc := va_free hD hS hA [0, 5, 6, 7, 14] sb_wMo_wMp_0_5_6_7_14
      refine my_rwi (va_runV (As := [.ref (am 14), .int (mtried x1.toNatClampNeg)]) (rest := []) hFix (kX6_plays l D T F am (am 14) mguests mclause mdeeds masked mupper mlower mfinding mreadGuests misSight mat mdoes mkinds msees w22_f2 (mtried x1.toNatClampNeg) r46 w46_tt hc) (cwV 2 hts gX6_tries_X6_plays rfl rfl rfl ⟨rfl, hd_X6_plays⟩ ⟨Nat.le_of_ble_eq_true rfl, Nat.le_of_ble_eq_true rfl⟩) (preV_rw hPc hKK hDc (va_recv hK hP (ci := 4) (q0 := 0) rfl wMo_0)) rfl rfl hl.1 rfl (lv_room (Nat.le_of_ble_eq_true rfl)) dX6_tries_46 ⟨Nat.zero_le _, Nat.zero_le _⟩) hS hFc (fun H1 locs hP1 hD1 hz1 hk1 hS => ?_)
      obtain ⟨hP, hD⟩ := my_joinS hP hD (by decide) sb_wMo_wMp_0_5_6_7_14 hk1 hFc hP1 hD1
      have hP : va_P D vwCl (wMo T am mguests mclause mdeeds masked mupper mlower mfinding mreadGuests misSight mat mrowSizes mrows mtextSizes mtexts mdoes mkinds msees mnow mbefore mkeeps mkept mfindings mread w46_tt msteps mtried mbest) H1 := st_wMo_wMp_0_5_6_7_14_plays ▸ hP
      have hD : va_D A (wMo T am mguests mclause mdeeds masked mupper mlower mfinding mreadGuests misSight mat mrowSizes mrows mtextSizes mtexts mdoes mkinds msees mnow mbefore mkeeps mkept mfindings mread w46_tt msteps mtried mbest) := st_wMo_wMp_0_5_6_7_14_plays ▸ hD
      generalize H1 = H at hP hS ⊢
      refine lv_istore (lv' := [(4, .int r46), (3, .int r30), (2, .int (mtried x1.toNatClampNeg)), (0, .ref (am 0)), (1, .int x1)]) hx hb dX6_tries_49 hl (by decide) rfl (fun ls hl => ?_)
      refine lv_goto (tgt := 114) hx hb dX6_tries_51 (by decide) ?_
      exact n114 x1 w46_tt msteps h _ _ hP hD hS _ (lv_sub hl [3, 4] rfl)
  exact key _ (fun H locs pc ls hP hD hS hd hb1 => W.zret hx hb hr (b01_n hb1) (fun t ht hW => ⟨⟨_, (), rfl, ⟨rfl, hb1⟩, by show _ ∧ _; rw [ht]; exact ⟨hP, hD⟩⟩, hS.F ht⟩) hS.2.2 hd)
set_option maxHeartbeats 4000000 in
set_option maxRecDepth 100000 in
theorem kX6_begins (l : Launch) (D : va_G) (T : Nat → ClassId) (F : Nat) (am : Nat → Nat) (mguests : Int32) (mclause : Int32) (mdeeds : Int32) (masked : Int32) (mupper : Int64) (mlower : Int64) (mfinding : Int32) (mreadGuests : Int32) (misSight : Int32) (mat : Int32) (mrowSizes : Nat → Int32) (mrows : Nat → Int32) (mtextSizes : Nat → Int32) (mtexts : Nat → Int32) (mdoes : Nat → Int32) (mkinds : Nat → Int32) (msees : Nat → Int32) (mnow : Nat → Int32) (mbefore : Nat → Int32) (mkeeps : Nat → Int32) (mkept : Nat → Int32) (mfindings : Nat → Int32) (mread : Nat → Int32) (maside : Nat → Int32) (msteps : Nat → Int32) (mtried : Nat → Int32) (mbest : Nat → Int32) (x1 : Int32) (zmtried : Nat → Int32) (zmbest : Nat → Int32) (h : fX6_begins F mtried mbest x1 = some (zmtried, zmbest)) : ∀ sz : Nat, Met l yX6_begins wsX6_begins ({ frames := 0, cells := 0, slots := 0, locals := 0 } : Room) (va_Pc [.ref (am 0), .int x1] (fun U => U.heap.size = sz ∧ va_P D vwCl (wMo T am mguests mclause mdeeds masked mupper mlower mfinding mreadGuests misSight mat mrowSizes mrows mtextSizes mtexts mdoes mkinds msees mnow mbefore mkeeps mkept mfindings mread maside msteps mtried mbest) U.heap ∧ KK D T U ∧ va_D (fun _ => True) (wMo T am mguests mclause mdeeds masked mupper mlower mfinding mreadGuests misSight mat mrowSizes mrows mtextSizes mtexts mdoes mkinds msees mnow mbefore mkeeps mkept mfindings mread maside msteps mtried mbest))) (va_Qv (fun _ : Unit => True) (fun _ t => va_P D vwCl (wMo T am mguests mclause mdeeds masked mupper mlower mfinding mreadGuests misSight mat mrowSizes mrows mtextSizes mtexts mdoes mkinds msees mnow mbefore mkeeps mkept mfindings mread maside msteps zmtried zmbest) t.heap ∧ va_D (va_A (wMo T am mguests mclause mdeeds masked mupper mlower mfinding mreadGuests misSight mat mrowSizes mrows mtextSizes mtexts mdoes mkinds msees mnow mbefore mkeeps mkept mfindings mread maside msteps mtried mbest) sz) (wMo T am mguests mclause mdeeds masked mupper mlower mfinding mreadGuests misSight mat mrowSizes mrows mtextSizes mtexts mdoes mkinds msees mnow mbefore mkeeps mkept mfindings mread maside msteps zmtried zmbest)) (va_A (wMo T am mguests mclause mdeeds masked mupper mlower mfinding mreadGuests misSight mat mrowSizes mrows mtextSizes mtexts mdoes mkinds msees mnow mbefore mkeeps mkept mfindings mread maside msteps mtried mbest) sz)) 0 0 (va_A (wMo T am mguests mclause mdeeds masked mupper mlower mfinding mreadGuests misSight mat mrowSizes mrows mtextSizes mtexts mdoes mkinds msees mnow mbefore mkeeps mkept mfindings mread maside msteps mtried mbest) sz) := by
  intro sz
  refine Met.ofW (cc := cX6_begins) (maxL := 2) (ret := none) (by decide) rfl ?_
  intro p e s m args below meth c s₁ B hml hv
  obtain ⟨ha, hsz, hP, hKK, hD0⟩ := hv
  have hx := B.exec
  have hb := B.bytes
  have hr := B.returns
  have hts := atoms_spec (ws := wsX6_begins) B.pre
  have hown : s.vm.findClass RX6 = some m.cls := findClass_of_methodNamed B.named
  have hlocks := B.notSynchronized
  have hK := hKK.1
  have hFix : CallFix p m c cX6_begins 2 s args wsX6_begins RX6 := ⟨hx, hb, hml, hown, hts⟩
  have q1 := hts _ (List.mem_of_getElem? (i := 1) (show wsX6_begins[1]? = some (Cond.fieldLink RX6 60 "PartyWillModel" "tried" "[I") from rfl))
  have q2 := hts _ (List.mem_of_getElem? (i := 2) (show wsX6_begins[2]? = some (Cond.fieldLink RX6 63 "PartyWillModel" "best" "[I") from rfl))
  have q3 := hts _ (List.mem_of_getElem? (i := 3) (show wsX6_begins[3]? = some (Cond.constant RX6 237 (1000000)) from rfl))
  have iX6 : ∀ w ∈ u_ws RX6 TX6 27, w ∈ wsX6_begins := fun w h => List.mem_cons_of_mem _ (List.mem_append_right _ (h))
  subst hsz
  have hD := hD0.self (sz := s.heap.size)
  generalize hAe : va_A (wMo T am mguests mclause mdeeds masked mupper mlower mfinding mreadGuests misSight mat mrowSizes mrows mtextSizes mtexts mdoes mkinds msees mnow mbefore mkeeps mkept mfindings mread maside msteps mtried mbest) s.heap.size = A at hD ⊢
  have hA : ∀ q : Nat, s.heap.size ≤ q → A q := fun q h => by rw [← hAe]; exact Or.inr h
  have hS : va_S A s.heap s.heap [] := va_S.rf
  have hP : va_P D vwCl (wMo T am mguests mclause mdeeds masked mupper mlower mfinding mreadGuests misSight mat mrowSizes mrows mtextSizes mtexts mdoes mkinds msees mnow mbefore mkeeps mkept mfindings mread maside msteps mtried mbest) s.heap := hP
  obtain ⟨ls, hl, e0⟩ := my_entry (m := m) (n := 2) ha (Nat.le_of_ble_eq_true rfl)
  rw [e0]
  have hl : lv_has ls 2 [(0, .ref (am 0)), (1, .int x1)] := hl
  have key : ∀ Q : State → Prop, (∀ (H : Heap) (locs : List Loc) (pc : Nat) (ls : Array Slot), va_P D vwCl (wMo T am mguests mclause mdeeds masked mupper mlower mfinding mreadGuests misSight mat mrowSizes mrows mtextSizes mtexts mdoes mkinds msees mnow mbefore mkeeps mkept mfindings mread maside msteps zmtried zmbest) H → va_D A (wMo T am mguests mclause mdeeds masked mupper mlower mfinding mreadGuests misSight mat mrowSizes mrows mtextSizes mtexts mdoes mkinds msees mnow mbefore mkeeps mkept mfindings mread maside msteps zmtried zmbest) → va_S A s.heap H locs → decode cX6_begins pc = .ok (.return_, 1) → W p l e ({ frames := 0, cells := 0, slots := 0, locals := 0 } : Room) s m args below meth c H locs 0 0 Q (F0 m pc ls [])) → W p l e ({ frames := 0, cells := 0, slots := 0, locals := 0 } : Room) s m args below meth c s.heap [] 0 0 Q (F0 m 0 ls []) := by
    intro Q hret
    skip
    unfold fX6_begins at h
    refine lv_aload_n hx hb dX6_begins_0 rfl (lv_at hl 0 rfl) ?_
    refine va_get (D := D) (ci := 4) (C := RX6) (T := TX6) (N := 27) hx hb hts iX6 hown hK hP 0 wMo_0 rfl 25 (by decide) q1 (fun _ h9 => h9) rfl dX6_begins_1 ?_
    refine lv_iload_n hx hb dX6_begins_4 rfl (lv_at hl 1 rfl) ?_
    refine lv_iconst (v := (-1 : Int32)) hx hb dX6_begins_5 (by decide) ?_
    obtain ⟨hin1, h⟩ := ck_some h
    refine va_iast hx hb hK hP hD hS 16 0 wMo_16 rfl hin1 dX6_begins_6 (fun H locs hP hD hS => ?_)
    have hP : va_P D vwCl (wMo T am mguests mclause mdeeds masked mupper mlower mfinding mreadGuests misSight mat mrowSizes mrows mtextSizes mtexts mdoes mkinds msees mnow mbefore mkeeps mkept mfindings mread maside msteps (upd mtried x1.toNatClampNeg (-1 : Int32)) mbest) H := hP
    have hD : va_D A (wMo T am mguests mclause mdeeds masked mupper mlower mfinding mreadGuests misSight mat mrowSizes mrows mtextSizes mtexts mdoes mkinds msees mnow mbefore mkeeps mkept mfindings mread maside msteps (upd mtried x1.toNatClampNeg (-1 : Int32)) mbest) := hD
    refine lv_aload_n hx hb dX6_begins_7 rfl (lv_at hl 0 rfl) ?_
    refine va_get (D := D) (ci := 4) (C := RX6) (T := TX6) (N := 27) hx hb hts iX6 hown hK hP 0 wMo_0 rfl 26 (by decide) q2 (fun _ h9 => h9) rfl dX6_begins_8 ?_
    refine lv_iload_n hx hb dX6_begins_11 rfl (lv_at hl 1 rfl) ?_
    refine lv_iload_n hx hb dX6_begins_12 rfl (lv_at hl 1 rfl) ?_
    refine lv_iconst (v := (2 : Int32)) hx hb dX6_begins_13 (by decide) ?_
    refine lv_irem hx hb dX6_begins_14 (by decide) ?_
    refine lv_if_ne (tgt := 23) hx hb dX6_begins_15 (by decide) (fun c15 => ?_) (fun c15 => ?_)
    · have h := br_0 h c15
      refine lv_iconst (v := (-1 : Int32)) hx hb dX6_begins_23 (by decide) ?_
      obtain ⟨hin2, h⟩ := ck_some h
      refine va_iast hx hb hK hP hD hS 17 0 wMo_17 rfl hin2 dX6_begins_24 (fun H locs hP hD hS => ?_)
      have hP : va_P D vwCl (wMo T am mguests mclause mdeeds masked mupper mlower mfinding mreadGuests misSight mat mrowSizes mrows mtextSizes mtexts mdoes mkinds msees mnow mbefore mkeeps mkept mfindings mread maside msteps (upd mtried x1.toNatClampNeg (-1 : Int32)) (upd mbest x1.toNatClampNeg (-1 : Int32))) H := hP
      have hD : va_D A (wMo T am mguests mclause mdeeds masked mupper mlower mfinding mreadGuests misSight mat mrowSizes mrows mtextSizes mtexts mdoes mkinds msees mnow mbefore mkeeps mkept mfindings mread maside msteps (upd mtried x1.toNatClampNeg (-1 : Int32)) (upd mbest x1.toNatClampNeg (-1 : Int32))) := hD
      cases h
      exact hret _ _ _ _ hP hD hS dX6_begins_25
    · have h := br_1 h c15
      refine lv_ldc (v := (1000000 : Int32)) hx hb hown q3 dX6_begins_18 ?_
      refine lv_goto (tgt := 24) hx hb dX6_begins_20 (by decide) ?_
      obtain ⟨hin3, h⟩ := ck_some h
      refine va_iast hx hb hK hP hD hS 17 0 wMo_17 rfl hin3 dX6_begins_24 (fun H locs hP hD hS => ?_)
      have hP : va_P D vwCl (wMo T am mguests mclause mdeeds masked mupper mlower mfinding mreadGuests misSight mat mrowSizes mrows mtextSizes mtexts mdoes mkinds msees mnow mbefore mkeeps mkept mfindings mread maside msteps (upd mtried x1.toNatClampNeg (-1 : Int32)) (upd mbest x1.toNatClampNeg (1000000 : Int32))) H := hP
      have hD : va_D A (wMo T am mguests mclause mdeeds masked mupper mlower mfinding mreadGuests misSight mat mrowSizes mrows mtextSizes mtexts mdoes mkinds msees mnow mbefore mkeeps mkept mfindings mread maside msteps (upd mtried x1.toNatClampNeg (-1 : Int32)) (upd mbest x1.toNatClampNeg (1000000 : Int32))) := hD
      cases h
      exact hret _ _ _ _ hP hD hS dX6_begins_25
  exact key _ (fun H locs pc ls hP hD hS hd => W.vret hx hb hr (fun t ht hW => ⟨⟨(), rfl, trivial, by show _ ∧ _; rw [ht]; exact ⟨hP, hD⟩⟩, hS.F ht⟩) hS.2.2 hd)
set_option maxHeartbeats 4000000 in
set_option maxRecDepth 100000 in
theorem kX6_weighs (l : Launch) (D : va_G) (T : Nat → ClassId) (F : Nat) (am : Nat → Nat) (mguests : Int32) (mclause : Int32) (mdeeds : Int32) (masked : Int32) (mupper : Int64) (mlower : Int64) (mfinding : Int32) (mreadGuests : Int32) (misSight : Int32) (mat : Int32) (mrowSizes : Nat → Int32) (mrows : Nat → Int32) (mtextSizes : Nat → Int32) (mtexts : Nat → Int32) (mdoes : Nat → Int32) (mkinds : Nat → Int32) (msees : Nat → Int32) (mnow : Nat → Int32) (mbefore : Nat → Int32) (mkeeps : Nat → Int32) (mkept : Nat → Int32) (mfindings : Nat → Int32) (mread : Nat → Int32) (maside : Nat → Int32) (msteps : Nat → Int32) (mtried : Nat → Int32) (mbest : Nat → Int32) (x1 : Int32) (x2 : Int32) (zmbest : Nat → Int32) (h : fX6_weighs F mbest x1 x2 = some (zmbest)) : ∀ sz : Nat, Met l yX6_weighs wsX6_weighs ({ frames := 0, cells := 0, slots := 0, locals := 0 } : Room) (va_Pc [.ref (am 0), .int x1, .int x2] (fun U => U.heap.size = sz ∧ va_P D vwCl (wMo T am mguests mclause mdeeds masked mupper mlower mfinding mreadGuests misSight mat mrowSizes mrows mtextSizes mtexts mdoes mkinds msees mnow mbefore mkeeps mkept mfindings mread maside msteps mtried mbest) U.heap ∧ KK D T U ∧ va_D (fun _ => True) (wMo T am mguests mclause mdeeds masked mupper mlower mfinding mreadGuests misSight mat mrowSizes mrows mtextSizes mtexts mdoes mkinds msees mnow mbefore mkeeps mkept mfindings mread maside msteps mtried mbest))) (va_Qv (fun _ : Unit => True) (fun _ t => va_P D vwCl (wMo T am mguests mclause mdeeds masked mupper mlower mfinding mreadGuests misSight mat mrowSizes mrows mtextSizes mtexts mdoes mkinds msees mnow mbefore mkeeps mkept mfindings mread maside msteps mtried zmbest) t.heap ∧ va_D (va_A (wMo T am mguests mclause mdeeds masked mupper mlower mfinding mreadGuests misSight mat mrowSizes mrows mtextSizes mtexts mdoes mkinds msees mnow mbefore mkeeps mkept mfindings mread maside msteps mtried mbest) sz) (wMo T am mguests mclause mdeeds masked mupper mlower mfinding mreadGuests misSight mat mrowSizes mrows mtextSizes mtexts mdoes mkinds msees mnow mbefore mkeeps mkept mfindings mread maside msteps mtried zmbest)) (va_A (wMo T am mguests mclause mdeeds masked mupper mlower mfinding mreadGuests misSight mat mrowSizes mrows mtextSizes mtexts mdoes mkinds msees mnow mbefore mkeeps mkept mfindings mread maside msteps mtried mbest) sz)) 0 0 (va_A (wMo T am mguests mclause mdeeds masked mupper mlower mfinding mreadGuests misSight mat mrowSizes mrows mtextSizes mtexts mdoes mkinds msees mnow mbefore mkeeps mkept mfindings mread maside msteps mtried mbest) sz) := by
  intro sz
  refine Met.ofW (cc := cX6_weighs) (maxL := 4) (ret := none) (by decide) rfl ?_
  intro p e s m args below meth c s₁ B hml hv
  obtain ⟨ha, hsz, hP, hKK, hD0⟩ := hv
  have hx := B.exec
  have hb := B.bytes
  have hr := B.returns
  have hts := atoms_spec (ws := wsX6_weighs) B.pre
  have hown : s.vm.findClass RX6 = some m.cls := findClass_of_methodNamed B.named
  have hlocks := B.notSynchronized
  have hK := hKK.1
  have hFix : CallFix p m c cX6_weighs 4 s args wsX6_weighs RX6 := ⟨hx, hb, hml, hown, hts⟩
  have q1 := hts _ (List.mem_of_getElem? (i := 1) (show wsX6_weighs[1]? = some (Cond.fieldLink RX6 63 "PartyWillModel" "best" "[I") from rfl))
  have iX6 : ∀ w ∈ u_ws RX6 TX6 27, w ∈ wsX6_weighs := fun w h => List.mem_cons_of_mem _ (List.mem_append_right _ (h))
  subst hsz
  have hD := hD0.self (sz := s.heap.size)
  generalize hAe : va_A (wMo T am mguests mclause mdeeds masked mupper mlower mfinding mreadGuests misSight mat mrowSizes mrows mtextSizes mtexts mdoes mkinds msees mnow mbefore mkeeps mkept mfindings mread maside msteps mtried mbest) s.heap.size = A at hD ⊢
  have hA : ∀ q : Nat, s.heap.size ≤ q → A q := fun q h => by rw [← hAe]; exact Or.inr h
  have hS : va_S A s.heap s.heap [] := va_S.rf
  have hP : va_P D vwCl (wMo T am mguests mclause mdeeds masked mupper mlower mfinding mreadGuests misSight mat mrowSizes mrows mtextSizes mtexts mdoes mkinds msees mnow mbefore mkeeps mkept mfindings mread maside msteps mtried mbest) s.heap := hP
  obtain ⟨ls, hl, e0⟩ := my_entry (m := m) (n := 4) ha (Nat.le_of_ble_eq_true rfl)
  rw [e0]
  have hl : lv_has ls 4 [(0, .ref (am 0)), (1, .int x1), (2, .int x2)] := hl
  have key : ∀ Q : State → Prop, (∀ (H : Heap) (locs : List Loc) (pc : Nat) (ls : Array Slot), va_P D vwCl (wMo T am mguests mclause mdeeds masked mupper mlower mfinding mreadGuests misSight mat mrowSizes mrows mtextSizes mtexts mdoes mkinds msees mnow mbefore mkeeps mkept mfindings mread maside msteps mtried zmbest) H → va_D A (wMo T am mguests mclause mdeeds masked mupper mlower mfinding mreadGuests misSight mat mrowSizes mrows mtextSizes mtexts mdoes mkinds msees mnow mbefore mkeeps mkept mfindings mread maside msteps mtried zmbest) → va_S A s.heap H locs → decode cX6_weighs pc = .ok (.return_, 1) → W p l e ({ frames := 0, cells := 0, slots := 0, locals := 0 } : Room) s m args below meth c H locs 0 0 Q (F0 m pc ls [])) → W p l e ({ frames := 0, cells := 0, slots := 0, locals := 0 } : Room) s m args below meth c s.heap [] 0 0 Q (F0 m 0 ls []) := by
    intro Q hret
    skip
    have n39 : ∀ s_0 : Int32, ∀ x1 : Int32, ∀ x2 : Int32, ∀ mbest : Nat → Int32, fX6_weighs_n39 F s_0 x1 x2 mbest = some (zmbest) → ∀ (H : Heap) (locs : List Loc), va_P D vwCl (wMo T am mguests mclause mdeeds masked mupper mlower mfinding mreadGuests misSight mat mrowSizes mrows mtextSizes mtexts mdoes mkinds msees mnow mbefore mkeeps mkept mfindings mread maside msteps mtried mbest) H → va_D A (wMo T am mguests mclause mdeeds masked mupper mlower mfinding mreadGuests misSight mat mrowSizes mrows mtextSizes mtexts mdoes mkinds msees mnow mbefore mkeeps mkept mfindings mread maside msteps mtried mbest) → va_S A s.heap H locs → ∀ (ls : Array Slot), lv_has ls 4 [(0, .ref (am 0)), (1, .int x1), (2, .int x2)] → W p l e ({ frames := 0, cells := 0, slots := 0, locals := 0 } : Room) s m args below meth c H locs 0 0 Q (F0 m 39 ls [.int s_0]) := by
      intro s_0 x1 x2 mbest h H locs hP hD hS ls hl
      unfold fX6_weighs_n39 at h
      refine lv_istore_n (lv' := [(3, .int s_0), (0, .ref (am 0)), (1, .int x1), (2, .int x2)]) hx hb dX6_weighs_39 rfl hl (by decide) rfl (fun ls hl => ?_)
      refine lv_aload_n hx hb dX6_weighs_40 rfl (lv_at hl 1 rfl) ?_
      refine va_get (D := D) (ci := 4) (C := RX6) (T := TX6) (N := 27) hx hb hts iX6 hown hK hP 0 wMo_0 rfl 26 (by decide) q1 (fun _ h9 => h9) rfl dX6_weighs_41 ?_
      refine lv_iload_n hx hb dX6_weighs_44 rfl (lv_at hl 2 rfl) ?_
      refine lv_iload_n hx hb dX6_weighs_45 rfl (lv_at hl 0 rfl) ?_
      refine lv_if_eq (tgt := 53) hx hb dX6_weighs_46 (by decide) (fun c46 => ?_) (fun c46 => ?_)
      · have h := br_1 h c46
        refine lv_aload_n hx hb dX6_weighs_53 rfl (lv_at hl 1 rfl) ?_
        refine va_get (D := D) (ci := 4) (C := RX6) (T := TX6) (N := 27) hx hb hts iX6 hown hK hP 0 wMo_0 rfl 26 (by decide) q1 (fun _ h9 => h9) rfl dX6_weighs_54 ?_
        refine lv_iload_n hx hb dX6_weighs_57 rfl (lv_at hl 2 rfl) ?_
        obtain ⟨hin1, h⟩ := ck_some h
        refine va_iald hx hb hK hP 17 0 wMo_17 rfl hin1 dX6_weighs_58 ?_
        obtain ⟨hin2, h⟩ := ck_some h
        refine va_iast hx hb hK hP hD hS 17 0 wMo_17 rfl hin2 dX6_weighs_59 (fun H locs hP hD hS => ?_)
        have hP : va_P D vwCl (wMo T am mguests mclause mdeeds masked mupper mlower mfinding mreadGuests misSight mat mrowSizes mrows mtextSizes mtexts mdoes mkinds msees mnow mbefore mkeeps mkept mfindings mread maside msteps mtried (upd mbest x1.toNatClampNeg (mbest x1.toNatClampNeg))) H := hP
        have hD : va_D A (wMo T am mguests mclause mdeeds masked mupper mlower mfinding mreadGuests misSight mat mrowSizes mrows mtextSizes mtexts mdoes mkinds msees mnow mbefore mkeeps mkept mfindings mread maside msteps mtried (upd mbest x1.toNatClampNeg (mbest x1.toNatClampNeg))) := hD
        cases h
        exact hret _ _ _ _ hP hD hS dX6_weighs_60
      · have h := br_0 h c46
        refine lv_iload_n hx hb dX6_weighs_49 rfl (lv_at hl 3 rfl) ?_
        refine lv_goto (tgt := 59) hx hb dX6_weighs_50 (by decide) ?_
        obtain ⟨hin3, h⟩ := ck_some h
        refine va_iast hx hb hK hP hD hS 17 0 wMo_17 rfl hin3 dX6_weighs_59 (fun H locs hP hD hS => ?_)
        have hP : va_P D vwCl (wMo T am mguests mclause mdeeds masked mupper mlower mfinding mreadGuests misSight mat mrowSizes mrows mtextSizes mtexts mdoes mkinds msees mnow mbefore mkeeps mkept mfindings mread maside msteps mtried (upd mbest x1.toNatClampNeg x2)) H := hP
        have hD : va_D A (wMo T am mguests mclause mdeeds masked mupper mlower mfinding mreadGuests misSight mat mrowSizes mrows mtextSizes mtexts mdoes mkinds msees mnow mbefore mkeeps mkept mfindings mread maside msteps mtried (upd mbest x1.toNatClampNeg x2)) := hD
        cases h
        exact hret _ _ _ _ hP hD hS dX6_weighs_60
    unfold fX6_weighs at h
    refine lv_iload_n hx hb dX6_weighs_0 rfl (lv_at hl 1 rfl) ?_
    refine lv_iconst (v := (2 : Int32)) hx hb dX6_weighs_1 (by decide) ?_
    refine lv_irem hx hb dX6_weighs_2 (by decide) ?_
    refine lv_if_ne (tgt := 24) hx hb dX6_weighs_3 (by decide) (fun c3 => ?_) (fun c3 => ?_)
    · have h := br_0 h c3
      refine lv_iload_n hx hb dX6_weighs_24 rfl (lv_at hl 2 rfl) ?_
      refine lv_aload_n hx hb dX6_weighs_25 rfl (lv_at hl 0 rfl) ?_
      refine va_get (D := D) (ci := 4) (C := RX6) (T := TX6) (N := 27) hx hb hts iX6 hown hK hP 0 wMo_0 rfl 26 (by decide) q1 (fun _ h9 => h9) rfl dX6_weighs_26 ?_
      refine lv_iload_n hx hb dX6_weighs_29 rfl (lv_at hl 1 rfl) ?_
      obtain ⟨hin4, h⟩ := ck_some h
      refine va_iald hx hb hK hP 17 0 wMo_17 rfl hin4 dX6_weighs_30 ?_
      refine lv_icmp_le (tgt := 38) hx hb dX6_weighs_31 (by decide) (fun c31 => ?_) (fun c31 => ?_)
      · have h := br_1 h c31
        refine lv_iconst (v := (0 : Int32)) hx hb dX6_weighs_38 (by decide) ?_
        exact n39 (0 : Int32) x1 x2 mbest h _ _ hP hD hS _ (lv_sub hl [0, 1, 2] rfl)
      · have h := br_0 h c31
        refine lv_iconst (v := (1 : Int32)) hx hb dX6_weighs_34 (by decide) ?_
        refine lv_goto (tgt := 39) hx hb dX6_weighs_35 (by decide) ?_
        exact n39 (1 : Int32) x1 x2 mbest h _ _ hP hD hS _ (lv_sub hl [0, 1, 2] rfl)
    · have h := br_1 h c3
      refine lv_iload_n hx hb dX6_weighs_6 rfl (lv_at hl 2 rfl) ?_
      refine lv_aload_n hx hb dX6_weighs_7 rfl (lv_at hl 0 rfl) ?_
      refine va_get (D := D) (ci := 4) (C := RX6) (T := TX6) (N := 27) hx hb hts iX6 hown hK hP 0 wMo_0 rfl 26 (by decide) q1 (fun _ h9 => h9) rfl dX6_weighs_8 ?_
      refine lv_iload_n hx hb dX6_weighs_11 rfl (lv_at hl 1 rfl) ?_
      obtain ⟨hin5, h⟩ := ck_some h
      refine va_iald hx hb hK hP 17 0 wMo_17 rfl hin5 dX6_weighs_12 ?_
      refine lv_icmp_ge (tgt := 20) hx hb dX6_weighs_13 (by decide) (fun c13 => ?_) (fun c13 => ?_)
      · have h := br_1 h c13
        refine lv_iconst (v := (0 : Int32)) hx hb dX6_weighs_20 (by decide) ?_
        refine lv_goto (tgt := 39) hx hb dX6_weighs_21 (by decide) ?_
        exact n39 (0 : Int32) x1 x2 mbest h _ _ hP hD hS _ (lv_sub hl [0, 1, 2] rfl)
      · have h := br_0 h c13
        refine lv_iconst (v := (1 : Int32)) hx hb dX6_weighs_16 (by decide) ?_
        refine lv_goto (tgt := 39) hx hb dX6_weighs_17 (by decide) ?_
        exact n39 (1 : Int32) x1 x2 mbest h _ _ hP hD hS _ (lv_sub hl [0, 1, 2] rfl)
  exact key _ (fun H locs pc ls hP hD hS hd => W.vret hx hb hr (fun t ht hW => ⟨⟨(), rfl, trivial, by show _ ∧ _; rw [ht]; exact ⟨hP, hD⟩⟩, hS.F ht⟩) hS.2.2 hd)
set_option maxHeartbeats 4000000 in
set_option maxRecDepth 100000 in
theorem kX6_aunt (l : Launch) (D : va_G) (T : Nat → ClassId) (F : Nat) (am : Nat → Nat) (mguests : Int32) (mclause : Int32) (mdeeds : Int32) (masked : Int32) (mupper : Int64) (mlower : Int64) (mfinding : Int32) (mreadGuests : Int32) (misSight : Int32) (mat : Int32) (mrowSizes : Nat → Int32) (mrows : Nat → Int32) (mtextSizes : Nat → Int32) (mtexts : Nat → Int32) (mdoes : Nat → Int32) (mkinds : Nat → Int32) (msees : Nat → Int32) (mnow : Nat → Int32) (mbefore : Nat → Int32) (mkeeps : Nat → Int32) (mkept : Nat → Int32) (mfindings : Nat → Int32) (mread : Nat → Int32) (maside : Nat → Int32) (msteps : Nat → Int32) (mtried : Nat → Int32) (mbest : Nat → Int32) (x1 : Int32) (r : Int32) (zmaside : Nat → Int32) (zmsteps : Nat → Int32) (zmtried : Nat → Int32) (zmbest : Nat → Int32) (h : fX6_aunt F mguests mclause mdoes mkinds msees mnow maside msteps mtried mbest x1 = some (r, zmaside, zmsteps, zmtried, zmbest)) : ∀ sz : Nat, Met l yX6_aunt wsX6_aunt ({ frames := 5, cells := 0, slots := 0, locals := 117 } : Room) (va_Pc [.ref (am 0), .int x1] (fun U => U.heap.size = sz ∧ va_P D vwCl (wMo T am mguests mclause mdeeds masked mupper mlower mfinding mreadGuests misSight mat mrowSizes mrows mtextSizes mtexts mdoes mkinds msees mnow mbefore mkeeps mkept mfindings mread maside msteps mtried mbest) U.heap ∧ KK D T U ∧ va_D (fun _ => True) (wMo T am mguests mclause mdeeds masked mupper mlower mfinding mreadGuests misSight mat mrowSizes mrows mtextSizes mtexts mdoes mkinds msees mnow mbefore mkeeps mkept mfindings mread maside msteps mtried mbest))) (va_Qi (fun r' (_ : Unit) => r' = r) (fun _ t => va_P D vwCl (wMo T am mguests mclause mdeeds masked mupper mlower mfinding mreadGuests misSight mat mrowSizes mrows mtextSizes mtexts mdoes mkinds msees mnow mbefore mkeeps mkept mfindings mread zmaside zmsteps zmtried zmbest) t.heap ∧ va_D (va_A (wMo T am mguests mclause mdeeds masked mupper mlower mfinding mreadGuests misSight mat mrowSizes mrows mtextSizes mtexts mdoes mkinds msees mnow mbefore mkeeps mkept mfindings mread maside msteps mtried mbest) sz) (wMo T am mguests mclause mdeeds masked mupper mlower mfinding mreadGuests misSight mat mrowSizes mrows mtextSizes mtexts mdoes mkinds msees mnow mbefore mkeeps mkept mfindings mread zmaside zmsteps zmtried zmbest)) (va_A (wMo T am mguests mclause mdeeds masked mupper mlower mfinding mreadGuests misSight mat mrowSizes mrows mtextSizes mtexts mdoes mkinds msees mnow mbefore mkeeps mkept mfindings mread maside msteps mtried mbest) sz)) 0 0 (va_A (wMo T am mguests mclause mdeeds masked mupper mlower mfinding mreadGuests misSight mat mrowSizes mrows mtextSizes mtexts mdoes mkinds msees mnow mbefore mkeeps mkept mfindings mread maside msteps mtried mbest) sz) := by
  intro sz
  refine Met.ofW (cc := cX6_aunt) (maxL := 3) (ret := some .int) (by decide) rfl ?_
  intro p e s m args below meth c s₁ B hml hv
  obtain ⟨ha, hsz, hP, hKK, hD0⟩ := hv
  have hx := B.exec
  have hb := B.bytes
  have hr := B.returns
  have hts := atoms_spec (ws := wsX6_aunt) B.pre
  have hown : s.vm.findClass RX6 = some m.cls := findClass_of_methodNamed B.named
  have hlocks := B.notSynchronized
  have hK := hKK.1
  have hFix : CallFix p m c cX6_aunt 3 s args wsX6_aunt RX6 := ⟨hx, hb, hml, hown, hts⟩
  have q1 := hts _ (List.mem_of_getElem? (i := 1) (show wsX6_aunt[1]? = some (Cond.constantLong RX6 79 (3)) from rfl))
  have q2 := hts _ (List.mem_of_getElem? (i := 2) (show wsX6_aunt[2]? = some (Cond.fieldLink RX6 131 "PartyWillModel" "guests" "I") from rfl))
  have q3 := hts _ (List.mem_of_getElem? (i := 3) (show wsX6_aunt[3]? = some (Cond.fieldLink RX6 31 "PartyWillModel" "now" "[I") from rfl))
  have q4 := hts _ (List.mem_of_getElem? (i := 4) (show wsX6_aunt[4]? = some (Cond.fieldLink RX6 57 "PartyWillModel" "steps" "[I") from rfl))
  have q5 := hts _ (List.mem_of_getElem? (i := 5) (show wsX6_aunt[5]? = some (Cond.fieldLink RX6 60 "PartyWillModel" "tried" "[I") from rfl))
  have q6 := hts _ (List.mem_of_getElem? (i := 6) (show wsX6_aunt[6]? = some (Cond.fieldLink RX6 63 "PartyWillModel" "best" "[I") from rfl))
  have q7 := hts _ (List.mem_of_getElem? (i := 7) (show wsX6_aunt[7]? = some (Cond.fieldLink RX6 54 "PartyWillModel" "aside" "[I") from rfl))
  have iX6 : ∀ w ∈ u_ws RX6 TX6 27, w ∈ wsX6_aunt := fun w h => List.mem_cons_of_mem _ (List.mem_append_right _ (h))
  subst hsz
  have hD := hD0.self (sz := s.heap.size)
  generalize hAe : va_A (wMo T am mguests mclause mdeeds masked mupper mlower mfinding mreadGuests misSight mat mrowSizes mrows mtextSizes mtexts mdoes mkinds msees mnow mbefore mkeeps mkept mfindings mread maside msteps mtried mbest) s.heap.size = A at hD ⊢
  have hA : ∀ q : Nat, s.heap.size ≤ q → A q := fun q h => by rw [← hAe]; exact Or.inr h
  have hS : va_S A s.heap s.heap [] := va_S.rf
  have hP : va_P D vwCl (wMo T am mguests mclause mdeeds masked mupper mlower mfinding mreadGuests misSight mat mrowSizes mrows mtextSizes mtexts mdoes mkinds msees mnow mbefore mkeeps mkept mfindings mread maside msteps mtried mbest) s.heap := hP
  obtain ⟨ls, hl, e0⟩ := my_entry (m := m) (n := 3) ha (Nat.le_of_ble_eq_true rfl)
  rw [e0]
  have hl : lv_has ls 3 [(0, .ref (am 0)), (1, .int x1)] := hl
  have key : ∀ Q : State → Prop, (∀ (H : Heap) (locs : List Loc) (pc : Nat) (ls : Array Slot), va_P D vwCl (wMo T am mguests mclause mdeeds masked mupper mlower mfinding mreadGuests misSight mat mrowSizes mrows mtextSizes mtexts mdoes mkinds msees mnow mbefore mkeeps mkept mfindings mread zmaside zmsteps zmtried zmbest) H → va_D A (wMo T am mguests mclause mdeeds masked mupper mlower mfinding mreadGuests misSight mat mrowSizes mrows mtextSizes mtexts mdoes mkinds msees mnow mbefore mkeeps mkept mfindings mread zmaside zmsteps zmtried zmbest) → va_S A s.heap H locs → decode cX6_aunt pc = .ok (.ireturn, 1) → W p l e ({ frames := 5, cells := 0, slots := 0, locals := 117 } : Room) s m args below meth c H locs 0 0 Q (F0 m pc ls [.int r])) → W p l e ({ frames := 5, cells := 0, slots := 0, locals := 117 } : Room) s m args below meth c s.heap [] 0 0 Q (F0 m 0 ls []) := by
    intro Q hret
    skip
    have l52 : ∀ x1 : Int32, ∀ nu : Nat, ∀ x2 : Int32, ∀ maside : Nat → Int32, ∀ msteps : Nat → Int32, ∀ mtried : Nat → Int32, ∀ mbest : Nat → Int32, fX6_aunt_l52 F mguests mclause mdoes mkinds msees mnow x1 nu x2 maside msteps mtried mbest = some (r, zmaside, zmsteps, zmtried, zmbest) → ∀ (H : Heap) (locs : List Loc), va_P D vwCl (wMo T am mguests mclause mdeeds masked mupper mlower mfinding mreadGuests misSight mat mrowSizes mrows mtextSizes mtexts mdoes mkinds msees mnow mbefore mkeeps mkept mfindings mread maside msteps mtried mbest) H → va_D A (wMo T am mguests mclause mdeeds masked mupper mlower mfinding mreadGuests misSight mat mrowSizes mrows mtextSizes mtexts mdoes mkinds msees mnow mbefore mkeeps mkept mfindings mread maside msteps mtried mbest) → va_S A s.heap H locs → ∀ (ls : Array Slot), lv_has ls 3 [(0, .ref (am 0)), (1, .int x1), (2, .int x2)] → W p l e ({ frames := 5, cells := 0, slots := 0, locals := 117 } : Room) s m args below meth c H locs 0 0 Q (F0 m 52 ls []) := by
      intro x1
      intro nu
      induction nu with
      | zero => intro x2 maside msteps mtried mbest h; exact none_some h
      | succ nu52 ih52 =>
        intro x2 maside msteps mtried mbest h H locs hP hD hS ls hl
        have n84 : ∀ s_0 : Int32, ∀ s_1 : Int32, ∀ x1 : Int32, ∀ x2 : Int32, ∀ maside : Nat → Int32, ∀ msteps : Nat → Int32, ∀ mtried : Nat → Int32, ∀ mbest : Nat → Int32, fX6_aunt_n84 F (fX6_aunt_l52 F mguests mclause mdoes mkinds msees mnow x1 nu52) mguests mclause mdoes mkinds msees mnow s_0 s_1 x1 x2 maside msteps mtried mbest = some (r, zmaside, zmsteps, zmtried, zmbest) → ∀ (H : Heap) (locs : List Loc), va_P D vwCl (wMo T am mguests mclause mdeeds masked mupper mlower mfinding mreadGuests misSight mat mrowSizes mrows mtextSizes mtexts mdoes mkinds msees mnow mbefore mkeeps mkept mfindings mread maside msteps mtried mbest) H → va_D A (wMo T am mguests mclause mdeeds masked mupper mlower mfinding mreadGuests misSight mat mrowSizes mrows mtextSizes mtexts mdoes mkinds msees mnow mbefore mkeeps mkept mfindings mread maside msteps mtried mbest) → va_S A s.heap H locs → ∀ (ls : Array Slot), lv_has ls 3 [(0, .ref (am 0)), (1, .int x1), (2, .int x2)] → W p l e ({ frames := 5, cells := 0, slots := 0, locals := 117 } : Room) s m args below meth c H locs 0 0 Q (F0 m 84 ls [.int s_1, .int s_0]) := by
          intro s_0 s_1 x1 x2 maside msteps mtried mbest h H locs hP hD hS ls hl
          unfold fX6_aunt_n84 at h
          refine lv_icmp_ne (tgt := 110) hx hb dX6_aunt_84 (by decide) (fun c84 => ?_) (fun c84 => ?_)
          · have h := br_0 h c84
            refine lv_aload_n hx hb dX6_aunt_110 rfl (lv_at hl 0 rfl) ?_
            refine lv_iload_n hx hb dX6_aunt_111 rfl (lv_at hl 2 rfl) ?_
            obtain ⟨r112, w112_maside, w112_msteps, hc, h⟩ := bd3_some h
            have hFc := my_freeS hD hS hA
            refine my_rwz (va_runV (As := [.int x2]) (rest := []) hFix (kX6_tries l D T F am mguests mclause mdeeds masked mupper mlower mfinding mreadGuests misSight mat mrowSizes mrows mtextSizes mtexts mdoes mkinds msees mnow mbefore mkeeps mkept mfindings mread maside msteps mtried mbest x2 r112 w112_maside w112_msteps hc) (cwV 1 hts gX6_aunt_X6_tries rfl rfl rfl ⟨rfl, hd_X6_tries⟩ ⟨Nat.le_of_ble_eq_true rfl, Nat.le_of_ble_eq_true rfl⟩) (preV_rw hP hKK hD (va_recv hK hP (ci := 4) (q0 := 0) rfl wMo_0)) rfl rfl hl.1 rfl (lv_room (Nat.le_of_ble_eq_true rfl)) dX6_aunt_112 ⟨Nat.zero_le _, Nat.zero_le _⟩) hS hFc (fun hb112 H1 locs hP1 hD1 hz1 hk1 hS => ?_)
            have hP : va_P D vwCl (wMo T am mguests mclause mdeeds masked mupper mlower mfinding mreadGuests misSight mat mrowSizes mrows mtextSizes mtexts mdoes mkinds msees mnow mbefore mkeeps mkept mfindings mread w112_maside w112_msteps mtried mbest) H1 := hP1
            have hD : va_D A (wMo T am mguests mclause mdeeds masked mupper mlower mfinding mreadGuests misSight mat mrowSizes mrows mtextSizes mtexts mdoes mkinds msees mnow mbefore mkeeps mkept mfindings mread w112_maside w112_msteps mtried mbest) := hD1.weaken (fun _ q _ h => hFc q.1 h)
            generalize H1 = H at hP hS ⊢
            refine lv_if_eq (tgt := 52) hx hb dX6_aunt_115 (by decide) (fun c115 => ?_) (fun c115 => ?_)
            · have h := br_1 h c115
              exact ih52 x2 w112_maside w112_msteps mtried mbest h _ _ hP hD hS _ (lv_sub hl [0, 1, 2] rfl)
            · have h := br_0 h c115
              refine lv_iload_n hx hb dX6_aunt_118 rfl (lv_at hl 2 rfl) ?_
              refine lv_iconst (v := (2 : Int32)) hx hb dX6_aunt_119 (by decide) ?_
              refine lv_iload_n hx hb dX6_aunt_120 rfl (lv_at hl 1 rfl) ?_
              refine lv_imul hx hb dX6_aunt_121 ?_
              refine lv_iconst (v := (1 : Int32)) hx hb dX6_aunt_122 (by decide) ?_
              refine lv_isub hx hb dX6_aunt_123 ?_
              refine lv_icmp_ne (tgt := 155) hx hb dX6_aunt_124 (by decide) (fun c124 => ?_) (fun c124 => ?_)
              · have h := br_0 h c124
                refine lv_iinc (v := (x2 + (1 : Int32))) (lv' := [(2, .int (x2 + (1 : Int32))), (0, .ref (am 0)), (1, .int x1)]) hx hb dX6_aunt_155 hl (k := 2) rfl rfl (by decide) rfl (fun ls hl => ?_)
                refine lv_aload_n hx hb dX6_aunt_158 rfl (lv_at hl 1 rfl) ?_
                refine lv_iload_n hx hb dX6_aunt_159 rfl (lv_at hl 0 rfl) ?_
                obtain ⟨w160_mtried, w160_mbest, hc, h⟩ := bd2_some h
                have hFc := my_freeS hD hS hA
                refine my_rwv (va_runV (As := [.int (x2 + (1 : Int32))]) (rest := []) hFix (kX6_begins l D T F am mguests mclause mdeeds masked mupper mlower mfinding mreadGuests misSight mat mrowSizes mrows mtextSizes mtexts mdoes mkinds msees mnow mbefore mkeeps mkept mfindings mread w112_maside w112_msteps mtried mbest (x2 + (1 : Int32)) w160_mtried w160_mbest hc) (cwV 1 hts gX6_aunt_X6_begins rfl rfl rfl ⟨rfl, hd_X6_begins⟩ ⟨Nat.le_of_ble_eq_true rfl, Nat.le_of_ble_eq_true rfl⟩) (preV_rw hP hKK hD (va_recv hK hP (ci := 4) (q0 := 0) rfl wMo_0)) rfl rfl hl.1 rfl (lv_room (Nat.le_of_ble_eq_true rfl)) dX6_aunt_160 ⟨Nat.zero_le _, Nat.zero_le _⟩) hS hFc (fun H1 locs hP1 hD1 hz1 hk1 hS => ?_)
                have hP : va_P D vwCl (wMo T am mguests mclause mdeeds masked mupper mlower mfinding mreadGuests misSight mat mrowSizes mrows mtextSizes mtexts mdoes mkinds msees mnow mbefore mkeeps mkept mfindings mread w112_maside w112_msteps w160_mtried w160_mbest) H1 := hP1
                have hD : va_D A (wMo T am mguests mclause mdeeds masked mupper mlower mfinding mreadGuests misSight mat mrowSizes mrows mtextSizes mtexts mdoes mkinds msees mnow mbefore mkeeps mkept mfindings mread w112_maside w112_msteps w160_mtried w160_mbest) := hD1.weaken (fun _ q _ h => hFc q.1 h)
                generalize H1 = H at hP hS ⊢
                refine lv_goto (tgt := 52) hx hb dX6_aunt_163 (by decide) ?_
                exact ih52 (x2 + (1 : Int32)) w112_maside w112_msteps w160_mtried w160_mbest h _ _ hP hD hS _ (lv_sub hl [1, 2, 0] rfl)
              · have h := br_1 h c124
                refine lv_aload_n hx hb dX6_aunt_127 rfl (lv_at hl 0 rfl) ?_
                refine lv_iload_n hx hb dX6_aunt_128 rfl (lv_at hl 2 rfl) ?_
                refine lv_aload_n hx hb dX6_aunt_129 rfl (lv_at hl 0 rfl) ?_
                refine va_get (D := D) (ci := 4) (C := RX6) (T := TX6) (N := 27) hx hb hts iX6 hown hK hP 0 wMo_0 rfl 23 (by decide) q7 (fun _ h9 => h9) rfl dX6_aunt_130 ?_
                refine lv_bipush (v := (6 : Int32)) hx hb dX6_aunt_133 (by decide) ?_
                refine va_iald hx hb hK hP 14 0 wMo_14 rfl (show ¬ ((6 : Int32) < 0 ∨ 7 ≤ (6 : Int32).toNatClampNeg) by decide) dX6_aunt_135 ?_
                refine lv_aload_n hx hb dX6_aunt_136 rfl (lv_at hl 0 rfl) ?_
                refine va_get (D := D) (ci := 4) (C := RX6) (T := TX6) (N := 27) hx hb hts iX6 hown hK hP 0 wMo_0 rfl 9 (by decide) q3 (fun _ h9 => h9) rfl dX6_aunt_137 ?_
                refine lv_bipush (v := (6 : Int32)) hx hb dX6_aunt_140 (by decide) ?_
                refine va_iald hx hb hK hP 8 0 wMo_8 rfl (show ¬ ((6 : Int32) < 0 ∨ 7 ≤ (6 : Int32).toNatClampNeg) by decide) dX6_aunt_142 ?_
                refine lv_iconst (v := (-1 : Int32)) hx hb dX6_aunt_143 (by decide) ?_
                refine lv_ixor hx hb dX6_aunt_144 ?_
                refine lv_iand hx hb dX6_aunt_145 ?_
                obtain ⟨r146, hc, h⟩ := bd1_some h
                refine my_roi (va_Run.run (va_runS (As := [.int ((w112_maside (6 : Int32).toNatClampNeg) &&& ((mnow (6 : Int32).toNatClampNeg) ^^^ (-1 : Int32)))]) (rest := [.int x2, .ref (am 0)]) hFix (kX6_bits l D T F ((w112_maside (6 : Int32).toNatClampNeg) &&& ((mnow (6 : Int32).toNatClampNeg) ^^^ (-1 : Int32))) r146 hc) (va_cwS 1 hts gX6_aunt_X6_bits rfl rfl rfl hd_X6_bits ⟨Nat.le_of_ble_eq_true rfl, Nat.le_of_ble_eq_true rfl⟩) (preS_ro va_nil hKK) rfl rfl hl.1 rfl (lv_room (Nat.le_of_ble_eq_true rfl)) dX6_aunt_146 ⟨Nat.zero_le _, Nat.zero_le _⟩)) ?_
                obtain ⟨w149_mbest, hc, h⟩ := bd1_some h
                have hFc := my_freeS hD hS hA
                refine my_rwv (va_runV (As := [.int x2, .int r146]) (rest := []) hFix (kX6_weighs l D T F am mguests mclause mdeeds masked mupper mlower mfinding mreadGuests misSight mat mrowSizes mrows mtextSizes mtexts mdoes mkinds msees mnow mbefore mkeeps mkept mfindings mread w112_maside w112_msteps mtried mbest x2 r146 w149_mbest hc) (cwV 2 hts gX6_aunt_X6_weighs rfl rfl rfl ⟨rfl, hd_X6_weighs⟩ ⟨Nat.le_of_ble_eq_true rfl, Nat.le_of_ble_eq_true rfl⟩) (preV_rw hP hKK hD (va_recv hK hP (ci := 4) (q0 := 0) rfl wMo_0)) rfl rfl hl.1 rfl (lv_room (Nat.le_of_ble_eq_true rfl)) dX6_aunt_149 ⟨Nat.zero_le _, Nat.zero_le _⟩) hS hFc (fun H1 locs hP1 hD1 hz1 hk1 hS => ?_)
                have hP : va_P D vwCl (wMo T am mguests mclause mdeeds masked mupper mlower mfinding mreadGuests misSight mat mrowSizes mrows mtextSizes mtexts mdoes mkinds msees mnow mbefore mkeeps mkept mfindings mread w112_maside w112_msteps mtried w149_mbest) H1 := hP1
                have hD : va_D A (wMo T am mguests mclause mdeeds masked mupper mlower mfinding mreadGuests misSight mat mrowSizes mrows mtextSizes mtexts mdoes mkinds msees mnow mbefore mkeeps mkept mfindings mread w112_maside w112_msteps mtried w149_mbest) := hD1.weaken (fun _ q _ h => hFc q.1 h)
                generalize H1 = H at hP hS ⊢
                refine lv_goto (tgt := 52) hx hb dX6_aunt_152 (by decide) ?_
                exact ih52 x2 w112_maside w112_msteps mtried w149_mbest h _ _ hP hD hS _ (lv_sub hl [0, 1, 2] rfl)
          · have h := br_1 h c84
            refine lv_iinc (v := (x2 + (-1 : Int32))) (lv' := [(2, .int (x2 + (-1 : Int32))), (0, .ref (am 0)), (1, .int x1)]) hx hb dX6_aunt_87 hl (k := 2) rfl rfl (by decide) rfl (fun ls hl => ?_)
            refine lv_iload_n hx hb dX6_aunt_90 rfl (lv_at hl 0 rfl) ?_
            refine lv_if_lt (tgt := 52) hx hb dX6_aunt_91 (by decide) (fun c91 => ?_) (fun c91 => ?_)
            · have h := br_1 h c91
              exact ih52 (x2 + (-1 : Int32)) maside msteps mtried mbest h _ _ hP hD hS _ (lv_sub hl [1, 2, 0] rfl)
            · have h := br_0 h c91
              refine lv_aload_n hx hb dX6_aunt_94 rfl (lv_at hl 1 rfl) ?_
              refine lv_iload_n hx hb dX6_aunt_95 rfl (lv_at hl 0 rfl) ?_
              refine lv_aload_n hx hb dX6_aunt_96 rfl (lv_at hl 1 rfl) ?_
              refine va_get (D := D) (ci := 4) (C := RX6) (T := TX6) (N := 27) hx hb hts iX6 hown hK hP 0 wMo_0 rfl 26 (by decide) q6 (fun _ h9 => h9) rfl dX6_aunt_97 ?_
              refine lv_iload_n hx hb dX6_aunt_100 rfl (lv_at hl 0 rfl) ?_
              refine lv_iconst (v := (1 : Int32)) hx hb dX6_aunt_101 (by decide) ?_
              refine lv_iadd hx hb dX6_aunt_102 ?_
              obtain ⟨hin1, h⟩ := ck_some h
              refine va_iald hx hb hK hP 17 0 wMo_17 rfl hin1 dX6_aunt_103 ?_
              obtain ⟨w104_mbest, hc, h⟩ := bd1_some h
              have hFc := my_freeS hD hS hA
              refine my_rwv (va_runV (As := [.int (x2 + (-1 : Int32)), .int (mbest ((x2 + (-1 : Int32)) + (1 : Int32)).toNatClampNeg)]) (rest := []) hFix (kX6_weighs l D T F am mguests mclause mdeeds masked mupper mlower mfinding mreadGuests misSight mat mrowSizes mrows mtextSizes mtexts mdoes mkinds msees mnow mbefore mkeeps mkept mfindings mread maside msteps mtried mbest (x2 + (-1 : Int32)) (mbest ((x2 + (-1 : Int32)) + (1 : Int32)).toNatClampNeg) w104_mbest hc) (cwV 2 hts gX6_aunt_X6_weighs rfl rfl rfl ⟨rfl, hd_X6_weighs⟩ ⟨Nat.le_of_ble_eq_true rfl, Nat.le_of_ble_eq_true rfl⟩) (preV_rw hP hKK hD (va_recv hK hP (ci := 4) (q0 := 0) rfl wMo_0)) rfl rfl hl.1 rfl (lv_room (Nat.le_of_ble_eq_true rfl)) dX6_aunt_104 ⟨Nat.zero_le _, Nat.zero_le _⟩) hS hFc (fun H1 locs hP1 hD1 hz1 hk1 hS => ?_)
              have hP : va_P D vwCl (wMo T am mguests mclause mdeeds masked mupper mlower mfinding mreadGuests misSight mat mrowSizes mrows mtextSizes mtexts mdoes mkinds msees mnow mbefore mkeeps mkept mfindings mread maside msteps mtried w104_mbest) H1 := hP1
              have hD : va_D A (wMo T am mguests mclause mdeeds masked mupper mlower mfinding mreadGuests misSight mat mrowSizes mrows mtextSizes mtexts mdoes mkinds msees mnow mbefore mkeeps mkept mfindings mread maside msteps mtried w104_mbest) := hD1.weaken (fun _ q _ h => hFc q.1 h)
              generalize H1 = H at hP hS ⊢
              refine lv_goto (tgt := 52) hx hb dX6_aunt_107 (by decide) ?_
              exact ih52 (x2 + (-1 : Int32)) maside msteps mtried w104_mbest h _ _ hP hD hS _ (lv_sub hl [1, 2, 0] rfl)
        have h : fX6_aunt_l52_b F mguests mclause mdoes mkinds msees mnow x1 (fX6_aunt_l52 F mguests mclause mdoes mkinds msees mnow x1 nu52) x2 maside msteps mtried mbest = some (r, zmaside, zmsteps, zmtried, zmbest) := h
        unfold fX6_aunt_l52_b at h
        refine lv_iload_n hx hb dX6_aunt_52 rfl (lv_at hl 2 rfl) ?_
        refine lv_if_lt (tgt := 166) hx hb dX6_aunt_53 (by decide) (fun c53 => ?_) (fun c53 => ?_)
        · have h := br_1 h c53
          refine lv_aload_n hx hb dX6_aunt_166 rfl (lv_at hl 0 rfl) ?_
          refine va_get (D := D) (ci := 4) (C := RX6) (T := TX6) (N := 27) hx hb hts iX6 hown hK hP 0 wMo_0 rfl 26 (by decide) q6 (fun _ h9 => h9) rfl dX6_aunt_167 ?_
          refine lv_iconst (v := (0 : Int32)) hx hb dX6_aunt_170 (by decide) ?_
          refine va_iald hx hb hK hP 17 0 wMo_17 rfl (show ¬ ((0 : Int32) < 0 ∨ 7 ≤ (0 : Int32).toNatClampNeg) by decide) dX6_aunt_171 ?_
          cases h
          exact hret _ _ _ _ hP hD hS dX6_aunt_172
        · have h := br_0 h c53
          refine lv_aload_n hx hb dX6_aunt_56 rfl (lv_at hl 0 rfl) ?_
          refine va_get (D := D) (ci := 4) (C := RX6) (T := TX6) (N := 27) hx hb hts iX6 hown hK hP 0 wMo_0 rfl 25 (by decide) q5 (fun _ h9 => h9) rfl dX6_aunt_57 ?_
          refine lv_iload_n hx hb dX6_aunt_60 rfl (lv_at hl 2 rfl) ?_
          refine lv_dup2_11 hx hb dX6_aunt_61 rfl rfl ?_
          obtain ⟨hin2, h⟩ := ck_some h
          refine va_iald hx hb hK hP 16 0 wMo_16 rfl hin2 dX6_aunt_62 ?_
          refine lv_iconst (v := (1 : Int32)) hx hb dX6_aunt_63 (by decide) ?_
          refine lv_iadd hx hb dX6_aunt_64 ?_
          obtain ⟨hin3, h⟩ := ck_some h
          refine va_iast hx hb hK hP hD hS 16 0 wMo_16 rfl hin3 dX6_aunt_65 (fun H locs hP hD hS => ?_)
          have hP : va_P D vwCl (wMo T am mguests mclause mdeeds masked mupper mlower mfinding mreadGuests misSight mat mrowSizes mrows mtextSizes mtexts mdoes mkinds msees mnow mbefore mkeeps mkept mfindings mread maside msteps (upd mtried x2.toNatClampNeg ((mtried x2.toNatClampNeg) + (1 : Int32))) mbest) H := hP
          have hD : va_D A (wMo T am mguests mclause mdeeds masked mupper mlower mfinding mreadGuests misSight mat mrowSizes mrows mtextSizes mtexts mdoes mkinds msees mnow mbefore mkeeps mkept mfindings mread maside msteps (upd mtried x2.toNatClampNeg ((mtried x2.toNatClampNeg) + (1 : Int32))) mbest) := hD
          refine lv_aload_n hx hb dX6_aunt_66 rfl (lv_at hl 0 rfl) ?_
          refine va_get (D := D) (ci := 4) (C := RX6) (T := TX6) (N := 27) hx hb hts iX6 hown hK hP 0 wMo_0 rfl 25 (by decide) q5 (fun _ h9 => h9) rfl dX6_aunt_67 ?_
          refine lv_iload_n hx hb dX6_aunt_70 rfl (lv_at hl 2 rfl) ?_
          obtain ⟨hin4, h⟩ := ck_some h
          refine va_iald hx hb hK hP 16 0 wMo_16 rfl hin4 dX6_aunt_71 ?_
          refine lv_iload_n hx hb dX6_aunt_72 rfl (lv_at hl 2 rfl) ?_
          refine lv_iconst (v := (2 : Int32)) hx hb dX6_aunt_73 (by decide) ?_
          refine lv_irem hx hb dX6_aunt_74 (by decide) ?_
          refine lv_if_ne (tgt := 82) hx hb dX6_aunt_75 (by decide) (fun c75 => ?_) (fun c75 => ?_)
          · have h := br_0 h c75
            refine lv_bipush (v := (7 : Int32)) hx hb dX6_aunt_82 (by decide) ?_
            exact n84 ((upd mtried x2.toNatClampNeg ((mtried x2.toNatClampNeg) + (1 : Int32))) x2.toNatClampNeg) (7 : Int32) x1 x2 maside msteps (upd mtried x2.toNatClampNeg ((mtried x2.toNatClampNeg) + (1 : Int32))) mbest h _ _ hP hD hS _ (lv_sub hl [0, 1, 2] rfl)
          · have h := br_1 h c75
            refine lv_iconst (v := (4 : Int32)) hx hb dX6_aunt_78 (by decide) ?_
            refine lv_goto (tgt := 84) hx hb dX6_aunt_79 (by decide) ?_
            exact n84 ((upd mtried x2.toNatClampNeg ((mtried x2.toNatClampNeg) + (1 : Int32))) x2.toNatClampNeg) (4 : Int32) x1 x2 maside msteps (upd mtried x2.toNatClampNeg ((mtried x2.toNatClampNeg) + (1 : Int32))) mbest h _ _ hP hD hS _ (lv_sub hl [0, 1, 2] rfl)
    unfold fX6_aunt at h
    refine lv_iload_n hx hb dX6_aunt_0 rfl (lv_at hl 1 rfl) ?_
    refine lv_i2l (v := (x1.toInt64)) hx hb dX6_aunt_1 rfl ?_
    refine lv_lconst (v := (0 : Int64)) hx hb dX6_aunt_2 (by decide) ?_
    refine lv_ldc2 (v := (3 : Int64)) hx hb hown q1 dX6_aunt_3 ?_
    obtain ⟨r6, hc, h⟩ := bd1_some h
    refine my_roz (va_Run.run (va_runS (As := [.long (x1.toInt64), .long (0 : Int64), .long (3 : Int64)]) (rest := []) hFix (kX6_in l D T F (x1.toInt64) (0 : Int64) (3 : Int64) r6 hc) (va_cwS 3 hts gX6_aunt_X6_in rfl rfl rfl hd_X6_in ⟨Nat.le_of_ble_eq_true rfl, Nat.le_of_ble_eq_true rfl⟩) (preS_ro va_nil hKK) rfl rfl hl.1 rfl (lv_room (Nat.le_of_ble_eq_true rfl)) dX6_aunt_6 ⟨Nat.zero_le _, Nat.zero_le _⟩)) (fun hb6 => ?_)
    refine lv_if_ne (tgt := 14) hx hb dX6_aunt_9 (by decide) (fun c9 => ?_) (fun c9 => ?_)
    · have h := br_0 h c9
      refine lv_aload_n hx hb dX6_aunt_14 rfl (lv_at hl 0 rfl) ?_
      refine va_get (D := D) (ci := 4) (C := RX6) (T := TX6) (N := 27) hx hb hts iX6 hown hK hP 0 wMo_0 rfl 4 (by decide) q2 (fun _ h9 => h9) rfl dX6_aunt_15 ?_
      refine lv_if_ne (tgt := 24) hx hb dX6_aunt_18 (by decide) (fun c18 => ?_) (fun c18 => ?_)
      · have h := br_0 h c18
        refine lv_iload_n hx hb dX6_aunt_24 rfl (lv_at hl 1 rfl) ?_
        refine lv_if_ne (tgt := 30) hx hb dX6_aunt_25 (by decide) (fun c25 => ?_) (fun c25 => ?_)
        · have h := br_0 h c25
          refine lv_aload_n hx hb dX6_aunt_30 rfl (lv_at hl 0 rfl) ?_
          refine va_get (D := D) (ci := 4) (C := RX6) (T := TX6) (N := 27) hx hb hts iX6 hown hK hP 0 wMo_0 rfl 9 (by decide) q3 (fun _ h9 => h9) rfl dX6_aunt_31 ?_
          refine lv_iconst (v := (0 : Int32)) hx hb dX6_aunt_34 (by decide) ?_
          refine lv_aload_n hx hb dX6_aunt_35 rfl (lv_at hl 0 rfl) ?_
          refine va_get (D := D) (ci := 4) (C := RX6) (T := TX6) (N := 27) hx hb hts iX6 hown hK hP 0 wMo_0 rfl 24 (by decide) q4 (fun _ h9 => h9) rfl dX6_aunt_36 ?_
          refine lv_iconst (v := (0 : Int32)) hx hb dX6_aunt_39 (by decide) ?_
          refine lv_bipush (v := (7 : Int32)) hx hb dX6_aunt_40 (by decide) ?_
          obtain ⟨w42_f2, hc, h⟩ := bd1_some h
          have hPc : va_P D vwCl (wA2 T (am 8) (am 15) 7 49 mnow msteps) H := my_subP sb_wMo_wA2_8_15 hP
          have hDc := hD.sub [8, 15] (by decide) sb_wMo_wA2_8_15
          have hFc := va_free hD hS hA [8, 15] sb_wMo_wA2_8_15
          refine my_rwv (va_runS (As := [.ref (am 8), .int (0 : Int32), .ref (am 15), .int (0 : Int32), .int (7 : Int32)]) (rest := []) hFix (kX6_copies l D T F (am 8) (am 15) 7 49 mnow msteps (0 : Int32) (0 : Int32) (7 : Int32) w42_f2 hc) (va_cwS 5 hts gX6_aunt_X6_copies rfl rfl rfl hd_X6_copies ⟨Nat.le_of_ble_eq_true rfl, Nat.le_of_ble_eq_true rfl⟩) (preS_rw hPc hKK hDc) rfl rfl hl.1 rfl (lv_room (Nat.le_of_ble_eq_true rfl)) dX6_aunt_42 ⟨Nat.zero_le _, Nat.zero_le _⟩) hS hFc (fun H1 locs hP1 hD1 hz1 hk1 hS => ?_)
          obtain ⟨hP, hD⟩ := my_joinS hP hD (by decide) sb_wMo_wA2_8_15 hk1 hFc hP1 hD1
          have hP : va_P D vwCl (wMo T am mguests mclause mdeeds masked mupper mlower mfinding mreadGuests misSight mat mrowSizes mrows mtextSizes mtexts mdoes mkinds msees mnow mbefore mkeeps mkept mfindings mread maside w42_f2 mtried mbest) H1 := st_wMo_wA2_8_15_copies ▸ hP
          have hD : va_D A (wMo T am mguests mclause mdeeds masked mupper mlower mfinding mreadGuests misSight mat mrowSizes mrows mtextSizes mtexts mdoes mkinds msees mnow mbefore mkeeps mkept mfindings mread maside w42_f2 mtried mbest) := st_wMo_wA2_8_15_copies ▸ hD
          generalize H1 = H at hP hS ⊢
          refine lv_aload_n hx hb dX6_aunt_45 rfl (lv_at hl 0 rfl) ?_
          refine lv_iconst (v := (0 : Int32)) hx hb dX6_aunt_46 (by decide) ?_
          obtain ⟨w47_mtried, w47_mbest, hc, h⟩ := bd2_some h
          have hFc := my_freeS hD hS hA
          refine my_rwv (va_runV (As := [.int (0 : Int32)]) (rest := []) hFix (kX6_begins l D T F am mguests mclause mdeeds masked mupper mlower mfinding mreadGuests misSight mat mrowSizes mrows mtextSizes mtexts mdoes mkinds msees mnow mbefore mkeeps mkept mfindings mread maside w42_f2 mtried mbest (0 : Int32) w47_mtried w47_mbest hc) (cwV 1 hts gX6_aunt_X6_begins rfl rfl rfl ⟨rfl, hd_X6_begins⟩ ⟨Nat.le_of_ble_eq_true rfl, Nat.le_of_ble_eq_true rfl⟩) (preV_rw hP hKK hD (va_recv hK hP (ci := 4) (q0 := 0) rfl wMo_0)) rfl rfl hl.1 rfl (lv_room (Nat.le_of_ble_eq_true rfl)) dX6_aunt_47 ⟨Nat.zero_le _, Nat.zero_le _⟩) hS hFc (fun H1 locs hP1 hD1 hz1 hk1 hS => ?_)
          have hP : va_P D vwCl (wMo T am mguests mclause mdeeds masked mupper mlower mfinding mreadGuests misSight mat mrowSizes mrows mtextSizes mtexts mdoes mkinds msees mnow mbefore mkeeps mkept mfindings mread maside w42_f2 w47_mtried w47_mbest) H1 := hP1
          have hD : va_D A (wMo T am mguests mclause mdeeds masked mupper mlower mfinding mreadGuests misSight mat mrowSizes mrows mtextSizes mtexts mdoes mkinds msees mnow mbefore mkeeps mkept mfindings mread maside w42_f2 w47_mtried w47_mbest) := hD1.weaken (fun _ q _ h => hFc q.1 h)
          generalize H1 = H at hP hS ⊢
          refine lv_iconst (v := (0 : Int32)) hx hb dX6_aunt_50 (by decide) ?_
          refine lv_istore_n (lv' := [(2, .int (0 : Int32)), (0, .ref (am 0)), (1, .int x1)]) hx hb dX6_aunt_51 rfl hl (by decide) rfl (fun ls hl => ?_)
          exact l52 x1 F (0 : Int32) maside w42_f2 w47_mtried w47_mbest h _ _ hP hD hS _ (lv_sub hl [1, 2, 0] rfl)
        · have h := br_1 h c25
          refine lv_iconst (v := (0 : Int32)) hx hb dX6_aunt_28 (by decide) ?_
          cases h
          exact hret _ _ _ _ hP hD hS dX6_aunt_29
      · have h := br_1 h c18
        refine lv_bipush (v := (-4 : Int32)) hx hb dX6_aunt_21 (by decide) ?_
        cases h
        exact hret _ _ _ _ hP hD hS dX6_aunt_23
    · have h := br_1 h c9
      refine lv_iconst (v := (-1 : Int32)) hx hb dX6_aunt_12 (by decide) ?_
      cases h
      exact hret _ _ _ _ hP hD hS dX6_aunt_13
  exact key _ (fun H locs pc ls hP hD hS hd => W.iret hx hb hr (fun t ht hW => ⟨⟨_, (), rfl, rfl, by show _ ∧ _; rw [ht]; exact ⟨hP, hD⟩⟩, hS.F ht⟩) hS.2.2 hd)
set_option maxHeartbeats 4000000 in
set_option maxRecDepth 100000 in
theorem kX6_evening (l : Launch) (D : va_G) (T : Nat → ClassId) (F : Nat) (am : Nat → Nat) (mguests : Int32) (mclause : Int32) (mdeeds : Int32) (masked : Int32) (mupper : Int64) (mlower : Int64) (mfinding : Int32) (mreadGuests : Int32) (misSight : Int32) (mat : Int32) (mrowSizes : Nat → Int32) (mrows : Nat → Int32) (mtextSizes : Nat → Int32) (mtexts : Nat → Int32) (mdoes : Nat → Int32) (mkinds : Nat → Int32) (msees : Nat → Int32) (mnow : Nat → Int32) (mbefore : Nat → Int32) (mkeeps : Nat → Int32) (mkept : Nat → Int32) (mfindings : Nat → Int32) (mread : Nat → Int32) (maside : Nat → Int32) (msteps : Nat → Int32) (mtried : Nat → Int32) (mbest : Nat → Int32) (x1 : Int32) (x2 : Int32) (r : Int32) (zmfinding : Int32) (zmfindings : Nat → Int32) (h : fX6_evening F mguests mfinding mrowSizes mrows mnow mfindings x1 x2 = some (r, zmfinding, zmfindings)) : ∀ sz : Nat, Met l yX6_evening wsX6_evening ({ frames := 2, cells := 0, slots := 0, locals := 46 } : Room) (va_Pc [.ref (am 0), .int x1, .int x2] (fun U => U.heap.size = sz ∧ va_P D vwCl (wMo T am mguests mclause mdeeds masked mupper mlower mfinding mreadGuests misSight mat mrowSizes mrows mtextSizes mtexts mdoes mkinds msees mnow mbefore mkeeps mkept mfindings mread maside msteps mtried mbest) U.heap ∧ KK D T U ∧ va_D (fun _ => True) (wMo T am mguests mclause mdeeds masked mupper mlower mfinding mreadGuests misSight mat mrowSizes mrows mtextSizes mtexts mdoes mkinds msees mnow mbefore mkeeps mkept mfindings mread maside msteps mtried mbest))) (va_Qi (fun r' (_ : Unit) => r' = r) (fun _ t => va_P D vwCl (wMo T am mguests mclause mdeeds masked mupper mlower zmfinding mreadGuests misSight mat mrowSizes mrows mtextSizes mtexts mdoes mkinds msees mnow mbefore mkeeps mkept zmfindings mread maside msteps mtried mbest) t.heap ∧ va_D (va_A (wMo T am mguests mclause mdeeds masked mupper mlower mfinding mreadGuests misSight mat mrowSizes mrows mtextSizes mtexts mdoes mkinds msees mnow mbefore mkeeps mkept mfindings mread maside msteps mtried mbest) sz) (wMo T am mguests mclause mdeeds masked mupper mlower zmfinding mreadGuests misSight mat mrowSizes mrows mtextSizes mtexts mdoes mkinds msees mnow mbefore mkeeps mkept zmfindings mread maside msteps mtried mbest)) (va_A (wMo T am mguests mclause mdeeds masked mupper mlower mfinding mreadGuests misSight mat mrowSizes mrows mtextSizes mtexts mdoes mkinds msees mnow mbefore mkeeps mkept mfindings mread maside msteps mtried mbest) sz)) 0 0 (va_A (wMo T am mguests mclause mdeeds masked mupper mlower mfinding mreadGuests misSight mat mrowSizes mrows mtextSizes mtexts mdoes mkinds msees mnow mbefore mkeeps mkept mfindings mread maside msteps mtried mbest) sz) := by
  intro sz
  refine Met.ofW (cc := cX6_evening) (maxL := 5) (ret := some .int) (by decide) rfl ?_
  intro p e s m args below meth c s₁ B hml hv
  obtain ⟨ha, hsz, hP, hKK, hD0⟩ := hv
  have hx := B.exec
  have hb := B.bytes
  have hr := B.returns
  have hts := atoms_spec (ws := wsX6_evening) B.pre
  have hown : s.vm.findClass RX6 = some m.cls := findClass_of_methodNamed B.named
  have hlocks := B.notSynchronized
  have hK := hKK.1
  have hFix : CallFix p m c cX6_evening 5 s args wsX6_evening RX6 := ⟨hx, hb, hml, hown, hts⟩
  have q1 := hts _ (List.mem_of_getElem? (i := 1) (show wsX6_evening[1]? = some (Cond.fieldLink RX6 31 "PartyWillModel" "now" "[I") from rfl))
  have q2 := hts _ (List.mem_of_getElem? (i := 2) (show wsX6_evening[2]? = some (Cond.fieldLink RX6 7 "PartyWillModel" "rowSizes" "[I") from rfl))
  have q3 := hts _ (List.mem_of_getElem? (i := 3) (show wsX6_evening[3]? = some (Cond.fieldLink RX6 13 "PartyWillModel" "rows" "[I") from rfl))
  have q4 := hts _ (List.mem_of_getElem? (i := 4) (show wsX6_evening[4]? = some (Cond.constantLong RX6 252 (20)) from rfl))
  have iX6 : ∀ w ∈ u_ws RX6 TX6 27, w ∈ wsX6_evening := fun w h => List.mem_cons_of_mem _ (List.mem_append_right _ (h))
  subst hsz
  have hD := hD0.self (sz := s.heap.size)
  generalize hAe : va_A (wMo T am mguests mclause mdeeds masked mupper mlower mfinding mreadGuests misSight mat mrowSizes mrows mtextSizes mtexts mdoes mkinds msees mnow mbefore mkeeps mkept mfindings mread maside msteps mtried mbest) s.heap.size = A at hD ⊢
  have hA : ∀ q : Nat, s.heap.size ≤ q → A q := fun q h => by rw [← hAe]; exact Or.inr h
  have hS : va_S A s.heap s.heap [] := va_S.rf
  have hP : va_P D vwCl (wMo T am mguests mclause mdeeds masked mupper mlower mfinding mreadGuests misSight mat mrowSizes mrows mtextSizes mtexts mdoes mkinds msees mnow mbefore mkeeps mkept mfindings mread maside msteps mtried mbest) s.heap := hP
  obtain ⟨ls, hl, e0⟩ := my_entry (m := m) (n := 5) ha (Nat.le_of_ble_eq_true rfl)
  rw [e0]
  have hl : lv_has ls 5 [(0, .ref (am 0)), (1, .int x1), (2, .int x2)] := hl
  have key : ∀ Q : State → Prop, (∀ (H : Heap) (locs : List Loc) (pc : Nat) (ls : Array Slot), va_P D vwCl (wMo T am mguests mclause mdeeds masked mupper mlower zmfinding mreadGuests misSight mat mrowSizes mrows mtextSizes mtexts mdoes mkinds msees mnow mbefore mkeeps mkept zmfindings mread maside msteps mtried mbest) H → va_D A (wMo T am mguests mclause mdeeds masked mupper mlower zmfinding mreadGuests misSight mat mrowSizes mrows mtextSizes mtexts mdoes mkinds msees mnow mbefore mkeeps mkept zmfindings mread maside msteps mtried mbest) → va_S A s.heap H locs → decode cX6_evening pc = .ok (.ireturn, 1) → W p l e ({ frames := 2, cells := 0, slots := 0, locals := 46 } : Room) s m args below meth c H locs 0 0 Q (F0 m pc ls [.int r])) → W p l e ({ frames := 2, cells := 0, slots := 0, locals := 46 } : Room) s m args below meth c s.heap [] 0 0 Q (F0 m 0 ls []) := by
    intro Q hret
    skip
    have l82 : ∀ x2 : Int32, ∀ mfinding : Int32, ∀ mfindings : Nat → Int32, ∀ nu : Nat, ∀ x3 : Int32, ∀ x4 : Int32, fX6_evening_l82 F mguests mrowSizes mrows mnow x2 mfinding mfindings nu x3 x4 = some (r, zmfinding, zmfindings) → ∀ (H : Heap) (locs : List Loc), va_P D vwCl (wMo T am mguests mclause mdeeds masked mupper mlower mfinding mreadGuests misSight mat mrowSizes mrows mtextSizes mtexts mdoes mkinds msees mnow mbefore mkeeps mkept mfindings mread maside msteps mtried mbest) H → va_D A (wMo T am mguests mclause mdeeds masked mupper mlower mfinding mreadGuests misSight mat mrowSizes mrows mtextSizes mtexts mdoes mkinds msees mnow mbefore mkeeps mkept mfindings mread maside msteps mtried mbest) → va_S A s.heap H locs → ∀ (ls : Array Slot), lv_has ls 5 [(0, .ref (am 0)), (2, .int x2), (3, .int x3), (4, .int x4)] → W p l e ({ frames := 2, cells := 0, slots := 0, locals := 46 } : Room) s m args below meth c H locs 0 0 Q (F0 m 82 ls []) := by
      intro x2 mfinding mfindings
      intro nu
      induction nu with
      | zero => intro x3 x4 h; exact none_some h
      | succ nu82 ih82 =>
        intro x3 x4 h H locs hP hD hS ls hl
        have h : fX6_evening_l82_b F mguests mrowSizes mrows mnow x2 mfinding mfindings (fX6_evening_l82 F mguests mrowSizes mrows mnow x2 mfinding mfindings nu82) x3 x4 = some (r, zmfinding, zmfindings) := h
        unfold fX6_evening_l82_b at h
        refine lv_iload hx hb dX6_evening_82 (lv_at hl 3 rfl) ?_
        refine lv_aload_n hx hb dX6_evening_84 rfl (lv_at hl 0 rfl) ?_
        refine va_get (D := D) (ci := 4) (C := RX6) (T := TX6) (N := 27) hx hb hts iX6 hown hK hP 0 wMo_0 rfl 0 (by decide) q2 (fun _ h9 => h9) rfl dX6_evening_85 ?_
        refine lv_iload_n hx hb dX6_evening_88 rfl (lv_at hl 1 rfl) ?_
        obtain ⟨hin1, h⟩ := ck_some h
        refine va_iald hx hb hK hP 1 0 wMo_1 rfl hin1 dX6_evening_89 ?_
        refine lv_icmp_ge (tgt := 152) hx hb dX6_evening_90 (by decide) (fun c90 => ?_) (fun c90 => ?_)
        · have h := br_1 h c90
          refine lv_iload_n hx hb dX6_evening_152 rfl (lv_at hl 2 rfl) ?_
          refine lv_if_eq (tgt := 160) hx hb dX6_evening_153 (by decide) (fun c153 => ?_) (fun c153 => ?_)
          · have h := br_1 h c153
            refine lv_aload_n hx hb dX6_evening_160 rfl (lv_at hl 0 rfl) ?_
            refine lv_iconst (v := (3 : Int32)) hx hb dX6_evening_161 (by decide) ?_
            obtain ⟨r162, w162_mfinding, w162_mfindings, hc, h⟩ := bd3_some h
            have hFc := my_freeS hD hS hA
            refine my_rwi (va_runV (As := [.int (3 : Int32)]) (rest := []) hFix (kX6_found l D T F am mguests mclause mdeeds masked mupper mlower mfinding mreadGuests misSight mat mrowSizes mrows mtextSizes mtexts mdoes mkinds msees mnow mbefore mkeeps mkept mfindings mread maside msteps mtried mbest (3 : Int32) r162 w162_mfinding w162_mfindings hc) (cwV 1 hts gX6_evening_X6_found rfl rfl rfl ⟨rfl, hd_X6_found⟩ ⟨Nat.le_of_ble_eq_true rfl, Nat.le_of_ble_eq_true rfl⟩) (preV_rw hP hKK hD (va_recv hK hP (ci := 4) (q0 := 0) rfl wMo_0)) rfl rfl hl.1 rfl (lv_room (Nat.le_of_ble_eq_true rfl)) dX6_evening_162 ⟨Nat.zero_le _, Nat.zero_le _⟩) hS hFc (fun H1 locs hP1 hD1 hz1 hk1 hS => ?_)
            have hP : va_P D vwCl (wMo T am mguests mclause mdeeds masked mupper mlower w162_mfinding mreadGuests misSight mat mrowSizes mrows mtextSizes mtexts mdoes mkinds msees mnow mbefore mkeeps mkept w162_mfindings mread maside msteps mtried mbest) H1 := hP1
            have hD : va_D A (wMo T am mguests mclause mdeeds masked mupper mlower w162_mfinding mreadGuests misSight mat mrowSizes mrows mtextSizes mtexts mdoes mkinds msees mnow mbefore mkeeps mkept w162_mfindings mread maside msteps mtried mbest) := hD1.weaken (fun _ q _ h => hFc q.1 h)
            generalize H1 = H at hP hS ⊢
            cases h
            exact hret _ _ _ _ hP hD hS dX6_evening_165
          · have h := br_0 h c153
            refine lv_iconst (v := (0 : Int32)) hx hb dX6_evening_156 (by decide) ?_
            refine lv_goto (tgt := 165) hx hb dX6_evening_157 (by decide) ?_
            cases h
            exact hret _ _ _ _ hP hD hS dX6_evening_165
        · have h := br_0 h c90
          refine lv_iload_n hx hb dX6_evening_93 rfl (lv_at hl 2 rfl) ?_
          refine lv_if_eq (tgt := 144) hx hb dX6_evening_94 (by decide) (fun c94 => ?_) (fun c94 => ?_)
          · have h := br_1 h c94
            refine lv_iconst (v := (0 : Int32)) hx hb dX6_evening_144 (by decide) ?_
            refine lv_istore_n (lv' := [(3, .int (0 : Int32)), (0, .ref (am 0)), (2, .int x2), (4, .int x4)]) hx hb dX6_evening_145 rfl hl (by decide) rfl (fun ls hl => ?_)
            refine lv_iinc (v := (x4 + (2 : Int32))) (lv' := [(4, .int (x4 + (2 : Int32))), (3, .int (0 : Int32)), (0, .ref (am 0)), (2, .int x2)]) hx hb dX6_evening_146 hl (k := 3) rfl rfl (by decide) rfl (fun ls hl => ?_)
            refine lv_goto (tgt := 82) hx hb dX6_evening_149 (by decide) ?_
            exact ih82 (0 : Int32) (x4 + (2 : Int32)) h _ _ hP hD hS _ (lv_sub hl [2, 3, 1, 0] rfl)
          · have h := br_0 h c94
            refine lv_aload_n hx hb dX6_evening_97 rfl (lv_at hl 0 rfl) ?_
            refine va_get (D := D) (ci := 4) (C := RX6) (T := TX6) (N := 27) hx hb hts iX6 hown hK hP 0 wMo_0 rfl 1 (by decide) q3 (fun _ h9 => h9) rfl dX6_evening_98 ?_
            refine lv_bipush (v := (40 : Int32)) hx hb dX6_evening_101 (by decide) ?_
            refine lv_iload_n hx hb dX6_evening_103 rfl (lv_at hl 1 rfl) ?_
            refine lv_imul hx hb dX6_evening_104 ?_
            refine lv_iload hx hb dX6_evening_105 (lv_at hl 3 rfl) ?_
            refine lv_iadd hx hb dX6_evening_107 ?_
            obtain ⟨hin2, h⟩ := ck_some h
            refine va_iald hx hb hK hP 2 0 wMo_2 rfl hin2 dX6_evening_108 ?_
            obtain ⟨r109, hc, h⟩ := bd1_some h
            refine my_roz (va_Run.run (va_runS (As := [.int (mrows (((40 : Int32) * x2) + x4).toNatClampNeg)]) (rest := []) hFix (kX6_isTune l D T F (mrows (((40 : Int32) * x2) + x4).toNatClampNeg) r109 hc) (va_cwS 1 hts gX6_evening_X6_isTune rfl rfl rfl hd_X6_isTune ⟨Nat.le_of_ble_eq_true rfl, Nat.le_of_ble_eq_true rfl⟩) (preS_ro va_nil hKK) rfl rfl hl.1 rfl (lv_room (Nat.le_of_ble_eq_true rfl)) dX6_evening_109 ⟨Nat.zero_le _, Nat.zero_le _⟩)) (fun hb109 => ?_)
            refine lv_if_eq (tgt := 144) hx hb dX6_evening_112 (by decide) (fun c112 => ?_) (fun c112 => ?_)
            · have h := br_1 h c112
              refine lv_iconst (v := (0 : Int32)) hx hb dX6_evening_144 (by decide) ?_
              refine lv_istore_n (lv' := [(3, .int (0 : Int32)), (0, .ref (am 0)), (2, .int x2), (4, .int x4)]) hx hb dX6_evening_145 rfl hl (by decide) rfl (fun ls hl => ?_)
              refine lv_iinc (v := (x4 + (2 : Int32))) (lv' := [(4, .int (x4 + (2 : Int32))), (3, .int (0 : Int32)), (0, .ref (am 0)), (2, .int x2)]) hx hb dX6_evening_146 hl (k := 3) rfl rfl (by decide) rfl (fun ls hl => ?_)
              refine lv_goto (tgt := 82) hx hb dX6_evening_149 (by decide) ?_
              exact ih82 (0 : Int32) (x4 + (2 : Int32)) h _ _ hP hD hS _ (lv_sub hl [2, 3, 1, 0] rfl)
            · have h := br_0 h c112
              refine lv_aload_n hx hb dX6_evening_115 rfl (lv_at hl 0 rfl) ?_
              refine va_get (D := D) (ci := 4) (C := RX6) (T := TX6) (N := 27) hx hb hts iX6 hown hK hP 0 wMo_0 rfl 1 (by decide) q3 (fun _ h9 => h9) rfl dX6_evening_116 ?_
              refine lv_bipush (v := (40 : Int32)) hx hb dX6_evening_119 (by decide) ?_
              refine lv_iload_n hx hb dX6_evening_121 rfl (lv_at hl 1 rfl) ?_
              refine lv_imul hx hb dX6_evening_122 ?_
              refine lv_iload hx hb dX6_evening_123 (lv_at hl 3 rfl) ?_
              refine lv_iadd hx hb dX6_evening_125 ?_
              refine lv_iconst (v := (1 : Int32)) hx hb dX6_evening_126 (by decide) ?_
              refine lv_iadd hx hb dX6_evening_127 ?_
              obtain ⟨hin3, h⟩ := ck_some h
              refine va_iald hx hb hK hP 2 0 wMo_2 rfl hin3 dX6_evening_128 ?_
              refine lv_i2l (v := ((mrows ((((40 : Int32) * x2) + x4) + (1 : Int32)).toNatClampNeg).toInt64)) hx hb dX6_evening_129 rfl ?_
              refine lv_lconst (v := (0 : Int64)) hx hb dX6_evening_130 (by decide) ?_
              refine lv_ldc2 (v := (20 : Int64)) hx hb hown q4 dX6_evening_131 ?_
              obtain ⟨r134, hc, h⟩ := bd1_some h
              refine my_roz (va_Run.run (va_runS (As := [.long ((mrows ((((40 : Int32) * x2) + x4) + (1 : Int32)).toNatClampNeg).toInt64), .long (0 : Int64), .long (20 : Int64)]) (rest := []) hFix (kX6_in l D T F ((mrows ((((40 : Int32) * x2) + x4) + (1 : Int32)).toNatClampNeg).toInt64) (0 : Int64) (20 : Int64) r134 hc) (va_cwS 3 hts gX6_evening_X6_in rfl rfl rfl hd_X6_in ⟨Nat.le_of_ble_eq_true rfl, Nat.le_of_ble_eq_true rfl⟩) (preS_ro va_nil hKK) rfl rfl hl.1 rfl (lv_room (Nat.le_of_ble_eq_true rfl)) dX6_evening_134 ⟨Nat.zero_le _, Nat.zero_le _⟩)) (fun hb134 => ?_)
              refine lv_if_eq (tgt := 144) hx hb dX6_evening_137 (by decide) (fun c137 => ?_) (fun c137 => ?_)
              · have h := br_1 h c137
                refine lv_iconst (v := (0 : Int32)) hx hb dX6_evening_144 (by decide) ?_
                refine lv_istore_n (lv' := [(3, .int (0 : Int32)), (0, .ref (am 0)), (2, .int x2), (4, .int x4)]) hx hb dX6_evening_145 rfl hl (by decide) rfl (fun ls hl => ?_)
                refine lv_iinc (v := (x4 + (2 : Int32))) (lv' := [(4, .int (x4 + (2 : Int32))), (3, .int (0 : Int32)), (0, .ref (am 0)), (2, .int x2)]) hx hb dX6_evening_146 hl (k := 3) rfl rfl (by decide) rfl (fun ls hl => ?_)
                refine lv_goto (tgt := 82) hx hb dX6_evening_149 (by decide) ?_
                exact ih82 (0 : Int32) (x4 + (2 : Int32)) h _ _ hP hD hS _ (lv_sub hl [2, 3, 1, 0] rfl)
              · have h := br_0 h c137
                refine lv_iconst (v := (1 : Int32)) hx hb dX6_evening_140 (by decide) ?_
                refine lv_goto (tgt := 145) hx hb dX6_evening_141 (by decide) ?_
                refine lv_istore_n (lv' := [(3, .int (1 : Int32)), (0, .ref (am 0)), (2, .int x2), (4, .int x4)]) hx hb dX6_evening_145 rfl hl (by decide) rfl (fun ls hl => ?_)
                refine lv_iinc (v := (x4 + (2 : Int32))) (lv' := [(4, .int (x4 + (2 : Int32))), (3, .int (1 : Int32)), (0, .ref (am 0)), (2, .int x2)]) hx hb dX6_evening_146 hl (k := 3) rfl rfl (by decide) rfl (fun ls hl => ?_)
                refine lv_goto (tgt := 82) hx hb dX6_evening_149 (by decide) ?_
                exact ih82 (1 : Int32) (x4 + (2 : Int32)) h _ _ hP hD hS _ (lv_sub hl [2, 3, 1, 0] rfl)
    unfold fX6_evening at h
    refine lv_aload_n hx hb dX6_evening_0 rfl (lv_at hl 0 rfl) ?_
    refine lv_iload_n hx hb dX6_evening_1 rfl (lv_at hl 1 rfl) ?_
    obtain ⟨r2, hc, h⟩ := bd1_some h
    refine my_roz (va_Run.run (va_runV (As := [.int x1]) (rest := []) hFix (kX6_isGuest l D T F am mguests mclause mdeeds masked mupper mlower mfinding mreadGuests misSight mat mrowSizes mrows mtextSizes mtexts mdoes mkinds msees mnow mbefore mkeeps mkept mfindings mread maside msteps mtried mbest x1 r2 hc) (cwV 1 hts gX6_evening_X6_isGuest rfl rfl rfl ⟨rfl, hd_X6_isGuest⟩ ⟨Nat.le_of_ble_eq_true rfl, Nat.le_of_ble_eq_true rfl⟩) (preV_ro hP hKK (va_recv hK hP (ci := 4) (q0 := 0) rfl wMo_0)) rfl rfl hl.1 rfl (lv_room (Nat.le_of_ble_eq_true rfl)) dX6_evening_2 ⟨Nat.zero_le _, Nat.zero_le _⟩)) (fun hb2 => ?_)
    refine lv_if_eq (tgt := 15) hx hb dX6_evening_5 (by decide) (fun c5 => ?_) (fun c5 => ?_)
    · have h := br_1 h c5
      refine lv_iconst (v := (-1 : Int32)) hx hb dX6_evening_15 (by decide) ?_
      cases h
      exact hret _ _ _ _ hP hD hS dX6_evening_16
    · have h := br_0 h c5
      refine lv_iload_n hx hb dX6_evening_8 rfl (lv_at hl 2 rfl) ?_
      obtain ⟨r9, hc, h⟩ := bd1_some h
      refine my_roz (va_Run.run (va_runS (As := [.int x2]) (rest := []) hFix (kX6_isRow l D T F x2 r9 hc) (va_cwS 1 hts gX6_evening_X6_isRow rfl rfl rfl hd_X6_isRow ⟨Nat.le_of_ble_eq_true rfl, Nat.le_of_ble_eq_true rfl⟩) (preS_ro va_nil hKK) rfl rfl hl.1 rfl (lv_room (Nat.le_of_ble_eq_true rfl)) dX6_evening_9 ⟨Nat.zero_le _, Nat.zero_le _⟩)) (fun hb9 => ?_)
      refine lv_if_ne (tgt := 17) hx hb dX6_evening_12 (by decide) (fun c12 => ?_) (fun c12 => ?_)
      · have h := br_0 h c12
        refine lv_aload_n hx hb dX6_evening_17 rfl (lv_at hl 0 rfl) ?_
        refine va_get (D := D) (ci := 4) (C := RX6) (T := TX6) (N := 27) hx hb hts iX6 hown hK hP 0 wMo_0 rfl 9 (by decide) q1 (fun _ h9 => h9) rfl dX6_evening_18 ?_
        refine lv_bipush (v := (6 : Int32)) hx hb dX6_evening_21 (by decide) ?_
        refine va_iald hx hb hK hP 8 0 wMo_8 rfl (show ¬ ((6 : Int32) < 0 ∨ 7 ≤ (6 : Int32).toNatClampNeg) by decide) dX6_evening_23 ?_
        refine lv_iload_n hx hb dX6_evening_24 rfl (lv_at hl 1 rfl) ?_
        obtain ⟨r25, hc, h⟩ := bd1_some h
        refine my_roz (va_Run.run (va_runS (As := [.int (mnow (6 : Int32).toNatClampNeg), .int x1]) (rest := []) hFix (kX6_has l D T F (mnow (6 : Int32).toNatClampNeg) x1 r25 hc) (va_cwS 2 hts gX6_evening_X6_has rfl rfl rfl hd_X6_has ⟨Nat.le_of_ble_eq_true rfl, Nat.le_of_ble_eq_true rfl⟩) (preS_ro va_nil hKK) rfl rfl hl.1 rfl (lv_room (Nat.le_of_ble_eq_true rfl)) dX6_evening_25 ⟨Nat.zero_le _, Nat.zero_le _⟩)) (fun hb25 => ?_)
        refine lv_if_eq (tgt := 34) hx hb dX6_evening_28 (by decide) (fun c28 => ?_) (fun c28 => ?_)
        · have h := br_1 h c28
          refine lv_aload_n hx hb dX6_evening_34 rfl (lv_at hl 0 rfl) ?_
          refine va_get (D := D) (ci := 4) (C := RX6) (T := TX6) (N := 27) hx hb hts iX6 hown hK hP 0 wMo_0 rfl 0 (by decide) q2 (fun _ h9 => h9) rfl dX6_evening_35 ?_
          refine lv_iload_n hx hb dX6_evening_38 rfl (lv_at hl 2 rfl) ?_
          obtain ⟨hin4, h⟩ := ck_some h
          refine va_iald hx hb hK hP 1 0 wMo_1 rfl hin4 dX6_evening_39 ?_
          refine lv_if_ge (tgt := 49) hx hb dX6_evening_40 (by decide) (fun c40 => ?_) (fun c40 => ?_)
          · have h := br_1 h c40
            refine lv_aload_n hx hb dX6_evening_49 rfl (lv_at hl 0 rfl) ?_
            refine va_get (D := D) (ci := 4) (C := RX6) (T := TX6) (N := 27) hx hb hts iX6 hown hK hP 0 wMo_0 rfl 0 (by decide) q2 (fun _ h9 => h9) rfl dX6_evening_50 ?_
            refine lv_iload_n hx hb dX6_evening_53 rfl (lv_at hl 2 rfl) ?_
            obtain ⟨hin5, h⟩ := ck_some h
            refine va_iald hx hb hK hP 1 0 wMo_1 rfl hin5 dX6_evening_54 ?_
            refine lv_bipush (v := (16 : Int32)) hx hb dX6_evening_55 (by decide) ?_
            refine lv_icmp_gt (tgt := 71) hx hb dX6_evening_57 (by decide) (fun c57 => ?_) (fun c57 => ?_)
            · have h := br_1 h c57
              refine lv_aload_n hx hb dX6_evening_71 rfl (lv_at hl 0 rfl) ?_
              refine lv_iconst (v := (5 : Int32)) hx hb dX6_evening_72 (by decide) ?_
              obtain ⟨r73, w73_mfinding, w73_mfindings, hc, h⟩ := bd3_some h
              have hFc := my_freeS hD hS hA
              refine my_rwi (va_runV (As := [.int (5 : Int32)]) (rest := []) hFix (kX6_found l D T F am mguests mclause mdeeds masked mupper mlower mfinding mreadGuests misSight mat mrowSizes mrows mtextSizes mtexts mdoes mkinds msees mnow mbefore mkeeps mkept mfindings mread maside msteps mtried mbest (5 : Int32) r73 w73_mfinding w73_mfindings hc) (cwV 1 hts gX6_evening_X6_found rfl rfl rfl ⟨rfl, hd_X6_found⟩ ⟨Nat.le_of_ble_eq_true rfl, Nat.le_of_ble_eq_true rfl⟩) (preV_rw hP hKK hD (va_recv hK hP (ci := 4) (q0 := 0) rfl wMo_0)) rfl rfl hl.1 rfl (lv_room (Nat.le_of_ble_eq_true rfl)) dX6_evening_73 ⟨Nat.zero_le _, Nat.zero_le _⟩) hS hFc (fun H1 locs hP1 hD1 hz1 hk1 hS => ?_)
              have hP : va_P D vwCl (wMo T am mguests mclause mdeeds masked mupper mlower w73_mfinding mreadGuests misSight mat mrowSizes mrows mtextSizes mtexts mdoes mkinds msees mnow mbefore mkeeps mkept w73_mfindings mread maside msteps mtried mbest) H1 := hP1
              have hD : va_D A (wMo T am mguests mclause mdeeds masked mupper mlower w73_mfinding mreadGuests misSight mat mrowSizes mrows mtextSizes mtexts mdoes mkinds msees mnow mbefore mkeeps mkept w73_mfindings mread maside msteps mtried mbest) := hD1.weaken (fun _ q _ h => hFc q.1 h)
              generalize H1 = H at hP hS ⊢
              cases h
              exact hret _ _ _ _ hP hD hS dX6_evening_76
            · have h := br_0 h c57
              refine lv_aload_n hx hb dX6_evening_60 rfl (lv_at hl 0 rfl) ?_
              refine va_get (D := D) (ci := 4) (C := RX6) (T := TX6) (N := 27) hx hb hts iX6 hown hK hP 0 wMo_0 rfl 0 (by decide) q2 (fun _ h9 => h9) rfl dX6_evening_61 ?_
              refine lv_iload_n hx hb dX6_evening_64 rfl (lv_at hl 2 rfl) ?_
              obtain ⟨hin6, h⟩ := ck_some h
              refine va_iald hx hb hK hP 1 0 wMo_1 rfl hin6 dX6_evening_65 ?_
              refine lv_iconst (v := (2 : Int32)) hx hb dX6_evening_66 (by decide) ?_
              refine lv_irem hx hb dX6_evening_67 (by decide) ?_
              refine lv_if_eq (tgt := 77) hx hb dX6_evening_68 (by decide) (fun c68 => ?_) (fun c68 => ?_)
              · have h := br_1 h c68
                refine lv_iconst (v := (1 : Int32)) hx hb dX6_evening_77 (by decide) ?_
                refine lv_istore_n (lv' := [(3, .int (1 : Int32)), (0, .ref (am 0)), (1, .int x1), (2, .int x2)]) hx hb dX6_evening_78 rfl hl (by decide) rfl (fun ls hl => ?_)
                refine lv_iconst (v := (0 : Int32)) hx hb dX6_evening_79 (by decide) ?_
                refine lv_istore (lv' := [(4, .int (0 : Int32)), (3, .int (1 : Int32)), (0, .ref (am 0)), (1, .int x1), (2, .int x2)]) hx hb dX6_evening_80 hl (by decide) rfl (fun ls hl => ?_)
                exact l82 x2 mfinding mfindings F (1 : Int32) (0 : Int32) h _ _ hP hD hS _ (lv_sub hl [2, 4, 1, 0] rfl)
              · have h := br_0 h c68
                refine lv_aload_n hx hb dX6_evening_71 rfl (lv_at hl 0 rfl) ?_
                refine lv_iconst (v := (5 : Int32)) hx hb dX6_evening_72 (by decide) ?_
                obtain ⟨r73, w73_mfinding, w73_mfindings, hc, h⟩ := bd3_some h
                have hFc := my_freeS hD hS hA
                refine my_rwi (va_runV (As := [.int (5 : Int32)]) (rest := []) hFix (kX6_found l D T F am mguests mclause mdeeds masked mupper mlower mfinding mreadGuests misSight mat mrowSizes mrows mtextSizes mtexts mdoes mkinds msees mnow mbefore mkeeps mkept mfindings mread maside msteps mtried mbest (5 : Int32) r73 w73_mfinding w73_mfindings hc) (cwV 1 hts gX6_evening_X6_found rfl rfl rfl ⟨rfl, hd_X6_found⟩ ⟨Nat.le_of_ble_eq_true rfl, Nat.le_of_ble_eq_true rfl⟩) (preV_rw hP hKK hD (va_recv hK hP (ci := 4) (q0 := 0) rfl wMo_0)) rfl rfl hl.1 rfl (lv_room (Nat.le_of_ble_eq_true rfl)) dX6_evening_73 ⟨Nat.zero_le _, Nat.zero_le _⟩) hS hFc (fun H1 locs hP1 hD1 hz1 hk1 hS => ?_)
                have hP : va_P D vwCl (wMo T am mguests mclause mdeeds masked mupper mlower w73_mfinding mreadGuests misSight mat mrowSizes mrows mtextSizes mtexts mdoes mkinds msees mnow mbefore mkeeps mkept w73_mfindings mread maside msteps mtried mbest) H1 := hP1
                have hD : va_D A (wMo T am mguests mclause mdeeds masked mupper mlower w73_mfinding mreadGuests misSight mat mrowSizes mrows mtextSizes mtexts mdoes mkinds msees mnow mbefore mkeeps mkept w73_mfindings mread maside msteps mtried mbest) := hD1.weaken (fun _ q _ h => hFc q.1 h)
                generalize H1 = H at hP hS ⊢
                cases h
                exact hret _ _ _ _ hP hD hS dX6_evening_76
          · have h := br_0 h c40
            refine lv_aload_n hx hb dX6_evening_43 rfl (lv_at hl 0 rfl) ?_
            refine lv_iconst (v := (1 : Int32)) hx hb dX6_evening_44 (by decide) ?_
            obtain ⟨r45, w45_mfinding, w45_mfindings, hc, h⟩ := bd3_some h
            have hFc := my_freeS hD hS hA
            refine my_rwi (va_runV (As := [.int (1 : Int32)]) (rest := []) hFix (kX6_found l D T F am mguests mclause mdeeds masked mupper mlower mfinding mreadGuests misSight mat mrowSizes mrows mtextSizes mtexts mdoes mkinds msees mnow mbefore mkeeps mkept mfindings mread maside msteps mtried mbest (1 : Int32) r45 w45_mfinding w45_mfindings hc) (cwV 1 hts gX6_evening_X6_found rfl rfl rfl ⟨rfl, hd_X6_found⟩ ⟨Nat.le_of_ble_eq_true rfl, Nat.le_of_ble_eq_true rfl⟩) (preV_rw hP hKK hD (va_recv hK hP (ci := 4) (q0 := 0) rfl wMo_0)) rfl rfl hl.1 rfl (lv_room (Nat.le_of_ble_eq_true rfl)) dX6_evening_45 ⟨Nat.zero_le _, Nat.zero_le _⟩) hS hFc (fun H1 locs hP1 hD1 hz1 hk1 hS => ?_)
            have hP : va_P D vwCl (wMo T am mguests mclause mdeeds masked mupper mlower w45_mfinding mreadGuests misSight mat mrowSizes mrows mtextSizes mtexts mdoes mkinds msees mnow mbefore mkeeps mkept w45_mfindings mread maside msteps mtried mbest) H1 := hP1
            have hD : va_D A (wMo T am mguests mclause mdeeds masked mupper mlower w45_mfinding mreadGuests misSight mat mrowSizes mrows mtextSizes mtexts mdoes mkinds msees mnow mbefore mkeeps mkept w45_mfindings mread maside msteps mtried mbest) := hD1.weaken (fun _ q _ h => hFc q.1 h)
            generalize H1 = H at hP hS ⊢
            cases h
            exact hret _ _ _ _ hP hD hS dX6_evening_48
        · have h := br_0 h c28
          refine lv_bipush (v := (-4 : Int32)) hx hb dX6_evening_31 (by decide) ?_
          cases h
          exact hret _ _ _ _ hP hD hS dX6_evening_33
      · have h := br_1 h c12
        refine lv_iconst (v := (-1 : Int32)) hx hb dX6_evening_15 (by decide) ?_
        cases h
        exact hret _ _ _ _ hP hD hS dX6_evening_16
  exact key _ (fun H locs pc ls hP hD hS hd => W.iret hx hb hr (fun t ht hW => ⟨⟨_, (), rfl, rfl, by show _ ∧ _; rw [ht]; exact ⟨hP, hD⟩⟩, hS.F ht⟩) hS.2.2 hd)
set_option maxHeartbeats 4000000 in
set_option maxRecDepth 100000 in
theorem kX6_comesSo (l : Launch) (D : va_G) (T : Nat → ClassId) (F : Nat) (am : Nat → Nat) (mguests : Int32) (mclause : Int32) (mdeeds : Int32) (masked : Int32) (mupper : Int64) (mlower : Int64) (mfinding : Int32) (mreadGuests : Int32) (misSight : Int32) (mat : Int32) (mrowSizes : Nat → Int32) (mrows : Nat → Int32) (mtextSizes : Nat → Int32) (mtexts : Nat → Int32) (mdoes : Nat → Int32) (mkinds : Nat → Int32) (msees : Nat → Int32) (mnow : Nat → Int32) (mbefore : Nat → Int32) (mkeeps : Nat → Int32) (mkept : Nat → Int32) (mfindings : Nat → Int32) (mread : Nat → Int32) (maside : Nat → Int32) (msteps : Nat → Int32) (mtried : Nat → Int32) (mbest : Nat → Int32) (x1 : Int32) (x2 : Int32) (x3 : Int32) (r : Int32) (h : fX6_comesSo F mrowSizes mrows mdoes x1 x2 x3 = some (r)) : Met l yX6_comesSo wsX6_comesSo ({ frames := 2, cells := 0, slots := 0, locals := 45 } : Room) (va_Pc [.ref (am 0), .int x1, .int x2, .int x3] (fun U => va_P D vwCl (wMo T am mguests mclause mdeeds masked mupper mlower mfinding mreadGuests misSight mat mrowSizes mrows mtextSizes mtexts mdoes mkinds msees mnow mbefore mkeeps mkept mfindings mread maside msteps mtried mbest) U.heap ∧ KK D T U)) (vp_Si (fun r' => r' = r ∧ b01 r)) 0 0 (fun _ => False) := by
  refine Met.ofW (cc := cX6_comesSo) (maxL := 8) (ret := some .boolean) (by decide) rfl ?_
  intro p e s m args below meth c s₁ B hml hv
  obtain ⟨ha, hP, hKK⟩ := hv
  have hx := B.exec
  have hb := B.bytes
  have hr := B.returns
  have hts := atoms_spec (ws := wsX6_comesSo) B.pre
  have hown : s.vm.findClass RX6 = some m.cls := findClass_of_methodNamed B.named
  have hlocks := B.notSynchronized
  have hK := hKK.1
  have hFix : CallFix p m c cX6_comesSo 8 s args wsX6_comesSo RX6 := ⟨hx, hb, hml, hown, hts⟩
  have q1 := hts _ (List.mem_of_getElem? (i := 1) (show wsX6_comesSo[1]? = some (Cond.fieldLink RX6 7 "PartyWillModel" "rowSizes" "[I") from rfl))
  have q2 := hts _ (List.mem_of_getElem? (i := 2) (show wsX6_comesSo[2]? = some (Cond.fieldLink RX6 13 "PartyWillModel" "rows" "[I") from rfl))
  have q3 := hts _ (List.mem_of_getElem? (i := 3) (show wsX6_comesSo[3]? = some (Cond.fieldLink RX6 22 "PartyWillModel" "does" "[I") from rfl))
  have iX6 : ∀ w ∈ u_ws RX6 TX6 27, w ∈ wsX6_comesSo := fun w h => List.mem_cons_of_mem _ (List.mem_append_right _ (h))
  obtain ⟨ls, hl, e0⟩ := my_entry (m := m) (n := 8) ha (Nat.le_of_ble_eq_true rfl)
  rw [e0]
  have hl : lv_has ls 8 [(0, .ref (am 0)), (1, .int x1), (2, .int x2), (3, .int x3)] := hl
  have key : ∀ Q : State → Prop, (∀ (pc : Nat) (ls : Array Slot), decode cX6_comesSo pc = .ok (.ireturn, 1) → b01 r → W p l e ({ frames := 2, cells := 0, slots := 0, locals := 45 } : Room) s m args below meth c s.heap [] 0 0 Q (F0 m pc ls [.int r])) → W p l e ({ frames := 2, cells := 0, slots := 0, locals := 45 } : Room) s m args below meth c s.heap [] 0 0 Q (F0 m 0 ls []) := by
    intro Q hret
    have l9 : ∀ x1 : Int32, ∀ x3 : Int32, ∀ nu : Nat, ∀ x4 : Int32, ∀ x5 : Int32, ∀ x6 : Int32, fX6_comesSo_l9 F mrowSizes mrows mdoes x1 x3 nu x4 x5 x6 = some (r) → b01 x5 → ∀ (ls : Array Slot), lv_has ls 8 [(0, .ref (am 0)), (1, .int x1), (3, .int x3), (4, .int x4), (5, .int x5), (6, .int x6)] → W p l e ({ frames := 2, cells := 0, slots := 0, locals := 45 } : Room) s m args below meth c s.heap [] 0 0 Q (F0 m 9 ls []) := by
      intro x1 x3
      intro nu
      induction nu with
      | zero => intro x4 x5 x6 h; exact none_some h
      | succ nu9 ih9 =>
        intro x4 x5 x6 h hbx5 ls hl
        have h : fX6_comesSo_l9_b F mrowSizes mrows mdoes x1 x3 (fX6_comesSo_l9 F mrowSizes mrows mdoes x1 x3 nu9) x4 x5 x6 = some (r) := h
        unfold fX6_comesSo_l9_b at h
        refine lv_iload hx hb dX6_comesSo_9 (lv_at hl 5 rfl) ?_
        refine lv_aload_n hx hb dX6_comesSo_11 rfl (lv_at hl 0 rfl) ?_
        refine va_get (D := D) (ci := 4) (C := RX6) (T := TX6) (N := 27) hx hb hts iX6 hown hK hP 0 wMo_0 rfl 0 (by decide) q1 (fun _ h9 => h9) rfl dX6_comesSo_12 ?_
        refine lv_iload_n hx hb dX6_comesSo_15 rfl (lv_at hl 2 rfl) ?_
        obtain ⟨hin1, h⟩ := ck_some h
        refine va_iald hx hb hK hP 1 0 wMo_1 rfl hin1 dX6_comesSo_16 ?_
        refine lv_icmp_ge (tgt := 88) hx hb dX6_comesSo_17 (by decide) (fun c17 => ?_) (fun c17 => ?_)
        · have h := br_1 h c17
          refine lv_iload hx hb dX6_comesSo_88 (lv_at hl 4 rfl) ?_
          cases h
          exact hret _ _ dX6_comesSo_90 hbx5
        · have h := br_0 h c17
          refine lv_aload_n hx hb dX6_comesSo_20 rfl (lv_at hl 0 rfl) ?_
          refine va_get (D := D) (ci := 4) (C := RX6) (T := TX6) (N := 27) hx hb hts iX6 hown hK hP 0 wMo_0 rfl 1 (by decide) q2 (fun _ h9 => h9) rfl dX6_comesSo_21 ?_
          refine lv_bipush (v := (40 : Int32)) hx hb dX6_comesSo_24 (by decide) ?_
          refine lv_iload_n hx hb dX6_comesSo_26 rfl (lv_at hl 2 rfl) ?_
          refine lv_imul hx hb dX6_comesSo_27 ?_
          refine lv_iload hx hb dX6_comesSo_28 (lv_at hl 5 rfl) ?_
          refine lv_iadd hx hb dX6_comesSo_30 ?_
          obtain ⟨hin2, h⟩ := ck_some h
          refine va_iald hx hb hK hP 2 0 wMo_2 rfl hin2 dX6_comesSo_31 ?_
          refine lv_istore (lv' := [(7, .int (mrows (((40 : Int32) * x3) + x6).toNatClampNeg)), (0, .ref (am 0)), (1, .int x1), (3, .int x3), (4, .int x4), (5, .int x5), (6, .int x6)]) hx hb dX6_comesSo_32 hl (by decide) rfl (fun ls hl => ?_)
          refine lv_iload_n hx hb dX6_comesSo_34 rfl (lv_at hl 2 rfl) ?_
          refine lv_iload hx hb dX6_comesSo_35 (lv_at hl 4 rfl) ?_
          refine lv_iload hx hb dX6_comesSo_37 (lv_at hl 0 rfl) ?_
          refine lv_aload_n hx hb dX6_comesSo_39 rfl (lv_at hl 1 rfl) ?_
          refine va_get (D := D) (ci := 4) (C := RX6) (T := TX6) (N := 27) hx hb hts iX6 hown hK hP 0 wMo_0 rfl 6 (by decide) q3 (fun _ h9 => h9) rfl dX6_comesSo_40 ?_
          refine lv_iload hx hb dX6_comesSo_43 (lv_at hl 0 rfl) ?_
          obtain ⟨hin3, h⟩ := ck_some h
          refine va_iald hx hb hK hP 5 0 wMo_5 rfl hin3 dX6_comesSo_45 ?_
          obtain ⟨r46, hc, h⟩ := bd1_some h
          refine my_roi (va_Run.run (va_runS (As := [.int x1, .int x4, .int (mrows (((40 : Int32) * x3) + x6).toNatClampNeg), .int (mdoes (mrows (((40 : Int32) * x3) + x6).toNatClampNeg).toNatClampNeg)]) (rest := []) hFix (kX6_griefBehind l D T F x1 x4 (mrows (((40 : Int32) * x3) + x6).toNatClampNeg) (mdoes (mrows (((40 : Int32) * x3) + x6).toNatClampNeg).toNatClampNeg) r46 hc) (va_cwS 4 hts gX6_comesSo_X6_griefBehind rfl rfl rfl hd_X6_griefBehind ⟨Nat.le_of_ble_eq_true rfl, Nat.le_of_ble_eq_true rfl⟩) (preS_ro va_nil hKK) rfl rfl hl.1 rfl (lv_room (Nat.le_of_ble_eq_true rfl)) dX6_comesSo_46 ⟨Nat.zero_le _, Nat.zero_le _⟩)) ?_
          refine lv_istore (lv' := [(4, .int r46), (7, .int (mrows (((40 : Int32) * x3) + x6).toNatClampNeg)), (0, .ref (am 0)), (1, .int x1), (3, .int x3), (5, .int x5), (6, .int x6)]) hx hb dX6_comesSo_49 hl (by decide) rfl (fun ls hl => ?_)
          refine lv_iload hx hb dX6_comesSo_51 (lv_at hl 5 rfl) ?_
          refine lv_if_eq (tgt := 79) hx hb dX6_comesSo_53 (by decide) (fun c53 => ?_) (fun c53 => ?_)
          · have h := br_1 h c53
            refine lv_iconst (v := (0 : Int32)) hx hb dX6_comesSo_79 (by decide) ?_
            refine lv_istore (lv' := [(5, .int (0 : Int32)), (4, .int r46), (7, .int (mrows (((40 : Int32) * x3) + x6).toNatClampNeg)), (0, .ref (am 0)), (1, .int x1), (3, .int x3), (6, .int x6)]) hx hb dX6_comesSo_80 hl (by decide) rfl (fun ls hl => ?_)
            refine lv_iinc (v := (x6 + (2 : Int32))) (lv' := [(6, .int (x6 + (2 : Int32))), (5, .int (0 : Int32)), (4, .int r46), (7, .int (mrows (((40 : Int32) * x3) + x6).toNatClampNeg)), (0, .ref (am 0)), (1, .int x1), (3, .int x3)]) hx hb dX6_comesSo_82 hl (k := 6) rfl rfl (by decide) rfl (fun ls hl => ?_)
            refine lv_goto (tgt := 9) hx hb dX6_comesSo_85 (by decide) ?_
            exact ih9 r46 (0 : Int32) (x6 + (2 : Int32)) h (Or.inl rfl) _ (lv_sub hl [4, 5, 6, 2, 1, 0] rfl)
          · have h := br_0 h c53
            refine lv_iload hx hb dX6_comesSo_56 (lv_at hl 0 rfl) ?_
            refine lv_aload_n hx hb dX6_comesSo_58 rfl (lv_at hl 2 rfl) ?_
            refine va_get (D := D) (ci := 4) (C := RX6) (T := TX6) (N := 27) hx hb hts iX6 hown hK hP 0 wMo_0 rfl 1 (by decide) q2 (fun _ h9 => h9) rfl dX6_comesSo_59 ?_
            refine lv_bipush (v := (40 : Int32)) hx hb dX6_comesSo_62 (by decide) ?_
            refine lv_iload_n hx hb dX6_comesSo_64 rfl (lv_at hl 4 rfl) ?_
            refine lv_imul hx hb dX6_comesSo_65 ?_
            refine lv_iload hx hb dX6_comesSo_66 (lv_at hl 6 rfl) ?_
            refine lv_iadd hx hb dX6_comesSo_68 ?_
            refine lv_iconst (v := (1 : Int32)) hx hb dX6_comesSo_69 (by decide) ?_
            refine lv_iadd hx hb dX6_comesSo_70 ?_
            obtain ⟨hin4, h⟩ := ck_some h
            refine va_iald hx hb hK hP 2 0 wMo_2 rfl hin4 dX6_comesSo_71 ?_
            refine lv_icmp_ne (tgt := 79) hx hb dX6_comesSo_72 (by decide) (fun c72 => ?_) (fun c72 => ?_)
            · have h := br_0 h c72
              refine lv_iconst (v := (0 : Int32)) hx hb dX6_comesSo_79 (by decide) ?_
              refine lv_istore (lv' := [(5, .int (0 : Int32)), (4, .int r46), (7, .int (mrows (((40 : Int32) * x3) + x6).toNatClampNeg)), (0, .ref (am 0)), (1, .int x1), (3, .int x3), (6, .int x6)]) hx hb dX6_comesSo_80 hl (by decide) rfl (fun ls hl => ?_)
              refine lv_iinc (v := (x6 + (2 : Int32))) (lv' := [(6, .int (x6 + (2 : Int32))), (5, .int (0 : Int32)), (4, .int r46), (7, .int (mrows (((40 : Int32) * x3) + x6).toNatClampNeg)), (0, .ref (am 0)), (1, .int x1), (3, .int x3)]) hx hb dX6_comesSo_82 hl (k := 6) rfl rfl (by decide) rfl (fun ls hl => ?_)
              refine lv_goto (tgt := 9) hx hb dX6_comesSo_85 (by decide) ?_
              exact ih9 r46 (0 : Int32) (x6 + (2 : Int32)) h (Or.inl rfl) _ (lv_sub hl [4, 5, 6, 2, 1, 0] rfl)
            · have h := br_1 h c72
              refine lv_iconst (v := (1 : Int32)) hx hb dX6_comesSo_75 (by decide) ?_
              refine lv_goto (tgt := 80) hx hb dX6_comesSo_76 (by decide) ?_
              refine lv_istore (lv' := [(5, .int (1 : Int32)), (4, .int r46), (7, .int (mrows (((40 : Int32) * x3) + x6).toNatClampNeg)), (0, .ref (am 0)), (1, .int x1), (3, .int x3), (6, .int x6)]) hx hb dX6_comesSo_80 hl (by decide) rfl (fun ls hl => ?_)
              refine lv_iinc (v := (x6 + (2 : Int32))) (lv' := [(6, .int (x6 + (2 : Int32))), (5, .int (1 : Int32)), (4, .int r46), (7, .int (mrows (((40 : Int32) * x3) + x6).toNatClampNeg)), (0, .ref (am 0)), (1, .int x1), (3, .int x3)]) hx hb dX6_comesSo_82 hl (k := 6) rfl rfl (by decide) rfl (fun ls hl => ?_)
              refine lv_goto (tgt := 9) hx hb dX6_comesSo_85 (by decide) ?_
              exact ih9 r46 (1 : Int32) (x6 + (2 : Int32)) h (Or.inr rfl) _ (lv_sub hl [4, 5, 6, 2, 1, 0] rfl)
    unfold fX6_comesSo at h
    refine lv_iload_n hx hb dX6_comesSo_0 rfl (lv_at hl 2 rfl) ?_
    refine lv_istore (lv' := [(4, .int x2), (0, .ref (am 0)), (1, .int x1), (2, .int x2), (3, .int x3)]) hx hb dX6_comesSo_1 hl (by decide) rfl (fun ls hl => ?_)
    refine lv_iconst (v := (1 : Int32)) hx hb dX6_comesSo_3 (by decide) ?_
    refine lv_istore (lv' := [(5, .int (1 : Int32)), (4, .int x2), (0, .ref (am 0)), (1, .int x1), (2, .int x2), (3, .int x3)]) hx hb dX6_comesSo_4 hl (by decide) rfl (fun ls hl => ?_)
    refine lv_iconst (v := (0 : Int32)) hx hb dX6_comesSo_6 (by decide) ?_
    refine lv_istore (lv' := [(6, .int (0 : Int32)), (5, .int (1 : Int32)), (4, .int x2), (0, .ref (am 0)), (1, .int x1), (2, .int x2), (3, .int x3)]) hx hb dX6_comesSo_7 hl (by decide) rfl (fun ls hl => ?_)
    exact l9 x1 x3 F x2 (1 : Int32) (0 : Int32) h (Or.inr rfl) _ (lv_sub hl [3, 4, 6, 2, 1, 0] rfl)
  exact key _ (fun pc ls hd hb1 => W.zret hx hb hr (b01_n hb1) (fun t ht hW => ⟨_, rfl, ⟨rfl, hb1⟩, ht⟩) (fun q h => by cases h) hd)
set_option maxHeartbeats 4000000 in
set_option maxRecDepth 100000 in
theorem kX6_kinds (l : Launch) (D : va_G) (T : Nat → ClassId) (F : Nat) (am : Nat → Nat) (mguests : Int32) (mclause : Int32) (mdeeds : Int32) (masked : Int32) (mupper : Int64) (mlower : Int64) (mfinding : Int32) (mreadGuests : Int32) (misSight : Int32) (mat : Int32) (mrowSizes : Nat → Int32) (mrows : Nat → Int32) (mtextSizes : Nat → Int32) (mtexts : Nat → Int32) (mdoes : Nat → Int32) (mkinds : Nat → Int32) (msees : Nat → Int32) (mnow : Nat → Int32) (mbefore : Nat → Int32) (mkeeps : Nat → Int32) (mkept : Nat → Int32) (mfindings : Nat → Int32) (mread : Nat → Int32) (maside : Nat → Int32) (msteps : Nat → Int32) (mtried : Nat → Int32) (mbest : Nat → Int32) (x1 : Int32) (x2 : Int32) (r : Int32) (zmfinding : Int32) (zmfindings : Nat → Int32) (h : fX6_kinds F mguests mfinding mrowSizes mrows mdoes mnow mfindings x1 x2 = some (r, zmfinding, zmfindings)) : ∀ sz : Nat, Met l yX6_kinds wsX6_kinds ({ frames := 3, cells := 0, slots := 0, locals := 72 } : Room) (va_Pc [.ref (am 0), .int x1, .int x2] (fun U => U.heap.size = sz ∧ va_P D vwCl (wMo T am mguests mclause mdeeds masked mupper mlower mfinding mreadGuests misSight mat mrowSizes mrows mtextSizes mtexts mdoes mkinds msees mnow mbefore mkeeps mkept mfindings mread maside msteps mtried mbest) U.heap ∧ KK D T U ∧ va_D (fun _ => True) (wMo T am mguests mclause mdeeds masked mupper mlower mfinding mreadGuests misSight mat mrowSizes mrows mtextSizes mtexts mdoes mkinds msees mnow mbefore mkeeps mkept mfindings mread maside msteps mtried mbest))) (va_Qi (fun r' (_ : Unit) => r' = r) (fun _ t => va_P D vwCl (wMo T am mguests mclause mdeeds masked mupper mlower zmfinding mreadGuests misSight mat mrowSizes mrows mtextSizes mtexts mdoes mkinds msees mnow mbefore mkeeps mkept zmfindings mread maside msteps mtried mbest) t.heap ∧ va_D (va_A (wMo T am mguests mclause mdeeds masked mupper mlower mfinding mreadGuests misSight mat mrowSizes mrows mtextSizes mtexts mdoes mkinds msees mnow mbefore mkeeps mkept mfindings mread maside msteps mtried mbest) sz) (wMo T am mguests mclause mdeeds masked mupper mlower zmfinding mreadGuests misSight mat mrowSizes mrows mtextSizes mtexts mdoes mkinds msees mnow mbefore mkeeps mkept zmfindings mread maside msteps mtried mbest)) (va_A (wMo T am mguests mclause mdeeds masked mupper mlower mfinding mreadGuests misSight mat mrowSizes mrows mtextSizes mtexts mdoes mkinds msees mnow mbefore mkeeps mkept mfindings mread maside msteps mtried mbest) sz)) 0 0 (va_A (wMo T am mguests mclause mdeeds masked mupper mlower mfinding mreadGuests misSight mat mrowSizes mrows mtextSizes mtexts mdoes mkinds msees mnow mbefore mkeeps mkept mfindings mread maside msteps mtried mbest) sz) := by
  intro sz
  refine Met.ofW (cc := cX6_kinds) (maxL := 6) (ret := some .int) (by decide) rfl ?_
  intro p e s m args below meth c s₁ B hml hv
  obtain ⟨ha, hsz, hP, hKK, hD0⟩ := hv
  have hx := B.exec
  have hb := B.bytes
  have hr := B.returns
  have hts := atoms_spec (ws := wsX6_kinds) B.pre
  have hown : s.vm.findClass RX6 = some m.cls := findClass_of_methodNamed B.named
  have hlocks := B.notSynchronized
  have hK := hKK.1
  have hFix : CallFix p m c cX6_kinds 6 s args wsX6_kinds RX6 := ⟨hx, hb, hml, hown, hts⟩
  have q1 := hts _ (List.mem_of_getElem? (i := 1) (show wsX6_kinds[1]? = some (Cond.fieldLink RX6 31 "PartyWillModel" "now" "[I") from rfl))
  have iX6 : ∀ w ∈ u_ws RX6 TX6 27, w ∈ wsX6_kinds := fun w h => List.mem_cons_of_mem _ (List.mem_append_right _ (h))
  subst hsz
  have hD := hD0.self (sz := s.heap.size)
  generalize hAe : va_A (wMo T am mguests mclause mdeeds masked mupper mlower mfinding mreadGuests misSight mat mrowSizes mrows mtextSizes mtexts mdoes mkinds msees mnow mbefore mkeeps mkept mfindings mread maside msteps mtried mbest) s.heap.size = A at hD ⊢
  have hA : ∀ q : Nat, s.heap.size ≤ q → A q := fun q h => by rw [← hAe]; exact Or.inr h
  have hS : va_S A s.heap s.heap [] := va_S.rf
  have hP : va_P D vwCl (wMo T am mguests mclause mdeeds masked mupper mlower mfinding mreadGuests misSight mat mrowSizes mrows mtextSizes mtexts mdoes mkinds msees mnow mbefore mkeeps mkept mfindings mread maside msteps mtried mbest) s.heap := hP
  obtain ⟨ls, hl, e0⟩ := my_entry (m := m) (n := 6) ha (Nat.le_of_ble_eq_true rfl)
  rw [e0]
  have hl : lv_has ls 6 [(0, .ref (am 0)), (1, .int x1), (2, .int x2)] := hl
  have key : ∀ Q : State → Prop, (∀ (H : Heap) (locs : List Loc) (pc : Nat) (ls : Array Slot), va_P D vwCl (wMo T am mguests mclause mdeeds masked mupper mlower zmfinding mreadGuests misSight mat mrowSizes mrows mtextSizes mtexts mdoes mkinds msees mnow mbefore mkeeps mkept zmfindings mread maside msteps mtried mbest) H → va_D A (wMo T am mguests mclause mdeeds masked mupper mlower zmfinding mreadGuests misSight mat mrowSizes mrows mtextSizes mtexts mdoes mkinds msees mnow mbefore mkeeps mkept zmfindings mread maside msteps mtried mbest) → va_S A s.heap H locs → decode cX6_kinds pc = .ok (.ireturn, 1) → W p l e ({ frames := 3, cells := 0, slots := 0, locals := 72 } : Room) s m args below meth c H locs 0 0 Q (F0 m pc ls [.int r])) → W p l e ({ frames := 3, cells := 0, slots := 0, locals := 72 } : Room) s m args below meth c s.heap [] 0 0 Q (F0 m 0 ls []) := by
    intro Q hret
    skip
    have l19 : ∀ x1 : Int32, ∀ x2 : Int32, ∀ mfinding : Int32, ∀ mfindings : Nat → Int32, ∀ nu : Nat, ∀ x4 : Int32, ∀ x5 : Int32, fX6_kinds_l19 F mguests mrowSizes mrows mdoes mnow x1 x2 mfinding mfindings nu x4 x5 = some (r, zmfinding, zmfindings) → ∀ (H : Heap) (locs : List Loc), va_P D vwCl (wMo T am mguests mclause mdeeds masked mupper mlower mfinding mreadGuests misSight mat mrowSizes mrows mtextSizes mtexts mdoes mkinds msees mnow mbefore mkeeps mkept mfindings mread maside msteps mtried mbest) H → va_D A (wMo T am mguests mclause mdeeds masked mupper mlower mfinding mreadGuests misSight mat mrowSizes mrows mtextSizes mtexts mdoes mkinds msees mnow mbefore mkeeps mkept mfindings mread maside msteps mtried mbest) → va_S A s.heap H locs → ∀ (ls : Array Slot), lv_has ls 6 [(0, .ref (am 0)), (1, .int x1), (2, .int x2), (4, .int x4), (5, .int x5)] → W p l e ({ frames := 3, cells := 0, slots := 0, locals := 72 } : Room) s m args below meth c H locs 0 0 Q (F0 m 19 ls []) := by
      intro x1 x2 mfinding mfindings
      intro nu
      induction nu with
      | zero => intro x4 x5 h; exact none_some h
      | succ nu19 ih19 =>
        intro x4 x5 h H locs hP hD hS ls hl
        have h : fX6_kinds_l19_b F mguests mrowSizes mrows mdoes mnow x1 x2 mfinding mfindings (fX6_kinds_l19 F mguests mrowSizes mrows mdoes mnow x1 x2 mfinding mfindings nu19) x4 x5 = some (r, zmfinding, zmfindings) := h
        unfold fX6_kinds_l19_b at h
        refine lv_iload hx hb dX6_kinds_19 (lv_at hl 4 rfl) ?_
        refine lv_bipush (v := (6 : Int32)) hx hb dX6_kinds_21 (by decide) ?_
        refine lv_icmp_ge (tgt := 61) hx hb dX6_kinds_23 (by decide) (fun c23 => ?_) (fun c23 => ?_)
        · have h := br_1 h c23
          refine lv_iload hx hb dX6_kinds_61 (lv_at hl 3 rfl) ?_
          cases h
          exact hret _ _ _ _ hP hD hS dX6_kinds_63
        · have h := br_0 h c23
          refine lv_iload hx hb dX6_kinds_26 (lv_at hl 3 rfl) ?_
          refine lv_aload_n hx hb dX6_kinds_28 rfl (lv_at hl 0 rfl) ?_
          refine lv_iload hx hb dX6_kinds_29 (lv_at hl 4 rfl) ?_
          refine lv_aload_n hx hb dX6_kinds_31 rfl (lv_at hl 0 rfl) ?_
          refine va_get (D := D) (ci := 4) (C := RX6) (T := TX6) (N := 27) hx hb hts iX6 hown hK hP 0 wMo_0 rfl 9 (by decide) q1 (fun _ h9 => h9) rfl dX6_kinds_32 ?_
          refine lv_iload_n hx hb dX6_kinds_35 rfl (lv_at hl 1 rfl) ?_
          obtain ⟨hin1, h⟩ := ck_some h
          refine va_iald hx hb hK hP 8 0 wMo_8 rfl hin1 dX6_kinds_36 ?_
          refine lv_iload_n hx hb dX6_kinds_37 rfl (lv_at hl 2 rfl) ?_
          obtain ⟨r38, hc, h⟩ := bd1_some h
          refine my_roz (va_Run.run (va_runV (As := [.int x5, .int (mnow x1.toNatClampNeg), .int x2]) (rest := [.int x4]) hFix (kX6_comesSo l D T F am mguests mclause mdeeds masked mupper mlower mfinding mreadGuests misSight mat mrowSizes mrows mtextSizes mtexts mdoes mkinds msees mnow mbefore mkeeps mkept mfindings mread maside msteps mtried mbest x5 (mnow x1.toNatClampNeg) x2 r38 hc) (cwV 3 hts gX6_kinds_X6_comesSo rfl rfl rfl ⟨rfl, hd_X6_comesSo⟩ ⟨Nat.le_of_ble_eq_true rfl, Nat.le_of_ble_eq_true rfl⟩) (preV_ro hP hKK (va_recv hK hP (ci := 4) (q0 := 0) rfl wMo_0)) rfl rfl hl.1 rfl (lv_room (Nat.le_of_ble_eq_true rfl)) dX6_kinds_38 ⟨Nat.zero_le _, Nat.zero_le _⟩)) (fun hb38 => ?_)
          refine lv_if_eq (tgt := 51) hx hb dX6_kinds_41 (by decide) (fun c41 => ?_) (fun c41 => ?_)
          · have h := br_1 h c41
            refine lv_iconst (v := (0 : Int32)) hx hb dX6_kinds_51 (by decide) ?_
            refine lv_ior hx hb dX6_kinds_52 ?_
            refine lv_istore (lv' := [(4, .int (x4 ||| (0 : Int32))), (0, .ref (am 0)), (1, .int x1), (2, .int x2), (5, .int x5)]) hx hb dX6_kinds_53 hl (by decide) rfl (fun ls hl => ?_)
            refine lv_iinc (v := (x5 + (1 : Int32))) (lv' := [(5, .int (x5 + (1 : Int32))), (4, .int (x4 ||| (0 : Int32))), (0, .ref (am 0)), (1, .int x1), (2, .int x2)]) hx hb dX6_kinds_55 hl (k := 4) rfl rfl (by decide) rfl (fun ls hl => ?_)
            refine lv_goto (tgt := 19) hx hb dX6_kinds_58 (by decide) ?_
            exact ih19 (x4 ||| (0 : Int32)) (x5 + (1 : Int32)) h _ _ hP hD hS _ (lv_sub hl [2, 3, 4, 1, 0] rfl)
          · have h := br_0 h c41
            refine lv_iconst (v := (1 : Int32)) hx hb dX6_kinds_44 (by decide) ?_
            refine lv_iload hx hb dX6_kinds_45 (lv_at hl 4 rfl) ?_
            refine lv_ishl hx hb dX6_kinds_47 ?_
            refine lv_goto (tgt := 52) hx hb dX6_kinds_48 (by decide) ?_
            refine lv_ior hx hb dX6_kinds_52 ?_
            refine lv_istore (lv' := [(4, .int (x4 ||| ((1 : Int32) <<< (x5 &&& 31)))), (0, .ref (am 0)), (1, .int x1), (2, .int x2), (5, .int x5)]) hx hb dX6_kinds_53 hl (by decide) rfl (fun ls hl => ?_)
            refine lv_iinc (v := (x5 + (1 : Int32))) (lv' := [(5, .int (x5 + (1 : Int32))), (4, .int (x4 ||| ((1 : Int32) <<< (x5 &&& 31)))), (0, .ref (am 0)), (1, .int x1), (2, .int x2)]) hx hb dX6_kinds_55 hl (k := 4) rfl rfl (by decide) rfl (fun ls hl => ?_)
            refine lv_goto (tgt := 19) hx hb dX6_kinds_58 (by decide) ?_
            exact ih19 (x4 ||| ((1 : Int32) <<< (x5 &&& 31))) (x5 + (1 : Int32)) h _ _ hP hD hS _ (lv_sub hl [2, 3, 4, 1, 0] rfl)
    unfold fX6_kinds at h
    refine lv_aload_n hx hb dX6_kinds_0 rfl (lv_at hl 0 rfl) ?_
    refine lv_iload_n hx hb dX6_kinds_1 rfl (lv_at hl 1 rfl) ?_
    refine lv_iload_n hx hb dX6_kinds_2 rfl (lv_at hl 2 rfl) ?_
    obtain ⟨r3, w3_mfinding, w3_mfindings, hc, h⟩ := bd3_some h
    have hFc := my_freeS hD hS hA
    refine my_rwi (va_runV (As := [.int x1, .int x2]) (rest := []) hFix (kX6_evening l D T F am mguests mclause mdeeds masked mupper mlower mfinding mreadGuests misSight mat mrowSizes mrows mtextSizes mtexts mdoes mkinds msees mnow mbefore mkeeps mkept mfindings mread maside msteps mtried mbest x1 x2 r3 w3_mfinding w3_mfindings hc) (cwV 2 hts gX6_kinds_X6_evening rfl rfl rfl ⟨rfl, hd_X6_evening⟩ ⟨Nat.le_of_ble_eq_true rfl, Nat.le_of_ble_eq_true rfl⟩) (preV_rw hP hKK hD (va_recv hK hP (ci := 4) (q0 := 0) rfl wMo_0)) rfl rfl hl.1 rfl (lv_room (Nat.le_of_ble_eq_true rfl)) dX6_kinds_3 ⟨Nat.zero_le _, Nat.zero_le _⟩) hS hFc (fun H1 locs hP1 hD1 hz1 hk1 hS => ?_)
    have hP : va_P D vwCl (wMo T am mguests mclause mdeeds masked mupper mlower w3_mfinding mreadGuests misSight mat mrowSizes mrows mtextSizes mtexts mdoes mkinds msees mnow mbefore mkeeps mkept w3_mfindings mread maside msteps mtried mbest) H1 := hP1
    have hD : va_D A (wMo T am mguests mclause mdeeds masked mupper mlower w3_mfinding mreadGuests misSight mat mrowSizes mrows mtextSizes mtexts mdoes mkinds msees mnow mbefore mkeeps mkept w3_mfindings mread maside msteps mtried mbest) := hD1.weaken (fun _ q _ h => hFc q.1 h)
    generalize H1 = H at hP hS ⊢
    refine lv_istore_n (lv' := [(3, .int r3), (0, .ref (am 0)), (1, .int x1), (2, .int x2)]) hx hb dX6_kinds_6 rfl hl (by decide) rfl (fun ls hl => ?_)
    refine lv_iload_n hx hb dX6_kinds_7 rfl (lv_at hl 0 rfl) ?_
    refine lv_if_eq (tgt := 13) hx hb dX6_kinds_8 (by decide) (fun c8 => ?_) (fun c8 => ?_)
    · have h := br_1 h c8
      refine lv_iconst (v := (0 : Int32)) hx hb dX6_kinds_13 (by decide) ?_
      refine lv_istore (lv' := [(4, .int (0 : Int32)), (3, .int r3), (0, .ref (am 0)), (1, .int x1), (2, .int x2)]) hx hb dX6_kinds_14 hl (by decide) rfl (fun ls hl => ?_)
      refine lv_iconst (v := (0 : Int32)) hx hb dX6_kinds_16 (by decide) ?_
      refine lv_istore (lv' := [(5, .int (0 : Int32)), (4, .int (0 : Int32)), (3, .int r3), (0, .ref (am 0)), (1, .int x1), (2, .int x2)]) hx hb dX6_kinds_17 hl (by decide) rfl (fun ls hl => ?_)
      exact l19 x1 x2 w3_mfinding w3_mfindings F (0 : Int32) (0 : Int32) h _ _ hP hD hS _ (lv_sub hl [3, 4, 5, 1, 0] rfl)
    · have h := br_0 h c8
      refine lv_iload_n hx hb dX6_kinds_11 rfl (lv_at hl 0 rfl) ?_
      cases h
      exact hret _ _ _ _ hP hD hS dX6_kinds_12
  exact key _ (fun H locs pc ls hP hD hS hd => W.iret hx hb hr (fun t ht hW => ⟨⟨_, (), rfl, rfl, by show _ ∧ _; rw [ht]; exact ⟨hP, hD⟩⟩, hS.F ht⟩) hS.2.2 hd)
set_option maxHeartbeats 4000000 in
set_option maxRecDepth 100000 in
theorem kX6_came (l : Launch) (D : va_G) (T : Nat → ClassId) (F : Nat) (am : Nat → Nat) (mguests : Int32) (mclause : Int32) (mdeeds : Int32) (masked : Int32) (mupper : Int64) (mlower : Int64) (mfinding : Int32) (mreadGuests : Int32) (misSight : Int32) (mat : Int32) (mrowSizes : Nat → Int32) (mrows : Nat → Int32) (mtextSizes : Nat → Int32) (mtexts : Nat → Int32) (mdoes : Nat → Int32) (mkinds : Nat → Int32) (msees : Nat → Int32) (mnow : Nat → Int32) (mbefore : Nat → Int32) (mkeeps : Nat → Int32) (mkept : Nat → Int32) (mfindings : Nat → Int32) (mread : Nat → Int32) (maside : Nat → Int32) (msteps : Nat → Int32) (mtried : Nat → Int32) (mbest : Nat → Int32) (x1 : Int32) (x2 : Int32) (r : Int32) (zmfinding : Int32) (zmfindings : Nat → Int32) (h : fX6_came F mguests mfinding mrowSizes mrows mdoes mkinds mnow mfindings x1 x2 = some (r, zmfinding, zmfindings)) : ∀ sz : Nat, Met l yX6_came wsX6_came ({ frames := 3, cells := 0, slots := 0, locals := 72 } : Room) (va_Pc [.ref (am 0), .int x1, .int x2] (fun U => U.heap.size = sz ∧ va_P D vwCl (wMo T am mguests mclause mdeeds masked mupper mlower mfinding mreadGuests misSight mat mrowSizes mrows mtextSizes mtexts mdoes mkinds msees mnow mbefore mkeeps mkept mfindings mread maside msteps mtried mbest) U.heap ∧ KK D T U ∧ va_D (fun _ => True) (wMo T am mguests mclause mdeeds masked mupper mlower mfinding mreadGuests misSight mat mrowSizes mrows mtextSizes mtexts mdoes mkinds msees mnow mbefore mkeeps mkept mfindings mread maside msteps mtried mbest))) (va_Qi (fun r' (_ : Unit) => r' = r) (fun _ t => va_P D vwCl (wMo T am mguests mclause mdeeds masked mupper mlower zmfinding mreadGuests misSight mat mrowSizes mrows mtextSizes mtexts mdoes mkinds msees mnow mbefore mkeeps mkept zmfindings mread maside msteps mtried mbest) t.heap ∧ va_D (va_A (wMo T am mguests mclause mdeeds masked mupper mlower mfinding mreadGuests misSight mat mrowSizes mrows mtextSizes mtexts mdoes mkinds msees mnow mbefore mkeeps mkept mfindings mread maside msteps mtried mbest) sz) (wMo T am mguests mclause mdeeds masked mupper mlower zmfinding mreadGuests misSight mat mrowSizes mrows mtextSizes mtexts mdoes mkinds msees mnow mbefore mkeeps mkept zmfindings mread maside msteps mtried mbest)) (va_A (wMo T am mguests mclause mdeeds masked mupper mlower mfinding mreadGuests misSight mat mrowSizes mrows mtextSizes mtexts mdoes mkinds msees mnow mbefore mkeeps mkept mfindings mread maside msteps mtried mbest) sz)) 0 0 (va_A (wMo T am mguests mclause mdeeds masked mupper mlower mfinding mreadGuests misSight mat mrowSizes mrows mtextSizes mtexts mdoes mkinds msees mnow mbefore mkeeps mkept mfindings mread maside msteps mtried mbest) sz) := by
  intro sz
  refine Met.ofW (cc := cX6_came) (maxL := 6) (ret := some .int) (by decide) rfl ?_
  intro p e s m args below meth c s₁ B hml hv
  obtain ⟨ha, hsz, hP, hKK, hD0⟩ := hv
  have hx := B.exec
  have hb := B.bytes
  have hr := B.returns
  have hts := atoms_spec (ws := wsX6_came) B.pre
  have hown : s.vm.findClass RX6 = some m.cls := findClass_of_methodNamed B.named
  have hlocks := B.notSynchronized
  have hK := hKK.1
  have hFix : CallFix p m c cX6_came 6 s args wsX6_came RX6 := ⟨hx, hb, hml, hown, hts⟩
  have q1 := hts _ (List.mem_of_getElem? (i := 1) (show wsX6_came[1]? = some (Cond.fieldLink RX6 25 "PartyWillModel" "kinds" "[I") from rfl))
  have iX6 : ∀ w ∈ u_ws RX6 TX6 27, w ∈ wsX6_came := fun w h => List.mem_cons_of_mem _ (List.mem_append_right _ (h))
  subst hsz
  have hD := hD0.self (sz := s.heap.size)
  generalize hAe : va_A (wMo T am mguests mclause mdeeds masked mupper mlower mfinding mreadGuests misSight mat mrowSizes mrows mtextSizes mtexts mdoes mkinds msees mnow mbefore mkeeps mkept mfindings mread maside msteps mtried mbest) s.heap.size = A at hD ⊢
  have hA : ∀ q : Nat, s.heap.size ≤ q → A q := fun q h => by rw [← hAe]; exact Or.inr h
  have hS : va_S A s.heap s.heap [] := va_S.rf
  have hP : va_P D vwCl (wMo T am mguests mclause mdeeds masked mupper mlower mfinding mreadGuests misSight mat mrowSizes mrows mtextSizes mtexts mdoes mkinds msees mnow mbefore mkeeps mkept mfindings mread maside msteps mtried mbest) s.heap := hP
  obtain ⟨ls, hl, e0⟩ := my_entry (m := m) (n := 6) ha (Nat.le_of_ble_eq_true rfl)
  rw [e0]
  have hl : lv_has ls 6 [(0, .ref (am 0)), (1, .int x1), (2, .int x2)] := hl
  have key : ∀ Q : State → Prop, (∀ (H : Heap) (locs : List Loc) (pc : Nat) (ls : Array Slot), va_P D vwCl (wMo T am mguests mclause mdeeds masked mupper mlower zmfinding mreadGuests misSight mat mrowSizes mrows mtextSizes mtexts mdoes mkinds msees mnow mbefore mkeeps mkept zmfindings mread maside msteps mtried mbest) H → va_D A (wMo T am mguests mclause mdeeds masked mupper mlower zmfinding mreadGuests misSight mat mrowSizes mrows mtextSizes mtexts mdoes mkinds msees mnow mbefore mkeeps mkept zmfindings mread maside msteps mtried mbest) → va_S A s.heap H locs → decode cX6_came pc = .ok (.ireturn, 1) → W p l e ({ frames := 3, cells := 0, slots := 0, locals := 72 } : Room) s m args below meth c H locs 0 0 Q (F0 m pc ls [.int r])) → W p l e ({ frames := 3, cells := 0, slots := 0, locals := 72 } : Room) s m args below meth c s.heap [] 0 0 Q (F0 m 0 ls []) := by
    intro Q hret
    skip
    have l19 : ∀ x1 : Int32, ∀ x2 : Int32, ∀ mfinding : Int32, ∀ mfindings : Nat → Int32, ∀ nu : Nat, ∀ x4 : Int32, ∀ x5 : Int32, fX6_came_l19 F mguests mrowSizes mrows mdoes mkinds mnow x1 x2 mfinding mfindings nu x4 x5 = some (r, zmfinding, zmfindings) → ∀ (H : Heap) (locs : List Loc), va_P D vwCl (wMo T am mguests mclause mdeeds masked mupper mlower mfinding mreadGuests misSight mat mrowSizes mrows mtextSizes mtexts mdoes mkinds msees mnow mbefore mkeeps mkept mfindings mread maside msteps mtried mbest) H → va_D A (wMo T am mguests mclause mdeeds masked mupper mlower mfinding mreadGuests misSight mat mrowSizes mrows mtextSizes mtexts mdoes mkinds msees mnow mbefore mkeeps mkept mfindings mread maside msteps mtried mbest) → va_S A s.heap H locs → ∀ (ls : Array Slot), lv_has ls 6 [(0, .ref (am 0)), (1, .int x1), (2, .int x2), (4, .int x4), (5, .int x5)] → W p l e ({ frames := 3, cells := 0, slots := 0, locals := 72 } : Room) s m args below meth c H locs 0 0 Q (F0 m 19 ls []) := by
      intro x1 x2 mfinding mfindings
      intro nu
      induction nu with
      | zero => intro x4 x5 h; exact none_some h
      | succ nu19 ih19 =>
        intro x4 x5 h H locs hP hD hS ls hl
        have h : fX6_came_l19_b F mguests mrowSizes mrows mdoes mkinds mnow x1 x2 mfinding mfindings (fX6_came_l19 F mguests mrowSizes mrows mdoes mkinds mnow x1 x2 mfinding mfindings nu19) x4 x5 = some (r, zmfinding, zmfindings) := h
        unfold fX6_came_l19_b at h
        refine lv_iload hx hb dX6_came_19 (lv_at hl 4 rfl) ?_
        refine lv_bipush (v := (20 : Int32)) hx hb dX6_came_21 (by decide) ?_
        refine lv_icmp_gt (tgt := 61) hx hb dX6_came_23 (by decide) (fun c23 => ?_) (fun c23 => ?_)
        · have h := br_1 h c23
          refine lv_iload hx hb dX6_came_61 (lv_at hl 3 rfl) ?_
          cases h
          exact hret _ _ _ _ hP hD hS dX6_came_63
        · have h := br_0 h c23
          refine lv_iload hx hb dX6_came_26 (lv_at hl 3 rfl) ?_
          refine lv_aload_n hx hb dX6_came_28 rfl (lv_at hl 0 rfl) ?_
          refine lv_aload_n hx hb dX6_came_29 rfl (lv_at hl 0 rfl) ?_
          refine va_get (D := D) (ci := 4) (C := RX6) (T := TX6) (N := 27) hx hb hts iX6 hown hK hP 0 wMo_0 rfl 7 (by decide) q1 (fun _ h9 => h9) rfl dX6_came_30 ?_
          refine lv_iload_n hx hb dX6_came_33 rfl (lv_at hl 1 rfl) ?_
          obtain ⟨hin1, h⟩ := ck_some h
          refine va_iald hx hb hK hP 6 0 wMo_6 rfl hin1 dX6_came_34 ?_
          refine lv_iload hx hb dX6_came_35 (lv_at hl 4 rfl) ?_
          refine lv_iload_n hx hb dX6_came_37 rfl (lv_at hl 2 rfl) ?_
          obtain ⟨r38, hc, h⟩ := bd1_some h
          refine my_roz (va_Run.run (va_runV (As := [.int (mkinds x1.toNatClampNeg), .int x5, .int x2]) (rest := [.int x4]) hFix (kX6_comesSo l D T F am mguests mclause mdeeds masked mupper mlower mfinding mreadGuests misSight mat mrowSizes mrows mtextSizes mtexts mdoes mkinds msees mnow mbefore mkeeps mkept mfindings mread maside msteps mtried mbest (mkinds x1.toNatClampNeg) x5 x2 r38 hc) (cwV 3 hts gX6_came_X6_comesSo rfl rfl rfl ⟨rfl, hd_X6_comesSo⟩ ⟨Nat.le_of_ble_eq_true rfl, Nat.le_of_ble_eq_true rfl⟩) (preV_ro hP hKK (va_recv hK hP (ci := 4) (q0 := 0) rfl wMo_0)) rfl rfl hl.1 rfl (lv_room (Nat.le_of_ble_eq_true rfl)) dX6_came_38 ⟨Nat.zero_le _, Nat.zero_le _⟩)) (fun hb38 => ?_)
          refine lv_if_eq (tgt := 51) hx hb dX6_came_41 (by decide) (fun c41 => ?_) (fun c41 => ?_)
          · have h := br_1 h c41
            refine lv_iconst (v := (0 : Int32)) hx hb dX6_came_51 (by decide) ?_
            refine lv_ior hx hb dX6_came_52 ?_
            refine lv_istore (lv' := [(4, .int (x4 ||| (0 : Int32))), (0, .ref (am 0)), (1, .int x1), (2, .int x2), (5, .int x5)]) hx hb dX6_came_53 hl (by decide) rfl (fun ls hl => ?_)
            refine lv_iinc (v := (x5 + (1 : Int32))) (lv' := [(5, .int (x5 + (1 : Int32))), (4, .int (x4 ||| (0 : Int32))), (0, .ref (am 0)), (1, .int x1), (2, .int x2)]) hx hb dX6_came_55 hl (k := 4) rfl rfl (by decide) rfl (fun ls hl => ?_)
            refine lv_goto (tgt := 19) hx hb dX6_came_58 (by decide) ?_
            exact ih19 (x4 ||| (0 : Int32)) (x5 + (1 : Int32)) h _ _ hP hD hS _ (lv_sub hl [2, 3, 4, 1, 0] rfl)
          · have h := br_0 h c41
            refine lv_iconst (v := (1 : Int32)) hx hb dX6_came_44 (by decide) ?_
            refine lv_iload hx hb dX6_came_45 (lv_at hl 4 rfl) ?_
            refine lv_ishl hx hb dX6_came_47 ?_
            refine lv_goto (tgt := 52) hx hb dX6_came_48 (by decide) ?_
            refine lv_ior hx hb dX6_came_52 ?_
            refine lv_istore (lv' := [(4, .int (x4 ||| ((1 : Int32) <<< (x5 &&& 31)))), (0, .ref (am 0)), (1, .int x1), (2, .int x2), (5, .int x5)]) hx hb dX6_came_53 hl (by decide) rfl (fun ls hl => ?_)
            refine lv_iinc (v := (x5 + (1 : Int32))) (lv' := [(5, .int (x5 + (1 : Int32))), (4, .int (x4 ||| ((1 : Int32) <<< (x5 &&& 31)))), (0, .ref (am 0)), (1, .int x1), (2, .int x2)]) hx hb dX6_came_55 hl (k := 4) rfl rfl (by decide) rfl (fun ls hl => ?_)
            refine lv_goto (tgt := 19) hx hb dX6_came_58 (by decide) ?_
            exact ih19 (x4 ||| ((1 : Int32) <<< (x5 &&& 31))) (x5 + (1 : Int32)) h _ _ hP hD hS _ (lv_sub hl [2, 3, 4, 1, 0] rfl)
    unfold fX6_came at h
    refine lv_aload_n hx hb dX6_came_0 rfl (lv_at hl 0 rfl) ?_
    refine lv_iload_n hx hb dX6_came_1 rfl (lv_at hl 1 rfl) ?_
    refine lv_iload_n hx hb dX6_came_2 rfl (lv_at hl 2 rfl) ?_
    obtain ⟨r3, w3_mfinding, w3_mfindings, hc, h⟩ := bd3_some h
    have hFc := my_freeS hD hS hA
    refine my_rwi (va_runV (As := [.int x1, .int x2]) (rest := []) hFix (kX6_evening l D T F am mguests mclause mdeeds masked mupper mlower mfinding mreadGuests misSight mat mrowSizes mrows mtextSizes mtexts mdoes mkinds msees mnow mbefore mkeeps mkept mfindings mread maside msteps mtried mbest x1 x2 r3 w3_mfinding w3_mfindings hc) (cwV 2 hts gX6_came_X6_evening rfl rfl rfl ⟨rfl, hd_X6_evening⟩ ⟨Nat.le_of_ble_eq_true rfl, Nat.le_of_ble_eq_true rfl⟩) (preV_rw hP hKK hD (va_recv hK hP (ci := 4) (q0 := 0) rfl wMo_0)) rfl rfl hl.1 rfl (lv_room (Nat.le_of_ble_eq_true rfl)) dX6_came_3 ⟨Nat.zero_le _, Nat.zero_le _⟩) hS hFc (fun H1 locs hP1 hD1 hz1 hk1 hS => ?_)
    have hP : va_P D vwCl (wMo T am mguests mclause mdeeds masked mupper mlower w3_mfinding mreadGuests misSight mat mrowSizes mrows mtextSizes mtexts mdoes mkinds msees mnow mbefore mkeeps mkept w3_mfindings mread maside msteps mtried mbest) H1 := hP1
    have hD : va_D A (wMo T am mguests mclause mdeeds masked mupper mlower w3_mfinding mreadGuests misSight mat mrowSizes mrows mtextSizes mtexts mdoes mkinds msees mnow mbefore mkeeps mkept w3_mfindings mread maside msteps mtried mbest) := hD1.weaken (fun _ q _ h => hFc q.1 h)
    generalize H1 = H at hP hS ⊢
    refine lv_istore_n (lv' := [(3, .int r3), (0, .ref (am 0)), (1, .int x1), (2, .int x2)]) hx hb dX6_came_6 rfl hl (by decide) rfl (fun ls hl => ?_)
    refine lv_iload_n hx hb dX6_came_7 rfl (lv_at hl 0 rfl) ?_
    refine lv_if_eq (tgt := 13) hx hb dX6_came_8 (by decide) (fun c8 => ?_) (fun c8 => ?_)
    · have h := br_1 h c8
      refine lv_iconst (v := (0 : Int32)) hx hb dX6_came_13 (by decide) ?_
      refine lv_istore (lv' := [(4, .int (0 : Int32)), (3, .int r3), (0, .ref (am 0)), (1, .int x1), (2, .int x2)]) hx hb dX6_came_14 hl (by decide) rfl (fun ls hl => ?_)
      refine lv_iconst (v := (0 : Int32)) hx hb dX6_came_16 (by decide) ?_
      refine lv_istore (lv' := [(5, .int (0 : Int32)), (4, .int (0 : Int32)), (3, .int r3), (0, .ref (am 0)), (1, .int x1), (2, .int x2)]) hx hb dX6_came_17 hl (by decide) rfl (fun ls hl => ?_)
      exact l19 x1 x2 w3_mfinding w3_mfindings F (0 : Int32) (0 : Int32) h _ _ hP hD hS _ (lv_sub hl [3, 4, 5, 1, 0] rfl)
    · have h := br_0 h c8
      refine lv_iload_n hx hb dX6_came_11 rfl (lv_at hl 0 rfl) ?_
      cases h
      exact hret _ _ _ _ hP hD hS dX6_came_12
  exact key _ (fun H locs pc ls hP hD hS hd => W.iret hx hb hr (fun t ht hW => ⟨⟨_, (), rfl, rfl, by show _ ∧ _; rw [ht]; exact ⟨hP, hD⟩⟩, hS.F ht⟩) hS.2.2 hd)
set_option maxHeartbeats 4000000 in
set_option maxRecDepth 100000 in
theorem kX6_did (l : Launch) (D : va_G) (T : Nat → ClassId) (F : Nat) (am : Nat → Nat) (mguests : Int32) (mclause : Int32) (mdeeds : Int32) (masked : Int32) (mupper : Int64) (mlower : Int64) (mfinding : Int32) (mreadGuests : Int32) (misSight : Int32) (mat : Int32) (mrowSizes : Nat → Int32) (mrows : Nat → Int32) (mtextSizes : Nat → Int32) (mtexts : Nat → Int32) (mdoes : Nat → Int32) (mkinds : Nat → Int32) (msees : Nat → Int32) (mnow : Nat → Int32) (mbefore : Nat → Int32) (mkeeps : Nat → Int32) (mkept : Nat → Int32) (mfindings : Nat → Int32) (mread : Nat → Int32) (maside : Nat → Int32) (msteps : Nat → Int32) (mtried : Nat → Int32) (mbest : Nat → Int32) (x1 : Int32) (x2 : Int32) (x3 : Int32) (x4 : Int32) (r : Int32) (h : fX6_did F mguests mkinds x1 x2 x3 x4 = some (r)) : Met l yX6_did wsX6_did ({ frames := 2, cells := 0, slots := 0, locals := 46 } : Room) (va_Pc [.ref (am 0), .int x1, .int x2, .int x3, .int x4] (fun U => va_P D vwCl (wMo T am mguests mclause mdeeds masked mupper mlower mfinding mreadGuests misSight mat mrowSizes mrows mtextSizes mtexts mdoes mkinds msees mnow mbefore mkeeps mkept mfindings mread maside msteps mtried mbest) U.heap ∧ KK D T U)) (vp_Si (fun r' => r' = r)) 0 0 (fun _ => False) := by
  refine Met.ofW (cc := cX6_did) (maxL := 7) (ret := some .int) (by decide) rfl ?_
  intro p e s m args below meth c s₁ B hml hv
  obtain ⟨ha, hP, hKK⟩ := hv
  have hx := B.exec
  have hb := B.bytes
  have hr := B.returns
  have hts := atoms_spec (ws := wsX6_did) B.pre
  have hown : s.vm.findClass RX6 = some m.cls := findClass_of_methodNamed B.named
  have hlocks := B.notSynchronized
  have hK := hKK.1
  have hFix : CallFix p m c cX6_did 7 s args wsX6_did RX6 := ⟨hx, hb, hml, hown, hts⟩
  have q1 := hts _ (List.mem_of_getElem? (i := 1) (show wsX6_did[1]? = some (Cond.constantLong RX6 252 (20)) from rfl))
  have q2 := hts _ (List.mem_of_getElem? (i := 2) (show wsX6_did[2]? = some (Cond.fieldLink RX6 25 "PartyWillModel" "kinds" "[I") from rfl))
  have iX6 : ∀ w ∈ u_ws RX6 TX6 27, w ∈ wsX6_did := fun w h => List.mem_cons_of_mem _ (List.mem_append_right _ (h))
  obtain ⟨ls, hl, e0⟩ := my_entry (m := m) (n := 7) ha (Nat.le_of_ble_eq_true rfl)
  rw [e0]
  have hl : lv_has ls 7 [(0, .ref (am 0)), (1, .int x1), (2, .int x2), (3, .int x3), (4, .int x4)] := hl
  have key : ∀ Q : State → Prop, (∀ (pc : Nat) (ls : Array Slot), decode cX6_did pc = .ok (.ireturn, 1) → W p l e ({ frames := 2, cells := 0, slots := 0, locals := 46 } : Room) s m args below meth c s.heap [] 0 0 Q (F0 m pc ls [.int r])) → W p l e ({ frames := 2, cells := 0, slots := 0, locals := 46 } : Room) s m args below meth c s.heap [] 0 0 Q (F0 m 0 ls []) := by
    intro Q hret
    have l48 : ∀ x1 : Int32, ∀ x2 : Int32, ∀ x3 : Int32, ∀ x4 : Int32, ∀ nu : Nat, ∀ x5 : Int32, ∀ x6 : Int32, fX6_did_l48 F mguests mkinds x1 x2 x3 x4 nu x5 x6 = some (r) → ∀ (ls : Array Slot), lv_has ls 7 [(0, .ref (am 0)), (1, .int x1), (2, .int x2), (3, .int x3), (4, .int x4), (5, .int x5), (6, .int x6)] → W p l e ({ frames := 2, cells := 0, slots := 0, locals := 46 } : Room) s m args below meth c s.heap [] 0 0 Q (F0 m 48 ls []) := by
      intro x1 x2 x3 x4
      intro nu
      induction nu with
      | zero => intro x5 x6 h; exact none_some h
      | succ nu48 ih48 =>
        intro x5 x6 h ls hl
        have h : fX6_did_l48_b F mguests mkinds x1 x2 x3 x4 (fX6_did_l48 F mguests mkinds x1 x2 x3 x4 nu48) x5 x6 = some (r) := h
        unfold fX6_did_l48_b at h
        refine lv_iload hx hb dX6_did_48 (lv_at hl 6 rfl) ?_
        refine lv_bipush (v := (10 : Int32)) hx hb dX6_did_50 (by decide) ?_
        refine lv_icmp_ge (tgt := 94) hx hb dX6_did_52 (by decide) (fun c52 => ?_) (fun c52 => ?_)
        · have h := br_1 h c52
          refine lv_iload hx hb dX6_did_94 (lv_at hl 5 rfl) ?_
          cases h
          exact hret _ _ dX6_did_96
        · have h := br_0 h c52
          refine lv_iload hx hb dX6_did_55 (lv_at hl 5 rfl) ?_
          refine lv_aload_n hx hb dX6_did_57 rfl (lv_at hl 0 rfl) ?_
          refine va_get (D := D) (ci := 4) (C := RX6) (T := TX6) (N := 27) hx hb hts iX6 hown hK hP 0 wMo_0 rfl 7 (by decide) q2 (fun _ h9 => h9) rfl dX6_did_58 ?_
          refine lv_iload_n hx hb dX6_did_61 rfl (lv_at hl 1 rfl) ?_
          obtain ⟨hin1, h⟩ := ck_some h
          refine va_iald hx hb hK hP 6 0 wMo_6 rfl hin1 dX6_did_62 ?_
          refine lv_iload_n hx hb dX6_did_63 rfl (lv_at hl 3 rfl) ?_
          refine lv_iload_n hx hb dX6_did_64 rfl (lv_at hl 2 rfl) ?_
          refine lv_iload hx hb dX6_did_65 (lv_at hl 6 rfl) ?_
          refine lv_iconst (v := (4 : Int32)) hx hb dX6_did_67 (by decide) ?_
          refine lv_isub hx hb dX6_did_68 ?_
          obtain ⟨r69, hc, h⟩ := bd1_some h
          refine my_roi (va_Run.run (va_runS (As := [.int (mkinds x1.toNatClampNeg), .int x3, .int x2, .int (x6 - (4 : Int32))]) (rest := [.int x5]) hFix (kX6_griefBehind l D T F (mkinds x1.toNatClampNeg) x3 x2 (x6 - (4 : Int32)) r69 hc) (va_cwS 4 hts gX6_did_X6_griefBehind rfl rfl rfl hd_X6_griefBehind ⟨Nat.le_of_ble_eq_true rfl, Nat.le_of_ble_eq_true rfl⟩) (preS_ro va_nil hKK) rfl rfl hl.1 rfl (lv_room (Nat.le_of_ble_eq_true rfl)) dX6_did_69 ⟨Nat.zero_le _, Nat.zero_le _⟩)) ?_
          refine lv_iload hx hb dX6_did_72 (lv_at hl 4 rfl) ?_
          refine lv_icmp_ne (tgt := 84) hx hb dX6_did_74 (by decide) (fun c74 => ?_) (fun c74 => ?_)
          · have h := br_0 h c74
            refine lv_iconst (v := (0 : Int32)) hx hb dX6_did_84 (by decide) ?_
            refine lv_ior hx hb dX6_did_85 ?_
            refine lv_istore (lv' := [(5, .int (x5 ||| (0 : Int32))), (0, .ref (am 0)), (1, .int x1), (2, .int x2), (3, .int x3), (4, .int x4), (6, .int x6)]) hx hb dX6_did_86 hl (by decide) rfl (fun ls hl => ?_)
            refine lv_iinc (v := (x6 + (1 : Int32))) (lv' := [(6, .int (x6 + (1 : Int32))), (5, .int (x5 ||| (0 : Int32))), (0, .ref (am 0)), (1, .int x1), (2, .int x2), (3, .int x3), (4, .int x4)]) hx hb dX6_did_88 hl (k := 6) rfl rfl (by decide) rfl (fun ls hl => ?_)
            refine lv_goto (tgt := 48) hx hb dX6_did_91 (by decide) ?_
            exact ih48 (x5 ||| (0 : Int32)) (x6 + (1 : Int32)) h _ (lv_sub hl [2, 3, 4, 5, 6, 1, 0] rfl)
          · have h := br_1 h c74
            refine lv_iconst (v := (1 : Int32)) hx hb dX6_did_77 (by decide) ?_
            refine lv_iload hx hb dX6_did_78 (lv_at hl 6 rfl) ?_
            refine lv_ishl hx hb dX6_did_80 ?_
            refine lv_goto (tgt := 85) hx hb dX6_did_81 (by decide) ?_
            refine lv_ior hx hb dX6_did_85 ?_
            refine lv_istore (lv' := [(5, .int (x5 ||| ((1 : Int32) <<< (x6 &&& 31)))), (0, .ref (am 0)), (1, .int x1), (2, .int x2), (3, .int x3), (4, .int x4), (6, .int x6)]) hx hb dX6_did_86 hl (by decide) rfl (fun ls hl => ?_)
            refine lv_iinc (v := (x6 + (1 : Int32))) (lv' := [(6, .int (x6 + (1 : Int32))), (5, .int (x5 ||| ((1 : Int32) <<< (x6 &&& 31)))), (0, .ref (am 0)), (1, .int x1), (2, .int x2), (3, .int x3), (4, .int x4)]) hx hb dX6_did_88 hl (k := 6) rfl rfl (by decide) rfl (fun ls hl => ?_)
            refine lv_goto (tgt := 48) hx hb dX6_did_91 (by decide) ?_
            exact ih48 (x5 ||| ((1 : Int32) <<< (x6 &&& 31))) (x6 + (1 : Int32)) h _ (lv_sub hl [2, 3, 4, 5, 6, 1, 0] rfl)
    unfold fX6_did at h
    refine lv_aload_n hx hb dX6_did_0 rfl (lv_at hl 0 rfl) ?_
    refine lv_iload_n hx hb dX6_did_1 rfl (lv_at hl 1 rfl) ?_
    obtain ⟨r2, hc, h⟩ := bd1_some h
    refine my_roz (va_Run.run (va_runV (As := [.int x1]) (rest := []) hFix (kX6_isGuest l D T F am mguests mclause mdeeds masked mupper mlower mfinding mreadGuests misSight mat mrowSizes mrows mtextSizes mtexts mdoes mkinds msees mnow mbefore mkeeps mkept mfindings mread maside msteps mtried mbest x1 r2 hc) (cwV 1 hts gX6_did_X6_isGuest rfl rfl rfl ⟨rfl, hd_X6_isGuest⟩ ⟨Nat.le_of_ble_eq_true rfl, Nat.le_of_ble_eq_true rfl⟩) (preV_ro hP hKK (va_recv hK hP (ci := 4) (q0 := 0) rfl wMo_0)) rfl rfl hl.1 rfl (lv_room (Nat.le_of_ble_eq_true rfl)) dX6_did_2 ⟨Nat.zero_le _, Nat.zero_le _⟩)) (fun hb2 => ?_)
    refine lv_if_eq (tgt := 40) hx hb dX6_did_5 (by decide) (fun c5 => ?_) (fun c5 => ?_)
    · have h := br_1 h c5
      refine lv_iconst (v := (-1 : Int32)) hx hb dX6_did_40 (by decide) ?_
      cases h
      exact hret _ _ dX6_did_41
    · have h := br_0 h c5
      refine lv_iload_n hx hb dX6_did_8 rfl (lv_at hl 2 rfl) ?_
      obtain ⟨r9, hc, h⟩ := bd1_some h
      refine my_roz (va_Run.run (va_runS (As := [.int x2]) (rest := []) hFix (kX6_isTune l D T F x2 r9 hc) (va_cwS 1 hts gX6_did_X6_isTune rfl rfl rfl hd_X6_isTune ⟨Nat.le_of_ble_eq_true rfl, Nat.le_of_ble_eq_true rfl⟩) (preS_ro va_nil hKK) rfl rfl hl.1 rfl (lv_room (Nat.le_of_ble_eq_true rfl)) dX6_did_9 ⟨Nat.zero_le _, Nat.zero_le _⟩)) (fun hb9 => ?_)
      refine lv_if_eq (tgt := 40) hx hb dX6_did_12 (by decide) (fun c12 => ?_) (fun c12 => ?_)
      · have h := br_1 h c12
        refine lv_iconst (v := (-1 : Int32)) hx hb dX6_did_40 (by decide) ?_
        cases h
        exact hret _ _ dX6_did_41
      · have h := br_0 h c12
        refine lv_iload_n hx hb dX6_did_15 rfl (lv_at hl 3 rfl) ?_
        refine lv_i2l (v := (x3.toInt64)) hx hb dX6_did_16 rfl ?_
        refine lv_lconst (v := (0 : Int64)) hx hb dX6_did_17 (by decide) ?_
        refine lv_ldc2 (v := (20 : Int64)) hx hb hown q1 dX6_did_18 ?_
        obtain ⟨r21, hc, h⟩ := bd1_some h
        refine my_roz (va_Run.run (va_runS (As := [.long (x3.toInt64), .long (0 : Int64), .long (20 : Int64)]) (rest := []) hFix (kX6_in l D T F (x3.toInt64) (0 : Int64) (20 : Int64) r21 hc) (va_cwS 3 hts gX6_did_X6_in rfl rfl rfl hd_X6_in ⟨Nat.le_of_ble_eq_true rfl, Nat.le_of_ble_eq_true rfl⟩) (preS_ro va_nil hKK) rfl rfl hl.1 rfl (lv_room (Nat.le_of_ble_eq_true rfl)) dX6_did_21 ⟨Nat.zero_le _, Nat.zero_le _⟩)) (fun hb21 => ?_)
        refine lv_if_eq (tgt := 40) hx hb dX6_did_24 (by decide) (fun c24 => ?_) (fun c24 => ?_)
        · have h := br_1 h c24
          refine lv_iconst (v := (-1 : Int32)) hx hb dX6_did_40 (by decide) ?_
          cases h
          exact hret _ _ dX6_did_41
        · have h := br_0 h c24
          refine lv_iload hx hb dX6_did_27 (lv_at hl 4 rfl) ?_
          refine lv_i2l (v := (x4.toInt64)) hx hb dX6_did_29 rfl ?_
          refine lv_lconst (v := (0 : Int64)) hx hb dX6_did_30 (by decide) ?_
          refine lv_ldc2 (v := (20 : Int64)) hx hb hown q1 dX6_did_31 ?_
          obtain ⟨r34, hc, h⟩ := bd1_some h
          refine my_roz (va_Run.run (va_runS (As := [.long (x4.toInt64), .long (0 : Int64), .long (20 : Int64)]) (rest := []) hFix (kX6_in l D T F (x4.toInt64) (0 : Int64) (20 : Int64) r34 hc) (va_cwS 3 hts gX6_did_X6_in rfl rfl rfl hd_X6_in ⟨Nat.le_of_ble_eq_true rfl, Nat.le_of_ble_eq_true rfl⟩) (preS_ro va_nil hKK) rfl rfl hl.1 rfl (lv_room (Nat.le_of_ble_eq_true rfl)) dX6_did_34 ⟨Nat.zero_le _, Nat.zero_le _⟩)) (fun hb34 => ?_)
          refine lv_if_ne (tgt := 42) hx hb dX6_did_37 (by decide) (fun c37 => ?_) (fun c37 => ?_)
          · have h := br_0 h c37
            refine lv_iconst (v := (0 : Int32)) hx hb dX6_did_42 (by decide) ?_
            refine lv_istore (lv' := [(5, .int (0 : Int32)), (0, .ref (am 0)), (1, .int x1), (2, .int x2), (3, .int x3), (4, .int x4)]) hx hb dX6_did_43 hl (by decide) rfl (fun ls hl => ?_)
            refine lv_iconst (v := (0 : Int32)) hx hb dX6_did_45 (by decide) ?_
            refine lv_istore (lv' := [(6, .int (0 : Int32)), (5, .int (0 : Int32)), (0, .ref (am 0)), (1, .int x1), (2, .int x2), (3, .int x3), (4, .int x4)]) hx hb dX6_did_46 hl (by decide) rfl (fun ls hl => ?_)
            exact l48 x1 x2 x3 x4 F (0 : Int32) (0 : Int32) h _ (lv_sub hl [2, 3, 4, 5, 6, 1, 0] rfl)
          · have h := br_1 h c37
            refine lv_iconst (v := (-1 : Int32)) hx hb dX6_did_40 (by decide) ?_
            cases h
            exact hret _ _ dX6_did_41
  exact key _ (fun pc ls hd => W.iret hx hb hr (fun t ht hW => ⟨_, rfl, rfl, ht⟩) (fun q h => by cases h) hd)
set_option maxHeartbeats 4000000 in
set_option maxRecDepth 100000 in
theorem kX6_wept (l : Launch) (D : va_G) (T : Nat → ClassId) (F : Nat) (am : Nat → Nat) (mguests : Int32) (mclause : Int32) (mdeeds : Int32) (masked : Int32) (mupper : Int64) (mlower : Int64) (mfinding : Int32) (mreadGuests : Int32) (misSight : Int32) (mat : Int32) (mrowSizes : Nat → Int32) (mrows : Nat → Int32) (mtextSizes : Nat → Int32) (mtexts : Nat → Int32) (mdoes : Nat → Int32) (mkinds : Nat → Int32) (msees : Nat → Int32) (mnow : Nat → Int32) (mbefore : Nat → Int32) (mkeeps : Nat → Int32) (mkept : Nat → Int32) (mfindings : Nat → Int32) (mread : Nat → Int32) (maside : Nat → Int32) (msteps : Nat → Int32) (mtried : Nat → Int32) (mbest : Nat → Int32) (x1 : Int32) (r : Int32) (h : fX6_wept F mguests msees mnow x1 = some (r)) : Met l yX6_wept wsX6_wept ({ frames := 2, cells := 0, slots := 0, locals := 45 } : Room) (va_Pc [.ref (am 0), .int x1] (fun U => va_P D vwCl (wMo T am mguests mclause mdeeds masked mupper mlower mfinding mreadGuests misSight mat mrowSizes mrows mtextSizes mtexts mdoes mkinds msees mnow mbefore mkeeps mkept mfindings mread maside msteps mtried mbest) U.heap ∧ KK D T U)) (vp_Si (fun r' => r' = r)) 0 0 (fun _ => False) := by
  refine Met.ofW (cc := cX6_wept) (maxL := 6) (ret := some .int) (by decide) rfl ?_
  intro p e s m args below meth c s₁ B hml hv
  obtain ⟨ha, hP, hKK⟩ := hv
  have hx := B.exec
  have hb := B.bytes
  have hr := B.returns
  have hts := atoms_spec (ws := wsX6_wept) B.pre
  have hown : s.vm.findClass RX6 = some m.cls := findClass_of_methodNamed B.named
  have hlocks := B.notSynchronized
  have hK := hKK.1
  have hFix : CallFix p m c cX6_wept 6 s args wsX6_wept RX6 := ⟨hx, hb, hml, hown, hts⟩
  have q1 := hts _ (List.mem_of_getElem? (i := 1) (show wsX6_wept[1]? = some (Cond.fieldLink RX6 31 "PartyWillModel" "now" "[I") from rfl))
  have q2 := hts _ (List.mem_of_getElem? (i := 2) (show wsX6_wept[2]? = some (Cond.fieldLink RX6 131 "PartyWillModel" "guests" "I") from rfl))
  have iX6 : ∀ w ∈ u_ws RX6 TX6 27, w ∈ wsX6_wept := fun w h => List.mem_cons_of_mem _ (List.mem_append_right _ (h))
  obtain ⟨ls, hl, e0⟩ := my_entry (m := m) (n := 6) ha (Nat.le_of_ble_eq_true rfl)
  rw [e0]
  have hl : lv_has ls 6 [(0, .ref (am 0)), (1, .int x1)] := hl
  have key : ∀ Q : State → Prop, (∀ (pc : Nat) (ls : Array Slot), decode cX6_wept pc = .ok (.ireturn, 1) → W p l e ({ frames := 2, cells := 0, slots := 0, locals := 45 } : Room) s m args below meth c s.heap [] 0 0 Q (F0 m pc ls [.int r])) → W p l e ({ frames := 2, cells := 0, slots := 0, locals := 45 } : Room) s m args below meth c s.heap [] 0 0 Q (F0 m 0 ls []) := by
    intro Q hret
    have l30 : ∀ x1 : Int32, ∀ x2 : Int32, ∀ nu : Nat, ∀ x3 : Int32, ∀ x4 : Int32, fX6_wept_l30 F mguests msees mnow x1 x2 nu x3 x4 = some (r) → ∀ (ls : Array Slot), lv_has ls 6 [(0, .ref (am 0)), (1, .int x1), (2, .int x2), (3, .int x3), (4, .int x4)] → W p l e ({ frames := 2, cells := 0, slots := 0, locals := 45 } : Room) s m args below meth c s.heap [] 0 0 Q (F0 m 30 ls []) := by
      intro x1 x2
      intro nu
      induction nu with
      | zero => intro x3 x4 h; exact none_some h
      | succ nu30 ih30 =>
        intro x3 x4 h ls hl
        have n79 : ∀ s_0 : Int32, ∀ x1 : Int32, ∀ x2 : Int32, ∀ x3 : Int32, ∀ x4 : Int32, fX6_wept_n79 F (fX6_wept_l30 F mguests msees mnow x1 x2 nu30) mguests msees mnow s_0 x1 x2 x3 x4 = some (r) → ∀ (ls : Array Slot), lv_has ls 6 [(0, .ref (am 0)), (1, .int x1), (2, .int x2), (3, .int x3), (4, .int x4)] → W p l e ({ frames := 2, cells := 0, slots := 0, locals := 45 } : Room) s m args below meth c s.heap [] 0 0 Q (F0 m 79 ls [.int s_0]) := by
          intro s_0 x1 x2 x3 x4 h ls hl
          unfold fX6_wept_n79 at h
          refine lv_istore (lv' := [(5, .int s_0), (0, .ref (am 0)), (1, .int x1), (2, .int x2), (3, .int x3), (4, .int x4)]) hx hb dX6_wept_79 hl (by decide) rfl (fun ls hl => ?_)
          refine lv_iload_n hx hb dX6_wept_81 rfl (lv_at hl 4 rfl) ?_
          refine lv_iload hx hb dX6_wept_82 (lv_at hl 0 rfl) ?_
          refine lv_if_eq (tgt := 94) hx hb dX6_wept_84 (by decide) (fun c84 => ?_) (fun c84 => ?_)
          · have h := br_1 h c84
            refine lv_iconst (v := (0 : Int32)) hx hb dX6_wept_94 (by decide) ?_
            refine lv_ior hx hb dX6_wept_95 ?_
            refine lv_istore_n (lv' := [(3, .int (x3 ||| (0 : Int32))), (5, .int s_0), (0, .ref (am 0)), (1, .int x1), (2, .int x2), (4, .int x4)]) hx hb dX6_wept_96 rfl hl (by decide) rfl (fun ls hl => ?_)
            refine lv_iinc (v := (x4 + (1 : Int32))) (lv' := [(4, .int (x4 + (1 : Int32))), (3, .int (x3 ||| (0 : Int32))), (5, .int s_0), (0, .ref (am 0)), (1, .int x1), (2, .int x2)]) hx hb dX6_wept_97 hl (k := 5) rfl rfl (by decide) rfl (fun ls hl => ?_)
            refine lv_goto (tgt := 30) hx hb dX6_wept_100 (by decide) ?_
            exact ih30 (x3 ||| (0 : Int32)) (x4 + (1 : Int32)) h _ (lv_sub hl [3, 4, 5, 1, 0] rfl)
          · have h := br_0 h c84
            refine lv_iconst (v := (1 : Int32)) hx hb dX6_wept_87 (by decide) ?_
            refine lv_iload hx hb dX6_wept_88 (lv_at hl 5 rfl) ?_
            refine lv_ishl hx hb dX6_wept_90 ?_
            refine lv_goto (tgt := 95) hx hb dX6_wept_91 (by decide) ?_
            refine lv_ior hx hb dX6_wept_95 ?_
            refine lv_istore_n (lv' := [(3, .int (x3 ||| ((1 : Int32) <<< (x4 &&& 31)))), (5, .int s_0), (0, .ref (am 0)), (1, .int x1), (2, .int x2), (4, .int x4)]) hx hb dX6_wept_96 rfl hl (by decide) rfl (fun ls hl => ?_)
            refine lv_iinc (v := (x4 + (1 : Int32))) (lv' := [(4, .int (x4 + (1 : Int32))), (3, .int (x3 ||| ((1 : Int32) <<< (x4 &&& 31)))), (5, .int s_0), (0, .ref (am 0)), (1, .int x1), (2, .int x2)]) hx hb dX6_wept_97 hl (k := 5) rfl rfl (by decide) rfl (fun ls hl => ?_)
            refine lv_goto (tgt := 30) hx hb dX6_wept_100 (by decide) ?_
            exact ih30 (x3 ||| ((1 : Int32) <<< (x4 &&& 31))) (x4 + (1 : Int32)) h _ (lv_sub hl [3, 4, 5, 1, 0] rfl)
        have h : fX6_wept_l30_b F mguests msees mnow x1 x2 (fX6_wept_l30 F mguests msees mnow x1 x2 nu30) x3 x4 = some (r) := h
        unfold fX6_wept_l30_b at h
        refine lv_iload hx hb dX6_wept_30 (lv_at hl 4 rfl) ?_
        refine lv_aload_n hx hb dX6_wept_32 rfl (lv_at hl 0 rfl) ?_
        refine va_get (D := D) (ci := 4) (C := RX6) (T := TX6) (N := 27) hx hb hts iX6 hown hK hP 0 wMo_0 rfl 4 (by decide) q2 (fun _ h9 => h9) rfl dX6_wept_33 ?_
        refine lv_icmp_ge (tgt := 103) hx hb dX6_wept_36 (by decide) (fun c36 => ?_) (fun c36 => ?_)
        · have h := br_1 h c36
          refine lv_iload_n hx hb dX6_wept_103 rfl (lv_at hl 3 rfl) ?_
          cases h
          exact hret _ _ dX6_wept_104
        · have h := br_0 h c36
          refine lv_iload_n hx hb dX6_wept_39 rfl (lv_at hl 2 rfl) ?_
          refine lv_iload hx hb dX6_wept_40 (lv_at hl 4 rfl) ?_
          obtain ⟨r42, hc, h⟩ := bd1_some h
          refine my_roz (va_Run.run (va_runS (As := [.int x2, .int x4]) (rest := []) hFix (kX6_has l D T F x2 x4 r42 hc) (va_cwS 2 hts gX6_wept_X6_has rfl rfl rfl hd_X6_has ⟨Nat.le_of_ble_eq_true rfl, Nat.le_of_ble_eq_true rfl⟩) (preS_ro va_nil hKK) rfl rfl hl.1 rfl (lv_room (Nat.le_of_ble_eq_true rfl)) dX6_wept_42 ⟨Nat.zero_le _, Nat.zero_le _⟩)) (fun hb42 => ?_)
          refine lv_if_eq (tgt := 78) hx hb dX6_wept_45 (by decide) (fun c45 => ?_) (fun c45 => ?_)
          · have h := br_1 h c45
            refine lv_iconst (v := (0 : Int32)) hx hb dX6_wept_78 (by decide) ?_
            exact n79 (0 : Int32) x1 x2 x3 x4 h _ (lv_sub hl [0, 1, 2, 3, 4] rfl)
          · have h := br_0 h c45
            refine lv_aload_n hx hb dX6_wept_48 rfl (lv_at hl 0 rfl) ?_
            refine lv_iload hx hb dX6_wept_49 (lv_at hl 4 rfl) ?_
            refine lv_iload_n hx hb dX6_wept_51 rfl (lv_at hl 2 rfl) ?_
            refine lv_iload_n hx hb dX6_wept_52 rfl (lv_at hl 1 rfl) ?_
            refine lv_iand hx hb dX6_wept_53 ?_
            obtain ⟨r54, hc, h⟩ := bd1_some h
            have hPc : va_P D vwCl (wMs T am mguests mclause mdeeds masked mupper mlower mfinding mreadGuests misSight mat msees) s.heap := my_subP sb_wMo_wMs_0_7 hP
            refine my_roz (va_Run.run (va_runV (As := [.int x4, .int (x2 &&& x1)]) (rest := []) hFix (kX6_isSeen l D T F am mguests mclause mdeeds masked mupper mlower mfinding mreadGuests misSight mat msees x4 (x2 &&& x1) r54 hc) (cwV 2 hts gX6_wept_X6_isSeen rfl rfl rfl ⟨rfl, hd_X6_isSeen⟩ ⟨Nat.le_of_ble_eq_true rfl, Nat.le_of_ble_eq_true rfl⟩) (preV_ro hPc hKK (va_recv hK hP (ci := 4) (q0 := 0) rfl wMo_0)) rfl rfl hl.1 rfl (lv_room (Nat.le_of_ble_eq_true rfl)) dX6_wept_54 ⟨Nat.zero_le _, Nat.zero_le _⟩)) (fun hb54 => ?_)
            refine lv_if_eq (tgt := 78) hx hb dX6_wept_57 (by decide) (fun c57 => ?_) (fun c57 => ?_)
            · have h := br_1 h c57
              refine lv_iconst (v := (0 : Int32)) hx hb dX6_wept_78 (by decide) ?_
              exact n79 (0 : Int32) x1 x2 x3 x4 h _ (lv_sub hl [0, 1, 2, 3, 4] rfl)
            · have h := br_0 h c57
              refine lv_aload_n hx hb dX6_wept_60 rfl (lv_at hl 0 rfl) ?_
              refine lv_iload hx hb dX6_wept_61 (lv_at hl 4 rfl) ?_
              refine lv_iload_n hx hb dX6_wept_63 rfl (lv_at hl 2 rfl) ?_
              refine lv_iload_n hx hb dX6_wept_64 rfl (lv_at hl 1 rfl) ?_
              refine lv_iconst (v := (-1 : Int32)) hx hb dX6_wept_65 (by decide) ?_
              refine lv_ixor hx hb dX6_wept_66 ?_
              refine lv_iand hx hb dX6_wept_67 ?_
              obtain ⟨r68, hc, h⟩ := bd1_some h
              have hPc : va_P D vwCl (wMs T am mguests mclause mdeeds masked mupper mlower mfinding mreadGuests misSight mat msees) s.heap := my_subP sb_wMo_wMs_0_7 hP
              refine my_roz (va_Run.run (va_runV (As := [.int x4, .int (x2 &&& (x1 ^^^ (-1 : Int32)))]) (rest := []) hFix (kX6_isSeen l D T F am mguests mclause mdeeds masked mupper mlower mfinding mreadGuests misSight mat msees x4 (x2 &&& (x1 ^^^ (-1 : Int32))) r68 hc) (cwV 2 hts gX6_wept_X6_isSeen rfl rfl rfl ⟨rfl, hd_X6_isSeen⟩ ⟨Nat.le_of_ble_eq_true rfl, Nat.le_of_ble_eq_true rfl⟩) (preV_ro hPc hKK (va_recv hK hP (ci := 4) (q0 := 0) rfl wMo_0)) rfl rfl hl.1 rfl (lv_room (Nat.le_of_ble_eq_true rfl)) dX6_wept_68 ⟨Nat.zero_le _, Nat.zero_le _⟩)) (fun hb68 => ?_)
              refine lv_if_ne (tgt := 78) hx hb dX6_wept_71 (by decide) (fun c71 => ?_) (fun c71 => ?_)
              · have h := br_0 h c71
                refine lv_iconst (v := (0 : Int32)) hx hb dX6_wept_78 (by decide) ?_
                exact n79 (0 : Int32) x1 x2 x3 x4 h _ (lv_sub hl [0, 1, 2, 3, 4] rfl)
              · have h := br_1 h c71
                refine lv_iconst (v := (1 : Int32)) hx hb dX6_wept_74 (by decide) ?_
                refine lv_goto (tgt := 79) hx hb dX6_wept_75 (by decide) ?_
                exact n79 (1 : Int32) x1 x2 x3 x4 h _ (lv_sub hl [0, 1, 2, 3, 4] rfl)
    unfold fX6_wept at h
    refine lv_iload_n hx hb dX6_wept_0 rfl (lv_at hl 1 rfl) ?_
    refine lv_i2l (v := (x1.toInt64)) hx hb dX6_wept_1 rfl ?_
    refine lv_lconst (v := (0 : Int64)) hx hb dX6_wept_2 (by decide) ?_
    refine lv_aload_n hx hb dX6_wept_3 rfl (lv_at hl 0 rfl) ?_
    obtain ⟨r4, hc, h⟩ := bd1_some h
    have hPc : va_P D vwCl (wM0 T am mguests mclause mdeeds masked mupper mlower mfinding mreadGuests misSight mat) s.heap := my_subP sb_wMo_wM0_0 hP
    refine my_roi (va_Run.run (va_runV (As := []) (rest := [.long (0 : Int64), .long (x1.toInt64)]) hFix (kX6_everybody l D T F am mguests mclause mdeeds masked mupper mlower mfinding mreadGuests misSight mat r4 hc) (cwV 0 hts gX6_wept_X6_everybody rfl rfl rfl ⟨rfl, hd_X6_everybody⟩ ⟨Nat.le_of_ble_eq_true rfl, Nat.le_of_ble_eq_true rfl⟩) (preV_ro hPc hKK (va_recv hK hP (ci := 4) (q0 := 0) rfl wMo_0)) rfl rfl hl.1 rfl (lv_room (Nat.le_of_ble_eq_true rfl)) dX6_wept_4 ⟨Nat.zero_le _, Nat.zero_le _⟩)) ?_
    refine lv_i2l (v := (r4.toInt64)) hx hb dX6_wept_7 rfl ?_
    obtain ⟨r8, hc, h⟩ := bd1_some h
    refine my_roz (va_Run.run (va_runS (As := [.long (x1.toInt64), .long (0 : Int64), .long (r4.toInt64)]) (rest := []) hFix (kX6_in l D T F (x1.toInt64) (0 : Int64) (r4.toInt64) r8 hc) (va_cwS 3 hts gX6_wept_X6_in rfl rfl rfl hd_X6_in ⟨Nat.le_of_ble_eq_true rfl, Nat.le_of_ble_eq_true rfl⟩) (preS_ro va_nil hKK) rfl rfl hl.1 rfl (lv_room (Nat.le_of_ble_eq_true rfl)) dX6_wept_8 ⟨Nat.zero_le _, Nat.zero_le _⟩)) (fun hb8 => ?_)
    refine lv_if_ne (tgt := 16) hx hb dX6_wept_11 (by decide) (fun c11 => ?_) (fun c11 => ?_)
    · have h := br_0 h c11
      refine lv_aload_n hx hb dX6_wept_16 rfl (lv_at hl 0 rfl) ?_
      refine lv_aload_n hx hb dX6_wept_17 rfl (lv_at hl 0 rfl) ?_
      refine va_get (D := D) (ci := 4) (C := RX6) (T := TX6) (N := 27) hx hb hts iX6 hown hK hP 0 wMo_0 rfl 9 (by decide) q1 (fun _ h9 => h9) rfl dX6_wept_18 ?_
      obtain ⟨r21, hc, h⟩ := bd1_some h
      have hPc : va_P D vwCl (wMi T am (am 8) mguests mclause mdeeds masked mupper mlower mfinding mreadGuests misSight mat mnow) s.heap := my_subP sb_wMo_wMi_0_8 hP
      refine my_roi (va_Run.run (va_runV (As := [.ref (am 8)]) (rest := []) hFix (kX6_inside l D T F am (am 8) mguests mclause mdeeds masked mupper mlower mfinding mreadGuests misSight mat mnow r21 hc) (cwV 1 hts gX6_wept_X6_inside rfl rfl rfl ⟨rfl, hd_X6_inside⟩ ⟨Nat.le_of_ble_eq_true rfl, Nat.le_of_ble_eq_true rfl⟩) (preV_ro hPc hKK (va_recv hK hP (ci := 4) (q0 := 0) rfl wMo_0)) rfl rfl hl.1 rfl (lv_room (Nat.le_of_ble_eq_true rfl)) dX6_wept_21 ⟨Nat.zero_le _, Nat.zero_le _⟩)) ?_
      refine lv_istore_n (lv' := [(2, .int r21), (0, .ref (am 0)), (1, .int x1)]) hx hb dX6_wept_24 rfl hl (by decide) rfl (fun ls hl => ?_)
      refine lv_iconst (v := (0 : Int32)) hx hb dX6_wept_25 (by decide) ?_
      refine lv_istore_n (lv' := [(3, .int (0 : Int32)), (2, .int r21), (0, .ref (am 0)), (1, .int x1)]) hx hb dX6_wept_26 rfl hl (by decide) rfl (fun ls hl => ?_)
      refine lv_iconst (v := (0 : Int32)) hx hb dX6_wept_27 (by decide) ?_
      refine lv_istore (lv' := [(4, .int (0 : Int32)), (3, .int (0 : Int32)), (2, .int r21), (0, .ref (am 0)), (1, .int x1)]) hx hb dX6_wept_28 hl (by decide) rfl (fun ls hl => ?_)
      exact l30 x1 r21 F (0 : Int32) (0 : Int32) h _ (lv_sub hl [3, 4, 2, 1, 0] rfl)
    · have h := br_1 h c11
      refine lv_iconst (v := (-1 : Int32)) hx hb dX6_wept_14 (by decide) ?_
      cases h
      exact hret _ _ dX6_wept_15
  exact key _ (fun pc ls hd => W.iret hx hb hr (fun t ht hW => ⟨_, rfl, rfl, ht⟩) (fun q h => by cases h) hd)
set_option maxHeartbeats 4000000 in
set_option maxRecDepth 100000 in
theorem kX6_gets (l : Launch) (D : va_G) (T : Nat → ClassId) (F : Nat) (am : Nat → Nat) (mguests : Int32) (mclause : Int32) (mdeeds : Int32) (masked : Int32) (mupper : Int64) (mlower : Int64) (mfinding : Int32) (mreadGuests : Int32) (misSight : Int32) (mat : Int32) (mrowSizes : Nat → Int32) (mrows : Nat → Int32) (mtextSizes : Nat → Int32) (mtexts : Nat → Int32) (mdoes : Nat → Int32) (mkinds : Nat → Int32) (msees : Nat → Int32) (mnow : Nat → Int32) (mbefore : Nat → Int32) (mkeeps : Nat → Int32) (mkept : Nat → Int32) (mfindings : Nat → Int32) (mread : Nat → Int32) (maside : Nat → Int32) (msteps : Nat → Int32) (mtried : Nat → Int32) (mbest : Nat → Int32) (x1 : Int32) (x2 : Int32) (r : Int32) (h : fX6_gets F mguests mnow x1 x2 = some (r)) : Met l yX6_gets wsX6_gets ({ frames := 2, cells := 0, slots := 0, locals := 46 } : Room) (va_Pc [.ref (am 0), .int x1, .int x2] (fun U => va_P D vwCl (wMo T am mguests mclause mdeeds masked mupper mlower mfinding mreadGuests misSight mat mrowSizes mrows mtextSizes mtexts mdoes mkinds msees mnow mbefore mkeeps mkept mfindings mread maside msteps mtried mbest) U.heap ∧ KK D T U)) (vp_Si (fun r' => r' = r)) 0 0 (fun _ => False) := by
  refine Met.ofW (cc := cX6_gets) (maxL := 6) (ret := some .int) (by decide) rfl ?_
  intro p e s m args below meth c s₁ B hml hv
  obtain ⟨ha, hP, hKK⟩ := hv
  have hx := B.exec
  have hb := B.bytes
  have hr := B.returns
  have hts := atoms_spec (ws := wsX6_gets) B.pre
  have hown : s.vm.findClass RX6 = some m.cls := findClass_of_methodNamed B.named
  have hlocks := B.notSynchronized
  have hK := hKK.1
  have hFix : CallFix p m c cX6_gets 6 s args wsX6_gets RX6 := ⟨hx, hb, hml, hown, hts⟩
  have q1 := hts _ (List.mem_of_getElem? (i := 1) (show wsX6_gets[1]? = some (Cond.constantLong RX6 260 (999)) from rfl))
  have q2 := hts _ (List.mem_of_getElem? (i := 2) (show wsX6_gets[2]? = some (Cond.fieldLink RX6 31 "PartyWillModel" "now" "[I") from rfl))
  have iX6 : ∀ w ∈ u_ws RX6 TX6 27, w ∈ wsX6_gets := fun w h => List.mem_cons_of_mem _ (List.mem_append_right _ (h))
  obtain ⟨ls, hl, e0⟩ := my_entry (m := m) (n := 6) ha (Nat.le_of_ble_eq_true rfl)
  rw [e0]
  have hl : lv_has ls 6 [(0, .ref (am 0)), (1, .int x1), (2, .int x2)] := hl
  have key : ∀ Q : State → Prop, (∀ (pc : Nat) (ls : Array Slot), decode cX6_gets pc = .ok (.ireturn, 1) → W p l e ({ frames := 2, cells := 0, slots := 0, locals := 46 } : Room) s m args below meth c s.heap [] 0 0 Q (F0 m pc ls [.int r])) → W p l e ({ frames := 2, cells := 0, slots := 0, locals := 46 } : Room) s m args below meth c s.heap [] 0 0 Q (F0 m 0 ls []) := by
    intro Q hret
    unfold fX6_gets at h
    refine lv_aload_n hx hb dX6_gets_0 rfl (lv_at hl 0 rfl) ?_
    refine lv_iload_n hx hb dX6_gets_1 rfl (lv_at hl 1 rfl) ?_
    obtain ⟨r2, hc, h⟩ := bd1_some h
    refine my_roz (va_Run.run (va_runV (As := [.int x1]) (rest := []) hFix (kX6_isGuest l D T F am mguests mclause mdeeds masked mupper mlower mfinding mreadGuests misSight mat mrowSizes mrows mtextSizes mtexts mdoes mkinds msees mnow mbefore mkeeps mkept mfindings mread maside msteps mtried mbest x1 r2 hc) (cwV 1 hts gX6_gets_X6_isGuest rfl rfl rfl ⟨rfl, hd_X6_isGuest⟩ ⟨Nat.le_of_ble_eq_true rfl, Nat.le_of_ble_eq_true rfl⟩) (preV_ro hP hKK (va_recv hK hP (ci := 4) (q0 := 0) rfl wMo_0)) rfl rfl hl.1 rfl (lv_room (Nat.le_of_ble_eq_true rfl)) dX6_gets_2 ⟨Nat.zero_le _, Nat.zero_le _⟩)) (fun hb2 => ?_)
    refine lv_if_eq (tgt := 20) hx hb dX6_gets_5 (by decide) (fun c5 => ?_) (fun c5 => ?_)
    · have h := br_1 h c5
      refine lv_iconst (v := (-1 : Int32)) hx hb dX6_gets_20 (by decide) ?_
      cases h
      exact hret _ _ dX6_gets_21
    · have h := br_0 h c5
      refine lv_iload_n hx hb dX6_gets_8 rfl (lv_at hl 2 rfl) ?_
      refine lv_i2l (v := (x2.toInt64)) hx hb dX6_gets_9 rfl ?_
      refine lv_lconst (v := (1 : Int64)) hx hb dX6_gets_10 (by decide) ?_
      refine lv_ldc2 (v := (999 : Int64)) hx hb hown q1 dX6_gets_11 ?_
      obtain ⟨r14, hc, h⟩ := bd1_some h
      refine my_roz (va_Run.run (va_runS (As := [.long (x2.toInt64), .long (1 : Int64), .long (999 : Int64)]) (rest := []) hFix (kX6_in l D T F (x2.toInt64) (1 : Int64) (999 : Int64) r14 hc) (va_cwS 3 hts gX6_gets_X6_in rfl rfl rfl hd_X6_in ⟨Nat.le_of_ble_eq_true rfl, Nat.le_of_ble_eq_true rfl⟩) (preS_ro va_nil hKK) rfl rfl hl.1 rfl (lv_room (Nat.le_of_ble_eq_true rfl)) dX6_gets_14 ⟨Nat.zero_le _, Nat.zero_le _⟩)) (fun hb14 => ?_)
      refine lv_if_ne (tgt := 22) hx hb dX6_gets_17 (by decide) (fun c17 => ?_) (fun c17 => ?_)
      · have h := br_0 h c17
        refine lv_aload_n hx hb dX6_gets_22 rfl (lv_at hl 0 rfl) ?_
        refine lv_aload_n hx hb dX6_gets_23 rfl (lv_at hl 0 rfl) ?_
        refine va_get (D := D) (ci := 4) (C := RX6) (T := TX6) (N := 27) hx hb hts iX6 hown hK hP 0 wMo_0 rfl 9 (by decide) q2 (fun _ h9 => h9) rfl dX6_gets_24 ?_
        obtain ⟨r27, hc, h⟩ := bd1_some h
        have hPc : va_P D vwCl (wMi T am (am 8) mguests mclause mdeeds masked mupper mlower mfinding mreadGuests misSight mat mnow) s.heap := my_subP sb_wMo_wMi_0_8 hP
        refine my_roi (va_Run.run (va_runV (As := [.ref (am 8)]) (rest := []) hFix (kX6_inside l D T F am (am 8) mguests mclause mdeeds masked mupper mlower mfinding mreadGuests misSight mat mnow r27 hc) (cwV 1 hts gX6_gets_X6_inside rfl rfl rfl ⟨rfl, hd_X6_inside⟩ ⟨Nat.le_of_ble_eq_true rfl, Nat.le_of_ble_eq_true rfl⟩) (preV_ro hPc hKK (va_recv hK hP (ci := 4) (q0 := 0) rfl wMo_0)) rfl rfl hl.1 rfl (lv_room (Nat.le_of_ble_eq_true rfl)) dX6_gets_27 ⟨Nat.zero_le _, Nat.zero_le _⟩)) ?_
        refine lv_istore_n (lv' := [(3, .int r27), (0, .ref (am 0)), (1, .int x1), (2, .int x2)]) hx hb dX6_gets_30 rfl hl (by decide) rfl (fun ls hl => ?_)
        refine lv_iload_n hx hb dX6_gets_31 rfl (lv_at hl 0 rfl) ?_
        refine lv_iload_n hx hb dX6_gets_32 rfl (lv_at hl 2 rfl) ?_
        obtain ⟨r33, hc, h⟩ := bd1_some h
        refine my_roz (va_Run.run (va_runS (As := [.int r27, .int x1]) (rest := []) hFix (kX6_has l D T F r27 x1 r33 hc) (va_cwS 2 hts gX6_gets_X6_has rfl rfl rfl hd_X6_has ⟨Nat.le_of_ble_eq_true rfl, Nat.le_of_ble_eq_true rfl⟩) (preS_ro va_nil hKK) rfl rfl hl.1 rfl (lv_room (Nat.le_of_ble_eq_true rfl)) dX6_gets_33 ⟨Nat.zero_le _, Nat.zero_le _⟩)) (fun hb33 => ?_)
        refine lv_if_ne (tgt := 41) hx hb dX6_gets_36 (by decide) (fun c36 => ?_) (fun c36 => ?_)
        · have h := br_0 h c36
          refine lv_iload_n hx hb dX6_gets_41 rfl (lv_at hl 0 rfl) ?_
          obtain ⟨r42, hc, h⟩ := bd1_some h
          refine my_roi (va_Run.run (va_runS (As := [.int r27]) (rest := []) hFix (kX6_bits l D T F r27 r42 hc) (va_cwS 1 hts gX6_gets_X6_bits rfl rfl rfl hd_X6_bits ⟨Nat.le_of_ble_eq_true rfl, Nat.le_of_ble_eq_true rfl⟩) (preS_ro va_nil hKK) rfl rfl hl.1 rfl (lv_room (Nat.le_of_ble_eq_true rfl)) dX6_gets_42 ⟨Nat.zero_le _, Nat.zero_le _⟩)) ?_
          refine lv_istore (lv' := [(4, .int r42), (3, .int r27), (0, .ref (am 0)), (1, .int x1), (2, .int x2)]) hx hb dX6_gets_45 hl (by decide) rfl (fun ls hl => ?_)
          refine lv_iload_n hx hb dX6_gets_47 rfl (lv_at hl 1 rfl) ?_
          refine lv_iconst (v := (1 : Int32)) hx hb dX6_gets_48 (by decide) ?_
          refine lv_iload_n hx hb dX6_gets_49 rfl (lv_at hl 3 rfl) ?_
          refine lv_ishl hx hb dX6_gets_50 ?_
          refine lv_iconst (v := (1 : Int32)) hx hb dX6_gets_51 (by decide) ?_
          refine lv_isub hx hb dX6_gets_52 ?_
          refine lv_iand hx hb dX6_gets_53 ?_
          obtain ⟨r54, hc, h⟩ := bd1_some h
          refine my_roi (va_Run.run (va_runS (As := [.int (r27 &&& (((1 : Int32) <<< (x1 &&& 31)) - (1 : Int32)))]) (rest := []) hFix (kX6_bits l D T F (r27 &&& (((1 : Int32) <<< (x1 &&& 31)) - (1 : Int32))) r54 hc) (va_cwS 1 hts gX6_gets_X6_bits rfl rfl rfl hd_X6_bits ⟨Nat.le_of_ble_eq_true rfl, Nat.le_of_ble_eq_true rfl⟩) (preS_ro va_nil hKK) rfl rfl hl.1 rfl (lv_room (Nat.le_of_ble_eq_true rfl)) dX6_gets_54 ⟨Nat.zero_le _, Nat.zero_le _⟩)) ?_
          refine lv_istore (lv' := [(5, .int r54), (4, .int r42), (3, .int r27), (0, .ref (am 0)), (1, .int x1), (2, .int x2)]) hx hb dX6_gets_57 hl (by decide) rfl (fun ls hl => ?_)
          refine lv_iload_n hx hb dX6_gets_59 rfl (lv_at hl 5 rfl) ?_
          refine lv_iload hx hb dX6_gets_60 (lv_at hl 1 rfl) ?_
          obtain ⟨hne, h⟩ := ck_some h
          refine lv_idiv hx hb dX6_gets_62 hne ?_
          refine lv_iload hx hb dX6_gets_63 (lv_at hl 0 rfl) ?_
          refine lv_iload_n hx hb dX6_gets_65 rfl (lv_at hl 5 rfl) ?_
          refine lv_iload hx hb dX6_gets_66 (lv_at hl 1 rfl) ?_
          obtain ⟨hne, h⟩ := ck_some h
          refine lv_irem hx hb dX6_gets_68 hne ?_
          refine lv_icmp_ge (tgt := 76) hx hb dX6_gets_69 (by decide) (fun c69 => ?_) (fun c69 => ?_)
          · have h := br_1 h c69
            refine lv_iconst (v := (0 : Int32)) hx hb dX6_gets_76 (by decide) ?_
            refine lv_iadd hx hb dX6_gets_77 ?_
            cases h
            exact hret _ _ dX6_gets_78
          · have h := br_0 h c69
            refine lv_iconst (v := (1 : Int32)) hx hb dX6_gets_72 (by decide) ?_
            refine lv_goto (tgt := 77) hx hb dX6_gets_73 (by decide) ?_
            refine lv_iadd hx hb dX6_gets_77 ?_
            cases h
            exact hret _ _ dX6_gets_78
        · have h := br_1 h c36
          refine lv_iconst (v := (0 : Int32)) hx hb dX6_gets_39 (by decide) ?_
          cases h
          exact hret _ _ dX6_gets_40
      · have h := br_1 h c17
        refine lv_iconst (v := (-1 : Int32)) hx hb dX6_gets_20 (by decide) ?_
        cases h
        exact hret _ _ dX6_gets_21
  exact key _ (fun pc ls hd => W.iret hx hb hr (fun t ht hW => ⟨_, rfl, rfl, ht⟩) (fun q h => by cases h) hd)
set_option maxHeartbeats 4000000 in
set_option maxRecDepth 100000 in
theorem kX6_stops (l : Launch) (D : va_G) (T : Nat → ClassId) (F : Nat) (am : Nat → Nat) (mguests : Int32) (mclause : Int32) (mdeeds : Int32) (masked : Int32) (mupper : Int64) (mlower : Int64) (mfinding : Int32) (mreadGuests : Int32) (misSight : Int32) (mat : Int32) (mrowSizes : Nat → Int32) (mrows : Nat → Int32) (mtextSizes : Nat → Int32) (mtexts : Nat → Int32) (mdoes : Nat → Int32) (mkinds : Nat → Int32) (msees : Nat → Int32) (mnow : Nat → Int32) (mbefore : Nat → Int32) (mkeeps : Nat → Int32) (mkept : Nat → Int32) (mfindings : Nat → Int32) (mread : Nat → Int32) (maside : Nat → Int32) (msteps : Nat → Int32) (mtried : Nat → Int32) (mbest : Nat → Int32) (r : Int32) (h : fX6_stops F mguests mclause mnow = some (r)) : Met l yX6_stops wsX6_stops ({ frames := 2, cells := 0, slots := 0, locals := 41 } : Room) (va_Pc [.ref (am 0)] (fun U => va_P D vwCl (wMo T am mguests mclause mdeeds masked mupper mlower mfinding mreadGuests misSight mat mrowSizes mrows mtextSizes mtexts mdoes mkinds msees mnow mbefore mkeeps mkept mfindings mread maside msteps mtried mbest) U.heap ∧ KK D T U)) (vp_Si (fun r' => r' = r)) 0 0 (fun _ => False) := by
  refine Met.ofW (cc := cX6_stops) (maxL := 6) (ret := some .int) (by decide) rfl ?_
  intro p e s m args below meth c s₁ B hml hv
  obtain ⟨ha, hP, hKK⟩ := hv
  have hx := B.exec
  have hb := B.bytes
  have hr := B.returns
  have hts := atoms_spec (ws := wsX6_stops) B.pre
  have hown : s.vm.findClass RX6 = some m.cls := findClass_of_methodNamed B.named
  have hlocks := B.notSynchronized
  have hK := hKK.1
  have hFix : CallFix p m c cX6_stops 6 s args wsX6_stops RX6 := ⟨hx, hb, hml, hown, hts⟩
  have q1 := hts _ (List.mem_of_getElem? (i := 1) (show wsX6_stops[1]? = some (Cond.fieldLink RX6 31 "PartyWillModel" "now" "[I") from rfl))
  have q2 := hts _ (List.mem_of_getElem? (i := 2) (show wsX6_stops[2]? = some (Cond.fieldLink RX6 131 "PartyWillModel" "guests" "I") from rfl))
  have q3 := hts _ (List.mem_of_getElem? (i := 3) (show wsX6_stops[3]? = some (Cond.fieldLink RX6 134 "PartyWillModel" "clause" "I") from rfl))
  have iX6 : ∀ w ∈ u_ws RX6 TX6 27, w ∈ wsX6_stops := fun w h => List.mem_cons_of_mem _ (List.mem_append_right _ (h))
  obtain ⟨ls, hl, e0⟩ := my_entry (m := m) (n := 6) ha (Nat.le_of_ble_eq_true rfl)
  rw [e0]
  have hl : lv_has ls 6 [(0, .ref (am 0))] := hl
  have key : ∀ Q : State → Prop, (∀ (pc : Nat) (ls : Array Slot), decode cX6_stops pc = .ok (.ireturn, 1) → W p l e ({ frames := 2, cells := 0, slots := 0, locals := 41 } : Room) s m args below meth c s.heap [] 0 0 Q (F0 m pc ls [.int r])) → W p l e ({ frames := 2, cells := 0, slots := 0, locals := 41 } : Room) s m args below meth c s.heap [] 0 0 Q (F0 m 0 ls []) := by
    intro Q hret
    have l14 : ∀ x1 : Int32, ∀ nu : Nat, ∀ x2 : Int32, ∀ x3 : Int32, fX6_stops_l14 F mguests mclause mnow x1 nu x2 x3 = some (r) → ∀ (ls : Array Slot), lv_has ls 6 [(0, .ref (am 0)), (1, .int x1), (2, .int x2), (3, .int x3)] → W p l e ({ frames := 2, cells := 0, slots := 0, locals := 41 } : Room) s m args below meth c s.heap [] 0 0 Q (F0 m 14 ls []) := by
      intro x1
      intro nu
      induction nu with
      | zero => intro x2 x3 h; exact none_some h
      | succ nu14 ih14 =>
        intro x2 x3 h ls hl
        have n105 : ∀ s_0 : Int32, ∀ x1 : Int32, ∀ x2 : Int32, ∀ x3 : Int32, fX6_stops_n105 F (fX6_stops_l14 F mguests mclause mnow x1 nu14) mguests mclause mnow s_0 x1 x2 x3 = some (r) → ∀ (ls : Array Slot), lv_has ls 6 [(0, .ref (am 0)), (1, .int x1), (2, .int x2), (3, .int x3)] → W p l e ({ frames := 2, cells := 0, slots := 0, locals := 41 } : Room) s m args below meth c s.heap [] 0 0 Q (F0 m 105 ls [.int s_0]) := by
          intro s_0 x1 x2 x3 h ls hl
          unfold fX6_stops_n105 at h
          refine lv_istore (lv' := [(5, .int s_0), (0, .ref (am 0)), (1, .int x1), (2, .int x2), (3, .int x3)]) hx hb dX6_stops_105 hl (by decide) rfl (fun ls hl => ?_)
          refine lv_iload hx hb dX6_stops_107 (lv_at hl 0 rfl) ?_
          refine lv_if_eq (tgt := 133) hx hb dX6_stops_109 (by decide) (fun c109 => ?_) (fun c109 => ?_)
          · have h := br_1 h c109
            refine lv_iload_n hx hb dX6_stops_133 rfl (lv_at hl 3 rfl) ?_
            refine lv_istore_n (lv' := [(2, .int x2), (5, .int s_0), (0, .ref (am 0)), (1, .int x1), (3, .int x3)]) hx hb dX6_stops_134 rfl hl (by decide) rfl (fun ls hl => ?_)
            refine lv_iinc (v := (x3 + (1 : Int32))) (lv' := [(3, .int (x3 + (1 : Int32))), (2, .int x2), (5, .int s_0), (0, .ref (am 0)), (1, .int x1)]) hx hb dX6_stops_135 hl (k := 4) rfl rfl (by decide) rfl (fun ls hl => ?_)
            refine lv_goto (tgt := 14) hx hb dX6_stops_138 (by decide) ?_
            exact ih14 x2 (x3 + (1 : Int32)) h _ (lv_sub hl [3, 4, 1, 0] rfl)
          · have h := br_0 h c109
            refine lv_iload_n hx hb dX6_stops_112 rfl (lv_at hl 3 rfl) ?_
            refine lv_bipush (v := (-9 : Int32)) hx hb dX6_stops_113 (by decide) ?_
            refine lv_icmp_eq (tgt := 129) hx hb dX6_stops_115 (by decide) (fun c115 => ?_) (fun c115 => ?_)
            · have h := br_1 h c115
              refine lv_iload_n hx hb dX6_stops_129 rfl (lv_at hl 4 rfl) ?_
              refine lv_goto (tgt := 134) hx hb dX6_stops_130 (by decide) ?_
              refine lv_istore_n (lv' := [(2, .int x3), (5, .int s_0), (0, .ref (am 0)), (1, .int x1), (3, .int x3)]) hx hb dX6_stops_134 rfl hl (by decide) rfl (fun ls hl => ?_)
              refine lv_iinc (v := (x3 + (1 : Int32))) (lv' := [(3, .int (x3 + (1 : Int32))), (2, .int x3), (5, .int s_0), (0, .ref (am 0)), (1, .int x1)]) hx hb dX6_stops_135 hl (k := 4) rfl rfl (by decide) rfl (fun ls hl => ?_)
              refine lv_goto (tgt := 14) hx hb dX6_stops_138 (by decide) ?_
              exact ih14 x3 (x3 + (1 : Int32)) h _ (lv_sub hl [3, 4, 1, 0] rfl)
            · have h := br_0 h c115
              refine lv_iload_n hx hb dX6_stops_118 rfl (lv_at hl 4 rfl) ?_
              obtain ⟨r119, hc, h⟩ := bd1_some h
              refine my_roi (va_Run.run (va_runS (As := [.int x3]) (rest := []) hFix (kX6_bits l D T F x3 r119 hc) (va_cwS 1 hts gX6_stops_X6_bits rfl rfl rfl hd_X6_bits ⟨Nat.le_of_ble_eq_true rfl, Nat.le_of_ble_eq_true rfl⟩) (preS_ro va_nil hKK) rfl rfl hl.1 rfl (lv_room (Nat.le_of_ble_eq_true rfl)) dX6_stops_119 ⟨Nat.zero_le _, Nat.zero_le _⟩)) ?_
              refine lv_iload_n hx hb dX6_stops_122 rfl (lv_at hl 3 rfl) ?_
              obtain ⟨r123, hc, h⟩ := bd1_some h
              refine my_roi (va_Run.run (va_runS (As := [.int x2]) (rest := [.int r119]) hFix (kX6_bits l D T F x2 r123 hc) (va_cwS 1 hts gX6_stops_X6_bits rfl rfl rfl hd_X6_bits ⟨Nat.le_of_ble_eq_true rfl, Nat.le_of_ble_eq_true rfl⟩) (preS_ro va_nil hKK) rfl rfl hl.1 rfl (lv_room (Nat.le_of_ble_eq_true rfl)) dX6_stops_123 ⟨Nat.zero_le _, Nat.zero_le _⟩)) ?_
              refine lv_icmp_ge (tgt := 133) hx hb dX6_stops_126 (by decide) (fun c126 => ?_) (fun c126 => ?_)
              · have h := br_1 h c126
                refine lv_iload_n hx hb dX6_stops_133 rfl (lv_at hl 3 rfl) ?_
                refine lv_istore_n (lv' := [(2, .int x2), (5, .int s_0), (0, .ref (am 0)), (1, .int x1), (3, .int x3)]) hx hb dX6_stops_134 rfl hl (by decide) rfl (fun ls hl => ?_)
                refine lv_iinc (v := (x3 + (1 : Int32))) (lv' := [(3, .int (x3 + (1 : Int32))), (2, .int x2), (5, .int s_0), (0, .ref (am 0)), (1, .int x1)]) hx hb dX6_stops_135 hl (k := 4) rfl rfl (by decide) rfl (fun ls hl => ?_)
                refine lv_goto (tgt := 14) hx hb dX6_stops_138 (by decide) ?_
                exact ih14 x2 (x3 + (1 : Int32)) h _ (lv_sub hl [3, 4, 1, 0] rfl)
              · have h := br_0 h c126
                refine lv_iload_n hx hb dX6_stops_129 rfl (lv_at hl 4 rfl) ?_
                refine lv_goto (tgt := 134) hx hb dX6_stops_130 (by decide) ?_
                refine lv_istore_n (lv' := [(2, .int x3), (5, .int s_0), (0, .ref (am 0)), (1, .int x1), (3, .int x3)]) hx hb dX6_stops_134 rfl hl (by decide) rfl (fun ls hl => ?_)
                refine lv_iinc (v := (x3 + (1 : Int32))) (lv' := [(3, .int (x3 + (1 : Int32))), (2, .int x3), (5, .int s_0), (0, .ref (am 0)), (1, .int x1)]) hx hb dX6_stops_135 hl (k := 4) rfl rfl (by decide) rfl (fun ls hl => ?_)
                refine lv_goto (tgt := 14) hx hb dX6_stops_138 (by decide) ?_
                exact ih14 x3 (x3 + (1 : Int32)) h _ (lv_sub hl [3, 4, 1, 0] rfl)
        have l28 : ∀ x1 : Int32, ∀ x2 : Int32, ∀ x3 : Int32, ∀ nu : Nat, ∀ x4 : Int32, ∀ x5 : Int32, fX6_stops_l28 F (fX6_stops_l14 F mguests mclause mnow x1 nu14) mguests mclause mnow x1 x2 x3 nu x4 x5 = some (r) → ∀ (ls : Array Slot), lv_has ls 6 [(0, .ref (am 0)), (1, .int x1), (2, .int x2), (3, .int x3), (4, .int x4), (5, .int x5)] → W p l e ({ frames := 2, cells := 0, slots := 0, locals := 41 } : Room) s m args below meth c s.heap [] 0 0 Q (F0 m 28 ls []) := by
          intro x1 x2 x3
          intro nu
          induction nu with
          | zero => intro x4 x5 h; exact none_some h
          | succ nu28 ih28 =>
            intro x4 x5 h ls hl
            have h : fX6_stops_l28_b F (fX6_stops_l14 F mguests mclause mnow x1 nu14) mguests mclause mnow x1 x2 x3 (fX6_stops_l28 F (fX6_stops_l14 F mguests mclause mnow x1 nu14) mguests mclause mnow x1 x2 x3 nu28) x4 x5 = some (r) := h
            unfold fX6_stops_l28_b at h
            refine lv_iload hx hb dX6_stops_28 (lv_at hl 5 rfl) ?_
            refine lv_aload_n hx hb dX6_stops_30 rfl (lv_at hl 0 rfl) ?_
            refine va_get (D := D) (ci := 4) (C := RX6) (T := TX6) (N := 27) hx hb hts iX6 hown hK hP 0 wMo_0 rfl 4 (by decide) q2 (fun _ h9 => h9) rfl dX6_stops_31 ?_
            refine lv_icmp_ge (tgt := 68) hx hb dX6_stops_34 (by decide) (fun c34 => ?_) (fun c34 => ?_)
            · have h := br_1 h c34
              refine lv_iload_n hx hb dX6_stops_68 rfl (lv_at hl 3 rfl) ?_
              refine lv_iload_n hx hb dX6_stops_69 rfl (lv_at hl 1 rfl) ?_
              refine lv_iconst (v := (-1 : Int32)) hx hb dX6_stops_70 (by decide) ?_
              refine lv_ixor hx hb dX6_stops_71 ?_
              refine lv_iand hx hb dX6_stops_72 ?_
              refine lv_if_ne (tgt := 104) hx hb dX6_stops_73 (by decide) (fun c73 => ?_) (fun c73 => ?_)
              · have h := br_0 h c73
                refine lv_iconst (v := (0 : Int32)) hx hb dX6_stops_104 (by decide) ?_
                exact n105 (0 : Int32) x1 x2 x3 h _ (lv_sub hl [0, 1, 2, 3] rfl)
              · have h := br_1 h c73
                refine lv_iload_n hx hb dX6_stops_76 rfl (lv_at hl 3 rfl) ?_
                obtain ⟨r77, hc, h⟩ := bd1_some h
                refine my_roi (va_Run.run (va_runS (As := [.int x3]) (rest := []) hFix (kX6_bits l D T F x3 r77 hc) (va_cwS 1 hts gX6_stops_X6_bits rfl rfl rfl hd_X6_bits ⟨Nat.le_of_ble_eq_true rfl, Nat.le_of_ble_eq_true rfl⟩) (preS_ro va_nil hKK) rfl rfl hl.1 rfl (lv_room (Nat.le_of_ble_eq_true rfl)) dX6_stops_77 ⟨Nat.zero_le _, Nat.zero_le _⟩)) ?_
                refine lv_iconst (v := (1 : Int32)) hx hb dX6_stops_80 (by decide) ?_
                refine lv_icmp_le (tgt := 104) hx hb dX6_stops_81 (by decide) (fun c81 => ?_) (fun c81 => ?_)
                · have h := br_1 h c81
                  refine lv_iconst (v := (0 : Int32)) hx hb dX6_stops_104 (by decide) ?_
                  exact n105 (0 : Int32) x1 x2 x3 h _ (lv_sub hl [0, 1, 2, 3] rfl)
                · have h := br_0 h c81
                  refine lv_iload hx hb dX6_stops_84 (lv_at hl 4 rfl) ?_
                  refine lv_aload_n hx hb dX6_stops_86 rfl (lv_at hl 0 rfl) ?_
                  refine va_get (D := D) (ci := 4) (C := RX6) (T := TX6) (N := 27) hx hb hts iX6 hown hK hP 0 wMo_0 rfl 5 (by decide) q3 (fun _ h9 => h9) rfl dX6_stops_87 ?_
                  refine lv_iload_n hx hb dX6_stops_90 rfl (lv_at hl 3 rfl) ?_
                  obtain ⟨r91, hc, h⟩ := bd1_some h
                  refine my_roi (va_Run.run (va_runS (As := [.int x3]) (rest := [.int mclause, .int x4]) hFix (kX6_bits l D T F x3 r91 hc) (va_cwS 1 hts gX6_stops_X6_bits rfl rfl rfl hd_X6_bits ⟨Nat.le_of_ble_eq_true rfl, Nat.le_of_ble_eq_true rfl⟩) (preS_ro va_nil hKK) rfl rfl hl.1 rfl (lv_room (Nat.le_of_ble_eq_true rfl)) dX6_stops_91 ⟨Nat.zero_le _, Nat.zero_le _⟩)) ?_
                  refine lv_iconst (v := (1 : Int32)) hx hb dX6_stops_94 (by decide) ?_
                  refine lv_isub hx hb dX6_stops_95 ?_
                  refine lv_imul hx hb dX6_stops_96 ?_
                  refine lv_icmp_ge (tgt := 104) hx hb dX6_stops_97 (by decide) (fun c97 => ?_) (fun c97 => ?_)
                  · have h := br_1 h c97
                    refine lv_iconst (v := (0 : Int32)) hx hb dX6_stops_104 (by decide) ?_
                    exact n105 (0 : Int32) x1 x2 x3 h _ (lv_sub hl [0, 1, 2, 3] rfl)
                  · have h := br_0 h c97
                    refine lv_iconst (v := (1 : Int32)) hx hb dX6_stops_100 (by decide) ?_
                    refine lv_goto (tgt := 105) hx hb dX6_stops_101 (by decide) ?_
                    exact n105 (1 : Int32) x1 x2 x3 h _ (lv_sub hl [0, 1, 2, 3] rfl)
            · have h := br_0 h c34
              refine lv_iload hx hb dX6_stops_37 (lv_at hl 4 rfl) ?_
              refine lv_iload_n hx hb dX6_stops_39 rfl (lv_at hl 3 rfl) ?_
              refine lv_iload hx hb dX6_stops_40 (lv_at hl 5 rfl) ?_
              obtain ⟨r42, hc, h⟩ := bd1_some h
              refine my_roz (va_Run.run (va_runS (As := [.int x3, .int x5]) (rest := [.int x4]) hFix (kX6_has l D T F x3 x5 r42 hc) (va_cwS 2 hts gX6_stops_X6_has rfl rfl rfl hd_X6_has ⟨Nat.le_of_ble_eq_true rfl, Nat.le_of_ble_eq_true rfl⟩) (preS_ro va_nil hKK) rfl rfl hl.1 rfl (lv_room (Nat.le_of_ble_eq_true rfl)) dX6_stops_42 ⟨Nat.zero_le _, Nat.zero_le _⟩)) (fun hb42 => ?_)
              refine lv_if_eq (tgt := 58) hx hb dX6_stops_45 (by decide) (fun c45 => ?_) (fun c45 => ?_)
              · have h := br_1 h c45
                refine lv_iconst (v := (0 : Int32)) hx hb dX6_stops_58 (by decide) ?_
                refine lv_iadd hx hb dX6_stops_59 ?_
                refine lv_istore (lv' := [(4, .int (x4 + (0 : Int32))), (0, .ref (am 0)), (1, .int x1), (2, .int x2), (3, .int x3), (5, .int x5)]) hx hb dX6_stops_60 hl (by decide) rfl (fun ls hl => ?_)
                refine lv_iinc (v := (x5 + (1 : Int32))) (lv' := [(5, .int (x5 + (1 : Int32))), (4, .int (x4 + (0 : Int32))), (0, .ref (am 0)), (1, .int x1), (2, .int x2), (3, .int x3)]) hx hb dX6_stops_62 hl (k := 5) rfl rfl (by decide) rfl (fun ls hl => ?_)
                refine lv_goto (tgt := 28) hx hb dX6_stops_65 (by decide) ?_
                exact ih28 (x4 + (0 : Int32)) (x5 + (1 : Int32)) h _ (lv_sub hl [2, 3, 4, 5, 1, 0] rfl)
              · have h := br_0 h c45
                refine lv_aload_n hx hb dX6_stops_48 rfl (lv_at hl 0 rfl) ?_
                refine va_get (D := D) (ci := 4) (C := RX6) (T := TX6) (N := 27) hx hb hts iX6 hown hK hP 0 wMo_0 rfl 9 (by decide) q1 (fun _ h9 => h9) rfl dX6_stops_49 ?_
                refine lv_iload hx hb dX6_stops_52 (lv_at hl 5 rfl) ?_
                obtain ⟨hin1, h⟩ := ck_some h
                refine va_iald hx hb hK hP 8 0 wMo_8 rfl hin1 dX6_stops_54 ?_
                refine lv_goto (tgt := 59) hx hb dX6_stops_55 (by decide) ?_
                refine lv_iadd hx hb dX6_stops_59 ?_
                refine lv_istore (lv' := [(4, .int (x4 + (mnow x5.toNatClampNeg))), (0, .ref (am 0)), (1, .int x1), (2, .int x2), (3, .int x3), (5, .int x5)]) hx hb dX6_stops_60 hl (by decide) rfl (fun ls hl => ?_)
                refine lv_iinc (v := (x5 + (1 : Int32))) (lv' := [(5, .int (x5 + (1 : Int32))), (4, .int (x4 + (mnow x5.toNatClampNeg))), (0, .ref (am 0)), (1, .int x1), (2, .int x2), (3, .int x3)]) hx hb dX6_stops_62 hl (k := 5) rfl rfl (by decide) rfl (fun ls hl => ?_)
                refine lv_goto (tgt := 28) hx hb dX6_stops_65 (by decide) ?_
                exact ih28 (x4 + (mnow x5.toNatClampNeg)) (x5 + (1 : Int32)) h _ (lv_sub hl [2, 3, 4, 5, 1, 0] rfl)
        have h : fX6_stops_l14_b F mguests mclause mnow x1 (fX6_stops_l14 F mguests mclause mnow x1 nu14) x2 x3 = some (r) := h
        unfold fX6_stops_l14_b at h
        refine lv_iload_n hx hb dX6_stops_14 rfl (lv_at hl 3 rfl) ?_
        refine lv_aload_n hx hb dX6_stops_15 rfl (lv_at hl 0 rfl) ?_
        obtain ⟨r16, hc, h⟩ := bd1_some h
        have hPc : va_P D vwCl (wM0 T am mguests mclause mdeeds masked mupper mlower mfinding mreadGuests misSight mat) s.heap := my_subP sb_wMo_wM0_0 hP
        refine my_roi (va_Run.run (va_runV (As := []) (rest := [.int x3]) hFix (kX6_everybody l D T F am mguests mclause mdeeds masked mupper mlower mfinding mreadGuests misSight mat r16 hc) (cwV 0 hts gX6_stops_X6_everybody rfl rfl rfl ⟨rfl, hd_X6_everybody⟩ ⟨Nat.le_of_ble_eq_true rfl, Nat.le_of_ble_eq_true rfl⟩) (preV_ro hPc hKK (va_recv hK hP (ci := 4) (q0 := 0) rfl wMo_0)) rfl rfl hl.1 rfl (lv_room (Nat.le_of_ble_eq_true rfl)) dX6_stops_16 ⟨Nat.zero_le _, Nat.zero_le _⟩)) ?_
        refine lv_icmp_gt (tgt := 141) hx hb dX6_stops_19 (by decide) (fun c19 => ?_) (fun c19 => ?_)
        · have h := br_1 h c19
          refine lv_iload_n hx hb dX6_stops_141 rfl (lv_at hl 2 rfl) ?_
          cases h
          exact hret _ _ dX6_stops_142
        · have h := br_0 h c19
          refine lv_iconst (v := (0 : Int32)) hx hb dX6_stops_22 (by decide) ?_
          refine lv_istore (lv' := [(4, .int (0 : Int32)), (0, .ref (am 0)), (1, .int x1), (2, .int x2), (3, .int x3)]) hx hb dX6_stops_23 hl (by decide) rfl (fun ls hl => ?_)
          refine lv_iconst (v := (0 : Int32)) hx hb dX6_stops_25 (by decide) ?_
          refine lv_istore (lv' := [(5, .int (0 : Int32)), (4, .int (0 : Int32)), (0, .ref (am 0)), (1, .int x1), (2, .int x2), (3, .int x3)]) hx hb dX6_stops_26 hl (by decide) rfl (fun ls hl => ?_)
          exact l28 x1 x2 x3 F (0 : Int32) (0 : Int32) h _ (lv_sub hl [2, 3, 4, 5, 1, 0] rfl)
    unfold fX6_stops at h
    refine lv_aload_n hx hb dX6_stops_0 rfl (lv_at hl 0 rfl) ?_
    refine lv_aload_n hx hb dX6_stops_1 rfl (lv_at hl 0 rfl) ?_
    refine va_get (D := D) (ci := 4) (C := RX6) (T := TX6) (N := 27) hx hb hts iX6 hown hK hP 0 wMo_0 rfl 9 (by decide) q1 (fun _ h9 => h9) rfl dX6_stops_2 ?_
    obtain ⟨r5, hc, h⟩ := bd1_some h
    have hPc : va_P D vwCl (wMi T am (am 8) mguests mclause mdeeds masked mupper mlower mfinding mreadGuests misSight mat mnow) s.heap := my_subP sb_wMo_wMi_0_8 hP
    refine my_roi (va_Run.run (va_runV (As := [.ref (am 8)]) (rest := []) hFix (kX6_inside l D T F am (am 8) mguests mclause mdeeds masked mupper mlower mfinding mreadGuests misSight mat mnow r5 hc) (cwV 1 hts gX6_stops_X6_inside rfl rfl rfl ⟨rfl, hd_X6_inside⟩ ⟨Nat.le_of_ble_eq_true rfl, Nat.le_of_ble_eq_true rfl⟩) (preV_ro hPc hKK (va_recv hK hP (ci := 4) (q0 := 0) rfl wMo_0)) rfl rfl hl.1 rfl (lv_room (Nat.le_of_ble_eq_true rfl)) dX6_stops_5 ⟨Nat.zero_le _, Nat.zero_le _⟩)) ?_
    refine lv_istore_n (lv' := [(1, .int r5), (0, .ref (am 0))]) hx hb dX6_stops_8 rfl hl (by decide) rfl (fun ls hl => ?_)
    refine lv_bipush (v := (-9 : Int32)) hx hb dX6_stops_9 (by decide) ?_
    refine lv_istore_n (lv' := [(2, .int (-9 : Int32)), (1, .int r5), (0, .ref (am 0))]) hx hb dX6_stops_11 rfl hl (by decide) rfl (fun ls hl => ?_)
    refine lv_iconst (v := (1 : Int32)) hx hb dX6_stops_12 (by decide) ?_
    refine lv_istore_n (lv' := [(3, .int (1 : Int32)), (2, .int (-9 : Int32)), (1, .int r5), (0, .ref (am 0))]) hx hb dX6_stops_13 rfl hl (by decide) rfl (fun ls hl => ?_)
    exact l14 r5 F (-9 : Int32) (1 : Int32) h _ (lv_sub hl [3, 2, 1, 0] rfl)
  exact key _ (fun pc ls hd => W.iret hx hb hr (fun t ht hW => ⟨_, rfl, rfl, ht⟩) (fun q h => by cases h) hd)
set_option maxHeartbeats 4000000 in
set_option maxRecDepth 100000 in
theorem kX6_fraction (l : Launch) (D : va_G) (T : Nat → ClassId) (F : Nat) (am : Nat → Nat) (mguests : Int32) (mclause : Int32) (mdeeds : Int32) (masked : Int32) (mupper : Int64) (mlower : Int64) (mfinding : Int32) (mreadGuests : Int32) (misSight : Int32) (mat : Int32) (mrowSizes : Nat → Int32) (mrows : Nat → Int32) (mtextSizes : Nat → Int32) (mtexts : Nat → Int32) (mdoes : Nat → Int32) (mkinds : Nat → Int32) (msees : Nat → Int32) (mnow : Nat → Int32) (mbefore : Nat → Int32) (mkeeps : Nat → Int32) (mkept : Nat → Int32) (mfindings : Nat → Int32) (mread : Nat → Int32) (maside : Nat → Int32) (msteps : Nat → Int32) (mtried : Nat → Int32) (mbest : Nat → Int32) (x1 : Int64) (x3 : Int64) (r : Int32) (zmupper : Int64) (zmlower : Int64) (h : fX6_fraction F mupper mlower x1 x3 = some (r, zmupper, zmlower)) : ∀ sz : Nat, Met l yX6_fraction wsX6_fraction ({ frames := 0, cells := 0, slots := 0, locals := 0 } : Room) (va_Pc [.ref (am 0), .long x1, .long x3] (fun U => U.heap.size = sz ∧ va_P D vwCl (wMo T am mguests mclause mdeeds masked mupper mlower mfinding mreadGuests misSight mat mrowSizes mrows mtextSizes mtexts mdoes mkinds msees mnow mbefore mkeeps mkept mfindings mread maside msteps mtried mbest) U.heap ∧ KK D T U ∧ va_D (fun _ => True) (wMo T am mguests mclause mdeeds masked mupper mlower mfinding mreadGuests misSight mat mrowSizes mrows mtextSizes mtexts mdoes mkinds msees mnow mbefore mkeeps mkept mfindings mread maside msteps mtried mbest))) (va_Qi (fun r' (_ : Unit) => r' = r) (fun _ t => va_P D vwCl (wMo T am mguests mclause mdeeds masked zmupper zmlower mfinding mreadGuests misSight mat mrowSizes mrows mtextSizes mtexts mdoes mkinds msees mnow mbefore mkeeps mkept mfindings mread maside msteps mtried mbest) t.heap ∧ va_D (va_A (wMo T am mguests mclause mdeeds masked mupper mlower mfinding mreadGuests misSight mat mrowSizes mrows mtextSizes mtexts mdoes mkinds msees mnow mbefore mkeeps mkept mfindings mread maside msteps mtried mbest) sz) (wMo T am mguests mclause mdeeds masked zmupper zmlower mfinding mreadGuests misSight mat mrowSizes mrows mtextSizes mtexts mdoes mkinds msees mnow mbefore mkeeps mkept mfindings mread maside msteps mtried mbest)) (va_A (wMo T am mguests mclause mdeeds masked mupper mlower mfinding mreadGuests misSight mat mrowSizes mrows mtextSizes mtexts mdoes mkinds msees mnow mbefore mkeeps mkept mfindings mread maside msteps mtried mbest) sz)) 0 0 (va_A (wMo T am mguests mclause mdeeds masked mupper mlower mfinding mreadGuests misSight mat mrowSizes mrows mtextSizes mtexts mdoes mkinds msees mnow mbefore mkeeps mkept mfindings mread maside msteps mtried mbest) sz) := by
  intro sz
  refine Met.ofW (cc := cX6_fraction) (maxL := 11) (ret := some .int) (by decide) rfl ?_
  intro p e s m args below meth c s₁ B hml hv
  obtain ⟨ha, hsz, hP, hKK, hD0⟩ := hv
  have hx := B.exec
  have hb := B.bytes
  have hr := B.returns
  have hts := atoms_spec (ws := wsX6_fraction) B.pre
  have hown : s.vm.findClass RX6 = some m.cls := findClass_of_methodNamed B.named
  have hlocks := B.notSynchronized
  have hK := hKK.1
  have hFix : CallFix p m c cX6_fraction 11 s args wsX6_fraction RX6 := ⟨hx, hb, hml, hown, hts⟩
  have q1 := hts _ (List.mem_of_getElem? (i := 1) (show wsX6_fraction[1]? = some (Cond.fieldLink RX6 230 "PartyWillModel" "upper" "J") from rfl))
  have q2 := hts _ (List.mem_of_getElem? (i := 2) (show wsX6_fraction[2]? = some (Cond.fieldLink RX6 44 "PartyWillModel" "lower" "J") from rfl))
  have iX6 : ∀ w ∈ u_ws RX6 TX6 27, w ∈ wsX6_fraction := fun w h => List.mem_cons_of_mem _ (List.mem_append_right _ (h))
  subst hsz
  have hD := hD0.self (sz := s.heap.size)
  generalize hAe : va_A (wMo T am mguests mclause mdeeds masked mupper mlower mfinding mreadGuests misSight mat mrowSizes mrows mtextSizes mtexts mdoes mkinds msees mnow mbefore mkeeps mkept mfindings mread maside msteps mtried mbest) s.heap.size = A at hD ⊢
  have hA : ∀ q : Nat, s.heap.size ≤ q → A q := fun q h => by rw [← hAe]; exact Or.inr h
  have hS : va_S A s.heap s.heap [] := va_S.rf
  have hP : va_P D vwCl (wMo T am mguests mclause mdeeds masked mupper mlower mfinding mreadGuests misSight mat mrowSizes mrows mtextSizes mtexts mdoes mkinds msees mnow mbefore mkeeps mkept mfindings mread maside msteps mtried mbest) s.heap := hP
  obtain ⟨ls, hl, e0⟩ := my_entry (m := m) (n := 11) ha (Nat.le_of_ble_eq_true rfl)
  rw [e0]
  have hl : lv_has ls 11 [(0, .ref (am 0)), (1, .long x1), (3, .long x3)] := hl
  have key : ∀ Q : State → Prop, (∀ (H : Heap) (locs : List Loc) (pc : Nat) (ls : Array Slot), va_P D vwCl (wMo T am mguests mclause mdeeds masked zmupper zmlower mfinding mreadGuests misSight mat mrowSizes mrows mtextSizes mtexts mdoes mkinds msees mnow mbefore mkeeps mkept mfindings mread maside msteps mtried mbest) H → va_D A (wMo T am mguests mclause mdeeds masked zmupper zmlower mfinding mreadGuests misSight mat mrowSizes mrows mtextSizes mtexts mdoes mkinds msees mnow mbefore mkeeps mkept mfindings mread maside msteps mtried mbest) → va_S A s.heap H locs → decode cX6_fraction pc = .ok (.ireturn, 1) → W p l e ({ frames := 0, cells := 0, slots := 0, locals := 0 } : Room) s m args below meth c H locs 0 0 Q (F0 m pc ls [.int r])) → W p l e ({ frames := 0, cells := 0, slots := 0, locals := 0 } : Room) s m args below meth c s.heap [] 0 0 Q (F0 m 0 ls []) := by
    intro Q hret
    skip
    have l6 : ∀ x1 : Int64, ∀ x3 : Int64, ∀ mupper : Int64, ∀ mlower : Int64, ∀ nu : Nat, ∀ x5 : Int64, ∀ x7 : Int64, fX6_fraction_l6 F x1 x3 mupper mlower nu x5 x7 = some (r, zmupper, zmlower) → ∀ (H : Heap) (locs : List Loc), va_P D vwCl (wMo T am mguests mclause mdeeds masked mupper mlower mfinding mreadGuests misSight mat mrowSizes mrows mtextSizes mtexts mdoes mkinds msees mnow mbefore mkeeps mkept mfindings mread maside msteps mtried mbest) H → va_D A (wMo T am mguests mclause mdeeds masked mupper mlower mfinding mreadGuests misSight mat mrowSizes mrows mtextSizes mtexts mdoes mkinds msees mnow mbefore mkeeps mkept mfindings mread maside msteps mtried mbest) → va_S A s.heap H locs → ∀ (ls : Array Slot), lv_has ls 11 [(0, .ref (am 0)), (1, .long x1), (3, .long x3), (5, .long x5), (7, .long x7)] → W p l e ({ frames := 0, cells := 0, slots := 0, locals := 0 } : Room) s m args below meth c H locs 0 0 Q (F0 m 6 ls []) := by
      intro x1 x3 mupper mlower
      intro nu
      induction nu with
      | zero => intro x5 x7 h; exact none_some h
      | succ nu6 ih6 =>
        intro x5 x7 h H locs hP hD hS ls hl
        have h : fX6_fraction_l6_b F x1 x3 mupper mlower (fX6_fraction_l6 F x1 x3 mupper mlower nu6) x5 x7 = some (r, zmupper, zmlower) := h
        unfold fX6_fraction_l6_b at h
        refine lv_lload hx hb dX6_fraction_6 (lv_at hl 4 rfl) ?_
        refine lv_lconst (v := (0 : Int64)) hx hb dX6_fraction_8 (by decide) ?_
        refine W.lcmp hx hb dX6_fraction_9 ?_
        refine lv_if_eq (tgt := 31) hx hb dX6_fraction_10 (by decide) (fun c10 => ?_) (fun c10 => ?_)
        · have h := br_1 h c10
          refine lv_aload_n hx hb dX6_fraction_31 rfl (lv_at hl 0 rfl) ?_
          refine lv_lload_n hx hb dX6_fraction_32 rfl (lv_at hl 1 rfl) ?_
          refine lv_lload hx hb dX6_fraction_33 (lv_at hl 3 rfl) ?_
          obtain ⟨hne, h⟩ := ck_some h
          refine lv_ldiv hx hb dX6_fraction_35 hne ?_
          refine va_put (D := D) (ci := 4) (v := .long (x1 / x5)) (ty := .long) (C := RX6) (T := TX6) (N := 27) hx hb hts iX6 tyX6 tyX6_ok nmX6 hown hK hP hD hS 0 wMo_0 rfl 15 (by decide) q1 (fun _ h9 => h9) rfl (by decide +kernel) rfl rfl (Nat.le_of_ble_eq_true rfl) dX6_fraction_36 (fun H locs hP hD hS => ?_)
          have hP : va_P D vwCl (wMo T am mguests mclause mdeeds masked (x1 / x5) mlower mfinding mreadGuests misSight mat mrowSizes mrows mtextSizes mtexts mdoes mkinds msees mnow mbefore mkeeps mkept mfindings mread maside msteps mtried mbest) H := hP
          have hD : va_D A (wMo T am mguests mclause mdeeds masked (x1 / x5) mlower mfinding mreadGuests misSight mat mrowSizes mrows mtextSizes mtexts mdoes mkinds msees mnow mbefore mkeeps mkept mfindings mread maside msteps mtried mbest) := hD
          refine lv_aload_n hx hb dX6_fraction_39 rfl (lv_at hl 0 rfl) ?_
          refine lv_lload_n hx hb dX6_fraction_40 rfl (lv_at hl 2 rfl) ?_
          refine lv_lload hx hb dX6_fraction_41 (lv_at hl 3 rfl) ?_
          obtain ⟨hne, h⟩ := ck_some h
          refine lv_ldiv hx hb dX6_fraction_43 hne ?_
          refine va_put (D := D) (ci := 4) (v := .long (x3 / x5)) (ty := .long) (C := RX6) (T := TX6) (N := 27) hx hb hts iX6 tyX6 tyX6_ok nmX6 hown hK hP hD hS 0 wMo_0 rfl 16 (by decide) q2 (fun _ h9 => h9) rfl (by decide +kernel) rfl rfl (Nat.le_of_ble_eq_true rfl) dX6_fraction_44 (fun H locs hP hD hS => ?_)
          have hP : va_P D vwCl (wMo T am mguests mclause mdeeds masked (x1 / x5) (x3 / x5) mfinding mreadGuests misSight mat mrowSizes mrows mtextSizes mtexts mdoes mkinds msees mnow mbefore mkeeps mkept mfindings mread maside msteps mtried mbest) H := hP
          have hD : va_D A (wMo T am mguests mclause mdeeds masked (x1 / x5) (x3 / x5) mfinding mreadGuests misSight mat mrowSizes mrows mtextSizes mtexts mdoes mkinds msees mnow mbefore mkeeps mkept mfindings mread maside msteps mtried mbest) := hD
          refine lv_iconst (v := (1 : Int32)) hx hb dX6_fraction_47 (by decide) ?_
          cases h
          exact hret _ _ _ _ hP hD hS dX6_fraction_48
        · have h := br_0 h c10
          refine lv_lload hx hb dX6_fraction_13 (lv_at hl 3 rfl) ?_
          refine lv_lload hx hb dX6_fraction_15 (lv_at hl 4 rfl) ?_
          obtain ⟨hne, h⟩ := ck_some h
          refine lv_lrem hx hb dX6_fraction_17 hne ?_
          refine lv_lstore (lv' := [(9, .long (x5 - x5 / x7 * x7)), (0, .ref (am 0)), (1, .long x1), (3, .long x3), (5, .long x5), (7, .long x7)]) hx hb dX6_fraction_18 hl (by decide) rfl (fun ls hl => ?_)
          refine lv_lload hx hb dX6_fraction_20 (lv_at hl 5 rfl) ?_
          refine lv_lstore (lv' := [(5, .long x7), (9, .long (x5 - x5 / x7 * x7)), (0, .ref (am 0)), (1, .long x1), (3, .long x3), (7, .long x7)]) hx hb dX6_fraction_22 hl (by decide) rfl (fun ls hl => ?_)
          refine lv_lload hx hb dX6_fraction_24 (lv_at hl 1 rfl) ?_
          refine lv_lstore (lv' := [(7, .long (x5 - x5 / x7 * x7)), (5, .long x7), (9, .long (x5 - x5 / x7 * x7)), (0, .ref (am 0)), (1, .long x1), (3, .long x3)]) hx hb dX6_fraction_26 hl (by decide) rfl (fun ls hl => ?_)
          refine lv_goto (tgt := 6) hx hb dX6_fraction_28 (by decide) ?_
          exact ih6 x7 (x5 - x5 / x7 * x7) h _ _ hP hD hS _ (lv_sub hl [3, 4, 5, 1, 0] rfl)
    unfold fX6_fraction at h
    refine lv_lload_n hx hb dX6_fraction_0 rfl (lv_at hl 1 rfl) ?_
    refine lv_lstore (lv' := [(5, .long x1), (0, .ref (am 0)), (1, .long x1), (3, .long x3)]) hx hb dX6_fraction_1 hl (by decide) rfl (fun ls hl => ?_)
    refine lv_lload_n hx hb dX6_fraction_3 rfl (lv_at hl 3 rfl) ?_
    refine lv_lstore (lv' := [(7, .long x3), (5, .long x1), (0, .ref (am 0)), (1, .long x1), (3, .long x3)]) hx hb dX6_fraction_4 hl (by decide) rfl (fun ls hl => ?_)
    exact l6 x1 x3 mupper mlower F x1 x3 h _ _ hP hD hS _ (lv_sub hl [2, 3, 4, 1, 0] rfl)
  exact key _ (fun H locs pc ls hP hD hS hd => W.iret hx hb hr (fun t ht hW => ⟨⟨_, (), rfl, rfl, by show _ ∧ _; rw [ht]; exact ⟨hP, hD⟩⟩, hS.F ht⟩) hS.2.2 hd)
set_option maxHeartbeats 4000000 in
set_option maxRecDepth 100000 in
theorem kX6_odds (l : Launch) (D : va_G) (T : Nat → ClassId) (F : Nat) (am : Nat → Nat) (mguests : Int32) (mclause : Int32) (mdeeds : Int32) (masked : Int32) (mupper : Int64) (mlower : Int64) (mfinding : Int32) (mreadGuests : Int32) (misSight : Int32) (mat : Int32) (mrowSizes : Nat → Int32) (mrows : Nat → Int32) (mtextSizes : Nat → Int32) (mtexts : Nat → Int32) (mdoes : Nat → Int32) (mkinds : Nat → Int32) (msees : Nat → Int32) (mnow : Nat → Int32) (mbefore : Nat → Int32) (mkeeps : Nat → Int32) (mkept : Nat → Int32) (mfindings : Nat → Int32) (mread : Nat → Int32) (maside : Nat → Int32) (msteps : Nat → Int32) (mtried : Nat → Int32) (mbest : Nat → Int32) (x1 : Int32) (r : Int32) (zmupper : Int64) (zmlower : Int64) (zmaside : Nat → Int32) (h : fX6_odds F mguests mclause mupper mlower mdoes mkinds msees mnow maside x1 = some (r, zmupper, zmlower, zmaside)) : ∀ sz : Nat, Met l yX6_odds wsX6_odds ({ frames := 5, cells := 0, slots := 0, locals := 117 } : Room) (va_Pc [.ref (am 0), .int x1] (fun U => U.heap.size = sz ∧ va_P D vwCl (wMo T am mguests mclause mdeeds masked mupper mlower mfinding mreadGuests misSight mat mrowSizes mrows mtextSizes mtexts mdoes mkinds msees mnow mbefore mkeeps mkept mfindings mread maside msteps mtried mbest) U.heap ∧ KK D T U ∧ va_D (fun _ => True) (wMo T am mguests mclause mdeeds masked mupper mlower mfinding mreadGuests misSight mat mrowSizes mrows mtextSizes mtexts mdoes mkinds msees mnow mbefore mkeeps mkept mfindings mread maside msteps mtried mbest))) (va_Qi (fun r' (_ : Unit) => r' = r) (fun _ t => va_P D vwCl (wMo T am mguests mclause mdeeds masked zmupper zmlower mfinding mreadGuests misSight mat mrowSizes mrows mtextSizes mtexts mdoes mkinds msees mnow mbefore mkeeps mkept mfindings mread zmaside msteps mtried mbest) t.heap ∧ va_D (va_A (wMo T am mguests mclause mdeeds masked mupper mlower mfinding mreadGuests misSight mat mrowSizes mrows mtextSizes mtexts mdoes mkinds msees mnow mbefore mkeeps mkept mfindings mread maside msteps mtried mbest) sz) (wMo T am mguests mclause mdeeds masked zmupper zmlower mfinding mreadGuests misSight mat mrowSizes mrows mtextSizes mtexts mdoes mkinds msees mnow mbefore mkeeps mkept mfindings mread zmaside msteps mtried mbest)) (va_A (wMo T am mguests mclause mdeeds masked mupper mlower mfinding mreadGuests misSight mat mrowSizes mrows mtextSizes mtexts mdoes mkinds msees mnow mbefore mkeeps mkept mfindings mread maside msteps mtried mbest) sz)) 0 0 (va_A (wMo T am mguests mclause mdeeds masked mupper mlower mfinding mreadGuests misSight mat mrowSizes mrows mtextSizes mtexts mdoes mkinds msees mnow mbefore mkeeps mkept mfindings mread maside msteps mtried mbest) sz) := by
  intro sz
  refine Met.ofW (cc := cX6_odds) (maxL := 4) (ret := some .int) (by decide) rfl ?_
  intro p e s m args below meth c s₁ B hml hv
  obtain ⟨ha, hsz, hP, hKK, hD0⟩ := hv
  have hx := B.exec
  have hb := B.bytes
  have hr := B.returns
  have hts := atoms_spec (ws := wsX6_odds) B.pre
  have hown : s.vm.findClass RX6 = some m.cls := findClass_of_methodNamed B.named
  have hlocks := B.notSynchronized
  have hK := hKK.1
  have hFix : CallFix p m c cX6_odds 4 s args wsX6_odds RX6 := ⟨hx, hb, hml, hown, hts⟩
  have q1 := hts _ (List.mem_of_getElem? (i := 1) (show wsX6_odds[1]? = some (Cond.fieldLink RX6 131 "PartyWillModel" "guests" "I") from rfl))
  have iX6 : ∀ w ∈ u_ws RX6 TX6 27, w ∈ wsX6_odds := fun w h => List.mem_cons_of_mem _ (List.mem_append_right _ (h))
  subst hsz
  have hD := hD0.self (sz := s.heap.size)
  generalize hAe : va_A (wMo T am mguests mclause mdeeds masked mupper mlower mfinding mreadGuests misSight mat mrowSizes mrows mtextSizes mtexts mdoes mkinds msees mnow mbefore mkeeps mkept mfindings mread maside msteps mtried mbest) s.heap.size = A at hD ⊢
  have hA : ∀ q : Nat, s.heap.size ≤ q → A q := fun q h => by rw [← hAe]; exact Or.inr h
  have hS : va_S A s.heap s.heap [] := va_S.rf
  have hP : va_P D vwCl (wMo T am mguests mclause mdeeds masked mupper mlower mfinding mreadGuests misSight mat mrowSizes mrows mtextSizes mtexts mdoes mkinds msees mnow mbefore mkeeps mkept mfindings mread maside msteps mtried mbest) s.heap := hP
  obtain ⟨ls, hl, e0⟩ := my_entry (m := m) (n := 4) ha (Nat.le_of_ble_eq_true rfl)
  rw [e0]
  have hl : lv_has ls 4 [(0, .ref (am 0)), (1, .int x1)] := hl
  have key : ∀ Q : State → Prop, (∀ (H : Heap) (locs : List Loc) (pc : Nat) (ls : Array Slot), va_P D vwCl (wMo T am mguests mclause mdeeds masked zmupper zmlower mfinding mreadGuests misSight mat mrowSizes mrows mtextSizes mtexts mdoes mkinds msees mnow mbefore mkeeps mkept mfindings mread zmaside msteps mtried mbest) H → va_D A (wMo T am mguests mclause mdeeds masked zmupper zmlower mfinding mreadGuests misSight mat mrowSizes mrows mtextSizes mtexts mdoes mkinds msees mnow mbefore mkeeps mkept mfindings mread zmaside msteps mtried mbest) → va_S A s.heap H locs → decode cX6_odds pc = .ok (.ireturn, 1) → W p l e ({ frames := 5, cells := 0, slots := 0, locals := 117 } : Room) s m args below meth c H locs 0 0 Q (F0 m pc ls [.int r])) → W p l e ({ frames := 5, cells := 0, slots := 0, locals := 117 } : Room) s m args below meth c s.heap [] 0 0 Q (F0 m 0 ls []) := by
    intro Q hret
    skip
    have l23 : ∀ x1 : Int32, ∀ mupper : Int64, ∀ mlower : Int64, ∀ nu : Nat, ∀ x2 : Int32, ∀ x3 : Int32, ∀ maside : Nat → Int32, fX6_odds_l23 F mguests mclause mdoes mkinds msees mnow x1 mupper mlower nu x2 x3 maside = some (r, zmupper, zmlower, zmaside) → ∀ (H : Heap) (locs : List Loc), va_P D vwCl (wMo T am mguests mclause mdeeds masked mupper mlower mfinding mreadGuests misSight mat mrowSizes mrows mtextSizes mtexts mdoes mkinds msees mnow mbefore mkeeps mkept mfindings mread maside msteps mtried mbest) H → va_D A (wMo T am mguests mclause mdeeds masked mupper mlower mfinding mreadGuests misSight mat mrowSizes mrows mtextSizes mtexts mdoes mkinds msees mnow mbefore mkeeps mkept mfindings mread maside msteps mtried mbest) → va_S A s.heap H locs → ∀ (ls : Array Slot), lv_has ls 4 [(0, .ref (am 0)), (1, .int x1), (2, .int x2), (3, .int x3)] → W p l e ({ frames := 5, cells := 0, slots := 0, locals := 117 } : Room) s m args below meth c H locs 0 0 Q (F0 m 23 ls []) := by
      intro x1 mupper mlower
      intro nu
      induction nu with
      | zero => intro x2 x3 maside h; exact none_some h
      | succ nu23 ih23 =>
        intro x2 x3 maside h H locs hP hD hS ls hl
        have h : fX6_odds_l23_b F mguests mclause mdoes mkinds msees mnow x1 mupper mlower (fX6_odds_l23 F mguests mclause mdoes mkinds msees mnow x1 mupper mlower nu23) x2 x3 maside = some (r, zmupper, zmlower, zmaside) := h
        unfold fX6_odds_l23_b at h
        refine lv_iload_n hx hb dX6_odds_23 rfl (lv_at hl 3 rfl) ?_
        refine lv_iload_n hx hb dX6_odds_24 rfl (lv_at hl 1 rfl) ?_
        obtain ⟨r25, hc, h⟩ := bd1_some h
        refine my_roi (va_Run.run (va_runS (As := [.int x1]) (rest := [.int x3]) hFix (kX6_codes l D T F x1 r25 hc) (va_cwS 1 hts gX6_odds_X6_codes rfl rfl rfl hd_X6_codes ⟨Nat.le_of_ble_eq_true rfl, Nat.le_of_ble_eq_true rfl⟩) (preS_ro va_nil hKK) rfl rfl hl.1 rfl (lv_room (Nat.le_of_ble_eq_true rfl)) dX6_odds_25 ⟨Nat.zero_le _, Nat.zero_le _⟩)) ?_
        refine lv_icmp_ge (tgt := 54) hx hb dX6_odds_28 (by decide) (fun c28 => ?_) (fun c28 => ?_)
        · have h := br_1 h c28
          refine lv_aload_n hx hb dX6_odds_54 rfl (lv_at hl 0 rfl) ?_
          refine lv_iload_n hx hb dX6_odds_55 rfl (lv_at hl 2 rfl) ?_
          refine lv_i2l (v := (x2.toInt64)) hx hb dX6_odds_56 rfl ?_
          refine lv_iload_n hx hb dX6_odds_57 rfl (lv_at hl 1 rfl) ?_
          obtain ⟨r58, hc, h⟩ := bd1_some h
          refine my_roi (va_Run.run (va_runS (As := [.int x1]) (rest := [.long (x2.toInt64), .ref (am 0)]) hFix (kX6_codes l D T F x1 r58 hc) (va_cwS 1 hts gX6_odds_X6_codes rfl rfl rfl hd_X6_codes ⟨Nat.le_of_ble_eq_true rfl, Nat.le_of_ble_eq_true rfl⟩) (preS_ro va_nil hKK) rfl rfl hl.1 rfl (lv_room (Nat.le_of_ble_eq_true rfl)) dX6_odds_58 ⟨Nat.zero_le _, Nat.zero_le _⟩)) ?_
          refine lv_i2l (v := (r58.toInt64)) hx hb dX6_odds_61 rfl ?_
          obtain ⟨r62, w62_mupper, w62_mlower, hc, h⟩ := bd3_some h
          have hFc := my_freeS hD hS hA
          refine my_rwi (va_runV (As := [.long (x2.toInt64), .long (r58.toInt64)]) (rest := []) hFix (kX6_fraction l D T F am mguests mclause mdeeds masked mupper mlower mfinding mreadGuests misSight mat mrowSizes mrows mtextSizes mtexts mdoes mkinds msees mnow mbefore mkeeps mkept mfindings mread maside msteps mtried mbest (x2.toInt64) (r58.toInt64) r62 w62_mupper w62_mlower hc) (cwV 2 hts gX6_odds_X6_fraction rfl rfl rfl ⟨rfl, hd_X6_fraction⟩ ⟨Nat.le_of_ble_eq_true rfl, Nat.le_of_ble_eq_true rfl⟩) (preV_rw hP hKK hD (va_recv hK hP (ci := 4) (q0 := 0) rfl wMo_0)) rfl rfl hl.1 rfl (lv_room (Nat.le_of_ble_eq_true rfl)) dX6_odds_62 ⟨Nat.zero_le _, Nat.zero_le _⟩) hS hFc (fun H1 locs hP1 hD1 hz1 hk1 hS => ?_)
          have hP : va_P D vwCl (wMo T am mguests mclause mdeeds masked w62_mupper w62_mlower mfinding mreadGuests misSight mat mrowSizes mrows mtextSizes mtexts mdoes mkinds msees mnow mbefore mkeeps mkept mfindings mread maside msteps mtried mbest) H1 := hP1
          have hD : va_D A (wMo T am mguests mclause mdeeds masked w62_mupper w62_mlower mfinding mreadGuests misSight mat mrowSizes mrows mtextSizes mtexts mdoes mkinds msees mnow mbefore mkeeps mkept mfindings mread maside msteps mtried mbest) := hD1.weaken (fun _ q _ h => hFc q.1 h)
          generalize H1 = H at hP hS ⊢
          cases h
          exact hret _ _ _ _ hP hD hS dX6_odds_65
        · have h := br_0 h c28
          refine lv_iload_n hx hb dX6_odds_31 rfl (lv_at hl 2 rfl) ?_
          refine lv_aload_n hx hb dX6_odds_32 rfl (lv_at hl 0 rfl) ?_
          refine lv_iload_n hx hb dX6_odds_33 rfl (lv_at hl 1 rfl) ?_
          refine lv_iload_n hx hb dX6_odds_34 rfl (lv_at hl 3 rfl) ?_
          obtain ⟨r35, w35_maside, hc, h⟩ := bd2_some h
          have hFc := my_freeS hD hS hA
          refine my_rwi (va_runV (As := [.int x1, .int x3]) (rest := [.int x2]) hFix (kX6_fallen l D T F am mguests mclause mdeeds masked mupper mlower mfinding mreadGuests misSight mat mrowSizes mrows mtextSizes mtexts mdoes mkinds msees mnow mbefore mkeeps mkept mfindings mread maside msteps mtried mbest x1 x3 r35 w35_maside hc) (cwV 2 hts gX6_odds_X6_fallen rfl rfl rfl ⟨rfl, hd_X6_fallen⟩ ⟨Nat.le_of_ble_eq_true rfl, Nat.le_of_ble_eq_true rfl⟩) (preV_rw hP hKK hD (va_recv hK hP (ci := 4) (q0 := 0) rfl wMo_0)) rfl rfl hl.1 rfl (lv_room (Nat.le_of_ble_eq_true rfl)) dX6_odds_35 ⟨Nat.zero_le _, Nat.zero_le _⟩) hS hFc (fun H1 locs hP1 hD1 hz1 hk1 hS => ?_)
          have hP : va_P D vwCl (wMo T am mguests mclause mdeeds masked mupper mlower mfinding mreadGuests misSight mat mrowSizes mrows mtextSizes mtexts mdoes mkinds msees mnow mbefore mkeeps mkept mfindings mread w35_maside msteps mtried mbest) H1 := hP1
          have hD : va_D A (wMo T am mguests mclause mdeeds masked mupper mlower mfinding mreadGuests misSight mat mrowSizes mrows mtextSizes mtexts mdoes mkinds msees mnow mbefore mkeeps mkept mfindings mread w35_maside msteps mtried mbest) := hD1.weaken (fun _ q _ h => hFc q.1 h)
          generalize H1 = H at hP hS ⊢
          refine lv_if_ne (tgt := 45) hx hb dX6_odds_38 (by decide) (fun c38 => ?_) (fun c38 => ?_)
          · have h := br_0 h c38
            refine lv_iconst (v := (0 : Int32)) hx hb dX6_odds_45 (by decide) ?_
            refine lv_iadd hx hb dX6_odds_46 ?_
            refine lv_istore_n (lv' := [(2, .int (x2 + (0 : Int32))), (0, .ref (am 0)), (1, .int x1), (3, .int x3)]) hx hb dX6_odds_47 rfl hl (by decide) rfl (fun ls hl => ?_)
            refine lv_iinc (v := (x3 + (1 : Int32))) (lv' := [(3, .int (x3 + (1 : Int32))), (2, .int (x2 + (0 : Int32))), (0, .ref (am 0)), (1, .int x1)]) hx hb dX6_odds_48 hl (k := 3) rfl rfl (by decide) rfl (fun ls hl => ?_)
            refine lv_goto (tgt := 23) hx hb dX6_odds_51 (by decide) ?_
            exact ih23 (x2 + (0 : Int32)) (x3 + (1 : Int32)) w35_maside h _ _ hP hD hS _ (lv_sub hl [2, 3, 1, 0] rfl)
          · have h := br_1 h c38
            refine lv_iconst (v := (1 : Int32)) hx hb dX6_odds_41 (by decide) ?_
            refine lv_goto (tgt := 46) hx hb dX6_odds_42 (by decide) ?_
            refine lv_iadd hx hb dX6_odds_46 ?_
            refine lv_istore_n (lv' := [(2, .int (x2 + (1 : Int32))), (0, .ref (am 0)), (1, .int x1), (3, .int x3)]) hx hb dX6_odds_47 rfl hl (by decide) rfl (fun ls hl => ?_)
            refine lv_iinc (v := (x3 + (1 : Int32))) (lv' := [(3, .int (x3 + (1 : Int32))), (2, .int (x2 + (1 : Int32))), (0, .ref (am 0)), (1, .int x1)]) hx hb dX6_odds_48 hl (k := 3) rfl rfl (by decide) rfl (fun ls hl => ?_)
            refine lv_goto (tgt := 23) hx hb dX6_odds_51 (by decide) ?_
            exact ih23 (x2 + (1 : Int32)) (x3 + (1 : Int32)) w35_maside h _ _ hP hD hS _ (lv_sub hl [2, 3, 1, 0] rfl)
    unfold fX6_odds at h
    refine lv_iload_n hx hb dX6_odds_0 rfl (lv_at hl 1 rfl) ?_
    obtain ⟨r1, hc, h⟩ := bd1_some h
    refine my_roz (va_Run.run (va_runS (As := [.int x1]) (rest := []) hFix (kX6_isLength l D T F x1 r1 hc) (va_cwS 1 hts gX6_odds_X6_isLength rfl rfl rfl hd_X6_isLength ⟨Nat.le_of_ble_eq_true rfl, Nat.le_of_ble_eq_true rfl⟩) (preS_ro va_nil hKK) rfl rfl hl.1 rfl (lv_room (Nat.le_of_ble_eq_true rfl)) dX6_odds_1 ⟨Nat.zero_le _, Nat.zero_le _⟩)) (fun hb1 => ?_)
    refine lv_if_ne (tgt := 9) hx hb dX6_odds_4 (by decide) (fun c4 => ?_) (fun c4 => ?_)
    · have h := br_0 h c4
      refine lv_aload_n hx hb dX6_odds_9 rfl (lv_at hl 0 rfl) ?_
      refine va_get (D := D) (ci := 4) (C := RX6) (T := TX6) (N := 27) hx hb hts iX6 hown hK hP 0 wMo_0 rfl 4 (by decide) q1 (fun _ h9 => h9) rfl dX6_odds_10 ?_
      refine lv_if_ne (tgt := 19) hx hb dX6_odds_13 (by decide) (fun c13 => ?_) (fun c13 => ?_)
      · have h := br_0 h c13
        refine lv_iconst (v := (0 : Int32)) hx hb dX6_odds_19 (by decide) ?_
        refine lv_istore_n (lv' := [(2, .int (0 : Int32)), (0, .ref (am 0)), (1, .int x1)]) hx hb dX6_odds_20 rfl hl (by decide) rfl (fun ls hl => ?_)
        refine lv_iconst (v := (0 : Int32)) hx hb dX6_odds_21 (by decide) ?_
        refine lv_istore_n (lv' := [(3, .int (0 : Int32)), (2, .int (0 : Int32)), (0, .ref (am 0)), (1, .int x1)]) hx hb dX6_odds_22 rfl hl (by decide) rfl (fun ls hl => ?_)
        exact l23 x1 mupper mlower F (0 : Int32) (0 : Int32) maside h _ _ hP hD hS _ (lv_sub hl [2, 3, 1, 0] rfl)
      · have h := br_1 h c13
        refine lv_bipush (v := (-4 : Int32)) hx hb dX6_odds_16 (by decide) ?_
        cases h
        exact hret _ _ _ _ hP hD hS dX6_odds_18
    · have h := br_1 h c4
      refine lv_iconst (v := (-1 : Int32)) hx hb dX6_odds_7 (by decide) ?_
      cases h
      exact hret _ _ _ _ hP hD hS dX6_odds_8
  exact key _ (fun H locs pc ls hP hD hS hd => W.iret hx hb hr (fun t ht hW => ⟨⟨_, (), rfl, rfl, by show _ ∧ _; rw [ht]; exact ⟨hP, hD⟩⟩, hS.F ht⟩) hS.2.2 hd)
set_option maxHeartbeats 4000000 in
set_option maxRecDepth 100000 in
theorem kX6_mid (l : Launch) (D : va_G) (T : Nat → ClassId) (F : Nat) (am : Nat → Nat) (mguests : Int32) (mclause : Int32) (mdeeds : Int32) (masked : Int32) (mupper : Int64) (mlower : Int64) (mfinding : Int32) (mreadGuests : Int32) (misSight : Int32) (mat : Int32) (mrowSizes : Nat → Int32) (mrows : Nat → Int32) (mtextSizes : Nat → Int32) (mtexts : Nat → Int32) (mdoes : Nat → Int32) (mkinds : Nat → Int32) (msees : Nat → Int32) (mnow : Nat → Int32) (mbefore : Nat → Int32) (mkeeps : Nat → Int32) (mkept : Nat → Int32) (mfindings : Nat → Int32) (mread : Nat → Int32) (maside : Nat → Int32) (msteps : Nat → Int32) (mtried : Nat → Int32) (mbest : Nat → Int32) (x1 : Int32) (r : Int32) (zmupper : Int64) (zmlower : Int64) (zmaside : Nat → Int32) (h : fX6_mid F mguests mclause mupper mlower mdoes mkinds msees mnow maside x1 = some (r, zmupper, zmlower, zmaside)) : ∀ sz : Nat, Met l yX6_mid wsX6_mid ({ frames := 5, cells := 0, slots := 0, locals := 117 } : Room) (va_Pc [.ref (am 0), .int x1] (fun U => U.heap.size = sz ∧ va_P D vwCl (wMo T am mguests mclause mdeeds masked mupper mlower mfinding mreadGuests misSight mat mrowSizes mrows mtextSizes mtexts mdoes mkinds msees mnow mbefore mkeeps mkept mfindings mread maside msteps mtried mbest) U.heap ∧ KK D T U ∧ va_D (fun _ => True) (wMo T am mguests mclause mdeeds masked mupper mlower mfinding mreadGuests misSight mat mrowSizes mrows mtextSizes mtexts mdoes mkinds msees mnow mbefore mkeeps mkept mfindings mread maside msteps mtried mbest))) (va_Qi (fun r' (_ : Unit) => r' = r) (fun _ t => va_P D vwCl (wMo T am mguests mclause mdeeds masked zmupper zmlower mfinding mreadGuests misSight mat mrowSizes mrows mtextSizes mtexts mdoes mkinds msees mnow mbefore mkeeps mkept mfindings mread zmaside msteps mtried mbest) t.heap ∧ va_D (va_A (wMo T am mguests mclause mdeeds masked mupper mlower mfinding mreadGuests misSight mat mrowSizes mrows mtextSizes mtexts mdoes mkinds msees mnow mbefore mkeeps mkept mfindings mread maside msteps mtried mbest) sz) (wMo T am mguests mclause mdeeds masked zmupper zmlower mfinding mreadGuests misSight mat mrowSizes mrows mtextSizes mtexts mdoes mkinds msees mnow mbefore mkeeps mkept mfindings mread zmaside msteps mtried mbest)) (va_A (wMo T am mguests mclause mdeeds masked mupper mlower mfinding mreadGuests misSight mat mrowSizes mrows mtextSizes mtexts mdoes mkinds msees mnow mbefore mkeeps mkept mfindings mread maside msteps mtried mbest) sz)) 0 0 (va_A (wMo T am mguests mclause mdeeds masked mupper mlower mfinding mreadGuests misSight mat mrowSizes mrows mtextSizes mtexts mdoes mkinds msees mnow mbefore mkeeps mkept mfindings mread maside msteps mtried mbest) sz) := by
  intro sz
  refine Met.ofW (cc := cX6_mid) (maxL := 4) (ret := some .int) (by decide) rfl ?_
  intro p e s m args below meth c s₁ B hml hv
  obtain ⟨ha, hsz, hP, hKK, hD0⟩ := hv
  have hx := B.exec
  have hb := B.bytes
  have hr := B.returns
  have hts := atoms_spec (ws := wsX6_mid) B.pre
  have hown : s.vm.findClass RX6 = some m.cls := findClass_of_methodNamed B.named
  have hlocks := B.notSynchronized
  have hK := hKK.1
  have hFix : CallFix p m c cX6_mid 4 s args wsX6_mid RX6 := ⟨hx, hb, hml, hown, hts⟩
  have q1 := hts _ (List.mem_of_getElem? (i := 1) (show wsX6_mid[1]? = some (Cond.fieldLink RX6 131 "PartyWillModel" "guests" "I") from rfl))
  have iX6 : ∀ w ∈ u_ws RX6 TX6 27, w ∈ wsX6_mid := fun w h => List.mem_cons_of_mem _ (List.mem_append_right _ (h))
  subst hsz
  have hD := hD0.self (sz := s.heap.size)
  generalize hAe : va_A (wMo T am mguests mclause mdeeds masked mupper mlower mfinding mreadGuests misSight mat mrowSizes mrows mtextSizes mtexts mdoes mkinds msees mnow mbefore mkeeps mkept mfindings mread maside msteps mtried mbest) s.heap.size = A at hD ⊢
  have hA : ∀ q : Nat, s.heap.size ≤ q → A q := fun q h => by rw [← hAe]; exact Or.inr h
  have hS : va_S A s.heap s.heap [] := va_S.rf
  have hP : va_P D vwCl (wMo T am mguests mclause mdeeds masked mupper mlower mfinding mreadGuests misSight mat mrowSizes mrows mtextSizes mtexts mdoes mkinds msees mnow mbefore mkeeps mkept mfindings mread maside msteps mtried mbest) s.heap := hP
  obtain ⟨ls, hl, e0⟩ := my_entry (m := m) (n := 4) ha (Nat.le_of_ble_eq_true rfl)
  rw [e0]
  have hl : lv_has ls 4 [(0, .ref (am 0)), (1, .int x1)] := hl
  have key : ∀ Q : State → Prop, (∀ (H : Heap) (locs : List Loc) (pc : Nat) (ls : Array Slot), va_P D vwCl (wMo T am mguests mclause mdeeds masked zmupper zmlower mfinding mreadGuests misSight mat mrowSizes mrows mtextSizes mtexts mdoes mkinds msees mnow mbefore mkeeps mkept mfindings mread zmaside msteps mtried mbest) H → va_D A (wMo T am mguests mclause mdeeds masked zmupper zmlower mfinding mreadGuests misSight mat mrowSizes mrows mtextSizes mtexts mdoes mkinds msees mnow mbefore mkeeps mkept mfindings mread zmaside msteps mtried mbest) → va_S A s.heap H locs → decode cX6_mid pc = .ok (.ireturn, 1) → W p l e ({ frames := 5, cells := 0, slots := 0, locals := 117 } : Room) s m args below meth c H locs 0 0 Q (F0 m pc ls [.int r])) → W p l e ({ frames := 5, cells := 0, slots := 0, locals := 117 } : Room) s m args below meth c s.heap [] 0 0 Q (F0 m 0 ls []) := by
    intro Q hret
    skip
    have l23 : ∀ x1 : Int32, ∀ mupper : Int64, ∀ mlower : Int64, ∀ nu : Nat, ∀ x2 : Int32, ∀ x3 : Int32, ∀ maside : Nat → Int32, fX6_mid_l23 F mguests mclause mdoes mkinds msees mnow x1 mupper mlower nu x2 x3 maside = some (r, zmupper, zmlower, zmaside) → ∀ (H : Heap) (locs : List Loc), va_P D vwCl (wMo T am mguests mclause mdeeds masked mupper mlower mfinding mreadGuests misSight mat mrowSizes mrows mtextSizes mtexts mdoes mkinds msees mnow mbefore mkeeps mkept mfindings mread maside msteps mtried mbest) H → va_D A (wMo T am mguests mclause mdeeds masked mupper mlower mfinding mreadGuests misSight mat mrowSizes mrows mtextSizes mtexts mdoes mkinds msees mnow mbefore mkeeps mkept mfindings mread maside msteps mtried mbest) → va_S A s.heap H locs → ∀ (ls : Array Slot), lv_has ls 4 [(0, .ref (am 0)), (1, .int x1), (2, .int x2), (3, .int x3)] → W p l e ({ frames := 5, cells := 0, slots := 0, locals := 117 } : Room) s m args below meth c H locs 0 0 Q (F0 m 23 ls []) := by
      intro x1 mupper mlower
      intro nu
      induction nu with
      | zero => intro x2 x3 maside h; exact none_some h
      | succ nu23 ih23 =>
        intro x2 x3 maside h H locs hP hD hS ls hl
        have h : fX6_mid_l23_b F mguests mclause mdoes mkinds msees mnow x1 mupper mlower (fX6_mid_l23 F mguests mclause mdoes mkinds msees mnow x1 mupper mlower nu23) x2 x3 maside = some (r, zmupper, zmlower, zmaside) := h
        unfold fX6_mid_l23_b at h
        refine lv_iload_n hx hb dX6_mid_23 rfl (lv_at hl 3 rfl) ?_
        refine lv_iload_n hx hb dX6_mid_24 rfl (lv_at hl 1 rfl) ?_
        obtain ⟨r25, hc, h⟩ := bd1_some h
        refine my_roi (va_Run.run (va_runS (As := [.int x1]) (rest := [.int x3]) hFix (kX6_codes l D T F x1 r25 hc) (va_cwS 1 hts gX6_mid_X6_codes rfl rfl rfl hd_X6_codes ⟨Nat.le_of_ble_eq_true rfl, Nat.le_of_ble_eq_true rfl⟩) (preS_ro va_nil hKK) rfl rfl hl.1 rfl (lv_room (Nat.le_of_ble_eq_true rfl)) dX6_mid_25 ⟨Nat.zero_le _, Nat.zero_le _⟩)) ?_
        refine lv_icmp_ge (tgt := 46) hx hb dX6_mid_28 (by decide) (fun c28 => ?_) (fun c28 => ?_)
        · have h := br_1 h c28
          refine lv_aload_n hx hb dX6_mid_46 rfl (lv_at hl 0 rfl) ?_
          refine lv_iload_n hx hb dX6_mid_47 rfl (lv_at hl 2 rfl) ?_
          refine lv_i2l (v := (x2.toInt64)) hx hb dX6_mid_48 rfl ?_
          refine lv_iload_n hx hb dX6_mid_49 rfl (lv_at hl 1 rfl) ?_
          obtain ⟨r50, hc, h⟩ := bd1_some h
          refine my_roi (va_Run.run (va_runS (As := [.int x1]) (rest := [.long (x2.toInt64), .ref (am 0)]) hFix (kX6_codes l D T F x1 r50 hc) (va_cwS 1 hts gX6_mid_X6_codes rfl rfl rfl hd_X6_codes ⟨Nat.le_of_ble_eq_true rfl, Nat.le_of_ble_eq_true rfl⟩) (preS_ro va_nil hKK) rfl rfl hl.1 rfl (lv_room (Nat.le_of_ble_eq_true rfl)) dX6_mid_50 ⟨Nat.zero_le _, Nat.zero_le _⟩)) ?_
          refine lv_i2l (v := (r50.toInt64)) hx hb dX6_mid_53 rfl ?_
          obtain ⟨r54, w54_mupper, w54_mlower, hc, h⟩ := bd3_some h
          have hFc := my_freeS hD hS hA
          refine my_rwi (va_runV (As := [.long (x2.toInt64), .long (r50.toInt64)]) (rest := []) hFix (kX6_fraction l D T F am mguests mclause mdeeds masked mupper mlower mfinding mreadGuests misSight mat mrowSizes mrows mtextSizes mtexts mdoes mkinds msees mnow mbefore mkeeps mkept mfindings mread maside msteps mtried mbest (x2.toInt64) (r50.toInt64) r54 w54_mupper w54_mlower hc) (cwV 2 hts gX6_mid_X6_fraction rfl rfl rfl ⟨rfl, hd_X6_fraction⟩ ⟨Nat.le_of_ble_eq_true rfl, Nat.le_of_ble_eq_true rfl⟩) (preV_rw hP hKK hD (va_recv hK hP (ci := 4) (q0 := 0) rfl wMo_0)) rfl rfl hl.1 rfl (lv_room (Nat.le_of_ble_eq_true rfl)) dX6_mid_54 ⟨Nat.zero_le _, Nat.zero_le _⟩) hS hFc (fun H1 locs hP1 hD1 hz1 hk1 hS => ?_)
          have hP : va_P D vwCl (wMo T am mguests mclause mdeeds masked w54_mupper w54_mlower mfinding mreadGuests misSight mat mrowSizes mrows mtextSizes mtexts mdoes mkinds msees mnow mbefore mkeeps mkept mfindings mread maside msteps mtried mbest) H1 := hP1
          have hD : va_D A (wMo T am mguests mclause mdeeds masked w54_mupper w54_mlower mfinding mreadGuests misSight mat mrowSizes mrows mtextSizes mtexts mdoes mkinds msees mnow mbefore mkeeps mkept mfindings mread maside msteps mtried mbest) := hD1.weaken (fun _ q _ h => hFc q.1 h)
          generalize H1 = H at hP hS ⊢
          cases h
          exact hret _ _ _ _ hP hD hS dX6_mid_57
        · have h := br_0 h c28
          refine lv_iload_n hx hb dX6_mid_31 rfl (lv_at hl 2 rfl) ?_
          refine lv_aload_n hx hb dX6_mid_32 rfl (lv_at hl 0 rfl) ?_
          refine lv_iload_n hx hb dX6_mid_33 rfl (lv_at hl 1 rfl) ?_
          refine lv_iload_n hx hb dX6_mid_34 rfl (lv_at hl 3 rfl) ?_
          obtain ⟨r35, w35_maside, hc, h⟩ := bd2_some h
          have hFc := my_freeS hD hS hA
          refine my_rwi (va_runV (As := [.int x1, .int x3]) (rest := [.int x2]) hFix (kX6_fallen l D T F am mguests mclause mdeeds masked mupper mlower mfinding mreadGuests misSight mat mrowSizes mrows mtextSizes mtexts mdoes mkinds msees mnow mbefore mkeeps mkept mfindings mread maside msteps mtried mbest x1 x3 r35 w35_maside hc) (cwV 2 hts gX6_mid_X6_fallen rfl rfl rfl ⟨rfl, hd_X6_fallen⟩ ⟨Nat.le_of_ble_eq_true rfl, Nat.le_of_ble_eq_true rfl⟩) (preV_rw hP hKK hD (va_recv hK hP (ci := 4) (q0 := 0) rfl wMo_0)) rfl rfl hl.1 rfl (lv_room (Nat.le_of_ble_eq_true rfl)) dX6_mid_35 ⟨Nat.zero_le _, Nat.zero_le _⟩) hS hFc (fun H1 locs hP1 hD1 hz1 hk1 hS => ?_)
          have hP : va_P D vwCl (wMo T am mguests mclause mdeeds masked mupper mlower mfinding mreadGuests misSight mat mrowSizes mrows mtextSizes mtexts mdoes mkinds msees mnow mbefore mkeeps mkept mfindings mread w35_maside msteps mtried mbest) H1 := hP1
          have hD : va_D A (wMo T am mguests mclause mdeeds masked mupper mlower mfinding mreadGuests misSight mat mrowSizes mrows mtextSizes mtexts mdoes mkinds msees mnow mbefore mkeeps mkept mfindings mread w35_maside msteps mtried mbest) := hD1.weaken (fun _ q _ h => hFc q.1 h)
          generalize H1 = H at hP hS ⊢
          refine lv_iadd hx hb dX6_mid_38 ?_
          refine lv_istore_n (lv' := [(2, .int (x2 + r35)), (0, .ref (am 0)), (1, .int x1), (3, .int x3)]) hx hb dX6_mid_39 rfl hl (by decide) rfl (fun ls hl => ?_)
          refine lv_iinc (v := (x3 + (1 : Int32))) (lv' := [(3, .int (x3 + (1 : Int32))), (2, .int (x2 + r35)), (0, .ref (am 0)), (1, .int x1)]) hx hb dX6_mid_40 hl (k := 3) rfl rfl (by decide) rfl (fun ls hl => ?_)
          refine lv_goto (tgt := 23) hx hb dX6_mid_43 (by decide) ?_
          exact ih23 (x2 + r35) (x3 + (1 : Int32)) w35_maside h _ _ hP hD hS _ (lv_sub hl [2, 3, 1, 0] rfl)
    unfold fX6_mid at h
    refine lv_iload_n hx hb dX6_mid_0 rfl (lv_at hl 1 rfl) ?_
    obtain ⟨r1, hc, h⟩ := bd1_some h
    refine my_roz (va_Run.run (va_runS (As := [.int x1]) (rest := []) hFix (kX6_isLength l D T F x1 r1 hc) (va_cwS 1 hts gX6_mid_X6_isLength rfl rfl rfl hd_X6_isLength ⟨Nat.le_of_ble_eq_true rfl, Nat.le_of_ble_eq_true rfl⟩) (preS_ro va_nil hKK) rfl rfl hl.1 rfl (lv_room (Nat.le_of_ble_eq_true rfl)) dX6_mid_1 ⟨Nat.zero_le _, Nat.zero_le _⟩)) (fun hb1 => ?_)
    refine lv_if_ne (tgt := 9) hx hb dX6_mid_4 (by decide) (fun c4 => ?_) (fun c4 => ?_)
    · have h := br_0 h c4
      refine lv_aload_n hx hb dX6_mid_9 rfl (lv_at hl 0 rfl) ?_
      refine va_get (D := D) (ci := 4) (C := RX6) (T := TX6) (N := 27) hx hb hts iX6 hown hK hP 0 wMo_0 rfl 4 (by decide) q1 (fun _ h9 => h9) rfl dX6_mid_10 ?_
      refine lv_if_ne (tgt := 19) hx hb dX6_mid_13 (by decide) (fun c13 => ?_) (fun c13 => ?_)
      · have h := br_0 h c13
        refine lv_iconst (v := (0 : Int32)) hx hb dX6_mid_19 (by decide) ?_
        refine lv_istore_n (lv' := [(2, .int (0 : Int32)), (0, .ref (am 0)), (1, .int x1)]) hx hb dX6_mid_20 rfl hl (by decide) rfl (fun ls hl => ?_)
        refine lv_iconst (v := (0 : Int32)) hx hb dX6_mid_21 (by decide) ?_
        refine lv_istore_n (lv' := [(3, .int (0 : Int32)), (2, .int (0 : Int32)), (0, .ref (am 0)), (1, .int x1)]) hx hb dX6_mid_22 rfl hl (by decide) rfl (fun ls hl => ?_)
        exact l23 x1 mupper mlower F (0 : Int32) (0 : Int32) maside h _ _ hP hD hS _ (lv_sub hl [2, 3, 1, 0] rfl)
      · have h := br_1 h c13
        refine lv_bipush (v := (-4 : Int32)) hx hb dX6_mid_16 (by decide) ?_
        cases h
        exact hret _ _ _ _ hP hD hS dX6_mid_18
    · have h := br_1 h c4
      refine lv_iconst (v := (-1 : Int32)) hx hb dX6_mid_7 (by decide) ?_
      cases h
      exact hret _ _ _ _ hP hD hS dX6_mid_8
  exact key _ (fun H locs pc ls hP hD hS hd => W.iret hx hb hr (fun t ht hW => ⟨⟨_, (), rfl, rfl, by show _ ∧ _; rw [ht]; exact ⟨hP, hD⟩⟩, hS.F ht⟩) hS.2.2 hd)
set_option maxHeartbeats 4000000 in
set_option maxRecDepth 100000 in
theorem kX6_lots (l : Launch) (D : va_G) (T : Nat → ClassId) (F : Nat) (am : Nat → Nat) (mguests : Int32) (mclause : Int32) (mdeeds : Int32) (masked : Int32) (mupper : Int64) (mlower : Int64) (mfinding : Int32) (mreadGuests : Int32) (misSight : Int32) (mat : Int32) (mrowSizes : Nat → Int32) (mrows : Nat → Int32) (mtextSizes : Nat → Int32) (mtexts : Nat → Int32) (mdoes : Nat → Int32) (mkinds : Nat → Int32) (msees : Nat → Int32) (mnow : Nat → Int32) (mbefore : Nat → Int32) (mkeeps : Nat → Int32) (mkept : Nat → Int32) (mfindings : Nat → Int32) (mread : Nat → Int32) (maside : Nat → Int32) (msteps : Nat → Int32) (mtried : Nat → Int32) (mbest : Nat → Int32) (x1 : Int32) (x2 : Int32) (r : Int32) (zmdeeds : Int32) (zmnow : Nat → Int32) (zmbefore : Nat → Int32) (h : fX6_lots F mguests mclause mdeeds mdoes mkinds msees mnow mbefore x1 x2 = some (r, zmdeeds, zmnow, zmbefore)) : ∀ sz : Nat, Met l yX6_lots wsX6_lots ({ frames := 4, cells := 0, slots := 0, locals := 93 } : Room) (va_Pc [.ref (am 0), .int x1, .int x2] (fun U => U.heap.size = sz ∧ va_P D vwCl (wMo T am mguests mclause mdeeds masked mupper mlower mfinding mreadGuests misSight mat mrowSizes mrows mtextSizes mtexts mdoes mkinds msees mnow mbefore mkeeps mkept mfindings mread maside msteps mtried mbest) U.heap ∧ KK D T U ∧ va_D (fun _ => True) (wMo T am mguests mclause mdeeds masked mupper mlower mfinding mreadGuests misSight mat mrowSizes mrows mtextSizes mtexts mdoes mkinds msees mnow mbefore mkeeps mkept mfindings mread maside msteps mtried mbest))) (va_Qi (fun r' (_ : Unit) => r' = r) (fun _ t => va_P D vwCl (wMo T am mguests mclause zmdeeds masked mupper mlower mfinding mreadGuests misSight mat mrowSizes mrows mtextSizes mtexts mdoes mkinds msees zmnow zmbefore mkeeps mkept mfindings mread maside msteps mtried mbest) t.heap ∧ va_D (va_A (wMo T am mguests mclause mdeeds masked mupper mlower mfinding mreadGuests misSight mat mrowSizes mrows mtextSizes mtexts mdoes mkinds msees mnow mbefore mkeeps mkept mfindings mread maside msteps mtried mbest) sz) (wMo T am mguests mclause zmdeeds masked mupper mlower mfinding mreadGuests misSight mat mrowSizes mrows mtextSizes mtexts mdoes mkinds msees zmnow zmbefore mkeeps mkept mfindings mread maside msteps mtried mbest)) (va_A (wMo T am mguests mclause mdeeds masked mupper mlower mfinding mreadGuests misSight mat mrowSizes mrows mtextSizes mtexts mdoes mkinds msees mnow mbefore mkeeps mkept mfindings mread maside msteps mtried mbest) sz)) 0 0 (va_A (wMo T am mguests mclause mdeeds masked mupper mlower mfinding mreadGuests misSight mat mrowSizes mrows mtextSizes mtexts mdoes mkinds msees mnow mbefore mkeeps mkept mfindings mread maside msteps mtried mbest) sz) := by
  intro sz
  refine Met.ofW (cc := cX6_lots) (maxL := 7) (ret := some .int) (by decide) rfl ?_
  intro p e s m args below meth c s₁ B hml hv
  obtain ⟨ha, hsz, hP, hKK, hD0⟩ := hv
  have hx := B.exec
  have hb := B.bytes
  have hr := B.returns
  have hts := atoms_spec (ws := wsX6_lots) B.pre
  have hown : s.vm.findClass RX6 = some m.cls := findClass_of_methodNamed B.named
  have hlocks := B.notSynchronized
  have hK := hKK.1
  have hFix : CallFix p m c cX6_lots 7 s args wsX6_lots RX6 := ⟨hx, hb, hml, hown, hts⟩
  have q1 := hts _ (List.mem_of_getElem? (i := 1) (show wsX6_lots[1]? = some (Cond.constantLong RX6 252 (20)) from rfl))
  have q2 := hts _ (List.mem_of_getElem? (i := 2) (show wsX6_lots[2]? = some (Cond.constantLong RX6 266 (2147483646)) from rfl))
  have q3 := hts _ (List.mem_of_getElem? (i := 3) (show wsX6_lots[3]? = some (Cond.fieldLink RX6 131 "PartyWillModel" "guests" "I") from rfl))
  have q4 := hts _ (List.mem_of_getElem? (i := 4) (show wsX6_lots[4]? = some (Cond.fieldLink RX6 137 "PartyWillModel" "deeds" "I") from rfl))
  have q5 := hts _ (List.mem_of_getElem? (i := 5) (show wsX6_lots[5]? = some (Cond.constantLong RX6 268 (48271)) from rfl))
  have q6 := hts _ (List.mem_of_getElem? (i := 6) (show wsX6_lots[6]? = some (Cond.constantLong RX6 270 (2147483647)) from rfl))
  have q7 := hts _ (List.mem_of_getElem? (i := 7) (show wsX6_lots[7]? = some (Cond.fieldLink RX6 31 "PartyWillModel" "now" "[I") from rfl))
  have q8 := hts _ (List.mem_of_getElem? (i := 8) (show wsX6_lots[8]? = some (Cond.constantLong RX6 272 (16)) from rfl))
  have q9 := hts _ (List.mem_of_getElem? (i := 9) (show wsX6_lots[9]? = some (Cond.constantLong RX6 171 (4)) from rfl))
  have iX6 : ∀ w ∈ u_ws RX6 TX6 27, w ∈ wsX6_lots := fun w h => List.mem_cons_of_mem _ (List.mem_append_right _ (h))
  subst hsz
  have hD := hD0.self (sz := s.heap.size)
  generalize hAe : va_A (wMo T am mguests mclause mdeeds masked mupper mlower mfinding mreadGuests misSight mat mrowSizes mrows mtextSizes mtexts mdoes mkinds msees mnow mbefore mkeeps mkept mfindings mread maside msteps mtried mbest) s.heap.size = A at hD ⊢
  have hA : ∀ q : Nat, s.heap.size ≤ q → A q := fun q h => by rw [← hAe]; exact Or.inr h
  have hS : va_S A s.heap s.heap [] := va_S.rf
  have hP : va_P D vwCl (wMo T am mguests mclause mdeeds masked mupper mlower mfinding mreadGuests misSight mat mrowSizes mrows mtextSizes mtexts mdoes mkinds msees mnow mbefore mkeeps mkept mfindings mread maside msteps mtried mbest) s.heap := hP
  obtain ⟨ls, hl, e0⟩ := my_entry (m := m) (n := 7) ha (Nat.le_of_ble_eq_true rfl)
  rw [e0]
  have hl : lv_has ls 7 [(0, .ref (am 0)), (1, .int x1), (2, .int x2)] := hl
  have key : ∀ Q : State → Prop, (∀ (H : Heap) (locs : List Loc) (pc : Nat) (ls : Array Slot), va_P D vwCl (wMo T am mguests mclause zmdeeds masked mupper mlower mfinding mreadGuests misSight mat mrowSizes mrows mtextSizes mtexts mdoes mkinds msees zmnow zmbefore mkeeps mkept mfindings mread maside msteps mtried mbest) H → va_D A (wMo T am mguests mclause zmdeeds masked mupper mlower mfinding mreadGuests misSight mat mrowSizes mrows mtextSizes mtexts mdoes mkinds msees zmnow zmbefore mkeeps mkept mfindings mread maside msteps mtried mbest) → va_S A s.heap H locs → decode cX6_lots pc = .ok (.ireturn, 1) → W p l e ({ frames := 4, cells := 0, slots := 0, locals := 93 } : Room) s m args below meth c H locs 0 0 Q (F0 m pc ls [.int r])) → W p l e ({ frames := 4, cells := 0, slots := 0, locals := 93 } : Room) s m args below meth c s.heap [] 0 0 Q (F0 m 0 ls []) := by
    intro Q hret
    skip
    have l59 : ∀ x1 : Int32, ∀ nu : Nat, ∀ x3 : Int64, ∀ x5 : Int32, ∀ x6 : Int32, ∀ mdeeds : Int32, ∀ mnow : Nat → Int32, ∀ mbefore : Nat → Int32, fX6_lots_l59 F mguests mclause mdoes mkinds msees x1 nu x3 x5 x6 mdeeds mnow mbefore = some (r, zmdeeds, zmnow, zmbefore) → ∀ (H : Heap) (locs : List Loc), va_P D vwCl (wMo T am mguests mclause mdeeds masked mupper mlower mfinding mreadGuests misSight mat mrowSizes mrows mtextSizes mtexts mdoes mkinds msees mnow mbefore mkeeps mkept mfindings mread maside msteps mtried mbest) H → va_D A (wMo T am mguests mclause mdeeds masked mupper mlower mfinding mreadGuests misSight mat mrowSizes mrows mtextSizes mtexts mdoes mkinds msees mnow mbefore mkeeps mkept mfindings mread maside msteps mtried mbest) → va_S A s.heap H locs → ∀ (ls : Array Slot), lv_has ls 7 [(0, .ref (am 0)), (1, .int x1), (3, .long x3), (5, .int x5), (6, .int x6)] → W p l e ({ frames := 4, cells := 0, slots := 0, locals := 93 } : Room) s m args below meth c H locs 0 0 Q (F0 m 59 ls []) := by
      intro x1
      intro nu
      induction nu with
      | zero => intro x3 x5 x6 mdeeds mnow mbefore h; exact none_some h
      | succ nu59 ih59 =>
        intro x3 x5 x6 mdeeds mnow mbefore h H locs hP hD hS ls hl
        have h : fX6_lots_l59_b F mguests mclause mdoes mkinds msees x1 (fX6_lots_l59 F mguests mclause mdoes mkinds msees x1 nu59) x3 x5 x6 mdeeds mnow mbefore = some (r, zmdeeds, zmnow, zmbefore) := h
        unfold fX6_lots_l59_b at h
        refine lv_iload hx hb dX6_lots_59 (lv_at hl 4 rfl) ?_
        refine lv_iload_n hx hb dX6_lots_61 rfl (lv_at hl 1 rfl) ?_
        refine lv_icmp_ge (tgt := 111) hx hb dX6_lots_62 (by decide) (fun c62 => ?_) (fun c62 => ?_)
        · have h := br_1 h c62
          refine lv_iload hx hb dX6_lots_111 (lv_at hl 3 rfl) ?_
          cases h
          exact hret _ _ _ _ hP hD hS dX6_lots_113
        · have h := br_0 h c62
          refine lv_ldc2 (v := (48271 : Int64)) hx hb hown q5 dX6_lots_65 ?_
          refine lv_lload_n hx hb dX6_lots_68 rfl (lv_at hl 2 rfl) ?_
          refine lv_lmul hx hb dX6_lots_69 ?_
          refine lv_ldc2 (v := (2147483647 : Int64)) hx hb hown q6 dX6_lots_70 ?_
          refine lv_lrem hx hb dX6_lots_73 (by decide) ?_
          refine lv_lstore_n (lv' := [(3, .long (((48271 : Int64) * x3) - ((48271 : Int64) * x3) / (2147483647 : Int64) * (2147483647 : Int64))), (0, .ref (am 0)), (1, .int x1), (5, .int x5), (6, .int x6)]) hx hb dX6_lots_74 rfl hl (by decide) rfl (fun ls hl => ?_)
          refine lv_aload_n hx hb dX6_lots_75 rfl (lv_at hl 1 rfl) ?_
          obtain ⟨w76_mdeeds, w76_mbefore, hc, h⟩ := bd2_some h
          have hFc := my_freeS hD hS hA
          refine my_rwv (va_runV (As := []) (rest := []) hFix (kX6_remember l D T F am mguests mclause mdeeds masked mupper mlower mfinding mreadGuests misSight mat mrowSizes mrows mtextSizes mtexts mdoes mkinds msees mnow mbefore mkeeps mkept mfindings mread maside msteps mtried mbest w76_mdeeds w76_mbefore hc) (cwV 0 hts gX6_lots_X6_remember rfl rfl rfl ⟨rfl, hd_X6_remember⟩ ⟨Nat.le_of_ble_eq_true rfl, Nat.le_of_ble_eq_true rfl⟩) (preV_rw hP hKK hD (va_recv hK hP (ci := 4) (q0 := 0) rfl wMo_0)) rfl rfl hl.1 rfl (lv_room (Nat.le_of_ble_eq_true rfl)) dX6_lots_76 ⟨Nat.zero_le _, Nat.zero_le _⟩) hS hFc (fun H1 locs hP1 hD1 hz1 hk1 hS => ?_)
          have hP : va_P D vwCl (wMo T am mguests mclause w76_mdeeds masked mupper mlower mfinding mreadGuests misSight mat mrowSizes mrows mtextSizes mtexts mdoes mkinds msees mnow w76_mbefore mkeeps mkept mfindings mread maside msteps mtried mbest) H1 := hP1
          have hD : va_D A (wMo T am mguests mclause w76_mdeeds masked mupper mlower mfinding mreadGuests misSight mat mrowSizes mrows mtextSizes mtexts mdoes mkinds msees mnow w76_mbefore mkeeps mkept mfindings mread maside msteps mtried mbest) := hD1.weaken (fun _ q _ h => hFc q.1 h)
          generalize H1 = H at hP hS ⊢
          refine lv_iload hx hb dX6_lots_79 (lv_at hl 3 rfl) ?_
          refine lv_aload_n hx hb dX6_lots_81 rfl (lv_at hl 1 rfl) ?_
          refine lv_aload_n hx hb dX6_lots_82 rfl (lv_at hl 1 rfl) ?_
          refine va_get (D := D) (ci := 4) (C := RX6) (T := TX6) (N := 27) hx hb hts iX6 hown hK hP 0 wMo_0 rfl 9 (by decide) q7 (fun _ h9 => h9) rfl dX6_lots_83 ?_
          refine lv_lload_n hx hb dX6_lots_86 rfl (lv_at hl 0 rfl) ?_
          refine lv_ldc2 (v := (16 : Int64)) hx hb hown q8 dX6_lots_87 ?_
          refine lv_ldiv hx hb dX6_lots_90 (by decide) ?_
          refine lv_ldc2 (v := (4 : Int64)) hx hb hown q9 dX6_lots_91 ?_
          refine lv_lrem hx hb dX6_lots_94 (by decide) ?_
          refine lv_l2i (v := ((((((48271 : Int64) * x3) - ((48271 : Int64) * x3) / (2147483647 : Int64) * (2147483647 : Int64)) / (16 : Int64)) - ((((48271 : Int64) * x3) - ((48271 : Int64) * x3) / (2147483647 : Int64) * (2147483647 : Int64)) / (16 : Int64)) / (4 : Int64) * (4 : Int64)).toInt32)) hx hb dX6_lots_95 rfl ?_
          obtain ⟨r96, w96_tt, hc, h⟩ := bd2_some h
          have hPc : va_P D vwCl (wMp T am (am 8) mguests mclause w76_mdeeds masked mupper mlower mfinding mreadGuests misSight mat mdoes mkinds msees mnow) H := my_subP sb_wMo_wMp_0_5_6_7_8 hP
          have hDc := hD.sub [0, 5, 6, 7, 8] (by decide) sb_wMo_wMp_0_5_6_7_8
          have hFc := va_free hD hS hA [0, 5, 6, 7, 8] sb_wMo_wMp_0_5_6_7_8
          refine my_rwi (va_runV (As := [.ref (am 8), .int ((((((48271 : Int64) * x3) - ((48271 : Int64) * x3) / (2147483647 : Int64) * (2147483647 : Int64)) / (16 : Int64)) - ((((48271 : Int64) * x3) - ((48271 : Int64) * x3) / (2147483647 : Int64) * (2147483647 : Int64)) / (16 : Int64)) / (4 : Int64) * (4 : Int64)).toInt32)]) (rest := [.int x5]) hFix (kX6_plays l D T F am (am 8) mguests mclause w76_mdeeds masked mupper mlower mfinding mreadGuests misSight mat mdoes mkinds msees mnow ((((((48271 : Int64) * x3) - ((48271 : Int64) * x3) / (2147483647 : Int64) * (2147483647 : Int64)) / (16 : Int64)) - ((((48271 : Int64) * x3) - ((48271 : Int64) * x3) / (2147483647 : Int64) * (2147483647 : Int64)) / (16 : Int64)) / (4 : Int64) * (4 : Int64)).toInt32) r96 w96_tt hc) (cwV 2 hts gX6_lots_X6_plays rfl rfl rfl ⟨rfl, hd_X6_plays⟩ ⟨Nat.le_of_ble_eq_true rfl, Nat.le_of_ble_eq_true rfl⟩) (preV_rw hPc hKK hDc (va_recv hK hP (ci := 4) (q0 := 0) rfl wMo_0)) rfl rfl hl.1 rfl (lv_room (Nat.le_of_ble_eq_true rfl)) dX6_lots_96 ⟨Nat.zero_le _, Nat.zero_le _⟩) hS hFc (fun H1 locs hP1 hD1 hz1 hk1 hS => ?_)
          obtain ⟨hP, hD⟩ := my_joinS hP hD (by decide) sb_wMo_wMp_0_5_6_7_8 hk1 hFc hP1 hD1
          have hP : va_P D vwCl (wMo T am mguests mclause w76_mdeeds masked mupper mlower mfinding mreadGuests misSight mat mrowSizes mrows mtextSizes mtexts mdoes mkinds msees w96_tt w76_mbefore mkeeps mkept mfindings mread maside msteps mtried mbest) H1 := st_wMo_wMp_0_5_6_7_8_plays ▸ hP
          have hD : va_D A (wMo T am mguests mclause w76_mdeeds masked mupper mlower mfinding mreadGuests misSight mat mrowSizes mrows mtextSizes mtexts mdoes mkinds msees w96_tt w76_mbefore mkeeps mkept mfindings mread maside msteps mtried mbest) := st_wMo_wMp_0_5_6_7_8_plays ▸ hD
          generalize H1 = H at hP hS ⊢
          obtain ⟨r99, hc, h⟩ := bd1_some h
          refine my_roi (va_Run.run (va_runS (As := [.int r96]) (rest := [.int x5]) hFix (kX6_bits l D T F r96 r99 hc) (va_cwS 1 hts gX6_lots_X6_bits rfl rfl rfl hd_X6_bits ⟨Nat.le_of_ble_eq_true rfl, Nat.le_of_ble_eq_true rfl⟩) (preS_ro va_nil hKK) rfl rfl hl.1 rfl (lv_room (Nat.le_of_ble_eq_true rfl)) dX6_lots_99 ⟨Nat.zero_le _, Nat.zero_le _⟩)) ?_
          refine lv_iadd hx hb dX6_lots_102 ?_
          refine lv_istore (lv' := [(5, .int (x5 + r99)), (3, .long (((48271 : Int64) * x3) - ((48271 : Int64) * x3) / (2147483647 : Int64) * (2147483647 : Int64))), (0, .ref (am 0)), (1, .int x1), (6, .int x6)]) hx hb dX6_lots_103 hl (by decide) rfl (fun ls hl => ?_)
          refine lv_iinc (v := (x6 + (1 : Int32))) (lv' := [(6, .int (x6 + (1 : Int32))), (5, .int (x5 + r99)), (3, .long (((48271 : Int64) * x3) - ((48271 : Int64) * x3) / (2147483647 : Int64) * (2147483647 : Int64))), (0, .ref (am 0)), (1, .int x1)]) hx hb dX6_lots_105 hl (k := 4) rfl rfl (by decide) rfl (fun ls hl => ?_)
          refine lv_goto (tgt := 59) hx hb dX6_lots_108 (by decide) ?_
          exact ih59 (((48271 : Int64) * x3) - ((48271 : Int64) * x3) / (2147483647 : Int64) * (2147483647 : Int64)) (x5 + r99) (x6 + (1 : Int32)) w76_mdeeds w96_tt w76_mbefore h _ _ hP hD hS _ (lv_sub hl [3, 4, 2, 1, 0] rfl)
    unfold fX6_lots at h
    refine lv_iload_n hx hb dX6_lots_0 rfl (lv_at hl 1 rfl) ?_
    refine lv_i2l (v := (x1.toInt64)) hx hb dX6_lots_1 rfl ?_
    refine lv_lconst (v := (1 : Int64)) hx hb dX6_lots_2 (by decide) ?_
    refine lv_ldc2 (v := (20 : Int64)) hx hb hown q1 dX6_lots_3 ?_
    obtain ⟨r6, hc, h⟩ := bd1_some h
    refine my_roz (va_Run.run (va_runS (As := [.long (x1.toInt64), .long (1 : Int64), .long (20 : Int64)]) (rest := []) hFix (kX6_in l D T F (x1.toInt64) (1 : Int64) (20 : Int64) r6 hc) (va_cwS 3 hts gX6_lots_X6_in rfl rfl rfl hd_X6_in ⟨Nat.le_of_ble_eq_true rfl, Nat.le_of_ble_eq_true rfl⟩) (preS_ro va_nil hKK) rfl rfl hl.1 rfl (lv_room (Nat.le_of_ble_eq_true rfl)) dX6_lots_6 ⟨Nat.zero_le _, Nat.zero_le _⟩)) (fun hb6 => ?_)
    refine lv_if_eq (tgt := 24) hx hb dX6_lots_9 (by decide) (fun c9 => ?_) (fun c9 => ?_)
    · have h := br_1 h c9
      refine lv_iconst (v := (-1 : Int32)) hx hb dX6_lots_24 (by decide) ?_
      cases h
      exact hret _ _ _ _ hP hD hS dX6_lots_25
    · have h := br_0 h c9
      refine lv_iload_n hx hb dX6_lots_12 rfl (lv_at hl 2 rfl) ?_
      refine lv_i2l (v := (x2.toInt64)) hx hb dX6_lots_13 rfl ?_
      refine lv_lconst (v := (1 : Int64)) hx hb dX6_lots_14 (by decide) ?_
      refine lv_ldc2 (v := (2147483646 : Int64)) hx hb hown q2 dX6_lots_15 ?_
      obtain ⟨r18, hc, h⟩ := bd1_some h
      refine my_roz (va_Run.run (va_runS (As := [.long (x2.toInt64), .long (1 : Int64), .long (2147483646 : Int64)]) (rest := []) hFix (kX6_in l D T F (x2.toInt64) (1 : Int64) (2147483646 : Int64) r18 hc) (va_cwS 3 hts gX6_lots_X6_in rfl rfl rfl hd_X6_in ⟨Nat.le_of_ble_eq_true rfl, Nat.le_of_ble_eq_true rfl⟩) (preS_ro va_nil hKK) rfl rfl hl.1 rfl (lv_room (Nat.le_of_ble_eq_true rfl)) dX6_lots_18 ⟨Nat.zero_le _, Nat.zero_le _⟩)) (fun hb18 => ?_)
      refine lv_if_ne (tgt := 26) hx hb dX6_lots_21 (by decide) (fun c21 => ?_) (fun c21 => ?_)
      · have h := br_0 h c21
        refine lv_aload_n hx hb dX6_lots_26 rfl (lv_at hl 0 rfl) ?_
        refine va_get (D := D) (ci := 4) (C := RX6) (T := TX6) (N := 27) hx hb hts iX6 hown hK hP 0 wMo_0 rfl 4 (by decide) q3 (fun _ h9 => h9) rfl dX6_lots_27 ?_
        refine lv_if_ne (tgt := 36) hx hb dX6_lots_30 (by decide) (fun c30 => ?_) (fun c30 => ?_)
        · have h := br_0 h c30
          refine lv_aload_n hx hb dX6_lots_36 rfl (lv_at hl 0 rfl) ?_
          refine va_get (D := D) (ci := 4) (C := RX6) (T := TX6) (N := 27) hx hb hts iX6 hown hK hP 0 wMo_0 rfl 10 (by decide) q4 (fun _ h9 => h9) rfl dX6_lots_37 ?_
          refine lv_iload_n hx hb dX6_lots_40 rfl (lv_at hl 1 rfl) ?_
          refine lv_iadd hx hb dX6_lots_41 ?_
          refine lv_bipush (v := (40 : Int32)) hx hb dX6_lots_42 (by decide) ?_
          refine lv_icmp_le (tgt := 50) hx hb dX6_lots_44 (by decide) (fun c44 => ?_) (fun c44 => ?_)
          · have h := br_1 h c44
            refine lv_iload_n hx hb dX6_lots_50 rfl (lv_at hl 2 rfl) ?_
            refine lv_i2l (v := (x2.toInt64)) hx hb dX6_lots_51 rfl ?_
            refine lv_lstore_n (lv' := [(3, .long (x2.toInt64)), (0, .ref (am 0)), (1, .int x1), (2, .int x2)]) hx hb dX6_lots_52 rfl hl (by decide) rfl (fun ls hl => ?_)
            refine lv_iconst (v := (0 : Int32)) hx hb dX6_lots_53 (by decide) ?_
            refine lv_istore (lv' := [(5, .int (0 : Int32)), (3, .long (x2.toInt64)), (0, .ref (am 0)), (1, .int x1), (2, .int x2)]) hx hb dX6_lots_54 hl (by decide) rfl (fun ls hl => ?_)
            refine lv_iconst (v := (0 : Int32)) hx hb dX6_lots_56 (by decide) ?_
            refine lv_istore (lv' := [(6, .int (0 : Int32)), (5, .int (0 : Int32)), (3, .long (x2.toInt64)), (0, .ref (am 0)), (1, .int x1), (2, .int x2)]) hx hb dX6_lots_57 hl (by decide) rfl (fun ls hl => ?_)
            exact l59 x1 F (x2.toInt64) (0 : Int32) (0 : Int32) mdeeds mnow mbefore h _ _ hP hD hS _ (lv_sub hl [3, 4, 2, 1, 0] rfl)
          · have h := br_0 h c44
            refine lv_bipush (v := (-2 : Int32)) hx hb dX6_lots_47 (by decide) ?_
            cases h
            exact hret _ _ _ _ hP hD hS dX6_lots_49
        · have h := br_1 h c30
          refine lv_bipush (v := (-4 : Int32)) hx hb dX6_lots_33 (by decide) ?_
          cases h
          exact hret _ _ _ _ hP hD hS dX6_lots_35
      · have h := br_1 h c21
        refine lv_iconst (v := (-1 : Int32)) hx hb dX6_lots_24 (by decide) ?_
        cases h
        exact hret _ _ _ _ hP hD hS dX6_lots_25
  exact key _ (fun H locs pc ls hP hD hS hd => W.iret hx hb hr (fun t ht hW => ⟨⟨_, (), rfl, rfl, by show _ ∧ _; rw [ht]; exact ⟨hP, hD⟩⟩, hS.F ht⟩) hS.2.2 hd)
set_option maxHeartbeats 4000000 in
set_option maxRecDepth 100000 in
theorem kX6_asked (l : Launch) (D : va_G) (T : Nat → ClassId) (F : Nat) (am : Nat → Nat) (mguests : Int32) (mclause : Int32) (mdeeds : Int32) (masked : Int32) (mupper : Int64) (mlower : Int64) (mfinding : Int32) (mreadGuests : Int32) (misSight : Int32) (mat : Int32) (mrowSizes : Nat → Int32) (mrows : Nat → Int32) (mtextSizes : Nat → Int32) (mtexts : Nat → Int32) (mdoes : Nat → Int32) (mkinds : Nat → Int32) (msees : Nat → Int32) (mnow : Nat → Int32) (mbefore : Nat → Int32) (mkeeps : Nat → Int32) (mkept : Nat → Int32) (mfindings : Nat → Int32) (mread : Nat → Int32) (maside : Nat → Int32) (msteps : Nat → Int32) (mtried : Nat → Int32) (mbest : Nat → Int32) (r : Int32) (h : fX6_asked F masked = some (r)) : Met l yX6_asked wsX6_asked ({ frames := 0, cells := 0, slots := 0, locals := 0 } : Room) (va_Pc [.ref (am 0)] (fun U => va_P D vwCl (wMo T am mguests mclause mdeeds masked mupper mlower mfinding mreadGuests misSight mat mrowSizes mrows mtextSizes mtexts mdoes mkinds msees mnow mbefore mkeeps mkept mfindings mread maside msteps mtried mbest) U.heap ∧ KK D T U)) (vp_Si (fun r' => r' = r)) 0 0 (fun _ => False) := by
  refine Met.ofW (cc := cX6_asked) (maxL := 1) (ret := some .int) (by decide) rfl ?_
  intro p e s m args below meth c s₁ B hml hv
  obtain ⟨ha, hP, hKK⟩ := hv
  have hx := B.exec
  have hb := B.bytes
  have hr := B.returns
  have hts := atoms_spec (ws := wsX6_asked) B.pre
  have hown : s.vm.findClass RX6 = some m.cls := findClass_of_methodNamed B.named
  have hlocks := B.notSynchronized
  have hK := hKK.1
  have hFix : CallFix p m c cX6_asked 1 s args wsX6_asked RX6 := ⟨hx, hb, hml, hown, hts⟩
  have q1 := hts _ (List.mem_of_getElem? (i := 1) (show wsX6_asked[1]? = some (Cond.fieldLink RX6 70 "PartyWillModel" "asked" "I") from rfl))
  have iX6 : ∀ w ∈ u_ws RX6 TX6 27, w ∈ wsX6_asked := fun w h => List.mem_cons_of_mem _ (List.mem_append_right _ (h))
  obtain ⟨ls, hl, e0⟩ := my_entry (m := m) (n := 1) ha (Nat.le_of_ble_eq_true rfl)
  rw [e0]
  have hl : lv_has ls 1 [(0, .ref (am 0))] := hl
  have key : ∀ Q : State → Prop, (∀ (pc : Nat) (ls : Array Slot), decode cX6_asked pc = .ok (.ireturn, 1) → W p l e ({ frames := 0, cells := 0, slots := 0, locals := 0 } : Room) s m args below meth c s.heap [] 0 0 Q (F0 m pc ls [.int r])) → W p l e ({ frames := 0, cells := 0, slots := 0, locals := 0 } : Room) s m args below meth c s.heap [] 0 0 Q (F0 m 0 ls []) := by
    intro Q hret
    unfold fX6_asked at h
    refine lv_aload_n hx hb dX6_asked_0 rfl (lv_at hl 0 rfl) ?_
    refine va_get (D := D) (ci := 4) (C := RX6) (T := TX6) (N := 27) hx hb hts iX6 hown hK hP 0 wMo_0 rfl 14 (by decide) q1 (fun _ h9 => h9) rfl dX6_asked_1 ?_
    cases h
    exact hret _ _ dX6_asked_4
  exact key _ (fun pc ls hd => W.iret hx hb hr (fun t ht hW => ⟨_, rfl, rfl, ht⟩) (fun q h => by cases h) hd)
set_option maxHeartbeats 4000000 in
set_option maxRecDepth 100000 in
theorem kX6_upper (l : Launch) (D : va_G) (T : Nat → ClassId) (F : Nat) (am : Nat → Nat) (mguests : Int32) (mclause : Int32) (mdeeds : Int32) (masked : Int32) (mupper : Int64) (mlower : Int64) (mfinding : Int32) (mreadGuests : Int32) (misSight : Int32) (mat : Int32) (mrowSizes : Nat → Int32) (mrows : Nat → Int32) (mtextSizes : Nat → Int32) (mtexts : Nat → Int32) (mdoes : Nat → Int32) (mkinds : Nat → Int32) (msees : Nat → Int32) (mnow : Nat → Int32) (mbefore : Nat → Int32) (mkeeps : Nat → Int32) (mkept : Nat → Int32) (mfindings : Nat → Int32) (mread : Nat → Int32) (maside : Nat → Int32) (msteps : Nat → Int32) (mtried : Nat → Int32) (mbest : Nat → Int32) (r : Int64) (h : fX6_upper F mupper = some (r)) : Met l yX6_upper wsX6_upper ({ frames := 0, cells := 0, slots := 0, locals := 0 } : Room) (va_Pc [.ref (am 0)] (fun U => va_P D vwCl (wMo T am mguests mclause mdeeds masked mupper mlower mfinding mreadGuests misSight mat mrowSizes mrows mtextSizes mtexts mdoes mkinds msees mnow mbefore mkeeps mkept mfindings mread maside msteps mtried mbest) U.heap ∧ KK D T U)) (vp_Sl (fun r' => r' = r)) 0 0 (fun _ => False) := by
  refine Met.ofW (cc := cX6_upper) (maxL := 1) (ret := some .long) (by decide) rfl ?_
  intro p e s m args below meth c s₁ B hml hv
  obtain ⟨ha, hP, hKK⟩ := hv
  have hx := B.exec
  have hb := B.bytes
  have hr := B.returns
  have hts := atoms_spec (ws := wsX6_upper) B.pre
  have hown : s.vm.findClass RX6 = some m.cls := findClass_of_methodNamed B.named
  have hlocks := B.notSynchronized
  have hK := hKK.1
  have hFix : CallFix p m c cX6_upper 1 s args wsX6_upper RX6 := ⟨hx, hb, hml, hown, hts⟩
  have q1 := hts _ (List.mem_of_getElem? (i := 1) (show wsX6_upper[1]? = some (Cond.fieldLink RX6 230 "PartyWillModel" "upper" "J") from rfl))
  have iX6 : ∀ w ∈ u_ws RX6 TX6 27, w ∈ wsX6_upper := fun w h => List.mem_cons_of_mem _ (List.mem_append_right _ (h))
  obtain ⟨ls, hl, e0⟩ := my_entry (m := m) (n := 1) ha (Nat.le_of_ble_eq_true rfl)
  rw [e0]
  have hl : lv_has ls 1 [(0, .ref (am 0))] := hl
  have key : ∀ Q : State → Prop, (∀ (pc : Nat) (ls : Array Slot), decode cX6_upper pc = .ok (.lreturn, 1) → W p l e ({ frames := 0, cells := 0, slots := 0, locals := 0 } : Room) s m args below meth c s.heap [] 0 0 Q (F0 m pc ls [.long r])) → W p l e ({ frames := 0, cells := 0, slots := 0, locals := 0 } : Room) s m args below meth c s.heap [] 0 0 Q (F0 m 0 ls []) := by
    intro Q hret
    unfold fX6_upper at h
    refine lv_aload_n hx hb dX6_upper_0 rfl (lv_at hl 0 rfl) ?_
    refine va_get (D := D) (ci := 4) (C := RX6) (T := TX6) (N := 27) hx hb hts iX6 hown hK hP 0 wMo_0 rfl 15 (by decide) q1 (fun _ h9 => h9) rfl dX6_upper_1 ?_
    cases h
    exact hret _ _ dX6_upper_4
  exact key _ (fun pc ls hd => W.lret hx hb hr (fun t ht hW => ⟨_, rfl, rfl, ht⟩) (fun q h => by cases h) hd)
set_option maxHeartbeats 4000000 in
set_option maxRecDepth 100000 in
theorem kX6_lower (l : Launch) (D : va_G) (T : Nat → ClassId) (F : Nat) (am : Nat → Nat) (mguests : Int32) (mclause : Int32) (mdeeds : Int32) (masked : Int32) (mupper : Int64) (mlower : Int64) (mfinding : Int32) (mreadGuests : Int32) (misSight : Int32) (mat : Int32) (mrowSizes : Nat → Int32) (mrows : Nat → Int32) (mtextSizes : Nat → Int32) (mtexts : Nat → Int32) (mdoes : Nat → Int32) (mkinds : Nat → Int32) (msees : Nat → Int32) (mnow : Nat → Int32) (mbefore : Nat → Int32) (mkeeps : Nat → Int32) (mkept : Nat → Int32) (mfindings : Nat → Int32) (mread : Nat → Int32) (maside : Nat → Int32) (msteps : Nat → Int32) (mtried : Nat → Int32) (mbest : Nat → Int32) (r : Int64) (h : fX6_lower F mlower = some (r)) : Met l yX6_lower wsX6_lower ({ frames := 0, cells := 0, slots := 0, locals := 0 } : Room) (va_Pc [.ref (am 0)] (fun U => va_P D vwCl (wMo T am mguests mclause mdeeds masked mupper mlower mfinding mreadGuests misSight mat mrowSizes mrows mtextSizes mtexts mdoes mkinds msees mnow mbefore mkeeps mkept mfindings mread maside msteps mtried mbest) U.heap ∧ KK D T U)) (vp_Sl (fun r' => r' = r)) 0 0 (fun _ => False) := by
  refine Met.ofW (cc := cX6_lower) (maxL := 1) (ret := some .long) (by decide) rfl ?_
  intro p e s m args below meth c s₁ B hml hv
  obtain ⟨ha, hP, hKK⟩ := hv
  have hx := B.exec
  have hb := B.bytes
  have hr := B.returns
  have hts := atoms_spec (ws := wsX6_lower) B.pre
  have hown : s.vm.findClass RX6 = some m.cls := findClass_of_methodNamed B.named
  have hlocks := B.notSynchronized
  have hK := hKK.1
  have hFix : CallFix p m c cX6_lower 1 s args wsX6_lower RX6 := ⟨hx, hb, hml, hown, hts⟩
  have q1 := hts _ (List.mem_of_getElem? (i := 1) (show wsX6_lower[1]? = some (Cond.fieldLink RX6 44 "PartyWillModel" "lower" "J") from rfl))
  have iX6 : ∀ w ∈ u_ws RX6 TX6 27, w ∈ wsX6_lower := fun w h => List.mem_cons_of_mem _ (List.mem_append_right _ (h))
  obtain ⟨ls, hl, e0⟩ := my_entry (m := m) (n := 1) ha (Nat.le_of_ble_eq_true rfl)
  rw [e0]
  have hl : lv_has ls 1 [(0, .ref (am 0))] := hl
  have key : ∀ Q : State → Prop, (∀ (pc : Nat) (ls : Array Slot), decode cX6_lower pc = .ok (.lreturn, 1) → W p l e ({ frames := 0, cells := 0, slots := 0, locals := 0 } : Room) s m args below meth c s.heap [] 0 0 Q (F0 m pc ls [.long r])) → W p l e ({ frames := 0, cells := 0, slots := 0, locals := 0 } : Room) s m args below meth c s.heap [] 0 0 Q (F0 m 0 ls []) := by
    intro Q hret
    unfold fX6_lower at h
    refine lv_aload_n hx hb dX6_lower_0 rfl (lv_at hl 0 rfl) ?_
    refine va_get (D := D) (ci := 4) (C := RX6) (T := TX6) (N := 27) hx hb hts iX6 hown hK hP 0 wMo_0 rfl 16 (by decide) q1 (fun _ h9 => h9) rfl dX6_lower_1 ?_
    cases h
    exact hret _ _ dX6_lower_4
  exact key _ (fun pc ls hd => W.lret hx hb hr (fun t ht hW => ⟨_, rfl, rfl, ht⟩) (fun q h => by cases h) hd)
set_option maxHeartbeats 4000000 in
set_option maxRecDepth 100000 in
theorem kX6_kindsOf (l : Launch) (D : va_G) (T : Nat → ClassId) (F : Nat) (am : Nat → Nat) (mguests : Int32) (mclause : Int32) (mdeeds : Int32) (masked : Int32) (mupper : Int64) (mlower : Int64) (mfinding : Int32) (mreadGuests : Int32) (misSight : Int32) (mat : Int32) (mrowSizes : Nat → Int32) (mrows : Nat → Int32) (mtextSizes : Nat → Int32) (mtexts : Nat → Int32) (mdoes : Nat → Int32) (mkinds : Nat → Int32) (msees : Nat → Int32) (mnow : Nat → Int32) (mbefore : Nat → Int32) (mkeeps : Nat → Int32) (mkept : Nat → Int32) (mfindings : Nat → Int32) (mread : Nat → Int32) (maside : Nat → Int32) (msteps : Nat → Int32) (mtried : Nat → Int32) (mbest : Nat → Int32) (x1 : Int32) (r : Int32) (h : fX6_kindsOf F mguests mkinds x1 = some (r)) : Met l yX6_kindsOf wsX6_kindsOf ({ frames := 1, cells := 0, slots := 0, locals := 21 } : Room) (va_Pc [.ref (am 0), .int x1] (fun U => va_P D vwCl (wMo T am mguests mclause mdeeds masked mupper mlower mfinding mreadGuests misSight mat mrowSizes mrows mtextSizes mtexts mdoes mkinds msees mnow mbefore mkeeps mkept mfindings mread maside msteps mtried mbest) U.heap ∧ KK D T U)) (vp_Si (fun r' => r' = r)) 0 0 (fun _ => False) := by
  refine Met.ofW (cc := cX6_kindsOf) (maxL := 4) (ret := some .int) (by decide) rfl ?_
  intro p e s m args below meth c s₁ B hml hv
  obtain ⟨ha, hP, hKK⟩ := hv
  have hx := B.exec
  have hb := B.bytes
  have hr := B.returns
  have hts := atoms_spec (ws := wsX6_kindsOf) B.pre
  have hown : s.vm.findClass RX6 = some m.cls := findClass_of_methodNamed B.named
  have hlocks := B.notSynchronized
  have hK := hKK.1
  have hFix : CallFix p m c cX6_kindsOf 4 s args wsX6_kindsOf RX6 := ⟨hx, hb, hml, hown, hts⟩
  have q1 := hts _ (List.mem_of_getElem? (i := 1) (show wsX6_kindsOf[1]? = some (Cond.fieldLink RX6 131 "PartyWillModel" "guests" "I") from rfl))
  have q2 := hts _ (List.mem_of_getElem? (i := 2) (show wsX6_kindsOf[2]? = some (Cond.fieldLink RX6 25 "PartyWillModel" "kinds" "[I") from rfl))
  have iX6 : ∀ w ∈ u_ws RX6 TX6 27, w ∈ wsX6_kindsOf := fun w h => List.mem_cons_of_mem _ (List.mem_append_right _ (h))
  obtain ⟨ls, hl, e0⟩ := my_entry (m := m) (n := 4) ha (Nat.le_of_ble_eq_true rfl)
  rw [e0]
  have hl : lv_has ls 4 [(0, .ref (am 0)), (1, .int x1)] := hl
  have key : ∀ Q : State → Prop, (∀ (pc : Nat) (ls : Array Slot), decode cX6_kindsOf pc = .ok (.ireturn, 1) → W p l e ({ frames := 1, cells := 0, slots := 0, locals := 21 } : Room) s m args below meth c s.heap [] 0 0 Q (F0 m pc ls [.int r])) → W p l e ({ frames := 1, cells := 0, slots := 0, locals := 21 } : Room) s m args below meth c s.heap [] 0 0 Q (F0 m 0 ls []) := by
    intro Q hret
    have l4 : ∀ x1 : Int32, ∀ nu : Nat, ∀ x2 : Int32, ∀ x3 : Int32, fX6_kindsOf_l4 F mguests mkinds x1 nu x2 x3 = some (r) → ∀ (ls : Array Slot), lv_has ls 4 [(0, .ref (am 0)), (1, .int x1), (2, .int x2), (3, .int x3)] → W p l e ({ frames := 1, cells := 0, slots := 0, locals := 21 } : Room) s m args below meth c s.heap [] 0 0 Q (F0 m 4 ls []) := by
      intro x1
      intro nu
      induction nu with
      | zero => intro x2 x3 h; exact none_some h
      | succ nu4 ih4 =>
        intro x2 x3 h ls hl
        have h : fX6_kindsOf_l4_b F mguests mkinds x1 (fX6_kindsOf_l4 F mguests mkinds x1 nu4) x2 x3 = some (r) := h
        unfold fX6_kindsOf_l4_b at h
        refine lv_iload_n hx hb dX6_kindsOf_4 rfl (lv_at hl 3 rfl) ?_
        refine lv_aload_n hx hb dX6_kindsOf_5 rfl (lv_at hl 0 rfl) ?_
        refine va_get (D := D) (ci := 4) (C := RX6) (T := TX6) (N := 27) hx hb hts iX6 hown hK hP 0 wMo_0 rfl 4 (by decide) q1 (fun _ h9 => h9) rfl dX6_kindsOf_6 ?_
        refine lv_icmp_ge (tgt := 39) hx hb dX6_kindsOf_9 (by decide) (fun c9 => ?_) (fun c9 => ?_)
        · have h := br_1 h c9
          refine lv_iload_n hx hb dX6_kindsOf_39 rfl (lv_at hl 2 rfl) ?_
          cases h
          exact hret _ _ dX6_kindsOf_40
        · have h := br_0 h c9
          refine lv_iload_n hx hb dX6_kindsOf_12 rfl (lv_at hl 2 rfl) ?_
          refine lv_aload_n hx hb dX6_kindsOf_13 rfl (lv_at hl 0 rfl) ?_
          refine va_get (D := D) (ci := 4) (C := RX6) (T := TX6) (N := 27) hx hb hts iX6 hown hK hP 0 wMo_0 rfl 7 (by decide) q2 (fun _ h9 => h9) rfl dX6_kindsOf_14 ?_
          refine lv_iload_n hx hb dX6_kindsOf_17 rfl (lv_at hl 3 rfl) ?_
          obtain ⟨hin1, h⟩ := ck_some h
          refine va_iald hx hb hK hP 6 0 wMo_6 rfl hin1 dX6_kindsOf_18 ?_
          refine lv_iload_n hx hb dX6_kindsOf_19 rfl (lv_at hl 1 rfl) ?_
          obtain ⟨r20, hc, h⟩ := bd1_some h
          refine my_roz (va_Run.run (va_runS (As := [.int (mkinds x3.toNatClampNeg), .int x1]) (rest := [.int x2]) hFix (kX6_isOf l D T F (mkinds x3.toNatClampNeg) x1 r20 hc) (va_cwS 2 hts gX6_kindsOf_X6_isOf rfl rfl rfl hd_X6_isOf ⟨Nat.le_of_ble_eq_true rfl, Nat.le_of_ble_eq_true rfl⟩) (preS_ro va_nil hKK) rfl rfl hl.1 rfl (lv_room (Nat.le_of_ble_eq_true rfl)) dX6_kindsOf_20 ⟨Nat.zero_le _, Nat.zero_le _⟩)) (fun hb20 => ?_)
          refine lv_if_eq (tgt := 30) hx hb dX6_kindsOf_23 (by decide) (fun c23 => ?_) (fun c23 => ?_)
          · have h := br_1 h c23
            refine lv_iconst (v := (0 : Int32)) hx hb dX6_kindsOf_30 (by decide) ?_
            refine lv_iadd hx hb dX6_kindsOf_31 ?_
            refine lv_istore_n (lv' := [(2, .int (x2 + (0 : Int32))), (0, .ref (am 0)), (1, .int x1), (3, .int x3)]) hx hb dX6_kindsOf_32 rfl hl (by decide) rfl (fun ls hl => ?_)
            refine lv_iinc (v := (x3 + (1 : Int32))) (lv' := [(3, .int (x3 + (1 : Int32))), (2, .int (x2 + (0 : Int32))), (0, .ref (am 0)), (1, .int x1)]) hx hb dX6_kindsOf_33 hl (k := 3) rfl rfl (by decide) rfl (fun ls hl => ?_)
            refine lv_goto (tgt := 4) hx hb dX6_kindsOf_36 (by decide) ?_
            exact ih4 (x2 + (0 : Int32)) (x3 + (1 : Int32)) h _ (lv_sub hl [2, 3, 1, 0] rfl)
          · have h := br_0 h c23
            refine lv_iconst (v := (1 : Int32)) hx hb dX6_kindsOf_26 (by decide) ?_
            refine lv_goto (tgt := 31) hx hb dX6_kindsOf_27 (by decide) ?_
            refine lv_iadd hx hb dX6_kindsOf_31 ?_
            refine lv_istore_n (lv' := [(2, .int (x2 + (1 : Int32))), (0, .ref (am 0)), (1, .int x1), (3, .int x3)]) hx hb dX6_kindsOf_32 rfl hl (by decide) rfl (fun ls hl => ?_)
            refine lv_iinc (v := (x3 + (1 : Int32))) (lv' := [(3, .int (x3 + (1 : Int32))), (2, .int (x2 + (1 : Int32))), (0, .ref (am 0)), (1, .int x1)]) hx hb dX6_kindsOf_33 hl (k := 3) rfl rfl (by decide) rfl (fun ls hl => ?_)
            refine lv_goto (tgt := 4) hx hb dX6_kindsOf_36 (by decide) ?_
            exact ih4 (x2 + (1 : Int32)) (x3 + (1 : Int32)) h _ (lv_sub hl [2, 3, 1, 0] rfl)
    unfold fX6_kindsOf at h
    refine lv_iconst (v := (0 : Int32)) hx hb dX6_kindsOf_0 (by decide) ?_
    refine lv_istore_n (lv' := [(2, .int (0 : Int32)), (0, .ref (am 0)), (1, .int x1)]) hx hb dX6_kindsOf_1 rfl hl (by decide) rfl (fun ls hl => ?_)
    refine lv_iconst (v := (0 : Int32)) hx hb dX6_kindsOf_2 (by decide) ?_
    refine lv_istore_n (lv' := [(3, .int (0 : Int32)), (2, .int (0 : Int32)), (0, .ref (am 0)), (1, .int x1)]) hx hb dX6_kindsOf_3 rfl hl (by decide) rfl (fun ls hl => ?_)
    exact l4 x1 F (0 : Int32) (0 : Int32) h _ (lv_sub hl [2, 3, 1, 0] rfl)
  exact key _ (fun pc ls hd => W.iret hx hb hr (fun t ht hW => ⟨_, rfl, rfl, ht⟩) (fun q h => by cases h) hd)
set_option maxHeartbeats 4000000 in
set_option maxRecDepth 100000 in
theorem kX6_counted (l : Launch) (D : va_G) (T : Nat → ClassId) (F : Nat) (am : Nat → Nat) (mguests : Int32) (mclause : Int32) (mdeeds : Int32) (masked : Int32) (mupper : Int64) (mlower : Int64) (mfinding : Int32) (mreadGuests : Int32) (misSight : Int32) (mat : Int32) (mrowSizes : Nat → Int32) (mrows : Nat → Int32) (mtextSizes : Nat → Int32) (mtexts : Nat → Int32) (mdoes : Nat → Int32) (mkinds : Nat → Int32) (msees : Nat → Int32) (mnow : Nat → Int32) (mbefore : Nat → Int32) (mkeeps : Nat → Int32) (mkept : Nat → Int32) (mfindings : Nat → Int32) (mread : Nat → Int32) (maside : Nat → Int32) (msteps : Nat → Int32) (mtried : Nat → Int32) (mbest : Nat → Int32) (x1 : Int32) (r : Int32) (h : fX6_counted F mguests mclause mdeeds mrowSizes mtextSizes mkinds mnow mkept x1 = some (r)) : Met l yX6_counted wsX6_counted ({ frames := 2, cells := 0, slots := 0, locals := 44 } : Room) (va_Pc [.ref (am 0), .int x1] (fun U => va_P D vwCl (wMo T am mguests mclause mdeeds masked mupper mlower mfinding mreadGuests misSight mat mrowSizes mrows mtextSizes mtexts mdoes mkinds msees mnow mbefore mkeeps mkept mfindings mread maside msteps mtried mbest) U.heap ∧ KK D T U)) (vp_Si (fun r' => r' = r)) 0 0 (fun _ => False) := by
  refine Met.ofW (cc := cX6_counted) (maxL := 4) (ret := some .int) (by decide) rfl ?_
  intro p e s m args below meth c s₁ B hml hv
  obtain ⟨ha, hP, hKK⟩ := hv
  have hx := B.exec
  have hb := B.bytes
  have hr := B.returns
  have hts := atoms_spec (ws := wsX6_counted) B.pre
  have hown : s.vm.findClass RX6 = some m.cls := findClass_of_methodNamed B.named
  have hlocks := B.notSynchronized
  have hK := hKK.1
  have hFix : CallFix p m c cX6_counted 4 s args wsX6_counted RX6 := ⟨hx, hb, hml, hown, hts⟩
  have q1 := hts _ (List.mem_of_getElem? (i := 1) (show wsX6_counted[1]? = some (Cond.fieldLink RX6 7 "PartyWillModel" "rowSizes" "[I") from rfl))
  have q2 := hts _ (List.mem_of_getElem? (i := 2) (show wsX6_counted[2]? = some (Cond.fieldLink RX6 16 "PartyWillModel" "textSizes" "[I") from rfl))
  have q3 := hts _ (List.mem_of_getElem? (i := 3) (show wsX6_counted[3]? = some (Cond.fieldLink RX6 40 "PartyWillModel" "kept" "[Z") from rfl))
  have q4 := hts _ (List.mem_of_getElem? (i := 4) (show wsX6_counted[4]? = some (Cond.fieldLink RX6 131 "PartyWillModel" "guests" "I") from rfl))
  have q5 := hts _ (List.mem_of_getElem? (i := 5) (show wsX6_counted[5]? = some (Cond.fieldLink RX6 134 "PartyWillModel" "clause" "I") from rfl))
  have q6 := hts _ (List.mem_of_getElem? (i := 6) (show wsX6_counted[6]? = some (Cond.fieldLink RX6 137 "PartyWillModel" "deeds" "I") from rfl))
  have q7 := hts _ (List.mem_of_getElem? (i := 7) (show wsX6_counted[7]? = some (Cond.fieldLink RX6 31 "PartyWillModel" "now" "[I") from rfl))
  have iX6 : ∀ w ∈ u_ws RX6 TX6 27, w ∈ wsX6_counted := fun w h => List.mem_cons_of_mem _ (List.mem_append_right _ (h))
  obtain ⟨ls, hl, e0⟩ := my_entry (m := m) (n := 4) ha (Nat.le_of_ble_eq_true rfl)
  rw [e0]
  have hl : lv_has ls 4 [(0, .ref (am 0)), (1, .int x1)] := hl
  have key : ∀ Q : State → Prop, (∀ (pc : Nat) (ls : Array Slot), decode cX6_counted pc = .ok (.ireturn, 1) → W p l e ({ frames := 2, cells := 0, slots := 0, locals := 44 } : Room) s m args below meth c s.heap [] 0 0 Q (F0 m pc ls [.int r])) → W p l e ({ frames := 2, cells := 0, slots := 0, locals := 44 } : Room) s m args below meth c s.heap [] 0 0 Q (F0 m 0 ls []) := by
    intro Q hret
    have n111 : ∀ x1 : Int32, ∀ x2 : Int32, fX6_counted_n111 F mguests mclause mdeeds mrowSizes mtextSizes mkinds mnow mkept x1 x2 = some (r) → ∀ (ls : Array Slot), lv_has ls 4 [(0, .ref (am 0)), (1, .int x1), (2, .int x2)] → W p l e ({ frames := 2, cells := 0, slots := 0, locals := 44 } : Room) s m args below meth c s.heap [] 0 0 Q (F0 m 111 ls []) := by
      intro x1 x2 h ls hl
      unfold fX6_counted_n111 at h
      refine lv_iload_n hx hb dX6_counted_111 rfl (lv_at hl 1 rfl) ?_
      by_cases z112_0 : x1 = (0 : Int32)
      · have h := br_1 h z112_0
        refine lv_tableIn (tgt := 156) (off := 44) hx hb dX6_counted_112 (by rw [z112_0]; decide) (by rw [z112_0]; decide) (by rw [z112_0]; decide) (by decide) ?_
        refine lv_aload_n hx hb dX6_counted_156 rfl (lv_at hl 0 rfl) ?_
        refine va_get (D := D) (ci := 4) (C := RX6) (T := TX6) (N := 27) hx hb hts iX6 hown hK hP 0 wMo_0 rfl 4 (by decide) q4 (fun _ h9 => h9) rfl dX6_counted_157 ?_
        cases h
        exact hret _ _ dX6_counted_160
      have h := br_0 h z112_0
      by_cases z112_1 : x1 = (1 : Int32)
      · have h := br_1 h z112_1
        refine lv_tableIn (tgt := 161) (off := 49) hx hb dX6_counted_112 (by rw [z112_1]; decide) (by rw [z112_1]; decide) (by rw [z112_1]; decide) (by decide) ?_
        refine lv_aload_n hx hb dX6_counted_161 rfl (lv_at hl 0 rfl) ?_
        refine va_get (D := D) (ci := 4) (C := RX6) (T := TX6) (N := 27) hx hb hts iX6 hown hK hP 0 wMo_0 rfl 5 (by decide) q5 (fun _ h9 => h9) rfl dX6_counted_162 ?_
        cases h
        exact hret _ _ dX6_counted_165
      have h := br_0 h z112_1
      by_cases z112_2 : x1 = (2 : Int32)
      · have h := br_1 h z112_2
        refine lv_tableIn (tgt := 166) (off := 54) hx hb dX6_counted_112 (by rw [z112_2]; decide) (by rw [z112_2]; decide) (by rw [z112_2]; decide) (by decide) ?_
        refine lv_aload_n hx hb dX6_counted_166 rfl (lv_at hl 0 rfl) ?_
        refine va_get (D := D) (ci := 4) (C := RX6) (T := TX6) (N := 27) hx hb hts iX6 hown hK hP 0 wMo_0 rfl 10 (by decide) q6 (fun _ h9 => h9) rfl dX6_counted_167 ?_
        cases h
        exact hret _ _ dX6_counted_170
      have h := br_0 h z112_2
      by_cases z112_3 : x1 = (3 : Int32)
      · have h := br_1 h z112_3
        refine lv_tableIn (tgt := 171) (off := 59) hx hb dX6_counted_112 (by rw [z112_3]; decide) (by rw [z112_3]; decide) (by rw [z112_3]; decide) (by decide) ?_
        refine lv_aload_n hx hb dX6_counted_171 rfl (lv_at hl 0 rfl) ?_
        refine lv_aload_n hx hb dX6_counted_172 rfl (lv_at hl 0 rfl) ?_
        refine va_get (D := D) (ci := 4) (C := RX6) (T := TX6) (N := 27) hx hb hts iX6 hown hK hP 0 wMo_0 rfl 9 (by decide) q7 (fun _ h9 => h9) rfl dX6_counted_173 ?_
        obtain ⟨r176, hc, h⟩ := bd1_some h
        have hPc : va_P D vwCl (wMi T am (am 8) mguests mclause mdeeds masked mupper mlower mfinding mreadGuests misSight mat mnow) s.heap := my_subP sb_wMo_wMi_0_8 hP
        refine my_roi (va_Run.run (va_runV (As := [.ref (am 8)]) (rest := []) hFix (kX6_inside l D T F am (am 8) mguests mclause mdeeds masked mupper mlower mfinding mreadGuests misSight mat mnow r176 hc) (cwV 1 hts gX6_counted_X6_inside rfl rfl rfl ⟨rfl, hd_X6_inside⟩ ⟨Nat.le_of_ble_eq_true rfl, Nat.le_of_ble_eq_true rfl⟩) (preV_ro hPc hKK (va_recv hK hP (ci := 4) (q0 := 0) rfl wMo_0)) rfl rfl hl.1 rfl (lv_room (Nat.le_of_ble_eq_true rfl)) dX6_counted_176 ⟨Nat.zero_le _, Nat.zero_le _⟩)) ?_
        obtain ⟨r179, hc, h⟩ := bd1_some h
        refine my_roi (va_Run.run (va_runS (As := [.int r176]) (rest := []) hFix (kX6_bits l D T F r176 r179 hc) (va_cwS 1 hts gX6_counted_X6_bits rfl rfl rfl hd_X6_bits ⟨Nat.le_of_ble_eq_true rfl, Nat.le_of_ble_eq_true rfl⟩) (preS_ro va_nil hKK) rfl rfl hl.1 rfl (lv_room (Nat.le_of_ble_eq_true rfl)) dX6_counted_179 ⟨Nat.zero_le _, Nat.zero_le _⟩)) ?_
        cases h
        exact hret _ _ dX6_counted_182
      have h := br_0 h z112_3
      by_cases z112_4 : x1 = (4 : Int32)
      · have h := br_1 h z112_4
        refine lv_tableIn (tgt := 183) (off := 71) hx hb dX6_counted_112 (by rw [z112_4]; decide) (by rw [z112_4]; decide) (by rw [z112_4]; decide) (by decide) ?_
        refine lv_aload_n hx hb dX6_counted_183 rfl (lv_at hl 0 rfl) ?_
        refine va_get (D := D) (ci := 4) (C := RX6) (T := TX6) (N := 27) hx hb hts iX6 hown hK hP 0 wMo_0 rfl 9 (by decide) q7 (fun _ h9 => h9) rfl dX6_counted_184 ?_
        obtain ⟨r187, hc, h⟩ := bd1_some h
        have hPc : va_P D vwCl (wA1 T (am 8) 7 mnow) s.heap := my_subP sb_wMo_wA1_8 hP
        refine my_roi (va_Run.run (va_runS (As := [.ref (am 8)]) (rest := []) hFix (kX6_sumOf l D T F (am 8) 7 mnow r187 hc) (va_cwS 1 hts gX6_counted_X6_sumOf rfl rfl rfl hd_X6_sumOf ⟨Nat.le_of_ble_eq_true rfl, Nat.le_of_ble_eq_true rfl⟩) (preS_ro hPc hKK) rfl rfl hl.1 rfl (lv_room (Nat.le_of_ble_eq_true rfl)) dX6_counted_187 ⟨Nat.zero_le _, Nat.zero_le _⟩)) ?_
        cases h
        exact hret _ _ dX6_counted_190
      have h := br_0 h z112_4
      by_cases z112_5 : x1 = (5 : Int32)
      · have h := br_1 h z112_5
        refine lv_tableIn (tgt := 191) (off := 79) hx hb dX6_counted_112 (by rw [z112_5]; decide) (by rw [z112_5]; decide) (by rw [z112_5]; decide) (by decide) ?_
        refine lv_aload_n hx hb dX6_counted_191 rfl (lv_at hl 0 rfl) ?_
        refine lv_iconst (v := (1 : Int32)) hx hb dX6_counted_192 (by decide) ?_
        obtain ⟨r193, hc, h⟩ := bd1_some h
        refine my_roi (va_Run.run (va_runV (As := [.int (1 : Int32)]) (rest := []) hFix (kX6_kindsOf l D T F am mguests mclause mdeeds masked mupper mlower mfinding mreadGuests misSight mat mrowSizes mrows mtextSizes mtexts mdoes mkinds msees mnow mbefore mkeeps mkept mfindings mread maside msteps mtried mbest (1 : Int32) r193 hc) (cwV 1 hts gX6_counted_X6_kindsOf rfl rfl rfl ⟨rfl, hd_X6_kindsOf⟩ ⟨Nat.le_of_ble_eq_true rfl, Nat.le_of_ble_eq_true rfl⟩) (preV_ro hP hKK (va_recv hK hP (ci := 4) (q0 := 0) rfl wMo_0)) rfl rfl hl.1 rfl (lv_room (Nat.le_of_ble_eq_true rfl)) dX6_counted_193 ⟨Nat.zero_le _, Nat.zero_le _⟩)) ?_
        cases h
        exact hret _ _ dX6_counted_196
      have h := br_0 h z112_5
      by_cases z112_6 : x1 = (6 : Int32)
      · have h := br_1 h z112_6
        refine lv_tableIn (tgt := 197) (off := 85) hx hb dX6_counted_112 (by rw [z112_6]; decide) (by rw [z112_6]; decide) (by rw [z112_6]; decide) (by decide) ?_
        refine lv_aload_n hx hb dX6_counted_197 rfl (lv_at hl 0 rfl) ?_
        refine lv_iconst (v := (2 : Int32)) hx hb dX6_counted_198 (by decide) ?_
        obtain ⟨r199, hc, h⟩ := bd1_some h
        refine my_roi (va_Run.run (va_runV (As := [.int (2 : Int32)]) (rest := []) hFix (kX6_kindsOf l D T F am mguests mclause mdeeds masked mupper mlower mfinding mreadGuests misSight mat mrowSizes mrows mtextSizes mtexts mdoes mkinds msees mnow mbefore mkeeps mkept mfindings mread maside msteps mtried mbest (2 : Int32) r199 hc) (cwV 1 hts gX6_counted_X6_kindsOf rfl rfl rfl ⟨rfl, hd_X6_kindsOf⟩ ⟨Nat.le_of_ble_eq_true rfl, Nat.le_of_ble_eq_true rfl⟩) (preV_ro hP hKK (va_recv hK hP (ci := 4) (q0 := 0) rfl wMo_0)) rfl rfl hl.1 rfl (lv_room (Nat.le_of_ble_eq_true rfl)) dX6_counted_199 ⟨Nat.zero_le _, Nat.zero_le _⟩)) ?_
        cases h
        exact hret _ _ dX6_counted_202
      have h := br_0 h z112_6
      have e112_0 : x1.toInt ≠ 0 := fun e => z112_0 (Int32.toInt_inj.mp e)
      have e112_1 : x1.toInt ≠ 1 := fun e => z112_1 (Int32.toInt_inj.mp e)
      have e112_2 : x1.toInt ≠ 2 := fun e => z112_2 (Int32.toInt_inj.mp e)
      have e112_3 : x1.toInt ≠ 3 := fun e => z112_3 (Int32.toInt_inj.mp e)
      have e112_4 : x1.toInt ≠ 4 := fun e => z112_4 (Int32.toInt_inj.mp e)
      have e112_5 : x1.toInt ≠ 5 := fun e => z112_5 (Int32.toInt_inj.mp e)
      have e112_6 : x1.toInt ≠ 6 := fun e => z112_6 (Int32.toInt_inj.mp e)
      refine lv_tableOut (tgt := 203) hx hb dX6_counted_112 (by omega) (by decide) ?_
      refine lv_iload_n hx hb dX6_counted_203 rfl (lv_at hl 2 rfl) ?_
      cases h
      exact hret _ _ dX6_counted_204
    have l77 : ∀ x1 : Int32, ∀ nu : Nat, ∀ x2 : Int32, ∀ x3 : Int32, fX6_counted_l77 F mguests mclause mdeeds mrowSizes mtextSizes mkinds mnow mkept x1 nu x2 x3 = some (r) → ∀ (ls : Array Slot), lv_has ls 4 [(0, .ref (am 0)), (1, .int x1), (2, .int x2), (3, .int x3)] → W p l e ({ frames := 2, cells := 0, slots := 0, locals := 44 } : Room) s m args below meth c s.heap [] 0 0 Q (F0 m 77 ls []) := by
      intro x1
      intro nu
      induction nu with
      | zero => intro x2 x3 h; exact none_some h
      | succ nu77 ih77 =>
        intro x2 x3 h ls hl
        have h : fX6_counted_l77_b F mguests mclause mdeeds mrowSizes mtextSizes mkinds mnow mkept x1 (fX6_counted_l77 F mguests mclause mdeeds mrowSizes mtextSizes mkinds mnow mkept x1 nu77) x2 x3 = some (r) := h
        unfold fX6_counted_l77_b at h
        refine lv_iload_n hx hb dX6_counted_77 rfl (lv_at hl 3 rfl) ?_
        refine lv_iconst (v := (3 : Int32)) hx hb dX6_counted_78 (by decide) ?_
        refine lv_icmp_ge (tgt := 111) hx hb dX6_counted_79 (by decide) (fun c79 => ?_) (fun c79 => ?_)
        · have h := br_1 h c79
          exact n111 x1 x2 h _ (lv_sub hl [0, 1, 2] rfl)
        · have h := br_0 h c79
          refine lv_iload_n hx hb dX6_counted_82 rfl (lv_at hl 1 rfl) ?_
          refine lv_bipush (v := (9 : Int32)) hx hb dX6_counted_83 (by decide) ?_
          refine lv_icmp_ne (tgt := 111) hx hb dX6_counted_85 (by decide) (fun c85 => ?_) (fun c85 => ?_)
          · have h := br_0 h c85
            exact n111 x1 x2 h _ (lv_sub hl [0, 1, 2] rfl)
          · have h := br_1 h c85
            refine lv_iload_n hx hb dX6_counted_88 rfl (lv_at hl 2 rfl) ?_
            refine lv_aload_n hx hb dX6_counted_89 rfl (lv_at hl 0 rfl) ?_
            refine va_get (D := D) (ci := 4) (C := RX6) (T := TX6) (N := 27) hx hb hts iX6 hown hK hP 0 wMo_0 rfl 13 (by decide) q3 (fun _ h9 => h9) rfl dX6_counted_90 ?_
            refine lv_iload_n hx hb dX6_counted_93 rfl (lv_at hl 3 rfl) ?_
            obtain ⟨hin1, h⟩ := ck_some h
            refine va_zald hx hb hK hP 11 3 wMo_11 rfl hin1 dX6_counted_94 ?_
            refine lv_if_eq (tgt := 102) hx hb dX6_counted_95 (by decide) (fun c95 => ?_) (fun c95 => ?_)
            · have h := br_1 h c95
              refine lv_iconst (v := (0 : Int32)) hx hb dX6_counted_102 (by decide) ?_
              refine lv_iadd hx hb dX6_counted_103 ?_
              refine lv_istore_n (lv' := [(2, .int (x2 + (0 : Int32))), (0, .ref (am 0)), (1, .int x1), (3, .int x3)]) hx hb dX6_counted_104 rfl hl (by decide) rfl (fun ls hl => ?_)
              refine lv_iinc (v := (x3 + (1 : Int32))) (lv' := [(3, .int (x3 + (1 : Int32))), (2, .int (x2 + (0 : Int32))), (0, .ref (am 0)), (1, .int x1)]) hx hb dX6_counted_105 hl (k := 3) rfl rfl (by decide) rfl (fun ls hl => ?_)
              refine lv_goto (tgt := 77) hx hb dX6_counted_108 (by decide) ?_
              exact ih77 (x2 + (0 : Int32)) (x3 + (1 : Int32)) h _ (lv_sub hl [2, 3, 1, 0] rfl)
            · have h := br_0 h c95
              refine lv_iconst (v := (1 : Int32)) hx hb dX6_counted_98 (by decide) ?_
              refine lv_goto (tgt := 103) hx hb dX6_counted_99 (by decide) ?_
              refine lv_iadd hx hb dX6_counted_103 ?_
              refine lv_istore_n (lv' := [(2, .int (x2 + (1 : Int32))), (0, .ref (am 0)), (1, .int x1), (3, .int x3)]) hx hb dX6_counted_104 rfl hl (by decide) rfl (fun ls hl => ?_)
              refine lv_iinc (v := (x3 + (1 : Int32))) (lv' := [(3, .int (x3 + (1 : Int32))), (2, .int (x2 + (1 : Int32))), (0, .ref (am 0)), (1, .int x1)]) hx hb dX6_counted_105 hl (k := 3) rfl rfl (by decide) rfl (fun ls hl => ?_)
              refine lv_goto (tgt := 77) hx hb dX6_counted_108 (by decide) ?_
              exact ih77 (x2 + (1 : Int32)) (x3 + (1 : Int32)) h _ (lv_sub hl [2, 3, 1, 0] rfl)
    have l41 : ∀ x1 : Int32, ∀ nu : Nat, ∀ x2 : Int32, ∀ x3 : Int32, fX6_counted_l41 F mguests mclause mdeeds mrowSizes mtextSizes mkinds mnow mkept x1 nu x2 x3 = some (r) → ∀ (ls : Array Slot), lv_has ls 4 [(0, .ref (am 0)), (1, .int x1), (2, .int x2), (3, .int x3)] → W p l e ({ frames := 2, cells := 0, slots := 0, locals := 44 } : Room) s m args below meth c s.heap [] 0 0 Q (F0 m 41 ls []) := by
      intro x1
      intro nu
      induction nu with
      | zero => intro x2 x3 h; exact none_some h
      | succ nu41 ih41 =>
        intro x2 x3 h ls hl
        have h : fX6_counted_l41_b F mguests mclause mdeeds mrowSizes mtextSizes mkinds mnow mkept x1 (fX6_counted_l41 F mguests mclause mdeeds mrowSizes mtextSizes mkinds mnow mkept x1 nu41) x2 x3 = some (r) := h
        unfold fX6_counted_l41_b at h
        refine lv_iload_n hx hb dX6_counted_41 rfl (lv_at hl 3 rfl) ?_
        refine lv_iconst (v := (4 : Int32)) hx hb dX6_counted_42 (by decide) ?_
        refine lv_icmp_ge (tgt := 75) hx hb dX6_counted_43 (by decide) (fun c43 => ?_) (fun c43 => ?_)
        · have h := br_1 h c43
          refine lv_iconst (v := (0 : Int32)) hx hb dX6_counted_75 (by decide) ?_
          refine lv_istore_n (lv' := [(3, .int (0 : Int32)), (0, .ref (am 0)), (1, .int x1), (2, .int x2)]) hx hb dX6_counted_76 rfl hl (by decide) rfl (fun ls hl => ?_)
          exact l77 x1 F x2 (0 : Int32) h _ (lv_sub hl [1, 2, 3, 0] rfl)
        · have h := br_0 h c43
          refine lv_iload_n hx hb dX6_counted_46 rfl (lv_at hl 1 rfl) ?_
          refine lv_bipush (v := (8 : Int32)) hx hb dX6_counted_47 (by decide) ?_
          refine lv_icmp_ne (tgt := 75) hx hb dX6_counted_49 (by decide) (fun c49 => ?_) (fun c49 => ?_)
          · have h := br_0 h c49
            refine lv_iconst (v := (0 : Int32)) hx hb dX6_counted_75 (by decide) ?_
            refine lv_istore_n (lv' := [(3, .int (0 : Int32)), (0, .ref (am 0)), (1, .int x1), (2, .int x2)]) hx hb dX6_counted_76 rfl hl (by decide) rfl (fun ls hl => ?_)
            exact l77 x1 F x2 (0 : Int32) h _ (lv_sub hl [1, 2, 3, 0] rfl)
          · have h := br_1 h c49
            refine lv_iload_n hx hb dX6_counted_52 rfl (lv_at hl 2 rfl) ?_
            refine lv_aload_n hx hb dX6_counted_53 rfl (lv_at hl 0 rfl) ?_
            refine va_get (D := D) (ci := 4) (C := RX6) (T := TX6) (N := 27) hx hb hts iX6 hown hK hP 0 wMo_0 rfl 2 (by decide) q2 (fun _ h9 => h9) rfl dX6_counted_54 ?_
            refine lv_iload_n hx hb dX6_counted_57 rfl (lv_at hl 3 rfl) ?_
            obtain ⟨hin2, h⟩ := ck_some h
            refine va_iald hx hb hK hP 3 0 wMo_3 rfl hin2 dX6_counted_58 ?_
            refine lv_if_ge (tgt := 66) hx hb dX6_counted_59 (by decide) (fun c59 => ?_) (fun c59 => ?_)
            · have h := br_1 h c59
              refine lv_iconst (v := (1 : Int32)) hx hb dX6_counted_66 (by decide) ?_
              refine lv_iadd hx hb dX6_counted_67 ?_
              refine lv_istore_n (lv' := [(2, .int (x2 + (1 : Int32))), (0, .ref (am 0)), (1, .int x1), (3, .int x3)]) hx hb dX6_counted_68 rfl hl (by decide) rfl (fun ls hl => ?_)
              refine lv_iinc (v := (x3 + (1 : Int32))) (lv' := [(3, .int (x3 + (1 : Int32))), (2, .int (x2 + (1 : Int32))), (0, .ref (am 0)), (1, .int x1)]) hx hb dX6_counted_69 hl (k := 3) rfl rfl (by decide) rfl (fun ls hl => ?_)
              refine lv_goto (tgt := 41) hx hb dX6_counted_72 (by decide) ?_
              exact ih41 (x2 + (1 : Int32)) (x3 + (1 : Int32)) h _ (lv_sub hl [2, 3, 1, 0] rfl)
            · have h := br_0 h c59
              refine lv_iconst (v := (0 : Int32)) hx hb dX6_counted_62 (by decide) ?_
              refine lv_goto (tgt := 67) hx hb dX6_counted_63 (by decide) ?_
              refine lv_iadd hx hb dX6_counted_67 ?_
              refine lv_istore_n (lv' := [(2, .int (x2 + (0 : Int32))), (0, .ref (am 0)), (1, .int x1), (3, .int x3)]) hx hb dX6_counted_68 rfl hl (by decide) rfl (fun ls hl => ?_)
              refine lv_iinc (v := (x3 + (1 : Int32))) (lv' := [(3, .int (x3 + (1 : Int32))), (2, .int (x2 + (0 : Int32))), (0, .ref (am 0)), (1, .int x1)]) hx hb dX6_counted_69 hl (k := 3) rfl rfl (by decide) rfl (fun ls hl => ?_)
              refine lv_goto (tgt := 41) hx hb dX6_counted_72 (by decide) ?_
              exact ih41 (x2 + (0 : Int32)) (x3 + (1 : Int32)) h _ (lv_sub hl [2, 3, 1, 0] rfl)
    have l4 : ∀ x1 : Int32, ∀ nu : Nat, ∀ x2 : Int32, ∀ x3 : Int32, fX6_counted_l4 F mguests mclause mdeeds mrowSizes mtextSizes mkinds mnow mkept x1 nu x2 x3 = some (r) → ∀ (ls : Array Slot), lv_has ls 4 [(0, .ref (am 0)), (1, .int x1), (2, .int x2), (3, .int x3)] → W p l e ({ frames := 2, cells := 0, slots := 0, locals := 44 } : Room) s m args below meth c s.heap [] 0 0 Q (F0 m 4 ls []) := by
      intro x1
      intro nu
      induction nu with
      | zero => intro x2 x3 h; exact none_some h
      | succ nu4 ih4 =>
        intro x2 x3 h ls hl
        have h : fX6_counted_l4_b F mguests mclause mdeeds mrowSizes mtextSizes mkinds mnow mkept x1 (fX6_counted_l4 F mguests mclause mdeeds mrowSizes mtextSizes mkinds mnow mkept x1 nu4) x2 x3 = some (r) := h
        unfold fX6_counted_l4_b at h
        refine lv_iload_n hx hb dX6_counted_4 rfl (lv_at hl 3 rfl) ?_
        refine lv_bipush (v := (6 : Int32)) hx hb dX6_counted_5 (by decide) ?_
        refine lv_icmp_ge (tgt := 39) hx hb dX6_counted_7 (by decide) (fun c7 => ?_) (fun c7 => ?_)
        · have h := br_1 h c7
          refine lv_iconst (v := (0 : Int32)) hx hb dX6_counted_39 (by decide) ?_
          refine lv_istore_n (lv' := [(3, .int (0 : Int32)), (0, .ref (am 0)), (1, .int x1), (2, .int x2)]) hx hb dX6_counted_40 rfl hl (by decide) rfl (fun ls hl => ?_)
          exact l41 x1 F x2 (0 : Int32) h _ (lv_sub hl [1, 2, 3, 0] rfl)
        · have h := br_0 h c7
          refine lv_iload_n hx hb dX6_counted_10 rfl (lv_at hl 1 rfl) ?_
          refine lv_bipush (v := (7 : Int32)) hx hb dX6_counted_11 (by decide) ?_
          refine lv_icmp_ne (tgt := 39) hx hb dX6_counted_13 (by decide) (fun c13 => ?_) (fun c13 => ?_)
          · have h := br_0 h c13
            refine lv_iconst (v := (0 : Int32)) hx hb dX6_counted_39 (by decide) ?_
            refine lv_istore_n (lv' := [(3, .int (0 : Int32)), (0, .ref (am 0)), (1, .int x1), (2, .int x2)]) hx hb dX6_counted_40 rfl hl (by decide) rfl (fun ls hl => ?_)
            exact l41 x1 F x2 (0 : Int32) h _ (lv_sub hl [1, 2, 3, 0] rfl)
          · have h := br_1 h c13
            refine lv_iload_n hx hb dX6_counted_16 rfl (lv_at hl 2 rfl) ?_
            refine lv_aload_n hx hb dX6_counted_17 rfl (lv_at hl 0 rfl) ?_
            refine va_get (D := D) (ci := 4) (C := RX6) (T := TX6) (N := 27) hx hb hts iX6 hown hK hP 0 wMo_0 rfl 0 (by decide) q1 (fun _ h9 => h9) rfl dX6_counted_18 ?_
            refine lv_iload_n hx hb dX6_counted_21 rfl (lv_at hl 3 rfl) ?_
            obtain ⟨hin3, h⟩ := ck_some h
            refine va_iald hx hb hK hP 1 0 wMo_1 rfl hin3 dX6_counted_22 ?_
            refine lv_if_ge (tgt := 30) hx hb dX6_counted_23 (by decide) (fun c23 => ?_) (fun c23 => ?_)
            · have h := br_1 h c23
              refine lv_iconst (v := (1 : Int32)) hx hb dX6_counted_30 (by decide) ?_
              refine lv_iadd hx hb dX6_counted_31 ?_
              refine lv_istore_n (lv' := [(2, .int (x2 + (1 : Int32))), (0, .ref (am 0)), (1, .int x1), (3, .int x3)]) hx hb dX6_counted_32 rfl hl (by decide) rfl (fun ls hl => ?_)
              refine lv_iinc (v := (x3 + (1 : Int32))) (lv' := [(3, .int (x3 + (1 : Int32))), (2, .int (x2 + (1 : Int32))), (0, .ref (am 0)), (1, .int x1)]) hx hb dX6_counted_33 hl (k := 3) rfl rfl (by decide) rfl (fun ls hl => ?_)
              refine lv_goto (tgt := 4) hx hb dX6_counted_36 (by decide) ?_
              exact ih4 (x2 + (1 : Int32)) (x3 + (1 : Int32)) h _ (lv_sub hl [2, 3, 1, 0] rfl)
            · have h := br_0 h c23
              refine lv_iconst (v := (0 : Int32)) hx hb dX6_counted_26 (by decide) ?_
              refine lv_goto (tgt := 31) hx hb dX6_counted_27 (by decide) ?_
              refine lv_iadd hx hb dX6_counted_31 ?_
              refine lv_istore_n (lv' := [(2, .int (x2 + (0 : Int32))), (0, .ref (am 0)), (1, .int x1), (3, .int x3)]) hx hb dX6_counted_32 rfl hl (by decide) rfl (fun ls hl => ?_)
              refine lv_iinc (v := (x3 + (1 : Int32))) (lv' := [(3, .int (x3 + (1 : Int32))), (2, .int (x2 + (0 : Int32))), (0, .ref (am 0)), (1, .int x1)]) hx hb dX6_counted_33 hl (k := 3) rfl rfl (by decide) rfl (fun ls hl => ?_)
              refine lv_goto (tgt := 4) hx hb dX6_counted_36 (by decide) ?_
              exact ih4 (x2 + (0 : Int32)) (x3 + (1 : Int32)) h _ (lv_sub hl [2, 3, 1, 0] rfl)
    unfold fX6_counted at h
    refine lv_iconst (v := (0 : Int32)) hx hb dX6_counted_0 (by decide) ?_
    refine lv_istore_n (lv' := [(2, .int (0 : Int32)), (0, .ref (am 0)), (1, .int x1)]) hx hb dX6_counted_1 rfl hl (by decide) rfl (fun ls hl => ?_)
    refine lv_iconst (v := (0 : Int32)) hx hb dX6_counted_2 (by decide) ?_
    refine lv_istore_n (lv' := [(3, .int (0 : Int32)), (2, .int (0 : Int32)), (0, .ref (am 0)), (1, .int x1)]) hx hb dX6_counted_3 rfl hl (by decide) rfl (fun ls hl => ?_)
    exact l4 x1 F (0 : Int32) (0 : Int32) h _ (lv_sub hl [2, 3, 1, 0] rfl)
  exact key _ (fun pc ls hd => W.iret hx hb hr (fun t ht hW => ⟨_, rfl, rfl, ht⟩) (fun q h => by cases h) hd)
set_option maxHeartbeats 4000000 in
set_option maxRecDepth 100000 in
theorem kX6_count (l : Launch) (D : va_G) (T : Nat → ClassId) (F : Nat) (am : Nat → Nat) (mguests : Int32) (mclause : Int32) (mdeeds : Int32) (masked : Int32) (mupper : Int64) (mlower : Int64) (mfinding : Int32) (mreadGuests : Int32) (misSight : Int32) (mat : Int32) (mrowSizes : Nat → Int32) (mrows : Nat → Int32) (mtextSizes : Nat → Int32) (mtexts : Nat → Int32) (mdoes : Nat → Int32) (mkinds : Nat → Int32) (msees : Nat → Int32) (mnow : Nat → Int32) (mbefore : Nat → Int32) (mkeeps : Nat → Int32) (mkept : Nat → Int32) (mfindings : Nat → Int32) (mread : Nat → Int32) (maside : Nat → Int32) (msteps : Nat → Int32) (mtried : Nat → Int32) (mbest : Nat → Int32) (x1 : Int32) (r : Int32) (h : fX6_count F mguests mclause mdeeds mrowSizes mtextSizes mkinds mnow mkept x1 = some (r)) : Met l yX6_count wsX6_count ({ frames := 3, cells := 0, slots := 0, locals := 67 } : Room) (va_Pc [.ref (am 0), .int x1] (fun U => va_P D vwCl (wMo T am mguests mclause mdeeds masked mupper mlower mfinding mreadGuests misSight mat mrowSizes mrows mtextSizes mtexts mdoes mkinds msees mnow mbefore mkeeps mkept mfindings mread maside msteps mtried mbest) U.heap ∧ KK D T U)) (vp_Si (fun r' => r' = r)) 0 0 (fun _ => False) := by
  refine Met.ofW (cc := cX6_count) (maxL := 2) (ret := some .int) (by decide) rfl ?_
  intro p e s m args below meth c s₁ B hml hv
  obtain ⟨ha, hP, hKK⟩ := hv
  have hx := B.exec
  have hb := B.bytes
  have hr := B.returns
  have hts := atoms_spec (ws := wsX6_count) B.pre
  have hown : s.vm.findClass RX6 = some m.cls := findClass_of_methodNamed B.named
  have hlocks := B.notSynchronized
  have hK := hKK.1
  have hFix : CallFix p m c cX6_count 2 s args wsX6_count RX6 := ⟨hx, hb, hml, hown, hts⟩
  have q1 := hts _ (List.mem_of_getElem? (i := 1) (show wsX6_count[1]? = some (Cond.constantLong RX6 277 (9)) from rfl))
  obtain ⟨ls, hl, e0⟩ := my_entry (m := m) (n := 2) ha (Nat.le_of_ble_eq_true rfl)
  rw [e0]
  have hl : lv_has ls 2 [(0, .ref (am 0)), (1, .int x1)] := hl
  have key : ∀ Q : State → Prop, (∀ (pc : Nat) (ls : Array Slot), decode cX6_count pc = .ok (.ireturn, 1) → W p l e ({ frames := 3, cells := 0, slots := 0, locals := 67 } : Room) s m args below meth c s.heap [] 0 0 Q (F0 m pc ls [.int r])) → W p l e ({ frames := 3, cells := 0, slots := 0, locals := 67 } : Room) s m args below meth c s.heap [] 0 0 Q (F0 m 0 ls []) := by
    intro Q hret
    unfold fX6_count at h
    refine lv_iload_n hx hb dX6_count_0 rfl (lv_at hl 1 rfl) ?_
    refine lv_i2l (v := (x1.toInt64)) hx hb dX6_count_1 rfl ?_
    refine lv_lconst (v := (0 : Int64)) hx hb dX6_count_2 (by decide) ?_
    refine lv_ldc2 (v := (9 : Int64)) hx hb hown q1 dX6_count_3 ?_
    obtain ⟨r6, hc, h⟩ := bd1_some h
    refine my_roz (va_Run.run (va_runS (As := [.long (x1.toInt64), .long (0 : Int64), .long (9 : Int64)]) (rest := []) hFix (kX6_in l D T F (x1.toInt64) (0 : Int64) (9 : Int64) r6 hc) (va_cwS 3 hts gX6_count_X6_in rfl rfl rfl hd_X6_in ⟨Nat.le_of_ble_eq_true rfl, Nat.le_of_ble_eq_true rfl⟩) (preS_ro va_nil hKK) rfl rfl hl.1 rfl (lv_room (Nat.le_of_ble_eq_true rfl)) dX6_count_6 ⟨Nat.zero_le _, Nat.zero_le _⟩)) (fun hb6 => ?_)
    refine lv_if_eq (tgt := 20) hx hb dX6_count_9 (by decide) (fun c9 => ?_) (fun c9 => ?_)
    · have h := br_1 h c9
      refine lv_iconst (v := (-1 : Int32)) hx hb dX6_count_20 (by decide) ?_
      cases h
      exact hret _ _ dX6_count_21
    · have h := br_0 h c9
      refine lv_aload_n hx hb dX6_count_12 rfl (lv_at hl 0 rfl) ?_
      refine lv_iload_n hx hb dX6_count_13 rfl (lv_at hl 1 rfl) ?_
      obtain ⟨r14, hc, h⟩ := bd1_some h
      refine my_roi (va_Run.run (va_runV (As := [.int x1]) (rest := []) hFix (kX6_counted l D T F am mguests mclause mdeeds masked mupper mlower mfinding mreadGuests misSight mat mrowSizes mrows mtextSizes mtexts mdoes mkinds msees mnow mbefore mkeeps mkept mfindings mread maside msteps mtried mbest x1 r14 hc) (cwV 1 hts gX6_count_X6_counted rfl rfl rfl ⟨rfl, hd_X6_counted⟩ ⟨Nat.le_of_ble_eq_true rfl, Nat.le_of_ble_eq_true rfl⟩) (preV_ro hP hKK (va_recv hK hP (ci := 4) (q0 := 0) rfl wMo_0)) rfl rfl hl.1 rfl (lv_room (Nat.le_of_ble_eq_true rfl)) dX6_count_14 ⟨Nat.zero_le _, Nat.zero_le _⟩)) ?_
      refine lv_goto (tgt := 21) hx hb dX6_count_17 (by decide) ?_
      cases h
      exact hret _ _ dX6_count_21
  exact key _ (fun pc ls hd => W.iret hx hb hr (fun t ht hW => ⟨_, rfl, rfl, ht⟩) (fun q h => by cases h) hd)
set_option maxHeartbeats 4000000 in
set_option maxRecDepth 100000 in
theorem kX6_finding (l : Launch) (D : va_G) (T : Nat → ClassId) (F : Nat) (am : Nat → Nat) (mguests : Int32) (mclause : Int32) (mdeeds : Int32) (masked : Int32) (mupper : Int64) (mlower : Int64) (mfinding : Int32) (mreadGuests : Int32) (misSight : Int32) (mat : Int32) (mrowSizes : Nat → Int32) (mrows : Nat → Int32) (mtextSizes : Nat → Int32) (mtexts : Nat → Int32) (mdoes : Nat → Int32) (mkinds : Nat → Int32) (msees : Nat → Int32) (mnow : Nat → Int32) (mbefore : Nat → Int32) (mkeeps : Nat → Int32) (mkept : Nat → Int32) (mfindings : Nat → Int32) (mread : Nat → Int32) (maside : Nat → Int32) (msteps : Nat → Int32) (mtried : Nat → Int32) (mbest : Nat → Int32) (r : Int32) (h : fX6_finding F mfinding = some (r)) : Met l yX6_finding wsX6_finding ({ frames := 0, cells := 0, slots := 0, locals := 0 } : Room) (va_Pc [.ref (am 0)] (fun U => va_P D vwCl (wMo T am mguests mclause mdeeds masked mupper mlower mfinding mreadGuests misSight mat mrowSizes mrows mtextSizes mtexts mdoes mkinds msees mnow mbefore mkeeps mkept mfindings mread maside msteps mtried mbest) U.heap ∧ KK D T U)) (vp_Si (fun r' => r' = r)) 0 0 (fun _ => False) := by
  refine Met.ofW (cc := cX6_finding) (maxL := 1) (ret := some .int) (by decide) rfl ?_
  intro p e s m args below meth c s₁ B hml hv
  obtain ⟨ha, hP, hKK⟩ := hv
  have hx := B.exec
  have hb := B.bytes
  have hr := B.returns
  have hts := atoms_spec (ws := wsX6_finding) B.pre
  have hown : s.vm.findClass RX6 = some m.cls := findClass_of_methodNamed B.named
  have hlocks := B.notSynchronized
  have hK := hKK.1
  have hFix : CallFix p m c cX6_finding 1 s args wsX6_finding RX6 := ⟨hx, hb, hml, hown, hts⟩
  have q1 := hts _ (List.mem_of_getElem? (i := 1) (show wsX6_finding[1]? = some (Cond.fieldLink RX6 66 "PartyWillModel" "finding" "I") from rfl))
  have iX6 : ∀ w ∈ u_ws RX6 TX6 27, w ∈ wsX6_finding := fun w h => List.mem_cons_of_mem _ (List.mem_append_right _ (h))
  obtain ⟨ls, hl, e0⟩ := my_entry (m := m) (n := 1) ha (Nat.le_of_ble_eq_true rfl)
  rw [e0]
  have hl : lv_has ls 1 [(0, .ref (am 0))] := hl
  have key : ∀ Q : State → Prop, (∀ (pc : Nat) (ls : Array Slot), decode cX6_finding pc = .ok (.ireturn, 1) → W p l e ({ frames := 0, cells := 0, slots := 0, locals := 0 } : Room) s m args below meth c s.heap [] 0 0 Q (F0 m pc ls [.int r])) → W p l e ({ frames := 0, cells := 0, slots := 0, locals := 0 } : Room) s m args below meth c s.heap [] 0 0 Q (F0 m 0 ls []) := by
    intro Q hret
    unfold fX6_finding at h
    refine lv_aload_n hx hb dX6_finding_0 rfl (lv_at hl 0 rfl) ?_
    refine va_get (D := D) (ci := 4) (C := RX6) (T := TX6) (N := 27) hx hb hts iX6 hown hK hP 0 wMo_0 rfl 17 (by decide) q1 (fun _ h9 => h9) rfl dX6_finding_1 ?_
    cases h
    exact hret _ _ dX6_finding_4
  exact key _ (fun pc ls hd => W.iret hx hb hr (fun t ht hW => ⟨_, rfl, rfl, ht⟩) (fun q h => by cases h) hd)
set_option maxHeartbeats 4000000 in
set_option maxRecDepth 100000 in
theorem kX6_findings (l : Launch) (D : va_G) (T : Nat → ClassId) (F : Nat) (am : Nat → Nat) (mguests : Int32) (mclause : Int32) (mdeeds : Int32) (masked : Int32) (mupper : Int64) (mlower : Int64) (mfinding : Int32) (mreadGuests : Int32) (misSight : Int32) (mat : Int32) (mrowSizes : Nat → Int32) (mrows : Nat → Int32) (mtextSizes : Nat → Int32) (mtexts : Nat → Int32) (mdoes : Nat → Int32) (mkinds : Nat → Int32) (msees : Nat → Int32) (mnow : Nat → Int32) (mbefore : Nat → Int32) (mkeeps : Nat → Int32) (mkept : Nat → Int32) (mfindings : Nat → Int32) (mread : Nat → Int32) (maside : Nat → Int32) (msteps : Nat → Int32) (mtried : Nat → Int32) (mbest : Nat → Int32) (x1 : Int32) (r : Int32) (h : fX6_findings F mfindings x1 = some (r)) : Met l yX6_findings wsX6_findings ({ frames := 1, cells := 0, slots := 0, locals := 25 } : Room) (va_Pc [.ref (am 0), .int x1] (fun U => va_P D vwCl (wMo T am mguests mclause mdeeds masked mupper mlower mfinding mreadGuests misSight mat mrowSizes mrows mtextSizes mtexts mdoes mkinds msees mnow mbefore mkeeps mkept mfindings mread maside msteps mtried mbest) U.heap ∧ KK D T U)) (vp_Si (fun r' => r' = r)) 0 0 (fun _ => False) := by
  refine Met.ofW (cc := cX6_findings) (maxL := 2) (ret := some .int) (by decide) rfl ?_
  intro p e s m args below meth c s₁ B hml hv
  obtain ⟨ha, hP, hKK⟩ := hv
  have hx := B.exec
  have hb := B.bytes
  have hr := B.returns
  have hts := atoms_spec (ws := wsX6_findings) B.pre
  have hown : s.vm.findClass RX6 = some m.cls := findClass_of_methodNamed B.named
  have hlocks := B.notSynchronized
  have hK := hKK.1
  have hFix : CallFix p m c cX6_findings 2 s args wsX6_findings RX6 := ⟨hx, hb, hml, hown, hts⟩
  have q1 := hts _ (List.mem_of_getElem? (i := 1) (show wsX6_findings[1]? = some (Cond.constantLong RX6 73 (5)) from rfl))
  have q2 := hts _ (List.mem_of_getElem? (i := 2) (show wsX6_findings[2]? = some (Cond.fieldLink RX6 48 "PartyWillModel" "findings" "[I") from rfl))
  have iX6 : ∀ w ∈ u_ws RX6 TX6 27, w ∈ wsX6_findings := fun w h => List.mem_cons_of_mem _ (List.mem_append_right _ (h))
  obtain ⟨ls, hl, e0⟩ := my_entry (m := m) (n := 2) ha (Nat.le_of_ble_eq_true rfl)
  rw [e0]
  have hl : lv_has ls 2 [(0, .ref (am 0)), (1, .int x1)] := hl
  have key : ∀ Q : State → Prop, (∀ (pc : Nat) (ls : Array Slot), decode cX6_findings pc = .ok (.ireturn, 1) → W p l e ({ frames := 1, cells := 0, slots := 0, locals := 25 } : Room) s m args below meth c s.heap [] 0 0 Q (F0 m pc ls [.int r])) → W p l e ({ frames := 1, cells := 0, slots := 0, locals := 25 } : Room) s m args below meth c s.heap [] 0 0 Q (F0 m 0 ls []) := by
    intro Q hret
    unfold fX6_findings at h
    refine lv_iload_n hx hb dX6_findings_0 rfl (lv_at hl 1 rfl) ?_
    refine lv_i2l (v := (x1.toInt64)) hx hb dX6_findings_1 rfl ?_
    refine lv_lconst (v := (1 : Int64)) hx hb dX6_findings_2 (by decide) ?_
    refine lv_ldc2 (v := (5 : Int64)) hx hb hown q1 dX6_findings_3 ?_
    obtain ⟨r6, hc, h⟩ := bd1_some h
    refine my_roz (va_Run.run (va_runS (As := [.long (x1.toInt64), .long (1 : Int64), .long (5 : Int64)]) (rest := []) hFix (kX6_in l D T F (x1.toInt64) (1 : Int64) (5 : Int64) r6 hc) (va_cwS 3 hts gX6_findings_X6_in rfl rfl rfl hd_X6_in ⟨Nat.le_of_ble_eq_true rfl, Nat.le_of_ble_eq_true rfl⟩) (preS_ro va_nil hKK) rfl rfl hl.1 rfl (lv_room (Nat.le_of_ble_eq_true rfl)) dX6_findings_6 ⟨Nat.zero_le _, Nat.zero_le _⟩)) (fun hb6 => ?_)
    refine lv_if_eq (tgt := 21) hx hb dX6_findings_9 (by decide) (fun c9 => ?_) (fun c9 => ?_)
    · have h := br_1 h c9
      refine lv_iconst (v := (-1 : Int32)) hx hb dX6_findings_21 (by decide) ?_
      cases h
      exact hret _ _ dX6_findings_22
    · have h := br_0 h c9
      refine lv_aload_n hx hb dX6_findings_12 rfl (lv_at hl 0 rfl) ?_
      refine va_get (D := D) (ci := 4) (C := RX6) (T := TX6) (N := 27) hx hb hts iX6 hown hK hP 0 wMo_0 rfl 18 (by decide) q2 (fun _ h9 => h9) rfl dX6_findings_13 ?_
      refine lv_iload_n hx hb dX6_findings_16 rfl (lv_at hl 1 rfl) ?_
      obtain ⟨hin1, h⟩ := ck_some h
      refine va_iald hx hb hK hP 12 0 wMo_12 rfl hin1 dX6_findings_17 ?_
      refine lv_goto (tgt := 22) hx hb dX6_findings_18 (by decide) ?_
      cases h
      exact hret _ _ dX6_findings_22
  exact key _ (fun pc ls hd => W.iret hx hb hr (fun t ht hW => ⟨_, rfl, rfl, ht⟩) (fun q h => by cases h) hd)
set_option maxHeartbeats 4000000 in
set_option maxRecDepth 100000 in
theorem kX6_digest (l : Launch) (D : va_G) (T : Nat → ClassId) (F : Nat) (am : Nat → Nat) (mguests : Int32) (mclause : Int32) (mdeeds : Int32) (masked : Int32) (mupper : Int64) (mlower : Int64) (mfinding : Int32) (mreadGuests : Int32) (misSight : Int32) (mat : Int32) (mrowSizes : Nat → Int32) (mrows : Nat → Int32) (mtextSizes : Nat → Int32) (mtexts : Nat → Int32) (mdoes : Nat → Int32) (mkinds : Nat → Int32) (msees : Nat → Int32) (mnow : Nat → Int32) (mbefore : Nat → Int32) (mkeeps : Nat → Int32) (mkept : Nat → Int32) (mfindings : Nat → Int32) (mread : Nat → Int32) (maside : Nat → Int32) (msteps : Nat → Int32) (mtried : Nat → Int32) (mbest : Nat → Int32) (r : Int64) (h : fX6_digest F mguests mclause mdeeds mrowSizes mrows mtextSizes mtexts mdoes mkinds msees mnow mkeeps mkept = some (r)) : Met l yX6_digest wsX6_digest ({ frames := 3, cells := 0, slots := 0, locals := 67 } : Room) (va_Pc [.ref (am 0)] (fun U => va_P D vwCl (wMo T am mguests mclause mdeeds masked mupper mlower mfinding mreadGuests misSight mat mrowSizes mrows mtextSizes mtexts mdoes mkinds msees mnow mbefore mkeeps mkept mfindings mread maside msteps mtried mbest) U.heap ∧ KK D T U)) (vp_Sl (fun r' => r' = r)) 0 0 (fun _ => False) := by
  refine Met.ofW (cc := cX6_digest) (maxL := 5) (ret := some .long) (by decide) rfl ?_
  intro p e s m args below meth c s₁ B hml hv
  obtain ⟨ha, hP, hKK⟩ := hv
  have hx := B.exec
  have hb := B.bytes
  have hr := B.returns
  have hts := atoms_spec (ws := wsX6_digest) B.pre
  have hown : s.vm.findClass RX6 = some m.cls := findClass_of_methodNamed B.named
  have hlocks := B.notSynchronized
  have hK := hKK.1
  have hFix : CallFix p m c cX6_digest 5 s args wsX6_digest RX6 := ⟨hx, hb, hml, hown, hts⟩
  have q1 := hts _ (List.mem_of_getElem? (i := 1) (show wsX6_digest[1]? = some (Cond.constantLong RX6 282 (17)) from rfl))
  have q2 := hts _ (List.mem_of_getElem? (i := 2) (show wsX6_digest[2]? = some (Cond.constantLong RX6 284 (31)) from rfl))
  have q3 := hts _ (List.mem_of_getElem? (i := 3) (show wsX6_digest[3]? = some (Cond.fieldLink RX6 22 "PartyWillModel" "does" "[I") from rfl))
  have q4 := hts _ (List.mem_of_getElem? (i := 4) (show wsX6_digest[4]? = some (Cond.fieldLink RX6 131 "PartyWillModel" "guests" "I") from rfl))
  have q5 := hts _ (List.mem_of_getElem? (i := 5) (show wsX6_digest[5]? = some (Cond.fieldLink RX6 40 "PartyWillModel" "kept" "[Z") from rfl))
  have q6 := hts _ (List.mem_of_getElem? (i := 6) (show wsX6_digest[6]? = some (Cond.fieldLink RX6 37 "PartyWillModel" "keeps" "[I") from rfl))
  have q7 := hts _ (List.mem_of_getElem? (i := 7) (show wsX6_digest[7]? = some (Cond.fieldLink RX6 7 "PartyWillModel" "rowSizes" "[I") from rfl))
  have q8 := hts _ (List.mem_of_getElem? (i := 8) (show wsX6_digest[8]? = some (Cond.fieldLink RX6 13 "PartyWillModel" "rows" "[I") from rfl))
  have q9 := hts _ (List.mem_of_getElem? (i := 9) (show wsX6_digest[9]? = some (Cond.fieldLink RX6 16 "PartyWillModel" "textSizes" "[I") from rfl))
  have q10 := hts _ (List.mem_of_getElem? (i := 10) (show wsX6_digest[10]? = some (Cond.fieldLink RX6 19 "PartyWillModel" "texts" "[I") from rfl))
  have iX6 : ∀ w ∈ u_ws RX6 TX6 27, w ∈ wsX6_digest := fun w h => List.mem_cons_of_mem _ (List.mem_append_right _ (h))
  obtain ⟨ls, hl, e0⟩ := my_entry (m := m) (n := 5) ha (Nat.le_of_ble_eq_true rfl)
  rw [e0]
  have hl : lv_has ls 5 [(0, .ref (am 0))] := hl
  have key : ∀ Q : State → Prop, (∀ (pc : Nat) (ls : Array Slot), decode cX6_digest pc = .ok (.lreturn, 1) → W p l e ({ frames := 3, cells := 0, slots := 0, locals := 67 } : Room) s m args below meth c s.heap [] 0 0 Q (F0 m pc ls [.long r])) → W p l e ({ frames := 3, cells := 0, slots := 0, locals := 67 } : Room) s m args below meth c s.heap [] 0 0 Q (F0 m 0 ls []) := by
    intro Q hret
    have l221 : ∀ nu : Nat, ∀ x1 : Int64, ∀ x3 : Int32, fX6_digest_l221 F mguests mclause mdeeds mrowSizes mrows mtextSizes mtexts mdoes mkinds msees mnow mkeeps mkept nu x1 x3 = some (r) → ∀ (ls : Array Slot), lv_has ls 5 [(0, .ref (am 0)), (1, .long x1), (3, .int x3)] → W p l e ({ frames := 3, cells := 0, slots := 0, locals := 67 } : Room) s m args below meth c s.heap [] 0 0 Q (F0 m 221 ls []) := by
      intro nu
      induction nu with
      | zero => intro x1 x3 h; exact none_some h
      | succ nu221 ih221 =>
        intro x1 x3 h ls hl
        have l243 : ∀ x3 : Int32, ∀ nu : Nat, ∀ x1 : Int64, ∀ x4 : Int32, fX6_digest_l243 F (fX6_digest_l221 F mguests mclause mdeeds mrowSizes mrows mtextSizes mtexts mdoes mkinds msees mnow mkeeps mkept nu221) mguests mclause mdeeds mrowSizes mrows mtextSizes mtexts mdoes mkinds msees mnow mkeeps mkept x3 nu x1 x4 = some (r) → ∀ (ls : Array Slot), lv_has ls 5 [(0, .ref (am 0)), (1, .long x1), (3, .int x3), (4, .int x4)] → W p l e ({ frames := 3, cells := 0, slots := 0, locals := 67 } : Room) s m args below meth c s.heap [] 0 0 Q (F0 m 243 ls []) := by
          intro x3
          intro nu
          induction nu with
          | zero => intro x1 x4 h; exact none_some h
          | succ nu243 ih243 =>
            intro x1 x4 h ls hl
            have h : fX6_digest_l243_b F (fX6_digest_l221 F mguests mclause mdeeds mrowSizes mrows mtextSizes mtexts mdoes mkinds msees mnow mkeeps mkept nu221) mguests mclause mdeeds mrowSizes mrows mtextSizes mtexts mdoes mkinds msees mnow mkeeps mkept x3 (fX6_digest_l243 F (fX6_digest_l221 F mguests mclause mdeeds mrowSizes mrows mtextSizes mtexts mdoes mkinds msees mnow mkeeps mkept nu221) mguests mclause mdeeds mrowSizes mrows mtextSizes mtexts mdoes mkinds msees mnow mkeeps mkept x3 nu243) x1 x4 = some (r) := h
            unfold fX6_digest_l243_b at h
            refine lv_iload hx hb dX6_digest_243 (lv_at hl 3 rfl) ?_
            refine lv_aload_n hx hb dX6_digest_245 rfl (lv_at hl 0 rfl) ?_
            refine va_get (D := D) (ci := 4) (C := RX6) (T := TX6) (N := 27) hx hb hts iX6 hown hK hP 0 wMo_0 rfl 2 (by decide) q9 (fun _ h9 => h9) rfl dX6_digest_246 ?_
            refine lv_iload_n hx hb dX6_digest_249 rfl (lv_at hl 2 rfl) ?_
            obtain ⟨hin1, h⟩ := ck_some h
            refine va_iald hx hb hK hP 3 0 wMo_3 rfl hin1 dX6_digest_250 ?_
            refine lv_icmp_ge (tgt := 280) hx hb dX6_digest_251 (by decide) (fun c251 => ?_) (fun c251 => ?_)
            · have h := br_1 h c251
              refine lv_iinc (v := (x3 + (1 : Int32))) (lv' := [(3, .int (x3 + (1 : Int32))), (0, .ref (am 0)), (1, .long x1), (4, .int x4)]) hx hb dX6_digest_280 hl (k := 2) rfl rfl (by decide) rfl (fun ls hl => ?_)
              refine lv_goto (tgt := 221) hx hb dX6_digest_283 (by decide) ?_
              exact ih221 x1 (x3 + (1 : Int32)) h _ (lv_sub hl [1, 2, 0] rfl)
            · have h := br_0 h c251
              refine lv_ldc2 (v := (31 : Int64)) hx hb hown q2 dX6_digest_254 ?_
              refine lv_lload_n hx hb dX6_digest_257 rfl (lv_at hl 1 rfl) ?_
              refine lv_lmul hx hb dX6_digest_258 ?_
              refine lv_aload_n hx hb dX6_digest_259 rfl (lv_at hl 0 rfl) ?_
              refine va_get (D := D) (ci := 4) (C := RX6) (T := TX6) (N := 27) hx hb hts iX6 hown hK hP 0 wMo_0 rfl 3 (by decide) q10 (fun _ h9 => h9) rfl dX6_digest_260 ?_
              refine lv_bipush (v := (80 : Int32)) hx hb dX6_digest_263 (by decide) ?_
              refine lv_iload_n hx hb dX6_digest_265 rfl (lv_at hl 2 rfl) ?_
              refine lv_imul hx hb dX6_digest_266 ?_
              refine lv_iload hx hb dX6_digest_267 (lv_at hl 3 rfl) ?_
              refine lv_iadd hx hb dX6_digest_269 ?_
              obtain ⟨hin2, h⟩ := ck_some h
              refine va_iald hx hb hK hP 4 0 wMo_4 rfl hin2 dX6_digest_270 ?_
              refine lv_i2l (v := ((mtexts (((80 : Int32) * x3) + x4).toNatClampNeg).toInt64)) hx hb dX6_digest_271 rfl ?_
              refine lv_ladd hx hb dX6_digest_272 ?_
              refine lv_lstore_n (lv' := [(1, .long (((31 : Int64) * x1) + ((mtexts (((80 : Int32) * x3) + x4).toNatClampNeg).toInt64))), (0, .ref (am 0)), (3, .int x3), (4, .int x4)]) hx hb dX6_digest_273 rfl hl (by decide) rfl (fun ls hl => ?_)
              refine lv_iinc (v := (x4 + (1 : Int32))) (lv' := [(4, .int (x4 + (1 : Int32))), (1, .long (((31 : Int64) * x1) + ((mtexts (((80 : Int32) * x3) + x4).toNatClampNeg).toInt64))), (0, .ref (am 0)), (3, .int x3)]) hx hb dX6_digest_274 hl (k := 3) rfl rfl (by decide) rfl (fun ls hl => ?_)
              refine lv_goto (tgt := 243) hx hb dX6_digest_277 (by decide) ?_
              exact ih243 (((31 : Int64) * x1) + ((mtexts (((80 : Int32) * x3) + x4).toNatClampNeg).toInt64)) (x4 + (1 : Int32)) h _ (lv_sub hl [2, 1, 3, 0] rfl)
        have h : fX6_digest_l221_b F mguests mclause mdeeds mrowSizes mrows mtextSizes mtexts mdoes mkinds msees mnow mkeeps mkept (fX6_digest_l221 F mguests mclause mdeeds mrowSizes mrows mtextSizes mtexts mdoes mkinds msees mnow mkeeps mkept nu221) x1 x3 = some (r) := h
        unfold fX6_digest_l221_b at h
        refine lv_iload_n hx hb dX6_digest_221 rfl (lv_at hl 2 rfl) ?_
        refine lv_iconst (v := (4 : Int32)) hx hb dX6_digest_222 (by decide) ?_
        refine lv_icmp_ge (tgt := 286) hx hb dX6_digest_223 (by decide) (fun c223 => ?_) (fun c223 => ?_)
        · have h := br_1 h c223
          refine lv_lload_n hx hb dX6_digest_286 rfl (lv_at hl 1 rfl) ?_
          cases h
          exact hret _ _ dX6_digest_287
        · have h := br_0 h c223
          refine lv_ldc2 (v := (31 : Int64)) hx hb hown q2 dX6_digest_226 ?_
          refine lv_lload_n hx hb dX6_digest_229 rfl (lv_at hl 1 rfl) ?_
          refine lv_lmul hx hb dX6_digest_230 ?_
          refine lv_aload_n hx hb dX6_digest_231 rfl (lv_at hl 0 rfl) ?_
          refine va_get (D := D) (ci := 4) (C := RX6) (T := TX6) (N := 27) hx hb hts iX6 hown hK hP 0 wMo_0 rfl 2 (by decide) q9 (fun _ h9 => h9) rfl dX6_digest_232 ?_
          refine lv_iload_n hx hb dX6_digest_235 rfl (lv_at hl 2 rfl) ?_
          obtain ⟨hin3, h⟩ := ck_some h
          refine va_iald hx hb hK hP 3 0 wMo_3 rfl hin3 dX6_digest_236 ?_
          refine lv_i2l (v := ((mtextSizes x3.toNatClampNeg).toInt64)) hx hb dX6_digest_237 rfl ?_
          refine lv_ladd hx hb dX6_digest_238 ?_
          refine lv_lstore_n (lv' := [(1, .long (((31 : Int64) * x1) + ((mtextSizes x3.toNatClampNeg).toInt64))), (0, .ref (am 0)), (3, .int x3)]) hx hb dX6_digest_239 rfl hl (by decide) rfl (fun ls hl => ?_)
          refine lv_iconst (v := (0 : Int32)) hx hb dX6_digest_240 (by decide) ?_
          refine lv_istore (lv' := [(4, .int (0 : Int32)), (1, .long (((31 : Int64) * x1) + ((mtextSizes x3.toNatClampNeg).toInt64))), (0, .ref (am 0)), (3, .int x3)]) hx hb dX6_digest_241 hl (by decide) rfl (fun ls hl => ?_)
          exact l243 x3 F (((31 : Int64) * x1) + ((mtextSizes x3.toNatClampNeg).toInt64)) (0 : Int32) h _ (lv_sub hl [2, 1, 3, 0] rfl)
    have l153 : ∀ nu : Nat, ∀ x1 : Int64, ∀ x3 : Int32, fX6_digest_l153 F mguests mclause mdeeds mrowSizes mrows mtextSizes mtexts mdoes mkinds msees mnow mkeeps mkept nu x1 x3 = some (r) → ∀ (ls : Array Slot), lv_has ls 5 [(0, .ref (am 0)), (1, .long x1), (3, .int x3)] → W p l e ({ frames := 3, cells := 0, slots := 0, locals := 67 } : Room) s m args below meth c s.heap [] 0 0 Q (F0 m 153 ls []) := by
      intro nu
      induction nu with
      | zero => intro x1 x3 h; exact none_some h
      | succ nu153 ih153 =>
        intro x1 x3 h ls hl
        have l176 : ∀ x3 : Int32, ∀ nu : Nat, ∀ x1 : Int64, ∀ x4 : Int32, fX6_digest_l176 F (fX6_digest_l153 F mguests mclause mdeeds mrowSizes mrows mtextSizes mtexts mdoes mkinds msees mnow mkeeps mkept nu153) mguests mclause mdeeds mrowSizes mrows mtextSizes mtexts mdoes mkinds msees mnow mkeeps mkept x3 nu x1 x4 = some (r) → ∀ (ls : Array Slot), lv_has ls 5 [(0, .ref (am 0)), (1, .long x1), (3, .int x3), (4, .int x4)] → W p l e ({ frames := 3, cells := 0, slots := 0, locals := 67 } : Room) s m args below meth c s.heap [] 0 0 Q (F0 m 176 ls []) := by
          intro x3
          intro nu
          induction nu with
          | zero => intro x1 x4 h; exact none_some h
          | succ nu176 ih176 =>
            intro x1 x4 h ls hl
            have h : fX6_digest_l176_b F (fX6_digest_l153 F mguests mclause mdeeds mrowSizes mrows mtextSizes mtexts mdoes mkinds msees mnow mkeeps mkept nu153) mguests mclause mdeeds mrowSizes mrows mtextSizes mtexts mdoes mkinds msees mnow mkeeps mkept x3 (fX6_digest_l176 F (fX6_digest_l153 F mguests mclause mdeeds mrowSizes mrows mtextSizes mtexts mdoes mkinds msees mnow mkeeps mkept nu153) mguests mclause mdeeds mrowSizes mrows mtextSizes mtexts mdoes mkinds msees mnow mkeeps mkept x3 nu176) x1 x4 = some (r) := h
            unfold fX6_digest_l176_b at h
            refine lv_iload hx hb dX6_digest_176 (lv_at hl 3 rfl) ?_
            refine lv_aload_n hx hb dX6_digest_178 rfl (lv_at hl 0 rfl) ?_
            refine va_get (D := D) (ci := 4) (C := RX6) (T := TX6) (N := 27) hx hb hts iX6 hown hK hP 0 wMo_0 rfl 0 (by decide) q7 (fun _ h9 => h9) rfl dX6_digest_179 ?_
            refine lv_iload_n hx hb dX6_digest_182 rfl (lv_at hl 2 rfl) ?_
            obtain ⟨hin4, h⟩ := ck_some h
            refine va_iald hx hb hK hP 1 0 wMo_1 rfl hin4 dX6_digest_183 ?_
            refine lv_icmp_ge (tgt := 213) hx hb dX6_digest_184 (by decide) (fun c184 => ?_) (fun c184 => ?_)
            · have h := br_1 h c184
              refine lv_iinc (v := (x3 + (1 : Int32))) (lv' := [(3, .int (x3 + (1 : Int32))), (0, .ref (am 0)), (1, .long x1), (4, .int x4)]) hx hb dX6_digest_213 hl (k := 2) rfl rfl (by decide) rfl (fun ls hl => ?_)
              refine lv_goto (tgt := 153) hx hb dX6_digest_216 (by decide) ?_
              exact ih153 x1 (x3 + (1 : Int32)) h _ (lv_sub hl [1, 2, 0] rfl)
            · have h := br_0 h c184
              refine lv_ldc2 (v := (31 : Int64)) hx hb hown q2 dX6_digest_187 ?_
              refine lv_lload_n hx hb dX6_digest_190 rfl (lv_at hl 1 rfl) ?_
              refine lv_lmul hx hb dX6_digest_191 ?_
              refine lv_aload_n hx hb dX6_digest_192 rfl (lv_at hl 0 rfl) ?_
              refine va_get (D := D) (ci := 4) (C := RX6) (T := TX6) (N := 27) hx hb hts iX6 hown hK hP 0 wMo_0 rfl 1 (by decide) q8 (fun _ h9 => h9) rfl dX6_digest_193 ?_
              refine lv_bipush (v := (40 : Int32)) hx hb dX6_digest_196 (by decide) ?_
              refine lv_iload_n hx hb dX6_digest_198 rfl (lv_at hl 2 rfl) ?_
              refine lv_imul hx hb dX6_digest_199 ?_
              refine lv_iload hx hb dX6_digest_200 (lv_at hl 3 rfl) ?_
              refine lv_iadd hx hb dX6_digest_202 ?_
              obtain ⟨hin5, h⟩ := ck_some h
              refine va_iald hx hb hK hP 2 0 wMo_2 rfl hin5 dX6_digest_203 ?_
              refine lv_i2l (v := ((mrows (((40 : Int32) * x3) + x4).toNatClampNeg).toInt64)) hx hb dX6_digest_204 rfl ?_
              refine lv_ladd hx hb dX6_digest_205 ?_
              refine lv_lstore_n (lv' := [(1, .long (((31 : Int64) * x1) + ((mrows (((40 : Int32) * x3) + x4).toNatClampNeg).toInt64))), (0, .ref (am 0)), (3, .int x3), (4, .int x4)]) hx hb dX6_digest_206 rfl hl (by decide) rfl (fun ls hl => ?_)
              refine lv_iinc (v := (x4 + (1 : Int32))) (lv' := [(4, .int (x4 + (1 : Int32))), (1, .long (((31 : Int64) * x1) + ((mrows (((40 : Int32) * x3) + x4).toNatClampNeg).toInt64))), (0, .ref (am 0)), (3, .int x3)]) hx hb dX6_digest_207 hl (k := 3) rfl rfl (by decide) rfl (fun ls hl => ?_)
              refine lv_goto (tgt := 176) hx hb dX6_digest_210 (by decide) ?_
              exact ih176 (((31 : Int64) * x1) + ((mrows (((40 : Int32) * x3) + x4).toNatClampNeg).toInt64)) (x4 + (1 : Int32)) h _ (lv_sub hl [2, 1, 3, 0] rfl)
        have h : fX6_digest_l153_b F mguests mclause mdeeds mrowSizes mrows mtextSizes mtexts mdoes mkinds msees mnow mkeeps mkept (fX6_digest_l153 F mguests mclause mdeeds mrowSizes mrows mtextSizes mtexts mdoes mkinds msees mnow mkeeps mkept nu153) x1 x3 = some (r) := h
        unfold fX6_digest_l153_b at h
        refine lv_iload_n hx hb dX6_digest_153 rfl (lv_at hl 2 rfl) ?_
        refine lv_bipush (v := (6 : Int32)) hx hb dX6_digest_154 (by decide) ?_
        refine lv_icmp_ge (tgt := 219) hx hb dX6_digest_156 (by decide) (fun c156 => ?_) (fun c156 => ?_)
        · have h := br_1 h c156
          refine lv_iconst (v := (0 : Int32)) hx hb dX6_digest_219 (by decide) ?_
          refine lv_istore_n (lv' := [(3, .int (0 : Int32)), (0, .ref (am 0)), (1, .long x1)]) hx hb dX6_digest_220 rfl hl (by decide) rfl (fun ls hl => ?_)
          exact l221 F x1 (0 : Int32) h _ (lv_sub hl [1, 2, 0] rfl)
        · have h := br_0 h c156
          refine lv_ldc2 (v := (31 : Int64)) hx hb hown q2 dX6_digest_159 ?_
          refine lv_lload_n hx hb dX6_digest_162 rfl (lv_at hl 1 rfl) ?_
          refine lv_lmul hx hb dX6_digest_163 ?_
          refine lv_aload_n hx hb dX6_digest_164 rfl (lv_at hl 0 rfl) ?_
          refine va_get (D := D) (ci := 4) (C := RX6) (T := TX6) (N := 27) hx hb hts iX6 hown hK hP 0 wMo_0 rfl 0 (by decide) q7 (fun _ h9 => h9) rfl dX6_digest_165 ?_
          refine lv_iload_n hx hb dX6_digest_168 rfl (lv_at hl 2 rfl) ?_
          obtain ⟨hin6, h⟩ := ck_some h
          refine va_iald hx hb hK hP 1 0 wMo_1 rfl hin6 dX6_digest_169 ?_
          refine lv_i2l (v := ((mrowSizes x3.toNatClampNeg).toInt64)) hx hb dX6_digest_170 rfl ?_
          refine lv_ladd hx hb dX6_digest_171 ?_
          refine lv_lstore_n (lv' := [(1, .long (((31 : Int64) * x1) + ((mrowSizes x3.toNatClampNeg).toInt64))), (0, .ref (am 0)), (3, .int x3)]) hx hb dX6_digest_172 rfl hl (by decide) rfl (fun ls hl => ?_)
          refine lv_iconst (v := (0 : Int32)) hx hb dX6_digest_173 (by decide) ?_
          refine lv_istore (lv' := [(4, .int (0 : Int32)), (1, .long (((31 : Int64) * x1) + ((mrowSizes x3.toNatClampNeg).toInt64))), (0, .ref (am 0)), (3, .int x3)]) hx hb dX6_digest_174 hl (by decide) rfl (fun ls hl => ?_)
          exact l176 x3 F (((31 : Int64) * x1) + ((mrowSizes x3.toNatClampNeg).toInt64)) (0 : Int32) h _ (lv_sub hl [2, 1, 3, 0] rfl)
    have l106 : ∀ nu : Nat, ∀ x1 : Int64, ∀ x3 : Int32, fX6_digest_l106 F mguests mclause mdeeds mrowSizes mrows mtextSizes mtexts mdoes mkinds msees mnow mkeeps mkept nu x1 x3 = some (r) → ∀ (ls : Array Slot), lv_has ls 5 [(0, .ref (am 0)), (1, .long x1), (3, .int x3)] → W p l e ({ frames := 3, cells := 0, slots := 0, locals := 67 } : Room) s m args below meth c s.heap [] 0 0 Q (F0 m 106 ls []) := by
      intro nu
      induction nu with
      | zero => intro x1 x3 h; exact none_some h
      | succ nu106 ih106 =>
        intro x1 x3 h ls hl
        have h : fX6_digest_l106_b F mguests mclause mdeeds mrowSizes mrows mtextSizes mtexts mdoes mkinds msees mnow mkeeps mkept (fX6_digest_l106 F mguests mclause mdeeds mrowSizes mrows mtextSizes mtexts mdoes mkinds msees mnow mkeeps mkept nu106) x1 x3 = some (r) := h
        unfold fX6_digest_l106_b at h
        refine lv_iload_n hx hb dX6_digest_106 rfl (lv_at hl 2 rfl) ?_
        refine lv_iconst (v := (3 : Int32)) hx hb dX6_digest_107 (by decide) ?_
        refine lv_icmp_ge (tgt := 151) hx hb dX6_digest_108 (by decide) (fun c108 => ?_) (fun c108 => ?_)
        · have h := br_1 h c108
          refine lv_iconst (v := (0 : Int32)) hx hb dX6_digest_151 (by decide) ?_
          refine lv_istore_n (lv' := [(3, .int (0 : Int32)), (0, .ref (am 0)), (1, .long x1)]) hx hb dX6_digest_152 rfl hl (by decide) rfl (fun ls hl => ?_)
          exact l153 F x1 (0 : Int32) h _ (lv_sub hl [1, 2, 0] rfl)
        · have h := br_0 h c108
          refine lv_ldc2 (v := (31 : Int64)) hx hb hown q2 dX6_digest_111 ?_
          refine lv_lload_n hx hb dX6_digest_114 rfl (lv_at hl 1 rfl) ?_
          refine lv_lmul hx hb dX6_digest_115 ?_
          refine lv_aload_n hx hb dX6_digest_116 rfl (lv_at hl 0 rfl) ?_
          refine va_get (D := D) (ci := 4) (C := RX6) (T := TX6) (N := 27) hx hb hts iX6 hown hK hP 0 wMo_0 rfl 13 (by decide) q5 (fun _ h9 => h9) rfl dX6_digest_117 ?_
          refine lv_iload_n hx hb dX6_digest_120 rfl (lv_at hl 2 rfl) ?_
          obtain ⟨hin7, h⟩ := ck_some h
          refine va_zald hx hb hK hP 11 3 wMo_11 rfl hin7 dX6_digest_121 ?_
          refine lv_if_eq (tgt := 141) hx hb dX6_digest_122 (by decide) (fun c122 => ?_) (fun c122 => ?_)
          · have h := br_1 h c122
            refine lv_iconst (v := (-1 : Int32)) hx hb dX6_digest_141 (by decide) ?_
            refine lv_i2l (v := ((-1 : Int32).toInt64)) hx hb dX6_digest_142 rfl ?_
            refine lv_ladd hx hb dX6_digest_143 ?_
            refine lv_lstore_n (lv' := [(1, .long (((31 : Int64) * x1) + ((-1 : Int32).toInt64))), (0, .ref (am 0)), (3, .int x3)]) hx hb dX6_digest_144 rfl hl (by decide) rfl (fun ls hl => ?_)
            refine lv_iinc (v := (x3 + (1 : Int32))) (lv' := [(3, .int (x3 + (1 : Int32))), (1, .long (((31 : Int64) * x1) + ((-1 : Int32).toInt64))), (0, .ref (am 0))]) hx hb dX6_digest_145 hl (k := 2) rfl rfl (by decide) rfl (fun ls hl => ?_)
            refine lv_goto (tgt := 106) hx hb dX6_digest_148 (by decide) ?_
            exact ih106 (((31 : Int64) * x1) + ((-1 : Int32).toInt64)) (x3 + (1 : Int32)) h _ (lv_sub hl [2, 1, 0] rfl)
          · have h := br_0 h c122
            refine lv_aload_n hx hb dX6_digest_125 rfl (lv_at hl 0 rfl) ?_
            refine va_get (D := D) (ci := 4) (C := RX6) (T := TX6) (N := 27) hx hb hts iX6 hown hK hP 0 wMo_0 rfl 12 (by decide) q6 (fun _ h9 => h9) rfl dX6_digest_126 ?_
            refine lv_sipush (v := (288 : Int32)) hx hb dX6_digest_129 (by decide) ?_
            refine lv_iload_n hx hb dX6_digest_132 rfl (lv_at hl 2 rfl) ?_
            refine lv_imul hx hb dX6_digest_133 ?_
            refine lv_bipush (v := (7 : Int32)) hx hb dX6_digest_134 (by decide) ?_
            refine lv_iadd hx hb dX6_digest_136 ?_
            obtain ⟨hin8, h⟩ := ck_some h
            refine va_iald hx hb hK hP 10 0 wMo_10 rfl hin8 dX6_digest_137 ?_
            refine lv_goto (tgt := 142) hx hb dX6_digest_138 (by decide) ?_
            refine lv_i2l (v := ((mkeeps (((288 : Int32) * x3) + (7 : Int32)).toNatClampNeg).toInt64)) hx hb dX6_digest_142 rfl ?_
            refine lv_ladd hx hb dX6_digest_143 ?_
            refine lv_lstore_n (lv' := [(1, .long (((31 : Int64) * x1) + ((mkeeps (((288 : Int32) * x3) + (7 : Int32)).toNatClampNeg).toInt64))), (0, .ref (am 0)), (3, .int x3)]) hx hb dX6_digest_144 rfl hl (by decide) rfl (fun ls hl => ?_)
            refine lv_iinc (v := (x3 + (1 : Int32))) (lv' := [(3, .int (x3 + (1 : Int32))), (1, .long (((31 : Int64) * x1) + ((mkeeps (((288 : Int32) * x3) + (7 : Int32)).toNatClampNeg).toInt64))), (0, .ref (am 0))]) hx hb dX6_digest_145 hl (k := 2) rfl rfl (by decide) rfl (fun ls hl => ?_)
            refine lv_goto (tgt := 106) hx hb dX6_digest_148 (by decide) ?_
            exact ih106 (((31 : Int64) * x1) + ((mkeeps (((288 : Int32) * x3) + (7 : Int32)).toNatClampNeg).toInt64)) (x3 + (1 : Int32)) h _ (lv_sub hl [2, 1, 0] rfl)
    have l60 : ∀ nu : Nat, ∀ x1 : Int64, ∀ x3 : Int32, fX6_digest_l60 F mguests mclause mdeeds mrowSizes mrows mtextSizes mtexts mdoes mkinds msees mnow mkeeps mkept nu x1 x3 = some (r) → ∀ (ls : Array Slot), lv_has ls 5 [(0, .ref (am 0)), (1, .long x1), (3, .int x3)] → W p l e ({ frames := 3, cells := 0, slots := 0, locals := 67 } : Room) s m args below meth c s.heap [] 0 0 Q (F0 m 60 ls []) := by
      intro nu
      induction nu with
      | zero => intro x1 x3 h; exact none_some h
      | succ nu60 ih60 =>
        intro x1 x3 h ls hl
        have l71 : ∀ x3 : Int32, ∀ nu : Nat, ∀ x1 : Int64, ∀ x4 : Int32, fX6_digest_l71 F (fX6_digest_l60 F mguests mclause mdeeds mrowSizes mrows mtextSizes mtexts mdoes mkinds msees mnow mkeeps mkept nu60) mguests mclause mdeeds mrowSizes mrows mtextSizes mtexts mdoes mkinds msees mnow mkeeps mkept x3 nu x1 x4 = some (r) → ∀ (ls : Array Slot), lv_has ls 5 [(0, .ref (am 0)), (1, .long x1), (3, .int x3), (4, .int x4)] → W p l e ({ frames := 3, cells := 0, slots := 0, locals := 67 } : Room) s m args below meth c s.heap [] 0 0 Q (F0 m 71 ls []) := by
          intro x3
          intro nu
          induction nu with
          | zero => intro x1 x4 h; exact none_some h
          | succ nu71 ih71 =>
            intro x1 x4 h ls hl
            have h : fX6_digest_l71_b F (fX6_digest_l60 F mguests mclause mdeeds mrowSizes mrows mtextSizes mtexts mdoes mkinds msees mnow mkeeps mkept nu60) mguests mclause mdeeds mrowSizes mrows mtextSizes mtexts mdoes mkinds msees mnow mkeeps mkept x3 (fX6_digest_l71 F (fX6_digest_l60 F mguests mclause mdeeds mrowSizes mrows mtextSizes mtexts mdoes mkinds msees mnow mkeeps mkept nu60) mguests mclause mdeeds mrowSizes mrows mtextSizes mtexts mdoes mkinds msees mnow mkeeps mkept x3 nu71) x1 x4 = some (r) := h
            unfold fX6_digest_l71_b at h
            refine lv_iload hx hb dX6_digest_71 (lv_at hl 3 rfl) ?_
            refine lv_iconst (v := (5 : Int32)) hx hb dX6_digest_73 (by decide) ?_
            refine lv_icmp_ge (tgt := 98) hx hb dX6_digest_74 (by decide) (fun c74 => ?_) (fun c74 => ?_)
            · have h := br_1 h c74
              refine lv_iinc (v := (x3 + (1 : Int32))) (lv' := [(3, .int (x3 + (1 : Int32))), (0, .ref (am 0)), (1, .long x1), (4, .int x4)]) hx hb dX6_digest_98 hl (k := 2) rfl rfl (by decide) rfl (fun ls hl => ?_)
              refine lv_goto (tgt := 60) hx hb dX6_digest_101 (by decide) ?_
              exact ih60 x1 (x3 + (1 : Int32)) h _ (lv_sub hl [1, 2, 0] rfl)
            · have h := br_0 h c74
              refine lv_ldc2 (v := (31 : Int64)) hx hb hown q2 dX6_digest_77 ?_
              refine lv_lload_n hx hb dX6_digest_80 rfl (lv_at hl 1 rfl) ?_
              refine lv_lmul hx hb dX6_digest_81 ?_
              refine lv_aload_n hx hb dX6_digest_82 rfl (lv_at hl 0 rfl) ?_
              refine lv_iload_n hx hb dX6_digest_83 rfl (lv_at hl 2 rfl) ?_
              refine lv_iload hx hb dX6_digest_84 (lv_at hl 3 rfl) ?_
              obtain ⟨r86, hc, h⟩ := bd1_some h
              refine my_roi (va_Run.run (va_runV (As := [.int x3, .int x4]) (rest := [.long ((31 : Int64) * x1)]) hFix (kX6_guestOf l D T F am mguests mclause mdeeds masked mupper mlower mfinding mreadGuests misSight mat mrowSizes mrows mtextSizes mtexts mdoes mkinds msees mnow mbefore mkeeps mkept mfindings mread maside msteps mtried mbest x3 x4 r86 hc) (cwV 2 hts gX6_digest_X6_guestOf rfl rfl rfl ⟨rfl, hd_X6_guestOf⟩ ⟨Nat.le_of_ble_eq_true rfl, Nat.le_of_ble_eq_true rfl⟩) (preV_ro hP hKK (va_recv hK hP (ci := 4) (q0 := 0) rfl wMo_0)) rfl rfl hl.1 rfl (lv_room (Nat.le_of_ble_eq_true rfl)) dX6_digest_86 ⟨Nat.zero_le _, Nat.zero_le _⟩)) ?_
              refine lv_i2l (v := (r86.toInt64)) hx hb dX6_digest_89 rfl ?_
              refine lv_ladd hx hb dX6_digest_90 ?_
              refine lv_lstore_n (lv' := [(1, .long (((31 : Int64) * x1) + (r86.toInt64))), (0, .ref (am 0)), (3, .int x3), (4, .int x4)]) hx hb dX6_digest_91 rfl hl (by decide) rfl (fun ls hl => ?_)
              refine lv_iinc (v := (x4 + (1 : Int32))) (lv' := [(4, .int (x4 + (1 : Int32))), (1, .long (((31 : Int64) * x1) + (r86.toInt64))), (0, .ref (am 0)), (3, .int x3)]) hx hb dX6_digest_92 hl (k := 3) rfl rfl (by decide) rfl (fun ls hl => ?_)
              refine lv_goto (tgt := 71) hx hb dX6_digest_95 (by decide) ?_
              exact ih71 (((31 : Int64) * x1) + (r86.toInt64)) (x4 + (1 : Int32)) h _ (lv_sub hl [2, 1, 3, 0] rfl)
        have h : fX6_digest_l60_b F mguests mclause mdeeds mrowSizes mrows mtextSizes mtexts mdoes mkinds msees mnow mkeeps mkept (fX6_digest_l60 F mguests mclause mdeeds mrowSizes mrows mtextSizes mtexts mdoes mkinds msees mnow mkeeps mkept nu60) x1 x3 = some (r) := h
        unfold fX6_digest_l60_b at h
        refine lv_iload_n hx hb dX6_digest_60 rfl (lv_at hl 2 rfl) ?_
        refine lv_aload_n hx hb dX6_digest_61 rfl (lv_at hl 0 rfl) ?_
        refine va_get (D := D) (ci := 4) (C := RX6) (T := TX6) (N := 27) hx hb hts iX6 hown hK hP 0 wMo_0 rfl 4 (by decide) q4 (fun _ h9 => h9) rfl dX6_digest_62 ?_
        refine lv_icmp_ge (tgt := 104) hx hb dX6_digest_65 (by decide) (fun c65 => ?_) (fun c65 => ?_)
        · have h := br_1 h c65
          refine lv_iconst (v := (0 : Int32)) hx hb dX6_digest_104 (by decide) ?_
          refine lv_istore_n (lv' := [(3, .int (0 : Int32)), (0, .ref (am 0)), (1, .long x1)]) hx hb dX6_digest_105 rfl hl (by decide) rfl (fun ls hl => ?_)
          exact l106 F x1 (0 : Int32) h _ (lv_sub hl [1, 2, 0] rfl)
        · have h := br_0 h c65
          refine lv_iconst (v := (0 : Int32)) hx hb dX6_digest_68 (by decide) ?_
          refine lv_istore (lv' := [(4, .int (0 : Int32)), (0, .ref (am 0)), (1, .long x1), (3, .int x3)]) hx hb dX6_digest_69 hl (by decide) rfl (fun ls hl => ?_)
          exact l71 x3 F x1 (0 : Int32) h _ (lv_sub hl [1, 2, 3, 0] rfl)
    have l33 : ∀ nu : Nat, ∀ x1 : Int64, ∀ x3 : Int32, fX6_digest_l33 F mguests mclause mdeeds mrowSizes mrows mtextSizes mtexts mdoes mkinds msees mnow mkeeps mkept nu x1 x3 = some (r) → ∀ (ls : Array Slot), lv_has ls 5 [(0, .ref (am 0)), (1, .long x1), (3, .int x3)] → W p l e ({ frames := 3, cells := 0, slots := 0, locals := 67 } : Room) s m args below meth c s.heap [] 0 0 Q (F0 m 33 ls []) := by
      intro nu
      induction nu with
      | zero => intro x1 x3 h; exact none_some h
      | succ nu33 ih33 =>
        intro x1 x3 h ls hl
        have h : fX6_digest_l33_b F mguests mclause mdeeds mrowSizes mrows mtextSizes mtexts mdoes mkinds msees mnow mkeeps mkept (fX6_digest_l33 F mguests mclause mdeeds mrowSizes mrows mtextSizes mtexts mdoes mkinds msees mnow mkeeps mkept nu33) x1 x3 = some (r) := h
        unfold fX6_digest_l33_b at h
        refine lv_iload_n hx hb dX6_digest_33 rfl (lv_at hl 2 rfl) ?_
        refine lv_iconst (v := (4 : Int32)) hx hb dX6_digest_34 (by decide) ?_
        refine lv_icmp_ge (tgt := 58) hx hb dX6_digest_35 (by decide) (fun c35 => ?_) (fun c35 => ?_)
        · have h := br_1 h c35
          refine lv_iconst (v := (0 : Int32)) hx hb dX6_digest_58 (by decide) ?_
          refine lv_istore_n (lv' := [(3, .int (0 : Int32)), (0, .ref (am 0)), (1, .long x1)]) hx hb dX6_digest_59 rfl hl (by decide) rfl (fun ls hl => ?_)
          exact l60 F x1 (0 : Int32) h _ (lv_sub hl [1, 2, 0] rfl)
        · have h := br_0 h c35
          refine lv_ldc2 (v := (31 : Int64)) hx hb hown q2 dX6_digest_38 ?_
          refine lv_lload_n hx hb dX6_digest_41 rfl (lv_at hl 1 rfl) ?_
          refine lv_lmul hx hb dX6_digest_42 ?_
          refine lv_aload_n hx hb dX6_digest_43 rfl (lv_at hl 0 rfl) ?_
          refine va_get (D := D) (ci := 4) (C := RX6) (T := TX6) (N := 27) hx hb hts iX6 hown hK hP 0 wMo_0 rfl 6 (by decide) q3 (fun _ h9 => h9) rfl dX6_digest_44 ?_
          refine lv_iload_n hx hb dX6_digest_47 rfl (lv_at hl 2 rfl) ?_
          obtain ⟨hin9, h⟩ := ck_some h
          refine va_iald hx hb hK hP 5 0 wMo_5 rfl hin9 dX6_digest_48 ?_
          refine lv_i2l (v := ((mdoes x3.toNatClampNeg).toInt64)) hx hb dX6_digest_49 rfl ?_
          refine lv_ladd hx hb dX6_digest_50 ?_
          refine lv_lstore_n (lv' := [(1, .long (((31 : Int64) * x1) + ((mdoes x3.toNatClampNeg).toInt64))), (0, .ref (am 0)), (3, .int x3)]) hx hb dX6_digest_51 rfl hl (by decide) rfl (fun ls hl => ?_)
          refine lv_iinc (v := (x3 + (1 : Int32))) (lv' := [(3, .int (x3 + (1 : Int32))), (1, .long (((31 : Int64) * x1) + ((mdoes x3.toNatClampNeg).toInt64))), (0, .ref (am 0))]) hx hb dX6_digest_52 hl (k := 2) rfl rfl (by decide) rfl (fun ls hl => ?_)
          refine lv_goto (tgt := 33) hx hb dX6_digest_55 (by decide) ?_
          exact ih33 (((31 : Int64) * x1) + ((mdoes x3.toNatClampNeg).toInt64)) (x3 + (1 : Int32)) h _ (lv_sub hl [2, 1, 0] rfl)
    have l6 : ∀ nu : Nat, ∀ x1 : Int64, ∀ x3 : Int32, fX6_digest_l6 F mguests mclause mdeeds mrowSizes mrows mtextSizes mtexts mdoes mkinds msees mnow mkeeps mkept nu x1 x3 = some (r) → ∀ (ls : Array Slot), lv_has ls 5 [(0, .ref (am 0)), (1, .long x1), (3, .int x3)] → W p l e ({ frames := 3, cells := 0, slots := 0, locals := 67 } : Room) s m args below meth c s.heap [] 0 0 Q (F0 m 6 ls []) := by
      intro nu
      induction nu with
      | zero => intro x1 x3 h; exact none_some h
      | succ nu6 ih6 =>
        intro x1 x3 h ls hl
        have h : fX6_digest_l6_b F mguests mclause mdeeds mrowSizes mrows mtextSizes mtexts mdoes mkinds msees mnow mkeeps mkept (fX6_digest_l6 F mguests mclause mdeeds mrowSizes mrows mtextSizes mtexts mdoes mkinds msees mnow mkeeps mkept nu6) x1 x3 = some (r) := h
        unfold fX6_digest_l6_b at h
        refine lv_iload_n hx hb dX6_digest_6 rfl (lv_at hl 2 rfl) ?_
        refine lv_bipush (v := (10 : Int32)) hx hb dX6_digest_7 (by decide) ?_
        refine lv_icmp_ge (tgt := 31) hx hb dX6_digest_9 (by decide) (fun c9 => ?_) (fun c9 => ?_)
        · have h := br_1 h c9
          refine lv_iconst (v := (0 : Int32)) hx hb dX6_digest_31 (by decide) ?_
          refine lv_istore_n (lv' := [(3, .int (0 : Int32)), (0, .ref (am 0)), (1, .long x1)]) hx hb dX6_digest_32 rfl hl (by decide) rfl (fun ls hl => ?_)
          exact l33 F x1 (0 : Int32) h _ (lv_sub hl [1, 2, 0] rfl)
        · have h := br_0 h c9
          refine lv_ldc2 (v := (31 : Int64)) hx hb hown q2 dX6_digest_12 ?_
          refine lv_lload_n hx hb dX6_digest_15 rfl (lv_at hl 1 rfl) ?_
          refine lv_lmul hx hb dX6_digest_16 ?_
          refine lv_aload_n hx hb dX6_digest_17 rfl (lv_at hl 0 rfl) ?_
          refine lv_iload_n hx hb dX6_digest_18 rfl (lv_at hl 2 rfl) ?_
          obtain ⟨r19, hc, h⟩ := bd1_some h
          refine my_roi (va_Run.run (va_runV (As := [.int x3]) (rest := [.long ((31 : Int64) * x1)]) hFix (kX6_counted l D T F am mguests mclause mdeeds masked mupper mlower mfinding mreadGuests misSight mat mrowSizes mrows mtextSizes mtexts mdoes mkinds msees mnow mbefore mkeeps mkept mfindings mread maside msteps mtried mbest x3 r19 hc) (cwV 1 hts gX6_digest_X6_counted rfl rfl rfl ⟨rfl, hd_X6_counted⟩ ⟨Nat.le_of_ble_eq_true rfl, Nat.le_of_ble_eq_true rfl⟩) (preV_ro hP hKK (va_recv hK hP (ci := 4) (q0 := 0) rfl wMo_0)) rfl rfl hl.1 rfl (lv_room (Nat.le_of_ble_eq_true rfl)) dX6_digest_19 ⟨Nat.zero_le _, Nat.zero_le _⟩)) ?_
          refine lv_i2l (v := (r19.toInt64)) hx hb dX6_digest_22 rfl ?_
          refine lv_ladd hx hb dX6_digest_23 ?_
          refine lv_lstore_n (lv' := [(1, .long (((31 : Int64) * x1) + (r19.toInt64))), (0, .ref (am 0)), (3, .int x3)]) hx hb dX6_digest_24 rfl hl (by decide) rfl (fun ls hl => ?_)
          refine lv_iinc (v := (x3 + (1 : Int32))) (lv' := [(3, .int (x3 + (1 : Int32))), (1, .long (((31 : Int64) * x1) + (r19.toInt64))), (0, .ref (am 0))]) hx hb dX6_digest_25 hl (k := 2) rfl rfl (by decide) rfl (fun ls hl => ?_)
          refine lv_goto (tgt := 6) hx hb dX6_digest_28 (by decide) ?_
          exact ih6 (((31 : Int64) * x1) + (r19.toInt64)) (x3 + (1 : Int32)) h _ (lv_sub hl [2, 1, 0] rfl)
    unfold fX6_digest at h
    refine lv_ldc2 (v := (17 : Int64)) hx hb hown q1 dX6_digest_0 ?_
    refine lv_lstore_n (lv' := [(1, .long (17 : Int64)), (0, .ref (am 0))]) hx hb dX6_digest_3 rfl hl (by decide) rfl (fun ls hl => ?_)
    refine lv_iconst (v := (0 : Int32)) hx hb dX6_digest_4 (by decide) ?_
    refine lv_istore_n (lv' := [(3, .int (0 : Int32)), (1, .long (17 : Int64)), (0, .ref (am 0))]) hx hb dX6_digest_5 rfl hl (by decide) rfl (fun ls hl => ?_)
    exact l6 F (17 : Int64) (0 : Int32) h _ (lv_sub hl [2, 1, 0] rfl)
  exact key _ (fun pc ls hd => W.lret hx hb hr (fun t ht hW => ⟨_, rfl, rfl, ht⟩) (fun q h => by cases h) hd)
