set_option maxHeartbeats 4000000 in
set_option maxRecDepth 100000 in
theorem kX6_tries (l : Launch) (D : va_G) (T : Nat → ClassId) (F : Nat) (am : Nat → Nat) (mguests : Int32) (mclause : Int32) (mdeeds : Int32) (masked : Int32) (mupper : Int64) (mlower : Int64) (mfinding : Int32) (mreadGuests : Int32) (misSight : Int32) (mat : Int32) (mrowSizes : Nat → Int32) (mrows : Nat → Int32) (mtextSizes : Nat → Int32) (mtexts : Nat → Int32) (mdoes : Nat → Int32) (mkinds : Nat → Int32) (msees : Nat → Int32) (mnow : Nat → Int32) (mbefore : Nat → Int32) (mkeeps : Nat → Int32) (mkept : Nat → Int32) (mfindings : Nat → Int32) (mread : Nat → Int32) (maside : Nat → Int32) (msteps : Nat → Int32) (mtried : Nat → Int32) (mbest : Nat → Int32) (x1 : Int32) (r : Int32) (zmaside : Nat → Int32) (zmsteps : Nat → Int32) (h : fX6_tries F mguests mclause mdoes mkinds msees maside msteps mtried x1 = some (r, zmaside, zmsteps)) : ∀ sz : Nat, Met l yX6_tries wsX6_tries ({ frames := 4, cells := 0, slots := 0, locals := 93 } : Room) (va_Pc [.ref (am 0), .int x1] (fun U => U.heap.size = sz ∧ va_P D vwCl (wMo T am mguests mclause mdeeds masked mupper mlower mfinding mreadGuests misSight mat mrowSizes mrows mtextSizes mtexts mdoes mkinds msees mnow mbefore mkeeps mkept mfindings mread maside msteps mtried mbest) U.heap ∧ KK D T U ∧ va_D (fun _ => True) (wMo T am mguests mclause mdeeds masked mupper mlower mfinding mreadGuests misSight mat mrowSizes mrows mtextSizes mtexts mdoes mkinds msees mnow mbefore mkeeps mkept mfindings mread maside msteps mtried mbest))) (va_Qi (fun r' (_ : Unit) => r' = r ∧ b01 r) (fun _ t => va_P D vwCl (wMo T am mguests mclause mdeeds masked mupper mlower mfinding mreadGuests misSight mat mrowSizes mrows mtextSizes mtexts mdoes mkinds msees mnow mbefore mkeeps mkept mfindings mread zmaside zmsteps mtried mbest) t.heap ∧ va_D (va_A (wMo T am mguests mclause mdeeds masked mupper mlower mfinding mreadGuests misSight mat mrowSizes mrows mtextSizes mtexts mdoes mkinds msees mnow mbefore mkeeps mkept mfindings mread maside msteps mtried mbest) sz) (wMo T am mguests mclause mdeeds masked mupper mlower mfinding mreadGuests misSight mat mrowSizes mrows mtextSizes mtexts mdoes mkinds msees mnow mbefore mkeeps mkept mfindings mread zmaside zmsteps mtried mbest)) (va_A (wMo T am mguests mclause mdeeds masked mupper mlower mfinding mreadGuests misSight mat mrowSizes mrows mtextSizes mtexts mdoes mkinds msees mnow mbefore mkeeps mkept mfindings mread maside msteps mtried mbest) sz)) 0 0 (va_A (wMo T am mguests mclause mdeeds masked mupper mlower mfinding mreadGuests misSight mat mrowSizes mrows mtextSizes mtexts mdoes mkinds msees mnow mbefore mkeeps mkept mfindings mread maside msteps mtried mbest) sz) := by
  intro sz
  refine Met.ofW (cc := cX6_tries) (maxL := 5) (ret := some .boolean) (by decide) rfl ?_
  intro p e s m args below meth c s₁ B hml hv
  obtain ⟨ha, hsz, hP, hKK, hD0⟩ := hv
  have hx := B.exec
  have hb := B.bytes
  have hr := B.returns
  have hts := atoms_spec (ws := wsX6_tries) B.pre
  have hown : s.vm.findClass RX6 = some m.cls := findClass_of_methodNamed B.named
  have hlocks := B.notSynchronized
  have hK := hKK.1
  have hFix : CallFix p m c cX6_tries 5 s args wsX6_tries RX6 := ⟨hx, hb, hml, hown, hts⟩
  have q1 := hts _ (List.mem_of_getElem? (i := 1) (show wsX6_tries[1]? = some (Cond.fieldLink RX6 60 "PartyWillModel" "tried" "[I") from rfl))
  have q2 := hts _ (List.mem_of_getElem? (i := 2) (show wsX6_tries[2]? = some (Cond.fieldLink RX6 57 "PartyWillModel" "steps" "[I") from rfl))
  have q3 := hts _ (List.mem_of_getElem? (i := 3) (show wsX6_tries[3]? = some (Cond.fieldLink RX6 54 "PartyWillModel" "aside" "[I") from rfl))
  have q4 := hts _ (List.mem_of_getElem? (i := 4) (show wsX6_tries[4]? = some (Cond.fieldLink RX6 25 "PartyWillModel" "kinds" "[I") from rfl))
  have iX6 : ∀ w ∈ u_ws RX6 TX6 27, w ∈ wsX6_tries := fun w h => List.mem_cons_of_mem _ (List.mem_append_right _ (h))
  subst hsz
  have hD := hD0.self (sz := s.heap.size)
  generalize hAe : va_A (wMo T am mguests mclause mdeeds masked mupper mlower mfinding mreadGuests misSight mat mrowSizes mrows mtextSizes mtexts mdoes mkinds msees mnow mbefore mkeeps mkept mfindings mread maside msteps mtried mbest) s.heap.size = A at hD ⊢
  have hA : ∀ q : Nat, s.heap.size ≤ q → A q := fun q h => by rw [← hAe]; exact Or.inr h
  have hS : va_S A s.heap s.heap [] := va_S.rf
  have hP : va_P D vwCl (wMo T am mguests mclause mdeeds masked mupper mlower mfinding mreadGuests misSight mat mrowSizes mrows mtextSizes mtexts mdoes mkinds msees mnow mbefore mkeeps mkept mfindings mread maside msteps mtried mbest) s.heap := hP
  obtain ⟨ls, hl, e0⟩ := my_entry (m := m) (n := 5) ha (Nat.le_of_ble_eq_true rfl)
  rw [e0]
  have hl : lv_has ls 5 [(0, .ref (am 0)), (1, .int x1)] := hl
  have key : ∀ Q : State → Prop, (∀ (H : Heap) (locs : List Loc) (pc : Nat) (ls : Array Slot), va_P D vwCl (wMo T am mguests mclause mdeeds masked mupper mlower mfinding mreadGuests misSight mat mrowSizes mrows mtextSizes mtexts mdoes mkinds msees mnow mbefore mkeeps mkept mfindings mread zmaside zmsteps mtried mbest) H → va_D A (wMo T am mguests mclause mdeeds masked mupper mlower mfinding mreadGuests misSight mat mrowSizes mrows mtextSizes mtexts mdoes mkinds msees mnow mbefore mkeeps mkept mfindings mread zmaside zmsteps mtried mbest) → va_S A s.heap H locs → decode cX6_tries pc = .ok (.ireturn, 1) → b01 r → W p l e ({ frames := 4, cells := 0, slots := 0, locals := 93 } : Room) s m args below meth c H locs 0 0 Q (F0 m pc ls [.int r])) → W p l e ({ frames := 4, cells := 0, slots := 0, locals := 93 } : Room) s m args below meth c s.heap [] 0 0 Q (F0 m 0 ls []) := by
    intro Q hret
    skip
    have n114 : ∀ x1 : Int32, ∀ maside : Nat → Int32, ∀ msteps : Nat → Int32, fX6_tries_n114 F mguests mclause mdoes mkinds msees mtried x1 maside msteps = some (r, zmaside, zmsteps) → ∀ (H : Heap) (locs : List Loc), va_P D vwCl (wMo T am mguests mclause mdeeds masked mupper mlower mfinding mreadGuests misSight mat mrowSizes mrows mtextSizes mtexts mdoes mkinds msees mnow mbefore mkeeps mkept mfindings mread maside msteps mtried mbest) H → va_D A (wMo T am mguests mclause mdeeds masked mupper mlower mfinding mreadGuests misSight mat mrowSizes mrows mtextSizes mtexts mdoes mkinds msees mnow mbefore mkeeps mkept mfindings mread maside msteps mtried mbest) → va_S A s.heap H locs → ∀ (ls : Array Slot), lv_has ls 5 [(0, .ref (am 0)), (1, .int x1)] → W p l e ({ frames := 4, cells := 0, slots := 0, locals := 93 } : Room) s m args below meth c H locs 0 0 Q (F0 m 114 ls []) := by
      intro x1 maside msteps h H locs hP hD hS ls hl
      unfold fX6_tries_n114 at h
      refine lv_aload_n hx hb dX6_tries_114 rfl (lv_at hl 0 rfl) ?_
      refine va_get (D := D) (ci := 4) (C := RX6) (T := TX6) (N := 27) hx hb hts iX6 hown hK hP 0 wMo_0 rfl 23 (by decide) q3 (fun _ h9 => h9) rfl dX6_tries_115 ?_
      refine lv_iconst (v := (0 : Int32)) hx hb dX6_tries_118 (by decide) ?_
      refine lv_aload_n hx hb dX6_tries_119 rfl (lv_at hl 0 rfl) ?_
      refine va_get (D := D) (ci := 4) (C := RX6) (T := TX6) (N := 27) hx hb hts iX6 hown hK hP 0 wMo_0 rfl 24 (by decide) q2 (fun _ h9 => h9) rfl dX6_tries_120 ?_
      refine lv_bipush (v := (7 : Int32)) hx hb dX6_tries_123 (by decide) ?_
      refine lv_iload_n hx hb dX6_tries_125 rfl (lv_at hl 1 rfl) ?_
      refine lv_iconst (v := (1 : Int32)) hx hb dX6_tries_126 (by decide) ?_
      refine lv_iadd hx hb dX6_tries_127 ?_
      refine lv_imul hx hb dX6_tries_128 ?_
      refine lv_bipush (v := (7 : Int32)) hx hb dX6_tries_129 (by decide) ?_
      obtain ⟨w131_f2, hc, h⟩ := bd1_some h
      have hPc : va_P D vwCl (wA2 T (am 14) (am 15) 7 49 maside msteps) _ := my_subP sb_wMo_wA2_14_15 hP
      have hDc := hD.sub [14, 15] (by decide) sb_wMo_wA2_14_15
      have hFc := va_free hD hS hA [14, 15] sb_wMo_wA2_14_15
      refine my_rwv (va_runS (As := [.ref (am 14), .int (0 : Int32), .ref (am 15), .int ((7 : Int32) * (x1 + (1 : Int32))), .int (7 : Int32)]) (rest := []) hFix (kX6_copies l D T F (am 14) (am 15) 7 49 maside msteps (0 : Int32) ((7 : Int32) * (x1 + (1 : Int32))) (7 : Int32) w131_f2 hc _) (va_cwS 5 hts gX6_tries_X6_copies rfl rfl rfl hd_X6_copies ⟨Nat.le_of_ble_eq_true rfl, Nat.le_of_ble_eq_true rfl⟩) (preS_rw hPc hKK hDc) rfl rfl hl.1 rfl (lv_room (Nat.le_of_ble_eq_true rfl)) dX6_tries_131 ⟨Nat.zero_le _, Nat.zero_le _⟩) hS hFc (fun H1 locs hP1 hD1 hz1 hkk hS => ?_)
      obtain ⟨hP, hD⟩ := my_joinS hP hD (by decide) sb_wMo_wA2_14_15 (by rfl) hkk hFc hP1 hD1
      rw [st_wMo_wA2_14_15_copies] at hP hD
      generalize H1 = H at hP hS ⊢
      refine lv_iconst (v := (1 : Int32)) hx hb dX6_tries_134 (by decide) ?_
      cases h
      exact hret _ _ _ _ hP hD hS dX6_tries_135 (Or.inr rfl)
    have n102 : ∀ x1 : Int32, ∀ x2 : Int32, ∀ x3 : Int32, ∀ maside : Nat → Int32, ∀ msteps : Nat → Int32, fX6_tries_n102 F mguests mclause mdoes mkinds msees mtried x1 x2 x3 maside msteps = some (r, zmaside, zmsteps) → ∀ (H : Heap) (locs : List Loc), va_P D vwCl (wMo T am mguests mclause mdeeds masked mupper mlower mfinding mreadGuests misSight mat mrowSizes mrows mtextSizes mtexts mdoes mkinds msees mnow mbefore mkeeps mkept mfindings mread maside msteps mtried mbest) H → va_D A (wMo T am mguests mclause mdeeds masked mupper mlower mfinding mreadGuests misSight mat mrowSizes mrows mtextSizes mtexts mdoes mkinds msees mnow mbefore mkeeps mkept mfindings mread maside msteps mtried mbest) → va_S A s.heap H locs → ∀ (ls : Array Slot), lv_has ls 5 [(0, .ref (am 0)), (1, .int x1), (2, .int x2), (3, .int x3)] → W p l e ({ frames := 4, cells := 0, slots := 0, locals := 93 } : Room) s m args below meth c H locs 0 0 Q (F0 m 102 ls []) := by
      intro x1 x2 x3 maside msteps h H locs hP hD hS ls hl
      unfold fX6_tries_n102 at h
      refine lv_iload_n hx hb dX6_tries_102 rfl (lv_at hl 2 rfl) ?_
      refine lv_bipush (v := (6 : Int32)) hx hb dX6_tries_103 (by decide) ?_
      refine lv_icmp_lt (tgt := 112) hx hb dX6_tries_105 (by decide) (fun c105 => ?_) (fun c105 => ?_)
      · have h := br_1 h c105
        refine lv_iconst (v := (0 : Int32)) hx hb dX6_tries_112 (by decide) ?_
        cases h
        exact hret _ _ _ _ hP hD hS dX6_tries_113 (Or.inl rfl)
      · have h := br_0 h c105
        refine lv_iload_n hx hb dX6_tries_108 rfl (lv_at hl 3 rfl) ?_
        refine lv_if_eq (tgt := 114) hx hb dX6_tries_109 (by decide) (fun c109 => ?_) (fun c109 => ?_)
        · have h := br_1 h c109
          exact n114 x1 maside msteps h _ _ hP hD hS _ (lv_sub hl [0, 1] rfl)
        · have h := br_0 h c109
          refine lv_iconst (v := (0 : Int32)) hx hb dX6_tries_112 (by decide) ?_
          cases h
          exact hret _ _ _ _ hP hD hS dX6_tries_113 (Or.inl rfl)
    unfold fX6_tries at h
    refine lv_aload_n hx hb dX6_tries_0 rfl (lv_at hl 0 rfl) ?_
    refine va_get (D := D) (ci := 4) (C := RX6) (T := TX6) (N := 27) hx hb hts iX6 hown hK hP 0 wMo_0 rfl 25 (by decide) q1 (fun _ h9 => h9) rfl dX6_tries_1 ?_
    refine lv_iload_n hx hb dX6_tries_4 rfl (lv_at hl 1 rfl) ?_
    obtain ⟨hin1, h⟩ := ck_some h
    refine va_iald hx hb hK hP 16 0 wMo_16 rfl hin1 dX6_tries_5 ?_
    refine lv_istore_n (lv' := [(2, .int (mtried x1.toNatClampNeg)), (0, .ref (am 0)), (1, .int x1)]) hx hb dX6_tries_6 rfl hl (by decide) rfl (fun ls hl => ?_)
    refine lv_aload_n hx hb dX6_tries_7 rfl (lv_at hl 1 rfl) ?_
    refine va_get (D := D) (ci := 4) (C := RX6) (T := TX6) (N := 27) hx hb hts iX6 hown hK hP 0 wMo_0 rfl 24 (by decide) q2 (fun _ h9 => h9) rfl dX6_tries_8 ?_
    refine lv_bipush (v := (7 : Int32)) hx hb dX6_tries_11 (by decide) ?_
    refine lv_iload_n hx hb dX6_tries_13 rfl (lv_at hl 2 rfl) ?_
    refine lv_imul hx hb dX6_tries_14 ?_
    refine lv_aload_n hx hb dX6_tries_15 rfl (lv_at hl 1 rfl) ?_
    refine va_get (D := D) (ci := 4) (C := RX6) (T := TX6) (N := 27) hx hb hts iX6 hown hK hP 0 wMo_0 rfl 23 (by decide) q3 (fun _ h9 => h9) rfl dX6_tries_16 ?_
    refine lv_iconst (v := (0 : Int32)) hx hb dX6_tries_19 (by decide) ?_
    refine lv_bipush (v := (7 : Int32)) hx hb dX6_tries_20 (by decide) ?_
    obtain ⟨w22_f2, hc, h⟩ := bd1_some h
    have hPc : va_P D vwCl (wA2 T (am 15) (am 14) 49 7 msteps maside) _ := my_subP sb_wMo_wA2_15_14 hP
    have hDc := hD.sub [15, 14] (by decide) sb_wMo_wA2_15_14
    have hFc := va_free hD hS hA [15, 14] sb_wMo_wA2_15_14
    refine my_rwv (va_runS (As := [.ref (am 15), .int ((7 : Int32) * x1), .ref (am 14), .int (0 : Int32), .int (7 : Int32)]) (rest := []) hFix (kX6_copies l D T F (am 15) (am 14) 49 7 msteps maside ((7 : Int32) * x1) (0 : Int32) (7 : Int32) w22_f2 hc _) (va_cwS 5 hts gX6_tries_X6_copies rfl rfl rfl hd_X6_copies ⟨Nat.le_of_ble_eq_true rfl, Nat.le_of_ble_eq_true rfl⟩) (preS_rw hPc hKK hDc) rfl rfl hl.1 rfl (lv_room (Nat.le_of_ble_eq_true rfl)) dX6_tries_22 ⟨Nat.zero_le _, Nat.zero_le _⟩) hS hFc (fun H1 locs hP1 hD1 hz1 hkk hS => ?_)
    obtain ⟨hP, hD⟩ := my_joinS hP hD (by decide) sb_wMo_wA2_15_14 (by rfl) hkk hFc hP1 hD1
    rw [st_wMo_wA2_15_14_copies] at hP hD
    generalize H1 = H at hP hS ⊢
    refine lv_aload_n hx hb dX6_tries_25 rfl (lv_at hl 1 rfl) ?_
    refine lv_aload_n hx hb dX6_tries_26 rfl (lv_at hl 1 rfl) ?_
    refine va_get (D := D) (ci := 4) (C := RX6) (T := TX6) (N := 27) hx hb hts iX6 hown hK hP 0 wMo_0 rfl 23 (by decide) q3 (fun _ h9 => h9) rfl dX6_tries_27 ?_
    obtain ⟨r30, hc, h⟩ := bd1_some h
    have hPc : va_P D vwCl (wMi T am (am 14) mguests mclause mdeeds masked mupper mlower mfinding mreadGuests misSight mat w22_f2) _ := my_subP sb_wMo_wMi_0_14 hP
    refine my_roi (va_Run.run (va_runV (As := [.ref (am 14)]) (rest := []) hFix (kX6_inside l D T F am (am 14) mguests mclause mdeeds masked mupper mlower mfinding mreadGuests misSight mat w22_f2 r30 hc) (cwV 1 hts gX6_tries_X6_inside rfl rfl rfl ⟨rfl, hd_X6_inside⟩ ⟨Nat.le_of_ble_eq_true rfl, Nat.le_of_ble_eq_true rfl⟩) (preV_ro hPc hKK (va_recv hK hP (ci := 4) (q0 := 0) rfl wMo_0)) rfl rfl hl.1 rfl (lv_room (Nat.le_of_ble_eq_true rfl)) dX6_tries_30 ⟨Nat.zero_le _, Nat.zero_le _⟩)) ?_
    refine lv_istore_n (lv' := [(3, .int r30), (2, .int (mtried x1.toNatClampNeg)), (0, .ref (am 0)), (1, .int x1)]) hx hb dX6_tries_33 rfl hl (by decide) rfl (fun ls hl => ?_)
    refine lv_iload_n hx hb dX6_tries_34 rfl (lv_at hl 3 rfl) ?_
    refine lv_iconst (v := (2 : Int32)) hx hb dX6_tries_35 (by decide) ?_
    refine lv_irem hx hb dX6_tries_36 (by decide) ?_
    refine lv_if_ne (tgt := 54) hx hb dX6_tries_37 (by decide) (fun c37 => ?_) (fun c37 => ?_)
    · have h := br_0 h c37
      refine lv_iload_n hx hb dX6_tries_54 rfl (lv_at hl 1 rfl) ?_
      refine lv_bipush (v := (6 : Int32)) hx hb dX6_tries_55 (by decide) ?_
      refine lv_icmp_ge (tgt := 102) hx hb dX6_tries_57 (by decide) (fun c57 => ?_) (fun c57 => ?_)
      · have h := br_1 h c57
        exact n102 x1 (mtried x1.toNatClampNeg) r30 w22_f2 msteps h _ _ hP hD hS _ (lv_sub hl [2, 3, 1, 0] rfl)
      · have h := br_0 h c57
        refine lv_iload_n hx hb dX6_tries_60 rfl (lv_at hl 0 rfl) ?_
        refine lv_iload_n hx hb dX6_tries_61 rfl (lv_at hl 1 rfl) ?_
        obtain ⟨r62, hc, h⟩ := bd1_some h
        refine my_roz (va_Run.run (va_runS (As := [.int r30, .int (mtried x1.toNatClampNeg)]) (rest := []) hFix (kX6_has l D T F r30 (mtried x1.toNatClampNeg) r62 hc) (va_cwS 2 hts gX6_tries_X6_has rfl rfl rfl hd_X6_has ⟨Nat.le_of_ble_eq_true rfl, Nat.le_of_ble_eq_true rfl⟩) (preS_ro va_nil hKK) rfl rfl hl.1 rfl (lv_room (Nat.le_of_ble_eq_true rfl)) dX6_tries_62 ⟨Nat.zero_le _, Nat.zero_le _⟩)) (fun hb62 => ?_)
        refine lv_if_eq (tgt := 102) hx hb dX6_tries_65 (by decide) (fun c65 => ?_) (fun c65 => ?_)
        · have h := br_1 h c65
          exact n102 x1 (mtried x1.toNatClampNeg) r30 w22_f2 msteps h _ _ hP hD hS _ (lv_sub hl [2, 3, 1, 0] rfl)
        · have h := br_0 h c65
          refine lv_aload_n hx hb dX6_tries_68 rfl (lv_at hl 2 rfl) ?_
          refine va_get (D := D) (ci := 4) (C := RX6) (T := TX6) (N := 27) hx hb hts iX6 hown hK hP 0 wMo_0 rfl 23 (by decide) q3 (fun _ h9 => h9) rfl dX6_tries_69 ?_
          refine lv_iload_n hx hb dX6_tries_72 rfl (lv_at hl 1 rfl) ?_
          refine lv_aload_n hx hb dX6_tries_73 rfl (lv_at hl 2 rfl) ?_
          refine va_get (D := D) (ci := 4) (C := RX6) (T := TX6) (N := 27) hx hb hts iX6 hown hK hP 0 wMo_0 rfl 7 (by decide) q4 (fun _ h9 => h9) rfl dX6_tries_74 ?_
          refine lv_iload_n hx hb dX6_tries_77 rfl (lv_at hl 1 rfl) ?_
          obtain ⟨hin2, h⟩ := ck_some h
          refine va_iald hx hb hK hP 6 0 wMo_6 rfl hin2 dX6_tries_78 ?_
          refine lv_aload_n hx hb dX6_tries_79 rfl (lv_at hl 2 rfl) ?_
          refine va_get (D := D) (ci := 4) (C := RX6) (T := TX6) (N := 27) hx hb hts iX6 hown hK hP 0 wMo_0 rfl 23 (by decide) q3 (fun _ h9 => h9) rfl dX6_tries_80 ?_
          refine lv_iload_n hx hb dX6_tries_83 rfl (lv_at hl 1 rfl) ?_
          obtain ⟨hin3, h⟩ := ck_some h
          refine va_iald hx hb hK hP 14 0 wMo_14 rfl hin3 dX6_tries_84 ?_
          obtain ⟨r85, hc, h⟩ := bd1_some h
          refine my_roi (va_Run.run (va_runS (As := [.int (mkinds (mtried x1.toNatClampNeg).toNatClampNeg), .int (w22_f2 (mtried x1.toNatClampNeg).toNatClampNeg)]) (rest := [.int (mtried x1.toNatClampNeg), .ref (am 14)]) hFix (kX6_named l D T F (mkinds (mtried x1.toNatClampNeg).toNatClampNeg) (w22_f2 (mtried x1.toNatClampNeg).toNatClampNeg) r85 hc) (va_cwS 2 hts gX6_tries_X6_named rfl rfl rfl hd_X6_named ⟨Nat.le_of_ble_eq_true rfl, Nat.le_of_ble_eq_true rfl⟩) (preS_ro va_nil hKK) rfl rfl hl.1 rfl (lv_room (Nat.le_of_ble_eq_true rfl)) dX6_tries_85 ⟨Nat.zero_le _, Nat.zero_le _⟩)) ?_
          obtain ⟨hin4, h⟩ := ck_some h
          refine va_iast hx hb hK hP hD hS 14 0 wMo_14 rfl hin4 dX6_tries_88 (fun H locs hP hD hS => ?_)
          have hP : va_P D vwCl (wMo T am mguests mclause mdeeds masked mupper mlower mfinding mreadGuests misSight mat mrowSizes mrows mtextSizes mtexts mdoes mkinds msees mnow mbefore mkeeps mkept mfindings mread (upd w22_f2 (mtried x1.toNatClampNeg).toNatClampNeg r85) msteps mtried mbest) H := hP
          have hD : va_D A (wMo T am mguests mclause mdeeds masked mupper mlower mfinding mreadGuests misSight mat mrowSizes mrows mtextSizes mtexts mdoes mkinds msees mnow mbefore mkeeps mkept mfindings mread (upd w22_f2 (mtried x1.toNatClampNeg).toNatClampNeg r85) msteps mtried mbest) := hD
          refine lv_aload_n hx hb dX6_tries_89 rfl (lv_at hl 2 rfl) ?_
          refine lv_aload_n hx hb dX6_tries_90 rfl (lv_at hl 2 rfl) ?_
          refine va_get (D := D) (ci := 4) (C := RX6) (T := TX6) (N := 27) hx hb hts iX6 hown hK hP 0 wMo_0 rfl 23 (by decide) q3 (fun _ h9 => h9) rfl dX6_tries_91 ?_
          obtain ⟨r94, w94_tt, hc, h⟩ := bd2_some h
          have hPc : va_P D vwCl (wMl T am (am 14) mguests mclause mdeeds masked mupper mlower mfinding mreadGuests misSight mat mkinds msees (upd w22_f2 (mtried x1.toNatClampNeg).toNatClampNeg r85)) _ := my_subP sb_wMo_wMl_0_6_7_14 hP
          have hDc := hD.sub [0, 6, 7, 14] (by decide) sb_wMo_wMl_0_6_7_14
          have hFc := va_free hD hS hA [0, 6, 7, 14] sb_wMo_wMl_0_6_7_14
          refine my_rwi (va_runV (As := [.ref (am 14)]) (rest := []) hFix (kX6_looks l D T F am (am 14) mguests mclause mdeeds masked mupper mlower mfinding mreadGuests misSight mat mkinds msees (upd w22_f2 (mtried x1.toNatClampNeg).toNatClampNeg r85) r94 w94_tt hc _) (cwV 1 hts gX6_tries_X6_looks rfl rfl rfl ⟨rfl, hd_X6_looks⟩ ⟨Nat.le_of_ble_eq_true rfl, Nat.le_of_ble_eq_true rfl⟩) (preV_rw hPc hKK hDc (va_recv hK hP (ci := 4) (q0 := 0) rfl wMo_0)) rfl rfl hl.1 rfl (lv_room (Nat.le_of_ble_eq_true rfl)) dX6_tries_94 ⟨Nat.zero_le _, Nat.zero_le _⟩) hS hFc (fun H1 locs hP1 hD1 hz1 hkk hS => ?_)
          obtain ⟨hP, hD⟩ := my_joinS hP hD (by decide) sb_wMo_wMl_0_6_7_14 (by rfl) hkk hFc hP1 hD1
          rw [st_wMo_wMl_0_6_7_14_looks] at hP hD
          generalize H1 = H at hP hS ⊢
          refine lv_istore (lv' := [(4, .int r94), (3, .int r30), (2, .int (mtried x1.toNatClampNeg)), (0, .ref (am 0)), (1, .int x1)]) hx hb dX6_tries_97 hl (by decide) rfl (fun ls hl => ?_)
          refine lv_goto (tgt := 114) hx hb dX6_tries_99 (by decide) ?_
          exact n114 x1 w94_tt msteps h _ _ hP hD hS _ (lv_sub hl [3, 4] rfl)
    · have h := br_1 h c37
      refine lv_aload_n hx hb dX6_tries_40 rfl (lv_at hl 2 rfl) ?_
      refine lv_aload_n hx hb dX6_tries_41 rfl (lv_at hl 2 rfl) ?_
      refine va_get (D := D) (ci := 4) (C := RX6) (T := TX6) (N := 27) hx hb hts iX6 hown hK hP 0 wMo_0 rfl 23 (by decide) q3 (fun _ h9 => h9) rfl dX6_tries_42 ?_
      refine lv_iload_n hx hb dX6_tries_45 rfl (lv_at hl 1 rfl) ?_
      obtain ⟨r46, w46_tt, hc, h⟩ := bd2_some h
      have hPc : va_P D vwCl (wMp T am (am 14) mguests mclause mdeeds masked mupper mlower mfinding mreadGuests misSight mat mdoes mkinds msees w22_f2) _ := my_subP sb_wMo_wMp_0_5_6_7_14 hP
      have hDc := hD.sub [0, 5, 6, 7, 14] (by decide) sb_wMo_wMp_0_5_6_7_14
      have hFc := va_free hD hS hA [0, 5, 6, 7, 14] sb_wMo_wMp_0_5_6_7_14
      refine my_rwi (va_runV (As := [.ref (am 14), .int (mtried x1.toNatClampNeg)]) (rest := []) hFix (kX6_plays l D T F am (am 14) mguests mclause mdeeds masked mupper mlower mfinding mreadGuests misSight mat mdoes mkinds msees w22_f2 (mtried x1.toNatClampNeg) r46 w46_tt hc _) (cwV 2 hts gX6_tries_X6_plays rfl rfl rfl ⟨rfl, hd_X6_plays⟩ ⟨Nat.le_of_ble_eq_true rfl, Nat.le_of_ble_eq_true rfl⟩) (preV_rw hPc hKK hDc (va_recv hK hP (ci := 4) (q0 := 0) rfl wMo_0)) rfl rfl hl.1 rfl (lv_room (Nat.le_of_ble_eq_true rfl)) dX6_tries_46 ⟨Nat.zero_le _, Nat.zero_le _⟩) hS hFc (fun H1 locs hP1 hD1 hz1 hkk hS => ?_)
      obtain ⟨hP, hD⟩ := my_joinS hP hD (by decide) sb_wMo_wMp_0_5_6_7_14 (by rfl) hkk hFc hP1 hD1
      rw [st_wMo_wMp_0_5_6_7_14_plays] at hP hD
      generalize H1 = H at hP hS ⊢
      refine lv_istore (lv' := [(4, .int r46), (3, .int r30), (2, .int (mtried x1.toNatClampNeg)), (0, .ref (am 0)), (1, .int x1)]) hx hb dX6_tries_49 hl (by decide) rfl (fun ls hl => ?_)
      refine lv_goto (tgt := 114) hx hb dX6_tries_51 (by decide) ?_
      exact n114 x1 w46_tt msteps h _ _ hP hD hS _ (lv_sub hl [3, 4] rfl)
  exact key _ (fun H locs pc ls hP hD hS hd hb1 => W.zret hx hb hr (b01_n hb1) (fun t ht hW => ⟨⟨_, (), rfl, ⟨rfl, hb1⟩, by show _ ∧ _; rw [ht]; exact ⟨hP, hD⟩⟩, hS.F ht⟩) hS.2.2 hd)
set_option maxHeartbeats 4000000 in
set_option maxRecDepth 100000 in
theorem kX6_begins (l : Launch) (D : va_G) (T : Nat → ClassId) (F : Nat) (am : Nat → Nat) (mguests : Int32) (mclause : Int32) (mdeeds : Int32) (masked : Int32) (mupper : Int64) (mlower : Int64) (mfinding : Int32) (mreadGuests : Int32) (misSight : Int32) (mat : Int32) (mrowSizes : Nat → Int32) (mrows : Nat → Int32) (mtextSizes : Nat → Int32) (mtexts : Nat → Int32) (mdoes : Nat → Int32) (mkinds : Nat → Int32) (msees : Nat → Int32) (mnow : Nat → Int32) (mbefore : Nat → Int32) (mkeeps : Nat → Int32) (mkept : Nat → Int32) (mfindings : Nat → Int32) (mread : Nat → Int32) (maside : Nat → Int32) (msteps : Nat → Int32) (mtried : Nat → Int32) (mbest : Nat → Int32) (x1 : Int32) (zmtried : Nat → Int32) (zmbest : Nat → Int32) (h : fX6_begins F mtried mbest x1 = some (zmtried, zmbest)) : ∀ sz : Nat, Met l yX6_begins wsX6_begins ({ frames := 0, cells := 0, slots := 0, locals := 0 } : Room) (va_Pc [.ref (am 0), .int x1] (fun U => U.heap.size = sz ∧ va_P D vwCl (wMo T am mguests mclause mdeeds masked mupper mlower mfinding mreadGuests misSight mat mrowSizes mrows mtextSizes mtexts mdoes mkinds msees mnow mbefore mkeeps mkept mfindings mread maside msteps mtried mbest) U.heap ∧ KK D T U ∧ va_D (fun _ => True) (wMo T am mguests mclause mdeeds masked mupper mlower mfinding mreadGuests misSight mat mrowSizes mrows mtextSizes mtexts mdoes mkinds msees mnow mbefore mkeeps mkept mfindings mread maside msteps mtried mbest))) (va_Qv (fun _ : Unit => True) (fun _ t => va_P D vwCl (wMo T am mguests mclause mdeeds masked mupper mlower mfinding mreadGuests misSight mat mrowSizes mrows mtextSizes mtexts mdoes mkinds msees mnow mbefore mkeeps mkept mfindings mread maside msteps zmtried zmbest) t.heap ∧ va_D (va_A (wMo T am mguests mclause mdeeds masked mupper mlower mfinding mreadGuests misSight mat mrowSizes mrows mtextSizes mtexts mdoes mkinds msees mnow mbefore mkeeps mkept mfindings mread maside msteps mtried mbest) sz) (wMo T am mguests mclause mdeeds masked mupper mlower mfinding mreadGuests misSight mat mrowSizes mrows mtextSizes mtexts mdoes mkinds msees mnow mbefore mkeeps mkept mfindings mread maside msteps zmtried zmbest)) (va_A (wMo T am mguests mclause mdeeds masked mupper mlower mfinding mreadGuests misSight mat mrowSizes mrows mtextSizes mtexts mdoes mkinds msees mnow mbefore mkeeps mkept mfindings mread maside msteps mtried mbest) sz)) 0 0 (va_A (wMo T am mguests mclause mdeeds masked mupper mlower mfinding mreadGuests misSight mat mrowSizes mrows mtextSizes mtexts mdoes mkinds msees mnow mbefore mkeeps mkept mfindings mread maside msteps mtried mbest) sz) := by
  intro sz
  refine Met.ofW (cc := cX6_begins) (maxL := 2) (ret := none) (by decide) rfl ?_
  intro p e s m args below meth c s₁ B hml hv
  obtain ⟨ha, hsz, hP, hKK, hD0⟩ := hv
  have hx := B.exec
  have hb := B.bytes
  have hr := B.returns
  have hts := atoms_spec (ws := wsX6_begins) B.pre
  have hown : s.vm.findClass RX6 = some m.cls := findClass_of_methodNamed B.named
  have hlocks := B.notSynchronized
  have hK := hKK.1
  have hFix : CallFix p m c cX6_begins 2 s args wsX6_begins RX6 := ⟨hx, hb, hml, hown, hts⟩
  have q1 := hts _ (List.mem_of_getElem? (i := 1) (show wsX6_begins[1]? = some (Cond.fieldLink RX6 60 "PartyWillModel" "tried" "[I") from rfl))
  have q2 := hts _ (List.mem_of_getElem? (i := 2) (show wsX6_begins[2]? = some (Cond.fieldLink RX6 63 "PartyWillModel" "best" "[I") from rfl))
  have q3 := hts _ (List.mem_of_getElem? (i := 3) (show wsX6_begins[3]? = some (Cond.constant RX6 237 (1000000)) from rfl))
  have iX6 : ∀ w ∈ u_ws RX6 TX6 27, w ∈ wsX6_begins := fun w h => List.mem_cons_of_mem _ (List.mem_append_right _ (h))
  subst hsz
  have hD := hD0.self (sz := s.heap.size)
  generalize hAe : va_A (wMo T am mguests mclause mdeeds masked mupper mlower mfinding mreadGuests misSight mat mrowSizes mrows mtextSizes mtexts mdoes mkinds msees mnow mbefore mkeeps mkept mfindings mread maside msteps mtried mbest) s.heap.size = A at hD ⊢
  have hA : ∀ q : Nat, s.heap.size ≤ q → A q := fun q h => by rw [← hAe]; exact Or.inr h
  have hS : va_S A s.heap s.heap [] := va_S.rf
  have hP : va_P D vwCl (wMo T am mguests mclause mdeeds masked mupper mlower mfinding mreadGuests misSight mat mrowSizes mrows mtextSizes mtexts mdoes mkinds msees mnow mbefore mkeeps mkept mfindings mread maside msteps mtried mbest) s.heap := hP
  obtain ⟨ls, hl, e0⟩ := my_entry (m := m) (n := 2) ha (Nat.le_of_ble_eq_true rfl)
  rw [e0]
  have hl : lv_has ls 2 [(0, .ref (am 0)), (1, .int x1)] := hl
  have key : ∀ Q : State → Prop, (∀ (H : Heap) (locs : List Loc) (pc : Nat) (ls : Array Slot), va_P D vwCl (wMo T am mguests mclause mdeeds masked mupper mlower mfinding mreadGuests misSight mat mrowSizes mrows mtextSizes mtexts mdoes mkinds msees mnow mbefore mkeeps mkept mfindings mread maside msteps zmtried zmbest) H → va_D A (wMo T am mguests mclause mdeeds masked mupper mlower mfinding mreadGuests misSight mat mrowSizes mrows mtextSizes mtexts mdoes mkinds msees mnow mbefore mkeeps mkept mfindings mread maside msteps zmtried zmbest) → va_S A s.heap H locs → decode cX6_begins pc = .ok (.return_, 1) → W p l e ({ frames := 0, cells := 0, slots := 0, locals := 0 } : Room) s m args below meth c H locs 0 0 Q (F0 m pc ls [])) → W p l e ({ frames := 0, cells := 0, slots := 0, locals := 0 } : Room) s m args below meth c s.heap [] 0 0 Q (F0 m 0 ls []) := by
    intro Q hret
    skip
    unfold fX6_begins at h
    refine lv_aload_n hx hb dX6_begins_0 rfl (lv_at hl 0 rfl) ?_
    refine va_get (D := D) (ci := 4) (C := RX6) (T := TX6) (N := 27) hx hb hts iX6 hown hK hP 0 wMo_0 rfl 25 (by decide) q1 (fun _ h9 => h9) rfl dX6_begins_1 ?_
    refine lv_iload_n hx hb dX6_begins_4 rfl (lv_at hl 1 rfl) ?_
    refine lv_iconst (v := (-1 : Int32)) hx hb dX6_begins_5 (by decide) ?_
    obtain ⟨hin1, h⟩ := ck_some h
    refine va_iast hx hb hK hP hD hS 16 0 wMo_16 rfl hin1 dX6_begins_6 (fun H locs hP hD hS => ?_)
    have hP : va_P D vwCl (wMo T am mguests mclause mdeeds masked mupper mlower mfinding mreadGuests misSight mat mrowSizes mrows mtextSizes mtexts mdoes mkinds msees mnow mbefore mkeeps mkept mfindings mread maside msteps (upd mtried x1.toNatClampNeg (-1 : Int32)) mbest) H := hP
    have hD : va_D A (wMo T am mguests mclause mdeeds masked mupper mlower mfinding mreadGuests misSight mat mrowSizes mrows mtextSizes mtexts mdoes mkinds msees mnow mbefore mkeeps mkept mfindings mread maside msteps (upd mtried x1.toNatClampNeg (-1 : Int32)) mbest) := hD
    refine lv_aload_n hx hb dX6_begins_7 rfl (lv_at hl 0 rfl) ?_
    refine va_get (D := D) (ci := 4) (C := RX6) (T := TX6) (N := 27) hx hb hts iX6 hown hK hP 0 wMo_0 rfl 26 (by decide) q2 (fun _ h9 => h9) rfl dX6_begins_8 ?_
    refine lv_iload_n hx hb dX6_begins_11 rfl (lv_at hl 1 rfl) ?_
    refine lv_iload_n hx hb dX6_begins_12 rfl (lv_at hl 1 rfl) ?_
    refine lv_iconst (v := (2 : Int32)) hx hb dX6_begins_13 (by decide) ?_
    refine lv_irem hx hb dX6_begins_14 (by decide) ?_
    refine lv_if_ne (tgt := 23) hx hb dX6_begins_15 (by decide) (fun c15 => ?_) (fun c15 => ?_)
    · have h := br_0 h c15
      refine lv_iconst (v := (-1 : Int32)) hx hb dX6_begins_23 (by decide) ?_
      obtain ⟨hin2, h⟩ := ck_some h
      refine va_iast hx hb hK hP hD hS 17 0 wMo_17 rfl hin2 dX6_begins_24 (fun H locs hP hD hS => ?_)
      have hP : va_P D vwCl (wMo T am mguests mclause mdeeds masked mupper mlower mfinding mreadGuests misSight mat mrowSizes mrows mtextSizes mtexts mdoes mkinds msees mnow mbefore mkeeps mkept mfindings mread maside msteps (upd mtried x1.toNatClampNeg (-1 : Int32)) (upd mbest x1.toNatClampNeg (-1 : Int32))) H := hP
      have hD : va_D A (wMo T am mguests mclause mdeeds masked mupper mlower mfinding mreadGuests misSight mat mrowSizes mrows mtextSizes mtexts mdoes mkinds msees mnow mbefore mkeeps mkept mfindings mread maside msteps (upd mtried x1.toNatClampNeg (-1 : Int32)) (upd mbest x1.toNatClampNeg (-1 : Int32))) := hD
      cases h
      exact hret _ _ _ _ hP hD hS dX6_begins_25
    · have h := br_1 h c15
      refine lv_ldc (v := (1000000 : Int32)) hx hb hown q3 dX6_begins_18 ?_
      refine lv_goto (tgt := 24) hx hb dX6_begins_20 (by decide) ?_
      obtain ⟨hin3, h⟩ := ck_some h
      refine va_iast hx hb hK hP hD hS 17 0 wMo_17 rfl hin3 dX6_begins_24 (fun H locs hP hD hS => ?_)
      have hP : va_P D vwCl (wMo T am mguests mclause mdeeds masked mupper mlower mfinding mreadGuests misSight mat mrowSizes mrows mtextSizes mtexts mdoes mkinds msees mnow mbefore mkeeps mkept mfindings mread maside msteps (upd mtried x1.toNatClampNeg (-1 : Int32)) (upd mbest x1.toNatClampNeg (1000000 : Int32))) H := hP
      have hD : va_D A (wMo T am mguests mclause mdeeds masked mupper mlower mfinding mreadGuests misSight mat mrowSizes mrows mtextSizes mtexts mdoes mkinds msees mnow mbefore mkeeps mkept mfindings mread maside msteps (upd mtried x1.toNatClampNeg (-1 : Int32)) (upd mbest x1.toNatClampNeg (1000000 : Int32))) := hD
      cases h
      exact hret _ _ _ _ hP hD hS dX6_begins_25
  exact key _ (fun H locs pc ls hP hD hS hd => W.vret hx hb hr (fun t ht hW => ⟨⟨(), rfl, trivial, by show _ ∧ _; rw [ht]; exact ⟨hP, hD⟩⟩, hS.F ht⟩) hS.2.2 hd)
set_option maxHeartbeats 4000000 in
set_option maxRecDepth 100000 in
theorem kX6_weighs (l : Launch) (D : va_G) (T : Nat → ClassId) (F : Nat) (am : Nat → Nat) (mguests : Int32) (mclause : Int32) (mdeeds : Int32) (masked : Int32) (mupper : Int64) (mlower : Int64) (mfinding : Int32) (mreadGuests : Int32) (misSight : Int32) (mat : Int32) (mrowSizes : Nat → Int32) (mrows : Nat → Int32) (mtextSizes : Nat → Int32) (mtexts : Nat → Int32) (mdoes : Nat → Int32) (mkinds : Nat → Int32) (msees : Nat → Int32) (mnow : Nat → Int32) (mbefore : Nat → Int32) (mkeeps : Nat → Int32) (mkept : Nat → Int32) (mfindings : Nat → Int32) (mread : Nat → Int32) (maside : Nat → Int32) (msteps : Nat → Int32) (mtried : Nat → Int32) (mbest : Nat → Int32) (x1 : Int32) (x2 : Int32) (zmbest : Nat → Int32) (h : fX6_weighs F mbest x1 x2 = some (zmbest)) : ∀ sz : Nat, Met l yX6_weighs wsX6_weighs ({ frames := 0, cells := 0, slots := 0, locals := 0 } : Room) (va_Pc [.ref (am 0), .int x1, .int x2] (fun U => U.heap.size = sz ∧ va_P D vwCl (wMo T am mguests mclause mdeeds masked mupper mlower mfinding mreadGuests misSight mat mrowSizes mrows mtextSizes mtexts mdoes mkinds msees mnow mbefore mkeeps mkept mfindings mread maside msteps mtried mbest) U.heap ∧ KK D T U ∧ va_D (fun _ => True) (wMo T am mguests mclause mdeeds masked mupper mlower mfinding mreadGuests misSight mat mrowSizes mrows mtextSizes mtexts mdoes mkinds msees mnow mbefore mkeeps mkept mfindings mread maside msteps mtried mbest))) (va_Qv (fun _ : Unit => True) (fun _ t => va_P D vwCl (wMo T am mguests mclause mdeeds masked mupper mlower mfinding mreadGuests misSight mat mrowSizes mrows mtextSizes mtexts mdoes mkinds msees mnow mbefore mkeeps mkept mfindings mread maside msteps mtried zmbest) t.heap ∧ va_D (va_A (wMo T am mguests mclause mdeeds masked mupper mlower mfinding mreadGuests misSight mat mrowSizes mrows mtextSizes mtexts mdoes mkinds msees mnow mbefore mkeeps mkept mfindings mread maside msteps mtried mbest) sz) (wMo T am mguests mclause mdeeds masked mupper mlower mfinding mreadGuests misSight mat mrowSizes mrows mtextSizes mtexts mdoes mkinds msees mnow mbefore mkeeps mkept mfindings mread maside msteps mtried zmbest)) (va_A (wMo T am mguests mclause mdeeds masked mupper mlower mfinding mreadGuests misSight mat mrowSizes mrows mtextSizes mtexts mdoes mkinds msees mnow mbefore mkeeps mkept mfindings mread maside msteps mtried mbest) sz)) 0 0 (va_A (wMo T am mguests mclause mdeeds masked mupper mlower mfinding mreadGuests misSight mat mrowSizes mrows mtextSizes mtexts mdoes mkinds msees mnow mbefore mkeeps mkept mfindings mread maside msteps mtried mbest) sz) := by
  intro sz
  refine Met.ofW (cc := cX6_weighs) (maxL := 4) (ret := none) (by decide) rfl ?_
  intro p e s m args below meth c s₁ B hml hv
  obtain ⟨ha, hsz, hP, hKK, hD0⟩ := hv
  have hx := B.exec
  have hb := B.bytes
  have hr := B.returns
  have hts := atoms_spec (ws := wsX6_weighs) B.pre
  have hown : s.vm.findClass RX6 = some m.cls := findClass_of_methodNamed B.named
  have hlocks := B.notSynchronized
  have hK := hKK.1
  have hFix : CallFix p m c cX6_weighs 4 s args wsX6_weighs RX6 := ⟨hx, hb, hml, hown, hts⟩
  have q1 := hts _ (List.mem_of_getElem? (i := 1) (show wsX6_weighs[1]? = some (Cond.fieldLink RX6 63 "PartyWillModel" "best" "[I") from rfl))
  have iX6 : ∀ w ∈ u_ws RX6 TX6 27, w ∈ wsX6_weighs := fun w h => List.mem_cons_of_mem _ (List.mem_append_right _ (h))
  subst hsz
  have hD := hD0.self (sz := s.heap.size)
  generalize hAe : va_A (wMo T am mguests mclause mdeeds masked mupper mlower mfinding mreadGuests misSight mat mrowSizes mrows mtextSizes mtexts mdoes mkinds msees mnow mbefore mkeeps mkept mfindings mread maside msteps mtried mbest) s.heap.size = A at hD ⊢
  have hA : ∀ q : Nat, s.heap.size ≤ q → A q := fun q h => by rw [← hAe]; exact Or.inr h
  have hS : va_S A s.heap s.heap [] := va_S.rf
  have hP : va_P D vwCl (wMo T am mguests mclause mdeeds masked mupper mlower mfinding mreadGuests misSight mat mrowSizes mrows mtextSizes mtexts mdoes mkinds msees mnow mbefore mkeeps mkept mfindings mread maside msteps mtried mbest) s.heap := hP
  obtain ⟨ls, hl, e0⟩ := my_entry (m := m) (n := 4) ha (Nat.le_of_ble_eq_true rfl)
  rw [e0]
  have hl : lv_has ls 4 [(0, .ref (am 0)), (1, .int x1), (2, .int x2)] := hl
  have key : ∀ Q : State → Prop, (∀ (H : Heap) (locs : List Loc) (pc : Nat) (ls : Array Slot), va_P D vwCl (wMo T am mguests mclause mdeeds masked mupper mlower mfinding mreadGuests misSight mat mrowSizes mrows mtextSizes mtexts mdoes mkinds msees mnow mbefore mkeeps mkept mfindings mread maside msteps mtried zmbest) H → va_D A (wMo T am mguests mclause mdeeds masked mupper mlower mfinding mreadGuests misSight mat mrowSizes mrows mtextSizes mtexts mdoes mkinds msees mnow mbefore mkeeps mkept mfindings mread maside msteps mtried zmbest) → va_S A s.heap H locs → decode cX6_weighs pc = .ok (.return_, 1) → W p l e ({ frames := 0, cells := 0, slots := 0, locals := 0 } : Room) s m args below meth c H locs 0 0 Q (F0 m pc ls [])) → W p l e ({ frames := 0, cells := 0, slots := 0, locals := 0 } : Room) s m args below meth c s.heap [] 0 0 Q (F0 m 0 ls []) := by
    intro Q hret
    skip
    have n39 : ∀ s_0 : Int32, ∀ x1 : Int32, ∀ x2 : Int32, ∀ mbest : Nat → Int32, fX6_weighs_n39 F s_0 x1 x2 mbest = some (zmbest) → ∀ (H : Heap) (locs : List Loc), va_P D vwCl (wMo T am mguests mclause mdeeds masked mupper mlower mfinding mreadGuests misSight mat mrowSizes mrows mtextSizes mtexts mdoes mkinds msees mnow mbefore mkeeps mkept mfindings mread maside msteps mtried mbest) H → va_D A (wMo T am mguests mclause mdeeds masked mupper mlower mfinding mreadGuests misSight mat mrowSizes mrows mtextSizes mtexts mdoes mkinds msees mnow mbefore mkeeps mkept mfindings mread maside msteps mtried mbest) → va_S A s.heap H locs → ∀ (ls : Array Slot), lv_has ls 4 [(0, .ref (am 0)), (1, .int x1), (2, .int x2)] → W p l e ({ frames := 0, cells := 0, slots := 0, locals := 0 } : Room) s m args below meth c H locs 0 0 Q (F0 m 39 ls [.int s_0]) := by
      intro s_0 x1 x2 mbest h H locs hP hD hS ls hl
      unfold fX6_weighs_n39 at h
      refine lv_istore_n (lv' := [(3, .int s_0), (0, .ref (am 0)), (1, .int x1), (2, .int x2)]) hx hb dX6_weighs_39 rfl hl (by decide) rfl (fun ls hl => ?_)
      refine lv_aload_n hx hb dX6_weighs_40 rfl (lv_at hl 1 rfl) ?_
      refine va_get (D := D) (ci := 4) (C := RX6) (T := TX6) (N := 27) hx hb hts iX6 hown hK hP 0 wMo_0 rfl 26 (by decide) q1 (fun _ h9 => h9) rfl dX6_weighs_41 ?_
      refine lv_iload_n hx hb dX6_weighs_44 rfl (lv_at hl 2 rfl) ?_
      refine lv_iload_n hx hb dX6_weighs_45 rfl (lv_at hl 0 rfl) ?_
      refine lv_if_eq (tgt := 53) hx hb dX6_weighs_46 (by decide) (fun c46 => ?_) (fun c46 => ?_)
      · have h := br_1 h c46
        refine lv_aload_n hx hb dX6_weighs_53 rfl (lv_at hl 1 rfl) ?_
        refine va_get (D := D) (ci := 4) (C := RX6) (T := TX6) (N := 27) hx hb hts iX6 hown hK hP 0 wMo_0 rfl 26 (by decide) q1 (fun _ h9 => h9) rfl dX6_weighs_54 ?_
        refine lv_iload_n hx hb dX6_weighs_57 rfl (lv_at hl 2 rfl) ?_
        obtain ⟨hin1, h⟩ := ck_some h
        refine va_iald hx hb hK hP 17 0 wMo_17 rfl hin1 dX6_weighs_58 ?_
        obtain ⟨hin2, h⟩ := ck_some h
        refine va_iast hx hb hK hP hD hS 17 0 wMo_17 rfl hin2 dX6_weighs_59 (fun H locs hP hD hS => ?_)
        have hP : va_P D vwCl (wMo T am mguests mclause mdeeds masked mupper mlower mfinding mreadGuests misSight mat mrowSizes mrows mtextSizes mtexts mdoes mkinds msees mnow mbefore mkeeps mkept mfindings mread maside msteps mtried (upd mbest x1.toNatClampNeg (mbest x1.toNatClampNeg))) H := hP
        have hD : va_D A (wMo T am mguests mclause mdeeds masked mupper mlower mfinding mreadGuests misSight mat mrowSizes mrows mtextSizes mtexts mdoes mkinds msees mnow mbefore mkeeps mkept mfindings mread maside msteps mtried (upd mbest x1.toNatClampNeg (mbest x1.toNatClampNeg))) := hD
        cases h
        exact hret _ _ _ _ hP hD hS dX6_weighs_60
      · have h := br_0 h c46
        refine lv_iload_n hx hb dX6_weighs_49 rfl (lv_at hl 3 rfl) ?_
        refine lv_goto (tgt := 59) hx hb dX6_weighs_50 (by decide) ?_
        obtain ⟨hin3, h⟩ := ck_some h
        refine va_iast hx hb hK hP hD hS 17 0 wMo_17 rfl hin3 dX6_weighs_59 (fun H locs hP hD hS => ?_)
        have hP : va_P D vwCl (wMo T am mguests mclause mdeeds masked mupper mlower mfinding mreadGuests misSight mat mrowSizes mrows mtextSizes mtexts mdoes mkinds msees mnow mbefore mkeeps mkept mfindings mread maside msteps mtried (upd mbest x1.toNatClampNeg x2)) H := hP
        have hD : va_D A (wMo T am mguests mclause mdeeds masked mupper mlower mfinding mreadGuests misSight mat mrowSizes mrows mtextSizes mtexts mdoes mkinds msees mnow mbefore mkeeps mkept mfindings mread maside msteps mtried (upd mbest x1.toNatClampNeg x2)) := hD
        cases h
        exact hret _ _ _ _ hP hD hS dX6_weighs_60
    unfold fX6_weighs at h
    refine lv_iload_n hx hb dX6_weighs_0 rfl (lv_at hl 1 rfl) ?_
    refine lv_iconst (v := (2 : Int32)) hx hb dX6_weighs_1 (by decide) ?_
    refine lv_irem hx hb dX6_weighs_2 (by decide) ?_
    refine lv_if_ne (tgt := 24) hx hb dX6_weighs_3 (by decide) (fun c3 => ?_) (fun c3 => ?_)
    · have h := br_0 h c3
      refine lv_iload_n hx hb dX6_weighs_24 rfl (lv_at hl 2 rfl) ?_
      refine lv_aload_n hx hb dX6_weighs_25 rfl (lv_at hl 0 rfl) ?_
      refine va_get (D := D) (ci := 4) (C := RX6) (T := TX6) (N := 27) hx hb hts iX6 hown hK hP 0 wMo_0 rfl 26 (by decide) q1 (fun _ h9 => h9) rfl dX6_weighs_26 ?_
      refine lv_iload_n hx hb dX6_weighs_29 rfl (lv_at hl 1 rfl) ?_
      obtain ⟨hin4, h⟩ := ck_some h
      refine va_iald hx hb hK hP 17 0 wMo_17 rfl hin4 dX6_weighs_30 ?_
      refine lv_icmp_le (tgt := 38) hx hb dX6_weighs_31 (by decide) (fun c31 => ?_) (fun c31 => ?_)
      · have h := br_1 h c31
        refine lv_iconst (v := (0 : Int32)) hx hb dX6_weighs_38 (by decide) ?_
        exact n39 (0 : Int32) x1 x2 mbest h _ _ hP hD hS _ (lv_sub hl [0, 1, 2] rfl)
      · have h := br_0 h c31
        refine lv_iconst (v := (1 : Int32)) hx hb dX6_weighs_34 (by decide) ?_
        refine lv_goto (tgt := 39) hx hb dX6_weighs_35 (by decide) ?_
        exact n39 (1 : Int32) x1 x2 mbest h _ _ hP hD hS _ (lv_sub hl [0, 1, 2] rfl)
    · have h := br_1 h c3
      refine lv_iload_n hx hb dX6_weighs_6 rfl (lv_at hl 2 rfl) ?_
      refine lv_aload_n hx hb dX6_weighs_7 rfl (lv_at hl 0 rfl) ?_
      refine va_get (D := D) (ci := 4) (C := RX6) (T := TX6) (N := 27) hx hb hts iX6 hown hK hP 0 wMo_0 rfl 26 (by decide) q1 (fun _ h9 => h9) rfl dX6_weighs_8 ?_
      refine lv_iload_n hx hb dX6_weighs_11 rfl (lv_at hl 1 rfl) ?_
      obtain ⟨hin5, h⟩ := ck_some h
      refine va_iald hx hb hK hP 17 0 wMo_17 rfl hin5 dX6_weighs_12 ?_
      refine lv_icmp_ge (tgt := 20) hx hb dX6_weighs_13 (by decide) (fun c13 => ?_) (fun c13 => ?_)
      · have h := br_1 h c13
        refine lv_iconst (v := (0 : Int32)) hx hb dX6_weighs_20 (by decide) ?_
        refine lv_goto (tgt := 39) hx hb dX6_weighs_21 (by decide) ?_
        exact n39 (0 : Int32) x1 x2 mbest h _ _ hP hD hS _ (lv_sub hl [0, 1, 2] rfl)
      · have h := br_0 h c13
        refine lv_iconst (v := (1 : Int32)) hx hb dX6_weighs_16 (by decide) ?_
        refine lv_goto (tgt := 39) hx hb dX6_weighs_17 (by decide) ?_
        exact n39 (1 : Int32) x1 x2 mbest h _ _ hP hD hS _ (lv_sub hl [0, 1, 2] rfl)
  exact key _ (fun H locs pc ls hP hD hS hd => W.vret hx hb hr (fun t ht hW => ⟨⟨(), rfl, trivial, by show _ ∧ _; rw [ht]; exact ⟨hP, hD⟩⟩, hS.F ht⟩) hS.2.2 hd)
