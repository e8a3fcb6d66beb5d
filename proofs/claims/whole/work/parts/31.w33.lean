set_option maxHeartbeats 4000000 in
set_option maxRecDepth 100000 in
theorem kX6_comesSo (l : Launch) (D : va_G) (T : Nat → ClassId) (F : Nat) (am : Nat → Nat) (mguests : Int32) (mclause : Int32) (mdeeds : Int32) (masked : Int32) (mupper : Int64) (mlower : Int64) (mfinding : Int32) (mreadGuests : Int32) (misSight : Int32) (mat : Int32) (mrowSizes : Nat → Int32) (mrows : Nat → Int32) (mtextSizes : Nat → Int32) (mtexts : Nat → Int32) (mdoes : Nat → Int32) (mkinds : Nat → Int32) (msees : Nat → Int32) (mnow : Nat → Int32) (mbefore : Nat → Int32) (mkeeps : Nat → Int32) (mkept : Nat → Int32) (mfindings : Nat → Int32) (mread : Nat → Int32) (maside : Nat → Int32) (msteps : Nat → Int32) (mtried : Nat → Int32) (mbest : Nat → Int32) (x1 : Int32) (x2 : Int32) (x3 : Int32) (r : Int32) (h : fX6_comesSo F mrowSizes mrows mdoes x1 x2 x3 = some (r)) : Met l yX6_comesSo wsX6_comesSo ({ frames := 2, cells := 0, slots := 0, locals := 45 } : Room) (va_Pc [.ref (am 0), .int x1, .int x2, .int x3] (fun U => va_P D vwCl (wMo T am mguests mclause mdeeds masked mupper mlower mfinding mreadGuests misSight mat mrowSizes mrows mtextSizes mtexts mdoes mkinds msees mnow mbefore mkeeps mkept mfindings mread maside msteps mtried mbest) U.heap ∧ KK D T U)) (vp_Si (fun r' => r' = r ∧ b01 r)) 0 0 (fun _ => False) := by
  refine Met.ofW (cc := cX6_comesSo) (maxL := 8) (ret := some .boolean) (by decide) rfl ?_
  intro p e s m args below meth c s₁ B hml hv
  obtain ⟨ha, hP, hKK⟩ := hv
  have hx := B.exec
  have hb := B.bytes
  have hr := B.returns
  have hts := atoms_spec (ws := wsX6_comesSo) B.pre
  have hown : s.vm.findClass RX6 = some m.cls := findClass_of_methodNamed B.named
  have hlocks := B.notSynchronized
  have hK := hKK.1
  have hFix : CallFix p m c cX6_comesSo 8 s args wsX6_comesSo RX6 := ⟨hx, hb, hml, hown, hts⟩
  have q1 := hts _ (List.mem_of_getElem? (i := 1) (show wsX6_comesSo[1]? = some (Cond.fieldLink RX6 7 "PartyWillModel" "rowSizes" "[I") from rfl))
  have q2 := hts _ (List.mem_of_getElem? (i := 2) (show wsX6_comesSo[2]? = some (Cond.fieldLink RX6 13 "PartyWillModel" "rows" "[I") from rfl))
  have q3 := hts _ (List.mem_of_getElem? (i := 3) (show wsX6_comesSo[3]? = some (Cond.fieldLink RX6 22 "PartyWillModel" "does" "[I") from rfl))
  have iX6 : ∀ w ∈ u_ws RX6 TX6 27, w ∈ wsX6_comesSo := fun w h => List.mem_cons_of_mem _ (List.mem_append_right _ (h))
  obtain ⟨ls, hl, e0⟩ := my_entry (m := m) (n := 8) ha (Nat.le_of_ble_eq_true rfl)
  rw [e0]
  have hl : lv_has ls 8 [(0, .ref (am 0)), (1, .int x1), (2, .int x2), (3, .int x3)] := hl
  have key : ∀ Q : State → Prop, (∀ (pc : Nat) (ls : Array Slot), decode cX6_comesSo pc = .ok (.ireturn, 1) → b01 r → W p l e ({ frames := 2, cells := 0, slots := 0, locals := 45 } : Room) s m args below meth c s.heap [] 0 0 Q (F0 m pc ls [.int r])) → W p l e ({ frames := 2, cells := 0, slots := 0, locals := 45 } : Room) s m args below meth c s.heap [] 0 0 Q (F0 m 0 ls []) := by
    intro Q hret
    have l9 : ∀ x1 : Int32, ∀ x3 : Int32, ∀ nu : Nat, ∀ x4 : Int32, ∀ x5 : Int32, ∀ x6 : Int32, fX6_comesSo_l9 F mrowSizes mrows mdoes x1 x3 nu x4 x5 x6 = some (r) → b01 x5 → ∀ (ls : Array Slot), lv_has ls 8 [(0, .ref (am 0)), (1, .int x1), (3, .int x3), (4, .int x4), (5, .int x5), (6, .int x6)] → W p l e ({ frames := 2, cells := 0, slots := 0, locals := 45 } : Room) s m args below meth c s.heap [] 0 0 Q (F0 m 9 ls []) := by
      intro x1 x3
      intro nu
      induction nu with
      | zero => intro x4 x5 x6 h; exact none_some h
      | succ nu9 ih9 =>
        intro x4 x5 x6 h hbx5 ls hl
        have h : fX6_comesSo_l9_b F mrowSizes mrows mdoes x1 x3 (fX6_comesSo_l9 F mrowSizes mrows mdoes x1 x3 nu9) x4 x5 x6 = some (r) := h
        unfold fX6_comesSo_l9_b at h
        refine lv_iload hx hb dX6_comesSo_9 (lv_at hl 5 rfl) ?_
        refine lv_aload_n hx hb dX6_comesSo_11 rfl (lv_at hl 0 rfl) ?_
        refine va_get (D := D) (ci := 4) (C := RX6) (T := TX6) (N := 27) hx hb hts iX6 hown hK hP 0 wMo_0 rfl 0 (by decide) q1 (fun _ h9 => h9) rfl dX6_comesSo_12 ?_
        refine lv_iload_n hx hb dX6_comesSo_15 rfl (lv_at hl 2 rfl) ?_
        obtain ⟨hin1, h⟩ := ck_some h
        refine va_iald hx hb hK hP 1 0 wMo_1 rfl hin1 dX6_comesSo_16 ?_
        refine lv_icmp_ge (tgt := 88) hx hb dX6_comesSo_17 (by decide) (fun c17 => ?_) (fun c17 => ?_)
        · have h := br_1 h c17
          refine lv_iload hx hb dX6_comesSo_88 (lv_at hl 4 rfl) ?_
          cases h
          exact hret _ _ dX6_comesSo_90 hbx5
        · have h := br_0 h c17
          refine lv_aload_n hx hb dX6_comesSo_20 rfl (lv_at hl 0 rfl) ?_
          refine va_get (D := D) (ci := 4) (C := RX6) (T := TX6) (N := 27) hx hb hts iX6 hown hK hP 0 wMo_0 rfl 1 (by decide) q2 (fun _ h9 => h9) rfl dX6_comesSo_21 ?_
          refine lv_bipush (v := (40 : Int32)) hx hb dX6_comesSo_24 (by decide) ?_
          refine lv_iload_n hx hb dX6_comesSo_26 rfl (lv_at hl 2 rfl) ?_
          refine lv_imul hx hb dX6_comesSo_27 ?_
          refine lv_iload hx hb dX6_comesSo_28 (lv_at hl 5 rfl) ?_
          refine lv_iadd hx hb dX6_comesSo_30 ?_
          obtain ⟨hin2, h⟩ := ck_some h
          refine va_iald hx hb hK hP 2 0 wMo_2 rfl hin2 dX6_comesSo_31 ?_
          refine lv_istore (lv' := [(7, .int (mrows (((40 : Int32) * x3) + x6).toNatClampNeg)), (0, .ref (am 0)), (1, .int x1), (3, .int x3), (4, .int x4), (5, .int x5), (6, .int x6)]) hx hb dX6_comesSo_32 hl (by decide) rfl (fun ls hl => ?_)
          refine lv_iload_n hx hb dX6_comesSo_34 rfl (lv_at hl 2 rfl) ?_
          refine lv_iload hx hb dX6_comesSo_35 (lv_at hl 4 rfl) ?_
          refine lv_iload hx hb dX6_comesSo_37 (lv_at hl 0 rfl) ?_
          refine lv_aload_n hx hb dX6_comesSo_39 rfl (lv_at hl 1 rfl) ?_
          refine va_get (D := D) (ci := 4) (C := RX6) (T := TX6) (N := 27) hx hb hts iX6 hown hK hP 0 wMo_0 rfl 6 (by decide) q3 (fun _ h9 => h9) rfl dX6_comesSo_40 ?_
          refine lv_iload hx hb dX6_comesSo_43 (lv_at hl 0 rfl) ?_
          obtain ⟨hin3, h⟩ := ck_some h
          refine va_iald hx hb hK hP 5 0 wMo_5 rfl hin3 dX6_comesSo_45 ?_
          obtain ⟨r46, hc, h⟩ := bd1_some h
          refine my_roi (va_Run.run (va_runS (As := [.int x1, .int x4, .int (mrows (((40 : Int32) * x3) + x6).toNatClampNeg), .int (mdoes (mrows (((40 : Int32) * x3) + x6).toNatClampNeg).toNatClampNeg)]) (rest := []) hFix (kX6_griefBehind l D T F x1 x4 (mrows (((40 : Int32) * x3) + x6).toNatClampNeg) (mdoes (mrows (((40 : Int32) * x3) + x6).toNatClampNeg).toNatClampNeg) r46 hc) (va_cwS 4 hts gX6_comesSo_X6_griefBehind rfl rfl rfl hd_X6_griefBehind ⟨Nat.le_of_ble_eq_true rfl, Nat.le_of_ble_eq_true rfl⟩) (preS_ro va_nil hKK) rfl rfl hl.1 rfl (lv_room (Nat.le_of_ble_eq_true rfl)) dX6_comesSo_46 ⟨Nat.zero_le _, Nat.zero_le _⟩)) ?_
          refine lv_istore (lv' := [(4, .int r46), (7, .int (mrows (((40 : Int32) * x3) + x6).toNatClampNeg)), (0, .ref (am 0)), (1, .int x1), (3, .int x3), (5, .int x5), (6, .int x6)]) hx hb dX6_comesSo_49 hl (by decide) rfl (fun ls hl => ?_)
          refine lv_iload hx hb dX6_comesSo_51 (lv_at hl 5 rfl) ?_
          refine lv_if_eq (tgt := 79) hx hb dX6_comesSo_53 (by decide) (fun c53 => ?_) (fun c53 => ?_)
          · have h := br_1 h c53
            refine lv_iconst (v := (0 : Int32)) hx hb dX6_comesSo_79 (by decide) ?_
            refine lv_istore (lv' := [(5, .int (0 : Int32)), (4, .int r46), (7, .int (mrows (((40 : Int32) * x3) + x6).toNatClampNeg)), (0, .ref (am 0)), (1, .int x1), (3, .int x3), (6, .int x6)]) hx hb dX6_comesSo_80 hl (by decide) rfl (fun ls hl => ?_)
            refine lv_iinc (v := (x6 + (2 : Int32))) (lv' := [(6, .int (x6 + (2 : Int32))), (5, .int (0 : Int32)), (4, .int r46), (7, .int (mrows (((40 : Int32) * x3) + x6).toNatClampNeg)), (0, .ref (am 0)), (1, .int x1), (3, .int x3)]) hx hb dX6_comesSo_82 hl (k := 6) rfl rfl (by decide) rfl (fun ls hl => ?_)
            refine lv_goto (tgt := 9) hx hb dX6_comesSo_85 (by decide) ?_
            exact ih9 r46 (0 : Int32) (x6 + (2 : Int32)) h (Or.inl rfl) _ (lv_sub hl [4, 5, 6, 2, 1, 0] rfl)
          · have h := br_0 h c53
            refine lv_iload hx hb dX6_comesSo_56 (lv_at hl 0 rfl) ?_
            refine lv_aload_n hx hb dX6_comesSo_58 rfl (lv_at hl 2 rfl) ?_
            refine va_get (D := D) (ci := 4) (C := RX6) (T := TX6) (N := 27) hx hb hts iX6 hown hK hP 0 wMo_0 rfl 1 (by decide) q2 (fun _ h9 => h9) rfl dX6_comesSo_59 ?_
            refine lv_bipush (v := (40 : Int32)) hx hb dX6_comesSo_62 (by decide) ?_
            refine lv_iload_n hx hb dX6_comesSo_64 rfl (lv_at hl 4 rfl) ?_
            refine lv_imul hx hb dX6_comesSo_65 ?_
            refine lv_iload hx hb dX6_comesSo_66 (lv_at hl 6 rfl) ?_
            refine lv_iadd hx hb dX6_comesSo_68 ?_
            refine lv_iconst (v := (1 : Int32)) hx hb dX6_comesSo_69 (by decide) ?_
            refine lv_iadd hx hb dX6_comesSo_70 ?_
            obtain ⟨hin4, h⟩ := ck_some h
            refine va_iald hx hb hK hP 2 0 wMo_2 rfl hin4 dX6_comesSo_71 ?_
            refine lv_icmp_ne (tgt := 79) hx hb dX6_comesSo_72 (by decide) (fun c72 => ?_) (fun c72 => ?_)
            · have h := br_0 h c72
              refine lv_iconst (v := (0 : Int32)) hx hb dX6_comesSo_79 (by decide) ?_
              refine lv_istore (lv' := [(5, .int (0 : Int32)), (4, .int r46), (7, .int (mrows (((40 : Int32) * x3) + x6).toNatClampNeg)), (0, .ref (am 0)), (1, .int x1), (3, .int x3), (6, .int x6)]) hx hb dX6_comesSo_80 hl (by decide) rfl (fun ls hl => ?_)
              refine lv_iinc (v := (x6 + (2 : Int32))) (lv' := [(6, .int (x6 + (2 : Int32))), (5, .int (0 : Int32)), (4, .int r46), (7, .int (mrows (((40 : Int32) * x3) + x6).toNatClampNeg)), (0, .ref (am 0)), (1, .int x1), (3, .int x3)]) hx hb dX6_comesSo_82 hl (k := 6) rfl rfl (by decide) rfl (fun ls hl => ?_)
              refine lv_goto (tgt := 9) hx hb dX6_comesSo_85 (by decide) ?_
              exact ih9 r46 (0 : Int32) (x6 + (2 : Int32)) h (Or.inl rfl) _ (lv_sub hl [4, 5, 6, 2, 1, 0] rfl)
            · have h := br_1 h c72
              refine lv_iconst (v := (1 : Int32)) hx hb dX6_comesSo_75 (by decide) ?_
              refine lv_goto (tgt := 80) hx hb dX6_comesSo_76 (by decide) ?_
              refine lv_istore (lv' := [(5, .int (1 : Int32)), (4, .int r46), (7, .int (mrows (((40 : Int32) * x3) + x6).toNatClampNeg)), (0, .ref (am 0)), (1, .int x1), (3, .int x3), (6, .int x6)]) hx hb dX6_comesSo_80 hl (by decide) rfl (fun ls hl => ?_)
              refine lv_iinc (v := (x6 + (2 : Int32))) (lv' := [(6, .int (x6 + (2 : Int32))), (5, .int (1 : Int32)), (4, .int r46), (7, .int (mrows (((40 : Int32) * x3) + x6).toNatClampNeg)), (0, .ref (am 0)), (1, .int x1), (3, .int x3)]) hx hb dX6_comesSo_82 hl (k := 6) rfl rfl (by decide) rfl (fun ls hl => ?_)
              refine lv_goto (tgt := 9) hx hb dX6_comesSo_85 (by decide) ?_
              exact ih9 r46 (1 : Int32) (x6 + (2 : Int32)) h (Or.inr rfl) _ (lv_sub hl [4, 5, 6, 2, 1, 0] rfl)
    unfold fX6_comesSo at h
    refine lv_iload_n hx hb dX6_comesSo_0 rfl (lv_at hl 2 rfl) ?_
    refine lv_istore (lv' := [(4, .int x2), (0, .ref (am 0)), (1, .int x1), (2, .int x2), (3, .int x3)]) hx hb dX6_comesSo_1 hl (by decide) rfl (fun ls hl => ?_)
    refine lv_iconst (v := (1 : Int32)) hx hb dX6_comesSo_3 (by decide) ?_
    refine lv_istore (lv' := [(5, .int (1 : Int32)), (4, .int x2), (0, .ref (am 0)), (1, .int x1), (2, .int x2), (3, .int x3)]) hx hb dX6_comesSo_4 hl (by decide) rfl (fun ls hl => ?_)
    refine lv_iconst (v := (0 : Int32)) hx hb dX6_comesSo_6 (by decide) ?_
    refine lv_istore (lv' := [(6, .int (0 : Int32)), (5, .int (1 : Int32)), (4, .int x2), (0, .ref (am 0)), (1, .int x1), (2, .int x2), (3, .int x3)]) hx hb dX6_comesSo_7 hl (by decide) rfl (fun ls hl => ?_)
    exact l9 x1 x3 F x2 (1 : Int32) (0 : Int32) h (Or.inr rfl) _ (lv_sub hl [3, 4, 6, 2, 1, 0] rfl)
  exact key _ (fun pc ls hd hb1 => W.zret hx hb hr (b01_n hb1) (fun t ht hW => ⟨_, rfl, ⟨rfl, hb1⟩, ht⟩) (fun q h => by cases h) hd)
set_option maxHeartbeats 4000000 in
set_option maxRecDepth 100000 in
theorem kX6_kinds (l : Launch) (D : va_G) (T : Nat → ClassId) (F : Nat) (am : Nat → Nat) (mguests : Int32) (mclause : Int32) (mdeeds : Int32) (masked : Int32) (mupper : Int64) (mlower : Int64) (mfinding : Int32) (mreadGuests : Int32) (misSight : Int32) (mat : Int32) (mrowSizes : Nat → Int32) (mrows : Nat → Int32) (mtextSizes : Nat → Int32) (mtexts : Nat → Int32) (mdoes : Nat → Int32) (mkinds : Nat → Int32) (msees : Nat → Int32) (mnow : Nat → Int32) (mbefore : Nat → Int32) (mkeeps : Nat → Int32) (mkept : Nat → Int32) (mfindings : Nat → Int32) (mread : Nat → Int32) (maside : Nat → Int32) (msteps : Nat → Int32) (mtried : Nat → Int32) (mbest : Nat → Int32) (x1 : Int32) (x2 : Int32) (r : Int32) (zmfinding : Int32) (zmfindings : Nat → Int32) (h : fX6_kinds F mguests mfinding mrowSizes mrows mdoes mnow mfindings x1 x2 = some (r, zmfinding, zmfindings)) : ∀ sz : Nat, Met l yX6_kinds wsX6_kinds ({ frames := 3, cells := 0, slots := 0, locals := 72 } : Room) (va_Pc [.ref (am 0), .int x1, .int x2] (fun U => U.heap.size = sz ∧ va_P D vwCl (wMo T am mguests mclause mdeeds masked mupper mlower mfinding mreadGuests misSight mat mrowSizes mrows mtextSizes mtexts mdoes mkinds msees mnow mbefore mkeeps mkept mfindings mread maside msteps mtried mbest) U.heap ∧ KK D T U ∧ va_D (fun _ => True) (wMo T am mguests mclause mdeeds masked mupper mlower mfinding mreadGuests misSight mat mrowSizes mrows mtextSizes mtexts mdoes mkinds msees mnow mbefore mkeeps mkept mfindings mread maside msteps mtried mbest))) (va_Qi (fun r' (_ : Unit) => r' = r) (fun _ t => va_P D vwCl (wMo T am mguests mclause mdeeds masked mupper mlower zmfinding mreadGuests misSight mat mrowSizes mrows mtextSizes mtexts mdoes mkinds msees mnow mbefore mkeeps mkept zmfindings mread maside msteps mtried mbest) t.heap ∧ va_D (va_A (wMo T am mguests mclause mdeeds masked mupper mlower mfinding mreadGuests misSight mat mrowSizes mrows mtextSizes mtexts mdoes mkinds msees mnow mbefore mkeeps mkept mfindings mread maside msteps mtried mbest) sz) (wMo T am mguests mclause mdeeds masked mupper mlower zmfinding mreadGuests misSight mat mrowSizes mrows mtextSizes mtexts mdoes mkinds msees mnow mbefore mkeeps mkept zmfindings mread maside msteps mtried mbest)) (va_A (wMo T am mguests mclause mdeeds masked mupper mlower mfinding mreadGuests misSight mat mrowSizes mrows mtextSizes mtexts mdoes mkinds msees mnow mbefore mkeeps mkept mfindings mread maside msteps mtried mbest) sz)) 0 0 (va_A (wMo T am mguests mclause mdeeds masked mupper mlower mfinding mreadGuests misSight mat mrowSizes mrows mtextSizes mtexts mdoes mkinds msees mnow mbefore mkeeps mkept mfindings mread maside msteps mtried mbest) sz) := by
  intro sz
  refine Met.ofW (cc := cX6_kinds) (maxL := 6) (ret := some .int) (by decide) rfl ?_
  intro p e s m args below meth c s₁ B hml hv
  obtain ⟨ha, hsz, hP, hKK, hD0⟩ := hv
  have hx := B.exec
  have hb := B.bytes
  have hr := B.returns
  have hts := atoms_spec (ws := wsX6_kinds) B.pre
  have hown : s.vm.findClass RX6 = some m.cls := findClass_of_methodNamed B.named
  have hlocks := B.notSynchronized
  have hK := hKK.1
  have hFix : CallFix p m c cX6_kinds 6 s args wsX6_kinds RX6 := ⟨hx, hb, hml, hown, hts⟩
  have q1 := hts _ (List.mem_of_getElem? (i := 1) (show wsX6_kinds[1]? = some (Cond.fieldLink RX6 31 "PartyWillModel" "now" "[I") from rfl))
  have iX6 : ∀ w ∈ u_ws RX6 TX6 27, w ∈ wsX6_kinds := fun w h => List.mem_cons_of_mem _ (List.mem_append_right _ (h))
  subst hsz
  have hD := hD0.self (sz := s.heap.size)
  generalize hAe : va_A (wMo T am mguests mclause mdeeds masked mupper mlower mfinding mreadGuests misSight mat mrowSizes mrows mtextSizes mtexts mdoes mkinds msees mnow mbefore mkeeps mkept mfindings mread maside msteps mtried mbest) s.heap.size = A at hD ⊢
  have hA : ∀ q : Nat, s.heap.size ≤ q → A q := fun q h => by rw [← hAe]; exact Or.inr h
  have hS : va_S A s.heap s.heap [] := va_S.rf
  have hP : va_P D vwCl (wMo T am mguests mclause mdeeds masked mupper mlower mfinding mreadGuests misSight mat mrowSizes mrows mtextSizes mtexts mdoes mkinds msees mnow mbefore mkeeps mkept mfindings mread maside msteps mtried mbest) s.heap := hP
  obtain ⟨ls, hl, e0⟩ := my_entry (m := m) (n := 6) ha (Nat.le_of_ble_eq_true rfl)
  rw [e0]
  have hl : lv_has ls 6 [(0, .ref (am 0)), (1, .int x1), (2, .int x2)] := hl
  have key : ∀ Q : State → Prop, (∀ (H : Heap) (locs : List Loc) (pc : Nat) (ls : Array Slot), va_P D vwCl (wMo T am mguests mclause mdeeds masked mupper mlower zmfinding mreadGuests misSight mat mrowSizes mrows mtextSizes mtexts mdoes mkinds msees mnow mbefore mkeeps mkept zmfindings mread maside msteps mtried mbest) H → va_D A (wMo T am mguests mclause mdeeds masked mupper mlower zmfinding mreadGuests misSight mat mrowSizes mrows mtextSizes mtexts mdoes mkinds msees mnow mbefore mkeeps mkept zmfindings mread maside msteps mtried mbest) → va_S A s.heap H locs → decode cX6_kinds pc = .ok (.ireturn, 1) → W p l e ({ frames := 3, cells := 0, slots := 0, locals := 72 } : Room) s m args below meth c H locs 0 0 Q (F0 m pc ls [.int r])) → W p l e ({ frames := 3, cells := 0, slots := 0, locals := 72 } : Room) s m args below meth c s.heap [] 0 0 Q (F0 m 0 ls []) := by
    intro Q hret
    skip
    have l19 : ∀ x1 : Int32, ∀ x2 : Int32, ∀ mfinding : Int32, ∀ mfindings : Nat → Int32, ∀ nu : Nat, ∀ x4 : Int32, ∀ x5 : Int32, fX6_kinds_l19 F mguests mrowSizes mrows mdoes mnow x1 x2 mfinding mfindings nu x4 x5 = some (r, zmfinding, zmfindings) → ∀ (H : Heap) (locs : List Loc), va_P D vwCl (wMo T am mguests mclause mdeeds masked mupper mlower mfinding mreadGuests misSight mat mrowSizes mrows mtextSizes mtexts mdoes mkinds msees mnow mbefore mkeeps mkept mfindings mread maside msteps mtried mbest) H → va_D A (wMo T am mguests mclause mdeeds masked mupper mlower mfinding mreadGuests misSight mat mrowSizes mrows mtextSizes mtexts mdoes mkinds msees mnow mbefore mkeeps mkept mfindings mread maside msteps mtried mbest) → va_S A s.heap H locs → ∀ (ls : Array Slot), lv_has ls 6 [(0, .ref (am 0)), (1, .int x1), (2, .int x2), (4, .int x4), (5, .int x5)] → W p l e ({ frames := 3, cells := 0, slots := 0, locals := 72 } : Room) s m args below meth c H locs 0 0 Q (F0 m 19 ls []) := by
      intro x1 x2 mfinding mfindings
      intro nu
      induction nu with
      | zero => intro x4 x5 h; exact none_some h
      | succ nu19 ih19 =>
        intro x4 x5 h H locs hP hD hS ls hl
        have h : fX6_kinds_l19_b F mguests mrowSizes mrows mdoes mnow x1 x2 mfinding mfindings (fX6_kinds_l19 F mguests mrowSizes mrows mdoes mnow x1 x2 mfinding mfindings nu19) x4 x5 = some (r, zmfinding, zmfindings) := h
        unfold fX6_kinds_l19_b at h
        refine lv_iload hx hb dX6_kinds_19 (lv_at hl 4 rfl) ?_
        refine lv_bipush (v := (6 : Int32)) hx hb dX6_kinds_21 (by decide) ?_
        refine lv_icmp_ge (tgt := 61) hx hb dX6_kinds_23 (by decide) (fun c23 => ?_) (fun c23 => ?_)
        · have h := br_1 h c23
          refine lv_iload hx hb dX6_kinds_61 (lv_at hl 3 rfl) ?_
          cases h
          exact hret _ _ _ _ hP hD hS dX6_kinds_63
        · have h := br_0 h c23
          refine lv_iload hx hb dX6_kinds_26 (lv_at hl 3 rfl) ?_
          refine lv_aload_n hx hb dX6_kinds_28 rfl (lv_at hl 0 rfl) ?_
          refine lv_iload hx hb dX6_kinds_29 (lv_at hl 4 rfl) ?_
          refine lv_aload_n hx hb dX6_kinds_31 rfl (lv_at hl 0 rfl) ?_
          refine va_get (D := D) (ci := 4) (C := RX6) (T := TX6) (N := 27) hx hb hts iX6 hown hK hP 0 wMo_0 rfl 9 (by decide) q1 (fun _ h9 => h9) rfl dX6_kinds_32 ?_
          refine lv_iload_n hx hb dX6_kinds_35 rfl (lv_at hl 1 rfl) ?_
          obtain ⟨hin1, h⟩ := ck_some h
          refine va_iald hx hb hK hP 8 0 wMo_8 rfl hin1 dX6_kinds_36 ?_
          refine lv_iload_n hx hb dX6_kinds_37 rfl (lv_at hl 2 rfl) ?_
          obtain ⟨r38, hc, h⟩ := bd1_some h
          refine my_roz (va_Run.run (va_runV (As := [.int x5, .int (mnow x1.toNatClampNeg), .int x2]) (rest := [.int x4]) hFix (kX6_comesSo l D T F am mguests mclause mdeeds masked mupper mlower mfinding mreadGuests misSight mat mrowSizes mrows mtextSizes mtexts mdoes mkinds msees mnow mbefore mkeeps mkept mfindings mread maside msteps mtried mbest x5 (mnow x1.toNatClampNeg) x2 r38 hc) (cwV 3 hts gX6_kinds_X6_comesSo rfl rfl rfl ⟨rfl, hd_X6_comesSo⟩ ⟨Nat.le_of_ble_eq_true rfl, Nat.le_of_ble_eq_true rfl⟩) (preV_ro hP hKK (va_recv hK hP (ci := 4) (q0 := 0) rfl wMo_0)) rfl rfl hl.1 rfl (lv_room (Nat.le_of_ble_eq_true rfl)) dX6_kinds_38 ⟨Nat.zero_le _, Nat.zero_le _⟩)) (fun hb38 => ?_)
          refine lv_if_eq (tgt := 51) hx hb dX6_kinds_41 (by decide) (fun c41 => ?_) (fun c41 => ?_)
          · have h := br_1 h c41
            refine lv_iconst (v := (0 : Int32)) hx hb dX6_kinds_51 (by decide) ?_
            refine lv_ior hx hb dX6_kinds_52 ?_
            refine lv_istore (lv' := [(4, .int (x4 ||| (0 : Int32))), (0, .ref (am 0)), (1, .int x1), (2, .int x2), (5, .int x5)]) hx hb dX6_kinds_53 hl (by decide) rfl (fun ls hl => ?_)
            refine lv_iinc (v := (x5 + (1 : Int32))) (lv' := [(5, .int (x5 + (1 : Int32))), (4, .int (x4 ||| (0 : Int32))), (0, .ref (am 0)), (1, .int x1), (2, .int x2)]) hx hb dX6_kinds_55 hl (k := 4) rfl rfl (by decide) rfl (fun ls hl => ?_)
            refine lv_goto (tgt := 19) hx hb dX6_kinds_58 (by decide) ?_
            exact ih19 (x4 ||| (0 : Int32)) (x5 + (1 : Int32)) h _ _ hP hD hS _ (lv_sub hl [2, 3, 4, 1, 0] rfl)
          · have h := br_0 h c41
            refine lv_iconst (v := (1 : Int32)) hx hb dX6_kinds_44 (by decide) ?_
            refine lv_iload hx hb dX6_kinds_45 (lv_at hl 4 rfl) ?_
            refine lv_ishl hx hb dX6_kinds_47 ?_
            refine lv_goto (tgt := 52) hx hb dX6_kinds_48 (by decide) ?_
            refine lv_ior hx hb dX6_kinds_52 ?_
            refine lv_istore (lv' := [(4, .int (x4 ||| ((1 : Int32) <<< (x5 &&& 31)))), (0, .ref (am 0)), (1, .int x1), (2, .int x2), (5, .int x5)]) hx hb dX6_kinds_53 hl (by decide) rfl (fun ls hl => ?_)
            refine lv_iinc (v := (x5 + (1 : Int32))) (lv' := [(5, .int (x5 + (1 : Int32))), (4, .int (x4 ||| ((1 : Int32) <<< (x5 &&& 31)))), (0, .ref (am 0)), (1, .int x1), (2, .int x2)]) hx hb dX6_kinds_55 hl (k := 4) rfl rfl (by decide) rfl (fun ls hl => ?_)
            refine lv_goto (tgt := 19) hx hb dX6_kinds_58 (by decide) ?_
            exact ih19 (x4 ||| ((1 : Int32) <<< (x5 &&& 31))) (x5 + (1 : Int32)) h _ _ hP hD hS _ (lv_sub hl [2, 3, 4, 1, 0] rfl)
    unfold fX6_kinds at h
    refine lv_aload_n hx hb dX6_kinds_0 rfl (lv_at hl 0 rfl) ?_
    refine lv_iload_n hx hb dX6_kinds_1 rfl (lv_at hl 1 rfl) ?_
    refine lv_iload_n hx hb dX6_kinds_2 rfl (lv_at hl 2 rfl) ?_
    obtain ⟨r3, w3_mfinding, w3_mfindings, hc, h⟩ := bd3_some h
    have hFc := my_freeS hD hS hA
    refine my_rwi (va_runV (As := [.int x1, .int x2]) (rest := []) hFix (kX6_evening l D T F am mguests mclause mdeeds masked mupper mlower mfinding mreadGuests misSight mat mrowSizes mrows mtextSizes mtexts mdoes mkinds msees mnow mbefore mkeeps mkept mfindings mread maside msteps mtried mbest x1 x2 r3 w3_mfinding w3_mfindings hc _) (cwV 2 hts gX6_kinds_X6_evening rfl rfl rfl ⟨rfl, hd_X6_evening⟩ ⟨Nat.le_of_ble_eq_true rfl, Nat.le_of_ble_eq_true rfl⟩) (preV_rw hP hKK hD (va_recv hK hP (ci := 4) (q0 := 0) rfl wMo_0)) rfl rfl hl.1 rfl (lv_room (Nat.le_of_ble_eq_true rfl)) dX6_kinds_3 ⟨Nat.zero_le _, Nat.zero_le _⟩) hS hFc (fun H1 locs hP1 hD1 hz1 hkk hS => ?_)
    have hP : va_P D vwCl (wMo T am mguests mclause mdeeds masked mupper mlower w3_mfinding mreadGuests misSight mat mrowSizes mrows mtextSizes mtexts mdoes mkinds msees mnow mbefore mkeeps mkept w3_mfindings mread maside msteps mtried mbest) H1 := hP1
    have hD : va_D A (wMo T am mguests mclause mdeeds masked mupper mlower w3_mfinding mreadGuests misSight mat mrowSizes mrows mtextSizes mtexts mdoes mkinds msees mnow mbefore mkeeps mkept w3_mfindings mread maside msteps mtried mbest) := hD1.weaken (fun _ q _ h => hFc q.1 h)
    generalize H1 = H at hP hS ⊢
    refine lv_istore_n (lv' := [(3, .int r3), (0, .ref (am 0)), (1, .int x1), (2, .int x2)]) hx hb dX6_kinds_6 rfl hl (by decide) rfl (fun ls hl => ?_)
    refine lv_iload_n hx hb dX6_kinds_7 rfl (lv_at hl 0 rfl) ?_
    refine lv_if_eq (tgt := 13) hx hb dX6_kinds_8 (by decide) (fun c8 => ?_) (fun c8 => ?_)
    · have h := br_1 h c8
      refine lv_iconst (v := (0 : Int32)) hx hb dX6_kinds_13 (by decide) ?_
      refine lv_istore (lv' := [(4, .int (0 : Int32)), (3, .int r3), (0, .ref (am 0)), (1, .int x1), (2, .int x2)]) hx hb dX6_kinds_14 hl (by decide) rfl (fun ls hl => ?_)
      refine lv_iconst (v := (0 : Int32)) hx hb dX6_kinds_16 (by decide) ?_
      refine lv_istore (lv' := [(5, .int (0 : Int32)), (4, .int (0 : Int32)), (3, .int r3), (0, .ref (am 0)), (1, .int x1), (2, .int x2)]) hx hb dX6_kinds_17 hl (by decide) rfl (fun ls hl => ?_)
      exact l19 x1 x2 w3_mfinding w3_mfindings F (0 : Int32) (0 : Int32) h _ _ hP hD hS _ (lv_sub hl [3, 4, 5, 1, 0] rfl)
    · have h := br_0 h c8
      refine lv_iload_n hx hb dX6_kinds_11 rfl (lv_at hl 0 rfl) ?_
      cases h
      exact hret _ _ _ _ hP hD hS dX6_kinds_12
  exact key _ (fun H locs pc ls hP hD hS hd => W.iret hx hb hr (fun t ht hW => ⟨⟨_, (), rfl, rfl, by show _ ∧ _; rw [ht]; exact ⟨hP, hD⟩⟩, hS.F ht⟩) hS.2.2 hd)
set_option maxHeartbeats 4000000 in
set_option maxRecDepth 100000 in
theorem kX6_came (l : Launch) (D : va_G) (T : Nat → ClassId) (F : Nat) (am : Nat → Nat) (mguests : Int32) (mclause : Int32) (mdeeds : Int32) (masked : Int32) (mupper : Int64) (mlower : Int64) (mfinding : Int32) (mreadGuests : Int32) (misSight : Int32) (mat : Int32) (mrowSizes : Nat → Int32) (mrows : Nat → Int32) (mtextSizes : Nat → Int32) (mtexts : Nat → Int32) (mdoes : Nat → Int32) (mkinds : Nat → Int32) (msees : Nat → Int32) (mnow : Nat → Int32) (mbefore : Nat → Int32) (mkeeps : Nat → Int32) (mkept : Nat → Int32) (mfindings : Nat → Int32) (mread : Nat → Int32) (maside : Nat → Int32) (msteps : Nat → Int32) (mtried : Nat → Int32) (mbest : Nat → Int32) (x1 : Int32) (x2 : Int32) (r : Int32) (zmfinding : Int32) (zmfindings : Nat → Int32) (h : fX6_came F mguests mfinding mrowSizes mrows mdoes mkinds mnow mfindings x1 x2 = some (r, zmfinding, zmfindings)) : ∀ sz : Nat, Met l yX6_came wsX6_came ({ frames := 3, cells := 0, slots := 0, locals := 72 } : Room) (va_Pc [.ref (am 0), .int x1, .int x2] (fun U => U.heap.size = sz ∧ va_P D vwCl (wMo T am mguests mclause mdeeds masked mupper mlower mfinding mreadGuests misSight mat mrowSizes mrows mtextSizes mtexts mdoes mkinds msees mnow mbefore mkeeps mkept mfindings mread maside msteps mtried mbest) U.heap ∧ KK D T U ∧ va_D (fun _ => True) (wMo T am mguests mclause mdeeds masked mupper mlower mfinding mreadGuests misSight mat mrowSizes mrows mtextSizes mtexts mdoes mkinds msees mnow mbefore mkeeps mkept mfindings mread maside msteps mtried mbest))) (va_Qi (fun r' (_ : Unit) => r' = r) (fun _ t => va_P D vwCl (wMo T am mguests mclause mdeeds masked mupper mlower zmfinding mreadGuests misSight mat mrowSizes mrows mtextSizes mtexts mdoes mkinds msees mnow mbefore mkeeps mkept zmfindings mread maside msteps mtried mbest) t.heap ∧ va_D (va_A (wMo T am mguests mclause mdeeds masked mupper mlower mfinding mreadGuests misSight mat mrowSizes mrows mtextSizes mtexts mdoes mkinds msees mnow mbefore mkeeps mkept mfindings mread maside msteps mtried mbest) sz) (wMo T am mguests mclause mdeeds masked mupper mlower zmfinding mreadGuests misSight mat mrowSizes mrows mtextSizes mtexts mdoes mkinds msees mnow mbefore mkeeps mkept zmfindings mread maside msteps mtried mbest)) (va_A (wMo T am mguests mclause mdeeds masked mupper mlower mfinding mreadGuests misSight mat mrowSizes mrows mtextSizes mtexts mdoes mkinds msees mnow mbefore mkeeps mkept mfindings mread maside msteps mtried mbest) sz)) 0 0 (va_A (wMo T am mguests mclause mdeeds masked mupper mlower mfinding mreadGuests misSight mat mrowSizes mrows mtextSizes mtexts mdoes mkinds msees mnow mbefore mkeeps mkept mfindings mread maside msteps mtried mbest) sz) := by
  intro sz
  refine Met.ofW (cc := cX6_came) (maxL := 6) (ret := some .int) (by decide) rfl ?_
  intro p e s m args below meth c s₁ B hml hv
  obtain ⟨ha, hsz, hP, hKK, hD0⟩ := hv
  have hx := B.exec
  have hb := B.bytes
  have hr := B.returns
  have hts := atoms_spec (ws := wsX6_came) B.pre
  have hown : s.vm.findClass RX6 = some m.cls := findClass_of_methodNamed B.named
  have hlocks := B.notSynchronized
  have hK := hKK.1
  have hFix : CallFix p m c cX6_came 6 s args wsX6_came RX6 := ⟨hx, hb, hml, hown, hts⟩
  have q1 := hts _ (List.mem_of_getElem? (i := 1) (show wsX6_came[1]? = some (Cond.fieldLink RX6 25 "PartyWillModel" "kinds" "[I") from rfl))
  have iX6 : ∀ w ∈ u_ws RX6 TX6 27, w ∈ wsX6_came := fun w h => List.mem_cons_of_mem _ (List.mem_append_right _ (h))
  subst hsz
  have hD := hD0.self (sz := s.heap.size)
  generalize hAe : va_A (wMo T am mguests mclause mdeeds masked mupper mlower mfinding mreadGuests misSight mat mrowSizes mrows mtextSizes mtexts mdoes mkinds msees mnow mbefore mkeeps mkept mfindings mread maside msteps mtried mbest) s.heap.size = A at hD ⊢
  have hA : ∀ q : Nat, s.heap.size ≤ q → A q := fun q h => by rw [← hAe]; exact Or.inr h
  have hS : va_S A s.heap s.heap [] := va_S.rf
  have hP : va_P D vwCl (wMo T am mguests mclause mdeeds masked mupper mlower mfinding mreadGuests misSight mat mrowSizes mrows mtextSizes mtexts mdoes mkinds msees mnow mbefore mkeeps mkept mfindings mread maside msteps mtried mbest) s.heap := hP
  obtain ⟨ls, hl, e0⟩ := my_entry (m := m) (n := 6) ha (Nat.le_of_ble_eq_true rfl)
  rw [e0]
  have hl : lv_has ls 6 [(0, .ref (am 0)), (1, .int x1), (2, .int x2)] := hl
  have key : ∀ Q : State → Prop, (∀ (H : Heap) (locs : List Loc) (pc : Nat) (ls : Array Slot), va_P D vwCl (wMo T am mguests mclause mdeeds masked mupper mlower zmfinding mreadGuests misSight mat mrowSizes mrows mtextSizes mtexts mdoes mkinds msees mnow mbefore mkeeps mkept zmfindings mread maside msteps mtried mbest) H → va_D A (wMo T am mguests mclause mdeeds masked mupper mlower zmfinding mreadGuests misSight mat mrowSizes mrows mtextSizes mtexts mdoes mkinds msees mnow mbefore mkeeps mkept zmfindings mread maside msteps mtried mbest) → va_S A s.heap H locs → decode cX6_came pc = .ok (.ireturn, 1) → W p l e ({ frames := 3, cells := 0, slots := 0, locals := 72 } : Room) s m args below meth c H locs 0 0 Q (F0 m pc ls [.int r])) → W p l e ({ frames := 3, cells := 0, slots := 0, locals := 72 } : Room) s m args below meth c s.heap [] 0 0 Q (F0 m 0 ls []) := by
    intro Q hret
    skip
    have l19 : ∀ x1 : Int32, ∀ x2 : Int32, ∀ mfinding : Int32, ∀ mfindings : Nat → Int32, ∀ nu : Nat, ∀ x4 : Int32, ∀ x5 : Int32, fX6_came_l19 F mguests mrowSizes mrows mdoes mkinds mnow x1 x2 mfinding mfindings nu x4 x5 = some (r, zmfinding, zmfindings) → ∀ (H : Heap) (locs : List Loc), va_P D vwCl (wMo T am mguests mclause mdeeds masked mupper mlower mfinding mreadGuests misSight mat mrowSizes mrows mtextSizes mtexts mdoes mkinds msees mnow mbefore mkeeps mkept mfindings mread maside msteps mtried mbest) H → va_D A (wMo T am mguests mclause mdeeds masked mupper mlower mfinding mreadGuests misSight mat mrowSizes mrows mtextSizes mtexts mdoes mkinds msees mnow mbefore mkeeps mkept mfindings mread maside msteps mtried mbest) → va_S A s.heap H locs → ∀ (ls : Array Slot), lv_has ls 6 [(0, .ref (am 0)), (1, .int x1), (2, .int x2), (4, .int x4), (5, .int x5)] → W p l e ({ frames := 3, cells := 0, slots := 0, locals := 72 } : Room) s m args below meth c H locs 0 0 Q (F0 m 19 ls []) := by
      intro x1 x2 mfinding mfindings
      intro nu
      induction nu with
      | zero => intro x4 x5 h; exact none_some h
      | succ nu19 ih19 =>
        intro x4 x5 h H locs hP hD hS ls hl
        have h : fX6_came_l19_b F mguests mrowSizes mrows mdoes mkinds mnow x1 x2 mfinding mfindings (fX6_came_l19 F mguests mrowSizes mrows mdoes mkinds mnow x1 x2 mfinding mfindings nu19) x4 x5 = some (r, zmfinding, zmfindings) := h
        unfold fX6_came_l19_b at h
        refine lv_iload hx hb dX6_came_19 (lv_at hl 4 rfl) ?_
        refine lv_bipush (v := (20 : Int32)) hx hb dX6_came_21 (by decide) ?_
        refine lv_icmp_gt (tgt := 61) hx hb dX6_came_23 (by decide) (fun c23 => ?_) (fun c23 => ?_)
        · have h := br_1 h c23
          refine lv_iload hx hb dX6_came_61 (lv_at hl 3 rfl) ?_
          cases h
          exact hret _ _ _ _ hP hD hS dX6_came_63
        · have h := br_0 h c23
          refine lv_iload hx hb dX6_came_26 (lv_at hl 3 rfl) ?_
          refine lv_aload_n hx hb dX6_came_28 rfl (lv_at hl 0 rfl) ?_
          refine lv_aload_n hx hb dX6_came_29 rfl (lv_at hl 0 rfl) ?_
          refine va_get (D := D) (ci := 4) (C := RX6) (T := TX6) (N := 27) hx hb hts iX6 hown hK hP 0 wMo_0 rfl 7 (by decide) q1 (fun _ h9 => h9) rfl dX6_came_30 ?_
          refine lv_iload_n hx hb dX6_came_33 rfl (lv_at hl 1 rfl) ?_
          obtain ⟨hin1, h⟩ := ck_some h
          refine va_iald hx hb hK hP 6 0 wMo_6 rfl hin1 dX6_came_34 ?_
          refine lv_iload hx hb dX6_came_35 (lv_at hl 4 rfl) ?_
          refine lv_iload_n hx hb dX6_came_37 rfl (lv_at hl 2 rfl) ?_
          obtain ⟨r38, hc, h⟩ := bd1_some h
          refine my_roz (va_Run.run (va_runV (As := [.int (mkinds x1.toNatClampNeg), .int x5, .int x2]) (rest := [.int x4]) hFix (kX6_comesSo l D T F am mguests mclause mdeeds masked mupper mlower mfinding mreadGuests misSight mat mrowSizes mrows mtextSizes mtexts mdoes mkinds msees mnow mbefore mkeeps mkept mfindings mread maside msteps mtried mbest (mkinds x1.toNatClampNeg) x5 x2 r38 hc) (cwV 3 hts gX6_came_X6_comesSo rfl rfl rfl ⟨rfl, hd_X6_comesSo⟩ ⟨Nat.le_of_ble_eq_true rfl, Nat.le_of_ble_eq_true rfl⟩) (preV_ro hP hKK (va_recv hK hP (ci := 4) (q0 := 0) rfl wMo_0)) rfl rfl hl.1 rfl (lv_room (Nat.le_of_ble_eq_true rfl)) dX6_came_38 ⟨Nat.zero_le _, Nat.zero_le _⟩)) (fun hb38 => ?_)
          refine lv_if_eq (tgt := 51) hx hb dX6_came_41 (by decide) (fun c41 => ?_) (fun c41 => ?_)
          · have h := br_1 h c41
            refine lv_iconst (v := (0 : Int32)) hx hb dX6_came_51 (by decide) ?_
            refine lv_ior hx hb dX6_came_52 ?_
            refine lv_istore (lv' := [(4, .int (x4 ||| (0 : Int32))), (0, .ref (am 0)), (1, .int x1), (2, .int x2), (5, .int x5)]) hx hb dX6_came_53 hl (by decide) rfl (fun ls hl => ?_)
            refine lv_iinc (v := (x5 + (1 : Int32))) (lv' := [(5, .int (x5 + (1 : Int32))), (4, .int (x4 ||| (0 : Int32))), (0, .ref (am 0)), (1, .int x1), (2, .int x2)]) hx hb dX6_came_55 hl (k := 4) rfl rfl (by decide) rfl (fun ls hl => ?_)
            refine lv_goto (tgt := 19) hx hb dX6_came_58 (by decide) ?_
            exact ih19 (x4 ||| (0 : Int32)) (x5 + (1 : Int32)) h _ _ hP hD hS _ (lv_sub hl [2, 3, 4, 1, 0] rfl)
          · have h := br_0 h c41
            refine lv_iconst (v := (1 : Int32)) hx hb dX6_came_44 (by decide) ?_
            refine lv_iload hx hb dX6_came_45 (lv_at hl 4 rfl) ?_
            refine lv_ishl hx hb dX6_came_47 ?_
            refine lv_goto (tgt := 52) hx hb dX6_came_48 (by decide) ?_
            refine lv_ior hx hb dX6_came_52 ?_
            refine lv_istore (lv' := [(4, .int (x4 ||| ((1 : Int32) <<< (x5 &&& 31)))), (0, .ref (am 0)), (1, .int x1), (2, .int x2), (5, .int x5)]) hx hb dX6_came_53 hl (by decide) rfl (fun ls hl => ?_)
            refine lv_iinc (v := (x5 + (1 : Int32))) (lv' := [(5, .int (x5 + (1 : Int32))), (4, .int (x4 ||| ((1 : Int32) <<< (x5 &&& 31)))), (0, .ref (am 0)), (1, .int x1), (2, .int x2)]) hx hb dX6_came_55 hl (k := 4) rfl rfl (by decide) rfl (fun ls hl => ?_)
            refine lv_goto (tgt := 19) hx hb dX6_came_58 (by decide) ?_
            exact ih19 (x4 ||| ((1 : Int32) <<< (x5 &&& 31))) (x5 + (1 : Int32)) h _ _ hP hD hS _ (lv_sub hl [2, 3, 4, 1, 0] rfl)
    unfold fX6_came at h
    refine lv_aload_n hx hb dX6_came_0 rfl (lv_at hl 0 rfl) ?_
    refine lv_iload_n hx hb dX6_came_1 rfl (lv_at hl 1 rfl) ?_
    refine lv_iload_n hx hb dX6_came_2 rfl (lv_at hl 2 rfl) ?_
    obtain ⟨r3, w3_mfinding, w3_mfindings, hc, h⟩ := bd3_some h
    have hFc := my_freeS hD hS hA
    refine my_rwi (va_runV (As := [.int x1, .int x2]) (rest := []) hFix (kX6_evening l D T F am mguests mclause mdeeds masked mupper mlower mfinding mreadGuests misSight mat mrowSizes mrows mtextSizes mtexts mdoes mkinds msees mnow mbefore mkeeps mkept mfindings mread maside msteps mtried mbest x1 x2 r3 w3_mfinding w3_mfindings hc _) (cwV 2 hts gX6_came_X6_evening rfl rfl rfl ⟨rfl, hd_X6_evening⟩ ⟨Nat.le_of_ble_eq_true rfl, Nat.le_of_ble_eq_true rfl⟩) (preV_rw hP hKK hD (va_recv hK hP (ci := 4) (q0 := 0) rfl wMo_0)) rfl rfl hl.1 rfl (lv_room (Nat.le_of_ble_eq_true rfl)) dX6_came_3 ⟨Nat.zero_le _, Nat.zero_le _⟩) hS hFc (fun H1 locs hP1 hD1 hz1 hkk hS => ?_)
    have hP : va_P D vwCl (wMo T am mguests mclause mdeeds masked mupper mlower w3_mfinding mreadGuests misSight mat mrowSizes mrows mtextSizes mtexts mdoes mkinds msees mnow mbefore mkeeps mkept w3_mfindings mread maside msteps mtried mbest) H1 := hP1
    have hD : va_D A (wMo T am mguests mclause mdeeds masked mupper mlower w3_mfinding mreadGuests misSight mat mrowSizes mrows mtextSizes mtexts mdoes mkinds msees mnow mbefore mkeeps mkept w3_mfindings mread maside msteps mtried mbest) := hD1.weaken (fun _ q _ h => hFc q.1 h)
    generalize H1 = H at hP hS ⊢
    refine lv_istore_n (lv' := [(3, .int r3), (0, .ref (am 0)), (1, .int x1), (2, .int x2)]) hx hb dX6_came_6 rfl hl (by decide) rfl (fun ls hl => ?_)
    refine lv_iload_n hx hb dX6_came_7 rfl (lv_at hl 0 rfl) ?_
    refine lv_if_eq (tgt := 13) hx hb dX6_came_8 (by decide) (fun c8 => ?_) (fun c8 => ?_)
    · have h := br_1 h c8
      refine lv_iconst (v := (0 : Int32)) hx hb dX6_came_13 (by decide) ?_
      refine lv_istore (lv' := [(4, .int (0 : Int32)), (3, .int r3), (0, .ref (am 0)), (1, .int x1), (2, .int x2)]) hx hb dX6_came_14 hl (by decide) rfl (fun ls hl => ?_)
      refine lv_iconst (v := (0 : Int32)) hx hb dX6_came_16 (by decide) ?_
      refine lv_istore (lv' := [(5, .int (0 : Int32)), (4, .int (0 : Int32)), (3, .int r3), (0, .ref (am 0)), (1, .int x1), (2, .int x2)]) hx hb dX6_came_17 hl (by decide) rfl (fun ls hl => ?_)
      exact l19 x1 x2 w3_mfinding w3_mfindings F (0 : Int32) (0 : Int32) h _ _ hP hD hS _ (lv_sub hl [3, 4, 5, 1, 0] rfl)
    · have h := br_0 h c8
      refine lv_iload_n hx hb dX6_came_11 rfl (lv_at hl 0 rfl) ?_
      cases h
      exact hret _ _ _ _ hP hD hS dX6_came_12
  exact key _ (fun H locs pc ls hP hD hS hd => W.iret hx hb hr (fun t ht hW => ⟨⟨_, (), rfl, rfl, by show _ ∧ _; rw [ht]; exact ⟨hP, hD⟩⟩, hS.F ht⟩) hS.2.2 hd)
set_option maxHeartbeats 4000000 in
set_option maxRecDepth 100000 in
theorem kX6_did (l : Launch) (D : va_G) (T : Nat → ClassId) (F : Nat) (am : Nat → Nat) (mguests : Int32) (mclause : Int32) (mdeeds : Int32) (masked : Int32) (mupper : Int64) (mlower : Int64) (mfinding : Int32) (mreadGuests : Int32) (misSight : Int32) (mat : Int32) (mrowSizes : Nat → Int32) (mrows : Nat → Int32) (mtextSizes : Nat → Int32) (mtexts : Nat → Int32) (mdoes : Nat → Int32) (mkinds : Nat → Int32) (msees : Nat → Int32) (mnow : Nat → Int32) (mbefore : Nat → Int32) (mkeeps : Nat → Int32) (mkept : Nat → Int32) (mfindings : Nat → Int32) (mread : Nat → Int32) (maside : Nat → Int32) (msteps : Nat → Int32) (mtried : Nat → Int32) (mbest : Nat → Int32) (x1 : Int32) (x2 : Int32) (x3 : Int32) (x4 : Int32) (r : Int32) (h : fX6_did F mguests mkinds x1 x2 x3 x4 = some (r)) : Met l yX6_did wsX6_did ({ frames := 2, cells := 0, slots := 0, locals := 46 } : Room) (va_Pc [.ref (am 0), .int x1, .int x2, .int x3, .int x4] (fun U => va_P D vwCl (wMo T am mguests mclause mdeeds masked mupper mlower mfinding mreadGuests misSight mat mrowSizes mrows mtextSizes mtexts mdoes mkinds msees mnow mbefore mkeeps mkept mfindings mread maside msteps mtried mbest) U.heap ∧ KK D T U)) (vp_Si (fun r' => r' = r)) 0 0 (fun _ => False) := by
  refine Met.ofW (cc := cX6_did) (maxL := 7) (ret := some .int) (by decide) rfl ?_
  intro p e s m args below meth c s₁ B hml hv
  obtain ⟨ha, hP, hKK⟩ := hv
  have hx := B.exec
  have hb := B.bytes
  have hr := B.returns
  have hts := atoms_spec (ws := wsX6_did) B.pre
  have hown : s.vm.findClass RX6 = some m.cls := findClass_of_methodNamed B.named
  have hlocks := B.notSynchronized
  have hK := hKK.1
  have hFix : CallFix p m c cX6_did 7 s args wsX6_did RX6 := ⟨hx, hb, hml, hown, hts⟩
  have q1 := hts _ (List.mem_of_getElem? (i := 1) (show wsX6_did[1]? = some (Cond.constantLong RX6 252 (20)) from rfl))
  have q2 := hts _ (List.mem_of_getElem? (i := 2) (show wsX6_did[2]? = some (Cond.fieldLink RX6 25 "PartyWillModel" "kinds" "[I") from rfl))
  have iX6 : ∀ w ∈ u_ws RX6 TX6 27, w ∈ wsX6_did := fun w h => List.mem_cons_of_mem _ (List.mem_append_right _ (h))
  obtain ⟨ls, hl, e0⟩ := my_entry (m := m) (n := 7) ha (Nat.le_of_ble_eq_true rfl)
  rw [e0]
  have hl : lv_has ls 7 [(0, .ref (am 0)), (1, .int x1), (2, .int x2), (3, .int x3), (4, .int x4)] := hl
  have key : ∀ Q : State → Prop, (∀ (pc : Nat) (ls : Array Slot), decode cX6_did pc = .ok (.ireturn, 1) → W p l e ({ frames := 2, cells := 0, slots := 0, locals := 46 } : Room) s m args below meth c s.heap [] 0 0 Q (F0 m pc ls [.int r])) → W p l e ({ frames := 2, cells := 0, slots := 0, locals := 46 } : Room) s m args below meth c s.heap [] 0 0 Q (F0 m 0 ls []) := by
    intro Q hret
    have l48 : ∀ x1 : Int32, ∀ x2 : Int32, ∀ x3 : Int32, ∀ x4 : Int32, ∀ nu : Nat, ∀ x5 : Int32, ∀ x6 : Int32, fX6_did_l48 F mguests mkinds x1 x2 x3 x4 nu x5 x6 = some (r) → ∀ (ls : Array Slot), lv_has ls 7 [(0, .ref (am 0)), (1, .int x1), (2, .int x2), (3, .int x3), (4, .int x4), (5, .int x5), (6, .int x6)] → W p l e ({ frames := 2, cells := 0, slots := 0, locals := 46 } : Room) s m args below meth c s.heap [] 0 0 Q (F0 m 48 ls []) := by
      intro x1 x2 x3 x4
      intro nu
      induction nu with
      | zero => intro x5 x6 h; exact none_some h
      | succ nu48 ih48 =>
        intro x5 x6 h ls hl
        have h : fX6_did_l48_b F mguests mkinds x1 x2 x3 x4 (fX6_did_l48 F mguests mkinds x1 x2 x3 x4 nu48) x5 x6 = some (r) := h
        unfold fX6_did_l48_b at h
        refine lv_iload hx hb dX6_did_48 (lv_at hl 6 rfl) ?_
        refine lv_bipush (v := (10 : Int32)) hx hb dX6_did_50 (by decide) ?_
        refine lv_icmp_ge (tgt := 94) hx hb dX6_did_52 (by decide) (fun c52 => ?_) (fun c52 => ?_)
        · have h := br_1 h c52
          refine lv_iload hx hb dX6_did_94 (lv_at hl 5 rfl) ?_
          cases h
          exact hret _ _ dX6_did_96
        · have h := br_0 h c52
          refine lv_iload hx hb dX6_did_55 (lv_at hl 5 rfl) ?_
          refine lv_aload_n hx hb dX6_did_57 rfl (lv_at hl 0 rfl) ?_
          refine va_get (D := D) (ci := 4) (C := RX6) (T := TX6) (N := 27) hx hb hts iX6 hown hK hP 0 wMo_0 rfl 7 (by decide) q2 (fun _ h9 => h9) rfl dX6_did_58 ?_
          refine lv_iload_n hx hb dX6_did_61 rfl (lv_at hl 1 rfl) ?_
          obtain ⟨hin1, h⟩ := ck_some h
          refine va_iald hx hb hK hP 6 0 wMo_6 rfl hin1 dX6_did_62 ?_
          refine lv_iload_n hx hb dX6_did_63 rfl (lv_at hl 3 rfl) ?_
          refine lv_iload_n hx hb dX6_did_64 rfl (lv_at hl 2 rfl) ?_
          refine lv_iload hx hb dX6_did_65 (lv_at hl 6 rfl) ?_
          refine lv_iconst (v := (4 : Int32)) hx hb dX6_did_67 (by decide) ?_
          refine lv_isub hx hb dX6_did_68 ?_
          obtain ⟨r69, hc, h⟩ := bd1_some h
          refine my_roi (va_Run.run (va_runS (As := [.int (mkinds x1.toNatClampNeg), .int x3, .int x2, .int (x6 - (4 : Int32))]) (rest := [.int x5]) hFix (kX6_griefBehind l D T F (mkinds x1.toNatClampNeg) x3 x2 (x6 - (4 : Int32)) r69 hc) (va_cwS 4 hts gX6_did_X6_griefBehind rfl rfl rfl hd_X6_griefBehind ⟨Nat.le_of_ble_eq_true rfl, Nat.le_of_ble_eq_true rfl⟩) (preS_ro va_nil hKK) rfl rfl hl.1 rfl (lv_room (Nat.le_of_ble_eq_true rfl)) dX6_did_69 ⟨Nat.zero_le _, Nat.zero_le _⟩)) ?_
          refine lv_iload hx hb dX6_did_72 (lv_at hl 4 rfl) ?_
          refine lv_icmp_ne (tgt := 84) hx hb dX6_did_74 (by decide) (fun c74 => ?_) (fun c74 => ?_)
          · have h := br_0 h c74
            refine lv_iconst (v := (0 : Int32)) hx hb dX6_did_84 (by decide) ?_
            refine lv_ior hx hb dX6_did_85 ?_
            refine lv_istore (lv' := [(5, .int (x5 ||| (0 : Int32))), (0, .ref (am 0)), (1, .int x1), (2, .int x2), (3, .int x3), (4, .int x4), (6, .int x6)]) hx hb dX6_did_86 hl (by decide) rfl (fun ls hl => ?_)
            refine lv_iinc (v := (x6 + (1 : Int32))) (lv' := [(6, .int (x6 + (1 : Int32))), (5, .int (x5 ||| (0 : Int32))), (0, .ref (am 0)), (1, .int x1), (2, .int x2), (3, .int x3), (4, .int x4)]) hx hb dX6_did_88 hl (k := 6) rfl rfl (by decide) rfl (fun ls hl => ?_)
            refine lv_goto (tgt := 48) hx hb dX6_did_91 (by decide) ?_
            exact ih48 (x5 ||| (0 : Int32)) (x6 + (1 : Int32)) h _ (lv_sub hl [2, 3, 4, 5, 6, 1, 0] rfl)
          · have h := br_1 h c74
            refine lv_iconst (v := (1 : Int32)) hx hb dX6_did_77 (by decide) ?_
            refine lv_iload hx hb dX6_did_78 (lv_at hl 6 rfl) ?_
            refine lv_ishl hx hb dX6_did_80 ?_
            refine lv_goto (tgt := 85) hx hb dX6_did_81 (by decide) ?_
            refine lv_ior hx hb dX6_did_85 ?_
            refine lv_istore (lv' := [(5, .int (x5 ||| ((1 : Int32) <<< (x6 &&& 31)))), (0, .ref (am 0)), (1, .int x1), (2, .int x2), (3, .int x3), (4, .int x4), (6, .int x6)]) hx hb dX6_did_86 hl (by decide) rfl (fun ls hl => ?_)
            refine lv_iinc (v := (x6 + (1 : Int32))) (lv' := [(6, .int (x6 + (1 : Int32))), (5, .int (x5 ||| ((1 : Int32) <<< (x6 &&& 31)))), (0, .ref (am 0)), (1, .int x1), (2, .int x2), (3, .int x3), (4, .int x4)]) hx hb dX6_did_88 hl (k := 6) rfl rfl (by decide) rfl (fun ls hl => ?_)
            refine lv_goto (tgt := 48) hx hb dX6_did_91 (by decide) ?_
            exact ih48 (x5 ||| ((1 : Int32) <<< (x6 &&& 31))) (x6 + (1 : Int32)) h _ (lv_sub hl [2, 3, 4, 5, 6, 1, 0] rfl)
    unfold fX6_did at h
    refine lv_aload_n hx hb dX6_did_0 rfl (lv_at hl 0 rfl) ?_
    refine lv_iload_n hx hb dX6_did_1 rfl (lv_at hl 1 rfl) ?_
    obtain ⟨r2, hc, h⟩ := bd1_some h
    refine my_roz (va_Run.run (va_runV (As := [.int x1]) (rest := []) hFix (kX6_isGuest l D T F am mguests mclause mdeeds masked mupper mlower mfinding mreadGuests misSight mat mrowSizes mrows mtextSizes mtexts mdoes mkinds msees mnow mbefore mkeeps mkept mfindings mread maside msteps mtried mbest x1 r2 hc) (cwV 1 hts gX6_did_X6_isGuest rfl rfl rfl ⟨rfl, hd_X6_isGuest⟩ ⟨Nat.le_of_ble_eq_true rfl, Nat.le_of_ble_eq_true rfl⟩) (preV_ro hP hKK (va_recv hK hP (ci := 4) (q0 := 0) rfl wMo_0)) rfl rfl hl.1 rfl (lv_room (Nat.le_of_ble_eq_true rfl)) dX6_did_2 ⟨Nat.zero_le _, Nat.zero_le _⟩)) (fun hb2 => ?_)
    refine lv_if_eq (tgt := 40) hx hb dX6_did_5 (by decide) (fun c5 => ?_) (fun c5 => ?_)
    · have h := br_1 h c5
      refine lv_iconst (v := (-1 : Int32)) hx hb dX6_did_40 (by decide) ?_
      cases h
      exact hret _ _ dX6_did_41
    · have h := br_0 h c5
      refine lv_iload_n hx hb dX6_did_8 rfl (lv_at hl 2 rfl) ?_
      obtain ⟨r9, hc, h⟩ := bd1_some h
      refine my_roz (va_Run.run (va_runS (As := [.int x2]) (rest := []) hFix (kX6_isTune l D T F x2 r9 hc) (va_cwS 1 hts gX6_did_X6_isTune rfl rfl rfl hd_X6_isTune ⟨Nat.le_of_ble_eq_true rfl, Nat.le_of_ble_eq_true rfl⟩) (preS_ro va_nil hKK) rfl rfl hl.1 rfl (lv_room (Nat.le_of_ble_eq_true rfl)) dX6_did_9 ⟨Nat.zero_le _, Nat.zero_le _⟩)) (fun hb9 => ?_)
      refine lv_if_eq (tgt := 40) hx hb dX6_did_12 (by decide) (fun c12 => ?_) (fun c12 => ?_)
      · have h := br_1 h c12
        refine lv_iconst (v := (-1 : Int32)) hx hb dX6_did_40 (by decide) ?_
        cases h
        exact hret _ _ dX6_did_41
      · have h := br_0 h c12
        refine lv_iload_n hx hb dX6_did_15 rfl (lv_at hl 3 rfl) ?_
        refine lv_i2l (v := (x3.toInt64)) hx hb dX6_did_16 rfl ?_
        refine lv_lconst (v := (0 : Int64)) hx hb dX6_did_17 (by decide) ?_
        refine lv_ldc2 (v := (20 : Int64)) hx hb hown q1 dX6_did_18 ?_
        obtain ⟨r21, hc, h⟩ := bd1_some h
        refine my_roz (va_Run.run (va_runS (As := [.long (x3.toInt64), .long (0 : Int64), .long (20 : Int64)]) (rest := []) hFix (kX6_in l D T F (x3.toInt64) (0 : Int64) (20 : Int64) r21 hc) (va_cwS 3 hts gX6_did_X6_in rfl rfl rfl hd_X6_in ⟨Nat.le_of_ble_eq_true rfl, Nat.le_of_ble_eq_true rfl⟩) (preS_ro va_nil hKK) rfl rfl hl.1 rfl (lv_room (Nat.le_of_ble_eq_true rfl)) dX6_did_21 ⟨Nat.zero_le _, Nat.zero_le _⟩)) (fun hb21 => ?_)
        refine lv_if_eq (tgt := 40) hx hb dX6_did_24 (by decide) (fun c24 => ?_) (fun c24 => ?_)
        · have h := br_1 h c24
          refine lv_iconst (v := (-1 : Int32)) hx hb dX6_did_40 (by decide) ?_
          cases h
          exact hret _ _ dX6_did_41
        · have h := br_0 h c24
          refine lv_iload hx hb dX6_did_27 (lv_at hl 4 rfl) ?_
          refine lv_i2l (v := (x4.toInt64)) hx hb dX6_did_29 rfl ?_
          refine lv_lconst (v := (0 : Int64)) hx hb dX6_did_30 (by decide) ?_
          refine lv_ldc2 (v := (20 : Int64)) hx hb hown q1 dX6_did_31 ?_
          obtain ⟨r34, hc, h⟩ := bd1_some h
          refine my_roz (va_Run.run (va_runS (As := [.long (x4.toInt64), .long (0 : Int64), .long (20 : Int64)]) (rest := []) hFix (kX6_in l D T F (x4.toInt64) (0 : Int64) (20 : Int64) r34 hc) (va_cwS 3 hts gX6_did_X6_in rfl rfl rfl hd_X6_in ⟨Nat.le_of_ble_eq_true rfl, Nat.le_of_ble_eq_true rfl⟩) (preS_ro va_nil hKK) rfl rfl hl.1 rfl (lv_room (Nat.le_of_ble_eq_true rfl)) dX6_did_34 ⟨Nat.zero_le _, Nat.zero_le _⟩)) (fun hb34 => ?_)
          refine lv_if_ne (tgt := 42) hx hb dX6_did_37 (by decide) (fun c37 => ?_) (fun c37 => ?_)
          · have h := br_0 h c37
            refine lv_iconst (v := (0 : Int32)) hx hb dX6_did_42 (by decide) ?_
            refine lv_istore (lv' := [(5, .int (0 : Int32)), (0, .ref (am 0)), (1, .int x1), (2, .int x2), (3, .int x3), (4, .int x4)]) hx hb dX6_did_43 hl (by decide) rfl (fun ls hl => ?_)
            refine lv_iconst (v := (0 : Int32)) hx hb dX6_did_45 (by decide) ?_
            refine lv_istore (lv' := [(6, .int (0 : Int32)), (5, .int (0 : Int32)), (0, .ref (am 0)), (1, .int x1), (2, .int x2), (3, .int x3), (4, .int x4)]) hx hb dX6_did_46 hl (by decide) rfl (fun ls hl => ?_)
            exact l48 x1 x2 x3 x4 F (0 : Int32) (0 : Int32) h _ (lv_sub hl [2, 3, 4, 5, 6, 1, 0] rfl)
          · have h := br_1 h c37
            refine lv_iconst (v := (-1 : Int32)) hx hb dX6_did_40 (by decide) ?_
            cases h
            exact hret _ _ dX6_did_41
  exact key _ (fun pc ls hd => W.iret hx hb hr (fun t ht hW => ⟨_, rfl, rfl, ht⟩) (fun q h => by cases h) hd)
