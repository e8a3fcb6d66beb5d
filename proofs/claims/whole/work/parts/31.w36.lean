set_option maxHeartbeats 4000000 in
set_option maxRecDepth 100000 in
theorem kX6_kindsOf (l : Launch) (D : va_G) (T : Nat → ClassId) (F : Nat) (am : Nat → Nat) (mguests : Int32) (mclause : Int32) (mdeeds : Int32) (masked : Int32) (mupper : Int64) (mlower : Int64) (mfinding : Int32) (mreadGuests : Int32) (misSight : Int32) (mat : Int32) (mrowSizes : Nat → Int32) (mrows : Nat → Int32) (mtextSizes : Nat → Int32) (mtexts : Nat → Int32) (mdoes : Nat → Int32) (mkinds : Nat → Int32) (msees : Nat → Int32) (mnow : Nat → Int32) (mbefore : Nat → Int32) (mkeeps : Nat → Int32) (mkept : Nat → Int32) (mfindings : Nat → Int32) (mread : Nat → Int32) (maside : Nat → Int32) (msteps : Nat → Int32) (mtried : Nat → Int32) (mbest : Nat → Int32) (x1 : Int32) (r : Int32) (h : fX6_kindsOf F mguests mkinds x1 = some (r)) : Met l yX6_kindsOf wsX6_kindsOf ({ frames := 1, cells := 0, slots := 0, locals := 21 } : Room) (va_Pc [.ref (am 0), .int x1] (fun U => va_P D vwCl (wMo T am mguests mclause mdeeds masked mupper mlower mfinding mreadGuests misSight mat mrowSizes mrows mtextSizes mtexts mdoes mkinds msees mnow mbefore mkeeps mkept mfindings mread maside msteps mtried mbest) U.heap ∧ KK D T U)) (vp_Si (fun r' => r' = r)) 0 0 (fun _ => False) := by
  refine Met.ofW (cc := cX6_kindsOf) (maxL := 4) (ret := some .int) (by decide) rfl ?_
  intro p e s m args below meth c s₁ B hml hv
  obtain ⟨ha, hP, hKK⟩ := hv
  have hx := B.exec
  have hb := B.bytes
  have hr := B.returns
  have hts := atoms_spec (ws := wsX6_kindsOf) B.pre
  have hown : s.vm.findClass RX6 = some m.cls := findClass_of_methodNamed B.named
  have hlocks := B.notSynchronized
  have hK := hKK.1
  have hFix : CallFix p m c cX6_kindsOf 4 s args wsX6_kindsOf RX6 := ⟨hx, hb, hml, hown, hts⟩
  have q1 := hts _ (List.mem_of_getElem? (i := 1) (show wsX6_kindsOf[1]? = some (Cond.fieldLink RX6 131 "PartyWillModel" "guests" "I") from rfl))
  have q2 := hts _ (List.mem_of_getElem? (i := 2) (show wsX6_kindsOf[2]? = some (Cond.fieldLink RX6 25 "PartyWillModel" "kinds" "[I") from rfl))
  have iX6 : ∀ w ∈ u_ws RX6 TX6 27, w ∈ wsX6_kindsOf := fun w h => List.mem_cons_of_mem _ (List.mem_append_right _ (h))
  obtain ⟨ls, hl, e0⟩ := my_entry (m := m) (n := 4) ha (Nat.le_of_ble_eq_true rfl)
  rw [e0]
  have hl : lv_has ls 4 [(0, .ref (am 0)), (1, .int x1)] := hl
  have key : ∀ Q : State → Prop, (∀ (pc : Nat) (ls : Array Slot), decode cX6_kindsOf pc = .ok (.ireturn, 1) → W p l e ({ frames := 1, cells := 0, slots := 0, locals := 21 } : Room) s m args below meth c s.heap [] 0 0 Q (F0 m pc ls [.int r])) → W p l e ({ frames := 1, cells := 0, slots := 0, locals := 21 } : Room) s m args below meth c s.heap [] 0 0 Q (F0 m 0 ls []) := by
    intro Q hret
    have l4 : ∀ x1 : Int32, ∀ nu : Nat, ∀ x2 : Int32, ∀ x3 : Int32, fX6_kindsOf_l4 F mguests mkinds x1 nu x2 x3 = some (r) → ∀ (ls : Array Slot), lv_has ls 4 [(0, .ref (am 0)), (1, .int x1), (2, .int x2), (3, .int x3)] → W p l e ({ frames := 1, cells := 0, slots := 0, locals := 21 } : Room) s m args below meth c s.heap [] 0 0 Q (F0 m 4 ls []) := by
      intro x1
      intro nu
      induction nu with
      | zero => intro x2 x3 h; exact none_some h
      | succ nu4 ih4 =>
        intro x2 x3 h ls hl
        have h : fX6_kindsOf_l4_b F mguests mkinds x1 (fX6_kindsOf_l4 F mguests mkinds x1 nu4) x2 x3 = some (r) := h
        unfold fX6_kindsOf_l4_b at h
        refine lv_iload_n hx hb dX6_kindsOf_4 rfl (lv_at hl 3 rfl) ?_
        refine lv_aload_n hx hb dX6_kindsOf_5 rfl (lv_at hl 0 rfl) ?_
        refine va_get (D := D) (ci := 4) (C := RX6) (T := TX6) (N := 27) hx hb hts iX6 hown hK hP 0 wMo_0 rfl 4 (by decide) q1 (fun _ h9 => h9) rfl dX6_kindsOf_6 ?_
        refine lv_icmp_ge (tgt := 39) hx hb dX6_kindsOf_9 (by decide) (fun c9 => ?_) (fun c9 => ?_)
        · have h := br_1 h c9
          refine lv_iload_n hx hb dX6_kindsOf_39 rfl (lv_at hl 2 rfl) ?_
          cases h
          exact hret _ _ dX6_kindsOf_40
        · have h := br_0 h c9
          refine lv_iload_n hx hb dX6_kindsOf_12 rfl (lv_at hl 2 rfl) ?_
          refine lv_aload_n hx hb dX6_kindsOf_13 rfl (lv_at hl 0 rfl) ?_
          refine va_get (D := D) (ci := 4) (C := RX6) (T := TX6) (N := 27) hx hb hts iX6 hown hK hP 0 wMo_0 rfl 7 (by decide) q2 (fun _ h9 => h9) rfl dX6_kindsOf_14 ?_
          refine lv_iload_n hx hb dX6_kindsOf_17 rfl (lv_at hl 3 rfl) ?_
          obtain ⟨hin1, h⟩ := ck_some h
          refine va_iald hx hb hK hP 6 0 wMo_6 rfl hin1 dX6_kindsOf_18 ?_
          refine lv_iload_n hx hb dX6_kindsOf_19 rfl (lv_at hl 1 rfl) ?_
          obtain ⟨r20, hc, h⟩ := bd1_some h
          refine my_roz (va_Run.run (va_runS (As := [.int (mkinds x3.toNatClampNeg), .int x1]) (rest := [.int x2]) hFix (kX6_isOf l D T F (mkinds x3.toNatClampNeg) x1 r20 hc) (va_cwS 2 hts gX6_kindsOf_X6_isOf rfl rfl rfl hd_X6_isOf ⟨Nat.le_of_ble_eq_true rfl, Nat.le_of_ble_eq_true rfl⟩) (preS_ro va_nil hKK) rfl rfl hl.1 rfl (lv_room (Nat.le_of_ble_eq_true rfl)) dX6_kindsOf_20 ⟨Nat.zero_le _, Nat.zero_le _⟩)) (fun hb20 => ?_)
          refine lv_if_eq (tgt := 30) hx hb dX6_kindsOf_23 (by decide) (fun c23 => ?_) (fun c23 => ?_)
          · have h := br_1 h c23
            refine lv_iconst (v := (0 : Int32)) hx hb dX6_kindsOf_30 (by decide) ?_
            refine lv_iadd hx hb dX6_kindsOf_31 ?_
            refine lv_istore_n (lv' := [(2, .int (x2 + (0 : Int32))), (0, .ref (am 0)), (1, .int x1), (3, .int x3)]) hx hb dX6_kindsOf_32 rfl hl (by decide) rfl (fun ls hl => ?_)
            refine lv_iinc (v := (x3 + (1 : Int32))) (lv' := [(3, .int (x3 + (1 : Int32))), (2, .int (x2 + (0 : Int32))), (0, .ref (am 0)), (1, .int x1)]) hx hb dX6_kindsOf_33 hl (k := 3) rfl rfl (by decide) rfl (fun ls hl => ?_)
            refine lv_goto (tgt := 4) hx hb dX6_kindsOf_36 (by decide) ?_
            exact ih4 (x2 + (0 : Int32)) (x3 + (1 : Int32)) h _ (lv_sub hl [2, 3, 1, 0] rfl)
          · have h := br_0 h c23
            refine lv_iconst (v := (1 : Int32)) hx hb dX6_kindsOf_26 (by decide) ?_
            refine lv_goto (tgt := 31) hx hb dX6_kindsOf_27 (by decide) ?_
            refine lv_iadd hx hb dX6_kindsOf_31 ?_
            refine lv_istore_n (lv' := [(2, .int (x2 + (1 : Int32))), (0, .ref (am 0)), (1, .int x1), (3, .int x3)]) hx hb dX6_kindsOf_32 rfl hl (by decide) rfl (fun ls hl => ?_)
            refine lv_iinc (v := (x3 + (1 : Int32))) (lv' := [(3, .int (x3 + (1 : Int32))), (2, .int (x2 + (1 : Int32))), (0, .ref (am 0)), (1, .int x1)]) hx hb dX6_kindsOf_33 hl (k := 3) rfl rfl (by decide) rfl (fun ls hl => ?_)
            refine lv_goto (tgt := 4) hx hb dX6_kindsOf_36 (by decide) ?_
            exact ih4 (x2 + (1 : Int32)) (x3 + (1 : Int32)) h _ (lv_sub hl [2, 3, 1, 0] rfl)
    unfold fX6_kindsOf at h
    refine lv_iconst (v := (0 : Int32)) hx hb dX6_kindsOf_0 (by decide) ?_
    refine lv_istore_n (lv' := [(2, .int (0 : Int32)), (0, .ref (am 0)), (1, .int x1)]) hx hb dX6_kindsOf_1 rfl hl (by decide) rfl (fun ls hl => ?_)
    refine lv_iconst (v := (0 : Int32)) hx hb dX6_kindsOf_2 (by decide) ?_
    refine lv_istore_n (lv' := [(3, .int (0 : Int32)), (2, .int (0 : Int32)), (0, .ref (am 0)), (1, .int x1)]) hx hb dX6_kindsOf_3 rfl hl (by decide) rfl (fun ls hl => ?_)
    exact l4 x1 F (0 : Int32) (0 : Int32) h _ (lv_sub hl [2, 3, 1, 0] rfl)
  exact key _ (fun pc ls hd => W.iret hx hb hr (fun t ht hW => ⟨_, rfl, rfl, ht⟩) (fun q h => by cases h) hd)
set_option maxHeartbeats 4000000 in
set_option maxRecDepth 100000 in
theorem kX6_counted (l : Launch) (D : va_G) (T : Nat → ClassId) (F : Nat) (am : Nat → Nat) (mguests : Int32) (mclause : Int32) (mdeeds : Int32) (masked : Int32) (mupper : Int64) (mlower : Int64) (mfinding : Int32) (mreadGuests : Int32) (misSight : Int32) (mat : Int32) (mrowSizes : Nat → Int32) (mrows : Nat → Int32) (mtextSizes : Nat → Int32) (mtexts : Nat → Int32) (mdoes : Nat → Int32) (mkinds : Nat → Int32) (msees : Nat → Int32) (mnow : Nat → Int32) (mbefore : Nat → Int32) (mkeeps : Nat → Int32) (mkept : Nat → Int32) (mfindings : Nat → Int32) (mread : Nat → Int32) (maside : Nat → Int32) (msteps : Nat → Int32) (mtried : Nat → Int32) (mbest : Nat → Int32) (x1 : Int32) (r : Int32) (h : fX6_counted F mguests mclause mdeeds mrowSizes mtextSizes mkinds mnow mkept x1 = some (r)) : Met l yX6_counted wsX6_counted ({ frames := 2, cells := 0, slots := 0, locals := 44 } : Room) (va_Pc [.ref (am 0), .int x1] (fun U => va_P D vwCl (wMo T am mguests mclause mdeeds masked mupper mlower mfinding mreadGuests misSight mat mrowSizes mrows mtextSizes mtexts mdoes mkinds msees mnow mbefore mkeeps mkept mfindings mread maside msteps mtried mbest) U.heap ∧ KK D T U)) (vp_Si (fun r' => r' = r)) 0 0 (fun _ => False) := by
  refine Met.ofW (cc := cX6_counted) (maxL := 4) (ret := some .int) (by decide) rfl ?_
  intro p e s m args below meth c s₁ B hml hv
  obtain ⟨ha, hP, hKK⟩ := hv
  have hx := B.exec
  have hb := B.bytes
  have hr := B.returns
  have hts := atoms_spec (ws := wsX6_counted) B.pre
  have hown : s.vm.findClass RX6 = some m.cls := findClass_of_methodNamed B.named
  have hlocks := B.notSynchronized
  have hK := hKK.1
  have hFix : CallFix p m c cX6_counted 4 s args wsX6_counted RX6 := ⟨hx, hb, hml, hown, hts⟩
  have q1 := hts _ (List.mem_of_getElem? (i := 1) (show wsX6_counted[1]? = some (Cond.fieldLink RX6 7 "PartyWillModel" "rowSizes" "[I") from rfl))
  have q2 := hts _ (List.mem_of_getElem? (i := 2) (show wsX6_counted[2]? = some (Cond.fieldLink RX6 16 "PartyWillModel" "textSizes" "[I") from rfl))
  have q3 := hts _ (List.mem_of_getElem? (i := 3) (show wsX6_counted[3]? = some (Cond.fieldLink RX6 40 "PartyWillModel" "kept" "[Z") from rfl))
  have q4 := hts _ (List.mem_of_getElem? (i := 4) (show wsX6_counted[4]? = some (Cond.fieldLink RX6 131 "PartyWillModel" "guests" "I") from rfl))
  have q5 := hts _ (List.mem_of_getElem? (i := 5) (show wsX6_counted[5]? = some (Cond.fieldLink RX6 134 "PartyWillModel" "clause" "I") from rfl))
  have q6 := hts _ (List.mem_of_getElem? (i := 6) (show wsX6_counted[6]? = some (Cond.fieldLink RX6 137 "PartyWillModel" "deeds" "I") from rfl))
  have q7 := hts _ (List.mem_of_getElem? (i := 7) (show wsX6_counted[7]? = some (Cond.fieldLink RX6 31 "PartyWillModel" "now" "[I") from rfl))
  have iX6 : ∀ w ∈ u_ws RX6 TX6 27, w ∈ wsX6_counted := fun w h => List.mem_cons_of_mem _ (List.mem_append_right _ (h))
  obtain ⟨ls, hl, e0⟩ := my_entry (m := m) (n := 4) ha (Nat.le_of_ble_eq_true rfl)
  rw [e0]
  have hl : lv_has ls 4 [(0, .ref (am 0)), (1, .int x1)] := hl
  have key : ∀ Q : State → Prop, (∀ (pc : Nat) (ls : Array Slot), decode cX6_counted pc = .ok (.ireturn, 1) → W p l e ({ frames := 2, cells := 0, slots := 0, locals := 44 } : Room) s m args below meth c s.heap [] 0 0 Q (F0 m pc ls [.int r])) → W p l e ({ frames := 2, cells := 0, slots := 0, locals := 44 } : Room) s m args below meth c s.heap [] 0 0 Q (F0 m 0 ls []) := by
    intro Q hret
    have n111 : ∀ x1 : Int32, ∀ x2 : Int32, fX6_counted_n111 F mguests mclause mdeeds mrowSizes mtextSizes mkinds mnow mkept x1 x2 = some (r) → ∀ (ls : Array Slot), lv_has ls 4 [(0, .ref (am 0)), (1, .int x1), (2, .int x2)] → W p l e ({ frames := 2, cells := 0, slots := 0, locals := 44 } : Room) s m args below meth c s.heap [] 0 0 Q (F0 m 111 ls []) := by
      intro x1 x2 h ls hl
      unfold fX6_counted_n111 at h
      refine lv_iload_n hx hb dX6_counted_111 rfl (lv_at hl 1 rfl) ?_
      by_cases z112_0 : x1 = (0 : Int32)
      · have h := br_1 h z112_0
        refine lv_tableIn (tgt := 156) (off := 44) hx hb dX6_counted_112 (by rw [z112_0]; decide) (by rw [z112_0]; decide) (by rw [z112_0]; decide) (by decide) ?_
        refine lv_aload_n hx hb dX6_counted_156 rfl (lv_at hl 0 rfl) ?_
        refine va_get (D := D) (ci := 4) (C := RX6) (T := TX6) (N := 27) hx hb hts iX6 hown hK hP 0 wMo_0 rfl 4 (by decide) q4 (fun _ h9 => h9) rfl dX6_counted_157 ?_
        cases h
        exact hret _ _ dX6_counted_160
      have h := br_0 h z112_0
      by_cases z112_1 : x1 = (1 : Int32)
      · have h := br_1 h z112_1
        refine lv_tableIn (tgt := 161) (off := 49) hx hb dX6_counted_112 (by rw [z112_1]; decide) (by rw [z112_1]; decide) (by rw [z112_1]; decide) (by decide) ?_
        refine lv_aload_n hx hb dX6_counted_161 rfl (lv_at hl 0 rfl) ?_
        refine va_get (D := D) (ci := 4) (C := RX6) (T := TX6) (N := 27) hx hb hts iX6 hown hK hP 0 wMo_0 rfl 5 (by decide) q5 (fun _ h9 => h9) rfl dX6_counted_162 ?_
        cases h
        exact hret _ _ dX6_counted_165
      have h := br_0 h z112_1
      by_cases z112_2 : x1 = (2 : Int32)
      · have h := br_1 h z112_2
        refine lv_tableIn (tgt := 166) (off := 54) hx hb dX6_counted_112 (by rw [z112_2]; decide) (by rw [z112_2]; decide) (by rw [z112_2]; decide) (by decide) ?_
        refine lv_aload_n hx hb dX6_counted_166 rfl (lv_at hl 0 rfl) ?_
        refine va_get (D := D) (ci := 4) (C := RX6) (T := TX6) (N := 27) hx hb hts iX6 hown hK hP 0 wMo_0 rfl 10 (by decide) q6 (fun _ h9 => h9) rfl dX6_counted_167 ?_
        cases h
        exact hret _ _ dX6_counted_170
      have h := br_0 h z112_2
      by_cases z112_3 : x1 = (3 : Int32)
      · have h := br_1 h z112_3
        refine lv_tableIn (tgt := 171) (off := 59) hx hb dX6_counted_112 (by rw [z112_3]; decide) (by rw [z112_3]; decide) (by rw [z112_3]; decide) (by decide) ?_
        refine lv_aload_n hx hb dX6_counted_171 rfl (lv_at hl 0 rfl) ?_
        refine lv_aload_n hx hb dX6_counted_172 rfl (lv_at hl 0 rfl) ?_
        refine va_get (D := D) (ci := 4) (C := RX6) (T := TX6) (N := 27) hx hb hts iX6 hown hK hP 0 wMo_0 rfl 9 (by decide) q7 (fun _ h9 => h9) rfl dX6_counted_173 ?_
        obtain ⟨r176, hc, h⟩ := bd1_some h
        have hPc : va_P D vwCl (wMi T am (am 8) mguests mclause mdeeds masked mupper mlower mfinding mreadGuests misSight mat mnow) _ := my_subP sb_wMo_wMi_0_8 hP
        refine my_roi (va_Run.run (va_runV (As := [.ref (am 8)]) (rest := []) hFix (kX6_inside l D T F am (am 8) mguests mclause mdeeds masked mupper mlower mfinding mreadGuests misSight mat mnow r176 hc) (cwV 1 hts gX6_counted_X6_inside rfl rfl rfl ⟨rfl, hd_X6_inside⟩ ⟨Nat.le_of_ble_eq_true rfl, Nat.le_of_ble_eq_true rfl⟩) (preV_ro hPc hKK (va_recv hK hP (ci := 4) (q0 := 0) rfl wMo_0)) rfl rfl hl.1 rfl (lv_room (Nat.le_of_ble_eq_true rfl)) dX6_counted_176 ⟨Nat.zero_le _, Nat.zero_le _⟩)) ?_
        obtain ⟨r179, hc, h⟩ := bd1_some h
        refine my_roi (va_Run.run (va_runS (As := [.int r176]) (rest := []) hFix (kX6_bits l D T F r176 r179 hc) (va_cwS 1 hts gX6_counted_X6_bits rfl rfl rfl hd_X6_bits ⟨Nat.le_of_ble_eq_true rfl, Nat.le_of_ble_eq_true rfl⟩) (preS_ro va_nil hKK) rfl rfl hl.1 rfl (lv_room (Nat.le_of_ble_eq_true rfl)) dX6_counted_179 ⟨Nat.zero_le _, Nat.zero_le _⟩)) ?_
        cases h
        exact hret _ _ dX6_counted_182
      have h := br_0 h z112_3
      by_cases z112_4 : x1 = (4 : Int32)
      · have h := br_1 h z112_4
        refine lv_tableIn (tgt := 183) (off := 71) hx hb dX6_counted_112 (by rw [z112_4]; decide) (by rw [z112_4]; decide) (by rw [z112_4]; decide) (by decide) ?_
        refine lv_aload_n hx hb dX6_counted_183 rfl (lv_at hl 0 rfl) ?_
        refine va_get (D := D) (ci := 4) (C := RX6) (T := TX6) (N := 27) hx hb hts iX6 hown hK hP 0 wMo_0 rfl 9 (by decide) q7 (fun _ h9 => h9) rfl dX6_counted_184 ?_
        obtain ⟨r187, hc, h⟩ := bd1_some h
        have hPc : va_P D vwCl (wA1 T (am 8) 7 mnow) _ := my_subP sb_wMo_wA1_8 hP
        refine my_roi (va_Run.run (va_runS (As := [.ref (am 8)]) (rest := []) hFix (kX6_sumOf l D T F (am 8) 7 mnow r187 hc) (va_cwS 1 hts gX6_counted_X6_sumOf rfl rfl rfl hd_X6_sumOf ⟨Nat.le_of_ble_eq_true rfl, Nat.le_of_ble_eq_true rfl⟩) (preS_ro hPc hKK) rfl rfl hl.1 rfl (lv_room (Nat.le_of_ble_eq_true rfl)) dX6_counted_187 ⟨Nat.zero_le _, Nat.zero_le _⟩)) ?_
        cases h
        exact hret _ _ dX6_counted_190
      have h := br_0 h z112_4
      by_cases z112_5 : x1 = (5 : Int32)
      · have h := br_1 h z112_5
        refine lv_tableIn (tgt := 191) (off := 79) hx hb dX6_counted_112 (by rw [z112_5]; decide) (by rw [z112_5]; decide) (by rw [z112_5]; decide) (by decide) ?_
        refine lv_aload_n hx hb dX6_counted_191 rfl (lv_at hl 0 rfl) ?_
        refine lv_iconst (v := (1 : Int32)) hx hb dX6_counted_192 (by decide) ?_
        obtain ⟨r193, hc, h⟩ := bd1_some h
        refine my_roi (va_Run.run (va_runV (As := [.int (1 : Int32)]) (rest := []) hFix (kX6_kindsOf l D T F am mguests mclause mdeeds masked mupper mlower mfinding mreadGuests misSight mat mrowSizes mrows mtextSizes mtexts mdoes mkinds msees mnow mbefore mkeeps mkept mfindings mread maside msteps mtried mbest (1 : Int32) r193 hc) (cwV 1 hts gX6_counted_X6_kindsOf rfl rfl rfl ⟨rfl, hd_X6_kindsOf⟩ ⟨Nat.le_of_ble_eq_true rfl, Nat.le_of_ble_eq_true rfl⟩) (preV_ro hP hKK (va_recv hK hP (ci := 4) (q0 := 0) rfl wMo_0)) rfl rfl hl.1 rfl (lv_room (Nat.le_of_ble_eq_true rfl)) dX6_counted_193 ⟨Nat.zero_le _, Nat.zero_le _⟩)) ?_
        cases h
        exact hret _ _ dX6_counted_196
      have h := br_0 h z112_5
      by_cases z112_6 : x1 = (6 : Int32)
      · have h := br_1 h z112_6
        refine lv_tableIn (tgt := 197) (off := 85) hx hb dX6_counted_112 (by rw [z112_6]; decide) (by rw [z112_6]; decide) (by rw [z112_6]; decide) (by decide) ?_
        refine lv_aload_n hx hb dX6_counted_197 rfl (lv_at hl 0 rfl) ?_
        refine lv_iconst (v := (2 : Int32)) hx hb dX6_counted_198 (by decide) ?_
        obtain ⟨r199, hc, h⟩ := bd1_some h
        refine my_roi (va_Run.run (va_runV (As := [.int (2 : Int32)]) (rest := []) hFix (kX6_kindsOf l D T F am mguests mclause mdeeds masked mupper mlower mfinding mreadGuests misSight mat mrowSizes mrows mtextSizes mtexts mdoes mkinds msees mnow mbefore mkeeps mkept mfindings mread maside msteps mtried mbest (2 : Int32) r199 hc) (cwV 1 hts gX6_counted_X6_kindsOf rfl rfl rfl ⟨rfl, hd_X6_kindsOf⟩ ⟨Nat.le_of_ble_eq_true rfl, Nat.le_of_ble_eq_true rfl⟩) (preV_ro hP hKK (va_recv hK hP (ci := 4) (q0 := 0) rfl wMo_0)) rfl rfl hl.1 rfl (lv_room (Nat.le_of_ble_eq_true rfl)) dX6_counted_199 ⟨Nat.zero_le _, Nat.zero_le _⟩)) ?_
        cases h
        exact hret _ _ dX6_counted_202
      have h := br_0 h z112_6
      have e112_0 : x1.toInt ≠ 0 := fun e => z112_0 (Int32.toInt_inj.mp e)
      have e112_1 : x1.toInt ≠ 1 := fun e => z112_1 (Int32.toInt_inj.mp e)
      have e112_2 : x1.toInt ≠ 2 := fun e => z112_2 (Int32.toInt_inj.mp e)
      have e112_3 : x1.toInt ≠ 3 := fun e => z112_3 (Int32.toInt_inj.mp e)
      have e112_4 : x1.toInt ≠ 4 := fun e => z112_4 (Int32.toInt_inj.mp e)
      have e112_5 : x1.toInt ≠ 5 := fun e => z112_5 (Int32.toInt_inj.mp e)
      have e112_6 : x1.toInt ≠ 6 := fun e => z112_6 (Int32.toInt_inj.mp e)
      refine lv_tableOut (tgt := 203) hx hb dX6_counted_112 (by omega) (by decide) ?_
      refine lv_iload_n hx hb dX6_counted_203 rfl (lv_at hl 2 rfl) ?_
      cases h
      exact hret _ _ dX6_counted_204
    have l77 : ∀ x1 : Int32, ∀ nu : Nat, ∀ x2 : Int32, ∀ x3 : Int32, fX6_counted_l77 F mguests mclause mdeeds mrowSizes mtextSizes mkinds mnow mkept x1 nu x2 x3 = some (r) → ∀ (ls : Array Slot), lv_has ls 4 [(0, .ref (am 0)), (1, .int x1), (2, .int x2), (3, .int x3)] → W p l e ({ frames := 2, cells := 0, slots := 0, locals := 44 } : Room) s m args below meth c s.heap [] 0 0 Q (F0 m 77 ls []) := by
      intro x1
      intro nu
      induction nu with
      | zero => intro x2 x3 h; exact none_some h
      | succ nu77 ih77 =>
        intro x2 x3 h ls hl
        have h : fX6_counted_l77_b F mguests mclause mdeeds mrowSizes mtextSizes mkinds mnow mkept x1 (fX6_counted_l77 F mguests mclause mdeeds mrowSizes mtextSizes mkinds mnow mkept x1 nu77) x2 x3 = some (r) := h
        unfold fX6_counted_l77_b at h
        refine lv_iload_n hx hb dX6_counted_77 rfl (lv_at hl 3 rfl) ?_
        refine lv_iconst (v := (3 : Int32)) hx hb dX6_counted_78 (by decide) ?_
        refine lv_icmp_ge (tgt := 111) hx hb dX6_counted_79 (by decide) (fun c79 => ?_) (fun c79 => ?_)
        · have h := br_1 h c79
          exact n111 x1 x2 h _ (lv_sub hl [0, 1, 2] rfl)
        · have h := br_0 h c79
          refine lv_iload_n hx hb dX6_counted_82 rfl (lv_at hl 1 rfl) ?_
          refine lv_bipush (v := (9 : Int32)) hx hb dX6_counted_83 (by decide) ?_
          refine lv_icmp_ne (tgt := 111) hx hb dX6_counted_85 (by decide) (fun c85 => ?_) (fun c85 => ?_)
          · have h := br_0 h c85
            exact n111 x1 x2 h _ (lv_sub hl [0, 1, 2] rfl)
          · have h := br_1 h c85
            refine lv_iload_n hx hb dX6_counted_88 rfl (lv_at hl 2 rfl) ?_
            refine lv_aload_n hx hb dX6_counted_89 rfl (lv_at hl 0 rfl) ?_
            refine va_get (D := D) (ci := 4) (C := RX6) (T := TX6) (N := 27) hx hb hts iX6 hown hK hP 0 wMo_0 rfl 13 (by decide) q3 (fun _ h9 => h9) rfl dX6_counted_90 ?_
            refine lv_iload_n hx hb dX6_counted_93 rfl (lv_at hl 3 rfl) ?_
            obtain ⟨hin1, h⟩ := ck_some h
            refine va_zald hx hb hK hP 11 3 wMo_11 rfl hin1 dX6_counted_94 ?_
            refine lv_if_eq (tgt := 102) hx hb dX6_counted_95 (by decide) (fun c95 => ?_) (fun c95 => ?_)
            · have h := br_1 h c95
              refine lv_iconst (v := (0 : Int32)) hx hb dX6_counted_102 (by decide) ?_
              refine lv_iadd hx hb dX6_counted_103 ?_
              refine lv_istore_n (lv' := [(2, .int (x2 + (0 : Int32))), (0, .ref (am 0)), (1, .int x1), (3, .int x3)]) hx hb dX6_counted_104 rfl hl (by decide) rfl (fun ls hl => ?_)
              refine lv_iinc (v := (x3 + (1 : Int32))) (lv' := [(3, .int (x3 + (1 : Int32))), (2, .int (x2 + (0 : Int32))), (0, .ref (am 0)), (1, .int x1)]) hx hb dX6_counted_105 hl (k := 3) rfl rfl (by decide) rfl (fun ls hl => ?_)
              refine lv_goto (tgt := 77) hx hb dX6_counted_108 (by decide) ?_
              exact ih77 (x2 + (0 : Int32)) (x3 + (1 : Int32)) h _ (lv_sub hl [2, 3, 1, 0] rfl)
            · have h := br_0 h c95
              refine lv_iconst (v := (1 : Int32)) hx hb dX6_counted_98 (by decide) ?_
              refine lv_goto (tgt := 103) hx hb dX6_counted_99 (by decide) ?_
              refine lv_iadd hx hb dX6_counted_103 ?_
              refine lv_istore_n (lv' := [(2, .int (x2 + (1 : Int32))), (0, .ref (am 0)), (1, .int x1), (3, .int x3)]) hx hb dX6_counted_104 rfl hl (by decide) rfl (fun ls hl => ?_)
              refine lv_iinc (v := (x3 + (1 : Int32))) (lv' := [(3, .int (x3 + (1 : Int32))), (2, .int (x2 + (1 : Int32))), (0, .ref (am 0)), (1, .int x1)]) hx hb dX6_counted_105 hl (k := 3) rfl rfl (by decide) rfl (fun ls hl => ?_)
              refine lv_goto (tgt := 77) hx hb dX6_counted_108 (by decide) ?_
              exact ih77 (x2 + (1 : Int32)) (x3 + (1 : Int32)) h _ (lv_sub hl [2, 3, 1, 0] rfl)
    have l41 : ∀ x1 : Int32, ∀ nu : Nat, ∀ x2 : Int32, ∀ x3 : Int32, fX6_counted_l41 F mguests mclause mdeeds mrowSizes mtextSizes mkinds mnow mkept x1 nu x2 x3 = some (r) → ∀ (ls : Array Slot), lv_has ls 4 [(0, .ref (am 0)), (1, .int x1), (2, .int x2), (3, .int x3)] → W p l e ({ frames := 2, cells := 0, slots := 0, locals := 44 } : Room) s m args below meth c s.heap [] 0 0 Q (F0 m 41 ls []) := by
      intro x1
      intro nu
      induction nu with
      | zero => intro x2 x3 h; exact none_some h
      | succ nu41 ih41 =>
        intro x2 x3 h ls hl
        have h : fX6_counted_l41_b F mguests mclause mdeeds mrowSizes mtextSizes mkinds mnow mkept x1 (fX6_counted_l41 F mguests mclause mdeeds mrowSizes mtextSizes mkinds mnow mkept x1 nu41) x2 x3 = some (r) := h
        unfold fX6_counted_l41_b at h
        refine lv_iload_n hx hb dX6_counted_41 rfl (lv_at hl 3 rfl) ?_
        refine lv_iconst (v := (4 : Int32)) hx hb dX6_counted_42 (by decide) ?_
        refine lv_icmp_ge (tgt := 75) hx hb dX6_counted_43 (by decide) (fun c43 => ?_) (fun c43 => ?_)
        · have h := br_1 h c43
          refine lv_iconst (v := (0 : Int32)) hx hb dX6_counted_75 (by decide) ?_
          refine lv_istore_n (lv' := [(3, .int (0 : Int32)), (0, .ref (am 0)), (1, .int x1), (2, .int x2)]) hx hb dX6_counted_76 rfl hl (by decide) rfl (fun ls hl => ?_)
          exact l77 x1 F x2 (0 : Int32) h _ (lv_sub hl [1, 2, 3, 0] rfl)
        · have h := br_0 h c43
          refine lv_iload_n hx hb dX6_counted_46 rfl (lv_at hl 1 rfl) ?_
          refine lv_bipush (v := (8 : Int32)) hx hb dX6_counted_47 (by decide) ?_
          refine lv_icmp_ne (tgt := 75) hx hb dX6_counted_49 (by decide) (fun c49 => ?_) (fun c49 => ?_)
          · have h := br_0 h c49
            refine lv_iconst (v := (0 : Int32)) hx hb dX6_counted_75 (by decide) ?_
            refine lv_istore_n (lv' := [(3, .int (0 : Int32)), (0, .ref (am 0)), (1, .int x1), (2, .int x2)]) hx hb dX6_counted_76 rfl hl (by decide) rfl (fun ls hl => ?_)
            exact l77 x1 F x2 (0 : Int32) h _ (lv_sub hl [1, 2, 3, 0] rfl)
          · have h := br_1 h c49
            refine lv_iload_n hx hb dX6_counted_52 rfl (lv_at hl 2 rfl) ?_
            refine lv_aload_n hx hb dX6_counted_53 rfl (lv_at hl 0 rfl) ?_
            refine va_get (D := D) (ci := 4) (C := RX6) (T := TX6) (N := 27) hx hb hts iX6 hown hK hP 0 wMo_0 rfl 2 (by decide) q2 (fun _ h9 => h9) rfl dX6_counted_54 ?_
            refine lv_iload_n hx hb dX6_counted_57 rfl (lv_at hl 3 rfl) ?_
            obtain ⟨hin2, h⟩ := ck_some h
            refine va_iald hx hb hK hP 3 0 wMo_3 rfl hin2 dX6_counted_58 ?_
            refine lv_if_ge (tgt := 66) hx hb dX6_counted_59 (by decide) (fun c59 => ?_) (fun c59 => ?_)
            · have h := br_1 h c59
              refine lv_iconst (v := (1 : Int32)) hx hb dX6_counted_66 (by decide) ?_
              refine lv_iadd hx hb dX6_counted_67 ?_
              refine lv_istore_n (lv' := [(2, .int (x2 + (1 : Int32))), (0, .ref (am 0)), (1, .int x1), (3, .int x3)]) hx hb dX6_counted_68 rfl hl (by decide) rfl (fun ls hl => ?_)
              refine lv_iinc (v := (x3 + (1 : Int32))) (lv' := [(3, .int (x3 + (1 : Int32))), (2, .int (x2 + (1 : Int32))), (0, .ref (am 0)), (1, .int x1)]) hx hb dX6_counted_69 hl (k := 3) rfl rfl (by decide) rfl (fun ls hl => ?_)
              refine lv_goto (tgt := 41) hx hb dX6_counted_72 (by decide) ?_
              exact ih41 (x2 + (1 : Int32)) (x3 + (1 : Int32)) h _ (lv_sub hl [2, 3, 1, 0] rfl)
            · have h := br_0 h c59
              refine lv_iconst (v := (0 : Int32)) hx hb dX6_counted_62 (by decide) ?_
              refine lv_goto (tgt := 67) hx hb dX6_counted_63 (by decide) ?_
              refine lv_iadd hx hb dX6_counted_67 ?_
              refine lv_istore_n (lv' := [(2, .int (x2 + (0 : Int32))), (0, .ref (am 0)), (1, .int x1), (3, .int x3)]) hx hb dX6_counted_68 rfl hl (by decide) rfl (fun ls hl => ?_)
              refine lv_iinc (v := (x3 + (1 : Int32))) (lv' := [(3, .int (x3 + (1 : Int32))), (2, .int (x2 + (0 : Int32))), (0, .ref (am 0)), (1, .int x1)]) hx hb dX6_counted_69 hl (k := 3) rfl rfl (by decide) rfl (fun ls hl => ?_)
              refine lv_goto (tgt := 41) hx hb dX6_counted_72 (by decide) ?_
              exact ih41 (x2 + (0 : Int32)) (x3 + (1 : Int32)) h _ (lv_sub hl [2, 3, 1, 0] rfl)
    have l4 : ∀ x1 : Int32, ∀ nu : Nat, ∀ x2 : Int32, ∀ x3 : Int32, fX6_counted_l4 F mguests mclause mdeeds mrowSizes mtextSizes mkinds mnow mkept x1 nu x2 x3 = some (r) → ∀ (ls : Array Slot), lv_has ls 4 [(0, .ref (am 0)), (1, .int x1), (2, .int x2), (3, .int x3)] → W p l e ({ frames := 2, cells := 0, slots := 0, locals := 44 } : Room) s m args below meth c s.heap [] 0 0 Q (F0 m 4 ls []) := by
      intro x1
      intro nu
      induction nu with
      | zero => intro x2 x3 h; exact none_some h
      | succ nu4 ih4 =>
        intro x2 x3 h ls hl
        have h : fX6_counted_l4_b F mguests mclause mdeeds mrowSizes mtextSizes mkinds mnow mkept x1 (fX6_counted_l4 F mguests mclause mdeeds mrowSizes mtextSizes mkinds mnow mkept x1 nu4) x2 x3 = some (r) := h
        unfold fX6_counted_l4_b at h
        refine lv_iload_n hx hb dX6_counted_4 rfl (lv_at hl 3 rfl) ?_
        refine lv_bipush (v := (6 : Int32)) hx hb dX6_counted_5 (by decide) ?_
        refine lv_icmp_ge (tgt := 39) hx hb dX6_counted_7 (by decide) (fun c7 => ?_) (fun c7 => ?_)
        · have h := br_1 h c7
          refine lv_iconst (v := (0 : Int32)) hx hb dX6_counted_39 (by decide) ?_
          refine lv_istore_n (lv' := [(3, .int (0 : Int32)), (0, .ref (am 0)), (1, .int x1), (2, .int x2)]) hx hb dX6_counted_40 rfl hl (by decide) rfl (fun ls hl => ?_)
          exact l41 x1 F x2 (0 : Int32) h _ (lv_sub hl [1, 2, 3, 0] rfl)
        · have h := br_0 h c7
          refine lv_iload_n hx hb dX6_counted_10 rfl (lv_at hl 1 rfl) ?_
          refine lv_bipush (v := (7 : Int32)) hx hb dX6_counted_11 (by decide) ?_
          refine lv_icmp_ne (tgt := 39) hx hb dX6_counted_13 (by decide) (fun c13 => ?_) (fun c13 => ?_)
          · have h := br_0 h c13
            refine lv_iconst (v := (0 : Int32)) hx hb dX6_counted_39 (by decide) ?_
            refine lv_istore_n (lv' := [(3, .int (0 : Int32)), (0, .ref (am 0)), (1, .int x1), (2, .int x2)]) hx hb dX6_counted_40 rfl hl (by decide) rfl (fun ls hl => ?_)
            exact l41 x1 F x2 (0 : Int32) h _ (lv_sub hl [1, 2, 3, 0] rfl)
          · have h := br_1 h c13
            refine lv_iload_n hx hb dX6_counted_16 rfl (lv_at hl 2 rfl) ?_
            refine lv_aload_n hx hb dX6_counted_17 rfl (lv_at hl 0 rfl) ?_
            refine va_get (D := D) (ci := 4) (C := RX6) (T := TX6) (N := 27) hx hb hts iX6 hown hK hP 0 wMo_0 rfl 0 (by decide) q1 (fun _ h9 => h9) rfl dX6_counted_18 ?_
            refine lv_iload_n hx hb dX6_counted_21 rfl (lv_at hl 3 rfl) ?_
            obtain ⟨hin3, h⟩ := ck_some h
            refine va_iald hx hb hK hP 1 0 wMo_1 rfl hin3 dX6_counted_22 ?_
            refine lv_if_ge (tgt := 30) hx hb dX6_counted_23 (by decide) (fun c23 => ?_) (fun c23 => ?_)
            · have h := br_1 h c23
              refine lv_iconst (v := (1 : Int32)) hx hb dX6_counted_30 (by decide) ?_
              refine lv_iadd hx hb dX6_counted_31 ?_
              refine lv_istore_n (lv' := [(2, .int (x2 + (1 : Int32))), (0, .ref (am 0)), (1, .int x1), (3, .int x3)]) hx hb dX6_counted_32 rfl hl (by decide) rfl (fun ls hl => ?_)
              refine lv_iinc (v := (x3 + (1 : Int32))) (lv' := [(3, .int (x3 + (1 : Int32))), (2, .int (x2 + (1 : Int32))), (0, .ref (am 0)), (1, .int x1)]) hx hb dX6_counted_33 hl (k := 3) rfl rfl (by decide) rfl (fun ls hl => ?_)
              refine lv_goto (tgt := 4) hx hb dX6_counted_36 (by decide) ?_
              exact ih4 (x2 + (1 : Int32)) (x3 + (1 : Int32)) h _ (lv_sub hl [2, 3, 1, 0] rfl)
            · have h := br_0 h c23
              refine lv_iconst (v := (0 : Int32)) hx hb dX6_counted_26 (by decide) ?_
              refine lv_goto (tgt := 31) hx hb dX6_counted_27 (by decide) ?_
              refine lv_iadd hx hb dX6_counted_31 ?_
              refine lv_istore_n (lv' := [(2, .int (x2 + (0 : Int32))), (0, .ref (am 0)), (1, .int x1), (3, .int x3)]) hx hb dX6_counted_32 rfl hl (by decide) rfl (fun ls hl => ?_)
              refine lv_iinc (v := (x3 + (1 : Int32))) (lv' := [(3, .int (x3 + (1 : Int32))), (2, .int (x2 + (0 : Int32))), (0, .ref (am 0)), (1, .int x1)]) hx hb dX6_counted_33 hl (k := 3) rfl rfl (by decide) rfl (fun ls hl => ?_)
              refine lv_goto (tgt := 4) hx hb dX6_counted_36 (by decide) ?_
              exact ih4 (x2 + (0 : Int32)) (x3 + (1 : Int32)) h _ (lv_sub hl [2, 3, 1, 0] rfl)
    unfold fX6_counted at h
    refine lv_iconst (v := (0 : Int32)) hx hb dX6_counted_0 (by decide) ?_
    refine lv_istore_n (lv' := [(2, .int (0 : Int32)), (0, .ref (am 0)), (1, .int x1)]) hx hb dX6_counted_1 rfl hl (by decide) rfl (fun ls hl => ?_)
    refine lv_iconst (v := (0 : Int32)) hx hb dX6_counted_2 (by decide) ?_
    refine lv_istore_n (lv' := [(3, .int (0 : Int32)), (2, .int (0 : Int32)), (0, .ref (am 0)), (1, .int x1)]) hx hb dX6_counted_3 rfl hl (by decide) rfl (fun ls hl => ?_)
    exact l4 x1 F (0 : Int32) (0 : Int32) h _ (lv_sub hl [2, 3, 1, 0] rfl)
  exact key _ (fun pc ls hd => W.iret hx hb hr (fun t ht hW => ⟨_, rfl, rfl, ht⟩) (fun q h => by cases h) hd)
set_option maxHeartbeats 4000000 in
set_option maxRecDepth 100000 in
theorem kX6_count (l : Launch) (D : va_G) (T : Nat → ClassId) (F : Nat) (am : Nat → Nat) (mguests : Int32) (mclause : Int32) (mdeeds : Int32) (masked : Int32) (mupper : Int64) (mlower : Int64) (mfinding : Int32) (mreadGuests : Int32) (misSight : Int32) (mat : Int32) (mrowSizes : Nat → Int32) (mrows : Nat → Int32) (mtextSizes : Nat → Int32) (mtexts : Nat → Int32) (mdoes : Nat → Int32) (mkinds : Nat → Int32) (msees : Nat → Int32) (mnow : Nat → Int32) (mbefore : Nat → Int32) (mkeeps : Nat → Int32) (mkept : Nat → Int32) (mfindings : Nat → Int32) (mread : Nat → Int32) (maside : Nat → Int32) (msteps : Nat → Int32) (mtried : Nat → Int32) (mbest : Nat → Int32) (x1 : Int32) (r : Int32) (h : fX6_count F mguests mclause mdeeds mrowSizes mtextSizes mkinds mnow mkept x1 = some (r)) : Met l yX6_count wsX6_count ({ frames := 3, cells := 0, slots := 0, locals := 67 } : Room) (va_Pc [.ref (am 0), .int x1] (fun U => va_P D vwCl (wMo T am mguests mclause mdeeds masked mupper mlower mfinding mreadGuests misSight mat mrowSizes mrows mtextSizes mtexts mdoes mkinds msees mnow mbefore mkeeps mkept mfindings mread maside msteps mtried mbest) U.heap ∧ KK D T U)) (vp_Si (fun r' => r' = r)) 0 0 (fun _ => False) := by
  refine Met.ofW (cc := cX6_count) (maxL := 2) (ret := some .int) (by decide) rfl ?_
  intro p e s m args below meth c s₁ B hml hv
  obtain ⟨ha, hP, hKK⟩ := hv
  have hx := B.exec
  have hb := B.bytes
  have hr := B.returns
  have hts := atoms_spec (ws := wsX6_count) B.pre
  have hown : s.vm.findClass RX6 = some m.cls := findClass_of_methodNamed B.named
  have hlocks := B.notSynchronized
  have hK := hKK.1
  have hFix : CallFix p m c cX6_count 2 s args wsX6_count RX6 := ⟨hx, hb, hml, hown, hts⟩
  have q1 := hts _ (List.mem_of_getElem? (i := 1) (show wsX6_count[1]? = some (Cond.constantLong RX6 277 (9)) from rfl))
  obtain ⟨ls, hl, e0⟩ := my_entry (m := m) (n := 2) ha (Nat.le_of_ble_eq_true rfl)
  rw [e0]
  have hl : lv_has ls 2 [(0, .ref (am 0)), (1, .int x1)] := hl
  have key : ∀ Q : State → Prop, (∀ (pc : Nat) (ls : Array Slot), decode cX6_count pc = .ok (.ireturn, 1) → W p l e ({ frames := 3, cells := 0, slots := 0, locals := 67 } : Room) s m args below meth c s.heap [] 0 0 Q (F0 m pc ls [.int r])) → W p l e ({ frames := 3, cells := 0, slots := 0, locals := 67 } : Room) s m args below meth c s.heap [] 0 0 Q (F0 m 0 ls []) := by
    intro Q hret
    unfold fX6_count at h
    refine lv_iload_n hx hb dX6_count_0 rfl (lv_at hl 1 rfl) ?_
    refine lv_i2l (v := (x1.toInt64)) hx hb dX6_count_1 rfl ?_
    refine lv_lconst (v := (0 : Int64)) hx hb dX6_count_2 (by decide) ?_
    refine lv_ldc2 (v := (9 : Int64)) hx hb hown q1 dX6_count_3 ?_
    obtain ⟨r6, hc, h⟩ := bd1_some h
    refine my_roz (va_Run.run (va_runS (As := [.long (x1.toInt64), .long (0 : Int64), .long (9 : Int64)]) (rest := []) hFix (kX6_in l D T F (x1.toInt64) (0 : Int64) (9 : Int64) r6 hc) (va_cwS 3 hts gX6_count_X6_in rfl rfl rfl hd_X6_in ⟨Nat.le_of_ble_eq_true rfl, Nat.le_of_ble_eq_true rfl⟩) (preS_ro va_nil hKK) rfl rfl hl.1 rfl (lv_room (Nat.le_of_ble_eq_true rfl)) dX6_count_6 ⟨Nat.zero_le _, Nat.zero_le _⟩)) (fun hb6 => ?_)
    refine lv_if_eq (tgt := 20) hx hb dX6_count_9 (by decide) (fun c9 => ?_) (fun c9 => ?_)
    · have h := br_1 h c9
      refine lv_iconst (v := (-1 : Int32)) hx hb dX6_count_20 (by decide) ?_
      cases h
      exact hret _ _ dX6_count_21
    · have h := br_0 h c9
      refine lv_aload_n hx hb dX6_count_12 rfl (lv_at hl 0 rfl) ?_
      refine lv_iload_n hx hb dX6_count_13 rfl (lv_at hl 1 rfl) ?_
      obtain ⟨r14, hc, h⟩ := bd1_some h
      refine my_roi (va_Run.run (va_runV (As := [.int x1]) (rest := []) hFix (kX6_counted l D T F am mguests mclause mdeeds masked mupper mlower mfinding mreadGuests misSight mat mrowSizes mrows mtextSizes mtexts mdoes mkinds msees mnow mbefore mkeeps mkept mfindings mread maside msteps mtried mbest x1 r14 hc) (cwV 1 hts gX6_count_X6_counted rfl rfl rfl ⟨rfl, hd_X6_counted⟩ ⟨Nat.le_of_ble_eq_true rfl, Nat.le_of_ble_eq_true rfl⟩) (preV_ro hP hKK (va_recv hK hP (ci := 4) (q0 := 0) rfl wMo_0)) rfl rfl hl.1 rfl (lv_room (Nat.le_of_ble_eq_true rfl)) dX6_count_14 ⟨Nat.zero_le _, Nat.zero_le _⟩)) ?_
      refine lv_goto (tgt := 21) hx hb dX6_count_17 (by decide) ?_
      cases h
      exact hret _ _ dX6_count_21
  exact key _ (fun pc ls hd => W.iret hx hb hr (fun t ht hW => ⟨_, rfl, rfl, ht⟩) (fun q h => by cases h) hd)
set_option maxHeartbeats 4000000 in
set_option maxRecDepth 100000 in
theorem kX6_finding (l : Launch) (D : va_G) (T : Nat → ClassId) (F : Nat) (am : Nat → Nat) (mguests : Int32) (mclause : Int32) (mdeeds : Int32) (masked : Int32) (mupper : Int64) (mlower : Int64) (mfinding : Int32) (mreadGuests : Int32) (misSight : Int32) (mat : Int32) (mrowSizes : Nat → Int32) (mrows : Nat → Int32) (mtextSizes : Nat → Int32) (mtexts : Nat → Int32) (mdoes : Nat → Int32) (mkinds : Nat → Int32) (msees : Nat → Int32) (mnow : Nat → Int32) (mbefore : Nat → Int32) (mkeeps : Nat → Int32) (mkept : Nat → Int32) (mfindings : Nat → Int32) (mread : Nat → Int32) (maside : Nat → Int32) (msteps : Nat → Int32) (mtried : Nat → Int32) (mbest : Nat → Int32) (r : Int32) (h : fX6_finding F mfinding = some (r)) : Met l yX6_finding wsX6_finding ({ frames := 0, cells := 0, slots := 0, locals := 0 } : Room) (va_Pc [.ref (am 0)] (fun U => va_P D vwCl (wMo T am mguests mclause mdeeds masked mupper mlower mfinding mreadGuests misSight mat mrowSizes mrows mtextSizes mtexts mdoes mkinds msees mnow mbefore mkeeps mkept mfindings mread maside msteps mtried mbest) U.heap ∧ KK D T U)) (vp_Si (fun r' => r' = r)) 0 0 (fun _ => False) := by
  refine Met.ofW (cc := cX6_finding) (maxL := 1) (ret := some .int) (by decide) rfl ?_
  intro p e s m args below meth c s₁ B hml hv
  obtain ⟨ha, hP, hKK⟩ := hv
  have hx := B.exec
  have hb := B.bytes
  have hr := B.returns
  have hts := atoms_spec (ws := wsX6_finding) B.pre
  have hown : s.vm.findClass RX6 = some m.cls := findClass_of_methodNamed B.named
  have hlocks := B.notSynchronized
  have hK := hKK.1
  have hFix : CallFix p m c cX6_finding 1 s args wsX6_finding RX6 := ⟨hx, hb, hml, hown, hts⟩
  have q1 := hts _ (List.mem_of_getElem? (i := 1) (show wsX6_finding[1]? = some (Cond.fieldLink RX6 66 "PartyWillModel" "finding" "I") from rfl))
  have iX6 : ∀ w ∈ u_ws RX6 TX6 27, w ∈ wsX6_finding := fun w h => List.mem_cons_of_mem _ (List.mem_append_right _ (h))
  obtain ⟨ls, hl, e0⟩ := my_entry (m := m) (n := 1) ha (Nat.le_of_ble_eq_true rfl)
  rw [e0]
  have hl : lv_has ls 1 [(0, .ref (am 0))] := hl
  have key : ∀ Q : State → Prop, (∀ (pc : Nat) (ls : Array Slot), decode cX6_finding pc = .ok (.ireturn, 1) → W p l e ({ frames := 0, cells := 0, slots := 0, locals := 0 } : Room) s m args below meth c s.heap [] 0 0 Q (F0 m pc ls [.int r])) → W p l e ({ frames := 0, cells := 0, slots := 0, locals := 0 } : Room) s m args below meth c s.heap [] 0 0 Q (F0 m 0 ls []) := by
    intro Q hret
    unfold fX6_finding at h
    refine lv_aload_n hx hb dX6_finding_0 rfl (lv_at hl 0 rfl) ?_
    refine va_get (D := D) (ci := 4) (C := RX6) (T := TX6) (N := 27) hx hb hts iX6 hown hK hP 0 wMo_0 rfl 17 (by decide) q1 (fun _ h9 => h9) rfl dX6_finding_1 ?_
    cases h
    exact hret _ _ dX6_finding_4
  exact key _ (fun pc ls hd => W.iret hx hb hr (fun t ht hW => ⟨_, rfl, rfl, ht⟩) (fun q h => by cases h) hd)
set_option maxHeartbeats 4000000 in
set_option maxRecDepth 100000 in
theorem kX6_findings (l : Launch) (D : va_G) (T : Nat → ClassId) (F : Nat) (am : Nat → Nat) (mguests : Int32) (mclause : Int32) (mdeeds : Int32) (masked : Int32) (mupper : Int64) (mlower : Int64) (mfinding : Int32) (mreadGuests : Int32) (misSight : Int32) (mat : Int32) (mrowSizes : Nat → Int32) (mrows : Nat → Int32) (mtextSizes : Nat → Int32) (mtexts : Nat → Int32) (mdoes : Nat → Int32) (mkinds : Nat → Int32) (msees : Nat → Int32) (mnow : Nat → Int32) (mbefore : Nat → Int32) (mkeeps : Nat → Int32) (mkept : Nat → Int32) (mfindings : Nat → Int32) (mread : Nat → Int32) (maside : Nat → Int32) (msteps : Nat → Int32) (mtried : Nat → Int32) (mbest : Nat → Int32) (x1 : Int32) (r : Int32) (h : fX6_findings F mfindings x1 = some (r)) : Met l yX6_findings wsX6_findings ({ frames := 1, cells := 0, slots := 0, locals := 25 } : Room) (va_Pc [.ref (am 0), .int x1] (fun U => va_P D vwCl (wMo T am mguests mclause mdeeds masked mupper mlower mfinding mreadGuests misSight mat mrowSizes mrows mtextSizes mtexts mdoes mkinds msees mnow mbefore mkeeps mkept mfindings mread maside msteps mtried mbest) U.heap ∧ KK D T U)) (vp_Si (fun r' => r' = r)) 0 0 (fun _ => False) := by
  refine Met.ofW (cc := cX6_findings) (maxL := 2) (ret := some .int) (by decide) rfl ?_
  intro p e s m args below meth c s₁ B hml hv
  obtain ⟨ha, hP, hKK⟩ := hv
  have hx := B.exec
  have hb := B.bytes
  have hr := B.returns
  have hts := atoms_spec (ws := wsX6_findings) B.pre
  have hown : s.vm.findClass RX6 = some m.cls := findClass_of_methodNamed B.named
  have hlocks := B.notSynchronized
  have hK := hKK.1
  have hFix : CallFix p m c cX6_findings 2 s args wsX6_findings RX6 := ⟨hx, hb, hml, hown, hts⟩
  have q1 := hts _ (List.mem_of_getElem? (i := 1) (show wsX6_findings[1]? = some (Cond.constantLong RX6 73 (5)) from rfl))
  have q2 := hts _ (List.mem_of_getElem? (i := 2) (show wsX6_findings[2]? = some (Cond.fieldLink RX6 48 "PartyWillModel" "findings" "[I") from rfl))
  have iX6 : ∀ w ∈ u_ws RX6 TX6 27, w ∈ wsX6_findings := fun w h => List.mem_cons_of_mem _ (List.mem_append_right _ (h))
  obtain ⟨ls, hl, e0⟩ := my_entry (m := m) (n := 2) ha (Nat.le_of_ble_eq_true rfl)
  rw [e0]
  have hl : lv_has ls 2 [(0, .ref (am 0)), (1, .int x1)] := hl
  have key : ∀ Q : State → Prop, (∀ (pc : Nat) (ls : Array Slot), decode cX6_findings pc = .ok (.ireturn, 1) → W p l e ({ frames := 1, cells := 0, slots := 0, locals := 25 } : Room) s m args below meth c s.heap [] 0 0 Q (F0 m pc ls [.int r])) → W p l e ({ frames := 1, cells := 0, slots := 0, locals := 25 } : Room) s m args below meth c s.heap [] 0 0 Q (F0 m 0 ls []) := by
    intro Q hret
    unfold fX6_findings at h
    refine lv_iload_n hx hb dX6_findings_0 rfl (lv_at hl 1 rfl) ?_
    refine lv_i2l (v := (x1.toInt64)) hx hb dX6_findings_1 rfl ?_
    refine lv_lconst (v := (1 : Int64)) hx hb dX6_findings_2 (by decide) ?_
    refine lv_ldc2 (v := (5 : Int64)) hx hb hown q1 dX6_findings_3 ?_
    obtain ⟨r6, hc, h⟩ := bd1_some h
    refine my_roz (va_Run.run (va_runS (As := [.long (x1.toInt64), .long (1 : Int64), .long (5 : Int64)]) (rest := []) hFix (kX6_in l D T F (x1.toInt64) (1 : Int64) (5 : Int64) r6 hc) (va_cwS 3 hts gX6_findings_X6_in rfl rfl rfl hd_X6_in ⟨Nat.le_of_ble_eq_true rfl, Nat.le_of_ble_eq_true rfl⟩) (preS_ro va_nil hKK) rfl rfl hl.1 rfl (lv_room (Nat.le_of_ble_eq_true rfl)) dX6_findings_6 ⟨Nat.zero_le _, Nat.zero_le _⟩)) (fun hb6 => ?_)
    refine lv_if_eq (tgt := 21) hx hb dX6_findings_9 (by decide) (fun c9 => ?_) (fun c9 => ?_)
    · have h := br_1 h c9
      refine lv_iconst (v := (-1 : Int32)) hx hb dX6_findings_21 (by decide) ?_
      cases h
      exact hret _ _ dX6_findings_22
    · have h := br_0 h c9
      refine lv_aload_n hx hb dX6_findings_12 rfl (lv_at hl 0 rfl) ?_
      refine va_get (D := D) (ci := 4) (C := RX6) (T := TX6) (N := 27) hx hb hts iX6 hown hK hP 0 wMo_0 rfl 18 (by decide) q2 (fun _ h9 => h9) rfl dX6_findings_13 ?_
      refine lv_iload_n hx hb dX6_findings_16 rfl (lv_at hl 1 rfl) ?_
      obtain ⟨hin1, h⟩ := ck_some h
      refine va_iald hx hb hK hP 12 0 wMo_12 rfl hin1 dX6_findings_17 ?_
      refine lv_goto (tgt := 22) hx hb dX6_findings_18 (by decide) ?_
      cases h
      exact hret _ _ dX6_findings_22
  exact key _ (fun pc ls hd => W.iret hx hb hr (fun t ht hW => ⟨_, rfl, rfl, ht⟩) (fun q h => by cases h) hd)
