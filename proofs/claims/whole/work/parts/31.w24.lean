set_option maxHeartbeats 4000000 in
set_option maxRecDepth 100000 in
theorem kX6_markOf (l : Launch) (D : va_G) (T : Nat → ClassId) (F : Nat) (am : Nat → Nat) (mguests : Int32) (mclause : Int32) (mdeeds : Int32) (masked : Int32) (mupper : Int64) (mlower : Int64) (mfinding : Int32) (mreadGuests : Int32) (misSight : Int32) (mat : Int32) (mrowSizes : Nat → Int32) (mrows : Nat → Int32) (mtextSizes : Nat → Int32) (mtexts : Nat → Int32) (mdoes : Nat → Int32) (mkinds : Nat → Int32) (msees : Nat → Int32) (mnow : Nat → Int32) (mbefore : Nat → Int32) (mkeeps : Nat → Int32) (mkept : Nat → Int32) (mfindings : Nat → Int32) (mread : Nat → Int32) (maside : Nat → Int32) (msteps : Nat → Int32) (mtried : Nat → Int32) (mbest : Nat → Int32) (x1 : Int32) (x2 : Int32) (r : Int32) (h : fX6_markOf F mguests mclause mdoes mkinds msees mnow x1 x2 = some (r)) : Met l yX6_markOf wsX6_markOf ({ frames := 2, cells := 0, slots := 0, locals := 45 } : Room) (va_Pc [.ref (am 0), .int x1, .int x2] (fun U => va_P D vwCl (wMo T am mguests mclause mdeeds masked mupper mlower mfinding mreadGuests misSight mat mrowSizes mrows mtextSizes mtexts mdoes mkinds msees mnow mbefore mkeeps mkept mfindings mread maside msteps mtried mbest) U.heap ∧ KK D T U)) (vp_Si (fun r' => r' = r)) 0 0 (fun _ => False) := by
  refine Met.ofW (cc := cX6_markOf) (maxL := 6) (ret := some .int) (by decide) rfl ?_
  intro p e s m args below meth c s₁ B hml hv
  obtain ⟨ha, hP, hKK⟩ := hv
  have hx := B.exec
  have hb := B.bytes
  have hr := B.returns
  have hts := atoms_spec (ws := wsX6_markOf) B.pre
  have hown : s.vm.findClass RX6 = some m.cls := findClass_of_methodNamed B.named
  have hlocks := B.notSynchronized
  have hK := hKK.1
  have hFix : CallFix p m c cX6_markOf 6 s args wsX6_markOf RX6 := ⟨hx, hb, hml, hown, hts⟩
  have q1 := hts _ (List.mem_of_getElem? (i := 1) (show wsX6_markOf[1]? = some (Cond.fieldLink RX6 25 "PartyWillModel" "kinds" "[I") from rfl))
  have q2 := hts _ (List.mem_of_getElem? (i := 2) (show wsX6_markOf[2]? = some (Cond.fieldLink RX6 31 "PartyWillModel" "now" "[I") from rfl))
  have q3 := hts _ (List.mem_of_getElem? (i := 3) (show wsX6_markOf[3]? = some (Cond.fieldLink RX6 22 "PartyWillModel" "does" "[I") from rfl))
  have q4 := hts _ (List.mem_of_getElem? (i := 4) (show wsX6_markOf[4]? = some (Cond.fieldLink RX6 134 "PartyWillModel" "clause" "I") from rfl))
  have q5 := hts _ (List.mem_of_getElem? (i := 5) (show wsX6_markOf[5]? = some (Cond.fieldLink RX6 131 "PartyWillModel" "guests" "I") from rfl))
  have q6 := hts _ (List.mem_of_getElem? (i := 6) (show wsX6_markOf[6]? = some (Cond.fieldLink RX6 28 "PartyWillModel" "sees" "[I") from rfl))
  have iX6 : ∀ w ∈ u_ws RX6 TX6 27, w ∈ wsX6_markOf := fun w h => List.mem_cons_of_mem _ (List.mem_append_right _ (h))
  obtain ⟨ls, hl, e0⟩ := my_entry (m := m) (n := 6) ha (Nat.le_of_ble_eq_true rfl)
  rw [e0]
  have hl : lv_has ls 6 [(0, .ref (am 0)), (1, .int x1), (2, .int x2)] := hl
  have key : ∀ Q : State → Prop, (∀ (pc : Nat) (ls : Array Slot), decode cX6_markOf pc = .ok (.ireturn, 1) → W p l e ({ frames := 2, cells := 0, slots := 0, locals := 45 } : Room) s m args below meth c s.heap [] 0 0 Q (F0 m pc ls [.int r])) → W p l e ({ frames := 2, cells := 0, slots := 0, locals := 45 } : Room) s m args below meth c s.heap [] 0 0 Q (F0 m 0 ls []) := by
    intro Q hret
    have l231 : ∀ x1 : Int32, ∀ nu : Nat, ∀ x3 : Int32, ∀ x4 : Int32, fX6_markOf_l231 F mguests mclause mdoes mkinds msees mnow x1 nu x3 x4 = some (r) → ∀ (ls : Array Slot), lv_has ls 6 [(0, .ref (am 0)), (1, .int x1), (3, .int x3), (4, .int x4)] → W p l e ({ frames := 2, cells := 0, slots := 0, locals := 45 } : Room) s m args below meth c s.heap [] 0 0 Q (F0 m 231 ls []) := by
      intro x1
      intro nu
      induction nu with
      | zero => intro x3 x4 h; exact none_some h
      | succ nu231 ih231 =>
        intro x3 x4 h ls hl
        have h : fX6_markOf_l231_b F mguests mclause mdoes mkinds msees mnow x1 (fX6_markOf_l231 F mguests mclause mdoes mkinds msees mnow x1 nu231) x3 x4 = some (r) := h
        unfold fX6_markOf_l231_b at h
        refine lv_iload hx hb dX6_markOf_231 (lv_at hl 3 rfl) ?_
        refine lv_aload_n hx hb dX6_markOf_233 rfl (lv_at hl 0 rfl) ?_
        refine va_get (D := D) (ci := 4) (C := RX6) (T := TX6) (N := 27) hx hb hts iX6 hown hK hP 0 wMo_0 rfl 4 (by decide) q5 (fun _ h9 => h9) rfl dX6_markOf_234 ?_
        refine lv_icmp_ge (tgt := 284) hx hb dX6_markOf_237 (by decide) (fun c237 => ?_) (fun c237 => ?_)
        · have h := br_1 h c237
          refine lv_iload_n hx hb dX6_markOf_284 rfl (lv_at hl 2 rfl) ?_
          cases h
          exact hret _ _ dX6_markOf_285
        · have h := br_0 h c237
          refine lv_iload_n hx hb dX6_markOf_240 rfl (lv_at hl 2 rfl) ?_
          refine lv_aload_n hx hb dX6_markOf_241 rfl (lv_at hl 0 rfl) ?_
          refine va_get (D := D) (ci := 4) (C := RX6) (T := TX6) (N := 27) hx hb hts iX6 hown hK hP 0 wMo_0 rfl 8 (by decide) q6 (fun _ h9 => h9) rfl dX6_markOf_242 ?_
          refine lv_iload_n hx hb dX6_markOf_245 rfl (lv_at hl 1 rfl) ?_
          obtain ⟨hin1, h⟩ := ck_some h
          refine va_iald hx hb hK hP 7 0 wMo_7 rfl hin1 dX6_markOf_246 ?_
          refine lv_iload hx hb dX6_markOf_247 (lv_at hl 3 rfl) ?_
          obtain ⟨r249, hc, h⟩ := bd1_some h
          refine my_roz (va_Run.run (va_runS (As := [.int (msees x1.toNatClampNeg), .int x4]) (rest := [.int x3]) hFix (kX6_has l D T F (msees x1.toNatClampNeg) x4 r249 hc) (va_cwS 2 hts gX6_markOf_X6_has rfl rfl rfl hd_X6_has ⟨Nat.le_of_ble_eq_true rfl, Nat.le_of_ble_eq_true rfl⟩) (preS_ro va_nil hKK) rfl rfl hl.1 rfl (lv_room (Nat.le_of_ble_eq_true rfl)) dX6_markOf_249 ⟨Nat.zero_le _, Nat.zero_le _⟩)) (fun hb249 => ?_)
          refine lv_if_eq (tgt := 275) hx hb dX6_markOf_252 (by decide) (fun c252 => ?_) (fun c252 => ?_)
          · have h := br_1 h c252
            refine lv_iconst (v := (0 : Int32)) hx hb dX6_markOf_275 (by decide) ?_
            refine lv_iadd hx hb dX6_markOf_276 ?_
            refine lv_istore_n (lv' := [(3, .int (x3 + (0 : Int32))), (0, .ref (am 0)), (1, .int x1), (4, .int x4)]) hx hb dX6_markOf_277 rfl hl (by decide) rfl (fun ls hl => ?_)
            refine lv_iinc (v := (x4 + (1 : Int32))) (lv' := [(4, .int (x4 + (1 : Int32))), (3, .int (x3 + (0 : Int32))), (0, .ref (am 0)), (1, .int x1)]) hx hb dX6_markOf_278 hl (k := 3) rfl rfl (by decide) rfl (fun ls hl => ?_)
            refine lv_goto (tgt := 231) hx hb dX6_markOf_281 (by decide) ?_
            exact ih231 (x3 + (0 : Int32)) (x4 + (1 : Int32)) h _ (lv_sub hl [2, 3, 1, 0] rfl)
          · have h := br_0 h c252
            refine lv_aload_n hx hb dX6_markOf_255 rfl (lv_at hl 0 rfl) ?_
            refine va_get (D := D) (ci := 4) (C := RX6) (T := TX6) (N := 27) hx hb hts iX6 hown hK hP 0 wMo_0 rfl 9 (by decide) q2 (fun _ h9 => h9) rfl dX6_markOf_256 ?_
            refine lv_iload hx hb dX6_markOf_259 (lv_at hl 3 rfl) ?_
            obtain ⟨hin2, h⟩ := ck_some h
            refine va_iald hx hb hK hP 8 0 wMo_8 rfl hin2 dX6_markOf_261 ?_
            refine lv_aload_n hx hb dX6_markOf_262 rfl (lv_at hl 0 rfl) ?_
            refine va_get (D := D) (ci := 4) (C := RX6) (T := TX6) (N := 27) hx hb hts iX6 hown hK hP 0 wMo_0 rfl 5 (by decide) q4 (fun _ h9 => h9) rfl dX6_markOf_263 ?_
            refine lv_iconst (v := (3 : Int32)) hx hb dX6_markOf_266 (by decide) ?_
            refine lv_isub hx hb dX6_markOf_267 ?_
            refine lv_icmp_le (tgt := 275) hx hb dX6_markOf_268 (by decide) (fun c268 => ?_) (fun c268 => ?_)
            · have h := br_1 h c268
              refine lv_iconst (v := (0 : Int32)) hx hb dX6_markOf_275 (by decide) ?_
              refine lv_iadd hx hb dX6_markOf_276 ?_
              refine lv_istore_n (lv' := [(3, .int (x3 + (0 : Int32))), (0, .ref (am 0)), (1, .int x1), (4, .int x4)]) hx hb dX6_markOf_277 rfl hl (by decide) rfl (fun ls hl => ?_)
              refine lv_iinc (v := (x4 + (1 : Int32))) (lv' := [(4, .int (x4 + (1 : Int32))), (3, .int (x3 + (0 : Int32))), (0, .ref (am 0)), (1, .int x1)]) hx hb dX6_markOf_278 hl (k := 3) rfl rfl (by decide) rfl (fun ls hl => ?_)
              refine lv_goto (tgt := 231) hx hb dX6_markOf_281 (by decide) ?_
              exact ih231 (x3 + (0 : Int32)) (x4 + (1 : Int32)) h _ (lv_sub hl [2, 3, 1, 0] rfl)
            · have h := br_0 h c268
              refine lv_iconst (v := (1 : Int32)) hx hb dX6_markOf_271 (by decide) ?_
              refine lv_goto (tgt := 276) hx hb dX6_markOf_272 (by decide) ?_
              refine lv_iadd hx hb dX6_markOf_276 ?_
              refine lv_istore_n (lv' := [(3, .int (x3 + (1 : Int32))), (0, .ref (am 0)), (1, .int x1), (4, .int x4)]) hx hb dX6_markOf_277 rfl hl (by decide) rfl (fun ls hl => ?_)
              refine lv_iinc (v := (x4 + (1 : Int32))) (lv' := [(4, .int (x4 + (1 : Int32))), (3, .int (x3 + (1 : Int32))), (0, .ref (am 0)), (1, .int x1)]) hx hb dX6_markOf_278 hl (k := 3) rfl rfl (by decide) rfl (fun ls hl => ?_)
              refine lv_goto (tgt := 231) hx hb dX6_markOf_281 (by decide) ?_
              exact ih231 (x3 + (1 : Int32)) (x4 + (1 : Int32)) h _ (lv_sub hl [2, 3, 1, 0] rfl)
    have l35 : ∀ x1 : Int32, ∀ nu : Nat, ∀ x3 : Int32, ∀ x4 : Int32, fX6_markOf_l35 F mguests mclause mdoes mkinds msees mnow x1 nu x3 x4 = some (r) → ∀ (ls : Array Slot), lv_has ls 6 [(0, .ref (am 0)), (1, .int x1), (3, .int x3), (4, .int x4)] → W p l e ({ frames := 2, cells := 0, slots := 0, locals := 45 } : Room) s m args below meth c s.heap [] 0 0 Q (F0 m 35 ls []) := by
      intro x1
      intro nu
      induction nu with
      | zero => intro x3 x4 h; exact none_some h
      | succ nu35 ih35 =>
        intro x3 x4 h ls hl
        have h : fX6_markOf_l35_b F mguests mclause mdoes mkinds msees mnow x1 (fX6_markOf_l35 F mguests mclause mdoes mkinds msees mnow x1 nu35) x3 x4 = some (r) := h
        unfold fX6_markOf_l35_b at h
        refine lv_iload hx hb dX6_markOf_35 (lv_at hl 3 rfl) ?_
        refine lv_iconst (v := (4 : Int32)) hx hb dX6_markOf_37 (by decide) ?_
        refine lv_icmp_ge (tgt := 88) hx hb dX6_markOf_38 (by decide) (fun c38 => ?_) (fun c38 => ?_)
        · have h := br_1 h c38
          refine lv_iload_n hx hb dX6_markOf_88 rfl (lv_at hl 2 rfl) ?_
          cases h
          exact hret _ _ dX6_markOf_89
        · have h := br_0 h c38
          refine lv_iload_n hx hb dX6_markOf_41 rfl (lv_at hl 2 rfl) ?_
          refine lv_aload_n hx hb dX6_markOf_42 rfl (lv_at hl 0 rfl) ?_
          refine va_get (D := D) (ci := 4) (C := RX6) (T := TX6) (N := 27) hx hb hts iX6 hown hK hP 0 wMo_0 rfl 7 (by decide) q1 (fun _ h9 => h9) rfl dX6_markOf_43 ?_
          refine lv_iload_n hx hb dX6_markOf_46 rfl (lv_at hl 1 rfl) ?_
          obtain ⟨hin3, h⟩ := ck_some h
          refine va_iald hx hb hK hP 6 0 wMo_6 rfl hin3 dX6_markOf_47 ?_
          refine lv_aload_n hx hb dX6_markOf_48 rfl (lv_at hl 0 rfl) ?_
          refine va_get (D := D) (ci := 4) (C := RX6) (T := TX6) (N := 27) hx hb hts iX6 hown hK hP 0 wMo_0 rfl 9 (by decide) q2 (fun _ h9 => h9) rfl dX6_markOf_49 ?_
          refine lv_iload_n hx hb dX6_markOf_52 rfl (lv_at hl 1 rfl) ?_
          obtain ⟨hin4, h⟩ := ck_some h
          refine va_iald hx hb hK hP 8 0 wMo_8 rfl hin4 dX6_markOf_53 ?_
          refine lv_iload hx hb dX6_markOf_54 (lv_at hl 3 rfl) ?_
          refine lv_aload_n hx hb dX6_markOf_56 rfl (lv_at hl 0 rfl) ?_
          refine va_get (D := D) (ci := 4) (C := RX6) (T := TX6) (N := 27) hx hb hts iX6 hown hK hP 0 wMo_0 rfl 6 (by decide) q3 (fun _ h9 => h9) rfl dX6_markOf_57 ?_
          refine lv_iload hx hb dX6_markOf_60 (lv_at hl 3 rfl) ?_
          obtain ⟨hin5, h⟩ := ck_some h
          refine va_iald hx hb hK hP 5 0 wMo_5 rfl hin5 dX6_markOf_62 ?_
          obtain ⟨r63, hc, h⟩ := bd1_some h
          refine my_roi (va_Run.run (va_runS (As := [.int (mkinds x1.toNatClampNeg), .int (mnow x1.toNatClampNeg), .int x4, .int (mdoes x4.toNatClampNeg)]) (rest := [.int x3]) hFix (kX6_griefBehind l D T F (mkinds x1.toNatClampNeg) (mnow x1.toNatClampNeg) x4 (mdoes x4.toNatClampNeg) r63 hc) (va_cwS 4 hts gX6_markOf_X6_griefBehind rfl rfl rfl hd_X6_griefBehind ⟨Nat.le_of_ble_eq_true rfl, Nat.le_of_ble_eq_true rfl⟩) (preS_ro va_nil hKK) rfl rfl hl.1 rfl (lv_room (Nat.le_of_ble_eq_true rfl)) dX6_markOf_63 ⟨Nat.zero_le _, Nat.zero_le _⟩)) ?_
          refine lv_aload_n hx hb dX6_markOf_66 rfl (lv_at hl 0 rfl) ?_
          refine va_get (D := D) (ci := 4) (C := RX6) (T := TX6) (N := 27) hx hb hts iX6 hown hK hP 0 wMo_0 rfl 9 (by decide) q2 (fun _ h9 => h9) rfl dX6_markOf_67 ?_
          refine lv_iload_n hx hb dX6_markOf_70 rfl (lv_at hl 1 rfl) ?_
          obtain ⟨hin6, h⟩ := ck_some h
          refine va_iald hx hb hK hP 8 0 wMo_8 rfl hin6 dX6_markOf_71 ?_
          refine lv_icmp_ge (tgt := 79) hx hb dX6_markOf_72 (by decide) (fun c72 => ?_) (fun c72 => ?_)
          · have h := br_1 h c72
            refine lv_iconst (v := (0 : Int32)) hx hb dX6_markOf_79 (by decide) ?_
            refine lv_iadd hx hb dX6_markOf_80 ?_
            refine lv_istore_n (lv' := [(3, .int (x3 + (0 : Int32))), (0, .ref (am 0)), (1, .int x1), (4, .int x4)]) hx hb dX6_markOf_81 rfl hl (by decide) rfl (fun ls hl => ?_)
            refine lv_iinc (v := (x4 + (1 : Int32))) (lv' := [(4, .int (x4 + (1 : Int32))), (3, .int (x3 + (0 : Int32))), (0, .ref (am 0)), (1, .int x1)]) hx hb dX6_markOf_82 hl (k := 3) rfl rfl (by decide) rfl (fun ls hl => ?_)
            refine lv_goto (tgt := 35) hx hb dX6_markOf_85 (by decide) ?_
            exact ih35 (x3 + (0 : Int32)) (x4 + (1 : Int32)) h _ (lv_sub hl [2, 3, 1, 0] rfl)
          · have h := br_0 h c72
            refine lv_iconst (v := (1 : Int32)) hx hb dX6_markOf_75 (by decide) ?_
            refine lv_goto (tgt := 80) hx hb dX6_markOf_76 (by decide) ?_
            refine lv_iadd hx hb dX6_markOf_80 ?_
            refine lv_istore_n (lv' := [(3, .int (x3 + (1 : Int32))), (0, .ref (am 0)), (1, .int x1), (4, .int x4)]) hx hb dX6_markOf_81 rfl hl (by decide) rfl (fun ls hl => ?_)
            refine lv_iinc (v := (x4 + (1 : Int32))) (lv' := [(4, .int (x4 + (1 : Int32))), (3, .int (x3 + (1 : Int32))), (0, .ref (am 0)), (1, .int x1)]) hx hb dX6_markOf_82 hl (k := 3) rfl rfl (by decide) rfl (fun ls hl => ?_)
            refine lv_goto (tgt := 35) hx hb dX6_markOf_85 (by decide) ?_
            exact ih35 (x3 + (1 : Int32)) (x4 + (1 : Int32)) h _ (lv_sub hl [2, 3, 1, 0] rfl)
    have l93 : ∀ x1 : Int32, ∀ nu : Nat, ∀ x3 : Int32, ∀ x4 : Int32, fX6_markOf_l93 F mguests mclause mdoes mkinds msees mnow x1 nu x3 x4 = some (r) → ∀ (ls : Array Slot), lv_has ls 6 [(0, .ref (am 0)), (1, .int x1), (3, .int x3), (4, .int x4)] → W p l e ({ frames := 2, cells := 0, slots := 0, locals := 45 } : Room) s m args below meth c s.heap [] 0 0 Q (F0 m 93 ls []) := by
      intro x1
      intro nu
      induction nu with
      | zero => intro x3 x4 h; exact none_some h
      | succ nu93 ih93 =>
        intro x3 x4 h ls hl
        have h : fX6_markOf_l93_b F mguests mclause mdoes mkinds msees mnow x1 (fX6_markOf_l93 F mguests mclause mdoes mkinds msees mnow x1 nu93) x3 x4 = some (r) := h
        unfold fX6_markOf_l93_b at h
        refine lv_iload hx hb dX6_markOf_93 (lv_at hl 3 rfl) ?_
        refine lv_iconst (v := (4 : Int32)) hx hb dX6_markOf_95 (by decide) ?_
        refine lv_icmp_ge (tgt := 151) hx hb dX6_markOf_96 (by decide) (fun c96 => ?_) (fun c96 => ?_)
        · have h := br_1 h c96
          refine lv_iload_n hx hb dX6_markOf_151 rfl (lv_at hl 2 rfl) ?_
          cases h
          exact hret _ _ dX6_markOf_152
        · have h := br_0 h c96
          refine lv_aload_n hx hb dX6_markOf_99 rfl (lv_at hl 0 rfl) ?_
          refine va_get (D := D) (ci := 4) (C := RX6) (T := TX6) (N := 27) hx hb hts iX6 hown hK hP 0 wMo_0 rfl 7 (by decide) q1 (fun _ h9 => h9) rfl dX6_markOf_100 ?_
          refine lv_iload_n hx hb dX6_markOf_103 rfl (lv_at hl 1 rfl) ?_
          obtain ⟨hin7, h⟩ := ck_some h
          refine va_iald hx hb hK hP 6 0 wMo_6 rfl hin7 dX6_markOf_104 ?_
          refine lv_aload_n hx hb dX6_markOf_105 rfl (lv_at hl 0 rfl) ?_
          refine va_get (D := D) (ci := 4) (C := RX6) (T := TX6) (N := 27) hx hb hts iX6 hown hK hP 0 wMo_0 rfl 9 (by decide) q2 (fun _ h9 => h9) rfl dX6_markOf_106 ?_
          refine lv_iload_n hx hb dX6_markOf_109 rfl (lv_at hl 1 rfl) ?_
          obtain ⟨hin8, h⟩ := ck_some h
          refine va_iald hx hb hK hP 8 0 wMo_8 rfl hin8 dX6_markOf_110 ?_
          refine lv_iload hx hb dX6_markOf_111 (lv_at hl 3 rfl) ?_
          refine lv_aload_n hx hb dX6_markOf_113 rfl (lv_at hl 0 rfl) ?_
          refine va_get (D := D) (ci := 4) (C := RX6) (T := TX6) (N := 27) hx hb hts iX6 hown hK hP 0 wMo_0 rfl 6 (by decide) q3 (fun _ h9 => h9) rfl dX6_markOf_114 ?_
          refine lv_iload hx hb dX6_markOf_117 (lv_at hl 3 rfl) ?_
          obtain ⟨hin9, h⟩ := ck_some h
          refine va_iald hx hb hK hP 5 0 wMo_5 rfl hin9 dX6_markOf_119 ?_
          obtain ⟨r120, hc, h⟩ := bd1_some h
          refine my_roi (va_Run.run (va_runS (As := [.int (mkinds x1.toNatClampNeg), .int (mnow x1.toNatClampNeg), .int x4, .int (mdoes x4.toNatClampNeg)]) (rest := []) hFix (kX6_griefBehind l D T F (mkinds x1.toNatClampNeg) (mnow x1.toNatClampNeg) x4 (mdoes x4.toNatClampNeg) r120 hc) (va_cwS 4 hts gX6_markOf_X6_griefBehind rfl rfl rfl hd_X6_griefBehind ⟨Nat.le_of_ble_eq_true rfl, Nat.le_of_ble_eq_true rfl⟩) (preS_ro va_nil hKK) rfl rfl hl.1 rfl (lv_room (Nat.le_of_ble_eq_true rfl)) dX6_markOf_120 ⟨Nat.zero_le _, Nat.zero_le _⟩)) ?_
          refine lv_aload_n hx hb dX6_markOf_123 rfl (lv_at hl 0 rfl) ?_
          refine va_get (D := D) (ci := 4) (C := RX6) (T := TX6) (N := 27) hx hb hts iX6 hown hK hP 0 wMo_0 rfl 9 (by decide) q2 (fun _ h9 => h9) rfl dX6_markOf_124 ?_
          refine lv_iload_n hx hb dX6_markOf_127 rfl (lv_at hl 1 rfl) ?_
          obtain ⟨hin10, h⟩ := ck_some h
          refine va_iald hx hb hK hP 8 0 wMo_8 rfl hin10 dX6_markOf_128 ?_
          refine lv_isub hx hb dX6_markOf_129 ?_
          refine lv_istore (lv' := [(5, .int (r120 - (mnow x1.toNatClampNeg))), (0, .ref (am 0)), (1, .int x1), (3, .int x3), (4, .int x4)]) hx hb dX6_markOf_130 hl (by decide) rfl (fun ls hl => ?_)
          refine lv_iload hx hb dX6_markOf_132 (lv_at hl 0 rfl) ?_
          refine lv_iload_n hx hb dX6_markOf_134 rfl (lv_at hl 3 rfl) ?_
          refine lv_icmp_le (tgt := 143) hx hb dX6_markOf_135 (by decide) (fun c135 => ?_) (fun c135 => ?_)
          · have h := br_1 h c135
            refine lv_iload_n hx hb dX6_markOf_143 rfl (lv_at hl 3 rfl) ?_
            refine lv_istore_n (lv' := [(3, .int x3), (5, .int (r120 - (mnow x1.toNatClampNeg))), (0, .ref (am 0)), (1, .int x1), (4, .int x4)]) hx hb dX6_markOf_144 rfl hl (by decide) rfl (fun ls hl => ?_)
            refine lv_iinc (v := (x4 + (1 : Int32))) (lv' := [(4, .int (x4 + (1 : Int32))), (3, .int x3), (5, .int (r120 - (mnow x1.toNatClampNeg))), (0, .ref (am 0)), (1, .int x1)]) hx hb dX6_markOf_145 hl (k := 4) rfl rfl (by decide) rfl (fun ls hl => ?_)
            refine lv_goto (tgt := 93) hx hb dX6_markOf_148 (by decide) ?_
            exact ih93 x3 (x4 + (1 : Int32)) h _ (lv_sub hl [3, 4, 1, 0] rfl)
          · have h := br_0 h c135
            refine lv_iload hx hb dX6_markOf_138 (lv_at hl 0 rfl) ?_
            refine lv_goto (tgt := 144) hx hb dX6_markOf_140 (by decide) ?_
            refine lv_istore_n (lv' := [(3, .int (r120 - (mnow x1.toNatClampNeg))), (5, .int (r120 - (mnow x1.toNatClampNeg))), (0, .ref (am 0)), (1, .int x1), (4, .int x4)]) hx hb dX6_markOf_144 rfl hl (by decide) rfl (fun ls hl => ?_)
            refine lv_iinc (v := (x4 + (1 : Int32))) (lv' := [(4, .int (x4 + (1 : Int32))), (3, .int (r120 - (mnow x1.toNatClampNeg))), (5, .int (r120 - (mnow x1.toNatClampNeg))), (0, .ref (am 0)), (1, .int x1)]) hx hb dX6_markOf_145 hl (k := 4) rfl rfl (by decide) rfl (fun ls hl => ?_)
            refine lv_goto (tgt := 93) hx hb dX6_markOf_148 (by decide) ?_
            exact ih93 (r120 - (mnow x1.toNatClampNeg)) (x4 + (1 : Int32)) h _ (lv_sub hl [3, 4, 1, 0] rfl)
    have l187 : ∀ x1 : Int32, ∀ nu : Nat, ∀ x3 : Int32, ∀ x4 : Int32, fX6_markOf_l187 F mguests mclause mdoes mkinds msees mnow x1 nu x3 x4 = some (r) → ∀ (ls : Array Slot), lv_has ls 6 [(0, .ref (am 0)), (1, .int x1), (3, .int x3), (4, .int x4)] → W p l e ({ frames := 2, cells := 0, slots := 0, locals := 45 } : Room) s m args below meth c s.heap [] 0 0 Q (F0 m 187 ls []) := by
      intro x1
      intro nu
      induction nu with
      | zero => intro x3 x4 h; exact none_some h
      | succ nu187 ih187 =>
        intro x3 x4 h ls hl
        have h : fX6_markOf_l187_b F mguests mclause mdoes mkinds msees mnow x1 (fX6_markOf_l187 F mguests mclause mdoes mkinds msees mnow x1 nu187) x3 x4 = some (r) := h
        unfold fX6_markOf_l187_b at h
        refine lv_iload hx hb dX6_markOf_187 (lv_at hl 3 rfl) ?_
        refine lv_aload_n hx hb dX6_markOf_189 rfl (lv_at hl 0 rfl) ?_
        refine va_get (D := D) (ci := 4) (C := RX6) (T := TX6) (N := 27) hx hb hts iX6 hown hK hP 0 wMo_0 rfl 4 (by decide) q5 (fun _ h9 => h9) rfl dX6_markOf_190 ?_
        refine lv_icmp_ge (tgt := 226) hx hb dX6_markOf_193 (by decide) (fun c193 => ?_) (fun c193 => ?_)
        · have h := br_1 h c193
          refine lv_iload_n hx hb dX6_markOf_226 rfl (lv_at hl 2 rfl) ?_
          cases h
          exact hret _ _ dX6_markOf_227
        · have h := br_0 h c193
          refine lv_iload_n hx hb dX6_markOf_196 rfl (lv_at hl 2 rfl) ?_
          refine lv_aload_n hx hb dX6_markOf_197 rfl (lv_at hl 0 rfl) ?_
          refine va_get (D := D) (ci := 4) (C := RX6) (T := TX6) (N := 27) hx hb hts iX6 hown hK hP 0 wMo_0 rfl 9 (by decide) q2 (fun _ h9 => h9) rfl dX6_markOf_198 ?_
          refine lv_iload hx hb dX6_markOf_201 (lv_at hl 3 rfl) ?_
          obtain ⟨hin11, h⟩ := ck_some h
          refine va_iald hx hb hK hP 8 0 wMo_8 rfl hin11 dX6_markOf_203 ?_
          refine lv_aload_n hx hb dX6_markOf_204 rfl (lv_at hl 0 rfl) ?_
          refine va_get (D := D) (ci := 4) (C := RX6) (T := TX6) (N := 27) hx hb hts iX6 hown hK hP 0 wMo_0 rfl 9 (by decide) q2 (fun _ h9 => h9) rfl dX6_markOf_205 ?_
          refine lv_iload_n hx hb dX6_markOf_208 rfl (lv_at hl 1 rfl) ?_
          obtain ⟨hin12, h⟩ := ck_some h
          refine va_iald hx hb hK hP 8 0 wMo_8 rfl hin12 dX6_markOf_209 ?_
          refine lv_icmp_le (tgt := 217) hx hb dX6_markOf_210 (by decide) (fun c210 => ?_) (fun c210 => ?_)
          · have h := br_1 h c210
            refine lv_iconst (v := (0 : Int32)) hx hb dX6_markOf_217 (by decide) ?_
            refine lv_iadd hx hb dX6_markOf_218 ?_
            refine lv_istore_n (lv' := [(3, .int (x3 + (0 : Int32))), (0, .ref (am 0)), (1, .int x1), (4, .int x4)]) hx hb dX6_markOf_219 rfl hl (by decide) rfl (fun ls hl => ?_)
            refine lv_iinc (v := (x4 + (1 : Int32))) (lv' := [(4, .int (x4 + (1 : Int32))), (3, .int (x3 + (0 : Int32))), (0, .ref (am 0)), (1, .int x1)]) hx hb dX6_markOf_220 hl (k := 3) rfl rfl (by decide) rfl (fun ls hl => ?_)
            refine lv_goto (tgt := 187) hx hb dX6_markOf_223 (by decide) ?_
            exact ih187 (x3 + (0 : Int32)) (x4 + (1 : Int32)) h _ (lv_sub hl [2, 3, 1, 0] rfl)
          · have h := br_0 h c210
            refine lv_iconst (v := (1 : Int32)) hx hb dX6_markOf_213 (by decide) ?_
            refine lv_goto (tgt := 218) hx hb dX6_markOf_214 (by decide) ?_
            refine lv_iadd hx hb dX6_markOf_218 ?_
            refine lv_istore_n (lv' := [(3, .int (x3 + (1 : Int32))), (0, .ref (am 0)), (1, .int x1), (4, .int x4)]) hx hb dX6_markOf_219 rfl hl (by decide) rfl (fun ls hl => ?_)
            refine lv_iinc (v := (x4 + (1 : Int32))) (lv' := [(4, .int (x4 + (1 : Int32))), (3, .int (x3 + (1 : Int32))), (0, .ref (am 0)), (1, .int x1)]) hx hb dX6_markOf_220 hl (k := 3) rfl rfl (by decide) rfl (fun ls hl => ?_)
            refine lv_goto (tgt := 187) hx hb dX6_markOf_223 (by decide) ?_
            exact ih187 (x3 + (1 : Int32)) (x4 + (1 : Int32)) h _ (lv_sub hl [2, 3, 1, 0] rfl)
    unfold fX6_markOf at h
    refine lv_iconst (v := (0 : Int32)) hx hb dX6_markOf_0 (by decide) ?_
    refine lv_istore_n (lv' := [(3, .int (0 : Int32)), (0, .ref (am 0)), (1, .int x1), (2, .int x2)]) hx hb dX6_markOf_1 rfl hl (by decide) rfl (fun ls hl => ?_)
    refine lv_iload_n hx hb dX6_markOf_2 rfl (lv_at hl 3 rfl) ?_
    by_cases z3_0 : x2 = (1 : Int32)
    · have h := br_1 h z3_0
      refine lv_tableIn (tgt := 32) (off := 29) hx hb dX6_markOf_3 (by rw [z3_0]; decide) (by rw [z3_0]; decide) (by rw [z3_0]; decide) (by decide) ?_
      refine lv_iconst (v := (0 : Int32)) hx hb dX6_markOf_32 (by decide) ?_
      refine lv_istore (lv' := [(4, .int (0 : Int32)), (3, .int (0 : Int32)), (0, .ref (am 0)), (1, .int x1), (2, .int x2)]) hx hb dX6_markOf_33 hl (by decide) rfl (fun ls hl => ?_)
      exact l35 x1 F (0 : Int32) (0 : Int32) h _ (lv_sub hl [2, 3, 1, 0] rfl)
    have h := br_0 h z3_0
    by_cases z3_1 : x2 = (2 : Int32)
    · have h := br_1 h z3_1
      refine lv_tableIn (tgt := 90) (off := 87) hx hb dX6_markOf_3 (by rw [z3_1]; decide) (by rw [z3_1]; decide) (by rw [z3_1]; decide) (by decide) ?_
      refine lv_iconst (v := (0 : Int32)) hx hb dX6_markOf_90 (by decide) ?_
      refine lv_istore (lv' := [(4, .int (0 : Int32)), (3, .int (0 : Int32)), (0, .ref (am 0)), (1, .int x1), (2, .int x2)]) hx hb dX6_markOf_91 hl (by decide) rfl (fun ls hl => ?_)
      exact l93 x1 F (0 : Int32) (0 : Int32) h _ (lv_sub hl [2, 3, 1, 0] rfl)
    have h := br_0 h z3_1
    by_cases z3_2 : x2 = (3 : Int32)
    · have h := br_1 h z3_2
      refine lv_tableIn (tgt := 153) (off := 150) hx hb dX6_markOf_3 (by rw [z3_2]; decide) (by rw [z3_2]; decide) (by rw [z3_2]; decide) (by decide) ?_
      refine lv_aload_n hx hb dX6_markOf_153 rfl (lv_at hl 1 rfl) ?_
      refine va_get (D := D) (ci := 4) (C := RX6) (T := TX6) (N := 27) hx hb hts iX6 hown hK hP 0 wMo_0 rfl 9 (by decide) q2 (fun _ h9 => h9) rfl dX6_markOf_154 ?_
      refine lv_iload_n hx hb dX6_markOf_157 rfl (lv_at hl 2 rfl) ?_
      obtain ⟨hin13, h⟩ := ck_some h
      refine va_iald hx hb hK hP 8 0 wMo_8 rfl hin13 dX6_markOf_158 ?_
      refine lv_aload_n hx hb dX6_markOf_159 rfl (lv_at hl 1 rfl) ?_
      refine va_get (D := D) (ci := 4) (C := RX6) (T := TX6) (N := 27) hx hb hts iX6 hown hK hP 0 wMo_0 rfl 5 (by decide) q4 (fun _ h9 => h9) rfl dX6_markOf_160 ?_
      refine lv_icmp_le (tgt := 170) hx hb dX6_markOf_163 (by decide) (fun c163 => ?_) (fun c163 => ?_)
      · have h := br_1 h c163
        refine lv_aload_n hx hb dX6_markOf_170 rfl (lv_at hl 1 rfl) ?_
        refine va_get (D := D) (ci := 4) (C := RX6) (T := TX6) (N := 27) hx hb hts iX6 hown hK hP 0 wMo_0 rfl 5 (by decide) q4 (fun _ h9 => h9) rfl dX6_markOf_171 ?_
        refine lv_aload_n hx hb dX6_markOf_174 rfl (lv_at hl 1 rfl) ?_
        refine va_get (D := D) (ci := 4) (C := RX6) (T := TX6) (N := 27) hx hb hts iX6 hown hK hP 0 wMo_0 rfl 9 (by decide) q2 (fun _ h9 => h9) rfl dX6_markOf_175 ?_
        refine lv_iload_n hx hb dX6_markOf_178 rfl (lv_at hl 2 rfl) ?_
        obtain ⟨hin14, h⟩ := ck_some h
        refine va_iald hx hb hK hP 8 0 wMo_8 rfl hin14 dX6_markOf_179 ?_
        refine lv_isub hx hb dX6_markOf_180 ?_
        refine lv_iconst (v := (4 : Int32)) hx hb dX6_markOf_181 (by decide) ?_
        refine lv_idiv hx hb dX6_markOf_182 (by decide) ?_
        cases h
        exact hret _ _ dX6_markOf_183
      · have h := br_0 h c163
        refine lv_iconst (v := (0 : Int32)) hx hb dX6_markOf_166 (by decide) ?_
        refine lv_goto (tgt := 183) hx hb dX6_markOf_167 (by decide) ?_
        cases h
        exact hret _ _ dX6_markOf_183
    have h := br_0 h z3_2
    by_cases z3_3 : x2 = (4 : Int32)
    · have h := br_1 h z3_3
      refine lv_tableIn (tgt := 184) (off := 181) hx hb dX6_markOf_3 (by rw [z3_3]; decide) (by rw [z3_3]; decide) (by rw [z3_3]; decide) (by decide) ?_
      refine lv_iconst (v := (0 : Int32)) hx hb dX6_markOf_184 (by decide) ?_
      refine lv_istore (lv' := [(4, .int (0 : Int32)), (3, .int (0 : Int32)), (0, .ref (am 0)), (1, .int x1), (2, .int x2)]) hx hb dX6_markOf_185 hl (by decide) rfl (fun ls hl => ?_)
      exact l187 x1 F (0 : Int32) (0 : Int32) h _ (lv_sub hl [2, 3, 1, 0] rfl)
    have h := br_0 h z3_3
    have e3_0 : x2.toInt ≠ 1 := fun e => z3_0 (Int32.toInt_inj.mp e)
    have e3_1 : x2.toInt ≠ 2 := fun e => z3_1 (Int32.toInt_inj.mp e)
    have e3_2 : x2.toInt ≠ 3 := fun e => z3_2 (Int32.toInt_inj.mp e)
    have e3_3 : x2.toInt ≠ 4 := fun e => z3_3 (Int32.toInt_inj.mp e)
    refine lv_tableOut (tgt := 228) hx hb dX6_markOf_3 (by omega) (by decide) ?_
    refine lv_iconst (v := (0 : Int32)) hx hb dX6_markOf_228 (by decide) ?_
    refine lv_istore (lv' := [(4, .int (0 : Int32)), (3, .int (0 : Int32)), (0, .ref (am 0)), (1, .int x1), (2, .int x2)]) hx hb dX6_markOf_229 hl (by decide) rfl (fun ls hl => ?_)
    exact l231 x1 F (0 : Int32) (0 : Int32) h _ (lv_sub hl [2, 3, 1, 0] rfl)
  exact key _ (fun pc ls hd => W.iret hx hb hr (fun t ht hW => ⟨_, rfl, rfl, ht⟩) (fun q h => by cases h) hd)
set_option maxHeartbeats 4000000 in
set_option maxRecDepth 100000 in
theorem kX6_mark (l : Launch) (D : va_G) (T : Nat → ClassId) (F : Nat) (am : Nat → Nat) (mguests : Int32) (mclause : Int32) (mdeeds : Int32) (masked : Int32) (mupper : Int64) (mlower : Int64) (mfinding : Int32) (mreadGuests : Int32) (misSight : Int32) (mat : Int32) (mrowSizes : Nat → Int32) (mrows : Nat → Int32) (mtextSizes : Nat → Int32) (mtexts : Nat → Int32) (mdoes : Nat → Int32) (mkinds : Nat → Int32) (msees : Nat → Int32) (mnow : Nat → Int32) (mbefore : Nat → Int32) (mkeeps : Nat → Int32) (mkept : Nat → Int32) (mfindings : Nat → Int32) (mread : Nat → Int32) (maside : Nat → Int32) (msteps : Nat → Int32) (mtried : Nat → Int32) (mbest : Nat → Int32) (x1 : Int32) (x2 : Int32) (r : Int32) (zmfinding : Int32) (zmfindings : Nat → Int32) (h : fX6_mark F mguests mclause mfinding mdoes mkinds msees mnow mfindings x1 x2 = some (r, zmfinding, zmfindings)) : ∀ sz : Nat, Met l yX6_mark wsX6_mark ({ frames := 3, cells := 0, slots := 0, locals := 70 } : Room) (va_Pc [.ref (am 0), .int x1, .int x2] (fun U => U.heap.size = sz ∧ va_P D vwCl (wMo T am mguests mclause mdeeds masked mupper mlower mfinding mreadGuests misSight mat mrowSizes mrows mtextSizes mtexts mdoes mkinds msees mnow mbefore mkeeps mkept mfindings mread maside msteps mtried mbest) U.heap ∧ KK D T U ∧ va_D (fun _ => True) (wMo T am mguests mclause mdeeds masked mupper mlower mfinding mreadGuests misSight mat mrowSizes mrows mtextSizes mtexts mdoes mkinds msees mnow mbefore mkeeps mkept mfindings mread maside msteps mtried mbest))) (va_Qi (fun r' (_ : Unit) => r' = r) (fun _ t => va_P D vwCl (wMo T am mguests mclause mdeeds masked mupper mlower zmfinding mreadGuests misSight mat mrowSizes mrows mtextSizes mtexts mdoes mkinds msees mnow mbefore mkeeps mkept zmfindings mread maside msteps mtried mbest) t.heap ∧ va_D (va_A (wMo T am mguests mclause mdeeds masked mupper mlower mfinding mreadGuests misSight mat mrowSizes mrows mtextSizes mtexts mdoes mkinds msees mnow mbefore mkeeps mkept mfindings mread maside msteps mtried mbest) sz) (wMo T am mguests mclause mdeeds masked mupper mlower zmfinding mreadGuests misSight mat mrowSizes mrows mtextSizes mtexts mdoes mkinds msees mnow mbefore mkeeps mkept zmfindings mread maside msteps mtried mbest)) (va_A (wMo T am mguests mclause mdeeds masked mupper mlower mfinding mreadGuests misSight mat mrowSizes mrows mtextSizes mtexts mdoes mkinds msees mnow mbefore mkeeps mkept mfindings mread maside msteps mtried mbest) sz)) 0 0 (va_A (wMo T am mguests mclause mdeeds masked mupper mlower mfinding mreadGuests misSight mat mrowSizes mrows mtextSizes mtexts mdoes mkinds msees mnow mbefore mkeeps mkept mfindings mread maside msteps mtried mbest) sz) := by
  intro sz
  refine Met.ofW (cc := cX6_mark) (maxL := 3) (ret := some .int) (by decide) rfl ?_
  intro p e s m args below meth c s₁ B hml hv
  obtain ⟨ha, hsz, hP, hKK, hD0⟩ := hv
  have hx := B.exec
  have hb := B.bytes
  have hr := B.returns
  have hts := atoms_spec (ws := wsX6_mark) B.pre
  have hown : s.vm.findClass RX6 = some m.cls := findClass_of_methodNamed B.named
  have hlocks := B.notSynchronized
  have hK := hKK.1
  have hFix : CallFix p m c cX6_mark 3 s args wsX6_mark RX6 := ⟨hx, hb, hml, hown, hts⟩
  have q1 := hts _ (List.mem_of_getElem? (i := 1) (show wsX6_mark[1]? = some (Cond.constantLong RX6 73 (5)) from rfl))
  have q2 := hts _ (List.mem_of_getElem? (i := 2) (show wsX6_mark[2]? = some (Cond.fieldLink RX6 25 "PartyWillModel" "kinds" "[I") from rfl))
  have q3 := hts _ (List.mem_of_getElem? (i := 3) (show wsX6_mark[3]? = some (Cond.fieldLink RX6 31 "PartyWillModel" "now" "[I") from rfl))
  have iX6 : ∀ w ∈ u_ws RX6 TX6 27, w ∈ wsX6_mark := fun w h => List.mem_cons_of_mem _ (List.mem_append_right _ (h))
  subst hsz
  have hD := hD0.self (sz := s.heap.size)
  generalize hAe : va_A (wMo T am mguests mclause mdeeds masked mupper mlower mfinding mreadGuests misSight mat mrowSizes mrows mtextSizes mtexts mdoes mkinds msees mnow mbefore mkeeps mkept mfindings mread maside msteps mtried mbest) s.heap.size = A at hD ⊢
  have hA : ∀ q : Nat, s.heap.size ≤ q → A q := fun q h => by rw [← hAe]; exact Or.inr h
  have hS : va_S A s.heap s.heap [] := va_S.rf
  have hP : va_P D vwCl (wMo T am mguests mclause mdeeds masked mupper mlower mfinding mreadGuests misSight mat mrowSizes mrows mtextSizes mtexts mdoes mkinds msees mnow mbefore mkeeps mkept mfindings mread maside msteps mtried mbest) s.heap := hP
  obtain ⟨ls, hl, e0⟩ := my_entry (m := m) (n := 3) ha (Nat.le_of_ble_eq_true rfl)
  rw [e0]
  have hl : lv_has ls 3 [(0, .ref (am 0)), (1, .int x1), (2, .int x2)] := hl
  have key : ∀ Q : State → Prop, (∀ (H : Heap) (locs : List Loc) (pc : Nat) (ls : Array Slot), va_P D vwCl (wMo T am mguests mclause mdeeds masked mupper mlower zmfinding mreadGuests misSight mat mrowSizes mrows mtextSizes mtexts mdoes mkinds msees mnow mbefore mkeeps mkept zmfindings mread maside msteps mtried mbest) H → va_D A (wMo T am mguests mclause mdeeds masked mupper mlower zmfinding mreadGuests misSight mat mrowSizes mrows mtextSizes mtexts mdoes mkinds msees mnow mbefore mkeeps mkept zmfindings mread maside msteps mtried mbest) → va_S A s.heap H locs → decode cX6_mark pc = .ok (.ireturn, 1) → W p l e ({ frames := 3, cells := 0, slots := 0, locals := 70 } : Room) s m args below meth c H locs 0 0 Q (F0 m pc ls [.int r])) → W p l e ({ frames := 3, cells := 0, slots := 0, locals := 70 } : Room) s m args below meth c s.heap [] 0 0 Q (F0 m 0 ls []) := by
    intro Q hret
    skip
    unfold fX6_mark at h
    refine lv_aload_n hx hb dX6_mark_0 rfl (lv_at hl 0 rfl) ?_
    refine lv_iload_n hx hb dX6_mark_1 rfl (lv_at hl 1 rfl) ?_
    obtain ⟨r2, hc, h⟩ := bd1_some h
    refine my_roz (va_Run.run (va_runV (As := [.int x1]) (rest := []) hFix (kX6_isGuest l D T F am mguests mclause mdeeds masked mupper mlower mfinding mreadGuests misSight mat mrowSizes mrows mtextSizes mtexts mdoes mkinds msees mnow mbefore mkeeps mkept mfindings mread maside msteps mtried mbest x1 r2 hc) (cwV 1 hts gX6_mark_X6_isGuest rfl rfl rfl ⟨rfl, hd_X6_isGuest⟩ ⟨Nat.le_of_ble_eq_true rfl, Nat.le_of_ble_eq_true rfl⟩) (preV_ro hP hKK (va_recv hK hP (ci := 4) (q0 := 0) rfl wMo_0)) rfl rfl hl.1 rfl (lv_room (Nat.le_of_ble_eq_true rfl)) dX6_mark_2 ⟨Nat.zero_le _, Nat.zero_le _⟩)) (fun hb2 => ?_)
    refine lv_if_eq (tgt := 20) hx hb dX6_mark_5 (by decide) (fun c5 => ?_) (fun c5 => ?_)
    · have h := br_1 h c5
      refine lv_iconst (v := (-1 : Int32)) hx hb dX6_mark_20 (by decide) ?_
      cases h
      exact hret _ _ _ _ hP hD hS dX6_mark_21
    · have h := br_0 h c5
      refine lv_iload_n hx hb dX6_mark_8 rfl (lv_at hl 2 rfl) ?_
      refine lv_i2l (v := (x2.toInt64)) hx hb dX6_mark_9 rfl ?_
      refine lv_lconst (v := (1 : Int64)) hx hb dX6_mark_10 (by decide) ?_
      refine lv_ldc2 (v := (5 : Int64)) hx hb hown q1 dX6_mark_11 ?_
      obtain ⟨r14, hc, h⟩ := bd1_some h
      refine my_roz (va_Run.run (va_runS (As := [.long (x2.toInt64), .long (1 : Int64), .long (5 : Int64)]) (rest := []) hFix (kX6_in l D T F (x2.toInt64) (1 : Int64) (5 : Int64) r14 hc) (va_cwS 3 hts gX6_mark_X6_in rfl rfl rfl hd_X6_in ⟨Nat.le_of_ble_eq_true rfl, Nat.le_of_ble_eq_true rfl⟩) (preS_ro va_nil hKK) rfl rfl hl.1 rfl (lv_room (Nat.le_of_ble_eq_true rfl)) dX6_mark_14 ⟨Nat.zero_le _, Nat.zero_le _⟩)) (fun hb14 => ?_)
      refine lv_if_ne (tgt := 22) hx hb dX6_mark_17 (by decide) (fun c17 => ?_) (fun c17 => ?_)
      · have h := br_0 h c17
        refine lv_aload_n hx hb dX6_mark_22 rfl (lv_at hl 0 rfl) ?_
        refine va_get (D := D) (ci := 4) (C := RX6) (T := TX6) (N := 27) hx hb hts iX6 hown hK hP 0 wMo_0 rfl 7 (by decide) q2 (fun _ h9 => h9) rfl dX6_mark_23 ?_
        refine lv_iload_n hx hb dX6_mark_26 rfl (lv_at hl 1 rfl) ?_
        obtain ⟨hin1, h⟩ := ck_some h
        refine va_iald hx hb hK hP 6 0 wMo_6 rfl hin1 dX6_mark_27 ?_
        refine lv_iload_n hx hb dX6_mark_28 rfl (lv_at hl 2 rfl) ?_
        obtain ⟨r29, hc, h⟩ := bd1_some h
        refine my_roz (va_Run.run (va_runS (As := [.int (mkinds x1.toNatClampNeg), .int x2]) (rest := []) hFix (kX6_isOf l D T F (mkinds x1.toNatClampNeg) x2 r29 hc) (va_cwS 2 hts gX6_mark_X6_isOf rfl rfl rfl hd_X6_isOf ⟨Nat.le_of_ble_eq_true rfl, Nat.le_of_ble_eq_true rfl⟩) (preS_ro va_nil hKK) rfl rfl hl.1 rfl (lv_room (Nat.le_of_ble_eq_true rfl)) dX6_mark_29 ⟨Nat.zero_le _, Nat.zero_le _⟩)) (fun hb29 => ?_)
        refine lv_if_ne (tgt := 41) hx hb dX6_mark_32 (by decide) (fun c32 => ?_) (fun c32 => ?_)
        · have h := br_0 h c32
          refine lv_aload_n hx hb dX6_mark_41 rfl (lv_at hl 0 rfl) ?_
          refine va_get (D := D) (ci := 4) (C := RX6) (T := TX6) (N := 27) hx hb hts iX6 hown hK hP 0 wMo_0 rfl 9 (by decide) q3 (fun _ h9 => h9) rfl dX6_mark_42 ?_
          refine lv_bipush (v := (6 : Int32)) hx hb dX6_mark_45 (by decide) ?_
          refine va_iald hx hb hK hP 8 0 wMo_8 rfl (show ¬ ((6 : Int32) < 0 ∨ 7 ≤ (6 : Int32).toNatClampNeg) by decide) dX6_mark_47 ?_
          refine lv_iload_n hx hb dX6_mark_48 rfl (lv_at hl 1 rfl) ?_
          obtain ⟨r49, hc, h⟩ := bd1_some h
          refine my_roz (va_Run.run (va_runS (As := [.int (mnow (6 : Int32).toNatClampNeg), .int x1]) (rest := []) hFix (kX6_has l D T F (mnow (6 : Int32).toNatClampNeg) x1 r49 hc) (va_cwS 2 hts gX6_mark_X6_has rfl rfl rfl hd_X6_has ⟨Nat.le_of_ble_eq_true rfl, Nat.le_of_ble_eq_true rfl⟩) (preS_ro va_nil hKK) rfl rfl hl.1 rfl (lv_room (Nat.le_of_ble_eq_true rfl)) dX6_mark_49 ⟨Nat.zero_le _, Nat.zero_le _⟩)) (fun hb49 => ?_)
          refine lv_if_eq (tgt := 59) hx hb dX6_mark_52 (by decide) (fun c52 => ?_) (fun c52 => ?_)
          · have h := br_1 h c52
            refine lv_aload_n hx hb dX6_mark_59 rfl (lv_at hl 0 rfl) ?_
            refine lv_iload_n hx hb dX6_mark_60 rfl (lv_at hl 1 rfl) ?_
            refine lv_iload_n hx hb dX6_mark_61 rfl (lv_at hl 2 rfl) ?_
            obtain ⟨r62, hc, h⟩ := bd1_some h
            refine my_roi (va_Run.run (va_runV (As := [.int x1, .int x2]) (rest := []) hFix (kX6_markOf l D T F am mguests mclause mdeeds masked mupper mlower mfinding mreadGuests misSight mat mrowSizes mrows mtextSizes mtexts mdoes mkinds msees mnow mbefore mkeeps mkept mfindings mread maside msteps mtried mbest x1 x2 r62 hc) (cwV 2 hts gX6_mark_X6_markOf rfl rfl rfl ⟨rfl, hd_X6_markOf⟩ ⟨Nat.le_of_ble_eq_true rfl, Nat.le_of_ble_eq_true rfl⟩) (preV_ro hP hKK (va_recv hK hP (ci := 4) (q0 := 0) rfl wMo_0)) rfl rfl hl.1 rfl (lv_room (Nat.le_of_ble_eq_true rfl)) dX6_mark_62 ⟨Nat.zero_le _, Nat.zero_le _⟩)) ?_
            cases h
            exact hret _ _ _ _ hP hD hS dX6_mark_65
          · have h := br_0 h c52
            refine lv_iconst (v := (0 : Int32)) hx hb dX6_mark_55 (by decide) ?_
            refine lv_goto (tgt := 65) hx hb dX6_mark_56 (by decide) ?_
            cases h
            exact hret _ _ _ _ hP hD hS dX6_mark_65
        · have h := br_1 h c32
          refine lv_aload_n hx hb dX6_mark_35 rfl (lv_at hl 0 rfl) ?_
          refine lv_iconst (v := (3 : Int32)) hx hb dX6_mark_36 (by decide) ?_
          obtain ⟨r37, w37_mfinding, w37_mfindings, hc, h⟩ := bd3_some h
          have hFc := my_freeS hD hS hA
          refine my_rwi (va_runV (As := [.int (3 : Int32)]) (rest := []) hFix (kX6_found l D T F am mguests mclause mdeeds masked mupper mlower mfinding mreadGuests misSight mat mrowSizes mrows mtextSizes mtexts mdoes mkinds msees mnow mbefore mkeeps mkept mfindings mread maside msteps mtried mbest (3 : Int32) r37 w37_mfinding w37_mfindings hc _) (cwV 1 hts gX6_mark_X6_found rfl rfl rfl ⟨rfl, hd_X6_found⟩ ⟨Nat.le_of_ble_eq_true rfl, Nat.le_of_ble_eq_true rfl⟩) (preV_rw hP hKK hD (va_recv hK hP (ci := 4) (q0 := 0) rfl wMo_0)) rfl rfl hl.1 rfl (lv_room (Nat.le_of_ble_eq_true rfl)) dX6_mark_37 ⟨Nat.zero_le _, Nat.zero_le _⟩) hS hFc (fun H1 locs hP1 hD1 hz1 hkk hS => ?_)
          have hP : va_P D vwCl (wMo T am mguests mclause mdeeds masked mupper mlower w37_mfinding mreadGuests misSight mat mrowSizes mrows mtextSizes mtexts mdoes mkinds msees mnow mbefore mkeeps mkept w37_mfindings mread maside msteps mtried mbest) H1 := hP1
          have hD : va_D A (wMo T am mguests mclause mdeeds masked mupper mlower w37_mfinding mreadGuests misSight mat mrowSizes mrows mtextSizes mtexts mdoes mkinds msees mnow mbefore mkeeps mkept w37_mfindings mread maside msteps mtried mbest) := hD1.weaken (fun _ q _ h => hFc q.1 h)
          generalize H1 = H at hP hS ⊢
          cases h
          exact hret _ _ _ _ hP hD hS dX6_mark_40
      · have h := br_1 h c17
        refine lv_iconst (v := (-1 : Int32)) hx hb dX6_mark_20 (by decide) ?_
        cases h
        exact hret _ _ _ _ hP hD hS dX6_mark_21
  exact key _ (fun H locs pc ls hP hD hS hd => W.iret hx hb hr (fun t ht hW => ⟨⟨_, (), rfl, rfl, by show _ ∧ _; rw [ht]; exact ⟨hP, hD⟩⟩, hS.F ht⟩) hS.2.2 hd)
set_option maxHeartbeats 4000000 in
set_option maxRecDepth 100000 in
theorem kX6_does (l : Launch) (D : va_G) (T : Nat → ClassId) (F : Nat) (am : Nat → Nat) (mguests : Int32) (mclause : Int32) (mdeeds : Int32) (masked : Int32) (mupper : Int64) (mlower : Int64) (mfinding : Int32) (mreadGuests : Int32) (misSight : Int32) (mat : Int32) (mrowSizes : Nat → Int32) (mrows : Nat → Int32) (mtextSizes : Nat → Int32) (mtexts : Nat → Int32) (mdoes : Nat → Int32) (mkinds : Nat → Int32) (msees : Nat → Int32) (mnow : Nat → Int32) (mbefore : Nat → Int32) (mkeeps : Nat → Int32) (mkept : Nat → Int32) (mfindings : Nat → Int32) (mread : Nat → Int32) (maside : Nat → Int32) (msteps : Nat → Int32) (mtried : Nat → Int32) (mbest : Nat → Int32) (x1 : Int32) (x2 : Int32) (r : Int32) (zmdoes : Nat → Int32) (h : fX6_does F mguests mdoes x1 x2 = some (r, zmdoes)) : ∀ sz : Nat, Met l yX6_does wsX6_does ({ frames := 2, cells := 0, slots := 0, locals := 45 } : Room) (va_Pc [.ref (am 0), .int x1, .int x2] (fun U => U.heap.size = sz ∧ va_P D vwCl (wMo T am mguests mclause mdeeds masked mupper mlower mfinding mreadGuests misSight mat mrowSizes mrows mtextSizes mtexts mdoes mkinds msees mnow mbefore mkeeps mkept mfindings mread maside msteps mtried mbest) U.heap ∧ KK D T U ∧ va_D (fun _ => True) (wMo T am mguests mclause mdeeds masked mupper mlower mfinding mreadGuests misSight mat mrowSizes mrows mtextSizes mtexts mdoes mkinds msees mnow mbefore mkeeps mkept mfindings mread maside msteps mtried mbest))) (va_Qi (fun r' (_ : Unit) => r' = r) (fun _ t => va_P D vwCl (wMo T am mguests mclause mdeeds masked mupper mlower mfinding mreadGuests misSight mat mrowSizes mrows mtextSizes mtexts zmdoes mkinds msees mnow mbefore mkeeps mkept mfindings mread maside msteps mtried mbest) t.heap ∧ va_D (va_A (wMo T am mguests mclause mdeeds masked mupper mlower mfinding mreadGuests misSight mat mrowSizes mrows mtextSizes mtexts mdoes mkinds msees mnow mbefore mkeeps mkept mfindings mread maside msteps mtried mbest) sz) (wMo T am mguests mclause mdeeds masked mupper mlower mfinding mreadGuests misSight mat mrowSizes mrows mtextSizes mtexts zmdoes mkinds msees mnow mbefore mkeeps mkept mfindings mread maside msteps mtried mbest)) (va_A (wMo T am mguests mclause mdeeds masked mupper mlower mfinding mreadGuests misSight mat mrowSizes mrows mtextSizes mtexts mdoes mkinds msees mnow mbefore mkeeps mkept mfindings mread maside msteps mtried mbest) sz)) 0 0 (va_A (wMo T am mguests mclause mdeeds masked mupper mlower mfinding mreadGuests misSight mat mrowSizes mrows mtextSizes mtexts mdoes mkinds msees mnow mbefore mkeeps mkept mfindings mread maside msteps mtried mbest) sz) := by
  intro sz
  refine Met.ofW (cc := cX6_does) (maxL := 4) (ret := some .int) (by decide) rfl ?_
  intro p e s m args below meth c s₁ B hml hv
  obtain ⟨ha, hsz, hP, hKK, hD0⟩ := hv
  have hx := B.exec
  have hb := B.bytes
  have hr := B.returns
  have hts := atoms_spec (ws := wsX6_does) B.pre
  have hown : s.vm.findClass RX6 = some m.cls := findClass_of_methodNamed B.named
  have hlocks := B.notSynchronized
  have hK := hKK.1
  have hFix : CallFix p m c cX6_does 4 s args wsX6_does RX6 := ⟨hx, hb, hml, hown, hts⟩
  have q1 := hts _ (List.mem_of_getElem? (i := 1) (show wsX6_does[1]? = some (Cond.constantLong RX6 183 (-4)) from rfl))
  have q2 := hts _ (List.mem_of_getElem? (i := 2) (show wsX6_does[2]? = some (Cond.constantLong RX6 73 (5)) from rfl))
  have q3 := hts _ (List.mem_of_getElem? (i := 3) (show wsX6_does[3]? = some (Cond.fieldLink RX6 131 "PartyWillModel" "guests" "I") from rfl))
  have q4 := hts _ (List.mem_of_getElem? (i := 4) (show wsX6_does[4]? = some (Cond.fieldLink RX6 22 "PartyWillModel" "does" "[I") from rfl))
  have iX6 : ∀ w ∈ u_ws RX6 TX6 27, w ∈ wsX6_does := fun w h => List.mem_cons_of_mem _ (List.mem_append_right _ (h))
  subst hsz
  have hD := hD0.self (sz := s.heap.size)
  generalize hAe : va_A (wMo T am mguests mclause mdeeds masked mupper mlower mfinding mreadGuests misSight mat mrowSizes mrows mtextSizes mtexts mdoes mkinds msees mnow mbefore mkeeps mkept mfindings mread maside msteps mtried mbest) s.heap.size = A at hD ⊢
  have hA : ∀ q : Nat, s.heap.size ≤ q → A q := fun q h => by rw [← hAe]; exact Or.inr h
  have hS : va_S A s.heap s.heap [] := va_S.rf
  have hP : va_P D vwCl (wMo T am mguests mclause mdeeds masked mupper mlower mfinding mreadGuests misSight mat mrowSizes mrows mtextSizes mtexts mdoes mkinds msees mnow mbefore mkeeps mkept mfindings mread maside msteps mtried mbest) s.heap := hP
  obtain ⟨ls, hl, e0⟩ := my_entry (m := m) (n := 4) ha (Nat.le_of_ble_eq_true rfl)
  rw [e0]
  have hl : lv_has ls 4 [(0, .ref (am 0)), (1, .int x1), (2, .int x2)] := hl
  have key : ∀ Q : State → Prop, (∀ (H : Heap) (locs : List Loc) (pc : Nat) (ls : Array Slot), va_P D vwCl (wMo T am mguests mclause mdeeds masked mupper mlower mfinding mreadGuests misSight mat mrowSizes mrows mtextSizes mtexts zmdoes mkinds msees mnow mbefore mkeeps mkept mfindings mread maside msteps mtried mbest) H → va_D A (wMo T am mguests mclause mdeeds masked mupper mlower mfinding mreadGuests misSight mat mrowSizes mrows mtextSizes mtexts zmdoes mkinds msees mnow mbefore mkeeps mkept mfindings mread maside msteps mtried mbest) → va_S A s.heap H locs → decode cX6_does pc = .ok (.ireturn, 1) → W p l e ({ frames := 2, cells := 0, slots := 0, locals := 45 } : Room) s m args below meth c H locs 0 0 Q (F0 m pc ls [.int r])) → W p l e ({ frames := 2, cells := 0, slots := 0, locals := 45 } : Room) s m args below meth c s.heap [] 0 0 Q (F0 m 0 ls []) := by
    intro Q hret
    skip
    unfold fX6_does at h
    refine lv_iload_n hx hb dX6_does_0 rfl (lv_at hl 1 rfl) ?_
    obtain ⟨r1, hc, h⟩ := bd1_some h
    refine my_roz (va_Run.run (va_runS (As := [.int x1]) (rest := []) hFix (kX6_isTune l D T F x1 r1 hc) (va_cwS 1 hts gX6_does_X6_isTune rfl rfl rfl hd_X6_isTune ⟨Nat.le_of_ble_eq_true rfl, Nat.le_of_ble_eq_true rfl⟩) (preS_ro va_nil hKK) rfl rfl hl.1 rfl (lv_room (Nat.le_of_ble_eq_true rfl)) dX6_does_1 ⟨Nat.zero_le _, Nat.zero_le _⟩)) (fun hb1 => ?_)
    refine lv_if_eq (tgt := 21) hx hb dX6_does_4 (by decide) (fun c4 => ?_) (fun c4 => ?_)
    · have h := br_1 h c4
      refine lv_iconst (v := (-1 : Int32)) hx hb dX6_does_21 (by decide) ?_
      cases h
      exact hret _ _ _ _ hP hD hS dX6_does_22
    · have h := br_0 h c4
      refine lv_iload_n hx hb dX6_does_7 rfl (lv_at hl 2 rfl) ?_
      refine lv_i2l (v := (x2.toInt64)) hx hb dX6_does_8 rfl ?_
      refine lv_ldc2 (v := (-4 : Int64)) hx hb hown q1 dX6_does_9 ?_
      refine lv_ldc2 (v := (5 : Int64)) hx hb hown q2 dX6_does_12 ?_
      obtain ⟨r15, hc, h⟩ := bd1_some h
      refine my_roz (va_Run.run (va_runS (As := [.long (x2.toInt64), .long (-4 : Int64), .long (5 : Int64)]) (rest := []) hFix (kX6_in l D T F (x2.toInt64) (-4 : Int64) (5 : Int64) r15 hc) (va_cwS 3 hts gX6_does_X6_in rfl rfl rfl hd_X6_in ⟨Nat.le_of_ble_eq_true rfl, Nat.le_of_ble_eq_true rfl⟩) (preS_ro va_nil hKK) rfl rfl hl.1 rfl (lv_room (Nat.le_of_ble_eq_true rfl)) dX6_does_15 ⟨Nat.zero_le _, Nat.zero_le _⟩)) (fun hb15 => ?_)
      refine lv_if_ne (tgt := 23) hx hb dX6_does_18 (by decide) (fun c18 => ?_) (fun c18 => ?_)
      · have h := br_0 h c18
        refine lv_aload_n hx hb dX6_does_23 rfl (lv_at hl 0 rfl) ?_
        refine va_get (D := D) (ci := 4) (C := RX6) (T := TX6) (N := 27) hx hb hts iX6 hown hK hP 0 wMo_0 rfl 4 (by decide) q3 (fun _ h9 => h9) rfl dX6_does_24 ?_
        refine lv_if_ne (tgt := 33) hx hb dX6_does_27 (by decide) (fun c27 => ?_) (fun c27 => ?_)
        · have h := br_0 h c27
          refine lv_aload_n hx hb dX6_does_33 rfl (lv_at hl 0 rfl) ?_
          refine va_get (D := D) (ci := 4) (C := RX6) (T := TX6) (N := 27) hx hb hts iX6 hown hK hP 0 wMo_0 rfl 6 (by decide) q4 (fun _ h9 => h9) rfl dX6_does_34 ?_
          refine lv_iload_n hx hb dX6_does_37 rfl (lv_at hl 1 rfl) ?_
          obtain ⟨hin1, h⟩ := ck_some h
          refine va_iald hx hb hK hP 5 0 wMo_5 rfl hin1 dX6_does_38 ?_
          refine lv_istore_n (lv' := [(3, .int (mdoes x1.toNatClampNeg)), (0, .ref (am 0)), (1, .int x1), (2, .int x2)]) hx hb dX6_does_39 rfl hl (by decide) rfl (fun ls hl => ?_)
          refine lv_aload_n hx hb dX6_does_40 rfl (lv_at hl 1 rfl) ?_
          refine va_get (D := D) (ci := 4) (C := RX6) (T := TX6) (N := 27) hx hb hts iX6 hown hK hP 0 wMo_0 rfl 6 (by decide) q4 (fun _ h9 => h9) rfl dX6_does_41 ?_
          refine lv_iload_n hx hb dX6_does_44 rfl (lv_at hl 2 rfl) ?_
          refine lv_iload_n hx hb dX6_does_45 rfl (lv_at hl 3 rfl) ?_
          obtain ⟨hin2, h⟩ := ck_some h
          refine va_iast hx hb hK hP hD hS 5 0 wMo_5 rfl hin2 dX6_does_46 (fun H locs hP hD hS => ?_)
          have hP : va_P D vwCl (wMo T am mguests mclause mdeeds masked mupper mlower mfinding mreadGuests misSight mat mrowSizes mrows mtextSizes mtexts (upd mdoes x1.toNatClampNeg x2) mkinds msees mnow mbefore mkeeps mkept mfindings mread maside msteps mtried mbest) H := hP
          have hD : va_D A (wMo T am mguests mclause mdeeds masked mupper mlower mfinding mreadGuests misSight mat mrowSizes mrows mtextSizes mtexts (upd mdoes x1.toNatClampNeg x2) mkinds msees mnow mbefore mkeeps mkept mfindings mread maside msteps mtried mbest) := hD
          refine lv_iload_n hx hb dX6_does_47 rfl (lv_at hl 0 rfl) ?_
          cases h
          exact hret _ _ _ _ hP hD hS dX6_does_48
        · have h := br_1 h c27
          refine lv_bipush (v := (-4 : Int32)) hx hb dX6_does_30 (by decide) ?_
          cases h
          exact hret _ _ _ _ hP hD hS dX6_does_32
      · have h := br_1 h c18
        refine lv_iconst (v := (-1 : Int32)) hx hb dX6_does_21 (by decide) ?_
        cases h
        exact hret _ _ _ _ hP hD hS dX6_does_22
  exact key _ (fun H locs pc ls hP hD hS hd => W.iret hx hb hr (fun t ht hW => ⟨⟨_, (), rfl, rfl, by show _ ∧ _; rw [ht]; exact ⟨hP, hD⟩⟩, hS.F ht⟩) hS.2.2 hd)
set_option maxHeartbeats 4000000 in
set_option maxRecDepth 100000 in
theorem kX6_copies (l : Launch) (D : va_G) (T : Nat → ClassId) (F : Nat) (a0 : Nat) (b0 : Nat) (n1 : Nat) (n2 : Nat) (f1 : Nat → Int32) (f2 : Nat → Int32) (x1 : Int32) (x3 : Int32) (x4 : Int32) (zf2 : Nat → Int32) (h : fX6_copies F n1 n2 f1 f2 x1 x3 x4 = some (zf2)) : ∀ sz : Nat, Met l yX6_copies wsX6_copies ({ frames := 0, cells := 0, slots := 0, locals := 0 } : Room) (va_Pc [.ref a0, .int x1, .ref b0, .int x3, .int x4] (fun U => U.heap.size = sz ∧ va_P D vwCl (wA2 T a0 b0 n1 n2 f1 f2) U.heap ∧ KK D T U ∧ va_D (fun _ => True) (wA2 T a0 b0 n1 n2 f1 f2))) (va_Qv (fun _ : Unit => True) (fun _ t => va_P D vwCl (wA2 T a0 b0 n1 n2 f1 zf2) t.heap ∧ va_D (va_A (wA2 T a0 b0 n1 n2 f1 f2) sz) (wA2 T a0 b0 n1 n2 f1 zf2)) (va_A (wA2 T a0 b0 n1 n2 f1 f2) sz)) 0 0 (va_A (wA2 T a0 b0 n1 n2 f1 f2) sz) := by
  intro sz
  refine Met.ofW (cc := cX6_copies) (maxL := 6) (ret := none) (by decide) rfl ?_
  intro p e s m args below meth c s₁ B hml hv
  obtain ⟨ha, hsz, hP, hKK, hD0⟩ := hv
  have hx := B.exec
  have hb := B.bytes
  have hr := B.returns
  have hts := atoms_spec (ws := wsX6_copies) B.pre
  have hown : s.vm.findClass RX6 = some m.cls := findClass_of_methodNamed B.named
  have hlocks := B.notSynchronized
  have hK := hKK.1
  have hFix : CallFix p m c cX6_copies 6 s args wsX6_copies RX6 := ⟨hx, hb, hml, hown, hts⟩
  subst hsz
  have hD := hD0.self (sz := s.heap.size)
  generalize hAe : va_A (wA2 T a0 b0 n1 n2 f1 f2) s.heap.size = A at hD ⊢
  have hA : ∀ q : Nat, s.heap.size ≤ q → A q := fun q h => by rw [← hAe]; exact Or.inr h
  have hS : va_S A s.heap s.heap [] := va_S.rf
  have hP : va_P D vwCl (wA2 T a0 b0 n1 n2 f1 f2) s.heap := hP
  obtain ⟨ls, hl, e0⟩ := my_entry (m := m) (n := 6) ha (Nat.le_of_ble_eq_true rfl)
  rw [e0]
  have hl : lv_has ls 6 [(0, .ref a0), (1, .int x1), (2, .ref b0), (3, .int x3), (4, .int x4)] := hl
  have key : ∀ Q : State → Prop, (∀ (H : Heap) (locs : List Loc) (pc : Nat) (ls : Array Slot), va_P D vwCl (wA2 T a0 b0 n1 n2 f1 zf2) H → va_D A (wA2 T a0 b0 n1 n2 f1 zf2) → va_S A s.heap H locs → decode cX6_copies pc = .ok (.return_, 1) → W p l e ({ frames := 0, cells := 0, slots := 0, locals := 0 } : Room) s m args below meth c H locs 0 0 Q (F0 m pc ls [])) → W p l e ({ frames := 0, cells := 0, slots := 0, locals := 0 } : Room) s m args below meth c s.heap [] 0 0 Q (F0 m 0 ls []) := by
    intro Q hret
    skip
    have l3 : ∀ x1 : Int32, ∀ x3 : Int32, ∀ x4 : Int32, ∀ nu : Nat, ∀ x5 : Int32, ∀ f2 : Nat → Int32, fX6_copies_l3 F n1 n2 f1 x1 x3 x4 nu x5 f2 = some (zf2) → ∀ (H : Heap) (locs : List Loc), va_P D vwCl (wA2 T a0 b0 n1 n2 f1 f2) H → va_D A (wA2 T a0 b0 n1 n2 f1 f2) → va_S A s.heap H locs → ∀ (ls : Array Slot), lv_has ls 6 [(0, .ref a0), (1, .int x1), (2, .ref b0), (3, .int x3), (4, .int x4), (5, .int x5)] → W p l e ({ frames := 0, cells := 0, slots := 0, locals := 0 } : Room) s m args below meth c H locs 0 0 Q (F0 m 3 ls []) := by
      intro x1 x3 x4
      intro nu
      induction nu with
      | zero => intro x5 f2 h; exact none_some h
      | succ nu3 ih3 =>
        intro x5 f2 h H locs hP hD hS ls hl
        have h : fX6_copies_l3_b F n1 n2 f1 x1 x3 x4 (fX6_copies_l3 F n1 n2 f1 x1 x3 x4 nu3) x5 f2 = some (zf2) := h
        unfold fX6_copies_l3_b at h
        refine lv_iload hx hb dX6_copies_3 (lv_at hl 5 rfl) ?_
        refine lv_iload hx hb dX6_copies_5 (lv_at hl 4 rfl) ?_
        refine lv_icmp_ge (tgt := 28) hx hb dX6_copies_7 (by decide) (fun c7 => ?_) (fun c7 => ?_)
        · have h := br_1 h c7
          cases h
          exact hret _ _ _ _ hP hD hS dX6_copies_28
        · have h := br_0 h c7
          refine lv_aload_n hx hb dX6_copies_10 rfl (lv_at hl 2 rfl) ?_
          refine lv_iload_n hx hb dX6_copies_11 rfl (lv_at hl 3 rfl) ?_
          refine lv_iload hx hb dX6_copies_12 (lv_at hl 5 rfl) ?_
          refine lv_iadd hx hb dX6_copies_14 ?_
          refine lv_aload_n hx hb dX6_copies_15 rfl (lv_at hl 0 rfl) ?_
          refine lv_iload_n hx hb dX6_copies_16 rfl (lv_at hl 1 rfl) ?_
          refine lv_iload hx hb dX6_copies_17 (lv_at hl 5 rfl) ?_
          refine lv_iadd hx hb dX6_copies_19 ?_
          obtain ⟨hin1, h⟩ := ck_some h
          refine va_iald hx hb hK hP 0 0 wA2_0 rfl hin1 dX6_copies_20 ?_
          obtain ⟨hin2, h⟩ := ck_some h
          refine va_iast hx hb hK hP hD hS 1 0 wA2_1 rfl hin2 dX6_copies_21 (fun H locs hP hD hS => ?_)
          have hP : va_P D vwCl (wA2 T a0 b0 n1 n2 f1 (upd f2 (x3 + x5).toNatClampNeg (f1 (x1 + x5).toNatClampNeg))) H := hP
          have hD : va_D A (wA2 T a0 b0 n1 n2 f1 (upd f2 (x3 + x5).toNatClampNeg (f1 (x1 + x5).toNatClampNeg))) := hD
          refine lv_iinc (v := (x5 + (1 : Int32))) (lv' := [(5, .int (x5 + (1 : Int32))), (0, .ref a0), (1, .int x1), (2, .ref b0), (3, .int x3), (4, .int x4)]) hx hb dX6_copies_22 hl (k := 5) rfl rfl (by decide) rfl (fun ls hl => ?_)
          refine lv_goto (tgt := 3) hx hb dX6_copies_25 (by decide) ?_
          exact ih3 (x5 + (1 : Int32)) (upd f2 (x3 + x5).toNatClampNeg (f1 (x1 + x5).toNatClampNeg)) h _ _ hP hD hS _ (lv_sub hl [1, 2, 3, 4, 5, 0] rfl)
    unfold fX6_copies at h
    refine lv_iconst (v := (0 : Int32)) hx hb dX6_copies_0 (by decide) ?_
    refine lv_istore (lv' := [(5, .int (0 : Int32)), (0, .ref a0), (1, .int x1), (2, .ref b0), (3, .int x3), (4, .int x4)]) hx hb dX6_copies_1 hl (by decide) rfl (fun ls hl => ?_)
    exact l3 x1 x3 x4 F (0 : Int32) f2 h _ _ hP hD hS _ (lv_sub hl [1, 2, 3, 4, 5, 0] rfl)
  exact key _ (fun H locs pc ls hP hD hS hd => W.vret hx hb hr (fun t ht hW => ⟨⟨(), rfl, trivial, by show _ ∧ _; rw [ht]; exact ⟨hP, hD⟩⟩, hS.F ht⟩) hS.2.2 hd)
