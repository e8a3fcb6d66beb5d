set_option maxHeartbeats 4000000 in
set_option maxRecDepth 100000 in
theorem kX6_aunt (l : Launch) (D : va_G) (T : Nat → ClassId) (F : Nat) (am : Nat → Nat) (mguests : Int32) (mclause : Int32) (mdeeds : Int32) (masked : Int32) (mupper : Int64) (mlower : Int64) (mfinding : Int32) (mreadGuests : Int32) (misSight : Int32) (mat : Int32) (mrowSizes : Nat → Int32) (mrows : Nat → Int32) (mtextSizes : Nat → Int32) (mtexts : Nat → Int32) (mdoes : Nat → Int32) (mkinds : Nat → Int32) (msees : Nat → Int32) (mnow : Nat → Int32) (mbefore : Nat → Int32) (mkeeps : Nat → Int32) (mkept : Nat → Int32) (mfindings : Nat → Int32) (mread : Nat → Int32) (maside : Nat → Int32) (msteps : Nat → Int32) (mtried : Nat → Int32) (mbest : Nat → Int32) (x1 : Int32) (r : Int32) (zmaside : Nat → Int32) (zmsteps : Nat → Int32) (zmtried : Nat → Int32) (zmbest : Nat → Int32) (h : fX6_aunt F mguests mclause mdoes mkinds msees mnow maside msteps mtried mbest x1 = some (r, zmaside, zmsteps, zmtried, zmbest)) : ∀ sz : Nat, Met l yX6_aunt wsX6_aunt ({ frames := 5, cells := 0, slots := 0, locals := 117 } : Room) (va_Pc [.ref (am 0), .int x1] (fun U => U.heap.size = sz ∧ va_P D vwCl (wMo T am mguests mclause mdeeds masked mupper mlower mfinding mreadGuests misSight mat mrowSizes mrows mtextSizes mtexts mdoes mkinds msees mnow mbefore mkeeps mkept mfindings mread maside msteps mtried mbest) U.heap ∧ KK D T U ∧ va_D (fun _ => True) (wMo T am mguests mclause mdeeds masked mupper mlower mfinding mreadGuests misSight mat mrowSizes mrows mtextSizes mtexts mdoes mkinds msees mnow mbefore mkeeps mkept mfindings mread maside msteps mtried mbest))) (va_Qi (fun r' (_ : Unit) => r' = r) (fun _ t => va_P D vwCl (wMo T am mguests mclause mdeeds masked mupper mlower mfinding mreadGuests misSight mat mrowSizes mrows mtextSizes mtexts mdoes mkinds msees mnow mbefore mkeeps mkept mfindings mread zmaside zmsteps zmtried zmbest) t.heap ∧ va_D (va_A (wMo T am mguests mclause mdeeds masked mupper mlower mfinding mreadGuests misSight mat mrowSizes mrows mtextSizes mtexts mdoes mkinds msees mnow mbefore mkeeps mkept mfindings mread maside msteps mtried mbest) sz) (wMo T am mguests mclause mdeeds masked mupper mlower mfinding mreadGuests misSight mat mrowSizes mrows mtextSizes mtexts mdoes mkinds msees mnow mbefore mkeeps mkept mfindings mread zmaside zmsteps zmtried zmbest)) (va_A (wMo T am mguests mclause mdeeds masked mupper mlower mfinding mreadGuests misSight mat mrowSizes mrows mtextSizes mtexts mdoes mkinds msees mnow mbefore mkeeps mkept mfindings mread maside msteps mtried mbest) sz)) 0 0 (va_A (wMo T am mguests mclause mdeeds masked mupper mlower mfinding mreadGuests misSight mat mrowSizes mrows mtextSizes mtexts mdoes mkinds msees mnow mbefore mkeeps mkept mfindings mread maside msteps mtried mbest) sz) := by
  intro sz
  refine Met.ofW (cc := cX6_aunt) (maxL := 3) (ret := some .int) (by decide) rfl ?_
  intro p e s m args below meth c s₁ B hml hv
  obtain ⟨ha, hsz, hP, hKK, hD0⟩ := hv
  have hx := B.exec
  have hb := B.bytes
  have hr := B.returns
  have hts := atoms_spec (ws := wsX6_aunt) B.pre
  have hown : s.vm.findClass RX6 = some m.cls := findClass_of_methodNamed B.named
  have hlocks := B.notSynchronized
  have hK := hKK.1
  have hFix : CallFix p m c cX6_aunt 3 s args wsX6_aunt RX6 := ⟨hx, hb, hml, hown, hts⟩
  have q1 := hts _ (List.mem_of_getElem? (i := 1) (show wsX6_aunt[1]? = some (Cond.constantLong RX6 79 (3)) from rfl))
  have q2 := hts _ (List.mem_of_getElem? (i := 2) (show wsX6_aunt[2]? = some (Cond.fieldLink RX6 131 "PartyWillModel" "guests" "I") from rfl))
  have q3 := hts _ (List.mem_of_getElem? (i := 3) (show wsX6_aunt[3]? = some (Cond.fieldLink RX6 31 "PartyWillModel" "now" "[I") from rfl))
  have q4 := hts _ (List.mem_of_getElem? (i := 4) (show wsX6_aunt[4]? = some (Cond.fieldLink RX6 57 "PartyWillModel" "steps" "[I") from rfl))
  have q5 := hts _ (List.mem_of_getElem? (i := 5) (show wsX6_aunt[5]? = some (Cond.fieldLink RX6 60 "PartyWillModel" "tried" "[I") from rfl))
  have q6 := hts _ (List.mem_of_getElem? (i := 6) (show wsX6_aunt[6]? = some (Cond.fieldLink RX6 63 "PartyWillModel" "best" "[I") from rfl))
  have q7 := hts _ (List.mem_of_getElem? (i := 7) (show wsX6_aunt[7]? = some (Cond.fieldLink RX6 54 "PartyWillModel" "aside" "[I") from rfl))
  have iX6 : ∀ w ∈ u_ws RX6 TX6 27, w ∈ wsX6_aunt := fun w h => List.mem_cons_of_mem _ (List.mem_append_right _ (h))
  subst hsz
  have hD := hD0.self (sz := s.heap.size)
  generalize hAe : va_A (wMo T am mguests mclause mdeeds masked mupper mlower mfinding mreadGuests misSight mat mrowSizes mrows mtextSizes mtexts mdoes mkinds msees mnow mbefore mkeeps mkept mfindings mread maside msteps mtried mbest) s.heap.size = A at hD ⊢
  have hA : ∀ q : Nat, s.heap.size ≤ q → A q := fun q h => by rw [← hAe]; exact Or.inr h
  have hS : va_S A s.heap s.heap [] := va_S.rf
  have hP : va_P D vwCl (wMo T am mguests mclause mdeeds masked mupper mlower mfinding mreadGuests misSight mat mrowSizes mrows mtextSizes mtexts mdoes mkinds msees mnow mbefore mkeeps mkept mfindings mread maside msteps mtried mbest) s.heap := hP
  obtain ⟨ls, hl, e0⟩ := my_entry (m := m) (n := 3) ha (Nat.le_of_ble_eq_true rfl)
  rw [e0]
  have hl : lv_has ls 3 [(0, .ref (am 0)), (1, .int x1)] := hl
  have key : ∀ Q : State → Prop, (∀ (H : Heap) (locs : List Loc) (pc : Nat) (ls : Array Slot), va_P D vwCl (wMo T am mguests mclause mdeeds masked mupper mlower mfinding mreadGuests misSight mat mrowSizes mrows mtextSizes mtexts mdoes mkinds msees mnow mbefore mkeeps mkept mfindings mread zmaside zmsteps zmtried zmbest) H → va_D A (wMo T am mguests mclause mdeeds masked mupper mlower mfinding mreadGuests misSight mat mrowSizes mrows mtextSizes mtexts mdoes mkinds msees mnow mbefore mkeeps mkept mfindings mread zmaside zmsteps zmtried zmbest) → va_S A s.heap H locs → decode cX6_aunt pc = .ok (.ireturn, 1) → W p l e ({ frames := 5, cells := 0, slots := 0, locals := 117 } : Room) s m args below meth c H locs 0 0 Q (F0 m pc ls [.int r])) → W p l e ({ frames := 5, cells := 0, slots := 0, locals := 117 } : Room) s m args below meth c s.heap [] 0 0 Q (F0 m 0 ls []) := by
    intro Q hret
    skip
    have l52 : ∀ x1 : Int32, ∀ nu : Nat, ∀ x2 : Int32, ∀ maside : Nat → Int32, ∀ msteps : Nat → Int32, ∀ mtried : Nat → Int32, ∀ mbest : Nat → Int32, fX6_aunt_l52 F mguests mclause mdoes mkinds msees mnow x1 nu x2 maside msteps mtried mbest = some (r, zmaside, zmsteps, zmtried, zmbest) → ∀ (H : Heap) (locs : List Loc), va_P D vwCl (wMo T am mguests mclause mdeeds masked mupper mlower mfinding mreadGuests misSight mat mrowSizes mrows mtextSizes mtexts mdoes mkinds msees mnow mbefore mkeeps mkept mfindings mread maside msteps mtried mbest) H → va_D A (wMo T am mguests mclause mdeeds masked mupper mlower mfinding mreadGuests misSight mat mrowSizes mrows mtextSizes mtexts mdoes mkinds msees mnow mbefore mkeeps mkept mfindings mread maside msteps mtried mbest) → va_S A s.heap H locs → ∀ (ls : Array Slot), lv_has ls 3 [(0, .ref (am 0)), (1, .int x1), (2, .int x2)] → W p l e ({ frames := 5, cells := 0, slots := 0, locals := 117 } : Room) s m args below meth c H locs 0 0 Q (F0 m 52 ls []) := by
      intro x1
      intro nu
      induction nu with
      | zero => intro x2 maside msteps mtried mbest h; exact none_some h
      | succ nu52 ih52 =>
        intro x2 maside msteps mtried mbest h H locs hP hD hS ls hl
        have n84 : ∀ s_0 : Int32, ∀ s_1 : Int32, ∀ x2 : Int32, ∀ maside : Nat → Int32, ∀ msteps : Nat → Int32, ∀ mtried : Nat → Int32, ∀ mbest : Nat → Int32, fX6_aunt_n84 F (fX6_aunt_l52 F mguests mclause mdoes mkinds msees mnow x1 nu52) mguests mclause mdoes mkinds msees mnow s_0 s_1 x1 x2 maside msteps mtried mbest = some (r, zmaside, zmsteps, zmtried, zmbest) → ∀ (H : Heap) (locs : List Loc), va_P D vwCl (wMo T am mguests mclause mdeeds masked mupper mlower mfinding mreadGuests misSight mat mrowSizes mrows mtextSizes mtexts mdoes mkinds msees mnow mbefore mkeeps mkept mfindings mread maside msteps mtried mbest) H → va_D A (wMo T am mguests mclause mdeeds masked mupper mlower mfinding mreadGuests misSight mat mrowSizes mrows mtextSizes mtexts mdoes mkinds msees mnow mbefore mkeeps mkept mfindings mread maside msteps mtried mbest) → va_S A s.heap H locs → ∀ (ls : Array Slot), lv_has ls 3 [(0, .ref (am 0)), (1, .int x1), (2, .int x2)] → W p l e ({ frames := 5, cells := 0, slots := 0, locals := 117 } : Room) s m args below meth c H locs 0 0 Q (F0 m 84 ls [.int s_1, .int s_0]) := by
          intro s_0 s_1 x2 maside msteps mtried mbest h H locs hP hD hS ls hl
          unfold fX6_aunt_n84 at h
          refine lv_icmp_ne (tgt := 110) hx hb dX6_aunt_84 (by decide) (fun c84 => ?_) (fun c84 => ?_)
          · have h := br_0 h c84
            refine lv_aload_n hx hb dX6_aunt_110 rfl (lv_at hl 0 rfl) ?_
            refine lv_iload_n hx hb dX6_aunt_111 rfl (lv_at hl 2 rfl) ?_
            obtain ⟨r112, w112_maside, w112_msteps, hc, h⟩ := bd3_some h
            have hFc := my_freeS hD hS hA
            refine my_rwz (va_runV (As := [.int x2]) (rest := []) hFix (kX6_tries l D T F am mguests mclause mdeeds masked mupper mlower mfinding mreadGuests misSight mat mrowSizes mrows mtextSizes mtexts mdoes mkinds msees mnow mbefore mkeeps mkept mfindings mread maside msteps mtried mbest x2 r112 w112_maside w112_msteps hc _) (cwV 1 hts gX6_aunt_X6_tries rfl rfl rfl ⟨rfl, hd_X6_tries⟩ ⟨Nat.le_of_ble_eq_true rfl, Nat.le_of_ble_eq_true rfl⟩) (preV_rw hP hKK hD (va_recv hK hP (ci := 4) (q0 := 0) rfl wMo_0)) rfl rfl hl.1 rfl (lv_room (Nat.le_of_ble_eq_true rfl)) dX6_aunt_112 ⟨Nat.zero_le _, Nat.zero_le _⟩) hS hFc (fun hb112 H1 locs hP1 hD1 hz1 hkk hS => ?_)
            have hP : va_P D vwCl (wMo T am mguests mclause mdeeds masked mupper mlower mfinding mreadGuests misSight mat mrowSizes mrows mtextSizes mtexts mdoes mkinds msees mnow mbefore mkeeps mkept mfindings mread w112_maside w112_msteps mtried mbest) H1 := hP1
            have hD : va_D A (wMo T am mguests mclause mdeeds masked mupper mlower mfinding mreadGuests misSight mat mrowSizes mrows mtextSizes mtexts mdoes mkinds msees mnow mbefore mkeeps mkept mfindings mread w112_maside w112_msteps mtried mbest) := hD1.weaken (fun _ q _ h => hFc q.1 h)
            generalize H1 = H at hP hS ⊢
            refine lv_if_eq (tgt := 52) hx hb dX6_aunt_115 (by decide) (fun c115 => ?_) (fun c115 => ?_)
            · have h := br_1 h c115
              exact ih52 x2 w112_maside w112_msteps mtried mbest h _ _ hP hD hS _ (lv_sub hl [0, 1, 2] rfl)
            · have h := br_0 h c115
              refine lv_iload_n hx hb dX6_aunt_118 rfl (lv_at hl 2 rfl) ?_
              refine lv_iconst (v := (2 : Int32)) hx hb dX6_aunt_119 (by decide) ?_
              refine lv_iload_n hx hb dX6_aunt_120 rfl (lv_at hl 1 rfl) ?_
              refine lv_imul hx hb dX6_aunt_121 ?_
              refine lv_iconst (v := (1 : Int32)) hx hb dX6_aunt_122 (by decide) ?_
              refine lv_isub hx hb dX6_aunt_123 ?_
              refine lv_icmp_ne (tgt := 155) hx hb dX6_aunt_124 (by decide) (fun c124 => ?_) (fun c124 => ?_)
              · have h := br_0 h c124
                refine lv_iinc (v := (x2 + (1 : Int32))) (lv' := [(2, .int (x2 + (1 : Int32))), (0, .ref (am 0)), (1, .int x1)]) hx hb dX6_aunt_155 hl (k := 2) rfl rfl (by decide) rfl (fun ls hl => ?_)
                refine lv_aload_n hx hb dX6_aunt_158 rfl (lv_at hl 1 rfl) ?_
                refine lv_iload_n hx hb dX6_aunt_159 rfl (lv_at hl 0 rfl) ?_
                obtain ⟨w160_mtried, w160_mbest, hc, h⟩ := bd2_some h
                have hFc := my_freeS hD hS hA
                refine my_rwv (va_runV (As := [.int (x2 + (1 : Int32))]) (rest := []) hFix (kX6_begins l D T F am mguests mclause mdeeds masked mupper mlower mfinding mreadGuests misSight mat mrowSizes mrows mtextSizes mtexts mdoes mkinds msees mnow mbefore mkeeps mkept mfindings mread w112_maside w112_msteps mtried mbest (x2 + (1 : Int32)) w160_mtried w160_mbest hc _) (cwV 1 hts gX6_aunt_X6_begins rfl rfl rfl ⟨rfl, hd_X6_begins⟩ ⟨Nat.le_of_ble_eq_true rfl, Nat.le_of_ble_eq_true rfl⟩) (preV_rw hP hKK hD (va_recv hK hP (ci := 4) (q0 := 0) rfl wMo_0)) rfl rfl hl.1 rfl (lv_room (Nat.le_of_ble_eq_true rfl)) dX6_aunt_160 ⟨Nat.zero_le _, Nat.zero_le _⟩) hS hFc (fun H1 locs hP1 hD1 hz1 hkk hS => ?_)
                have hP : va_P D vwCl (wMo T am mguests mclause mdeeds masked mupper mlower mfinding mreadGuests misSight mat mrowSizes mrows mtextSizes mtexts mdoes mkinds msees mnow mbefore mkeeps mkept mfindings mread w112_maside w112_msteps w160_mtried w160_mbest) H1 := hP1
                have hD : va_D A (wMo T am mguests mclause mdeeds masked mupper mlower mfinding mreadGuests misSight mat mrowSizes mrows mtextSizes mtexts mdoes mkinds msees mnow mbefore mkeeps mkept mfindings mread w112_maside w112_msteps w160_mtried w160_mbest) := hD1.weaken (fun _ q _ h => hFc q.1 h)
                generalize H1 = H at hP hS ⊢
                refine lv_goto (tgt := 52) hx hb dX6_aunt_163 (by decide) ?_
                exact ih52 (x2 + (1 : Int32)) w112_maside w112_msteps w160_mtried w160_mbest h _ _ hP hD hS _ (lv_sub hl [1, 2, 0] rfl)
              · have h := br_1 h c124
                refine lv_aload_n hx hb dX6_aunt_127 rfl (lv_at hl 0 rfl) ?_
                refine lv_iload_n hx hb dX6_aunt_128 rfl (lv_at hl 2 rfl) ?_
                refine lv_aload_n hx hb dX6_aunt_129 rfl (lv_at hl 0 rfl) ?_
                refine va_get (D := D) (ci := 4) (C := RX6) (T := TX6) (N := 27) hx hb hts iX6 hown hK hP 0 wMo_0 rfl 23 (by decide) q7 (fun _ h9 => h9) rfl dX6_aunt_130 ?_
                refine lv_bipush (v := (6 : Int32)) hx hb dX6_aunt_133 (by decide) ?_
                refine va_iald hx hb hK hP 14 0 wMo_14 rfl (show ¬ ((6 : Int32) < 0 ∨ 7 ≤ (6 : Int32).toNatClampNeg) by decide) dX6_aunt_135 ?_
                refine lv_aload_n hx hb dX6_aunt_136 rfl (lv_at hl 0 rfl) ?_
                refine va_get (D := D) (ci := 4) (C := RX6) (T := TX6) (N := 27) hx hb hts iX6 hown hK hP 0 wMo_0 rfl 9 (by decide) q3 (fun _ h9 => h9) rfl dX6_aunt_137 ?_
                refine lv_bipush (v := (6 : Int32)) hx hb dX6_aunt_140 (by decide) ?_
                refine va_iald hx hb hK hP 8 0 wMo_8 rfl (show ¬ ((6 : Int32) < 0 ∨ 7 ≤ (6 : Int32).toNatClampNeg) by decide) dX6_aunt_142 ?_
                refine lv_iconst (v := (-1 : Int32)) hx hb dX6_aunt_143 (by decide) ?_
                refine lv_ixor hx hb dX6_aunt_144 ?_
                refine lv_iand hx hb dX6_aunt_145 ?_
                obtain ⟨r146, hc, h⟩ := bd1_some h
                refine my_roi (va_Run.run (va_runS (As := [.int ((w112_maside (6 : Int32).toNatClampNeg) &&& ((mnow (6 : Int32).toNatClampNeg) ^^^ (-1 : Int32)))]) (rest := [.int x2, .ref (am 0)]) hFix (kX6_bits l D T F ((w112_maside (6 : Int32).toNatClampNeg) &&& ((mnow (6 : Int32).toNatClampNeg) ^^^ (-1 : Int32))) r146 hc) (va_cwS 1 hts gX6_aunt_X6_bits rfl rfl rfl hd_X6_bits ⟨Nat.le_of_ble_eq_true rfl, Nat.le_of_ble_eq_true rfl⟩) (preS_ro va_nil hKK) rfl rfl hl.1 rfl (lv_room (Nat.le_of_ble_eq_true rfl)) dX6_aunt_146 ⟨Nat.zero_le _, Nat.zero_le _⟩)) ?_
                obtain ⟨w149_mbest, hc, h⟩ := bd1_some h
                have hFc := my_freeS hD hS hA
                refine my_rwv (va_runV (As := [.int x2, .int r146]) (rest := []) hFix (kX6_weighs l D T F am mguests mclause mdeeds masked mupper mlower mfinding mreadGuests misSight mat mrowSizes mrows mtextSizes mtexts mdoes mkinds msees mnow mbefore mkeeps mkept mfindings mread w112_maside w112_msteps mtried mbest x2 r146 w149_mbest hc _) (cwV 2 hts gX6_aunt_X6_weighs rfl rfl rfl ⟨rfl, hd_X6_weighs⟩ ⟨Nat.le_of_ble_eq_true rfl, Nat.le_of_ble_eq_true rfl⟩) (preV_rw hP hKK hD (va_recv hK hP (ci := 4) (q0 := 0) rfl wMo_0)) rfl rfl hl.1 rfl (lv_room (Nat.le_of_ble_eq_true rfl)) dX6_aunt_149 ⟨Nat.zero_le _, Nat.zero_le _⟩) hS hFc (fun H1 locs hP1 hD1 hz1 hkk hS => ?_)
                have hP : va_P D vwCl (wMo T am mguests mclause mdeeds masked mupper mlower mfinding mreadGuests misSight mat mrowSizes mrows mtextSizes mtexts mdoes mkinds msees mnow mbefore mkeeps mkept mfindings mread w112_maside w112_msteps mtried w149_mbest) H1 := hP1
                have hD : va_D A (wMo T am mguests mclause mdeeds masked mupper mlower mfinding mreadGuests misSight mat mrowSizes mrows mtextSizes mtexts mdoes mkinds msees mnow mbefore mkeeps mkept mfindings mread w112_maside w112_msteps mtried w149_mbest) := hD1.weaken (fun _ q _ h => hFc q.1 h)
                generalize H1 = H at hP hS ⊢
                refine lv_goto (tgt := 52) hx hb dX6_aunt_152 (by decide) ?_
                exact ih52 x2 w112_maside w112_msteps mtried w149_mbest h _ _ hP hD hS _ (lv_sub hl [0, 1, 2] rfl)
          · have h := br_1 h c84
            refine lv_iinc (v := (x2 + (-1 : Int32))) (lv' := [(2, .int (x2 + (-1 : Int32))), (0, .ref (am 0)), (1, .int x1)]) hx hb dX6_aunt_87 hl (k := 2) rfl rfl (by decide) rfl (fun ls hl => ?_)
            refine lv_iload_n hx hb dX6_aunt_90 rfl (lv_at hl 0 rfl) ?_
            refine lv_if_lt (tgt := 52) hx hb dX6_aunt_91 (by decide) (fun c91 => ?_) (fun c91 => ?_)
            · have h := br_1 h c91
              exact ih52 (x2 + (-1 : Int32)) maside msteps mtried mbest h _ _ hP hD hS _ (lv_sub hl [1, 2, 0] rfl)
            · have h := br_0 h c91
              refine lv_aload_n hx hb dX6_aunt_94 rfl (lv_at hl 1 rfl) ?_
              refine lv_iload_n hx hb dX6_aunt_95 rfl (lv_at hl 0 rfl) ?_
              refine lv_aload_n hx hb dX6_aunt_96 rfl (lv_at hl 1 rfl) ?_
              refine va_get (D := D) (ci := 4) (C := RX6) (T := TX6) (N := 27) hx hb hts iX6 hown hK hP 0 wMo_0 rfl 26 (by decide) q6 (fun _ h9 => h9) rfl dX6_aunt_97 ?_
              refine lv_iload_n hx hb dX6_aunt_100 rfl (lv_at hl 0 rfl) ?_
              refine lv_iconst (v := (1 : Int32)) hx hb dX6_aunt_101 (by decide) ?_
              refine lv_iadd hx hb dX6_aunt_102 ?_
              obtain ⟨hin1, h⟩ := ck_some h
              refine va_iald hx hb hK hP 17 0 wMo_17 rfl hin1 dX6_aunt_103 ?_
              obtain ⟨w104_mbest, hc, h⟩ := bd1_some h
              have hFc := my_freeS hD hS hA
              refine my_rwv (va_runV (As := [.int (x2 + (-1 : Int32)), .int (mbest ((x2 + (-1 : Int32)) + (1 : Int32)).toNatClampNeg)]) (rest := []) hFix (kX6_weighs l D T F am mguests mclause mdeeds masked mupper mlower mfinding mreadGuests misSight mat mrowSizes mrows mtextSizes mtexts mdoes mkinds msees mnow mbefore mkeeps mkept mfindings mread maside msteps mtried mbest (x2 + (-1 : Int32)) (mbest ((x2 + (-1 : Int32)) + (1 : Int32)).toNatClampNeg) w104_mbest hc _) (cwV 2 hts gX6_aunt_X6_weighs rfl rfl rfl ⟨rfl, hd_X6_weighs⟩ ⟨Nat.le_of_ble_eq_true rfl, Nat.le_of_ble_eq_true rfl⟩) (preV_rw hP hKK hD (va_recv hK hP (ci := 4) (q0 := 0) rfl wMo_0)) rfl rfl hl.1 rfl (lv_room (Nat.le_of_ble_eq_true rfl)) dX6_aunt_104 ⟨Nat.zero_le _, Nat.zero_le _⟩) hS hFc (fun H1 locs hP1 hD1 hz1 hkk hS => ?_)
              have hP : va_P D vwCl (wMo T am mguests mclause mdeeds masked mupper mlower mfinding mreadGuests misSight mat mrowSizes mrows mtextSizes mtexts mdoes mkinds msees mnow mbefore mkeeps mkept mfindings mread maside msteps mtried w104_mbest) H1 := hP1
              have hD : va_D A (wMo T am mguests mclause mdeeds masked mupper mlower mfinding mreadGuests misSight mat mrowSizes mrows mtextSizes mtexts mdoes mkinds msees mnow mbefore mkeeps mkept mfindings mread maside msteps mtried w104_mbest) := hD1.weaken (fun _ q _ h => hFc q.1 h)
              generalize H1 = H at hP hS ⊢
              refine lv_goto (tgt := 52) hx hb dX6_aunt_107 (by decide) ?_
              exact ih52 (x2 + (-1 : Int32)) maside msteps mtried w104_mbest h _ _ hP hD hS _ (lv_sub hl [1, 2, 0] rfl)
        have h : fX6_aunt_l52_b F mguests mclause mdoes mkinds msees mnow x1 (fX6_aunt_l52 F mguests mclause mdoes mkinds msees mnow x1 nu52) x2 maside msteps mtried mbest = some (r, zmaside, zmsteps, zmtried, zmbest) := h
        unfold fX6_aunt_l52_b at h
        refine lv_iload_n hx hb dX6_aunt_52 rfl (lv_at hl 2 rfl) ?_
        refine lv_if_lt (tgt := 166) hx hb dX6_aunt_53 (by decide) (fun c53 => ?_) (fun c53 => ?_)
        · have h := br_1 h c53
          refine lv_aload_n hx hb dX6_aunt_166 rfl (lv_at hl 0 rfl) ?_
          refine va_get (D := D) (ci := 4) (C := RX6) (T := TX6) (N := 27) hx hb hts iX6 hown hK hP 0 wMo_0 rfl 26 (by decide) q6 (fun _ h9 => h9) rfl dX6_aunt_167 ?_
          refine lv_iconst (v := (0 : Int32)) hx hb dX6_aunt_170 (by decide) ?_
          refine va_iald hx hb hK hP 17 0 wMo_17 rfl (show ¬ ((0 : Int32) < 0 ∨ 7 ≤ (0 : Int32).toNatClampNeg) by decide) dX6_aunt_171 ?_
          cases h
          exact hret _ _ _ _ hP hD hS dX6_aunt_172
        · have h := br_0 h c53
          refine lv_aload_n hx hb dX6_aunt_56 rfl (lv_at hl 0 rfl) ?_
          refine va_get (D := D) (ci := 4) (C := RX6) (T := TX6) (N := 27) hx hb hts iX6 hown hK hP 0 wMo_0 rfl 25 (by decide) q5 (fun _ h9 => h9) rfl dX6_aunt_57 ?_
          refine lv_iload_n hx hb dX6_aunt_60 rfl (lv_at hl 2 rfl) ?_
          refine lv_dup2_11 hx hb dX6_aunt_61 rfl rfl ?_
          obtain ⟨hin2, h⟩ := ck_some h
          refine va_iald hx hb hK hP 16 0 wMo_16 rfl hin2 dX6_aunt_62 ?_
          refine lv_iconst (v := (1 : Int32)) hx hb dX6_aunt_63 (by decide) ?_
          refine lv_iadd hx hb dX6_aunt_64 ?_
          obtain ⟨hin3, h⟩ := ck_some h
          refine va_iast hx hb hK hP hD hS 16 0 wMo_16 rfl hin3 dX6_aunt_65 (fun H locs hP hD hS => ?_)
          have hP : va_P D vwCl (wMo T am mguests mclause mdeeds masked mupper mlower mfinding mreadGuests misSight mat mrowSizes mrows mtextSizes mtexts mdoes mkinds msees mnow mbefore mkeeps mkept mfindings mread maside msteps (upd mtried x2.toNatClampNeg ((mtried x2.toNatClampNeg) + (1 : Int32))) mbest) H := hP
          have hD : va_D A (wMo T am mguests mclause mdeeds masked mupper mlower mfinding mreadGuests misSight mat mrowSizes mrows mtextSizes mtexts mdoes mkinds msees mnow mbefore mkeeps mkept mfindings mread maside msteps (upd mtried x2.toNatClampNeg ((mtried x2.toNatClampNeg) + (1 : Int32))) mbest) := hD
          refine lv_aload_n hx hb dX6_aunt_66 rfl (lv_at hl 0 rfl) ?_
          refine va_get (D := D) (ci := 4) (C := RX6) (T := TX6) (N := 27) hx hb hts iX6 hown hK hP 0 wMo_0 rfl 25 (by decide) q5 (fun _ h9 => h9) rfl dX6_aunt_67 ?_
          refine lv_iload_n hx hb dX6_aunt_70 rfl (lv_at hl 2 rfl) ?_
          obtain ⟨hin4, h⟩ := ck_some h
          refine va_iald hx hb hK hP 16 0 wMo_16 rfl hin4 dX6_aunt_71 ?_
          refine lv_iload_n hx hb dX6_aunt_72 rfl (lv_at hl 2 rfl) ?_
          refine lv_iconst (v := (2 : Int32)) hx hb dX6_aunt_73 (by decide) ?_
          refine lv_irem hx hb dX6_aunt_74 (by decide) ?_
          refine lv_if_ne (tgt := 82) hx hb dX6_aunt_75 (by decide) (fun c75 => ?_) (fun c75 => ?_)
          · have h := br_0 h c75
            refine lv_bipush (v := (7 : Int32)) hx hb dX6_aunt_82 (by decide) ?_
            exact n84 ((upd mtried x2.toNatClampNeg ((mtried x2.toNatClampNeg) + (1 : Int32))) x2.toNatClampNeg) (7 : Int32) x2 maside msteps (upd mtried x2.toNatClampNeg ((mtried x2.toNatClampNeg) + (1 : Int32))) mbest h _ _ hP hD hS _ (lv_sub hl [0, 1, 2] rfl)
          · have h := br_1 h c75
            refine lv_iconst (v := (4 : Int32)) hx hb dX6_aunt_78 (by decide) ?_
            refine lv_goto (tgt := 84) hx hb dX6_aunt_79 (by decide) ?_
            exact n84 ((upd mtried x2.toNatClampNeg ((mtried x2.toNatClampNeg) + (1 : Int32))) x2.toNatClampNeg) (4 : Int32) x2 maside msteps (upd mtried x2.toNatClampNeg ((mtried x2.toNatClampNeg) + (1 : Int32))) mbest h _ _ hP hD hS _ (lv_sub hl [0, 1, 2] rfl)
    unfold fX6_aunt at h
    refine lv_iload_n hx hb dX6_aunt_0 rfl (lv_at hl 1 rfl) ?_
    refine lv_i2l (v := (x1.toInt64)) hx hb dX6_aunt_1 rfl ?_
    refine lv_lconst (v := (0 : Int64)) hx hb dX6_aunt_2 (by decide) ?_
    refine lv_ldc2 (v := (3 : Int64)) hx hb hown q1 dX6_aunt_3 ?_
    obtain ⟨r6, hc, h⟩ := bd1_some h
    refine my_roz (va_Run.run (va_runS (As := [.long (x1.toInt64), .long (0 : Int64), .long (3 : Int64)]) (rest := []) hFix (kX6_in l D T F (x1.toInt64) (0 : Int64) (3 : Int64) r6 hc) (va_cwS 3 hts gX6_aunt_X6_in rfl rfl rfl hd_X6_in ⟨Nat.le_of_ble_eq_true rfl, Nat.le_of_ble_eq_true rfl⟩) (preS_ro va_nil hKK) rfl rfl hl.1 rfl (lv_room (Nat.le_of_ble_eq_true rfl)) dX6_aunt_6 ⟨Nat.zero_le _, Nat.zero_le _⟩)) (fun hb6 => ?_)
    refine lv_if_ne (tgt := 14) hx hb dX6_aunt_9 (by decide) (fun c9 => ?_) (fun c9 => ?_)
    · have h := br_0 h c9
      refine lv_aload_n hx hb dX6_aunt_14 rfl (lv_at hl 0 rfl) ?_
      refine va_get (D := D) (ci := 4) (C := RX6) (T := TX6) (N := 27) hx hb hts iX6 hown hK hP 0 wMo_0 rfl 4 (by decide) q2 (fun _ h9 => h9) rfl dX6_aunt_15 ?_
      refine lv_if_ne (tgt := 24) hx hb dX6_aunt_18 (by decide) (fun c18 => ?_) (fun c18 => ?_)
      · have h := br_0 h c18
        refine lv_iload_n hx hb dX6_aunt_24 rfl (lv_at hl 1 rfl) ?_
        refine lv_if_ne (tgt := 30) hx hb dX6_aunt_25 (by decide) (fun c25 => ?_) (fun c25 => ?_)
        · have h := br_0 h c25
          refine lv_aload_n hx hb dX6_aunt_30 rfl (lv_at hl 0 rfl) ?_
          refine va_get (D := D) (ci := 4) (C := RX6) (T := TX6) (N := 27) hx hb hts iX6 hown hK hP 0 wMo_0 rfl 9 (by decide) q3 (fun _ h9 => h9) rfl dX6_aunt_31 ?_
          refine lv_iconst (v := (0 : Int32)) hx hb dX6_aunt_34 (by decide) ?_
          refine lv_aload_n hx hb dX6_aunt_35 rfl (lv_at hl 0 rfl) ?_
          refine va_get (D := D) (ci := 4) (C := RX6) (T := TX6) (N := 27) hx hb hts iX6 hown hK hP 0 wMo_0 rfl 24 (by decide) q4 (fun _ h9 => h9) rfl dX6_aunt_36 ?_
          refine lv_iconst (v := (0 : Int32)) hx hb dX6_aunt_39 (by decide) ?_
          refine lv_bipush (v := (7 : Int32)) hx hb dX6_aunt_40 (by decide) ?_
          obtain ⟨w42_f2, hc, h⟩ := bd1_some h
          have hPc : va_P D vwCl (wA2 T (am 8) (am 15) 7 49 mnow msteps) _ := my_subP sb_wMo_wA2_8_15 hP
          have hDc := hD.sub [8, 15] (by decide) sb_wMo_wA2_8_15
          have hFc := va_free hD hS hA [8, 15] sb_wMo_wA2_8_15
          refine my_rwv (va_runS (As := [.ref (am 8), .int (0 : Int32), .ref (am 15), .int (0 : Int32), .int (7 : Int32)]) (rest := []) hFix (kX6_copies l D T F (am 8) (am 15) 7 49 mnow msteps (0 : Int32) (0 : Int32) (7 : Int32) w42_f2 hc _) (va_cwS 5 hts gX6_aunt_X6_copies rfl rfl rfl hd_X6_copies ⟨Nat.le_of_ble_eq_true rfl, Nat.le_of_ble_eq_true rfl⟩) (preS_rw hPc hKK hDc) rfl rfl hl.1 rfl (lv_room (Nat.le_of_ble_eq_true rfl)) dX6_aunt_42 ⟨Nat.zero_le _, Nat.zero_le _⟩) hS hFc (fun H1 locs hP1 hD1 hz1 hkk hS => ?_)
          obtain ⟨hP, hD⟩ := my_joinS hP hD (by decide) sb_wMo_wA2_8_15 (by rfl) hkk hFc hP1 hD1
          rw [st_wMo_wA2_8_15_copies] at hP hD
          generalize H1 = H at hP hS ⊢
          refine lv_aload_n hx hb dX6_aunt_45 rfl (lv_at hl 0 rfl) ?_
          refine lv_iconst (v := (0 : Int32)) hx hb dX6_aunt_46 (by decide) ?_
          obtain ⟨w47_mtried, w47_mbest, hc, h⟩ := bd2_some h
          have hFc := my_freeS hD hS hA
          refine my_rwv (va_runV (As := [.int (0 : Int32)]) (rest := []) hFix (kX6_begins l D T F am mguests mclause mdeeds masked mupper mlower mfinding mreadGuests misSight mat mrowSizes mrows mtextSizes mtexts mdoes mkinds msees mnow mbefore mkeeps mkept mfindings mread maside w42_f2 mtried mbest (0 : Int32) w47_mtried w47_mbest hc _) (cwV 1 hts gX6_aunt_X6_begins rfl rfl rfl ⟨rfl, hd_X6_begins⟩ ⟨Nat.le_of_ble_eq_true rfl, Nat.le_of_ble_eq_true rfl⟩) (preV_rw hP hKK hD (va_recv hK hP (ci := 4) (q0 := 0) rfl wMo_0)) rfl rfl hl.1 rfl (lv_room (Nat.le_of_ble_eq_true rfl)) dX6_aunt_47 ⟨Nat.zero_le _, Nat.zero_le _⟩) hS hFc (fun H1 locs hP1 hD1 hz1 hkk hS => ?_)
          have hP : va_P D vwCl (wMo T am mguests mclause mdeeds masked mupper mlower mfinding mreadGuests misSight mat mrowSizes mrows mtextSizes mtexts mdoes mkinds msees mnow mbefore mkeeps mkept mfindings mread maside w42_f2 w47_mtried w47_mbest) H1 := hP1
          have hD : va_D A (wMo T am mguests mclause mdeeds masked mupper mlower mfinding mreadGuests misSight mat mrowSizes mrows mtextSizes mtexts mdoes mkinds msees mnow mbefore mkeeps mkept mfindings mread maside w42_f2 w47_mtried w47_mbest) := hD1.weaken (fun _ q _ h => hFc q.1 h)
          generalize H1 = H at hP hS ⊢
          refine lv_iconst (v := (0 : Int32)) hx hb dX6_aunt_50 (by decide) ?_
          refine lv_istore_n (lv' := [(2, .int (0 : Int32)), (0, .ref (am 0)), (1, .int x1)]) hx hb dX6_aunt_51 rfl hl (by decide) rfl (fun ls hl => ?_)
          exact l52 x1 F (0 : Int32) maside w42_f2 w47_mtried w47_mbest h _ _ hP hD hS _ (lv_sub hl [1, 2, 0] rfl)
        · have h := br_1 h c25
          refine lv_iconst (v := (0 : Int32)) hx hb dX6_aunt_28 (by decide) ?_
          cases h
          exact hret _ _ _ _ hP hD hS dX6_aunt_29
      · have h := br_1 h c18
        refine lv_bipush (v := (-4 : Int32)) hx hb dX6_aunt_21 (by decide) ?_
        cases h
        exact hret _ _ _ _ hP hD hS dX6_aunt_23
    · have h := br_1 h c9
      refine lv_iconst (v := (-1 : Int32)) hx hb dX6_aunt_12 (by decide) ?_
      cases h
      exact hret _ _ _ _ hP hD hS dX6_aunt_13
  exact key _ (fun H locs pc ls hP hD hS hd => W.iret hx hb hr (fun t ht hW => ⟨⟨_, (), rfl, rfl, by show _ ∧ _; rw [ht]; exact ⟨hP, hD⟩⟩, hS.F ht⟩) hS.2.2 hd)
set_option maxHeartbeats 4000000 in
set_option maxRecDepth 100000 in
theorem kX6_evening (l : Launch) (D : va_G) (T : Nat → ClassId) (F : Nat) (am : Nat → Nat) (mguests : Int32) (mclause : Int32) (mdeeds : Int32) (masked : Int32) (mupper : Int64) (mlower : Int64) (mfinding : Int32) (mreadGuests : Int32) (misSight : Int32) (mat : Int32) (mrowSizes : Nat → Int32) (mrows : Nat → Int32) (mtextSizes : Nat → Int32) (mtexts : Nat → Int32) (mdoes : Nat → Int32) (mkinds : Nat → Int32) (msees : Nat → Int32) (mnow : Nat → Int32) (mbefore : Nat → Int32) (mkeeps : Nat → Int32) (mkept : Nat → Int32) (mfindings : Nat → Int32) (mread : Nat → Int32) (maside : Nat → Int32) (msteps : Nat → Int32) (mtried : Nat → Int32) (mbest : Nat → Int32) (x1 : Int32) (x2 : Int32) (r : Int32) (zmfinding : Int32) (zmfindings : Nat → Int32) (h : fX6_evening F mguests mfinding mrowSizes mrows mnow mfindings x1 x2 = some (r, zmfinding, zmfindings)) : ∀ sz : Nat, Met l yX6_evening wsX6_evening ({ frames := 2, cells := 0, slots := 0, locals := 46 } : Room) (va_Pc [.ref (am 0), .int x1, .int x2] (fun U => U.heap.size = sz ∧ va_P D vwCl (wMo T am mguests mclause mdeeds masked mupper mlower mfinding mreadGuests misSight mat mrowSizes mrows mtextSizes mtexts mdoes mkinds msees mnow mbefore mkeeps mkept mfindings mread maside msteps mtried mbest) U.heap ∧ KK D T U ∧ va_D (fun _ => True) (wMo T am mguests mclause mdeeds masked mupper mlower mfinding mreadGuests misSight mat mrowSizes mrows mtextSizes mtexts mdoes mkinds msees mnow mbefore mkeeps mkept mfindings mread maside msteps mtried mbest))) (va_Qi (fun r' (_ : Unit) => r' = r) (fun _ t => va_P D vwCl (wMo T am mguests mclause mdeeds masked mupper mlower zmfinding mreadGuests misSight mat mrowSizes mrows mtextSizes mtexts mdoes mkinds msees mnow mbefore mkeeps mkept zmfindings mread maside msteps mtried mbest) t.heap ∧ va_D (va_A (wMo T am mguests mclause mdeeds masked mupper mlower mfinding mreadGuests misSight mat mrowSizes mrows mtextSizes mtexts mdoes mkinds msees mnow mbefore mkeeps mkept mfindings mread maside msteps mtried mbest) sz) (wMo T am mguests mclause mdeeds masked mupper mlower zmfinding mreadGuests misSight mat mrowSizes mrows mtextSizes mtexts mdoes mkinds msees mnow mbefore mkeeps mkept zmfindings mread maside msteps mtried mbest)) (va_A (wMo T am mguests mclause mdeeds masked mupper mlower mfinding mreadGuests misSight mat mrowSizes mrows mtextSizes mtexts mdoes mkinds msees mnow mbefore mkeeps mkept mfindings mread maside msteps mtried mbest) sz)) 0 0 (va_A (wMo T am mguests mclause mdeeds masked mupper mlower mfinding mreadGuests misSight mat mrowSizes mrows mtextSizes mtexts mdoes mkinds msees mnow mbefore mkeeps mkept mfindings mread maside msteps mtried mbest) sz) := by
  intro sz
  refine Met.ofW (cc := cX6_evening) (maxL := 5) (ret := some .int) (by decide) rfl ?_
  intro p e s m args below meth c s₁ B hml hv
  obtain ⟨ha, hsz, hP, hKK, hD0⟩ := hv
  have hx := B.exec
  have hb := B.bytes
  have hr := B.returns
  have hts := atoms_spec (ws := wsX6_evening) B.pre
  have hown : s.vm.findClass RX6 = some m.cls := findClass_of_methodNamed B.named
  have hlocks := B.notSynchronized
  have hK := hKK.1
  have hFix : CallFix p m c cX6_evening 5 s args wsX6_evening RX6 := ⟨hx, hb, hml, hown, hts⟩
  have q1 := hts _ (List.mem_of_getElem? (i := 1) (show wsX6_evening[1]? = some (Cond.fieldLink RX6 31 "PartyWillModel" "now" "[I") from rfl))
  have q2 := hts _ (List.mem_of_getElem? (i := 2) (show wsX6_evening[2]? = some (Cond.fieldLink RX6 7 "PartyWillModel" "rowSizes" "[I") from rfl))
  have q3 := hts _ (List.mem_of_getElem? (i := 3) (show wsX6_evening[3]? = some (Cond.fieldLink RX6 13 "PartyWillModel" "rows" "[I") from rfl))
  have q4 := hts _ (List.mem_of_getElem? (i := 4) (show wsX6_evening[4]? = some (Cond.constantLong RX6 252 (20)) from rfl))
  have iX6 : ∀ w ∈ u_ws RX6 TX6 27, w ∈ wsX6_evening := fun w h => List.mem_cons_of_mem _ (List.mem_append_right _ (h))
  subst hsz
  have hD := hD0.self (sz := s.heap.size)
  generalize hAe : va_A (wMo T am mguests mclause mdeeds masked mupper mlower mfinding mreadGuests misSight mat mrowSizes mrows mtextSizes mtexts mdoes mkinds msees mnow mbefore mkeeps mkept mfindings mread maside msteps mtried mbest) s.heap.size = A at hD ⊢
  have hA : ∀ q : Nat, s.heap.size ≤ q → A q := fun q h => by rw [← hAe]; exact Or.inr h
  have hS : va_S A s.heap s.heap [] := va_S.rf
  have hP : va_P D vwCl (wMo T am mguests mclause mdeeds masked mupper mlower mfinding mreadGuests misSight mat mrowSizes mrows mtextSizes mtexts mdoes mkinds msees mnow mbefore mkeeps mkept mfindings mread maside msteps mtried mbest) s.heap := hP
  obtain ⟨ls, hl, e0⟩ := my_entry (m := m) (n := 5) ha (Nat.le_of_ble_eq_true rfl)
  rw [e0]
  have hl : lv_has ls 5 [(0, .ref (am 0)), (1, .int x1), (2, .int x2)] := hl
  have key : ∀ Q : State → Prop, (∀ (H : Heap) (locs : List Loc) (pc : Nat) (ls : Array Slot), va_P D vwCl (wMo T am mguests mclause mdeeds masked mupper mlower zmfinding mreadGuests misSight mat mrowSizes mrows mtextSizes mtexts mdoes mkinds msees mnow mbefore mkeeps mkept zmfindings mread maside msteps mtried mbest) H → va_D A (wMo T am mguests mclause mdeeds masked mupper mlower zmfinding mreadGuests misSight mat mrowSizes mrows mtextSizes mtexts mdoes mkinds msees mnow mbefore mkeeps mkept zmfindings mread maside msteps mtried mbest) → va_S A s.heap H locs → decode cX6_evening pc = .ok (.ireturn, 1) → W p l e ({ frames := 2, cells := 0, slots := 0, locals := 46 } : Room) s m args below meth c H locs 0 0 Q (F0 m pc ls [.int r])) → W p l e ({ frames := 2, cells := 0, slots := 0, locals := 46 } : Room) s m args below meth c s.heap [] 0 0 Q (F0 m 0 ls []) := by
    intro Q hret
    skip
    have l82 : ∀ x2 : Int32, ∀ mfinding : Int32, ∀ mfindings : Nat → Int32, ∀ nu : Nat, ∀ x3 : Int32, ∀ x4 : Int32, fX6_evening_l82 F mguests mrowSizes mrows mnow x2 mfinding mfindings nu x3 x4 = some (r, zmfinding, zmfindings) → ∀ (H : Heap) (locs : List Loc), va_P D vwCl (wMo T am mguests mclause mdeeds masked mupper mlower mfinding mreadGuests misSight mat mrowSizes mrows mtextSizes mtexts mdoes mkinds msees mnow mbefore mkeeps mkept mfindings mread maside msteps mtried mbest) H → va_D A (wMo T am mguests mclause mdeeds masked mupper mlower mfinding mreadGuests misSight mat mrowSizes mrows mtextSizes mtexts mdoes mkinds msees mnow mbefore mkeeps mkept mfindings mread maside msteps mtried mbest) → va_S A s.heap H locs → ∀ (ls : Array Slot), lv_has ls 5 [(0, .ref (am 0)), (2, .int x2), (3, .int x3), (4, .int x4)] → W p l e ({ frames := 2, cells := 0, slots := 0, locals := 46 } : Room) s m args below meth c H locs 0 0 Q (F0 m 82 ls []) := by
      intro x2 mfinding mfindings
      intro nu
      induction nu with
      | zero => intro x3 x4 h; exact none_some h
      | succ nu82 ih82 =>
        intro x3 x4 h H locs hP hD hS ls hl
        have h : fX6_evening_l82_b F mguests mrowSizes mrows mnow x2 mfinding mfindings (fX6_evening_l82 F mguests mrowSizes mrows mnow x2 mfinding mfindings nu82) x3 x4 = some (r, zmfinding, zmfindings) := h
        unfold fX6_evening_l82_b at h
        refine lv_iload hx hb dX6_evening_82 (lv_at hl 3 rfl) ?_
        refine lv_aload_n hx hb dX6_evening_84 rfl (lv_at hl 0 rfl) ?_
        refine va_get (D := D) (ci := 4) (C := RX6) (T := TX6) (N := 27) hx hb hts iX6 hown hK hP 0 wMo_0 rfl 0 (by decide) q2 (fun _ h9 => h9) rfl dX6_evening_85 ?_
        refine lv_iload_n hx hb dX6_evening_88 rfl (lv_at hl 1 rfl) ?_
        obtain ⟨hin1, h⟩ := ck_some h
        refine va_iald hx hb hK hP 1 0 wMo_1 rfl hin1 dX6_evening_89 ?_
        refine lv_icmp_ge (tgt := 152) hx hb dX6_evening_90 (by decide) (fun c90 => ?_) (fun c90 => ?_)
        · have h := br_1 h c90
          refine lv_iload_n hx hb dX6_evening_152 rfl (lv_at hl 2 rfl) ?_
          refine lv_if_eq (tgt := 160) hx hb dX6_evening_153 (by decide) (fun c153 => ?_) (fun c153 => ?_)
          · have h := br_1 h c153
            refine lv_aload_n hx hb dX6_evening_160 rfl (lv_at hl 0 rfl) ?_
            refine lv_iconst (v := (3 : Int32)) hx hb dX6_evening_161 (by decide) ?_
            obtain ⟨r162, w162_mfinding, w162_mfindings, hc, h⟩ := bd3_some h
            have hFc := my_freeS hD hS hA
            refine my_rwi (va_runV (As := [.int (3 : Int32)]) (rest := []) hFix (kX6_found l D T F am mguests mclause mdeeds masked mupper mlower mfinding mreadGuests misSight mat mrowSizes mrows mtextSizes mtexts mdoes mkinds msees mnow mbefore mkeeps mkept mfindings mread maside msteps mtried mbest (3 : Int32) r162 w162_mfinding w162_mfindings hc _) (cwV 1 hts gX6_evening_X6_found rfl rfl rfl ⟨rfl, hd_X6_found⟩ ⟨Nat.le_of_ble_eq_true rfl, Nat.le_of_ble_eq_true rfl⟩) (preV_rw hP hKK hD (va_recv hK hP (ci := 4) (q0 := 0) rfl wMo_0)) rfl rfl hl.1 rfl (lv_room (Nat.le_of_ble_eq_true rfl)) dX6_evening_162 ⟨Nat.zero_le _, Nat.zero_le _⟩) hS hFc (fun H1 locs hP1 hD1 hz1 hkk hS => ?_)
            have hP : va_P D vwCl (wMo T am mguests mclause mdeeds masked mupper mlower w162_mfinding mreadGuests misSight mat mrowSizes mrows mtextSizes mtexts mdoes mkinds msees mnow mbefore mkeeps mkept w162_mfindings mread maside msteps mtried mbest) H1 := hP1
            have hD : va_D A (wMo T am mguests mclause mdeeds masked mupper mlower w162_mfinding mreadGuests misSight mat mrowSizes mrows mtextSizes mtexts mdoes mkinds msees mnow mbefore mkeeps mkept w162_mfindings mread maside msteps mtried mbest) := hD1.weaken (fun _ q _ h => hFc q.1 h)
            generalize H1 = H at hP hS ⊢
            cases h
            exact hret _ _ _ _ hP hD hS dX6_evening_165
          · have h := br_0 h c153
            refine lv_iconst (v := (0 : Int32)) hx hb dX6_evening_156 (by decide) ?_
            refine lv_goto (tgt := 165) hx hb dX6_evening_157 (by decide) ?_
            cases h
            exact hret _ _ _ _ hP hD hS dX6_evening_165
        · have h := br_0 h c90
          refine lv_iload_n hx hb dX6_evening_93 rfl (lv_at hl 2 rfl) ?_
          refine lv_if_eq (tgt := 144) hx hb dX6_evening_94 (by decide) (fun c94 => ?_) (fun c94 => ?_)
          · have h := br_1 h c94
            refine lv_iconst (v := (0 : Int32)) hx hb dX6_evening_144 (by decide) ?_
            refine lv_istore_n (lv' := [(3, .int (0 : Int32)), (0, .ref (am 0)), (2, .int x2), (4, .int x4)]) hx hb dX6_evening_145 rfl hl (by decide) rfl (fun ls hl => ?_)
            refine lv_iinc (v := (x4 + (2 : Int32))) (lv' := [(4, .int (x4 + (2 : Int32))), (3, .int (0 : Int32)), (0, .ref (am 0)), (2, .int x2)]) hx hb dX6_evening_146 hl (k := 3) rfl rfl (by decide) rfl (fun ls hl => ?_)
            refine lv_goto (tgt := 82) hx hb dX6_evening_149 (by decide) ?_
            exact ih82 (0 : Int32) (x4 + (2 : Int32)) h _ _ hP hD hS _ (lv_sub hl [2, 3, 1, 0] rfl)
          · have h := br_0 h c94
            refine lv_aload_n hx hb dX6_evening_97 rfl (lv_at hl 0 rfl) ?_
            refine va_get (D := D) (ci := 4) (C := RX6) (T := TX6) (N := 27) hx hb hts iX6 hown hK hP 0 wMo_0 rfl 1 (by decide) q3 (fun _ h9 => h9) rfl dX6_evening_98 ?_
            refine lv_bipush (v := (40 : Int32)) hx hb dX6_evening_101 (by decide) ?_
            refine lv_iload_n hx hb dX6_evening_103 rfl (lv_at hl 1 rfl) ?_
            refine lv_imul hx hb dX6_evening_104 ?_
            refine lv_iload hx hb dX6_evening_105 (lv_at hl 3 rfl) ?_
            refine lv_iadd hx hb dX6_evening_107 ?_
            obtain ⟨hin2, h⟩ := ck_some h
            refine va_iald hx hb hK hP 2 0 wMo_2 rfl hin2 dX6_evening_108 ?_
            obtain ⟨r109, hc, h⟩ := bd1_some h
            refine my_roz (va_Run.run (va_runS (As := [.int (mrows (((40 : Int32) * x2) + x4).toNatClampNeg)]) (rest := []) hFix (kX6_isTune l D T F (mrows (((40 : Int32) * x2) + x4).toNatClampNeg) r109 hc) (va_cwS 1 hts gX6_evening_X6_isTune rfl rfl rfl hd_X6_isTune ⟨Nat.le_of_ble_eq_true rfl, Nat.le_of_ble_eq_true rfl⟩) (preS_ro va_nil hKK) rfl rfl hl.1 rfl (lv_room (Nat.le_of_ble_eq_true rfl)) dX6_evening_109 ⟨Nat.zero_le _, Nat.zero_le _⟩)) (fun hb109 => ?_)
            refine lv_if_eq (tgt := 144) hx hb dX6_evening_112 (by decide) (fun c112 => ?_) (fun c112 => ?_)
            · have h := br_1 h c112
              refine lv_iconst (v := (0 : Int32)) hx hb dX6_evening_144 (by decide) ?_
              refine lv_istore_n (lv' := [(3, .int (0 : Int32)), (0, .ref (am 0)), (2, .int x2), (4, .int x4)]) hx hb dX6_evening_145 rfl hl (by decide) rfl (fun ls hl => ?_)
              refine lv_iinc (v := (x4 + (2 : Int32))) (lv' := [(4, .int (x4 + (2 : Int32))), (3, .int (0 : Int32)), (0, .ref (am 0)), (2, .int x2)]) hx hb dX6_evening_146 hl (k := 3) rfl rfl (by decide) rfl (fun ls hl => ?_)
              refine lv_goto (tgt := 82) hx hb dX6_evening_149 (by decide) ?_
              exact ih82 (0 : Int32) (x4 + (2 : Int32)) h _ _ hP hD hS _ (lv_sub hl [2, 3, 1, 0] rfl)
            · have h := br_0 h c112
              refine lv_aload_n hx hb dX6_evening_115 rfl (lv_at hl 0 rfl) ?_
              refine va_get (D := D) (ci := 4) (C := RX6) (T := TX6) (N := 27) hx hb hts iX6 hown hK hP 0 wMo_0 rfl 1 (by decide) q3 (fun _ h9 => h9) rfl dX6_evening_116 ?_
              refine lv_bipush (v := (40 : Int32)) hx hb dX6_evening_119 (by decide) ?_
              refine lv_iload_n hx hb dX6_evening_121 rfl (lv_at hl 1 rfl) ?_
              refine lv_imul hx hb dX6_evening_122 ?_
              refine lv_iload hx hb dX6_evening_123 (lv_at hl 3 rfl) ?_
              refine lv_iadd hx hb dX6_evening_125 ?_
              refine lv_iconst (v := (1 : Int32)) hx hb dX6_evening_126 (by decide) ?_
              refine lv_iadd hx hb dX6_evening_127 ?_
              obtain ⟨hin3, h⟩ := ck_some h
              refine va_iald hx hb hK hP 2 0 wMo_2 rfl hin3 dX6_evening_128 ?_
              refine lv_i2l (v := ((mrows ((((40 : Int32) * x2) + x4) + (1 : Int32)).toNatClampNeg).toInt64)) hx hb dX6_evening_129 rfl ?_
              refine lv_lconst (v := (0 : Int64)) hx hb dX6_evening_130 (by decide) ?_
              refine lv_ldc2 (v := (20 : Int64)) hx hb hown q4 dX6_evening_131 ?_
              obtain ⟨r134, hc, h⟩ := bd1_some h
              refine my_roz (va_Run.run (va_runS (As := [.long ((mrows ((((40 : Int32) * x2) + x4) + (1 : Int32)).toNatClampNeg).toInt64), .long (0 : Int64), .long (20 : Int64)]) (rest := []) hFix (kX6_in l D T F ((mrows ((((40 : Int32) * x2) + x4) + (1 : Int32)).toNatClampNeg).toInt64) (0 : Int64) (20 : Int64) r134 hc) (va_cwS 3 hts gX6_evening_X6_in rfl rfl rfl hd_X6_in ⟨Nat.le_of_ble_eq_true rfl, Nat.le_of_ble_eq_true rfl⟩) (preS_ro va_nil hKK) rfl rfl hl.1 rfl (lv_room (Nat.le_of_ble_eq_true rfl)) dX6_evening_134 ⟨Nat.zero_le _, Nat.zero_le _⟩)) (fun hb134 => ?_)
              refine lv_if_eq (tgt := 144) hx hb dX6_evening_137 (by decide) (fun c137 => ?_) (fun c137 => ?_)
              · have h := br_1 h c137
                refine lv_iconst (v := (0 : Int32)) hx hb dX6_evening_144 (by decide) ?_
                refine lv_istore_n (lv' := [(3, .int (0 : Int32)), (0, .ref (am 0)), (2, .int x2), (4, .int x4)]) hx hb dX6_evening_145 rfl hl (by decide) rfl (fun ls hl => ?_)
                refine lv_iinc (v := (x4 + (2 : Int32))) (lv' := [(4, .int (x4 + (2 : Int32))), (3, .int (0 : Int32)), (0, .ref (am 0)), (2, .int x2)]) hx hb dX6_evening_146 hl (k := 3) rfl rfl (by decide) rfl (fun ls hl => ?_)
                refine lv_goto (tgt := 82) hx hb dX6_evening_149 (by decide) ?_
                exact ih82 (0 : Int32) (x4 + (2 : Int32)) h _ _ hP hD hS _ (lv_sub hl [2, 3, 1, 0] rfl)
              · have h := br_0 h c137
                refine lv_iconst (v := (1 : Int32)) hx hb dX6_evening_140 (by decide) ?_
                refine lv_goto (tgt := 145) hx hb dX6_evening_141 (by decide) ?_
                refine lv_istore_n (lv' := [(3, .int (1 : Int32)), (0, .ref (am 0)), (2, .int x2), (4, .int x4)]) hx hb dX6_evening_145 rfl hl (by decide) rfl (fun ls hl => ?_)
                refine lv_iinc (v := (x4 + (2 : Int32))) (lv' := [(4, .int (x4 + (2 : Int32))), (3, .int (1 : Int32)), (0, .ref (am 0)), (2, .int x2)]) hx hb dX6_evening_146 hl (k := 3) rfl rfl (by decide) rfl (fun ls hl => ?_)
                refine lv_goto (tgt := 82) hx hb dX6_evening_149 (by decide) ?_
                exact ih82 (1 : Int32) (x4 + (2 : Int32)) h _ _ hP hD hS _ (lv_sub hl [2, 3, 1, 0] rfl)
    unfold fX6_evening at h
    refine lv_aload_n hx hb dX6_evening_0 rfl (lv_at hl 0 rfl) ?_
    refine lv_iload_n hx hb dX6_evening_1 rfl (lv_at hl 1 rfl) ?_
    obtain ⟨r2, hc, h⟩ := bd1_some h
    refine my_roz (va_Run.run (va_runV (As := [.int x1]) (rest := []) hFix (kX6_isGuest l D T F am mguests mclause mdeeds masked mupper mlower mfinding mreadGuests misSight mat mrowSizes mrows mtextSizes mtexts mdoes mkinds msees mnow mbefore mkeeps mkept mfindings mread maside msteps mtried mbest x1 r2 hc) (cwV 1 hts gX6_evening_X6_isGuest rfl rfl rfl ⟨rfl, hd_X6_isGuest⟩ ⟨Nat.le_of_ble_eq_true rfl, Nat.le_of_ble_eq_true rfl⟩) (preV_ro hP hKK (va_recv hK hP (ci := 4) (q0 := 0) rfl wMo_0)) rfl rfl hl.1 rfl (lv_room (Nat.le_of_ble_eq_true rfl)) dX6_evening_2 ⟨Nat.zero_le _, Nat.zero_le _⟩)) (fun hb2 => ?_)
    refine lv_if_eq (tgt := 15) hx hb dX6_evening_5 (by decide) (fun c5 => ?_) (fun c5 => ?_)
    · have h := br_1 h c5
      refine lv_iconst (v := (-1 : Int32)) hx hb dX6_evening_15 (by decide) ?_
      cases h
      exact hret _ _ _ _ hP hD hS dX6_evening_16
    · have h := br_0 h c5
      refine lv_iload_n hx hb dX6_evening_8 rfl (lv_at hl 2 rfl) ?_
      obtain ⟨r9, hc, h⟩ := bd1_some h
      refine my_roz (va_Run.run (va_runS (As := [.int x2]) (rest := []) hFix (kX6_isRow l D T F x2 r9 hc) (va_cwS 1 hts gX6_evening_X6_isRow rfl rfl rfl hd_X6_isRow ⟨Nat.le_of_ble_eq_true rfl, Nat.le_of_ble_eq_true rfl⟩) (preS_ro va_nil hKK) rfl rfl hl.1 rfl (lv_room (Nat.le_of_ble_eq_true rfl)) dX6_evening_9 ⟨Nat.zero_le _, Nat.zero_le _⟩)) (fun hb9 => ?_)
      refine lv_if_ne (tgt := 17) hx hb dX6_evening_12 (by decide) (fun c12 => ?_) (fun c12 => ?_)
      · have h := br_0 h c12
        refine lv_aload_n hx hb dX6_evening_17 rfl (lv_at hl 0 rfl) ?_
        refine va_get (D := D) (ci := 4) (C := RX6) (T := TX6) (N := 27) hx hb hts iX6 hown hK hP 0 wMo_0 rfl 9 (by decide) q1 (fun _ h9 => h9) rfl dX6_evening_18 ?_
        refine lv_bipush (v := (6 : Int32)) hx hb dX6_evening_21 (by decide) ?_
        refine va_iald hx hb hK hP 8 0 wMo_8 rfl (show ¬ ((6 : Int32) < 0 ∨ 7 ≤ (6 : Int32).toNatClampNeg) by decide) dX6_evening_23 ?_
        refine lv_iload_n hx hb dX6_evening_24 rfl (lv_at hl 1 rfl) ?_
        obtain ⟨r25, hc, h⟩ := bd1_some h
        refine my_roz (va_Run.run (va_runS (As := [.int (mnow (6 : Int32).toNatClampNeg), .int x1]) (rest := []) hFix (kX6_has l D T F (mnow (6 : Int32).toNatClampNeg) x1 r25 hc) (va_cwS 2 hts gX6_evening_X6_has rfl rfl rfl hd_X6_has ⟨Nat.le_of_ble_eq_true rfl, Nat.le_of_ble_eq_true rfl⟩) (preS_ro va_nil hKK) rfl rfl hl.1 rfl (lv_room (Nat.le_of_ble_eq_true rfl)) dX6_evening_25 ⟨Nat.zero_le _, Nat.zero_le _⟩)) (fun hb25 => ?_)
        refine lv_if_eq (tgt := 34) hx hb dX6_evening_28 (by decide) (fun c28 => ?_) (fun c28 => ?_)
        · have h := br_1 h c28
          refine lv_aload_n hx hb dX6_evening_34 rfl (lv_at hl 0 rfl) ?_
          refine va_get (D := D) (ci := 4) (C := RX6) (T := TX6) (N := 27) hx hb hts iX6 hown hK hP 0 wMo_0 rfl 0 (by decide) q2 (fun _ h9 => h9) rfl dX6_evening_35 ?_
          refine lv_iload_n hx hb dX6_evening_38 rfl (lv_at hl 2 rfl) ?_
          obtain ⟨hin4, h⟩ := ck_some h
          refine va_iald hx hb hK hP 1 0 wMo_1 rfl hin4 dX6_evening_39 ?_
          refine lv_if_ge (tgt := 49) hx hb dX6_evening_40 (by decide) (fun c40 => ?_) (fun c40 => ?_)
          · have h := br_1 h c40
            refine lv_aload_n hx hb dX6_evening_49 rfl (lv_at hl 0 rfl) ?_
            refine va_get (D := D) (ci := 4) (C := RX6) (T := TX6) (N := 27) hx hb hts iX6 hown hK hP 0 wMo_0 rfl 0 (by decide) q2 (fun _ h9 => h9) rfl dX6_evening_50 ?_
            refine lv_iload_n hx hb dX6_evening_53 rfl (lv_at hl 2 rfl) ?_
            obtain ⟨hin5, h⟩ := ck_some h
            refine va_iald hx hb hK hP 1 0 wMo_1 rfl hin5 dX6_evening_54 ?_
            refine lv_bipush (v := (16 : Int32)) hx hb dX6_evening_55 (by decide) ?_
            refine lv_icmp_gt (tgt := 71) hx hb dX6_evening_57 (by decide) (fun c57 => ?_) (fun c57 => ?_)
            · have h := br_1 h c57
              refine lv_aload_n hx hb dX6_evening_71 rfl (lv_at hl 0 rfl) ?_
              refine lv_iconst (v := (5 : Int32)) hx hb dX6_evening_72 (by decide) ?_
              obtain ⟨r73, w73_mfinding, w73_mfindings, hc, h⟩ := bd3_some h
              have hFc := my_freeS hD hS hA
              refine my_rwi (va_runV (As := [.int (5 : Int32)]) (rest := []) hFix (kX6_found l D T F am mguests mclause mdeeds masked mupper mlower mfinding mreadGuests misSight mat mrowSizes mrows mtextSizes mtexts mdoes mkinds msees mnow mbefore mkeeps mkept mfindings mread maside msteps mtried mbest (5 : Int32) r73 w73_mfinding w73_mfindings hc _) (cwV 1 hts gX6_evening_X6_found rfl rfl rfl ⟨rfl, hd_X6_found⟩ ⟨Nat.le_of_ble_eq_true rfl, Nat.le_of_ble_eq_true rfl⟩) (preV_rw hP hKK hD (va_recv hK hP (ci := 4) (q0 := 0) rfl wMo_0)) rfl rfl hl.1 rfl (lv_room (Nat.le_of_ble_eq_true rfl)) dX6_evening_73 ⟨Nat.zero_le _, Nat.zero_le _⟩) hS hFc (fun H1 locs hP1 hD1 hz1 hkk hS => ?_)
              have hP : va_P D vwCl (wMo T am mguests mclause mdeeds masked mupper mlower w73_mfinding mreadGuests misSight mat mrowSizes mrows mtextSizes mtexts mdoes mkinds msees mnow mbefore mkeeps mkept w73_mfindings mread maside msteps mtried mbest) H1 := hP1
              have hD : va_D A (wMo T am mguests mclause mdeeds masked mupper mlower w73_mfinding mreadGuests misSight mat mrowSizes mrows mtextSizes mtexts mdoes mkinds msees mnow mbefore mkeeps mkept w73_mfindings mread maside msteps mtried mbest) := hD1.weaken (fun _ q _ h => hFc q.1 h)
              generalize H1 = H at hP hS ⊢
              cases h
              exact hret _ _ _ _ hP hD hS dX6_evening_76
            · have h := br_0 h c57
              refine lv_aload_n hx hb dX6_evening_60 rfl (lv_at hl 0 rfl) ?_
              refine va_get (D := D) (ci := 4) (C := RX6) (T := TX6) (N := 27) hx hb hts iX6 hown hK hP 0 wMo_0 rfl 0 (by decide) q2 (fun _ h9 => h9) rfl dX6_evening_61 ?_
              refine lv_iload_n hx hb dX6_evening_64 rfl (lv_at hl 2 rfl) ?_
              obtain ⟨hin6, h⟩ := ck_some h
              refine va_iald hx hb hK hP 1 0 wMo_1 rfl hin6 dX6_evening_65 ?_
              refine lv_iconst (v := (2 : Int32)) hx hb dX6_evening_66 (by decide) ?_
              refine lv_irem hx hb dX6_evening_67 (by decide) ?_
              refine lv_if_eq (tgt := 77) hx hb dX6_evening_68 (by decide) (fun c68 => ?_) (fun c68 => ?_)
              · have h := br_1 h c68
                refine lv_iconst (v := (1 : Int32)) hx hb dX6_evening_77 (by decide) ?_
                refine lv_istore_n (lv' := [(3, .int (1 : Int32)), (0, .ref (am 0)), (1, .int x1), (2, .int x2)]) hx hb dX6_evening_78 rfl hl (by decide) rfl (fun ls hl => ?_)
                refine lv_iconst (v := (0 : Int32)) hx hb dX6_evening_79 (by decide) ?_
                refine lv_istore (lv' := [(4, .int (0 : Int32)), (3, .int (1 : Int32)), (0, .ref (am 0)), (1, .int x1), (2, .int x2)]) hx hb dX6_evening_80 hl (by decide) rfl (fun ls hl => ?_)
                exact l82 x2 mfinding mfindings F (1 : Int32) (0 : Int32) h _ _ hP hD hS _ (lv_sub hl [2, 4, 1, 0] rfl)
              · have h := br_0 h c68
                refine lv_aload_n hx hb dX6_evening_71 rfl (lv_at hl 0 rfl) ?_
                refine lv_iconst (v := (5 : Int32)) hx hb dX6_evening_72 (by decide) ?_
                obtain ⟨r73, w73_mfinding, w73_mfindings, hc, h⟩ := bd3_some h
                have hFc := my_freeS hD hS hA
                refine my_rwi (va_runV (As := [.int (5 : Int32)]) (rest := []) hFix (kX6_found l D T F am mguests mclause mdeeds masked mupper mlower mfinding mreadGuests misSight mat mrowSizes mrows mtextSizes mtexts mdoes mkinds msees mnow mbefore mkeeps mkept mfindings mread maside msteps mtried mbest (5 : Int32) r73 w73_mfinding w73_mfindings hc _) (cwV 1 hts gX6_evening_X6_found rfl rfl rfl ⟨rfl, hd_X6_found⟩ ⟨Nat.le_of_ble_eq_true rfl, Nat.le_of_ble_eq_true rfl⟩) (preV_rw hP hKK hD (va_recv hK hP (ci := 4) (q0 := 0) rfl wMo_0)) rfl rfl hl.1 rfl (lv_room (Nat.le_of_ble_eq_true rfl)) dX6_evening_73 ⟨Nat.zero_le _, Nat.zero_le _⟩) hS hFc (fun H1 locs hP1 hD1 hz1 hkk hS => ?_)
                have hP : va_P D vwCl (wMo T am mguests mclause mdeeds masked mupper mlower w73_mfinding mreadGuests misSight mat mrowSizes mrows mtextSizes mtexts mdoes mkinds msees mnow mbefore mkeeps mkept w73_mfindings mread maside msteps mtried mbest) H1 := hP1
                have hD : va_D A (wMo T am mguests mclause mdeeds masked mupper mlower w73_mfinding mreadGuests misSight mat mrowSizes mrows mtextSizes mtexts mdoes mkinds msees mnow mbefore mkeeps mkept w73_mfindings mread maside msteps mtried mbest) := hD1.weaken (fun _ q _ h => hFc q.1 h)
                generalize H1 = H at hP hS ⊢
                cases h
                exact hret _ _ _ _ hP hD hS dX6_evening_76
          · have h := br_0 h c40
            refine lv_aload_n hx hb dX6_evening_43 rfl (lv_at hl 0 rfl) ?_
            refine lv_iconst (v := (1 : Int32)) hx hb dX6_evening_44 (by decide) ?_
            obtain ⟨r45, w45_mfinding, w45_mfindings, hc, h⟩ := bd3_some h
            have hFc := my_freeS hD hS hA
            refine my_rwi (va_runV (As := [.int (1 : Int32)]) (rest := []) hFix (kX6_found l D T F am mguests mclause mdeeds masked mupper mlower mfinding mreadGuests misSight mat mrowSizes mrows mtextSizes mtexts mdoes mkinds msees mnow mbefore mkeeps mkept mfindings mread maside msteps mtried mbest (1 : Int32) r45 w45_mfinding w45_mfindings hc _) (cwV 1 hts gX6_evening_X6_found rfl rfl rfl ⟨rfl, hd_X6_found⟩ ⟨Nat.le_of_ble_eq_true rfl, Nat.le_of_ble_eq_true rfl⟩) (preV_rw hP hKK hD (va_recv hK hP (ci := 4) (q0 := 0) rfl wMo_0)) rfl rfl hl.1 rfl (lv_room (Nat.le_of_ble_eq_true rfl)) dX6_evening_45 ⟨Nat.zero_le _, Nat.zero_le _⟩) hS hFc (fun H1 locs hP1 hD1 hz1 hkk hS => ?_)
            have hP : va_P D vwCl (wMo T am mguests mclause mdeeds masked mupper mlower w45_mfinding mreadGuests misSight mat mrowSizes mrows mtextSizes mtexts mdoes mkinds msees mnow mbefore mkeeps mkept w45_mfindings mread maside msteps mtried mbest) H1 := hP1
            have hD : va_D A (wMo T am mguests mclause mdeeds masked mupper mlower w45_mfinding mreadGuests misSight mat mrowSizes mrows mtextSizes mtexts mdoes mkinds msees mnow mbefore mkeeps mkept w45_mfindings mread maside msteps mtried mbest) := hD1.weaken (fun _ q _ h => hFc q.1 h)
            generalize H1 = H at hP hS ⊢
            cases h
            exact hret _ _ _ _ hP hD hS dX6_evening_48
        · have h := br_0 h c28
          refine lv_bipush (v := (-4 : Int32)) hx hb dX6_evening_31 (by decide) ?_
          cases h
          exact hret _ _ _ _ hP hD hS dX6_evening_33
      · have h := br_1 h c12
        refine lv_iconst (v := (-1 : Int32)) hx hb dX6_evening_15 (by decide) ?_
        cases h
        exact hret _ _ _ _ hP hD hS dX6_evening_16
  exact key _ (fun H locs pc ls hP hD hS hd => W.iret hx hb hr (fun t ht hW => ⟨⟨_, (), rfl, rfl, by show _ ∧ _; rw [ht]; exact ⟨hP, hD⟩⟩, hS.F ht⟩) hS.2.2 hd)
