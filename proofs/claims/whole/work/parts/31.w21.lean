set_option maxHeartbeats 4000000 in
set_option maxRecDepth 100000 in
theorem kX6_fault (l : Launch) (D : va_G) (T : Nat → ClassId) (F : Nat) (am : Nat → Nat) (mguests : Int32) (mclause : Int32) (mdeeds : Int32) (masked : Int32) (mupper : Int64) (mlower : Int64) (mfinding : Int32) (mreadGuests : Int32) (misSight : Int32) (mat : Int32) (mrowSizes : Nat → Int32) (mrows : Nat → Int32) (mtextSizes : Nat → Int32) (mtexts : Nat → Int32) (mdoes : Nat → Int32) (mkinds : Nat → Int32) (msees : Nat → Int32) (mnow : Nat → Int32) (mbefore : Nat → Int32) (mkeeps : Nat → Int32) (mkept : Nat → Int32) (mfindings : Nat → Int32) (mread : Nat → Int32) (maside : Nat → Int32) (msteps : Nat → Int32) (mtried : Nat → Int32) (mbest : Nat → Int32) (x1 : Int32) (r : Int32) (zmfinding : Int32) (zmreadGuests : Int32) (zmisSight : Int32) (zmat : Int32) (zmfindings : Nat → Int32) (zmread : Nat → Int32) (h : fX6_fault F mfinding mreadGuests misSight mat mtextSizes mtexts mfindings mread x1 = some (r, zmfinding, zmreadGuests, zmisSight, zmat, zmfindings, zmread)) : ∀ sz : Nat, Met l yX6_fault wsX6_fault ({ frames := 4, cells := 0, slots := 0, locals := 94 } : Room) (va_Pc [.ref (am 0), .int x1] (fun U => U.heap.size = sz ∧ va_P D vwCl (wMo T am mguests mclause mdeeds masked mupper mlower mfinding mreadGuests misSight mat mrowSizes mrows mtextSizes mtexts mdoes mkinds msees mnow mbefore mkeeps mkept mfindings mread maside msteps mtried mbest) U.heap ∧ KK D T U ∧ va_D (fun _ => True) (wMo T am mguests mclause mdeeds masked mupper mlower mfinding mreadGuests misSight mat mrowSizes mrows mtextSizes mtexts mdoes mkinds msees mnow mbefore mkeeps mkept mfindings mread maside msteps mtried mbest))) (va_Qi (fun r' (_ : Unit) => r' = r) (fun _ t => va_P D vwCl (wMo T am mguests mclause mdeeds masked mupper mlower zmfinding zmreadGuests zmisSight zmat mrowSizes mrows mtextSizes mtexts mdoes mkinds msees mnow mbefore mkeeps mkept zmfindings zmread maside msteps mtried mbest) t.heap ∧ va_D (va_A (wMo T am mguests mclause mdeeds masked mupper mlower mfinding mreadGuests misSight mat mrowSizes mrows mtextSizes mtexts mdoes mkinds msees mnow mbefore mkeeps mkept mfindings mread maside msteps mtried mbest) sz) (wMo T am mguests mclause mdeeds masked mupper mlower zmfinding zmreadGuests zmisSight zmat mrowSizes mrows mtextSizes mtexts mdoes mkinds msees mnow mbefore mkeeps mkept zmfindings zmread maside msteps mtried mbest)) (va_A (wMo T am mguests mclause mdeeds masked mupper mlower mfinding mreadGuests misSight mat mrowSizes mrows mtextSizes mtexts mdoes mkinds msees mnow mbefore mkeeps mkept mfindings mread maside msteps mtried mbest) sz)) 0 0 (va_A (wMo T am mguests mclause mdeeds masked mupper mlower mfinding mreadGuests misSight mat mrowSizes mrows mtextSizes mtexts mdoes mkinds msees mnow mbefore mkeeps mkept mfindings mread maside msteps mtried mbest) sz) := by
  intro sz
  refine Met.ofW (cc := cX6_fault) (maxL := 2) (ret := some .int) (by decide) rfl ?_
  intro p e s m args below meth c s₁ B hml hv
  obtain ⟨ha, hsz, hP, hKK, hD0⟩ := hv
  have hx := B.exec
  have hb := B.bytes
  have hr := B.returns
  have hts := atoms_spec (ws := wsX6_fault) B.pre
  have hown : s.vm.findClass RX6 = some m.cls := findClass_of_methodNamed B.named
  have hlocks := B.notSynchronized
  have hK := hKK.1
  have hFix : CallFix p m c cX6_fault 2 s args wsX6_fault RX6 := ⟨hx, hb, hml, hown, hts⟩
  have q1 := hts _ (List.mem_of_getElem? (i := 1) (show wsX6_fault[1]? = some (Cond.fieldLink RX6 16 "PartyWillModel" "textSizes" "[I") from rfl))
  have iX6 : ∀ w ∈ u_ws RX6 TX6 27, w ∈ wsX6_fault := fun w h => List.mem_cons_of_mem _ (List.mem_append_right _ (h))
  subst hsz
  have hD := hD0.self (sz := s.heap.size)
  generalize hAe : va_A (wMo T am mguests mclause mdeeds masked mupper mlower mfinding mreadGuests misSight mat mrowSizes mrows mtextSizes mtexts mdoes mkinds msees mnow mbefore mkeeps mkept mfindings mread maside msteps mtried mbest) s.heap.size = A at hD ⊢
  have hA : ∀ q : Nat, s.heap.size ≤ q → A q := fun q h => by rw [← hAe]; exact Or.inr h
  have hS : va_S A s.heap s.heap [] := va_S.rf
  have hP : va_P D vwCl (wMo T am mguests mclause mdeeds masked mupper mlower mfinding mreadGuests misSight mat mrowSizes mrows mtextSizes mtexts mdoes mkinds msees mnow mbefore mkeeps mkept mfindings mread maside msteps mtried mbest) s.heap := hP
  obtain ⟨ls, hl, e0⟩ := my_entry (m := m) (n := 2) ha (Nat.le_of_ble_eq_true rfl)
  rw [e0]
  have hl : lv_has ls 2 [(0, .ref (am 0)), (1, .int x1)] := hl
  have key : ∀ Q : State → Prop, (∀ (H : Heap) (locs : List Loc) (pc : Nat) (ls : Array Slot), va_P D vwCl (wMo T am mguests mclause mdeeds masked mupper mlower zmfinding zmreadGuests zmisSight zmat mrowSizes mrows mtextSizes mtexts mdoes mkinds msees mnow mbefore mkeeps mkept zmfindings zmread maside msteps mtried mbest) H → va_D A (wMo T am mguests mclause mdeeds masked mupper mlower zmfinding zmreadGuests zmisSight zmat mrowSizes mrows mtextSizes mtexts mdoes mkinds msees mnow mbefore mkeeps mkept zmfindings zmread maside msteps mtried mbest) → va_S A s.heap H locs → decode cX6_fault pc = .ok (.ireturn, 1) → W p l e ({ frames := 4, cells := 0, slots := 0, locals := 94 } : Room) s m args below meth c H locs 0 0 Q (F0 m pc ls [.int r])) → W p l e ({ frames := 4, cells := 0, slots := 0, locals := 94 } : Room) s m args below meth c s.heap [] 0 0 Q (F0 m 0 ls []) := by
    intro Q hret
    skip
    unfold fX6_fault at h
    refine lv_iload_n hx hb dX6_fault_0 rfl (lv_at hl 1 rfl) ?_
    obtain ⟨r1, hc, h⟩ := bd1_some h
    refine my_roz (va_Run.run (va_runS (As := [.int x1]) (rest := []) hFix (kX6_isText l D T F x1 r1 hc) (va_cwS 1 hts gX6_fault_X6_isText rfl rfl rfl hd_X6_isText ⟨Nat.le_of_ble_eq_true rfl, Nat.le_of_ble_eq_true rfl⟩) (preS_ro va_nil hKK) rfl rfl hl.1 rfl (lv_room (Nat.le_of_ble_eq_true rfl)) dX6_fault_1 ⟨Nat.zero_le _, Nat.zero_le _⟩)) (fun hb1 => ?_)
    refine lv_if_ne (tgt := 9) hx hb dX6_fault_4 (by decide) (fun c4 => ?_) (fun c4 => ?_)
    · have h := br_0 h c4
      refine lv_aload_n hx hb dX6_fault_9 rfl (lv_at hl 0 rfl) ?_
      refine va_get (D := D) (ci := 4) (C := RX6) (T := TX6) (N := 27) hx hb hts iX6 hown hK hP 0 wMo_0 rfl 2 (by decide) q1 (fun _ h9 => h9) rfl dX6_fault_10 ?_
      refine lv_iload_n hx hb dX6_fault_13 rfl (lv_at hl 1 rfl) ?_
      obtain ⟨hin1, h⟩ := ck_some h
      refine va_iald hx hb hK hP 3 0 wMo_3 rfl hin1 dX6_fault_14 ?_
      refine lv_if_ge (tgt := 26) hx hb dX6_fault_15 (by decide) (fun c15 => ?_) (fun c15 => ?_)
      · have h := br_1 h c15
        refine lv_aload_n hx hb dX6_fault_26 rfl (lv_at hl 0 rfl) ?_
        refine lv_iload_n hx hb dX6_fault_27 rfl (lv_at hl 1 rfl) ?_
        obtain ⟨r28, w28_mreadGuests, w28_misSight, w28_mat, w28_mread, hc, h⟩ := bd5_some h
        have hFc := my_freeS hD hS hA
        refine my_rwi (va_runV (As := [.int x1]) (rest := []) hFix (kX6_reads l D T F am mguests mclause mdeeds masked mupper mlower mfinding mreadGuests misSight mat mrowSizes mrows mtextSizes mtexts mdoes mkinds msees mnow mbefore mkeeps mkept mfindings mread maside msteps mtried mbest x1 r28 w28_mreadGuests w28_misSight w28_mat w28_mread hc _) (cwV 1 hts gX6_fault_X6_reads rfl rfl rfl ⟨rfl, hd_X6_reads⟩ ⟨Nat.le_of_ble_eq_true rfl, Nat.le_of_ble_eq_true rfl⟩) (preV_rw hP hKK hD (va_recv hK hP (ci := 4) (q0 := 0) rfl wMo_0)) rfl rfl hl.1 rfl (lv_room (Nat.le_of_ble_eq_true rfl)) dX6_fault_28 ⟨Nat.zero_le _, Nat.zero_le _⟩) hS hFc (fun H1 locs hP1 hD1 hz1 hkk hS => ?_)
        have hP : va_P D vwCl (wMo T am mguests mclause mdeeds masked mupper mlower mfinding w28_mreadGuests w28_misSight w28_mat mrowSizes mrows mtextSizes mtexts mdoes mkinds msees mnow mbefore mkeeps mkept mfindings w28_mread maside msteps mtried mbest) H1 := hP1
        have hD : va_D A (wMo T am mguests mclause mdeeds masked mupper mlower mfinding w28_mreadGuests w28_misSight w28_mat mrowSizes mrows mtextSizes mtexts mdoes mkinds msees mnow mbefore mkeeps mkept mfindings w28_mread maside msteps mtried mbest) := hD1.weaken (fun _ q _ h => hFc q.1 h)
        generalize H1 = H at hP hS ⊢
        cases h
        exact hret _ _ _ _ hP hD hS dX6_fault_31
      · have h := br_0 h c15
        refine lv_aload_n hx hb dX6_fault_18 rfl (lv_at hl 0 rfl) ?_
        refine lv_iconst (v := (1 : Int32)) hx hb dX6_fault_19 (by decide) ?_
        obtain ⟨r20, w20_mfinding, w20_mfindings, hc, h⟩ := bd3_some h
        have hFc := my_freeS hD hS hA
        refine my_rwi (va_runV (As := [.int (1 : Int32)]) (rest := []) hFix (kX6_found l D T F am mguests mclause mdeeds masked mupper mlower mfinding mreadGuests misSight mat mrowSizes mrows mtextSizes mtexts mdoes mkinds msees mnow mbefore mkeeps mkept mfindings mread maside msteps mtried mbest (1 : Int32) r20 w20_mfinding w20_mfindings hc _) (cwV 1 hts gX6_fault_X6_found rfl rfl rfl ⟨rfl, hd_X6_found⟩ ⟨Nat.le_of_ble_eq_true rfl, Nat.le_of_ble_eq_true rfl⟩) (preV_rw hP hKK hD (va_recv hK hP (ci := 4) (q0 := 0) rfl wMo_0)) rfl rfl hl.1 rfl (lv_room (Nat.le_of_ble_eq_true rfl)) dX6_fault_20 ⟨Nat.zero_le _, Nat.zero_le _⟩) hS hFc (fun H1 locs hP1 hD1 hz1 hkk hS => ?_)
        have hP : va_P D vwCl (wMo T am mguests mclause mdeeds masked mupper mlower w20_mfinding mreadGuests misSight mat mrowSizes mrows mtextSizes mtexts mdoes mkinds msees mnow mbefore mkeeps mkept w20_mfindings mread maside msteps mtried mbest) H1 := hP1
        have hD : va_D A (wMo T am mguests mclause mdeeds masked mupper mlower w20_mfinding mreadGuests misSight mat mrowSizes mrows mtextSizes mtexts mdoes mkinds msees mnow mbefore mkeeps mkept w20_mfindings mread maside msteps mtried mbest) := hD1.weaken (fun _ q _ h => hFc q.1 h)
        generalize H1 = H at hP hS ⊢
        refine lv_goto (tgt := 31) hx hb dX6_fault_23 (by decide) ?_
        cases h
        exact hret _ _ _ _ hP hD hS dX6_fault_31
    · have h := br_1 h c4
      refine lv_iconst (v := (-1 : Int32)) hx hb dX6_fault_7 (by decide) ?_
      cases h
      exact hret _ _ _ _ hP hD hS dX6_fault_8
  exact key _ (fun H locs pc ls hP hD hS hd => W.iret hx hb hr (fun t ht hW => ⟨⟨_, (), rfl, rfl, by show _ ∧ _; rw [ht]; exact ⟨hP, hD⟩⟩, hS.F ht⟩) hS.2.2 hd)
set_option maxHeartbeats 4000000 in
set_option maxRecDepth 100000 in
theorem kX6_party (l : Launch) (D : va_G) (T : Nat → ClassId) (F : Nat) (am : Nat → Nat) (mguests : Int32) (mclause : Int32) (mdeeds : Int32) (masked : Int32) (mupper : Int64) (mlower : Int64) (mfinding : Int32) (mreadGuests : Int32) (misSight : Int32) (mat : Int32) (mrowSizes : Nat → Int32) (mrows : Nat → Int32) (mtextSizes : Nat → Int32) (mtexts : Nat → Int32) (mdoes : Nat → Int32) (mkinds : Nat → Int32) (msees : Nat → Int32) (mnow : Nat → Int32) (mbefore : Nat → Int32) (mkeeps : Nat → Int32) (mkept : Nat → Int32) (mfindings : Nat → Int32) (mread : Nat → Int32) (maside : Nat → Int32) (msteps : Nat → Int32) (mtried : Nat → Int32) (mbest : Nat → Int32) (x1 : Int32) (r : Int32) (zmguests : Int32) (zmclause : Int32) (zmdeeds : Int32) (zmfinding : Int32) (zmreadGuests : Int32) (zmisSight : Int32) (zmat : Int32) (zmdoes : Nat → Int32) (zmkinds : Nat → Int32) (zmsees : Nat → Int32) (zmnow : Nat → Int32) (zmkept : Nat → Int32) (zmfindings : Nat → Int32) (zmread : Nat → Int32) (h : fX6_party F mguests mclause mdeeds mfinding mreadGuests misSight mat mtextSizes mtexts mdoes mkinds msees mnow mkept mfindings mread x1 = some (r, zmguests, zmclause, zmdeeds, zmfinding, zmreadGuests, zmisSight, zmat, zmdoes, zmkinds, zmsees, zmnow, zmkept, zmfindings, zmread)) : ∀ sz : Nat, Met l yX6_party wsX6_party ({ frames := 4, cells := 0, slots := 0, locals := 94 } : Room) (va_Pc [.ref (am 0), .int x1] (fun U => U.heap.size = sz ∧ va_P D vwCl (wMo T am mguests mclause mdeeds masked mupper mlower mfinding mreadGuests misSight mat mrowSizes mrows mtextSizes mtexts mdoes mkinds msees mnow mbefore mkeeps mkept mfindings mread maside msteps mtried mbest) U.heap ∧ KK D T U ∧ va_D (fun _ => True) (wMo T am mguests mclause mdeeds masked mupper mlower mfinding mreadGuests misSight mat mrowSizes mrows mtextSizes mtexts mdoes mkinds msees mnow mbefore mkeeps mkept mfindings mread maside msteps mtried mbest))) (va_Qi (fun r' (_ : Unit) => r' = r) (fun _ t => va_P D vwCl (wMo T am zmguests zmclause zmdeeds masked mupper mlower zmfinding zmreadGuests zmisSight zmat mrowSizes mrows mtextSizes mtexts zmdoes zmkinds zmsees zmnow mbefore mkeeps zmkept zmfindings zmread maside msteps mtried mbest) t.heap ∧ va_D (va_A (wMo T am mguests mclause mdeeds masked mupper mlower mfinding mreadGuests misSight mat mrowSizes mrows mtextSizes mtexts mdoes mkinds msees mnow mbefore mkeeps mkept mfindings mread maside msteps mtried mbest) sz) (wMo T am zmguests zmclause zmdeeds masked mupper mlower zmfinding zmreadGuests zmisSight zmat mrowSizes mrows mtextSizes mtexts zmdoes zmkinds zmsees zmnow mbefore mkeeps zmkept zmfindings zmread maside msteps mtried mbest)) (va_A (wMo T am mguests mclause mdeeds masked mupper mlower mfinding mreadGuests misSight mat mrowSizes mrows mtextSizes mtexts mdoes mkinds msees mnow mbefore mkeeps mkept mfindings mread maside msteps mtried mbest) sz)) 0 0 (va_A (wMo T am mguests mclause mdeeds masked mupper mlower mfinding mreadGuests misSight mat mrowSizes mrows mtextSizes mtexts mdoes mkinds msees mnow mbefore mkeeps mkept mfindings mread maside msteps mtried mbest) sz) := by
  intro sz
  refine Met.ofW (cc := cX6_party) (maxL := 4) (ret := some .int) (by decide) rfl ?_
  intro p e s m args below meth c s₁ B hml hv
  obtain ⟨ha, hsz, hP, hKK, hD0⟩ := hv
  have hx := B.exec
  have hb := B.bytes
  have hr := B.returns
  have hts := atoms_spec (ws := wsX6_party) B.pre
  have hown : s.vm.findClass RX6 = some m.cls := findClass_of_methodNamed B.named
  have hlocks := B.notSynchronized
  have hK := hKK.1
  have hFix : CallFix p m c cX6_party 4 s args wsX6_party RX6 := ⟨hx, hb, hml, hown, hts⟩
  have q1 := hts _ (List.mem_of_getElem? (i := 1) (show wsX6_party[1]? = some (Cond.fieldLink RX6 16 "PartyWillModel" "textSizes" "[I") from rfl))
  have q2 := hts _ (List.mem_of_getElem? (i := 2) (show wsX6_party[2]? = some (Cond.fieldLink RX6 108 "PartyWillModel" "readGuests" "I") from rfl))
  have q3 := hts _ (List.mem_of_getElem? (i := 3) (show wsX6_party[3]? = some (Cond.fieldLink RX6 131 "PartyWillModel" "guests" "I") from rfl))
  have q4 := hts _ (List.mem_of_getElem? (i := 4) (show wsX6_party[4]? = some (Cond.fieldLink RX6 51 "PartyWillModel" "read" "[I") from rfl))
  have q5 := hts _ (List.mem_of_getElem? (i := 5) (show wsX6_party[5]? = some (Cond.fieldLink RX6 134 "PartyWillModel" "clause" "I") from rfl))
  have q6 := hts _ (List.mem_of_getElem? (i := 6) (show wsX6_party[6]? = some (Cond.fieldLink RX6 22 "PartyWillModel" "does" "[I") from rfl))
  have q7 := hts _ (List.mem_of_getElem? (i := 7) (show wsX6_party[7]? = some (Cond.fieldLink RX6 25 "PartyWillModel" "kinds" "[I") from rfl))
  have q8 := hts _ (List.mem_of_getElem? (i := 8) (show wsX6_party[8]? = some (Cond.fieldLink RX6 31 "PartyWillModel" "now" "[I") from rfl))
  have q9 := hts _ (List.mem_of_getElem? (i := 9) (show wsX6_party[9]? = some (Cond.fieldLink RX6 28 "PartyWillModel" "sees" "[I") from rfl))
  have q10 := hts _ (List.mem_of_getElem? (i := 10) (show wsX6_party[10]? = some (Cond.fieldLink RX6 137 "PartyWillModel" "deeds" "I") from rfl))
  have q11 := hts _ (List.mem_of_getElem? (i := 11) (show wsX6_party[11]? = some (Cond.fieldLink RX6 40 "PartyWillModel" "kept" "[Z") from rfl))
  have iX6 : ∀ w ∈ u_ws RX6 TX6 27, w ∈ wsX6_party := fun w h => List.mem_cons_of_mem _ (List.mem_append_right _ (h))
  subst hsz
  have hD := hD0.self (sz := s.heap.size)
  generalize hAe : va_A (wMo T am mguests mclause mdeeds masked mupper mlower mfinding mreadGuests misSight mat mrowSizes mrows mtextSizes mtexts mdoes mkinds msees mnow mbefore mkeeps mkept mfindings mread maside msteps mtried mbest) s.heap.size = A at hD ⊢
  have hA : ∀ q : Nat, s.heap.size ≤ q → A q := fun q h => by rw [← hAe]; exact Or.inr h
  have hS : va_S A s.heap s.heap [] := va_S.rf
  have hP : va_P D vwCl (wMo T am mguests mclause mdeeds masked mupper mlower mfinding mreadGuests misSight mat mrowSizes mrows mtextSizes mtexts mdoes mkinds msees mnow mbefore mkeeps mkept mfindings mread maside msteps mtried mbest) s.heap := hP
  obtain ⟨ls, hl, e0⟩ := my_entry (m := m) (n := 4) ha (Nat.le_of_ble_eq_true rfl)
  rw [e0]
  have hl : lv_has ls 4 [(0, .ref (am 0)), (1, .int x1)] := hl
  have key : ∀ Q : State → Prop, (∀ (H : Heap) (locs : List Loc) (pc : Nat) (ls : Array Slot), va_P D vwCl (wMo T am zmguests zmclause zmdeeds masked mupper mlower zmfinding zmreadGuests zmisSight zmat mrowSizes mrows mtextSizes mtexts zmdoes zmkinds zmsees zmnow mbefore mkeeps zmkept zmfindings zmread maside msteps mtried mbest) H → va_D A (wMo T am zmguests zmclause zmdeeds masked mupper mlower zmfinding zmreadGuests zmisSight zmat mrowSizes mrows mtextSizes mtexts zmdoes zmkinds zmsees zmnow mbefore mkeeps zmkept zmfindings zmread maside msteps mtried mbest) → va_S A s.heap H locs → decode cX6_party pc = .ok (.ireturn, 1) → W p l e ({ frames := 4, cells := 0, slots := 0, locals := 94 } : Room) s m args below meth c H locs 0 0 Q (F0 m pc ls [.int r])) → W p l e ({ frames := 4, cells := 0, slots := 0, locals := 94 } : Room) s m args below meth c s.heap [] 0 0 Q (F0 m 0 ls []) := by
    intro Q hret
    skip
    have l195 : ∀ mguests : Int32, ∀ mclause : Int32, ∀ mdeeds : Int32, ∀ mfinding : Int32, ∀ mreadGuests : Int32, ∀ misSight : Int32, ∀ mat : Int32, ∀ mdoes : Nat → Int32, ∀ mkinds : Nat → Int32, ∀ msees : Nat → Int32, ∀ mnow : Nat → Int32, ∀ mfindings : Nat → Int32, ∀ mread : Nat → Int32, ∀ nu : Nat, ∀ x2 : Int32, ∀ mkept : Nat → Int32, fX6_party_l195 F mtextSizes mtexts mguests mclause mdeeds mfinding mreadGuests misSight mat mdoes mkinds msees mnow mfindings mread nu x2 mkept = some (r, zmguests, zmclause, zmdeeds, zmfinding, zmreadGuests, zmisSight, zmat, zmdoes, zmkinds, zmsees, zmnow, zmkept, zmfindings, zmread) → ∀ (H : Heap) (locs : List Loc), va_P D vwCl (wMo T am mguests mclause mdeeds masked mupper mlower mfinding mreadGuests misSight mat mrowSizes mrows mtextSizes mtexts mdoes mkinds msees mnow mbefore mkeeps mkept mfindings mread maside msteps mtried mbest) H → va_D A (wMo T am mguests mclause mdeeds masked mupper mlower mfinding mreadGuests misSight mat mrowSizes mrows mtextSizes mtexts mdoes mkinds msees mnow mbefore mkeeps mkept mfindings mread maside msteps mtried mbest) → va_S A s.heap H locs → ∀ (ls : Array Slot), lv_has ls 4 [(0, .ref (am 0)), (2, .int x2)] → W p l e ({ frames := 4, cells := 0, slots := 0, locals := 94 } : Room) s m args below meth c H locs 0 0 Q (F0 m 195 ls []) := by
      intro mguests mclause mdeeds mfinding mreadGuests misSight mat mdoes mkinds msees mnow mfindings mread
      intro nu
      induction nu with
      | zero => intro x2 mkept h; exact none_some h
      | succ nu195 ih195 =>
        intro x2 mkept h H locs hP hD hS ls hl
        have h : fX6_party_l195_b F mtextSizes mtexts mguests mclause mdeeds mfinding mreadGuests misSight mat mdoes mkinds msees mnow mfindings mread (fX6_party_l195 F mtextSizes mtexts mguests mclause mdeeds mfinding mreadGuests misSight mat mdoes mkinds msees mnow mfindings mread nu195) x2 mkept = some (r, zmguests, zmclause, zmdeeds, zmfinding, zmreadGuests, zmisSight, zmat, zmdoes, zmkinds, zmsees, zmnow, zmkept, zmfindings, zmread) := h
        unfold fX6_party_l195_b at h
        refine lv_iload_n hx hb dX6_party_195 rfl (lv_at hl 1 rfl) ?_
        refine lv_iconst (v := (3 : Int32)) hx hb dX6_party_196 (by decide) ?_
        refine lv_icmp_ge (tgt := 213) hx hb dX6_party_197 (by decide) (fun c197 => ?_) (fun c197 => ?_)
        · have h := br_1 h c197
          refine lv_aload_n hx hb dX6_party_213 rfl (lv_at hl 0 rfl) ?_
          refine va_get (D := D) (ci := 4) (C := RX6) (T := TX6) (N := 27) hx hb hts iX6 hown hK hP 0 wMo_0 rfl 4 (by decide) q3 (fun _ h9 => h9) rfl dX6_party_214 ?_
          cases h
          exact hret _ _ _ _ hP hD hS dX6_party_217
        · have h := br_0 h c197
          refine lv_aload_n hx hb dX6_party_200 rfl (lv_at hl 0 rfl) ?_
          refine va_get (D := D) (ci := 4) (C := RX6) (T := TX6) (N := 27) hx hb hts iX6 hown hK hP 0 wMo_0 rfl 13 (by decide) q11 (fun _ h9 => h9) rfl dX6_party_201 ?_
          refine lv_iload_n hx hb dX6_party_204 rfl (lv_at hl 1 rfl) ?_
          refine lv_iconst (v := (0 : Int32)) hx hb dX6_party_205 (by decide) ?_
          obtain ⟨hin1, h⟩ := ck_some h
          refine va_zast hx hb hK hP hD hS 11 3 wMo_11 rfl hin1 dX6_party_206 (fun H locs hP hD hS => ?_)
          have hP : va_P D vwCl (wMo T am mguests mclause mdeeds masked mupper mlower mfinding mreadGuests misSight mat mrowSizes mrows mtextSizes mtexts mdoes mkinds msees mnow mbefore mkeeps (upd mkept x2.toNatClampNeg (vp_nar .boolean (0 : Int32))) mfindings mread maside msteps mtried mbest) H := hP
          have hD : va_D A (wMo T am mguests mclause mdeeds masked mupper mlower mfinding mreadGuests misSight mat mrowSizes mrows mtextSizes mtexts mdoes mkinds msees mnow mbefore mkeeps (upd mkept x2.toNatClampNeg (vp_nar .boolean (0 : Int32))) mfindings mread maside msteps mtried mbest) := hD
          refine lv_iinc (v := (x2 + (1 : Int32))) (lv' := [(2, .int (x2 + (1 : Int32))), (0, .ref (am 0))]) hx hb dX6_party_207 hl (k := 1) rfl rfl (by decide) rfl (fun ls hl => ?_)
          refine lv_goto (tgt := 195) hx hb dX6_party_210 (by decide) ?_
          exact ih195 (x2 + (1 : Int32)) (upd mkept x2.toNatClampNeg (vp_nar .boolean (0 : Int32))) h _ _ hP hD hS _ (lv_sub hl [1, 0] rfl)
    have l86 : ∀ mguests : Int32, ∀ mclause : Int32, ∀ mdeeds : Int32, ∀ mfinding : Int32, ∀ mreadGuests : Int32, ∀ misSight : Int32, ∀ mat : Int32, ∀ mdoes : Nat → Int32, ∀ mkept : Nat → Int32, ∀ mfindings : Nat → Int32, ∀ mread : Nat → Int32, ∀ nu : Nat, ∀ x2 : Int32, ∀ mkinds : Nat → Int32, ∀ msees : Nat → Int32, ∀ mnow : Nat → Int32, fX6_party_l86 F mtextSizes mtexts mguests mclause mdeeds mfinding mreadGuests misSight mat mdoes mkept mfindings mread nu x2 mkinds msees mnow = some (r, zmguests, zmclause, zmdeeds, zmfinding, zmreadGuests, zmisSight, zmat, zmdoes, zmkinds, zmsees, zmnow, zmkept, zmfindings, zmread) → ∀ (H : Heap) (locs : List Loc), va_P D vwCl (wMo T am mguests mclause mdeeds masked mupper mlower mfinding mreadGuests misSight mat mrowSizes mrows mtextSizes mtexts mdoes mkinds msees mnow mbefore mkeeps mkept mfindings mread maside msteps mtried mbest) H → va_D A (wMo T am mguests mclause mdeeds masked mupper mlower mfinding mreadGuests misSight mat mrowSizes mrows mtextSizes mtexts mdoes mkinds msees mnow mbefore mkeeps mkept mfindings mread maside msteps mtried mbest) → va_S A s.heap H locs → ∀ (ls : Array Slot), lv_has ls 4 [(0, .ref (am 0)), (2, .int x2)] → W p l e ({ frames := 4, cells := 0, slots := 0, locals := 94 } : Room) s m args below meth c H locs 0 0 Q (F0 m 86 ls []) := by
      intro mguests mclause mdeeds mfinding mreadGuests misSight mat mdoes mkept mfindings mread
      intro nu
      induction nu with
      | zero => intro x2 mkinds msees mnow h; exact none_some h
      | succ nu86 ih86 =>
        intro x2 mkinds msees mnow h H locs hP hD hS ls hl
        have n150 : ∀ s_1 : Int32, ∀ s_2 : Int32, ∀ x2 : Int32, ∀ x3 : Int32, ∀ mkinds : Nat → Int32, ∀ msees : Nat → Int32, ∀ mnow : Nat → Int32, fX6_party_n150 F (fX6_party_l86 F mtextSizes mtexts mguests mclause mdeeds mfinding mreadGuests misSight mat mdoes mkept mfindings mread nu86) mtextSizes mtexts s_1 s_2 x2 x3 mguests mclause mdeeds mfinding mreadGuests misSight mat mdoes mkinds msees mnow mkept mfindings mread = some (r, zmguests, zmclause, zmdeeds, zmfinding, zmreadGuests, zmisSight, zmat, zmdoes, zmkinds, zmsees, zmnow, zmkept, zmfindings, zmread) → ∀ (H : Heap) (locs : List Loc), va_P D vwCl (wMo T am mguests mclause mdeeds masked mupper mlower mfinding mreadGuests misSight mat mrowSizes mrows mtextSizes mtexts mdoes mkinds msees mnow mbefore mkeeps mkept mfindings mread maside msteps mtried mbest) H → va_D A (wMo T am mguests mclause mdeeds masked mupper mlower mfinding mreadGuests misSight mat mrowSizes mrows mtextSizes mtexts mdoes mkinds msees mnow mbefore mkeeps mkept mfindings mread maside msteps mtried mbest) → va_S A s.heap H locs → ∀ (ls : Array Slot), lv_has ls 4 [(0, .ref (am 0)), (2, .int x2), (3, .int x3)] → W p l e ({ frames := 4, cells := 0, slots := 0, locals := 94 } : Room) s m args below meth c H locs 0 0 Q (F0 m 150 ls [.int s_2, .int s_1, .ref (am 8)]) := by
          intro s_1 s_2 x2 x3 mkinds msees mnow h H locs hP hD hS ls hl
          unfold fX6_party_n150 at h
          obtain ⟨hin2, h⟩ := ck_some h
          refine va_iast hx hb hK hP hD hS 8 0 wMo_8 rfl hin2 dX6_party_150 (fun H locs hP hD hS => ?_)
          have hP : va_P D vwCl (wMo T am mguests mclause mdeeds masked mupper mlower mfinding mreadGuests misSight mat mrowSizes mrows mtextSizes mtexts mdoes mkinds msees (upd mnow s_1.toNatClampNeg s_2) mbefore mkeeps mkept mfindings mread maside msteps mtried mbest) H := hP
          have hD : va_D A (wMo T am mguests mclause mdeeds masked mupper mlower mfinding mreadGuests misSight mat mrowSizes mrows mtextSizes mtexts mdoes mkinds msees (upd mnow s_1.toNatClampNeg s_2) mbefore mkeeps mkept mfindings mread maside msteps mtried mbest) := hD
          refine lv_aload_n hx hb dX6_party_151 rfl (lv_at hl 0 rfl) ?_
          refine va_get (D := D) (ci := 4) (C := RX6) (T := TX6) (N := 27) hx hb hts iX6 hown hK hP 0 wMo_0 rfl 8 (by decide) q9 (fun _ h9 => h9) rfl dX6_party_152 ?_
          refine lv_iload_n hx hb dX6_party_155 rfl (lv_at hl 1 rfl) ?_
          refine lv_iload_n hx hb dX6_party_156 rfl (lv_at hl 2 rfl) ?_
          refine lv_if_eq (tgt := 172) hx hb dX6_party_157 (by decide) (fun c157 => ?_) (fun c157 => ?_)
          · have h := br_1 h c157
            refine lv_iconst (v := (0 : Int32)) hx hb dX6_party_172 (by decide) ?_
            obtain ⟨hin3, h⟩ := ck_some h
            refine va_iast hx hb hK hP hD hS 7 0 wMo_7 rfl hin3 dX6_party_173 (fun H locs hP hD hS => ?_)
            have hP : va_P D vwCl (wMo T am mguests mclause mdeeds masked mupper mlower mfinding mreadGuests misSight mat mrowSizes mrows mtextSizes mtexts mdoes mkinds (upd msees x2.toNatClampNeg (0 : Int32)) (upd mnow s_1.toNatClampNeg s_2) mbefore mkeeps mkept mfindings mread maside msteps mtried mbest) H := hP
            have hD : va_D A (wMo T am mguests mclause mdeeds masked mupper mlower mfinding mreadGuests misSight mat mrowSizes mrows mtextSizes mtexts mdoes mkinds (upd msees x2.toNatClampNeg (0 : Int32)) (upd mnow s_1.toNatClampNeg s_2) mbefore mkeeps mkept mfindings mread maside msteps mtried mbest) := hD
            refine lv_iinc (v := (x2 + (1 : Int32))) (lv' := [(2, .int (x2 + (1 : Int32))), (0, .ref (am 0)), (3, .int x3)]) hx hb dX6_party_174 hl (k := 1) rfl rfl (by decide) rfl (fun ls hl => ?_)
            refine lv_goto (tgt := 86) hx hb dX6_party_177 (by decide) ?_
            exact ih86 (x2 + (1 : Int32)) mkinds (upd msees x2.toNatClampNeg (0 : Int32)) (upd mnow s_1.toNatClampNeg s_2) h _ _ hP hD hS _ (lv_sub hl [1, 0] rfl)
          · have h := br_0 h c157
            refine lv_aload_n hx hb dX6_party_160 rfl (lv_at hl 0 rfl) ?_
            refine va_get (D := D) (ci := 4) (C := RX6) (T := TX6) (N := 27) hx hb hts iX6 hown hK hP 0 wMo_0 rfl 20 (by decide) q4 (fun _ h9 => h9) rfl dX6_party_161 ?_
            refine lv_bipush (v := (17 : Int32)) hx hb dX6_party_164 (by decide) ?_
            refine lv_iload_n hx hb dX6_party_166 rfl (lv_at hl 1 rfl) ?_
            refine lv_iadd hx hb dX6_party_167 ?_
            obtain ⟨hin4, h⟩ := ck_some h
            refine va_iald hx hb hK hP 13 0 wMo_13 rfl hin4 dX6_party_168 ?_
            refine lv_goto (tgt := 173) hx hb dX6_party_169 (by decide) ?_
            obtain ⟨hin5, h⟩ := ck_some h
            refine va_iast hx hb hK hP hD hS 7 0 wMo_7 rfl hin5 dX6_party_173 (fun H locs hP hD hS => ?_)
            have hP : va_P D vwCl (wMo T am mguests mclause mdeeds masked mupper mlower mfinding mreadGuests misSight mat mrowSizes mrows mtextSizes mtexts mdoes mkinds (upd msees x2.toNatClampNeg (mread ((17 : Int32) + x2).toNatClampNeg)) (upd mnow s_1.toNatClampNeg s_2) mbefore mkeeps mkept mfindings mread maside msteps mtried mbest) H := hP
            have hD : va_D A (wMo T am mguests mclause mdeeds masked mupper mlower mfinding mreadGuests misSight mat mrowSizes mrows mtextSizes mtexts mdoes mkinds (upd msees x2.toNatClampNeg (mread ((17 : Int32) + x2).toNatClampNeg)) (upd mnow s_1.toNatClampNeg s_2) mbefore mkeeps mkept mfindings mread maside msteps mtried mbest) := hD
            refine lv_iinc (v := (x2 + (1 : Int32))) (lv' := [(2, .int (x2 + (1 : Int32))), (0, .ref (am 0)), (3, .int x3)]) hx hb dX6_party_174 hl (k := 1) rfl rfl (by decide) rfl (fun ls hl => ?_)
            refine lv_goto (tgt := 86) hx hb dX6_party_177 (by decide) ?_
            exact ih86 (x2 + (1 : Int32)) mkinds (upd msees x2.toNatClampNeg (mread ((17 : Int32) + x2).toNatClampNeg)) (upd mnow s_1.toNatClampNeg s_2) h _ _ hP hD hS _ (lv_sub hl [1, 0] rfl)
        have n127 : ∀ s_1 : Int32, ∀ s_2 : Int32, ∀ x2 : Int32, ∀ x3 : Int32, ∀ mkinds : Nat → Int32, ∀ msees : Nat → Int32, ∀ mnow : Nat → Int32, fX6_party_n127 F (fX6_party_l86 F mtextSizes mtexts mguests mclause mdeeds mfinding mreadGuests misSight mat mdoes mkept mfindings mread nu86) mtextSizes mtexts s_1 s_2 x2 x3 mguests mclause mdeeds mfinding mreadGuests misSight mat mdoes mkinds msees mnow mkept mfindings mread = some (r, zmguests, zmclause, zmdeeds, zmfinding, zmreadGuests, zmisSight, zmat, zmdoes, zmkinds, zmsees, zmnow, zmkept, zmfindings, zmread) → ∀ (H : Heap) (locs : List Loc), va_P D vwCl (wMo T am mguests mclause mdeeds masked mupper mlower mfinding mreadGuests misSight mat mrowSizes mrows mtextSizes mtexts mdoes mkinds msees mnow mbefore mkeeps mkept mfindings mread maside msteps mtried mbest) H → va_D A (wMo T am mguests mclause mdeeds masked mupper mlower mfinding mreadGuests misSight mat mrowSizes mrows mtextSizes mtexts mdoes mkinds msees mnow mbefore mkeeps mkept mfindings mread maside msteps mtried mbest) → va_S A s.heap H locs → ∀ (ls : Array Slot), lv_has ls 4 [(0, .ref (am 0)), (2, .int x2), (3, .int x3)] → W p l e ({ frames := 4, cells := 0, slots := 0, locals := 94 } : Room) s m args below meth c H locs 0 0 Q (F0 m 127 ls [.int s_2, .int s_1, .ref (am 6)]) := by
          intro s_1 s_2 x2 x3 mkinds msees mnow h H locs hP hD hS ls hl
          unfold fX6_party_n127 at h
          obtain ⟨hin6, h⟩ := ck_some h
          refine va_iast hx hb hK hP hD hS 6 0 wMo_6 rfl hin6 dX6_party_127 (fun H locs hP hD hS => ?_)
          have hP : va_P D vwCl (wMo T am mguests mclause mdeeds masked mupper mlower mfinding mreadGuests misSight mat mrowSizes mrows mtextSizes mtexts mdoes (upd mkinds s_1.toNatClampNeg s_2) msees mnow mbefore mkeeps mkept mfindings mread maside msteps mtried mbest) H := hP
          have hD : va_D A (wMo T am mguests mclause mdeeds masked mupper mlower mfinding mreadGuests misSight mat mrowSizes mrows mtextSizes mtexts mdoes (upd mkinds s_1.toNatClampNeg s_2) msees mnow mbefore mkeeps mkept mfindings mread maside msteps mtried mbest) := hD
          refine lv_aload_n hx hb dX6_party_128 rfl (lv_at hl 0 rfl) ?_
          refine va_get (D := D) (ci := 4) (C := RX6) (T := TX6) (N := 27) hx hb hts iX6 hown hK hP 0 wMo_0 rfl 9 (by decide) q8 (fun _ h9 => h9) rfl dX6_party_129 ?_
          refine lv_iload_n hx hb dX6_party_132 rfl (lv_at hl 1 rfl) ?_
          refine lv_iload_n hx hb dX6_party_133 rfl (lv_at hl 2 rfl) ?_
          refine lv_if_eq (tgt := 149) hx hb dX6_party_134 (by decide) (fun c134 => ?_) (fun c134 => ?_)
          · have h := br_1 h c134
            refine lv_iconst (v := (0 : Int32)) hx hb dX6_party_149 (by decide) ?_
            exact n150 x2 (0 : Int32) x2 x3 (upd mkinds s_1.toNatClampNeg s_2) msees mnow h _ _ hP hD hS _ (lv_sub hl [0, 1, 2] rfl)
          · have h := br_0 h c134
            refine lv_aload_n hx hb dX6_party_137 rfl (lv_at hl 0 rfl) ?_
            refine va_get (D := D) (ci := 4) (C := RX6) (T := TX6) (N := 27) hx hb hts iX6 hown hK hP 0 wMo_0 rfl 20 (by decide) q4 (fun _ h9 => h9) rfl dX6_party_138 ?_
            refine lv_bipush (v := (11 : Int32)) hx hb dX6_party_141 (by decide) ?_
            refine lv_iload_n hx hb dX6_party_143 rfl (lv_at hl 1 rfl) ?_
            refine lv_iadd hx hb dX6_party_144 ?_
            obtain ⟨hin7, h⟩ := ck_some h
            refine va_iald hx hb hK hP 13 0 wMo_13 rfl hin7 dX6_party_145 ?_
            refine lv_goto (tgt := 150) hx hb dX6_party_146 (by decide) ?_
            exact n150 x2 (mread ((11 : Int32) + x2).toNatClampNeg) x2 x3 (upd mkinds s_1.toNatClampNeg s_2) msees mnow h _ _ hP hD hS _ (lv_sub hl [0, 1, 2] rfl)
        have n105 : ∀ s_0 : Int32, ∀ x2 : Int32, ∀ mkinds : Nat → Int32, ∀ msees : Nat → Int32, ∀ mnow : Nat → Int32, fX6_party_n105 F (fX6_party_l86 F mtextSizes mtexts mguests mclause mdeeds mfinding mreadGuests misSight mat mdoes mkept mfindings mread nu86) mtextSizes mtexts s_0 x2 mguests mclause mdeeds mfinding mreadGuests misSight mat mdoes mkinds msees mnow mkept mfindings mread = some (r, zmguests, zmclause, zmdeeds, zmfinding, zmreadGuests, zmisSight, zmat, zmdoes, zmkinds, zmsees, zmnow, zmkept, zmfindings, zmread) → ∀ (H : Heap) (locs : List Loc), va_P D vwCl (wMo T am mguests mclause mdeeds masked mupper mlower mfinding mreadGuests misSight mat mrowSizes mrows mtextSizes mtexts mdoes mkinds msees mnow mbefore mkeeps mkept mfindings mread maside msteps mtried mbest) H → va_D A (wMo T am mguests mclause mdeeds masked mupper mlower mfinding mreadGuests misSight mat mrowSizes mrows mtextSizes mtexts mdoes mkinds msees mnow mbefore mkeeps mkept mfindings mread maside msteps mtried mbest) → va_S A s.heap H locs → ∀ (ls : Array Slot), lv_has ls 4 [(0, .ref (am 0)), (2, .int x2)] → W p l e ({ frames := 4, cells := 0, slots := 0, locals := 94 } : Room) s m args below meth c H locs 0 0 Q (F0 m 105 ls [.int s_0]) := by
          intro s_0 x2 mkinds msees mnow h H locs hP hD hS ls hl
          unfold fX6_party_n105 at h
          refine lv_istore_n (lv' := [(3, .int s_0), (0, .ref (am 0)), (2, .int x2)]) hx hb dX6_party_105 rfl hl (by decide) rfl (fun ls hl => ?_)
          refine lv_aload_n hx hb dX6_party_106 rfl (lv_at hl 1 rfl) ?_
          refine va_get (D := D) (ci := 4) (C := RX6) (T := TX6) (N := 27) hx hb hts iX6 hown hK hP 0 wMo_0 rfl 7 (by decide) q7 (fun _ h9 => h9) rfl dX6_party_107 ?_
          refine lv_iload_n hx hb dX6_party_110 rfl (lv_at hl 2 rfl) ?_
          refine lv_iload_n hx hb dX6_party_111 rfl (lv_at hl 0 rfl) ?_
          refine lv_if_eq (tgt := 126) hx hb dX6_party_112 (by decide) (fun c112 => ?_) (fun c112 => ?_)
          · have h := br_1 h c112
            refine lv_iconst (v := (0 : Int32)) hx hb dX6_party_126 (by decide) ?_
            exact n127 x2 (0 : Int32) x2 s_0 mkinds msees mnow h _ _ hP hD hS _ (lv_sub hl [1, 2, 0] rfl)
          · have h := br_0 h c112
            refine lv_aload_n hx hb dX6_party_115 rfl (lv_at hl 1 rfl) ?_
            refine va_get (D := D) (ci := 4) (C := RX6) (T := TX6) (N := 27) hx hb hts iX6 hown hK hP 0 wMo_0 rfl 20 (by decide) q4 (fun _ h9 => h9) rfl dX6_party_116 ?_
            refine lv_iconst (v := (5 : Int32)) hx hb dX6_party_119 (by decide) ?_
            refine lv_iload_n hx hb dX6_party_120 rfl (lv_at hl 2 rfl) ?_
            refine lv_iadd hx hb dX6_party_121 ?_
            obtain ⟨hin8, h⟩ := ck_some h
            refine va_iald hx hb hK hP 13 0 wMo_13 rfl hin8 dX6_party_122 ?_
            refine lv_goto (tgt := 127) hx hb dX6_party_123 (by decide) ?_
            exact n127 x2 (mread ((5 : Int32) + x2).toNatClampNeg) x2 s_0 mkinds msees mnow h _ _ hP hD hS _ (lv_sub hl [1, 2, 0] rfl)
        have h : fX6_party_l86_b F mtextSizes mtexts mguests mclause mdeeds mfinding mreadGuests misSight mat mdoes mkept mfindings mread (fX6_party_l86 F mtextSizes mtexts mguests mclause mdeeds mfinding mreadGuests misSight mat mdoes mkept mfindings mread nu86) x2 mkinds msees mnow = some (r, zmguests, zmclause, zmdeeds, zmfinding, zmreadGuests, zmisSight, zmat, zmdoes, zmkinds, zmsees, zmnow, zmkept, zmfindings, zmread) := h
        unfold fX6_party_l86_b at h
        refine lv_iload_n hx hb dX6_party_86 rfl (lv_at hl 1 rfl) ?_
        refine lv_bipush (v := (6 : Int32)) hx hb dX6_party_87 (by decide) ?_
        refine lv_icmp_ge (tgt := 180) hx hb dX6_party_89 (by decide) (fun c89 => ?_) (fun c89 => ?_)
        · have h := br_1 h c89
          refine lv_aload_n hx hb dX6_party_180 rfl (lv_at hl 0 rfl) ?_
          refine va_get (D := D) (ci := 4) (C := RX6) (T := TX6) (N := 27) hx hb hts iX6 hown hK hP 0 wMo_0 rfl 9 (by decide) q8 (fun _ h9 => h9) rfl dX6_party_181 ?_
          refine lv_bipush (v := (6 : Int32)) hx hb dX6_party_184 (by decide) ?_
          refine lv_iconst (v := (0 : Int32)) hx hb dX6_party_186 (by decide) ?_
          refine va_iast hx hb hK hP hD hS 8 0 wMo_8 rfl (show ¬ ((6 : Int32) < 0 ∨ 7 ≤ (6 : Int32).toNatClampNeg) by decide) dX6_party_187 (fun H locs hP hD hS => ?_)
          have hP : va_P D vwCl (wMo T am mguests mclause mdeeds masked mupper mlower mfinding mreadGuests misSight mat mrowSizes mrows mtextSizes mtexts mdoes mkinds msees (upd mnow (6 : Int32).toNatClampNeg (0 : Int32)) mbefore mkeeps mkept mfindings mread maside msteps mtried mbest) H := hP
          have hD : va_D A (wMo T am mguests mclause mdeeds masked mupper mlower mfinding mreadGuests misSight mat mrowSizes mrows mtextSizes mtexts mdoes mkinds msees (upd mnow (6 : Int32).toNatClampNeg (0 : Int32)) mbefore mkeeps mkept mfindings mread maside msteps mtried mbest) := hD
          refine lv_aload_n hx hb dX6_party_188 rfl (lv_at hl 0 rfl) ?_
          refine lv_iconst (v := (0 : Int32)) hx hb dX6_party_189 (by decide) ?_
          refine va_put (D := D) (ci := 4) (v := .int (0 : Int32)) (ty := .int) (C := RX6) (T := TX6) (N := 27) hx hb hts iX6 tyX6 tyX6_ok nmX6 hown hK hP hD hS 0 wMo_0 rfl 10 (by decide) q10 (fun _ h9 => h9) rfl (by decide +kernel) rfl rfl (Nat.le_of_ble_eq_true rfl) dX6_party_190 (fun H locs hP hD hS => ?_)
          have hP : va_P D vwCl (wMo T am mguests mclause (0 : Int32) masked mupper mlower mfinding mreadGuests misSight mat mrowSizes mrows mtextSizes mtexts mdoes mkinds msees (upd mnow (6 : Int32).toNatClampNeg (0 : Int32)) mbefore mkeeps mkept mfindings mread maside msteps mtried mbest) H := hP
          have hD : va_D A (wMo T am mguests mclause (0 : Int32) masked mupper mlower mfinding mreadGuests misSight mat mrowSizes mrows mtextSizes mtexts mdoes mkinds msees (upd mnow (6 : Int32).toNatClampNeg (0 : Int32)) mbefore mkeeps mkept mfindings mread maside msteps mtried mbest) := hD
          refine lv_iconst (v := (0 : Int32)) hx hb dX6_party_193 (by decide) ?_
          refine lv_istore_n (lv' := [(2, .int (0 : Int32)), (0, .ref (am 0))]) hx hb dX6_party_194 rfl hl (by decide) rfl (fun ls hl => ?_)
          exact l195 mguests mclause (0 : Int32) mfinding mreadGuests misSight mat mdoes mkinds msees (upd mnow (6 : Int32).toNatClampNeg (0 : Int32)) mfindings mread F (0 : Int32) mkept h _ _ hP hD hS _ (lv_sub hl [1, 0] rfl)
        · have h := br_0 h c89
          refine lv_iload_n hx hb dX6_party_92 rfl (lv_at hl 1 rfl) ?_
          refine lv_aload_n hx hb dX6_party_93 rfl (lv_at hl 0 rfl) ?_
          refine va_get (D := D) (ci := 4) (C := RX6) (T := TX6) (N := 27) hx hb hts iX6 hown hK hP 0 wMo_0 rfl 4 (by decide) q3 (fun _ h9 => h9) rfl dX6_party_94 ?_
          refine lv_icmp_ge (tgt := 104) hx hb dX6_party_97 (by decide) (fun c97 => ?_) (fun c97 => ?_)
          · have h := br_1 h c97
            refine lv_iconst (v := (0 : Int32)) hx hb dX6_party_104 (by decide) ?_
            exact n105 (0 : Int32) x2 mkinds msees mnow h _ _ hP hD hS _ (lv_sub hl [0, 1] rfl)
          · have h := br_0 h c97
            refine lv_iconst (v := (1 : Int32)) hx hb dX6_party_100 (by decide) ?_
            refine lv_goto (tgt := 105) hx hb dX6_party_101 (by decide) ?_
            exact n105 (1 : Int32) x2 mkinds msees mnow h _ _ hP hD hS _ (lv_sub hl [0, 1] rfl)
    have l57 : ∀ mguests : Int32, ∀ mclause : Int32, ∀ mdeeds : Int32, ∀ mfinding : Int32, ∀ mreadGuests : Int32, ∀ misSight : Int32, ∀ mat : Int32, ∀ mkinds : Nat → Int32, ∀ msees : Nat → Int32, ∀ mnow : Nat → Int32, ∀ mkept : Nat → Int32, ∀ mfindings : Nat → Int32, ∀ mread : Nat → Int32, ∀ nu : Nat, ∀ x2 : Int32, ∀ mdoes : Nat → Int32, fX6_party_l57 F mtextSizes mtexts mguests mclause mdeeds mfinding mreadGuests misSight mat mkinds msees mnow mkept mfindings mread nu x2 mdoes = some (r, zmguests, zmclause, zmdeeds, zmfinding, zmreadGuests, zmisSight, zmat, zmdoes, zmkinds, zmsees, zmnow, zmkept, zmfindings, zmread) → ∀ (H : Heap) (locs : List Loc), va_P D vwCl (wMo T am mguests mclause mdeeds masked mupper mlower mfinding mreadGuests misSight mat mrowSizes mrows mtextSizes mtexts mdoes mkinds msees mnow mbefore mkeeps mkept mfindings mread maside msteps mtried mbest) H → va_D A (wMo T am mguests mclause mdeeds masked mupper mlower mfinding mreadGuests misSight mat mrowSizes mrows mtextSizes mtexts mdoes mkinds msees mnow mbefore mkeeps mkept mfindings mread maside msteps mtried mbest) → va_S A s.heap H locs → ∀ (ls : Array Slot), lv_has ls 4 [(0, .ref (am 0)), (2, .int x2)] → W p l e ({ frames := 4, cells := 0, slots := 0, locals := 94 } : Room) s m args below meth c H locs 0 0 Q (F0 m 57 ls []) := by
      intro mguests mclause mdeeds mfinding mreadGuests misSight mat mkinds msees mnow mkept mfindings mread
      intro nu
      induction nu with
      | zero => intro x2 mdoes h; exact none_some h
      | succ nu57 ih57 =>
        intro x2 mdoes h H locs hP hD hS ls hl
        have h : fX6_party_l57_b F mtextSizes mtexts mguests mclause mdeeds mfinding mreadGuests misSight mat mkinds msees mnow mkept mfindings mread (fX6_party_l57 F mtextSizes mtexts mguests mclause mdeeds mfinding mreadGuests misSight mat mkinds msees mnow mkept mfindings mread nu57) x2 mdoes = some (r, zmguests, zmclause, zmdeeds, zmfinding, zmreadGuests, zmisSight, zmat, zmdoes, zmkinds, zmsees, zmnow, zmkept, zmfindings, zmread) := h
        unfold fX6_party_l57_b at h
        refine lv_iload_n hx hb dX6_party_57 rfl (lv_at hl 1 rfl) ?_
        refine lv_iconst (v := (4 : Int32)) hx hb dX6_party_58 (by decide) ?_
        refine lv_icmp_ge (tgt := 84) hx hb dX6_party_59 (by decide) (fun c59 => ?_) (fun c59 => ?_)
        · have h := br_1 h c59
          refine lv_iconst (v := (0 : Int32)) hx hb dX6_party_84 (by decide) ?_
          refine lv_istore_n (lv' := [(2, .int (0 : Int32)), (0, .ref (am 0))]) hx hb dX6_party_85 rfl hl (by decide) rfl (fun ls hl => ?_)
          exact l86 mguests mclause mdeeds mfinding mreadGuests misSight mat mdoes mkept mfindings mread F (0 : Int32) mkinds msees mnow h _ _ hP hD hS _ (lv_sub hl [1, 0] rfl)
        · have h := br_0 h c59
          refine lv_aload_n hx hb dX6_party_62 rfl (lv_at hl 0 rfl) ?_
          refine va_get (D := D) (ci := 4) (C := RX6) (T := TX6) (N := 27) hx hb hts iX6 hown hK hP 0 wMo_0 rfl 6 (by decide) q6 (fun _ h9 => h9) rfl dX6_party_63 ?_
          refine lv_iload_n hx hb dX6_party_66 rfl (lv_at hl 1 rfl) ?_
          refine lv_aload_n hx hb dX6_party_67 rfl (lv_at hl 0 rfl) ?_
          refine va_get (D := D) (ci := 4) (C := RX6) (T := TX6) (N := 27) hx hb hts iX6 hown hK hP 0 wMo_0 rfl 20 (by decide) q4 (fun _ h9 => h9) rfl dX6_party_68 ?_
          refine lv_iconst (v := (1 : Int32)) hx hb dX6_party_71 (by decide) ?_
          refine lv_iload_n hx hb dX6_party_72 rfl (lv_at hl 1 rfl) ?_
          refine lv_iadd hx hb dX6_party_73 ?_
          obtain ⟨hin9, h⟩ := ck_some h
          refine va_iald hx hb hK hP 13 0 wMo_13 rfl hin9 dX6_party_74 ?_
          refine lv_iconst (v := (4 : Int32)) hx hb dX6_party_75 (by decide) ?_
          refine lv_isub hx hb dX6_party_76 ?_
          obtain ⟨hin10, h⟩ := ck_some h
          refine va_iast hx hb hK hP hD hS 5 0 wMo_5 rfl hin10 dX6_party_77 (fun H locs hP hD hS => ?_)
          have hP : va_P D vwCl (wMo T am mguests mclause mdeeds masked mupper mlower mfinding mreadGuests misSight mat mrowSizes mrows mtextSizes mtexts (upd mdoes x2.toNatClampNeg ((mread ((1 : Int32) + x2).toNatClampNeg) - (4 : Int32))) mkinds msees mnow mbefore mkeeps mkept mfindings mread maside msteps mtried mbest) H := hP
          have hD : va_D A (wMo T am mguests mclause mdeeds masked mupper mlower mfinding mreadGuests misSight mat mrowSizes mrows mtextSizes mtexts (upd mdoes x2.toNatClampNeg ((mread ((1 : Int32) + x2).toNatClampNeg) - (4 : Int32))) mkinds msees mnow mbefore mkeeps mkept mfindings mread maside msteps mtried mbest) := hD
          refine lv_iinc (v := (x2 + (1 : Int32))) (lv' := [(2, .int (x2 + (1 : Int32))), (0, .ref (am 0))]) hx hb dX6_party_78 hl (k := 1) rfl rfl (by decide) rfl (fun ls hl => ?_)
          refine lv_goto (tgt := 57) hx hb dX6_party_81 (by decide) ?_
          exact ih57 (x2 + (1 : Int32)) (upd mdoes x2.toNatClampNeg ((mread ((1 : Int32) + x2).toNatClampNeg) - (4 : Int32))) h _ _ hP hD hS _ (lv_sub hl [1, 0] rfl)
    unfold fX6_party at h
    refine lv_iload_n hx hb dX6_party_0 rfl (lv_at hl 1 rfl) ?_
    obtain ⟨r1, hc, h⟩ := bd1_some h
    refine my_roz (va_Run.run (va_runS (As := [.int x1]) (rest := []) hFix (kX6_isText l D T F x1 r1 hc) (va_cwS 1 hts gX6_party_X6_isText rfl rfl rfl hd_X6_isText ⟨Nat.le_of_ble_eq_true rfl, Nat.le_of_ble_eq_true rfl⟩) (preS_ro va_nil hKK) rfl rfl hl.1 rfl (lv_room (Nat.le_of_ble_eq_true rfl)) dX6_party_1 ⟨Nat.zero_le _, Nat.zero_le _⟩)) (fun hb1 => ?_)
    refine lv_if_ne (tgt := 9) hx hb dX6_party_4 (by decide) (fun c4 => ?_) (fun c4 => ?_)
    · have h := br_0 h c4
      refine lv_aload_n hx hb dX6_party_9 rfl (lv_at hl 0 rfl) ?_
      refine va_get (D := D) (ci := 4) (C := RX6) (T := TX6) (N := 27) hx hb hts iX6 hown hK hP 0 wMo_0 rfl 2 (by decide) q1 (fun _ h9 => h9) rfl dX6_party_10 ?_
      refine lv_iload_n hx hb dX6_party_13 rfl (lv_at hl 1 rfl) ?_
      obtain ⟨hin11, h⟩ := ck_some h
      refine va_iald hx hb hK hP 3 0 wMo_3 rfl hin11 dX6_party_14 ?_
      refine lv_if_ge (tgt := 24) hx hb dX6_party_15 (by decide) (fun c15 => ?_) (fun c15 => ?_)
      · have h := br_1 h c15
        refine lv_aload_n hx hb dX6_party_24 rfl (lv_at hl 0 rfl) ?_
        refine lv_iload_n hx hb dX6_party_25 rfl (lv_at hl 1 rfl) ?_
        obtain ⟨r26, w26_mreadGuests, w26_misSight, w26_mat, w26_mread, hc, h⟩ := bd5_some h
        have hFc := my_freeS hD hS hA
        refine my_rwi (va_runV (As := [.int x1]) (rest := []) hFix (kX6_reads l D T F am mguests mclause mdeeds masked mupper mlower mfinding mreadGuests misSight mat mrowSizes mrows mtextSizes mtexts mdoes mkinds msees mnow mbefore mkeeps mkept mfindings mread maside msteps mtried mbest x1 r26 w26_mreadGuests w26_misSight w26_mat w26_mread hc _) (cwV 1 hts gX6_party_X6_reads rfl rfl rfl ⟨rfl, hd_X6_reads⟩ ⟨Nat.le_of_ble_eq_true rfl, Nat.le_of_ble_eq_true rfl⟩) (preV_rw hP hKK hD (va_recv hK hP (ci := 4) (q0 := 0) rfl wMo_0)) rfl rfl hl.1 rfl (lv_room (Nat.le_of_ble_eq_true rfl)) dX6_party_26 ⟨Nat.zero_le _, Nat.zero_le _⟩) hS hFc (fun H1 locs hP1 hD1 hz1 hkk hS => ?_)
        have hP : va_P D vwCl (wMo T am mguests mclause mdeeds masked mupper mlower mfinding w26_mreadGuests w26_misSight w26_mat mrowSizes mrows mtextSizes mtexts mdoes mkinds msees mnow mbefore mkeeps mkept mfindings w26_mread maside msteps mtried mbest) H1 := hP1
        have hD : va_D A (wMo T am mguests mclause mdeeds masked mupper mlower mfinding w26_mreadGuests w26_misSight w26_mat mrowSizes mrows mtextSizes mtexts mdoes mkinds msees mnow mbefore mkeeps mkept mfindings w26_mread maside msteps mtried mbest) := hD1.weaken (fun _ q _ h => hFc q.1 h)
        generalize H1 = H at hP hS ⊢
        refine lv_bipush (v := (-9 : Int32)) hx hb dX6_party_29 (by decide) ?_
        refine lv_icmp_eq (tgt := 37) hx hb dX6_party_31 (by decide) (fun c31 => ?_) (fun c31 => ?_)
        · have h := br_1 h c31
          refine lv_aload_n hx hb dX6_party_37 rfl (lv_at hl 0 rfl) ?_
          refine lv_aload_n hx hb dX6_party_38 rfl (lv_at hl 0 rfl) ?_
          refine va_get (D := D) (ci := 4) (C := RX6) (T := TX6) (N := 27) hx hb hts iX6 hown hK hP 0 wMo_0 rfl 19 (by decide) q2 (fun _ h9 => h9) rfl dX6_party_39 ?_
          refine va_put (D := D) (ci := 4) (v := .int w26_mreadGuests) (ty := .int) (C := RX6) (T := TX6) (N := 27) hx hb hts iX6 tyX6 tyX6_ok nmX6 hown hK hP hD hS 0 wMo_0 rfl 4 (by decide) q3 (fun _ h9 => h9) rfl (by decide +kernel) rfl rfl (Nat.le_of_ble_eq_true rfl) dX6_party_42 (fun H locs hP hD hS => ?_)
          have hP : va_P D vwCl (wMo T am w26_mreadGuests mclause mdeeds masked mupper mlower mfinding w26_mreadGuests w26_misSight w26_mat mrowSizes mrows mtextSizes mtexts mdoes mkinds msees mnow mbefore mkeeps mkept mfindings w26_mread maside msteps mtried mbest) H := hP
          have hD : va_D A (wMo T am w26_mreadGuests mclause mdeeds masked mupper mlower mfinding w26_mreadGuests w26_misSight w26_mat mrowSizes mrows mtextSizes mtexts mdoes mkinds msees mnow mbefore mkeeps mkept mfindings w26_mread maside msteps mtried mbest) := hD
          refine lv_aload_n hx hb dX6_party_45 rfl (lv_at hl 0 rfl) ?_
          refine lv_aload_n hx hb dX6_party_46 rfl (lv_at hl 0 rfl) ?_
          refine va_get (D := D) (ci := 4) (C := RX6) (T := TX6) (N := 27) hx hb hts iX6 hown hK hP 0 wMo_0 rfl 20 (by decide) q4 (fun _ h9 => h9) rfl dX6_party_47 ?_
          refine lv_iconst (v := (0 : Int32)) hx hb dX6_party_50 (by decide) ?_
          refine va_iald hx hb hK hP 13 0 wMo_13 rfl (show ¬ ((0 : Int32) < 0 ∨ 23 ≤ (0 : Int32).toNatClampNeg) by decide) dX6_party_51 ?_
          refine va_put (D := D) (ci := 4) (v := .int (w26_mread (0 : Int32).toNatClampNeg)) (ty := .int) (C := RX6) (T := TX6) (N := 27) hx hb hts iX6 tyX6 tyX6_ok nmX6 hown hK hP hD hS 0 wMo_0 rfl 5 (by decide) q5 (fun _ h9 => h9) rfl (by decide +kernel) rfl rfl (Nat.le_of_ble_eq_true rfl) dX6_party_52 (fun H locs hP hD hS => ?_)
          have hP : va_P D vwCl (wMo T am w26_mreadGuests (w26_mread (0 : Int32).toNatClampNeg) mdeeds masked mupper mlower mfinding w26_mreadGuests w26_misSight w26_mat mrowSizes mrows mtextSizes mtexts mdoes mkinds msees mnow mbefore mkeeps mkept mfindings w26_mread maside msteps mtried mbest) H := hP
          have hD : va_D A (wMo T am w26_mreadGuests (w26_mread (0 : Int32).toNatClampNeg) mdeeds masked mupper mlower mfinding w26_mreadGuests w26_misSight w26_mat mrowSizes mrows mtextSizes mtexts mdoes mkinds msees mnow mbefore mkeeps mkept mfindings w26_mread maside msteps mtried mbest) := hD
          refine lv_iconst (v := (0 : Int32)) hx hb dX6_party_55 (by decide) ?_
          refine lv_istore_n (lv' := [(2, .int (0 : Int32)), (0, .ref (am 0)), (1, .int x1)]) hx hb dX6_party_56 rfl hl (by decide) rfl (fun ls hl => ?_)
          exact l57 w26_mreadGuests (w26_mread (0 : Int32).toNatClampNeg) mdeeds mfinding w26_mreadGuests w26_misSight w26_mat mkinds msees mnow mkept mfindings w26_mread F (0 : Int32) mdoes h _ _ hP hD hS _ (lv_sub hl [1, 0] rfl)
        · have h := br_0 h c31
          refine lv_bipush (v := (-4 : Int32)) hx hb dX6_party_34 (by decide) ?_
          cases h
          exact hret _ _ _ _ hP hD hS dX6_party_36
      · have h := br_0 h c15
        refine lv_aload_n hx hb dX6_party_18 rfl (lv_at hl 0 rfl) ?_
        refine lv_iconst (v := (1 : Int32)) hx hb dX6_party_19 (by decide) ?_
        obtain ⟨r20, w20_mfinding, w20_mfindings, hc, h⟩ := bd3_some h
        have hFc := my_freeS hD hS hA
        refine my_rwi (va_runV (As := [.int (1 : Int32)]) (rest := []) hFix (kX6_found l D T F am mguests mclause mdeeds masked mupper mlower mfinding mreadGuests misSight mat mrowSizes mrows mtextSizes mtexts mdoes mkinds msees mnow mbefore mkeeps mkept mfindings mread maside msteps mtried mbest (1 : Int32) r20 w20_mfinding w20_mfindings hc _) (cwV 1 hts gX6_party_X6_found rfl rfl rfl ⟨rfl, hd_X6_found⟩ ⟨Nat.le_of_ble_eq_true rfl, Nat.le_of_ble_eq_true rfl⟩) (preV_rw hP hKK hD (va_recv hK hP (ci := 4) (q0 := 0) rfl wMo_0)) rfl rfl hl.1 rfl (lv_room (Nat.le_of_ble_eq_true rfl)) dX6_party_20 ⟨Nat.zero_le _, Nat.zero_le _⟩) hS hFc (fun H1 locs hP1 hD1 hz1 hkk hS => ?_)
        have hP : va_P D vwCl (wMo T am mguests mclause mdeeds masked mupper mlower w20_mfinding mreadGuests misSight mat mrowSizes mrows mtextSizes mtexts mdoes mkinds msees mnow mbefore mkeeps mkept w20_mfindings mread maside msteps mtried mbest) H1 := hP1
        have hD : va_D A (wMo T am mguests mclause mdeeds masked mupper mlower w20_mfinding mreadGuests misSight mat mrowSizes mrows mtextSizes mtexts mdoes mkinds msees mnow mbefore mkeeps mkept w20_mfindings mread maside msteps mtried mbest) := hD1.weaken (fun _ q _ h => hFc q.1 h)
        generalize H1 = H at hP hS ⊢
        cases h
        exact hret _ _ _ _ hP hD hS dX6_party_23
    · have h := br_1 h c4
      refine lv_iconst (v := (-1 : Int32)) hx hb dX6_party_7 (by decide) ?_
      cases h
      exact hret _ _ _ _ hP hD hS dX6_party_8
  exact key _ (fun H locs pc ls hP hD hS hd => W.iret hx hb hr (fun t ht hW => ⟨⟨_, (), rfl, rfl, by show _ ∧ _; rw [ht]; exact ⟨hP, hD⟩⟩, hS.F ht⟩) hS.2.2 hd)
set_option maxHeartbeats 4000000 in
set_option maxRecDepth 100000 in
theorem kX6_isGuest (l : Launch) (D : va_G) (T : Nat → ClassId) (F : Nat) (am : Nat → Nat) (mguests : Int32) (mclause : Int32) (mdeeds : Int32) (masked : Int32) (mupper : Int64) (mlower : Int64) (mfinding : Int32) (mreadGuests : Int32) (misSight : Int32) (mat : Int32) (mrowSizes : Nat → Int32) (mrows : Nat → Int32) (mtextSizes : Nat → Int32) (mtexts : Nat → Int32) (mdoes : Nat → Int32) (mkinds : Nat → Int32) (msees : Nat → Int32) (mnow : Nat → Int32) (mbefore : Nat → Int32) (mkeeps : Nat → Int32) (mkept : Nat → Int32) (mfindings : Nat → Int32) (mread : Nat → Int32) (maside : Nat → Int32) (msteps : Nat → Int32) (mtried : Nat → Int32) (mbest : Nat → Int32) (x1 : Int32) (r : Int32) (h : fX6_isGuest F mguests x1 = some (r)) : Met l yX6_isGuest wsX6_isGuest ({ frames := 1, cells := 0, slots := 0, locals := 25 } : Room) (va_Pc [.ref (am 0), .int x1] (fun U => va_P D vwCl (wMo T am mguests mclause mdeeds masked mupper mlower mfinding mreadGuests misSight mat mrowSizes mrows mtextSizes mtexts mdoes mkinds msees mnow mbefore mkeeps mkept mfindings mread maside msteps mtried mbest) U.heap ∧ KK D T U)) (vp_Si (fun r' => r' = r ∧ b01 r)) 0 0 (fun _ => False) := by
  refine Met.ofW (cc := cX6_isGuest) (maxL := 2) (ret := some .boolean) (by decide) rfl ?_
  intro p e s m args below meth c s₁ B hml hv
  obtain ⟨ha, hP, hKK⟩ := hv
  have hx := B.exec
  have hb := B.bytes
  have hr := B.returns
  have hts := atoms_spec (ws := wsX6_isGuest) B.pre
  have hown : s.vm.findClass RX6 = some m.cls := findClass_of_methodNamed B.named
  have hlocks := B.notSynchronized
  have hK := hKK.1
  have hFix : CallFix p m c cX6_isGuest 2 s args wsX6_isGuest RX6 := ⟨hx, hb, hml, hown, hts⟩
  have q1 := hts _ (List.mem_of_getElem? (i := 1) (show wsX6_isGuest[1]? = some (Cond.fieldLink RX6 131 "PartyWillModel" "guests" "I") from rfl))
  have iX6 : ∀ w ∈ u_ws RX6 TX6 27, w ∈ wsX6_isGuest := fun w h => List.mem_cons_of_mem _ (List.mem_append_right _ (h))
  obtain ⟨ls, hl, e0⟩ := my_entry (m := m) (n := 2) ha (Nat.le_of_ble_eq_true rfl)
  rw [e0]
  have hl : lv_has ls 2 [(0, .ref (am 0)), (1, .int x1)] := hl
  have key : ∀ Q : State → Prop, (∀ (pc : Nat) (ls : Array Slot), decode cX6_isGuest pc = .ok (.ireturn, 1) → b01 r → W p l e ({ frames := 1, cells := 0, slots := 0, locals := 25 } : Room) s m args below meth c s.heap [] 0 0 Q (F0 m pc ls [.int r])) → W p l e ({ frames := 1, cells := 0, slots := 0, locals := 25 } : Room) s m args below meth c s.heap [] 0 0 Q (F0 m 0 ls []) := by
    intro Q hret
    unfold fX6_isGuest at h
    refine lv_iload_n hx hb dX6_isGuest_0 rfl (lv_at hl 1 rfl) ?_
    refine lv_i2l (v := (x1.toInt64)) hx hb dX6_isGuest_1 rfl ?_
    refine lv_lconst (v := (0 : Int64)) hx hb dX6_isGuest_2 (by decide) ?_
    refine lv_aload_n hx hb dX6_isGuest_3 rfl (lv_at hl 0 rfl) ?_
    refine va_get (D := D) (ci := 4) (C := RX6) (T := TX6) (N := 27) hx hb hts iX6 hown hK hP 0 wMo_0 rfl 4 (by decide) q1 (fun _ h9 => h9) rfl dX6_isGuest_4 ?_
    refine lv_iconst (v := (1 : Int32)) hx hb dX6_isGuest_7 (by decide) ?_
    refine lv_isub hx hb dX6_isGuest_8 ?_
    refine lv_i2l (v := ((mguests - (1 : Int32)).toInt64)) hx hb dX6_isGuest_9 rfl ?_
    obtain ⟨r10, hc, h⟩ := bd1_some h
    refine my_roz (va_Run.run (va_runS (As := [.long (x1.toInt64), .long (0 : Int64), .long ((mguests - (1 : Int32)).toInt64)]) (rest := []) hFix (kX6_in l D T F (x1.toInt64) (0 : Int64) ((mguests - (1 : Int32)).toInt64) r10 hc) (va_cwS 3 hts gX6_isGuest_X6_in rfl rfl rfl hd_X6_in ⟨Nat.le_of_ble_eq_true rfl, Nat.le_of_ble_eq_true rfl⟩) (preS_ro va_nil hKK) rfl rfl hl.1 rfl (lv_room (Nat.le_of_ble_eq_true rfl)) dX6_isGuest_10 ⟨Nat.zero_le _, Nat.zero_le _⟩)) (fun hb10 => ?_)
    cases h
    exact hret _ _ dX6_isGuest_13 hb10
  exact key _ (fun pc ls hd hb1 => W.zret hx hb hr (b01_n hb1) (fun t ht hW => ⟨_, rfl, ⟨rfl, hb1⟩, ht⟩) (fun q h => by cases h) hd)
set_option maxHeartbeats 4000000 in
set_option maxRecDepth 100000 in
theorem kX6_isTune (l : Launch) (D : va_G) (T : Nat → ClassId) (F : Nat) (x0 : Int32) (r : Int32) (h : fX6_isTune F x0 = some (r)) : Met l yX6_isTune wsX6_isTune ({ frames := 1, cells := 0, slots := 0, locals := 25 } : Room) (va_Pc [.int x0] (fun U => va_P D vwCl ([] : va_W) U.heap ∧ KK D T U)) (vp_Si (fun r' => r' = r ∧ b01 r)) 0 0 (fun _ => False) := by
  refine Met.ofW (cc := cX6_isTune) (maxL := 1) (ret := some .boolean) (by decide) rfl ?_
  intro p e s m args below meth c s₁ B hml hv
  obtain ⟨ha, hP, hKK⟩ := hv
  have hx := B.exec
  have hb := B.bytes
  have hr := B.returns
  have hts := atoms_spec (ws := wsX6_isTune) B.pre
  have hown : s.vm.findClass RX6 = some m.cls := findClass_of_methodNamed B.named
  have hlocks := B.notSynchronized
  have hK := hKK.1
  have hFix : CallFix p m c cX6_isTune 1 s args wsX6_isTune RX6 := ⟨hx, hb, hml, hown, hts⟩
  have q1 := hts _ (List.mem_of_getElem? (i := 1) (show wsX6_isTune[1]? = some (Cond.constantLong RX6 79 (3)) from rfl))
  obtain ⟨ls, hl, e0⟩ := my_entry (m := m) (n := 1) ha (Nat.le_of_ble_eq_true rfl)
  rw [e0]
  have hl : lv_has ls 1 [(0, .int x0)] := hl
  have key : ∀ Q : State → Prop, (∀ (pc : Nat) (ls : Array Slot), decode cX6_isTune pc = .ok (.ireturn, 1) → b01 r → W p l e ({ frames := 1, cells := 0, slots := 0, locals := 25 } : Room) s m args below meth c s.heap [] 0 0 Q (F0 m pc ls [.int r])) → W p l e ({ frames := 1, cells := 0, slots := 0, locals := 25 } : Room) s m args below meth c s.heap [] 0 0 Q (F0 m 0 ls []) := by
    intro Q hret
    unfold fX6_isTune at h
    refine lv_iload_n hx hb dX6_isTune_0 rfl (lv_at hl 0 rfl) ?_
    refine lv_i2l (v := (x0.toInt64)) hx hb dX6_isTune_1 rfl ?_
    refine lv_lconst (v := (0 : Int64)) hx hb dX6_isTune_2 (by decide) ?_
    refine lv_ldc2 (v := (3 : Int64)) hx hb hown q1 dX6_isTune_3 ?_
    obtain ⟨r6, hc, h⟩ := bd1_some h
    refine my_roz (va_Run.run (va_runS (As := [.long (x0.toInt64), .long (0 : Int64), .long (3 : Int64)]) (rest := []) hFix (kX6_in l D T F (x0.toInt64) (0 : Int64) (3 : Int64) r6 hc) (va_cwS 3 hts gX6_isTune_X6_in rfl rfl rfl hd_X6_in ⟨Nat.le_of_ble_eq_true rfl, Nat.le_of_ble_eq_true rfl⟩) (preS_ro hP hKK) rfl rfl hl.1 rfl (lv_room (Nat.le_of_ble_eq_true rfl)) dX6_isTune_6 ⟨Nat.zero_le _, Nat.zero_le _⟩)) (fun hb6 => ?_)
    cases h
    exact hret _ _ dX6_isTune_9 hb6
  exact key _ (fun pc ls hd hb1 => W.zret hx hb hr (b01_n hb1) (fun t ht hW => ⟨_, rfl, ⟨rfl, hb1⟩, ht⟩) (fun q h => by cases h) hd)
