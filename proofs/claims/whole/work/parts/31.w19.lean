set_option maxHeartbeats 4000000 in
set_option maxRecDepth 100000 in
theorem kX6_takes (l : Launch) (D : va_G) (T : Nat → ClassId) (F : Nat) (am : Nat → Nat) (mguests : Int32) (mclause : Int32) (mdeeds : Int32) (masked : Int32) (mupper : Int64) (mlower : Int64) (mfinding : Int32) (mreadGuests : Int32) (misSight : Int32) (mat : Int32) (mrowSizes : Nat → Int32) (mrows : Nat → Int32) (mtextSizes : Nat → Int32) (mtexts : Nat → Int32) (mdoes : Nat → Int32) (mkinds : Nat → Int32) (msees : Nat → Int32) (mnow : Nat → Int32) (mbefore : Nat → Int32) (mkeeps : Nat → Int32) (mkept : Nat → Int32) (mfindings : Nat → Int32) (mread : Nat → Int32) (maside : Nat → Int32) (msteps : Nat → Int32) (mtried : Nat → Int32) (mbest : Nat → Int32) (x1 : Int32) (x2 : Int32) (x3 : Int32) (x4 : Int32) (r : Int32) (zmat : Int32) (zmread : Nat → Int32) (h : fX6_takes F mat mtextSizes mtexts mread x1 x2 x3 x4 = some (r, zmat, zmread)) : ∀ sz : Nat, Met l yX6_takes wsX6_takes ({ frames := 1, cells := 0, slots := 0, locals := 25 } : Room) (va_Pc [.ref (am 0), .int x1, .int x2, .int x3, .int x4] (fun U => U.heap.size = sz ∧ va_P D vwCl (wMo T am mguests mclause mdeeds masked mupper mlower mfinding mreadGuests misSight mat mrowSizes mrows mtextSizes mtexts mdoes mkinds msees mnow mbefore mkeeps mkept mfindings mread maside msteps mtried mbest) U.heap ∧ KK D T U ∧ va_D (fun _ => True) (wMo T am mguests mclause mdeeds masked mupper mlower mfinding mreadGuests misSight mat mrowSizes mrows mtextSizes mtexts mdoes mkinds msees mnow mbefore mkeeps mkept mfindings mread maside msteps mtried mbest))) (va_Qi (fun r' (_ : Unit) => r' = r ∧ b01 r) (fun _ t => va_P D vwCl (wMo T am mguests mclause mdeeds masked mupper mlower mfinding mreadGuests misSight zmat mrowSizes mrows mtextSizes mtexts mdoes mkinds msees mnow mbefore mkeeps mkept mfindings zmread maside msteps mtried mbest) t.heap ∧ va_D (va_A (wMo T am mguests mclause mdeeds masked mupper mlower mfinding mreadGuests misSight mat mrowSizes mrows mtextSizes mtexts mdoes mkinds msees mnow mbefore mkeeps mkept mfindings mread maside msteps mtried mbest) sz) (wMo T am mguests mclause mdeeds masked mupper mlower mfinding mreadGuests misSight zmat mrowSizes mrows mtextSizes mtexts mdoes mkinds msees mnow mbefore mkeeps mkept mfindings zmread maside msteps mtried mbest)) (va_A (wMo T am mguests mclause mdeeds masked mupper mlower mfinding mreadGuests misSight mat mrowSizes mrows mtextSizes mtexts mdoes mkinds msees mnow mbefore mkeeps mkept mfindings mread maside msteps mtried mbest) sz)) 0 0 (va_A (wMo T am mguests mclause mdeeds masked mupper mlower mfinding mreadGuests misSight mat mrowSizes mrows mtextSizes mtexts mdoes mkinds msees mnow mbefore mkeeps mkept mfindings mread maside msteps mtried mbest) sz) := by
  intro sz
  refine Met.ofW (cc := cX6_takes) (maxL := 6) (ret := some .boolean) (by decide) rfl ?_
  intro p e s m args below meth c s₁ B hml hv
  obtain ⟨ha, hsz, hP, hKK, hD0⟩ := hv
  have hx := B.exec
  have hb := B.bytes
  have hr := B.returns
  have hts := atoms_spec (ws := wsX6_takes) B.pre
  have hown : s.vm.findClass RX6 = some m.cls := findClass_of_methodNamed B.named
  have hlocks := B.notSynchronized
  have hK := hKK.1
  have hFix : CallFix p m c cX6_takes 6 s args wsX6_takes RX6 := ⟨hx, hb, hml, hown, hts⟩
  have q1 := hts _ (List.mem_of_getElem? (i := 1) (show wsX6_takes[1]? = some (Cond.fieldLink RX6 51 "PartyWillModel" "read" "[I") from rfl))
  have q2 := hts _ (List.mem_of_getElem? (i := 2) (show wsX6_takes[2]? = some (Cond.fieldLink RX6 95 "PartyWillModel" "at" "I") from rfl))
  have iX6 : ∀ w ∈ u_ws RX6 TX6 27, w ∈ wsX6_takes := fun w h => List.mem_cons_of_mem _ (List.mem_append_right _ (h))
  subst hsz
  have hD := hD0.self (sz := s.heap.size)
  generalize hAe : va_A (wMo T am mguests mclause mdeeds masked mupper mlower mfinding mreadGuests misSight mat mrowSizes mrows mtextSizes mtexts mdoes mkinds msees mnow mbefore mkeeps mkept mfindings mread maside msteps mtried mbest) s.heap.size = A at hD ⊢
  have hA : ∀ q : Nat, s.heap.size ≤ q → A q := fun q h => by rw [← hAe]; exact Or.inr h
  have hS : va_S A s.heap s.heap [] := va_S.rf
  have hP : va_P D vwCl (wMo T am mguests mclause mdeeds masked mupper mlower mfinding mreadGuests misSight mat mrowSizes mrows mtextSizes mtexts mdoes mkinds msees mnow mbefore mkeeps mkept mfindings mread maside msteps mtried mbest) s.heap := hP
  obtain ⟨ls, hl, e0⟩ := my_entry (m := m) (n := 6) ha (Nat.le_of_ble_eq_true rfl)
  rw [e0]
  have hl : lv_has ls 6 [(0, .ref (am 0)), (1, .int x1), (2, .int x2), (3, .int x3), (4, .int x4)] := hl
  have key : ∀ Q : State → Prop, (∀ (H : Heap) (locs : List Loc) (pc : Nat) (ls : Array Slot), va_P D vwCl (wMo T am mguests mclause mdeeds masked mupper mlower mfinding mreadGuests misSight zmat mrowSizes mrows mtextSizes mtexts mdoes mkinds msees mnow mbefore mkeeps mkept mfindings zmread maside msteps mtried mbest) H → va_D A (wMo T am mguests mclause mdeeds masked mupper mlower mfinding mreadGuests misSight zmat mrowSizes mrows mtextSizes mtexts mdoes mkinds msees mnow mbefore mkeeps mkept mfindings zmread maside msteps mtried mbest) → va_S A s.heap H locs → decode cX6_takes pc = .ok (.ireturn, 1) → b01 r → W p l e ({ frames := 1, cells := 0, slots := 0, locals := 25 } : Room) s m args below meth c H locs 0 0 Q (F0 m pc ls [.int r])) → W p l e ({ frames := 1, cells := 0, slots := 0, locals := 25 } : Room) s m args below meth c s.heap [] 0 0 Q (F0 m 0 ls []) := by
    intro Q hret
    skip
    unfold fX6_takes at h
    refine lv_aload_n hx hb dX6_takes_0 rfl (lv_at hl 0 rfl) ?_
    refine lv_iload_n hx hb dX6_takes_1 rfl (lv_at hl 1 rfl) ?_
    obtain ⟨r2, hc, h⟩ := bd1_some h
    refine my_roi (va_Run.run (va_runV (As := [.int x1]) (rest := []) hFix (kX6_byteAt l D T F am mguests mclause mdeeds masked mupper mlower mfinding mreadGuests misSight mat mrowSizes mrows mtextSizes mtexts mdoes mkinds msees mnow mbefore mkeeps mkept mfindings mread maside msteps mtried mbest x1 r2 hc) (cwV 1 hts gX6_takes_X6_byteAt rfl rfl rfl ⟨rfl, hd_X6_byteAt⟩ ⟨Nat.le_of_ble_eq_true rfl, Nat.le_of_ble_eq_true rfl⟩) (preV_ro hP hKK (va_recv hK hP (ci := 4) (q0 := 0) rfl wMo_0)) rfl rfl hl.1 rfl (lv_room (Nat.le_of_ble_eq_true rfl)) dX6_takes_2 ⟨Nat.zero_le _, Nat.zero_le _⟩)) ?_
    refine lv_bipush (v := (48 : Int32)) hx hb dX6_takes_5 (by decide) ?_
    refine lv_isub hx hb dX6_takes_7 ?_
    refine lv_istore (lv' := [(5, .int (r2 - (48 : Int32))), (0, .ref (am 0)), (1, .int x1), (2, .int x2), (3, .int x3), (4, .int x4)]) hx hb dX6_takes_8 hl (by decide) rfl (fun ls hl => ?_)
    refine lv_iload hx hb dX6_takes_10 (lv_at hl 0 rfl) ?_
    refine lv_i2l (v := ((r2 - (48 : Int32)).toInt64)) hx hb dX6_takes_12 rfl ?_
    refine lv_iload_n hx hb dX6_takes_13 rfl (lv_at hl 4 rfl) ?_
    refine lv_i2l (v := (x3.toInt64)) hx hb dX6_takes_14 rfl ?_
    refine lv_iload hx hb dX6_takes_15 (lv_at hl 5 rfl) ?_
    refine lv_i2l (v := (x4.toInt64)) hx hb dX6_takes_17 rfl ?_
    obtain ⟨r18, hc, h⟩ := bd1_some h
    refine my_roz (va_Run.run (va_runS (As := [.long ((r2 - (48 : Int32)).toInt64), .long (x3.toInt64), .long (x4.toInt64)]) (rest := []) hFix (kX6_in l D T F ((r2 - (48 : Int32)).toInt64) (x3.toInt64) (x4.toInt64) r18 hc) (va_cwS 3 hts gX6_takes_X6_in rfl rfl rfl hd_X6_in ⟨Nat.le_of_ble_eq_true rfl, Nat.le_of_ble_eq_true rfl⟩) (preS_ro va_nil hKK) rfl rfl hl.1 rfl (lv_room (Nat.le_of_ble_eq_true rfl)) dX6_takes_18 ⟨Nat.zero_le _, Nat.zero_le _⟩)) (fun hb18 => ?_)
    refine lv_if_ne (tgt := 26) hx hb dX6_takes_21 (by decide) (fun c21 => ?_) (fun c21 => ?_)
    · have h := br_0 h c21
      refine lv_aload_n hx hb dX6_takes_26 rfl (lv_at hl 1 rfl) ?_
      refine va_get (D := D) (ci := 4) (C := RX6) (T := TX6) (N := 27) hx hb hts iX6 hown hK hP 0 wMo_0 rfl 20 (by decide) q1 (fun _ h9 => h9) rfl dX6_takes_27 ?_
      refine lv_iload_n hx hb dX6_takes_30 rfl (lv_at hl 3 rfl) ?_
      refine lv_iload hx hb dX6_takes_31 (lv_at hl 0 rfl) ?_
      obtain ⟨hin1, h⟩ := ck_some h
      refine va_iast hx hb hK hP hD hS 13 0 wMo_13 rfl hin1 dX6_takes_33 (fun H locs hP hD hS => ?_)
      have hP : va_P D vwCl (wMo T am mguests mclause mdeeds masked mupper mlower mfinding mreadGuests misSight mat mrowSizes mrows mtextSizes mtexts mdoes mkinds msees mnow mbefore mkeeps mkept mfindings (upd mread x2.toNatClampNeg (r2 - (48 : Int32))) maside msteps mtried mbest) H := hP
      have hD : va_D A (wMo T am mguests mclause mdeeds masked mupper mlower mfinding mreadGuests misSight mat mrowSizes mrows mtextSizes mtexts mdoes mkinds msees mnow mbefore mkeeps mkept mfindings (upd mread x2.toNatClampNeg (r2 - (48 : Int32))) maside msteps mtried mbest) := hD
      refine lv_aload_n hx hb dX6_takes_34 rfl (lv_at hl 1 rfl) ?_
      refine lv_dup hx hb dX6_takes_35 rfl ?_
      refine va_get (D := D) (ci := 4) (C := RX6) (T := TX6) (N := 27) hx hb hts iX6 hown hK hP 0 wMo_0 rfl 22 (by decide) q2 (fun _ h9 => h9) rfl dX6_takes_36 ?_
      refine lv_iconst (v := (1 : Int32)) hx hb dX6_takes_39 (by decide) ?_
      refine lv_iadd hx hb dX6_takes_40 ?_
      refine va_put (D := D) (ci := 4) (v := .int (mat + (1 : Int32))) (ty := .int) (C := RX6) (T := TX6) (N := 27) hx hb hts iX6 tyX6 tyX6_ok nmX6 hown hK hP hD hS 0 wMo_0 rfl 22 (by decide) q2 (fun _ h9 => h9) rfl (by decide +kernel) rfl rfl (Nat.le_of_ble_eq_true rfl) dX6_takes_41 (fun H locs hP hD hS => ?_)
      have hP : va_P D vwCl (wMo T am mguests mclause mdeeds masked mupper mlower mfinding mreadGuests misSight (mat + (1 : Int32)) mrowSizes mrows mtextSizes mtexts mdoes mkinds msees mnow mbefore mkeeps mkept mfindings (upd mread x2.toNatClampNeg (r2 - (48 : Int32))) maside msteps mtried mbest) H := hP
      have hD : va_D A (wMo T am mguests mclause mdeeds masked mupper mlower mfinding mreadGuests misSight (mat + (1 : Int32)) mrowSizes mrows mtextSizes mtexts mdoes mkinds msees mnow mbefore mkeeps mkept mfindings (upd mread x2.toNatClampNeg (r2 - (48 : Int32))) maside msteps mtried mbest) := hD
      refine lv_iconst (v := (1 : Int32)) hx hb dX6_takes_44 (by decide) ?_
      cases h
      exact hret _ _ _ _ hP hD hS dX6_takes_45 (Or.inr rfl)
    · have h := br_1 h c21
      refine lv_iconst (v := (0 : Int32)) hx hb dX6_takes_24 (by decide) ?_
      cases h
      exact hret _ _ _ _ hP hD hS dX6_takes_25 (Or.inl rfl)
  exact key _ (fun H locs pc ls hP hD hS hd hb1 => W.zret hx hb hr (b01_n hb1) (fun t ht hW => ⟨⟨_, (), rfl, ⟨rfl, hb1⟩, by show _ ∧ _; rw [ht]; exact ⟨hP, hD⟩⟩, hS.F ht⟩) hS.2.2 hd)
set_option maxHeartbeats 4000000 in
set_option maxRecDepth 100000 in
theorem kX6_takesClause (l : Launch) (D : va_G) (T : Nat → ClassId) (F : Nat) (am : Nat → Nat) (mguests : Int32) (mclause : Int32) (mdeeds : Int32) (masked : Int32) (mupper : Int64) (mlower : Int64) (mfinding : Int32) (mreadGuests : Int32) (misSight : Int32) (mat : Int32) (mrowSizes : Nat → Int32) (mrows : Nat → Int32) (mtextSizes : Nat → Int32) (mtexts : Nat → Int32) (mdoes : Nat → Int32) (mkinds : Nat → Int32) (msees : Nat → Int32) (mnow : Nat → Int32) (mbefore : Nat → Int32) (mkeeps : Nat → Int32) (mkept : Nat → Int32) (mfindings : Nat → Int32) (mread : Nat → Int32) (maside : Nat → Int32) (msteps : Nat → Int32) (mtried : Nat → Int32) (mbest : Nat → Int32) (x1 : Int32) (r : Int32) (zmat : Int32) (zmread : Nat → Int32) (h : fX6_takesClause F mat mtextSizes mtexts mread x1 = some (r, zmat, zmread)) : ∀ sz : Nat, Met l yX6_takesClause wsX6_takesClause ({ frames := 2, cells := 0, slots := 0, locals := 50 } : Room) (va_Pc [.ref (am 0), .int x1] (fun U => U.heap.size = sz ∧ va_P D vwCl (wMo T am mguests mclause mdeeds masked mupper mlower mfinding mreadGuests misSight mat mrowSizes mrows mtextSizes mtexts mdoes mkinds msees mnow mbefore mkeeps mkept mfindings mread maside msteps mtried mbest) U.heap ∧ KK D T U ∧ va_D (fun _ => True) (wMo T am mguests mclause mdeeds masked mupper mlower mfinding mreadGuests misSight mat mrowSizes mrows mtextSizes mtexts mdoes mkinds msees mnow mbefore mkeeps mkept mfindings mread maside msteps mtried mbest))) (va_Qi (fun r' (_ : Unit) => r' = r ∧ b01 r) (fun _ t => va_P D vwCl (wMo T am mguests mclause mdeeds masked mupper mlower mfinding mreadGuests misSight zmat mrowSizes mrows mtextSizes mtexts mdoes mkinds msees mnow mbefore mkeeps mkept mfindings zmread maside msteps mtried mbest) t.heap ∧ va_D (va_A (wMo T am mguests mclause mdeeds masked mupper mlower mfinding mreadGuests misSight mat mrowSizes mrows mtextSizes mtexts mdoes mkinds msees mnow mbefore mkeeps mkept mfindings mread maside msteps mtried mbest) sz) (wMo T am mguests mclause mdeeds masked mupper mlower mfinding mreadGuests misSight zmat mrowSizes mrows mtextSizes mtexts mdoes mkinds msees mnow mbefore mkeeps mkept mfindings zmread maside msteps mtried mbest)) (va_A (wMo T am mguests mclause mdeeds masked mupper mlower mfinding mreadGuests misSight mat mrowSizes mrows mtextSizes mtexts mdoes mkinds msees mnow mbefore mkeeps mkept mfindings mread maside msteps mtried mbest) sz)) 0 0 (va_A (wMo T am mguests mclause mdeeds masked mupper mlower mfinding mreadGuests misSight mat mrowSizes mrows mtextSizes mtexts mdoes mkinds msees mnow mbefore mkeeps mkept mfindings mread maside msteps mtried mbest) sz) := by
  intro sz
  refine Met.ofW (cc := cX6_takesClause) (maxL := 4) (ret := some .boolean) (by decide) rfl ?_
  intro p e s m args below meth c s₁ B hml hv
  obtain ⟨ha, hsz, hP, hKK, hD0⟩ := hv
  have hx := B.exec
  have hb := B.bytes
  have hr := B.returns
  have hts := atoms_spec (ws := wsX6_takesClause) B.pre
  have hown : s.vm.findClass RX6 = some m.cls := findClass_of_methodNamed B.named
  have hlocks := B.notSynchronized
  have hK := hKK.1
  have hFix : CallFix p m c cX6_takesClause 4 s args wsX6_takesClause RX6 := ⟨hx, hb, hml, hown, hts⟩
  have q1 := hts _ (List.mem_of_getElem? (i := 1) (show wsX6_takesClause[1]? = some (Cond.fieldLink RX6 95 "PartyWillModel" "at" "I") from rfl))
  have iX6 : ∀ w ∈ u_ws RX6 TX6 27, w ∈ wsX6_takesClause := fun w h => List.mem_cons_of_mem _ (List.mem_append_right _ (h))
  subst hsz
  have hD := hD0.self (sz := s.heap.size)
  generalize hAe : va_A (wMo T am mguests mclause mdeeds masked mupper mlower mfinding mreadGuests misSight mat mrowSizes mrows mtextSizes mtexts mdoes mkinds msees mnow mbefore mkeeps mkept mfindings mread maside msteps mtried mbest) s.heap.size = A at hD ⊢
  have hA : ∀ q : Nat, s.heap.size ≤ q → A q := fun q h => by rw [← hAe]; exact Or.inr h
  have hS : va_S A s.heap s.heap [] := va_S.rf
  have hP : va_P D vwCl (wMo T am mguests mclause mdeeds masked mupper mlower mfinding mreadGuests misSight mat mrowSizes mrows mtextSizes mtexts mdoes mkinds msees mnow mbefore mkeeps mkept mfindings mread maside msteps mtried mbest) s.heap := hP
  obtain ⟨ls, hl, e0⟩ := my_entry (m := m) (n := 4) ha (Nat.le_of_ble_eq_true rfl)
  rw [e0]
  have hl : lv_has ls 4 [(0, .ref (am 0)), (1, .int x1)] := hl
  have key : ∀ Q : State → Prop, (∀ (H : Heap) (locs : List Loc) (pc : Nat) (ls : Array Slot), va_P D vwCl (wMo T am mguests mclause mdeeds masked mupper mlower mfinding mreadGuests misSight zmat mrowSizes mrows mtextSizes mtexts mdoes mkinds msees mnow mbefore mkeeps mkept mfindings zmread maside msteps mtried mbest) H → va_D A (wMo T am mguests mclause mdeeds masked mupper mlower mfinding mreadGuests misSight zmat mrowSizes mrows mtextSizes mtexts mdoes mkinds msees mnow mbefore mkeeps mkept mfindings zmread maside msteps mtried mbest) → va_S A s.heap H locs → decode cX6_takesClause pc = .ok (.ireturn, 1) → b01 r → W p l e ({ frames := 2, cells := 0, slots := 0, locals := 50 } : Room) s m args below meth c H locs 0 0 Q (F0 m pc ls [.int r])) → W p l e ({ frames := 2, cells := 0, slots := 0, locals := 50 } : Room) s m args below meth c s.heap [] 0 0 Q (F0 m 0 ls []) := by
    intro Q hret
    skip
    have l34 : ∀ x1 : Int32, ∀ nu : Nat, ∀ x2 : Int32, ∀ x3 : Int32, ∀ mat : Int32, ∀ mread : Nat → Int32, fX6_takesClause_l34 F mtextSizes mtexts x1 nu x2 x3 mat mread = some (r, zmat, zmread) → b01 x2 → ∀ (H : Heap) (locs : List Loc), va_P D vwCl (wMo T am mguests mclause mdeeds masked mupper mlower mfinding mreadGuests misSight mat mrowSizes mrows mtextSizes mtexts mdoes mkinds msees mnow mbefore mkeeps mkept mfindings mread maside msteps mtried mbest) H → va_D A (wMo T am mguests mclause mdeeds masked mupper mlower mfinding mreadGuests misSight mat mrowSizes mrows mtextSizes mtexts mdoes mkinds msees mnow mbefore mkeeps mkept mfindings mread maside msteps mtried mbest) → va_S A s.heap H locs → ∀ (ls : Array Slot), lv_has ls 4 [(0, .ref (am 0)), (1, .int x1), (2, .int x2), (3, .int x3)] → W p l e ({ frames := 2, cells := 0, slots := 0, locals := 50 } : Room) s m args below meth c H locs 0 0 Q (F0 m 34 ls []) := by
      intro x1
      intro nu
      induction nu with
      | zero => intro x2 x3 mat mread h; exact none_some h
      | succ nu34 ih34 =>
        intro x2 x3 mat mread h hbx2 H locs hP hD hS ls hl
        have h : fX6_takesClause_l34_b F mtextSizes mtexts x1 (fX6_takesClause_l34 F mtextSizes mtexts x1 nu34) x2 x3 mat mread = some (r, zmat, zmread) := h
        unfold fX6_takesClause_l34_b at h
        refine lv_iload_n hx hb dX6_takesClause_34 rfl (lv_at hl 3 rfl) ?_
        refine lv_iconst (v := (5 : Int32)) hx hb dX6_takesClause_35 (by decide) ?_
        refine lv_icmp_ge (tgt := 67) hx hb dX6_takesClause_36 (by decide) (fun c36 => ?_) (fun c36 => ?_)
        · have h := br_1 h c36
          refine lv_iload_n hx hb dX6_takesClause_67 rfl (lv_at hl 2 rfl) ?_
          cases h
          exact hret _ _ _ _ hP hD hS dX6_takesClause_68 hbx2
        · have h := br_0 h c36
          refine lv_iload_n hx hb dX6_takesClause_39 rfl (lv_at hl 2 rfl) ?_
          refine lv_if_eq (tgt := 59) hx hb dX6_takesClause_40 (by decide) (fun c40 => ?_) (fun c40 => ?_)
          · have h := br_1 h c40
            refine lv_iconst (v := (0 : Int32)) hx hb dX6_takesClause_59 (by decide) ?_
            refine lv_istore_n (lv' := [(2, .int (0 : Int32)), (0, .ref (am 0)), (1, .int x1), (3, .int x3)]) hx hb dX6_takesClause_60 rfl hl (by decide) rfl (fun ls hl => ?_)
            refine lv_iinc (v := (x3 + (1 : Int32))) (lv' := [(3, .int (x3 + (1 : Int32))), (2, .int (0 : Int32)), (0, .ref (am 0)), (1, .int x1)]) hx hb dX6_takesClause_61 hl (k := 3) rfl rfl (by decide) rfl (fun ls hl => ?_)
            refine lv_goto (tgt := 34) hx hb dX6_takesClause_64 (by decide) ?_
            exact ih34 (0 : Int32) (x3 + (1 : Int32)) mat mread h (Or.inl rfl) _ _ hP hD hS _ (lv_sub hl [2, 3, 1, 0] rfl)
          · have h := br_0 h c40
            refine lv_aload_n hx hb dX6_takesClause_43 rfl (lv_at hl 0 rfl) ?_
            refine lv_iload_n hx hb dX6_takesClause_44 rfl (lv_at hl 1 rfl) ?_
            refine lv_iload_n hx hb dX6_takesClause_45 rfl (lv_at hl 3 rfl) ?_
            refine lv_iconst (v := (0 : Int32)) hx hb dX6_takesClause_46 (by decide) ?_
            refine lv_bipush (v := (9 : Int32)) hx hb dX6_takesClause_47 (by decide) ?_
            obtain ⟨r49, w49_mat, w49_mread, hc, h⟩ := bd3_some h
            have hFc := my_freeS hD hS hA
            refine my_rwz (va_runV (As := [.int x1, .int x3, .int (0 : Int32), .int (9 : Int32)]) (rest := []) hFix (kX6_takes l D T F am mguests mclause mdeeds masked mupper mlower mfinding mreadGuests misSight mat mrowSizes mrows mtextSizes mtexts mdoes mkinds msees mnow mbefore mkeeps mkept mfindings mread maside msteps mtried mbest x1 x3 (0 : Int32) (9 : Int32) r49 w49_mat w49_mread hc _) (cwV 4 hts gX6_takesClause_X6_takes rfl rfl rfl ⟨rfl, hd_X6_takes⟩ ⟨Nat.le_of_ble_eq_true rfl, Nat.le_of_ble_eq_true rfl⟩) (preV_rw hP hKK hD (va_recv hK hP (ci := 4) (q0 := 0) rfl wMo_0)) rfl rfl hl.1 rfl (lv_room (Nat.le_of_ble_eq_true rfl)) dX6_takesClause_49 ⟨Nat.zero_le _, Nat.zero_le _⟩) hS hFc (fun hb49 H1 locs hP1 hD1 hz1 hkk hS => ?_)
            have hP : va_P D vwCl (wMo T am mguests mclause mdeeds masked mupper mlower mfinding mreadGuests misSight w49_mat mrowSizes mrows mtextSizes mtexts mdoes mkinds msees mnow mbefore mkeeps mkept mfindings w49_mread maside msteps mtried mbest) H1 := hP1
            have hD : va_D A (wMo T am mguests mclause mdeeds masked mupper mlower mfinding mreadGuests misSight w49_mat mrowSizes mrows mtextSizes mtexts mdoes mkinds msees mnow mbefore mkeeps mkept mfindings w49_mread maside msteps mtried mbest) := hD1.weaken (fun _ q _ h => hFc q.1 h)
            generalize H1 = H at hP hS ⊢
            refine lv_if_eq (tgt := 59) hx hb dX6_takesClause_52 (by decide) (fun c52 => ?_) (fun c52 => ?_)
            · have h := br_1 h c52
              refine lv_iconst (v := (0 : Int32)) hx hb dX6_takesClause_59 (by decide) ?_
              refine lv_istore_n (lv' := [(2, .int (0 : Int32)), (0, .ref (am 0)), (1, .int x1), (3, .int x3)]) hx hb dX6_takesClause_60 rfl hl (by decide) rfl (fun ls hl => ?_)
              refine lv_iinc (v := (x3 + (1 : Int32))) (lv' := [(3, .int (x3 + (1 : Int32))), (2, .int (0 : Int32)), (0, .ref (am 0)), (1, .int x1)]) hx hb dX6_takesClause_61 hl (k := 3) rfl rfl (by decide) rfl (fun ls hl => ?_)
              refine lv_goto (tgt := 34) hx hb dX6_takesClause_64 (by decide) ?_
              exact ih34 (0 : Int32) (x3 + (1 : Int32)) w49_mat w49_mread h (Or.inl rfl) _ _ hP hD hS _ (lv_sub hl [2, 3, 1, 0] rfl)
            · have h := br_0 h c52
              refine lv_iconst (v := (1 : Int32)) hx hb dX6_takesClause_55 (by decide) ?_
              refine lv_goto (tgt := 60) hx hb dX6_takesClause_56 (by decide) ?_
              refine lv_istore_n (lv' := [(2, .int (1 : Int32)), (0, .ref (am 0)), (1, .int x1), (3, .int x3)]) hx hb dX6_takesClause_60 rfl hl (by decide) rfl (fun ls hl => ?_)
              refine lv_iinc (v := (x3 + (1 : Int32))) (lv' := [(3, .int (x3 + (1 : Int32))), (2, .int (1 : Int32)), (0, .ref (am 0)), (1, .int x1)]) hx hb dX6_takesClause_61 hl (k := 3) rfl rfl (by decide) rfl (fun ls hl => ?_)
              refine lv_goto (tgt := 34) hx hb dX6_takesClause_64 (by decide) ?_
              exact ih34 (1 : Int32) (x3 + (1 : Int32)) w49_mat w49_mread h (Or.inr rfl) _ _ hP hD hS _ (lv_sub hl [2, 3, 1, 0] rfl)
    unfold fX6_takesClause at h
    refine lv_aload_n hx hb dX6_takesClause_0 rfl (lv_at hl 0 rfl) ?_
    refine lv_iload_n hx hb dX6_takesClause_1 rfl (lv_at hl 1 rfl) ?_
    obtain ⟨r2, hc, h⟩ := bd1_some h
    refine my_roi (va_Run.run (va_runV (As := [.int x1]) (rest := []) hFix (kX6_byteAt l D T F am mguests mclause mdeeds masked mupper mlower mfinding mreadGuests misSight mat mrowSizes mrows mtextSizes mtexts mdoes mkinds msees mnow mbefore mkeeps mkept mfindings mread maside msteps mtried mbest x1 r2 hc) (cwV 1 hts gX6_takesClause_X6_byteAt rfl rfl rfl ⟨rfl, hd_X6_byteAt⟩ ⟨Nat.le_of_ble_eq_true rfl, Nat.le_of_ble_eq_true rfl⟩) (preV_ro hP hKK (va_recv hK hP (ci := 4) (q0 := 0) rfl wMo_0)) rfl rfl hl.1 rfl (lv_room (Nat.le_of_ble_eq_true rfl)) dX6_takesClause_2 ⟨Nat.zero_le _, Nat.zero_le _⟩)) ?_
    refine lv_bipush (v := (99 : Int32)) hx hb dX6_takesClause_5 (by decide) ?_
    refine lv_icmp_eq (tgt := 12) hx hb dX6_takesClause_7 (by decide) (fun c7 => ?_) (fun c7 => ?_)
    · have h := br_1 h c7
      refine lv_aload_n hx hb dX6_takesClause_12 rfl (lv_at hl 0 rfl) ?_
      refine lv_dup hx hb dX6_takesClause_13 rfl ?_
      refine va_get (D := D) (ci := 4) (C := RX6) (T := TX6) (N := 27) hx hb hts iX6 hown hK hP 0 wMo_0 rfl 22 (by decide) q1 (fun _ h9 => h9) rfl dX6_takesClause_14 ?_
      refine lv_iconst (v := (1 : Int32)) hx hb dX6_takesClause_17 (by decide) ?_
      refine lv_iadd hx hb dX6_takesClause_18 ?_
      refine va_put (D := D) (ci := 4) (v := .int (mat + (1 : Int32))) (ty := .int) (C := RX6) (T := TX6) (N := 27) hx hb hts iX6 tyX6 tyX6_ok nmX6 hown hK hP hD hS 0 wMo_0 rfl 22 (by decide) q1 (fun _ h9 => h9) rfl (by decide +kernel) rfl rfl (Nat.le_of_ble_eq_true rfl) dX6_takesClause_19 (fun H locs hP hD hS => ?_)
      have hP : va_P D vwCl (wMo T am mguests mclause mdeeds masked mupper mlower mfinding mreadGuests misSight (mat + (1 : Int32)) mrowSizes mrows mtextSizes mtexts mdoes mkinds msees mnow mbefore mkeeps mkept mfindings mread maside msteps mtried mbest) H := hP
      have hD : va_D A (wMo T am mguests mclause mdeeds masked mupper mlower mfinding mreadGuests misSight (mat + (1 : Int32)) mrowSizes mrows mtextSizes mtexts mdoes mkinds msees mnow mbefore mkeeps mkept mfindings mread maside msteps mtried mbest) := hD
      refine lv_aload_n hx hb dX6_takesClause_22 rfl (lv_at hl 0 rfl) ?_
      refine lv_iload_n hx hb dX6_takesClause_23 rfl (lv_at hl 1 rfl) ?_
      refine lv_iconst (v := (0 : Int32)) hx hb dX6_takesClause_24 (by decide) ?_
      refine lv_iconst (v := (1 : Int32)) hx hb dX6_takesClause_25 (by decide) ?_
      refine lv_bipush (v := (9 : Int32)) hx hb dX6_takesClause_26 (by decide) ?_
      obtain ⟨r28, w28_mat, w28_mread, hc, h⟩ := bd3_some h
      have hFc := my_freeS hD hS hA
      refine my_rwz (va_runV (As := [.int x1, .int (0 : Int32), .int (1 : Int32), .int (9 : Int32)]) (rest := []) hFix (kX6_takes l D T F am mguests mclause mdeeds masked mupper mlower mfinding mreadGuests misSight (mat + (1 : Int32)) mrowSizes mrows mtextSizes mtexts mdoes mkinds msees mnow mbefore mkeeps mkept mfindings mread maside msteps mtried mbest x1 (0 : Int32) (1 : Int32) (9 : Int32) r28 w28_mat w28_mread hc _) (cwV 4 hts gX6_takesClause_X6_takes rfl rfl rfl ⟨rfl, hd_X6_takes⟩ ⟨Nat.le_of_ble_eq_true rfl, Nat.le_of_ble_eq_true rfl⟩) (preV_rw hP hKK hD (va_recv hK hP (ci := 4) (q0 := 0) rfl wMo_0)) rfl rfl hl.1 rfl (lv_room (Nat.le_of_ble_eq_true rfl)) dX6_takesClause_28 ⟨Nat.zero_le _, Nat.zero_le _⟩) hS hFc (fun hb28 H1 locs hP1 hD1 hz1 hkk hS => ?_)
      have hP : va_P D vwCl (wMo T am mguests mclause mdeeds masked mupper mlower mfinding mreadGuests misSight w28_mat mrowSizes mrows mtextSizes mtexts mdoes mkinds msees mnow mbefore mkeeps mkept mfindings w28_mread maside msteps mtried mbest) H1 := hP1
      have hD : va_D A (wMo T am mguests mclause mdeeds masked mupper mlower mfinding mreadGuests misSight w28_mat mrowSizes mrows mtextSizes mtexts mdoes mkinds msees mnow mbefore mkeeps mkept mfindings w28_mread maside msteps mtried mbest) := hD1.weaken (fun _ q _ h => hFc q.1 h)
      generalize H1 = H at hP hS ⊢
      refine lv_istore_n (lv' := [(2, .int r28), (0, .ref (am 0)), (1, .int x1)]) hx hb dX6_takesClause_31 rfl hl (by decide) rfl (fun ls hl => ?_)
      refine lv_iconst (v := (1 : Int32)) hx hb dX6_takesClause_32 (by decide) ?_
      refine lv_istore_n (lv' := [(3, .int (1 : Int32)), (2, .int r28), (0, .ref (am 0)), (1, .int x1)]) hx hb dX6_takesClause_33 rfl hl (by decide) rfl (fun ls hl => ?_)
      exact l34 x1 F r28 (1 : Int32) w28_mat w28_mread h hb28 _ _ hP hD hS _ (lv_sub hl [2, 3, 1, 0] rfl)
    · have h := br_0 h c7
      refine lv_iconst (v := (0 : Int32)) hx hb dX6_takesClause_10 (by decide) ?_
      cases h
      exact hret _ _ _ _ hP hD hS dX6_takesClause_11 (Or.inl rfl)
  exact key _ (fun H locs pc ls hP hD hS hd hb1 => W.zret hx hb hr (b01_n hb1) (fun t ht hW => ⟨⟨_, (), rfl, ⟨rfl, hb1⟩, by show _ ∧ _; rw [ht]; exact ⟨hP, hD⟩⟩, hS.F ht⟩) hS.2.2 hd)
set_option maxHeartbeats 4000000 in
set_option maxRecDepth 100000 in
theorem kX6_kindOf (l : Launch) (D : va_G) (T : Nat → ClassId) (F : Nat) (x0 : Int32) (r : Int32) (h : fX6_kindOf F x0 = some (r)) : Met l yX6_kindOf wsX6_kindOf ({ frames := 0, cells := 0, slots := 0, locals := 0 } : Room) (va_Pc [.int x0] (fun U => va_P D vwCl ([] : va_W) U.heap ∧ KK D T U)) (vp_Si (fun r' => r' = r)) 0 0 (fun _ => False) := by
  refine Met.ofW (cc := cX6_kindOf) (maxL := 1) (ret := some .int) (by decide) rfl ?_
  intro p e s m args below meth c s₁ B hml hv
  obtain ⟨ha, hP, hKK⟩ := hv
  have hx := B.exec
  have hb := B.bytes
  have hr := B.returns
  have hts := atoms_spec (ws := wsX6_kindOf) B.pre
  have hown : s.vm.findClass RX6 = some m.cls := findClass_of_methodNamed B.named
  have hlocks := B.notSynchronized
  have hK := hKK.1
  have hFix : CallFix p m c cX6_kindOf 1 s args wsX6_kindOf RX6 := ⟨hx, hb, hml, hown, hts⟩
  obtain ⟨ls, hl, e0⟩ := my_entry (m := m) (n := 1) ha (Nat.le_of_ble_eq_true rfl)
  rw [e0]
  have hl : lv_has ls 1 [(0, .int x0)] := hl
  have key : ∀ Q : State → Prop, (∀ (pc : Nat) (ls : Array Slot), decode cX6_kindOf pc = .ok (.ireturn, 1) → W p l e ({ frames := 0, cells := 0, slots := 0, locals := 0 } : Room) s m args below meth c s.heap [] 0 0 Q (F0 m pc ls [.int r])) → W p l e ({ frames := 0, cells := 0, slots := 0, locals := 0 } : Room) s m args below meth c s.heap [] 0 0 Q (F0 m 0 ls []) := by
    intro Q hret
    unfold fX6_kindOf at h
    refine lv_iload_n hx hb dX6_kindOf_0 rfl (lv_at hl 0 rfl) ?_
    refine lv_bipush (v := (103 : Int32)) hx hb dX6_kindOf_1 (by decide) ?_
    refine lv_icmp_ne (tgt := 10) hx hb dX6_kindOf_3 (by decide) (fun c3 => ?_) (fun c3 => ?_)
    · have h := br_0 h c3
      refine lv_iload_n hx hb dX6_kindOf_10 rfl (lv_at hl 0 rfl) ?_
      refine lv_bipush (v := (100 : Int32)) hx hb dX6_kindOf_11 (by decide) ?_
      refine lv_icmp_ne (tgt := 20) hx hb dX6_kindOf_13 (by decide) (fun c13 => ?_) (fun c13 => ?_)
      · have h := br_0 h c13
        refine lv_iload_n hx hb dX6_kindOf_20 rfl (lv_at hl 0 rfl) ?_
        refine lv_bipush (v := (115 : Int32)) hx hb dX6_kindOf_21 (by decide) ?_
        refine lv_icmp_ne (tgt := 30) hx hb dX6_kindOf_23 (by decide) (fun c23 => ?_) (fun c23 => ?_)
        · have h := br_0 h c23
          refine lv_iload_n hx hb dX6_kindOf_30 rfl (lv_at hl 0 rfl) ?_
          refine lv_bipush (v := (109 : Int32)) hx hb dX6_kindOf_31 (by decide) ?_
          refine lv_icmp_ne (tgt := 40) hx hb dX6_kindOf_33 (by decide) (fun c33 => ?_) (fun c33 => ?_)
          · have h := br_0 h c33
            refine lv_iload_n hx hb dX6_kindOf_40 rfl (lv_at hl 0 rfl) ?_
            refine lv_bipush (v := (117 : Int32)) hx hb dX6_kindOf_41 (by decide) ?_
            refine lv_icmp_ne (tgt := 50) hx hb dX6_kindOf_43 (by decide) (fun c43 => ?_) (fun c43 => ?_)
            · have h := br_0 h c43
              refine lv_iload_n hx hb dX6_kindOf_50 rfl (lv_at hl 0 rfl) ?_
              refine lv_bipush (v := (121 : Int32)) hx hb dX6_kindOf_51 (by decide) ?_
              refine lv_icmp_ne (tgt := 60) hx hb dX6_kindOf_53 (by decide) (fun c53 => ?_) (fun c53 => ?_)
              · have h := br_0 h c53
                refine lv_iconst (v := (-1 : Int32)) hx hb dX6_kindOf_60 (by decide) ?_
                cases h
                exact hret _ _ dX6_kindOf_61
              · have h := br_1 h c53
                refine lv_iconst (v := (5 : Int32)) hx hb dX6_kindOf_56 (by decide) ?_
                refine lv_goto (tgt := 61) hx hb dX6_kindOf_57 (by decide) ?_
                cases h
                exact hret _ _ dX6_kindOf_61
            · have h := br_1 h c43
              refine lv_iconst (v := (4 : Int32)) hx hb dX6_kindOf_46 (by decide) ?_
              refine lv_goto (tgt := 61) hx hb dX6_kindOf_47 (by decide) ?_
              cases h
              exact hret _ _ dX6_kindOf_61
          · have h := br_1 h c33
            refine lv_iconst (v := (3 : Int32)) hx hb dX6_kindOf_36 (by decide) ?_
            refine lv_goto (tgt := 61) hx hb dX6_kindOf_37 (by decide) ?_
            cases h
            exact hret _ _ dX6_kindOf_61
        · have h := br_1 h c23
          refine lv_iconst (v := (2 : Int32)) hx hb dX6_kindOf_26 (by decide) ?_
          refine lv_goto (tgt := 61) hx hb dX6_kindOf_27 (by decide) ?_
          cases h
          exact hret _ _ dX6_kindOf_61
      · have h := br_1 h c13
        refine lv_iconst (v := (1 : Int32)) hx hb dX6_kindOf_16 (by decide) ?_
        refine lv_goto (tgt := 61) hx hb dX6_kindOf_17 (by decide) ?_
        cases h
        exact hret _ _ dX6_kindOf_61
    · have h := br_1 h c3
      refine lv_iconst (v := (0 : Int32)) hx hb dX6_kindOf_6 (by decide) ?_
      refine lv_goto (tgt := 61) hx hb dX6_kindOf_7 (by decide) ?_
      cases h
      exact hret _ _ dX6_kindOf_61
  exact key _ (fun pc ls hd => W.iret hx hb hr (fun t ht hW => ⟨_, rfl, rfl, ht⟩) (fun q h => by cases h) hd)
set_option maxHeartbeats 4000000 in
set_option maxRecDepth 100000 in
theorem kX6_takesGuest (l : Launch) (D : va_G) (T : Nat → ClassId) (F : Nat) (am : Nat → Nat) (mguests : Int32) (mclause : Int32) (mdeeds : Int32) (masked : Int32) (mupper : Int64) (mlower : Int64) (mfinding : Int32) (mreadGuests : Int32) (misSight : Int32) (mat : Int32) (mrowSizes : Nat → Int32) (mrows : Nat → Int32) (mtextSizes : Nat → Int32) (mtexts : Nat → Int32) (mdoes : Nat → Int32) (mkinds : Nat → Int32) (msees : Nat → Int32) (mnow : Nat → Int32) (mbefore : Nat → Int32) (mkeeps : Nat → Int32) (mkept : Nat → Int32) (mfindings : Nat → Int32) (mread : Nat → Int32) (maside : Nat → Int32) (msteps : Nat → Int32) (mtried : Nat → Int32) (mbest : Nat → Int32) (x1 : Int32) (r : Int32) (zmreadGuests : Int32) (zmat : Int32) (zmread : Nat → Int32) (h : fX6_takesGuest F mreadGuests misSight mat mtextSizes mtexts mread x1 = some (r, zmreadGuests, zmat, zmread)) : ∀ sz : Nat, Met l yX6_takesGuest wsX6_takesGuest ({ frames := 2, cells := 0, slots := 0, locals := 50 } : Room) (va_Pc [.ref (am 0), .int x1] (fun U => U.heap.size = sz ∧ va_P D vwCl (wMo T am mguests mclause mdeeds masked mupper mlower mfinding mreadGuests misSight mat mrowSizes mrows mtextSizes mtexts mdoes mkinds msees mnow mbefore mkeeps mkept mfindings mread maside msteps mtried mbest) U.heap ∧ KK D T U ∧ va_D (fun _ => True) (wMo T am mguests mclause mdeeds masked mupper mlower mfinding mreadGuests misSight mat mrowSizes mrows mtextSizes mtexts mdoes mkinds msees mnow mbefore mkeeps mkept mfindings mread maside msteps mtried mbest))) (va_Qi (fun r' (_ : Unit) => r' = r ∧ b01 r) (fun _ t => va_P D vwCl (wMo T am mguests mclause mdeeds masked mupper mlower mfinding zmreadGuests misSight zmat mrowSizes mrows mtextSizes mtexts mdoes mkinds msees mnow mbefore mkeeps mkept mfindings zmread maside msteps mtried mbest) t.heap ∧ va_D (va_A (wMo T am mguests mclause mdeeds masked mupper mlower mfinding mreadGuests misSight mat mrowSizes mrows mtextSizes mtexts mdoes mkinds msees mnow mbefore mkeeps mkept mfindings mread maside msteps mtried mbest) sz) (wMo T am mguests mclause mdeeds masked mupper mlower mfinding zmreadGuests misSight zmat mrowSizes mrows mtextSizes mtexts mdoes mkinds msees mnow mbefore mkeeps mkept mfindings zmread maside msteps mtried mbest)) (va_A (wMo T am mguests mclause mdeeds masked mupper mlower mfinding mreadGuests misSight mat mrowSizes mrows mtextSizes mtexts mdoes mkinds msees mnow mbefore mkeeps mkept mfindings mread maside msteps mtried mbest) sz)) 0 0 (va_A (wMo T am mguests mclause mdeeds masked mupper mlower mfinding mreadGuests misSight mat mrowSizes mrows mtextSizes mtexts mdoes mkinds msees mnow mbefore mkeeps mkept mfindings mread maside msteps mtried mbest) sz) := by
  intro sz
  refine Met.ofW (cc := cX6_takesGuest) (maxL := 3) (ret := some .boolean) (by decide) rfl ?_
  intro p e s m args below meth c s₁ B hml hv
  obtain ⟨ha, hsz, hP, hKK, hD0⟩ := hv
  have hx := B.exec
  have hb := B.bytes
  have hr := B.returns
  have hts := atoms_spec (ws := wsX6_takesGuest) B.pre
  have hown : s.vm.findClass RX6 = some m.cls := findClass_of_methodNamed B.named
  have hlocks := B.notSynchronized
  have hK := hKK.1
  have hFix : CallFix p m c cX6_takesGuest 3 s args wsX6_takesGuest RX6 := ⟨hx, hb, hml, hown, hts⟩
  have q1 := hts _ (List.mem_of_getElem? (i := 1) (show wsX6_takesGuest[1]? = some (Cond.fieldLink RX6 108 "PartyWillModel" "readGuests" "I") from rfl))
  have q2 := hts _ (List.mem_of_getElem? (i := 2) (show wsX6_takesGuest[2]? = some (Cond.fieldLink RX6 111 "PartyWillModel" "isSight" "Z") from rfl))
  have q3 := hts _ (List.mem_of_getElem? (i := 3) (show wsX6_takesGuest[3]? = some (Cond.fieldLink RX6 95 "PartyWillModel" "at" "I") from rfl))
  have q4 := hts _ (List.mem_of_getElem? (i := 4) (show wsX6_takesGuest[4]? = some (Cond.fieldLink RX6 51 "PartyWillModel" "read" "[I") from rfl))
  have iX6 : ∀ w ∈ u_ws RX6 TX6 27, w ∈ wsX6_takesGuest := fun w h => List.mem_cons_of_mem _ (List.mem_append_right _ (h))
  subst hsz
  have hD := hD0.self (sz := s.heap.size)
  generalize hAe : va_A (wMo T am mguests mclause mdeeds masked mupper mlower mfinding mreadGuests misSight mat mrowSizes mrows mtextSizes mtexts mdoes mkinds msees mnow mbefore mkeeps mkept mfindings mread maside msteps mtried mbest) s.heap.size = A at hD ⊢
  have hA : ∀ q : Nat, s.heap.size ≤ q → A q := fun q h => by rw [← hAe]; exact Or.inr h
  have hS : va_S A s.heap s.heap [] := va_S.rf
  have hP : va_P D vwCl (wMo T am mguests mclause mdeeds masked mupper mlower mfinding mreadGuests misSight mat mrowSizes mrows mtextSizes mtexts mdoes mkinds msees mnow mbefore mkeeps mkept mfindings mread maside msteps mtried mbest) s.heap := hP
  obtain ⟨ls, hl, e0⟩ := my_entry (m := m) (n := 3) ha (Nat.le_of_ble_eq_true rfl)
  rw [e0]
  have hl : lv_has ls 3 [(0, .ref (am 0)), (1, .int x1)] := hl
  have key : ∀ Q : State → Prop, (∀ (H : Heap) (locs : List Loc) (pc : Nat) (ls : Array Slot), va_P D vwCl (wMo T am mguests mclause mdeeds masked mupper mlower mfinding zmreadGuests misSight zmat mrowSizes mrows mtextSizes mtexts mdoes mkinds msees mnow mbefore mkeeps mkept mfindings zmread maside msteps mtried mbest) H → va_D A (wMo T am mguests mclause mdeeds masked mupper mlower mfinding zmreadGuests misSight zmat mrowSizes mrows mtextSizes mtexts mdoes mkinds msees mnow mbefore mkeeps mkept mfindings zmread maside msteps mtried mbest) → va_S A s.heap H locs → decode cX6_takesGuest pc = .ok (.ireturn, 1) → b01 r → W p l e ({ frames := 2, cells := 0, slots := 0, locals := 50 } : Room) s m args below meth c H locs 0 0 Q (F0 m pc ls [.int r])) → W p l e ({ frames := 2, cells := 0, slots := 0, locals := 50 } : Room) s m args below meth c s.heap [] 0 0 Q (F0 m 0 ls []) := by
    intro Q hret
    skip
    unfold fX6_takesGuest at h
    refine lv_aload_n hx hb dX6_takesGuest_0 rfl (lv_at hl 0 rfl) ?_
    refine lv_iload_n hx hb dX6_takesGuest_1 rfl (lv_at hl 1 rfl) ?_
    obtain ⟨r2, hc, h⟩ := bd1_some h
    refine my_roi (va_Run.run (va_runV (As := [.int x1]) (rest := []) hFix (kX6_byteAt l D T F am mguests mclause mdeeds masked mupper mlower mfinding mreadGuests misSight mat mrowSizes mrows mtextSizes mtexts mdoes mkinds msees mnow mbefore mkeeps mkept mfindings mread maside msteps mtried mbest x1 r2 hc) (cwV 1 hts gX6_takesGuest_X6_byteAt rfl rfl rfl ⟨rfl, hd_X6_byteAt⟩ ⟨Nat.le_of_ble_eq_true rfl, Nat.le_of_ble_eq_true rfl⟩) (preV_ro hP hKK (va_recv hK hP (ci := 4) (q0 := 0) rfl wMo_0)) rfl rfl hl.1 rfl (lv_room (Nat.le_of_ble_eq_true rfl)) dX6_takesGuest_2 ⟨Nat.zero_le _, Nat.zero_le _⟩)) ?_
    obtain ⟨r5, hc, h⟩ := bd1_some h
    refine my_roi (va_Run.run (va_runS (As := [.int r2]) (rest := []) hFix (kX6_kindOf l D T F r2 r5 hc) (va_cwS 1 hts gX6_takesGuest_X6_kindOf rfl rfl rfl hd_X6_kindOf ⟨Nat.le_of_ble_eq_true rfl, Nat.le_of_ble_eq_true rfl⟩) (preS_ro va_nil hKK) rfl rfl hl.1 rfl (lv_room (Nat.le_of_ble_eq_true rfl)) dX6_takesGuest_5 ⟨Nat.zero_le _, Nat.zero_le _⟩)) ?_
    refine lv_istore_n (lv' := [(2, .int r5), (0, .ref (am 0)), (1, .int x1)]) hx hb dX6_takesGuest_8 rfl hl (by decide) rfl (fun ls hl => ?_)
    refine lv_iload_n hx hb dX6_takesGuest_9 rfl (lv_at hl 0 rfl) ?_
    refine lv_if_lt (tgt := 29) hx hb dX6_takesGuest_10 (by decide) (fun c10 => ?_) (fun c10 => ?_)
    · have h := br_1 h c10
      refine lv_iconst (v := (0 : Int32)) hx hb dX6_takesGuest_29 (by decide) ?_
      cases h
      exact hret _ _ _ _ hP hD hS dX6_takesGuest_30 (Or.inl rfl)
    · have h := br_0 h c10
      refine lv_aload_n hx hb dX6_takesGuest_13 rfl (lv_at hl 1 rfl) ?_
      refine va_get (D := D) (ci := 4) (C := RX6) (T := TX6) (N := 27) hx hb hts iX6 hown hK hP 0 wMo_0 rfl 19 (by decide) q1 (fun _ h9 => h9) rfl dX6_takesGuest_14 ?_
      refine lv_bipush (v := (6 : Int32)) hx hb dX6_takesGuest_17 (by decide) ?_
      refine lv_icmp_eq (tgt := 29) hx hb dX6_takesGuest_19 (by decide) (fun c19 => ?_) (fun c19 => ?_)
      · have h := br_1 h c19
        refine lv_iconst (v := (0 : Int32)) hx hb dX6_takesGuest_29 (by decide) ?_
        cases h
        exact hret _ _ _ _ hP hD hS dX6_takesGuest_30 (Or.inl rfl)
      · have h := br_0 h c19
        refine lv_aload_n hx hb dX6_takesGuest_22 rfl (lv_at hl 1 rfl) ?_
        refine va_get (D := D) (ci := 4) (C := RX6) (T := TX6) (N := 27) hx hb hts iX6 hown hK hP 0 wMo_0 rfl 21 (by decide) q2 (fun _ h9 => h9) rfl dX6_takesGuest_23 ?_
        refine lv_if_eq (tgt := 31) hx hb dX6_takesGuest_26 (by decide) (fun c26 => ?_) (fun c26 => ?_)
        · have h := br_1 h c26
          refine lv_aload_n hx hb dX6_takesGuest_31 rfl (lv_at hl 1 rfl) ?_
          refine lv_dup hx hb dX6_takesGuest_32 rfl ?_
          refine va_get (D := D) (ci := 4) (C := RX6) (T := TX6) (N := 27) hx hb hts iX6 hown hK hP 0 wMo_0 rfl 22 (by decide) q3 (fun _ h9 => h9) rfl dX6_takesGuest_33 ?_
          refine lv_iconst (v := (1 : Int32)) hx hb dX6_takesGuest_36 (by decide) ?_
          refine lv_iadd hx hb dX6_takesGuest_37 ?_
          refine va_put (D := D) (ci := 4) (v := .int (mat + (1 : Int32))) (ty := .int) (C := RX6) (T := TX6) (N := 27) hx hb hts iX6 tyX6 tyX6_ok nmX6 hown hK hP hD hS 0 wMo_0 rfl 22 (by decide) q3 (fun _ h9 => h9) rfl (by decide +kernel) rfl rfl (Nat.le_of_ble_eq_true rfl) dX6_takesGuest_38 (fun H locs hP hD hS => ?_)
          have hP : va_P D vwCl (wMo T am mguests mclause mdeeds masked mupper mlower mfinding mreadGuests misSight (mat + (1 : Int32)) mrowSizes mrows mtextSizes mtexts mdoes mkinds msees mnow mbefore mkeeps mkept mfindings mread maside msteps mtried mbest) H := hP
          have hD : va_D A (wMo T am mguests mclause mdeeds masked mupper mlower mfinding mreadGuests misSight (mat + (1 : Int32)) mrowSizes mrows mtextSizes mtexts mdoes mkinds msees mnow mbefore mkeeps mkept mfindings mread maside msteps mtried mbest) := hD
          refine lv_aload_n hx hb dX6_takesGuest_41 rfl (lv_at hl 1 rfl) ?_
          refine va_get (D := D) (ci := 4) (C := RX6) (T := TX6) (N := 27) hx hb hts iX6 hown hK hP 0 wMo_0 rfl 20 (by decide) q4 (fun _ h9 => h9) rfl dX6_takesGuest_42 ?_
          refine lv_iconst (v := (5 : Int32)) hx hb dX6_takesGuest_45 (by decide) ?_
          refine lv_aload_n hx hb dX6_takesGuest_46 rfl (lv_at hl 1 rfl) ?_
          refine va_get (D := D) (ci := 4) (C := RX6) (T := TX6) (N := 27) hx hb hts iX6 hown hK hP 0 wMo_0 rfl 19 (by decide) q1 (fun _ h9 => h9) rfl dX6_takesGuest_47 ?_
          refine lv_iadd hx hb dX6_takesGuest_50 ?_
          refine lv_iload_n hx hb dX6_takesGuest_51 rfl (lv_at hl 0 rfl) ?_
          obtain ⟨hin1, h⟩ := ck_some h
          refine va_iast hx hb hK hP hD hS 13 0 wMo_13 rfl hin1 dX6_takesGuest_52 (fun H locs hP hD hS => ?_)
          have hP : va_P D vwCl (wMo T am mguests mclause mdeeds masked mupper mlower mfinding mreadGuests misSight (mat + (1 : Int32)) mrowSizes mrows mtextSizes mtexts mdoes mkinds msees mnow mbefore mkeeps mkept mfindings (upd mread ((5 : Int32) + mreadGuests).toNatClampNeg r5) maside msteps mtried mbest) H := hP
          have hD : va_D A (wMo T am mguests mclause mdeeds masked mupper mlower mfinding mreadGuests misSight (mat + (1 : Int32)) mrowSizes mrows mtextSizes mtexts mdoes mkinds msees mnow mbefore mkeeps mkept mfindings (upd mread ((5 : Int32) + mreadGuests).toNatClampNeg r5) maside msteps mtried mbest) := hD
          refine lv_aload_n hx hb dX6_takesGuest_53 rfl (lv_at hl 1 rfl) ?_
          refine va_get (D := D) (ci := 4) (C := RX6) (T := TX6) (N := 27) hx hb hts iX6 hown hK hP 0 wMo_0 rfl 20 (by decide) q4 (fun _ h9 => h9) rfl dX6_takesGuest_54 ?_
          refine lv_bipush (v := (17 : Int32)) hx hb dX6_takesGuest_57 (by decide) ?_
          refine lv_aload_n hx hb dX6_takesGuest_59 rfl (lv_at hl 1 rfl) ?_
          refine va_get (D := D) (ci := 4) (C := RX6) (T := TX6) (N := 27) hx hb hts iX6 hown hK hP 0 wMo_0 rfl 19 (by decide) q1 (fun _ h9 => h9) rfl dX6_takesGuest_60 ?_
          refine lv_iadd hx hb dX6_takesGuest_63 ?_
          refine lv_iconst (v := (0 : Int32)) hx hb dX6_takesGuest_64 (by decide) ?_
          obtain ⟨hin2, h⟩ := ck_some h
          refine va_iast hx hb hK hP hD hS 13 0 wMo_13 rfl hin2 dX6_takesGuest_65 (fun H locs hP hD hS => ?_)
          have hP : va_P D vwCl (wMo T am mguests mclause mdeeds masked mupper mlower mfinding mreadGuests misSight (mat + (1 : Int32)) mrowSizes mrows mtextSizes mtexts mdoes mkinds msees mnow mbefore mkeeps mkept mfindings (upd (upd mread ((5 : Int32) + mreadGuests).toNatClampNeg r5) ((17 : Int32) + mreadGuests).toNatClampNeg (0 : Int32)) maside msteps mtried mbest) H := hP
          have hD : va_D A (wMo T am mguests mclause mdeeds masked mupper mlower mfinding mreadGuests misSight (mat + (1 : Int32)) mrowSizes mrows mtextSizes mtexts mdoes mkinds msees mnow mbefore mkeeps mkept mfindings (upd (upd mread ((5 : Int32) + mreadGuests).toNatClampNeg r5) ((17 : Int32) + mreadGuests).toNatClampNeg (0 : Int32)) maside msteps mtried mbest) := hD
          refine lv_aload_n hx hb dX6_takesGuest_66 rfl (lv_at hl 1 rfl) ?_
          refine lv_dup hx hb dX6_takesGuest_67 rfl ?_
          refine va_get (D := D) (ci := 4) (C := RX6) (T := TX6) (N := 27) hx hb hts iX6 hown hK hP 0 wMo_0 rfl 19 (by decide) q1 (fun _ h9 => h9) rfl dX6_takesGuest_68 ?_
          refine lv_iconst (v := (1 : Int32)) hx hb dX6_takesGuest_71 (by decide) ?_
          refine lv_iadd hx hb dX6_takesGuest_72 ?_
          refine va_put (D := D) (ci := 4) (v := .int (mreadGuests + (1 : Int32))) (ty := .int) (C := RX6) (T := TX6) (N := 27) hx hb hts iX6 tyX6 tyX6_ok nmX6 hown hK hP hD hS 0 wMo_0 rfl 19 (by decide) q1 (fun _ h9 => h9) rfl (by decide +kernel) rfl rfl (Nat.le_of_ble_eq_true rfl) dX6_takesGuest_73 (fun H locs hP hD hS => ?_)
          have hP : va_P D vwCl (wMo T am mguests mclause mdeeds masked mupper mlower mfinding (mreadGuests + (1 : Int32)) misSight (mat + (1 : Int32)) mrowSizes mrows mtextSizes mtexts mdoes mkinds msees mnow mbefore mkeeps mkept mfindings (upd (upd mread ((5 : Int32) + mreadGuests).toNatClampNeg r5) ((17 : Int32) + mreadGuests).toNatClampNeg (0 : Int32)) maside msteps mtried mbest) H := hP
          have hD : va_D A (wMo T am mguests mclause mdeeds masked mupper mlower mfinding (mreadGuests + (1 : Int32)) misSight (mat + (1 : Int32)) mrowSizes mrows mtextSizes mtexts mdoes mkinds msees mnow mbefore mkeeps mkept mfindings (upd (upd mread ((5 : Int32) + mreadGuests).toNatClampNeg r5) ((17 : Int32) + mreadGuests).toNatClampNeg (0 : Int32)) maside msteps mtried mbest) := hD
          refine lv_aload_n hx hb dX6_takesGuest_76 rfl (lv_at hl 1 rfl) ?_
          refine lv_iload_n hx hb dX6_takesGuest_77 rfl (lv_at hl 2 rfl) ?_
          refine lv_bipush (v := (10 : Int32)) hx hb dX6_takesGuest_78 (by decide) ?_
          refine lv_aload_n hx hb dX6_takesGuest_80 rfl (lv_at hl 1 rfl) ?_
          refine va_get (D := D) (ci := 4) (C := RX6) (T := TX6) (N := 27) hx hb hts iX6 hown hK hP 0 wMo_0 rfl 19 (by decide) q1 (fun _ h9 => h9) rfl dX6_takesGuest_81 ?_
          refine lv_iadd hx hb dX6_takesGuest_84 ?_
          refine lv_iconst (v := (0 : Int32)) hx hb dX6_takesGuest_85 (by decide) ?_
          refine lv_bipush (v := (9 : Int32)) hx hb dX6_takesGuest_86 (by decide) ?_
          obtain ⟨r88, w88_mat, w88_mread, hc, h⟩ := bd3_some h
          have hFc := my_freeS hD hS hA
          refine my_rwz (va_runV (As := [.int x1, .int ((10 : Int32) + (mreadGuests + (1 : Int32))), .int (0 : Int32), .int (9 : Int32)]) (rest := []) hFix (kX6_takes l D T F am mguests mclause mdeeds masked mupper mlower mfinding (mreadGuests + (1 : Int32)) misSight (mat + (1 : Int32)) mrowSizes mrows mtextSizes mtexts mdoes mkinds msees mnow mbefore mkeeps mkept mfindings (upd (upd mread ((5 : Int32) + mreadGuests).toNatClampNeg r5) ((17 : Int32) + mreadGuests).toNatClampNeg (0 : Int32)) maside msteps mtried mbest x1 ((10 : Int32) + (mreadGuests + (1 : Int32))) (0 : Int32) (9 : Int32) r88 w88_mat w88_mread hc _) (cwV 4 hts gX6_takesGuest_X6_takes rfl rfl rfl ⟨rfl, hd_X6_takes⟩ ⟨Nat.le_of_ble_eq_true rfl, Nat.le_of_ble_eq_true rfl⟩) (preV_rw hP hKK hD (va_recv hK hP (ci := 4) (q0 := 0) rfl wMo_0)) rfl rfl hl.1 rfl (lv_room (Nat.le_of_ble_eq_true rfl)) dX6_takesGuest_88 ⟨Nat.zero_le _, Nat.zero_le _⟩) hS hFc (fun hb88 H1 locs hP1 hD1 hz1 hkk hS => ?_)
          have hP : va_P D vwCl (wMo T am mguests mclause mdeeds masked mupper mlower mfinding (mreadGuests + (1 : Int32)) misSight w88_mat mrowSizes mrows mtextSizes mtexts mdoes mkinds msees mnow mbefore mkeeps mkept mfindings w88_mread maside msteps mtried mbest) H1 := hP1
          have hD : va_D A (wMo T am mguests mclause mdeeds masked mupper mlower mfinding (mreadGuests + (1 : Int32)) misSight w88_mat mrowSizes mrows mtextSizes mtexts mdoes mkinds msees mnow mbefore mkeeps mkept mfindings w88_mread maside msteps mtried mbest) := hD1.weaken (fun _ q _ h => hFc q.1 h)
          generalize H1 = H at hP hS ⊢
          cases h
          exact hret _ _ _ _ hP hD hS dX6_takesGuest_91 hb88
        · have h := br_0 h c26
          refine lv_iconst (v := (0 : Int32)) hx hb dX6_takesGuest_29 (by decide) ?_
          cases h
          exact hret _ _ _ _ hP hD hS dX6_takesGuest_30 (Or.inl rfl)
  exact key _ (fun H locs pc ls hP hD hS hd hb1 => W.zret hx hb hr (b01_n hb1) (fun t ht hW => ⟨⟨_, (), rfl, ⟨rfl, hb1⟩, by show _ ∧ _; rw [ht]; exact ⟨hP, hD⟩⟩, hS.F ht⟩) hS.2.2 hd)
