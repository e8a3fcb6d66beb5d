set_option maxHeartbeats 4000000 in
set_option maxRecDepth 100000 in
theorem kX6_takesSight (l : Launch) (D : va_G) (T : Nat → ClassId) (F : Nat) (am : Nat → Nat) (mguests : Int32) (mclause : Int32) (mdeeds : Int32) (masked : Int32) (mupper : Int64) (mlower : Int64) (mfinding : Int32) (mreadGuests : Int32) (misSight : Int32) (mat : Int32) (mrowSizes : Nat → Int32) (mrows : Nat → Int32) (mtextSizes : Nat → Int32) (mtexts : Nat → Int32) (mdoes : Nat → Int32) (mkinds : Nat → Int32) (msees : Nat → Int32) (mnow : Nat → Int32) (mbefore : Nat → Int32) (mkeeps : Nat → Int32) (mkept : Nat → Int32) (mfindings : Nat → Int32) (mread : Nat → Int32) (maside : Nat → Int32) (msteps : Nat → Int32) (mtried : Nat → Int32) (mbest : Nat → Int32) (x1 : Int32) (r : Int32) (zmisSight : Int32) (zmat : Int32) (zmread : Nat → Int32) (h : fX6_takesSight F mreadGuests misSight mat mtextSizes mtexts mread x1 = some (r, zmisSight, zmat, zmread)) : ∀ sz : Nat, Met l yX6_takesSight wsX6_takesSight ({ frames := 1, cells := 0, slots := 0, locals := 25 } : Room) (va_Pc [.ref (am 0), .int x1] (fun U => U.heap.size = sz ∧ va_P D vwCl (wMo T am mguests mclause mdeeds masked mupper mlower mfinding mreadGuests misSight mat mrowSizes mrows mtextSizes mtexts mdoes mkinds msees mnow mbefore mkeeps mkept mfindings mread maside msteps mtried mbest) U.heap ∧ KK D T U ∧ va_D (fun _ => True) (wMo T am mguests mclause mdeeds masked mupper mlower mfinding mreadGuests misSight mat mrowSizes mrows mtextSizes mtexts mdoes mkinds msees mnow mbefore mkeeps mkept mfindings mread maside msteps mtried mbest))) (va_Qi (fun r' (_ : Unit) => r' = r ∧ b01 r) (fun _ t => va_P D vwCl (wMo T am mguests mclause mdeeds masked mupper mlower mfinding mreadGuests zmisSight zmat mrowSizes mrows mtextSizes mtexts mdoes mkinds msees mnow mbefore mkeeps mkept mfindings zmread maside msteps mtried mbest) t.heap ∧ va_D (va_A (wMo T am mguests mclause mdeeds masked mupper mlower mfinding mreadGuests misSight mat mrowSizes mrows mtextSizes mtexts mdoes mkinds msees mnow mbefore mkeeps mkept mfindings mread maside msteps mtried mbest) sz) (wMo T am mguests mclause mdeeds masked mupper mlower mfinding mreadGuests zmisSight zmat mrowSizes mrows mtextSizes mtexts mdoes mkinds msees mnow mbefore mkeeps mkept mfindings zmread maside msteps mtried mbest)) (va_A (wMo T am mguests mclause mdeeds masked mupper mlower mfinding mreadGuests misSight mat mrowSizes mrows mtextSizes mtexts mdoes mkinds msees mnow mbefore mkeeps mkept mfindings mread maside msteps mtried mbest) sz)) 0 0 (va_A (wMo T am mguests mclause mdeeds masked mupper mlower mfinding mreadGuests misSight mat mrowSizes mrows mtextSizes mtexts mdoes mkinds msees mnow mbefore mkeeps mkept mfindings mread maside msteps mtried mbest) sz) := by
  intro sz
  refine Met.ofW (cc := cX6_takesSight) (maxL := 5) (ret := some .boolean) (by decide) rfl ?_
  intro p e s m args below meth c s₁ B hml hv
  obtain ⟨ha, hsz, hP, hKK, hD0⟩ := hv
  have hx := B.exec
  have hb := B.bytes
  have hr := B.returns
  have hts := atoms_spec (ws := wsX6_takesSight) B.pre
  have hown : s.vm.findClass RX6 = some m.cls := findClass_of_methodNamed B.named
  have hlocks := B.notSynchronized
  have hK := hKK.1
  have hFix : CallFix p m c cX6_takesSight 5 s args wsX6_takesSight RX6 := ⟨hx, hb, hml, hown, hts⟩
  have q1 := hts _ (List.mem_of_getElem? (i := 1) (show wsX6_takesSight[1]? = some (Cond.fieldLink RX6 108 "PartyWillModel" "readGuests" "I") from rfl))
  have q2 := hts _ (List.mem_of_getElem? (i := 2) (show wsX6_takesSight[2]? = some (Cond.fieldLink RX6 95 "PartyWillModel" "at" "I") from rfl))
  have q3 := hts _ (List.mem_of_getElem? (i := 3) (show wsX6_takesSight[3]? = some (Cond.fieldLink RX6 111 "PartyWillModel" "isSight" "Z") from rfl))
  have q4 := hts _ (List.mem_of_getElem? (i := 4) (show wsX6_takesSight[4]? = some (Cond.fieldLink RX6 51 "PartyWillModel" "read" "[I") from rfl))
  have iX6 : ∀ w ∈ u_ws RX6 TX6 27, w ∈ wsX6_takesSight := fun w h => List.mem_cons_of_mem _ (List.mem_append_right _ (h))
  subst hsz
  have hD := hD0.self (sz := s.heap.size)
  generalize hAe : va_A (wMo T am mguests mclause mdeeds masked mupper mlower mfinding mreadGuests misSight mat mrowSizes mrows mtextSizes mtexts mdoes mkinds msees mnow mbefore mkeeps mkept mfindings mread maside msteps mtried mbest) s.heap.size = A at hD ⊢
  have hA : ∀ q : Nat, s.heap.size ≤ q → A q := fun q h => by rw [← hAe]; exact Or.inr h
  have hS : va_S A s.heap s.heap [] := va_S.rf
  have hP : va_P D vwCl (wMo T am mguests mclause mdeeds masked mupper mlower mfinding mreadGuests misSight mat mrowSizes mrows mtextSizes mtexts mdoes mkinds msees mnow mbefore mkeeps mkept mfindings mread maside msteps mtried mbest) s.heap := hP
  obtain ⟨ls, hl, e0⟩ := my_entry (m := m) (n := 5) ha (Nat.le_of_ble_eq_true rfl)
  rw [e0]
  have hl : lv_has ls 5 [(0, .ref (am 0)), (1, .int x1)] := hl
  have key : ∀ Q : State → Prop, (∀ (H : Heap) (locs : List Loc) (pc : Nat) (ls : Array Slot), va_P D vwCl (wMo T am mguests mclause mdeeds masked mupper mlower mfinding mreadGuests zmisSight zmat mrowSizes mrows mtextSizes mtexts mdoes mkinds msees mnow mbefore mkeeps mkept mfindings zmread maside msteps mtried mbest) H → va_D A (wMo T am mguests mclause mdeeds masked mupper mlower mfinding mreadGuests zmisSight zmat mrowSizes mrows mtextSizes mtexts mdoes mkinds msees mnow mbefore mkeeps mkept mfindings zmread maside msteps mtried mbest) → va_S A s.heap H locs → decode cX6_takesSight pc = .ok (.ireturn, 1) → b01 r → W p l e ({ frames := 1, cells := 0, slots := 0, locals := 25 } : Room) s m args below meth c H locs 0 0 Q (F0 m pc ls [.int r])) → W p l e ({ frames := 1, cells := 0, slots := 0, locals := 25 } : Room) s m args below meth c s.heap [] 0 0 Q (F0 m 0 ls []) := by
    intro Q hret
    skip
    unfold fX6_takesSight at h
    refine lv_aload_n hx hb dX6_takesSight_0 rfl (lv_at hl 0 rfl) ?_
    refine va_get (D := D) (ci := 4) (C := RX6) (T := TX6) (N := 27) hx hb hts iX6 hown hK hP 0 wMo_0 rfl 19 (by decide) q1 (fun _ h9 => h9) rfl dX6_takesSight_1 ?_
    refine lv_if_ne (tgt := 9) hx hb dX6_takesSight_4 (by decide) (fun c4 => ?_) (fun c4 => ?_)
    · have h := br_0 h c4
      refine lv_aload_n hx hb dX6_takesSight_9 rfl (lv_at hl 0 rfl) ?_
      refine lv_dup hx hb dX6_takesSight_10 rfl ?_
      refine va_get (D := D) (ci := 4) (C := RX6) (T := TX6) (N := 27) hx hb hts iX6 hown hK hP 0 wMo_0 rfl 22 (by decide) q2 (fun _ h9 => h9) rfl dX6_takesSight_11 ?_
      refine lv_iconst (v := (1 : Int32)) hx hb dX6_takesSight_14 (by decide) ?_
      refine lv_iadd hx hb dX6_takesSight_15 ?_
      refine va_put (D := D) (ci := 4) (v := .int (mat + (1 : Int32))) (ty := .int) (C := RX6) (T := TX6) (N := 27) hx hb hts iX6 tyX6 tyX6_ok nmX6 hown hK hP hD hS 0 wMo_0 rfl 22 (by decide) q2 (fun _ h9 => h9) rfl (by decide +kernel) rfl rfl (Nat.le_of_ble_eq_true rfl) dX6_takesSight_16 (fun H locs hP hD hS => ?_)
      have hP : va_P D vwCl (wMo T am mguests mclause mdeeds masked mupper mlower mfinding mreadGuests misSight (mat + (1 : Int32)) mrowSizes mrows mtextSizes mtexts mdoes mkinds msees mnow mbefore mkeeps mkept mfindings mread maside msteps mtried mbest) H := hP
      have hD : va_D A (wMo T am mguests mclause mdeeds masked mupper mlower mfinding mreadGuests misSight (mat + (1 : Int32)) mrowSizes mrows mtextSizes mtexts mdoes mkinds msees mnow mbefore mkeeps mkept mfindings mread maside msteps mtried mbest) := hD
      refine lv_aload_n hx hb dX6_takesSight_19 rfl (lv_at hl 0 rfl) ?_
      refine lv_iconst (v := (1 : Int32)) hx hb dX6_takesSight_20 (by decide) ?_
      refine va_put (D := D) (ci := 4) (v := .int (1 : Int32)) (ty := .boolean) (C := RX6) (T := TX6) (N := 27) hx hb hts iX6 tyX6 tyX6_ok nmX6 hown hK hP hD hS 0 wMo_0 rfl 21 (by decide) q3 (fun _ h9 => h9) rfl (by decide +kernel) rfl rfl (Nat.le_of_ble_eq_true rfl) dX6_takesSight_21 (fun H locs hP hD hS => ?_)
      have hP : va_P D vwCl (wMo T am mguests mclause mdeeds masked mupper mlower mfinding mreadGuests (1 : Int32) (mat + (1 : Int32)) mrowSizes mrows mtextSizes mtexts mdoes mkinds msees mnow mbefore mkeeps mkept mfindings mread maside msteps mtried mbest) H := hP
      have hD : va_D A (wMo T am mguests mclause mdeeds masked mupper mlower mfinding mreadGuests (1 : Int32) (mat + (1 : Int32)) mrowSizes mrows mtextSizes mtexts mdoes mkinds msees mnow mbefore mkeeps mkept mfindings mread maside msteps mtried mbest) := hD
      refine lv_aload_n hx hb dX6_takesSight_24 rfl (lv_at hl 0 rfl) ?_
      refine va_get (D := D) (ci := 4) (C := RX6) (T := TX6) (N := 27) hx hb hts iX6 hown hK hP 0 wMo_0 rfl 19 (by decide) q1 (fun _ h9 => h9) rfl dX6_takesSight_25 ?_
      refine lv_iconst (v := (1 : Int32)) hx hb dX6_takesSight_28 (by decide) ?_
      refine lv_isub hx hb dX6_takesSight_29 ?_
      refine lv_istore_n (lv' := [(2, .int (mreadGuests - (1 : Int32))), (0, .ref (am 0)), (1, .int x1)]) hx hb dX6_takesSight_30 rfl hl (by decide) rfl (fun ls hl => ?_)
      refine lv_aload_n hx hb dX6_takesSight_31 rfl (lv_at hl 1 rfl) ?_
      refine lv_iload_n hx hb dX6_takesSight_32 rfl (lv_at hl 2 rfl) ?_
      obtain ⟨r33, hc, h⟩ := bd1_some h
      refine my_roi (va_Run.run (va_runV (As := [.int x1]) (rest := []) hFix (kX6_byteAt l D T F am mguests mclause mdeeds masked mupper mlower mfinding mreadGuests (1 : Int32) (mat + (1 : Int32)) mrowSizes mrows mtextSizes mtexts mdoes mkinds msees mnow mbefore mkeeps mkept mfindings mread maside msteps mtried mbest x1 r33 hc) (cwV 1 hts gX6_takesSight_X6_byteAt rfl rfl rfl ⟨rfl, hd_X6_byteAt⟩ ⟨Nat.le_of_ble_eq_true rfl, Nat.le_of_ble_eq_true rfl⟩) (preV_ro hP hKK (va_recv hK hP (ci := 4) (q0 := 0) rfl wMo_0)) rfl rfl hl.1 rfl (lv_room (Nat.le_of_ble_eq_true rfl)) dX6_takesSight_33 ⟨Nat.zero_le _, Nat.zero_le _⟩)) ?_
      refine lv_bipush (v := (48 : Int32)) hx hb dX6_takesSight_36 (by decide) ?_
      refine lv_isub hx hb dX6_takesSight_38 ?_
      refine lv_istore_n (lv' := [(3, .int (r33 - (48 : Int32))), (2, .int (mreadGuests - (1 : Int32))), (0, .ref (am 0)), (1, .int x1)]) hx hb dX6_takesSight_39 rfl hl (by decide) rfl (fun ls hl => ?_)
      refine lv_iload_n hx hb dX6_takesSight_40 rfl (lv_at hl 0 rfl) ?_
      refine lv_i2l (v := ((r33 - (48 : Int32)).toInt64)) hx hb dX6_takesSight_41 rfl ?_
      refine lv_lconst (v := (0 : Int64)) hx hb dX6_takesSight_42 (by decide) ?_
      refine lv_iload_n hx hb dX6_takesSight_43 rfl (lv_at hl 1 rfl) ?_
      refine lv_i2l (v := ((mreadGuests - (1 : Int32)).toInt64)) hx hb dX6_takesSight_44 rfl ?_
      obtain ⟨r45, hc, h⟩ := bd1_some h
      refine my_roz (va_Run.run (va_runS (As := [.long ((r33 - (48 : Int32)).toInt64), .long (0 : Int64), .long ((mreadGuests - (1 : Int32)).toInt64)]) (rest := []) hFix (kX6_in l D T F ((r33 - (48 : Int32)).toInt64) (0 : Int64) ((mreadGuests - (1 : Int32)).toInt64) r45 hc) (va_cwS 3 hts gX6_takesSight_X6_in rfl rfl rfl hd_X6_in ⟨Nat.le_of_ble_eq_true rfl, Nat.le_of_ble_eq_true rfl⟩) (preS_ro va_nil hKK) rfl rfl hl.1 rfl (lv_room (Nat.le_of_ble_eq_true rfl)) dX6_takesSight_45 ⟨Nat.zero_le _, Nat.zero_le _⟩)) (fun hb45 => ?_)
      refine lv_if_ne (tgt := 53) hx hb dX6_takesSight_48 (by decide) (fun c48 => ?_) (fun c48 => ?_)
      · have h := br_0 h c48
        refine lv_aload_n hx hb dX6_takesSight_53 rfl (lv_at hl 2 rfl) ?_
        refine lv_dup hx hb dX6_takesSight_54 rfl ?_
        refine va_get (D := D) (ci := 4) (C := RX6) (T := TX6) (N := 27) hx hb hts iX6 hown hK hP 0 wMo_0 rfl 22 (by decide) q2 (fun _ h9 => h9) rfl dX6_takesSight_55 ?_
        refine lv_iconst (v := (1 : Int32)) hx hb dX6_takesSight_58 (by decide) ?_
        refine lv_iadd hx hb dX6_takesSight_59 ?_
        refine va_put (D := D) (ci := 4) (v := .int ((mat + (1 : Int32)) + (1 : Int32))) (ty := .int) (C := RX6) (T := TX6) (N := 27) hx hb hts iX6 tyX6 tyX6_ok nmX6 hown hK hP hD hS 0 wMo_0 rfl 22 (by decide) q2 (fun _ h9 => h9) rfl (by decide +kernel) rfl rfl (Nat.le_of_ble_eq_true rfl) dX6_takesSight_60 (fun H locs hP hD hS => ?_)
        have hP : va_P D vwCl (wMo T am mguests mclause mdeeds masked mupper mlower mfinding mreadGuests (1 : Int32) ((mat + (1 : Int32)) + (1 : Int32)) mrowSizes mrows mtextSizes mtexts mdoes mkinds msees mnow mbefore mkeeps mkept mfindings mread maside msteps mtried mbest) H := hP
        have hD : va_D A (wMo T am mguests mclause mdeeds masked mupper mlower mfinding mreadGuests (1 : Int32) ((mat + (1 : Int32)) + (1 : Int32)) mrowSizes mrows mtextSizes mtexts mdoes mkinds msees mnow mbefore mkeeps mkept mfindings mread maside msteps mtried mbest) := hD
        refine lv_aload_n hx hb dX6_takesSight_63 rfl (lv_at hl 2 rfl) ?_
        refine lv_iload_n hx hb dX6_takesSight_64 rfl (lv_at hl 3 rfl) ?_
        obtain ⟨r65, hc, h⟩ := bd1_some h
        refine my_roi (va_Run.run (va_runV (As := [.int x1]) (rest := []) hFix (kX6_byteAt l D T F am mguests mclause mdeeds masked mupper mlower mfinding mreadGuests (1 : Int32) ((mat + (1 : Int32)) + (1 : Int32)) mrowSizes mrows mtextSizes mtexts mdoes mkinds msees mnow mbefore mkeeps mkept mfindings mread maside msteps mtried mbest x1 r65 hc) (cwV 1 hts gX6_takesSight_X6_byteAt rfl rfl rfl ⟨rfl, hd_X6_byteAt⟩ ⟨Nat.le_of_ble_eq_true rfl, Nat.le_of_ble_eq_true rfl⟩) (preV_ro hP hKK (va_recv hK hP (ci := 4) (q0 := 0) rfl wMo_0)) rfl rfl hl.1 rfl (lv_room (Nat.le_of_ble_eq_true rfl)) dX6_takesSight_65 ⟨Nat.zero_le _, Nat.zero_le _⟩)) ?_
        refine lv_bipush (v := (48 : Int32)) hx hb dX6_takesSight_68 (by decide) ?_
        refine lv_isub hx hb dX6_takesSight_70 ?_
        refine lv_istore (lv' := [(4, .int (r65 - (48 : Int32))), (3, .int (r33 - (48 : Int32))), (2, .int (mreadGuests - (1 : Int32))), (0, .ref (am 0)), (1, .int x1)]) hx hb dX6_takesSight_71 hl (by decide) rfl (fun ls hl => ?_)
        refine lv_iload hx hb dX6_takesSight_73 (lv_at hl 0 rfl) ?_
        refine lv_i2l (v := ((r65 - (48 : Int32)).toInt64)) hx hb dX6_takesSight_75 rfl ?_
        refine lv_lconst (v := (0 : Int64)) hx hb dX6_takesSight_76 (by decide) ?_
        refine lv_iload_n hx hb dX6_takesSight_77 rfl (lv_at hl 2 rfl) ?_
        refine lv_i2l (v := ((mreadGuests - (1 : Int32)).toInt64)) hx hb dX6_takesSight_78 rfl ?_
        obtain ⟨r79, hc, h⟩ := bd1_some h
        refine my_roz (va_Run.run (va_runS (As := [.long ((r65 - (48 : Int32)).toInt64), .long (0 : Int64), .long ((mreadGuests - (1 : Int32)).toInt64)]) (rest := []) hFix (kX6_in l D T F ((r65 - (48 : Int32)).toInt64) (0 : Int64) ((mreadGuests - (1 : Int32)).toInt64) r79 hc) (va_cwS 3 hts gX6_takesSight_X6_in rfl rfl rfl hd_X6_in ⟨Nat.le_of_ble_eq_true rfl, Nat.le_of_ble_eq_true rfl⟩) (preS_ro va_nil hKK) rfl rfl hl.1 rfl (lv_room (Nat.le_of_ble_eq_true rfl)) dX6_takesSight_79 ⟨Nat.zero_le _, Nat.zero_le _⟩)) (fun hb79 => ?_)
        refine lv_if_eq (tgt := 109) hx hb dX6_takesSight_82 (by decide) (fun c82 => ?_) (fun c82 => ?_)
        · have h := br_1 h c82
          refine lv_iconst (v := (0 : Int32)) hx hb dX6_takesSight_109 (by decide) ?_
          cases h
          exact hret _ _ _ _ hP hD hS dX6_takesSight_110 (Or.inl rfl)
        · have h := br_0 h c82
          refine lv_iload_n hx hb dX6_takesSight_85 rfl (lv_at hl 1 rfl) ?_
          refine lv_iload hx hb dX6_takesSight_86 (lv_at hl 0 rfl) ?_
          refine lv_icmp_eq (tgt := 109) hx hb dX6_takesSight_88 (by decide) (fun c88 => ?_) (fun c88 => ?_)
          · have h := br_1 h c88
            refine lv_iconst (v := (0 : Int32)) hx hb dX6_takesSight_109 (by decide) ?_
            cases h
            exact hret _ _ _ _ hP hD hS dX6_takesSight_110 (Or.inl rfl)
          · have h := br_0 h c88
            refine lv_aload_n hx hb dX6_takesSight_91 rfl (lv_at hl 3 rfl) ?_
            refine va_get (D := D) (ci := 4) (C := RX6) (T := TX6) (N := 27) hx hb hts iX6 hown hK hP 0 wMo_0 rfl 20 (by decide) q4 (fun _ h9 => h9) rfl dX6_takesSight_92 ?_
            refine lv_bipush (v := (17 : Int32)) hx hb dX6_takesSight_95 (by decide) ?_
            refine lv_iload_n hx hb dX6_takesSight_97 rfl (lv_at hl 1 rfl) ?_
            refine lv_iadd hx hb dX6_takesSight_98 ?_
            obtain ⟨hin1, h⟩ := ck_some h
            refine va_iald hx hb hK hP 13 0 wMo_13 rfl hin1 dX6_takesSight_99 ?_
            refine lv_iload hx hb dX6_takesSight_100 (lv_at hl 0 rfl) ?_
            refine lv_ishr hx hb dX6_takesSight_102 ?_
            refine lv_iconst (v := (1 : Int32)) hx hb dX6_takesSight_103 (by decide) ?_
            refine lv_iand hx hb dX6_takesSight_104 ?_
            refine lv_iconst (v := (1 : Int32)) hx hb dX6_takesSight_105 (by decide) ?_
            refine lv_icmp_ne (tgt := 111) hx hb dX6_takesSight_106 (by decide) (fun c106 => ?_) (fun c106 => ?_)
            · have h := br_0 h c106
              refine lv_aload_n hx hb dX6_takesSight_111 rfl (lv_at hl 3 rfl) ?_
              refine lv_dup hx hb dX6_takesSight_112 rfl ?_
              refine va_get (D := D) (ci := 4) (C := RX6) (T := TX6) (N := 27) hx hb hts iX6 hown hK hP 0 wMo_0 rfl 22 (by decide) q2 (fun _ h9 => h9) rfl dX6_takesSight_113 ?_
              refine lv_iconst (v := (1 : Int32)) hx hb dX6_takesSight_116 (by decide) ?_
              refine lv_iadd hx hb dX6_takesSight_117 ?_
              refine va_put (D := D) (ci := 4) (v := .int (((mat + (1 : Int32)) + (1 : Int32)) + (1 : Int32))) (ty := .int) (C := RX6) (T := TX6) (N := 27) hx hb hts iX6 tyX6 tyX6_ok nmX6 hown hK hP hD hS 0 wMo_0 rfl 22 (by decide) q2 (fun _ h9 => h9) rfl (by decide +kernel) rfl rfl (Nat.le_of_ble_eq_true rfl) dX6_takesSight_118 (fun H locs hP hD hS => ?_)
              have hP : va_P D vwCl (wMo T am mguests mclause mdeeds masked mupper mlower mfinding mreadGuests (1 : Int32) (((mat + (1 : Int32)) + (1 : Int32)) + (1 : Int32)) mrowSizes mrows mtextSizes mtexts mdoes mkinds msees mnow mbefore mkeeps mkept mfindings mread maside msteps mtried mbest) H := hP
              have hD : va_D A (wMo T am mguests mclause mdeeds masked mupper mlower mfinding mreadGuests (1 : Int32) (((mat + (1 : Int32)) + (1 : Int32)) + (1 : Int32)) mrowSizes mrows mtextSizes mtexts mdoes mkinds msees mnow mbefore mkeeps mkept mfindings mread maside msteps mtried mbest) := hD
              refine lv_aload_n hx hb dX6_takesSight_121 rfl (lv_at hl 3 rfl) ?_
              refine va_get (D := D) (ci := 4) (C := RX6) (T := TX6) (N := 27) hx hb hts iX6 hown hK hP 0 wMo_0 rfl 20 (by decide) q4 (fun _ h9 => h9) rfl dX6_takesSight_122 ?_
              refine lv_bipush (v := (17 : Int32)) hx hb dX6_takesSight_125 (by decide) ?_
              refine lv_iload_n hx hb dX6_takesSight_127 rfl (lv_at hl 1 rfl) ?_
              refine lv_iadd hx hb dX6_takesSight_128 ?_
              refine lv_dup2_11 hx hb dX6_takesSight_129 rfl rfl ?_
              obtain ⟨hin2, h⟩ := ck_some h
              refine va_iald hx hb hK hP 13 0 wMo_13 rfl hin2 dX6_takesSight_130 ?_
              refine lv_iconst (v := (1 : Int32)) hx hb dX6_takesSight_131 (by decide) ?_
              refine lv_iload hx hb dX6_takesSight_132 (lv_at hl 0 rfl) ?_
              refine lv_ishl hx hb dX6_takesSight_134 ?_
              refine lv_ior hx hb dX6_takesSight_135 ?_
              obtain ⟨hin3, h⟩ := ck_some h
              refine va_iast hx hb hK hP hD hS 13 0 wMo_13 rfl hin3 dX6_takesSight_136 (fun H locs hP hD hS => ?_)
              have hP : va_P D vwCl (wMo T am mguests mclause mdeeds masked mupper mlower mfinding mreadGuests (1 : Int32) (((mat + (1 : Int32)) + (1 : Int32)) + (1 : Int32)) mrowSizes mrows mtextSizes mtexts mdoes mkinds msees mnow mbefore mkeeps mkept mfindings (upd mread ((17 : Int32) + (r33 - (48 : Int32))).toNatClampNeg ((mread ((17 : Int32) + (r33 - (48 : Int32))).toNatClampNeg) ||| ((1 : Int32) <<< ((r65 - (48 : Int32)) &&& 31)))) maside msteps mtried mbest) H := hP
              have hD : va_D A (wMo T am mguests mclause mdeeds masked mupper mlower mfinding mreadGuests (1 : Int32) (((mat + (1 : Int32)) + (1 : Int32)) + (1 : Int32)) mrowSizes mrows mtextSizes mtexts mdoes mkinds msees mnow mbefore mkeeps mkept mfindings (upd mread ((17 : Int32) + (r33 - (48 : Int32))).toNatClampNeg ((mread ((17 : Int32) + (r33 - (48 : Int32))).toNatClampNeg) ||| ((1 : Int32) <<< ((r65 - (48 : Int32)) &&& 31)))) maside msteps mtried mbest) := hD
              refine lv_iconst (v := (1 : Int32)) hx hb dX6_takesSight_137 (by decide) ?_
              cases h
              exact hret _ _ _ _ hP hD hS dX6_takesSight_138 (Or.inr rfl)
            · have h := br_1 h c106
              refine lv_iconst (v := (0 : Int32)) hx hb dX6_takesSight_109 (by decide) ?_
              cases h
              exact hret _ _ _ _ hP hD hS dX6_takesSight_110 (Or.inl rfl)
      · have h := br_1 h c48
        refine lv_iconst (v := (0 : Int32)) hx hb dX6_takesSight_51 (by decide) ?_
        cases h
        exact hret _ _ _ _ hP hD hS dX6_takesSight_52 (Or.inl rfl)
    · have h := br_1 h c4
      refine lv_iconst (v := (0 : Int32)) hx hb dX6_takesSight_7 (by decide) ?_
      cases h
      exact hret _ _ _ _ hP hD hS dX6_takesSight_8 (Or.inl rfl)
  exact key _ (fun H locs pc ls hP hD hS hd hb1 => W.zret hx hb hr (b01_n hb1) (fun t ht hW => ⟨⟨_, (), rfl, ⟨rfl, hb1⟩, by show _ ∧ _; rw [ht]; exact ⟨hP, hD⟩⟩, hS.F ht⟩) hS.2.2 hd)
set_option maxHeartbeats 4000000 in
set_option maxRecDepth 100000 in
theorem kX6_blanks (l : Launch) (D : va_G) (T : Nat → ClassId) (F : Nat) (am : Nat → Nat) (mguests : Int32) (mclause : Int32) (mdeeds : Int32) (masked : Int32) (mupper : Int64) (mlower : Int64) (mfinding : Int32) (mreadGuests : Int32) (misSight : Int32) (mat : Int32) (mrowSizes : Nat → Int32) (mrows : Nat → Int32) (mtextSizes : Nat → Int32) (mtexts : Nat → Int32) (mdoes : Nat → Int32) (mkinds : Nat → Int32) (msees : Nat → Int32) (mnow : Nat → Int32) (mbefore : Nat → Int32) (mkeeps : Nat → Int32) (mkept : Nat → Int32) (mfindings : Nat → Int32) (mread : Nat → Int32) (maside : Nat → Int32) (msteps : Nat → Int32) (mtried : Nat → Int32) (mbest : Nat → Int32) (x1 : Int32) (zmat : Int32) (h : fX6_blanks F mat mtextSizes mtexts x1 = some (zmat)) : ∀ sz : Nat, Met l yX6_blanks wsX6_blanks ({ frames := 1, cells := 0, slots := 0, locals := 21 } : Room) (va_Pc [.ref (am 0), .int x1] (fun U => U.heap.size = sz ∧ va_P D vwCl (wMo T am mguests mclause mdeeds masked mupper mlower mfinding mreadGuests misSight mat mrowSizes mrows mtextSizes mtexts mdoes mkinds msees mnow mbefore mkeeps mkept mfindings mread maside msteps mtried mbest) U.heap ∧ KK D T U ∧ va_D (fun _ => True) (wMo T am mguests mclause mdeeds masked mupper mlower mfinding mreadGuests misSight mat mrowSizes mrows mtextSizes mtexts mdoes mkinds msees mnow mbefore mkeeps mkept mfindings mread maside msteps mtried mbest))) (va_Qv (fun _ : Unit => True) (fun _ t => va_P D vwCl (wMo T am mguests mclause mdeeds masked mupper mlower mfinding mreadGuests misSight zmat mrowSizes mrows mtextSizes mtexts mdoes mkinds msees mnow mbefore mkeeps mkept mfindings mread maside msteps mtried mbest) t.heap ∧ va_D (va_A (wMo T am mguests mclause mdeeds masked mupper mlower mfinding mreadGuests misSight mat mrowSizes mrows mtextSizes mtexts mdoes mkinds msees mnow mbefore mkeeps mkept mfindings mread maside msteps mtried mbest) sz) (wMo T am mguests mclause mdeeds masked mupper mlower mfinding mreadGuests misSight zmat mrowSizes mrows mtextSizes mtexts mdoes mkinds msees mnow mbefore mkeeps mkept mfindings mread maside msteps mtried mbest)) (va_A (wMo T am mguests mclause mdeeds masked mupper mlower mfinding mreadGuests misSight mat mrowSizes mrows mtextSizes mtexts mdoes mkinds msees mnow mbefore mkeeps mkept mfindings mread maside msteps mtried mbest) sz)) 0 0 (va_A (wMo T am mguests mclause mdeeds masked mupper mlower mfinding mreadGuests misSight mat mrowSizes mrows mtextSizes mtexts mdoes mkinds msees mnow mbefore mkeeps mkept mfindings mread maside msteps mtried mbest) sz) := by
  intro sz
  refine Met.ofW (cc := cX6_blanks) (maxL := 2) (ret := none) (by decide) rfl ?_
  intro p e s m args below meth c s₁ B hml hv
  obtain ⟨ha, hsz, hP, hKK, hD0⟩ := hv
  have hx := B.exec
  have hb := B.bytes
  have hr := B.returns
  have hts := atoms_spec (ws := wsX6_blanks) B.pre
  have hown : s.vm.findClass RX6 = some m.cls := findClass_of_methodNamed B.named
  have hlocks := B.notSynchronized
  have hK := hKK.1
  have hFix : CallFix p m c cX6_blanks 2 s args wsX6_blanks RX6 := ⟨hx, hb, hml, hown, hts⟩
  have q1 := hts _ (List.mem_of_getElem? (i := 1) (show wsX6_blanks[1]? = some (Cond.fieldLink RX6 95 "PartyWillModel" "at" "I") from rfl))
  have iX6 : ∀ w ∈ u_ws RX6 TX6 27, w ∈ wsX6_blanks := fun w h => List.mem_cons_of_mem _ (List.mem_append_right _ (h))
  subst hsz
  have hD := hD0.self (sz := s.heap.size)
  generalize hAe : va_A (wMo T am mguests mclause mdeeds masked mupper mlower mfinding mreadGuests misSight mat mrowSizes mrows mtextSizes mtexts mdoes mkinds msees mnow mbefore mkeeps mkept mfindings mread maside msteps mtried mbest) s.heap.size = A at hD ⊢
  have hA : ∀ q : Nat, s.heap.size ≤ q → A q := fun q h => by rw [← hAe]; exact Or.inr h
  have hS : va_S A s.heap s.heap [] := va_S.rf
  have hP : va_P D vwCl (wMo T am mguests mclause mdeeds masked mupper mlower mfinding mreadGuests misSight mat mrowSizes mrows mtextSizes mtexts mdoes mkinds msees mnow mbefore mkeeps mkept mfindings mread maside msteps mtried mbest) s.heap := hP
  obtain ⟨ls, hl, e0⟩ := my_entry (m := m) (n := 2) ha (Nat.le_of_ble_eq_true rfl)
  rw [e0]
  have hl : lv_has ls 2 [(0, .ref (am 0)), (1, .int x1)] := hl
  have key : ∀ Q : State → Prop, (∀ (H : Heap) (locs : List Loc) (pc : Nat) (ls : Array Slot), va_P D vwCl (wMo T am mguests mclause mdeeds masked mupper mlower mfinding mreadGuests misSight zmat mrowSizes mrows mtextSizes mtexts mdoes mkinds msees mnow mbefore mkeeps mkept mfindings mread maside msteps mtried mbest) H → va_D A (wMo T am mguests mclause mdeeds masked mupper mlower mfinding mreadGuests misSight zmat mrowSizes mrows mtextSizes mtexts mdoes mkinds msees mnow mbefore mkeeps mkept mfindings mread maside msteps mtried mbest) → va_S A s.heap H locs → decode cX6_blanks pc = .ok (.return_, 1) → W p l e ({ frames := 1, cells := 0, slots := 0, locals := 21 } : Room) s m args below meth c H locs 0 0 Q (F0 m pc ls [])) → W p l e ({ frames := 1, cells := 0, slots := 0, locals := 21 } : Room) s m args below meth c s.heap [] 0 0 Q (F0 m 0 ls []) := by
    intro Q hret
    skip
    have l0 : ∀ x1 : Int32, ∀ nu : Nat, ∀ mat : Int32, fX6_blanks_l0 F mtextSizes mtexts x1 nu mat = some (zmat) → ∀ (H : Heap) (locs : List Loc), va_P D vwCl (wMo T am mguests mclause mdeeds masked mupper mlower mfinding mreadGuests misSight mat mrowSizes mrows mtextSizes mtexts mdoes mkinds msees mnow mbefore mkeeps mkept mfindings mread maside msteps mtried mbest) H → va_D A (wMo T am mguests mclause mdeeds masked mupper mlower mfinding mreadGuests misSight mat mrowSizes mrows mtextSizes mtexts mdoes mkinds msees mnow mbefore mkeeps mkept mfindings mread maside msteps mtried mbest) → va_S A s.heap H locs → ∀ (ls : Array Slot), lv_has ls 2 [(0, .ref (am 0)), (1, .int x1)] → W p l e ({ frames := 1, cells := 0, slots := 0, locals := 21 } : Room) s m args below meth c H locs 0 0 Q (F0 m 0 ls []) := by
      intro x1
      intro nu
      induction nu with
      | zero => intro mat h; exact none_some h
      | succ nu0 ih0 =>
        intro mat h H locs hP hD hS ls hl
        have h : fX6_blanks_l0_b F mtextSizes mtexts x1 (fX6_blanks_l0 F mtextSizes mtexts x1 nu0) mat = some (zmat) := h
        unfold fX6_blanks_l0_b at h
        refine lv_aload_n hx hb dX6_blanks_0 rfl (lv_at hl 0 rfl) ?_
        refine lv_iload_n hx hb dX6_blanks_1 rfl (lv_at hl 1 rfl) ?_
        obtain ⟨r2, hc, h⟩ := bd1_some h
        refine my_roi (va_Run.run (va_runV (As := [.int x1]) (rest := []) hFix (kX6_byteAt l D T F am mguests mclause mdeeds masked mupper mlower mfinding mreadGuests misSight mat mrowSizes mrows mtextSizes mtexts mdoes mkinds msees mnow mbefore mkeeps mkept mfindings mread maside msteps mtried mbest x1 r2 hc) (cwV 1 hts gX6_blanks_X6_byteAt rfl rfl rfl ⟨rfl, hd_X6_byteAt⟩ ⟨Nat.le_of_ble_eq_true rfl, Nat.le_of_ble_eq_true rfl⟩) (preV_ro hP hKK (va_recv hK hP (ci := 4) (q0 := 0) rfl wMo_0)) rfl rfl hl.1 rfl (lv_room (Nat.le_of_ble_eq_true rfl)) dX6_blanks_2 ⟨Nat.zero_le _, Nat.zero_le _⟩)) ?_
        refine lv_bipush (v := (32 : Int32)) hx hb dX6_blanks_5 (by decide) ?_
        refine lv_icmp_ne (tgt := 23) hx hb dX6_blanks_7 (by decide) (fun c7 => ?_) (fun c7 => ?_)
        · have h := br_0 h c7
          cases h
          exact hret _ _ _ _ hP hD hS dX6_blanks_23
        · have h := br_1 h c7
          refine lv_aload_n hx hb dX6_blanks_10 rfl (lv_at hl 0 rfl) ?_
          refine lv_dup hx hb dX6_blanks_11 rfl ?_
          refine va_get (D := D) (ci := 4) (C := RX6) (T := TX6) (N := 27) hx hb hts iX6 hown hK hP 0 wMo_0 rfl 22 (by decide) q1 (fun _ h9 => h9) rfl dX6_blanks_12 ?_
          refine lv_iconst (v := (1 : Int32)) hx hb dX6_blanks_15 (by decide) ?_
          refine lv_iadd hx hb dX6_blanks_16 ?_
          refine va_put (D := D) (ci := 4) (v := .int (mat + (1 : Int32))) (ty := .int) (C := RX6) (T := TX6) (N := 27) hx hb hts iX6 tyX6 tyX6_ok nmX6 hown hK hP hD hS 0 wMo_0 rfl 22 (by decide) q1 (fun _ h9 => h9) rfl (by decide +kernel) rfl rfl (Nat.le_of_ble_eq_true rfl) dX6_blanks_17 (fun H locs hP hD hS => ?_)
          have hP : va_P D vwCl (wMo T am mguests mclause mdeeds masked mupper mlower mfinding mreadGuests misSight (mat + (1 : Int32)) mrowSizes mrows mtextSizes mtexts mdoes mkinds msees mnow mbefore mkeeps mkept mfindings mread maside msteps mtried mbest) H := hP
          have hD : va_D A (wMo T am mguests mclause mdeeds masked mupper mlower mfinding mreadGuests misSight (mat + (1 : Int32)) mrowSizes mrows mtextSizes mtexts mdoes mkinds msees mnow mbefore mkeeps mkept mfindings mread maside msteps mtried mbest) := hD
          refine lv_goto (tgt := 0) hx hb dX6_blanks_20 (by decide) ?_
          exact ih0 (mat + (1 : Int32)) h _ _ hP hD hS _ (lv_sub hl [0, 1] rfl)
    unfold fX6_blanks at h
    exact l0 x1 F mat h _ _ hP hD hS _ (lv_sub hl [0, 1] rfl)
  exact key _ (fun H locs pc ls hP hD hS hd => W.vret hx hb hr (fun t ht hW => ⟨⟨(), rfl, trivial, by show _ ∧ _; rw [ht]; exact ⟨hP, hD⟩⟩, hS.F ht⟩) hS.2.2 hd)
set_option maxHeartbeats 4000000 in
set_option maxRecDepth 100000 in
theorem kX6_reads (l : Launch) (D : va_G) (T : Nat → ClassId) (F : Nat) (am : Nat → Nat) (mguests : Int32) (mclause : Int32) (mdeeds : Int32) (masked : Int32) (mupper : Int64) (mlower : Int64) (mfinding : Int32) (mreadGuests : Int32) (misSight : Int32) (mat : Int32) (mrowSizes : Nat → Int32) (mrows : Nat → Int32) (mtextSizes : Nat → Int32) (mtexts : Nat → Int32) (mdoes : Nat → Int32) (mkinds : Nat → Int32) (msees : Nat → Int32) (mnow : Nat → Int32) (mbefore : Nat → Int32) (mkeeps : Nat → Int32) (mkept : Nat → Int32) (mfindings : Nat → Int32) (mread : Nat → Int32) (maside : Nat → Int32) (msteps : Nat → Int32) (mtried : Nat → Int32) (mbest : Nat → Int32) (x1 : Int32) (r : Int32) (zmreadGuests : Int32) (zmisSight : Int32) (zmat : Int32) (zmread : Nat → Int32) (h : fX6_reads F mreadGuests misSight mat mtextSizes mtexts mread x1 = some (r, zmreadGuests, zmisSight, zmat, zmread)) : ∀ sz : Nat, Met l yX6_reads wsX6_reads ({ frames := 3, cells := 0, slots := 0, locals := 73 } : Room) (va_Pc [.ref (am 0), .int x1] (fun U => U.heap.size = sz ∧ va_P D vwCl (wMo T am mguests mclause mdeeds masked mupper mlower mfinding mreadGuests misSight mat mrowSizes mrows mtextSizes mtexts mdoes mkinds msees mnow mbefore mkeeps mkept mfindings mread maside msteps mtried mbest) U.heap ∧ KK D T U ∧ va_D (fun _ => True) (wMo T am mguests mclause mdeeds masked mupper mlower mfinding mreadGuests misSight mat mrowSizes mrows mtextSizes mtexts mdoes mkinds msees mnow mbefore mkeeps mkept mfindings mread maside msteps mtried mbest))) (va_Qi (fun r' (_ : Unit) => r' = r) (fun _ t => va_P D vwCl (wMo T am mguests mclause mdeeds masked mupper mlower mfinding zmreadGuests zmisSight zmat mrowSizes mrows mtextSizes mtexts mdoes mkinds msees mnow mbefore mkeeps mkept mfindings zmread maside msteps mtried mbest) t.heap ∧ va_D (va_A (wMo T am mguests mclause mdeeds masked mupper mlower mfinding mreadGuests misSight mat mrowSizes mrows mtextSizes mtexts mdoes mkinds msees mnow mbefore mkeeps mkept mfindings mread maside msteps mtried mbest) sz) (wMo T am mguests mclause mdeeds masked mupper mlower mfinding zmreadGuests zmisSight zmat mrowSizes mrows mtextSizes mtexts mdoes mkinds msees mnow mbefore mkeeps mkept mfindings zmread maside msteps mtried mbest)) (va_A (wMo T am mguests mclause mdeeds masked mupper mlower mfinding mreadGuests misSight mat mrowSizes mrows mtextSizes mtexts mdoes mkinds msees mnow mbefore mkeeps mkept mfindings mread maside msteps mtried mbest) sz)) 0 0 (va_A (wMo T am mguests mclause mdeeds masked mupper mlower mfinding mreadGuests misSight mat mrowSizes mrows mtextSizes mtexts mdoes mkinds msees mnow mbefore mkeeps mkept mfindings mread maside msteps mtried mbest) sz) := by
  intro sz
  refine Met.ofW (cc := cX6_reads) (maxL := 2) (ret := some .int) (by decide) rfl ?_
  intro p e s m args below meth c s₁ B hml hv
  obtain ⟨ha, hsz, hP, hKK, hD0⟩ := hv
  have hx := B.exec
  have hb := B.bytes
  have hr := B.returns
  have hts := atoms_spec (ws := wsX6_reads) B.pre
  have hown : s.vm.findClass RX6 = some m.cls := findClass_of_methodNamed B.named
  have hlocks := B.notSynchronized
  have hK := hKK.1
  have hFix : CallFix p m c cX6_reads 2 s args wsX6_reads RX6 := ⟨hx, hb, hml, hown, hts⟩
  have q1 := hts _ (List.mem_of_getElem? (i := 1) (show wsX6_reads[1]? = some (Cond.fieldLink RX6 108 "PartyWillModel" "readGuests" "I") from rfl))
  have q2 := hts _ (List.mem_of_getElem? (i := 2) (show wsX6_reads[2]? = some (Cond.fieldLink RX6 111 "PartyWillModel" "isSight" "Z") from rfl))
  have q3 := hts _ (List.mem_of_getElem? (i := 3) (show wsX6_reads[3]? = some (Cond.fieldLink RX6 95 "PartyWillModel" "at" "I") from rfl))
  have q4 := hts _ (List.mem_of_getElem? (i := 4) (show wsX6_reads[4]? = some (Cond.fieldLink RX6 16 "PartyWillModel" "textSizes" "[I") from rfl))
  have iX6 : ∀ w ∈ u_ws RX6 TX6 27, w ∈ wsX6_reads := fun w h => List.mem_cons_of_mem _ (List.mem_append_right _ (h))
  subst hsz
  have hD := hD0.self (sz := s.heap.size)
  generalize hAe : va_A (wMo T am mguests mclause mdeeds masked mupper mlower mfinding mreadGuests misSight mat mrowSizes mrows mtextSizes mtexts mdoes mkinds msees mnow mbefore mkeeps mkept mfindings mread maside msteps mtried mbest) s.heap.size = A at hD ⊢
  have hA : ∀ q : Nat, s.heap.size ≤ q → A q := fun q h => by rw [← hAe]; exact Or.inr h
  have hS : va_S A s.heap s.heap [] := va_S.rf
  have hP : va_P D vwCl (wMo T am mguests mclause mdeeds masked mupper mlower mfinding mreadGuests misSight mat mrowSizes mrows mtextSizes mtexts mdoes mkinds msees mnow mbefore mkeeps mkept mfindings mread maside msteps mtried mbest) s.heap := hP
  obtain ⟨ls, hl, e0⟩ := my_entry (m := m) (n := 2) ha (Nat.le_of_ble_eq_true rfl)
  rw [e0]
  have hl : lv_has ls 2 [(0, .ref (am 0)), (1, .int x1)] := hl
  have key : ∀ Q : State → Prop, (∀ (H : Heap) (locs : List Loc) (pc : Nat) (ls : Array Slot), va_P D vwCl (wMo T am mguests mclause mdeeds masked mupper mlower mfinding zmreadGuests zmisSight zmat mrowSizes mrows mtextSizes mtexts mdoes mkinds msees mnow mbefore mkeeps mkept mfindings zmread maside msteps mtried mbest) H → va_D A (wMo T am mguests mclause mdeeds masked mupper mlower mfinding zmreadGuests zmisSight zmat mrowSizes mrows mtextSizes mtexts mdoes mkinds msees mnow mbefore mkeeps mkept mfindings zmread maside msteps mtried mbest) → va_S A s.heap H locs → decode cX6_reads pc = .ok (.ireturn, 1) → W p l e ({ frames := 3, cells := 0, slots := 0, locals := 73 } : Room) s m args below meth c H locs 0 0 Q (F0 m pc ls [.int r])) → W p l e ({ frames := 3, cells := 0, slots := 0, locals := 73 } : Room) s m args below meth c s.heap [] 0 0 Q (F0 m 0 ls []) := by
    intro Q hret
    skip
    have l38 : ∀ x1 : Int32, ∀ nu : Nat, ∀ mreadGuests : Int32, ∀ misSight : Int32, ∀ mat : Int32, ∀ mread : Nat → Int32, fX6_reads_l38 F mtextSizes mtexts x1 nu mreadGuests misSight mat mread = some (r, zmreadGuests, zmisSight, zmat, zmread) → ∀ (H : Heap) (locs : List Loc), va_P D vwCl (wMo T am mguests mclause mdeeds masked mupper mlower mfinding mreadGuests misSight mat mrowSizes mrows mtextSizes mtexts mdoes mkinds msees mnow mbefore mkeeps mkept mfindings mread maside msteps mtried mbest) H → va_D A (wMo T am mguests mclause mdeeds masked mupper mlower mfinding mreadGuests misSight mat mrowSizes mrows mtextSizes mtexts mdoes mkinds msees mnow mbefore mkeeps mkept mfindings mread maside msteps mtried mbest) → va_S A s.heap H locs → ∀ (ls : Array Slot), lv_has ls 2 [(0, .ref (am 0)), (1, .int x1)] → W p l e ({ frames := 3, cells := 0, slots := 0, locals := 73 } : Room) s m args below meth c H locs 0 0 Q (F0 m 38 ls []) := by
      intro x1
      intro nu
      induction nu with
      | zero => intro mreadGuests misSight mat mread h; exact none_some h
      | succ nu38 ih38 =>
        intro mreadGuests misSight mat mread h H locs hP hD hS ls hl
        have h : fX6_reads_l38_b F mtextSizes mtexts x1 (fX6_reads_l38 F mtextSizes mtexts x1 nu38) mreadGuests misSight mat mread = some (r, zmreadGuests, zmisSight, zmat, zmread) := h
        unfold fX6_reads_l38_b at h
        refine lv_aload_n hx hb dX6_reads_38 rfl (lv_at hl 0 rfl) ?_
        refine va_get (D := D) (ci := 4) (C := RX6) (T := TX6) (N := 27) hx hb hts iX6 hown hK hP 0 wMo_0 rfl 22 (by decide) q3 (fun _ h9 => h9) rfl dX6_reads_39 ?_
        refine lv_aload_n hx hb dX6_reads_42 rfl (lv_at hl 0 rfl) ?_
        refine va_get (D := D) (ci := 4) (C := RX6) (T := TX6) (N := 27) hx hb hts iX6 hown hK hP 0 wMo_0 rfl 2 (by decide) q4 (fun _ h9 => h9) rfl dX6_reads_43 ?_
        refine lv_iload_n hx hb dX6_reads_46 rfl (lv_at hl 1 rfl) ?_
        obtain ⟨hin1, h⟩ := ck_some h
        refine va_iald hx hb hK hP 3 0 wMo_3 rfl hin1 dX6_reads_47 ?_
        refine lv_icmp_ge (tgt := 93) hx hb dX6_reads_48 (by decide) (fun c48 => ?_) (fun c48 => ?_)
        · have h := br_1 h c48
          refine lv_aload_n hx hb dX6_reads_93 rfl (lv_at hl 0 rfl) ?_
          refine va_get (D := D) (ci := 4) (C := RX6) (T := TX6) (N := 27) hx hb hts iX6 hown hK hP 0 wMo_0 rfl 19 (by decide) q1 (fun _ h9 => h9) rfl dX6_reads_94 ?_
          refine lv_if_ne (tgt := 107) hx hb dX6_reads_97 (by decide) (fun c97 => ?_) (fun c97 => ?_)
          · have h := br_0 h c97
            refine lv_bipush (v := (-9 : Int32)) hx hb dX6_reads_107 (by decide) ?_
            cases h
            exact hret _ _ _ _ hP hD hS dX6_reads_109
          · have h := br_1 h c97
            refine lv_aload_n hx hb dX6_reads_100 rfl (lv_at hl 0 rfl) ?_
            refine va_get (D := D) (ci := 4) (C := RX6) (T := TX6) (N := 27) hx hb hts iX6 hown hK hP 0 wMo_0 rfl 22 (by decide) q3 (fun _ h9 => h9) rfl dX6_reads_101 ?_
            refine lv_goto (tgt := 109) hx hb dX6_reads_104 (by decide) ?_
            cases h
            exact hret _ _ _ _ hP hD hS dX6_reads_109
        · have h := br_0 h c48
          refine lv_aload_n hx hb dX6_reads_51 rfl (lv_at hl 0 rfl) ?_
          refine lv_iload_n hx hb dX6_reads_52 rfl (lv_at hl 1 rfl) ?_
          obtain ⟨r53, hc, h⟩ := bd1_some h
          refine my_roi (va_Run.run (va_runV (As := [.int x1]) (rest := []) hFix (kX6_byteAt l D T F am mguests mclause mdeeds masked mupper mlower mfinding mreadGuests misSight mat mrowSizes mrows mtextSizes mtexts mdoes mkinds msees mnow mbefore mkeeps mkept mfindings mread maside msteps mtried mbest x1 r53 hc) (cwV 1 hts gX6_reads_X6_byteAt rfl rfl rfl ⟨rfl, hd_X6_byteAt⟩ ⟨Nat.le_of_ble_eq_true rfl, Nat.le_of_ble_eq_true rfl⟩) (preV_ro hP hKK (va_recv hK hP (ci := 4) (q0 := 0) rfl wMo_0)) rfl rfl hl.1 rfl (lv_room (Nat.le_of_ble_eq_true rfl)) dX6_reads_53 ⟨Nat.zero_le _, Nat.zero_le _⟩)) ?_
          refine lv_bipush (v := (120 : Int32)) hx hb dX6_reads_56 (by decide) ?_
          refine lv_icmp_ne (tgt := 72) hx hb dX6_reads_58 (by decide) (fun c58 => ?_) (fun c58 => ?_)
          · have h := br_0 h c58
            refine lv_aload_n hx hb dX6_reads_72 rfl (lv_at hl 0 rfl) ?_
            refine lv_iload_n hx hb dX6_reads_73 rfl (lv_at hl 1 rfl) ?_
            obtain ⟨r74, w74_mreadGuests, w74_mat, w74_mread, hc, h⟩ := bd4_some h
            have hFc := my_freeS hD hS hA
            refine my_rwz (va_runV (As := [.int x1]) (rest := []) hFix (kX6_takesGuest l D T F am mguests mclause mdeeds masked mupper mlower mfinding mreadGuests misSight mat mrowSizes mrows mtextSizes mtexts mdoes mkinds msees mnow mbefore mkeeps mkept mfindings mread maside msteps mtried mbest x1 r74 w74_mreadGuests w74_mat w74_mread hc _) (cwV 1 hts gX6_reads_X6_takesGuest rfl rfl rfl ⟨rfl, hd_X6_takesGuest⟩ ⟨Nat.le_of_ble_eq_true rfl, Nat.le_of_ble_eq_true rfl⟩) (preV_rw hP hKK hD (va_recv hK hP (ci := 4) (q0 := 0) rfl wMo_0)) rfl rfl hl.1 rfl (lv_room (Nat.le_of_ble_eq_true rfl)) dX6_reads_74 ⟨Nat.zero_le _, Nat.zero_le _⟩) hS hFc (fun hb74 H1 locs hP1 hD1 hz1 hkk hS => ?_)
            have hP : va_P D vwCl (wMo T am mguests mclause mdeeds masked mupper mlower mfinding w74_mreadGuests misSight w74_mat mrowSizes mrows mtextSizes mtexts mdoes mkinds msees mnow mbefore mkeeps mkept mfindings w74_mread maside msteps mtried mbest) H1 := hP1
            have hD : va_D A (wMo T am mguests mclause mdeeds masked mupper mlower mfinding w74_mreadGuests misSight w74_mat mrowSizes mrows mtextSizes mtexts mdoes mkinds msees mnow mbefore mkeeps mkept mfindings w74_mread maside msteps mtried mbest) := hD1.weaken (fun _ q _ h => hFc q.1 h)
            generalize H1 = H at hP hS ⊢
            refine lv_if_ne (tgt := 85) hx hb dX6_reads_77 (by decide) (fun c77 => ?_) (fun c77 => ?_)
            · have h := br_0 h c77
              refine lv_aload_n hx hb dX6_reads_85 rfl (lv_at hl 0 rfl) ?_
              refine lv_iload_n hx hb dX6_reads_86 rfl (lv_at hl 1 rfl) ?_
              obtain ⟨w87_mat, hc, h⟩ := bd1_some h
              have hFc := my_freeS hD hS hA
              refine my_rwv (va_runV (As := [.int x1]) (rest := []) hFix (kX6_blanks l D T F am mguests mclause mdeeds masked mupper mlower mfinding w74_mreadGuests misSight w74_mat mrowSizes mrows mtextSizes mtexts mdoes mkinds msees mnow mbefore mkeeps mkept mfindings w74_mread maside msteps mtried mbest x1 w87_mat hc _) (cwV 1 hts gX6_reads_X6_blanks rfl rfl rfl ⟨rfl, hd_X6_blanks⟩ ⟨Nat.le_of_ble_eq_true rfl, Nat.le_of_ble_eq_true rfl⟩) (preV_rw hP hKK hD (va_recv hK hP (ci := 4) (q0 := 0) rfl wMo_0)) rfl rfl hl.1 rfl (lv_room (Nat.le_of_ble_eq_true rfl)) dX6_reads_87 ⟨Nat.zero_le _, Nat.zero_le _⟩) hS hFc (fun H1 locs hP1 hD1 hz1 hkk hS => ?_)
              have hP : va_P D vwCl (wMo T am mguests mclause mdeeds masked mupper mlower mfinding w74_mreadGuests misSight w87_mat mrowSizes mrows mtextSizes mtexts mdoes mkinds msees mnow mbefore mkeeps mkept mfindings w74_mread maside msteps mtried mbest) H1 := hP1
              have hD : va_D A (wMo T am mguests mclause mdeeds masked mupper mlower mfinding w74_mreadGuests misSight w87_mat mrowSizes mrows mtextSizes mtexts mdoes mkinds msees mnow mbefore mkeeps mkept mfindings w74_mread maside msteps mtried mbest) := hD1.weaken (fun _ q _ h => hFc q.1 h)
              generalize H1 = H at hP hS ⊢
              refine lv_goto (tgt := 38) hx hb dX6_reads_90 (by decide) ?_
              exact ih38 w74_mreadGuests misSight w87_mat w74_mread h _ _ hP hD hS _ (lv_sub hl [0, 1] rfl)
            · have h := br_1 h c77
              refine lv_aload_n hx hb dX6_reads_80 rfl (lv_at hl 0 rfl) ?_
              refine va_get (D := D) (ci := 4) (C := RX6) (T := TX6) (N := 27) hx hb hts iX6 hown hK hP 0 wMo_0 rfl 22 (by decide) q3 (fun _ h9 => h9) rfl dX6_reads_81 ?_
              cases h
              exact hret _ _ _ _ hP hD hS dX6_reads_84
          · have h := br_1 h c58
            refine lv_aload_n hx hb dX6_reads_61 rfl (lv_at hl 0 rfl) ?_
            refine lv_iload_n hx hb dX6_reads_62 rfl (lv_at hl 1 rfl) ?_
            obtain ⟨r63, w63_misSight, w63_mat, w63_mread, hc, h⟩ := bd4_some h
            have hFc := my_freeS hD hS hA
            refine my_rwz (va_runV (As := [.int x1]) (rest := []) hFix (kX6_takesSight l D T F am mguests mclause mdeeds masked mupper mlower mfinding mreadGuests misSight mat mrowSizes mrows mtextSizes mtexts mdoes mkinds msees mnow mbefore mkeeps mkept mfindings mread maside msteps mtried mbest x1 r63 w63_misSight w63_mat w63_mread hc _) (cwV 1 hts gX6_reads_X6_takesSight rfl rfl rfl ⟨rfl, hd_X6_takesSight⟩ ⟨Nat.le_of_ble_eq_true rfl, Nat.le_of_ble_eq_true rfl⟩) (preV_rw hP hKK hD (va_recv hK hP (ci := 4) (q0 := 0) rfl wMo_0)) rfl rfl hl.1 rfl (lv_room (Nat.le_of_ble_eq_true rfl)) dX6_reads_63 ⟨Nat.zero_le _, Nat.zero_le _⟩) hS hFc (fun hb63 H1 locs hP1 hD1 hz1 hkk hS => ?_)
            have hP : va_P D vwCl (wMo T am mguests mclause mdeeds masked mupper mlower mfinding mreadGuests w63_misSight w63_mat mrowSizes mrows mtextSizes mtexts mdoes mkinds msees mnow mbefore mkeeps mkept mfindings w63_mread maside msteps mtried mbest) H1 := hP1
            have hD : va_D A (wMo T am mguests mclause mdeeds masked mupper mlower mfinding mreadGuests w63_misSight w63_mat mrowSizes mrows mtextSizes mtexts mdoes mkinds msees mnow mbefore mkeeps mkept mfindings w63_mread maside msteps mtried mbest) := hD1.weaken (fun _ q _ h => hFc q.1 h)
            generalize H1 = H at hP hS ⊢
            refine lv_if_eq (tgt := 80) hx hb dX6_reads_66 (by decide) (fun c66 => ?_) (fun c66 => ?_)
            · have h := br_1 h c66
              refine lv_aload_n hx hb dX6_reads_80 rfl (lv_at hl 0 rfl) ?_
              refine va_get (D := D) (ci := 4) (C := RX6) (T := TX6) (N := 27) hx hb hts iX6 hown hK hP 0 wMo_0 rfl 22 (by decide) q3 (fun _ h9 => h9) rfl dX6_reads_81 ?_
              cases h
              exact hret _ _ _ _ hP hD hS dX6_reads_84
            · have h := br_0 h c66
              refine lv_goto (tgt := 85) hx hb dX6_reads_69 (by decide) ?_
              refine lv_aload_n hx hb dX6_reads_85 rfl (lv_at hl 0 rfl) ?_
              refine lv_iload_n hx hb dX6_reads_86 rfl (lv_at hl 1 rfl) ?_
              obtain ⟨w87_mat, hc, h⟩ := bd1_some h
              have hFc := my_freeS hD hS hA
              refine my_rwv (va_runV (As := [.int x1]) (rest := []) hFix (kX6_blanks l D T F am mguests mclause mdeeds masked mupper mlower mfinding mreadGuests w63_misSight w63_mat mrowSizes mrows mtextSizes mtexts mdoes mkinds msees mnow mbefore mkeeps mkept mfindings w63_mread maside msteps mtried mbest x1 w87_mat hc _) (cwV 1 hts gX6_reads_X6_blanks rfl rfl rfl ⟨rfl, hd_X6_blanks⟩ ⟨Nat.le_of_ble_eq_true rfl, Nat.le_of_ble_eq_true rfl⟩) (preV_rw hP hKK hD (va_recv hK hP (ci := 4) (q0 := 0) rfl wMo_0)) rfl rfl hl.1 rfl (lv_room (Nat.le_of_ble_eq_true rfl)) dX6_reads_87 ⟨Nat.zero_le _, Nat.zero_le _⟩) hS hFc (fun H1 locs hP1 hD1 hz1 hkk hS => ?_)
              have hP : va_P D vwCl (wMo T am mguests mclause mdeeds masked mupper mlower mfinding mreadGuests w63_misSight w87_mat mrowSizes mrows mtextSizes mtexts mdoes mkinds msees mnow mbefore mkeeps mkept mfindings w63_mread maside msteps mtried mbest) H1 := hP1
              have hD : va_D A (wMo T am mguests mclause mdeeds masked mupper mlower mfinding mreadGuests w63_misSight w87_mat mrowSizes mrows mtextSizes mtexts mdoes mkinds msees mnow mbefore mkeeps mkept mfindings w63_mread maside msteps mtried mbest) := hD1.weaken (fun _ q _ h => hFc q.1 h)
              generalize H1 = H at hP hS ⊢
              refine lv_goto (tgt := 38) hx hb dX6_reads_90 (by decide) ?_
              exact ih38 mreadGuests w63_misSight w87_mat w63_mread h _ _ hP hD hS _ (lv_sub hl [0, 1] rfl)
    unfold fX6_reads at h
    refine lv_aload_n hx hb dX6_reads_0 rfl (lv_at hl 0 rfl) ?_
    refine lv_iconst (v := (0 : Int32)) hx hb dX6_reads_1 (by decide) ?_
    refine va_put (D := D) (ci := 4) (v := .int (0 : Int32)) (ty := .int) (C := RX6) (T := TX6) (N := 27) hx hb hts iX6 tyX6 tyX6_ok nmX6 hown hK hP hD hS 0 wMo_0 rfl 19 (by decide) q1 (fun _ h9 => h9) rfl (by decide +kernel) rfl rfl (Nat.le_of_ble_eq_true rfl) dX6_reads_2 (fun H locs hP hD hS => ?_)
    have hP : va_P D vwCl (wMo T am mguests mclause mdeeds masked mupper mlower mfinding (0 : Int32) misSight mat mrowSizes mrows mtextSizes mtexts mdoes mkinds msees mnow mbefore mkeeps mkept mfindings mread maside msteps mtried mbest) H := hP
    have hD : va_D A (wMo T am mguests mclause mdeeds masked mupper mlower mfinding (0 : Int32) misSight mat mrowSizes mrows mtextSizes mtexts mdoes mkinds msees mnow mbefore mkeeps mkept mfindings mread maside msteps mtried mbest) := hD
    refine lv_aload_n hx hb dX6_reads_5 rfl (lv_at hl 0 rfl) ?_
    refine lv_iconst (v := (0 : Int32)) hx hb dX6_reads_6 (by decide) ?_
    refine va_put (D := D) (ci := 4) (v := .int (0 : Int32)) (ty := .boolean) (C := RX6) (T := TX6) (N := 27) hx hb hts iX6 tyX6 tyX6_ok nmX6 hown hK hP hD hS 0 wMo_0 rfl 21 (by decide) q2 (fun _ h9 => h9) rfl (by decide +kernel) rfl rfl (Nat.le_of_ble_eq_true rfl) dX6_reads_7 (fun H locs hP hD hS => ?_)
    have hP : va_P D vwCl (wMo T am mguests mclause mdeeds masked mupper mlower mfinding (0 : Int32) (0 : Int32) mat mrowSizes mrows mtextSizes mtexts mdoes mkinds msees mnow mbefore mkeeps mkept mfindings mread maside msteps mtried mbest) H := hP
    have hD : va_D A (wMo T am mguests mclause mdeeds masked mupper mlower mfinding (0 : Int32) (0 : Int32) mat mrowSizes mrows mtextSizes mtexts mdoes mkinds msees mnow mbefore mkeeps mkept mfindings mread maside msteps mtried mbest) := hD
    refine lv_aload_n hx hb dX6_reads_10 rfl (lv_at hl 0 rfl) ?_
    refine lv_iconst (v := (0 : Int32)) hx hb dX6_reads_11 (by decide) ?_
    refine va_put (D := D) (ci := 4) (v := .int (0 : Int32)) (ty := .int) (C := RX6) (T := TX6) (N := 27) hx hb hts iX6 tyX6 tyX6_ok nmX6 hown hK hP hD hS 0 wMo_0 rfl 22 (by decide) q3 (fun _ h9 => h9) rfl (by decide +kernel) rfl rfl (Nat.le_of_ble_eq_true rfl) dX6_reads_12 (fun H locs hP hD hS => ?_)
    have hP : va_P D vwCl (wMo T am mguests mclause mdeeds masked mupper mlower mfinding (0 : Int32) (0 : Int32) (0 : Int32) mrowSizes mrows mtextSizes mtexts mdoes mkinds msees mnow mbefore mkeeps mkept mfindings mread maside msteps mtried mbest) H := hP
    have hD : va_D A (wMo T am mguests mclause mdeeds masked mupper mlower mfinding (0 : Int32) (0 : Int32) (0 : Int32) mrowSizes mrows mtextSizes mtexts mdoes mkinds msees mnow mbefore mkeeps mkept mfindings mread maside msteps mtried mbest) := hD
    refine lv_aload_n hx hb dX6_reads_15 rfl (lv_at hl 0 rfl) ?_
    refine lv_iload_n hx hb dX6_reads_16 rfl (lv_at hl 1 rfl) ?_
    obtain ⟨w17_mat, hc, h⟩ := bd1_some h
    have hFc := my_freeS hD hS hA
    refine my_rwv (va_runV (As := [.int x1]) (rest := []) hFix (kX6_blanks l D T F am mguests mclause mdeeds masked mupper mlower mfinding (0 : Int32) (0 : Int32) (0 : Int32) mrowSizes mrows mtextSizes mtexts mdoes mkinds msees mnow mbefore mkeeps mkept mfindings mread maside msteps mtried mbest x1 w17_mat hc _) (cwV 1 hts gX6_reads_X6_blanks rfl rfl rfl ⟨rfl, hd_X6_blanks⟩ ⟨Nat.le_of_ble_eq_true rfl, Nat.le_of_ble_eq_true rfl⟩) (preV_rw hP hKK hD (va_recv hK hP (ci := 4) (q0 := 0) rfl wMo_0)) rfl rfl hl.1 rfl (lv_room (Nat.le_of_ble_eq_true rfl)) dX6_reads_17 ⟨Nat.zero_le _, Nat.zero_le _⟩) hS hFc (fun H1 locs hP1 hD1 hz1 hkk hS => ?_)
    have hP : va_P D vwCl (wMo T am mguests mclause mdeeds masked mupper mlower mfinding (0 : Int32) (0 : Int32) w17_mat mrowSizes mrows mtextSizes mtexts mdoes mkinds msees mnow mbefore mkeeps mkept mfindings mread maside msteps mtried mbest) H1 := hP1
    have hD : va_D A (wMo T am mguests mclause mdeeds masked mupper mlower mfinding (0 : Int32) (0 : Int32) w17_mat mrowSizes mrows mtextSizes mtexts mdoes mkinds msees mnow mbefore mkeeps mkept mfindings mread maside msteps mtried mbest) := hD1.weaken (fun _ q _ h => hFc q.1 h)
    generalize H1 = H at hP hS ⊢
    refine lv_aload_n hx hb dX6_reads_20 rfl (lv_at hl 0 rfl) ?_
    refine lv_iload_n hx hb dX6_reads_21 rfl (lv_at hl 1 rfl) ?_
    obtain ⟨r22, w22_mat, w22_mread, hc, h⟩ := bd3_some h
    have hFc := my_freeS hD hS hA
    refine my_rwz (va_runV (As := [.int x1]) (rest := []) hFix (kX6_takesClause l D T F am mguests mclause mdeeds masked mupper mlower mfinding (0 : Int32) (0 : Int32) w17_mat mrowSizes mrows mtextSizes mtexts mdoes mkinds msees mnow mbefore mkeeps mkept mfindings mread maside msteps mtried mbest x1 r22 w22_mat w22_mread hc _) (cwV 1 hts gX6_reads_X6_takesClause rfl rfl rfl ⟨rfl, hd_X6_takesClause⟩ ⟨Nat.le_of_ble_eq_true rfl, Nat.le_of_ble_eq_true rfl⟩) (preV_rw hP hKK hD (va_recv hK hP (ci := 4) (q0 := 0) rfl wMo_0)) rfl rfl hl.1 rfl (lv_room (Nat.le_of_ble_eq_true rfl)) dX6_reads_22 ⟨Nat.zero_le _, Nat.zero_le _⟩) hS hFc (fun hb22 H1 locs hP1 hD1 hz1 hkk hS => ?_)
    have hP : va_P D vwCl (wMo T am mguests mclause mdeeds masked mupper mlower mfinding (0 : Int32) (0 : Int32) w22_mat mrowSizes mrows mtextSizes mtexts mdoes mkinds msees mnow mbefore mkeeps mkept mfindings w22_mread maside msteps mtried mbest) H1 := hP1
    have hD : va_D A (wMo T am mguests mclause mdeeds masked mupper mlower mfinding (0 : Int32) (0 : Int32) w22_mat mrowSizes mrows mtextSizes mtexts mdoes mkinds msees mnow mbefore mkeeps mkept mfindings w22_mread maside msteps mtried mbest) := hD1.weaken (fun _ q _ h => hFc q.1 h)
    generalize H1 = H at hP hS ⊢
    refine lv_if_ne (tgt := 33) hx hb dX6_reads_25 (by decide) (fun c25 => ?_) (fun c25 => ?_)
    · have h := br_0 h c25
      refine lv_aload_n hx hb dX6_reads_33 rfl (lv_at hl 0 rfl) ?_
      refine lv_iload_n hx hb dX6_reads_34 rfl (lv_at hl 1 rfl) ?_
      obtain ⟨w35_mat, hc, h⟩ := bd1_some h
      have hFc := my_freeS hD hS hA
      refine my_rwv (va_runV (As := [.int x1]) (rest := []) hFix (kX6_blanks l D T F am mguests mclause mdeeds masked mupper mlower mfinding (0 : Int32) (0 : Int32) w22_mat mrowSizes mrows mtextSizes mtexts mdoes mkinds msees mnow mbefore mkeeps mkept mfindings w22_mread maside msteps mtried mbest x1 w35_mat hc _) (cwV 1 hts gX6_reads_X6_blanks rfl rfl rfl ⟨rfl, hd_X6_blanks⟩ ⟨Nat.le_of_ble_eq_true rfl, Nat.le_of_ble_eq_true rfl⟩) (preV_rw hP hKK hD (va_recv hK hP (ci := 4) (q0 := 0) rfl wMo_0)) rfl rfl hl.1 rfl (lv_room (Nat.le_of_ble_eq_true rfl)) dX6_reads_35 ⟨Nat.zero_le _, Nat.zero_le _⟩) hS hFc (fun H1 locs hP1 hD1 hz1 hkk hS => ?_)
      have hP : va_P D vwCl (wMo T am mguests mclause mdeeds masked mupper mlower mfinding (0 : Int32) (0 : Int32) w35_mat mrowSizes mrows mtextSizes mtexts mdoes mkinds msees mnow mbefore mkeeps mkept mfindings w22_mread maside msteps mtried mbest) H1 := hP1
      have hD : va_D A (wMo T am mguests mclause mdeeds masked mupper mlower mfinding (0 : Int32) (0 : Int32) w35_mat mrowSizes mrows mtextSizes mtexts mdoes mkinds msees mnow mbefore mkeeps mkept mfindings w22_mread maside msteps mtried mbest) := hD1.weaken (fun _ q _ h => hFc q.1 h)
      generalize H1 = H at hP hS ⊢
      exact l38 x1 F (0 : Int32) (0 : Int32) w35_mat w22_mread h _ _ hP hD hS _ (lv_sub hl [0, 1] rfl)
    · have h := br_1 h c25
      refine lv_aload_n hx hb dX6_reads_28 rfl (lv_at hl 0 rfl) ?_
      refine va_get (D := D) (ci := 4) (C := RX6) (T := TX6) (N := 27) hx hb hts iX6 hown hK hP 0 wMo_0 rfl 22 (by decide) q3 (fun _ h9 => h9) rfl dX6_reads_29 ?_
      cases h
      exact hret _ _ _ _ hP hD hS dX6_reads_32
  exact key _ (fun H locs pc ls hP hD hS hd => W.iret hx hb hr (fun t ht hW => ⟨⟨_, (), rfl, rfl, by show _ ∧ _; rw [ht]; exact ⟨hP, hD⟩⟩, hS.F ht⟩) hS.2.2 hd)
