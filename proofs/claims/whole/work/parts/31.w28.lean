set_option maxHeartbeats 4000000 in
set_option maxRecDepth 100000 in
theorem kX6_grief (l : Launch) (D : va_G) (T : Nat → ClassId) (F : Nat) (am : Nat → Nat) (mguests : Int32) (mclause : Int32) (mdeeds : Int32) (masked : Int32) (mupper : Int64) (mlower : Int64) (mfinding : Int32) (mreadGuests : Int32) (misSight : Int32) (mat : Int32) (mrowSizes : Nat → Int32) (mrows : Nat → Int32) (mtextSizes : Nat → Int32) (mtexts : Nat → Int32) (mdoes : Nat → Int32) (mkinds : Nat → Int32) (msees : Nat → Int32) (mnow : Nat → Int32) (mbefore : Nat → Int32) (mkeeps : Nat → Int32) (mkept : Nat → Int32) (mfindings : Nat → Int32) (mread : Nat → Int32) (maside : Nat → Int32) (msteps : Nat → Int32) (mtried : Nat → Int32) (mbest : Nat → Int32) (x1 : Int32) (x2 : Int32) (r : Int32) (zmfinding : Int32) (zmfindings : Nat → Int32) (zmaside : Nat → Int32) (h : fX6_grief F mguests mclause mfinding mrowSizes mrows mdoes mkinds msees mnow mfindings maside x1 x2 = some (r, zmfinding, zmfindings, zmaside)) : ∀ sz : Nat, Met l yX6_grief wsX6_grief ({ frames := 4, cells := 0, slots := 0, locals := 93 } : Room) (va_Pc [.ref (am 0), .int x1, .int x2] (fun U => U.heap.size = sz ∧ va_P D vwCl (wMo T am mguests mclause mdeeds masked mupper mlower mfinding mreadGuests misSight mat mrowSizes mrows mtextSizes mtexts mdoes mkinds msees mnow mbefore mkeeps mkept mfindings mread maside msteps mtried mbest) U.heap ∧ KK D T U ∧ va_D (fun _ => True) (wMo T am mguests mclause mdeeds masked mupper mlower mfinding mreadGuests misSight mat mrowSizes mrows mtextSizes mtexts mdoes mkinds msees mnow mbefore mkeeps mkept mfindings mread maside msteps mtried mbest))) (va_Qi (fun r' (_ : Unit) => r' = r) (fun _ t => va_P D vwCl (wMo T am mguests mclause mdeeds masked mupper mlower zmfinding mreadGuests misSight mat mrowSizes mrows mtextSizes mtexts mdoes mkinds msees mnow mbefore mkeeps mkept zmfindings mread zmaside msteps mtried mbest) t.heap ∧ va_D (va_A (wMo T am mguests mclause mdeeds masked mupper mlower mfinding mreadGuests misSight mat mrowSizes mrows mtextSizes mtexts mdoes mkinds msees mnow mbefore mkeeps mkept mfindings mread maside msteps mtried mbest) sz) (wMo T am mguests mclause mdeeds masked mupper mlower zmfinding mreadGuests misSight mat mrowSizes mrows mtextSizes mtexts mdoes mkinds msees mnow mbefore mkeeps mkept zmfindings mread zmaside msteps mtried mbest)) (va_A (wMo T am mguests mclause mdeeds masked mupper mlower mfinding mreadGuests misSight mat mrowSizes mrows mtextSizes mtexts mdoes mkinds msees mnow mbefore mkeeps mkept mfindings mread maside msteps mtried mbest) sz)) 0 0 (va_A (wMo T am mguests mclause mdeeds masked mupper mlower mfinding mreadGuests misSight mat mrowSizes mrows mtextSizes mtexts mdoes mkinds msees mnow mbefore mkeeps mkept mfindings mread maside msteps mtried mbest) sz) := by
  intro sz
  refine Met.ofW (cc := cX6_grief) (maxL := 6) (ret := some .int) (by decide) rfl ?_
  intro p e s m args below meth c s₁ B hml hv
  obtain ⟨ha, hsz, hP, hKK, hD0⟩ := hv
  have hx := B.exec
  have hb := B.bytes
  have hr := B.returns
  have hts := atoms_spec (ws := wsX6_grief) B.pre
  have hown : s.vm.findClass RX6 = some m.cls := findClass_of_methodNamed B.named
  have hlocks := B.notSynchronized
  have hK := hKK.1
  have hFix : CallFix p m c cX6_grief 6 s args wsX6_grief RX6 := ⟨hx, hb, hml, hown, hts⟩
  have q1 := hts _ (List.mem_of_getElem? (i := 1) (show wsX6_grief[1]? = some (Cond.fieldLink RX6 7 "PartyWillModel" "rowSizes" "[I") from rfl))
  have q2 := hts _ (List.mem_of_getElem? (i := 2) (show wsX6_grief[2]? = some (Cond.fieldLink RX6 54 "PartyWillModel" "aside" "[I") from rfl))
  have q3 := hts _ (List.mem_of_getElem? (i := 3) (show wsX6_grief[3]? = some (Cond.fieldLink RX6 13 "PartyWillModel" "rows" "[I") from rfl))
  have iX6 : ∀ w ∈ u_ws RX6 TX6 27, w ∈ wsX6_grief := fun w h => List.mem_cons_of_mem _ (List.mem_append_right _ (h))
  subst hsz
  have hD := hD0.self (sz := s.heap.size)
  generalize hAe : va_A (wMo T am mguests mclause mdeeds masked mupper mlower mfinding mreadGuests misSight mat mrowSizes mrows mtextSizes mtexts mdoes mkinds msees mnow mbefore mkeeps mkept mfindings mread maside msteps mtried mbest) s.heap.size = A at hD ⊢
  have hA : ∀ q : Nat, s.heap.size ≤ q → A q := fun q h => by rw [← hAe]; exact Or.inr h
  have hS : va_S A s.heap s.heap [] := va_S.rf
  have hP : va_P D vwCl (wMo T am mguests mclause mdeeds masked mupper mlower mfinding mreadGuests misSight mat mrowSizes mrows mtextSizes mtexts mdoes mkinds msees mnow mbefore mkeeps mkept mfindings mread maside msteps mtried mbest) s.heap := hP
  obtain ⟨ls, hl, e0⟩ := my_entry (m := m) (n := 6) ha (Nat.le_of_ble_eq_true rfl)
  rw [e0]
  have hl : lv_has ls 6 [(0, .ref (am 0)), (1, .int x1), (2, .int x2)] := hl
  have key : ∀ Q : State → Prop, (∀ (H : Heap) (locs : List Loc) (pc : Nat) (ls : Array Slot), va_P D vwCl (wMo T am mguests mclause mdeeds masked mupper mlower zmfinding mreadGuests misSight mat mrowSizes mrows mtextSizes mtexts mdoes mkinds msees mnow mbefore mkeeps mkept zmfindings mread zmaside msteps mtried mbest) H → va_D A (wMo T am mguests mclause mdeeds masked mupper mlower zmfinding mreadGuests misSight mat mrowSizes mrows mtextSizes mtexts mdoes mkinds msees mnow mbefore mkeeps mkept zmfindings mread zmaside msteps mtried mbest) → va_S A s.heap H locs → decode cX6_grief pc = .ok (.ireturn, 1) → W p l e ({ frames := 4, cells := 0, slots := 0, locals := 93 } : Room) s m args below meth c H locs 0 0 Q (F0 m pc ls [.int r])) → W p l e ({ frames := 4, cells := 0, slots := 0, locals := 93 } : Room) s m args below meth c s.heap [] 0 0 Q (F0 m 0 ls []) := by
    intro Q hret
    skip
    have l38 : ∀ x1 : Int32, ∀ x2 : Int32, ∀ mfinding : Int32, ∀ mfindings : Nat → Int32, ∀ nu : Nat, ∀ x4 : Int32, ∀ maside : Nat → Int32, fX6_grief_l38 F mguests mclause mrowSizes mrows mdoes mkinds msees mnow x1 x2 mfinding mfindings nu x4 maside = some (r, zmfinding, zmfindings, zmaside) → ∀ (H : Heap) (locs : List Loc), va_P D vwCl (wMo T am mguests mclause mdeeds masked mupper mlower mfinding mreadGuests misSight mat mrowSizes mrows mtextSizes mtexts mdoes mkinds msees mnow mbefore mkeeps mkept mfindings mread maside msteps mtried mbest) H → va_D A (wMo T am mguests mclause mdeeds masked mupper mlower mfinding mreadGuests misSight mat mrowSizes mrows mtextSizes mtexts mdoes mkinds msees mnow mbefore mkeeps mkept mfindings mread maside msteps mtried mbest) → va_S A s.heap H locs → ∀ (ls : Array Slot), lv_has ls 6 [(0, .ref (am 0)), (1, .int x1), (2, .int x2), (4, .int x4)] → W p l e ({ frames := 4, cells := 0, slots := 0, locals := 93 } : Room) s m args below meth c H locs 0 0 Q (F0 m 38 ls []) := by
      intro x1 x2 mfinding mfindings
      intro nu
      induction nu with
      | zero => intro x4 maside h; exact none_some h
      | succ nu38 ih38 =>
        intro x4 maside h H locs hP hD hS ls hl
        have h : fX6_grief_l38_b F mguests mclause mrowSizes mrows mdoes mkinds msees mnow x1 x2 mfinding mfindings (fX6_grief_l38 F mguests mclause mrowSizes mrows mdoes mkinds msees mnow x1 x2 mfinding mfindings nu38) x4 maside = some (r, zmfinding, zmfindings, zmaside) := h
        unfold fX6_grief_l38_b at h
        refine lv_iload hx hb dX6_grief_38 (lv_at hl 3 rfl) ?_
        refine lv_aload_n hx hb dX6_grief_40 rfl (lv_at hl 0 rfl) ?_
        refine va_get (D := D) (ci := 4) (C := RX6) (T := TX6) (N := 27) hx hb hts iX6 hown hK hP 0 wMo_0 rfl 0 (by decide) q1 (fun _ h9 => h9) rfl dX6_grief_41 ?_
        refine lv_iload_n hx hb dX6_grief_44 rfl (lv_at hl 2 rfl) ?_
        obtain ⟨hin1, h⟩ := ck_some h
        refine va_iald hx hb hK hP 1 0 wMo_1 rfl hin1 dX6_grief_45 ?_
        refine lv_icmp_ge (tgt := 77) hx hb dX6_grief_46 (by decide) (fun c46 => ?_) (fun c46 => ?_)
        · have h := br_1 h c46
          refine lv_aload_n hx hb dX6_grief_77 rfl (lv_at hl 0 rfl) ?_
          refine va_get (D := D) (ci := 4) (C := RX6) (T := TX6) (N := 27) hx hb hts iX6 hown hK hP 0 wMo_0 rfl 23 (by decide) q2 (fun _ h9 => h9) rfl dX6_grief_78 ?_
          refine lv_iload_n hx hb dX6_grief_81 rfl (lv_at hl 1 rfl) ?_
          obtain ⟨hin2, h⟩ := ck_some h
          refine va_iald hx hb hK hP 14 0 wMo_14 rfl hin2 dX6_grief_82 ?_
          cases h
          exact hret _ _ _ _ hP hD hS dX6_grief_83
        · have h := br_0 h c46
          refine lv_aload_n hx hb dX6_grief_49 rfl (lv_at hl 0 rfl) ?_
          refine lv_aload_n hx hb dX6_grief_50 rfl (lv_at hl 0 rfl) ?_
          refine va_get (D := D) (ci := 4) (C := RX6) (T := TX6) (N := 27) hx hb hts iX6 hown hK hP 0 wMo_0 rfl 23 (by decide) q2 (fun _ h9 => h9) rfl dX6_grief_51 ?_
          refine lv_aload_n hx hb dX6_grief_54 rfl (lv_at hl 0 rfl) ?_
          refine va_get (D := D) (ci := 4) (C := RX6) (T := TX6) (N := 27) hx hb hts iX6 hown hK hP 0 wMo_0 rfl 1 (by decide) q3 (fun _ h9 => h9) rfl dX6_grief_55 ?_
          refine lv_bipush (v := (40 : Int32)) hx hb dX6_grief_58 (by decide) ?_
          refine lv_iload_n hx hb dX6_grief_60 rfl (lv_at hl 2 rfl) ?_
          refine lv_imul hx hb dX6_grief_61 ?_
          refine lv_iload hx hb dX6_grief_62 (lv_at hl 3 rfl) ?_
          refine lv_iadd hx hb dX6_grief_64 ?_
          obtain ⟨hin3, h⟩ := ck_some h
          refine va_iald hx hb hK hP 2 0 wMo_2 rfl hin3 dX6_grief_65 ?_
          obtain ⟨r66, w66_tt, hc, h⟩ := bd2_some h
          have hPc : va_P D vwCl (wMp T am (am 14) mguests mclause mdeeds masked mupper mlower mfinding mreadGuests misSight mat mdoes mkinds msees maside) _ := my_subP sb_wMo_wMp_0_5_6_7_14 hP
          have hDc := hD.sub [0, 5, 6, 7, 14] (by decide) sb_wMo_wMp_0_5_6_7_14
          have hFc := va_free hD hS hA [0, 5, 6, 7, 14] sb_wMo_wMp_0_5_6_7_14
          refine my_rwi (va_runV (As := [.ref (am 14), .int (mrows (((40 : Int32) * x2) + x4).toNatClampNeg)]) (rest := []) hFix (kX6_plays l D T F am (am 14) mguests mclause mdeeds masked mupper mlower mfinding mreadGuests misSight mat mdoes mkinds msees maside (mrows (((40 : Int32) * x2) + x4).toNatClampNeg) r66 w66_tt hc _) (cwV 2 hts gX6_grief_X6_plays rfl rfl rfl ⟨rfl, hd_X6_plays⟩ ⟨Nat.le_of_ble_eq_true rfl, Nat.le_of_ble_eq_true rfl⟩) (preV_rw hPc hKK hDc (va_recv hK hP (ci := 4) (q0 := 0) rfl wMo_0)) rfl rfl hl.1 rfl (lv_room (Nat.le_of_ble_eq_true rfl)) dX6_grief_66 ⟨Nat.zero_le _, Nat.zero_le _⟩) hS hFc (fun H1 locs hP1 hD1 hz1 hkk hS => ?_)
          obtain ⟨hP, hD⟩ := my_joinS hP hD (by decide) sb_wMo_wMp_0_5_6_7_14 (by rfl) hkk hFc hP1 hD1
          rw [st_wMo_wMp_0_5_6_7_14_plays] at hP hD
          generalize H1 = H at hP hS ⊢
          refine lv_istore (lv' := [(5, .int r66), (0, .ref (am 0)), (1, .int x1), (2, .int x2), (4, .int x4)]) hx hb dX6_grief_69 hl (by decide) rfl (fun ls hl => ?_)
          refine lv_iinc (v := (x4 + (1 : Int32))) (lv' := [(4, .int (x4 + (1 : Int32))), (5, .int r66), (0, .ref (am 0)), (1, .int x1), (2, .int x2)]) hx hb dX6_grief_71 hl (k := 4) rfl rfl (by decide) rfl (fun ls hl => ?_)
          refine lv_goto (tgt := 38) hx hb dX6_grief_74 (by decide) ?_
          exact ih38 (x4 + (1 : Int32)) w66_tt h _ _ hP hD hS _ (lv_sub hl [2, 3, 4, 0] rfl)
    have n24 : ∀ s_0 : Int32, ∀ x1 : Int32, ∀ x2 : Int32, ∀ mfinding : Int32, ∀ mfindings : Nat → Int32, ∀ maside : Nat → Int32, fX6_grief_n24 F mguests mclause mrowSizes mrows mdoes mkinds msees mnow s_0 x1 x2 mfinding mfindings maside = some (r, zmfinding, zmfindings, zmaside) → ∀ (H : Heap) (locs : List Loc), va_P D vwCl (wMo T am mguests mclause mdeeds masked mupper mlower mfinding mreadGuests misSight mat mrowSizes mrows mtextSizes mtexts mdoes mkinds msees mnow mbefore mkeeps mkept mfindings mread maside msteps mtried mbest) H → va_D A (wMo T am mguests mclause mdeeds masked mupper mlower mfinding mreadGuests misSight mat mrowSizes mrows mtextSizes mtexts mdoes mkinds msees mnow mbefore mkeeps mkept mfindings mread maside msteps mtried mbest) → va_S A s.heap H locs → ∀ (ls : Array Slot), lv_has ls 6 [(0, .ref (am 0)), (1, .int x1), (2, .int x2)] → W p l e ({ frames := 4, cells := 0, slots := 0, locals := 93 } : Room) s m args below meth c H locs 0 0 Q (F0 m 24 ls [.int s_0]) := by
      intro s_0 x1 x2 mfinding mfindings maside h H locs hP hD hS ls hl
      unfold fX6_grief_n24 at h
      refine lv_istore_n (lv' := [(3, .int s_0), (0, .ref (am 0)), (1, .int x1), (2, .int x2)]) hx hb dX6_grief_24 rfl hl (by decide) rfl (fun ls hl => ?_)
      refine lv_iload_n hx hb dX6_grief_25 rfl (lv_at hl 0 rfl) ?_
      refine lv_if_eq (tgt := 31) hx hb dX6_grief_26 (by decide) (fun c26 => ?_) (fun c26 => ?_)
      · have h := br_1 h c26
        refine lv_aload_n hx hb dX6_grief_31 rfl (lv_at hl 1 rfl) ?_
        obtain ⟨w32_maside, hc, h⟩ := bd1_some h
        have hFc := my_freeS hD hS hA
        refine my_rwv (va_runV (As := []) (rest := []) hFix (kX6_layAside l D T F am mguests mclause mdeeds masked mupper mlower mfinding mreadGuests misSight mat mrowSizes mrows mtextSizes mtexts mdoes mkinds msees mnow mbefore mkeeps mkept mfindings mread maside msteps mtried mbest w32_maside hc _) (cwV 0 hts gX6_grief_X6_layAside rfl rfl rfl ⟨rfl, hd_X6_layAside⟩ ⟨Nat.le_of_ble_eq_true rfl, Nat.le_of_ble_eq_true rfl⟩) (preV_rw hP hKK hD (va_recv hK hP (ci := 4) (q0 := 0) rfl wMo_0)) rfl rfl hl.1 rfl (lv_room (Nat.le_of_ble_eq_true rfl)) dX6_grief_32 ⟨Nat.zero_le _, Nat.zero_le _⟩) hS hFc (fun H1 locs hP1 hD1 hz1 hkk hS => ?_)
        have hP : va_P D vwCl (wMo T am mguests mclause mdeeds masked mupper mlower mfinding mreadGuests misSight mat mrowSizes mrows mtextSizes mtexts mdoes mkinds msees mnow mbefore mkeeps mkept mfindings mread w32_maside msteps mtried mbest) H1 := hP1
        have hD : va_D A (wMo T am mguests mclause mdeeds masked mupper mlower mfinding mreadGuests misSight mat mrowSizes mrows mtextSizes mtexts mdoes mkinds msees mnow mbefore mkeeps mkept mfindings mread w32_maside msteps mtried mbest) := hD1.weaken (fun _ q _ h => hFc q.1 h)
        generalize H1 = H at hP hS ⊢
        refine lv_iconst (v := (0 : Int32)) hx hb dX6_grief_35 (by decide) ?_
        refine lv_istore (lv' := [(4, .int (0 : Int32)), (3, .int s_0), (0, .ref (am 0)), (1, .int x1), (2, .int x2)]) hx hb dX6_grief_36 hl (by decide) rfl (fun ls hl => ?_)
        exact l38 x1 x2 mfinding mfindings F (0 : Int32) w32_maside h _ _ hP hD hS _ (lv_sub hl [2, 3, 4, 0] rfl)
      · have h := br_0 h c26
        refine lv_iload_n hx hb dX6_grief_29 rfl (lv_at hl 0 rfl) ?_
        cases h
        exact hret _ _ _ _ hP hD hS dX6_grief_30
    unfold fX6_grief at h
    refine lv_aload_n hx hb dX6_grief_0 rfl (lv_at hl 0 rfl) ?_
    refine lv_iload_n hx hb dX6_grief_1 rfl (lv_at hl 1 rfl) ?_
    obtain ⟨r2, hc, h⟩ := bd1_some h
    refine my_roz (va_Run.run (va_runV (As := [.int x1]) (rest := []) hFix (kX6_isGuest l D T F am mguests mclause mdeeds masked mupper mlower mfinding mreadGuests misSight mat mrowSizes mrows mtextSizes mtexts mdoes mkinds msees mnow mbefore mkeeps mkept mfindings mread maside msteps mtried mbest x1 r2 hc) (cwV 1 hts gX6_grief_X6_isGuest rfl rfl rfl ⟨rfl, hd_X6_isGuest⟩ ⟨Nat.le_of_ble_eq_true rfl, Nat.le_of_ble_eq_true rfl⟩) (preV_ro hP hKK (va_recv hK hP (ci := 4) (q0 := 0) rfl wMo_0)) rfl rfl hl.1 rfl (lv_room (Nat.le_of_ble_eq_true rfl)) dX6_grief_2 ⟨Nat.zero_le _, Nat.zero_le _⟩)) (fun hb2 => ?_)
    refine lv_if_eq (tgt := 23) hx hb dX6_grief_5 (by decide) (fun c5 => ?_) (fun c5 => ?_)
    · have h := br_1 h c5
      refine lv_iconst (v := (-1 : Int32)) hx hb dX6_grief_23 (by decide) ?_
      exact n24 (-1 : Int32) x1 x2 mfinding mfindings maside h _ _ hP hD hS _ (lv_sub hl [0, 1, 2] rfl)
    · have h := br_0 h c5
      refine lv_iload_n hx hb dX6_grief_8 rfl (lv_at hl 2 rfl) ?_
      obtain ⟨r9, hc, h⟩ := bd1_some h
      refine my_roz (va_Run.run (va_runS (As := [.int x2]) (rest := []) hFix (kX6_isRow l D T F x2 r9 hc) (va_cwS 1 hts gX6_grief_X6_isRow rfl rfl rfl hd_X6_isRow ⟨Nat.le_of_ble_eq_true rfl, Nat.le_of_ble_eq_true rfl⟩) (preS_ro va_nil hKK) rfl rfl hl.1 rfl (lv_room (Nat.le_of_ble_eq_true rfl)) dX6_grief_9 ⟨Nat.zero_le _, Nat.zero_le _⟩)) (fun hb9 => ?_)
      refine lv_if_eq (tgt := 23) hx hb dX6_grief_12 (by decide) (fun c12 => ?_) (fun c12 => ?_)
      · have h := br_1 h c12
        refine lv_iconst (v := (-1 : Int32)) hx hb dX6_grief_23 (by decide) ?_
        exact n24 (-1 : Int32) x1 x2 mfinding mfindings maside h _ _ hP hD hS _ (lv_sub hl [0, 1, 2] rfl)
      · have h := br_0 h c12
        refine lv_aload_n hx hb dX6_grief_15 rfl (lv_at hl 0 rfl) ?_
        refine lv_iload_n hx hb dX6_grief_16 rfl (lv_at hl 2 rfl) ?_
        obtain ⟨r17, w17_mfinding, w17_mfindings, hc, h⟩ := bd3_some h
        have hFc := my_freeS hD hS hA
        refine my_rwi (va_runV (As := [.int x2]) (rest := []) hFix (kX6_programme l D T F am mguests mclause mdeeds masked mupper mlower mfinding mreadGuests misSight mat mrowSizes mrows mtextSizes mtexts mdoes mkinds msees mnow mbefore mkeeps mkept mfindings mread maside msteps mtried mbest x2 r17 w17_mfinding w17_mfindings hc _) (cwV 1 hts gX6_grief_X6_programme rfl rfl rfl ⟨rfl, hd_X6_programme⟩ ⟨Nat.le_of_ble_eq_true rfl, Nat.le_of_ble_eq_true rfl⟩) (preV_rw hP hKK hD (va_recv hK hP (ci := 4) (q0 := 0) rfl wMo_0)) rfl rfl hl.1 rfl (lv_room (Nat.le_of_ble_eq_true rfl)) dX6_grief_17 ⟨Nat.zero_le _, Nat.zero_le _⟩) hS hFc (fun H1 locs hP1 hD1 hz1 hkk hS => ?_)
        have hP : va_P D vwCl (wMo T am mguests mclause mdeeds masked mupper mlower w17_mfinding mreadGuests misSight mat mrowSizes mrows mtextSizes mtexts mdoes mkinds msees mnow mbefore mkeeps mkept w17_mfindings mread maside msteps mtried mbest) H1 := hP1
        have hD : va_D A (wMo T am mguests mclause mdeeds masked mupper mlower w17_mfinding mreadGuests misSight mat mrowSizes mrows mtextSizes mtexts mdoes mkinds msees mnow mbefore mkeeps mkept w17_mfindings mread maside msteps mtried mbest) := hD1.weaken (fun _ q _ h => hFc q.1 h)
        generalize H1 = H at hP hS ⊢
        refine lv_goto (tgt := 24) hx hb dX6_grief_20 (by decide) ?_
        exact n24 r17 x1 x2 w17_mfinding w17_mfindings maside h _ _ hP hD hS _ (lv_sub hl [0, 1, 2] rfl)
  exact key _ (fun H locs pc ls hP hD hS hd => W.iret hx hb hr (fun t ht hW => ⟨⟨_, (), rfl, rfl, by show _ ∧ _; rw [ht]; exact ⟨hP, hD⟩⟩, hS.F ht⟩) hS.2.2 hd)
set_option maxHeartbeats 4000000 in
set_option maxRecDepth 100000 in
theorem kX6_codes (l : Launch) (D : va_G) (T : Nat → ClassId) (F : Nat) (x0 : Int32) (r : Int32) (h : fX6_codes F x0 = some (r)) : Met l yX6_codes wsX6_codes ({ frames := 0, cells := 0, slots := 0, locals := 0 } : Room) (va_Pc [.int x0] (fun U => va_P D vwCl ([] : va_W) U.heap ∧ KK D T U)) (vp_Si (fun r' => r' = r)) 0 0 (fun _ => False) := by
  refine Met.ofW (cc := cX6_codes) (maxL := 1) (ret := some .int) (by decide) rfl ?_
  intro p e s m args below meth c s₁ B hml hv
  obtain ⟨ha, hP, hKK⟩ := hv
  have hx := B.exec
  have hb := B.bytes
  have hr := B.returns
  have hts := atoms_spec (ws := wsX6_codes) B.pre
  have hown : s.vm.findClass RX6 = some m.cls := findClass_of_methodNamed B.named
  have hlocks := B.notSynchronized
  have hK := hKK.1
  have hFix : CallFix p m c cX6_codes 1 s args wsX6_codes RX6 := ⟨hx, hb, hml, hown, hts⟩
  obtain ⟨ls, hl, e0⟩ := my_entry (m := m) (n := 1) ha (Nat.le_of_ble_eq_true rfl)
  rw [e0]
  have hl : lv_has ls 1 [(0, .int x0)] := hl
  have key : ∀ Q : State → Prop, (∀ (pc : Nat) (ls : Array Slot), decode cX6_codes pc = .ok (.ireturn, 1) → W p l e ({ frames := 0, cells := 0, slots := 0, locals := 0 } : Room) s m args below meth c s.heap [] 0 0 Q (F0 m pc ls [.int r])) → W p l e ({ frames := 0, cells := 0, slots := 0, locals := 0 } : Room) s m args below meth c s.heap [] 0 0 Q (F0 m 0 ls []) := by
    intro Q hret
    unfold fX6_codes at h
    refine lv_iconst (v := (1 : Int32)) hx hb dX6_codes_0 (by decide) ?_
    refine lv_iconst (v := (2 : Int32)) hx hb dX6_codes_1 (by decide) ?_
    refine lv_iload_n hx hb dX6_codes_2 rfl (lv_at hl 0 rfl) ?_
    refine lv_imul hx hb dX6_codes_3 ?_
    refine lv_ishl hx hb dX6_codes_4 ?_
    cases h
    exact hret _ _ dX6_codes_5
  exact key _ (fun pc ls hd => W.iret hx hb hr (fun t ht hW => ⟨_, rfl, rfl, ht⟩) (fun q h => by cases h) hd)
set_option maxHeartbeats 4000000 in
set_option maxRecDepth 100000 in
theorem kX6_fallen (l : Launch) (D : va_G) (T : Nat → ClassId) (F : Nat) (am : Nat → Nat) (mguests : Int32) (mclause : Int32) (mdeeds : Int32) (masked : Int32) (mupper : Int64) (mlower : Int64) (mfinding : Int32) (mreadGuests : Int32) (misSight : Int32) (mat : Int32) (mrowSizes : Nat → Int32) (mrows : Nat → Int32) (mtextSizes : Nat → Int32) (mtexts : Nat → Int32) (mdoes : Nat → Int32) (mkinds : Nat → Int32) (msees : Nat → Int32) (mnow : Nat → Int32) (mbefore : Nat → Int32) (mkeeps : Nat → Int32) (mkept : Nat → Int32) (mfindings : Nat → Int32) (mread : Nat → Int32) (maside : Nat → Int32) (msteps : Nat → Int32) (mtried : Nat → Int32) (mbest : Nat → Int32) (x1 : Int32) (x2 : Int32) (r : Int32) (zmaside : Nat → Int32) (h : fX6_fallen F mguests mclause mdoes mkinds msees mnow maside x1 x2 = some (r, zmaside)) : ∀ sz : Nat, Met l yX6_fallen wsX6_fallen ({ frames := 4, cells := 0, slots := 0, locals := 93 } : Room) (va_Pc [.ref (am 0), .int x1, .int x2] (fun U => U.heap.size = sz ∧ va_P D vwCl (wMo T am mguests mclause mdeeds masked mupper mlower mfinding mreadGuests misSight mat mrowSizes mrows mtextSizes mtexts mdoes mkinds msees mnow mbefore mkeeps mkept mfindings mread maside msteps mtried mbest) U.heap ∧ KK D T U ∧ va_D (fun _ => True) (wMo T am mguests mclause mdeeds masked mupper mlower mfinding mreadGuests misSight mat mrowSizes mrows mtextSizes mtexts mdoes mkinds msees mnow mbefore mkeeps mkept mfindings mread maside msteps mtried mbest))) (va_Qi (fun r' (_ : Unit) => r' = r) (fun _ t => va_P D vwCl (wMo T am mguests mclause mdeeds masked mupper mlower mfinding mreadGuests misSight mat mrowSizes mrows mtextSizes mtexts mdoes mkinds msees mnow mbefore mkeeps mkept mfindings mread zmaside msteps mtried mbest) t.heap ∧ va_D (va_A (wMo T am mguests mclause mdeeds masked mupper mlower mfinding mreadGuests misSight mat mrowSizes mrows mtextSizes mtexts mdoes mkinds msees mnow mbefore mkeeps mkept mfindings mread maside msteps mtried mbest) sz) (wMo T am mguests mclause mdeeds masked mupper mlower mfinding mreadGuests misSight mat mrowSizes mrows mtextSizes mtexts mdoes mkinds msees mnow mbefore mkeeps mkept mfindings mread zmaside msteps mtried mbest)) (va_A (wMo T am mguests mclause mdeeds masked mupper mlower mfinding mreadGuests misSight mat mrowSizes mrows mtextSizes mtexts mdoes mkinds msees mnow mbefore mkeeps mkept mfindings mread maside msteps mtried mbest) sz)) 0 0 (va_A (wMo T am mguests mclause mdeeds masked mupper mlower mfinding mreadGuests misSight mat mrowSizes mrows mtextSizes mtexts mdoes mkinds msees mnow mbefore mkeeps mkept mfindings mread maside msteps mtried mbest) sz) := by
  intro sz
  refine Met.ofW (cc := cX6_fallen) (maxL := 5) (ret := some .int) (by decide) rfl ?_
  intro p e s m args below meth c s₁ B hml hv
  obtain ⟨ha, hsz, hP, hKK, hD0⟩ := hv
  have hx := B.exec
  have hb := B.bytes
  have hr := B.returns
  have hts := atoms_spec (ws := wsX6_fallen) B.pre
  have hown : s.vm.findClass RX6 = some m.cls := findClass_of_methodNamed B.named
  have hlocks := B.notSynchronized
  have hK := hKK.1
  have hFix : CallFix p m c cX6_fallen 5 s args wsX6_fallen RX6 := ⟨hx, hb, hml, hown, hts⟩
  have q1 := hts _ (List.mem_of_getElem? (i := 1) (show wsX6_fallen[1]? = some (Cond.fieldLink RX6 54 "PartyWillModel" "aside" "[I") from rfl))
  have q2 := hts _ (List.mem_of_getElem? (i := 2) (show wsX6_fallen[2]? = some (Cond.fieldLink RX6 31 "PartyWillModel" "now" "[I") from rfl))
  have iX6 : ∀ w ∈ u_ws RX6 TX6 27, w ∈ wsX6_fallen := fun w h => List.mem_cons_of_mem _ (List.mem_append_right _ (h))
  subst hsz
  have hD := hD0.self (sz := s.heap.size)
  generalize hAe : va_A (wMo T am mguests mclause mdeeds masked mupper mlower mfinding mreadGuests misSight mat mrowSizes mrows mtextSizes mtexts mdoes mkinds msees mnow mbefore mkeeps mkept mfindings mread maside msteps mtried mbest) s.heap.size = A at hD ⊢
  have hA : ∀ q : Nat, s.heap.size ≤ q → A q := fun q h => by rw [← hAe]; exact Or.inr h
  have hS : va_S A s.heap s.heap [] := va_S.rf
  have hP : va_P D vwCl (wMo T am mguests mclause mdeeds masked mupper mlower mfinding mreadGuests misSight mat mrowSizes mrows mtextSizes mtexts mdoes mkinds msees mnow mbefore mkeeps mkept mfindings mread maside msteps mtried mbest) s.heap := hP
  obtain ⟨ls, hl, e0⟩ := my_entry (m := m) (n := 5) ha (Nat.le_of_ble_eq_true rfl)
  rw [e0]
  have hl : lv_has ls 5 [(0, .ref (am 0)), (1, .int x1), (2, .int x2)] := hl
  have key : ∀ Q : State → Prop, (∀ (H : Heap) (locs : List Loc) (pc : Nat) (ls : Array Slot), va_P D vwCl (wMo T am mguests mclause mdeeds masked mupper mlower mfinding mreadGuests misSight mat mrowSizes mrows mtextSizes mtexts mdoes mkinds msees mnow mbefore mkeeps mkept mfindings mread zmaside msteps mtried mbest) H → va_D A (wMo T am mguests mclause mdeeds masked mupper mlower mfinding mreadGuests misSight mat mrowSizes mrows mtextSizes mtexts mdoes mkinds msees mnow mbefore mkeeps mkept mfindings mread zmaside msteps mtried mbest) → va_S A s.heap H locs → decode cX6_fallen pc = .ok (.ireturn, 1) → W p l e ({ frames := 4, cells := 0, slots := 0, locals := 93 } : Room) s m args below meth c H locs 0 0 Q (F0 m pc ls [.int r])) → W p l e ({ frames := 4, cells := 0, slots := 0, locals := 93 } : Room) s m args below meth c s.heap [] 0 0 Q (F0 m 0 ls []) := by
    intro Q hret
    skip
    have l8 : ∀ x2 : Int32, ∀ nu : Nat, ∀ x3 : Int32, ∀ maside : Nat → Int32, fX6_fallen_l8 F mguests mclause mdoes mkinds msees mnow x2 nu x3 maside = some (r, zmaside) → ∀ (H : Heap) (locs : List Loc), va_P D vwCl (wMo T am mguests mclause mdeeds masked mupper mlower mfinding mreadGuests misSight mat mrowSizes mrows mtextSizes mtexts mdoes mkinds msees mnow mbefore mkeeps mkept mfindings mread maside msteps mtried mbest) H → va_D A (wMo T am mguests mclause mdeeds masked mupper mlower mfinding mreadGuests misSight mat mrowSizes mrows mtextSizes mtexts mdoes mkinds msees mnow mbefore mkeeps mkept mfindings mread maside msteps mtried mbest) → va_S A s.heap H locs → ∀ (ls : Array Slot), lv_has ls 5 [(0, .ref (am 0)), (2, .int x2), (3, .int x3)] → W p l e ({ frames := 4, cells := 0, slots := 0, locals := 93 } : Room) s m args below meth c H locs 0 0 Q (F0 m 8 ls []) := by
      intro x2
      intro nu
      induction nu with
      | zero => intro x3 maside h; exact none_some h
      | succ nu8 ih8 =>
        intro x3 maside h H locs hP hD hS ls hl
        have h : fX6_fallen_l8_b F mguests mclause mdoes mkinds msees mnow x2 (fX6_fallen_l8 F mguests mclause mdoes mkinds msees mnow x2 nu8) x3 maside = some (r, zmaside) := h
        unfold fX6_fallen_l8_b at h
        refine lv_iload_n hx hb dX6_fallen_8 rfl (lv_at hl 2 rfl) ?_
        refine lv_if_lt (tgt := 35) hx hb dX6_fallen_9 (by decide) (fun c9 => ?_) (fun c9 => ?_)
        · have h := br_1 h c9
          refine lv_aload_n hx hb dX6_fallen_35 rfl (lv_at hl 0 rfl) ?_
          refine va_get (D := D) (ci := 4) (C := RX6) (T := TX6) (N := 27) hx hb hts iX6 hown hK hP 0 wMo_0 rfl 23 (by decide) q1 (fun _ h9 => h9) rfl dX6_fallen_36 ?_
          refine lv_bipush (v := (6 : Int32)) hx hb dX6_fallen_39 (by decide) ?_
          refine va_iald hx hb hK hP 14 0 wMo_14 rfl (show ¬ ((6 : Int32) < 0 ∨ 7 ≤ (6 : Int32).toNatClampNeg) by decide) dX6_fallen_41 ?_
          refine lv_aload_n hx hb dX6_fallen_42 rfl (lv_at hl 0 rfl) ?_
          refine va_get (D := D) (ci := 4) (C := RX6) (T := TX6) (N := 27) hx hb hts iX6 hown hK hP 0 wMo_0 rfl 9 (by decide) q2 (fun _ h9 => h9) rfl dX6_fallen_43 ?_
          refine lv_bipush (v := (6 : Int32)) hx hb dX6_fallen_46 (by decide) ?_
          refine va_iald hx hb hK hP 8 0 wMo_8 rfl (show ¬ ((6 : Int32) < 0 ∨ 7 ≤ (6 : Int32).toNatClampNeg) by decide) dX6_fallen_48 ?_
          refine lv_iconst (v := (-1 : Int32)) hx hb dX6_fallen_49 (by decide) ?_
          refine lv_ixor hx hb dX6_fallen_50 ?_
          refine lv_iand hx hb dX6_fallen_51 ?_
          obtain ⟨r52, hc, h⟩ := bd1_some h
          refine my_roi (va_Run.run (va_runS (As := [.int ((maside (6 : Int32).toNatClampNeg) &&& ((mnow (6 : Int32).toNatClampNeg) ^^^ (-1 : Int32)))]) (rest := []) hFix (kX6_bits l D T F ((maside (6 : Int32).toNatClampNeg) &&& ((mnow (6 : Int32).toNatClampNeg) ^^^ (-1 : Int32))) r52 hc) (va_cwS 1 hts gX6_fallen_X6_bits rfl rfl rfl hd_X6_bits ⟨Nat.le_of_ble_eq_true rfl, Nat.le_of_ble_eq_true rfl⟩) (preS_ro va_nil hKK) rfl rfl hl.1 rfl (lv_room (Nat.le_of_ble_eq_true rfl)) dX6_fallen_52 ⟨Nat.zero_le _, Nat.zero_le _⟩)) ?_
          cases h
          exact hret _ _ _ _ hP hD hS dX6_fallen_55
        · have h := br_0 h c9
          refine lv_aload_n hx hb dX6_fallen_12 rfl (lv_at hl 0 rfl) ?_
          refine lv_aload_n hx hb dX6_fallen_13 rfl (lv_at hl 0 rfl) ?_
          refine va_get (D := D) (ci := 4) (C := RX6) (T := TX6) (N := 27) hx hb hts iX6 hown hK hP 0 wMo_0 rfl 23 (by decide) q1 (fun _ h9 => h9) rfl dX6_fallen_14 ?_
          refine lv_iload_n hx hb dX6_fallen_17 rfl (lv_at hl 1 rfl) ?_
          refine lv_iconst (v := (2 : Int32)) hx hb dX6_fallen_18 (by decide) ?_
          refine lv_iload_n hx hb dX6_fallen_19 rfl (lv_at hl 2 rfl) ?_
          refine lv_imul hx hb dX6_fallen_20 ?_
          refine lv_ishr hx hb dX6_fallen_21 ?_
          refine lv_iconst (v := (3 : Int32)) hx hb dX6_fallen_22 (by decide) ?_
          refine lv_iand hx hb dX6_fallen_23 ?_
          obtain ⟨r24, w24_tt, hc, h⟩ := bd2_some h
          have hPc : va_P D vwCl (wMp T am (am 14) mguests mclause mdeeds masked mupper mlower mfinding mreadGuests misSight mat mdoes mkinds msees maside) _ := my_subP sb_wMo_wMp_0_5_6_7_14 hP
          have hDc := hD.sub [0, 5, 6, 7, 14] (by decide) sb_wMo_wMp_0_5_6_7_14
          have hFc := va_free hD hS hA [0, 5, 6, 7, 14] sb_wMo_wMp_0_5_6_7_14
          refine my_rwi (va_runV (As := [.ref (am 14), .int ((x2 >>> (((2 : Int32) * x3) &&& 31)) &&& (3 : Int32))]) (rest := []) hFix (kX6_plays l D T F am (am 14) mguests mclause mdeeds masked mupper mlower mfinding mreadGuests misSight mat mdoes mkinds msees maside ((x2 >>> (((2 : Int32) * x3) &&& 31)) &&& (3 : Int32)) r24 w24_tt hc _) (cwV 2 hts gX6_fallen_X6_plays rfl rfl rfl ⟨rfl, hd_X6_plays⟩ ⟨Nat.le_of_ble_eq_true rfl, Nat.le_of_ble_eq_true rfl⟩) (preV_rw hPc hKK hDc (va_recv hK hP (ci := 4) (q0 := 0) rfl wMo_0)) rfl rfl hl.1 rfl (lv_room (Nat.le_of_ble_eq_true rfl)) dX6_fallen_24 ⟨Nat.zero_le _, Nat.zero_le _⟩) hS hFc (fun H1 locs hP1 hD1 hz1 hkk hS => ?_)
          obtain ⟨hP, hD⟩ := my_joinS hP hD (by decide) sb_wMo_wMp_0_5_6_7_14 (by rfl) hkk hFc hP1 hD1
          rw [st_wMo_wMp_0_5_6_7_14_plays] at hP hD
          generalize H1 = H at hP hS ⊢
          refine lv_istore (lv' := [(4, .int r24), (0, .ref (am 0)), (2, .int x2), (3, .int x3)]) hx hb dX6_fallen_27 hl (by decide) rfl (fun ls hl => ?_)
          refine lv_iinc (v := (x3 + (-1 : Int32))) (lv' := [(3, .int (x3 + (-1 : Int32))), (4, .int r24), (0, .ref (am 0)), (2, .int x2)]) hx hb dX6_fallen_29 hl (k := 3) rfl rfl (by decide) rfl (fun ls hl => ?_)
          refine lv_goto (tgt := 8) hx hb dX6_fallen_32 (by decide) ?_
          exact ih8 (x3 + (-1 : Int32)) w24_tt h _ _ hP hD hS _ (lv_sub hl [2, 3, 0] rfl)
    unfold fX6_fallen at h
    refine lv_aload_n hx hb dX6_fallen_0 rfl (lv_at hl 0 rfl) ?_
    obtain ⟨w1_maside, hc, h⟩ := bd1_some h
    have hFc := my_freeS hD hS hA
    refine my_rwv (va_runV (As := []) (rest := []) hFix (kX6_layAside l D T F am mguests mclause mdeeds masked mupper mlower mfinding mreadGuests misSight mat mrowSizes mrows mtextSizes mtexts mdoes mkinds msees mnow mbefore mkeeps mkept mfindings mread maside msteps mtried mbest w1_maside hc _) (cwV 0 hts gX6_fallen_X6_layAside rfl rfl rfl ⟨rfl, hd_X6_layAside⟩ ⟨Nat.le_of_ble_eq_true rfl, Nat.le_of_ble_eq_true rfl⟩) (preV_rw hP hKK hD (va_recv hK hP (ci := 4) (q0 := 0) rfl wMo_0)) rfl rfl hl.1 rfl (lv_room (Nat.le_of_ble_eq_true rfl)) dX6_fallen_1 ⟨Nat.zero_le _, Nat.zero_le _⟩) hS hFc (fun H1 locs hP1 hD1 hz1 hkk hS => ?_)
    have hP : va_P D vwCl (wMo T am mguests mclause mdeeds masked mupper mlower mfinding mreadGuests misSight mat mrowSizes mrows mtextSizes mtexts mdoes mkinds msees mnow mbefore mkeeps mkept mfindings mread w1_maside msteps mtried mbest) H1 := hP1
    have hD : va_D A (wMo T am mguests mclause mdeeds masked mupper mlower mfinding mreadGuests misSight mat mrowSizes mrows mtextSizes mtexts mdoes mkinds msees mnow mbefore mkeeps mkept mfindings mread w1_maside msteps mtried mbest) := hD1.weaken (fun _ q _ h => hFc q.1 h)
    generalize H1 = H at hP hS ⊢
    refine lv_iload_n hx hb dX6_fallen_4 rfl (lv_at hl 1 rfl) ?_
    refine lv_iconst (v := (1 : Int32)) hx hb dX6_fallen_5 (by decide) ?_
    refine lv_isub hx hb dX6_fallen_6 ?_
    refine lv_istore_n (lv' := [(3, .int (x1 - (1 : Int32))), (0, .ref (am 0)), (1, .int x1), (2, .int x2)]) hx hb dX6_fallen_7 rfl hl (by decide) rfl (fun ls hl => ?_)
    exact l8 x2 F (x1 - (1 : Int32)) w1_maside h _ _ hP hD hS _ (lv_sub hl [1, 3, 0] rfl)
  exact key _ (fun H locs pc ls hP hD hS hd => W.iret hx hb hr (fun t ht hW => ⟨⟨_, (), rfl, rfl, by show _ ∧ _; rw [ht]; exact ⟨hP, hD⟩⟩, hS.F ht⟩) hS.2.2 hd)
set_option maxHeartbeats 4000000 in
set_option maxRecDepth 100000 in
theorem kX6_isLength (l : Launch) (D : va_G) (T : Nat → ClassId) (F : Nat) (x0 : Int32) (r : Int32) (h : fX6_isLength F x0 = some (r)) : Met l yX6_isLength wsX6_isLength ({ frames := 1, cells := 0, slots := 0, locals := 25 } : Room) (va_Pc [.int x0] (fun U => va_P D vwCl ([] : va_W) U.heap ∧ KK D T U)) (vp_Si (fun r' => r' = r ∧ b01 r)) 0 0 (fun _ => False) := by
  refine Met.ofW (cc := cX6_isLength) (maxL := 1) (ret := some .boolean) (by decide) rfl ?_
  intro p e s m args below meth c s₁ B hml hv
  obtain ⟨ha, hP, hKK⟩ := hv
  have hx := B.exec
  have hb := B.bytes
  have hr := B.returns
  have hts := atoms_spec (ws := wsX6_isLength) B.pre
  have hown : s.vm.findClass RX6 = some m.cls := findClass_of_methodNamed B.named
  have hlocks := B.notSynchronized
  have hK := hKK.1
  have hFix : CallFix p m c cX6_isLength 1 s args wsX6_isLength RX6 := ⟨hx, hb, hml, hown, hts⟩
  have q1 := hts _ (List.mem_of_getElem? (i := 1) (show wsX6_isLength[1]? = some (Cond.constantLong RX6 219 (6)) from rfl))
  obtain ⟨ls, hl, e0⟩ := my_entry (m := m) (n := 1) ha (Nat.le_of_ble_eq_true rfl)
  rw [e0]
  have hl : lv_has ls 1 [(0, .int x0)] := hl
  have key : ∀ Q : State → Prop, (∀ (pc : Nat) (ls : Array Slot), decode cX6_isLength pc = .ok (.ireturn, 1) → b01 r → W p l e ({ frames := 1, cells := 0, slots := 0, locals := 25 } : Room) s m args below meth c s.heap [] 0 0 Q (F0 m pc ls [.int r])) → W p l e ({ frames := 1, cells := 0, slots := 0, locals := 25 } : Room) s m args below meth c s.heap [] 0 0 Q (F0 m 0 ls []) := by
    intro Q hret
    unfold fX6_isLength at h
    refine lv_iload_n hx hb dX6_isLength_0 rfl (lv_at hl 0 rfl) ?_
    refine lv_i2l (v := (x0.toInt64)) hx hb dX6_isLength_1 rfl ?_
    refine lv_lconst (v := (0 : Int64)) hx hb dX6_isLength_2 (by decide) ?_
    refine lv_ldc2 (v := (6 : Int64)) hx hb hown q1 dX6_isLength_3 ?_
    obtain ⟨r6, hc, h⟩ := bd1_some h
    refine my_roz (va_Run.run (va_runS (As := [.long (x0.toInt64), .long (0 : Int64), .long (6 : Int64)]) (rest := []) hFix (kX6_in l D T F (x0.toInt64) (0 : Int64) (6 : Int64) r6 hc) (va_cwS 3 hts gX6_isLength_X6_in rfl rfl rfl hd_X6_in ⟨Nat.le_of_ble_eq_true rfl, Nat.le_of_ble_eq_true rfl⟩) (preS_ro hP hKK) rfl rfl hl.1 rfl (lv_room (Nat.le_of_ble_eq_true rfl)) dX6_isLength_6 ⟨Nat.zero_le _, Nat.zero_le _⟩)) (fun hb6 => ?_)
    cases h
    exact hret _ _ dX6_isLength_9 hb6
  exact key _ (fun pc ls hd hb1 => W.zret hx hb hr (b01_n hb1) (fun t ht hW => ⟨_, rfl, ⟨rfl, hb1⟩, ht⟩) (fun q h => by cases h) hd)
set_option maxHeartbeats 4000000 in
set_option maxRecDepth 100000 in
theorem kX6_stay (l : Launch) (D : va_G) (T : Nat → ClassId) (F : Nat) (am : Nat → Nat) (mguests : Int32) (mclause : Int32) (mdeeds : Int32) (masked : Int32) (mupper : Int64) (mlower : Int64) (mfinding : Int32) (mreadGuests : Int32) (misSight : Int32) (mat : Int32) (mrowSizes : Nat → Int32) (mrows : Nat → Int32) (mtextSizes : Nat → Int32) (mtexts : Nat → Int32) (mdoes : Nat → Int32) (mkinds : Nat → Int32) (msees : Nat → Int32) (mnow : Nat → Int32) (mbefore : Nat → Int32) (mkeeps : Nat → Int32) (mkept : Nat → Int32) (mfindings : Nat → Int32) (mread : Nat → Int32) (maside : Nat → Int32) (msteps : Nat → Int32) (mtried : Nat → Int32) (mbest : Nat → Int32) (x1 : Int32) (r : Int32) (zmasked : Int32) (zmupper : Int64) (zmlower : Int64) (zmaside : Nat → Int32) (h : fX6_stay F mguests mclause masked mupper mlower mdoes mkinds msees mnow maside x1 = some (r, zmasked, zmupper, zmlower, zmaside)) : ∀ sz : Nat, Met l yX6_stay wsX6_stay ({ frames := 5, cells := 0, slots := 0, locals := 117 } : Room) (va_Pc [.ref (am 0), .int x1] (fun U => U.heap.size = sz ∧ va_P D vwCl (wMo T am mguests mclause mdeeds masked mupper mlower mfinding mreadGuests misSight mat mrowSizes mrows mtextSizes mtexts mdoes mkinds msees mnow mbefore mkeeps mkept mfindings mread maside msteps mtried mbest) U.heap ∧ KK D T U ∧ va_D (fun _ => True) (wMo T am mguests mclause mdeeds masked mupper mlower mfinding mreadGuests misSight mat mrowSizes mrows mtextSizes mtexts mdoes mkinds msees mnow mbefore mkeeps mkept mfindings mread maside msteps mtried mbest))) (va_Qi (fun r' (_ : Unit) => r' = r) (fun _ t => va_P D vwCl (wMo T am mguests mclause mdeeds zmasked zmupper zmlower mfinding mreadGuests misSight mat mrowSizes mrows mtextSizes mtexts mdoes mkinds msees mnow mbefore mkeeps mkept mfindings mread zmaside msteps mtried mbest) t.heap ∧ va_D (va_A (wMo T am mguests mclause mdeeds masked mupper mlower mfinding mreadGuests misSight mat mrowSizes mrows mtextSizes mtexts mdoes mkinds msees mnow mbefore mkeeps mkept mfindings mread maside msteps mtried mbest) sz) (wMo T am mguests mclause mdeeds zmasked zmupper zmlower mfinding mreadGuests misSight mat mrowSizes mrows mtextSizes mtexts mdoes mkinds msees mnow mbefore mkeeps mkept mfindings mread zmaside msteps mtried mbest)) (va_A (wMo T am mguests mclause mdeeds masked mupper mlower mfinding mreadGuests misSight mat mrowSizes mrows mtextSizes mtexts mdoes mkinds msees mnow mbefore mkeeps mkept mfindings mread maside msteps mtried mbest) sz)) 0 0 (va_A (wMo T am mguests mclause mdeeds masked mupper mlower mfinding mreadGuests misSight mat mrowSizes mrows mtextSizes mtexts mdoes mkinds msees mnow mbefore mkeeps mkept mfindings mread maside msteps mtried mbest) sz) := by
  intro sz
  refine Met.ofW (cc := cX6_stay) (maxL := 5) (ret := some .int) (by decide) rfl ?_
  intro p e s m args below meth c s₁ B hml hv
  obtain ⟨ha, hsz, hP, hKK, hD0⟩ := hv
  have hx := B.exec
  have hb := B.bytes
  have hr := B.returns
  have hts := atoms_spec (ws := wsX6_stay) B.pre
  have hown : s.vm.findClass RX6 = some m.cls := findClass_of_methodNamed B.named
  have hlocks := B.notSynchronized
  have hK := hKK.1
  have hFix : CallFix p m c cX6_stay 5 s args wsX6_stay RX6 := ⟨hx, hb, hml, hown, hts⟩
  have q1 := hts _ (List.mem_of_getElem? (i := 1) (show wsX6_stay[1]? = some (Cond.fieldLink RX6 131 "PartyWillModel" "guests" "I") from rfl))
  have q2 := hts _ (List.mem_of_getElem? (i := 2) (show wsX6_stay[2]? = some (Cond.fieldLink RX6 230 "PartyWillModel" "upper" "J") from rfl))
  have q3 := hts _ (List.mem_of_getElem? (i := 3) (show wsX6_stay[3]? = some (Cond.fieldLink RX6 44 "PartyWillModel" "lower" "J") from rfl))
  have iX6 : ∀ w ∈ u_ws RX6 TX6 27, w ∈ wsX6_stay := fun w h => List.mem_cons_of_mem _ (List.mem_append_right _ (h))
  subst hsz
  have hD := hD0.self (sz := s.heap.size)
  generalize hAe : va_A (wMo T am mguests mclause mdeeds masked mupper mlower mfinding mreadGuests misSight mat mrowSizes mrows mtextSizes mtexts mdoes mkinds msees mnow mbefore mkeeps mkept mfindings mread maside msteps mtried mbest) s.heap.size = A at hD ⊢
  have hA : ∀ q : Nat, s.heap.size ≤ q → A q := fun q h => by rw [← hAe]; exact Or.inr h
  have hS : va_S A s.heap s.heap [] := va_S.rf
  have hP : va_P D vwCl (wMo T am mguests mclause mdeeds masked mupper mlower mfinding mreadGuests misSight mat mrowSizes mrows mtextSizes mtexts mdoes mkinds msees mnow mbefore mkeeps mkept mfindings mread maside msteps mtried mbest) s.heap := hP
  obtain ⟨ls, hl, e0⟩ := my_entry (m := m) (n := 5) ha (Nat.le_of_ble_eq_true rfl)
  rw [e0]
  have hl : lv_has ls 5 [(0, .ref (am 0)), (1, .int x1)] := hl
  have key : ∀ Q : State → Prop, (∀ (H : Heap) (locs : List Loc) (pc : Nat) (ls : Array Slot), va_P D vwCl (wMo T am mguests mclause mdeeds zmasked zmupper zmlower mfinding mreadGuests misSight mat mrowSizes mrows mtextSizes mtexts mdoes mkinds msees mnow mbefore mkeeps mkept mfindings mread zmaside msteps mtried mbest) H → va_D A (wMo T am mguests mclause mdeeds zmasked zmupper zmlower mfinding mreadGuests misSight mat mrowSizes mrows mtextSizes mtexts mdoes mkinds msees mnow mbefore mkeeps mkept mfindings mread zmaside msteps mtried mbest) → va_S A s.heap H locs → decode cX6_stay pc = .ok (.ireturn, 1) → W p l e ({ frames := 5, cells := 0, slots := 0, locals := 117 } : Room) s m args below meth c H locs 0 0 Q (F0 m pc ls [.int r])) → W p l e ({ frames := 5, cells := 0, slots := 0, locals := 117 } : Room) s m args below meth c s.heap [] 0 0 Q (F0 m 0 ls []) := by
    intro Q hret
    skip
    have l26 : ∀ x1 : Int32, ∀ masked : Int32, ∀ mupper : Int64, ∀ mlower : Int64, ∀ nu : Nat, ∀ x2 : Int32, ∀ x3 : Int32, ∀ x4 : Int32, ∀ maside : Nat → Int32, fX6_stay_l26 F mguests mclause mdoes mkinds msees mnow x1 masked mupper mlower nu x2 x3 x4 maside = some (r, zmasked, zmupper, zmlower, zmaside) → ∀ (H : Heap) (locs : List Loc), va_P D vwCl (wMo T am mguests mclause mdeeds masked mupper mlower mfinding mreadGuests misSight mat mrowSizes mrows mtextSizes mtexts mdoes mkinds msees mnow mbefore mkeeps mkept mfindings mread maside msteps mtried mbest) H → va_D A (wMo T am mguests mclause mdeeds masked mupper mlower mfinding mreadGuests misSight mat mrowSizes mrows mtextSizes mtexts mdoes mkinds msees mnow mbefore mkeeps mkept mfindings mread maside msteps mtried mbest) → va_S A s.heap H locs → ∀ (ls : Array Slot), lv_has ls 5 [(0, .ref (am 0)), (1, .int x1), (2, .int x2), (3, .int x3), (4, .int x4)] → W p l e ({ frames := 5, cells := 0, slots := 0, locals := 117 } : Room) s m args below meth c H locs 0 0 Q (F0 m 26 ls []) := by
      intro x1 masked mupper mlower
      intro nu
      induction nu with
      | zero => intro x2 x3 x4 maside h; exact none_some h
      | succ nu26 ih26 =>
        intro x2 x3 x4 maside h H locs hP hD hS ls hl
        have h : fX6_stay_l26_b F mguests mclause mdoes mkinds msees mnow x1 masked mupper mlower (fX6_stay_l26 F mguests mclause mdoes mkinds msees mnow x1 masked mupper mlower nu26) x2 x3 x4 maside = some (r, zmasked, zmupper, zmlower, zmaside) := h
        unfold fX6_stay_l26_b at h
        refine lv_iload hx hb dX6_stay_26 (lv_at hl 4 rfl) ?_
        refine lv_iload_n hx hb dX6_stay_28 rfl (lv_at hl 1 rfl) ?_
        obtain ⟨r29, hc, h⟩ := bd1_some h
        refine my_roi (va_Run.run (va_runS (As := [.int x1]) (rest := [.int x4]) hFix (kX6_codes l D T F x1 r29 hc) (va_cwS 1 hts gX6_stay_X6_codes rfl rfl rfl hd_X6_codes ⟨Nat.le_of_ble_eq_true rfl, Nat.le_of_ble_eq_true rfl⟩) (preS_ro va_nil hKK) rfl rfl hl.1 rfl (lv_room (Nat.le_of_ble_eq_true rfl)) dX6_stay_29 ⟨Nat.zero_le _, Nat.zero_le _⟩)) ?_
        refine lv_icmp_ge (tgt := 75) hx hb dX6_stay_32 (by decide) (fun c32 => ?_) (fun c32 => ?_)
        · have h := br_1 h c32
          refine lv_aload_n hx hb dX6_stay_75 rfl (lv_at hl 0 rfl) ?_
          refine lv_iload_n hx hb dX6_stay_76 rfl (lv_at hl 2 rfl) ?_
          refine lv_i2l (v := (x2.toInt64)) hx hb dX6_stay_77 rfl ?_
          refine va_put (D := D) (ci := 4) (v := .long (x2.toInt64)) (ty := .long) (C := RX6) (T := TX6) (N := 27) hx hb hts iX6 tyX6 tyX6_ok nmX6 hown hK hP hD hS 0 wMo_0 rfl 15 (by decide) q2 (fun _ h9 => h9) rfl (by decide +kernel) rfl rfl (Nat.le_of_ble_eq_true rfl) dX6_stay_78 (fun H locs hP hD hS => ?_)
          have hP : va_P D vwCl (wMo T am mguests mclause mdeeds masked (x2.toInt64) mlower mfinding mreadGuests misSight mat mrowSizes mrows mtextSizes mtexts mdoes mkinds msees mnow mbefore mkeeps mkept mfindings mread maside msteps mtried mbest) H := hP
          have hD : va_D A (wMo T am mguests mclause mdeeds masked (x2.toInt64) mlower mfinding mreadGuests misSight mat mrowSizes mrows mtextSizes mtexts mdoes mkinds msees mnow mbefore mkeeps mkept mfindings mread maside msteps mtried mbest) := hD
          refine lv_aload_n hx hb dX6_stay_81 rfl (lv_at hl 0 rfl) ?_
          refine lv_lconst (v := (1 : Int64)) hx hb dX6_stay_82 (by decide) ?_
          refine va_put (D := D) (ci := 4) (v := .long (1 : Int64)) (ty := .long) (C := RX6) (T := TX6) (N := 27) hx hb hts iX6 tyX6 tyX6_ok nmX6 hown hK hP hD hS 0 wMo_0 rfl 16 (by decide) q3 (fun _ h9 => h9) rfl (by decide +kernel) rfl rfl (Nat.le_of_ble_eq_true rfl) dX6_stay_83 (fun H locs hP hD hS => ?_)
          have hP : va_P D vwCl (wMo T am mguests mclause mdeeds masked (x2.toInt64) (1 : Int64) mfinding mreadGuests misSight mat mrowSizes mrows mtextSizes mtexts mdoes mkinds msees mnow mbefore mkeeps mkept mfindings mread maside msteps mtried mbest) H := hP
          have hD : va_D A (wMo T am mguests mclause mdeeds masked (x2.toInt64) (1 : Int64) mfinding mreadGuests misSight mat mrowSizes mrows mtextSizes mtexts mdoes mkinds msees mnow mbefore mkeeps mkept mfindings mread maside msteps mtried mbest) := hD
          refine lv_aload_n hx hb dX6_stay_86 rfl (lv_at hl 0 rfl) ?_
          refine lv_iload_n hx hb dX6_stay_87 rfl (lv_at hl 3 rfl) ?_
          obtain ⟨r88, w88_masked, hc, h⟩ := bd2_some h
          have hFc := my_freeS hD hS hA
          refine my_rwi (va_runV (As := [.int x3]) (rest := []) hFix (kX6_tell l D T F am mguests mclause mdeeds masked (x2.toInt64) (1 : Int64) mfinding mreadGuests misSight mat mrowSizes mrows mtextSizes mtexts mdoes mkinds msees mnow mbefore mkeeps mkept mfindings mread maside msteps mtried mbest x3 r88 w88_masked hc _) (cwV 1 hts gX6_stay_X6_tell rfl rfl rfl ⟨rfl, hd_X6_tell⟩ ⟨Nat.le_of_ble_eq_true rfl, Nat.le_of_ble_eq_true rfl⟩) (preV_rw hP hKK hD (va_recv hK hP (ci := 4) (q0 := 0) rfl wMo_0)) rfl rfl hl.1 rfl (lv_room (Nat.le_of_ble_eq_true rfl)) dX6_stay_88 ⟨Nat.zero_le _, Nat.zero_le _⟩) hS hFc (fun H1 locs hP1 hD1 hz1 hkk hS => ?_)
          have hP : va_P D vwCl (wMo T am mguests mclause mdeeds w88_masked (x2.toInt64) (1 : Int64) mfinding mreadGuests misSight mat mrowSizes mrows mtextSizes mtexts mdoes mkinds msees mnow mbefore mkeeps mkept mfindings mread maside msteps mtried mbest) H1 := hP1
          have hD : va_D A (wMo T am mguests mclause mdeeds w88_masked (x2.toInt64) (1 : Int64) mfinding mreadGuests misSight mat mrowSizes mrows mtextSizes mtexts mdoes mkinds msees mnow mbefore mkeeps mkept mfindings mread maside msteps mtried mbest) := hD1.weaken (fun _ q _ h => hFc q.1 h)
          generalize H1 = H at hP hS ⊢
          cases h
          exact hret _ _ _ _ hP hD hS dX6_stay_91
        · have h := br_0 h c32
          refine lv_aload_n hx hb dX6_stay_35 rfl (lv_at hl 0 rfl) ?_
          refine lv_iload_n hx hb dX6_stay_36 rfl (lv_at hl 1 rfl) ?_
          refine lv_iload hx hb dX6_stay_37 (lv_at hl 4 rfl) ?_
          obtain ⟨r39, w39_maside, hc, h⟩ := bd2_some h
          have hFc := my_freeS hD hS hA
          refine my_rwi (va_runV (As := [.int x1, .int x4]) (rest := []) hFix (kX6_fallen l D T F am mguests mclause mdeeds masked mupper mlower mfinding mreadGuests misSight mat mrowSizes mrows mtextSizes mtexts mdoes mkinds msees mnow mbefore mkeeps mkept mfindings mread maside msteps mtried mbest x1 x4 r39 w39_maside hc _) (cwV 2 hts gX6_stay_X6_fallen rfl rfl rfl ⟨rfl, hd_X6_fallen⟩ ⟨Nat.le_of_ble_eq_true rfl, Nat.le_of_ble_eq_true rfl⟩) (preV_rw hP hKK hD (va_recv hK hP (ci := 4) (q0 := 0) rfl wMo_0)) rfl rfl hl.1 rfl (lv_room (Nat.le_of_ble_eq_true rfl)) dX6_stay_39 ⟨Nat.zero_le _, Nat.zero_le _⟩) hS hFc (fun H1 locs hP1 hD1 hz1 hkk hS => ?_)
          have hP : va_P D vwCl (wMo T am mguests mclause mdeeds masked mupper mlower mfinding mreadGuests misSight mat mrowSizes mrows mtextSizes mtexts mdoes mkinds msees mnow mbefore mkeeps mkept mfindings mread w39_maside msteps mtried mbest) H1 := hP1
          have hD : va_D A (wMo T am mguests mclause mdeeds masked mupper mlower mfinding mreadGuests misSight mat mrowSizes mrows mtextSizes mtexts mdoes mkinds msees mnow mbefore mkeeps mkept mfindings mread w39_maside msteps mtried mbest) := hD1.weaken (fun _ q _ h => hFc q.1 h)
          generalize H1 = H at hP hS ⊢
          refine lv_if_ne (tgt := 69) hx hb dX6_stay_42 (by decide) (fun c42 => ?_) (fun c42 => ?_)
          · have h := br_0 h c42
            refine lv_iinc (v := (x4 + (1 : Int32))) (lv' := [(4, .int (x4 + (1 : Int32))), (0, .ref (am 0)), (1, .int x1), (2, .int x2), (3, .int x3)]) hx hb dX6_stay_69 hl (k := 4) rfl rfl (by decide) rfl (fun ls hl => ?_)
            refine lv_goto (tgt := 26) hx hb dX6_stay_72 (by decide) ?_
            exact ih26 x2 x3 (x4 + (1 : Int32)) w39_maside h _ _ hP hD hS _ (lv_sub hl [1, 2, 3, 4, 0] rfl)
          · have h := br_1 h c42
            refine lv_iinc (v := (x2 + (1 : Int32))) (lv' := [(2, .int (x2 + (1 : Int32))), (0, .ref (am 0)), (1, .int x1), (3, .int x3), (4, .int x4)]) hx hb dX6_stay_45 hl (k := 2) rfl rfl (by decide) rfl (fun ls hl => ?_)
            refine lv_iload_n hx hb dX6_stay_48 rfl (lv_at hl 3 rfl) ?_
            refine lv_iload_n hx hb dX6_stay_49 rfl (lv_at hl 2 rfl) ?_
            refine lv_if_le (tgt := 66) hx hb dX6_stay_50 (by decide) (fun c50 => ?_) (fun c50 => ?_)
            · have h := br_1 h c50
              refine lv_iconst (v := (0 : Int32)) hx hb dX6_stay_66 (by decide) ?_
              refine lv_ior hx hb dX6_stay_67 ?_
              refine lv_istore_n (lv' := [(3, .int (x3 ||| (0 : Int32))), (2, .int (x2 + (1 : Int32))), (0, .ref (am 0)), (1, .int x1), (4, .int x4)]) hx hb dX6_stay_68 rfl hl (by decide) rfl (fun ls hl => ?_)
              refine lv_iinc (v := (x4 + (1 : Int32))) (lv' := [(4, .int (x4 + (1 : Int32))), (3, .int (x3 ||| (0 : Int32))), (2, .int (x2 + (1 : Int32))), (0, .ref (am 0)), (1, .int x1)]) hx hb dX6_stay_69 hl (k := 4) rfl rfl (by decide) rfl (fun ls hl => ?_)
              refine lv_goto (tgt := 26) hx hb dX6_stay_72 (by decide) ?_
              exact ih26 (x2 + (1 : Int32)) (x3 ||| (0 : Int32)) (x4 + (1 : Int32)) w39_maside h _ _ hP hD hS _ (lv_sub hl [3, 4, 2, 1, 0] rfl)
            · have h := br_0 h c50
              refine lv_iconst (v := (1 : Int32)) hx hb dX6_stay_53 (by decide) ?_
              refine lv_iload hx hb dX6_stay_54 (lv_at hl 4 rfl) ?_
              refine lv_iconst (v := (2 : Int32)) hx hb dX6_stay_56 (by decide) ?_
              refine lv_iload_n hx hb dX6_stay_57 rfl (lv_at hl 2 rfl) ?_
              refine lv_imul hx hb dX6_stay_58 ?_
              refine lv_iconst (v := (2 : Int32)) hx hb dX6_stay_59 (by decide) ?_
              refine lv_isub hx hb dX6_stay_60 ?_
              refine lv_ishr hx hb dX6_stay_61 ?_
              refine lv_ishl hx hb dX6_stay_62 ?_
              refine lv_goto (tgt := 67) hx hb dX6_stay_63 (by decide) ?_
              refine lv_ior hx hb dX6_stay_67 ?_
              refine lv_istore_n (lv' := [(3, .int (x3 ||| ((1 : Int32) <<< ((x4 >>> ((((2 : Int32) * x1) - (2 : Int32)) &&& 31)) &&& 31)))), (2, .int (x2 + (1 : Int32))), (0, .ref (am 0)), (1, .int x1), (4, .int x4)]) hx hb dX6_stay_68 rfl hl (by decide) rfl (fun ls hl => ?_)
              refine lv_iinc (v := (x4 + (1 : Int32))) (lv' := [(4, .int (x4 + (1 : Int32))), (3, .int (x3 ||| ((1 : Int32) <<< ((x4 >>> ((((2 : Int32) * x1) - (2 : Int32)) &&& 31)) &&& 31)))), (2, .int (x2 + (1 : Int32))), (0, .ref (am 0)), (1, .int x1)]) hx hb dX6_stay_69 hl (k := 4) rfl rfl (by decide) rfl (fun ls hl => ?_)
              refine lv_goto (tgt := 26) hx hb dX6_stay_72 (by decide) ?_
              exact ih26 (x2 + (1 : Int32)) (x3 ||| ((1 : Int32) <<< ((x4 >>> ((((2 : Int32) * x1) - (2 : Int32)) &&& 31)) &&& 31))) (x4 + (1 : Int32)) w39_maside h _ _ hP hD hS _ (lv_sub hl [3, 4, 2, 1, 0] rfl)
    unfold fX6_stay at h
    refine lv_iload_n hx hb dX6_stay_0 rfl (lv_at hl 1 rfl) ?_
    obtain ⟨r1, hc, h⟩ := bd1_some h
    refine my_roz (va_Run.run (va_runS (As := [.int x1]) (rest := []) hFix (kX6_isLength l D T F x1 r1 hc) (va_cwS 1 hts gX6_stay_X6_isLength rfl rfl rfl hd_X6_isLength ⟨Nat.le_of_ble_eq_true rfl, Nat.le_of_ble_eq_true rfl⟩) (preS_ro va_nil hKK) rfl rfl hl.1 rfl (lv_room (Nat.le_of_ble_eq_true rfl)) dX6_stay_1 ⟨Nat.zero_le _, Nat.zero_le _⟩)) (fun hb1 => ?_)
    refine lv_if_ne (tgt := 9) hx hb dX6_stay_4 (by decide) (fun c4 => ?_) (fun c4 => ?_)
    · have h := br_0 h c4
      refine lv_aload_n hx hb dX6_stay_9 rfl (lv_at hl 0 rfl) ?_
      refine va_get (D := D) (ci := 4) (C := RX6) (T := TX6) (N := 27) hx hb hts iX6 hown hK hP 0 wMo_0 rfl 4 (by decide) q1 (fun _ h9 => h9) rfl dX6_stay_10 ?_
      refine lv_if_ne (tgt := 19) hx hb dX6_stay_13 (by decide) (fun c13 => ?_) (fun c13 => ?_)
      · have h := br_0 h c13
        refine lv_iconst (v := (0 : Int32)) hx hb dX6_stay_19 (by decide) ?_
        refine lv_istore_n (lv' := [(2, .int (0 : Int32)), (0, .ref (am 0)), (1, .int x1)]) hx hb dX6_stay_20 rfl hl (by decide) rfl (fun ls hl => ?_)
        refine lv_iconst (v := (0 : Int32)) hx hb dX6_stay_21 (by decide) ?_
        refine lv_istore_n (lv' := [(3, .int (0 : Int32)), (2, .int (0 : Int32)), (0, .ref (am 0)), (1, .int x1)]) hx hb dX6_stay_22 rfl hl (by decide) rfl (fun ls hl => ?_)
        refine lv_iconst (v := (0 : Int32)) hx hb dX6_stay_23 (by decide) ?_
        refine lv_istore (lv' := [(4, .int (0 : Int32)), (3, .int (0 : Int32)), (2, .int (0 : Int32)), (0, .ref (am 0)), (1, .int x1)]) hx hb dX6_stay_24 hl (by decide) rfl (fun ls hl => ?_)
        exact l26 x1 masked mupper mlower F (0 : Int32) (0 : Int32) (0 : Int32) maside h _ _ hP hD hS _ (lv_sub hl [3, 4, 2, 1, 0] rfl)
      · have h := br_1 h c13
        refine lv_bipush (v := (-4 : Int32)) hx hb dX6_stay_16 (by decide) ?_
        cases h
        exact hret _ _ _ _ hP hD hS dX6_stay_18
    · have h := br_1 h c4
      refine lv_iconst (v := (-1 : Int32)) hx hb dX6_stay_7 (by decide) ?_
      cases h
      exact hret _ _ _ _ hP hD hS dX6_stay_8
  exact key _ (fun H locs pc ls hP hD hS hd => W.iret hx hb hr (fun t ht hW => ⟨⟨_, (), rfl, rfl, by show _ ∧ _; rw [ht]; exact ⟨hP, hD⟩⟩, hS.F ht⟩) hS.2.2 hd)
