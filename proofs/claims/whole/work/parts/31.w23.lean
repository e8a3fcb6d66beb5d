set_option maxHeartbeats 4000000 in
set_option maxRecDepth 100000 in
theorem kX6_looks (l : Launch) (D : va_G) (T : Nat → ClassId) (F : Nat) (am : Nat → Nat) (b0 : Nat) (mguests : Int32) (mclause : Int32) (mdeeds : Int32) (masked : Int32) (mupper : Int64) (mlower : Int64) (mfinding : Int32) (mreadGuests : Int32) (misSight : Int32) (mat : Int32) (mkinds : Nat → Int32) (msees : Nat → Int32) (tt : Nat → Int32) (r : Int32) (ztt : Nat → Int32) (h : fX6_looks F mguests mclause mkinds msees tt = some (r, ztt)) : ∀ sz : Nat, Met l yX6_looks wsX6_looks ({ frames := 2, cells := 0, slots := 0, locals := 45 } : Room) (va_Pc [.ref (am 0), .ref b0] (fun U => U.heap.size = sz ∧ va_P D vwCl (wMl T am b0 mguests mclause mdeeds masked mupper mlower mfinding mreadGuests misSight mat mkinds msees tt) U.heap ∧ KK D T U ∧ va_D (fun _ => True) (wMl T am b0 mguests mclause mdeeds masked mupper mlower mfinding mreadGuests misSight mat mkinds msees tt))) (va_Qi (fun r' (_ : Unit) => r' = r) (fun _ t => va_P D vwCl (wMl T am b0 mguests mclause mdeeds masked mupper mlower mfinding mreadGuests misSight mat mkinds msees ztt) t.heap ∧ va_D (va_A (wMl T am b0 mguests mclause mdeeds masked mupper mlower mfinding mreadGuests misSight mat mkinds msees tt) sz) (wMl T am b0 mguests mclause mdeeds masked mupper mlower mfinding mreadGuests misSight mat mkinds msees ztt)) (va_A (wMl T am b0 mguests mclause mdeeds masked mupper mlower mfinding mreadGuests misSight mat mkinds msees tt) sz)) 0 0 (va_A (wMl T am b0 mguests mclause mdeeds masked mupper mlower mfinding mreadGuests misSight mat mkinds msees tt) sz) := by
  intro sz
  refine Met.ofW (cc := cX6_looks) (maxL := 6) (ret := some .int) (by decide) rfl ?_
  intro p e s m args below meth c s₁ B hml hv
  obtain ⟨ha, hsz, hP, hKK, hD0⟩ := hv
  have hx := B.exec
  have hb := B.bytes
  have hr := B.returns
  have hts := atoms_spec (ws := wsX6_looks) B.pre
  have hown : s.vm.findClass RX6 = some m.cls := findClass_of_methodNamed B.named
  have hlocks := B.notSynchronized
  have hK := hKK.1
  have hFix : CallFix p m c cX6_looks 6 s args wsX6_looks RX6 := ⟨hx, hb, hml, hown, hts⟩
  have q1 := hts _ (List.mem_of_getElem? (i := 1) (show wsX6_looks[1]? = some (Cond.fieldLink RX6 131 "PartyWillModel" "guests" "I") from rfl))
  have q2 := hts _ (List.mem_of_getElem? (i := 2) (show wsX6_looks[2]? = some (Cond.fieldLink RX6 134 "PartyWillModel" "clause" "I") from rfl))
  have q3 := hts _ (List.mem_of_getElem? (i := 3) (show wsX6_looks[3]? = some (Cond.fieldLink RX6 25 "PartyWillModel" "kinds" "[I") from rfl))
  have iX6 : ∀ w ∈ u_ws RX6 TX6 27, w ∈ wsX6_looks := fun w h => List.mem_cons_of_mem _ (List.mem_append_right _ (h))
  subst hsz
  have hD := hD0.self (sz := s.heap.size)
  generalize hAe : va_A (wMl T am b0 mguests mclause mdeeds masked mupper mlower mfinding mreadGuests misSight mat mkinds msees tt) s.heap.size = A at hD ⊢
  have hA : ∀ q : Nat, s.heap.size ≤ q → A q := fun q h => by rw [← hAe]; exact Or.inr h
  have hS : va_S A s.heap s.heap [] := va_S.rf
  have hP : va_P D vwCl (wMl T am b0 mguests mclause mdeeds masked mupper mlower mfinding mreadGuests misSight mat mkinds msees tt) s.heap := hP
  obtain ⟨ls, hl, e0⟩ := my_entry (m := m) (n := 6) ha (Nat.le_of_ble_eq_true rfl)
  rw [e0]
  have hl : lv_has ls 6 [(0, .ref (am 0)), (1, .ref b0)] := hl
  have key : ∀ Q : State → Prop, (∀ (H : Heap) (locs : List Loc) (pc : Nat) (ls : Array Slot), va_P D vwCl (wMl T am b0 mguests mclause mdeeds masked mupper mlower mfinding mreadGuests misSight mat mkinds msees ztt) H → va_D A (wMl T am b0 mguests mclause mdeeds masked mupper mlower mfinding mreadGuests misSight mat mkinds msees ztt) → va_S A s.heap H locs → decode cX6_looks pc = .ok (.ireturn, 1) → W p l e ({ frames := 2, cells := 0, slots := 0, locals := 45 } : Room) s m args below meth c H locs 0 0 Q (F0 m pc ls [.int r])) → W p l e ({ frames := 2, cells := 0, slots := 0, locals := 45 } : Room) s m args below meth c s.heap [] 0 0 Q (F0 m 0 ls []) := by
    intro Q hret
    skip
    have l93 : ∀ x3 : Int32, ∀ nu : Nat, ∀ x4 : Int32, ∀ tt : Nat → Int32, fX6_looks_l93 F mguests mclause mkinds msees x3 nu x4 tt = some (r, ztt) → ∀ (H : Heap) (locs : List Loc), va_P D vwCl (wMl T am b0 mguests mclause mdeeds masked mupper mlower mfinding mreadGuests misSight mat mkinds msees tt) H → va_D A (wMl T am b0 mguests mclause mdeeds masked mupper mlower mfinding mreadGuests misSight mat mkinds msees tt) → va_S A s.heap H locs → ∀ (ls : Array Slot), lv_has ls 6 [(0, .ref (am 0)), (1, .ref b0), (3, .int x3), (4, .int x4)] → W p l e ({ frames := 2, cells := 0, slots := 0, locals := 45 } : Room) s m args below meth c H locs 0 0 Q (F0 m 93 ls []) := by
      intro x3
      intro nu
      induction nu with
      | zero => intro x4 tt h; exact none_some h
      | succ nu93 ih93 =>
        intro x4 tt h H locs hP hD hS ls hl
        have h : fX6_looks_l93_b F mguests mclause mkinds msees x3 (fX6_looks_l93 F mguests mclause mkinds msees x3 nu93) x4 tt = some (r, ztt) := h
        unfold fX6_looks_l93_b at h
        refine lv_iload hx hb dX6_looks_93 (lv_at hl 3 rfl) ?_
        refine lv_aload_n hx hb dX6_looks_95 rfl (lv_at hl 0 rfl) ?_
        refine va_get (D := D) (ci := 4) (C := RX6) (T := TX6) (N := 27) hx hb hts iX6 hown hK hP 0 wMl_0 rfl 4 (by decide) q1 (fun _ h9 => h9) rfl dX6_looks_96 ?_
        refine lv_icmp_ge (tgt := 129) hx hb dX6_looks_99 (by decide) (fun c99 => ?_) (fun c99 => ?_)
        · have h := br_1 h c99
          refine lv_aload_n hx hb dX6_looks_129 rfl (lv_at hl 1 rfl) ?_
          refine lv_bipush (v := (6 : Int32)) hx hb dX6_looks_130 (by decide) ?_
          refine lv_dup2_11 hx hb dX6_looks_132 rfl rfl ?_
          refine va_iald hx hb hK hP 3 0 wMl_3 rfl (show ¬ ((6 : Int32) < 0 ∨ 7 ≤ (6 : Int32).toNatClampNeg) by decide) dX6_looks_133 ?_
          refine lv_iload_n hx hb dX6_looks_134 rfl (lv_at hl 2 rfl) ?_
          refine lv_ior hx hb dX6_looks_135 ?_
          refine va_iast hx hb hK hP hD hS 3 0 wMl_3 rfl (show ¬ ((6 : Int32) < 0 ∨ 7 ≤ (6 : Int32).toNatClampNeg) by decide) dX6_looks_136 (fun H locs hP hD hS => ?_)
          have hP : va_P D vwCl (wMl T am b0 mguests mclause mdeeds masked mupper mlower mfinding mreadGuests misSight mat mkinds msees (upd tt (6 : Int32).toNatClampNeg ((tt (6 : Int32).toNatClampNeg) ||| x3))) H := hP
          have hD : va_D A (wMl T am b0 mguests mclause mdeeds masked mupper mlower mfinding mreadGuests misSight mat mkinds msees (upd tt (6 : Int32).toNatClampNeg ((tt (6 : Int32).toNatClampNeg) ||| x3))) := hD
          refine lv_iload_n hx hb dX6_looks_137 rfl (lv_at hl 2 rfl) ?_
          cases h
          exact hret _ _ _ _ hP hD hS dX6_looks_138
        · have h := br_0 h c99
          refine lv_aload_n hx hb dX6_looks_102 rfl (lv_at hl 1 rfl) ?_
          refine lv_iload hx hb dX6_looks_103 (lv_at hl 3 rfl) ?_
          refine lv_iload_n hx hb dX6_looks_105 rfl (lv_at hl 2 rfl) ?_
          refine lv_iload hx hb dX6_looks_106 (lv_at hl 3 rfl) ?_
          obtain ⟨r108, hc, h⟩ := bd1_some h
          refine my_roz (va_Run.run (va_runS (As := [.int x3, .int x4]) (rest := [.int x4, .ref b0]) hFix (kX6_has l D T F x3 x4 r108 hc) (va_cwS 2 hts gX6_looks_X6_has rfl rfl rfl hd_X6_has ⟨Nat.le_of_ble_eq_true rfl, Nat.le_of_ble_eq_true rfl⟩) (preS_ro va_nil hKK) rfl rfl hl.1 rfl (lv_room (Nat.le_of_ble_eq_true rfl)) dX6_looks_108 ⟨Nat.zero_le _, Nat.zero_le _⟩)) (fun hb108 => ?_)
          refine lv_if_eq (tgt := 118) hx hb dX6_looks_111 (by decide) (fun c111 => ?_) (fun c111 => ?_)
          · have h := br_1 h c111
            refine lv_aload_n hx hb dX6_looks_118 rfl (lv_at hl 1 rfl) ?_
            refine lv_iload hx hb dX6_looks_119 (lv_at hl 3 rfl) ?_
            obtain ⟨hin1, h⟩ := ck_some h
            refine va_iald hx hb hK hP 3 0 wMl_3 rfl hin1 dX6_looks_121 ?_
            obtain ⟨hin2, h⟩ := ck_some h
            refine va_iast hx hb hK hP hD hS 3 0 wMl_3 rfl hin2 dX6_looks_122 (fun H locs hP hD hS => ?_)
            have hP : va_P D vwCl (wMl T am b0 mguests mclause mdeeds masked mupper mlower mfinding mreadGuests misSight mat mkinds msees (upd tt x4.toNatClampNeg (tt x4.toNatClampNeg))) H := hP
            have hD : va_D A (wMl T am b0 mguests mclause mdeeds masked mupper mlower mfinding mreadGuests misSight mat mkinds msees (upd tt x4.toNatClampNeg (tt x4.toNatClampNeg))) := hD
            refine lv_iinc (v := (x4 + (1 : Int32))) (lv' := [(4, .int (x4 + (1 : Int32))), (0, .ref (am 0)), (1, .ref b0), (3, .int x3)]) hx hb dX6_looks_123 hl (k := 3) rfl rfl (by decide) rfl (fun ls hl => ?_)
            refine lv_goto (tgt := 93) hx hb dX6_looks_126 (by decide) ?_
            exact ih93 (x4 + (1 : Int32)) (upd tt x4.toNatClampNeg (tt x4.toNatClampNeg)) h _ _ hP hD hS _ (lv_sub hl [1, 2, 3, 0] rfl)
          · have h := br_0 h c111
            refine lv_iconst (v := (0 : Int32)) hx hb dX6_looks_114 (by decide) ?_
            refine lv_goto (tgt := 122) hx hb dX6_looks_115 (by decide) ?_
            obtain ⟨hin3, h⟩ := ck_some h
            refine va_iast hx hb hK hP hD hS 3 0 wMl_3 rfl hin3 dX6_looks_122 (fun H locs hP hD hS => ?_)
            have hP : va_P D vwCl (wMl T am b0 mguests mclause mdeeds masked mupper mlower mfinding mreadGuests misSight mat mkinds msees (upd tt x4.toNatClampNeg (0 : Int32))) H := hP
            have hD : va_D A (wMl T am b0 mguests mclause mdeeds masked mupper mlower mfinding mreadGuests misSight mat mkinds msees (upd tt x4.toNatClampNeg (0 : Int32))) := hD
            refine lv_iinc (v := (x4 + (1 : Int32))) (lv' := [(4, .int (x4 + (1 : Int32))), (0, .ref (am 0)), (1, .ref b0), (3, .int x3)]) hx hb dX6_looks_123 hl (k := 3) rfl rfl (by decide) rfl (fun ls hl => ?_)
            refine lv_goto (tgt := 93) hx hb dX6_looks_126 (by decide) ?_
            exact ih93 (x4 + (1 : Int32)) (upd tt x4.toNatClampNeg (0 : Int32)) h _ _ hP hD hS _ (lv_sub hl [1, 2, 3, 0] rfl)
    have l11 : ∀ x2 : Int32, ∀ tt : Nat → Int32, ∀ nu : Nat, ∀ x3 : Int32, ∀ x4 : Int32, fX6_looks_l11 F mguests mclause mkinds msees x2 tt nu x3 x4 = some (r, ztt) → ∀ (H : Heap) (locs : List Loc), va_P D vwCl (wMl T am b0 mguests mclause mdeeds masked mupper mlower mfinding mreadGuests misSight mat mkinds msees tt) H → va_D A (wMl T am b0 mguests mclause mdeeds masked mupper mlower mfinding mreadGuests misSight mat mkinds msees tt) → va_S A s.heap H locs → ∀ (ls : Array Slot), lv_has ls 6 [(0, .ref (am 0)), (1, .ref b0), (2, .int x2), (3, .int x3), (4, .int x4)] → W p l e ({ frames := 2, cells := 0, slots := 0, locals := 45 } : Room) s m args below meth c H locs 0 0 Q (F0 m 11 ls []) := by
      intro x2 tt
      intro nu
      induction nu with
      | zero => intro x3 x4 h; exact none_some h
      | succ nu11 ih11 =>
        intro x3 x4 h H locs hP hD hS ls hl
        have n66 : ∀ s_0 : Int32, ∀ x3 : Int32, ∀ x4 : Int32, fX6_looks_n66 F (fX6_looks_l11 F mguests mclause mkinds msees x2 tt nu11) mguests mclause mkinds msees s_0 x2 x3 x4 tt = some (r, ztt) → ∀ (H : Heap) (locs : List Loc), va_P D vwCl (wMl T am b0 mguests mclause mdeeds masked mupper mlower mfinding mreadGuests misSight mat mkinds msees tt) H → va_D A (wMl T am b0 mguests mclause mdeeds masked mupper mlower mfinding mreadGuests misSight mat mkinds msees tt) → va_S A s.heap H locs → ∀ (ls : Array Slot), lv_has ls 6 [(0, .ref (am 0)), (1, .ref b0), (2, .int x2), (3, .int x3), (4, .int x4)] → W p l e ({ frames := 2, cells := 0, slots := 0, locals := 45 } : Room) s m args below meth c H locs 0 0 Q (F0 m 66 ls [.int s_0]) := by
          intro s_0 x3 x4 h H locs hP hD hS ls hl
          unfold fX6_looks_n66 at h
          refine lv_istore (lv' := [(5, .int s_0), (0, .ref (am 0)), (1, .ref b0), (2, .int x2), (3, .int x3), (4, .int x4)]) hx hb dX6_looks_66 hl (by decide) rfl (fun ls hl => ?_)
          refine lv_iload_n hx hb dX6_looks_68 rfl (lv_at hl 4 rfl) ?_
          refine lv_iload hx hb dX6_looks_69 (lv_at hl 0 rfl) ?_
          refine lv_if_eq (tgt := 81) hx hb dX6_looks_71 (by decide) (fun c71 => ?_) (fun c71 => ?_)
          · have h := br_1 h c71
            refine lv_iconst (v := (0 : Int32)) hx hb dX6_looks_81 (by decide) ?_
            refine lv_ior hx hb dX6_looks_82 ?_
            refine lv_istore_n (lv' := [(3, .int (x3 ||| (0 : Int32))), (5, .int s_0), (0, .ref (am 0)), (1, .ref b0), (2, .int x2), (4, .int x4)]) hx hb dX6_looks_83 rfl hl (by decide) rfl (fun ls hl => ?_)
            refine lv_iinc (v := (x4 + (1 : Int32))) (lv' := [(4, .int (x4 + (1 : Int32))), (3, .int (x3 ||| (0 : Int32))), (5, .int s_0), (0, .ref (am 0)), (1, .ref b0), (2, .int x2)]) hx hb dX6_looks_84 hl (k := 5) rfl rfl (by decide) rfl (fun ls hl => ?_)
            refine lv_goto (tgt := 11) hx hb dX6_looks_87 (by decide) ?_
            exact ih11 (x3 ||| (0 : Int32)) (x4 + (1 : Int32)) h _ _ hP hD hS _ (lv_sub hl [3, 4, 5, 1, 0] rfl)
          · have h := br_0 h c71
            refine lv_iconst (v := (1 : Int32)) hx hb dX6_looks_74 (by decide) ?_
            refine lv_iload hx hb dX6_looks_75 (lv_at hl 5 rfl) ?_
            refine lv_ishl hx hb dX6_looks_77 ?_
            refine lv_goto (tgt := 82) hx hb dX6_looks_78 (by decide) ?_
            refine lv_ior hx hb dX6_looks_82 ?_
            refine lv_istore_n (lv' := [(3, .int (x3 ||| ((1 : Int32) <<< (x4 &&& 31)))), (5, .int s_0), (0, .ref (am 0)), (1, .ref b0), (2, .int x2), (4, .int x4)]) hx hb dX6_looks_83 rfl hl (by decide) rfl (fun ls hl => ?_)
            refine lv_iinc (v := (x4 + (1 : Int32))) (lv' := [(4, .int (x4 + (1 : Int32))), (3, .int (x3 ||| ((1 : Int32) <<< (x4 &&& 31)))), (5, .int s_0), (0, .ref (am 0)), (1, .ref b0), (2, .int x2)]) hx hb dX6_looks_84 hl (k := 5) rfl rfl (by decide) rfl (fun ls hl => ?_)
            refine lv_goto (tgt := 11) hx hb dX6_looks_87 (by decide) ?_
            exact ih11 (x3 ||| ((1 : Int32) <<< (x4 &&& 31))) (x4 + (1 : Int32)) h _ _ hP hD hS _ (lv_sub hl [3, 4, 5, 1, 0] rfl)
        have h : fX6_looks_l11_b F mguests mclause mkinds msees x2 tt (fX6_looks_l11 F mguests mclause mkinds msees x2 tt nu11) x3 x4 = some (r, ztt) := h
        unfold fX6_looks_l11_b at h
        refine lv_iload hx hb dX6_looks_11 (lv_at hl 4 rfl) ?_
        refine lv_aload_n hx hb dX6_looks_13 rfl (lv_at hl 0 rfl) ?_
        refine va_get (D := D) (ci := 4) (C := RX6) (T := TX6) (N := 27) hx hb hts iX6 hown hK hP 0 wMl_0 rfl 4 (by decide) q1 (fun _ h9 => h9) rfl dX6_looks_14 ?_
        refine lv_icmp_ge (tgt := 90) hx hb dX6_looks_17 (by decide) (fun c17 => ?_) (fun c17 => ?_)
        · have h := br_1 h c17
          refine lv_iconst (v := (0 : Int32)) hx hb dX6_looks_90 (by decide) ?_
          refine lv_istore (lv' := [(4, .int (0 : Int32)), (0, .ref (am 0)), (1, .ref b0), (2, .int x2), (3, .int x3)]) hx hb dX6_looks_91 hl (by decide) rfl (fun ls hl => ?_)
          exact l93 x3 F (0 : Int32) tt h _ _ hP hD hS _ (lv_sub hl [1, 2, 4, 0] rfl)
        · have h := br_0 h c17
          refine lv_iload_n hx hb dX6_looks_20 rfl (lv_at hl 2 rfl) ?_
          refine lv_iload hx hb dX6_looks_21 (lv_at hl 4 rfl) ?_
          obtain ⟨r23, hc, h⟩ := bd1_some h
          refine my_roz (va_Run.run (va_runS (As := [.int x2, .int x4]) (rest := []) hFix (kX6_has l D T F x2 x4 r23 hc) (va_cwS 2 hts gX6_looks_X6_has rfl rfl rfl hd_X6_has ⟨Nat.le_of_ble_eq_true rfl, Nat.le_of_ble_eq_true rfl⟩) (preS_ro va_nil hKK) rfl rfl hl.1 rfl (lv_room (Nat.le_of_ble_eq_true rfl)) dX6_looks_23 ⟨Nat.zero_le _, Nat.zero_le _⟩)) (fun hb23 => ?_)
          refine lv_if_eq (tgt := 65) hx hb dX6_looks_26 (by decide) (fun c26 => ?_) (fun c26 => ?_)
          · have h := br_1 h c26
            refine lv_iconst (v := (0 : Int32)) hx hb dX6_looks_65 (by decide) ?_
            exact n66 (0 : Int32) x3 x4 h _ _ hP hD hS _ (lv_sub hl [0, 1, 2, 3, 4] rfl)
          · have h := br_0 h c26
            refine lv_aload_n hx hb dX6_looks_29 rfl (lv_at hl 1 rfl) ?_
            refine lv_iload hx hb dX6_looks_30 (lv_at hl 4 rfl) ?_
            obtain ⟨hin4, h⟩ := ck_some h
            refine va_iald hx hb hK hP 3 0 wMl_3 rfl hin4 dX6_looks_32 ?_
            refine lv_aload_n hx hb dX6_looks_33 rfl (lv_at hl 0 rfl) ?_
            refine va_get (D := D) (ci := 4) (C := RX6) (T := TX6) (N := 27) hx hb hts iX6 hown hK hP 0 wMl_0 rfl 5 (by decide) q2 (fun _ h9 => h9) rfl dX6_looks_34 ?_
            refine lv_icmp_le (tgt := 65) hx hb dX6_looks_37 (by decide) (fun c37 => ?_) (fun c37 => ?_)
            · have h := br_1 h c37
              refine lv_iconst (v := (0 : Int32)) hx hb dX6_looks_65 (by decide) ?_
              exact n66 (0 : Int32) x3 x4 h _ _ hP hD hS _ (lv_sub hl [0, 1, 2, 3, 4] rfl)
            · have h := br_0 h c37
              refine lv_aload_n hx hb dX6_looks_40 rfl (lv_at hl 0 rfl) ?_
              refine va_get (D := D) (ci := 4) (C := RX6) (T := TX6) (N := 27) hx hb hts iX6 hown hK hP 0 wMl_0 rfl 7 (by decide) q3 (fun _ h9 => h9) rfl dX6_looks_41 ?_
              refine lv_iload hx hb dX6_looks_44 (lv_at hl 4 rfl) ?_
              obtain ⟨hin5, h⟩ := ck_some h
              refine va_iald hx hb hK hP 1 0 wMl_1 rfl hin5 dX6_looks_46 ?_
              refine lv_iconst (v := (5 : Int32)) hx hb dX6_looks_47 (by decide) ?_
              refine lv_icmp_eq (tgt := 65) hx hb dX6_looks_48 (by decide) (fun c48 => ?_) (fun c48 => ?_)
              · have h := br_1 h c48
                refine lv_iconst (v := (0 : Int32)) hx hb dX6_looks_65 (by decide) ?_
                exact n66 (0 : Int32) x3 x4 h _ _ hP hD hS _ (lv_sub hl [0, 1, 2, 3, 4] rfl)
              · have h := br_0 h c48
                refine lv_aload_n hx hb dX6_looks_51 rfl (lv_at hl 0 rfl) ?_
                refine lv_iload hx hb dX6_looks_52 (lv_at hl 4 rfl) ?_
                refine lv_iload_n hx hb dX6_looks_54 rfl (lv_at hl 2 rfl) ?_
                obtain ⟨r55, hc, h⟩ := bd1_some h
                have hPc : va_P D vwCl (wMs T am mguests mclause mdeeds masked mupper mlower mfinding mreadGuests misSight mat msees) _ := my_subP sb_wMl_wMs_0_2 hP
                refine my_roz (va_Run.run (va_runV (As := [.int x4, .int x2]) (rest := []) hFix (kX6_isSeen l D T F am mguests mclause mdeeds masked mupper mlower mfinding mreadGuests misSight mat msees x4 x2 r55 hc) (cwV 2 hts gX6_looks_X6_isSeen rfl rfl rfl ⟨rfl, hd_X6_isSeen⟩ ⟨Nat.le_of_ble_eq_true rfl, Nat.le_of_ble_eq_true rfl⟩) (preV_ro hPc hKK (va_recv hK hP (ci := 4) (q0 := 0) rfl wMl_0)) rfl rfl hl.1 rfl (lv_room (Nat.le_of_ble_eq_true rfl)) dX6_looks_55 ⟨Nat.zero_le _, Nat.zero_le _⟩)) (fun hb55 => ?_)
                refine lv_if_eq (tgt := 65) hx hb dX6_looks_58 (by decide) (fun c58 => ?_) (fun c58 => ?_)
                · have h := br_1 h c58
                  refine lv_iconst (v := (0 : Int32)) hx hb dX6_looks_65 (by decide) ?_
                  exact n66 (0 : Int32) x3 x4 h _ _ hP hD hS _ (lv_sub hl [0, 1, 2, 3, 4] rfl)
                · have h := br_0 h c58
                  refine lv_iconst (v := (1 : Int32)) hx hb dX6_looks_61 (by decide) ?_
                  refine lv_goto (tgt := 66) hx hb dX6_looks_62 (by decide) ?_
                  exact n66 (1 : Int32) x3 x4 h _ _ hP hD hS _ (lv_sub hl [0, 1, 2, 3, 4] rfl)
    unfold fX6_looks at h
    refine lv_aload_n hx hb dX6_looks_0 rfl (lv_at hl 0 rfl) ?_
    refine lv_aload_n hx hb dX6_looks_1 rfl (lv_at hl 1 rfl) ?_
    obtain ⟨r2, hc, h⟩ := bd1_some h
    have hPc : va_P D vwCl (wMi T am b0 mguests mclause mdeeds masked mupper mlower mfinding mreadGuests misSight mat tt) _ := my_subP sb_wMl_wMi_0_3 hP
    refine my_roi (va_Run.run (va_runV (As := [.ref b0]) (rest := []) hFix (kX6_inside l D T F am b0 mguests mclause mdeeds masked mupper mlower mfinding mreadGuests misSight mat tt r2 hc) (cwV 1 hts gX6_looks_X6_inside rfl rfl rfl ⟨rfl, hd_X6_inside⟩ ⟨Nat.le_of_ble_eq_true rfl, Nat.le_of_ble_eq_true rfl⟩) (preV_ro hPc hKK (va_recv hK hP (ci := 4) (q0 := 0) rfl wMl_0)) rfl rfl hl.1 rfl (lv_room (Nat.le_of_ble_eq_true rfl)) dX6_looks_2 ⟨Nat.zero_le _, Nat.zero_le _⟩)) ?_
    refine lv_istore_n (lv' := [(2, .int r2), (0, .ref (am 0)), (1, .ref b0)]) hx hb dX6_looks_5 rfl hl (by decide) rfl (fun ls hl => ?_)
    refine lv_iconst (v := (0 : Int32)) hx hb dX6_looks_6 (by decide) ?_
    refine lv_istore_n (lv' := [(3, .int (0 : Int32)), (2, .int r2), (0, .ref (am 0)), (1, .ref b0)]) hx hb dX6_looks_7 rfl hl (by decide) rfl (fun ls hl => ?_)
    refine lv_iconst (v := (0 : Int32)) hx hb dX6_looks_8 (by decide) ?_
    refine lv_istore (lv' := [(4, .int (0 : Int32)), (3, .int (0 : Int32)), (2, .int r2), (0, .ref (am 0)), (1, .ref b0)]) hx hb dX6_looks_9 hl (by decide) rfl (fun ls hl => ?_)
    exact l11 r2 tt F (0 : Int32) (0 : Int32) h _ _ hP hD hS _ (lv_sub hl [3, 4, 2, 1, 0] rfl)
  exact key _ (fun H locs pc ls hP hD hS hd => W.iret hx hb hr (fun t ht hW => ⟨⟨_, (), rfl, rfl, by show _ ∧ _; rw [ht]; exact ⟨hP, hD⟩⟩, hS.F ht⟩) hS.2.2 hd)
set_option maxHeartbeats 4000000 in
set_option maxRecDepth 100000 in
theorem kX6_plays (l : Launch) (D : va_G) (T : Nat → ClassId) (F : Nat) (am : Nat → Nat) (b0 : Nat) (mguests : Int32) (mclause : Int32) (mdeeds : Int32) (masked : Int32) (mupper : Int64) (mlower : Int64) (mfinding : Int32) (mreadGuests : Int32) (misSight : Int32) (mat : Int32) (mdoes : Nat → Int32) (mkinds : Nat → Int32) (msees : Nat → Int32) (tt : Nat → Int32) (x2 : Int32) (r : Int32) (ztt : Nat → Int32) (h : fX6_plays F mguests mclause mdoes mkinds msees tt x2 = some (r, ztt)) : ∀ sz : Nat, Met l yX6_plays wsX6_plays ({ frames := 3, cells := 0, slots := 0, locals := 70 } : Room) (va_Pc [.ref (am 0), .ref b0, .int x2] (fun U => U.heap.size = sz ∧ va_P D vwCl (wMp T am b0 mguests mclause mdeeds masked mupper mlower mfinding mreadGuests misSight mat mdoes mkinds msees tt) U.heap ∧ KK D T U ∧ va_D (fun _ => True) (wMp T am b0 mguests mclause mdeeds masked mupper mlower mfinding mreadGuests misSight mat mdoes mkinds msees tt))) (va_Qi (fun r' (_ : Unit) => r' = r) (fun _ t => va_P D vwCl (wMp T am b0 mguests mclause mdeeds masked mupper mlower mfinding mreadGuests misSight mat mdoes mkinds msees ztt) t.heap ∧ va_D (va_A (wMp T am b0 mguests mclause mdeeds masked mupper mlower mfinding mreadGuests misSight mat mdoes mkinds msees tt) sz) (wMp T am b0 mguests mclause mdeeds masked mupper mlower mfinding mreadGuests misSight mat mdoes mkinds msees ztt)) (va_A (wMp T am b0 mguests mclause mdeeds masked mupper mlower mfinding mreadGuests misSight mat mdoes mkinds msees tt) sz)) 0 0 (va_A (wMp T am b0 mguests mclause mdeeds masked mupper mlower mfinding mreadGuests misSight mat mdoes mkinds msees tt) sz) := by
  intro sz
  refine Met.ofW (cc := cX6_plays) (maxL := 4) (ret := some .int) (by decide) rfl ?_
  intro p e s m args below meth c s₁ B hml hv
  obtain ⟨ha, hsz, hP, hKK, hD0⟩ := hv
  have hx := B.exec
  have hb := B.bytes
  have hr := B.returns
  have hts := atoms_spec (ws := wsX6_plays) B.pre
  have hown : s.vm.findClass RX6 = some m.cls := findClass_of_methodNamed B.named
  have hlocks := B.notSynchronized
  have hK := hKK.1
  have hFix : CallFix p m c cX6_plays 4 s args wsX6_plays RX6 := ⟨hx, hb, hml, hown, hts⟩
  have q1 := hts _ (List.mem_of_getElem? (i := 1) (show wsX6_plays[1]? = some (Cond.fieldLink RX6 131 "PartyWillModel" "guests" "I") from rfl))
  have q2 := hts _ (List.mem_of_getElem? (i := 2) (show wsX6_plays[2]? = some (Cond.fieldLink RX6 25 "PartyWillModel" "kinds" "[I") from rfl))
  have q3 := hts _ (List.mem_of_getElem? (i := 3) (show wsX6_plays[3]? = some (Cond.fieldLink RX6 22 "PartyWillModel" "does" "[I") from rfl))
  have iX6 : ∀ w ∈ u_ws RX6 TX6 27, w ∈ wsX6_plays := fun w h => List.mem_cons_of_mem _ (List.mem_append_right _ (h))
  subst hsz
  have hD := hD0.self (sz := s.heap.size)
  generalize hAe : va_A (wMp T am b0 mguests mclause mdeeds masked mupper mlower mfinding mreadGuests misSight mat mdoes mkinds msees tt) s.heap.size = A at hD ⊢
  have hA : ∀ q : Nat, s.heap.size ≤ q → A q := fun q h => by rw [← hAe]; exact Or.inr h
  have hS : va_S A s.heap s.heap [] := va_S.rf
  have hP : va_P D vwCl (wMp T am b0 mguests mclause mdeeds masked mupper mlower mfinding mreadGuests misSight mat mdoes mkinds msees tt) s.heap := hP
  obtain ⟨ls, hl, e0⟩ := my_entry (m := m) (n := 4) ha (Nat.le_of_ble_eq_true rfl)
  rw [e0]
  have hl : lv_has ls 4 [(0, .ref (am 0)), (1, .ref b0), (2, .int x2)] := hl
  have key : ∀ Q : State → Prop, (∀ (H : Heap) (locs : List Loc) (pc : Nat) (ls : Array Slot), va_P D vwCl (wMp T am b0 mguests mclause mdeeds masked mupper mlower mfinding mreadGuests misSight mat mdoes mkinds msees ztt) H → va_D A (wMp T am b0 mguests mclause mdeeds masked mupper mlower mfinding mreadGuests misSight mat mdoes mkinds msees ztt) → va_S A s.heap H locs → decode cX6_plays pc = .ok (.ireturn, 1) → W p l e ({ frames := 3, cells := 0, slots := 0, locals := 70 } : Room) s m args below meth c H locs 0 0 Q (F0 m pc ls [.int r])) → W p l e ({ frames := 3, cells := 0, slots := 0, locals := 70 } : Room) s m args below meth c s.heap [] 0 0 Q (F0 m 0 ls []) := by
    intro Q hret
    skip
    have l2 : ∀ x2 : Int32, ∀ nu : Nat, ∀ x3 : Int32, ∀ tt : Nat → Int32, fX6_plays_l2 F mguests mclause mdoes mkinds msees x2 nu x3 tt = some (r, ztt) → ∀ (H : Heap) (locs : List Loc), va_P D vwCl (wMp T am b0 mguests mclause mdeeds masked mupper mlower mfinding mreadGuests misSight mat mdoes mkinds msees tt) H → va_D A (wMp T am b0 mguests mclause mdeeds masked mupper mlower mfinding mreadGuests misSight mat mdoes mkinds msees tt) → va_S A s.heap H locs → ∀ (ls : Array Slot), lv_has ls 4 [(0, .ref (am 0)), (1, .ref b0), (2, .int x2), (3, .int x3)] → W p l e ({ frames := 3, cells := 0, slots := 0, locals := 70 } : Room) s m args below meth c H locs 0 0 Q (F0 m 2 ls []) := by
      intro x2
      intro nu
      induction nu with
      | zero => intro x3 tt h; exact none_some h
      | succ nu2 ih2 =>
        intro x3 tt h H locs hP hD hS ls hl
        have h : fX6_plays_l2_b F mguests mclause mdoes mkinds msees x2 (fX6_plays_l2 F mguests mclause mdoes mkinds msees x2 nu2) x3 tt = some (r, ztt) := h
        unfold fX6_plays_l2_b at h
        refine lv_iload_n hx hb dX6_plays_2 rfl (lv_at hl 3 rfl) ?_
        refine lv_aload_n hx hb dX6_plays_3 rfl (lv_at hl 0 rfl) ?_
        refine va_get (D := D) (ci := 4) (C := RX6) (T := TX6) (N := 27) hx hb hts iX6 hown hK hP 0 wMp_0 rfl 4 (by decide) q1 (fun _ h9 => h9) rfl dX6_plays_4 ?_
        refine lv_icmp_ge (tgt := 53) hx hb dX6_plays_7 (by decide) (fun c7 => ?_) (fun c7 => ?_)
        · have h := br_1 h c7
          refine lv_aload_n hx hb dX6_plays_53 rfl (lv_at hl 0 rfl) ?_
          refine lv_aload_n hx hb dX6_plays_54 rfl (lv_at hl 1 rfl) ?_
          obtain ⟨r55, w55_tt, hc, h⟩ := bd2_some h
          have hPc : va_P D vwCl (wMl T am b0 mguests mclause mdeeds masked mupper mlower mfinding mreadGuests misSight mat mkinds msees tt) _ := my_subP sb_wMp_wMl_0_2_3_4 hP
          have hDc := hD.sub [0, 2, 3, 4] (by decide) sb_wMp_wMl_0_2_3_4
          have hFc := va_free hD hS hA [0, 2, 3, 4] sb_wMp_wMl_0_2_3_4
          refine my_rwi (va_runV (As := [.ref b0]) (rest := []) hFix (kX6_looks l D T F am b0 mguests mclause mdeeds masked mupper mlower mfinding mreadGuests misSight mat mkinds msees tt r55 w55_tt hc _) (cwV 1 hts gX6_plays_X6_looks rfl rfl rfl ⟨rfl, hd_X6_looks⟩ ⟨Nat.le_of_ble_eq_true rfl, Nat.le_of_ble_eq_true rfl⟩) (preV_rw hPc hKK hDc (va_recv hK hP (ci := 4) (q0 := 0) rfl wMp_0)) rfl rfl hl.1 rfl (lv_room (Nat.le_of_ble_eq_true rfl)) dX6_plays_55 ⟨Nat.zero_le _, Nat.zero_le _⟩) hS hFc (fun H1 locs hP1 hD1 hz1 hkk hS => ?_)
          obtain ⟨hP, hD⟩ := my_joinS hP hD (by decide) sb_wMp_wMl_0_2_3_4 (by rfl) hkk hFc hP1 hD1
          rw [st_wMp_wMl_0_2_3_4_looks] at hP hD
          generalize H1 = H at hP hS ⊢
          cases h
          exact hret _ _ _ _ hP hD hS dX6_plays_58
        · have h := br_0 h c7
          refine lv_aload_n hx hb dX6_plays_10 rfl (lv_at hl 1 rfl) ?_
          refine lv_iload_n hx hb dX6_plays_11 rfl (lv_at hl 3 rfl) ?_
          refine lv_aload_n hx hb dX6_plays_12 rfl (lv_at hl 1 rfl) ?_
          refine lv_bipush (v := (6 : Int32)) hx hb dX6_plays_13 (by decide) ?_
          refine va_iald hx hb hK hP 4 0 wMp_4 rfl (show ¬ ((6 : Int32) < 0 ∨ 7 ≤ (6 : Int32).toNatClampNeg) by decide) dX6_plays_15 ?_
          refine lv_iload_n hx hb dX6_plays_16 rfl (lv_at hl 3 rfl) ?_
          obtain ⟨r17, hc, h⟩ := bd1_some h
          refine my_roz (va_Run.run (va_runS (As := [.int (tt (6 : Int32).toNatClampNeg), .int x3]) (rest := [.int x3, .ref b0]) hFix (kX6_has l D T F (tt (6 : Int32).toNatClampNeg) x3 r17 hc) (va_cwS 2 hts gX6_plays_X6_has rfl rfl rfl hd_X6_has ⟨Nat.le_of_ble_eq_true rfl, Nat.le_of_ble_eq_true rfl⟩) (preS_ro va_nil hKK) rfl rfl hl.1 rfl (lv_room (Nat.le_of_ble_eq_true rfl)) dX6_plays_17 ⟨Nat.zero_le _, Nat.zero_le _⟩)) (fun hb17 => ?_)
          refine lv_if_eq (tgt := 27) hx hb dX6_plays_20 (by decide) (fun c20 => ?_) (fun c20 => ?_)
          · have h := br_1 h c20
            refine lv_aload_n hx hb dX6_plays_27 rfl (lv_at hl 0 rfl) ?_
            refine va_get (D := D) (ci := 4) (C := RX6) (T := TX6) (N := 27) hx hb hts iX6 hown hK hP 0 wMp_0 rfl 7 (by decide) q2 (fun _ h9 => h9) rfl dX6_plays_28 ?_
            refine lv_iload_n hx hb dX6_plays_31 rfl (lv_at hl 3 rfl) ?_
            obtain ⟨hin1, h⟩ := ck_some h
            refine va_iald hx hb hK hP 2 0 wMp_2 rfl hin1 dX6_plays_32 ?_
            refine lv_aload_n hx hb dX6_plays_33 rfl (lv_at hl 1 rfl) ?_
            refine lv_iload_n hx hb dX6_plays_34 rfl (lv_at hl 3 rfl) ?_
            obtain ⟨hin2, h⟩ := ck_some h
            refine va_iald hx hb hK hP 4 0 wMp_4 rfl hin2 dX6_plays_35 ?_
            refine lv_iload_n hx hb dX6_plays_36 rfl (lv_at hl 2 rfl) ?_
            refine lv_aload_n hx hb dX6_plays_37 rfl (lv_at hl 0 rfl) ?_
            refine va_get (D := D) (ci := 4) (C := RX6) (T := TX6) (N := 27) hx hb hts iX6 hown hK hP 0 wMp_0 rfl 6 (by decide) q3 (fun _ h9 => h9) rfl dX6_plays_38 ?_
            refine lv_iload_n hx hb dX6_plays_41 rfl (lv_at hl 2 rfl) ?_
            obtain ⟨hin3, h⟩ := ck_some h
            refine va_iald hx hb hK hP 1 0 wMp_1 rfl hin3 dX6_plays_42 ?_
            obtain ⟨r43, hc, h⟩ := bd1_some h
            refine my_roi (va_Run.run (va_runS (As := [.int (mkinds x3.toNatClampNeg), .int (tt x3.toNatClampNeg), .int x2, .int (mdoes x2.toNatClampNeg)]) (rest := [.int x3, .ref b0]) hFix (kX6_griefBehind l D T F (mkinds x3.toNatClampNeg) (tt x3.toNatClampNeg) x2 (mdoes x2.toNatClampNeg) r43 hc) (va_cwS 4 hts gX6_plays_X6_griefBehind rfl rfl rfl hd_X6_griefBehind ⟨Nat.le_of_ble_eq_true rfl, Nat.le_of_ble_eq_true rfl⟩) (preS_ro va_nil hKK) rfl rfl hl.1 rfl (lv_room (Nat.le_of_ble_eq_true rfl)) dX6_plays_43 ⟨Nat.zero_le _, Nat.zero_le _⟩)) ?_
            obtain ⟨hin4, h⟩ := ck_some h
            refine va_iast hx hb hK hP hD hS 4 0 wMp_4 rfl hin4 dX6_plays_46 (fun H locs hP hD hS => ?_)
            have hP : va_P D vwCl (wMp T am b0 mguests mclause mdeeds masked mupper mlower mfinding mreadGuests misSight mat mdoes mkinds msees (upd tt x3.toNatClampNeg r43)) H := hP
            have hD : va_D A (wMp T am b0 mguests mclause mdeeds masked mupper mlower mfinding mreadGuests misSight mat mdoes mkinds msees (upd tt x3.toNatClampNeg r43)) := hD
            refine lv_iinc (v := (x3 + (1 : Int32))) (lv' := [(3, .int (x3 + (1 : Int32))), (0, .ref (am 0)), (1, .ref b0), (2, .int x2)]) hx hb dX6_plays_47 hl (k := 3) rfl rfl (by decide) rfl (fun ls hl => ?_)
            refine lv_goto (tgt := 2) hx hb dX6_plays_50 (by decide) ?_
            exact ih2 (x3 + (1 : Int32)) (upd tt x3.toNatClampNeg r43) h _ _ hP hD hS _ (lv_sub hl [1, 2, 3, 0] rfl)
          · have h := br_0 h c20
            refine lv_iconst (v := (0 : Int32)) hx hb dX6_plays_23 (by decide) ?_
            refine lv_goto (tgt := 46) hx hb dX6_plays_24 (by decide) ?_
            obtain ⟨hin5, h⟩ := ck_some h
            refine va_iast hx hb hK hP hD hS 4 0 wMp_4 rfl hin5 dX6_plays_46 (fun H locs hP hD hS => ?_)
            have hP : va_P D vwCl (wMp T am b0 mguests mclause mdeeds masked mupper mlower mfinding mreadGuests misSight mat mdoes mkinds msees (upd tt x3.toNatClampNeg (0 : Int32))) H := hP
            have hD : va_D A (wMp T am b0 mguests mclause mdeeds masked mupper mlower mfinding mreadGuests misSight mat mdoes mkinds msees (upd tt x3.toNatClampNeg (0 : Int32))) := hD
            refine lv_iinc (v := (x3 + (1 : Int32))) (lv' := [(3, .int (x3 + (1 : Int32))), (0, .ref (am 0)), (1, .ref b0), (2, .int x2)]) hx hb dX6_plays_47 hl (k := 3) rfl rfl (by decide) rfl (fun ls hl => ?_)
            refine lv_goto (tgt := 2) hx hb dX6_plays_50 (by decide) ?_
            exact ih2 (x3 + (1 : Int32)) (upd tt x3.toNatClampNeg (0 : Int32)) h _ _ hP hD hS _ (lv_sub hl [1, 2, 3, 0] rfl)
    unfold fX6_plays at h
    refine lv_iconst (v := (0 : Int32)) hx hb dX6_plays_0 (by decide) ?_
    refine lv_istore_n (lv' := [(3, .int (0 : Int32)), (0, .ref (am 0)), (1, .ref b0), (2, .int x2)]) hx hb dX6_plays_1 rfl hl (by decide) rfl (fun ls hl => ?_)
    exact l2 x2 F (0 : Int32) tt h _ _ hP hD hS _ (lv_sub hl [1, 2, 3, 0] rfl)
  exact key _ (fun H locs pc ls hP hD hS hd => W.iret hx hb hr (fun t ht hW => ⟨⟨_, (), rfl, rfl, by show _ ∧ _; rw [ht]; exact ⟨hP, hD⟩⟩, hS.F ht⟩) hS.2.2 hd)
set_option maxHeartbeats 4000000 in
set_option maxRecDepth 100000 in
theorem kX6_sumOf (l : Launch) (D : va_G) (T : Nat → ClassId) (F : Nat) (a0 : Nat) (n1 : Nat) (f1 : Nat → Int32) (r : Int32) (h : fX6_sumOf F n1 f1 = some (r)) : Met l yX6_sumOf wsX6_sumOf ({ frames := 0, cells := 0, slots := 0, locals := 0 } : Room) (va_Pc [.ref a0] (fun U => va_P D vwCl (wA1 T a0 n1 f1) U.heap ∧ KK D T U)) (vp_Si (fun r' => r' = r)) 0 0 (fun _ => False) := by
  refine Met.ofW (cc := cX6_sumOf) (maxL := 3) (ret := some .int) (by decide) rfl ?_
  intro p e s m args below meth c s₁ B hml hv
  obtain ⟨ha, hP, hKK⟩ := hv
  have hx := B.exec
  have hb := B.bytes
  have hr := B.returns
  have hts := atoms_spec (ws := wsX6_sumOf) B.pre
  have hown : s.vm.findClass RX6 = some m.cls := findClass_of_methodNamed B.named
  have hlocks := B.notSynchronized
  have hK := hKK.1
  have hFix : CallFix p m c cX6_sumOf 3 s args wsX6_sumOf RX6 := ⟨hx, hb, hml, hown, hts⟩
  obtain ⟨ls, hl, e0⟩ := my_entry (m := m) (n := 3) ha (Nat.le_of_ble_eq_true rfl)
  rw [e0]
  have hl : lv_has ls 3 [(0, .ref a0)] := hl
  have key : ∀ Q : State → Prop, (∀ (pc : Nat) (ls : Array Slot), decode cX6_sumOf pc = .ok (.ireturn, 1) → W p l e ({ frames := 0, cells := 0, slots := 0, locals := 0 } : Room) s m args below meth c s.heap [] 0 0 Q (F0 m pc ls [.int r])) → W p l e ({ frames := 0, cells := 0, slots := 0, locals := 0 } : Room) s m args below meth c s.heap [] 0 0 Q (F0 m 0 ls []) := by
    intro Q hret
    have l4 : ∀ nu : Nat, ∀ x1 : Int32, ∀ x2 : Int32, fX6_sumOf_l4 F n1 f1 nu x1 x2 = some (r) → ∀ (ls : Array Slot), lv_has ls 3 [(0, .ref a0), (1, .int x1), (2, .int x2)] → W p l e ({ frames := 0, cells := 0, slots := 0, locals := 0 } : Room) s m args below meth c s.heap [] 0 0 Q (F0 m 4 ls []) := by
      intro nu
      induction nu with
      | zero => intro x1 x2 h; exact none_some h
      | succ nu4 ih4 =>
        intro x1 x2 h ls hl
        have h : fX6_sumOf_l4_b F n1 f1 (fX6_sumOf_l4 F n1 f1 nu4) x1 x2 = some (r) := h
        unfold fX6_sumOf_l4_b at h
        refine lv_iload_n hx hb dX6_sumOf_4 rfl (lv_at hl 2 rfl) ?_
        refine lv_bipush (v := (6 : Int32)) hx hb dX6_sumOf_5 (by decide) ?_
        refine lv_icmp_ge (tgt := 22) hx hb dX6_sumOf_7 (by decide) (fun c7 => ?_) (fun c7 => ?_)
        · have h := br_1 h c7
          refine lv_iload_n hx hb dX6_sumOf_22 rfl (lv_at hl 1 rfl) ?_
          cases h
          exact hret _ _ dX6_sumOf_23
        · have h := br_0 h c7
          refine lv_iload_n hx hb dX6_sumOf_10 rfl (lv_at hl 1 rfl) ?_
          refine lv_aload_n hx hb dX6_sumOf_11 rfl (lv_at hl 0 rfl) ?_
          refine lv_iload_n hx hb dX6_sumOf_12 rfl (lv_at hl 2 rfl) ?_
          obtain ⟨hin1, h⟩ := ck_some h
          refine va_iald hx hb hK hP 0 0 wA1_0 rfl hin1 dX6_sumOf_13 ?_
          refine lv_iadd hx hb dX6_sumOf_14 ?_
          refine lv_istore_n (lv' := [(1, .int (x1 + (f1 x2.toNatClampNeg))), (0, .ref a0), (2, .int x2)]) hx hb dX6_sumOf_15 rfl hl (by decide) rfl (fun ls hl => ?_)
          refine lv_iinc (v := (x2 + (1 : Int32))) (lv' := [(2, .int (x2 + (1 : Int32))), (1, .int (x1 + (f1 x2.toNatClampNeg))), (0, .ref a0)]) hx hb dX6_sumOf_16 hl (k := 2) rfl rfl (by decide) rfl (fun ls hl => ?_)
          refine lv_goto (tgt := 4) hx hb dX6_sumOf_19 (by decide) ?_
          exact ih4 (x1 + (f1 x2.toNatClampNeg)) (x2 + (1 : Int32)) h _ (lv_sub hl [2, 1, 0] rfl)
    unfold fX6_sumOf at h
    refine lv_iconst (v := (0 : Int32)) hx hb dX6_sumOf_0 (by decide) ?_
    refine lv_istore_n (lv' := [(1, .int (0 : Int32)), (0, .ref a0)]) hx hb dX6_sumOf_1 rfl hl (by decide) rfl (fun ls hl => ?_)
    refine lv_iconst (v := (0 : Int32)) hx hb dX6_sumOf_2 (by decide) ?_
    refine lv_istore_n (lv' := [(2, .int (0 : Int32)), (1, .int (0 : Int32)), (0, .ref a0)]) hx hb dX6_sumOf_3 rfl hl (by decide) rfl (fun ls hl => ?_)
    exact l4 F (0 : Int32) (0 : Int32) h _ (lv_sub hl [2, 1, 0] rfl)
  exact key _ (fun pc ls hd => W.iret hx hb hr (fun t ht hW => ⟨_, rfl, rfl, ht⟩) (fun q h => by cases h) hd)
set_option maxHeartbeats 4000000 in
set_option maxRecDepth 100000 in
theorem kX6_guestOf (l : Launch) (D : va_G) (T : Nat → ClassId) (F : Nat) (am : Nat → Nat) (mguests : Int32) (mclause : Int32) (mdeeds : Int32) (masked : Int32) (mupper : Int64) (mlower : Int64) (mfinding : Int32) (mreadGuests : Int32) (misSight : Int32) (mat : Int32) (mrowSizes : Nat → Int32) (mrows : Nat → Int32) (mtextSizes : Nat → Int32) (mtexts : Nat → Int32) (mdoes : Nat → Int32) (mkinds : Nat → Int32) (msees : Nat → Int32) (mnow : Nat → Int32) (mbefore : Nat → Int32) (mkeeps : Nat → Int32) (mkept : Nat → Int32) (mfindings : Nat → Int32) (mread : Nat → Int32) (maside : Nat → Int32) (msteps : Nat → Int32) (mtried : Nat → Int32) (mbest : Nat → Int32) (x1 : Int32) (x2 : Int32) (r : Int32) (h : fX6_guestOf F mguests mkinds msees mnow x1 x2 = some (r)) : Met l yX6_guestOf wsX6_guestOf ({ frames := 2, cells := 0, slots := 0, locals := 45 } : Room) (va_Pc [.ref (am 0), .int x1, .int x2] (fun U => va_P D vwCl (wMo T am mguests mclause mdeeds masked mupper mlower mfinding mreadGuests misSight mat mrowSizes mrows mtextSizes mtexts mdoes mkinds msees mnow mbefore mkeeps mkept mfindings mread maside msteps mtried mbest) U.heap ∧ KK D T U)) (vp_Si (fun r' => r' = r)) 0 0 (fun _ => False) := by
  refine Met.ofW (cc := cX6_guestOf) (maxL := 3) (ret := some .int) (by decide) rfl ?_
  intro p e s m args below meth c s₁ B hml hv
  obtain ⟨ha, hP, hKK⟩ := hv
  have hx := B.exec
  have hb := B.bytes
  have hr := B.returns
  have hts := atoms_spec (ws := wsX6_guestOf) B.pre
  have hown : s.vm.findClass RX6 = some m.cls := findClass_of_methodNamed B.named
  have hlocks := B.notSynchronized
  have hK := hKK.1
  have hFix : CallFix p m c cX6_guestOf 3 s args wsX6_guestOf RX6 := ⟨hx, hb, hml, hown, hts⟩
  have q1 := hts _ (List.mem_of_getElem? (i := 1) (show wsX6_guestOf[1]? = some (Cond.fieldLink RX6 25 "PartyWillModel" "kinds" "[I") from rfl))
  have q2 := hts _ (List.mem_of_getElem? (i := 2) (show wsX6_guestOf[2]? = some (Cond.fieldLink RX6 31 "PartyWillModel" "now" "[I") from rfl))
  have q3 := hts _ (List.mem_of_getElem? (i := 3) (show wsX6_guestOf[3]? = some (Cond.fieldLink RX6 28 "PartyWillModel" "sees" "[I") from rfl))
  have iX6 : ∀ w ∈ u_ws RX6 TX6 27, w ∈ wsX6_guestOf := fun w h => List.mem_cons_of_mem _ (List.mem_append_right _ (h))
  obtain ⟨ls, hl, e0⟩ := my_entry (m := m) (n := 3) ha (Nat.le_of_ble_eq_true rfl)
  rw [e0]
  have hl : lv_has ls 3 [(0, .ref (am 0)), (1, .int x1), (2, .int x2)] := hl
  have key : ∀ Q : State → Prop, (∀ (pc : Nat) (ls : Array Slot), decode cX6_guestOf pc = .ok (.ireturn, 1) → W p l e ({ frames := 2, cells := 0, slots := 0, locals := 45 } : Room) s m args below meth c s.heap [] 0 0 Q (F0 m pc ls [.int r])) → W p l e ({ frames := 2, cells := 0, slots := 0, locals := 45 } : Room) s m args below meth c s.heap [] 0 0 Q (F0 m 0 ls []) := by
    intro Q hret
    unfold fX6_guestOf at h
    refine lv_iload_n hx hb dX6_guestOf_0 rfl (lv_at hl 2 rfl) ?_
    by_cases z1_0 : x2 = (0 : Int32)
    · have h := br_1 h z1_0
      refine lv_tableIn (tgt := 32) (off := 31) hx hb dX6_guestOf_1 (by rw [z1_0]; decide) (by rw [z1_0]; decide) (by rw [z1_0]; decide) (by decide) ?_
      refine lv_aload_n hx hb dX6_guestOf_32 rfl (lv_at hl 0 rfl) ?_
      refine va_get (D := D) (ci := 4) (C := RX6) (T := TX6) (N := 27) hx hb hts iX6 hown hK hP 0 wMo_0 rfl 7 (by decide) q1 (fun _ h9 => h9) rfl dX6_guestOf_33 ?_
      refine lv_iload_n hx hb dX6_guestOf_36 rfl (lv_at hl 1 rfl) ?_
      obtain ⟨hin1, h⟩ := ck_some h
      refine va_iald hx hb hK hP 6 0 wMo_6 rfl hin1 dX6_guestOf_37 ?_
      cases h
      exact hret _ _ dX6_guestOf_38
    have h := br_0 h z1_0
    by_cases z1_1 : x2 = (1 : Int32)
    · have h := br_1 h z1_1
      refine lv_tableIn (tgt := 39) (off := 38) hx hb dX6_guestOf_1 (by rw [z1_1]; decide) (by rw [z1_1]; decide) (by rw [z1_1]; decide) (by decide) ?_
      refine lv_aload_n hx hb dX6_guestOf_39 rfl (lv_at hl 0 rfl) ?_
      refine va_get (D := D) (ci := 4) (C := RX6) (T := TX6) (N := 27) hx hb hts iX6 hown hK hP 0 wMo_0 rfl 9 (by decide) q2 (fun _ h9 => h9) rfl dX6_guestOf_40 ?_
      refine lv_iload_n hx hb dX6_guestOf_43 rfl (lv_at hl 1 rfl) ?_
      obtain ⟨hin2, h⟩ := ck_some h
      refine va_iald hx hb hK hP 8 0 wMo_8 rfl hin2 dX6_guestOf_44 ?_
      cases h
      exact hret _ _ dX6_guestOf_45
    have h := br_0 h z1_1
    by_cases z1_2 : x2 = (2 : Int32)
    · have h := br_1 h z1_2
      refine lv_tableIn (tgt := 46) (off := 45) hx hb dX6_guestOf_1 (by rw [z1_2]; decide) (by rw [z1_2]; decide) (by rw [z1_2]; decide) (by decide) ?_
      refine lv_aload_n hx hb dX6_guestOf_46 rfl (lv_at hl 0 rfl) ?_
      refine va_get (D := D) (ci := 4) (C := RX6) (T := TX6) (N := 27) hx hb hts iX6 hown hK hP 0 wMo_0 rfl 9 (by decide) q2 (fun _ h9 => h9) rfl dX6_guestOf_47 ?_
      refine lv_bipush (v := (6 : Int32)) hx hb dX6_guestOf_50 (by decide) ?_
      refine va_iald hx hb hK hP 8 0 wMo_8 rfl (show ¬ ((6 : Int32) < 0 ∨ 7 ≤ (6 : Int32).toNatClampNeg) by decide) dX6_guestOf_52 ?_
      refine lv_iload_n hx hb dX6_guestOf_53 rfl (lv_at hl 1 rfl) ?_
      obtain ⟨r54, hc, h⟩ := bd1_some h
      refine my_roz (va_Run.run (va_runS (As := [.int (mnow (6 : Int32).toNatClampNeg), .int x1]) (rest := []) hFix (kX6_has l D T F (mnow (6 : Int32).toNatClampNeg) x1 r54 hc) (va_cwS 2 hts gX6_guestOf_X6_has rfl rfl rfl hd_X6_has ⟨Nat.le_of_ble_eq_true rfl, Nat.le_of_ble_eq_true rfl⟩) (preS_ro va_nil hKK) rfl rfl hl.1 rfl (lv_room (Nat.le_of_ble_eq_true rfl)) dX6_guestOf_54 ⟨Nat.zero_le _, Nat.zero_le _⟩)) (fun hb54 => ?_)
      refine lv_if_eq (tgt := 64) hx hb dX6_guestOf_57 (by decide) (fun c57 => ?_) (fun c57 => ?_)
      · have h := br_1 h c57
        refine lv_iconst (v := (0 : Int32)) hx hb dX6_guestOf_64 (by decide) ?_
        cases h
        exact hret _ _ dX6_guestOf_65
      · have h := br_0 h c57
        refine lv_iconst (v := (1 : Int32)) hx hb dX6_guestOf_60 (by decide) ?_
        refine lv_goto (tgt := 65) hx hb dX6_guestOf_61 (by decide) ?_
        cases h
        exact hret _ _ dX6_guestOf_65
    have h := br_0 h z1_2
    by_cases z1_3 : x2 = (3 : Int32)
    · have h := br_1 h z1_3
      refine lv_tableIn (tgt := 66) (off := 65) hx hb dX6_guestOf_1 (by rw [z1_3]; decide) (by rw [z1_3]; decide) (by rw [z1_3]; decide) (by decide) ?_
      refine lv_aload_n hx hb dX6_guestOf_66 rfl (lv_at hl 0 rfl) ?_
      refine va_get (D := D) (ci := 4) (C := RX6) (T := TX6) (N := 27) hx hb hts iX6 hown hK hP 0 wMo_0 rfl 8 (by decide) q3 (fun _ h9 => h9) rfl dX6_guestOf_67 ?_
      refine lv_iload_n hx hb dX6_guestOf_70 rfl (lv_at hl 1 rfl) ?_
      obtain ⟨hin3, h⟩ := ck_some h
      refine va_iald hx hb hK hP 7 0 wMo_7 rfl hin3 dX6_guestOf_71 ?_
      cases h
      exact hret _ _ dX6_guestOf_72
    have h := br_0 h z1_3
    have e1_0 : x2.toInt ≠ 0 := fun e => z1_0 (Int32.toInt_inj.mp e)
    have e1_1 : x2.toInt ≠ 1 := fun e => z1_1 (Int32.toInt_inj.mp e)
    have e1_2 : x2.toInt ≠ 2 := fun e => z1_2 (Int32.toInt_inj.mp e)
    have e1_3 : x2.toInt ≠ 3 := fun e => z1_3 (Int32.toInt_inj.mp e)
    refine lv_tableOut (tgt := 73) hx hb dX6_guestOf_1 (by omega) (by decide) ?_
    refine lv_aload_n hx hb dX6_guestOf_73 rfl (lv_at hl 0 rfl) ?_
    refine lv_iload_n hx hb dX6_guestOf_74 rfl (lv_at hl 1 rfl) ?_
    refine lv_aload_n hx hb dX6_guestOf_75 rfl (lv_at hl 0 rfl) ?_
    refine lv_aload_n hx hb dX6_guestOf_76 rfl (lv_at hl 0 rfl) ?_
    refine va_get (D := D) (ci := 4) (C := RX6) (T := TX6) (N := 27) hx hb hts iX6 hown hK hP 0 wMo_0 rfl 9 (by decide) q2 (fun _ h9 => h9) rfl dX6_guestOf_77 ?_
    obtain ⟨r80, hc, h⟩ := bd1_some h
    have hPc : va_P D vwCl (wMi T am (am 8) mguests mclause mdeeds masked mupper mlower mfinding mreadGuests misSight mat mnow) _ := my_subP sb_wMo_wMi_0_8 hP
    refine my_roi (va_Run.run (va_runV (As := [.ref (am 8)]) (rest := [.int x1, .ref (am 0)]) hFix (kX6_inside l D T F am (am 8) mguests mclause mdeeds masked mupper mlower mfinding mreadGuests misSight mat mnow r80 hc) (cwV 1 hts gX6_guestOf_X6_inside rfl rfl rfl ⟨rfl, hd_X6_inside⟩ ⟨Nat.le_of_ble_eq_true rfl, Nat.le_of_ble_eq_true rfl⟩) (preV_ro hPc hKK (va_recv hK hP (ci := 4) (q0 := 0) rfl wMo_0)) rfl rfl hl.1 rfl (lv_room (Nat.le_of_ble_eq_true rfl)) dX6_guestOf_80 ⟨Nat.zero_le _, Nat.zero_le _⟩)) ?_
    obtain ⟨r83, hc, h⟩ := bd1_some h
    have hPc : va_P D vwCl (wMs T am mguests mclause mdeeds masked mupper mlower mfinding mreadGuests misSight mat msees) _ := my_subP sb_wMo_wMs_0_7 hP
    refine my_roz (va_Run.run (va_runV (As := [.int x1, .int r80]) (rest := []) hFix (kX6_isSeen l D T F am mguests mclause mdeeds masked mupper mlower mfinding mreadGuests misSight mat msees x1 r80 r83 hc) (cwV 2 hts gX6_guestOf_X6_isSeen rfl rfl rfl ⟨rfl, hd_X6_isSeen⟩ ⟨Nat.le_of_ble_eq_true rfl, Nat.le_of_ble_eq_true rfl⟩) (preV_ro hPc hKK (va_recv hK hP (ci := 4) (q0 := 0) rfl wMo_0)) rfl rfl hl.1 rfl (lv_room (Nat.le_of_ble_eq_true rfl)) dX6_guestOf_83 ⟨Nat.zero_le _, Nat.zero_le _⟩)) (fun hb83 => ?_)
    refine lv_if_eq (tgt := 93) hx hb dX6_guestOf_86 (by decide) (fun c86 => ?_) (fun c86 => ?_)
    · have h := br_1 h c86
      refine lv_iconst (v := (0 : Int32)) hx hb dX6_guestOf_93 (by decide) ?_
      cases h
      exact hret _ _ dX6_guestOf_94
    · have h := br_0 h c86
      refine lv_iconst (v := (1 : Int32)) hx hb dX6_guestOf_89 (by decide) ?_
      refine lv_goto (tgt := 94) hx hb dX6_guestOf_90 (by decide) ?_
      cases h
      exact hret _ _ dX6_guestOf_94
  exact key _ (fun pc ls hd => W.iret hx hb hr (fun t ht hW => ⟨_, rfl, rfl, ht⟩) (fun q h => by cases h) hd)
set_option maxHeartbeats 4000000 in
set_option maxRecDepth 100000 in
theorem kX6_guest (l : Launch) (D : va_G) (T : Nat → ClassId) (F : Nat) (am : Nat → Nat) (mguests : Int32) (mclause : Int32) (mdeeds : Int32) (masked : Int32) (mupper : Int64) (mlower : Int64) (mfinding : Int32) (mreadGuests : Int32) (misSight : Int32) (mat : Int32) (mrowSizes : Nat → Int32) (mrows : Nat → Int32) (mtextSizes : Nat → Int32) (mtexts : Nat → Int32) (mdoes : Nat → Int32) (mkinds : Nat → Int32) (msees : Nat → Int32) (mnow : Nat → Int32) (mbefore : Nat → Int32) (mkeeps : Nat → Int32) (mkept : Nat → Int32) (mfindings : Nat → Int32) (mread : Nat → Int32) (maside : Nat → Int32) (msteps : Nat → Int32) (mtried : Nat → Int32) (mbest : Nat → Int32) (x1 : Int32) (x2 : Int32) (r : Int32) (zmasked : Int32) (h : fX6_guest F mguests masked mkinds msees mnow x1 x2 = some (r, zmasked)) : ∀ sz : Nat, Met l yX6_guest wsX6_guest ({ frames := 3, cells := 0, slots := 0, locals := 67 } : Room) (va_Pc [.ref (am 0), .int x1, .int x2] (fun U => U.heap.size = sz ∧ va_P D vwCl (wMo T am mguests mclause mdeeds masked mupper mlower mfinding mreadGuests misSight mat mrowSizes mrows mtextSizes mtexts mdoes mkinds msees mnow mbefore mkeeps mkept mfindings mread maside msteps mtried mbest) U.heap ∧ KK D T U ∧ va_D (fun _ => True) (wMo T am mguests mclause mdeeds masked mupper mlower mfinding mreadGuests misSight mat mrowSizes mrows mtextSizes mtexts mdoes mkinds msees mnow mbefore mkeeps mkept mfindings mread maside msteps mtried mbest))) (va_Qi (fun r' (_ : Unit) => r' = r) (fun _ t => va_P D vwCl (wMo T am mguests mclause mdeeds zmasked mupper mlower mfinding mreadGuests misSight mat mrowSizes mrows mtextSizes mtexts mdoes mkinds msees mnow mbefore mkeeps mkept mfindings mread maside msteps mtried mbest) t.heap ∧ va_D (va_A (wMo T am mguests mclause mdeeds masked mupper mlower mfinding mreadGuests misSight mat mrowSizes mrows mtextSizes mtexts mdoes mkinds msees mnow mbefore mkeeps mkept mfindings mread maside msteps mtried mbest) sz) (wMo T am mguests mclause mdeeds zmasked mupper mlower mfinding mreadGuests misSight mat mrowSizes mrows mtextSizes mtexts mdoes mkinds msees mnow mbefore mkeeps mkept mfindings mread maside msteps mtried mbest)) (va_A (wMo T am mguests mclause mdeeds masked mupper mlower mfinding mreadGuests misSight mat mrowSizes mrows mtextSizes mtexts mdoes mkinds msees mnow mbefore mkeeps mkept mfindings mread maside msteps mtried mbest) sz)) 0 0 (va_A (wMo T am mguests mclause mdeeds masked mupper mlower mfinding mreadGuests misSight mat mrowSizes mrows mtextSizes mtexts mdoes mkinds msees mnow mbefore mkeeps mkept mfindings mread maside msteps mtried mbest) sz) := by
  intro sz
  refine Met.ofW (cc := cX6_guest) (maxL := 3) (ret := some .int) (by decide) rfl ?_
  intro p e s m args below meth c s₁ B hml hv
  obtain ⟨ha, hsz, hP, hKK, hD0⟩ := hv
  have hx := B.exec
  have hb := B.bytes
  have hr := B.returns
  have hts := atoms_spec (ws := wsX6_guest) B.pre
  have hown : s.vm.findClass RX6 = some m.cls := findClass_of_methodNamed B.named
  have hlocks := B.notSynchronized
  have hK := hKK.1
  have hFix : CallFix p m c cX6_guest 3 s args wsX6_guest RX6 := ⟨hx, hb, hml, hown, hts⟩
  have q1 := hts _ (List.mem_of_getElem? (i := 1) (show wsX6_guest[1]? = some (Cond.constantLong RX6 171 (4)) from rfl))
  subst hsz
  have hD := hD0.self (sz := s.heap.size)
  generalize hAe : va_A (wMo T am mguests mclause mdeeds masked mupper mlower mfinding mreadGuests misSight mat mrowSizes mrows mtextSizes mtexts mdoes mkinds msees mnow mbefore mkeeps mkept mfindings mread maside msteps mtried mbest) s.heap.size = A at hD ⊢
  have hA : ∀ q : Nat, s.heap.size ≤ q → A q := fun q h => by rw [← hAe]; exact Or.inr h
  have hS : va_S A s.heap s.heap [] := va_S.rf
  have hP : va_P D vwCl (wMo T am mguests mclause mdeeds masked mupper mlower mfinding mreadGuests misSight mat mrowSizes mrows mtextSizes mtexts mdoes mkinds msees mnow mbefore mkeeps mkept mfindings mread maside msteps mtried mbest) s.heap := hP
  obtain ⟨ls, hl, e0⟩ := my_entry (m := m) (n := 3) ha (Nat.le_of_ble_eq_true rfl)
  rw [e0]
  have hl : lv_has ls 3 [(0, .ref (am 0)), (1, .int x1), (2, .int x2)] := hl
  have key : ∀ Q : State → Prop, (∀ (H : Heap) (locs : List Loc) (pc : Nat) (ls : Array Slot), va_P D vwCl (wMo T am mguests mclause mdeeds zmasked mupper mlower mfinding mreadGuests misSight mat mrowSizes mrows mtextSizes mtexts mdoes mkinds msees mnow mbefore mkeeps mkept mfindings mread maside msteps mtried mbest) H → va_D A (wMo T am mguests mclause mdeeds zmasked mupper mlower mfinding mreadGuests misSight mat mrowSizes mrows mtextSizes mtexts mdoes mkinds msees mnow mbefore mkeeps mkept mfindings mread maside msteps mtried mbest) → va_S A s.heap H locs → decode cX6_guest pc = .ok (.ireturn, 1) → W p l e ({ frames := 3, cells := 0, slots := 0, locals := 67 } : Room) s m args below meth c H locs 0 0 Q (F0 m pc ls [.int r])) → W p l e ({ frames := 3, cells := 0, slots := 0, locals := 67 } : Room) s m args below meth c s.heap [] 0 0 Q (F0 m 0 ls []) := by
    intro Q hret
    skip
    unfold fX6_guest at h
    refine lv_aload_n hx hb dX6_guest_0 rfl (lv_at hl 0 rfl) ?_
    refine lv_iload_n hx hb dX6_guest_1 rfl (lv_at hl 1 rfl) ?_
    obtain ⟨r2, hc, h⟩ := bd1_some h
    refine my_roz (va_Run.run (va_runV (As := [.int x1]) (rest := []) hFix (kX6_isGuest l D T F am mguests mclause mdeeds masked mupper mlower mfinding mreadGuests misSight mat mrowSizes mrows mtextSizes mtexts mdoes mkinds msees mnow mbefore mkeeps mkept mfindings mread maside msteps mtried mbest x1 r2 hc) (cwV 1 hts gX6_guest_X6_isGuest rfl rfl rfl ⟨rfl, hd_X6_isGuest⟩ ⟨Nat.le_of_ble_eq_true rfl, Nat.le_of_ble_eq_true rfl⟩) (preV_ro hP hKK (va_recv hK hP (ci := 4) (q0 := 0) rfl wMo_0)) rfl rfl hl.1 rfl (lv_room (Nat.le_of_ble_eq_true rfl)) dX6_guest_2 ⟨Nat.zero_le _, Nat.zero_le _⟩)) (fun hb2 => ?_)
    refine lv_if_eq (tgt := 20) hx hb dX6_guest_5 (by decide) (fun c5 => ?_) (fun c5 => ?_)
    · have h := br_1 h c5
      refine lv_iconst (v := (-1 : Int32)) hx hb dX6_guest_20 (by decide) ?_
      cases h
      exact hret _ _ _ _ hP hD hS dX6_guest_21
    · have h := br_0 h c5
      refine lv_iload_n hx hb dX6_guest_8 rfl (lv_at hl 2 rfl) ?_
      refine lv_i2l (v := (x2.toInt64)) hx hb dX6_guest_9 rfl ?_
      refine lv_lconst (v := (0 : Int64)) hx hb dX6_guest_10 (by decide) ?_
      refine lv_ldc2 (v := (4 : Int64)) hx hb hown q1 dX6_guest_11 ?_
      obtain ⟨r14, hc, h⟩ := bd1_some h
      refine my_roz (va_Run.run (va_runS (As := [.long (x2.toInt64), .long (0 : Int64), .long (4 : Int64)]) (rest := []) hFix (kX6_in l D T F (x2.toInt64) (0 : Int64) (4 : Int64) r14 hc) (va_cwS 3 hts gX6_guest_X6_in rfl rfl rfl hd_X6_in ⟨Nat.le_of_ble_eq_true rfl, Nat.le_of_ble_eq_true rfl⟩) (preS_ro va_nil hKK) rfl rfl hl.1 rfl (lv_room (Nat.le_of_ble_eq_true rfl)) dX6_guest_14 ⟨Nat.zero_le _, Nat.zero_le _⟩)) (fun hb14 => ?_)
      refine lv_if_ne (tgt := 22) hx hb dX6_guest_17 (by decide) (fun c17 => ?_) (fun c17 => ?_)
      · have h := br_0 h c17
        refine lv_aload_n hx hb dX6_guest_22 rfl (lv_at hl 0 rfl) ?_
        refine lv_aload_n hx hb dX6_guest_23 rfl (lv_at hl 0 rfl) ?_
        refine lv_iload_n hx hb dX6_guest_24 rfl (lv_at hl 1 rfl) ?_
        refine lv_iload_n hx hb dX6_guest_25 rfl (lv_at hl 2 rfl) ?_
        obtain ⟨r26, hc, h⟩ := bd1_some h
        refine my_roi (va_Run.run (va_runV (As := [.int x1, .int x2]) (rest := [.ref (am 0)]) hFix (kX6_guestOf l D T F am mguests mclause mdeeds masked mupper mlower mfinding mreadGuests misSight mat mrowSizes mrows mtextSizes mtexts mdoes mkinds msees mnow mbefore mkeeps mkept mfindings mread maside msteps mtried mbest x1 x2 r26 hc) (cwV 2 hts gX6_guest_X6_guestOf rfl rfl rfl ⟨rfl, hd_X6_guestOf⟩ ⟨Nat.le_of_ble_eq_true rfl, Nat.le_of_ble_eq_true rfl⟩) (preV_ro hP hKK (va_recv hK hP (ci := 4) (q0 := 0) rfl wMo_0)) rfl rfl hl.1 rfl (lv_room (Nat.le_of_ble_eq_true rfl)) dX6_guest_26 ⟨Nat.zero_le _, Nat.zero_le _⟩)) ?_
        obtain ⟨r29, w29_masked, hc, h⟩ := bd2_some h
        have hFc := my_freeS hD hS hA
        refine my_rwi (va_runV (As := [.int r26]) (rest := []) hFix (kX6_tell l D T F am mguests mclause mdeeds masked mupper mlower mfinding mreadGuests misSight mat mrowSizes mrows mtextSizes mtexts mdoes mkinds msees mnow mbefore mkeeps mkept mfindings mread maside msteps mtried mbest r26 r29 w29_masked hc _) (cwV 1 hts gX6_guest_X6_tell rfl rfl rfl ⟨rfl, hd_X6_tell⟩ ⟨Nat.le_of_ble_eq_true rfl, Nat.le_of_ble_eq_true rfl⟩) (preV_rw hP hKK hD (va_recv hK hP (ci := 4) (q0 := 0) rfl wMo_0)) rfl rfl hl.1 rfl (lv_room (Nat.le_of_ble_eq_true rfl)) dX6_guest_29 ⟨Nat.zero_le _, Nat.zero_le _⟩) hS hFc (fun H1 locs hP1 hD1 hz1 hkk hS => ?_)
        have hP : va_P D vwCl (wMo T am mguests mclause mdeeds w29_masked mupper mlower mfinding mreadGuests misSight mat mrowSizes mrows mtextSizes mtexts mdoes mkinds msees mnow mbefore mkeeps mkept mfindings mread maside msteps mtried mbest) H1 := hP1
        have hD : va_D A (wMo T am mguests mclause mdeeds w29_masked mupper mlower mfinding mreadGuests misSight mat mrowSizes mrows mtextSizes mtexts mdoes mkinds msees mnow mbefore mkeeps mkept mfindings mread maside msteps mtried mbest) := hD1.weaken (fun _ q _ h => hFc q.1 h)
        generalize H1 = H at hP hS ⊢
        cases h
        exact hret _ _ _ _ hP hD hS dX6_guest_32
      · have h := br_1 h c17
        refine lv_iconst (v := (-1 : Int32)) hx hb dX6_guest_20 (by decide) ?_
        cases h
        exact hret _ _ _ _ hP hD hS dX6_guest_21
  exact key _ (fun H locs pc ls hP hD hS hd => W.iret hx hb hr (fun t ht hW => ⟨⟨_, (), rfl, rfl, by show _ ∧ _; rw [ht]; exact ⟨hP, hD⟩⟩, hS.F ht⟩) hS.2.2 hd)
