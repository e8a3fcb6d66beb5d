set_option maxHeartbeats 4000000 in
set_option maxRecDepth 100000 in
theorem kX6_has (l : Launch) (D : va_G) (T : Nat → ClassId) (F : Nat) (x0 : Int32) (x1 : Int32) (r : Int32) (h : fX6_has F x0 x1 = some (r)) : Met l yX6_has wsX6_has ({ frames := 0, cells := 0, slots := 0, locals := 0 } : Room) (va_Pc [.int x0, .int x1] (fun U => va_P D vwCl ([] : va_W) U.heap ∧ KK D T U)) (vp_Si (fun r' => r' = r ∧ b01 r)) 0 0 (fun _ => False) := by
  refine Met.ofW (cc := cX6_has) (maxL := 2) (ret := some .boolean) (by decide) rfl ?_
  intro p e s m args below meth c s₁ B hml hv
  obtain ⟨ha, hP, hKK⟩ := hv
  have hx := B.exec
  have hb := B.bytes
  have hr := B.returns
  have hts := atoms_spec (ws := wsX6_has) B.pre
  have hown : s.vm.findClass RX6 = some m.cls := findClass_of_methodNamed B.named
  have hlocks := B.notSynchronized
  have hK := hKK.1
  have hFix : CallFix p m c cX6_has 2 s args wsX6_has RX6 := ⟨hx, hb, hml, hown, hts⟩
  obtain ⟨ls, hl, e0⟩ := my_entry (m := m) (n := 2) ha (Nat.le_of_ble_eq_true rfl)
  rw [e0]
  have hl : lv_has ls 2 [(0, .int x0), (1, .int x1)] := hl
  have key : ∀ Q : State → Prop, (∀ (pc : Nat) (ls : Array Slot), decode cX6_has pc = .ok (.ireturn, 1) → b01 r → W p l e ({ frames := 0, cells := 0, slots := 0, locals := 0 } : Room) s m args below meth c s.heap [] 0 0 Q (F0 m pc ls [.int r])) → W p l e ({ frames := 0, cells := 0, slots := 0, locals := 0 } : Room) s m args below meth c s.heap [] 0 0 Q (F0 m 0 ls []) := by
    intro Q hret
    unfold fX6_has at h
    refine lv_iload_n hx hb dX6_has_0 rfl (lv_at hl 0 rfl) ?_
    refine lv_iload_n hx hb dX6_has_1 rfl (lv_at hl 1 rfl) ?_
    refine lv_ishr hx hb dX6_has_2 ?_
    refine lv_iconst (v := (1 : Int32)) hx hb dX6_has_3 (by decide) ?_
    refine lv_iand hx hb dX6_has_4 ?_
    refine lv_iconst (v := (1 : Int32)) hx hb dX6_has_5 (by decide) ?_
    refine lv_icmp_ne (tgt := 13) hx hb dX6_has_6 (by decide) (fun c6 => ?_) (fun c6 => ?_)
    · have h := br_0 h c6
      refine lv_iconst (v := (0 : Int32)) hx hb dX6_has_13 (by decide) ?_
      cases h
      exact hret _ _ dX6_has_14 (Or.inl rfl)
    · have h := br_1 h c6
      refine lv_iconst (v := (1 : Int32)) hx hb dX6_has_9 (by decide) ?_
      refine lv_goto (tgt := 14) hx hb dX6_has_10 (by decide) ?_
      cases h
      exact hret _ _ dX6_has_14 (Or.inr rfl)
  exact key _ (fun pc ls hd hb1 => W.zret hx hb hr (b01_n hb1) (fun t ht hW => ⟨_, rfl, ⟨rfl, hb1⟩, ht⟩) (fun q h => by cases h) hd)
set_option maxHeartbeats 4000000 in
set_option maxRecDepth 100000 in
theorem kX6_bits (l : Launch) (D : va_G) (T : Nat → ClassId) (F : Nat) (x0 : Int32) (r : Int32) (h : fX6_bits F x0 = some (r)) : Met l yX6_bits wsX6_bits ({ frames := 0, cells := 0, slots := 0, locals := 0 } : Room) (va_Pc [.int x0] (fun U => va_P D vwCl ([] : va_W) U.heap ∧ KK D T U)) (vp_Si (fun r' => r' = r)) 0 0 (fun _ => False) := by
  refine Met.ofW (cc := cX6_bits) (maxL := 3) (ret := some .int) (by decide) rfl ?_
  intro p e s m args below meth c s₁ B hml hv
  obtain ⟨ha, hP, hKK⟩ := hv
  have hx := B.exec
  have hb := B.bytes
  have hr := B.returns
  have hts := atoms_spec (ws := wsX6_bits) B.pre
  have hown : s.vm.findClass RX6 = some m.cls := findClass_of_methodNamed B.named
  have hlocks := B.notSynchronized
  have hK := hKK.1
  have hFix : CallFix p m c cX6_bits 3 s args wsX6_bits RX6 := ⟨hx, hb, hml, hown, hts⟩
  obtain ⟨ls, hl, e0⟩ := my_entry (m := m) (n := 3) ha (Nat.le_of_ble_eq_true rfl)
  rw [e0]
  have hl : lv_has ls 3 [(0, .int x0)] := hl
  have key : ∀ Q : State → Prop, (∀ (pc : Nat) (ls : Array Slot), decode cX6_bits pc = .ok (.ireturn, 1) → W p l e ({ frames := 0, cells := 0, slots := 0, locals := 0 } : Room) s m args below meth c s.heap [] 0 0 Q (F0 m pc ls [.int r])) → W p l e ({ frames := 0, cells := 0, slots := 0, locals := 0 } : Room) s m args below meth c s.heap [] 0 0 Q (F0 m 0 ls []) := by
    intro Q hret
    have l4 : ∀ nu : Nat, ∀ x1 : Int32, ∀ x2 : Int32, fX6_bits_l4 F nu x1 x2 = some (r) → ∀ (ls : Array Slot), lv_has ls 3 [(1, .int x1), (2, .int x2)] → W p l e ({ frames := 0, cells := 0, slots := 0, locals := 0 } : Room) s m args below meth c s.heap [] 0 0 Q (F0 m 4 ls []) := by
      intro nu
      induction nu with
      | zero => intro x1 x2 h; exact none_some h
      | succ nu4 ih4 =>
        intro x1 x2 h ls hl
        have h : fX6_bits_l4_b F (fX6_bits_l4 F nu4) x1 x2 = some (r) := h
        unfold fX6_bits_l4_b at h
        refine lv_iload_n hx hb dX6_bits_4 rfl (lv_at hl 1 rfl) ?_
        refine lv_if_eq (tgt := 20) hx hb dX6_bits_5 (by decide) (fun c5 => ?_) (fun c5 => ?_)
        · have h := br_1 h c5
          refine lv_iload_n hx hb dX6_bits_20 rfl (lv_at hl 0 rfl) ?_
          cases h
          exact hret _ _ dX6_bits_21
        · have h := br_0 h c5
          refine lv_iinc (v := (x1 + (1 : Int32))) (lv' := [(1, .int (x1 + (1 : Int32))), (2, .int x2)]) hx hb dX6_bits_8 hl (k := 0) rfl rfl (by decide) rfl (fun ls hl => ?_)
          refine lv_iload_n hx hb dX6_bits_11 rfl (lv_at hl 1 rfl) ?_
          refine lv_iload_n hx hb dX6_bits_12 rfl (lv_at hl 1 rfl) ?_
          refine lv_iconst (v := (1 : Int32)) hx hb dX6_bits_13 (by decide) ?_
          refine lv_isub hx hb dX6_bits_14 ?_
          refine lv_iand hx hb dX6_bits_15 ?_
          refine lv_istore_n (lv' := [(2, .int (x2 &&& (x2 - (1 : Int32)))), (1, .int (x1 + (1 : Int32)))]) hx hb dX6_bits_16 rfl hl (by decide) rfl (fun ls hl => ?_)
          refine lv_goto (tgt := 4) hx hb dX6_bits_17 (by decide) ?_
          exact ih4 (x1 + (1 : Int32)) (x2 &&& (x2 - (1 : Int32))) h _ (lv_sub hl [1, 0] rfl)
    unfold fX6_bits at h
    refine lv_iconst (v := (0 : Int32)) hx hb dX6_bits_0 (by decide) ?_
    refine lv_istore_n (lv' := [(1, .int (0 : Int32)), (0, .int x0)]) hx hb dX6_bits_1 rfl hl (by decide) rfl (fun ls hl => ?_)
    refine lv_iload_n hx hb dX6_bits_2 rfl (lv_at hl 1 rfl) ?_
    refine lv_istore_n (lv' := [(2, .int x0), (1, .int (0 : Int32)), (0, .int x0)]) hx hb dX6_bits_3 rfl hl (by decide) rfl (fun ls hl => ?_)
    exact l4 F (0 : Int32) x0 h _ (lv_sub hl [1, 0] rfl)
  exact key _ (fun pc ls hd => W.iret hx hb hr (fun t ht hW => ⟨_, rfl, rfl, ht⟩) (fun q h => by cases h) hd)
set_option maxHeartbeats 4000000 in
set_option maxRecDepth 100000 in
theorem kX6_everybody (l : Launch) (D : va_G) (T : Nat → ClassId) (F : Nat) (am : Nat → Nat) (mguests : Int32) (mclause : Int32) (mdeeds : Int32) (masked : Int32) (mupper : Int64) (mlower : Int64) (mfinding : Int32) (mreadGuests : Int32) (misSight : Int32) (mat : Int32) (r : Int32) (h : fX6_everybody F mguests = some (r)) : Met l yX6_everybody wsX6_everybody ({ frames := 0, cells := 0, slots := 0, locals := 0 } : Room) (va_Pc [.ref (am 0)] (fun U => va_P D vwCl (wM0 T am mguests mclause mdeeds masked mupper mlower mfinding mreadGuests misSight mat) U.heap ∧ KK D T U)) (vp_Si (fun r' => r' = r)) 0 0 (fun _ => False) := by
  refine Met.ofW (cc := cX6_everybody) (maxL := 1) (ret := some .int) (by decide) rfl ?_
  intro p e s m args below meth c s₁ B hml hv
  obtain ⟨ha, hP, hKK⟩ := hv
  have hx := B.exec
  have hb := B.bytes
  have hr := B.returns
  have hts := atoms_spec (ws := wsX6_everybody) B.pre
  have hown : s.vm.findClass RX6 = some m.cls := findClass_of_methodNamed B.named
  have hlocks := B.notSynchronized
  have hK := hKK.1
  have hFix : CallFix p m c cX6_everybody 1 s args wsX6_everybody RX6 := ⟨hx, hb, hml, hown, hts⟩
  have q1 := hts _ (List.mem_of_getElem? (i := 1) (show wsX6_everybody[1]? = some (Cond.fieldLink RX6 131 "PartyWillModel" "guests" "I") from rfl))
  have iX6 : ∀ w ∈ u_ws RX6 TX6 27, w ∈ wsX6_everybody := fun w h => List.mem_cons_of_mem _ (List.mem_append_right _ (h))
  obtain ⟨ls, hl, e0⟩ := my_entry (m := m) (n := 1) ha (Nat.le_of_ble_eq_true rfl)
  rw [e0]
  have hl : lv_has ls 1 [(0, .ref (am 0))] := hl
  have key : ∀ Q : State → Prop, (∀ (pc : Nat) (ls : Array Slot), decode cX6_everybody pc = .ok (.ireturn, 1) → W p l e ({ frames := 0, cells := 0, slots := 0, locals := 0 } : Room) s m args below meth c s.heap [] 0 0 Q (F0 m pc ls [.int r])) → W p l e ({ frames := 0, cells := 0, slots := 0, locals := 0 } : Room) s m args below meth c s.heap [] 0 0 Q (F0 m 0 ls []) := by
    intro Q hret
    unfold fX6_everybody at h
    refine lv_iconst (v := (1 : Int32)) hx hb dX6_everybody_0 (by decide) ?_
    refine lv_aload_n hx hb dX6_everybody_1 rfl (lv_at hl 0 rfl) ?_
    refine va_get (D := D) (ci := 4) (C := RX6) (T := TX6) (N := 27) hx hb hts iX6 hown hK hP 0 wM0_0 rfl 4 (by decide) q1 (fun _ h9 => h9) rfl dX6_everybody_2 ?_
    refine lv_ishl hx hb dX6_everybody_5 ?_
    refine lv_iconst (v := (1 : Int32)) hx hb dX6_everybody_6 (by decide) ?_
    refine lv_isub hx hb dX6_everybody_7 ?_
    cases h
    exact hret _ _ dX6_everybody_8
  exact key _ (fun pc ls hd => W.iret hx hb hr (fun t ht hW => ⟨_, rfl, rfl, ht⟩) (fun q h => by cases h) hd)
set_option maxHeartbeats 4000000 in
set_option maxRecDepth 100000 in
theorem kX6_inside (l : Launch) (D : va_G) (T : Nat → ClassId) (F : Nat) (am : Nat → Nat) (b0 : Nat) (mguests : Int32) (mclause : Int32) (mdeeds : Int32) (masked : Int32) (mupper : Int64) (mlower : Int64) (mfinding : Int32) (mreadGuests : Int32) (misSight : Int32) (mat : Int32) (tt : Nat → Int32) (r : Int32) (h : fX6_inside F mguests tt = some (r)) : Met l yX6_inside wsX6_inside ({ frames := 1, cells := 0, slots := 0, locals := 20 } : Room) (va_Pc [.ref (am 0), .ref b0] (fun U => va_P D vwCl (wMi T am b0 mguests mclause mdeeds masked mupper mlower mfinding mreadGuests misSight mat tt) U.heap ∧ KK D T U)) (vp_Si (fun r' => r' = r)) 0 0 (fun _ => False) := by
  refine Met.ofW (cc := cX6_inside) (maxL := 2) (ret := some .int) (by decide) rfl ?_
  intro p e s m args below meth c s₁ B hml hv
  obtain ⟨ha, hP, hKK⟩ := hv
  have hx := B.exec
  have hb := B.bytes
  have hr := B.returns
  have hts := atoms_spec (ws := wsX6_inside) B.pre
  have hown : s.vm.findClass RX6 = some m.cls := findClass_of_methodNamed B.named
  have hlocks := B.notSynchronized
  have hK := hKK.1
  have hFix : CallFix p m c cX6_inside 2 s args wsX6_inside RX6 := ⟨hx, hb, hml, hown, hts⟩
  obtain ⟨ls, hl, e0⟩ := my_entry (m := m) (n := 2) ha (Nat.le_of_ble_eq_true rfl)
  rw [e0]
  have hl : lv_has ls 2 [(0, .ref (am 0)), (1, .ref b0)] := hl
  have key : ∀ Q : State → Prop, (∀ (pc : Nat) (ls : Array Slot), decode cX6_inside pc = .ok (.ireturn, 1) → W p l e ({ frames := 1, cells := 0, slots := 0, locals := 20 } : Room) s m args below meth c s.heap [] 0 0 Q (F0 m pc ls [.int r])) → W p l e ({ frames := 1, cells := 0, slots := 0, locals := 20 } : Room) s m args below meth c s.heap [] 0 0 Q (F0 m 0 ls []) := by
    intro Q hret
    unfold fX6_inside at h
    refine lv_aload_n hx hb dX6_inside_0 rfl (lv_at hl 0 rfl) ?_
    obtain ⟨r1, hc, h⟩ := bd1_some h
    have hPc : va_P D vwCl (wM0 T am mguests mclause mdeeds masked mupper mlower mfinding mreadGuests misSight mat) _ := my_subP sb_wMi_wM0_0 hP
    refine my_roi (va_Run.run (va_runV (As := []) (rest := []) hFix (kX6_everybody l D T F am mguests mclause mdeeds masked mupper mlower mfinding mreadGuests misSight mat r1 hc) (cwV 0 hts gX6_inside_X6_everybody rfl rfl rfl ⟨rfl, hd_X6_everybody⟩ ⟨Nat.le_of_ble_eq_true rfl, Nat.le_of_ble_eq_true rfl⟩) (preV_ro hPc hKK (va_recv hK hP (ci := 4) (q0 := 0) rfl wMi_0)) rfl rfl hl.1 rfl (lv_room (Nat.le_of_ble_eq_true rfl)) dX6_inside_1 ⟨Nat.zero_le _, Nat.zero_le _⟩)) ?_
    refine lv_aload_n hx hb dX6_inside_4 rfl (lv_at hl 1 rfl) ?_
    refine lv_bipush (v := (6 : Int32)) hx hb dX6_inside_5 (by decide) ?_
    refine va_iald hx hb hK hP 1 0 wMi_1 rfl (show ¬ ((6 : Int32) < 0 ∨ 7 ≤ (6 : Int32).toNatClampNeg) by decide) dX6_inside_7 ?_
    refine lv_iconst (v := (-1 : Int32)) hx hb dX6_inside_8 (by decide) ?_
    refine lv_ixor hx hb dX6_inside_9 ?_
    refine lv_iand hx hb dX6_inside_10 ?_
    cases h
    exact hret _ _ dX6_inside_11
  exact key _ (fun pc ls hd => W.iret hx hb hr (fun t ht hW => ⟨_, rfl, rfl, ht⟩) (fun q h => by cases h) hd)
set_option maxHeartbeats 4000000 in
set_option maxRecDepth 100000 in
theorem kX6_isOf (l : Launch) (D : va_G) (T : Nat → ClassId) (F : Nat) (x0 : Int32) (x1 : Int32) (r : Int32) (h : fX6_isOf F x0 x1 = some (r)) : Met l yX6_isOf wsX6_isOf ({ frames := 0, cells := 0, slots := 0, locals := 0 } : Room) (va_Pc [.int x0, .int x1] (fun U => va_P D vwCl ([] : va_W) U.heap ∧ KK D T U)) (vp_Si (fun r' => r' = r ∧ b01 r)) 0 0 (fun _ => False) := by
  refine Met.ofW (cc := cX6_isOf) (maxL := 2) (ret := some .boolean) (by decide) rfl ?_
  intro p e s m args below meth c s₁ B hml hv
  obtain ⟨ha, hP, hKK⟩ := hv
  have hx := B.exec
  have hb := B.bytes
  have hr := B.returns
  have hts := atoms_spec (ws := wsX6_isOf) B.pre
  have hown : s.vm.findClass RX6 = some m.cls := findClass_of_methodNamed B.named
  have hlocks := B.notSynchronized
  have hK := hKK.1
  have hFix : CallFix p m c cX6_isOf 2 s args wsX6_isOf RX6 := ⟨hx, hb, hml, hown, hts⟩
  obtain ⟨ls, hl, e0⟩ := my_entry (m := m) (n := 2) ha (Nat.le_of_ble_eq_true rfl)
  rw [e0]
  have hl : lv_has ls 2 [(0, .int x0), (1, .int x1)] := hl
  have key : ∀ Q : State → Prop, (∀ (pc : Nat) (ls : Array Slot), decode cX6_isOf pc = .ok (.ireturn, 1) → b01 r → W p l e ({ frames := 0, cells := 0, slots := 0, locals := 0 } : Room) s m args below meth c s.heap [] 0 0 Q (F0 m pc ls [.int r])) → W p l e ({ frames := 0, cells := 0, slots := 0, locals := 0 } : Room) s m args below meth c s.heap [] 0 0 Q (F0 m 0 ls []) := by
    intro Q hret
    have n19 : ∀ x0 : Int32, ∀ x1 : Int32, fX6_isOf_n19 F x0 x1 = some (r) → ∀ (ls : Array Slot), lv_has ls 2 [(0, .int x0), (1, .int x1)] → W p l e ({ frames := 0, cells := 0, slots := 0, locals := 0 } : Room) s m args below meth c s.heap [] 0 0 Q (F0 m 19 ls []) := by
      intro x0 x1 h ls hl
      unfold fX6_isOf_n19 at h
      refine lv_iload_n hx hb dX6_isOf_19 rfl (lv_at hl 1 rfl) ?_
      refine lv_iconst (v := (2 : Int32)) hx hb dX6_isOf_20 (by decide) ?_
      refine lv_icmp_ne (tgt := 33) hx hb dX6_isOf_21 (by decide) (fun c21 => ?_) (fun c21 => ?_)
      · have h := br_0 h c21
        refine lv_iconst (v := (0 : Int32)) hx hb dX6_isOf_33 (by decide) ?_
        cases h
        exact hret _ _ dX6_isOf_34 (Or.inl rfl)
      · have h := br_1 h c21
        refine lv_iload_n hx hb dX6_isOf_24 rfl (lv_at hl 0 rfl) ?_
        refine lv_iconst (v := (5 : Int32)) hx hb dX6_isOf_25 (by decide) ?_
        refine lv_icmp_ne (tgt := 33) hx hb dX6_isOf_26 (by decide) (fun c26 => ?_) (fun c26 => ?_)
        · have h := br_0 h c26
          refine lv_iconst (v := (0 : Int32)) hx hb dX6_isOf_33 (by decide) ?_
          cases h
          exact hret _ _ dX6_isOf_34 (Or.inl rfl)
        · have h := br_1 h c26
          refine lv_iconst (v := (1 : Int32)) hx hb dX6_isOf_29 (by decide) ?_
          refine lv_goto (tgt := 34) hx hb dX6_isOf_30 (by decide) ?_
          cases h
          exact hret _ _ dX6_isOf_34 (Or.inr rfl)
    unfold fX6_isOf at h
    refine lv_iload_n hx hb dX6_isOf_0 rfl (lv_at hl 1 rfl) ?_
    refine lv_if_eq (tgt := 29) hx hb dX6_isOf_1 (by decide) (fun c1 => ?_) (fun c1 => ?_)
    · have h := br_1 h c1
      refine lv_iconst (v := (1 : Int32)) hx hb dX6_isOf_29 (by decide) ?_
      refine lv_goto (tgt := 34) hx hb dX6_isOf_30 (by decide) ?_
      cases h
      exact hret _ _ dX6_isOf_34 (Or.inr rfl)
    · have h := br_0 h c1
      refine lv_iload_n hx hb dX6_isOf_4 rfl (lv_at hl 0 rfl) ?_
      refine lv_iload_n hx hb dX6_isOf_5 rfl (lv_at hl 1 rfl) ?_
      refine lv_icmp_eq (tgt := 29) hx hb dX6_isOf_6 (by decide) (fun c6 => ?_) (fun c6 => ?_)
      · have h := br_1 h c6
        refine lv_iconst (v := (1 : Int32)) hx hb dX6_isOf_29 (by decide) ?_
        refine lv_goto (tgt := 34) hx hb dX6_isOf_30 (by decide) ?_
        cases h
        exact hret _ _ dX6_isOf_34 (Or.inr rfl)
      · have h := br_0 h c6
        refine lv_iload_n hx hb dX6_isOf_9 rfl (lv_at hl 1 rfl) ?_
        refine lv_iconst (v := (1 : Int32)) hx hb dX6_isOf_10 (by decide) ?_
        refine lv_icmp_ne (tgt := 19) hx hb dX6_isOf_11 (by decide) (fun c11 => ?_) (fun c11 => ?_)
        · have h := br_0 h c11
          exact n19 x0 x1 h _ (lv_sub hl [0, 1] rfl)
        · have h := br_1 h c11
          refine lv_iload_n hx hb dX6_isOf_14 rfl (lv_at hl 0 rfl) ?_
          refine lv_iconst (v := (4 : Int32)) hx hb dX6_isOf_15 (by decide) ?_
          refine lv_icmp_eq (tgt := 29) hx hb dX6_isOf_16 (by decide) (fun c16 => ?_) (fun c16 => ?_)
          · have h := br_1 h c16
            refine lv_iconst (v := (1 : Int32)) hx hb dX6_isOf_29 (by decide) ?_
            refine lv_goto (tgt := 34) hx hb dX6_isOf_30 (by decide) ?_
            cases h
            exact hret _ _ dX6_isOf_34 (Or.inr rfl)
          · have h := br_0 h c16
            exact n19 x0 x1 h _ (lv_sub hl [0, 1] rfl)
  exact key _ (fun pc ls hd hb1 => W.zret hx hb hr (b01_n hb1) (fun t ht hW => ⟨_, rfl, ⟨rfl, hb1⟩, ht⟩) (fun q h => by cases h) hd)
set_option maxHeartbeats 4000000 in
set_option maxRecDepth 100000 in
theorem kX6_kept20 (l : Launch) (D : va_G) (T : Nat → ClassId) (F : Nat) (x0 : Int32) (r : Int32) (h : fX6_kept20 F x0 = some (r)) : Met l yX6_kept20 wsX6_kept20 ({ frames := 0, cells := 0, slots := 0, locals := 0 } : Room) (va_Pc [.int x0] (fun U => va_P D vwCl ([] : va_W) U.heap ∧ KK D T U)) (vp_Si (fun r' => r' = r)) 0 0 (fun _ => False) := by
  refine Met.ofW (cc := cX6_kept20) (maxL := 1) (ret := some .int) (by decide) rfl ?_
  intro p e s m args below meth c s₁ B hml hv
  obtain ⟨ha, hP, hKK⟩ := hv
  have hx := B.exec
  have hb := B.bytes
  have hr := B.returns
  have hts := atoms_spec (ws := wsX6_kept20) B.pre
  have hown : s.vm.findClass RX6 = some m.cls := findClass_of_methodNamed B.named
  have hlocks := B.notSynchronized
  have hK := hKK.1
  have hFix : CallFix p m c cX6_kept20 1 s args wsX6_kept20 RX6 := ⟨hx, hb, hml, hown, hts⟩
  obtain ⟨ls, hl, e0⟩ := my_entry (m := m) (n := 1) ha (Nat.le_of_ble_eq_true rfl)
  rw [e0]
  have hl : lv_has ls 1 [(0, .int x0)] := hl
  have key : ∀ Q : State → Prop, (∀ (pc : Nat) (ls : Array Slot), decode cX6_kept20 pc = .ok (.ireturn, 1) → W p l e ({ frames := 0, cells := 0, slots := 0, locals := 0 } : Room) s m args below meth c s.heap [] 0 0 Q (F0 m pc ls [.int r])) → W p l e ({ frames := 0, cells := 0, slots := 0, locals := 0 } : Room) s m args below meth c s.heap [] 0 0 Q (F0 m 0 ls []) := by
    intro Q hret
    unfold fX6_kept20 at h
    refine lv_iload_n hx hb dX6_kept20_0 rfl (lv_at hl 0 rfl) ?_
    refine lv_if_ge (tgt := 8) hx hb dX6_kept20_1 (by decide) (fun c1 => ?_) (fun c1 => ?_)
    · have h := br_1 h c1
      refine lv_iload_n hx hb dX6_kept20_8 rfl (lv_at hl 0 rfl) ?_
      refine lv_bipush (v := (20 : Int32)) hx hb dX6_kept20_9 (by decide) ?_
      refine lv_icmp_le (tgt := 19) hx hb dX6_kept20_11 (by decide) (fun c11 => ?_) (fun c11 => ?_)
      · have h := br_1 h c11
        refine lv_iload_n hx hb dX6_kept20_19 rfl (lv_at hl 0 rfl) ?_
        cases h
        exact hret _ _ dX6_kept20_20
      · have h := br_0 h c11
        refine lv_bipush (v := (20 : Int32)) hx hb dX6_kept20_14 (by decide) ?_
        refine lv_goto (tgt := 20) hx hb dX6_kept20_16 (by decide) ?_
        cases h
        exact hret _ _ dX6_kept20_20
    · have h := br_0 h c1
      refine lv_iconst (v := (0 : Int32)) hx hb dX6_kept20_4 (by decide) ?_
      refine lv_goto (tgt := 20) hx hb dX6_kept20_5 (by decide) ?_
      cases h
      exact hret _ _ dX6_kept20_20
  exact key _ (fun pc ls hd => W.iret hx hb hr (fun t ht hW => ⟨_, rfl, rfl, ht⟩) (fun q h => by cases h) hd)
set_option maxHeartbeats 4000000 in
set_option maxRecDepth 100000 in
theorem kX6_griefBehind (l : Launch) (D : va_G) (T : Nat → ClassId) (F : Nat) (x0 : Int32) (x1 : Int32) (x2 : Int32) (x3 : Int32) (r : Int32) (h : fX6_griefBehind F x0 x1 x2 x3 = some (r)) : Met l yX6_griefBehind wsX6_griefBehind ({ frames := 1, cells := 0, slots := 0, locals := 21 } : Room) (va_Pc [.int x0, .int x1, .int x2, .int x3] (fun U => va_P D vwCl ([] : va_W) U.heap ∧ KK D T U)) (vp_Si (fun r' => r' = r)) 0 0 (fun _ => False) := by
  refine Met.ofW (cc := cX6_griefBehind) (maxL := 5) (ret := some .int) (by decide) rfl ?_
  intro p e s m args below meth c s₁ B hml hv
  obtain ⟨ha, hP, hKK⟩ := hv
  have hx := B.exec
  have hb := B.bytes
  have hr := B.returns
  have hts := atoms_spec (ws := wsX6_griefBehind) B.pre
  have hown : s.vm.findClass RX6 = some m.cls := findClass_of_methodNamed B.named
  have hlocks := B.notSynchronized
  have hK := hKK.1
  have hFix : CallFix p m c cX6_griefBehind 5 s args wsX6_griefBehind RX6 := ⟨hx, hb, hml, hown, hts⟩
  obtain ⟨ls, hl, e0⟩ := my_entry (m := m) (n := 5) ha (Nat.le_of_ble_eq_true rfl)
  rw [e0]
  have hl : lv_has ls 5 [(0, .int x0), (1, .int x1), (2, .int x2), (3, .int x3)] := hl
  have key : ∀ Q : State → Prop, (∀ (pc : Nat) (ls : Array Slot), decode cX6_griefBehind pc = .ok (.ireturn, 1) → W p l e ({ frames := 1, cells := 0, slots := 0, locals := 21 } : Room) s m args below meth c s.heap [] 0 0 Q (F0 m pc ls [.int r])) → W p l e ({ frames := 1, cells := 0, slots := 0, locals := 21 } : Room) s m args below meth c s.heap [] 0 0 Q (F0 m 0 ls []) := by
    intro Q hret
    have n40 : ∀ s_0 : Int32, ∀ s_1 : Int32, ∀ x1 : Int32, fX6_griefBehind_n40 F s_0 s_1 x1 = some (r) → ∀ (ls : Array Slot), lv_has ls 5 [(1, .int x1)] → W p l e ({ frames := 1, cells := 0, slots := 0, locals := 21 } : Room) s m args below meth c s.heap [] 0 0 Q (F0 m 40 ls [.int s_1, .int s_0]) := by
      intro s_0 s_1 x1 h ls hl
      unfold fX6_griefBehind_n40 at h
      refine lv_isub hx hb dX6_griefBehind_40 ?_
      refine lv_istore (lv' := [(4, .int (s_0 - s_1)), (1, .int x1)]) hx hb dX6_griefBehind_41 hl (by decide) rfl (fun ls hl => ?_)
      refine lv_goto (tgt := 92) hx hb dX6_griefBehind_43 (by decide) ?_
      refine lv_iload_n hx hb dX6_griefBehind_92 rfl (lv_at hl 1 rfl) ?_
      refine lv_iload hx hb dX6_griefBehind_93 (lv_at hl 0 rfl) ?_
      refine lv_iadd hx hb dX6_griefBehind_95 ?_
      obtain ⟨r96, hc, h⟩ := bd1_some h
      refine my_roi (va_Run.run (va_runS (As := [.int (x1 + (s_0 - s_1))]) (rest := []) hFix (kX6_kept20 l D T F (x1 + (s_0 - s_1)) r96 hc) (va_cwS 1 hts gX6_griefBehind_X6_kept20 rfl rfl rfl hd_X6_kept20 ⟨Nat.le_of_ble_eq_true rfl, Nat.le_of_ble_eq_true rfl⟩) (preS_ro hP hKK) rfl rfl hl.1 rfl (lv_room (Nat.le_of_ble_eq_true rfl)) dX6_griefBehind_96 ⟨Nat.zero_le _, Nat.zero_le _⟩)) ?_
      cases h
      exact hret _ _ dX6_griefBehind_99
    have n66 : ∀ s_0 : Int32, ∀ x1 : Int32, fX6_griefBehind_n66 F s_0 x1 = some (r) → ∀ (ls : Array Slot), lv_has ls 5 [(1, .int x1)] → W p l e ({ frames := 1, cells := 0, slots := 0, locals := 21 } : Room) s m args below meth c s.heap [] 0 0 Q (F0 m 66 ls [.int s_0]) := by
      intro s_0 x1 h ls hl
      unfold fX6_griefBehind_n66 at h
      refine lv_istore (lv' := [(4, .int s_0), (1, .int x1)]) hx hb dX6_griefBehind_66 hl (by decide) rfl (fun ls hl => ?_)
      refine lv_goto (tgt := 92) hx hb dX6_griefBehind_68 (by decide) ?_
      refine lv_iload_n hx hb dX6_griefBehind_92 rfl (lv_at hl 1 rfl) ?_
      refine lv_iload hx hb dX6_griefBehind_93 (lv_at hl 0 rfl) ?_
      refine lv_iadd hx hb dX6_griefBehind_95 ?_
      obtain ⟨r96, hc, h⟩ := bd1_some h
      refine my_roi (va_Run.run (va_runS (As := [.int (x1 + s_0)]) (rest := []) hFix (kX6_kept20 l D T F (x1 + s_0) r96 hc) (va_cwS 1 hts gX6_griefBehind_X6_kept20 rfl rfl rfl hd_X6_kept20 ⟨Nat.le_of_ble_eq_true rfl, Nat.le_of_ble_eq_true rfl⟩) (preS_ro hP hKK) rfl rfl hl.1 rfl (lv_room (Nat.le_of_ble_eq_true rfl)) dX6_griefBehind_96 ⟨Nat.zero_le _, Nat.zero_le _⟩)) ?_
      cases h
      exact hret _ _ dX6_griefBehind_99
    have n90 : ∀ s_0 : Int32, ∀ x1 : Int32, fX6_griefBehind_n90 F s_0 x1 = some (r) → ∀ (ls : Array Slot), lv_has ls 5 [(1, .int x1)] → W p l e ({ frames := 1, cells := 0, slots := 0, locals := 21 } : Room) s m args below meth c s.heap [] 0 0 Q (F0 m 90 ls [.int s_0]) := by
      intro s_0 x1 h ls hl
      unfold fX6_griefBehind_n90 at h
      refine lv_istore (lv' := [(4, .int s_0), (1, .int x1)]) hx hb dX6_griefBehind_90 hl (by decide) rfl (fun ls hl => ?_)
      refine lv_iload_n hx hb dX6_griefBehind_92 rfl (lv_at hl 1 rfl) ?_
      refine lv_iload hx hb dX6_griefBehind_93 (lv_at hl 0 rfl) ?_
      refine lv_iadd hx hb dX6_griefBehind_95 ?_
      obtain ⟨r96, hc, h⟩ := bd1_some h
      refine my_roi (va_Run.run (va_runS (As := [.int (x1 + s_0)]) (rest := []) hFix (kX6_kept20 l D T F (x1 + s_0) r96 hc) (va_cwS 1 hts gX6_griefBehind_X6_kept20 rfl rfl rfl hd_X6_kept20 ⟨Nat.le_of_ble_eq_true rfl, Nat.le_of_ble_eq_true rfl⟩) (preS_ro hP hKK) rfl rfl hl.1 rfl (lv_room (Nat.le_of_ble_eq_true rfl)) dX6_griefBehind_96 ⟨Nat.zero_le _, Nat.zero_le _⟩)) ?_
      cases h
      exact hret _ _ dX6_griefBehind_99
    have n12 : ∀ x0 : Int32, ∀ x1 : Int32, ∀ x2 : Int32, ∀ x3 : Int32, fX6_griefBehind_n12 F x0 x1 x2 x3 = some (r) → ∀ (ls : Array Slot), lv_has ls 5 [(0, .int x0), (1, .int x1), (2, .int x2), (3, .int x3)] → W p l e ({ frames := 1, cells := 0, slots := 0, locals := 21 } : Room) s m args below meth c s.heap [] 0 0 Q (F0 m 12 ls []) := by
      intro x0 x1 x2 x3 h ls hl
      unfold fX6_griefBehind_n12 at h
      refine lv_iload_n hx hb dX6_griefBehind_12 rfl (lv_at hl 3 rfl) ?_
      refine lv_istore (lv' := [(4, .int x3), (0, .int x0), (1, .int x1), (2, .int x2), (3, .int x3)]) hx hb dX6_griefBehind_13 hl (by decide) rfl (fun ls hl => ?_)
      refine lv_iload_n hx hb dX6_griefBehind_15 rfl (lv_at hl 1 rfl) ?_
      refine lv_iconst (v := (1 : Int32)) hx hb dX6_griefBehind_16 (by decide) ?_
      obtain ⟨r17, hc, h⟩ := bd1_some h
      refine my_roz (va_Run.run (va_runS (As := [.int x0, .int (1 : Int32)]) (rest := []) hFix (kX6_isOf l D T F x0 (1 : Int32) r17 hc) (va_cwS 2 hts gX6_griefBehind_X6_isOf rfl rfl rfl hd_X6_isOf ⟨Nat.le_of_ble_eq_true rfl, Nat.le_of_ble_eq_true rfl⟩) (preS_ro hP hKK) rfl rfl hl.1 rfl (lv_room (Nat.le_of_ble_eq_true rfl)) dX6_griefBehind_17 ⟨Nat.zero_le _, Nat.zero_le _⟩)) (fun hb17 => ?_)
      refine lv_if_eq (tgt := 46) hx hb dX6_griefBehind_20 (by decide) (fun c20 => ?_) (fun c20 => ?_)
      · have h := br_1 h c20
        refine lv_iload_n hx hb dX6_griefBehind_46 rfl (lv_at hl 1 rfl) ?_
        refine lv_iconst (v := (2 : Int32)) hx hb dX6_griefBehind_47 (by decide) ?_
        obtain ⟨r48, hc, h⟩ := bd1_some h
        refine my_roz (va_Run.run (va_runS (As := [.int x0, .int (2 : Int32)]) (rest := []) hFix (kX6_isOf l D T F x0 (2 : Int32) r48 hc) (va_cwS 2 hts gX6_griefBehind_X6_isOf rfl rfl rfl hd_X6_isOf ⟨Nat.le_of_ble_eq_true rfl, Nat.le_of_ble_eq_true rfl⟩) (preS_ro hP hKK) rfl rfl hl.1 rfl (lv_room (Nat.le_of_ble_eq_true rfl)) dX6_griefBehind_48 ⟨Nat.zero_le _, Nat.zero_le _⟩)) (fun hb48 => ?_)
        refine lv_if_eq (tgt := 71) hx hb dX6_griefBehind_51 (by decide) (fun c51 => ?_) (fun c51 => ?_)
        · have h := br_1 h c51
          refine lv_iload_n hx hb dX6_griefBehind_71 rfl (lv_at hl 1 rfl) ?_
          refine lv_iconst (v := (3 : Int32)) hx hb dX6_griefBehind_72 (by decide) ?_
          refine lv_icmp_ne (tgt := 92) hx hb dX6_griefBehind_73 (by decide) (fun c73 => ?_) (fun c73 => ?_)
          · have h := br_0 h c73
            refine lv_iload_n hx hb dX6_griefBehind_92 rfl (lv_at hl 2 rfl) ?_
            refine lv_iload hx hb dX6_griefBehind_93 (lv_at hl 0 rfl) ?_
            refine lv_iadd hx hb dX6_griefBehind_95 ?_
            obtain ⟨r96, hc, h⟩ := bd1_some h
            refine my_roi (va_Run.run (va_runS (As := [.int (x1 + x3)]) (rest := []) hFix (kX6_kept20 l D T F (x1 + x3) r96 hc) (va_cwS 1 hts gX6_griefBehind_X6_kept20 rfl rfl rfl hd_X6_kept20 ⟨Nat.le_of_ble_eq_true rfl, Nat.le_of_ble_eq_true rfl⟩) (preS_ro hP hKK) rfl rfl hl.1 rfl (lv_room (Nat.le_of_ble_eq_true rfl)) dX6_griefBehind_96 ⟨Nat.zero_le _, Nat.zero_le _⟩)) ?_
            cases h
            exact hret _ _ dX6_griefBehind_99
          · have h := br_1 h c73
            refine lv_iload hx hb dX6_griefBehind_76 (lv_at hl 0 rfl) ?_
            refine lv_if_le (tgt := 88) hx hb dX6_griefBehind_78 (by decide) (fun c78 => ?_) (fun c78 => ?_)
            · have h := br_1 h c78
              refine lv_iload hx hb dX6_griefBehind_88 (lv_at hl 0 rfl) ?_
              exact n90 x3 x1 h _ (lv_sub hl [2] rfl)
            · have h := br_0 h c78
              refine lv_iconst (v := (2 : Int32)) hx hb dX6_griefBehind_81 (by decide) ?_
              refine lv_iload hx hb dX6_griefBehind_82 (lv_at hl 0 rfl) ?_
              refine lv_imul hx hb dX6_griefBehind_84 ?_
              refine lv_goto (tgt := 90) hx hb dX6_griefBehind_85 (by decide) ?_
              exact n90 ((2 : Int32) * x3) x1 h _ (lv_sub hl [2] rfl)
        · have h := br_0 h c51
          refine lv_iload hx hb dX6_griefBehind_54 (lv_at hl 0 rfl) ?_
          refine lv_iconst (v := (1 : Int32)) hx hb dX6_griefBehind_56 (by decide) ?_
          refine lv_icmp_le (tgt := 64) hx hb dX6_griefBehind_57 (by decide) (fun c57 => ?_) (fun c57 => ?_)
          · have h := br_1 h c57
            refine lv_iload hx hb dX6_griefBehind_64 (lv_at hl 0 rfl) ?_
            exact n66 x3 x1 h _ (lv_sub hl [2] rfl)
          · have h := br_0 h c57
            refine lv_iconst (v := (1 : Int32)) hx hb dX6_griefBehind_60 (by decide) ?_
            refine lv_goto (tgt := 66) hx hb dX6_griefBehind_61 (by decide) ?_
            exact n66 (1 : Int32) x1 h _ (lv_sub hl [2] rfl)
      · have h := br_0 h c20
        refine lv_iload hx hb dX6_griefBehind_23 (lv_at hl 0 rfl) ?_
        refine lv_iload_n hx hb dX6_griefBehind_25 rfl (lv_at hl 3 rfl) ?_
        refine lv_iconst (v := (1 : Int32)) hx hb dX6_griefBehind_26 (by decide) ?_
        refine lv_icmp_eq (tgt := 35) hx hb dX6_griefBehind_27 (by decide) (fun c27 => ?_) (fun c27 => ?_)
        · have h := br_1 h c27
          refine lv_iconst (v := (1 : Int32)) hx hb dX6_griefBehind_35 (by decide) ?_
          refine lv_goto (tgt := 40) hx hb dX6_griefBehind_36 (by decide) ?_
          exact n40 x3 (1 : Int32) x1 h _ (lv_sub hl [2] rfl)
        · have h := br_0 h c27
          refine lv_iload_n hx hb dX6_griefBehind_30 rfl (lv_at hl 3 rfl) ?_
          refine lv_iconst (v := (2 : Int32)) hx hb dX6_griefBehind_31 (by decide) ?_
          refine lv_icmp_ne (tgt := 39) hx hb dX6_griefBehind_32 (by decide) (fun c32 => ?_) (fun c32 => ?_)
          · have h := br_0 h c32
            refine lv_iconst (v := (0 : Int32)) hx hb dX6_griefBehind_39 (by decide) ?_
            exact n40 x3 (0 : Int32) x1 h _ (lv_sub hl [2] rfl)
          · have h := br_1 h c32
            refine lv_iconst (v := (1 : Int32)) hx hb dX6_griefBehind_35 (by decide) ?_
            refine lv_goto (tgt := 40) hx hb dX6_griefBehind_36 (by decide) ?_
            exact n40 x3 (1 : Int32) x1 h _ (lv_sub hl [2] rfl)
    unfold fX6_griefBehind at h
    refine lv_iload_n hx hb dX6_griefBehind_0 rfl (lv_at hl 0 rfl) ?_
    refine lv_iconst (v := (4 : Int32)) hx hb dX6_griefBehind_1 (by decide) ?_
    refine lv_icmp_ne (tgt := 12) hx hb dX6_griefBehind_2 (by decide) (fun c2 => ?_) (fun c2 => ?_)
    · have h := br_0 h c2
      exact n12 x0 x1 x2 x3 h _ (lv_sub hl [0, 1, 2, 3] rfl)
    · have h := br_1 h c2
      refine lv_iload_n hx hb dX6_griefBehind_5 rfl (lv_at hl 2 rfl) ?_
      refine lv_iconst (v := (1 : Int32)) hx hb dX6_griefBehind_6 (by decide) ?_
      refine lv_icmp_ne (tgt := 12) hx hb dX6_griefBehind_7 (by decide) (fun c7 => ?_) (fun c7 => ?_)
      · have h := br_0 h c7
        exact n12 x0 x1 x2 x3 h _ (lv_sub hl [0, 1, 2, 3] rfl)
      · have h := br_1 h c7
        refine lv_iconst (v := (0 : Int32)) hx hb dX6_griefBehind_10 (by decide) ?_
        cases h
        exact hret _ _ dX6_griefBehind_11
  exact key _ (fun pc ls hd => W.iret hx hb hr (fun t ht hW => ⟨_, rfl, rfl, ht⟩) (fun q h => by cases h) hd)
set_option maxHeartbeats 4000000 in
set_option maxRecDepth 100000 in
theorem kX6_named (l : Launch) (D : va_G) (T : Nat → ClassId) (F : Nat) (x0 : Int32) (x1 : Int32) (r : Int32) (h : fX6_named F x0 x1 = some (r)) : Met l yX6_named wsX6_named ({ frames := 1, cells := 0, slots := 0, locals := 21 } : Room) (va_Pc [.int x0, .int x1] (fun U => va_P D vwCl ([] : va_W) U.heap ∧ KK D T U)) (vp_Si (fun r' => r' = r)) 0 0 (fun _ => False) := by
  refine Met.ofW (cc := cX6_named) (maxL := 2) (ret := some .int) (by decide) rfl ?_
  intro p e s m args below meth c s₁ B hml hv
  obtain ⟨ha, hP, hKK⟩ := hv
  have hx := B.exec
  have hb := B.bytes
  have hr := B.returns
  have hts := atoms_spec (ws := wsX6_named) B.pre
  have hown : s.vm.findClass RX6 = some m.cls := findClass_of_methodNamed B.named
  have hlocks := B.notSynchronized
  have hK := hKK.1
  have hFix : CallFix p m c cX6_named 2 s args wsX6_named RX6 := ⟨hx, hb, hml, hown, hts⟩
  obtain ⟨ls, hl, e0⟩ := my_entry (m := m) (n := 2) ha (Nat.le_of_ble_eq_true rfl)
  rw [e0]
  have hl : lv_has ls 2 [(0, .int x0), (1, .int x1)] := hl
  have key : ∀ Q : State → Prop, (∀ (pc : Nat) (ls : Array Slot), decode cX6_named pc = .ok (.ireturn, 1) → W p l e ({ frames := 1, cells := 0, slots := 0, locals := 21 } : Room) s m args below meth c s.heap [] 0 0 Q (F0 m pc ls [.int r])) → W p l e ({ frames := 1, cells := 0, slots := 0, locals := 21 } : Room) s m args below meth c s.heap [] 0 0 Q (F0 m 0 ls []) := by
    intro Q hret
    unfold fX6_named at h
    refine lv_iload_n hx hb dX6_named_0 rfl (lv_at hl 1 rfl) ?_
    refine lv_iload_n hx hb dX6_named_1 rfl (lv_at hl 0 rfl) ?_
    refine lv_iconst (v := (2 : Int32)) hx hb dX6_named_2 (by decide) ?_
    obtain ⟨r3, hc, h⟩ := bd1_some h
    refine my_roz (va_Run.run (va_runS (As := [.int x0, .int (2 : Int32)]) (rest := [.int x1]) hFix (kX6_isOf l D T F x0 (2 : Int32) r3 hc) (va_cwS 2 hts gX6_named_X6_isOf rfl rfl rfl hd_X6_isOf ⟨Nat.le_of_ble_eq_true rfl, Nat.le_of_ble_eq_true rfl⟩) (preS_ro hP hKK) rfl rfl hl.1 rfl (lv_room (Nat.le_of_ble_eq_true rfl)) dX6_named_3 ⟨Nat.zero_le _, Nat.zero_le _⟩)) (fun hb3 => ?_)
    refine lv_if_eq (tgt := 13) hx hb dX6_named_6 (by decide) (fun c6 => ?_) (fun c6 => ?_)
    · have h := br_1 h c6
      refine lv_iload_n hx hb dX6_named_13 rfl (lv_at hl 0 rfl) ?_
      refine lv_iconst (v := (3 : Int32)) hx hb dX6_named_14 (by decide) ?_
      refine lv_icmp_ne (tgt := 22) hx hb dX6_named_15 (by decide) (fun c15 => ?_) (fun c15 => ?_)
      · have h := br_0 h c15
        refine lv_iconst (v := (2 : Int32)) hx hb dX6_named_22 (by decide) ?_
        refine lv_iadd hx hb dX6_named_23 ?_
        obtain ⟨r24, hc, h⟩ := bd1_some h
        refine my_roi (va_Run.run (va_runS (As := [.int (x1 + (2 : Int32))]) (rest := []) hFix (kX6_kept20 l D T F (x1 + (2 : Int32)) r24 hc) (va_cwS 1 hts gX6_named_X6_kept20 rfl rfl rfl hd_X6_kept20 ⟨Nat.le_of_ble_eq_true rfl, Nat.le_of_ble_eq_true rfl⟩) (preS_ro hP hKK) rfl rfl hl.1 rfl (lv_room (Nat.le_of_ble_eq_true rfl)) dX6_named_24 ⟨Nat.zero_le _, Nat.zero_le _⟩)) ?_
        cases h
        exact hret _ _ dX6_named_27
      · have h := br_1 h c15
        refine lv_iconst (v := (4 : Int32)) hx hb dX6_named_18 (by decide) ?_
        refine lv_goto (tgt := 23) hx hb dX6_named_19 (by decide) ?_
        refine lv_iadd hx hb dX6_named_23 ?_
        obtain ⟨r24, hc, h⟩ := bd1_some h
        refine my_roi (va_Run.run (va_runS (As := [.int (x1 + (4 : Int32))]) (rest := []) hFix (kX6_kept20 l D T F (x1 + (4 : Int32)) r24 hc) (va_cwS 1 hts gX6_named_X6_kept20 rfl rfl rfl hd_X6_kept20 ⟨Nat.le_of_ble_eq_true rfl, Nat.le_of_ble_eq_true rfl⟩) (preS_ro hP hKK) rfl rfl hl.1 rfl (lv_room (Nat.le_of_ble_eq_true rfl)) dX6_named_24 ⟨Nat.zero_le _, Nat.zero_le _⟩)) ?_
        cases h
        exact hret _ _ dX6_named_27
    · have h := br_0 h c6
      refine lv_iconst (v := (1 : Int32)) hx hb dX6_named_9 (by decide) ?_
      refine lv_goto (tgt := 23) hx hb dX6_named_10 (by decide) ?_
      refine lv_iadd hx hb dX6_named_23 ?_
      obtain ⟨r24, hc, h⟩ := bd1_some h
      refine my_roi (va_Run.run (va_runS (As := [.int (x1 + (1 : Int32))]) (rest := []) hFix (kX6_kept20 l D T F (x1 + (1 : Int32)) r24 hc) (va_cwS 1 hts gX6_named_X6_kept20 rfl rfl rfl hd_X6_kept20 ⟨Nat.le_of_ble_eq_true rfl, Nat.le_of_ble_eq_true rfl⟩) (preS_ro hP hKK) rfl rfl hl.1 rfl (lv_room (Nat.le_of_ble_eq_true rfl)) dX6_named_24 ⟨Nat.zero_le _, Nat.zero_le _⟩)) ?_
      cases h
      exact hret _ _ dX6_named_27
  exact key _ (fun pc ls hd => W.iret hx hb hr (fun t ht hW => ⟨_, rfl, rfl, ht⟩) (fun q h => by cases h) hd)
set_option maxHeartbeats 4000000 in
set_option maxRecDepth 100000 in
theorem kX6_isSeen (l : Launch) (D : va_G) (T : Nat → ClassId) (F : Nat) (am : Nat → Nat) (mguests : Int32) (mclause : Int32) (mdeeds : Int32) (masked : Int32) (mupper : Int64) (mlower : Int64) (mfinding : Int32) (mreadGuests : Int32) (misSight : Int32) (mat : Int32) (msees : Nat → Int32) (x1 : Int32) (x2 : Int32) (r : Int32) (h : fX6_isSeen F mguests msees x1 x2 = some (r)) : Met l yX6_isSeen wsX6_isSeen ({ frames := 1, cells := 0, slots := 0, locals := 21 } : Room) (va_Pc [.ref (am 0), .int x1, .int x2] (fun U => va_P D vwCl (wMs T am mguests mclause mdeeds masked mupper mlower mfinding mreadGuests misSight mat msees) U.heap ∧ KK D T U)) (vp_Si (fun r' => r' = r ∧ b01 r)) 0 0 (fun _ => False) := by
  refine Met.ofW (cc := cX6_isSeen) (maxL := 5) (ret := some .boolean) (by decide) rfl ?_
  intro p e s m args below meth c s₁ B hml hv
  obtain ⟨ha, hP, hKK⟩ := hv
  have hx := B.exec
  have hb := B.bytes
  have hr := B.returns
  have hts := atoms_spec (ws := wsX6_isSeen) B.pre
  have hown : s.vm.findClass RX6 = some m.cls := findClass_of_methodNamed B.named
  have hlocks := B.notSynchronized
  have hK := hKK.1
  have hFix : CallFix p m c cX6_isSeen 5 s args wsX6_isSeen RX6 := ⟨hx, hb, hml, hown, hts⟩
  have q1 := hts _ (List.mem_of_getElem? (i := 1) (show wsX6_isSeen[1]? = some (Cond.fieldLink RX6 131 "PartyWillModel" "guests" "I") from rfl))
  have q2 := hts _ (List.mem_of_getElem? (i := 2) (show wsX6_isSeen[2]? = some (Cond.fieldLink RX6 28 "PartyWillModel" "sees" "[I") from rfl))
  have iX6 : ∀ w ∈ u_ws RX6 TX6 27, w ∈ wsX6_isSeen := fun w h => List.mem_cons_of_mem _ (List.mem_append_right _ (h))
  obtain ⟨ls, hl, e0⟩ := my_entry (m := m) (n := 5) ha (Nat.le_of_ble_eq_true rfl)
  rw [e0]
  have hl : lv_has ls 5 [(0, .ref (am 0)), (1, .int x1), (2, .int x2)] := hl
  have key : ∀ Q : State → Prop, (∀ (pc : Nat) (ls : Array Slot), decode cX6_isSeen pc = .ok (.ireturn, 1) → b01 r → W p l e ({ frames := 1, cells := 0, slots := 0, locals := 21 } : Room) s m args below meth c s.heap [] 0 0 Q (F0 m pc ls [.int r])) → W p l e ({ frames := 1, cells := 0, slots := 0, locals := 21 } : Room) s m args below meth c s.heap [] 0 0 Q (F0 m 0 ls []) := by
    intro Q hret
    have l5 : ∀ x1 : Int32, ∀ x2 : Int32, ∀ nu : Nat, ∀ x3 : Int32, ∀ x4 : Int32, fX6_isSeen_l5 F mguests msees x1 x2 nu x3 x4 = some (r) → b01 x3 → ∀ (ls : Array Slot), lv_has ls 5 [(0, .ref (am 0)), (1, .int x1), (2, .int x2), (3, .int x3), (4, .int x4)] → W p l e ({ frames := 1, cells := 0, slots := 0, locals := 21 } : Room) s m args below meth c s.heap [] 0 0 Q (F0 m 5 ls []) := by
      intro x1 x2
      intro nu
      induction nu with
      | zero => intro x3 x4 h; exact none_some h
      | succ nu5 ih5 =>
        intro x3 x4 h hbx3 ls hl
        have h : fX6_isSeen_l5_b F mguests msees x1 x2 (fX6_isSeen_l5 F mguests msees x1 x2 nu5) x3 x4 = some (r) := h
        unfold fX6_isSeen_l5_b at h
        refine lv_iload hx hb dX6_isSeen_5 (lv_at hl 4 rfl) ?_
        refine lv_aload_n hx hb dX6_isSeen_7 rfl (lv_at hl 0 rfl) ?_
        refine va_get (D := D) (ci := 4) (C := RX6) (T := TX6) (N := 27) hx hb hts iX6 hown hK hP 0 wMs_0 rfl 4 (by decide) q1 (fun _ h9 => h9) rfl dX6_isSeen_8 ?_
        refine lv_icmp_ge (tgt := 53) hx hb dX6_isSeen_11 (by decide) (fun c11 => ?_) (fun c11 => ?_)
        · have h := br_1 h c11
          refine lv_iload_n hx hb dX6_isSeen_53 rfl (lv_at hl 3 rfl) ?_
          cases h
          exact hret _ _ dX6_isSeen_54 hbx3
        · have h := br_0 h c11
          refine lv_iload_n hx hb dX6_isSeen_14 rfl (lv_at hl 3 rfl) ?_
          refine lv_if_ne (tgt := 41) hx hb dX6_isSeen_15 (by decide) (fun c15 => ?_) (fun c15 => ?_)
          · have h := br_0 h c15
            refine lv_iconst (v := (1 : Int32)) hx hb dX6_isSeen_41 (by decide) ?_
            refine lv_goto (tgt := 46) hx hb dX6_isSeen_42 (by decide) ?_
            refine lv_istore_n (lv' := [(3, .int (1 : Int32)), (0, .ref (am 0)), (1, .int x1), (2, .int x2), (4, .int x4)]) hx hb dX6_isSeen_46 rfl hl (by decide) rfl (fun ls hl => ?_)
            refine lv_iinc (v := (x4 + (1 : Int32))) (lv' := [(4, .int (x4 + (1 : Int32))), (3, .int (1 : Int32)), (0, .ref (am 0)), (1, .int x1), (2, .int x2)]) hx hb dX6_isSeen_47 hl (k := 4) rfl rfl (by decide) rfl (fun ls hl => ?_)
            refine lv_goto (tgt := 5) hx hb dX6_isSeen_50 (by decide) ?_
            exact ih5 (1 : Int32) (x4 + (1 : Int32)) h (Or.inr rfl) _ (lv_sub hl [2, 3, 4, 1, 0] rfl)
          · have h := br_1 h c15
            refine lv_iload_n hx hb dX6_isSeen_18 rfl (lv_at hl 2 rfl) ?_
            refine lv_iload hx hb dX6_isSeen_19 (lv_at hl 4 rfl) ?_
            obtain ⟨r21, hc, h⟩ := bd1_some h
            refine my_roz (va_Run.run (va_runS (As := [.int x2, .int x4]) (rest := []) hFix (kX6_has l D T F x2 x4 r21 hc) (va_cwS 2 hts gX6_isSeen_X6_has rfl rfl rfl hd_X6_has ⟨Nat.le_of_ble_eq_true rfl, Nat.le_of_ble_eq_true rfl⟩) (preS_ro va_nil hKK) rfl rfl hl.1 rfl (lv_room (Nat.le_of_ble_eq_true rfl)) dX6_isSeen_21 ⟨Nat.zero_le _, Nat.zero_le _⟩)) (fun hb21 => ?_)
            refine lv_if_eq (tgt := 45) hx hb dX6_isSeen_24 (by decide) (fun c24 => ?_) (fun c24 => ?_)
            · have h := br_1 h c24
              refine lv_iconst (v := (0 : Int32)) hx hb dX6_isSeen_45 (by decide) ?_
              refine lv_istore_n (lv' := [(3, .int (0 : Int32)), (0, .ref (am 0)), (1, .int x1), (2, .int x2), (4, .int x4)]) hx hb dX6_isSeen_46 rfl hl (by decide) rfl (fun ls hl => ?_)
              refine lv_iinc (v := (x4 + (1 : Int32))) (lv' := [(4, .int (x4 + (1 : Int32))), (3, .int (0 : Int32)), (0, .ref (am 0)), (1, .int x1), (2, .int x2)]) hx hb dX6_isSeen_47 hl (k := 4) rfl rfl (by decide) rfl (fun ls hl => ?_)
              refine lv_goto (tgt := 5) hx hb dX6_isSeen_50 (by decide) ?_
              exact ih5 (0 : Int32) (x4 + (1 : Int32)) h (Or.inl rfl) _ (lv_sub hl [2, 3, 4, 1, 0] rfl)
            · have h := br_0 h c24
              refine lv_aload_n hx hb dX6_isSeen_27 rfl (lv_at hl 0 rfl) ?_
              refine va_get (D := D) (ci := 4) (C := RX6) (T := TX6) (N := 27) hx hb hts iX6 hown hK hP 0 wMs_0 rfl 8 (by decide) q2 (fun _ h9 => h9) rfl dX6_isSeen_28 ?_
              refine lv_iload hx hb dX6_isSeen_31 (lv_at hl 4 rfl) ?_
              obtain ⟨hin1, h⟩ := ck_some h
              refine va_iald hx hb hK hP 1 0 wMs_1 rfl hin1 dX6_isSeen_33 ?_
              refine lv_iload_n hx hb dX6_isSeen_34 rfl (lv_at hl 1 rfl) ?_
              obtain ⟨r35, hc, h⟩ := bd1_some h
              refine my_roz (va_Run.run (va_runS (As := [.int (msees x4.toNatClampNeg), .int x1]) (rest := []) hFix (kX6_has l D T F (msees x4.toNatClampNeg) x1 r35 hc) (va_cwS 2 hts gX6_isSeen_X6_has rfl rfl rfl hd_X6_has ⟨Nat.le_of_ble_eq_true rfl, Nat.le_of_ble_eq_true rfl⟩) (preS_ro va_nil hKK) rfl rfl hl.1 rfl (lv_room (Nat.le_of_ble_eq_true rfl)) dX6_isSeen_35 ⟨Nat.zero_le _, Nat.zero_le _⟩)) (fun hb35 => ?_)
              refine lv_if_eq (tgt := 45) hx hb dX6_isSeen_38 (by decide) (fun c38 => ?_) (fun c38 => ?_)
              · have h := br_1 h c38
                refine lv_iconst (v := (0 : Int32)) hx hb dX6_isSeen_45 (by decide) ?_
                refine lv_istore_n (lv' := [(3, .int (0 : Int32)), (0, .ref (am 0)), (1, .int x1), (2, .int x2), (4, .int x4)]) hx hb dX6_isSeen_46 rfl hl (by decide) rfl (fun ls hl => ?_)
                refine lv_iinc (v := (x4 + (1 : Int32))) (lv' := [(4, .int (x4 + (1 : Int32))), (3, .int (0 : Int32)), (0, .ref (am 0)), (1, .int x1), (2, .int x2)]) hx hb dX6_isSeen_47 hl (k := 4) rfl rfl (by decide) rfl (fun ls hl => ?_)
                refine lv_goto (tgt := 5) hx hb dX6_isSeen_50 (by decide) ?_
                exact ih5 (0 : Int32) (x4 + (1 : Int32)) h (Or.inl rfl) _ (lv_sub hl [2, 3, 4, 1, 0] rfl)
              · have h := br_0 h c38
                refine lv_iconst (v := (1 : Int32)) hx hb dX6_isSeen_41 (by decide) ?_
                refine lv_goto (tgt := 46) hx hb dX6_isSeen_42 (by decide) ?_
                refine lv_istore_n (lv' := [(3, .int (1 : Int32)), (0, .ref (am 0)), (1, .int x1), (2, .int x2), (4, .int x4)]) hx hb dX6_isSeen_46 rfl hl (by decide) rfl (fun ls hl => ?_)
                refine lv_iinc (v := (x4 + (1 : Int32))) (lv' := [(4, .int (x4 + (1 : Int32))), (3, .int (1 : Int32)), (0, .ref (am 0)), (1, .int x1), (2, .int x2)]) hx hb dX6_isSeen_47 hl (k := 4) rfl rfl (by decide) rfl (fun ls hl => ?_)
                refine lv_goto (tgt := 5) hx hb dX6_isSeen_50 (by decide) ?_
                exact ih5 (1 : Int32) (x4 + (1 : Int32)) h (Or.inr rfl) _ (lv_sub hl [2, 3, 4, 1, 0] rfl)
    unfold fX6_isSeen at h
    refine lv_iconst (v := (0 : Int32)) hx hb dX6_isSeen_0 (by decide) ?_
    refine lv_istore_n (lv' := [(3, .int (0 : Int32)), (0, .ref (am 0)), (1, .int x1), (2, .int x2)]) hx hb dX6_isSeen_1 rfl hl (by decide) rfl (fun ls hl => ?_)
    refine lv_iconst (v := (0 : Int32)) hx hb dX6_isSeen_2 (by decide) ?_
    refine lv_istore (lv' := [(4, .int (0 : Int32)), (3, .int (0 : Int32)), (0, .ref (am 0)), (1, .int x1), (2, .int x2)]) hx hb dX6_isSeen_3 hl (by decide) rfl (fun ls hl => ?_)
    exact l5 x1 x2 F (0 : Int32) (0 : Int32) h (Or.inl rfl) _ (lv_sub hl [2, 3, 4, 1, 0] rfl)
  exact key _ (fun pc ls hd hb1 => W.zret hx hb hr (b01_n hb1) (fun t ht hW => ⟨_, rfl, ⟨rfl, hb1⟩, ht⟩) (fun q h => by cases h) hd)
