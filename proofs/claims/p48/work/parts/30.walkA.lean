set_option maxHeartbeats 4000000 in
set_option maxRecDepth 100000 in
theorem kX1_griefOf (l : Launch) (D : va_G) (T : Nat → ClassId) (F : Nat) (x0 : Int64) (x2 : Int32) (r : Int32) (h : fX1_griefOf F x0 x2 = some (r)) : Met l yX1_griefOf wsX1_griefOf ({ frames := 0, cells := 0, slots := 0, locals := 0 } : Room) (va_Pc [.long x0, .int x2] (fun U => va_P D vwCl ([] : va_W) U.heap ∧ KK D T U)) (vp_Si (fun r' => r' = r)) 0 0 (fun _ => False) := by
  refine Met.ofW (cc := cX1_griefOf) (maxL := 3) (ret := some .int) (by decide) rfl ?_
  intro p e s m args below meth c s₁ B hml hv
  obtain ⟨ha, hP, hKK⟩ := hv
  have hx := B.exec
  have hb := B.bytes
  have hr := B.returns
  have hts := atoms_spec (ws := wsX1_griefOf) B.pre
  have hown : s.vm.findClass RX1 = some m.cls := findClass_of_methodNamed B.named
  have hlocks := B.notSynchronized
  have hK := hKK.1
  have hFix : CallFix p m c cX1_griefOf 3 s args wsX1_griefOf RX1 := ⟨hx, hb, hml, hown, hts⟩
  have q1 := hts _ (List.mem_of_getElem? (i := 1) (show wsX1_griefOf[1]? = some (Cond.constantLong RX1 11 (31)) from rfl))
  obtain ⟨ls, hl, e0⟩ := my_entry (m := m) (n := 3) ha (Nat.le_of_ble_eq_true rfl)
  rw [e0]
  have hl : lv_has ls 3 [(0, .long x0), (2, .int x2)] := hl
  have key : ∀ Q : State → Prop, (∀ (pc : Nat) (ls : Array Slot), decode cX1_griefOf pc = .ok (.ireturn, 1) → W p l e ({ frames := 0, cells := 0, slots := 0, locals := 0 } : Room) s m args below meth c s.heap [] 0 0 Q (F0 m pc ls [.int r])) → W p l e ({ frames := 0, cells := 0, slots := 0, locals := 0 } : Room) s m args below meth c s.heap [] 0 0 Q (F0 m 0 ls []) := by
    intro Q hret
    unfold fX1_griefOf at h
    refine lv_lload_n hx hb dX1_griefOf_0 rfl (lv_at hl 0 rfl) ?_
    refine lv_iconst (v := (5 : Int32)) hx hb dX1_griefOf_1 (by decide) ?_
    refine lv_iload_n hx hb dX1_griefOf_2 rfl (lv_at hl 1 rfl) ?_
    refine lv_imul hx hb dX1_griefOf_3 ?_
    refine lv_lshr (v := (x0 >>> (((5 : Int32) * x2).toInt64 &&& 63))) hx hb dX1_griefOf_4 rfl ?_
    refine lv_ldc2 (v := (31 : Int64)) hx hb hown q1 dX1_griefOf_5 ?_
    refine lv_land hx hb dX1_griefOf_8 ?_
    refine lv_l2i (v := (((x0 >>> (((5 : Int32) * x2).toInt64 &&& 63)) &&& (31 : Int64)).toInt32)) hx hb dX1_griefOf_9 rfl ?_
    cases h
    exact hret _ _ dX1_griefOf_10
  exact key _ (fun pc ls hd => W.iret hx hb hr (fun t ht hW => ⟨_, rfl, rfl, ht⟩) (fun q h => by cases h) hd)
set_option maxHeartbeats 4000000 in
set_option maxRecDepth 100000 in
theorem kX1_griefOfAll (l : Launch) (D : va_G) (T : Nat → ClassId) (F : Nat) (x0 : Int64) (r : Int32) (h : fX1_griefOfAll F x0 = some (r)) : Met l yX1_griefOfAll wsX1_griefOfAll ({ frames := 1, cells := 0, slots := 0, locals := 22 } : Room) (va_Pc [.long x0] (fun U => va_P D vwCl ([] : va_W) U.heap ∧ KK D T U)) (vp_Si (fun r' => r' = r)) 0 0 (fun _ => False) := by
  refine Met.ofW (cc := cX1_griefOfAll) (maxL := 4) (ret := some .int) (by decide) rfl ?_
  intro p e s m args below meth c s₁ B hml hv
  obtain ⟨ha, hP, hKK⟩ := hv
  have hx := B.exec
  have hb := B.bytes
  have hr := B.returns
  have hts := atoms_spec (ws := wsX1_griefOfAll) B.pre
  have hown : s.vm.findClass RX1 = some m.cls := findClass_of_methodNamed B.named
  have hlocks := B.notSynchronized
  have hK := hKK.1
  have hFix : CallFix p m c cX1_griefOfAll 4 s args wsX1_griefOfAll RX1 := ⟨hx, hb, hml, hown, hts⟩
  obtain ⟨ls, hl, e0⟩ := my_entry (m := m) (n := 4) ha (Nat.le_of_ble_eq_true rfl)
  rw [e0]
  have hl : lv_has ls 4 [(0, .long x0)] := hl
  have key : ∀ Q : State → Prop, (∀ (pc : Nat) (ls : Array Slot), decode cX1_griefOfAll pc = .ok (.ireturn, 1) → W p l e ({ frames := 1, cells := 0, slots := 0, locals := 22 } : Room) s m args below meth c s.heap [] 0 0 Q (F0 m pc ls [.int r])) → W p l e ({ frames := 1, cells := 0, slots := 0, locals := 22 } : Room) s m args below meth c s.heap [] 0 0 Q (F0 m 0 ls []) := by
    intro Q hret
    have l4 : ∀ x0 : Int64, ∀ nu : Nat, ∀ x2 : Int32, ∀ x3 : Int32, fX1_griefOfAll_l4 F x0 nu x2 x3 = some (r) → ∀ (ls : Array Slot), lv_has ls 4 [(0, .long x0), (2, .int x2), (3, .int x3)] → W p l e ({ frames := 1, cells := 0, slots := 0, locals := 22 } : Room) s m args below meth c s.heap [] 0 0 Q (F0 m 4 ls []) := by
      intro x0
      intro nu
      induction nu with
      | zero => intro x2 x3 h; exact none_some h
      | succ nu4 ih4 =>
        intro x2 x3 h ls hl
        have h : fX1_griefOfAll_l4_b F x0 (fX1_griefOfAll_l4 F x0 nu4) x2 x3 = some (r) := h
        unfold fX1_griefOfAll_l4_b at h
        refine lv_iload_n hx hb dX1_griefOfAll_4 rfl (lv_at hl 2 rfl) ?_
        refine lv_bipush (v := (6 : Int32)) hx hb dX1_griefOfAll_5 (by decide) ?_
        refine lv_icmp_ge (tgt := 24) hx hb dX1_griefOfAll_7 (by decide) (fun c7 => ?_) (fun c7 => ?_)
        · have h := br_1 h c7
          refine lv_iload_n hx hb dX1_griefOfAll_24 rfl (lv_at hl 1 rfl) ?_
          cases h
          exact hret _ _ dX1_griefOfAll_25
        · have h := br_0 h c7
          refine lv_iload_n hx hb dX1_griefOfAll_10 rfl (lv_at hl 1 rfl) ?_
          refine lv_lload_n hx hb dX1_griefOfAll_11 rfl (lv_at hl 0 rfl) ?_
          refine lv_iload_n hx hb dX1_griefOfAll_12 rfl (lv_at hl 2 rfl) ?_
          obtain ⟨r13, hc, h⟩ := bd1_some h
          refine my_roi (va_Run.run (va_runS (As := [.long x0, .int x3]) (rest := [.int x2]) hFix (kX1_griefOf l D T F x0 x3 r13 hc) (va_cwS 2 hts gX1_griefOfAll_X1_griefOf rfl rfl rfl hd_X1_griefOf ⟨Nat.le_of_ble_eq_true rfl, Nat.le_of_ble_eq_true rfl⟩) (preS_ro hP hKK) rfl rfl hl.1 rfl (lv_room (Nat.le_of_ble_eq_true rfl)) dX1_griefOfAll_13 ⟨Nat.zero_le _, Nat.zero_le _⟩)) ?_
          refine lv_iadd hx hb dX1_griefOfAll_16 ?_
          refine lv_istore_n (lv' := [(2, .int (x2 + r13)), (0, .long x0), (3, .int x3)]) hx hb dX1_griefOfAll_17 rfl hl (by decide) rfl (fun ls hl => ?_)
          refine lv_iinc (v := (x3 + (1 : Int32))) (lv' := [(3, .int (x3 + (1 : Int32))), (2, .int (x2 + r13)), (0, .long x0)]) hx hb dX1_griefOfAll_18 hl (k := 2) rfl rfl (by decide) rfl (fun ls hl => ?_)
          refine lv_goto (tgt := 4) hx hb dX1_griefOfAll_21 (by decide) ?_
          exact ih4 (x2 + r13) (x3 + (1 : Int32)) h _ (lv_sub hl [2, 1, 0] rfl)
    unfold fX1_griefOfAll at h
    refine lv_iconst (v := (0 : Int32)) hx hb dX1_griefOfAll_0 (by decide) ?_
    refine lv_istore_n (lv' := [(2, .int (0 : Int32)), (0, .long x0)]) hx hb dX1_griefOfAll_1 rfl hl (by decide) rfl (fun ls hl => ?_)
    refine lv_iconst (v := (0 : Int32)) hx hb dX1_griefOfAll_2 (by decide) ?_
    refine lv_istore_n (lv' := [(3, .int (0 : Int32)), (2, .int (0 : Int32)), (0, .long x0)]) hx hb dX1_griefOfAll_3 rfl hl (by decide) rfl (fun ls hl => ?_)
    exact l4 x0 F (0 : Int32) (0 : Int32) h _ (lv_sub hl [2, 1, 0] rfl)
  exact key _ (fun pc ls hd => W.iret hx hb hr (fun t ht hW => ⟨_, rfl, rfl, ht⟩) (fun q h => by cases h) hd)
set_option maxHeartbeats 4000000 in
set_option maxRecDepth 100000 in
theorem kX1_isIn (l : Launch) (D : va_G) (T : Nat → ClassId) (F : Nat) (x0 : Int64) (x2 : Int32) (r : Int32) (h : fX1_isIn F x0 x2 = some (r)) : Met l yX1_isIn wsX1_isIn ({ frames := 0, cells := 0, slots := 0, locals := 0 } : Room) (va_Pc [.long x0, .int x2] (fun U => va_P D vwCl ([] : va_W) U.heap ∧ KK D T U)) (vp_Si (fun r' => r' = r ∧ b01 r)) 0 0 (fun _ => False) := by
  refine Met.ofW (cc := cX1_isIn) (maxL := 3) (ret := some .boolean) (by decide) rfl ?_
  intro p e s m args below meth c s₁ B hml hv
  obtain ⟨ha, hP, hKK⟩ := hv
  have hx := B.exec
  have hb := B.bytes
  have hr := B.returns
  have hts := atoms_spec (ws := wsX1_isIn) B.pre
  have hown : s.vm.findClass RX1 = some m.cls := findClass_of_methodNamed B.named
  have hlocks := B.notSynchronized
  have hK := hKK.1
  have hFix : CallFix p m c cX1_isIn 3 s args wsX1_isIn RX1 := ⟨hx, hb, hml, hown, hts⟩
  obtain ⟨ls, hl, e0⟩ := my_entry (m := m) (n := 3) ha (Nat.le_of_ble_eq_true rfl)
  rw [e0]
  have hl : lv_has ls 3 [(0, .long x0), (2, .int x2)] := hl
  have key : ∀ Q : State → Prop, (∀ (pc : Nat) (ls : Array Slot), decode cX1_isIn pc = .ok (.ireturn, 1) → b01 r → W p l e ({ frames := 0, cells := 0, slots := 0, locals := 0 } : Room) s m args below meth c s.heap [] 0 0 Q (F0 m pc ls [.int r])) → W p l e ({ frames := 0, cells := 0, slots := 0, locals := 0 } : Room) s m args below meth c s.heap [] 0 0 Q (F0 m 0 ls []) := by
    intro Q hret
    unfold fX1_isIn at h
    refine lv_lload_n hx hb dX1_isIn_0 rfl (lv_at hl 0 rfl) ?_
    refine lv_bipush (v := (30 : Int32)) hx hb dX1_isIn_1 (by decide) ?_
    refine lv_iload_n hx hb dX1_isIn_3 rfl (lv_at hl 1 rfl) ?_
    refine lv_iadd hx hb dX1_isIn_4 ?_
    refine lv_lshr (v := (x0 >>> (((30 : Int32) + x2).toInt64 &&& 63))) hx hb dX1_isIn_5 rfl ?_
    refine lv_lconst (v := (1 : Int64)) hx hb dX1_isIn_6 (by decide) ?_
    refine lv_land hx hb dX1_isIn_7 ?_
    refine lv_lconst (v := (0 : Int64)) hx hb dX1_isIn_8 (by decide) ?_
    refine W.lcmp hx hb dX1_isIn_9 ?_
    refine lv_if_eq (tgt := 17) hx hb dX1_isIn_10 (by decide) (fun c10 => ?_) (fun c10 => ?_)
    · have h := br_1 h c10
      refine lv_iconst (v := (0 : Int32)) hx hb dX1_isIn_17 (by decide) ?_
      cases h
      exact hret _ _ dX1_isIn_18 (Or.inl rfl)
    · have h := br_0 h c10
      refine lv_iconst (v := (1 : Int32)) hx hb dX1_isIn_13 (by decide) ?_
      refine lv_goto (tgt := 18) hx hb dX1_isIn_14 (by decide) ?_
      cases h
      exact hret _ _ dX1_isIn_18 (Or.inr rfl)
  exact key _ (fun pc ls hd hb1 => W.zret hx hb hr (b01_n hb1) (fun t ht hW => ⟨_, rfl, ⟨rfl, hb1⟩, ht⟩) (fun q h => by cases h) hd)
set_option maxHeartbeats 4000000 in
set_option maxRecDepth 100000 in
theorem kX1_insiders (l : Launch) (D : va_G) (T : Nat → ClassId) (F : Nat) (x0 : Int64) (r : Int32) (h : fX1_insiders F x0 = some (r)) : Met l yX1_insiders wsX1_insiders ({ frames := 0, cells := 0, slots := 0, locals := 0 } : Room) (va_Pc [.long x0] (fun U => va_P D vwCl ([] : va_W) U.heap ∧ KK D T U)) (vp_Si (fun r' => r' = r)) 0 0 (fun _ => False) := by
  refine Met.ofW (cc := cX1_insiders) (maxL := 2) (ret := some .int) (by decide) rfl ?_
  intro p e s m args below meth c s₁ B hml hv
  obtain ⟨ha, hP, hKK⟩ := hv
  have hx := B.exec
  have hb := B.bytes
  have hr := B.returns
  have hts := atoms_spec (ws := wsX1_insiders) B.pre
  have hown : s.vm.findClass RX1 = some m.cls := findClass_of_methodNamed B.named
  have hlocks := B.notSynchronized
  have hK := hKK.1
  have hFix : CallFix p m c cX1_insiders 2 s args wsX1_insiders RX1 := ⟨hx, hb, hml, hown, hts⟩
  obtain ⟨ls, hl, e0⟩ := my_entry (m := m) (n := 2) ha (Nat.le_of_ble_eq_true rfl)
  rw [e0]
  have hl : lv_has ls 2 [(0, .long x0)] := hl
  have key : ∀ Q : State → Prop, (∀ (pc : Nat) (ls : Array Slot), decode cX1_insiders pc = .ok (.ireturn, 1) → W p l e ({ frames := 0, cells := 0, slots := 0, locals := 0 } : Room) s m args below meth c s.heap [] 0 0 Q (F0 m pc ls [.int r])) → W p l e ({ frames := 0, cells := 0, slots := 0, locals := 0 } : Room) s m args below meth c s.heap [] 0 0 Q (F0 m 0 ls []) := by
    intro Q hret
    unfold fX1_insiders at h
    refine lv_lload_n hx hb dX1_insiders_0 rfl (lv_at hl 0 rfl) ?_
    refine lv_bipush (v := (30 : Int32)) hx hb dX1_insiders_1 (by decide) ?_
    refine lv_lshr (v := (x0 >>> ((30 : Int32).toInt64 &&& 63))) hx hb dX1_insiders_3 rfl ?_
    refine lv_l2i (v := ((x0 >>> ((30 : Int32).toInt64 &&& 63)).toInt32)) hx hb dX1_insiders_4 rfl ?_
    cases h
    exact hret _ _ dX1_insiders_5
  exact key _ (fun pc ls hd => W.iret hx hb hr (fun t ht hW => ⟨_, rfl, rfl, ht⟩) (fun q h => by cases h) hd)
set_option maxHeartbeats 4000000 in
set_option maxRecDepth 100000 in
theorem kJ6_bitCount_0f7a4 (l : Launch) (D : va_G) (T : Nat → ClassId) (F : Nat) (x0 : Int32) (r : Int32) (h : fJ6_bitCount_0f7a4 F x0 = some (r)) : Met l yJ6_bitCount_0f7a4 wsJ6_bitCount_0f7a4 ({ frames := 0, cells := 0, slots := 0, locals := 0 } : Room) (va_Pc [.int x0] (fun U => va_P D vwCl ([] : va_W) U.heap ∧ KK D T U)) (vp_Si (fun r' => r' = r)) 0 0 (fun _ => False) := by
  refine Met.ofW (cc := cJ6_bitCount_0f7a4) (maxL := 1) (ret := some .int) (by decide) rfl ?_
  intro p e s m args below meth c s₁ B hml hv
  obtain ⟨ha, hP, hKK⟩ := hv
  have hx := B.exec
  have hb := B.bytes
  have hr := B.returns
  have hts := atoms_spec (ws := wsJ6_bitCount_0f7a4) B.pre
  have hown : s.vm.findClass RJ6 = some m.cls := findClass_of_methodNamed B.named
  have hlocks := B.notSynchronized
  have hK := hKK.1
  have hFix : CallFix p m c cJ6_bitCount_0f7a4 1 s args wsJ6_bitCount_0f7a4 RJ6 := ⟨hx, hb, hml, hown, hts⟩
  have q1 := hts _ (List.mem_of_getElem? (i := 1) (show wsJ6_bitCount_0f7a4[1]? = some (Cond.constant RJ6 265 (1431655765)) from rfl))
  have q2 := hts _ (List.mem_of_getElem? (i := 2) (show wsJ6_bitCount_0f7a4[2]? = some (Cond.constant RJ6 266 (858993459)) from rfl))
  have q3 := hts _ (List.mem_of_getElem? (i := 3) (show wsJ6_bitCount_0f7a4[3]? = some (Cond.constant RJ6 267 (252645135)) from rfl))
  obtain ⟨ls, hl, e0⟩ := my_entry (m := m) (n := 1) ha (Nat.le_of_ble_eq_true rfl)
  rw [e0]
  have hl : lv_has ls 1 [(0, .int x0)] := hl
  have key : ∀ Q : State → Prop, (∀ (pc : Nat) (ls : Array Slot), decode cJ6_bitCount_0f7a4 pc = .ok (.ireturn, 1) → W p l e ({ frames := 0, cells := 0, slots := 0, locals := 0 } : Room) s m args below meth c s.heap [] 0 0 Q (F0 m pc ls [.int r])) → W p l e ({ frames := 0, cells := 0, slots := 0, locals := 0 } : Room) s m args below meth c s.heap [] 0 0 Q (F0 m 0 ls []) := by
    intro Q hret
    unfold fJ6_bitCount_0f7a4 at h
    refine lv_iload_n hx hb dJ6_bitCount_0f7a4_0 rfl (lv_at hl 0 rfl) ?_
    refine lv_iload_n hx hb dJ6_bitCount_0f7a4_1 rfl (lv_at hl 0 rfl) ?_
    refine lv_iconst (v := (1 : Int32)) hx hb dJ6_bitCount_0f7a4_2 (by decide) ?_
    refine lv_iushr (v := ((x0.toUInt32 >>> ((1 : Int32).toUInt32 &&& Int32.toUInt32 31)).toInt32)) hx hb dJ6_bitCount_0f7a4_3 rfl ?_
    refine lv_ldcw (v := (1431655765 : Int32)) hx hb hown q1 dJ6_bitCount_0f7a4_4 ?_
    refine lv_iand hx hb dJ6_bitCount_0f7a4_7 ?_
    refine lv_isub hx hb dJ6_bitCount_0f7a4_8 ?_
    refine lv_istore_n (lv' := [(0, .int (x0 - (((x0.toUInt32 >>> ((1 : Int32).toUInt32 &&& Int32.toUInt32 31)).toInt32) &&& (1431655765 : Int32))))]) hx hb dJ6_bitCount_0f7a4_9 rfl hl (by decide) rfl (fun ls hl => ?_)
    refine lv_iload_n hx hb dJ6_bitCount_0f7a4_10 rfl (lv_at hl 0 rfl) ?_
    refine lv_ldcw (v := (858993459 : Int32)) hx hb hown q2 dJ6_bitCount_0f7a4_11 ?_
    refine lv_iand hx hb dJ6_bitCount_0f7a4_14 ?_
    refine lv_iload_n hx hb dJ6_bitCount_0f7a4_15 rfl (lv_at hl 0 rfl) ?_
    refine lv_iconst (v := (2 : Int32)) hx hb dJ6_bitCount_0f7a4_16 (by decide) ?_
    refine lv_iushr (v := (((x0 - (((x0.toUInt32 >>> ((1 : Int32).toUInt32 &&& Int32.toUInt32 31)).toInt32) &&& (1431655765 : Int32))).toUInt32 >>> ((2 : Int32).toUInt32 &&& Int32.toUInt32 31)).toInt32)) hx hb dJ6_bitCount_0f7a4_17 rfl ?_
    refine lv_ldcw (v := (858993459 : Int32)) hx hb hown q2 dJ6_bitCount_0f7a4_18 ?_
    refine lv_iand hx hb dJ6_bitCount_0f7a4_21 ?_
    refine lv_iadd hx hb dJ6_bitCount_0f7a4_22 ?_
    refine lv_istore_n (lv' := [(0, .int (((x0 - (((x0.toUInt32 >>> ((1 : Int32).toUInt32 &&& Int32.toUInt32 31)).toInt32) &&& (1431655765 : Int32))) &&& (858993459 : Int32)) + ((((x0 - (((x0.toUInt32 >>> ((1 : Int32).toUInt32 &&& Int32.toUInt32 31)).toInt32) &&& (1431655765 : Int32))).toUInt32 >>> ((2 : Int32).toUInt32 &&& Int32.toUInt32 31)).toInt32) &&& (858993459 : Int32))))]) hx hb dJ6_bitCount_0f7a4_23 rfl hl (by decide) rfl (fun ls hl => ?_)
    refine lv_iload_n hx hb dJ6_bitCount_0f7a4_24 rfl (lv_at hl 0 rfl) ?_
    refine lv_iload_n hx hb dJ6_bitCount_0f7a4_25 rfl (lv_at hl 0 rfl) ?_
    refine lv_iconst (v := (4 : Int32)) hx hb dJ6_bitCount_0f7a4_26 (by decide) ?_
    refine lv_iushr (v := (((((x0 - (((x0.toUInt32 >>> ((1 : Int32).toUInt32 &&& Int32.toUInt32 31)).toInt32) &&& (1431655765 : Int32))) &&& (858993459 : Int32)) + ((((x0 - (((x0.toUInt32 >>> ((1 : Int32).toUInt32 &&& Int32.toUInt32 31)).toInt32) &&& (1431655765 : Int32))).toUInt32 >>> ((2 : Int32).toUInt32 &&& Int32.toUInt32 31)).toInt32) &&& (858993459 : Int32))).toUInt32 >>> ((4 : Int32).toUInt32 &&& Int32.toUInt32 31)).toInt32)) hx hb dJ6_bitCount_0f7a4_27 rfl ?_
    refine lv_iadd hx hb dJ6_bitCount_0f7a4_28 ?_
    refine lv_ldcw (v := (252645135 : Int32)) hx hb hown q3 dJ6_bitCount_0f7a4_29 ?_
    refine lv_iand hx hb dJ6_bitCount_0f7a4_32 ?_
    refine lv_istore_n (lv' := [(0, .int (((((x0 - (((x0.toUInt32 >>> ((1 : Int32).toUInt32 &&& Int32.toUInt32 31)).toInt32) &&& (1431655765 : Int32))) &&& (858993459 : Int32)) + ((((x0 - (((x0.toUInt32 >>> ((1 : Int32).toUInt32 &&& Int32.toUInt32 31)).toInt32) &&& (1431655765 : Int32))).toUInt32 >>> ((2 : Int32).toUInt32 &&& Int32.toUInt32 31)).toInt32) &&& (858993459 : Int32))) + (((((x0 - (((x0.toUInt32 >>> ((1 : Int32).toUInt32 &&& Int32.toUInt32 31)).toInt32) &&& (1431655765 : Int32))) &&& (858993459 : Int32)) + ((((x0 - (((x0.toUInt32 >>> ((1 : Int32).toUInt32 &&& Int32.toUInt32 31)).toInt32) &&& (1431655765 : Int32))).toUInt32 >>> ((2 : Int32).toUInt32 &&& Int32.toUInt32 31)).toInt32) &&& (858993459 : Int32))).toUInt32 >>> ((4 : Int32).toUInt32 &&& Int32.toUInt32 31)).toInt32)) &&& (252645135 : Int32)))]) hx hb dJ6_bitCount_0f7a4_33 rfl hl (by decide) rfl (fun ls hl => ?_)
    refine lv_iload_n hx hb dJ6_bitCount_0f7a4_34 rfl (lv_at hl 0 rfl) ?_
    refine lv_iload_n hx hb dJ6_bitCount_0f7a4_35 rfl (lv_at hl 0 rfl) ?_
    refine lv_bipush (v := (8 : Int32)) hx hb dJ6_bitCount_0f7a4_36 (by decide) ?_
    refine lv_iushr (v := (((((((x0 - (((x0.toUInt32 >>> ((1 : Int32).toUInt32 &&& Int32.toUInt32 31)).toInt32) &&& (1431655765 : Int32))) &&& (858993459 : Int32)) + ((((x0 - (((x0.toUInt32 >>> ((1 : Int32).toUInt32 &&& Int32.toUInt32 31)).toInt32) &&& (1431655765 : Int32))).toUInt32 >>> ((2 : Int32).toUInt32 &&& Int32.toUInt32 31)).toInt32) &&& (858993459 : Int32))) + (((((x0 - (((x0.toUInt32 >>> ((1 : Int32).toUInt32 &&& Int32.toUInt32 31)).toInt32) &&& (1431655765 : Int32))) &&& (858993459 : Int32)) + ((((x0 - (((x0.toUInt32 >>> ((1 : Int32).toUInt32 &&& Int32.toUInt32 31)).toInt32) &&& (1431655765 : Int32))).toUInt32 >>> ((2 : Int32).toUInt32 &&& Int32.toUInt32 31)).toInt32) &&& (858993459 : Int32))).toUInt32 >>> ((4 : Int32).toUInt32 &&& Int32.toUInt32 31)).toInt32)) &&& (252645135 : Int32)).toUInt32 >>> ((8 : Int32).toUInt32 &&& Int32.toUInt32 31)).toInt32)) hx hb dJ6_bitCount_0f7a4_38 rfl ?_
    refine lv_iadd hx hb dJ6_bitCount_0f7a4_39 ?_
    refine lv_istore_n (lv' := [(0, .int ((((((x0 - (((x0.toUInt32 >>> ((1 : Int32).toUInt32 &&& Int32.toUInt32 31)).toInt32) &&& (1431655765 : Int32))) &&& (858993459 : Int32)) + ((((x0 - (((x0.toUInt32 >>> ((1 : Int32).toUInt32 &&& Int32.toUInt32 31)).toInt32) &&& (1431655765 : Int32))).toUInt32 >>> ((2 : Int32).toUInt32 &&& Int32.toUInt32 31)).toInt32) &&& (858993459 : Int32))) + (((((x0 - (((x0.toUInt32 >>> ((1 : Int32).toUInt32 &&& Int32.toUInt32 31)).toInt32) &&& (1431655765 : Int32))) &&& (858993459 : Int32)) + ((((x0 - (((x0.toUInt32 >>> ((1 : Int32).toUInt32 &&& Int32.toUInt32 31)).toInt32) &&& (1431655765 : Int32))).toUInt32 >>> ((2 : Int32).toUInt32 &&& Int32.toUInt32 31)).toInt32) &&& (858993459 : Int32))).toUInt32 >>> ((4 : Int32).toUInt32 &&& Int32.toUInt32 31)).toInt32)) &&& (252645135 : Int32)) + (((((((x0 - (((x0.toUInt32 >>> ((1 : Int32).toUInt32 &&& Int32.toUInt32 31)).toInt32) &&& (1431655765 : Int32))) &&& (858993459 : Int32)) + ((((x0 - (((x0.toUInt32 >>> ((1 : Int32).toUInt32 &&& Int32.toUInt32 31)).toInt32) &&& (1431655765 : Int32))).toUInt32 >>> ((2 : Int32).toUInt32 &&& Int32.toUInt32 31)).toInt32) &&& (858993459 : Int32))) + (((((x0 - (((x0.toUInt32 >>> ((1 : Int32).toUInt32 &&& Int32.toUInt32 31)).toInt32) &&& (1431655765 : Int32))) &&& (858993459 : Int32)) + ((((x0 - (((x0.toUInt32 >>> ((1 : Int32).toUInt32 &&& Int32.toUInt32 31)).toInt32) &&& (1431655765 : Int32))).toUInt32 >>> ((2 : Int32).toUInt32 &&& Int32.toUInt32 31)).toInt32) &&& (858993459 : Int32))).toUInt32 >>> ((4 : Int32).toUInt32 &&& Int32.toUInt32 31)).toInt32)) &&& (252645135 : Int32)).toUInt32 >>> ((8 : Int32).toUInt32 &&& Int32.toUInt32 31)).toInt32)))]) hx hb dJ6_bitCount_0f7a4_40 rfl hl (by decide) rfl (fun ls hl => ?_)
    refine lv_iload_n hx hb dJ6_bitCount_0f7a4_41 rfl (lv_at hl 0 rfl) ?_
    refine lv_iload_n hx hb dJ6_bitCount_0f7a4_42 rfl (lv_at hl 0 rfl) ?_
    refine lv_bipush (v := (16 : Int32)) hx hb dJ6_bitCount_0f7a4_43 (by decide) ?_
    refine lv_iushr (v := ((((((((x0 - (((x0.toUInt32 >>> ((1 : Int32).toUInt32 &&& Int32.toUInt32 31)).toInt32) &&& (1431655765 : Int32))) &&& (858993459 : Int32)) + ((((x0 - (((x0.toUInt32 >>> ((1 : Int32).toUInt32 &&& Int32.toUInt32 31)).toInt32) &&& (1431655765 : Int32))).toUInt32 >>> ((2 : Int32).toUInt32 &&& Int32.toUInt32 31)).toInt32) &&& (858993459 : Int32))) + (((((x0 - (((x0.toUInt32 >>> ((1 : Int32).toUInt32 &&& Int32.toUInt32 31)).toInt32) &&& (1431655765 : Int32))) &&& (858993459 : Int32)) + ((((x0 - (((x0.toUInt32 >>> ((1 : Int32).toUInt32 &&& Int32.toUInt32 31)).toInt32) &&& (1431655765 : Int32))).toUInt32 >>> ((2 : Int32).toUInt32 &&& Int32.toUInt32 31)).toInt32) &&& (858993459 : Int32))).toUInt32 >>> ((4 : Int32).toUInt32 &&& Int32.toUInt32 31)).toInt32)) &&& (252645135 : Int32)) + (((((((x0 - (((x0.toUInt32 >>> ((1 : Int32).toUInt32 &&& Int32.toUInt32 31)).toInt32) &&& (1431655765 : Int32))) &&& (858993459 : Int32)) + ((((x0 - (((x0.toUInt32 >>> ((1 : Int32).toUInt32 &&& Int32.toUInt32 31)).toInt32) &&& (1431655765 : Int32))).toUInt32 >>> ((2 : Int32).toUInt32 &&& Int32.toUInt32 31)).toInt32) &&& (858993459 : Int32))) + (((((x0 - (((x0.toUInt32 >>> ((1 : Int32).toUInt32 &&& Int32.toUInt32 31)).toInt32) &&& (1431655765 : Int32))) &&& (858993459 : Int32)) + ((((x0 - (((x0.toUInt32 >>> ((1 : Int32).toUInt32 &&& Int32.toUInt32 31)).toInt32) &&& (1431655765 : Int32))).toUInt32 >>> ((2 : Int32).toUInt32 &&& Int32.toUInt32 31)).toInt32) &&& (858993459 : Int32))).toUInt32 >>> ((4 : Int32).toUInt32 &&& Int32.toUInt32 31)).toInt32)) &&& (252645135 : Int32)).toUInt32 >>> ((8 : Int32).toUInt32 &&& Int32.toUInt32 31)).toInt32)).toUInt32 >>> ((16 : Int32).toUInt32 &&& Int32.toUInt32 31)).toInt32)) hx hb dJ6_bitCount_0f7a4_45 rfl ?_
    refine lv_iadd hx hb dJ6_bitCount_0f7a4_46 ?_
    refine lv_istore_n (lv' := [(0, .int (((((((x0 - (((x0.toUInt32 >>> ((1 : Int32).toUInt32 &&& Int32.toUInt32 31)).toInt32) &&& (1431655765 : Int32))) &&& (858993459 : Int32)) + ((((x0 - (((x0.toUInt32 >>> ((1 : Int32).toUInt32 &&& Int32.toUInt32 31)).toInt32) &&& (1431655765 : Int32))).toUInt32 >>> ((2 : Int32).toUInt32 &&& Int32.toUInt32 31)).toInt32) &&& (858993459 : Int32))) + (((((x0 - (((x0.toUInt32 >>> ((1 : Int32).toUInt32 &&& Int32.toUInt32 31)).toInt32) &&& (1431655765 : Int32))) &&& (858993459 : Int32)) + ((((x0 - (((x0.toUInt32 >>> ((1 : Int32).toUInt32 &&& Int32.toUInt32 31)).toInt32) &&& (1431655765 : Int32))).toUInt32 >>> ((2 : Int32).toUInt32 &&& Int32.toUInt32 31)).toInt32) &&& (858993459 : Int32))).toUInt32 >>> ((4 : Int32).toUInt32 &&& Int32.toUInt32 31)).toInt32)) &&& (252645135 : Int32)) + (((((((x0 - (((x0.toUInt32 >>> ((1 : Int32).toUInt32 &&& Int32.toUInt32 31)).toInt32) &&& (1431655765 : Int32))) &&& (858993459 : Int32)) + ((((x0 - (((x0.toUInt32 >>> ((1 : Int32).toUInt32 &&& Int32.toUInt32 31)).toInt32) &&& (1431655765 : Int32))).toUInt32 >>> ((2 : Int32).toUInt32 &&& Int32.toUInt32 31)).toInt32) &&& (858993459 : Int32))) + (((((x0 - (((x0.toUInt32 >>> ((1 : Int32).toUInt32 &&& Int32.toUInt32 31)).toInt32) &&& (1431655765 : Int32))) &&& (858993459 : Int32)) + ((((x0 - (((x0.toUInt32 >>> ((1 : Int32).toUInt32 &&& Int32.toUInt32 31)).toInt32) &&& (1431655765 : Int32))).toUInt32 >>> ((2 : Int32).toUInt32 &&& Int32.toUInt32 31)).toInt32) &&& (858993459 : Int32))).toUInt32 >>> ((4 : Int32).toUInt32 &&& Int32.toUInt32 31)).toInt32)) &&& (252645135 : Int32)).toUInt32 >>> ((8 : Int32).toUInt32 &&& Int32.toUInt32 31)).toInt32)) + ((((((((x0 - (((x0.toUInt32 >>> ((1 : Int32).toUInt32 &&& Int32.toUInt32 31)).toInt32) &&& (1431655765 : Int32))) &&& (858993459 : Int32)) + ((((x0 - (((x0.toUInt32 >>> ((1 : Int32).toUInt32 &&& Int32.toUInt32 31)).toInt32) &&& (1431655765 : Int32))).toUInt32 >>> ((2 : Int32).toUInt32 &&& Int32.toUInt32 31)).toInt32) &&& (858993459 : Int32))) + (((((x0 - (((x0.toUInt32 >>> ((1 : Int32).toUInt32 &&& Int32.toUInt32 31)).toInt32) &&& (1431655765 : Int32))) &&& (858993459 : Int32)) + ((((x0 - (((x0.toUInt32 >>> ((1 : Int32).toUInt32 &&& Int32.toUInt32 31)).toInt32) &&& (1431655765 : Int32))).toUInt32 >>> ((2 : Int32).toUInt32 &&& Int32.toUInt32 31)).toInt32) &&& (858993459 : Int32))).toUInt32 >>> ((4 : Int32).toUInt32 &&& Int32.toUInt32 31)).toInt32)) &&& (252645135 : Int32)) + (((((((x0 - (((x0.toUInt32 >>> ((1 : Int32).toUInt32 &&& Int32.toUInt32 31)).toInt32) &&& (1431655765 : Int32))) &&& (858993459 : Int32)) + ((((x0 - (((x0.toUInt32 >>> ((1 : Int32).toUInt32 &&& Int32.toUInt32 31)).toInt32) &&& (1431655765 : Int32))).toUInt32 >>> ((2 : Int32).toUInt32 &&& Int32.toUInt32 31)).toInt32) &&& (858993459 : Int32))) + (((((x0 - (((x0.toUInt32 >>> ((1 : Int32).toUInt32 &&& Int32.toUInt32 31)).toInt32) &&& (1431655765 : Int32))) &&& (858993459 : Int32)) + ((((x0 - (((x0.toUInt32 >>> ((1 : Int32).toUInt32 &&& Int32.toUInt32 31)).toInt32) &&& (1431655765 : Int32))).toUInt32 >>> ((2 : Int32).toUInt32 &&& Int32.toUInt32 31)).toInt32) &&& (858993459 : Int32))).toUInt32 >>> ((4 : Int32).toUInt32 &&& Int32.toUInt32 31)).toInt32)) &&& (252645135 : Int32)).toUInt32 >>> ((8 : Int32).toUInt32 &&& Int32.toUInt32 31)).toInt32)).toUInt32 >>> ((16 : Int32).toUInt32 &&& Int32.toUInt32 31)).toInt32)))]) hx hb dJ6_bitCount_0f7a4_47 rfl hl (by decide) rfl (fun ls hl => ?_)
    refine lv_iload_n hx hb dJ6_bitCount_0f7a4_48 rfl (lv_at hl 0 rfl) ?_
    refine lv_bipush (v := (63 : Int32)) hx hb dJ6_bitCount_0f7a4_49 (by decide) ?_
    refine lv_iand hx hb dJ6_bitCount_0f7a4_51 ?_
    cases h
    exact hret _ _ dJ6_bitCount_0f7a4_52
  exact key _ (fun pc ls hd => W.iret hx hb hr (fun t ht hW => ⟨_, rfl, rfl, ht⟩) (fun q h => by cases h) hd)
set_option maxHeartbeats 4000000 in
set_option maxRecDepth 100000 in
theorem kX1_howManyIn (l : Launch) (D : va_G) (T : Nat → ClassId) (F : Nat) (x0 : Int64) (r : Int32) (h : fX1_howManyIn F x0 = some (r)) : Met l yX1_howManyIn wsX1_howManyIn ({ frames := 1, cells := 0, slots := 0, locals := 21 } : Room) (va_Pc [.long x0] (fun U => va_P D vwCl ([] : va_W) U.heap ∧ KK D T U)) (vp_Si (fun r' => r' = r)) 0 0 (fun _ => False) := by
  refine Met.ofW (cc := cX1_howManyIn) (maxL := 2) (ret := some .int) (by decide) rfl ?_
  intro p e s m args below meth c s₁ B hml hv
  obtain ⟨ha, hP, hKK⟩ := hv
  have hx := B.exec
  have hb := B.bytes
  have hr := B.returns
  have hts := atoms_spec (ws := wsX1_howManyIn) B.pre
  have hown : s.vm.findClass RX1 = some m.cls := findClass_of_methodNamed B.named
  have hlocks := B.notSynchronized
  have hK := hKK.1
  have hFix : CallFix p m c cX1_howManyIn 2 s args wsX1_howManyIn RX1 := ⟨hx, hb, hml, hown, hts⟩
  obtain ⟨ls, hl, e0⟩ := my_entry (m := m) (n := 2) ha (Nat.le_of_ble_eq_true rfl)
  rw [e0]
  have hl : lv_has ls 2 [(0, .long x0)] := hl
  have key : ∀ Q : State → Prop, (∀ (pc : Nat) (ls : Array Slot), decode cX1_howManyIn pc = .ok (.ireturn, 1) → W p l e ({ frames := 1, cells := 0, slots := 0, locals := 21 } : Room) s m args below meth c s.heap [] 0 0 Q (F0 m pc ls [.int r])) → W p l e ({ frames := 1, cells := 0, slots := 0, locals := 21 } : Room) s m args below meth c s.heap [] 0 0 Q (F0 m 0 ls []) := by
    intro Q hret
    unfold fX1_howManyIn at h
    refine lv_lload_n hx hb dX1_howManyIn_0 rfl (lv_at hl 0 rfl) ?_
    obtain ⟨r1, hc, h⟩ := bd1_some h
    refine my_roi (va_Run.run (va_runS (As := [.long x0]) (rest := []) hFix (kX1_insiders l D T F x0 r1 hc) (va_cwS 1 hts gX1_howManyIn_X1_insiders rfl rfl rfl hd_X1_insiders ⟨Nat.le_of_ble_eq_true rfl, Nat.le_of_ble_eq_true rfl⟩) (preS_ro hP hKK) rfl rfl hl.1 rfl (lv_room (Nat.le_of_ble_eq_true rfl)) dX1_howManyIn_1 ⟨Nat.zero_le _, Nat.zero_le _⟩)) ?_
    obtain ⟨r4, hc, h⟩ := bd1_some h
    refine my_roi (va_Run.run (va_runS (As := [.int r1]) (rest := []) hFix (kJ6_bitCount_0f7a4 l D T F r1 r4 hc) (va_cwS 1 hts gX1_howManyIn_J6_bitCount_0f7a4 rfl rfl rfl hd_J6_bitCount_0f7a4 ⟨Nat.le_of_ble_eq_true rfl, Nat.le_of_ble_eq_true rfl⟩) (preS_ro hP hKK) rfl rfl hl.1 rfl (lv_room (Nat.le_of_ble_eq_true rfl)) dX1_howManyIn_4 ⟨Nat.zero_le _, Nat.zero_le _⟩)) ?_
    cases h
    exact hret _ _ dX1_howManyIn_7
  exact key _ (fun pc ls hd => W.iret hx hb hr (fun t ht hW => ⟨_, rfl, rfl, ht⟩) (fun q h => by cases h) hd)
set_option maxHeartbeats 4000000 in
set_option maxRecDepth 100000 in
theorem kX1_withGrief (l : Launch) (D : va_G) (T : Nat → ClassId) (F : Nat) (x0 : Int64) (x2 : Int32) (x3 : Int32) (r : Int64) (h : fX1_withGrief F x0 x2 x3 = some (r)) : Met l yX1_withGrief wsX1_withGrief ({ frames := 0, cells := 0, slots := 0, locals := 0 } : Room) (va_Pc [.long x0, .int x2, .int x3] (fun U => va_P D vwCl ([] : va_W) U.heap ∧ KK D T U)) (vp_Sl (fun r' => r' = r)) 0 0 (fun _ => False) := by
  refine Met.ofW (cc := cX1_withGrief) (maxL := 5) (ret := some .long) (by decide) rfl ?_
  intro p e s m args below meth c s₁ B hml hv
  obtain ⟨ha, hP, hKK⟩ := hv
  have hx := B.exec
  have hb := B.bytes
  have hr := B.returns
  have hts := atoms_spec (ws := wsX1_withGrief) B.pre
  have hown : s.vm.findClass RX1 = some m.cls := findClass_of_methodNamed B.named
  have hlocks := B.notSynchronized
  have hK := hKK.1
  have hFix : CallFix p m c cX1_withGrief 5 s args wsX1_withGrief RX1 := ⟨hx, hb, hml, hown, hts⟩
  have q1 := hts _ (List.mem_of_getElem? (i := 1) (show wsX1_withGrief[1]? = some (Cond.constantLong RX1 11 (31)) from rfl))
  have q2 := hts _ (List.mem_of_getElem? (i := 2) (show wsX1_withGrief[2]? = some (Cond.constantLong RX1 27 (-1)) from rfl))
  obtain ⟨ls, hl, e0⟩ := my_entry (m := m) (n := 5) ha (Nat.le_of_ble_eq_true rfl)
  rw [e0]
  have hl : lv_has ls 5 [(0, .long x0), (2, .int x2), (3, .int x3)] := hl
  have key : ∀ Q : State → Prop, (∀ (pc : Nat) (ls : Array Slot), decode cX1_withGrief pc = .ok (.lreturn, 1) → W p l e ({ frames := 0, cells := 0, slots := 0, locals := 0 } : Room) s m args below meth c s.heap [] 0 0 Q (F0 m pc ls [.long r])) → W p l e ({ frames := 0, cells := 0, slots := 0, locals := 0 } : Room) s m args below meth c s.heap [] 0 0 Q (F0 m 0 ls []) := by
    intro Q hret
    unfold fX1_withGrief at h
    refine lv_iconst (v := (5 : Int32)) hx hb dX1_withGrief_0 (by decide) ?_
    refine lv_iload_n hx hb dX1_withGrief_1 rfl (lv_at hl 1 rfl) ?_
    refine lv_imul hx hb dX1_withGrief_2 ?_
    refine lv_istore (lv' := [(4, .int ((5 : Int32) * x2)), (0, .long x0), (2, .int x2), (3, .int x3)]) hx hb dX1_withGrief_3 hl (by decide) rfl (fun ls hl => ?_)
    refine lv_lload_n hx hb dX1_withGrief_5 rfl (lv_at hl 1 rfl) ?_
    refine lv_ldc2 (v := (31 : Int64)) hx hb hown q1 dX1_withGrief_6 ?_
    refine lv_iload hx hb dX1_withGrief_9 (lv_at hl 0 rfl) ?_
    refine lv_lshl (v := ((31 : Int64) <<< (((5 : Int32) * x2).toInt64 &&& 63))) hx hb dX1_withGrief_11 rfl ?_
    refine lv_ldc2 (v := (-1 : Int64)) hx hb hown q2 dX1_withGrief_12 ?_
    refine lv_lxor hx hb dX1_withGrief_15 ?_
    refine lv_land hx hb dX1_withGrief_16 ?_
    refine lv_iload_n hx hb dX1_withGrief_17 rfl (lv_at hl 3 rfl) ?_
    refine lv_i2l (v := (x3.toInt64)) hx hb dX1_withGrief_18 rfl ?_
    refine lv_iload hx hb dX1_withGrief_19 (lv_at hl 0 rfl) ?_
    refine lv_lshl (v := ((x3.toInt64) <<< (((5 : Int32) * x2).toInt64 &&& 63))) hx hb dX1_withGrief_21 rfl ?_
    refine lv_lor hx hb dX1_withGrief_22 ?_
    cases h
    exact hret _ _ dX1_withGrief_23
  exact key _ (fun pc ls hd => W.lret hx hb hr (fun t ht hW => ⟨_, rfl, rfl, ht⟩) (fun q h => by cases h) hd)
set_option maxHeartbeats 4000000 in
set_option maxRecDepth 100000 in
theorem kX1_withNew (l : Launch) (D : va_G) (T : Nat → ClassId) (F : Nat) (x0 : Int64) (x2 : Int32) (x3 : Int32) (r : Int64) (h : fX1_withNew F x0 x2 x3 = some (r)) : Met l yX1_withNew wsX1_withNew ({ frames := 1, cells := 0, slots := 0, locals := 24 } : Room) (va_Pc [.long x0, .int x2, .int x3] (fun U => va_P D vwCl ([] : va_W) U.heap ∧ KK D T U)) (vp_Sl (fun r' => r' = r)) 0 0 (fun _ => False) := by
  refine Met.ofW (cc := cX1_withNew) (maxL := 4) (ret := some .long) (by decide) rfl ?_
  intro p e s m args below meth c s₁ B hml hv
  obtain ⟨ha, hP, hKK⟩ := hv
  have hx := B.exec
  have hb := B.bytes
  have hr := B.returns
  have hts := atoms_spec (ws := wsX1_withNew) B.pre
  have hown : s.vm.findClass RX1 = some m.cls := findClass_of_methodNamed B.named
  have hlocks := B.notSynchronized
  have hK := hKK.1
  have hFix : CallFix p m c cX1_withNew 4 s args wsX1_withNew RX1 := ⟨hx, hb, hml, hown, hts⟩
  obtain ⟨ls, hl, e0⟩ := my_entry (m := m) (n := 4) ha (Nat.le_of_ble_eq_true rfl)
  rw [e0]
  have hl : lv_has ls 4 [(0, .long x0), (2, .int x2), (3, .int x3)] := hl
  have key : ∀ Q : State → Prop, (∀ (pc : Nat) (ls : Array Slot), decode cX1_withNew pc = .ok (.lreturn, 1) → W p l e ({ frames := 1, cells := 0, slots := 0, locals := 24 } : Room) s m args below meth c s.heap [] 0 0 Q (F0 m pc ls [.long r])) → W p l e ({ frames := 1, cells := 0, slots := 0, locals := 24 } : Room) s m args below meth c s.heap [] 0 0 Q (F0 m 0 ls []) := by
    intro Q hret
    unfold fX1_withNew at h
    refine lv_lload_n hx hb dX1_withNew_0 rfl (lv_at hl 0 rfl) ?_
    refine lv_iload_n hx hb dX1_withNew_1 rfl (lv_at hl 1 rfl) ?_
    refine lv_iload_n hx hb dX1_withNew_2 rfl (lv_at hl 2 rfl) ?_
    obtain ⟨r3, hc, h⟩ := bd1_some h
    refine my_rol (va_Run.run (va_runS (As := [.long x0, .int x2, .int x3]) (rest := []) hFix (kX1_withGrief l D T F x0 x2 x3 r3 hc) (va_cwS 3 hts gX1_withNew_X1_withGrief rfl rfl rfl hd_X1_withGrief ⟨Nat.le_of_ble_eq_true rfl, Nat.le_of_ble_eq_true rfl⟩) (preS_ro hP hKK) rfl rfl hl.1 rfl (lv_room (Nat.le_of_ble_eq_true rfl)) dX1_withNew_3 ⟨Nat.zero_le _, Nat.zero_le _⟩)) ?_
    refine lv_lconst (v := (1 : Int64)) hx hb dX1_withNew_6 (by decide) ?_
    refine lv_bipush (v := (30 : Int32)) hx hb dX1_withNew_7 (by decide) ?_
    refine lv_iload_n hx hb dX1_withNew_9 rfl (lv_at hl 1 rfl) ?_
    refine lv_iadd hx hb dX1_withNew_10 ?_
    refine lv_lshl (v := ((1 : Int64) <<< (((30 : Int32) + x2).toInt64 &&& 63))) hx hb dX1_withNew_11 rfl ?_
    refine lv_lor hx hb dX1_withNew_12 ?_
    cases h
    exact hret _ _ dX1_withNew_13
  exact key _ (fun pc ls hd => W.lret hx hb hr (fun t ht hW => ⟨_, rfl, rfl, ht⟩) (fun q h => by cases h) hd)
set_option maxHeartbeats 4000000 in
set_option maxRecDepth 100000 in
theorem kX1_without (l : Launch) (D : va_G) (T : Nat → ClassId) (F : Nat) (x0 : Int64) (x2 : Int32) (r : Int64) (h : fX1_without F x0 x2 = some (r)) : Met l yX1_without wsX1_without ({ frames := 1, cells := 0, slots := 0, locals := 24 } : Room) (va_Pc [.long x0, .int x2] (fun U => va_P D vwCl ([] : va_W) U.heap ∧ KK D T U)) (vp_Sl (fun r' => r' = r)) 0 0 (fun _ => False) := by
  refine Met.ofW (cc := cX1_without) (maxL := 3) (ret := some .long) (by decide) rfl ?_
  intro p e s m args below meth c s₁ B hml hv
  obtain ⟨ha, hP, hKK⟩ := hv
  have hx := B.exec
  have hb := B.bytes
  have hr := B.returns
  have hts := atoms_spec (ws := wsX1_without) B.pre
  have hown : s.vm.findClass RX1 = some m.cls := findClass_of_methodNamed B.named
  have hlocks := B.notSynchronized
  have hK := hKK.1
  have hFix : CallFix p m c cX1_without 3 s args wsX1_without RX1 := ⟨hx, hb, hml, hown, hts⟩
  have q1 := hts _ (List.mem_of_getElem? (i := 1) (show wsX1_without[1]? = some (Cond.constantLong RX1 27 (-1)) from rfl))
  obtain ⟨ls, hl, e0⟩ := my_entry (m := m) (n := 3) ha (Nat.le_of_ble_eq_true rfl)
  rw [e0]
  have hl : lv_has ls 3 [(0, .long x0), (2, .int x2)] := hl
  have key : ∀ Q : State → Prop, (∀ (pc : Nat) (ls : Array Slot), decode cX1_without pc = .ok (.lreturn, 1) → W p l e ({ frames := 1, cells := 0, slots := 0, locals := 24 } : Room) s m args below meth c s.heap [] 0 0 Q (F0 m pc ls [.long r])) → W p l e ({ frames := 1, cells := 0, slots := 0, locals := 24 } : Room) s m args below meth c s.heap [] 0 0 Q (F0 m 0 ls []) := by
    intro Q hret
    unfold fX1_without at h
    refine lv_lload_n hx hb dX1_without_0 rfl (lv_at hl 0 rfl) ?_
    refine lv_iload_n hx hb dX1_without_1 rfl (lv_at hl 1 rfl) ?_
    refine lv_iconst (v := (0 : Int32)) hx hb dX1_without_2 (by decide) ?_
    obtain ⟨r3, hc, h⟩ := bd1_some h
    refine my_rol (va_Run.run (va_runS (As := [.long x0, .int x2, .int (0 : Int32)]) (rest := []) hFix (kX1_withGrief l D T F x0 x2 (0 : Int32) r3 hc) (va_cwS 3 hts gX1_without_X1_withGrief rfl rfl rfl hd_X1_withGrief ⟨Nat.le_of_ble_eq_true rfl, Nat.le_of_ble_eq_true rfl⟩) (preS_ro hP hKK) rfl rfl hl.1 rfl (lv_room (Nat.le_of_ble_eq_true rfl)) dX1_without_3 ⟨Nat.zero_le _, Nat.zero_le _⟩)) ?_
    refine lv_lconst (v := (1 : Int64)) hx hb dX1_without_6 (by decide) ?_
    refine lv_bipush (v := (30 : Int32)) hx hb dX1_without_7 (by decide) ?_
    refine lv_iload_n hx hb dX1_without_9 rfl (lv_at hl 1 rfl) ?_
    refine lv_iadd hx hb dX1_without_10 ?_
    refine lv_lshl (v := ((1 : Int64) <<< (((30 : Int32) + x2).toInt64 &&& 63))) hx hb dX1_without_11 rfl ?_
    refine lv_ldc2 (v := (-1 : Int64)) hx hb hown q1 dX1_without_12 ?_
    refine lv_lxor hx hb dX1_without_15 ?_
    refine lv_land hx hb dX1_without_16 ?_
    cases h
    exact hret _ _ dX1_without_17
  exact key _ (fun pc ls hd => W.lret hx hb hr (fun t ht hW => ⟨_, rfl, rfl, ht⟩) (fun q h => by cases h) hd)
set_option maxHeartbeats 4000000 in
set_option maxRecDepth 100000 in
theorem kX2_clear (l : Launch) (D : va_G) (T : Nat → ClassId) (F : Nat) (a0 : Nat) (a1 : Nat) (a2 : Nat) (a3 : Nat) (a4 : Nat) (a5 : Nat) (size : Int32) (clause : Int32) (eff : Nat → Int32) (kin : Nat → Int32) (gri : Nat → Int32) (sig : Nat → Int32) (see : Nat → Int32) (zsize : Int32) (zclause : Int32) (zsig : Nat → Int32) (zsee : Nat → Int32) (h : fX2_clear F size clause sig see = some (zsize, zclause, zsig, zsee)) : ∀ sz : Nat, Met l yX2_clear wsX2_clear ({ frames := 0, cells := 0, slots := 0, locals := 0 } : Room) (va_Pc [.ref a0] (fun U => U.heap.size = sz ∧ va_P D vwCl (wPa T a0 a1 a2 a3 a4 a5 size clause eff kin gri sig see) U.heap ∧ KK D T U ∧ va_D (fun _ => True) (wPa T a0 a1 a2 a3 a4 a5 size clause eff kin gri sig see))) (va_Qv (fun _ : Unit => True) (fun _ t => va_P D vwCl (wPa T a0 a1 a2 a3 a4 a5 zsize zclause eff kin gri zsig zsee) t.heap ∧ va_D (va_A (wPa T a0 a1 a2 a3 a4 a5 size clause eff kin gri sig see) sz) (wPa T a0 a1 a2 a3 a4 a5 zsize zclause eff kin gri zsig zsee)) (va_A (wPa T a0 a1 a2 a3 a4 a5 size clause eff kin gri sig see) sz)) 0 0 (va_A (wPa T a0 a1 a2 a3 a4 a5 size clause eff kin gri sig see) sz) := by
  intro sz
  refine Met.ofW (cc := cX2_clear) (maxL := 2) (ret := none) (by decide) rfl ?_
  intro p e s m args below meth c s₁ B hml hv
  obtain ⟨ha, hsz, hP, hKK, hD0⟩ := hv
  have hx := B.exec
  have hb := B.bytes
  have hr := B.returns
  have hts := atoms_spec (ws := wsX2_clear) B.pre
  have hown : s.vm.findClass RX2 = some m.cls := findClass_of_methodNamed B.named
  have hlocks := B.notSynchronized
  have hK := hKK.1
  have hFix : CallFix p m c cX2_clear 2 s args wsX2_clear RX2 := ⟨hx, hb, hml, hown, hts⟩
  have q1 := hts _ (List.mem_of_getElem? (i := 1) (show wsX2_clear[1]? = some (Cond.fieldLink RX2 9 "PartyWill$Party" "size" "I") from rfl))
  have q2 := hts _ (List.mem_of_getElem? (i := 2) (show wsX2_clear[2]? = some (Cond.fieldLink RX2 15 "PartyWill$Party" "clause" "I") from rfl))
  have q3 := hts _ (List.mem_of_getElem? (i := 3) (show wsX2_clear[3]? = some (Cond.fieldLink RX2 28 "PartyWill$Party" "sights" "[I") from rfl))
  have q4 := hts _ (List.mem_of_getElem? (i := 4) (show wsX2_clear[4]? = some (Cond.fieldLink RX2 31 "PartyWill$Party" "seers" "[I") from rfl))
  have iX2 : ∀ w ∈ u_ws RX2 TX2 7, w ∈ wsX2_clear := fun w h => List.mem_cons_of_mem _ (List.mem_append_right _ (h))
  subst hsz
  have hD := hD0.self (sz := s.heap.size)
  generalize hAe : va_A (wPa T a0 a1 a2 a3 a4 a5 size clause eff kin gri sig see) s.heap.size = A at hD ⊢
  have hA : ∀ q : Nat, s.heap.size ≤ q → A q := fun q h => by rw [← hAe]; exact Or.inr h
  have hS : va_S A s.heap s.heap [] := va_S.rf
  have hP : va_P D vwCl (wPa T a0 a1 a2 a3 a4 a5 size clause eff kin gri sig see) s.heap := hP
  obtain ⟨ls, hl, e0⟩ := my_entry (m := m) (n := 2) ha (Nat.le_of_ble_eq_true rfl)
  rw [e0]
  have hl : lv_has ls 2 [(0, .ref a0)] := hl
  have key : ∀ Q : State → Prop, (∀ (H : Heap) (locs : List Loc) (pc : Nat) (ls : Array Slot), va_P D vwCl (wPa T a0 a1 a2 a3 a4 a5 zsize zclause eff kin gri zsig zsee) H → va_D A (wPa T a0 a1 a2 a3 a4 a5 zsize zclause eff kin gri zsig zsee) → va_S A s.heap H locs → decode cX2_clear pc = .ok (.return_, 1) → W p l e ({ frames := 0, cells := 0, slots := 0, locals := 0 } : Room) s m args below meth c H locs 0 0 Q (F0 m pc ls [])) → W p l e ({ frames := 0, cells := 0, slots := 0, locals := 0 } : Room) s m args below meth c s.heap [] 0 0 Q (F0 m 0 ls []) := by
    intro Q hret
    skip
    have l12 : ∀ size : Int32, ∀ clause : Int32, ∀ nu : Nat, ∀ x1 : Int32, ∀ sig : Nat → Int32, ∀ see : Nat → Int32, fX2_clear_l12 F size clause nu x1 sig see = some (zsize, zclause, zsig, zsee) → ∀ (H : Heap) (locs : List Loc), va_P D vwCl (wPa T a0 a1 a2 a3 a4 a5 size clause eff kin gri sig see) H → va_D A (wPa T a0 a1 a2 a3 a4 a5 size clause eff kin gri sig see) → va_S A s.heap H locs → ∀ (ls : Array Slot), lv_has ls 2 [(0, .ref a0), (1, .int x1)] → W p l e ({ frames := 0, cells := 0, slots := 0, locals := 0 } : Room) s m args below meth c H locs 0 0 Q (F0 m 12 ls []) := by
      intro size clause
      intro nu
      induction nu with
      | zero => intro x1 sig see h; exact none_some h
      | succ nu12 ih12 =>
        intro x1 sig see h H locs hP hD hS ls hl
        have h : fX2_clear_l12_b F size clause (fX2_clear_l12 F size clause nu12) x1 sig see = some (zsize, zclause, zsig, zsee) := h
        unfold fX2_clear_l12_b at h
        refine lv_iload_n hx hb dX2_clear_12 rfl (lv_at hl 1 rfl) ?_
        refine lv_bipush (v := (6 : Int32)) hx hb dX2_clear_13 (by decide) ?_
        refine lv_icmp_ge (tgt := 38) hx hb dX2_clear_15 (by decide) (fun c15 => ?_) (fun c15 => ?_)
        · have h := br_1 h c15
          cases h
          exact hret _ _ _ _ hP hD hS dX2_clear_38
        · have h := br_0 h c15
          refine lv_aload_n hx hb dX2_clear_18 rfl (lv_at hl 0 rfl) ?_
          refine va_get (D := D) (ci := 1) (C := RX2) (T := TX2) (N := 7) hx hb hts iX2 hown hK hP 0 wPa_0 rfl 5 (by decide) q3 (fun _ h9 => h9) rfl dX2_clear_19 ?_
          refine lv_iload_n hx hb dX2_clear_22 rfl (lv_at hl 1 rfl) ?_
          refine lv_iconst (v := (0 : Int32)) hx hb dX2_clear_23 (by decide) ?_
          obtain ⟨hin1, h⟩ := ck_some h
          refine va_iast hx hb hK hP hD hS 4 0 wPa_4 rfl hin1 dX2_clear_24 (fun H locs hP hD hS => ?_)
          have hP : va_P D vwCl (wPa T a0 a1 a2 a3 a4 a5 size clause eff kin gri (upd sig x1.toNatClampNeg (0 : Int32)) see) H := hP
          have hD : va_D A (wPa T a0 a1 a2 a3 a4 a5 size clause eff kin gri (upd sig x1.toNatClampNeg (0 : Int32)) see) := hD
          refine lv_aload_n hx hb dX2_clear_25 rfl (lv_at hl 0 rfl) ?_
          refine va_get (D := D) (ci := 1) (C := RX2) (T := TX2) (N := 7) hx hb hts iX2 hown hK hP 0 wPa_0 rfl 6 (by decide) q4 (fun _ h9 => h9) rfl dX2_clear_26 ?_
          refine lv_iload_n hx hb dX2_clear_29 rfl (lv_at hl 1 rfl) ?_
          refine lv_iconst (v := (0 : Int32)) hx hb dX2_clear_30 (by decide) ?_
          obtain ⟨hin2, h⟩ := ck_some h
          refine va_iast hx hb hK hP hD hS 5 0 wPa_5 rfl hin2 dX2_clear_31 (fun H locs hP hD hS => ?_)
          have hP : va_P D vwCl (wPa T a0 a1 a2 a3 a4 a5 size clause eff kin gri (upd sig x1.toNatClampNeg (0 : Int32)) (upd see x1.toNatClampNeg (0 : Int32))) H := hP
          have hD : va_D A (wPa T a0 a1 a2 a3 a4 a5 size clause eff kin gri (upd sig x1.toNatClampNeg (0 : Int32)) (upd see x1.toNatClampNeg (0 : Int32))) := hD
          refine lv_iinc (v := (x1 + (1 : Int32))) (lv' := [(1, .int (x1 + (1 : Int32))), (0, .ref a0)]) hx hb dX2_clear_32 hl (k := 1) rfl rfl (by decide) rfl (fun ls hl => ?_)
          refine lv_goto (tgt := 12) hx hb dX2_clear_35 (by decide) ?_
          exact ih12 (x1 + (1 : Int32)) (upd sig x1.toNatClampNeg (0 : Int32)) (upd see x1.toNatClampNeg (0 : Int32)) h _ _ hP hD hS _ (lv_sub hl [1, 0] rfl)
    unfold fX2_clear at h
    refine lv_aload_n hx hb dX2_clear_0 rfl (lv_at hl 0 rfl) ?_
    refine lv_iconst (v := (0 : Int32)) hx hb dX2_clear_1 (by decide) ?_
    refine va_put (D := D) (ci := 1) (v := .int (0 : Int32)) (ty := .int) (C := RX2) (T := TX2) (N := 7) hx hb hts iX2 tyX2 tyX2_ok nmX2 hown hK hP hD hS 0 wPa_0 rfl 0 (by decide) q1 (fun _ h9 => h9) rfl (by decide +kernel) rfl rfl (Nat.le_of_ble_eq_true rfl) dX2_clear_2 (fun H locs hP hD hS => ?_)
    have hP : va_P D vwCl (wPa T a0 a1 a2 a3 a4 a5 (0 : Int32) clause eff kin gri sig see) H := hP
    have hD : va_D A (wPa T a0 a1 a2 a3 a4 a5 (0 : Int32) clause eff kin gri sig see) := hD
    refine lv_aload_n hx hb dX2_clear_5 rfl (lv_at hl 0 rfl) ?_
    refine lv_iconst (v := (0 : Int32)) hx hb dX2_clear_6 (by decide) ?_
    refine va_put (D := D) (ci := 1) (v := .int (0 : Int32)) (ty := .int) (C := RX2) (T := TX2) (N := 7) hx hb hts iX2 tyX2 tyX2_ok nmX2 hown hK hP hD hS 0 wPa_0 rfl 1 (by decide) q2 (fun _ h9 => h9) rfl (by decide +kernel) rfl rfl (Nat.le_of_ble_eq_true rfl) dX2_clear_7 (fun H locs hP hD hS => ?_)
    have hP : va_P D vwCl (wPa T a0 a1 a2 a3 a4 a5 (0 : Int32) (0 : Int32) eff kin gri sig see) H := hP
    have hD : va_D A (wPa T a0 a1 a2 a3 a4 a5 (0 : Int32) (0 : Int32) eff kin gri sig see) := hD
    refine lv_iconst (v := (0 : Int32)) hx hb dX2_clear_10 (by decide) ?_
    refine lv_istore_n (lv' := [(1, .int (0 : Int32)), (0, .ref a0)]) hx hb dX2_clear_11 rfl hl (by decide) rfl (fun ls hl => ?_)
    exact l12 (0 : Int32) (0 : Int32) F (0 : Int32) sig see h _ _ hP hD hS _ (lv_sub hl [1, 0] rfl)
  exact key _ (fun H locs pc ls hP hD hS hd => W.vret hx hb hr (fun t ht hW => ⟨⟨(), rfl, trivial, by show _ ∧ _; rw [ht]; exact ⟨hP, hD⟩⟩, hS.F ht⟩) hS.2.2 hd)
set_option maxHeartbeats 4000000 in
set_option maxRecDepth 100000 in
theorem kX2_arrival (l : Launch) (D : va_G) (T : Nat → ClassId) (F : Nat) (a0 : Nat) (a1 : Nat) (a2 : Nat) (a3 : Nat) (a4 : Nat) (a5 : Nat) (size : Int32) (clause : Int32) (eff : Nat → Int32) (kin : Nat → Int32) (gri : Nat → Int32) (sig : Nat → Int32) (see : Nat → Int32) (r : Int64) (h : fX2_arrival F size gri = some (r)) : Met l yX2_arrival wsX2_arrival ({ frames := 2, cells := 0, slots := 0, locals := 47 } : Room) (va_Pc [.ref a0] (fun U => va_P D vwCl (wPa T a0 a1 a2 a3 a4 a5 size clause eff kin gri sig see) U.heap ∧ KK D T U)) (vp_Sl (fun r' => r' = r)) 0 0 (fun _ => False) := by
  refine Met.ofW (cc := cX2_arrival) (maxL := 4) (ret := some .long) (by decide) rfl ?_
  intro p e s m args below meth c s₁ B hml hv
  obtain ⟨ha, hP, hKK⟩ := hv
  have hx := B.exec
  have hb := B.bytes
  have hr := B.returns
  have hts := atoms_spec (ws := wsX2_arrival) B.pre
  have hown : s.vm.findClass RX2 = some m.cls := findClass_of_methodNamed B.named
  have hlocks := B.notSynchronized
  have hK := hKK.1
  have hFix : CallFix p m c cX2_arrival 4 s args wsX2_arrival RX2 := ⟨hx, hb, hml, hown, hts⟩
  have q1 := hts _ (List.mem_of_getElem? (i := 1) (show wsX2_arrival[1]? = some (Cond.fieldLink RX2 9 "PartyWill$Party" "size" "I") from rfl))
  have q2 := hts _ (List.mem_of_getElem? (i := 2) (show wsX2_arrival[2]? = some (Cond.fieldLink RX2 25 "PartyWill$Party" "griefsAtFirst" "[I") from rfl))
  have q3 := hts _ (List.mem_of_getElem? (i := 3) (show wsX2_arrival[3]? = some (Cond.static yX1_withNew) from rfl))
  have q4 := hts _ (List.mem_of_getElem? (i := 4) (show wsX2_arrival[4]? = some (Cond.initialized RX1) from rfl))
  have iX2 : ∀ w ∈ u_ws RX2 TX2 7, w ∈ wsX2_arrival := fun w h => List.mem_cons_of_mem _ (List.mem_append_right _ (h))
  obtain ⟨ls, hl, e0⟩ := my_entry (m := m) (n := 4) ha (Nat.le_of_ble_eq_true rfl)
  rw [e0]
  have hl : lv_has ls 4 [(0, .ref a0)] := hl
  have key : ∀ Q : State → Prop, (∀ (pc : Nat) (ls : Array Slot), decode cX2_arrival pc = .ok (.lreturn, 1) → W p l e ({ frames := 2, cells := 0, slots := 0, locals := 47 } : Room) s m args below meth c s.heap [] 0 0 Q (F0 m pc ls [.long r])) → W p l e ({ frames := 2, cells := 0, slots := 0, locals := 47 } : Room) s m args below meth c s.heap [] 0 0 Q (F0 m 0 ls []) := by
    intro Q hret
    have l4 : ∀ nu : Nat, ∀ x1 : Int64, ∀ x3 : Int32, fX2_arrival_l4 F size gri nu x1 x3 = some (r) → ∀ (ls : Array Slot), lv_has ls 4 [(0, .ref a0), (1, .long x1), (3, .int x3)] → W p l e ({ frames := 2, cells := 0, slots := 0, locals := 47 } : Room) s m args below meth c s.heap [] 0 0 Q (F0 m 4 ls []) := by
      intro nu
      induction nu with
      | zero => intro x1 x3 h; exact none_some h
      | succ nu4 ih4 =>
        intro x1 x3 h ls hl
        have h : fX2_arrival_l4_b F size gri (fX2_arrival_l4 F size gri nu4) x1 x3 = some (r) := h
        unfold fX2_arrival_l4_b at h
        refine lv_iload_n hx hb dX2_arrival_4 rfl (lv_at hl 2 rfl) ?_
        refine lv_aload_n hx hb dX2_arrival_5 rfl (lv_at hl 0 rfl) ?_
        refine va_get (D := D) (ci := 1) (C := RX2) (T := TX2) (N := 7) hx hb hts iX2 hown hK hP 0 wPa_0 rfl 0 (by decide) q1 (fun _ h9 => h9) rfl dX2_arrival_6 ?_
        refine lv_icmp_ge (tgt := 30) hx hb dX2_arrival_9 (by decide) (fun c9 => ?_) (fun c9 => ?_)
        · have h := br_1 h c9
          refine lv_lload_n hx hb dX2_arrival_30 rfl (lv_at hl 1 rfl) ?_
          cases h
          exact hret _ _ dX2_arrival_31
        · have h := br_0 h c9
          refine lv_lload_n hx hb dX2_arrival_12 rfl (lv_at hl 1 rfl) ?_
          refine lv_iload_n hx hb dX2_arrival_13 rfl (lv_at hl 2 rfl) ?_
          refine lv_aload_n hx hb dX2_arrival_14 rfl (lv_at hl 0 rfl) ?_
          refine va_get (D := D) (ci := 1) (C := RX2) (T := TX2) (N := 7) hx hb hts iX2 hown hK hP 0 wPa_0 rfl 4 (by decide) q2 (fun _ h9 => h9) rfl dX2_arrival_15 ?_
          refine lv_iload_n hx hb dX2_arrival_18 rfl (lv_at hl 2 rfl) ?_
          obtain ⟨hin1, h⟩ := ck_some h
          refine va_iald hx hb hK hP 3 0 wPa_3 rfl hin1 dX2_arrival_19 ?_
          obtain ⟨r20, hc, h⟩ := bd1_some h
          refine my_rol (va_Run.run (va_runSN (host := "PartyWill") (As := [.long x1, .int x3, .int (gri x3.toNatClampNeg)]) (rest := []) hFix (kX1_withNew l D T F x1 x3 (gri x3.toNatClampNeg) r20 hc) ⟨va_cnB 3 hts gX2_arrival_X1_withNew_n34 rfl rfl rfl (nw_X2_34 hKK.2) q4 hd_X1_withNew ⟨Nat.le_of_ble_eq_true rfl, Nat.le_of_ble_eq_true rfl⟩, q3, trivial⟩ (preS_ro va_nil hKK) rfl rfl hl.1 rfl (lv_room (Nat.le_of_ble_eq_true rfl)) dX2_arrival_20 ⟨Nat.zero_le _, Nat.zero_le _⟩)) ?_
          refine lv_lstore_n (lv' := [(1, .long r20), (0, .ref a0), (3, .int x3)]) hx hb dX2_arrival_23 rfl hl (by decide) rfl (fun ls hl => ?_)
          refine lv_iinc (v := (x3 + (1 : Int32))) (lv' := [(3, .int (x3 + (1 : Int32))), (1, .long r20), (0, .ref a0)]) hx hb dX2_arrival_24 hl (k := 2) rfl rfl (by decide) rfl (fun ls hl => ?_)
          refine lv_goto (tgt := 4) hx hb dX2_arrival_27 (by decide) ?_
          exact ih4 r20 (x3 + (1 : Int32)) h _ (lv_sub hl [2, 1, 0] rfl)
    unfold fX2_arrival at h
    refine lv_lconst (v := (0 : Int64)) hx hb dX2_arrival_0 (by decide) ?_
    refine lv_lstore_n (lv' := [(1, .long (0 : Int64)), (0, .ref a0)]) hx hb dX2_arrival_1 rfl hl (by decide) rfl (fun ls hl => ?_)
    refine lv_iconst (v := (0 : Int32)) hx hb dX2_arrival_2 (by decide) ?_
    refine lv_istore_n (lv' := [(3, .int (0 : Int32)), (1, .long (0 : Int64)), (0, .ref a0)]) hx hb dX2_arrival_3 rfl hl (by decide) rfl (fun ls hl => ?_)
    exact l4 F (0 : Int64) (0 : Int32) h _ (lv_sub hl [2, 1, 0] rfl)
  exact key _ (fun pc ls hd => W.lret hx hb hr (fun t ht hW => ⟨_, rfl, rfl, ht⟩) (fun q h => by cases h) hd)
set_option maxHeartbeats 4000000 in
set_option maxRecDepth 100000 in
theorem kX2_bounded (l : Launch) (D : va_G) (T : Nat → ClassId) (F : Nat) (x0 : Int32) (r : Int32) (h : fX2_bounded F x0 = some (r)) : Met l yX2_bounded wsX2_bounded ({ frames := 1, cells := 0, slots := 0, locals := 30 } : Room) (va_Pc [.int x0] (fun U => va_P D vwCl ([] : va_W) U.heap ∧ KK D T U)) (vp_Si (fun r' => r' = r)) 0 0 (fun _ => False) := by
  refine Met.ofW (cc := cX2_bounded) (maxL := 1) (ret := some .int) (by decide) rfl ?_
  intro p e s m args below meth c s₁ B hml hv
  obtain ⟨ha, hP, hKK⟩ := hv
  have hx := B.exec
  have hb := B.bytes
  have hr := B.returns
  have hts := atoms_spec (ws := wsX2_bounded) B.pre
  have hown : s.vm.findClass RX2 = some m.cls := findClass_of_methodNamed B.named
  have hlocks := B.notSynchronized
  have hK := hKK.1
  have hFix : CallFix p m c cX2_bounded 1 s args wsX2_bounded RX2 := ⟨hx, hb, hml, hown, hts⟩
  have q1 := hts _ (List.mem_of_getElem? (i := 1) (show wsX2_bounded[1]? = some (Cond.methodLink RX2 40 Lib.Math.min.name) from rfl))
  have q2 := hts _ (List.mem_of_getElem? (i := 2) (show wsX2_bounded[2]? = some (Cond.static Lib.Math.min.name) from rfl))
  have q3 := hts _ (List.mem_of_getElem? (i := 3) (show wsX2_bounded[3]? = some (Cond.initialized "java/lang/Math") from rfl))
  have q4 := hts _ (List.mem_of_getElem? (i := 4) (show wsX2_bounded[4]? = some (Cond.code Lib.Math.min.name Lib.Math.min.code 2 (some .int)) from rfl))
  have q5 := hts _ (List.mem_of_getElem? (i := 5) (show wsX2_bounded[5]? = some (Cond.methodLink RX2 46 Lib.Math.max.name) from rfl))
  have q6 := hts _ (List.mem_of_getElem? (i := 6) (show wsX2_bounded[6]? = some (Cond.static Lib.Math.max.name) from rfl))
  have q7 := hts _ (List.mem_of_getElem? (i := 7) (show wsX2_bounded[7]? = some (Cond.code Lib.Math.max.name Lib.Math.max.code 2 (some .int)) from rfl))
  obtain ⟨ls, hl, e0⟩ := my_entry (m := m) (n := 1) ha (Nat.le_of_ble_eq_true rfl)
  rw [e0]
  have hl : lv_has ls 1 [(0, .int x0)] := hl
  have key : ∀ Q : State → Prop, (∀ (pc : Nat) (ls : Array Slot), decode cX2_bounded pc = .ok (.ireturn, 1) → W p l e ({ frames := 1, cells := 0, slots := 0, locals := 30 } : Room) s m args below meth c s.heap [] 0 0 Q (F0 m pc ls [.int r])) → W p l e ({ frames := 1, cells := 0, slots := 0, locals := 30 } : Room) s m args below meth c s.heap [] 0 0 Q (F0 m 0 ls []) := by
    intro Q hret
    unfold fX2_bounded at h
    refine lv_iconst (v := (0 : Int32)) hx hb dX2_bounded_0 (by decide) ?_
    refine lv_bipush (v := (20 : Int32)) hx hb dX2_bounded_1 (by decide) ?_
    refine lv_iload_n hx hb dX2_bounded_3 rfl (lv_at hl 0 rfl) ?_
    refine va_mmin hx hb (hml.trans hl.1.symm) hown q1 q2 q3 q4 (Nat.le_of_ble_eq_true rfl) (Nat.le_of_ble_eq_true rfl) (Nat.zero_le _) (Nat.zero_le _) dX2_bounded_4 ?_
    refine va_mmax hx hb (hml.trans hl.1.symm) hown q5 q6 q3 q7 (Nat.le_of_ble_eq_true rfl) (Nat.le_of_ble_eq_true rfl) (Nat.zero_le _) (Nat.zero_le _) dX2_bounded_7 ?_
    cases h
    exact hret _ _ dX2_bounded_10
  exact key _ (fun pc ls hd => W.iret hx hb hr (fun t ht hW => ⟨_, rfl, rfl, ht⟩) (fun q h => by cases h) hd)
set_option maxHeartbeats 4000000 in
set_option maxRecDepth 100000 in
theorem kX2_riseOfDancer (l : Launch) (D : va_G) (T : Nat → ClassId) (F : Nat) (x0 : Int32) (x1 : Int32) (r : Int32) (h : fX2_riseOfDancer F x0 x1 = some (r)) : Met l yX2_riseOfDancer wsX2_riseOfDancer ({ frames := 0, cells := 0, slots := 0, locals := 0 } : Room) (va_Pc [.int x0, .int x1] (fun U => va_P D vwCl ([] : va_W) U.heap ∧ KK D T U)) (vp_Si (fun r' => r' = r)) 0 0 (fun _ => False) := by
  refine Met.ofW (cc := cX2_riseOfDancer) (maxL := 2) (ret := some .int) (by decide) rfl ?_
  intro p e s m args below meth c s₁ B hml hv
  obtain ⟨ha, hP, hKK⟩ := hv
  have hx := B.exec
  have hb := B.bytes
  have hr := B.returns
  have hts := atoms_spec (ws := wsX2_riseOfDancer) B.pre
  have hown : s.vm.findClass RX2 = some m.cls := findClass_of_methodNamed B.named
  have hlocks := B.notSynchronized
  have hK := hKK.1
  have hFix : CallFix p m c cX2_riseOfDancer 2 s args wsX2_riseOfDancer RX2 := ⟨hx, hb, hml, hown, hts⟩
  obtain ⟨ls, hl, e0⟩ := my_entry (m := m) (n := 2) ha (Nat.le_of_ble_eq_true rfl)
  rw [e0]
  have hl : lv_has ls 2 [(0, .int x0), (1, .int x1)] := hl
  have key : ∀ Q : State → Prop, (∀ (pc : Nat) (ls : Array Slot), decode cX2_riseOfDancer pc = .ok (.ireturn, 1) → W p l e ({ frames := 0, cells := 0, slots := 0, locals := 0 } : Room) s m args below meth c s.heap [] 0 0 Q (F0 m pc ls [.int r])) → W p l e ({ frames := 0, cells := 0, slots := 0, locals := 0 } : Room) s m args below meth c s.heap [] 0 0 Q (F0 m 0 ls []) := by
    intro Q hret
    unfold fX2_riseOfDancer at h
    refine lv_iload_n hx hb dX2_riseOfDancer_0 rfl (lv_at hl 0 rfl) ?_
    refine lv_iconst (v := (1 : Int32)) hx hb dX2_riseOfDancer_1 (by decide) ?_
    refine lv_icmp_eq (tgt := 10) hx hb dX2_riseOfDancer_2 (by decide) (fun c2 => ?_) (fun c2 => ?_)
    · have h := br_1 h c2
      refine lv_iload_n hx hb dX2_riseOfDancer_10 rfl (lv_at hl 1 rfl) ?_
      refine lv_iconst (v := (1 : Int32)) hx hb dX2_riseOfDancer_11 (by decide) ?_
      refine lv_isub hx hb dX2_riseOfDancer_12 ?_
      refine lv_goto (tgt := 17) hx hb dX2_riseOfDancer_13 (by decide) ?_
      cases h
      exact hret _ _ dX2_riseOfDancer_17
    · have h := br_0 h c2
      refine lv_iload_n hx hb dX2_riseOfDancer_5 rfl (lv_at hl 0 rfl) ?_
      refine lv_iconst (v := (2 : Int32)) hx hb dX2_riseOfDancer_6 (by decide) ?_
      refine lv_icmp_ne (tgt := 16) hx hb dX2_riseOfDancer_7 (by decide) (fun c7 => ?_) (fun c7 => ?_)
      · have h := br_0 h c7
        refine lv_iload_n hx hb dX2_riseOfDancer_16 rfl (lv_at hl 1 rfl) ?_
        cases h
        exact hret _ _ dX2_riseOfDancer_17
      · have h := br_1 h c7
        refine lv_iload_n hx hb dX2_riseOfDancer_10 rfl (lv_at hl 1 rfl) ?_
        refine lv_iconst (v := (1 : Int32)) hx hb dX2_riseOfDancer_11 (by decide) ?_
        refine lv_isub hx hb dX2_riseOfDancer_12 ?_
        refine lv_goto (tgt := 17) hx hb dX2_riseOfDancer_13 (by decide) ?_
        cases h
        exact hret _ _ dX2_riseOfDancer_17
  exact key _ (fun pc ls hd => W.iret hx hb hr (fun t ht hW => ⟨_, rfl, rfl, ht⟩) (fun q h => by cases h) hd)
set_option maxHeartbeats 4000000 in
set_option maxRecDepth 100000 in
theorem kX2_riseByTune (l : Launch) (D : va_G) (T : Nat → ClassId) (F : Nat) (x0 : Int32) (x1 : Int32) (x2 : Int32) (r : Int32) (h : fX2_riseByTune F x0 x1 x2 = some (r)) : Met l yX2_riseByTune wsX2_riseByTune ({ frames := 1, cells := 0, slots := 0, locals := 30 } : Room) (va_Pc [.int x0, .int x1, .int x2] (fun U => va_P D vwCl ([] : va_W) U.heap ∧ KK D T U)) (vp_Si (fun r' => r' = r)) 0 0 (fun _ => False) := by
  refine Met.ofW (cc := cX2_riseByTune) (maxL := 3) (ret := some .int) (by decide) rfl ?_
  intro p e s m args below meth c s₁ B hml hv
  obtain ⟨ha, hP, hKK⟩ := hv
  have hx := B.exec
  have hb := B.bytes
  have hr := B.returns
  have hts := atoms_spec (ws := wsX2_riseByTune) B.pre
  have hown : s.vm.findClass RX2 = some m.cls := findClass_of_methodNamed B.named
  have hlocks := B.notSynchronized
  have hK := hKK.1
  have hFix : CallFix p m c cX2_riseByTune 3 s args wsX2_riseByTune RX2 := ⟨hx, hb, hml, hown, hts⟩
  have q1 := hts _ (List.mem_of_getElem? (i := 1) (show wsX2_riseByTune[1]? = some (Cond.methodLink RX2 40 Lib.Math.min.name) from rfl))
  have q2 := hts _ (List.mem_of_getElem? (i := 2) (show wsX2_riseByTune[2]? = some (Cond.static Lib.Math.min.name) from rfl))
  have q3 := hts _ (List.mem_of_getElem? (i := 3) (show wsX2_riseByTune[3]? = some (Cond.initialized "java/lang/Math") from rfl))
  have q4 := hts _ (List.mem_of_getElem? (i := 4) (show wsX2_riseByTune[4]? = some (Cond.code Lib.Math.min.name Lib.Math.min.code 2 (some .int)) from rfl))
  obtain ⟨ls, hl, e0⟩ := my_entry (m := m) (n := 3) ha (Nat.le_of_ble_eq_true rfl)
  rw [e0]
  have hl : lv_has ls 3 [(0, .int x0), (1, .int x1), (2, .int x2)] := hl
  have key : ∀ Q : State → Prop, (∀ (pc : Nat) (ls : Array Slot), decode cX2_riseByTune pc = .ok (.ireturn, 1) → W p l e ({ frames := 1, cells := 0, slots := 0, locals := 30 } : Room) s m args below meth c s.heap [] 0 0 Q (F0 m pc ls [.int r])) → W p l e ({ frames := 1, cells := 0, slots := 0, locals := 30 } : Room) s m args below meth c s.heap [] 0 0 Q (F0 m 0 ls []) := by
    intro Q hret
    unfold fX2_riseByTune at h
    refine lv_iload_n hx hb dX2_riseByTune_0 rfl (lv_at hl 0 rfl) ?_
    by_cases z1_0 : x0 = (1 : Int32)
    · have h := br_1 h z1_0
      refine lv_tableIn (tgt := 36) (off := 35) hx hb dX2_riseByTune_1 (by rw [z1_0]; decide) (by rw [z1_0]; decide) (by rw [z1_0]; decide) (by decide) ?_
      refine lv_iload_n hx hb dX2_riseByTune_36 rfl (lv_at hl 1 rfl) ?_
      refine lv_iload_n hx hb dX2_riseByTune_37 rfl (lv_at hl 2 rfl) ?_
      obtain ⟨r38, hc, h⟩ := bd1_some h
      refine my_roi (va_Run.run (va_runS (As := [.int x1, .int x2]) (rest := []) hFix (kX2_riseOfDancer l D T F x1 x2 r38 hc) (va_cwS 2 hts gX2_riseByTune_X2_riseOfDancer rfl rfl rfl hd_X2_riseOfDancer ⟨Nat.le_of_ble_eq_true rfl, Nat.le_of_ble_eq_true rfl⟩) (preS_ro hP hKK) rfl rfl hl.1 rfl (lv_room (Nat.le_of_ble_eq_true rfl)) dX2_riseByTune_38 ⟨Nat.zero_le _, Nat.zero_le _⟩)) ?_
      cases h
      exact hret _ _ dX2_riseByTune_41
    have h := br_0 h z1_0
    by_cases z1_1 : x0 = (2 : Int32)
    · have h := br_1 h z1_1
      refine lv_tableIn (tgt := 58) (off := 57) hx hb dX2_riseByTune_1 (by rw [z1_1]; decide) (by rw [z1_1]; decide) (by rw [z1_1]; decide) (by decide) ?_
      refine lv_iload_n hx hb dX2_riseByTune_58 rfl (lv_at hl 2 rfl) ?_
      refine lv_iconst (v := (1 : Int32)) hx hb dX2_riseByTune_59 (by decide) ?_
      refine va_mmin hx hb (hml.trans hl.1.symm) hown q1 q2 q3 q4 (Nat.le_of_ble_eq_true rfl) (Nat.le_of_ble_eq_true rfl) (Nat.zero_le _) (Nat.zero_le _) dX2_riseByTune_60 ?_
      cases h
      exact hret _ _ dX2_riseByTune_63
    have h := br_0 h z1_1
    by_cases z1_2 : x0 = (3 : Int32)
    · have h := br_1 h z1_2
      refine lv_tableIn (tgt := 64) (off := 63) hx hb dX2_riseByTune_1 (by rw [z1_2]; decide) (by rw [z1_2]; decide) (by rw [z1_2]; decide) (by decide) ?_
      refine lv_iload_n hx hb dX2_riseByTune_64 rfl (lv_at hl 2 rfl) ?_
      refine lv_if_le (tgt := 74) hx hb dX2_riseByTune_65 (by decide) (fun c65 => ?_) (fun c65 => ?_)
      · have h := br_1 h c65
        refine lv_iload_n hx hb dX2_riseByTune_74 rfl (lv_at hl 2 rfl) ?_
        cases h
        exact hret _ _ dX2_riseByTune_75
      · have h := br_0 h c65
        refine lv_iconst (v := (2 : Int32)) hx hb dX2_riseByTune_68 (by decide) ?_
        refine lv_iload_n hx hb dX2_riseByTune_69 rfl (lv_at hl 2 rfl) ?_
        refine lv_imul hx hb dX2_riseByTune_70 ?_
        refine lv_goto (tgt := 75) hx hb dX2_riseByTune_71 (by decide) ?_
        cases h
        exact hret _ _ dX2_riseByTune_75
    have h := br_0 h z1_2
    by_cases z1_3 : x0 = (4 : Int32)
    · have h := br_1 h z1_3
      refine lv_tableIn (tgt := 42) (off := 41) hx hb dX2_riseByTune_1 (by rw [z1_3]; decide) (by rw [z1_3]; decide) (by rw [z1_3]; decide) (by decide) ?_
      refine lv_iload_n hx hb dX2_riseByTune_42 rfl (lv_at hl 1 rfl) ?_
      refine lv_iconst (v := (1 : Int32)) hx hb dX2_riseByTune_43 (by decide) ?_
      refine lv_icmp_ne (tgt := 52) hx hb dX2_riseByTune_44 (by decide) (fun c44 => ?_) (fun c44 => ?_)
      · have h := br_0 h c44
        refine lv_iload_n hx hb dX2_riseByTune_52 rfl (lv_at hl 1 rfl) ?_
        refine lv_iload_n hx hb dX2_riseByTune_53 rfl (lv_at hl 2 rfl) ?_
        obtain ⟨r54, hc, h⟩ := bd1_some h
        refine my_roi (va_Run.run (va_runS (As := [.int x1, .int x2]) (rest := []) hFix (kX2_riseOfDancer l D T F x1 x2 r54 hc) (va_cwS 2 hts gX2_riseByTune_X2_riseOfDancer rfl rfl rfl hd_X2_riseOfDancer ⟨Nat.le_of_ble_eq_true rfl, Nat.le_of_ble_eq_true rfl⟩) (preS_ro hP hKK) rfl rfl hl.1 rfl (lv_room (Nat.le_of_ble_eq_true rfl)) dX2_riseByTune_54 ⟨Nat.zero_le _, Nat.zero_le _⟩)) ?_
        cases h
        exact hret _ _ dX2_riseByTune_57
      · have h := br_1 h c44
        refine lv_bipush (v := (-20 : Int32)) hx hb dX2_riseByTune_47 (by decide) ?_
        refine lv_goto (tgt := 57) hx hb dX2_riseByTune_49 (by decide) ?_
        cases h
        exact hret _ _ dX2_riseByTune_57
    have h := br_0 h z1_3
    by_cases z1_4 : x0 = (5 : Int32)
    · have h := br_1 h z1_4
      refine lv_tableIn (tgt := 58) (off := 57) hx hb dX2_riseByTune_1 (by rw [z1_4]; decide) (by rw [z1_4]; decide) (by rw [z1_4]; decide) (by decide) ?_
      refine lv_iload_n hx hb dX2_riseByTune_58 rfl (lv_at hl 2 rfl) ?_
      refine lv_iconst (v := (1 : Int32)) hx hb dX2_riseByTune_59 (by decide) ?_
      refine va_mmin hx hb (hml.trans hl.1.symm) hown q1 q2 q3 q4 (Nat.le_of_ble_eq_true rfl) (Nat.le_of_ble_eq_true rfl) (Nat.zero_le _) (Nat.zero_le _) dX2_riseByTune_60 ?_
      cases h
      exact hret _ _ dX2_riseByTune_63
    have h := br_0 h z1_4
    have e1_0 : x0.toInt ≠ 1 := fun e => z1_0 (Int32.toInt_inj.mp e)
    have e1_1 : x0.toInt ≠ 2 := fun e => z1_1 (Int32.toInt_inj.mp e)
    have e1_2 : x0.toInt ≠ 3 := fun e => z1_2 (Int32.toInt_inj.mp e)
    have e1_3 : x0.toInt ≠ 4 := fun e => z1_3 (Int32.toInt_inj.mp e)
    have e1_4 : x0.toInt ≠ 5 := fun e => z1_4 (Int32.toInt_inj.mp e)
    refine lv_tableOut (tgt := 76) hx hb dX2_riseByTune_1 (by omega) (by decide) ?_
    refine lv_iload_n hx hb dX2_riseByTune_76 rfl (lv_at hl 2 rfl) ?_
    cases h
    exact hret _ _ dX2_riseByTune_77
  exact key _ (fun pc ls hd => W.iret hx hb hr (fun t ht hW => ⟨_, rfl, rfl, ht⟩) (fun q h => by cases h) hd)
set_option maxHeartbeats 4000000 in
set_option maxRecDepth 100000 in
theorem kX2_riseByName (l : Launch) (D : va_G) (T : Nat → ClassId) (F : Nat) (x0 : Int32) (r : Int32) (h : fX2_riseByName F x0 = some (r)) : Met l yX2_riseByName wsX2_riseByName ({ frames := 0, cells := 0, slots := 0, locals := 0 } : Room) (va_Pc [.int x0] (fun U => va_P D vwCl ([] : va_W) U.heap ∧ KK D T U)) (vp_Si (fun r' => r' = r)) 0 0 (fun _ => False) := by
  refine Met.ofW (cc := cX2_riseByName) (maxL := 1) (ret := some .int) (by decide) rfl ?_
  intro p e s m args below meth c s₁ B hml hv
  obtain ⟨ha, hP, hKK⟩ := hv
  have hx := B.exec
  have hb := B.bytes
  have hr := B.returns
  have hts := atoms_spec (ws := wsX2_riseByName) B.pre
  have hown : s.vm.findClass RX2 = some m.cls := findClass_of_methodNamed B.named
  have hlocks := B.notSynchronized
  have hK := hKK.1
  have hFix : CallFix p m c cX2_riseByName 1 s args wsX2_riseByName RX2 := ⟨hx, hb, hml, hown, hts⟩
  obtain ⟨ls, hl, e0⟩ := my_entry (m := m) (n := 1) ha (Nat.le_of_ble_eq_true rfl)
  rw [e0]
  have hl : lv_has ls 1 [(0, .int x0)] := hl
  have key : ∀ Q : State → Prop, (∀ (pc : Nat) (ls : Array Slot), decode cX2_riseByName pc = .ok (.ireturn, 1) → W p l e ({ frames := 0, cells := 0, slots := 0, locals := 0 } : Room) s m args below meth c s.heap [] 0 0 Q (F0 m pc ls [.int r])) → W p l e ({ frames := 0, cells := 0, slots := 0, locals := 0 } : Room) s m args below meth c s.heap [] 0 0 Q (F0 m 0 ls []) := by
    intro Q hret
    unfold fX2_riseByName at h
    refine lv_iload_n hx hb dX2_riseByName_0 rfl (lv_at hl 0 rfl) ?_
    by_cases z1_0 : x0 = (2 : Int32)
    · have h := br_1 h z1_0
      refine lv_tableIn (tgt := 32) (off := 31) hx hb dX2_riseByName_1 (by rw [z1_0]; decide) (by rw [z1_0]; decide) (by rw [z1_0]; decide) (by decide) ?_
      refine lv_iconst (v := (1 : Int32)) hx hb dX2_riseByName_32 (by decide) ?_
      cases h
      exact hret _ _ dX2_riseByName_33
    have h := br_0 h z1_0
    by_cases z1_1 : x0 = (3 : Int32)
    · have h := br_1 h z1_1
      refine lv_tableIn (tgt := 34) (off := 33) hx hb dX2_riseByName_1 (by rw [z1_1]; decide) (by rw [z1_1]; decide) (by rw [z1_1]; decide) (by decide) ?_
      refine lv_iconst (v := (4 : Int32)) hx hb dX2_riseByName_34 (by decide) ?_
      cases h
      exact hret _ _ dX2_riseByName_35
    have h := br_0 h z1_1
    by_cases z1_2 : x0 = (4 : Int32)
    · have h := br_1 h z1_2
      refine lv_tableIn (tgt := 36) (off := 35) hx hb dX2_riseByName_1 (by rw [z1_2]; decide) (by rw [z1_2]; decide) (by rw [z1_2]; decide) (by decide) ?_
      refine lv_iconst (v := (2 : Int32)) hx hb dX2_riseByName_36 (by decide) ?_
      cases h
      exact hret _ _ dX2_riseByName_37
    have h := br_0 h z1_2
    by_cases z1_3 : x0 = (5 : Int32)
    · have h := br_1 h z1_3
      refine lv_tableIn (tgt := 32) (off := 31) hx hb dX2_riseByName_1 (by rw [z1_3]; decide) (by rw [z1_3]; decide) (by rw [z1_3]; decide) (by decide) ?_
      refine lv_iconst (v := (1 : Int32)) hx hb dX2_riseByName_32 (by decide) ?_
      cases h
      exact hret _ _ dX2_riseByName_33
    have h := br_0 h z1_3
    have e1_0 : x0.toInt ≠ 2 := fun e => z1_0 (Int32.toInt_inj.mp e)
    have e1_1 : x0.toInt ≠ 3 := fun e => z1_1 (Int32.toInt_inj.mp e)
    have e1_2 : x0.toInt ≠ 4 := fun e => z1_2 (Int32.toInt_inj.mp e)
    have e1_3 : x0.toInt ≠ 5 := fun e => z1_3 (Int32.toInt_inj.mp e)
    refine lv_tableOut (tgt := 36) hx hb dX2_riseByName_1 (by omega) (by decide) ?_
    refine lv_iconst (v := (2 : Int32)) hx hb dX2_riseByName_36 (by decide) ?_
    cases h
    exact hret _ _ dX2_riseByName_37
  exact key _ (fun pc ls hd => W.iret hx hb hr (fun t ht hW => ⟨_, rfl, rfl, ht⟩) (fun q h => by cases h) hd)
set_option maxHeartbeats 4000000 in
set_option maxRecDepth 100000 in
theorem kX2_griefBehind (l : Launch) (D : va_G) (T : Nat → ClassId) (F : Nat) (x0 : Int32) (x1 : Int32) (x2 : Int32) (x3 : Int32) (r : Int32) (h : fX2_griefBehind F x0 x1 x2 x3 = some (r)) : Met l yX2_griefBehind wsX2_griefBehind ({ frames := 2, cells := 0, slots := 0, locals := 52 } : Room) (va_Pc [.int x0, .int x1, .int x2, .int x3] (fun U => va_P D vwCl ([] : va_W) U.heap ∧ KK D T U)) (vp_Si (fun r' => r' = r)) 0 0 (fun _ => False) := by
  refine Met.ofW (cc := cX2_griefBehind) (maxL := 4) (ret := some .int) (by decide) rfl ?_
  intro p e s m args below meth c s₁ B hml hv
  obtain ⟨ha, hP, hKK⟩ := hv
  have hx := B.exec
  have hb := B.bytes
  have hr := B.returns
  have hts := atoms_spec (ws := wsX2_griefBehind) B.pre
  have hown : s.vm.findClass RX2 = some m.cls := findClass_of_methodNamed B.named
  have hlocks := B.notSynchronized
  have hK := hKK.1
  have hFix : CallFix p m c cX2_griefBehind 4 s args wsX2_griefBehind RX2 := ⟨hx, hb, hml, hown, hts⟩
  obtain ⟨ls, hl, e0⟩ := my_entry (m := m) (n := 4) ha (Nat.le_of_ble_eq_true rfl)
  rw [e0]
  have hl : lv_has ls 4 [(0, .int x0), (1, .int x1), (2, .int x2), (3, .int x3)] := hl
  have key : ∀ Q : State → Prop, (∀ (pc : Nat) (ls : Array Slot), decode cX2_griefBehind pc = .ok (.ireturn, 1) → W p l e ({ frames := 2, cells := 0, slots := 0, locals := 52 } : Room) s m args below meth c s.heap [] 0 0 Q (F0 m pc ls [.int r])) → W p l e ({ frames := 2, cells := 0, slots := 0, locals := 52 } : Room) s m args below meth c s.heap [] 0 0 Q (F0 m 0 ls []) := by
    intro Q hret
    unfold fX2_griefBehind at h
    refine lv_iload_n hx hb dX2_griefBehind_0 rfl (lv_at hl 3 rfl) ?_
    refine lv_iload_n hx hb dX2_griefBehind_1 rfl (lv_at hl 0 rfl) ?_
    refine lv_iload_n hx hb dX2_griefBehind_2 rfl (lv_at hl 1 rfl) ?_
    refine lv_iload_n hx hb dX2_griefBehind_3 rfl (lv_at hl 2 rfl) ?_
    obtain ⟨r4, hc, h⟩ := bd1_some h
    refine my_roi (va_Run.run (va_runS (As := [.int x0, .int x1, .int x2]) (rest := [.int x3]) hFix (kX2_riseByTune l D T F x0 x1 x2 r4 hc) (va_cwS 3 hts gX2_griefBehind_X2_riseByTune rfl rfl rfl hd_X2_riseByTune ⟨Nat.le_of_ble_eq_true rfl, Nat.le_of_ble_eq_true rfl⟩) (preS_ro hP hKK) rfl rfl hl.1 rfl (lv_room (Nat.le_of_ble_eq_true rfl)) dX2_griefBehind_4 ⟨Nat.zero_le _, Nat.zero_le _⟩)) ?_
    refine lv_iadd hx hb dX2_griefBehind_7 ?_
    obtain ⟨r8, hc, h⟩ := bd1_some h
    refine my_roi (va_Run.run (va_runS (As := [.int (x3 + r4)]) (rest := []) hFix (kX2_bounded l D T F (x3 + r4) r8 hc) (va_cwS 1 hts gX2_griefBehind_X2_bounded rfl rfl rfl hd_X2_bounded ⟨Nat.le_of_ble_eq_true rfl, Nat.le_of_ble_eq_true rfl⟩) (preS_ro hP hKK) rfl rfl hl.1 rfl (lv_room (Nat.le_of_ble_eq_true rfl)) dX2_griefBehind_8 ⟨Nat.zero_le _, Nat.zero_le _⟩)) ?_
    cases h
    exact hret _ _ dX2_griefBehind_11
  exact key _ (fun pc ls hd => W.iret hx hb hr (fun t ht hW => ⟨_, rfl, rfl, ht⟩) (fun q h => by cases h) hd)
set_option maxHeartbeats 4000000 in
set_option maxRecDepth 100000 in
theorem kX2_canFall (l : Launch) (D : va_G) (T : Nat → ClassId) (F : Nat) (a0 : Nat) (a1 : Nat) (a2 : Nat) (a3 : Nat) (a4 : Nat) (a5 : Nat) (size : Int32) (clause : Int32) (eff : Nat → Int32) (kin : Nat → Int32) (gri : Nat → Int32) (sig : Nat → Int32) (see : Nat → Int32) (x1 : Int32) (x2 : Int32) (r : Int32) (h : fX2_canFall F kin see x1 x2 = some (r)) : Met l yX2_canFall wsX2_canFall ({ frames := 0, cells := 0, slots := 0, locals := 0 } : Room) (va_Pc [.ref a0, .int x1, .int x2] (fun U => va_P D vwCl (wPa T a0 a1 a2 a3 a4 a5 size clause eff kin gri sig see) U.heap ∧ KK D T U)) (vp_Si (fun r' => r' = r ∧ b01 r)) 0 0 (fun _ => False) := by
  refine Met.ofW (cc := cX2_canFall) (maxL := 3) (ret := some .boolean) (by decide) rfl ?_
  intro p e s m args below meth c s₁ B hml hv
  obtain ⟨ha, hP, hKK⟩ := hv
  have hx := B.exec
  have hb := B.bytes
  have hr := B.returns
  have hts := atoms_spec (ws := wsX2_canFall) B.pre
  have hown : s.vm.findClass RX2 = some m.cls := findClass_of_methodNamed B.named
  have hlocks := B.notSynchronized
  have hK := hKK.1
  have hFix : CallFix p m c cX2_canFall 3 s args wsX2_canFall RX2 := ⟨hx, hb, hml, hown, hts⟩
  have q1 := hts _ (List.mem_of_getElem? (i := 1) (show wsX2_canFall[1]? = some (Cond.fieldLink RX2 22 "PartyWill$Party" "kinds" "[I") from rfl))
  have q2 := hts _ (List.mem_of_getElem? (i := 2) (show wsX2_canFall[2]? = some (Cond.fieldLink RX2 31 "PartyWill$Party" "seers" "[I") from rfl))
  have iX2 : ∀ w ∈ u_ws RX2 TX2 7, w ∈ wsX2_canFall := fun w h => List.mem_cons_of_mem _ (List.mem_append_right _ (h))
  obtain ⟨ls, hl, e0⟩ := my_entry (m := m) (n := 3) ha (Nat.le_of_ble_eq_true rfl)
  rw [e0]
  have hl : lv_has ls 3 [(0, .ref a0), (1, .int x1), (2, .int x2)] := hl
  have key : ∀ Q : State → Prop, (∀ (pc : Nat) (ls : Array Slot), decode cX2_canFall pc = .ok (.ireturn, 1) → b01 r → W p l e ({ frames := 0, cells := 0, slots := 0, locals := 0 } : Room) s m args below meth c s.heap [] 0 0 Q (F0 m pc ls [.int r])) → W p l e ({ frames := 0, cells := 0, slots := 0, locals := 0 } : Room) s m args below meth c s.heap [] 0 0 Q (F0 m 0 ls []) := by
    intro Q hret
    unfold fX2_canFall at h
    refine lv_iload_n hx hb dX2_canFall_0 rfl (lv_at hl 1 rfl) ?_
    refine lv_iload_n hx hb dX2_canFall_1 rfl (lv_at hl 2 rfl) ?_
    refine lv_ishr hx hb dX2_canFall_2 ?_
    refine lv_iconst (v := (1 : Int32)) hx hb dX2_canFall_3 (by decide) ?_
    refine lv_iand hx hb dX2_canFall_4 ?_
    refine lv_if_eq (tgt := 33) hx hb dX2_canFall_5 (by decide) (fun c5 => ?_) (fun c5 => ?_)
    · have h := br_1 h c5
      refine lv_iconst (v := (0 : Int32)) hx hb dX2_canFall_33 (by decide) ?_
      cases h
      exact hret _ _ dX2_canFall_34 (Or.inl rfl)
    · have h := br_0 h c5
      refine lv_aload_n hx hb dX2_canFall_8 rfl (lv_at hl 0 rfl) ?_
      refine va_get (D := D) (ci := 1) (C := RX2) (T := TX2) (N := 7) hx hb hts iX2 hown hK hP 0 wPa_0 rfl 3 (by decide) q1 (fun _ h9 => h9) rfl dX2_canFall_9 ?_
      refine lv_iload_n hx hb dX2_canFall_12 rfl (lv_at hl 2 rfl) ?_
      obtain ⟨hin1, h⟩ := ck_some h
      refine va_iald hx hb hK hP 2 0 wPa_2 rfl hin1 dX2_canFall_13 ?_
      refine lv_iconst (v := (5 : Int32)) hx hb dX2_canFall_14 (by decide) ?_
      refine lv_icmp_eq (tgt := 33) hx hb dX2_canFall_15 (by decide) (fun c15 => ?_) (fun c15 => ?_)
      · have h := br_1 h c15
        refine lv_iconst (v := (0 : Int32)) hx hb dX2_canFall_33 (by decide) ?_
        cases h
        exact hret _ _ dX2_canFall_34 (Or.inl rfl)
      · have h := br_0 h c15
        refine lv_aload_n hx hb dX2_canFall_18 rfl (lv_at hl 0 rfl) ?_
        refine va_get (D := D) (ci := 1) (C := RX2) (T := TX2) (N := 7) hx hb hts iX2 hown hK hP 0 wPa_0 rfl 6 (by decide) q2 (fun _ h9 => h9) rfl dX2_canFall_19 ?_
        refine lv_iload_n hx hb dX2_canFall_22 rfl (lv_at hl 2 rfl) ?_
        obtain ⟨hin2, h⟩ := ck_some h
        refine va_iald hx hb hK hP 5 0 wPa_5 rfl hin2 dX2_canFall_23 ?_
        refine lv_iload_n hx hb dX2_canFall_24 rfl (lv_at hl 1 rfl) ?_
        refine lv_iand hx hb dX2_canFall_25 ?_
        refine lv_if_eq (tgt := 33) hx hb dX2_canFall_26 (by decide) (fun c26 => ?_) (fun c26 => ?_)
        · have h := br_1 h c26
          refine lv_iconst (v := (0 : Int32)) hx hb dX2_canFall_33 (by decide) ?_
          cases h
          exact hret _ _ dX2_canFall_34 (Or.inl rfl)
        · have h := br_0 h c26
          refine lv_iconst (v := (1 : Int32)) hx hb dX2_canFall_29 (by decide) ?_
          refine lv_goto (tgt := 34) hx hb dX2_canFall_30 (by decide) ?_
          cases h
          exact hret _ _ dX2_canFall_34 (Or.inr rfl)
  exact key _ (fun pc ls hd hb1 => W.zret hx hb hr (b01_n hb1) (fun t ht hW => ⟨_, rfl, ⟨rfl, hb1⟩, ht⟩) (fun q h => by cases h) hd)
set_option maxHeartbeats 4000000 in
set_option maxRecDepth 100000 in
theorem kX2_withoutTheSeen (l : Launch) (D : va_G) (T : Nat → ClassId) (F : Nat) (a0 : Nat) (a1 : Nat) (a2 : Nat) (a3 : Nat) (a4 : Nat) (a5 : Nat) (size : Int32) (clause : Int32) (eff : Nat → Int32) (kin : Nat → Int32) (gri : Nat → Int32) (sig : Nat → Int32) (see : Nat → Int32) (x1 : Int64) (r : Int64) (h : fX2_withoutTheSeen F size clause kin see x1 = some (r)) : Met l yX2_withoutTheSeen wsX2_withoutTheSeen ({ frames := 2, cells := 0, slots := 0, locals := 46 } : Room) (va_Pc [.ref a0, .long x1] (fun U => va_P D vwCl (wPa T a0 a1 a2 a3 a4 a5 size clause eff kin gri sig see) U.heap ∧ KK D T U)) (vp_Sl (fun r' => r' = r)) 0 0 (fun _ => False) := by
  refine Met.ofW (cc := cX2_withoutTheSeen) (maxL := 7) (ret := some .long) (by decide) rfl ?_
  intro p e s m args below meth c s₁ B hml hv
  obtain ⟨ha, hP, hKK⟩ := hv
  have hx := B.exec
  have hb := B.bytes
  have hr := B.returns
  have hts := atoms_spec (ws := wsX2_withoutTheSeen) B.pre
  have hown : s.vm.findClass RX2 = some m.cls := findClass_of_methodNamed B.named
  have hlocks := B.notSynchronized
  have hK := hKK.1
  have hFix : CallFix p m c cX2_withoutTheSeen 7 s args wsX2_withoutTheSeen RX2 := ⟨hx, hb, hml, hown, hts⟩
  have q1 := hts _ (List.mem_of_getElem? (i := 1) (show wsX2_withoutTheSeen[1]? = some (Cond.fieldLink RX2 9 "PartyWill$Party" "size" "I") from rfl))
  have q2 := hts _ (List.mem_of_getElem? (i := 2) (show wsX2_withoutTheSeen[2]? = some (Cond.fieldLink RX2 15 "PartyWill$Party" "clause" "I") from rfl))
  have q3 := hts _ (List.mem_of_getElem? (i := 3) (show wsX2_withoutTheSeen[3]? = some (Cond.static yX1_insiders) from rfl))
  have q4 := hts _ (List.mem_of_getElem? (i := 4) (show wsX2_withoutTheSeen[4]? = some (Cond.initialized RX1) from rfl))
  have q6 := hts _ (List.mem_of_getElem? (i := 6) (show wsX2_withoutTheSeen[6]? = some (Cond.static yX1_griefOf) from rfl))
  have q16 := hts _ (List.mem_of_getElem? (i := 16) (show wsX2_withoutTheSeen[16]? = some (Cond.static yX1_without) from rfl))
  have iX2 : ∀ w ∈ u_ws RX2 TX2 7, w ∈ wsX2_withoutTheSeen := fun w h => List.mem_cons_of_mem _ (List.mem_append_right _ (h))
  obtain ⟨ls, hl, e0⟩ := my_entry (m := m) (n := 7) ha (Nat.le_of_ble_eq_true rfl)
  rw [e0]
  have hl : lv_has ls 7 [(0, .ref a0), (1, .long x1)] := hl
  have key : ∀ Q : State → Prop, (∀ (pc : Nat) (ls : Array Slot), decode cX2_withoutTheSeen pc = .ok (.lreturn, 1) → W p l e ({ frames := 2, cells := 0, slots := 0, locals := 46 } : Room) s m args below meth c s.heap [] 0 0 Q (F0 m pc ls [.long r])) → W p l e ({ frames := 2, cells := 0, slots := 0, locals := 46 } : Room) s m args below meth c s.heap [] 0 0 Q (F0 m 0 ls []) := by
    intro Q hret
    have l11 : ∀ x1 : Int64, ∀ x3 : Int32, ∀ nu : Nat, ∀ x4 : Int64, ∀ x6 : Int32, fX2_withoutTheSeen_l11 F size clause kin see x1 x3 nu x4 x6 = some (r) → ∀ (ls : Array Slot), lv_has ls 7 [(0, .ref a0), (1, .long x1), (3, .int x3), (4, .long x4), (6, .int x6)] → W p l e ({ frames := 2, cells := 0, slots := 0, locals := 46 } : Room) s m args below meth c s.heap [] 0 0 Q (F0 m 11 ls []) := by
      intro x1 x3
      intro nu
      induction nu with
      | zero => intro x4 x6 h; exact none_some h
      | succ nu11 ih11 =>
        intro x4 x6 h ls hl
        have h : fX2_withoutTheSeen_l11_b F size clause kin see x1 x3 (fX2_withoutTheSeen_l11 F size clause kin see x1 x3 nu11) x4 x6 = some (r) := h
        unfold fX2_withoutTheSeen_l11_b at h
        refine lv_iload hx hb dX2_withoutTheSeen_11 (lv_at hl 4 rfl) ?_
        refine lv_aload_n hx hb dX2_withoutTheSeen_13 rfl (lv_at hl 0 rfl) ?_
        refine va_get (D := D) (ci := 1) (C := RX2) (T := TX2) (N := 7) hx hb hts iX2 hown hK hP 0 wPa_0 rfl 0 (by decide) q1 (fun _ h9 => h9) rfl dX2_withoutTheSeen_14 ?_
        refine lv_icmp_ge (tgt := 58) hx hb dX2_withoutTheSeen_17 (by decide) (fun c17 => ?_) (fun c17 => ?_)
        · have h := br_1 h c17
          refine lv_lload hx hb dX2_withoutTheSeen_58 (lv_at hl 3 rfl) ?_
          cases h
          exact hret _ _ dX2_withoutTheSeen_60
        · have h := br_0 h c17
          refine lv_lload_n hx hb dX2_withoutTheSeen_20 rfl (lv_at hl 1 rfl) ?_
          refine lv_iload hx hb dX2_withoutTheSeen_21 (lv_at hl 4 rfl) ?_
          obtain ⟨r23, hc, h⟩ := bd1_some h
          refine my_roi (va_Run.run (va_runSN (host := "PartyWill") (As := [.long x1, .int x6]) (rest := []) hFix (kX1_griefOf l D T F x1 x6 r23 hc) ⟨va_cnB 2 hts gX2_withoutTheSeen_X1_griefOf_n64 rfl rfl rfl (nw_X2_64 hKK.2) q4 hd_X1_griefOf ⟨Nat.le_of_ble_eq_true rfl, Nat.le_of_ble_eq_true rfl⟩, q6, trivial⟩ (preS_ro va_nil hKK) rfl rfl hl.1 rfl (lv_room (Nat.le_of_ble_eq_true rfl)) dX2_withoutTheSeen_23 ⟨Nat.zero_le _, Nat.zero_le _⟩)) ?_
          refine lv_aload_n hx hb dX2_withoutTheSeen_26 rfl (lv_at hl 0 rfl) ?_
          refine va_get (D := D) (ci := 1) (C := RX2) (T := TX2) (N := 7) hx hb hts iX2 hown hK hP 0 wPa_0 rfl 1 (by decide) q2 (fun _ h9 => h9) rfl dX2_withoutTheSeen_27 ?_
          refine lv_icmp_le (tgt := 52) hx hb dX2_withoutTheSeen_30 (by decide) (fun c30 => ?_) (fun c30 => ?_)
          · have h := br_1 h c30
            refine lv_iinc (v := (x6 + (1 : Int32))) (lv' := [(6, .int (x6 + (1 : Int32))), (0, .ref a0), (1, .long x1), (3, .int x3), (4, .long x4)]) hx hb dX2_withoutTheSeen_52 hl (k := 4) rfl rfl (by decide) rfl (fun ls hl => ?_)
            refine lv_goto (tgt := 11) hx hb dX2_withoutTheSeen_55 (by decide) ?_
            exact ih11 x4 (x6 + (1 : Int32)) h _ (lv_sub hl [1, 2, 3, 4, 0] rfl)
          · have h := br_0 h c30
            refine lv_aload_n hx hb dX2_withoutTheSeen_33 rfl (lv_at hl 0 rfl) ?_
            refine lv_iload_n hx hb dX2_withoutTheSeen_34 rfl (lv_at hl 2 rfl) ?_
            refine lv_iload hx hb dX2_withoutTheSeen_35 (lv_at hl 4 rfl) ?_
            obtain ⟨r37, hc, h⟩ := bd1_some h
            refine my_roz (va_Run.run (va_runV (As := [.int x3, .int x6]) (rest := []) hFix (kX2_canFall l D T F a0 a1 a2 a3 a4 a5 size clause eff kin gri sig see x3 x6 r37 hc) (cwV 2 hts gX2_withoutTheSeen_X2_canFall rfl rfl rfl ⟨rfl, hd_X2_canFall⟩ ⟨Nat.le_of_ble_eq_true rfl, Nat.le_of_ble_eq_true rfl⟩) (preV_ro hP hKK (va_recv hK hP (ci := 1) (q0 := 0) rfl wPa_0)) rfl rfl hl.1 rfl (lv_room (Nat.le_of_ble_eq_true rfl)) dX2_withoutTheSeen_37 ⟨Nat.zero_le _, Nat.zero_le _⟩)) (fun hb37 => ?_)
            refine lv_if_eq (tgt := 52) hx hb dX2_withoutTheSeen_40 (by decide) (fun c40 => ?_) (fun c40 => ?_)
            · have h := br_1 h c40
              refine lv_iinc (v := (x6 + (1 : Int32))) (lv' := [(6, .int (x6 + (1 : Int32))), (0, .ref a0), (1, .long x1), (3, .int x3), (4, .long x4)]) hx hb dX2_withoutTheSeen_52 hl (k := 4) rfl rfl (by decide) rfl (fun ls hl => ?_)
              refine lv_goto (tgt := 11) hx hb dX2_withoutTheSeen_55 (by decide) ?_
              exact ih11 x4 (x6 + (1 : Int32)) h _ (lv_sub hl [1, 2, 3, 4, 0] rfl)
            · have h := br_0 h c40
              refine lv_lload hx hb dX2_withoutTheSeen_43 (lv_at hl 3 rfl) ?_
              refine lv_iload hx hb dX2_withoutTheSeen_45 (lv_at hl 4 rfl) ?_
              obtain ⟨r47, hc, h⟩ := bd1_some h
              refine my_rol (va_Run.run (va_runSN (host := "PartyWill") (As := [.long x4, .int x6]) (rest := []) hFix (kX1_without l D T F x4 x6 r47 hc) ⟨va_cnB 2 hts gX2_withoutTheSeen_X1_without_n90 rfl rfl rfl (nw_X2_90 hKK.2) q4 hd_X1_without ⟨Nat.le_of_ble_eq_true rfl, Nat.le_of_ble_eq_true rfl⟩, q16, trivial⟩ (preS_ro va_nil hKK) rfl rfl hl.1 rfl (lv_room (Nat.le_of_ble_eq_true rfl)) dX2_withoutTheSeen_47 ⟨Nat.zero_le _, Nat.zero_le _⟩)) ?_
              refine lv_lstore (lv' := [(4, .long r47), (0, .ref a0), (1, .long x1), (3, .int x3), (6, .int x6)]) hx hb dX2_withoutTheSeen_50 hl (by decide) rfl (fun ls hl => ?_)
              refine lv_iinc (v := (x6 + (1 : Int32))) (lv' := [(6, .int (x6 + (1 : Int32))), (4, .long r47), (0, .ref a0), (1, .long x1), (3, .int x3)]) hx hb dX2_withoutTheSeen_52 hl (k := 4) rfl rfl (by decide) rfl (fun ls hl => ?_)
              refine lv_goto (tgt := 11) hx hb dX2_withoutTheSeen_55 (by decide) ?_
              exact ih11 r47 (x6 + (1 : Int32)) h _ (lv_sub hl [2, 3, 4, 1, 0] rfl)
    unfold fX2_withoutTheSeen at h
    refine lv_lload_n hx hb dX2_withoutTheSeen_0 rfl (lv_at hl 1 rfl) ?_
    obtain ⟨r1, hc, h⟩ := bd1_some h
    refine my_roi (va_Run.run (va_runSN (host := "PartyWill") (As := [.long x1]) (rest := []) hFix (kX1_insiders l D T F x1 r1 hc) ⟨va_cnB 1 hts gX2_withoutTheSeen_X1_insiders_n82 rfl rfl rfl (nw_X2_82 hKK.2) q4 hd_X1_insiders ⟨Nat.le_of_ble_eq_true rfl, Nat.le_of_ble_eq_true rfl⟩, q3, trivial⟩ (preS_ro va_nil hKK) rfl rfl hl.1 rfl (lv_room (Nat.le_of_ble_eq_true rfl)) dX2_withoutTheSeen_1 ⟨Nat.zero_le _, Nat.zero_le _⟩)) ?_
    refine lv_istore_n (lv' := [(3, .int r1), (0, .ref a0), (1, .long x1)]) hx hb dX2_withoutTheSeen_4 rfl hl (by decide) rfl (fun ls hl => ?_)
    refine lv_lload_n hx hb dX2_withoutTheSeen_5 rfl (lv_at hl 2 rfl) ?_
    refine lv_lstore (lv' := [(4, .long x1), (3, .int r1), (0, .ref a0), (1, .long x1)]) hx hb dX2_withoutTheSeen_6 hl (by decide) rfl (fun ls hl => ?_)
    refine lv_iconst (v := (0 : Int32)) hx hb dX2_withoutTheSeen_8 (by decide) ?_
    refine lv_istore (lv' := [(6, .int (0 : Int32)), (4, .long x1), (3, .int r1), (0, .ref a0), (1, .long x1)]) hx hb dX2_withoutTheSeen_9 hl (by decide) rfl (fun ls hl => ?_)
    exact l11 x1 r1 F x1 (0 : Int32) h _ (lv_sub hl [3, 4, 2, 1, 0] rfl)
  exact key _ (fun pc ls hd => W.lret hx hb hr (fun t ht hW => ⟨_, rfl, rfl, ht⟩) (fun q h => by cases h) hd)
set_option maxHeartbeats 4000000 in
set_option maxRecDepth 100000 in
theorem kX2_afterTune (l : Launch) (D : va_G) (T : Nat → ClassId) (F : Nat) (a0 : Nat) (a1 : Nat) (a2 : Nat) (a3 : Nat) (a4 : Nat) (a5 : Nat) (size : Int32) (clause : Int32) (eff : Nat → Int32) (kin : Nat → Int32) (gri : Nat → Int32) (sig : Nat → Int32) (see : Nat → Int32) (x1 : Int64) (x3 : Int32) (r : Int64) (h : fX2_afterTune F size clause eff kin see x1 x3 = some (r)) : Met l yX2_afterTune wsX2_afterTune ({ frames := 3, cells := 0, slots := 0, locals := 75 } : Room) (va_Pc [.ref a0, .long x1, .int x3] (fun U => va_P D vwCl (wPa T a0 a1 a2 a3 a4 a5 size clause eff kin gri sig see) U.heap ∧ KK D T U)) (vp_Sl (fun r' => r' = r)) 0 0 (fun _ => False) := by
  refine Met.ofW (cc := cX2_afterTune) (maxL := 8) (ret := some .long) (by decide) rfl ?_
  intro p e s m args below meth c s₁ B hml hv
  obtain ⟨ha, hP, hKK⟩ := hv
  have hx := B.exec
  have hb := B.bytes
  have hr := B.returns
  have hts := atoms_spec (ws := wsX2_afterTune) B.pre
  have hown : s.vm.findClass RX2 = some m.cls := findClass_of_methodNamed B.named
  have hlocks := B.notSynchronized
  have hK := hKK.1
  have hFix : CallFix p m c cX2_afterTune 8 s args wsX2_afterTune RX2 := ⟨hx, hb, hml, hown, hts⟩
  have q1 := hts _ (List.mem_of_getElem? (i := 1) (show wsX2_afterTune[1]? = some (Cond.fieldLink RX2 9 "PartyWill$Party" "size" "I") from rfl))
  have q2 := hts _ (List.mem_of_getElem? (i := 2) (show wsX2_afterTune[2]? = some (Cond.fieldLink RX2 22 "PartyWill$Party" "kinds" "[I") from rfl))
  have q3 := hts _ (List.mem_of_getElem? (i := 3) (show wsX2_afterTune[3]? = some (Cond.fieldLink RX2 18 "PartyWill$Party" "effects" "[I") from rfl))
  have q4 := hts _ (List.mem_of_getElem? (i := 4) (show wsX2_afterTune[4]? = some (Cond.static yX1_isIn) from rfl))
  have q5 := hts _ (List.mem_of_getElem? (i := 5) (show wsX2_afterTune[5]? = some (Cond.initialized RX1) from rfl))
  have q7 := hts _ (List.mem_of_getElem? (i := 7) (show wsX2_afterTune[7]? = some (Cond.static yX1_griefOf) from rfl))
  have q30 := hts _ (List.mem_of_getElem? (i := 30) (show wsX2_afterTune[30]? = some (Cond.static yX1_withGrief) from rfl))
  have iX2 : ∀ w ∈ u_ws RX2 TX2 7, w ∈ wsX2_afterTune := fun w h => List.mem_cons_of_mem _ (List.mem_append_right _ (h))
  obtain ⟨ls, hl, e0⟩ := my_entry (m := m) (n := 8) ha (Nat.le_of_ble_eq_true rfl)
  rw [e0]
  have hl : lv_has ls 8 [(0, .ref a0), (1, .long x1), (3, .int x3)] := hl
  have key : ∀ Q : State → Prop, (∀ (pc : Nat) (ls : Array Slot), decode cX2_afterTune pc = .ok (.lreturn, 1) → W p l e ({ frames := 3, cells := 0, slots := 0, locals := 75 } : Room) s m args below meth c s.heap [] 0 0 Q (F0 m pc ls [.long r])) → W p l e ({ frames := 3, cells := 0, slots := 0, locals := 75 } : Room) s m args below meth c s.heap [] 0 0 Q (F0 m 0 ls []) := by
    intro Q hret
    have l6 : ∀ x1 : Int64, ∀ x3 : Int32, ∀ nu : Nat, ∀ x4 : Int64, ∀ x6 : Int32, fX2_afterTune_l6 F size clause eff kin see x1 x3 nu x4 x6 = some (r) → ∀ (ls : Array Slot), lv_has ls 8 [(0, .ref a0), (1, .long x1), (3, .int x3), (4, .long x4), (6, .int x6)] → W p l e ({ frames := 3, cells := 0, slots := 0, locals := 75 } : Room) s m args below meth c s.heap [] 0 0 Q (F0 m 6 ls []) := by
      intro x1 x3
      intro nu
      induction nu with
      | zero => intro x4 x6 h; exact none_some h
      | succ nu6 ih6 =>
        intro x4 x6 h ls hl
        have h : fX2_afterTune_l6_b F size clause eff kin see x1 x3 (fX2_afterTune_l6 F size clause eff kin see x1 x3 nu6) x4 x6 = some (r) := h
        unfold fX2_afterTune_l6_b at h
        refine lv_iload hx hb dX2_afterTune_6 (lv_at hl 4 rfl) ?_
        refine lv_aload_n hx hb dX2_afterTune_8 rfl (lv_at hl 0 rfl) ?_
        refine va_get (D := D) (ci := 1) (C := RX2) (T := TX2) (N := 7) hx hb hts iX2 hown hK hP 0 wPa_0 rfl 0 (by decide) q1 (fun _ h9 => h9) rfl dX2_afterTune_9 ?_
        refine lv_icmp_ge (tgt := 66) hx hb dX2_afterTune_12 (by decide) (fun c12 => ?_) (fun c12 => ?_)
        · have h := br_1 h c12
          refine lv_aload_n hx hb dX2_afterTune_66 rfl (lv_at hl 0 rfl) ?_
          refine lv_lload hx hb dX2_afterTune_67 (lv_at hl 3 rfl) ?_
          obtain ⟨r69, hc, h⟩ := bd1_some h
          refine my_rol (va_Run.run (va_runV (As := [.long x4]) (rest := []) hFix (kX2_withoutTheSeen l D T F a0 a1 a2 a3 a4 a5 size clause eff kin gri sig see x4 r69 hc) (cwV 1 hts gX2_afterTune_X2_withoutTheSeen rfl rfl rfl ⟨rfl, hd_X2_withoutTheSeen⟩ ⟨Nat.le_of_ble_eq_true rfl, Nat.le_of_ble_eq_true rfl⟩) (preV_ro hP hKK (va_recv hK hP (ci := 1) (q0 := 0) rfl wPa_0)) rfl rfl hl.1 rfl (lv_room (Nat.le_of_ble_eq_true rfl)) dX2_afterTune_69 ⟨Nat.zero_le _, Nat.zero_le _⟩)) ?_
          cases h
          exact hret _ _ dX2_afterTune_72
        · have h := br_0 h c12
          refine lv_lload_n hx hb dX2_afterTune_15 rfl (lv_at hl 1 rfl) ?_
          refine lv_iload hx hb dX2_afterTune_16 (lv_at hl 4 rfl) ?_
          obtain ⟨r18, hc, h⟩ := bd1_some h
          refine my_roz (va_Run.run (va_runSN (host := "PartyWill") (As := [.long x1, .int x6]) (rest := []) hFix (kX1_isIn l D T F x1 x6 r18 hc) ⟨va_cnB 2 hts gX2_afterTune_X1_isIn_n60 rfl rfl rfl (nw_X2_60 hKK.2) q5 hd_X1_isIn ⟨Nat.le_of_ble_eq_true rfl, Nat.le_of_ble_eq_true rfl⟩, q4, trivial⟩ (preS_ro va_nil hKK) rfl rfl hl.1 rfl (lv_room (Nat.le_of_ble_eq_true rfl)) dX2_afterTune_18 ⟨Nat.zero_le _, Nat.zero_le _⟩)) (fun hb18 => ?_)
          refine lv_if_eq (tgt := 60) hx hb dX2_afterTune_21 (by decide) (fun c21 => ?_) (fun c21 => ?_)
          · have h := br_1 h c21
            refine lv_iinc (v := (x6 + (1 : Int32))) (lv' := [(6, .int (x6 + (1 : Int32))), (0, .ref a0), (1, .long x1), (3, .int x3), (4, .long x4)]) hx hb dX2_afterTune_60 hl (k := 4) rfl rfl (by decide) rfl (fun ls hl => ?_)
            refine lv_goto (tgt := 6) hx hb dX2_afterTune_63 (by decide) ?_
            exact ih6 x4 (x6 + (1 : Int32)) h _ (lv_sub hl [1, 2, 3, 4, 0] rfl)
          · have h := br_0 h c21
            refine lv_aload_n hx hb dX2_afterTune_24 rfl (lv_at hl 0 rfl) ?_
            refine va_get (D := D) (ci := 1) (C := RX2) (T := TX2) (N := 7) hx hb hts iX2 hown hK hP 0 wPa_0 rfl 3 (by decide) q2 (fun _ h9 => h9) rfl dX2_afterTune_25 ?_
            refine lv_iload hx hb dX2_afterTune_28 (lv_at hl 4 rfl) ?_
            obtain ⟨hin1, h⟩ := ck_some h
            refine va_iald hx hb hK hP 2 0 wPa_2 rfl hin1 dX2_afterTune_30 ?_
            refine lv_iload_n hx hb dX2_afterTune_31 rfl (lv_at hl 2 rfl) ?_
            refine lv_aload_n hx hb dX2_afterTune_32 rfl (lv_at hl 0 rfl) ?_
            refine va_get (D := D) (ci := 1) (C := RX2) (T := TX2) (N := 7) hx hb hts iX2 hown hK hP 0 wPa_0 rfl 2 (by decide) q3 (fun _ h9 => h9) rfl dX2_afterTune_33 ?_
            refine lv_iload_n hx hb dX2_afterTune_36 rfl (lv_at hl 2 rfl) ?_
            obtain ⟨hin2, h⟩ := ck_some h
            refine va_iald hx hb hK hP 1 0 wPa_1 rfl hin2 dX2_afterTune_37 ?_
            refine lv_lload_n hx hb dX2_afterTune_38 rfl (lv_at hl 1 rfl) ?_
            refine lv_iload hx hb dX2_afterTune_39 (lv_at hl 4 rfl) ?_
            obtain ⟨r41, hc, h⟩ := bd1_some h
            refine my_roi (va_Run.run (va_runSN (host := "PartyWill") (As := [.long x1, .int x6]) (rest := [.int (eff x3.toNatClampNeg), .int x3, .int (kin x6.toNatClampNeg)]) hFix (kX1_griefOf l D T F x1 x6 r41 hc) ⟨va_cnB 2 hts gX2_afterTune_X1_griefOf_n64 rfl rfl rfl (nw_X2_64 hKK.2) q5 hd_X1_griefOf ⟨Nat.le_of_ble_eq_true rfl, Nat.le_of_ble_eq_true rfl⟩, q7, trivial⟩ (preS_ro va_nil hKK) rfl rfl hl.1 rfl (lv_room (Nat.le_of_ble_eq_true rfl)) dX2_afterTune_41 ⟨Nat.zero_le _, Nat.zero_le _⟩)) ?_
            obtain ⟨r44, hc, h⟩ := bd1_some h
            refine my_roi (va_Run.run (va_runS (As := [.int (kin x6.toNatClampNeg), .int x3, .int (eff x3.toNatClampNeg), .int r41]) (rest := []) hFix (kX2_griefBehind l D T F (kin x6.toNatClampNeg) x3 (eff x3.toNatClampNeg) r41 r44 hc) (va_cwS 4 hts gX2_afterTune_X2_griefBehind rfl rfl rfl hd_X2_griefBehind ⟨Nat.le_of_ble_eq_true rfl, Nat.le_of_ble_eq_true rfl⟩) (preS_ro va_nil hKK) rfl rfl hl.1 rfl (lv_room (Nat.le_of_ble_eq_true rfl)) dX2_afterTune_44 ⟨Nat.zero_le _, Nat.zero_le _⟩)) ?_
            refine lv_istore (lv' := [(7, .int r44), (0, .ref a0), (1, .long x1), (3, .int x3), (4, .long x4), (6, .int x6)]) hx hb dX2_afterTune_47 hl (by decide) rfl (fun ls hl => ?_)
            refine lv_lload hx hb dX2_afterTune_49 (lv_at hl 4 rfl) ?_
            refine lv_iload hx hb dX2_afterTune_51 (lv_at hl 5 rfl) ?_
            refine lv_iload hx hb dX2_afterTune_53 (lv_at hl 0 rfl) ?_
            obtain ⟨r55, hc, h⟩ := bd1_some h
            refine my_rol (va_Run.run (va_runSN (host := "PartyWill") (As := [.long x4, .int x6, .int r44]) (rest := []) hFix (kX1_withGrief l D T F x4 x6 r44 r55 hc) ⟨va_cnB 3 hts gX2_afterTune_X1_withGrief_n72 rfl rfl rfl (nw_X2_72 hKK.2) q5 hd_X1_withGrief ⟨Nat.le_of_ble_eq_true rfl, Nat.le_of_ble_eq_true rfl⟩, q30, trivial⟩ (preS_ro va_nil hKK) rfl rfl hl.1 rfl (lv_room (Nat.le_of_ble_eq_true rfl)) dX2_afterTune_55 ⟨Nat.zero_le _, Nat.zero_le _⟩)) ?_
            refine lv_lstore (lv' := [(4, .long r55), (7, .int r44), (0, .ref a0), (1, .long x1), (3, .int x3), (6, .int x6)]) hx hb dX2_afterTune_58 hl (by decide) rfl (fun ls hl => ?_)
            refine lv_iinc (v := (x6 + (1 : Int32))) (lv' := [(6, .int (x6 + (1 : Int32))), (4, .long r55), (7, .int r44), (0, .ref a0), (1, .long x1), (3, .int x3)]) hx hb dX2_afterTune_60 hl (k := 5) rfl rfl (by decide) rfl (fun ls hl => ?_)
            refine lv_goto (tgt := 6) hx hb dX2_afterTune_63 (by decide) ?_
            exact ih6 r55 (x6 + (1 : Int32)) h _ (lv_sub hl [3, 4, 5, 1, 0] rfl)
    unfold fX2_afterTune at h
    refine lv_lload_n hx hb dX2_afterTune_0 rfl (lv_at hl 1 rfl) ?_
    refine lv_lstore (lv' := [(4, .long x1), (0, .ref a0), (1, .long x1), (3, .int x3)]) hx hb dX2_afterTune_1 hl (by decide) rfl (fun ls hl => ?_)
    refine lv_iconst (v := (0 : Int32)) hx hb dX2_afterTune_3 (by decide) ?_
    refine lv_istore (lv' := [(6, .int (0 : Int32)), (4, .long x1), (0, .ref a0), (1, .long x1), (3, .int x3)]) hx hb dX2_afterTune_4 hl (by decide) rfl (fun ls hl => ?_)
    exact l6 x1 x3 F x1 (0 : Int32) h _ (lv_sub hl [2, 3, 4, 1, 0] rfl)
  exact key _ (fun pc ls hd => W.lret hx hb hr (fun t ht hW => ⟨_, rfl, rfl, ht⟩) (fun q h => by cases h) hd)
set_option maxHeartbeats 4000000 in
set_option maxRecDepth 100000 in
theorem kX2_afterName (l : Launch) (D : va_G) (T : Nat → ClassId) (F : Nat) (a0 : Nat) (a1 : Nat) (a2 : Nat) (a3 : Nat) (a4 : Nat) (a5 : Nat) (size : Int32) (clause : Int32) (eff : Nat → Int32) (kin : Nat → Int32) (gri : Nat → Int32) (sig : Nat → Int32) (see : Nat → Int32) (x1 : Int64) (x3 : Int32) (r : Int64) (h : fX2_afterName F size clause kin see x1 x3 = some (r)) : Met l yX2_afterName wsX2_afterName ({ frames := 3, cells := 0, slots := 0, locals := 72 } : Room) (va_Pc [.ref a0, .long x1, .int x3] (fun U => va_P D vwCl (wPa T a0 a1 a2 a3 a4 a5 size clause eff kin gri sig see) U.heap ∧ KK D T U)) (vp_Sl (fun r' => r' = r)) 0 0 (fun _ => False) := by
  refine Met.ofW (cc := cX2_afterName) (maxL := 5) (ret := some .long) (by decide) rfl ?_
  intro p e s m args below meth c s₁ B hml hv
  obtain ⟨ha, hP, hKK⟩ := hv
  have hx := B.exec
  have hb := B.bytes
  have hr := B.returns
  have hts := atoms_spec (ws := wsX2_afterName) B.pre
  have hown : s.vm.findClass RX2 = some m.cls := findClass_of_methodNamed B.named
  have hlocks := B.notSynchronized
  have hK := hKK.1
  have hFix : CallFix p m c cX2_afterName 5 s args wsX2_afterName RX2 := ⟨hx, hb, hml, hown, hts⟩
  have q1 := hts _ (List.mem_of_getElem? (i := 1) (show wsX2_afterName[1]? = some (Cond.fieldLink RX2 22 "PartyWill$Party" "kinds" "[I") from rfl))
  have q2 := hts _ (List.mem_of_getElem? (i := 2) (show wsX2_afterName[2]? = some (Cond.static yX1_griefOf) from rfl))
  have q3 := hts _ (List.mem_of_getElem? (i := 3) (show wsX2_afterName[3]? = some (Cond.initialized RX1) from rfl))
  have q20 := hts _ (List.mem_of_getElem? (i := 20) (show wsX2_afterName[20]? = some (Cond.static yX1_withGrief) from rfl))
  have iX2 : ∀ w ∈ u_ws RX2 TX2 7, w ∈ wsX2_afterName := fun w h => List.mem_cons_of_mem _ (List.mem_append_right _ (h))
  obtain ⟨ls, hl, e0⟩ := my_entry (m := m) (n := 5) ha (Nat.le_of_ble_eq_true rfl)
  rw [e0]
  have hl : lv_has ls 5 [(0, .ref a0), (1, .long x1), (3, .int x3)] := hl
  have key : ∀ Q : State → Prop, (∀ (pc : Nat) (ls : Array Slot), decode cX2_afterName pc = .ok (.lreturn, 1) → W p l e ({ frames := 3, cells := 0, slots := 0, locals := 72 } : Room) s m args below meth c s.heap [] 0 0 Q (F0 m pc ls [.long r])) → W p l e ({ frames := 3, cells := 0, slots := 0, locals := 72 } : Room) s m args below meth c s.heap [] 0 0 Q (F0 m 0 ls []) := by
    intro Q hret
    unfold fX2_afterName at h
    refine lv_lload_n hx hb dX2_afterName_0 rfl (lv_at hl 1 rfl) ?_
    refine lv_iload_n hx hb dX2_afterName_1 rfl (lv_at hl 2 rfl) ?_
    obtain ⟨r2, hc, h⟩ := bd1_some h
    refine my_roi (va_Run.run (va_runSN (host := "PartyWill") (As := [.long x1, .int x3]) (rest := []) hFix (kX1_griefOf l D T F x1 x3 r2 hc) ⟨va_cnB 2 hts gX2_afterName_X1_griefOf_n64 rfl rfl rfl (nw_X2_64 hKK.2) q3 hd_X1_griefOf ⟨Nat.le_of_ble_eq_true rfl, Nat.le_of_ble_eq_true rfl⟩, q2, trivial⟩ (preS_ro va_nil hKK) rfl rfl hl.1 rfl (lv_room (Nat.le_of_ble_eq_true rfl)) dX2_afterName_2 ⟨Nat.zero_le _, Nat.zero_le _⟩)) ?_
    refine lv_aload_n hx hb dX2_afterName_5 rfl (lv_at hl 0 rfl) ?_
    refine va_get (D := D) (ci := 1) (C := RX2) (T := TX2) (N := 7) hx hb hts iX2 hown hK hP 0 wPa_0 rfl 3 (by decide) q1 (fun _ h9 => h9) rfl dX2_afterName_6 ?_
    refine lv_iload_n hx hb dX2_afterName_9 rfl (lv_at hl 2 rfl) ?_
    obtain ⟨hin1, h⟩ := ck_some h
    refine va_iald hx hb hK hP 2 0 wPa_2 rfl hin1 dX2_afterName_10 ?_
    obtain ⟨r11, hc, h⟩ := bd1_some h
    refine my_roi (va_Run.run (va_runS (As := [.int (kin x3.toNatClampNeg)]) (rest := [.int r2]) hFix (kX2_riseByName l D T F (kin x3.toNatClampNeg) r11 hc) (va_cwS 1 hts gX2_afterName_X2_riseByName rfl rfl rfl hd_X2_riseByName ⟨Nat.le_of_ble_eq_true rfl, Nat.le_of_ble_eq_true rfl⟩) (preS_ro va_nil hKK) rfl rfl hl.1 rfl (lv_room (Nat.le_of_ble_eq_true rfl)) dX2_afterName_11 ⟨Nat.zero_le _, Nat.zero_le _⟩)) ?_
    refine lv_iadd hx hb dX2_afterName_14 ?_
    obtain ⟨r15, hc, h⟩ := bd1_some h
    refine my_roi (va_Run.run (va_runS (As := [.int (r2 + r11)]) (rest := []) hFix (kX2_bounded l D T F (r2 + r11) r15 hc) (va_cwS 1 hts gX2_afterName_X2_bounded rfl rfl rfl hd_X2_bounded ⟨Nat.le_of_ble_eq_true rfl, Nat.le_of_ble_eq_true rfl⟩) (preS_ro va_nil hKK) rfl rfl hl.1 rfl (lv_room (Nat.le_of_ble_eq_true rfl)) dX2_afterName_15 ⟨Nat.zero_le _, Nat.zero_le _⟩)) ?_
    refine lv_istore (lv' := [(4, .int r15), (0, .ref a0), (1, .long x1), (3, .int x3)]) hx hb dX2_afterName_18 hl (by decide) rfl (fun ls hl => ?_)
    refine lv_aload_n hx hb dX2_afterName_20 rfl (lv_at hl 1 rfl) ?_
    refine lv_lload_n hx hb dX2_afterName_21 rfl (lv_at hl 2 rfl) ?_
    refine lv_iload_n hx hb dX2_afterName_22 rfl (lv_at hl 3 rfl) ?_
    refine lv_iload hx hb dX2_afterName_23 (lv_at hl 0 rfl) ?_
    obtain ⟨r25, hc, h⟩ := bd1_some h
    refine my_rol (va_Run.run (va_runSN (host := "PartyWill") (As := [.long x1, .int x3, .int r15]) (rest := [.ref a0]) hFix (kX1_withGrief l D T F x1 x3 r15 r25 hc) ⟨va_cnB 3 hts gX2_afterName_X1_withGrief_n72 rfl rfl rfl (nw_X2_72 hKK.2) q3 hd_X1_withGrief ⟨Nat.le_of_ble_eq_true rfl, Nat.le_of_ble_eq_true rfl⟩, q20, trivial⟩ (preS_ro va_nil hKK) rfl rfl hl.1 rfl (lv_room (Nat.le_of_ble_eq_true rfl)) dX2_afterName_25 ⟨Nat.zero_le _, Nat.zero_le _⟩)) ?_
    obtain ⟨r28, hc, h⟩ := bd1_some h
    refine my_rol (va_Run.run (va_runV (As := [.long r25]) (rest := []) hFix (kX2_withoutTheSeen l D T F a0 a1 a2 a3 a4 a5 size clause eff kin gri sig see r25 r28 hc) (cwV 1 hts gX2_afterName_X2_withoutTheSeen rfl rfl rfl ⟨rfl, hd_X2_withoutTheSeen⟩ ⟨Nat.le_of_ble_eq_true rfl, Nat.le_of_ble_eq_true rfl⟩) (preV_ro hP hKK (va_recv hK hP (ci := 1) (q0 := 0) rfl wPa_0)) rfl rfl hl.1 rfl (lv_room (Nat.le_of_ble_eq_true rfl)) dX2_afterName_28 ⟨Nat.zero_le _, Nat.zero_le _⟩)) ?_
    cases h
    exact hret _ _ dX2_afterName_31
  exact key _ (fun pc ls hd => W.lret hx hb hr (fun t ht hW => ⟨_, rfl, rfl, ht⟩) (fun q h => by cases h) hd)
set_option maxHeartbeats 4000000 in
set_option maxRecDepth 100000 in
theorem kX2_afterIce (l : Launch) (D : va_G) (T : Nat → ClassId) (F : Nat) (a0 : Nat) (a1 : Nat) (a2 : Nat) (a3 : Nat) (a4 : Nat) (a5 : Nat) (size : Int32) (clause : Int32) (eff : Nat → Int32) (kin : Nat → Int32) (gri : Nat → Int32) (sig : Nat → Int32) (see : Nat → Int32) (x1 : Int64) (x3 : Int32) (r : Int64) (h : fX2_afterIce F size clause kin see x1 x3 = some (r)) : Met l yX2_afterIce wsX2_afterIce ({ frames := 3, cells := 0, slots := 0, locals := 72 } : Room) (va_Pc [.ref a0, .long x1, .int x3] (fun U => va_P D vwCl (wPa T a0 a1 a2 a3 a4 a5 size clause eff kin gri sig see) U.heap ∧ KK D T U)) (vp_Sl (fun r' => r' = r)) 0 0 (fun _ => False) := by
  refine Met.ofW (cc := cX2_afterIce) (maxL := 5) (ret := some .long) (by decide) rfl ?_
  intro p e s m args below meth c s₁ B hml hv
  obtain ⟨ha, hP, hKK⟩ := hv
  have hx := B.exec
  have hb := B.bytes
  have hr := B.returns
  have hts := atoms_spec (ws := wsX2_afterIce) B.pre
  have hown : s.vm.findClass RX2 = some m.cls := findClass_of_methodNamed B.named
  have hlocks := B.notSynchronized
  have hK := hKK.1
  have hFix : CallFix p m c cX2_afterIce 5 s args wsX2_afterIce RX2 := ⟨hx, hb, hml, hown, hts⟩
  have q1 := hts _ (List.mem_of_getElem? (i := 1) (show wsX2_afterIce[1]? = some (Cond.static yX1_griefOf) from rfl))
  have q2 := hts _ (List.mem_of_getElem? (i := 2) (show wsX2_afterIce[2]? = some (Cond.initialized RX1) from rfl))
  have q16 := hts _ (List.mem_of_getElem? (i := 16) (show wsX2_afterIce[16]? = some (Cond.static yX1_withGrief) from rfl))
  obtain ⟨ls, hl, e0⟩ := my_entry (m := m) (n := 5) ha (Nat.le_of_ble_eq_true rfl)
  rw [e0]
  have hl : lv_has ls 5 [(0, .ref a0), (1, .long x1), (3, .int x3)] := hl
  have key : ∀ Q : State → Prop, (∀ (pc : Nat) (ls : Array Slot), decode cX2_afterIce pc = .ok (.lreturn, 1) → W p l e ({ frames := 3, cells := 0, slots := 0, locals := 72 } : Room) s m args below meth c s.heap [] 0 0 Q (F0 m pc ls [.long r])) → W p l e ({ frames := 3, cells := 0, slots := 0, locals := 72 } : Room) s m args below meth c s.heap [] 0 0 Q (F0 m 0 ls []) := by
    intro Q hret
    unfold fX2_afterIce at h
    refine lv_lload_n hx hb dX2_afterIce_0 rfl (lv_at hl 1 rfl) ?_
    refine lv_iload_n hx hb dX2_afterIce_1 rfl (lv_at hl 2 rfl) ?_
    obtain ⟨r2, hc, h⟩ := bd1_some h
    refine my_roi (va_Run.run (va_runSN (host := "PartyWill") (As := [.long x1, .int x3]) (rest := []) hFix (kX1_griefOf l D T F x1 x3 r2 hc) ⟨va_cnB 2 hts gX2_afterIce_X1_griefOf_n64 rfl rfl rfl (nw_X2_64 hKK.2) q2 hd_X1_griefOf ⟨Nat.le_of_ble_eq_true rfl, Nat.le_of_ble_eq_true rfl⟩, q1, trivial⟩ (preS_ro va_nil hKK) rfl rfl hl.1 rfl (lv_room (Nat.le_of_ble_eq_true rfl)) dX2_afterIce_2 ⟨Nat.zero_le _, Nat.zero_le _⟩)) ?_
    refine lv_iconst (v := (3 : Int32)) hx hb dX2_afterIce_5 (by decide) ?_
    refine lv_isub hx hb dX2_afterIce_6 ?_
    obtain ⟨r7, hc, h⟩ := bd1_some h
    refine my_roi (va_Run.run (va_runS (As := [.int (r2 - (3 : Int32))]) (rest := []) hFix (kX2_bounded l D T F (r2 - (3 : Int32)) r7 hc) (va_cwS 1 hts gX2_afterIce_X2_bounded rfl rfl rfl hd_X2_bounded ⟨Nat.le_of_ble_eq_true rfl, Nat.le_of_ble_eq_true rfl⟩) (preS_ro va_nil hKK) rfl rfl hl.1 rfl (lv_room (Nat.le_of_ble_eq_true rfl)) dX2_afterIce_7 ⟨Nat.zero_le _, Nat.zero_le _⟩)) ?_
    refine lv_istore (lv' := [(4, .int r7), (0, .ref a0), (1, .long x1), (3, .int x3)]) hx hb dX2_afterIce_10 hl (by decide) rfl (fun ls hl => ?_)
    refine lv_aload_n hx hb dX2_afterIce_12 rfl (lv_at hl 1 rfl) ?_
    refine lv_lload_n hx hb dX2_afterIce_13 rfl (lv_at hl 2 rfl) ?_
    refine lv_iload_n hx hb dX2_afterIce_14 rfl (lv_at hl 3 rfl) ?_
    refine lv_iload hx hb dX2_afterIce_15 (lv_at hl 0 rfl) ?_
    obtain ⟨r17, hc, h⟩ := bd1_some h
    refine my_rol (va_Run.run (va_runSN (host := "PartyWill") (As := [.long x1, .int x3, .int r7]) (rest := [.ref a0]) hFix (kX1_withGrief l D T F x1 x3 r7 r17 hc) ⟨va_cnB 3 hts gX2_afterIce_X1_withGrief_n72 rfl rfl rfl (nw_X2_72 hKK.2) q2 hd_X1_withGrief ⟨Nat.le_of_ble_eq_true rfl, Nat.le_of_ble_eq_true rfl⟩, q16, trivial⟩ (preS_ro va_nil hKK) rfl rfl hl.1 rfl (lv_room (Nat.le_of_ble_eq_true rfl)) dX2_afterIce_17 ⟨Nat.zero_le _, Nat.zero_le _⟩)) ?_
    obtain ⟨r20, hc, h⟩ := bd1_some h
    refine my_rol (va_Run.run (va_runV (As := [.long r17]) (rest := []) hFix (kX2_withoutTheSeen l D T F a0 a1 a2 a3 a4 a5 size clause eff kin gri sig see r17 r20 hc) (cwV 1 hts gX2_afterIce_X2_withoutTheSeen rfl rfl rfl ⟨rfl, hd_X2_withoutTheSeen⟩ ⟨Nat.le_of_ble_eq_true rfl, Nat.le_of_ble_eq_true rfl⟩) (preV_ro hP hKK (va_recv hK hP (ci := 1) (q0 := 0) rfl wPa_0)) rfl rfl hl.1 rfl (lv_room (Nat.le_of_ble_eq_true rfl)) dX2_afterIce_20 ⟨Nat.zero_le _, Nat.zero_le _⟩)) ?_
    cases h
    exact hret _ _ dX2_afterIce_23
  exact key _ (fun pc ls hd => W.lret hx hb hr (fun t ht hW => ⟨_, rfl, rfl, ht⟩) (fun q h => by cases h) hd)
set_option maxHeartbeats 4000000 in
set_option maxRecDepth 100000 in
theorem kX2_watchers (l : Launch) (D : va_G) (T : Nat → ClassId) (F : Nat) (a0 : Nat) (a1 : Nat) (a2 : Nat) (a3 : Nat) (a4 : Nat) (a5 : Nat) (size : Int32) (clause : Int32) (eff : Nat → Int32) (kin : Nat → Int32) (gri : Nat → Int32) (sig : Nat → Int32) (see : Nat → Int32) (x1 : Int64) (x3 : Int32) (r : Int32) (h : fX2_watchers F see x1 x3 = some (r)) : Met l yX2_watchers wsX2_watchers ({ frames := 1, cells := 0, slots := 0, locals := 21 } : Room) (va_Pc [.ref a0, .long x1, .int x3] (fun U => va_P D vwCl (wPa T a0 a1 a2 a3 a4 a5 size clause eff kin gri sig see) U.heap ∧ KK D T U)) (vp_Si (fun r' => r' = r)) 0 0 (fun _ => False) := by
  refine Met.ofW (cc := cX2_watchers) (maxL := 4) (ret := some .int) (by decide) rfl ?_
  intro p e s m args below meth c s₁ B hml hv
  obtain ⟨ha, hP, hKK⟩ := hv
  have hx := B.exec
  have hb := B.bytes
  have hr := B.returns
  have hts := atoms_spec (ws := wsX2_watchers) B.pre
  have hown : s.vm.findClass RX2 = some m.cls := findClass_of_methodNamed B.named
  have hlocks := B.notSynchronized
  have hK := hKK.1
  have hFix : CallFix p m c cX2_watchers 4 s args wsX2_watchers RX2 := ⟨hx, hb, hml, hown, hts⟩
  have q1 := hts _ (List.mem_of_getElem? (i := 1) (show wsX2_watchers[1]? = some (Cond.fieldLink RX2 31 "PartyWill$Party" "seers" "[I") from rfl))
  have q2 := hts _ (List.mem_of_getElem? (i := 2) (show wsX2_watchers[2]? = some (Cond.static yX1_insiders) from rfl))
  have q3 := hts _ (List.mem_of_getElem? (i := 3) (show wsX2_watchers[3]? = some (Cond.initialized RX1) from rfl))
  have iX2 : ∀ w ∈ u_ws RX2 TX2 7, w ∈ wsX2_watchers := fun w h => List.mem_cons_of_mem _ (List.mem_append_right _ (h))
  obtain ⟨ls, hl, e0⟩ := my_entry (m := m) (n := 4) ha (Nat.le_of_ble_eq_true rfl)
  rw [e0]
  have hl : lv_has ls 4 [(0, .ref a0), (1, .long x1), (3, .int x3)] := hl
  have key : ∀ Q : State → Prop, (∀ (pc : Nat) (ls : Array Slot), decode cX2_watchers pc = .ok (.ireturn, 1) → W p l e ({ frames := 1, cells := 0, slots := 0, locals := 21 } : Room) s m args below meth c s.heap [] 0 0 Q (F0 m pc ls [.int r])) → W p l e ({ frames := 1, cells := 0, slots := 0, locals := 21 } : Room) s m args below meth c s.heap [] 0 0 Q (F0 m 0 ls []) := by
    intro Q hret
    unfold fX2_watchers at h
    refine lv_aload_n hx hb dX2_watchers_0 rfl (lv_at hl 0 rfl) ?_
    refine va_get (D := D) (ci := 1) (C := RX2) (T := TX2) (N := 7) hx hb hts iX2 hown hK hP 0 wPa_0 rfl 6 (by decide) q1 (fun _ h9 => h9) rfl dX2_watchers_1 ?_
    refine lv_iload_n hx hb dX2_watchers_4 rfl (lv_at hl 2 rfl) ?_
    obtain ⟨hin1, h⟩ := ck_some h
    refine va_iald hx hb hK hP 5 0 wPa_5 rfl hin1 dX2_watchers_5 ?_
    refine lv_lload_n hx hb dX2_watchers_6 rfl (lv_at hl 1 rfl) ?_
    obtain ⟨r7, hc, h⟩ := bd1_some h
    refine my_roi (va_Run.run (va_runSN (host := "PartyWill") (As := [.long x1]) (rest := [.int (see x3.toNatClampNeg)]) hFix (kX1_insiders l D T F x1 r7 hc) ⟨va_cnB 1 hts gX2_watchers_X1_insiders_n82 rfl rfl rfl (nw_X2_82 hKK.2) q3 hd_X1_insiders ⟨Nat.le_of_ble_eq_true rfl, Nat.le_of_ble_eq_true rfl⟩, q2, trivial⟩ (preS_ro va_nil hKK) rfl rfl hl.1 rfl (lv_room (Nat.le_of_ble_eq_true rfl)) dX2_watchers_7 ⟨Nat.zero_le _, Nat.zero_le _⟩)) ?_
    refine lv_iand hx hb dX2_watchers_10 ?_
    cases h
    exact hret _ _ dX2_watchers_11
  exact key _ (fun pc ls hd => W.iret hx hb hr (fun t ht hW => ⟨_, rfl, rfl, ht⟩) (fun q h => by cases h) hd)
set_option maxHeartbeats 4000000 in
set_option maxRecDepth 100000 in
theorem kX2_keepsTheClause (l : Launch) (D : va_G) (T : Nat → ClassId) (F : Nat) (a0 : Nat) (a1 : Nat) (a2 : Nat) (a3 : Nat) (a4 : Nat) (a5 : Nat) (b0 : Nat) (size : Int32) (clause : Int32) (eff : Nat → Int32) (kin : Nat → Int32) (gri : Nat → Int32) (sig : Nat → Int32) (see : Nat → Int32) (row : Nat → Int32) (x1 : Int32) (x2 : Int32) (x4 : Int32) (r : Int32) (h : fX2_keepsTheClause F clause eff kin row x1 x2 x4 = some (r)) : Met l yX2_keepsTheClause wsX2_keepsTheClause ({ frames := 3, cells := 0, slots := 0, locals := 75 } : Room) (va_Pc [.ref a0, .int x1, .int x2, .ref b0, .int x4] (fun U => va_P D vwCl (wPaA T a0 a1 a2 a3 a4 a5 b0 size clause eff kin gri sig see row) U.heap ∧ KK D T U)) (vp_Si (fun r' => r' = r ∧ b01 r)) 0 0 (fun _ => False) := by
  refine Met.ofW (cc := cX2_keepsTheClause) (maxL := 7) (ret := some .boolean) (by decide) rfl ?_
  intro p e s m args below meth c s₁ B hml hv
  obtain ⟨ha, hP, hKK⟩ := hv
  have hx := B.exec
  have hb := B.bytes
  have hr := B.returns
  have hts := atoms_spec (ws := wsX2_keepsTheClause) B.pre
  have hown : s.vm.findClass RX2 = some m.cls := findClass_of_methodNamed B.named
  have hlocks := B.notSynchronized
  have hK := hKK.1
  have hFix : CallFix p m c cX2_keepsTheClause 7 s args wsX2_keepsTheClause RX2 := ⟨hx, hb, hml, hown, hts⟩
  have q1 := hts _ (List.mem_of_getElem? (i := 1) (show wsX2_keepsTheClause[1]? = some (Cond.fieldLink RX2 22 "PartyWill$Party" "kinds" "[I") from rfl))
  have q2 := hts _ (List.mem_of_getElem? (i := 2) (show wsX2_keepsTheClause[2]? = some (Cond.fieldLink RX2 18 "PartyWill$Party" "effects" "[I") from rfl))
  have q3 := hts _ (List.mem_of_getElem? (i := 3) (show wsX2_keepsTheClause[3]? = some (Cond.fieldLink RX2 15 "PartyWill$Party" "clause" "I") from rfl))
  have iX2 : ∀ w ∈ u_ws RX2 TX2 7, w ∈ wsX2_keepsTheClause := fun w h => List.mem_cons_of_mem _ (List.mem_append_right _ (h))
  obtain ⟨ls, hl, e0⟩ := my_entry (m := m) (n := 7) ha (Nat.le_of_ble_eq_true rfl)
  rw [e0]
  have hl : lv_has ls 7 [(0, .ref a0), (1, .int x1), (2, .int x2), (3, .ref b0), (4, .int x4)] := hl
  have key : ∀ Q : State → Prop, (∀ (pc : Nat) (ls : Array Slot), decode cX2_keepsTheClause pc = .ok (.ireturn, 1) → b01 r → W p l e ({ frames := 3, cells := 0, slots := 0, locals := 75 } : Room) s m args below meth c s.heap [] 0 0 Q (F0 m pc ls [.int r])) → W p l e ({ frames := 3, cells := 0, slots := 0, locals := 75 } : Room) s m args below meth c s.heap [] 0 0 Q (F0 m 0 ls []) := by
    intro Q hret
    have l6 : ∀ x1 : Int32, ∀ x4 : Int32, ∀ nu : Nat, ∀ x5 : Int32, ∀ x6 : Int32, fX2_keepsTheClause_l6 F clause eff kin row x1 x4 nu x5 x6 = some (r) → ∀ (ls : Array Slot), lv_has ls 7 [(0, .ref a0), (1, .int x1), (3, .ref b0), (4, .int x4), (5, .int x5), (6, .int x6)] → W p l e ({ frames := 3, cells := 0, slots := 0, locals := 75 } : Room) s m args below meth c s.heap [] 0 0 Q (F0 m 6 ls []) := by
      intro x1 x4
      intro nu
      induction nu with
      | zero => intro x5 x6 h; exact none_some h
      | succ nu6 ih6 =>
        intro x5 x6 h ls hl
        have h : fX2_keepsTheClause_l6_b F clause eff kin row x1 x4 (fX2_keepsTheClause_l6 F clause eff kin row x1 x4 nu6) x5 x6 = some (r) := h
        unfold fX2_keepsTheClause_l6_b at h
        refine lv_iload hx hb dX2_keepsTheClause_6 (lv_at hl 5 rfl) ?_
        refine lv_iload hx hb dX2_keepsTheClause_8 (lv_at hl 3 rfl) ?_
        refine lv_icmp_ge (tgt := 56) hx hb dX2_keepsTheClause_10 (by decide) (fun c10 => ?_) (fun c10 => ?_)
        · have h := br_1 h c10
          refine lv_iconst (v := (1 : Int32)) hx hb dX2_keepsTheClause_56 (by decide) ?_
          cases h
          exact hret _ _ dX2_keepsTheClause_57 (Or.inr rfl)
        · have h := br_0 h c10
          refine lv_aload_n hx hb dX2_keepsTheClause_13 rfl (lv_at hl 0 rfl) ?_
          refine va_get (D := D) (ci := 1) (C := RX2) (T := TX2) (N := 7) hx hb hts iX2 hown hK hP 0 wPaA_0 rfl 3 (by decide) q1 (fun _ h9 => h9) rfl dX2_keepsTheClause_14 ?_
          refine lv_iload_n hx hb dX2_keepsTheClause_17 rfl (lv_at hl 1 rfl) ?_
          obtain ⟨hin1, h⟩ := ck_some h
          refine va_iald hx hb hK hP 2 0 wPaA_2 rfl hin1 dX2_keepsTheClause_18 ?_
          refine lv_aload_n hx hb dX2_keepsTheClause_19 rfl (lv_at hl 2 rfl) ?_
          refine lv_iload hx hb dX2_keepsTheClause_20 (lv_at hl 5 rfl) ?_
          obtain ⟨hin2, h⟩ := ck_some h
          refine va_iald hx hb hK hP 6 0 wPaA_6 rfl hin2 dX2_keepsTheClause_22 ?_
          refine lv_aload_n hx hb dX2_keepsTheClause_23 rfl (lv_at hl 0 rfl) ?_
          refine va_get (D := D) (ci := 1) (C := RX2) (T := TX2) (N := 7) hx hb hts iX2 hown hK hP 0 wPaA_0 rfl 2 (by decide) q2 (fun _ h9 => h9) rfl dX2_keepsTheClause_24 ?_
          refine lv_aload_n hx hb dX2_keepsTheClause_27 rfl (lv_at hl 2 rfl) ?_
          refine lv_iload hx hb dX2_keepsTheClause_28 (lv_at hl 5 rfl) ?_
          obtain ⟨hin3, h⟩ := ck_some h
          refine va_iald hx hb hK hP 6 0 wPaA_6 rfl hin3 dX2_keepsTheClause_30 ?_
          obtain ⟨hin4, h⟩ := ck_some h
          refine va_iald hx hb hK hP 1 0 wPaA_1 rfl hin4 dX2_keepsTheClause_31 ?_
          refine lv_iload hx hb dX2_keepsTheClause_32 (lv_at hl 4 rfl) ?_
          obtain ⟨r34, hc, h⟩ := bd1_some h
          refine my_roi (va_Run.run (va_runS (As := [.int (kin x1.toNatClampNeg), .int (row x6.toNatClampNeg), .int (eff (row x6.toNatClampNeg).toNatClampNeg), .int x5]) (rest := []) hFix (kX2_griefBehind l D T F (kin x1.toNatClampNeg) (row x6.toNatClampNeg) (eff (row x6.toNatClampNeg).toNatClampNeg) x5 r34 hc) (va_cwS 4 hts gX2_keepsTheClause_X2_griefBehind rfl rfl rfl hd_X2_griefBehind ⟨Nat.le_of_ble_eq_true rfl, Nat.le_of_ble_eq_true rfl⟩) (preS_ro va_nil hKK) rfl rfl hl.1 rfl (lv_room (Nat.le_of_ble_eq_true rfl)) dX2_keepsTheClause_34 ⟨Nat.zero_le _, Nat.zero_le _⟩)) ?_
          refine lv_istore (lv' := [(5, .int r34), (0, .ref a0), (1, .int x1), (3, .ref b0), (4, .int x4), (6, .int x6)]) hx hb dX2_keepsTheClause_37 hl (by decide) rfl (fun ls hl => ?_)
          refine lv_iload hx hb dX2_keepsTheClause_39 (lv_at hl 0 rfl) ?_
          refine lv_aload_n hx hb dX2_keepsTheClause_41 rfl (lv_at hl 1 rfl) ?_
          refine va_get (D := D) (ci := 1) (C := RX2) (T := TX2) (N := 7) hx hb hts iX2 hown hK hP 0 wPaA_0 rfl 1 (by decide) q3 (fun _ h9 => h9) rfl dX2_keepsTheClause_42 ?_
          refine lv_icmp_le (tgt := 50) hx hb dX2_keepsTheClause_45 (by decide) (fun c45 => ?_) (fun c45 => ?_)
          · have h := br_1 h c45
            refine lv_iinc (v := (x6 + (1 : Int32))) (lv' := [(6, .int (x6 + (1 : Int32))), (5, .int r34), (0, .ref a0), (1, .int x1), (3, .ref b0), (4, .int x4)]) hx hb dX2_keepsTheClause_50 hl (k := 5) rfl rfl (by decide) rfl (fun ls hl => ?_)
            refine lv_goto (tgt := 6) hx hb dX2_keepsTheClause_53 (by decide) ?_
            exact ih6 r34 (x6 + (1 : Int32)) h _ (lv_sub hl [2, 3, 4, 5, 1, 0] rfl)
          · have h := br_0 h c45
            refine lv_iconst (v := (0 : Int32)) hx hb dX2_keepsTheClause_48 (by decide) ?_
            cases h
            exact hret _ _ dX2_keepsTheClause_49 (Or.inl rfl)
    unfold fX2_keepsTheClause at h
    refine lv_iload_n hx hb dX2_keepsTheClause_0 rfl (lv_at hl 2 rfl) ?_
    refine lv_istore (lv' := [(5, .int x2), (0, .ref a0), (1, .int x1), (2, .int x2), (3, .ref b0), (4, .int x4)]) hx hb dX2_keepsTheClause_1 hl (by decide) rfl (fun ls hl => ?_)
    refine lv_iconst (v := (0 : Int32)) hx hb dX2_keepsTheClause_3 (by decide) ?_
    refine lv_istore (lv' := [(6, .int (0 : Int32)), (5, .int x2), (0, .ref a0), (1, .int x1), (2, .int x2), (3, .ref b0), (4, .int x4)]) hx hb dX2_keepsTheClause_4 hl (by decide) rfl (fun ls hl => ?_)
    exact l6 x1 x4 F x2 (0 : Int32) h _ (lv_sub hl [2, 3, 5, 6, 1, 0] rfl)
  exact key _ (fun pc ls hd hb1 => W.zret hx hb hr (b01_n hb1) (fun t ht hW => ⟨_, rfl, ⟨rfl, hb1⟩, ht⟩) (fun q h => by cases h) hd)
set_option maxHeartbeats 4000000 in
set_option maxRecDepth 100000 in
theorem kX2_wentSo (l : Launch) (D : va_G) (T : Nat → ClassId) (F : Nat) (a0 : Nat) (a1 : Nat) (a2 : Nat) (a3 : Nat) (a4 : Nat) (a5 : Nat) (b0 : Nat) (size : Int32) (clause : Int32) (eff : Nat → Int32) (kin : Nat → Int32) (gri : Nat → Int32) (sig : Nat → Int32) (see : Nat → Int32) (row : Nat → Int32) (x1 : Int32) (x2 : Int32) (x4 : Int32) (r : Int32) (h : fX2_wentSo F eff row x1 x2 x4 = some (r)) : Met l yX2_wentSo wsX2_wentSo ({ frames := 3, cells := 0, slots := 0, locals := 75 } : Room) (va_Pc [.ref a0, .int x1, .int x2, .ref b0, .int x4] (fun U => va_P D vwCl (wPaA T a0 a1 a2 a3 a4 a5 b0 size clause eff kin gri sig see row) U.heap ∧ KK D T U)) (vp_Si (fun r' => r' = r ∧ b01 r)) 0 0 (fun _ => False) := by
  refine Met.ofW (cc := cX2_wentSo) (maxL := 7) (ret := some .boolean) (by decide) rfl ?_
  intro p e s m args below meth c s₁ B hml hv
  obtain ⟨ha, hP, hKK⟩ := hv
  have hx := B.exec
  have hb := B.bytes
  have hr := B.returns
  have hts := atoms_spec (ws := wsX2_wentSo) B.pre
  have hown : s.vm.findClass RX2 = some m.cls := findClass_of_methodNamed B.named
  have hlocks := B.notSynchronized
  have hK := hKK.1
  have hFix : CallFix p m c cX2_wentSo 7 s args wsX2_wentSo RX2 := ⟨hx, hb, hml, hown, hts⟩
  have q1 := hts _ (List.mem_of_getElem? (i := 1) (show wsX2_wentSo[1]? = some (Cond.fieldLink RX2 18 "PartyWill$Party" "effects" "[I") from rfl))
  have iX2 : ∀ w ∈ u_ws RX2 TX2 7, w ∈ wsX2_wentSo := fun w h => List.mem_cons_of_mem _ (List.mem_append_right _ (h))
  obtain ⟨ls, hl, e0⟩ := my_entry (m := m) (n := 7) ha (Nat.le_of_ble_eq_true rfl)
  rw [e0]
  have hl : lv_has ls 7 [(0, .ref a0), (1, .int x1), (2, .int x2), (3, .ref b0), (4, .int x4)] := hl
  have key : ∀ Q : State → Prop, (∀ (pc : Nat) (ls : Array Slot), decode cX2_wentSo pc = .ok (.ireturn, 1) → b01 r → W p l e ({ frames := 3, cells := 0, slots := 0, locals := 75 } : Room) s m args below meth c s.heap [] 0 0 Q (F0 m pc ls [.int r])) → W p l e ({ frames := 3, cells := 0, slots := 0, locals := 75 } : Room) s m args below meth c s.heap [] 0 0 Q (F0 m 0 ls []) := by
    intro Q hret
    have l6 : ∀ x1 : Int32, ∀ x4 : Int32, ∀ nu : Nat, ∀ x5 : Int32, ∀ x6 : Int32, fX2_wentSo_l6 F eff row x1 x4 nu x5 x6 = some (r) → ∀ (ls : Array Slot), lv_has ls 7 [(0, .ref a0), (1, .int x1), (3, .ref b0), (4, .int x4), (5, .int x5), (6, .int x6)] → W p l e ({ frames := 3, cells := 0, slots := 0, locals := 75 } : Room) s m args below meth c s.heap [] 0 0 Q (F0 m 6 ls []) := by
      intro x1 x4
      intro nu
      induction nu with
      | zero => intro x5 x6 h; exact none_some h
      | succ nu6 ih6 =>
        intro x5 x6 h ls hl
        have h : fX2_wentSo_l6_b F eff row x1 x4 (fX2_wentSo_l6 F eff row x1 x4 nu6) x5 x6 = some (r) := h
        unfold fX2_wentSo_l6_b at h
        refine lv_iload hx hb dX2_wentSo_6 (lv_at hl 5 rfl) ?_
        refine lv_iconst (v := (1 : Int32)) hx hb dX2_wentSo_8 (by decide) ?_
        refine lv_iadd hx hb dX2_wentSo_9 ?_
        refine lv_iload hx hb dX2_wentSo_10 (lv_at hl 3 rfl) ?_
        refine lv_icmp_ge (tgt := 55) hx hb dX2_wentSo_12 (by decide) (fun c12 => ?_) (fun c12 => ?_)
        · have h := br_1 h c12
          refine lv_iconst (v := (1 : Int32)) hx hb dX2_wentSo_55 (by decide) ?_
          cases h
          exact hret _ _ dX2_wentSo_56 (Or.inr rfl)
        · have h := br_0 h c12
          refine lv_iload_n hx hb dX2_wentSo_15 rfl (lv_at hl 1 rfl) ?_
          refine lv_aload_n hx hb dX2_wentSo_16 rfl (lv_at hl 2 rfl) ?_
          refine lv_iload hx hb dX2_wentSo_17 (lv_at hl 5 rfl) ?_
          obtain ⟨hin1, h⟩ := ck_some h
          refine va_iald hx hb hK hP 6 0 wPaA_6 rfl hin1 dX2_wentSo_19 ?_
          refine lv_aload_n hx hb dX2_wentSo_20 rfl (lv_at hl 0 rfl) ?_
          refine va_get (D := D) (ci := 1) (C := RX2) (T := TX2) (N := 7) hx hb hts iX2 hown hK hP 0 wPaA_0 rfl 2 (by decide) q1 (fun _ h9 => h9) rfl dX2_wentSo_21 ?_
          refine lv_aload_n hx hb dX2_wentSo_24 rfl (lv_at hl 2 rfl) ?_
          refine lv_iload hx hb dX2_wentSo_25 (lv_at hl 5 rfl) ?_
          obtain ⟨hin2, h⟩ := ck_some h
          refine va_iald hx hb hK hP 6 0 wPaA_6 rfl hin2 dX2_wentSo_27 ?_
          obtain ⟨hin3, h⟩ := ck_some h
          refine va_iald hx hb hK hP 1 0 wPaA_1 rfl hin3 dX2_wentSo_28 ?_
          refine lv_iload hx hb dX2_wentSo_29 (lv_at hl 4 rfl) ?_
          obtain ⟨r31, hc, h⟩ := bd1_some h
          refine my_roi (va_Run.run (va_runS (As := [.int x1, .int (row x6.toNatClampNeg), .int (eff (row x6.toNatClampNeg).toNatClampNeg), .int x5]) (rest := []) hFix (kX2_griefBehind l D T F x1 (row x6.toNatClampNeg) (eff (row x6.toNatClampNeg).toNatClampNeg) x5 r31 hc) (va_cwS 4 hts gX2_wentSo_X2_griefBehind rfl rfl rfl hd_X2_griefBehind ⟨Nat.le_of_ble_eq_true rfl, Nat.le_of_ble_eq_true rfl⟩) (preS_ro va_nil hKK) rfl rfl hl.1 rfl (lv_room (Nat.le_of_ble_eq_true rfl)) dX2_wentSo_31 ⟨Nat.zero_le _, Nat.zero_le _⟩)) ?_
          refine lv_istore (lv' := [(5, .int r31), (0, .ref a0), (1, .int x1), (3, .ref b0), (4, .int x4), (6, .int x6)]) hx hb dX2_wentSo_34 hl (by decide) rfl (fun ls hl => ?_)
          refine lv_iload hx hb dX2_wentSo_36 (lv_at hl 0 rfl) ?_
          refine lv_aload_n hx hb dX2_wentSo_38 rfl (lv_at hl 3 rfl) ?_
          refine lv_iload hx hb dX2_wentSo_39 (lv_at hl 5 rfl) ?_
          refine lv_iconst (v := (1 : Int32)) hx hb dX2_wentSo_41 (by decide) ?_
          refine lv_iadd hx hb dX2_wentSo_42 ?_
          obtain ⟨hin4, h⟩ := ck_some h
          refine va_iald hx hb hK hP 6 0 wPaA_6 rfl hin4 dX2_wentSo_43 ?_
          refine lv_icmp_eq (tgt := 49) hx hb dX2_wentSo_44 (by decide) (fun c44 => ?_) (fun c44 => ?_)
          · have h := br_1 h c44
            refine lv_iinc (v := (x6 + (2 : Int32))) (lv' := [(6, .int (x6 + (2 : Int32))), (5, .int r31), (0, .ref a0), (1, .int x1), (3, .ref b0), (4, .int x4)]) hx hb dX2_wentSo_49 hl (k := 5) rfl rfl (by decide) rfl (fun ls hl => ?_)
            refine lv_goto (tgt := 6) hx hb dX2_wentSo_52 (by decide) ?_
            exact ih6 r31 (x6 + (2 : Int32)) h _ (lv_sub hl [2, 3, 4, 5, 1, 0] rfl)
          · have h := br_0 h c44
            refine lv_iconst (v := (0 : Int32)) hx hb dX2_wentSo_47 (by decide) ?_
            cases h
            exact hret _ _ dX2_wentSo_48 (Or.inl rfl)
    unfold fX2_wentSo at h
    refine lv_iload_n hx hb dX2_wentSo_0 rfl (lv_at hl 2 rfl) ?_
    refine lv_istore (lv' := [(5, .int x2), (0, .ref a0), (1, .int x1), (2, .int x2), (3, .ref b0), (4, .int x4)]) hx hb dX2_wentSo_1 hl (by decide) rfl (fun ls hl => ?_)
    refine lv_iconst (v := (0 : Int32)) hx hb dX2_wentSo_3 (by decide) ?_
    refine lv_istore (lv' := [(6, .int (0 : Int32)), (5, .int x2), (0, .ref a0), (1, .int x1), (2, .int x2), (3, .ref b0), (4, .int x4)]) hx hb dX2_wentSo_4 hl (by decide) rfl (fun ls hl => ?_)
    exact l6 x1 x4 F x2 (0 : Int32) h _ (lv_sub hl [2, 3, 5, 6, 1, 0] rfl)
  exact key _ (fun pc ls hd hb1 => W.zret hx hb hr (b01_n hb1) (fun t ht hW => ⟨_, rfl, ⟨rfl, hb1⟩, ht⟩) (fun q h => by cases h) hd)
set_option maxHeartbeats 4000000 in
set_option maxRecDepth 100000 in
theorem kX5_isOfKind (l : Launch) (D : va_G) (T : Nat → ClassId) (F : Nat) (x0 : Int32) (x1 : Int32) (r : Int32) (h : fX5_isOfKind F x0 x1 = some (r)) : Met l yX5_isOfKind wsX5_isOfKind ({ frames := 0, cells := 0, slots := 0, locals := 0 } : Room) (va_Pc [.int x0, .int x1] (fun U => va_P D vwCl ([] : va_W) U.heap ∧ KK D T U)) (vp_Si (fun r' => r' = r ∧ b01 r)) 0 0 (fun _ => False) := by
  refine Met.ofW (cc := cX5_isOfKind) (maxL := 2) (ret := some .boolean) (by decide) rfl ?_
  intro p e s m args below meth c s₁ B hml hv
  obtain ⟨ha, hP, hKK⟩ := hv
  have hx := B.exec
  have hb := B.bytes
  have hr := B.returns
  have hts := atoms_spec (ws := wsX5_isOfKind) B.pre
  have hown : s.vm.findClass RX5 = some m.cls := findClass_of_methodNamed B.named
  have hlocks := B.notSynchronized
  have hK := hKK.1
  have hFix : CallFix p m c cX5_isOfKind 2 s args wsX5_isOfKind RX5 := ⟨hx, hb, hml, hown, hts⟩
  obtain ⟨ls, hl, e0⟩ := my_entry (m := m) (n := 2) ha (Nat.le_of_ble_eq_true rfl)
  rw [e0]
  have hl : lv_has ls 2 [(0, .int x0), (1, .int x1)] := hl
  have key : ∀ Q : State → Prop, (∀ (pc : Nat) (ls : Array Slot), decode cX5_isOfKind pc = .ok (.ireturn, 1) → b01 r → W p l e ({ frames := 0, cells := 0, slots := 0, locals := 0 } : Room) s m args below meth c s.heap [] 0 0 Q (F0 m pc ls [.int r])) → W p l e ({ frames := 0, cells := 0, slots := 0, locals := 0 } : Room) s m args below meth c s.heap [] 0 0 Q (F0 m 0 ls []) := by
    intro Q hret
    have n15 : ∀ x0 : Int32, ∀ x1 : Int32, fX5_isOfKind_n15 F x0 x1 = some (r) → ∀ (ls : Array Slot), lv_has ls 2 [(0, .int x0), (1, .int x1)] → W p l e ({ frames := 0, cells := 0, slots := 0, locals := 0 } : Room) s m args below meth c s.heap [] 0 0 Q (F0 m 15 ls []) := by
      intro x0 x1 h ls hl
      unfold fX5_isOfKind_n15 at h
      refine lv_iload_n hx hb dX5_isOfKind_15 rfl (lv_at hl 0 rfl) ?_
      refine lv_iconst (v := (5 : Int32)) hx hb dX5_isOfKind_16 (by decide) ?_
      refine lv_icmp_ne (tgt := 29) hx hb dX5_isOfKind_17 (by decide) (fun c17 => ?_) (fun c17 => ?_)
      · have h := br_0 h c17
        refine lv_iconst (v := (0 : Int32)) hx hb dX5_isOfKind_29 (by decide) ?_
        cases h
        exact hret _ _ dX5_isOfKind_30 (Or.inl rfl)
      · have h := br_1 h c17
        refine lv_iload_n hx hb dX5_isOfKind_20 rfl (lv_at hl 1 rfl) ?_
        refine lv_iconst (v := (2 : Int32)) hx hb dX5_isOfKind_21 (by decide) ?_
        refine lv_icmp_ne (tgt := 29) hx hb dX5_isOfKind_22 (by decide) (fun c22 => ?_) (fun c22 => ?_)
        · have h := br_0 h c22
          refine lv_iconst (v := (0 : Int32)) hx hb dX5_isOfKind_29 (by decide) ?_
          cases h
          exact hret _ _ dX5_isOfKind_30 (Or.inl rfl)
        · have h := br_1 h c22
          refine lv_iconst (v := (1 : Int32)) hx hb dX5_isOfKind_25 (by decide) ?_
          refine lv_goto (tgt := 30) hx hb dX5_isOfKind_26 (by decide) ?_
          cases h
          exact hret _ _ dX5_isOfKind_30 (Or.inr rfl)
    unfold fX5_isOfKind at h
    refine lv_iload_n hx hb dX5_isOfKind_0 rfl (lv_at hl 0 rfl) ?_
    refine lv_iload_n hx hb dX5_isOfKind_1 rfl (lv_at hl 1 rfl) ?_
    refine lv_icmp_eq (tgt := 25) hx hb dX5_isOfKind_2 (by decide) (fun c2 => ?_) (fun c2 => ?_)
    · have h := br_1 h c2
      refine lv_iconst (v := (1 : Int32)) hx hb dX5_isOfKind_25 (by decide) ?_
      refine lv_goto (tgt := 30) hx hb dX5_isOfKind_26 (by decide) ?_
      cases h
      exact hret _ _ dX5_isOfKind_30 (Or.inr rfl)
    · have h := br_0 h c2
      refine lv_iload_n hx hb dX5_isOfKind_5 rfl (lv_at hl 0 rfl) ?_
      refine lv_iconst (v := (4 : Int32)) hx hb dX5_isOfKind_6 (by decide) ?_
      refine lv_icmp_ne (tgt := 15) hx hb dX5_isOfKind_7 (by decide) (fun c7 => ?_) (fun c7 => ?_)
      · have h := br_0 h c7
        exact n15 x0 x1 h _ (lv_sub hl [0, 1] rfl)
      · have h := br_1 h c7
        refine lv_iload_n hx hb dX5_isOfKind_10 rfl (lv_at hl 1 rfl) ?_
        refine lv_iconst (v := (1 : Int32)) hx hb dX5_isOfKind_11 (by decide) ?_
        refine lv_icmp_eq (tgt := 25) hx hb dX5_isOfKind_12 (by decide) (fun c12 => ?_) (fun c12 => ?_)
        · have h := br_1 h c12
          refine lv_iconst (v := (1 : Int32)) hx hb dX5_isOfKind_25 (by decide) ?_
          refine lv_goto (tgt := 30) hx hb dX5_isOfKind_26 (by decide) ?_
          cases h
          exact hret _ _ dX5_isOfKind_30 (Or.inr rfl)
        · have h := br_0 h c12
          exact n15 x0 x1 h _ (lv_sub hl [0, 1] rfl)
  exact key _ (fun pc ls hd hb1 => W.zret hx hb hr (b01_n hb1) (fun t ht hW => ⟨_, rfl, ⟨rfl, hb1⟩, ht⟩) (fun q h => by cases h) hd)
set_option maxHeartbeats 4000000 in
set_option maxRecDepth 100000 in
theorem kX2_howManyAre (l : Launch) (D : va_G) (T : Nat → ClassId) (F : Nat) (a0 : Nat) (a1 : Nat) (a2 : Nat) (a3 : Nat) (a4 : Nat) (a5 : Nat) (size : Int32) (clause : Int32) (eff : Nat → Int32) (kin : Nat → Int32) (gri : Nat → Int32) (sig : Nat → Int32) (see : Nat → Int32) (x1 : Int32) (r : Int32) (h : fX2_howManyAre F size kin x1 = some (r)) : Met l yX2_howManyAre wsX2_howManyAre ({ frames := 1, cells := 0, slots := 0, locals := 21 } : Room) (va_Pc [.ref a0, .int x1] (fun U => va_P D vwCl (wPa T a0 a1 a2 a3 a4 a5 size clause eff kin gri sig see) U.heap ∧ KK D T U)) (vp_Si (fun r' => r' = r)) 0 0 (fun _ => False) := by
  refine Met.ofW (cc := cX2_howManyAre) (maxL := 4) (ret := some .int) (by decide) rfl ?_
  intro p e s m args below meth c s₁ B hml hv
  obtain ⟨ha, hP, hKK⟩ := hv
  have hx := B.exec
  have hb := B.bytes
  have hr := B.returns
  have hts := atoms_spec (ws := wsX2_howManyAre) B.pre
  have hown : s.vm.findClass RX2 = some m.cls := findClass_of_methodNamed B.named
  have hlocks := B.notSynchronized
  have hK := hKK.1
  have hFix : CallFix p m c cX2_howManyAre 4 s args wsX2_howManyAre RX2 := ⟨hx, hb, hml, hown, hts⟩
  have q1 := hts _ (List.mem_of_getElem? (i := 1) (show wsX2_howManyAre[1]? = some (Cond.fieldLink RX2 9 "PartyWill$Party" "size" "I") from rfl))
  have q2 := hts _ (List.mem_of_getElem? (i := 2) (show wsX2_howManyAre[2]? = some (Cond.fieldLink RX2 22 "PartyWill$Party" "kinds" "[I") from rfl))
  have q3 := hts _ (List.mem_of_getElem? (i := 3) (show wsX2_howManyAre[3]? = some (Cond.static yX5_isOfKind) from rfl))
  have q4 := hts _ (List.mem_of_getElem? (i := 4) (show wsX2_howManyAre[4]? = some (Cond.initialized RX5) from rfl))
  have iX2 : ∀ w ∈ u_ws RX2 TX2 7, w ∈ wsX2_howManyAre := fun w h => List.mem_cons_of_mem _ (List.mem_append_right _ (h))
  obtain ⟨ls, hl, e0⟩ := my_entry (m := m) (n := 4) ha (Nat.le_of_ble_eq_true rfl)
  rw [e0]
  have hl : lv_has ls 4 [(0, .ref a0), (1, .int x1)] := hl
  have key : ∀ Q : State → Prop, (∀ (pc : Nat) (ls : Array Slot), decode cX2_howManyAre pc = .ok (.ireturn, 1) → W p l e ({ frames := 1, cells := 0, slots := 0, locals := 21 } : Room) s m args below meth c s.heap [] 0 0 Q (F0 m pc ls [.int r])) → W p l e ({ frames := 1, cells := 0, slots := 0, locals := 21 } : Room) s m args below meth c s.heap [] 0 0 Q (F0 m 0 ls []) := by
    intro Q hret
    have l4 : ∀ x1 : Int32, ∀ nu : Nat, ∀ x2 : Int32, ∀ x3 : Int32, fX2_howManyAre_l4 F size kin x1 nu x2 x3 = some (r) → ∀ (ls : Array Slot), lv_has ls 4 [(0, .ref a0), (1, .int x1), (2, .int x2), (3, .int x3)] → W p l e ({ frames := 1, cells := 0, slots := 0, locals := 21 } : Room) s m args below meth c s.heap [] 0 0 Q (F0 m 4 ls []) := by
      intro x1
      intro nu
      induction nu with
      | zero => intro x2 x3 h; exact none_some h
      | succ nu4 ih4 =>
        intro x2 x3 h ls hl
        have h : fX2_howManyAre_l4_b F size kin x1 (fX2_howManyAre_l4 F size kin x1 nu4) x2 x3 = some (r) := h
        unfold fX2_howManyAre_l4_b at h
        refine lv_iload_n hx hb dX2_howManyAre_4 rfl (lv_at hl 3 rfl) ?_
        refine lv_aload_n hx hb dX2_howManyAre_5 rfl (lv_at hl 0 rfl) ?_
        refine va_get (D := D) (ci := 1) (C := RX2) (T := TX2) (N := 7) hx hb hts iX2 hown hK hP 0 wPa_0 rfl 0 (by decide) q1 (fun _ h9 => h9) rfl dX2_howManyAre_6 ?_
        refine lv_icmp_ge (tgt := 34) hx hb dX2_howManyAre_9 (by decide) (fun c9 => ?_) (fun c9 => ?_)
        · have h := br_1 h c9
          refine lv_iload_n hx hb dX2_howManyAre_34 rfl (lv_at hl 2 rfl) ?_
          cases h
          exact hret _ _ dX2_howManyAre_35
        · have h := br_0 h c9
          refine lv_aload_n hx hb dX2_howManyAre_12 rfl (lv_at hl 0 rfl) ?_
          refine va_get (D := D) (ci := 1) (C := RX2) (T := TX2) (N := 7) hx hb hts iX2 hown hK hP 0 wPa_0 rfl 3 (by decide) q2 (fun _ h9 => h9) rfl dX2_howManyAre_13 ?_
          refine lv_iload_n hx hb dX2_howManyAre_16 rfl (lv_at hl 3 rfl) ?_
          obtain ⟨hin1, h⟩ := ck_some h
          refine va_iald hx hb hK hP 2 0 wPa_2 rfl hin1 dX2_howManyAre_17 ?_
          refine lv_iload_n hx hb dX2_howManyAre_18 rfl (lv_at hl 1 rfl) ?_
          obtain ⟨r19, hc, h⟩ := bd1_some h
          refine my_roz (va_Run.run (va_runSN (host := "PartyWill") (As := [.int (kin x3.toNatClampNeg), .int x1]) (rest := []) hFix (kX5_isOfKind l D T F (kin x3.toNatClampNeg) x1 r19 hc) ⟨va_cnB 2 hts gX2_howManyAre_X5_isOfKind_n94 rfl rfl rfl (nw_X2_94 hKK.2) q4 hd_X5_isOfKind ⟨Nat.le_of_ble_eq_true rfl, Nat.le_of_ble_eq_true rfl⟩, q3, trivial⟩ (preS_ro va_nil hKK) rfl rfl hl.1 rfl (lv_room (Nat.le_of_ble_eq_true rfl)) dX2_howManyAre_19 ⟨Nat.zero_le _, Nat.zero_le _⟩)) (fun hb19 => ?_)
          refine lv_if_eq (tgt := 28) hx hb dX2_howManyAre_22 (by decide) (fun c22 => ?_) (fun c22 => ?_)
          · have h := br_1 h c22
            refine lv_iinc (v := (x3 + (1 : Int32))) (lv' := [(3, .int (x3 + (1 : Int32))), (0, .ref a0), (1, .int x1), (2, .int x2)]) hx hb dX2_howManyAre_28 hl (k := 3) rfl rfl (by decide) rfl (fun ls hl => ?_)
            refine lv_goto (tgt := 4) hx hb dX2_howManyAre_31 (by decide) ?_
            exact ih4 x2 (x3 + (1 : Int32)) h _ (lv_sub hl [1, 2, 3, 0] rfl)
          · have h := br_0 h c22
            refine lv_iinc (v := (x2 + (1 : Int32))) (lv' := [(2, .int (x2 + (1 : Int32))), (0, .ref a0), (1, .int x1), (3, .int x3)]) hx hb dX2_howManyAre_25 hl (k := 2) rfl rfl (by decide) rfl (fun ls hl => ?_)
            refine lv_iinc (v := (x3 + (1 : Int32))) (lv' := [(3, .int (x3 + (1 : Int32))), (2, .int (x2 + (1 : Int32))), (0, .ref a0), (1, .int x1)]) hx hb dX2_howManyAre_28 hl (k := 3) rfl rfl (by decide) rfl (fun ls hl => ?_)
            refine lv_goto (tgt := 4) hx hb dX2_howManyAre_31 (by decide) ?_
            exact ih4 (x2 + (1 : Int32)) (x3 + (1 : Int32)) h _ (lv_sub hl [2, 3, 1, 0] rfl)
    unfold fX2_howManyAre at h
    refine lv_iconst (v := (0 : Int32)) hx hb dX2_howManyAre_0 (by decide) ?_
    refine lv_istore_n (lv' := [(2, .int (0 : Int32)), (0, .ref a0), (1, .int x1)]) hx hb dX2_howManyAre_1 rfl hl (by decide) rfl (fun ls hl => ?_)
    refine lv_iconst (v := (0 : Int32)) hx hb dX2_howManyAre_2 (by decide) ?_
    refine lv_istore_n (lv' := [(3, .int (0 : Int32)), (2, .int (0 : Int32)), (0, .ref a0), (1, .int x1)]) hx hb dX2_howManyAre_3 rfl hl (by decide) rfl (fun ls hl => ?_)
    exact l4 x1 F (0 : Int32) (0 : Int32) h _ (lv_sub hl [2, 3, 1, 0] rfl)
  exact key _ (fun pc ls hd => W.iret hx hb hr (fun t ht hW => ⟨_, rfl, rfl, ht⟩) (fun q h => by cases h) hd)
set_option maxHeartbeats 4000000 in
set_option maxRecDepth 100000 in
theorem kX3_stayingBehind_o (l : Launch) (D : va_G) (T : Nat → ClassId) (F : Nat) (d : Nat) (rec : Int64 → Int32 → Option (Int64)) (size : Int32) (clause : Int32) (eff : Nat → Int32) (kin : Nat → Int32) (gri : Nat → Int32) (sig : Nat → Int32) (see : Nat → Int32) (ihd : ∀ (a0 : Nat) (a1 : Nat) (a2 : Nat) (a3 : Nat) (a4 : Nat) (a5 : Nat) (x1 : Int64) (x3 : Int32) (r : Int64), rec x1 x3 = some (r) → Met l yX3_staying wsX3_staying ({ frames := 2 * d + 14, cells := 0, slots := 0, locals := 60 * d + 420 } : Room) (va_Pc [.ref a0, .long x1, .int x3] (fun U => va_P D vwCl (wPa T a0 a1 a2 a3 a4 a5 size clause eff kin gri sig see) U.heap ∧ KK D T U)) (vp_Sl (fun r' => r' = r)) 0 0 (fun _ => False)) (a0 : Nat) (a1 : Nat) (a2 : Nat) (a3 : Nat) (a4 : Nat) (a5 : Nat) (x1 : Int64) (x3 : Int32) (x4 : Int32) (r : Int64) (h : fX3_stayingBehind_b F size clause eff kin see rec x1 x3 x4 = some (r)) : Met l yX3_stayingBehind wsX3_stayingBehind ({ frames := 2 * d + 15, cells := 0, slots := 0, locals := 60 * d + 450 } : Room) (va_Pc [.ref a0, .long x1, .int x3, .int x4] (fun U => va_P D vwCl (wPa T a0 a1 a2 a3 a4 a5 size clause eff kin gri sig see) U.heap ∧ KK D T U)) (vp_Sl (fun r' => r' = r)) 0 0 (fun _ => False) := by
  refine Met.ofW (cc := cX3_stayingBehind) (maxL := 7) (ret := some .long) (by decide) rfl ?_
  intro p e s m args below meth c s₁ B hml hv
  obtain ⟨ha, hP, hKK⟩ := hv
  have hx := B.exec
  have hb := B.bytes
  have hr := B.returns
  have hts := atoms_spec (ws := wsX3_stayingBehind) B.pre
  have hown : s.vm.findClass RX3 = some m.cls := findClass_of_methodNamed B.named
  have hlocks := B.notSynchronized
  have hK := hKK.1
  have hFix : CallFix p m c cX3_stayingBehind 7 s args wsX3_stayingBehind RX3 := ⟨hx, hb, hml, hown, hts⟩
  have q1 := hts _ (List.mem_of_getElem? (i := 1) (show wsX3_stayingBehind[1]? = some (Cond.instanceMethod yX2_afterTune) from rfl))
  have q2 := hts _ (List.mem_of_getElem? (i := 2) (show wsX3_stayingBehind[2]? = some (Cond.initialized RX2) from rfl))
  have q3 := hts _ (List.mem_of_getElem? (i := 3) (show wsX3_stayingBehind[3]? = some (Cond.selects RX2 yX2_afterTune yX2_afterTune) from rfl))
  have q9 := hts _ (List.mem_of_getElem? (i := 9) (show wsX3_stayingBehind[9]? = some (Cond.initialized RX1) from rfl))
  have q41 := hts _ (List.mem_of_getElem? (i := 41) (show wsX3_stayingBehind[41]? = some (Cond.static yX1_insiders) from rfl))
  obtain ⟨ls, hl, e0⟩ := my_entry (m := m) (n := 7) ha (Nat.le_of_ble_eq_true rfl)
  rw [e0]
  have hl : lv_has ls 7 [(0, .ref a0), (1, .long x1), (3, .int x3), (4, .int x4)] := hl
  have key : ∀ Q : State → Prop, (∀ (pc : Nat) (ls : Array Slot), decode cX3_stayingBehind pc = .ok (.lreturn, 1) → W p l e ({ frames := 2 * d + 15, cells := 0, slots := 0, locals := 60 * d + 450 } : Room) s m args below meth c s.heap [] 0 0 Q (F0 m pc ls [.long r])) → W p l e ({ frames := 2 * d + 15, cells := 0, slots := 0, locals := 60 * d + 450 } : Room) s m args below meth c s.heap [] 0 0 Q (F0 m 0 ls []) := by
    intro Q hret
    have h : fX3_stayingBehind_b F size clause eff kin see rec x1 x3 x4 = some (r) := h
    unfold fX3_stayingBehind_b at h
    refine lv_aload_n hx hb dX3_stayingBehind_0 rfl (lv_at hl 0 rfl) ?_
    refine lv_lload_n hx hb dX3_stayingBehind_1 rfl (lv_at hl 1 rfl) ?_
    refine lv_iload_n hx hb dX3_stayingBehind_2 rfl (lv_at hl 2 rfl) ?_
    obtain ⟨r3, hc, h⟩ := bd1_some h
    refine my_rol (va_Run.run (va_runVN (host := "PartyWill") (As := [.long x1, .int x3]) (rest := []) hFix (kX2_afterTune l D T F a0 a1 a2 a3 a4 a5 size clause eff kin gri sig see x1 x3 r3 hc) ⟨va_cnB 2 hts gX3_stayingBehind_X2_afterTune_n15 rfl rfl rfl (nw_X3_15 hKK.2) q2 hd_X2_afterTune ⟨(show 3 + 1 ≤ 2 * d + 15 by omega), (show 8 + (8 + 11) + 75 ≤ 60 * d + 450 by omega)⟩, q1, q3⟩ (preV_ro hP hKK (va_recv hK hP (ci := 1) (q0 := 0) rfl wPa_0)) rfl rfl hl.1 rfl (lv_room (Nat.le_of_ble_eq_true rfl)) dX3_stayingBehind_3 ⟨Nat.zero_le _, Nat.zero_le _⟩)) ?_
    refine lv_lstore (lv' := [(5, .long r3), (0, .ref a0), (1, .long x1), (3, .int x3), (4, .int x4)]) hx hb dX3_stayingBehind_6 hl (by decide) rfl (fun ls hl => ?_)
    refine lv_lload hx hb dX3_stayingBehind_8 (lv_at hl 0 rfl) ?_
    obtain ⟨r10, hc, h⟩ := bd1_some h
    refine my_roi (va_Run.run (va_runSN (host := "PartyWill") (As := [.long r3]) (rest := []) hFix (kX1_insiders l D T F r3 r10 hc) ⟨va_cnB 1 hts gX3_stayingBehind_X1_insiders_n21 rfl rfl rfl (nw_X3_21 hKK.2) q9 hd_X1_insiders ⟨(show 0 + 1 ≤ 2 * d + 15 by omega), (show 8 + (2 + 11) + 0 ≤ 60 * d + 450 by omega)⟩, q41, trivial⟩ (preS_ro va_nil hKK) rfl rfl hl.1 rfl (lv_room (Nat.le_of_ble_eq_true rfl)) dX3_stayingBehind_10 ⟨Nat.zero_le _, Nat.zero_le _⟩)) ?_
    refine lv_lload_n hx hb dX3_stayingBehind_13 rfl (lv_at hl 2 rfl) ?_
    obtain ⟨r14, hc, h⟩ := bd1_some h
    refine my_roi (va_Run.run (va_runSN (host := "PartyWill") (As := [.long x1]) (rest := [.int r10]) hFix (kX1_insiders l D T F x1 r14 hc) ⟨va_cnB 1 hts gX3_stayingBehind_X1_insiders_n21 rfl rfl rfl (nw_X3_21 hKK.2) q9 hd_X1_insiders ⟨(show 0 + 1 ≤ 2 * d + 15 by omega), (show 8 + (2 + 11) + 0 ≤ 60 * d + 450 by omega)⟩, q41, trivial⟩ (preS_ro va_nil hKK) rfl rfl hl.1 rfl (lv_room (Nat.le_of_ble_eq_true rfl)) dX3_stayingBehind_14 ⟨Nat.zero_le _, Nat.zero_le _⟩)) ?_
    refine lv_icmp_ne (tgt := 31) hx hb dX3_stayingBehind_17 (by decide) (fun c17 => ?_) (fun c17 => ?_)
    · have h := br_0 h c17
      refine lv_lconst (v := (0 : Int64)) hx hb dX3_stayingBehind_31 (by decide) ?_
      cases h
      exact hret _ _ dX3_stayingBehind_32
    · have h := br_1 h c17
      refine lv_aload_n hx hb dX3_stayingBehind_20 rfl (lv_at hl 1 rfl) ?_
      refine lv_lload hx hb dX3_stayingBehind_21 (lv_at hl 0 rfl) ?_
      refine lv_iload hx hb dX3_stayingBehind_23 (lv_at hl 4 rfl) ?_
      obtain ⟨r25, hc, h⟩ := bd1_some h
      refine my_rol (va_Run.run (va_runS (As := [.ref a0, .long r3, .int x4]) (rest := []) hFix (ihd a0 a1 a2 a3 a4 a5 r3 x4 r25 hc) (va_cwS 3 hts gX3_stayingBehind_X3_staying rfl rfl rfl hd_X3_staying ⟨(show 2 * d + 14 + 1 ≤ 2 * d + 15 by omega), (show 8 + (7 + 11) + (60 * d + 420) ≤ 60 * d + 450 by omega)⟩) (preS_ro hP hKK) rfl rfl hl.1 rfl (lv_room (Nat.le_of_ble_eq_true rfl)) dX3_stayingBehind_25 ⟨Nat.zero_le _, Nat.zero_le _⟩)) ?_
      refine lv_goto (tgt := 32) hx hb dX3_stayingBehind_28 (by decide) ?_
      cases h
      exact hret _ _ dX3_stayingBehind_32
  exact key _ (fun pc ls hd => W.lret hx hb hr (fun t ht hW => ⟨_, rfl, rfl, ht⟩) (fun q h => by cases h) hd)
set_option maxHeartbeats 4000000 in
set_option maxRecDepth 100000 in
theorem kX3_staying (l : Launch) (D : va_G) (T : Nat → ClassId) (F : Nat) : ∀ (d : Nat) (a0 : Nat) (a1 : Nat) (a2 : Nat) (a3 : Nat) (a4 : Nat) (a5 : Nat) (size : Int32) (clause : Int32) (eff : Nat → Int32) (kin : Nat → Int32) (gri : Nat → Int32) (sig : Nat → Int32) (see : Nat → Int32) (x1 : Int64) (x3 : Int32) (r : Int64), fX3_staying F size clause eff kin see d x1 x3 = some (r) → Met l yX3_staying wsX3_staying ({ frames := 2 * d + 14, cells := 0, slots := 0, locals := 60 * d + 420 } : Room) (va_Pc [.ref a0, .long x1, .int x3] (fun U => va_P D vwCl (wPa T a0 a1 a2 a3 a4 a5 size clause eff kin gri sig see) U.heap ∧ KK D T U)) (vp_Sl (fun r' => r' = r)) 0 0 (fun _ => False) := by
  intro d
  induction d with
  | zero => intro a0 a1 a2 a3 a4 a5 size clause eff kin gri sig see x1 x3 r h; exact none_some h
  | succ d ihd =>
  intro a0 a1 a2 a3 a4 a5 size clause eff kin gri sig see x1 x3 r h
  refine Met.ofW (cc := cX3_staying) (maxL := 7) (ret := some .long) (by decide) rfl ?_
  intro p e s m args below meth c s₁ B hml hv
  obtain ⟨ha, hP, hKK⟩ := hv
  have hx := B.exec
  have hb := B.bytes
  have hr := B.returns
  have hts := atoms_spec (ws := wsX3_staying) B.pre
  have hown : s.vm.findClass RX3 = some m.cls := findClass_of_methodNamed B.named
  have hlocks := B.notSynchronized
  have hK := hKK.1
  have hFix : CallFix p m c cX3_staying 7 s args wsX3_staying RX3 := ⟨hx, hb, hml, hown, hts⟩
  obtain ⟨ls, hl, e0⟩ := my_entry (m := m) (n := 7) ha (Nat.le_of_ble_eq_true rfl)
  rw [e0]
  have hl : lv_has ls 7 [(0, .ref a0), (1, .long x1), (3, .int x3)] := hl
  have key : ∀ Q : State → Prop, (∀ (pc : Nat) (ls : Array Slot), decode cX3_staying pc = .ok (.lreturn, 1) → W p l e ({ frames := 2 * (d + 1) + 14, cells := 0, slots := 0, locals := 60 * (d + 1) + 420 } : Room) s m args below meth c s.heap [] 0 0 Q (F0 m pc ls [.long r])) → W p l e ({ frames := 2 * (d + 1) + 14, cells := 0, slots := 0, locals := 60 * (d + 1) + 420 } : Room) s m args below meth c s.heap [] 0 0 Q (F0 m 0 ls []) := by
    intro Q hret
    have l12 : ∀ x1 : Int64, ∀ x3 : Int32, ∀ nu : Nat, ∀ x4 : Int64, ∀ x6 : Int32, fX3_staying_l12 F (fX3_staying F size clause eff kin see d) size clause eff kin see x1 x3 nu x4 x6 = some (r) → ∀ (ls : Array Slot), lv_has ls 7 [(0, .ref a0), (1, .long x1), (3, .int x3), (4, .long x4), (6, .int x6)] → W p l e ({ frames := 2 * (d + 1) + 14, cells := 0, slots := 0, locals := 60 * (d + 1) + 420 } : Room) s m args below meth c s.heap [] 0 0 Q (F0 m 12 ls []) := by
      intro x1 x3
      intro nu
      induction nu with
      | zero => intro x4 x6 h; exact none_some h
      | succ nu12 ih12 =>
        intro x4 x6 h ls hl
        have h : fX3_staying_l12_b F (fX3_staying F size clause eff kin see d) size clause eff kin see x1 x3 (fX3_staying_l12 F (fX3_staying F size clause eff kin see d) size clause eff kin see x1 x3 nu12) x4 x6 = some (r) := h
        unfold fX3_staying_l12_b at h
        refine lv_iload hx hb dX3_staying_12 (lv_at hl 4 rfl) ?_
        refine lv_iconst (v := (4 : Int32)) hx hb dX3_staying_14 (by decide) ?_
        refine lv_icmp_ge (tgt := 39) hx hb dX3_staying_15 (by decide) (fun c15 => ?_) (fun c15 => ?_)
        · have h := br_1 h c15
          refine lv_lload hx hb dX3_staying_39 (lv_at hl 3 rfl) ?_
          cases h
          exact hret _ _ dX3_staying_41
        · have h := br_0 h c15
          refine lv_lload hx hb dX3_staying_18 (lv_at hl 3 rfl) ?_
          refine lv_aload_n hx hb dX3_staying_20 rfl (lv_at hl 0 rfl) ?_
          refine lv_lload_n hx hb dX3_staying_21 rfl (lv_at hl 1 rfl) ?_
          refine lv_iload hx hb dX3_staying_22 (lv_at hl 4 rfl) ?_
          refine lv_iload_n hx hb dX3_staying_24 rfl (lv_at hl 2 rfl) ?_
          refine lv_iconst (v := (1 : Int32)) hx hb dX3_staying_25 (by decide) ?_
          refine lv_isub hx hb dX3_staying_26 ?_
          obtain ⟨r27, hc, h⟩ := bd1_some h
          refine my_rol (va_Run.run (va_runS (As := [.ref a0, .long x1, .int x6, .int (x3 - (1 : Int32))]) (rest := [.long x4]) hFix (kX3_stayingBehind_o l D T F d (fX3_staying F size clause eff kin see d) size clause eff kin gri sig see (fun a0' a1' a2' a3' a4' a5' x1' x3' r h => ihd a0' a1' a2' a3' a4' a5' size clause eff kin gri sig see x1' x3' r h) a0 a1 a2 a3 a4 a5 x1 x6 (x3 - (1 : Int32)) r27 hc) (va_cwS 4 hts gX3_staying_X3_stayingBehind rfl rfl rfl hd_X3_stayingBehind ⟨(show 2 * d + 15 + 1 ≤ 2 * (d + 1) + 14 by omega), (show 8 + (7 + 11) + (60 * d + 450) ≤ 60 * (d + 1) + 420 by omega)⟩) (preS_ro hP hKK) rfl rfl hl.1 rfl (lv_room (Nat.le_of_ble_eq_true rfl)) dX3_staying_27 ⟨Nat.zero_le _, Nat.zero_le _⟩)) ?_
          refine lv_ladd hx hb dX3_staying_30 ?_
          refine lv_lstore (lv' := [(4, .long (x4 + r27)), (0, .ref a0), (1, .long x1), (3, .int x3), (6, .int x6)]) hx hb dX3_staying_31 hl (by decide) rfl (fun ls hl => ?_)
          refine lv_iinc (v := (x6 + (1 : Int32))) (lv' := [(6, .int (x6 + (1 : Int32))), (4, .long (x4 + r27)), (0, .ref a0), (1, .long x1), (3, .int x3)]) hx hb dX3_staying_33 hl (k := 4) rfl rfl (by decide) rfl (fun ls hl => ?_)
          refine lv_goto (tgt := 12) hx hb dX3_staying_36 (by decide) ?_
          exact ih12 (x4 + r27) (x6 + (1 : Int32)) h _ (lv_sub hl [2, 3, 4, 1, 0] rfl)
    have h : fX3_staying_b F size clause eff kin see (fX3_staying F size clause eff kin see d) x1 x3 = some (r) := h
    unfold fX3_staying_b at h
    refine lv_iload_n hx hb dX3_staying_0 rfl (lv_at hl 2 rfl) ?_
    refine lv_if_gt (tgt := 6) hx hb dX3_staying_1 (by decide) (fun c1 => ?_) (fun c1 => ?_)
    · have h := br_1 h c1
      refine lv_lconst (v := (0 : Int64)) hx hb dX3_staying_6 (by decide) ?_
      refine lv_lstore (lv' := [(4, .long (0 : Int64)), (0, .ref a0), (1, .long x1), (3, .int x3)]) hx hb dX3_staying_7 hl (by decide) rfl (fun ls hl => ?_)
      refine lv_iconst (v := (0 : Int32)) hx hb dX3_staying_9 (by decide) ?_
      refine lv_istore (lv' := [(6, .int (0 : Int32)), (4, .long (0 : Int64)), (0, .ref a0), (1, .long x1), (3, .int x3)]) hx hb dX3_staying_10 hl (by decide) rfl (fun ls hl => ?_)
      exact l12 x1 x3 F (0 : Int64) (0 : Int32) h _ (lv_sub hl [2, 3, 4, 1, 0] rfl)
    · have h := br_0 h c1
      refine lv_lconst (v := (1 : Int64)) hx hb dX3_staying_4 (by decide) ?_
      cases h
      exact hret _ _ dX3_staying_5
  exact key _ (fun pc ls hd => W.lret hx hb hr (fun t ht hW => ⟨_, rfl, rfl, ht⟩) (fun q h => by cases h) hd)
theorem kX3_stayingBehind (l : Launch) (D : va_G) (T : Nat → ClassId) (F : Nat) (d : Nat) (a0 : Nat) (a1 : Nat) (a2 : Nat) (a3 : Nat) (a4 : Nat) (a5 : Nat) (size : Int32) (clause : Int32) (eff : Nat → Int32) (kin : Nat → Int32) (gri : Nat → Int32) (sig : Nat → Int32) (see : Nat → Int32) (x1 : Int64) (x3 : Int32) (x4 : Int32) (r : Int64) (h : fX3_stayingBehind F size clause eff kin see d x1 x3 x4 = some (r)) : Met l yX3_stayingBehind wsX3_stayingBehind ({ frames := 2 * d + 15, cells := 0, slots := 0, locals := 60 * d + 450 } : Room) (va_Pc [.ref a0, .long x1, .int x3, .int x4] (fun U => va_P D vwCl (wPa T a0 a1 a2 a3 a4 a5 size clause eff kin gri sig see) U.heap ∧ KK D T U)) (vp_Sl (fun r' => r' = r)) 0 0 (fun _ => False) :=
  kX3_stayingBehind_o l D T F d (fX3_staying F size clause eff kin see d) size clause eff kin gri sig see (fun a0' a1' a2' a3' a4' a5' => kX3_staying l D T F d a0' a1' a2' a3' a4' a5' size clause eff kin gri sig see) a0 a1 a2 a3 a4 a5 x1 x3 x4 r h
set_option maxHeartbeats 4000000 in
set_option maxRecDepth 100000 in
theorem kX3_firstLeaving (l : Launch) (D : va_G) (T : Nat → ClassId) (F : Nat) : ∀ (d : Nat) (a0 : Nat) (a1 : Nat) (a2 : Nat) (a3 : Nat) (a4 : Nat) (a5 : Nat) (size : Int32) (clause : Int32) (eff : Nat → Int32) (kin : Nat → Int32) (gri : Nat → Int32) (sig : Nat → Int32) (see : Nat → Int32) (x1 : Int64) (x3 : Int32) (x4 : Int32) (x5 : Int32) (r : Int32), fX3_firstLeaving F size clause eff kin see d x1 x3 x4 x5 = some (r) → Met l yX3_firstLeaving wsX3_firstLeaving ({ frames := 2 * d + 14, cells := 0, slots := 0, locals := 60 * d + 420 } : Room) (va_Pc [.ref a0, .long x1, .int x3, .int x4, .int x5] (fun U => va_P D vwCl (wPa T a0 a1 a2 a3 a4 a5 size clause eff kin gri sig see) U.heap ∧ KK D T U)) (vp_Si (fun r' => r' = r)) 0 0 (fun _ => False) := by
  intro d
  induction d with
  | zero => intro a0 a1 a2 a3 a4 a5 size clause eff kin gri sig see x1 x3 x4 x5 r h; exact none_some h
  | succ d ihd =>
  intro a0 a1 a2 a3 a4 a5 size clause eff kin gri sig see x1 x3 x4 x5 r h
  refine Met.ofW (cc := cX3_firstLeaving) (maxL := 8) (ret := some .int) (by decide) rfl ?_
  intro p e s m args below meth c s₁ B hml hv
  obtain ⟨ha, hP, hKK⟩ := hv
  have hx := B.exec
  have hb := B.bytes
  have hr := B.returns
  have hts := atoms_spec (ws := wsX3_firstLeaving) B.pre
  have hown : s.vm.findClass RX3 = some m.cls := findClass_of_methodNamed B.named
  have hlocks := B.notSynchronized
  have hK := hKK.1
  have hFix : CallFix p m c cX3_firstLeaving 8 s args wsX3_firstLeaving RX3 := ⟨hx, hb, hml, hown, hts⟩
  have q1 := hts _ (List.mem_of_getElem? (i := 1) (show wsX3_firstLeaving[1]? = some (Cond.static yX1_howManyIn) from rfl))
  have q2 := hts _ (List.mem_of_getElem? (i := 2) (show wsX3_firstLeaving[2]? = some (Cond.initialized RX1) from rfl))
  have q14 := hts _ (List.mem_of_getElem? (i := 14) (show wsX3_firstLeaving[14]? = some (Cond.instanceMethod yX2_afterTune) from rfl))
  have q15 := hts _ (List.mem_of_getElem? (i := 15) (show wsX3_firstLeaving[15]? = some (Cond.initialized RX2) from rfl))
  have q16 := hts _ (List.mem_of_getElem? (i := 16) (show wsX3_firstLeaving[16]? = some (Cond.selects RX2 yX2_afterTune yX2_afterTune) from rfl))
  obtain ⟨ls, hl, e0⟩ := my_entry (m := m) (n := 8) ha (Nat.le_of_ble_eq_true rfl)
  rw [e0]
  have hl : lv_has ls 8 [(0, .ref a0), (1, .long x1), (3, .int x3), (4, .int x4), (5, .int x5)] := hl
  have key : ∀ Q : State → Prop, (∀ (pc : Nat) (ls : Array Slot), decode cX3_firstLeaving pc = .ok (.ireturn, 1) → W p l e ({ frames := 2 * (d + 1) + 14, cells := 0, slots := 0, locals := 60 * (d + 1) + 420 } : Room) s m args below meth c s.heap [] 0 0 Q (F0 m pc ls [.int r])) → W p l e ({ frames := 2 * (d + 1) + 14, cells := 0, slots := 0, locals := 60 * (d + 1) + 420 } : Room) s m args below meth c s.heap [] 0 0 Q (F0 m 0 ls []) := by
    intro Q hret
    have l26 : ∀ x1 : Int64, ∀ x3 : Int32, ∀ x4 : Int32, ∀ x5 : Int32, ∀ nu : Nat, ∀ x6 : Int32, ∀ x7 : Int32, fX3_firstLeaving_l26 F (fX3_firstLeaving F size clause eff kin see d) size clause eff kin see x1 x3 x4 x5 nu x6 x7 = some (r) → ∀ (ls : Array Slot), lv_has ls 8 [(0, .ref a0), (1, .long x1), (3, .int x3), (4, .int x4), (5, .int x5), (6, .int x6), (7, .int x7)] → W p l e ({ frames := 2 * (d + 1) + 14, cells := 0, slots := 0, locals := 60 * (d + 1) + 420 } : Room) s m args below meth c s.heap [] 0 0 Q (F0 m 26 ls []) := by
      intro x1 x3 x4 x5
      intro nu
      induction nu with
      | zero => intro x6 x7 h; exact none_some h
      | succ nu26 ih26 =>
        intro x6 x7 h ls hl
        have h : fX3_firstLeaving_l26_b F (fX3_firstLeaving F size clause eff kin see d) size clause eff kin see x1 x3 x4 x5 (fX3_firstLeaving_l26 F (fX3_firstLeaving F size clause eff kin see d) size clause eff kin see x1 x3 x4 x5 nu26) x6 x7 = some (r) := h
        unfold fX3_firstLeaving_l26_b at h
        refine lv_iload hx hb dX3_firstLeaving_26 (lv_at hl 6 rfl) ?_
        refine lv_iconst (v := (4 : Int32)) hx hb dX3_firstLeaving_28 (by decide) ?_
        refine lv_icmp_ge (tgt := 70) hx hb dX3_firstLeaving_29 (by decide) (fun c29 => ?_) (fun c29 => ?_)
        · have h := br_1 h c29
          refine lv_iload hx hb dX3_firstLeaving_70 (lv_at hl 5 rfl) ?_
          cases h
          exact hret _ _ dX3_firstLeaving_72
        · have h := br_0 h c29
          refine lv_iload hx hb dX3_firstLeaving_32 (lv_at hl 5 rfl) ?_
          refine lv_bipush (v := (-9 : Int32)) hx hb dX3_firstLeaving_34 (by decide) ?_
          refine lv_icmp_ne (tgt := 70) hx hb dX3_firstLeaving_36 (by decide) (fun c36 => ?_) (fun c36 => ?_)
          · have h := br_0 h c36
            refine lv_iload hx hb dX3_firstLeaving_70 (lv_at hl 5 rfl) ?_
            cases h
            exact hret _ _ dX3_firstLeaving_72
          · have h := br_1 h c36
            refine lv_aload_n hx hb dX3_firstLeaving_39 rfl (lv_at hl 0 rfl) ?_
            refine lv_aload_n hx hb dX3_firstLeaving_40 rfl (lv_at hl 0 rfl) ?_
            refine lv_lload_n hx hb dX3_firstLeaving_41 rfl (lv_at hl 1 rfl) ?_
            refine lv_iload hx hb dX3_firstLeaving_42 (lv_at hl 6 rfl) ?_
            obtain ⟨r44, hc, h⟩ := bd1_some h
            refine my_rol (va_Run.run (va_runVN (host := "PartyWill") (As := [.long x1, .int x7]) (rest := [.ref a0]) hFix (kX2_afterTune l D T F a0 a1 a2 a3 a4 a5 size clause eff kin gri sig see x1 x7 r44 hc) ⟨va_cnB 2 hts gX3_firstLeaving_X2_afterTune_n15 rfl rfl rfl (nw_X3_15 hKK.2) q15 hd_X2_afterTune ⟨(show 3 + 1 ≤ 2 * (d + 1) + 14 by omega), (show 8 + (8 + 11) + 75 ≤ 60 * (d + 1) + 420 by omega)⟩, q14, q16⟩ (preV_ro hP hKK (va_recv hK hP (ci := 1) (q0 := 0) rfl wPa_0)) rfl rfl hl.1 rfl (lv_room (Nat.le_of_ble_eq_true rfl)) dX3_firstLeaving_44 ⟨Nat.zero_le _, Nat.zero_le _⟩)) ?_
            refine lv_iload_n hx hb dX3_firstLeaving_47 rfl (lv_at hl 2 rfl) ?_
            refine lv_iconst (v := (1 : Int32)) hx hb dX3_firstLeaving_48 (by decide) ?_
            refine lv_isub hx hb dX3_firstLeaving_49 ?_
            refine lv_iload hx hb dX3_firstLeaving_50 (lv_at hl 3 rfl) ?_
            refine lv_iconst (v := (4 : Int32)) hx hb dX3_firstLeaving_52 (by decide) ?_
            refine lv_iload hx hb dX3_firstLeaving_53 (lv_at hl 4 rfl) ?_
            refine lv_imul hx hb dX3_firstLeaving_55 ?_
            refine lv_iload hx hb dX3_firstLeaving_56 (lv_at hl 6 rfl) ?_
            refine lv_iadd hx hb dX3_firstLeaving_58 ?_
            obtain ⟨r59, hc, h⟩ := bd1_some h
            refine my_roi (va_Run.run (va_runS (As := [.ref a0, .long r44, .int (x3 - (1 : Int32)), .int x4, .int (((4 : Int32) * x5) + x7)]) (rest := []) hFix (ihd a0 a1 a2 a3 a4 a5 size clause eff kin gri sig see r44 (x3 - (1 : Int32)) x4 (((4 : Int32) * x5) + x7) r59 hc) (va_cwS 5 hts gX3_firstLeaving_X3_firstLeaving rfl rfl rfl hd_X3_firstLeaving ⟨(show 2 * d + 14 + 1 ≤ 2 * (d + 1) + 14 by omega), (show 8 + (8 + 11) + (60 * d + 420) ≤ 60 * (d + 1) + 420 by omega)⟩) (preS_ro hP hKK) rfl rfl hl.1 rfl (lv_room (Nat.le_of_ble_eq_true rfl)) dX3_firstLeaving_59 ⟨Nat.zero_le _, Nat.zero_le _⟩)) ?_
            refine lv_istore (lv' := [(6, .int r59), (0, .ref a0), (1, .long x1), (3, .int x3), (4, .int x4), (5, .int x5), (7, .int x7)]) hx hb dX3_firstLeaving_62 hl (by decide) rfl (fun ls hl => ?_)
            refine lv_iinc (v := (x7 + (1 : Int32))) (lv' := [(7, .int (x7 + (1 : Int32))), (6, .int r59), (0, .ref a0), (1, .long x1), (3, .int x3), (4, .int x4), (5, .int x5)]) hx hb dX3_firstLeaving_64 hl (k := 6) rfl rfl (by decide) rfl (fun ls hl => ?_)
            refine lv_goto (tgt := 26) hx hb dX3_firstLeaving_67 (by decide) ?_
            exact ih26 r59 (x7 + (1 : Int32)) h _ (lv_sub hl [2, 3, 4, 5, 6, 1, 0] rfl)
    have h : fX3_firstLeaving_b F size clause eff kin see (fX3_firstLeaving F size clause eff kin see d) x1 x3 x4 x5 = some (r) := h
    unfold fX3_firstLeaving_b at h
    refine lv_lload_n hx hb dX3_firstLeaving_0 rfl (lv_at hl 1 rfl) ?_
    obtain ⟨r1, hc, h⟩ := bd1_some h
    refine my_roi (va_Run.run (va_runSN (host := "PartyWill") (As := [.long x1]) (rest := []) hFix (kX1_howManyIn l D T F x1 r1 hc) ⟨va_cnB 1 hts gX3_firstLeaving_X1_howManyIn_n31 rfl rfl rfl (nw_X3_31 hKK.2) q2 hd_X1_howManyIn ⟨(show 1 + 1 ≤ 2 * (d + 1) + 14 by omega), (show 8 + (2 + 11) + 21 ≤ 60 * (d + 1) + 420 by omega)⟩, q1, trivial⟩ (preS_ro va_nil hKK) rfl rfl hl.1 rfl (lv_room (Nat.le_of_ble_eq_true rfl)) dX3_firstLeaving_1 ⟨Nat.zero_le _, Nat.zero_le _⟩)) ?_
    refine lv_iload hx hb dX3_firstLeaving_4 (lv_at hl 3 rfl) ?_
    refine lv_icmp_ge (tgt := 12) hx hb dX3_firstLeaving_6 (by decide) (fun c6 => ?_) (fun c6 => ?_)
    · have h := br_1 h c6
      refine lv_iload_n hx hb dX3_firstLeaving_12 rfl (lv_at hl 2 rfl) ?_
      refine lv_if_gt (tgt := 19) hx hb dX3_firstLeaving_13 (by decide) (fun c13 => ?_) (fun c13 => ?_)
      · have h := br_1 h c13
        refine lv_bipush (v := (-9 : Int32)) hx hb dX3_firstLeaving_19 (by decide) ?_
        refine lv_istore (lv' := [(6, .int (-9 : Int32)), (0, .ref a0), (1, .long x1), (3, .int x3), (4, .int x4), (5, .int x5)]) hx hb dX3_firstLeaving_21 hl (by decide) rfl (fun ls hl => ?_)
        refine lv_iconst (v := (0 : Int32)) hx hb dX3_firstLeaving_23 (by decide) ?_
        refine lv_istore (lv' := [(7, .int (0 : Int32)), (6, .int (-9 : Int32)), (0, .ref a0), (1, .long x1), (3, .int x3), (4, .int x4), (5, .int x5)]) hx hb dX3_firstLeaving_24 hl (by decide) rfl (fun ls hl => ?_)
        exact l26 x1 x3 x4 x5 F (-9 : Int32) (0 : Int32) h _ (lv_sub hl [2, 3, 4, 5, 6, 1, 0] rfl)
      · have h := br_0 h c13
        refine lv_iload hx hb dX3_firstLeaving_16 (lv_at hl 4 rfl) ?_
        cases h
        exact hret _ _ dX3_firstLeaving_18
    · have h := br_0 h c6
      refine lv_bipush (v := (-9 : Int32)) hx hb dX3_firstLeaving_9 (by decide) ?_
      cases h
      exact hret _ _ dX3_firstLeaving_11
  exact key _ (fun pc ls hd => W.iret hx hb hr (fun t ht hW => ⟨_, rfl, rfl, ht⟩) (fun q h => by cases h) hd)
set_option maxHeartbeats 4000000 in
set_option maxRecDepth 100000 in
theorem kX3_mostLeft (l : Launch) (D : va_G) (T : Nat → ClassId) (F : Nat) : ∀ (d : Nat) (a0 : Nat) (a1 : Nat) (a2 : Nat) (a3 : Nat) (a4 : Nat) (a5 : Nat) (size : Int32) (clause : Int32) (eff : Nat → Int32) (kin : Nat → Int32) (gri : Nat → Int32) (sig : Nat → Int32) (see : Nat → Int32) (x1 : Int64) (x3 : Int32) (r : Int32), fX3_mostLeft F size clause eff kin see d x1 x3 = some (r) → Met l yX3_mostLeft wsX3_mostLeft ({ frames := 2 * d + 14, cells := 0, slots := 0, locals := 60 * d + 420 } : Room) (va_Pc [.ref a0, .long x1, .int x3] (fun U => va_P D vwCl (wPa T a0 a1 a2 a3 a4 a5 size clause eff kin gri sig see) U.heap ∧ KK D T U)) (vp_Si (fun r' => r' = r)) 0 0 (fun _ => False) := by
  intro d
  induction d with
  | zero => intro a0 a1 a2 a3 a4 a5 size clause eff kin gri sig see x1 x3 r h; exact none_some h
  | succ d ihd =>
  intro a0 a1 a2 a3 a4 a5 size clause eff kin gri sig see x1 x3 r h
  refine Met.ofW (cc := cX3_mostLeft) (maxL := 6) (ret := some .int) (by decide) rfl ?_
  intro p e s m args below meth c s₁ B hml hv
  obtain ⟨ha, hP, hKK⟩ := hv
  have hx := B.exec
  have hb := B.bytes
  have hr := B.returns
  have hts := atoms_spec (ws := wsX3_mostLeft) B.pre
  have hown : s.vm.findClass RX3 = some m.cls := findClass_of_methodNamed B.named
  have hlocks := B.notSynchronized
  have hK := hKK.1
  have hFix : CallFix p m c cX3_mostLeft 6 s args wsX3_mostLeft RX3 := ⟨hx, hb, hml, hown, hts⟩
  have q1 := hts _ (List.mem_of_getElem? (i := 1) (show wsX3_mostLeft[1]? = some (Cond.methodLink RX3 42 Lib.Math.max.name) from rfl))
  have q2 := hts _ (List.mem_of_getElem? (i := 2) (show wsX3_mostLeft[2]? = some (Cond.static Lib.Math.max.name) from rfl))
  have q3 := hts _ (List.mem_of_getElem? (i := 3) (show wsX3_mostLeft[3]? = some (Cond.initialized "java/lang/Math") from rfl))
  have q4 := hts _ (List.mem_of_getElem? (i := 4) (show wsX3_mostLeft[4]? = some (Cond.code Lib.Math.max.name Lib.Math.max.code 2 (some .int)) from rfl))
  have q5 := hts _ (List.mem_of_getElem? (i := 5) (show wsX3_mostLeft[5]? = some (Cond.static yX1_howManyIn) from rfl))
  have q6 := hts _ (List.mem_of_getElem? (i := 6) (show wsX3_mostLeft[6]? = some (Cond.initialized RX1) from rfl))
  have q18 := hts _ (List.mem_of_getElem? (i := 18) (show wsX3_mostLeft[18]? = some (Cond.instanceMethod yX2_afterTune) from rfl))
  have q19 := hts _ (List.mem_of_getElem? (i := 19) (show wsX3_mostLeft[19]? = some (Cond.initialized RX2) from rfl))
  have q20 := hts _ (List.mem_of_getElem? (i := 20) (show wsX3_mostLeft[20]? = some (Cond.selects RX2 yX2_afterTune yX2_afterTune) from rfl))
  obtain ⟨ls, hl, e0⟩ := my_entry (m := m) (n := 6) ha (Nat.le_of_ble_eq_true rfl)
  rw [e0]
  have hl : lv_has ls 6 [(0, .ref a0), (1, .long x1), (3, .int x3)] := hl
  have key : ∀ Q : State → Prop, (∀ (pc : Nat) (ls : Array Slot), decode cX3_mostLeft pc = .ok (.ireturn, 1) → W p l e ({ frames := 2 * (d + 1) + 14, cells := 0, slots := 0, locals := 60 * (d + 1) + 420 } : Room) s m args below meth c s.heap [] 0 0 Q (F0 m pc ls [.int r])) → W p l e ({ frames := 2 * (d + 1) + 14, cells := 0, slots := 0, locals := 60 * (d + 1) + 420 } : Room) s m args below meth c s.heap [] 0 0 Q (F0 m 0 ls []) := by
    intro Q hret
    have l15 : ∀ x1 : Int64, ∀ x3 : Int32, ∀ nu : Nat, ∀ x4 : Int32, ∀ x5 : Int32, fX3_mostLeft_l15 F (fX3_mostLeft F size clause eff kin see d) size clause eff kin see x1 x3 nu x4 x5 = some (r) → ∀ (ls : Array Slot), lv_has ls 6 [(0, .ref a0), (1, .long x1), (3, .int x3), (4, .int x4), (5, .int x5)] → W p l e ({ frames := 2 * (d + 1) + 14, cells := 0, slots := 0, locals := 60 * (d + 1) + 420 } : Room) s m args below meth c s.heap [] 0 0 Q (F0 m 15 ls []) := by
      intro x1 x3
      intro nu
      induction nu with
      | zero => intro x4 x5 h; exact none_some h
      | succ nu15 ih15 =>
        intro x4 x5 h ls hl
        have h : fX3_mostLeft_l15_b F (fX3_mostLeft F size clause eff kin see d) size clause eff kin see x1 x3 (fX3_mostLeft_l15 F (fX3_mostLeft F size clause eff kin see d) size clause eff kin see x1 x3 nu15) x4 x5 = some (r) := h
        unfold fX3_mostLeft_l15_b at h
        refine lv_iload hx hb dX3_mostLeft_15 (lv_at hl 4 rfl) ?_
        refine lv_iconst (v := (4 : Int32)) hx hb dX3_mostLeft_17 (by decide) ?_
        refine lv_icmp_ge (tgt := 57) hx hb dX3_mostLeft_18 (by decide) (fun c18 => ?_) (fun c18 => ?_)
        · have h := br_1 h c18
          refine lv_iload hx hb dX3_mostLeft_57 (lv_at hl 3 rfl) ?_
          cases h
          exact hret _ _ dX3_mostLeft_59
        · have h := br_0 h c18
          refine lv_iload hx hb dX3_mostLeft_21 (lv_at hl 3 rfl) ?_
          refine lv_lload_n hx hb dX3_mostLeft_23 rfl (lv_at hl 1 rfl) ?_
          obtain ⟨r24, hc, h⟩ := bd1_some h
          refine my_roi (va_Run.run (va_runSN (host := "PartyWill") (As := [.long x1]) (rest := [.int x4]) hFix (kX1_howManyIn l D T F x1 r24 hc) ⟨va_cnB 1 hts gX3_mostLeft_X1_howManyIn_n31 rfl rfl rfl (nw_X3_31 hKK.2) q6 hd_X1_howManyIn ⟨(show 1 + 1 ≤ 2 * (d + 1) + 14 by omega), (show 8 + (2 + 11) + 21 ≤ 60 * (d + 1) + 420 by omega)⟩, q5, trivial⟩ (preS_ro va_nil hKK) rfl rfl hl.1 rfl (lv_room (Nat.le_of_ble_eq_true rfl)) dX3_mostLeft_24 ⟨Nat.zero_le _, Nat.zero_le _⟩)) ?_
          refine lv_icmp_ge (tgt := 57) hx hb dX3_mostLeft_27 (by decide) (fun c27 => ?_) (fun c27 => ?_)
          · have h := br_1 h c27
            refine lv_iload hx hb dX3_mostLeft_57 (lv_at hl 3 rfl) ?_
            cases h
            exact hret _ _ dX3_mostLeft_59
          · have h := br_0 h c27
            refine lv_iload hx hb dX3_mostLeft_30 (lv_at hl 3 rfl) ?_
            refine lv_aload_n hx hb dX3_mostLeft_32 rfl (lv_at hl 0 rfl) ?_
            refine lv_aload_n hx hb dX3_mostLeft_33 rfl (lv_at hl 0 rfl) ?_
            refine lv_lload_n hx hb dX3_mostLeft_34 rfl (lv_at hl 1 rfl) ?_
            refine lv_iload hx hb dX3_mostLeft_35 (lv_at hl 4 rfl) ?_
            obtain ⟨r37, hc, h⟩ := bd1_some h
            refine my_rol (va_Run.run (va_runVN (host := "PartyWill") (As := [.long x1, .int x5]) (rest := [.ref a0, .int x4]) hFix (kX2_afterTune l D T F a0 a1 a2 a3 a4 a5 size clause eff kin gri sig see x1 x5 r37 hc) ⟨va_cnB 2 hts gX3_mostLeft_X2_afterTune_n15 rfl rfl rfl (nw_X3_15 hKK.2) q19 hd_X2_afterTune ⟨(show 3 + 1 ≤ 2 * (d + 1) + 14 by omega), (show 8 + (8 + 11) + 75 ≤ 60 * (d + 1) + 420 by omega)⟩, q18, q20⟩ (preV_ro hP hKK (va_recv hK hP (ci := 1) (q0 := 0) rfl wPa_0)) rfl rfl hl.1 rfl (lv_room (Nat.le_of_ble_eq_true rfl)) dX3_mostLeft_37 ⟨Nat.zero_le _, Nat.zero_le _⟩)) ?_
            refine lv_iload_n hx hb dX3_mostLeft_40 rfl (lv_at hl 2 rfl) ?_
            refine lv_iconst (v := (1 : Int32)) hx hb dX3_mostLeft_41 (by decide) ?_
            refine lv_isub hx hb dX3_mostLeft_42 ?_
            obtain ⟨r43, hc, h⟩ := bd1_some h
            refine my_roi (va_Run.run (va_runS (As := [.ref a0, .long r37, .int (x3 - (1 : Int32))]) (rest := [.int x4]) hFix (ihd a0 a1 a2 a3 a4 a5 size clause eff kin gri sig see r37 (x3 - (1 : Int32)) r43 hc) (va_cwS 3 hts gX3_mostLeft_X3_mostLeft rfl rfl rfl hd_X3_mostLeft ⟨(show 2 * d + 14 + 1 ≤ 2 * (d + 1) + 14 by omega), (show 8 + (6 + 11) + (60 * d + 420) ≤ 60 * (d + 1) + 420 by omega)⟩) (preS_ro hP hKK) rfl rfl hl.1 rfl (lv_room (Nat.le_of_ble_eq_true rfl)) dX3_mostLeft_43 ⟨Nat.zero_le _, Nat.zero_le _⟩)) ?_
            refine va_mmax hx hb (hml.trans hl.1.symm) hown q1 q2 q3 q4 (show 1 ≤ 2 * (d + 1) + 14 by omega) (Nat.le_trans (Nat.le_of_ble_eq_true rfl : _ ≤ 30) (show 30 ≤ 60 * (d + 1) + 420 by omega)) (Nat.zero_le _) (Nat.zero_le _) dX3_mostLeft_46 ?_
            refine lv_istore (lv' := [(4, .int (if x4 < r43 then r43 else x4)), (0, .ref a0), (1, .long x1), (3, .int x3), (5, .int x5)]) hx hb dX3_mostLeft_49 hl (by decide) rfl (fun ls hl => ?_)
            refine lv_iinc (v := (x5 + (1 : Int32))) (lv' := [(5, .int (x5 + (1 : Int32))), (4, .int (if x4 < r43 then r43 else x4)), (0, .ref a0), (1, .long x1), (3, .int x3)]) hx hb dX3_mostLeft_51 hl (k := 4) rfl rfl (by decide) rfl (fun ls hl => ?_)
            refine lv_goto (tgt := 15) hx hb dX3_mostLeft_54 (by decide) ?_
            exact ih15 (if x4 < r43 then r43 else x4) (x5 + (1 : Int32)) h _ (lv_sub hl [2, 3, 4, 1, 0] rfl)
    have h : fX3_mostLeft_b F size clause eff kin see (fX3_mostLeft F size clause eff kin see d) x1 x3 = some (r) := h
    unfold fX3_mostLeft_b at h
    refine lv_iload_n hx hb dX3_mostLeft_0 rfl (lv_at hl 2 rfl) ?_
    refine lv_if_gt (tgt := 9) hx hb dX3_mostLeft_1 (by decide) (fun c1 => ?_) (fun c1 => ?_)
    · have h := br_1 h c1
      refine lv_iconst (v := (0 : Int32)) hx hb dX3_mostLeft_9 (by decide) ?_
      refine lv_istore (lv' := [(4, .int (0 : Int32)), (0, .ref a0), (1, .long x1), (3, .int x3)]) hx hb dX3_mostLeft_10 hl (by decide) rfl (fun ls hl => ?_)
      refine lv_iconst (v := (0 : Int32)) hx hb dX3_mostLeft_12 (by decide) ?_
      refine lv_istore (lv' := [(5, .int (0 : Int32)), (4, .int (0 : Int32)), (0, .ref a0), (1, .long x1), (3, .int x3)]) hx hb dX3_mostLeft_13 hl (by decide) rfl (fun ls hl => ?_)
      exact l15 x1 x3 F (0 : Int32) (0 : Int32) h _ (lv_sub hl [2, 3, 4, 1, 0] rfl)
    · have h := br_0 h c1
      refine lv_lload_n hx hb dX3_mostLeft_4 rfl (lv_at hl 1 rfl) ?_
      obtain ⟨r5, hc, h⟩ := bd1_some h
      refine my_roi (va_Run.run (va_runSN (host := "PartyWill") (As := [.long x1]) (rest := []) hFix (kX1_howManyIn l D T F x1 r5 hc) ⟨va_cnB 1 hts gX3_mostLeft_X1_howManyIn_n31 rfl rfl rfl (nw_X3_31 hKK.2) q6 hd_X1_howManyIn ⟨(show 1 + 1 ≤ 2 * (d + 1) + 14 by omega), (show 8 + (2 + 11) + 21 ≤ 60 * (d + 1) + 420 by omega)⟩, q5, trivial⟩ (preS_ro va_nil hKK) rfl rfl hl.1 rfl (lv_room (Nat.le_of_ble_eq_true rfl)) dX3_mostLeft_5 ⟨Nat.zero_le _, Nat.zero_le _⟩)) ?_
      cases h
      exact hret _ _ dX3_mostLeft_8
  exact key _ (fun pc ls hd => W.iret hx hb hr (fun t ht hW => ⟨_, rfl, rfl, ht⟩) (fun q h => by cases h) hd)
set_option maxHeartbeats 4000000 in
set_option maxRecDepth 100000 in
theorem kX3_leftByAll (l : Launch) (D : va_G) (T : Nat → ClassId) (F : Nat) : ∀ (d : Nat) (a0 : Nat) (a1 : Nat) (a2 : Nat) (a3 : Nat) (a4 : Nat) (a5 : Nat) (size : Int32) (clause : Int32) (eff : Nat → Int32) (kin : Nat → Int32) (gri : Nat → Int32) (sig : Nat → Int32) (see : Nat → Int32) (x1 : Int64) (x3 : Int32) (r : Int64), fX3_leftByAll F size clause eff kin see d x1 x3 = some (r) → Met l yX3_leftByAll wsX3_leftByAll ({ frames := 2 * d + 14, cells := 0, slots := 0, locals := 60 * d + 420 } : Room) (va_Pc [.ref a0, .long x1, .int x3] (fun U => va_P D vwCl (wPa T a0 a1 a2 a3 a4 a5 size clause eff kin gri sig see) U.heap ∧ KK D T U)) (vp_Sl (fun r' => r' = r)) 0 0 (fun _ => False) := by
  intro d
  induction d with
  | zero => intro a0 a1 a2 a3 a4 a5 size clause eff kin gri sig see x1 x3 r h; exact none_some h
  | succ d ihd =>
  intro a0 a1 a2 a3 a4 a5 size clause eff kin gri sig see x1 x3 r h
  refine Met.ofW (cc := cX3_leftByAll) (maxL := 7) (ret := some .long) (by decide) rfl ?_
  intro p e s m args below meth c s₁ B hml hv
  obtain ⟨ha, hP, hKK⟩ := hv
  have hx := B.exec
  have hb := B.bytes
  have hr := B.returns
  have hts := atoms_spec (ws := wsX3_leftByAll) B.pre
  have hown : s.vm.findClass RX3 = some m.cls := findClass_of_methodNamed B.named
  have hlocks := B.notSynchronized
  have hK := hKK.1
  have hFix : CallFix p m c cX3_leftByAll 7 s args wsX3_leftByAll RX3 := ⟨hx, hb, hml, hown, hts⟩
  have q1 := hts _ (List.mem_of_getElem? (i := 1) (show wsX3_leftByAll[1]? = some (Cond.static yX1_howManyIn) from rfl))
  have q2 := hts _ (List.mem_of_getElem? (i := 2) (show wsX3_leftByAll[2]? = some (Cond.initialized RX1) from rfl))
  have q14 := hts _ (List.mem_of_getElem? (i := 14) (show wsX3_leftByAll[14]? = some (Cond.instanceMethod yX2_afterTune) from rfl))
  have q15 := hts _ (List.mem_of_getElem? (i := 15) (show wsX3_leftByAll[15]? = some (Cond.initialized RX2) from rfl))
  have q16 := hts _ (List.mem_of_getElem? (i := 16) (show wsX3_leftByAll[16]? = some (Cond.selects RX2 yX2_afterTune yX2_afterTune) from rfl))
  obtain ⟨ls, hl, e0⟩ := my_entry (m := m) (n := 7) ha (Nat.le_of_ble_eq_true rfl)
  rw [e0]
  have hl : lv_has ls 7 [(0, .ref a0), (1, .long x1), (3, .int x3)] := hl
  have key : ∀ Q : State → Prop, (∀ (pc : Nat) (ls : Array Slot), decode cX3_leftByAll pc = .ok (.lreturn, 1) → W p l e ({ frames := 2 * (d + 1) + 14, cells := 0, slots := 0, locals := 60 * (d + 1) + 420 } : Room) s m args below meth c s.heap [] 0 0 Q (F0 m pc ls [.long r])) → W p l e ({ frames := 2 * (d + 1) + 14, cells := 0, slots := 0, locals := 60 * (d + 1) + 420 } : Room) s m args below meth c s.heap [] 0 0 Q (F0 m 0 ls []) := by
    intro Q hret
    have l16 : ∀ x1 : Int64, ∀ x3 : Int32, ∀ nu : Nat, ∀ x4 : Int64, ∀ x6 : Int32, fX3_leftByAll_l16 F (fX3_leftByAll F size clause eff kin see d) size clause eff kin see x1 x3 nu x4 x6 = some (r) → ∀ (ls : Array Slot), lv_has ls 7 [(0, .ref a0), (1, .long x1), (3, .int x3), (4, .long x4), (6, .int x6)] → W p l e ({ frames := 2 * (d + 1) + 14, cells := 0, slots := 0, locals := 60 * (d + 1) + 420 } : Room) s m args below meth c s.heap [] 0 0 Q (F0 m 16 ls []) := by
      intro x1 x3
      intro nu
      induction nu with
      | zero => intro x4 x6 h; exact none_some h
      | succ nu16 ih16 =>
        intro x4 x6 h ls hl
        have h : fX3_leftByAll_l16_b F (fX3_leftByAll F size clause eff kin see d) size clause eff kin see x1 x3 (fX3_leftByAll_l16 F (fX3_leftByAll F size clause eff kin see d) size clause eff kin see x1 x3 nu16) x4 x6 = some (r) := h
        unfold fX3_leftByAll_l16_b at h
        refine lv_iload hx hb dX3_leftByAll_16 (lv_at hl 4 rfl) ?_
        refine lv_iconst (v := (4 : Int32)) hx hb dX3_leftByAll_18 (by decide) ?_
        refine lv_icmp_ge (tgt := 47) hx hb dX3_leftByAll_19 (by decide) (fun c19 => ?_) (fun c19 => ?_)
        · have h := br_1 h c19
          refine lv_lload hx hb dX3_leftByAll_47 (lv_at hl 3 rfl) ?_
          cases h
          exact hret _ _ dX3_leftByAll_49
        · have h := br_0 h c19
          refine lv_lload hx hb dX3_leftByAll_22 (lv_at hl 3 rfl) ?_
          refine lv_aload_n hx hb dX3_leftByAll_24 rfl (lv_at hl 0 rfl) ?_
          refine lv_aload_n hx hb dX3_leftByAll_25 rfl (lv_at hl 0 rfl) ?_
          refine lv_lload_n hx hb dX3_leftByAll_26 rfl (lv_at hl 1 rfl) ?_
          refine lv_iload hx hb dX3_leftByAll_27 (lv_at hl 4 rfl) ?_
          obtain ⟨r29, hc, h⟩ := bd1_some h
          refine my_rol (va_Run.run (va_runVN (host := "PartyWill") (As := [.long x1, .int x6]) (rest := [.ref a0, .long x4]) hFix (kX2_afterTune l D T F a0 a1 a2 a3 a4 a5 size clause eff kin gri sig see x1 x6 r29 hc) ⟨va_cnB 2 hts gX3_leftByAll_X2_afterTune_n15 rfl rfl rfl (nw_X3_15 hKK.2) q15 hd_X2_afterTune ⟨(show 3 + 1 ≤ 2 * (d + 1) + 14 by omega), (show 8 + (8 + 11) + 75 ≤ 60 * (d + 1) + 420 by omega)⟩, q14, q16⟩ (preV_ro hP hKK (va_recv hK hP (ci := 1) (q0 := 0) rfl wPa_0)) rfl rfl hl.1 rfl (lv_room (Nat.le_of_ble_eq_true rfl)) dX3_leftByAll_29 ⟨Nat.zero_le _, Nat.zero_le _⟩)) ?_
          refine lv_iload_n hx hb dX3_leftByAll_32 rfl (lv_at hl 2 rfl) ?_
          refine lv_iconst (v := (1 : Int32)) hx hb dX3_leftByAll_33 (by decide) ?_
          refine lv_isub hx hb dX3_leftByAll_34 ?_
          obtain ⟨r35, hc, h⟩ := bd1_some h
          refine my_rol (va_Run.run (va_runS (As := [.ref a0, .long r29, .int (x3 - (1 : Int32))]) (rest := [.long x4]) hFix (ihd a0 a1 a2 a3 a4 a5 size clause eff kin gri sig see r29 (x3 - (1 : Int32)) r35 hc) (va_cwS 3 hts gX3_leftByAll_X3_leftByAll rfl rfl rfl hd_X3_leftByAll ⟨(show 2 * d + 14 + 1 ≤ 2 * (d + 1) + 14 by omega), (show 8 + (7 + 11) + (60 * d + 420) ≤ 60 * (d + 1) + 420 by omega)⟩) (preS_ro hP hKK) rfl rfl hl.1 rfl (lv_room (Nat.le_of_ble_eq_true rfl)) dX3_leftByAll_35 ⟨Nat.zero_le _, Nat.zero_le _⟩)) ?_
          refine lv_ladd hx hb dX3_leftByAll_38 ?_
          refine lv_lstore (lv' := [(4, .long (x4 + r35)), (0, .ref a0), (1, .long x1), (3, .int x3), (6, .int x6)]) hx hb dX3_leftByAll_39 hl (by decide) rfl (fun ls hl => ?_)
          refine lv_iinc (v := (x6 + (1 : Int32))) (lv' := [(6, .int (x6 + (1 : Int32))), (4, .long (x4 + r35)), (0, .ref a0), (1, .long x1), (3, .int x3)]) hx hb dX3_leftByAll_41 hl (k := 4) rfl rfl (by decide) rfl (fun ls hl => ?_)
          refine lv_goto (tgt := 16) hx hb dX3_leftByAll_44 (by decide) ?_
          exact ih16 (x4 + r35) (x6 + (1 : Int32)) h _ (lv_sub hl [2, 3, 4, 1, 0] rfl)
    have h : fX3_leftByAll_b F size clause eff kin see (fX3_leftByAll F size clause eff kin see d) x1 x3 = some (r) := h
    unfold fX3_leftByAll_b at h
    refine lv_iload_n hx hb dX3_leftByAll_0 rfl (lv_at hl 2 rfl) ?_
    refine lv_if_gt (tgt := 10) hx hb dX3_leftByAll_1 (by decide) (fun c1 => ?_) (fun c1 => ?_)
    · have h := br_1 h c1
      refine lv_lconst (v := (0 : Int64)) hx hb dX3_leftByAll_10 (by decide) ?_
      refine lv_lstore (lv' := [(4, .long (0 : Int64)), (0, .ref a0), (1, .long x1), (3, .int x3)]) hx hb dX3_leftByAll_11 hl (by decide) rfl (fun ls hl => ?_)
      refine lv_iconst (v := (0 : Int32)) hx hb dX3_leftByAll_13 (by decide) ?_
      refine lv_istore (lv' := [(6, .int (0 : Int32)), (4, .long (0 : Int64)), (0, .ref a0), (1, .long x1), (3, .int x3)]) hx hb dX3_leftByAll_14 hl (by decide) rfl (fun ls hl => ?_)
      exact l16 x1 x3 F (0 : Int64) (0 : Int32) h _ (lv_sub hl [2, 3, 4, 1, 0] rfl)
    · have h := br_0 h c1
      refine lv_lload_n hx hb dX3_leftByAll_4 rfl (lv_at hl 1 rfl) ?_
      obtain ⟨r5, hc, h⟩ := bd1_some h
      refine my_roi (va_Run.run (va_runSN (host := "PartyWill") (As := [.long x1]) (rest := []) hFix (kX1_howManyIn l D T F x1 r5 hc) ⟨va_cnB 1 hts gX3_leftByAll_X1_howManyIn_n31 rfl rfl rfl (nw_X3_31 hKK.2) q2 hd_X1_howManyIn ⟨(show 1 + 1 ≤ 2 * (d + 1) + 14 by omega), (show 8 + (2 + 11) + 21 ≤ 60 * (d + 1) + 420 by omega)⟩, q1, trivial⟩ (preS_ro va_nil hKK) rfl rfl hl.1 rfl (lv_room (Nat.le_of_ble_eq_true rfl)) dX3_leftByAll_5 ⟨Nat.zero_le _, Nat.zero_le _⟩)) ?_
      refine lv_i2l (v := (r5.toInt64)) hx hb dX3_leftByAll_8 rfl ?_
      cases h
      exact hret _ _ dX3_leftByAll_9
  exact key _ (fun pc ls hd => W.lret hx hb hr (fun t ht hW => ⟨_, rfl, rfl, ht⟩) (fun q h => by cases h) hd)
set_option maxHeartbeats 4000000 in
set_option maxRecDepth 100000 in
theorem kX3_canCheerAll (l : Launch) (D : va_G) (T : Nat → ClassId) (F : Nat) : ∀ (d : Nat) (a0 : Nat) (a1 : Nat) (a2 : Nat) (a3 : Nat) (a4 : Nat) (a5 : Nat) (size : Int32) (clause : Int32) (eff : Nat → Int32) (kin : Nat → Int32) (gri : Nat → Int32) (sig : Nat → Int32) (see : Nat → Int32) (x1 : Int64) (x3 : Int32) (r : Int32), fX3_canCheerAll F size clause eff kin see d x1 x3 = some (r) → Met l yX3_canCheerAll wsX3_canCheerAll ({ frames := 2 * d + 14, cells := 0, slots := 0, locals := 60 * d + 420 } : Room) (va_Pc [.ref a0, .long x1, .int x3] (fun U => va_P D vwCl (wPa T a0 a1 a2 a3 a4 a5 size clause eff kin gri sig see) U.heap ∧ KK D T U)) (vp_Si (fun r' => r' = r ∧ b01 r)) 0 0 (fun _ => False) := by
  intro d
  induction d with
  | zero => intro a0 a1 a2 a3 a4 a5 size clause eff kin gri sig see x1 x3 r h; exact none_some h
  | succ d ihd =>
  intro a0 a1 a2 a3 a4 a5 size clause eff kin gri sig see x1 x3 r h
  refine Met.ofW (cc := cX3_canCheerAll) (maxL := 7) (ret := some .boolean) (by decide) rfl ?_
  intro p e s m args below meth c s₁ B hml hv
  obtain ⟨ha, hP, hKK⟩ := hv
  have hx := B.exec
  have hb := B.bytes
  have hr := B.returns
  have hts := atoms_spec (ws := wsX3_canCheerAll) B.pre
  have hown : s.vm.findClass RX3 = some m.cls := findClass_of_methodNamed B.named
  have hlocks := B.notSynchronized
  have hK := hKK.1
  have hFix : CallFix p m c cX3_canCheerAll 7 s args wsX3_canCheerAll RX3 := ⟨hx, hb, hml, hown, hts⟩
  have q1 := hts _ (List.mem_of_getElem? (i := 1) (show wsX3_canCheerAll[1]? = some (Cond.static yX1_griefOfAll) from rfl))
  have q2 := hts _ (List.mem_of_getElem? (i := 2) (show wsX3_canCheerAll[2]? = some (Cond.initialized RX1) from rfl))
  have q8 := hts _ (List.mem_of_getElem? (i := 8) (show wsX3_canCheerAll[8]? = some (Cond.instanceMethod yX2_afterTune) from rfl))
  have q9 := hts _ (List.mem_of_getElem? (i := 9) (show wsX3_canCheerAll[9]? = some (Cond.initialized RX2) from rfl))
  have q10 := hts _ (List.mem_of_getElem? (i := 10) (show wsX3_canCheerAll[10]? = some (Cond.selects RX2 yX2_afterTune yX2_afterTune) from rfl))
  have q44 := hts _ (List.mem_of_getElem? (i := 44) (show wsX3_canCheerAll[44]? = some (Cond.static yX1_insiders) from rfl))
  obtain ⟨ls, hl, e0⟩ := my_entry (m := m) (n := 7) ha (Nat.le_of_ble_eq_true rfl)
  rw [e0]
  have hl : lv_has ls 7 [(0, .ref a0), (1, .long x1), (3, .int x3)] := hl
  have key : ∀ Q : State → Prop, (∀ (pc : Nat) (ls : Array Slot), decode cX3_canCheerAll pc = .ok (.ireturn, 1) → b01 r → W p l e ({ frames := 2 * (d + 1) + 14, cells := 0, slots := 0, locals := 60 * (d + 1) + 420 } : Room) s m args below meth c s.heap [] 0 0 Q (F0 m pc ls [.int r])) → W p l e ({ frames := 2 * (d + 1) + 14, cells := 0, slots := 0, locals := 60 * (d + 1) + 420 } : Room) s m args below meth c s.heap [] 0 0 Q (F0 m 0 ls []) := by
    intro Q hret
    have l20 : ∀ x1 : Int64, ∀ x3 : Int32, ∀ nu : Nat, ∀ x4 : Int32, fX3_canCheerAll_l20 F (fX3_canCheerAll F size clause eff kin see d) size clause eff kin see x1 x3 nu x4 = some (r) → ∀ (ls : Array Slot), lv_has ls 7 [(0, .ref a0), (1, .long x1), (3, .int x3), (4, .int x4)] → W p l e ({ frames := 2 * (d + 1) + 14, cells := 0, slots := 0, locals := 60 * (d + 1) + 420 } : Room) s m args below meth c s.heap [] 0 0 Q (F0 m 20 ls []) := by
      intro x1 x3
      intro nu
      induction nu with
      | zero => intro x4 h; exact none_some h
      | succ nu20 ih20 =>
        intro x4 h ls hl
        have h : fX3_canCheerAll_l20_b F (fX3_canCheerAll F size clause eff kin see d) size clause eff kin see x1 x3 (fX3_canCheerAll_l20 F (fX3_canCheerAll F size clause eff kin see d) size clause eff kin see x1 x3 nu20) x4 = some (r) := h
        unfold fX3_canCheerAll_l20_b at h
        refine lv_iload hx hb dX3_canCheerAll_20 (lv_at hl 3 rfl) ?_
        refine lv_iconst (v := (4 : Int32)) hx hb dX3_canCheerAll_22 (by decide) ?_
        refine lv_icmp_ge (tgt := 67) hx hb dX3_canCheerAll_23 (by decide) (fun c23 => ?_) (fun c23 => ?_)
        · have h := br_1 h c23
          refine lv_iconst (v := (0 : Int32)) hx hb dX3_canCheerAll_67 (by decide) ?_
          cases h
          exact hret _ _ dX3_canCheerAll_68 (Or.inl rfl)
        · have h := br_0 h c23
          refine lv_aload_n hx hb dX3_canCheerAll_26 rfl (lv_at hl 0 rfl) ?_
          refine lv_lload_n hx hb dX3_canCheerAll_27 rfl (lv_at hl 1 rfl) ?_
          refine lv_iload hx hb dX3_canCheerAll_28 (lv_at hl 3 rfl) ?_
          obtain ⟨r30, hc, h⟩ := bd1_some h
          refine my_rol (va_Run.run (va_runVN (host := "PartyWill") (As := [.long x1, .int x4]) (rest := []) hFix (kX2_afterTune l D T F a0 a1 a2 a3 a4 a5 size clause eff kin gri sig see x1 x4 r30 hc) ⟨va_cnB 2 hts gX3_canCheerAll_X2_afterTune_n15 rfl rfl rfl (nw_X3_15 hKK.2) q9 hd_X2_afterTune ⟨(show 3 + 1 ≤ 2 * (d + 1) + 14 by omega), (show 8 + (8 + 11) + 75 ≤ 60 * (d + 1) + 420 by omega)⟩, q8, q10⟩ (preV_ro hP hKK (va_recv hK hP (ci := 1) (q0 := 0) rfl wPa_0)) rfl rfl hl.1 rfl (lv_room (Nat.le_of_ble_eq_true rfl)) dX3_canCheerAll_30 ⟨Nat.zero_le _, Nat.zero_le _⟩)) ?_
          refine lv_lstore (lv' := [(5, .long r30), (0, .ref a0), (1, .long x1), (3, .int x3), (4, .int x4)]) hx hb dX3_canCheerAll_33 hl (by decide) rfl (fun ls hl => ?_)
          refine lv_lload hx hb dX3_canCheerAll_35 (lv_at hl 0 rfl) ?_
          obtain ⟨r37, hc, h⟩ := bd1_some h
          refine my_roi (va_Run.run (va_runSN (host := "PartyWill") (As := [.long r30]) (rest := []) hFix (kX1_insiders l D T F r30 r37 hc) ⟨va_cnB 1 hts gX3_canCheerAll_X1_insiders_n21 rfl rfl rfl (nw_X3_21 hKK.2) q2 hd_X1_insiders ⟨(show 0 + 1 ≤ 2 * (d + 1) + 14 by omega), (show 8 + (2 + 11) + 0 ≤ 60 * (d + 1) + 420 by omega)⟩, q44, trivial⟩ (preS_ro va_nil hKK) rfl rfl hl.1 rfl (lv_room (Nat.le_of_ble_eq_true rfl)) dX3_canCheerAll_37 ⟨Nat.zero_le _, Nat.zero_le _⟩)) ?_
          refine lv_lload_n hx hb dX3_canCheerAll_40 rfl (lv_at hl 2 rfl) ?_
          obtain ⟨r41, hc, h⟩ := bd1_some h
          refine my_roi (va_Run.run (va_runSN (host := "PartyWill") (As := [.long x1]) (rest := [.int r37]) hFix (kX1_insiders l D T F x1 r41 hc) ⟨va_cnB 1 hts gX3_canCheerAll_X1_insiders_n21 rfl rfl rfl (nw_X3_21 hKK.2) q2 hd_X1_insiders ⟨(show 0 + 1 ≤ 2 * (d + 1) + 14 by omega), (show 8 + (2 + 11) + 0 ≤ 60 * (d + 1) + 420 by omega)⟩, q44, trivial⟩ (preS_ro va_nil hKK) rfl rfl hl.1 rfl (lv_room (Nat.le_of_ble_eq_true rfl)) dX3_canCheerAll_41 ⟨Nat.zero_le _, Nat.zero_le _⟩)) ?_
          refine lv_icmp_ne (tgt := 61) hx hb dX3_canCheerAll_44 (by decide) (fun c44 => ?_) (fun c44 => ?_)
          · have h := br_0 h c44
            refine lv_iinc (v := (x4 + (1 : Int32))) (lv' := [(4, .int (x4 + (1 : Int32))), (5, .long r30), (0, .ref a0), (1, .long x1), (3, .int x3)]) hx hb dX3_canCheerAll_61 hl (k := 4) rfl rfl (by decide) rfl (fun ls hl => ?_)
            refine lv_goto (tgt := 20) hx hb dX3_canCheerAll_64 (by decide) ?_
            exact ih20 (x4 + (1 : Int32)) h _ (lv_sub hl [2, 3, 4, 0] rfl)
          · have h := br_1 h c44
            refine lv_aload_n hx hb dX3_canCheerAll_47 rfl (lv_at hl 1 rfl) ?_
            refine lv_lload hx hb dX3_canCheerAll_48 (lv_at hl 0 rfl) ?_
            refine lv_iload_n hx hb dX3_canCheerAll_50 rfl (lv_at hl 3 rfl) ?_
            refine lv_iconst (v := (1 : Int32)) hx hb dX3_canCheerAll_51 (by decide) ?_
            refine lv_isub hx hb dX3_canCheerAll_52 ?_
            obtain ⟨r53, hc, h⟩ := bd1_some h
            refine my_roz (va_Run.run (va_runS (As := [.ref a0, .long r30, .int (x3 - (1 : Int32))]) (rest := []) hFix (ihd a0 a1 a2 a3 a4 a5 size clause eff kin gri sig see r30 (x3 - (1 : Int32)) r53 hc) (va_cwS 3 hts gX3_canCheerAll_X3_canCheerAll rfl rfl rfl hd_X3_canCheerAll ⟨(show 2 * d + 14 + 1 ≤ 2 * (d + 1) + 14 by omega), (show 8 + (7 + 11) + (60 * d + 420) ≤ 60 * (d + 1) + 420 by omega)⟩) (preS_ro hP hKK) rfl rfl hl.1 rfl (lv_room (Nat.le_of_ble_eq_true rfl)) dX3_canCheerAll_53 ⟨Nat.zero_le _, Nat.zero_le _⟩)) (fun hb53 => ?_)
            refine lv_if_eq (tgt := 61) hx hb dX3_canCheerAll_56 (by decide) (fun c56 => ?_) (fun c56 => ?_)
            · have h := br_1 h c56
              refine lv_iinc (v := (x4 + (1 : Int32))) (lv' := [(4, .int (x4 + (1 : Int32))), (5, .long r30), (0, .ref a0), (1, .long x1), (3, .int x3)]) hx hb dX3_canCheerAll_61 hl (k := 4) rfl rfl (by decide) rfl (fun ls hl => ?_)
              refine lv_goto (tgt := 20) hx hb dX3_canCheerAll_64 (by decide) ?_
              exact ih20 (x4 + (1 : Int32)) h _ (lv_sub hl [2, 3, 4, 0] rfl)
            · have h := br_0 h c56
              refine lv_iconst (v := (1 : Int32)) hx hb dX3_canCheerAll_59 (by decide) ?_
              cases h
              exact hret _ _ dX3_canCheerAll_60 (Or.inr rfl)
    have h : fX3_canCheerAll_b F size clause eff kin see (fX3_canCheerAll F size clause eff kin see d) x1 x3 = some (r) := h
    unfold fX3_canCheerAll_b at h
    refine lv_iload_n hx hb dX3_canCheerAll_0 rfl (lv_at hl 2 rfl) ?_
    refine lv_if_gt (tgt := 17) hx hb dX3_canCheerAll_1 (by decide) (fun c1 => ?_) (fun c1 => ?_)
    · have h := br_1 h c1
      refine lv_iconst (v := (0 : Int32)) hx hb dX3_canCheerAll_17 (by decide) ?_
      refine lv_istore (lv' := [(4, .int (0 : Int32)), (0, .ref a0), (1, .long x1), (3, .int x3)]) hx hb dX3_canCheerAll_18 hl (by decide) rfl (fun ls hl => ?_)
      exact l20 x1 x3 F (0 : Int32) h _ (lv_sub hl [1, 2, 3, 0] rfl)
    · have h := br_0 h c1
      refine lv_lload_n hx hb dX3_canCheerAll_4 rfl (lv_at hl 1 rfl) ?_
      obtain ⟨r5, hc, h⟩ := bd1_some h
      refine my_roi (va_Run.run (va_runSN (host := "PartyWill") (As := [.long x1]) (rest := []) hFix (kX1_griefOfAll l D T F x1 r5 hc) ⟨va_cnB 1 hts gX3_canCheerAll_X1_griefOfAll_n51 rfl rfl rfl (nw_X3_51 hKK.2) q2 hd_X1_griefOfAll ⟨(show 1 + 1 ≤ 2 * (d + 1) + 14 by omega), (show 8 + (4 + 11) + 22 ≤ 60 * (d + 1) + 420 by omega)⟩, q1, trivial⟩ (preS_ro va_nil hKK) rfl rfl hl.1 rfl (lv_room (Nat.le_of_ble_eq_true rfl)) dX3_canCheerAll_5 ⟨Nat.zero_le _, Nat.zero_le _⟩)) ?_
      refine lv_if_ne (tgt := 15) hx hb dX3_canCheerAll_8 (by decide) (fun c8 => ?_) (fun c8 => ?_)
      · have h := br_0 h c8
        refine lv_iconst (v := (0 : Int32)) hx hb dX3_canCheerAll_15 (by decide) ?_
        cases h
        exact hret _ _ dX3_canCheerAll_16 (Or.inl rfl)
      · have h := br_1 h c8
        refine lv_iconst (v := (1 : Int32)) hx hb dX3_canCheerAll_11 (by decide) ?_
        refine lv_goto (tgt := 16) hx hb dX3_canCheerAll_12 (by decide) ?_
        cases h
        exact hret _ _ dX3_canCheerAll_16 (Or.inr rfl)
  exact key _ (fun pc ls hd hb1 => W.zret hx hb hr (b01_n hb1) (fun t ht hW => ⟨_, rfl, ⟨rfl, hb1⟩, ht⟩) (fun q h => by cases h) hd)
set_option maxHeartbeats 4000000 in
set_option maxRecDepth 100000 in
theorem kX3_leftAtAuntsTurn_o (l : Launch) (D : va_G) (T : Nat → ClassId) (F : Nat) (d : Nat) (rec : Int64 → Int32 → Option (Int32)) (size : Int32) (clause : Int32) (eff : Nat → Int32) (kin : Nat → Int32) (gri : Nat → Int32) (sig : Nat → Int32) (see : Nat → Int32) (ihd : ∀ (a0 : Nat) (a1 : Nat) (a2 : Nat) (a3 : Nat) (a4 : Nat) (a5 : Nat) (x1 : Int64) (x3 : Int32) (r : Int32), rec x1 x3 = some (r) → Met l yX3_leftAtBandsTurn wsX3_leftAtBandsTurn ({ frames := 2 * d + 14, cells := 0, slots := 0, locals := 60 * d + 420 } : Room) (va_Pc [.ref a0, .long x1, .int x3] (fun U => va_P D vwCl (wPa T a0 a1 a2 a3 a4 a5 size clause eff kin gri sig see) U.heap ∧ KK D T U)) (vp_Si (fun r' => r' = r)) 0 0 (fun _ => False)) (a0 : Nat) (a1 : Nat) (a2 : Nat) (a3 : Nat) (a4 : Nat) (a5 : Nat) (x1 : Int64) (x3 : Int32) (r : Int32) (h : fX3_leftAtAuntsTurn_b F size clause eff kin see rec x1 x3 = some (r)) : Met l yX3_leftAtAuntsTurn wsX3_leftAtAuntsTurn ({ frames := 2 * d + 15, cells := 0, slots := 0, locals := 60 * d + 450 } : Room) (va_Pc [.ref a0, .long x1, .int x3] (fun U => va_P D vwCl (wPa T a0 a1 a2 a3 a4 a5 size clause eff kin gri sig see) U.heap ∧ KK D T U)) (vp_Si (fun r' => r' = r)) 0 0 (fun _ => False) := by
  refine Met.ofW (cc := cX3_leftAtAuntsTurn) (maxL := 6) (ret := some .int) (by decide) rfl ?_
  intro p e s m args below meth c s₁ B hml hv
  obtain ⟨ha, hP, hKK⟩ := hv
  have hx := B.exec
  have hb := B.bytes
  have hr := B.returns
  have hts := atoms_spec (ws := wsX3_leftAtAuntsTurn) B.pre
  have hown : s.vm.findClass RX3 = some m.cls := findClass_of_methodNamed B.named
  have hlocks := B.notSynchronized
  have hK := hKK.1
  have hFix : CallFix p m c cX3_leftAtAuntsTurn 6 s args wsX3_leftAtAuntsTurn RX3 := ⟨hx, hb, hml, hown, hts⟩
  have q1 := hts _ (List.mem_of_getElem? (i := 1) (show wsX3_leftAtAuntsTurn[1]? = some (Cond.methodLink RX3 75 Lib.Math.min.name) from rfl))
  have q2 := hts _ (List.mem_of_getElem? (i := 2) (show wsX3_leftAtAuntsTurn[2]? = some (Cond.static Lib.Math.min.name) from rfl))
  have q3 := hts _ (List.mem_of_getElem? (i := 3) (show wsX3_leftAtAuntsTurn[3]? = some (Cond.initialized "java/lang/Math") from rfl))
  have q4 := hts _ (List.mem_of_getElem? (i := 4) (show wsX3_leftAtAuntsTurn[4]? = some (Cond.code Lib.Math.min.name Lib.Math.min.code 2 (some .int)) from rfl))
  have q5 := hts _ (List.mem_of_getElem? (i := 5) (show wsX3_leftAtAuntsTurn[5]? = some (Cond.static yX1_howManyIn) from rfl))
  have q6 := hts _ (List.mem_of_getElem? (i := 6) (show wsX3_leftAtAuntsTurn[6]? = some (Cond.initialized RX1) from rfl))
  have q18 := hts _ (List.mem_of_getElem? (i := 18) (show wsX3_leftAtAuntsTurn[18]? = some (Cond.static yX1_isIn) from rfl))
  have q20 := hts _ (List.mem_of_getElem? (i := 20) (show wsX3_leftAtAuntsTurn[20]? = some (Cond.instanceMethod yX2_afterName) from rfl))
  have q21 := hts _ (List.mem_of_getElem? (i := 21) (show wsX3_leftAtAuntsTurn[21]? = some (Cond.initialized RX2) from rfl))
  have q22 := hts _ (List.mem_of_getElem? (i := 22) (show wsX3_leftAtAuntsTurn[22]? = some (Cond.selects RX2 yX2_afterName yX2_afterName) from rfl))
  have iX2 : ∀ w ∈ u_ws RX2 TX2 7, w ∈ wsX3_leftAtAuntsTurn := fun w h => List.mem_cons_of_mem _ (List.mem_append_right _ (h))
  obtain ⟨ls, hl, e0⟩ := my_entry (m := m) (n := 6) ha (Nat.le_of_ble_eq_true rfl)
  rw [e0]
  have hl : lv_has ls 6 [(0, .ref a0), (1, .long x1), (3, .int x3)] := hl
  have key : ∀ Q : State → Prop, (∀ (pc : Nat) (ls : Array Slot), decode cX3_leftAtAuntsTurn pc = .ok (.ireturn, 1) → W p l e ({ frames := 2 * d + 15, cells := 0, slots := 0, locals := 60 * d + 450 } : Room) s m args below meth c s.heap [] 0 0 Q (F0 m pc ls [.int r])) → W p l e ({ frames := 2 * d + 15, cells := 0, slots := 0, locals := 60 * d + 450 } : Room) s m args below meth c s.heap [] 0 0 Q (F0 m 0 ls []) := by
    intro Q hret
    have l9 : ∀ x1 : Int64, ∀ x3 : Int32, ∀ nu : Nat, ∀ x4 : Int32, ∀ x5 : Int32, fX3_leftAtAuntsTurn_l9 F rec size clause eff kin see x1 x3 nu x4 x5 = some (r) → ∀ (ls : Array Slot), lv_has ls 6 [(0, .ref a0), (1, .long x1), (3, .int x3), (4, .int x4), (5, .int x5)] → W p l e ({ frames := 2 * d + 15, cells := 0, slots := 0, locals := 60 * d + 450 } : Room) s m args below meth c s.heap [] 0 0 Q (F0 m 9 ls []) := by
      intro x1 x3
      intro nu
      induction nu with
      | zero => intro x4 x5 h; exact none_some h
      | succ nu9 ih9 =>
        intro x4 x5 h ls hl
        have h : fX3_leftAtAuntsTurn_l9_b F rec size clause eff kin see x1 x3 (fX3_leftAtAuntsTurn_l9 F rec size clause eff kin see x1 x3 nu9) x4 x5 = some (r) := h
        unfold fX3_leftAtAuntsTurn_l9_b at h
        refine lv_iload hx hb dX3_leftAtAuntsTurn_9 (lv_at hl 4 rfl) ?_
        refine lv_aload_n hx hb dX3_leftAtAuntsTurn_11 rfl (lv_at hl 0 rfl) ?_
        refine va_getN (host := "PartyWill") (D := D) (ci := 1) (C := RX2) (T := TX2) (N := 7) hx hb hts iX2 hown hK hP 0 wPa_0 rfl 0 (by decide) (va_Nw.use rfl (nw_X3_61 hKK.2)) (fun _ h9 => h9) rfl dX3_leftAtAuntsTurn_12 ?_
        refine lv_icmp_ge (tgt := 54) hx hb dX3_leftAtAuntsTurn_15 (by decide) (fun c15 => ?_) (fun c15 => ?_)
        · have h := br_1 h c15
          refine lv_iload hx hb dX3_leftAtAuntsTurn_54 (lv_at hl 3 rfl) ?_
          cases h
          exact hret _ _ dX3_leftAtAuntsTurn_56
        · have h := br_0 h c15
          refine lv_lload_n hx hb dX3_leftAtAuntsTurn_18 rfl (lv_at hl 1 rfl) ?_
          refine lv_iload hx hb dX3_leftAtAuntsTurn_19 (lv_at hl 4 rfl) ?_
          obtain ⟨r21, hc, h⟩ := bd1_some h
          refine my_roz (va_Run.run (va_runSN (host := "PartyWill") (As := [.long x1, .int x5]) (rest := []) hFix (kX1_isIn l D T F x1 x5 r21 hc) ⟨va_cnB 2 hts gX3_leftAtAuntsTurn_X1_isIn_n65 rfl rfl rfl (nw_X3_65 hKK.2) q6 hd_X1_isIn ⟨(show 0 + 1 ≤ 2 * d + 15 by omega), (show 8 + (3 + 11) + 0 ≤ 60 * d + 450 by omega)⟩, q18, trivial⟩ (preS_ro va_nil hKK) rfl rfl hl.1 rfl (lv_room (Nat.le_of_ble_eq_true rfl)) dX3_leftAtAuntsTurn_21 ⟨Nat.zero_le _, Nat.zero_le _⟩)) (fun hb21 => ?_)
          refine lv_if_eq (tgt := 48) hx hb dX3_leftAtAuntsTurn_24 (by decide) (fun c24 => ?_) (fun c24 => ?_)
          · have h := br_1 h c24
            refine lv_iinc (v := (x5 + (1 : Int32))) (lv' := [(5, .int (x5 + (1 : Int32))), (0, .ref a0), (1, .long x1), (3, .int x3), (4, .int x4)]) hx hb dX3_leftAtAuntsTurn_48 hl (k := 4) rfl rfl (by decide) rfl (fun ls hl => ?_)
            refine lv_goto (tgt := 9) hx hb dX3_leftAtAuntsTurn_51 (by decide) ?_
            exact ih9 x4 (x5 + (1 : Int32)) h _ (lv_sub hl [1, 2, 3, 4, 0] rfl)
          · have h := br_0 h c24
            refine lv_iload hx hb dX3_leftAtAuntsTurn_27 (lv_at hl 3 rfl) ?_
            refine lv_aload_n hx hb dX3_leftAtAuntsTurn_29 rfl (lv_at hl 0 rfl) ?_
            refine lv_aload_n hx hb dX3_leftAtAuntsTurn_30 rfl (lv_at hl 0 rfl) ?_
            refine lv_lload_n hx hb dX3_leftAtAuntsTurn_31 rfl (lv_at hl 1 rfl) ?_
            refine lv_iload hx hb dX3_leftAtAuntsTurn_32 (lv_at hl 4 rfl) ?_
            obtain ⟨r34, hc, h⟩ := bd1_some h
            refine my_rol (va_Run.run (va_runVN (host := "PartyWill") (As := [.long x1, .int x5]) (rest := [.ref a0, .int x4]) hFix (kX2_afterName l D T F a0 a1 a2 a3 a4 a5 size clause eff kin gri sig see x1 x5 r34 hc) ⟨va_cnB 2 hts gX3_leftAtAuntsTurn_X2_afterName_n69 rfl rfl rfl (nw_X3_69 hKK.2) q21 hd_X2_afterName ⟨(show 3 + 1 ≤ 2 * d + 15 by omega), (show 8 + (5 + 11) + 72 ≤ 60 * d + 450 by omega)⟩, q20, q22⟩ (preV_ro hP hKK (va_recv hK hP (ci := 1) (q0 := 0) rfl wPa_0)) rfl rfl hl.1 rfl (lv_room (Nat.le_of_ble_eq_true rfl)) dX3_leftAtAuntsTurn_34 ⟨Nat.zero_le _, Nat.zero_le _⟩)) ?_
            refine lv_iload_n hx hb dX3_leftAtAuntsTurn_37 rfl (lv_at hl 2 rfl) ?_
            refine lv_iconst (v := (1 : Int32)) hx hb dX3_leftAtAuntsTurn_38 (by decide) ?_
            refine lv_isub hx hb dX3_leftAtAuntsTurn_39 ?_
            obtain ⟨r40, hc, h⟩ := bd1_some h
            refine my_roi (va_Run.run (va_runS (As := [.ref a0, .long r34, .int (x3 - (1 : Int32))]) (rest := [.int x4]) hFix (ihd a0 a1 a2 a3 a4 a5 r34 (x3 - (1 : Int32)) r40 hc) (va_cwS 3 hts gX3_leftAtAuntsTurn_X3_leftAtBandsTurn rfl rfl rfl hd_X3_leftAtBandsTurn ⟨(show 2 * d + 14 + 1 ≤ 2 * d + 15 by omega), (show 8 + (6 + 11) + (60 * d + 420) ≤ 60 * d + 450 by omega)⟩) (preS_ro hP hKK) rfl rfl hl.1 rfl (lv_room (Nat.le_of_ble_eq_true rfl)) dX3_leftAtAuntsTurn_40 ⟨Nat.zero_le _, Nat.zero_le _⟩)) ?_
            refine va_mmin hx hb (hml.trans hl.1.symm) hown q1 q2 q3 q4 (show 1 ≤ 2 * d + 15 by omega) (Nat.le_trans (Nat.le_of_ble_eq_true rfl : _ ≤ 30) (show 30 ≤ 60 * d + 450 by omega)) (Nat.zero_le _) (Nat.zero_le _) dX3_leftAtAuntsTurn_43 ?_
            refine lv_istore (lv' := [(4, .int (if r40 < x4 then r40 else x4)), (0, .ref a0), (1, .long x1), (3, .int x3), (5, .int x5)]) hx hb dX3_leftAtAuntsTurn_46 hl (by decide) rfl (fun ls hl => ?_)
            refine lv_iinc (v := (x5 + (1 : Int32))) (lv' := [(5, .int (x5 + (1 : Int32))), (4, .int (if r40 < x4 then r40 else x4)), (0, .ref a0), (1, .long x1), (3, .int x3)]) hx hb dX3_leftAtAuntsTurn_48 hl (k := 4) rfl rfl (by decide) rfl (fun ls hl => ?_)
            refine lv_goto (tgt := 9) hx hb dX3_leftAtAuntsTurn_51 (by decide) ?_
            exact ih9 (if r40 < x4 then r40 else x4) (x5 + (1 : Int32)) h _ (lv_sub hl [2, 3, 4, 1, 0] rfl)
    have h : fX3_leftAtAuntsTurn_b F size clause eff kin see rec x1 x3 = some (r) := h
    unfold fX3_leftAtAuntsTurn_b at h
    refine lv_lload_n hx hb dX3_leftAtAuntsTurn_0 rfl (lv_at hl 1 rfl) ?_
    obtain ⟨r1, hc, h⟩ := bd1_some h
    refine my_roi (va_Run.run (va_runSN (host := "PartyWill") (As := [.long x1]) (rest := []) hFix (kX1_howManyIn l D T F x1 r1 hc) ⟨va_cnB 1 hts gX3_leftAtAuntsTurn_X1_howManyIn_n31 rfl rfl rfl (nw_X3_31 hKK.2) q6 hd_X1_howManyIn ⟨(show 1 + 1 ≤ 2 * d + 15 by omega), (show 8 + (2 + 11) + 21 ≤ 60 * d + 450 by omega)⟩, q5, trivial⟩ (preS_ro va_nil hKK) rfl rfl hl.1 rfl (lv_room (Nat.le_of_ble_eq_true rfl)) dX3_leftAtAuntsTurn_1 ⟨Nat.zero_le _, Nat.zero_le _⟩)) ?_
    refine lv_istore (lv' := [(4, .int r1), (0, .ref a0), (1, .long x1), (3, .int x3)]) hx hb dX3_leftAtAuntsTurn_4 hl (by decide) rfl (fun ls hl => ?_)
    refine lv_iconst (v := (0 : Int32)) hx hb dX3_leftAtAuntsTurn_6 (by decide) ?_
    refine lv_istore (lv' := [(5, .int (0 : Int32)), (4, .int r1), (0, .ref a0), (1, .long x1), (3, .int x3)]) hx hb dX3_leftAtAuntsTurn_7 hl (by decide) rfl (fun ls hl => ?_)
    exact l9 x1 x3 F r1 (0 : Int32) h _ (lv_sub hl [2, 3, 4, 1, 0] rfl)
  exact key _ (fun pc ls hd => W.iret hx hb hr (fun t ht hW => ⟨_, rfl, rfl, ht⟩) (fun q h => by cases h) hd)
set_option maxHeartbeats 4000000 in
set_option maxRecDepth 100000 in
theorem kX3_leftAtBandsTurn (l : Launch) (D : va_G) (T : Nat → ClassId) (F : Nat) : ∀ (d : Nat) (a0 : Nat) (a1 : Nat) (a2 : Nat) (a3 : Nat) (a4 : Nat) (a5 : Nat) (size : Int32) (clause : Int32) (eff : Nat → Int32) (kin : Nat → Int32) (gri : Nat → Int32) (sig : Nat → Int32) (see : Nat → Int32) (x1 : Int64) (x3 : Int32) (r : Int32), fX3_leftAtBandsTurn F size clause eff kin see d x1 x3 = some (r) → Met l yX3_leftAtBandsTurn wsX3_leftAtBandsTurn ({ frames := 2 * d + 14, cells := 0, slots := 0, locals := 60 * d + 420 } : Room) (va_Pc [.ref a0, .long x1, .int x3] (fun U => va_P D vwCl (wPa T a0 a1 a2 a3 a4 a5 size clause eff kin gri sig see) U.heap ∧ KK D T U)) (vp_Si (fun r' => r' = r)) 0 0 (fun _ => False) := by
  intro d
  induction d with
  | zero => intro a0 a1 a2 a3 a4 a5 size clause eff kin gri sig see x1 x3 r h; exact none_some h
  | succ d ihd =>
  intro a0 a1 a2 a3 a4 a5 size clause eff kin gri sig see x1 x3 r h
  refine Met.ofW (cc := cX3_leftAtBandsTurn) (maxL := 6) (ret := some .int) (by decide) rfl ?_
  intro p e s m args below meth c s₁ B hml hv
  obtain ⟨ha, hP, hKK⟩ := hv
  have hx := B.exec
  have hb := B.bytes
  have hr := B.returns
  have hts := atoms_spec (ws := wsX3_leftAtBandsTurn) B.pre
  have hown : s.vm.findClass RX3 = some m.cls := findClass_of_methodNamed B.named
  have hlocks := B.notSynchronized
  have hK := hKK.1
  have hFix : CallFix p m c cX3_leftAtBandsTurn 6 s args wsX3_leftAtBandsTurn RX3 := ⟨hx, hb, hml, hown, hts⟩
  have q1 := hts _ (List.mem_of_getElem? (i := 1) (show wsX3_leftAtBandsTurn[1]? = some (Cond.methodLink RX3 42 Lib.Math.max.name) from rfl))
  have q2 := hts _ (List.mem_of_getElem? (i := 2) (show wsX3_leftAtBandsTurn[2]? = some (Cond.static Lib.Math.max.name) from rfl))
  have q3 := hts _ (List.mem_of_getElem? (i := 3) (show wsX3_leftAtBandsTurn[3]? = some (Cond.initialized "java/lang/Math") from rfl))
  have q4 := hts _ (List.mem_of_getElem? (i := 4) (show wsX3_leftAtBandsTurn[4]? = some (Cond.code Lib.Math.max.name Lib.Math.max.code 2 (some .int)) from rfl))
  have q5 := hts _ (List.mem_of_getElem? (i := 5) (show wsX3_leftAtBandsTurn[5]? = some (Cond.static yX1_howManyIn) from rfl))
  have q6 := hts _ (List.mem_of_getElem? (i := 6) (show wsX3_leftAtBandsTurn[6]? = some (Cond.initialized RX1) from rfl))
  have q18 := hts _ (List.mem_of_getElem? (i := 18) (show wsX3_leftAtBandsTurn[18]? = some (Cond.instanceMethod yX2_afterTune) from rfl))
  have q19 := hts _ (List.mem_of_getElem? (i := 19) (show wsX3_leftAtBandsTurn[19]? = some (Cond.initialized RX2) from rfl))
  have q20 := hts _ (List.mem_of_getElem? (i := 20) (show wsX3_leftAtBandsTurn[20]? = some (Cond.selects RX2 yX2_afterTune yX2_afterTune) from rfl))
  obtain ⟨ls, hl, e0⟩ := my_entry (m := m) (n := 6) ha (Nat.le_of_ble_eq_true rfl)
  rw [e0]
  have hl : lv_has ls 6 [(0, .ref a0), (1, .long x1), (3, .int x3)] := hl
  have key : ∀ Q : State → Prop, (∀ (pc : Nat) (ls : Array Slot), decode cX3_leftAtBandsTurn pc = .ok (.ireturn, 1) → W p l e ({ frames := 2 * (d + 1) + 14, cells := 0, slots := 0, locals := 60 * (d + 1) + 420 } : Room) s m args below meth c s.heap [] 0 0 Q (F0 m pc ls [.int r])) → W p l e ({ frames := 2 * (d + 1) + 14, cells := 0, slots := 0, locals := 60 * (d + 1) + 420 } : Room) s m args below meth c s.heap [] 0 0 Q (F0 m 0 ls []) := by
    intro Q hret
    have l15 : ∀ x1 : Int64, ∀ x3 : Int32, ∀ nu : Nat, ∀ x4 : Int32, ∀ x5 : Int32, fX3_leftAtBandsTurn_l15 F (fX3_leftAtBandsTurn F size clause eff kin see d) size clause eff kin see x1 x3 nu x4 x5 = some (r) → ∀ (ls : Array Slot), lv_has ls 6 [(0, .ref a0), (1, .long x1), (3, .int x3), (4, .int x4), (5, .int x5)] → W p l e ({ frames := 2 * (d + 1) + 14, cells := 0, slots := 0, locals := 60 * (d + 1) + 420 } : Room) s m args below meth c s.heap [] 0 0 Q (F0 m 15 ls []) := by
      intro x1 x3
      intro nu
      induction nu with
      | zero => intro x4 x5 h; exact none_some h
      | succ nu15 ih15 =>
        intro x4 x5 h ls hl
        have h : fX3_leftAtBandsTurn_l15_b F (fX3_leftAtBandsTurn F size clause eff kin see d) size clause eff kin see x1 x3 (fX3_leftAtBandsTurn_l15 F (fX3_leftAtBandsTurn F size clause eff kin see d) size clause eff kin see x1 x3 nu15) x4 x5 = some (r) := h
        unfold fX3_leftAtBandsTurn_l15_b at h
        refine lv_iload hx hb dX3_leftAtBandsTurn_15 (lv_at hl 4 rfl) ?_
        refine lv_iconst (v := (4 : Int32)) hx hb dX3_leftAtBandsTurn_17 (by decide) ?_
        refine lv_icmp_ge (tgt := 46) hx hb dX3_leftAtBandsTurn_18 (by decide) (fun c18 => ?_) (fun c18 => ?_)
        · have h := br_1 h c18
          refine lv_iload hx hb dX3_leftAtBandsTurn_46 (lv_at hl 3 rfl) ?_
          cases h
          exact hret _ _ dX3_leftAtBandsTurn_48
        · have h := br_0 h c18
          refine lv_iload hx hb dX3_leftAtBandsTurn_21 (lv_at hl 3 rfl) ?_
          refine lv_aload_n hx hb dX3_leftAtBandsTurn_23 rfl (lv_at hl 0 rfl) ?_
          refine lv_aload_n hx hb dX3_leftAtBandsTurn_24 rfl (lv_at hl 0 rfl) ?_
          refine lv_lload_n hx hb dX3_leftAtBandsTurn_25 rfl (lv_at hl 1 rfl) ?_
          refine lv_iload hx hb dX3_leftAtBandsTurn_26 (lv_at hl 4 rfl) ?_
          obtain ⟨r28, hc, h⟩ := bd1_some h
          refine my_rol (va_Run.run (va_runVN (host := "PartyWill") (As := [.long x1, .int x5]) (rest := [.ref a0, .int x4]) hFix (kX2_afterTune l D T F a0 a1 a2 a3 a4 a5 size clause eff kin gri sig see x1 x5 r28 hc) ⟨va_cnB 2 hts gX3_leftAtBandsTurn_X2_afterTune_n15 rfl rfl rfl (nw_X3_15 hKK.2) q19 hd_X2_afterTune ⟨(show 3 + 1 ≤ 2 * (d + 1) + 14 by omega), (show 8 + (8 + 11) + 75 ≤ 60 * (d + 1) + 420 by omega)⟩, q18, q20⟩ (preV_ro hP hKK (va_recv hK hP (ci := 1) (q0 := 0) rfl wPa_0)) rfl rfl hl.1 rfl (lv_room (Nat.le_of_ble_eq_true rfl)) dX3_leftAtBandsTurn_28 ⟨Nat.zero_le _, Nat.zero_le _⟩)) ?_
          refine lv_iload_n hx hb dX3_leftAtBandsTurn_31 rfl (lv_at hl 2 rfl) ?_
          obtain ⟨r32, hc, h⟩ := bd1_some h
          refine my_roi (va_Run.run (va_runS (As := [.ref a0, .long r28, .int x3]) (rest := [.int x4]) hFix (kX3_leftAtAuntsTurn_o l D T F d (fX3_leftAtBandsTurn F size clause eff kin see d) size clause eff kin gri sig see (fun a0' a1' a2' a3' a4' a5' x1' x3' r h => ihd a0' a1' a2' a3' a4' a5' size clause eff kin gri sig see x1' x3' r h) a0 a1 a2 a3 a4 a5 r28 x3 r32 hc) (va_cwS 3 hts gX3_leftAtBandsTurn_X3_leftAtAuntsTurn rfl rfl rfl hd_X3_leftAtAuntsTurn ⟨(show 2 * d + 15 + 1 ≤ 2 * (d + 1) + 14 by omega), (show 8 + (6 + 11) + (60 * d + 450) ≤ 60 * (d + 1) + 420 by omega)⟩) (preS_ro hP hKK) rfl rfl hl.1 rfl (lv_room (Nat.le_of_ble_eq_true rfl)) dX3_leftAtBandsTurn_32 ⟨Nat.zero_le _, Nat.zero_le _⟩)) ?_
          refine va_mmax hx hb (hml.trans hl.1.symm) hown q1 q2 q3 q4 (show 1 ≤ 2 * (d + 1) + 14 by omega) (Nat.le_trans (Nat.le_of_ble_eq_true rfl : _ ≤ 30) (show 30 ≤ 60 * (d + 1) + 420 by omega)) (Nat.zero_le _) (Nat.zero_le _) dX3_leftAtBandsTurn_35 ?_
          refine lv_istore (lv' := [(4, .int (if x4 < r32 then r32 else x4)), (0, .ref a0), (1, .long x1), (3, .int x3), (5, .int x5)]) hx hb dX3_leftAtBandsTurn_38 hl (by decide) rfl (fun ls hl => ?_)
          refine lv_iinc (v := (x5 + (1 : Int32))) (lv' := [(5, .int (x5 + (1 : Int32))), (4, .int (if x4 < r32 then r32 else x4)), (0, .ref a0), (1, .long x1), (3, .int x3)]) hx hb dX3_leftAtBandsTurn_40 hl (k := 4) rfl rfl (by decide) rfl (fun ls hl => ?_)
          refine lv_goto (tgt := 15) hx hb dX3_leftAtBandsTurn_43 (by decide) ?_
          exact ih15 (if x4 < r32 then r32 else x4) (x5 + (1 : Int32)) h _ (lv_sub hl [2, 3, 4, 1, 0] rfl)
    have h : fX3_leftAtBandsTurn_b F size clause eff kin see (fX3_leftAtBandsTurn F size clause eff kin see d) x1 x3 = some (r) := h
    unfold fX3_leftAtBandsTurn_b at h
    refine lv_iload_n hx hb dX3_leftAtBandsTurn_0 rfl (lv_at hl 2 rfl) ?_
    refine lv_if_gt (tgt := 9) hx hb dX3_leftAtBandsTurn_1 (by decide) (fun c1 => ?_) (fun c1 => ?_)
    · have h := br_1 h c1
      refine lv_iconst (v := (0 : Int32)) hx hb dX3_leftAtBandsTurn_9 (by decide) ?_
      refine lv_istore (lv' := [(4, .int (0 : Int32)), (0, .ref a0), (1, .long x1), (3, .int x3)]) hx hb dX3_leftAtBandsTurn_10 hl (by decide) rfl (fun ls hl => ?_)
      refine lv_iconst (v := (0 : Int32)) hx hb dX3_leftAtBandsTurn_12 (by decide) ?_
      refine lv_istore (lv' := [(5, .int (0 : Int32)), (4, .int (0 : Int32)), (0, .ref a0), (1, .long x1), (3, .int x3)]) hx hb dX3_leftAtBandsTurn_13 hl (by decide) rfl (fun ls hl => ?_)
      exact l15 x1 x3 F (0 : Int32) (0 : Int32) h _ (lv_sub hl [2, 3, 4, 1, 0] rfl)
    · have h := br_0 h c1
      refine lv_lload_n hx hb dX3_leftAtBandsTurn_4 rfl (lv_at hl 1 rfl) ?_
      obtain ⟨r5, hc, h⟩ := bd1_some h
      refine my_roi (va_Run.run (va_runSN (host := "PartyWill") (As := [.long x1]) (rest := []) hFix (kX1_howManyIn l D T F x1 r5 hc) ⟨va_cnB 1 hts gX3_leftAtBandsTurn_X1_howManyIn_n31 rfl rfl rfl (nw_X3_31 hKK.2) q6 hd_X1_howManyIn ⟨(show 1 + 1 ≤ 2 * (d + 1) + 14 by omega), (show 8 + (2 + 11) + 21 ≤ 60 * (d + 1) + 420 by omega)⟩, q5, trivial⟩ (preS_ro va_nil hKK) rfl rfl hl.1 rfl (lv_room (Nat.le_of_ble_eq_true rfl)) dX3_leftAtBandsTurn_5 ⟨Nat.zero_le _, Nat.zero_le _⟩)) ?_
      cases h
      exact hret _ _ dX3_leftAtBandsTurn_8
  exact key _ (fun pc ls hd => W.iret hx hb hr (fun t ht hW => ⟨_, rfl, rfl, ht⟩) (fun q h => by cases h) hd)
theorem kX3_leftAtAuntsTurn (l : Launch) (D : va_G) (T : Nat → ClassId) (F : Nat) (d : Nat) (a0 : Nat) (a1 : Nat) (a2 : Nat) (a3 : Nat) (a4 : Nat) (a5 : Nat) (size : Int32) (clause : Int32) (eff : Nat → Int32) (kin : Nat → Int32) (gri : Nat → Int32) (sig : Nat → Int32) (see : Nat → Int32) (x1 : Int64) (x3 : Int32) (r : Int32) (h : fX3_leftAtAuntsTurn F size clause eff kin see d x1 x3 = some (r)) : Met l yX3_leftAtAuntsTurn wsX3_leftAtAuntsTurn ({ frames := 2 * d + 15, cells := 0, slots := 0, locals := 60 * d + 450 } : Room) (va_Pc [.ref a0, .long x1, .int x3] (fun U => va_P D vwCl (wPa T a0 a1 a2 a3 a4 a5 size clause eff kin gri sig see) U.heap ∧ KK D T U)) (vp_Si (fun r' => r' = r)) 0 0 (fun _ => False) :=
  kX3_leftAtAuntsTurn_o l D T F d (fX3_leftAtBandsTurn F size clause eff kin see d) size clause eff kin gri sig see (fun a0' a1' a2' a3' a4' a5' => kX3_leftAtBandsTurn l D T F d a0' a1' a2' a3' a4' a5' size clause eff kin gri sig see) a0 a1 a2 a3 a4 a5 x1 x3 r h
