set_option maxHeartbeats 4000000 in
set_option maxRecDepth 100000 in
theorem kL_part (l : Launch) (D : va_G) (T : Nat → ClassId) (F : Nat) (x0 : Int32) (x1 : Int32) (r : Int32) (h : fL_part F x0 x1 = some (r)) : Met l yL_part wsL_part ({ frames := 0, cells := 0, slots := 0, locals := 0 } : Room) (va_Pc [.int x0, .int x1] (fun U => va_P D vwCl ([] : va_W) U.heap ∧ KK D T U)) (vp_Si (fun r' => r' = r)) 0 0 (fun _ => False) := by
  refine Met.ofW (cc := cL_part) (maxL := 2) (ret := some .int) (by decide) rfl ?_
  intro p e s m args below meth c s₁ B hml hv
  obtain ⟨ha, hP, hKK⟩ := hv
  have hx := B.exec
  have hb := B.bytes
  have hr := B.returns
  have hts := atoms_spec (ws := wsL_part) B.pre
  have hown : s.vm.findClass RL = some m.cls := findClass_of_methodNamed B.named
  have hlocks := B.notSynchronized
  have hK := hKK.1
  have hFix : CallFix p m c cL_part 2 s args wsL_part RL := ⟨hx, hb, hml, hown, hts⟩
  have q1 := hts _ (List.mem_of_getElem? (i := 1) (show wsL_part[1]? = some (Cond.constant RL 7 (2147483647)) from rfl))
  obtain ⟨ls, hl, e0⟩ := my_entry (m := m) (n := 2) ha (Nat.le_of_ble_eq_true rfl)
  rw [e0]
  have hl : lv_has ls 2 [(0, .int x0), (1, .int x1)] := hl
  have key : ∀ Q : State → Prop, (∀ (pc : Nat) (ls : Array Slot), decode cL_part pc = .ok (.ireturn, 1) → W p l e ({ frames := 0, cells := 0, slots := 0, locals := 0 } : Room) s m args below meth c s.heap [] 0 0 Q (F0 m pc ls [.int r])) → W p l e ({ frames := 0, cells := 0, slots := 0, locals := 0 } : Room) s m args below meth c s.heap [] 0 0 Q (F0 m 0 ls []) := by
    intro Q hret
    unfold fL_part at h
    refine lv_iload_n hx hb dL_part_0 rfl (lv_at hl 0 rfl) ?_
    refine lv_ldc (v := (2147483647 : Int32)) hx hb hown q1 dL_part_1 ?_
    refine lv_iand hx hb dL_part_3 ?_
    refine lv_iload_n hx hb dL_part_4 rfl (lv_at hl 1 rfl) ?_
    obtain ⟨hne, h⟩ := ck_some h
    refine lv_irem hx hb dL_part_5 hne ?_
    cases h
    exact hret _ _ dL_part_6
  exact key _ (fun pc ls hd => W.iret hx hb hr (fun t ht hW => ⟨_, rfl, rfl, ht⟩) (fun q h => by cases h) hd)
set_option maxHeartbeats 4000000 in
set_option maxRecDepth 100000 in
theorem kL_cell (l : Launch) (D : va_G) (T : Nat → ClassId) (F : Nat) (b : Nat) (L : Nat) (xs : Nat → Int32) (x1 : Int32) (r : Int32) (h : fL_cell F L xs x1 = some (r)) : Met l yL_cell wsL_cell ({ frames := 0, cells := 0, slots := 0, locals := 0 } : Room) (va_Pc [.ref b, .int x1] (fun U => va_X b L xs U U.heap ∧ KK D T U)) (vp_Si (fun r' => r' = r)) 0 0 (fun _ => False) := by
  refine Met.ofW (cc := cL_cell) (maxL := 2) (ret := some .int) (by decide) rfl ?_
  intro p e s m args below meth c s₁ B hml hv
  obtain ⟨ha, hX, hKK⟩ := hv
  have hx := B.exec
  have hb := B.bytes
  have hr := B.returns
  have hts := atoms_spec (ws := wsL_cell) B.pre
  have hown : s.vm.findClass RL = some m.cls := findClass_of_methodNamed B.named
  have hlocks := B.notSynchronized
  have hK := hKK.1
  have hFix : CallFix p m c cL_cell 2 s args wsL_cell RL := ⟨hx, hb, hml, hown, hts⟩
  have q1 := hts _ (List.mem_of_getElem? (i := 1) (show wsL_cell[1]? = some (Cond.constant RL 8 (2654435)) from rfl))
  have hbl : b < s.heap.size := by obtain ⟨scr, h1, -⟩ := hX; exact (Array.getElem?_eq_some_iff.mp h1).1
  have hbA : ¬ (fun _ : Nat => False) b := fun h => h
  have hS : va_S (fun _ : Nat => False) s.heap s.heap [] := va_S.rf
  obtain ⟨ls, hl, e0⟩ := my_entry (m := m) (n := 2) ha (Nat.le_of_ble_eq_true rfl)
  rw [e0]
  have hl : lv_has ls 2 [(0, .ref b), (1, .int x1)] := hl
  have key : ∀ Q : State → Prop, (∀ (pc : Nat) (ls : Array Slot), decode cL_cell pc = .ok (.ireturn, 1) → W p l e ({ frames := 0, cells := 0, slots := 0, locals := 0 } : Room) s m args below meth c s.heap [] 0 0 Q (F0 m pc ls [.int r])) → W p l e ({ frames := 0, cells := 0, slots := 0, locals := 0 } : Room) s m args below meth c s.heap [] 0 0 Q (F0 m 0 ls []) := by
    intro Q hret
    unfold fL_cell at h
    refine lv_aload_n hx hb dL_cell_0 rfl (lv_at hl 0 rfl) ?_
    refine va_slen hx hb hX hbl hbA hS dL_cell_1 ?_
    refine lv_if_ne (tgt := 15) hx hb dL_cell_2 (by decide) (fun c2 => ?_) (fun c2 => ?_)
    · have h := br_0 h c2
      refine lv_aload_n hx hb dL_cell_15 rfl (lv_at hl 0 rfl) ?_
      refine lv_iload_n hx hb dL_cell_16 rfl (lv_at hl 1 rfl) ?_
      refine lv_aload_n hx hb dL_cell_17 rfl (lv_at hl 0 rfl) ?_
      refine va_slen hx hb hX hbl hbA hS dL_cell_18 ?_
      obtain ⟨hne, h⟩ := ck_some h
      refine lv_irem hx hb dL_cell_19 hne ?_
      obtain ⟨hin1, h⟩ := ck_some h
      refine va_sld hx hb hX hbl hbA hS hin1 dL_cell_20 ?_
      refine lv_iload_n hx hb dL_cell_21 rfl (lv_at hl 1 rfl) ?_
      refine lv_bipush (v := (7 : Int32)) hx hb dL_cell_22 (by decide) ?_
      refine lv_irem hx hb dL_cell_24 (by decide) ?_
      refine lv_ishr hx hb dL_cell_25 ?_
      refine lv_iload_n hx hb dL_cell_26 rfl (lv_at hl 1 rfl) ?_
      refine lv_aload_n hx hb dL_cell_27 rfl (lv_at hl 0 rfl) ?_
      refine va_slen hx hb hX hbl hbA hS dL_cell_28 ?_
      obtain ⟨hne, h⟩ := ck_some h
      refine lv_idiv hx hb dL_cell_29 hne ?_
      refine lv_bipush (v := (31 : Int32)) hx hb dL_cell_30 (by decide) ?_
      refine lv_imul hx hb dL_cell_32 ?_
      refine lv_ixor hx hb dL_cell_33 ?_
      refine lv_iload_n hx hb dL_cell_34 rfl (lv_at hl 1 rfl) ?_
      refine lv_ldc (v := (2654435 : Int32)) hx hb hown q1 dL_cell_35 ?_
      refine lv_imul hx hb dL_cell_37 ?_
      refine lv_ixor hx hb dL_cell_38 ?_
      cases h
      exact hret _ _ dL_cell_39
    · have h := br_1 h c2
      refine lv_sipush (v := (7919 : Int32)) hx hb dL_cell_5 (by decide) ?_
      refine lv_iload_n hx hb dL_cell_8 rfl (lv_at hl 1 rfl) ?_
      refine lv_imul hx hb dL_cell_9 ?_
      refine lv_iconst (v := (3 : Int32)) hx hb dL_cell_10 (by decide) ?_
      refine lv_iadd hx hb dL_cell_11 ?_
      refine lv_goto (tgt := 39) hx hb dL_cell_12 (by decide) ?_
      cases h
      exact hret _ _ dL_cell_39
  exact key _ (fun pc ls hd => W.iret hx hb hr (fun t ht hW => ⟨_, rfl, rfl, ht⟩) (fun q h => by cases h) hd)
set_option maxHeartbeats 4000000 in
set_option maxRecDepth 100000 in
theorem kL_letter (l : Launch) (D : va_G) (T : Nat → ClassId) (F : Nat) (x0 : Int32) (r : Int32) (h : fL_letter F x0 = some (r)) : Met l yL_letter wsL_letter ({ frames := 0, cells := 0, slots := 0, locals := 0 } : Room) (va_Pc [.int x0] (fun U => va_P D vwCl ([] : va_W) U.heap ∧ KK D T U)) (vp_Si (fun r' => r' = r)) 0 0 (fun _ => False) := by
  refine Met.ofW (cc := cL_letter) (maxL := 1) (ret := some .int) (by decide) rfl ?_
  intro p e s m args below meth c s₁ B hml hv
  obtain ⟨ha, hP, hKK⟩ := hv
  have hx := B.exec
  have hb := B.bytes
  have hr := B.returns
  have hts := atoms_spec (ws := wsL_letter) B.pre
  have hown : s.vm.findClass RL = some m.cls := findClass_of_methodNamed B.named
  have hlocks := B.notSynchronized
  have hK := hKK.1
  have hFix : CallFix p m c cL_letter 1 s args wsL_letter RL := ⟨hx, hb, hml, hown, hts⟩
  obtain ⟨ls, hl, e0⟩ := my_entry (m := m) (n := 1) ha (Nat.le_of_ble_eq_true rfl)
  rw [e0]
  have hl : lv_has ls 1 [(0, .int x0)] := hl
  have key : ∀ Q : State → Prop, (∀ (pc : Nat) (ls : Array Slot), decode cL_letter pc = .ok (.ireturn, 1) → W p l e ({ frames := 0, cells := 0, slots := 0, locals := 0 } : Room) s m args below meth c s.heap [] 0 0 Q (F0 m pc ls [.int r])) → W p l e ({ frames := 0, cells := 0, slots := 0, locals := 0 } : Room) s m args below meth c s.heap [] 0 0 Q (F0 m 0 ls []) := by
    intro Q hret
    unfold fL_letter at h
    refine lv_iload_n hx hb dL_letter_0 rfl (lv_at hl 0 rfl) ?_
    refine lv_if_ne (tgt := 9) hx hb dL_letter_1 (by decide) (fun c1 => ?_) (fun c1 => ?_)
    · have h := br_0 h c1
      refine lv_iload_n hx hb dL_letter_9 rfl (lv_at hl 0 rfl) ?_
      refine lv_iconst (v := (1 : Int32)) hx hb dL_letter_10 (by decide) ?_
      refine lv_icmp_ne (tgt := 19) hx hb dL_letter_11 (by decide) (fun c11 => ?_) (fun c11 => ?_)
      · have h := br_0 h c11
        refine lv_iload_n hx hb dL_letter_19 rfl (lv_at hl 0 rfl) ?_
        refine lv_iconst (v := (2 : Int32)) hx hb dL_letter_20 (by decide) ?_
        refine lv_icmp_ne (tgt := 29) hx hb dL_letter_21 (by decide) (fun c21 => ?_) (fun c21 => ?_)
        · have h := br_0 h c21
          refine lv_iload_n hx hb dL_letter_29 rfl (lv_at hl 0 rfl) ?_
          refine lv_iconst (v := (3 : Int32)) hx hb dL_letter_30 (by decide) ?_
          refine lv_icmp_ne (tgt := 39) hx hb dL_letter_31 (by decide) (fun c31 => ?_) (fun c31 => ?_)
          · have h := br_0 h c31
            refine lv_iload_n hx hb dL_letter_39 rfl (lv_at hl 0 rfl) ?_
            refine lv_iconst (v := (4 : Int32)) hx hb dL_letter_40 (by decide) ?_
            refine lv_icmp_ne (tgt := 49) hx hb dL_letter_41 (by decide) (fun c41 => ?_) (fun c41 => ?_)
            · have h := br_0 h c41
              refine lv_bipush (v := (121 : Int32)) hx hb dL_letter_49 (by decide) ?_
              cases h
              exact hret _ _ dL_letter_51
            · have h := br_1 h c41
              refine lv_bipush (v := (117 : Int32)) hx hb dL_letter_44 (by decide) ?_
              refine lv_goto (tgt := 51) hx hb dL_letter_46 (by decide) ?_
              cases h
              exact hret _ _ dL_letter_51
          · have h := br_1 h c31
            refine lv_bipush (v := (109 : Int32)) hx hb dL_letter_34 (by decide) ?_
            refine lv_goto (tgt := 51) hx hb dL_letter_36 (by decide) ?_
            cases h
            exact hret _ _ dL_letter_51
        · have h := br_1 h c21
          refine lv_bipush (v := (115 : Int32)) hx hb dL_letter_24 (by decide) ?_
          refine lv_goto (tgt := 51) hx hb dL_letter_26 (by decide) ?_
          cases h
          exact hret _ _ dL_letter_51
      · have h := br_1 h c11
        refine lv_bipush (v := (100 : Int32)) hx hb dL_letter_14 (by decide) ?_
        refine lv_goto (tgt := 51) hx hb dL_letter_16 (by decide) ?_
        cases h
        exact hret _ _ dL_letter_51
    · have h := br_1 h c1
      refine lv_bipush (v := (103 : Int32)) hx hb dL_letter_4 (by decide) ?_
      refine lv_goto (tgt := 51) hx hb dL_letter_6 (by decide) ?_
      cases h
      exact hret _ _ dL_letter_51
  exact key _ (fun pc ls hd => W.iret hx hb hr (fun t ht hW => ⟨_, rfl, rfl, ht⟩) (fun q h => by cases h) hd)
set_option maxHeartbeats 4000000 in
set_option maxRecDepth 100000 in
theorem kL_bound (l : Launch) (D : va_G) (T : Nat → ClassId) (F : Nat) (x0 : Int32) (r : Int32) (h : fL_bound F x0 = some (r)) : Met l yL_bound wsL_bound ({ frames := 0, cells := 0, slots := 0, locals := 0 } : Room) (va_Pc [.int x0] (fun U => va_P D vwCl ([] : va_W) U.heap ∧ KK D T U)) (vp_Si (fun r' => r' = r)) 0 0 (fun _ => False) := by
  refine Met.ofW (cc := cL_bound) (maxL := 1) (ret := some .int) (by decide) rfl ?_
  intro p e s m args below meth c s₁ B hml hv
  obtain ⟨ha, hP, hKK⟩ := hv
  have hx := B.exec
  have hb := B.bytes
  have hr := B.returns
  have hts := atoms_spec (ws := wsL_bound) B.pre
  have hown : s.vm.findClass RL = some m.cls := findClass_of_methodNamed B.named
  have hlocks := B.notSynchronized
  have hK := hKK.1
  have hFix : CallFix p m c cL_bound 1 s args wsL_bound RL := ⟨hx, hb, hml, hown, hts⟩
  obtain ⟨ls, hl, e0⟩ := my_entry (m := m) (n := 1) ha (Nat.le_of_ble_eq_true rfl)
  rw [e0]
  have hl : lv_has ls 1 [(0, .int x0)] := hl
  have key : ∀ Q : State → Prop, (∀ (pc : Nat) (ls : Array Slot), decode cL_bound pc = .ok (.ireturn, 1) → W p l e ({ frames := 0, cells := 0, slots := 0, locals := 0 } : Room) s m args below meth c s.heap [] 0 0 Q (F0 m pc ls [.int r])) → W p l e ({ frames := 0, cells := 0, slots := 0, locals := 0 } : Room) s m args below meth c s.heap [] 0 0 Q (F0 m 0 ls []) := by
    intro Q hret
    unfold fL_bound at h
    refine lv_iload_n hx hb dL_bound_0 rfl (lv_at hl 0 rfl) ?_
    refine lv_bipush (v := (20 : Int32)) hx hb dL_bound_1 (by decide) ?_
    refine lv_icmp_le (tgt := 11) hx hb dL_bound_3 (by decide) (fun c3 => ?_) (fun c3 => ?_)
    · have h := br_1 h c3
      refine lv_iload_n hx hb dL_bound_11 rfl (lv_at hl 0 rfl) ?_
      refine lv_if_ge (tgt := 19) hx hb dL_bound_12 (by decide) (fun c12 => ?_) (fun c12 => ?_)
      · have h := br_1 h c12
        refine lv_iload_n hx hb dL_bound_19 rfl (lv_at hl 0 rfl) ?_
        cases h
        exact hret _ _ dL_bound_20
      · have h := br_0 h c12
        refine lv_iconst (v := (0 : Int32)) hx hb dL_bound_15 (by decide) ?_
        refine lv_goto (tgt := 20) hx hb dL_bound_16 (by decide) ?_
        cases h
        exact hret _ _ dL_bound_20
    · have h := br_0 h c3
      refine lv_bipush (v := (20 : Int32)) hx hb dL_bound_6 (by decide) ?_
      refine lv_goto (tgt := 20) hx hb dL_bound_8 (by decide) ?_
      cases h
      exact hret _ _ dL_bound_20
  exact key _ (fun pc ls hd => W.iret hx hb hr (fun t ht hW => ⟨_, rfl, rfl, ht⟩) (fun q h => by cases h) hd)
set_option maxHeartbeats 4000000 in
set_option maxRecDepth 100000 in
theorem kL_behind (l : Launch) (D : va_G) (T : Nat → ClassId) (F : Nat) (x0 : Int32) (x1 : Int32) (x2 : Int32) (x3 : Int32) (r : Int32) (h : fL_behind F x0 x1 x2 x3 = some (r)) : Met l yL_behind wsL_behind ({ frames := 1, cells := 0, slots := 0, locals := 20 } : Room) (va_Pc [.int x0, .int x1, .int x2, .int x3] (fun U => va_P D vwCl ([] : va_W) U.heap ∧ KK D T U)) (vp_Si (fun r' => r' = r)) 0 0 (fun _ => False) := by
  refine Met.ofW (cc := cL_behind) (maxL := 5) (ret := some .int) (by decide) rfl ?_
  intro p e s m args below meth c s₁ B hml hv
  obtain ⟨ha, hP, hKK⟩ := hv
  have hx := B.exec
  have hb := B.bytes
  have hr := B.returns
  have hts := atoms_spec (ws := wsL_behind) B.pre
  have hown : s.vm.findClass RL = some m.cls := findClass_of_methodNamed B.named
  have hlocks := B.notSynchronized
  have hK := hKK.1
  have hFix : CallFix p m c cL_behind 5 s args wsL_behind RL := ⟨hx, hb, hml, hown, hts⟩
  obtain ⟨ls, hl, e0⟩ := my_entry (m := m) (n := 5) ha (Nat.le_of_ble_eq_true rfl)
  rw [e0]
  have hl : lv_has ls 5 [(0, .int x0), (1, .int x1), (2, .int x2), (3, .int x3)] := hl
  have key : ∀ Q : State → Prop, (∀ (pc : Nat) (ls : Array Slot), decode cL_behind pc = .ok (.ireturn, 1) → W p l e ({ frames := 1, cells := 0, slots := 0, locals := 20 } : Room) s m args below meth c s.heap [] 0 0 Q (F0 m pc ls [.int r])) → W p l e ({ frames := 1, cells := 0, slots := 0, locals := 20 } : Room) s m args below meth c s.heap [] 0 0 Q (F0 m 0 ls []) := by
    intro Q hret
    have n75 : ∀ x0 : Int32, ∀ x1 : Int32, ∀ x3 : Int32, fL_behind_n75 F x0 x1 x3 = some (r) → ∀ (ls : Array Slot), lv_has ls 5 [(0, .int x0), (1, .int x1), (3, .int x3)] → W p l e ({ frames := 1, cells := 0, slots := 0, locals := 20 } : Room) s m args below meth c s.heap [] 0 0 Q (F0 m 75 ls []) := by
      intro x0 x1 x3 h ls hl
      unfold fL_behind_n75 at h
      refine lv_iload_n hx hb dL_behind_75 rfl (lv_at hl 0 rfl) ?_
      refine lv_iconst (v := (3 : Int32)) hx hb dL_behind_76 (by decide) ?_
      refine lv_icmp_ne (tgt := 93) hx hb dL_behind_77 (by decide) (fun c77 => ?_) (fun c77 => ?_)
      · have h := br_0 h c77
        refine lv_iload_n hx hb dL_behind_93 rfl (lv_at hl 1 rfl) ?_
        refine lv_iload_n hx hb dL_behind_94 rfl (lv_at hl 2 rfl) ?_
        refine lv_iadd hx hb dL_behind_95 ?_
        obtain ⟨r96, hc, h⟩ := bd1_some h
        refine my_roi (va_Run.run (va_runS (As := [.int (x1 + x3)]) (rest := []) hFix (kL_bound l D T F (x1 + x3) r96 hc) (va_cwS 1 hts gL_behind_L_bound rfl rfl rfl hd_L_bound ⟨Nat.le_of_ble_eq_true rfl, Nat.le_of_ble_eq_true rfl⟩) (preS_ro hP hKK) rfl rfl hl.1 rfl (lv_room (Nat.le_of_ble_eq_true rfl)) dL_behind_96 ⟨Nat.zero_le _, Nat.zero_le _⟩)) ?_
        cases h
        exact hret _ _ dL_behind_99
      · have h := br_1 h c77
        refine lv_iload_n hx hb dL_behind_80 rfl (lv_at hl 2 rfl) ?_
        refine lv_if_le (tgt := 93) hx hb dL_behind_81 (by decide) (fun c81 => ?_) (fun c81 => ?_)
        · have h := br_1 h c81
          refine lv_iload_n hx hb dL_behind_93 rfl (lv_at hl 1 rfl) ?_
          refine lv_iload_n hx hb dL_behind_94 rfl (lv_at hl 2 rfl) ?_
          refine lv_iadd hx hb dL_behind_95 ?_
          obtain ⟨r96, hc, h⟩ := bd1_some h
          refine my_roi (va_Run.run (va_runS (As := [.int (x1 + x3)]) (rest := []) hFix (kL_bound l D T F (x1 + x3) r96 hc) (va_cwS 1 hts gL_behind_L_bound rfl rfl rfl hd_L_bound ⟨Nat.le_of_ble_eq_true rfl, Nat.le_of_ble_eq_true rfl⟩) (preS_ro hP hKK) rfl rfl hl.1 rfl (lv_room (Nat.le_of_ble_eq_true rfl)) dL_behind_96 ⟨Nat.zero_le _, Nat.zero_le _⟩)) ?_
          cases h
          exact hret _ _ dL_behind_99
        · have h := br_0 h c81
          refine lv_iload_n hx hb dL_behind_84 rfl (lv_at hl 1 rfl) ?_
          refine lv_iload_n hx hb dL_behind_85 rfl (lv_at hl 2 rfl) ?_
          refine lv_iadd hx hb dL_behind_86 ?_
          refine lv_iload_n hx hb dL_behind_87 rfl (lv_at hl 2 rfl) ?_
          refine lv_iadd hx hb dL_behind_88 ?_
          obtain ⟨r89, hc, h⟩ := bd1_some h
          refine my_roi (va_Run.run (va_runS (As := [.int ((x1 + x3) + x3)]) (rest := []) hFix (kL_bound l D T F ((x1 + x3) + x3) r89 hc) (va_cwS 1 hts gL_behind_L_bound rfl rfl rfl hd_L_bound ⟨Nat.le_of_ble_eq_true rfl, Nat.le_of_ble_eq_true rfl⟩) (preS_ro hP hKK) rfl rfl hl.1 rfl (lv_room (Nat.le_of_ble_eq_true rfl)) dL_behind_89 ⟨Nat.zero_le _, Nat.zero_le _⟩)) ?_
          cases h
          exact hret _ _ dL_behind_92
    have n63 : ∀ x0 : Int32, ∀ x1 : Int32, ∀ x3 : Int32, fL_behind_n63 F x0 x1 x3 = some (r) → ∀ (ls : Array Slot), lv_has ls 5 [(0, .int x0), (1, .int x1), (3, .int x3)] → W p l e ({ frames := 1, cells := 0, slots := 0, locals := 20 } : Room) s m args below meth c s.heap [] 0 0 Q (F0 m 63 ls []) := by
      intro x0 x1 x3 h ls hl
      unfold fL_behind_n63 at h
      refine lv_iload_n hx hb dL_behind_63 rfl (lv_at hl 2 rfl) ?_
      refine lv_iconst (v := (1 : Int32)) hx hb dL_behind_64 (by decide) ?_
      refine lv_icmp_le (tgt := 75) hx hb dL_behind_65 (by decide) (fun c65 => ?_) (fun c65 => ?_)
      · have h := br_1 h c65
        exact n75 x0 x1 x3 h _ (lv_sub hl [0, 1, 2] rfl)
      · have h := br_0 h c65
        refine lv_iload_n hx hb dL_behind_68 rfl (lv_at hl 1 rfl) ?_
        refine lv_iconst (v := (1 : Int32)) hx hb dL_behind_69 (by decide) ?_
        refine lv_iadd hx hb dL_behind_70 ?_
        obtain ⟨r71, hc, h⟩ := bd1_some h
        refine my_roi (va_Run.run (va_runS (As := [.int (x1 + (1 : Int32))]) (rest := []) hFix (kL_bound l D T F (x1 + (1 : Int32)) r71 hc) (va_cwS 1 hts gL_behind_L_bound rfl rfl rfl hd_L_bound ⟨Nat.le_of_ble_eq_true rfl, Nat.le_of_ble_eq_true rfl⟩) (preS_ro hP hKK) rfl rfl hl.1 rfl (lv_room (Nat.le_of_ble_eq_true rfl)) dL_behind_71 ⟨Nat.zero_le _, Nat.zero_le _⟩)) ?_
        cases h
        exact hret _ _ dL_behind_74
    have n39 : ∀ x0 : Int32, ∀ x1 : Int32, ∀ x3 : Int32, ∀ x4 : Int32, fL_behind_n39 F x0 x1 x3 x4 = some (r) → ∀ (ls : Array Slot), lv_has ls 5 [(0, .int x0), (1, .int x1), (3, .int x3), (4, .int x4)] → W p l e ({ frames := 1, cells := 0, slots := 0, locals := 20 } : Room) s m args below meth c s.heap [] 0 0 Q (F0 m 39 ls []) := by
      intro x0 x1 x3 x4 h ls hl
      unfold fL_behind_n39 at h
      refine lv_iload hx hb dL_behind_39 (lv_at hl 3 rfl) ?_
      refine lv_if_eq (tgt := 53) hx hb dL_behind_41 (by decide) (fun c41 => ?_) (fun c41 => ?_)
      · have h := br_1 h c41
        refine lv_iload_n hx hb dL_behind_53 rfl (lv_at hl 0 rfl) ?_
        refine lv_iconst (v := (2 : Int32)) hx hb dL_behind_54 (by decide) ?_
        refine lv_icmp_eq (tgt := 63) hx hb dL_behind_55 (by decide) (fun c55 => ?_) (fun c55 => ?_)
        · have h := br_1 h c55
          exact n63 x0 x1 x3 h _ (lv_sub hl [0, 1, 2] rfl)
        · have h := br_0 h c55
          refine lv_iload_n hx hb dL_behind_58 rfl (lv_at hl 0 rfl) ?_
          refine lv_iconst (v := (5 : Int32)) hx hb dL_behind_59 (by decide) ?_
          refine lv_icmp_ne (tgt := 75) hx hb dL_behind_60 (by decide) (fun c60 => ?_) (fun c60 => ?_)
          · have h := br_0 h c60
            exact n75 x0 x1 x3 h _ (lv_sub hl [0, 1, 2] rfl)
          · have h := br_1 h c60
            exact n63 x0 x1 x3 h _ (lv_sub hl [0, 1, 2] rfl)
      · have h := br_0 h c41
        refine lv_iload_n hx hb dL_behind_44 rfl (lv_at hl 1 rfl) ?_
        refine lv_iload_n hx hb dL_behind_45 rfl (lv_at hl 2 rfl) ?_
        refine lv_iadd hx hb dL_behind_46 ?_
        refine lv_iconst (v := (1 : Int32)) hx hb dL_behind_47 (by decide) ?_
        refine lv_isub hx hb dL_behind_48 ?_
        obtain ⟨r49, hc, h⟩ := bd1_some h
        refine my_roi (va_Run.run (va_runS (As := [.int ((x1 + x3) - (1 : Int32))]) (rest := []) hFix (kL_bound l D T F ((x1 + x3) - (1 : Int32)) r49 hc) (va_cwS 1 hts gL_behind_L_bound rfl rfl rfl hd_L_bound ⟨Nat.le_of_ble_eq_true rfl, Nat.le_of_ble_eq_true rfl⟩) (preS_ro hP hKK) rfl rfl hl.1 rfl (lv_room (Nat.le_of_ble_eq_true rfl)) dL_behind_49 ⟨Nat.zero_le _, Nat.zero_le _⟩)) ?_
        cases h
        exact hret _ _ dL_behind_52
    have n27 : ∀ s_0 : Int32, ∀ x0 : Int32, ∀ x1 : Int32, ∀ x3 : Int32, fL_behind_n27 F s_0 x0 x1 x3 = some (r) → ∀ (ls : Array Slot), lv_has ls 5 [(0, .int x0), (1, .int x1), (3, .int x3)] → W p l e ({ frames := 1, cells := 0, slots := 0, locals := 20 } : Room) s m args below meth c s.heap [] 0 0 Q (F0 m 27 ls [.int s_0]) := by
      intro s_0 x0 x1 x3 h ls hl
      unfold fL_behind_n27 at h
      refine lv_istore (lv' := [(4, .int s_0), (0, .int x0), (1, .int x1), (3, .int x3)]) hx hb dL_behind_27 hl (by decide) rfl (fun ls hl => ?_)
      refine lv_iload_n hx hb dL_behind_29 rfl (lv_at hl 1 rfl) ?_
      refine lv_iconst (v := (1 : Int32)) hx hb dL_behind_30 (by decide) ?_
      refine lv_icmp_eq (tgt := 39) hx hb dL_behind_31 (by decide) (fun c31 => ?_) (fun c31 => ?_)
      · have h := br_1 h c31
        exact n39 x0 x1 x3 s_0 h _ (lv_sub hl [1, 2, 3, 0] rfl)
      · have h := br_0 h c31
        refine lv_iload_n hx hb dL_behind_34 rfl (lv_at hl 1 rfl) ?_
        refine lv_iconst (v := (4 : Int32)) hx hb dL_behind_35 (by decide) ?_
        refine lv_icmp_ne (tgt := 53) hx hb dL_behind_36 (by decide) (fun c36 => ?_) (fun c36 => ?_)
        · have h := br_0 h c36
          refine lv_iload_n hx hb dL_behind_53 rfl (lv_at hl 1 rfl) ?_
          refine lv_iconst (v := (2 : Int32)) hx hb dL_behind_54 (by decide) ?_
          refine lv_icmp_eq (tgt := 63) hx hb dL_behind_55 (by decide) (fun c55 => ?_) (fun c55 => ?_)
          · have h := br_1 h c55
            exact n63 x0 x1 x3 h _ (lv_sub hl [1, 2, 3] rfl)
          · have h := br_0 h c55
            refine lv_iload_n hx hb dL_behind_58 rfl (lv_at hl 1 rfl) ?_
            refine lv_iconst (v := (5 : Int32)) hx hb dL_behind_59 (by decide) ?_
            refine lv_icmp_ne (tgt := 75) hx hb dL_behind_60 (by decide) (fun c60 => ?_) (fun c60 => ?_)
            · have h := br_0 h c60
              exact n75 x0 x1 x3 h _ (lv_sub hl [1, 2, 3] rfl)
            · have h := br_1 h c60
              exact n63 x0 x1 x3 h _ (lv_sub hl [1, 2, 3] rfl)
        · have h := br_1 h c36
          exact n39 x0 x1 x3 s_0 h _ (lv_sub hl [1, 2, 3, 0] rfl)
    have n12 : ∀ x0 : Int32, ∀ x1 : Int32, ∀ x2 : Int32, ∀ x3 : Int32, fL_behind_n12 F x0 x1 x2 x3 = some (r) → ∀ (ls : Array Slot), lv_has ls 5 [(0, .int x0), (1, .int x1), (2, .int x2), (3, .int x3)] → W p l e ({ frames := 1, cells := 0, slots := 0, locals := 20 } : Room) s m args below meth c s.heap [] 0 0 Q (F0 m 12 ls []) := by
      intro x0 x1 x2 x3 h ls hl
      unfold fL_behind_n12 at h
      refine lv_iload_n hx hb dL_behind_12 rfl (lv_at hl 2 rfl) ?_
      refine lv_iconst (v := (1 : Int32)) hx hb dL_behind_13 (by decide) ?_
      refine lv_icmp_eq (tgt := 22) hx hb dL_behind_14 (by decide) (fun c14 => ?_) (fun c14 => ?_)
      · have h := br_1 h c14
        refine lv_iconst (v := (1 : Int32)) hx hb dL_behind_22 (by decide) ?_
        refine lv_goto (tgt := 27) hx hb dL_behind_23 (by decide) ?_
        exact n27 (1 : Int32) x0 x1 x3 h _ (lv_sub hl [0, 1, 3] rfl)
      · have h := br_0 h c14
        refine lv_iload_n hx hb dL_behind_17 rfl (lv_at hl 2 rfl) ?_
        refine lv_iconst (v := (2 : Int32)) hx hb dL_behind_18 (by decide) ?_
        refine lv_icmp_ne (tgt := 26) hx hb dL_behind_19 (by decide) (fun c19 => ?_) (fun c19 => ?_)
        · have h := br_0 h c19
          refine lv_iconst (v := (0 : Int32)) hx hb dL_behind_26 (by decide) ?_
          exact n27 (0 : Int32) x0 x1 x3 h _ (lv_sub hl [0, 1, 3] rfl)
        · have h := br_1 h c19
          refine lv_iconst (v := (1 : Int32)) hx hb dL_behind_22 (by decide) ?_
          refine lv_goto (tgt := 27) hx hb dL_behind_23 (by decide) ?_
          exact n27 (1 : Int32) x0 x1 x3 h _ (lv_sub hl [0, 1, 3] rfl)
    unfold fL_behind at h
    refine lv_iload_n hx hb dL_behind_0 rfl (lv_at hl 0 rfl) ?_
    refine lv_iconst (v := (4 : Int32)) hx hb dL_behind_1 (by decide) ?_
    refine lv_icmp_ne (tgt := 12) hx hb dL_behind_2 (by decide) (fun c2 => ?_) (fun c2 => ?_)
    · have h := br_0 h c2
      exact n12 x0 x1 x2 x3 h _ (lv_sub hl [0, 1, 2, 3] rfl)
    · have h := br_1 h c2
      refine lv_iload_n hx hb dL_behind_5 rfl (lv_at hl 2 rfl) ?_
      refine lv_iconst (v := (1 : Int32)) hx hb dL_behind_6 (by decide) ?_
      refine lv_icmp_ne (tgt := 12) hx hb dL_behind_7 (by decide) (fun c7 => ?_) (fun c7 => ?_)
      · have h := br_0 h c7
        exact n12 x0 x1 x2 x3 h _ (lv_sub hl [0, 1, 2, 3] rfl)
      · have h := br_1 h c7
        refine lv_iconst (v := (0 : Int32)) hx hb dL_behind_10 (by decide) ?_
        cases h
        exact hret _ _ dL_behind_11
  exact key _ (fun pc ls hd => W.iret hx hb hr (fun t ht hW => ⟨_, rfl, rfl, ht⟩) (fun q h => by cases h) hd)
set_option maxHeartbeats 4000000 in
set_option maxRecDepth 100000 in
theorem kL_many (l : Launch) (D : va_G) (T : Nat → ClassId) (F : Nat) (x0 : Int32) (r : Int32) (h : fL_many F x0 = some (r)) : Met l yL_many wsL_many ({ frames := 0, cells := 0, slots := 0, locals := 0 } : Room) (va_Pc [.int x0] (fun U => va_P D vwCl ([] : va_W) U.heap ∧ KK D T U)) (vp_Si (fun r' => r' = r)) 0 0 (fun _ => False) := by
  refine Met.ofW (cc := cL_many) (maxL := 3) (ret := some .int) (by decide) rfl ?_
  intro p e s m args below meth c s₁ B hml hv
  obtain ⟨ha, hP, hKK⟩ := hv
  have hx := B.exec
  have hb := B.bytes
  have hr := B.returns
  have hts := atoms_spec (ws := wsL_many) B.pre
  have hown : s.vm.findClass RL = some m.cls := findClass_of_methodNamed B.named
  have hlocks := B.notSynchronized
  have hK := hKK.1
  have hFix : CallFix p m c cL_many 3 s args wsL_many RL := ⟨hx, hb, hml, hown, hts⟩
  obtain ⟨ls, hl, e0⟩ := my_entry (m := m) (n := 3) ha (Nat.le_of_ble_eq_true rfl)
  rw [e0]
  have hl : lv_has ls 3 [(0, .int x0)] := hl
  have key : ∀ Q : State → Prop, (∀ (pc : Nat) (ls : Array Slot), decode cL_many pc = .ok (.ireturn, 1) → W p l e ({ frames := 0, cells := 0, slots := 0, locals := 0 } : Room) s m args below meth c s.heap [] 0 0 Q (F0 m pc ls [.int r])) → W p l e ({ frames := 0, cells := 0, slots := 0, locals := 0 } : Room) s m args below meth c s.heap [] 0 0 Q (F0 m 0 ls []) := by
    intro Q hret
    have l4 : ∀ x0 : Int32, ∀ nu : Nat, ∀ x1 : Int32, ∀ x2 : Int32, fL_many_l4 F x0 nu x1 x2 = some (r) → ∀ (ls : Array Slot), lv_has ls 3 [(0, .int x0), (1, .int x1), (2, .int x2)] → W p l e ({ frames := 0, cells := 0, slots := 0, locals := 0 } : Room) s m args below meth c s.heap [] 0 0 Q (F0 m 4 ls []) := by
      intro x0
      intro nu
      induction nu with
      | zero => intro x1 x2 h; exact none_some h
      | succ nu4 ih4 =>
        intro x1 x2 h ls hl
        have h : fL_many_l4_b F x0 (fL_many_l4 F x0 nu4) x1 x2 = some (r) := h
        unfold fL_many_l4_b at h
        refine lv_iload_n hx hb dL_many_4 rfl (lv_at hl 2 rfl) ?_
        refine lv_bipush (v := (6 : Int32)) hx hb dL_many_5 (by decide) ?_
        refine lv_icmp_ge (tgt := 24) hx hb dL_many_7 (by decide) (fun c7 => ?_) (fun c7 => ?_)
        · have h := br_1 h c7
          refine lv_iload_n hx hb dL_many_24 rfl (lv_at hl 1 rfl) ?_
          cases h
          exact hret _ _ dL_many_25
        · have h := br_0 h c7
          refine lv_iload_n hx hb dL_many_10 rfl (lv_at hl 1 rfl) ?_
          refine lv_iload_n hx hb dL_many_11 rfl (lv_at hl 0 rfl) ?_
          refine lv_iload_n hx hb dL_many_12 rfl (lv_at hl 2 rfl) ?_
          refine lv_ishr hx hb dL_many_13 ?_
          refine lv_iconst (v := (1 : Int32)) hx hb dL_many_14 (by decide) ?_
          refine lv_iand hx hb dL_many_15 ?_
          refine lv_iadd hx hb dL_many_16 ?_
          refine lv_istore_n (lv' := [(1, .int (x1 + ((x0 >>> (x2 &&& 31)) &&& (1 : Int32)))), (0, .int x0), (2, .int x2)]) hx hb dL_many_17 rfl hl (by decide) rfl (fun ls hl => ?_)
          refine lv_iinc (v := (x2 + (1 : Int32))) (lv' := [(2, .int (x2 + (1 : Int32))), (1, .int (x1 + ((x0 >>> (x2 &&& 31)) &&& (1 : Int32)))), (0, .int x0)]) hx hb dL_many_18 hl (k := 2) rfl rfl (by decide) rfl (fun ls hl => ?_)
          refine lv_goto (tgt := 4) hx hb dL_many_21 (by decide) ?_
          exact ih4 (x1 + ((x0 >>> (x2 &&& 31)) &&& (1 : Int32))) (x2 + (1 : Int32)) h _ (lv_sub hl [2, 1, 0] rfl)
    unfold fL_many at h
    refine lv_iconst (v := (0 : Int32)) hx hb dL_many_0 (by decide) ?_
    refine lv_istore_n (lv' := [(1, .int (0 : Int32)), (0, .int x0)]) hx hb dL_many_1 rfl hl (by decide) rfl (fun ls hl => ?_)
    refine lv_iconst (v := (0 : Int32)) hx hb dL_many_2 (by decide) ?_
    refine lv_istore_n (lv' := [(2, .int (0 : Int32)), (1, .int (0 : Int32)), (0, .int x0)]) hx hb dL_many_3 rfl hl (by decide) rfl (fun ls hl => ?_)
    exact l4 x0 F (0 : Int32) (0 : Int32) h _ (lv_sub hl [2, 1, 0] rfl)
  exact key _ (fun pc ls hd => W.iret hx hb hr (fun t ht hW => ⟨_, rfl, rfl, ht⟩) (fun q h => by cases h) hd)
set_option maxHeartbeats 4000000 in
set_option maxRecDepth 100000 in
theorem kL_sum (l : Launch) (D : va_G) (T : Nat → ClassId) (F : Nat) (a0 : Nat) (n1 : Nat) (f1 : Nat → Int32) (r : Int32) (h : fL_sum F n1 f1 = some (r)) : Met l yL_sum wsL_sum ({ frames := 0, cells := 0, slots := 0, locals := 0 } : Room) (va_Pc [.ref a0] (fun U => va_P D vwCl (wA1 T a0 n1 f1) U.heap ∧ KK D T U)) (vp_Si (fun r' => r' = r)) 0 0 (fun _ => False) := by
  refine Met.ofW (cc := cL_sum) (maxL := 1) (ret := some .int) (by decide) rfl ?_
  intro p e s m args below meth c s₁ B hml hv
  obtain ⟨ha, hP, hKK⟩ := hv
  have hx := B.exec
  have hb := B.bytes
  have hr := B.returns
  have hts := atoms_spec (ws := wsL_sum) B.pre
  have hown : s.vm.findClass RL = some m.cls := findClass_of_methodNamed B.named
  have hlocks := B.notSynchronized
  have hK := hKK.1
  have hFix : CallFix p m c cL_sum 1 s args wsL_sum RL := ⟨hx, hb, hml, hown, hts⟩
  obtain ⟨ls, hl, e0⟩ := my_entry (m := m) (n := 1) ha (Nat.le_of_ble_eq_true rfl)
  rw [e0]
  have hl : lv_has ls 1 [(0, .ref a0)] := hl
  have key : ∀ Q : State → Prop, (∀ (pc : Nat) (ls : Array Slot), decode cL_sum pc = .ok (.ireturn, 1) → W p l e ({ frames := 0, cells := 0, slots := 0, locals := 0 } : Room) s m args below meth c s.heap [] 0 0 Q (F0 m pc ls [.int r])) → W p l e ({ frames := 0, cells := 0, slots := 0, locals := 0 } : Room) s m args below meth c s.heap [] 0 0 Q (F0 m 0 ls []) := by
    intro Q hret
    unfold fL_sum at h
    refine lv_aload_n hx hb dL_sum_0 rfl (lv_at hl 0 rfl) ?_
    refine lv_iconst (v := (0 : Int32)) hx hb dL_sum_1 (by decide) ?_
    obtain ⟨hin1, h⟩ := ck_some h
    refine va_iald hx hb hK hP 0 0 wA1_0 rfl hin1 dL_sum_2 ?_
    refine lv_aload_n hx hb dL_sum_3 rfl (lv_at hl 0 rfl) ?_
    refine lv_iconst (v := (1 : Int32)) hx hb dL_sum_4 (by decide) ?_
    obtain ⟨hin2, h⟩ := ck_some h
    refine va_iald hx hb hK hP 0 0 wA1_0 rfl hin2 dL_sum_5 ?_
    refine lv_iadd hx hb dL_sum_6 ?_
    refine lv_aload_n hx hb dL_sum_7 rfl (lv_at hl 0 rfl) ?_
    refine lv_iconst (v := (2 : Int32)) hx hb dL_sum_8 (by decide) ?_
    obtain ⟨hin3, h⟩ := ck_some h
    refine va_iald hx hb hK hP 0 0 wA1_0 rfl hin3 dL_sum_9 ?_
    refine lv_iadd hx hb dL_sum_10 ?_
    refine lv_aload_n hx hb dL_sum_11 rfl (lv_at hl 0 rfl) ?_
    refine lv_iconst (v := (3 : Int32)) hx hb dL_sum_12 (by decide) ?_
    obtain ⟨hin4, h⟩ := ck_some h
    refine va_iald hx hb hK hP 0 0 wA1_0 rfl hin4 dL_sum_13 ?_
    refine lv_iadd hx hb dL_sum_14 ?_
    refine lv_aload_n hx hb dL_sum_15 rfl (lv_at hl 0 rfl) ?_
    refine lv_iconst (v := (4 : Int32)) hx hb dL_sum_16 (by decide) ?_
    obtain ⟨hin5, h⟩ := ck_some h
    refine va_iald hx hb hK hP 0 0 wA1_0 rfl hin5 dL_sum_17 ?_
    refine lv_iadd hx hb dL_sum_18 ?_
    refine lv_aload_n hx hb dL_sum_19 rfl (lv_at hl 0 rfl) ?_
    refine lv_iconst (v := (5 : Int32)) hx hb dL_sum_20 (by decide) ?_
    obtain ⟨hin6, h⟩ := ck_some h
    refine va_iald hx hb hK hP 0 0 wA1_0 rfl hin6 dL_sum_21 ?_
    refine lv_iadd hx hb dL_sum_22 ?_
    cases h
    exact hret _ _ dL_sum_23
  exact key _ (fun pc ls hd => W.iret hx hb hr (fun t ht hW => ⟨_, rfl, rfl, ht⟩) (fun q h => by cases h) hd)
set_option maxHeartbeats 4000000 in
set_option maxRecDepth 100000 in
theorem kL_outs (l : Launch) (D : va_G) (T : Nat → ClassId) (F : Nat) (ad : Nat → Nat) (rs : Nat → Int32) (rm : Nat → Nat → Int32) (ts : Nat → Int32) (tm : Nat → Nat → Int32) (rdue : Int32) (rtun : Int32) (rsee : Int32) (rbeg : Int32) (psize : Int32) (pclause : Int32) (peff : Nat → Int32) (pkin : Nat → Int32) (pgri : Nat → Int32) (psig : Nat → Int32) (psee : Nat → Int32) (qsize : Int32) (qclause : Int32) (qeff : Nat → Int32) (qkin : Nat → Int32) (qgri : Nat → Int32) (qsig : Nat → Int32) (qsee : Nat → Int32) (cdee : Int32) (cnow : Int64) (cahe : Nat → Int64) (kdee : Nat → Int32) (know : Nat → Int64) (kahe : Nat → Nat → Int64) (fc : Nat → Int32) (lf : Int32) (told : Int32) (up : Int64) (lo : Int64) (x1 : Int32) (r : Int32) (ztold : Int32) (h : fL_outs F psize pkin psig psee cnow told x1 = some (r, ztold)) : ∀ sz : Nat, Met l yL_outs wsL_outs ({ frames := 4, cells := 0, slots := 0, locals := 88 } : Room) (va_Pc [.ref (ad 0), .int x1] (fun U => U.heap.size = sz ∧ va_P D vwCl (wPW T ad (ad 6) (ad 12) rs rm ts tm rdue rtun rsee rbeg psize pclause peff pkin pgri psig psee qsize qclause qeff qkin qgri qsig qsee cdee cnow cahe kdee know kahe fc lf told up lo) U.heap ∧ KK D T U ∧ va_D (fun _ => True) (wPW T ad (ad 6) (ad 12) rs rm ts tm rdue rtun rsee rbeg psize pclause peff pkin pgri psig psee qsize qclause qeff qkin qgri qsig qsee cdee cnow cahe kdee know kahe fc lf told up lo))) (va_Qi (fun r' (_ : Unit) => r' = r) (fun _ t => va_P D vwCl (wPW T ad (ad 6) (ad 12) rs rm ts tm rdue rtun rsee rbeg psize pclause peff pkin pgri psig psee qsize qclause qeff qkin qgri qsig qsee cdee cnow cahe kdee know kahe fc lf ztold up lo) t.heap ∧ va_D (va_A (wPW T ad (ad 6) (ad 12) rs rm ts tm rdue rtun rsee rbeg psize pclause peff pkin pgri psig psee qsize qclause qeff qkin qgri qsig qsee cdee cnow cahe kdee know kahe fc lf told up lo) sz) (wPW T ad (ad 6) (ad 12) rs rm ts tm rdue rtun rsee rbeg psize pclause peff pkin pgri psig psee qsize qclause qeff qkin qgri qsig qsee cdee cnow cahe kdee know kahe fc lf ztold up lo)) (va_A (wPW T ad (ad 6) (ad 12) rs rm ts tm rdue rtun rsee rbeg psize pclause peff pkin pgri psig psee qsize qclause qeff qkin qgri qsig qsee cdee cnow cahe kdee know kahe fc lf told up lo) sz)) 0 0 (va_A (wPW T ad (ad 6) (ad 12) rs rm ts tm rdue rtun rsee rbeg psize pclause peff pkin pgri psig psee qsize qclause qeff qkin qgri qsig qsee cdee cnow cahe kdee know kahe fc lf told up lo) sz) := by
  intro sz
  refine Met.ofW (cc := cL_outs) (maxL := 4) (ret := some .int) (by decide) rfl ?_
  intro p e s m args below meth c s₁ B hml hv
  obtain ⟨ha, hsz, hP, hKK, hD0⟩ := hv
  have hx := B.exec
  have hb := B.bytes
  have hr := B.returns
  have hts := atoms_spec (ws := wsL_outs) B.pre
  have hown : s.vm.findClass RL = some m.cls := findClass_of_methodNamed B.named
  have hlocks := B.notSynchronized
  have hK := hKK.1
  have hFix : CallFix p m c cL_outs 4 s args wsL_outs RL := ⟨hx, hb, hml, hown, hts⟩
  subst hsz
  have hD := hD0.self (sz := s.heap.size)
  generalize hAe : va_A (wPW T ad (ad 6) (ad 12) rs rm ts tm rdue rtun rsee rbeg psize pclause peff pkin pgri psig psee qsize qclause qeff qkin qgri qsig qsee cdee cnow cahe kdee know kahe fc lf told up lo) s.heap.size = A at hD ⊢
  have hA : ∀ q : Nat, s.heap.size ≤ q → A q := fun q h => by rw [← hAe]; exact Or.inr h
  have hS : va_S A s.heap s.heap [] := va_S.rf
  have hP : va_P D vwCl (wPW T ad (ad 6) (ad 12) rs rm ts tm rdue rtun rsee rbeg psize pclause peff pkin pgri psig psee qsize qclause qeff qkin qgri qsig qsee cdee cnow cahe kdee know kahe fc lf told up lo) s.heap := hP
  obtain ⟨ls, hl, e0⟩ := my_entry (m := m) (n := 4) ha (Nat.le_of_ble_eq_true rfl)
  rw [e0]
  have hl : lv_has ls 4 [(0, .ref (ad 0)), (1, .int x1)] := hl
  have key : ∀ Q : State → Prop, (∀ (H : Heap) (locs : List Loc) (pc : Nat) (ls : Array Slot), va_P D vwCl (wPW T ad (ad 6) (ad 12) rs rm ts tm rdue rtun rsee rbeg psize pclause peff pkin pgri psig psee qsize qclause qeff qkin qgri qsig qsee cdee cnow cahe kdee know kahe fc lf ztold up lo) H → va_D A (wPW T ad (ad 6) (ad 12) rs rm ts tm rdue rtun rsee rbeg psize pclause peff pkin pgri psig psee qsize qclause qeff qkin qgri qsig qsee cdee cnow cahe kdee know kahe fc lf ztold up lo) → va_S A s.heap H locs → decode cL_outs pc = .ok (.ireturn, 1) → W p l e ({ frames := 4, cells := 0, slots := 0, locals := 88 } : Room) s m args below meth c H locs 0 0 Q (F0 m pc ls [.int r])) → W p l e ({ frames := 4, cells := 0, slots := 0, locals := 88 } : Room) s m args below meth c s.heap [] 0 0 Q (F0 m 0 ls []) := by
    intro Q hret
    skip
    have l4 : ∀ x1 : Int32, ∀ nu : Nat, ∀ x2 : Int32, ∀ x3 : Int32, ∀ told : Int32, fL_outs_l4 F psize pkin psig psee cnow x1 nu x2 x3 told = some (r, ztold) → ∀ (H : Heap) (locs : List Loc), va_P D vwCl (wPW T ad (ad 6) (ad 12) rs rm ts tm rdue rtun rsee rbeg psize pclause peff pkin pgri psig psee qsize qclause qeff qkin qgri qsig qsee cdee cnow cahe kdee know kahe fc lf told up lo) H → va_D A (wPW T ad (ad 6) (ad 12) rs rm ts tm rdue rtun rsee rbeg psize pclause peff pkin pgri psig psee qsize qclause qeff qkin qgri qsig qsee cdee cnow cahe kdee know kahe fc lf told up lo) → va_S A s.heap H locs → ∀ (ls : Array Slot), lv_has ls 4 [(0, .ref (ad 0)), (1, .int x1), (2, .int x2), (3, .int x3)] → W p l e ({ frames := 4, cells := 0, slots := 0, locals := 88 } : Room) s m args below meth c H locs 0 0 Q (F0 m 4 ls []) := by
      intro x1
      intro nu
      induction nu with
      | zero => intro x2 x3 told h; exact none_some h
      | succ nu4 ih4 =>
        intro x2 x3 told h H locs hP hD hS ls hl
        have h : fL_outs_l4_b F psize pkin psig psee cnow x1 (fL_outs_l4 F psize pkin psig psee cnow x1 nu4) x2 x3 told = some (r, ztold) := h
        unfold fL_outs_l4_b at h
        refine lv_iload_n hx hb dL_outs_4 rfl (lv_at hl 3 rfl) ?_
        refine lv_iload_n hx hb dL_outs_5 rfl (lv_at hl 1 rfl) ?_
        refine lv_icmp_ge (tgt := 39) hx hb dL_outs_6 (by decide) (fun c6 => ?_) (fun c6 => ?_)
        · have h := br_1 h c6
          refine lv_iload_n hx hb dL_outs_39 rfl (lv_at hl 2 rfl) ?_
          cases h
          exact hret _ _ _ _ hP hD hS dL_outs_40
        · have h := br_0 h c6
          refine lv_aload_n hx hb dL_outs_9 rfl (lv_at hl 0 rfl) ?_
          refine lv_iload_n hx hb dL_outs_10 rfl (lv_at hl 3 rfl) ?_
          refine lv_iconst (v := (2 : Int32)) hx hb dL_outs_11 (by decide) ?_
          obtain ⟨r12, w12_told, hc, h⟩ := bd2_some h
          have hFc := my_freeS hD hS hA
          refine my_rwi (va_runV (As := [.int x3, .int (2 : Int32)]) (rest := []) hFix (kX5_guest l D T F ad rs rm ts tm rdue rtun rsee rbeg psize pclause peff pkin pgri psig psee qsize qclause qeff qkin qgri qsig qsee cdee cnow cahe kdee know kahe fc lf told up lo x3 (2 : Int32) r12 w12_told hc _) (cwV 2 hts gL_outs_X5_guest rfl rfl rfl ⟨rfl, hd_X5_guest⟩ ⟨Nat.le_of_ble_eq_true rfl, Nat.le_of_ble_eq_true rfl⟩) (preV_rw hP hKK hD (va_recv hK hP (ci := 3) (q0 := 0) rfl wPW_0)) rfl rfl hl.1 rfl (lv_room (Nat.le_of_ble_eq_true rfl)) dL_outs_12 ⟨Nat.zero_le _, Nat.zero_le _⟩) hS hFc (fun H1 locs hP1 hD1 hz1 hkk hS => ?_)
          have hP : va_P D vwCl (wPW T ad (ad 6) (ad 12) rs rm ts tm rdue rtun rsee rbeg psize pclause peff pkin pgri psig psee qsize qclause qeff qkin qgri qsig qsee cdee cnow cahe kdee know kahe fc lf w12_told up lo) H1 := hP1
          have hD : va_D A (wPW T ad (ad 6) (ad 12) rs rm ts tm rdue rtun rsee rbeg psize pclause peff pkin pgri psig psee qsize qclause qeff qkin qgri qsig qsee cdee cnow cahe kdee know kahe fc lf w12_told up lo) := hD1.weaken (fun _ q _ h => hFc q.1 h)
          generalize H1 = H at hP hS ⊢
          refine lv_iconst (v := (1 : Int32)) hx hb dL_outs_15 (by decide) ?_
          refine lv_icmp_ne (tgt := 33) hx hb dL_outs_16 (by decide) (fun c16 => ?_) (fun c16 => ?_)
          · have h := br_0 h c16
            refine lv_iinc (v := (x3 + (1 : Int32))) (lv' := [(3, .int (x3 + (1 : Int32))), (0, .ref (ad 0)), (1, .int x1), (2, .int x2)]) hx hb dL_outs_33 hl (k := 3) rfl rfl (by decide) rfl (fun ls hl => ?_)
            refine lv_goto (tgt := 4) hx hb dL_outs_36 (by decide) ?_
            exact ih4 x2 (x3 + (1 : Int32)) w12_told h _ _ hP hD hS _ (lv_sub hl [1, 2, 3, 0] rfl)
          · have h := br_1 h c16
            refine lv_aload_n hx hb dL_outs_19 rfl (lv_at hl 0 rfl) ?_
            obtain ⟨r20, hc, h⟩ := bd1_some h
            refine my_roi (va_Run.run (va_runV (As := []) (rest := []) hFix (kX5_asked l D T F ad rs rm ts tm rdue rtun rsee rbeg psize pclause peff pkin pgri psig psee qsize qclause qeff qkin qgri qsig qsee cdee cnow cahe kdee know kahe fc lf w12_told up lo r20 hc) (cwV 0 hts gL_outs_X5_asked rfl rfl rfl ⟨rfl, hd_X5_asked⟩ ⟨Nat.le_of_ble_eq_true rfl, Nat.le_of_ble_eq_true rfl⟩) (preV_ro hP hKK (va_recv hK hP (ci := 3) (q0 := 0) rfl wPW_0)) rfl rfl hl.1 rfl (lv_room (Nat.le_of_ble_eq_true rfl)) dL_outs_20 ⟨Nat.zero_le _, Nat.zero_le _⟩)) ?_
            refine lv_iconst (v := (1 : Int32)) hx hb dL_outs_23 (by decide) ?_
            refine lv_icmp_ne (tgt := 33) hx hb dL_outs_24 (by decide) (fun c24 => ?_) (fun c24 => ?_)
            · have h := br_0 h c24
              refine lv_iinc (v := (x3 + (1 : Int32))) (lv' := [(3, .int (x3 + (1 : Int32))), (0, .ref (ad 0)), (1, .int x1), (2, .int x2)]) hx hb dL_outs_33 hl (k := 3) rfl rfl (by decide) rfl (fun ls hl => ?_)
              refine lv_goto (tgt := 4) hx hb dL_outs_36 (by decide) ?_
              exact ih4 x2 (x3 + (1 : Int32)) w12_told h _ _ hP hD hS _ (lv_sub hl [1, 2, 3, 0] rfl)
            · have h := br_1 h c24
              refine lv_iload_n hx hb dL_outs_27 rfl (lv_at hl 2 rfl) ?_
              refine lv_iconst (v := (1 : Int32)) hx hb dL_outs_28 (by decide) ?_
              refine lv_iload_n hx hb dL_outs_29 rfl (lv_at hl 3 rfl) ?_
              refine lv_ishl hx hb dL_outs_30 ?_
              refine lv_ior hx hb dL_outs_31 ?_
              refine lv_istore_n (lv' := [(2, .int (x2 ||| ((1 : Int32) <<< (x3 &&& 31)))), (0, .ref (ad 0)), (1, .int x1), (3, .int x3)]) hx hb dL_outs_32 rfl hl (by decide) rfl (fun ls hl => ?_)
              refine lv_iinc (v := (x3 + (1 : Int32))) (lv' := [(3, .int (x3 + (1 : Int32))), (2, .int (x2 ||| ((1 : Int32) <<< (x3 &&& 31)))), (0, .ref (ad 0)), (1, .int x1)]) hx hb dL_outs_33 hl (k := 3) rfl rfl (by decide) rfl (fun ls hl => ?_)
              refine lv_goto (tgt := 4) hx hb dL_outs_36 (by decide) ?_
              exact ih4 (x2 ||| ((1 : Int32) <<< (x3 &&& 31))) (x3 + (1 : Int32)) w12_told h _ _ hP hD hS _ (lv_sub hl [2, 3, 1, 0] rfl)
    unfold fL_outs at h
    refine lv_iconst (v := (0 : Int32)) hx hb dL_outs_0 (by decide) ?_
    refine lv_istore_n (lv' := [(2, .int (0 : Int32)), (0, .ref (ad 0)), (1, .int x1)]) hx hb dL_outs_1 rfl hl (by decide) rfl (fun ls hl => ?_)
    refine lv_iconst (v := (0 : Int32)) hx hb dL_outs_2 (by decide) ?_
    refine lv_istore_n (lv' := [(3, .int (0 : Int32)), (2, .int (0 : Int32)), (0, .ref (ad 0)), (1, .int x1)]) hx hb dL_outs_3 rfl hl (by decide) rfl (fun ls hl => ?_)
    exact l4 x1 F (0 : Int32) (0 : Int32) told h _ _ hP hD hS _ (lv_sub hl [2, 3, 1, 0] rfl)
  exact key _ (fun H locs pc ls hP hD hS hd => W.iret hx hb hr (fun t ht hW => ⟨⟨_, (), rfl, rfl, by show _ ∧ _; rw [ht]; exact ⟨hP, hD⟩⟩, hS.F ht⟩) hS.2.2 hd)
