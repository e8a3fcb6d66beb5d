set_option maxHeartbeats 4000000 in
set_option maxRecDepth 100000 in
theorem kX4_takesClause (l : Launch) (D : va_G) (T : Nat → ClassId) (F : Nat) (b0 : Nat) (a0 : Nat) (a1 : Nat) (a2 : Nat) (a3 : Nat) (a4 : Nat) (a5 : Nat) (rdue : Int32) (rtun : Int32) (rsee : Int32) (rbeg : Int32) (size : Int32) (clause : Int32) (eff : Nat → Int32) (kin : Nat → Int32) (gri : Nat → Int32) (sig : Nat → Int32) (see : Nat → Int32) (x1 : Int32) (r : Int32) (zrdue : Int32) (zclause : Int32) (h : fX4_takesClause F rdue clause x1 = some (r, zrdue, zclause)) : ∀ sz : Nat, Met l yX4_takesClause wsX4_takesClause ({ frames := 0, cells := 0, slots := 0, locals := 0 } : Room) (va_Pc [.ref b0, .int x1, .ref a0] (fun U => U.heap.size = sz ∧ va_P D vwCl (wRP T b0 a0 a1 a2 a3 a4 a5 rdue rtun rsee rbeg size clause eff kin gri sig see) U.heap ∧ KK D T U ∧ va_D (fun _ => True) (wRP T b0 a0 a1 a2 a3 a4 a5 rdue rtun rsee rbeg size clause eff kin gri sig see))) (va_Qi (fun r' (_ : Unit) => r' = r ∧ b01 r) (fun _ t => va_P D vwCl (wRP T b0 a0 a1 a2 a3 a4 a5 zrdue rtun rsee rbeg size zclause eff kin gri sig see) t.heap ∧ va_D (va_A (wRP T b0 a0 a1 a2 a3 a4 a5 rdue rtun rsee rbeg size clause eff kin gri sig see) sz) (wRP T b0 a0 a1 a2 a3 a4 a5 zrdue rtun rsee rbeg size zclause eff kin gri sig see)) (va_A (wRP T b0 a0 a1 a2 a3 a4 a5 rdue rtun rsee rbeg size clause eff kin gri sig see) sz)) 0 0 (va_A (wRP T b0 a0 a1 a2 a3 a4 a5 rdue rtun rsee rbeg size clause eff kin gri sig see) sz) := by
  intro sz
  refine Met.ofW (cc := cX4_takesClause) (maxL := 3) (ret := some .boolean) (by decide) rfl ?_
  intro p e s m args below meth c s₁ B hml hv
  obtain ⟨ha, hsz, hP, hKK, hD0⟩ := hv
  have hx := B.exec
  have hb := B.bytes
  have hr := B.returns
  have hts := atoms_spec (ws := wsX4_takesClause) B.pre
  have hown : s.vm.findClass RX4 = some m.cls := findClass_of_methodNamed B.named
  have hlocks := B.notSynchronized
  have hK := hKK.1
  have hFix : CallFix p m c cX4_takesClause 3 s args wsX4_takesClause RX4 := ⟨hx, hb, hml, hown, hts⟩
  have q1 := hts _ (List.mem_of_getElem? (i := 1) (show wsX4_takesClause[1]? = some (Cond.fieldLink RX4 11 "PartyWill$Reader" "due" "I") from rfl))
  have iX2 : ∀ w ∈ u_ws RX2 TX2 7, w ∈ wsX4_takesClause := fun w h => List.mem_cons_of_mem _ (List.mem_append_left _ (List.mem_append_right _ (h)))
  have iX4 : ∀ w ∈ u_ws RX4 TX4 4, w ∈ wsX4_takesClause := fun w h => List.mem_cons_of_mem _ (List.mem_append_right _ (h))
  subst hsz
  have hD := hD0.self (sz := s.heap.size)
  generalize hAe : va_A (wRP T b0 a0 a1 a2 a3 a4 a5 rdue rtun rsee rbeg size clause eff kin gri sig see) s.heap.size = A at hD ⊢
  have hA : ∀ q : Nat, s.heap.size ≤ q → A q := fun q h => by rw [← hAe]; exact Or.inr h
  have hS : va_S A s.heap s.heap [] := va_S.rf
  have hP : va_P D vwCl (wRP T b0 a0 a1 a2 a3 a4 a5 rdue rtun rsee rbeg size clause eff kin gri sig see) s.heap := hP
  obtain ⟨ls, hl, e0⟩ := my_entry (m := m) (n := 3) ha (Nat.le_of_ble_eq_true rfl)
  rw [e0]
  have hl : lv_has ls 3 [(0, .ref b0), (1, .int x1), (2, .ref a0)] := hl
  have key : ∀ Q : State → Prop, (∀ (H : Heap) (locs : List Loc) (pc : Nat) (ls : Array Slot), va_P D vwCl (wRP T b0 a0 a1 a2 a3 a4 a5 zrdue rtun rsee rbeg size zclause eff kin gri sig see) H → va_D A (wRP T b0 a0 a1 a2 a3 a4 a5 zrdue rtun rsee rbeg size zclause eff kin gri sig see) → va_S A s.heap H locs → decode cX4_takesClause pc = .ok (.ireturn, 1) → b01 r → W p l e ({ frames := 0, cells := 0, slots := 0, locals := 0 } : Room) s m args below meth c H locs 0 0 Q (F0 m pc ls [.int r])) → W p l e ({ frames := 0, cells := 0, slots := 0, locals := 0 } : Room) s m args below meth c s.heap [] 0 0 Q (F0 m 0 ls []) := by
    intro Q hret
    skip
    unfold fX4_takesClause at h
    refine lv_aload_n hx hb dX4_takesClause_0 rfl (lv_at hl 2 rfl) ?_
    refine lv_iload_n hx hb dX4_takesClause_1 rfl (lv_at hl 1 rfl) ?_
    refine va_putN (host := "PartyWill") (D := D) (ci := 1) (v := .int x1) (ty := .int) (C := RX2) (T := TX2) (N := 7) hx hb hts iX2 tyX2 tyX2_ok nmX2 hown hK hP hD hS 1 wRP_1 rfl 1 (by decide) (va_Nw.use rfl (nw_X4_59 hKK.2)) (fun _ h9 => h9) rfl (by decide +kernel) rfl rfl (Nat.le_of_ble_eq_true rfl) dX4_takesClause_2 (fun H locs hP hD hS => ?_)
    have hP : va_P D vwCl (wRP T b0 a0 a1 a2 a3 a4 a5 rdue rtun rsee rbeg size x1 eff kin gri sig see) H := hP
    have hD : va_D A (wRP T b0 a0 a1 a2 a3 a4 a5 rdue rtun rsee rbeg size x1 eff kin gri sig see) := hD
    refine lv_aload_n hx hb dX4_takesClause_5 rfl (lv_at hl 0 rfl) ?_
    refine lv_iconst (v := (2 : Int32)) hx hb dX4_takesClause_6 (by decide) ?_
    refine va_put (D := D) (ci := 2) (v := .int (2 : Int32)) (ty := .int) (C := RX4) (T := TX4) (N := 4) hx hb hts iX4 tyX4 tyX4_ok nmX4 hown hK hP hD hS 0 wRP_0 rfl 0 (by decide) q1 (fun _ h9 => h9) rfl (by decide +kernel) rfl rfl (Nat.le_of_ble_eq_true rfl) dX4_takesClause_7 (fun H locs hP hD hS => ?_)
    have hP : va_P D vwCl (wRP T b0 a0 a1 a2 a3 a4 a5 (2 : Int32) rtun rsee rbeg size x1 eff kin gri sig see) H := hP
    have hD : va_D A (wRP T b0 a0 a1 a2 a3 a4 a5 (2 : Int32) rtun rsee rbeg size x1 eff kin gri sig see) := hD
    refine lv_iload_n hx hb dX4_takesClause_10 rfl (lv_at hl 1 rfl) ?_
    refine lv_iconst (v := (1 : Int32)) hx hb dX4_takesClause_11 (by decide) ?_
    refine lv_icmp_lt (tgt := 25) hx hb dX4_takesClause_12 (by decide) (fun c12 => ?_) (fun c12 => ?_)
    · have h := br_1 h c12
      refine lv_iconst (v := (0 : Int32)) hx hb dX4_takesClause_25 (by decide) ?_
      cases h
      exact hret _ _ _ _ hP hD hS dX4_takesClause_26 (Or.inl rfl)
    · have h := br_0 h c12
      refine lv_iload_n hx hb dX4_takesClause_15 rfl (lv_at hl 1 rfl) ?_
      refine lv_bipush (v := (9 : Int32)) hx hb dX4_takesClause_16 (by decide) ?_
      refine lv_icmp_gt (tgt := 25) hx hb dX4_takesClause_18 (by decide) (fun c18 => ?_) (fun c18 => ?_)
      · have h := br_1 h c18
        refine lv_iconst (v := (0 : Int32)) hx hb dX4_takesClause_25 (by decide) ?_
        cases h
        exact hret _ _ _ _ hP hD hS dX4_takesClause_26 (Or.inl rfl)
      · have h := br_0 h c18
        refine lv_iconst (v := (1 : Int32)) hx hb dX4_takesClause_21 (by decide) ?_
        refine lv_goto (tgt := 26) hx hb dX4_takesClause_22 (by decide) ?_
        cases h
        exact hret _ _ _ _ hP hD hS dX4_takesClause_26 (Or.inr rfl)
  exact key _ (fun H locs pc ls hP hD hS hd hb1 => W.zret hx hb hr (b01_n hb1) (fun t ht hW => ⟨⟨_, (), rfl, ⟨rfl, hb1⟩, by show _ ∧ _; rw [ht]; exact ⟨hP, hD⟩⟩, hS.F ht⟩) hS.2.2 hd)
set_option maxHeartbeats 4000000 in
set_option maxRecDepth 100000 in
theorem kX4_isFigure (l : Launch) (D : va_G) (T : Nat → ClassId) (F : Nat) (x0 : Int32) (r : Int32) (h : fX4_isFigure F x0 = some (r)) : Met l yX4_isFigure wsX4_isFigure ({ frames := 0, cells := 0, slots := 0, locals := 0 } : Room) (va_Pc [.int x0] (fun U => va_P D vwCl ([] : va_W) U.heap ∧ KK D T U)) (vp_Si (fun r' => r' = r ∧ b01 r)) 0 0 (fun _ => False) := by
  refine Met.ofW (cc := cX4_isFigure) (maxL := 1) (ret := some .boolean) (by decide) rfl ?_
  intro p e s m args below meth c s₁ B hml hv
  obtain ⟨ha, hP, hKK⟩ := hv
  have hx := B.exec
  have hb := B.bytes
  have hr := B.returns
  have hts := atoms_spec (ws := wsX4_isFigure) B.pre
  have hown : s.vm.findClass RX4 = some m.cls := findClass_of_methodNamed B.named
  have hlocks := B.notSynchronized
  have hK := hKK.1
  have hFix : CallFix p m c cX4_isFigure 1 s args wsX4_isFigure RX4 := ⟨hx, hb, hml, hown, hts⟩
  obtain ⟨ls, hl, e0⟩ := my_entry (m := m) (n := 1) ha (Nat.le_of_ble_eq_true rfl)
  rw [e0]
  have hl : lv_has ls 1 [(0, .int x0)] := hl
  have key : ∀ Q : State → Prop, (∀ (pc : Nat) (ls : Array Slot), decode cX4_isFigure pc = .ok (.ireturn, 1) → b01 r → W p l e ({ frames := 0, cells := 0, slots := 0, locals := 0 } : Room) s m args below meth c s.heap [] 0 0 Q (F0 m pc ls [.int r])) → W p l e ({ frames := 0, cells := 0, slots := 0, locals := 0 } : Room) s m args below meth c s.heap [] 0 0 Q (F0 m 0 ls []) := by
    intro Q hret
    unfold fX4_isFigure at h
    refine lv_iload_n hx hb dX4_isFigure_0 rfl (lv_at hl 0 rfl) ?_
    refine lv_if_lt (tgt := 14) hx hb dX4_isFigure_1 (by decide) (fun c1 => ?_) (fun c1 => ?_)
    · have h := br_1 h c1
      refine lv_iconst (v := (0 : Int32)) hx hb dX4_isFigure_14 (by decide) ?_
      cases h
      exact hret _ _ dX4_isFigure_15 (Or.inl rfl)
    · have h := br_0 h c1
      refine lv_iload_n hx hb dX4_isFigure_4 rfl (lv_at hl 0 rfl) ?_
      refine lv_bipush (v := (9 : Int32)) hx hb dX4_isFigure_5 (by decide) ?_
      refine lv_icmp_gt (tgt := 14) hx hb dX4_isFigure_7 (by decide) (fun c7 => ?_) (fun c7 => ?_)
      · have h := br_1 h c7
        refine lv_iconst (v := (0 : Int32)) hx hb dX4_isFigure_14 (by decide) ?_
        cases h
        exact hret _ _ dX4_isFigure_15 (Or.inl rfl)
      · have h := br_0 h c7
        refine lv_iconst (v := (1 : Int32)) hx hb dX4_isFigure_10 (by decide) ?_
        refine lv_goto (tgt := 15) hx hb dX4_isFigure_11 (by decide) ?_
        cases h
        exact hret _ _ dX4_isFigure_15 (Or.inr rfl)
  exact key _ (fun pc ls hd hb1 => W.zret hx hb hr (b01_n hb1) (fun t ht hW => ⟨_, rfl, ⟨rfl, hb1⟩, ht⟩) (fun q h => by cases h) hd)
set_option maxHeartbeats 4000000 in
set_option maxRecDepth 100000 in
theorem kX5_isTune (l : Launch) (D : va_G) (T : Nat → ClassId) (F : Nat) (x0 : Int32) (r : Int32) (h : fX5_isTune F x0 = some (r)) : Met l yX5_isTune wsX5_isTune ({ frames := 0, cells := 0, slots := 0, locals := 0 } : Room) (va_Pc [.int x0] (fun U => va_P D vwCl ([] : va_W) U.heap ∧ KK D T U)) (vp_Si (fun r' => r' = r ∧ b01 r)) 0 0 (fun _ => False) := by
  refine Met.ofW (cc := cX5_isTune) (maxL := 1) (ret := some .boolean) (by decide) rfl ?_
  intro p e s m args below meth c s₁ B hml hv
  obtain ⟨ha, hP, hKK⟩ := hv
  have hx := B.exec
  have hb := B.bytes
  have hr := B.returns
  have hts := atoms_spec (ws := wsX5_isTune) B.pre
  have hown : s.vm.findClass RX5 = some m.cls := findClass_of_methodNamed B.named
  have hlocks := B.notSynchronized
  have hK := hKK.1
  have hFix : CallFix p m c cX5_isTune 1 s args wsX5_isTune RX5 := ⟨hx, hb, hml, hown, hts⟩
  obtain ⟨ls, hl, e0⟩ := my_entry (m := m) (n := 1) ha (Nat.le_of_ble_eq_true rfl)
  rw [e0]
  have hl : lv_has ls 1 [(0, .int x0)] := hl
  have key : ∀ Q : State → Prop, (∀ (pc : Nat) (ls : Array Slot), decode cX5_isTune pc = .ok (.ireturn, 1) → b01 r → W p l e ({ frames := 0, cells := 0, slots := 0, locals := 0 } : Room) s m args below meth c s.heap [] 0 0 Q (F0 m pc ls [.int r])) → W p l e ({ frames := 0, cells := 0, slots := 0, locals := 0 } : Room) s m args below meth c s.heap [] 0 0 Q (F0 m 0 ls []) := by
    intro Q hret
    unfold fX5_isTune at h
    refine lv_iload_n hx hb dX5_isTune_0 rfl (lv_at hl 0 rfl) ?_
    refine lv_if_lt (tgt := 13) hx hb dX5_isTune_1 (by decide) (fun c1 => ?_) (fun c1 => ?_)
    · have h := br_1 h c1
      refine lv_iconst (v := (0 : Int32)) hx hb dX5_isTune_13 (by decide) ?_
      cases h
      exact hret _ _ dX5_isTune_14 (Or.inl rfl)
    · have h := br_0 h c1
      refine lv_iload_n hx hb dX5_isTune_4 rfl (lv_at hl 0 rfl) ?_
      refine lv_iconst (v := (4 : Int32)) hx hb dX5_isTune_5 (by decide) ?_
      refine lv_icmp_ge (tgt := 13) hx hb dX5_isTune_6 (by decide) (fun c6 => ?_) (fun c6 => ?_)
      · have h := br_1 h c6
        refine lv_iconst (v := (0 : Int32)) hx hb dX5_isTune_13 (by decide) ?_
        cases h
        exact hret _ _ dX5_isTune_14 (Or.inl rfl)
      · have h := br_0 h c6
        refine lv_iconst (v := (1 : Int32)) hx hb dX5_isTune_9 (by decide) ?_
        refine lv_goto (tgt := 14) hx hb dX5_isTune_10 (by decide) ?_
        cases h
        exact hret _ _ dX5_isTune_14 (Or.inr rfl)
  exact key _ (fun pc ls hd hb1 => W.zret hx hb hr (b01_n hb1) (fun t ht hW => ⟨_, rfl, ⟨rfl, hb1⟩, ht⟩) (fun q h => by cases h) hd)
set_option maxHeartbeats 4000000 in
set_option maxRecDepth 100000 in
theorem kX4_takesEffect (l : Launch) (D : va_G) (T : Nat → ClassId) (F : Nat) (b0 : Nat) (a0 : Nat) (a1 : Nat) (a2 : Nat) (a3 : Nat) (a4 : Nat) (a5 : Nat) (rdue : Int32) (rtun : Int32) (rsee : Int32) (rbeg : Int32) (size : Int32) (clause : Int32) (eff : Nat → Int32) (kin : Nat → Int32) (gri : Nat → Int32) (sig : Nat → Int32) (see : Nat → Int32) (x1 : Int32) (r : Int32) (zrdue : Int32) (zrtun : Int32) (zeff : Nat → Int32) (h : fX4_takesEffect F rdue rtun eff x1 = some (r, zrdue, zrtun, zeff)) : ∀ sz : Nat, Met l yX4_takesEffect wsX4_takesEffect ({ frames := 1, cells := 0, slots := 0, locals := 20 } : Room) (va_Pc [.ref b0, .int x1, .ref a0] (fun U => U.heap.size = sz ∧ va_P D vwCl (wRP T b0 a0 a1 a2 a3 a4 a5 rdue rtun rsee rbeg size clause eff kin gri sig see) U.heap ∧ KK D T U ∧ va_D (fun _ => True) (wRP T b0 a0 a1 a2 a3 a4 a5 rdue rtun rsee rbeg size clause eff kin gri sig see))) (va_Qi (fun r' (_ : Unit) => r' = r ∧ b01 r) (fun _ t => va_P D vwCl (wRP T b0 a0 a1 a2 a3 a4 a5 zrdue zrtun rsee rbeg size clause zeff kin gri sig see) t.heap ∧ va_D (va_A (wRP T b0 a0 a1 a2 a3 a4 a5 rdue rtun rsee rbeg size clause eff kin gri sig see) sz) (wRP T b0 a0 a1 a2 a3 a4 a5 zrdue zrtun rsee rbeg size clause zeff kin gri sig see)) (va_A (wRP T b0 a0 a1 a2 a3 a4 a5 rdue rtun rsee rbeg size clause eff kin gri sig see) sz)) 0 0 (va_A (wRP T b0 a0 a1 a2 a3 a4 a5 rdue rtun rsee rbeg size clause eff kin gri sig see) sz) := by
  intro sz
  refine Met.ofW (cc := cX4_takesEffect) (maxL := 3) (ret := some .boolean) (by decide) rfl ?_
  intro p e s m args below meth c s₁ B hml hv
  obtain ⟨ha, hsz, hP, hKK, hD0⟩ := hv
  have hx := B.exec
  have hb := B.bytes
  have hr := B.returns
  have hts := atoms_spec (ws := wsX4_takesEffect) B.pre
  have hown : s.vm.findClass RX4 = some m.cls := findClass_of_methodNamed B.named
  have hlocks := B.notSynchronized
  have hK := hKK.1
  have hFix : CallFix p m c cX4_takesEffect 3 s args wsX4_takesEffect RX4 := ⟨hx, hb, hml, hown, hts⟩
  have q1 := hts _ (List.mem_of_getElem? (i := 1) (show wsX4_takesEffect[1]? = some (Cond.fieldLink RX4 15 "PartyWill$Reader" "tune" "I") from rfl))
  have q2 := hts _ (List.mem_of_getElem? (i := 2) (show wsX4_takesEffect[2]? = some (Cond.fieldLink RX4 11 "PartyWill$Reader" "due" "I") from rfl))
  have q7 := hts _ (List.mem_of_getElem? (i := 7) (show wsX4_takesEffect[7]? = some (Cond.static yX5_isTune) from rfl))
  have q8 := hts _ (List.mem_of_getElem? (i := 8) (show wsX4_takesEffect[8]? = some (Cond.initialized RX5) from rfl))
  have iX2 : ∀ w ∈ u_ws RX2 TX2 7, w ∈ wsX4_takesEffect := fun w h => List.mem_cons_of_mem _ (List.mem_append_right _ (h))
  have iX4 : ∀ w ∈ u_ws RX4 TX4 4, w ∈ wsX4_takesEffect := fun w h => List.mem_cons_of_mem _ (List.mem_append_left _ (List.mem_append_right _ (h)))
  subst hsz
  have hD := hD0.self (sz := s.heap.size)
  generalize hAe : va_A (wRP T b0 a0 a1 a2 a3 a4 a5 rdue rtun rsee rbeg size clause eff kin gri sig see) s.heap.size = A at hD ⊢
  have hA : ∀ q : Nat, s.heap.size ≤ q → A q := fun q h => by rw [← hAe]; exact Or.inr h
  have hS : va_S A s.heap s.heap [] := va_S.rf
  have hP : va_P D vwCl (wRP T b0 a0 a1 a2 a3 a4 a5 rdue rtun rsee rbeg size clause eff kin gri sig see) s.heap := hP
  obtain ⟨ls, hl, e0⟩ := my_entry (m := m) (n := 3) ha (Nat.le_of_ble_eq_true rfl)
  rw [e0]
  have hl : lv_has ls 3 [(0, .ref b0), (1, .int x1), (2, .ref a0)] := hl
  have key : ∀ Q : State → Prop, (∀ (H : Heap) (locs : List Loc) (pc : Nat) (ls : Array Slot), va_P D vwCl (wRP T b0 a0 a1 a2 a3 a4 a5 zrdue zrtun rsee rbeg size clause zeff kin gri sig see) H → va_D A (wRP T b0 a0 a1 a2 a3 a4 a5 zrdue zrtun rsee rbeg size clause zeff kin gri sig see) → va_S A s.heap H locs → decode cX4_takesEffect pc = .ok (.ireturn, 1) → b01 r → W p l e ({ frames := 1, cells := 0, slots := 0, locals := 20 } : Room) s m args below meth c H locs 0 0 Q (F0 m pc ls [.int r])) → W p l e ({ frames := 1, cells := 0, slots := 0, locals := 20 } : Room) s m args below meth c s.heap [] 0 0 Q (F0 m 0 ls []) := by
    intro Q hret
    skip
    unfold fX4_takesEffect at h
    refine lv_iload_n hx hb dX4_takesEffect_0 rfl (lv_at hl 1 rfl) ?_
    obtain ⟨r1, hc, h⟩ := bd1_some h
    refine my_roz (va_Run.run (va_runS (As := [.int x1]) (rest := []) hFix (kX4_isFigure l D T F x1 r1 hc) (va_cwS 1 hts gX4_takesEffect_X4_isFigure rfl rfl rfl hd_X4_isFigure ⟨Nat.le_of_ble_eq_true rfl, Nat.le_of_ble_eq_true rfl⟩) (preS_ro va_nil hKK) rfl rfl hl.1 rfl (lv_room (Nat.le_of_ble_eq_true rfl)) dX4_takesEffect_1 ⟨Nat.zero_le _, Nat.zero_le _⟩)) (fun hb1 => ?_)
    refine lv_if_eq (tgt := 17) hx hb dX4_takesEffect_4 (by decide) (fun c4 => ?_) (fun c4 => ?_)
    · have h := br_1 h c4
      refine lv_iconst (v := (0 : Int32)) hx hb dX4_takesEffect_17 (by decide) ?_
      cases h
      exact hret _ _ _ _ hP hD hS dX4_takesEffect_18 (Or.inl rfl)
    · have h := br_0 h c4
      refine lv_aload_n hx hb dX4_takesEffect_7 rfl (lv_at hl 0 rfl) ?_
      refine va_get (D := D) (ci := 2) (C := RX4) (T := TX4) (N := 4) hx hb hts iX4 hown hK hP 0 wRP_0 rfl 1 (by decide) q1 (fun _ h9 => h9) rfl dX4_takesEffect_8 ?_
      obtain ⟨r11, hc, h⟩ := bd1_some h
      refine my_roz (va_Run.run (va_runSN (host := "PartyWill") (As := [.int rtun]) (rest := []) hFix (kX5_isTune l D T F rtun r11 hc) ⟨va_cnB 1 hts gX4_takesEffect_X5_isTune_n65 rfl rfl rfl (nw_X4_65 hKK.2) q8 hd_X5_isTune ⟨Nat.le_of_ble_eq_true rfl, Nat.le_of_ble_eq_true rfl⟩, q7, trivial⟩ (preS_ro va_nil hKK) rfl rfl hl.1 rfl (lv_room (Nat.le_of_ble_eq_true rfl)) dX4_takesEffect_11 ⟨Nat.zero_le _, Nat.zero_le _⟩)) (fun hb11 => ?_)
      refine lv_if_ne (tgt := 19) hx hb dX4_takesEffect_14 (by decide) (fun c14 => ?_) (fun c14 => ?_)
      · have h := br_0 h c14
        refine lv_aload_n hx hb dX4_takesEffect_19 rfl (lv_at hl 2 rfl) ?_
        refine va_getN (host := "PartyWill") (D := D) (ci := 1) (C := RX2) (T := TX2) (N := 7) hx hb hts iX2 hown hK hP 1 wRP_1 rfl 2 (by decide) (va_Nw.use rfl (nw_X4_68 hKK.2)) (fun _ h9 => h9) rfl dX4_takesEffect_20 ?_
        refine lv_aload_n hx hb dX4_takesEffect_23 rfl (lv_at hl 0 rfl) ?_
        refine va_get (D := D) (ci := 2) (C := RX4) (T := TX4) (N := 4) hx hb hts iX4 hown hK hP 0 wRP_0 rfl 1 (by decide) q1 (fun _ h9 => h9) rfl dX4_takesEffect_24 ?_
        refine lv_iload_n hx hb dX4_takesEffect_27 rfl (lv_at hl 1 rfl) ?_
        refine lv_bipush (v := (-4 : Int32)) hx hb dX4_takesEffect_28 (by decide) ?_
        refine lv_iadd hx hb dX4_takesEffect_30 ?_
        obtain ⟨hin1, h⟩ := ck_some h
        refine va_iast hx hb hK hP hD hS 2 0 wRP_2 rfl hin1 dX4_takesEffect_31 (fun H locs hP hD hS => ?_)
        have hP : va_P D vwCl (wRP T b0 a0 a1 a2 a3 a4 a5 rdue rtun rsee rbeg size clause (upd eff rtun.toNatClampNeg (x1 + (-4 : Int32))) kin gri sig see) H := hP
        have hD : va_D A (wRP T b0 a0 a1 a2 a3 a4 a5 rdue rtun rsee rbeg size clause (upd eff rtun.toNatClampNeg (x1 + (-4 : Int32))) kin gri sig see) := hD
        refine lv_aload_n hx hb dX4_takesEffect_32 rfl (lv_at hl 0 rfl) ?_
        refine lv_dup hx hb dX4_takesEffect_33 rfl ?_
        refine va_get (D := D) (ci := 2) (C := RX4) (T := TX4) (N := 4) hx hb hts iX4 hown hK hP 0 wRP_0 rfl 1 (by decide) q1 (fun _ h9 => h9) rfl dX4_takesEffect_34 ?_
        refine lv_iconst (v := (1 : Int32)) hx hb dX4_takesEffect_37 (by decide) ?_
        refine lv_iadd hx hb dX4_takesEffect_38 ?_
        refine va_put (D := D) (ci := 2) (v := .int (rtun + (1 : Int32))) (ty := .int) (C := RX4) (T := TX4) (N := 4) hx hb hts iX4 tyX4 tyX4_ok nmX4 hown hK hP hD hS 0 wRP_0 rfl 1 (by decide) q1 (fun _ h9 => h9) rfl (by decide +kernel) rfl rfl (Nat.le_of_ble_eq_true rfl) dX4_takesEffect_39 (fun H locs hP hD hS => ?_)
        have hP : va_P D vwCl (wRP T b0 a0 a1 a2 a3 a4 a5 rdue (rtun + (1 : Int32)) rsee rbeg size clause (upd eff rtun.toNatClampNeg (x1 + (-4 : Int32))) kin gri sig see) H := hP
        have hD : va_D A (wRP T b0 a0 a1 a2 a3 a4 a5 rdue (rtun + (1 : Int32)) rsee rbeg size clause (upd eff rtun.toNatClampNeg (x1 + (-4 : Int32))) kin gri sig see) := hD
        refine lv_aload_n hx hb dX4_takesEffect_42 rfl (lv_at hl 0 rfl) ?_
        refine lv_aload_n hx hb dX4_takesEffect_43 rfl (lv_at hl 0 rfl) ?_
        refine va_get (D := D) (ci := 2) (C := RX4) (T := TX4) (N := 4) hx hb hts iX4 hown hK hP 0 wRP_0 rfl 1 (by decide) q1 (fun _ h9 => h9) rfl dX4_takesEffect_44 ?_
        refine lv_iconst (v := (4 : Int32)) hx hb dX4_takesEffect_47 (by decide) ?_
        refine lv_icmp_ge (tgt := 55) hx hb dX4_takesEffect_48 (by decide) (fun c48 => ?_) (fun c48 => ?_)
        · have h := br_1 h c48
          refine lv_iconst (v := (3 : Int32)) hx hb dX4_takesEffect_55 (by decide) ?_
          refine va_put (D := D) (ci := 2) (v := .int (3 : Int32)) (ty := .int) (C := RX4) (T := TX4) (N := 4) hx hb hts iX4 tyX4 tyX4_ok nmX4 hown hK hP hD hS 0 wRP_0 rfl 0 (by decide) q2 (fun _ h9 => h9) rfl (by decide +kernel) rfl rfl (Nat.le_of_ble_eq_true rfl) dX4_takesEffect_56 (fun H locs hP hD hS => ?_)
          have hP : va_P D vwCl (wRP T b0 a0 a1 a2 a3 a4 a5 (3 : Int32) (rtun + (1 : Int32)) rsee rbeg size clause (upd eff rtun.toNatClampNeg (x1 + (-4 : Int32))) kin gri sig see) H := hP
          have hD : va_D A (wRP T b0 a0 a1 a2 a3 a4 a5 (3 : Int32) (rtun + (1 : Int32)) rsee rbeg size clause (upd eff rtun.toNatClampNeg (x1 + (-4 : Int32))) kin gri sig see) := hD
          refine lv_iconst (v := (1 : Int32)) hx hb dX4_takesEffect_59 (by decide) ?_
          cases h
          exact hret _ _ _ _ hP hD hS dX4_takesEffect_60 (Or.inr rfl)
        · have h := br_0 h c48
          refine lv_iconst (v := (2 : Int32)) hx hb dX4_takesEffect_51 (by decide) ?_
          refine lv_goto (tgt := 56) hx hb dX4_takesEffect_52 (by decide) ?_
          refine va_put (D := D) (ci := 2) (v := .int (2 : Int32)) (ty := .int) (C := RX4) (T := TX4) (N := 4) hx hb hts iX4 tyX4 tyX4_ok nmX4 hown hK hP hD hS 0 wRP_0 rfl 0 (by decide) q2 (fun _ h9 => h9) rfl (by decide +kernel) rfl rfl (Nat.le_of_ble_eq_true rfl) dX4_takesEffect_56 (fun H locs hP hD hS => ?_)
          have hP : va_P D vwCl (wRP T b0 a0 a1 a2 a3 a4 a5 (2 : Int32) (rtun + (1 : Int32)) rsee rbeg size clause (upd eff rtun.toNatClampNeg (x1 + (-4 : Int32))) kin gri sig see) H := hP
          have hD : va_D A (wRP T b0 a0 a1 a2 a3 a4 a5 (2 : Int32) (rtun + (1 : Int32)) rsee rbeg size clause (upd eff rtun.toNatClampNeg (x1 + (-4 : Int32))) kin gri sig see) := hD
          refine lv_iconst (v := (1 : Int32)) hx hb dX4_takesEffect_59 (by decide) ?_
          cases h
          exact hret _ _ _ _ hP hD hS dX4_takesEffect_60 (Or.inr rfl)
      · have h := br_1 h c14
        refine lv_iconst (v := (0 : Int32)) hx hb dX4_takesEffect_17 (by decide) ?_
        cases h
        exact hret _ _ _ _ hP hD hS dX4_takesEffect_18 (Or.inl rfl)
  exact key _ (fun H locs pc ls hP hD hS hd hb1 => W.zret hx hb hr (b01_n hb1) (fun t ht hW => ⟨⟨_, (), rfl, ⟨rfl, hb1⟩, by show _ ∧ _; rw [ht]; exact ⟨hP, hD⟩⟩, hS.F ht⟩) hS.2.2 hd)
