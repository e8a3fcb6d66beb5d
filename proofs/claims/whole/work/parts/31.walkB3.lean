set_option maxHeartbeats 4000000 in
set_option maxRecDepth 100000 in
theorem kX4_takesGrief (l : Launch) (D : va_G) (T : Nat → ClassId) (F : Nat) (b0 : Nat) (a0 : Nat) (a1 : Nat) (a2 : Nat) (a3 : Nat) (a4 : Nat) (a5 : Nat) (rdue : Int32) (rtun : Int32) (rsee : Int32) (rbeg : Int32) (size : Int32) (clause : Int32) (eff : Nat → Int32) (kin : Nat → Int32) (gri : Nat → Int32) (sig : Nat → Int32) (see : Nat → Int32) (x1 : Int32) (r : Int32) (zrdue : Int32) (zsize : Int32) (zgri : Nat → Int32) (h : fX4_takesGrief F rdue size gri x1 = some (r, zrdue, zsize, zgri)) : ∀ sz : Nat, Met l yX4_takesGrief wsX4_takesGrief ({ frames := 1, cells := 0, slots := 0, locals := 20 } : Room) (va_Pc [.ref b0, .int x1, .ref a0] (fun U => U.heap.size = sz ∧ va_P D vwCl (wRP T b0 a0 a1 a2 a3 a4 a5 rdue rtun rsee rbeg size clause eff kin gri sig see) U.heap ∧ KK D T U ∧ va_D (fun _ => True) (wRP T b0 a0 a1 a2 a3 a4 a5 rdue rtun rsee rbeg size clause eff kin gri sig see))) (va_Qi (fun r' (_ : Unit) => r' = r ∧ b01 r) (fun _ t => va_P D vwCl (wRP T b0 a0 a1 a2 a3 a4 a5 zrdue rtun rsee rbeg zsize clause eff kin zgri sig see) t.heap ∧ va_D (va_A (wRP T b0 a0 a1 a2 a3 a4 a5 rdue rtun rsee rbeg size clause eff kin gri sig see) sz) (wRP T b0 a0 a1 a2 a3 a4 a5 zrdue rtun rsee rbeg zsize clause eff kin zgri sig see)) (va_A (wRP T b0 a0 a1 a2 a3 a4 a5 rdue rtun rsee rbeg size clause eff kin gri sig see) sz)) 0 0 (va_A (wRP T b0 a0 a1 a2 a3 a4 a5 rdue rtun rsee rbeg size clause eff kin gri sig see) sz) := by
  intro sz
  refine Met.ofW (cc := cX4_takesGrief) (maxL := 3) (ret := some .boolean) (by decide) rfl ?_
  intro p e s m args below meth c s₁ B hml hv
  obtain ⟨ha, hsz, hP, hKK, hD0⟩ := hv
  have hx := B.exec
  have hb := B.bytes
  have hr := B.returns
  have hts := atoms_spec (ws := wsX4_takesGrief) B.pre
  have hown : s.vm.findClass RX4 = some m.cls := findClass_of_methodNamed B.named
  have hlocks := B.notSynchronized
  have hK := hKK.1
  have hFix : CallFix p m c cX4_takesGrief 3 s args wsX4_takesGrief RX4 := ⟨hx, hb, hml, hown, hts⟩
  have q1 := hts _ (List.mem_of_getElem? (i := 1) (show wsX4_takesGrief[1]? = some (Cond.fieldLink RX4 11 "PartyWill$Reader" "due" "I") from rfl))
  have iX2 : ∀ w ∈ u_ws RX2 TX2 7, w ∈ wsX4_takesGrief := fun w h => List.mem_cons_of_mem _ (List.mem_append_left _ (List.mem_append_right _ (h)))
  have iX4 : ∀ w ∈ u_ws RX4 TX4 4, w ∈ wsX4_takesGrief := fun w h => List.mem_cons_of_mem _ (List.mem_append_right _ (h))
  subst hsz
  have hD := hD0.self (sz := s.heap.size)
  generalize hAe : va_A (wRP T b0 a0 a1 a2 a3 a4 a5 rdue rtun rsee rbeg size clause eff kin gri sig see) s.heap.size = A at hD ⊢
  have hA : ∀ q : Nat, s.heap.size ≤ q → A q := fun q h => by rw [← hAe]; exact Or.inr h
  have hS : va_S A s.heap s.heap [] := va_S.rf
  have hP : va_P D vwCl (wRP T b0 a0 a1 a2 a3 a4 a5 rdue rtun rsee rbeg size clause eff kin gri sig see) s.heap := hP
  obtain ⟨ls, hl, e0⟩ := my_entry (m := m) (n := 3) ha (Nat.le_of_ble_eq_true rfl)
  rw [e0]
  have hl : lv_has ls 3 [(0, .ref b0), (1, .int x1), (2, .ref a0)] := hl
  have key : ∀ Q : State → Prop, (∀ (H : Heap) (locs : List Loc) (pc : Nat) (ls : Array Slot), va_P D vwCl (wRP T b0 a0 a1 a2 a3 a4 a5 zrdue rtun rsee rbeg zsize clause eff kin zgri sig see) H → va_D A (wRP T b0 a0 a1 a2 a3 a4 a5 zrdue rtun rsee rbeg zsize clause eff kin zgri sig see) → va_S A s.heap H locs → decode cX4_takesGrief pc = .ok (.ireturn, 1) → b01 r → W p l e ({ frames := 1, cells := 0, slots := 0, locals := 20 } : Room) s m args below meth c H locs 0 0 Q (F0 m pc ls [.int r])) → W p l e ({ frames := 1, cells := 0, slots := 0, locals := 20 } : Room) s m args below meth c s.heap [] 0 0 Q (F0 m 0 ls []) := by
    intro Q hret
    skip
    unfold fX4_takesGrief at h
    refine lv_iload_n hx hb dX4_takesGrief_0 rfl (lv_at hl 1 rfl) ?_
    obtain ⟨r1, hc, h⟩ := bd1_some h
    refine my_roz (va_Run.run (va_runS (As := [.int x1]) (rest := []) hFix (kX4_isFigure l D T F x1 r1 hc) (va_cwS 1 hts gX4_takesGrief_X4_isFigure rfl rfl rfl hd_X4_isFigure ⟨Nat.le_of_ble_eq_true rfl, Nat.le_of_ble_eq_true rfl⟩) (preS_ro va_nil hKK) rfl rfl hl.1 rfl (lv_room (Nat.le_of_ble_eq_true rfl)) dX4_takesGrief_1 ⟨Nat.zero_le _, Nat.zero_le _⟩)) (fun hb1 => ?_)
    refine lv_if_eq (tgt := 16) hx hb dX4_takesGrief_4 (by decide) (fun c4 => ?_) (fun c4 => ?_)
    · have h := br_1 h c4
      refine lv_iconst (v := (0 : Int32)) hx hb dX4_takesGrief_16 (by decide) ?_
      cases h
      exact hret _ _ _ _ hP hD hS dX4_takesGrief_17 (Or.inl rfl)
    · have h := br_0 h c4
      refine lv_aload_n hx hb dX4_takesGrief_7 rfl (lv_at hl 2 rfl) ?_
      refine va_getN (host := "PartyWill") (D := D) (ci := 1) (C := RX2) (T := TX2) (N := 7) hx hb hts iX2 hown hK hP 1 wRP_1 rfl 0 (by decide) (va_Nw.use rfl (nw_X4_34 hKK.2)) (fun _ h9 => h9) rfl dX4_takesGrief_8 ?_
      refine lv_bipush (v := (6 : Int32)) hx hb dX4_takesGrief_11 (by decide) ?_
      refine lv_icmp_lt (tgt := 18) hx hb dX4_takesGrief_13 (by decide) (fun c13 => ?_) (fun c13 => ?_)
      · have h := br_1 h c13
        refine lv_aload_n hx hb dX4_takesGrief_18 rfl (lv_at hl 2 rfl) ?_
        refine va_getN (host := "PartyWill") (D := D) (ci := 1) (C := RX2) (T := TX2) (N := 7) hx hb hts iX2 hown hK hP 1 wRP_1 rfl 4 (by decide) (va_Nw.use rfl (nw_X4_79 hKK.2)) (fun _ h9 => h9) rfl dX4_takesGrief_19 ?_
        refine lv_aload_n hx hb dX4_takesGrief_22 rfl (lv_at hl 2 rfl) ?_
        refine va_getN (host := "PartyWill") (D := D) (ci := 1) (C := RX2) (T := TX2) (N := 7) hx hb hts iX2 hown hK hP 1 wRP_1 rfl 0 (by decide) (va_Nw.use rfl (nw_X4_34 hKK.2)) (fun _ h9 => h9) rfl dX4_takesGrief_23 ?_
        refine lv_iload_n hx hb dX4_takesGrief_26 rfl (lv_at hl 1 rfl) ?_
        obtain ⟨hin1, h⟩ := ck_some h
        refine va_iast hx hb hK hP hD hS 4 0 wRP_4 rfl hin1 dX4_takesGrief_27 (fun H locs hP hD hS => ?_)
        have hP : va_P D vwCl (wRP T b0 a0 a1 a2 a3 a4 a5 rdue rtun rsee rbeg size clause eff kin (upd gri size.toNatClampNeg x1) sig see) H := hP
        have hD : va_D A (wRP T b0 a0 a1 a2 a3 a4 a5 rdue rtun rsee rbeg size clause eff kin (upd gri size.toNatClampNeg x1) sig see) := hD
        refine lv_aload_n hx hb dX4_takesGrief_28 rfl (lv_at hl 2 rfl) ?_
        refine lv_dup hx hb dX4_takesGrief_29 rfl ?_
        refine va_getN (host := "PartyWill") (D := D) (ci := 1) (C := RX2) (T := TX2) (N := 7) hx hb hts iX2 hown hK hP 1 wRP_1 rfl 0 (by decide) (va_Nw.use rfl (nw_X4_34 hKK.2)) (fun _ h9 => h9) rfl dX4_takesGrief_30 ?_
        refine lv_iconst (v := (1 : Int32)) hx hb dX4_takesGrief_33 (by decide) ?_
        refine lv_iadd hx hb dX4_takesGrief_34 ?_
        refine va_putN (host := "PartyWill") (D := D) (ci := 1) (v := .int (size + (1 : Int32))) (ty := .int) (C := RX2) (T := TX2) (N := 7) hx hb hts iX2 tyX2 tyX2_ok nmX2 hown hK hP hD hS 1 wRP_1 rfl 0 (by decide) (va_Nw.use rfl (nw_X4_34 hKK.2)) (fun _ h9 => h9) rfl (by decide +kernel) rfl rfl (Nat.le_of_ble_eq_true rfl) dX4_takesGrief_35 (fun H locs hP hD hS => ?_)
        have hP : va_P D vwCl (wRP T b0 a0 a1 a2 a3 a4 a5 rdue rtun rsee rbeg (size + (1 : Int32)) clause eff kin (upd gri size.toNatClampNeg x1) sig see) H := hP
        have hD : va_D A (wRP T b0 a0 a1 a2 a3 a4 a5 rdue rtun rsee rbeg (size + (1 : Int32)) clause eff kin (upd gri size.toNatClampNeg x1) sig see) := hD
        refine lv_aload_n hx hb dX4_takesGrief_38 rfl (lv_at hl 0 rfl) ?_
        refine lv_iconst (v := (3 : Int32)) hx hb dX4_takesGrief_39 (by decide) ?_
        refine va_put (D := D) (ci := 2) (v := .int (3 : Int32)) (ty := .int) (C := RX4) (T := TX4) (N := 4) hx hb hts iX4 tyX4 tyX4_ok nmX4 hown hK hP hD hS 0 wRP_0 rfl 0 (by decide) q1 (fun _ h9 => h9) rfl (by decide +kernel) rfl rfl (Nat.le_of_ble_eq_true rfl) dX4_takesGrief_40 (fun H locs hP hD hS => ?_)
        have hP : va_P D vwCl (wRP T b0 a0 a1 a2 a3 a4 a5 (3 : Int32) rtun rsee rbeg (size + (1 : Int32)) clause eff kin (upd gri size.toNatClampNeg x1) sig see) H := hP
        have hD : va_D A (wRP T b0 a0 a1 a2 a3 a4 a5 (3 : Int32) rtun rsee rbeg (size + (1 : Int32)) clause eff kin (upd gri size.toNatClampNeg x1) sig see) := hD
        refine lv_iconst (v := (1 : Int32)) hx hb dX4_takesGrief_43 (by decide) ?_
        cases h
        exact hret _ _ _ _ hP hD hS dX4_takesGrief_44 (Or.inr rfl)
      · have h := br_0 h c13
        refine lv_iconst (v := (0 : Int32)) hx hb dX4_takesGrief_16 (by decide) ?_
        cases h
        exact hret _ _ _ _ hP hD hS dX4_takesGrief_17 (Or.inl rfl)
  exact key _ (fun H locs pc ls hP hD hS hd hb1 => W.zret hx hb hr (b01_n hb1) (fun t ht hW => ⟨⟨_, (), rfl, ⟨rfl, hb1⟩, by show _ ∧ _; rw [ht]; exact ⟨hP, hD⟩⟩, hS.F ht⟩) hS.2.2 hd)
set_option maxHeartbeats 4000000 in
set_option maxRecDepth 100000 in
theorem kX4_takesOpening (l : Launch) (D : va_G) (T : Nat → ClassId) (F : Nat) (b0 : Nat) (rdue : Int32) (rtun : Int32) (rsee : Int32) (rbeg : Int32) (x1 : Int32) (r : Int32) (zrdue : Int32) (h : fX4_takesOpening F rdue x1 = some (r, zrdue)) : ∀ sz : Nat, Met l yX4_takesOpening wsX4_takesOpening ({ frames := 0, cells := 0, slots := 0, locals := 0 } : Room) (va_Pc [.ref b0, .int x1] (fun U => U.heap.size = sz ∧ va_P D vwCl (wRe T b0 rdue rtun rsee rbeg) U.heap ∧ KK D T U ∧ va_D (fun _ => True) (wRe T b0 rdue rtun rsee rbeg))) (va_Qi (fun r' (_ : Unit) => r' = r ∧ b01 r) (fun _ t => va_P D vwCl (wRe T b0 zrdue rtun rsee rbeg) t.heap ∧ va_D (va_A (wRe T b0 rdue rtun rsee rbeg) sz) (wRe T b0 zrdue rtun rsee rbeg)) (va_A (wRe T b0 rdue rtun rsee rbeg) sz)) 0 0 (va_A (wRe T b0 rdue rtun rsee rbeg) sz) := by
  intro sz
  refine Met.ofW (cc := cX4_takesOpening) (maxL := 2) (ret := some .boolean) (by decide) rfl ?_
  intro p e s m args below meth c s₁ B hml hv
  obtain ⟨ha, hsz, hP, hKK, hD0⟩ := hv
  have hx := B.exec
  have hb := B.bytes
  have hr := B.returns
  have hts := atoms_spec (ws := wsX4_takesOpening) B.pre
  have hown : s.vm.findClass RX4 = some m.cls := findClass_of_methodNamed B.named
  have hlocks := B.notSynchronized
  have hK := hKK.1
  have hFix : CallFix p m c cX4_takesOpening 2 s args wsX4_takesOpening RX4 := ⟨hx, hb, hml, hown, hts⟩
  have q1 := hts _ (List.mem_of_getElem? (i := 1) (show wsX4_takesOpening[1]? = some (Cond.fieldLink RX4 11 "PartyWill$Reader" "due" "I") from rfl))
  have iX4 : ∀ w ∈ u_ws RX4 TX4 4, w ∈ wsX4_takesOpening := fun w h => List.mem_cons_of_mem _ (List.mem_append_right _ (h))
  subst hsz
  have hD := hD0.self (sz := s.heap.size)
  generalize hAe : va_A (wRe T b0 rdue rtun rsee rbeg) s.heap.size = A at hD ⊢
  have hA : ∀ q : Nat, s.heap.size ≤ q → A q := fun q h => by rw [← hAe]; exact Or.inr h
  have hS : va_S A s.heap s.heap [] := va_S.rf
  have hP : va_P D vwCl (wRe T b0 rdue rtun rsee rbeg) s.heap := hP
  obtain ⟨ls, hl, e0⟩ := my_entry (m := m) (n := 2) ha (Nat.le_of_ble_eq_true rfl)
  rw [e0]
  have hl : lv_has ls 2 [(0, .ref b0), (1, .int x1)] := hl
  have key : ∀ Q : State → Prop, (∀ (H : Heap) (locs : List Loc) (pc : Nat) (ls : Array Slot), va_P D vwCl (wRe T b0 zrdue rtun rsee rbeg) H → va_D A (wRe T b0 zrdue rtun rsee rbeg) → va_S A s.heap H locs → decode cX4_takesOpening pc = .ok (.ireturn, 1) → b01 r → W p l e ({ frames := 0, cells := 0, slots := 0, locals := 0 } : Room) s m args below meth c H locs 0 0 Q (F0 m pc ls [.int r])) → W p l e ({ frames := 0, cells := 0, slots := 0, locals := 0 } : Room) s m args below meth c s.heap [] 0 0 Q (F0 m 0 ls []) := by
    intro Q hret
    skip
    unfold fX4_takesOpening at h
    refine lv_aload_n hx hb dX4_takesOpening_0 rfl (lv_at hl 0 rfl) ?_
    refine lv_iconst (v := (1 : Int32)) hx hb dX4_takesOpening_1 (by decide) ?_
    refine va_put (D := D) (ci := 2) (v := .int (1 : Int32)) (ty := .int) (C := RX4) (T := TX4) (N := 4) hx hb hts iX4 tyX4 tyX4_ok nmX4 hown hK hP hD hS 0 wRe_0 rfl 0 (by decide) q1 (fun _ h9 => h9) rfl (by decide +kernel) rfl rfl (Nat.le_of_ble_eq_true rfl) dX4_takesOpening_2 (fun H locs hP hD hS => ?_)
    have hP : va_P D vwCl (wRe T b0 (1 : Int32) rtun rsee rbeg) H := hP
    have hD : va_D A (wRe T b0 (1 : Int32) rtun rsee rbeg) := hD
    refine lv_iload_n hx hb dX4_takesOpening_5 rfl (lv_at hl 1 rfl) ?_
    refine lv_bipush (v := (99 : Int32)) hx hb dX4_takesOpening_6 (by decide) ?_
    refine lv_icmp_ne (tgt := 15) hx hb dX4_takesOpening_8 (by decide) (fun c8 => ?_) (fun c8 => ?_)
    · have h := br_0 h c8
      refine lv_iconst (v := (0 : Int32)) hx hb dX4_takesOpening_15 (by decide) ?_
      cases h
      exact hret _ _ _ _ hP hD hS dX4_takesOpening_16 (Or.inl rfl)
    · have h := br_1 h c8
      refine lv_iconst (v := (1 : Int32)) hx hb dX4_takesOpening_11 (by decide) ?_
      refine lv_goto (tgt := 16) hx hb dX4_takesOpening_12 (by decide) ?_
      cases h
      exact hret _ _ _ _ hP hD hS dX4_takesOpening_16 (Or.inr rfl)
  exact key _ (fun H locs pc ls hP hD hS hd hb1 => W.zret hx hb hr (b01_n hb1) (fun t ht hW => ⟨⟨_, (), rfl, ⟨rfl, hb1⟩, by show _ ∧ _; rw [ht]; exact ⟨hP, hD⟩⟩, hS.F ht⟩) hS.2.2 hd)
