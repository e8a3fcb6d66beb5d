set_option maxHeartbeats 4000000 in
set_option maxRecDepth 100000 in
theorem kX4_takesLetter (l : Launch) (D : va_G) (T : Nat → ClassId) (F : Nat) (b0 : Nat) (a0 : Nat) (a1 : Nat) (a2 : Nat) (a3 : Nat) (a4 : Nat) (a5 : Nat) (rdue : Int32) (rtun : Int32) (rsee : Int32) (rbeg : Int32) (size : Int32) (clause : Int32) (eff : Nat → Int32) (kin : Nat → Int32) (gri : Nat → Int32) (sig : Nat → Int32) (see : Nat → Int32) (x1 : Int32) (r : Int32) (zrdue : Int32) (zrbeg : Int32) (zkin : Nat → Int32) (h : fX4_takesLetter F rdue rbeg size kin x1 = some (r, zrdue, zrbeg, zkin)) : ∀ sz : Nat, Met l yX4_takesLetter wsX4_takesLetter ({ frames := 1, cells := 0, slots := 0, locals := 20 } : Room) (va_Pc [.ref b0, .int x1, .ref a0] (fun U => U.heap.size = sz ∧ va_P D vwCl (wRP T b0 a0 a1 a2 a3 a4 a5 rdue rtun rsee rbeg size clause eff kin gri sig see) U.heap ∧ KK D T U ∧ va_D (fun _ => True) (wRP T b0 a0 a1 a2 a3 a4 a5 rdue rtun rsee rbeg size clause eff kin gri sig see))) (va_Qi (fun r' (_ : Unit) => r' = r ∧ b01 r) (fun _ t => va_P D vwCl (wRP T b0 a0 a1 a2 a3 a4 a5 zrdue rtun rsee zrbeg size clause eff zkin gri sig see) t.heap ∧ va_D (va_A (wRP T b0 a0 a1 a2 a3 a4 a5 rdue rtun rsee rbeg size clause eff kin gri sig see) sz) (wRP T b0 a0 a1 a2 a3 a4 a5 zrdue rtun rsee zrbeg size clause eff zkin gri sig see)) (va_A (wRP T b0 a0 a1 a2 a3 a4 a5 rdue rtun rsee rbeg size clause eff kin gri sig see) sz)) 0 0 (va_A (wRP T b0 a0 a1 a2 a3 a4 a5 rdue rtun rsee rbeg size clause eff kin gri sig see) sz) := by
  intro sz
  refine Met.ofW (cc := cX4_takesLetter) (maxL := 4) (ret := some .boolean) (by decide) rfl ?_
  intro p e s m args below meth c s₁ B hml hv
  obtain ⟨ha, hsz, hP, hKK, hD0⟩ := hv
  have hx := B.exec
  have hb := B.bytes
  have hr := B.returns
  have hts := atoms_spec (ws := wsX4_takesLetter) B.pre
  have hown : s.vm.findClass RX4 = some m.cls := findClass_of_methodNamed B.named
  have hlocks := B.notSynchronized
  have hK := hKK.1
  have hFix : CallFix p m c cX4_takesLetter 4 s args wsX4_takesLetter RX4 := ⟨hx, hb, hml, hown, hts⟩
  have q1 := hts _ (List.mem_of_getElem? (i := 1) (show wsX4_takesLetter[1]? = some (Cond.fieldLink RX4 21 "PartyWill$Reader" "sightsBegun" "Z") from rfl))
  have q2 := hts _ (List.mem_of_getElem? (i := 2) (show wsX4_takesLetter[2]? = some (Cond.fieldLink RX4 11 "PartyWill$Reader" "due" "I") from rfl))
  have iX2 : ∀ w ∈ u_ws RX2 TX2 7, w ∈ wsX4_takesLetter := fun w h => List.mem_cons_of_mem _ (List.mem_append_right _ (h))
  have iX4 : ∀ w ∈ u_ws RX4 TX4 4, w ∈ wsX4_takesLetter := fun w h => List.mem_cons_of_mem _ (List.mem_append_left _ (List.mem_append_right _ (h)))
  subst hsz
  have hD := hD0.self (sz := s.heap.size)
  generalize hAe : va_A (wRP T b0 a0 a1 a2 a3 a4 a5 rdue rtun rsee rbeg size clause eff kin gri sig see) s.heap.size = A at hD ⊢
  have hA : ∀ q : Nat, s.heap.size ≤ q → A q := fun q h => by rw [← hAe]; exact Or.inr h
  have hS : va_S A s.heap s.heap [] := va_S.rf
  have hP : va_P D vwCl (wRP T b0 a0 a1 a2 a3 a4 a5 rdue rtun rsee rbeg size clause eff kin gri sig see) s.heap := hP
  obtain ⟨ls, hl, e0⟩ := my_entry (m := m) (n := 4) ha (Nat.le_of_ble_eq_true rfl)
  rw [e0]
  have hl : lv_has ls 4 [(0, .ref b0), (1, .int x1), (2, .ref a0)] := hl
  have key : ∀ Q : State → Prop, (∀ (H : Heap) (locs : List Loc) (pc : Nat) (ls : Array Slot), va_P D vwCl (wRP T b0 a0 a1 a2 a3 a4 a5 zrdue rtun rsee zrbeg size clause eff zkin gri sig see) H → va_D A (wRP T b0 a0 a1 a2 a3 a4 a5 zrdue rtun rsee zrbeg size clause eff zkin gri sig see) → va_S A s.heap H locs → decode cX4_takesLetter pc = .ok (.ireturn, 1) → b01 r → W p l e ({ frames := 1, cells := 0, slots := 0, locals := 20 } : Room) s m args below meth c H locs 0 0 Q (F0 m pc ls [.int r])) → W p l e ({ frames := 1, cells := 0, slots := 0, locals := 20 } : Room) s m args below meth c s.heap [] 0 0 Q (F0 m 0 ls []) := by
    intro Q hret
    skip
    unfold fX4_takesLetter at h
    refine lv_iload_n hx hb dX4_takesLetter_0 rfl (lv_at hl 1 rfl) ?_
    refine lv_bipush (v := (120 : Int32)) hx hb dX4_takesLetter_1 (by decide) ?_
    refine lv_icmp_ne (tgt := 29) hx hb dX4_takesLetter_3 (by decide) (fun c3 => ?_) (fun c3 => ?_)
    · have h := br_0 h c3
      refine lv_iload_n hx hb dX4_takesLetter_29 rfl (lv_at hl 1 rfl) ?_
      obtain ⟨r30, hc, h⟩ := bd1_some h
      refine my_roi (va_Run.run (va_runS (As := [.int x1]) (rest := []) hFix (kX4_kindByLetter l D T F x1 r30 hc) (va_cwS 1 hts gX4_takesLetter_X4_kindByLetter rfl rfl rfl hd_X4_kindByLetter ⟨Nat.le_of_ble_eq_true rfl, Nat.le_of_ble_eq_true rfl⟩) (preS_ro va_nil hKK) rfl rfl hl.1 rfl (lv_room (Nat.le_of_ble_eq_true rfl)) dX4_takesLetter_30 ⟨Nat.zero_le _, Nat.zero_le _⟩)) ?_
      refine lv_istore_n (lv' := [(3, .int r30), (0, .ref b0), (1, .int x1), (2, .ref a0)]) hx hb dX4_takesLetter_33 rfl hl (by decide) rfl (fun ls hl => ?_)
      refine lv_iload_n hx hb dX4_takesLetter_34 rfl (lv_at hl 0 rfl) ?_
      refine lv_bipush (v := (-9 : Int32)) hx hb dX4_takesLetter_35 (by decide) ?_
      refine lv_icmp_eq (tgt := 56) hx hb dX4_takesLetter_37 (by decide) (fun c37 => ?_) (fun c37 => ?_)
      · have h := br_1 h c37
        refine lv_iconst (v := (0 : Int32)) hx hb dX4_takesLetter_56 (by decide) ?_
        cases h
        exact hret _ _ _ _ hP hD hS dX4_takesLetter_57 (Or.inl rfl)
      · have h := br_0 h c37
        refine lv_aload_n hx hb dX4_takesLetter_40 rfl (lv_at hl 1 rfl) ?_
        refine va_get (D := D) (ci := 2) (C := RX4) (T := TX4) (N := 4) hx hb hts iX4 hown hK hP 0 wRP_0 rfl 3 (by decide) q1 (fun _ h9 => h9) rfl dX4_takesLetter_41 ?_
        refine lv_if_ne (tgt := 56) hx hb dX4_takesLetter_44 (by decide) (fun c44 => ?_) (fun c44 => ?_)
        · have h := br_0 h c44
          refine lv_iconst (v := (0 : Int32)) hx hb dX4_takesLetter_56 (by decide) ?_
          cases h
          exact hret _ _ _ _ hP hD hS dX4_takesLetter_57 (Or.inl rfl)
        · have h := br_1 h c44
          refine lv_aload_n hx hb dX4_takesLetter_47 rfl (lv_at hl 3 rfl) ?_
          refine va_getN (host := "PartyWill") (D := D) (ci := 1) (C := RX2) (T := TX2) (N := 7) hx hb hts iX2 hown hK hP 1 wRP_1 rfl 0 (by decide) (va_Nw.use rfl (nw_X4_34 hKK.2)) (fun _ h9 => h9) rfl dX4_takesLetter_48 ?_
          refine lv_bipush (v := (6 : Int32)) hx hb dX4_takesLetter_51 (by decide) ?_
          refine lv_icmp_lt (tgt := 58) hx hb dX4_takesLetter_53 (by decide) (fun c53 => ?_) (fun c53 => ?_)
          · have h := br_1 h c53
            refine lv_aload_n hx hb dX4_takesLetter_58 rfl (lv_at hl 3 rfl) ?_
            refine va_getN (host := "PartyWill") (D := D) (ci := 1) (C := RX2) (T := TX2) (N := 7) hx hb hts iX2 hown hK hP 1 wRP_1 rfl 3 (by decide) (va_Nw.use rfl (nw_X4_76 hKK.2)) (fun _ h9 => h9) rfl dX4_takesLetter_59 ?_
            refine lv_aload_n hx hb dX4_takesLetter_62 rfl (lv_at hl 3 rfl) ?_
            refine va_getN (host := "PartyWill") (D := D) (ci := 1) (C := RX2) (T := TX2) (N := 7) hx hb hts iX2 hown hK hP 1 wRP_1 rfl 0 (by decide) (va_Nw.use rfl (nw_X4_34 hKK.2)) (fun _ h9 => h9) rfl dX4_takesLetter_63 ?_
            refine lv_iload_n hx hb dX4_takesLetter_66 rfl (lv_at hl 0 rfl) ?_
            obtain ⟨hin1, h⟩ := ck_some h
            refine va_iast hx hb hK hP hD hS 3 0 wRP_3 rfl hin1 dX4_takesLetter_67 (fun H locs hP hD hS => ?_)
            have hP : va_P D vwCl (wRP T b0 a0 a1 a2 a3 a4 a5 rdue rtun rsee rbeg size clause eff (upd kin size.toNatClampNeg r30) gri sig see) H := hP
            have hD : va_D A (wRP T b0 a0 a1 a2 a3 a4 a5 rdue rtun rsee rbeg size clause eff (upd kin size.toNatClampNeg r30) gri sig see) := hD
            refine lv_aload_n hx hb dX4_takesLetter_68 rfl (lv_at hl 1 rfl) ?_
            refine lv_iconst (v := (4 : Int32)) hx hb dX4_takesLetter_69 (by decide) ?_
            refine va_put (D := D) (ci := 2) (v := .int (4 : Int32)) (ty := .int) (C := RX4) (T := TX4) (N := 4) hx hb hts iX4 tyX4 tyX4_ok nmX4 hown hK hP hD hS 0 wRP_0 rfl 0 (by decide) q2 (fun _ h9 => h9) rfl (by decide +kernel) rfl rfl (Nat.le_of_ble_eq_true rfl) dX4_takesLetter_70 (fun H locs hP hD hS => ?_)
            have hP : va_P D vwCl (wRP T b0 a0 a1 a2 a3 a4 a5 (4 : Int32) rtun rsee rbeg size clause eff (upd kin size.toNatClampNeg r30) gri sig see) H := hP
            have hD : va_D A (wRP T b0 a0 a1 a2 a3 a4 a5 (4 : Int32) rtun rsee rbeg size clause eff (upd kin size.toNatClampNeg r30) gri sig see) := hD
            refine lv_iconst (v := (1 : Int32)) hx hb dX4_takesLetter_73 (by decide) ?_
            cases h
            exact hret _ _ _ _ hP hD hS dX4_takesLetter_74 (Or.inr rfl)
          · have h := br_0 h c53
            refine lv_iconst (v := (0 : Int32)) hx hb dX4_takesLetter_56 (by decide) ?_
            cases h
            exact hret _ _ _ _ hP hD hS dX4_takesLetter_57 (Or.inl rfl)
    · have h := br_1 h c3
      refine lv_aload_n hx hb dX4_takesLetter_6 rfl (lv_at hl 0 rfl) ?_
      refine lv_iconst (v := (1 : Int32)) hx hb dX4_takesLetter_7 (by decide) ?_
      refine va_put (D := D) (ci := 2) (v := .int (1 : Int32)) (ty := .boolean) (C := RX4) (T := TX4) (N := 4) hx hb hts iX4 tyX4 tyX4_ok nmX4 hown hK hP hD hS 0 wRP_0 rfl 3 (by decide) q1 (fun _ h9 => h9) rfl (by decide +kernel) rfl rfl (Nat.le_of_ble_eq_true rfl) dX4_takesLetter_8 (fun H locs hP hD hS => ?_)
      have hP : va_P D vwCl (wRP T b0 a0 a1 a2 a3 a4 a5 rdue rtun rsee (1 : Int32) size clause eff kin gri sig see) H := hP
      have hD : va_D A (wRP T b0 a0 a1 a2 a3 a4 a5 rdue rtun rsee (1 : Int32) size clause eff kin gri sig see) := hD
      refine lv_aload_n hx hb dX4_takesLetter_11 rfl (lv_at hl 0 rfl) ?_
      refine lv_iconst (v := (5 : Int32)) hx hb dX4_takesLetter_12 (by decide) ?_
      refine va_put (D := D) (ci := 2) (v := .int (5 : Int32)) (ty := .int) (C := RX4) (T := TX4) (N := 4) hx hb hts iX4 tyX4 tyX4_ok nmX4 hown hK hP hD hS 0 wRP_0 rfl 0 (by decide) q2 (fun _ h9 => h9) rfl (by decide +kernel) rfl rfl (Nat.le_of_ble_eq_true rfl) dX4_takesLetter_13 (fun H locs hP hD hS => ?_)
      have hP : va_P D vwCl (wRP T b0 a0 a1 a2 a3 a4 a5 (5 : Int32) rtun rsee (1 : Int32) size clause eff kin gri sig see) H := hP
      have hD : va_D A (wRP T b0 a0 a1 a2 a3 a4 a5 (5 : Int32) rtun rsee (1 : Int32) size clause eff kin gri sig see) := hD
      refine lv_aload_n hx hb dX4_takesLetter_16 rfl (lv_at hl 2 rfl) ?_
      refine va_getN (host := "PartyWill") (D := D) (ci := 1) (C := RX2) (T := TX2) (N := 7) hx hb hts iX2 hown hK hP 1 wRP_1 rfl 0 (by decide) (va_Nw.use rfl (nw_X4_34 hKK.2)) (fun _ h9 => h9) rfl dX4_takesLetter_17 ?_
      refine lv_if_le (tgt := 27) hx hb dX4_takesLetter_20 (by decide) (fun c20 => ?_) (fun c20 => ?_)
      · have h := br_1 h c20
        refine lv_iconst (v := (0 : Int32)) hx hb dX4_takesLetter_27 (by decide) ?_
        cases h
        exact hret _ _ _ _ hP hD hS dX4_takesLetter_28 (Or.inl rfl)
      · have h := br_0 h c20
        refine lv_iconst (v := (1 : Int32)) hx hb dX4_takesLetter_23 (by decide) ?_
        refine lv_goto (tgt := 28) hx hb dX4_takesLetter_24 (by decide) ?_
        cases h
        exact hret _ _ _ _ hP hD hS dX4_takesLetter_28 (Or.inr rfl)
  exact key _ (fun H locs pc ls hP hD hS hd hb1 => W.zret hx hb hr (b01_n hb1) (fun t ht hW => ⟨⟨_, (), rfl, ⟨rfl, hb1⟩, by show _ ∧ _; rw [ht]; exact ⟨hP, hD⟩⟩, hS.F ht⟩) hS.2.2 hd)
set_option maxHeartbeats 4000000 in
set_option maxRecDepth 100000 in
theorem kX4_takesOpening (l : Launch) (D : va_G) (T : Nat → ClassId) (F : Nat) (b0 : Nat) (rdue : Int32) (rtun : Int32) (rsee : Int32) (rbeg : Int32) (x1 : Int32) (r : Int32) (zrdue : Int32) (h : fX4_takesOpening F rdue x1 = some (r, zrdue)) : ∀ sz : Nat, Met l yX4_takesOpening wsX4_takesOpening ({ frames := 0, cells := 0, slots := 0, locals := 0 } : Room) (va_Pc [.ref b0, .int x1] (fun U => U.heap.size = sz ∧ va_P D vwCl (wRe T b0 rdue rtun rsee rbeg) U.heap ∧ KK D T U ∧ va_D (fun _ => True) (wRe T b0 rdue rtun rsee rbeg))) (va_Qi (fun r' (_ : Unit) => r' = r ∧ b01 r) (fun _ t => va_P D vwCl (wRe T b0 zrdue rtun rsee rbeg) t.heap ∧ va_D (va_A (wRe T b0 rdue rtun rsee rbeg) sz) (wRe T b0 zrdue rtun rsee rbeg)) (va_A (wRe T b0 rdue rtun rsee rbeg) sz)) 0 0 (va_A (wRe T b0 rdue rtun rsee rbeg) sz) := by
  intro sz
  refine Met.ofW (cc := cX4_takesOpening) (maxL := 2) (ret := some .boolean) (by decide) rfl ?_
  intro p e s m args below meth c s₁ B hml hv
  obtain ⟨ha, hsz, hP, hKK, hD0⟩ := hv
  have hx := B.exec
  have hb := B.bytes
  have hr := B.returns
  have hts := atoms_spec (ws := wsX4_takesOpening) B.pre
  have hown : s.vm.findClass RX4 = some m.cls := findClass_of_methodNamed B.named
  have hlocks := B.notSynchronized
  have hK := hKK.1
  have hFix : CallFix p m c cX4_takesOpening 2 s args wsX4_takesOpening RX4 := ⟨hx, hb, hml, hown, hts⟩
  have q1 := hts _ (List.mem_of_getElem? (i := 1) (show wsX4_takesOpening[1]? = some (Cond.fieldLink RX4 11 "PartyWill$Reader" "due" "I") from rfl))
  have iX4 : ∀ w ∈ u_ws RX4 TX4 4, w ∈ wsX4_takesOpening := fun w h => List.mem_cons_of_mem _ (List.mem_append_right _ (h))
  subst hsz
  have hD := hD0.self (sz := s.heap.size)
  generalize hAe : va_A (wRe T b0 rdue rtun rsee rbeg) s.heap.size = A at hD ⊢
  have hA : ∀ q : Nat, s.heap.size ≤ q → A q := fun q h => by rw [← hAe]; exact Or.inr h
  have hS : va_S A s.heap s.heap [] := va_S.rf
  have hP : va_P D vwCl (wRe T b0 rdue rtun rsee rbeg) s.heap := hP
  obtain ⟨ls, hl, e0⟩ := my_entry (m := m) (n := 2) ha (Nat.le_of_ble_eq_true rfl)
  rw [e0]
  have hl : lv_has ls 2 [(0, .ref b0), (1, .int x1)] := hl
  have key : ∀ Q : State → Prop, (∀ (H : Heap) (locs : List Loc) (pc : Nat) (ls : Array Slot), va_P D vwCl (wRe T b0 zrdue rtun rsee rbeg) H → va_D A (wRe T b0 zrdue rtun rsee rbeg) → va_S A s.heap H locs → decode cX4_takesOpening pc = .ok (.ireturn, 1) → b01 r → W p l e ({ frames := 0, cells := 0, slots := 0, locals := 0 } : Room) s m args below meth c H locs 0 0 Q (F0 m pc ls [.int r])) → W p l e ({ frames := 0, cells := 0, slots := 0, locals := 0 } : Room) s m args below meth c s.heap [] 0 0 Q (F0 m 0 ls []) := by
    intro Q hret
    skip
    unfold fX4_takesOpening at h
    refine lv_aload_n hx hb dX4_takesOpening_0 rfl (lv_at hl 0 rfl) ?_
    refine lv_iconst (v := (1 : Int32)) hx hb dX4_takesOpening_1 (by decide) ?_
    refine va_put (D := D) (ci := 2) (v := .int (1 : Int32)) (ty := .int) (C := RX4) (T := TX4) (N := 4) hx hb hts iX4 tyX4 tyX4_ok nmX4 hown hK hP hD hS 0 wRe_0 rfl 0 (by decide) q1 (fun _ h9 => h9) rfl (by decide +kernel) rfl rfl (Nat.le_of_ble_eq_true rfl) dX4_takesOpening_2 (fun H locs hP hD hS => ?_)
    have hP : va_P D vwCl (wRe T b0 (1 : Int32) rtun rsee rbeg) H := hP
    have hD : va_D A (wRe T b0 (1 : Int32) rtun rsee rbeg) := hD
    refine lv_iload_n hx hb dX4_takesOpening_5 rfl (lv_at hl 1 rfl) ?_
    refine lv_bipush (v := (99 : Int32)) hx hb dX4_takesOpening_6 (by decide) ?_
    refine lv_icmp_ne (tgt := 15) hx hb dX4_takesOpening_8 (by decide) (fun c8 => ?_) (fun c8 => ?_)
    · have h := br_0 h c8
      refine lv_iconst (v := (0 : Int32)) hx hb dX4_takesOpening_15 (by decide) ?_
      cases h
      exact hret _ _ _ _ hP hD hS dX4_takesOpening_16 (Or.inl rfl)
    · have h := br_1 h c8
      refine lv_iconst (v := (1 : Int32)) hx hb dX4_takesOpening_11 (by decide) ?_
      refine lv_goto (tgt := 16) hx hb dX4_takesOpening_12 (by decide) ?_
      cases h
      exact hret _ _ _ _ hP hD hS dX4_takesOpening_16 (Or.inr rfl)
  exact key _ (fun H locs pc ls hP hD hS hd hb1 => W.zret hx hb hr (b01_n hb1) (fun t ht hW => ⟨⟨_, (), rfl, ⟨rfl, hb1⟩, by show _ ∧ _; rw [ht]; exact ⟨hP, hD⟩⟩, hS.F ht⟩) hS.2.2 hd)
set_option maxHeartbeats 4000000 in
set_option maxRecDepth 100000 in
theorem kX4_takesSeen (l : Launch) (D : va_G) (T : Nat → ClassId) (F : Nat) (b0 : Nat) (a0 : Nat) (a1 : Nat) (a2 : Nat) (a3 : Nat) (a4 : Nat) (a5 : Nat) (rdue : Int32) (rtun : Int32) (rsee : Int32) (rbeg : Int32) (size : Int32) (clause : Int32) (eff : Nat → Int32) (kin : Nat → Int32) (gri : Nat → Int32) (sig : Nat → Int32) (see : Nat → Int32) (x1 : Int32) (r : Int32) (zrdue : Int32) (zsig : Nat → Int32) (zsee : Nat → Int32) (h : fX4_takesSeen F rdue rsee size sig see x1 = some (r, zrdue, zsig, zsee)) : ∀ sz : Nat, Met l yX4_takesSeen wsX4_takesSeen ({ frames := 0, cells := 0, slots := 0, locals := 0 } : Room) (va_Pc [.ref b0, .int x1, .ref a0] (fun U => U.heap.size = sz ∧ va_P D vwCl (wRP T b0 a0 a1 a2 a3 a4 a5 rdue rtun rsee rbeg size clause eff kin gri sig see) U.heap ∧ KK D T U ∧ va_D (fun _ => True) (wRP T b0 a0 a1 a2 a3 a4 a5 rdue rtun rsee rbeg size clause eff kin gri sig see))) (va_Qi (fun r' (_ : Unit) => r' = r ∧ b01 r) (fun _ t => va_P D vwCl (wRP T b0 a0 a1 a2 a3 a4 a5 zrdue rtun rsee rbeg size clause eff kin gri zsig zsee) t.heap ∧ va_D (va_A (wRP T b0 a0 a1 a2 a3 a4 a5 rdue rtun rsee rbeg size clause eff kin gri sig see) sz) (wRP T b0 a0 a1 a2 a3 a4 a5 zrdue rtun rsee rbeg size clause eff kin gri zsig zsee)) (va_A (wRP T b0 a0 a1 a2 a3 a4 a5 rdue rtun rsee rbeg size clause eff kin gri sig see) sz)) 0 0 (va_A (wRP T b0 a0 a1 a2 a3 a4 a5 rdue rtun rsee rbeg size clause eff kin gri sig see) sz) := by
  intro sz
  refine Met.ofW (cc := cX4_takesSeen) (maxL := 4) (ret := some .boolean) (by decide) rfl ?_
  intro p e s m args below meth c s₁ B hml hv
  obtain ⟨ha, hsz, hP, hKK, hD0⟩ := hv
  have hx := B.exec
  have hb := B.bytes
  have hr := B.returns
  have hts := atoms_spec (ws := wsX4_takesSeen) B.pre
  have hown : s.vm.findClass RX4 = some m.cls := findClass_of_methodNamed B.named
  have hlocks := B.notSynchronized
  have hK := hKK.1
  have hFix : CallFix p m c cX4_takesSeen 4 s args wsX4_takesSeen RX4 := ⟨hx, hb, hml, hown, hts⟩
  have q1 := hts _ (List.mem_of_getElem? (i := 1) (show wsX4_takesSeen[1]? = some (Cond.fieldLink RX4 18 "PartyWill$Reader" "seer" "I") from rfl))
  have q2 := hts _ (List.mem_of_getElem? (i := 2) (show wsX4_takesSeen[2]? = some (Cond.fieldLink RX4 11 "PartyWill$Reader" "due" "I") from rfl))
  have iX2 : ∀ w ∈ u_ws RX2 TX2 7, w ∈ wsX4_takesSeen := fun w h => List.mem_cons_of_mem _ (List.mem_append_left _ (List.mem_append_right _ (h)))
  have iX4 : ∀ w ∈ u_ws RX4 TX4 4, w ∈ wsX4_takesSeen := fun w h => List.mem_cons_of_mem _ (List.mem_append_right _ (h))
  subst hsz
  have hD := hD0.self (sz := s.heap.size)
  generalize hAe : va_A (wRP T b0 a0 a1 a2 a3 a4 a5 rdue rtun rsee rbeg size clause eff kin gri sig see) s.heap.size = A at hD ⊢
  have hA : ∀ q : Nat, s.heap.size ≤ q → A q := fun q h => by rw [← hAe]; exact Or.inr h
  have hS : va_S A s.heap s.heap [] := va_S.rf
  have hP : va_P D vwCl (wRP T b0 a0 a1 a2 a3 a4 a5 rdue rtun rsee rbeg size clause eff kin gri sig see) s.heap := hP
  obtain ⟨ls, hl, e0⟩ := my_entry (m := m) (n := 4) ha (Nat.le_of_ble_eq_true rfl)
  rw [e0]
  have hl : lv_has ls 4 [(0, .ref b0), (1, .int x1), (2, .ref a0)] := hl
  have key : ∀ Q : State → Prop, (∀ (H : Heap) (locs : List Loc) (pc : Nat) (ls : Array Slot), va_P D vwCl (wRP T b0 a0 a1 a2 a3 a4 a5 zrdue rtun rsee rbeg size clause eff kin gri zsig zsee) H → va_D A (wRP T b0 a0 a1 a2 a3 a4 a5 zrdue rtun rsee rbeg size clause eff kin gri zsig zsee) → va_S A s.heap H locs → decode cX4_takesSeen pc = .ok (.ireturn, 1) → b01 r → W p l e ({ frames := 0, cells := 0, slots := 0, locals := 0 } : Room) s m args below meth c H locs 0 0 Q (F0 m pc ls [.int r])) → W p l e ({ frames := 0, cells := 0, slots := 0, locals := 0 } : Room) s m args below meth c s.heap [] 0 0 Q (F0 m 0 ls []) := by
    intro Q hret
    skip
    have n25 : ∀ s_0 : Int32, ∀ x1 : Int32, ∀ rdue : Int32, ∀ sig : Nat → Int32, ∀ see : Nat → Int32, fX4_takesSeen_n25 F rsee size s_0 x1 rdue sig see = some (r, zrdue, zsig, zsee) → ∀ (H : Heap) (locs : List Loc), va_P D vwCl (wRP T b0 a0 a1 a2 a3 a4 a5 rdue rtun rsee rbeg size clause eff kin gri sig see) H → va_D A (wRP T b0 a0 a1 a2 a3 a4 a5 rdue rtun rsee rbeg size clause eff kin gri sig see) → va_S A s.heap H locs → ∀ (ls : Array Slot), lv_has ls 4 [(0, .ref b0), (1, .int x1), (2, .ref a0)] → W p l e ({ frames := 0, cells := 0, slots := 0, locals := 0 } : Room) s m args below meth c H locs 0 0 Q (F0 m 25 ls [.int s_0]) := by
      intro s_0 x1 rdue sig see h H locs hP hD hS ls hl
      unfold fX4_takesSeen_n25 at h
      refine lv_istore_n (lv' := [(3, .int s_0), (0, .ref b0), (1, .int x1), (2, .ref a0)]) hx hb dX4_takesSeen_25 rfl hl (by decide) rfl (fun ls hl => ?_)
      refine lv_iload_n hx hb dX4_takesSeen_26 rfl (lv_at hl 0 rfl) ?_
      refine lv_if_eq (tgt := 46) hx hb dX4_takesSeen_27 (by decide) (fun c27 => ?_) (fun c27 => ?_)
      · have h := br_1 h c27
        refine lv_iconst (v := (0 : Int32)) hx hb dX4_takesSeen_46 (by decide) ?_
        cases h
        exact hret _ _ _ _ hP hD hS dX4_takesSeen_47 (Or.inl rfl)
      · have h := br_0 h c27
        refine lv_aload_n hx hb dX4_takesSeen_30 rfl (lv_at hl 3 rfl) ?_
        refine va_getN (host := "PartyWill") (D := D) (ci := 1) (C := RX2) (T := TX2) (N := 7) hx hb hts iX2 hown hK hP 1 wRP_1 rfl 5 (by decide) (va_Nw.use rfl (nw_X4_82 hKK.2)) (fun _ h9 => h9) rfl dX4_takesSeen_31 ?_
        refine lv_aload_n hx hb dX4_takesSeen_34 rfl (lv_at hl 1 rfl) ?_
        refine va_get (D := D) (ci := 2) (C := RX4) (T := TX4) (N := 4) hx hb hts iX4 hown hK hP 0 wRP_0 rfl 2 (by decide) q1 (fun _ h9 => h9) rfl dX4_takesSeen_35 ?_
        obtain ⟨hin1, h⟩ := ck_some h
        refine va_iald hx hb hK hP 5 0 wRP_5 rfl hin1 dX4_takesSeen_38 ?_
        refine lv_iload_n hx hb dX4_takesSeen_39 rfl (lv_at hl 2 rfl) ?_
        refine lv_ishr hx hb dX4_takesSeen_40 ?_
        refine lv_iconst (v := (1 : Int32)) hx hb dX4_takesSeen_41 (by decide) ?_
        refine lv_iand hx hb dX4_takesSeen_42 ?_
        refine lv_if_eq (tgt := 48) hx hb dX4_takesSeen_43 (by decide) (fun c43 => ?_) (fun c43 => ?_)
        · have h := br_1 h c43
          refine lv_aload_n hx hb dX4_takesSeen_48 rfl (lv_at hl 3 rfl) ?_
          refine va_getN (host := "PartyWill") (D := D) (ci := 1) (C := RX2) (T := TX2) (N := 7) hx hb hts iX2 hown hK hP 1 wRP_1 rfl 5 (by decide) (va_Nw.use rfl (nw_X4_82 hKK.2)) (fun _ h9 => h9) rfl dX4_takesSeen_49 ?_
          refine lv_aload_n hx hb dX4_takesSeen_52 rfl (lv_at hl 1 rfl) ?_
          refine va_get (D := D) (ci := 2) (C := RX4) (T := TX4) (N := 4) hx hb hts iX4 hown hK hP 0 wRP_0 rfl 2 (by decide) q1 (fun _ h9 => h9) rfl dX4_takesSeen_53 ?_
          refine lv_dup2_11 hx hb dX4_takesSeen_56 rfl rfl ?_
          obtain ⟨hin2, h⟩ := ck_some h
          refine va_iald hx hb hK hP 5 0 wRP_5 rfl hin2 dX4_takesSeen_57 ?_
          refine lv_iconst (v := (1 : Int32)) hx hb dX4_takesSeen_58 (by decide) ?_
          refine lv_iload_n hx hb dX4_takesSeen_59 rfl (lv_at hl 2 rfl) ?_
          refine lv_ishl hx hb dX4_takesSeen_60 ?_
          refine lv_ior hx hb dX4_takesSeen_61 ?_
          obtain ⟨hin3, h⟩ := ck_some h
          refine va_iast hx hb hK hP hD hS 5 0 wRP_5 rfl hin3 dX4_takesSeen_62 (fun H locs hP hD hS => ?_)
          have hP : va_P D vwCl (wRP T b0 a0 a1 a2 a3 a4 a5 rdue rtun rsee rbeg size clause eff kin gri (upd sig rsee.toNatClampNeg ((sig rsee.toNatClampNeg) ||| ((1 : Int32) <<< (x1 &&& 31)))) see) H := hP
          have hD : va_D A (wRP T b0 a0 a1 a2 a3 a4 a5 rdue rtun rsee rbeg size clause eff kin gri (upd sig rsee.toNatClampNeg ((sig rsee.toNatClampNeg) ||| ((1 : Int32) <<< (x1 &&& 31)))) see) := hD
          refine lv_aload_n hx hb dX4_takesSeen_63 rfl (lv_at hl 3 rfl) ?_
          refine va_getN (host := "PartyWill") (D := D) (ci := 1) (C := RX2) (T := TX2) (N := 7) hx hb hts iX2 hown hK hP 1 wRP_1 rfl 6 (by decide) (va_Nw.use rfl (nw_X4_85 hKK.2)) (fun _ h9 => h9) rfl dX4_takesSeen_64 ?_
          refine lv_iload_n hx hb dX4_takesSeen_67 rfl (lv_at hl 2 rfl) ?_
          refine lv_dup2_11 hx hb dX4_takesSeen_68 rfl rfl ?_
          obtain ⟨hin4, h⟩ := ck_some h
          refine va_iald hx hb hK hP 6 0 wRP_6 rfl hin4 dX4_takesSeen_69 ?_
          refine lv_iconst (v := (1 : Int32)) hx hb dX4_takesSeen_70 (by decide) ?_
          refine lv_aload_n hx hb dX4_takesSeen_71 rfl (lv_at hl 1 rfl) ?_
          refine va_get (D := D) (ci := 2) (C := RX4) (T := TX4) (N := 4) hx hb hts iX4 hown hK hP 0 wRP_0 rfl 2 (by decide) q1 (fun _ h9 => h9) rfl dX4_takesSeen_72 ?_
          refine lv_ishl hx hb dX4_takesSeen_75 ?_
          refine lv_ior hx hb dX4_takesSeen_76 ?_
          obtain ⟨hin5, h⟩ := ck_some h
          refine va_iast hx hb hK hP hD hS 6 0 wRP_6 rfl hin5 dX4_takesSeen_77 (fun H locs hP hD hS => ?_)
          have hP : va_P D vwCl (wRP T b0 a0 a1 a2 a3 a4 a5 rdue rtun rsee rbeg size clause eff kin gri (upd sig rsee.toNatClampNeg ((sig rsee.toNatClampNeg) ||| ((1 : Int32) <<< (x1 &&& 31)))) (upd see x1.toNatClampNeg ((see x1.toNatClampNeg) ||| ((1 : Int32) <<< (rsee &&& 31))))) H := hP
          have hD : va_D A (wRP T b0 a0 a1 a2 a3 a4 a5 rdue rtun rsee rbeg size clause eff kin gri (upd sig rsee.toNatClampNeg ((sig rsee.toNatClampNeg) ||| ((1 : Int32) <<< (x1 &&& 31)))) (upd see x1.toNatClampNeg ((see x1.toNatClampNeg) ||| ((1 : Int32) <<< (rsee &&& 31))))) := hD
          refine lv_aload_n hx hb dX4_takesSeen_78 rfl (lv_at hl 1 rfl) ?_
          refine lv_iconst (v := (3 : Int32)) hx hb dX4_takesSeen_79 (by decide) ?_
          refine va_put (D := D) (ci := 2) (v := .int (3 : Int32)) (ty := .int) (C := RX4) (T := TX4) (N := 4) hx hb hts iX4 tyX4 tyX4_ok nmX4 hown hK hP hD hS 0 wRP_0 rfl 0 (by decide) q2 (fun _ h9 => h9) rfl (by decide +kernel) rfl rfl (Nat.le_of_ble_eq_true rfl) dX4_takesSeen_80 (fun H locs hP hD hS => ?_)
          have hP : va_P D vwCl (wRP T b0 a0 a1 a2 a3 a4 a5 (3 : Int32) rtun rsee rbeg size clause eff kin gri (upd sig rsee.toNatClampNeg ((sig rsee.toNatClampNeg) ||| ((1 : Int32) <<< (x1 &&& 31)))) (upd see x1.toNatClampNeg ((see x1.toNatClampNeg) ||| ((1 : Int32) <<< (rsee &&& 31))))) H := hP
          have hD : va_D A (wRP T b0 a0 a1 a2 a3 a4 a5 (3 : Int32) rtun rsee rbeg size clause eff kin gri (upd sig rsee.toNatClampNeg ((sig rsee.toNatClampNeg) ||| ((1 : Int32) <<< (x1 &&& 31)))) (upd see x1.toNatClampNeg ((see x1.toNatClampNeg) ||| ((1 : Int32) <<< (rsee &&& 31))))) := hD
          refine lv_iconst (v := (1 : Int32)) hx hb dX4_takesSeen_83 (by decide) ?_
          cases h
          exact hret _ _ _ _ hP hD hS dX4_takesSeen_84 (Or.inr rfl)
        · have h := br_0 h c43
          refine lv_iconst (v := (0 : Int32)) hx hb dX4_takesSeen_46 (by decide) ?_
          cases h
          exact hret _ _ _ _ hP hD hS dX4_takesSeen_47 (Or.inl rfl)
    unfold fX4_takesSeen at h
    refine lv_iload_n hx hb dX4_takesSeen_0 rfl (lv_at hl 1 rfl) ?_
    refine lv_if_lt (tgt := 24) hx hb dX4_takesSeen_1 (by decide) (fun c1 => ?_) (fun c1 => ?_)
    · have h := br_1 h c1
      refine lv_iconst (v := (0 : Int32)) hx hb dX4_takesSeen_24 (by decide) ?_
      exact n25 (0 : Int32) x1 rdue sig see h _ _ hP hD hS _ (lv_sub hl [0, 1, 2] rfl)
    · have h := br_0 h c1
      refine lv_iload_n hx hb dX4_takesSeen_4 rfl (lv_at hl 1 rfl) ?_
      refine lv_aload_n hx hb dX4_takesSeen_5 rfl (lv_at hl 2 rfl) ?_
      refine va_getN (host := "PartyWill") (D := D) (ci := 1) (C := RX2) (T := TX2) (N := 7) hx hb hts iX2 hown hK hP 1 wRP_1 rfl 0 (by decide) (va_Nw.use rfl (nw_X4_34 hKK.2)) (fun _ h9 => h9) rfl dX4_takesSeen_6 ?_
      refine lv_icmp_ge (tgt := 24) hx hb dX4_takesSeen_9 (by decide) (fun c9 => ?_) (fun c9 => ?_)
      · have h := br_1 h c9
        refine lv_iconst (v := (0 : Int32)) hx hb dX4_takesSeen_24 (by decide) ?_
        exact n25 (0 : Int32) x1 rdue sig see h _ _ hP hD hS _ (lv_sub hl [0, 1, 2] rfl)
      · have h := br_0 h c9
        refine lv_iload_n hx hb dX4_takesSeen_12 rfl (lv_at hl 1 rfl) ?_
        refine lv_aload_n hx hb dX4_takesSeen_13 rfl (lv_at hl 0 rfl) ?_
        refine va_get (D := D) (ci := 2) (C := RX4) (T := TX4) (N := 4) hx hb hts iX4 hown hK hP 0 wRP_0 rfl 2 (by decide) q1 (fun _ h9 => h9) rfl dX4_takesSeen_14 ?_
        refine lv_icmp_eq (tgt := 24) hx hb dX4_takesSeen_17 (by decide) (fun c17 => ?_) (fun c17 => ?_)
        · have h := br_1 h c17
          refine lv_iconst (v := (0 : Int32)) hx hb dX4_takesSeen_24 (by decide) ?_
          exact n25 (0 : Int32) x1 rdue sig see h _ _ hP hD hS _ (lv_sub hl [0, 1, 2] rfl)
        · have h := br_0 h c17
          refine lv_iconst (v := (1 : Int32)) hx hb dX4_takesSeen_20 (by decide) ?_
          refine lv_goto (tgt := 25) hx hb dX4_takesSeen_21 (by decide) ?_
          exact n25 (1 : Int32) x1 rdue sig see h _ _ hP hD hS _ (lv_sub hl [0, 1, 2] rfl)
  exact key _ (fun H locs pc ls hP hD hS hd hb1 => W.zret hx hb hr (b01_n hb1) (fun t ht hW => ⟨⟨_, (), rfl, ⟨rfl, hb1⟩, by show _ ∧ _; rw [ht]; exact ⟨hP, hD⟩⟩, hS.F ht⟩) hS.2.2 hd)
set_option maxHeartbeats 4000000 in
set_option maxRecDepth 100000 in
theorem kX4_takesSeer (l : Launch) (D : va_G) (T : Nat → ClassId) (F : Nat) (b0 : Nat) (a0 : Nat) (a1 : Nat) (a2 : Nat) (a3 : Nat) (a4 : Nat) (a5 : Nat) (rdue : Int32) (rtun : Int32) (rsee : Int32) (rbeg : Int32) (size : Int32) (clause : Int32) (eff : Nat → Int32) (kin : Nat → Int32) (gri : Nat → Int32) (sig : Nat → Int32) (see : Nat → Int32) (x1 : Int32) (r : Int32) (zrdue : Int32) (zrsee : Int32) (h : fX4_takesSeer F rdue rsee size x1 = some (r, zrdue, zrsee)) : ∀ sz : Nat, Met l yX4_takesSeer wsX4_takesSeer ({ frames := 0, cells := 0, slots := 0, locals := 0 } : Room) (va_Pc [.ref b0, .int x1, .ref a0] (fun U => U.heap.size = sz ∧ va_P D vwCl (wRP T b0 a0 a1 a2 a3 a4 a5 rdue rtun rsee rbeg size clause eff kin gri sig see) U.heap ∧ KK D T U ∧ va_D (fun _ => True) (wRP T b0 a0 a1 a2 a3 a4 a5 rdue rtun rsee rbeg size clause eff kin gri sig see))) (va_Qi (fun r' (_ : Unit) => r' = r ∧ b01 r) (fun _ t => va_P D vwCl (wRP T b0 a0 a1 a2 a3 a4 a5 zrdue rtun zrsee rbeg size clause eff kin gri sig see) t.heap ∧ va_D (va_A (wRP T b0 a0 a1 a2 a3 a4 a5 rdue rtun rsee rbeg size clause eff kin gri sig see) sz) (wRP T b0 a0 a1 a2 a3 a4 a5 zrdue rtun zrsee rbeg size clause eff kin gri sig see)) (va_A (wRP T b0 a0 a1 a2 a3 a4 a5 rdue rtun rsee rbeg size clause eff kin gri sig see) sz)) 0 0 (va_A (wRP T b0 a0 a1 a2 a3 a4 a5 rdue rtun rsee rbeg size clause eff kin gri sig see) sz) := by
  intro sz
  refine Met.ofW (cc := cX4_takesSeer) (maxL := 3) (ret := some .boolean) (by decide) rfl ?_
  intro p e s m args below meth c s₁ B hml hv
  obtain ⟨ha, hsz, hP, hKK, hD0⟩ := hv
  have hx := B.exec
  have hb := B.bytes
  have hr := B.returns
  have hts := atoms_spec (ws := wsX4_takesSeer) B.pre
  have hown : s.vm.findClass RX4 = some m.cls := findClass_of_methodNamed B.named
  have hlocks := B.notSynchronized
  have hK := hKK.1
  have hFix : CallFix p m c cX4_takesSeer 3 s args wsX4_takesSeer RX4 := ⟨hx, hb, hml, hown, hts⟩
  have q1 := hts _ (List.mem_of_getElem? (i := 1) (show wsX4_takesSeer[1]? = some (Cond.fieldLink RX4 18 "PartyWill$Reader" "seer" "I") from rfl))
  have q2 := hts _ (List.mem_of_getElem? (i := 2) (show wsX4_takesSeer[2]? = some (Cond.fieldLink RX4 11 "PartyWill$Reader" "due" "I") from rfl))
  have iX2 : ∀ w ∈ u_ws RX2 TX2 7, w ∈ wsX4_takesSeer := fun w h => List.mem_cons_of_mem _ (List.mem_append_right _ (h))
  have iX4 : ∀ w ∈ u_ws RX4 TX4 4, w ∈ wsX4_takesSeer := fun w h => List.mem_cons_of_mem _ (List.mem_append_left _ (List.mem_append_right _ (h)))
  subst hsz
  have hD := hD0.self (sz := s.heap.size)
  generalize hAe : va_A (wRP T b0 a0 a1 a2 a3 a4 a5 rdue rtun rsee rbeg size clause eff kin gri sig see) s.heap.size = A at hD ⊢
  have hA : ∀ q : Nat, s.heap.size ≤ q → A q := fun q h => by rw [← hAe]; exact Or.inr h
  have hS : va_S A s.heap s.heap [] := va_S.rf
  have hP : va_P D vwCl (wRP T b0 a0 a1 a2 a3 a4 a5 rdue rtun rsee rbeg size clause eff kin gri sig see) s.heap := hP
  obtain ⟨ls, hl, e0⟩ := my_entry (m := m) (n := 3) ha (Nat.le_of_ble_eq_true rfl)
  rw [e0]
  have hl : lv_has ls 3 [(0, .ref b0), (1, .int x1), (2, .ref a0)] := hl
  have key : ∀ Q : State → Prop, (∀ (H : Heap) (locs : List Loc) (pc : Nat) (ls : Array Slot), va_P D vwCl (wRP T b0 a0 a1 a2 a3 a4 a5 zrdue rtun zrsee rbeg size clause eff kin gri sig see) H → va_D A (wRP T b0 a0 a1 a2 a3 a4 a5 zrdue rtun zrsee rbeg size clause eff kin gri sig see) → va_S A s.heap H locs → decode cX4_takesSeer pc = .ok (.ireturn, 1) → b01 r → W p l e ({ frames := 0, cells := 0, slots := 0, locals := 0 } : Room) s m args below meth c H locs 0 0 Q (F0 m pc ls [.int r])) → W p l e ({ frames := 0, cells := 0, slots := 0, locals := 0 } : Room) s m args below meth c s.heap [] 0 0 Q (F0 m 0 ls []) := by
    intro Q hret
    skip
    unfold fX4_takesSeer at h
    refine lv_aload_n hx hb dX4_takesSeer_0 rfl (lv_at hl 0 rfl) ?_
    refine lv_iload_n hx hb dX4_takesSeer_1 rfl (lv_at hl 1 rfl) ?_
    refine va_put (D := D) (ci := 2) (v := .int x1) (ty := .int) (C := RX4) (T := TX4) (N := 4) hx hb hts iX4 tyX4 tyX4_ok nmX4 hown hK hP hD hS 0 wRP_0 rfl 2 (by decide) q1 (fun _ h9 => h9) rfl (by decide +kernel) rfl rfl (Nat.le_of_ble_eq_true rfl) dX4_takesSeer_2 (fun H locs hP hD hS => ?_)
    have hP : va_P D vwCl (wRP T b0 a0 a1 a2 a3 a4 a5 rdue rtun x1 rbeg size clause eff kin gri sig see) H := hP
    have hD : va_D A (wRP T b0 a0 a1 a2 a3 a4 a5 rdue rtun x1 rbeg size clause eff kin gri sig see) := hD
    refine lv_aload_n hx hb dX4_takesSeer_5 rfl (lv_at hl 0 rfl) ?_
    refine lv_bipush (v := (6 : Int32)) hx hb dX4_takesSeer_6 (by decide) ?_
    refine va_put (D := D) (ci := 2) (v := .int (6 : Int32)) (ty := .int) (C := RX4) (T := TX4) (N := 4) hx hb hts iX4 tyX4 tyX4_ok nmX4 hown hK hP hD hS 0 wRP_0 rfl 0 (by decide) q2 (fun _ h9 => h9) rfl (by decide +kernel) rfl rfl (Nat.le_of_ble_eq_true rfl) dX4_takesSeer_8 (fun H locs hP hD hS => ?_)
    have hP : va_P D vwCl (wRP T b0 a0 a1 a2 a3 a4 a5 (6 : Int32) rtun x1 rbeg size clause eff kin gri sig see) H := hP
    have hD : va_D A (wRP T b0 a0 a1 a2 a3 a4 a5 (6 : Int32) rtun x1 rbeg size clause eff kin gri sig see) := hD
    refine lv_iload_n hx hb dX4_takesSeer_11 rfl (lv_at hl 1 rfl) ?_
    refine lv_if_lt (tgt := 27) hx hb dX4_takesSeer_12 (by decide) (fun c12 => ?_) (fun c12 => ?_)
    · have h := br_1 h c12
      refine lv_iconst (v := (0 : Int32)) hx hb dX4_takesSeer_27 (by decide) ?_
      cases h
      exact hret _ _ _ _ hP hD hS dX4_takesSeer_28 (Or.inl rfl)
    · have h := br_0 h c12
      refine lv_iload_n hx hb dX4_takesSeer_15 rfl (lv_at hl 1 rfl) ?_
      refine lv_aload_n hx hb dX4_takesSeer_16 rfl (lv_at hl 2 rfl) ?_
      refine va_getN (host := "PartyWill") (D := D) (ci := 1) (C := RX2) (T := TX2) (N := 7) hx hb hts iX2 hown hK hP 1 wRP_1 rfl 0 (by decide) (va_Nw.use rfl (nw_X4_34 hKK.2)) (fun _ h9 => h9) rfl dX4_takesSeer_17 ?_
      refine lv_icmp_ge (tgt := 27) hx hb dX4_takesSeer_20 (by decide) (fun c20 => ?_) (fun c20 => ?_)
      · have h := br_1 h c20
        refine lv_iconst (v := (0 : Int32)) hx hb dX4_takesSeer_27 (by decide) ?_
        cases h
        exact hret _ _ _ _ hP hD hS dX4_takesSeer_28 (Or.inl rfl)
      · have h := br_0 h c20
        refine lv_iconst (v := (1 : Int32)) hx hb dX4_takesSeer_23 (by decide) ?_
        refine lv_goto (tgt := 28) hx hb dX4_takesSeer_24 (by decide) ?_
        cases h
        exact hret _ _ _ _ hP hD hS dX4_takesSeer_28 (Or.inr rfl)
  exact key _ (fun H locs pc ls hP hD hS hd hb1 => W.zret hx hb hr (b01_n hb1) (fun t ht hW => ⟨⟨_, (), rfl, ⟨rfl, hb1⟩, by show _ ∧ _; rw [ht]; exact ⟨hP, hD⟩⟩, hS.F ht⟩) hS.2.2 hd)
set_option maxHeartbeats 4000000 in
set_option maxRecDepth 100000 in
theorem kX4_takes (l : Launch) (D : va_G) (T : Nat → ClassId) (F : Nat) (b0 : Nat) (a0 : Nat) (a1 : Nat) (a2 : Nat) (a3 : Nat) (a4 : Nat) (a5 : Nat) (rdue : Int32) (rtun : Int32) (rsee : Int32) (rbeg : Int32) (size : Int32) (clause : Int32) (eff : Nat → Int32) (kin : Nat → Int32) (gri : Nat → Int32) (sig : Nat → Int32) (see : Nat → Int32) (x1 : Int32) (r : Int32) (zrdue : Int32) (zrtun : Int32) (zrsee : Int32) (zrbeg : Int32) (zsize : Int32) (zclause : Int32) (zeff : Nat → Int32) (zkin : Nat → Int32) (zgri : Nat → Int32) (zsig : Nat → Int32) (zsee : Nat → Int32) (h : fX4_takes F rdue rtun rsee rbeg size clause eff kin gri sig see x1 = some (r, zrdue, zrtun, zrsee, zrbeg, zsize, zclause, zeff, zkin, zgri, zsig, zsee)) : ∀ sz : Nat, Met l yX4_takes wsX4_takes ({ frames := 2, cells := 0, slots := 0, locals := 43 } : Room) (va_Pc [.ref b0, .int x1, .ref a0] (fun U => U.heap.size = sz ∧ va_P D vwCl (wRP T b0 a0 a1 a2 a3 a4 a5 rdue rtun rsee rbeg size clause eff kin gri sig see) U.heap ∧ KK D T U ∧ va_D (fun _ => True) (wRP T b0 a0 a1 a2 a3 a4 a5 rdue rtun rsee rbeg size clause eff kin gri sig see))) (va_Qi (fun r' (_ : Unit) => r' = r ∧ b01 r) (fun _ t => va_P D vwCl (wRP T b0 a0 a1 a2 a3 a4 a5 zrdue zrtun zrsee zrbeg zsize zclause zeff zkin zgri zsig zsee) t.heap ∧ va_D (va_A (wRP T b0 a0 a1 a2 a3 a4 a5 rdue rtun rsee rbeg size clause eff kin gri sig see) sz) (wRP T b0 a0 a1 a2 a3 a4 a5 zrdue zrtun zrsee zrbeg zsize zclause zeff zkin zgri zsig zsee)) (va_A (wRP T b0 a0 a1 a2 a3 a4 a5 rdue rtun rsee rbeg size clause eff kin gri sig see) sz)) 0 0 (va_A (wRP T b0 a0 a1 a2 a3 a4 a5 rdue rtun rsee rbeg size clause eff kin gri sig see) sz) := by
  intro sz
  refine Met.ofW (cc := cX4_takes) (maxL := 3) (ret := some .boolean) (by decide) rfl ?_
  intro p e s m args below meth c s₁ B hml hv
  obtain ⟨ha, hsz, hP, hKK, hD0⟩ := hv
  have hx := B.exec
  have hb := B.bytes
  have hr := B.returns
  have hts := atoms_spec (ws := wsX4_takes) B.pre
  have hown : s.vm.findClass RX4 = some m.cls := findClass_of_methodNamed B.named
  have hlocks := B.notSynchronized
  have hK := hKK.1
  have hFix : CallFix p m c cX4_takes 3 s args wsX4_takes RX4 := ⟨hx, hb, hml, hown, hts⟩
  have q1 := hts _ (List.mem_of_getElem? (i := 1) (show wsX4_takes[1]? = some (Cond.fieldLink RX4 11 "PartyWill$Reader" "due" "I") from rfl))
  have iX4 : ∀ w ∈ u_ws RX4 TX4 4, w ∈ wsX4_takes := fun w h => List.mem_cons_of_mem _ (List.mem_append_left _ (List.mem_append_right _ (h)))
  subst hsz
  have hD := hD0.self (sz := s.heap.size)
  generalize hAe : va_A (wRP T b0 a0 a1 a2 a3 a4 a5 rdue rtun rsee rbeg size clause eff kin gri sig see) s.heap.size = A at hD ⊢
  have hA : ∀ q : Nat, s.heap.size ≤ q → A q := fun q h => by rw [← hAe]; exact Or.inr h
  have hS : va_S A s.heap s.heap [] := va_S.rf
  have hP : va_P D vwCl (wRP T b0 a0 a1 a2 a3 a4 a5 rdue rtun rsee rbeg size clause eff kin gri sig see) s.heap := hP
  obtain ⟨ls, hl, e0⟩ := my_entry (m := m) (n := 3) ha (Nat.le_of_ble_eq_true rfl)
  rw [e0]
  have hl : lv_has ls 3 [(0, .ref b0), (1, .int x1), (2, .ref a0)] := hl
  have key : ∀ Q : State → Prop, (∀ (H : Heap) (locs : List Loc) (pc : Nat) (ls : Array Slot), va_P D vwCl (wRP T b0 a0 a1 a2 a3 a4 a5 zrdue zrtun zrsee zrbeg zsize zclause zeff zkin zgri zsig zsee) H → va_D A (wRP T b0 a0 a1 a2 a3 a4 a5 zrdue zrtun zrsee zrbeg zsize zclause zeff zkin zgri zsig zsee) → va_S A s.heap H locs → decode cX4_takes pc = .ok (.ireturn, 1) → b01 r → W p l e ({ frames := 2, cells := 0, slots := 0, locals := 43 } : Room) s m args below meth c H locs 0 0 Q (F0 m pc ls [.int r])) → W p l e ({ frames := 2, cells := 0, slots := 0, locals := 43 } : Room) s m args below meth c s.heap [] 0 0 Q (F0 m 0 ls []) := by
    intro Q hret
    skip
    unfold fX4_takes at h
    refine lv_iload_n hx hb dX4_takes_0 rfl (lv_at hl 1 rfl) ?_
    refine lv_bipush (v := (32 : Int32)) hx hb dX4_takes_1 (by decide) ?_
    refine lv_icmp_ne (tgt := 27) hx hb dX4_takes_3 (by decide) (fun c3 => ?_) (fun c3 => ?_)
    · have h := br_0 h c3
      refine lv_aload_n hx hb dX4_takes_27 rfl (lv_at hl 0 rfl) ?_
      refine va_get (D := D) (ci := 2) (C := RX4) (T := TX4) (N := 4) hx hb hts iX4 hown hK hP 0 wRP_0 rfl 0 (by decide) q1 (fun _ h9 => h9) rfl dX4_takes_28 ?_
      by_cases z31_0 : rdue = (0 : Int32)
      · have h := br_1 h z31_0
        refine lv_tableIn (tgt := 68) (off := 37) hx hb dX4_takes_31 (by rw [z31_0]; decide) (by rw [z31_0]; decide) (by rw [z31_0]; decide) (by decide) ?_
        refine lv_aload_n hx hb dX4_takes_68 rfl (lv_at hl 0 rfl) ?_
        refine lv_iload_n hx hb dX4_takes_69 rfl (lv_at hl 1 rfl) ?_
        obtain ⟨r70, w70_rdue, hc, h⟩ := bd2_some h
        have hPc : va_P D vwCl (wRe T b0 rdue rtun rsee rbeg) _ := my_subP sb_wRP_wRe_0 hP
        have hDc := hD.sub [0] (by decide) sb_wRP_wRe_0
        have hFc := va_free hD hS hA [0] sb_wRP_wRe_0
        refine my_rwz (va_runV (As := [.int x1]) (rest := []) hFix (kX4_takesOpening l D T F b0 rdue rtun rsee rbeg x1 r70 w70_rdue hc _) (cwV 1 hts gX4_takes_X4_takesOpening rfl rfl rfl ⟨rfl, hd_X4_takesOpening⟩ ⟨Nat.le_of_ble_eq_true rfl, Nat.le_of_ble_eq_true rfl⟩) (preV_rw hPc hKK hDc (va_recv hK hP (ci := 2) (q0 := 0) rfl wRP_0)) rfl rfl hl.1 rfl (lv_room (Nat.le_of_ble_eq_true rfl)) dX4_takes_70 ⟨Nat.zero_le _, Nat.zero_le _⟩) hS hFc (fun hb70 H1 locs hP1 hD1 hz1 hkk hS => ?_)
        obtain ⟨hP, hD⟩ := my_joinS hP hD (by decide) sb_wRP_wRe_0 (by rfl) hkk hFc hP1 hD1
        rw [st_wRP_wRe_0_takesOpening] at hP hD
        generalize H1 = H at hP hS ⊢
        cases h
        exact hret _ _ _ _ hP hD hS dX4_takes_73 hb70
      have h := br_0 h z31_0
      by_cases z31_1 : rdue = (1 : Int32)
      · have h := br_1 h z31_1
        refine lv_tableIn (tgt := 74) (off := 43) hx hb dX4_takes_31 (by rw [z31_1]; decide) (by rw [z31_1]; decide) (by rw [z31_1]; decide) (by decide) ?_
        refine lv_aload_n hx hb dX4_takes_74 rfl (lv_at hl 0 rfl) ?_
        refine lv_iload_n hx hb dX4_takes_75 rfl (lv_at hl 1 rfl) ?_
        refine lv_bipush (v := (48 : Int32)) hx hb dX4_takes_76 (by decide) ?_
        refine lv_isub hx hb dX4_takes_78 ?_
        refine lv_aload_n hx hb dX4_takes_79 rfl (lv_at hl 2 rfl) ?_
        obtain ⟨r80, w80_rdue, w80_clause, hc, h⟩ := bd3_some h
        have hFc := my_freeS hD hS hA
        refine my_rwz (va_runV (As := [.int (x1 - (48 : Int32)), .ref a0]) (rest := []) hFix (kX4_takesClause l D T F b0 a0 a1 a2 a3 a4 a5 rdue rtun rsee rbeg size clause eff kin gri sig see (x1 - (48 : Int32)) r80 w80_rdue w80_clause hc _) (cwV 2 hts gX4_takes_X4_takesClause rfl rfl rfl ⟨rfl, hd_X4_takesClause⟩ ⟨Nat.le_of_ble_eq_true rfl, Nat.le_of_ble_eq_true rfl⟩) (preV_rw hP hKK hD (va_recv hK hP (ci := 2) (q0 := 0) rfl wRP_0)) rfl rfl hl.1 rfl (lv_room (Nat.le_of_ble_eq_true rfl)) dX4_takes_80 ⟨Nat.zero_le _, Nat.zero_le _⟩) hS hFc (fun hb80 H1 locs hP1 hD1 hz1 hkk hS => ?_)
        have hP : va_P D vwCl (wRP T b0 a0 a1 a2 a3 a4 a5 w80_rdue rtun rsee rbeg size w80_clause eff kin gri sig see) H1 := hP1
        have hD : va_D A (wRP T b0 a0 a1 a2 a3 a4 a5 w80_rdue rtun rsee rbeg size w80_clause eff kin gri sig see) := hD1.weaken (fun _ q _ h => hFc q.1 h)
        generalize H1 = H at hP hS ⊢
        cases h
        exact hret _ _ _ _ hP hD hS dX4_takes_83 hb80
      have h := br_0 h z31_1
      by_cases z31_2 : rdue = (2 : Int32)
      · have h := br_1 h z31_2
        refine lv_tableIn (tgt := 84) (off := 53) hx hb dX4_takes_31 (by rw [z31_2]; decide) (by rw [z31_2]; decide) (by rw [z31_2]; decide) (by decide) ?_
        refine lv_aload_n hx hb dX4_takes_84 rfl (lv_at hl 0 rfl) ?_
        refine lv_iload_n hx hb dX4_takes_85 rfl (lv_at hl 1 rfl) ?_
        refine lv_bipush (v := (48 : Int32)) hx hb dX4_takes_86 (by decide) ?_
        refine lv_isub hx hb dX4_takes_88 ?_
        refine lv_aload_n hx hb dX4_takes_89 rfl (lv_at hl 2 rfl) ?_
        obtain ⟨r90, w90_rdue, w90_rtun, w90_eff, hc, h⟩ := bd4_some h
        have hFc := my_freeS hD hS hA
        refine my_rwz (va_runV (As := [.int (x1 - (48 : Int32)), .ref a0]) (rest := []) hFix (kX4_takesEffect l D T F b0 a0 a1 a2 a3 a4 a5 rdue rtun rsee rbeg size clause eff kin gri sig see (x1 - (48 : Int32)) r90 w90_rdue w90_rtun w90_eff hc _) (cwV 2 hts gX4_takes_X4_takesEffect rfl rfl rfl ⟨rfl, hd_X4_takesEffect⟩ ⟨Nat.le_of_ble_eq_true rfl, Nat.le_of_ble_eq_true rfl⟩) (preV_rw hP hKK hD (va_recv hK hP (ci := 2) (q0 := 0) rfl wRP_0)) rfl rfl hl.1 rfl (lv_room (Nat.le_of_ble_eq_true rfl)) dX4_takes_90 ⟨Nat.zero_le _, Nat.zero_le _⟩) hS hFc (fun hb90 H1 locs hP1 hD1 hz1 hkk hS => ?_)
        have hP : va_P D vwCl (wRP T b0 a0 a1 a2 a3 a4 a5 w90_rdue w90_rtun rsee rbeg size clause w90_eff kin gri sig see) H1 := hP1
        have hD : va_D A (wRP T b0 a0 a1 a2 a3 a4 a5 w90_rdue w90_rtun rsee rbeg size clause w90_eff kin gri sig see) := hD1.weaken (fun _ q _ h => hFc q.1 h)
        generalize H1 = H at hP hS ⊢
        cases h
        exact hret _ _ _ _ hP hD hS dX4_takes_93 hb90
      have h := br_0 h z31_2
      by_cases z31_3 : rdue = (3 : Int32)
      · have h := br_1 h z31_3
        refine lv_tableIn (tgt := 94) (off := 63) hx hb dX4_takes_31 (by rw [z31_3]; decide) (by rw [z31_3]; decide) (by rw [z31_3]; decide) (by decide) ?_
        refine lv_aload_n hx hb dX4_takes_94 rfl (lv_at hl 0 rfl) ?_
        refine lv_iload_n hx hb dX4_takes_95 rfl (lv_at hl 1 rfl) ?_
        refine lv_aload_n hx hb dX4_takes_96 rfl (lv_at hl 2 rfl) ?_
        obtain ⟨r97, w97_rdue, w97_rbeg, w97_kin, hc, h⟩ := bd4_some h
        have hFc := my_freeS hD hS hA
        refine my_rwz (va_runV (As := [.int x1, .ref a0]) (rest := []) hFix (kX4_takesLetter l D T F b0 a0 a1 a2 a3 a4 a5 rdue rtun rsee rbeg size clause eff kin gri sig see x1 r97 w97_rdue w97_rbeg w97_kin hc _) (cwV 2 hts gX4_takes_X4_takesLetter rfl rfl rfl ⟨rfl, hd_X4_takesLetter⟩ ⟨Nat.le_of_ble_eq_true rfl, Nat.le_of_ble_eq_true rfl⟩) (preV_rw hP hKK hD (va_recv hK hP (ci := 2) (q0 := 0) rfl wRP_0)) rfl rfl hl.1 rfl (lv_room (Nat.le_of_ble_eq_true rfl)) dX4_takes_97 ⟨Nat.zero_le _, Nat.zero_le _⟩) hS hFc (fun hb97 H1 locs hP1 hD1 hz1 hkk hS => ?_)
        have hP : va_P D vwCl (wRP T b0 a0 a1 a2 a3 a4 a5 w97_rdue rtun rsee w97_rbeg size clause eff w97_kin gri sig see) H1 := hP1
        have hD : va_D A (wRP T b0 a0 a1 a2 a3 a4 a5 w97_rdue rtun rsee w97_rbeg size clause eff w97_kin gri sig see) := hD1.weaken (fun _ q _ h => hFc q.1 h)
        generalize H1 = H at hP hS ⊢
        cases h
        exact hret _ _ _ _ hP hD hS dX4_takes_100 hb97
      have h := br_0 h z31_3
      by_cases z31_4 : rdue = (4 : Int32)
      · have h := br_1 h z31_4
        refine lv_tableIn (tgt := 101) (off := 70) hx hb dX4_takes_31 (by rw [z31_4]; decide) (by rw [z31_4]; decide) (by rw [z31_4]; decide) (by decide) ?_
        refine lv_aload_n hx hb dX4_takes_101 rfl (lv_at hl 0 rfl) ?_
        refine lv_iload_n hx hb dX4_takes_102 rfl (lv_at hl 1 rfl) ?_
        refine lv_bipush (v := (48 : Int32)) hx hb dX4_takes_103 (by decide) ?_
        refine lv_isub hx hb dX4_takes_105 ?_
        refine lv_aload_n hx hb dX4_takes_106 rfl (lv_at hl 2 rfl) ?_
        obtain ⟨r107, w107_rdue, w107_size, w107_gri, hc, h⟩ := bd4_some h
        have hFc := my_freeS hD hS hA
        refine my_rwz (va_runV (As := [.int (x1 - (48 : Int32)), .ref a0]) (rest := []) hFix (kX4_takesGrief l D T F b0 a0 a1 a2 a3 a4 a5 rdue rtun rsee rbeg size clause eff kin gri sig see (x1 - (48 : Int32)) r107 w107_rdue w107_size w107_gri hc _) (cwV 2 hts gX4_takes_X4_takesGrief rfl rfl rfl ⟨rfl, hd_X4_takesGrief⟩ ⟨Nat.le_of_ble_eq_true rfl, Nat.le_of_ble_eq_true rfl⟩) (preV_rw hP hKK hD (va_recv hK hP (ci := 2) (q0 := 0) rfl wRP_0)) rfl rfl hl.1 rfl (lv_room (Nat.le_of_ble_eq_true rfl)) dX4_takes_107 ⟨Nat.zero_le _, Nat.zero_le _⟩) hS hFc (fun hb107 H1 locs hP1 hD1 hz1 hkk hS => ?_)
        have hP : va_P D vwCl (wRP T b0 a0 a1 a2 a3 a4 a5 w107_rdue rtun rsee rbeg w107_size clause eff kin w107_gri sig see) H1 := hP1
        have hD : va_D A (wRP T b0 a0 a1 a2 a3 a4 a5 w107_rdue rtun rsee rbeg w107_size clause eff kin w107_gri sig see) := hD1.weaken (fun _ q _ h => hFc q.1 h)
        generalize H1 = H at hP hS ⊢
        cases h
        exact hret _ _ _ _ hP hD hS dX4_takes_110 hb107
      have h := br_0 h z31_4
      by_cases z31_5 : rdue = (5 : Int32)
      · have h := br_1 h z31_5
        refine lv_tableIn (tgt := 111) (off := 80) hx hb dX4_takes_31 (by rw [z31_5]; decide) (by rw [z31_5]; decide) (by rw [z31_5]; decide) (by decide) ?_
        refine lv_aload_n hx hb dX4_takes_111 rfl (lv_at hl 0 rfl) ?_
        refine lv_iload_n hx hb dX4_takes_112 rfl (lv_at hl 1 rfl) ?_
        refine lv_bipush (v := (48 : Int32)) hx hb dX4_takes_113 (by decide) ?_
        refine lv_isub hx hb dX4_takes_115 ?_
        refine lv_aload_n hx hb dX4_takes_116 rfl (lv_at hl 2 rfl) ?_
        obtain ⟨r117, w117_rdue, w117_rsee, hc, h⟩ := bd3_some h
        have hFc := my_freeS hD hS hA
        refine my_rwz (va_runV (As := [.int (x1 - (48 : Int32)), .ref a0]) (rest := []) hFix (kX4_takesSeer l D T F b0 a0 a1 a2 a3 a4 a5 rdue rtun rsee rbeg size clause eff kin gri sig see (x1 - (48 : Int32)) r117 w117_rdue w117_rsee hc _) (cwV 2 hts gX4_takes_X4_takesSeer rfl rfl rfl ⟨rfl, hd_X4_takesSeer⟩ ⟨Nat.le_of_ble_eq_true rfl, Nat.le_of_ble_eq_true rfl⟩) (preV_rw hP hKK hD (va_recv hK hP (ci := 2) (q0 := 0) rfl wRP_0)) rfl rfl hl.1 rfl (lv_room (Nat.le_of_ble_eq_true rfl)) dX4_takes_117 ⟨Nat.zero_le _, Nat.zero_le _⟩) hS hFc (fun hb117 H1 locs hP1 hD1 hz1 hkk hS => ?_)
        have hP : va_P D vwCl (wRP T b0 a0 a1 a2 a3 a4 a5 w117_rdue rtun w117_rsee rbeg size clause eff kin gri sig see) H1 := hP1
        have hD : va_D A (wRP T b0 a0 a1 a2 a3 a4 a5 w117_rdue rtun w117_rsee rbeg size clause eff kin gri sig see) := hD1.weaken (fun _ q _ h => hFc q.1 h)
        generalize H1 = H at hP hS ⊢
        cases h
        exact hret _ _ _ _ hP hD hS dX4_takes_120 hb117
      have h := br_0 h z31_5
      have e31_0 : rdue.toInt ≠ 0 := fun e => z31_0 (Int32.toInt_inj.mp e)
      have e31_1 : rdue.toInt ≠ 1 := fun e => z31_1 (Int32.toInt_inj.mp e)
      have e31_2 : rdue.toInt ≠ 2 := fun e => z31_2 (Int32.toInt_inj.mp e)
      have e31_3 : rdue.toInt ≠ 3 := fun e => z31_3 (Int32.toInt_inj.mp e)
      have e31_4 : rdue.toInt ≠ 4 := fun e => z31_4 (Int32.toInt_inj.mp e)
      have e31_5 : rdue.toInt ≠ 5 := fun e => z31_5 (Int32.toInt_inj.mp e)
      refine lv_tableOut (tgt := 121) hx hb dX4_takes_31 (by omega) (by decide) ?_
      refine lv_aload_n hx hb dX4_takes_121 rfl (lv_at hl 0 rfl) ?_
      refine lv_iload_n hx hb dX4_takes_122 rfl (lv_at hl 1 rfl) ?_
      refine lv_bipush (v := (48 : Int32)) hx hb dX4_takes_123 (by decide) ?_
      refine lv_isub hx hb dX4_takes_125 ?_
      refine lv_aload_n hx hb dX4_takes_126 rfl (lv_at hl 2 rfl) ?_
      obtain ⟨r127, w127_rdue, w127_sig, w127_see, hc, h⟩ := bd4_some h
      have hFc := my_freeS hD hS hA
      refine my_rwz (va_runV (As := [.int (x1 - (48 : Int32)), .ref a0]) (rest := []) hFix (kX4_takesSeen l D T F b0 a0 a1 a2 a3 a4 a5 rdue rtun rsee rbeg size clause eff kin gri sig see (x1 - (48 : Int32)) r127 w127_rdue w127_sig w127_see hc _) (cwV 2 hts gX4_takes_X4_takesSeen rfl rfl rfl ⟨rfl, hd_X4_takesSeen⟩ ⟨Nat.le_of_ble_eq_true rfl, Nat.le_of_ble_eq_true rfl⟩) (preV_rw hP hKK hD (va_recv hK hP (ci := 2) (q0 := 0) rfl wRP_0)) rfl rfl hl.1 rfl (lv_room (Nat.le_of_ble_eq_true rfl)) dX4_takes_127 ⟨Nat.zero_le _, Nat.zero_le _⟩) hS hFc (fun hb127 H1 locs hP1 hD1 hz1 hkk hS => ?_)
      have hP : va_P D vwCl (wRP T b0 a0 a1 a2 a3 a4 a5 w127_rdue rtun rsee rbeg size clause eff kin gri w127_sig w127_see) H1 := hP1
      have hD : va_D A (wRP T b0 a0 a1 a2 a3 a4 a5 w127_rdue rtun rsee rbeg size clause eff kin gri w127_sig w127_see) := hD1.weaken (fun _ q _ h => hFc q.1 h)
      generalize H1 = H at hP hS ⊢
      cases h
      exact hret _ _ _ _ hP hD hS dX4_takes_130 hb127
    · have h := br_1 h c3
      refine lv_aload_n hx hb dX4_takes_6 rfl (lv_at hl 0 rfl) ?_
      refine va_get (D := D) (ci := 2) (C := RX4) (T := TX4) (N := 4) hx hb hts iX4 hown hK hP 0 wRP_0 rfl 0 (by decide) q1 (fun _ h9 => h9) rfl dX4_takes_7 ?_
      refine lv_if_eq (tgt := 21) hx hb dX4_takes_10 (by decide) (fun c10 => ?_) (fun c10 => ?_)
      · have h := br_1 h c10
        refine lv_iconst (v := (1 : Int32)) hx hb dX4_takes_21 (by decide) ?_
        refine lv_goto (tgt := 26) hx hb dX4_takes_22 (by decide) ?_
        cases h
        exact hret _ _ _ _ hP hD hS dX4_takes_26 (Or.inr rfl)
      · have h := br_0 h c10
        refine lv_aload_n hx hb dX4_takes_13 rfl (lv_at hl 0 rfl) ?_
        refine va_get (D := D) (ci := 2) (C := RX4) (T := TX4) (N := 4) hx hb hts iX4 hown hK hP 0 wRP_0 rfl 0 (by decide) q1 (fun _ h9 => h9) rfl dX4_takes_14 ?_
        refine lv_iconst (v := (3 : Int32)) hx hb dX4_takes_17 (by decide) ?_
        refine lv_icmp_ne (tgt := 25) hx hb dX4_takes_18 (by decide) (fun c18 => ?_) (fun c18 => ?_)
        · have h := br_0 h c18
          refine lv_iconst (v := (0 : Int32)) hx hb dX4_takes_25 (by decide) ?_
          cases h
          exact hret _ _ _ _ hP hD hS dX4_takes_26 (Or.inl rfl)
        · have h := br_1 h c18
          refine lv_iconst (v := (1 : Int32)) hx hb dX4_takes_21 (by decide) ?_
          refine lv_goto (tgt := 26) hx hb dX4_takes_22 (by decide) ?_
          cases h
          exact hret _ _ _ _ hP hD hS dX4_takes_26 (Or.inr rfl)
  exact key _ (fun H locs pc ls hP hD hS hd hb1 => W.zret hx hb hr (b01_n hb1) (fun t ht hW => ⟨⟨_, (), rfl, ⟨rfl, hb1⟩, by show _ ∧ _; rw [ht]; exact ⟨hP, hD⟩⟩, hS.F ht⟩) hS.2.2 hd)
