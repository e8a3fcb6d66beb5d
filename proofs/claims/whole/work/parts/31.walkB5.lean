set_option maxHeartbeats 4000000 in
set_option maxRecDepth 100000 in
theorem kX4_takesLetter (l : Launch) (D : va_G) (T : Nat → ClassId) (F : Nat) (b0 : Nat) (a0 : Nat) (a1 : Nat) (a2 : Nat) (a3 : Nat) (a4 : Nat) (a5 : Nat) (rdue : Int32) (rtun : Int32) (rsee : Int32) (rbeg : Int32) (size : Int32) (clause : Int32) (eff : Nat → Int32) (kin : Nat → Int32) (gri : Nat → Int32) (sig : Nat → Int32) (see : Nat → Int32) (x1 : Int32) (r : Int32) (zrdue : Int32) (zrbeg : Int32) (zkin : Nat → Int32) (h : fX4_takesLetter F rdue rbeg size kin x1 = some (r, zrdue, zrbeg, zkin)) : ∀ sz : Nat, Met l yX4_takesLetter wsX4_takesLetter ({ frames := 1, cells := 0, slots := 0, locals := 20 } : Room) (va_Pc [.ref b0, .int x1, .ref a0] (fun U => U.heap.size = sz ∧ va_P D vwCl (wRP T b0 a0 a1 a2 a3 a4 a5 rdue rtun rsee rbeg size clause eff kin gri sig see) U.heap ∧ KK D T U ∧ va_D (fun _ => True) (wRP T b0 a0 a1 a2 a3 a4 a5 rdue rtun rsee rbeg size clause eff kin gri sig see))) (va_Qi (fun r' (_ : Unit) => r' = r ∧ b01 r) (fun _ t => va_P D vwCl (wRP T b0 a0 a1 a2 a3 a4 a5 zrdue rtun rsee zrbeg size clause eff zkin gri sig see) t.heap ∧ va_D (va_A (wRP T b0 a0 a1 a2 a3 a4 a5 rdue rtun rsee rbeg size clause eff kin gri sig see) sz) (wRP T b0 a0 a1 a2 a3 a4 a5 zrdue rtun rsee zrbeg size clause eff zkin gri sig see)) (va_A (wRP T b0 a0 a1 a2 a3 a4 a5 rdue rtun rsee rbeg size clause eff kin gri sig see) sz)) 0 0 (va_A (wRP T b0 a0 a1 a2 a3 a4 a5 rdue rtun rsee rbeg size clause eff kin gri sig see) sz) := by
  intro sz
  refine Met.ofW (cc := cX4_takesLetter) (maxL := 4) (ret := some .boolean) (by decide) rfl ?_
  intro p e s m args below meth c s₁ B hml hv
  obtain ⟨ha, hsz, hP, hKK, hD0⟩ := hv
  have hx := B.exec
  have hb := B.bytes
  have hr := B.returns
  have hts := atoms_spec (ws := wsX4_takesLetter) B.pre
  have hown : s.vm.findClass RX4 = some m.cls := findClass_of_methodNamed B.named
  have hlocks := B.notSynchronized
  have hK := hKK.1
  have hFix : CallFix p m c cX4_takesLetter 4 s args wsX4_takesLetter RX4 := ⟨hx, hb, hml, hown, hts⟩
  have q1 := hts _ (List.mem_of_getElem? (i := 1) (show wsX4_takesLetter[1]? = some (Cond.fieldLink RX4 21 "PartyWill$Reader" "sightsBegun" "Z") from rfl))
  have q2 := hts _ (List.mem_of_getElem? (i := 2) (show wsX4_takesLetter[2]? = some (Cond.fieldLink RX4 11 "PartyWill$Reader" "due" "I") from rfl))
  have iX2 : ∀ w ∈ u_ws RX2 TX2 7, w ∈ wsX4_takesLetter := fun w h => List.mem_cons_of_mem _ (List.mem_append_right _ (h))
  have iX4 : ∀ w ∈ u_ws RX4 TX4 4, w ∈ wsX4_takesLetter := fun w h => List.mem_cons_of_mem _ (List.mem_append_left _ (List.mem_append_right _ (h)))
  subst hsz
  have hD := hD0.self (sz := s.heap.size)
  generalize hAe : va_A (wRP T b0 a0 a1 a2 a3 a4 a5 rdue rtun rsee rbeg size clause eff kin gri sig see) s.heap.size = A at hD ⊢
  have hA : ∀ q : Nat, s.heap.size ≤ q → A q := fun q h => by rw [← hAe]; exact Or.inr h
  have hS : va_S A s.heap s.heap [] := va_S.rf
  have hP : va_P D vwCl (wRP T b0 a0 a1 a2 a3 a4 a5 rdue rtun rsee rbeg size clause eff kin gri sig see) s.heap := hP
  obtain ⟨ls, hl, e0⟩ := my_entry (m := m) (n := 4) ha (Nat.le_of_ble_eq_true rfl)
  rw [e0]
  have hl : lv_has ls 4 [(0, .ref b0), (1, .int x1), (2, .ref a0)] := hl
  have key : ∀ Q : State → Prop, (∀ (H : Heap) (locs : List Loc) (pc : Nat) (ls : Array Slot), va_P D vwCl (wRP T b0 a0 a1 a2 a3 a4 a5 zrdue rtun rsee zrbeg size clause eff zkin gri sig see) H → va_D A (wRP T b0 a0 a1 a2 a3 a4 a5 zrdue rtun rsee zrbeg size clause eff zkin gri sig see) → va_S A s.heap H locs → decode cX4_takesLetter pc = .ok (.ireturn, 1) → b01 r → W p l e ({ frames := 1, cells := 0, slots := 0, locals := 20 } : Room) s m args below meth c H locs 0 0 Q (F0 m pc ls [.int r])) → W p l e ({ frames := 1, cells := 0, slots := 0, locals := 20 } : Room) s m args below meth c s.heap [] 0 0 Q (F0 m 0 ls []) := by
    intro Q hret
    skip
    unfold fX4_takesLetter at h
    refine lv_iload_n hx hb dX4_takesLetter_0 rfl (lv_at hl 1 rfl) ?_
    refine lv_bipush (v := (120 : Int32)) hx hb dX4_takesLetter_1 (by decide) ?_
    refine lv_icmp_ne (tgt := 29) hx hb dX4_takesLetter_3 (by decide) (fun c3 => ?_) (fun c3 => ?_)
    · have h := br_0 h c3
      refine lv_iload_n hx hb dX4_takesLetter_29 rfl (lv_at hl 1 rfl) ?_
      obtain ⟨r30, hc, h⟩ := bd1_some h
      refine my_roi (va_Run.run (va_runS (As := [.int x1]) (rest := []) hFix (kX4_kindByLetter l D T F x1 r30 hc) (va_cwS 1 hts gX4_takesLetter_X4_kindByLetter rfl rfl rfl hd_X4_kindByLetter ⟨Nat.le_of_ble_eq_true rfl, Nat.le_of_ble_eq_true rfl⟩) (preS_ro va_nil hKK) rfl rfl hl.1 rfl (lv_room (Nat.le_of_ble_eq_true rfl)) dX4_takesLetter_30 ⟨Nat.zero_le _, Nat.zero_le _⟩)) ?_
      refine lv_istore_n (lv' := [(3, .int r30), (0, .ref b0), (1, .int x1), (2, .ref a0)]) hx hb dX4_takesLetter_33 rfl hl (by decide) rfl (fun ls hl => ?_)
      refine lv_iload_n hx hb dX4_takesLetter_34 rfl (lv_at hl 0 rfl) ?_
      refine lv_bipush (v := (-9 : Int32)) hx hb dX4_takesLetter_35 (by decide) ?_
      refine lv_icmp_eq (tgt := 56) hx hb dX4_takesLetter_37 (by decide) (fun c37 => ?_) (fun c37 => ?_)
      · have h := br_1 h c37
        refine lv_iconst (v := (0 : Int32)) hx hb dX4_takesLetter_56 (by decide) ?_
        cases h
        exact hret _ _ _ _ hP hD hS dX4_takesLetter_57 (Or.inl rfl)
      · have h := br_0 h c37
        refine lv_aload_n hx hb dX4_takesLetter_40 rfl (lv_at hl 1 rfl) ?_
        refine va_get (D := D) (ci := 2) (C := RX4) (T := TX4) (N := 4) hx hb hts iX4 hown hK hP 0 wRP_0 rfl 3 (by decide) q1 (fun _ h9 => h9) rfl dX4_takesLetter_41 ?_
        refine lv_if_ne (tgt := 56) hx hb dX4_takesLetter_44 (by decide) (fun c44 => ?_) (fun c44 => ?_)
        · have h := br_0 h c44
          refine lv_iconst (v := (0 : Int32)) hx hb dX4_takesLetter_56 (by decide) ?_
          cases h
          exact hret _ _ _ _ hP hD hS dX4_takesLetter_57 (Or.inl rfl)
        · have h := br_1 h c44
          refine lv_aload_n hx hb dX4_takesLetter_47 rfl (lv_at hl 3 rfl) ?_
          refine va_getN (host := "PartyWill") (D := D) (ci := 1) (C := RX2) (T := TX2) (N := 7) hx hb hts iX2 hown hK hP 1 wRP_1 rfl 0 (by decide) (va_Nw.use rfl (nw_X4_34 hKK.2)) (fun _ h9 => h9) rfl dX4_takesLetter_48 ?_
          refine lv_bipush (v := (6 : Int32)) hx hb dX4_takesLetter_51 (by decide) ?_
          refine lv_icmp_lt (tgt := 58) hx hb dX4_takesLetter_53 (by decide) (fun c53 => ?_) (fun c53 => ?_)
          · have h := br_1 h c53
            refine lv_aload_n hx hb dX4_takesLetter_58 rfl (lv_at hl 3 rfl) ?_
            refine va_getN (host := "PartyWill") (D := D) (ci := 1) (C := RX2) (T := TX2) (N := 7) hx hb hts iX2 hown hK hP 1 wRP_1 rfl 3 (by decide) (va_Nw.use rfl (nw_X4_76 hKK.2)) (fun _ h9 => h9) rfl dX4_takesLetter_59 ?_
            refine lv_aload_n hx hb dX4_takesLetter_62 rfl (lv_at hl 3 rfl) ?_
            refine va_getN (host := "PartyWill") (D := D) (ci := 1) (C := RX2) (T := TX2) (N := 7) hx hb hts iX2 hown hK hP 1 wRP_1 rfl 0 (by decide) (va_Nw.use rfl (nw_X4_34 hKK.2)) (fun _ h9 => h9) rfl dX4_takesLetter_63 ?_
            refine lv_iload_n hx hb dX4_takesLetter_66 rfl (lv_at hl 0 rfl) ?_
            obtain ⟨hin1, h⟩ := ck_some h
            refine va_iast hx hb hK hP hD hS 3 0 wRP_3 rfl hin1 dX4_takesLetter_67 (fun H locs hP hD hS => ?_)
            have hP : va_P D vwCl (wRP T b0 a0 a1 a2 a3 a4 a5 rdue rtun rsee rbeg size clause eff (upd kin size.toNatClampNeg r30) gri sig see) H := hP
            have hD : va_D A (wRP T b0 a0 a1 a2 a3 a4 a5 rdue rtun rsee rbeg size clause eff (upd kin size.toNatClampNeg r30) gri sig see) := hD
            refine lv_aload_n hx hb dX4_takesLetter_68 rfl (lv_at hl 1 rfl) ?_
            refine lv_iconst (v := (4 : Int32)) hx hb dX4_takesLetter_69 (by decide) ?_
            refine va_put (D := D) (ci := 2) (v := .int (4 : Int32)) (ty := .int) (C := RX4) (T := TX4) (N := 4) hx hb hts iX4 tyX4 tyX4_ok nmX4 hown hK hP hD hS 0 wRP_0 rfl 0 (by decide) q2 (fun _ h9 => h9) rfl (by decide +kernel) rfl rfl (Nat.le_of_ble_eq_true rfl) dX4_takesLetter_70 (fun H locs hP hD hS => ?_)
            have hP : va_P D vwCl (wRP T b0 a0 a1 a2 a3 a4 a5 (4 : Int32) rtun rsee rbeg size clause eff (upd kin size.toNatClampNeg r30) gri sig see) H := hP
            have hD : va_D A (wRP T b0 a0 a1 a2 a3 a4 a5 (4 : Int32) rtun rsee rbeg size clause eff (upd kin size.toNatClampNeg r30) gri sig see) := hD
            refine lv_iconst (v := (1 : Int32)) hx hb dX4_takesLetter_73 (by decide) ?_
            cases h
            exact hret _ _ _ _ hP hD hS dX4_takesLetter_74 (Or.inr rfl)
          · have h := br_0 h c53
            refine lv_iconst (v := (0 : Int32)) hx hb dX4_takesLetter_56 (by decide) ?_
            cases h
            exact hret _ _ _ _ hP hD hS dX4_takesLetter_57 (Or.inl rfl)
    · have h := br_1 h c3
      refine lv_aload_n hx hb dX4_takesLetter_6 rfl (lv_at hl 0 rfl) ?_
      refine lv_iconst (v := (1 : Int32)) hx hb dX4_takesLetter_7 (by decide) ?_
      refine va_put (D := D) (ci := 2) (v := .int (1 : Int32)) (ty := .boolean) (C := RX4) (T := TX4) (N := 4) hx hb hts iX4 tyX4 tyX4_ok nmX4 hown hK hP hD hS 0 wRP_0 rfl 3 (by decide) q1 (fun _ h9 => h9) rfl (by decide +kernel) rfl rfl (Nat.le_of_ble_eq_true rfl) dX4_takesLetter_8 (fun H locs hP hD hS => ?_)
      have hP : va_P D vwCl (wRP T b0 a0 a1 a2 a3 a4 a5 rdue rtun rsee (1 : Int32) size clause eff kin gri sig see) H := hP
      have hD : va_D A (wRP T b0 a0 a1 a2 a3 a4 a5 rdue rtun rsee (1 : Int32) size clause eff kin gri sig see) := hD
      refine lv_aload_n hx hb dX4_takesLetter_11 rfl (lv_at hl 0 rfl) ?_
      refine lv_iconst (v := (5 : Int32)) hx hb dX4_takesLetter_12 (by decide) ?_
      refine va_put (D := D) (ci := 2) (v := .int (5 : Int32)) (ty := .int) (C := RX4) (T := TX4) (N := 4) hx hb hts iX4 tyX4 tyX4_ok nmX4 hown hK hP hD hS 0 wRP_0 rfl 0 (by decide) q2 (fun _ h9 => h9) rfl (by decide +kernel) rfl rfl (Nat.le_of_ble_eq_true rfl) dX4_takesLetter_13 (fun H locs hP hD hS => ?_)
      have hP : va_P D vwCl (wRP T b0 a0 a1 a2 a3 a4 a5 (5 : Int32) rtun rsee (1 : Int32) size clause eff kin gri sig see) H := hP
      have hD : va_D A (wRP T b0 a0 a1 a2 a3 a4 a5 (5 : Int32) rtun rsee (1 : Int32) size clause eff kin gri sig see) := hD
      refine lv_aload_n hx hb dX4_takesLetter_16 rfl (lv_at hl 2 rfl) ?_
      refine va_getN (host := "PartyWill") (D := D) (ci := 1) (C := RX2) (T := TX2) (N := 7) hx hb hts iX2 hown hK hP 1 wRP_1 rfl 0 (by decide) (va_Nw.use rfl (nw_X4_34 hKK.2)) (fun _ h9 => h9) rfl dX4_takesLetter_17 ?_
      refine lv_if_le (tgt := 27) hx hb dX4_takesLetter_20 (by decide) (fun c20 => ?_) (fun c20 => ?_)
      · have h := br_1 h c20
        refine lv_iconst (v := (0 : Int32)) hx hb dX4_takesLetter_27 (by decide) ?_
        cases h
        exact hret _ _ _ _ hP hD hS dX4_takesLetter_28 (Or.inl rfl)
      · have h := br_0 h c20
        refine lv_iconst (v := (1 : Int32)) hx hb dX4_takesLetter_23 (by decide) ?_
        refine lv_goto (tgt := 28) hx hb dX4_takesLetter_24 (by decide) ?_
        cases h
        exact hret _ _ _ _ hP hD hS dX4_takesLetter_28 (Or.inr rfl)
  exact key _ (fun H locs pc ls hP hD hS hd hb1 => W.zret hx hb hr (b01_n hb1) (fun t ht hW => ⟨⟨_, (), rfl, ⟨rfl, hb1⟩, by show _ ∧ _; rw [ht]; exact ⟨hP, hD⟩⟩, hS.F ht⟩) hS.2.2 hd)
