set_option maxHeartbeats 4000000 in
set_option maxRecDepth 100000 in
theorem kX4_faultOf (l : Launch) (D : va_G) (T : Nat → ClassId) (F : Nat) (b0 : Nat) (b1 : Nat) (a0 : Nat) (a1 : Nat) (a2 : Nat) (a3 : Nat) (a4 : Nat) (a5 : Nat) (rdue : Int32) (rtun : Int32) (rsee : Int32) (rbeg : Int32) (txt : Nat → Int32) (size : Int32) (clause : Int32) (eff : Nat → Int32) (kin : Nat → Int32) (gri : Nat → Int32) (sig : Nat → Int32) (see : Nat → Int32) (x2 : Int32) (r : Int32) (zrdue : Int32) (zrtun : Int32) (zrsee : Int32) (zrbeg : Int32) (zsize : Int32) (zclause : Int32) (zeff : Nat → Int32) (zkin : Nat → Int32) (zgri : Nat → Int32) (zsig : Nat → Int32) (zsee : Nat → Int32) (h : fX4_faultOf F rdue rtun rsee rbeg txt size clause eff kin gri sig see x2 = some (r, zrdue, zrtun, zrsee, zrbeg, zsize, zclause, zeff, zkin, zgri, zsig, zsee)) : ∀ sz : Nat, Met l yX4_faultOf wsX4_faultOf ({ frames := 3, cells := 0, slots := 0, locals := 65 } : Room) (va_Pc [.ref b0, .ref b1, .int x2, .ref a0] (fun U => U.heap.size = sz ∧ va_P D vwCl (wRTP T b0 b1 a0 a1 a2 a3 a4 a5 rdue rtun rsee rbeg txt size clause eff kin gri sig see) U.heap ∧ KK D T U ∧ va_D (fun _ => True) (wRTP T b0 b1 a0 a1 a2 a3 a4 a5 rdue rtun rsee rbeg txt size clause eff kin gri sig see))) (va_Qi (fun r' (_ : Unit) => r' = r) (fun _ t => va_P D vwCl (wRTP T b0 b1 a0 a1 a2 a3 a4 a5 zrdue zrtun zrsee zrbeg txt zsize zclause zeff zkin zgri zsig zsee) t.heap ∧ va_D (va_A (wRTP T b0 b1 a0 a1 a2 a3 a4 a5 rdue rtun rsee rbeg txt size clause eff kin gri sig see) sz) (wRTP T b0 b1 a0 a1 a2 a3 a4 a5 zrdue zrtun zrsee zrbeg txt zsize zclause zeff zkin zgri zsig zsee)) (va_A (wRTP T b0 b1 a0 a1 a2 a3 a4 a5 rdue rtun rsee rbeg txt size clause eff kin gri sig see) sz)) 0 0 (va_A (wRTP T b0 b1 a0 a1 a2 a3 a4 a5 rdue rtun rsee rbeg txt size clause eff kin gri sig see) sz) := by
  intro sz
  refine Met.ofW (cc := cX4_faultOf) (maxL := 5) (ret := some .int) (by decide) rfl ?_
  intro p e s m args below meth c s₁ B hml hv
  obtain ⟨ha, hsz, hP, hKK, hD0⟩ := hv
  have hx := B.exec
  have hb := B.bytes
  have hr := B.returns
  have hts := atoms_spec (ws := wsX4_faultOf) B.pre
  have hown : s.vm.findClass RX4 = some m.cls := findClass_of_methodNamed B.named
  have hlocks := B.notSynchronized
  have hK := hKK.1
  have hFix : CallFix p m c cX4_faultOf 5 s args wsX4_faultOf RX4 := ⟨hx, hb, hml, hown, hts⟩
  have q1 := hts _ (List.mem_of_getElem? (i := 1) (show wsX4_faultOf[1]? = some (Cond.fieldLink RX4 11 "PartyWill$Reader" "due" "I") from rfl))
  have q2 := hts _ (List.mem_of_getElem? (i := 2) (show wsX4_faultOf[2]? = some (Cond.fieldLink RX4 15 "PartyWill$Reader" "tune" "I") from rfl))
  have q3 := hts _ (List.mem_of_getElem? (i := 3) (show wsX4_faultOf[3]? = some (Cond.fieldLink RX4 21 "PartyWill$Reader" "sightsBegun" "Z") from rfl))
  have q4 := hts _ (List.mem_of_getElem? (i := 4) (show wsX4_faultOf[4]? = some (Cond.instanceMethod yX2_clear) from rfl))
  have q5 := hts _ (List.mem_of_getElem? (i := 5) (show wsX4_faultOf[5]? = some (Cond.initialized RX2) from rfl))
  have q6 := hts _ (List.mem_of_getElem? (i := 6) (show wsX4_faultOf[6]? = some (Cond.selects RX2 yX2_clear yX2_clear) from rfl))
  have iX2 : ∀ w ∈ u_ws RX2 TX2 7, w ∈ wsX4_faultOf := fun w h => List.mem_cons_of_mem _ (List.mem_append_right _ (h))
  have iX4 : ∀ w ∈ u_ws RX4 TX4 4, w ∈ wsX4_faultOf := fun w h => List.mem_cons_of_mem _ (List.mem_append_left _ (List.mem_append_right _ (h)))
  subst hsz
  have hD := hD0.self (sz := s.heap.size)
  generalize hAe : va_A (wRTP T b0 b1 a0 a1 a2 a3 a4 a5 rdue rtun rsee rbeg txt size clause eff kin gri sig see) s.heap.size = A at hD ⊢
  have hA : ∀ q : Nat, s.heap.size ≤ q → A q := fun q h => by rw [← hAe]; exact Or.inr h
  have hS : va_S A s.heap s.heap [] := va_S.rf
  have hP : va_P D vwCl (wRTP T b0 b1 a0 a1 a2 a3 a4 a5 rdue rtun rsee rbeg txt size clause eff kin gri sig see) s.heap := hP
  obtain ⟨ls, hl, e0⟩ := my_entry (m := m) (n := 5) ha (Nat.le_of_ble_eq_true rfl)
  rw [e0]
  have hl : lv_has ls 5 [(0, .ref b0), (1, .ref b1), (2, .int x2), (3, .ref a0)] := hl
  have key : ∀ Q : State → Prop, (∀ (H : Heap) (locs : List Loc) (pc : Nat) (ls : Array Slot), va_P D vwCl (wRTP T b0 b1 a0 a1 a2 a3 a4 a5 zrdue zrtun zrsee zrbeg txt zsize zclause zeff zkin zgri zsig zsee) H → va_D A (wRTP T b0 b1 a0 a1 a2 a3 a4 a5 zrdue zrtun zrsee zrbeg txt zsize zclause zeff zkin zgri zsig zsee) → va_S A s.heap H locs → decode cX4_faultOf pc = .ok (.ireturn, 1) → W p l e ({ frames := 3, cells := 0, slots := 0, locals := 65 } : Room) s m args below meth c H locs 0 0 Q (F0 m pc ls [.int r])) → W p l e ({ frames := 3, cells := 0, slots := 0, locals := 65 } : Room) s m args below meth c s.heap [] 0 0 Q (F0 m 0 ls []) := by
    intro Q hret
    skip
    have l22 : ∀ x2 : Int32, ∀ nu : Nat, ∀ x4 : Int32, ∀ rdue : Int32, ∀ rtun : Int32, ∀ rsee : Int32, ∀ rbeg : Int32, ∀ size : Int32, ∀ clause : Int32, ∀ eff : Nat → Int32, ∀ kin : Nat → Int32, ∀ gri : Nat → Int32, ∀ sig : Nat → Int32, ∀ see : Nat → Int32, fX4_faultOf_l22 F txt x2 nu x4 rdue rtun rsee rbeg size clause eff kin gri sig see = some (r, zrdue, zrtun, zrsee, zrbeg, zsize, zclause, zeff, zkin, zgri, zsig, zsee) → ∀ (H : Heap) (locs : List Loc), va_P D vwCl (wRTP T b0 b1 a0 a1 a2 a3 a4 a5 rdue rtun rsee rbeg txt size clause eff kin gri sig see) H → va_D A (wRTP T b0 b1 a0 a1 a2 a3 a4 a5 rdue rtun rsee rbeg txt size clause eff kin gri sig see) → va_S A s.heap H locs → ∀ (ls : Array Slot), lv_has ls 5 [(0, .ref b0), (1, .ref b1), (2, .int x2), (3, .ref a0), (4, .int x4)] → W p l e ({ frames := 3, cells := 0, slots := 0, locals := 65 } : Room) s m args below meth c H locs 0 0 Q (F0 m 22 ls []) := by
      intro x2
      intro nu
      induction nu with
      | zero => intro x4 rdue rtun rsee rbeg size clause eff kin gri sig see h; exact none_some h
      | succ nu22 ih22 =>
        intro x4 rdue rtun rsee rbeg size clause eff kin gri sig see h H locs hP hD hS ls hl
        have h : fX4_faultOf_l22_b F txt x2 (fX4_faultOf_l22 F txt x2 nu22) x4 rdue rtun rsee rbeg size clause eff kin gri sig see = some (r, zrdue, zrtun, zrsee, zrbeg, zsize, zclause, zeff, zkin, zgri, zsig, zsee) := h
        unfold fX4_faultOf_l22_b at h
        refine lv_iload hx hb dX4_faultOf_22 (lv_at hl 4 rfl) ?_
        refine lv_iload_n hx hb dX4_faultOf_24 rfl (lv_at hl 2 rfl) ?_
        refine lv_icmp_ge (tgt := 49) hx hb dX4_faultOf_25 (by decide) (fun c25 => ?_) (fun c25 => ?_)
        · have h := br_1 h c25
          refine lv_aload_n hx hb dX4_faultOf_49 rfl (lv_at hl 0 rfl) ?_
          refine va_get (D := D) (ci := 2) (C := RX4) (T := TX4) (N := 4) hx hb hts iX4 hown hK hP 0 wRTP_0 rfl 0 (by decide) q1 (fun _ h9 => h9) rfl dX4_faultOf_50 ?_
          refine lv_iconst (v := (3 : Int32)) hx hb dX4_faultOf_53 (by decide) ?_
          refine lv_icmp_ne (tgt := 69) hx hb dX4_faultOf_54 (by decide) (fun c54 => ?_) (fun c54 => ?_)
          · have h := br_0 h c54
            refine lv_iload_n hx hb dX4_faultOf_69 rfl (lv_at hl 2 rfl) ?_
            cases h
            exact hret _ _ _ _ hP hD hS dX4_faultOf_70
          · have h := br_1 h c54
            refine lv_aload_n hx hb dX4_faultOf_57 rfl (lv_at hl 3 rfl) ?_
            refine va_getN (host := "PartyWill") (D := D) (ci := 1) (C := RX2) (T := TX2) (N := 7) hx hb hts iX2 hown hK hP 2 wRTP_2 rfl 0 (by decide) (va_Nw.use rfl (nw_X4_34 hKK.2)) (fun _ h9 => h9) rfl dX4_faultOf_58 ?_
            refine lv_if_le (tgt := 69) hx hb dX4_faultOf_61 (by decide) (fun c61 => ?_) (fun c61 => ?_)
            · have h := br_1 h c61
              refine lv_iload_n hx hb dX4_faultOf_69 rfl (lv_at hl 2 rfl) ?_
              cases h
              exact hret _ _ _ _ hP hD hS dX4_faultOf_70
            · have h := br_0 h c61
              refine lv_bipush (v := (-9 : Int32)) hx hb dX4_faultOf_64 (by decide) ?_
              refine lv_goto (tgt := 70) hx hb dX4_faultOf_66 (by decide) ?_
              cases h
              exact hret _ _ _ _ hP hD hS dX4_faultOf_70
        · have h := br_0 h c25
          refine lv_aload_n hx hb dX4_faultOf_28 rfl (lv_at hl 0 rfl) ?_
          refine lv_aload_n hx hb dX4_faultOf_29 rfl (lv_at hl 1 rfl) ?_
          refine lv_iload hx hb dX4_faultOf_30 (lv_at hl 4 rfl) ?_
          obtain ⟨hin1, h⟩ := ck_some h
          refine va_bald hx hb hK hP 1 1 wRTP_1 rfl hin1 dX4_faultOf_32 ?_
          refine lv_aload_n hx hb dX4_faultOf_33 rfl (lv_at hl 3 rfl) ?_
          obtain ⟨r34, w34_rdue, w34_rtun, w34_rsee, w34_rbeg, w34_size, w34_clause, w34_eff, w34_kin, w34_gri, w34_sig, w34_see, hc, h⟩ := bd12_some h
          have hPc : va_P D vwCl (wRP T b0 a0 a1 a2 a3 a4 a5 rdue rtun rsee rbeg size clause eff kin gri sig see) H := my_subP sb_wRTP_wRP_0to7 hP
          have hDc := hD.sub [0, 2, 3, 4, 5, 6, 7] (by decide) sb_wRTP_wRP_0to7
          have hFc := va_free hD hS hA [0, 2, 3, 4, 5, 6, 7] sb_wRTP_wRP_0to7
          refine my_rwz (va_runV (As := [.int (txt x4.toNatClampNeg), .ref a0]) (rest := []) hFix (kX4_takes l D T F b0 a0 a1 a2 a3 a4 a5 rdue rtun rsee rbeg size clause eff kin gri sig see (txt x4.toNatClampNeg) r34 w34_rdue w34_rtun w34_rsee w34_rbeg w34_size w34_clause w34_eff w34_kin w34_gri w34_sig w34_see hc H.size) (cwV 2 hts gX4_faultOf_X4_takes rfl rfl rfl ⟨rfl, hd_X4_takes⟩ ⟨Nat.le_of_ble_eq_true rfl, Nat.le_of_ble_eq_true rfl⟩) (preV_rw hPc hKK hDc (va_recv hK hP (ci := 2) (q0 := 0) rfl wRTP_0)) rfl rfl hl.1 rfl (lv_room (Nat.le_of_ble_eq_true rfl)) dX4_faultOf_34 ⟨Nat.zero_le _, Nat.zero_le _⟩) hS hFc (fun hb34 H1 locs hP1 hD1 hz1 hk1 hS => ?_)
          obtain ⟨hP, hD⟩ := my_joinS hP hD (by decide) sb_wRTP_wRP_0to7 rfl hk1 hFc hP1 hD1
          rw [st_wRTP_wRP_0to7_takes] at hP hD
          generalize H1 = H at hP hS ⊢
          refine lv_if_ne (tgt := 43) hx hb dX4_faultOf_37 (by decide) (fun c37 => ?_) (fun c37 => ?_)
          · have h := br_0 h c37
            refine lv_iinc (v := (x4 + (1 : Int32))) (lv' := [(4, .int (x4 + (1 : Int32))), (0, .ref b0), (1, .ref b1), (2, .int x2), (3, .ref a0)]) hx hb dX4_faultOf_43 hl (k := 4) rfl rfl (by decide) rfl (fun ls hl => ?_)
            refine lv_goto (tgt := 22) hx hb dX4_faultOf_46 (by decide) ?_
            exact ih22 (x4 + (1 : Int32)) w34_rdue w34_rtun w34_rsee w34_rbeg w34_size w34_clause w34_eff w34_kin w34_gri w34_sig w34_see h _ _ hP hD hS _ (lv_sub hl [1, 2, 3, 4, 0] rfl)
          · have h := br_1 h c37
            refine lv_iload hx hb dX4_faultOf_40 (lv_at hl 4 rfl) ?_
            cases h
            exact hret _ _ _ _ hP hD hS dX4_faultOf_42
    unfold fX4_faultOf at h
    refine lv_aload_n hx hb dX4_faultOf_0 rfl (lv_at hl 0 rfl) ?_
    refine lv_iconst (v := (0 : Int32)) hx hb dX4_faultOf_1 (by decide) ?_
    refine va_put (D := D) (ci := 2) (v := .int (0 : Int32)) (ty := .int) (C := RX4) (T := TX4) (N := 4) hx hb hts iX4 tyX4 tyX4_ok nmX4 hown hK hP hD hS 0 wRTP_0 rfl 0 (by decide) q1 (fun _ h9 => h9) rfl (by decide +kernel) rfl rfl (Nat.le_of_ble_eq_true rfl) dX4_faultOf_2 (fun H locs hP hD hS => ?_)
    have hP : va_P D vwCl (wRTP T b0 b1 a0 a1 a2 a3 a4 a5 (0 : Int32) rtun rsee rbeg txt size clause eff kin gri sig see) H := hP
    have hD : va_D A (wRTP T b0 b1 a0 a1 a2 a3 a4 a5 (0 : Int32) rtun rsee rbeg txt size clause eff kin gri sig see) := hD
    refine lv_aload_n hx hb dX4_faultOf_5 rfl (lv_at hl 0 rfl) ?_
    refine lv_iconst (v := (0 : Int32)) hx hb dX4_faultOf_6 (by decide) ?_
    refine va_put (D := D) (ci := 2) (v := .int (0 : Int32)) (ty := .int) (C := RX4) (T := TX4) (N := 4) hx hb hts iX4 tyX4 tyX4_ok nmX4 hown hK hP hD hS 0 wRTP_0 rfl 1 (by decide) q2 (fun _ h9 => h9) rfl (by decide +kernel) rfl rfl (Nat.le_of_ble_eq_true rfl) dX4_faultOf_7 (fun H locs hP hD hS => ?_)
    have hP : va_P D vwCl (wRTP T b0 b1 a0 a1 a2 a3 a4 a5 (0 : Int32) (0 : Int32) rsee rbeg txt size clause eff kin gri sig see) H := hP
    have hD : va_D A (wRTP T b0 b1 a0 a1 a2 a3 a4 a5 (0 : Int32) (0 : Int32) rsee rbeg txt size clause eff kin gri sig see) := hD
    refine lv_aload_n hx hb dX4_faultOf_10 rfl (lv_at hl 0 rfl) ?_
    refine lv_iconst (v := (0 : Int32)) hx hb dX4_faultOf_11 (by decide) ?_
    refine va_put (D := D) (ci := 2) (v := .int (0 : Int32)) (ty := .boolean) (C := RX4) (T := TX4) (N := 4) hx hb hts iX4 tyX4 tyX4_ok nmX4 hown hK hP hD hS 0 wRTP_0 rfl 3 (by decide) q3 (fun _ h9 => h9) rfl (by decide +kernel) rfl rfl (Nat.le_of_ble_eq_true rfl) dX4_faultOf_12 (fun H locs hP hD hS => ?_)
    have hP : va_P D vwCl (wRTP T b0 b1 a0 a1 a2 a3 a4 a5 (0 : Int32) (0 : Int32) rsee (0 : Int32) txt size clause eff kin gri sig see) H := hP
    have hD : va_D A (wRTP T b0 b1 a0 a1 a2 a3 a4 a5 (0 : Int32) (0 : Int32) rsee (0 : Int32) txt size clause eff kin gri sig see) := hD
    refine lv_aload_n hx hb dX4_faultOf_15 rfl (lv_at hl 3 rfl) ?_
    obtain ⟨w16_size, w16_clause, w16_sig, w16_see, hc, h⟩ := bd4_some h
    have hPc : va_P D vwCl (wPa T a0 a1 a2 a3 a4 a5 size clause eff kin gri sig see) H := my_subP sb_wRTP_wPa_2to7 hP
    have hDc := hD.sub [2, 3, 4, 5, 6, 7] (by decide) sb_wRTP_wPa_2to7
    have hFc := va_free hD hS hA [2, 3, 4, 5, 6, 7] sb_wRTP_wPa_2to7
    refine my_rwv (va_runVN (host := "PartyWill") (As := []) (rest := []) hFix (kX2_clear l D T F a0 a1 a2 a3 a4 a5 size clause eff kin gri sig see w16_size w16_clause w16_sig w16_see hc H.size) ⟨va_cnB 0 hts gX4_faultOf_X2_clear_n25 rfl rfl rfl (nw_X4_25 hKK.2) q5 hd_X2_clear ⟨Nat.le_of_ble_eq_true rfl, Nat.le_of_ble_eq_true rfl⟩, q4, q6⟩ (preV_rw hPc hKK hDc (va_recv hK hP (ci := 1) (q0 := 2) rfl wRTP_2)) rfl rfl hl.1 rfl (lv_room (Nat.le_of_ble_eq_true rfl)) dX4_faultOf_16 ⟨Nat.zero_le _, Nat.zero_le _⟩) hS hFc (fun H1 locs hP1 hD1 hz1 hk1 hS => ?_)
    obtain ⟨hP, hD⟩ := my_joinS hP hD (by decide) sb_wRTP_wPa_2to7 rfl hk1 hFc hP1 hD1
    rw [st_wRTP_wPa_2to7_clear] at hP hD
    generalize H1 = H at hP hS ⊢
    refine lv_iconst (v := (0 : Int32)) hx hb dX4_faultOf_19 (by decide) ?_
    refine lv_istore (lv' := [(4, .int (0 : Int32)), (0, .ref b0), (1, .ref b1), (2, .int x2), (3, .ref a0)]) hx hb dX4_faultOf_20 hl (by decide) rfl (fun ls hl => ?_)
    exact l22 x2 F (0 : Int32) (0 : Int32) (0 : Int32) rsee (0 : Int32) w16_size w16_clause eff kin gri w16_sig w16_see h _ _ hP hD hS _ (lv_sub hl [1, 2, 3, 4, 0] rfl)
  exact key _ (fun H locs pc ls hP hD hS hd => W.iret hx hb hr (fun t ht hW => ⟨⟨_, (), rfl, rfl, by show _ ∧ _; rw [ht]; exact ⟨hP, hD⟩⟩, hS.F ht⟩) hS.2.2 hd)
