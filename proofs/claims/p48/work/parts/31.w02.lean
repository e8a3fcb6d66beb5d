set_option maxHeartbeats 4000000 in
set_option maxRecDepth 100000 in
theorem kX4_faultOf (l : Launch) (D : va_G) (T : Nat → ClassId) (F : Nat) (b0 : Nat) (b1 : Nat) (a0 : Nat) (a1 : Nat) (a2 : Nat) (a3 : Nat) (a4 : Nat) (a5 : Nat) (rdue : Int32) (rtun : Int32) (rsee : Int32) (rbeg : Int32) (txt : Nat → Int32) (size : Int32) (clause : Int32) (eff : Nat → Int32) (kin : Nat → Int32) (gri : Nat → Int32) (sig : Nat → Int32) (see : Nat → Int32) (x2 : Int32) (r : Int32) (zrdue : Int32) (zrtun : Int32) (zrsee : Int32) (zrbeg : Int32) (zsize : Int32) (zclause : Int32) (zeff : Nat → Int32) (zkin : Nat → Int32) (zgri : Nat → Int32) (zsig : Nat → Int32) (zsee : Nat → Int32) (h : fX4_faultOf F rdue rtun rsee rbeg txt size clause eff kin gri sig see x2 = some (r, zrdue, zrtun, zrsee, zrbeg, zsize, zclause, zeff, zkin, zgri, zsig, zsee)) : ∀ sz : Nat, Met l yX4_faultOf wsX4_faultOf ({ frames := 3, cells := 0, slots := 0, locals := 65 } : Room) (va_Pc [.ref b0, .ref b1, .int x2, .ref a0] (fun U => U.heap.size = sz ∧ va_P D vwCl (wRTP T b0 b1 a0 a1 a2 a3 a4 a5 rdue rtun rsee rbeg txt size clause eff kin gri sig see) U.heap ∧ KK D T U ∧ va_D (fun _ => True) (wRTP T b0 b1 a0 a1 a2 a3 a4 a5 rdue rtun rsee rbeg txt size clause eff kin gri sig see))) (va_Qi (fun r' (_ : Unit) => r' = r) (fun _ t => va_P D vwCl (wRTP T b0 b1 a0 a1 a2 a3 a4 a5 zrdue zrtun zrsee zrbeg txt zsize zclause zeff zkin zgri zsig zsee) t.heap ∧ va_D (va_A (wRTP T b0 b1 a0 a1 a2 a3 a4 a5 rdue rtun rsee rbeg txt size clause eff kin gri sig see) sz) (wRTP T b0 b1 a0 a1 a2 a3 a4 a5 zrdue zrtun zrsee zrbeg txt zsize zclause zeff zkin zgri zsig zsee)) (va_A (wRTP T b0 b1 a0 a1 a2 a3 a4 a5 rdue rtun rsee rbeg txt size clause eff kin gri sig see) sz)) 0 0 (va_A (wRTP T b0 b1 a0 a1 a2 a3 a4 a5 rdue rtun rsee rbeg txt size clause eff kin gri sig see) sz) := by
  intro sz
  refine Met.ofW (cc := cX4_faultOf) (maxL := 5) (ret := some .int) (by decide) rfl ?_
  intro p e s m args below meth c s₁ B hml hv
  obtain ⟨ha, hsz, hP, hKK, hD0⟩ := hv
  have hx := B.exec
  have hb := B.bytes
  have hr := B.returns
  have hts := atoms_spec (ws := wsX4_faultOf) B.pre
  have hown : s.vm.findClass RX4 = some m.cls := findClass_of_methodNamed B.named
  have hlocks := B.notSynchronized
  have hK := hKK.1
  have hFix : CallFix p m c cX4_faultOf 5 s args wsX4_faultOf RX4 := ⟨hx, hb, hml, hown, hts⟩
  have q1 := hts _ (List.mem_of_getElem? (i := 1) (show wsX4_faultOf[1]? = some (Cond.fieldLink RX4 11 "PartyWill$Reader" "due" "I") from rfl))
  have q2 := hts _ (List.mem_of_getElem? (i := 2) (show wsX4_faultOf[2]? = some (Cond.fieldLink RX4 15 "PartyWill$Reader" "tune" "I") from rfl))
  have q3 := hts _ (List.mem_of_getElem? (i := 3) (show wsX4_faultOf[3]? = some (Cond.fieldLink RX4 21 "PartyWill$Reader" "sightsBegun" "Z") from rfl))
  have q4 := hts _ (List.mem_of_getElem? (i := 4) (show wsX4_faultOf[4]? = some (Cond.instanceMethod yX2_clear) from rfl))
  have q5 := hts _ (List.mem_of_getElem? (i := 5) (show wsX4_faultOf[5]? = some (Cond.initialized RX2) from rfl))
  have q6 := hts _ (List.mem_of_getElem? (i := 6) (show wsX4_faultOf[6]? = some (Cond.selects RX2 yX2_clear yX2_clear) from rfl))
  have iX2 : ∀ w ∈ u_ws RX2 TX2 7, w ∈ wsX4_faultOf := fun w h => List.mem_cons_of_mem _ (List.mem_append_right _ (h))
  have iX4 : ∀ w ∈ u_ws RX4 TX4 4, w ∈ wsX4_faultOf := fun w h => List.mem_cons_of_mem _ (List.mem_append_left _ (List.mem_append_right _ (h)))
  subst hsz
  have hD := hD0.self (sz := s.heap.size)
  generalize hAe : va_A (wRTP T b0 b1 a0 a1 a2 a3 a4 a5 rdue rtun rsee rbeg txt size clause eff kin gri sig see) s.heap.size = A at hD ⊢
  have hA : ∀ q : Nat, s.heap.size ≤ q → A q := fun q h => by rw [← hAe]; exact Or.inr h
  have hS : va_S A s.heap s.heap [] := va_S.rf
  have hP : va_P D vwCl (wRTP T b0 b1 a0 a1 a2 a3 a4 a5 rdue rtun rsee rbeg txt size clause eff kin gri sig see) s.heap := hP
  obtain ⟨ls, hl, e0⟩ := my_entry (m := m) (n := 5) ha (Nat.le_of_ble_eq_true rfl)
  rw [e0]
  have hl : lv_has ls 5 [(0, .ref b0), (1, .ref b1), (2, .int x2), (3, .ref a0)] := hl
  have key : ∀ Q : State → Prop, (∀ (H : Heap) (locs : List Loc) (pc : Nat) (ls : Array Slot), va_P D vwCl (wRTP T b0 b1 a0 a1 a2 a3 a4 a5 zrdue zrtun zrsee zrbeg txt zsize zclause zeff zkin zgri zsig zsee) H → va_D A (wRTP T b0 b1 a0 a1 a2 a3 a4 a5 zrdue zrtun zrsee zrbeg txt zsize zclause zeff zkin zgri zsig zsee) → va_S A s.heap H locs → decode cX4_faultOf pc = .ok (.ireturn, 1) → W p l e ({ frames := 3, cells := 0, slots := 0, locals := 65 } : Room) s m args below meth c H locs 0 0 Q (F0 m pc ls [.int r])) → W p l e ({ frames := 3, cells := 0, slots := 0, locals := 65 } : Room) s m args below meth c s.heap [] 0 0 Q (F0 m 0 ls []) := by
    intro Q hret
    skip
    have l22 : ∀ x2 : Int32, ∀ nu : Nat, ∀ x4 : Int32, ∀ rdue : Int32, ∀ rtun : Int32, ∀ rsee : Int32, ∀ rbeg : Int32, ∀ size : Int32, ∀ clause : Int32, ∀ eff : Nat → Int32, ∀ kin : Nat → Int32, ∀ gri : Nat → Int32, ∀ sig : Nat → Int32, ∀ see : Nat → Int32, fX4_faultOf_l22 F txt x2 nu x4 rdue rtun rsee rbeg size clause eff kin gri sig see = some (r, zrdue, zrtun, zrsee, zrbeg, zsize, zclause, zeff, zkin, zgri, zsig, zsee) → ∀ (H : Heap) (locs : List Loc), va_P D vwCl (wRTP T b0 b1 a0 a1 a2 a3 a4 a5 rdue rtun rsee rbeg txt size clause eff kin gri sig see) H → va_D A (wRTP T b0 b1 a0 a1 a2 a3 a4 a5 rdue rtun rsee rbeg txt size clause eff kin gri sig see) → va_S A s.heap H locs → ∀ (ls : Array Slot), lv_has ls 5 [(0, .ref b0), (1, .ref b1), (2, .int x2), (3, .ref a0), (4, .int x4)] → W p l e ({ frames := 3, cells := 0, slots := 0, locals := 65 } : Room) s m args below meth c H locs 0 0 Q (F0 m 22 ls []) := by
      intro x2
      intro nu
      induction nu with
      | zero => intro x4 rdue rtun rsee rbeg size clause eff kin gri sig see h; exact none_some h
      | succ nu22 ih22 =>
        intro x4 rdue rtun rsee rbeg size clause eff kin gri sig see h H locs hP hD hS ls hl
        have h : fX4_faultOf_l22_b F txt x2 (fX4_faultOf_l22 F txt x2 nu22) x4 rdue rtun rsee rbeg size clause eff kin gri sig see = some (r, zrdue, zrtun, zrsee, zrbeg, zsize, zclause, zeff, zkin, zgri, zsig, zsee) := h
        unfold fX4_faultOf_l22_b at h
        refine lv_iload hx hb dX4_faultOf_22 (lv_at hl 4 rfl) ?_
        refine lv_iload_n hx hb dX4_faultOf_24 rfl (lv_at hl 2 rfl) ?_
        refine lv_icmp_ge (tgt := 49) hx hb dX4_faultOf_25 (by decide) (fun c25 => ?_) (fun c25 => ?_)
        · have h := br_1 h c25
          refine lv_aload_n hx hb dX4_faultOf_49 rfl (lv_at hl 0 rfl) ?_
          refine va_get (D := D) (ci := 2) (C := RX4) (T := TX4) (N := 4) hx hb hts iX4 hown hK hP 0 wRTP_0 rfl 0 (by decide) q1 (fun _ h9 => h9) rfl dX4_faultOf_50 ?_
          refine lv_iconst (v := (3 : Int32)) hx hb dX4_faultOf_53 (by decide) ?_
          refine lv_icmp_ne (tgt := 69) hx hb dX4_faultOf_54 (by decide) (fun c54 => ?_) (fun c54 => ?_)
          · have h := br_0 h c54
            refine lv_iload_n hx hb dX4_faultOf_69 rfl (lv_at hl 2 rfl) ?_
            cases h
            exact hret _ _ _ _ hP hD hS dX4_faultOf_70
          · have h := br_1 h c54
            refine lv_aload_n hx hb dX4_faultOf_57 rfl (lv_at hl 3 rfl) ?_
            refine va_getN (host := "PartyWill") (D := D) (ci := 1) (C := RX2) (T := TX2) (N := 7) hx hb hts iX2 hown hK hP 2 wRTP_2 rfl 0 (by decide) (va_Nw.use rfl (nw_X4_34 hKK.2)) (fun _ h9 => h9) rfl dX4_faultOf_58 ?_
            refine lv_if_le (tgt := 69) hx hb dX4_faultOf_61 (by decide) (fun c61 => ?_) (fun c61 => ?_)
            · have h := br_1 h c61
              refine lv_iload_n hx hb dX4_faultOf_69 rfl (lv_at hl 2 rfl) ?_
              cases h
              exact hret _ _ _ _ hP hD hS dX4_faultOf_70
            · have h := br_0 h c61
              refine lv_bipush (v := (-9 : Int32)) hx hb dX4_faultOf_64 (by decide) ?_
              refine lv_goto (tgt := 70) hx hb dX4_faultOf_66 (by decide) ?_
              cases h
              exact hret _ _ _ _ hP hD hS dX4_faultOf_70
        · have h := br_0 h c25
          refine lv_aload_n hx hb dX4_faultOf_28 rfl (lv_at hl 0 rfl) ?_
          refine lv_aload_n hx hb dX4_faultOf_29 rfl (lv_at hl 1 rfl) ?_
          refine lv_iload hx hb dX4_faultOf_30 (lv_at hl 4 rfl) ?_
          obtain ⟨hin1, h⟩ := ck_some h
          refine va_bald hx hb hK hP 1 1 wRTP_1 rfl hin1 dX4_faultOf_32 ?_
          refine lv_aload_n hx hb dX4_faultOf_33 rfl (lv_at hl 3 rfl) ?_
          obtain ⟨r34, w34_rdue, w34_rtun, w34_rsee, w34_rbeg, w34_size, w34_clause, w34_eff, w34_kin, w34_gri, w34_sig, w34_see, hc, h⟩ := bd12_some h
          have hPc : va_P D vwCl (wRP T b0 a0 a1 a2 a3 a4 a5 rdue rtun rsee rbeg size clause eff kin gri sig see) _ := my_subP sb_wRTP_wRP_0to7 hP
          have hDc := hD.sub [0, 2, 3, 4, 5, 6, 7] (by decide) sb_wRTP_wRP_0to7
          have hFc := va_free hD hS hA [0, 2, 3, 4, 5, 6, 7] sb_wRTP_wRP_0to7
          refine my_rwz (va_runV (As := [.int (txt x4.toNatClampNeg), .ref a0]) (rest := []) hFix (kX4_takes l D T F b0 a0 a1 a2 a3 a4 a5 rdue rtun rsee rbeg size clause eff kin gri sig see (txt x4.toNatClampNeg) r34 w34_rdue w34_rtun w34_rsee w34_rbeg w34_size w34_clause w34_eff w34_kin w34_gri w34_sig w34_see hc _) (cwV 2 hts gX4_faultOf_X4_takes rfl rfl rfl ⟨rfl, hd_X4_takes⟩ ⟨Nat.le_of_ble_eq_true rfl, Nat.le_of_ble_eq_true rfl⟩) (preV_rw hPc hKK hDc (va_recv hK hP (ci := 2) (q0 := 0) rfl wRTP_0)) rfl rfl hl.1 rfl (lv_room (Nat.le_of_ble_eq_true rfl)) dX4_faultOf_34 ⟨Nat.zero_le _, Nat.zero_le _⟩) hS hFc (fun hb34 H1 locs hP1 hD1 hz1 hkk hS => ?_)
          obtain ⟨hP, hD⟩ := my_joinS hP hD (by decide) sb_wRTP_wRP_0to7 (by rfl) hkk hFc hP1 hD1
          rw [st_wRTP_wRP_0to7_takes] at hP hD
          generalize H1 = H at hP hS ⊢
          refine lv_if_ne (tgt := 43) hx hb dX4_faultOf_37 (by decide) (fun c37 => ?_) (fun c37 => ?_)
          · have h := br_0 h c37
            refine lv_iinc (v := (x4 + (1 : Int32))) (lv' := [(4, .int (x4 + (1 : Int32))), (0, .ref b0), (1, .ref b1), (2, .int x2), (3, .ref a0)]) hx hb dX4_faultOf_43 hl (k := 4) rfl rfl (by decide) rfl (fun ls hl => ?_)
            refine lv_goto (tgt := 22) hx hb dX4_faultOf_46 (by decide) ?_
            exact ih22 (x4 + (1 : Int32)) w34_rdue w34_rtun w34_rsee w34_rbeg w34_size w34_clause w34_eff w34_kin w34_gri w34_sig w34_see h _ _ hP hD hS _ (lv_sub hl [1, 2, 3, 4, 0] rfl)
          · have h := br_1 h c37
            refine lv_iload hx hb dX4_faultOf_40 (lv_at hl 4 rfl) ?_
            cases h
            exact hret _ _ _ _ hP hD hS dX4_faultOf_42
    unfold fX4_faultOf at h
    refine lv_aload_n hx hb dX4_faultOf_0 rfl (lv_at hl 0 rfl) ?_
    refine lv_iconst (v := (0 : Int32)) hx hb dX4_faultOf_1 (by decide) ?_
    refine va_put (D := D) (ci := 2) (v := .int (0 : Int32)) (ty := .int) (C := RX4) (T := TX4) (N := 4) hx hb hts iX4 tyX4 tyX4_ok nmX4 hown hK hP hD hS 0 wRTP_0 rfl 0 (by decide) q1 (fun _ h9 => h9) rfl (by decide +kernel) rfl rfl (Nat.le_of_ble_eq_true rfl) dX4_faultOf_2 (fun H locs hP hD hS => ?_)
    have hP : va_P D vwCl (wRTP T b0 b1 a0 a1 a2 a3 a4 a5 (0 : Int32) rtun rsee rbeg txt size clause eff kin gri sig see) H := hP
    have hD : va_D A (wRTP T b0 b1 a0 a1 a2 a3 a4 a5 (0 : Int32) rtun rsee rbeg txt size clause eff kin gri sig see) := hD
    refine lv_aload_n hx hb dX4_faultOf_5 rfl (lv_at hl 0 rfl) ?_
    refine lv_iconst (v := (0 : Int32)) hx hb dX4_faultOf_6 (by decide) ?_
    refine va_put (D := D) (ci := 2) (v := .int (0 : Int32)) (ty := .int) (C := RX4) (T := TX4) (N := 4) hx hb hts iX4 tyX4 tyX4_ok nmX4 hown hK hP hD hS 0 wRTP_0 rfl 1 (by decide) q2 (fun _ h9 => h9) rfl (by decide +kernel) rfl rfl (Nat.le_of_ble_eq_true rfl) dX4_faultOf_7 (fun H locs hP hD hS => ?_)
    have hP : va_P D vwCl (wRTP T b0 b1 a0 a1 a2 a3 a4 a5 (0 : Int32) (0 : Int32) rsee rbeg txt size clause eff kin gri sig see) H := hP
    have hD : va_D A (wRTP T b0 b1 a0 a1 a2 a3 a4 a5 (0 : Int32) (0 : Int32) rsee rbeg txt size clause eff kin gri sig see) := hD
    refine lv_aload_n hx hb dX4_faultOf_10 rfl (lv_at hl 0 rfl) ?_
    refine lv_iconst (v := (0 : Int32)) hx hb dX4_faultOf_11 (by decide) ?_
    refine va_put (D := D) (ci := 2) (v := .int (0 : Int32)) (ty := .boolean) (C := RX4) (T := TX4) (N := 4) hx hb hts iX4 tyX4 tyX4_ok nmX4 hown hK hP hD hS 0 wRTP_0 rfl 3 (by decide) q3 (fun _ h9 => h9) rfl (by decide +kernel) rfl rfl (Nat.le_of_ble_eq_true rfl) dX4_faultOf_12 (fun H locs hP hD hS => ?_)
    have hP : va_P D vwCl (wRTP T b0 b1 a0 a1 a2 a3 a4 a5 (0 : Int32) (0 : Int32) rsee (0 : Int32) txt size clause eff kin gri sig see) H := hP
    have hD : va_D A (wRTP T b0 b1 a0 a1 a2 a3 a4 a5 (0 : Int32) (0 : Int32) rsee (0 : Int32) txt size clause eff kin gri sig see) := hD
    refine lv_aload_n hx hb dX4_faultOf_15 rfl (lv_at hl 3 rfl) ?_
    obtain ⟨w16_size, w16_clause, w16_sig, w16_see, hc, h⟩ := bd4_some h
    have hPc : va_P D vwCl (wPa T a0 a1 a2 a3 a4 a5 size clause eff kin gri sig see) _ := my_subP sb_wRTP_wPa_2to7 hP
    have hDc := hD.sub [2, 3, 4, 5, 6, 7] (by decide) sb_wRTP_wPa_2to7
    have hFc := va_free hD hS hA [2, 3, 4, 5, 6, 7] sb_wRTP_wPa_2to7
    refine my_rwv (va_runVN (host := "PartyWill") (As := []) (rest := []) hFix (kX2_clear l D T F a0 a1 a2 a3 a4 a5 size clause eff kin gri sig see w16_size w16_clause w16_sig w16_see hc _) ⟨va_cnB 0 hts gX4_faultOf_X2_clear_n25 rfl rfl rfl (nw_X4_25 hKK.2) q5 hd_X2_clear ⟨Nat.le_of_ble_eq_true rfl, Nat.le_of_ble_eq_true rfl⟩, q4, q6⟩ (preV_rw hPc hKK hDc (va_recv hK hP (ci := 1) (q0 := 2) rfl wRTP_2)) rfl rfl hl.1 rfl (lv_room (Nat.le_of_ble_eq_true rfl)) dX4_faultOf_16 ⟨Nat.zero_le _, Nat.zero_le _⟩) hS hFc (fun H1 locs hP1 hD1 hz1 hkk hS => ?_)
    obtain ⟨hP, hD⟩ := my_joinS hP hD (by decide) sb_wRTP_wPa_2to7 (by rfl) hkk hFc hP1 hD1
    rw [st_wRTP_wPa_2to7_clear] at hP hD
    generalize H1 = H at hP hS ⊢
    refine lv_iconst (v := (0 : Int32)) hx hb dX4_faultOf_19 (by decide) ?_
    refine lv_istore (lv' := [(4, .int (0 : Int32)), (0, .ref b0), (1, .ref b1), (2, .int x2), (3, .ref a0)]) hx hb dX4_faultOf_20 hl (by decide) rfl (fun ls hl => ?_)
    exact l22 x2 F (0 : Int32) (0 : Int32) (0 : Int32) rsee (0 : Int32) w16_size w16_clause eff kin gri w16_sig w16_see h _ _ hP hD hS _ (lv_sub hl [1, 2, 3, 4, 0] rfl)
  exact key _ (fun H locs pc ls hP hD hS hd => W.iret hx hb hr (fun t ht hW => ⟨⟨_, (), rfl, rfl, by show _ ∧ _; rw [ht]; exact ⟨hP, hD⟩⟩, hS.F ht⟩) hS.2.2 hd)
set_option maxHeartbeats 4000000 in
set_option maxRecDepth 100000 in
theorem kX5_found (l : Launch) (D : va_G) (T : Nat → ClassId) (F : Nat) (ad : Nat → Nat) (rs : Nat → Int32) (rm : Nat → Nat → Int32) (ts : Nat → Int32) (tm : Nat → Nat → Int32) (rdue : Int32) (rtun : Int32) (rsee : Int32) (rbeg : Int32) (psize : Int32) (pclause : Int32) (peff : Nat → Int32) (pkin : Nat → Int32) (pgri : Nat → Int32) (psig : Nat → Int32) (psee : Nat → Int32) (qsize : Int32) (qclause : Int32) (qeff : Nat → Int32) (qkin : Nat → Int32) (qgri : Nat → Int32) (qsig : Nat → Int32) (qsee : Nat → Int32) (cdee : Int32) (cnow : Int64) (cahe : Nat → Int64) (kdee : Nat → Int32) (know : Nat → Int64) (kahe : Nat → Nat → Int64) (fc : Nat → Int32) (lf : Int32) (told : Int32) (up : Int64) (lo : Int64) (x1 : Int32) (r : Int32) (zfc : Nat → Int32) (zlf : Int32) (h : fX5_found F fc lf x1 = some (r, zfc, zlf)) : ∀ sz : Nat, Met l yX5_found wsX5_found ({ frames := 0, cells := 0, slots := 0, locals := 0 } : Room) (va_Pc [.ref (ad 0), .int x1] (fun U => U.heap.size = sz ∧ va_P D vwCl (wPW T ad (ad 6) (ad 12) rs rm ts tm rdue rtun rsee rbeg psize pclause peff pkin pgri psig psee qsize qclause qeff qkin qgri qsig qsee cdee cnow cahe kdee know kahe fc lf told up lo) U.heap ∧ KK D T U ∧ va_D (fun _ => True) (wPW T ad (ad 6) (ad 12) rs rm ts tm rdue rtun rsee rbeg psize pclause peff pkin pgri psig psee qsize qclause qeff qkin qgri qsig qsee cdee cnow cahe kdee know kahe fc lf told up lo))) (va_Qi (fun r' (_ : Unit) => r' = r) (fun _ t => va_P D vwCl (wPW T ad (ad 6) (ad 12) rs rm ts tm rdue rtun rsee rbeg psize pclause peff pkin pgri psig psee qsize qclause qeff qkin qgri qsig qsee cdee cnow cahe kdee know kahe zfc zlf told up lo) t.heap ∧ va_D (va_A (wPW T ad (ad 6) (ad 12) rs rm ts tm rdue rtun rsee rbeg psize pclause peff pkin pgri psig psee qsize qclause qeff qkin qgri qsig qsee cdee cnow cahe kdee know kahe fc lf told up lo) sz) (wPW T ad (ad 6) (ad 12) rs rm ts tm rdue rtun rsee rbeg psize pclause peff pkin pgri psig psee qsize qclause qeff qkin qgri qsig qsee cdee cnow cahe kdee know kahe zfc zlf told up lo)) (va_A (wPW T ad (ad 6) (ad 12) rs rm ts tm rdue rtun rsee rbeg psize pclause peff pkin pgri psig psee qsize qclause qeff qkin qgri qsig qsee cdee cnow cahe kdee know kahe fc lf told up lo) sz)) 0 0 (va_A (wPW T ad (ad 6) (ad 12) rs rm ts tm rdue rtun rsee rbeg psize pclause peff pkin pgri psig psee qsize qclause qeff qkin qgri qsig qsee cdee cnow cahe kdee know kahe fc lf told up lo) sz) := by
  intro sz
  refine Met.ofW (cc := cX5_found) (maxL := 2) (ret := some .int) (by decide) rfl ?_
  intro p e s m args below meth c s₁ B hml hv
  obtain ⟨ha, hsz, hP, hKK, hD0⟩ := hv
  have hx := B.exec
  have hb := B.bytes
  have hr := B.returns
  have hts := atoms_spec (ws := wsX5_found) B.pre
  have hown : s.vm.findClass RX5 = some m.cls := findClass_of_methodNamed B.named
  have hlocks := B.notSynchronized
  have hK := hKK.1
  have hFix : CallFix p m c cX5_found 2 s args wsX5_found RX5 := ⟨hx, hb, hml, hown, hts⟩
  have q1 := hts _ (List.mem_of_getElem? (i := 1) (show wsX5_found[1]? = some (Cond.fieldLink RX5 57 "PartyWill" "lastFinding" "I") from rfl))
  have q2 := hts _ (List.mem_of_getElem? (i := 2) (show wsX5_found[2]? = some (Cond.fieldLink RX5 54 "PartyWill" "findingCounts" "[I") from rfl))
  have iX5 : ∀ w ∈ u_ws RX5 TX5 14, w ∈ wsX5_found := fun w h => List.mem_cons_of_mem _ (List.mem_append_right _ (h))
  subst hsz
  have hD := hD0.self (sz := s.heap.size)
  generalize hAe : va_A (wPW T ad (ad 6) (ad 12) rs rm ts tm rdue rtun rsee rbeg psize pclause peff pkin pgri psig psee qsize qclause qeff qkin qgri qsig qsee cdee cnow cahe kdee know kahe fc lf told up lo) s.heap.size = A at hD ⊢
  have hA : ∀ q : Nat, s.heap.size ≤ q → A q := fun q h => by rw [← hAe]; exact Or.inr h
  have hS : va_S A s.heap s.heap [] := va_S.rf
  have hP : va_P D vwCl (wPW T ad (ad 6) (ad 12) rs rm ts tm rdue rtun rsee rbeg psize pclause peff pkin pgri psig psee qsize qclause qeff qkin qgri qsig qsee cdee cnow cahe kdee know kahe fc lf told up lo) s.heap := hP
  obtain ⟨ls, hl, e0⟩ := my_entry (m := m) (n := 2) ha (Nat.le_of_ble_eq_true rfl)
  rw [e0]
  have hl : lv_has ls 2 [(0, .ref (ad 0)), (1, .int x1)] := hl
  have key : ∀ Q : State → Prop, (∀ (H : Heap) (locs : List Loc) (pc : Nat) (ls : Array Slot), va_P D vwCl (wPW T ad (ad 6) (ad 12) rs rm ts tm rdue rtun rsee rbeg psize pclause peff pkin pgri psig psee qsize qclause qeff qkin qgri qsig qsee cdee cnow cahe kdee know kahe zfc zlf told up lo) H → va_D A (wPW T ad (ad 6) (ad 12) rs rm ts tm rdue rtun rsee rbeg psize pclause peff pkin pgri psig psee qsize qclause qeff qkin qgri qsig qsee cdee cnow cahe kdee know kahe zfc zlf told up lo) → va_S A s.heap H locs → decode cX5_found pc = .ok (.ireturn, 1) → W p l e ({ frames := 0, cells := 0, slots := 0, locals := 0 } : Room) s m args below meth c H locs 0 0 Q (F0 m pc ls [.int r])) → W p l e ({ frames := 0, cells := 0, slots := 0, locals := 0 } : Room) s m args below meth c s.heap [] 0 0 Q (F0 m 0 ls []) := by
    intro Q hret
    skip
    unfold fX5_found at h
    refine lv_aload_n hx hb dX5_found_0 rfl (lv_at hl 0 rfl) ?_
    refine lv_iload_n hx hb dX5_found_1 rfl (lv_at hl 1 rfl) ?_
    refine va_put (D := D) (ci := 3) (v := .int x1) (ty := .int) (C := RX5) (T := TX5) (N := 14) hx hb hts iX5 tyX5 tyX5_ok nmX5 hown hK hP hD hS 0 wPW_0 rfl 10 (by decide) q1 (fun _ h9 => h9) rfl (by decide +kernel) rfl rfl (Nat.le_of_ble_eq_true rfl) dX5_found_2 (fun H locs hP hD hS => ?_)
    have hP : va_P D vwCl (wPW T ad (ad 6) (ad 12) rs rm ts tm rdue rtun rsee rbeg psize pclause peff pkin pgri psig psee qsize qclause qeff qkin qgri qsig qsee cdee cnow cahe kdee know kahe fc x1 told up lo) H := hP
    have hD : va_D A (wPW T ad (ad 6) (ad 12) rs rm ts tm rdue rtun rsee rbeg psize pclause peff pkin pgri psig psee qsize qclause qeff qkin qgri qsig qsee cdee cnow cahe kdee know kahe fc x1 told up lo) := hD
    refine lv_aload_n hx hb dX5_found_5 rfl (lv_at hl 0 rfl) ?_
    refine va_get (D := D) (ci := 3) (C := RX5) (T := TX5) (N := 14) hx hb hts iX5 hown hK hP 0 wPW_0 rfl 9 (by decide) q2 (fun _ h9 => h9) rfl dX5_found_6 ?_
    refine lv_iload_n hx hb dX5_found_9 rfl (lv_at hl 1 rfl) ?_
    refine lv_dup2_11 hx hb dX5_found_10 rfl rfl ?_
    obtain ⟨hin1, h⟩ := ck_some h
    refine va_iald hx hb hK hP 27 0 wPW_27 rfl hin1 dX5_found_11 ?_
    refine lv_iconst (v := (1 : Int32)) hx hb dX5_found_12 (by decide) ?_
    refine lv_iadd hx hb dX5_found_13 ?_
    obtain ⟨hin2, h⟩ := ck_some h
    refine va_iast hx hb hK hP hD hS 27 0 wPW_27 rfl hin2 dX5_found_14 (fun H locs hP hD hS => ?_)
    have hP : va_P D vwCl (wPW T ad (ad 6) (ad 12) rs rm ts tm rdue rtun rsee rbeg psize pclause peff pkin pgri psig psee qsize qclause qeff qkin qgri qsig qsee cdee cnow cahe kdee know kahe (upd fc x1.toNatClampNeg ((fc x1.toNatClampNeg) + (1 : Int32))) x1 told up lo) H := hP
    have hD : va_D A (wPW T ad (ad 6) (ad 12) rs rm ts tm rdue rtun rsee rbeg psize pclause peff pkin pgri psig psee qsize qclause qeff qkin qgri qsig qsee cdee cnow cahe kdee know kahe (upd fc x1.toNatClampNeg ((fc x1.toNatClampNeg) + (1 : Int32))) x1 told up lo) := hD
    refine lv_bipush (v := (-3 : Int32)) hx hb dX5_found_15 (by decide) ?_
    cases h
    exact hret _ _ _ _ hP hD hS dX5_found_17
  exact key _ (fun H locs pc ls hP hD hS hd => W.iret hx hb hr (fun t ht hW => ⟨⟨_, (), rfl, rfl, by show _ ∧ _; rw [ht]; exact ⟨hP, hD⟩⟩, hS.F ht⟩) hS.2.2 hd)
set_option maxHeartbeats 4000000 in
set_option maxRecDepth 100000 in
theorem kX5_isRow (l : Launch) (D : va_G) (T : Nat → ClassId) (F : Nat) (x0 : Int32) (r : Int32) (h : fX5_isRow F x0 = some (r)) : Met l yX5_isRow wsX5_isRow ({ frames := 0, cells := 0, slots := 0, locals := 0 } : Room) (va_Pc [.int x0] (fun U => va_P D vwCl ([] : va_W) U.heap ∧ KK D T U)) (vp_Si (fun r' => r' = r ∧ b01 r)) 0 0 (fun _ => False) := by
  refine Met.ofW (cc := cX5_isRow) (maxL := 1) (ret := some .boolean) (by decide) rfl ?_
  intro p e s m args below meth c s₁ B hml hv
  obtain ⟨ha, hP, hKK⟩ := hv
  have hx := B.exec
  have hb := B.bytes
  have hr := B.returns
  have hts := atoms_spec (ws := wsX5_isRow) B.pre
  have hown : s.vm.findClass RX5 = some m.cls := findClass_of_methodNamed B.named
  have hlocks := B.notSynchronized
  have hK := hKK.1
  have hFix : CallFix p m c cX5_isRow 1 s args wsX5_isRow RX5 := ⟨hx, hb, hml, hown, hts⟩
  obtain ⟨ls, hl, e0⟩ := my_entry (m := m) (n := 1) ha (Nat.le_of_ble_eq_true rfl)
  rw [e0]
  have hl : lv_has ls 1 [(0, .int x0)] := hl
  have key : ∀ Q : State → Prop, (∀ (pc : Nat) (ls : Array Slot), decode cX5_isRow pc = .ok (.ireturn, 1) → b01 r → W p l e ({ frames := 0, cells := 0, slots := 0, locals := 0 } : Room) s m args below meth c s.heap [] 0 0 Q (F0 m pc ls [.int r])) → W p l e ({ frames := 0, cells := 0, slots := 0, locals := 0 } : Room) s m args below meth c s.heap [] 0 0 Q (F0 m 0 ls []) := by
    intro Q hret
    unfold fX5_isRow at h
    refine lv_iload_n hx hb dX5_isRow_0 rfl (lv_at hl 0 rfl) ?_
    refine lv_if_lt (tgt := 14) hx hb dX5_isRow_1 (by decide) (fun c1 => ?_) (fun c1 => ?_)
    · have h := br_1 h c1
      refine lv_iconst (v := (0 : Int32)) hx hb dX5_isRow_14 (by decide) ?_
      cases h
      exact hret _ _ dX5_isRow_15 (Or.inl rfl)
    · have h := br_0 h c1
      refine lv_iload_n hx hb dX5_isRow_4 rfl (lv_at hl 0 rfl) ?_
      refine lv_bipush (v := (6 : Int32)) hx hb dX5_isRow_5 (by decide) ?_
      refine lv_icmp_ge (tgt := 14) hx hb dX5_isRow_7 (by decide) (fun c7 => ?_) (fun c7 => ?_)
      · have h := br_1 h c7
        refine lv_iconst (v := (0 : Int32)) hx hb dX5_isRow_14 (by decide) ?_
        cases h
        exact hret _ _ dX5_isRow_15 (Or.inl rfl)
      · have h := br_0 h c7
        refine lv_iconst (v := (1 : Int32)) hx hb dX5_isRow_10 (by decide) ?_
        refine lv_goto (tgt := 15) hx hb dX5_isRow_11 (by decide) ?_
        cases h
        exact hret _ _ dX5_isRow_15 (Or.inr rfl)
  exact key _ (fun pc ls hd hb1 => W.zret hx hb hr (b01_n hb1) (fun t ht hW => ⟨_, rfl, ⟨rfl, hb1⟩, ht⟩) (fun q h => by cases h) hd)
set_option maxHeartbeats 4000000 in
set_option maxRecDepth 100000 in
theorem kX5_makeRow (l : Launch) (D : va_G) (T : Nat → ClassId) (F : Nat) (ad : Nat → Nat) (rs : Nat → Int32) (rm : Nat → Nat → Int32) (ts : Nat → Int32) (tm : Nat → Nat → Int32) (rdue : Int32) (rtun : Int32) (rsee : Int32) (rbeg : Int32) (psize : Int32) (pclause : Int32) (peff : Nat → Int32) (pkin : Nat → Int32) (pgri : Nat → Int32) (psig : Nat → Int32) (psee : Nat → Int32) (qsize : Int32) (qclause : Int32) (qeff : Nat → Int32) (qkin : Nat → Int32) (qgri : Nat → Int32) (qsig : Nat → Int32) (qsee : Nat → Int32) (cdee : Int32) (cnow : Int64) (cahe : Nat → Int64) (kdee : Nat → Int32) (know : Nat → Int64) (kahe : Nat → Nat → Int64) (fc : Nat → Int32) (lf : Int32) (told : Int32) (up : Int64) (lo : Int64) (x1 : Int32) (x2 : Int32) (zrs : Nat → Int32) (zrm : Nat → Nat → Int32) (h : fX5_makeRow F rs rm x1 x2 = some (zrs, zrm)) : ∀ sz : Nat, Met l yX5_makeRow wsX5_makeRow ({ frames := 0, cells := 0, slots := 0, locals := 0 } : Room) (va_Pc [.ref (ad 0), .int x1, .int x2] (fun U => U.heap.size = sz ∧ va_P D vwCl (wPW T ad (ad 6) (ad 12) rs rm ts tm rdue rtun rsee rbeg psize pclause peff pkin pgri psig psee qsize qclause qeff qkin qgri qsig qsee cdee cnow cahe kdee know kahe fc lf told up lo) U.heap ∧ KK D T U ∧ va_D (fun _ => True) (wPW T ad (ad 6) (ad 12) rs rm ts tm rdue rtun rsee rbeg psize pclause peff pkin pgri psig psee qsize qclause qeff qkin qgri qsig qsee cdee cnow cahe kdee know kahe fc lf told up lo))) (va_Qv (fun _ : Unit => True) (fun _ t => va_P D vwCl (wPW T ad (ad 6) (ad 12) zrs zrm ts tm rdue rtun rsee rbeg psize pclause peff pkin pgri psig psee qsize qclause qeff qkin qgri qsig qsee cdee cnow cahe kdee know kahe fc lf told up lo) t.heap ∧ va_D (va_A (wPW T ad (ad 6) (ad 12) rs rm ts tm rdue rtun rsee rbeg psize pclause peff pkin pgri psig psee qsize qclause qeff qkin qgri qsig qsee cdee cnow cahe kdee know kahe fc lf told up lo) sz) (wPW T ad (ad 6) (ad 12) zrs zrm ts tm rdue rtun rsee rbeg psize pclause peff pkin pgri psig psee qsize qclause qeff qkin qgri qsig qsee cdee cnow cahe kdee know kahe fc lf told up lo)) (va_A (wPW T ad (ad 6) (ad 12) rs rm ts tm rdue rtun rsee rbeg psize pclause peff pkin pgri psig psee qsize qclause qeff qkin qgri qsig qsee cdee cnow cahe kdee know kahe fc lf told up lo) sz)) 0 0 (va_A (wPW T ad (ad 6) (ad 12) rs rm ts tm rdue rtun rsee rbeg psize pclause peff pkin pgri psig psee qsize qclause qeff qkin qgri qsig qsee cdee cnow cahe kdee know kahe fc lf told up lo) sz) := by
  intro sz
  refine Met.ofW (cc := cX5_makeRow) (maxL := 4) (ret := none) (by decide) rfl ?_
  intro p e s m args below meth c s₁ B hml hv
  obtain ⟨ha, hsz, hP, hKK, hD0⟩ := hv
  have hx := B.exec
  have hb := B.bytes
  have hr := B.returns
  have hts := atoms_spec (ws := wsX5_makeRow) B.pre
  have hown : s.vm.findClass RX5 = some m.cls := findClass_of_methodNamed B.named
  have hlocks := B.notSynchronized
  have hK := hKK.1
  have hFix : CallFix p m c cX5_makeRow 4 s args wsX5_makeRow RX5 := ⟨hx, hb, hml, hown, hts⟩
  have q1 := hts _ (List.mem_of_getElem? (i := 1) (show wsX5_makeRow[1]? = some (Cond.fieldLink RX5 11 "PartyWill" "rows" "[[I") from rfl))
  have q2 := hts _ (List.mem_of_getElem? (i := 2) (show wsX5_makeRow[2]? = some (Cond.fieldLink RX5 14 "PartyWill" "rowSizes" "[I") from rfl))
  have iX5 : ∀ w ∈ u_ws RX5 TX5 14, w ∈ wsX5_makeRow := fun w h => List.mem_cons_of_mem _ (List.mem_append_right _ (h))
  subst hsz
  have hD := hD0.self (sz := s.heap.size)
  generalize hAe : va_A (wPW T ad (ad 6) (ad 12) rs rm ts tm rdue rtun rsee rbeg psize pclause peff pkin pgri psig psee qsize qclause qeff qkin qgri qsig qsee cdee cnow cahe kdee know kahe fc lf told up lo) s.heap.size = A at hD ⊢
  have hA : ∀ q : Nat, s.heap.size ≤ q → A q := fun q h => by rw [← hAe]; exact Or.inr h
  have hS : va_S A s.heap s.heap [] := va_S.rf
  have hP : va_P D vwCl (wPW T ad (ad 6) (ad 12) rs rm ts tm rdue rtun rsee rbeg psize pclause peff pkin pgri psig psee qsize qclause qeff qkin qgri qsig qsee cdee cnow cahe kdee know kahe fc lf told up lo) s.heap := hP
  obtain ⟨ls, hl, e0⟩ := my_entry (m := m) (n := 4) ha (Nat.le_of_ble_eq_true rfl)
  rw [e0]
  have hl : lv_has ls 4 [(0, .ref (ad 0)), (1, .int x1), (2, .int x2)] := hl
  have key : ∀ Q : State → Prop, (∀ (H : Heap) (locs : List Loc) (pc : Nat) (ls : Array Slot), va_P D vwCl (wPW T ad (ad 6) (ad 12) zrs zrm ts tm rdue rtun rsee rbeg psize pclause peff pkin pgri psig psee qsize qclause qeff qkin qgri qsig qsee cdee cnow cahe kdee know kahe fc lf told up lo) H → va_D A (wPW T ad (ad 6) (ad 12) zrs zrm ts tm rdue rtun rsee rbeg psize pclause peff pkin pgri psig psee qsize qclause qeff qkin qgri qsig qsee cdee cnow cahe kdee know kahe fc lf told up lo) → va_S A s.heap H locs → decode cX5_makeRow pc = .ok (.return_, 1) → W p l e ({ frames := 0, cells := 0, slots := 0, locals := 0 } : Room) s m args below meth c H locs 0 0 Q (F0 m pc ls [])) → W p l e ({ frames := 0, cells := 0, slots := 0, locals := 0 } : Room) s m args below meth c s.heap [] 0 0 Q (F0 m 0 ls []) := by
    intro Q hret
    skip
    have l2 : ∀ x1 : Int32, ∀ x2 : Int32, ∀ rs : Nat → Int32, ∀ nu : Nat, ∀ x3 : Int32, ∀ rm : Nat → Nat → Int32, fX5_makeRow_l2 F x1 x2 rs nu x3 rm = some (zrs, zrm) → ∀ (H : Heap) (locs : List Loc), va_P D vwCl (wPW T ad (ad 6) (ad 12) rs rm ts tm rdue rtun rsee rbeg psize pclause peff pkin pgri psig psee qsize qclause qeff qkin qgri qsig qsee cdee cnow cahe kdee know kahe fc lf told up lo) H → va_D A (wPW T ad (ad 6) (ad 12) rs rm ts tm rdue rtun rsee rbeg psize pclause peff pkin pgri psig psee qsize qclause qeff qkin qgri qsig qsee cdee cnow cahe kdee know kahe fc lf told up lo) → va_S A s.heap H locs → ∀ (ls : Array Slot), lv_has ls 4 [(0, .ref (ad 0)), (1, .int x1), (2, .int x2), (3, .int x3)] → W p l e ({ frames := 0, cells := 0, slots := 0, locals := 0 } : Room) s m args below meth c H locs 0 0 Q (F0 m 2 ls []) := by
      intro x1 x2 rs
      intro nu
      induction nu with
      | zero => intro x3 rm h; exact none_some h
      | succ nu2 ih2 =>
        intro x3 rm h H locs hP hD hS ls hl
        have h : fX5_makeRow_l2_b F x1 x2 rs (fX5_makeRow_l2 F x1 x2 rs nu2) x3 rm = some (zrs, zrm) := h
        unfold fX5_makeRow_l2_b at h
        refine lv_iload_n hx hb dX5_makeRow_2 rfl (lv_at hl 3 rfl) ?_
        refine lv_iload_n hx hb dX5_makeRow_3 rfl (lv_at hl 2 rfl) ?_
        refine lv_icmp_ge (tgt := 22) hx hb dX5_makeRow_4 (by decide) (fun c4 => ?_) (fun c4 => ?_)
        · have h := br_1 h c4
          refine lv_aload_n hx hb dX5_makeRow_22 rfl (lv_at hl 0 rfl) ?_
          refine va_get (D := D) (ci := 3) (C := RX5) (T := TX5) (N := 14) hx hb hts iX5 hown hK hP 0 wPW_0 rfl 1 (by decide) q2 (fun _ h9 => h9) rfl dX5_makeRow_23 ?_
          refine lv_iload_n hx hb dX5_makeRow_26 rfl (lv_at hl 1 rfl) ?_
          refine lv_iload_n hx hb dX5_makeRow_27 rfl (lv_at hl 2 rfl) ?_
          obtain ⟨hin1, h⟩ := ck_some h
          refine va_iast hx hb hK hP hD hS 2 0 wPW_2 rfl hin1 dX5_makeRow_28 (fun H locs hP hD hS => ?_)
          have hP : va_P D vwCl (wPW T ad (ad 6) (ad 12) (upd rs x1.toNatClampNeg x2) rm ts tm rdue rtun rsee rbeg psize pclause peff pkin pgri psig psee qsize qclause qeff qkin qgri qsig qsee cdee cnow cahe kdee know kahe fc lf told up lo) H := hP
          have hD : va_D A (wPW T ad (ad 6) (ad 12) (upd rs x1.toNatClampNeg x2) rm ts tm rdue rtun rsee rbeg psize pclause peff pkin pgri psig psee qsize qclause qeff qkin qgri qsig qsee cdee cnow cahe kdee know kahe fc lf told up lo) := hD
          cases h
          exact hret _ _ _ _ hP hD hS dX5_makeRow_29
        · have h := br_0 h c4
          refine lv_aload_n hx hb dX5_makeRow_7 rfl (lv_at hl 0 rfl) ?_
          refine va_get (D := D) (ci := 3) (C := RX5) (T := TX5) (N := 14) hx hb hts iX5 hown hK hP 0 wPW_0 rfl 0 (by decide) q1 (fun _ h9 => h9) rfl dX5_makeRow_8 ?_
          refine lv_iload_n hx hb dX5_makeRow_11 rfl (lv_at hl 1 rfl) ?_
          obtain ⟨hin3, h⟩ := ck_some h
          have hk2 : x1.toNatClampNeg < 6 := vp_lt hin3
          refine my_ald (b := (ad (28 + x1.toNatClampNeg))) rfl hx hb hK hP 1 4 wPW_1 rfl hin3 (fun _ => if_pos hk2) dX5_makeRow_12 ?_
          refine lv_iload_n hx hb dX5_makeRow_13 rfl (lv_at hl 3 rfl) ?_
          refine lv_iconst (v := (0 : Int32)) hx hb dX5_makeRow_14 (by decide) ?_
          obtain ⟨hin4, h⟩ := ck_some h
          refine va_iast hx hb hK hP hD hS (28 + x1.toNatClampNeg) 0 (wPW_f_rows0 hk2) rfl hin4 dX5_makeRow_15 (fun H locs hP hD hS => ?_)
          have hP : va_P D vwCl (wPW T ad (ad 6) (ad 12) rs (va_up rm x1.toNatClampNeg (upd (rm x1.toNatClampNeg) x3.toNatClampNeg (0 : Int32))) ts tm rdue rtun rsee rbeg psize pclause peff pkin pgri psig psee qsize qclause qeff qkin qgri qsig qsee cdee cnow cahe kdee know kahe fc lf told up lo) H := my_eqP (wPW_s_rows0 hk2) hP
          have hD : va_D A (wPW T ad (ad 6) (ad 12) rs (va_up rm x1.toNatClampNeg (upd (rm x1.toNatClampNeg) x3.toNatClampNeg (0 : Int32))) ts tm rdue rtun rsee rbeg psize pclause peff pkin pgri psig psee qsize qclause qeff qkin qgri qsig qsee cdee cnow cahe kdee know kahe fc lf told up lo) := my_eqD (wPW_s_rows0 hk2) hD
          refine lv_iinc (v := (x3 + (1 : Int32))) (lv' := [(3, .int (x3 + (1 : Int32))), (0, .ref (ad 0)), (1, .int x1), (2, .int x2)]) hx hb dX5_makeRow_16 hl (k := 3) rfl rfl (by decide) rfl (fun ls hl => ?_)
          refine lv_goto (tgt := 2) hx hb dX5_makeRow_19 (by decide) ?_
          exact ih2 (x3 + (1 : Int32)) (va_up rm x1.toNatClampNeg (upd (rm x1.toNatClampNeg) x3.toNatClampNeg (0 : Int32))) h _ _ hP hD hS _ (lv_sub hl [1, 2, 3, 0] rfl)
    unfold fX5_makeRow at h
    refine lv_iconst (v := (0 : Int32)) hx hb dX5_makeRow_0 (by decide) ?_
    refine lv_istore_n (lv' := [(3, .int (0 : Int32)), (0, .ref (ad 0)), (1, .int x1), (2, .int x2)]) hx hb dX5_makeRow_1 rfl hl (by decide) rfl (fun ls hl => ?_)
    exact l2 x1 x2 rs F (0 : Int32) rm h _ _ hP hD hS _ (lv_sub hl [1, 2, 3, 0] rfl)
  exact key _ (fun H locs pc ls hP hD hS hd => W.vret hx hb hr (fun t ht hW => ⟨⟨(), rfl, trivial, by show _ ∧ _; rw [ht]; exact ⟨hP, hD⟩⟩, hS.F ht⟩) hS.2.2 hd)
set_option maxHeartbeats 4000000 in
set_option maxRecDepth 100000 in
theorem kX5_row (l : Launch) (D : va_G) (T : Nat → ClassId) (F : Nat) (ad : Nat → Nat) (rs : Nat → Int32) (rm : Nat → Nat → Int32) (ts : Nat → Int32) (tm : Nat → Nat → Int32) (rdue : Int32) (rtun : Int32) (rsee : Int32) (rbeg : Int32) (psize : Int32) (pclause : Int32) (peff : Nat → Int32) (pkin : Nat → Int32) (pgri : Nat → Int32) (psig : Nat → Int32) (psee : Nat → Int32) (qsize : Int32) (qclause : Int32) (qeff : Nat → Int32) (qkin : Nat → Int32) (qgri : Nat → Int32) (qsig : Nat → Int32) (qsee : Nat → Int32) (cdee : Int32) (cnow : Int64) (cahe : Nat → Int64) (kdee : Nat → Int32) (know : Nat → Int64) (kahe : Nat → Nat → Int64) (fc : Nat → Int32) (lf : Int32) (told : Int32) (up : Int64) (lo : Int64) (x1 : Int32) (x2 : Int32) (r : Int32) (zrs : Nat → Int32) (zrm : Nat → Nat → Int32) (zfc : Nat → Int32) (zlf : Int32) (h : fX5_row F rs rm fc lf x1 x2 = some (r, zrs, zrm, zfc, zlf)) : ∀ sz : Nat, Met l yX5_row wsX5_row ({ frames := 1, cells := 0, slots := 0, locals := 23 } : Room) (va_Pc [.ref (ad 0), .int x1, .int x2] (fun U => U.heap.size = sz ∧ va_P D vwCl (wPW T ad (ad 6) (ad 12) rs rm ts tm rdue rtun rsee rbeg psize pclause peff pkin pgri psig psee qsize qclause qeff qkin qgri qsig qsee cdee cnow cahe kdee know kahe fc lf told up lo) U.heap ∧ KK D T U ∧ va_D (fun _ => True) (wPW T ad (ad 6) (ad 12) rs rm ts tm rdue rtun rsee rbeg psize pclause peff pkin pgri psig psee qsize qclause qeff qkin qgri qsig qsee cdee cnow cahe kdee know kahe fc lf told up lo))) (va_Qi (fun r' (_ : Unit) => r' = r) (fun _ t => va_P D vwCl (wPW T ad (ad 6) (ad 12) zrs zrm ts tm rdue rtun rsee rbeg psize pclause peff pkin pgri psig psee qsize qclause qeff qkin qgri qsig qsee cdee cnow cahe kdee know kahe zfc zlf told up lo) t.heap ∧ va_D (va_A (wPW T ad (ad 6) (ad 12) rs rm ts tm rdue rtun rsee rbeg psize pclause peff pkin pgri psig psee qsize qclause qeff qkin qgri qsig qsee cdee cnow cahe kdee know kahe fc lf told up lo) sz) (wPW T ad (ad 6) (ad 12) zrs zrm ts tm rdue rtun rsee rbeg psize pclause peff pkin pgri psig psee qsize qclause qeff qkin qgri qsig qsee cdee cnow cahe kdee know kahe zfc zlf told up lo)) (va_A (wPW T ad (ad 6) (ad 12) rs rm ts tm rdue rtun rsee rbeg psize pclause peff pkin pgri psig psee qsize qclause qeff qkin qgri qsig qsee cdee cnow cahe kdee know kahe fc lf told up lo) sz)) 0 0 (va_A (wPW T ad (ad 6) (ad 12) rs rm ts tm rdue rtun rsee rbeg psize pclause peff pkin pgri psig psee qsize qclause qeff qkin qgri qsig qsee cdee cnow cahe kdee know kahe fc lf told up lo) sz) := by
  intro sz
  refine Met.ofW (cc := cX5_row) (maxL := 3) (ret := some .int) (by decide) rfl ?_
  intro p e s m args below meth c s₁ B hml hv
  obtain ⟨ha, hsz, hP, hKK, hD0⟩ := hv
  have hx := B.exec
  have hb := B.bytes
  have hr := B.returns
  have hts := atoms_spec (ws := wsX5_row) B.pre
  have hown : s.vm.findClass RX5 = some m.cls := findClass_of_methodNamed B.named
  have hlocks := B.notSynchronized
  have hK := hKK.1
  have hFix : CallFix p m c cX5_row 3 s args wsX5_row RX5 := ⟨hx, hb, hml, hown, hts⟩
  subst hsz
  have hD := hD0.self (sz := s.heap.size)
  generalize hAe : va_A (wPW T ad (ad 6) (ad 12) rs rm ts tm rdue rtun rsee rbeg psize pclause peff pkin pgri psig psee qsize qclause qeff qkin qgri qsig qsee cdee cnow cahe kdee know kahe fc lf told up lo) s.heap.size = A at hD ⊢
  have hA : ∀ q : Nat, s.heap.size ≤ q → A q := fun q h => by rw [← hAe]; exact Or.inr h
  have hS : va_S A s.heap s.heap [] := va_S.rf
  have hP : va_P D vwCl (wPW T ad (ad 6) (ad 12) rs rm ts tm rdue rtun rsee rbeg psize pclause peff pkin pgri psig psee qsize qclause qeff qkin qgri qsig qsee cdee cnow cahe kdee know kahe fc lf told up lo) s.heap := hP
  obtain ⟨ls, hl, e0⟩ := my_entry (m := m) (n := 3) ha (Nat.le_of_ble_eq_true rfl)
  rw [e0]
  have hl : lv_has ls 3 [(0, .ref (ad 0)), (1, .int x1), (2, .int x2)] := hl
  have key : ∀ Q : State → Prop, (∀ (H : Heap) (locs : List Loc) (pc : Nat) (ls : Array Slot), va_P D vwCl (wPW T ad (ad 6) (ad 12) zrs zrm ts tm rdue rtun rsee rbeg psize pclause peff pkin pgri psig psee qsize qclause qeff qkin qgri qsig qsee cdee cnow cahe kdee know kahe zfc zlf told up lo) H → va_D A (wPW T ad (ad 6) (ad 12) zrs zrm ts tm rdue rtun rsee rbeg psize pclause peff pkin pgri psig psee qsize qclause qeff qkin qgri qsig qsee cdee cnow cahe kdee know kahe zfc zlf told up lo) → va_S A s.heap H locs → decode cX5_row pc = .ok (.ireturn, 1) → W p l e ({ frames := 1, cells := 0, slots := 0, locals := 23 } : Room) s m args below meth c H locs 0 0 Q (F0 m pc ls [.int r])) → W p l e ({ frames := 1, cells := 0, slots := 0, locals := 23 } : Room) s m args below meth c s.heap [] 0 0 Q (F0 m 0 ls []) := by
    intro Q hret
    skip
    unfold fX5_row at h
    refine lv_iload_n hx hb dX5_row_0 rfl (lv_at hl 1 rfl) ?_
    obtain ⟨r1, hc, h⟩ := bd1_some h
    refine my_roz (va_Run.run (va_runS (As := [.int x1]) (rest := []) hFix (kX5_isRow l D T F x1 r1 hc) (va_cwS 1 hts gX5_row_X5_isRow rfl rfl rfl hd_X5_isRow ⟨Nat.le_of_ble_eq_true rfl, Nat.le_of_ble_eq_true rfl⟩) (preS_ro va_nil hKK) rfl rfl hl.1 rfl (lv_room (Nat.le_of_ble_eq_true rfl)) dX5_row_1 ⟨Nat.zero_le _, Nat.zero_le _⟩)) (fun hb1 => ?_)
    refine lv_if_eq (tgt := 13) hx hb dX5_row_4 (by decide) (fun c4 => ?_) (fun c4 => ?_)
    · have h := br_1 h c4
      refine lv_iconst (v := (-1 : Int32)) hx hb dX5_row_13 (by decide) ?_
      cases h
      exact hret _ _ _ _ hP hD hS dX5_row_14
    · have h := br_0 h c4
      refine lv_iload_n hx hb dX5_row_7 rfl (lv_at hl 2 rfl) ?_
      refine lv_bipush (v := (40 : Int32)) hx hb dX5_row_8 (by decide) ?_
      refine lv_icmp_le (tgt := 15) hx hb dX5_row_10 (by decide) (fun c10 => ?_) (fun c10 => ?_)
      · have h := br_1 h c10
        refine lv_iload_n hx hb dX5_row_15 rfl (lv_at hl 2 rfl) ?_
        refine lv_if_ge (tgt := 25) hx hb dX5_row_16 (by decide) (fun c16 => ?_) (fun c16 => ?_)
        · have h := br_1 h c16
          refine lv_aload_n hx hb dX5_row_25 rfl (lv_at hl 0 rfl) ?_
          refine lv_iload_n hx hb dX5_row_26 rfl (lv_at hl 1 rfl) ?_
          refine lv_iload_n hx hb dX5_row_27 rfl (lv_at hl 2 rfl) ?_
          obtain ⟨w28_rs, w28_rm, hc, h⟩ := bd2_some h
          have hFc := my_freeS hD hS hA
          refine my_rwv (va_runV (As := [.int x1, .int x2]) (rest := []) hFix (kX5_makeRow l D T F ad rs rm ts tm rdue rtun rsee rbeg psize pclause peff pkin pgri psig psee qsize qclause qeff qkin qgri qsig qsee cdee cnow cahe kdee know kahe fc lf told up lo x1 x2 w28_rs w28_rm hc _) (cwV 2 hts gX5_row_X5_makeRow rfl rfl rfl ⟨rfl, hd_X5_makeRow⟩ ⟨Nat.le_of_ble_eq_true rfl, Nat.le_of_ble_eq_true rfl⟩) (preV_rw hP hKK hD (va_recv hK hP (ci := 3) (q0 := 0) rfl wPW_0)) rfl rfl hl.1 rfl (lv_room (Nat.le_of_ble_eq_true rfl)) dX5_row_28 ⟨Nat.zero_le _, Nat.zero_le _⟩) hS hFc (fun H1 locs hP1 hD1 hz1 hkk hS => ?_)
          have hP : va_P D vwCl (wPW T ad (ad 6) (ad 12) w28_rs w28_rm ts tm rdue rtun rsee rbeg psize pclause peff pkin pgri psig psee qsize qclause qeff qkin qgri qsig qsee cdee cnow cahe kdee know kahe fc lf told up lo) H1 := hP1
          have hD : va_D A (wPW T ad (ad 6) (ad 12) w28_rs w28_rm ts tm rdue rtun rsee rbeg psize pclause peff pkin pgri psig psee qsize qclause qeff qkin qgri qsig qsee cdee cnow cahe kdee know kahe fc lf told up lo) := hD1.weaken (fun _ q _ h => hFc q.1 h)
          generalize H1 = H at hP hS ⊢
          refine lv_iload_n hx hb dX5_row_31 rfl (lv_at hl 2 rfl) ?_
          cases h
          exact hret _ _ _ _ hP hD hS dX5_row_32
        · have h := br_0 h c16
          refine lv_aload_n hx hb dX5_row_19 rfl (lv_at hl 0 rfl) ?_
          refine lv_iconst (v := (5 : Int32)) hx hb dX5_row_20 (by decide) ?_
          obtain ⟨r21, w21_fc, w21_lf, hc, h⟩ := bd3_some h
          have hFc := my_freeS hD hS hA
          refine my_rwi (va_runV (As := [.int (5 : Int32)]) (rest := []) hFix (kX5_found l D T F ad rs rm ts tm rdue rtun rsee rbeg psize pclause peff pkin pgri psig psee qsize qclause qeff qkin qgri qsig qsee cdee cnow cahe kdee know kahe fc lf told up lo (5 : Int32) r21 w21_fc w21_lf hc _) (cwV 1 hts gX5_row_X5_found rfl rfl rfl ⟨rfl, hd_X5_found⟩ ⟨Nat.le_of_ble_eq_true rfl, Nat.le_of_ble_eq_true rfl⟩) (preV_rw hP hKK hD (va_recv hK hP (ci := 3) (q0 := 0) rfl wPW_0)) rfl rfl hl.1 rfl (lv_room (Nat.le_of_ble_eq_true rfl)) dX5_row_21 ⟨Nat.zero_le _, Nat.zero_le _⟩) hS hFc (fun H1 locs hP1 hD1 hz1 hkk hS => ?_)
          have hP : va_P D vwCl (wPW T ad (ad 6) (ad 12) rs rm ts tm rdue rtun rsee rbeg psize pclause peff pkin pgri psig psee qsize qclause qeff qkin qgri qsig qsee cdee cnow cahe kdee know kahe w21_fc w21_lf told up lo) H1 := hP1
          have hD : va_D A (wPW T ad (ad 6) (ad 12) rs rm ts tm rdue rtun rsee rbeg psize pclause peff pkin pgri psig psee qsize qclause qeff qkin qgri qsig qsee cdee cnow cahe kdee know kahe w21_fc w21_lf told up lo) := hD1.weaken (fun _ q _ h => hFc q.1 h)
          generalize H1 = H at hP hS ⊢
          cases h
          exact hret _ _ _ _ hP hD hS dX5_row_24
      · have h := br_0 h c10
        refine lv_iconst (v := (-1 : Int32)) hx hb dX5_row_13 (by decide) ?_
        cases h
        exact hret _ _ _ _ hP hD hS dX5_row_14
  exact key _ (fun H locs pc ls hP hD hS hd => W.iret hx hb hr (fun t ht hW => ⟨⟨_, (), rfl, rfl, by show _ ∧ _; rw [ht]; exact ⟨hP, hD⟩⟩, hS.F ht⟩) hS.2.2 hd)
set_option maxHeartbeats 4000000 in
set_option maxRecDepth 100000 in
theorem kX5_rowPlaceFinding (l : Launch) (D : va_G) (T : Nat → ClassId) (F : Nat) (ad : Nat → Nat) (rs : Nat → Int32) (rm : Nat → Nat → Int32) (ts : Nat → Int32) (tm : Nat → Nat → Int32) (rdue : Int32) (rtun : Int32) (rsee : Int32) (rbeg : Int32) (psize : Int32) (pclause : Int32) (peff : Nat → Int32) (pkin : Nat → Int32) (pgri : Nat → Int32) (psig : Nat → Int32) (psee : Nat → Int32) (qsize : Int32) (qclause : Int32) (qeff : Nat → Int32) (qkin : Nat → Int32) (qgri : Nat → Int32) (qsig : Nat → Int32) (qsee : Nat → Int32) (cdee : Int32) (cnow : Int64) (cahe : Nat → Int64) (kdee : Nat → Int32) (know : Nat → Int64) (kahe : Nat → Nat → Int64) (fc : Nat → Int32) (lf : Int32) (told : Int32) (up : Int64) (lo : Int64) (x1 : Int32) (x2 : Int32) (r : Int32) (h : fX5_rowPlaceFinding F rs x1 x2 = some (r)) : Met l yX5_rowPlaceFinding wsX5_rowPlaceFinding ({ frames := 0, cells := 0, slots := 0, locals := 0 } : Room) (va_Pc [.ref (ad 0), .int x1, .int x2] (fun U => va_P D vwCl (wPW T ad (ad 6) (ad 12) rs rm ts tm rdue rtun rsee rbeg psize pclause peff pkin pgri psig psee qsize qclause qeff qkin qgri qsig qsee cdee cnow cahe kdee know kahe fc lf told up lo) U.heap ∧ KK D T U)) (vp_Si (fun r' => r' = r)) 0 0 (fun _ => False) := by
  refine Met.ofW (cc := cX5_rowPlaceFinding) (maxL := 3) (ret := some .int) (by decide) rfl ?_
  intro p e s m args below meth c s₁ B hml hv
  obtain ⟨ha, hP, hKK⟩ := hv
  have hx := B.exec
  have hb := B.bytes
  have hr := B.returns
  have hts := atoms_spec (ws := wsX5_rowPlaceFinding) B.pre
  have hown : s.vm.findClass RX5 = some m.cls := findClass_of_methodNamed B.named
  have hlocks := B.notSynchronized
  have hK := hKK.1
  have hFix : CallFix p m c cX5_rowPlaceFinding 3 s args wsX5_rowPlaceFinding RX5 := ⟨hx, hb, hml, hown, hts⟩
  have q1 := hts _ (List.mem_of_getElem? (i := 1) (show wsX5_rowPlaceFinding[1]? = some (Cond.fieldLink RX5 14 "PartyWill" "rowSizes" "[I") from rfl))
  have iX5 : ∀ w ∈ u_ws RX5 TX5 14, w ∈ wsX5_rowPlaceFinding := fun w h => List.mem_cons_of_mem _ (List.mem_append_right _ (h))
  obtain ⟨ls, hl, e0⟩ := my_entry (m := m) (n := 3) ha (Nat.le_of_ble_eq_true rfl)
  rw [e0]
  have hl : lv_has ls 3 [(0, .ref (ad 0)), (1, .int x1), (2, .int x2)] := hl
  have key : ∀ Q : State → Prop, (∀ (pc : Nat) (ls : Array Slot), decode cX5_rowPlaceFinding pc = .ok (.ireturn, 1) → W p l e ({ frames := 0, cells := 0, slots := 0, locals := 0 } : Room) s m args below meth c s.heap [] 0 0 Q (F0 m pc ls [.int r])) → W p l e ({ frames := 0, cells := 0, slots := 0, locals := 0 } : Room) s m args below meth c s.heap [] 0 0 Q (F0 m 0 ls []) := by
    intro Q hret
    unfold fX5_rowPlaceFinding at h
    refine lv_aload_n hx hb dX5_rowPlaceFinding_0 rfl (lv_at hl 0 rfl) ?_
    refine va_get (D := D) (ci := 3) (C := RX5) (T := TX5) (N := 14) hx hb hts iX5 hown hK hP 0 wPW_0 rfl 1 (by decide) q1 (fun _ h9 => h9) rfl dX5_rowPlaceFinding_1 ?_
    refine lv_iload_n hx hb dX5_rowPlaceFinding_4 rfl (lv_at hl 1 rfl) ?_
    obtain ⟨hin1, h⟩ := ck_some h
    refine va_iald hx hb hK hP 2 0 wPW_2 rfl hin1 dX5_rowPlaceFinding_5 ?_
    refine lv_iconst (v := (-1 : Int32)) hx hb dX5_rowPlaceFinding_6 (by decide) ?_
    refine lv_icmp_ne (tgt := 12) hx hb dX5_rowPlaceFinding_7 (by decide) (fun c7 => ?_) (fun c7 => ?_)
    · have h := br_0 h c7
      refine lv_iload_n hx hb dX5_rowPlaceFinding_12 rfl (lv_at hl 2 rfl) ?_
      refine lv_if_lt (tgt := 26) hx hb dX5_rowPlaceFinding_13 (by decide) (fun c13 => ?_) (fun c13 => ?_)
      · have h := br_1 h c13
        refine lv_iconst (v := (2 : Int32)) hx hb dX5_rowPlaceFinding_26 (by decide) ?_
        refine lv_goto (tgt := 31) hx hb dX5_rowPlaceFinding_27 (by decide) ?_
        cases h
        exact hret _ _ dX5_rowPlaceFinding_31
      · have h := br_0 h c13
        refine lv_iload_n hx hb dX5_rowPlaceFinding_16 rfl (lv_at hl 2 rfl) ?_
        refine lv_aload_n hx hb dX5_rowPlaceFinding_17 rfl (lv_at hl 0 rfl) ?_
        refine va_get (D := D) (ci := 3) (C := RX5) (T := TX5) (N := 14) hx hb hts iX5 hown hK hP 0 wPW_0 rfl 1 (by decide) q1 (fun _ h9 => h9) rfl dX5_rowPlaceFinding_18 ?_
        refine lv_iload_n hx hb dX5_rowPlaceFinding_21 rfl (lv_at hl 1 rfl) ?_
        obtain ⟨hin2, h⟩ := ck_some h
        refine va_iald hx hb hK hP 2 0 wPW_2 rfl hin2 dX5_rowPlaceFinding_22 ?_
        refine lv_icmp_lt (tgt := 30) hx hb dX5_rowPlaceFinding_23 (by decide) (fun c23 => ?_) (fun c23 => ?_)
        · have h := br_1 h c23
          refine lv_iconst (v := (0 : Int32)) hx hb dX5_rowPlaceFinding_30 (by decide) ?_
          cases h
          exact hret _ _ dX5_rowPlaceFinding_31
        · have h := br_0 h c23
          refine lv_iconst (v := (2 : Int32)) hx hb dX5_rowPlaceFinding_26 (by decide) ?_
          refine lv_goto (tgt := 31) hx hb dX5_rowPlaceFinding_27 (by decide) ?_
          cases h
          exact hret _ _ dX5_rowPlaceFinding_31
    · have h := br_1 h c7
      refine lv_iconst (v := (1 : Int32)) hx hb dX5_rowPlaceFinding_10 (by decide) ?_
      cases h
      exact hret _ _ dX5_rowPlaceFinding_11
  exact key _ (fun pc ls hd => W.iret hx hb hr (fun t ht hW => ⟨_, rfl, rfl, ht⟩) (fun q h => by cases h) hd)
