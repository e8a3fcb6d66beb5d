set_option maxHeartbeats 4000000 in
set_option maxRecDepth 100000 in
theorem kX5_lay (l : Launch) (D : va_G) (T : Nat → ClassId) (F : Nat) (ad : Nat → Nat) (rs : Nat → Int32) (rm : Nat → Nat → Int32) (ts : Nat → Int32) (tm : Nat → Nat → Int32) (rdue : Int32) (rtun : Int32) (rsee : Int32) (rbeg : Int32) (psize : Int32) (pclause : Int32) (peff : Nat → Int32) (pkin : Nat → Int32) (pgri : Nat → Int32) (psig : Nat → Int32) (psee : Nat → Int32) (qsize : Int32) (qclause : Int32) (qeff : Nat → Int32) (qkin : Nat → Int32) (qgri : Nat → Int32) (qsig : Nat → Int32) (qsee : Nat → Int32) (cdee : Int32) (cnow : Int64) (cahe : Nat → Int64) (kdee : Nat → Int32) (know : Nat → Int64) (kahe : Nat → Nat → Int64) (fc : Nat → Int32) (lf : Int32) (told : Int32) (up : Int64) (lo : Int64) (x1 : Int32) (x2 : Int32) (x3 : Int32) (r : Int32) (zrm : Nat → Nat → Int32) (zfc : Nat → Int32) (zlf : Int32) (ztold : Int32) (h : fX5_lay F rs rm fc lf told x1 x2 x3 = some (r, zrm, zfc, zlf, ztold)) : ∀ sz : Nat, Met l yX5_lay wsX5_lay ({ frames := 1, cells := 0, slots := 0, locals := 22 } : Room) (va_Pc [.ref (ad 0), .int x1, .int x2, .int x3] (fun U => U.heap.size = sz ∧ va_P D vwCl (wPW T ad (ad 6) (ad 12) rs rm ts tm rdue rtun rsee rbeg psize pclause peff pkin pgri psig psee qsize qclause qeff qkin qgri qsig qsee cdee cnow cahe kdee know kahe fc lf told up lo) U.heap ∧ KK D T U ∧ va_D (fun _ => True) (wPW T ad (ad 6) (ad 12) rs rm ts tm rdue rtun rsee rbeg psize pclause peff pkin pgri psig psee qsize qclause qeff qkin qgri qsig qsee cdee cnow cahe kdee know kahe fc lf told up lo))) (va_Qi (fun r' (_ : Unit) => r' = r) (fun _ t => va_P D vwCl (wPW T ad (ad 6) (ad 12) rs zrm ts tm rdue rtun rsee rbeg psize pclause peff pkin pgri psig psee qsize qclause qeff qkin qgri qsig qsee cdee cnow cahe kdee know kahe zfc zlf ztold up lo) t.heap ∧ va_D (va_A (wPW T ad (ad 6) (ad 12) rs rm ts tm rdue rtun rsee rbeg psize pclause peff pkin pgri psig psee qsize qclause qeff qkin qgri qsig qsee cdee cnow cahe kdee know kahe fc lf told up lo) sz) (wPW T ad (ad 6) (ad 12) rs zrm ts tm rdue rtun rsee rbeg psize pclause peff pkin pgri psig psee qsize qclause qeff qkin qgri qsig qsee cdee cnow cahe kdee know kahe zfc zlf ztold up lo)) (va_A (wPW T ad (ad 6) (ad 12) rs rm ts tm rdue rtun rsee rbeg psize pclause peff pkin pgri psig psee qsize qclause qeff qkin qgri qsig qsee cdee cnow cahe kdee know kahe fc lf told up lo) sz)) 0 0 (va_A (wPW T ad (ad 6) (ad 12) rs rm ts tm rdue rtun rsee rbeg psize pclause peff pkin pgri psig psee qsize qclause qeff qkin qgri qsig qsee cdee cnow cahe kdee know kahe fc lf told up lo) sz) := by
  intro sz
  refine Met.ofW (cc := cX5_lay) (maxL := 5) (ret := some .int) (by decide) rfl ?_
  intro p e s m args below meth c s₁ B hml hv
  obtain ⟨ha, hsz, hP, hKK, hD0⟩ := hv
  have hx := B.exec
  have hb := B.bytes
  have hr := B.returns
  have hts := atoms_spec (ws := wsX5_lay) B.pre
  have hown : s.vm.findClass RX5 = some m.cls := findClass_of_methodNamed B.named
  have hlocks := B.notSynchronized
  have hK := hKK.1
  have hFix : CallFix p m c cX5_lay 5 s args wsX5_lay RX5 := ⟨hx, hb, hml, hown, hts⟩
  have q1 := hts _ (List.mem_of_getElem? (i := 1) (show wsX5_lay[1]? = some (Cond.fieldLink RX5 11 "PartyWill" "rows" "[[I") from rfl))
  have q2 := hts _ (List.mem_of_getElem? (i := 2) (show wsX5_lay[2]? = some (Cond.fieldLink RX5 61 "PartyWill" "told" "I") from rfl))
  have iX5 : ∀ w ∈ u_ws RX5 TX5 14, w ∈ wsX5_lay := fun w h => List.mem_cons_of_mem _ (List.mem_append_right _ (h))
  subst hsz
  have hD := hD0.self (sz := s.heap.size)
  generalize hAe : va_A (wPW T ad (ad 6) (ad 12) rs rm ts tm rdue rtun rsee rbeg psize pclause peff pkin pgri psig psee qsize qclause qeff qkin qgri qsig qsee cdee cnow cahe kdee know kahe fc lf told up lo) s.heap.size = A at hD ⊢
  have hA : ∀ q : Nat, s.heap.size ≤ q → A q := fun q h => by rw [← hAe]; exact Or.inr h
  have hS : va_S A s.heap s.heap [] := va_S.rf
  have hP : va_P D vwCl (wPW T ad (ad 6) (ad 12) rs rm ts tm rdue rtun rsee rbeg psize pclause peff pkin pgri psig psee qsize qclause qeff qkin qgri qsig qsee cdee cnow cahe kdee know kahe fc lf told up lo) s.heap := hP
  obtain ⟨ls, hl, e0⟩ := my_entry (m := m) (n := 5) ha (Nat.le_of_ble_eq_true rfl)
  rw [e0]
  have hl : lv_has ls 5 [(0, .ref (ad 0)), (1, .int x1), (2, .int x2), (3, .int x3)] := hl
  have key : ∀ Q : State → Prop, (∀ (H : Heap) (locs : List Loc) (pc : Nat) (ls : Array Slot), va_P D vwCl (wPW T ad (ad 6) (ad 12) rs zrm ts tm rdue rtun rsee rbeg psize pclause peff pkin pgri psig psee qsize qclause qeff qkin qgri qsig qsee cdee cnow cahe kdee know kahe zfc zlf ztold up lo) H → va_D A (wPW T ad (ad 6) (ad 12) rs zrm ts tm rdue rtun rsee rbeg psize pclause peff pkin pgri psig psee qsize qclause qeff qkin qgri qsig qsee cdee cnow cahe kdee know kahe zfc zlf ztold up lo) → va_S A s.heap H locs → decode cX5_lay pc = .ok (.ireturn, 1) → W p l e ({ frames := 1, cells := 0, slots := 0, locals := 22 } : Room) s m args below meth c H locs 0 0 Q (F0 m pc ls [.int r])) → W p l e ({ frames := 1, cells := 0, slots := 0, locals := 22 } : Room) s m args below meth c s.heap [] 0 0 Q (F0 m 0 ls []) := by
    intro Q hret
    skip
    unfold fX5_lay at h
    refine lv_iload_n hx hb dX5_lay_0 rfl (lv_at hl 1 rfl) ?_
    obtain ⟨r1, hc, h⟩ := bd1_some h
    refine my_roz (va_Run.run (va_runS (As := [.int x1]) (rest := []) hFix (kX5_isRow l D T F x1 r1 hc) (va_cwS 1 hts gX5_lay_X5_isRow rfl rfl rfl hd_X5_isRow ⟨Nat.le_of_ble_eq_true rfl, Nat.le_of_ble_eq_true rfl⟩) (preS_ro va_nil hKK) rfl rfl hl.1 rfl (lv_room (Nat.le_of_ble_eq_true rfl)) dX5_lay_1 ⟨Nat.zero_le _, Nat.zero_le _⟩)) (fun hb1 => ?_)
    refine lv_if_ne (tgt := 9) hx hb dX5_lay_4 (by decide) (fun c4 => ?_) (fun c4 => ?_)
    · have h := br_0 h c4
      refine lv_aload_n hx hb dX5_lay_9 rfl (lv_at hl 0 rfl) ?_
      refine lv_iload_n hx hb dX5_lay_10 rfl (lv_at hl 1 rfl) ?_
      refine lv_iload_n hx hb dX5_lay_11 rfl (lv_at hl 2 rfl) ?_
      obtain ⟨r12, hc, h⟩ := bd1_some h
      refine my_roi (va_Run.run (va_runV (As := [.int x1, .int x2]) (rest := []) hFix (kX5_rowPlaceFinding l D T F ad rs rm ts tm rdue rtun rsee rbeg psize pclause peff pkin pgri psig psee qsize qclause qeff qkin qgri qsig qsee cdee cnow cahe kdee know kahe fc lf told up lo x1 x2 r12 hc) (cwV 2 hts gX5_lay_X5_rowPlaceFinding rfl rfl rfl ⟨rfl, hd_X5_rowPlaceFinding⟩ ⟨Nat.le_of_ble_eq_true rfl, Nat.le_of_ble_eq_true rfl⟩) (preV_ro hP hKK (va_recv hK hP (ci := 3) (q0 := 0) rfl wPW_0)) rfl rfl hl.1 rfl (lv_room (Nat.le_of_ble_eq_true rfl)) dX5_lay_12 ⟨Nat.zero_le _, Nat.zero_le _⟩)) ?_
      refine lv_istore (lv' := [(4, .int r12), (0, .ref (ad 0)), (1, .int x1), (2, .int x2), (3, .int x3)]) hx hb dX5_lay_15 hl (by decide) rfl (fun ls hl => ?_)
      refine lv_iload hx hb dX5_lay_17 (lv_at hl 0 rfl) ?_
      refine lv_if_eq (tgt := 29) hx hb dX5_lay_19 (by decide) (fun c19 => ?_) (fun c19 => ?_)
      · have h := br_1 h c19
        refine lv_aload_n hx hb dX5_lay_29 rfl (lv_at hl 1 rfl) ?_
        refine lv_aload_n hx hb dX5_lay_30 rfl (lv_at hl 1 rfl) ?_
        refine va_get (D := D) (ci := 3) (C := RX5) (T := TX5) (N := 14) hx hb hts iX5 hown hK hP 0 wPW_0 rfl 0 (by decide) q1 (fun _ h9 => h9) rfl dX5_lay_31 ?_
        refine lv_iload_n hx hb dX5_lay_34 rfl (lv_at hl 2 rfl) ?_
        obtain ⟨hin2, h⟩ := ck_some h
        have hk1 : x1.toNatClampNeg < 6 := vp_lt hin2
        refine my_ald (b := (ad (28 + x1.toNatClampNeg))) rfl hx hb hK hP 1 4 wPW_1 rfl hin2 (fun _ => if_pos hk1) dX5_lay_35 ?_
        refine lv_iload_n hx hb dX5_lay_36 rfl (lv_at hl 3 rfl) ?_
        obtain ⟨hin3, h⟩ := ck_some h
        refine va_iald hx hb hK hP (28 + x1.toNatClampNeg) 0 (wPW_f_rows0 hk1) rfl hin3 dX5_lay_37 ?_
        refine va_put (D := D) (ci := 3) (v := .int ((rm x1.toNatClampNeg) x2.toNatClampNeg)) (ty := .int) (C := RX5) (T := TX5) (N := 14) hx hb hts iX5 tyX5 tyX5_ok nmX5 hown hK hP hD hS 0 wPW_0 rfl 11 (by decide) q2 (fun _ h9 => h9) rfl (by decide +kernel) rfl rfl (Nat.le_of_ble_eq_true rfl) dX5_lay_38 (fun H locs hP hD hS => ?_)
        have hP : va_P D vwCl (wPW T ad (ad 6) (ad 12) rs rm ts tm rdue rtun rsee rbeg psize pclause peff pkin pgri psig psee qsize qclause qeff qkin qgri qsig qsee cdee cnow cahe kdee know kahe fc lf ((rm x1.toNatClampNeg) x2.toNatClampNeg) up lo) H := hP
        have hD : va_D A (wPW T ad (ad 6) (ad 12) rs rm ts tm rdue rtun rsee rbeg psize pclause peff pkin pgri psig psee qsize qclause qeff qkin qgri qsig qsee cdee cnow cahe kdee know kahe fc lf ((rm x1.toNatClampNeg) x2.toNatClampNeg) up lo) := hD
        refine lv_aload_n hx hb dX5_lay_41 rfl (lv_at hl 1 rfl) ?_
        refine va_get (D := D) (ci := 3) (C := RX5) (T := TX5) (N := 14) hx hb hts iX5 hown hK hP 0 wPW_0 rfl 0 (by decide) q1 (fun _ h9 => h9) rfl dX5_lay_42 ?_
        refine lv_iload_n hx hb dX5_lay_45 rfl (lv_at hl 2 rfl) ?_
        obtain ⟨hin5, h⟩ := ck_some h
        have hk4 : x1.toNatClampNeg < 6 := vp_lt hin5
        refine my_ald (b := (ad (28 + x1.toNatClampNeg))) rfl hx hb hK hP 1 4 wPW_1 rfl hin5 (fun _ => if_pos hk4) dX5_lay_46 ?_
        refine lv_iload_n hx hb dX5_lay_47 rfl (lv_at hl 3 rfl) ?_
        refine lv_iload_n hx hb dX5_lay_48 rfl (lv_at hl 4 rfl) ?_
        obtain ⟨hin6, h⟩ := ck_some h
        refine va_iast hx hb hK hP hD hS (28 + x1.toNatClampNeg) 0 (wPW_f_rows0 hk4) rfl hin6 dX5_lay_49 (fun H locs hP hD hS => ?_)
        have hP : va_P D vwCl (wPW T ad (ad 6) (ad 12) rs (va_up rm x1.toNatClampNeg (upd (rm x1.toNatClampNeg) x2.toNatClampNeg x3)) ts tm rdue rtun rsee rbeg psize pclause peff pkin pgri psig psee qsize qclause qeff qkin qgri qsig qsee cdee cnow cahe kdee know kahe fc lf ((rm x1.toNatClampNeg) x2.toNatClampNeg) up lo) H := my_eqP (wPW_s_rows0 hk4) hP
        have hD : va_D A (wPW T ad (ad 6) (ad 12) rs (va_up rm x1.toNatClampNeg (upd (rm x1.toNatClampNeg) x2.toNatClampNeg x3)) ts tm rdue rtun rsee rbeg psize pclause peff pkin pgri psig psee qsize qclause qeff qkin qgri qsig qsee cdee cnow cahe kdee know kahe fc lf ((rm x1.toNatClampNeg) x2.toNatClampNeg) up lo) := my_eqD (wPW_s_rows0 hk4) hD
        refine lv_iconst (v := (1 : Int32)) hx hb dX5_lay_50 (by decide) ?_
        cases h
        exact hret _ _ _ _ hP hD hS dX5_lay_51
      · have h := br_0 h c19
        refine lv_aload_n hx hb dX5_lay_22 rfl (lv_at hl 1 rfl) ?_
        refine lv_iload hx hb dX5_lay_23 (lv_at hl 0 rfl) ?_
        obtain ⟨r25, w25_fc, w25_lf, hc, h⟩ := bd3_some h
        have hFc := my_freeS hD hS hA
        refine my_rwi (va_runV (As := [.int r12]) (rest := []) hFix (kX5_found l D T F ad rs rm ts tm rdue rtun rsee rbeg psize pclause peff pkin pgri psig psee qsize qclause qeff qkin qgri qsig qsee cdee cnow cahe kdee know kahe fc lf told up lo r12 r25 w25_fc w25_lf hc _) (cwV 1 hts gX5_lay_X5_found rfl rfl rfl ⟨rfl, hd_X5_found⟩ ⟨Nat.le_of_ble_eq_true rfl, Nat.le_of_ble_eq_true rfl⟩) (preV_rw hP hKK hD (va_recv hK hP (ci := 3) (q0 := 0) rfl wPW_0)) rfl rfl hl.1 rfl (lv_room (Nat.le_of_ble_eq_true rfl)) dX5_lay_25 ⟨Nat.zero_le _, Nat.zero_le _⟩) hS hFc (fun H1 locs hP1 hD1 hz1 hkk hS => ?_)
        have hP : va_P D vwCl (wPW T ad (ad 6) (ad 12) rs rm ts tm rdue rtun rsee rbeg psize pclause peff pkin pgri psig psee qsize qclause qeff qkin qgri qsig qsee cdee cnow cahe kdee know kahe w25_fc w25_lf told up lo) H1 := hP1
        have hD : va_D A (wPW T ad (ad 6) (ad 12) rs rm ts tm rdue rtun rsee rbeg psize pclause peff pkin pgri psig psee qsize qclause qeff qkin qgri qsig qsee cdee cnow cahe kdee know kahe w25_fc w25_lf told up lo) := hD1.weaken (fun _ q _ h => hFc q.1 h)
        generalize H1 = H at hP hS ⊢
        cases h
        exact hret _ _ _ _ hP hD hS dX5_lay_28
    · have h := br_1 h c4
      refine lv_iconst (v := (-1 : Int32)) hx hb dX5_lay_7 (by decide) ?_
      cases h
      exact hret _ _ _ _ hP hD hS dX5_lay_8
  exact key _ (fun H locs pc ls hP hD hS hd => W.iret hx hb hr (fun t ht hW => ⟨⟨_, (), rfl, rfl, by show _ ∧ _; rw [ht]; exact ⟨hP, hD⟩⟩, hS.F ht⟩) hS.2.2 hd)
set_option maxHeartbeats 4000000 in
set_option maxRecDepth 100000 in
theorem kX5_at (l : Launch) (D : va_G) (T : Nat → ClassId) (F : Nat) (ad : Nat → Nat) (rs : Nat → Int32) (rm : Nat → Nat → Int32) (ts : Nat → Int32) (tm : Nat → Nat → Int32) (rdue : Int32) (rtun : Int32) (rsee : Int32) (rbeg : Int32) (psize : Int32) (pclause : Int32) (peff : Nat → Int32) (pkin : Nat → Int32) (pgri : Nat → Int32) (psig : Nat → Int32) (psee : Nat → Int32) (qsize : Int32) (qclause : Int32) (qeff : Nat → Int32) (qkin : Nat → Int32) (qgri : Nat → Int32) (qsig : Nat → Int32) (qsee : Nat → Int32) (cdee : Int32) (cnow : Int64) (cahe : Nat → Int64) (kdee : Nat → Int32) (know : Nat → Int64) (kahe : Nat → Nat → Int64) (fc : Nat → Int32) (lf : Int32) (told : Int32) (up : Int64) (lo : Int64) (x1 : Int32) (x2 : Int32) (r : Int32) (zfc : Nat → Int32) (zlf : Int32) (ztold : Int32) (h : fX5_at F rs rm fc lf told x1 x2 = some (r, zfc, zlf, ztold)) : ∀ sz : Nat, Met l yX5_at wsX5_at ({ frames := 1, cells := 0, slots := 0, locals := 22 } : Room) (va_Pc [.ref (ad 0), .int x1, .int x2] (fun U => U.heap.size = sz ∧ va_P D vwCl (wPW T ad (ad 6) (ad 12) rs rm ts tm rdue rtun rsee rbeg psize pclause peff pkin pgri psig psee qsize qclause qeff qkin qgri qsig qsee cdee cnow cahe kdee know kahe fc lf told up lo) U.heap ∧ KK D T U ∧ va_D (fun _ => True) (wPW T ad (ad 6) (ad 12) rs rm ts tm rdue rtun rsee rbeg psize pclause peff pkin pgri psig psee qsize qclause qeff qkin qgri qsig qsee cdee cnow cahe kdee know kahe fc lf told up lo))) (va_Qi (fun r' (_ : Unit) => r' = r) (fun _ t => va_P D vwCl (wPW T ad (ad 6) (ad 12) rs rm ts tm rdue rtun rsee rbeg psize pclause peff pkin pgri psig psee qsize qclause qeff qkin qgri qsig qsee cdee cnow cahe kdee know kahe zfc zlf ztold up lo) t.heap ∧ va_D (va_A (wPW T ad (ad 6) (ad 12) rs rm ts tm rdue rtun rsee rbeg psize pclause peff pkin pgri psig psee qsize qclause qeff qkin qgri qsig qsee cdee cnow cahe kdee know kahe fc lf told up lo) sz) (wPW T ad (ad 6) (ad 12) rs rm ts tm rdue rtun rsee rbeg psize pclause peff pkin pgri psig psee qsize qclause qeff qkin qgri qsig qsee cdee cnow cahe kdee know kahe zfc zlf ztold up lo)) (va_A (wPW T ad (ad 6) (ad 12) rs rm ts tm rdue rtun rsee rbeg psize pclause peff pkin pgri psig psee qsize qclause qeff qkin qgri qsig qsee cdee cnow cahe kdee know kahe fc lf told up lo) sz)) 0 0 (va_A (wPW T ad (ad 6) (ad 12) rs rm ts tm rdue rtun rsee rbeg psize pclause peff pkin pgri psig psee qsize qclause qeff qkin qgri qsig qsee cdee cnow cahe kdee know kahe fc lf told up lo) sz) := by
  intro sz
  refine Met.ofW (cc := cX5_at) (maxL := 4) (ret := some .int) (by decide) rfl ?_
  intro p e s m args below meth c s₁ B hml hv
  obtain ⟨ha, hsz, hP, hKK, hD0⟩ := hv
  have hx := B.exec
  have hb := B.bytes
  have hr := B.returns
  have hts := atoms_spec (ws := wsX5_at) B.pre
  have hown : s.vm.findClass RX5 = some m.cls := findClass_of_methodNamed B.named
  have hlocks := B.notSynchronized
  have hK := hKK.1
  have hFix : CallFix p m c cX5_at 4 s args wsX5_at RX5 := ⟨hx, hb, hml, hown, hts⟩
  have q1 := hts _ (List.mem_of_getElem? (i := 1) (show wsX5_at[1]? = some (Cond.fieldLink RX5 11 "PartyWill" "rows" "[[I") from rfl))
  have q2 := hts _ (List.mem_of_getElem? (i := 2) (show wsX5_at[2]? = some (Cond.fieldLink RX5 61 "PartyWill" "told" "I") from rfl))
  have iX5 : ∀ w ∈ u_ws RX5 TX5 14, w ∈ wsX5_at := fun w h => List.mem_cons_of_mem _ (List.mem_append_right _ (h))
  subst hsz
  have hD := hD0.self (sz := s.heap.size)
  generalize hAe : va_A (wPW T ad (ad 6) (ad 12) rs rm ts tm rdue rtun rsee rbeg psize pclause peff pkin pgri psig psee qsize qclause qeff qkin qgri qsig qsee cdee cnow cahe kdee know kahe fc lf told up lo) s.heap.size = A at hD ⊢
  have hA : ∀ q : Nat, s.heap.size ≤ q → A q := fun q h => by rw [← hAe]; exact Or.inr h
  have hS : va_S A s.heap s.heap [] := va_S.rf
  have hP : va_P D vwCl (wPW T ad (ad 6) (ad 12) rs rm ts tm rdue rtun rsee rbeg psize pclause peff pkin pgri psig psee qsize qclause qeff qkin qgri qsig qsee cdee cnow cahe kdee know kahe fc lf told up lo) s.heap := hP
  obtain ⟨ls, hl, e0⟩ := my_entry (m := m) (n := 4) ha (Nat.le_of_ble_eq_true rfl)
  rw [e0]
  have hl : lv_has ls 4 [(0, .ref (ad 0)), (1, .int x1), (2, .int x2)] := hl
  have key : ∀ Q : State → Prop, (∀ (H : Heap) (locs : List Loc) (pc : Nat) (ls : Array Slot), va_P D vwCl (wPW T ad (ad 6) (ad 12) rs rm ts tm rdue rtun rsee rbeg psize pclause peff pkin pgri psig psee qsize qclause qeff qkin qgri qsig qsee cdee cnow cahe kdee know kahe zfc zlf ztold up lo) H → va_D A (wPW T ad (ad 6) (ad 12) rs rm ts tm rdue rtun rsee rbeg psize pclause peff pkin pgri psig psee qsize qclause qeff qkin qgri qsig qsee cdee cnow cahe kdee know kahe zfc zlf ztold up lo) → va_S A s.heap H locs → decode cX5_at pc = .ok (.ireturn, 1) → W p l e ({ frames := 1, cells := 0, slots := 0, locals := 22 } : Room) s m args below meth c H locs 0 0 Q (F0 m pc ls [.int r])) → W p l e ({ frames := 1, cells := 0, slots := 0, locals := 22 } : Room) s m args below meth c s.heap [] 0 0 Q (F0 m 0 ls []) := by
    intro Q hret
    skip
    unfold fX5_at at h
    refine lv_iload_n hx hb dX5_at_0 rfl (lv_at hl 1 rfl) ?_
    obtain ⟨r1, hc, h⟩ := bd1_some h
    refine my_roz (va_Run.run (va_runS (As := [.int x1]) (rest := []) hFix (kX5_isRow l D T F x1 r1 hc) (va_cwS 1 hts gX5_at_X5_isRow rfl rfl rfl hd_X5_isRow ⟨Nat.le_of_ble_eq_true rfl, Nat.le_of_ble_eq_true rfl⟩) (preS_ro va_nil hKK) rfl rfl hl.1 rfl (lv_room (Nat.le_of_ble_eq_true rfl)) dX5_at_1 ⟨Nat.zero_le _, Nat.zero_le _⟩)) (fun hb1 => ?_)
    refine lv_if_ne (tgt := 9) hx hb dX5_at_4 (by decide) (fun c4 => ?_) (fun c4 => ?_)
    · have h := br_0 h c4
      refine lv_aload_n hx hb dX5_at_9 rfl (lv_at hl 0 rfl) ?_
      refine lv_iload_n hx hb dX5_at_10 rfl (lv_at hl 1 rfl) ?_
      refine lv_iload_n hx hb dX5_at_11 rfl (lv_at hl 2 rfl) ?_
      obtain ⟨r12, hc, h⟩ := bd1_some h
      refine my_roi (va_Run.run (va_runV (As := [.int x1, .int x2]) (rest := []) hFix (kX5_rowPlaceFinding l D T F ad rs rm ts tm rdue rtun rsee rbeg psize pclause peff pkin pgri psig psee qsize qclause qeff qkin qgri qsig qsee cdee cnow cahe kdee know kahe fc lf told up lo x1 x2 r12 hc) (cwV 2 hts gX5_at_X5_rowPlaceFinding rfl rfl rfl ⟨rfl, hd_X5_rowPlaceFinding⟩ ⟨Nat.le_of_ble_eq_true rfl, Nat.le_of_ble_eq_true rfl⟩) (preV_ro hP hKK (va_recv hK hP (ci := 3) (q0 := 0) rfl wPW_0)) rfl rfl hl.1 rfl (lv_room (Nat.le_of_ble_eq_true rfl)) dX5_at_12 ⟨Nat.zero_le _, Nat.zero_le _⟩)) ?_
      refine lv_istore_n (lv' := [(3, .int r12), (0, .ref (ad 0)), (1, .int x1), (2, .int x2)]) hx hb dX5_at_15 rfl hl (by decide) rfl (fun ls hl => ?_)
      refine lv_iload_n hx hb dX5_at_16 rfl (lv_at hl 0 rfl) ?_
      refine lv_if_eq (tgt := 26) hx hb dX5_at_17 (by decide) (fun c17 => ?_) (fun c17 => ?_)
      · have h := br_1 h c17
        refine lv_aload_n hx hb dX5_at_26 rfl (lv_at hl 1 rfl) ?_
        refine lv_aload_n hx hb dX5_at_27 rfl (lv_at hl 1 rfl) ?_
        refine va_get (D := D) (ci := 3) (C := RX5) (T := TX5) (N := 14) hx hb hts iX5 hown hK hP 0 wPW_0 rfl 0 (by decide) q1 (fun _ h9 => h9) rfl dX5_at_28 ?_
        refine lv_iload_n hx hb dX5_at_31 rfl (lv_at hl 2 rfl) ?_
        obtain ⟨hin2, h⟩ := ck_some h
        have hk1 : x1.toNatClampNeg < 6 := vp_lt hin2
        refine my_ald (b := (ad (28 + x1.toNatClampNeg))) rfl hx hb hK hP 1 4 wPW_1 rfl hin2 (fun _ => if_pos hk1) dX5_at_32 ?_
        refine lv_iload_n hx hb dX5_at_33 rfl (lv_at hl 3 rfl) ?_
        obtain ⟨hin3, h⟩ := ck_some h
        refine va_iald hx hb hK hP (28 + x1.toNatClampNeg) 0 (wPW_f_rows0 hk1) rfl hin3 dX5_at_34 ?_
        refine va_put (D := D) (ci := 3) (v := .int ((rm x1.toNatClampNeg) x2.toNatClampNeg)) (ty := .int) (C := RX5) (T := TX5) (N := 14) hx hb hts iX5 tyX5 tyX5_ok nmX5 hown hK hP hD hS 0 wPW_0 rfl 11 (by decide) q2 (fun _ h9 => h9) rfl (by decide +kernel) rfl rfl (Nat.le_of_ble_eq_true rfl) dX5_at_35 (fun H locs hP hD hS => ?_)
        have hP : va_P D vwCl (wPW T ad (ad 6) (ad 12) rs rm ts tm rdue rtun rsee rbeg psize pclause peff pkin pgri psig psee qsize qclause qeff qkin qgri qsig qsee cdee cnow cahe kdee know kahe fc lf ((rm x1.toNatClampNeg) x2.toNatClampNeg) up lo) H := hP
        have hD : va_D A (wPW T ad (ad 6) (ad 12) rs rm ts tm rdue rtun rsee rbeg psize pclause peff pkin pgri psig psee qsize qclause qeff qkin qgri qsig qsee cdee cnow cahe kdee know kahe fc lf ((rm x1.toNatClampNeg) x2.toNatClampNeg) up lo) := hD
        refine lv_iconst (v := (1 : Int32)) hx hb dX5_at_38 (by decide) ?_
        cases h
        exact hret _ _ _ _ hP hD hS dX5_at_39
      · have h := br_0 h c17
        refine lv_aload_n hx hb dX5_at_20 rfl (lv_at hl 1 rfl) ?_
        refine lv_iload_n hx hb dX5_at_21 rfl (lv_at hl 0 rfl) ?_
        obtain ⟨r22, w22_fc, w22_lf, hc, h⟩ := bd3_some h
        have hFc := my_freeS hD hS hA
        refine my_rwi (va_runV (As := [.int r12]) (rest := []) hFix (kX5_found l D T F ad rs rm ts tm rdue rtun rsee rbeg psize pclause peff pkin pgri psig psee qsize qclause qeff qkin qgri qsig qsee cdee cnow cahe kdee know kahe fc lf told up lo r12 r22 w22_fc w22_lf hc _) (cwV 1 hts gX5_at_X5_found rfl rfl rfl ⟨rfl, hd_X5_found⟩ ⟨Nat.le_of_ble_eq_true rfl, Nat.le_of_ble_eq_true rfl⟩) (preV_rw hP hKK hD (va_recv hK hP (ci := 3) (q0 := 0) rfl wPW_0)) rfl rfl hl.1 rfl (lv_room (Nat.le_of_ble_eq_true rfl)) dX5_at_22 ⟨Nat.zero_le _, Nat.zero_le _⟩) hS hFc (fun H1 locs hP1 hD1 hz1 hkk hS => ?_)
        have hP : va_P D vwCl (wPW T ad (ad 6) (ad 12) rs rm ts tm rdue rtun rsee rbeg psize pclause peff pkin pgri psig psee qsize qclause qeff qkin qgri qsig qsee cdee cnow cahe kdee know kahe w22_fc w22_lf told up lo) H1 := hP1
        have hD : va_D A (wPW T ad (ad 6) (ad 12) rs rm ts tm rdue rtun rsee rbeg psize pclause peff pkin pgri psig psee qsize qclause qeff qkin qgri qsig qsee cdee cnow cahe kdee know kahe w22_fc w22_lf told up lo) := hD1.weaken (fun _ q _ h => hFc q.1 h)
        generalize H1 = H at hP hS ⊢
        cases h
        exact hret _ _ _ _ hP hD hS dX5_at_25
    · have h := br_1 h c4
      refine lv_iconst (v := (-1 : Int32)) hx hb dX5_at_7 (by decide) ?_
      cases h
      exact hret _ _ _ _ hP hD hS dX5_at_8
  exact key _ (fun H locs pc ls hP hD hS hd => W.iret hx hb hr (fun t ht hW => ⟨⟨_, (), rfl, rfl, by show _ ∧ _; rw [ht]; exact ⟨hP, hD⟩⟩, hS.F ht⟩) hS.2.2 hd)
set_option maxHeartbeats 4000000 in
set_option maxRecDepth 100000 in
theorem kX5_isText (l : Launch) (D : va_G) (T : Nat → ClassId) (F : Nat) (x0 : Int32) (r : Int32) (h : fX5_isText F x0 = some (r)) : Met l yX5_isText wsX5_isText ({ frames := 0, cells := 0, slots := 0, locals := 0 } : Room) (va_Pc [.int x0] (fun U => va_P D vwCl ([] : va_W) U.heap ∧ KK D T U)) (vp_Si (fun r' => r' = r ∧ b01 r)) 0 0 (fun _ => False) := by
  refine Met.ofW (cc := cX5_isText) (maxL := 1) (ret := some .boolean) (by decide) rfl ?_
  intro p e s m args below meth c s₁ B hml hv
  obtain ⟨ha, hP, hKK⟩ := hv
  have hx := B.exec
  have hb := B.bytes
  have hr := B.returns
  have hts := atoms_spec (ws := wsX5_isText) B.pre
  have hown : s.vm.findClass RX5 = some m.cls := findClass_of_methodNamed B.named
  have hlocks := B.notSynchronized
  have hK := hKK.1
  have hFix : CallFix p m c cX5_isText 1 s args wsX5_isText RX5 := ⟨hx, hb, hml, hown, hts⟩
  obtain ⟨ls, hl, e0⟩ := my_entry (m := m) (n := 1) ha (Nat.le_of_ble_eq_true rfl)
  rw [e0]
  have hl : lv_has ls 1 [(0, .int x0)] := hl
  have key : ∀ Q : State → Prop, (∀ (pc : Nat) (ls : Array Slot), decode cX5_isText pc = .ok (.ireturn, 1) → b01 r → W p l e ({ frames := 0, cells := 0, slots := 0, locals := 0 } : Room) s m args below meth c s.heap [] 0 0 Q (F0 m pc ls [.int r])) → W p l e ({ frames := 0, cells := 0, slots := 0, locals := 0 } : Room) s m args below meth c s.heap [] 0 0 Q (F0 m 0 ls []) := by
    intro Q hret
    unfold fX5_isText at h
    refine lv_iload_n hx hb dX5_isText_0 rfl (lv_at hl 0 rfl) ?_
    refine lv_if_lt (tgt := 13) hx hb dX5_isText_1 (by decide) (fun c1 => ?_) (fun c1 => ?_)
    · have h := br_1 h c1
      refine lv_iconst (v := (0 : Int32)) hx hb dX5_isText_13 (by decide) ?_
      cases h
      exact hret _ _ dX5_isText_14 (Or.inl rfl)
    · have h := br_0 h c1
      refine lv_iload_n hx hb dX5_isText_4 rfl (lv_at hl 0 rfl) ?_
      refine lv_iconst (v := (4 : Int32)) hx hb dX5_isText_5 (by decide) ?_
      refine lv_icmp_ge (tgt := 13) hx hb dX5_isText_6 (by decide) (fun c6 => ?_) (fun c6 => ?_)
      · have h := br_1 h c6
        refine lv_iconst (v := (0 : Int32)) hx hb dX5_isText_13 (by decide) ?_
        cases h
        exact hret _ _ dX5_isText_14 (Or.inl rfl)
      · have h := br_0 h c6
        refine lv_iconst (v := (1 : Int32)) hx hb dX5_isText_9 (by decide) ?_
        refine lv_goto (tgt := 14) hx hb dX5_isText_10 (by decide) ?_
        cases h
        exact hret _ _ dX5_isText_14 (Or.inr rfl)
  exact key _ (fun pc ls hd hb1 => W.zret hx hb hr (b01_n hb1) (fun t ht hW => ⟨_, rfl, ⟨rfl, hb1⟩, ht⟩) (fun q h => by cases h) hd)
set_option maxHeartbeats 4000000 in
set_option maxRecDepth 100000 in
theorem kX5_text (l : Launch) (D : va_G) (T : Nat → ClassId) (F : Nat) (ad : Nat → Nat) (rs : Nat → Int32) (rm : Nat → Nat → Int32) (ts : Nat → Int32) (tm : Nat → Nat → Int32) (rdue : Int32) (rtun : Int32) (rsee : Int32) (rbeg : Int32) (psize : Int32) (pclause : Int32) (peff : Nat → Int32) (pkin : Nat → Int32) (pgri : Nat → Int32) (psig : Nat → Int32) (psee : Nat → Int32) (qsize : Int32) (qclause : Int32) (qeff : Nat → Int32) (qkin : Nat → Int32) (qgri : Nat → Int32) (qsig : Nat → Int32) (qsee : Nat → Int32) (cdee : Int32) (cnow : Int64) (cahe : Nat → Int64) (kdee : Nat → Int32) (know : Nat → Int64) (kahe : Nat → Nat → Int64) (fc : Nat → Int32) (lf : Int32) (told : Int32) (up : Int64) (lo : Int64) (x1 : Int32) (x2 : Int32) (r : Int32) (zts : Nat → Int32) (ztm : Nat → Nat → Int32) (zfc : Nat → Int32) (zlf : Int32) (h : fX5_text F ts tm fc lf x1 x2 = some (r, zts, ztm, zfc, zlf)) : ∀ sz : Nat, Met l yX5_text wsX5_text ({ frames := 1, cells := 0, slots := 0, locals := 21 } : Room) (va_Pc [.ref (ad 0), .int x1, .int x2] (fun U => U.heap.size = sz ∧ va_P D vwCl (wPW T ad (ad 6) (ad 12) rs rm ts tm rdue rtun rsee rbeg psize pclause peff pkin pgri psig psee qsize qclause qeff qkin qgri qsig qsee cdee cnow cahe kdee know kahe fc lf told up lo) U.heap ∧ KK D T U ∧ va_D (fun _ => True) (wPW T ad (ad 6) (ad 12) rs rm ts tm rdue rtun rsee rbeg psize pclause peff pkin pgri psig psee qsize qclause qeff qkin qgri qsig qsee cdee cnow cahe kdee know kahe fc lf told up lo))) (va_Qi (fun r' (_ : Unit) => r' = r) (fun _ t => va_P D vwCl (wPW T ad (ad 6) (ad 12) rs rm zts ztm rdue rtun rsee rbeg psize pclause peff pkin pgri psig psee qsize qclause qeff qkin qgri qsig qsee cdee cnow cahe kdee know kahe zfc zlf told up lo) t.heap ∧ va_D (va_A (wPW T ad (ad 6) (ad 12) rs rm ts tm rdue rtun rsee rbeg psize pclause peff pkin pgri psig psee qsize qclause qeff qkin qgri qsig qsee cdee cnow cahe kdee know kahe fc lf told up lo) sz) (wPW T ad (ad 6) (ad 12) rs rm zts ztm rdue rtun rsee rbeg psize pclause peff pkin pgri psig psee qsize qclause qeff qkin qgri qsig qsee cdee cnow cahe kdee know kahe zfc zlf told up lo)) (va_A (wPW T ad (ad 6) (ad 12) rs rm ts tm rdue rtun rsee rbeg psize pclause peff pkin pgri psig psee qsize qclause qeff qkin qgri qsig qsee cdee cnow cahe kdee know kahe fc lf told up lo) sz)) 0 0 (va_A (wPW T ad (ad 6) (ad 12) rs rm ts tm rdue rtun rsee rbeg psize pclause peff pkin pgri psig psee qsize qclause qeff qkin qgri qsig qsee cdee cnow cahe kdee know kahe fc lf told up lo) sz) := by
  intro sz
  refine Met.ofW (cc := cX5_text) (maxL := 4) (ret := some .int) (by decide) rfl ?_
  intro p e s m args below meth c s₁ B hml hv
  obtain ⟨ha, hsz, hP, hKK, hD0⟩ := hv
  have hx := B.exec
  have hb := B.bytes
  have hr := B.returns
  have hts := atoms_spec (ws := wsX5_text) B.pre
  have hown : s.vm.findClass RX5 = some m.cls := findClass_of_methodNamed B.named
  have hlocks := B.notSynchronized
  have hK := hKK.1
  have hFix : CallFix p m c cX5_text 4 s args wsX5_text RX5 := ⟨hx, hb, hml, hown, hts⟩
  have q1 := hts _ (List.mem_of_getElem? (i := 1) (show wsX5_text[1]? = some (Cond.fieldLink RX5 20 "PartyWill" "texts" "[[B") from rfl))
  have q2 := hts _ (List.mem_of_getElem? (i := 2) (show wsX5_text[2]? = some (Cond.fieldLink RX5 23 "PartyWill" "textSizes" "[I") from rfl))
  have iX5 : ∀ w ∈ u_ws RX5 TX5 14, w ∈ wsX5_text := fun w h => List.mem_cons_of_mem _ (List.mem_append_right _ (h))
  subst hsz
  have hD := hD0.self (sz := s.heap.size)
  generalize hAe : va_A (wPW T ad (ad 6) (ad 12) rs rm ts tm rdue rtun rsee rbeg psize pclause peff pkin pgri psig psee qsize qclause qeff qkin qgri qsig qsee cdee cnow cahe kdee know kahe fc lf told up lo) s.heap.size = A at hD ⊢
  have hA : ∀ q : Nat, s.heap.size ≤ q → A q := fun q h => by rw [← hAe]; exact Or.inr h
  have hS : va_S A s.heap s.heap [] := va_S.rf
  have hP : va_P D vwCl (wPW T ad (ad 6) (ad 12) rs rm ts tm rdue rtun rsee rbeg psize pclause peff pkin pgri psig psee qsize qclause qeff qkin qgri qsig qsee cdee cnow cahe kdee know kahe fc lf told up lo) s.heap := hP
  obtain ⟨ls, hl, e0⟩ := my_entry (m := m) (n := 4) ha (Nat.le_of_ble_eq_true rfl)
  rw [e0]
  have hl : lv_has ls 4 [(0, .ref (ad 0)), (1, .int x1), (2, .int x2)] := hl
  have key : ∀ Q : State → Prop, (∀ (H : Heap) (locs : List Loc) (pc : Nat) (ls : Array Slot), va_P D vwCl (wPW T ad (ad 6) (ad 12) rs rm zts ztm rdue rtun rsee rbeg psize pclause peff pkin pgri psig psee qsize qclause qeff qkin qgri qsig qsee cdee cnow cahe kdee know kahe zfc zlf told up lo) H → va_D A (wPW T ad (ad 6) (ad 12) rs rm zts ztm rdue rtun rsee rbeg psize pclause peff pkin pgri psig psee qsize qclause qeff qkin qgri qsig qsee cdee cnow cahe kdee know kahe zfc zlf told up lo) → va_S A s.heap H locs → decode cX5_text pc = .ok (.ireturn, 1) → W p l e ({ frames := 1, cells := 0, slots := 0, locals := 21 } : Room) s m args below meth c H locs 0 0 Q (F0 m pc ls [.int r])) → W p l e ({ frames := 1, cells := 0, slots := 0, locals := 21 } : Room) s m args below meth c s.heap [] 0 0 Q (F0 m 0 ls []) := by
    intro Q hret
    skip
    have l27 : ∀ x1 : Int32, ∀ x2 : Int32, ∀ ts : Nat → Int32, ∀ fc : Nat → Int32, ∀ lf : Int32, ∀ nu : Nat, ∀ x3 : Int32, ∀ tm : Nat → Nat → Int32, fX5_text_l27 F x1 x2 ts fc lf nu x3 tm = some (r, zts, ztm, zfc, zlf) → ∀ (H : Heap) (locs : List Loc), va_P D vwCl (wPW T ad (ad 6) (ad 12) rs rm ts tm rdue rtun rsee rbeg psize pclause peff pkin pgri psig psee qsize qclause qeff qkin qgri qsig qsee cdee cnow cahe kdee know kahe fc lf told up lo) H → va_D A (wPW T ad (ad 6) (ad 12) rs rm ts tm rdue rtun rsee rbeg psize pclause peff pkin pgri psig psee qsize qclause qeff qkin qgri qsig qsee cdee cnow cahe kdee know kahe fc lf told up lo) → va_S A s.heap H locs → ∀ (ls : Array Slot), lv_has ls 4 [(0, .ref (ad 0)), (1, .int x1), (2, .int x2), (3, .int x3)] → W p l e ({ frames := 1, cells := 0, slots := 0, locals := 21 } : Room) s m args below meth c H locs 0 0 Q (F0 m 27 ls []) := by
      intro x1 x2 ts fc lf
      intro nu
      induction nu with
      | zero => intro x3 tm h; exact none_some h
      | succ nu27 ih27 =>
        intro x3 tm h H locs hP hD hS ls hl
        have h : fX5_text_l27_b F x1 x2 ts fc lf (fX5_text_l27 F x1 x2 ts fc lf nu27) x3 tm = some (r, zts, ztm, zfc, zlf) := h
        unfold fX5_text_l27_b at h
        refine lv_iload_n hx hb dX5_text_27 rfl (lv_at hl 3 rfl) ?_
        refine lv_iload_n hx hb dX5_text_28 rfl (lv_at hl 2 rfl) ?_
        refine lv_icmp_ge (tgt := 48) hx hb dX5_text_29 (by decide) (fun c29 => ?_) (fun c29 => ?_)
        · have h := br_1 h c29
          refine lv_aload_n hx hb dX5_text_48 rfl (lv_at hl 0 rfl) ?_
          refine va_get (D := D) (ci := 3) (C := RX5) (T := TX5) (N := 14) hx hb hts iX5 hown hK hP 0 wPW_0 rfl 3 (by decide) q2 (fun _ h9 => h9) rfl dX5_text_49 ?_
          refine lv_iload_n hx hb dX5_text_52 rfl (lv_at hl 1 rfl) ?_
          refine lv_iload_n hx hb dX5_text_53 rfl (lv_at hl 2 rfl) ?_
          obtain ⟨hin1, h⟩ := ck_some h
          refine va_iast hx hb hK hP hD hS 4 0 wPW_4 rfl hin1 dX5_text_54 (fun H locs hP hD hS => ?_)
          have hP : va_P D vwCl (wPW T ad (ad 6) (ad 12) rs rm (upd ts x1.toNatClampNeg x2) tm rdue rtun rsee rbeg psize pclause peff pkin pgri psig psee qsize qclause qeff qkin qgri qsig qsee cdee cnow cahe kdee know kahe fc lf told up lo) H := hP
          have hD : va_D A (wPW T ad (ad 6) (ad 12) rs rm (upd ts x1.toNatClampNeg x2) tm rdue rtun rsee rbeg psize pclause peff pkin pgri psig psee qsize qclause qeff qkin qgri qsig qsee cdee cnow cahe kdee know kahe fc lf told up lo) := hD
          refine lv_iload_n hx hb dX5_text_55 rfl (lv_at hl 2 rfl) ?_
          cases h
          exact hret _ _ _ _ hP hD hS dX5_text_56
        · have h := br_0 h c29
          refine lv_aload_n hx hb dX5_text_32 rfl (lv_at hl 0 rfl) ?_
          refine va_get (D := D) (ci := 3) (C := RX5) (T := TX5) (N := 14) hx hb hts iX5 hown hK hP 0 wPW_0 rfl 2 (by decide) q1 (fun _ h9 => h9) rfl dX5_text_33 ?_
          refine lv_iload_n hx hb dX5_text_36 rfl (lv_at hl 1 rfl) ?_
          obtain ⟨hin3, h⟩ := ck_some h
          have hk2 : x1.toNatClampNeg < 4 := vp_lt hin3
          refine my_ald (b := (ad (34 + x1.toNatClampNeg))) rfl hx hb hK hP 3 5 wPW_3 rfl hin3 (fun _ => if_pos hk2) dX5_text_37 ?_
          refine lv_iload_n hx hb dX5_text_38 rfl (lv_at hl 3 rfl) ?_
          refine lv_bipush (v := (32 : Int32)) hx hb dX5_text_39 (by decide) ?_
          obtain ⟨hin4, h⟩ := ck_some h
          refine va_bast hx hb hK hP hD hS (34 + x1.toNatClampNeg) 1 (wPW_f_texts0 hk2) rfl hin4 dX5_text_41 (fun H locs hP hD hS => ?_)
          have hP : va_P D vwCl (wPW T ad (ad 6) (ad 12) rs rm ts (va_up tm x1.toNatClampNeg (upd (tm x1.toNatClampNeg) x3.toNatClampNeg (vp_nar .byte (32 : Int32)))) rdue rtun rsee rbeg psize pclause peff pkin pgri psig psee qsize qclause qeff qkin qgri qsig qsee cdee cnow cahe kdee know kahe fc lf told up lo) H := my_eqP (wPW_s_texts0 hk2) hP
          have hD : va_D A (wPW T ad (ad 6) (ad 12) rs rm ts (va_up tm x1.toNatClampNeg (upd (tm x1.toNatClampNeg) x3.toNatClampNeg (vp_nar .byte (32 : Int32)))) rdue rtun rsee rbeg psize pclause peff pkin pgri psig psee qsize qclause qeff qkin qgri qsig qsee cdee cnow cahe kdee know kahe fc lf told up lo) := my_eqD (wPW_s_texts0 hk2) hD
          refine lv_iinc (v := (x3 + (1 : Int32))) (lv' := [(3, .int (x3 + (1 : Int32))), (0, .ref (ad 0)), (1, .int x1), (2, .int x2)]) hx hb dX5_text_42 hl (k := 3) rfl rfl (by decide) rfl (fun ls hl => ?_)
          refine lv_goto (tgt := 27) hx hb dX5_text_45 (by decide) ?_
          exact ih27 (x3 + (1 : Int32)) (va_up tm x1.toNatClampNeg (upd (tm x1.toNatClampNeg) x3.toNatClampNeg (vp_nar .byte (32 : Int32)))) h _ _ hP hD hS _ (lv_sub hl [1, 2, 3, 0] rfl)
    unfold fX5_text at h
    refine lv_iload_n hx hb dX5_text_0 rfl (lv_at hl 1 rfl) ?_
    obtain ⟨r1, hc, h⟩ := bd1_some h
    refine my_roz (va_Run.run (va_runS (As := [.int x1]) (rest := []) hFix (kX5_isText l D T F x1 r1 hc) (va_cwS 1 hts gX5_text_X5_isText rfl rfl rfl hd_X5_isText ⟨Nat.le_of_ble_eq_true rfl, Nat.le_of_ble_eq_true rfl⟩) (preS_ro va_nil hKK) rfl rfl hl.1 rfl (lv_room (Nat.le_of_ble_eq_true rfl)) dX5_text_1 ⟨Nat.zero_le _, Nat.zero_le _⟩)) (fun hb1 => ?_)
    refine lv_if_eq (tgt := 13) hx hb dX5_text_4 (by decide) (fun c4 => ?_) (fun c4 => ?_)
    · have h := br_1 h c4
      refine lv_iconst (v := (-1 : Int32)) hx hb dX5_text_13 (by decide) ?_
      cases h
      exact hret _ _ _ _ hP hD hS dX5_text_14
    · have h := br_0 h c4
      refine lv_iload_n hx hb dX5_text_7 rfl (lv_at hl 2 rfl) ?_
      refine lv_bipush (v := (80 : Int32)) hx hb dX5_text_8 (by decide) ?_
      refine lv_icmp_le (tgt := 15) hx hb dX5_text_10 (by decide) (fun c10 => ?_) (fun c10 => ?_)
      · have h := br_1 h c10
        refine lv_iload_n hx hb dX5_text_15 rfl (lv_at hl 2 rfl) ?_
        refine lv_if_ge (tgt := 25) hx hb dX5_text_16 (by decide) (fun c16 => ?_) (fun c16 => ?_)
        · have h := br_1 h c16
          refine lv_iconst (v := (0 : Int32)) hx hb dX5_text_25 (by decide) ?_
          refine lv_istore_n (lv' := [(3, .int (0 : Int32)), (0, .ref (ad 0)), (1, .int x1), (2, .int x2)]) hx hb dX5_text_26 rfl hl (by decide) rfl (fun ls hl => ?_)
          exact l27 x1 x2 ts fc lf F (0 : Int32) tm h _ _ hP hD hS _ (lv_sub hl [1, 2, 3, 0] rfl)
        · have h := br_0 h c16
          refine lv_aload_n hx hb dX5_text_19 rfl (lv_at hl 0 rfl) ?_
          refine lv_iconst (v := (5 : Int32)) hx hb dX5_text_20 (by decide) ?_
          obtain ⟨r21, w21_fc, w21_lf, hc, h⟩ := bd3_some h
          have hFc := my_freeS hD hS hA
          refine my_rwi (va_runV (As := [.int (5 : Int32)]) (rest := []) hFix (kX5_found l D T F ad rs rm ts tm rdue rtun rsee rbeg psize pclause peff pkin pgri psig psee qsize qclause qeff qkin qgri qsig qsee cdee cnow cahe kdee know kahe fc lf told up lo (5 : Int32) r21 w21_fc w21_lf hc _) (cwV 1 hts gX5_text_X5_found rfl rfl rfl ⟨rfl, hd_X5_found⟩ ⟨Nat.le_of_ble_eq_true rfl, Nat.le_of_ble_eq_true rfl⟩) (preV_rw hP hKK hD (va_recv hK hP (ci := 3) (q0 := 0) rfl wPW_0)) rfl rfl hl.1 rfl (lv_room (Nat.le_of_ble_eq_true rfl)) dX5_text_21 ⟨Nat.zero_le _, Nat.zero_le _⟩) hS hFc (fun H1 locs hP1 hD1 hz1 hkk hS => ?_)
          have hP : va_P D vwCl (wPW T ad (ad 6) (ad 12) rs rm ts tm rdue rtun rsee rbeg psize pclause peff pkin pgri psig psee qsize qclause qeff qkin qgri qsig qsee cdee cnow cahe kdee know kahe w21_fc w21_lf told up lo) H1 := hP1
          have hD : va_D A (wPW T ad (ad 6) (ad 12) rs rm ts tm rdue rtun rsee rbeg psize pclause peff pkin pgri psig psee qsize qclause qeff qkin qgri qsig qsee cdee cnow cahe kdee know kahe w21_fc w21_lf told up lo) := hD1.weaken (fun _ q _ h => hFc q.1 h)
          generalize H1 = H at hP hS ⊢
          cases h
          exact hret _ _ _ _ hP hD hS dX5_text_24
      · have h := br_0 h c10
        refine lv_iconst (v := (-1 : Int32)) hx hb dX5_text_13 (by decide) ?_
        cases h
        exact hret _ _ _ _ hP hD hS dX5_text_14
  exact key _ (fun H locs pc ls hP hD hS hd => W.iret hx hb hr (fun t ht hW => ⟨⟨_, (), rfl, rfl, by show _ ∧ _; rw [ht]; exact ⟨hP, hD⟩⟩, hS.F ht⟩) hS.2.2 hd)
set_option maxHeartbeats 4000000 in
set_option maxRecDepth 100000 in
theorem kX5_put (l : Launch) (D : va_G) (T : Nat → ClassId) (F : Nat) (ad : Nat → Nat) (rs : Nat → Int32) (rm : Nat → Nat → Int32) (ts : Nat → Int32) (tm : Nat → Nat → Int32) (rdue : Int32) (rtun : Int32) (rsee : Int32) (rbeg : Int32) (psize : Int32) (pclause : Int32) (peff : Nat → Int32) (pkin : Nat → Int32) (pgri : Nat → Int32) (psig : Nat → Int32) (psee : Nat → Int32) (qsize : Int32) (qclause : Int32) (qeff : Nat → Int32) (qkin : Nat → Int32) (qgri : Nat → Int32) (qsig : Nat → Int32) (qsee : Nat → Int32) (cdee : Int32) (cnow : Int64) (cahe : Nat → Int64) (kdee : Nat → Int32) (know : Nat → Int64) (kahe : Nat → Nat → Int64) (fc : Nat → Int32) (lf : Int32) (told : Int32) (up : Int64) (lo : Int64) (x1 : Int32) (x2 : Int32) (x3 : Int32) (r : Int32) (ztm : Nat → Nat → Int32) (zfc : Nat → Int32) (zlf : Int32) (h : fX5_put F ts tm fc lf x1 x2 x3 = some (r, ztm, zfc, zlf)) : ∀ sz : Nat, Met l yX5_put wsX5_put ({ frames := 1, cells := 0, slots := 0, locals := 21 } : Room) (va_Pc [.ref (ad 0), .int x1, .int x2, .int x3] (fun U => U.heap.size = sz ∧ va_P D vwCl (wPW T ad (ad 6) (ad 12) rs rm ts tm rdue rtun rsee rbeg psize pclause peff pkin pgri psig psee qsize qclause qeff qkin qgri qsig qsee cdee cnow cahe kdee know kahe fc lf told up lo) U.heap ∧ KK D T U ∧ va_D (fun _ => True) (wPW T ad (ad 6) (ad 12) rs rm ts tm rdue rtun rsee rbeg psize pclause peff pkin pgri psig psee qsize qclause qeff qkin qgri qsig qsee cdee cnow cahe kdee know kahe fc lf told up lo))) (va_Qi (fun r' (_ : Unit) => r' = r) (fun _ t => va_P D vwCl (wPW T ad (ad 6) (ad 12) rs rm ts ztm rdue rtun rsee rbeg psize pclause peff pkin pgri psig psee qsize qclause qeff qkin qgri qsig qsee cdee cnow cahe kdee know kahe zfc zlf told up lo) t.heap ∧ va_D (va_A (wPW T ad (ad 6) (ad 12) rs rm ts tm rdue rtun rsee rbeg psize pclause peff pkin pgri psig psee qsize qclause qeff qkin qgri qsig qsee cdee cnow cahe kdee know kahe fc lf told up lo) sz) (wPW T ad (ad 6) (ad 12) rs rm ts ztm rdue rtun rsee rbeg psize pclause peff pkin pgri psig psee qsize qclause qeff qkin qgri qsig qsee cdee cnow cahe kdee know kahe zfc zlf told up lo)) (va_A (wPW T ad (ad 6) (ad 12) rs rm ts tm rdue rtun rsee rbeg psize pclause peff pkin pgri psig psee qsize qclause qeff qkin qgri qsig qsee cdee cnow cahe kdee know kahe fc lf told up lo) sz)) 0 0 (va_A (wPW T ad (ad 6) (ad 12) rs rm ts tm rdue rtun rsee rbeg psize pclause peff pkin pgri psig psee qsize qclause qeff qkin qgri qsig qsee cdee cnow cahe kdee know kahe fc lf told up lo) sz) := by
  intro sz
  refine Met.ofW (cc := cX5_put) (maxL := 5) (ret := some .int) (by decide) rfl ?_
  intro p e s m args below meth c s₁ B hml hv
  obtain ⟨ha, hsz, hP, hKK, hD0⟩ := hv
  have hx := B.exec
  have hb := B.bytes
  have hr := B.returns
  have hts := atoms_spec (ws := wsX5_put) B.pre
  have hown : s.vm.findClass RX5 = some m.cls := findClass_of_methodNamed B.named
  have hlocks := B.notSynchronized
  have hK := hKK.1
  have hFix : CallFix p m c cX5_put 5 s args wsX5_put RX5 := ⟨hx, hb, hml, hown, hts⟩
  have q1 := hts _ (List.mem_of_getElem? (i := 1) (show wsX5_put[1]? = some (Cond.fieldLink RX5 23 "PartyWill" "textSizes" "[I") from rfl))
  have q2 := hts _ (List.mem_of_getElem? (i := 2) (show wsX5_put[2]? = some (Cond.fieldLink RX5 20 "PartyWill" "texts" "[[B") from rfl))
  have iX5 : ∀ w ∈ u_ws RX5 TX5 14, w ∈ wsX5_put := fun w h => List.mem_cons_of_mem _ (List.mem_append_right _ (h))
  subst hsz
  have hD := hD0.self (sz := s.heap.size)
  generalize hAe : va_A (wPW T ad (ad 6) (ad 12) rs rm ts tm rdue rtun rsee rbeg psize pclause peff pkin pgri psig psee qsize qclause qeff qkin qgri qsig qsee cdee cnow cahe kdee know kahe fc lf told up lo) s.heap.size = A at hD ⊢
  have hA : ∀ q : Nat, s.heap.size ≤ q → A q := fun q h => by rw [← hAe]; exact Or.inr h
  have hS : va_S A s.heap s.heap [] := va_S.rf
  have hP : va_P D vwCl (wPW T ad (ad 6) (ad 12) rs rm ts tm rdue rtun rsee rbeg psize pclause peff pkin pgri psig psee qsize qclause qeff qkin qgri qsig qsee cdee cnow cahe kdee know kahe fc lf told up lo) s.heap := hP
  obtain ⟨ls, hl, e0⟩ := my_entry (m := m) (n := 5) ha (Nat.le_of_ble_eq_true rfl)
  rw [e0]
  have hl : lv_has ls 5 [(0, .ref (ad 0)), (1, .int x1), (2, .int x2), (3, .int x3)] := hl
  have key : ∀ Q : State → Prop, (∀ (H : Heap) (locs : List Loc) (pc : Nat) (ls : Array Slot), va_P D vwCl (wPW T ad (ad 6) (ad 12) rs rm ts ztm rdue rtun rsee rbeg psize pclause peff pkin pgri psig psee qsize qclause qeff qkin qgri qsig qsee cdee cnow cahe kdee know kahe zfc zlf told up lo) H → va_D A (wPW T ad (ad 6) (ad 12) rs rm ts ztm rdue rtun rsee rbeg psize pclause peff pkin pgri psig psee qsize qclause qeff qkin qgri qsig qsee cdee cnow cahe kdee know kahe zfc zlf told up lo) → va_S A s.heap H locs → decode cX5_put pc = .ok (.ireturn, 1) → W p l e ({ frames := 1, cells := 0, slots := 0, locals := 21 } : Room) s m args below meth c H locs 0 0 Q (F0 m pc ls [.int r])) → W p l e ({ frames := 1, cells := 0, slots := 0, locals := 21 } : Room) s m args below meth c s.heap [] 0 0 Q (F0 m 0 ls []) := by
    intro Q hret
    skip
    unfold fX5_put at h
    refine lv_iload_n hx hb dX5_put_0 rfl (lv_at hl 1 rfl) ?_
    obtain ⟨r1, hc, h⟩ := bd1_some h
    refine my_roz (va_Run.run (va_runS (As := [.int x1]) (rest := []) hFix (kX5_isText l D T F x1 r1 hc) (va_cwS 1 hts gX5_put_X5_isText rfl rfl rfl hd_X5_isText ⟨Nat.le_of_ble_eq_true rfl, Nat.le_of_ble_eq_true rfl⟩) (preS_ro va_nil hKK) rfl rfl hl.1 rfl (lv_room (Nat.le_of_ble_eq_true rfl)) dX5_put_1 ⟨Nat.zero_le _, Nat.zero_le _⟩)) (fun hb1 => ?_)
    refine lv_if_ne (tgt := 9) hx hb dX5_put_4 (by decide) (fun c4 => ?_) (fun c4 => ?_)
    · have h := br_0 h c4
      refine lv_aload_n hx hb dX5_put_9 rfl (lv_at hl 0 rfl) ?_
      refine va_get (D := D) (ci := 3) (C := RX5) (T := TX5) (N := 14) hx hb hts iX5 hown hK hP 0 wPW_0 rfl 3 (by decide) q1 (fun _ h9 => h9) rfl dX5_put_10 ?_
      refine lv_iload_n hx hb dX5_put_13 rfl (lv_at hl 1 rfl) ?_
      obtain ⟨hin1, h⟩ := ck_some h
      refine va_iald hx hb hK hP 4 0 wPW_4 rfl hin1 dX5_put_14 ?_
      refine lv_iconst (v := (-1 : Int32)) hx hb dX5_put_15 (by decide) ?_
      refine lv_icmp_ne (tgt := 25) hx hb dX5_put_16 (by decide) (fun c16 => ?_) (fun c16 => ?_)
      · have h := br_0 h c16
        refine lv_iload_n hx hb dX5_put_25 rfl (lv_at hl 2 rfl) ?_
        refine lv_if_lt (tgt := 39) hx hb dX5_put_26 (by decide) (fun c26 => ?_) (fun c26 => ?_)
        · have h := br_1 h c26
          refine lv_aload_n hx hb dX5_put_39 rfl (lv_at hl 0 rfl) ?_
          refine lv_iconst (v := (2 : Int32)) hx hb dX5_put_40 (by decide) ?_
          obtain ⟨r41, w41_fc, w41_lf, hc, h⟩ := bd3_some h
          have hFc := my_freeS hD hS hA
          refine my_rwi (va_runV (As := [.int (2 : Int32)]) (rest := []) hFix (kX5_found l D T F ad rs rm ts tm rdue rtun rsee rbeg psize pclause peff pkin pgri psig psee qsize qclause qeff qkin qgri qsig qsee cdee cnow cahe kdee know kahe fc lf told up lo (2 : Int32) r41 w41_fc w41_lf hc _) (cwV 1 hts gX5_put_X5_found rfl rfl rfl ⟨rfl, hd_X5_found⟩ ⟨Nat.le_of_ble_eq_true rfl, Nat.le_of_ble_eq_true rfl⟩) (preV_rw hP hKK hD (va_recv hK hP (ci := 3) (q0 := 0) rfl wPW_0)) rfl rfl hl.1 rfl (lv_room (Nat.le_of_ble_eq_true rfl)) dX5_put_41 ⟨Nat.zero_le _, Nat.zero_le _⟩) hS hFc (fun H1 locs hP1 hD1 hz1 hkk hS => ?_)
          have hP : va_P D vwCl (wPW T ad (ad 6) (ad 12) rs rm ts tm rdue rtun rsee rbeg psize pclause peff pkin pgri psig psee qsize qclause qeff qkin qgri qsig qsee cdee cnow cahe kdee know kahe w41_fc w41_lf told up lo) H1 := hP1
          have hD : va_D A (wPW T ad (ad 6) (ad 12) rs rm ts tm rdue rtun rsee rbeg psize pclause peff pkin pgri psig psee qsize qclause qeff qkin qgri qsig qsee cdee cnow cahe kdee know kahe w41_fc w41_lf told up lo) := hD1.weaken (fun _ q _ h => hFc q.1 h)
          generalize H1 = H at hP hS ⊢
          cases h
          exact hret _ _ _ _ hP hD hS dX5_put_44
        · have h := br_0 h c26
          refine lv_iload_n hx hb dX5_put_29 rfl (lv_at hl 2 rfl) ?_
          refine lv_aload_n hx hb dX5_put_30 rfl (lv_at hl 0 rfl) ?_
          refine va_get (D := D) (ci := 3) (C := RX5) (T := TX5) (N := 14) hx hb hts iX5 hown hK hP 0 wPW_0 rfl 3 (by decide) q1 (fun _ h9 => h9) rfl dX5_put_31 ?_
          refine lv_iload_n hx hb dX5_put_34 rfl (lv_at hl 1 rfl) ?_
          obtain ⟨hin2, h⟩ := ck_some h
          refine va_iald hx hb hK hP 4 0 wPW_4 rfl hin2 dX5_put_35 ?_
          refine lv_icmp_lt (tgt := 45) hx hb dX5_put_36 (by decide) (fun c36 => ?_) (fun c36 => ?_)
          · have h := br_1 h c36
            refine lv_aload_n hx hb dX5_put_45 rfl (lv_at hl 0 rfl) ?_
            refine va_get (D := D) (ci := 3) (C := RX5) (T := TX5) (N := 14) hx hb hts iX5 hown hK hP 0 wPW_0 rfl 2 (by decide) q2 (fun _ h9 => h9) rfl dX5_put_46 ?_
            refine lv_iload_n hx hb dX5_put_49 rfl (lv_at hl 1 rfl) ?_
            obtain ⟨hin4, h⟩ := ck_some h
            have hk3 : x1.toNatClampNeg < 4 := vp_lt hin4
            refine my_ald (b := (ad (34 + x1.toNatClampNeg))) rfl hx hb hK hP 3 5 wPW_3 rfl hin4 (fun _ => if_pos hk3) dX5_put_50 ?_
            refine lv_iload_n hx hb dX5_put_51 rfl (lv_at hl 2 rfl) ?_
            obtain ⟨hin5, h⟩ := ck_some h
            refine va_bald hx hb hK hP (34 + x1.toNatClampNeg) 1 (wPW_f_texts0 hk3) rfl hin5 dX5_put_52 ?_
            refine lv_istore (lv' := [(4, .int ((tm x1.toNatClampNeg) x2.toNatClampNeg)), (0, .ref (ad 0)), (1, .int x1), (2, .int x2), (3, .int x3)]) hx hb dX5_put_53 hl (by decide) rfl (fun ls hl => ?_)
            refine lv_aload_n hx hb dX5_put_55 rfl (lv_at hl 1 rfl) ?_
            refine va_get (D := D) (ci := 3) (C := RX5) (T := TX5) (N := 14) hx hb hts iX5 hown hK hP 0 wPW_0 rfl 2 (by decide) q2 (fun _ h9 => h9) rfl dX5_put_56 ?_
            refine lv_iload_n hx hb dX5_put_59 rfl (lv_at hl 2 rfl) ?_
            obtain ⟨hin7, h⟩ := ck_some h
            have hk6 : x1.toNatClampNeg < 4 := vp_lt hin7
            refine my_ald (b := (ad (34 + x1.toNatClampNeg))) rfl hx hb hK hP 3 5 wPW_3 rfl hin7 (fun _ => if_pos hk6) dX5_put_60 ?_
            refine lv_iload_n hx hb dX5_put_61 rfl (lv_at hl 3 rfl) ?_
            refine lv_iload_n hx hb dX5_put_62 rfl (lv_at hl 4 rfl) ?_
            refine lv_i2b (v := (x3.toInt8.toInt32)) hx hb dX5_put_63 rfl ?_
            obtain ⟨hin8, h⟩ := ck_some h
            refine va_bast hx hb hK hP hD hS (34 + x1.toNatClampNeg) 1 (wPW_f_texts0 hk6) rfl hin8 dX5_put_64 (fun H locs hP hD hS => ?_)
            have hP : va_P D vwCl (wPW T ad (ad 6) (ad 12) rs rm ts (va_up tm x1.toNatClampNeg (upd (tm x1.toNatClampNeg) x2.toNatClampNeg (vp_nar .byte (x3.toInt8.toInt32)))) rdue rtun rsee rbeg psize pclause peff pkin pgri psig psee qsize qclause qeff qkin qgri qsig qsee cdee cnow cahe kdee know kahe fc lf told up lo) H := my_eqP (wPW_s_texts0 hk6) hP
            have hD : va_D A (wPW T ad (ad 6) (ad 12) rs rm ts (va_up tm x1.toNatClampNeg (upd (tm x1.toNatClampNeg) x2.toNatClampNeg (vp_nar .byte (x3.toInt8.toInt32)))) rdue rtun rsee rbeg psize pclause peff pkin pgri psig psee qsize qclause qeff qkin qgri qsig qsee cdee cnow cahe kdee know kahe fc lf told up lo) := my_eqD (wPW_s_texts0 hk6) hD
            refine lv_iload hx hb dX5_put_65 (lv_at hl 0 rfl) ?_
            refine lv_sipush (v := (1000 : Int32)) hx hb dX5_put_67 (by decide) ?_
            refine lv_iadd hx hb dX5_put_70 ?_
            cases h
            exact hret _ _ _ _ hP hD hS dX5_put_71
          · have h := br_0 h c36
            refine lv_aload_n hx hb dX5_put_39 rfl (lv_at hl 0 rfl) ?_
            refine lv_iconst (v := (2 : Int32)) hx hb dX5_put_40 (by decide) ?_
            obtain ⟨r41, w41_fc, w41_lf, hc, h⟩ := bd3_some h
            have hFc := my_freeS hD hS hA
            refine my_rwi (va_runV (As := [.int (2 : Int32)]) (rest := []) hFix (kX5_found l D T F ad rs rm ts tm rdue rtun rsee rbeg psize pclause peff pkin pgri psig psee qsize qclause qeff qkin qgri qsig qsee cdee cnow cahe kdee know kahe fc lf told up lo (2 : Int32) r41 w41_fc w41_lf hc _) (cwV 1 hts gX5_put_X5_found rfl rfl rfl ⟨rfl, hd_X5_found⟩ ⟨Nat.le_of_ble_eq_true rfl, Nat.le_of_ble_eq_true rfl⟩) (preV_rw hP hKK hD (va_recv hK hP (ci := 3) (q0 := 0) rfl wPW_0)) rfl rfl hl.1 rfl (lv_room (Nat.le_of_ble_eq_true rfl)) dX5_put_41 ⟨Nat.zero_le _, Nat.zero_le _⟩) hS hFc (fun H1 locs hP1 hD1 hz1 hkk hS => ?_)
            have hP : va_P D vwCl (wPW T ad (ad 6) (ad 12) rs rm ts tm rdue rtun rsee rbeg psize pclause peff pkin pgri psig psee qsize qclause qeff qkin qgri qsig qsee cdee cnow cahe kdee know kahe w41_fc w41_lf told up lo) H1 := hP1
            have hD : va_D A (wPW T ad (ad 6) (ad 12) rs rm ts tm rdue rtun rsee rbeg psize pclause peff pkin pgri psig psee qsize qclause qeff qkin qgri qsig qsee cdee cnow cahe kdee know kahe w41_fc w41_lf told up lo) := hD1.weaken (fun _ q _ h => hFc q.1 h)
            generalize H1 = H at hP hS ⊢
            cases h
            exact hret _ _ _ _ hP hD hS dX5_put_44
      · have h := br_1 h c16
        refine lv_aload_n hx hb dX5_put_19 rfl (lv_at hl 0 rfl) ?_
        refine lv_iconst (v := (1 : Int32)) hx hb dX5_put_20 (by decide) ?_
        obtain ⟨r21, w21_fc, w21_lf, hc, h⟩ := bd3_some h
        have hFc := my_freeS hD hS hA
        refine my_rwi (va_runV (As := [.int (1 : Int32)]) (rest := []) hFix (kX5_found l D T F ad rs rm ts tm rdue rtun rsee rbeg psize pclause peff pkin pgri psig psee qsize qclause qeff qkin qgri qsig qsee cdee cnow cahe kdee know kahe fc lf told up lo (1 : Int32) r21 w21_fc w21_lf hc _) (cwV 1 hts gX5_put_X5_found rfl rfl rfl ⟨rfl, hd_X5_found⟩ ⟨Nat.le_of_ble_eq_true rfl, Nat.le_of_ble_eq_true rfl⟩) (preV_rw hP hKK hD (va_recv hK hP (ci := 3) (q0 := 0) rfl wPW_0)) rfl rfl hl.1 rfl (lv_room (Nat.le_of_ble_eq_true rfl)) dX5_put_21 ⟨Nat.zero_le _, Nat.zero_le _⟩) hS hFc (fun H1 locs hP1 hD1 hz1 hkk hS => ?_)
        have hP : va_P D vwCl (wPW T ad (ad 6) (ad 12) rs rm ts tm rdue rtun rsee rbeg psize pclause peff pkin pgri psig psee qsize qclause qeff qkin qgri qsig qsee cdee cnow cahe kdee know kahe w21_fc w21_lf told up lo) H1 := hP1
        have hD : va_D A (wPW T ad (ad 6) (ad 12) rs rm ts tm rdue rtun rsee rbeg psize pclause peff pkin pgri psig psee qsize qclause qeff qkin qgri qsig qsee cdee cnow cahe kdee know kahe w21_fc w21_lf told up lo) := hD1.weaken (fun _ q _ h => hFc q.1 h)
        generalize H1 = H at hP hS ⊢
        cases h
        exact hret _ _ _ _ hP hD hS dX5_put_24
    · have h := br_1 h c4
      refine lv_iconst (v := (-1 : Int32)) hx hb dX5_put_7 (by decide) ?_
      cases h
      exact hret _ _ _ _ hP hD hS dX5_put_8
  exact key _ (fun H locs pc ls hP hD hS hd => W.iret hx hb hr (fun t ht hW => ⟨⟨_, (), rfl, rfl, by show _ ∧ _; rw [ht]; exact ⟨hP, hD⟩⟩, hS.F ht⟩) hS.2.2 hd)
