set_option maxHeartbeats 4000000 in
set_option maxRecDepth 100000 in
theorem kX5_isGrief (l : Launch) (D : va_G) (T : Nat → ClassId) (F : Nat) (x0 : Int32) (r : Int32) (h : fX5_isGrief F x0 = some (r)) : Met l yX5_isGrief wsX5_isGrief ({ frames := 0, cells := 0, slots := 0, locals := 0 } : Room) (va_Pc [.int x0] (fun U => va_P D vwCl ([] : va_W) U.heap ∧ KK D T U)) (vp_Si (fun r' => r' = r ∧ b01 r)) 0 0 (fun _ => False) := by
  refine Met.ofW (cc := cX5_isGrief) (maxL := 1) (ret := some .boolean) (by decide) rfl ?_
  intro p e s m args below meth c s₁ B hml hv
  obtain ⟨ha, hP, hKK⟩ := hv
  have hx := B.exec
  have hb := B.bytes
  have hr := B.returns
  have hts := atoms_spec (ws := wsX5_isGrief) B.pre
  have hown : s.vm.findClass RX5 = some m.cls := findClass_of_methodNamed B.named
  have hlocks := B.notSynchronized
  have hK := hKK.1
  have hFix : CallFix p m c cX5_isGrief 1 s args wsX5_isGrief RX5 := ⟨hx, hb, hml, hown, hts⟩
  obtain ⟨ls, hl, e0⟩ := my_entry (m := m) (n := 1) ha (Nat.le_of_ble_eq_true rfl)
  rw [e0]
  have hl : lv_has ls 1 [(0, .int x0)] := hl
  have key : ∀ Q : State → Prop, (∀ (pc : Nat) (ls : Array Slot), decode cX5_isGrief pc = .ok (.ireturn, 1) → b01 r → W p l e ({ frames := 0, cells := 0, slots := 0, locals := 0 } : Room) s m args below meth c s.heap [] 0 0 Q (F0 m pc ls [.int r])) → W p l e ({ frames := 0, cells := 0, slots := 0, locals := 0 } : Room) s m args below meth c s.heap [] 0 0 Q (F0 m 0 ls []) := by
    intro Q hret
    unfold fX5_isGrief at h
    refine lv_iload_n hx hb dX5_isGrief_0 rfl (lv_at hl 0 rfl) ?_
    refine lv_if_lt (tgt := 14) hx hb dX5_isGrief_1 (by decide) (fun c1 => ?_) (fun c1 => ?_)
    · have h := br_1 h c1
      refine lv_iconst (v := (0 : Int32)) hx hb dX5_isGrief_14 (by decide) ?_
      cases h
      exact hret _ _ dX5_isGrief_15 (Or.inl rfl)
    · have h := br_0 h c1
      refine lv_iload_n hx hb dX5_isGrief_4 rfl (lv_at hl 0 rfl) ?_
      refine lv_bipush (v := (20 : Int32)) hx hb dX5_isGrief_5 (by decide) ?_
      refine lv_icmp_gt (tgt := 14) hx hb dX5_isGrief_7 (by decide) (fun c7 => ?_) (fun c7 => ?_)
      · have h := br_1 h c7
        refine lv_iconst (v := (0 : Int32)) hx hb dX5_isGrief_14 (by decide) ?_
        cases h
        exact hret _ _ dX5_isGrief_15 (Or.inl rfl)
      · have h := br_0 h c7
        refine lv_iconst (v := (1 : Int32)) hx hb dX5_isGrief_10 (by decide) ?_
        refine lv_goto (tgt := 15) hx hb dX5_isGrief_11 (by decide) ?_
        cases h
        exact hret _ _ dX5_isGrief_15 (Or.inr rfl)
  exact key _ (fun pc ls hd hb1 => W.zret hx hb hr (b01_n hb1) (fun t ht hW => ⟨_, rfl, ⟨rfl, hb1⟩, ht⟩) (fun q h => by cases h) hd)
set_option maxHeartbeats 4000000 in
set_option maxRecDepth 100000 in
theorem kX5_eveningFinding (l : Launch) (D : va_G) (T : Nat → ClassId) (F : Nat) (ad : Nat → Nat) (rs : Nat → Int32) (rm : Nat → Nat → Int32) (ts : Nat → Int32) (tm : Nat → Nat → Int32) (rdue : Int32) (rtun : Int32) (rsee : Int32) (rbeg : Int32) (psize : Int32) (pclause : Int32) (peff : Nat → Int32) (pkin : Nat → Int32) (pgri : Nat → Int32) (psig : Nat → Int32) (psee : Nat → Int32) (qsize : Int32) (qclause : Int32) (qeff : Nat → Int32) (qkin : Nat → Int32) (qgri : Nat → Int32) (qsig : Nat → Int32) (qsee : Nat → Int32) (cdee : Int32) (cnow : Int64) (cahe : Nat → Int64) (kdee : Nat → Int32) (know : Nat → Int64) (kahe : Nat → Nat → Int64) (fc : Nat → Int32) (lf : Int32) (told : Int32) (up : Int64) (lo : Int64) (x1 : Int32) (r : Int32) (h : fX5_eveningFinding F rs rm x1 = some (r)) : Met l yX5_eveningFinding wsX5_eveningFinding ({ frames := 1, cells := 0, slots := 0, locals := 20 } : Room) (va_Pc [.ref (ad 0), .int x1] (fun U => va_P D vwCl (wPW T ad (ad 6) (ad 12) rs rm ts tm rdue rtun rsee rbeg psize pclause peff pkin pgri psig psee qsize qclause qeff qkin qgri qsig qsee cdee cnow cahe kdee know kahe fc lf told up lo) U.heap ∧ KK D T U)) (vp_Si (fun r' => r' = r)) 0 0 (fun _ => False) := by
  refine Met.ofW (cc := cX5_eveningFinding) (maxL := 4) (ret := some .int) (by decide) rfl ?_
  intro p e s m args below meth c s₁ B hml hv
  obtain ⟨ha, hP, hKK⟩ := hv
  have hx := B.exec
  have hb := B.bytes
  have hr := B.returns
  have hts := atoms_spec (ws := wsX5_eveningFinding) B.pre
  have hown : s.vm.findClass RX5 = some m.cls := findClass_of_methodNamed B.named
  have hlocks := B.notSynchronized
  have hK := hKK.1
  have hFix : CallFix p m c cX5_eveningFinding 4 s args wsX5_eveningFinding RX5 := ⟨hx, hb, hml, hown, hts⟩
  have q1 := hts _ (List.mem_of_getElem? (i := 1) (show wsX5_eveningFinding[1]? = some (Cond.fieldLink RX5 14 "PartyWill" "rowSizes" "[I") from rfl))
  have q2 := hts _ (List.mem_of_getElem? (i := 2) (show wsX5_eveningFinding[2]? = some (Cond.fieldLink RX5 11 "PartyWill" "rows" "[[I") from rfl))
  have iX5 : ∀ w ∈ u_ws RX5 TX5 14, w ∈ wsX5_eveningFinding := fun w h => List.mem_cons_of_mem _ (List.mem_append_right _ (h))
  obtain ⟨ls, hl, e0⟩ := my_entry (m := m) (n := 4) ha (Nat.le_of_ble_eq_true rfl)
  rw [e0]
  have hl : lv_has ls 4 [(0, .ref (ad 0)), (1, .int x1)] := hl
  have key : ∀ Q : State → Prop, (∀ (pc : Nat) (ls : Array Slot), decode cX5_eveningFinding pc = .ok (.ireturn, 1) → W p l e ({ frames := 1, cells := 0, slots := 0, locals := 20 } : Room) s m args below meth c s.heap [] 0 0 Q (F0 m pc ls [.int r])) → W p l e ({ frames := 1, cells := 0, slots := 0, locals := 20 } : Room) s m args below meth c s.heap [] 0 0 Q (F0 m 0 ls []) := by
    intro Q hret
    have l30 : ∀ x1 : Int32, ∀ x2 : Int32, ∀ nu : Nat, ∀ x3 : Int32, fX5_eveningFinding_l30 F rs rm x1 x2 nu x3 = some (r) → ∀ (ls : Array Slot), lv_has ls 4 [(0, .ref (ad 0)), (1, .int x1), (2, .int x2), (3, .int x3)] → W p l e ({ frames := 1, cells := 0, slots := 0, locals := 20 } : Room) s m args below meth c s.heap [] 0 0 Q (F0 m 30 ls []) := by
      intro x1 x2
      intro nu
      induction nu with
      | zero => intro x3 h; exact none_some h
      | succ nu30 ih30 =>
        intro x3 h ls hl
        have h : fX5_eveningFinding_l30_b F rs rm x1 x2 (fX5_eveningFinding_l30 F rs rm x1 x2 nu30) x3 = some (r) := h
        unfold fX5_eveningFinding_l30_b at h
        refine lv_iload_n hx hb dX5_eveningFinding_30 rfl (lv_at hl 3 rfl) ?_
        refine lv_iconst (v := (1 : Int32)) hx hb dX5_eveningFinding_31 (by decide) ?_
        refine lv_iadd hx hb dX5_eveningFinding_32 ?_
        refine lv_iload_n hx hb dX5_eveningFinding_33 rfl (lv_at hl 2 rfl) ?_
        refine lv_icmp_ge (tgt := 75) hx hb dX5_eveningFinding_34 (by decide) (fun c34 => ?_) (fun c34 => ?_)
        · have h := br_1 h c34
          refine lv_iconst (v := (0 : Int32)) hx hb dX5_eveningFinding_75 (by decide) ?_
          cases h
          exact hret _ _ dX5_eveningFinding_76
        · have h := br_0 h c34
          refine lv_aload_n hx hb dX5_eveningFinding_37 rfl (lv_at hl 0 rfl) ?_
          refine va_get (D := D) (ci := 3) (C := RX5) (T := TX5) (N := 14) hx hb hts iX5 hown hK hP 0 wPW_0 rfl 0 (by decide) q2 (fun _ h9 => h9) rfl dX5_eveningFinding_38 ?_
          refine lv_iload_n hx hb dX5_eveningFinding_41 rfl (lv_at hl 1 rfl) ?_
          obtain ⟨hin2, h⟩ := ck_some h
          have hk1 : x1.toNatClampNeg < 6 := vp_lt hin2
          refine my_ald (b := (ad (28 + x1.toNatClampNeg))) rfl hx hb hK hP 1 4 wPW_1 rfl hin2 (fun _ => if_pos hk1) dX5_eveningFinding_42 ?_
          refine lv_iload_n hx hb dX5_eveningFinding_43 rfl (lv_at hl 3 rfl) ?_
          obtain ⟨hin3, h⟩ := ck_some h
          refine va_iald hx hb hK hP (28 + x1.toNatClampNeg) 0 (wPW_f_rows0 hk1) rfl hin3 dX5_eveningFinding_44 ?_
          obtain ⟨r45, hc, h⟩ := bd1_some h
          refine my_roz (va_Run.run (va_runS (As := [.int ((rm x1.toNatClampNeg) x3.toNatClampNeg)]) (rest := []) hFix (kX5_isTune l D T F ((rm x1.toNatClampNeg) x3.toNatClampNeg) r45 hc) (va_cwS 1 hts gX5_eveningFinding_X5_isTune rfl rfl rfl hd_X5_isTune ⟨Nat.le_of_ble_eq_true rfl, Nat.le_of_ble_eq_true rfl⟩) (preS_ro va_nil hKK) rfl rfl hl.1 rfl (lv_room (Nat.le_of_ble_eq_true rfl)) dX5_eveningFinding_45 ⟨Nat.zero_le _, Nat.zero_le _⟩)) (fun hb45 => ?_)
          refine lv_if_eq (tgt := 67) hx hb dX5_eveningFinding_48 (by decide) (fun c48 => ?_) (fun c48 => ?_)
          · have h := br_1 h c48
            refine lv_iconst (v := (3 : Int32)) hx hb dX5_eveningFinding_67 (by decide) ?_
            cases h
            exact hret _ _ dX5_eveningFinding_68
          · have h := br_0 h c48
            refine lv_aload_n hx hb dX5_eveningFinding_51 rfl (lv_at hl 0 rfl) ?_
            refine va_get (D := D) (ci := 3) (C := RX5) (T := TX5) (N := 14) hx hb hts iX5 hown hK hP 0 wPW_0 rfl 0 (by decide) q2 (fun _ h9 => h9) rfl dX5_eveningFinding_52 ?_
            refine lv_iload_n hx hb dX5_eveningFinding_55 rfl (lv_at hl 1 rfl) ?_
            obtain ⟨hin5, h⟩ := ck_some h
            have hk4 : x1.toNatClampNeg < 6 := vp_lt hin5
            refine my_ald (b := (ad (28 + x1.toNatClampNeg))) rfl hx hb hK hP 1 4 wPW_1 rfl hin5 (fun _ => if_pos hk4) dX5_eveningFinding_56 ?_
            refine lv_iload_n hx hb dX5_eveningFinding_57 rfl (lv_at hl 3 rfl) ?_
            refine lv_iconst (v := (1 : Int32)) hx hb dX5_eveningFinding_58 (by decide) ?_
            refine lv_iadd hx hb dX5_eveningFinding_59 ?_
            obtain ⟨hin6, h⟩ := ck_some h
            refine va_iald hx hb hK hP (28 + x1.toNatClampNeg) 0 (wPW_f_rows0 hk4) rfl hin6 dX5_eveningFinding_60 ?_
            obtain ⟨r61, hc, h⟩ := bd1_some h
            refine my_roz (va_Run.run (va_runS (As := [.int ((rm x1.toNatClampNeg) (x3 + (1 : Int32)).toNatClampNeg)]) (rest := []) hFix (kX5_isGrief l D T F ((rm x1.toNatClampNeg) (x3 + (1 : Int32)).toNatClampNeg) r61 hc) (va_cwS 1 hts gX5_eveningFinding_X5_isGrief rfl rfl rfl hd_X5_isGrief ⟨Nat.le_of_ble_eq_true rfl, Nat.le_of_ble_eq_true rfl⟩) (preS_ro va_nil hKK) rfl rfl hl.1 rfl (lv_room (Nat.le_of_ble_eq_true rfl)) dX5_eveningFinding_61 ⟨Nat.zero_le _, Nat.zero_le _⟩)) (fun hb61 => ?_)
            refine lv_if_ne (tgt := 69) hx hb dX5_eveningFinding_64 (by decide) (fun c64 => ?_) (fun c64 => ?_)
            · have h := br_0 h c64
              refine lv_iinc (v := (x3 + (2 : Int32))) (lv' := [(3, .int (x3 + (2 : Int32))), (0, .ref (ad 0)), (1, .int x1), (2, .int x2)]) hx hb dX5_eveningFinding_69 hl (k := 3) rfl rfl (by decide) rfl (fun ls hl => ?_)
              refine lv_goto (tgt := 30) hx hb dX5_eveningFinding_72 (by decide) ?_
              exact ih30 (x3 + (2 : Int32)) h _ (lv_sub hl [1, 2, 3, 0] rfl)
            · have h := br_1 h c64
              refine lv_iconst (v := (3 : Int32)) hx hb dX5_eveningFinding_67 (by decide) ?_
              cases h
              exact hret _ _ dX5_eveningFinding_68
    unfold fX5_eveningFinding at h
    refine lv_aload_n hx hb dX5_eveningFinding_0 rfl (lv_at hl 0 rfl) ?_
    refine va_get (D := D) (ci := 3) (C := RX5) (T := TX5) (N := 14) hx hb hts iX5 hown hK hP 0 wPW_0 rfl 1 (by decide) q1 (fun _ h9 => h9) rfl dX5_eveningFinding_1 ?_
    refine lv_iload_n hx hb dX5_eveningFinding_4 rfl (lv_at hl 1 rfl) ?_
    obtain ⟨hin7, h⟩ := ck_some h
    refine va_iald hx hb hK hP 2 0 wPW_2 rfl hin7 dX5_eveningFinding_5 ?_
    refine lv_istore_n (lv' := [(2, .int (rs x1.toNatClampNeg)), (0, .ref (ad 0)), (1, .int x1)]) hx hb dX5_eveningFinding_6 rfl hl (by decide) rfl (fun ls hl => ?_)
    refine lv_iload_n hx hb dX5_eveningFinding_7 rfl (lv_at hl 0 rfl) ?_
    refine lv_iconst (v := (-1 : Int32)) hx hb dX5_eveningFinding_8 (by decide) ?_
    refine lv_icmp_ne (tgt := 14) hx hb dX5_eveningFinding_9 (by decide) (fun c9 => ?_) (fun c9 => ?_)
    · have h := br_0 h c9
      refine lv_iload_n hx hb dX5_eveningFinding_14 rfl (lv_at hl 0 rfl) ?_
      refine lv_iconst (v := (2 : Int32)) hx hb dX5_eveningFinding_15 (by decide) ?_
      refine lv_irem hx hb dX5_eveningFinding_16 (by decide) ?_
      refine lv_if_ne (tgt := 26) hx hb dX5_eveningFinding_17 (by decide) (fun c17 => ?_) (fun c17 => ?_)
      · have h := br_0 h c17
        refine lv_iconst (v := (5 : Int32)) hx hb dX5_eveningFinding_26 (by decide) ?_
        cases h
        exact hret _ _ dX5_eveningFinding_27
      · have h := br_1 h c17
        refine lv_iload_n hx hb dX5_eveningFinding_20 rfl (lv_at hl 0 rfl) ?_
        refine lv_bipush (v := (16 : Int32)) hx hb dX5_eveningFinding_21 (by decide) ?_
        refine lv_icmp_le (tgt := 28) hx hb dX5_eveningFinding_23 (by decide) (fun c23 => ?_) (fun c23 => ?_)
        · have h := br_1 h c23
          refine lv_iconst (v := (0 : Int32)) hx hb dX5_eveningFinding_28 (by decide) ?_
          refine lv_istore_n (lv' := [(3, .int (0 : Int32)), (2, .int (rs x1.toNatClampNeg)), (0, .ref (ad 0)), (1, .int x1)]) hx hb dX5_eveningFinding_29 rfl hl (by decide) rfl (fun ls hl => ?_)
          exact l30 x1 (rs x1.toNatClampNeg) F (0 : Int32) h _ (lv_sub hl [2, 3, 1, 0] rfl)
        · have h := br_0 h c23
          refine lv_iconst (v := (5 : Int32)) hx hb dX5_eveningFinding_26 (by decide) ?_
          cases h
          exact hret _ _ dX5_eveningFinding_27
    · have h := br_1 h c9
      refine lv_iconst (v := (1 : Int32)) hx hb dX5_eveningFinding_12 (by decide) ?_
      cases h
      exact hret _ _ dX5_eveningFinding_13
  exact key _ (fun pc ls hd => W.iret hx hb hr (fun t ht hW => ⟨_, rfl, rfl, ht⟩) (fun q h => by cases h) hd)
set_option maxHeartbeats 4000000 in
set_option maxRecDepth 100000 in
theorem kX5_eveningRefusal (l : Launch) (D : va_G) (T : Nat → ClassId) (F : Nat) (ad : Nat → Nat) (rs : Nat → Int32) (rm : Nat → Nat → Int32) (ts : Nat → Int32) (tm : Nat → Nat → Int32) (rdue : Int32) (rtun : Int32) (rsee : Int32) (rbeg : Int32) (psize : Int32) (pclause : Int32) (peff : Nat → Int32) (pkin : Nat → Int32) (pgri : Nat → Int32) (psig : Nat → Int32) (psee : Nat → Int32) (qsize : Int32) (qclause : Int32) (qeff : Nat → Int32) (qkin : Nat → Int32) (qgri : Nat → Int32) (qsig : Nat → Int32) (qsee : Nat → Int32) (cdee : Int32) (cnow : Int64) (cahe : Nat → Int64) (kdee : Nat → Int32) (know : Nat → Int64) (kahe : Nat → Nat → Int64) (fc : Nat → Int32) (lf : Int32) (told : Int32) (up : Int64) (lo : Int64) (x1 : Int32) (x2 : Int32) (r : Int32) (zfc : Nat → Int32) (zlf : Int32) (h : fX5_eveningRefusal F rs rm psize cnow fc lf x1 x2 = some (r, zfc, zlf)) : ∀ sz : Nat, Met l yX5_eveningRefusal wsX5_eveningRefusal ({ frames := 2, cells := 0, slots := 0, locals := 43 } : Room) (va_Pc [.ref (ad 0), .int x1, .int x2] (fun U => U.heap.size = sz ∧ va_P D vwCl (wPW T ad (ad 6) (ad 12) rs rm ts tm rdue rtun rsee rbeg psize pclause peff pkin pgri psig psee qsize qclause qeff qkin qgri qsig qsee cdee cnow cahe kdee know kahe fc lf told up lo) U.heap ∧ KK D T U ∧ va_D (fun _ => True) (wPW T ad (ad 6) (ad 12) rs rm ts tm rdue rtun rsee rbeg psize pclause peff pkin pgri psig psee qsize qclause qeff qkin qgri qsig qsee cdee cnow cahe kdee know kahe fc lf told up lo))) (va_Qi (fun r' (_ : Unit) => r' = r) (fun _ t => va_P D vwCl (wPW T ad (ad 6) (ad 12) rs rm ts tm rdue rtun rsee rbeg psize pclause peff pkin pgri psig psee qsize qclause qeff qkin qgri qsig qsee cdee cnow cahe kdee know kahe zfc zlf told up lo) t.heap ∧ va_D (va_A (wPW T ad (ad 6) (ad 12) rs rm ts tm rdue rtun rsee rbeg psize pclause peff pkin pgri psig psee qsize qclause qeff qkin qgri qsig qsee cdee cnow cahe kdee know kahe fc lf told up lo) sz) (wPW T ad (ad 6) (ad 12) rs rm ts tm rdue rtun rsee rbeg psize pclause peff pkin pgri psig psee qsize qclause qeff qkin qgri qsig qsee cdee cnow cahe kdee know kahe zfc zlf told up lo)) (va_A (wPW T ad (ad 6) (ad 12) rs rm ts tm rdue rtun rsee rbeg psize pclause peff pkin pgri psig psee qsize qclause qeff qkin qgri qsig qsee cdee cnow cahe kdee know kahe fc lf told up lo) sz)) 0 0 (va_A (wPW T ad (ad 6) (ad 12) rs rm ts tm rdue rtun rsee rbeg psize pclause peff pkin pgri psig psee qsize qclause qeff qkin qgri qsig qsee cdee cnow cahe kdee know kahe fc lf told up lo) sz) := by
  intro sz
  refine Met.ofW (cc := cX5_eveningRefusal) (maxL := 4) (ret := some .int) (by decide) rfl ?_
  intro p e s m args below meth c s₁ B hml hv
  obtain ⟨ha, hsz, hP, hKK, hD0⟩ := hv
  have hx := B.exec
  have hb := B.bytes
  have hr := B.returns
  have hts := atoms_spec (ws := wsX5_eveningRefusal) B.pre
  have hown : s.vm.findClass RX5 = some m.cls := findClass_of_methodNamed B.named
  have hlocks := B.notSynchronized
  have hK := hKK.1
  have hFix : CallFix p m c cX5_eveningRefusal 4 s args wsX5_eveningRefusal RX5 := ⟨hx, hb, hml, hown, hts⟩
  have q1 := hts _ (List.mem_of_getElem? (i := 1) (show wsX5_eveningRefusal[1]? = some (Cond.fieldLink RX5 46 "PartyWill" "course" "LPartyWill$Course;") from rfl))
  have q11 := hts _ (List.mem_of_getElem? (i := 11) (show wsX5_eveningRefusal[11]? = some (Cond.static yX1_isIn) from rfl))
  have q12 := hts _ (List.mem_of_getElem? (i := 12) (show wsX5_eveningRefusal[12]? = some (Cond.initialized RX1) from rfl))
  have iX0 : ∀ w ∈ u_ws RX0 TX0 3, w ∈ wsX5_eveningRefusal := fun w h => List.mem_cons_of_mem _ (List.mem_append_left _ (List.mem_append_right _ (h)))
  have iX5 : ∀ w ∈ u_ws RX5 TX5 14, w ∈ wsX5_eveningRefusal := fun w h => List.mem_cons_of_mem _ (List.mem_append_left _ (List.mem_append_left _ (List.mem_append_right _ (h))))
  subst hsz
  have hD := hD0.self (sz := s.heap.size)
  generalize hAe : va_A (wPW T ad (ad 6) (ad 12) rs rm ts tm rdue rtun rsee rbeg psize pclause peff pkin pgri psig psee qsize qclause qeff qkin qgri qsig qsee cdee cnow cahe kdee know kahe fc lf told up lo) s.heap.size = A at hD ⊢
  have hA : ∀ q : Nat, s.heap.size ≤ q → A q := fun q h => by rw [← hAe]; exact Or.inr h
  have hS : va_S A s.heap s.heap [] := va_S.rf
  have hP : va_P D vwCl (wPW T ad (ad 6) (ad 12) rs rm ts tm rdue rtun rsee rbeg psize pclause peff pkin pgri psig psee qsize qclause qeff qkin qgri qsig qsee cdee cnow cahe kdee know kahe fc lf told up lo) s.heap := hP
  obtain ⟨ls, hl, e0⟩ := my_entry (m := m) (n := 4) ha (Nat.le_of_ble_eq_true rfl)
  rw [e0]
  have hl : lv_has ls 4 [(0, .ref (ad 0)), (1, .int x1), (2, .int x2)] := hl
  have key : ∀ Q : State → Prop, (∀ (H : Heap) (locs : List Loc) (pc : Nat) (ls : Array Slot), va_P D vwCl (wPW T ad (ad 6) (ad 12) rs rm ts tm rdue rtun rsee rbeg psize pclause peff pkin pgri psig psee qsize qclause qeff qkin qgri qsig qsee cdee cnow cahe kdee know kahe zfc zlf told up lo) H → va_D A (wPW T ad (ad 6) (ad 12) rs rm ts tm rdue rtun rsee rbeg psize pclause peff pkin pgri psig psee qsize qclause qeff qkin qgri qsig qsee cdee cnow cahe kdee know kahe zfc zlf told up lo) → va_S A s.heap H locs → decode cX5_eveningRefusal pc = .ok (.ireturn, 1) → W p l e ({ frames := 2, cells := 0, slots := 0, locals := 43 } : Room) s m args below meth c H locs 0 0 Q (F0 m pc ls [.int r])) → W p l e ({ frames := 2, cells := 0, slots := 0, locals := 43 } : Room) s m args below meth c s.heap [] 0 0 Q (F0 m 0 ls []) := by
    intro Q hret
    skip
    unfold fX5_eveningRefusal at h
    refine lv_aload_n hx hb dX5_eveningRefusal_0 rfl (lv_at hl 0 rfl) ?_
    refine lv_iload_n hx hb dX5_eveningRefusal_1 rfl (lv_at hl 1 rfl) ?_
    obtain ⟨r2, hc, h⟩ := bd1_some h
    refine my_roz (va_Run.run (va_runV (As := [.int x1]) (rest := []) hFix (kX5_isGuest l D T F ad rs rm ts tm rdue rtun rsee rbeg psize pclause peff pkin pgri psig psee qsize qclause qeff qkin qgri qsig qsee cdee cnow cahe kdee know kahe fc lf told up lo x1 r2 hc) (cwV 1 hts gX5_eveningRefusal_X5_isGuest rfl rfl rfl ⟨rfl, hd_X5_isGuest⟩ ⟨Nat.le_of_ble_eq_true rfl, Nat.le_of_ble_eq_true rfl⟩) (preV_ro hP hKK (va_recv hK hP (ci := 3) (q0 := 0) rfl wPW_0)) rfl rfl hl.1 rfl (lv_room (Nat.le_of_ble_eq_true rfl)) dX5_eveningRefusal_2 ⟨Nat.zero_le _, Nat.zero_le _⟩)) (fun hb2 => ?_)
    refine lv_if_eq (tgt := 15) hx hb dX5_eveningRefusal_5 (by decide) (fun c5 => ?_) (fun c5 => ?_)
    · have h := br_1 h c5
      refine lv_iconst (v := (-1 : Int32)) hx hb dX5_eveningRefusal_15 (by decide) ?_
      cases h
      exact hret _ _ _ _ hP hD hS dX5_eveningRefusal_16
    · have h := br_0 h c5
      refine lv_iload_n hx hb dX5_eveningRefusal_8 rfl (lv_at hl 2 rfl) ?_
      obtain ⟨r9, hc, h⟩ := bd1_some h
      refine my_roz (va_Run.run (va_runS (As := [.int x2]) (rest := []) hFix (kX5_isRow l D T F x2 r9 hc) (va_cwS 1 hts gX5_eveningRefusal_X5_isRow rfl rfl rfl hd_X5_isRow ⟨Nat.le_of_ble_eq_true rfl, Nat.le_of_ble_eq_true rfl⟩) (preS_ro va_nil hKK) rfl rfl hl.1 rfl (lv_room (Nat.le_of_ble_eq_true rfl)) dX5_eveningRefusal_9 ⟨Nat.zero_le _, Nat.zero_le _⟩)) (fun hb9 => ?_)
      refine lv_if_ne (tgt := 17) hx hb dX5_eveningRefusal_12 (by decide) (fun c12 => ?_) (fun c12 => ?_)
      · have h := br_0 h c12
        refine lv_aload_n hx hb dX5_eveningRefusal_17 rfl (lv_at hl 0 rfl) ?_
        refine va_get (D := D) (ci := 3) (C := RX5) (T := TX5) (N := 14) hx hb hts iX5 hown hK hP 0 wPW_0 rfl 7 (by decide) q1 (fun _ h9 => h9) rfl dX5_eveningRefusal_18 ?_
        refine va_getN (host := "PartyWill") (D := D) (ci := 0) (C := RX0) (T := TX0) (N := 3) hx hb hts iX0 hown hK hP 18 wPW_18 rfl 1 (by decide) (va_Nw.use rfl (nw_X5_127 hKK.2)) (fun _ h9 => h9) rfl dX5_eveningRefusal_21 ?_
        refine lv_iload_n hx hb dX5_eveningRefusal_24 rfl (lv_at hl 1 rfl) ?_
        obtain ⟨r25, hc, h⟩ := bd1_some h
        refine my_roz (va_Run.run (va_runSN (host := "PartyWill") (As := [.long cnow, .int x1]) (rest := []) hFix (kX1_isIn l D T F cnow x1 r25 hc) ⟨va_cnB 2 hts gX5_eveningRefusal_X1_isIn_n130 rfl rfl rfl (nw_X5_130 hKK.2) q12 hd_X1_isIn ⟨Nat.le_of_ble_eq_true rfl, Nat.le_of_ble_eq_true rfl⟩, q11, trivial⟩ (preS_ro va_nil hKK) rfl rfl hl.1 rfl (lv_room (Nat.le_of_ble_eq_true rfl)) dX5_eveningRefusal_25 ⟨Nat.zero_le _, Nat.zero_le _⟩)) (fun hb25 => ?_)
        refine lv_if_ne (tgt := 34) hx hb dX5_eveningRefusal_28 (by decide) (fun c28 => ?_) (fun c28 => ?_)
        · have h := br_0 h c28
          refine lv_aload_n hx hb dX5_eveningRefusal_34 rfl (lv_at hl 0 rfl) ?_
          refine lv_iload_n hx hb dX5_eveningRefusal_35 rfl (lv_at hl 2 rfl) ?_
          obtain ⟨r36, hc, h⟩ := bd1_some h
          refine my_roi (va_Run.run (va_runV (As := [.int x2]) (rest := []) hFix (kX5_eveningFinding l D T F ad rs rm ts tm rdue rtun rsee rbeg psize pclause peff pkin pgri psig psee qsize qclause qeff qkin qgri qsig qsee cdee cnow cahe kdee know kahe fc lf told up lo x2 r36 hc) (cwV 1 hts gX5_eveningRefusal_X5_eveningFinding rfl rfl rfl ⟨rfl, hd_X5_eveningFinding⟩ ⟨Nat.le_of_ble_eq_true rfl, Nat.le_of_ble_eq_true rfl⟩) (preV_ro hP hKK (va_recv hK hP (ci := 3) (q0 := 0) rfl wPW_0)) rfl rfl hl.1 rfl (lv_room (Nat.le_of_ble_eq_true rfl)) dX5_eveningRefusal_36 ⟨Nat.zero_le _, Nat.zero_le _⟩)) ?_
          refine lv_istore_n (lv' := [(3, .int r36), (0, .ref (ad 0)), (1, .int x1), (2, .int x2)]) hx hb dX5_eveningRefusal_39 rfl hl (by decide) rfl (fun ls hl => ?_)
          refine lv_iload_n hx hb dX5_eveningRefusal_40 rfl (lv_at hl 0 rfl) ?_
          refine lv_if_ne (tgt := 48) hx hb dX5_eveningRefusal_41 (by decide) (fun c41 => ?_) (fun c41 => ?_)
          · have h := br_0 h c41
            refine lv_aload_n hx hb dX5_eveningRefusal_48 rfl (lv_at hl 1 rfl) ?_
            refine lv_iload_n hx hb dX5_eveningRefusal_49 rfl (lv_at hl 0 rfl) ?_
            obtain ⟨r50, w50_fc, w50_lf, hc, h⟩ := bd3_some h
            have hFc := my_freeS hD hS hA
            refine my_rwi (va_runV (As := [.int r36]) (rest := []) hFix (kX5_found l D T F ad rs rm ts tm rdue rtun rsee rbeg psize pclause peff pkin pgri psig psee qsize qclause qeff qkin qgri qsig qsee cdee cnow cahe kdee know kahe fc lf told up lo r36 r50 w50_fc w50_lf hc _) (cwV 1 hts gX5_eveningRefusal_X5_found rfl rfl rfl ⟨rfl, hd_X5_found⟩ ⟨Nat.le_of_ble_eq_true rfl, Nat.le_of_ble_eq_true rfl⟩) (preV_rw hP hKK hD (va_recv hK hP (ci := 3) (q0 := 0) rfl wPW_0)) rfl rfl hl.1 rfl (lv_room (Nat.le_of_ble_eq_true rfl)) dX5_eveningRefusal_50 ⟨Nat.zero_le _, Nat.zero_le _⟩) hS hFc (fun H1 locs hP1 hD1 hz1 hkk hS => ?_)
            have hP : va_P D vwCl (wPW T ad (ad 6) (ad 12) rs rm ts tm rdue rtun rsee rbeg psize pclause peff pkin pgri psig psee qsize qclause qeff qkin qgri qsig qsee cdee cnow cahe kdee know kahe w50_fc w50_lf told up lo) H1 := hP1
            have hD : va_D A (wPW T ad (ad 6) (ad 12) rs rm ts tm rdue rtun rsee rbeg psize pclause peff pkin pgri psig psee qsize qclause qeff qkin qgri qsig qsee cdee cnow cahe kdee know kahe w50_fc w50_lf told up lo) := hD1.weaken (fun _ q _ h => hFc q.1 h)
            generalize H1 = H at hP hS ⊢
            cases h
            exact hret _ _ _ _ hP hD hS dX5_eveningRefusal_53
          · have h := br_1 h c41
            refine lv_iconst (v := (0 : Int32)) hx hb dX5_eveningRefusal_44 (by decide) ?_
            refine lv_goto (tgt := 53) hx hb dX5_eveningRefusal_45 (by decide) ?_
            cases h
            exact hret _ _ _ _ hP hD hS dX5_eveningRefusal_53
        · have h := br_1 h c28
          refine lv_bipush (v := (-4 : Int32)) hx hb dX5_eveningRefusal_31 (by decide) ?_
          cases h
          exact hret _ _ _ _ hP hD hS dX5_eveningRefusal_33
      · have h := br_1 h c12
        refine lv_iconst (v := (-1 : Int32)) hx hb dX5_eveningRefusal_15 (by decide) ?_
        cases h
        exact hret _ _ _ _ hP hD hS dX5_eveningRefusal_16
  exact key _ (fun H locs pc ls hP hD hS hd => W.iret hx hb hr (fun t ht hW => ⟨⟨_, (), rfl, rfl, by show _ ∧ _; rw [ht]; exact ⟨hP, hD⟩⟩, hS.F ht⟩) hS.2.2 hd)
set_option maxHeartbeats 4000000 in
set_option maxRecDepth 100000 in
theorem kX5_kinds (l : Launch) (D : va_G) (T : Nat → ClassId) (F : Nat) (ad : Nat → Nat) (rs : Nat → Int32) (rm : Nat → Nat → Int32) (ts : Nat → Int32) (tm : Nat → Nat → Int32) (rdue : Int32) (rtun : Int32) (rsee : Int32) (rbeg : Int32) (psize : Int32) (pclause : Int32) (peff : Nat → Int32) (pkin : Nat → Int32) (pgri : Nat → Int32) (psig : Nat → Int32) (psee : Nat → Int32) (qsize : Int32) (qclause : Int32) (qeff : Nat → Int32) (qkin : Nat → Int32) (qgri : Nat → Int32) (qsig : Nat → Int32) (qsee : Nat → Int32) (cdee : Int32) (cnow : Int64) (cahe : Nat → Int64) (kdee : Nat → Int32) (know : Nat → Int64) (kahe : Nat → Nat → Int64) (fc : Nat → Int32) (lf : Int32) (told : Int32) (up : Int64) (lo : Int64) (x1 : Int32) (x2 : Int32) (r : Int32) (zfc : Nat → Int32) (zlf : Int32) (h : fX5_kinds F rs rm psize peff cnow fc lf x1 x2 = some (r, zfc, zlf)) : ∀ sz : Nat, Met l yX5_kinds wsX5_kinds ({ frames := 4, cells := 0, slots := 0, locals := 101 } : Room) (va_Pc [.ref (ad 0), .int x1, .int x2] (fun U => U.heap.size = sz ∧ va_P D vwCl (wPW T ad (ad 6) (ad 12) rs rm ts tm rdue rtun rsee rbeg psize pclause peff pkin pgri psig psee qsize qclause qeff qkin qgri qsig qsee cdee cnow cahe kdee know kahe fc lf told up lo) U.heap ∧ KK D T U ∧ va_D (fun _ => True) (wPW T ad (ad 6) (ad 12) rs rm ts tm rdue rtun rsee rbeg psize pclause peff pkin pgri psig psee qsize qclause qeff qkin qgri qsig qsee cdee cnow cahe kdee know kahe fc lf told up lo))) (va_Qi (fun r' (_ : Unit) => r' = r) (fun _ t => va_P D vwCl (wPW T ad (ad 6) (ad 12) rs rm ts tm rdue rtun rsee rbeg psize pclause peff pkin pgri psig psee qsize qclause qeff qkin qgri qsig qsee cdee cnow cahe kdee know kahe zfc zlf told up lo) t.heap ∧ va_D (va_A (wPW T ad (ad 6) (ad 12) rs rm ts tm rdue rtun rsee rbeg psize pclause peff pkin pgri psig psee qsize qclause qeff qkin qgri qsig qsee cdee cnow cahe kdee know kahe fc lf told up lo) sz) (wPW T ad (ad 6) (ad 12) rs rm ts tm rdue rtun rsee rbeg psize pclause peff pkin pgri psig psee qsize qclause qeff qkin qgri qsig qsee cdee cnow cahe kdee know kahe zfc zlf told up lo)) (va_A (wPW T ad (ad 6) (ad 12) rs rm ts tm rdue rtun rsee rbeg psize pclause peff pkin pgri psig psee qsize qclause qeff qkin qgri qsig qsee cdee cnow cahe kdee know kahe fc lf told up lo) sz)) 0 0 (va_A (wPW T ad (ad 6) (ad 12) rs rm ts tm rdue rtun rsee rbeg psize pclause peff pkin pgri psig psee qsize qclause qeff qkin qgri qsig qsee cdee cnow cahe kdee know kahe fc lf told up lo) sz) := by
  intro sz
  refine Met.ofW (cc := cX5_kinds) (maxL := 7) (ret := some .int) (by decide) rfl ?_
  intro p e s m args below meth c s₁ B hml hv
  obtain ⟨ha, hsz, hP, hKK, hD0⟩ := hv
  have hx := B.exec
  have hb := B.bytes
  have hr := B.returns
  have hts := atoms_spec (ws := wsX5_kinds) B.pre
  have hown : s.vm.findClass RX5 = some m.cls := findClass_of_methodNamed B.named
  have hlocks := B.notSynchronized
  have hK := hKK.1
  have hFix : CallFix p m c cX5_kinds 7 s args wsX5_kinds RX5 := ⟨hx, hb, hml, hown, hts⟩
  have q1 := hts _ (List.mem_of_getElem? (i := 1) (show wsX5_kinds[1]? = some (Cond.fieldLink RX5 46 "PartyWill" "course" "LPartyWill$Course;") from rfl))
  have q2 := hts _ (List.mem_of_getElem? (i := 2) (show wsX5_kinds[2]? = some (Cond.fieldLink RX5 36 "PartyWill" "party" "LPartyWill$Party;") from rfl))
  have q3 := hts _ (List.mem_of_getElem? (i := 3) (show wsX5_kinds[3]? = some (Cond.fieldLink RX5 11 "PartyWill" "rows" "[[I") from rfl))
  have q4 := hts _ (List.mem_of_getElem? (i := 4) (show wsX5_kinds[4]? = some (Cond.fieldLink RX5 14 "PartyWill" "rowSizes" "[I") from rfl))
  have q18 := hts _ (List.mem_of_getElem? (i := 18) (show wsX5_kinds[18]? = some (Cond.initialized RX1) from rfl))
  have q36 := hts _ (List.mem_of_getElem? (i := 36) (show wsX5_kinds[36]? = some (Cond.static yX1_griefOf) from rfl))
  have q39 := hts _ (List.mem_of_getElem? (i := 39) (show wsX5_kinds[39]? = some (Cond.instanceMethod yX2_wentSo) from rfl))
  have q40 := hts _ (List.mem_of_getElem? (i := 40) (show wsX5_kinds[40]? = some (Cond.initialized RX2) from rfl))
  have q41 := hts _ (List.mem_of_getElem? (i := 41) (show wsX5_kinds[41]? = some (Cond.selects RX2 yX2_wentSo yX2_wentSo) from rfl))
  have iX0 : ∀ w ∈ u_ws RX0 TX0 3, w ∈ wsX5_kinds := fun w h => List.mem_cons_of_mem _ (List.mem_append_left _ (List.mem_append_right _ (h)))
  have iX5 : ∀ w ∈ u_ws RX5 TX5 14, w ∈ wsX5_kinds := fun w h => List.mem_cons_of_mem _ (List.mem_append_left _ (List.mem_append_left _ (List.mem_append_right _ (h))))
  subst hsz
  have hD := hD0.self (sz := s.heap.size)
  generalize hAe : va_A (wPW T ad (ad 6) (ad 12) rs rm ts tm rdue rtun rsee rbeg psize pclause peff pkin pgri psig psee qsize qclause qeff qkin qgri qsig qsee cdee cnow cahe kdee know kahe fc lf told up lo) s.heap.size = A at hD ⊢
  have hA : ∀ q : Nat, s.heap.size ≤ q → A q := fun q h => by rw [← hAe]; exact Or.inr h
  have hS : va_S A s.heap s.heap [] := va_S.rf
  have hP : va_P D vwCl (wPW T ad (ad 6) (ad 12) rs rm ts tm rdue rtun rsee rbeg psize pclause peff pkin pgri psig psee qsize qclause qeff qkin qgri qsig qsee cdee cnow cahe kdee know kahe fc lf told up lo) s.heap := hP
  obtain ⟨ls, hl, e0⟩ := my_entry (m := m) (n := 7) ha (Nat.le_of_ble_eq_true rfl)
  rw [e0]
  have hl : lv_has ls 7 [(0, .ref (ad 0)), (1, .int x1), (2, .int x2)] := hl
  have key : ∀ Q : State → Prop, (∀ (H : Heap) (locs : List Loc) (pc : Nat) (ls : Array Slot), va_P D vwCl (wPW T ad (ad 6) (ad 12) rs rm ts tm rdue rtun rsee rbeg psize pclause peff pkin pgri psig psee qsize qclause qeff qkin qgri qsig qsee cdee cnow cahe kdee know kahe zfc zlf told up lo) H → va_D A (wPW T ad (ad 6) (ad 12) rs rm ts tm rdue rtun rsee rbeg psize pclause peff pkin pgri psig psee qsize qclause qeff qkin qgri qsig qsee cdee cnow cahe kdee know kahe zfc zlf told up lo) → va_S A s.heap H locs → decode cX5_kinds pc = .ok (.ireturn, 1) → W p l e ({ frames := 4, cells := 0, slots := 0, locals := 101 } : Room) s m args below meth c H locs 0 0 Q (F0 m pc ls [.int r])) → W p l e ({ frames := 4, cells := 0, slots := 0, locals := 101 } : Room) s m args below meth c s.heap [] 0 0 Q (F0 m 0 ls []) := by
    intro Q hret
    skip
    have l32 : ∀ x2 : Int32, ∀ x4 : Int32, ∀ fc : Nat → Int32, ∀ lf : Int32, ∀ nu : Nat, ∀ x5 : Int32, ∀ x6 : Int32, fX5_kinds_l32 F rs rm psize peff cnow x2 x4 fc lf nu x5 x6 = some (r, zfc, zlf) → ∀ (H : Heap) (locs : List Loc), va_P D vwCl (wPW T ad (ad 6) (ad 12) rs rm ts tm rdue rtun rsee rbeg psize pclause peff pkin pgri psig psee qsize qclause qeff qkin qgri qsig qsee cdee cnow cahe kdee know kahe fc lf told up lo) H → va_D A (wPW T ad (ad 6) (ad 12) rs rm ts tm rdue rtun rsee rbeg psize pclause peff pkin pgri psig psee qsize qclause qeff qkin qgri qsig qsee cdee cnow cahe kdee know kahe fc lf told up lo) → va_S A s.heap H locs → ∀ (ls : Array Slot), lv_has ls 7 [(0, .ref (ad 0)), (2, .int x2), (4, .int x4), (5, .int x5), (6, .int x6)] → W p l e ({ frames := 4, cells := 0, slots := 0, locals := 101 } : Room) s m args below meth c H locs 0 0 Q (F0 m 32 ls []) := by
      intro x2 x4 fc lf
      intro nu
      induction nu with
      | zero => intro x5 x6 h; exact none_some h
      | succ nu32 ih32 =>
        intro x5 x6 h H locs hP hD hS ls hl
        have h : fX5_kinds_l32_b F rs rm psize peff cnow x2 x4 fc lf (fX5_kinds_l32 F rs rm psize peff cnow x2 x4 fc lf nu32) x5 x6 = some (r, zfc, zlf) := h
        unfold fX5_kinds_l32_b at h
        refine lv_iload hx hb dX5_kinds_32 (lv_at hl 4 rfl) ?_
        refine lv_bipush (v := (6 : Int32)) hx hb dX5_kinds_34 (by decide) ?_
        refine lv_icmp_ge (tgt := 80) hx hb dX5_kinds_36 (by decide) (fun c36 => ?_) (fun c36 => ?_)
        · have h := br_1 h c36
          refine lv_iload hx hb dX5_kinds_80 (lv_at hl 3 rfl) ?_
          cases h
          exact hret _ _ _ _ hP hD hS dX5_kinds_82
        · have h := br_0 h c36
          refine lv_aload_n hx hb dX5_kinds_39 rfl (lv_at hl 0 rfl) ?_
          refine va_get (D := D) (ci := 3) (C := RX5) (T := TX5) (N := 14) hx hb hts iX5 hown hK hP 0 wPW_0 rfl 5 (by decide) q2 (fun _ h9 => h9) rfl dX5_kinds_40 ?_
          refine lv_iload hx hb dX5_kinds_43 (lv_at hl 4 rfl) ?_
          refine lv_iload hx hb dX5_kinds_45 (lv_at hl 2 rfl) ?_
          refine lv_aload_n hx hb dX5_kinds_47 rfl (lv_at hl 0 rfl) ?_
          refine va_get (D := D) (ci := 3) (C := RX5) (T := TX5) (N := 14) hx hb hts iX5 hown hK hP 0 wPW_0 rfl 0 (by decide) q3 (fun _ h9 => h9) rfl dX5_kinds_48 ?_
          refine lv_iload_n hx hb dX5_kinds_51 rfl (lv_at hl 1 rfl) ?_
          obtain ⟨hin2, h⟩ := ck_some h
          have hk1 : x2.toNatClampNeg < 6 := vp_lt hin2
          refine my_ald (b := (ad (28 + x2.toNatClampNeg))) rfl hx hb hK hP 1 4 wPW_1 rfl hin2 (fun _ => if_pos hk1) dX5_kinds_52 ?_
          refine lv_aload_n hx hb dX5_kinds_53 rfl (lv_at hl 0 rfl) ?_
          refine va_get (D := D) (ci := 3) (C := RX5) (T := TX5) (N := 14) hx hb hts iX5 hown hK hP 0 wPW_0 rfl 1 (by decide) q4 (fun _ h9 => h9) rfl dX5_kinds_54 ?_
          refine lv_iload_n hx hb dX5_kinds_57 rfl (lv_at hl 1 rfl) ?_
          obtain ⟨hin3, h⟩ := ck_some h
          refine va_iald hx hb hK hP 2 0 wPW_2 rfl hin3 dX5_kinds_58 ?_
          obtain ⟨r59, hc, h⟩ := bd1_some h
          have hPc : va_P D vwCl (wPaA T (ad 6) (ad 7) (ad 8) (ad 9) (ad 10) (ad 11) (ad (28 + x2.toNatClampNeg)) psize pclause peff pkin pgri psig psee (rm x2.toNatClampNeg)) _ := my_subP (sb_wPW_wPaA_6torows0 hk1) hP
          refine my_roz (va_Run.run (va_runVN (host := "PartyWill") (As := [.int x6, .int x4, .ref (ad (28 + x2.toNatClampNeg)), .int (rs x2.toNatClampNeg)]) (rest := []) hFix (kX2_wentSo l D T F (ad 6) (ad 7) (ad 8) (ad 9) (ad 10) (ad 11) (ad (28 + x2.toNatClampNeg)) psize pclause peff pkin pgri psig psee (rm x2.toNatClampNeg) x6 x4 (rs x2.toNatClampNeg) r59 hc) ⟨va_cnB 4 hts gX5_kinds_X2_wentSo_n235 rfl rfl rfl (nw_X5_235 hKK.2) q40 hd_X2_wentSo ⟨Nat.le_of_ble_eq_true rfl, Nat.le_of_ble_eq_true rfl⟩, q39, q41⟩ (preV_ro hPc hKK (va_recv hK hP (ci := 1) (q0 := 6) rfl wPW_6)) rfl rfl hl.1 rfl (lv_room (Nat.le_of_ble_eq_true rfl)) dX5_kinds_59 ⟨Nat.zero_le _, Nat.zero_le _⟩)) (fun hb59 => ?_)
          refine lv_if_eq (tgt := 74) hx hb dX5_kinds_62 (by decide) (fun c62 => ?_) (fun c62 => ?_)
          · have h := br_1 h c62
            refine lv_iinc (v := (x6 + (1 : Int32))) (lv' := [(6, .int (x6 + (1 : Int32))), (0, .ref (ad 0)), (2, .int x2), (4, .int x4), (5, .int x5)]) hx hb dX5_kinds_74 hl (k := 4) rfl rfl (by decide) rfl (fun ls hl => ?_)
            refine lv_goto (tgt := 32) hx hb dX5_kinds_77 (by decide) ?_
            exact ih32 x5 (x6 + (1 : Int32)) h _ _ hP hD hS _ (lv_sub hl [1, 2, 3, 4, 0] rfl)
          · have h := br_0 h c62
            refine lv_iload hx hb dX5_kinds_65 (lv_at hl 3 rfl) ?_
            refine lv_iconst (v := (1 : Int32)) hx hb dX5_kinds_67 (by decide) ?_
            refine lv_iload hx hb dX5_kinds_68 (lv_at hl 4 rfl) ?_
            refine lv_ishl hx hb dX5_kinds_70 ?_
            refine lv_ior hx hb dX5_kinds_71 ?_
            refine lv_istore (lv' := [(5, .int (x5 ||| ((1 : Int32) <<< (x6 &&& 31)))), (0, .ref (ad 0)), (2, .int x2), (4, .int x4), (6, .int x6)]) hx hb dX5_kinds_72 hl (by decide) rfl (fun ls hl => ?_)
            refine lv_iinc (v := (x6 + (1 : Int32))) (lv' := [(6, .int (x6 + (1 : Int32))), (5, .int (x5 ||| ((1 : Int32) <<< (x6 &&& 31)))), (0, .ref (ad 0)), (2, .int x2), (4, .int x4)]) hx hb dX5_kinds_74 hl (k := 4) rfl rfl (by decide) rfl (fun ls hl => ?_)
            refine lv_goto (tgt := 32) hx hb dX5_kinds_77 (by decide) ?_
            exact ih32 (x5 ||| ((1 : Int32) <<< (x6 &&& 31))) (x6 + (1 : Int32)) h _ _ hP hD hS _ (lv_sub hl [2, 3, 4, 1, 0] rfl)
    unfold fX5_kinds at h
    refine lv_aload_n hx hb dX5_kinds_0 rfl (lv_at hl 0 rfl) ?_
    refine lv_iload_n hx hb dX5_kinds_1 rfl (lv_at hl 1 rfl) ?_
    refine lv_iload_n hx hb dX5_kinds_2 rfl (lv_at hl 2 rfl) ?_
    obtain ⟨r3, w3_fc, w3_lf, hc, h⟩ := bd3_some h
    have hFc := my_freeS hD hS hA
    refine my_rwi (va_runV (As := [.int x1, .int x2]) (rest := []) hFix (kX5_eveningRefusal l D T F ad rs rm ts tm rdue rtun rsee rbeg psize pclause peff pkin pgri psig psee qsize qclause qeff qkin qgri qsig qsee cdee cnow cahe kdee know kahe fc lf told up lo x1 x2 r3 w3_fc w3_lf hc _) (cwV 2 hts gX5_kinds_X5_eveningRefusal rfl rfl rfl ⟨rfl, hd_X5_eveningRefusal⟩ ⟨Nat.le_of_ble_eq_true rfl, Nat.le_of_ble_eq_true rfl⟩) (preV_rw hP hKK hD (va_recv hK hP (ci := 3) (q0 := 0) rfl wPW_0)) rfl rfl hl.1 rfl (lv_room (Nat.le_of_ble_eq_true rfl)) dX5_kinds_3 ⟨Nat.zero_le _, Nat.zero_le _⟩) hS hFc (fun H1 locs hP1 hD1 hz1 hkk hS => ?_)
    have hP : va_P D vwCl (wPW T ad (ad 6) (ad 12) rs rm ts tm rdue rtun rsee rbeg psize pclause peff pkin pgri psig psee qsize qclause qeff qkin qgri qsig qsee cdee cnow cahe kdee know kahe w3_fc w3_lf told up lo) H1 := hP1
    have hD : va_D A (wPW T ad (ad 6) (ad 12) rs rm ts tm rdue rtun rsee rbeg psize pclause peff pkin pgri psig psee qsize qclause qeff qkin qgri qsig qsee cdee cnow cahe kdee know kahe w3_fc w3_lf told up lo) := hD1.weaken (fun _ q _ h => hFc q.1 h)
    generalize H1 = H at hP hS ⊢
    refine lv_istore_n (lv' := [(3, .int r3), (0, .ref (ad 0)), (1, .int x1), (2, .int x2)]) hx hb dX5_kinds_6 rfl hl (by decide) rfl (fun ls hl => ?_)
    refine lv_iload_n hx hb dX5_kinds_7 rfl (lv_at hl 0 rfl) ?_
    refine lv_if_eq (tgt := 13) hx hb dX5_kinds_8 (by decide) (fun c8 => ?_) (fun c8 => ?_)
    · have h := br_1 h c8
      refine lv_aload_n hx hb dX5_kinds_13 rfl (lv_at hl 1 rfl) ?_
      refine va_get (D := D) (ci := 3) (C := RX5) (T := TX5) (N := 14) hx hb hts iX5 hown hK hP 0 wPW_0 rfl 7 (by decide) q1 (fun _ h9 => h9) rfl dX5_kinds_14 ?_
      refine va_getN (host := "PartyWill") (D := D) (ci := 0) (C := RX0) (T := TX0) (N := 3) hx hb hts iX0 hown hK hP 18 wPW_18 rfl 1 (by decide) (va_Nw.use rfl (nw_X5_127 hKK.2)) (fun _ h9 => h9) rfl dX5_kinds_17 ?_
      refine lv_iload_n hx hb dX5_kinds_20 rfl (lv_at hl 2 rfl) ?_
      obtain ⟨r21, hc, h⟩ := bd1_some h
      refine my_roi (va_Run.run (va_runSN (host := "PartyWill") (As := [.long cnow, .int x1]) (rest := []) hFix (kX1_griefOf l D T F cnow x1 r21 hc) ⟨va_cnB 2 hts gX5_kinds_X1_griefOf_n175 rfl rfl rfl (nw_X5_175 hKK.2) q18 hd_X1_griefOf ⟨Nat.le_of_ble_eq_true rfl, Nat.le_of_ble_eq_true rfl⟩, q36, trivial⟩ (preS_ro va_nil hKK) rfl rfl hl.1 rfl (lv_room (Nat.le_of_ble_eq_true rfl)) dX5_kinds_21 ⟨Nat.zero_le _, Nat.zero_le _⟩)) ?_
      refine lv_istore (lv' := [(4, .int r21), (3, .int r3), (0, .ref (ad 0)), (1, .int x1), (2, .int x2)]) hx hb dX5_kinds_24 hl (by decide) rfl (fun ls hl => ?_)
      refine lv_iconst (v := (0 : Int32)) hx hb dX5_kinds_26 (by decide) ?_
      refine lv_istore (lv' := [(5, .int (0 : Int32)), (4, .int r21), (3, .int r3), (0, .ref (ad 0)), (1, .int x1), (2, .int x2)]) hx hb dX5_kinds_27 hl (by decide) rfl (fun ls hl => ?_)
      refine lv_iconst (v := (0 : Int32)) hx hb dX5_kinds_29 (by decide) ?_
      refine lv_istore (lv' := [(6, .int (0 : Int32)), (5, .int (0 : Int32)), (4, .int r21), (3, .int r3), (0, .ref (ad 0)), (1, .int x1), (2, .int x2)]) hx hb dX5_kinds_30 hl (by decide) rfl (fun ls hl => ?_)
      exact l32 x2 r21 w3_fc w3_lf F (0 : Int32) (0 : Int32) h _ _ hP hD hS _ (lv_sub hl [4, 6, 2, 1, 0] rfl)
    · have h := br_0 h c8
      refine lv_iload_n hx hb dX5_kinds_11 rfl (lv_at hl 0 rfl) ?_
      cases h
      exact hret _ _ _ _ hP hD hS dX5_kinds_12
  exact key _ (fun H locs pc ls hP hD hS hd => W.iret hx hb hr (fun t ht hW => ⟨⟨_, (), rfl, rfl, by show _ ∧ _; rw [ht]; exact ⟨hP, hD⟩⟩, hS.F ht⟩) hS.2.2 hd)
set_option maxHeartbeats 4000000 in
set_option maxRecDepth 100000 in
theorem kX5_came (l : Launch) (D : va_G) (T : Nat → ClassId) (F : Nat) (ad : Nat → Nat) (rs : Nat → Int32) (rm : Nat → Nat → Int32) (ts : Nat → Int32) (tm : Nat → Nat → Int32) (rdue : Int32) (rtun : Int32) (rsee : Int32) (rbeg : Int32) (psize : Int32) (pclause : Int32) (peff : Nat → Int32) (pkin : Nat → Int32) (pgri : Nat → Int32) (psig : Nat → Int32) (psee : Nat → Int32) (qsize : Int32) (qclause : Int32) (qeff : Nat → Int32) (qkin : Nat → Int32) (qgri : Nat → Int32) (qsig : Nat → Int32) (qsee : Nat → Int32) (cdee : Int32) (cnow : Int64) (cahe : Nat → Int64) (kdee : Nat → Int32) (know : Nat → Int64) (kahe : Nat → Nat → Int64) (fc : Nat → Int32) (lf : Int32) (told : Int32) (up : Int64) (lo : Int64) (x1 : Int32) (x2 : Int32) (r : Int32) (zfc : Nat → Int32) (zlf : Int32) (h : fX5_came F rs rm psize peff pkin cnow fc lf x1 x2 = some (r, zfc, zlf)) : ∀ sz : Nat, Met l yX5_came wsX5_came ({ frames := 4, cells := 0, slots := 0, locals := 101 } : Room) (va_Pc [.ref (ad 0), .int x1, .int x2] (fun U => U.heap.size = sz ∧ va_P D vwCl (wPW T ad (ad 6) (ad 12) rs rm ts tm rdue rtun rsee rbeg psize pclause peff pkin pgri psig psee qsize qclause qeff qkin qgri qsig qsee cdee cnow cahe kdee know kahe fc lf told up lo) U.heap ∧ KK D T U ∧ va_D (fun _ => True) (wPW T ad (ad 6) (ad 12) rs rm ts tm rdue rtun rsee rbeg psize pclause peff pkin pgri psig psee qsize qclause qeff qkin qgri qsig qsee cdee cnow cahe kdee know kahe fc lf told up lo))) (va_Qi (fun r' (_ : Unit) => r' = r) (fun _ t => va_P D vwCl (wPW T ad (ad 6) (ad 12) rs rm ts tm rdue rtun rsee rbeg psize pclause peff pkin pgri psig psee qsize qclause qeff qkin qgri qsig qsee cdee cnow cahe kdee know kahe zfc zlf told up lo) t.heap ∧ va_D (va_A (wPW T ad (ad 6) (ad 12) rs rm ts tm rdue rtun rsee rbeg psize pclause peff pkin pgri psig psee qsize qclause qeff qkin qgri qsig qsee cdee cnow cahe kdee know kahe fc lf told up lo) sz) (wPW T ad (ad 6) (ad 12) rs rm ts tm rdue rtun rsee rbeg psize pclause peff pkin pgri psig psee qsize qclause qeff qkin qgri qsig qsee cdee cnow cahe kdee know kahe zfc zlf told up lo)) (va_A (wPW T ad (ad 6) (ad 12) rs rm ts tm rdue rtun rsee rbeg psize pclause peff pkin pgri psig psee qsize qclause qeff qkin qgri qsig qsee cdee cnow cahe kdee know kahe fc lf told up lo) sz)) 0 0 (va_A (wPW T ad (ad 6) (ad 12) rs rm ts tm rdue rtun rsee rbeg psize pclause peff pkin pgri psig psee qsize qclause qeff qkin qgri qsig qsee cdee cnow cahe kdee know kahe fc lf told up lo) sz) := by
  intro sz
  refine Met.ofW (cc := cX5_came) (maxL := 6) (ret := some .int) (by decide) rfl ?_
  intro p e s m args below meth c s₁ B hml hv
  obtain ⟨ha, hsz, hP, hKK, hD0⟩ := hv
  have hx := B.exec
  have hb := B.bytes
  have hr := B.returns
  have hts := atoms_spec (ws := wsX5_came) B.pre
  have hown : s.vm.findClass RX5 = some m.cls := findClass_of_methodNamed B.named
  have hlocks := B.notSynchronized
  have hK := hKK.1
  have hFix : CallFix p m c cX5_came 6 s args wsX5_came RX5 := ⟨hx, hb, hml, hown, hts⟩
  have q1 := hts _ (List.mem_of_getElem? (i := 1) (show wsX5_came[1]? = some (Cond.fieldLink RX5 36 "PartyWill" "party" "LPartyWill$Party;") from rfl))
  have q2 := hts _ (List.mem_of_getElem? (i := 2) (show wsX5_came[2]? = some (Cond.fieldLink RX5 11 "PartyWill" "rows" "[[I") from rfl))
  have q3 := hts _ (List.mem_of_getElem? (i := 3) (show wsX5_came[3]? = some (Cond.fieldLink RX5 14 "PartyWill" "rowSizes" "[I") from rfl))
  have q36 := hts _ (List.mem_of_getElem? (i := 36) (show wsX5_came[36]? = some (Cond.instanceMethod yX2_wentSo) from rfl))
  have q37 := hts _ (List.mem_of_getElem? (i := 37) (show wsX5_came[37]? = some (Cond.initialized RX2) from rfl))
  have q38 := hts _ (List.mem_of_getElem? (i := 38) (show wsX5_came[38]? = some (Cond.selects RX2 yX2_wentSo yX2_wentSo) from rfl))
  have iX2 : ∀ w ∈ u_ws RX2 TX2 7, w ∈ wsX5_came := fun w h => List.mem_cons_of_mem _ (List.mem_append_left _ (List.mem_append_right _ (h)))
  have iX5 : ∀ w ∈ u_ws RX5 TX5 14, w ∈ wsX5_came := fun w h => List.mem_cons_of_mem _ (List.mem_append_left _ (List.mem_append_left _ (List.mem_append_right _ (h))))
  subst hsz
  have hD := hD0.self (sz := s.heap.size)
  generalize hAe : va_A (wPW T ad (ad 6) (ad 12) rs rm ts tm rdue rtun rsee rbeg psize pclause peff pkin pgri psig psee qsize qclause qeff qkin qgri qsig qsee cdee cnow cahe kdee know kahe fc lf told up lo) s.heap.size = A at hD ⊢
  have hA : ∀ q : Nat, s.heap.size ≤ q → A q := fun q h => by rw [← hAe]; exact Or.inr h
  have hS : va_S A s.heap s.heap [] := va_S.rf
  have hP : va_P D vwCl (wPW T ad (ad 6) (ad 12) rs rm ts tm rdue rtun rsee rbeg psize pclause peff pkin pgri psig psee qsize qclause qeff qkin qgri qsig qsee cdee cnow cahe kdee know kahe fc lf told up lo) s.heap := hP
  obtain ⟨ls, hl, e0⟩ := my_entry (m := m) (n := 6) ha (Nat.le_of_ble_eq_true rfl)
  rw [e0]
  have hl : lv_has ls 6 [(0, .ref (ad 0)), (1, .int x1), (2, .int x2)] := hl
  have key : ∀ Q : State → Prop, (∀ (H : Heap) (locs : List Loc) (pc : Nat) (ls : Array Slot), va_P D vwCl (wPW T ad (ad 6) (ad 12) rs rm ts tm rdue rtun rsee rbeg psize pclause peff pkin pgri psig psee qsize qclause qeff qkin qgri qsig qsee cdee cnow cahe kdee know kahe zfc zlf told up lo) H → va_D A (wPW T ad (ad 6) (ad 12) rs rm ts tm rdue rtun rsee rbeg psize pclause peff pkin pgri psig psee qsize qclause qeff qkin qgri qsig qsee cdee cnow cahe kdee know kahe zfc zlf told up lo) → va_S A s.heap H locs → decode cX5_came pc = .ok (.ireturn, 1) → W p l e ({ frames := 4, cells := 0, slots := 0, locals := 101 } : Room) s m args below meth c H locs 0 0 Q (F0 m pc ls [.int r])) → W p l e ({ frames := 4, cells := 0, slots := 0, locals := 101 } : Room) s m args below meth c s.heap [] 0 0 Q (F0 m 0 ls []) := by
    intro Q hret
    skip
    have l19 : ∀ x1 : Int32, ∀ x2 : Int32, ∀ fc : Nat → Int32, ∀ lf : Int32, ∀ nu : Nat, ∀ x4 : Int32, ∀ x5 : Int32, fX5_came_l19 F rs rm psize peff pkin cnow x1 x2 fc lf nu x4 x5 = some (r, zfc, zlf) → ∀ (H : Heap) (locs : List Loc), va_P D vwCl (wPW T ad (ad 6) (ad 12) rs rm ts tm rdue rtun rsee rbeg psize pclause peff pkin pgri psig psee qsize qclause qeff qkin qgri qsig qsee cdee cnow cahe kdee know kahe fc lf told up lo) H → va_D A (wPW T ad (ad 6) (ad 12) rs rm ts tm rdue rtun rsee rbeg psize pclause peff pkin pgri psig psee qsize qclause qeff qkin qgri qsig qsee cdee cnow cahe kdee know kahe fc lf told up lo) → va_S A s.heap H locs → ∀ (ls : Array Slot), lv_has ls 6 [(0, .ref (ad 0)), (1, .int x1), (2, .int x2), (4, .int x4), (5, .int x5)] → W p l e ({ frames := 4, cells := 0, slots := 0, locals := 101 } : Room) s m args below meth c H locs 0 0 Q (F0 m 19 ls []) := by
      intro x1 x2 fc lf
      intro nu
      induction nu with
      | zero => intro x4 x5 h; exact none_some h
      | succ nu19 ih19 =>
        intro x4 x5 h H locs hP hD hS ls hl
        have h : fX5_came_l19_b F rs rm psize peff pkin cnow x1 x2 fc lf (fX5_came_l19 F rs rm psize peff pkin cnow x1 x2 fc lf nu19) x4 x5 = some (r, zfc, zlf) := h
        unfold fX5_came_l19_b at h
        refine lv_iload hx hb dX5_came_19 (lv_at hl 4 rfl) ?_
        refine lv_bipush (v := (20 : Int32)) hx hb dX5_came_21 (by decide) ?_
        refine lv_icmp_gt (tgt := 74) hx hb dX5_came_23 (by decide) (fun c23 => ?_) (fun c23 => ?_)
        · have h := br_1 h c23
          refine lv_iload hx hb dX5_came_74 (lv_at hl 3 rfl) ?_
          cases h
          exact hret _ _ _ _ hP hD hS dX5_came_76
        · have h := br_0 h c23
          refine lv_aload_n hx hb dX5_came_26 rfl (lv_at hl 0 rfl) ?_
          refine va_get (D := D) (ci := 3) (C := RX5) (T := TX5) (N := 14) hx hb hts iX5 hown hK hP 0 wPW_0 rfl 5 (by decide) q1 (fun _ h9 => h9) rfl dX5_came_27 ?_
          refine lv_aload_n hx hb dX5_came_30 rfl (lv_at hl 0 rfl) ?_
          refine va_get (D := D) (ci := 3) (C := RX5) (T := TX5) (N := 14) hx hb hts iX5 hown hK hP 0 wPW_0 rfl 5 (by decide) q1 (fun _ h9 => h9) rfl dX5_came_31 ?_
          refine va_getN (host := "PartyWill") (D := D) (ci := 1) (C := RX2) (T := TX2) (N := 7) hx hb hts iX2 hown hK hP 6 wPW_6 rfl 3 (by decide) (va_Nw.use rfl (nw_X5_120 hKK.2)) (fun _ h9 => h9) rfl dX5_came_34 ?_
          refine lv_iload_n hx hb dX5_came_37 rfl (lv_at hl 1 rfl) ?_
          obtain ⟨hin1, h⟩ := ck_some h
          refine va_iald hx hb hK hP 8 0 wPW_8 rfl hin1 dX5_came_38 ?_
          refine lv_iload hx hb dX5_came_39 (lv_at hl 4 rfl) ?_
          refine lv_aload_n hx hb dX5_came_41 rfl (lv_at hl 0 rfl) ?_
          refine va_get (D := D) (ci := 3) (C := RX5) (T := TX5) (N := 14) hx hb hts iX5 hown hK hP 0 wPW_0 rfl 0 (by decide) q2 (fun _ h9 => h9) rfl dX5_came_42 ?_
          refine lv_iload_n hx hb dX5_came_45 rfl (lv_at hl 2 rfl) ?_
          obtain ⟨hin3, h⟩ := ck_some h
          have hk2 : x2.toNatClampNeg < 6 := vp_lt hin3
          refine my_ald (b := (ad (28 + x2.toNatClampNeg))) rfl hx hb hK hP 1 4 wPW_1 rfl hin3 (fun _ => if_pos hk2) dX5_came_46 ?_
          refine lv_aload_n hx hb dX5_came_47 rfl (lv_at hl 0 rfl) ?_
          refine va_get (D := D) (ci := 3) (C := RX5) (T := TX5) (N := 14) hx hb hts iX5 hown hK hP 0 wPW_0 rfl 1 (by decide) q3 (fun _ h9 => h9) rfl dX5_came_48 ?_
          refine lv_iload_n hx hb dX5_came_51 rfl (lv_at hl 2 rfl) ?_
          obtain ⟨hin4, h⟩ := ck_some h
          refine va_iald hx hb hK hP 2 0 wPW_2 rfl hin4 dX5_came_52 ?_
          obtain ⟨r53, hc, h⟩ := bd1_some h
          have hPc : va_P D vwCl (wPaA T (ad 6) (ad 7) (ad 8) (ad 9) (ad 10) (ad 11) (ad (28 + x2.toNatClampNeg)) psize pclause peff pkin pgri psig psee (rm x2.toNatClampNeg)) _ := my_subP (sb_wPW_wPaA_6torows0 hk2) hP
          refine my_roz (va_Run.run (va_runVN (host := "PartyWill") (As := [.int (pkin x1.toNatClampNeg), .int x5, .ref (ad (28 + x2.toNatClampNeg)), .int (rs x2.toNatClampNeg)]) (rest := []) hFix (kX2_wentSo l D T F (ad 6) (ad 7) (ad 8) (ad 9) (ad 10) (ad 11) (ad (28 + x2.toNatClampNeg)) psize pclause peff pkin pgri psig psee (rm x2.toNatClampNeg) (pkin x1.toNatClampNeg) x5 (rs x2.toNatClampNeg) r53 hc) ⟨va_cnB 4 hts gX5_came_X2_wentSo_n235 rfl rfl rfl (nw_X5_235 hKK.2) q37 hd_X2_wentSo ⟨Nat.le_of_ble_eq_true rfl, Nat.le_of_ble_eq_true rfl⟩, q36, q38⟩ (preV_ro hPc hKK (va_recv hK hP (ci := 1) (q0 := 6) rfl wPW_6)) rfl rfl hl.1 rfl (lv_room (Nat.le_of_ble_eq_true rfl)) dX5_came_53 ⟨Nat.zero_le _, Nat.zero_le _⟩)) (fun hb53 => ?_)
          refine lv_if_eq (tgt := 68) hx hb dX5_came_56 (by decide) (fun c56 => ?_) (fun c56 => ?_)
          · have h := br_1 h c56
            refine lv_iinc (v := (x5 + (1 : Int32))) (lv' := [(5, .int (x5 + (1 : Int32))), (0, .ref (ad 0)), (1, .int x1), (2, .int x2), (4, .int x4)]) hx hb dX5_came_68 hl (k := 4) rfl rfl (by decide) rfl (fun ls hl => ?_)
            refine lv_goto (tgt := 19) hx hb dX5_came_71 (by decide) ?_
            exact ih19 x4 (x5 + (1 : Int32)) h _ _ hP hD hS _ (lv_sub hl [1, 2, 3, 4, 0] rfl)
          · have h := br_0 h c56
            refine lv_iload hx hb dX5_came_59 (lv_at hl 3 rfl) ?_
            refine lv_iconst (v := (1 : Int32)) hx hb dX5_came_61 (by decide) ?_
            refine lv_iload hx hb dX5_came_62 (lv_at hl 4 rfl) ?_
            refine lv_ishl hx hb dX5_came_64 ?_
            refine lv_ior hx hb dX5_came_65 ?_
            refine lv_istore (lv' := [(4, .int (x4 ||| ((1 : Int32) <<< (x5 &&& 31)))), (0, .ref (ad 0)), (1, .int x1), (2, .int x2), (5, .int x5)]) hx hb dX5_came_66 hl (by decide) rfl (fun ls hl => ?_)
            refine lv_iinc (v := (x5 + (1 : Int32))) (lv' := [(5, .int (x5 + (1 : Int32))), (4, .int (x4 ||| ((1 : Int32) <<< (x5 &&& 31)))), (0, .ref (ad 0)), (1, .int x1), (2, .int x2)]) hx hb dX5_came_68 hl (k := 4) rfl rfl (by decide) rfl (fun ls hl => ?_)
            refine lv_goto (tgt := 19) hx hb dX5_came_71 (by decide) ?_
            exact ih19 (x4 ||| ((1 : Int32) <<< (x5 &&& 31))) (x5 + (1 : Int32)) h _ _ hP hD hS _ (lv_sub hl [2, 3, 4, 1, 0] rfl)
    unfold fX5_came at h
    refine lv_aload_n hx hb dX5_came_0 rfl (lv_at hl 0 rfl) ?_
    refine lv_iload_n hx hb dX5_came_1 rfl (lv_at hl 1 rfl) ?_
    refine lv_iload_n hx hb dX5_came_2 rfl (lv_at hl 2 rfl) ?_
    obtain ⟨r3, w3_fc, w3_lf, hc, h⟩ := bd3_some h
    have hFc := my_freeS hD hS hA
    refine my_rwi (va_runV (As := [.int x1, .int x2]) (rest := []) hFix (kX5_eveningRefusal l D T F ad rs rm ts tm rdue rtun rsee rbeg psize pclause peff pkin pgri psig psee qsize qclause qeff qkin qgri qsig qsee cdee cnow cahe kdee know kahe fc lf told up lo x1 x2 r3 w3_fc w3_lf hc _) (cwV 2 hts gX5_came_X5_eveningRefusal rfl rfl rfl ⟨rfl, hd_X5_eveningRefusal⟩ ⟨Nat.le_of_ble_eq_true rfl, Nat.le_of_ble_eq_true rfl⟩) (preV_rw hP hKK hD (va_recv hK hP (ci := 3) (q0 := 0) rfl wPW_0)) rfl rfl hl.1 rfl (lv_room (Nat.le_of_ble_eq_true rfl)) dX5_came_3 ⟨Nat.zero_le _, Nat.zero_le _⟩) hS hFc (fun H1 locs hP1 hD1 hz1 hkk hS => ?_)
    have hP : va_P D vwCl (wPW T ad (ad 6) (ad 12) rs rm ts tm rdue rtun rsee rbeg psize pclause peff pkin pgri psig psee qsize qclause qeff qkin qgri qsig qsee cdee cnow cahe kdee know kahe w3_fc w3_lf told up lo) H1 := hP1
    have hD : va_D A (wPW T ad (ad 6) (ad 12) rs rm ts tm rdue rtun rsee rbeg psize pclause peff pkin pgri psig psee qsize qclause qeff qkin qgri qsig qsee cdee cnow cahe kdee know kahe w3_fc w3_lf told up lo) := hD1.weaken (fun _ q _ h => hFc q.1 h)
    generalize H1 = H at hP hS ⊢
    refine lv_istore_n (lv' := [(3, .int r3), (0, .ref (ad 0)), (1, .int x1), (2, .int x2)]) hx hb dX5_came_6 rfl hl (by decide) rfl (fun ls hl => ?_)
    refine lv_iload_n hx hb dX5_came_7 rfl (lv_at hl 0 rfl) ?_
    refine lv_if_eq (tgt := 13) hx hb dX5_came_8 (by decide) (fun c8 => ?_) (fun c8 => ?_)
    · have h := br_1 h c8
      refine lv_iconst (v := (0 : Int32)) hx hb dX5_came_13 (by decide) ?_
      refine lv_istore (lv' := [(4, .int (0 : Int32)), (3, .int r3), (0, .ref (ad 0)), (1, .int x1), (2, .int x2)]) hx hb dX5_came_14 hl (by decide) rfl (fun ls hl => ?_)
      refine lv_iconst (v := (0 : Int32)) hx hb dX5_came_16 (by decide) ?_
      refine lv_istore (lv' := [(5, .int (0 : Int32)), (4, .int (0 : Int32)), (3, .int r3), (0, .ref (ad 0)), (1, .int x1), (2, .int x2)]) hx hb dX5_came_17 hl (by decide) rfl (fun ls hl => ?_)
      exact l19 x1 x2 w3_fc w3_lf F (0 : Int32) (0 : Int32) h _ _ hP hD hS _ (lv_sub hl [3, 4, 5, 1, 0] rfl)
    · have h := br_0 h c8
      refine lv_iload_n hx hb dX5_came_11 rfl (lv_at hl 0 rfl) ?_
      cases h
      exact hret _ _ _ _ hP hD hS dX5_came_12
  exact key _ (fun H locs pc ls hP hD hS hd => W.iret hx hb hr (fun t ht hW => ⟨⟨_, (), rfl, rfl, by show _ ∧ _; rw [ht]; exact ⟨hP, hD⟩⟩, hS.F ht⟩) hS.2.2 hd)
