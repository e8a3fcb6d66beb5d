set_option maxHeartbeats 4000000 in
set_option maxRecDepth 100000 in
theorem kX5_upper (l : Launch) (D : va_G) (T : Nat → ClassId) (F : Nat) (ad : Nat → Nat) (rs : Nat → Int32) (rm : Nat → Nat → Int32) (ts : Nat → Int32) (tm : Nat → Nat → Int32) (rdue : Int32) (rtun : Int32) (rsee : Int32) (rbeg : Int32) (psize : Int32) (pclause : Int32) (peff : Nat → Int32) (pkin : Nat → Int32) (pgri : Nat → Int32) (psig : Nat → Int32) (psee : Nat → Int32) (qsize : Int32) (qclause : Int32) (qeff : Nat → Int32) (qkin : Nat → Int32) (qgri : Nat → Int32) (qsig : Nat → Int32) (qsee : Nat → Int32) (cdee : Int32) (cnow : Int64) (cahe : Nat → Int64) (kdee : Nat → Int32) (know : Nat → Int64) (kahe : Nat → Nat → Int64) (fc : Nat → Int32) (lf : Int32) (told : Int32) (up : Int64) (lo : Int64) (r : Int64) (h : fX5_upper F up = some (r)) : Met l yX5_upper wsX5_upper ({ frames := 0, cells := 0, slots := 0, locals := 0 } : Room) (va_Pc [.ref (ad 0)] (fun U => va_P D vwCl (wPW T ad (ad 6) (ad 12) rs rm ts tm rdue rtun rsee rbeg psize pclause peff pkin pgri psig psee qsize qclause qeff qkin qgri qsig qsee cdee cnow cahe kdee know kahe fc lf told up lo) U.heap ∧ KK D T U)) (vp_Sl (fun r' => r' = r)) 0 0 (fun _ => False) := by
  refine Met.ofW (cc := cX5_upper) (maxL := 1) (ret := some .long) (by decide) rfl ?_
  intro p e s m args below meth c s₁ B hml hv
  obtain ⟨ha, hP, hKK⟩ := hv
  have hx := B.exec
  have hb := B.bytes
  have hr := B.returns
  have hts := atoms_spec (ws := wsX5_upper) B.pre
  have hown : s.vm.findClass RX5 = some m.cls := findClass_of_methodNamed B.named
  have hlocks := B.notSynchronized
  have hK := hKK.1
  have hFix : CallFix p m c cX5_upper 1 s args wsX5_upper RX5 := ⟨hx, hb, hml, hown, hts⟩
  have q1 := hts _ (List.mem_of_getElem? (i := 1) (show wsX5_upper[1]? = some (Cond.fieldLink RX5 64 "PartyWill" "toldUpper" "J") from rfl))
  have iX5 : ∀ w ∈ u_ws RX5 TX5 14, w ∈ wsX5_upper := fun w h => List.mem_cons_of_mem _ (List.mem_append_right _ (h))
  obtain ⟨ls, hl, e0⟩ := my_entry (m := m) (n := 1) ha (Nat.le_of_ble_eq_true rfl)
  rw [e0]
  have hl : lv_has ls 1 [(0, .ref (ad 0))] := hl
  have key : ∀ Q : State → Prop, (∀ (pc : Nat) (ls : Array Slot), decode cX5_upper pc = .ok (.lreturn, 1) → W p l e ({ frames := 0, cells := 0, slots := 0, locals := 0 } : Room) s m args below meth c s.heap [] 0 0 Q (F0 m pc ls [.long r])) → W p l e ({ frames := 0, cells := 0, slots := 0, locals := 0 } : Room) s m args below meth c s.heap [] 0 0 Q (F0 m 0 ls []) := by
    intro Q hret
    unfold fX5_upper at h
    refine lv_aload_n hx hb dX5_upper_0 rfl (lv_at hl 0 rfl) ?_
    refine va_get (D := D) (ci := 3) (C := RX5) (T := TX5) (N := 14) hx hb hts iX5 hown hK hP 0 wPW_0 rfl 12 (by decide) q1 (fun _ h9 => h9) rfl dX5_upper_1 ?_
    cases h
    exact hret _ _ dX5_upper_4
  exact key _ (fun pc ls hd => W.lret hx hb hr (fun t ht hW => ⟨_, rfl, rfl, ht⟩) (fun q h => by cases h) hd)
set_option maxHeartbeats 4000000 in
set_option maxRecDepth 100000 in
theorem kX5_lower (l : Launch) (D : va_G) (T : Nat → ClassId) (F : Nat) (ad : Nat → Nat) (rs : Nat → Int32) (rm : Nat → Nat → Int32) (ts : Nat → Int32) (tm : Nat → Nat → Int32) (rdue : Int32) (rtun : Int32) (rsee : Int32) (rbeg : Int32) (psize : Int32) (pclause : Int32) (peff : Nat → Int32) (pkin : Nat → Int32) (pgri : Nat → Int32) (psig : Nat → Int32) (psee : Nat → Int32) (qsize : Int32) (qclause : Int32) (qeff : Nat → Int32) (qkin : Nat → Int32) (qgri : Nat → Int32) (qsig : Nat → Int32) (qsee : Nat → Int32) (cdee : Int32) (cnow : Int64) (cahe : Nat → Int64) (kdee : Nat → Int32) (know : Nat → Int64) (kahe : Nat → Nat → Int64) (fc : Nat → Int32) (lf : Int32) (told : Int32) (up : Int64) (lo : Int64) (r : Int64) (h : fX5_lower F lo = some (r)) : Met l yX5_lower wsX5_lower ({ frames := 0, cells := 0, slots := 0, locals := 0 } : Room) (va_Pc [.ref (ad 0)] (fun U => va_P D vwCl (wPW T ad (ad 6) (ad 12) rs rm ts tm rdue rtun rsee rbeg psize pclause peff pkin pgri psig psee qsize qclause qeff qkin qgri qsig qsee cdee cnow cahe kdee know kahe fc lf told up lo) U.heap ∧ KK D T U)) (vp_Sl (fun r' => r' = r)) 0 0 (fun _ => False) := by
  refine Met.ofW (cc := cX5_lower) (maxL := 1) (ret := some .long) (by decide) rfl ?_
  intro p e s m args below meth c s₁ B hml hv
  obtain ⟨ha, hP, hKK⟩ := hv
  have hx := B.exec
  have hb := B.bytes
  have hr := B.returns
  have hts := atoms_spec (ws := wsX5_lower) B.pre
  have hown : s.vm.findClass RX5 = some m.cls := findClass_of_methodNamed B.named
  have hlocks := B.notSynchronized
  have hK := hKK.1
  have hFix : CallFix p m c cX5_lower 1 s args wsX5_lower RX5 := ⟨hx, hb, hml, hown, hts⟩
  have q1 := hts _ (List.mem_of_getElem? (i := 1) (show wsX5_lower[1]? = some (Cond.fieldLink RX5 68 "PartyWill" "toldLower" "J") from rfl))
  have iX5 : ∀ w ∈ u_ws RX5 TX5 14, w ∈ wsX5_lower := fun w h => List.mem_cons_of_mem _ (List.mem_append_right _ (h))
  obtain ⟨ls, hl, e0⟩ := my_entry (m := m) (n := 1) ha (Nat.le_of_ble_eq_true rfl)
  rw [e0]
  have hl : lv_has ls 1 [(0, .ref (ad 0))] := hl
  have key : ∀ Q : State → Prop, (∀ (pc : Nat) (ls : Array Slot), decode cX5_lower pc = .ok (.lreturn, 1) → W p l e ({ frames := 0, cells := 0, slots := 0, locals := 0 } : Room) s m args below meth c s.heap [] 0 0 Q (F0 m pc ls [.long r])) → W p l e ({ frames := 0, cells := 0, slots := 0, locals := 0 } : Room) s m args below meth c s.heap [] 0 0 Q (F0 m 0 ls []) := by
    intro Q hret
    unfold fX5_lower at h
    refine lv_aload_n hx hb dX5_lower_0 rfl (lv_at hl 0 rfl) ?_
    refine va_get (D := D) (ci := 3) (C := RX5) (T := TX5) (N := 14) hx hb hts iX5 hown hK hP 0 wPW_0 rfl 13 (by decide) q1 (fun _ h9 => h9) rfl dX5_lower_1 ?_
    cases h
    exact hret _ _ dX5_lower_4
  exact key _ (fun pc ls hd => W.lret hx hb hr (fun t ht hW => ⟨_, rfl, rfl, ht⟩) (fun q h => by cases h) hd)
set_option maxHeartbeats 4000000 in
set_option maxRecDepth 100000 in
theorem kX5_howManyKept (l : Launch) (D : va_G) (T : Nat → ClassId) (F : Nat) (ad : Nat → Nat) (rs : Nat → Int32) (rm : Nat → Nat → Int32) (ts : Nat → Int32) (tm : Nat → Nat → Int32) (rdue : Int32) (rtun : Int32) (rsee : Int32) (rbeg : Int32) (psize : Int32) (pclause : Int32) (peff : Nat → Int32) (pkin : Nat → Int32) (pgri : Nat → Int32) (psig : Nat → Int32) (psee : Nat → Int32) (qsize : Int32) (qclause : Int32) (qeff : Nat → Int32) (qkin : Nat → Int32) (qgri : Nat → Int32) (qsig : Nat → Int32) (qsee : Nat → Int32) (cdee : Int32) (cnow : Int64) (cahe : Nat → Int64) (kdee : Nat → Int32) (know : Nat → Int64) (kahe : Nat → Nat → Int64) (fc : Nat → Int32) (lf : Int32) (told : Int32) (up : Int64) (lo : Int64) (r : Int32) (h : fX5_howManyKept F kdee = some (r)) : Met l yX5_howManyKept wsX5_howManyKept ({ frames := 0, cells := 0, slots := 0, locals := 0 } : Room) (va_Pc [.ref (ad 0)] (fun U => va_P D vwCl (wPW T ad (ad 6) (ad 12) rs rm ts tm rdue rtun rsee rbeg psize pclause peff pkin pgri psig psee qsize qclause qeff qkin qgri qsig qsee cdee cnow cahe kdee know kahe fc lf told up lo) U.heap ∧ KK D T U)) (vp_Si (fun r' => r' = r)) 0 0 (fun _ => False) := by
  refine Met.ofW (cc := cX5_howManyKept) (maxL := 6) (ret := some .int) (by decide) rfl ?_
  intro p e s m args below meth c s₁ B hml hv
  obtain ⟨ha, hP, hKK⟩ := hv
  have hx := B.exec
  have hb := B.bytes
  have hr := B.returns
  have hts := atoms_spec (ws := wsX5_howManyKept) B.pre
  have hown : s.vm.findClass RX5 = some m.cls := findClass_of_methodNamed B.named
  have hlocks := B.notSynchronized
  have hK := hKK.1
  have hFix : CallFix p m c cX5_howManyKept 6 s args wsX5_howManyKept RX5 := ⟨hx, hb, hml, hown, hts⟩
  have q1 := hts _ (List.mem_of_getElem? (i := 1) (show wsX5_howManyKept[1]? = some (Cond.fieldLink RX5 50 "PartyWill" "kept" "[LPartyWill$Course;") from rfl))
  have iX0 : ∀ w ∈ u_ws RX0 TX0 3, w ∈ wsX5_howManyKept := fun w h => List.mem_cons_of_mem _ (List.mem_append_right _ (h))
  have iX5 : ∀ w ∈ u_ws RX5 TX5 14, w ∈ wsX5_howManyKept := fun w h => List.mem_cons_of_mem _ (List.mem_append_left _ (List.mem_append_right _ (h)))
  obtain ⟨ls, hl, e0⟩ := my_entry (m := m) (n := 6) ha (Nat.le_of_ble_eq_true rfl)
  rw [e0]
  have hl : lv_has ls 6 [(0, .ref (ad 0))] := hl
  have key : ∀ Q : State → Prop, (∀ (pc : Nat) (ls : Array Slot), decode cX5_howManyKept pc = .ok (.ireturn, 1) → W p l e ({ frames := 0, cells := 0, slots := 0, locals := 0 } : Room) s m args below meth c s.heap [] 0 0 Q (F0 m pc ls [.int r])) → W p l e ({ frames := 0, cells := 0, slots := 0, locals := 0 } : Room) s m args below meth c s.heap [] 0 0 Q (F0 m 0 ls []) := by
    intro Q hret
    have l13 : ∀ x3 : Int32, ∀ nu : Nat, ∀ x1 : Int32, ∀ x4 : Int32, fX5_howManyKept_l13 F kdee x3 nu x1 x4 = some (r) → ∀ (ls : Array Slot), lv_has ls 6 [(1, .int x1), (2, .ref (ad 20)), (3, .int x3), (4, .int x4)] → W p l e ({ frames := 0, cells := 0, slots := 0, locals := 0 } : Room) s m args below meth c s.heap [] 0 0 Q (F0 m 13 ls []) := by
      intro x3
      intro nu
      induction nu with
      | zero => intro x1 x4 h; exact none_some h
      | succ nu13 ih13 =>
        intro x1 x4 h ls hl
        have h : fX5_howManyKept_l13_b F kdee x3 (fX5_howManyKept_l13 F kdee x3 nu13) x1 x4 = some (r) := h
        unfold fX5_howManyKept_l13_b at h
        refine lv_iload hx hb dX5_howManyKept_13 (lv_at hl 3 rfl) ?_
        refine lv_iload_n hx hb dX5_howManyKept_15 rfl (lv_at hl 2 rfl) ?_
        refine lv_icmp_ge (tgt := 43) hx hb dX5_howManyKept_16 (by decide) (fun c16 => ?_) (fun c16 => ?_)
        · have h := br_1 h c16
          refine lv_iload_n hx hb dX5_howManyKept_43 rfl (lv_at hl 0 rfl) ?_
          cases h
          exact hret _ _ dX5_howManyKept_44
        · have h := br_0 h c16
          refine lv_aload_n hx hb dX5_howManyKept_19 rfl (lv_at hl 1 rfl) ?_
          refine lv_iload hx hb dX5_howManyKept_20 (lv_at hl 3 rfl) ?_
          obtain ⟨hin2, h⟩ := ck_some h
          have hk1 : x4.toNatClampNeg < 3 := vp_lt hin2
          refine my_ald (b := (ad (21 + 2 * x4.toNatClampNeg))) rfl hx hb hK hP 20 6 wPW_20 rfl hin2 (fun _ => if_pos hk1) dX5_howManyKept_22 ?_
          refine lv_astore (lv' := [(5, .ref (ad (21 + 2 * x4.toNatClampNeg))), (1, .int x1), (2, .ref (ad 20)), (3, .int x3), (4, .int x4)]) hx hb dX5_howManyKept_23 hl (by decide) rfl (fun ls hl => ?_)
          refine lv_aload hx hb dX5_howManyKept_25 (lv_at hl 0 rfl) ?_
          refine va_getN (host := "PartyWill") (D := D) (ci := 0) (C := RX0) (T := TX0) (N := 3) hx hb hts iX0 hown hK hP (21 + 2 * x4.toNatClampNeg) (wPW_f_kept0 hk1) rfl 0 (by decide) (va_Nw.use rfl (nw_X5_71 hKK.2)) (fun _ h9 => h9) rfl dX5_howManyKept_27 ?_
          refine lv_iconst (v := (-1 : Int32)) hx hb dX5_howManyKept_30 (by decide) ?_
          refine lv_icmp_eq (tgt := 37) hx hb dX5_howManyKept_31 (by decide) (fun c31 => ?_) (fun c31 => ?_)
          · have h := br_1 h c31
            refine lv_iinc (v := (x4 + (1 : Int32))) (lv' := [(4, .int (x4 + (1 : Int32))), (5, .ref (ad (21 + 2 * x4.toNatClampNeg))), (1, .int x1), (2, .ref (ad 20)), (3, .int x3)]) hx hb dX5_howManyKept_37 hl (k := 4) rfl rfl (by decide) rfl (fun ls hl => ?_)
            refine lv_goto (tgt := 13) hx hb dX5_howManyKept_40 (by decide) ?_
            exact ih13 x1 (x4 + (1 : Int32)) h _ (lv_sub hl [2, 3, 4, 0] rfl)
          · have h := br_0 h c31
            refine lv_iinc (v := (x1 + (1 : Int32))) (lv' := [(1, .int (x1 + (1 : Int32))), (5, .ref (ad (21 + 2 * x4.toNatClampNeg))), (2, .ref (ad 20)), (3, .int x3), (4, .int x4)]) hx hb dX5_howManyKept_34 hl (k := 1) rfl rfl (by decide) rfl (fun ls hl => ?_)
            refine lv_iinc (v := (x4 + (1 : Int32))) (lv' := [(4, .int (x4 + (1 : Int32))), (1, .int (x1 + (1 : Int32))), (5, .ref (ad (21 + 2 * x4.toNatClampNeg))), (2, .ref (ad 20)), (3, .int x3)]) hx hb dX5_howManyKept_37 hl (k := 4) rfl rfl (by decide) rfl (fun ls hl => ?_)
            refine lv_goto (tgt := 13) hx hb dX5_howManyKept_40 (by decide) ?_
            exact ih13 (x1 + (1 : Int32)) (x4 + (1 : Int32)) h _ (lv_sub hl [1, 3, 4, 0] rfl)
    unfold fX5_howManyKept at h
    refine lv_iconst (v := (0 : Int32)) hx hb dX5_howManyKept_0 (by decide) ?_
    refine lv_istore_n (lv' := [(1, .int (0 : Int32)), (0, .ref (ad 0))]) hx hb dX5_howManyKept_1 rfl hl (by decide) rfl (fun ls hl => ?_)
    refine lv_aload_n hx hb dX5_howManyKept_2 rfl (lv_at hl 1 rfl) ?_
    refine va_get (D := D) (ci := 3) (C := RX5) (T := TX5) (N := 14) hx hb hts iX5 hown hK hP 0 wPW_0 rfl 8 (by decide) q1 (fun _ h9 => h9) rfl dX5_howManyKept_3 ?_
    refine lv_astore_n (lv' := [(2, .ref (ad 20)), (1, .int (0 : Int32)), (0, .ref (ad 0))]) hx hb dX5_howManyKept_6 rfl hl (by decide) rfl (fun ls hl => ?_)
    refine lv_aload_n hx hb dX5_howManyKept_7 rfl (lv_at hl 0 rfl) ?_
    refine va_alen (v := (Int32.ofNat 3)) hx hb hK hP 20 6 wPW_20 rfl rfl dX5_howManyKept_8 ?_
    refine lv_istore_n (lv' := [(3, .int (Int32.ofNat 3)), (2, .ref (ad 20)), (1, .int (0 : Int32)), (0, .ref (ad 0))]) hx hb dX5_howManyKept_9 rfl hl (by decide) rfl (fun ls hl => ?_)
    refine lv_iconst (v := (0 : Int32)) hx hb dX5_howManyKept_10 (by decide) ?_
    refine lv_istore (lv' := [(4, .int (0 : Int32)), (3, .int (Int32.ofNat 3)), (2, .ref (ad 20)), (1, .int (0 : Int32)), (0, .ref (ad 0))]) hx hb dX5_howManyKept_11 hl (by decide) rfl (fun ls hl => ?_)
    exact l13 (Int32.ofNat 3) F (0 : Int32) (0 : Int32) h _ (lv_sub hl [3, 2, 1, 0] rfl)
  exact key _ (fun pc ls hd => W.iret hx hb hr (fun t ht hW => ⟨_, rfl, rfl, ht⟩) (fun q h => by cases h) hd)
set_option maxHeartbeats 4000000 in
set_option maxRecDepth 100000 in
theorem kX5_howManyThere (l : Launch) (D : va_G) (T : Nat → ClassId) (F : Nat) (a0 : Nat) (n1 : Nat) (f1 : Nat → Int32) (r : Int32) (h : fX5_howManyThere F n1 f1 = some (r)) : Met l yX5_howManyThere wsX5_howManyThere ({ frames := 0, cells := 0, slots := 0, locals := 0 } : Room) (va_Pc [.ref a0] (fun U => va_P D vwCl (wA1 T a0 n1 f1) U.heap ∧ KK D T U)) (vp_Si (fun r' => r' = r)) 0 0 (fun _ => False) := by
  refine Met.ofW (cc := cX5_howManyThere) (maxL := 6) (ret := some .int) (by decide) rfl ?_
  intro p e s m args below meth c s₁ B hml hv
  obtain ⟨ha, hP, hKK⟩ := hv
  have hx := B.exec
  have hb := B.bytes
  have hr := B.returns
  have hts := atoms_spec (ws := wsX5_howManyThere) B.pre
  have hown : s.vm.findClass RX5 = some m.cls := findClass_of_methodNamed B.named
  have hlocks := B.notSynchronized
  have hK := hKK.1
  have hFix : CallFix p m c cX5_howManyThere 6 s args wsX5_howManyThere RX5 := ⟨hx, hb, hml, hown, hts⟩
  obtain ⟨ls, hl, e0⟩ := my_entry (m := m) (n := 6) ha (Nat.le_of_ble_eq_true rfl)
  rw [e0]
  have hl : lv_has ls 6 [(0, .ref a0)] := hl
  have key : ∀ Q : State → Prop, (∀ (pc : Nat) (ls : Array Slot), decode cX5_howManyThere pc = .ok (.ireturn, 1) → W p l e ({ frames := 0, cells := 0, slots := 0, locals := 0 } : Room) s m args below meth c s.heap [] 0 0 Q (F0 m pc ls [.int r])) → W p l e ({ frames := 0, cells := 0, slots := 0, locals := 0 } : Room) s m args below meth c s.heap [] 0 0 Q (F0 m 0 ls []) := by
    intro Q hret
    have l10 : ∀ x3 : Int32, ∀ nu : Nat, ∀ x1 : Int32, ∀ x4 : Int32, fX5_howManyThere_l10 F n1 f1 x3 nu x1 x4 = some (r) → ∀ (ls : Array Slot), lv_has ls 6 [(1, .int x1), (2, .ref a0), (3, .int x3), (4, .int x4)] → W p l e ({ frames := 0, cells := 0, slots := 0, locals := 0 } : Room) s m args below meth c s.heap [] 0 0 Q (F0 m 10 ls []) := by
      intro x3
      intro nu
      induction nu with
      | zero => intro x1 x4 h; exact none_some h
      | succ nu10 ih10 =>
        intro x1 x4 h ls hl
        have h : fX5_howManyThere_l10_b F n1 f1 x3 (fX5_howManyThere_l10 F n1 f1 x3 nu10) x1 x4 = some (r) := h
        unfold fX5_howManyThere_l10_b at h
        refine lv_iload hx hb dX5_howManyThere_10 (lv_at hl 3 rfl) ?_
        refine lv_iload_n hx hb dX5_howManyThere_12 rfl (lv_at hl 2 rfl) ?_
        refine lv_icmp_ge (tgt := 37) hx hb dX5_howManyThere_13 (by decide) (fun c13 => ?_) (fun c13 => ?_)
        · have h := br_1 h c13
          refine lv_iload_n hx hb dX5_howManyThere_37 rfl (lv_at hl 0 rfl) ?_
          cases h
          exact hret _ _ dX5_howManyThere_38
        · have h := br_0 h c13
          refine lv_aload_n hx hb dX5_howManyThere_16 rfl (lv_at hl 1 rfl) ?_
          refine lv_iload hx hb dX5_howManyThere_17 (lv_at hl 3 rfl) ?_
          obtain ⟨hin1, h⟩ := ck_some h
          refine va_iald hx hb hK hP 0 0 wA1_0 rfl hin1 dX5_howManyThere_19 ?_
          refine lv_istore (lv' := [(5, .int (f1 x4.toNatClampNeg)), (1, .int x1), (2, .ref a0), (3, .int x3), (4, .int x4)]) hx hb dX5_howManyThere_20 hl (by decide) rfl (fun ls hl => ?_)
          refine lv_iload hx hb dX5_howManyThere_22 (lv_at hl 0 rfl) ?_
          refine lv_iconst (v := (-1 : Int32)) hx hb dX5_howManyThere_24 (by decide) ?_
          refine lv_icmp_eq (tgt := 31) hx hb dX5_howManyThere_25 (by decide) (fun c25 => ?_) (fun c25 => ?_)
          · have h := br_1 h c25
            refine lv_iinc (v := (x4 + (1 : Int32))) (lv' := [(4, .int (x4 + (1 : Int32))), (5, .int (f1 x4.toNatClampNeg)), (1, .int x1), (2, .ref a0), (3, .int x3)]) hx hb dX5_howManyThere_31 hl (k := 4) rfl rfl (by decide) rfl (fun ls hl => ?_)
            refine lv_goto (tgt := 10) hx hb dX5_howManyThere_34 (by decide) ?_
            exact ih10 x1 (x4 + (1 : Int32)) h _ (lv_sub hl [2, 3, 4, 0] rfl)
          · have h := br_0 h c25
            refine lv_iinc (v := (x1 + (1 : Int32))) (lv' := [(1, .int (x1 + (1 : Int32))), (5, .int (f1 x4.toNatClampNeg)), (2, .ref a0), (3, .int x3), (4, .int x4)]) hx hb dX5_howManyThere_28 hl (k := 1) rfl rfl (by decide) rfl (fun ls hl => ?_)
            refine lv_iinc (v := (x4 + (1 : Int32))) (lv' := [(4, .int (x4 + (1 : Int32))), (1, .int (x1 + (1 : Int32))), (5, .int (f1 x4.toNatClampNeg)), (2, .ref a0), (3, .int x3)]) hx hb dX5_howManyThere_31 hl (k := 4) rfl rfl (by decide) rfl (fun ls hl => ?_)
            refine lv_goto (tgt := 10) hx hb dX5_howManyThere_34 (by decide) ?_
            exact ih10 (x1 + (1 : Int32)) (x4 + (1 : Int32)) h _ (lv_sub hl [1, 3, 4, 0] rfl)
    unfold fX5_howManyThere at h
    refine lv_iconst (v := (0 : Int32)) hx hb dX5_howManyThere_0 (by decide) ?_
    refine lv_istore_n (lv' := [(1, .int (0 : Int32)), (0, .ref a0)]) hx hb dX5_howManyThere_1 rfl hl (by decide) rfl (fun ls hl => ?_)
    refine lv_aload_n hx hb dX5_howManyThere_2 rfl (lv_at hl 1 rfl) ?_
    refine lv_astore_n (lv' := [(2, .ref a0), (1, .int (0 : Int32)), (0, .ref a0)]) hx hb dX5_howManyThere_3 rfl hl (by decide) rfl (fun ls hl => ?_)
    refine lv_aload_n hx hb dX5_howManyThere_4 rfl (lv_at hl 0 rfl) ?_
    refine va_alen (v := (Int32.ofNat n1)) hx hb hK hP 0 0 wA1_0 rfl rfl dX5_howManyThere_5 ?_
    refine lv_istore_n (lv' := [(3, .int (Int32.ofNat n1)), (2, .ref a0), (1, .int (0 : Int32)), (0, .ref a0)]) hx hb dX5_howManyThere_6 rfl hl (by decide) rfl (fun ls hl => ?_)
    refine lv_iconst (v := (0 : Int32)) hx hb dX5_howManyThere_7 (by decide) ?_
    refine lv_istore (lv' := [(4, .int (0 : Int32)), (3, .int (Int32.ofNat n1)), (2, .ref a0), (1, .int (0 : Int32)), (0, .ref a0)]) hx hb dX5_howManyThere_8 hl (by decide) rfl (fun ls hl => ?_)
    exact l10 (Int32.ofNat n1) F (0 : Int32) (0 : Int32) h _ (lv_sub hl [3, 2, 1, 0] rfl)
  exact key _ (fun pc ls hd => W.iret hx hb hr (fun t ht hW => ⟨_, rfl, rfl, ht⟩) (fun q h => by cases h) hd)
set_option maxHeartbeats 4000000 in
set_option maxRecDepth 100000 in
theorem kX5_count (l : Launch) (D : va_G) (T : Nat → ClassId) (F : Nat) (ad : Nat → Nat) (rs : Nat → Int32) (rm : Nat → Nat → Int32) (ts : Nat → Int32) (tm : Nat → Nat → Int32) (rdue : Int32) (rtun : Int32) (rsee : Int32) (rbeg : Int32) (psize : Int32) (pclause : Int32) (peff : Nat → Int32) (pkin : Nat → Int32) (pgri : Nat → Int32) (psig : Nat → Int32) (psee : Nat → Int32) (qsize : Int32) (qclause : Int32) (qeff : Nat → Int32) (qkin : Nat → Int32) (qgri : Nat → Int32) (qsig : Nat → Int32) (qsee : Nat → Int32) (cdee : Int32) (cnow : Int64) (cahe : Nat → Int64) (kdee : Nat → Int32) (know : Nat → Int64) (kahe : Nat → Nat → Int64) (fc : Nat → Int32) (lf : Int32) (told : Int32) (up : Int64) (lo : Int64) (x1 : Int32) (r : Int32) (h : fX5_count F rs ts psize pclause pkin cdee cnow kdee x1 = some (r)) : Met l yX5_count wsX5_count ({ frames := 2, cells := 0, slots := 0, locals := 45 } : Room) (va_Pc [.ref (ad 0), .int x1] (fun U => va_P D vwCl (wPW T ad (ad 6) (ad 12) rs rm ts tm rdue rtun rsee rbeg psize pclause peff pkin pgri psig psee qsize qclause qeff qkin qgri qsig qsee cdee cnow cahe kdee know kahe fc lf told up lo) U.heap ∧ KK D T U)) (vp_Si (fun r' => r' = r)) 0 0 (fun _ => False) := by
  refine Met.ofW (cc := cX5_count) (maxL := 2) (ret := some .int) (by decide) rfl ?_
  intro p e s m args below meth c s₁ B hml hv
  obtain ⟨ha, hP, hKK⟩ := hv
  have hx := B.exec
  have hb := B.bytes
  have hr := B.returns
  have hts := atoms_spec (ws := wsX5_count) B.pre
  have hown : s.vm.findClass RX5 = some m.cls := findClass_of_methodNamed B.named
  have hlocks := B.notSynchronized
  have hK := hKK.1
  have hFix : CallFix p m c cX5_count 2 s args wsX5_count RX5 := ⟨hx, hb, hml, hown, hts⟩
  have q1 := hts _ (List.mem_of_getElem? (i := 1) (show wsX5_count[1]? = some (Cond.fieldLink RX5 36 "PartyWill" "party" "LPartyWill$Party;") from rfl))
  have q2 := hts _ (List.mem_of_getElem? (i := 2) (show wsX5_count[2]? = some (Cond.fieldLink RX5 46 "PartyWill" "course" "LPartyWill$Course;") from rfl))
  have q3 := hts _ (List.mem_of_getElem? (i := 3) (show wsX5_count[3]? = some (Cond.fieldLink RX5 14 "PartyWill" "rowSizes" "[I") from rfl))
  have q4 := hts _ (List.mem_of_getElem? (i := 4) (show wsX5_count[4]? = some (Cond.fieldLink RX5 23 "PartyWill" "textSizes" "[I") from rfl))
  have q5 := hts _ (List.mem_of_getElem? (i := 5) (show wsX5_count[5]? = some (Cond.static yX1_howManyIn) from rfl))
  have q6 := hts _ (List.mem_of_getElem? (i := 6) (show wsX5_count[6]? = some (Cond.initialized RX1) from rfl))
  have q18 := hts _ (List.mem_of_getElem? (i := 18) (show wsX5_count[18]? = some (Cond.static yX1_griefOfAll) from rfl))
  have q24 := hts _ (List.mem_of_getElem? (i := 24) (show wsX5_count[24]? = some (Cond.instanceMethod yX2_howManyAre) from rfl))
  have q25 := hts _ (List.mem_of_getElem? (i := 25) (show wsX5_count[25]? = some (Cond.initialized RX2) from rfl))
  have q26 := hts _ (List.mem_of_getElem? (i := 26) (show wsX5_count[26]? = some (Cond.selects RX2 yX2_howManyAre yX2_howManyAre) from rfl))
  have iX0 : ∀ w ∈ u_ws RX0 TX0 3, w ∈ wsX5_count := fun w h => List.mem_cons_of_mem _ (List.mem_append_right _ (h))
  have iX2 : ∀ w ∈ u_ws RX2 TX2 7, w ∈ wsX5_count := fun w h => List.mem_cons_of_mem _ (List.mem_append_left _ (List.mem_append_right _ (h)))
  have iX5 : ∀ w ∈ u_ws RX5 TX5 14, w ∈ wsX5_count := fun w h => List.mem_cons_of_mem _ (List.mem_append_left _ (List.mem_append_left _ (List.mem_append_right _ (h))))
  obtain ⟨ls, hl, e0⟩ := my_entry (m := m) (n := 2) ha (Nat.le_of_ble_eq_true rfl)
  rw [e0]
  have hl : lv_has ls 2 [(0, .ref (ad 0)), (1, .int x1)] := hl
  have key : ∀ Q : State → Prop, (∀ (pc : Nat) (ls : Array Slot), decode cX5_count pc = .ok (.ireturn, 1) → W p l e ({ frames := 2, cells := 0, slots := 0, locals := 45 } : Room) s m args below meth c s.heap [] 0 0 Q (F0 m pc ls [.int r])) → W p l e ({ frames := 2, cells := 0, slots := 0, locals := 45 } : Room) s m args below meth c s.heap [] 0 0 Q (F0 m 0 ls []) := by
    intro Q hret
    unfold fX5_count at h
    refine lv_iload_n hx hb dX5_count_0 rfl (lv_at hl 1 rfl) ?_
    by_cases z1_0 : x1 = (0 : Int32)
    · have h := br_1 h z1_0
      refine lv_tableIn (tgt := 56) (off := 55) hx hb dX5_count_1 (by rw [z1_0]; decide) (by rw [z1_0]; decide) (by rw [z1_0]; decide) (by decide) ?_
      refine lv_aload_n hx hb dX5_count_56 rfl (lv_at hl 0 rfl) ?_
      refine va_get (D := D) (ci := 3) (C := RX5) (T := TX5) (N := 14) hx hb hts iX5 hown hK hP 0 wPW_0 rfl 5 (by decide) q1 (fun _ h9 => h9) rfl dX5_count_57 ?_
      refine va_getN (host := "PartyWill") (D := D) (ci := 1) (C := RX2) (T := TX2) (N := 7) hx hb hts iX2 hown hK hP 6 wPW_6 rfl 0 (by decide) (va_Nw.use rfl (nw_X5_111 hKK.2)) (fun _ h9 => h9) rfl dX5_count_60 ?_
      cases h
      exact hret _ _ dX5_count_63
    have h := br_0 h z1_0
    by_cases z1_1 : x1 = (1 : Int32)
    · have h := br_1 h z1_1
      refine lv_tableIn (tgt := 64) (off := 63) hx hb dX5_count_1 (by rw [z1_1]; decide) (by rw [z1_1]; decide) (by rw [z1_1]; decide) (by decide) ?_
      refine lv_aload_n hx hb dX5_count_64 rfl (lv_at hl 0 rfl) ?_
      refine va_get (D := D) (ci := 3) (C := RX5) (T := TX5) (N := 14) hx hb hts iX5 hown hK hP 0 wPW_0 rfl 5 (by decide) q1 (fun _ h9 => h9) rfl dX5_count_65 ?_
      refine va_getN (host := "PartyWill") (D := D) (ci := 1) (C := RX2) (T := TX2) (N := 7) hx hb hts iX2 hown hK hP 6 wPW_6 rfl 1 (by decide) (va_Nw.use rfl (nw_X5_257 hKK.2)) (fun _ h9 => h9) rfl dX5_count_68 ?_
      cases h
      exact hret _ _ dX5_count_71
    have h := br_0 h z1_1
    by_cases z1_2 : x1 = (2 : Int32)
    · have h := br_1 h z1_2
      refine lv_tableIn (tgt := 72) (off := 71) hx hb dX5_count_1 (by rw [z1_2]; decide) (by rw [z1_2]; decide) (by rw [z1_2]; decide) (by decide) ?_
      refine lv_aload_n hx hb dX5_count_72 rfl (lv_at hl 0 rfl) ?_
      refine va_get (D := D) (ci := 3) (C := RX5) (T := TX5) (N := 14) hx hb hts iX5 hown hK hP 0 wPW_0 rfl 7 (by decide) q2 (fun _ h9 => h9) rfl dX5_count_73 ?_
      refine va_getN (host := "PartyWill") (D := D) (ci := 0) (C := RX0) (T := TX0) (N := 3) hx hb hts iX0 hown hK hP 18 wPW_18 rfl 0 (by decide) (va_Nw.use rfl (nw_X5_71 hKK.2)) (fun _ h9 => h9) rfl dX5_count_76 ?_
      cases h
      exact hret _ _ dX5_count_79
    have h := br_0 h z1_2
    by_cases z1_3 : x1 = (3 : Int32)
    · have h := br_1 h z1_3
      refine lv_tableIn (tgt := 80) (off := 79) hx hb dX5_count_1 (by rw [z1_3]; decide) (by rw [z1_3]; decide) (by rw [z1_3]; decide) (by decide) ?_
      refine lv_aload_n hx hb dX5_count_80 rfl (lv_at hl 0 rfl) ?_
      refine va_get (D := D) (ci := 3) (C := RX5) (T := TX5) (N := 14) hx hb hts iX5 hown hK hP 0 wPW_0 rfl 7 (by decide) q2 (fun _ h9 => h9) rfl dX5_count_81 ?_
      refine va_getN (host := "PartyWill") (D := D) (ci := 0) (C := RX0) (T := TX0) (N := 3) hx hb hts iX0 hown hK hP 18 wPW_18 rfl 1 (by decide) (va_Nw.use rfl (nw_X5_127 hKK.2)) (fun _ h9 => h9) rfl dX5_count_84 ?_
      obtain ⟨r87, hc, h⟩ := bd1_some h
      refine my_roi (va_Run.run (va_runSN (host := "PartyWill") (As := [.long cnow]) (rest := []) hFix (kX1_howManyIn l D T F cnow r87 hc) ⟨va_cnB 1 hts gX5_count_X1_howManyIn_n207 rfl rfl rfl (nw_X5_207 hKK.2) q6 hd_X1_howManyIn ⟨Nat.le_of_ble_eq_true rfl, Nat.le_of_ble_eq_true rfl⟩, q5, trivial⟩ (preS_ro va_nil hKK) rfl rfl hl.1 rfl (lv_room (Nat.le_of_ble_eq_true rfl)) dX5_count_87 ⟨Nat.zero_le _, Nat.zero_le _⟩)) ?_
      cases h
      exact hret _ _ dX5_count_90
    have h := br_0 h z1_3
    by_cases z1_4 : x1 = (4 : Int32)
    · have h := br_1 h z1_4
      refine lv_tableIn (tgt := 91) (off := 90) hx hb dX5_count_1 (by rw [z1_4]; decide) (by rw [z1_4]; decide) (by rw [z1_4]; decide) (by decide) ?_
      refine lv_aload_n hx hb dX5_count_91 rfl (lv_at hl 0 rfl) ?_
      refine va_get (D := D) (ci := 3) (C := RX5) (T := TX5) (N := 14) hx hb hts iX5 hown hK hP 0 wPW_0 rfl 7 (by decide) q2 (fun _ h9 => h9) rfl dX5_count_92 ?_
      refine va_getN (host := "PartyWill") (D := D) (ci := 0) (C := RX0) (T := TX0) (N := 3) hx hb hts iX0 hown hK hP 18 wPW_18 rfl 1 (by decide) (va_Nw.use rfl (nw_X5_127 hKK.2)) (fun _ h9 => h9) rfl dX5_count_95 ?_
      obtain ⟨r98, hc, h⟩ := bd1_some h
      refine my_roi (va_Run.run (va_runSN (host := "PartyWill") (As := [.long cnow]) (rest := []) hFix (kX1_griefOfAll l D T F cnow r98 hc) ⟨va_cnB 1 hts gX5_count_X1_griefOfAll_n192 rfl rfl rfl (nw_X5_192 hKK.2) q6 hd_X1_griefOfAll ⟨Nat.le_of_ble_eq_true rfl, Nat.le_of_ble_eq_true rfl⟩, q18, trivial⟩ (preS_ro va_nil hKK) rfl rfl hl.1 rfl (lv_room (Nat.le_of_ble_eq_true rfl)) dX5_count_98 ⟨Nat.zero_le _, Nat.zero_le _⟩)) ?_
      cases h
      exact hret _ _ dX5_count_101
    have h := br_0 h z1_4
    by_cases z1_5 : x1 = (5 : Int32)
    · have h := br_1 h z1_5
      refine lv_tableIn (tgt := 102) (off := 101) hx hb dX5_count_1 (by rw [z1_5]; decide) (by rw [z1_5]; decide) (by rw [z1_5]; decide) (by decide) ?_
      refine lv_aload_n hx hb dX5_count_102 rfl (lv_at hl 0 rfl) ?_
      refine va_get (D := D) (ci := 3) (C := RX5) (T := TX5) (N := 14) hx hb hts iX5 hown hK hP 0 wPW_0 rfl 5 (by decide) q1 (fun _ h9 => h9) rfl dX5_count_103 ?_
      refine lv_iconst (v := (1 : Int32)) hx hb dX5_count_106 (by decide) ?_
      obtain ⟨r107, hc, h⟩ := bd1_some h
      have hPc : va_P D vwCl (wPa T (ad 6) (ad 7) (ad 8) (ad 9) (ad 10) (ad 11) psize pclause peff pkin pgri psig psee) _ := my_subP sb_wPW_wPa_6to11 hP
      refine my_roi (va_Run.run (va_runVN (host := "PartyWill") (As := [.int (1 : Int32)]) (rest := []) hFix (kX2_howManyAre l D T F (ad 6) (ad 7) (ad 8) (ad 9) (ad 10) (ad 11) psize pclause peff pkin pgri psig psee (1 : Int32) r107 hc) ⟨va_cnB 1 hts gX5_count_X2_howManyAre_n279 rfl rfl rfl (nw_X5_279 hKK.2) q25 hd_X2_howManyAre ⟨Nat.le_of_ble_eq_true rfl, Nat.le_of_ble_eq_true rfl⟩, q24, q26⟩ (preV_ro hPc hKK (va_recv hK hP (ci := 1) (q0 := 6) rfl wPW_6)) rfl rfl hl.1 rfl (lv_room (Nat.le_of_ble_eq_true rfl)) dX5_count_107 ⟨Nat.zero_le _, Nat.zero_le _⟩)) ?_
      cases h
      exact hret _ _ dX5_count_110
    have h := br_0 h z1_5
    by_cases z1_6 : x1 = (6 : Int32)
    · have h := br_1 h z1_6
      refine lv_tableIn (tgt := 111) (off := 110) hx hb dX5_count_1 (by rw [z1_6]; decide) (by rw [z1_6]; decide) (by rw [z1_6]; decide) (by decide) ?_
      refine lv_aload_n hx hb dX5_count_111 rfl (lv_at hl 0 rfl) ?_
      refine va_get (D := D) (ci := 3) (C := RX5) (T := TX5) (N := 14) hx hb hts iX5 hown hK hP 0 wPW_0 rfl 5 (by decide) q1 (fun _ h9 => h9) rfl dX5_count_112 ?_
      refine lv_iconst (v := (2 : Int32)) hx hb dX5_count_115 (by decide) ?_
      obtain ⟨r116, hc, h⟩ := bd1_some h
      have hPc : va_P D vwCl (wPa T (ad 6) (ad 7) (ad 8) (ad 9) (ad 10) (ad 11) psize pclause peff pkin pgri psig psee) _ := my_subP sb_wPW_wPa_6to11 hP
      refine my_roi (va_Run.run (va_runVN (host := "PartyWill") (As := [.int (2 : Int32)]) (rest := []) hFix (kX2_howManyAre l D T F (ad 6) (ad 7) (ad 8) (ad 9) (ad 10) (ad 11) psize pclause peff pkin pgri psig psee (2 : Int32) r116 hc) ⟨va_cnB 1 hts gX5_count_X2_howManyAre_n279 rfl rfl rfl (nw_X5_279 hKK.2) q25 hd_X2_howManyAre ⟨Nat.le_of_ble_eq_true rfl, Nat.le_of_ble_eq_true rfl⟩, q24, q26⟩ (preV_ro hPc hKK (va_recv hK hP (ci := 1) (q0 := 6) rfl wPW_6)) rfl rfl hl.1 rfl (lv_room (Nat.le_of_ble_eq_true rfl)) dX5_count_116 ⟨Nat.zero_le _, Nat.zero_le _⟩)) ?_
      cases h
      exact hret _ _ dX5_count_119
    have h := br_0 h z1_6
    by_cases z1_7 : x1 = (7 : Int32)
    · have h := br_1 h z1_7
      refine lv_tableIn (tgt := 120) (off := 119) hx hb dX5_count_1 (by rw [z1_7]; decide) (by rw [z1_7]; decide) (by rw [z1_7]; decide) (by decide) ?_
      refine lv_aload_n hx hb dX5_count_120 rfl (lv_at hl 0 rfl) ?_
      refine va_get (D := D) (ci := 3) (C := RX5) (T := TX5) (N := 14) hx hb hts iX5 hown hK hP 0 wPW_0 rfl 1 (by decide) q3 (fun _ h9 => h9) rfl dX5_count_121 ?_
      obtain ⟨r124, hc, h⟩ := bd1_some h
      have hPc : va_P D vwCl (wA1 T (ad 2) 6 rs) _ := my_subP sb_wPW_wA1_2 hP
      refine my_roi (va_Run.run (va_runS (As := [.ref (ad 2)]) (rest := []) hFix (kX5_howManyThere l D T F (ad 2) 6 rs r124 hc) (va_cwS 1 hts gX5_count_X5_howManyThere rfl rfl rfl hd_X5_howManyThere ⟨Nat.le_of_ble_eq_true rfl, Nat.le_of_ble_eq_true rfl⟩) (preS_ro hPc hKK) rfl rfl hl.1 rfl (lv_room (Nat.le_of_ble_eq_true rfl)) dX5_count_124 ⟨Nat.zero_le _, Nat.zero_le _⟩)) ?_
      cases h
      exact hret _ _ dX5_count_127
    have h := br_0 h z1_7
    by_cases z1_8 : x1 = (8 : Int32)
    · have h := br_1 h z1_8
      refine lv_tableIn (tgt := 128) (off := 127) hx hb dX5_count_1 (by rw [z1_8]; decide) (by rw [z1_8]; decide) (by rw [z1_8]; decide) (by decide) ?_
      refine lv_aload_n hx hb dX5_count_128 rfl (lv_at hl 0 rfl) ?_
      refine va_get (D := D) (ci := 3) (C := RX5) (T := TX5) (N := 14) hx hb hts iX5 hown hK hP 0 wPW_0 rfl 3 (by decide) q4 (fun _ h9 => h9) rfl dX5_count_129 ?_
      obtain ⟨r132, hc, h⟩ := bd1_some h
      have hPc : va_P D vwCl (wA1 T (ad 4) 4 ts) _ := my_subP sb_wPW_wA1_4 hP
      refine my_roi (va_Run.run (va_runS (As := [.ref (ad 4)]) (rest := []) hFix (kX5_howManyThere l D T F (ad 4) 4 ts r132 hc) (va_cwS 1 hts gX5_count_X5_howManyThere rfl rfl rfl hd_X5_howManyThere ⟨Nat.le_of_ble_eq_true rfl, Nat.le_of_ble_eq_true rfl⟩) (preS_ro hPc hKK) rfl rfl hl.1 rfl (lv_room (Nat.le_of_ble_eq_true rfl)) dX5_count_132 ⟨Nat.zero_le _, Nat.zero_le _⟩)) ?_
      cases h
      exact hret _ _ dX5_count_135
    have h := br_0 h z1_8
    by_cases z1_9 : x1 = (9 : Int32)
    · have h := br_1 h z1_9
      refine lv_tableIn (tgt := 136) (off := 135) hx hb dX5_count_1 (by rw [z1_9]; decide) (by rw [z1_9]; decide) (by rw [z1_9]; decide) (by decide) ?_
      refine lv_aload_n hx hb dX5_count_136 rfl (lv_at hl 0 rfl) ?_
      obtain ⟨r137, hc, h⟩ := bd1_some h
      refine my_roi (va_Run.run (va_runV (As := []) (rest := []) hFix (kX5_howManyKept l D T F ad rs rm ts tm rdue rtun rsee rbeg psize pclause peff pkin pgri psig psee qsize qclause qeff qkin qgri qsig qsee cdee cnow cahe kdee know kahe fc lf told up lo r137 hc) (cwV 0 hts gX5_count_X5_howManyKept rfl rfl rfl ⟨rfl, hd_X5_howManyKept⟩ ⟨Nat.le_of_ble_eq_true rfl, Nat.le_of_ble_eq_true rfl⟩) (preV_ro hP hKK (va_recv hK hP (ci := 3) (q0 := 0) rfl wPW_0)) rfl rfl hl.1 rfl (lv_room (Nat.le_of_ble_eq_true rfl)) dX5_count_137 ⟨Nat.zero_le _, Nat.zero_le _⟩)) ?_
      cases h
      exact hret _ _ dX5_count_140
    have h := br_0 h z1_9
    have e1_0 : x1.toInt ≠ 0 := fun e => z1_0 (Int32.toInt_inj.mp e)
    have e1_1 : x1.toInt ≠ 1 := fun e => z1_1 (Int32.toInt_inj.mp e)
    have e1_2 : x1.toInt ≠ 2 := fun e => z1_2 (Int32.toInt_inj.mp e)
    have e1_3 : x1.toInt ≠ 3 := fun e => z1_3 (Int32.toInt_inj.mp e)
    have e1_4 : x1.toInt ≠ 4 := fun e => z1_4 (Int32.toInt_inj.mp e)
    have e1_5 : x1.toInt ≠ 5 := fun e => z1_5 (Int32.toInt_inj.mp e)
    have e1_6 : x1.toInt ≠ 6 := fun e => z1_6 (Int32.toInt_inj.mp e)
    have e1_7 : x1.toInt ≠ 7 := fun e => z1_7 (Int32.toInt_inj.mp e)
    have e1_8 : x1.toInt ≠ 8 := fun e => z1_8 (Int32.toInt_inj.mp e)
    have e1_9 : x1.toInt ≠ 9 := fun e => z1_9 (Int32.toInt_inj.mp e)
    refine lv_tableOut (tgt := 141) hx hb dX5_count_1 (by omega) (by decide) ?_
    refine lv_iconst (v := (-1 : Int32)) hx hb dX5_count_141 (by decide) ?_
    cases h
    exact hret _ _ dX5_count_142
  exact key _ (fun pc ls hd => W.iret hx hb hr (fun t ht hW => ⟨_, rfl, rfl, ht⟩) (fun q h => by cases h) hd)
