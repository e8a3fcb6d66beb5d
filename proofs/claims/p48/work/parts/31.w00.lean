set_option maxHeartbeats 4000000 in
set_option maxRecDepth 100000 in
theorem kX0_begin (l : Launch) (D : va_G) (T : Nat → ClassId) (F : Nat) (a0 : Nat) (a1 : Nat) (cdee : Int32) (cnow : Int64) (cahe : Nat → Int64) (x1 : Int64) (zcdee : Int32) (zcnow : Int64) (h : fX0_begin F cdee cnow x1 = some (zcdee, zcnow)) : ∀ sz : Nat, Met l yX0_begin wsX0_begin ({ frames := 0, cells := 0, slots := 0, locals := 0 } : Room) (va_Pc [.ref a0, .long x1] (fun U => U.heap.size = sz ∧ va_P D vwCl (wCo T a0 a1 cdee cnow cahe) U.heap ∧ KK D T U ∧ va_D (fun _ => True) (wCo T a0 a1 cdee cnow cahe))) (va_Qv (fun _ : Unit => True) (fun _ t => va_P D vwCl (wCo T a0 a1 zcdee zcnow cahe) t.heap ∧ va_D (va_A (wCo T a0 a1 cdee cnow cahe) sz) (wCo T a0 a1 zcdee zcnow cahe)) (va_A (wCo T a0 a1 cdee cnow cahe) sz)) 0 0 (va_A (wCo T a0 a1 cdee cnow cahe) sz) := by
  intro sz
  refine Met.ofW (cc := cX0_begin) (maxL := 3) (ret := none) (by decide) rfl ?_
  intro p e s m args below meth c s₁ B hml hv
  obtain ⟨ha, hsz, hP, hKK, hD0⟩ := hv
  have hx := B.exec
  have hb := B.bytes
  have hr := B.returns
  have hts := atoms_spec (ws := wsX0_begin) B.pre
  have hown : s.vm.findClass RX0 = some m.cls := findClass_of_methodNamed B.named
  have hlocks := B.notSynchronized
  have hK := hKK.1
  have hFix : CallFix p m c cX0_begin 3 s args wsX0_begin RX0 := ⟨hx, hb, hml, hown, hts⟩
  have q1 := hts _ (List.mem_of_getElem? (i := 1) (show wsX0_begin[1]? = some (Cond.fieldLink RX0 9 "PartyWill$Course" "deeds" "I") from rfl))
  have q2 := hts _ (List.mem_of_getElem? (i := 2) (show wsX0_begin[2]? = some (Cond.fieldLink RX0 15 "PartyWill$Course" "now" "J") from rfl))
  have iX0 : ∀ w ∈ u_ws RX0 TX0 3, w ∈ wsX0_begin := fun w h => List.mem_cons_of_mem _ (List.mem_append_right _ (h))
  subst hsz
  have hD := hD0.self (sz := s.heap.size)
  generalize hAe : va_A (wCo T a0 a1 cdee cnow cahe) s.heap.size = A at hD ⊢
  have hA : ∀ q : Nat, s.heap.size ≤ q → A q := fun q h => by rw [← hAe]; exact Or.inr h
  have hS : va_S A s.heap s.heap [] := va_S.rf
  have hP : va_P D vwCl (wCo T a0 a1 cdee cnow cahe) s.heap := hP
  obtain ⟨ls, hl, e0⟩ := my_entry (m := m) (n := 3) ha (Nat.le_of_ble_eq_true rfl)
  rw [e0]
  have hl : lv_has ls 3 [(0, .ref a0), (1, .long x1)] := hl
  have key : ∀ Q : State → Prop, (∀ (H : Heap) (locs : List Loc) (pc : Nat) (ls : Array Slot), va_P D vwCl (wCo T a0 a1 zcdee zcnow cahe) H → va_D A (wCo T a0 a1 zcdee zcnow cahe) → va_S A s.heap H locs → decode cX0_begin pc = .ok (.return_, 1) → W p l e ({ frames := 0, cells := 0, slots := 0, locals := 0 } : Room) s m args below meth c H locs 0 0 Q (F0 m pc ls [])) → W p l e ({ frames := 0, cells := 0, slots := 0, locals := 0 } : Room) s m args below meth c s.heap [] 0 0 Q (F0 m 0 ls []) := by
    intro Q hret
    skip
    unfold fX0_begin at h
    refine lv_aload_n hx hb dX0_begin_0 rfl (lv_at hl 0 rfl) ?_
    refine lv_iconst (v := (0 : Int32)) hx hb dX0_begin_1 (by decide) ?_
    refine va_put (D := D) (ci := 0) (v := .int (0 : Int32)) (ty := .int) (C := RX0) (T := TX0) (N := 3) hx hb hts iX0 tyX0 tyX0_ok nmX0 hown hK hP hD hS 0 wCo_0 rfl 0 (by decide) q1 (fun _ h9 => h9) rfl (by decide +kernel) rfl rfl (Nat.le_of_ble_eq_true rfl) dX0_begin_2 (fun H locs hP hD hS => ?_)
    have hP : va_P D vwCl (wCo T a0 a1 (0 : Int32) cnow cahe) H := hP
    have hD : va_D A (wCo T a0 a1 (0 : Int32) cnow cahe) := hD
    refine lv_aload_n hx hb dX0_begin_5 rfl (lv_at hl 0 rfl) ?_
    refine lv_lload_n hx hb dX0_begin_6 rfl (lv_at hl 1 rfl) ?_
    refine va_put (D := D) (ci := 0) (v := .long x1) (ty := .long) (C := RX0) (T := TX0) (N := 3) hx hb hts iX0 tyX0 tyX0_ok nmX0 hown hK hP hD hS 0 wCo_0 rfl 1 (by decide) q2 (fun _ h9 => h9) rfl (by decide +kernel) rfl rfl (Nat.le_of_ble_eq_true rfl) dX0_begin_7 (fun H locs hP hD hS => ?_)
    have hP : va_P D vwCl (wCo T a0 a1 (0 : Int32) x1 cahe) H := hP
    have hD : va_D A (wCo T a0 a1 (0 : Int32) x1 cahe) := hD
    cases h
    exact hret _ _ _ _ hP hD hS dX0_begin_10
  exact key _ (fun H locs pc ls hP hD hS hd => W.vret hx hb hr (fun t ht hW => ⟨⟨(), rfl, trivial, by show _ ∧ _; rw [ht]; exact ⟨hP, hD⟩⟩, hS.F ht⟩) hS.2.2 hd)
set_option maxHeartbeats 4000000 in
set_option maxRecDepth 100000 in
theorem kX0_goOn (l : Launch) (D : va_G) (T : Nat → ClassId) (F : Nat) (a0 : Nat) (a1 : Nat) (cdee : Int32) (cnow : Int64) (cahe : Nat → Int64) (x1 : Int64) (zcdee : Int32) (zcnow : Int64) (zcahe : Nat → Int64) (h : fX0_goOn F cdee cnow cahe x1 = some (zcdee, zcnow, zcahe)) : ∀ sz : Nat, Met l yX0_goOn wsX0_goOn ({ frames := 0, cells := 0, slots := 0, locals := 0 } : Room) (va_Pc [.ref a0, .long x1] (fun U => U.heap.size = sz ∧ va_P D vwCl (wCo T a0 a1 cdee cnow cahe) U.heap ∧ KK D T U ∧ va_D (fun _ => True) (wCo T a0 a1 cdee cnow cahe))) (va_Qv (fun _ : Unit => True) (fun _ t => va_P D vwCl (wCo T a0 a1 zcdee zcnow zcahe) t.heap ∧ va_D (va_A (wCo T a0 a1 cdee cnow cahe) sz) (wCo T a0 a1 zcdee zcnow zcahe)) (va_A (wCo T a0 a1 cdee cnow cahe) sz)) 0 0 (va_A (wCo T a0 a1 cdee cnow cahe) sz) := by
  intro sz
  refine Met.ofW (cc := cX0_goOn) (maxL := 3) (ret := none) (by decide) rfl ?_
  intro p e s m args below meth c s₁ B hml hv
  obtain ⟨ha, hsz, hP, hKK, hD0⟩ := hv
  have hx := B.exec
  have hb := B.bytes
  have hr := B.returns
  have hts := atoms_spec (ws := wsX0_goOn) B.pre
  have hown : s.vm.findClass RX0 = some m.cls := findClass_of_methodNamed B.named
  have hlocks := B.notSynchronized
  have hK := hKK.1
  have hFix : CallFix p m c cX0_goOn 3 s args wsX0_goOn RX0 := ⟨hx, hb, hml, hown, hts⟩
  have q1 := hts _ (List.mem_of_getElem? (i := 1) (show wsX0_goOn[1]? = some (Cond.fieldLink RX0 9 "PartyWill$Course" "deeds" "I") from rfl))
  have q2 := hts _ (List.mem_of_getElem? (i := 2) (show wsX0_goOn[2]? = some (Cond.fieldLink RX0 19 "PartyWill$Course" "ahead" "[J") from rfl))
  have q3 := hts _ (List.mem_of_getElem? (i := 3) (show wsX0_goOn[3]? = some (Cond.fieldLink RX0 15 "PartyWill$Course" "now" "J") from rfl))
  have iX0 : ∀ w ∈ u_ws RX0 TX0 3, w ∈ wsX0_goOn := fun w h => List.mem_cons_of_mem _ (List.mem_append_right _ (h))
  subst hsz
  have hD := hD0.self (sz := s.heap.size)
  generalize hAe : va_A (wCo T a0 a1 cdee cnow cahe) s.heap.size = A at hD ⊢
  have hA : ∀ q : Nat, s.heap.size ≤ q → A q := fun q h => by rw [← hAe]; exact Or.inr h
  have hS : va_S A s.heap s.heap [] := va_S.rf
  have hP : va_P D vwCl (wCo T a0 a1 cdee cnow cahe) s.heap := hP
  obtain ⟨ls, hl, e0⟩ := my_entry (m := m) (n := 3) ha (Nat.le_of_ble_eq_true rfl)
  rw [e0]
  have hl : lv_has ls 3 [(0, .ref a0), (1, .long x1)] := hl
  have key : ∀ Q : State → Prop, (∀ (H : Heap) (locs : List Loc) (pc : Nat) (ls : Array Slot), va_P D vwCl (wCo T a0 a1 zcdee zcnow zcahe) H → va_D A (wCo T a0 a1 zcdee zcnow zcahe) → va_S A s.heap H locs → decode cX0_goOn pc = .ok (.return_, 1) → W p l e ({ frames := 0, cells := 0, slots := 0, locals := 0 } : Room) s m args below meth c H locs 0 0 Q (F0 m pc ls [])) → W p l e ({ frames := 0, cells := 0, slots := 0, locals := 0 } : Room) s m args below meth c s.heap [] 0 0 Q (F0 m 0 ls []) := by
    intro Q hret
    skip
    unfold fX0_goOn at h
    refine lv_aload_n hx hb dX0_goOn_0 rfl (lv_at hl 0 rfl) ?_
    refine va_get (D := D) (ci := 0) (C := RX0) (T := TX0) (N := 3) hx hb hts iX0 hown hK hP 0 wCo_0 rfl 0 (by decide) q1 (fun _ h9 => h9) rfl dX0_goOn_1 ?_
    refine lv_if_lt (tgt := 44) hx hb dX0_goOn_4 (by decide) (fun c4 => ?_) (fun c4 => ?_)
    · have h := br_1 h c4
      cases h
      exact hret _ _ _ _ hP hD hS dX0_goOn_44
    · have h := br_0 h c4
      refine lv_aload_n hx hb dX0_goOn_7 rfl (lv_at hl 0 rfl) ?_
      refine va_get (D := D) (ci := 0) (C := RX0) (T := TX0) (N := 3) hx hb hts iX0 hown hK hP 0 wCo_0 rfl 0 (by decide) q1 (fun _ h9 => h9) rfl dX0_goOn_8 ?_
      refine lv_bipush (v := (40 : Int32)) hx hb dX0_goOn_11 (by decide) ?_
      refine lv_icmp_ge (tgt := 44) hx hb dX0_goOn_13 (by decide) (fun c13 => ?_) (fun c13 => ?_)
      · have h := br_1 h c13
        cases h
        exact hret _ _ _ _ hP hD hS dX0_goOn_44
      · have h := br_0 h c13
        refine lv_aload_n hx hb dX0_goOn_16 rfl (lv_at hl 0 rfl) ?_
        refine va_get (D := D) (ci := 0) (C := RX0) (T := TX0) (N := 3) hx hb hts iX0 hown hK hP 0 wCo_0 rfl 2 (by decide) q2 (fun _ h9 => h9) rfl dX0_goOn_17 ?_
        refine lv_aload_n hx hb dX0_goOn_20 rfl (lv_at hl 0 rfl) ?_
        refine va_get (D := D) (ci := 0) (C := RX0) (T := TX0) (N := 3) hx hb hts iX0 hown hK hP 0 wCo_0 rfl 0 (by decide) q1 (fun _ h9 => h9) rfl dX0_goOn_21 ?_
        refine lv_aload_n hx hb dX0_goOn_24 rfl (lv_at hl 0 rfl) ?_
        refine va_get (D := D) (ci := 0) (C := RX0) (T := TX0) (N := 3) hx hb hts iX0 hown hK hP 0 wCo_0 rfl 1 (by decide) q3 (fun _ h9 => h9) rfl dX0_goOn_25 ?_
        obtain ⟨hin1, h⟩ := ck_some h
        refine va_last hx hb hK hP hD hS 1 2 wCo_1 rfl hin1 dX0_goOn_28 (fun H locs hP hD hS => ?_)
        have hP : va_P D vwCl (wCo T a0 a1 cdee cnow (vp_updL cahe cdee.toNatClampNeg cnow)) H := hP
        have hD : va_D A (wCo T a0 a1 cdee cnow (vp_updL cahe cdee.toNatClampNeg cnow)) := hD
        refine lv_aload_n hx hb dX0_goOn_29 rfl (lv_at hl 0 rfl) ?_
        refine lv_dup hx hb dX0_goOn_30 rfl ?_
        refine va_get (D := D) (ci := 0) (C := RX0) (T := TX0) (N := 3) hx hb hts iX0 hown hK hP 0 wCo_0 rfl 0 (by decide) q1 (fun _ h9 => h9) rfl dX0_goOn_31 ?_
        refine lv_iconst (v := (1 : Int32)) hx hb dX0_goOn_34 (by decide) ?_
        refine lv_iadd hx hb dX0_goOn_35 ?_
        refine va_put (D := D) (ci := 0) (v := .int (cdee + (1 : Int32))) (ty := .int) (C := RX0) (T := TX0) (N := 3) hx hb hts iX0 tyX0 tyX0_ok nmX0 hown hK hP hD hS 0 wCo_0 rfl 0 (by decide) q1 (fun _ h9 => h9) rfl (by decide +kernel) rfl rfl (Nat.le_of_ble_eq_true rfl) dX0_goOn_36 (fun H locs hP hD hS => ?_)
        have hP : va_P D vwCl (wCo T a0 a1 (cdee + (1 : Int32)) cnow (vp_updL cahe cdee.toNatClampNeg cnow)) H := hP
        have hD : va_D A (wCo T a0 a1 (cdee + (1 : Int32)) cnow (vp_updL cahe cdee.toNatClampNeg cnow)) := hD
        refine lv_aload_n hx hb dX0_goOn_39 rfl (lv_at hl 0 rfl) ?_
        refine lv_lload_n hx hb dX0_goOn_40 rfl (lv_at hl 1 rfl) ?_
        refine va_put (D := D) (ci := 0) (v := .long x1) (ty := .long) (C := RX0) (T := TX0) (N := 3) hx hb hts iX0 tyX0 tyX0_ok nmX0 hown hK hP hD hS 0 wCo_0 rfl 1 (by decide) q3 (fun _ h9 => h9) rfl (by decide +kernel) rfl rfl (Nat.le_of_ble_eq_true rfl) dX0_goOn_41 (fun H locs hP hD hS => ?_)
        have hP : va_P D vwCl (wCo T a0 a1 (cdee + (1 : Int32)) x1 (vp_updL cahe cdee.toNatClampNeg cnow)) H := hP
        have hD : va_D A (wCo T a0 a1 (cdee + (1 : Int32)) x1 (vp_updL cahe cdee.toNatClampNeg cnow)) := hD
        cases h
        exact hret _ _ _ _ hP hD hS dX0_goOn_44
  exact key _ (fun H locs pc ls hP hD hS hd => W.vret hx hb hr (fun t ht hW => ⟨⟨(), rfl, trivial, by show _ ∧ _; rw [ht]; exact ⟨hP, hD⟩⟩, hS.F ht⟩) hS.2.2 hd)
set_option maxHeartbeats 4000000 in
set_option maxRecDepth 100000 in
theorem kX0_goBackTo (l : Launch) (D : va_G) (T : Nat → ClassId) (F : Nat) (a0 : Nat) (a1 : Nat) (cdee : Int32) (cnow : Int64) (cahe : Nat → Int64) (x1 : Int32) (zcdee : Int32) (zcnow : Int64) (h : fX0_goBackTo F cdee cnow cahe x1 = some (zcdee, zcnow)) : ∀ sz : Nat, Met l yX0_goBackTo wsX0_goBackTo ({ frames := 0, cells := 0, slots := 0, locals := 0 } : Room) (va_Pc [.ref a0, .int x1] (fun U => U.heap.size = sz ∧ va_P D vwCl (wCo T a0 a1 cdee cnow cahe) U.heap ∧ KK D T U ∧ va_D (fun _ => True) (wCo T a0 a1 cdee cnow cahe))) (va_Qv (fun _ : Unit => True) (fun _ t => va_P D vwCl (wCo T a0 a1 zcdee zcnow cahe) t.heap ∧ va_D (va_A (wCo T a0 a1 cdee cnow cahe) sz) (wCo T a0 a1 zcdee zcnow cahe)) (va_A (wCo T a0 a1 cdee cnow cahe) sz)) 0 0 (va_A (wCo T a0 a1 cdee cnow cahe) sz) := by
  intro sz
  refine Met.ofW (cc := cX0_goBackTo) (maxL := 2) (ret := none) (by decide) rfl ?_
  intro p e s m args below meth c s₁ B hml hv
  obtain ⟨ha, hsz, hP, hKK, hD0⟩ := hv
  have hx := B.exec
  have hb := B.bytes
  have hr := B.returns
  have hts := atoms_spec (ws := wsX0_goBackTo) B.pre
  have hown : s.vm.findClass RX0 = some m.cls := findClass_of_methodNamed B.named
  have hlocks := B.notSynchronized
  have hK := hKK.1
  have hFix : CallFix p m c cX0_goBackTo 2 s args wsX0_goBackTo RX0 := ⟨hx, hb, hml, hown, hts⟩
  have q1 := hts _ (List.mem_of_getElem? (i := 1) (show wsX0_goBackTo[1]? = some (Cond.fieldLink RX0 9 "PartyWill$Course" "deeds" "I") from rfl))
  have q2 := hts _ (List.mem_of_getElem? (i := 2) (show wsX0_goBackTo[2]? = some (Cond.fieldLink RX0 19 "PartyWill$Course" "ahead" "[J") from rfl))
  have q3 := hts _ (List.mem_of_getElem? (i := 3) (show wsX0_goBackTo[3]? = some (Cond.fieldLink RX0 15 "PartyWill$Course" "now" "J") from rfl))
  have iX0 : ∀ w ∈ u_ws RX0 TX0 3, w ∈ wsX0_goBackTo := fun w h => List.mem_cons_of_mem _ (List.mem_append_right _ (h))
  subst hsz
  have hD := hD0.self (sz := s.heap.size)
  generalize hAe : va_A (wCo T a0 a1 cdee cnow cahe) s.heap.size = A at hD ⊢
  have hA : ∀ q : Nat, s.heap.size ≤ q → A q := fun q h => by rw [← hAe]; exact Or.inr h
  have hS : va_S A s.heap s.heap [] := va_S.rf
  have hP : va_P D vwCl (wCo T a0 a1 cdee cnow cahe) s.heap := hP
  obtain ⟨ls, hl, e0⟩ := my_entry (m := m) (n := 2) ha (Nat.le_of_ble_eq_true rfl)
  rw [e0]
  have hl : lv_has ls 2 [(0, .ref a0), (1, .int x1)] := hl
  have key : ∀ Q : State → Prop, (∀ (H : Heap) (locs : List Loc) (pc : Nat) (ls : Array Slot), va_P D vwCl (wCo T a0 a1 zcdee zcnow cahe) H → va_D A (wCo T a0 a1 zcdee zcnow cahe) → va_S A s.heap H locs → decode cX0_goBackTo pc = .ok (.return_, 1) → W p l e ({ frames := 0, cells := 0, slots := 0, locals := 0 } : Room) s m args below meth c H locs 0 0 Q (F0 m pc ls [])) → W p l e ({ frames := 0, cells := 0, slots := 0, locals := 0 } : Room) s m args below meth c s.heap [] 0 0 Q (F0 m 0 ls []) := by
    intro Q hret
    skip
    unfold fX0_goBackTo at h
    refine lv_iload_n hx hb dX0_goBackTo_0 rfl (lv_at hl 1 rfl) ?_
    refine lv_if_lt (tgt := 27) hx hb dX0_goBackTo_1 (by decide) (fun c1 => ?_) (fun c1 => ?_)
    · have h := br_1 h c1
      cases h
      exact hret _ _ _ _ hP hD hS dX0_goBackTo_27
    · have h := br_0 h c1
      refine lv_iload_n hx hb dX0_goBackTo_4 rfl (lv_at hl 1 rfl) ?_
      refine lv_aload_n hx hb dX0_goBackTo_5 rfl (lv_at hl 0 rfl) ?_
      refine va_get (D := D) (ci := 0) (C := RX0) (T := TX0) (N := 3) hx hb hts iX0 hown hK hP 0 wCo_0 rfl 0 (by decide) q1 (fun _ h9 => h9) rfl dX0_goBackTo_6 ?_
      refine lv_icmp_ge (tgt := 27) hx hb dX0_goBackTo_9 (by decide) (fun c9 => ?_) (fun c9 => ?_)
      · have h := br_1 h c9
        cases h
        exact hret _ _ _ _ hP hD hS dX0_goBackTo_27
      · have h := br_0 h c9
        refine lv_aload_n hx hb dX0_goBackTo_12 rfl (lv_at hl 0 rfl) ?_
        refine lv_aload_n hx hb dX0_goBackTo_13 rfl (lv_at hl 0 rfl) ?_
        refine va_get (D := D) (ci := 0) (C := RX0) (T := TX0) (N := 3) hx hb hts iX0 hown hK hP 0 wCo_0 rfl 2 (by decide) q2 (fun _ h9 => h9) rfl dX0_goBackTo_14 ?_
        refine lv_iload_n hx hb dX0_goBackTo_17 rfl (lv_at hl 1 rfl) ?_
        obtain ⟨hin1, h⟩ := ck_some h
        refine va_lald hx hb hK hP 1 2 wCo_1 rfl hin1 dX0_goBackTo_18 ?_
        refine va_put (D := D) (ci := 0) (v := .long (cahe x1.toNatClampNeg)) (ty := .long) (C := RX0) (T := TX0) (N := 3) hx hb hts iX0 tyX0 tyX0_ok nmX0 hown hK hP hD hS 0 wCo_0 rfl 1 (by decide) q3 (fun _ h9 => h9) rfl (by decide +kernel) rfl rfl (Nat.le_of_ble_eq_true rfl) dX0_goBackTo_19 (fun H locs hP hD hS => ?_)
        have hP : va_P D vwCl (wCo T a0 a1 cdee (cahe x1.toNatClampNeg) cahe) H := hP
        have hD : va_D A (wCo T a0 a1 cdee (cahe x1.toNatClampNeg) cahe) := hD
        refine lv_aload_n hx hb dX0_goBackTo_22 rfl (lv_at hl 0 rfl) ?_
        refine lv_iload_n hx hb dX0_goBackTo_23 rfl (lv_at hl 1 rfl) ?_
        refine va_put (D := D) (ci := 0) (v := .int x1) (ty := .int) (C := RX0) (T := TX0) (N := 3) hx hb hts iX0 tyX0 tyX0_ok nmX0 hown hK hP hD hS 0 wCo_0 rfl 0 (by decide) q1 (fun _ h9 => h9) rfl (by decide +kernel) rfl rfl (Nat.le_of_ble_eq_true rfl) dX0_goBackTo_24 (fun H locs hP hD hS => ?_)
        have hP : va_P D vwCl (wCo T a0 a1 x1 (cahe x1.toNatClampNeg) cahe) H := hP
        have hD : va_D A (wCo T a0 a1 x1 (cahe x1.toNatClampNeg) cahe) := hD
        cases h
        exact hret _ _ _ _ hP hD hS dX0_goBackTo_27
  exact key _ (fun H locs pc ls hP hD hS hd => W.vret hx hb hr (fun t ht hW => ⟨⟨(), rfl, trivial, by show _ ∧ _; rw [ht]; exact ⟨hP, hD⟩⟩, hS.F ht⟩) hS.2.2 hd)
set_option maxHeartbeats 4000000 in
set_option maxRecDepth 100000 in
theorem kX0_takeAll (l : Launch) (D : va_G) (T : Nat → ClassId) (F : Nat) (a0 : Nat) (a1 : Nat) (b0 : Nat) (b1 : Nat) (cdee : Int32) (cnow : Int64) (cahe : Nat → Int64) (odee : Int32) (onow : Int64) (oahe : Nat → Int64) (zcdee : Int32) (zcnow : Int64) (zcahe : Nat → Int64) (h : fX0_takeAll F cdee cnow cahe odee onow oahe = some (zcdee, zcnow, zcahe)) : ∀ sz : Nat, Met l yX0_takeAll wsX0_takeAll ({ frames := 1, cells := 0, slots := 0, locals := 60 } : Room) (va_Pc [.ref a0, .ref b0] (fun U => U.heap.size = sz ∧ va_P D vwCl (wCC T a0 a1 b0 b1 cdee cnow cahe odee onow oahe) U.heap ∧ KK D T U ∧ va_D (fun _ => True) (wCC T a0 a1 b0 b1 cdee cnow cahe odee onow oahe))) (va_Qv (fun _ : Unit => True) (fun _ t => va_P D vwCl (wCC T a0 a1 b0 b1 zcdee zcnow zcahe odee onow oahe) t.heap ∧ va_D (va_A (wCC T a0 a1 b0 b1 cdee cnow cahe odee onow oahe) sz) (wCC T a0 a1 b0 b1 zcdee zcnow zcahe odee onow oahe)) (va_A (wCC T a0 a1 b0 b1 cdee cnow cahe odee onow oahe) sz)) 0 0 (va_A (wCC T a0 a1 b0 b1 cdee cnow cahe odee onow oahe) sz) := by
  intro sz
  refine Met.ofW (cc := cX0_takeAll) (maxL := 2) (ret := none) (by decide) rfl ?_
  intro p e s m args below meth c s₁ B hml hv
  obtain ⟨ha, hsz, hP, hKK, hD0⟩ := hv
  have hx := B.exec
  have hb := B.bytes
  have hr := B.returns
  have hts := atoms_spec (ws := wsX0_takeAll) B.pre
  have hown : s.vm.findClass RX0 = some m.cls := findClass_of_methodNamed B.named
  have hlocks := B.notSynchronized
  have hK := hKK.1
  have hFix : CallFix p m c cX0_takeAll 2 s args wsX0_takeAll RX0 := ⟨hx, hb, hml, hown, hts⟩
  have q1 := hts _ (List.mem_of_getElem? (i := 1) (show wsX0_takeAll[1]? = some (Cond.fieldLink RX0 9 "PartyWill$Course" "deeds" "I") from rfl))
  have q2 := hts _ (List.mem_of_getElem? (i := 2) (show wsX0_takeAll[2]? = some (Cond.fieldLink RX0 15 "PartyWill$Course" "now" "J") from rfl))
  have q3 := hts _ (List.mem_of_getElem? (i := 3) (show wsX0_takeAll[3]? = some (Cond.fieldLink RX0 19 "PartyWill$Course" "ahead" "[J") from rfl))
  have q4 := hts _ (List.mem_of_getElem? (i := 4) (show wsX0_takeAll[4]? = some (Cond.methodLink RX0 23 arraycopyName) from rfl))
  have q5 := hts _ (List.mem_of_getElem? (i := 5) (show wsX0_takeAll[5]? = some (Cond.native arraycopyName) from rfl))
  have q6 := hts _ (List.mem_of_getElem? (i := 6) (show wsX0_takeAll[6]? = some (Cond.static arraycopyName) from rfl))
  have q7 := hts _ (List.mem_of_getElem? (i := 7) (show wsX0_takeAll[7]? = some (Cond.initialized "java/lang/System") from rfl))
  have iX0 : ∀ w ∈ u_ws RX0 TX0 3, w ∈ wsX0_takeAll := fun w h => List.mem_cons_of_mem _ (List.mem_append_right _ (h))
  subst hsz
  have hD := hD0.self (sz := s.heap.size)
  generalize hAe : va_A (wCC T a0 a1 b0 b1 cdee cnow cahe odee onow oahe) s.heap.size = A at hD ⊢
  have hA : ∀ q : Nat, s.heap.size ≤ q → A q := fun q h => by rw [← hAe]; exact Or.inr h
  have hS : va_S A s.heap s.heap [] := va_S.rf
  have hP : va_P D vwCl (wCC T a0 a1 b0 b1 cdee cnow cahe odee onow oahe) s.heap := hP
  obtain ⟨ls, hl, e0⟩ := my_entry (m := m) (n := 2) ha (Nat.le_of_ble_eq_true rfl)
  rw [e0]
  have hl : lv_has ls 2 [(0, .ref a0), (1, .ref b0)] := hl
  have key : ∀ Q : State → Prop, (∀ (H : Heap) (locs : List Loc) (pc : Nat) (ls : Array Slot), va_P D vwCl (wCC T a0 a1 b0 b1 zcdee zcnow zcahe odee onow oahe) H → va_D A (wCC T a0 a1 b0 b1 zcdee zcnow zcahe odee onow oahe) → va_S A s.heap H locs → decode cX0_takeAll pc = .ok (.return_, 1) → W p l e ({ frames := 1, cells := 0, slots := 0, locals := 60 } : Room) s m args below meth c H locs 0 0 Q (F0 m pc ls [])) → W p l e ({ frames := 1, cells := 0, slots := 0, locals := 60 } : Room) s m args below meth c s.heap [] 0 0 Q (F0 m 0 ls []) := by
    intro Q hret
    skip
    unfold fX0_takeAll at h
    refine lv_aload_n hx hb dX0_takeAll_0 rfl (lv_at hl 0 rfl) ?_
    refine lv_aload_n hx hb dX0_takeAll_1 rfl (lv_at hl 1 rfl) ?_
    refine va_get (D := D) (ci := 0) (C := RX0) (T := TX0) (N := 3) hx hb hts iX0 hown hK hP 2 wCC_2 rfl 0 (by decide) q1 (fun _ h9 => h9) rfl dX0_takeAll_2 ?_
    refine va_put (D := D) (ci := 0) (v := .int odee) (ty := .int) (C := RX0) (T := TX0) (N := 3) hx hb hts iX0 tyX0 tyX0_ok nmX0 hown hK hP hD hS 0 wCC_0 rfl 0 (by decide) q1 (fun _ h9 => h9) rfl (by decide +kernel) rfl rfl (Nat.le_of_ble_eq_true rfl) dX0_takeAll_5 (fun H locs hP hD hS => ?_)
    have hP : va_P D vwCl (wCC T a0 a1 b0 b1 odee cnow cahe odee onow oahe) H := hP
    have hD : va_D A (wCC T a0 a1 b0 b1 odee cnow cahe odee onow oahe) := hD
    refine lv_aload_n hx hb dX0_takeAll_8 rfl (lv_at hl 0 rfl) ?_
    refine lv_aload_n hx hb dX0_takeAll_9 rfl (lv_at hl 1 rfl) ?_
    refine va_get (D := D) (ci := 0) (C := RX0) (T := TX0) (N := 3) hx hb hts iX0 hown hK hP 2 wCC_2 rfl 1 (by decide) q2 (fun _ h9 => h9) rfl dX0_takeAll_10 ?_
    refine va_put (D := D) (ci := 0) (v := .long onow) (ty := .long) (C := RX0) (T := TX0) (N := 3) hx hb hts iX0 tyX0 tyX0_ok nmX0 hown hK hP hD hS 0 wCC_0 rfl 1 (by decide) q2 (fun _ h9 => h9) rfl (by decide +kernel) rfl rfl (Nat.le_of_ble_eq_true rfl) dX0_takeAll_13 (fun H locs hP hD hS => ?_)
    have hP : va_P D vwCl (wCC T a0 a1 b0 b1 odee onow cahe odee onow oahe) H := hP
    have hD : va_D A (wCC T a0 a1 b0 b1 odee onow cahe odee onow oahe) := hD
    refine lv_aload_n hx hb dX0_takeAll_16 rfl (lv_at hl 1 rfl) ?_
    refine va_get (D := D) (ci := 0) (C := RX0) (T := TX0) (N := 3) hx hb hts iX0 hown hK hP 2 wCC_2 rfl 2 (by decide) q3 (fun _ h9 => h9) rfl dX0_takeAll_17 ?_
    refine lv_iconst (v := (0 : Int32)) hx hb dX0_takeAll_20 (by decide) ?_
    refine lv_aload_n hx hb dX0_takeAll_21 rfl (lv_at hl 0 rfl) ?_
    refine va_get (D := D) (ci := 0) (C := RX0) (T := TX0) (N := 3) hx hb hts iX0 hown hK hP 0 wCC_0 rfl 2 (by decide) q3 (fun _ h9 => h9) rfl dX0_takeAll_22 ?_
    refine lv_iconst (v := (0 : Int32)) hx hb dX0_takeAll_25 (by decide) ?_
    refine lv_bipush (v := (40 : Int32)) hx hb dX0_takeAll_26 (by decide) ?_
    obtain ⟨hin1, h⟩ := ck_some h
    refine va_copyl hx hb (hml.trans hl.1.symm) hown q4 q5 q6 q7 hK hP hD hS 3 1 2 2 wCC_3 wCC_1 rfl rfl rfl (fun q => hin1 (Or.inl q)) (fun q => hin1 (Or.inr (Or.inl q))) (fun q => hin1 (Or.inr (Or.inr (Or.inl q)))) (Nat.not_lt.mp (fun q => hin1 (Or.inr (Or.inr (Or.inr (Or.inl q)))))) (Nat.not_lt.mp (fun q => hin1 (Or.inr (Or.inr (Or.inr (Or.inr q)))))) (fun _ _ => rfl) (Nat.le_of_ble_eq_true rfl) (by decide +kernel) dX0_takeAll_28 (fun H locs hP hD hS => ?_)
    have hP : va_P D vwCl (wCC T a0 a1 b0 b1 odee onow (va_cpy oahe cahe (0 : Int32).toNatClampNeg (0 : Int32).toNatClampNeg (40 : Int32).toNatClampNeg) odee onow oahe) H := hP
    have hD : va_D A (wCC T a0 a1 b0 b1 odee onow (va_cpy oahe cahe (0 : Int32).toNatClampNeg (0 : Int32).toNatClampNeg (40 : Int32).toNatClampNeg) odee onow oahe) := hD
    cases h
    exact hret _ _ _ _ hP hD hS dX0_takeAll_31
  exact key _ (fun H locs pc ls hP hD hS hd => W.vret hx hb hr (fun t ht hW => ⟨⟨(), rfl, trivial, by show _ ∧ _; rw [ht]; exact ⟨hP, hD⟩⟩, hS.F ht⟩) hS.2.2 hd)
set_option maxHeartbeats 4000000 in
set_option maxRecDepth 100000 in
theorem kX4_takesClause (l : Launch) (D : va_G) (T : Nat → ClassId) (F : Nat) (b0 : Nat) (a0 : Nat) (a1 : Nat) (a2 : Nat) (a3 : Nat) (a4 : Nat) (a5 : Nat) (rdue : Int32) (rtun : Int32) (rsee : Int32) (rbeg : Int32) (size : Int32) (clause : Int32) (eff : Nat → Int32) (kin : Nat → Int32) (gri : Nat → Int32) (sig : Nat → Int32) (see : Nat → Int32) (x1 : Int32) (r : Int32) (zrdue : Int32) (zclause : Int32) (h : fX4_takesClause F rdue clause x1 = some (r, zrdue, zclause)) : ∀ sz : Nat, Met l yX4_takesClause wsX4_takesClause ({ frames := 0, cells := 0, slots := 0, locals := 0 } : Room) (va_Pc [.ref b0, .int x1, .ref a0] (fun U => U.heap.size = sz ∧ va_P D vwCl (wRP T b0 a0 a1 a2 a3 a4 a5 rdue rtun rsee rbeg size clause eff kin gri sig see) U.heap ∧ KK D T U ∧ va_D (fun _ => True) (wRP T b0 a0 a1 a2 a3 a4 a5 rdue rtun rsee rbeg size clause eff kin gri sig see))) (va_Qi (fun r' (_ : Unit) => r' = r ∧ b01 r) (fun _ t => va_P D vwCl (wRP T b0 a0 a1 a2 a3 a4 a5 zrdue rtun rsee rbeg size zclause eff kin gri sig see) t.heap ∧ va_D (va_A (wRP T b0 a0 a1 a2 a3 a4 a5 rdue rtun rsee rbeg size clause eff kin gri sig see) sz) (wRP T b0 a0 a1 a2 a3 a4 a5 zrdue rtun rsee rbeg size zclause eff kin gri sig see)) (va_A (wRP T b0 a0 a1 a2 a3 a4 a5 rdue rtun rsee rbeg size clause eff kin gri sig see) sz)) 0 0 (va_A (wRP T b0 a0 a1 a2 a3 a4 a5 rdue rtun rsee rbeg size clause eff kin gri sig see) sz) := by
  intro sz
  refine Met.ofW (cc := cX4_takesClause) (maxL := 3) (ret := some .boolean) (by decide) rfl ?_
  intro p e s m args below meth c s₁ B hml hv
  obtain ⟨ha, hsz, hP, hKK, hD0⟩ := hv
  have hx := B.exec
  have hb := B.bytes
  have hr := B.returns
  have hts := atoms_spec (ws := wsX4_takesClause) B.pre
  have hown : s.vm.findClass RX4 = some m.cls := findClass_of_methodNamed B.named
  have hlocks := B.notSynchronized
  have hK := hKK.1
  have hFix : CallFix p m c cX4_takesClause 3 s args wsX4_takesClause RX4 := ⟨hx, hb, hml, hown, hts⟩
  have q1 := hts _ (List.mem_of_getElem? (i := 1) (show wsX4_takesClause[1]? = some (Cond.fieldLink RX4 11 "PartyWill$Reader" "due" "I") from rfl))
  have iX2 : ∀ w ∈ u_ws RX2 TX2 7, w ∈ wsX4_takesClause := fun w h => List.mem_cons_of_mem _ (List.mem_append_left _ (List.mem_append_right _ (h)))
  have iX4 : ∀ w ∈ u_ws RX4 TX4 4, w ∈ wsX4_takesClause := fun w h => List.mem_cons_of_mem _ (List.mem_append_right _ (h))
  subst hsz
  have hD := hD0.self (sz := s.heap.size)
  generalize hAe : va_A (wRP T b0 a0 a1 a2 a3 a4 a5 rdue rtun rsee rbeg size clause eff kin gri sig see) s.heap.size = A at hD ⊢
  have hA : ∀ q : Nat, s.heap.size ≤ q → A q := fun q h => by rw [← hAe]; exact Or.inr h
  have hS : va_S A s.heap s.heap [] := va_S.rf
  have hP : va_P D vwCl (wRP T b0 a0 a1 a2 a3 a4 a5 rdue rtun rsee rbeg size clause eff kin gri sig see) s.heap := hP
  obtain ⟨ls, hl, e0⟩ := my_entry (m := m) (n := 3) ha (Nat.le_of_ble_eq_true rfl)
  rw [e0]
  have hl : lv_has ls 3 [(0, .ref b0), (1, .int x1), (2, .ref a0)] := hl
  have key : ∀ Q : State → Prop, (∀ (H : Heap) (locs : List Loc) (pc : Nat) (ls : Array Slot), va_P D vwCl (wRP T b0 a0 a1 a2 a3 a4 a5 zrdue rtun rsee rbeg size zclause eff kin gri sig see) H → va_D A (wRP T b0 a0 a1 a2 a3 a4 a5 zrdue rtun rsee rbeg size zclause eff kin gri sig see) → va_S A s.heap H locs → decode cX4_takesClause pc = .ok (.ireturn, 1) → b01 r → W p l e ({ frames := 0, cells := 0, slots := 0, locals := 0 } : Room) s m args below meth c H locs 0 0 Q (F0 m pc ls [.int r])) → W p l e ({ frames := 0, cells := 0, slots := 0, locals := 0 } : Room) s m args below meth c s.heap [] 0 0 Q (F0 m 0 ls []) := by
    intro Q hret
    skip
    unfold fX4_takesClause at h
    refine lv_aload_n hx hb dX4_takesClause_0 rfl (lv_at hl 2 rfl) ?_
    refine lv_iload_n hx hb dX4_takesClause_1 rfl (lv_at hl 1 rfl) ?_
    refine va_putN (host := "PartyWill") (D := D) (ci := 1) (v := .int x1) (ty := .int) (C := RX2) (T := TX2) (N := 7) hx hb hts iX2 tyX2 tyX2_ok nmX2 hown hK hP hD hS 1 wRP_1 rfl 1 (by decide) (va_Nw.use rfl (nw_X4_59 hKK.2)) (fun _ h9 => h9) rfl (by decide +kernel) rfl rfl (Nat.le_of_ble_eq_true rfl) dX4_takesClause_2 (fun H locs hP hD hS => ?_)
    have hP : va_P D vwCl (wRP T b0 a0 a1 a2 a3 a4 a5 rdue rtun rsee rbeg size x1 eff kin gri sig see) H := hP
    have hD : va_D A (wRP T b0 a0 a1 a2 a3 a4 a5 rdue rtun rsee rbeg size x1 eff kin gri sig see) := hD
    refine lv_aload_n hx hb dX4_takesClause_5 rfl (lv_at hl 0 rfl) ?_
    refine lv_iconst (v := (2 : Int32)) hx hb dX4_takesClause_6 (by decide) ?_
    refine va_put (D := D) (ci := 2) (v := .int (2 : Int32)) (ty := .int) (C := RX4) (T := TX4) (N := 4) hx hb hts iX4 tyX4 tyX4_ok nmX4 hown hK hP hD hS 0 wRP_0 rfl 0 (by decide) q1 (fun _ h9 => h9) rfl (by decide +kernel) rfl rfl (Nat.le_of_ble_eq_true rfl) dX4_takesClause_7 (fun H locs hP hD hS => ?_)
    have hP : va_P D vwCl (wRP T b0 a0 a1 a2 a3 a4 a5 (2 : Int32) rtun rsee rbeg size x1 eff kin gri sig see) H := hP
    have hD : va_D A (wRP T b0 a0 a1 a2 a3 a4 a5 (2 : Int32) rtun rsee rbeg size x1 eff kin gri sig see) := hD
    refine lv_iload_n hx hb dX4_takesClause_10 rfl (lv_at hl 1 rfl) ?_
    refine lv_iconst (v := (1 : Int32)) hx hb dX4_takesClause_11 (by decide) ?_
    refine lv_icmp_lt (tgt := 25) hx hb dX4_takesClause_12 (by decide) (fun c12 => ?_) (fun c12 => ?_)
    · have h := br_1 h c12
      refine lv_iconst (v := (0 : Int32)) hx hb dX4_takesClause_25 (by decide) ?_
      cases h
      exact hret _ _ _ _ hP hD hS dX4_takesClause_26 (Or.inl rfl)
    · have h := br_0 h c12
      refine lv_iload_n hx hb dX4_takesClause_15 rfl (lv_at hl 1 rfl) ?_
      refine lv_bipush (v := (9 : Int32)) hx hb dX4_takesClause_16 (by decide) ?_
      refine lv_icmp_gt (tgt := 25) hx hb dX4_takesClause_18 (by decide) (fun c18 => ?_) (fun c18 => ?_)
      · have h := br_1 h c18
        refine lv_iconst (v := (0 : Int32)) hx hb dX4_takesClause_25 (by decide) ?_
        cases h
        exact hret _ _ _ _ hP hD hS dX4_takesClause_26 (Or.inl rfl)
      · have h := br_0 h c18
        refine lv_iconst (v := (1 : Int32)) hx hb dX4_takesClause_21 (by decide) ?_
        refine lv_goto (tgt := 26) hx hb dX4_takesClause_22 (by decide) ?_
        cases h
        exact hret _ _ _ _ hP hD hS dX4_takesClause_26 (Or.inr rfl)
  exact key _ (fun H locs pc ls hP hD hS hd hb1 => W.zret hx hb hr (b01_n hb1) (fun t ht hW => ⟨⟨_, (), rfl, ⟨rfl, hb1⟩, by show _ ∧ _; rw [ht]; exact ⟨hP, hD⟩⟩, hS.F ht⟩) hS.2.2 hd)
set_option maxHeartbeats 4000000 in
set_option maxRecDepth 100000 in
theorem kX4_isFigure (l : Launch) (D : va_G) (T : Nat → ClassId) (F : Nat) (x0 : Int32) (r : Int32) (h : fX4_isFigure F x0 = some (r)) : Met l yX4_isFigure wsX4_isFigure ({ frames := 0, cells := 0, slots := 0, locals := 0 } : Room) (va_Pc [.int x0] (fun U => va_P D vwCl ([] : va_W) U.heap ∧ KK D T U)) (vp_Si (fun r' => r' = r ∧ b01 r)) 0 0 (fun _ => False) := by
  refine Met.ofW (cc := cX4_isFigure) (maxL := 1) (ret := some .boolean) (by decide) rfl ?_
  intro p e s m args below meth c s₁ B hml hv
  obtain ⟨ha, hP, hKK⟩ := hv
  have hx := B.exec
  have hb := B.bytes
  have hr := B.returns
  have hts := atoms_spec (ws := wsX4_isFigure) B.pre
  have hown : s.vm.findClass RX4 = some m.cls := findClass_of_methodNamed B.named
  have hlocks := B.notSynchronized
  have hK := hKK.1
  have hFix : CallFix p m c cX4_isFigure 1 s args wsX4_isFigure RX4 := ⟨hx, hb, hml, hown, hts⟩
  obtain ⟨ls, hl, e0⟩ := my_entry (m := m) (n := 1) ha (Nat.le_of_ble_eq_true rfl)
  rw [e0]
  have hl : lv_has ls 1 [(0, .int x0)] := hl
  have key : ∀ Q : State → Prop, (∀ (pc : Nat) (ls : Array Slot), decode cX4_isFigure pc = .ok (.ireturn, 1) → b01 r → W p l e ({ frames := 0, cells := 0, slots := 0, locals := 0 } : Room) s m args below meth c s.heap [] 0 0 Q (F0 m pc ls [.int r])) → W p l e ({ frames := 0, cells := 0, slots := 0, locals := 0 } : Room) s m args below meth c s.heap [] 0 0 Q (F0 m 0 ls []) := by
    intro Q hret
    unfold fX4_isFigure at h
    refine lv_iload_n hx hb dX4_isFigure_0 rfl (lv_at hl 0 rfl) ?_
    refine lv_if_lt (tgt := 14) hx hb dX4_isFigure_1 (by decide) (fun c1 => ?_) (fun c1 => ?_)
    · have h := br_1 h c1
      refine lv_iconst (v := (0 : Int32)) hx hb dX4_isFigure_14 (by decide) ?_
      cases h
      exact hret _ _ dX4_isFigure_15 (Or.inl rfl)
    · have h := br_0 h c1
      refine lv_iload_n hx hb dX4_isFigure_4 rfl (lv_at hl 0 rfl) ?_
      refine lv_bipush (v := (9 : Int32)) hx hb dX4_isFigure_5 (by decide) ?_
      refine lv_icmp_gt (tgt := 14) hx hb dX4_isFigure_7 (by decide) (fun c7 => ?_) (fun c7 => ?_)
      · have h := br_1 h c7
        refine lv_iconst (v := (0 : Int32)) hx hb dX4_isFigure_14 (by decide) ?_
        cases h
        exact hret _ _ dX4_isFigure_15 (Or.inl rfl)
      · have h := br_0 h c7
        refine lv_iconst (v := (1 : Int32)) hx hb dX4_isFigure_10 (by decide) ?_
        refine lv_goto (tgt := 15) hx hb dX4_isFigure_11 (by decide) ?_
        cases h
        exact hret _ _ dX4_isFigure_15 (Or.inr rfl)
  exact key _ (fun pc ls hd hb1 => W.zret hx hb hr (b01_n hb1) (fun t ht hW => ⟨_, rfl, ⟨rfl, hb1⟩, ht⟩) (fun q h => by cases h) hd)
set_option maxHeartbeats 4000000 in
set_option maxRecDepth 100000 in
theorem kX5_isTune (l : Launch) (D : va_G) (T : Nat → ClassId) (F : Nat) (x0 : Int32) (r : Int32) (h : fX5_isTune F x0 = some (r)) : Met l yX5_isTune wsX5_isTune ({ frames := 0, cells := 0, slots := 0, locals := 0 } : Room) (va_Pc [.int x0] (fun U => va_P D vwCl ([] : va_W) U.heap ∧ KK D T U)) (vp_Si (fun r' => r' = r ∧ b01 r)) 0 0 (fun _ => False) := by
  refine Met.ofW (cc := cX5_isTune) (maxL := 1) (ret := some .boolean) (by decide) rfl ?_
  intro p e s m args below meth c s₁ B hml hv
  obtain ⟨ha, hP, hKK⟩ := hv
  have hx := B.exec
  have hb := B.bytes
  have hr := B.returns
  have hts := atoms_spec (ws := wsX5_isTune) B.pre
  have hown : s.vm.findClass RX5 = some m.cls := findClass_of_methodNamed B.named
  have hlocks := B.notSynchronized
  have hK := hKK.1
  have hFix : CallFix p m c cX5_isTune 1 s args wsX5_isTune RX5 := ⟨hx, hb, hml, hown, hts⟩
  obtain ⟨ls, hl, e0⟩ := my_entry (m := m) (n := 1) ha (Nat.le_of_ble_eq_true rfl)
  rw [e0]
  have hl : lv_has ls 1 [(0, .int x0)] := hl
  have key : ∀ Q : State → Prop, (∀ (pc : Nat) (ls : Array Slot), decode cX5_isTune pc = .ok (.ireturn, 1) → b01 r → W p l e ({ frames := 0, cells := 0, slots := 0, locals := 0 } : Room) s m args below meth c s.heap [] 0 0 Q (F0 m pc ls [.int r])) → W p l e ({ frames := 0, cells := 0, slots := 0, locals := 0 } : Room) s m args below meth c s.heap [] 0 0 Q (F0 m 0 ls []) := by
    intro Q hret
    unfold fX5_isTune at h
    refine lv_iload_n hx hb dX5_isTune_0 rfl (lv_at hl 0 rfl) ?_
    refine lv_if_lt (tgt := 13) hx hb dX5_isTune_1 (by decide) (fun c1 => ?_) (fun c1 => ?_)
    · have h := br_1 h c1
      refine lv_iconst (v := (0 : Int32)) hx hb dX5_isTune_13 (by decide) ?_
      cases h
      exact hret _ _ dX5_isTune_14 (Or.inl rfl)
    · have h := br_0 h c1
      refine lv_iload_n hx hb dX5_isTune_4 rfl (lv_at hl 0 rfl) ?_
      refine lv_iconst (v := (4 : Int32)) hx hb dX5_isTune_5 (by decide) ?_
      refine lv_icmp_ge (tgt := 13) hx hb dX5_isTune_6 (by decide) (fun c6 => ?_) (fun c6 => ?_)
      · have h := br_1 h c6
        refine lv_iconst (v := (0 : Int32)) hx hb dX5_isTune_13 (by decide) ?_
        cases h
        exact hret _ _ dX5_isTune_14 (Or.inl rfl)
      · have h := br_0 h c6
        refine lv_iconst (v := (1 : Int32)) hx hb dX5_isTune_9 (by decide) ?_
        refine lv_goto (tgt := 14) hx hb dX5_isTune_10 (by decide) ?_
        cases h
        exact hret _ _ dX5_isTune_14 (Or.inr rfl)
  exact key _ (fun pc ls hd hb1 => W.zret hx hb hr (b01_n hb1) (fun t ht hW => ⟨_, rfl, ⟨rfl, hb1⟩, ht⟩) (fun q h => by cases h) hd)
set_option maxHeartbeats 4000000 in
set_option maxRecDepth 100000 in
theorem kX4_takesEffect (l : Launch) (D : va_G) (T : Nat → ClassId) (F : Nat) (b0 : Nat) (a0 : Nat) (a1 : Nat) (a2 : Nat) (a3 : Nat) (a4 : Nat) (a5 : Nat) (rdue : Int32) (rtun : Int32) (rsee : Int32) (rbeg : Int32) (size : Int32) (clause : Int32) (eff : Nat → Int32) (kin : Nat → Int32) (gri : Nat → Int32) (sig : Nat → Int32) (see : Nat → Int32) (x1 : Int32) (r : Int32) (zrdue : Int32) (zrtun : Int32) (zeff : Nat → Int32) (h : fX4_takesEffect F rdue rtun eff x1 = some (r, zrdue, zrtun, zeff)) : ∀ sz : Nat, Met l yX4_takesEffect wsX4_takesEffect ({ frames := 1, cells := 0, slots := 0, locals := 20 } : Room) (va_Pc [.ref b0, .int x1, .ref a0] (fun U => U.heap.size = sz ∧ va_P D vwCl (wRP T b0 a0 a1 a2 a3 a4 a5 rdue rtun rsee rbeg size clause eff kin gri sig see) U.heap ∧ KK D T U ∧ va_D (fun _ => True) (wRP T b0 a0 a1 a2 a3 a4 a5 rdue rtun rsee rbeg size clause eff kin gri sig see))) (va_Qi (fun r' (_ : Unit) => r' = r ∧ b01 r) (fun _ t => va_P D vwCl (wRP T b0 a0 a1 a2 a3 a4 a5 zrdue zrtun rsee rbeg size clause zeff kin gri sig see) t.heap ∧ va_D (va_A (wRP T b0 a0 a1 a2 a3 a4 a5 rdue rtun rsee rbeg size clause eff kin gri sig see) sz) (wRP T b0 a0 a1 a2 a3 a4 a5 zrdue zrtun rsee rbeg size clause zeff kin gri sig see)) (va_A (wRP T b0 a0 a1 a2 a3 a4 a5 rdue rtun rsee rbeg size clause eff kin gri sig see) sz)) 0 0 (va_A (wRP T b0 a0 a1 a2 a3 a4 a5 rdue rtun rsee rbeg size clause eff kin gri sig see) sz) := by
  intro sz
  refine Met.ofW (cc := cX4_takesEffect) (maxL := 3) (ret := some .boolean) (by decide) rfl ?_
  intro p e s m args below meth c s₁ B hml hv
  obtain ⟨ha, hsz, hP, hKK, hD0⟩ := hv
  have hx := B.exec
  have hb := B.bytes
  have hr := B.returns
  have hts := atoms_spec (ws := wsX4_takesEffect) B.pre
  have hown : s.vm.findClass RX4 = some m.cls := findClass_of_methodNamed B.named
  have hlocks := B.notSynchronized
  have hK := hKK.1
  have hFix : CallFix p m c cX4_takesEffect 3 s args wsX4_takesEffect RX4 := ⟨hx, hb, hml, hown, hts⟩
  have q1 := hts _ (List.mem_of_getElem? (i := 1) (show wsX4_takesEffect[1]? = some (Cond.fieldLink RX4 15 "PartyWill$Reader" "tune" "I") from rfl))
  have q2 := hts _ (List.mem_of_getElem? (i := 2) (show wsX4_takesEffect[2]? = some (Cond.fieldLink RX4 11 "PartyWill$Reader" "due" "I") from rfl))
  have q7 := hts _ (List.mem_of_getElem? (i := 7) (show wsX4_takesEffect[7]? = some (Cond.static yX5_isTune) from rfl))
  have q8 := hts _ (List.mem_of_getElem? (i := 8) (show wsX4_takesEffect[8]? = some (Cond.initialized RX5) from rfl))
  have iX2 : ∀ w ∈ u_ws RX2 TX2 7, w ∈ wsX4_takesEffect := fun w h => List.mem_cons_of_mem _ (List.mem_append_right _ (h))
  have iX4 : ∀ w ∈ u_ws RX4 TX4 4, w ∈ wsX4_takesEffect := fun w h => List.mem_cons_of_mem _ (List.mem_append_left _ (List.mem_append_right _ (h)))
  subst hsz
  have hD := hD0.self (sz := s.heap.size)
  generalize hAe : va_A (wRP T b0 a0 a1 a2 a3 a4 a5 rdue rtun rsee rbeg size clause eff kin gri sig see) s.heap.size = A at hD ⊢
  have hA : ∀ q : Nat, s.heap.size ≤ q → A q := fun q h => by rw [← hAe]; exact Or.inr h
  have hS : va_S A s.heap s.heap [] := va_S.rf
  have hP : va_P D vwCl (wRP T b0 a0 a1 a2 a3 a4 a5 rdue rtun rsee rbeg size clause eff kin gri sig see) s.heap := hP
  obtain ⟨ls, hl, e0⟩ := my_entry (m := m) (n := 3) ha (Nat.le_of_ble_eq_true rfl)
  rw [e0]
  have hl : lv_has ls 3 [(0, .ref b0), (1, .int x1), (2, .ref a0)] := hl
  have key : ∀ Q : State → Prop, (∀ (H : Heap) (locs : List Loc) (pc : Nat) (ls : Array Slot), va_P D vwCl (wRP T b0 a0 a1 a2 a3 a4 a5 zrdue zrtun rsee rbeg size clause zeff kin gri sig see) H → va_D A (wRP T b0 a0 a1 a2 a3 a4 a5 zrdue zrtun rsee rbeg size clause zeff kin gri sig see) → va_S A s.heap H locs → decode cX4_takesEffect pc = .ok (.ireturn, 1) → b01 r → W p l e ({ frames := 1, cells := 0, slots := 0, locals := 20 } : Room) s m args below meth c H locs 0 0 Q (F0 m pc ls [.int r])) → W p l e ({ frames := 1, cells := 0, slots := 0, locals := 20 } : Room) s m args below meth c s.heap [] 0 0 Q (F0 m 0 ls []) := by
    intro Q hret
    skip
    unfold fX4_takesEffect at h
    refine lv_iload_n hx hb dX4_takesEffect_0 rfl (lv_at hl 1 rfl) ?_
    obtain ⟨r1, hc, h⟩ := bd1_some h
    refine my_roz (va_Run.run (va_runS (As := [.int x1]) (rest := []) hFix (kX4_isFigure l D T F x1 r1 hc) (va_cwS 1 hts gX4_takesEffect_X4_isFigure rfl rfl rfl hd_X4_isFigure ⟨Nat.le_of_ble_eq_true rfl, Nat.le_of_ble_eq_true rfl⟩) (preS_ro va_nil hKK) rfl rfl hl.1 rfl (lv_room (Nat.le_of_ble_eq_true rfl)) dX4_takesEffect_1 ⟨Nat.zero_le _, Nat.zero_le _⟩)) (fun hb1 => ?_)
    refine lv_if_eq (tgt := 17) hx hb dX4_takesEffect_4 (by decide) (fun c4 => ?_) (fun c4 => ?_)
    · have h := br_1 h c4
      refine lv_iconst (v := (0 : Int32)) hx hb dX4_takesEffect_17 (by decide) ?_
      cases h
      exact hret _ _ _ _ hP hD hS dX4_takesEffect_18 (Or.inl rfl)
    · have h := br_0 h c4
      refine lv_aload_n hx hb dX4_takesEffect_7 rfl (lv_at hl 0 rfl) ?_
      refine va_get (D := D) (ci := 2) (C := RX4) (T := TX4) (N := 4) hx hb hts iX4 hown hK hP 0 wRP_0 rfl 1 (by decide) q1 (fun _ h9 => h9) rfl dX4_takesEffect_8 ?_
      obtain ⟨r11, hc, h⟩ := bd1_some h
      refine my_roz (va_Run.run (va_runSN (host := "PartyWill") (As := [.int rtun]) (rest := []) hFix (kX5_isTune l D T F rtun r11 hc) ⟨va_cnB 1 hts gX4_takesEffect_X5_isTune_n65 rfl rfl rfl (nw_X4_65 hKK.2) q8 hd_X5_isTune ⟨Nat.le_of_ble_eq_true rfl, Nat.le_of_ble_eq_true rfl⟩, q7, trivial⟩ (preS_ro va_nil hKK) rfl rfl hl.1 rfl (lv_room (Nat.le_of_ble_eq_true rfl)) dX4_takesEffect_11 ⟨Nat.zero_le _, Nat.zero_le _⟩)) (fun hb11 => ?_)
      refine lv_if_ne (tgt := 19) hx hb dX4_takesEffect_14 (by decide) (fun c14 => ?_) (fun c14 => ?_)
      · have h := br_0 h c14
        refine lv_aload_n hx hb dX4_takesEffect_19 rfl (lv_at hl 2 rfl) ?_
        refine va_getN (host := "PartyWill") (D := D) (ci := 1) (C := RX2) (T := TX2) (N := 7) hx hb hts iX2 hown hK hP 1 wRP_1 rfl 2 (by decide) (va_Nw.use rfl (nw_X4_68 hKK.2)) (fun _ h9 => h9) rfl dX4_takesEffect_20 ?_
        refine lv_aload_n hx hb dX4_takesEffect_23 rfl (lv_at hl 0 rfl) ?_
        refine va_get (D := D) (ci := 2) (C := RX4) (T := TX4) (N := 4) hx hb hts iX4 hown hK hP 0 wRP_0 rfl 1 (by decide) q1 (fun _ h9 => h9) rfl dX4_takesEffect_24 ?_
        refine lv_iload_n hx hb dX4_takesEffect_27 rfl (lv_at hl 1 rfl) ?_
        refine lv_bipush (v := (-4 : Int32)) hx hb dX4_takesEffect_28 (by decide) ?_
        refine lv_iadd hx hb dX4_takesEffect_30 ?_
        obtain ⟨hin1, h⟩ := ck_some h
        refine va_iast hx hb hK hP hD hS 2 0 wRP_2 rfl hin1 dX4_takesEffect_31 (fun H locs hP hD hS => ?_)
        have hP : va_P D vwCl (wRP T b0 a0 a1 a2 a3 a4 a5 rdue rtun rsee rbeg size clause (upd eff rtun.toNatClampNeg (x1 + (-4 : Int32))) kin gri sig see) H := hP
        have hD : va_D A (wRP T b0 a0 a1 a2 a3 a4 a5 rdue rtun rsee rbeg size clause (upd eff rtun.toNatClampNeg (x1 + (-4 : Int32))) kin gri sig see) := hD
        refine lv_aload_n hx hb dX4_takesEffect_32 rfl (lv_at hl 0 rfl) ?_
        refine lv_dup hx hb dX4_takesEffect_33 rfl ?_
        refine va_get (D := D) (ci := 2) (C := RX4) (T := TX4) (N := 4) hx hb hts iX4 hown hK hP 0 wRP_0 rfl 1 (by decide) q1 (fun _ h9 => h9) rfl dX4_takesEffect_34 ?_
        refine lv_iconst (v := (1 : Int32)) hx hb dX4_takesEffect_37 (by decide) ?_
        refine lv_iadd hx hb dX4_takesEffect_38 ?_
        refine va_put (D := D) (ci := 2) (v := .int (rtun + (1 : Int32))) (ty := .int) (C := RX4) (T := TX4) (N := 4) hx hb hts iX4 tyX4 tyX4_ok nmX4 hown hK hP hD hS 0 wRP_0 rfl 1 (by decide) q1 (fun _ h9 => h9) rfl (by decide +kernel) rfl rfl (Nat.le_of_ble_eq_true rfl) dX4_takesEffect_39 (fun H locs hP hD hS => ?_)
        have hP : va_P D vwCl (wRP T b0 a0 a1 a2 a3 a4 a5 rdue (rtun + (1 : Int32)) rsee rbeg size clause (upd eff rtun.toNatClampNeg (x1 + (-4 : Int32))) kin gri sig see) H := hP
        have hD : va_D A (wRP T b0 a0 a1 a2 a3 a4 a5 rdue (rtun + (1 : Int32)) rsee rbeg size clause (upd eff rtun.toNatClampNeg (x1 + (-4 : Int32))) kin gri sig see) := hD
        refine lv_aload_n hx hb dX4_takesEffect_42 rfl (lv_at hl 0 rfl) ?_
        refine lv_aload_n hx hb dX4_takesEffect_43 rfl (lv_at hl 0 rfl) ?_
        refine va_get (D := D) (ci := 2) (C := RX4) (T := TX4) (N := 4) hx hb hts iX4 hown hK hP 0 wRP_0 rfl 1 (by decide) q1 (fun _ h9 => h9) rfl dX4_takesEffect_44 ?_
        refine lv_iconst (v := (4 : Int32)) hx hb dX4_takesEffect_47 (by decide) ?_
        refine lv_icmp_ge (tgt := 55) hx hb dX4_takesEffect_48 (by decide) (fun c48 => ?_) (fun c48 => ?_)
        · have h := br_1 h c48
          refine lv_iconst (v := (3 : Int32)) hx hb dX4_takesEffect_55 (by decide) ?_
          refine va_put (D := D) (ci := 2) (v := .int (3 : Int32)) (ty := .int) (C := RX4) (T := TX4) (N := 4) hx hb hts iX4 tyX4 tyX4_ok nmX4 hown hK hP hD hS 0 wRP_0 rfl 0 (by decide) q2 (fun _ h9 => h9) rfl (by decide +kernel) rfl rfl (Nat.le_of_ble_eq_true rfl) dX4_takesEffect_56 (fun H locs hP hD hS => ?_)
          have hP : va_P D vwCl (wRP T b0 a0 a1 a2 a3 a4 a5 (3 : Int32) (rtun + (1 : Int32)) rsee rbeg size clause (upd eff rtun.toNatClampNeg (x1 + (-4 : Int32))) kin gri sig see) H := hP
          have hD : va_D A (wRP T b0 a0 a1 a2 a3 a4 a5 (3 : Int32) (rtun + (1 : Int32)) rsee rbeg size clause (upd eff rtun.toNatClampNeg (x1 + (-4 : Int32))) kin gri sig see) := hD
          refine lv_iconst (v := (1 : Int32)) hx hb dX4_takesEffect_59 (by decide) ?_
          cases h
          exact hret _ _ _ _ hP hD hS dX4_takesEffect_60 (Or.inr rfl)
        · have h := br_0 h c48
          refine lv_iconst (v := (2 : Int32)) hx hb dX4_takesEffect_51 (by decide) ?_
          refine lv_goto (tgt := 56) hx hb dX4_takesEffect_52 (by decide) ?_
          refine va_put (D := D) (ci := 2) (v := .int (2 : Int32)) (ty := .int) (C := RX4) (T := TX4) (N := 4) hx hb hts iX4 tyX4 tyX4_ok nmX4 hown hK hP hD hS 0 wRP_0 rfl 0 (by decide) q2 (fun _ h9 => h9) rfl (by decide +kernel) rfl rfl (Nat.le_of_ble_eq_true rfl) dX4_takesEffect_56 (fun H locs hP hD hS => ?_)
          have hP : va_P D vwCl (wRP T b0 a0 a1 a2 a3 a4 a5 (2 : Int32) (rtun + (1 : Int32)) rsee rbeg size clause (upd eff rtun.toNatClampNeg (x1 + (-4 : Int32))) kin gri sig see) H := hP
          have hD : va_D A (wRP T b0 a0 a1 a2 a3 a4 a5 (2 : Int32) (rtun + (1 : Int32)) rsee rbeg size clause (upd eff rtun.toNatClampNeg (x1 + (-4 : Int32))) kin gri sig see) := hD
          refine lv_iconst (v := (1 : Int32)) hx hb dX4_takesEffect_59 (by decide) ?_
          cases h
          exact hret _ _ _ _ hP hD hS dX4_takesEffect_60 (Or.inr rfl)
      · have h := br_1 h c14
        refine lv_iconst (v := (0 : Int32)) hx hb dX4_takesEffect_17 (by decide) ?_
        cases h
        exact hret _ _ _ _ hP hD hS dX4_takesEffect_18 (Or.inl rfl)
  exact key _ (fun H locs pc ls hP hD hS hd hb1 => W.zret hx hb hr (b01_n hb1) (fun t ht hW => ⟨⟨_, (), rfl, ⟨rfl, hb1⟩, by show _ ∧ _; rw [ht]; exact ⟨hP, hD⟩⟩, hS.F ht⟩) hS.2.2 hd)
set_option maxHeartbeats 4000000 in
set_option maxRecDepth 100000 in
theorem kX4_takesGrief (l : Launch) (D : va_G) (T : Nat → ClassId) (F : Nat) (b0 : Nat) (a0 : Nat) (a1 : Nat) (a2 : Nat) (a3 : Nat) (a4 : Nat) (a5 : Nat) (rdue : Int32) (rtun : Int32) (rsee : Int32) (rbeg : Int32) (size : Int32) (clause : Int32) (eff : Nat → Int32) (kin : Nat → Int32) (gri : Nat → Int32) (sig : Nat → Int32) (see : Nat → Int32) (x1 : Int32) (r : Int32) (zrdue : Int32) (zsize : Int32) (zgri : Nat → Int32) (h : fX4_takesGrief F rdue size gri x1 = some (r, zrdue, zsize, zgri)) : ∀ sz : Nat, Met l yX4_takesGrief wsX4_takesGrief ({ frames := 1, cells := 0, slots := 0, locals := 20 } : Room) (va_Pc [.ref b0, .int x1, .ref a0] (fun U => U.heap.size = sz ∧ va_P D vwCl (wRP T b0 a0 a1 a2 a3 a4 a5 rdue rtun rsee rbeg size clause eff kin gri sig see) U.heap ∧ KK D T U ∧ va_D (fun _ => True) (wRP T b0 a0 a1 a2 a3 a4 a5 rdue rtun rsee rbeg size clause eff kin gri sig see))) (va_Qi (fun r' (_ : Unit) => r' = r ∧ b01 r) (fun _ t => va_P D vwCl (wRP T b0 a0 a1 a2 a3 a4 a5 zrdue rtun rsee rbeg zsize clause eff kin zgri sig see) t.heap ∧ va_D (va_A (wRP T b0 a0 a1 a2 a3 a4 a5 rdue rtun rsee rbeg size clause eff kin gri sig see) sz) (wRP T b0 a0 a1 a2 a3 a4 a5 zrdue rtun rsee rbeg zsize clause eff kin zgri sig see)) (va_A (wRP T b0 a0 a1 a2 a3 a4 a5 rdue rtun rsee rbeg size clause eff kin gri sig see) sz)) 0 0 (va_A (wRP T b0 a0 a1 a2 a3 a4 a5 rdue rtun rsee rbeg size clause eff kin gri sig see) sz) := by
  intro sz
  refine Met.ofW (cc := cX4_takesGrief) (maxL := 3) (ret := some .boolean) (by decide) rfl ?_
  intro p e s m args below meth c s₁ B hml hv
  obtain ⟨ha, hsz, hP, hKK, hD0⟩ := hv
  have hx := B.exec
  have hb := B.bytes
  have hr := B.returns
  have hts := atoms_spec (ws := wsX4_takesGrief) B.pre
  have hown : s.vm.findClass RX4 = some m.cls := findClass_of_methodNamed B.named
  have hlocks := B.notSynchronized
  have hK := hKK.1
  have hFix : CallFix p m c cX4_takesGrief 3 s args wsX4_takesGrief RX4 := ⟨hx, hb, hml, hown, hts⟩
  have q1 := hts _ (List.mem_of_getElem? (i := 1) (show wsX4_takesGrief[1]? = some (Cond.fieldLink RX4 11 "PartyWill$Reader" "due" "I") from rfl))
  have iX2 : ∀ w ∈ u_ws RX2 TX2 7, w ∈ wsX4_takesGrief := fun w h => List.mem_cons_of_mem _ (List.mem_append_left _ (List.mem_append_right _ (h)))
  have iX4 : ∀ w ∈ u_ws RX4 TX4 4, w ∈ wsX4_takesGrief := fun w h => List.mem_cons_of_mem _ (List.mem_append_right _ (h))
  subst hsz
  have hD := hD0.self (sz := s.heap.size)
  generalize hAe : va_A (wRP T b0 a0 a1 a2 a3 a4 a5 rdue rtun rsee rbeg size clause eff kin gri sig see) s.heap.size = A at hD ⊢
  have hA : ∀ q : Nat, s.heap.size ≤ q → A q := fun q h => by rw [← hAe]; exact Or.inr h
  have hS : va_S A s.heap s.heap [] := va_S.rf
  have hP : va_P D vwCl (wRP T b0 a0 a1 a2 a3 a4 a5 rdue rtun rsee rbeg size clause eff kin gri sig see) s.heap := hP
  obtain ⟨ls, hl, e0⟩ := my_entry (m := m) (n := 3) ha (Nat.le_of_ble_eq_true rfl)
  rw [e0]
  have hl : lv_has ls 3 [(0, .ref b0), (1, .int x1), (2, .ref a0)] := hl
  have key : ∀ Q : State → Prop, (∀ (H : Heap) (locs : List Loc) (pc : Nat) (ls : Array Slot), va_P D vwCl (wRP T b0 a0 a1 a2 a3 a4 a5 zrdue rtun rsee rbeg zsize clause eff kin zgri sig see) H → va_D A (wRP T b0 a0 a1 a2 a3 a4 a5 zrdue rtun rsee rbeg zsize clause eff kin zgri sig see) → va_S A s.heap H locs → decode cX4_takesGrief pc = .ok (.ireturn, 1) → b01 r → W p l e ({ frames := 1, cells := 0, slots := 0, locals := 20 } : Room) s m args below meth c H locs 0 0 Q (F0 m pc ls [.int r])) → W p l e ({ frames := 1, cells := 0, slots := 0, locals := 20 } : Room) s m args below meth c s.heap [] 0 0 Q (F0 m 0 ls []) := by
    intro Q hret
    skip
    unfold fX4_takesGrief at h
    refine lv_iload_n hx hb dX4_takesGrief_0 rfl (lv_at hl 1 rfl) ?_
    obtain ⟨r1, hc, h⟩ := bd1_some h
    refine my_roz (va_Run.run (va_runS (As := [.int x1]) (rest := []) hFix (kX4_isFigure l D T F x1 r1 hc) (va_cwS 1 hts gX4_takesGrief_X4_isFigure rfl rfl rfl hd_X4_isFigure ⟨Nat.le_of_ble_eq_true rfl, Nat.le_of_ble_eq_true rfl⟩) (preS_ro va_nil hKK) rfl rfl hl.1 rfl (lv_room (Nat.le_of_ble_eq_true rfl)) dX4_takesGrief_1 ⟨Nat.zero_le _, Nat.zero_le _⟩)) (fun hb1 => ?_)
    refine lv_if_eq (tgt := 16) hx hb dX4_takesGrief_4 (by decide) (fun c4 => ?_) (fun c4 => ?_)
    · have h := br_1 h c4
      refine lv_iconst (v := (0 : Int32)) hx hb dX4_takesGrief_16 (by decide) ?_
      cases h
      exact hret _ _ _ _ hP hD hS dX4_takesGrief_17 (Or.inl rfl)
    · have h := br_0 h c4
      refine lv_aload_n hx hb dX4_takesGrief_7 rfl (lv_at hl 2 rfl) ?_
      refine va_getN (host := "PartyWill") (D := D) (ci := 1) (C := RX2) (T := TX2) (N := 7) hx hb hts iX2 hown hK hP 1 wRP_1 rfl 0 (by decide) (va_Nw.use rfl (nw_X4_34 hKK.2)) (fun _ h9 => h9) rfl dX4_takesGrief_8 ?_
      refine lv_bipush (v := (6 : Int32)) hx hb dX4_takesGrief_11 (by decide) ?_
      refine lv_icmp_lt (tgt := 18) hx hb dX4_takesGrief_13 (by decide) (fun c13 => ?_) (fun c13 => ?_)
      · have h := br_1 h c13
        refine lv_aload_n hx hb dX4_takesGrief_18 rfl (lv_at hl 2 rfl) ?_
        refine va_getN (host := "PartyWill") (D := D) (ci := 1) (C := RX2) (T := TX2) (N := 7) hx hb hts iX2 hown hK hP 1 wRP_1 rfl 4 (by decide) (va_Nw.use rfl (nw_X4_79 hKK.2)) (fun _ h9 => h9) rfl dX4_takesGrief_19 ?_
        refine lv_aload_n hx hb dX4_takesGrief_22 rfl (lv_at hl 2 rfl) ?_
        refine va_getN (host := "PartyWill") (D := D) (ci := 1) (C := RX2) (T := TX2) (N := 7) hx hb hts iX2 hown hK hP 1 wRP_1 rfl 0 (by decide) (va_Nw.use rfl (nw_X4_34 hKK.2)) (fun _ h9 => h9) rfl dX4_takesGrief_23 ?_
        refine lv_iload_n hx hb dX4_takesGrief_26 rfl (lv_at hl 1 rfl) ?_
        obtain ⟨hin1, h⟩ := ck_some h
        refine va_iast hx hb hK hP hD hS 4 0 wRP_4 rfl hin1 dX4_takesGrief_27 (fun H locs hP hD hS => ?_)
        have hP : va_P D vwCl (wRP T b0 a0 a1 a2 a3 a4 a5 rdue rtun rsee rbeg size clause eff kin (upd gri size.toNatClampNeg x1) sig see) H := hP
        have hD : va_D A (wRP T b0 a0 a1 a2 a3 a4 a5 rdue rtun rsee rbeg size clause eff kin (upd gri size.toNatClampNeg x1) sig see) := hD
        refine lv_aload_n hx hb dX4_takesGrief_28 rfl (lv_at hl 2 rfl) ?_
        refine lv_dup hx hb dX4_takesGrief_29 rfl ?_
        refine va_getN (host := "PartyWill") (D := D) (ci := 1) (C := RX2) (T := TX2) (N := 7) hx hb hts iX2 hown hK hP 1 wRP_1 rfl 0 (by decide) (va_Nw.use rfl (nw_X4_34 hKK.2)) (fun _ h9 => h9) rfl dX4_takesGrief_30 ?_
        refine lv_iconst (v := (1 : Int32)) hx hb dX4_takesGrief_33 (by decide) ?_
        refine lv_iadd hx hb dX4_takesGrief_34 ?_
        refine va_putN (host := "PartyWill") (D := D) (ci := 1) (v := .int (size + (1 : Int32))) (ty := .int) (C := RX2) (T := TX2) (N := 7) hx hb hts iX2 tyX2 tyX2_ok nmX2 hown hK hP hD hS 1 wRP_1 rfl 0 (by decide) (va_Nw.use rfl (nw_X4_34 hKK.2)) (fun _ h9 => h9) rfl (by decide +kernel) rfl rfl (Nat.le_of_ble_eq_true rfl) dX4_takesGrief_35 (fun H locs hP hD hS => ?_)
        have hP : va_P D vwCl (wRP T b0 a0 a1 a2 a3 a4 a5 rdue rtun rsee rbeg (size + (1 : Int32)) clause eff kin (upd gri size.toNatClampNeg x1) sig see) H := hP
        have hD : va_D A (wRP T b0 a0 a1 a2 a3 a4 a5 rdue rtun rsee rbeg (size + (1 : Int32)) clause eff kin (upd gri size.toNatClampNeg x1) sig see) := hD
        refine lv_aload_n hx hb dX4_takesGrief_38 rfl (lv_at hl 0 rfl) ?_
        refine lv_iconst (v := (3 : Int32)) hx hb dX4_takesGrief_39 (by decide) ?_
        refine va_put (D := D) (ci := 2) (v := .int (3 : Int32)) (ty := .int) (C := RX4) (T := TX4) (N := 4) hx hb hts iX4 tyX4 tyX4_ok nmX4 hown hK hP hD hS 0 wRP_0 rfl 0 (by decide) q1 (fun _ h9 => h9) rfl (by decide +kernel) rfl rfl (Nat.le_of_ble_eq_true rfl) dX4_takesGrief_40 (fun H locs hP hD hS => ?_)
        have hP : va_P D vwCl (wRP T b0 a0 a1 a2 a3 a4 a5 (3 : Int32) rtun rsee rbeg (size + (1 : Int32)) clause eff kin (upd gri size.toNatClampNeg x1) sig see) H := hP
        have hD : va_D A (wRP T b0 a0 a1 a2 a3 a4 a5 (3 : Int32) rtun rsee rbeg (size + (1 : Int32)) clause eff kin (upd gri size.toNatClampNeg x1) sig see) := hD
        refine lv_iconst (v := (1 : Int32)) hx hb dX4_takesGrief_43 (by decide) ?_
        cases h
        exact hret _ _ _ _ hP hD hS dX4_takesGrief_44 (Or.inr rfl)
      · have h := br_0 h c13
        refine lv_iconst (v := (0 : Int32)) hx hb dX4_takesGrief_16 (by decide) ?_
        cases h
        exact hret _ _ _ _ hP hD hS dX4_takesGrief_17 (Or.inl rfl)
  exact key _ (fun H locs pc ls hP hD hS hd hb1 => W.zret hx hb hr (b01_n hb1) (fun t ht hW => ⟨⟨_, (), rfl, ⟨rfl, hb1⟩, by show _ ∧ _; rw [ht]; exact ⟨hP, hD⟩⟩, hS.F ht⟩) hS.2.2 hd)
set_option maxHeartbeats 4000000 in
set_option maxRecDepth 100000 in
theorem kX4_kindByLetter (l : Launch) (D : va_G) (T : Nat → ClassId) (F : Nat) (x0 : Int32) (r : Int32) (h : fX4_kindByLetter F x0 = some (r)) : Met l yX4_kindByLetter wsX4_kindByLetter ({ frames := 0, cells := 0, slots := 0, locals := 0 } : Room) (va_Pc [.int x0] (fun U => va_P D vwCl ([] : va_W) U.heap ∧ KK D T U)) (vp_Si (fun r' => r' = r)) 0 0 (fun _ => False) := by
  refine Met.ofW (cc := cX4_kindByLetter) (maxL := 1) (ret := some .int) (by decide) rfl ?_
  intro p e s m args below meth c s₁ B hml hv
  obtain ⟨ha, hP, hKK⟩ := hv
  have hx := B.exec
  have hb := B.bytes
  have hr := B.returns
  have hts := atoms_spec (ws := wsX4_kindByLetter) B.pre
  have hown : s.vm.findClass RX4 = some m.cls := findClass_of_methodNamed B.named
  have hlocks := B.notSynchronized
  have hK := hKK.1
  have hFix : CallFix p m c cX4_kindByLetter 1 s args wsX4_kindByLetter RX4 := ⟨hx, hb, hml, hown, hts⟩
  obtain ⟨ls, hl, e0⟩ := my_entry (m := m) (n := 1) ha (Nat.le_of_ble_eq_true rfl)
  rw [e0]
  have hl : lv_has ls 1 [(0, .int x0)] := hl
  have key : ∀ Q : State → Prop, (∀ (pc : Nat) (ls : Array Slot), decode cX4_kindByLetter pc = .ok (.ireturn, 1) → W p l e ({ frames := 0, cells := 0, slots := 0, locals := 0 } : Room) s m args below meth c s.heap [] 0 0 Q (F0 m pc ls [.int r])) → W p l e ({ frames := 0, cells := 0, slots := 0, locals := 0 } : Room) s m args below meth c s.heap [] 0 0 Q (F0 m 0 ls []) := by
    intro Q hret
    unfold fX4_kindByLetter at h
    refine lv_iload_n hx hb dX4_kindByLetter_0 rfl (lv_at hl 0 rfl) ?_
    by_cases z1_0 : x0 = (100 : Int32)
    · have h := br_1 h z1_0
      refine lv_lookup (tgt := 62) (off := 61) hx hb dX4_kindByLetter_1 (by decide) (by rw [z1_0]; decide) (by decide) ?_
      refine lv_iconst (v := (1 : Int32)) hx hb dX4_kindByLetter_62 (by decide) ?_
      cases h
      exact hret _ _ dX4_kindByLetter_63
    have h := br_0 h z1_0
    by_cases z1_1 : x0 = (103 : Int32)
    · have h := br_1 h z1_1
      refine lv_lookup (tgt := 60) (off := 59) hx hb dX4_kindByLetter_1 (by decide) (by rw [z1_1]; decide) (by decide) ?_
      refine lv_iconst (v := (0 : Int32)) hx hb dX4_kindByLetter_60 (by decide) ?_
      cases h
      exact hret _ _ dX4_kindByLetter_61
    have h := br_0 h z1_1
    by_cases z1_2 : x0 = (109 : Int32)
    · have h := br_1 h z1_2
      refine lv_lookup (tgt := 66) (off := 65) hx hb dX4_kindByLetter_1 (by decide) (by rw [z1_2]; decide) (by decide) ?_
      refine lv_iconst (v := (3 : Int32)) hx hb dX4_kindByLetter_66 (by decide) ?_
      cases h
      exact hret _ _ dX4_kindByLetter_67
    have h := br_0 h z1_2
    by_cases z1_3 : x0 = (115 : Int32)
    · have h := br_1 h z1_3
      refine lv_lookup (tgt := 64) (off := 63) hx hb dX4_kindByLetter_1 (by decide) (by rw [z1_3]; decide) (by decide) ?_
      refine lv_iconst (v := (2 : Int32)) hx hb dX4_kindByLetter_64 (by decide) ?_
      cases h
      exact hret _ _ dX4_kindByLetter_65
    have h := br_0 h z1_3
    by_cases z1_4 : x0 = (117 : Int32)
    · have h := br_1 h z1_4
      refine lv_lookup (tgt := 68) (off := 67) hx hb dX4_kindByLetter_1 (by decide) (by rw [z1_4]; decide) (by decide) ?_
      refine lv_iconst (v := (4 : Int32)) hx hb dX4_kindByLetter_68 (by decide) ?_
      cases h
      exact hret _ _ dX4_kindByLetter_69
    have h := br_0 h z1_4
    by_cases z1_5 : x0 = (121 : Int32)
    · have h := br_1 h z1_5
      refine lv_lookup (tgt := 70) (off := 69) hx hb dX4_kindByLetter_1 (by decide) (by rw [z1_5]; decide) (by decide) ?_
      refine lv_iconst (v := (5 : Int32)) hx hb dX4_kindByLetter_70 (by decide) ?_
      cases h
      exact hret _ _ dX4_kindByLetter_71
    have h := br_0 h z1_5
    have e1_0 : ¬ x0.toInt = 100 := fun e => z1_0 (Int32.toInt_inj.mp e)
    have e1_1 : ¬ x0.toInt = 103 := fun e => z1_1 (Int32.toInt_inj.mp e)
    have e1_2 : ¬ x0.toInt = 109 := fun e => z1_2 (Int32.toInt_inj.mp e)
    have e1_3 : ¬ x0.toInt = 115 := fun e => z1_3 (Int32.toInt_inj.mp e)
    have e1_4 : ¬ x0.toInt = 117 := fun e => z1_4 (Int32.toInt_inj.mp e)
    have e1_5 : ¬ x0.toInt = 121 := fun e => z1_5 (Int32.toInt_inj.mp e)
    refine lv_lookup (tgt := 72) (off := 71) hx hb dX4_kindByLetter_1 (by decide) (by simp [Op.lookupswitch.offset, List.find?, e1_0, Ne.symm e1_0, e1_1, Ne.symm e1_1, e1_2, Ne.symm e1_2, e1_3, Ne.symm e1_3, e1_4, Ne.symm e1_4, e1_5, Ne.symm e1_5]) (by decide) ?_
    refine lv_bipush (v := (-9 : Int32)) hx hb dX4_kindByLetter_72 (by decide) ?_
    cases h
    exact hret _ _ dX4_kindByLetter_74
  exact key _ (fun pc ls hd => W.iret hx hb hr (fun t ht hW => ⟨_, rfl, rfl, ht⟩) (fun q h => by cases h) hd)
