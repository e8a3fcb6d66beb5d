set_option maxHeartbeats 4000000 in
set_option maxRecDepth 100000 in
theorem kX0_begin (l : Launch) (D : va_G) (T : Nat → ClassId) (F : Nat) (a0 : Nat) (a1 : Nat) (cdee : Int32) (cnow : Int64) (cahe : Nat → Int64) (x1 : Int64) (zcdee : Int32) (zcnow : Int64) (h : fX0_begin F cdee cnow x1 = some (zcdee, zcnow)) : ∀ sz : Nat, Met l yX0_begin wsX0_begin ({ frames := 0, cells := 0, slots := 0, locals := 0 } : Room) (va_Pc [.ref a0, .long x1] (fun U => U.heap.size = sz ∧ va_P D vwCl (wCo T a0 a1 cdee cnow cahe) U.heap ∧ KK D T U ∧ va_D (fun _ => True) (wCo T a0 a1 cdee cnow cahe))) (va_Qv (fun _ : Unit => True) (fun _ t => va_P D vwCl (wCo T a0 a1 zcdee zcnow cahe) t.heap ∧ va_D (va_A (wCo T a0 a1 cdee cnow cahe) sz) (wCo T a0 a1 zcdee zcnow cahe)) (va_A (wCo T a0 a1 cdee cnow cahe) sz)) 0 0 (va_A (wCo T a0 a1 cdee cnow cahe) sz) := by
  intro sz
  refine Met.ofW (cc := cX0_begin) (maxL := 3) (ret := none) (by decide) rfl ?_
  intro p e s m args below meth c s₁ B hml hv
  obtain ⟨ha, hsz, hP, hKK, hD0⟩ := hv
  have hx := B.exec
  have hb := B.bytes
  have hr := B.returns
  have hts := atoms_spec (ws := wsX0_begin) B.pre
  have hown : s.vm.findClass RX0 = some m.cls := findClass_of_methodNamed B.named
  have hlocks := B.notSynchronized
  have hK := hKK.1
  have hFix : CallFix p m c cX0_begin 3 s args wsX0_begin RX0 := ⟨hx, hb, hml, hown, hts⟩
  have q1 := hts _ (List.mem_of_getElem? (i := 1) (show wsX0_begin[1]? = some (Cond.fieldLink RX0 9 "PartyWill$Course" "deeds" "I") from rfl))
  have q2 := hts _ (List.mem_of_getElem? (i := 2) (show wsX0_begin[2]? = some (Cond.fieldLink RX0 15 "PartyWill$Course" "now" "J") from rfl))
  have iX0 : ∀ w ∈ u_ws RX0 TX0 3, w ∈ wsX0_begin := fun w h => List.mem_cons_of_mem _ (List.mem_append_right _ (h))
  subst hsz
  have hD := hD0.self (sz := s.heap.size)
  generalize hAe : va_A (wCo T a0 a1 cdee cnow cahe) s.heap.size = A at hD ⊢
  have hA : ∀ q : Nat, s.heap.size ≤ q → A q := fun q h => by rw [← hAe]; exact Or.inr h
  have hS : va_S A s.heap s.heap [] := va_S.rf
  have hP : va_P D vwCl (wCo T a0 a1 cdee cnow cahe) s.heap := hP
  obtain ⟨ls, hl, e0⟩ := my_entry (m := m) (n := 3) ha (Nat.le_of_ble_eq_true rfl)
  rw [e0]
  have hl : lv_has ls 3 [(0, .ref a0), (1, .long x1)] := hl
  have key : ∀ Q : State → Prop, (∀ (H : Heap) (locs : List Loc) (pc : Nat) (ls : Array Slot), va_P D vwCl (wCo T a0 a1 zcdee zcnow cahe) H → va_D A (wCo T a0 a1 zcdee zcnow cahe) → va_S A s.heap H locs → decode cX0_begin pc = .ok (.return_, 1) → W p l e ({ frames := 0, cells := 0, slots := 0, locals := 0 } : Room) s m args below meth c H locs 0 0 Q (F0 m pc ls [])) → W p l e ({ frames := 0, cells := 0, slots := 0, locals := 0 } : Room) s m args below meth c s.heap [] 0 0 Q (F0 m 0 ls []) := by
    intro Q hret
    skip
    unfold fX0_begin at h
    refine lv_aload_n hx hb dX0_begin_0 rfl (lv_at hl 0 rfl) ?_
    refine lv_iconst (v := (0 : Int32)) hx hb dX0_begin_1 (by decide) ?_
    refine va_put (D := D) (ci := 0) (v := .int (0 : Int32)) (ty := .int) (C := RX0) (T := TX0) (N := 3) hx hb hts iX0 tyX0 tyX0_ok nmX0 hown hK hP hD hS 0 wCo_0 rfl 0 (by decide) q1 (fun _ h9 => h9) rfl (by decide +kernel) rfl rfl (Nat.le_of_ble_eq_true rfl) dX0_begin_2 (fun H locs hP hD hS => ?_)
    have hP : va_P D vwCl (wCo T a0 a1 (0 : Int32) cnow cahe) H := hP
    have hD : va_D A (wCo T a0 a1 (0 : Int32) cnow cahe) := hD
    refine lv_aload_n hx hb dX0_begin_5 rfl (lv_at hl 0 rfl) ?_
    refine lv_lload_n hx hb dX0_begin_6 rfl (lv_at hl 1 rfl) ?_
    refine va_put (D := D) (ci := 0) (v := .long x1) (ty := .long) (C := RX0) (T := TX0) (N := 3) hx hb hts iX0 tyX0 tyX0_ok nmX0 hown hK hP hD hS 0 wCo_0 rfl 1 (by decide) q2 (fun _ h9 => h9) rfl (by decide +kernel) rfl rfl (Nat.le_of_ble_eq_true rfl) dX0_begin_7 (fun H locs hP hD hS => ?_)
    have hP : va_P D vwCl (wCo T a0 a1 (0 : Int32) x1 cahe) H := hP
    have hD : va_D A (wCo T a0 a1 (0 : Int32) x1 cahe) := hD
    cases h
    exact hret _ _ _ _ hP hD hS dX0_begin_10
  exact key _ (fun H locs pc ls hP hD hS hd => W.vret hx hb hr (fun t ht hW => ⟨⟨(), rfl, trivial, by show _ ∧ _; rw [ht]; exact ⟨hP, hD⟩⟩, hS.F ht⟩) hS.2.2 hd)
set_option maxHeartbeats 4000000 in
set_option maxRecDepth 100000 in
theorem kX0_goOn (l : Launch) (D : va_G) (T : Nat → ClassId) (F : Nat) (a0 : Nat) (a1 : Nat) (cdee : Int32) (cnow : Int64) (cahe : Nat → Int64) (x1 : Int64) (zcdee : Int32) (zcnow : Int64) (zcahe : Nat → Int64) (h : fX0_goOn F cdee cnow cahe x1 = some (zcdee, zcnow, zcahe)) : ∀ sz : Nat, Met l yX0_goOn wsX0_goOn ({ frames := 0, cells := 0, slots := 0, locals := 0 } : Room) (va_Pc [.ref a0, .long x1] (fun U => U.heap.size = sz ∧ va_P D vwCl (wCo T a0 a1 cdee cnow cahe) U.heap ∧ KK D T U ∧ va_D (fun _ => True) (wCo T a0 a1 cdee cnow cahe))) (va_Qv (fun _ : Unit => True) (fun _ t => va_P D vwCl (wCo T a0 a1 zcdee zcnow zcahe) t.heap ∧ va_D (va_A (wCo T a0 a1 cdee cnow cahe) sz) (wCo T a0 a1 zcdee zcnow zcahe)) (va_A (wCo T a0 a1 cdee cnow cahe) sz)) 0 0 (va_A (wCo T a0 a1 cdee cnow cahe) sz) := by
  intro sz
  refine Met.ofW (cc := cX0_goOn) (maxL := 3) (ret := none) (by decide) rfl ?_
  intro p e s m args below meth c s₁ B hml hv
  obtain ⟨ha, hsz, hP, hKK, hD0⟩ := hv
  have hx := B.exec
  have hb := B.bytes
  have hr := B.returns
  have hts := atoms_spec (ws := wsX0_goOn) B.pre
  have hown : s.vm.findClass RX0 = some m.cls := findClass_of_methodNamed B.named
  have hlocks := B.notSynchronized
  have hK := hKK.1
  have hFix : CallFix p m c cX0_goOn 3 s args wsX0_goOn RX0 := ⟨hx, hb, hml, hown, hts⟩
  have q1 := hts _ (List.mem_of_getElem? (i := 1) (show wsX0_goOn[1]? = some (Cond.fieldLink RX0 9 "PartyWill$Course" "deeds" "I") from rfl))
  have q2 := hts _ (List.mem_of_getElem? (i := 2) (show wsX0_goOn[2]? = some (Cond.fieldLink RX0 19 "PartyWill$Course" "ahead" "[J") from rfl))
  have q3 := hts _ (List.mem_of_getElem? (i := 3) (show wsX0_goOn[3]? = some (Cond.fieldLink RX0 15 "PartyWill$Course" "now" "J") from rfl))
  have iX0 : ∀ w ∈ u_ws RX0 TX0 3, w ∈ wsX0_goOn := fun w h => List.mem_cons_of_mem _ (List.mem_append_right _ (h))
  subst hsz
  have hD := hD0.self (sz := s.heap.size)
  generalize hAe : va_A (wCo T a0 a1 cdee cnow cahe) s.heap.size = A at hD ⊢
  have hA : ∀ q : Nat, s.heap.size ≤ q → A q := fun q h => by rw [← hAe]; exact Or.inr h
  have hS : va_S A s.heap s.heap [] := va_S.rf
  have hP : va_P D vwCl (wCo T a0 a1 cdee cnow cahe) s.heap := hP
  obtain ⟨ls, hl, e0⟩ := my_entry (m := m) (n := 3) ha (Nat.le_of_ble_eq_true rfl)
  rw [e0]
  have hl : lv_has ls 3 [(0, .ref a0), (1, .long x1)] := hl
  have key : ∀ Q : State → Prop, (∀ (H : Heap) (locs : List Loc) (pc : Nat) (ls : Array Slot), va_P D vwCl (wCo T a0 a1 zcdee zcnow zcahe) H → va_D A (wCo T a0 a1 zcdee zcnow zcahe) → va_S A s.heap H locs → decode cX0_goOn pc = .ok (.return_, 1) → W p l e ({ frames := 0, cells := 0, slots := 0, locals := 0 } : Room) s m args below meth c H locs 0 0 Q (F0 m pc ls [])) → W p l e ({ frames := 0, cells := 0, slots := 0, locals := 0 } : Room) s m args below meth c s.heap [] 0 0 Q (F0 m 0 ls []) := by
    intro Q hret
    skip
    unfold fX0_goOn at h
    refine lv_aload_n hx hb dX0_goOn_0 rfl (lv_at hl 0 rfl) ?_
    refine va_get (D := D) (ci := 0) (C := RX0) (T := TX0) (N := 3) hx hb hts iX0 hown hK hP 0 wCo_0 rfl 0 (by decide) q1 (fun _ h9 => h9) rfl dX0_goOn_1 ?_
    refine lv_if_lt (tgt := 44) hx hb dX0_goOn_4 (by decide) (fun c4 => ?_) (fun c4 => ?_)
    · have h := br_1 h c4
      cases h
      exact hret _ _ _ _ hP hD hS dX0_goOn_44
    · have h := br_0 h c4
      refine lv_aload_n hx hb dX0_goOn_7 rfl (lv_at hl 0 rfl) ?_
      refine va_get (D := D) (ci := 0) (C := RX0) (T := TX0) (N := 3) hx hb hts iX0 hown hK hP 0 wCo_0 rfl 0 (by decide) q1 (fun _ h9 => h9) rfl dX0_goOn_8 ?_
      refine lv_bipush (v := (40 : Int32)) hx hb dX0_goOn_11 (by decide) ?_
      refine lv_icmp_ge (tgt := 44) hx hb dX0_goOn_13 (by decide) (fun c13 => ?_) (fun c13 => ?_)
      · have h := br_1 h c13
        cases h
        exact hret _ _ _ _ hP hD hS dX0_goOn_44
      · have h := br_0 h c13
        refine lv_aload_n hx hb dX0_goOn_16 rfl (lv_at hl 0 rfl) ?_
        refine va_get (D := D) (ci := 0) (C := RX0) (T := TX0) (N := 3) hx hb hts iX0 hown hK hP 0 wCo_0 rfl 2 (by decide) q2 (fun _ h9 => h9) rfl dX0_goOn_17 ?_
        refine lv_aload_n hx hb dX0_goOn_20 rfl (lv_at hl 0 rfl) ?_
        refine va_get (D := D) (ci := 0) (C := RX0) (T := TX0) (N := 3) hx hb hts iX0 hown hK hP 0 wCo_0 rfl 0 (by decide) q1 (fun _ h9 => h9) rfl dX0_goOn_21 ?_
        refine lv_aload_n hx hb dX0_goOn_24 rfl (lv_at hl 0 rfl) ?_
        refine va_get (D := D) (ci := 0) (C := RX0) (T := TX0) (N := 3) hx hb hts iX0 hown hK hP 0 wCo_0 rfl 1 (by decide) q3 (fun _ h9 => h9) rfl dX0_goOn_25 ?_
        obtain ⟨hin1, h⟩ := ck_some h
        refine va_last hx hb hK hP hD hS 1 2 wCo_1 rfl hin1 dX0_goOn_28 (fun H locs hP hD hS => ?_)
        have hP : va_P D vwCl (wCo T a0 a1 cdee cnow (vp_updL cahe cdee.toNatClampNeg cnow)) H := hP
        have hD : va_D A (wCo T a0 a1 cdee cnow (vp_updL cahe cdee.toNatClampNeg cnow)) := hD
        refine lv_aload_n hx hb dX0_goOn_29 rfl (lv_at hl 0 rfl) ?_
        refine lv_dup hx hb dX0_goOn_30 rfl ?_
        refine va_get (D := D) (ci := 0) (C := RX0) (T := TX0) (N := 3) hx hb hts iX0 hown hK hP 0 wCo_0 rfl 0 (by decide) q1 (fun _ h9 => h9) rfl dX0_goOn_31 ?_
        refine lv_iconst (v := (1 : Int32)) hx hb dX0_goOn_34 (by decide) ?_
        refine lv_iadd hx hb dX0_goOn_35 ?_
        refine va_put (D := D) (ci := 0) (v := .int (cdee + (1 : Int32))) (ty := .int) (C := RX0) (T := TX0) (N := 3) hx hb hts iX0 tyX0 tyX0_ok nmX0 hown hK hP hD hS 0 wCo_0 rfl 0 (by decide) q1 (fun _ h9 => h9) rfl (by decide +kernel) rfl rfl (Nat.le_of_ble_eq_true rfl) dX0_goOn_36 (fun H locs hP hD hS => ?_)
        have hP : va_P D vwCl (wCo T a0 a1 (cdee + (1 : Int32)) cnow (vp_updL cahe cdee.toNatClampNeg cnow)) H := hP
        have hD : va_D A (wCo T a0 a1 (cdee + (1 : Int32)) cnow (vp_updL cahe cdee.toNatClampNeg cnow)) := hD
        refine lv_aload_n hx hb dX0_goOn_39 rfl (lv_at hl 0 rfl) ?_
        refine lv_lload_n hx hb dX0_goOn_40 rfl (lv_at hl 1 rfl) ?_
        refine va_put (D := D) (ci := 0) (v := .long x1) (ty := .long) (C := RX0) (T := TX0) (N := 3) hx hb hts iX0 tyX0 tyX0_ok nmX0 hown hK hP hD hS 0 wCo_0 rfl 1 (by decide) q3 (fun _ h9 => h9) rfl (by decide +kernel) rfl rfl (Nat.le_of_ble_eq_true rfl) dX0_goOn_41 (fun H locs hP hD hS => ?_)
        have hP : va_P D vwCl (wCo T a0 a1 (cdee + (1 : Int32)) x1 (vp_updL cahe cdee.toNatClampNeg cnow)) H := hP
        have hD : va_D A (wCo T a0 a1 (cdee + (1 : Int32)) x1 (vp_updL cahe cdee.toNatClampNeg cnow)) := hD
        cases h
        exact hret _ _ _ _ hP hD hS dX0_goOn_44
  exact key _ (fun H locs pc ls hP hD hS hd => W.vret hx hb hr (fun t ht hW => ⟨⟨(), rfl, trivial, by show _ ∧ _; rw [ht]; exact ⟨hP, hD⟩⟩, hS.F ht⟩) hS.2.2 hd)
set_option maxHeartbeats 4000000 in
set_option maxRecDepth 100000 in
theorem kX0_goBackTo (l : Launch) (D : va_G) (T : Nat → ClassId) (F : Nat) (a0 : Nat) (a1 : Nat) (cdee : Int32) (cnow : Int64) (cahe : Nat → Int64) (x1 : Int32) (zcdee : Int32) (zcnow : Int64) (h : fX0_goBackTo F cdee cnow cahe x1 = some (zcdee, zcnow)) : ∀ sz : Nat, Met l yX0_goBackTo wsX0_goBackTo ({ frames := 0, cells := 0, slots := 0, locals := 0 } : Room) (va_Pc [.ref a0, .int x1] (fun U => U.heap.size = sz ∧ va_P D vwCl (wCo T a0 a1 cdee cnow cahe) U.heap ∧ KK D T U ∧ va_D (fun _ => True) (wCo T a0 a1 cdee cnow cahe))) (va_Qv (fun _ : Unit => True) (fun _ t => va_P D vwCl (wCo T a0 a1 zcdee zcnow cahe) t.heap ∧ va_D (va_A (wCo T a0 a1 cdee cnow cahe) sz) (wCo T a0 a1 zcdee zcnow cahe)) (va_A (wCo T a0 a1 cdee cnow cahe) sz)) 0 0 (va_A (wCo T a0 a1 cdee cnow cahe) sz) := by
  intro sz
  refine Met.ofW (cc := cX0_goBackTo) (maxL := 2) (ret := none) (by decide) rfl ?_
  intro p e s m args below meth c s₁ B hml hv
  obtain ⟨ha, hsz, hP, hKK, hD0⟩ := hv
  have hx := B.exec
  have hb := B.bytes
  have hr := B.returns
  have hts := atoms_spec (ws := wsX0_goBackTo) B.pre
  have hown : s.vm.findClass RX0 = some m.cls := findClass_of_methodNamed B.named
  have hlocks := B.notSynchronized
  have hK := hKK.1
  have hFix : CallFix p m c cX0_goBackTo 2 s args wsX0_goBackTo RX0 := ⟨hx, hb, hml, hown, hts⟩
  have q1 := hts _ (List.mem_of_getElem? (i := 1) (show wsX0_goBackTo[1]? = some (Cond.fieldLink RX0 9 "PartyWill$Course" "deeds" "I") from rfl))
  have q2 := hts _ (List.mem_of_getElem? (i := 2) (show wsX0_goBackTo[2]? = some (Cond.fieldLink RX0 19 "PartyWill$Course" "ahead" "[J") from rfl))
  have q3 := hts _ (List.mem_of_getElem? (i := 3) (show wsX0_goBackTo[3]? = some (Cond.fieldLink RX0 15 "PartyWill$Course" "now" "J") from rfl))
  have iX0 : ∀ w ∈ u_ws RX0 TX0 3, w ∈ wsX0_goBackTo := fun w h => List.mem_cons_of_mem _ (List.mem_append_right _ (h))
  subst hsz
  have hD := hD0.self (sz := s.heap.size)
  generalize hAe : va_A (wCo T a0 a1 cdee cnow cahe) s.heap.size = A at hD ⊢
  have hA : ∀ q : Nat, s.heap.size ≤ q → A q := fun q h => by rw [← hAe]; exact Or.inr h
  have hS : va_S A s.heap s.heap [] := va_S.rf
  have hP : va_P D vwCl (wCo T a0 a1 cdee cnow cahe) s.heap := hP
  obtain ⟨ls, hl, e0⟩ := my_entry (m := m) (n := 2) ha (Nat.le_of_ble_eq_true rfl)
  rw [e0]
  have hl : lv_has ls 2 [(0, .ref a0), (1, .int x1)] := hl
  have key : ∀ Q : State → Prop, (∀ (H : Heap) (locs : List Loc) (pc : Nat) (ls : Array Slot), va_P D vwCl (wCo T a0 a1 zcdee zcnow cahe) H → va_D A (wCo T a0 a1 zcdee zcnow cahe) → va_S A s.heap H locs → decode cX0_goBackTo pc = .ok (.return_, 1) → W p l e ({ frames := 0, cells := 0, slots := 0, locals := 0 } : Room) s m args below meth c H locs 0 0 Q (F0 m pc ls [])) → W p l e ({ frames := 0, cells := 0, slots := 0, locals := 0 } : Room) s m args below meth c s.heap [] 0 0 Q (F0 m 0 ls []) := by
    intro Q hret
    skip
    unfold fX0_goBackTo at h
    refine lv_iload_n hx hb dX0_goBackTo_0 rfl (lv_at hl 1 rfl) ?_
    refine lv_if_lt (tgt := 27) hx hb dX0_goBackTo_1 (by decide) (fun c1 => ?_) (fun c1 => ?_)
    · have h := br_1 h c1
      cases h
      exact hret _ _ _ _ hP hD hS dX0_goBackTo_27
    · have h := br_0 h c1
      refine lv_iload_n hx hb dX0_goBackTo_4 rfl (lv_at hl 1 rfl) ?_
      refine lv_aload_n hx hb dX0_goBackTo_5 rfl (lv_at hl 0 rfl) ?_
      refine va_get (D := D) (ci := 0) (C := RX0) (T := TX0) (N := 3) hx hb hts iX0 hown hK hP 0 wCo_0 rfl 0 (by decide) q1 (fun _ h9 => h9) rfl dX0_goBackTo_6 ?_
      refine lv_icmp_ge (tgt := 27) hx hb dX0_goBackTo_9 (by decide) (fun c9 => ?_) (fun c9 => ?_)
      · have h := br_1 h c9
        cases h
        exact hret _ _ _ _ hP hD hS dX0_goBackTo_27
      · have h := br_0 h c9
        refine lv_aload_n hx hb dX0_goBackTo_12 rfl (lv_at hl 0 rfl) ?_
        refine lv_aload_n hx hb dX0_goBackTo_13 rfl (lv_at hl 0 rfl) ?_
        refine va_get (D := D) (ci := 0) (C := RX0) (T := TX0) (N := 3) hx hb hts iX0 hown hK hP 0 wCo_0 rfl 2 (by decide) q2 (fun _ h9 => h9) rfl dX0_goBackTo_14 ?_
        refine lv_iload_n hx hb dX0_goBackTo_17 rfl (lv_at hl 1 rfl) ?_
        obtain ⟨hin1, h⟩ := ck_some h
        refine va_lald hx hb hK hP 1 2 wCo_1 rfl hin1 dX0_goBackTo_18 ?_
        refine va_put (D := D) (ci := 0) (v := .long (cahe x1.toNatClampNeg)) (ty := .long) (C := RX0) (T := TX0) (N := 3) hx hb hts iX0 tyX0 tyX0_ok nmX0 hown hK hP hD hS 0 wCo_0 rfl 1 (by decide) q3 (fun _ h9 => h9) rfl (by decide +kernel) rfl rfl (Nat.le_of_ble_eq_true rfl) dX0_goBackTo_19 (fun H locs hP hD hS => ?_)
        have hP : va_P D vwCl (wCo T a0 a1 cdee (cahe x1.toNatClampNeg) cahe) H := hP
        have hD : va_D A (wCo T a0 a1 cdee (cahe x1.toNatClampNeg) cahe) := hD
        refine lv_aload_n hx hb dX0_goBackTo_22 rfl (lv_at hl 0 rfl) ?_
        refine lv_iload_n hx hb dX0_goBackTo_23 rfl (lv_at hl 1 rfl) ?_
        refine va_put (D := D) (ci := 0) (v := .int x1) (ty := .int) (C := RX0) (T := TX0) (N := 3) hx hb hts iX0 tyX0 tyX0_ok nmX0 hown hK hP hD hS 0 wCo_0 rfl 0 (by decide) q1 (fun _ h9 => h9) rfl (by decide +kernel) rfl rfl (Nat.le_of_ble_eq_true rfl) dX0_goBackTo_24 (fun H locs hP hD hS => ?_)
        have hP : va_P D vwCl (wCo T a0 a1 x1 (cahe x1.toNatClampNeg) cahe) H := hP
        have hD : va_D A (wCo T a0 a1 x1 (cahe x1.toNatClampNeg) cahe) := hD
        cases h
        exact hret _ _ _ _ hP hD hS dX0_goBackTo_27
  exact key _ (fun H locs pc ls hP hD hS hd => W.vret hx hb hr (fun t ht hW => ⟨⟨(), rfl, trivial, by show _ ∧ _; rw [ht]; exact ⟨hP, hD⟩⟩, hS.F ht⟩) hS.2.2 hd)
set_option maxHeartbeats 4000000 in
set_option maxRecDepth 100000 in
theorem kX0_takeAll (l : Launch) (D : va_G) (T : Nat → ClassId) (F : Nat) (a0 : Nat) (a1 : Nat) (b0 : Nat) (b1 : Nat) (cdee : Int32) (cnow : Int64) (cahe : Nat → Int64) (odee : Int32) (onow : Int64) (oahe : Nat → Int64) (zcdee : Int32) (zcnow : Int64) (zcahe : Nat → Int64) (h : fX0_takeAll F cdee cnow cahe odee onow oahe = some (zcdee, zcnow, zcahe)) : ∀ sz : Nat, Met l yX0_takeAll wsX0_takeAll ({ frames := 1, cells := 0, slots := 0, locals := 60 } : Room) (va_Pc [.ref a0, .ref b0] (fun U => U.heap.size = sz ∧ va_P D vwCl (wCC T a0 a1 b0 b1 cdee cnow cahe odee onow oahe) U.heap ∧ KK D T U ∧ va_D (fun _ => True) (wCC T a0 a1 b0 b1 cdee cnow cahe odee onow oahe))) (va_Qv (fun _ : Unit => True) (fun _ t => va_P D vwCl (wCC T a0 a1 b0 b1 zcdee zcnow zcahe odee onow oahe) t.heap ∧ va_D (va_A (wCC T a0 a1 b0 b1 cdee cnow cahe odee onow oahe) sz) (wCC T a0 a1 b0 b1 zcdee zcnow zcahe odee onow oahe)) (va_A (wCC T a0 a1 b0 b1 cdee cnow cahe odee onow oahe) sz)) 0 0 (va_A (wCC T a0 a1 b0 b1 cdee cnow cahe odee onow oahe) sz) := by
  intro sz
  refine Met.ofW (cc := cX0_takeAll) (maxL := 2) (ret := none) (by decide) rfl ?_
  intro p e s m args below meth c s₁ B hml hv
  obtain ⟨ha, hsz, hP, hKK, hD0⟩ := hv
  have hx := B.exec
  have hb := B.bytes
  have hr := B.returns
  have hts := atoms_spec (ws := wsX0_takeAll) B.pre
  have hown : s.vm.findClass RX0 = some m.cls := findClass_of_methodNamed B.named
  have hlocks := B.notSynchronized
  have hK := hKK.1
  have hFix : CallFix p m c cX0_takeAll 2 s args wsX0_takeAll RX0 := ⟨hx, hb, hml, hown, hts⟩
  have q1 := hts _ (List.mem_of_getElem? (i := 1) (show wsX0_takeAll[1]? = some (Cond.fieldLink RX0 9 "PartyWill$Course" "deeds" "I") from rfl))
  have q2 := hts _ (List.mem_of_getElem? (i := 2) (show wsX0_takeAll[2]? = some (Cond.fieldLink RX0 15 "PartyWill$Course" "now" "J") from rfl))
  have q3 := hts _ (List.mem_of_getElem? (i := 3) (show wsX0_takeAll[3]? = some (Cond.fieldLink RX0 19 "PartyWill$Course" "ahead" "[J") from rfl))
  have q4 := hts _ (List.mem_of_getElem? (i := 4) (show wsX0_takeAll[4]? = some (Cond.methodLink RX0 23 arraycopyName) from rfl))
  have q5 := hts _ (List.mem_of_getElem? (i := 5) (show wsX0_takeAll[5]? = some (Cond.native arraycopyName) from rfl))
  have q6 := hts _ (List.mem_of_getElem? (i := 6) (show wsX0_takeAll[6]? = some (Cond.static arraycopyName) from rfl))
  have q7 := hts _ (List.mem_of_getElem? (i := 7) (show wsX0_takeAll[7]? = some (Cond.initialized "java/lang/System") from rfl))
  have iX0 : ∀ w ∈ u_ws RX0 TX0 3, w ∈ wsX0_takeAll := fun w h => List.mem_cons_of_mem _ (List.mem_append_right _ (h))
  subst hsz
  have hD := hD0.self (sz := s.heap.size)
  generalize hAe : va_A (wCC T a0 a1 b0 b1 cdee cnow cahe odee onow oahe) s.heap.size = A at hD ⊢
  have hA : ∀ q : Nat, s.heap.size ≤ q → A q := fun q h => by rw [← hAe]; exact Or.inr h
  have hS : va_S A s.heap s.heap [] := va_S.rf
  have hP : va_P D vwCl (wCC T a0 a1 b0 b1 cdee cnow cahe odee onow oahe) s.heap := hP
  obtain ⟨ls, hl, e0⟩ := my_entry (m := m) (n := 2) ha (Nat.le_of_ble_eq_true rfl)
  rw [e0]
  have hl : lv_has ls 2 [(0, .ref a0), (1, .ref b0)] := hl
  have key : ∀ Q : State → Prop, (∀ (H : Heap) (locs : List Loc) (pc : Nat) (ls : Array Slot), va_P D vwCl (wCC T a0 a1 b0 b1 zcdee zcnow zcahe odee onow oahe) H → va_D A (wCC T a0 a1 b0 b1 zcdee zcnow zcahe odee onow oahe) → va_S A s.heap H locs → decode cX0_takeAll pc = .ok (.return_, 1) → W p l e ({ frames := 1, cells := 0, slots := 0, locals := 60 } : Room) s m args below meth c H locs 0 0 Q (F0 m pc ls [])) → W p l e ({ frames := 1, cells := 0, slots := 0, locals := 60 } : Room) s m args below meth c s.heap [] 0 0 Q (F0 m 0 ls []) := by
    intro Q hret
    skip
    unfold fX0_takeAll at h
    refine lv_aload_n hx hb dX0_takeAll_0 rfl (lv_at hl 0 rfl) ?_
    refine lv_aload_n hx hb dX0_takeAll_1 rfl (lv_at hl 1 rfl) ?_
    refine va_get (D := D) (ci := 0) (C := RX0) (T := TX0) (N := 3) hx hb hts iX0 hown hK hP 2 wCC_2 rfl 0 (by decide) q1 (fun _ h9 => h9) rfl dX0_takeAll_2 ?_
    refine va_put (D := D) (ci := 0) (v := .int odee) (ty := .int) (C := RX0) (T := TX0) (N := 3) hx hb hts iX0 tyX0 tyX0_ok nmX0 hown hK hP hD hS 0 wCC_0 rfl 0 (by decide) q1 (fun _ h9 => h9) rfl (by decide +kernel) rfl rfl (Nat.le_of_ble_eq_true rfl) dX0_takeAll_5 (fun H locs hP hD hS => ?_)
    have hP : va_P D vwCl (wCC T a0 a1 b0 b1 odee cnow cahe odee onow oahe) H := hP
    have hD : va_D A (wCC T a0 a1 b0 b1 odee cnow cahe odee onow oahe) := hD
    refine lv_aload_n hx hb dX0_takeAll_8 rfl (lv_at hl 0 rfl) ?_
    refine lv_aload_n hx hb dX0_takeAll_9 rfl (lv_at hl 1 rfl) ?_
    refine va_get (D := D) (ci := 0) (C := RX0) (T := TX0) (N := 3) hx hb hts iX0 hown hK hP 2 wCC_2 rfl 1 (by decide) q2 (fun _ h9 => h9) rfl dX0_takeAll_10 ?_
    refine va_put (D := D) (ci := 0) (v := .long onow) (ty := .long) (C := RX0) (T := TX0) (N := 3) hx hb hts iX0 tyX0 tyX0_ok nmX0 hown hK hP hD hS 0 wCC_0 rfl 1 (by decide) q2 (fun _ h9 => h9) rfl (by decide +kernel) rfl rfl (Nat.le_of_ble_eq_true rfl) dX0_takeAll_13 (fun H locs hP hD hS => ?_)
    have hP : va_P D vwCl (wCC T a0 a1 b0 b1 odee onow cahe odee onow oahe) H := hP
    have hD : va_D A (wCC T a0 a1 b0 b1 odee onow cahe odee onow oahe) := hD
    refine lv_aload_n hx hb dX0_takeAll_16 rfl (lv_at hl 1 rfl) ?_
    refine va_get (D := D) (ci := 0) (C := RX0) (T := TX0) (N := 3) hx hb hts iX0 hown hK hP 2 wCC_2 rfl 2 (by decide) q3 (fun _ h9 => h9) rfl dX0_takeAll_17 ?_
    refine lv_iconst (v := (0 : Int32)) hx hb dX0_takeAll_20 (by decide) ?_
    refine lv_aload_n hx hb dX0_takeAll_21 rfl (lv_at hl 0 rfl) ?_
    refine va_get (D := D) (ci := 0) (C := RX0) (T := TX0) (N := 3) hx hb hts iX0 hown hK hP 0 wCC_0 rfl 2 (by decide) q3 (fun _ h9 => h9) rfl dX0_takeAll_22 ?_
    refine lv_iconst (v := (0 : Int32)) hx hb dX0_takeAll_25 (by decide) ?_
    refine lv_bipush (v := (40 : Int32)) hx hb dX0_takeAll_26 (by decide) ?_
    obtain ⟨hin1, h⟩ := ck_some h
    refine va_copyl hx hb (hml.trans hl.1.symm) hown q4 q5 q6 q7 hK hP hD hS 3 1 2 2 wCC_3 wCC_1 rfl rfl rfl (fun q => hin1 (Or.inl q)) (fun q => hin1 (Or.inr (Or.inl q))) (fun q => hin1 (Or.inr (Or.inr (Or.inl q)))) (Nat.not_lt.mp (fun q => hin1 (Or.inr (Or.inr (Or.inr (Or.inl q)))))) (Nat.not_lt.mp (fun q => hin1 (Or.inr (Or.inr (Or.inr (Or.inr q)))))) (fun _ _ => rfl) (Nat.le_of_ble_eq_true rfl) (by decide +kernel) dX0_takeAll_28 (fun H locs hP hD hS => ?_)
    have hP : va_P D vwCl (wCC T a0 a1 b0 b1 odee onow (va_cpy oahe cahe (0 : Int32).toNatClampNeg (0 : Int32).toNatClampNeg (40 : Int32).toNatClampNeg) odee onow oahe) H := hP
    have hD : va_D A (wCC T a0 a1 b0 b1 odee onow (va_cpy oahe cahe (0 : Int32).toNatClampNeg (0 : Int32).toNatClampNeg (40 : Int32).toNatClampNeg) odee onow oahe) := hD
    cases h
    exact hret _ _ _ _ hP hD hS dX0_takeAll_31
  exact key _ (fun H locs pc ls hP hD hS hd => W.vret hx hb hr (fun t ht hW => ⟨⟨(), rfl, trivial, by show _ ∧ _; rw [ht]; exact ⟨hP, hD⟩⟩, hS.F ht⟩) hS.2.2 hd)
set_option maxHeartbeats 4000000 in
set_option maxRecDepth 100000 in
theorem kX4_takesClause (l : Launch) (D : va_G) (T : Nat → ClassId) (F : Nat) (b0 : Nat) (a0 : Nat) (a1 : Nat) (a2 : Nat) (a3 : Nat) (a4 : Nat) (a5 : Nat) (rdue : Int32) (rtun : Int32) (rsee : Int32) (rbeg : Int32) (size : Int32) (clause : Int32) (eff : Nat → Int32) (kin : Nat → Int32) (gri : Nat → Int32) (sig : Nat → Int32) (see : Nat → Int32) (x1 : Int32) (r : Int32) (zrdue : Int32) (zclause : Int32) (h : fX4_takesClause F rdue clause x1 = some (r, zrdue, zclause)) : ∀ sz : Nat, Met l yX4_takesClause wsX4_takesClause ({ frames := 0, cells := 0, slots := 0, locals := 0 } : Room) (va_Pc [.ref b0, .int x1, .ref a0] (fun U => U.heap.size = sz ∧ va_P D vwCl (wRP T b0 a0 a1 a2 a3 a4 a5 rdue rtun rsee rbeg size clause eff kin gri sig see) U.heap ∧ KK D T U ∧ va_D (fun _ => True) (wRP T b0 a0 a1 a2 a3 a4 a5 rdue rtun rsee rbeg size clause eff kin gri sig see))) (va_Qi (fun r' (_ : Unit) => r' = r ∧ b01 r) (fun _ t => va_P D vwCl (wRP T b0 a0 a1 a2 a3 a4 a5 zrdue rtun rsee rbeg size zclause eff kin gri sig see) t.heap ∧ va_D (va_A (wRP T b0 a0 a1 a2 a3 a4 a5 rdue rtun rsee rbeg size clause eff kin gri sig see) sz) (wRP T b0 a0 a1 a2 a3 a4 a5 zrdue rtun rsee rbeg size zclause eff kin gri sig see)) (va_A (wRP T b0 a0 a1 a2 a3 a4 a5 rdue rtun rsee rbeg size clause eff kin gri sig see) sz)) 0 0 (va_A (wRP T b0 a0 a1 a2 a3 a4 a5 rdue rtun rsee rbeg size clause eff kin gri sig see) sz) := by
  intro sz
  refine Met.ofW (cc := cX4_takesClause) (maxL := 3) (ret := some .boolean) (by decide) rfl ?_
  intro p e s m args below meth c s₁ B hml hv
  obtain ⟨ha, hsz, hP, hKK, hD0⟩ := hv
  have hx := B.exec
  have hb := B.bytes
  have hr := B.returns
  have hts := atoms_spec (ws := wsX4_takesClause) B.pre
  have hown : s.vm.findClass RX4 = some m.cls := findClass_of_methodNamed B.named
  have hlocks := B.notSynchronized
  have hK := hKK.1
  have hFix : CallFix p m c cX4_takesClause 3 s args wsX4_takesClause RX4 := ⟨hx, hb, hml, hown, hts⟩
  have q1 := hts _ (List.mem_of_getElem? (i := 1) (show wsX4_takesClause[1]? = some (Cond.fieldLink RX4 11 "PartyWill$Reader" "due" "I") from rfl))
  have iX2 : ∀ w ∈ u_ws RX2 TX2 7, w ∈ wsX4_takesClause := fun w h => List.mem_cons_of_mem _ (List.mem_append_left _ (List.mem_append_right _ (h)))
  have iX4 : ∀ w ∈ u_ws RX4 TX4 4, w ∈ wsX4_takesClause := fun w h => List.mem_cons_of_mem _ (List.mem_append_right _ (h))
  subst hsz
  have hD := hD0.self (sz := s.heap.size)
  generalize hAe : va_A (wRP T b0 a0 a1 a2 a3 a4 a5 rdue rtun rsee rbeg size clause eff kin gri sig see) s.heap.size = A at hD ⊢
  have hA : ∀ q : Nat, s.heap.size ≤ q → A q := fun q h => by rw [← hAe]; exact Or.inr h
  have hS : va_S A s.heap s.heap [] := va_S.rf
  have hP : va_P D vwCl (wRP T b0 a0 a1 a2 a3 a4 a5 rdue rtun rsee rbeg size clause eff kin gri sig see) s.heap := hP
  obtain ⟨ls, hl, e0⟩ := my_entry (m := m) (n := 3) ha (Nat.le_of_ble_eq_true rfl)
  rw [e0]
  have hl : lv_has ls 3 [(0, .ref b0), (1, .int x1), (2, .ref a0)] := hl
  have key : ∀ Q : State → Prop, (∀ (H : Heap) (locs : List Loc) (pc : Nat) (ls : Array Slot), va_P D vwCl (wRP T b0 a0 a1 a2 a3 a4 a5 zrdue rtun rsee rbeg size zclause eff kin gri sig see) H → va_D A (wRP T b0 a0 a1 a2 a3 a4 a5 zrdue rtun rsee rbeg size zclause eff kin gri sig see) → va_S A s.heap H locs → decode cX4_takesClause pc = .ok (.ireturn, 1) → b01 r → W p l e ({ frames := 0, cells := 0, slots := 0, locals := 0 } : Room) s m args below meth c H locs 0 0 Q (F0 m pc ls [.int r])) → W p l e ({ frames := 0, cells := 0, slots := 0, locals := 0 } : Room) s m args below meth c s.heap [] 0 0 Q (F0 m 0 ls []) := by
    intro Q hret
    skip
    unfold fX4_takesClause at h
    refine lv_aload_n hx hb dX4_takesClause_0 rfl (lv_at hl 2 rfl) ?_
    refine lv_iload_n hx hb dX4_takesClause_1 rfl (lv_at hl 1 rfl) ?_
    refine va_putN (host := "PartyWill") (D := D) (ci := 1) (v := .int x1) (ty := .int) (C := RX2) (T := TX2) (N := 7) hx hb hts iX2 tyX2 tyX2_ok nmX2 hown hK hP hD hS 1 wRP_1 rfl 1 (by decide) (va_Nw.use rfl (nw_X4_59 hKK.2)) (fun _ h9 => h9) rfl (by decide +kernel) rfl rfl (Nat.le_of_ble_eq_true rfl) dX4_takesClause_2 (fun H locs hP hD hS => ?_)
    have hP : va_P D vwCl (wRP T b0 a0 a1 a2 a3 a4 a5 rdue rtun rsee rbeg size x1 eff kin gri sig see) H := hP
    have hD : va_D A (wRP T b0 a0 a1 a2 a3 a4 a5 rdue rtun rsee rbeg size x1 eff kin gri sig see) := hD
    refine lv_aload_n hx hb dX4_takesClause_5 rfl (lv_at hl 0 rfl) ?_
    refine lv_iconst (v := (2 : Int32)) hx hb dX4_takesClause_6 (by decide) ?_
    refine va_put (D := D) (ci := 2) (v := .int (2 : Int32)) (ty := .int) (C := RX4) (T := TX4) (N := 4) hx hb hts iX4 tyX4 tyX4_ok nmX4 hown hK hP hD hS 0 wRP_0 rfl 0 (by decide) q1 (fun _ h9 => h9) rfl (by decide +kernel) rfl rfl (Nat.le_of_ble_eq_true rfl) dX4_takesClause_7 (fun H locs hP hD hS => ?_)
    have hP : va_P D vwCl (wRP T b0 a0 a1 a2 a3 a4 a5 (2 : Int32) rtun rsee rbeg size x1 eff kin gri sig see) H := hP
    have hD : va_D A (wRP T b0 a0 a1 a2 a3 a4 a5 (2 : Int32) rtun rsee rbeg size x1 eff kin gri sig see) := hD
    refine lv_iload_n hx hb dX4_takesClause_10 rfl (lv_at hl 1 rfl) ?_
    refine lv_iconst (v := (1 : Int32)) hx hb dX4_takesClause_11 (by decide) ?_
    refine lv_icmp_lt (tgt := 25) hx hb dX4_takesClause_12 (by decide) (fun c12 => ?_) (fun c12 => ?_)
    · have h := br_1 h c12
      refine lv_iconst (v := (0 : Int32)) hx hb dX4_takesClause_25 (by decide) ?_
      cases h
      exact hret _ _ _ _ hP hD hS dX4_takesClause_26 (Or.inl rfl)
    · have h := br_0 h c12
      refine lv_iload_n hx hb dX4_takesClause_15 rfl (lv_at hl 1 rfl) ?_
      refine lv_bipush (v := (9 : Int32)) hx hb dX4_takesClause_16 (by decide) ?_
      refine lv_icmp_gt (tgt := 25) hx hb dX4_takesClause_18 (by decide) (fun c18 => ?_) (fun c18 => ?_)
      · have h := br_1 h c18
        refine lv_iconst (v := (0 : Int32)) hx hb dX4_takesClause_25 (by decide) ?_
        cases h
        exact hret _ _ _ _ hP hD hS dX4_takesClause_26 (Or.inl rfl)
      · have h := br_0 h c18
        refine lv_iconst (v := (1 : Int32)) hx hb dX4_takesClause_21 (by decide) ?_
        refine lv_goto (tgt := 26) hx hb dX4_takesClause_22 (by decide) ?_
        cases h
        exact hret _ _ _ _ hP hD hS dX4_takesClause_26 (Or.inr rfl)
  exact key _ (fun H locs pc ls hP hD hS hd hb1 => W.zret hx hb hr (b01_n hb1) (fun t ht hW => ⟨⟨_, (), rfl, ⟨rfl, hb1⟩, by show _ ∧ _; rw [ht]; exact ⟨hP, hD⟩⟩, hS.F ht⟩) hS.2.2 hd)
set_option maxHeartbeats 4000000 in
set_option maxRecDepth 100000 in
theorem kX4_isFigure (l : Launch) (D : va_G) (T : Nat → ClassId) (F : Nat) (x0 : Int32) (r : Int32) (h : fX4_isFigure F x0 = some (r)) : Met l yX4_isFigure wsX4_isFigure ({ frames := 0, cells := 0, slots := 0, locals := 0 } : Room) (va_Pc [.int x0] (fun U => va_P D vwCl ([] : va_W) U.heap ∧ KK D T U)) (vp_Si (fun r' => r' = r ∧ b01 r)) 0 0 (fun _ => False) := by
  refine Met.ofW (cc := cX4_isFigure) (maxL := 1) (ret := some .boolean) (by decide) rfl ?_
  intro p e s m args below meth c s₁ B hml hv
  obtain ⟨ha, hP, hKK⟩ := hv
  have hx := B.exec
  have hb := B.bytes
  have hr := B.returns
  have hts := atoms_spec (ws := wsX4_isFigure) B.pre
  have hown : s.vm.findClass RX4 = some m.cls := findClass_of_methodNamed B.named
  have hlocks := B.notSynchronized
  have hK := hKK.1
  have hFix : CallFix p m c cX4_isFigure 1 s args wsX4_isFigure RX4 := ⟨hx, hb, hml, hown, hts⟩
  obtain ⟨ls, hl, e0⟩ := my_entry (m := m) (n := 1) ha (Nat.le_of_ble_eq_true rfl)
  rw [e0]
  have hl : lv_has ls 1 [(0, .int x0)] := hl
  have key : ∀ Q : State → Prop, (∀ (pc : Nat) (ls : Array Slot), decode cX4_isFigure pc = .ok (.ireturn, 1) → b01 r → W p l e ({ frames := 0, cells := 0, slots := 0, locals := 0 } : Room) s m args below meth c s.heap [] 0 0 Q (F0 m pc ls [.int r])) → W p l e ({ frames := 0, cells := 0, slots := 0, locals := 0 } : Room) s m args below meth c s.heap [] 0 0 Q (F0 m 0 ls []) := by
    intro Q hret
    unfold fX4_isFigure at h
    refine lv_iload_n hx hb dX4_isFigure_0 rfl (lv_at hl 0 rfl) ?_
    refine lv_if_lt (tgt := 14) hx hb dX4_isFigure_1 (by decide) (fun c1 => ?_) (fun c1 => ?_)
    · have h := br_1 h c1
      refine lv_iconst (v := (0 : Int32)) hx hb dX4_isFigure_14 (by decide) ?_
      cases h
      exact hret _ _ dX4_isFigure_15 (Or.inl rfl)
    · have h := br_0 h c1
      refine lv_iload_n hx hb dX4_isFigure_4 rfl (lv_at hl 0 rfl) ?_
      refine lv_bipush (v := (9 : Int32)) hx hb dX4_isFigure_5 (by decide) ?_
      refine lv_icmp_gt (tgt := 14) hx hb dX4_isFigure_7 (by decide) (fun c7 => ?_) (fun c7 => ?_)
      · have h := br_1 h c7
        refine lv_iconst (v := (0 : Int32)) hx hb dX4_isFigure_14 (by decide) ?_
        cases h
        exact hret _ _ dX4_isFigure_15 (Or.inl rfl)
      · have h := br_0 h c7
        refine lv_iconst (v := (1 : Int32)) hx hb dX4_isFigure_10 (by decide) ?_
        refine lv_goto (tgt := 15) hx hb dX4_isFigure_11 (by decide) ?_
        cases h
        exact hret _ _ dX4_isFigure_15 (Or.inr rfl)
  exact key _ (fun pc ls hd hb1 => W.zret hx hb hr (b01_n hb1) (fun t ht hW => ⟨_, rfl, ⟨rfl, hb1⟩, ht⟩) (fun q h => by cases h) hd)
set_option maxHeartbeats 4000000 in
set_option maxRecDepth 100000 in
theorem kX5_isTune (l : Launch) (D : va_G) (T : Nat → ClassId) (F : Nat) (x0 : Int32) (r : Int32) (h : fX5_isTune F x0 = some (r)) : Met l yX5_isTune wsX5_isTune ({ frames := 0, cells := 0, slots := 0, locals := 0 } : Room) (va_Pc [.int x0] (fun U => va_P D vwCl ([] : va_W) U.heap ∧ KK D T U)) (vp_Si (fun r' => r' = r ∧ b01 r)) 0 0 (fun _ => False) := by
  refine Met.ofW (cc := cX5_isTune) (maxL := 1) (ret := some .boolean) (by decide) rfl ?_
  intro p e s m args below meth c s₁ B hml hv
  obtain ⟨ha, hP, hKK⟩ := hv
  have hx := B.exec
  have hb := B.bytes
  have hr := B.returns
  have hts := atoms_spec (ws := wsX5_isTune) B.pre
  have hown : s.vm.findClass RX5 = some m.cls := findClass_of_methodNamed B.named
  have hlocks := B.notSynchronized
  have hK := hKK.1
  have hFix : CallFix p m c cX5_isTune 1 s args wsX5_isTune RX5 := ⟨hx, hb, hml, hown, hts⟩
  obtain ⟨ls, hl, e0⟩ := my_entry (m := m) (n := 1) ha (Nat.le_of_ble_eq_true rfl)
  rw [e0]
  have hl : lv_has ls 1 [(0, .int x0)] := hl
  have key : ∀ Q : State → Prop, (∀ (pc : Nat) (ls : Array Slot), decode cX5_isTune pc = .ok (.ireturn, 1) → b01 r → W p l e ({ frames := 0, cells := 0, slots := 0, locals := 0 } : Room) s m args below meth c s.heap [] 0 0 Q (F0 m pc ls [.int r])) → W p l e ({ frames := 0, cells := 0, slots := 0, locals := 0 } : Room) s m args below meth c s.heap [] 0 0 Q (F0 m 0 ls []) := by
    intro Q hret
    unfold fX5_isTune at h
    refine lv_iload_n hx hb dX5_isTune_0 rfl (lv_at hl 0 rfl) ?_
    refine lv_if_lt (tgt := 13) hx hb dX5_isTune_1 (by decide) (fun c1 => ?_) (fun c1 => ?_)
    · have h := br_1 h c1
      refine lv_iconst (v := (0 : Int32)) hx hb dX5_isTune_13 (by decide) ?_
      cases h
      exact hret _ _ dX5_isTune_14 (Or.inl rfl)
    · have h := br_0 h c1
      refine lv_iload_n hx hb dX5_isTune_4 rfl (lv_at hl 0 rfl) ?_
      refine lv_iconst (v := (4 : Int32)) hx hb dX5_isTune_5 (by decide) ?_
      refine lv_icmp_ge (tgt := 13) hx hb dX5_isTune_6 (by decide) (fun c6 => ?_) (fun c6 => ?_)
      · have h := br_1 h c6
        refine lv_iconst (v := (0 : Int32)) hx hb dX5_isTune_13 (by decide) ?_
        cases h
        exact hret _ _ dX5_isTune_14 (Or.inl rfl)
      · have h := br_0 h c6
        refine lv_iconst (v := (1 : Int32)) hx hb dX5_isTune_9 (by decide) ?_
        refine lv_goto (tgt := 14) hx hb dX5_isTune_10 (by decide) ?_
        cases h
        exact hret _ _ dX5_isTune_14 (Or.inr rfl)
  exact key _ (fun pc ls hd hb1 => W.zret hx hb hr (b01_n hb1) (fun t ht hW => ⟨_, rfl, ⟨rfl, hb1⟩, ht⟩) (fun q h => by cases h) hd)
set_option maxHeartbeats 4000000 in
set_option maxRecDepth 100000 in
theorem kX4_takesEffect (l : Launch) (D : va_G) (T : Nat → ClassId) (F : Nat) (b0 : Nat) (a0 : Nat) (a1 : Nat) (a2 : Nat) (a3 : Nat) (a4 : Nat) (a5 : Nat) (rdue : Int32) (rtun : Int32) (rsee : Int32) (rbeg : Int32) (size : Int32) (clause : Int32) (eff : Nat → Int32) (kin : Nat → Int32) (gri : Nat → Int32) (sig : Nat → Int32) (see : Nat → Int32) (x1 : Int32) (r : Int32) (zrdue : Int32) (zrtun : Int32) (zeff : Nat → Int32) (h : fX4_takesEffect F rdue rtun eff x1 = some (r, zrdue, zrtun, zeff)) : ∀ sz : Nat, Met l yX4_takesEffect wsX4_takesEffect ({ frames := 1, cells := 0, slots := 0, locals := 20 } : Room) (va_Pc [.ref b0, .int x1, .ref a0] (fun U => U.heap.size = sz ∧ va_P D vwCl (wRP T b0 a0 a1 a2 a3 a4 a5 rdue rtun rsee rbeg size clause eff kin gri sig see) U.heap ∧ KK D T U ∧ va_D (fun _ => True) (wRP T b0 a0 a1 a2 a3 a4 a5 rdue rtun rsee rbeg size clause eff kin gri sig see))) (va_Qi (fun r' (_ : Unit) => r' = r ∧ b01 r) (fun _ t => va_P D vwCl (wRP T b0 a0 a1 a2 a3 a4 a5 zrdue zrtun rsee rbeg size clause zeff kin gri sig see) t.heap ∧ va_D (va_A (wRP T b0 a0 a1 a2 a3 a4 a5 rdue rtun rsee rbeg size clause eff kin gri sig see) sz) (wRP T b0 a0 a1 a2 a3 a4 a5 zrdue zrtun rsee rbeg size clause zeff kin gri sig see)) (va_A (wRP T b0 a0 a1 a2 a3 a4 a5 rdue rtun rsee rbeg size clause eff kin gri sig see) sz)) 0 0 (va_A (wRP T b0 a0 a1 a2 a3 a4 a5 rdue rtun rsee rbeg size clause eff kin gri sig see) sz) := by
  intro sz
  refine Met.ofW (cc := cX4_takesEffect) (maxL := 3) (ret := some .boolean) (by decide) rfl ?_
  intro p e s m args below meth c s₁ B hml hv
  obtain ⟨ha, hsz, hP, hKK, hD0⟩ := hv
  have hx := B.exec
  have hb := B.bytes
  have hr := B.returns
  have hts := atoms_spec (ws := wsX4_takesEffect) B.pre
  have hown : s.vm.findClass RX4 = some m.cls := findClass_of_methodNamed B.named
  have hlocks := B.notSynchronized
  have hK := hKK.1
  have hFix : CallFix p m c cX4_takesEffect 3 s args wsX4_takesEffect RX4 := ⟨hx, hb, hml, hown, hts⟩
  have q1 := hts _ (List.mem_of_getElem? (i := 1) (show wsX4_takesEffect[1]? = some (Cond.fieldLink RX4 15 "PartyWill$Reader" "tune" "I") from rfl))
  have q2 := hts _ (List.mem_of_getElem? (i := 2) (show wsX4_takesEffect[2]? = some (Cond.fieldLink RX4 11 "PartyWill$Reader" "due" "I") from rfl))
  have q7 := hts _ (List.mem_of_getElem? (i := 7) (show wsX4_takesEffect[7]? = some (Cond.static yX5_isTune) from rfl))
  have q8 := hts _ (List.mem_of_getElem? (i := 8) (show wsX4_takesEffect[8]? = some (Cond.initialized RX5) from rfl))
  have iX2 : ∀ w ∈ u_ws RX2 TX2 7, w ∈ wsX4_takesEffect := fun w h => List.mem_cons_of_mem _ (List.mem_append_right _ (h))
  have iX4 : ∀ w ∈ u_ws RX4 TX4 4, w ∈ wsX4_takesEffect := fun w h => List.mem_cons_of_mem _ (List.mem_append_left _ (List.mem_append_right _ (h)))
  subst hsz
  have hD := hD0.self (sz := s.heap.size)
  generalize hAe : va_A (wRP T b0 a0 a1 a2 a3 a4 a5 rdue rtun rsee rbeg size clause eff kin gri sig see) s.heap.size = A at hD ⊢
  have hA : ∀ q : Nat, s.heap.size ≤ q → A q := fun q h => by rw [← hAe]; exact Or.inr h
  have hS : va_S A s.heap s.heap [] := va_S.rf
  have hP : va_P D vwCl (wRP T b0 a0 a1 a2 a3 a4 a5 rdue rtun rsee rbeg size clause eff kin gri sig see) s.heap := hP
  obtain ⟨ls, hl, e0⟩ := my_entry (m := m) (n := 3) ha (Nat.le_of_ble_eq_true rfl)
  rw [e0]
  have hl : lv_has ls 3 [(0, .ref b0), (1, .int x1), (2, .ref a0)] := hl
  have key : ∀ Q : State → Prop, (∀ (H : Heap) (locs : List Loc) (pc : Nat) (ls : Array Slot), va_P D vwCl (wRP T b0 a0 a1 a2 a3 a4 a5 zrdue zrtun rsee rbeg size clause zeff kin gri sig see) H → va_D A (wRP T b0 a0 a1 a2 a3 a4 a5 zrdue zrtun rsee rbeg size clause zeff kin gri sig see) → va_S A s.heap H locs → decode cX4_takesEffect pc = .ok (.ireturn, 1) → b01 r → W p l e ({ frames := 1, cells := 0, slots := 0, locals := 20 } : Room) s m args below meth c H locs 0 0 Q (F0 m pc ls [.int r])) → W p l e ({ frames := 1, cells := 0, slots := 0, locals := 20 } : Room) s m args below meth c s.heap [] 0 0 Q (F0 m 0 ls []) := by
    intro Q hret
    skip
    unfold fX4_takesEffect at h
    refine lv_iload_n hx hb dX4_takesEffect_0 rfl (lv_at hl 1 rfl) ?_
    obtain ⟨r1, hc, h⟩ := bd1_some h
    refine my_roz (va_Run.run (va_runS (As := [.int x1]) (rest := []) hFix (kX4_isFigure l D T F x1 r1 hc) (va_cwS 1 hts gX4_takesEffect_X4_isFigure rfl rfl rfl hd_X4_isFigure ⟨Nat.le_of_ble_eq_true rfl, Nat.le_of_ble_eq_true rfl⟩) (preS_ro va_nil hKK) rfl rfl hl.1 rfl (lv_room (Nat.le_of_ble_eq_true rfl)) dX4_takesEffect_1 ⟨Nat.zero_le _, Nat.zero_le _⟩)) (fun hb1 => ?_)
    refine lv_if_eq (tgt := 17) hx hb dX4_takesEffect_4 (by decide) (fun c4 => ?_) (fun c4 => ?_)
    · have h := br_1 h c4
      refine lv_iconst (v := (0 : Int32)) hx hb dX4_takesEffect_17 (by decide) ?_
      cases h
      exact hret _ _ _ _ hP hD hS dX4_takesEffect_18 (Or.inl rfl)
    · have h := br_0 h c4
      refine lv_aload_n hx hb dX4_takesEffect_7 rfl (lv_at hl 0 rfl) ?_
      refine va_get (D := D) (ci := 2) (C := RX4) (T := TX4) (N := 4) hx hb hts iX4 hown hK hP 0 wRP_0 rfl 1 (by decide) q1 (fun _ h9 => h9) rfl dX4_takesEffect_8 ?_
      obtain ⟨r11, hc, h⟩ := bd1_some h
      refine my_roz (va_Run.run (va_runSN (host := "PartyWill") (As := [.int rtun]) (rest := []) hFix (kX5_isTune l D T F rtun r11 hc) ⟨va_cnB 1 hts gX4_takesEffect_X5_isTune_n65 rfl rfl rfl (nw_X4_65 hKK.2) q8 hd_X5_isTune ⟨Nat.le_of_ble_eq_true rfl, Nat.le_of_ble_eq_true rfl⟩, q7, trivial⟩ (preS_ro va_nil hKK) rfl rfl hl.1 rfl (lv_room (Nat.le_of_ble_eq_true rfl)) dX4_takesEffect_11 ⟨Nat.zero_le _, Nat.zero_le _⟩)) (fun hb11 => ?_)
      refine lv_if_ne (tgt := 19) hx hb dX4_takesEffect_14 (by decide) (fun c14 => ?_) (fun c14 => ?_)
      · have h := br_0 h c14
        refine lv_aload_n hx hb dX4_takesEffect_19 rfl (lv_at hl 2 rfl) ?_
        refine va_getN (host := "PartyWill") (D := D) (ci := 1) (C := RX2) (T := TX2) (N := 7) hx hb hts iX2 hown hK hP 1 wRP_1 rfl 2 (by decide) (va_Nw.use rfl (nw_X4_68 hKK.2)) (fun _ h9 => h9) rfl dX4_takesEffect_20 ?_
        refine lv_aload_n hx hb dX4_takesEffect_23 rfl (lv_at hl 0 rfl) ?_
        refine va_get (D := D) (ci := 2) (C := RX4) (T := TX4) (N := 4) hx hb hts iX4 hown hK hP 0 wRP_0 rfl 1 (by decide) q1 (fun _ h9 => h9) rfl dX4_takesEffect_24 ?_
        refine lv_iload_n hx hb dX4_takesEffect_27 rfl (lv_at hl 1 rfl) ?_
        refine lv_bipush (v := (-4 : Int32)) hx hb dX4_takesEffect_28 (by decide) ?_
        refine lv_iadd hx hb dX4_takesEffect_30 ?_
        obtain ⟨hin1, h⟩ := ck_some h
        refine va_iast hx hb hK hP hD hS 2 0 wRP_2 rfl hin1 dX4_takesEffect_31 (fun H locs hP hD hS => ?_)
        have hP : va_P D vwCl (wRP T b0 a0 a1 a2 a3 a4 a5 rdue rtun rsee rbeg size clause (upd eff rtun.toNatClampNeg (x1 + (-4 : Int32))) kin gri sig see) H := hP
        have hD : va_D A (wRP T b0 a0 a1 a2 a3 a4 a5 rdue rtun rsee rbeg size clause (upd eff rtun.toNatClampNeg (x1 + (-4 : Int32))) kin gri sig see) := hD
        refine lv_aload_n hx hb dX4_takesEffect_32 rfl (lv_at hl 0 rfl) ?_
        refine lv_dup hx hb dX4_takesEffect_33 rfl ?_
        refine va_get (D := D) (ci := 2) (C := RX4) (T := TX4) (N := 4) hx hb hts iX4 hown hK hP 0 wRP_0 rfl 1 (by decide) q1 (fun _ h9 => h9) rfl dX4_takesEffect_34 ?_
        refine lv_iconst (v := (1 : Int32)) hx hb dX4_takesEffect_37 (by decide) ?_
        refine lv_iadd hx hb dX4_takesEffect_38 ?_
        refine va_put (D := D) (ci := 2) (v := .int (rtun + (1 : Int32))) (ty := .int) (C := RX4) (T := TX4) (N := 4) hx hb hts iX4 tyX4 tyX4_ok nmX4 hown hK hP hD hS 0 wRP_0 rfl 1 (by decide) q1 (fun _ h9 => h9) rfl (by decide +kernel) rfl rfl (Nat.le_of_ble_eq_true rfl) dX4_takesEffect_39 (fun H locs hP hD hS => ?_)
        have hP : va_P D vwCl (wRP T b0 a0 a1 a2 a3 a4 a5 rdue (rtun + (1 : Int32)) rsee rbeg size clause (upd eff rtun.toNatClampNeg (x1 + (-4 : Int32))) kin gri sig see) H := hP
        have hD : va_D A (wRP T b0 a0 a1 a2 a3 a4 a5 rdue (rtun + (1 : Int32)) rsee rbeg size clause (upd eff rtun.toNatClampNeg (x1 + (-4 : Int32))) kin gri sig see) := hD
        refine lv_aload_n hx hb dX4_takesEffect_42 rfl (lv_at hl 0 rfl) ?_
        refine lv_aload_n hx hb dX4_takesEffect_43 rfl (lv_at hl 0 rfl) ?_
        refine va_get (D := D) (ci := 2) (C := RX4) (T := TX4) (N := 4) hx hb hts iX4 hown hK hP 0 wRP_0 rfl 1 (by decide) q1 (fun _ h9 => h9) rfl dX4_takesEffect_44 ?_
        refine lv_iconst (v := (4 : Int32)) hx hb dX4_takesEffect_47 (by decide) ?_
        refine lv_icmp_ge (tgt := 55) hx hb dX4_takesEffect_48 (by decide) (fun c48 => ?_) (fun c48 => ?_)
        · have h := br_1 h c48
          refine lv_iconst (v := (3 : Int32)) hx hb dX4_takesEffect_55 (by decide) ?_
          refine va_put (D := D) (ci := 2) (v := .int (3 : Int32)) (ty := .int) (C := RX4) (T := TX4) (N := 4) hx hb hts iX4 tyX4 tyX4_ok nmX4 hown hK hP hD hS 0 wRP_0 rfl 0 (by decide) q2 (fun _ h9 => h9) rfl (by decide +kernel) rfl rfl (Nat.le_of_ble_eq_true rfl) dX4_takesEffect_56 (fun H locs hP hD hS => ?_)
          have hP : va_P D vwCl (wRP T b0 a0 a1 a2 a3 a4 a5 (3 : Int32) (rtun + (1 : Int32)) rsee rbeg size clause (upd eff rtun.toNatClampNeg (x1 + (-4 : Int32))) kin gri sig see) H := hP
          have hD : va_D A (wRP T b0 a0 a1 a2 a3 a4 a5 (3 : Int32) (rtun + (1 : Int32)) rsee rbeg size clause (upd eff rtun.toNatClampNeg (x1 + (-4 : Int32))) kin gri sig see) := hD
          refine lv_iconst (v := (1 : Int32)) hx hb dX4_takesEffect_59 (by decide) ?_
          cases h
          exact hret _ _ _ _ hP hD hS dX4_takesEffect_60 (Or.inr rfl)
        · have h := br_0 h c48
          refine lv_iconst (v := (2 : Int32)) hx hb dX4_takesEffect_51 (by decide) ?_
          refine lv_goto (tgt := 56) hx hb dX4_takesEffect_52 (by decide) ?_
          refine va_put (D := D) (ci := 2) (v := .int (2 : Int32)) (ty := .int) (C := RX4) (T := TX4) (N := 4) hx hb hts iX4 tyX4 tyX4_ok nmX4 hown hK hP hD hS 0 wRP_0 rfl 0 (by decide) q2 (fun _ h9 => h9) rfl (by decide +kernel) rfl rfl (Nat.le_of_ble_eq_true rfl) dX4_takesEffect_56 (fun H locs hP hD hS => ?_)
          have hP : va_P D vwCl (wRP T b0 a0 a1 a2 a3 a4 a5 (2 : Int32) (rtun + (1 : Int32)) rsee rbeg size clause (upd eff rtun.toNatClampNeg (x1 + (-4 : Int32))) kin gri sig see) H := hP
          have hD : va_D A (wRP T b0 a0 a1 a2 a3 a4 a5 (2 : Int32) (rtun + (1 : Int32)) rsee rbeg size clause (upd eff rtun.toNatClampNeg (x1 + (-4 : Int32))) kin gri sig see) := hD
          refine lv_iconst (v := (1 : Int32)) hx hb dX4_takesEffect_59 (by decide) ?_
          cases h
          exact hret _ _ _ _ hP hD hS dX4_takesEffect_60 (Or.inr rfl)
      · have h := br_1 h c14
        refine lv_iconst (v := (0 : Int32)) hx hb dX4_takesEffect_17 (by decide) ?_
        cases h
        exact hret _ _ _ _ hP hD hS dX4_takesEffect_18 (Or.inl rfl)
  exact key _ (fun H locs pc ls hP hD hS hd hb1 => W.zret hx hb hr (b01_n hb1) (fun t ht hW => ⟨⟨_, (), rfl, ⟨rfl, hb1⟩, by show _ ∧ _; rw [ht]; exact ⟨hP, hD⟩⟩, hS.F ht⟩) hS.2.2 hd)
set_option maxHeartbeats 4000000 in
set_option maxRecDepth 100000 in
theorem kX4_takesGrief (l : Launch) (D : va_G) (T : Nat → ClassId) (F : Nat) (b0 : Nat) (a0 : Nat) (a1 : Nat) (a2 : Nat) (a3 : Nat) (a4 : Nat) (a5 : Nat) (rdue : Int32) (rtun : Int32) (rsee : Int32) (rbeg : Int32) (size : Int32) (clause : Int32) (eff : Nat → Int32) (kin : Nat → Int32) (gri : Nat → Int32) (sig : Nat → Int32) (see : Nat → Int32) (x1 : Int32) (r : Int32) (zrdue : Int32) (zsize : Int32) (zgri : Nat → Int32) (h : fX4_takesGrief F rdue size gri x1 = some (r, zrdue, zsize, zgri)) : ∀ sz : Nat, Met l yX4_takesGrief wsX4_takesGrief ({ frames := 1, cells := 0, slots := 0, locals := 20 } : Room) (va_Pc [.ref b0, .int x1, .ref a0] (fun U => U.heap.size = sz ∧ va_P D vwCl (wRP T b0 a0 a1 a2 a3 a4 a5 rdue rtun rsee rbeg size clause eff kin gri sig see) U.heap ∧ KK D T U ∧ va_D (fun _ => True) (wRP T b0 a0 a1 a2 a3 a4 a5 rdue rtun rsee rbeg size clause eff kin gri sig see))) (va_Qi (fun r' (_ : Unit) => r' = r ∧ b01 r) (fun _ t => va_P D vwCl (wRP T b0 a0 a1 a2 a3 a4 a5 zrdue rtun rsee rbeg zsize clause eff kin zgri sig see) t.heap ∧ va_D (va_A (wRP T b0 a0 a1 a2 a3 a4 a5 rdue rtun rsee rbeg size clause eff kin gri sig see) sz) (wRP T b0 a0 a1 a2 a3 a4 a5 zrdue rtun rsee rbeg zsize clause eff kin zgri sig see)) (va_A (wRP T b0 a0 a1 a2 a3 a4 a5 rdue rtun rsee rbeg size clause eff kin gri sig see) sz)) 0 0 (va_A (wRP T b0 a0 a1 a2 a3 a4 a5 rdue rtun rsee rbeg size clause eff kin gri sig see) sz) := by
  intro sz
  refine Met.ofW (cc := cX4_takesGrief) (maxL := 3) (ret := some .boolean) (by decide) rfl ?_
  intro p e s m args below meth c s₁ B hml hv
  obtain ⟨ha, hsz, hP, hKK, hD0⟩ := hv
  have hx := B.exec
  have hb := B.bytes
  have hr := B.returns
  have hts := atoms_spec (ws := wsX4_takesGrief) B.pre
  have hown : s.vm.findClass RX4 = some m.cls := findClass_of_methodNamed B.named
  have hlocks := B.notSynchronized
  have hK := hKK.1
  have hFix : CallFix p m c cX4_takesGrief 3 s args wsX4_takesGrief RX4 := ⟨hx, hb, hml, hown, hts⟩
  have q1 := hts _ (List.mem_of_getElem? (i := 1) (show wsX4_takesGrief[1]? = some (Cond.fieldLink RX4 11 "PartyWill$Reader" "due" "I") from rfl))
  have iX2 : ∀ w ∈ u_ws RX2 TX2 7, w ∈ wsX4_takesGrief := fun w h => List.mem_cons_of_mem _ (List.mem_append_left _ (List.mem_append_right _ (h)))
  have iX4 : ∀ w ∈ u_ws RX4 TX4 4, w ∈ wsX4_takesGrief := fun w h => List.mem_cons_of_mem _ (List.mem_append_right _ (h))
  subst hsz
  have hD := hD0.self (sz := s.heap.size)
  generalize hAe : va_A (wRP T b0 a0 a1 a2 a3 a4 a5 rdue rtun rsee rbeg size clause eff kin gri sig see) s.heap.size = A at hD ⊢
  have hA : ∀ q : Nat, s.heap.size ≤ q → A q := fun q h => by rw [← hAe]; exact Or.inr h
  have hS : va_S A s.heap s.heap [] := va_S.rf
  have hP : va_P D vwCl (wRP T b0 a0 a1 a2 a3 a4 a5 rdue rtun rsee rbeg size clause eff kin gri sig see) s.heap := hP
  obtain ⟨ls, hl, e0⟩ := my_entry (m := m) (n := 3) ha (Nat.le_of_ble_eq_true rfl)
  rw [e0]
  have hl : lv_has ls 3 [(0, .ref b0), (1, .int x1), (2, .ref a0)] := hl
  have key : ∀ Q : State → Prop, (∀ (H : Heap) (locs : List Loc) (pc : Nat) (ls : Array Slot), va_P D vwCl (wRP T b0 a0 a1 a2 a3 a4 a5 zrdue rtun rsee rbeg zsize clause eff kin zgri sig see) H → va_D A (wRP T b0 a0 a1 a2 a3 a4 a5 zrdue rtun rsee rbeg zsize clause eff kin zgri sig see) → va_S A s.heap H locs → decode cX4_takesGrief pc = .ok (.ireturn, 1) → b01 r → W p l e ({ frames := 1, cells := 0, slots := 0, locals := 20 } : Room) s m args below meth c H locs 0 0 Q (F0 m pc ls [.int r])) → W p l e ({ frames := 1, cells := 0, slots := 0, locals := 20 } : Room) s m args below meth c s.heap [] 0 0 Q (F0 m 0 ls []) := by
    intro Q hret
    skip
    unfold fX4_takesGrief at h
    refine lv_iload_n hx hb dX4_takesGrief_0 rfl (lv_at hl 1 rfl) ?_
    obtain ⟨r1, hc, h⟩ := bd1_some h
    refine my_roz (va_Run.run (va_runS (As := [.int x1]) (rest := []) hFix (kX4_isFigure l D T F x1 r1 hc) (va_cwS 1 hts gX4_takesGrief_X4_isFigure rfl rfl rfl hd_X4_isFigure ⟨Nat.le_of_ble_eq_true rfl, Nat.le_of_ble_eq_true rfl⟩) (preS_ro va_nil hKK) rfl rfl hl.1 rfl (lv_room (Nat.le_of_ble_eq_true rfl)) dX4_takesGrief_1 ⟨Nat.zero_le _, Nat.zero_le _⟩)) (fun hb1 => ?_)
    refine lv_if_eq (tgt := 16) hx hb dX4_takesGrief_4 (by decide) (fun c4 => ?_) (fun c4 => ?_)
    · have h := br_1 h c4
      refine lv_iconst (v := (0 : Int32)) hx hb dX4_takesGrief_16 (by decide) ?_
      cases h
      exact hret _ _ _ _ hP hD hS dX4_takesGrief_17 (Or.inl rfl)
    · have h := br_0 h c4
      refine lv_aload_n hx hb dX4_takesGrief_7 rfl (lv_at hl 2 rfl) ?_
      refine va_getN (host := "PartyWill") (D := D) (ci := 1) (C := RX2) (T := TX2) (N := 7) hx hb hts iX2 hown hK hP 1 wRP_1 rfl 0 (by decide) (va_Nw.use rfl (nw_X4_34 hKK.2)) (fun _ h9 => h9) rfl dX4_takesGrief_8 ?_
      refine lv_bipush (v := (6 : Int32)) hx hb dX4_takesGrief_11 (by decide) ?_
      refine lv_icmp_lt (tgt := 18) hx hb dX4_takesGrief_13 (by decide) (fun c13 => ?_) (fun c13 => ?_)
      · have h := br_1 h c13
        refine lv_aload_n hx hb dX4_takesGrief_18 rfl (lv_at hl 2 rfl) ?_
        refine va_getN (host := "PartyWill") (D := D) (ci := 1) (C := RX2) (T := TX2) (N := 7) hx hb hts iX2 hown hK hP 1 wRP_1 rfl 4 (by decide) (va_Nw.use rfl (nw_X4_79 hKK.2)) (fun _ h9 => h9) rfl dX4_takesGrief_19 ?_
        refine lv_aload_n hx hb dX4_takesGrief_22 rfl (lv_at hl 2 rfl) ?_
        refine va_getN (host := "PartyWill") (D := D) (ci := 1) (C := RX2) (T := TX2) (N := 7) hx hb hts iX2 hown hK hP 1 wRP_1 rfl 0 (by decide) (va_Nw.use rfl (nw_X4_34 hKK.2)) (fun _ h9 => h9) rfl dX4_takesGrief_23 ?_
        refine lv_iload_n hx hb dX4_takesGrief_26 rfl (lv_at hl 1 rfl) ?_
        obtain ⟨hin1, h⟩ := ck_some h
        refine va_iast hx hb hK hP hD hS 4 0 wRP_4 rfl hin1 dX4_takesGrief_27 (fun H locs hP hD hS => ?_)
        have hP : va_P D vwCl (wRP T b0 a0 a1 a2 a3 a4 a5 rdue rtun rsee rbeg size clause eff kin (upd gri size.toNatClampNeg x1) sig see) H := hP
        have hD : va_D A (wRP T b0 a0 a1 a2 a3 a4 a5 rdue rtun rsee rbeg size clause eff kin (upd gri size.toNatClampNeg x1) sig see) := hD
        refine lv_aload_n hx hb dX4_takesGrief_28 rfl (lv_at hl 2 rfl) ?_
        refine lv_dup hx hb dX4_takesGrief_29 rfl ?_
        refine va_getN (host := "PartyWill") (D := D) (ci := 1) (C := RX2) (T := TX2) (N := 7) hx hb hts iX2 hown hK hP 1 wRP_1 rfl 0 (by decide) (va_Nw.use rfl (nw_X4_34 hKK.2)) (fun _ h9 => h9) rfl dX4_takesGrief_30 ?_
        refine lv_iconst (v := (1 : Int32)) hx hb dX4_takesGrief_33 (by decide) ?_
        refine lv_iadd hx hb dX4_takesGrief_34 ?_
        refine va_putN (host := "PartyWill") (D := D) (ci := 1) (v := .int (size + (1 : Int32))) (ty := .int) (C := RX2) (T := TX2) (N := 7) hx hb hts iX2 tyX2 tyX2_ok nmX2 hown hK hP hD hS 1 wRP_1 rfl 0 (by decide) (va_Nw.use rfl (nw_X4_34 hKK.2)) (fun _ h9 => h9) rfl (by decide +kernel) rfl rfl (Nat.le_of_ble_eq_true rfl) dX4_takesGrief_35 (fun H locs hP hD hS => ?_)
        have hP : va_P D vwCl (wRP T b0 a0 a1 a2 a3 a4 a5 rdue rtun rsee rbeg (size + (1 : Int32)) clause eff kin (upd gri size.toNatClampNeg x1) sig see) H := hP
        have hD : va_D A (wRP T b0 a0 a1 a2 a3 a4 a5 rdue rtun rsee rbeg (size + (1 : Int32)) clause eff kin (upd gri size.toNatClampNeg x1) sig see) := hD
        refine lv_aload_n hx hb dX4_takesGrief_38 rfl (lv_at hl 0 rfl) ?_
        refine lv_iconst (v := (3 : Int32)) hx hb dX4_takesGrief_39 (by decide) ?_
        refine va_put (D := D) (ci := 2) (v := .int (3 : Int32)) (ty := .int) (C := RX4) (T := TX4) (N := 4) hx hb hts iX4 tyX4 tyX4_ok nmX4 hown hK hP hD hS 0 wRP_0 rfl 0 (by decide) q1 (fun _ h9 => h9) rfl (by decide +kernel) rfl rfl (Nat.le_of_ble_eq_true rfl) dX4_takesGrief_40 (fun H locs hP hD hS => ?_)
        have hP : va_P D vwCl (wRP T b0 a0 a1 a2 a3 a4 a5 (3 : Int32) rtun rsee rbeg (size + (1 : Int32)) clause eff kin (upd gri size.toNatClampNeg x1) sig see) H := hP
        have hD : va_D A (wRP T b0 a0 a1 a2 a3 a4 a5 (3 : Int32) rtun rsee rbeg (size + (1 : Int32)) clause eff kin (upd gri size.toNatClampNeg x1) sig see) := hD
        refine lv_iconst (v := (1 : Int32)) hx hb dX4_takesGrief_43 (by decide) ?_
        cases h
        exact hret _ _ _ _ hP hD hS dX4_takesGrief_44 (Or.inr rfl)
      · have h := br_0 h c13
        refine lv_iconst (v := (0 : Int32)) hx hb dX4_takesGrief_16 (by decide) ?_
        cases h
        exact hret _ _ _ _ hP hD hS dX4_takesGrief_17 (Or.inl rfl)
  exact key _ (fun H locs pc ls hP hD hS hd hb1 => W.zret hx hb hr (b01_n hb1) (fun t ht hW => ⟨⟨_, (), rfl, ⟨rfl, hb1⟩, by show _ ∧ _; rw [ht]; exact ⟨hP, hD⟩⟩, hS.F ht⟩) hS.2.2 hd)
set_option maxHeartbeats 4000000 in
set_option maxRecDepth 100000 in
theorem kX4_kindByLetter (l : Launch) (D : va_G) (T : Nat → ClassId) (F : Nat) (x0 : Int32) (r : Int32) (h : fX4_kindByLetter F x0 = some (r)) : Met l yX4_kindByLetter wsX4_kindByLetter ({ frames := 0, cells := 0, slots := 0, locals := 0 } : Room) (va_Pc [.int x0] (fun U => va_P D vwCl ([] : va_W) U.heap ∧ KK D T U)) (vp_Si (fun r' => r' = r)) 0 0 (fun _ => False) := by
  refine Met.ofW (cc := cX4_kindByLetter) (maxL := 1) (ret := some .int) (by decide) rfl ?_
  intro p e s m args below meth c s₁ B hml hv
  obtain ⟨ha, hP, hKK⟩ := hv
  have hx := B.exec
  have hb := B.bytes
  have hr := B.returns
  have hts := atoms_spec (ws := wsX4_kindByLetter) B.pre
  have hown : s.vm.findClass RX4 = some m.cls := findClass_of_methodNamed B.named
  have hlocks := B.notSynchronized
  have hK := hKK.1
  have hFix : CallFix p m c cX4_kindByLetter 1 s args wsX4_kindByLetter RX4 := ⟨hx, hb, hml, hown, hts⟩
  obtain ⟨ls, hl, e0⟩ := my_entry (m := m) (n := 1) ha (Nat.le_of_ble_eq_true rfl)
  rw [e0]
  have hl : lv_has ls 1 [(0, .int x0)] := hl
  have key : ∀ Q : State → Prop, (∀ (pc : Nat) (ls : Array Slot), decode cX4_kindByLetter pc = .ok (.ireturn, 1) → W p l e ({ frames := 0, cells := 0, slots := 0, locals := 0 } : Room) s m args below meth c s.heap [] 0 0 Q (F0 m pc ls [.int r])) → W p l e ({ frames := 0, cells := 0, slots := 0, locals := 0 } : Room) s m args below meth c s.heap [] 0 0 Q (F0 m 0 ls []) := by
    intro Q hret
    unfold fX4_kindByLetter at h
    refine lv_iload_n hx hb dX4_kindByLetter_0 rfl (lv_at hl 0 rfl) ?_
    by_cases z1_0 : x0 = (100 : Int32)
    · have h := br_1 h z1_0
      refine lv_lookup (tgt := 62) (off := 61) hx hb dX4_kindByLetter_1 (by decide) (by rw [z1_0]; decide) (by decide) ?_
      refine lv_iconst (v := (1 : Int32)) hx hb dX4_kindByLetter_62 (by decide) ?_
      cases h
      exact hret _ _ dX4_kindByLetter_63
    have h := br_0 h z1_0
    by_cases z1_1 : x0 = (103 : Int32)
    · have h := br_1 h z1_1
      refine lv_lookup (tgt := 60) (off := 59) hx hb dX4_kindByLetter_1 (by decide) (by rw [z1_1]; decide) (by decide) ?_
      refine lv_iconst (v := (0 : Int32)) hx hb dX4_kindByLetter_60 (by decide) ?_
      cases h
      exact hret _ _ dX4_kindByLetter_61
    have h := br_0 h z1_1
    by_cases z1_2 : x0 = (109 : Int32)
    · have h := br_1 h z1_2
      refine lv_lookup (tgt := 66) (off := 65) hx hb dX4_kindByLetter_1 (by decide) (by rw [z1_2]; decide) (by decide) ?_
      refine lv_iconst (v := (3 : Int32)) hx hb dX4_kindByLetter_66 (by decide) ?_
      cases h
      exact hret _ _ dX4_kindByLetter_67
    have h := br_0 h z1_2
    by_cases z1_3 : x0 = (115 : Int32)
    · have h := br_1 h z1_3
      refine lv_lookup (tgt := 64) (off := 63) hx hb dX4_kindByLetter_1 (by decide) (by rw [z1_3]; decide) (by decide) ?_
      refine lv_iconst (v := (2 : Int32)) hx hb dX4_kindByLetter_64 (by decide) ?_
      cases h
      exact hret _ _ dX4_kindByLetter_65
    have h := br_0 h z1_3
    by_cases z1_4 : x0 = (117 : Int32)
    · have h := br_1 h z1_4
      refine lv_lookup (tgt := 68) (off := 67) hx hb dX4_kindByLetter_1 (by decide) (by rw [z1_4]; decide) (by decide) ?_
      refine lv_iconst (v := (4 : Int32)) hx hb dX4_kindByLetter_68 (by decide) ?_
      cases h
      exact hret _ _ dX4_kindByLetter_69
    have h := br_0 h z1_4
    by_cases z1_5 : x0 = (121 : Int32)
    · have h := br_1 h z1_5
      refine lv_lookup (tgt := 70) (off := 69) hx hb dX4_kindByLetter_1 (by decide) (by rw [z1_5]; decide) (by decide) ?_
      refine lv_iconst (v := (5 : Int32)) hx hb dX4_kindByLetter_70 (by decide) ?_
      cases h
      exact hret _ _ dX4_kindByLetter_71
    have h := br_0 h z1_5
    have e1_0 : ¬ x0.toInt = 100 := fun e => z1_0 (Int32.toInt_inj.mp e)
    have e1_1 : ¬ x0.toInt = 103 := fun e => z1_1 (Int32.toInt_inj.mp e)
    have e1_2 : ¬ x0.toInt = 109 := fun e => z1_2 (Int32.toInt_inj.mp e)
    have e1_3 : ¬ x0.toInt = 115 := fun e => z1_3 (Int32.toInt_inj.mp e)
    have e1_4 : ¬ x0.toInt = 117 := fun e => z1_4 (Int32.toInt_inj.mp e)
    have e1_5 : ¬ x0.toInt = 121 := fun e => z1_5 (Int32.toInt_inj.mp e)
    refine lv_lookup (tgt := 72) (off := 71) hx hb dX4_kindByLetter_1 (by decide) (by simp [Op.lookupswitch.offset, List.find?, e1_0, Ne.symm e1_0, e1_1, Ne.symm e1_1, e1_2, Ne.symm e1_2, e1_3, Ne.symm e1_3, e1_4, Ne.symm e1_4, e1_5, Ne.symm e1_5]) (by decide) ?_
    refine lv_bipush (v := (-9 : Int32)) hx hb dX4_kindByLetter_72 (by decide) ?_
    cases h
    exact hret _ _ dX4_kindByLetter_74
  exact key _ (fun pc ls hd => W.iret hx hb hr (fun t ht hW => ⟨_, rfl, rfl, ht⟩) (fun q h => by cases h) hd)
set_option maxHeartbeats 4000000 in
set_option maxRecDepth 100000 in
theorem kX4_takesLetter (l : Launch) (D : va_G) (T : Nat → ClassId) (F : Nat) (b0 : Nat) (a0 : Nat) (a1 : Nat) (a2 : Nat) (a3 : Nat) (a4 : Nat) (a5 : Nat) (rdue : Int32) (rtun : Int32) (rsee : Int32) (rbeg : Int32) (size : Int32) (clause : Int32) (eff : Nat → Int32) (kin : Nat → Int32) (gri : Nat → Int32) (sig : Nat → Int32) (see : Nat → Int32) (x1 : Int32) (r : Int32) (zrdue : Int32) (zrbeg : Int32) (zkin : Nat → Int32) (h : fX4_takesLetter F rdue rbeg size kin x1 = some (r, zrdue, zrbeg, zkin)) : ∀ sz : Nat, Met l yX4_takesLetter wsX4_takesLetter ({ frames := 1, cells := 0, slots := 0, locals := 20 } : Room) (va_Pc [.ref b0, .int x1, .ref a0] (fun U => U.heap.size = sz ∧ va_P D vwCl (wRP T b0 a0 a1 a2 a3 a4 a5 rdue rtun rsee rbeg size clause eff kin gri sig see) U.heap ∧ KK D T U ∧ va_D (fun _ => True) (wRP T b0 a0 a1 a2 a3 a4 a5 rdue rtun rsee rbeg size clause eff kin gri sig see))) (va_Qi (fun r' (_ : Unit) => r' = r ∧ b01 r) (fun _ t => va_P D vwCl (wRP T b0 a0 a1 a2 a3 a4 a5 zrdue rtun rsee zrbeg size clause eff zkin gri sig see) t.heap ∧ va_D (va_A (wRP T b0 a0 a1 a2 a3 a4 a5 rdue rtun rsee rbeg size clause eff kin gri sig see) sz) (wRP T b0 a0 a1 a2 a3 a4 a5 zrdue rtun rsee zrbeg size clause eff zkin gri sig see)) (va_A (wRP T b0 a0 a1 a2 a3 a4 a5 rdue rtun rsee rbeg size clause eff kin gri sig see) sz)) 0 0 (va_A (wRP T b0 a0 a1 a2 a3 a4 a5 rdue rtun rsee rbeg size clause eff kin gri sig see) sz) := by
  intro sz
  refine Met.ofW (cc := cX4_takesLetter) (maxL := 4) (ret := some .boolean) (by decide) rfl ?_
  intro p e s m args below meth c s₁ B hml hv
  obtain ⟨ha, hsz, hP, hKK, hD0⟩ := hv
  have hx := B.exec
  have hb := B.bytes
  have hr := B.returns
  have hts := atoms_spec (ws := wsX4_takesLetter) B.pre
  have hown : s.vm.findClass RX4 = some m.cls := findClass_of_methodNamed B.named
  have hlocks := B.notSynchronized
  have hK := hKK.1
  have hFix : CallFix p m c cX4_takesLetter 4 s args wsX4_takesLetter RX4 := ⟨hx, hb, hml, hown, hts⟩
  have q1 := hts _ (List.mem_of_getElem? (i := 1) (show wsX4_takesLetter[1]? = some (Cond.fieldLink RX4 21 "PartyWill$Reader" "sightsBegun" "Z") from rfl))
  have q2 := hts _ (List.mem_of_getElem? (i := 2) (show wsX4_takesLetter[2]? = some (Cond.fieldLink RX4 11 "PartyWill$Reader" "due" "I") from rfl))
  have iX2 : ∀ w ∈ u_ws RX2 TX2 7, w ∈ wsX4_takesLetter := fun w h => List.mem_cons_of_mem _ (List.mem_append_right _ (h))
  have iX4 : ∀ w ∈ u_ws RX4 TX4 4, w ∈ wsX4_takesLetter := fun w h => List.mem_cons_of_mem _ (List.mem_append_left _ (List.mem_append_right _ (h)))
  subst hsz
  have hD := hD0.self (sz := s.heap.size)
  generalize hAe : va_A (wRP T b0 a0 a1 a2 a3 a4 a5 rdue rtun rsee rbeg size clause eff kin gri sig see) s.heap.size = A at hD ⊢
  have hA : ∀ q : Nat, s.heap.size ≤ q → A q := fun q h => by rw [← hAe]; exact Or.inr h
  have hS : va_S A s.heap s.heap [] := va_S.rf
  have hP : va_P D vwCl (wRP T b0 a0 a1 a2 a3 a4 a5 rdue rtun rsee rbeg size clause eff kin gri sig see) s.heap := hP
  obtain ⟨ls, hl, e0⟩ := my_entry (m := m) (n := 4) ha (Nat.le_of_ble_eq_true rfl)
  rw [e0]
  have hl : lv_has ls 4 [(0, .ref b0), (1, .int x1), (2, .ref a0)] := hl
  have key : ∀ Q : State → Prop, (∀ (H : Heap) (locs : List Loc) (pc : Nat) (ls : Array Slot), va_P D vwCl (wRP T b0 a0 a1 a2 a3 a4 a5 zrdue rtun rsee zrbeg size clause eff zkin gri sig see) H → va_D A (wRP T b0 a0 a1 a2 a3 a4 a5 zrdue rtun rsee zrbeg size clause eff zkin gri sig see) → va_S A s.heap H locs → decode cX4_takesLetter pc = .ok (.ireturn, 1) → b01 r → W p l e ({ frames := 1, cells := 0, slots := 0, locals := 20 } : Room) s m args below meth c H locs 0 0 Q (F0 m pc ls [.int r])) → W p l e ({ frames := 1, cells := 0, slots := 0, locals := 20 } : Room) s m args below meth c s.heap [] 0 0 Q (F0 m 0 ls []) := by
    intro Q hret
    skip
    unfold fX4_takesLetter at h
    refine lv_iload_n hx hb dX4_takesLetter_0 rfl (lv_at hl 1 rfl) ?_
    refine lv_bipush (v := (120 : Int32)) hx hb dX4_takesLetter_1 (by decide) ?_
    refine lv_icmp_ne (tgt := 29) hx hb dX4_takesLetter_3 (by decide) (fun c3 => ?_) (fun c3 => ?_)
    · have h := br_0 h c3
      refine lv_iload_n hx hb dX4_takesLetter_29 rfl (lv_at hl 1 rfl) ?_
      obtain ⟨r30, hc, h⟩ := bd1_some h
      refine my_roi (va_Run.run (va_runS (As := [.int x1]) (rest := []) hFix (kX4_kindByLetter l D T F x1 r30 hc) (va_cwS 1 hts gX4_takesLetter_X4_kindByLetter rfl rfl rfl hd_X4_kindByLetter ⟨Nat.le_of_ble_eq_true rfl, Nat.le_of_ble_eq_true rfl⟩) (preS_ro va_nil hKK) rfl rfl hl.1 rfl (lv_room (Nat.le_of_ble_eq_true rfl)) dX4_takesLetter_30 ⟨Nat.zero_le _, Nat.zero_le _⟩)) ?_
      refine lv_istore_n (lv' := [(3, .int r30), (0, .ref b0), (1, .int x1), (2, .ref a0)]) hx hb dX4_takesLetter_33 rfl hl (by decide) rfl (fun ls hl => ?_)
      refine lv_iload_n hx hb dX4_takesLetter_34 rfl (lv_at hl 0 rfl) ?_
      refine lv_bipush (v := (-9 : Int32)) hx hb dX4_takesLetter_35 (by decide) ?_
      refine lv_icmp_eq (tgt := 56) hx hb dX4_takesLetter_37 (by decide) (fun c37 => ?_) (fun c37 => ?_)
      · have h := br_1 h c37
        refine lv_iconst (v := (0 : Int32)) hx hb dX4_takesLetter_56 (by decide) ?_
        cases h
        exact hret _ _ _ _ hP hD hS dX4_takesLetter_57 (Or.inl rfl)
      · have h := br_0 h c37
        refine lv_aload_n hx hb dX4_takesLetter_40 rfl (lv_at hl 1 rfl) ?_
        refine va_get (D := D) (ci := 2) (C := RX4) (T := TX4) (N := 4) hx hb hts iX4 hown hK hP 0 wRP_0 rfl 3 (by decide) q1 (fun _ h9 => h9) rfl dX4_takesLetter_41 ?_
        refine lv_if_ne (tgt := 56) hx hb dX4_takesLetter_44 (by decide) (fun c44 => ?_) (fun c44 => ?_)
        · have h := br_0 h c44
          refine lv_iconst (v := (0 : Int32)) hx hb dX4_takesLetter_56 (by decide) ?_
          cases h
          exact hret _ _ _ _ hP hD hS dX4_takesLetter_57 (Or.inl rfl)
        · have h := br_1 h c44
          refine lv_aload_n hx hb dX4_takesLetter_47 rfl (lv_at hl 3 rfl) ?_
          refine va_getN (host := "PartyWill") (D := D) (ci := 1) (C := RX2) (T := TX2) (N := 7) hx hb hts iX2 hown hK hP 1 wRP_1 rfl 0 (by decide) (va_Nw.use rfl (nw_X4_34 hKK.2)) (fun _ h9 => h9) rfl dX4_takesLetter_48 ?_
          refine lv_bipush (v := (6 : Int32)) hx hb dX4_takesLetter_51 (by decide) ?_
          refine lv_icmp_lt (tgt := 58) hx hb dX4_takesLetter_53 (by decide) (fun c53 => ?_) (fun c53 => ?_)
          · have h := br_1 h c53
            refine lv_aload_n hx hb dX4_takesLetter_58 rfl (lv_at hl 3 rfl) ?_
            refine va_getN (host := "PartyWill") (D := D) (ci := 1) (C := RX2) (T := TX2) (N := 7) hx hb hts iX2 hown hK hP 1 wRP_1 rfl 3 (by decide) (va_Nw.use rfl (nw_X4_76 hKK.2)) (fun _ h9 => h9) rfl dX4_takesLetter_59 ?_
            refine lv_aload_n hx hb dX4_takesLetter_62 rfl (lv_at hl 3 rfl) ?_
            refine va_getN (host := "PartyWill") (D := D) (ci := 1) (C := RX2) (T := TX2) (N := 7) hx hb hts iX2 hown hK hP 1 wRP_1 rfl 0 (by decide) (va_Nw.use rfl (nw_X4_34 hKK.2)) (fun _ h9 => h9) rfl dX4_takesLetter_63 ?_
            refine lv_iload_n hx hb dX4_takesLetter_66 rfl (lv_at hl 0 rfl) ?_
            obtain ⟨hin1, h⟩ := ck_some h
            refine va_iast hx hb hK hP hD hS 3 0 wRP_3 rfl hin1 dX4_takesLetter_67 (fun H locs hP hD hS => ?_)
            have hP : va_P D vwCl (wRP T b0 a0 a1 a2 a3 a4 a5 rdue rtun rsee rbeg size clause eff (upd kin size.toNatClampNeg r30) gri sig see) H := hP
            have hD : va_D A (wRP T b0 a0 a1 a2 a3 a4 a5 rdue rtun rsee rbeg size clause eff (upd kin size.toNatClampNeg r30) gri sig see) := hD
            refine lv_aload_n hx hb dX4_takesLetter_68 rfl (lv_at hl 1 rfl) ?_
            refine lv_iconst (v := (4 : Int32)) hx hb dX4_takesLetter_69 (by decide) ?_
            refine va_put (D := D) (ci := 2) (v := .int (4 : Int32)) (ty := .int) (C := RX4) (T := TX4) (N := 4) hx hb hts iX4 tyX4 tyX4_ok nmX4 hown hK hP hD hS 0 wRP_0 rfl 0 (by decide) q2 (fun _ h9 => h9) rfl (by decide +kernel) rfl rfl (Nat.le_of_ble_eq_true rfl) dX4_takesLetter_70 (fun H locs hP hD hS => ?_)
            have hP : va_P D vwCl (wRP T b0 a0 a1 a2 a3 a4 a5 (4 : Int32) rtun rsee rbeg size clause eff (upd kin size.toNatClampNeg r30) gri sig see) H := hP
            have hD : va_D A (wRP T b0 a0 a1 a2 a3 a4 a5 (4 : Int32) rtun rsee rbeg size clause eff (upd kin size.toNatClampNeg r30) gri sig see) := hD
            refine lv_iconst (v := (1 : Int32)) hx hb dX4_takesLetter_73 (by decide) ?_
            cases h
            exact hret _ _ _ _ hP hD hS dX4_takesLetter_74 (Or.inr rfl)
          · have h := br_0 h c53
            refine lv_iconst (v := (0 : Int32)) hx hb dX4_takesLetter_56 (by decide) ?_
            cases h
            exact hret _ _ _ _ hP hD hS dX4_takesLetter_57 (Or.inl rfl)
    · have h := br_1 h c3
      refine lv_aload_n hx hb dX4_takesLetter_6 rfl (lv_at hl 0 rfl) ?_
      refine lv_iconst (v := (1 : Int32)) hx hb dX4_takesLetter_7 (by decide) ?_
      refine va_put (D := D) (ci := 2) (v := .int (1 : Int32)) (ty := .boolean) (C := RX4) (T := TX4) (N := 4) hx hb hts iX4 tyX4 tyX4_ok nmX4 hown hK hP hD hS 0 wRP_0 rfl 3 (by decide) q1 (fun _ h9 => h9) rfl (by decide +kernel) rfl rfl (Nat.le_of_ble_eq_true rfl) dX4_takesLetter_8 (fun H locs hP hD hS => ?_)
      have hP : va_P D vwCl (wRP T b0 a0 a1 a2 a3 a4 a5 rdue rtun rsee (1 : Int32) size clause eff kin gri sig see) H := hP
      have hD : va_D A (wRP T b0 a0 a1 a2 a3 a4 a5 rdue rtun rsee (1 : Int32) size clause eff kin gri sig see) := hD
      refine lv_aload_n hx hb dX4_takesLetter_11 rfl (lv_at hl 0 rfl) ?_
      refine lv_iconst (v := (5 : Int32)) hx hb dX4_takesLetter_12 (by decide) ?_
      refine va_put (D := D) (ci := 2) (v := .int (5 : Int32)) (ty := .int) (C := RX4) (T := TX4) (N := 4) hx hb hts iX4 tyX4 tyX4_ok nmX4 hown hK hP hD hS 0 wRP_0 rfl 0 (by decide) q2 (fun _ h9 => h9) rfl (by decide +kernel) rfl rfl (Nat.le_of_ble_eq_true rfl) dX4_takesLetter_13 (fun H locs hP hD hS => ?_)
      have hP : va_P D vwCl (wRP T b0 a0 a1 a2 a3 a4 a5 (5 : Int32) rtun rsee (1 : Int32) size clause eff kin gri sig see) H := hP
      have hD : va_D A (wRP T b0 a0 a1 a2 a3 a4 a5 (5 : Int32) rtun rsee (1 : Int32) size clause eff kin gri sig see) := hD
      refine lv_aload_n hx hb dX4_takesLetter_16 rfl (lv_at hl 2 rfl) ?_
      refine va_getN (host := "PartyWill") (D := D) (ci := 1) (C := RX2) (T := TX2) (N := 7) hx hb hts iX2 hown hK hP 1 wRP_1 rfl 0 (by decide) (va_Nw.use rfl (nw_X4_34 hKK.2)) (fun _ h9 => h9) rfl dX4_takesLetter_17 ?_
      refine lv_if_le (tgt := 27) hx hb dX4_takesLetter_20 (by decide) (fun c20 => ?_) (fun c20 => ?_)
      · have h := br_1 h c20
        refine lv_iconst (v := (0 : Int32)) hx hb dX4_takesLetter_27 (by decide) ?_
        cases h
        exact hret _ _ _ _ hP hD hS dX4_takesLetter_28 (Or.inl rfl)
      · have h := br_0 h c20
        refine lv_iconst (v := (1 : Int32)) hx hb dX4_takesLetter_23 (by decide) ?_
        refine lv_goto (tgt := 28) hx hb dX4_takesLetter_24 (by decide) ?_
        cases h
        exact hret _ _ _ _ hP hD hS dX4_takesLetter_28 (Or.inr rfl)
  exact key _ (fun H locs pc ls hP hD hS hd hb1 => W.zret hx hb hr (b01_n hb1) (fun t ht hW => ⟨⟨_, (), rfl, ⟨rfl, hb1⟩, by show _ ∧ _; rw [ht]; exact ⟨hP, hD⟩⟩, hS.F ht⟩) hS.2.2 hd)
set_option maxHeartbeats 4000000 in
set_option maxRecDepth 100000 in
theorem kX4_takesOpening (l : Launch) (D : va_G) (T : Nat → ClassId) (F : Nat) (b0 : Nat) (rdue : Int32) (rtun : Int32) (rsee : Int32) (rbeg : Int32) (x1 : Int32) (r : Int32) (zrdue : Int32) (h : fX4_takesOpening F rdue x1 = some (r, zrdue)) : ∀ sz : Nat, Met l yX4_takesOpening wsX4_takesOpening ({ frames := 0, cells := 0, slots := 0, locals := 0 } : Room) (va_Pc [.ref b0, .int x1] (fun U => U.heap.size = sz ∧ va_P D vwCl (wRe T b0 rdue rtun rsee rbeg) U.heap ∧ KK D T U ∧ va_D (fun _ => True) (wRe T b0 rdue rtun rsee rbeg))) (va_Qi (fun r' (_ : Unit) => r' = r ∧ b01 r) (fun _ t => va_P D vwCl (wRe T b0 zrdue rtun rsee rbeg) t.heap ∧ va_D (va_A (wRe T b0 rdue rtun rsee rbeg) sz) (wRe T b0 zrdue rtun rsee rbeg)) (va_A (wRe T b0 rdue rtun rsee rbeg) sz)) 0 0 (va_A (wRe T b0 rdue rtun rsee rbeg) sz) := by
  intro sz
  refine Met.ofW (cc := cX4_takesOpening) (maxL := 2) (ret := some .boolean) (by decide) rfl ?_
  intro p e s m args below meth c s₁ B hml hv
  obtain ⟨ha, hsz, hP, hKK, hD0⟩ := hv
  have hx := B.exec
  have hb := B.bytes
  have hr := B.returns
  have hts := atoms_spec (ws := wsX4_takesOpening) B.pre
  have hown : s.vm.findClass RX4 = some m.cls := findClass_of_methodNamed B.named
  have hlocks := B.notSynchronized
  have hK := hKK.1
  have hFix : CallFix p m c cX4_takesOpening 2 s args wsX4_takesOpening RX4 := ⟨hx, hb, hml, hown, hts⟩
  have q1 := hts _ (List.mem_of_getElem? (i := 1) (show wsX4_takesOpening[1]? = some (Cond.fieldLink RX4 11 "PartyWill$Reader" "due" "I") from rfl))
  have iX4 : ∀ w ∈ u_ws RX4 TX4 4, w ∈ wsX4_takesOpening := fun w h => List.mem_cons_of_mem _ (List.mem_append_right _ (h))
  subst hsz
  have hD := hD0.self (sz := s.heap.size)
  generalize hAe : va_A (wRe T b0 rdue rtun rsee rbeg) s.heap.size = A at hD ⊢
  have hA : ∀ q : Nat, s.heap.size ≤ q → A q := fun q h => by rw [← hAe]; exact Or.inr h
  have hS : va_S A s.heap s.heap [] := va_S.rf
  have hP : va_P D vwCl (wRe T b0 rdue rtun rsee rbeg) s.heap := hP
  obtain ⟨ls, hl, e0⟩ := my_entry (m := m) (n := 2) ha (Nat.le_of_ble_eq_true rfl)
  rw [e0]
  have hl : lv_has ls 2 [(0, .ref b0), (1, .int x1)] := hl
  have key : ∀ Q : State → Prop, (∀ (H : Heap) (locs : List Loc) (pc : Nat) (ls : Array Slot), va_P D vwCl (wRe T b0 zrdue rtun rsee rbeg) H → va_D A (wRe T b0 zrdue rtun rsee rbeg) → va_S A s.heap H locs → decode cX4_takesOpening pc = .ok (.ireturn, 1) → b01 r → W p l e ({ frames := 0, cells := 0, slots := 0, locals := 0 } : Room) s m args below meth c H locs 0 0 Q (F0 m pc ls [.int r])) → W p l e ({ frames := 0, cells := 0, slots := 0, locals := 0 } : Room) s m args below meth c s.heap [] 0 0 Q (F0 m 0 ls []) := by
    intro Q hret
    skip
    unfold fX4_takesOpening at h
    refine lv_aload_n hx hb dX4_takesOpening_0 rfl (lv_at hl 0 rfl) ?_
    refine lv_iconst (v := (1 : Int32)) hx hb dX4_takesOpening_1 (by decide) ?_
    refine va_put (D := D) (ci := 2) (v := .int (1 : Int32)) (ty := .int) (C := RX4) (T := TX4) (N := 4) hx hb hts iX4 tyX4 tyX4_ok nmX4 hown hK hP hD hS 0 wRe_0 rfl 0 (by decide) q1 (fun _ h9 => h9) rfl (by decide +kernel) rfl rfl (Nat.le_of_ble_eq_true rfl) dX4_takesOpening_2 (fun H locs hP hD hS => ?_)
    have hP : va_P D vwCl (wRe T b0 (1 : Int32) rtun rsee rbeg) H := hP
    have hD : va_D A (wRe T b0 (1 : Int32) rtun rsee rbeg) := hD
    refine lv_iload_n hx hb dX4_takesOpening_5 rfl (lv_at hl 1 rfl) ?_
    refine lv_bipush (v := (99 : Int32)) hx hb dX4_takesOpening_6 (by decide) ?_
    refine lv_icmp_ne (tgt := 15) hx hb dX4_takesOpening_8 (by decide) (fun c8 => ?_) (fun c8 => ?_)
    · have h := br_0 h c8
      refine lv_iconst (v := (0 : Int32)) hx hb dX4_takesOpening_15 (by decide) ?_
      cases h
      exact hret _ _ _ _ hP hD hS dX4_takesOpening_16 (Or.inl rfl)
    · have h := br_1 h c8
      refine lv_iconst (v := (1 : Int32)) hx hb dX4_takesOpening_11 (by decide) ?_
      refine lv_goto (tgt := 16) hx hb dX4_takesOpening_12 (by decide) ?_
      cases h
      exact hret _ _ _ _ hP hD hS dX4_takesOpening_16 (Or.inr rfl)
  exact key _ (fun H locs pc ls hP hD hS hd hb1 => W.zret hx hb hr (b01_n hb1) (fun t ht hW => ⟨⟨_, (), rfl, ⟨rfl, hb1⟩, by show _ ∧ _; rw [ht]; exact ⟨hP, hD⟩⟩, hS.F ht⟩) hS.2.2 hd)
set_option maxHeartbeats 4000000 in
set_option maxRecDepth 100000 in
theorem kX4_takesSeen (l : Launch) (D : va_G) (T : Nat → ClassId) (F : Nat) (b0 : Nat) (a0 : Nat) (a1 : Nat) (a2 : Nat) (a3 : Nat) (a4 : Nat) (a5 : Nat) (rdue : Int32) (rtun : Int32) (rsee : Int32) (rbeg : Int32) (size : Int32) (clause : Int32) (eff : Nat → Int32) (kin : Nat → Int32) (gri : Nat → Int32) (sig : Nat → Int32) (see : Nat → Int32) (x1 : Int32) (r : Int32) (zrdue : Int32) (zsig : Nat → Int32) (zsee : Nat → Int32) (h : fX4_takesSeen F rdue rsee size sig see x1 = some (r, zrdue, zsig, zsee)) : ∀ sz : Nat, Met l yX4_takesSeen wsX4_takesSeen ({ frames := 0, cells := 0, slots := 0, locals := 0 } : Room) (va_Pc [.ref b0, .int x1, .ref a0] (fun U => U.heap.size = sz ∧ va_P D vwCl (wRP T b0 a0 a1 a2 a3 a4 a5 rdue rtun rsee rbeg size clause eff kin gri sig see) U.heap ∧ KK D T U ∧ va_D (fun _ => True) (wRP T b0 a0 a1 a2 a3 a4 a5 rdue rtun rsee rbeg size clause eff kin gri sig see))) (va_Qi (fun r' (_ : Unit) => r' = r ∧ b01 r) (fun _ t => va_P D vwCl (wRP T b0 a0 a1 a2 a3 a4 a5 zrdue rtun rsee rbeg size clause eff kin gri zsig zsee) t.heap ∧ va_D (va_A (wRP T b0 a0 a1 a2 a3 a4 a5 rdue rtun rsee rbeg size clause eff kin gri sig see) sz) (wRP T b0 a0 a1 a2 a3 a4 a5 zrdue rtun rsee rbeg size clause eff kin gri zsig zsee)) (va_A (wRP T b0 a0 a1 a2 a3 a4 a5 rdue rtun rsee rbeg size clause eff kin gri sig see) sz)) 0 0 (va_A (wRP T b0 a0 a1 a2 a3 a4 a5 rdue rtun rsee rbeg size clause eff kin gri sig see) sz) := by
  intro sz
  refine Met.ofW (cc := cX4_takesSeen) (maxL := 4) (ret := some .boolean) (by decide) rfl ?_
  intro p e s m args below meth c s₁ B hml hv
  obtain ⟨ha, hsz, hP, hKK, hD0⟩ := hv
  have hx := B.exec
  have hb := B.bytes
  have hr := B.returns
  have hts := atoms_spec (ws := wsX4_takesSeen) B.pre
  have hown : s.vm.findClass RX4 = some m.cls := findClass_of_methodNamed B.named
  have hlocks := B.notSynchronized
  have hK := hKK.1
  have hFix : CallFix p m c cX4_takesSeen 4 s args wsX4_takesSeen RX4 := ⟨hx, hb, hml, hown, hts⟩
  have q1 := hts _ (List.mem_of_getElem? (i := 1) (show wsX4_takesSeen[1]? = some (Cond.fieldLink RX4 18 "PartyWill$Reader" "seer" "I") from rfl))
  have q2 := hts _ (List.mem_of_getElem? (i := 2) (show wsX4_takesSeen[2]? = some (Cond.fieldLink RX4 11 "PartyWill$Reader" "due" "I") from rfl))
  have iX2 : ∀ w ∈ u_ws RX2 TX2 7, w ∈ wsX4_takesSeen := fun w h => List.mem_cons_of_mem _ (List.mem_append_left _ (List.mem_append_right _ (h)))
  have iX4 : ∀ w ∈ u_ws RX4 TX4 4, w ∈ wsX4_takesSeen := fun w h => List.mem_cons_of_mem _ (List.mem_append_right _ (h))
  subst hsz
  have hD := hD0.self (sz := s.heap.size)
  generalize hAe : va_A (wRP T b0 a0 a1 a2 a3 a4 a5 rdue rtun rsee rbeg size clause eff kin gri sig see) s.heap.size = A at hD ⊢
  have hA : ∀ q : Nat, s.heap.size ≤ q → A q := fun q h => by rw [← hAe]; exact Or.inr h
  have hS : va_S A s.heap s.heap [] := va_S.rf
  have hP : va_P D vwCl (wRP T b0 a0 a1 a2 a3 a4 a5 rdue rtun rsee rbeg size clause eff kin gri sig see) s.heap := hP
  obtain ⟨ls, hl, e0⟩ := my_entry (m := m) (n := 4) ha (Nat.le_of_ble_eq_true rfl)
  rw [e0]
  have hl : lv_has ls 4 [(0, .ref b0), (1, .int x1), (2, .ref a0)] := hl
  have key : ∀ Q : State → Prop, (∀ (H : Heap) (locs : List Loc) (pc : Nat) (ls : Array Slot), va_P D vwCl (wRP T b0 a0 a1 a2 a3 a4 a5 zrdue rtun rsee rbeg size clause eff kin gri zsig zsee) H → va_D A (wRP T b0 a0 a1 a2 a3 a4 a5 zrdue rtun rsee rbeg size clause eff kin gri zsig zsee) → va_S A s.heap H locs → decode cX4_takesSeen pc = .ok (.ireturn, 1) → b01 r → W p l e ({ frames := 0, cells := 0, slots := 0, locals := 0 } : Room) s m args below meth c H locs 0 0 Q (F0 m pc ls [.int r])) → W p l e ({ frames := 0, cells := 0, slots := 0, locals := 0 } : Room) s m args below meth c s.heap [] 0 0 Q (F0 m 0 ls []) := by
    intro Q hret
    skip
    have n25 : ∀ s_0 : Int32, ∀ x1 : Int32, ∀ rdue : Int32, ∀ sig : Nat → Int32, ∀ see : Nat → Int32, fX4_takesSeen_n25 F rsee size s_0 x1 rdue sig see = some (r, zrdue, zsig, zsee) → ∀ (H : Heap) (locs : List Loc), va_P D vwCl (wRP T b0 a0 a1 a2 a3 a4 a5 rdue rtun rsee rbeg size clause eff kin gri sig see) H → va_D A (wRP T b0 a0 a1 a2 a3 a4 a5 rdue rtun rsee rbeg size clause eff kin gri sig see) → va_S A s.heap H locs → ∀ (ls : Array Slot), lv_has ls 4 [(0, .ref b0), (1, .int x1), (2, .ref a0)] → W p l e ({ frames := 0, cells := 0, slots := 0, locals := 0 } : Room) s m args below meth c H locs 0 0 Q (F0 m 25 ls [.int s_0]) := by
      intro s_0 x1 rdue sig see h H locs hP hD hS ls hl
      unfold fX4_takesSeen_n25 at h
      refine lv_istore_n (lv' := [(3, .int s_0), (0, .ref b0), (1, .int x1), (2, .ref a0)]) hx hb dX4_takesSeen_25 rfl hl (by decide) rfl (fun ls hl => ?_)
      refine lv_iload_n hx hb dX4_takesSeen_26 rfl (lv_at hl 0 rfl) ?_
      refine lv_if_eq (tgt := 46) hx hb dX4_takesSeen_27 (by decide) (fun c27 => ?_) (fun c27 => ?_)
      · have h := br_1 h c27
        refine lv_iconst (v := (0 : Int32)) hx hb dX4_takesSeen_46 (by decide) ?_
        cases h
        exact hret _ _ _ _ hP hD hS dX4_takesSeen_47 (Or.inl rfl)
      · have h := br_0 h c27
        refine lv_aload_n hx hb dX4_takesSeen_30 rfl (lv_at hl 3 rfl) ?_
        refine va_getN (host := "PartyWill") (D := D) (ci := 1) (C := RX2) (T := TX2) (N := 7) hx hb hts iX2 hown hK hP 1 wRP_1 rfl 5 (by decide) (va_Nw.use rfl (nw_X4_82 hKK.2)) (fun _ h9 => h9) rfl dX4_takesSeen_31 ?_
        refine lv_aload_n hx hb dX4_takesSeen_34 rfl (lv_at hl 1 rfl) ?_
        refine va_get (D := D) (ci := 2) (C := RX4) (T := TX4) (N := 4) hx hb hts iX4 hown hK hP 0 wRP_0 rfl 2 (by decide) q1 (fun _ h9 => h9) rfl dX4_takesSeen_35 ?_
        obtain ⟨hin1, h⟩ := ck_some h
        refine va_iald hx hb hK hP 5 0 wRP_5 rfl hin1 dX4_takesSeen_38 ?_
        refine lv_iload_n hx hb dX4_takesSeen_39 rfl (lv_at hl 2 rfl) ?_
        refine lv_ishr hx hb dX4_takesSeen_40 ?_
        refine lv_iconst (v := (1 : Int32)) hx hb dX4_takesSeen_41 (by decide) ?_
        refine lv_iand hx hb dX4_takesSeen_42 ?_
        refine lv_if_eq (tgt := 48) hx hb dX4_takesSeen_43 (by decide) (fun c43 => ?_) (fun c43 => ?_)
        · have h := br_1 h c43
          refine lv_aload_n hx hb dX4_takesSeen_48 rfl (lv_at hl 3 rfl) ?_
          refine va_getN (host := "PartyWill") (D := D) (ci := 1) (C := RX2) (T := TX2) (N := 7) hx hb hts iX2 hown hK hP 1 wRP_1 rfl 5 (by decide) (va_Nw.use rfl (nw_X4_82 hKK.2)) (fun _ h9 => h9) rfl dX4_takesSeen_49 ?_
          refine lv_aload_n hx hb dX4_takesSeen_52 rfl (lv_at hl 1 rfl) ?_
          refine va_get (D := D) (ci := 2) (C := RX4) (T := TX4) (N := 4) hx hb hts iX4 hown hK hP 0 wRP_0 rfl 2 (by decide) q1 (fun _ h9 => h9) rfl dX4_takesSeen_53 ?_
          refine lv_dup2_11 hx hb dX4_takesSeen_56 rfl rfl ?_
          obtain ⟨hin2, h⟩ := ck_some h
          refine va_iald hx hb hK hP 5 0 wRP_5 rfl hin2 dX4_takesSeen_57 ?_
          refine lv_iconst (v := (1 : Int32)) hx hb dX4_takesSeen_58 (by decide) ?_
          refine lv_iload_n hx hb dX4_takesSeen_59 rfl (lv_at hl 2 rfl) ?_
          refine lv_ishl hx hb dX4_takesSeen_60 ?_
          refine lv_ior hx hb dX4_takesSeen_61 ?_
          obtain ⟨hin3, h⟩ := ck_some h
          refine va_iast hx hb hK hP hD hS 5 0 wRP_5 rfl hin3 dX4_takesSeen_62 (fun H locs hP hD hS => ?_)
          have hP : va_P D vwCl (wRP T b0 a0 a1 a2 a3 a4 a5 rdue rtun rsee rbeg size clause eff kin gri (upd sig rsee.toNatClampNeg ((sig rsee.toNatClampNeg) ||| ((1 : Int32) <<< (x1 &&& 31)))) see) H := hP
          have hD : va_D A (wRP T b0 a0 a1 a2 a3 a4 a5 rdue rtun rsee rbeg size clause eff kin gri (upd sig rsee.toNatClampNeg ((sig rsee.toNatClampNeg) ||| ((1 : Int32) <<< (x1 &&& 31)))) see) := hD
          refine lv_aload_n hx hb dX4_takesSeen_63 rfl (lv_at hl 3 rfl) ?_
          refine va_getN (host := "PartyWill") (D := D) (ci := 1) (C := RX2) (T := TX2) (N := 7) hx hb hts iX2 hown hK hP 1 wRP_1 rfl 6 (by decide) (va_Nw.use rfl (nw_X4_85 hKK.2)) (fun _ h9 => h9) rfl dX4_takesSeen_64 ?_
          refine lv_iload_n hx hb dX4_takesSeen_67 rfl (lv_at hl 2 rfl) ?_
          refine lv_dup2_11 hx hb dX4_takesSeen_68 rfl rfl ?_
          obtain ⟨hin4, h⟩ := ck_some h
          refine va_iald hx hb hK hP 6 0 wRP_6 rfl hin4 dX4_takesSeen_69 ?_
          refine lv_iconst (v := (1 : Int32)) hx hb dX4_takesSeen_70 (by decide) ?_
          refine lv_aload_n hx hb dX4_takesSeen_71 rfl (lv_at hl 1 rfl) ?_
          refine va_get (D := D) (ci := 2) (C := RX4) (T := TX4) (N := 4) hx hb hts iX4 hown hK hP 0 wRP_0 rfl 2 (by decide) q1 (fun _ h9 => h9) rfl dX4_takesSeen_72 ?_
          refine lv_ishl hx hb dX4_takesSeen_75 ?_
          refine lv_ior hx hb dX4_takesSeen_76 ?_
          obtain ⟨hin5, h⟩ := ck_some h
          refine va_iast hx hb hK hP hD hS 6 0 wRP_6 rfl hin5 dX4_takesSeen_77 (fun H locs hP hD hS => ?_)
          have hP : va_P D vwCl (wRP T b0 a0 a1 a2 a3 a4 a5 rdue rtun rsee rbeg size clause eff kin gri (upd sig rsee.toNatClampNeg ((sig rsee.toNatClampNeg) ||| ((1 : Int32) <<< (x1 &&& 31)))) (upd see x1.toNatClampNeg ((see x1.toNatClampNeg) ||| ((1 : Int32) <<< (rsee &&& 31))))) H := hP
          have hD : va_D A (wRP T b0 a0 a1 a2 a3 a4 a5 rdue rtun rsee rbeg size clause eff kin gri (upd sig rsee.toNatClampNeg ((sig rsee.toNatClampNeg) ||| ((1 : Int32) <<< (x1 &&& 31)))) (upd see x1.toNatClampNeg ((see x1.toNatClampNeg) ||| ((1 : Int32) <<< (rsee &&& 31))))) := hD
          refine lv_aload_n hx hb dX4_takesSeen_78 rfl (lv_at hl 1 rfl) ?_
          refine lv_iconst (v := (3 : Int32)) hx hb dX4_takesSeen_79 (by decide) ?_
          refine va_put (D := D) (ci := 2) (v := .int (3 : Int32)) (ty := .int) (C := RX4) (T := TX4) (N := 4) hx hb hts iX4 tyX4 tyX4_ok nmX4 hown hK hP hD hS 0 wRP_0 rfl 0 (by decide) q2 (fun _ h9 => h9) rfl (by decide +kernel) rfl rfl (Nat.le_of_ble_eq_true rfl) dX4_takesSeen_80 (fun H locs hP hD hS => ?_)
          have hP : va_P D vwCl (wRP T b0 a0 a1 a2 a3 a4 a5 (3 : Int32) rtun rsee rbeg size clause eff kin gri (upd sig rsee.toNatClampNeg ((sig rsee.toNatClampNeg) ||| ((1 : Int32) <<< (x1 &&& 31)))) (upd see x1.toNatClampNeg ((see x1.toNatClampNeg) ||| ((1 : Int32) <<< (rsee &&& 31))))) H := hP
          have hD : va_D A (wRP T b0 a0 a1 a2 a3 a4 a5 (3 : Int32) rtun rsee rbeg size clause eff kin gri (upd sig rsee.toNatClampNeg ((sig rsee.toNatClampNeg) ||| ((1 : Int32) <<< (x1 &&& 31)))) (upd see x1.toNatClampNeg ((see x1.toNatClampNeg) ||| ((1 : Int32) <<< (rsee &&& 31))))) := hD
          refine lv_iconst (v := (1 : Int32)) hx hb dX4_takesSeen_83 (by decide) ?_
          cases h
          exact hret _ _ _ _ hP hD hS dX4_takesSeen_84 (Or.inr rfl)
        · have h := br_0 h c43
          refine lv_iconst (v := (0 : Int32)) hx hb dX4_takesSeen_46 (by decide) ?_
          cases h
          exact hret _ _ _ _ hP hD hS dX4_takesSeen_47 (Or.inl rfl)
    unfold fX4_takesSeen at h
    refine lv_iload_n hx hb dX4_takesSeen_0 rfl (lv_at hl 1 rfl) ?_
    refine lv_if_lt (tgt := 24) hx hb dX4_takesSeen_1 (by decide) (fun c1 => ?_) (fun c1 => ?_)
    · have h := br_1 h c1
      refine lv_iconst (v := (0 : Int32)) hx hb dX4_takesSeen_24 (by decide) ?_
      exact n25 (0 : Int32) x1 rdue sig see h _ _ hP hD hS _ (lv_sub hl [0, 1, 2] rfl)
    · have h := br_0 h c1
      refine lv_iload_n hx hb dX4_takesSeen_4 rfl (lv_at hl 1 rfl) ?_
      refine lv_aload_n hx hb dX4_takesSeen_5 rfl (lv_at hl 2 rfl) ?_
      refine va_getN (host := "PartyWill") (D := D) (ci := 1) (C := RX2) (T := TX2) (N := 7) hx hb hts iX2 hown hK hP 1 wRP_1 rfl 0 (by decide) (va_Nw.use rfl (nw_X4_34 hKK.2)) (fun _ h9 => h9) rfl dX4_takesSeen_6 ?_
      refine lv_icmp_ge (tgt := 24) hx hb dX4_takesSeen_9 (by decide) (fun c9 => ?_) (fun c9 => ?_)
      · have h := br_1 h c9
        refine lv_iconst (v := (0 : Int32)) hx hb dX4_takesSeen_24 (by decide) ?_
        exact n25 (0 : Int32) x1 rdue sig see h _ _ hP hD hS _ (lv_sub hl [0, 1, 2] rfl)
      · have h := br_0 h c9
        refine lv_iload_n hx hb dX4_takesSeen_12 rfl (lv_at hl 1 rfl) ?_
        refine lv_aload_n hx hb dX4_takesSeen_13 rfl (lv_at hl 0 rfl) ?_
        refine va_get (D := D) (ci := 2) (C := RX4) (T := TX4) (N := 4) hx hb hts iX4 hown hK hP 0 wRP_0 rfl 2 (by decide) q1 (fun _ h9 => h9) rfl dX4_takesSeen_14 ?_
        refine lv_icmp_eq (tgt := 24) hx hb dX4_takesSeen_17 (by decide) (fun c17 => ?_) (fun c17 => ?_)
        · have h := br_1 h c17
          refine lv_iconst (v := (0 : Int32)) hx hb dX4_takesSeen_24 (by decide) ?_
          exact n25 (0 : Int32) x1 rdue sig see h _ _ hP hD hS _ (lv_sub hl [0, 1, 2] rfl)
        · have h := br_0 h c17
          refine lv_iconst (v := (1 : Int32)) hx hb dX4_takesSeen_20 (by decide) ?_
          refine lv_goto (tgt := 25) hx hb dX4_takesSeen_21 (by decide) ?_
          exact n25 (1 : Int32) x1 rdue sig see h _ _ hP hD hS _ (lv_sub hl [0, 1, 2] rfl)
  exact key _ (fun H locs pc ls hP hD hS hd hb1 => W.zret hx hb hr (b01_n hb1) (fun t ht hW => ⟨⟨_, (), rfl, ⟨rfl, hb1⟩, by show _ ∧ _; rw [ht]; exact ⟨hP, hD⟩⟩, hS.F ht⟩) hS.2.2 hd)
set_option maxHeartbeats 4000000 in
set_option maxRecDepth 100000 in
theorem kX4_takesSeer (l : Launch) (D : va_G) (T : Nat → ClassId) (F : Nat) (b0 : Nat) (a0 : Nat) (a1 : Nat) (a2 : Nat) (a3 : Nat) (a4 : Nat) (a5 : Nat) (rdue : Int32) (rtun : Int32) (rsee : Int32) (rbeg : Int32) (size : Int32) (clause : Int32) (eff : Nat → Int32) (kin : Nat → Int32) (gri : Nat → Int32) (sig : Nat → Int32) (see : Nat → Int32) (x1 : Int32) (r : Int32) (zrdue : Int32) (zrsee : Int32) (h : fX4_takesSeer F rdue rsee size x1 = some (r, zrdue, zrsee)) : ∀ sz : Nat, Met l yX4_takesSeer wsX4_takesSeer ({ frames := 0, cells := 0, slots := 0, locals := 0 } : Room) (va_Pc [.ref b0, .int x1, .ref a0] (fun U => U.heap.size = sz ∧ va_P D vwCl (wRP T b0 a0 a1 a2 a3 a4 a5 rdue rtun rsee rbeg size clause eff kin gri sig see) U.heap ∧ KK D T U ∧ va_D (fun _ => True) (wRP T b0 a0 a1 a2 a3 a4 a5 rdue rtun rsee rbeg size clause eff kin gri sig see))) (va_Qi (fun r' (_ : Unit) => r' = r ∧ b01 r) (fun _ t => va_P D vwCl (wRP T b0 a0 a1 a2 a3 a4 a5 zrdue rtun zrsee rbeg size clause eff kin gri sig see) t.heap ∧ va_D (va_A (wRP T b0 a0 a1 a2 a3 a4 a5 rdue rtun rsee rbeg size clause eff kin gri sig see) sz) (wRP T b0 a0 a1 a2 a3 a4 a5 zrdue rtun zrsee rbeg size clause eff kin gri sig see)) (va_A (wRP T b0 a0 a1 a2 a3 a4 a5 rdue rtun rsee rbeg size clause eff kin gri sig see) sz)) 0 0 (va_A (wRP T b0 a0 a1 a2 a3 a4 a5 rdue rtun rsee rbeg size clause eff kin gri sig see) sz) := by
  intro sz
  refine Met.ofW (cc := cX4_takesSeer) (maxL := 3) (ret := some .boolean) (by decide) rfl ?_
  intro p e s m args below meth c s₁ B hml hv
  obtain ⟨ha, hsz, hP, hKK, hD0⟩ := hv
  have hx := B.exec
  have hb := B.bytes
  have hr := B.returns
  have hts := atoms_spec (ws := wsX4_takesSeer) B.pre
  have hown : s.vm.findClass RX4 = some m.cls := findClass_of_methodNamed B.named
  have hlocks := B.notSynchronized
  have hK := hKK.1
  have hFix : CallFix p m c cX4_takesSeer 3 s args wsX4_takesSeer RX4 := ⟨hx, hb, hml, hown, hts⟩
  have q1 := hts _ (List.mem_of_getElem? (i := 1) (show wsX4_takesSeer[1]? = some (Cond.fieldLink RX4 18 "PartyWill$Reader" "seer" "I") from rfl))
  have q2 := hts _ (List.mem_of_getElem? (i := 2) (show wsX4_takesSeer[2]? = some (Cond.fieldLink RX4 11 "PartyWill$Reader" "due" "I") from rfl))
  have iX2 : ∀ w ∈ u_ws RX2 TX2 7, w ∈ wsX4_takesSeer := fun w h => List.mem_cons_of_mem _ (List.mem_append_right _ (h))
  have iX4 : ∀ w ∈ u_ws RX4 TX4 4, w ∈ wsX4_takesSeer := fun w h => List.mem_cons_of_mem _ (List.mem_append_left _ (List.mem_append_right _ (h)))
  subst hsz
  have hD := hD0.self (sz := s.heap.size)
  generalize hAe : va_A (wRP T b0 a0 a1 a2 a3 a4 a5 rdue rtun rsee rbeg size clause eff kin gri sig see) s.heap.size = A at hD ⊢
  have hA : ∀ q : Nat, s.heap.size ≤ q → A q := fun q h => by rw [← hAe]; exact Or.inr h
  have hS : va_S A s.heap s.heap [] := va_S.rf
  have hP : va_P D vwCl (wRP T b0 a0 a1 a2 a3 a4 a5 rdue rtun rsee rbeg size clause eff kin gri sig see) s.heap := hP
  obtain ⟨ls, hl, e0⟩ := my_entry (m := m) (n := 3) ha (Nat.le_of_ble_eq_true rfl)
  rw [e0]
  have hl : lv_has ls 3 [(0, .ref b0), (1, .int x1), (2, .ref a0)] := hl
  have key : ∀ Q : State → Prop, (∀ (H : Heap) (locs : List Loc) (pc : Nat) (ls : Array Slot), va_P D vwCl (wRP T b0 a0 a1 a2 a3 a4 a5 zrdue rtun zrsee rbeg size clause eff kin gri sig see) H → va_D A (wRP T b0 a0 a1 a2 a3 a4 a5 zrdue rtun zrsee rbeg size clause eff kin gri sig see) → va_S A s.heap H locs → decode cX4_takesSeer pc = .ok (.ireturn, 1) → b01 r → W p l e ({ frames := 0, cells := 0, slots := 0, locals := 0 } : Room) s m args below meth c H locs 0 0 Q (F0 m pc ls [.int r])) → W p l e ({ frames := 0, cells := 0, slots := 0, locals := 0 } : Room) s m args below meth c s.heap [] 0 0 Q (F0 m 0 ls []) := by
    intro Q hret
    skip
    unfold fX4_takesSeer at h
    refine lv_aload_n hx hb dX4_takesSeer_0 rfl (lv_at hl 0 rfl) ?_
    refine lv_iload_n hx hb dX4_takesSeer_1 rfl (lv_at hl 1 rfl) ?_
    refine va_put (D := D) (ci := 2) (v := .int x1) (ty := .int) (C := RX4) (T := TX4) (N := 4) hx hb hts iX4 tyX4 tyX4_ok nmX4 hown hK hP hD hS 0 wRP_0 rfl 2 (by decide) q1 (fun _ h9 => h9) rfl (by decide +kernel) rfl rfl (Nat.le_of_ble_eq_true rfl) dX4_takesSeer_2 (fun H locs hP hD hS => ?_)
    have hP : va_P D vwCl (wRP T b0 a0 a1 a2 a3 a4 a5 rdue rtun x1 rbeg size clause eff kin gri sig see) H := hP
    have hD : va_D A (wRP T b0 a0 a1 a2 a3 a4 a5 rdue rtun x1 rbeg size clause eff kin gri sig see) := hD
    refine lv_aload_n hx hb dX4_takesSeer_5 rfl (lv_at hl 0 rfl) ?_
    refine lv_bipush (v := (6 : Int32)) hx hb dX4_takesSeer_6 (by decide) ?_
    refine va_put (D := D) (ci := 2) (v := .int (6 : Int32)) (ty := .int) (C := RX4) (T := TX4) (N := 4) hx hb hts iX4 tyX4 tyX4_ok nmX4 hown hK hP hD hS 0 wRP_0 rfl 0 (by decide) q2 (fun _ h9 => h9) rfl (by decide +kernel) rfl rfl (Nat.le_of_ble_eq_true rfl) dX4_takesSeer_8 (fun H locs hP hD hS => ?_)
    have hP : va_P D vwCl (wRP T b0 a0 a1 a2 a3 a4 a5 (6 : Int32) rtun x1 rbeg size clause eff kin gri sig see) H := hP
    have hD : va_D A (wRP T b0 a0 a1 a2 a3 a4 a5 (6 : Int32) rtun x1 rbeg size clause eff kin gri sig see) := hD
    refine lv_iload_n hx hb dX4_takesSeer_11 rfl (lv_at hl 1 rfl) ?_
    refine lv_if_lt (tgt := 27) hx hb dX4_takesSeer_12 (by decide) (fun c12 => ?_) (fun c12 => ?_)
    · have h := br_1 h c12
      refine lv_iconst (v := (0 : Int32)) hx hb dX4_takesSeer_27 (by decide) ?_
      cases h
      exact hret _ _ _ _ hP hD hS dX4_takesSeer_28 (Or.inl rfl)
    · have h := br_0 h c12
      refine lv_iload_n hx hb dX4_takesSeer_15 rfl (lv_at hl 1 rfl) ?_
      refine lv_aload_n hx hb dX4_takesSeer_16 rfl (lv_at hl 2 rfl) ?_
      refine va_getN (host := "PartyWill") (D := D) (ci := 1) (C := RX2) (T := TX2) (N := 7) hx hb hts iX2 hown hK hP 1 wRP_1 rfl 0 (by decide) (va_Nw.use rfl (nw_X4_34 hKK.2)) (fun _ h9 => h9) rfl dX4_takesSeer_17 ?_
      refine lv_icmp_ge (tgt := 27) hx hb dX4_takesSeer_20 (by decide) (fun c20 => ?_) (fun c20 => ?_)
      · have h := br_1 h c20
        refine lv_iconst (v := (0 : Int32)) hx hb dX4_takesSeer_27 (by decide) ?_
        cases h
        exact hret _ _ _ _ hP hD hS dX4_takesSeer_28 (Or.inl rfl)
      · have h := br_0 h c20
        refine lv_iconst (v := (1 : Int32)) hx hb dX4_takesSeer_23 (by decide) ?_
        refine lv_goto (tgt := 28) hx hb dX4_takesSeer_24 (by decide) ?_
        cases h
        exact hret _ _ _ _ hP hD hS dX4_takesSeer_28 (Or.inr rfl)
  exact key _ (fun H locs pc ls hP hD hS hd hb1 => W.zret hx hb hr (b01_n hb1) (fun t ht hW => ⟨⟨_, (), rfl, ⟨rfl, hb1⟩, by show _ ∧ _; rw [ht]; exact ⟨hP, hD⟩⟩, hS.F ht⟩) hS.2.2 hd)
set_option maxHeartbeats 4000000 in
set_option maxRecDepth 100000 in
theorem kX4_takes (l : Launch) (D : va_G) (T : Nat → ClassId) (F : Nat) (b0 : Nat) (a0 : Nat) (a1 : Nat) (a2 : Nat) (a3 : Nat) (a4 : Nat) (a5 : Nat) (rdue : Int32) (rtun : Int32) (rsee : Int32) (rbeg : Int32) (size : Int32) (clause : Int32) (eff : Nat → Int32) (kin : Nat → Int32) (gri : Nat → Int32) (sig : Nat → Int32) (see : Nat → Int32) (x1 : Int32) (r : Int32) (zrdue : Int32) (zrtun : Int32) (zrsee : Int32) (zrbeg : Int32) (zsize : Int32) (zclause : Int32) (zeff : Nat → Int32) (zkin : Nat → Int32) (zgri : Nat → Int32) (zsig : Nat → Int32) (zsee : Nat → Int32) (h : fX4_takes F rdue rtun rsee rbeg size clause eff kin gri sig see x1 = some (r, zrdue, zrtun, zrsee, zrbeg, zsize, zclause, zeff, zkin, zgri, zsig, zsee)) : ∀ sz : Nat, Met l yX4_takes wsX4_takes ({ frames := 2, cells := 0, slots := 0, locals := 43 } : Room) (va_Pc [.ref b0, .int x1, .ref a0] (fun U => U.heap.size = sz ∧ va_P D vwCl (wRP T b0 a0 a1 a2 a3 a4 a5 rdue rtun rsee rbeg size clause eff kin gri sig see) U.heap ∧ KK D T U ∧ va_D (fun _ => True) (wRP T b0 a0 a1 a2 a3 a4 a5 rdue rtun rsee rbeg size clause eff kin gri sig see))) (va_Qi (fun r' (_ : Unit) => r' = r ∧ b01 r) (fun _ t => va_P D vwCl (wRP T b0 a0 a1 a2 a3 a4 a5 zrdue zrtun zrsee zrbeg zsize zclause zeff zkin zgri zsig zsee) t.heap ∧ va_D (va_A (wRP T b0 a0 a1 a2 a3 a4 a5 rdue rtun rsee rbeg size clause eff kin gri sig see) sz) (wRP T b0 a0 a1 a2 a3 a4 a5 zrdue zrtun zrsee zrbeg zsize zclause zeff zkin zgri zsig zsee)) (va_A (wRP T b0 a0 a1 a2 a3 a4 a5 rdue rtun rsee rbeg size clause eff kin gri sig see) sz)) 0 0 (va_A (wRP T b0 a0 a1 a2 a3 a4 a5 rdue rtun rsee rbeg size clause eff kin gri sig see) sz) := by
  intro sz
  refine Met.ofW (cc := cX4_takes) (maxL := 3) (ret := some .boolean) (by decide) rfl ?_
  intro p e s m args below meth c s₁ B hml hv
  obtain ⟨ha, hsz, hP, hKK, hD0⟩ := hv
  have hx := B.exec
  have hb := B.bytes
  have hr := B.returns
  have hts := atoms_spec (ws := wsX4_takes) B.pre
  have hown : s.vm.findClass RX4 = some m.cls := findClass_of_methodNamed B.named
  have hlocks := B.notSynchronized
  have hK := hKK.1
  have hFix : CallFix p m c cX4_takes 3 s args wsX4_takes RX4 := ⟨hx, hb, hml, hown, hts⟩
  have q1 := hts _ (List.mem_of_getElem? (i := 1) (show wsX4_takes[1]? = some (Cond.fieldLink RX4 11 "PartyWill$Reader" "due" "I") from rfl))
  have iX4 : ∀ w ∈ u_ws RX4 TX4 4, w ∈ wsX4_takes := fun w h => List.mem_cons_of_mem _ (List.mem_append_left _ (List.mem_append_right _ (h)))
  subst hsz
  have hD := hD0.self (sz := s.heap.size)
  generalize hAe : va_A (wRP T b0 a0 a1 a2 a3 a4 a5 rdue rtun rsee rbeg size clause eff kin gri sig see) s.heap.size = A at hD ⊢
  have hA : ∀ q : Nat, s.heap.size ≤ q → A q := fun q h => by rw [← hAe]; exact Or.inr h
  have hS : va_S A s.heap s.heap [] := va_S.rf
  have hP : va_P D vwCl (wRP T b0 a0 a1 a2 a3 a4 a5 rdue rtun rsee rbeg size clause eff kin gri sig see) s.heap := hP
  obtain ⟨ls, hl, e0⟩ := my_entry (m := m) (n := 3) ha (Nat.le_of_ble_eq_true rfl)
  rw [e0]
  have hl : lv_has ls 3 [(0, .ref b0), (1, .int x1), (2, .ref a0)] := hl
  have key : ∀ Q : State → Prop, (∀ (H : Heap) (locs : List Loc) (pc : Nat) (ls : Array Slot), va_P D vwCl (wRP T b0 a0 a1 a2 a3 a4 a5 zrdue zrtun zrsee zrbeg zsize zclause zeff zkin zgri zsig zsee) H → va_D A (wRP T b0 a0 a1 a2 a3 a4 a5 zrdue zrtun zrsee zrbeg zsize zclause zeff zkin zgri zsig zsee) → va_S A s.heap H locs → decode cX4_takes pc = .ok (.ireturn, 1) → b01 r → W p l e ({ frames := 2, cells := 0, slots := 0, locals := 43 } : Room) s m args below meth c H locs 0 0 Q (F0 m pc ls [.int r])) → W p l e ({ frames := 2, cells := 0, slots := 0, locals := 43 } : Room) s m args below meth c s.heap [] 0 0 Q (F0 m 0 ls []) := by
    intro Q hret
    skip
    unfold fX4_takes at h
    refine lv_iload_n hx hb dX4_takes_0 rfl (lv_at hl 1 rfl) ?_
    refine lv_bipush (v := (32 : Int32)) hx hb dX4_takes_1 (by decide) ?_
    refine lv_icmp_ne (tgt := 27) hx hb dX4_takes_3 (by decide) (fun c3 => ?_) (fun c3 => ?_)
    · have h := br_0 h c3
      refine lv_aload_n hx hb dX4_takes_27 rfl (lv_at hl 0 rfl) ?_
      refine va_get (D := D) (ci := 2) (C := RX4) (T := TX4) (N := 4) hx hb hts iX4 hown hK hP 0 wRP_0 rfl 0 (by decide) q1 (fun _ h9 => h9) rfl dX4_takes_28 ?_
      by_cases z31_0 : rdue = (0 : Int32)
      · have h := br_1 h z31_0
        refine lv_tableIn (tgt := 68) (off := 37) hx hb dX4_takes_31 (by rw [z31_0]; decide) (by rw [z31_0]; decide) (by rw [z31_0]; decide) (by decide) ?_
        refine lv_aload_n hx hb dX4_takes_68 rfl (lv_at hl 0 rfl) ?_
        refine lv_iload_n hx hb dX4_takes_69 rfl (lv_at hl 1 rfl) ?_
        obtain ⟨r70, w70_rdue, hc, h⟩ := bd2_some h
        have hPc : va_P D vwCl (wRe T b0 rdue rtun rsee rbeg) H := my_subP sb_wRP_wRe_0 hP
        have hDc := hD.sub [0] (by decide) sb_wRP_wRe_0
        have hFc := va_free hD hS hA [0] sb_wRP_wRe_0
        refine my_rwz (va_runV (As := [.int x1]) (rest := []) hFix (kX4_takesOpening l D T F b0 rdue rtun rsee rbeg x1 r70 w70_rdue hc) (cwV 1 hts gX4_takes_X4_takesOpening rfl rfl rfl ⟨rfl, hd_X4_takesOpening⟩ ⟨Nat.le_of_ble_eq_true rfl, Nat.le_of_ble_eq_true rfl⟩) (preV_rw hPc hKK hDc (va_recv hK hP (ci := 2) (q0 := 0) rfl wRP_0)) rfl rfl hl.1 rfl (lv_room (Nat.le_of_ble_eq_true rfl)) dX4_takes_70 ⟨Nat.zero_le _, Nat.zero_le _⟩) hS hFc (fun hb70 H1 locs hP1 hD1 hz1 hk1 hS => ?_)
        obtain ⟨hP, hD⟩ := my_joinS hP hD (by decide) sb_wRP_wRe_0 hk1 hFc hP1 hD1
        have hP : va_P D vwCl (wRP T b0 a0 a1 a2 a3 a4 a5 w70_rdue rtun rsee rbeg size clause eff kin gri sig see) H1 := st_wRP_wRe_0_takesOpening ▸ hP
        have hD : va_D A (wRP T b0 a0 a1 a2 a3 a4 a5 w70_rdue rtun rsee rbeg size clause eff kin gri sig see) := st_wRP_wRe_0_takesOpening ▸ hD
        generalize H1 = H at hP hS ⊢
        cases h
        exact hret _ _ _ _ hP hD hS dX4_takes_73 hb70
      have h := br_0 h z31_0
      by_cases z31_1 : rdue = (1 : Int32)
      · have h := br_1 h z31_1
        refine lv_tableIn (tgt := 74) (off := 43) hx hb dX4_takes_31 (by rw [z31_1]; decide) (by rw [z31_1]; decide) (by rw [z31_1]; decide) (by decide) ?_
        refine lv_aload_n hx hb dX4_takes_74 rfl (lv_at hl 0 rfl) ?_
        refine lv_iload_n hx hb dX4_takes_75 rfl (lv_at hl 1 rfl) ?_
        refine lv_bipush (v := (48 : Int32)) hx hb dX4_takes_76 (by decide) ?_
        refine lv_isub hx hb dX4_takes_78 ?_
        refine lv_aload_n hx hb dX4_takes_79 rfl (lv_at hl 2 rfl) ?_
        obtain ⟨r80, w80_rdue, w80_clause, hc, h⟩ := bd3_some h
        have hFc := my_freeS hD hS hA
        refine my_rwz (va_runV (As := [.int (x1 - (48 : Int32)), .ref a0]) (rest := []) hFix (kX4_takesClause l D T F b0 a0 a1 a2 a3 a4 a5 rdue rtun rsee rbeg size clause eff kin gri sig see (x1 - (48 : Int32)) r80 w80_rdue w80_clause hc) (cwV 2 hts gX4_takes_X4_takesClause rfl rfl rfl ⟨rfl, hd_X4_takesClause⟩ ⟨Nat.le_of_ble_eq_true rfl, Nat.le_of_ble_eq_true rfl⟩) (preV_rw hP hKK hD (va_recv hK hP (ci := 2) (q0 := 0) rfl wRP_0)) rfl rfl hl.1 rfl (lv_room (Nat.le_of_ble_eq_true rfl)) dX4_takes_80 ⟨Nat.zero_le _, Nat.zero_le _⟩) hS hFc (fun hb80 H1 locs hP1 hD1 hz1 hk1 hS => ?_)
        have hP : va_P D vwCl (wRP T b0 a0 a1 a2 a3 a4 a5 w80_rdue rtun rsee rbeg size w80_clause eff kin gri sig see) H1 := hP1
        have hD : va_D A (wRP T b0 a0 a1 a2 a3 a4 a5 w80_rdue rtun rsee rbeg size w80_clause eff kin gri sig see) := hD1.weaken (fun _ q _ h => hFc q.1 h)
        generalize H1 = H at hP hS ⊢
        cases h
        exact hret _ _ _ _ hP hD hS dX4_takes_83 hb80
      have h := br_0 h z31_1
      by_cases z31_2 : rdue = (2 : Int32)
      · have h := br_1 h z31_2
        refine lv_tableIn (tgt := 84) (off := 53) hx hb dX4_takes_31 (by rw [z31_2]; decide) (by rw [z31_2]; decide) (by rw [z31_2]; decide) (by decide) ?_
        refine lv_aload_n hx hb dX4_takes_84 rfl (lv_at hl 0 rfl) ?_
        refine lv_iload_n hx hb dX4_takes_85 rfl (lv_at hl 1 rfl) ?_
        refine lv_bipush (v := (48 : Int32)) hx hb dX4_takes_86 (by decide) ?_
        refine lv_isub hx hb dX4_takes_88 ?_
        refine lv_aload_n hx hb dX4_takes_89 rfl (lv_at hl 2 rfl) ?_
        obtain ⟨r90, w90_rdue, w90_rtun, w90_eff, hc, h⟩ := bd4_some h
        have hFc := my_freeS hD hS hA
        refine my_rwz (va_runV (As := [.int (x1 - (48 : Int32)), .ref a0]) (rest := []) hFix (kX4_takesEffect l D T F b0 a0 a1 a2 a3 a4 a5 rdue rtun rsee rbeg size clause eff kin gri sig see (x1 - (48 : Int32)) r90 w90_rdue w90_rtun w90_eff hc) (cwV 2 hts gX4_takes_X4_takesEffect rfl rfl rfl ⟨rfl, hd_X4_takesEffect⟩ ⟨Nat.le_of_ble_eq_true rfl, Nat.le_of_ble_eq_true rfl⟩) (preV_rw hP hKK hD (va_recv hK hP (ci := 2) (q0 := 0) rfl wRP_0)) rfl rfl hl.1 rfl (lv_room (Nat.le_of_ble_eq_true rfl)) dX4_takes_90 ⟨Nat.zero_le _, Nat.zero_le _⟩) hS hFc (fun hb90 H1 locs hP1 hD1 hz1 hk1 hS => ?_)
        have hP : va_P D vwCl (wRP T b0 a0 a1 a2 a3 a4 a5 w90_rdue w90_rtun rsee rbeg size clause w90_eff kin gri sig see) H1 := hP1
        have hD : va_D A (wRP T b0 a0 a1 a2 a3 a4 a5 w90_rdue w90_rtun rsee rbeg size clause w90_eff kin gri sig see) := hD1.weaken (fun _ q _ h => hFc q.1 h)
        generalize H1 = H at hP hS ⊢
        cases h
        exact hret _ _ _ _ hP hD hS dX4_takes_93 hb90
      have h := br_0 h z31_2
      by_cases z31_3 : rdue = (3 : Int32)
      · have h := br_1 h z31_3
        refine lv_tableIn (tgt := 94) (off := 63) hx hb dX4_takes_31 (by rw [z31_3]; decide) (by rw [z31_3]; decide) (by rw [z31_3]; decide) (by decide) ?_
        refine lv_aload_n hx hb dX4_takes_94 rfl (lv_at hl 0 rfl) ?_
        refine lv_iload_n hx hb dX4_takes_95 rfl (lv_at hl 1 rfl) ?_
        refine lv_aload_n hx hb dX4_takes_96 rfl (lv_at hl 2 rfl) ?_
        obtain ⟨r97, w97_rdue, w97_rbeg, w97_kin, hc, h⟩ := bd4_some h
        have hFc := my_freeS hD hS hA
        refine my_rwz (va_runV (As := [.int x1, .ref a0]) (rest := []) hFix (kX4_takesLetter l D T F b0 a0 a1 a2 a3 a4 a5 rdue rtun rsee rbeg size clause eff kin gri sig see x1 r97 w97_rdue w97_rbeg w97_kin hc) (cwV 2 hts gX4_takes_X4_takesLetter rfl rfl rfl ⟨rfl, hd_X4_takesLetter⟩ ⟨Nat.le_of_ble_eq_true rfl, Nat.le_of_ble_eq_true rfl⟩) (preV_rw hP hKK hD (va_recv hK hP (ci := 2) (q0 := 0) rfl wRP_0)) rfl rfl hl.1 rfl (lv_room (Nat.le_of_ble_eq_true rfl)) dX4_takes_97 ⟨Nat.zero_le _, Nat.zero_le _⟩) hS hFc (fun hb97 H1 locs hP1 hD1 hz1 hk1 hS => ?_)
        have hP : va_P D vwCl (wRP T b0 a0 a1 a2 a3 a4 a5 w97_rdue rtun rsee w97_rbeg size clause eff w97_kin gri sig see) H1 := hP1
        have hD : va_D A (wRP T b0 a0 a1 a2 a3 a4 a5 w97_rdue rtun rsee w97_rbeg size clause eff w97_kin gri sig see) := hD1.weaken (fun _ q _ h => hFc q.1 h)
        generalize H1 = H at hP hS ⊢
        cases h
        exact hret _ _ _ _ hP hD hS dX4_takes_100 hb97
      have h := br_0 h z31_3
      by_cases z31_4 : rdue = (4 : Int32)
      · have h := br_1 h z31_4
        refine lv_tableIn (tgt := 101) (off := 70) hx hb dX4_takes_31 (by rw [z31_4]; decide) (by rw [z31_4]; decide) (by rw [z31_4]; decide) (by decide) ?_
        refine lv_aload_n hx hb dX4_takes_101 rfl (lv_at hl 0 rfl) ?_
        refine lv_iload_n hx hb dX4_takes_102 rfl (lv_at hl 1 rfl) ?_
        refine lv_bipush (v := (48 : Int32)) hx hb dX4_takes_103 (by decide) ?_
        refine lv_isub hx hb dX4_takes_105 ?_
        refine lv_aload_n hx hb dX4_takes_106 rfl (lv_at hl 2 rfl) ?_
        obtain ⟨r107, w107_rdue, w107_size, w107_gri, hc, h⟩ := bd4_some h
        have hFc := my_freeS hD hS hA
        refine my_rwz (va_runV (As := [.int (x1 - (48 : Int32)), .ref a0]) (rest := []) hFix (kX4_takesGrief l D T F b0 a0 a1 a2 a3 a4 a5 rdue rtun rsee rbeg size clause eff kin gri sig see (x1 - (48 : Int32)) r107 w107_rdue w107_size w107_gri hc) (cwV 2 hts gX4_takes_X4_takesGrief rfl rfl rfl ⟨rfl, hd_X4_takesGrief⟩ ⟨Nat.le_of_ble_eq_true rfl, Nat.le_of_ble_eq_true rfl⟩) (preV_rw hP hKK hD (va_recv hK hP (ci := 2) (q0 := 0) rfl wRP_0)) rfl rfl hl.1 rfl (lv_room (Nat.le_of_ble_eq_true rfl)) dX4_takes_107 ⟨Nat.zero_le _, Nat.zero_le _⟩) hS hFc (fun hb107 H1 locs hP1 hD1 hz1 hk1 hS => ?_)
        have hP : va_P D vwCl (wRP T b0 a0 a1 a2 a3 a4 a5 w107_rdue rtun rsee rbeg w107_size clause eff kin w107_gri sig see) H1 := hP1
        have hD : va_D A (wRP T b0 a0 a1 a2 a3 a4 a5 w107_rdue rtun rsee rbeg w107_size clause eff kin w107_gri sig see) := hD1.weaken (fun _ q _ h => hFc q.1 h)
        generalize H1 = H at hP hS ⊢
        cases h
        exact hret _ _ _ _ hP hD hS dX4_takes_110 hb107
      have h := br_0 h z31_4
      by_cases z31_5 : rdue = (5 : Int32)
      · have h := br_1 h z31_5
        refine lv_tableIn (tgt := 111) (off := 80) hx hb dX4_takes_31 (by rw [z31_5]; decide) (by rw [z31_5]; decide) (by rw [z31_5]; decide) (by decide) ?_
        refine lv_aload_n hx hb dX4_takes_111 rfl (lv_at hl 0 rfl) ?_
        refine lv_iload_n hx hb dX4_takes_112 rfl (lv_at hl 1 rfl) ?_
        refine lv_bipush (v := (48 : Int32)) hx hb dX4_takes_113 (by decide) ?_
        refine lv_isub hx hb dX4_takes_115 ?_
        refine lv_aload_n hx hb dX4_takes_116 rfl (lv_at hl 2 rfl) ?_
        obtain ⟨r117, w117_rdue, w117_rsee, hc, h⟩ := bd3_some h
        have hFc := my_freeS hD hS hA
        refine my_rwz (va_runV (As := [.int (x1 - (48 : Int32)), .ref a0]) (rest := []) hFix (kX4_takesSeer l D T F b0 a0 a1 a2 a3 a4 a5 rdue rtun rsee rbeg size clause eff kin gri sig see (x1 - (48 : Int32)) r117 w117_rdue w117_rsee hc) (cwV 2 hts gX4_takes_X4_takesSeer rfl rfl rfl ⟨rfl, hd_X4_takesSeer⟩ ⟨Nat.le_of_ble_eq_true rfl, Nat.le_of_ble_eq_true rfl⟩) (preV_rw hP hKK hD (va_recv hK hP (ci := 2) (q0 := 0) rfl wRP_0)) rfl rfl hl.1 rfl (lv_room (Nat.le_of_ble_eq_true rfl)) dX4_takes_117 ⟨Nat.zero_le _, Nat.zero_le _⟩) hS hFc (fun hb117 H1 locs hP1 hD1 hz1 hk1 hS => ?_)
        have hP : va_P D vwCl (wRP T b0 a0 a1 a2 a3 a4 a5 w117_rdue rtun w117_rsee rbeg size clause eff kin gri sig see) H1 := hP1
        have hD : va_D A (wRP T b0 a0 a1 a2 a3 a4 a5 w117_rdue rtun w117_rsee rbeg size clause eff kin gri sig see) := hD1.weaken (fun _ q _ h => hFc q.1 h)
        generalize H1 = H at hP hS ⊢
        cases h
        exact hret _ _ _ _ hP hD hS dX4_takes_120 hb117
      have h := br_0 h z31_5
      have e31_0 : rdue.toInt ≠ 0 := fun e => z31_0 (Int32.toInt_inj.mp e)
      have e31_1 : rdue.toInt ≠ 1 := fun e => z31_1 (Int32.toInt_inj.mp e)
      have e31_2 : rdue.toInt ≠ 2 := fun e => z31_2 (Int32.toInt_inj.mp e)
      have e31_3 : rdue.toInt ≠ 3 := fun e => z31_3 (Int32.toInt_inj.mp e)
      have e31_4 : rdue.toInt ≠ 4 := fun e => z31_4 (Int32.toInt_inj.mp e)
      have e31_5 : rdue.toInt ≠ 5 := fun e => z31_5 (Int32.toInt_inj.mp e)
      refine lv_tableOut (tgt := 121) hx hb dX4_takes_31 (by omega) (by decide) ?_
      refine lv_aload_n hx hb dX4_takes_121 rfl (lv_at hl 0 rfl) ?_
      refine lv_iload_n hx hb dX4_takes_122 rfl (lv_at hl 1 rfl) ?_
      refine lv_bipush (v := (48 : Int32)) hx hb dX4_takes_123 (by decide) ?_
      refine lv_isub hx hb dX4_takes_125 ?_
      refine lv_aload_n hx hb dX4_takes_126 rfl (lv_at hl 2 rfl) ?_
      obtain ⟨r127, w127_rdue, w127_sig, w127_see, hc, h⟩ := bd4_some h
      have hFc := my_freeS hD hS hA
      refine my_rwz (va_runV (As := [.int (x1 - (48 : Int32)), .ref a0]) (rest := []) hFix (kX4_takesSeen l D T F b0 a0 a1 a2 a3 a4 a5 rdue rtun rsee rbeg size clause eff kin gri sig see (x1 - (48 : Int32)) r127 w127_rdue w127_sig w127_see hc) (cwV 2 hts gX4_takes_X4_takesSeen rfl rfl rfl ⟨rfl, hd_X4_takesSeen⟩ ⟨Nat.le_of_ble_eq_true rfl, Nat.le_of_ble_eq_true rfl⟩) (preV_rw hP hKK hD (va_recv hK hP (ci := 2) (q0 := 0) rfl wRP_0)) rfl rfl hl.1 rfl (lv_room (Nat.le_of_ble_eq_true rfl)) dX4_takes_127 ⟨Nat.zero_le _, Nat.zero_le _⟩) hS hFc (fun hb127 H1 locs hP1 hD1 hz1 hk1 hS => ?_)
      have hP : va_P D vwCl (wRP T b0 a0 a1 a2 a3 a4 a5 w127_rdue rtun rsee rbeg size clause eff kin gri w127_sig w127_see) H1 := hP1
      have hD : va_D A (wRP T b0 a0 a1 a2 a3 a4 a5 w127_rdue rtun rsee rbeg size clause eff kin gri w127_sig w127_see) := hD1.weaken (fun _ q _ h => hFc q.1 h)
      generalize H1 = H at hP hS ⊢
      cases h
      exact hret _ _ _ _ hP hD hS dX4_takes_130 hb127
    · have h := br_1 h c3
      refine lv_aload_n hx hb dX4_takes_6 rfl (lv_at hl 0 rfl) ?_
      refine va_get (D := D) (ci := 2) (C := RX4) (T := TX4) (N := 4) hx hb hts iX4 hown hK hP 0 wRP_0 rfl 0 (by decide) q1 (fun _ h9 => h9) rfl dX4_takes_7 ?_
      refine lv_if_eq (tgt := 21) hx hb dX4_takes_10 (by decide) (fun c10 => ?_) (fun c10 => ?_)
      · have h := br_1 h c10
        refine lv_iconst (v := (1 : Int32)) hx hb dX4_takes_21 (by decide) ?_
        refine lv_goto (tgt := 26) hx hb dX4_takes_22 (by decide) ?_
        cases h
        exact hret _ _ _ _ hP hD hS dX4_takes_26 (Or.inr rfl)
      · have h := br_0 h c10
        refine lv_aload_n hx hb dX4_takes_13 rfl (lv_at hl 0 rfl) ?_
        refine va_get (D := D) (ci := 2) (C := RX4) (T := TX4) (N := 4) hx hb hts iX4 hown hK hP 0 wRP_0 rfl 0 (by decide) q1 (fun _ h9 => h9) rfl dX4_takes_14 ?_
        refine lv_iconst (v := (3 : Int32)) hx hb dX4_takes_17 (by decide) ?_
        refine lv_icmp_ne (tgt := 25) hx hb dX4_takes_18 (by decide) (fun c18 => ?_) (fun c18 => ?_)
        · have h := br_0 h c18
          refine lv_iconst (v := (0 : Int32)) hx hb dX4_takes_25 (by decide) ?_
          cases h
          exact hret _ _ _ _ hP hD hS dX4_takes_26 (Or.inl rfl)
        · have h := br_1 h c18
          refine lv_iconst (v := (1 : Int32)) hx hb dX4_takes_21 (by decide) ?_
          refine lv_goto (tgt := 26) hx hb dX4_takes_22 (by decide) ?_
          cases h
          exact hret _ _ _ _ hP hD hS dX4_takes_26 (Or.inr rfl)
  exact key _ (fun H locs pc ls hP hD hS hd hb1 => W.zret hx hb hr (b01_n hb1) (fun t ht hW => ⟨⟨_, (), rfl, ⟨rfl, hb1⟩, by show _ ∧ _; rw [ht]; exact ⟨hP, hD⟩⟩, hS.F ht⟩) hS.2.2 hd)
set_option maxHeartbeats 4000000 in
set_option maxRecDepth 100000 in
theorem kX4_faultOf (l : Launch) (D : va_G) (T : Nat → ClassId) (F : Nat) (b0 : Nat) (b1 : Nat) (a0 : Nat) (a1 : Nat) (a2 : Nat) (a3 : Nat) (a4 : Nat) (a5 : Nat) (rdue : Int32) (rtun : Int32) (rsee : Int32) (rbeg : Int32) (txt : Nat → Int32) (size : Int32) (clause : Int32) (eff : Nat → Int32) (kin : Nat → Int32) (gri : Nat → Int32) (sig : Nat → Int32) (see : Nat → Int32) (x2 : Int32) (r : Int32) (zrdue : Int32) (zrtun : Int32) (zrsee : Int32) (zrbeg : Int32) (zsize : Int32) (zclause : Int32) (zeff : Nat → Int32) (zkin : Nat → Int32) (zgri : Nat → Int32) (zsig : Nat → Int32) (zsee : Nat → Int32) (h : fX4_faultOf F rdue rtun rsee rbeg txt size clause eff kin gri sig see x2 = some (r, zrdue, zrtun, zrsee, zrbeg, zsize, zclause, zeff, zkin, zgri, zsig, zsee)) : ∀ sz : Nat, Met l yX4_faultOf wsX4_faultOf ({ frames := 3, cells := 0, slots := 0, locals := 65 } : Room) (va_Pc [.ref b0, .ref b1, .int x2, .ref a0] (fun U => U.heap.size = sz ∧ va_P D vwCl (wRTP T b0 b1 a0 a1 a2 a3 a4 a5 rdue rtun rsee rbeg txt size clause eff kin gri sig see) U.heap ∧ KK D T U ∧ va_D (fun _ => True) (wRTP T b0 b1 a0 a1 a2 a3 a4 a5 rdue rtun rsee rbeg txt size clause eff kin gri sig see))) (va_Qi (fun r' (_ : Unit) => r' = r) (fun _ t => va_P D vwCl (wRTP T b0 b1 a0 a1 a2 a3 a4 a5 zrdue zrtun zrsee zrbeg txt zsize zclause zeff zkin zgri zsig zsee) t.heap ∧ va_D (va_A (wRTP T b0 b1 a0 a1 a2 a3 a4 a5 rdue rtun rsee rbeg txt size clause eff kin gri sig see) sz) (wRTP T b0 b1 a0 a1 a2 a3 a4 a5 zrdue zrtun zrsee zrbeg txt zsize zclause zeff zkin zgri zsig zsee)) (va_A (wRTP T b0 b1 a0 a1 a2 a3 a4 a5 rdue rtun rsee rbeg txt size clause eff kin gri sig see) sz)) 0 0 (va_A (wRTP T b0 b1 a0 a1 a2 a3 a4 a5 rdue rtun rsee rbeg txt size clause eff kin gri sig see) sz) := by
  intro sz
  refine Met.ofW (cc := cX4_faultOf) (maxL := 5) (ret := some .int) (by decide) rfl ?_
  intro p e s m args below meth c s₁ B hml hv
  obtain ⟨ha, hsz, hP, hKK, hD0⟩ := hv
  have hx := B.exec
  have hb := B.bytes
  have hr := B.returns
  have hts := atoms_spec (ws := wsX4_faultOf) B.pre
  have hown : s.vm.findClass RX4 = some m.cls := findClass_of_methodNamed B.named
  have hlocks := B.notSynchronized
  have hK := hKK.1
  have hFix : CallFix p m c cX4_faultOf 5 s args wsX4_faultOf RX4 := ⟨hx, hb, hml, hown, hts⟩
  have q1 := hts _ (List.mem_of_getElem? (i := 1) (show wsX4_faultOf[1]? = some (Cond.fieldLink RX4 11 "PartyWill$Reader" "due" "I") from rfl))
  have q2 := hts _ (List.mem_of_getElem? (i := 2) (show wsX4_faultOf[2]? = some (Cond.fieldLink RX4 15 "PartyWill$Reader" "tune" "I") from rfl))
  have q3 := hts _ (List.mem_of_getElem? (i := 3) (show wsX4_faultOf[3]? = some (Cond.fieldLink RX4 21 "PartyWill$Reader" "sightsBegun" "Z") from rfl))
  have q4 := hts _ (List.mem_of_getElem? (i := 4) (show wsX4_faultOf[4]? = some (Cond.instanceMethod yX2_clear) from rfl))
  have q5 := hts _ (List.mem_of_getElem? (i := 5) (show wsX4_faultOf[5]? = some (Cond.initialized RX2) from rfl))
  have q6 := hts _ (List.mem_of_getElem? (i := 6) (show wsX4_faultOf[6]? = some (Cond.selects RX2 yX2_clear yX2_clear) from rfl))
  have iX2 : ∀ w ∈ u_ws RX2 TX2 7, w ∈ wsX4_faultOf := fun w h => List.mem_cons_of_mem _ (List.mem_append_right _ (h))
  have iX4 : ∀ w ∈ u_ws RX4 TX4 4, w ∈ wsX4_faultOf := fun w h => List.mem_cons_of_mem _ (List.mem_append_left _ (List.mem_append_right _ (h)))
  subst hsz
  have hD := hD0.self (sz := s.heap.size)
  generalize hAe : va_A (wRTP T b0 b1 a0 a1 a2 a3 a4 a5 rdue rtun rsee rbeg txt size clause eff kin gri sig see) s.heap.size = A at hD ⊢
  have hA : ∀ q : Nat, s.heap.size ≤ q → A q := fun q h => by rw [← hAe]; exact Or.inr h
  have hS : va_S A s.heap s.heap [] := va_S.rf
  have hP : va_P D vwCl (wRTP T b0 b1 a0 a1 a2 a3 a4 a5 rdue rtun rsee rbeg txt size clause eff kin gri sig see) s.heap := hP
  obtain ⟨ls, hl, e0⟩ := my_entry (m := m) (n := 5) ha (Nat.le_of_ble_eq_true rfl)
  rw [e0]
  have hl : lv_has ls 5 [(0, .ref b0), (1, .ref b1), (2, .int x2), (3, .ref a0)] := hl
  have key : ∀ Q : State → Prop, (∀ (H : Heap) (locs : List Loc) (pc : Nat) (ls : Array Slot), va_P D vwCl (wRTP T b0 b1 a0 a1 a2 a3 a4 a5 zrdue zrtun zrsee zrbeg txt zsize zclause zeff zkin zgri zsig zsee) H → va_D A (wRTP T b0 b1 a0 a1 a2 a3 a4 a5 zrdue zrtun zrsee zrbeg txt zsize zclause zeff zkin zgri zsig zsee) → va_S A s.heap H locs → decode cX4_faultOf pc = .ok (.ireturn, 1) → W p l e ({ frames := 3, cells := 0, slots := 0, locals := 65 } : Room) s m args below meth c H locs 0 0 Q (F0 m pc ls [.int r])) → W p l e ({ frames := 3, cells := 0, slots := 0, locals := 65 } : Room) s m args below meth c s.heap [] 0 0 Q (F0 m 0 ls []) := by
    intro Q hret
    skip
    have l22 : ∀ x2 : Int32, ∀ nu : Nat, ∀ x4 : Int32, ∀ rdue : Int32, ∀ rtun : Int32, ∀ rsee : Int32, ∀ rbeg : Int32, ∀ size : Int32, ∀ clause : Int32, ∀ eff : Nat → Int32, ∀ kin : Nat → Int32, ∀ gri : Nat → Int32, ∀ sig : Nat → Int32, ∀ see : Nat → Int32, fX4_faultOf_l22 F txt x2 nu x4 rdue rtun rsee rbeg size clause eff kin gri sig see = some (r, zrdue, zrtun, zrsee, zrbeg, zsize, zclause, zeff, zkin, zgri, zsig, zsee) → ∀ (H : Heap) (locs : List Loc), va_P D vwCl (wRTP T b0 b1 a0 a1 a2 a3 a4 a5 rdue rtun rsee rbeg txt size clause eff kin gri sig see) H → va_D A (wRTP T b0 b1 a0 a1 a2 a3 a4 a5 rdue rtun rsee rbeg txt size clause eff kin gri sig see) → va_S A s.heap H locs → ∀ (ls : Array Slot), lv_has ls 5 [(0, .ref b0), (1, .ref b1), (2, .int x2), (3, .ref a0), (4, .int x4)] → W p l e ({ frames := 3, cells := 0, slots := 0, locals := 65 } : Room) s m args below meth c H locs 0 0 Q (F0 m 22 ls []) := by
      intro x2
      intro nu
      induction nu with
      | zero => intro x4 rdue rtun rsee rbeg size clause eff kin gri sig see h; exact none_some h
      | succ nu22 ih22 =>
        intro x4 rdue rtun rsee rbeg size clause eff kin gri sig see h H locs hP hD hS ls hl
        have h : fX4_faultOf_l22_b F txt x2 (fX4_faultOf_l22 F txt x2 nu22) x4 rdue rtun rsee rbeg size clause eff kin gri sig see = some (r, zrdue, zrtun, zrsee, zrbeg, zsize, zclause, zeff, zkin, zgri, zsig, zsee) := h
        unfold fX4_faultOf_l22_b at h
        refine lv_iload hx hb dX4_faultOf_22 (lv_at hl 4 rfl) ?_
        refine lv_iload_n hx hb dX4_faultOf_24 rfl (lv_at hl 2 rfl) ?_
        refine lv_icmp_ge (tgt := 49) hx hb dX4_faultOf_25 (by decide) (fun c25 => ?_) (fun c25 => ?_)
        · have h := br_1 h c25
          refine lv_aload_n hx hb dX4_faultOf_49 rfl (lv_at hl 0 rfl) ?_
          refine va_get (D := D) (ci := 2) (C := RX4) (T := TX4) (N := 4) hx hb hts iX4 hown hK hP 0 wRTP_0 rfl 0 (by decide) q1 (fun _ h9 => h9) rfl dX4_faultOf_50 ?_
          refine lv_iconst (v := (3 : Int32)) hx hb dX4_faultOf_53 (by decide) ?_
          refine lv_icmp_ne (tgt := 69) hx hb dX4_faultOf_54 (by decide) (fun c54 => ?_) (fun c54 => ?_)
          · have h := br_0 h c54
            refine lv_iload_n hx hb dX4_faultOf_69 rfl (lv_at hl 2 rfl) ?_
            cases h
            exact hret _ _ _ _ hP hD hS dX4_faultOf_70
          · have h := br_1 h c54
            refine lv_aload_n hx hb dX4_faultOf_57 rfl (lv_at hl 3 rfl) ?_
            refine va_getN (host := "PartyWill") (D := D) (ci := 1) (C := RX2) (T := TX2) (N := 7) hx hb hts iX2 hown hK hP 2 wRTP_2 rfl 0 (by decide) (va_Nw.use rfl (nw_X4_34 hKK.2)) (fun _ h9 => h9) rfl dX4_faultOf_58 ?_
            refine lv_if_le (tgt := 69) hx hb dX4_faultOf_61 (by decide) (fun c61 => ?_) (fun c61 => ?_)
            · have h := br_1 h c61
              refine lv_iload_n hx hb dX4_faultOf_69 rfl (lv_at hl 2 rfl) ?_
              cases h
              exact hret _ _ _ _ hP hD hS dX4_faultOf_70
            · have h := br_0 h c61
              refine lv_bipush (v := (-9 : Int32)) hx hb dX4_faultOf_64 (by decide) ?_
              refine lv_goto (tgt := 70) hx hb dX4_faultOf_66 (by decide) ?_
              cases h
              exact hret _ _ _ _ hP hD hS dX4_faultOf_70
        · have h := br_0 h c25
          refine lv_aload_n hx hb dX4_faultOf_28 rfl (lv_at hl 0 rfl) ?_
          refine lv_aload_n hx hb dX4_faultOf_29 rfl (lv_at hl 1 rfl) ?_
          refine lv_iload hx hb dX4_faultOf_30 (lv_at hl 4 rfl) ?_
          obtain ⟨hin1, h⟩ := ck_some h
          refine va_bald hx hb hK hP 1 1 wRTP_1 rfl hin1 dX4_faultOf_32 ?_
          refine lv_aload_n hx hb dX4_faultOf_33 rfl (lv_at hl 3 rfl) ?_
          obtain ⟨r34, w34_rdue, w34_rtun, w34_rsee, w34_rbeg, w34_size, w34_clause, w34_eff, w34_kin, w34_gri, w34_sig, w34_see, hc, h⟩ := bd12_some h
          have hPc : va_P D vwCl (wRP T b0 a0 a1 a2 a3 a4 a5 rdue rtun rsee rbeg size clause eff kin gri sig see) H := my_subP sb_wRTP_wRP_0to7 hP
          have hDc := hD.sub [0, 2, 3, 4, 5, 6, 7] (by decide) sb_wRTP_wRP_0to7
          have hFc := va_free hD hS hA [0, 2, 3, 4, 5, 6, 7] sb_wRTP_wRP_0to7
          refine my_rwz (va_runV (As := [.int (txt x4.toNatClampNeg), .ref a0]) (rest := []) hFix (kX4_takes l D T F b0 a0 a1 a2 a3 a4 a5 rdue rtun rsee rbeg size clause eff kin gri sig see (txt x4.toNatClampNeg) r34 w34_rdue w34_rtun w34_rsee w34_rbeg w34_size w34_clause w34_eff w34_kin w34_gri w34_sig w34_see hc) (cwV 2 hts gX4_faultOf_X4_takes rfl rfl rfl ⟨rfl, hd_X4_takes⟩ ⟨Nat.le_of_ble_eq_true rfl, Nat.le_of_ble_eq_true rfl⟩) (preV_rw hPc hKK hDc (va_recv hK hP (ci := 2) (q0 := 0) rfl wRTP_0)) rfl rfl hl.1 rfl (lv_room (Nat.le_of_ble_eq_true rfl)) dX4_faultOf_34 ⟨Nat.zero_le _, Nat.zero_le _⟩) hS hFc (fun hb34 H1 locs hP1 hD1 hz1 hk1 hS => ?_)
          obtain ⟨hP, hD⟩ := my_joinS hP hD (by decide) sb_wRTP_wRP_0to7 hk1 hFc hP1 hD1
          have hP : va_P D vwCl (wRTP T b0 b1 a0 a1 a2 a3 a4 a5 w34_rdue w34_rtun w34_rsee w34_rbeg txt w34_size w34_clause w34_eff w34_kin w34_gri w34_sig w34_see) H1 := st_wRTP_wRP_0to7_takes ▸ hP
          have hD : va_D A (wRTP T b0 b1 a0 a1 a2 a3 a4 a5 w34_rdue w34_rtun w34_rsee w34_rbeg txt w34_size w34_clause w34_eff w34_kin w34_gri w34_sig w34_see) := st_wRTP_wRP_0to7_takes ▸ hD
          generalize H1 = H at hP hS ⊢
          refine lv_if_ne (tgt := 43) hx hb dX4_faultOf_37 (by decide) (fun c37 => ?_) (fun c37 => ?_)
          · have h := br_0 h c37
            refine lv_iinc (v := (x4 + (1 : Int32))) (lv' := [(4, .int (x4 + (1 : Int32))), (0, .ref b0), (1, .ref b1), (2, .int x2), (3, .ref a0)]) hx hb dX4_faultOf_43 hl (k := 4) rfl rfl (by decide) rfl (fun ls hl => ?_)
            refine lv_goto (tgt := 22) hx hb dX4_faultOf_46 (by decide) ?_
            exact ih22 (x4 + (1 : Int32)) w34_rdue w34_rtun w34_rsee w34_rbeg w34_size w34_clause w34_eff w34_kin w34_gri w34_sig w34_see h _ _ hP hD hS _ (lv_sub hl [1, 2, 3, 4, 0] rfl)
          · have h := br_1 h c37
            refine lv_iload hx hb dX4_faultOf_40 (lv_at hl 4 rfl) ?_
            cases h
            exact hret _ _ _ _ hP hD hS dX4_faultOf_42
    unfold fX4_faultOf at h
    refine lv_aload_n hx hb dX4_faultOf_0 rfl (lv_at hl 0 rfl) ?_
    refine lv_iconst (v := (0 : Int32)) hx hb dX4_faultOf_1 (by decide) ?_
    refine va_put (D := D) (ci := 2) (v := .int (0 : Int32)) (ty := .int) (C := RX4) (T := TX4) (N := 4) hx hb hts iX4 tyX4 tyX4_ok nmX4 hown hK hP hD hS 0 wRTP_0 rfl 0 (by decide) q1 (fun _ h9 => h9) rfl (by decide +kernel) rfl rfl (Nat.le_of_ble_eq_true rfl) dX4_faultOf_2 (fun H locs hP hD hS => ?_)
    have hP : va_P D vwCl (wRTP T b0 b1 a0 a1 a2 a3 a4 a5 (0 : Int32) rtun rsee rbeg txt size clause eff kin gri sig see) H := hP
    have hD : va_D A (wRTP T b0 b1 a0 a1 a2 a3 a4 a5 (0 : Int32) rtun rsee rbeg txt size clause eff kin gri sig see) := hD
    refine lv_aload_n hx hb dX4_faultOf_5 rfl (lv_at hl 0 rfl) ?_
    refine lv_iconst (v := (0 : Int32)) hx hb dX4_faultOf_6 (by decide) ?_
    refine va_put (D := D) (ci := 2) (v := .int (0 : Int32)) (ty := .int) (C := RX4) (T := TX4) (N := 4) hx hb hts iX4 tyX4 tyX4_ok nmX4 hown hK hP hD hS 0 wRTP_0 rfl 1 (by decide) q2 (fun _ h9 => h9) rfl (by decide +kernel) rfl rfl (Nat.le_of_ble_eq_true rfl) dX4_faultOf_7 (fun H locs hP hD hS => ?_)
    have hP : va_P D vwCl (wRTP T b0 b1 a0 a1 a2 a3 a4 a5 (0 : Int32) (0 : Int32) rsee rbeg txt size clause eff kin gri sig see) H := hP
    have hD : va_D A (wRTP T b0 b1 a0 a1 a2 a3 a4 a5 (0 : Int32) (0 : Int32) rsee rbeg txt size clause eff kin gri sig see) := hD
    refine lv_aload_n hx hb dX4_faultOf_10 rfl (lv_at hl 0 rfl) ?_
    refine lv_iconst (v := (0 : Int32)) hx hb dX4_faultOf_11 (by decide) ?_
    refine va_put (D := D) (ci := 2) (v := .int (0 : Int32)) (ty := .boolean) (C := RX4) (T := TX4) (N := 4) hx hb hts iX4 tyX4 tyX4_ok nmX4 hown hK hP hD hS 0 wRTP_0 rfl 3 (by decide) q3 (fun _ h9 => h9) rfl (by decide +kernel) rfl rfl (Nat.le_of_ble_eq_true rfl) dX4_faultOf_12 (fun H locs hP hD hS => ?_)
    have hP : va_P D vwCl (wRTP T b0 b1 a0 a1 a2 a3 a4 a5 (0 : Int32) (0 : Int32) rsee (0 : Int32) txt size clause eff kin gri sig see) H := hP
    have hD : va_D A (wRTP T b0 b1 a0 a1 a2 a3 a4 a5 (0 : Int32) (0 : Int32) rsee (0 : Int32) txt size clause eff kin gri sig see) := hD
    refine lv_aload_n hx hb dX4_faultOf_15 rfl (lv_at hl 3 rfl) ?_
    obtain ⟨w16_size, w16_clause, w16_sig, w16_see, hc, h⟩ := bd4_some h
    have hPc : va_P D vwCl (wPa T a0 a1 a2 a3 a4 a5 size clause eff kin gri sig see) H := my_subP sb_wRTP_wPa_2to7 hP
    have hDc := hD.sub [2, 3, 4, 5, 6, 7] (by decide) sb_wRTP_wPa_2to7
    have hFc := va_free hD hS hA [2, 3, 4, 5, 6, 7] sb_wRTP_wPa_2to7
    refine my_rwv (va_runVN (host := "PartyWill") (As := []) (rest := []) hFix (kX2_clear l D T F a0 a1 a2 a3 a4 a5 size clause eff kin gri sig see w16_size w16_clause w16_sig w16_see hc) ⟨va_cnB 0 hts gX4_faultOf_X2_clear_n25 rfl rfl rfl (nw_X4_25 hKK.2) q5 hd_X2_clear ⟨Nat.le_of_ble_eq_true rfl, Nat.le_of_ble_eq_true rfl⟩, q4, q6⟩ (preV_rw hPc hKK hDc (va_recv hK hP (ci := 1) (q0 := 2) rfl wRTP_2)) rfl rfl hl.1 rfl (lv_room (Nat.le_of_ble_eq_true rfl)) dX4_faultOf_16 ⟨Nat.zero_le _, Nat.zero_le _⟩) hS hFc (fun H1 locs hP1 hD1 hz1 hk1 hS => ?_)
    obtain ⟨hP, hD⟩ := my_joinS hP hD (by decide) sb_wRTP_wPa_2to7 hk1 hFc hP1 hD1
    have hP : va_P D vwCl (wRTP T b0 b1 a0 a1 a2 a3 a4 a5 (0 : Int32) (0 : Int32) rsee (0 : Int32) txt w16_size w16_clause eff kin gri w16_sig w16_see) H1 := st_wRTP_wPa_2to7_clear ▸ hP
    have hD : va_D A (wRTP T b0 b1 a0 a1 a2 a3 a4 a5 (0 : Int32) (0 : Int32) rsee (0 : Int32) txt w16_size w16_clause eff kin gri w16_sig w16_see) := st_wRTP_wPa_2to7_clear ▸ hD
    generalize H1 = H at hP hS ⊢
    refine lv_iconst (v := (0 : Int32)) hx hb dX4_faultOf_19 (by decide) ?_
    refine lv_istore (lv' := [(4, .int (0 : Int32)), (0, .ref b0), (1, .ref b1), (2, .int x2), (3, .ref a0)]) hx hb dX4_faultOf_20 hl (by decide) rfl (fun ls hl => ?_)
    exact l22 x2 F (0 : Int32) (0 : Int32) (0 : Int32) rsee (0 : Int32) w16_size w16_clause eff kin gri w16_sig w16_see h _ _ hP hD hS _ (lv_sub hl [1, 2, 3, 4, 0] rfl)
  exact key _ (fun H locs pc ls hP hD hS hd => W.iret hx hb hr (fun t ht hW => ⟨⟨_, (), rfl, rfl, by show _ ∧ _; rw [ht]; exact ⟨hP, hD⟩⟩, hS.F ht⟩) hS.2.2 hd)
