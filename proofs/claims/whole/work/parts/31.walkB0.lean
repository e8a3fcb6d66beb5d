set_option maxHeartbeats 4000000 in
set_option maxRecDepth 100000 in
theorem kX0_begin (l : Launch) (D : va_G) (T : Nat → ClassId) (F : Nat) (a0 : Nat) (a1 : Nat) (cdee : Int32) (cnow : Int64) (cahe : Nat → Int64) (x1 : Int64) (zcdee : Int32) (zcnow : Int64) (h : fX0_begin F cdee cnow x1 = some (zcdee, zcnow)) : ∀ sz : Nat, Met l yX0_begin wsX0_begin ({ frames := 0, cells := 0, slots := 0, locals := 0 } : Room) (va_Pc [.ref a0, .long x1] (fun U => U.heap.size = sz ∧ va_P D vwCl (wCo T a0 a1 cdee cnow cahe) U.heap ∧ KK D T U ∧ va_D (fun _ => True) (wCo T a0 a1 cdee cnow cahe))) (va_Qv (fun _ : Unit => True) (fun _ t => va_P D vwCl (wCo T a0 a1 zcdee zcnow cahe) t.heap ∧ va_D (va_A (wCo T a0 a1 cdee cnow cahe) sz) (wCo T a0 a1 zcdee zcnow cahe)) (va_A (wCo T a0 a1 cdee cnow cahe) sz)) 0 0 (va_A (wCo T a0 a1 cdee cnow cahe) sz) := by
  intro sz
  refine Met.ofW (cc := cX0_begin) (maxL := 3) (ret := none) (by decide) rfl ?_
  intro p e s m args below meth c s₁ B hml hv
  obtain ⟨ha, hsz, hP, hKK, hD0⟩ := hv
  have hx := B.exec
  have hb := B.bytes
  have hr := B.returns
  have hts := atoms_spec (ws := wsX0_begin) B.pre
  have hown : s.vm.findClass RX0 = some m.cls := findClass_of_methodNamed B.named
  have hlocks := B.notSynchronized
  have hK := hKK.1
  have hFix : CallFix p m c cX0_begin 3 s args wsX0_begin RX0 := ⟨hx, hb, hml, hown, hts⟩
  have q1 := hts _ (List.mem_of_getElem? (i := 1) (show wsX0_begin[1]? = some (Cond.fieldLink RX0 9 "PartyWill$Course" "deeds" "I") from rfl))
  have q2 := hts _ (List.mem_of_getElem? (i := 2) (show wsX0_begin[2]? = some (Cond.fieldLink RX0 15 "PartyWill$Course" "now" "J") from rfl))
  have iX0 : ∀ w ∈ u_ws RX0 TX0 3, w ∈ wsX0_begin := fun w h => List.mem_cons_of_mem _ (List.mem_append_right _ (h))
  subst hsz
  have hD := hD0.self (sz := s.heap.size)
  generalize hAe : va_A (wCo T a0 a1 cdee cnow cahe) s.heap.size = A at hD ⊢
  have hA : ∀ q : Nat, s.heap.size ≤ q → A q := fun q h => by rw [← hAe]; exact Or.inr h
  have hS : va_S A s.heap s.heap [] := va_S.rf
  have hP : va_P D vwCl (wCo T a0 a1 cdee cnow cahe) s.heap := hP
  obtain ⟨ls, hl, e0⟩ := my_entry (m := m) (n := 3) ha (Nat.le_of_ble_eq_true rfl)
  rw [e0]
  have hl : lv_has ls 3 [(0, .ref a0), (1, .long x1)] := hl
  have key : ∀ Q : State → Prop, (∀ (H : Heap) (locs : List Loc) (pc : Nat) (ls : Array Slot), va_P D vwCl (wCo T a0 a1 zcdee zcnow cahe) H → va_D A (wCo T a0 a1 zcdee zcnow cahe) → va_S A s.heap H locs → decode cX0_begin pc = .ok (.return_, 1) → W p l e ({ frames := 0, cells := 0, slots := 0, locals := 0 } : Room) s m args below meth c H locs 0 0 Q (F0 m pc ls [])) → W p l e ({ frames := 0, cells := 0, slots := 0, locals := 0 } : Room) s m args below meth c s.heap [] 0 0 Q (F0 m 0 ls []) := by
    intro Q hret
    skip
    unfold fX0_begin at h
    refine lv_aload_n hx hb dX0_begin_0 rfl (lv_at hl 0 rfl) ?_
    refine lv_iconst (v := (0 : Int32)) hx hb dX0_begin_1 (by decide) ?_
    refine va_put (D := D) (ci := 0) (v := .int (0 : Int32)) (ty := .int) (C := RX0) (T := TX0) (N := 3) hx hb hts iX0 tyX0 tyX0_ok nmX0 hown hK hP hD hS 0 wCo_0 rfl 0 (by decide) q1 (fun _ h9 => h9) rfl (by decide +kernel) rfl rfl (Nat.le_of_ble_eq_true rfl) dX0_begin_2 (fun H locs hP hD hS => ?_)
    have hP : va_P D vwCl (wCo T a0 a1 (0 : Int32) cnow cahe) H := hP
    have hD : va_D A (wCo T a0 a1 (0 : Int32) cnow cahe) := hD
    refine lv_aload_n hx hb dX0_begin_5 rfl (lv_at hl 0 rfl) ?_
    refine lv_lload_n hx hb dX0_begin_6 rfl (lv_at hl 1 rfl) ?_
    refine va_put (D := D) (ci := 0) (v := .long x1) (ty := .long) (C := RX0) (T := TX0) (N := 3) hx hb hts iX0 tyX0 tyX0_ok nmX0 hown hK hP hD hS 0 wCo_0 rfl 1 (by decide) q2 (fun _ h9 => h9) rfl (by decide +kernel) rfl rfl (Nat.le_of_ble_eq_true rfl) dX0_begin_7 (fun H locs hP hD hS => ?_)
    have hP : va_P D vwCl (wCo T a0 a1 (0 : Int32) x1 cahe) H := hP
    have hD : va_D A (wCo T a0 a1 (0 : Int32) x1 cahe) := hD
    cases h
    exact hret _ _ _ _ hP hD hS dX0_begin_10
  exact key _ (fun H locs pc ls hP hD hS hd => W.vret hx hb hr (fun t ht hW => ⟨⟨(), rfl, trivial, by show _ ∧ _; rw [ht]; exact ⟨hP, hD⟩⟩, hS.F ht⟩) hS.2.2 hd)
set_option maxHeartbeats 4000000 in
set_option maxRecDepth 100000 in
theorem kX0_goOn (l : Launch) (D : va_G) (T : Nat → ClassId) (F : Nat) (a0 : Nat) (a1 : Nat) (cdee : Int32) (cnow : Int64) (cahe : Nat → Int64) (x1 : Int64) (zcdee : Int32) (zcnow : Int64) (zcahe : Nat → Int64) (h : fX0_goOn F cdee cnow cahe x1 = some (zcdee, zcnow, zcahe)) : ∀ sz : Nat, Met l yX0_goOn wsX0_goOn ({ frames := 0, cells := 0, slots := 0, locals := 0 } : Room) (va_Pc [.ref a0, .long x1] (fun U => U.heap.size = sz ∧ va_P D vwCl (wCo T a0 a1 cdee cnow cahe) U.heap ∧ KK D T U ∧ va_D (fun _ => True) (wCo T a0 a1 cdee cnow cahe))) (va_Qv (fun _ : Unit => True) (fun _ t => va_P D vwCl (wCo T a0 a1 zcdee zcnow zcahe) t.heap ∧ va_D (va_A (wCo T a0 a1 cdee cnow cahe) sz) (wCo T a0 a1 zcdee zcnow zcahe)) (va_A (wCo T a0 a1 cdee cnow cahe) sz)) 0 0 (va_A (wCo T a0 a1 cdee cnow cahe) sz) := by
  intro sz
  refine Met.ofW (cc := cX0_goOn) (maxL := 3) (ret := none) (by decide) rfl ?_
  intro p e s m args below meth c s₁ B hml hv
  obtain ⟨ha, hsz, hP, hKK, hD0⟩ := hv
  have hx := B.exec
  have hb := B.bytes
  have hr := B.returns
  have hts := atoms_spec (ws := wsX0_goOn) B.pre
  have hown : s.vm.findClass RX0 = some m.cls := findClass_of_methodNamed B.named
  have hlocks := B.notSynchronized
  have hK := hKK.1
  have hFix : CallFix p m c cX0_goOn 3 s args wsX0_goOn RX0 := ⟨hx, hb, hml, hown, hts⟩
  have q1 := hts _ (List.mem_of_getElem? (i := 1) (show wsX0_goOn[1]? = some (Cond.fieldLink RX0 9 "PartyWill$Course" "deeds" "I") from rfl))
  have q2 := hts _ (List.mem_of_getElem? (i := 2) (show wsX0_goOn[2]? = some (Cond.fieldLink RX0 19 "PartyWill$Course" "ahead" "[J") from rfl))
  have q3 := hts _ (List.mem_of_getElem? (i := 3) (show wsX0_goOn[3]? = some (Cond.fieldLink RX0 15 "PartyWill$Course" "now" "J") from rfl))
  have iX0 : ∀ w ∈ u_ws RX0 TX0 3, w ∈ wsX0_goOn := fun w h => List.mem_cons_of_mem _ (List.mem_append_right _ (h))
  subst hsz
  have hD := hD0.self (sz := s.heap.size)
  generalize hAe : va_A (wCo T a0 a1 cdee cnow cahe) s.heap.size = A at hD ⊢
  have hA : ∀ q : Nat, s.heap.size ≤ q → A q := fun q h => by rw [← hAe]; exact Or.inr h
  have hS : va_S A s.heap s.heap [] := va_S.rf
  have hP : va_P D vwCl (wCo T a0 a1 cdee cnow cahe) s.heap := hP
  obtain ⟨ls, hl, e0⟩ := my_entry (m := m) (n := 3) ha (Nat.le_of_ble_eq_true rfl)
  rw [e0]
  have hl : lv_has ls 3 [(0, .ref a0), (1, .long x1)] := hl
  have key : ∀ Q : State → Prop, (∀ (H : Heap) (locs : List Loc) (pc : Nat) (ls : Array Slot), va_P D vwCl (wCo T a0 a1 zcdee zcnow zcahe) H → va_D A (wCo T a0 a1 zcdee zcnow zcahe) → va_S A s.heap H locs → decode cX0_goOn pc = .ok (.return_, 1) → W p l e ({ frames := 0, cells := 0, slots := 0, locals := 0 } : Room) s m args below meth c H locs 0 0 Q (F0 m pc ls [])) → W p l e ({ frames := 0, cells := 0, slots := 0, locals := 0 } : Room) s m args below meth c s.heap [] 0 0 Q (F0 m 0 ls []) := by
    intro Q hret
    skip
    unfold fX0_goOn at h
    refine lv_aload_n hx hb dX0_goOn_0 rfl (lv_at hl 0 rfl) ?_
    refine va_get (D := D) (ci := 0) (C := RX0) (T := TX0) (N := 3) hx hb hts iX0 hown hK hP 0 wCo_0 rfl 0 (by decide) q1 (fun _ h9 => h9) rfl dX0_goOn_1 ?_
    refine lv_if_lt (tgt := 44) hx hb dX0_goOn_4 (by decide) (fun c4 => ?_) (fun c4 => ?_)
    · have h := br_1 h c4
      cases h
      exact hret _ _ _ _ hP hD hS dX0_goOn_44
    · have h := br_0 h c4
      refine lv_aload_n hx hb dX0_goOn_7 rfl (lv_at hl 0 rfl) ?_
      refine va_get (D := D) (ci := 0) (C := RX0) (T := TX0) (N := 3) hx hb hts iX0 hown hK hP 0 wCo_0 rfl 0 (by decide) q1 (fun _ h9 => h9) rfl dX0_goOn_8 ?_
      refine lv_bipush (v := (40 : Int32)) hx hb dX0_goOn_11 (by decide) ?_
      refine lv_icmp_ge (tgt := 44) hx hb dX0_goOn_13 (by decide) (fun c13 => ?_) (fun c13 => ?_)
      · have h := br_1 h c13
        cases h
        exact hret _ _ _ _ hP hD hS dX0_goOn_44
      · have h := br_0 h c13
        refine lv_aload_n hx hb dX0_goOn_16 rfl (lv_at hl 0 rfl) ?_
        refine va_get (D := D) (ci := 0) (C := RX0) (T := TX0) (N := 3) hx hb hts iX0 hown hK hP 0 wCo_0 rfl 2 (by decide) q2 (fun _ h9 => h9) rfl dX0_goOn_17 ?_
        refine lv_aload_n hx hb dX0_goOn_20 rfl (lv_at hl 0 rfl) ?_
        refine va_get (D := D) (ci := 0) (C := RX0) (T := TX0) (N := 3) hx hb hts iX0 hown hK hP 0 wCo_0 rfl 0 (by decide) q1 (fun _ h9 => h9) rfl dX0_goOn_21 ?_
        refine lv_aload_n hx hb dX0_goOn_24 rfl (lv_at hl 0 rfl) ?_
        refine va_get (D := D) (ci := 0) (C := RX0) (T := TX0) (N := 3) hx hb hts iX0 hown hK hP 0 wCo_0 rfl 1 (by decide) q3 (fun _ h9 => h9) rfl dX0_goOn_25 ?_
        obtain ⟨hin1, h⟩ := ck_some h
        refine va_last hx hb hK hP hD hS 1 2 wCo_1 rfl hin1 dX0_goOn_28 (fun H locs hP hD hS => ?_)
        have hP : va_P D vwCl (wCo T a0 a1 cdee cnow (vp_updL cahe cdee.toNatClampNeg cnow)) H := hP
        have hD : va_D A (wCo T a0 a1 cdee cnow (vp_updL cahe cdee.toNatClampNeg cnow)) := hD
        refine lv_aload_n hx hb dX0_goOn_29 rfl (lv_at hl 0 rfl) ?_
        refine lv_dup hx hb dX0_goOn_30 rfl ?_
        refine va_get (D := D) (ci := 0) (C := RX0) (T := TX0) (N := 3) hx hb hts iX0 hown hK hP 0 wCo_0 rfl 0 (by decide) q1 (fun _ h9 => h9) rfl dX0_goOn_31 ?_
        refine lv_iconst (v := (1 : Int32)) hx hb dX0_goOn_34 (by decide) ?_
        refine lv_iadd hx hb dX0_goOn_35 ?_
        refine va_put (D := D) (ci := 0) (v := .int (cdee + (1 : Int32))) (ty := .int) (C := RX0) (T := TX0) (N := 3) hx hb hts iX0 tyX0 tyX0_ok nmX0 hown hK hP hD hS 0 wCo_0 rfl 0 (by decide) q1 (fun _ h9 => h9) rfl (by decide +kernel) rfl rfl (Nat.le_of_ble_eq_true rfl) dX0_goOn_36 (fun H locs hP hD hS => ?_)
        have hP : va_P D vwCl (wCo T a0 a1 (cdee + (1 : Int32)) cnow (vp_updL cahe cdee.toNatClampNeg cnow)) H := hP
        have hD : va_D A (wCo T a0 a1 (cdee + (1 : Int32)) cnow (vp_updL cahe cdee.toNatClampNeg cnow)) := hD
        refine lv_aload_n hx hb dX0_goOn_39 rfl (lv_at hl 0 rfl) ?_
        refine lv_lload_n hx hb dX0_goOn_40 rfl (lv_at hl 1 rfl) ?_
        refine va_put (D := D) (ci := 0) (v := .long x1) (ty := .long) (C := RX0) (T := TX0) (N := 3) hx hb hts iX0 tyX0 tyX0_ok nmX0 hown hK hP hD hS 0 wCo_0 rfl 1 (by decide) q3 (fun _ h9 => h9) rfl (by decide +kernel) rfl rfl (Nat.le_of_ble_eq_true rfl) dX0_goOn_41 (fun H locs hP hD hS => ?_)
        have hP : va_P D vwCl (wCo T a0 a1 (cdee + (1 : Int32)) x1 (vp_updL cahe cdee.toNatClampNeg cnow)) H := hP
        have hD : va_D A (wCo T a0 a1 (cdee + (1 : Int32)) x1 (vp_updL cahe cdee.toNatClampNeg cnow)) := hD
        cases h
        exact hret _ _ _ _ hP hD hS dX0_goOn_44
  exact key _ (fun H locs pc ls hP hD hS hd => W.vret hx hb hr (fun t ht hW => ⟨⟨(), rfl, trivial, by show _ ∧ _; rw [ht]; exact ⟨hP, hD⟩⟩, hS.F ht⟩) hS.2.2 hd)
set_option maxHeartbeats 4000000 in
set_option maxRecDepth 100000 in
theorem kX0_goBackTo (l : Launch) (D : va_G) (T : Nat → ClassId) (F : Nat) (a0 : Nat) (a1 : Nat) (cdee : Int32) (cnow : Int64) (cahe : Nat → Int64) (x1 : Int32) (zcdee : Int32) (zcnow : Int64) (h : fX0_goBackTo F cdee cnow cahe x1 = some (zcdee, zcnow)) : ∀ sz : Nat, Met l yX0_goBackTo wsX0_goBackTo ({ frames := 0, cells := 0, slots := 0, locals := 0 } : Room) (va_Pc [.ref a0, .int x1] (fun U => U.heap.size = sz ∧ va_P D vwCl (wCo T a0 a1 cdee cnow cahe) U.heap ∧ KK D T U ∧ va_D (fun _ => True) (wCo T a0 a1 cdee cnow cahe))) (va_Qv (fun _ : Unit => True) (fun _ t => va_P D vwCl (wCo T a0 a1 zcdee zcnow cahe) t.heap ∧ va_D (va_A (wCo T a0 a1 cdee cnow cahe) sz) (wCo T a0 a1 zcdee zcnow cahe)) (va_A (wCo T a0 a1 cdee cnow cahe) sz)) 0 0 (va_A (wCo T a0 a1 cdee cnow cahe) sz) := by
  intro sz
  refine Met.ofW (cc := cX0_goBackTo) (maxL := 2) (ret := none) (by decide) rfl ?_
  intro p e s m args below meth c s₁ B hml hv
  obtain ⟨ha, hsz, hP, hKK, hD0⟩ := hv
  have hx := B.exec
  have hb := B.bytes
  have hr := B.returns
  have hts := atoms_spec (ws := wsX0_goBackTo) B.pre
  have hown : s.vm.findClass RX0 = some m.cls := findClass_of_methodNamed B.named
  have hlocks := B.notSynchronized
  have hK := hKK.1
  have hFix : CallFix p m c cX0_goBackTo 2 s args wsX0_goBackTo RX0 := ⟨hx, hb, hml, hown, hts⟩
  have q1 := hts _ (List.mem_of_getElem? (i := 1) (show wsX0_goBackTo[1]? = some (Cond.fieldLink RX0 9 "PartyWill$Course" "deeds" "I") from rfl))
  have q2 := hts _ (List.mem_of_getElem? (i := 2) (show wsX0_goBackTo[2]? = some (Cond.fieldLink RX0 19 "PartyWill$Course" "ahead" "[J") from rfl))
  have q3 := hts _ (List.mem_of_getElem? (i := 3) (show wsX0_goBackTo[3]? = some (Cond.fieldLink RX0 15 "PartyWill$Course" "now" "J") from rfl))
  have iX0 : ∀ w ∈ u_ws RX0 TX0 3, w ∈ wsX0_goBackTo := fun w h => List.mem_cons_of_mem _ (List.mem_append_right _ (h))
  subst hsz
  have hD := hD0.self (sz := s.heap.size)
  generalize hAe : va_A (wCo T a0 a1 cdee cnow cahe) s.heap.size = A at hD ⊢
  have hA : ∀ q : Nat, s.heap.size ≤ q → A q := fun q h => by rw [← hAe]; exact Or.inr h
  have hS : va_S A s.heap s.heap [] := va_S.rf
  have hP : va_P D vwCl (wCo T a0 a1 cdee cnow cahe) s.heap := hP
  obtain ⟨ls, hl, e0⟩ := my_entry (m := m) (n := 2) ha (Nat.le_of_ble_eq_true rfl)
  rw [e0]
  have hl : lv_has ls 2 [(0, .ref a0), (1, .int x1)] := hl
  have key : ∀ Q : State → Prop, (∀ (H : Heap) (locs : List Loc) (pc : Nat) (ls : Array Slot), va_P D vwCl (wCo T a0 a1 zcdee zcnow cahe) H → va_D A (wCo T a0 a1 zcdee zcnow cahe) → va_S A s.heap H locs → decode cX0_goBackTo pc = .ok (.return_, 1) → W p l e ({ frames := 0, cells := 0, slots := 0, locals := 0 } : Room) s m args below meth c H locs 0 0 Q (F0 m pc ls [])) → W p l e ({ frames := 0, cells := 0, slots := 0, locals := 0 } : Room) s m args below meth c s.heap [] 0 0 Q (F0 m 0 ls []) := by
    intro Q hret
    skip
    unfold fX0_goBackTo at h
    refine lv_iload_n hx hb dX0_goBackTo_0 rfl (lv_at hl 1 rfl) ?_
    refine lv_if_lt (tgt := 27) hx hb dX0_goBackTo_1 (by decide) (fun c1 => ?_) (fun c1 => ?_)
    · have h := br_1 h c1
      cases h
      exact hret _ _ _ _ hP hD hS dX0_goBackTo_27
    · have h := br_0 h c1
      refine lv_iload_n hx hb dX0_goBackTo_4 rfl (lv_at hl 1 rfl) ?_
      refine lv_aload_n hx hb dX0_goBackTo_5 rfl (lv_at hl 0 rfl) ?_
      refine va_get (D := D) (ci := 0) (C := RX0) (T := TX0) (N := 3) hx hb hts iX0 hown hK hP 0 wCo_0 rfl 0 (by decide) q1 (fun _ h9 => h9) rfl dX0_goBackTo_6 ?_
      refine lv_icmp_ge (tgt := 27) hx hb dX0_goBackTo_9 (by decide) (fun c9 => ?_) (fun c9 => ?_)
      · have h := br_1 h c9
        cases h
        exact hret _ _ _ _ hP hD hS dX0_goBackTo_27
      · have h := br_0 h c9
        refine lv_aload_n hx hb dX0_goBackTo_12 rfl (lv_at hl 0 rfl) ?_
        refine lv_aload_n hx hb dX0_goBackTo_13 rfl (lv_at hl 0 rfl) ?_
        refine va_get (D := D) (ci := 0) (C := RX0) (T := TX0) (N := 3) hx hb hts iX0 hown hK hP 0 wCo_0 rfl 2 (by decide) q2 (fun _ h9 => h9) rfl dX0_goBackTo_14 ?_
        refine lv_iload_n hx hb dX0_goBackTo_17 rfl (lv_at hl 1 rfl) ?_
        obtain ⟨hin1, h⟩ := ck_some h
        refine va_lald hx hb hK hP 1 2 wCo_1 rfl hin1 dX0_goBackTo_18 ?_
        refine va_put (D := D) (ci := 0) (v := .long (cahe x1.toNatClampNeg)) (ty := .long) (C := RX0) (T := TX0) (N := 3) hx hb hts iX0 tyX0 tyX0_ok nmX0 hown hK hP hD hS 0 wCo_0 rfl 1 (by decide) q3 (fun _ h9 => h9) rfl (by decide +kernel) rfl rfl (Nat.le_of_ble_eq_true rfl) dX0_goBackTo_19 (fun H locs hP hD hS => ?_)
        have hP : va_P D vwCl (wCo T a0 a1 cdee (cahe x1.toNatClampNeg) cahe) H := hP
        have hD : va_D A (wCo T a0 a1 cdee (cahe x1.toNatClampNeg) cahe) := hD
        refine lv_aload_n hx hb dX0_goBackTo_22 rfl (lv_at hl 0 rfl) ?_
        refine lv_iload_n hx hb dX0_goBackTo_23 rfl (lv_at hl 1 rfl) ?_
        refine va_put (D := D) (ci := 0) (v := .int x1) (ty := .int) (C := RX0) (T := TX0) (N := 3) hx hb hts iX0 tyX0 tyX0_ok nmX0 hown hK hP hD hS 0 wCo_0 rfl 0 (by decide) q1 (fun _ h9 => h9) rfl (by decide +kernel) rfl rfl (Nat.le_of_ble_eq_true rfl) dX0_goBackTo_24 (fun H locs hP hD hS => ?_)
        have hP : va_P D vwCl (wCo T a0 a1 x1 (cahe x1.toNatClampNeg) cahe) H := hP
        have hD : va_D A (wCo T a0 a1 x1 (cahe x1.toNatClampNeg) cahe) := hD
        cases h
        exact hret _ _ _ _ hP hD hS dX0_goBackTo_27
  exact key _ (fun H locs pc ls hP hD hS hd => W.vret hx hb hr (fun t ht hW => ⟨⟨(), rfl, trivial, by show _ ∧ _; rw [ht]; exact ⟨hP, hD⟩⟩, hS.F ht⟩) hS.2.2 hd)
