set_option maxHeartbeats 4000000 in
set_option maxRecDepth 100000 in
theorem kX0_takeAll (l : Launch) (D : va_G) (T : Nat → ClassId) (F : Nat) (a0 : Nat) (a1 : Nat) (b0 : Nat) (b1 : Nat) (cdee : Int32) (cnow : Int64) (cahe : Nat → Int64) (odee : Int32) (onow : Int64) (oahe : Nat → Int64) (zcdee : Int32) (zcnow : Int64) (zcahe : Nat → Int64) (h : fX0_takeAll F cdee cnow cahe odee onow oahe = some (zcdee, zcnow, zcahe)) : ∀ sz : Nat, Met l yX0_takeAll wsX0_takeAll ({ frames := 1, cells := 0, slots := 0, locals := 60 } : Room) (va_Pc [.ref a0, .ref b0] (fun U => U.heap.size = sz ∧ va_P D vwCl (wCC T a0 a1 b0 b1 cdee cnow cahe odee onow oahe) U.heap ∧ KK D T U ∧ va_D (fun _ => True) (wCC T a0 a1 b0 b1 cdee cnow cahe odee onow oahe))) (va_Qv (fun _ : Unit => True) (fun _ t => va_P D vwCl (wCC T a0 a1 b0 b1 zcdee zcnow zcahe odee onow oahe) t.heap ∧ va_D (va_A (wCC T a0 a1 b0 b1 cdee cnow cahe odee onow oahe) sz) (wCC T a0 a1 b0 b1 zcdee zcnow zcahe odee onow oahe)) (va_A (wCC T a0 a1 b0 b1 cdee cnow cahe odee onow oahe) sz)) 0 0 (va_A (wCC T a0 a1 b0 b1 cdee cnow cahe odee onow oahe) sz) := by
  intro sz
  refine Met.ofW (cc := cX0_takeAll) (maxL := 2) (ret := none) (by decide) rfl ?_
  intro p e s m args below meth c s₁ B hml hv
  obtain ⟨ha, hsz, hP, hKK, hD0⟩ := hv
  have hx := B.exec
  have hb := B.bytes
  have hr := B.returns
  have hts := atoms_spec (ws := wsX0_takeAll) B.pre
  have hown : s.vm.findClass RX0 = some m.cls := findClass_of_methodNamed B.named
  have hlocks := B.notSynchronized
  have hK := hKK.1
  have hFix : CallFix p m c cX0_takeAll 2 s args wsX0_takeAll RX0 := ⟨hx, hb, hml, hown, hts⟩
  have q1 := hts _ (List.mem_of_getElem? (i := 1) (show wsX0_takeAll[1]? = some (Cond.fieldLink RX0 9 "PartyWill$Course" "deeds" "I") from rfl))
  have q2 := hts _ (List.mem_of_getElem? (i := 2) (show wsX0_takeAll[2]? = some (Cond.fieldLink RX0 15 "PartyWill$Course" "now" "J") from rfl))
  have q3 := hts _ (List.mem_of_getElem? (i := 3) (show wsX0_takeAll[3]? = some (Cond.fieldLink RX0 19 "PartyWill$Course" "ahead" "[J") from rfl))
  have q4 := hts _ (List.mem_of_getElem? (i := 4) (show wsX0_takeAll[4]? = some (Cond.methodLink RX0 23 arraycopyName) from rfl))
  have q5 := hts _ (List.mem_of_getElem? (i := 5) (show wsX0_takeAll[5]? = some (Cond.native arraycopyName) from rfl))
  have q6 := hts _ (List.mem_of_getElem? (i := 6) (show wsX0_takeAll[6]? = some (Cond.static arraycopyName) from rfl))
  have q7 := hts _ (List.mem_of_getElem? (i := 7) (show wsX0_takeAll[7]? = some (Cond.initialized "java/lang/System") from rfl))
  have iX0 : ∀ w ∈ u_ws RX0 TX0 3, w ∈ wsX0_takeAll := fun w h => List.mem_cons_of_mem _ (List.mem_append_right _ (h))
  subst hsz
  have hD := hD0.self (sz := s.heap.size)
  generalize hAe : va_A (wCC T a0 a1 b0 b1 cdee cnow cahe odee onow oahe) s.heap.size = A at hD ⊢
  have hA : ∀ q : Nat, s.heap.size ≤ q → A q := fun q h => by rw [← hAe]; exact Or.inr h
  have hS : va_S A s.heap s.heap [] := va_S.rf
  have hP : va_P D vwCl (wCC T a0 a1 b0 b1 cdee cnow cahe odee onow oahe) s.heap := hP
  obtain ⟨ls, hl, e0⟩ := my_entry (m := m) (n := 2) ha (Nat.le_of_ble_eq_true rfl)
  rw [e0]
  have hl : lv_has ls 2 [(0, .ref a0), (1, .ref b0)] := hl
  have key : ∀ Q : State → Prop, (∀ (H : Heap) (locs : List Loc) (pc : Nat) (ls : Array Slot), va_P D vwCl (wCC T a0 a1 b0 b1 zcdee zcnow zcahe odee onow oahe) H → va_D A (wCC T a0 a1 b0 b1 zcdee zcnow zcahe odee onow oahe) → va_S A s.heap H locs → decode cX0_takeAll pc = .ok (.return_, 1) → W p l e ({ frames := 1, cells := 0, slots := 0, locals := 60 } : Room) s m args below meth c H locs 0 0 Q (F0 m pc ls [])) → W p l e ({ frames := 1, cells := 0, slots := 0, locals := 60 } : Room) s m args below meth c s.heap [] 0 0 Q (F0 m 0 ls []) := by
    intro Q hret
    skip
    unfold fX0_takeAll at h
    refine lv_aload_n hx hb dX0_takeAll_0 rfl (lv_at hl 0 rfl) ?_
    refine lv_aload_n hx hb dX0_takeAll_1 rfl (lv_at hl 1 rfl) ?_
    refine va_get (D := D) (ci := 0) (C := RX0) (T := TX0) (N := 3) hx hb hts iX0 hown hK hP 2 wCC_2 rfl 0 (by decide) q1 (fun _ h9 => h9) rfl dX0_takeAll_2 ?_
    refine va_put (D := D) (ci := 0) (v := .int odee) (ty := .int) (C := RX0) (T := TX0) (N := 3) hx hb hts iX0 tyX0 tyX0_ok nmX0 hown hK hP hD hS 0 wCC_0 rfl 0 (by decide) q1 (fun _ h9 => h9) rfl (by decide +kernel) rfl rfl (Nat.le_of_ble_eq_true rfl) dX0_takeAll_5 (fun H locs hP hD hS => ?_)
    have hP : va_P D vwCl (wCC T a0 a1 b0 b1 odee cnow cahe odee onow oahe) H := hP
    have hD : va_D A (wCC T a0 a1 b0 b1 odee cnow cahe odee onow oahe) := hD
    refine lv_aload_n hx hb dX0_takeAll_8 rfl (lv_at hl 0 rfl) ?_
    refine lv_aload_n hx hb dX0_takeAll_9 rfl (lv_at hl 1 rfl) ?_
    refine va_get (D := D) (ci := 0) (C := RX0) (T := TX0) (N := 3) hx hb hts iX0 hown hK hP 2 wCC_2 rfl 1 (by decide) q2 (fun _ h9 => h9) rfl dX0_takeAll_10 ?_
    refine va_put (D := D) (ci := 0) (v := .long onow) (ty := .long) (C := RX0) (T := TX0) (N := 3) hx hb hts iX0 tyX0 tyX0_ok nmX0 hown hK hP hD hS 0 wCC_0 rfl 1 (by decide) q2 (fun _ h9 => h9) rfl (by decide +kernel) rfl rfl (Nat.le_of_ble_eq_true rfl) dX0_takeAll_13 (fun H locs hP hD hS => ?_)
    have hP : va_P D vwCl (wCC T a0 a1 b0 b1 odee onow cahe odee onow oahe) H := hP
    have hD : va_D A (wCC T a0 a1 b0 b1 odee onow cahe odee onow oahe) := hD
    refine lv_aload_n hx hb dX0_takeAll_16 rfl (lv_at hl 1 rfl) ?_
    refine va_get (D := D) (ci := 0) (C := RX0) (T := TX0) (N := 3) hx hb hts iX0 hown hK hP 2 wCC_2 rfl 2 (by decide) q3 (fun _ h9 => h9) rfl dX0_takeAll_17 ?_
    refine lv_iconst (v := (0 : Int32)) hx hb dX0_takeAll_20 (by decide) ?_
    refine lv_aload_n hx hb dX0_takeAll_21 rfl (lv_at hl 0 rfl) ?_
    refine va_get (D := D) (ci := 0) (C := RX0) (T := TX0) (N := 3) hx hb hts iX0 hown hK hP 0 wCC_0 rfl 2 (by decide) q3 (fun _ h9 => h9) rfl dX0_takeAll_22 ?_
    refine lv_iconst (v := (0 : Int32)) hx hb dX0_takeAll_25 (by decide) ?_
    refine lv_bipush (v := (40 : Int32)) hx hb dX0_takeAll_26 (by decide) ?_
    obtain ⟨hin1, h⟩ := ck_some h
    refine va_copyl hx hb (hml.trans hl.1.symm) hown q4 q5 q6 q7 hK hP hD hS 3 1 2 2 wCC_3 wCC_1 rfl rfl rfl (fun q => hin1 (Or.inl q)) (fun q => hin1 (Or.inr (Or.inl q))) (fun q => hin1 (Or.inr (Or.inr (Or.inl q)))) (Nat.not_lt.mp (fun q => hin1 (Or.inr (Or.inr (Or.inr (Or.inl q)))))) (Nat.not_lt.mp (fun q => hin1 (Or.inr (Or.inr (Or.inr (Or.inr q)))))) (fun _ _ => rfl) (Nat.le_of_ble_eq_true rfl) (by decide +kernel) dX0_takeAll_28 (fun H locs hP hD hS => ?_)
    have hP : va_P D vwCl (wCC T a0 a1 b0 b1 odee onow (va_cpy oahe cahe (0 : Int32).toNatClampNeg (0 : Int32).toNatClampNeg (40 : Int32).toNatClampNeg) odee onow oahe) H := hP
    have hD : va_D A (wCC T a0 a1 b0 b1 odee onow (va_cpy oahe cahe (0 : Int32).toNatClampNeg (0 : Int32).toNatClampNeg (40 : Int32).toNatClampNeg) odee onow oahe) := hD
    cases h
    exact hret _ _ _ _ hP hD hS dX0_takeAll_31
  exact key _ (fun H locs pc ls hP hD hS hd => W.vret hx hb hr (fun t ht hW => ⟨⟨(), rfl, trivial, by show _ ∧ _; rw [ht]; exact ⟨hP, hD⟩⟩, hS.F ht⟩) hS.2.2 hd)
