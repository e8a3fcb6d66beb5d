theorem my_ty {D : va_G} {T : Nat → ClassId} {s : State} {cA c0 : ClassId} {ty : FieldType} (h : va_K D vwCl (tysT T ++ [(cA, ty)]) s) (k : Nat) (hk : (tysT T)[k]? = some (c0, ty)) : c0 = cA := by
  have h1 := (h.2 k (c0, ty) (by rw [List.getElem?_append_left (List.getElem?_eq_some_iff.mp hk).1]; exact hk)).2
  have h2 := (h.2 7 (cA, ty) rfl).2
  cases ty with
  | object C =>
    obtain ⟨_, _, -, -, -, e1⟩ := h1
    obtain ⟨_, _, -, -, -, e2⟩ := h2
    exact Option.some.inj (e1.symm.trans e2)
  | _ => exact Option.some.inj ((show _ = some c0 from h1).symm.trans (show _ = some cA from h2))
theorem my_name {D : va_G} {T : Nat → ClassId} {s : State} {c0 : ClassId} {ty : FieldType} (h : va_K D vwCl (tysT T) s) (k : Nat) (hk : (tysT T)[k]? = some (c0, ty)) : s.vm.findClass (FieldType.array ty).toString = some c0 := by
  have h1 := (h.2 k (c0, ty) hk).2
  have h3 : s.vm.findClass ("[" ++ ty.toString) = some c0 := by
    cases ty with
    | object C =>
      obtain ⟨_, _, -, -, -, e1⟩ := h1
      exact e1
    | _ => exact h1
  exact h3
def AO (U : State) : Prop := va_AO RX0 U ∧ va_AOA .int U ∧ va_AOA .byte U
theorem my_fam {n : Nat} {r g : Nat → Nat} (h : ∀ i, i < n → r i = g i) : (fun i => if i < n then some (r i) else none) = (fun i => if i < n then some (g i) else none) := by
  funext i
  by_cases hi : i < n
  · rw [if_pos hi, if_pos hi, h i hi]
  · rw [if_neg hi, if_neg hi]
theorem my_kept {k0 k1 k2 : Nat} {g : Nat → Nat} (h0 : g 0 = k0) (h1 : g 1 = k1) (h2 : g 2 = k2) : va_up (va_up (va_up (fun _ => none) 0 (some k0)) 1 (some k1)) 2 (some k2) = (fun i => if i < 3 then some (g i) else none) := by
  funext i
  rcases (show i = 0 ∨ i = 1 ∨ i = 2 ∨ 3 ≤ i by omega) with rfl | rfl | rfl | h
  · rw [h0]; rfl
  · rw [h1]; rfl
  · rw [h2]; rfl
  · simp [va_up, show ¬ i < 3 by omega, show i ≠ 0 by omega, show i ≠ 1 by omega, show i ≠ 2 by omega]
theorem hdI_X0 : yX0_init.cls ≠ "java/lang/invoke/MethodHandle" ∧ yX0_init.cls ≠ "java/lang/invoke/VarHandle" ∧ (parseMethodDescriptor yX0_init.desc).map (fun d => d.parameters.length) = some 0 := by decide +kernel
theorem hdI_X2 : yX2_init.cls ≠ "java/lang/invoke/MethodHandle" ∧ yX2_init.cls ≠ "java/lang/invoke/VarHandle" ∧ (parseMethodDescriptor yX2_init.desc).map (fun d => d.parameters.length) = some 0 := by decide +kernel
theorem hdI_X4 : yX4_init.cls ≠ "java/lang/invoke/MethodHandle" ∧ yX4_init.cls ≠ "java/lang/invoke/VarHandle" ∧ (parseMethodDescriptor yX4_init.desc).map (fun d => d.parameters.length) = some 0 := by decide +kernel
set_option maxHeartbeats 4000000 in
set_option maxRecDepth 100000 in
theorem kX0_init (l : Launch) (D : va_G) (T : Nat → ClassId) (a0 : Nat) : ∀ sz : Nat, Met l yX0_init wsX0_init ({ frames := 1, cells := 1, slots := 40, locals := 20 } : Room) (va_Pc [.ref a0] (fun U => U.heap.size = sz ∧ va_P D vwCl [(a0, .inr (0, [.int 0, .long 0, .null]))] U.heap ∧ KK D T U ∧ va_D (fun _ => True) [(a0, .inr (0, [.int 0, .long 0, .null]))])) (va_Qv (fun u : Nat → Nat => True) (fun u t => va_P D vwCl [(a0, .inr (0, [.int 0, .long 0, .ref (u 1)])), ((u 1), .inl (T 2, 40, .inr (.inl (fun _ => (0 : Int64)))))] t.heap ∧ va_D (va_A [(a0, .inr (0, [.int 0, .long 0, .null]))] sz) [(a0, .inr (0, [.int 0, .long 0, .ref (u 1)])), ((u 1), .inl (T 2, 40, .inr (.inl (fun _ => (0 : Int64)))))]) (va_A [(a0, .inr (0, [.int 0, .long 0, .null]))] sz)) 1 40 (va_A [(a0, .inr (0, [.int 0, .long 0, .null]))] sz) := by
  intro sz
  refine Met.ofW (cc := cX0_init) (maxL := 1) (ret := none) (by decide) rfl ?_
  intro p e s m args below meth c s₁ B hml hv
  obtain ⟨ha, hsz, hP, hKK, hD0⟩ := hv
  have hx := B.exec
  have hb := B.bytes
  have hr := B.returns
  have hts := atoms_spec (ws := wsX0_init) B.pre
  have hown : s.vm.findClass RX0 = some m.cls := findClass_of_methodNamed B.named
  have hlocks := B.notSynchronized
  have hK := hKK.1
  have hin : meth.name = "<init>" := (name_of_methodNamed B.named B.method).1
  have hFix : CallFix p m c cX0_init 1 s args wsX0_init RX0 := ⟨hx, hb, hml, hown, hts⟩
  have q1 := hts _ (List.mem_of_getElem? (i := 1) (show wsX0_init[1]? = some (Cond.methodLink RX0 3 objectInit) from rfl))
  have q2 := hts _ (List.mem_of_getElem? (i := 2) (show wsX0_init[2]? = some (Cond.instanceMethod objectInit) from rfl))
  have q3 := hts _ (List.mem_of_getElem? (i := 3) (show wsX0_init[3]? = some (Cond.code objectInit ⟨#[0xb1]⟩ 1 none) from rfl))
  have q4 := hts _ (List.mem_of_getElem? (i := 4) (show wsX0_init[4]? = some (Cond.fieldLink RX0 9 "PartyWill$Course" "deeds" "I") from rfl))
  have q5 := hts _ (List.mem_of_getElem? (i := 5) (show wsX0_init[5]? = some (Cond.fieldLink RX0 15 "PartyWill$Course" "now" "J") from rfl))
  have q6 := hts _ (List.mem_of_getElem? (i := 6) (show wsX0_init[6]? = some (Cond.arrayClass .long) from rfl))
  have q7 := hts _ (List.mem_of_getElem? (i := 7) (show wsX0_init[7]? = some (Cond.fieldLink RX0 19 "PartyWill$Course" "ahead" "[J") from rfl))
  have iX0 : ∀ w ∈ u_ws RX0 TX0 3, w ∈ wsX0_init := fun w h => List.mem_cons_of_mem _ (List.mem_append_right _ (h))
  subst hsz
  have hD := hD0.self (sz := s.heap.size)
  generalize hAe : va_A [(a0, .inr (0, [.int 0, .long 0, .null]))] s.heap.size = A at hD ⊢
  have hA : ∀ q : Nat, s.heap.size ≤ q → A q := fun q h => by rw [← hAe]; exact Or.inr h
  have hS : va_S A s.heap s.heap [] := va_S.rf
  have hP : va_P D vwCl [(a0, .inr (0, [.int 0, .long 0, .null]))] s.heap := hP
  obtain ⟨ls, hl, e0⟩ := my_entry (m := m) (n := 1) ha (Nat.le_of_ble_eq_true rfl)
  rw [e0]
  have hl : lv_has ls 1 [(0, .ref a0)] := hl
  skip
  refine lv_aload_n hx hb dX0_init_0 rfl (lv_at hl 0 rfl) ?_
  refine W.objInit hx hb hown q1 q2 q3 rfl (by rw [hml]; exact hl.1) rfl dX0_init_1 (Nat.le_of_ble_eq_true rfl) (Nat.le_of_ble_eq_true rfl) ?_
  refine W.eq (g2 := F0 m 4 ls []) rfl ?_
  refine lv_aload_n hx hb dX0_init_4 rfl (lv_at hl 0 rfl) ?_
  refine lv_iconst (v := (0 : Int32)) hx hb dX0_init_5 (by decide) ?_
  refine va_put (D := D) (ci := 0) (v := .int (0 : Int32)) (ty := .int) (C := RX0) (T := TX0) (N := 3) hx hb hts iX0 tyX0 tyX0_ok nmX0 hown hK hP hD hS 0 rfl rfl 0 (by decide) q4 (fun _ h9 => h9) rfl (by decide +kernel) rfl rfl (Nat.le_of_ble_eq_true rfl) dX0_init_6 (fun H locs hP hD hS => ?_)
  have hP : va_P D vwCl [(a0, .inr (0, [.int (0 : Int32), .long 0, .null]))] H := hP
  have hD : va_D A [(a0, .inr (0, [.int (0 : Int32), .long 0, .null]))] := hD
  refine lv_aload_n hx hb dX0_init_9 rfl (lv_at hl 0 rfl) ?_
  refine lv_lconst (v := (0 : Int64)) hx hb dX0_init_10 (by decide) ?_
  refine va_put (D := D) (ci := 0) (v := .long (0 : Int64)) (ty := .long) (C := RX0) (T := TX0) (N := 3) hx hb hts iX0 tyX0 tyX0_ok nmX0 hown hK hP hD hS 0 rfl rfl 1 (by decide) q5 (fun _ h9 => h9) rfl (by decide +kernel) rfl rfl (Nat.le_of_ble_eq_true rfl) dX0_init_11 (fun H locs hP hD hS => ?_)
  have hP : va_P D vwCl [(a0, .inr (0, [.int (0 : Int32), .long (0 : Int64), .null]))] H := hP
  have hD : va_D A [(a0, .inr (0, [.int (0 : Int32), .long (0 : Int64), .null]))] := hD
  refine lv_aload_n hx hb dX0_init_14 rfl (lv_at hl 0 rfl) ?_
  refine lv_bipush (v := (40 : Int32)) hx hb dX0_init_15 (by decide) ?_
  refine va_newa (atype := .long) (a0 := (40, .inr (.inl (fun _ => (0 : Int64))))) hx hb q6 rfl hK hP hD hS hA (fun _ => rfl) (by decide) (by decide +kernel) (Nat.le_of_ble_eq_true rfl) (Nat.le_of_ble_eq_true rfl) (Nat.le_of_ble_eq_true rfl) dX0_init_17 (fun p1 cA1 H hK1 hP hD hS => ?_)
  obtain rfl := my_ty hK1 2 rfl
  have hP : va_P D vwCl [(a0, .inr (0, [.int (0 : Int32), .long (0 : Int64), .null])), (p1, .inl (T 2, 40, .inr (.inl (fun _ => (0 : Int64)))))] H := hP
  have hD : va_D A [(a0, .inr (0, [.int (0 : Int32), .long (0 : Int64), .null])), (p1, .inl (T 2, 40, .inr (.inl (fun _ => (0 : Int64)))))] := hD
  refine va_putF (D := D) (ci := 0) (v := .ref p1) (ty := (.array .long)) (C := RX0) (T := TX0) (N := 3) hx hb hts iX0 tyX0 tyX0_ok nmX0 hown hK hP hD hS 0 rfl rfl 2 (by decide) q7 (fun _ h9 => h9) rfl hin rfl (by decide +kernel) rfl rfl (Nat.le_of_ble_eq_true rfl) dX0_init_19 (fun H locs hP hD hS => ?_)
  have hP : va_P D vwCl [(a0, .inr (0, [.int (0 : Int32), .long (0 : Int64), .ref p1])), (p1, .inl (T 2, 40, .inr (.inl (fun _ => (0 : Int64)))))] H := hP
  have hD : va_D A [(a0, .inr (0, [.int (0 : Int32), .long (0 : Int64), .ref p1])), (p1, .inl (T 2, 40, .inr (.inl (fun _ => (0 : Int64)))))] := hD
  refine W.widen (k := 1) (n := 40) (Nat.le_of_ble_eq_true rfl) (Nat.le_of_ble_eq_true rfl) ?_
  have hP9 : va_P D vwCl [(a0, .inr (0, [.int 0, .long 0, .ref ((fun k => ([a0, p1] : List Nat).getD k 0) 1)])), (((fun k => ([a0, p1] : List Nat).getD k 0) 1), .inl (T 2, 40, .inr (.inl (fun _ => (0 : Int64)))))] H := my_subP (is := [0, 1]) rfl hP
  have hD9 : va_D A [(a0, .inr (0, [.int 0, .long 0, .ref ((fun k => ([a0, p1] : List Nat).getD k 0) 1)])), (((fun k => ([a0, p1] : List Nat).getD k 0) 1), .inl (T 2, 40, .inr (.inl (fun _ => (0 : Int64)))))] := hD.sub [0, 1] (by decide) rfl
  exact W.vret hx hb hr (fun t ht hW => ⟨⟨(fun k => ([a0, p1] : List Nat).getD k 0), rfl, trivial, by show _ ∧ _; rw [ht]; exact ⟨hP9, hD9⟩⟩, hS.F ht⟩) hS.2.2 dX0_init_22
set_option maxHeartbeats 4000000 in
set_option maxRecDepth 100000 in
theorem kX2_init (l : Launch) (D : va_G) (T : Nat → ClassId) (a0 : Nat) : ∀ sz : Nat, Met l yX2_init wsX2_init ({ frames := 1, cells := 5, slots := 28, locals := 20 } : Room) (va_Pc [.ref a0] (fun U => U.heap.size = sz ∧ va_P D vwCl [(a0, .inr (1, [.int 0, .int 0, .null, .null, .null, .null, .null]))] U.heap ∧ KK D T U ∧ va_D (fun _ => True) [(a0, .inr (1, [.int 0, .int 0, .null, .null, .null, .null, .null]))])) (va_Qv (fun u : Nat → Nat => True) (fun u t => va_P D vwCl [(a0, .inr (1, [.int 0, .int 0, .ref (u 1), .ref (u 2), .ref (u 3), .ref (u 4), .ref (u 5)])), ((u 1), .inl (T 0, 4, .inl (fun _ => (0 : Int32)))), ((u 2), .inl (T 0, 6, .inl (fun _ => (0 : Int32)))), ((u 3), .inl (T 0, 6, .inl (fun _ => (0 : Int32)))), ((u 4), .inl (T 0, 6, .inl (fun _ => (0 : Int32)))), ((u 5), .inl (T 0, 6, .inl (fun _ => (0 : Int32))))] t.heap ∧ va_D (va_A [(a0, .inr (1, [.int 0, .int 0, .null, .null, .null, .null, .null]))] sz) [(a0, .inr (1, [.int 0, .int 0, .ref (u 1), .ref (u 2), .ref (u 3), .ref (u 4), .ref (u 5)])), ((u 1), .inl (T 0, 4, .inl (fun _ => (0 : Int32)))), ((u 2), .inl (T 0, 6, .inl (fun _ => (0 : Int32)))), ((u 3), .inl (T 0, 6, .inl (fun _ => (0 : Int32)))), ((u 4), .inl (T 0, 6, .inl (fun _ => (0 : Int32)))), ((u 5), .inl (T 0, 6, .inl (fun _ => (0 : Int32))))]) (va_A [(a0, .inr (1, [.int 0, .int 0, .null, .null, .null, .null, .null]))] sz)) 5 28 (va_A [(a0, .inr (1, [.int 0, .int 0, .null, .null, .null, .null, .null]))] sz) := by
  intro sz
  refine Met.ofW (cc := cX2_init) (maxL := 1) (ret := none) (by decide) rfl ?_
  intro p e s m args below meth c s₁ B hml hv
  obtain ⟨ha, hsz, hP, hKK, hD0⟩ := hv
  have hx := B.exec
  have hb := B.bytes
  have hr := B.returns
  have hts := atoms_spec (ws := wsX2_init) B.pre
  have hown : s.vm.findClass RX2 = some m.cls := findClass_of_methodNamed B.named
  have hlocks := B.notSynchronized
  have hK := hKK.1
  have hin : meth.name = "<init>" := (name_of_methodNamed B.named B.method).1
  have hFix : CallFix p m c cX2_init 1 s args wsX2_init RX2 := ⟨hx, hb, hml, hown, hts⟩
  have q1 := hts _ (List.mem_of_getElem? (i := 1) (show wsX2_init[1]? = some (Cond.methodLink RX2 3 objectInit) from rfl))
  have q2 := hts _ (List.mem_of_getElem? (i := 2) (show wsX2_init[2]? = some (Cond.instanceMethod objectInit) from rfl))
  have q3 := hts _ (List.mem_of_getElem? (i := 3) (show wsX2_init[3]? = some (Cond.code objectInit ⟨#[0xb1]⟩ 1 none) from rfl))
  have q4 := hts _ (List.mem_of_getElem? (i := 4) (show wsX2_init[4]? = some (Cond.fieldLink RX2 9 "PartyWill$Party" "size" "I") from rfl))
  have q5 := hts _ (List.mem_of_getElem? (i := 5) (show wsX2_init[5]? = some (Cond.fieldLink RX2 15 "PartyWill$Party" "clause" "I") from rfl))
  have q6 := hts _ (List.mem_of_getElem? (i := 6) (show wsX2_init[6]? = some (Cond.arrayClass .int) from rfl))
  have q7 := hts _ (List.mem_of_getElem? (i := 7) (show wsX2_init[7]? = some (Cond.fieldLink RX2 18 "PartyWill$Party" "effects" "[I") from rfl))
  have q8 := hts _ (List.mem_of_getElem? (i := 8) (show wsX2_init[8]? = some (Cond.fieldLink RX2 22 "PartyWill$Party" "kinds" "[I") from rfl))
  have q9 := hts _ (List.mem_of_getElem? (i := 9) (show wsX2_init[9]? = some (Cond.fieldLink RX2 25 "PartyWill$Party" "griefsAtFirst" "[I") from rfl))
  have q10 := hts _ (List.mem_of_getElem? (i := 10) (show wsX2_init[10]? = some (Cond.fieldLink RX2 28 "PartyWill$Party" "sights" "[I") from rfl))
  have q11 := hts _ (List.mem_of_getElem? (i := 11) (show wsX2_init[11]? = some (Cond.fieldLink RX2 31 "PartyWill$Party" "seers" "[I") from rfl))
  have iX2 : ∀ w ∈ u_ws RX2 TX2 7, w ∈ wsX2_init := fun w h => List.mem_cons_of_mem _ (List.mem_append_right _ (h))
  subst hsz
  have hD := hD0.self (sz := s.heap.size)
  generalize hAe : va_A [(a0, .inr (1, [.int 0, .int 0, .null, .null, .null, .null, .null]))] s.heap.size = A at hD ⊢
  have hA : ∀ q : Nat, s.heap.size ≤ q → A q := fun q h => by rw [← hAe]; exact Or.inr h
  have hS : va_S A s.heap s.heap [] := va_S.rf
  have hP : va_P D vwCl [(a0, .inr (1, [.int 0, .int 0, .null, .null, .null, .null, .null]))] s.heap := hP
  obtain ⟨ls, hl, e0⟩ := my_entry (m := m) (n := 1) ha (Nat.le_of_ble_eq_true rfl)
  rw [e0]
  have hl : lv_has ls 1 [(0, .ref a0)] := hl
  skip
  refine lv_aload_n hx hb dX2_init_0 rfl (lv_at hl 0 rfl) ?_
  refine W.objInit hx hb hown q1 q2 q3 rfl (by rw [hml]; exact hl.1) rfl dX2_init_1 (Nat.le_of_ble_eq_true rfl) (Nat.le_of_ble_eq_true rfl) ?_
  refine W.eq (g2 := F0 m 4 ls []) rfl ?_
  refine lv_aload_n hx hb dX2_init_4 rfl (lv_at hl 0 rfl) ?_
  refine lv_iconst (v := (0 : Int32)) hx hb dX2_init_5 (by decide) ?_
  refine va_put (D := D) (ci := 1) (v := .int (0 : Int32)) (ty := .int) (C := RX2) (T := TX2) (N := 7) hx hb hts iX2 tyX2 tyX2_ok nmX2 hown hK hP hD hS 0 rfl rfl 0 (by decide) q4 (fun _ h9 => h9) rfl (by decide +kernel) rfl rfl (Nat.le_of_ble_eq_true rfl) dX2_init_6 (fun H locs hP hD hS => ?_)
  have hP : va_P D vwCl [(a0, .inr (1, [.int (0 : Int32), .int 0, .null, .null, .null, .null, .null]))] H := hP
  have hD : va_D A [(a0, .inr (1, [.int (0 : Int32), .int 0, .null, .null, .null, .null, .null]))] := hD
  refine lv_aload_n hx hb dX2_init_9 rfl (lv_at hl 0 rfl) ?_
  refine lv_iconst (v := (0 : Int32)) hx hb dX2_init_10 (by decide) ?_
  refine va_put (D := D) (ci := 1) (v := .int (0 : Int32)) (ty := .int) (C := RX2) (T := TX2) (N := 7) hx hb hts iX2 tyX2 tyX2_ok nmX2 hown hK hP hD hS 0 rfl rfl 1 (by decide) q5 (fun _ h9 => h9) rfl (by decide +kernel) rfl rfl (Nat.le_of_ble_eq_true rfl) dX2_init_11 (fun H locs hP hD hS => ?_)
  have hP : va_P D vwCl [(a0, .inr (1, [.int (0 : Int32), .int (0 : Int32), .null, .null, .null, .null, .null]))] H := hP
  have hD : va_D A [(a0, .inr (1, [.int (0 : Int32), .int (0 : Int32), .null, .null, .null, .null, .null]))] := hD
  refine lv_aload_n hx hb dX2_init_14 rfl (lv_at hl 0 rfl) ?_
  refine lv_iconst (v := (4 : Int32)) hx hb dX2_init_15 (by decide) ?_
  refine va_newa (atype := .int) (a0 := (4, .inl (fun _ => (0 : Int32)))) hx hb q6 rfl hK hP hD hS hA (fun _ => rfl) (by decide) (by decide +kernel) (Nat.le_of_ble_eq_true rfl) (Nat.le_of_ble_eq_true rfl) (Nat.le_of_ble_eq_true rfl) dX2_init_16 (fun p1 cA1 H hK1 hP hD hS => ?_)
  obtain rfl := my_ty hK1 0 rfl
  have hP : va_P D vwCl [(a0, .inr (1, [.int (0 : Int32), .int (0 : Int32), .null, .null, .null, .null, .null])), (p1, .inl (T 0, 4, .inl (fun _ => (0 : Int32))))] H := hP
  have hD : va_D A [(a0, .inr (1, [.int (0 : Int32), .int (0 : Int32), .null, .null, .null, .null, .null])), (p1, .inl (T 0, 4, .inl (fun _ => (0 : Int32))))] := hD
  refine va_putF (D := D) (ci := 1) (v := .ref p1) (ty := (.array .int)) (C := RX2) (T := TX2) (N := 7) hx hb hts iX2 tyX2 tyX2_ok nmX2 hown hK hP hD hS 0 rfl rfl 2 (by decide) q7 (fun _ h9 => h9) rfl hin rfl (by decide +kernel) rfl rfl (Nat.le_of_ble_eq_true rfl) dX2_init_18 (fun H locs hP hD hS => ?_)
  have hP : va_P D vwCl [(a0, .inr (1, [.int (0 : Int32), .int (0 : Int32), .ref p1, .null, .null, .null, .null])), (p1, .inl (T 0, 4, .inl (fun _ => (0 : Int32))))] H := hP
  have hD : va_D A [(a0, .inr (1, [.int (0 : Int32), .int (0 : Int32), .ref p1, .null, .null, .null, .null])), (p1, .inl (T 0, 4, .inl (fun _ => (0 : Int32))))] := hD
  refine lv_aload_n hx hb dX2_init_21 rfl (lv_at hl 0 rfl) ?_
  refine lv_bipush (v := (6 : Int32)) hx hb dX2_init_22 (by decide) ?_
  refine va_newa (atype := .int) (a0 := (6, .inl (fun _ => (0 : Int32)))) hx hb q6 rfl hK hP hD hS hA (fun _ => rfl) (by decide) (by decide +kernel) (Nat.le_of_ble_eq_true rfl) (Nat.le_of_ble_eq_true rfl) (Nat.le_of_ble_eq_true rfl) dX2_init_24 (fun p2 cA2 H hK2 hP hD hS => ?_)
  obtain rfl := my_ty hK2 0 rfl
  have hP : va_P D vwCl [(a0, .inr (1, [.int (0 : Int32), .int (0 : Int32), .ref p1, .null, .null, .null, .null])), (p1, .inl (T 0, 4, .inl (fun _ => (0 : Int32)))), (p2, .inl (T 0, 6, .inl (fun _ => (0 : Int32))))] H := hP
  have hD : va_D A [(a0, .inr (1, [.int (0 : Int32), .int (0 : Int32), .ref p1, .null, .null, .null, .null])), (p1, .inl (T 0, 4, .inl (fun _ => (0 : Int32)))), (p2, .inl (T 0, 6, .inl (fun _ => (0 : Int32))))] := hD
  refine va_putF (D := D) (ci := 1) (v := .ref p2) (ty := (.array .int)) (C := RX2) (T := TX2) (N := 7) hx hb hts iX2 tyX2 tyX2_ok nmX2 hown hK hP hD hS 0 rfl rfl 3 (by decide) q8 (fun _ h9 => h9) rfl hin rfl (by decide +kernel) rfl rfl (Nat.le_of_ble_eq_true rfl) dX2_init_26 (fun H locs hP hD hS => ?_)
  have hP : va_P D vwCl [(a0, .inr (1, [.int (0 : Int32), .int (0 : Int32), .ref p1, .ref p2, .null, .null, .null])), (p1, .inl (T 0, 4, .inl (fun _ => (0 : Int32)))), (p2, .inl (T 0, 6, .inl (fun _ => (0 : Int32))))] H := hP
  have hD : va_D A [(a0, .inr (1, [.int (0 : Int32), .int (0 : Int32), .ref p1, .ref p2, .null, .null, .null])), (p1, .inl (T 0, 4, .inl (fun _ => (0 : Int32)))), (p2, .inl (T 0, 6, .inl (fun _ => (0 : Int32))))] := hD
  refine lv_aload_n hx hb dX2_init_29 rfl (lv_at hl 0 rfl) ?_
  refine lv_bipush (v := (6 : Int32)) hx hb dX2_init_30 (by decide) ?_
  refine va_newa (atype := .int) (a0 := (6, .inl (fun _ => (0 : Int32)))) hx hb q6 rfl hK hP hD hS hA (fun _ => rfl) (by decide) (by decide +kernel) (Nat.le_of_ble_eq_true rfl) (Nat.le_of_ble_eq_true rfl) (Nat.le_of_ble_eq_true rfl) dX2_init_32 (fun p3 cA3 H hK3 hP hD hS => ?_)
  obtain rfl := my_ty hK3 0 rfl
  have hP : va_P D vwCl [(a0, .inr (1, [.int (0 : Int32), .int (0 : Int32), .ref p1, .ref p2, .null, .null, .null])), (p1, .inl (T 0, 4, .inl (fun _ => (0 : Int32)))), (p2, .inl (T 0, 6, .inl (fun _ => (0 : Int32)))), (p3, .inl (T 0, 6, .inl (fun _ => (0 : Int32))))] H := hP
  have hD : va_D A [(a0, .inr (1, [.int (0 : Int32), .int (0 : Int32), .ref p1, .ref p2, .null, .null, .null])), (p1, .inl (T 0, 4, .inl (fun _ => (0 : Int32)))), (p2, .inl (T 0, 6, .inl (fun _ => (0 : Int32)))), (p3, .inl (T 0, 6, .inl (fun _ => (0 : Int32))))] := hD
  refine va_putF (D := D) (ci := 1) (v := .ref p3) (ty := (.array .int)) (C := RX2) (T := TX2) (N := 7) hx hb hts iX2 tyX2 tyX2_ok nmX2 hown hK hP hD hS 0 rfl rfl 4 (by decide) q9 (fun _ h9 => h9) rfl hin rfl (by decide +kernel) rfl rfl (Nat.le_of_ble_eq_true rfl) dX2_init_34 (fun H locs hP hD hS => ?_)
  have hP : va_P D vwCl [(a0, .inr (1, [.int (0 : Int32), .int (0 : Int32), .ref p1, .ref p2, .ref p3, .null, .null])), (p1, .inl (T 0, 4, .inl (fun _ => (0 : Int32)))), (p2, .inl (T 0, 6, .inl (fun _ => (0 : Int32)))), (p3, .inl (T 0, 6, .inl (fun _ => (0 : Int32))))] H := hP
  have hD : va_D A [(a0, .inr (1, [.int (0 : Int32), .int (0 : Int32), .ref p1, .ref p2, .ref p3, .null, .null])), (p1, .inl (T 0, 4, .inl (fun _ => (0 : Int32)))), (p2, .inl (T 0, 6, .inl (fun _ => (0 : Int32)))), (p3, .inl (T 0, 6, .inl (fun _ => (0 : Int32))))] := hD
  refine lv_aload_n hx hb dX2_init_37 rfl (lv_at hl 0 rfl) ?_
  refine lv_bipush (v := (6 : Int32)) hx hb dX2_init_38 (by decide) ?_
  refine va_newa (atype := .int) (a0 := (6, .inl (fun _ => (0 : Int32)))) hx hb q6 rfl hK hP hD hS hA (fun _ => rfl) (by decide) (by decide +kernel) (Nat.le_of_ble_eq_true rfl) (Nat.le_of_ble_eq_true rfl) (Nat.le_of_ble_eq_true rfl) dX2_init_40 (fun p4 cA4 H hK4 hP hD hS => ?_)
  obtain rfl := my_ty hK4 0 rfl
  have hP : va_P D vwCl [(a0, .inr (1, [.int (0 : Int32), .int (0 : Int32), .ref p1, .ref p2, .ref p3, .null, .null])), (p1, .inl (T 0, 4, .inl (fun _ => (0 : Int32)))), (p2, .inl (T 0, 6, .inl (fun _ => (0 : Int32)))), (p3, .inl (T 0, 6, .inl (fun _ => (0 : Int32)))), (p4, .inl (T 0, 6, .inl (fun _ => (0 : Int32))))] H := hP
  have hD : va_D A [(a0, .inr (1, [.int (0 : Int32), .int (0 : Int32), .ref p1, .ref p2, .ref p3, .null, .null])), (p1, .inl (T 0, 4, .inl (fun _ => (0 : Int32)))), (p2, .inl (T 0, 6, .inl (fun _ => (0 : Int32)))), (p3, .inl (T 0, 6, .inl (fun _ => (0 : Int32)))), (p4, .inl (T 0, 6, .inl (fun _ => (0 : Int32))))] := hD
  refine va_putF (D := D) (ci := 1) (v := .ref p4) (ty := (.array .int)) (C := RX2) (T := TX2) (N := 7) hx hb hts iX2 tyX2 tyX2_ok nmX2 hown hK hP hD hS 0 rfl rfl 5 (by decide) q10 (fun _ h9 => h9) rfl hin rfl (by decide +kernel) rfl rfl (Nat.le_of_ble_eq_true rfl) dX2_init_42 (fun H locs hP hD hS => ?_)
  have hP : va_P D vwCl [(a0, .inr (1, [.int (0 : Int32), .int (0 : Int32), .ref p1, .ref p2, .ref p3, .ref p4, .null])), (p1, .inl (T 0, 4, .inl (fun _ => (0 : Int32)))), (p2, .inl (T 0, 6, .inl (fun _ => (0 : Int32)))), (p3, .inl (T 0, 6, .inl (fun _ => (0 : Int32)))), (p4, .inl (T 0, 6, .inl (fun _ => (0 : Int32))))] H := hP
  have hD : va_D A [(a0, .inr (1, [.int (0 : Int32), .int (0 : Int32), .ref p1, .ref p2, .ref p3, .ref p4, .null])), (p1, .inl (T 0, 4, .inl (fun _ => (0 : Int32)))), (p2, .inl (T 0, 6, .inl (fun _ => (0 : Int32)))), (p3, .inl (T 0, 6, .inl (fun _ => (0 : Int32)))), (p4, .inl (T 0, 6, .inl (fun _ => (0 : Int32))))] := hD
  refine lv_aload_n hx hb dX2_init_45 rfl (lv_at hl 0 rfl) ?_
  refine lv_bipush (v := (6 : Int32)) hx hb dX2_init_46 (by decide) ?_
  refine va_newa (atype := .int) (a0 := (6, .inl (fun _ => (0 : Int32)))) hx hb q6 rfl hK hP hD hS hA (fun _ => rfl) (by decide) (by decide +kernel) (Nat.le_of_ble_eq_true rfl) (Nat.le_of_ble_eq_true rfl) (Nat.le_of_ble_eq_true rfl) dX2_init_48 (fun p5 cA5 H hK5 hP hD hS => ?_)
  obtain rfl := my_ty hK5 0 rfl
  have hP : va_P D vwCl [(a0, .inr (1, [.int (0 : Int32), .int (0 : Int32), .ref p1, .ref p2, .ref p3, .ref p4, .null])), (p1, .inl (T 0, 4, .inl (fun _ => (0 : Int32)))), (p2, .inl (T 0, 6, .inl (fun _ => (0 : Int32)))), (p3, .inl (T 0, 6, .inl (fun _ => (0 : Int32)))), (p4, .inl (T 0, 6, .inl (fun _ => (0 : Int32)))), (p5, .inl (T 0, 6, .inl (fun _ => (0 : Int32))))] H := hP
  have hD : va_D A [(a0, .inr (1, [.int (0 : Int32), .int (0 : Int32), .ref p1, .ref p2, .ref p3, .ref p4, .null])), (p1, .inl (T 0, 4, .inl (fun _ => (0 : Int32)))), (p2, .inl (T 0, 6, .inl (fun _ => (0 : Int32)))), (p3, .inl (T 0, 6, .inl (fun _ => (0 : Int32)))), (p4, .inl (T 0, 6, .inl (fun _ => (0 : Int32)))), (p5, .inl (T 0, 6, .inl (fun _ => (0 : Int32))))] := hD
  refine va_putF (D := D) (ci := 1) (v := .ref p5) (ty := (.array .int)) (C := RX2) (T := TX2) (N := 7) hx hb hts iX2 tyX2 tyX2_ok nmX2 hown hK hP hD hS 0 rfl rfl 6 (by decide) q11 (fun _ h9 => h9) rfl hin rfl (by decide +kernel) rfl rfl (Nat.le_of_ble_eq_true rfl) dX2_init_50 (fun H locs hP hD hS => ?_)
  have hP : va_P D vwCl [(a0, .inr (1, [.int (0 : Int32), .int (0 : Int32), .ref p1, .ref p2, .ref p3, .ref p4, .ref p5])), (p1, .inl (T 0, 4, .inl (fun _ => (0 : Int32)))), (p2, .inl (T 0, 6, .inl (fun _ => (0 : Int32)))), (p3, .inl (T 0, 6, .inl (fun _ => (0 : Int32)))), (p4, .inl (T 0, 6, .inl (fun _ => (0 : Int32)))), (p5, .inl (T 0, 6, .inl (fun _ => (0 : Int32))))] H := hP
  have hD : va_D A [(a0, .inr (1, [.int (0 : Int32), .int (0 : Int32), .ref p1, .ref p2, .ref p3, .ref p4, .ref p5])), (p1, .inl (T 0, 4, .inl (fun _ => (0 : Int32)))), (p2, .inl (T 0, 6, .inl (fun _ => (0 : Int32)))), (p3, .inl (T 0, 6, .inl (fun _ => (0 : Int32)))), (p4, .inl (T 0, 6, .inl (fun _ => (0 : Int32)))), (p5, .inl (T 0, 6, .inl (fun _ => (0 : Int32))))] := hD
  refine W.widen (k := 5) (n := 28) (Nat.le_of_ble_eq_true rfl) (Nat.le_of_ble_eq_true rfl) ?_
  have hP9 : va_P D vwCl [(a0, .inr (1, [.int 0, .int 0, .ref ((fun k => ([a0, p1, p2, p3, p4, p5] : List Nat).getD k 0) 1), .ref ((fun k => ([a0, p1, p2, p3, p4, p5] : List Nat).getD k 0) 2), .ref ((fun k => ([a0, p1, p2, p3, p4, p5] : List Nat).getD k 0) 3), .ref ((fun k => ([a0, p1, p2, p3, p4, p5] : List Nat).getD k 0) 4), .ref ((fun k => ([a0, p1, p2, p3, p4, p5] : List Nat).getD k 0) 5)])), (((fun k => ([a0, p1, p2, p3, p4, p5] : List Nat).getD k 0) 1), .inl (T 0, 4, .inl (fun _ => (0 : Int32)))), (((fun k => ([a0, p1, p2, p3, p4, p5] : List Nat).getD k 0) 2), .inl (T 0, 6, .inl (fun _ => (0 : Int32)))), (((fun k => ([a0, p1, p2, p3, p4, p5] : List Nat).getD k 0) 3), .inl (T 0, 6, .inl (fun _ => (0 : Int32)))), (((fun k => ([a0, p1, p2, p3, p4, p5] : List Nat).getD k 0) 4), .inl (T 0, 6, .inl (fun _ => (0 : Int32)))), (((fun k => ([a0, p1, p2, p3, p4, p5] : List Nat).getD k 0) 5), .inl (T 0, 6, .inl (fun _ => (0 : Int32))))] H := my_subP (is := [0, 1, 2, 3, 4, 5]) rfl hP
  have hD9 : va_D A [(a0, .inr (1, [.int 0, .int 0, .ref ((fun k => ([a0, p1, p2, p3, p4, p5] : List Nat).getD k 0) 1), .ref ((fun k => ([a0, p1, p2, p3, p4, p5] : List Nat).getD k 0) 2), .ref ((fun k => ([a0, p1, p2, p3, p4, p5] : List Nat).getD k 0) 3), .ref ((fun k => ([a0, p1, p2, p3, p4, p5] : List Nat).getD k 0) 4), .ref ((fun k => ([a0, p1, p2, p3, p4, p5] : List Nat).getD k 0) 5)])), (((fun k => ([a0, p1, p2, p3, p4, p5] : List Nat).getD k 0) 1), .inl (T 0, 4, .inl (fun _ => (0 : Int32)))), (((fun k => ([a0, p1, p2, p3, p4, p5] : List Nat).getD k 0) 2), .inl (T 0, 6, .inl (fun _ => (0 : Int32)))), (((fun k => ([a0, p1, p2, p3, p4, p5] : List Nat).getD k 0) 3), .inl (T 0, 6, .inl (fun _ => (0 : Int32)))), (((fun k => ([a0, p1, p2, p3, p4, p5] : List Nat).getD k 0) 4), .inl (T 0, 6, .inl (fun _ => (0 : Int32)))), (((fun k => ([a0, p1, p2, p3, p4, p5] : List Nat).getD k 0) 5), .inl (T 0, 6, .inl (fun _ => (0 : Int32))))] := hD.sub [0, 1, 2, 3, 4, 5] (by decide) rfl
  exact W.vret hx hb hr (fun t ht hW => ⟨⟨(fun k => ([a0, p1, p2, p3, p4, p5] : List Nat).getD k 0), rfl, trivial, by show _ ∧ _; rw [ht]; exact ⟨hP9, hD9⟩⟩, hS.F ht⟩) hS.2.2 dX2_init_53
set_option maxHeartbeats 4000000 in
set_option maxRecDepth 100000 in
theorem kX4_init (l : Launch) (D : va_G) (T : Nat → ClassId) (a0 : Nat) : ∀ sz : Nat, Met l yX4_init wsX4_init ({ frames := 1, cells := 0, slots := 0, locals := 20 } : Room) (va_Pc [.ref a0] (fun U => U.heap.size = sz ∧ va_P D vwCl [(a0, .inr (2, [.int 0, .int 0, .int 0, .int 0]))] U.heap ∧ KK D T U ∧ va_D (fun _ => True) [(a0, .inr (2, [.int 0, .int 0, .int 0, .int 0]))])) (va_Qv (fun u : Nat → Nat => True) (fun u t => va_P D vwCl [(a0, .inr (2, [.int 0, .int 0, .int 0, .int 0]))] t.heap ∧ va_D (va_A [(a0, .inr (2, [.int 0, .int 0, .int 0, .int 0]))] sz) [(a0, .inr (2, [.int 0, .int 0, .int 0, .int 0]))]) (va_A [(a0, .inr (2, [.int 0, .int 0, .int 0, .int 0]))] sz)) 0 0 (va_A [(a0, .inr (2, [.int 0, .int 0, .int 0, .int 0]))] sz) := by
  intro sz
  refine Met.ofW (cc := cX4_init) (maxL := 1) (ret := none) (by decide) rfl ?_
  intro p e s m args below meth c s₁ B hml hv
  obtain ⟨ha, hsz, hP, hKK, hD0⟩ := hv
  have hx := B.exec
  have hb := B.bytes
  have hr := B.returns
  have hts := atoms_spec (ws := wsX4_init) B.pre
  have hown : s.vm.findClass RX4 = some m.cls := findClass_of_methodNamed B.named
  have hlocks := B.notSynchronized
  have hK := hKK.1
  have hin : meth.name = "<init>" := (name_of_methodNamed B.named B.method).1
  have hFix : CallFix p m c cX4_init 1 s args wsX4_init RX4 := ⟨hx, hb, hml, hown, hts⟩
  have q1 := hts _ (List.mem_of_getElem? (i := 1) (show wsX4_init[1]? = some (Cond.methodLink RX4 3 objectInit) from rfl))
  have q2 := hts _ (List.mem_of_getElem? (i := 2) (show wsX4_init[2]? = some (Cond.instanceMethod objectInit) from rfl))
  have q3 := hts _ (List.mem_of_getElem? (i := 3) (show wsX4_init[3]? = some (Cond.code objectInit ⟨#[0xb1]⟩ 1 none) from rfl))
  have q4 := hts _ (List.mem_of_getElem? (i := 4) (show wsX4_init[4]? = some (Cond.fieldLink RX4 11 "PartyWill$Reader" "due" "I") from rfl))
  have q5 := hts _ (List.mem_of_getElem? (i := 5) (show wsX4_init[5]? = some (Cond.fieldLink RX4 15 "PartyWill$Reader" "tune" "I") from rfl))
  have q6 := hts _ (List.mem_of_getElem? (i := 6) (show wsX4_init[6]? = some (Cond.fieldLink RX4 18 "PartyWill$Reader" "seer" "I") from rfl))
  have q7 := hts _ (List.mem_of_getElem? (i := 7) (show wsX4_init[7]? = some (Cond.fieldLink RX4 21 "PartyWill$Reader" "sightsBegun" "Z") from rfl))
  have iX4 : ∀ w ∈ u_ws RX4 TX4 4, w ∈ wsX4_init := fun w h => List.mem_cons_of_mem _ (List.mem_append_right _ (h))
  subst hsz
  have hD := hD0.self (sz := s.heap.size)
  generalize hAe : va_A [(a0, .inr (2, [.int 0, .int 0, .int 0, .int 0]))] s.heap.size = A at hD ⊢
  have hA : ∀ q : Nat, s.heap.size ≤ q → A q := fun q h => by rw [← hAe]; exact Or.inr h
  have hS : va_S A s.heap s.heap [] := va_S.rf
  have hP : va_P D vwCl [(a0, .inr (2, [.int 0, .int 0, .int 0, .int 0]))] s.heap := hP
  obtain ⟨ls, hl, e0⟩ := my_entry (m := m) (n := 1) ha (Nat.le_of_ble_eq_true rfl)
  rw [e0]
  have hl : lv_has ls 1 [(0, .ref a0)] := hl
  skip
  refine lv_aload_n hx hb dX4_init_0 rfl (lv_at hl 0 rfl) ?_
  refine W.objInit hx hb hown q1 q2 q3 rfl (by rw [hml]; exact hl.1) rfl dX4_init_1 (Nat.le_of_ble_eq_true rfl) (Nat.le_of_ble_eq_true rfl) ?_
  refine W.eq (g2 := F0 m 4 ls []) rfl ?_
  refine lv_aload_n hx hb dX4_init_4 rfl (lv_at hl 0 rfl) ?_
  refine lv_iconst (v := (0 : Int32)) hx hb dX4_init_5 (by decide) ?_
  refine va_put (D := D) (ci := 2) (v := .int (0 : Int32)) (ty := .int) (C := RX4) (T := TX4) (N := 4) hx hb hts iX4 tyX4 tyX4_ok nmX4 hown hK hP hD hS 0 rfl rfl 0 (by decide) q4 (fun _ h9 => h9) rfl (by decide +kernel) rfl rfl (Nat.le_of_ble_eq_true rfl) dX4_init_6 (fun H locs hP hD hS => ?_)
  have hP : va_P D vwCl [(a0, .inr (2, [.int (0 : Int32), .int 0, .int 0, .int 0]))] H := hP
  have hD : va_D A [(a0, .inr (2, [.int (0 : Int32), .int 0, .int 0, .int 0]))] := hD
  refine lv_aload_n hx hb dX4_init_9 rfl (lv_at hl 0 rfl) ?_
  refine lv_iconst (v := (0 : Int32)) hx hb dX4_init_10 (by decide) ?_
  refine va_put (D := D) (ci := 2) (v := .int (0 : Int32)) (ty := .int) (C := RX4) (T := TX4) (N := 4) hx hb hts iX4 tyX4 tyX4_ok nmX4 hown hK hP hD hS 0 rfl rfl 1 (by decide) q5 (fun _ h9 => h9) rfl (by decide +kernel) rfl rfl (Nat.le_of_ble_eq_true rfl) dX4_init_11 (fun H locs hP hD hS => ?_)
  have hP : va_P D vwCl [(a0, .inr (2, [.int (0 : Int32), .int (0 : Int32), .int 0, .int 0]))] H := hP
  have hD : va_D A [(a0, .inr (2, [.int (0 : Int32), .int (0 : Int32), .int 0, .int 0]))] := hD
  refine lv_aload_n hx hb dX4_init_14 rfl (lv_at hl 0 rfl) ?_
  refine lv_iconst (v := (0 : Int32)) hx hb dX4_init_15 (by decide) ?_
  refine va_put (D := D) (ci := 2) (v := .int (0 : Int32)) (ty := .int) (C := RX4) (T := TX4) (N := 4) hx hb hts iX4 tyX4 tyX4_ok nmX4 hown hK hP hD hS 0 rfl rfl 2 (by decide) q6 (fun _ h9 => h9) rfl (by decide +kernel) rfl rfl (Nat.le_of_ble_eq_true rfl) dX4_init_16 (fun H locs hP hD hS => ?_)
  have hP : va_P D vwCl [(a0, .inr (2, [.int (0 : Int32), .int (0 : Int32), .int (0 : Int32), .int 0]))] H := hP
  have hD : va_D A [(a0, .inr (2, [.int (0 : Int32), .int (0 : Int32), .int (0 : Int32), .int 0]))] := hD
  refine lv_aload_n hx hb dX4_init_19 rfl (lv_at hl 0 rfl) ?_
  refine lv_iconst (v := (0 : Int32)) hx hb dX4_init_20 (by decide) ?_
  refine va_put (D := D) (ci := 2) (v := .int (0 : Int32)) (ty := .boolean) (C := RX4) (T := TX4) (N := 4) hx hb hts iX4 tyX4 tyX4_ok nmX4 hown hK hP hD hS 0 rfl rfl 3 (by decide) q7 (fun _ h9 => h9) rfl (by decide +kernel) rfl rfl (Nat.le_of_ble_eq_true rfl) dX4_init_21 (fun H locs hP hD hS => ?_)
  have hP : va_P D vwCl [(a0, .inr (2, [.int (0 : Int32), .int (0 : Int32), .int (0 : Int32), .int (0 : Int32)]))] H := hP
  have hD : va_D A [(a0, .inr (2, [.int (0 : Int32), .int (0 : Int32), .int (0 : Int32), .int (0 : Int32)]))] := hD
  refine W.widen (k := 0) (n := 0) (Nat.le_of_ble_eq_true rfl) (Nat.le_of_ble_eq_true rfl) ?_
  have hP9 : va_P D vwCl [(a0, .inr (2, [.int 0, .int 0, .int 0, .int 0]))] H := my_subP (is := [0]) rfl hP
  have hD9 : va_D A [(a0, .inr (2, [.int 0, .int 0, .int 0, .int 0]))] := hD.sub [0] (by decide) rfl
  exact W.vret hx hb hr (fun t ht hW => ⟨⟨(fun k => ([a0] : List Nat).getD k 0), rfl, trivial, by show _ ∧ _; rw [ht]; exact ⟨hP9, hD9⟩⟩, hS.F ht⟩) hS.2.2 dX4_init_24
