set_option maxHeartbeats 4000000 in
set_option maxRecDepth 100000 in
theorem kX5_tellShare (l : Launch) (D : va_G) (T : Nat → ClassId) (F : Nat) (ad : Nat → Nat) (rs : Nat → Int32) (rm : Nat → Nat → Int32) (ts : Nat → Int32) (tm : Nat → Nat → Int32) (rdue : Int32) (rtun : Int32) (rsee : Int32) (rbeg : Int32) (psize : Int32) (pclause : Int32) (peff : Nat → Int32) (pkin : Nat → Int32) (pgri : Nat → Int32) (psig : Nat → Int32) (psee : Nat → Int32) (qsize : Int32) (qclause : Int32) (qeff : Nat → Int32) (qkin : Nat → Int32) (qgri : Nat → Int32) (qsig : Nat → Int32) (qsee : Nat → Int32) (cdee : Int32) (cnow : Int64) (cahe : Nat → Int64) (kdee : Nat → Int32) (know : Nat → Int64) (kahe : Nat → Nat → Int64) (fc : Nat → Int32) (lf : Int32) (told : Int32) (up : Int64) (lo : Int64) (x1 : Int64) (x3 : Int32) (zup : Int64) (zlo : Int64) (h : fX5_tellShare F up lo x1 x3 = some (zup, zlo)) : ∀ sz : Nat, Met l yX5_tellShare wsX5_tellShare ({ frames := 0, cells := 0, slots := 0, locals := 0 } : Room) (va_Pc [.ref (ad 0), .long x1, .int x3] (fun U => U.heap.size = sz ∧ va_P D vwCl (wPW T ad (ad 6) (ad 12) rs rm ts tm rdue rtun rsee rbeg psize pclause peff pkin pgri psig psee qsize qclause qeff qkin qgri qsig qsee cdee cnow cahe kdee know kahe fc lf told up lo) U.heap ∧ KK D T U ∧ va_D (fun _ => True) (wPW T ad (ad 6) (ad 12) rs rm ts tm rdue rtun rsee rbeg psize pclause peff pkin pgri psig psee qsize qclause qeff qkin qgri qsig qsee cdee cnow cahe kdee know kahe fc lf told up lo))) (va_Qv (fun _ : Unit => True) (fun _ t => va_P D vwCl (wPW T ad (ad 6) (ad 12) rs rm ts tm rdue rtun rsee rbeg psize pclause peff pkin pgri psig psee qsize qclause qeff qkin qgri qsig qsee cdee cnow cahe kdee know kahe fc lf told zup zlo) t.heap ∧ va_D (va_A (wPW T ad (ad 6) (ad 12) rs rm ts tm rdue rtun rsee rbeg psize pclause peff pkin pgri psig psee qsize qclause qeff qkin qgri qsig qsee cdee cnow cahe kdee know kahe fc lf told up lo) sz) (wPW T ad (ad 6) (ad 12) rs rm ts tm rdue rtun rsee rbeg psize pclause peff pkin pgri psig psee qsize qclause qeff qkin qgri qsig qsee cdee cnow cahe kdee know kahe fc lf told zup zlo)) (va_A (wPW T ad (ad 6) (ad 12) rs rm ts tm rdue rtun rsee rbeg psize pclause peff pkin pgri psig psee qsize qclause qeff qkin qgri qsig qsee cdee cnow cahe kdee know kahe fc lf told up lo) sz)) 0 0 (va_A (wPW T ad (ad 6) (ad 12) rs rm ts tm rdue rtun rsee rbeg psize pclause peff pkin pgri psig psee qsize qclause qeff qkin qgri qsig qsee cdee cnow cahe kdee know kahe fc lf told up lo) sz) := by
  intro sz
  refine Met.ofW (cc := cX5_tellShare) (maxL := 5) (ret := none) (by decide) rfl ?_
  intro p e s m args below meth c s₁ B hml hv
  obtain ⟨ha, hsz, hP, hKK, hD0⟩ := hv
  have hx := B.exec
  have hb := B.bytes
  have hr := B.returns
  have hts := atoms_spec (ws := wsX5_tellShare) B.pre
  have hown : s.vm.findClass RX5 = some m.cls := findClass_of_methodNamed B.named
  have hlocks := B.notSynchronized
  have hK := hKK.1
  have hFix : CallFix p m c cX5_tellShare 5 s args wsX5_tellShare RX5 := ⟨hx, hb, hml, hown, hts⟩
  have q1 := hts _ (List.mem_of_getElem? (i := 1) (show wsX5_tellShare[1]? = some (Cond.fieldLink RX5 64 "PartyWill" "toldUpper" "J") from rfl))
  have q2 := hts _ (List.mem_of_getElem? (i := 2) (show wsX5_tellShare[2]? = some (Cond.fieldLink RX5 68 "PartyWill" "toldLower" "J") from rfl))
  have q3 := hts _ (List.mem_of_getElem? (i := 3) (show wsX5_tellShare[3]? = some (Cond.constantLong RX5 316 (2)) from rfl))
  have iX5 : ∀ w ∈ u_ws RX5 TX5 14, w ∈ wsX5_tellShare := fun w h => List.mem_cons_of_mem _ (List.mem_append_right _ (h))
  subst hsz
  have hD := hD0.self (sz := s.heap.size)
  generalize hAe : va_A (wPW T ad (ad 6) (ad 12) rs rm ts tm rdue rtun rsee rbeg psize pclause peff pkin pgri psig psee qsize qclause qeff qkin qgri qsig qsee cdee cnow cahe kdee know kahe fc lf told up lo) s.heap.size = A at hD ⊢
  have hA : ∀ q : Nat, s.heap.size ≤ q → A q := fun q h => by rw [← hAe]; exact Or.inr h
  have hS : va_S A s.heap s.heap [] := va_S.rf
  have hP : va_P D vwCl (wPW T ad (ad 6) (ad 12) rs rm ts tm rdue rtun rsee rbeg psize pclause peff pkin pgri psig psee qsize qclause qeff qkin qgri qsig qsee cdee cnow cahe kdee know kahe fc lf told up lo) s.heap := hP
  obtain ⟨ls, hl, e0⟩ := my_entry (m := m) (n := 5) ha (Nat.le_of_ble_eq_true rfl)
  rw [e0]
  have hl : lv_has ls 5 [(0, .ref (ad 0)), (1, .long x1), (3, .int x3)] := hl
  have key : ∀ Q : State → Prop, (∀ (H : Heap) (locs : List Loc) (pc : Nat) (ls : Array Slot), va_P D vwCl (wPW T ad (ad 6) (ad 12) rs rm ts tm rdue rtun rsee rbeg psize pclause peff pkin pgri psig psee qsize qclause qeff qkin qgri qsig qsee cdee cnow cahe kdee know kahe fc lf told zup zlo) H → va_D A (wPW T ad (ad 6) (ad 12) rs rm ts tm rdue rtun rsee rbeg psize pclause peff pkin pgri psig psee qsize qclause qeff qkin qgri qsig qsee cdee cnow cahe kdee know kahe fc lf told zup zlo) → va_S A s.heap H locs → decode cX5_tellShare pc = .ok (.return_, 1) → W p l e ({ frames := 0, cells := 0, slots := 0, locals := 0 } : Room) s m args below meth c H locs 0 0 Q (F0 m pc ls [])) → W p l e ({ frames := 0, cells := 0, slots := 0, locals := 0 } : Room) s m args below meth c s.heap [] 0 0 Q (F0 m 0 ls []) := by
    intro Q hret
    skip
    have l17 : ∀ x3 : Int32, ∀ nu : Nat, ∀ x4 : Int32, ∀ up : Int64, ∀ lo : Int64, fX5_tellShare_l17 F x3 nu x4 up lo = some (zup, zlo) → ∀ (H : Heap) (locs : List Loc), va_P D vwCl (wPW T ad (ad 6) (ad 12) rs rm ts tm rdue rtun rsee rbeg psize pclause peff pkin pgri psig psee qsize qclause qeff qkin qgri qsig qsee cdee cnow cahe kdee know kahe fc lf told up lo) H → va_D A (wPW T ad (ad 6) (ad 12) rs rm ts tm rdue rtun rsee rbeg psize pclause peff pkin pgri psig psee qsize qclause qeff qkin qgri qsig qsee cdee cnow cahe kdee know kahe fc lf told up lo) → va_S A s.heap H locs → ∀ (ls : Array Slot), lv_has ls 5 [(0, .ref (ad 0)), (3, .int x3), (4, .int x4)] → W p l e ({ frames := 0, cells := 0, slots := 0, locals := 0 } : Room) s m args below meth c H locs 0 0 Q (F0 m 17 ls []) := by
      intro x3
      intro nu
      induction nu with
      | zero => intro x4 up lo h; exact none_some h
      | succ nu17 ih17 =>
        intro x4 up lo h H locs hP hD hS ls hl
        have h : fX5_tellShare_l17_b F x3 (fX5_tellShare_l17 F x3 nu17) x4 up lo = some (zup, zlo) := h
        unfold fX5_tellShare_l17_b at h
        refine lv_iload hx hb dX5_tellShare_17 (lv_at hl 2 rfl) ?_
        refine lv_iconst (v := (2 : Int32)) hx hb dX5_tellShare_19 (by decide) ?_
        refine lv_iload_n hx hb dX5_tellShare_20 rfl (lv_at hl 1 rfl) ?_
        refine lv_imul hx hb dX5_tellShare_21 ?_
        refine lv_icmp_ge (tgt := 68) hx hb dX5_tellShare_22 (by decide) (fun c22 => ?_) (fun c22 => ?_)
        · have h := br_1 h c22
          cases h
          exact hret _ _ _ _ hP hD hS dX5_tellShare_68
        · have h := br_0 h c22
          refine lv_aload_n hx hb dX5_tellShare_25 rfl (lv_at hl 0 rfl) ?_
          refine va_get (D := D) (ci := 3) (C := RX5) (T := TX5) (N := 14) hx hb hts iX5 hown hK hP 0 wPW_0 rfl 12 (by decide) q1 (fun _ h9 => h9) rfl dX5_tellShare_26 ?_
          refine lv_ldc2 (v := (2 : Int64)) hx hb hown q3 dX5_tellShare_29 ?_
          refine lv_lrem hx hb dX5_tellShare_32 (by decide) ?_
          refine lv_lconst (v := (0 : Int64)) hx hb dX5_tellShare_33 (by decide) ?_
          refine W.lcmp hx hb dX5_tellShare_34 ?_
          refine lv_if_ne (tgt := 68) hx hb dX5_tellShare_35 (by decide) (fun c35 => ?_) (fun c35 => ?_)
          · have h := br_0 h c35
            cases h
            exact hret _ _ _ _ hP hD hS dX5_tellShare_68
          · have h := br_1 h c35
            refine lv_aload_n hx hb dX5_tellShare_38 rfl (lv_at hl 0 rfl) ?_
            refine lv_dup hx hb dX5_tellShare_39 rfl ?_
            refine va_get (D := D) (ci := 3) (C := RX5) (T := TX5) (N := 14) hx hb hts iX5 hown hK hP 0 wPW_0 rfl 12 (by decide) q1 (fun _ h9 => h9) rfl dX5_tellShare_40 ?_
            refine lv_ldc2 (v := (2 : Int64)) hx hb hown q3 dX5_tellShare_43 ?_
            refine lv_ldiv hx hb dX5_tellShare_46 (by decide) ?_
            refine va_put (D := D) (ci := 3) (v := .long (up / (2 : Int64))) (ty := .long) (C := RX5) (T := TX5) (N := 14) hx hb hts iX5 tyX5 tyX5_ok nmX5 hown hK hP hD hS 0 wPW_0 rfl 12 (by decide) q1 (fun _ h9 => h9) rfl (by decide +kernel) rfl rfl (Nat.le_of_ble_eq_true rfl) dX5_tellShare_47 (fun H locs hP hD hS => ?_)
            have hP : va_P D vwCl (wPW T ad (ad 6) (ad 12) rs rm ts tm rdue rtun rsee rbeg psize pclause peff pkin pgri psig psee qsize qclause qeff qkin qgri qsig qsee cdee cnow cahe kdee know kahe fc lf told (up / (2 : Int64)) lo) H := hP
            have hD : va_D A (wPW T ad (ad 6) (ad 12) rs rm ts tm rdue rtun rsee rbeg psize pclause peff pkin pgri psig psee qsize qclause qeff qkin qgri qsig qsee cdee cnow cahe kdee know kahe fc lf told (up / (2 : Int64)) lo) := hD
            refine lv_aload_n hx hb dX5_tellShare_50 rfl (lv_at hl 0 rfl) ?_
            refine lv_dup hx hb dX5_tellShare_51 rfl ?_
            refine va_get (D := D) (ci := 3) (C := RX5) (T := TX5) (N := 14) hx hb hts iX5 hown hK hP 0 wPW_0 rfl 13 (by decide) q2 (fun _ h9 => h9) rfl dX5_tellShare_52 ?_
            refine lv_ldc2 (v := (2 : Int64)) hx hb hown q3 dX5_tellShare_55 ?_
            refine lv_ldiv hx hb dX5_tellShare_58 (by decide) ?_
            refine va_put (D := D) (ci := 3) (v := .long (lo / (2 : Int64))) (ty := .long) (C := RX5) (T := TX5) (N := 14) hx hb hts iX5 tyX5 tyX5_ok nmX5 hown hK hP hD hS 0 wPW_0 rfl 13 (by decide) q2 (fun _ h9 => h9) rfl (by decide +kernel) rfl rfl (Nat.le_of_ble_eq_true rfl) dX5_tellShare_59 (fun H locs hP hD hS => ?_)
            have hP : va_P D vwCl (wPW T ad (ad 6) (ad 12) rs rm ts tm rdue rtun rsee rbeg psize pclause peff pkin pgri psig psee qsize qclause qeff qkin qgri qsig qsee cdee cnow cahe kdee know kahe fc lf told (up / (2 : Int64)) (lo / (2 : Int64))) H := hP
            have hD : va_D A (wPW T ad (ad 6) (ad 12) rs rm ts tm rdue rtun rsee rbeg psize pclause peff pkin pgri psig psee qsize qclause qeff qkin qgri qsig qsee cdee cnow cahe kdee know kahe fc lf told (up / (2 : Int64)) (lo / (2 : Int64))) := hD
            refine lv_iinc (v := (x4 + (1 : Int32))) (lv' := [(4, .int (x4 + (1 : Int32))), (0, .ref (ad 0)), (3, .int x3)]) hx hb dX5_tellShare_62 hl (k := 2) rfl rfl (by decide) rfl (fun ls hl => ?_)
            refine lv_goto (tgt := 17) hx hb dX5_tellShare_65 (by decide) ?_
            exact ih17 (x4 + (1 : Int32)) (up / (2 : Int64)) (lo / (2 : Int64)) h _ _ hP hD hS _ (lv_sub hl [1, 2, 0] rfl)
    unfold fX5_tellShare at h
    refine lv_aload_n hx hb dX5_tellShare_0 rfl (lv_at hl 0 rfl) ?_
    refine lv_lload_n hx hb dX5_tellShare_1 rfl (lv_at hl 1 rfl) ?_
    refine va_put (D := D) (ci := 3) (v := .long x1) (ty := .long) (C := RX5) (T := TX5) (N := 14) hx hb hts iX5 tyX5 tyX5_ok nmX5 hown hK hP hD hS 0 wPW_0 rfl 12 (by decide) q1 (fun _ h9 => h9) rfl (by decide +kernel) rfl rfl (Nat.le_of_ble_eq_true rfl) dX5_tellShare_2 (fun H locs hP hD hS => ?_)
    have hP : va_P D vwCl (wPW T ad (ad 6) (ad 12) rs rm ts tm rdue rtun rsee rbeg psize pclause peff pkin pgri psig psee qsize qclause qeff qkin qgri qsig qsee cdee cnow cahe kdee know kahe fc lf told x1 lo) H := hP
    have hD : va_D A (wPW T ad (ad 6) (ad 12) rs rm ts tm rdue rtun rsee rbeg psize pclause peff pkin pgri psig psee qsize qclause qeff qkin qgri qsig qsee cdee cnow cahe kdee know kahe fc lf told x1 lo) := hD
    refine lv_aload_n hx hb dX5_tellShare_5 rfl (lv_at hl 0 rfl) ?_
    refine lv_lconst (v := (1 : Int64)) hx hb dX5_tellShare_6 (by decide) ?_
    refine lv_iconst (v := (2 : Int32)) hx hb dX5_tellShare_7 (by decide) ?_
    refine lv_iload_n hx hb dX5_tellShare_8 rfl (lv_at hl 2 rfl) ?_
    refine lv_imul hx hb dX5_tellShare_9 ?_
    refine lv_lshl (v := ((1 : Int64) <<< (((2 : Int32) * x3).toInt64 &&& 63))) hx hb dX5_tellShare_10 rfl ?_
    refine va_put (D := D) (ci := 3) (v := .long ((1 : Int64) <<< (((2 : Int32) * x3).toInt64 &&& 63))) (ty := .long) (C := RX5) (T := TX5) (N := 14) hx hb hts iX5 tyX5 tyX5_ok nmX5 hown hK hP hD hS 0 wPW_0 rfl 13 (by decide) q2 (fun _ h9 => h9) rfl (by decide +kernel) rfl rfl (Nat.le_of_ble_eq_true rfl) dX5_tellShare_11 (fun H locs hP hD hS => ?_)
    have hP : va_P D vwCl (wPW T ad (ad 6) (ad 12) rs rm ts tm rdue rtun rsee rbeg psize pclause peff pkin pgri psig psee qsize qclause qeff qkin qgri qsig qsee cdee cnow cahe kdee know kahe fc lf told x1 ((1 : Int64) <<< (((2 : Int32) * x3).toInt64 &&& 63))) H := hP
    have hD : va_D A (wPW T ad (ad 6) (ad 12) rs rm ts tm rdue rtun rsee rbeg psize pclause peff pkin pgri psig psee qsize qclause qeff qkin qgri qsig qsee cdee cnow cahe kdee know kahe fc lf told x1 ((1 : Int64) <<< (((2 : Int32) * x3).toInt64 &&& 63))) := hD
    refine lv_iconst (v := (0 : Int32)) hx hb dX5_tellShare_14 (by decide) ?_
    refine lv_istore (lv' := [(4, .int (0 : Int32)), (0, .ref (ad 0)), (1, .long x1), (3, .int x3)]) hx hb dX5_tellShare_15 hl (by decide) rfl (fun ls hl => ?_)
    exact l17 x3 F (0 : Int32) x1 ((1 : Int64) <<< (((2 : Int32) * x3).toInt64 &&& 63)) h _ _ hP hD hS _ (lv_sub hl [1, 3, 0] rfl)
  exact key _ (fun H locs pc ls hP hD hS hd => W.vret hx hb hr (fun t ht hW => ⟨⟨(), rfl, trivial, by show _ ∧ _; rw [ht]; exact ⟨hP, hD⟩⟩, hS.F ht⟩) hS.2.2 hd)
set_option maxHeartbeats 4000000 in
set_option maxRecDepth 100000 in
theorem kX5_odds (l : Launch) (D : va_G) (T : Nat → ClassId) (F : Nat) (ad : Nat → Nat) (rs : Nat → Int32) (rm : Nat → Nat → Int32) (ts : Nat → Int32) (tm : Nat → Nat → Int32) (rdue : Int32) (rtun : Int32) (rsee : Int32) (rbeg : Int32) (psize : Int32) (pclause : Int32) (peff : Nat → Int32) (pkin : Nat → Int32) (pgri : Nat → Int32) (psig : Nat → Int32) (psee : Nat → Int32) (qsize : Int32) (qclause : Int32) (qeff : Nat → Int32) (qkin : Nat → Int32) (qgri : Nat → Int32) (qsig : Nat → Int32) (qsee : Nat → Int32) (cdee : Int32) (cnow : Int64) (cahe : Nat → Int64) (kdee : Nat → Int32) (know : Nat → Int64) (kahe : Nat → Nat → Int64) (fc : Nat → Int32) (lf : Int32) (told : Int32) (up : Int64) (lo : Int64) (x1 : Int32) (r : Int32) (zup : Int64) (zlo : Int64) (h : fX5_odds F psize pclause peff pkin psee cnow up lo x1 = some (r, zup, zlo)) : ∀ sz : Nat, Met l yX5_odds wsX5_odds ({ frames := 31, cells := 0, slots := 0, locals := 926 } : Room) (va_Pc [.ref (ad 0), .int x1] (fun U => U.heap.size = sz ∧ va_P D vwCl (wPW T ad (ad 6) (ad 12) rs rm ts tm rdue rtun rsee rbeg psize pclause peff pkin pgri psig psee qsize qclause qeff qkin qgri qsig qsee cdee cnow cahe kdee know kahe fc lf told up lo) U.heap ∧ KK D T U ∧ va_D (fun _ => True) (wPW T ad (ad 6) (ad 12) rs rm ts tm rdue rtun rsee rbeg psize pclause peff pkin pgri psig psee qsize qclause qeff qkin qgri qsig qsee cdee cnow cahe kdee know kahe fc lf told up lo))) (va_Qi (fun r' (_ : Unit) => r' = r) (fun _ t => va_P D vwCl (wPW T ad (ad 6) (ad 12) rs rm ts tm rdue rtun rsee rbeg psize pclause peff pkin pgri psig psee qsize qclause qeff qkin qgri qsig qsee cdee cnow cahe kdee know kahe fc lf told zup zlo) t.heap ∧ va_D (va_A (wPW T ad (ad 6) (ad 12) rs rm ts tm rdue rtun rsee rbeg psize pclause peff pkin pgri psig psee qsize qclause qeff qkin qgri qsig qsee cdee cnow cahe kdee know kahe fc lf told up lo) sz) (wPW T ad (ad 6) (ad 12) rs rm ts tm rdue rtun rsee rbeg psize pclause peff pkin pgri psig psee qsize qclause qeff qkin qgri qsig qsee cdee cnow cahe kdee know kahe fc lf told zup zlo)) (va_A (wPW T ad (ad 6) (ad 12) rs rm ts tm rdue rtun rsee rbeg psize pclause peff pkin pgri psig psee qsize qclause qeff qkin qgri qsig qsee cdee cnow cahe kdee know kahe fc lf told up lo) sz)) 0 0 (va_A (wPW T ad (ad 6) (ad 12) rs rm ts tm rdue rtun rsee rbeg psize pclause peff pkin pgri psig psee qsize qclause qeff qkin qgri qsig qsee cdee cnow cahe kdee know kahe fc lf told up lo) sz) := by
  intro sz
  refine Met.ofW (cc := cX5_odds) (maxL := 3) (ret := some .int) (by decide) rfl ?_
  intro p e s m args below meth c s₁ B hml hv
  obtain ⟨ha, hsz, hP, hKK, hD0⟩ := hv
  have hx := B.exec
  have hb := B.bytes
  have hr := B.returns
  have hts := atoms_spec (ws := wsX5_odds) B.pre
  have hown : s.vm.findClass RX5 = some m.cls := findClass_of_methodNamed B.named
  have hlocks := B.notSynchronized
  have hK := hKK.1
  have hFix : CallFix p m c cX5_odds 3 s args wsX5_odds RX5 := ⟨hx, hb, hml, hown, hts⟩
  have q1 := hts _ (List.mem_of_getElem? (i := 1) (show wsX5_odds[1]? = some (Cond.fieldLink RX5 36 "PartyWill" "party" "LPartyWill$Party;") from rfl))
  have q2 := hts _ (List.mem_of_getElem? (i := 2) (show wsX5_odds[2]? = some (Cond.fieldLink RX5 46 "PartyWill" "course" "LPartyWill$Course;") from rfl))
  have q8 := hts _ (List.mem_of_getElem? (i := 8) (show wsX5_odds[8]? = some (Cond.static yX3_staying) from rfl))
  have q9 := hts _ (List.mem_of_getElem? (i := 9) (show wsX5_odds[9]? = some (Cond.initialized RX3) from rfl))
  have iX0 : ∀ w ∈ u_ws RX0 TX0 3, w ∈ wsX5_odds := fun w h => List.mem_cons_of_mem _ (List.mem_append_left _ (List.mem_append_right _ (h)))
  have iX5 : ∀ w ∈ u_ws RX5 TX5 14, w ∈ wsX5_odds := fun w h => List.mem_cons_of_mem _ (List.mem_append_left _ (List.mem_append_left _ (List.mem_append_right _ (h))))
  subst hsz
  have hD := hD0.self (sz := s.heap.size)
  generalize hAe : va_A (wPW T ad (ad 6) (ad 12) rs rm ts tm rdue rtun rsee rbeg psize pclause peff pkin pgri psig psee qsize qclause qeff qkin qgri qsig qsee cdee cnow cahe kdee know kahe fc lf told up lo) s.heap.size = A at hD ⊢
  have hA : ∀ q : Nat, s.heap.size ≤ q → A q := fun q h => by rw [← hAe]; exact Or.inr h
  have hS : va_S A s.heap s.heap [] := va_S.rf
  have hP : va_P D vwCl (wPW T ad (ad 6) (ad 12) rs rm ts tm rdue rtun rsee rbeg psize pclause peff pkin pgri psig psee qsize qclause qeff qkin qgri qsig qsee cdee cnow cahe kdee know kahe fc lf told up lo) s.heap := hP
  obtain ⟨ls, hl, e0⟩ := my_entry (m := m) (n := 3) ha (Nat.le_of_ble_eq_true rfl)
  rw [e0]
  have hl : lv_has ls 3 [(0, .ref (ad 0)), (1, .int x1)] := hl
  have key : ∀ Q : State → Prop, (∀ (H : Heap) (locs : List Loc) (pc : Nat) (ls : Array Slot), va_P D vwCl (wPW T ad (ad 6) (ad 12) rs rm ts tm rdue rtun rsee rbeg psize pclause peff pkin pgri psig psee qsize qclause qeff qkin qgri qsig qsee cdee cnow cahe kdee know kahe fc lf told zup zlo) H → va_D A (wPW T ad (ad 6) (ad 12) rs rm ts tm rdue rtun rsee rbeg psize pclause peff pkin pgri psig psee qsize qclause qeff qkin qgri qsig qsee cdee cnow cahe kdee know kahe fc lf told zup zlo) → va_S A s.heap H locs → decode cX5_odds pc = .ok (.ireturn, 1) → W p l e ({ frames := 31, cells := 0, slots := 0, locals := 926 } : Room) s m args below meth c H locs 0 0 Q (F0 m pc ls [.int r])) → W p l e ({ frames := 31, cells := 0, slots := 0, locals := 926 } : Room) s m args below meth c s.heap [] 0 0 Q (F0 m 0 ls []) := by
    intro Q hret
    skip
    unfold fX5_odds at h
    refine lv_aload_n hx hb dX5_odds_0 rfl (lv_at hl 0 rfl) ?_
    refine lv_iload_n hx hb dX5_odds_1 rfl (lv_at hl 1 rfl) ?_
    obtain ⟨r2, hc, h⟩ := bd1_some h
    refine my_roi (va_Run.run (va_runV (As := [.int x1]) (rest := []) hFix (kX5_searchRefusal l D T F ad rs rm ts tm rdue rtun rsee rbeg psize pclause peff pkin pgri psig psee qsize qclause qeff qkin qgri qsig qsee cdee cnow cahe kdee know kahe fc lf told up lo x1 r2 hc) (cwV 1 hts gX5_odds_X5_searchRefusal rfl rfl rfl ⟨rfl, hd_X5_searchRefusal⟩ ⟨Nat.le_of_ble_eq_true rfl, Nat.le_of_ble_eq_true rfl⟩) (preV_ro hP hKK (va_recv hK hP (ci := 3) (q0 := 0) rfl wPW_0)) rfl rfl hl.1 rfl (lv_room (Nat.le_of_ble_eq_true rfl)) dX5_odds_2 ⟨Nat.zero_le _, Nat.zero_le _⟩)) ?_
    refine lv_istore_n (lv' := [(2, .int r2), (0, .ref (ad 0)), (1, .int x1)]) hx hb dX5_odds_5 rfl hl (by decide) rfl (fun ls hl => ?_)
    refine lv_iload_n hx hb dX5_odds_6 rfl (lv_at hl 0 rfl) ?_
    refine lv_if_eq (tgt := 12) hx hb dX5_odds_7 (by decide) (fun c7 => ?_) (fun c7 => ?_)
    · have h := br_1 h c7
      refine lv_aload_n hx hb dX5_odds_12 rfl (lv_at hl 1 rfl) ?_
      refine lv_aload_n hx hb dX5_odds_13 rfl (lv_at hl 1 rfl) ?_
      refine va_get (D := D) (ci := 3) (C := RX5) (T := TX5) (N := 14) hx hb hts iX5 hown hK hP 0 wPW_0 rfl 5 (by decide) q1 (fun _ h9 => h9) rfl dX5_odds_14 ?_
      refine lv_aload_n hx hb dX5_odds_17 rfl (lv_at hl 1 rfl) ?_
      refine va_get (D := D) (ci := 3) (C := RX5) (T := TX5) (N := 14) hx hb hts iX5 hown hK hP 0 wPW_0 rfl 7 (by decide) q2 (fun _ h9 => h9) rfl dX5_odds_18 ?_
      refine va_getN (host := "PartyWill") (D := D) (ci := 0) (C := RX0) (T := TX0) (N := 3) hx hb hts iX0 hown hK hP 18 wPW_18 rfl 1 (by decide) (va_Nw.use rfl (nw_X5_127 hKK.2)) (fun _ h9 => h9) rfl dX5_odds_21 ?_
      refine lv_iload_n hx hb dX5_odds_24 rfl (lv_at hl 2 rfl) ?_
      obtain ⟨r25, hc, h⟩ := bd1_some h
      have hPc : va_P D vwCl (wPa T (ad 6) (ad 7) (ad 8) (ad 9) (ad 10) (ad 11) psize pclause peff pkin pgri psig psee) _ := my_subP sb_wPW_wPa_6to11 hP
      refine my_rol (va_Run.run (va_runSN (host := "PartyWill") (As := [.ref (ad 6), .long cnow, .int x1]) (rest := [.ref (ad 0)]) hFix (kX3_staying l D T F 8 (ad 6) (ad 7) (ad 8) (ad 9) (ad 10) (ad 11) psize pclause peff pkin pgri psig psee cnow x1 r25 hc) ⟨va_cnB 3 hts gX5_odds_X3_staying_n260 rfl rfl rfl (nw_X5_260 hKK.2) q9 hd_X3_staying ⟨Nat.le_of_ble_eq_true rfl, Nat.le_of_ble_eq_true rfl⟩, q8, trivial⟩ (preS_ro hPc hKK) rfl rfl hl.1 rfl (lv_room (Nat.le_of_ble_eq_true rfl)) dX5_odds_25 ⟨Nat.zero_le _, Nat.zero_le _⟩)) ?_
      refine lv_iload_n hx hb dX5_odds_28 rfl (lv_at hl 2 rfl) ?_
      obtain ⟨w29_up, w29_lo, hc, h⟩ := bd2_some h
      have hFc := my_freeS hD hS hA
      refine my_rwv (va_runV (As := [.long r25, .int x1]) (rest := []) hFix (kX5_tellShare l D T F ad rs rm ts tm rdue rtun rsee rbeg psize pclause peff pkin pgri psig psee qsize qclause qeff qkin qgri qsig qsee cdee cnow cahe kdee know kahe fc lf told up lo r25 x1 w29_up w29_lo hc _) (cwV 2 hts gX5_odds_X5_tellShare rfl rfl rfl ⟨rfl, hd_X5_tellShare⟩ ⟨Nat.le_of_ble_eq_true rfl, Nat.le_of_ble_eq_true rfl⟩) (preV_rw hP hKK hD (va_recv hK hP (ci := 3) (q0 := 0) rfl wPW_0)) rfl rfl hl.1 rfl (lv_room (Nat.le_of_ble_eq_true rfl)) dX5_odds_29 ⟨Nat.zero_le _, Nat.zero_le _⟩) hS hFc (fun H1 locs hP1 hD1 hz1 hkk hS => ?_)
      have hP : va_P D vwCl (wPW T ad (ad 6) (ad 12) rs rm ts tm rdue rtun rsee rbeg psize pclause peff pkin pgri psig psee qsize qclause qeff qkin qgri qsig qsee cdee cnow cahe kdee know kahe fc lf told w29_up w29_lo) H1 := hP1
      have hD : va_D A (wPW T ad (ad 6) (ad 12) rs rm ts tm rdue rtun rsee rbeg psize pclause peff pkin pgri psig psee qsize qclause qeff qkin qgri qsig qsee cdee cnow cahe kdee know kahe fc lf told w29_up w29_lo) := hD1.weaken (fun _ q _ h => hFc q.1 h)
      generalize H1 = H at hP hS ⊢
      refine lv_iconst (v := (1 : Int32)) hx hb dX5_odds_32 (by decide) ?_
      cases h
      exact hret _ _ _ _ hP hD hS dX5_odds_33
    · have h := br_0 h c7
      refine lv_iload_n hx hb dX5_odds_10 rfl (lv_at hl 0 rfl) ?_
      cases h
      exact hret _ _ _ _ hP hD hS dX5_odds_11
  exact key _ (fun H locs pc ls hP hD hS hd => W.iret hx hb hr (fun t ht hW => ⟨⟨_, (), rfl, rfl, by show _ ∧ _; rw [ht]; exact ⟨hP, hD⟩⟩, hS.F ht⟩) hS.2.2 hd)
set_option maxHeartbeats 4000000 in
set_option maxRecDepth 100000 in
theorem kX5_mid (l : Launch) (D : va_G) (T : Nat → ClassId) (F : Nat) (ad : Nat → Nat) (rs : Nat → Int32) (rm : Nat → Nat → Int32) (ts : Nat → Int32) (tm : Nat → Nat → Int32) (rdue : Int32) (rtun : Int32) (rsee : Int32) (rbeg : Int32) (psize : Int32) (pclause : Int32) (peff : Nat → Int32) (pkin : Nat → Int32) (pgri : Nat → Int32) (psig : Nat → Int32) (psee : Nat → Int32) (qsize : Int32) (qclause : Int32) (qeff : Nat → Int32) (qkin : Nat → Int32) (qgri : Nat → Int32) (qsig : Nat → Int32) (qsee : Nat → Int32) (cdee : Int32) (cnow : Int64) (cahe : Nat → Int64) (kdee : Nat → Int32) (know : Nat → Int64) (kahe : Nat → Nat → Int64) (fc : Nat → Int32) (lf : Int32) (told : Int32) (up : Int64) (lo : Int64) (x1 : Int32) (r : Int32) (zup : Int64) (zlo : Int64) (h : fX5_mid F psize pclause peff pkin psee cnow up lo x1 = some (r, zup, zlo)) : ∀ sz : Nat, Met l yX5_mid wsX5_mid ({ frames := 31, cells := 0, slots := 0, locals := 926 } : Room) (va_Pc [.ref (ad 0), .int x1] (fun U => U.heap.size = sz ∧ va_P D vwCl (wPW T ad (ad 6) (ad 12) rs rm ts tm rdue rtun rsee rbeg psize pclause peff pkin pgri psig psee qsize qclause qeff qkin qgri qsig qsee cdee cnow cahe kdee know kahe fc lf told up lo) U.heap ∧ KK D T U ∧ va_D (fun _ => True) (wPW T ad (ad 6) (ad 12) rs rm ts tm rdue rtun rsee rbeg psize pclause peff pkin pgri psig psee qsize qclause qeff qkin qgri qsig qsee cdee cnow cahe kdee know kahe fc lf told up lo))) (va_Qi (fun r' (_ : Unit) => r' = r) (fun _ t => va_P D vwCl (wPW T ad (ad 6) (ad 12) rs rm ts tm rdue rtun rsee rbeg psize pclause peff pkin pgri psig psee qsize qclause qeff qkin qgri qsig qsee cdee cnow cahe kdee know kahe fc lf told zup zlo) t.heap ∧ va_D (va_A (wPW T ad (ad 6) (ad 12) rs rm ts tm rdue rtun rsee rbeg psize pclause peff pkin pgri psig psee qsize qclause qeff qkin qgri qsig qsee cdee cnow cahe kdee know kahe fc lf told up lo) sz) (wPW T ad (ad 6) (ad 12) rs rm ts tm rdue rtun rsee rbeg psize pclause peff pkin pgri psig psee qsize qclause qeff qkin qgri qsig qsee cdee cnow cahe kdee know kahe fc lf told zup zlo)) (va_A (wPW T ad (ad 6) (ad 12) rs rm ts tm rdue rtun rsee rbeg psize pclause peff pkin pgri psig psee qsize qclause qeff qkin qgri qsig qsee cdee cnow cahe kdee know kahe fc lf told up lo) sz)) 0 0 (va_A (wPW T ad (ad 6) (ad 12) rs rm ts tm rdue rtun rsee rbeg psize pclause peff pkin pgri psig psee qsize qclause qeff qkin qgri qsig qsee cdee cnow cahe kdee know kahe fc lf told up lo) sz) := by
  intro sz
  refine Met.ofW (cc := cX5_mid) (maxL := 5) (ret := some .int) (by decide) rfl ?_
  intro p e s m args below meth c s₁ B hml hv
  obtain ⟨ha, hsz, hP, hKK, hD0⟩ := hv
  have hx := B.exec
  have hb := B.bytes
  have hr := B.returns
  have hts := atoms_spec (ws := wsX5_mid) B.pre
  have hown : s.vm.findClass RX5 = some m.cls := findClass_of_methodNamed B.named
  have hlocks := B.notSynchronized
  have hK := hKK.1
  have hFix : CallFix p m c cX5_mid 5 s args wsX5_mid RX5 := ⟨hx, hb, hml, hown, hts⟩
  have q1 := hts _ (List.mem_of_getElem? (i := 1) (show wsX5_mid[1]? = some (Cond.fieldLink RX5 46 "PartyWill" "course" "LPartyWill$Course;") from rfl))
  have q2 := hts _ (List.mem_of_getElem? (i := 2) (show wsX5_mid[2]? = some (Cond.fieldLink RX5 36 "PartyWill" "party" "LPartyWill$Party;") from rfl))
  have q8 := hts _ (List.mem_of_getElem? (i := 8) (show wsX5_mid[8]? = some (Cond.static yX1_howManyIn) from rfl))
  have q9 := hts _ (List.mem_of_getElem? (i := 9) (show wsX5_mid[9]? = some (Cond.initialized RX1) from rfl))
  have q21 := hts _ (List.mem_of_getElem? (i := 21) (show wsX5_mid[21]? = some (Cond.static yX3_leftByAll) from rfl))
  have q22 := hts _ (List.mem_of_getElem? (i := 22) (show wsX5_mid[22]? = some (Cond.initialized RX3) from rfl))
  have iX0 : ∀ w ∈ u_ws RX0 TX0 3, w ∈ wsX5_mid := fun w h => List.mem_cons_of_mem _ (List.mem_append_left _ (List.mem_append_right _ (h)))
  have iX5 : ∀ w ∈ u_ws RX5 TX5 14, w ∈ wsX5_mid := fun w h => List.mem_cons_of_mem _ (List.mem_append_left _ (List.mem_append_left _ (List.mem_append_right _ (h))))
  subst hsz
  have hD := hD0.self (sz := s.heap.size)
  generalize hAe : va_A (wPW T ad (ad 6) (ad 12) rs rm ts tm rdue rtun rsee rbeg psize pclause peff pkin pgri psig psee qsize qclause qeff qkin qgri qsig qsee cdee cnow cahe kdee know kahe fc lf told up lo) s.heap.size = A at hD ⊢
  have hA : ∀ q : Nat, s.heap.size ≤ q → A q := fun q h => by rw [← hAe]; exact Or.inr h
  have hS : va_S A s.heap s.heap [] := va_S.rf
  have hP : va_P D vwCl (wPW T ad (ad 6) (ad 12) rs rm ts tm rdue rtun rsee rbeg psize pclause peff pkin pgri psig psee qsize qclause qeff qkin qgri qsig qsee cdee cnow cahe kdee know kahe fc lf told up lo) s.heap := hP
  obtain ⟨ls, hl, e0⟩ := my_entry (m := m) (n := 5) ha (Nat.le_of_ble_eq_true rfl)
  rw [e0]
  have hl : lv_has ls 5 [(0, .ref (ad 0)), (1, .int x1)] := hl
  have key : ∀ Q : State → Prop, (∀ (H : Heap) (locs : List Loc) (pc : Nat) (ls : Array Slot), va_P D vwCl (wPW T ad (ad 6) (ad 12) rs rm ts tm rdue rtun rsee rbeg psize pclause peff pkin pgri psig psee qsize qclause qeff qkin qgri qsig qsee cdee cnow cahe kdee know kahe fc lf told zup zlo) H → va_D A (wPW T ad (ad 6) (ad 12) rs rm ts tm rdue rtun rsee rbeg psize pclause peff pkin pgri psig psee qsize qclause qeff qkin qgri qsig qsee cdee cnow cahe kdee know kahe fc lf told zup zlo) → va_S A s.heap H locs → decode cX5_mid pc = .ok (.ireturn, 1) → W p l e ({ frames := 31, cells := 0, slots := 0, locals := 926 } : Room) s m args below meth c H locs 0 0 Q (F0 m pc ls [.int r])) → W p l e ({ frames := 31, cells := 0, slots := 0, locals := 926 } : Room) s m args below meth c s.heap [] 0 0 Q (F0 m 0 ls []) := by
    intro Q hret
    skip
    unfold fX5_mid at h
    refine lv_aload_n hx hb dX5_mid_0 rfl (lv_at hl 0 rfl) ?_
    refine lv_iload_n hx hb dX5_mid_1 rfl (lv_at hl 1 rfl) ?_
    obtain ⟨r2, hc, h⟩ := bd1_some h
    refine my_roi (va_Run.run (va_runV (As := [.int x1]) (rest := []) hFix (kX5_searchRefusal l D T F ad rs rm ts tm rdue rtun rsee rbeg psize pclause peff pkin pgri psig psee qsize qclause qeff qkin qgri qsig qsee cdee cnow cahe kdee know kahe fc lf told up lo x1 r2 hc) (cwV 1 hts gX5_mid_X5_searchRefusal rfl rfl rfl ⟨rfl, hd_X5_searchRefusal⟩ ⟨Nat.le_of_ble_eq_true rfl, Nat.le_of_ble_eq_true rfl⟩) (preV_ro hP hKK (va_recv hK hP (ci := 3) (q0 := 0) rfl wPW_0)) rfl rfl hl.1 rfl (lv_room (Nat.le_of_ble_eq_true rfl)) dX5_mid_2 ⟨Nat.zero_le _, Nat.zero_le _⟩)) ?_
    refine lv_istore_n (lv' := [(2, .int r2), (0, .ref (ad 0)), (1, .int x1)]) hx hb dX5_mid_5 rfl hl (by decide) rfl (fun ls hl => ?_)
    refine lv_iload_n hx hb dX5_mid_6 rfl (lv_at hl 0 rfl) ?_
    refine lv_if_eq (tgt := 12) hx hb dX5_mid_7 (by decide) (fun c7 => ?_) (fun c7 => ?_)
    · have h := br_1 h c7
      refine lv_aload_n hx hb dX5_mid_12 rfl (lv_at hl 1 rfl) ?_
      refine va_get (D := D) (ci := 3) (C := RX5) (T := TX5) (N := 14) hx hb hts iX5 hown hK hP 0 wPW_0 rfl 7 (by decide) q1 (fun _ h9 => h9) rfl dX5_mid_13 ?_
      refine va_getN (host := "PartyWill") (D := D) (ci := 0) (C := RX0) (T := TX0) (N := 3) hx hb hts iX0 hown hK hP 18 wPW_18 rfl 1 (by decide) (va_Nw.use rfl (nw_X5_127 hKK.2)) (fun _ h9 => h9) rfl dX5_mid_16 ?_
      obtain ⟨r19, hc, h⟩ := bd1_some h
      refine my_roi (va_Run.run (va_runSN (host := "PartyWill") (As := [.long cnow]) (rest := []) hFix (kX1_howManyIn l D T F cnow r19 hc) ⟨va_cnB 1 hts gX5_mid_X1_howManyIn_n207 rfl rfl rfl (nw_X5_207 hKK.2) q9 hd_X1_howManyIn ⟨Nat.le_of_ble_eq_true rfl, Nat.le_of_ble_eq_true rfl⟩, q8, trivial⟩ (preS_ro va_nil hKK) rfl rfl hl.1 rfl (lv_room (Nat.le_of_ble_eq_true rfl)) dX5_mid_19 ⟨Nat.zero_le _, Nat.zero_le _⟩)) ?_
      refine lv_i2l (v := (r19.toInt64)) hx hb dX5_mid_22 rfl ?_
      refine lv_iconst (v := (2 : Int32)) hx hb dX5_mid_23 (by decide) ?_
      refine lv_iload_n hx hb dX5_mid_24 rfl (lv_at hl 2 rfl) ?_
      refine lv_imul hx hb dX5_mid_25 ?_
      refine lv_lshl (v := ((r19.toInt64) <<< (((2 : Int32) * x1).toInt64 &&& 63))) hx hb dX5_mid_26 rfl ?_
      refine lv_lstore_n (lv' := [(3, .long ((r19.toInt64) <<< (((2 : Int32) * x1).toInt64 &&& 63))), (2, .int r2), (0, .ref (ad 0)), (1, .int x1)]) hx hb dX5_mid_27 rfl hl (by decide) rfl (fun ls hl => ?_)
      refine lv_aload_n hx hb dX5_mid_28 rfl (lv_at hl 2 rfl) ?_
      refine lv_lload_n hx hb dX5_mid_29 rfl (lv_at hl 0 rfl) ?_
      refine lv_aload_n hx hb dX5_mid_30 rfl (lv_at hl 2 rfl) ?_
      refine va_get (D := D) (ci := 3) (C := RX5) (T := TX5) (N := 14) hx hb hts iX5 hown hK hP 0 wPW_0 rfl 5 (by decide) q2 (fun _ h9 => h9) rfl dX5_mid_31 ?_
      refine lv_aload_n hx hb dX5_mid_34 rfl (lv_at hl 2 rfl) ?_
      refine va_get (D := D) (ci := 3) (C := RX5) (T := TX5) (N := 14) hx hb hts iX5 hown hK hP 0 wPW_0 rfl 7 (by decide) q1 (fun _ h9 => h9) rfl dX5_mid_35 ?_
      refine va_getN (host := "PartyWill") (D := D) (ci := 0) (C := RX0) (T := TX0) (N := 3) hx hb hts iX0 hown hK hP 18 wPW_18 rfl 1 (by decide) (va_Nw.use rfl (nw_X5_127 hKK.2)) (fun _ h9 => h9) rfl dX5_mid_38 ?_
      refine lv_iload_n hx hb dX5_mid_41 rfl (lv_at hl 3 rfl) ?_
      obtain ⟨r42, hc, h⟩ := bd1_some h
      have hPc : va_P D vwCl (wPa T (ad 6) (ad 7) (ad 8) (ad 9) (ad 10) (ad 11) psize pclause peff pkin pgri psig psee) _ := my_subP sb_wPW_wPa_6to11 hP
      refine my_rol (va_Run.run (va_runSN (host := "PartyWill") (As := [.ref (ad 6), .long cnow, .int x1]) (rest := [.long ((r19.toInt64) <<< (((2 : Int32) * x1).toInt64 &&& 63)), .ref (ad 0)]) hFix (kX3_leftByAll l D T F 8 (ad 6) (ad 7) (ad 8) (ad 9) (ad 10) (ad 11) psize pclause peff pkin pgri psig psee cnow x1 r42 hc) ⟨va_cnB 3 hts gX5_mid_X3_leftByAll_n268 rfl rfl rfl (nw_X5_268 hKK.2) q22 hd_X3_leftByAll ⟨Nat.le_of_ble_eq_true rfl, Nat.le_of_ble_eq_true rfl⟩, q21, trivial⟩ (preS_ro hPc hKK) rfl rfl hl.1 rfl (lv_room (Nat.le_of_ble_eq_true rfl)) dX5_mid_42 ⟨Nat.zero_le _, Nat.zero_le _⟩)) ?_
      refine lv_lsub hx hb dX5_mid_45 ?_
      refine lv_iload_n hx hb dX5_mid_46 rfl (lv_at hl 3 rfl) ?_
      obtain ⟨w47_up, w47_lo, hc, h⟩ := bd2_some h
      have hFc := my_freeS hD hS hA
      refine my_rwv (va_runV (As := [.long (((r19.toInt64) <<< (((2 : Int32) * x1).toInt64 &&& 63)) - r42), .int x1]) (rest := []) hFix (kX5_tellShare l D T F ad rs rm ts tm rdue rtun rsee rbeg psize pclause peff pkin pgri psig psee qsize qclause qeff qkin qgri qsig qsee cdee cnow cahe kdee know kahe fc lf told up lo (((r19.toInt64) <<< (((2 : Int32) * x1).toInt64 &&& 63)) - r42) x1 w47_up w47_lo hc _) (cwV 2 hts gX5_mid_X5_tellShare rfl rfl rfl ⟨rfl, hd_X5_tellShare⟩ ⟨Nat.le_of_ble_eq_true rfl, Nat.le_of_ble_eq_true rfl⟩) (preV_rw hP hKK hD (va_recv hK hP (ci := 3) (q0 := 0) rfl wPW_0)) rfl rfl hl.1 rfl (lv_room (Nat.le_of_ble_eq_true rfl)) dX5_mid_47 ⟨Nat.zero_le _, Nat.zero_le _⟩) hS hFc (fun H1 locs hP1 hD1 hz1 hkk hS => ?_)
      have hP : va_P D vwCl (wPW T ad (ad 6) (ad 12) rs rm ts tm rdue rtun rsee rbeg psize pclause peff pkin pgri psig psee qsize qclause qeff qkin qgri qsig qsee cdee cnow cahe kdee know kahe fc lf told w47_up w47_lo) H1 := hP1
      have hD : va_D A (wPW T ad (ad 6) (ad 12) rs rm ts tm rdue rtun rsee rbeg psize pclause peff pkin pgri psig psee qsize qclause qeff qkin qgri qsig qsee cdee cnow cahe kdee know kahe fc lf told w47_up w47_lo) := hD1.weaken (fun _ q _ h => hFc q.1 h)
      generalize H1 = H at hP hS ⊢
      refine lv_iconst (v := (1 : Int32)) hx hb dX5_mid_50 (by decide) ?_
      cases h
      exact hret _ _ _ _ hP hD hS dX5_mid_51
    · have h := br_0 h c7
      refine lv_iload_n hx hb dX5_mid_10 rfl (lv_at hl 0 rfl) ?_
      cases h
      exact hret _ _ _ _ hP hD hS dX5_mid_11
  exact key _ (fun H locs pc ls hP hD hS hd => W.iret hx hb hr (fun t ht hW => ⟨⟨_, (), rfl, rfl, by show _ ∧ _; rw [ht]; exact ⟨hP, hD⟩⟩, hS.F ht⟩) hS.2.2 hd)
set_option maxHeartbeats 4000000 in
set_option maxRecDepth 100000 in
theorem kX5_lots (l : Launch) (D : va_G) (T : Nat → ClassId) (F : Nat) (ad : Nat → Nat) (rs : Nat → Int32) (rm : Nat → Nat → Int32) (ts : Nat → Int32) (tm : Nat → Nat → Int32) (rdue : Int32) (rtun : Int32) (rsee : Int32) (rbeg : Int32) (psize : Int32) (pclause : Int32) (peff : Nat → Int32) (pkin : Nat → Int32) (pgri : Nat → Int32) (psig : Nat → Int32) (psee : Nat → Int32) (qsize : Int32) (qclause : Int32) (qeff : Nat → Int32) (qkin : Nat → Int32) (qgri : Nat → Int32) (qsig : Nat → Int32) (qsee : Nat → Int32) (cdee : Int32) (cnow : Int64) (cahe : Nat → Int64) (kdee : Nat → Int32) (know : Nat → Int64) (kahe : Nat → Nat → Int64) (fc : Nat → Int32) (lf : Int32) (told : Int32) (up : Int64) (lo : Int64) (x1 : Int32) (x2 : Int32) (r : Int32) (zcdee : Int32) (zcnow : Int64) (zcahe : Nat → Int64) (h : fX5_lots F psize pclause peff pkin psee cdee cnow cahe x1 x2 = some (r, zcdee, zcnow, zcahe)) : ∀ sz : Nat, Met l yX5_lots wsX5_lots ({ frames := 4, cells := 0, slots := 0, locals := 102 } : Room) (va_Pc [.ref (ad 0), .int x1, .int x2] (fun U => U.heap.size = sz ∧ va_P D vwCl (wPW T ad (ad 6) (ad 12) rs rm ts tm rdue rtun rsee rbeg psize pclause peff pkin pgri psig psee qsize qclause qeff qkin qgri qsig qsee cdee cnow cahe kdee know kahe fc lf told up lo) U.heap ∧ KK D T U ∧ va_D (fun _ => True) (wPW T ad (ad 6) (ad 12) rs rm ts tm rdue rtun rsee rbeg psize pclause peff pkin pgri psig psee qsize qclause qeff qkin qgri qsig qsee cdee cnow cahe kdee know kahe fc lf told up lo))) (va_Qi (fun r' (_ : Unit) => r' = r) (fun _ t => va_P D vwCl (wPW T ad (ad 6) (ad 12) rs rm ts tm rdue rtun rsee rbeg psize pclause peff pkin pgri psig psee qsize qclause qeff qkin qgri qsig qsee zcdee zcnow zcahe kdee know kahe fc lf told up lo) t.heap ∧ va_D (va_A (wPW T ad (ad 6) (ad 12) rs rm ts tm rdue rtun rsee rbeg psize pclause peff pkin pgri psig psee qsize qclause qeff qkin qgri qsig qsee cdee cnow cahe kdee know kahe fc lf told up lo) sz) (wPW T ad (ad 6) (ad 12) rs rm ts tm rdue rtun rsee rbeg psize pclause peff pkin pgri psig psee qsize qclause qeff qkin qgri qsig qsee zcdee zcnow zcahe kdee know kahe fc lf told up lo)) (va_A (wPW T ad (ad 6) (ad 12) rs rm ts tm rdue rtun rsee rbeg psize pclause peff pkin pgri psig psee qsize qclause qeff qkin qgri qsig qsee cdee cnow cahe kdee know kahe fc lf told up lo) sz)) 0 0 (va_A (wPW T ad (ad 6) (ad 12) rs rm ts tm rdue rtun rsee rbeg psize pclause peff pkin pgri psig psee qsize qclause qeff qkin qgri qsig qsee cdee cnow cahe kdee know kahe fc lf told up lo) sz) := by
  intro sz
  refine Met.ofW (cc := cX5_lots) (maxL := 7) (ret := some .int) (by decide) rfl ?_
  intro p e s m args below meth c s₁ B hml hv
  obtain ⟨ha, hsz, hP, hKK, hD0⟩ := hv
  have hx := B.exec
  have hb := B.bytes
  have hr := B.returns
  have hts := atoms_spec (ws := wsX5_lots) B.pre
  have hown : s.vm.findClass RX5 = some m.cls := findClass_of_methodNamed B.named
  have hlocks := B.notSynchronized
  have hK := hKK.1
  have hFix : CallFix p m c cX5_lots 7 s args wsX5_lots RX5 := ⟨hx, hb, hml, hown, hts⟩
  have q1 := hts _ (List.mem_of_getElem? (i := 1) (show wsX5_lots[1]? = some (Cond.constantLong RX5 271 (2147483647)) from rfl))
  have q2 := hts _ (List.mem_of_getElem? (i := 2) (show wsX5_lots[2]? = some (Cond.fieldLink RX5 36 "PartyWill" "party" "LPartyWill$Party;") from rfl))
  have q3 := hts _ (List.mem_of_getElem? (i := 3) (show wsX5_lots[3]? = some (Cond.fieldLink RX5 46 "PartyWill" "course" "LPartyWill$Course;") from rfl))
  have q4 := hts _ (List.mem_of_getElem? (i := 4) (show wsX5_lots[4]? = some (Cond.constantLong RX5 273 (48271)) from rfl))
  have q5 := hts _ (List.mem_of_getElem? (i := 5) (show wsX5_lots[5]? = some (Cond.constantLong RX5 275 (16)) from rfl))
  have q6 := hts _ (List.mem_of_getElem? (i := 6) (show wsX5_lots[6]? = some (Cond.constantLong RX5 277 (4)) from rfl))
  have q7 := hts _ (List.mem_of_getElem? (i := 7) (show wsX5_lots[7]? = some (Cond.static yX1_howManyIn) from rfl))
  have q8 := hts _ (List.mem_of_getElem? (i := 8) (show wsX5_lots[8]? = some (Cond.initialized RX1) from rfl))
  have q20 := hts _ (List.mem_of_getElem? (i := 20) (show wsX5_lots[20]? = some (Cond.instanceMethod yX2_afterTune) from rfl))
  have q21 := hts _ (List.mem_of_getElem? (i := 21) (show wsX5_lots[21]? = some (Cond.initialized RX2) from rfl))
  have q22 := hts _ (List.mem_of_getElem? (i := 22) (show wsX5_lots[22]? = some (Cond.selects RX2 yX2_afterTune yX2_afterTune) from rfl))
  have q67 := hts _ (List.mem_of_getElem? (i := 67) (show wsX5_lots[67]? = some (Cond.instanceMethod yX0_goOn) from rfl))
  have q68 := hts _ (List.mem_of_getElem? (i := 68) (show wsX5_lots[68]? = some (Cond.initialized RX0) from rfl))
  have q69 := hts _ (List.mem_of_getElem? (i := 69) (show wsX5_lots[69]? = some (Cond.selects RX0 yX0_goOn yX0_goOn) from rfl))
  have iX0 : ∀ w ∈ u_ws RX0 TX0 3, w ∈ wsX5_lots := fun w h => List.mem_cons_of_mem _ (List.mem_append_right _ (h))
  have iX2 : ∀ w ∈ u_ws RX2 TX2 7, w ∈ wsX5_lots := fun w h => List.mem_cons_of_mem _ (List.mem_append_left _ (List.mem_append_right _ (h)))
  have iX5 : ∀ w ∈ u_ws RX5 TX5 14, w ∈ wsX5_lots := fun w h => List.mem_cons_of_mem _ (List.mem_append_left _ (List.mem_append_left _ (List.mem_append_right _ (h))))
  subst hsz
  have hD := hD0.self (sz := s.heap.size)
  generalize hAe : va_A (wPW T ad (ad 6) (ad 12) rs rm ts tm rdue rtun rsee rbeg psize pclause peff pkin pgri psig psee qsize qclause qeff qkin qgri qsig qsee cdee cnow cahe kdee know kahe fc lf told up lo) s.heap.size = A at hD ⊢
  have hA : ∀ q : Nat, s.heap.size ≤ q → A q := fun q h => by rw [← hAe]; exact Or.inr h
  have hS : va_S A s.heap s.heap [] := va_S.rf
  have hP : va_P D vwCl (wPW T ad (ad 6) (ad 12) rs rm ts tm rdue rtun rsee rbeg psize pclause peff pkin pgri psig psee qsize qclause qeff qkin qgri qsig qsee cdee cnow cahe kdee know kahe fc lf told up lo) s.heap := hP
  obtain ⟨ls, hl, e0⟩ := my_entry (m := m) (n := 7) ha (Nat.le_of_ble_eq_true rfl)
  rw [e0]
  have hl : lv_has ls 7 [(0, .ref (ad 0)), (1, .int x1), (2, .int x2)] := hl
  have key : ∀ Q : State → Prop, (∀ (H : Heap) (locs : List Loc) (pc : Nat) (ls : Array Slot), va_P D vwCl (wPW T ad (ad 6) (ad 12) rs rm ts tm rdue rtun rsee rbeg psize pclause peff pkin pgri psig psee qsize qclause qeff qkin qgri qsig qsee zcdee zcnow zcahe kdee know kahe fc lf told up lo) H → va_D A (wPW T ad (ad 6) (ad 12) rs rm ts tm rdue rtun rsee rbeg psize pclause peff pkin pgri psig psee qsize qclause qeff qkin qgri qsig qsee zcdee zcnow zcahe kdee know kahe fc lf told up lo) → va_S A s.heap H locs → decode cX5_lots pc = .ok (.ireturn, 1) → W p l e ({ frames := 4, cells := 0, slots := 0, locals := 102 } : Room) s m args below meth c H locs 0 0 Q (F0 m pc ls [.int r])) → W p l e ({ frames := 4, cells := 0, slots := 0, locals := 102 } : Room) s m args below meth c s.heap [] 0 0 Q (F0 m 0 ls []) := by
    intro Q hret
    skip
    have l75 : ∀ x1 : Int32, ∀ x3 : Int32, ∀ nu : Nat, ∀ x4 : Int64, ∀ x6 : Int32, ∀ cdee : Int32, ∀ cnow : Int64, ∀ cahe : Nat → Int64, fX5_lots_l75 F psize pclause peff pkin psee x1 x3 nu x4 x6 cdee cnow cahe = some (r, zcdee, zcnow, zcahe) → ∀ (H : Heap) (locs : List Loc), va_P D vwCl (wPW T ad (ad 6) (ad 12) rs rm ts tm rdue rtun rsee rbeg psize pclause peff pkin pgri psig psee qsize qclause qeff qkin qgri qsig qsee cdee cnow cahe kdee know kahe fc lf told up lo) H → va_D A (wPW T ad (ad 6) (ad 12) rs rm ts tm rdue rtun rsee rbeg psize pclause peff pkin pgri psig psee qsize qclause qeff qkin qgri qsig qsee cdee cnow cahe kdee know kahe fc lf told up lo) → va_S A s.heap H locs → ∀ (ls : Array Slot), lv_has ls 7 [(0, .ref (ad 0)), (1, .int x1), (3, .int x3), (4, .long x4), (6, .int x6)] → W p l e ({ frames := 4, cells := 0, slots := 0, locals := 102 } : Room) s m args below meth c H locs 0 0 Q (F0 m 75 ls []) := by
      intro x1 x3
      intro nu
      induction nu with
      | zero => intro x4 x6 cdee cnow cahe h; exact none_some h
      | succ nu75 ih75 =>
        intro x4 x6 cdee cnow cahe h H locs hP hD hS ls hl
        have h : fX5_lots_l75_b F psize pclause peff pkin psee x1 x3 (fX5_lots_l75 F psize pclause peff pkin psee x1 x3 nu75) x4 x6 cdee cnow cahe = some (r, zcdee, zcnow, zcahe) := h
        unfold fX5_lots_l75_b at h
        refine lv_iload hx hb dX5_lots_75 (lv_at hl 4 rfl) ?_
        refine lv_iload_n hx hb dX5_lots_77 rfl (lv_at hl 1 rfl) ?_
        refine lv_icmp_ge (tgt := 131) hx hb dX5_lots_78 (by decide) (fun c78 => ?_) (fun c78 => ?_)
        · have h := br_1 h c78
          refine lv_iload_n hx hb dX5_lots_131 rfl (lv_at hl 2 rfl) ?_
          refine lv_aload_n hx hb dX5_lots_132 rfl (lv_at hl 0 rfl) ?_
          refine va_get (D := D) (ci := 3) (C := RX5) (T := TX5) (N := 14) hx hb hts iX5 hown hK hP 0 wPW_0 rfl 7 (by decide) q3 (fun _ h9 => h9) rfl dX5_lots_133 ?_
          refine va_getN (host := "PartyWill") (D := D) (ci := 0) (C := RX0) (T := TX0) (N := 3) hx hb hts iX0 hown hK hP 18 wPW_18 rfl 1 (by decide) (va_Nw.use rfl (nw_X5_127 hKK.2)) (fun _ h9 => h9) rfl dX5_lots_136 ?_
          obtain ⟨r139, hc, h⟩ := bd1_some h
          refine my_roi (va_Run.run (va_runSN (host := "PartyWill") (As := [.long cnow]) (rest := [.int x3]) hFix (kX1_howManyIn l D T F cnow r139 hc) ⟨va_cnB 1 hts gX5_lots_X1_howManyIn_n207 rfl rfl rfl (nw_X5_207 hKK.2) q8 hd_X1_howManyIn ⟨Nat.le_of_ble_eq_true rfl, Nat.le_of_ble_eq_true rfl⟩, q7, trivial⟩ (preS_ro va_nil hKK) rfl rfl hl.1 rfl (lv_room (Nat.le_of_ble_eq_true rfl)) dX5_lots_139 ⟨Nat.zero_le _, Nat.zero_le _⟩)) ?_
          refine lv_isub hx hb dX5_lots_142 ?_
          cases h
          exact hret _ _ _ _ hP hD hS dX5_lots_143
        · have h := br_0 h c78
          refine lv_lload hx hb dX5_lots_81 (lv_at hl 3 rfl) ?_
          refine lv_ldc2 (v := (48271 : Int64)) hx hb hown q4 dX5_lots_83 ?_
          refine lv_lmul hx hb dX5_lots_86 ?_
          refine lv_ldc2 (v := (2147483647 : Int64)) hx hb hown q1 dX5_lots_87 ?_
          refine lv_lrem hx hb dX5_lots_90 (by decide) ?_
          refine lv_lstore (lv' := [(4, .long ((x4 * (48271 : Int64)) - (x4 * (48271 : Int64)) / (2147483647 : Int64) * (2147483647 : Int64))), (0, .ref (ad 0)), (1, .int x1), (3, .int x3), (6, .int x6)]) hx hb dX5_lots_91 hl (by decide) rfl (fun ls hl => ?_)
          refine lv_aload_n hx hb dX5_lots_93 rfl (lv_at hl 1 rfl) ?_
          refine va_get (D := D) (ci := 3) (C := RX5) (T := TX5) (N := 14) hx hb hts iX5 hown hK hP 0 wPW_0 rfl 7 (by decide) q3 (fun _ h9 => h9) rfl dX5_lots_94 ?_
          refine lv_aload_n hx hb dX5_lots_97 rfl (lv_at hl 1 rfl) ?_
          refine va_get (D := D) (ci := 3) (C := RX5) (T := TX5) (N := 14) hx hb hts iX5 hown hK hP 0 wPW_0 rfl 5 (by decide) q2 (fun _ h9 => h9) rfl dX5_lots_98 ?_
          refine lv_aload_n hx hb dX5_lots_101 rfl (lv_at hl 1 rfl) ?_
          refine va_get (D := D) (ci := 3) (C := RX5) (T := TX5) (N := 14) hx hb hts iX5 hown hK hP 0 wPW_0 rfl 7 (by decide) q3 (fun _ h9 => h9) rfl dX5_lots_102 ?_
          refine va_getN (host := "PartyWill") (D := D) (ci := 0) (C := RX0) (T := TX0) (N := 3) hx hb hts iX0 hown hK hP 18 wPW_18 rfl 1 (by decide) (va_Nw.use rfl (nw_X5_127 hKK.2)) (fun _ h9 => h9) rfl dX5_lots_105 ?_
          refine lv_lload hx hb dX5_lots_108 (lv_at hl 0 rfl) ?_
          refine lv_ldc2 (v := (16 : Int64)) hx hb hown q5 dX5_lots_110 ?_
          refine lv_ldiv hx hb dX5_lots_113 (by decide) ?_
          refine lv_ldc2 (v := (4 : Int64)) hx hb hown q6 dX5_lots_114 ?_
          refine lv_lrem hx hb dX5_lots_117 (by decide) ?_
          refine lv_l2i (v := (((((x4 * (48271 : Int64)) - (x4 * (48271 : Int64)) / (2147483647 : Int64) * (2147483647 : Int64)) / (16 : Int64)) - (((x4 * (48271 : Int64)) - (x4 * (48271 : Int64)) / (2147483647 : Int64) * (2147483647 : Int64)) / (16 : Int64)) / (4 : Int64) * (4 : Int64)).toInt32)) hx hb dX5_lots_118 rfl ?_
          obtain ⟨r119, hc, h⟩ := bd1_some h
          have hPc : va_P D vwCl (wPa T (ad 6) (ad 7) (ad 8) (ad 9) (ad 10) (ad 11) psize pclause peff pkin pgri psig psee) _ := my_subP sb_wPW_wPa_6to11 hP
          refine my_rol (va_Run.run (va_runVN (host := "PartyWill") (As := [.long cnow, .int (((((x4 * (48271 : Int64)) - (x4 * (48271 : Int64)) / (2147483647 : Int64) * (2147483647 : Int64)) / (16 : Int64)) - (((x4 * (48271 : Int64)) - (x4 * (48271 : Int64)) / (2147483647 : Int64) * (2147483647 : Int64)) / (16 : Int64)) / (4 : Int64) * (4 : Int64)).toInt32)]) (rest := [.ref (ad 18)]) hFix (kX2_afterTune l D T F (ad 6) (ad 7) (ad 8) (ad 9) (ad 10) (ad 11) psize pclause peff pkin pgri psig psee cnow (((((x4 * (48271 : Int64)) - (x4 * (48271 : Int64)) / (2147483647 : Int64) * (2147483647 : Int64)) / (16 : Int64)) - (((x4 * (48271 : Int64)) - (x4 * (48271 : Int64)) / (2147483647 : Int64) * (2147483647 : Int64)) / (16 : Int64)) / (4 : Int64) * (4 : Int64)).toInt32) r119 hc) ⟨va_cnB 2 hts gX5_lots_X2_afterTune_n162 rfl rfl rfl (nw_X5_162 hKK.2) q21 hd_X2_afterTune ⟨Nat.le_of_ble_eq_true rfl, Nat.le_of_ble_eq_true rfl⟩, q20, q22⟩ (preV_ro hPc hKK (va_recv hK hP (ci := 1) (q0 := 6) rfl wPW_6)) rfl rfl hl.1 rfl (lv_room (Nat.le_of_ble_eq_true rfl)) dX5_lots_119 ⟨Nat.zero_le _, Nat.zero_le _⟩)) ?_
          obtain ⟨w122_cdee, w122_cnow, w122_cahe, hc, h⟩ := bd3_some h
          have hPc : va_P D vwCl (wCo T (ad 18) (ad 19) cdee cnow cahe) _ := my_subP sb_wPW_wCo_18_19 hP
          have hDc := hD.sub [18, 19] (by decide) sb_wPW_wCo_18_19
          have hFc := va_free hD hS hA [18, 19] sb_wPW_wCo_18_19
          refine my_rwv (va_runVN (host := "PartyWill") (As := [.long r119]) (rest := []) hFix (kX0_goOn l D T F (ad 18) (ad 19) cdee cnow cahe r119 w122_cdee w122_cnow w122_cahe hc _) ⟨va_cnB 1 hts gX5_lots_X0_goOn_n166 rfl rfl rfl (nw_X5_166 hKK.2) q68 hd_X0_goOn ⟨Nat.le_of_ble_eq_true rfl, Nat.le_of_ble_eq_true rfl⟩, q67, q69⟩ (preV_rw hPc hKK hDc (va_recv hK hP (ci := 0) (q0 := 18) rfl wPW_18)) rfl rfl hl.1 rfl (lv_room (Nat.le_of_ble_eq_true rfl)) dX5_lots_122 ⟨Nat.zero_le _, Nat.zero_le _⟩) hS hFc (fun H1 locs hP1 hD1 hz1 hkk hS => ?_)
          obtain ⟨hP, hD⟩ := my_joinS hP hD (by decide) sb_wPW_wCo_18_19 (by rfl) hkk hFc hP1 hD1
          rw [st_wPW_wCo_18_19_goOn] at hP hD
          generalize H1 = H at hP hS ⊢
          refine lv_iinc (v := (x6 + (1 : Int32))) (lv' := [(6, .int (x6 + (1 : Int32))), (4, .long ((x4 * (48271 : Int64)) - (x4 * (48271 : Int64)) / (2147483647 : Int64) * (2147483647 : Int64))), (0, .ref (ad 0)), (1, .int x1), (3, .int x3)]) hx hb dX5_lots_125 hl (k := 4) rfl rfl (by decide) rfl (fun ls hl => ?_)
          refine lv_goto (tgt := 75) hx hb dX5_lots_128 (by decide) ?_
          exact ih75 ((x4 * (48271 : Int64)) - (x4 * (48271 : Int64)) / (2147483647 : Int64) * (2147483647 : Int64)) (x6 + (1 : Int32)) w122_cdee w122_cnow w122_cahe h _ _ hP hD hS _ (lv_sub hl [2, 3, 4, 1, 0] rfl)
    unfold fX5_lots at h
    refine lv_iload_n hx hb dX5_lots_0 rfl (lv_at hl 1 rfl) ?_
    refine lv_iconst (v := (1 : Int32)) hx hb dX5_lots_1 (by decide) ?_
    refine lv_icmp_lt (tgt := 25) hx hb dX5_lots_2 (by decide) (fun c2 => ?_) (fun c2 => ?_)
    · have h := br_1 h c2
      refine lv_iconst (v := (-1 : Int32)) hx hb dX5_lots_25 (by decide) ?_
      cases h
      exact hret _ _ _ _ hP hD hS dX5_lots_26
    · have h := br_0 h c2
      refine lv_iload_n hx hb dX5_lots_5 rfl (lv_at hl 1 rfl) ?_
      refine lv_bipush (v := (20 : Int32)) hx hb dX5_lots_6 (by decide) ?_
      refine lv_icmp_gt (tgt := 25) hx hb dX5_lots_8 (by decide) (fun c8 => ?_) (fun c8 => ?_)
      · have h := br_1 h c8
        refine lv_iconst (v := (-1 : Int32)) hx hb dX5_lots_25 (by decide) ?_
        cases h
        exact hret _ _ _ _ hP hD hS dX5_lots_26
      · have h := br_0 h c8
        refine lv_iload_n hx hb dX5_lots_11 rfl (lv_at hl 2 rfl) ?_
        refine lv_iconst (v := (1 : Int32)) hx hb dX5_lots_12 (by decide) ?_
        refine lv_icmp_lt (tgt := 25) hx hb dX5_lots_13 (by decide) (fun c13 => ?_) (fun c13 => ?_)
        · have h := br_1 h c13
          refine lv_iconst (v := (-1 : Int32)) hx hb dX5_lots_25 (by decide) ?_
          cases h
          exact hret _ _ _ _ hP hD hS dX5_lots_26
        · have h := br_0 h c13
          refine lv_iload_n hx hb dX5_lots_16 rfl (lv_at hl 2 rfl) ?_
          refine lv_i2l (v := (x2.toInt64)) hx hb dX5_lots_17 rfl ?_
          refine lv_ldc2 (v := (2147483647 : Int64)) hx hb hown q1 dX5_lots_18 ?_
          refine W.lcmp hx hb dX5_lots_21 ?_
          refine lv_if_lt (tgt := 27) hx hb dX5_lots_22 (by decide) (fun c22 => ?_) (fun c22 => ?_)
          · have h := br_1 h c22
            refine lv_aload_n hx hb dX5_lots_27 rfl (lv_at hl 0 rfl) ?_
            refine va_get (D := D) (ci := 3) (C := RX5) (T := TX5) (N := 14) hx hb hts iX5 hown hK hP 0 wPW_0 rfl 5 (by decide) q2 (fun _ h9 => h9) rfl dX5_lots_28 ?_
            refine va_getN (host := "PartyWill") (D := D) (ci := 1) (C := RX2) (T := TX2) (N := 7) hx hb hts iX2 hown hK hP 6 wPW_6 rfl 0 (by decide) (va_Nw.use rfl (nw_X5_111 hKK.2)) (fun _ h9 => h9) rfl dX5_lots_31 ?_
            refine lv_if_ne (tgt := 40) hx hb dX5_lots_34 (by decide) (fun c34 => ?_) (fun c34 => ?_)
            · have h := br_0 h c34
              refine lv_aload_n hx hb dX5_lots_40 rfl (lv_at hl 0 rfl) ?_
              refine va_get (D := D) (ci := 3) (C := RX5) (T := TX5) (N := 14) hx hb hts iX5 hown hK hP 0 wPW_0 rfl 7 (by decide) q3 (fun _ h9 => h9) rfl dX5_lots_41 ?_
              refine va_getN (host := "PartyWill") (D := D) (ci := 0) (C := RX0) (T := TX0) (N := 3) hx hb hts iX0 hown hK hP 18 wPW_18 rfl 0 (by decide) (va_Nw.use rfl (nw_X5_71 hKK.2)) (fun _ h9 => h9) rfl dX5_lots_44 ?_
              refine lv_iload_n hx hb dX5_lots_47 rfl (lv_at hl 1 rfl) ?_
              refine lv_iadd hx hb dX5_lots_48 ?_
              refine lv_bipush (v := (40 : Int32)) hx hb dX5_lots_49 (by decide) ?_
              refine lv_icmp_le (tgt := 57) hx hb dX5_lots_51 (by decide) (fun c51 => ?_) (fun c51 => ?_)
              · have h := br_1 h c51
                refine lv_aload_n hx hb dX5_lots_57 rfl (lv_at hl 0 rfl) ?_
                refine va_get (D := D) (ci := 3) (C := RX5) (T := TX5) (N := 14) hx hb hts iX5 hown hK hP 0 wPW_0 rfl 7 (by decide) q3 (fun _ h9 => h9) rfl dX5_lots_58 ?_
                refine va_getN (host := "PartyWill") (D := D) (ci := 0) (C := RX0) (T := TX0) (N := 3) hx hb hts iX0 hown hK hP 18 wPW_18 rfl 1 (by decide) (va_Nw.use rfl (nw_X5_127 hKK.2)) (fun _ h9 => h9) rfl dX5_lots_61 ?_
                obtain ⟨r64, hc, h⟩ := bd1_some h
                refine my_roi (va_Run.run (va_runSN (host := "PartyWill") (As := [.long cnow]) (rest := []) hFix (kX1_howManyIn l D T F cnow r64 hc) ⟨va_cnB 1 hts gX5_lots_X1_howManyIn_n207 rfl rfl rfl (nw_X5_207 hKK.2) q8 hd_X1_howManyIn ⟨Nat.le_of_ble_eq_true rfl, Nat.le_of_ble_eq_true rfl⟩, q7, trivial⟩ (preS_ro va_nil hKK) rfl rfl hl.1 rfl (lv_room (Nat.le_of_ble_eq_true rfl)) dX5_lots_64 ⟨Nat.zero_le _, Nat.zero_le _⟩)) ?_
                refine lv_istore_n (lv' := [(3, .int r64), (0, .ref (ad 0)), (1, .int x1), (2, .int x2)]) hx hb dX5_lots_67 rfl hl (by decide) rfl (fun ls hl => ?_)
                refine lv_iload_n hx hb dX5_lots_68 rfl (lv_at hl 3 rfl) ?_
                refine lv_i2l (v := (x2.toInt64)) hx hb dX5_lots_69 rfl ?_
                refine lv_lstore (lv' := [(4, .long (x2.toInt64)), (3, .int r64), (0, .ref (ad 0)), (1, .int x1), (2, .int x2)]) hx hb dX5_lots_70 hl (by decide) rfl (fun ls hl => ?_)
                refine lv_iconst (v := (0 : Int32)) hx hb dX5_lots_72 (by decide) ?_
                refine lv_istore (lv' := [(6, .int (0 : Int32)), (4, .long (x2.toInt64)), (3, .int r64), (0, .ref (ad 0)), (1, .int x1), (2, .int x2)]) hx hb dX5_lots_73 hl (by decide) rfl (fun ls hl => ?_)
                exact l75 x1 r64 F (x2.toInt64) (0 : Int32) cdee cnow cahe h _ _ hP hD hS _ (lv_sub hl [3, 4, 2, 1, 0] rfl)
              · have h := br_0 h c51
                refine lv_bipush (v := (-2 : Int32)) hx hb dX5_lots_54 (by decide) ?_
                cases h
                exact hret _ _ _ _ hP hD hS dX5_lots_56
            · have h := br_1 h c34
              refine lv_bipush (v := (-4 : Int32)) hx hb dX5_lots_37 (by decide) ?_
              cases h
              exact hret _ _ _ _ hP hD hS dX5_lots_39
          · have h := br_0 h c22
            refine lv_iconst (v := (-1 : Int32)) hx hb dX5_lots_25 (by decide) ?_
            cases h
            exact hret _ _ _ _ hP hD hS dX5_lots_26
  exact key _ (fun H locs pc ls hP hD hS hd => W.iret hx hb hr (fun t ht hW => ⟨⟨_, (), rfl, rfl, by show _ ∧ _; rw [ht]; exact ⟨hP, hD⟩⟩, hS.F ht⟩) hS.2.2 hd)
set_option maxHeartbeats 4000000 in
set_option maxRecDepth 100000 in
theorem kX5_asked (l : Launch) (D : va_G) (T : Nat → ClassId) (F : Nat) (ad : Nat → Nat) (rs : Nat → Int32) (rm : Nat → Nat → Int32) (ts : Nat → Int32) (tm : Nat → Nat → Int32) (rdue : Int32) (rtun : Int32) (rsee : Int32) (rbeg : Int32) (psize : Int32) (pclause : Int32) (peff : Nat → Int32) (pkin : Nat → Int32) (pgri : Nat → Int32) (psig : Nat → Int32) (psee : Nat → Int32) (qsize : Int32) (qclause : Int32) (qeff : Nat → Int32) (qkin : Nat → Int32) (qgri : Nat → Int32) (qsig : Nat → Int32) (qsee : Nat → Int32) (cdee : Int32) (cnow : Int64) (cahe : Nat → Int64) (kdee : Nat → Int32) (know : Nat → Int64) (kahe : Nat → Nat → Int64) (fc : Nat → Int32) (lf : Int32) (told : Int32) (up : Int64) (lo : Int64) (r : Int32) (h : fX5_asked F told = some (r)) : Met l yX5_asked wsX5_asked ({ frames := 0, cells := 0, slots := 0, locals := 0 } : Room) (va_Pc [.ref (ad 0)] (fun U => va_P D vwCl (wPW T ad (ad 6) (ad 12) rs rm ts tm rdue rtun rsee rbeg psize pclause peff pkin pgri psig psee qsize qclause qeff qkin qgri qsig qsee cdee cnow cahe kdee know kahe fc lf told up lo) U.heap ∧ KK D T U)) (vp_Si (fun r' => r' = r)) 0 0 (fun _ => False) := by
  refine Met.ofW (cc := cX5_asked) (maxL := 1) (ret := some .int) (by decide) rfl ?_
  intro p e s m args below meth c s₁ B hml hv
  obtain ⟨ha, hP, hKK⟩ := hv
  have hx := B.exec
  have hb := B.bytes
  have hr := B.returns
  have hts := atoms_spec (ws := wsX5_asked) B.pre
  have hown : s.vm.findClass RX5 = some m.cls := findClass_of_methodNamed B.named
  have hlocks := B.notSynchronized
  have hK := hKK.1
  have hFix : CallFix p m c cX5_asked 1 s args wsX5_asked RX5 := ⟨hx, hb, hml, hown, hts⟩
  have q1 := hts _ (List.mem_of_getElem? (i := 1) (show wsX5_asked[1]? = some (Cond.fieldLink RX5 61 "PartyWill" "told" "I") from rfl))
  have iX5 : ∀ w ∈ u_ws RX5 TX5 14, w ∈ wsX5_asked := fun w h => List.mem_cons_of_mem _ (List.mem_append_right _ (h))
  obtain ⟨ls, hl, e0⟩ := my_entry (m := m) (n := 1) ha (Nat.le_of_ble_eq_true rfl)
  rw [e0]
  have hl : lv_has ls 1 [(0, .ref (ad 0))] := hl
  have key : ∀ Q : State → Prop, (∀ (pc : Nat) (ls : Array Slot), decode cX5_asked pc = .ok (.ireturn, 1) → W p l e ({ frames := 0, cells := 0, slots := 0, locals := 0 } : Room) s m args below meth c s.heap [] 0 0 Q (F0 m pc ls [.int r])) → W p l e ({ frames := 0, cells := 0, slots := 0, locals := 0 } : Room) s m args below meth c s.heap [] 0 0 Q (F0 m 0 ls []) := by
    intro Q hret
    unfold fX5_asked at h
    refine lv_aload_n hx hb dX5_asked_0 rfl (lv_at hl 0 rfl) ?_
    refine va_get (D := D) (ci := 3) (C := RX5) (T := TX5) (N := 14) hx hb hts iX5 hown hK hP 0 wPW_0 rfl 11 (by decide) q1 (fun _ h9 => h9) rfl dX5_asked_1 ?_
    cases h
    exact hret _ _ dX5_asked_4
  exact key _ (fun pc ls hd => W.iret hx hb hr (fun t ht hW => ⟨_, rfl, rfl, ht⟩) (fun q h => by cases h) hd)
