set_option maxHeartbeats 4000000 in
set_option maxRecDepth 100000 in
theorem kX5_stay (l : Launch) (D : va_G) (T : Nat → ClassId) (F : Nat) (ad : Nat → Nat) (rs : Nat → Int32) (rm : Nat → Nat → Int32) (ts : Nat → Int32) (tm : Nat → Nat → Int32) (rdue : Int32) (rtun : Int32) (rsee : Int32) (rbeg : Int32) (psize : Int32) (pclause : Int32) (peff : Nat → Int32) (pkin : Nat → Int32) (pgri : Nat → Int32) (psig : Nat → Int32) (psee : Nat → Int32) (qsize : Int32) (qclause : Int32) (qeff : Nat → Int32) (qkin : Nat → Int32) (qgri : Nat → Int32) (qsig : Nat → Int32) (qsee : Nat → Int32) (cdee : Int32) (cnow : Int64) (cahe : Nat → Int64) (kdee : Nat → Int32) (know : Nat → Int64) (kahe : Nat → Nat → Int64) (fc : Nat → Int32) (lf : Int32) (told : Int32) (up : Int64) (lo : Int64) (x1 : Int32) (r : Int32) (ztold : Int32) (zup : Int64) (zlo : Int64) (h : fX5_stay F psize pclause peff pkin psee cnow told up lo x1 = some (r, ztold, zup, zlo)) : ∀ sz : Nat, Met l yX5_stay wsX5_stay ({ frames := 32, cells := 0, slots := 0, locals := 956 } : Room) (va_Pc [.ref (ad 0), .int x1] (fun U => U.heap.size = sz ∧ va_P D vwCl (wPW T ad (ad 6) (ad 12) rs rm ts tm rdue rtun rsee rbeg psize pclause peff pkin pgri psig psee qsize qclause qeff qkin qgri qsig qsee cdee cnow cahe kdee know kahe fc lf told up lo) U.heap ∧ KK D T U ∧ va_D (fun _ => True) (wPW T ad (ad 6) (ad 12) rs rm ts tm rdue rtun rsee rbeg psize pclause peff pkin pgri psig psee qsize qclause qeff qkin qgri qsig qsee cdee cnow cahe kdee know kahe fc lf told up lo))) (va_Qi (fun r' (_ : Unit) => r' = r) (fun _ t => va_P D vwCl (wPW T ad (ad 6) (ad 12) rs rm ts tm rdue rtun rsee rbeg psize pclause peff pkin pgri psig psee qsize qclause qeff qkin qgri qsig qsee cdee cnow cahe kdee know kahe fc lf ztold zup zlo) t.heap ∧ va_D (va_A (wPW T ad (ad 6) (ad 12) rs rm ts tm rdue rtun rsee rbeg psize pclause peff pkin pgri psig psee qsize qclause qeff qkin qgri qsig qsee cdee cnow cahe kdee know kahe fc lf told up lo) sz) (wPW T ad (ad 6) (ad 12) rs rm ts tm rdue rtun rsee rbeg psize pclause peff pkin pgri psig psee qsize qclause qeff qkin qgri qsig qsee cdee cnow cahe kdee know kahe fc lf ztold zup zlo)) (va_A (wPW T ad (ad 6) (ad 12) rs rm ts tm rdue rtun rsee rbeg psize pclause peff pkin pgri psig psee qsize qclause qeff qkin qgri qsig qsee cdee cnow cahe kdee know kahe fc lf told up lo) sz)) 0 0 (va_A (wPW T ad (ad 6) (ad 12) rs rm ts tm rdue rtun rsee rbeg psize pclause peff pkin pgri psig psee qsize qclause qeff qkin qgri qsig qsee cdee cnow cahe kdee know kahe fc lf told up lo) sz) := by
  intro sz
  refine Met.ofW (cc := cX5_stay) (maxL := 9) (ret := some .int) (by decide) rfl ?_
  intro p e s m args below meth c s₁ B hml hv
  obtain ⟨ha, hsz, hP, hKK, hD0⟩ := hv
  have hx := B.exec
  have hb := B.bytes
  have hr := B.returns
  have hts := atoms_spec (ws := wsX5_stay) B.pre
  have hown : s.vm.findClass RX5 = some m.cls := findClass_of_methodNamed B.named
  have hlocks := B.notSynchronized
  have hK := hKK.1
  have hFix : CallFix p m c cX5_stay 9 s args wsX5_stay RX5 := ⟨hx, hb, hml, hown, hts⟩
  have q1 := hts _ (List.mem_of_getElem? (i := 1) (show wsX5_stay[1]? = some (Cond.fieldLink RX5 36 "PartyWill" "party" "LPartyWill$Party;") from rfl))
  have q2 := hts _ (List.mem_of_getElem? (i := 2) (show wsX5_stay[2]? = some (Cond.fieldLink RX5 46 "PartyWill" "course" "LPartyWill$Course;") from rfl))
  have q3 := hts _ (List.mem_of_getElem? (i := 3) (show wsX5_stay[3]? = some (Cond.fieldLink RX5 61 "PartyWill" "told" "I") from rfl))
  have q4 := hts _ (List.mem_of_getElem? (i := 4) (show wsX5_stay[4]? = some (Cond.fieldLink RX5 64 "PartyWill" "toldUpper" "J") from rfl))
  have q5 := hts _ (List.mem_of_getElem? (i := 5) (show wsX5_stay[5]? = some (Cond.fieldLink RX5 68 "PartyWill" "toldLower" "J") from rfl))
  have q11 := hts _ (List.mem_of_getElem? (i := 11) (show wsX5_stay[11]? = some (Cond.static yX3_stayingBehind) from rfl))
  have q12 := hts _ (List.mem_of_getElem? (i := 12) (show wsX5_stay[12]? = some (Cond.initialized RX3) from rfl))
  have iX0 : ∀ w ∈ u_ws RX0 TX0 3, w ∈ wsX5_stay := fun w h => List.mem_cons_of_mem _ (List.mem_append_left _ (List.mem_append_right _ (h)))
  have iX5 : ∀ w ∈ u_ws RX5 TX5 14, w ∈ wsX5_stay := fun w h => List.mem_cons_of_mem _ (List.mem_append_left _ (List.mem_append_left _ (List.mem_append_right _ (h))))
  subst hsz
  have hD := hD0.self (sz := s.heap.size)
  generalize hAe : va_A (wPW T ad (ad 6) (ad 12) rs rm ts tm rdue rtun rsee rbeg psize pclause peff pkin pgri psig psee qsize qclause qeff qkin qgri qsig qsee cdee cnow cahe kdee know kahe fc lf told up lo) s.heap.size = A at hD ⊢
  have hA : ∀ q : Nat, s.heap.size ≤ q → A q := fun q h => by rw [← hAe]; exact Or.inr h
  have hS : va_S A s.heap s.heap [] := va_S.rf
  have hP : va_P D vwCl (wPW T ad (ad 6) (ad 12) rs rm ts tm rdue rtun rsee rbeg psize pclause peff pkin pgri psig psee qsize qclause qeff qkin qgri qsig qsee cdee cnow cahe kdee know kahe fc lf told up lo) s.heap := hP
  obtain ⟨ls, hl, e0⟩ := my_entry (m := m) (n := 9) ha (Nat.le_of_ble_eq_true rfl)
  rw [e0]
  have hl : lv_has ls 9 [(0, .ref (ad 0)), (1, .int x1)] := hl
  have key : ∀ Q : State → Prop, (∀ (H : Heap) (locs : List Loc) (pc : Nat) (ls : Array Slot), va_P D vwCl (wPW T ad (ad 6) (ad 12) rs rm ts tm rdue rtun rsee rbeg psize pclause peff pkin pgri psig psee qsize qclause qeff qkin qgri qsig qsee cdee cnow cahe kdee know kahe fc lf ztold zup zlo) H → va_D A (wPW T ad (ad 6) (ad 12) rs rm ts tm rdue rtun rsee rbeg psize pclause peff pkin pgri psig psee qsize qclause qeff qkin qgri qsig qsee cdee cnow cahe kdee know kahe fc lf ztold zup zlo) → va_S A s.heap H locs → decode cX5_stay pc = .ok (.ireturn, 1) → W p l e ({ frames := 32, cells := 0, slots := 0, locals := 956 } : Room) s m args below meth c H locs 0 0 Q (F0 m pc ls [.int r])) → W p l e ({ frames := 32, cells := 0, slots := 0, locals := 956 } : Room) s m args below meth c s.heap [] 0 0 Q (F0 m 0 ls []) := by
    intro Q hret
    skip
    have n86 : ∀ x3 : Int64, ∀ x5 : Int32, ∀ told : Int32, ∀ up : Int64, ∀ lo : Int64, fX5_stay_n86 F psize pclause peff pkin psee cnow x3 x5 told up lo = some (r, ztold, zup, zlo) → ∀ (H : Heap) (locs : List Loc), va_P D vwCl (wPW T ad (ad 6) (ad 12) rs rm ts tm rdue rtun rsee rbeg psize pclause peff pkin pgri psig psee qsize qclause qeff qkin qgri qsig qsee cdee cnow cahe kdee know kahe fc lf told up lo) H → va_D A (wPW T ad (ad 6) (ad 12) rs rm ts tm rdue rtun rsee rbeg psize pclause peff pkin pgri psig psee qsize qclause qeff qkin qgri qsig qsee cdee cnow cahe kdee know kahe fc lf told up lo) → va_S A s.heap H locs → ∀ (ls : Array Slot), lv_has ls 9 [(0, .ref (ad 0)), (3, .long x3), (5, .int x5)] → W p l e ({ frames := 32, cells := 0, slots := 0, locals := 956 } : Room) s m args below meth c H locs 0 0 Q (F0 m 86 ls []) := by
      intro x3 x5 told up lo h H locs hP hD hS ls hl
      unfold fX5_stay_n86 at h
      refine lv_aload_n hx hb dX5_stay_86 rfl (lv_at hl 0 rfl) ?_
      refine lv_iload hx hb dX5_stay_87 (lv_at hl 2 rfl) ?_
      refine va_put (D := D) (ci := 3) (v := .int x5) (ty := .int) (C := RX5) (T := TX5) (N := 14) hx hb hts iX5 tyX5 tyX5_ok nmX5 hown hK hP hD hS 0 wPW_0 rfl 11 (by decide) q3 (fun _ h9 => h9) rfl (by decide +kernel) rfl rfl (Nat.le_of_ble_eq_true rfl) dX5_stay_89 (fun H locs hP hD hS => ?_)
      have hP : va_P D vwCl (wPW T ad (ad 6) (ad 12) rs rm ts tm rdue rtun rsee rbeg psize pclause peff pkin pgri psig psee qsize qclause qeff qkin qgri qsig qsee cdee cnow cahe kdee know kahe fc lf x5 up lo) H := hP
      have hD : va_D A (wPW T ad (ad 6) (ad 12) rs rm ts tm rdue rtun rsee rbeg psize pclause peff pkin pgri psig psee qsize qclause qeff qkin qgri qsig qsee cdee cnow cahe kdee know kahe fc lf x5 up lo) := hD
      refine lv_aload_n hx hb dX5_stay_92 rfl (lv_at hl 0 rfl) ?_
      refine lv_lload_n hx hb dX5_stay_93 rfl (lv_at hl 1 rfl) ?_
      refine va_put (D := D) (ci := 3) (v := .long x3) (ty := .long) (C := RX5) (T := TX5) (N := 14) hx hb hts iX5 tyX5 tyX5_ok nmX5 hown hK hP hD hS 0 wPW_0 rfl 12 (by decide) q4 (fun _ h9 => h9) rfl (by decide +kernel) rfl rfl (Nat.le_of_ble_eq_true rfl) dX5_stay_94 (fun H locs hP hD hS => ?_)
      have hP : va_P D vwCl (wPW T ad (ad 6) (ad 12) rs rm ts tm rdue rtun rsee rbeg psize pclause peff pkin pgri psig psee qsize qclause qeff qkin qgri qsig qsee cdee cnow cahe kdee know kahe fc lf x5 x3 lo) H := hP
      have hD : va_D A (wPW T ad (ad 6) (ad 12) rs rm ts tm rdue rtun rsee rbeg psize pclause peff pkin pgri psig psee qsize qclause qeff qkin qgri qsig qsee cdee cnow cahe kdee know kahe fc lf x5 x3 lo) := hD
      refine lv_aload_n hx hb dX5_stay_97 rfl (lv_at hl 0 rfl) ?_
      refine lv_lconst (v := (1 : Int64)) hx hb dX5_stay_98 (by decide) ?_
      refine va_put (D := D) (ci := 3) (v := .long (1 : Int64)) (ty := .long) (C := RX5) (T := TX5) (N := 14) hx hb hts iX5 tyX5 tyX5_ok nmX5 hown hK hP hD hS 0 wPW_0 rfl 13 (by decide) q5 (fun _ h9 => h9) rfl (by decide +kernel) rfl rfl (Nat.le_of_ble_eq_true rfl) dX5_stay_99 (fun H locs hP hD hS => ?_)
      have hP : va_P D vwCl (wPW T ad (ad 6) (ad 12) rs rm ts tm rdue rtun rsee rbeg psize pclause peff pkin pgri psig psee qsize qclause qeff qkin qgri qsig qsee cdee cnow cahe kdee know kahe fc lf x5 x3 (1 : Int64)) H := hP
      have hD : va_D A (wPW T ad (ad 6) (ad 12) rs rm ts tm rdue rtun rsee rbeg psize pclause peff pkin pgri psig psee qsize qclause qeff qkin qgri qsig qsee cdee cnow cahe kdee know kahe fc lf x5 x3 (1 : Int64)) := hD
      refine lv_iconst (v := (1 : Int32)) hx hb dX5_stay_102 (by decide) ?_
      cases h
      exact hret _ _ _ _ hP hD hS dX5_stay_103
    have l28 : ∀ x1 : Int32, ∀ told : Int32, ∀ up : Int64, ∀ lo : Int64, ∀ nu : Nat, ∀ x3 : Int64, ∀ x5 : Int32, ∀ x6 : Int32, fX5_stay_l28 F psize pclause peff pkin psee cnow x1 told up lo nu x3 x5 x6 = some (r, ztold, zup, zlo) → ∀ (H : Heap) (locs : List Loc), va_P D vwCl (wPW T ad (ad 6) (ad 12) rs rm ts tm rdue rtun rsee rbeg psize pclause peff pkin pgri psig psee qsize qclause qeff qkin qgri qsig qsee cdee cnow cahe kdee know kahe fc lf told up lo) H → va_D A (wPW T ad (ad 6) (ad 12) rs rm ts tm rdue rtun rsee rbeg psize pclause peff pkin pgri psig psee qsize qclause qeff qkin qgri qsig qsee cdee cnow cahe kdee know kahe fc lf told up lo) → va_S A s.heap H locs → ∀ (ls : Array Slot), lv_has ls 9 [(0, .ref (ad 0)), (1, .int x1), (3, .long x3), (5, .int x5), (6, .int x6)] → W p l e ({ frames := 32, cells := 0, slots := 0, locals := 956 } : Room) s m args below meth c H locs 0 0 Q (F0 m 28 ls []) := by
      intro x1 told up lo
      intro nu
      induction nu with
      | zero => intro x3 x5 x6 h; exact none_some h
      | succ nu28 ih28 =>
        intro x3 x5 x6 h H locs hP hD hS ls hl
        have h : fX5_stay_l28_b F psize pclause peff pkin psee cnow x1 told up lo (fX5_stay_l28 F psize pclause peff pkin psee cnow x1 told up lo nu28) x3 x5 x6 = some (r, ztold, zup, zlo) := h
        unfold fX5_stay_l28_b at h
        refine lv_iload hx hb dX5_stay_28 (lv_at hl 4 rfl) ?_
        refine lv_iconst (v := (4 : Int32)) hx hb dX5_stay_30 (by decide) ?_
        refine lv_icmp_ge (tgt := 86) hx hb dX5_stay_31 (by decide) (fun c31 => ?_) (fun c31 => ?_)
        · have h := br_1 h c31
          exact n86 x3 x5 told up lo h _ _ hP hD hS _ (lv_sub hl [0, 2, 3] rfl)
        · have h := br_0 h c31
          refine lv_iload_n hx hb dX5_stay_34 rfl (lv_at hl 1 rfl) ?_
          refine lv_if_le (tgt := 86) hx hb dX5_stay_35 (by decide) (fun c35 => ?_) (fun c35 => ?_)
          · have h := br_1 h c35
            exact n86 x3 x5 told up lo h _ _ hP hD hS _ (lv_sub hl [0, 2, 3] rfl)
          · have h := br_0 h c35
            refine lv_aload_n hx hb dX5_stay_38 rfl (lv_at hl 0 rfl) ?_
            refine va_get (D := D) (ci := 3) (C := RX5) (T := TX5) (N := 14) hx hb hts iX5 hown hK hP 0 wPW_0 rfl 5 (by decide) q1 (fun _ h9 => h9) rfl dX5_stay_39 ?_
            refine lv_aload_n hx hb dX5_stay_42 rfl (lv_at hl 0 rfl) ?_
            refine va_get (D := D) (ci := 3) (C := RX5) (T := TX5) (N := 14) hx hb hts iX5 hown hK hP 0 wPW_0 rfl 7 (by decide) q2 (fun _ h9 => h9) rfl dX5_stay_43 ?_
            refine va_getN (host := "PartyWill") (D := D) (ci := 0) (C := RX0) (T := TX0) (N := 3) hx hb hts iX0 hown hK hP 18 wPW_18 rfl 1 (by decide) (va_Nw.use rfl (nw_X5_127 hKK.2)) (fun _ h9 => h9) rfl dX5_stay_46 ?_
            refine lv_iload hx hb dX5_stay_49 (lv_at hl 4 rfl) ?_
            refine lv_iload_n hx hb dX5_stay_51 rfl (lv_at hl 1 rfl) ?_
            refine lv_iconst (v := (1 : Int32)) hx hb dX5_stay_52 (by decide) ?_
            refine lv_isub hx hb dX5_stay_53 ?_
            obtain ⟨r54, hc, h⟩ := bd1_some h
            have hPc : va_P D vwCl (wPa T (ad 6) (ad 7) (ad 8) (ad 9) (ad 10) (ad 11) psize pclause peff pkin pgri psig psee) _ := my_subP sb_wPW_wPa_6to11 hP
            refine my_rol (va_Run.run (va_runSN (host := "PartyWill") (As := [.ref (ad 6), .long cnow, .int x6, .int (x1 - (1 : Int32))]) (rest := []) hFix (kX3_stayingBehind l D T F 8 (ad 6) (ad 7) (ad 8) (ad 9) (ad 10) (ad 11) psize pclause peff pkin pgri psig psee cnow x6 (x1 - (1 : Int32)) r54 hc) ⟨va_cnB 4 hts gX5_stay_X3_stayingBehind_n201 rfl rfl rfl (nw_X5_201 hKK.2) q12 hd_X3_stayingBehind ⟨Nat.le_of_ble_eq_true rfl, Nat.le_of_ble_eq_true rfl⟩, q11, trivial⟩ (preS_ro hPc hKK) rfl rfl hl.1 rfl (lv_room (Nat.le_of_ble_eq_true rfl)) dX5_stay_54 ⟨Nat.zero_le _, Nat.zero_le _⟩)) ?_
            refine lv_lstore (lv' := [(7, .long r54), (0, .ref (ad 0)), (1, .int x1), (3, .long x3), (5, .int x5), (6, .int x6)]) hx hb dX5_stay_57 hl (by decide) rfl (fun ls hl => ?_)
            refine lv_lload_n hx hb dX5_stay_59 rfl (lv_at hl 3 rfl) ?_
            refine lv_lload hx hb dX5_stay_60 (lv_at hl 0 rfl) ?_
            refine lv_ladd hx hb dX5_stay_62 ?_
            refine lv_lstore_n (lv' := [(3, .long (x3 + r54)), (7, .long r54), (0, .ref (ad 0)), (1, .int x1), (5, .int x5), (6, .int x6)]) hx hb dX5_stay_63 rfl hl (by decide) rfl (fun ls hl => ?_)
            refine lv_lload hx hb dX5_stay_64 (lv_at hl 1 rfl) ?_
            refine lv_lconst (v := (0 : Int64)) hx hb dX5_stay_66 (by decide) ?_
            refine W.lcmp hx hb dX5_stay_67 ?_
            refine lv_if_le (tgt := 80) hx hb dX5_stay_68 (by decide) (fun c68 => ?_) (fun c68 => ?_)
            · have h := br_1 h c68
              refine lv_iinc (v := (x6 + (1 : Int32))) (lv' := [(6, .int (x6 + (1 : Int32))), (3, .long (x3 + r54)), (7, .long r54), (0, .ref (ad 0)), (1, .int x1), (5, .int x5)]) hx hb dX5_stay_80 hl (k := 5) rfl rfl (by decide) rfl (fun ls hl => ?_)
              refine lv_goto (tgt := 28) hx hb dX5_stay_83 (by decide) ?_
              exact ih28 (x3 + r54) x5 (x6 + (1 : Int32)) h _ _ hP hD hS _ (lv_sub hl [3, 4, 1, 5, 0] rfl)
            · have h := br_0 h c68
              refine lv_iload hx hb dX5_stay_71 (lv_at hl 4 rfl) ?_
              refine lv_iconst (v := (1 : Int32)) hx hb dX5_stay_73 (by decide) ?_
              refine lv_iload hx hb dX5_stay_74 (lv_at hl 5 rfl) ?_
              refine lv_ishl hx hb dX5_stay_76 ?_
              refine lv_ior hx hb dX5_stay_77 ?_
              refine lv_istore (lv' := [(5, .int (x5 ||| ((1 : Int32) <<< (x6 &&& 31)))), (3, .long (x3 + r54)), (7, .long r54), (0, .ref (ad 0)), (1, .int x1), (6, .int x6)]) hx hb dX5_stay_78 hl (by decide) rfl (fun ls hl => ?_)
              refine lv_iinc (v := (x6 + (1 : Int32))) (lv' := [(6, .int (x6 + (1 : Int32))), (5, .int (x5 ||| ((1 : Int32) <<< (x6 &&& 31)))), (3, .long (x3 + r54)), (7, .long r54), (0, .ref (ad 0)), (1, .int x1)]) hx hb dX5_stay_80 hl (k := 5) rfl rfl (by decide) rfl (fun ls hl => ?_)
              refine lv_goto (tgt := 28) hx hb dX5_stay_83 (by decide) ?_
              exact ih28 (x3 + r54) (x5 ||| ((1 : Int32) <<< (x6 &&& 31))) (x6 + (1 : Int32)) h _ _ hP hD hS _ (lv_sub hl [4, 5, 2, 1, 0] rfl)
    unfold fX5_stay at h
    refine lv_aload_n hx hb dX5_stay_0 rfl (lv_at hl 0 rfl) ?_
    refine lv_iload_n hx hb dX5_stay_1 rfl (lv_at hl 1 rfl) ?_
    obtain ⟨r2, hc, h⟩ := bd1_some h
    refine my_roi (va_Run.run (va_runV (As := [.int x1]) (rest := []) hFix (kX5_searchRefusal l D T F ad rs rm ts tm rdue rtun rsee rbeg psize pclause peff pkin pgri psig psee qsize qclause qeff qkin qgri qsig qsee cdee cnow cahe kdee know kahe fc lf told up lo x1 r2 hc) (cwV 1 hts gX5_stay_X5_searchRefusal rfl rfl rfl ⟨rfl, hd_X5_searchRefusal⟩ ⟨Nat.le_of_ble_eq_true rfl, Nat.le_of_ble_eq_true rfl⟩) (preV_ro hP hKK (va_recv hK hP (ci := 3) (q0 := 0) rfl wPW_0)) rfl rfl hl.1 rfl (lv_room (Nat.le_of_ble_eq_true rfl)) dX5_stay_2 ⟨Nat.zero_le _, Nat.zero_le _⟩)) ?_
    refine lv_istore_n (lv' := [(2, .int r2), (0, .ref (ad 0)), (1, .int x1)]) hx hb dX5_stay_5 rfl hl (by decide) rfl (fun ls hl => ?_)
    refine lv_iload_n hx hb dX5_stay_6 rfl (lv_at hl 0 rfl) ?_
    refine lv_if_eq (tgt := 12) hx hb dX5_stay_7 (by decide) (fun c7 => ?_) (fun c7 => ?_)
    · have h := br_1 h c7
      refine lv_iload_n hx hb dX5_stay_12 rfl (lv_at hl 2 rfl) ?_
      refine lv_if_ne (tgt := 20) hx hb dX5_stay_13 (by decide) (fun c13 => ?_) (fun c13 => ?_)
      · have h := br_0 h c13
        refine lv_lconst (v := (0 : Int64)) hx hb dX5_stay_20 (by decide) ?_
        refine lv_lstore_n (lv' := [(3, .long (0 : Int64)), (2, .int r2), (0, .ref (ad 0)), (1, .int x1)]) hx hb dX5_stay_21 rfl hl (by decide) rfl (fun ls hl => ?_)
        refine lv_iconst (v := (0 : Int32)) hx hb dX5_stay_22 (by decide) ?_
        refine lv_istore (lv' := [(5, .int (0 : Int32)), (3, .long (0 : Int64)), (2, .int r2), (0, .ref (ad 0)), (1, .int x1)]) hx hb dX5_stay_23 hl (by decide) rfl (fun ls hl => ?_)
        refine lv_iconst (v := (0 : Int32)) hx hb dX5_stay_25 (by decide) ?_
        refine lv_istore (lv' := [(6, .int (0 : Int32)), (5, .int (0 : Int32)), (3, .long (0 : Int64)), (2, .int r2), (0, .ref (ad 0)), (1, .int x1)]) hx hb dX5_stay_26 hl (by decide) rfl (fun ls hl => ?_)
        exact l28 x1 told up lo F (0 : Int64) (0 : Int32) (0 : Int32) h _ _ hP hD hS _ (lv_sub hl [4, 5, 2, 1, 0] rfl)
      · have h := br_1 h c13
        refine lv_lconst (v := (1 : Int64)) hx hb dX5_stay_16 (by decide) ?_
        refine lv_goto (tgt := 21) hx hb dX5_stay_17 (by decide) ?_
        refine lv_lstore_n (lv' := [(3, .long (1 : Int64)), (2, .int r2), (0, .ref (ad 0)), (1, .int x1)]) hx hb dX5_stay_21 rfl hl (by decide) rfl (fun ls hl => ?_)
        refine lv_iconst (v := (0 : Int32)) hx hb dX5_stay_22 (by decide) ?_
        refine lv_istore (lv' := [(5, .int (0 : Int32)), (3, .long (1 : Int64)), (2, .int r2), (0, .ref (ad 0)), (1, .int x1)]) hx hb dX5_stay_23 hl (by decide) rfl (fun ls hl => ?_)
        refine lv_iconst (v := (0 : Int32)) hx hb dX5_stay_25 (by decide) ?_
        refine lv_istore (lv' := [(6, .int (0 : Int32)), (5, .int (0 : Int32)), (3, .long (1 : Int64)), (2, .int r2), (0, .ref (ad 0)), (1, .int x1)]) hx hb dX5_stay_26 hl (by decide) rfl (fun ls hl => ?_)
        exact l28 x1 told up lo F (1 : Int64) (0 : Int32) (0 : Int32) h _ _ hP hD hS _ (lv_sub hl [4, 5, 2, 1, 0] rfl)
    · have h := br_0 h c7
      refine lv_iload_n hx hb dX5_stay_10 rfl (lv_at hl 0 rfl) ?_
      cases h
      exact hret _ _ _ _ hP hD hS dX5_stay_11
  exact key _ (fun H locs pc ls hP hD hS hd => W.iret hx hb hr (fun t ht hW => ⟨⟨_, (), rfl, rfl, by show _ ∧ _; rw [ht]; exact ⟨hP, hD⟩⟩, hS.F ht⟩) hS.2.2 hd)
set_option maxHeartbeats 4000000 in
set_option maxRecDepth 100000 in
theorem kX5_makeProgramme (l : Launch) (D : va_G) (T : Nat → ClassId) (F : Nat) (ad : Nat → Nat) (rs : Nat → Int32) (rm : Nat → Nat → Int32) (ts : Nat → Int32) (tm : Nat → Nat → Int32) (rdue : Int32) (rtun : Int32) (rsee : Int32) (rbeg : Int32) (psize : Int32) (pclause : Int32) (peff : Nat → Int32) (pkin : Nat → Int32) (pgri : Nat → Int32) (psig : Nat → Int32) (psee : Nat → Int32) (qsize : Int32) (qclause : Int32) (qeff : Nat → Int32) (qkin : Nat → Int32) (qgri : Nat → Int32) (qsig : Nat → Int32) (qsee : Nat → Int32) (cdee : Int32) (cnow : Int64) (cahe : Nat → Int64) (kdee : Nat → Int32) (know : Nat → Int64) (kahe : Nat → Nat → Int64) (fc : Nat → Int32) (lf : Int32) (told : Int32) (up : Int64) (lo : Int64) (x1 : Int32) (x2 : Int32) (x3 : Int32) (zrs : Nat → Int32) (zrm : Nat → Nat → Int32) (h : fX5_makeProgramme F rs rm x1 x2 x3 = some (zrs, zrm)) : ∀ sz : Nat, Met l yX5_makeProgramme wsX5_makeProgramme ({ frames := 1, cells := 0, slots := 0, locals := 23 } : Room) (va_Pc [.ref (ad 0), .int x1, .int x2, .int x3] (fun U => U.heap.size = sz ∧ va_P D vwCl (wPW T ad (ad 6) (ad 12) rs rm ts tm rdue rtun rsee rbeg psize pclause peff pkin pgri psig psee qsize qclause qeff qkin qgri qsig qsee cdee cnow cahe kdee know kahe fc lf told up lo) U.heap ∧ KK D T U ∧ va_D (fun _ => True) (wPW T ad (ad 6) (ad 12) rs rm ts tm rdue rtun rsee rbeg psize pclause peff pkin pgri psig psee qsize qclause qeff qkin qgri qsig qsee cdee cnow cahe kdee know kahe fc lf told up lo))) (va_Qv (fun _ : Unit => True) (fun _ t => va_P D vwCl (wPW T ad (ad 6) (ad 12) zrs zrm ts tm rdue rtun rsee rbeg psize pclause peff pkin pgri psig psee qsize qclause qeff qkin qgri qsig qsee cdee cnow cahe kdee know kahe fc lf told up lo) t.heap ∧ va_D (va_A (wPW T ad (ad 6) (ad 12) rs rm ts tm rdue rtun rsee rbeg psize pclause peff pkin pgri psig psee qsize qclause qeff qkin qgri qsig qsee cdee cnow cahe kdee know kahe fc lf told up lo) sz) (wPW T ad (ad 6) (ad 12) zrs zrm ts tm rdue rtun rsee rbeg psize pclause peff pkin pgri psig psee qsize qclause qeff qkin qgri qsig qsee cdee cnow cahe kdee know kahe fc lf told up lo)) (va_A (wPW T ad (ad 6) (ad 12) rs rm ts tm rdue rtun rsee rbeg psize pclause peff pkin pgri psig psee qsize qclause qeff qkin qgri qsig qsee cdee cnow cahe kdee know kahe fc lf told up lo) sz)) 0 0 (va_A (wPW T ad (ad 6) (ad 12) rs rm ts tm rdue rtun rsee rbeg psize pclause peff pkin pgri psig psee qsize qclause qeff qkin qgri qsig qsee cdee cnow cahe kdee know kahe fc lf told up lo) sz) := by
  intro sz
  refine Met.ofW (cc := cX5_makeProgramme) (maxL := 5) (ret := none) (by decide) rfl ?_
  intro p e s m args below meth c s₁ B hml hv
  obtain ⟨ha, hsz, hP, hKK, hD0⟩ := hv
  have hx := B.exec
  have hb := B.bytes
  have hr := B.returns
  have hts := atoms_spec (ws := wsX5_makeProgramme) B.pre
  have hown : s.vm.findClass RX5 = some m.cls := findClass_of_methodNamed B.named
  have hlocks := B.notSynchronized
  have hK := hKK.1
  have hFix : CallFix p m c cX5_makeProgramme 5 s args wsX5_makeProgramme RX5 := ⟨hx, hb, hml, hown, hts⟩
  have q1 := hts _ (List.mem_of_getElem? (i := 1) (show wsX5_makeProgramme[1]? = some (Cond.fieldLink RX5 11 "PartyWill" "rows" "[[I") from rfl))
  have iX5 : ∀ w ∈ u_ws RX5 TX5 14, w ∈ wsX5_makeProgramme := fun w h => List.mem_cons_of_mem _ (List.mem_append_right _ (h))
  subst hsz
  have hD := hD0.self (sz := s.heap.size)
  generalize hAe : va_A (wPW T ad (ad 6) (ad 12) rs rm ts tm rdue rtun rsee rbeg psize pclause peff pkin pgri psig psee qsize qclause qeff qkin qgri qsig qsee cdee cnow cahe kdee know kahe fc lf told up lo) s.heap.size = A at hD ⊢
  have hA : ∀ q : Nat, s.heap.size ≤ q → A q := fun q h => by rw [← hAe]; exact Or.inr h
  have hS : va_S A s.heap s.heap [] := va_S.rf
  have hP : va_P D vwCl (wPW T ad (ad 6) (ad 12) rs rm ts tm rdue rtun rsee rbeg psize pclause peff pkin pgri psig psee qsize qclause qeff qkin qgri qsig qsee cdee cnow cahe kdee know kahe fc lf told up lo) s.heap := hP
  obtain ⟨ls, hl, e0⟩ := my_entry (m := m) (n := 5) ha (Nat.le_of_ble_eq_true rfl)
  rw [e0]
  have hl : lv_has ls 5 [(0, .ref (ad 0)), (1, .int x1), (2, .int x2), (3, .int x3)] := hl
  have key : ∀ Q : State → Prop, (∀ (H : Heap) (locs : List Loc) (pc : Nat) (ls : Array Slot), va_P D vwCl (wPW T ad (ad 6) (ad 12) zrs zrm ts tm rdue rtun rsee rbeg psize pclause peff pkin pgri psig psee qsize qclause qeff qkin qgri qsig qsee cdee cnow cahe kdee know kahe fc lf told up lo) H → va_D A (wPW T ad (ad 6) (ad 12) zrs zrm ts tm rdue rtun rsee rbeg psize pclause peff pkin pgri psig psee qsize qclause qeff qkin qgri qsig qsee cdee cnow cahe kdee know kahe fc lf told up lo) → va_S A s.heap H locs → decode cX5_makeProgramme pc = .ok (.return_, 1) → W p l e ({ frames := 1, cells := 0, slots := 0, locals := 23 } : Room) s m args below meth c H locs 0 0 Q (F0 m pc ls [])) → W p l e ({ frames := 1, cells := 0, slots := 0, locals := 23 } : Room) s m args below meth c s.heap [] 0 0 Q (F0 m 0 ls []) := by
    intro Q hret
    skip
    have l9 : ∀ x1 : Int32, ∀ x2 : Int32, ∀ x3 : Int32, ∀ rs : Nat → Int32, ∀ nu : Nat, ∀ x4 : Int32, ∀ rm : Nat → Nat → Int32, fX5_makeProgramme_l9 F x1 x2 x3 rs nu x4 rm = some (zrs, zrm) → ∀ (H : Heap) (locs : List Loc), va_P D vwCl (wPW T ad (ad 6) (ad 12) rs rm ts tm rdue rtun rsee rbeg psize pclause peff pkin pgri psig psee qsize qclause qeff qkin qgri qsig qsee cdee cnow cahe kdee know kahe fc lf told up lo) H → va_D A (wPW T ad (ad 6) (ad 12) rs rm ts tm rdue rtun rsee rbeg psize pclause peff pkin pgri psig psee qsize qclause qeff qkin qgri qsig qsee cdee cnow cahe kdee know kahe fc lf told up lo) → va_S A s.heap H locs → ∀ (ls : Array Slot), lv_has ls 5 [(0, .ref (ad 0)), (1, .int x1), (2, .int x2), (3, .int x3), (4, .int x4)] → W p l e ({ frames := 1, cells := 0, slots := 0, locals := 23 } : Room) s m args below meth c H locs 0 0 Q (F0 m 9 ls []) := by
      intro x1 x2 x3 rs
      intro nu
      induction nu with
      | zero => intro x4 rm h; exact none_some h
      | succ nu9 ih9 =>
        intro x4 rm h H locs hP hD hS ls hl
        have h : fX5_makeProgramme_l9_b F x1 x2 x3 rs (fX5_makeProgramme_l9 F x1 x2 x3 rs nu9) x4 rm = some (zrs, zrm) := h
        unfold fX5_makeProgramme_l9_b at h
        refine lv_iload hx hb dX5_makeProgramme_9 (lv_at hl 4 rfl) ?_
        refine lv_iload_n hx hb dX5_makeProgramme_11 rfl (lv_at hl 2 rfl) ?_
        refine lv_icmp_ge (tgt := 42) hx hb dX5_makeProgramme_12 (by decide) (fun c12 => ?_) (fun c12 => ?_)
        · have h := br_1 h c12
          cases h
          exact hret _ _ _ _ hP hD hS dX5_makeProgramme_42
        · have h := br_0 h c12
          refine lv_aload_n hx hb dX5_makeProgramme_15 rfl (lv_at hl 0 rfl) ?_
          refine va_get (D := D) (ci := 3) (C := RX5) (T := TX5) (N := 14) hx hb hts iX5 hown hK hP 0 wPW_0 rfl 0 (by decide) q1 (fun _ h9 => h9) rfl dX5_makeProgramme_16 ?_
          refine lv_iload_n hx hb dX5_makeProgramme_19 rfl (lv_at hl 1 rfl) ?_
          obtain ⟨hin2, h⟩ := ck_some h
          have hk1 : x1.toNatClampNeg < 6 := vp_lt hin2
          refine my_ald (b := (ad (28 + x1.toNatClampNeg))) rfl hx hb hK hP 1 4 wPW_1 rfl hin2 (fun _ => if_pos hk1) dX5_makeProgramme_20 ?_
          refine lv_iload hx hb dX5_makeProgramme_21 (lv_at hl 4 rfl) ?_
          refine lv_iload_n hx hb dX5_makeProgramme_23 rfl (lv_at hl 3 rfl) ?_
          refine lv_iconst (v := (2 : Int32)) hx hb dX5_makeProgramme_24 (by decide) ?_
          refine lv_iload_n hx hb dX5_makeProgramme_25 rfl (lv_at hl 2 rfl) ?_
          refine lv_iconst (v := (1 : Int32)) hx hb dX5_makeProgramme_26 (by decide) ?_
          refine lv_isub hx hb dX5_makeProgramme_27 ?_
          refine lv_iload hx hb dX5_makeProgramme_28 (lv_at hl 4 rfl) ?_
          refine lv_isub hx hb dX5_makeProgramme_30 ?_
          refine lv_imul hx hb dX5_makeProgramme_31 ?_
          refine lv_ishr hx hb dX5_makeProgramme_32 ?_
          refine lv_iconst (v := (3 : Int32)) hx hb dX5_makeProgramme_33 (by decide) ?_
          refine lv_iand hx hb dX5_makeProgramme_34 ?_
          obtain ⟨hin3, h⟩ := ck_some h
          refine va_iast hx hb hK hP hD hS (28 + x1.toNatClampNeg) 0 (wPW_f_rows0 hk1) rfl hin3 dX5_makeProgramme_35 (fun H locs hP hD hS => ?_)
          have hP : va_P D vwCl (wPW T ad (ad 6) (ad 12) rs (va_up rm x1.toNatClampNeg (upd (rm x1.toNatClampNeg) x4.toNatClampNeg ((x3 >>> (((2 : Int32) * ((x2 - (1 : Int32)) - x4)) &&& 31)) &&& (3 : Int32)))) ts tm rdue rtun rsee rbeg psize pclause peff pkin pgri psig psee qsize qclause qeff qkin qgri qsig qsee cdee cnow cahe kdee know kahe fc lf told up lo) H := my_eqP (wPW_s_rows0 hk1) hP
          have hD : va_D A (wPW T ad (ad 6) (ad 12) rs (va_up rm x1.toNatClampNeg (upd (rm x1.toNatClampNeg) x4.toNatClampNeg ((x3 >>> (((2 : Int32) * ((x2 - (1 : Int32)) - x4)) &&& 31)) &&& (3 : Int32)))) ts tm rdue rtun rsee rbeg psize pclause peff pkin pgri psig psee qsize qclause qeff qkin qgri qsig qsee cdee cnow cahe kdee know kahe fc lf told up lo) := my_eqD (wPW_s_rows0 hk1) hD
          refine lv_iinc (v := (x4 + (1 : Int32))) (lv' := [(4, .int (x4 + (1 : Int32))), (0, .ref (ad 0)), (1, .int x1), (2, .int x2), (3, .int x3)]) hx hb dX5_makeProgramme_36 hl (k := 4) rfl rfl (by decide) rfl (fun ls hl => ?_)
          refine lv_goto (tgt := 9) hx hb dX5_makeProgramme_39 (by decide) ?_
          exact ih9 (x4 + (1 : Int32)) (va_up rm x1.toNatClampNeg (upd (rm x1.toNatClampNeg) x4.toNatClampNeg ((x3 >>> (((2 : Int32) * ((x2 - (1 : Int32)) - x4)) &&& 31)) &&& (3 : Int32)))) h _ _ hP hD hS _ (lv_sub hl [1, 2, 3, 4, 0] rfl)
    unfold fX5_makeProgramme at h
    refine lv_aload_n hx hb dX5_makeProgramme_0 rfl (lv_at hl 0 rfl) ?_
    refine lv_iload_n hx hb dX5_makeProgramme_1 rfl (lv_at hl 1 rfl) ?_
    refine lv_iload_n hx hb dX5_makeProgramme_2 rfl (lv_at hl 2 rfl) ?_
    obtain ⟨w3_rs, w3_rm, hc, h⟩ := bd2_some h
    have hFc := my_freeS hD hS hA
    refine my_rwv (va_runV (As := [.int x1, .int x2]) (rest := []) hFix (kX5_makeRow l D T F ad rs rm ts tm rdue rtun rsee rbeg psize pclause peff pkin pgri psig psee qsize qclause qeff qkin qgri qsig qsee cdee cnow cahe kdee know kahe fc lf told up lo x1 x2 w3_rs w3_rm hc _) (cwV 2 hts gX5_makeProgramme_X5_makeRow rfl rfl rfl ⟨rfl, hd_X5_makeRow⟩ ⟨Nat.le_of_ble_eq_true rfl, Nat.le_of_ble_eq_true rfl⟩) (preV_rw hP hKK hD (va_recv hK hP (ci := 3) (q0 := 0) rfl wPW_0)) rfl rfl hl.1 rfl (lv_room (Nat.le_of_ble_eq_true rfl)) dX5_makeProgramme_3 ⟨Nat.zero_le _, Nat.zero_le _⟩) hS hFc (fun H1 locs hP1 hD1 hz1 hkk hS => ?_)
    have hP : va_P D vwCl (wPW T ad (ad 6) (ad 12) w3_rs w3_rm ts tm rdue rtun rsee rbeg psize pclause peff pkin pgri psig psee qsize qclause qeff qkin qgri qsig qsee cdee cnow cahe kdee know kahe fc lf told up lo) H1 := hP1
    have hD : va_D A (wPW T ad (ad 6) (ad 12) w3_rs w3_rm ts tm rdue rtun rsee rbeg psize pclause peff pkin pgri psig psee qsize qclause qeff qkin qgri qsig qsee cdee cnow cahe kdee know kahe fc lf told up lo) := hD1.weaken (fun _ q _ h => hFc q.1 h)
    generalize H1 = H at hP hS ⊢
    refine lv_iconst (v := (0 : Int32)) hx hb dX5_makeProgramme_6 (by decide) ?_
    refine lv_istore (lv' := [(4, .int (0 : Int32)), (0, .ref (ad 0)), (1, .int x1), (2, .int x2), (3, .int x3)]) hx hb dX5_makeProgramme_7 hl (by decide) rfl (fun ls hl => ?_)
    exact l9 x1 x2 x3 w3_rs F (0 : Int32) w3_rm h _ _ hP hD hS _ (lv_sub hl [1, 2, 3, 4, 0] rfl)
  exact key _ (fun H locs pc ls hP hD hS hd => W.vret hx hb hr (fun t ht hW => ⟨⟨(), rfl, trivial, by show _ ∧ _; rw [ht]; exact ⟨hP, hD⟩⟩, hS.F ht⟩) hS.2.2 hd)
set_option maxHeartbeats 4000000 in
set_option maxRecDepth 100000 in
theorem kX5_first (l : Launch) (D : va_G) (T : Nat → ClassId) (F : Nat) (ad : Nat → Nat) (rs : Nat → Int32) (rm : Nat → Nat → Int32) (ts : Nat → Int32) (tm : Nat → Nat → Int32) (rdue : Int32) (rtun : Int32) (rsee : Int32) (rbeg : Int32) (psize : Int32) (pclause : Int32) (peff : Nat → Int32) (pkin : Nat → Int32) (pgri : Nat → Int32) (psig : Nat → Int32) (psee : Nat → Int32) (qsize : Int32) (qclause : Int32) (qeff : Nat → Int32) (qkin : Nat → Int32) (qgri : Nat → Int32) (qsig : Nat → Int32) (qsee : Nat → Int32) (cdee : Int32) (cnow : Int64) (cahe : Nat → Int64) (kdee : Nat → Int32) (know : Nat → Int64) (kahe : Nat → Nat → Int64) (fc : Nat → Int32) (lf : Int32) (told : Int32) (up : Int64) (lo : Int64) (x1 : Int32) (x2 : Int32) (r : Int32) (zrs : Nat → Int32) (zrm : Nat → Nat → Int32) (h : fX5_first F rs rm psize pclause peff pkin psee cnow x1 x2 = some (r, zrs, zrm)) : ∀ sz : Nat, Met l yX5_first wsX5_first ({ frames := 31, cells := 0, slots := 0, locals := 927 } : Room) (va_Pc [.ref (ad 0), .int x1, .int x2] (fun U => U.heap.size = sz ∧ va_P D vwCl (wPW T ad (ad 6) (ad 12) rs rm ts tm rdue rtun rsee rbeg psize pclause peff pkin pgri psig psee qsize qclause qeff qkin qgri qsig qsee cdee cnow cahe kdee know kahe fc lf told up lo) U.heap ∧ KK D T U ∧ va_D (fun _ => True) (wPW T ad (ad 6) (ad 12) rs rm ts tm rdue rtun rsee rbeg psize pclause peff pkin pgri psig psee qsize qclause qeff qkin qgri qsig qsee cdee cnow cahe kdee know kahe fc lf told up lo))) (va_Qi (fun r' (_ : Unit) => r' = r) (fun _ t => va_P D vwCl (wPW T ad (ad 6) (ad 12) zrs zrm ts tm rdue rtun rsee rbeg psize pclause peff pkin pgri psig psee qsize qclause qeff qkin qgri qsig qsee cdee cnow cahe kdee know kahe fc lf told up lo) t.heap ∧ va_D (va_A (wPW T ad (ad 6) (ad 12) rs rm ts tm rdue rtun rsee rbeg psize pclause peff pkin pgri psig psee qsize qclause qeff qkin qgri qsig qsee cdee cnow cahe kdee know kahe fc lf told up lo) sz) (wPW T ad (ad 6) (ad 12) zrs zrm ts tm rdue rtun rsee rbeg psize pclause peff pkin pgri psig psee qsize qclause qeff qkin qgri qsig qsee cdee cnow cahe kdee know kahe fc lf told up lo)) (va_A (wPW T ad (ad 6) (ad 12) rs rm ts tm rdue rtun rsee rbeg psize pclause peff pkin pgri psig psee qsize qclause qeff qkin qgri qsig qsee cdee cnow cahe kdee know kahe fc lf told up lo) sz)) 0 0 (va_A (wPW T ad (ad 6) (ad 12) rs rm ts tm rdue rtun rsee rbeg psize pclause peff pkin pgri psig psee qsize qclause qeff qkin qgri qsig qsee cdee cnow cahe kdee know kahe fc lf told up lo) sz) := by
  intro sz
  refine Met.ofW (cc := cX5_first) (maxL := 5) (ret := some .int) (by decide) rfl ?_
  intro p e s m args below meth c s₁ B hml hv
  obtain ⟨ha, hsz, hP, hKK, hD0⟩ := hv
  have hx := B.exec
  have hb := B.bytes
  have hr := B.returns
  have hts := atoms_spec (ws := wsX5_first) B.pre
  have hown : s.vm.findClass RX5 = some m.cls := findClass_of_methodNamed B.named
  have hlocks := B.notSynchronized
  have hK := hKK.1
  have hFix : CallFix p m c cX5_first 5 s args wsX5_first RX5 := ⟨hx, hb, hml, hown, hts⟩
  have q1 := hts _ (List.mem_of_getElem? (i := 1) (show wsX5_first[1]? = some (Cond.fieldLink RX5 36 "PartyWill" "party" "LPartyWill$Party;") from rfl))
  have q2 := hts _ (List.mem_of_getElem? (i := 2) (show wsX5_first[2]? = some (Cond.fieldLink RX5 46 "PartyWill" "course" "LPartyWill$Course;") from rfl))
  have q11 := hts _ (List.mem_of_getElem? (i := 11) (show wsX5_first[11]? = some (Cond.static yX1_howManyIn) from rfl))
  have q12 := hts _ (List.mem_of_getElem? (i := 12) (show wsX5_first[12]? = some (Cond.initialized RX1) from rfl))
  have q24 := hts _ (List.mem_of_getElem? (i := 24) (show wsX5_first[24]? = some (Cond.static yX3_firstLeaving) from rfl))
  have q25 := hts _ (List.mem_of_getElem? (i := 25) (show wsX5_first[25]? = some (Cond.initialized RX3) from rfl))
  have iX0 : ∀ w ∈ u_ws RX0 TX0 3, w ∈ wsX5_first := fun w h => List.mem_cons_of_mem _ (List.mem_append_left _ (List.mem_append_right _ (h)))
  have iX5 : ∀ w ∈ u_ws RX5 TX5 14, w ∈ wsX5_first := fun w h => List.mem_cons_of_mem _ (List.mem_append_left _ (List.mem_append_left _ (List.mem_append_right _ (h))))
  subst hsz
  have hD := hD0.self (sz := s.heap.size)
  generalize hAe : va_A (wPW T ad (ad 6) (ad 12) rs rm ts tm rdue rtun rsee rbeg psize pclause peff pkin pgri psig psee qsize qclause qeff qkin qgri qsig qsee cdee cnow cahe kdee know kahe fc lf told up lo) s.heap.size = A at hD ⊢
  have hA : ∀ q : Nat, s.heap.size ≤ q → A q := fun q h => by rw [← hAe]; exact Or.inr h
  have hS : va_S A s.heap s.heap [] := va_S.rf
  have hP : va_P D vwCl (wPW T ad (ad 6) (ad 12) rs rm ts tm rdue rtun rsee rbeg psize pclause peff pkin pgri psig psee qsize qclause qeff qkin qgri qsig qsee cdee cnow cahe kdee know kahe fc lf told up lo) s.heap := hP
  obtain ⟨ls, hl, e0⟩ := my_entry (m := m) (n := 5) ha (Nat.le_of_ble_eq_true rfl)
  rw [e0]
  have hl : lv_has ls 5 [(0, .ref (ad 0)), (1, .int x1), (2, .int x2)] := hl
  have key : ∀ Q : State → Prop, (∀ (H : Heap) (locs : List Loc) (pc : Nat) (ls : Array Slot), va_P D vwCl (wPW T ad (ad 6) (ad 12) zrs zrm ts tm rdue rtun rsee rbeg psize pclause peff pkin pgri psig psee qsize qclause qeff qkin qgri qsig qsee cdee cnow cahe kdee know kahe fc lf told up lo) H → va_D A (wPW T ad (ad 6) (ad 12) zrs zrm ts tm rdue rtun rsee rbeg psize pclause peff pkin pgri psig psee qsize qclause qeff qkin qgri qsig qsee cdee cnow cahe kdee know kahe fc lf told up lo) → va_S A s.heap H locs → decode cX5_first pc = .ok (.ireturn, 1) → W p l e ({ frames := 31, cells := 0, slots := 0, locals := 927 } : Room) s m args below meth c H locs 0 0 Q (F0 m pc ls [.int r])) → W p l e ({ frames := 31, cells := 0, slots := 0, locals := 927 } : Room) s m args below meth c s.heap [] 0 0 Q (F0 m 0 ls []) := by
    intro Q hret
    skip
    have n16 : ∀ s_0 : Int32, ∀ x1 : Int32, ∀ x2 : Int32, ∀ rs : Nat → Int32, ∀ rm : Nat → Nat → Int32, fX5_first_n16 F psize pclause peff pkin psee cnow s_0 x1 x2 rs rm = some (r, zrs, zrm) → ∀ (H : Heap) (locs : List Loc), va_P D vwCl (wPW T ad (ad 6) (ad 12) rs rm ts tm rdue rtun rsee rbeg psize pclause peff pkin pgri psig psee qsize qclause qeff qkin qgri qsig qsee cdee cnow cahe kdee know kahe fc lf told up lo) H → va_D A (wPW T ad (ad 6) (ad 12) rs rm ts tm rdue rtun rsee rbeg psize pclause peff pkin pgri psig psee qsize qclause qeff qkin qgri qsig qsee cdee cnow cahe kdee know kahe fc lf told up lo) → va_S A s.heap H locs → ∀ (ls : Array Slot), lv_has ls 5 [(0, .ref (ad 0)), (1, .int x1), (2, .int x2)] → W p l e ({ frames := 31, cells := 0, slots := 0, locals := 927 } : Room) s m args below meth c H locs 0 0 Q (F0 m 16 ls [.int s_0]) := by
      intro s_0 x1 x2 rs rm h H locs hP hD hS ls hl
      unfold fX5_first_n16 at h
      refine lv_istore_n (lv' := [(3, .int s_0), (0, .ref (ad 0)), (1, .int x1), (2, .int x2)]) hx hb dX5_first_16 rfl hl (by decide) rfl (fun ls hl => ?_)
      refine lv_iload_n hx hb dX5_first_17 rfl (lv_at hl 0 rfl) ?_
      refine lv_if_eq (tgt := 23) hx hb dX5_first_18 (by decide) (fun c18 => ?_) (fun c18 => ?_)
      · have h := br_1 h c18
        refine lv_aload_n hx hb dX5_first_23 rfl (lv_at hl 1 rfl) ?_
        refine va_get (D := D) (ci := 3) (C := RX5) (T := TX5) (N := 14) hx hb hts iX5 hown hK hP 0 wPW_0 rfl 5 (by decide) q1 (fun _ h9 => h9) rfl dX5_first_24 ?_
        refine lv_aload_n hx hb dX5_first_27 rfl (lv_at hl 1 rfl) ?_
        refine va_get (D := D) (ci := 3) (C := RX5) (T := TX5) (N := 14) hx hb hts iX5 hown hK hP 0 wPW_0 rfl 7 (by decide) q2 (fun _ h9 => h9) rfl dX5_first_28 ?_
        refine va_getN (host := "PartyWill") (D := D) (ci := 0) (C := RX0) (T := TX0) (N := 3) hx hb hts iX0 hown hK hP 18 wPW_18 rfl 1 (by decide) (va_Nw.use rfl (nw_X5_127 hKK.2)) (fun _ h9 => h9) rfl dX5_first_31 ?_
        refine lv_iload_n hx hb dX5_first_34 rfl (lv_at hl 2 rfl) ?_
        refine lv_aload_n hx hb dX5_first_35 rfl (lv_at hl 1 rfl) ?_
        refine va_get (D := D) (ci := 3) (C := RX5) (T := TX5) (N := 14) hx hb hts iX5 hown hK hP 0 wPW_0 rfl 7 (by decide) q2 (fun _ h9 => h9) rfl dX5_first_36 ?_
        refine va_getN (host := "PartyWill") (D := D) (ci := 0) (C := RX0) (T := TX0) (N := 3) hx hb hts iX0 hown hK hP 18 wPW_18 rfl 1 (by decide) (va_Nw.use rfl (nw_X5_127 hKK.2)) (fun _ h9 => h9) rfl dX5_first_39 ?_
        obtain ⟨r42, hc, h⟩ := bd1_some h
        refine my_roi (va_Run.run (va_runSN (host := "PartyWill") (As := [.long cnow]) (rest := [.int x1, .long cnow, .ref (ad 6)]) hFix (kX1_howManyIn l D T F cnow r42 hc) ⟨va_cnB 1 hts gX5_first_X1_howManyIn_n207 rfl rfl rfl (nw_X5_207 hKK.2) q12 hd_X1_howManyIn ⟨Nat.le_of_ble_eq_true rfl, Nat.le_of_ble_eq_true rfl⟩, q11, trivial⟩ (preS_ro va_nil hKK) rfl rfl hl.1 rfl (lv_room (Nat.le_of_ble_eq_true rfl)) dX5_first_42 ⟨Nat.zero_le _, Nat.zero_le _⟩)) ?_
        refine lv_iconst (v := (0 : Int32)) hx hb dX5_first_45 (by decide) ?_
        obtain ⟨r46, hc, h⟩ := bd1_some h
        have hPc : va_P D vwCl (wPa T (ad 6) (ad 7) (ad 8) (ad 9) (ad 10) (ad 11) psize pclause peff pkin pgri psig psee) _ := my_subP sb_wPW_wPa_6to11 hP
        refine my_roi (va_Run.run (va_runSN (host := "PartyWill") (As := [.ref (ad 6), .long cnow, .int x1, .int r42, .int (0 : Int32)]) (rest := []) hFix (kX3_firstLeaving l D T F 8 (ad 6) (ad 7) (ad 8) (ad 9) (ad 10) (ad 11) psize pclause peff pkin pgri psig psee cnow x1 r42 (0 : Int32) r46 hc) ⟨va_cnB 5 hts gX5_first_X3_firstLeaving_n210 rfl rfl rfl (nw_X5_210 hKK.2) q25 hd_X3_firstLeaving ⟨Nat.le_of_ble_eq_true rfl, Nat.le_of_ble_eq_true rfl⟩, q24, trivial⟩ (preS_ro hPc hKK) rfl rfl hl.1 rfl (lv_room (Nat.le_of_ble_eq_true rfl)) dX5_first_46 ⟨Nat.zero_le _, Nat.zero_le _⟩)) ?_
        refine lv_istore (lv' := [(4, .int r46), (3, .int s_0), (0, .ref (ad 0)), (1, .int x1), (2, .int x2)]) hx hb dX5_first_49 hl (by decide) rfl (fun ls hl => ?_)
        refine lv_iload hx hb dX5_first_51 (lv_at hl 0 rfl) ?_
        refine lv_bipush (v := (-9 : Int32)) hx hb dX5_first_53 (by decide) ?_
        refine lv_icmp_ne (tgt := 61) hx hb dX5_first_55 (by decide) (fun c55 => ?_) (fun c55 => ?_)
        · have h := br_0 h c55
          refine lv_aload_n hx hb dX5_first_61 rfl (lv_at hl 2 rfl) ?_
          refine lv_iload_n hx hb dX5_first_62 rfl (lv_at hl 4 rfl) ?_
          refine lv_iload_n hx hb dX5_first_63 rfl (lv_at hl 3 rfl) ?_
          refine lv_iload hx hb dX5_first_64 (lv_at hl 0 rfl) ?_
          obtain ⟨w66_rs, w66_rm, hc, h⟩ := bd2_some h
          have hFc := my_freeS hD hS hA
          refine my_rwv (va_runV (As := [.int x2, .int x1, .int r46]) (rest := []) hFix (kX5_makeProgramme l D T F ad rs rm ts tm rdue rtun rsee rbeg psize pclause peff pkin pgri psig psee qsize qclause qeff qkin qgri qsig qsee cdee cnow cahe kdee know kahe fc lf told up lo x2 x1 r46 w66_rs w66_rm hc _) (cwV 3 hts gX5_first_X5_makeProgramme rfl rfl rfl ⟨rfl, hd_X5_makeProgramme⟩ ⟨Nat.le_of_ble_eq_true rfl, Nat.le_of_ble_eq_true rfl⟩) (preV_rw hP hKK hD (va_recv hK hP (ci := 3) (q0 := 0) rfl wPW_0)) rfl rfl hl.1 rfl (lv_room (Nat.le_of_ble_eq_true rfl)) dX5_first_66 ⟨Nat.zero_le _, Nat.zero_le _⟩) hS hFc (fun H1 locs hP1 hD1 hz1 hkk hS => ?_)
          have hP : va_P D vwCl (wPW T ad (ad 6) (ad 12) w66_rs w66_rm ts tm rdue rtun rsee rbeg psize pclause peff pkin pgri psig psee qsize qclause qeff qkin qgri qsig qsee cdee cnow cahe kdee know kahe fc lf told up lo) H1 := hP1
          have hD : va_D A (wPW T ad (ad 6) (ad 12) w66_rs w66_rm ts tm rdue rtun rsee rbeg psize pclause peff pkin pgri psig psee qsize qclause qeff qkin qgri qsig qsee cdee cnow cahe kdee know kahe fc lf told up lo) := hD1.weaken (fun _ q _ h => hFc q.1 h)
          generalize H1 = H at hP hS ⊢
          refine lv_iload_n hx hb dX5_first_69 rfl (lv_at hl 3 rfl) ?_
          cases h
          exact hret _ _ _ _ hP hD hS dX5_first_70
        · have h := br_1 h c55
          refine lv_bipush (v := (-9 : Int32)) hx hb dX5_first_58 (by decide) ?_
          cases h
          exact hret _ _ _ _ hP hD hS dX5_first_60
      · have h := br_0 h c18
        refine lv_iload_n hx hb dX5_first_21 rfl (lv_at hl 0 rfl) ?_
        cases h
        exact hret _ _ _ _ hP hD hS dX5_first_22
    unfold fX5_first at h
    refine lv_iload_n hx hb dX5_first_0 rfl (lv_at hl 2 rfl) ?_
    obtain ⟨r1, hc, h⟩ := bd1_some h
    refine my_roz (va_Run.run (va_runS (As := [.int x2]) (rest := []) hFix (kX5_isRow l D T F x2 r1 hc) (va_cwS 1 hts gX5_first_X5_isRow rfl rfl rfl hd_X5_isRow ⟨Nat.le_of_ble_eq_true rfl, Nat.le_of_ble_eq_true rfl⟩) (preS_ro va_nil hKK) rfl rfl hl.1 rfl (lv_room (Nat.le_of_ble_eq_true rfl)) dX5_first_1 ⟨Nat.zero_le _, Nat.zero_le _⟩)) (fun hb1 => ?_)
    refine lv_if_eq (tgt := 15) hx hb dX5_first_4 (by decide) (fun c4 => ?_) (fun c4 => ?_)
    · have h := br_1 h c4
      refine lv_iconst (v := (-1 : Int32)) hx hb dX5_first_15 (by decide) ?_
      exact n16 (-1 : Int32) x1 x2 rs rm h _ _ hP hD hS _ (lv_sub hl [0, 1, 2] rfl)
    · have h := br_0 h c4
      refine lv_aload_n hx hb dX5_first_7 rfl (lv_at hl 0 rfl) ?_
      refine lv_iload_n hx hb dX5_first_8 rfl (lv_at hl 1 rfl) ?_
      obtain ⟨r9, hc, h⟩ := bd1_some h
      refine my_roi (va_Run.run (va_runV (As := [.int x1]) (rest := []) hFix (kX5_searchRefusal l D T F ad rs rm ts tm rdue rtun rsee rbeg psize pclause peff pkin pgri psig psee qsize qclause qeff qkin qgri qsig qsee cdee cnow cahe kdee know kahe fc lf told up lo x1 r9 hc) (cwV 1 hts gX5_first_X5_searchRefusal rfl rfl rfl ⟨rfl, hd_X5_searchRefusal⟩ ⟨Nat.le_of_ble_eq_true rfl, Nat.le_of_ble_eq_true rfl⟩) (preV_ro hP hKK (va_recv hK hP (ci := 3) (q0 := 0) rfl wPW_0)) rfl rfl hl.1 rfl (lv_room (Nat.le_of_ble_eq_true rfl)) dX5_first_9 ⟨Nat.zero_le _, Nat.zero_le _⟩)) ?_
      refine lv_goto (tgt := 16) hx hb dX5_first_12 (by decide) ?_
      exact n16 r9 x1 x2 rs rm h _ _ hP hD hS _ (lv_sub hl [0, 1, 2] rfl)
  exact key _ (fun H locs pc ls hP hD hS hd => W.iret hx hb hr (fun t ht hW => ⟨⟨_, (), rfl, rfl, by show _ ∧ _; rw [ht]; exact ⟨hP, hD⟩⟩, hS.F ht⟩) hS.2.2 hd)
