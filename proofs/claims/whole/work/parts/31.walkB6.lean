set_option maxHeartbeats 4000000 in
set_option maxRecDepth 100000 in
theorem kX4_takesSeen (l : Launch) (D : va_G) (T : Nat → ClassId) (F : Nat) (b0 : Nat) (a0 : Nat) (a1 : Nat) (a2 : Nat) (a3 : Nat) (a4 : Nat) (a5 : Nat) (rdue : Int32) (rtun : Int32) (rsee : Int32) (rbeg : Int32) (size : Int32) (clause : Int32) (eff : Nat → Int32) (kin : Nat → Int32) (gri : Nat → Int32) (sig : Nat → Int32) (see : Nat → Int32) (x1 : Int32) (r : Int32) (zrdue : Int32) (zsig : Nat → Int32) (zsee : Nat → Int32) (h : fX4_takesSeen F rdue rsee size sig see x1 = some (r, zrdue, zsig, zsee)) : ∀ sz : Nat, Met l yX4_takesSeen wsX4_takesSeen ({ frames := 0, cells := 0, slots := 0, locals := 0 } : Room) (va_Pc [.ref b0, .int x1, .ref a0] (fun U => U.heap.size = sz ∧ va_P D vwCl (wRP T b0 a0 a1 a2 a3 a4 a5 rdue rtun rsee rbeg size clause eff kin gri sig see) U.heap ∧ KK D T U ∧ va_D (fun _ => True) (wRP T b0 a0 a1 a2 a3 a4 a5 rdue rtun rsee rbeg size clause eff kin gri sig see))) (va_Qi (fun r' (_ : Unit) => r' = r ∧ b01 r) (fun _ t => va_P D vwCl (wRP T b0 a0 a1 a2 a3 a4 a5 zrdue rtun rsee rbeg size clause eff kin gri zsig zsee) t.heap ∧ va_D (va_A (wRP T b0 a0 a1 a2 a3 a4 a5 rdue rtun rsee rbeg size clause eff kin gri sig see) sz) (wRP T b0 a0 a1 a2 a3 a4 a5 zrdue rtun rsee rbeg size clause eff kin gri zsig zsee)) (va_A (wRP T b0 a0 a1 a2 a3 a4 a5 rdue rtun rsee rbeg size clause eff kin gri sig see) sz)) 0 0 (va_A (wRP T b0 a0 a1 a2 a3 a4 a5 rdue rtun rsee rbeg size clause eff kin gri sig see) sz) := by
  intro sz
  refine Met.ofW (cc := cX4_takesSeen) (maxL := 4) (ret := some .boolean) (by decide) rfl ?_
  intro p e s m args below meth c s₁ B hml hv
  obtain ⟨ha, hsz, hP, hKK, hD0⟩ := hv
  have hx := B.exec
  have hb := B.bytes
  have hr := B.returns
  have hts := atoms_spec (ws := wsX4_takesSeen) B.pre
  have hown : s.vm.findClass RX4 = some m.cls := findClass_of_methodNamed B.named
  have hlocks := B.notSynchronized
  have hK := hKK.1
  have hFix : CallFix p m c cX4_takesSeen 4 s args wsX4_takesSeen RX4 := ⟨hx, hb, hml, hown, hts⟩
  have q1 := hts _ (List.mem_of_getElem? (i := 1) (show wsX4_takesSeen[1]? = some (Cond.fieldLink RX4 18 "PartyWill$Reader" "seer" "I") from rfl))
  have q2 := hts _ (List.mem_of_getElem? (i := 2) (show wsX4_takesSeen[2]? = some (Cond.fieldLink RX4 11 "PartyWill$Reader" "due" "I") from rfl))
  have iX2 : ∀ w ∈ u_ws RX2 TX2 7, w ∈ wsX4_takesSeen := fun w h => List.mem_cons_of_mem _ (List.mem_append_left _ (List.mem_append_right _ (h)))
  have iX4 : ∀ w ∈ u_ws RX4 TX4 4, w ∈ wsX4_takesSeen := fun w h => List.mem_cons_of_mem _ (List.mem_append_right _ (h))
  subst hsz
  have hD := hD0.self (sz := s.heap.size)
  generalize hAe : va_A (wRP T b0 a0 a1 a2 a3 a4 a5 rdue rtun rsee rbeg size clause eff kin gri sig see) s.heap.size = A at hD ⊢
  have hA : ∀ q : Nat, s.heap.size ≤ q → A q := fun q h => by rw [← hAe]; exact Or.inr h
  have hS : va_S A s.heap s.heap [] := va_S.rf
  have hP : va_P D vwCl (wRP T b0 a0 a1 a2 a3 a4 a5 rdue rtun rsee rbeg size clause eff kin gri sig see) s.heap := hP
  obtain ⟨ls, hl, e0⟩ := my_entry (m := m) (n := 4) ha (Nat.le_of_ble_eq_true rfl)
  rw [e0]
  have hl : lv_has ls 4 [(0, .ref b0), (1, .int x1), (2, .ref a0)] := hl
  have key : ∀ Q : State → Prop, (∀ (H : Heap) (locs : List Loc) (pc : Nat) (ls : Array Slot), va_P D vwCl (wRP T b0 a0 a1 a2 a3 a4 a5 zrdue rtun rsee rbeg size clause eff kin gri zsig zsee) H → va_D A (wRP T b0 a0 a1 a2 a3 a4 a5 zrdue rtun rsee rbeg size clause eff kin gri zsig zsee) → va_S A s.heap H locs → decode cX4_takesSeen pc = .ok (.ireturn, 1) → b01 r → W p l e ({ frames := 0, cells := 0, slots := 0, locals := 0 } : Room) s m args below meth c H locs 0 0 Q (F0 m pc ls [.int r])) → W p l e ({ frames := 0, cells := 0, slots := 0, locals := 0 } : Room) s m args below meth c s.heap [] 0 0 Q (F0 m 0 ls []) := by
    intro Q hret
    skip
    have n25 : ∀ s_0 : Int32, ∀ x1 : Int32, ∀ rdue : Int32, ∀ sig : Nat → Int32, ∀ see : Nat → Int32, fX4_takesSeen_n25 F rsee size s_0 x1 rdue sig see = some (r, zrdue, zsig, zsee) → ∀ (H : Heap) (locs : List Loc), va_P D vwCl (wRP T b0 a0 a1 a2 a3 a4 a5 rdue rtun rsee rbeg size clause eff kin gri sig see) H → va_D A (wRP T b0 a0 a1 a2 a3 a4 a5 rdue rtun rsee rbeg size clause eff kin gri sig see) → va_S A s.heap H locs → ∀ (ls : Array Slot), lv_has ls 4 [(0, .ref b0), (1, .int x1), (2, .ref a0)] → W p l e ({ frames := 0, cells := 0, slots := 0, locals := 0 } : Room) s m args below meth c H locs 0 0 Q (F0 m 25 ls [.int s_0]) := by
      intro s_0 x1 rdue sig see h H locs hP hD hS ls hl
      unfold fX4_takesSeen_n25 at h
      refine lv_istore_n (lv' := [(3, .int s_0), (0, .ref b0), (1, .int x1), (2, .ref a0)]) hx hb dX4_takesSeen_25 rfl hl (by decide) rfl (fun ls hl => ?_)
      refine lv_iload_n hx hb dX4_takesSeen_26 rfl (lv_at hl 0 rfl) ?_
      refine lv_if_eq (tgt := 46) hx hb dX4_takesSeen_27 (by decide) (fun c27 => ?_) (fun c27 => ?_)
      · have h := br_1 h c27
        refine lv_iconst (v := (0 : Int32)) hx hb dX4_takesSeen_46 (by decide) ?_
        cases h
        exact hret _ _ _ _ hP hD hS dX4_takesSeen_47 (Or.inl rfl)
      · have h := br_0 h c27
        refine lv_aload_n hx hb dX4_takesSeen_30 rfl (lv_at hl 3 rfl) ?_
        refine va_getN (host := "PartyWill") (D := D) (ci := 1) (C := RX2) (T := TX2) (N := 7) hx hb hts iX2 hown hK hP 1 wRP_1 rfl 5 (by decide) (va_Nw.use rfl (nw_X4_82 hKK.2)) (fun _ h9 => h9) rfl dX4_takesSeen_31 ?_
        refine lv_aload_n hx hb dX4_takesSeen_34 rfl (lv_at hl 1 rfl) ?_
        refine va_get (D := D) (ci := 2) (C := RX4) (T := TX4) (N := 4) hx hb hts iX4 hown hK hP 0 wRP_0 rfl 2 (by decide) q1 (fun _ h9 => h9) rfl dX4_takesSeen_35 ?_
        obtain ⟨hin1, h⟩ := ck_some h
        refine va_iald hx hb hK hP 5 0 wRP_5 rfl hin1 dX4_takesSeen_38 ?_
        refine lv_iload_n hx hb dX4_takesSeen_39 rfl (lv_at hl 2 rfl) ?_
        refine lv_ishr hx hb dX4_takesSeen_40 ?_
        refine lv_iconst (v := (1 : Int32)) hx hb dX4_takesSeen_41 (by decide) ?_
        refine lv_iand hx hb dX4_takesSeen_42 ?_
        refine lv_if_eq (tgt := 48) hx hb dX4_takesSeen_43 (by decide) (fun c43 => ?_) (fun c43 => ?_)
        · have h := br_1 h c43
          refine lv_aload_n hx hb dX4_takesSeen_48 rfl (lv_at hl 3 rfl) ?_
          refine va_getN (host := "PartyWill") (D := D) (ci := 1) (C := RX2) (T := TX2) (N := 7) hx hb hts iX2 hown hK hP 1 wRP_1 rfl 5 (by decide) (va_Nw.use rfl (nw_X4_82 hKK.2)) (fun _ h9 => h9) rfl dX4_takesSeen_49 ?_
          refine lv_aload_n hx hb dX4_takesSeen_52 rfl (lv_at hl 1 rfl) ?_
          refine va_get (D := D) (ci := 2) (C := RX4) (T := TX4) (N := 4) hx hb hts iX4 hown hK hP 0 wRP_0 rfl 2 (by decide) q1 (fun _ h9 => h9) rfl dX4_takesSeen_53 ?_
          refine lv_dup2_11 hx hb dX4_takesSeen_56 rfl rfl ?_
          obtain ⟨hin2, h⟩ := ck_some h
          refine va_iald hx hb hK hP 5 0 wRP_5 rfl hin2 dX4_takesSeen_57 ?_
          refine lv_iconst (v := (1 : Int32)) hx hb dX4_takesSeen_58 (by decide) ?_
          refine lv_iload_n hx hb dX4_takesSeen_59 rfl (lv_at hl 2 rfl) ?_
          refine lv_ishl hx hb dX4_takesSeen_60 ?_
          refine lv_ior hx hb dX4_takesSeen_61 ?_
          obtain ⟨hin3, h⟩ := ck_some h
          refine va_iast hx hb hK hP hD hS 5 0 wRP_5 rfl hin3 dX4_takesSeen_62 (fun H locs hP hD hS => ?_)
          have hP : va_P D vwCl (wRP T b0 a0 a1 a2 a3 a4 a5 rdue rtun rsee rbeg size clause eff kin gri (upd sig rsee.toNatClampNeg ((sig rsee.toNatClampNeg) ||| ((1 : Int32) <<< (x1 &&& 31)))) see) H := hP
          have hD : va_D A (wRP T b0 a0 a1 a2 a3 a4 a5 rdue rtun rsee rbeg size clause eff kin gri (upd sig rsee.toNatClampNeg ((sig rsee.toNatClampNeg) ||| ((1 : Int32) <<< (x1 &&& 31)))) see) := hD
          refine lv_aload_n hx hb dX4_takesSeen_63 rfl (lv_at hl 3 rfl) ?_
          refine va_getN (host := "PartyWill") (D := D) (ci := 1) (C := RX2) (T := TX2) (N := 7) hx hb hts iX2 hown hK hP 1 wRP_1 rfl 6 (by decide) (va_Nw.use rfl (nw_X4_85 hKK.2)) (fun _ h9 => h9) rfl dX4_takesSeen_64 ?_
          refine lv_iload_n hx hb dX4_takesSeen_67 rfl (lv_at hl 2 rfl) ?_
          refine lv_dup2_11 hx hb dX4_takesSeen_68 rfl rfl ?_
          obtain ⟨hin4, h⟩ := ck_some h
          refine va_iald hx hb hK hP 6 0 wRP_6 rfl hin4 dX4_takesSeen_69 ?_
          refine lv_iconst (v := (1 : Int32)) hx hb dX4_takesSeen_70 (by decide) ?_
          refine lv_aload_n hx hb dX4_takesSeen_71 rfl (lv_at hl 1 rfl) ?_
          refine va_get (D := D) (ci := 2) (C := RX4) (T := TX4) (N := 4) hx hb hts iX4 hown hK hP 0 wRP_0 rfl 2 (by decide) q1 (fun _ h9 => h9) rfl dX4_takesSeen_72 ?_
          refine lv_ishl hx hb dX4_takesSeen_75 ?_
          refine lv_ior hx hb dX4_takesSeen_76 ?_
          obtain ⟨hin5, h⟩ := ck_some h
          refine va_iast hx hb hK hP hD hS 6 0 wRP_6 rfl hin5 dX4_takesSeen_77 (fun H locs hP hD hS => ?_)
          have hP : va_P D vwCl (wRP T b0 a0 a1 a2 a3 a4 a5 rdue rtun rsee rbeg size clause eff kin gri (upd sig rsee.toNatClampNeg ((sig rsee.toNatClampNeg) ||| ((1 : Int32) <<< (x1 &&& 31)))) (upd see x1.toNatClampNeg ((see x1.toNatClampNeg) ||| ((1 : Int32) <<< (rsee &&& 31))))) H := hP
          have hD : va_D A (wRP T b0 a0 a1 a2 a3 a4 a5 rdue rtun rsee rbeg size clause eff kin gri (upd sig rsee.toNatClampNeg ((sig rsee.toNatClampNeg) ||| ((1 : Int32) <<< (x1 &&& 31)))) (upd see x1.toNatClampNeg ((see x1.toNatClampNeg) ||| ((1 : Int32) <<< (rsee &&& 31))))) := hD
          refine lv_aload_n hx hb dX4_takesSeen_78 rfl (lv_at hl 1 rfl) ?_
          refine lv_iconst (v := (3 : Int32)) hx hb dX4_takesSeen_79 (by decide) ?_
          refine va_put (D := D) (ci := 2) (v := .int (3 : Int32)) (ty := .int) (C := RX4) (T := TX4) (N := 4) hx hb hts iX4 tyX4 tyX4_ok nmX4 hown hK hP hD hS 0 wRP_0 rfl 0 (by decide) q2 (fun _ h9 => h9) rfl (by decide +kernel) rfl rfl (Nat.le_of_ble_eq_true rfl) dX4_takesSeen_80 (fun H locs hP hD hS => ?_)
          have hP : va_P D vwCl (wRP T b0 a0 a1 a2 a3 a4 a5 (3 : Int32) rtun rsee rbeg size clause eff kin gri (upd sig rsee.toNatClampNeg ((sig rsee.toNatClampNeg) ||| ((1 : Int32) <<< (x1 &&& 31)))) (upd see x1.toNatClampNeg ((see x1.toNatClampNeg) ||| ((1 : Int32) <<< (rsee &&& 31))))) H := hP
          have hD : va_D A (wRP T b0 a0 a1 a2 a3 a4 a5 (3 : Int32) rtun rsee rbeg size clause eff kin gri (upd sig rsee.toNatClampNeg ((sig rsee.toNatClampNeg) ||| ((1 : Int32) <<< (x1 &&& 31)))) (upd see x1.toNatClampNeg ((see x1.toNatClampNeg) ||| ((1 : Int32) <<< (rsee &&& 31))))) := hD
          refine lv_iconst (v := (1 : Int32)) hx hb dX4_takesSeen_83 (by decide) ?_
          cases h
          exact hret _ _ _ _ hP hD hS dX4_takesSeen_84 (Or.inr rfl)
        · have h := br_0 h c43
          refine lv_iconst (v := (0 : Int32)) hx hb dX4_takesSeen_46 (by decide) ?_
          cases h
          exact hret _ _ _ _ hP hD hS dX4_takesSeen_47 (Or.inl rfl)
    unfold fX4_takesSeen at h
    refine lv_iload_n hx hb dX4_takesSeen_0 rfl (lv_at hl 1 rfl) ?_
    refine lv_if_lt (tgt := 24) hx hb dX4_takesSeen_1 (by decide) (fun c1 => ?_) (fun c1 => ?_)
    · have h := br_1 h c1
      refine lv_iconst (v := (0 : Int32)) hx hb dX4_takesSeen_24 (by decide) ?_
      exact n25 (0 : Int32) x1 rdue sig see h _ _ hP hD hS _ (lv_sub hl [0, 1, 2] rfl)
    · have h := br_0 h c1
      refine lv_iload_n hx hb dX4_takesSeen_4 rfl (lv_at hl 1 rfl) ?_
      refine lv_aload_n hx hb dX4_takesSeen_5 rfl (lv_at hl 2 rfl) ?_
      refine va_getN (host := "PartyWill") (D := D) (ci := 1) (C := RX2) (T := TX2) (N := 7) hx hb hts iX2 hown hK hP 1 wRP_1 rfl 0 (by decide) (va_Nw.use rfl (nw_X4_34 hKK.2)) (fun _ h9 => h9) rfl dX4_takesSeen_6 ?_
      refine lv_icmp_ge (tgt := 24) hx hb dX4_takesSeen_9 (by decide) (fun c9 => ?_) (fun c9 => ?_)
      · have h := br_1 h c9
        refine lv_iconst (v := (0 : Int32)) hx hb dX4_takesSeen_24 (by decide) ?_
        exact n25 (0 : Int32) x1 rdue sig see h _ _ hP hD hS _ (lv_sub hl [0, 1, 2] rfl)
      · have h := br_0 h c9
        refine lv_iload_n hx hb dX4_takesSeen_12 rfl (lv_at hl 1 rfl) ?_
        refine lv_aload_n hx hb dX4_takesSeen_13 rfl (lv_at hl 0 rfl) ?_
        refine va_get (D := D) (ci := 2) (C := RX4) (T := TX4) (N := 4) hx hb hts iX4 hown hK hP 0 wRP_0 rfl 2 (by decide) q1 (fun _ h9 => h9) rfl dX4_takesSeen_14 ?_
        refine lv_icmp_eq (tgt := 24) hx hb dX4_takesSeen_17 (by decide) (fun c17 => ?_) (fun c17 => ?_)
        · have h := br_1 h c17
          refine lv_iconst (v := (0 : Int32)) hx hb dX4_takesSeen_24 (by decide) ?_
          exact n25 (0 : Int32) x1 rdue sig see h _ _ hP hD hS _ (lv_sub hl [0, 1, 2] rfl)
        · have h := br_0 h c17
          refine lv_iconst (v := (1 : Int32)) hx hb dX4_takesSeen_20 (by decide) ?_
          refine lv_goto (tgt := 25) hx hb dX4_takesSeen_21 (by decide) ?_
          exact n25 (1 : Int32) x1 rdue sig see h _ _ hP hD hS _ (lv_sub hl [0, 1, 2] rfl)
  exact key _ (fun H locs pc ls hP hD hS hd hb1 => W.zret hx hb hr (b01_n hb1) (fun t ht hW => ⟨⟨_, (), rfl, ⟨rfl, hb1⟩, by show _ ∧ _; rw [ht]; exact ⟨hP, hD⟩⟩, hS.F ht⟩) hS.2.2 hd)
set_option maxHeartbeats 4000000 in
set_option maxRecDepth 100000 in
theorem kX4_takesSeer (l : Launch) (D : va_G) (T : Nat → ClassId) (F : Nat) (b0 : Nat) (a0 : Nat) (a1 : Nat) (a2 : Nat) (a3 : Nat) (a4 : Nat) (a5 : Nat) (rdue : Int32) (rtun : Int32) (rsee : Int32) (rbeg : Int32) (size : Int32) (clause : Int32) (eff : Nat → Int32) (kin : Nat → Int32) (gri : Nat → Int32) (sig : Nat → Int32) (see : Nat → Int32) (x1 : Int32) (r : Int32) (zrdue : Int32) (zrsee : Int32) (h : fX4_takesSeer F rdue rsee size x1 = some (r, zrdue, zrsee)) : ∀ sz : Nat, Met l yX4_takesSeer wsX4_takesSeer ({ frames := 0, cells := 0, slots := 0, locals := 0 } : Room) (va_Pc [.ref b0, .int x1, .ref a0] (fun U => U.heap.size = sz ∧ va_P D vwCl (wRP T b0 a0 a1 a2 a3 a4 a5 rdue rtun rsee rbeg size clause eff kin gri sig see) U.heap ∧ KK D T U ∧ va_D (fun _ => True) (wRP T b0 a0 a1 a2 a3 a4 a5 rdue rtun rsee rbeg size clause eff kin gri sig see))) (va_Qi (fun r' (_ : Unit) => r' = r ∧ b01 r) (fun _ t => va_P D vwCl (wRP T b0 a0 a1 a2 a3 a4 a5 zrdue rtun zrsee rbeg size clause eff kin gri sig see) t.heap ∧ va_D (va_A (wRP T b0 a0 a1 a2 a3 a4 a5 rdue rtun rsee rbeg size clause eff kin gri sig see) sz) (wRP T b0 a0 a1 a2 a3 a4 a5 zrdue rtun zrsee rbeg size clause eff kin gri sig see)) (va_A (wRP T b0 a0 a1 a2 a3 a4 a5 rdue rtun rsee rbeg size clause eff kin gri sig see) sz)) 0 0 (va_A (wRP T b0 a0 a1 a2 a3 a4 a5 rdue rtun rsee rbeg size clause eff kin gri sig see) sz) := by
  intro sz
  refine Met.ofW (cc := cX4_takesSeer) (maxL := 3) (ret := some .boolean) (by decide) rfl ?_
  intro p e s m args below meth c s₁ B hml hv
  obtain ⟨ha, hsz, hP, hKK, hD0⟩ := hv
  have hx := B.exec
  have hb := B.bytes
  have hr := B.returns
  have hts := atoms_spec (ws := wsX4_takesSeer) B.pre
  have hown : s.vm.findClass RX4 = some m.cls := findClass_of_methodNamed B.named
  have hlocks := B.notSynchronized
  have hK := hKK.1
  have hFix : CallFix p m c cX4_takesSeer 3 s args wsX4_takesSeer RX4 := ⟨hx, hb, hml, hown, hts⟩
  have q1 := hts _ (List.mem_of_getElem? (i := 1) (show wsX4_takesSeer[1]? = some (Cond.fieldLink RX4 18 "PartyWill$Reader" "seer" "I") from rfl))
  have q2 := hts _ (List.mem_of_getElem? (i := 2) (show wsX4_takesSeer[2]? = some (Cond.fieldLink RX4 11 "PartyWill$Reader" "due" "I") from rfl))
  have iX2 : ∀ w ∈ u_ws RX2 TX2 7, w ∈ wsX4_takesSeer := fun w h => List.mem_cons_of_mem _ (List.mem_append_right _ (h))
  have iX4 : ∀ w ∈ u_ws RX4 TX4 4, w ∈ wsX4_takesSeer := fun w h => List.mem_cons_of_mem _ (List.mem_append_left _ (List.mem_append_right _ (h)))
  subst hsz
  have hD := hD0.self (sz := s.heap.size)
  generalize hAe : va_A (wRP T b0 a0 a1 a2 a3 a4 a5 rdue rtun rsee rbeg size clause eff kin gri sig see) s.heap.size = A at hD ⊢
  have hA : ∀ q : Nat, s.heap.size ≤ q → A q := fun q h => by rw [← hAe]; exact Or.inr h
  have hS : va_S A s.heap s.heap [] := va_S.rf
  have hP : va_P D vwCl (wRP T b0 a0 a1 a2 a3 a4 a5 rdue rtun rsee rbeg size clause eff kin gri sig see) s.heap := hP
  obtain ⟨ls, hl, e0⟩ := my_entry (m := m) (n := 3) ha (Nat.le_of_ble_eq_true rfl)
  rw [e0]
  have hl : lv_has ls 3 [(0, .ref b0), (1, .int x1), (2, .ref a0)] := hl
  have key : ∀ Q : State → Prop, (∀ (H : Heap) (locs : List Loc) (pc : Nat) (ls : Array Slot), va_P D vwCl (wRP T b0 a0 a1 a2 a3 a4 a5 zrdue rtun zrsee rbeg size clause eff kin gri sig see) H → va_D A (wRP T b0 a0 a1 a2 a3 a4 a5 zrdue rtun zrsee rbeg size clause eff kin gri sig see) → va_S A s.heap H locs → decode cX4_takesSeer pc = .ok (.ireturn, 1) → b01 r → W p l e ({ frames := 0, cells := 0, slots := 0, locals := 0 } : Room) s m args below meth c H locs 0 0 Q (F0 m pc ls [.int r])) → W p l e ({ frames := 0, cells := 0, slots := 0, locals := 0 } : Room) s m args below meth c s.heap [] 0 0 Q (F0 m 0 ls []) := by
    intro Q hret
    skip
    unfold fX4_takesSeer at h
    refine lv_aload_n hx hb dX4_takesSeer_0 rfl (lv_at hl 0 rfl) ?_
    refine lv_iload_n hx hb dX4_takesSeer_1 rfl (lv_at hl 1 rfl) ?_
    refine va_put (D := D) (ci := 2) (v := .int x1) (ty := .int) (C := RX4) (T := TX4) (N := 4) hx hb hts iX4 tyX4 tyX4_ok nmX4 hown hK hP hD hS 0 wRP_0 rfl 2 (by decide) q1 (fun _ h9 => h9) rfl (by decide +kernel) rfl rfl (Nat.le_of_ble_eq_true rfl) dX4_takesSeer_2 (fun H locs hP hD hS => ?_)
    have hP : va_P D vwCl (wRP T b0 a0 a1 a2 a3 a4 a5 rdue rtun x1 rbeg size clause eff kin gri sig see) H := hP
    have hD : va_D A (wRP T b0 a0 a1 a2 a3 a4 a5 rdue rtun x1 rbeg size clause eff kin gri sig see) := hD
    refine lv_aload_n hx hb dX4_takesSeer_5 rfl (lv_at hl 0 rfl) ?_
    refine lv_bipush (v := (6 : Int32)) hx hb dX4_takesSeer_6 (by decide) ?_
    refine va_put (D := D) (ci := 2) (v := .int (6 : Int32)) (ty := .int) (C := RX4) (T := TX4) (N := 4) hx hb hts iX4 tyX4 tyX4_ok nmX4 hown hK hP hD hS 0 wRP_0 rfl 0 (by decide) q2 (fun _ h9 => h9) rfl (by decide +kernel) rfl rfl (Nat.le_of_ble_eq_true rfl) dX4_takesSeer_8 (fun H locs hP hD hS => ?_)
    have hP : va_P D vwCl (wRP T b0 a0 a1 a2 a3 a4 a5 (6 : Int32) rtun x1 rbeg size clause eff kin gri sig see) H := hP
    have hD : va_D A (wRP T b0 a0 a1 a2 a3 a4 a5 (6 : Int32) rtun x1 rbeg size clause eff kin gri sig see) := hD
    refine lv_iload_n hx hb dX4_takesSeer_11 rfl (lv_at hl 1 rfl) ?_
    refine lv_if_lt (tgt := 27) hx hb dX4_takesSeer_12 (by decide) (fun c12 => ?_) (fun c12 => ?_)
    · have h := br_1 h c12
      refine lv_iconst (v := (0 : Int32)) hx hb dX4_takesSeer_27 (by decide) ?_
      cases h
      exact hret _ _ _ _ hP hD hS dX4_takesSeer_28 (Or.inl rfl)
    · have h := br_0 h c12
      refine lv_iload_n hx hb dX4_takesSeer_15 rfl (lv_at hl 1 rfl) ?_
      refine lv_aload_n hx hb dX4_takesSeer_16 rfl (lv_at hl 2 rfl) ?_
      refine va_getN (host := "PartyWill") (D := D) (ci := 1) (C := RX2) (T := TX2) (N := 7) hx hb hts iX2 hown hK hP 1 wRP_1 rfl 0 (by decide) (va_Nw.use rfl (nw_X4_34 hKK.2)) (fun _ h9 => h9) rfl dX4_takesSeer_17 ?_
      refine lv_icmp_ge (tgt := 27) hx hb dX4_takesSeer_20 (by decide) (fun c20 => ?_) (fun c20 => ?_)
      · have h := br_1 h c20
        refine lv_iconst (v := (0 : Int32)) hx hb dX4_takesSeer_27 (by decide) ?_
        cases h
        exact hret _ _ _ _ hP hD hS dX4_takesSeer_28 (Or.inl rfl)
      · have h := br_0 h c20
        refine lv_iconst (v := (1 : Int32)) hx hb dX4_takesSeer_23 (by decide) ?_
        refine lv_goto (tgt := 28) hx hb dX4_takesSeer_24 (by decide) ?_
        cases h
        exact hret _ _ _ _ hP hD hS dX4_takesSeer_28 (Or.inr rfl)
  exact key _ (fun H locs pc ls hP hD hS hd hb1 => W.zret hx hb hr (b01_n hb1) (fun t ht hW => ⟨⟨_, (), rfl, ⟨rfl, hb1⟩, by show _ ∧ _; rw [ht]; exact ⟨hP, hD⟩⟩, hS.F ht⟩) hS.2.2 hd)
