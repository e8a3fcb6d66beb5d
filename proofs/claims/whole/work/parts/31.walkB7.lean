set_option maxHeartbeats 4000000 in
set_option maxRecDepth 100000 in
theorem kX4_takes (l : Launch) (D : va_G) (T : Nat → ClassId) (F : Nat) (b0 : Nat) (a0 : Nat) (a1 : Nat) (a2 : Nat) (a3 : Nat) (a4 : Nat) (a5 : Nat) (rdue : Int32) (rtun : Int32) (rsee : Int32) (rbeg : Int32) (size : Int32) (clause : Int32) (eff : Nat → Int32) (kin : Nat → Int32) (gri : Nat → Int32) (sig : Nat → Int32) (see : Nat → Int32) (x1 : Int32) (r : Int32) (zrdue : Int32) (zrtun : Int32) (zrsee : Int32) (zrbeg : Int32) (zsize : Int32) (zclause : Int32) (zeff : Nat → Int32) (zkin : Nat → Int32) (zgri : Nat → Int32) (zsig : Nat → Int32) (zsee : Nat → Int32) (h : fX4_takes F rdue rtun rsee rbeg size clause eff kin gri sig see x1 = some (r, zrdue, zrtun, zrsee, zrbeg, zsize, zclause, zeff, zkin, zgri, zsig, zsee)) : ∀ sz : Nat, Met l yX4_takes wsX4_takes ({ frames := 2, cells := 0, slots := 0, locals := 43 } : Room) (va_Pc [.ref b0, .int x1, .ref a0] (fun U => U.heap.size = sz ∧ va_P D vwCl (wRP T b0 a0 a1 a2 a3 a4 a5 rdue rtun rsee rbeg size clause eff kin gri sig see) U.heap ∧ KK D T U ∧ va_D (fun _ => True) (wRP T b0 a0 a1 a2 a3 a4 a5 rdue rtun rsee rbeg size clause eff kin gri sig see))) (va_Qi (fun r' (_ : Unit) => r' = r ∧ b01 r) (fun _ t => va_P D vwCl (wRP T b0 a0 a1 a2 a3 a4 a5 zrdue zrtun zrsee zrbeg zsize zclause zeff zkin zgri zsig zsee) t.heap ∧ va_D (va_A (wRP T b0 a0 a1 a2 a3 a4 a5 rdue rtun rsee rbeg size clause eff kin gri sig see) sz) (wRP T b0 a0 a1 a2 a3 a4 a5 zrdue zrtun zrsee zrbeg zsize zclause zeff zkin zgri zsig zsee)) (va_A (wRP T b0 a0 a1 a2 a3 a4 a5 rdue rtun rsee rbeg size clause eff kin gri sig see) sz)) 0 0 (va_A (wRP T b0 a0 a1 a2 a3 a4 a5 rdue rtun rsee rbeg size clause eff kin gri sig see) sz) := by
  intro sz
  refine Met.ofW (cc := cX4_takes) (maxL := 3) (ret := some .boolean) (by decide) rfl ?_
  intro p e s m args below meth c s₁ B hml hv
  obtain ⟨ha, hsz, hP, hKK, hD0⟩ := hv
  have hx := B.exec
  have hb := B.bytes
  have hr := B.returns
  have hts := atoms_spec (ws := wsX4_takes) B.pre
  have hown : s.vm.findClass RX4 = some m.cls := findClass_of_methodNamed B.named
  have hlocks := B.notSynchronized
  have hK := hKK.1
  have hFix : CallFix p m c cX4_takes 3 s args wsX4_takes RX4 := ⟨hx, hb, hml, hown, hts⟩
  have q1 := hts _ (List.mem_of_getElem? (i := 1) (show wsX4_takes[1]? = some (Cond.fieldLink RX4 11 "PartyWill$Reader" "due" "I") from rfl))
  have iX4 : ∀ w ∈ u_ws RX4 TX4 4, w ∈ wsX4_takes := fun w h => List.mem_cons_of_mem _ (List.mem_append_left _ (List.mem_append_right _ (h)))
  subst hsz
  have hD := hD0.self (sz := s.heap.size)
  generalize hAe : va_A (wRP T b0 a0 a1 a2 a3 a4 a5 rdue rtun rsee rbeg size clause eff kin gri sig see) s.heap.size = A at hD ⊢
  have hA : ∀ q : Nat, s.heap.size ≤ q → A q := fun q h => by rw [← hAe]; exact Or.inr h
  have hS : va_S A s.heap s.heap [] := va_S.rf
  have hP : va_P D vwCl (wRP T b0 a0 a1 a2 a3 a4 a5 rdue rtun rsee rbeg size clause eff kin gri sig see) s.heap := hP
  obtain ⟨ls, hl, e0⟩ := my_entry (m := m) (n := 3) ha (Nat.le_of_ble_eq_true rfl)
  rw [e0]
  have hl : lv_has ls 3 [(0, .ref b0), (1, .int x1), (2, .ref a0)] := hl
  have key : ∀ Q : State → Prop, (∀ (H : Heap) (locs : List Loc) (pc : Nat) (ls : Array Slot), va_P D vwCl (wRP T b0 a0 a1 a2 a3 a4 a5 zrdue zrtun zrsee zrbeg zsize zclause zeff zkin zgri zsig zsee) H → va_D A (wRP T b0 a0 a1 a2 a3 a4 a5 zrdue zrtun zrsee zrbeg zsize zclause zeff zkin zgri zsig zsee) → va_S A s.heap H locs → decode cX4_takes pc = .ok (.ireturn, 1) → b01 r → W p l e ({ frames := 2, cells := 0, slots := 0, locals := 43 } : Room) s m args below meth c H locs 0 0 Q (F0 m pc ls [.int r])) → W p l e ({ frames := 2, cells := 0, slots := 0, locals := 43 } : Room) s m args below meth c s.heap [] 0 0 Q (F0 m 0 ls []) := by
    intro Q hret
    skip
    unfold fX4_takes at h
    refine lv_iload_n hx hb dX4_takes_0 rfl (lv_at hl 1 rfl) ?_
    refine lv_bipush (v := (32 : Int32)) hx hb dX4_takes_1 (by decide) ?_
    refine lv_icmp_ne (tgt := 27) hx hb dX4_takes_3 (by decide) (fun c3 => ?_) (fun c3 => ?_)
    · have h := br_0 h c3
      refine lv_aload_n hx hb dX4_takes_27 rfl (lv_at hl 0 rfl) ?_
      refine va_get (D := D) (ci := 2) (C := RX4) (T := TX4) (N := 4) hx hb hts iX4 hown hK hP 0 wRP_0 rfl 0 (by decide) q1 (fun _ h9 => h9) rfl dX4_takes_28 ?_
      by_cases z31_0 : rdue = (0 : Int32)
      · have h := br_1 h z31_0
        refine lv_tableIn (tgt := 68) (off := 37) hx hb dX4_takes_31 (by rw [z31_0]; decide) (by rw [z31_0]; decide) (by rw [z31_0]; decide) (by decide) ?_
        refine lv_aload_n hx hb dX4_takes_68 rfl (lv_at hl 0 rfl) ?_
        refine lv_iload_n hx hb dX4_takes_69 rfl (lv_at hl 1 rfl) ?_
        obtain ⟨r70, w70_rdue, hc, h⟩ := bd2_some h
        have hPc : va_P D vwCl (wRe T b0 rdue rtun rsee rbeg) H := my_subP sb_wRP_wRe_0 hP
        have hDc := hD.sub [0] (by decide) sb_wRP_wRe_0
        have hFc := va_free hD hS hA [0] sb_wRP_wRe_0
        refine my_rwz (va_runV (As := [.int x1]) (rest := []) hFix (kX4_takesOpening l D T F b0 rdue rtun rsee rbeg x1 r70 w70_rdue hc H.size) (cwV 1 hts gX4_takes_X4_takesOpening rfl rfl rfl ⟨rfl, hd_X4_takesOpening⟩ ⟨Nat.le_of_ble_eq_true rfl, Nat.le_of_ble_eq_true rfl⟩) (preV_rw hPc hKK hDc (va_recv hK hP (ci := 2) (q0 := 0) rfl wRP_0)) rfl rfl hl.1 rfl (lv_room (Nat.le_of_ble_eq_true rfl)) dX4_takes_70 ⟨Nat.zero_le _, Nat.zero_le _⟩) hS hFc (fun hb70 H1 locs hP1 hD1 hz1 hk1 hS => ?_)
        obtain ⟨hP, hD⟩ := my_joinS hP hD (by decide) sb_wRP_wRe_0 rfl hk1 hFc hP1 hD1
        rw [st_wRP_wRe_0_takesOpening] at hP hD
        generalize H1 = H at hP hS ⊢
        cases h
        exact hret _ _ _ _ hP hD hS dX4_takes_73 hb70
      have h := br_0 h z31_0
      by_cases z31_1 : rdue = (1 : Int32)
      · have h := br_1 h z31_1
        refine lv_tableIn (tgt := 74) (off := 43) hx hb dX4_takes_31 (by rw [z31_1]; decide) (by rw [z31_1]; decide) (by rw [z31_1]; decide) (by decide) ?_
        refine lv_aload_n hx hb dX4_takes_74 rfl (lv_at hl 0 rfl) ?_
        refine lv_iload_n hx hb dX4_takes_75 rfl (lv_at hl 1 rfl) ?_
        refine lv_bipush (v := (48 : Int32)) hx hb dX4_takes_76 (by decide) ?_
        refine lv_isub hx hb dX4_takes_78 ?_
        refine lv_aload_n hx hb dX4_takes_79 rfl (lv_at hl 2 rfl) ?_
        obtain ⟨r80, w80_rdue, w80_clause, hc, h⟩ := bd3_some h
        have hFc := my_freeS hD hS hA
        refine my_rwz (va_runV (As := [.int (x1 - (48 : Int32)), .ref a0]) (rest := []) hFix (kX4_takesClause l D T F b0 a0 a1 a2 a3 a4 a5 rdue rtun rsee rbeg size clause eff kin gri sig see (x1 - (48 : Int32)) r80 w80_rdue w80_clause hc H.size) (cwV 2 hts gX4_takes_X4_takesClause rfl rfl rfl ⟨rfl, hd_X4_takesClause⟩ ⟨Nat.le_of_ble_eq_true rfl, Nat.le_of_ble_eq_true rfl⟩) (preV_rw hP hKK hD (va_recv hK hP (ci := 2) (q0 := 0) rfl wRP_0)) rfl rfl hl.1 rfl (lv_room (Nat.le_of_ble_eq_true rfl)) dX4_takes_80 ⟨Nat.zero_le _, Nat.zero_le _⟩) hS hFc (fun hb80 H1 locs hP1 hD1 hz1 hk1 hS => ?_)
        have hP : va_P D vwCl (wRP T b0 a0 a1 a2 a3 a4 a5 w80_rdue rtun rsee rbeg size w80_clause eff kin gri sig see) H1 := hP1
        have hD : va_D A (wRP T b0 a0 a1 a2 a3 a4 a5 w80_rdue rtun rsee rbeg size w80_clause eff kin gri sig see) := hD1.weaken (fun _ q _ h => hFc q.1 h)
        generalize H1 = H at hP hS ⊢
        cases h
        exact hret _ _ _ _ hP hD hS dX4_takes_83 hb80
      have h := br_0 h z31_1
      by_cases z31_2 : rdue = (2 : Int32)
      · have h := br_1 h z31_2
        refine lv_tableIn (tgt := 84) (off := 53) hx hb dX4_takes_31 (by rw [z31_2]; decide) (by rw [z31_2]; decide) (by rw [z31_2]; decide) (by decide) ?_
        refine lv_aload_n hx hb dX4_takes_84 rfl (lv_at hl 0 rfl) ?_
        refine lv_iload_n hx hb dX4_takes_85 rfl (lv_at hl 1 rfl) ?_
        refine lv_bipush (v := (48 : Int32)) hx hb dX4_takes_86 (by decide) ?_
        refine lv_isub hx hb dX4_takes_88 ?_
        refine lv_aload_n hx hb dX4_takes_89 rfl (lv_at hl 2 rfl) ?_
        obtain ⟨r90, w90_rdue, w90_rtun, w90_eff, hc, h⟩ := bd4_some h
        have hFc := my_freeS hD hS hA
        refine my_rwz (va_runV (As := [.int (x1 - (48 : Int32)), .ref a0]) (rest := []) hFix (kX4_takesEffect l D T F b0 a0 a1 a2 a3 a4 a5 rdue rtun rsee rbeg size clause eff kin gri sig see (x1 - (48 : Int32)) r90 w90_rdue w90_rtun w90_eff hc H.size) (cwV 2 hts gX4_takes_X4_takesEffect rfl rfl rfl ⟨rfl, hd_X4_takesEffect⟩ ⟨Nat.le_of_ble_eq_true rfl, Nat.le_of_ble_eq_true rfl⟩) (preV_rw hP hKK hD (va_recv hK hP (ci := 2) (q0 := 0) rfl wRP_0)) rfl rfl hl.1 rfl (lv_room (Nat.le_of_ble_eq_true rfl)) dX4_takes_90 ⟨Nat.zero_le _, Nat.zero_le _⟩) hS hFc (fun hb90 H1 locs hP1 hD1 hz1 hk1 hS => ?_)
        have hP : va_P D vwCl (wRP T b0 a0 a1 a2 a3 a4 a5 w90_rdue w90_rtun rsee rbeg size clause w90_eff kin gri sig see) H1 := hP1
        have hD : va_D A (wRP T b0 a0 a1 a2 a3 a4 a5 w90_rdue w90_rtun rsee rbeg size clause w90_eff kin gri sig see) := hD1.weaken (fun _ q _ h => hFc q.1 h)
        generalize H1 = H at hP hS ⊢
        cases h
        exact hret _ _ _ _ hP hD hS dX4_takes_93 hb90
      have h := br_0 h z31_2
      by_cases z31_3 : rdue = (3 : Int32)
      · have h := br_1 h z31_3
        refine lv_tableIn (tgt := 94) (off := 63) hx hb dX4_takes_31 (by rw [z31_3]; decide) (by rw [z31_3]; decide) (by rw [z31_3]; decide) (by decide) ?_
        refine lv_aload_n hx hb dX4_takes_94 rfl (lv_at hl 0 rfl) ?_
        refine lv_iload_n hx hb dX4_takes_95 rfl (lv_at hl 1 rfl) ?_
        refine lv_aload_n hx hb dX4_takes_96 rfl (lv_at hl 2 rfl) ?_
        obtain ⟨r97, w97_rdue, w97_rbeg, w97_kin, hc, h⟩ := bd4_some h
        have hFc := my_freeS hD hS hA
        refine my_rwz (va_runV (As := [.int x1, .ref a0]) (rest := []) hFix (kX4_takesLetter l D T F b0 a0 a1 a2 a3 a4 a5 rdue rtun rsee rbeg size clause eff kin gri sig see x1 r97 w97_rdue w97_rbeg w97_kin hc H.size) (cwV 2 hts gX4_takes_X4_takesLetter rfl rfl rfl ⟨rfl, hd_X4_takesLetter⟩ ⟨Nat.le_of_ble_eq_true rfl, Nat.le_of_ble_eq_true rfl⟩) (preV_rw hP hKK hD (va_recv hK hP (ci := 2) (q0 := 0) rfl wRP_0)) rfl rfl hl.1 rfl (lv_room (Nat.le_of_ble_eq_true rfl)) dX4_takes_97 ⟨Nat.zero_le _, Nat.zero_le _⟩) hS hFc (fun hb97 H1 locs hP1 hD1 hz1 hk1 hS => ?_)
        have hP : va_P D vwCl (wRP T b0 a0 a1 a2 a3 a4 a5 w97_rdue rtun rsee w97_rbeg size clause eff w97_kin gri sig see) H1 := hP1
        have hD : va_D A (wRP T b0 a0 a1 a2 a3 a4 a5 w97_rdue rtun rsee w97_rbeg size clause eff w97_kin gri sig see) := hD1.weaken (fun _ q _ h => hFc q.1 h)
        generalize H1 = H at hP hS ⊢
        cases h
        exact hret _ _ _ _ hP hD hS dX4_takes_100 hb97
      have h := br_0 h z31_3
      by_cases z31_4 : rdue = (4 : Int32)
      · have h := br_1 h z31_4
        refine lv_tableIn (tgt := 101) (off := 70) hx hb dX4_takes_31 (by rw [z31_4]; decide) (by rw [z31_4]; decide) (by rw [z31_4]; decide) (by decide) ?_
        refine lv_aload_n hx hb dX4_takes_101 rfl (lv_at hl 0 rfl) ?_
        refine lv_iload_n hx hb dX4_takes_102 rfl (lv_at hl 1 rfl) ?_
        refine lv_bipush (v := (48 : Int32)) hx hb dX4_takes_103 (by decide) ?_
        refine lv_isub hx hb dX4_takes_105 ?_
        refine lv_aload_n hx hb dX4_takes_106 rfl (lv_at hl 2 rfl) ?_
        obtain ⟨r107, w107_rdue, w107_size, w107_gri, hc, h⟩ := bd4_some h
        have hFc := my_freeS hD hS hA
        refine my_rwz (va_runV (As := [.int (x1 - (48 : Int32)), .ref a0]) (rest := []) hFix (kX4_takesGrief l D T F b0 a0 a1 a2 a3 a4 a5 rdue rtun rsee rbeg size clause eff kin gri sig see (x1 - (48 : Int32)) r107 w107_rdue w107_size w107_gri hc H.size) (cwV 2 hts gX4_takes_X4_takesGrief rfl rfl rfl ⟨rfl, hd_X4_takesGrief⟩ ⟨Nat.le_of_ble_eq_true rfl, Nat.le_of_ble_eq_true rfl⟩) (preV_rw hP hKK hD (va_recv hK hP (ci := 2) (q0 := 0) rfl wRP_0)) rfl rfl hl.1 rfl (lv_room (Nat.le_of_ble_eq_true rfl)) dX4_takes_107 ⟨Nat.zero_le _, Nat.zero_le _⟩) hS hFc (fun hb107 H1 locs hP1 hD1 hz1 hk1 hS => ?_)
        have hP : va_P D vwCl (wRP T b0 a0 a1 a2 a3 a4 a5 w107_rdue rtun rsee rbeg w107_size clause eff kin w107_gri sig see) H1 := hP1
        have hD : va_D A (wRP T b0 a0 a1 a2 a3 a4 a5 w107_rdue rtun rsee rbeg w107_size clause eff kin w107_gri sig see) := hD1.weaken (fun _ q _ h => hFc q.1 h)
        generalize H1 = H at hP hS ⊢
        cases h
        exact hret _ _ _ _ hP hD hS dX4_takes_110 hb107
      have h := br_0 h z31_4
      by_cases z31_5 : rdue = (5 : Int32)
      · have h := br_1 h z31_5
        refine lv_tableIn (tgt := 111) (off := 80) hx hb dX4_takes_31 (by rw [z31_5]; decide) (by rw [z31_5]; decide) (by rw [z31_5]; decide) (by decide) ?_
        refine lv_aload_n hx hb dX4_takes_111 rfl (lv_at hl 0 rfl) ?_
        refine lv_iload_n hx hb dX4_takes_112 rfl (lv_at hl 1 rfl) ?_
        refine lv_bipush (v := (48 : Int32)) hx hb dX4_takes_113 (by decide) ?_
        refine lv_isub hx hb dX4_takes_115 ?_
        refine lv_aload_n hx hb dX4_takes_116 rfl (lv_at hl 2 rfl) ?_
        obtain ⟨r117, w117_rdue, w117_rsee, hc, h⟩ := bd3_some h
        have hFc := my_freeS hD hS hA
        refine my_rwz (va_runV (As := [.int (x1 - (48 : Int32)), .ref a0]) (rest := []) hFix (kX4_takesSeer l D T F b0 a0 a1 a2 a3 a4 a5 rdue rtun rsee rbeg size clause eff kin gri sig see (x1 - (48 : Int32)) r117 w117_rdue w117_rsee hc H.size) (cwV 2 hts gX4_takes_X4_takesSeer rfl rfl rfl ⟨rfl, hd_X4_takesSeer⟩ ⟨Nat.le_of_ble_eq_true rfl, Nat.le_of_ble_eq_true rfl⟩) (preV_rw hP hKK hD (va_recv hK hP (ci := 2) (q0 := 0) rfl wRP_0)) rfl rfl hl.1 rfl (lv_room (Nat.le_of_ble_eq_true rfl)) dX4_takes_117 ⟨Nat.zero_le _, Nat.zero_le _⟩) hS hFc (fun hb117 H1 locs hP1 hD1 hz1 hk1 hS => ?_)
        have hP : va_P D vwCl (wRP T b0 a0 a1 a2 a3 a4 a5 w117_rdue rtun w117_rsee rbeg size clause eff kin gri sig see) H1 := hP1
        have hD : va_D A (wRP T b0 a0 a1 a2 a3 a4 a5 w117_rdue rtun w117_rsee rbeg size clause eff kin gri sig see) := hD1.weaken (fun _ q _ h => hFc q.1 h)
        generalize H1 = H at hP hS ⊢
        cases h
        exact hret _ _ _ _ hP hD hS dX4_takes_120 hb117
      have h := br_0 h z31_5
      have e31_0 : rdue.toInt ≠ 0 := fun e => z31_0 (Int32.toInt_inj.mp e)
      have e31_1 : rdue.toInt ≠ 1 := fun e => z31_1 (Int32.toInt_inj.mp e)
      have e31_2 : rdue.toInt ≠ 2 := fun e => z31_2 (Int32.toInt_inj.mp e)
      have e31_3 : rdue.toInt ≠ 3 := fun e => z31_3 (Int32.toInt_inj.mp e)
      have e31_4 : rdue.toInt ≠ 4 := fun e => z31_4 (Int32.toInt_inj.mp e)
      have e31_5 : rdue.toInt ≠ 5 := fun e => z31_5 (Int32.toInt_inj.mp e)
      refine lv_tableOut (tgt := 121) hx hb dX4_takes_31 (by omega) (by decide) ?_
      refine lv_aload_n hx hb dX4_takes_121 rfl (lv_at hl 0 rfl) ?_
      refine lv_iload_n hx hb dX4_takes_122 rfl (lv_at hl 1 rfl) ?_
      refine lv_bipush (v := (48 : Int32)) hx hb dX4_takes_123 (by decide) ?_
      refine lv_isub hx hb dX4_takes_125 ?_
      refine lv_aload_n hx hb dX4_takes_126 rfl (lv_at hl 2 rfl) ?_
      obtain ⟨r127, w127_rdue, w127_sig, w127_see, hc, h⟩ := bd4_some h
      have hFc := my_freeS hD hS hA
      refine my_rwz (va_runV (As := [.int (x1 - (48 : Int32)), .ref a0]) (rest := []) hFix (kX4_takesSeen l D T F b0 a0 a1 a2 a3 a4 a5 rdue rtun rsee rbeg size clause eff kin gri sig see (x1 - (48 : Int32)) r127 w127_rdue w127_sig w127_see hc H.size) (cwV 2 hts gX4_takes_X4_takesSeen rfl rfl rfl ⟨rfl, hd_X4_takesSeen⟩ ⟨Nat.le_of_ble_eq_true rfl, Nat.le_of_ble_eq_true rfl⟩) (preV_rw hP hKK hD (va_recv hK hP (ci := 2) (q0 := 0) rfl wRP_0)) rfl rfl hl.1 rfl (lv_room (Nat.le_of_ble_eq_true rfl)) dX4_takes_127 ⟨Nat.zero_le _, Nat.zero_le _⟩) hS hFc (fun hb127 H1 locs hP1 hD1 hz1 hk1 hS => ?_)
      have hP : va_P D vwCl (wRP T b0 a0 a1 a2 a3 a4 a5 w127_rdue rtun rsee rbeg size clause eff kin gri w127_sig w127_see) H1 := hP1
      have hD : va_D A (wRP T b0 a0 a1 a2 a3 a4 a5 w127_rdue rtun rsee rbeg size clause eff kin gri w127_sig w127_see) := hD1.weaken (fun _ q _ h => hFc q.1 h)
      generalize H1 = H at hP hS ⊢
      cases h
      exact hret _ _ _ _ hP hD hS dX4_takes_130 hb127
    · have h := br_1 h c3
      refine lv_aload_n hx hb dX4_takes_6 rfl (lv_at hl 0 rfl) ?_
      refine va_get (D := D) (ci := 2) (C := RX4) (T := TX4) (N := 4) hx hb hts iX4 hown hK hP 0 wRP_0 rfl 0 (by decide) q1 (fun _ h9 => h9) rfl dX4_takes_7 ?_
      refine lv_if_eq (tgt := 21) hx hb dX4_takes_10 (by decide) (fun c10 => ?_) (fun c10 => ?_)
      · have h := br_1 h c10
        refine lv_iconst (v := (1 : Int32)) hx hb dX4_takes_21 (by decide) ?_
        refine lv_goto (tgt := 26) hx hb dX4_takes_22 (by decide) ?_
        cases h
        exact hret _ _ _ _ hP hD hS dX4_takes_26 (Or.inr rfl)
      · have h := br_0 h c10
        refine lv_aload_n hx hb dX4_takes_13 rfl (lv_at hl 0 rfl) ?_
        refine va_get (D := D) (ci := 2) (C := RX4) (T := TX4) (N := 4) hx hb hts iX4 hown hK hP 0 wRP_0 rfl 0 (by decide) q1 (fun _ h9 => h9) rfl dX4_takes_14 ?_
        refine lv_iconst (v := (3 : Int32)) hx hb dX4_takes_17 (by decide) ?_
        refine lv_icmp_ne (tgt := 25) hx hb dX4_takes_18 (by decide) (fun c18 => ?_) (fun c18 => ?_)
        · have h := br_0 h c18
          refine lv_iconst (v := (0 : Int32)) hx hb dX4_takes_25 (by decide) ?_
          cases h
          exact hret _ _ _ _ hP hD hS dX4_takes_26 (Or.inl rfl)
        · have h := br_1 h c18
          refine lv_iconst (v := (1 : Int32)) hx hb dX4_takes_21 (by decide) ?_
          refine lv_goto (tgt := 26) hx hb dX4_takes_22 (by decide) ?_
          cases h
          exact hret _ _ _ _ hP hD hS dX4_takes_26 (Or.inr rfl)
  exact key _ (fun H locs pc ls hP hD hS hd hb1 => W.zret hx hb hr (b01_n hb1) (fun t ht hW => ⟨⟨_, (), rfl, ⟨rfl, hb1⟩, by show _ ∧ _; rw [ht]; exact ⟨hP, hD⟩⟩, hS.F ht⟩) hS.2.2 hd)
