set_option maxHeartbeats 4000000 in
set_option maxRecDepth 100000 in
theorem LN_law_n1818 {p : Program} {l : Launch} {e : Env} {s : State} {m : MethodId} {args : Array Value} {below : List Frame} {meth : Method} {c : Code} {Q : State → Prop} {D : va_G} {T : Nat → ClassId} {b L : Nat} {xs : Nat → Int32} {A : Nat → Prop} {o0 za ta : Nat} (F : Nat) (s1736 : Int32 → Int32 → Int32 → Int32 → Option (Int32)) (x4 : Int32) (x5 : Int32) (x7 : Int32) (x8 : Int32) (x9 : Int32) (x23 : Int32) (x24 : Int32) (x25 : Int32) (x26 : Int32) (x27 : Int32) (x28 : Int32) (rs : Nat → Int32) (rm : Nat → Nat → Int32) (ts : Nat → Int32) (tm : Nat → Nat → Int32) (rdue : Int32) (rtun : Int32) (rsee : Int32) (rbeg : Int32) (psize : Int32) (pclause : Int32) (peff : Nat → Int32) (pkin : Nat → Int32) (pgri : Nat → Int32) (psig : Nat → Int32) (psee : Nat → Int32) (qsize : Int32) (qclause : Int32) (qeff : Nat → Int32) (qkin : Nat → Int32) (qgri : Nat → Int32) (qsig : Nat → Int32) (qsee : Nat → Int32) (cdee : Int32) (cnow : Int64) (cahe : Nat → Int64) (kdee : Nat → Int32) (know : Nat → Int64) (kahe : Nat → Nat → Int64) (fc : Nat → Int32) (lf : Int32) (told : Int32) (up : Int64) (lo : Int64) (zz : Nat → Int32) (tt : Nat → Int32) (C0 : SC_law p s m args c D T b L xs A) (hret : HR_law p l e s m args below meth c Q A) (ih1736 : ∀ x23 : Int32, ∀ x26 : Int32, ∀ x27 : Int32, ∀ told : Int32, s1736 x23 x26 x27 told = some (1 : Int32) → ∀ (ad : Nat → Nat) (H : Heap) (locs : List Loc), ad 0 = o0 → va_P D vwCl (wLW T ad (ad 6) (ad 12) za ta rs rm ts tm rdue rtun rsee rbeg psize pclause peff pkin pgri psig psee qsize qclause qeff qkin qgri qsig qsee cdee cnow cahe kdee know kahe fc lf told up lo zz tt) H → va_D A (wLW T ad (ad 6) (ad 12) za ta rs rm ts tm rdue rtun rsee rbeg psize pclause peff pkin pgri psig psee qsize qclause qeff qkin qgri qsig qsee cdee cnow cahe kdee know kahe fc lf told up lo zz tt) → va_S A s.heap H locs → ∀ (ls : Array Slot), lv_has ls 31 [(0, .ref b), (1, .ref (ad 0)), (3, .ref ta), (4, .int x4), (5, .int x5), (7, .int x7), (8, .int x8), (9, .int x9), (23, .int x23), (24, .int x24), (25, .int x25), (26, .int x26), (27, .int x27)] → W p l e room_1 s m args below meth c H locs 40 874 Q (F0 m 1736 ls [])) (h : fL_law_n1818 F s1736 L xs x4 x5 x7 x8 x9 x23 x24 x25 x26 x27 x28 rs rm ts tm rdue rtun rsee rbeg psize pclause peff pkin pgri psig psee qsize qclause qeff qkin qgri qsig qsee cdee cnow cahe kdee know kahe fc lf told up lo zz tt = some (1 : Int32)) : ∀ (ad : Nat → Nat) (H : Heap) (locs : List Loc), ad 0 = o0 → va_P D vwCl (wLW T ad (ad 6) (ad 12) za ta rs rm ts tm rdue rtun rsee rbeg psize pclause peff pkin pgri psig psee qsize qclause qeff qkin qgri qsig qsee cdee cnow cahe kdee know kahe fc lf told up lo zz tt) H → va_D A (wLW T ad (ad 6) (ad 12) za ta rs rm ts tm rdue rtun rsee rbeg psize pclause peff pkin pgri psig psee qsize qclause qeff qkin qgri qsig qsee cdee cnow cahe kdee know kahe fc lf told up lo zz tt) → va_S A s.heap H locs → ∀ (ls : Array Slot), lv_has ls 31 [(0, .ref b), (1, .ref (ad 0)), (3, .ref ta), (4, .int x4), (5, .int x5), (7, .int x7), (8, .int x8), (9, .int x9), (23, .int x23), (24, .int x24), (25, .int x25), (26, .int x26), (27, .int x27), (28, .int x28)] → W p l e room_1 s m args below meth c H locs 40 874 Q (F0 m 1818 ls []) := by
  intro ad H locs ho hP hD hS ls hl
  obtain ⟨hFix, hKK, hA, hX, hbl, hbA⟩ := id C0
  obtain ⟨hx, hb, hml, hown, hts⟩ := id hFix
  have hK := hKK.1
  unfold fL_law_n1818 at h
  refine lv_iload hx hb dL_law_1818 (lv_at hl 12 rfl) ?_
  refine lv_if_le (tgt := 1857) hx hb dL_law_1820 (by decide) (fun c1820 => ?_) (fun c1820 => ?_)
  · have h := br_1 h c1820
    exact LN_law_n1857 F s1736 x4 x5 x7 x8 x9 x23 x24 x25 x26 x27 x28 rs rm ts tm rdue rtun rsee rbeg psize pclause peff pkin pgri psig psee qsize qclause qeff qkin qgri qsig qsee cdee cnow cahe kdee know kahe fc lf told up lo zz tt C0 hret ih1736 h ad _ _ ho hP hD hS _ (lv_sub hl [0, 1, 2, 3, 4, 5, 6, 7, 8, 9, 10, 11, 12, 13] rfl)
  · have h := br_0 h c1820
    refine lv_iload hx hb dL_law_1823 (lv_at hl 13 rfl) ?_
    refine lv_if_le (tgt := 1857) hx hb dL_law_1825 (by decide) (fun c1825 => ?_) (fun c1825 => ?_)
    · have h := br_1 h c1825
      exact LN_law_n1857 F s1736 x4 x5 x7 x8 x9 x23 x24 x25 x26 x27 x28 rs rm ts tm rdue rtun rsee rbeg psize pclause peff pkin pgri psig psee qsize qclause qeff qkin qgri qsig qsee cdee cnow cahe kdee know kahe fc lf told up lo zz tt C0 hret ih1736 h ad _ _ ho hP hD hS _ (lv_sub hl [0, 1, 2, 3, 4, 5, 6, 7, 8, 9, 10, 11, 12, 13] rfl)
    · have h := br_0 h c1825
      refine lv_iload hx hb dL_law_1828 (lv_at hl 9 rfl) ?_
      refine lv_iload hx hb dL_law_1830 (lv_at hl 12 rfl) ?_
      refine lv_iconst (v := (1 : Int32)) hx hb dL_law_1832 (by decide) ?_
      refine lv_isub hx hb dL_law_1833 ?_
      refine lv_ishr hx hb dL_law_1834 ?_
      refine lv_iconst (v := (1 : Int32)) hx hb dL_law_1835 (by decide) ?_
      refine lv_iand hx hb dL_law_1836 ?_
      refine lv_if_ne (tgt := 1857) hx hb dL_law_1837 (by decide) (fun c1837 => ?_) (fun c1837 => ?_)
      · have h := br_0 h c1837
        exact LN_law_n1857 F s1736 x4 x5 x7 x8 x9 x23 x24 x25 x26 x27 x28 rs rm ts tm rdue rtun rsee rbeg psize pclause peff pkin pgri psig psee qsize qclause qeff qkin qgri qsig qsee cdee cnow cahe kdee know kahe fc lf told up lo zz tt C0 hret ih1736 h ad _ _ ho hP hD hS _ (lv_sub hl [0, 1, 2, 3, 4, 5, 6, 7, 8, 9, 10, 11, 12, 13] rfl)
      · have h := br_1 h c1837
        refine lv_aload_n hx hb dL_law_1840 rfl (lv_at hl 1 rfl) ?_
        refine lv_iload hx hb dL_law_1841 (lv_at hl 12 rfl) ?_
        refine lv_iconst (v := (1 : Int32)) hx hb dL_law_1843 (by decide) ?_
        refine lv_isub hx hb dL_law_1844 ?_
        refine lv_iload hx hb dL_law_1845 (lv_at hl 10 rfl) ?_
        obtain ⟨r1847, hc, h⟩ := bd1_some h
        have hPc : va_P D vwCl (wPW T ad (ad 6) (ad 12) rs rm ts tm rdue rtun rsee rbeg psize pclause peff pkin pgri psig psee qsize qclause qeff qkin qgri qsig qsee cdee cnow cahe kdee know kahe fc lf told up lo) _ := my_subP sb_wLW_wPW_0to37 hP
        refine my_roi (va_Run.run (va_runV (As := [.int (x27 - (1 : Int32)), .int x25]) (rest := []) hFix (kX5_gets l D T F ad rs rm ts tm rdue rtun rsee rbeg psize pclause peff pkin pgri psig psee qsize qclause qeff qkin qgri qsig qsee cdee cnow cahe kdee know kahe fc lf told up lo (x27 - (1 : Int32)) x25 r1847 hc) (cwV 2 hts gL_law_X5_gets rfl rfl rfl ⟨rfl, hd_X5_gets⟩ ⟨Nat.le_of_ble_eq_true rfl, Nat.le_of_ble_eq_true rfl⟩) (preV_ro hPc hKK (va_recv hK hP (ci := 3) (q0 := 0) rfl wLW_0)) rfl rfl hl.1 rfl (lv_room (Nat.le_of_ble_eq_true rfl)) dL_law_1847 ⟨Nat.le_of_ble_eq_true rfl, Nat.le_of_ble_eq_true rfl⟩)) ?_
        refine lv_iload hx hb dL_law_1850 (lv_at hl 13 rfl) ?_
        refine lv_icmp_ge (tgt := 1857) hx hb dL_law_1852 (by decide) (fun c1852 => ?_) (fun c1852 => ?_)
        · have h := br_1 h c1852
          exact LN_law_n1857 F s1736 x4 x5 x7 x8 x9 x23 x24 x25 x26 x27 x28 rs rm ts tm rdue rtun rsee rbeg psize pclause peff pkin pgri psig psee qsize qclause qeff qkin qgri qsig qsee cdee cnow cahe kdee know kahe fc lf told up lo zz tt C0 hret ih1736 h ad _ _ ho hP hD hS _ (lv_sub hl [0, 1, 2, 3, 4, 5, 6, 7, 8, 9, 10, 11, 12, 13] rfl)
        · have h := br_0 h c1852
          refine lv_iconst (v := (0 : Int32)) hx hb dL_law_1855 (by decide) ?_
          exact absurd (Option.some.inj h) (by decide)
set_option maxHeartbeats 4000000 in
set_option maxRecDepth 100000 in
theorem LN_law_n1784 {p : Program} {l : Launch} {e : Env} {s : State} {m : MethodId} {args : Array Value} {below : List Frame} {meth : Method} {c : Code} {Q : State → Prop} {D : va_G} {T : Nat → ClassId} {b L : Nat} {xs : Nat → Int32} {A : Nat → Prop} {o0 za ta : Nat} (F : Nat) (s1736 : Int32 → Int32 → Int32 → Int32 → Option (Int32)) (s_0 : Int32) (s_1 : Int32) (x4 : Int32) (x5 : Int32) (x7 : Int32) (x8 : Int32) (x9 : Int32) (x24 : Int32) (x25 : Int32) (x26 : Int32) (x27 : Int32) (rs : Nat → Int32) (rm : Nat → Nat → Int32) (ts : Nat → Int32) (tm : Nat → Nat → Int32) (rdue : Int32) (rtun : Int32) (rsee : Int32) (rbeg : Int32) (psize : Int32) (pclause : Int32) (peff : Nat → Int32) (pkin : Nat → Int32) (pgri : Nat → Int32) (psig : Nat → Int32) (psee : Nat → Int32) (qsize : Int32) (qclause : Int32) (qeff : Nat → Int32) (qkin : Nat → Int32) (qgri : Nat → Int32) (qsig : Nat → Int32) (qsee : Nat → Int32) (cdee : Int32) (cnow : Int64) (cahe : Nat → Int64) (kdee : Nat → Int32) (know : Nat → Int64) (kahe : Nat → Nat → Int64) (fc : Nat → Int32) (lf : Int32) (told : Int32) (up : Int64) (lo : Int64) (zz : Nat → Int32) (tt : Nat → Int32) (C0 : SC_law p s m args c D T b L xs A) (hret : HR_law p l e s m args below meth c Q A) (ih1736 : ∀ x23 : Int32, ∀ x26 : Int32, ∀ x27 : Int32, ∀ told : Int32, s1736 x23 x26 x27 told = some (1 : Int32) → ∀ (ad : Nat → Nat) (H : Heap) (locs : List Loc), ad 0 = o0 → va_P D vwCl (wLW T ad (ad 6) (ad 12) za ta rs rm ts tm rdue rtun rsee rbeg psize pclause peff pkin pgri psig psee qsize qclause qeff qkin qgri qsig qsee cdee cnow cahe kdee know kahe fc lf told up lo zz tt) H → va_D A (wLW T ad (ad 6) (ad 12) za ta rs rm ts tm rdue rtun rsee rbeg psize pclause peff pkin pgri psig psee qsize qclause qeff qkin qgri qsig qsee cdee cnow cahe kdee know kahe fc lf told up lo zz tt) → va_S A s.heap H locs → ∀ (ls : Array Slot), lv_has ls 31 [(0, .ref b), (1, .ref (ad 0)), (3, .ref ta), (4, .int x4), (5, .int x5), (7, .int x7), (8, .int x8), (9, .int x9), (23, .int x23), (24, .int x24), (25, .int x25), (26, .int x26), (27, .int x27)] → W p l e room_1 s m args below meth c H locs 40 874 Q (F0 m 1736 ls [])) (h : fL_law_n1784 F s1736 L xs s_0 s_1 x4 x5 x7 x8 x9 x24 x25 x26 x27 rs rm ts tm rdue rtun rsee rbeg psize pclause peff pkin pgri psig psee qsize qclause qeff qkin qgri qsig qsee cdee cnow cahe kdee know kahe fc lf told up lo zz tt = some (1 : Int32)) : ∀ (ad : Nat → Nat) (H : Heap) (locs : List Loc), ad 0 = o0 → va_P D vwCl (wLW T ad (ad 6) (ad 12) za ta rs rm ts tm rdue rtun rsee rbeg psize pclause peff pkin pgri psig psee qsize qclause qeff qkin qgri qsig qsee cdee cnow cahe kdee know kahe fc lf told up lo zz tt) H → va_D A (wLW T ad (ad 6) (ad 12) za ta rs rm ts tm rdue rtun rsee rbeg psize pclause peff pkin pgri psig psee qsize qclause qeff qkin qgri qsig qsee cdee cnow cahe kdee know kahe fc lf told up lo zz tt) → va_S A s.heap H locs → ∀ (ls : Array Slot), lv_has ls 31 [(0, .ref b), (1, .ref (ad 0)), (3, .ref ta), (4, .int x4), (5, .int x5), (7, .int x7), (8, .int x8), (9, .int x9), (24, .int x24), (25, .int x25), (26, .int x26), (27, .int x27)] → W p l e room_1 s m args below meth c H locs 40 874 Q (F0 m 1784 ls [.int s_1, .int s_0]) := by
  intro ad H locs ho hP hD hS ls hl
  obtain ⟨hFix, hKK, hA, hX, hbl, hbA⟩ := id C0
  obtain ⟨hx, hb, hml, hown, hts⟩ := id hFix
  have hK := hKK.1
  unfold fL_law_n1784 at h
  refine lv_ior hx hb dL_law_1784 ?_
  refine lv_istore (lv' := [(23, .int (s_0 ||| s_1)), (0, .ref b), (1, .ref (ad 0)), (3, .ref ta), (4, .int x4), (5, .int x5), (7, .int x7), (8, .int x8), (9, .int x9), (24, .int x24), (25, .int x25), (26, .int x26), (27, .int x27)]) hx hb dL_law_1785 hl (by decide) rfl (fun ls hl => ?_)
  refine lv_aload_n hx hb dL_law_1787 rfl (lv_at hl 2 rfl) ?_
  refine lv_iload hx hb dL_law_1788 (lv_at hl 12 rfl) ?_
  refine lv_iload hx hb dL_law_1790 (lv_at hl 10 rfl) ?_
  obtain ⟨r1792, hc, h⟩ := bd1_some h
  have hPc : va_P D vwCl (wPW T ad (ad 6) (ad 12) rs rm ts tm rdue rtun rsee rbeg psize pclause peff pkin pgri psig psee qsize qclause qeff qkin qgri qsig qsee cdee cnow cahe kdee know kahe fc lf told up lo) _ := my_subP sb_wLW_wPW_0to37 hP
  refine my_roi (va_Run.run (va_runV (As := [.int x27, .int x25]) (rest := []) hFix (kX5_gets l D T F ad rs rm ts tm rdue rtun rsee rbeg psize pclause peff pkin pgri psig psee qsize qclause qeff qkin qgri qsig qsee cdee cnow cahe kdee know kahe fc lf told up lo x27 x25 r1792 hc) (cwV 2 hts gL_law_X5_gets rfl rfl rfl ⟨rfl, hd_X5_gets⟩ ⟨Nat.le_of_ble_eq_true rfl, Nat.le_of_ble_eq_true rfl⟩) (preV_ro hPc hKK (va_recv hK hP (ci := 3) (q0 := 0) rfl wLW_0)) rfl rfl hl.1 rfl (lv_room (Nat.le_of_ble_eq_true rfl)) dL_law_1792 ⟨Nat.le_of_ble_eq_true rfl, Nat.le_of_ble_eq_true rfl⟩)) ?_
  refine lv_istore (lv' := [(28, .int r1792), (23, .int (s_0 ||| s_1)), (0, .ref b), (1, .ref (ad 0)), (3, .ref ta), (4, .int x4), (5, .int x5), (7, .int x7), (8, .int x8), (9, .int x9), (24, .int x24), (25, .int x25), (26, .int x26), (27, .int x27)]) hx hb dL_law_1795 hl (by decide) rfl (fun ls hl => ?_)
  refine lv_iload hx hb dL_law_1797 (lv_at hl 0 rfl) ?_
  refine lv_if_lt (tgt := 1855) hx hb dL_law_1799 (by decide) (fun c1799 => ?_) (fun c1799 => ?_)
  · have h := br_1 h c1799
    refine lv_iconst (v := (0 : Int32)) hx hb dL_law_1855 (by decide) ?_
    exact absurd (Option.some.inj h) (by decide)
  · have h := br_0 h c1799
    refine lv_iload hx hb dL_law_1802 (lv_at hl 10 rfl) ?_
    refine lv_iload hx hb dL_law_1804 (lv_at hl 13 rfl) ?_
    refine lv_ishr hx hb dL_law_1806 ?_
    refine lv_iconst (v := (1 : Int32)) hx hb dL_law_1807 (by decide) ?_
    refine lv_iand hx hb dL_law_1808 ?_
    refine lv_iconst (v := (1 : Int32)) hx hb dL_law_1809 (by decide) ?_
    refine lv_icmp_ne (tgt := 1818) hx hb dL_law_1810 (by decide) (fun c1810 => ?_) (fun c1810 => ?_)
    · have h := br_0 h c1810
      exact LN_law_n1818 F s1736 x4 x5 x7 x8 x9 (s_0 ||| s_1) x24 x25 x26 x27 r1792 rs rm ts tm rdue rtun rsee rbeg psize pclause peff pkin pgri psig psee qsize qclause qeff qkin qgri qsig qsee cdee cnow cahe kdee know kahe fc lf told up lo zz tt C0 hret ih1736 h ad _ _ ho hP hD hS _ (lv_sub hl [2, 3, 4, 5, 6, 7, 8, 9, 1, 10, 11, 12, 13, 0] rfl)
    · have h := br_1 h c1810
      refine lv_iload hx hb dL_law_1813 (lv_at hl 0 rfl) ?_
      refine lv_if_ne (tgt := 1855) hx hb dL_law_1815 (by decide) (fun c1815 => ?_) (fun c1815 => ?_)
      · have h := br_0 h c1815
        refine lv_iconst (v := (0 : Int32)) hx hb dL_law_1855 (by decide) ?_
        exact absurd (Option.some.inj h) (by decide)
      · have h := br_1 h c1815
        exact LN_law_n1818 F s1736 x4 x5 x7 x8 x9 (s_0 ||| s_1) x24 x25 x26 x27 r1792 rs rm ts tm rdue rtun rsee rbeg psize pclause peff pkin pgri psig psee qsize qclause qeff qkin qgri qsig qsee cdee cnow cahe kdee know kahe fc lf told up lo zz tt C0 hret ih1736 h ad _ _ ho hP hD hS _ (lv_sub hl [2, 3, 4, 5, 6, 7, 8, 9, 1, 10, 11, 12, 13, 0] rfl)
set_option maxHeartbeats 4000000 in
set_option maxRecDepth 100000 in
theorem LN_law_n1756 {p : Program} {l : Launch} {e : Env} {s : State} {m : MethodId} {args : Array Value} {below : List Frame} {meth : Method} {c : Code} {Q : State → Prop} {D : va_G} {T : Nat → ClassId} {b L : Nat} {xs : Nat → Int32} {A : Nat → Prop} {o0 za ta : Nat} (F : Nat) (s1736 : Int32 → Int32 → Int32 → Int32 → Option (Int32)) (x4 : Int32) (x5 : Int32) (x7 : Int32) (x8 : Int32) (x9 : Int32) (x23 : Int32) (x24 : Int32) (x25 : Int32) (x26 : Int32) (x27 : Int32) (rs : Nat → Int32) (rm : Nat → Nat → Int32) (ts : Nat → Int32) (tm : Nat → Nat → Int32) (rdue : Int32) (rtun : Int32) (rsee : Int32) (rbeg : Int32) (psize : Int32) (pclause : Int32) (peff : Nat → Int32) (pkin : Nat → Int32) (pgri : Nat → Int32) (psig : Nat → Int32) (psee : Nat → Int32) (qsize : Int32) (qclause : Int32) (qeff : Nat → Int32) (qkin : Nat → Int32) (qgri : Nat → Int32) (qsig : Nat → Int32) (qsee : Nat → Int32) (cdee : Int32) (cnow : Int64) (cahe : Nat → Int64) (kdee : Nat → Int32) (know : Nat → Int64) (kahe : Nat → Nat → Int64) (fc : Nat → Int32) (lf : Int32) (told : Int32) (up : Int64) (lo : Int64) (zz : Nat → Int32) (tt : Nat → Int32) (C0 : SC_law p s m args c D T b L xs A) (hret : HR_law p l e s m args below meth c Q A) (ih1736 : ∀ x23 : Int32, ∀ x26 : Int32, ∀ x27 : Int32, ∀ told : Int32, s1736 x23 x26 x27 told = some (1 : Int32) → ∀ (ad : Nat → Nat) (H : Heap) (locs : List Loc), ad 0 = o0 → va_P D vwCl (wLW T ad (ad 6) (ad 12) za ta rs rm ts tm rdue rtun rsee rbeg psize pclause peff pkin pgri psig psee qsize qclause qeff qkin qgri qsig qsee cdee cnow cahe kdee know kahe fc lf told up lo zz tt) H → va_D A (wLW T ad (ad 6) (ad 12) za ta rs rm ts tm rdue rtun rsee rbeg psize pclause peff pkin pgri psig psee qsize qclause qeff qkin qgri qsig qsee cdee cnow cahe kdee know kahe fc lf told up lo zz tt) → va_S A s.heap H locs → ∀ (ls : Array Slot), lv_has ls 31 [(0, .ref b), (1, .ref (ad 0)), (3, .ref ta), (4, .int x4), (5, .int x5), (7, .int x7), (8, .int x8), (9, .int x9), (23, .int x23), (24, .int x24), (25, .int x25), (26, .int x26), (27, .int x27)] → W p l e room_1 s m args below meth c H locs 40 874 Q (F0 m 1736 ls [])) (h : fL_law_n1756 F s1736 L xs x4 x5 x7 x8 x9 x23 x24 x25 x26 x27 rs rm ts tm rdue rtun rsee rbeg psize pclause peff pkin pgri psig psee qsize qclause qeff qkin qgri qsig qsee cdee cnow cahe kdee know kahe fc lf told up lo zz tt = some (1 : Int32)) : ∀ (ad : Nat → Nat) (H : Heap) (locs : List Loc), ad 0 = o0 → va_P D vwCl (wLW T ad (ad 6) (ad 12) za ta rs rm ts tm rdue rtun rsee rbeg psize pclause peff pkin pgri psig psee qsize qclause qeff qkin qgri qsig qsee cdee cnow cahe kdee know kahe fc lf told up lo zz tt) H → va_D A (wLW T ad (ad 6) (ad 12) za ta rs rm ts tm rdue rtun rsee rbeg psize pclause peff pkin pgri psig psee qsize qclause qeff qkin qgri qsig qsee cdee cnow cahe kdee know kahe fc lf told up lo zz tt) → va_S A s.heap H locs → ∀ (ls : Array Slot), lv_has ls 31 [(0, .ref b), (1, .ref (ad 0)), (3, .ref ta), (4, .int x4), (5, .int x5), (7, .int x7), (8, .int x8), (9, .int x9), (23, .int x23), (24, .int x24), (25, .int x25), (26, .int x26), (27, .int x27)] → W p l e room_1 s m args below meth c H locs 40 874 Q (F0 m 1756 ls []) := by
  intro ad H locs ho hP hD hS ls hl
  obtain ⟨hFix, hKK, hA, hX, hbl, hbA⟩ := id C0
  obtain ⟨hx, hb, hml, hown, hts⟩ := id hFix
  have hK := hKK.1
  unfold fL_law_n1756 at h
  refine lv_iload hx hb dL_law_1756 (lv_at hl 8 rfl) ?_
  refine lv_aload_n hx hb dL_law_1758 rfl (lv_at hl 1 rfl) ?_
  obtain ⟨r1759, hc, h⟩ := bd1_some h
  have hPc : va_P D vwCl (wPW T ad (ad 6) (ad 12) rs rm ts tm rdue rtun rsee rbeg psize pclause peff pkin pgri psig psee qsize qclause qeff qkin qgri qsig qsee cdee cnow cahe kdee know kahe fc lf told up lo) _ := my_subP sb_wLW_wPW_0to37 hP
  refine my_roi (va_Run.run (va_runV (As := []) (rest := [.int x23]) hFix (kX5_asked l D T F ad rs rm ts tm rdue rtun rsee rbeg psize pclause peff pkin pgri psig psee qsize qclause qeff qkin qgri qsig qsee cdee cnow cahe kdee know kahe fc lf told up lo r1759 hc) (cwV 0 hts gL_law_X5_asked rfl rfl rfl ⟨rfl, hd_X5_asked⟩ ⟨Nat.le_of_ble_eq_true rfl, Nat.le_of_ble_eq_true rfl⟩) (preV_ro hPc hKK (va_recv hK hP (ci := 3) (q0 := 0) rfl wLW_0)) rfl rfl hl.1 rfl (lv_room (Nat.le_of_ble_eq_true rfl)) dL_law_1759 ⟨Nat.le_of_ble_eq_true rfl, Nat.le_of_ble_eq_true rfl⟩)) ?_
  refine lv_iconst (v := (1 : Int32)) hx hb dL_law_1762 (by decide) ?_
  refine lv_icmp_ne (tgt := 1783) hx hb dL_law_1763 (by decide) (fun c1763 => ?_) (fun c1763 => ?_)
  · have h := br_0 h c1763
    refine lv_iconst (v := (0 : Int32)) hx hb dL_law_1783 (by decide) ?_
    exact LN_law_n1784 F s1736 x23 (0 : Int32) x4 x5 x7 x8 x9 x24 x25 x26 x27 rs rm ts tm rdue rtun rsee rbeg psize pclause peff pkin pgri psig psee qsize qclause qeff qkin qgri qsig qsee cdee cnow cahe kdee know kahe fc lf told up lo zz tt C0 hret ih1736 h ad _ _ ho hP hD hS _ (lv_sub hl [0, 1, 2, 3, 4, 5, 6, 7, 9, 10, 11, 12] rfl)
  · have h := br_1 h c1763
    refine lv_iload hx hb dL_law_1766 (lv_at hl 9 rfl) ?_
    refine lv_iload hx hb dL_law_1768 (lv_at hl 12 rfl) ?_
    refine lv_ishr hx hb dL_law_1770 ?_
    refine lv_iconst (v := (1 : Int32)) hx hb dL_law_1771 (by decide) ?_
    refine lv_iand hx hb dL_law_1772 ?_
    refine lv_if_ne (tgt := 1783) hx hb dL_law_1773 (by decide) (fun c1773 => ?_) (fun c1773 => ?_)
    · have h := br_0 h c1773
      refine lv_iconst (v := (0 : Int32)) hx hb dL_law_1783 (by decide) ?_
      exact LN_law_n1784 F s1736 x23 (0 : Int32) x4 x5 x7 x8 x9 x24 x25 x26 x27 rs rm ts tm rdue rtun rsee rbeg psize pclause peff pkin pgri psig psee qsize qclause qeff qkin qgri qsig qsee cdee cnow cahe kdee know kahe fc lf told up lo zz tt C0 hret ih1736 h ad _ _ ho hP hD hS _ (lv_sub hl [0, 1, 2, 3, 4, 5, 6, 7, 9, 10, 11, 12] rfl)
    · have h := br_1 h c1773
      refine lv_iconst (v := (1 : Int32)) hx hb dL_law_1776 (by decide) ?_
      refine lv_iload hx hb dL_law_1777 (lv_at hl 12 rfl) ?_
      refine lv_ishl hx hb dL_law_1779 ?_
      refine lv_goto (tgt := 1784) hx hb dL_law_1780 (by decide) ?_
      exact LN_law_n1784 F s1736 x23 ((1 : Int32) <<< (x27 &&& 31)) x4 x5 x7 x8 x9 x24 x25 x26 x27 rs rm ts tm rdue rtun rsee rbeg psize pclause peff pkin pgri psig psee qsize qclause qeff qkin qgri qsig qsee cdee cnow cahe kdee know kahe fc lf told up lo zz tt C0 hret ih1736 h ad _ _ ho hP hD hS _ (lv_sub hl [0, 1, 2, 3, 4, 5, 6, 7, 9, 10, 11, 12] rfl)
set_option maxHeartbeats 4000000 in
set_option maxRecDepth 100000 in
theorem LN_law_n2090 {p : Program} {l : Launch} {e : Env} {s : State} {m : MethodId} {args : Array Value} {below : List Frame} {meth : Method} {c : Code} {Q : State → Prop} {D : va_G} {T : Nat → ClassId} {b L : Nat} {xs : Nat → Int32} {A : Nat → Prop} {o0 za ta : Nat} (F : Nat) (x4 : Int32) (x8 : Int32) (rs : Nat → Int32) (rm : Nat → Nat → Int32) (ts : Nat → Int32) (tm : Nat → Nat → Int32) (rdue : Int32) (rtun : Int32) (rsee : Int32) (rbeg : Int32) (psize : Int32) (pclause : Int32) (peff : Nat → Int32) (pkin : Nat → Int32) (pgri : Nat → Int32) (psig : Nat → Int32) (psee : Nat → Int32) (qsize : Int32) (qclause : Int32) (qeff : Nat → Int32) (qkin : Nat → Int32) (qgri : Nat → Int32) (qsig : Nat → Int32) (qsee : Nat → Int32) (cdee : Int32) (cnow : Int64) (cahe : Nat → Int64) (kdee : Nat → Int32) (know : Nat → Int64) (kahe : Nat → Nat → Int64) (fc : Nat → Int32) (lf : Int32) (told : Int32) (up : Int64) (lo : Int64) (zz : Nat → Int32) (tt : Nat → Int32) (C0 : SC_law p s m args c D T b L xs A) (hret : HR_law p l e s m args below meth c Q A) (h : fL_law_n2090 F L xs x4 x8 rs rm ts tm rdue rtun rsee rbeg psize pclause peff pkin pgri psig psee qsize qclause qeff qkin qgri qsig qsee cdee cnow cahe kdee know kahe fc lf told up lo zz tt = some (1 : Int32)) : ∀ (ad : Nat → Nat) (H : Heap) (locs : List Loc), ad 0 = o0 → va_P D vwCl (wLW T ad (ad 6) (ad 12) za ta rs rm ts tm rdue rtun rsee rbeg psize pclause peff pkin pgri psig psee qsize qclause qeff qkin qgri qsig qsee cdee cnow cahe kdee know kahe fc lf told up lo zz tt) H → va_D A (wLW T ad (ad 6) (ad 12) za ta rs rm ts tm rdue rtun rsee rbeg psize pclause peff pkin pgri psig psee qsize qclause qeff qkin qgri qsig qsee cdee cnow cahe kdee know kahe fc lf told up lo zz tt) → va_S A s.heap H locs → ∀ (ls : Array Slot), lv_has ls 31 [(1, .ref (ad 0)), (3, .ref ta), (4, .int x4), (8, .int x8)] → W p l e room_1 s m args below meth c H locs 40 874 Q (F0 m 2090 ls []) := by
  intro ad H locs ho hP hD hS ls hl
  obtain ⟨hFix, hKK, hA, hX, hbl, hbA⟩ := id C0
  obtain ⟨hx, hb, hml, hown, hts⟩ := id hFix
  have hK := hKK.1
  unfold fL_law_n2090 at h
  refine lv_aload_n hx hb dL_law_2090 rfl (lv_at hl 0 rfl) ?_
  refine lv_iconst (v := (4 : Int32)) hx hb dL_law_2091 (by decide) ?_
  obtain ⟨r2092, hc, h⟩ := bd1_some h
  have hPc : va_P D vwCl (wPW T ad (ad 6) (ad 12) rs rm ts tm rdue rtun rsee rbeg psize pclause peff pkin pgri psig psee qsize qclause qeff qkin qgri qsig qsee cdee cnow cahe kdee know kahe fc lf told up lo) _ := my_subP sb_wLW_wPW_0to37 hP
  refine my_roi (va_Run.run (va_runV (As := [.int (4 : Int32)]) (rest := []) hFix (kX5_count l D T F ad rs rm ts tm rdue rtun rsee rbeg psize pclause peff pkin pgri psig psee qsize qclause qeff qkin qgri qsig qsee cdee cnow cahe kdee know kahe fc lf told up lo (4 : Int32) r2092 hc) (cwV 1 hts gL_law_X5_count rfl rfl rfl ⟨rfl, hd_X5_count⟩ ⟨Nat.le_of_ble_eq_true rfl, Nat.le_of_ble_eq_true rfl⟩) (preV_ro hPc hKK (va_recv hK hP (ci := 3) (q0 := 0) rfl wLW_0)) rfl rfl hl.1 rfl (lv_room (Nat.le_of_ble_eq_true rfl)) dL_law_2092 ⟨Nat.le_of_ble_eq_true rfl, Nat.le_of_ble_eq_true rfl⟩)) ?_
  refine lv_iload hx hb dL_law_2095 (lv_at hl 3 rfl) ?_
  refine lv_icmp_ne (tgt := 2138) hx hb dL_law_2097 (by decide) (fun c2097 => ?_) (fun c2097 => ?_)
  · have h := br_0 h c2097
    refine lv_iconst (v := (0 : Int32)) hx hb dL_law_2138 (by decide) ?_
    exact absurd (Option.some.inj h) (by decide)
  · have h := br_1 h c2097
    refine lv_aload_n hx hb dL_law_2100 rfl (lv_at hl 0 rfl) ?_
    refine lv_iconst (v := (0 : Int32)) hx hb dL_law_2101 (by decide) ?_
    obtain ⟨r2102, w2102_cdee, w2102_cnow, w2102_cahe, w2102_fc, w2102_lf, hc, h⟩ := bd6_some h
    have hPc : va_P D vwCl (wPW T ad (ad 6) (ad 12) rs rm ts tm rdue rtun rsee rbeg psize pclause peff pkin pgri psig psee qsize qclause qeff qkin qgri qsig qsee cdee cnow cahe kdee know kahe fc lf told up lo) _ := my_subP sb_wLW_wPW_0to37 hP
    have hDc := hD.sub [0, 1, 2, 3, 4, 5, 6, 7, 8, 9, 10, 11, 12, 13, 14, 15, 16, 17, 18, 19, 20, 21, 22, 23, 24, 25, 26, 27, 28, 29, 30, 31, 32, 33, 34, 35, 36, 37] nd_LW sb_wLW_wPW_0to37
    have hFc := va_free hD hS hA [0, 1, 2, 3, 4, 5, 6, 7, 8, 9, 10, 11, 12, 13, 14, 15, 16, 17, 18, 19, 20, 21, 22, 23, 24, 25, 26, 27, 28, 29, 30, 31, 32, 33, 34, 35, 36, 37] sb_wLW_wPW_0to37
    refine my_rwi (va_runV (As := [.int (0 : Int32)]) (rest := []) hFix (kX5_on l D T F ad rs rm ts tm rdue rtun rsee rbeg psize pclause peff pkin pgri psig psee qsize qclause qeff qkin qgri qsig qsee cdee cnow cahe kdee know kahe fc lf told up lo (0 : Int32) r2102 w2102_cdee w2102_cnow w2102_cahe w2102_fc w2102_lf hc _) (cwV 1 hts gL_law_X5_on rfl rfl rfl ⟨rfl, hd_X5_on⟩ ⟨Nat.le_of_ble_eq_true rfl, Nat.le_of_ble_eq_true rfl⟩) (preV_rw hPc hKK hDc (va_recv hK hP (ci := 3) (q0 := 0) rfl wLW_0)) rfl rfl hl.1 rfl (lv_room (Nat.le_of_ble_eq_true rfl)) dL_law_2102 ⟨Nat.le_of_ble_eq_true rfl, Nat.le_of_ble_eq_true rfl⟩) hS hFc (fun H1 locs hP1 hD1 hz1 hkk hS => ?_)
    obtain ⟨hP, hD⟩ := my_joinS hP hD nd_LW sb_wLW_wPW_0to37 (by rfl) hkk hFc hP1 hD1
    rw [st_LW] at hP hD
    generalize H1 = H at hP hS ⊢
    refine lv_if_ne (tgt := 2138) hx hb dL_law_2105 (by decide) (fun c2105 => ?_) (fun c2105 => ?_)
    · have h := br_0 h c2105
      refine lv_iconst (v := (0 : Int32)) hx hb dL_law_2138 (by decide) ?_
      exact absurd (Option.some.inj h) (by decide)
    · have h := br_1 h c2105
      refine lv_aload_n hx hb dL_law_2108 rfl (lv_at hl 0 rfl) ?_
      refine lv_iconst (v := (3 : Int32)) hx hb dL_law_2109 (by decide) ?_
      obtain ⟨r2110, hc, h⟩ := bd1_some h
      have hPc : va_P D vwCl (wPW T ad (ad 6) (ad 12) rs rm ts tm rdue rtun rsee rbeg psize pclause peff pkin pgri psig psee qsize qclause qeff qkin qgri qsig qsee w2102_cdee w2102_cnow w2102_cahe kdee know kahe w2102_fc w2102_lf told up lo) _ := my_subP sb_wLW_wPW_0to37 hP
      refine my_roi (va_Run.run (va_runV (As := [.int (3 : Int32)]) (rest := []) hFix (kX5_count l D T F ad rs rm ts tm rdue rtun rsee rbeg psize pclause peff pkin pgri psig psee qsize qclause qeff qkin qgri qsig qsee w2102_cdee w2102_cnow w2102_cahe kdee know kahe w2102_fc w2102_lf told up lo (3 : Int32) r2110 hc) (cwV 1 hts gL_law_X5_count rfl rfl rfl ⟨rfl, hd_X5_count⟩ ⟨Nat.le_of_ble_eq_true rfl, Nat.le_of_ble_eq_true rfl⟩) (preV_ro hPc hKK (va_recv hK hP (ci := 3) (q0 := 0) rfl wLW_0)) rfl rfl hl.1 rfl (lv_room (Nat.le_of_ble_eq_true rfl)) dL_law_2110 ⟨Nat.le_of_ble_eq_true rfl, Nat.le_of_ble_eq_true rfl⟩)) ?_
      refine lv_iload hx hb dL_law_2113 (lv_at hl 2 rfl) ?_
      refine lv_icmp_ne (tgt := 2138) hx hb dL_law_2115 (by decide) (fun c2115 => ?_) (fun c2115 => ?_)
      · have h := br_0 h c2115
        refine lv_iconst (v := (0 : Int32)) hx hb dL_law_2138 (by decide) ?_
        exact absurd (Option.some.inj h) (by decide)
      · have h := br_1 h c2115
        refine lv_aload_n hx hb dL_law_2118 rfl (lv_at hl 0 rfl) ?_
        refine lv_iconst (v := (4 : Int32)) hx hb dL_law_2119 (by decide) ?_
        obtain ⟨r2120, hc, h⟩ := bd1_some h
        have hPc : va_P D vwCl (wPW T ad (ad 6) (ad 12) rs rm ts tm rdue rtun rsee rbeg psize pclause peff pkin pgri psig psee qsize qclause qeff qkin qgri qsig qsee w2102_cdee w2102_cnow w2102_cahe kdee know kahe w2102_fc w2102_lf told up lo) _ := my_subP sb_wLW_wPW_0to37 hP
        refine my_roi (va_Run.run (va_runV (As := [.int (4 : Int32)]) (rest := []) hFix (kX5_count l D T F ad rs rm ts tm rdue rtun rsee rbeg psize pclause peff pkin pgri psig psee qsize qclause qeff qkin qgri qsig qsee w2102_cdee w2102_cnow w2102_cahe kdee know kahe w2102_fc w2102_lf told up lo (4 : Int32) r2120 hc) (cwV 1 hts gL_law_X5_count rfl rfl rfl ⟨rfl, hd_X5_count⟩ ⟨Nat.le_of_ble_eq_true rfl, Nat.le_of_ble_eq_true rfl⟩) (preV_ro hPc hKK (va_recv hK hP (ci := 3) (q0 := 0) rfl wLW_0)) rfl rfl hl.1 rfl (lv_room (Nat.le_of_ble_eq_true rfl)) dL_law_2120 ⟨Nat.le_of_ble_eq_true rfl, Nat.le_of_ble_eq_true rfl⟩)) ?_
        refine lv_aload_n hx hb dL_law_2123 rfl (lv_at hl 1 rfl) ?_
        obtain ⟨r2124, hc, h⟩ := bd1_some h
        have hPc : va_P D vwCl (wA1 T ta 7 tt) _ := my_subP sb_wLW_wA1_39 hP
        refine my_roi (va_Run.run (va_runS (As := [.ref ta]) (rest := [.int r2120]) hFix (kL_sum l D T F ta 7 tt r2124 hc) (va_cwS 1 hts gL_law_L_sum rfl rfl rfl hd_L_sum ⟨Nat.le_of_ble_eq_true rfl, Nat.le_of_ble_eq_true rfl⟩) (preS_ro hPc hKK) rfl rfl hl.1 rfl (lv_room (Nat.le_of_ble_eq_true rfl)) dL_law_2124 ⟨Nat.le_of_ble_eq_true rfl, Nat.le_of_ble_eq_true rfl⟩)) ?_
        refine lv_icmp_ne (tgt := 2138) hx hb dL_law_2127 (by decide) (fun c2127 => ?_) (fun c2127 => ?_)
        · have h := br_0 h c2127
          refine lv_iconst (v := (0 : Int32)) hx hb dL_law_2138 (by decide) ?_
          exact absurd (Option.some.inj h) (by decide)
        · have h := br_1 h c2127
          refine lv_aload_n hx hb dL_law_2130 rfl (lv_at hl 0 rfl) ?_
          refine lv_iconst (v := (0 : Int32)) hx hb dL_law_2131 (by decide) ?_
          obtain ⟨r2132, w2132_cdee, w2132_cnow, hc, h⟩ := bd3_some h
          have hPc : va_P D vwCl (wPW T ad (ad 6) (ad 12) rs rm ts tm rdue rtun rsee rbeg psize pclause peff pkin pgri psig psee qsize qclause qeff qkin qgri qsig qsee w2102_cdee w2102_cnow w2102_cahe kdee know kahe w2102_fc w2102_lf told up lo) _ := my_subP sb_wLW_wPW_0to37 hP
          have hDc := hD.sub [0, 1, 2, 3, 4, 5, 6, 7, 8, 9, 10, 11, 12, 13, 14, 15, 16, 17, 18, 19, 20, 21, 22, 23, 24, 25, 26, 27, 28, 29, 30, 31, 32, 33, 34, 35, 36, 37] nd_LW sb_wLW_wPW_0to37
          have hFc := va_free hD hS hA [0, 1, 2, 3, 4, 5, 6, 7, 8, 9, 10, 11, 12, 13, 14, 15, 16, 17, 18, 19, 20, 21, 22, 23, 24, 25, 26, 27, 28, 29, 30, 31, 32, 33, 34, 35, 36, 37] sb_wLW_wPW_0to37
          refine my_rwi (va_runV (As := [.int (0 : Int32)]) (rest := []) hFix (kX5_undo l D T F ad rs rm ts tm rdue rtun rsee rbeg psize pclause peff pkin pgri psig psee qsize qclause qeff qkin qgri qsig qsee w2102_cdee w2102_cnow w2102_cahe kdee know kahe w2102_fc w2102_lf told up lo (0 : Int32) r2132 w2132_cdee w2132_cnow hc _) (cwV 1 hts gL_law_X5_undo rfl rfl rfl ⟨rfl, hd_X5_undo⟩ ⟨Nat.le_of_ble_eq_true rfl, Nat.le_of_ble_eq_true rfl⟩) (preV_rw hPc hKK hDc (va_recv hK hP (ci := 3) (q0 := 0) rfl wLW_0)) rfl rfl hl.1 rfl (lv_room (Nat.le_of_ble_eq_true rfl)) dL_law_2132 ⟨Nat.le_of_ble_eq_true rfl, Nat.le_of_ble_eq_true rfl⟩) hS hFc (fun H1 locs hP1 hD1 hz1 hkk hS => ?_)
          obtain ⟨hP, hD⟩ := my_joinS hP hD nd_LW sb_wLW_wPW_0to37 (by rfl) hkk hFc hP1 hD1
          rw [st_LW] at hP hD
          generalize H1 = H at hP hS ⊢
          refine lv_if_eq (tgt := 2140) hx hb dL_law_2135 (by decide) (fun c2135 => ?_) (fun c2135 => ?_)
          · have h := br_1 h c2135
            refine lv_aload_n hx hb dL_law_2140 rfl (lv_at hl 0 rfl) ?_
            refine lv_bipush (v := (9 : Int32)) hx hb dL_law_2141 (by decide) ?_
            obtain ⟨r2143, hc, h⟩ := bd1_some h
            have hPc : va_P D vwCl (wPW T ad (ad 6) (ad 12) rs rm ts tm rdue rtun rsee rbeg psize pclause peff pkin pgri psig psee qsize qclause qeff qkin qgri qsig qsee w2132_cdee w2132_cnow w2102_cahe kdee know kahe w2102_fc w2102_lf told up lo) _ := my_subP sb_wLW_wPW_0to37 hP
            refine my_roi (va_Run.run (va_runV (As := [.int (9 : Int32)]) (rest := []) hFix (kX5_count l D T F ad rs rm ts tm rdue rtun rsee rbeg psize pclause peff pkin pgri psig psee qsize qclause qeff qkin qgri qsig qsee w2132_cdee w2132_cnow w2102_cahe kdee know kahe w2102_fc w2102_lf told up lo (9 : Int32) r2143 hc) (cwV 1 hts gL_law_X5_count rfl rfl rfl ⟨rfl, hd_X5_count⟩ ⟨Nat.le_of_ble_eq_true rfl, Nat.le_of_ble_eq_true rfl⟩) (preV_ro hPc hKK (va_recv hK hP (ci := 3) (q0 := 0) rfl wLW_0)) rfl rfl hl.1 rfl (lv_room (Nat.le_of_ble_eq_true rfl)) dL_law_2143 ⟨Nat.le_of_ble_eq_true rfl, Nat.le_of_ble_eq_true rfl⟩)) ?_
            refine lv_iconst (v := (2 : Int32)) hx hb dL_law_2146 (by decide) ?_
            refine lv_icmp_ne (tgt := 2154) hx hb dL_law_2147 (by decide) (fun c2147 => ?_) (fun c2147 => ?_)
            · have h := br_0 h c2147
              refine lv_iconst (v := (0 : Int32)) hx hb dL_law_2154 (by decide) ?_
              exact absurd (Option.some.inj h) (by decide)
            · have h := br_1 h c2147
              refine lv_iconst (v := (1 : Int32)) hx hb dL_law_2150 (by decide) ?_
              refine lv_goto (tgt := 2155) hx hb dL_law_2151 (by decide) ?_
              exact hret _ _ _ _ hS dL_law_2155
          · have h := br_0 h c2135
            refine lv_iconst (v := (0 : Int32)) hx hb dL_law_2138 (by decide) ?_
            exact absurd (Option.some.inj h) (by decide)
set_option maxHeartbeats 4000000 in
set_option maxRecDepth 100000 in
theorem LN_law_n2039 {p : Program} {l : Launch} {e : Env} {s : State} {m : MethodId} {args : Array Value} {below : List Frame} {meth : Method} {c : Code} {Q : State → Prop} {D : va_G} {T : Nat → ClassId} {b L : Nat} {xs : Nat → Int32} {A : Nat → Prop} {o0 za ta : Nat} (F : Nat) (x4 : Int32) (x7 : Int32) (x8 : Int32) (x9 : Int32) (x29 : Int32) (x30 : Int32) (rs : Nat → Int32) (rm : Nat → Nat → Int32) (ts : Nat → Int32) (tm : Nat → Nat → Int32) (rdue : Int32) (rtun : Int32) (rsee : Int32) (rbeg : Int32) (psize : Int32) (pclause : Int32) (peff : Nat → Int32) (pkin : Nat → Int32) (pgri : Nat → Int32) (psig : Nat → Int32) (psee : Nat → Int32) (qsize : Int32) (qclause : Int32) (qeff : Nat → Int32) (qkin : Nat → Int32) (qgri : Nat → Int32) (qsig : Nat → Int32) (qsee : Nat → Int32) (cdee : Int32) (cnow : Int64) (cahe : Nat → Int64) (kdee : Nat → Int32) (know : Nat → Int64) (kahe : Nat → Nat → Int64) (fc : Nat → Int32) (lf : Int32) (told : Int32) (up : Int64) (lo : Int64) (zz : Nat → Int32) (tt : Nat → Int32) (C0 : SC_law p s m args c D T b L xs A) (hret : HR_law p l e s m args below meth c Q A) (h : fL_law_n2039 F L xs x4 x7 x8 x9 x29 x30 rs rm ts tm rdue rtun rsee rbeg psize pclause peff pkin pgri psig psee qsize qclause qeff qkin qgri qsig qsee cdee cnow cahe kdee know kahe fc lf told up lo zz tt = some (1 : Int32)) : ∀ (ad : Nat → Nat) (H : Heap) (locs : List Loc), ad 0 = o0 → va_P D vwCl (wLW T ad (ad 6) (ad 12) za ta rs rm ts tm rdue rtun rsee rbeg psize pclause peff pkin pgri psig psee qsize qclause qeff qkin qgri qsig qsee cdee cnow cahe kdee know kahe fc lf told up lo zz tt) H → va_D A (wLW T ad (ad 6) (ad 12) za ta rs rm ts tm rdue rtun rsee rbeg psize pclause peff pkin pgri psig psee qsize qclause qeff qkin qgri qsig qsee cdee cnow cahe kdee know kahe fc lf told up lo zz tt) → va_S A s.heap H locs → ∀ (ls : Array Slot), lv_has ls 31 [(1, .ref (ad 0)), (3, .ref ta), (4, .int x4), (7, .int x7), (8, .int x8), (9, .int x9), (29, .int x29), (30, .int x30)] → W p l e room_1 s m args below meth c H locs 40 874 Q (F0 m 2039 ls []) := by
  intro ad H locs ho hP hD hS ls hl
  obtain ⟨hFix, hKK, hA, hX, hbl, hbA⟩ := id C0
  obtain ⟨hx, hb, hml, hown, hts⟩ := id hFix
  have hK := hKK.1
  unfold fL_law_n2039 at h
  refine lv_iload hx hb dL_law_2039 (lv_at hl 7 rfl) ?_
  refine lv_if_lt (tgt := 2088) hx hb dL_law_2041 (by decide) (fun c2041 => ?_) (fun c2041 => ?_)
  · have h := br_1 h c2041
    refine lv_iconst (v := (0 : Int32)) hx hb dL_law_2088 (by decide) ?_
    exact absurd (Option.some.inj h) (by decide)
  · have h := br_0 h c2041
    refine lv_iload hx hb dL_law_2044 (lv_at hl 7 rfl) ?_
    refine lv_iload hx hb dL_law_2046 (lv_at hl 3 rfl) ?_
    refine lv_icmp_gt (tgt := 2088) hx hb dL_law_2048 (by decide) (fun c2048 => ?_) (fun c2048 => ?_)
    · have h := br_1 h c2048
      refine lv_iconst (v := (0 : Int32)) hx hb dL_law_2088 (by decide) ?_
      exact absurd (Option.some.inj h) (by decide)
    · have h := br_0 h c2048
      refine lv_aload_n hx hb dL_law_2051 rfl (lv_at hl 0 rfl) ?_
      refine lv_iconst (v := (2 : Int32)) hx hb dL_law_2052 (by decide) ?_
      obtain ⟨r2053, hc, h⟩ := bd1_some h
      have hPc : va_P D vwCl (wPW T ad (ad 6) (ad 12) rs rm ts tm rdue rtun rsee rbeg psize pclause peff pkin pgri psig psee qsize qclause qeff qkin qgri qsig qsee cdee cnow cahe kdee know kahe fc lf told up lo) _ := my_subP sb_wLW_wPW_0to37 hP
      refine my_roi (va_Run.run (va_runV (As := [.int (2 : Int32)]) (rest := []) hFix (kX5_count l D T F ad rs rm ts tm rdue rtun rsee rbeg psize pclause peff pkin pgri psig psee qsize qclause qeff qkin qgri qsig qsee cdee cnow cahe kdee know kahe fc lf told up lo (2 : Int32) r2053 hc) (cwV 1 hts gL_law_X5_count rfl rfl rfl ⟨rfl, hd_X5_count⟩ ⟨Nat.le_of_ble_eq_true rfl, Nat.le_of_ble_eq_true rfl⟩) (preV_ro hPc hKK (va_recv hK hP (ci := 3) (q0 := 0) rfl wLW_0)) rfl rfl hl.1 rfl (lv_room (Nat.le_of_ble_eq_true rfl)) dL_law_2053 ⟨Nat.le_of_ble_eq_true rfl, Nat.le_of_ble_eq_true rfl⟩)) ?_
      refine lv_iload hx hb dL_law_2056 (lv_at hl 5 rfl) ?_
      refine lv_iload hx hb dL_law_2058 (lv_at hl 6 rfl) ?_
      refine lv_iadd hx hb dL_law_2060 ?_
      refine lv_icmp_ne (tgt := 2088) hx hb dL_law_2061 (by decide) (fun c2061 => ?_) (fun c2061 => ?_)
      · have h := br_0 h c2061
        refine lv_iconst (v := (0 : Int32)) hx hb dL_law_2088 (by decide) ?_
        exact absurd (Option.some.inj h) (by decide)
      · have h := br_1 h c2061
        refine lv_aload_n hx hb dL_law_2064 rfl (lv_at hl 0 rfl) ?_
        refine lv_iconst (v := (3 : Int32)) hx hb dL_law_2065 (by decide) ?_
        obtain ⟨r2066, hc, h⟩ := bd1_some h
        have hPc : va_P D vwCl (wPW T ad (ad 6) (ad 12) rs rm ts tm rdue rtun rsee rbeg psize pclause peff pkin pgri psig psee qsize qclause qeff qkin qgri qsig qsee cdee cnow cahe kdee know kahe fc lf told up lo) _ := my_subP sb_wLW_wPW_0to37 hP
        refine my_roi (va_Run.run (va_runV (As := [.int (3 : Int32)]) (rest := []) hFix (kX5_count l D T F ad rs rm ts tm rdue rtun rsee rbeg psize pclause peff pkin pgri psig psee qsize qclause qeff qkin qgri qsig qsee cdee cnow cahe kdee know kahe fc lf told up lo (3 : Int32) r2066 hc) (cwV 1 hts gL_law_X5_count rfl rfl rfl ⟨rfl, hd_X5_count⟩ ⟨Nat.le_of_ble_eq_true rfl, Nat.le_of_ble_eq_true rfl⟩) (preV_ro hPc hKK (va_recv hK hP (ci := 3) (q0 := 0) rfl wLW_0)) rfl rfl hl.1 rfl (lv_room (Nat.le_of_ble_eq_true rfl)) dL_law_2066 ⟨Nat.le_of_ble_eq_true rfl, Nat.le_of_ble_eq_true rfl⟩)) ?_
        refine lv_iload hx hb dL_law_2069 (lv_at hl 3 rfl) ?_
        refine lv_iload hx hb dL_law_2071 (lv_at hl 7 rfl) ?_
        refine lv_isub hx hb dL_law_2073 ?_
        refine lv_icmp_ne (tgt := 2088) hx hb dL_law_2074 (by decide) (fun c2074 => ?_) (fun c2074 => ?_)
        · have h := br_0 h c2074
          refine lv_iconst (v := (0 : Int32)) hx hb dL_law_2088 (by decide) ?_
          exact absurd (Option.some.inj h) (by decide)
        · have h := br_1 h c2074
          refine lv_aload_n hx hb dL_law_2077 rfl (lv_at hl 0 rfl) ?_
          refine lv_iload hx hb dL_law_2078 (lv_at hl 5 rfl) ?_
          obtain ⟨r2080, w2080_cdee, w2080_cnow, hc, h⟩ := bd3_some h
          have hPc : va_P D vwCl (wPW T ad (ad 6) (ad 12) rs rm ts tm rdue rtun rsee rbeg psize pclause peff pkin pgri psig psee qsize qclause qeff qkin qgri qsig qsee cdee cnow cahe kdee know kahe fc lf told up lo) _ := my_subP sb_wLW_wPW_0to37 hP
          have hDc := hD.sub [0, 1, 2, 3, 4, 5, 6, 7, 8, 9, 10, 11, 12, 13, 14, 15, 16, 17, 18, 19, 20, 21, 22, 23, 24, 25, 26, 27, 28, 29, 30, 31, 32, 33, 34, 35, 36, 37] nd_LW sb_wLW_wPW_0to37
          have hFc := va_free hD hS hA [0, 1, 2, 3, 4, 5, 6, 7, 8, 9, 10, 11, 12, 13, 14, 15, 16, 17, 18, 19, 20, 21, 22, 23, 24, 25, 26, 27, 28, 29, 30, 31, 32, 33, 34, 35, 36, 37] sb_wLW_wPW_0to37
          refine my_rwi (va_runV (As := [.int x9]) (rest := []) hFix (kX5_undo l D T F ad rs rm ts tm rdue rtun rsee rbeg psize pclause peff pkin pgri psig psee qsize qclause qeff qkin qgri qsig qsee cdee cnow cahe kdee know kahe fc lf told up lo x9 r2080 w2080_cdee w2080_cnow hc _) (cwV 1 hts gL_law_X5_undo rfl rfl rfl ⟨rfl, hd_X5_undo⟩ ⟨Nat.le_of_ble_eq_true rfl, Nat.le_of_ble_eq_true rfl⟩) (preV_rw hPc hKK hDc (va_recv hK hP (ci := 3) (q0 := 0) rfl wLW_0)) rfl rfl hl.1 rfl (lv_room (Nat.le_of_ble_eq_true rfl)) dL_law_2080 ⟨Nat.le_of_ble_eq_true rfl, Nat.le_of_ble_eq_true rfl⟩) hS hFc (fun H1 locs hP1 hD1 hz1 hkk hS => ?_)
          obtain ⟨hP, hD⟩ := my_joinS hP hD nd_LW sb_wLW_wPW_0to37 (by rfl) hkk hFc hP1 hD1
          rw [st_LW] at hP hD
          generalize H1 = H at hP hS ⊢
          refine lv_iload hx hb dL_law_2083 (lv_at hl 6 rfl) ?_
          refine lv_icmp_eq (tgt := 2090) hx hb dL_law_2085 (by decide) (fun c2085 => ?_) (fun c2085 => ?_)
          · have h := br_1 h c2085
            exact LN_law_n2090 F x4 x8 rs rm ts tm rdue rtun rsee rbeg psize pclause peff pkin pgri psig psee qsize qclause qeff qkin qgri qsig qsee w2080_cdee w2080_cnow cahe kdee know kahe fc lf told up lo zz tt C0 hret h ad _ _ ho hP hD hS _ (lv_sub hl [0, 1, 2, 4] rfl)
          · have h := br_0 h c2085
            refine lv_iconst (v := (0 : Int32)) hx hb dL_law_2088 (by decide) ?_
            exact absurd (Option.some.inj h) (by decide)
set_option maxHeartbeats 4000000 in
set_option maxRecDepth 100000 in
theorem LN_law_n1983 {p : Program} {l : Launch} {e : Env} {s : State} {m : MethodId} {args : Array Value} {below : List Frame} {meth : Method} {c : Code} {Q : State → Prop} {D : va_G} {T : Nat → ClassId} {b L : Nat} {xs : Nat → Int32} {A : Nat → Prop} {o0 za ta : Nat} (F : Nat) (x4 : Int32) (x7 : Int32) (x8 : Int32) (x9 : Int32) (rs : Nat → Int32) (rm : Nat → Nat → Int32) (ts : Nat → Int32) (tm : Nat → Nat → Int32) (rdue : Int32) (rtun : Int32) (rsee : Int32) (rbeg : Int32) (psize : Int32) (pclause : Int32) (peff : Nat → Int32) (pkin : Nat → Int32) (pgri : Nat → Int32) (psig : Nat → Int32) (psee : Nat → Int32) (qsize : Int32) (qclause : Int32) (qeff : Nat → Int32) (qkin : Nat → Int32) (qgri : Nat → Int32) (qsig : Nat → Int32) (qsee : Nat → Int32) (cdee : Int32) (cnow : Int64) (cahe : Nat → Int64) (kdee : Nat → Int32) (know : Nat → Int64) (kahe : Nat → Nat → Int64) (fc : Nat → Int32) (lf : Int32) (told : Int32) (up : Int64) (lo : Int64) (zz : Nat → Int32) (tt : Nat → Int32) (C0 : SC_law p s m args c D T b L xs A) (hret : HR_law p l e s m args below meth c Q A) (h : fL_law_n1983 F L xs x4 x7 x8 x9 rs rm ts tm rdue rtun rsee rbeg psize pclause peff pkin pgri psig psee qsize qclause qeff qkin qgri qsig qsee cdee cnow cahe kdee know kahe fc lf told up lo zz tt = some (1 : Int32)) : ∀ (ad : Nat → Nat) (H : Heap) (locs : List Loc), ad 0 = o0 → va_P D vwCl (wLW T ad (ad 6) (ad 12) za ta rs rm ts tm rdue rtun rsee rbeg psize pclause peff pkin pgri psig psee qsize qclause qeff qkin qgri qsig qsee cdee cnow cahe kdee know kahe fc lf told up lo zz tt) H → va_D A (wLW T ad (ad 6) (ad 12) za ta rs rm ts tm rdue rtun rsee rbeg psize pclause peff pkin pgri psig psee qsize qclause qeff qkin qgri qsig qsee cdee cnow cahe kdee know kahe fc lf told up lo zz tt) → va_S A s.heap H locs → ∀ (ls : Array Slot), lv_has ls 31 [(0, .ref b), (1, .ref (ad 0)), (3, .ref ta), (4, .int x4), (7, .int x7), (8, .int x8), (9, .int x9)] → W p l e room_1 s m args below meth c H locs 40 874 Q (F0 m 1983 ls []) := by
  intro ad H locs ho hP hD hS ls hl
  obtain ⟨hFix, hKK, hA, hX, hbl, hbA⟩ := id C0
  obtain ⟨hx, hb, hml, hown, hts⟩ := id hFix
  have hK := hKK.1
  have q6 := hts _ (List.mem_of_getElem? (i := 6) (show wsL_law[6]? = some (Cond.constant RL 172 (999999)) from rfl))
  unfold fL_law_n1983 at h
  refine lv_iconst (v := (1 : Int32)) hx hb dL_law_1983 (by decide) ?_
  refine lv_aload_n hx hb dL_law_1984 rfl (lv_at hl 0 rfl) ?_
  refine lv_bipush (v := (52 : Int32)) hx hb dL_law_1985 (by decide) ?_
  obtain ⟨r1987, hc, h⟩ := bd1_some h
  refine my_roi (va_Run.run (va_runS (As := [.ref b, .int (52 : Int32)]) (rest := [.int (1 : Int32)]) hFix (kL_cell l D T F b L xs (52 : Int32) r1987 hc) (va_cwS 2 hts gL_law_L_cell rfl rfl rfl hd_L_cell ⟨Nat.le_of_ble_eq_true rfl, Nat.le_of_ble_eq_true rfl⟩) (preS_x (hX.kept (hS.2.1 b hbl hbA)) hKK) rfl rfl hl.1 rfl (lv_room (Nat.le_of_ble_eq_true rfl)) dL_law_1987 ⟨Nat.le_of_ble_eq_true rfl, Nat.le_of_ble_eq_true rfl⟩)) ?_
  refine lv_bipush (v := (20 : Int32)) hx hb dL_law_1990 (by decide) ?_
  obtain ⟨r1992, hc, h⟩ := bd1_some h
  refine my_roi (va_Run.run (va_runS (As := [.int r1987, .int (20 : Int32)]) (rest := [.int (1 : Int32)]) hFix (kL_part l D T F r1987 (20 : Int32) r1992 hc) (va_cwS 2 hts gL_law_L_part rfl rfl rfl hd_L_part ⟨Nat.le_of_ble_eq_true rfl, Nat.le_of_ble_eq_true rfl⟩) (preS_ro va_nil hKK) rfl rfl hl.1 rfl (lv_room (Nat.le_of_ble_eq_true rfl)) dL_law_1992 ⟨Nat.le_of_ble_eq_true rfl, Nat.le_of_ble_eq_true rfl⟩)) ?_
  refine lv_iadd hx hb dL_law_1995 ?_
  refine lv_istore (lv' := [(29, .int ((1 : Int32) + r1992)), (0, .ref b), (1, .ref (ad 0)), (3, .ref ta), (4, .int x4), (7, .int x7), (8, .int x8), (9, .int x9)]) hx hb dL_law_1996 hl (by decide) rfl (fun ls hl => ?_)
  refine lv_aload_n hx hb dL_law_1998 rfl (lv_at hl 2 rfl) ?_
  refine lv_iload hx hb dL_law_1999 (lv_at hl 0 rfl) ?_
  refine lv_iconst (v := (1 : Int32)) hx hb dL_law_2001 (by decide) ?_
  refine lv_aload_n hx hb dL_law_2002 rfl (lv_at hl 1 rfl) ?_
  refine lv_bipush (v := (53 : Int32)) hx hb dL_law_2003 (by decide) ?_
  obtain ⟨r2005, hc, h⟩ := bd1_some h
  refine my_roi (va_Run.run (va_runS (As := [.ref b, .int (53 : Int32)]) (rest := [.int (1 : Int32), .int ((1 : Int32) + r1992), .ref (ad 0)]) hFix (kL_cell l D T F b L xs (53 : Int32) r2005 hc) (va_cwS 2 hts gL_law_L_cell rfl rfl rfl hd_L_cell ⟨Nat.le_of_ble_eq_true rfl, Nat.le_of_ble_eq_true rfl⟩) (preS_x (hX.kept (hS.2.1 b hbl hbA)) hKK) rfl rfl hl.1 rfl (lv_room (Nat.le_of_ble_eq_true rfl)) dL_law_2005 ⟨Nat.le_of_ble_eq_true rfl, Nat.le_of_ble_eq_true rfl⟩)) ?_
  refine lv_ldc (v := (999999 : Int32)) hx hb hown q6 dL_law_2008 ?_
  obtain ⟨r2010, hc, h⟩ := bd1_some h
  refine my_roi (va_Run.run (va_runS (As := [.int r2005, .int (999999 : Int32)]) (rest := [.int (1 : Int32), .int ((1 : Int32) + r1992), .ref (ad 0)]) hFix (kL_part l D T F r2005 (999999 : Int32) r2010 hc) (va_cwS 2 hts gL_law_L_part rfl rfl rfl hd_L_part ⟨Nat.le_of_ble_eq_true rfl, Nat.le_of_ble_eq_true rfl⟩) (preS_ro va_nil hKK) rfl rfl hl.1 rfl (lv_room (Nat.le_of_ble_eq_true rfl)) dL_law_2010 ⟨Nat.le_of_ble_eq_true rfl, Nat.le_of_ble_eq_true rfl⟩)) ?_
  refine lv_iadd hx hb dL_law_2013 ?_
  obtain ⟨r2014, w2014_cdee, w2014_cnow, w2014_cahe, hc, h⟩ := bd4_some h
  have hPc : va_P D vwCl (wPW T ad (ad 6) (ad 12) rs rm ts tm rdue rtun rsee rbeg psize pclause peff pkin pgri psig psee qsize qclause qeff qkin qgri qsig qsee cdee cnow cahe kdee know kahe fc lf told up lo) _ := my_subP sb_wLW_wPW_0to37 hP
  have hDc := hD.sub [0, 1, 2, 3, 4, 5, 6, 7, 8, 9, 10, 11, 12, 13, 14, 15, 16, 17, 18, 19, 20, 21, 22, 23, 24, 25, 26, 27, 28, 29, 30, 31, 32, 33, 34, 35, 36, 37] nd_LW sb_wLW_wPW_0to37
  have hFc := va_free hD hS hA [0, 1, 2, 3, 4, 5, 6, 7, 8, 9, 10, 11, 12, 13, 14, 15, 16, 17, 18, 19, 20, 21, 22, 23, 24, 25, 26, 27, 28, 29, 30, 31, 32, 33, 34, 35, 36, 37] sb_wLW_wPW_0to37
  refine my_rwi (va_runV (As := [.int ((1 : Int32) + r1992), .int ((1 : Int32) + r2010)]) (rest := []) hFix (kX5_lots l D T F ad rs rm ts tm rdue rtun rsee rbeg psize pclause peff pkin pgri psig psee qsize qclause qeff qkin qgri qsig qsee cdee cnow cahe kdee know kahe fc lf told up lo ((1 : Int32) + r1992) ((1 : Int32) + r2010) r2014 w2014_cdee w2014_cnow w2014_cahe hc _) (cwV 2 hts gL_law_X5_lots rfl rfl rfl ⟨rfl, hd_X5_lots⟩ ⟨Nat.le_of_ble_eq_true rfl, Nat.le_of_ble_eq_true rfl⟩) (preV_rw hPc hKK hDc (va_recv hK hP (ci := 3) (q0 := 0) rfl wLW_0)) rfl rfl hl.1 rfl (lv_room (Nat.le_of_ble_eq_true rfl)) dL_law_2014 ⟨Nat.le_of_ble_eq_true rfl, Nat.le_of_ble_eq_true rfl⟩) hS hFc (fun H1 locs hP1 hD1 hz1 hkk hS => ?_)
  obtain ⟨hP, hD⟩ := my_joinS hP hD nd_LW sb_wLW_wPW_0to37 (by rfl) hkk hFc hP1 hD1
  rw [st_LW] at hP hD
  generalize H1 = H at hP hS ⊢
  refine lv_istore (lv' := [(30, .int r2014), (29, .int ((1 : Int32) + r1992)), (0, .ref b), (1, .ref (ad 0)), (3, .ref ta), (4, .int x4), (7, .int x7), (8, .int x8), (9, .int x9)]) hx hb dL_law_2017 hl (by decide) rfl (fun ls hl => ?_)
  refine lv_iload hx hb dL_law_2019 (lv_at hl 8 rfl) ?_
  refine lv_iload hx hb dL_law_2021 (lv_at hl 1 rfl) ?_
  refine lv_iadd hx hb dL_law_2023 ?_
  refine lv_bipush (v := (40 : Int32)) hx hb dL_law_2024 (by decide) ?_
  refine lv_icmp_le (tgt := 2039) hx hb dL_law_2026 (by decide) (fun c2026 => ?_) (fun c2026 => ?_)
  · have h := br_1 h c2026
    exact LN_law_n2039 F x4 x7 x8 x9 ((1 : Int32) + r1992) r2014 rs rm ts tm rdue rtun rsee rbeg psize pclause peff pkin pgri psig psee qsize qclause qeff qkin qgri qsig qsee w2014_cdee w2014_cnow w2014_cahe kdee know kahe fc lf told up lo zz tt C0 hret h ad _ _ ho hP hD hS _ (lv_sub hl [3, 4, 5, 6, 7, 8, 1, 0] rfl)
  · have h := br_0 h c2026
    refine lv_iload hx hb dL_law_2029 (lv_at hl 0 rfl) ?_
    refine lv_bipush (v := (-2 : Int32)) hx hb dL_law_2031 (by decide) ?_
    refine lv_icmp_eq (tgt := 2090) hx hb dL_law_2033 (by decide) (fun c2033 => ?_) (fun c2033 => ?_)
    · have h := br_1 h c2033
      exact LN_law_n2090 F x4 x8 rs rm ts tm rdue rtun rsee rbeg psize pclause peff pkin pgri psig psee qsize qclause qeff qkin qgri qsig qsee w2014_cdee w2014_cnow w2014_cahe kdee know kahe fc lf told up lo zz tt C0 hret h ad _ _ ho hP hD hS _ (lv_sub hl [3, 4, 5, 7] rfl)
    · have h := br_0 h c2033
      refine lv_goto (tgt := 2088) hx hb dL_law_2036 (by decide) ?_
      refine lv_iconst (v := (0 : Int32)) hx hb dL_law_2088 (by decide) ?_
      exact absurd (Option.some.inj h) (by decide)
set_option maxHeartbeats 4000000 in
set_option maxRecDepth 100000 in
theorem LN_law_n1936 {p : Program} {l : Launch} {e : Env} {s : State} {m : MethodId} {args : Array Value} {below : List Frame} {meth : Method} {c : Code} {Q : State → Prop} {D : va_G} {T : Nat → ClassId} {b L : Nat} {xs : Nat → Int32} {A : Nat → Prop} {o0 za ta : Nat} (F : Nat) (x4 : Int32) (x5 : Int32) (x7 : Int32) (x8 : Int32) (x9 : Int32) (x24 : Int32) (rs : Nat → Int32) (rm : Nat → Nat → Int32) (ts : Nat → Int32) (tm : Nat → Nat → Int32) (rdue : Int32) (rtun : Int32) (rsee : Int32) (rbeg : Int32) (psize : Int32) (pclause : Int32) (peff : Nat → Int32) (pkin : Nat → Int32) (pgri : Nat → Int32) (psig : Nat → Int32) (psee : Nat → Int32) (qsize : Int32) (qclause : Int32) (qeff : Nat → Int32) (qkin : Nat → Int32) (qgri : Nat → Int32) (qsig : Nat → Int32) (qsee : Nat → Int32) (cdee : Int32) (cnow : Int64) (cahe : Nat → Int64) (kdee : Nat → Int32) (know : Nat → Int64) (kahe : Nat → Nat → Int64) (fc : Nat → Int32) (lf : Int32) (told : Int32) (up : Int64) (lo : Int64) (zz : Nat → Int32) (tt : Nat → Int32) (C0 : SC_law p s m args c D T b L xs A) (hret : HR_law p l e s m args below meth c Q A) (h : fL_law_n1936 F L xs x4 x5 x7 x8 x9 x24 rs rm ts tm rdue rtun rsee rbeg psize pclause peff pkin pgri psig psee qsize qclause qeff qkin qgri qsig qsee cdee cnow cahe kdee know kahe fc lf told up lo zz tt = some (1 : Int32)) : ∀ (ad : Nat → Nat) (H : Heap) (locs : List Loc), ad 0 = o0 → va_P D vwCl (wLW T ad (ad 6) (ad 12) za ta rs rm ts tm rdue rtun rsee rbeg psize pclause peff pkin pgri psig psee qsize qclause qeff qkin qgri qsig qsee cdee cnow cahe kdee know kahe fc lf told up lo zz tt) H → va_D A (wLW T ad (ad 6) (ad 12) za ta rs rm ts tm rdue rtun rsee rbeg psize pclause peff pkin pgri psig psee qsize qclause qeff qkin qgri qsig qsee cdee cnow cahe kdee know kahe fc lf told up lo zz tt) → va_S A s.heap H locs → ∀ (ls : Array Slot), lv_has ls 31 [(0, .ref b), (1, .ref (ad 0)), (3, .ref ta), (4, .int x4), (5, .int x5), (7, .int x7), (8, .int x8), (9, .int x9), (24, .int x24)] → W p l e room_1 s m args below meth c H locs 40 874 Q (F0 m 1936 ls []) := by
  intro ad H locs ho hP hD hS ls hl
  obtain ⟨hFix, hKK, hA, hX, hbl, hbA⟩ := id C0
  obtain ⟨hx, hb, hml, hown, hts⟩ := id hFix
  have hK := hKK.1
  unfold fL_law_n1936 at h
  refine lv_aload_n hx hb dL_law_1936 rfl (lv_at hl 1 rfl) ?_
  obtain ⟨r1937, hc, h⟩ := bd1_some h
  have hPc : va_P D vwCl (wPW T ad (ad 6) (ad 12) rs rm ts tm rdue rtun rsee rbeg psize pclause peff pkin pgri psig psee qsize qclause qeff qkin qgri qsig qsee cdee cnow cahe kdee know kahe fc lf told up lo) _ := my_subP sb_wLW_wPW_0to37 hP
  refine my_roi (va_Run.run (va_runV (As := []) (rest := []) hFix (kX5_stops l D T F ad rs rm ts tm rdue rtun rsee rbeg psize pclause peff pkin pgri psig psee qsize qclause qeff qkin qgri qsig qsee cdee cnow cahe kdee know kahe fc lf told up lo r1937 hc) (cwV 0 hts gL_law_X5_stops rfl rfl rfl ⟨rfl, hd_X5_stops⟩ ⟨Nat.le_of_ble_eq_true rfl, Nat.le_of_ble_eq_true rfl⟩) (preV_ro hPc hKK (va_recv hK hP (ci := 3) (q0 := 0) rfl wLW_0)) rfl rfl hl.1 rfl (lv_room (Nat.le_of_ble_eq_true rfl)) dL_law_1937 ⟨Nat.le_of_ble_eq_true rfl, Nat.le_of_ble_eq_true rfl⟩)) ?_
  refine lv_istore (lv' := [(28, .int r1937), (0, .ref b), (1, .ref (ad 0)), (3, .ref ta), (4, .int x4), (5, .int x5), (7, .int x7), (8, .int x8), (9, .int x9), (24, .int x24)]) hx hb dL_law_1940 hl (by decide) rfl (fun ls hl => ?_)
  refine lv_iload hx hb dL_law_1942 (lv_at hl 0 rfl) ?_
  refine lv_if_lt (tgt := 1974) hx hb dL_law_1944 (by decide) (fun c1944 => ?_) (fun c1944 => ?_)
  · have h := br_1 h c1944
    refine lv_iload hx hb dL_law_1974 (lv_at hl 0 rfl) ?_
    refine lv_bipush (v := (-9 : Int32)) hx hb dL_law_1976 (by decide) ?_
    refine lv_icmp_eq (tgt := 1983) hx hb dL_law_1978 (by decide) (fun c1978 => ?_) (fun c1978 => ?_)
    · have h := br_1 h c1978
      exact LN_law_n1983 F x4 x7 x8 x9 rs rm ts tm rdue rtun rsee rbeg psize pclause peff pkin pgri psig psee qsize qclause qeff qkin qgri qsig qsee cdee cnow cahe kdee know kahe fc lf told up lo zz tt C0 hret h ad _ _ ho hP hD hS _ (lv_sub hl [1, 2, 3, 4, 6, 7, 8] rfl)
    · have h := br_0 h c1978
      refine lv_iconst (v := (0 : Int32)) hx hb dL_law_1981 (by decide) ?_
      exact absurd (Option.some.inj h) (by decide)
  · have h := br_0 h c1944
    refine lv_iload hx hb dL_law_1947 (lv_at hl 0 rfl) ?_
    obtain ⟨r1949, hc, h⟩ := bd1_some h
    refine my_roi (va_Run.run (va_runS (As := [.int r1937]) (rest := []) hFix (kL_many l D T F r1937 r1949 hc) (va_cwS 1 hts gL_law_L_many rfl rfl rfl hd_L_many ⟨Nat.le_of_ble_eq_true rfl, Nat.le_of_ble_eq_true rfl⟩) (preS_ro va_nil hKK) rfl rfl hl.1 rfl (lv_room (Nat.le_of_ble_eq_true rfl)) dL_law_1949 ⟨Nat.le_of_ble_eq_true rfl, Nat.le_of_ble_eq_true rfl⟩)) ?_
    refine lv_iconst (v := (2 : Int32)) hx hb dL_law_1952 (by decide) ?_
    refine lv_icmp_lt (tgt := 1981) hx hb dL_law_1953 (by decide) (fun c1953 => ?_) (fun c1953 => ?_)
    · have h := br_1 h c1953
      refine lv_iconst (v := (0 : Int32)) hx hb dL_law_1981 (by decide) ?_
      exact absurd (Option.some.inj h) (by decide)
    · have h := br_0 h c1953
      refine lv_iload hx hb dL_law_1956 (lv_at hl 0 rfl) ?_
      refine lv_iload hx hb dL_law_1958 (lv_at hl 9 rfl) ?_
      refine lv_iand hx hb dL_law_1960 ?_
      refine lv_if_ne (tgt := 1981) hx hb dL_law_1961 (by decide) (fun c1961 => ?_) (fun c1961 => ?_)
      · have h := br_0 h c1961
        refine lv_iconst (v := (0 : Int32)) hx hb dL_law_1981 (by decide) ?_
        exact absurd (Option.some.inj h) (by decide)
      · have h := br_1 h c1961
        refine lv_iload hx hb dL_law_1964 (lv_at hl 0 rfl) ?_
        refine lv_iload hx hb dL_law_1966 (lv_at hl 5 rfl) ?_
        refine lv_icmp_le (tgt := 1983) hx hb dL_law_1968 (by decide) (fun c1968 => ?_) (fun c1968 => ?_)
        · have h := br_1 h c1968
          exact LN_law_n1983 F x4 x7 x8 x9 rs rm ts tm rdue rtun rsee rbeg psize pclause peff pkin pgri psig psee qsize qclause qeff qkin qgri qsig qsee cdee cnow cahe kdee know kahe fc lf told up lo zz tt C0 hret h ad _ _ ho hP hD hS _ (lv_sub hl [1, 2, 3, 4, 6, 7, 8] rfl)
        · have h := br_0 h c1968
          refine lv_goto (tgt := 1981) hx hb dL_law_1971 (by decide) ?_
          refine lv_iconst (v := (0 : Int32)) hx hb dL_law_1981 (by decide) ?_
          exact absurd (Option.some.inj h) (by decide)
set_option maxHeartbeats 4000000 in
set_option maxRecDepth 100000 in
theorem LN_law_n1931 {p : Program} {l : Launch} {e : Env} {s : State} {m : MethodId} {args : Array Value} {below : List Frame} {meth : Method} {c : Code} {Q : State → Prop} {D : va_G} {T : Nat → ClassId} {b L : Nat} {xs : Nat → Int32} {A : Nat → Prop} {o0 za ta : Nat} (F : Nat) (s_0 : Int32) (s_1 : Int32) (x4 : Int32) (x5 : Int32) (x7 : Int32) (x8 : Int32) (x9 : Int32) (x24 : Int32) (rs : Nat → Int32) (rm : Nat → Nat → Int32) (ts : Nat → Int32) (tm : Nat → Nat → Int32) (rdue : Int32) (rtun : Int32) (rsee : Int32) (rbeg : Int32) (psize : Int32) (pclause : Int32) (peff : Nat → Int32) (pkin : Nat → Int32) (pgri : Nat → Int32) (psig : Nat → Int32) (psee : Nat → Int32) (qsize : Int32) (qclause : Int32) (qeff : Nat → Int32) (qkin : Nat → Int32) (qgri : Nat → Int32) (qsig : Nat → Int32) (qsee : Nat → Int32) (cdee : Int32) (cnow : Int64) (cahe : Nat → Int64) (kdee : Nat → Int32) (know : Nat → Int64) (kahe : Nat → Nat → Int64) (fc : Nat → Int32) (lf : Int32) (told : Int32) (up : Int64) (lo : Int64) (zz : Nat → Int32) (tt : Nat → Int32) (C0 : SC_law p s m args c D T b L xs A) (hret : HR_law p l e s m args below meth c Q A) (h : fL_law_n1931 F L xs s_0 s_1 x4 x5 x7 x8 x9 x24 rs rm ts tm rdue rtun rsee rbeg psize pclause peff pkin pgri psig psee qsize qclause qeff qkin qgri qsig qsee cdee cnow cahe kdee know kahe fc lf told up lo zz tt = some (1 : Int32)) : ∀ (ad : Nat → Nat) (H : Heap) (locs : List Loc), ad 0 = o0 → va_P D vwCl (wLW T ad (ad 6) (ad 12) za ta rs rm ts tm rdue rtun rsee rbeg psize pclause peff pkin pgri psig psee qsize qclause qeff qkin qgri qsig qsee cdee cnow cahe kdee know kahe fc lf told up lo zz tt) H → va_D A (wLW T ad (ad 6) (ad 12) za ta rs rm ts tm rdue rtun rsee rbeg psize pclause peff pkin pgri psig psee qsize qclause qeff qkin qgri qsig qsee cdee cnow cahe kdee know kahe fc lf told up lo zz tt) → va_S A s.heap H locs → ∀ (ls : Array Slot), lv_has ls 31 [(0, .ref b), (1, .ref (ad 0)), (3, .ref ta), (4, .int x4), (5, .int x5), (7, .int x7), (8, .int x8), (9, .int x9), (24, .int x24)] → W p l e room_1 s m args below meth c H locs 40 874 Q (F0 m 1931 ls [.int s_1, .int s_0]) := by
  intro ad H locs ho hP hD hS ls hl
  obtain ⟨hFix, hKK, hA, hX, hbl, hbA⟩ := id C0
  obtain ⟨hx, hb, hml, hown, hts⟩ := id hFix
  have hK := hKK.1
  unfold fL_law_n1931 at h
  refine lv_icmp_eq (tgt := 1936) hx hb dL_law_1931 (by decide) (fun c1931 => ?_) (fun c1931 => ?_)
  · have h := br_1 h c1931
    exact LN_law_n1936 F x4 x5 x7 x8 x9 x24 rs rm ts tm rdue rtun rsee rbeg psize pclause peff pkin pgri psig psee qsize qclause qeff qkin qgri qsig qsee cdee cnow cahe kdee know kahe fc lf told up lo zz tt C0 hret h ad _ _ ho hP hD hS _ (lv_sub hl [0, 1, 2, 3, 4, 5, 6, 7, 8] rfl)
  · have h := br_0 h c1931
    refine lv_iconst (v := (0 : Int32)) hx hb dL_law_1934 (by decide) ?_
    exact absurd (Option.some.inj h) (by decide)
set_option maxHeartbeats 4000000 in
set_option maxRecDepth 100000 in
theorem LN_law_n1870 {p : Program} {l : Launch} {e : Env} {s : State} {m : MethodId} {args : Array Value} {below : List Frame} {meth : Method} {c : Code} {Q : State → Prop} {D : va_G} {T : Nat → ClassId} {b L : Nat} {xs : Nat → Int32} {A : Nat → Prop} {o0 za ta : Nat} (F : Nat) (x4 : Int32) (x5 : Int32) (x7 : Int32) (x8 : Int32) (x9 : Int32) (x23 : Int32) (x24 : Int32) (x25 : Int32) (x26 : Int32) (rs : Nat → Int32) (rm : Nat → Nat → Int32) (ts : Nat → Int32) (tm : Nat → Nat → Int32) (rdue : Int32) (rtun : Int32) (rsee : Int32) (rbeg : Int32) (psize : Int32) (pclause : Int32) (peff : Nat → Int32) (pkin : Nat → Int32) (pgri : Nat → Int32) (psig : Nat → Int32) (psee : Nat → Int32) (qsize : Int32) (qclause : Int32) (qeff : Nat → Int32) (qkin : Nat → Int32) (qgri : Nat → Int32) (qsig : Nat → Int32) (qsee : Nat → Int32) (cdee : Int32) (cnow : Int64) (cahe : Nat → Int64) (kdee : Nat → Int32) (know : Nat → Int64) (kahe : Nat → Nat → Int64) (fc : Nat → Int32) (lf : Int32) (told : Int32) (up : Int64) (lo : Int64) (zz : Nat → Int32) (tt : Nat → Int32) (C0 : SC_law p s m args c D T b L xs A) (hret : HR_law p l e s m args below meth c Q A) (h : fL_law_n1870 F L xs x4 x5 x7 x8 x9 x23 x24 x25 x26 rs rm ts tm rdue rtun rsee rbeg psize pclause peff pkin pgri psig psee qsize qclause qeff qkin qgri qsig qsee cdee cnow cahe kdee know kahe fc lf told up lo zz tt = some (1 : Int32)) : ∀ (ad : Nat → Nat) (H : Heap) (locs : List Loc), ad 0 = o0 → va_P D vwCl (wLW T ad (ad 6) (ad 12) za ta rs rm ts tm rdue rtun rsee rbeg psize pclause peff pkin pgri psig psee qsize qclause qeff qkin qgri qsig qsee cdee cnow cahe kdee know kahe fc lf told up lo zz tt) H → va_D A (wLW T ad (ad 6) (ad 12) za ta rs rm ts tm rdue rtun rsee rbeg psize pclause peff pkin pgri psig psee qsize qclause qeff qkin qgri qsig qsee cdee cnow cahe kdee know kahe fc lf told up lo zz tt) → va_S A s.heap H locs → ∀ (ls : Array Slot), lv_has ls 31 [(0, .ref b), (1, .ref (ad 0)), (3, .ref ta), (4, .int x4), (5, .int x5), (7, .int x7), (8, .int x8), (9, .int x9), (23, .int x23), (24, .int x24), (25, .int x25), (26, .int x26)] → W p l e room_1 s m args below meth c H locs 40 874 Q (F0 m 1870 ls []) := by
  intro ad H locs ho hP hD hS ls hl
  obtain ⟨hFix, hKK, hA, hX, hbl, hbA⟩ := id C0
  obtain ⟨hx, hb, hml, hown, hts⟩ := id hFix
  have hK := hKK.1
  unfold fL_law_n1870 at h
  refine lv_aload_n hx hb dL_law_1870 rfl (lv_at hl 0 rfl) ?_
  refine lv_bipush (v := (51 : Int32)) hx hb dL_law_1871 (by decide) ?_
  obtain ⟨r1873, hc, h⟩ := bd1_some h
  refine my_roi (va_Run.run (va_runS (As := [.ref b, .int (51 : Int32)]) (rest := []) hFix (kL_cell l D T F b L xs (51 : Int32) r1873 hc) (va_cwS 2 hts gL_law_L_cell rfl rfl rfl hd_L_cell ⟨Nat.le_of_ble_eq_true rfl, Nat.le_of_ble_eq_true rfl⟩) (preS_x (hX.kept (hS.2.1 b hbl hbA)) hKK) rfl rfl hl.1 rfl (lv_room (Nat.le_of_ble_eq_true rfl)) dL_law_1873 ⟨Nat.le_of_ble_eq_true rfl, Nat.le_of_ble_eq_true rfl⟩)) ?_
  refine lv_iload hx hb dL_law_1876 (lv_at hl 4 rfl) ?_
  refine lv_iconst (v := (1 : Int32)) hx hb dL_law_1878 (by decide) ?_
  refine lv_iadd hx hb dL_law_1879 ?_
  obtain ⟨r1880, hc, h⟩ := bd1_some h
  refine my_roi (va_Run.run (va_runS (As := [.int r1873, .int (x5 + (1 : Int32))]) (rest := []) hFix (kL_part l D T F r1873 (x5 + (1 : Int32)) r1880 hc) (va_cwS 2 hts gL_law_L_part rfl rfl rfl hd_L_part ⟨Nat.le_of_ble_eq_true rfl, Nat.le_of_ble_eq_true rfl⟩) (preS_ro va_nil hKK) rfl rfl hl.1 rfl (lv_room (Nat.le_of_ble_eq_true rfl)) dL_law_1880 ⟨Nat.le_of_ble_eq_true rfl, Nat.le_of_ble_eq_true rfl⟩)) ?_
  refine lv_istore (lv' := [(27, .int r1880), (0, .ref b), (1, .ref (ad 0)), (3, .ref ta), (4, .int x4), (5, .int x5), (7, .int x7), (8, .int x8), (9, .int x9), (23, .int x23), (24, .int x24), (25, .int x25), (26, .int x26)]) hx hb dL_law_1883 hl (by decide) rfl (fun ls hl => ?_)
  refine lv_aload_n hx hb dL_law_1885 rfl (lv_at hl 2 rfl) ?_
  refine lv_iload hx hb dL_law_1886 (lv_at hl 5 rfl) ?_
  obtain ⟨r1888, hc, h⟩ := bd1_some h
  have hPc : va_P D vwCl (wPW T ad (ad 6) (ad 12) rs rm ts tm rdue rtun rsee rbeg psize pclause peff pkin pgri psig psee qsize qclause qeff qkin qgri qsig qsee cdee cnow cahe kdee know kahe fc lf told up lo) _ := my_subP sb_wLW_wPW_0to37 hP
  refine my_roi (va_Run.run (va_runV (As := [.int x5]) (rest := []) hFix (kX5_wept l D T F ad rs rm ts tm rdue rtun rsee rbeg psize pclause peff pkin pgri psig psee qsize qclause qeff qkin qgri qsig qsee cdee cnow cahe kdee know kahe fc lf told up lo x5 r1888 hc) (cwV 1 hts gL_law_X5_wept rfl rfl rfl ⟨rfl, hd_X5_wept⟩ ⟨Nat.le_of_ble_eq_true rfl, Nat.le_of_ble_eq_true rfl⟩) (preV_ro hPc hKK (va_recv hK hP (ci := 3) (q0 := 0) rfl wLW_0)) rfl rfl hl.1 rfl (lv_room (Nat.le_of_ble_eq_true rfl)) dL_law_1888 ⟨Nat.le_of_ble_eq_true rfl, Nat.le_of_ble_eq_true rfl⟩)) ?_
  refine lv_iload hx hb dL_law_1891 (lv_at hl 9 rfl) ?_
  refine lv_icmp_ne (tgt := 1934) hx hb dL_law_1893 (by decide) (fun c1893 => ?_) (fun c1893 => ?_)
  · have h := br_0 h c1893
    refine lv_iconst (v := (0 : Int32)) hx hb dL_law_1934 (by decide) ?_
    exact absurd (Option.some.inj h) (by decide)
  · have h := br_1 h c1893
    refine lv_aload_n hx hb dL_law_1896 rfl (lv_at hl 2 rfl) ?_
    refine lv_iconst (v := (0 : Int32)) hx hb dL_law_1897 (by decide) ?_
    obtain ⟨r1898, hc, h⟩ := bd1_some h
    have hPc : va_P D vwCl (wPW T ad (ad 6) (ad 12) rs rm ts tm rdue rtun rsee rbeg psize pclause peff pkin pgri psig psee qsize qclause qeff qkin qgri qsig qsee cdee cnow cahe kdee know kahe fc lf told up lo) _ := my_subP sb_wLW_wPW_0to37 hP
    refine my_roi (va_Run.run (va_runV (As := [.int (0 : Int32)]) (rest := []) hFix (kX5_wept l D T F ad rs rm ts tm rdue rtun rsee rbeg psize pclause peff pkin pgri psig psee qsize qclause qeff qkin qgri qsig qsee cdee cnow cahe kdee know kahe fc lf told up lo (0 : Int32) r1898 hc) (cwV 1 hts gL_law_X5_wept rfl rfl rfl ⟨rfl, hd_X5_wept⟩ ⟨Nat.le_of_ble_eq_true rfl, Nat.le_of_ble_eq_true rfl⟩) (preV_ro hPc hKK (va_recv hK hP (ci := 3) (q0 := 0) rfl wLW_0)) rfl rfl hl.1 rfl (lv_room (Nat.le_of_ble_eq_true rfl)) dL_law_1898 ⟨Nat.le_of_ble_eq_true rfl, Nat.le_of_ble_eq_true rfl⟩)) ?_
    refine lv_if_ne (tgt := 1934) hx hb dL_law_1901 (by decide) (fun c1901 => ?_) (fun c1901 => ?_)
    · have h := br_0 h c1901
      refine lv_iconst (v := (0 : Int32)) hx hb dL_law_1934 (by decide) ?_
      exact absurd (Option.some.inj h) (by decide)
    · have h := br_1 h c1901
      refine lv_aload_n hx hb dL_law_1904 rfl (lv_at hl 2 rfl) ?_
      refine lv_iload hx hb dL_law_1905 (lv_at hl 0 rfl) ?_
      obtain ⟨r1907, hc, h⟩ := bd1_some h
      have hPc : va_P D vwCl (wPW T ad (ad 6) (ad 12) rs rm ts tm rdue rtun rsee rbeg psize pclause peff pkin pgri psig psee qsize qclause qeff qkin qgri qsig qsee cdee cnow cahe kdee know kahe fc lf told up lo) _ := my_subP sb_wLW_wPW_0to37 hP
      refine my_roi (va_Run.run (va_runV (As := [.int r1880]) (rest := []) hFix (kX5_wept l D T F ad rs rm ts tm rdue rtun rsee rbeg psize pclause peff pkin pgri psig psee qsize qclause qeff qkin qgri qsig qsee cdee cnow cahe kdee know kahe fc lf told up lo r1880 r1907 hc) (cwV 1 hts gL_law_X5_wept rfl rfl rfl ⟨rfl, hd_X5_wept⟩ ⟨Nat.le_of_ble_eq_true rfl, Nat.le_of_ble_eq_true rfl⟩) (preV_ro hPc hKK (va_recv hK hP (ci := 3) (q0 := 0) rfl wLW_0)) rfl rfl hl.1 rfl (lv_room (Nat.le_of_ble_eq_true rfl)) dL_law_1907 ⟨Nat.le_of_ble_eq_true rfl, Nat.le_of_ble_eq_true rfl⟩)) ?_
      refine lv_iload hx hb dL_law_1910 (lv_at hl 9 rfl) ?_
      refine lv_iconst (v := (-1 : Int32)) hx hb dL_law_1912 (by decide) ?_
      refine lv_ixor hx hb dL_law_1913 ?_
      refine lv_iand hx hb dL_law_1914 ?_
      refine lv_if_ne (tgt := 1934) hx hb dL_law_1915 (by decide) (fun c1915 => ?_) (fun c1915 => ?_)
      · have h := br_0 h c1915
        refine lv_iconst (v := (0 : Int32)) hx hb dL_law_1934 (by decide) ?_
        exact absurd (Option.some.inj h) (by decide)
      · have h := br_1 h c1915
        refine lv_iload hx hb dL_law_1918 (lv_at hl 12 rfl) ?_
        refine lv_iload hx hb dL_law_1920 (lv_at hl 6 rfl) ?_
        refine lv_if_ne (tgt := 1929) hx hb dL_law_1922 (by decide) (fun c1922 => ?_) (fun c1922 => ?_)
        · have h := br_0 h c1922
          refine lv_iload hx hb dL_law_1929 (lv_at hl 11 rfl) ?_
          exact LN_law_n1931 F x26 x25 x4 x5 x7 x8 x9 x24 rs rm ts tm rdue rtun rsee rbeg psize pclause peff pkin pgri psig psee qsize qclause qeff qkin qgri qsig qsee cdee cnow cahe kdee know kahe fc lf told up lo zz tt C0 hret h ad _ _ ho hP hD hS _ (lv_sub hl [1, 2, 3, 4, 5, 6, 7, 8, 10] rfl)
        · have h := br_1 h c1922
          refine lv_iconst (v := (0 : Int32)) hx hb dL_law_1925 (by decide) ?_
          refine lv_goto (tgt := 1931) hx hb dL_law_1926 (by decide) ?_
          exact LN_law_n1931 F x26 (0 : Int32) x4 x5 x7 x8 x9 x24 rs rm ts tm rdue rtun rsee rbeg psize pclause peff pkin pgri psig psee qsize qclause qeff qkin qgri qsig qsee cdee cnow cahe kdee know kahe fc lf told up lo zz tt C0 hret h ad _ _ ho hP hD hS _ (lv_sub hl [1, 2, 3, 4, 5, 6, 7, 8, 10] rfl)
