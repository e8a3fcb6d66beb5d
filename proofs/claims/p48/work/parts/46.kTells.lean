set_option maxHeartbeats 4000000 in
set_option maxRecDepth 100000 in
theorem kL_tells (l : Launch) (D : va_G) (T : Nat → ClassId) (F : Nat) (b L : Nat) (xs : Nat → Int32) (ad : Nat → Nat) (za ta : Nat) (rs : Nat → Int32) (rm : Nat → Nat → Int32) (ts : Nat → Int32) (tm : Nat → Nat → Int32) (rdue : Int32) (rtun : Int32) (rsee : Int32) (rbeg : Int32) (psize : Int32) (pclause : Int32) (peff : Nat → Int32) (pkin : Nat → Int32) (pgri : Nat → Int32) (psig : Nat → Int32) (psee : Nat → Int32) (qsize : Int32) (qclause : Int32) (qeff : Nat → Int32) (qkin : Nat → Int32) (qgri : Nat → Int32) (qsig : Nat → Int32) (qsee : Nat → Int32) (cdee : Int32) (cnow : Int64) (cahe : Nat → Int64) (kdee : Nat → Int32) (know : Nat → Int64) (kahe : Nat → Nat → Int64) (fc : Nat → Int32) (lf : Int32) (told : Int32) (up : Int64) (lo : Int64) (zz : Nat → Int32) (tt : Nat → Int32) (x4 : Int32) (r : Int32) (zts : Nat → Int32) (ztm : Nat → Nat → Int32) (zrdue : Int32) (zrtun : Int32) (zrsee : Int32) (zrbeg : Int32) (zpsize : Int32) (zpclause : Int32) (zpeff : Nat → Int32) (zpkin : Nat → Int32) (zpgri : Nat → Int32) (zpsig : Nat → Int32) (zpsee : Nat → Int32) (zqsize : Int32) (zqclause : Int32) (zqeff : Nat → Int32) (zqkin : Nat → Int32) (zqgri : Nat → Int32) (zqsig : Nat → Int32) (zqsee : Nat → Int32) (zcdee : Int32) (zcnow : Int64) (zkdee : Nat → Int32) (zfc : Nat → Int32) (zlf : Int32) (zzz : Nat → Int32) (ztt : Nat → Int32) (h : fL_tells F (ad 6) (ad 12) L xs rs ts tm rdue rtun rsee rbeg psize pclause peff pkin pgri psig psee qsize qclause qeff qkin qgri qsig qsee cdee cnow kdee fc lf zz tt x4 = some (r, zts, ztm, zrdue, zrtun, zrsee, zrbeg, zpsize, zpclause, zpeff, zpkin, zpgri, zpsig, zpsee, zqsize, zqclause, zqeff, zqkin, zqgri, zqsig, zqsee, zcdee, zcnow, zkdee, zfc, zlf, zzz, ztt)) : ∀ sz : Nat, Met l yL_tells wsL_tells ({ frames := 5, cells := 0, slots := 0, locals := 112 } : Room) (va_Pc [.ref (ad 0), .ref b, .ref za, .ref ta, .int x4] (fun U => U.heap.size = sz ∧ va_P D vwCl (wLW T ad (ad 6) (ad 12) za ta rs rm ts tm rdue rtun rsee rbeg psize pclause peff pkin pgri psig psee qsize qclause qeff qkin qgri qsig qsee cdee cnow cahe kdee know kahe fc lf told up lo zz tt) U.heap ∧ KK D T U ∧ va_D (fun _ => True) (wLW T ad (ad 6) (ad 12) za ta rs rm ts tm rdue rtun rsee rbeg psize pclause peff pkin pgri psig psee qsize qclause qeff qkin qgri qsig qsee cdee cnow cahe kdee know kahe fc lf told up lo zz tt) ∧ va_X b L xs U U.heap ∧ ¬ va_A (wLW T ad (ad 6) (ad 12) za ta rs rm ts tm rdue rtun rsee rbeg psize pclause peff pkin pgri psig psee qsize qclause qeff qkin qgri qsig qsee cdee cnow cahe kdee know kahe fc lf told up lo zz tt) sz b)) (va_Qi (fun r' (u : Nat → Nat) => r' = r ∧ b01 r ∧ u 0 = ad 0) (fun u t => va_P D vwCl (wLW T u (u 6) (u 12) za ta rs rm zts ztm zrdue zrtun zrsee zrbeg zpsize zpclause zpeff zpkin zpgri zpsig zpsee zqsize zqclause zqeff zqkin zqgri zqsig zqsee zcdee zcnow cahe zkdee know kahe zfc zlf told up lo zzz ztt) t.heap ∧ va_D (va_A (wLW T ad (ad 6) (ad 12) za ta rs rm ts tm rdue rtun rsee rbeg psize pclause peff pkin pgri psig psee qsize qclause qeff qkin qgri qsig qsee cdee cnow cahe kdee know kahe fc lf told up lo zz tt) sz) (wLW T u (u 6) (u 12) za ta rs rm zts ztm zrdue zrtun zrsee zrbeg zpsize zpclause zpeff zpkin zpgri zpsig zpsee zqsize zqclause zqeff zqkin zqgri zqsig zqsee zcdee zcnow cahe zkdee know kahe zfc zlf told up lo zzz ztt)) (va_A (wLW T ad (ad 6) (ad 12) za ta rs rm ts tm rdue rtun rsee rbeg psize pclause peff pkin pgri psig psee qsize qclause qeff qkin qgri qsig qsee cdee cnow cahe kdee know kahe fc lf told up lo zz tt) sz)) 0 0 (va_A (wLW T ad (ad 6) (ad 12) za ta rs rm ts tm rdue rtun rsee rbeg psize pclause peff pkin pgri psig psee qsize qclause qeff qkin qgri qsig qsee cdee cnow cahe kdee know kahe fc lf told up lo zz tt) sz) := by
  intro sz
  refine Met.ofW (cc := cL_tells) (maxL := 11) (ret := some .boolean) (by decide) rfl ?_
  intro p e s m args below meth c s₁ B hml hv
  obtain ⟨ha, hsz, hP, hKK, hD0, hX, hbW⟩ := hv
  have hx := B.exec
  have hb := B.bytes
  have hr := B.returns
  have hts := atoms_spec (ws := wsL_tells) B.pre
  have hown : s.vm.findClass RL = some m.cls := findClass_of_methodNamed B.named
  have hlocks := B.notSynchronized
  have hFix : CallFix p m c cL_tells 11 s args wsL_tells RL := ⟨hx, hb, hml, hown, hts⟩
  have hbl : b < s.heap.size := by
    obtain ⟨scr, h1, -⟩ := hX
    exact (Array.getElem?_eq_some_iff.mp h1).1
  subst hsz
  have hD := hD0.self (sz := s.heap.size)
  generalize hAe : va_A (wLW T ad (ad 6) (ad 12) za ta rs rm ts tm rdue rtun rsee rbeg psize pclause peff pkin pgri psig psee qsize qclause qeff qkin qgri qsig qsee cdee cnow cahe kdee know kahe fc lf told up lo zz tt) s.heap.size = A at hD hbW ⊢
  have hA : ∀ q : Nat, s.heap.size ≤ q → A q := fun q h => by rw [← hAe]; exact Or.inr h
  have hS : va_S A s.heap s.heap [] := va_S.rf
  have hP : va_P D vwCl (wLW T ad (ad 6) (ad 12) za ta rs rm ts tm rdue rtun rsee rbeg psize pclause peff pkin pgri psig psee qsize qclause qeff qkin qgri qsig qsee cdee cnow cahe kdee know kahe fc lf told up lo zz tt) s.heap := hP
  have C0 : SC_tells p s m args c D T b L xs A := ⟨hFix, hKK, hA, hX, hbl, hbW⟩
  obtain ⟨ls, hl, e0⟩ := my_entry (m := m) (n := 11) ha (Nat.le_of_ble_eq_true rfl)
  rw [e0]
  have hl : lv_has ls 11 [(0, .ref (ad 0)), (1, .ref b), (2, .ref za), (3, .ref ta), (4, .int x4)] := hl
  refine LN_tells_entry F rs ts tm rdue rtun rsee rbeg psize pclause peff pkin pgri psig psee qsize qclause qeff qkin qgri qsig qsee cdee cnow kdee fc lf zz tt x4 C0 ?_ h s.heap [] hP hD hS ls hl
  intro ad' H locs pc ls ho hP hD hS hd hb1
  exact W.zret hx hb hr (b01_n hb1) (fun t ht hW => ⟨⟨_, ad', rfl, ⟨rfl, hb1, ho⟩, by show _ ∧ _; rw [ht]; exact ⟨hP, hD⟩⟩, hS.F ht⟩) hS.2.2 hd
