/-! THE CLAIM OUT OF ONE WALK OF THE LAW'S BODY. Your part is whole_start (and what it stands on); all else here is the same for every law, but numbers. -/
def R_law : String := "PartyWillLaw"
def lw_P (b : Addr) (xs : List Int32) (args : Array Value) (s : State) : Prop := args = #[.ref b] ∧ s.IntsAt b xs ∧ xs.length ≤ 3072 ∧ (Jvm.Cond.and given_1 narrow_1).before args s = true
def lw_Q (_ : Array Value) (s : State) (o : Outcome) (t : State) : Prop := o = .returned (some (.int 1)) ∧ Framed s o t [] 600000 7302250
def lw_Z (below : List Frame) (a : Array Value) (s : State) : State → Prop := fun t => ∃ o, t.status = .running ∧ Ended t below o ∧ lw_Q a s o t
/-- the law's own end, with 1 on the stack, nothing written that was there before, its room as the claim has it -/
theorem lw_ret {p : Program} {l : Launch} {e : Env} {s : State} {m : MethodId} {below : List Frame} {meth : Method} {c : Code} {b : Nat} (hx : p.tables.exec = Jvm.exec) (hb : c.code = code) (hr : meth.sig.returnType = ret) (hlocks : meth.locks = false) {pc : Nat} {H : Heap} {ls : Array Slot} (hdg : decode code pc = .ok (.ireturn, 1)) : W p l e room_1 s m #[Value.ref b] below meth c H [] 600000 7302250 (lw_Z below #[Value.ref b] s) (F0 m pc ls [.int 1]) := by
  intro T hT X
  obtain ⟨fs, hret, hrun, hended, hW, hframe⟩ := X.leave (v := some (.int 1)) (hlocks := hlocks) (fun h => by rw [hr] at h; cases h)
  have hmeth' : T.vm.method? m = some meth := X.method'
  refine ⟨T.setFrames fs, ?_, .returned (some (.int 1)), hrun, hended, rfl, ⟨_, rfl⟩, hW, hframe⟩
  jvm_step X.here [X.here.top, hx, hb, hdg, hmeth', hr, ret, narrow_b1]
  (try refine ⟨rfl, ?_⟩); (try refine ⟨rfl, ?_⟩)
  first | (intro acts; rw [hret _ acts rfl rfl rfl]) | rw [hret _ _ rfl rfl rfl]
  exact Steps.refl _
/-- what holds at the law's entry: the machine, the code, the tables' words (any of lw_tbl by 'hts w (by decide +kernel)'), the script of L ints xs at the cell b, what the Statement gives of the start (any of its parts by flat_of_before) -/
def lw_At (p : Program) (s : State) (m : MethodId) (meth : Method) (c : Code) (b L : Nat) (xs : Nat → Int32) : Prop :=
  p.tables.exec = Jvm.exec ∧ c.code = code ∧ meth.sig.returnType = ret ∧ c.maxLocals = 4 ∧ s.vm.findClass R_law = some m.cls ∧ (∀ w ∈ lw_tbl, w.before #[Value.ref b] s = true) ∧ va_X b L xs s s.heap ∧ b < s.heap.size ∧ meth.locks = false ∧ (Jvm.Cond.and given_1 narrow_1).before #[Value.ref b] s = true
theorem lg_cmp_self (x : Int64) : lg_cmp x x = 0 := by
  unfold lg_cmp
  simp [Int64.lt_irrefl]
theorem my_rng (X Y : va_W) : (List.range X.length).map (fun i => (X ++ Y)[i]?) = X.map some := by
  apply List.ext_getElem?
  intro i
  rw [List.getElem?_map, List.getElem?_map]
  by_cases h : i < X.length
  · rw [List.getElem?_range h, Option.map_some, List.getElem?_append_left h, List.getElem?_eq_getElem h, Option.map_some]
  · rw [List.getElem?_eq_none (by rw [List.length_range]; omega), List.getElem?_eq_none (by omega)]
    rfl
theorem my_rng2 (X Y : va_W) : ((List.range Y.length).map (fun i => X.length + i)).map (fun i => (X ++ Y)[i]?) = Y.map some := by
  apply List.ext_getElem?
  intro i
  rw [List.getElem?_map, List.getElem?_map, List.getElem?_map]
  by_cases h : i < Y.length
  · rw [List.getElem?_range h, Option.map_some, Option.map_some, List.getElem?_append_right (by omega), Nat.add_sub_cancel_left, List.getElem?_eq_getElem h, Option.map_some]
  · rw [List.getElem?_eq_none (by rw [List.length_range]; omega), List.getElem?_eq_none (by omega)]
    rfl
theorem my_lP {D : va_G} {X Y : va_W} {H : Heap} (hP : va_P D vwCl (X ++ Y) H) : va_P D vwCl X H := my_subP (my_rng X Y) hP
theorem my_rP {D : va_G} {X Y : va_W} {H : Heap} (hP : va_P D vwCl (X ++ Y) H) : va_P D vwCl Y H := my_subP (my_rng2 X Y) hP
theorem my_lD {A : Nat → Prop} {X Y : va_W} (hD : va_D A (X ++ Y)) : va_D A X := by
  refine ⟨fun i j p q h1 h2 he => ?_, fun k q h => ?_⟩
  · exact hD.1 i j p q (by rw [List.getElem?_append_left (List.getElem?_eq_some_iff.mp h1).1]; exact h1) (by rw [List.getElem?_append_left (List.getElem?_eq_some_iff.mp h2).1]; exact h2) he
  · exact hD.2 k q (by rw [List.getElem?_append_left (List.getElem?_eq_some_iff.mp h).1]; exact h)
theorem my_ap {X Y : va_W} {i : Nat} {q : Nat × va_E} (h : Y[i]? = some q) : (X ++ Y)[X.length + i]? = some q := by
  rw [List.getElem?_append_right (by omega), Nat.add_sub_cancel_left]; exact h
theorem my_al {X Y : va_W} {i : Nat} {q : Nat × va_E} (h : X[i]? = some q) : (X ++ Y)[i]? = some q := by
  rw [List.getElem?_append_left (List.getElem?_eq_some_iff.mp h).1]; exact h
theorem my_rD {A : Nat → Prop} {X Y : va_W} (hD : va_D A (X ++ Y)) : va_D A Y := by
  refine ⟨fun i j p q h1 h2 he => ?_, fun k q h => ?_⟩
  · have := hD.1 (X.length + i) (X.length + j) p q (my_ap h1) (my_ap h2) he
    omega
  · exact hD.2 (X.length + k) q (my_ap h)
theorem my_lF {A0 : Nat → Prop} {X Y : va_W} {H0 H : Heap} {locs : List Loc} (hD : va_D A0 (X ++ Y)) (hS : va_S A0 H0 H locs) (hA : ∀ q, H0.size ≤ q → A0 q) : ∀ q, va_A X H.size q → A0 q := my_freeS (my_lD hD) hS hA
theorem my_rF {A0 : Nat → Prop} {X Y : va_W} {H0 H : Heap} {locs : List Loc} (hD : va_D A0 (X ++ Y)) (hS : va_S A0 H0 H locs) (hA : ∀ q, H0.size ≤ q → A0 q) : ∀ q, va_A Y H.size q → A0 q := my_freeS (my_rD hD) hS hA
theorem my_splitAp {X Y : va_W} {i : Nat} {q : Nat × va_E} (h : (X ++ Y)[i]? = some q) : (i < X.length ∧ X[i]? = some q) ∨ ∃ j, i = X.length + j ∧ Y[j]? = some q := by
  by_cases hi : i < X.length
  · rw [List.getElem?_append_left hi] at h; exact Or.inl ⟨hi, h⟩
  · rw [List.getElem?_append_right (by omega)] at h; exact Or.inr ⟨i - X.length, by omega, h⟩
theorem my_apart {A0 : Nat → Prop} {D : va_G} {X Y : va_W} {H : Heap} (hP : va_P D vwCl (X ++ Y) H) (hD : va_D A0 (X ++ Y)) : (∀ (k : Nat) (q : Nat × va_E), Y[k]? = some q → q.1 < H.size ∧ ¬ va_A X H.size q.1) ∧ ∀ (k : Nat) (q : Nat × va_E), X[k]? = some q → q.1 < H.size ∧ ¬ va_A Y H.size q.1 := by
  constructor
  · intro k q h
    have hl := (hP _ q (my_ap h)).lt
    refine ⟨hl, fun z => ?_⟩
    rcases z with ⟨k2, e, z⟩ | z
    · have := hD.1 (X.length + k) k2 q (q.1, e) (my_ap h) (my_al z) rfl
      have := (List.getElem?_eq_some_iff.mp z).1
      omega
    · omega
  · intro k q h
    have hl := (hP _ q (my_al h)).lt
    refine ⟨hl, fun z => ?_⟩
    rcases z with ⟨k2, e, z⟩ | z
    · have := hD.1 k (X.length + k2) q (q.1, e) (my_al h) (my_ap z) rfl
      have := (List.getElem?_eq_some_iff.mp h).1
      omega
    · omega
theorem my_joinX {A0 : Nat → Prop} {D : va_G} {X Y X1 : va_W} {H H1 : Heap} (hP : va_P D vwCl (X ++ Y) H) (hD : va_D A0 (X ++ Y)) (hk : ∀ q : Nat, q < H.size → ¬ va_A X H.size q → H1[q]? = H[q]?) (hF : ∀ q, va_A X H.size q → A0 q) (hP1 : va_P D vwCl X1 H1) (hD1 : va_D (va_A X H.size) X1) : va_P D vwCl (X1 ++ Y) H1 ∧ va_D A0 (X1 ++ Y) := by
  have ha := (my_apart hP hD).1
  refine ⟨fun i q h => ?_, fun i j x y hx hy hxy => ?_, fun i q h => ?_⟩
  · rcases my_splitAp h with ⟨-, h'⟩ | ⟨j, rfl, h'⟩
    · exact hP1 i q h'
    · obtain ⟨g1, g2⟩ := ha j q h'
      exact (hP _ q (my_ap h')).kept (hk q.1 g1 g2)
  · rcases my_splitAp hx with ⟨-, hx'⟩ | ⟨i', rfl, hx'⟩ <;> rcases my_splitAp hy with ⟨-, hy'⟩ | ⟨j', rfl, hy'⟩
    · exact hD1.1 i j x y hx' hy' hxy
    · exact absurd (hxy ▸ hD1.2 i x hx') (ha j' y hy').2
    · exact absurd (hxy.symm ▸ hD1.2 j y hy') (ha i' x hx').2
    · have := (my_rD hD).1 i' j' x y hx' hy' hxy
      omega
  · rcases my_splitAp h with ⟨-, h'⟩ | ⟨j, rfl, h'⟩
    · exact hF q.1 (hD1.2 i q h')
    · exact hD.2 _ q (my_ap h')
theorem my_joinY {A0 : Nat → Prop} {D : va_G} {X Y Y1 : va_W} {H H1 : Heap} (hP : va_P D vwCl (X ++ Y) H) (hD : va_D A0 (X ++ Y)) (hk : ∀ q : Nat, q < H.size → ¬ va_A Y H.size q → H1[q]? = H[q]?) (hF : ∀ q, va_A Y H.size q → A0 q) (hP1 : va_P D vwCl Y1 H1) (hD1 : va_D (va_A Y H.size) Y1) : va_P D vwCl (X ++ Y1) H1 ∧ va_D A0 (X ++ Y1) := by
  have ha := (my_apart hP hD).2
  refine ⟨fun i q h => ?_, fun i j x y hx hy hxy => ?_, fun i q h => ?_⟩
  · rcases my_splitAp h with ⟨-, h'⟩ | ⟨j, rfl, h'⟩
    · obtain ⟨g1, g2⟩ := ha i q h'
      exact (hP _ q (my_al h')).kept (hk q.1 g1 g2)
    · exact hP1 j q h'
  · rcases my_splitAp hx with ⟨-, hx'⟩ | ⟨i', rfl, hx'⟩ <;> rcases my_splitAp hy with ⟨-, hy'⟩ | ⟨j', rfl, hy'⟩
    · exact (my_lD hD).1 i j x y hx' hy' hxy
    · exact absurd (hxy.symm ▸ hD1.2 j' y hy') (ha i x hx').2
    · exact absurd (hxy ▸ hD1.2 i' x hx') (ha j y hy').2
    · have := hD1.1 i' j' x y hx' hy' hxy
      omega
  · rcases my_splitAp h with ⟨-, h'⟩ | ⟨j, rfl, h'⟩
    · exact hD.2 i q (my_al h')
    · exact hF q.1 (hD1.2 j q h')
theorem my_permX {D : va_G} {H : Heap} {A : Nat → Prop} {is : List Nat} {X X1 Y : va_W} (hs : is.map (fun i => X[i]?) = X1.map some) (hn : va_nd is = true) (hl : X1.length = X.length) (hP : va_P D vwCl (X ++ Y) H) (hD : va_D A (X ++ Y)) : va_P D vwCl (X1 ++ Y) H ∧ va_D A (X1 ++ Y) := by
  have hD1 := (my_lD hD).sub is hn hs
  have key : ∀ (k : Nat) (q : Nat × va_E), X1[k]? = some q → ∃ i, X[i]? = some q := fun k q h => by
    obtain ⟨i, -, h2⟩ := my_at hs k q h
    exact ⟨i, h2⟩
  refine ⟨fun i q h => ?_, fun i j x y hx hy hxy => ?_, fun i q h => ?_⟩
  · rcases my_splitAp h with ⟨-, h'⟩ | ⟨j, rfl, h'⟩
    · exact my_subP hs (my_lP hP) i q h'
    · exact hP _ q (my_ap h')
  · rcases my_splitAp hx with ⟨-, hx'⟩ | ⟨i', rfl, hx'⟩ <;> rcases my_splitAp hy with ⟨-, hy'⟩ | ⟨j', rfl, hy'⟩
    · exact hD1.1 i j x y hx' hy' hxy
    · obtain ⟨k, hk⟩ := key i x hx'
      have := hD.1 k (X.length + j') x y (my_al hk) (my_ap hy') hxy
      have := (List.getElem?_eq_some_iff.mp hk).1
      omega
    · obtain ⟨k, hk⟩ := key j y hy'
      have := hD.1 (X.length + i') k x y (my_ap hx') (my_al hk) hxy
      have := (List.getElem?_eq_some_iff.mp hk).1
      omega
    · have := (my_rD hD).1 i' j' x y hx' hy' hxy
      omega
  · rcases my_splitAp h with ⟨-, h'⟩ | ⟨j, rfl, h'⟩
    · obtain ⟨k, hk⟩ := key i q h'
      exact hD.2 k q (my_al hk)
    · exact hD.2 _ q (my_ap h')
def swp (ad : Nat → Nat) : Nat → Nat := fun k => if k < 6 then ad k else if k < 12 then ad (k + 6) else if k < 18 then ad (k - 6) else ad k
theorem swp_hi {ad : Nat → Nat} {k : Nat} (h : 18 ≤ k) : swp ad k = ad k := by
  unfold swp
  rw [if_neg (by omega), if_neg (by omega), if_neg (by omega)]
def LCtx (p : Program) (l : Launch) (e : Env) (s : State) (m : MethodId) (below : List Frame) (meth : Method) (c : Code) (b L : Nat) (xs : Nat → Int32) (D : va_G) (T : Nat → ClassId) : Prop := lw_At p s m meth c b L xs ∧ KK D T s ∧ ∀ q : Nat, s.heap.size ≤ q → (fun q : Nat => s.heap.size ≤ q) q
def LawW (p : Program) (l : Launch) (e : Env) (s : State) (m : MethodId) (below : List Frame) (meth : Method) (c : Code) (b : Nat) (D : va_G) (T : Nat → ClassId) (pc : Nat) (x3 : Int32) : Prop := ∀ (ad am : Nat → Nat) (rs : Nat → Int32) (rm : Nat → Nat → Int32) (ts : Nat → Int32) (tm : Nat → Nat → Int32) (rdue : Int32) (rtun : Int32) (rsee : Int32) (rbeg : Int32) (psize : Int32) (pclause : Int32) (peff : Nat → Int32) (pkin : Nat → Int32) (pgri : Nat → Int32) (psig : Nat → Int32) (psee : Nat → Int32) (qsize : Int32) (qclause : Int32) (qeff : Nat → Int32) (qkin : Nat → Int32) (qgri : Nat → Int32) (qsig : Nat → Int32) (qsee : Nat → Int32) (cdee : Int32) (cnow : Int64) (cahe : Nat → Int64) (kdee : Nat → Int32) (know : Nat → Int64) (kahe : Nat → Nat → Int64) (fc : Nat → Int32) (lf : Int32) (told : Int32) (up : Int64) (lo : Int64) (mguests : Int32) (mclause : Int32) (mdeeds : Int32) (masked : Int32) (mupper : Int64) (mlower : Int64) (mfinding : Int32) (mreadGuests : Int32) (misSight : Int32) (mat : Int32) (mrowSizes : Nat → Int32) (mrows : Nat → Int32) (mtextSizes : Nat → Int32) (mtexts : Nat → Int32) (mdoes : Nat → Int32) (mkinds : Nat → Int32) (msees : Nat → Int32) (mnow : Nat → Int32) (mbefore : Nat → Int32) (mkeeps : Nat → Int32) (mkept : Nat → Int32) (mfindings : Nat → Int32) (mread : Nat → Int32) (maside : Nat → Int32) (msteps : Nat → Int32) (mtried : Nat → Int32) (mbest : Nat → Int32) (H : Heap) (locs : List Loc), Rel rs rm ts tm rdue rtun rsee rbeg psize pclause peff pkin pgri psig psee qsize qclause qeff qkin qgri qsig qsee cdee cnow cahe kdee know kahe fc lf told up lo mguests mclause mdeeds masked mupper mlower mfinding mreadGuests misSight mat mrowSizes mrows mtextSizes mtexts mdoes mkinds msees mnow mbefore mkeeps mkept mfindings mread maside msteps mtried mbest → va_P D vwCl ((wPW T ad (ad 6) (ad 12) rs rm ts tm rdue rtun rsee rbeg psize pclause peff pkin pgri psig psee qsize qclause qeff qkin qgri qsig qsee cdee cnow cahe kdee know kahe fc lf told up lo) ++ (wMo T am mguests mclause mdeeds masked mupper mlower mfinding mreadGuests misSight mat mrowSizes mrows mtextSizes mtexts mdoes mkinds msees mnow mbefore mkeeps mkept mfindings mread maside msteps mtried mbest)) H → va_D (fun q : Nat => s.heap.size ≤ q) ((wPW T ad (ad 6) (ad 12) rs rm ts tm rdue rtun rsee rbeg psize pclause peff pkin pgri psig psee qsize qclause qeff qkin qgri qsig qsee cdee cnow cahe kdee know kahe fc lf told up lo) ++ (wMo T am mguests mclause mdeeds masked mupper mlower mfinding mreadGuests misSight mat mrowSizes mrows mtextSizes mtexts mdoes mkinds msees mnow mbefore mkeeps mkept mfindings mread maside msteps mtried mbest)) → va_S (fun q : Nat => s.heap.size ≤ q) s.heap H locs → ∀ (ls : Array Slot), lv_has ls 4 [(3, .int x3), (2, .ref (am 0)), (1, .ref (ad 0)), (0, .ref b)] → W p l e room_1 s m #[Value.ref b] below meth c H locs 56 2715 (lw_Z below #[Value.ref b] s) (F0 m pc ls [])
theorem my_swapE {T : Nat → ClassId} {ad : Nat → Nat} {rs : Nat → Int32} {rm : Nat → Nat → Int32} {ts : Nat → Int32} {tm : Nat → Nat → Int32} {rdue : Int32} {rtun : Int32} {rsee : Int32} {rbeg : Int32} {psize : Int32} {pclause : Int32} {peff : Nat → Int32} {pkin : Nat → Int32} {pgri : Nat → Int32} {psig : Nat → Int32} {psee : Nat → Int32} {qsize : Int32} {qclause : Int32} {qeff : Nat → Int32} {qkin : Nat → Int32} {qgri : Nat → Int32} {qsig : Nat → Int32} {qsee : Nat → Int32} {cdee : Int32} {cnow : Int64} {cahe : Nat → Int64} {kdee : Nat → Int32} {know : Nat → Int64} {kahe : Nat → Nat → Int64} {fc : Nat → Int32} {lf : Int32} {told : Int32} {up : Int64} {lo : Int64} : [0, 1, 2, 3, 4, 5, 12, 13, 14, 15, 16, 17, 6, 7, 8, 9, 10, 11, 18, 19, 20, 21, 22, 23, 24, 25, 26, 27, 28, 29, 30, 31, 32, 33, 34, 35, 36, 37].map (fun i => (wPW T ad (ad 12) (ad 6) rs rm ts tm rdue rtun rsee rbeg psize pclause peff pkin pgri psig psee qsize qclause qeff qkin qgri qsig qsee cdee cnow cahe kdee know kahe fc lf told up lo)[i]?) = (wPW T (swp ad) ((swp ad) 6) ((swp ad) 12) rs rm ts tm rdue rtun rsee rbeg qsize qclause qeff qkin qgri qsig qsee psize pclause peff pkin pgri psig psee cdee cnow cahe kdee know kahe fc lf told up lo).map some := by
  have e1 : (fun i => if i < 6 then some (swp ad (28 + i)) else none) = (fun i => if i < 6 then some (ad (28 + i)) else none) := my_fam (fun i hi => swp_hi (by omega))
  have e2 : (fun i => if i < 4 then some (swp ad (34 + i)) else none) = (fun i => if i < 4 then some (ad (34 + i)) else none) := my_fam (fun i hi => swp_hi (by omega))
  have e3 : (fun i => if i < 3 then some (swp ad (21 + 2 * i)) else none) = (fun i => if i < 3 then some (ad (21 + 2 * i)) else none) := my_fam (fun i hi => swp_hi (by omega))
  unfold wPW
  rw [e1, e2, e3]
  rfl
theorem my_swapW {D : va_G} {H : Heap} {A : Nat → Prop} {Y : va_W} {T : Nat → ClassId} {ad : Nat → Nat} {rs : Nat → Int32} {rm : Nat → Nat → Int32} {ts : Nat → Int32} {tm : Nat → Nat → Int32} {rdue : Int32} {rtun : Int32} {rsee : Int32} {rbeg : Int32} {psize : Int32} {pclause : Int32} {peff : Nat → Int32} {pkin : Nat → Int32} {pgri : Nat → Int32} {psig : Nat → Int32} {psee : Nat → Int32} {qsize : Int32} {qclause : Int32} {qeff : Nat → Int32} {qkin : Nat → Int32} {qgri : Nat → Int32} {qsig : Nat → Int32} {qsee : Nat → Int32} {cdee : Int32} {cnow : Int64} {cahe : Nat → Int64} {kdee : Nat → Int32} {know : Nat → Int64} {kahe : Nat → Nat → Int64} {fc : Nat → Int32} {lf : Int32} {told : Int32} {up : Int64} {lo : Int64} (hP : va_P D vwCl ((wPW T ad (ad 12) (ad 6) rs rm ts tm rdue rtun rsee rbeg psize pclause peff pkin pgri psig psee qsize qclause qeff qkin qgri qsig qsee cdee cnow cahe kdee know kahe fc lf told up lo) ++ Y) H) (hD : va_D A ((wPW T ad (ad 12) (ad 6) rs rm ts tm rdue rtun rsee rbeg psize pclause peff pkin pgri psig psee qsize qclause qeff qkin qgri qsig qsee cdee cnow cahe kdee know kahe fc lf told up lo) ++ Y)) : va_P D vwCl ((wPW T (swp ad) ((swp ad) 6) ((swp ad) 12) rs rm ts tm rdue rtun rsee rbeg qsize qclause qeff qkin qgri qsig qsee psize pclause peff pkin pgri psig psee cdee cnow cahe kdee know kahe fc lf told up lo) ++ Y) H ∧ va_D A ((wPW T (swp ad) ((swp ad) 6) ((swp ad) 12) rs rm ts tm rdue rtun rsee rbeg qsize qclause qeff qkin qgri qsig qsee psize pclause peff pkin pgri psig psee cdee cnow cahe kdee know kahe fc lf told up lo) ++ Y) := my_permX (is := [0, 1, 2, 3, 4, 5, 12, 13, 14, 15, 16, 17, 6, 7, 8, 9, 10, 11, 18, 19, 20, 21, 22, 23, 24, 25, 26, 27, 28, 29, 30, 31, 32, 33, 34, 35, 36, 37]) my_swapE (by decide) rfl hP hD
