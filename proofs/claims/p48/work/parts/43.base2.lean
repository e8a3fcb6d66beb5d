theorem lg_cmp_self (x : Int64) : lg_cmp x x = 0 := by
  unfold lg_cmp
  simp [Int64.lt_irrefl]
theorem my_rng (X Y : va_W) : (List.range X.length).map (fun i => (X ++ Y)[i]?) = X.map some := by
  apply List.ext_getElem?
  intro i
  rw [List.getElem?_map, List.getElem?_map]
  by_cases h : i < X.length
  · rw [List.getElem?_range h, Option.map_some, List.getElem?_append_left h, List.getElem?_eq_getElem h, Option.map_some]
  · rw [List.getElem?_eq_none (by rw [List.length_range]; omega), List.getElem?_eq_none (by omega)]
    rfl
theorem my_rng2 (X Y : va_W) : ((List.range Y.length).map (fun i => X.length + i)).map (fun i => (X ++ Y)[i]?) = Y.map some := by
  apply List.ext_getElem?
  intro i
  rw [List.getElem?_map, List.getElem?_map, List.getElem?_map]
  by_cases h : i < Y.length
  · rw [List.getElem?_range h, Option.map_some, Option.map_some, List.getElem?_append_right (by omega), Nat.add_sub_cancel_left, List.getElem?_eq_getElem h, Option.map_some]
  · rw [List.getElem?_eq_none (by rw [List.length_range]; omega), List.getElem?_eq_none (by omega)]
    rfl
theorem my_lP {D : va_G} {X Y : va_W} {H : Heap} (hP : va_P D vwCl (X ++ Y) H) : va_P D vwCl X H := my_subP (my_rng X Y) hP
theorem my_rP {D : va_G} {X Y : va_W} {H : Heap} (hP : va_P D vwCl (X ++ Y) H) : va_P D vwCl Y H := my_subP (my_rng2 X Y) hP
theorem my_lD {A : Nat → Prop} {X Y : va_W} (hD : va_D A (X ++ Y)) : va_D A X := by
  refine ⟨fun i j p q h1 h2 he => ?_, fun k q h => ?_⟩
  · exact hD.1 i j p q (by rw [List.getElem?_append_left (List.getElem?_eq_some_iff.mp h1).1]; exact h1) (by rw [List.getElem?_append_left (List.getElem?_eq_some_iff.mp h2).1]; exact h2) he
  · exact hD.2 k q (by rw [List.getElem?_append_left (List.getElem?_eq_some_iff.mp h).1]; exact h)
theorem my_ap {X Y : va_W} {i : Nat} {q : Nat × va_E} (h : Y[i]? = some q) : (X ++ Y)[X.length + i]? = some q := by
  rw [List.getElem?_append_right (by omega), Nat.add_sub_cancel_left]; exact h
theorem my_al {X Y : va_W} {i : Nat} {q : Nat × va_E} (h : X[i]? = some q) : (X ++ Y)[i]? = some q := by
  rw [List.getElem?_append_left (List.getElem?_eq_some_iff.mp h).1]; exact h
theorem my_rD {A : Nat → Prop} {X Y : va_W} (hD : va_D A (X ++ Y)) : va_D A Y := by
  refine ⟨fun i j p q h1 h2 he => ?_, fun k q h => ?_⟩
  · have := hD.1 (X.length + i) (X.length + j) p q (my_ap h1) (my_ap h2) he
    omega
  · exact hD.2 (X.length + k) q (my_ap h)
theorem my_lF {A0 : Nat → Prop} {X Y : va_W} {H0 H : Heap} {locs : List Loc} (hD : va_D A0 (X ++ Y)) (hS : va_S A0 H0 H locs) (hA : ∀ q, H0.size ≤ q → A0 q) : ∀ q, va_A X H.size q → A0 q := my_freeS (my_lD hD) hS hA
theorem my_rF {A0 : Nat → Prop} {X Y : va_W} {H0 H : Heap} {locs : List Loc} (hD : va_D A0 (X ++ Y)) (hS : va_S A0 H0 H locs) (hA : ∀ q, H0.size ≤ q → A0 q) : ∀ q, va_A Y H.size q → A0 q := my_freeS (my_rD hD) hS hA
theorem my_splitAp {X Y : va_W} {i : Nat} {q : Nat × va_E} (h : (X ++ Y)[i]? = some q) : (i < X.length ∧ X[i]? = some q) ∨ ∃ j, i = X.length + j ∧ Y[j]? = some q := by
  by_cases hi : i < X.length
  · rw [List.getElem?_append_left hi] at h; exact Or.inl ⟨hi, h⟩
  · rw [List.getElem?_append_right (by omega)] at h; exact Or.inr ⟨i - X.length, by omega, h⟩
theorem my_apart {A0 : Nat → Prop} {D : va_G} {X Y : va_W} {H : Heap} (hP : va_P D vwCl (X ++ Y) H) (hD : va_D A0 (X ++ Y)) : (∀ (k : Nat) (q : Nat × va_E), Y[k]? = some q → q.1 < H.size ∧ ¬ va_A X H.size q.1) ∧ ∀ (k : Nat) (q : Nat × va_E), X[k]? = some q → q.1 < H.size ∧ ¬ va_A Y H.size q.1 := by
  constructor
  · intro k q h
    have hl := (hP _ q (my_ap h)).lt
    refine ⟨hl, fun z => ?_⟩
    rcases z with ⟨k2, e, z⟩ | z
    · have := hD.1 (X.length + k) k2 q (q.1, e) (my_ap h) (my_al z) rfl
      have := (List.getElem?_eq_some_iff.mp z).1
      omega
    · omega
  · intro k q h
    have hl := (hP _ q (my_al h)).lt
    refine ⟨hl, fun z => ?_⟩
    rcases z with ⟨k2, e, z⟩ | z
    · have := hD.1 k (X.length + k2) q (q.1, e) (my_al h) (my_ap z) rfl
      have := (List.getElem?_eq_some_iff.mp h).1
      omega
    · omega
theorem my_joinX {A0 : Nat → Prop} {D : va_G} {X Y X1 : va_W} {H H1 : Heap} (hP : va_P D vwCl (X ++ Y) H) (hD : va_D A0 (X ++ Y)) (hk : ∀ q : Nat, q < H.size → ¬ va_A X H.size q → H1[q]? = H[q]?) (hF : ∀ q, va_A X H.size q → A0 q) (hP1 : va_P D vwCl X1 H1) (hD1 : va_D (va_A X H.size) X1) : va_P D vwCl (X1 ++ Y) H1 ∧ va_D A0 (X1 ++ Y) := by
  have ha := (my_apart hP hD).1
  refine ⟨fun i q h => ?_, fun i j x y hx hy hxy => ?_, fun i q h => ?_⟩
  · rcases my_splitAp h with ⟨-, h'⟩ | ⟨j, rfl, h'⟩
    · exact hP1 i q h'
    · obtain ⟨g1, g2⟩ := ha j q h'
      exact (hP _ q (my_ap h')).kept (hk q.1 g1 g2)
  · rcases my_splitAp hx with ⟨-, hx'⟩ | ⟨i', rfl, hx'⟩ <;> rcases my_splitAp hy with ⟨-, hy'⟩ | ⟨j', rfl, hy'⟩
    · exact hD1.1 i j x y hx' hy' hxy
    · exact absurd (hxy ▸ hD1.2 i x hx') (ha j' y hy').2
    · exact absurd (hxy.symm ▸ hD1.2 j y hy') (ha i' x hx').2
    · have := (my_rD hD).1 i' j' x y hx' hy' hxy
      omega
  · rcases my_splitAp h with ⟨-, h'⟩ | ⟨j, rfl, h'⟩
    · exact hF q.1 (hD1.2 i q h')
    · exact hD.2 _ q (my_ap h')
theorem my_joinY {A0 : Nat → Prop} {D : va_G} {X Y Y1 : va_W} {H H1 : Heap} (hP : va_P D vwCl (X ++ Y) H) (hD : va_D A0 (X ++ Y)) (hk : ∀ q : Nat, q < H.size → ¬ va_A Y H.size q → H1[q]? = H[q]?) (hF : ∀ q, va_A Y H.size q → A0 q) (hP1 : va_P D vwCl Y1 H1) (hD1 : va_D (va_A Y H.size) Y1) : va_P D vwCl (X ++ Y1) H1 ∧ va_D A0 (X ++ Y1) := by
  have ha := (my_apart hP hD).2
  refine ⟨fun i q h => ?_, fun i j x y hx hy hxy => ?_, fun i q h => ?_⟩
  · rcases my_splitAp h with ⟨-, h'⟩ | ⟨j, rfl, h'⟩
    · obtain ⟨g1, g2⟩ := ha i q h'
      exact (hP _ q (my_al h')).kept (hk q.1 g1 g2)
    · exact hP1 j q h'
  · rcases my_splitAp hx with ⟨-, hx'⟩ | ⟨i', rfl, hx'⟩ <;> rcases my_splitAp hy with ⟨-, hy'⟩ | ⟨j', rfl, hy'⟩
    · exact (my_lD hD).1 i j x y hx' hy' hxy
    · exact absurd (hxy.symm ▸ hD1.2 j' y hy') (ha i x hx').2
    · exact absurd (hxy ▸ hD1.2 i' x hx') (ha j y hy').2
    · have := hD1.1 i' j' x y hx' hy' hxy
      omega
  · rcases my_splitAp h with ⟨-, h'⟩ | ⟨j, rfl, h'⟩
    · exact hD.2 i q (my_al h')
    · exact hF q.1 (hD1.2 j q h')
theorem my_permX {D : va_G} {H : Heap} {A : Nat → Prop} {is : List Nat} {X X1 Y : va_W} (hs : is.map (fun i => X[i]?) = X1.map some) (hn : va_nd is = true) (hl : X1.length = X.length) (hP : va_P D vwCl (X ++ Y) H) (hD : va_D A (X ++ Y)) : va_P D vwCl (X1 ++ Y) H ∧ va_D A (X1 ++ Y) := by
  have hD1 := (my_lD hD).sub is hn hs
  have key : ∀ (k : Nat) (q : Nat × va_E), X1[k]? = some q → ∃ i, X[i]? = some q := fun k q h => by
    obtain ⟨i, -, h2⟩ := my_at hs k q h
    exact ⟨i, h2⟩
  refine ⟨fun i q h => ?_, fun i j x y hx hy hxy => ?_, fun i q h => ?_⟩
  · rcases my_splitAp h with ⟨-, h'⟩ | ⟨j, rfl, h'⟩
    · exact my_subP hs (my_lP hP) i q h'
    · exact hP _ q (my_ap h')
  · rcases my_splitAp hx with ⟨-, hx'⟩ | ⟨i', rfl, hx'⟩ <;> rcases my_splitAp hy with ⟨-, hy'⟩ | ⟨j', rfl, hy'⟩
    · exact hD1.1 i j x y hx' hy' hxy
    · obtain ⟨k, hk⟩ := key i x hx'
      have := hD.1 k (X.length + j') x y (my_al hk) (my_ap hy') hxy
      have := (List.getElem?_eq_some_iff.mp hk).1
      omega
    · obtain ⟨k, hk⟩ := key j y hy'
      have := hD.1 (X.length + i') k x y (my_ap hx') (my_al hk) hxy
      have := (List.getElem?_eq_some_iff.mp hk).1
      omega
    · have := (my_rD hD).1 i' j' x y hx' hy' hxy
      omega
  · rcases my_splitAp h with ⟨-, h'⟩ | ⟨j, rfl, h'⟩
    · obtain ⟨k, hk⟩ := key i q h'
      exact hD.2 k q (my_al hk)
    · exact hD.2 _ q (my_ap h')
def swp (ad : Nat → Nat) : Nat → Nat := fun k => if k < 6 then ad k else if k < 12 then ad (k + 6) else if k < 18 then ad (k - 6) else ad k
theorem swp_hi {ad : Nat → Nat} {k : Nat} (h : 18 ≤ k) : swp ad k = ad k := by
  unfold swp
  rw [if_neg (by omega), if_neg (by omega), if_neg (by omega)]
theorem my_swapE {T : Nat → ClassId} {ad : Nat → Nat} {rs : Nat → Int32} {rm : Nat → Nat → Int32} {ts : Nat → Int32} {tm : Nat → Nat → Int32} {rdue : Int32} {rtun : Int32} {rsee : Int32} {rbeg : Int32} {psize : Int32} {pclause : Int32} {peff : Nat → Int32} {pkin : Nat → Int32} {pgri : Nat → Int32} {psig : Nat → Int32} {psee : Nat → Int32} {qsize : Int32} {qclause : Int32} {qeff : Nat → Int32} {qkin : Nat → Int32} {qgri : Nat → Int32} {qsig : Nat → Int32} {qsee : Nat → Int32} {cdee : Int32} {cnow : Int64} {cahe : Nat → Int64} {kdee : Nat → Int32} {know : Nat → Int64} {kahe : Nat → Nat → Int64} {fc : Nat → Int32} {lf : Int32} {told : Int32} {up : Int64} {lo : Int64} : [0, 1, 2, 3, 4, 5, 12, 13, 14, 15, 16, 17, 6, 7, 8, 9, 10, 11, 18, 19, 20, 21, 22, 23, 24, 25, 26, 27, 28, 29, 30, 31, 32, 33, 34, 35, 36, 37].map (fun i => (wPW T ad (ad 12) (ad 6) rs rm ts tm rdue rtun rsee rbeg psize pclause peff pkin pgri psig psee qsize qclause qeff qkin qgri qsig qsee cdee cnow cahe kdee know kahe fc lf told up lo)[i]?) = (wPW T (swp ad) ((swp ad) 6) ((swp ad) 12) rs rm ts tm rdue rtun rsee rbeg qsize qclause qeff qkin qgri qsig qsee psize pclause peff pkin pgri psig psee cdee cnow cahe kdee know kahe fc lf told up lo).map some := by
  have e1 : (fun i => if i < 6 then some (swp ad (28 + i)) else none) = (fun i => if i < 6 then some (ad (28 + i)) else none) := my_fam (fun i hi => swp_hi (by omega))
  have e2 : (fun i => if i < 4 then some (swp ad (34 + i)) else none) = (fun i => if i < 4 then some (ad (34 + i)) else none) := my_fam (fun i hi => swp_hi (by omega))
  have e3 : (fun i => if i < 3 then some (swp ad (21 + 2 * i)) else none) = (fun i => if i < 3 then some (ad (21 + 2 * i)) else none) := my_fam (fun i hi => swp_hi (by omega))
  unfold wPW
  rw [e1, e2, e3]
  rfl
theorem my_swapW {D : va_G} {H : Heap} {A : Nat → Prop} {Y : va_W} {T : Nat → ClassId} {ad : Nat → Nat} {rs : Nat → Int32} {rm : Nat → Nat → Int32} {ts : Nat → Int32} {tm : Nat → Nat → Int32} {rdue : Int32} {rtun : Int32} {rsee : Int32} {rbeg : Int32} {psize : Int32} {pclause : Int32} {peff : Nat → Int32} {pkin : Nat → Int32} {pgri : Nat → Int32} {psig : Nat → Int32} {psee : Nat → Int32} {qsize : Int32} {qclause : Int32} {qeff : Nat → Int32} {qkin : Nat → Int32} {qgri : Nat → Int32} {qsig : Nat → Int32} {qsee : Nat → Int32} {cdee : Int32} {cnow : Int64} {cahe : Nat → Int64} {kdee : Nat → Int32} {know : Nat → Int64} {kahe : Nat → Nat → Int64} {fc : Nat → Int32} {lf : Int32} {told : Int32} {up : Int64} {lo : Int64} (hP : va_P D vwCl ((wPW T ad (ad 12) (ad 6) rs rm ts tm rdue rtun rsee rbeg psize pclause peff pkin pgri psig psee qsize qclause qeff qkin qgri qsig qsee cdee cnow cahe kdee know kahe fc lf told up lo) ++ Y) H) (hD : va_D A ((wPW T ad (ad 12) (ad 6) rs rm ts tm rdue rtun rsee rbeg psize pclause peff pkin pgri psig psee qsize qclause qeff qkin qgri qsig qsee cdee cnow cahe kdee know kahe fc lf told up lo) ++ Y)) : va_P D vwCl ((wPW T (swp ad) ((swp ad) 6) ((swp ad) 12) rs rm ts tm rdue rtun rsee rbeg qsize qclause qeff qkin qgri qsig qsee psize pclause peff pkin pgri psig psee cdee cnow cahe kdee know kahe fc lf told up lo) ++ Y) H ∧ va_D A ((wPW T (swp ad) ((swp ad) 6) ((swp ad) 12) rs rm ts tm rdue rtun rsee rbeg qsize qclause qeff qkin qgri qsig qsee psize pclause peff pkin pgri psig psee cdee cnow cahe kdee know kahe fc lf told up lo) ++ Y) := my_permX (is := [0, 1, 2, 3, 4, 5, 12, 13, 14, 15, 16, 17, 6, 7, 8, 9, 10, 11, 18, 19, 20, 21, 22, 23, 24, 25, 26, 27, 28, 29, 30, 31, 32, 33, 34, 35, 36, 37]) my_swapE (by decide) rfl hP hD
theorem my_swapL {D : va_G} {H : Heap} {A : Nat → Prop} {T : Nat → ClassId} {ad : Nat → Nat} {rs : Nat → Int32} {rm : Nat → Nat → Int32} {ts : Nat → Int32} {tm : Nat → Nat → Int32} {rdue : Int32} {rtun : Int32} {rsee : Int32} {rbeg : Int32} {psize : Int32} {pclause : Int32} {peff : Nat → Int32} {pkin : Nat → Int32} {pgri : Nat → Int32} {psig : Nat → Int32} {psee : Nat → Int32} {qsize : Int32} {qclause : Int32} {qeff : Nat → Int32} {qkin : Nat → Int32} {qgri : Nat → Int32} {qsig : Nat → Int32} {qsee : Nat → Int32} {cdee : Int32} {cnow : Int64} {cahe : Nat → Int64} {kdee : Nat → Int32} {know : Nat → Int64} {kahe : Nat → Nat → Int64} {fc : Nat → Int32} {lf : Int32} {told : Int32} {up : Int64} {lo : Int64} {za ta : Nat} {zz tt : Nat → Int32} (hP : va_P D vwCl (wLW T ad (ad 12) (ad 6) za ta rs rm ts tm rdue rtun rsee rbeg psize pclause peff pkin pgri psig psee qsize qclause qeff qkin qgri qsig qsee cdee cnow cahe kdee know kahe fc lf told up lo zz tt) H) (hD : va_D A (wLW T ad (ad 12) (ad 6) za ta rs rm ts tm rdue rtun rsee rbeg psize pclause peff pkin pgri psig psee qsize qclause qeff qkin qgri qsig qsee cdee cnow cahe kdee know kahe fc lf told up lo zz tt)) : va_P D vwCl (wLW T (swp ad) ((swp ad) 6) ((swp ad) 12) za ta rs rm ts tm rdue rtun rsee rbeg qsize qclause qeff qkin qgri qsig qsee psize pclause peff pkin pgri psig psee cdee cnow cahe kdee know kahe fc lf told up lo zz tt) H ∧ va_D A (wLW T (swp ad) ((swp ad) 6) ((swp ad) 12) za ta rs rm ts tm rdue rtun rsee rbeg qsize qclause qeff qkin qgri qsig qsee psize pclause peff pkin pgri psig psee cdee cnow cahe kdee know kahe fc lf told up lo zz tt) := my_swapW (Y := [(za, .inl (T 0, 18, .inl zz)), (ta, .inl (T 0, 7, .inl tt))]) hP hD
theorem nd_LW : va_nd [0, 1, 2, 3, 4, 5, 6, 7, 8, 9, 10, 11, 12, 13, 14, 15, 16, 17, 18, 19, 20, 21, 22, 23, 24, 25, 26, 27, 28, 29, 30, 31, 32, 33, 34, 35, 36, 37] = true := by decide
theorem my_set1 : ∀ (pre : va_W) (x y : Nat × va_E) (l : va_W), (pre ++ x :: l).set pre.length y = pre ++ y :: l
  | [], _, _, _ => rfl
  | a :: p, x, y, l => congrArg (a :: ·) (my_set1 p x y l)
theorem my_sets_all : ∀ (X X1 pre Y : va_W), X1.length = X.length → my_sets (List.range' pre.length X.length) X1 (pre ++ (X ++ Y)) = pre ++ (X1 ++ Y)
  | [], [], pre, Y, _ => rfl
  | [], _ :: _, _, _, h => by cases h
  | _ :: _, [], _, _, h => by cases h
  | x :: X, y :: X1, pre, Y, h => by
    have ih := my_sets_all X X1 (pre ++ [y]) Y (Nat.succ.inj h)
    rw [List.length_append, List.append_assoc, List.append_assoc] at ih
    show my_sets (List.range' (pre.length + 1) X.length) X1 ((pre ++ x :: (X ++ Y)).set pre.length y) = pre ++ y :: (X1 ++ Y)
    rw [my_set1]
    exact ih
theorem st_LW {T : Nat → ClassId} {ad : Nat → Nat} {pp ps qq qs za ta : Nat} {rs : Nat → Int32} {rm : Nat → Nat → Int32} {ts : Nat → Int32} {tm : Nat → Nat → Int32} {rdue : Int32} {rtun : Int32} {rsee : Int32} {rbeg : Int32} {psize : Int32} {pclause : Int32} {peff : Nat → Int32} {pkin : Nat → Int32} {pgri : Nat → Int32} {psig : Nat → Int32} {psee : Nat → Int32} {qsize : Int32} {qclause : Int32} {qeff : Nat → Int32} {qkin : Nat → Int32} {qgri : Nat → Int32} {qsig : Nat → Int32} {qsee : Nat → Int32} {cdee : Int32} {cnow : Int64} {cahe : Nat → Int64} {kdee : Nat → Int32} {know : Nat → Int64} {kahe : Nat → Nat → Int64} {fc : Nat → Int32} {lf : Int32} {told : Int32} {up : Int64} {lo : Int64} {zrs : Nat → Int32} {zrm : Nat → Nat → Int32} {zts : Nat → Int32} {ztm : Nat → Nat → Int32} {zrdue : Int32} {zrtun : Int32} {zrsee : Int32} {zrbeg : Int32} {zpsize : Int32} {zpclause : Int32} {zpeff : Nat → Int32} {zpkin : Nat → Int32} {zpgri : Nat → Int32} {zpsig : Nat → Int32} {zpsee : Nat → Int32} {zqsize : Int32} {zqclause : Int32} {zqeff : Nat → Int32} {zqkin : Nat → Int32} {zqgri : Nat → Int32} {zqsig : Nat → Int32} {zqsee : Nat → Int32} {zcdee : Int32} {zcnow : Int64} {zcahe : Nat → Int64} {zkdee : Nat → Int32} {zknow : Nat → Int64} {zkahe : Nat → Nat → Int64} {zfc : Nat → Int32} {zlf : Int32} {ztold : Int32} {zup : Int64} {zlo : Int64} {zz tt : Nat → Int32} : my_sets [0, 1, 2, 3, 4, 5, 6, 7, 8, 9, 10, 11, 12, 13, 14, 15, 16, 17, 18, 19, 20, 21, 22, 23, 24, 25, 26, 27, 28, 29, 30, 31, 32, 33, 34, 35, 36, 37] (wPW T ad qq qs zrs zrm zts ztm zrdue zrtun zrsee zrbeg zpsize zpclause zpeff zpkin zpgri zpsig zpsee zqsize zqclause zqeff zqkin zqgri zqsig zqsee zcdee zcnow zcahe zkdee zknow zkahe zfc zlf ztold zup zlo) (wLW T ad pp ps za ta rs rm ts tm rdue rtun rsee rbeg psize pclause peff pkin pgri psig psee qsize qclause qeff qkin qgri qsig qsee cdee cnow cahe kdee know kahe fc lf told up lo zz tt) = wLW T ad qq qs za ta zrs zrm zts ztm zrdue zrtun zrsee zrbeg zpsize zpclause zpeff zpkin zpgri zpsig zpsee zqsize zqclause zqeff zqkin zqgri zqsig zqsee zcdee zcnow zcahe zkdee zknow zkahe zfc zlf ztold zup zlo zz tt := my_sets_all (wPW T ad pp ps rs rm ts tm rdue rtun rsee rbeg psize pclause peff pkin pgri psig psee qsize qclause qeff qkin qgri qsig qsee cdee cnow cahe kdee know kahe fc lf told up lo) (wPW T ad qq qs zrs zrm zts ztm zrdue zrtun zrsee zrbeg zpsize zpclause zpeff zpkin zpgri zpsig zpsee zqsize zqclause zqeff zqkin zqgri zqsig zqsee zcdee zcnow zcahe zkdee zknow zkahe zfc zlf ztold zup zlo) [] [(za, .inl (T 0, 18, .inl zz)), (ta, .inl (T 0, 7, .inl tt))] rfl
theorem preS_x {D : va_G} {T : Nat → ClassId} {s : State} {H : Heap} {b L : Nat} {xs : Nat → Int32} {As : List Value} (hX : va_X b L xs s H) (hK : KK D T s) : PreS s H (va_Pc As (fun U => va_X b L xs U U.heap ∧ KK D T U)) As :=
  ⟨fun _ _ _ _ q => ⟨q.1, q.2.1, q.2.2.call⟩, fun U hU hW => ⟨rfl, by rw [hU]; exact hX.moved hW.alike, hK.warm hW⟩⟩
theorem preS_xw {D : va_G} {T : Nat → ClassId} {s : State} {H : Heap} {ws : va_W} {As : List Value} {A : Nat → Prop} {b L : Nat} {xs : Nat → Int32} (hP : va_P D vwCl ws H) (hK : KK D T s) (hD : va_D A ws) (hX : va_X b L xs s H) (hn : ¬ va_A ws H.size b) : PreS s H (va_Pc As (fun U => U.heap.size = H.size ∧ va_P D vwCl ws U.heap ∧ KK D T U ∧ va_D (fun _ => True) ws ∧ va_X b L xs U U.heap ∧ ¬ va_A ws H.size b)) As :=
  ⟨fun _ _ _ _ q => ⟨q.1, q.2.1, q.2.2.1, q.2.2.2.1.call, q.2.2.2.2.1, q.2.2.2.2.2.1, q.2.2.2.2.2.2⟩, fun U hU hW => ⟨rfl, by rw [hU], by rw [hU]; exact hP, hK.warm hW, hD.weaken (fun _ _ _ _ => trivial), by rw [hU]; exact hX.moved hW.alike, hn⟩⟩
theorem my_rwzA {p : Program} {l : Launch} {e : Env} {R : Room} {s : State} {m : MethodId} {args : Array Value} {below : List Frame} {meth : Method} {c : Code} {H : Heap} {locs : List Loc} {cells slots : Nat} {Q : State → Prop} {pc : Nat} {ls : Array Slot} {rest st0 : List Value} {a : Array Value} {A0 A1 : Nat → Prop} {H0 : Heap} {D : va_G} {w1 : (Nat → Nat) → va_W} {a0 : Nat} {r : Int32} (hr : va_Run p l e R s m args below meth c H locs cells slots 0 0 (F0 m pc ls st0) rest (va_Qi (fun r' (u : Nat → Nat) => r' = r ∧ b01 r ∧ u 0 = a0) (fun u t => va_P D vwCl (w1 u) t.heap ∧ va_D A1 (w1 u)) A1 a) A1) (hS : va_S A0 H0 H locs) (hF : ∀ q, A1 q → A0 q)
    (kk : b01 r → ∀ (u : Nat → Nat) (H1 : Heap) (locs1 : List Loc), u 0 = a0 → va_P D vwCl (w1 u) H1 → va_D A1 (w1 u) → H.size ≤ H1.size → (∀ q : Nat, q < H.size → ¬ A1 q → H1[q]? = H[q]?) → va_S A0 H0 H1 locs1 → W p l e R s m args below meth c H1 locs1 cells slots Q (F0 m (pc + 3) ls (.int r :: rest))) : W p l e R s m args below meth c H locs cells slots Q (F0 m pc ls st0) :=
  va_calli hr hS (fun q _ h => hF q h) hF (fun r' u t H1 locs1 ht _ hp hb hz hk hS1 => by obtain ⟨hp, hb1, hu⟩ := hp; subst hp; subst ht; exact kk hb1 u _ _ hu hb.1 hb.2 hz hk hS1)
theorem ck_then {c : Prop} {i : Decidable c} {α : Type} {e : Option α} {r : α} (h : (if c then e else none) = some r) : c ∧ e = some r := by
  by_cases hc : c
  · rw [if_pos hc] at h; exact ⟨hc, h⟩
  · rw [if_neg hc] at h; cases h
theorem gparty_sp {F p6 p12 : Nat} {ts : Nat → Int32} {tm : Nat → Nat → Int32} {rdue : Int32} {rtun : Int32} {rsee : Int32} {rbeg : Int32} {psize : Int32} {pgri : Nat → Int32} {qsize : Int32} {qclause : Int32} {qeff : Nat → Int32} {qkin : Nat → Int32} {qgri : Nat → Int32} {qsig : Nat → Int32} {qsee : Nat → Int32} {cdee : Int32} {cnow : Int64} {kdee : Nat → Int32} {fc : Nat → Int32} {lf : Int32} {x1 : Int32} {r : Int32} {zrdue : Int32} {zrtun : Int32} {zrsee : Int32} {zrbeg : Int32} {zqsize : Int32} {zqclause : Int32} {zqeff : Nat → Int32} {zqkin : Nat → Int32} {zqgri : Nat → Int32} {zqsig : Nat → Int32} {zqsee : Nat → Int32} {zcdee : Int32} {zcnow : Int64} {zkdee : Nat → Int32} {zfc : Nat → Int32} {zlf : Int32} (h : gX5_party F p6 p12 ts tm rdue rtun rsee rbeg psize pgri qsize qclause qeff qkin qgri qsig qsee cdee cnow kdee fc lf x1 = some (r, zrdue, zrtun, zrsee, zrbeg, zqsize, zqclause, zqeff, zqkin, zqgri, zqsig, zqsee, zcdee, zcnow, zkdee, zfc, zlf)) : fX5_party F p6 p12 ts tm rdue rtun rsee rbeg psize pgri qsize qclause qeff qkin qgri qsig qsee cdee cnow kdee fc lf x1 = some (r, zrdue, zrtun, zrsee, zrbeg, zqsize, zqclause, zqeff, zqkin, zqgri, zqsig, zqsee, zcdee, zcnow, zkdee, zfc, zlf, p12, p6) := by
  unfold gX5_party at h
  cases e : fX5_party F p6 p12 ts tm rdue rtun rsee rbeg psize pgri qsize qclause qeff qkin qgri qsig qsee cdee cnow kdee fc lf x1 with
  | none => rw [e] at h; cases h
  | some q =>
    obtain ⟨q0, q_rdue, q_rtun, q_rsee, q_rbeg, q_qsize, q_qclause, q_qeff, q_qkin, q_qgri, q_qsig, q_qsee, q_cdee, q_cnow, q_kdee, q_fc, q_lf, a, d⟩ := q
    rw [e] at h
    dsimp only at h
    by_cases hq : a = p12 ∧ d = p6
    · obtain ⟨h1, h2⟩ := hq
      subst h1; subst h2
      rw [if_pos ⟨rfl, rfl⟩] at h
      cases h; rfl
    · rw [if_neg hq] at h; cases h
