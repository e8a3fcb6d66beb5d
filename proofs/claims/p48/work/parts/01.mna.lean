def va_AOA (t : FieldType) (U : State) : Prop := (Cond.arrayOver (.array t)).before #[] U = true
/-! new T[n][m], over the machine itself -/
/-- the outer array once i inner ones hang in it; h: its address -/
def ma_o (c : ClassId) (N h i : Nat) : Cell := arrV c N (fun j => va_rf (if j < i then some (h + 1 + j) else none))
/-- the state behind the outer array and i inner ones -/
def ma_f (s : State) (c y : ClassId) (N M : Nat) (v : Value) : Nat → State
  | 0 => s.pushCell (ma_o c N s.heap.size 0)
  | i + 1 => ((ma_f s c y N M v i).pushCell (arrV y M (fun _ => v))).setCell s.heap.size (ma_o c N s.heap.size (i + 1))
theorem ma_oS (c : ClassId) (N h i : Nat) : (ma_o c N h i).setSlot i (.ref (h + 1 + i)) = ma_o c N h (i + 1) := by
  unfold ma_o
  rw [arrV_store]
  refine congrArg (arrV c N) (funext fun j => ?_)
  unfold updV
  by_cases e : j = i
  · subst e
    rw [if_pos rfl, if_pos (Nat.lt_succ_self j)]
    rfl
  · rw [if_neg e]
    show va_rf (if j < i then some (h + 1 + j) else none) = va_rf (if j < i + 1 then some (h + 1 + j) else none)
    by_cases h9 : j < i
    · rw [if_pos h9, if_pos (Nat.lt_succ_of_lt h9)]
    · rw [if_neg h9, if_neg (by omega)]
theorem ma_o0 (c : ClassId) (N h : Nat) : ma_o c N h 0 = ({ cls := c, slots := Array.replicate N .null, vm := .none } : Cell) := by
  rw [arrV_new]
  rfl
theorem ma_all (s : State) (c y : ClassId) (N M : Nat) (v : Value) : ∀ i, (ma_f s c y N M v i).heap.size = s.heap.size + 1 + i ∧ (ma_f s c y N M v i).heap[s.heap.size]? = some (ma_o c N s.heap.size i) ∧ (ma_f s c y N M v i).vm = s.vm ∧ (ma_f s c y N M v i).slotsUsed = s.slotsUsed + N + i * M ∧ (∀ x, x < s.heap.size → (ma_f s c y N M v i).heap[x]? = s.heap[x]?) ∧ (∀ j, j < i → (ma_f s c y N M v i).heap[s.heap.size + 1 + j]? = some (arrV y M (fun _ => v)))
  | 0 => ⟨by simp [ma_f], by simp [ma_f], rfl, by simp [ma_f, ma_o, arrV_size], fun x hx => State.heap_pushCell_of_lt _ _ hx, fun j hj => absurd hj (Nat.not_lt_zero _)⟩
  | i + 1 => by
    obtain ⟨g1, g2, g3, g4, g5, g6⟩ := ma_all s c y N M v i
    generalize hU : ma_f s c y N M v i = U at g1 g2 g3 g4 g5 g6
    have e : ma_f s c y N M v (i + 1) = (U.pushCell (arrV y M (fun _ => v))).setCell s.heap.size (ma_o c N s.heap.size (i + 1)) := by rw [← hU]; rfl
    rw [e]
    have hlt : s.heap.size < U.heap.size := by omega
    have h2 : (U.pushCell (arrV y M (fun _ => v))).heap[s.heap.size]? = some (ma_o c N s.heap.size i) := by rw [State.heap_pushCell_of_lt (h := hlt)]; exact g2
    refine ⟨by simp [State.setCell, g1]; omega, State.heap_setCell_self h2, by simp [g3], by simp [g4, arrV_size, Nat.succ_mul]; omega, fun x hx => ?_, fun j hj => ?_⟩
    · have hxl : x < U.heap.size := by omega
      rw [State.heap_setCell_other (Nat.ne_of_gt hx), State.heap_pushCell_of_lt (h := hxl)]
      exact g5 x hx
    · rw [State.heap_setCell_other (show s.heap.size ≠ s.heap.size + 1 + j by omega)]
      by_cases hj2 : j < i
      · have hjl : s.heap.size + 1 + j < U.heap.size := by omega
        rw [State.heap_pushCell_of_lt (h := hjl)]
        exact g6 j hj2
      · rw [show s.heap.size + 1 + j = U.heap.size by omega]
        exact State.heap_pushCell_size _ _
theorem ma_top (s : State) (f : JFrame) (c y : ClassId) (N M : Nat) (v : Value) : ∀ i, ma_f (s.setTop f) c y N M v i = (ma_f s c y N M v i).setTop f
  | 0 => rfl
  | i + 1 => by
    have ih := ma_top s f c y N M v i
    simp only [ma_f, ih, State.heap_setTop, State.pushCell_setTop, State.setCell_setTop]
section
variable {E : CtlPost} {e : Env} {d : Bool} {acts : List Action} {s : State}
theorem ma_new {c y : ClassId} {k : Class} {ty : FieldType} {n : Nat} {v : Value} (hk : s.vm.classes[c]? = some k) (hkind : k.kind = .array y ty) (hlim : ¬ n > e.platform.arrayLengthLimit) (hmax : ¬ n * componentBytes ty > e.platform.maxHeapBytes) (hfit : fits ty v = true) (hdef : v.isDefault = true) {Q : Addr → Pre} (hc : s.heap.size < e.platform.maxCells) (hs : s.slotsUsed + n ≤ e.platform.maxSlots) (hq : Q s.heap.size d acts (s.pushCell { cls := c, slots := Array.replicate n v, vm := .none })) : wp (Jvm.newArray c n v) Q E e d acts s := by
  have hall : ((Array.replicate n v).all (·.isDefault)) = true := by
    rw [Array.all_replicate]
    split <;> simp [hdef]
  have hacts : allocActs (Array.replicate n v) s.heap.size acts = acts := by
    unfold allocActs
    rw [if_pos hall]
  simp only [Jvm.newArray, Jvm.arrayFits, wp_bind', W.ask, W.ite, hlim, if_false, wp_pure', W.theClass, hk, hkind, hmax, W.alloc, W.stop, Option.some.injEq, exists_eq_left', Array.size_replicate, hacts]
  rw [if_neg (by omega)]
  refine ⟨hc, hs, fun i w hw => ?_, hq⟩
  rw [Array.getElem?_replicate] at hw
  by_cases hi : i < n
  · rw [if_pos hi] at hw
    cases hw
    simp [State.fitsSlot, State.slotType?, hk, hkind, hfit]
  · rw [if_neg hi] at hw
    cases hw
theorem ma_ref {t : FieldType} (h : t.isReference = true) (x : Option Nat) : fits t (va_rf x) = true := by
  cases x <;> cases t <;> first | rfl | (simp [FieldType.isReference] at h)
theorem ma_in {y z : ClassId} {k : Class} {ty : FieldType} {q : Int32} (hk : s.vm.classes[y]? = some k) (hkind : k.kind = .array z ty) (hq0 : ¬ q < 0) (hlim : ¬ q.toNatClampNeg > e.platform.arrayLengthLimit) (hmax : ¬ q.toNatClampNeg * componentBytes ty > e.platform.maxHeapBytes) (hdf : fits ty (defaultValue ty) = true) (hdd : (defaultValue ty).isDefault = true) (hc : s.heap.size < e.platform.maxCells) (hs : s.slotsUsed + q.toNatClampNeg ≤ e.platform.maxSlots) {Q : Addr → Pre} (hq : Q s.heap.size d acts (s.pushCell (arrV y q.toNatClampNeg (fun _ => defaultValue ty)))) : wp (multianewarray.make y [q]) Q E e d acts s := by
  rw [← arrV_new] at hq
  rw [multianewarray.make]
  simp only [wp_bind', W.ite, hq0, if_false, wp_pure', W.theClass, hk, hkind, Option.some.injEq, exists_eq_left']
  exact ma_new hk hkind hlim hmax hdf hdd hc hs hq
theorem ma_out {c y z : ClassId} {k k2 : Class} {t0 ty : FieldType} {n q : Int32} (hk : s.vm.classes[c]? = some k) (hkind : k.kind = .array y t0) (href : t0.isReference = true) (hk2 : s.vm.classes[y]? = some k2) (hkind2 : k2.kind = .array z ty) (hn : ¬ n < 0) (hq0 : ¬ q < 0)
    (l1 : ¬ n.toNatClampNeg > e.platform.arrayLengthLimit) (b1 : ¬ n.toNatClampNeg * componentBytes t0 > e.platform.maxHeapBytes) (l2 : ¬ q.toNatClampNeg > e.platform.arrayLengthLimit) (b2 : ¬ q.toNatClampNeg * componentBytes ty > e.platform.maxHeapBytes) (hdf : fits ty (defaultValue ty) = true) (hdd : (defaultValue ty).isDefault = true)
    (hc : s.heap.size + 1 + n.toNatClampNeg ≤ e.platform.maxCells) (hs : s.slotsUsed + n.toNatClampNeg + n.toNatClampNeg * q.toNatClampNeg ≤ e.platform.maxSlots) {Q : Addr → Pre} (hq : ∀ d' acts', Q s.heap.size d' acts' (ma_f s c y n.toNatClampNeg q.toNatClampNeg (defaultValue ty) n.toNatClampNeg)) : wp (multianewarray.make c [n, q]) Q E e d acts s := by
  generalize hNe : n.toNatClampNeg = N at *
  generalize hMe : q.toNatClampNeg = M at *
  have hNM : 0 ≤ N * M := Nat.zero_le _
  have hnone : ([q].find? (· < 0)) = none := by simp [hq0]
  rw [multianewarray.make]
  simp only [wp_bind', W.ite, hn, if_false, wp_pure', W.theClass, hk, hkind, Option.some.injEq, exists_eq_left', hNe]
  refine ma_new hk hkind l1 b1 (show fits t0 .null = true from ma_ref href none) rfl (by omega) (by omega) ?_
  rw [← ma_o0 c N s.heap.size]
  simp only [hnone]
  rw [ite_self, wp_bind', Std.Legacy.Range.forIn_eq_forIn_range', show ([:N] : Std.Legacy.Range).size = N by simp [Std.Legacy.Range.size]]
  refine wp_forIn_inv (fun rest s' => ∃ i, i ≤ N ∧ rest = List.range' i (N - i) ∧ s' = ma_f s c y N M (defaultValue ty) i) _ _ ⟨0, Nat.zero_le _, rfl, rfl⟩ ?_ ?_
  · rintro x rest s' d' acts' Q' ⟨i, hi, hl, rfl⟩ hnext
    by_cases hlt : i < N
    rotate_left
    · rw [show N - i = 0 by omega] at hl
      cases hl
    rw [show N - i = (N - (i + 1)) + 1 by omega, List.range'_succ] at hl
    obtain ⟨rfl, hrest⟩ := List.cons.inj hl
    obtain ⟨g1, g2, g3, g4, g5, g6⟩ := ma_all s c y N M (defaultValue ty) x
    have hmul : x * M + M ≤ N * M := by
      have := Nat.mul_le_mul_right M (show x + 1 ≤ N from hlt)
      rw [Nat.succ_mul] at this
      exact this
    have hlt0 : s.heap.size < (ma_f s c y N M (defaultValue ty) x).heap.size := by omega
    simp only [wp_bind']
    refine ma_in (by rw [g3]; exact hk2) hkind2 hq0 (by rw [hMe]; exact l2) (by rw [hMe]; exact b2) hdf hdd (by omega) (by rw [hMe]; omega) ?_
    rw [hMe]
    simp only [wp_bind', W.writeLoc, wp_pure']
    refine ⟨ma_o c N s.heap.size x, by rw [State.heap_pushCell_of_lt (h := hlt0)]; exact g2, by simp [ma_o, arrV], by show x < (arrV c N _).slots.size; rw [arrV_size]; exact hlt, ?_, hnext _ _ _ ⟨x + 1, hlt, hrest, ?_⟩⟩
    · show (State.fitsSlot _ c .none x _) = true
      have := ma_ref href (some (ma_f s c y N M (defaultValue ty) x).heap.size)
      simp only [va_rf] at this
      simp [State.fitsSlot, State.slotType?, g3, hk, hkind, this]
    · rw [g1, ma_oS]
      rfl
  · rintro s' d' acts' ⟨i, hi, hl, rfl⟩
    have hiN : i = N := by
      by_cases h : i < N
      · rw [show N - i = (N - (i + 1)) + 1 by omega, List.range'_succ] at hl
        cases hl
      · omega
    subst hiN
    simp only [wp_pure']
    exact hq _ _
end
section
variable {p : Program} {l : Launch} {e : Env} {R : Room} {s : State} {m : MethodId} {args : Array Value} {below : List Frame} {meth : Method} {c : Code} {T : State} {locs : List Loc} {cells slots : Nat}
theorem ma_stand0 (X : Stand p l e R s m args below meth c T locs cells slots) (cA y : ClassId) (N M : Nat) (v : Value) : ∀ i, Stand p l e R s m args below meth c (ma_f T cA y N M v i) (locs ++ (List.range i).map fun j => ⟨T.heap.size, j⟩) (cells + 1 + i) (slots + N + i * M)
  | 0 => by
    have h := X.pushed (ma_o cA N T.heap.size 0)
    rw [show (ma_o cA N T.heap.size 0).slots.size = N from arrV_size _ _ _] at h
    simpa [ma_f] using h
  | i + 1 => by
    have h1 := ma_stand0 X cA y N M v i
    obtain ⟨g1, g2, -, -, -, -⟩ := ma_all T cA y N M v i
    have hlt : T.heap.size < (ma_f T cA y N M v i).heap.size := by omega
    have h := (h1.pushed (arrV y M (fun _ => v))).stored (show _ = some (ma_o cA N T.heap.size i) by rw [State.heap_pushCell_of_lt (h := hlt)]; exact g2) i (.ref (T.heap.size + 1 + i))
    rw [arrV_size, ma_oS] at h
    rw [List.range_succ, List.map_append, ← List.append_assoc, show slots + N + (i + 1) * M = slots + N + i * M + M by rw [Nat.succ_mul]; omega]
    exact h
theorem ma_stand (X : Stand p l e R s m args below meth c T locs cells slots) {vm₁ : Vm} (X1 : Stand p l e R s m args below meth c (T.setVm vm₁) locs cells slots) (cA y : ClassId) (N M : Nat) (v : Value) (i : Nat) : Stand p l e R s m args below meth c (ma_f (T.setVm vm₁) cA y N M v i) locs (cells + 1 + i) (slots + N + i * M) := by
  refine (ma_stand0 X1 cA y N M v i).dropFresh (fun x hx => ?_)
  obtain ⟨j, -, rfl⟩ := List.mem_map.mp hx
  exact X.heapGrown
end
section MNA
variable {p : Program} {l : Launch} {e : Env} {R : Room} {s : State} {m : MethodId} {args : Array Value} {below : List Frame} {meth : Method} {c : Code} {H : Heap} {locs : List Loc} {cells slots : Nat} {Q : State → Prop}
variable {cc : ByteArray} {pc : Nat} {ls : Array Slot} {rest : List Value} {D : va_G} {cl : List vw_C} {A : Nat → Prop} {tys : List (ClassId × FieldType)} {ws : va_W} {H0 : Heap}
theorem my_mna {own : String} {index : Nat} {ty : FieldType} {cy : ClassId} {n k : Int32} {N' K' : Nat} {z : vp_A} (hexec : p.tables.exec = Jvm.exec) (hb : c.code = cc) (hown : s.vm.findClass own = some m.cls) (hclink : (Cond.classLink own index ("[" ++ (FieldType.array ty).toString)).before args s = true) (hover : va_AOA ty s) (harr : (Cond.arrayClass ty).before args s = true) (hcy : s.vm.findClass (FieldType.array ty).toString = some cy)
    (hK : va_K D cl tys s) (hP : va_P D cl ws H) (hD : va_D A ws) (hS : va_S A H0 H locs) (hA : ∀ q, H0.size ≤ q → A q) (hn : ¬ n < 0) (hk : ¬ k < 0) (hN : n.toNatClampNeg = N') (hM : k.toNatClampNeg = K')
    (hb1 : N' * 4 ≤ 536870912) (hb2 : K' * componentBytes ty ≤ 536870912) (hb3 : K' ≤ 536870912) (hdf : fits ty (defaultValue ty) = true) (hdd : (defaultValue ty).isDefault = true) (hcells : cells + (1 + N') ≤ R.cells) (hslots : slots + (N' + N' * K') ≤ R.slots) (hz : ∀ c : ClassId, vp_cell c z = arrV c K' (fun _ => defaultValue ty)) (hdg : decode cc pc = .ok (.multianewarray index 2, 4))
    (kk : ∀ (q : Nat) (r : Nat → Nat) (cA : ClassId) (H1 : Heap), va_K D cl (tys ++ [(cA, .array ty)]) s → va_P D cl (ws ++ ((q, .inl (cA, N', .inr (.inr (.inr (.inr (fun i => if i < N' then some (r i) else none)))))) :: (List.range N').map (fun i => (r i, .inl (cy, z))))) H1 → va_D A (ws ++ ((q, .inl (cA, N', .inr (.inr (.inr (.inr (fun i => if i < N' then some (r i) else none)))))) :: (List.range N').map (fun i => (r i, .inl (cy, z))))) → va_S A H0 H1 locs →
      W p l e R s m args below meth c H1 locs (cells + 1 + N') (slots + N' + N' * K') Q (F0 m (pc + 4) ls (.ref q :: rest))) : W p l e R s m args below meth c H locs cells slots Q (F0 m pc ls (.int k :: .int n :: rest)) := by
  subst hN
  subst hM
  intro T hT X
  subst hb
  have hpl : e.platform.magicAccessors = ({} : Platform).magicAccessors := by rw [X.admits.platform]
  obtain ⟨y, cA, kA, hy, -, hkA, hkindA, fA⟩ := arrayOverA_spec hover
  cases Option.some.inj (hcy.symm.trans hy)
  obtain ⟨y', kC, z0, hy', hkC, hkindC⟩ := Cond.arrayClass_spec harr
  cases Option.some.inj (hcy.symm.trans hy')
  obtain ⟨c0, hfc0, hcl⟩ := Cond.classLink_spec hown hclink e.platform hpl
  cases Option.some.inj (fA.symm.trans hfc0)
  obtain ⟨hg₁, hwarm₁, -⟩ := State.classEntry (e := e) X.warmed hcl
  generalize T.vm.noted m.cls index (.cls cA) = vm₁ at hg₁ hwarm₁
  obtain ⟨kA₁, hkA₁, heA⟩ := hwarm₁.alike.2.2 _ _ hkA
  obtain ⟨kC₁, hkC₁, heC⟩ := hwarm₁.alike.2.2 _ _ hkC
  have hkindA₁ : kA₁.kind = .array cy (.array ty) := by rw [heA]; exact hkindA
  have hkindC₁ : kC₁.kind = .array z0 ty := by rw [heC]; exact hkindC
  obtain ⟨hr1, hr2⟩ := X.roomAbove hcells hslots
  have XF := ma_stand X (X.noted hwarm₁) cA cy n.toNatClampNeg k.toNatClampNeg (defaultValue ty) n.toNatClampNeg
  have hTh : (T.setVm vm₁).heap = H := hT
  obtain ⟨f1, f2, -, -, hold, hrow⟩ := ma_all (T.setVm vm₁) cA cy n.toNatClampNeg k.toNatClampNeg (defaultValue ty) n.toNatClampNeg
  have hfin : ∀ tgt, Steps p.tables e below ((ma_f (T.setVm vm₁) cA cy n.toNatClampNeg k.toNatClampNeg (defaultValue ty) n.toNatClampNeg).setTop (F0 m (pc + 4) ls (.ref H.size :: rest))) tgt → Steps p.tables e below (T.setTop (F0 m pc ls (.int k :: .int n :: rest))) tgt := fun tgt hrest => by
    have l1 : ¬ n.toNatClampNeg > e.platform.arrayLengthLimit := by rw [Launch.admits_arrayLengthLimit X.admits]; omega
    have b1 : ¬ n.toNatClampNeg * componentBytes (.array ty) > e.platform.maxHeapBytes := by
      rw [Launch.admits_maxHeapBytes X.admits]
      show ¬ n.toNatClampNeg * 4 > 536870912
      omega
    have l2 : ¬ k.toNatClampNeg > e.platform.arrayLengthLimit := by rw [Launch.admits_arrayLengthLimit X.admits]; omega
    have b2 : ¬ k.toNatClampNeg * componentBytes ty > e.platform.maxHeapBytes := by rw [Launch.admits_maxHeapBytes X.admits]; omega
    jvm_step X.here [hexec, hdg]
    simp only [multianewarray.sem, wp_bind', W.resolveClassAt_links (State.method?_setTop (F0 m pc ls (.int k :: .int n :: rest)) X.here.top) hg₁]
    rw [W.popN, if_neg (by decide)]
    refine ⟨F0 m pc ls (.int k :: .int n :: rest), State.topJava?_setTop' (s := T.setVm vm₁) _ X.here.top, [.int n, .int k], rest, rfl, rfl, ?_⟩
    simp only [List.mapM_cons, List.mapM_nil, wp_bind', wp_pure']
    refine ma_out (k := kA₁) (k2 := kC₁) (y := cy) (z := z0) (t0 := .array ty) (ty := ty) hkA₁ hkindA₁ rfl hkC₁ hkindC₁ hn hk l1 b1 l2 b2 hdf hdd (by show T.heap.size + 1 + _ ≤ _; omega) (by show T.slotsUsed + _ + _ ≤ _; omega) (fun d' acts' => ?_)
    have eS : ((T.setTop (F0 m pc ls (.int k :: .int n :: rest))).setVm vm₁).setTop (F0 m pc ls rest) = (T.setVm vm₁).setTop (F0 m pc ls rest) := by
      show ((T.setVm vm₁).setTop _).setTop _ = _
      rw [State.setTop_setTop]
    have eS2 : ((T.setTop (F0 m pc ls (.int k :: .int n :: rest))).setVm vm₁).setTop { F0 m pc ls (.int k :: .int n :: rest) with stack := rest } = (T.setVm vm₁).setTop (F0 m pc ls rest) := eS
    rw [eS2, ma_top]
    simp only [wp_bind', W.mark, W.pushRef, State.topJava?_setTop' _ XF.here.top, Option.some.injEq, exists_eq_left', State.setTop_setTop, State.heap_setTop]
    intro acts
    simp [jvm, XF.here.top]
    rw [hT]
    exact hrest
  generalize hF : ma_f (T.setVm vm₁) cA cy n.toNatClampNeg k.toNatClampNeg (defaultValue ty) n.toNatClampNeg = F at XF f1 f2 hold hrow hfin
  rw [hTh] at f1 f2 hold hrow
  have hrow : ∀ j : Nat, j < n.toNatClampNeg → F.heap[H.size + 1 + j]? = some (vp_cell cy z) := fun j hj => by rw [hrow j hj, hz]
  rw [show ma_o cA n.toNatClampNeg H.size n.toNatClampNeg = vp_cell cA (n.toNatClampNeg, .inr (.inr (.inr (.inr (fun i => if i < n.toNatClampNeg then some (H.size + 1 + i) else none))))) from by rw [vp_cell_q]; rfl] at f2
  have hP0 : va_P D cl ws F.heap := hP.kept (fun k9 x hx => hold x.1 ((hP k9 x hx).lt))
  have hP1 : va_P D cl (ws ++ [(H.size, .inl (cA, n.toNatClampNeg, .inr (.inr (.inr (.inr (fun i => if i < n.toNatClampNeg then some (H.size + 1 + i) else none))))))]) F.heap := hP0.app (fun k9 x hx => by
    have h0 : k9 < 1 := (List.getElem?_eq_some_iff.mp hx).1
    rw [show k9 = 0 by omega] at hx
    cases hx
    exact f2)
  have hP2 : va_P D cl ((ws ++ [(H.size, .inl (cA, n.toNatClampNeg, .inr (.inr (.inr (.inr (fun i => if i < n.toNatClampNeg then some (H.size + 1 + i) else none))))))]) ++ (List.range n.toNatClampNeg).map (fun i => (H.size + 1 + i, .inl (cy, z)))) F.heap := hP1.app (fun k9 x hx => by
    obtain ⟨i, hi, rfl⟩ := List.mem_map.mp (List.mem_of_getElem? hx)
    exact hrow i (List.mem_range.mp hi))
  have hD2 : va_D A ((ws ++ [(H.size, .inl (cA, n.toNatClampNeg, .inr (.inr (.inr (.inr (fun i => if i < n.toNatClampNeg then some (H.size + 1 + i) else none))))))]) ++ (List.range n.toNatClampNeg).map (fun i => (H.size + 1 + i, .inl (cy, z)))) := by
    have hD1 := hD.push (e := .inl (cA, n.toNatClampNeg, .inr (.inr (.inr (.inr (fun i => if i < n.toNatClampNeg then some (H.size + 1 + i) else none)))))) hP rfl (hA _ hS.1)
    generalize hW1 : ws ++ [(H.size, .inl (cA, n.toNatClampNeg, .inr (.inr (.inr (.inr (fun i => if i < n.toNatClampNeg then some (H.size + 1 + i) else none))))))] = W1 at hD1 hP1 ⊢
    have hle : ∀ (k9 : Nat) (x : Nat × va_E), W1[k9]? = some x → x.1 ≤ H.size := fun k9 x hx => by
      rw [← hW1] at hx
      by_cases hl : k9 < ws.length
      · rw [List.getElem?_append_left hl] at hx
        exact Nat.le_of_lt ((hP k9 x hx).lt)
      · rw [List.getElem?_append_right (by omega)] at hx
        have h0 : k9 - ws.length < 1 := (List.getElem?_eq_some_iff.mp hx).1
        rw [show k9 - ws.length = 0 by omega] at hx
        cases hx
        exact Nat.le_refl _
    have hr : ∀ (k9 : Nat) (x : Nat × va_E), ((List.range n.toNatClampNeg).map (fun i => ((H.size + 1 + i, .inl (cy, z)) : Nat × va_E)))[k9]? = some x → x.1 = H.size + 1 + k9 := fun k9 x hx => by
      rw [List.getElem?_map] at hx
      by_cases h9 : k9 < n.toNatClampNeg
      · rw [List.getElem?_range h9] at hx
        cases hx
        rfl
      · have hn0 : (List.range n.toNatClampNeg)[k9]? = none := List.getElem?_eq_none (by rw [List.length_range]; omega)
        rw [hn0] at hx
        cases hx
    refine ⟨fun i j x y hi hj hxy => ?_, fun k9 x hx => ?_⟩
    · by_cases h1 : i < W1.length <;> by_cases h2 : j < W1.length
      · rw [List.getElem?_append_left h1] at hi
        rw [List.getElem?_append_left h2] at hj
        exact hD1.1 i j x y hi hj hxy
      · rw [List.getElem?_append_left h1] at hi
        rw [List.getElem?_append_right (by omega)] at hj
        have := hle _ _ hi
        have := hr _ _ hj
        omega
      · rw [List.getElem?_append_right (by omega)] at hi
        rw [List.getElem?_append_left h2] at hj
        have := hle _ _ hj
        have := hr _ _ hi
        omega
      · rw [List.getElem?_append_right (by omega)] at hi hj
        have := hr _ _ hi
        have := hr _ _ hj
        omega
    · by_cases h1 : k9 < W1.length
      · rw [List.getElem?_append_left h1] at hx
        exact hD1.2 k9 x hx
      · rw [List.getElem?_append_right (by omega)] at hx
        have := hr _ _ hx
        exact hA _ (by have := hS.1; omega)
  have hAr : ArrOfT s cA (.array ty) := fun N9 z9 => by
    exact ⟨(fun q hq => by cases hq), kA, hkA, cy, hkindA⟩
  have hK2 : va_K D cl (tys ++ [(cA, .array ty)]) s := ⟨hK.1, fun k9 x hx => by
    by_cases hl : k9 < tys.length
    · rw [List.getElem?_append_left hl] at hx
      exact hK.2 k9 x hx
    · rw [List.getElem?_append_right (by omega)] at hx
      have h0 : k9 - tys.length < 1 := (List.getElem?_eq_some_iff.mp hx).1
      rw [show k9 - tys.length = 0 by omega] at hx
      cases hx
      exact ⟨hAr, fA⟩⟩
  obtain ⟨t, a1, b1⟩ := kk H.size (fun i => H.size + 1 + i) cA F.heap hK2 (by rw [List.append_cons]; exact hP2) (by rw [List.append_cons]; exact hD2) ⟨by rw [f1]; have := hS.1; omega, fun x h1 h2 => (hold x (Nat.lt_of_lt_of_le h1 hS.1)).trans (hS.2.1 x h1 h2), hS.2.2⟩ F rfl XF
  exact ⟨t, hfin t a1, b1⟩
end MNA
