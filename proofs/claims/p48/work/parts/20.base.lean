def nwF : List (String × Nat × String × String × String × String) := [("PartyWill$Reader", 34, "PartyWill$Party", "size", "I", "PartyWill"), ("PartyWill$Programmes", 61, "PartyWill$Party", "size", "I", "PartyWill"), ("PartyWill", 111, "PartyWill$Party", "size", "I", "PartyWill"), ("PartyWill$Reader", 59, "PartyWill$Party", "clause", "I", "PartyWill"), ("PartyWill", 257, "PartyWill$Party", "clause", "I", "PartyWill"), ("PartyWill$Reader", 68, "PartyWill$Party", "effects", "[I", "PartyWill"), ("PartyWill$Reader", 76, "PartyWill$Party", "kinds", "[I", "PartyWill"), ("PartyWill", 120, "PartyWill$Party", "kinds", "[I", "PartyWill"), ("PartyWill$Reader", 79, "PartyWill$Party", "griefsAtFirst", "[I", "PartyWill"), ("PartyWill$Reader", 82, "PartyWill$Party", "sights", "[I", "PartyWill"), ("PartyWill", 304, "PartyWill$Party", "sights", "[I", "PartyWill"), ("PartyWill$Reader", 85, "PartyWill$Party", "seers", "[I", "PartyWill"), ("PartyWill", 71, "PartyWill$Course", "deeds", "I", "PartyWill"), ("PartyWill", 127, "PartyWill$Course", "now", "J", "PartyWill")]
def nwM : List (String × Nat × MethodName × String) := [("PartyWill", 28, ⟨"PartyWill$Reader", "<init>", "()V"⟩, "PartyWill"), ("PartyWill", 35, ⟨"PartyWill$Party", "<init>", "()V"⟩, "PartyWill"), ("PartyWill", 45, ⟨"PartyWill$Course", "<init>", "()V"⟩, "PartyWill"), ("PartyWill", 175, ⟨"PartyWill$Hall", "griefOf", "(JI)I"⟩, "PartyWill"), ("PartyWill", 130, ⟨"PartyWill$Hall", "isIn", "(JI)Z"⟩, "PartyWill"), ("PartyWill", 246, ⟨"PartyWill$Party", "watchers", "(JI)I"⟩, "PartyWill"), ("PartyWill$Party", 82, ⟨"PartyWill$Hall", "insiders", "(J)I"⟩, "PartyWill"), ("PartyWill", 158, ⟨"PartyWill$Hall", "insiders", "(J)I"⟩, "PartyWill"), ("PartyWill", 162, ⟨"PartyWill$Party", "afterTune", "(JI)J"⟩, "PartyWill"), ("PartyWill$Party", 60, ⟨"PartyWill$Hall", "isIn", "(JI)Z"⟩, "PartyWill"), ("PartyWill$Party", 64, ⟨"PartyWill$Hall", "griefOf", "(JI)I"⟩, "PartyWill"), ("PartyWill$Party", 72, ⟨"PartyWill$Hall", "withGrief", "(JII)J"⟩, "PartyWill"), ("PartyWill$Party", 90, ⟨"PartyWill$Hall", "without", "(JI)J"⟩, "PartyWill"), ("PartyWill", 166, ⟨"PartyWill$Course", "goOn", "(J)V"⟩, "PartyWill"), ("PartyWill", 172, ⟨"PartyWill$Party", "afterName", "(JI)J"⟩, "PartyWill"), ("PartyWill", 178, ⟨"PartyWill$Party", "afterIce", "(JI)J"⟩, "PartyWill"), ("PartyWill", 181, ⟨"PartyWill$Course", "goBackTo", "(I)V"⟩, "PartyWill"), ("PartyWill", 188, ⟨"PartyWill$Course", "takeAll", "(LPartyWill$Course;)V"⟩, "PartyWill"), ("PartyWill", 192, ⟨"PartyWill$Hall", "griefOfAll", "(J)I"⟩, "PartyWill"), ("PartyWill", 201, ⟨"PartyWill$Programmes", "stayingBehind", "(LPartyWill$Party;JII)J"⟩, "PartyWill"), ("PartyWill$Programmes", 15, ⟨"PartyWill$Party", "afterTune", "(JI)J"⟩, "PartyWill"), ("PartyWill$Programmes", 21, ⟨"PartyWill$Hall", "insiders", "(J)I"⟩, "PartyWill"), ("PartyWill", 207, ⟨"PartyWill$Hall", "howManyIn", "(J)I"⟩, "PartyWill"), ("PartyWill", 210, ⟨"PartyWill$Programmes", "firstLeaving", "(LPartyWill$Party;JIII)I"⟩, "PartyWill"), ("PartyWill$Programmes", 31, ⟨"PartyWill$Hall", "howManyIn", "(J)I"⟩, "PartyWill"), ("PartyWill", 218, ⟨"PartyWill$Programmes", "mostLeft", "(LPartyWill$Party;JI)I"⟩, "PartyWill"), ("PartyWill", 222, ⟨"PartyWill$Programmes", "canCheerAll", "(LPartyWill$Party;JI)Z"⟩, "PartyWill"), ("PartyWill$Programmes", 51, ⟨"PartyWill$Hall", "griefOfAll", "(J)I"⟩, "PartyWill"), ("PartyWill", 307, ⟨"PartyWill$Party", "canFall", "(II)Z"⟩, "PartyWill"), ("PartyWill", 310, ⟨"PartyWill$Party", "bounded", "(I)I"⟩, "PartyWill"), ("PartyWill", 313, ⟨"PartyWill$Party", "keepsTheClause", "(II[II)Z"⟩, "PartyWill"), ("PartyWill", 229, ⟨"PartyWill$Programmes", "leftAtBandsTurn", "(LPartyWill$Party;JI)I"⟩, "PartyWill"), ("PartyWill$Programmes", 65, ⟨"PartyWill$Hall", "isIn", "(JI)Z"⟩, "PartyWill"), ("PartyWill$Programmes", 69, ⟨"PartyWill$Party", "afterName", "(JI)J"⟩, "PartyWill"), ("PartyWill", 235, ⟨"PartyWill$Party", "wentSo", "(II[II)Z"⟩, "PartyWill"), ("PartyWill", 242, ⟨"PartyWill$Party", "griefBehind", "(IIII)I"⟩, "PartyWill"), ("PartyWill", 260, ⟨"PartyWill$Programmes", "staying", "(LPartyWill$Party;JI)J"⟩, "PartyWill"), ("PartyWill", 268, ⟨"PartyWill$Programmes", "leftByAll", "(LPartyWill$Party;JI)J"⟩, "PartyWill"), ("PartyWill", 279, ⟨"PartyWill$Party", "howManyAre", "(I)I"⟩, "PartyWill"), ("PartyWill$Party", 94, ⟨"PartyWill", "isOfKind", "(II)Z"⟩, "PartyWill"), ("PartyWill", 99, ⟨"PartyWill$Reader", "faultOf", "([BILPartyWill$Party;)I"⟩, "PartyWill"), ("PartyWill$Reader", 25, ⟨"PartyWill$Party", "clear", "()V"⟩, "PartyWill"), ("PartyWill$Reader", 65, ⟨"PartyWill", "isTune", "(I)Z"⟩, "PartyWill"), ("PartyWill", 103, ⟨"PartyWill$Party", "arrival", "()J"⟩, "PartyWill"), ("PartyWill$Party", 34, ⟨"PartyWill$Hall", "withNew", "(JII)J"⟩, "PartyWill"), ("PartyWill", 107, ⟨"PartyWill$Course", "begin", "(J)V"⟩, "PartyWill")]
def NW (U : State) : Prop := (∀ q ∈ nwF, va_Nw (.fieldLinkNest q.1 q.2.1 q.2.2.1 q.2.2.2.1 q.2.2.2.2.1 q.2.2.2.2.2) U) ∧ (∀ q ∈ nwM, va_Nw (.methodLinkNest q.1 q.2.1 q.2.2.1 q.2.2.2) U)
theorem NW.warm {s U : State} (hW : s.WarmedH U.vm) (h : NW s) : NW U := ⟨fun q hq => va_Nw.warmF hW (h.1 q hq), fun q hq => va_Nw.warmM hW (h.2 q hq)⟩
theorem NW.same {u U : State} (hv : u.vm = U.vm) (h : NW u) : NW U := ⟨fun q hq => va_Nw.same rfl hv (h.1 q hq), fun q hq => va_Nw.same rfl hv (h.2 q hq)⟩
def tysT (T : Nat → ClassId) : List (ClassId × FieldType) := [(T 0, .int), (T 1, .byte), (T 2, .long), (T 3, .int), (T 4, .array .int), (T 5, .array .byte), (T 6, .object RX0)]
def KK (D : va_G) (T : Nat → ClassId) (U : State) : Prop := va_K D vwCl (tysT T) U ∧ NW U
theorem KK.warm {D : va_G} {T : Nat → ClassId} {s U : State} (hW : s.WarmedH U.vm) (h : KK D T s) : KK D T U := ⟨va_K.moved hW.alike h.1, h.2.warm hW⟩
theorem KK.call {D : va_G} {T : Nat → ClassId} {U : State} {g : JFrame} {mk : MethodId} {a : Array Value} (h : KK D T U) : KK D T (U.calling g mk a) := ⟨va_K.moved (u := U) (U := U.calling g mk a) (Vm.Alike.refl U.vm) h.1, h.2.same rfl⟩
def b01 (r : Int32) : Prop := r = 0 ∨ r = 1
theorem b01_n {r : Int32} (h : b01 r) : narrow .boolean (.int r) = .int r := by
  rcases h with h | h <;> subst h <;> rfl
theorem vp_lt {i : Int32} {n : Nat} (h : ¬ (i < 0 ∨ n ≤ i.toNatClampNeg)) : i.toNatClampNeg < n := Nat.not_le.mp fun q => h (Or.inr q)
theorem va_nil {D : va_G} {H : Heap} : va_P D vwCl ([] : va_W) H := fun k q h => by simp at h
theorem my_entry {m : MethodId} {args : Array Value} {vs : List Value} {n : Nat} (ha : args = vs.toArray) (h : (lg_sl vs).length ≤ n) : ∃ ls : Array Slot, lv_has ls n (lv_args 0 vs) ∧ entryFrame m args n = F0 m 0 ls [] :=
  ⟨_, lv_entry vs h, by rw [ha]; exact lg_entry_eq m vs n⟩
theorem preS_ro {D : va_G} {T : Nat → ClassId} {s : State} {H : Heap} {ws : va_W} {As : List Value} (hP : va_P D vwCl ws H) (hK : KK D T s) : PreS s H (va_Pc As (fun U => va_P D vwCl ws U.heap ∧ KK D T U)) As :=
  ⟨fun _ _ _ _ q => ⟨q.1, q.2.1, q.2.2.call⟩, fun U hU hW => ⟨rfl, by rw [hU]; exact hP, hK.warm hW⟩⟩
theorem preV_ro {D : va_G} {T : Nat → ClassId} {s : State} {H : Heap} {ws : va_W} {C : String} {b : Addr} {As : List Value} (hP : va_P D vwCl ws H) (hK : KK D T s) (hr : ∃ cellB : Cell, H[b]? = some cellB ∧ cellB.vm.isStatics = false ∧ s.vm.findClass C = some cellB.cls) : PreV s H C b (va_Pc (.ref b :: As) (fun U => va_P D vwCl ws U.heap ∧ KK D T U)) As :=
  ⟨fun _ _ _ _ q => ⟨q.1, q.2.1, q.2.2.call⟩, hr, fun U hU hW => ⟨rfl, by rw [hU]; exact hP, hK.warm hW⟩⟩
theorem preS_rw {D : va_G} {T : Nat → ClassId} {s : State} {H : Heap} {ws : va_W} {As : List Value} {A : Nat → Prop} (hP : va_P D vwCl ws H) (hK : KK D T s) (hD : va_D A ws) : PreS s H (va_Pc As (fun U => U.heap.size = H.size ∧ va_P D vwCl ws U.heap ∧ KK D T U ∧ va_D (fun _ => True) ws)) As :=
  ⟨fun _ _ _ _ q => ⟨q.1, q.2.1, q.2.2.1, q.2.2.2.1.call, q.2.2.2.2⟩, fun U hU hW => ⟨rfl, by rw [hU], by rw [hU]; exact hP, hK.warm hW, hD.weaken (fun _ _ _ _ => trivial)⟩⟩
theorem preV_rw {D : va_G} {T : Nat → ClassId} {s : State} {H : Heap} {ws : va_W} {C : String} {b : Addr} {As : List Value} {A : Nat → Prop} (hP : va_P D vwCl ws H) (hK : KK D T s) (hD : va_D A ws) (hr : ∃ cellB : Cell, H[b]? = some cellB ∧ cellB.vm.isStatics = false ∧ s.vm.findClass C = some cellB.cls) : PreV s H C b (va_Pc (.ref b :: As) (fun U => U.heap.size = H.size ∧ va_P D vwCl ws U.heap ∧ KK D T U ∧ va_D (fun _ => True) ws)) As :=
  ⟨fun _ _ _ _ q => ⟨q.1, q.2.1, q.2.2.1, q.2.2.2.1.call, q.2.2.2.2⟩, hr, fun U hU hW => ⟨rfl, by rw [hU], by rw [hU]; exact hP, hK.warm hW, hD.weaken (fun _ _ _ _ => trivial)⟩⟩
theorem my_freeS {A0 : Nat → Prop} {ws : va_W} {H0 H : Heap} {locs : List Loc} (hD : va_D A0 ws) (hS : va_S A0 H0 H locs) (hA : ∀ q, H0.size ≤ q → A0 q) : ∀ q, va_A ws H.size q → A0 q := by
  intro q h
  rcases h with ⟨k, e, h⟩ | h
  · exact hD.2 k (q, e) h
  · exact hA q (Nat.le_trans hS.1 h)
theorem my_at {is : List Nat} {ws w : va_W} (hs : is.map (fun i => ws[i]?) = w.map some) : ∀ (k : Nat) (q : Nat × va_E), w[k]? = some q → ∃ i, is[k]? = some i ∧ ws[i]? = some q := by
  intro k q hq
  have h1 : (is.map (fun i => ws[i]?))[k]? = some (some q) := by rw [hs, List.getElem?_map, hq]; rfl
  rw [List.getElem?_map] at h1
  cases hi : is[k]? with
  | none => rw [hi] at h1; cases h1
  | some i => rw [hi] at h1; exact ⟨i, rfl, Option.some.inj h1⟩
theorem my_subP {D : va_G} {is : List Nat} {ws wc : va_W} {H : Heap} (hs : is.map (fun i => ws[i]?) = wc.map some) (hP : va_P D vwCl ws H) : va_P D vwCl wc H := by
  intro k q hq
  obtain ⟨i, -, h⟩ := my_at hs k q hq
  exact hP i q h
/-- the cells of w at the places is of ws -/
def my_sets : List Nat → va_W → va_W → va_W
  | i :: is, q :: w, ws => my_sets is w (ws.set i q)
  | _, _, ws => ws
theorem my_sets_out : ∀ (is : List Nat) (w ws : va_W) (i : Nat), i ∉ is → (my_sets is w ws)[i]? = ws[i]?
  | [], w, ws, i, _ => by cases w <;> rfl
  | j :: is, [], ws, i, _ => rfl
  | j :: is, q :: w, ws, i, h => by
    show (my_sets is w (ws.set j q))[i]? = ws[i]?
    rw [my_sets_out is w _ i (fun z => h (List.mem_cons_of_mem _ z)), List.getElem?_set_ne (fun z : j = i => h (by rw [← z]; exact List.mem_cons_self))]
theorem my_sets_in : ∀ (is : List Nat) (w ws : va_W), va_nd is = true → is.length = w.length → (∀ i ∈ is, i < ws.length) → ∀ (k i : Nat) (q : Nat × va_E), is[k]? = some i → w[k]? = some q → (my_sets is w ws)[i]? = some q
  | [], w, ws, _, _, _, k, i, q, h, _ => by simp at h
  | j :: is, [], ws, _, hl, _, k, i, q, _, _ => by simp at hl
  | j :: is, x :: w, ws, hn, hl, hb, k, i, q, h1, h2 => by
    simp only [va_nd, Bool.and_eq_true, decide_eq_true_eq] at hn
    show (my_sets is w (ws.set j x))[i]? = some q
    cases k with
    | zero =>
      rw [List.getElem?_cons_zero] at h1 h2
      cases h1; cases h2
      rw [my_sets_out is w _ _ hn.1, List.getElem?_set_self (hb _ List.mem_cons_self)]
    | succ k =>
      rw [List.getElem?_cons_succ] at h1 h2
      exact my_sets_in is w (ws.set j x) hn.2 (by simpa using hl) (fun i hi => by rw [List.length_set]; exact hb i (List.mem_cons_of_mem _ hi)) k i q h1 h2
theorem my_joinS {A0 : Nat → Prop} {D : va_G} {is : List Nat} {ws wc w1 : va_W} {H H1 : Heap} (hP : va_P D vwCl ws H) (hD : va_D A0 ws) (hn : va_nd is = true) (hs : is.map (fun i => ws[i]?) = wc.map some) (hl : w1.length = wc.length)
    (hk : ∀ q : Nat, q < H.size → ¬ va_A wc H.size q → H1[q]? = H[q]?) (hF : ∀ q, va_A wc H.size q → A0 q) (hP1 : va_P D vwCl w1 H1) (hD1 : va_D (va_A wc H.size) w1) : va_P D vwCl (my_sets is w1 ws) H1 ∧ va_D A0 (my_sets is w1 ws) := by
  have hlen : is.length = w1.length := by
    have h0 := congrArg List.length hs
    rw [List.length_map, List.length_map] at h0
    omega
  have hb : ∀ i ∈ is, i < ws.length := by
    intro i hi
    obtain ⟨k, hk2⟩ := List.getElem?_of_mem hi
    have hk3 : k < wc.length := by
      have := (List.getElem?_eq_some_iff.mp hk2).1
      omega
    obtain ⟨i', h1, h2⟩ := my_at hs k _ (List.getElem?_eq_getElem hk3)
    rw [hk2] at h1
    cases h1
    exact (List.getElem?_eq_some_iff.mp h2).1
  -- each place: in, with the callee's cell; or out, as it was
  have key : ∀ (i : Nat) (q : Nat × va_E), (my_sets is w1 ws)[i]? = some q → (∃ k : Nat, is[k]? = some i ∧ w1[k]? = some q) ∨ (i ∉ is ∧ ws[i]? = some q) := by
    intro i q h
    by_cases hi : i ∈ is
    · obtain ⟨k, hk2⟩ := List.getElem?_of_mem hi
      have hk3 : k < w1.length := by
        have := (List.getElem?_eq_some_iff.mp hk2).1
        omega
      have h2 := my_sets_in is w1 ws hn hlen hb k i _ hk2 (List.getElem?_eq_getElem hk3)
      rw [h] at h2
      cases h2
      exact Or.inl ⟨k, hk2, List.getElem?_eq_getElem hk3⟩
    · rw [my_sets_out is w1 ws i hi] at h
      exact Or.inr ⟨hi, h⟩
  have apart : ∀ (i : Nat) (q : Nat × va_E), i ∉ is → ws[i]? = some q → q.1 < H.size ∧ ¬ va_A wc H.size q.1 := by
    intro i q hi h
    have hl2 := (hP i q h).lt
    refine ⟨hl2, fun z => ?_⟩
    rcases z with ⟨k2, e, z⟩ | z
    · obtain ⟨j, h3, h4⟩ := my_at hs k2 (q.1, e) z
      have hij := hD.1 i j q (q.1, e) h h4 rfl
      subst hij
      exact hi (List.mem_of_getElem? h3)
    · omega
  refine ⟨fun i q h => ?_, fun i j x y hx hy hxy => ?_, fun i q h => ?_⟩
  · rcases key i q h with ⟨k, -, h2⟩ | ⟨hi, h2⟩
    · exact hP1 k q h2
    · obtain ⟨g1, g2⟩ := apart i q hi h2
      exact (hP i q h2).kept (hk q.1 g1 g2)
  · rcases key i x hx with ⟨k, a1, a2⟩ | ⟨hi, a2⟩ <;> rcases key j y hy with ⟨k', b1, b2⟩ | ⟨hj, b2⟩
    · have := hD1.1 k k' x y a2 b2 hxy
      subst this
      rw [a1] at b1
      exact Option.some.inj b1
    · exact absurd (hxy ▸ hD1.2 k x a2) (apart j y hj b2).2
    · exact absurd (hxy.symm ▸ hD1.2 k' y b2) (apart i x hi a2).2
    · exact hD.1 i j x y a2 b2 hxy
  · rcases key i q h with ⟨k, -, h2⟩ | ⟨hi, h2⟩
    · exact hF q.1 (hD1.2 k q h2)
    · exact hD.2 i q h2
section MY
variable {p : Program} {l : Launch} {e : Env} {R : Room} {s : State} {m : MethodId} {args : Array Value} {below : List Frame} {meth : Method} {c : Code} {H : Heap} {locs : List Loc} {cells slots : Nat} {Q : State → Prop}
variable {pc : Nat} {ls : Array Slot} {rest st0 : List Value} {a : Array Value} {A0 A1 : Nat → Prop} {H0 : Heap} {D : va_G} {w1 : va_W}
theorem my_roi {r : Int32} (hr : CallRun p l e R s m args below meth c H locs cells slots 0 0 (F0 m pc ls st0) rest (vp_Si (fun r' => r' = r) a) (fun _ => False)) (kk : W p l e R s m args below meth c H locs cells slots Q (F0 m (pc + 3) ls (.int r :: rest))) : W p l e R s m args below meth c H locs cells slots Q (F0 m pc ls st0) := vp_callSi hr (fun r' e => by subst e; exact kk)
theorem my_roz {r : Int32} (hr : CallRun p l e R s m args below meth c H locs cells slots 0 0 (F0 m pc ls st0) rest (vp_Si (fun r' => r' = r ∧ b01 r) a) (fun _ => False)) (kk : b01 r → W p l e R s m args below meth c H locs cells slots Q (F0 m (pc + 3) ls (.int r :: rest))) : W p l e R s m args below meth c H locs cells slots Q (F0 m pc ls st0) := vp_callSi hr (fun r' e => by obtain ⟨e, hb⟩ := e; subst e; exact kk hb)
theorem my_rol {r : Int64} (hr : CallRun p l e R s m args below meth c H locs cells slots 0 0 (F0 m pc ls st0) rest (vp_Sl (fun r' => r' = r) a) (fun _ => False)) (kk : W p l e R s m args below meth c H locs cells slots Q (F0 m (pc + 3) ls (.long r :: rest))) : W p l e R s m args below meth c H locs cells slots Q (F0 m pc ls st0) := vp_callSl hr (fun r' e => by subst e; exact kk)
theorem my_rwi {r : Int32} (hr : va_Run p l e R s m args below meth c H locs cells slots 0 0 (F0 m pc ls st0) rest (va_Qi (fun r' (_ : Unit) => r' = r) (fun _ t => va_P D vwCl w1 t.heap ∧ va_D A1 w1) A1 a) A1) (hS : va_S A0 H0 H locs) (hF : ∀ q, A1 q → A0 q)
    (kk : ∀ (H1 : Heap) (locs1 : List Loc), va_P D vwCl w1 H1 → va_D A1 w1 → H.size ≤ H1.size → (∀ q : Nat, q < H.size → ¬ A1 q → H1[q]? = H[q]?) → va_S A0 H0 H1 locs1 → W p l e R s m args below meth c H1 locs1 cells slots Q (F0 m (pc + 3) ls (.int r :: rest))) : W p l e R s m args below meth c H locs cells slots Q (F0 m pc ls st0) :=
  va_calli hr hS (fun q _ h => hF q h) hF (fun r' _ t H1 locs1 ht _ hp hb hz hk hS1 => by subst hp; subst ht; exact kk _ _ hb.1 hb.2 hz hk hS1)
theorem my_rwz {r : Int32} (hr : va_Run p l e R s m args below meth c H locs cells slots 0 0 (F0 m pc ls st0) rest (va_Qi (fun r' (_ : Unit) => r' = r ∧ b01 r) (fun _ t => va_P D vwCl w1 t.heap ∧ va_D A1 w1) A1 a) A1) (hS : va_S A0 H0 H locs) (hF : ∀ q, A1 q → A0 q)
    (kk : b01 r → ∀ (H1 : Heap) (locs1 : List Loc), va_P D vwCl w1 H1 → va_D A1 w1 → H.size ≤ H1.size → (∀ q : Nat, q < H.size → ¬ A1 q → H1[q]? = H[q]?) → va_S A0 H0 H1 locs1 → W p l e R s m args below meth c H1 locs1 cells slots Q (F0 m (pc + 3) ls (.int r :: rest))) : W p l e R s m args below meth c H locs cells slots Q (F0 m pc ls st0) :=
  va_calli hr hS (fun q _ h => hF q h) hF (fun r' _ t H1 locs1 ht _ hp hb hz hk hS1 => by obtain ⟨hp, hb1⟩ := hp; subst hp; subst ht; exact kk hb1 _ _ hb.1 hb.2 hz hk hS1)
theorem my_rwl {r : Int64} (hr : va_Run p l e R s m args below meth c H locs cells slots 0 0 (F0 m pc ls st0) rest (va_Ql (fun r' (_ : Unit) => r' = r) (fun _ t => va_P D vwCl w1 t.heap ∧ va_D A1 w1) A1 a) A1) (hS : va_S A0 H0 H locs) (hF : ∀ q, A1 q → A0 q)
    (kk : ∀ (H1 : Heap) (locs1 : List Loc), va_P D vwCl w1 H1 → va_D A1 w1 → H.size ≤ H1.size → (∀ q : Nat, q < H.size → ¬ A1 q → H1[q]? = H[q]?) → va_S A0 H0 H1 locs1 → W p l e R s m args below meth c H1 locs1 cells slots Q (F0 m (pc + 3) ls (.long r :: rest))) : W p l e R s m args below meth c H locs cells slots Q (F0 m pc ls st0) :=
  va_calll hr hS (fun q _ h => hF q h) hF (fun r' _ t H1 locs1 ht _ hp hb hz hk hS1 => by subst hp; subst ht; exact kk _ _ hb.1 hb.2 hz hk hS1)
theorem my_rwv (hr : va_Run p l e R s m args below meth c H locs cells slots 0 0 (F0 m pc ls st0) rest (va_Qv (fun _ : Unit => True) (fun _ t => va_P D vwCl w1 t.heap ∧ va_D A1 w1) A1 a) A1) (hS : va_S A0 H0 H locs) (hF : ∀ q, A1 q → A0 q)
    (kk : ∀ (H1 : Heap) (locs1 : List Loc), va_P D vwCl w1 H1 → va_D A1 w1 → H.size ≤ H1.size → (∀ q : Nat, q < H.size → ¬ A1 q → H1[q]? = H[q]?) → va_S A0 H0 H1 locs1 → W p l e R s m args below meth c H1 locs1 cells slots Q (F0 m (pc + 3) ls rest)) : W p l e R s m args below meth c H locs cells slots Q (F0 m pc ls st0) :=
  va_callv hr hS (fun q _ h => hF q h) hF (fun _ t H1 locs1 ht _ _ hb hz hk hS1 => by subst ht; exact kk _ _ hb.1 hb.2 hz hk hS1)
variable {cc : ByteArray} {ws : va_W} {b0 : Nat} {tys : List (ClassId × FieldType)}
theorem my_ald {ty : FieldType} (hty : ty.isReference = true) (hexec : p.tables.exec = Jvm.exec) (hb : c.code = cc) (hK : va_K D vwCl tys s) (hP : va_P D vwCl ws H) (q0 t0 : Nat) {cA : ClassId} {n : Nat} {f : Nat → Option Nat} (ha : ws[q0]? = some (b0, .inl (cA, n, .inr (.inr (.inr (.inr f)))))) (ht : tys[t0]? = some (cA, ty)) {i : Int32} (hin : vp_in i n) {b : Nat} (hv : i.toNatClampNeg < n → f i.toNatClampNeg = some b) (hdg : decode cc pc = .ok (.aaload, 1))
    (kk : W p l e R s m args below meth c H locs cells slots Q (F0 m (pc + 1) ls (.ref b :: rest))) : W p l e R s m args below meth c H locs cells slots Q (F0 m pc ls (.int i :: .ref b0 :: rest)) := by
  have hlt : i.toNatClampNeg < n := Nat.not_le.mp fun q => hin (Or.inr q)
  exact W.aald (v := .ref b) hexec hb (hP q0 _ ha) ((hK.2 t0 _ ht).1 n (fun j => va_rf (f j))) hty (fun q => by cases q) (by show ¬ (i < 0 ∨ (arrV _ _ _).slots.size ≤ _); rw [arrV_size]; exact hin) (by show (arrV _ _ _).slots[_]? = _; rw [arrV_read _ _ hlt, hv hlt]; rfl) rfl rfl hdg kk
end MY

theorem nw_X4_34 {U : State} (h : NW U) : va_Nw (.fieldLinkNest "PartyWill$Reader" 34 "PartyWill$Party" "size" "I" "PartyWill") U := h.1 ("PartyWill$Reader", 34, "PartyWill$Party", "size", "I", "PartyWill") (List.mem_of_getElem? (i := 0) rfl)
theorem nw_X3_61 {U : State} (h : NW U) : va_Nw (.fieldLinkNest "PartyWill$Programmes" 61 "PartyWill$Party" "size" "I" "PartyWill") U := h.1 ("PartyWill$Programmes", 61, "PartyWill$Party", "size", "I", "PartyWill") (List.mem_of_getElem? (i := 1) rfl)
theorem nw_X5_111 {U : State} (h : NW U) : va_Nw (.fieldLinkNest "PartyWill" 111 "PartyWill$Party" "size" "I" "PartyWill") U := h.1 ("PartyWill", 111, "PartyWill$Party", "size", "I", "PartyWill") (List.mem_of_getElem? (i := 2) rfl)
theorem nw_X4_59 {U : State} (h : NW U) : va_Nw (.fieldLinkNest "PartyWill$Reader" 59 "PartyWill$Party" "clause" "I" "PartyWill") U := h.1 ("PartyWill$Reader", 59, "PartyWill$Party", "clause", "I", "PartyWill") (List.mem_of_getElem? (i := 3) rfl)
theorem nw_X5_257 {U : State} (h : NW U) : va_Nw (.fieldLinkNest "PartyWill" 257 "PartyWill$Party" "clause" "I" "PartyWill") U := h.1 ("PartyWill", 257, "PartyWill$Party", "clause", "I", "PartyWill") (List.mem_of_getElem? (i := 4) rfl)
theorem nw_X4_68 {U : State} (h : NW U) : va_Nw (.fieldLinkNest "PartyWill$Reader" 68 "PartyWill$Party" "effects" "[I" "PartyWill") U := h.1 ("PartyWill$Reader", 68, "PartyWill$Party", "effects", "[I", "PartyWill") (List.mem_of_getElem? (i := 5) rfl)
theorem nw_X4_76 {U : State} (h : NW U) : va_Nw (.fieldLinkNest "PartyWill$Reader" 76 "PartyWill$Party" "kinds" "[I" "PartyWill") U := h.1 ("PartyWill$Reader", 76, "PartyWill$Party", "kinds", "[I", "PartyWill") (List.mem_of_getElem? (i := 6) rfl)
theorem nw_X5_120 {U : State} (h : NW U) : va_Nw (.fieldLinkNest "PartyWill" 120 "PartyWill$Party" "kinds" "[I" "PartyWill") U := h.1 ("PartyWill", 120, "PartyWill$Party", "kinds", "[I", "PartyWill") (List.mem_of_getElem? (i := 7) rfl)
theorem nw_X4_79 {U : State} (h : NW U) : va_Nw (.fieldLinkNest "PartyWill$Reader" 79 "PartyWill$Party" "griefsAtFirst" "[I" "PartyWill") U := h.1 ("PartyWill$Reader", 79, "PartyWill$Party", "griefsAtFirst", "[I", "PartyWill") (List.mem_of_getElem? (i := 8) rfl)
theorem nw_X4_82 {U : State} (h : NW U) : va_Nw (.fieldLinkNest "PartyWill$Reader" 82 "PartyWill$Party" "sights" "[I" "PartyWill") U := h.1 ("PartyWill$Reader", 82, "PartyWill$Party", "sights", "[I", "PartyWill") (List.mem_of_getElem? (i := 9) rfl)
theorem nw_X5_304 {U : State} (h : NW U) : va_Nw (.fieldLinkNest "PartyWill" 304 "PartyWill$Party" "sights" "[I" "PartyWill") U := h.1 ("PartyWill", 304, "PartyWill$Party", "sights", "[I", "PartyWill") (List.mem_of_getElem? (i := 10) rfl)
theorem nw_X4_85 {U : State} (h : NW U) : va_Nw (.fieldLinkNest "PartyWill$Reader" 85 "PartyWill$Party" "seers" "[I" "PartyWill") U := h.1 ("PartyWill$Reader", 85, "PartyWill$Party", "seers", "[I", "PartyWill") (List.mem_of_getElem? (i := 11) rfl)
theorem nw_X5_71 {U : State} (h : NW U) : va_Nw (.fieldLinkNest "PartyWill" 71 "PartyWill$Course" "deeds" "I" "PartyWill") U := h.1 ("PartyWill", 71, "PartyWill$Course", "deeds", "I", "PartyWill") (List.mem_of_getElem? (i := 12) rfl)
theorem nw_X5_127 {U : State} (h : NW U) : va_Nw (.fieldLinkNest "PartyWill" 127 "PartyWill$Course" "now" "J" "PartyWill") U := h.1 ("PartyWill", 127, "PartyWill$Course", "now", "J", "PartyWill") (List.mem_of_getElem? (i := 13) rfl)
theorem nw_X5_28 {U : State} (h : NW U) : va_Nw (.methodLinkNest "PartyWill" 28 yX4_init "PartyWill") U := h.2 ("PartyWill", 28, ⟨"PartyWill$Reader", "<init>", "()V"⟩, "PartyWill") (List.mem_of_getElem? (i := 0) rfl)
theorem nw_X5_35 {U : State} (h : NW U) : va_Nw (.methodLinkNest "PartyWill" 35 yX2_init "PartyWill") U := h.2 ("PartyWill", 35, ⟨"PartyWill$Party", "<init>", "()V"⟩, "PartyWill") (List.mem_of_getElem? (i := 1) rfl)
theorem nw_X5_45 {U : State} (h : NW U) : va_Nw (.methodLinkNest "PartyWill" 45 yX0_init "PartyWill") U := h.2 ("PartyWill", 45, ⟨"PartyWill$Course", "<init>", "()V"⟩, "PartyWill") (List.mem_of_getElem? (i := 2) rfl)
theorem nw_X5_175 {U : State} (h : NW U) : va_Nw (.methodLinkNest "PartyWill" 175 yX1_griefOf "PartyWill") U := h.2 ("PartyWill", 175, ⟨"PartyWill$Hall", "griefOf", "(JI)I"⟩, "PartyWill") (List.mem_of_getElem? (i := 3) rfl)
theorem nw_X5_130 {U : State} (h : NW U) : va_Nw (.methodLinkNest "PartyWill" 130 yX1_isIn "PartyWill") U := h.2 ("PartyWill", 130, ⟨"PartyWill$Hall", "isIn", "(JI)Z"⟩, "PartyWill") (List.mem_of_getElem? (i := 4) rfl)
theorem nw_X5_246 {U : State} (h : NW U) : va_Nw (.methodLinkNest "PartyWill" 246 yX2_watchers "PartyWill") U := h.2 ("PartyWill", 246, ⟨"PartyWill$Party", "watchers", "(JI)I"⟩, "PartyWill") (List.mem_of_getElem? (i := 5) rfl)
theorem nw_X2_82 {U : State} (h : NW U) : va_Nw (.methodLinkNest "PartyWill$Party" 82 yX1_insiders "PartyWill") U := h.2 ("PartyWill$Party", 82, ⟨"PartyWill$Hall", "insiders", "(J)I"⟩, "PartyWill") (List.mem_of_getElem? (i := 6) rfl)
theorem nw_X5_158 {U : State} (h : NW U) : va_Nw (.methodLinkNest "PartyWill" 158 yX1_insiders "PartyWill") U := h.2 ("PartyWill", 158, ⟨"PartyWill$Hall", "insiders", "(J)I"⟩, "PartyWill") (List.mem_of_getElem? (i := 7) rfl)
theorem nw_X5_162 {U : State} (h : NW U) : va_Nw (.methodLinkNest "PartyWill" 162 yX2_afterTune "PartyWill") U := h.2 ("PartyWill", 162, ⟨"PartyWill$Party", "afterTune", "(JI)J"⟩, "PartyWill") (List.mem_of_getElem? (i := 8) rfl)
theorem nw_X2_60 {U : State} (h : NW U) : va_Nw (.methodLinkNest "PartyWill$Party" 60 yX1_isIn "PartyWill") U := h.2 ("PartyWill$Party", 60, ⟨"PartyWill$Hall", "isIn", "(JI)Z"⟩, "PartyWill") (List.mem_of_getElem? (i := 9) rfl)
theorem nw_X2_64 {U : State} (h : NW U) : va_Nw (.methodLinkNest "PartyWill$Party" 64 yX1_griefOf "PartyWill") U := h.2 ("PartyWill$Party", 64, ⟨"PartyWill$Hall", "griefOf", "(JI)I"⟩, "PartyWill") (List.mem_of_getElem? (i := 10) rfl)
theorem nw_X2_72 {U : State} (h : NW U) : va_Nw (.methodLinkNest "PartyWill$Party" 72 yX1_withGrief "PartyWill") U := h.2 ("PartyWill$Party", 72, ⟨"PartyWill$Hall", "withGrief", "(JII)J"⟩, "PartyWill") (List.mem_of_getElem? (i := 11) rfl)
theorem nw_X2_90 {U : State} (h : NW U) : va_Nw (.methodLinkNest "PartyWill$Party" 90 yX1_without "PartyWill") U := h.2 ("PartyWill$Party", 90, ⟨"PartyWill$Hall", "without", "(JI)J"⟩, "PartyWill") (List.mem_of_getElem? (i := 12) rfl)
theorem nw_X5_166 {U : State} (h : NW U) : va_Nw (.methodLinkNest "PartyWill" 166 yX0_goOn "PartyWill") U := h.2 ("PartyWill", 166, ⟨"PartyWill$Course", "goOn", "(J)V"⟩, "PartyWill") (List.mem_of_getElem? (i := 13) rfl)
theorem nw_X5_172 {U : State} (h : NW U) : va_Nw (.methodLinkNest "PartyWill" 172 yX2_afterName "PartyWill") U := h.2 ("PartyWill", 172, ⟨"PartyWill$Party", "afterName", "(JI)J"⟩, "PartyWill") (List.mem_of_getElem? (i := 14) rfl)
theorem nw_X5_178 {U : State} (h : NW U) : va_Nw (.methodLinkNest "PartyWill" 178 yX2_afterIce "PartyWill") U := h.2 ("PartyWill", 178, ⟨"PartyWill$Party", "afterIce", "(JI)J"⟩, "PartyWill") (List.mem_of_getElem? (i := 15) rfl)
theorem nw_X5_181 {U : State} (h : NW U) : va_Nw (.methodLinkNest "PartyWill" 181 yX0_goBackTo "PartyWill") U := h.2 ("PartyWill", 181, ⟨"PartyWill$Course", "goBackTo", "(I)V"⟩, "PartyWill") (List.mem_of_getElem? (i := 16) rfl)
theorem nw_X5_188 {U : State} (h : NW U) : va_Nw (.methodLinkNest "PartyWill" 188 yX0_takeAll "PartyWill") U := h.2 ("PartyWill", 188, ⟨"PartyWill$Course", "takeAll", "(LPartyWill$Course;)V"⟩, "PartyWill") (List.mem_of_getElem? (i := 17) rfl)
theorem nw_X5_192 {U : State} (h : NW U) : va_Nw (.methodLinkNest "PartyWill" 192 yX1_griefOfAll "PartyWill") U := h.2 ("PartyWill", 192, ⟨"PartyWill$Hall", "griefOfAll", "(J)I"⟩, "PartyWill") (List.mem_of_getElem? (i := 18) rfl)
theorem nw_X5_201 {U : State} (h : NW U) : va_Nw (.methodLinkNest "PartyWill" 201 yX3_stayingBehind "PartyWill") U := h.2 ("PartyWill", 201, ⟨"PartyWill$Programmes", "stayingBehind", "(LPartyWill$Party;JII)J"⟩, "PartyWill") (List.mem_of_getElem? (i := 19) rfl)
theorem nw_X3_15 {U : State} (h : NW U) : va_Nw (.methodLinkNest "PartyWill$Programmes" 15 yX2_afterTune "PartyWill") U := h.2 ("PartyWill$Programmes", 15, ⟨"PartyWill$Party", "afterTune", "(JI)J"⟩, "PartyWill") (List.mem_of_getElem? (i := 20) rfl)
theorem nw_X3_21 {U : State} (h : NW U) : va_Nw (.methodLinkNest "PartyWill$Programmes" 21 yX1_insiders "PartyWill") U := h.2 ("PartyWill$Programmes", 21, ⟨"PartyWill$Hall", "insiders", "(J)I"⟩, "PartyWill") (List.mem_of_getElem? (i := 21) rfl)
theorem nw_X5_207 {U : State} (h : NW U) : va_Nw (.methodLinkNest "PartyWill" 207 yX1_howManyIn "PartyWill") U := h.2 ("PartyWill", 207, ⟨"PartyWill$Hall", "howManyIn", "(J)I"⟩, "PartyWill") (List.mem_of_getElem? (i := 22) rfl)
theorem nw_X5_210 {U : State} (h : NW U) : va_Nw (.methodLinkNest "PartyWill" 210 yX3_firstLeaving "PartyWill") U := h.2 ("PartyWill", 210, ⟨"PartyWill$Programmes", "firstLeaving", "(LPartyWill$Party;JIII)I"⟩, "PartyWill") (List.mem_of_getElem? (i := 23) rfl)
theorem nw_X3_31 {U : State} (h : NW U) : va_Nw (.methodLinkNest "PartyWill$Programmes" 31 yX1_howManyIn "PartyWill") U := h.2 ("PartyWill$Programmes", 31, ⟨"PartyWill$Hall", "howManyIn", "(J)I"⟩, "PartyWill") (List.mem_of_getElem? (i := 24) rfl)
theorem nw_X5_218 {U : State} (h : NW U) : va_Nw (.methodLinkNest "PartyWill" 218 yX3_mostLeft "PartyWill") U := h.2 ("PartyWill", 218, ⟨"PartyWill$Programmes", "mostLeft", "(LPartyWill$Party;JI)I"⟩, "PartyWill") (List.mem_of_getElem? (i := 25) rfl)
theorem nw_X5_222 {U : State} (h : NW U) : va_Nw (.methodLinkNest "PartyWill" 222 yX3_canCheerAll "PartyWill") U := h.2 ("PartyWill", 222, ⟨"PartyWill$Programmes", "canCheerAll", "(LPartyWill$Party;JI)Z"⟩, "PartyWill") (List.mem_of_getElem? (i := 26) rfl)
theorem nw_X3_51 {U : State} (h : NW U) : va_Nw (.methodLinkNest "PartyWill$Programmes" 51 yX1_griefOfAll "PartyWill") U := h.2 ("PartyWill$Programmes", 51, ⟨"PartyWill$Hall", "griefOfAll", "(J)I"⟩, "PartyWill") (List.mem_of_getElem? (i := 27) rfl)
theorem nw_X5_307 {U : State} (h : NW U) : va_Nw (.methodLinkNest "PartyWill" 307 yX2_canFall "PartyWill") U := h.2 ("PartyWill", 307, ⟨"PartyWill$Party", "canFall", "(II)Z"⟩, "PartyWill") (List.mem_of_getElem? (i := 28) rfl)
theorem nw_X5_310 {U : State} (h : NW U) : va_Nw (.methodLinkNest "PartyWill" 310 yX2_bounded "PartyWill") U := h.2 ("PartyWill", 310, ⟨"PartyWill$Party", "bounded", "(I)I"⟩, "PartyWill") (List.mem_of_getElem? (i := 29) rfl)
theorem nw_X5_313 {U : State} (h : NW U) : va_Nw (.methodLinkNest "PartyWill" 313 yX2_keepsTheClause "PartyWill") U := h.2 ("PartyWill", 313, ⟨"PartyWill$Party", "keepsTheClause", "(II[II)Z"⟩, "PartyWill") (List.mem_of_getElem? (i := 30) rfl)
theorem nw_X5_229 {U : State} (h : NW U) : va_Nw (.methodLinkNest "PartyWill" 229 yX3_leftAtBandsTurn "PartyWill") U := h.2 ("PartyWill", 229, ⟨"PartyWill$Programmes", "leftAtBandsTurn", "(LPartyWill$Party;JI)I"⟩, "PartyWill") (List.mem_of_getElem? (i := 31) rfl)
theorem nw_X3_65 {U : State} (h : NW U) : va_Nw (.methodLinkNest "PartyWill$Programmes" 65 yX1_isIn "PartyWill") U := h.2 ("PartyWill$Programmes", 65, ⟨"PartyWill$Hall", "isIn", "(JI)Z"⟩, "PartyWill") (List.mem_of_getElem? (i := 32) rfl)
theorem nw_X3_69 {U : State} (h : NW U) : va_Nw (.methodLinkNest "PartyWill$Programmes" 69 yX2_afterName "PartyWill") U := h.2 ("PartyWill$Programmes", 69, ⟨"PartyWill$Party", "afterName", "(JI)J"⟩, "PartyWill") (List.mem_of_getElem? (i := 33) rfl)
theorem nw_X5_235 {U : State} (h : NW U) : va_Nw (.methodLinkNest "PartyWill" 235 yX2_wentSo "PartyWill") U := h.2 ("PartyWill", 235, ⟨"PartyWill$Party", "wentSo", "(II[II)Z"⟩, "PartyWill") (List.mem_of_getElem? (i := 34) rfl)
theorem nw_X5_242 {U : State} (h : NW U) : va_Nw (.methodLinkNest "PartyWill" 242 yX2_griefBehind "PartyWill") U := h.2 ("PartyWill", 242, ⟨"PartyWill$Party", "griefBehind", "(IIII)I"⟩, "PartyWill") (List.mem_of_getElem? (i := 35) rfl)
theorem nw_X5_260 {U : State} (h : NW U) : va_Nw (.methodLinkNest "PartyWill" 260 yX3_staying "PartyWill") U := h.2 ("PartyWill", 260, ⟨"PartyWill$Programmes", "staying", "(LPartyWill$Party;JI)J"⟩, "PartyWill") (List.mem_of_getElem? (i := 36) rfl)
theorem nw_X5_268 {U : State} (h : NW U) : va_Nw (.methodLinkNest "PartyWill" 268 yX3_leftByAll "PartyWill") U := h.2 ("PartyWill", 268, ⟨"PartyWill$Programmes", "leftByAll", "(LPartyWill$Party;JI)J"⟩, "PartyWill") (List.mem_of_getElem? (i := 37) rfl)
theorem nw_X5_279 {U : State} (h : NW U) : va_Nw (.methodLinkNest "PartyWill" 279 yX2_howManyAre "PartyWill") U := h.2 ("PartyWill", 279, ⟨"PartyWill$Party", "howManyAre", "(I)I"⟩, "PartyWill") (List.mem_of_getElem? (i := 38) rfl)
theorem nw_X2_94 {U : State} (h : NW U) : va_Nw (.methodLinkNest "PartyWill$Party" 94 yX5_isOfKind "PartyWill") U := h.2 ("PartyWill$Party", 94, ⟨"PartyWill", "isOfKind", "(II)Z"⟩, "PartyWill") (List.mem_of_getElem? (i := 39) rfl)
theorem nw_X5_99 {U : State} (h : NW U) : va_Nw (.methodLinkNest "PartyWill" 99 yX4_faultOf "PartyWill") U := h.2 ("PartyWill", 99, ⟨"PartyWill$Reader", "faultOf", "([BILPartyWill$Party;)I"⟩, "PartyWill") (List.mem_of_getElem? (i := 40) rfl)
theorem nw_X4_25 {U : State} (h : NW U) : va_Nw (.methodLinkNest "PartyWill$Reader" 25 yX2_clear "PartyWill") U := h.2 ("PartyWill$Reader", 25, ⟨"PartyWill$Party", "clear", "()V"⟩, "PartyWill") (List.mem_of_getElem? (i := 41) rfl)
theorem nw_X4_65 {U : State} (h : NW U) : va_Nw (.methodLinkNest "PartyWill$Reader" 65 yX5_isTune "PartyWill") U := h.2 ("PartyWill$Reader", 65, ⟨"PartyWill", "isTune", "(I)Z"⟩, "PartyWill") (List.mem_of_getElem? (i := 42) rfl)
theorem nw_X5_103 {U : State} (h : NW U) : va_Nw (.methodLinkNest "PartyWill" 103 yX2_arrival "PartyWill") U := h.2 ("PartyWill", 103, ⟨"PartyWill$Party", "arrival", "()J"⟩, "PartyWill") (List.mem_of_getElem? (i := 43) rfl)
theorem nw_X2_34 {U : State} (h : NW U) : va_Nw (.methodLinkNest "PartyWill$Party" 34 yX1_withNew "PartyWill") U := h.2 ("PartyWill$Party", 34, ⟨"PartyWill$Hall", "withNew", "(JII)J"⟩, "PartyWill") (List.mem_of_getElem? (i := 44) rfl)
theorem nw_X5_107 {U : State} (h : NW U) : va_Nw (.methodLinkNest "PartyWill" 107 yX0_begin "PartyWill") U := h.2 ("PartyWill", 107, ⟨"PartyWill$Course", "begin", "(J)V"⟩, "PartyWill") (List.mem_of_getElem? (i := 45) rfl)
