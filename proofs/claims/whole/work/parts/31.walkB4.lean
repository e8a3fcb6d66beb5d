set_option maxHeartbeats 4000000 in
set_option maxRecDepth 100000 in
theorem kX4_kindByLetter (l : Launch) (D : va_G) (T : Nat → ClassId) (F : Nat) (x0 : Int32) (r : Int32) (h : fX4_kindByLetter F x0 = some (r)) : Met l yX4_kindByLetter wsX4_kindByLetter ({ frames := 0, cells := 0, slots := 0, locals := 0 } : Room) (va_Pc [.int x0] (fun U => va_P D vwCl ([] : va_W) U.heap ∧ KK D T U)) (vp_Si (fun r' => r' = r)) 0 0 (fun _ => False) := by
  refine Met.ofW (cc := cX4_kindByLetter) (maxL := 1) (ret := some .int) (by decide) rfl ?_
  intro p e s m args below meth c s₁ B hml hv
  obtain ⟨ha, hP, hKK⟩ := hv
  have hx := B.exec
  have hb := B.bytes
  have hr := B.returns
  have hts := atoms_spec (ws := wsX4_kindByLetter) B.pre
  have hown : s.vm.findClass RX4 = some m.cls := findClass_of_methodNamed B.named
  have hlocks := B.notSynchronized
  have hK := hKK.1
  have hFix : CallFix p m c cX4_kindByLetter 1 s args wsX4_kindByLetter RX4 := ⟨hx, hb, hml, hown, hts⟩
  obtain ⟨ls, hl, e0⟩ := my_entry (m := m) (n := 1) ha (Nat.le_of_ble_eq_true rfl)
  rw [e0]
  have hl : lv_has ls 1 [(0, .int x0)] := hl
  have key : ∀ Q : State → Prop, (∀ (pc : Nat) (ls : Array Slot), decode cX4_kindByLetter pc = .ok (.ireturn, 1) → W p l e ({ frames := 0, cells := 0, slots := 0, locals := 0 } : Room) s m args below meth c s.heap [] 0 0 Q (F0 m pc ls [.int r])) → W p l e ({ frames := 0, cells := 0, slots := 0, locals := 0 } : Room) s m args below meth c s.heap [] 0 0 Q (F0 m 0 ls []) := by
    intro Q hret
    unfold fX4_kindByLetter at h
    refine lv_iload_n hx hb dX4_kindByLetter_0 rfl (lv_at hl 0 rfl) ?_
    by_cases z1_0 : x0 = (100 : Int32)
    · have h := br_1 h z1_0
      refine lv_lookup (tgt := 62) (off := 61) hx hb dX4_kindByLetter_1 (by decide) (by rw [z1_0]; decide) (by decide) ?_
      refine lv_iconst (v := (1 : Int32)) hx hb dX4_kindByLetter_62 (by decide) ?_
      cases h
      exact hret _ _ dX4_kindByLetter_63
    have h := br_0 h z1_0
    by_cases z1_1 : x0 = (103 : Int32)
    · have h := br_1 h z1_1
      refine lv_lookup (tgt := 60) (off := 59) hx hb dX4_kindByLetter_1 (by decide) (by rw [z1_1]; decide) (by decide) ?_
      refine lv_iconst (v := (0 : Int32)) hx hb dX4_kindByLetter_60 (by decide) ?_
      cases h
      exact hret _ _ dX4_kindByLetter_61
    have h := br_0 h z1_1
    by_cases z1_2 : x0 = (109 : Int32)
    · have h := br_1 h z1_2
      refine lv_lookup (tgt := 66) (off := 65) hx hb dX4_kindByLetter_1 (by decide) (by rw [z1_2]; decide) (by decide) ?_
      refine lv_iconst (v := (3 : Int32)) hx hb dX4_kindByLetter_66 (by decide) ?_
      cases h
      exact hret _ _ dX4_kindByLetter_67
    have h := br_0 h z1_2
    by_cases z1_3 : x0 = (115 : Int32)
    · have h := br_1 h z1_3
      refine lv_lookup (tgt := 64) (off := 63) hx hb dX4_kindByLetter_1 (by decide) (by rw [z1_3]; decide) (by decide) ?_
      refine lv_iconst (v := (2 : Int32)) hx hb dX4_kindByLetter_64 (by decide) ?_
      cases h
      exact hret _ _ dX4_kindByLetter_65
    have h := br_0 h z1_3
    by_cases z1_4 : x0 = (117 : Int32)
    · have h := br_1 h z1_4
      refine lv_lookup (tgt := 68) (off := 67) hx hb dX4_kindByLetter_1 (by decide) (by rw [z1_4]; decide) (by decide) ?_
      refine lv_iconst (v := (4 : Int32)) hx hb dX4_kindByLetter_68 (by decide) ?_
      cases h
      exact hret _ _ dX4_kindByLetter_69
    have h := br_0 h z1_4
    by_cases z1_5 : x0 = (121 : Int32)
    · have h := br_1 h z1_5
      refine lv_lookup (tgt := 70) (off := 69) hx hb dX4_kindByLetter_1 (by decide) (by rw [z1_5]; decide) (by decide) ?_
      refine lv_iconst (v := (5 : Int32)) hx hb dX4_kindByLetter_70 (by decide) ?_
      cases h
      exact hret _ _ dX4_kindByLetter_71
    have h := br_0 h z1_5
    have e1_0 : ¬ x0.toInt = 100 := fun e => z1_0 (Int32.toInt_inj.mp e)
    have e1_1 : ¬ x0.toInt = 103 := fun e => z1_1 (Int32.toInt_inj.mp e)
    have e1_2 : ¬ x0.toInt = 109 := fun e => z1_2 (Int32.toInt_inj.mp e)
    have e1_3 : ¬ x0.toInt = 115 := fun e => z1_3 (Int32.toInt_inj.mp e)
    have e1_4 : ¬ x0.toInt = 117 := fun e => z1_4 (Int32.toInt_inj.mp e)
    have e1_5 : ¬ x0.toInt = 121 := fun e => z1_5 (Int32.toInt_inj.mp e)
    refine lv_lookup (tgt := 72) (off := 71) hx hb dX4_kindByLetter_1 (by decide) (by simp [Op.lookupswitch.offset, List.find?, e1_0, Ne.symm e1_0, e1_1, Ne.symm e1_1, e1_2, Ne.symm e1_2, e1_3, Ne.symm e1_3, e1_4, Ne.symm e1_4, e1_5, Ne.symm e1_5]) (by decide) ?_
    refine lv_bipush (v := (-9 : Int32)) hx hb dX4_kindByLetter_72 (by decide) ?_
    cases h
    exact hret _ _ dX4_kindByLetter_74
  exact key _ (fun pc ls hd => W.iret hx hb hr (fun t ht hW => ⟨_, rfl, rfl, ht⟩) (fun q h => by cases h) hd)
