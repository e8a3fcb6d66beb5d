set_option maxHeartbeats 4000000 in
set_option maxRecDepth 100000 in
theorem kX6_digest (l : Launch) (D : va_G) (T : Nat → ClassId) (F : Nat) (am : Nat → Nat) (mguests : Int32) (mclause : Int32) (mdeeds : Int32) (masked : Int32) (mupper : Int64) (mlower : Int64) (mfinding : Int32) (mreadGuests : Int32) (misSight : Int32) (mat : Int32) (mrowSizes : Nat → Int32) (mrows : Nat → Int32) (mtextSizes : Nat → Int32) (mtexts : Nat → Int32) (mdoes : Nat → Int32) (mkinds : Nat → Int32) (msees : Nat → Int32) (mnow : Nat → Int32) (mbefore : Nat → Int32) (mkeeps : Nat → Int32) (mkept : Nat → Int32) (mfindings : Nat → Int32) (mread : Nat → Int32) (maside : Nat → Int32) (msteps : Nat → Int32) (mtried : Nat → Int32) (mbest : Nat → Int32) (r : Int64) (h : fX6_digest F mguests mclause mdeeds mrowSizes mrows mtextSizes mtexts mdoes mkinds msees mnow mkeeps mkept = some (r)) : Met l yX6_digest wsX6_digest ({ frames := 3, cells := 0, slots := 0, locals := 67 } : Room) (va_Pc [.ref (am 0)] (fun U => va_P D vwCl (wMo T am mguests mclause mdeeds masked mupper mlower mfinding mreadGuests misSight mat mrowSizes mrows mtextSizes mtexts mdoes mkinds msees mnow mbefore mkeeps mkept mfindings mread maside msteps mtried mbest) U.heap ∧ KK D T U)) (vp_Sl (fun r' => r' = r)) 0 0 (fun _ => False) := by
  refine Met.ofW (cc := cX6_digest) (maxL := 5) (ret := some .long) (by decide) rfl ?_
  intro p e s m args below meth c s₁ B hml hv
  obtain ⟨ha, hP, hKK⟩ := hv
  have hx := B.exec
  have hb := B.bytes
  have hr := B.returns
  have hts := atoms_spec (ws := wsX6_digest) B.pre
  have hown : s.vm.findClass RX6 = some m.cls := findClass_of_methodNamed B.named
  have hlocks := B.notSynchronized
  have hK := hKK.1
  have hFix : CallFix p m c cX6_digest 5 s args wsX6_digest RX6 := ⟨hx, hb, hml, hown, hts⟩
  have q1 := hts _ (List.mem_of_getElem? (i := 1) (show wsX6_digest[1]? = some (Cond.constantLong RX6 282 (17)) from rfl))
  have q2 := hts _ (List.mem_of_getElem? (i := 2) (show wsX6_digest[2]? = some (Cond.constantLong RX6 284 (31)) from rfl))
  have q3 := hts _ (List.mem_of_getElem? (i := 3) (show wsX6_digest[3]? = some (Cond.fieldLink RX6 22 "PartyWillModel" "does" "[I") from rfl))
  have q4 := hts _ (List.mem_of_getElem? (i := 4) (show wsX6_digest[4]? = some (Cond.fieldLink RX6 131 "PartyWillModel" "guests" "I") from rfl))
  have q5 := hts _ (List.mem_of_getElem? (i := 5) (show wsX6_digest[5]? = some (Cond.fieldLink RX6 40 "PartyWillModel" "kept" "[Z") from rfl))
  have q6 := hts _ (List.mem_of_getElem? (i := 6) (show wsX6_digest[6]? = some (Cond.fieldLink RX6 37 "PartyWillModel" "keeps" "[I") from rfl))
  have q7 := hts _ (List.mem_of_getElem? (i := 7) (show wsX6_digest[7]? = some (Cond.fieldLink RX6 7 "PartyWillModel" "rowSizes" "[I") from rfl))
  have q8 := hts _ (List.mem_of_getElem? (i := 8) (show wsX6_digest[8]? = some (Cond.fieldLink RX6 13 "PartyWillModel" "rows" "[I") from rfl))
  have q9 := hts _ (List.mem_of_getElem? (i := 9) (show wsX6_digest[9]? = some (Cond.fieldLink RX6 16 "PartyWillModel" "textSizes" "[I") from rfl))
  have q10 := hts _ (List.mem_of_getElem? (i := 10) (show wsX6_digest[10]? = some (Cond.fieldLink RX6 19 "PartyWillModel" "texts" "[I") from rfl))
  have iX6 : ∀ w ∈ u_ws RX6 TX6 27, w ∈ wsX6_digest := fun w h => List.mem_cons_of_mem _ (List.mem_append_right _ (h))
  obtain ⟨ls, hl, e0⟩ := my_entry (m := m) (n := 5) ha (Nat.le_of_ble_eq_true rfl)
  rw [e0]
  have hl : lv_has ls 5 [(0, .ref (am 0))] := hl
  have key : ∀ Q : State → Prop, (∀ (pc : Nat) (ls : Array Slot), decode cX6_digest pc = .ok (.lreturn, 1) → W p l e ({ frames := 3, cells := 0, slots := 0, locals := 67 } : Room) s m args below meth c s.heap [] 0 0 Q (F0 m pc ls [.long r])) → W p l e ({ frames := 3, cells := 0, slots := 0, locals := 67 } : Room) s m args below meth c s.heap [] 0 0 Q (F0 m 0 ls []) := by
    intro Q hret
    have l221 : ∀ nu : Nat, ∀ x1 : Int64, ∀ x3 : Int32, fX6_digest_l221 F mguests mclause mdeeds mrowSizes mrows mtextSizes mtexts mdoes mkinds msees mnow mkeeps mkept nu x1 x3 = some (r) → ∀ (ls : Array Slot), lv_has ls 5 [(0, .ref (am 0)), (1, .long x1), (3, .int x3)] → W p l e ({ frames := 3, cells := 0, slots := 0, locals := 67 } : Room) s m args below meth c s.heap [] 0 0 Q (F0 m 221 ls []) := by
      intro nu
      induction nu with
      | zero => intro x1 x3 h; exact none_some h
      | succ nu221 ih221 =>
        intro x1 x3 h ls hl
        have l243 : ∀ x3 : Int32, ∀ nu : Nat, ∀ x1 : Int64, ∀ x4 : Int32, fX6_digest_l243 F (fX6_digest_l221 F mguests mclause mdeeds mrowSizes mrows mtextSizes mtexts mdoes mkinds msees mnow mkeeps mkept nu221) mguests mclause mdeeds mrowSizes mrows mtextSizes mtexts mdoes mkinds msees mnow mkeeps mkept x3 nu x1 x4 = some (r) → ∀ (ls : Array Slot), lv_has ls 5 [(0, .ref (am 0)), (1, .long x1), (3, .int x3), (4, .int x4)] → W p l e ({ frames := 3, cells := 0, slots := 0, locals := 67 } : Room) s m args below meth c s.heap [] 0 0 Q (F0 m 243 ls []) := by
          intro x3
          intro nu
          induction nu with
          | zero => intro x1 x4 h; exact none_some h
          | succ nu243 ih243 =>
            intro x1 x4 h ls hl
            have h : fX6_digest_l243_b F (fX6_digest_l221 F mguests mclause mdeeds mrowSizes mrows mtextSizes mtexts mdoes mkinds msees mnow mkeeps mkept nu221) mguests mclause mdeeds mrowSizes mrows mtextSizes mtexts mdoes mkinds msees mnow mkeeps mkept x3 (fX6_digest_l243 F (fX6_digest_l221 F mguests mclause mdeeds mrowSizes mrows mtextSizes mtexts mdoes mkinds msees mnow mkeeps mkept nu221) mguests mclause mdeeds mrowSizes mrows mtextSizes mtexts mdoes mkinds msees mnow mkeeps mkept x3 nu243) x1 x4 = some (r) := h
            unfold fX6_digest_l243_b at h
            refine lv_iload hx hb dX6_digest_243 (lv_at hl 3 rfl) ?_
            refine lv_aload_n hx hb dX6_digest_245 rfl (lv_at hl 0 rfl) ?_
            refine va_get (D := D) (ci := 4) (C := RX6) (T := TX6) (N := 27) hx hb hts iX6 hown hK hP 0 wMo_0 rfl 2 (by decide) q9 (fun _ h9 => h9) rfl dX6_digest_246 ?_
            refine lv_iload_n hx hb dX6_digest_249 rfl (lv_at hl 2 rfl) ?_
            obtain ⟨hin1, h⟩ := ck_some h
            refine va_iald hx hb hK hP 3 0 wMo_3 rfl hin1 dX6_digest_250 ?_
            refine lv_icmp_ge (tgt := 280) hx hb dX6_digest_251 (by decide) (fun c251 => ?_) (fun c251 => ?_)
            · have h := br_1 h c251
              refine lv_iinc (v := (x3 + (1 : Int32))) (lv' := [(3, .int (x3 + (1 : Int32))), (0, .ref (am 0)), (1, .long x1), (4, .int x4)]) hx hb dX6_digest_280 hl (k := 2) rfl rfl (by decide) rfl (fun ls hl => ?_)
              refine lv_goto (tgt := 221) hx hb dX6_digest_283 (by decide) ?_
              exact ih221 x1 (x3 + (1 : Int32)) h _ (lv_sub hl [1, 2, 0] rfl)
            · have h := br_0 h c251
              refine lv_ldc2 (v := (31 : Int64)) hx hb hown q2 dX6_digest_254 ?_
              refine lv_lload_n hx hb dX6_digest_257 rfl (lv_at hl 1 rfl) ?_
              refine lv_lmul hx hb dX6_digest_258 ?_
              refine lv_aload_n hx hb dX6_digest_259 rfl (lv_at hl 0 rfl) ?_
              refine va_get (D := D) (ci := 4) (C := RX6) (T := TX6) (N := 27) hx hb hts iX6 hown hK hP 0 wMo_0 rfl 3 (by decide) q10 (fun _ h9 => h9) rfl dX6_digest_260 ?_
              refine lv_bipush (v := (80 : Int32)) hx hb dX6_digest_263 (by decide) ?_
              refine lv_iload_n hx hb dX6_digest_265 rfl (lv_at hl 2 rfl) ?_
              refine lv_imul hx hb dX6_digest_266 ?_
              refine lv_iload hx hb dX6_digest_267 (lv_at hl 3 rfl) ?_
              refine lv_iadd hx hb dX6_digest_269 ?_
              obtain ⟨hin2, h⟩ := ck_some h
              refine va_iald hx hb hK hP 4 0 wMo_4 rfl hin2 dX6_digest_270 ?_
              refine lv_i2l (v := ((mtexts (((80 : Int32) * x3) + x4).toNatClampNeg).toInt64)) hx hb dX6_digest_271 rfl ?_
              refine lv_ladd hx hb dX6_digest_272 ?_
              refine lv_lstore_n (lv' := [(1, .long (((31 : Int64) * x1) + ((mtexts (((80 : Int32) * x3) + x4).toNatClampNeg).toInt64))), (0, .ref (am 0)), (3, .int x3), (4, .int x4)]) hx hb dX6_digest_273 rfl hl (by decide) rfl (fun ls hl => ?_)
              refine lv_iinc (v := (x4 + (1 : Int32))) (lv' := [(4, .int (x4 + (1 : Int32))), (1, .long (((31 : Int64) * x1) + ((mtexts (((80 : Int32) * x3) + x4).toNatClampNeg).toInt64))), (0, .ref (am 0)), (3, .int x3)]) hx hb dX6_digest_274 hl (k := 3) rfl rfl (by decide) rfl (fun ls hl => ?_)
              refine lv_goto (tgt := 243) hx hb dX6_digest_277 (by decide) ?_
              exact ih243 (((31 : Int64) * x1) + ((mtexts (((80 : Int32) * x3) + x4).toNatClampNeg).toInt64)) (x4 + (1 : Int32)) h _ (lv_sub hl [2, 1, 3, 0] rfl)
        have h : fX6_digest_l221_b F mguests mclause mdeeds mrowSizes mrows mtextSizes mtexts mdoes mkinds msees mnow mkeeps mkept (fX6_digest_l221 F mguests mclause mdeeds mrowSizes mrows mtextSizes mtexts mdoes mkinds msees mnow mkeeps mkept nu221) x1 x3 = some (r) := h
        unfold fX6_digest_l221_b at h
        refine lv_iload_n hx hb dX6_digest_221 rfl (lv_at hl 2 rfl) ?_
        refine lv_iconst (v := (4 : Int32)) hx hb dX6_digest_222 (by decide) ?_
        refine lv_icmp_ge (tgt := 286) hx hb dX6_digest_223 (by decide) (fun c223 => ?_) (fun c223 => ?_)
        · have h := br_1 h c223
          refine lv_lload_n hx hb dX6_digest_286 rfl (lv_at hl 1 rfl) ?_
          cases h
          exact hret _ _ dX6_digest_287
        · have h := br_0 h c223
          refine lv_ldc2 (v := (31 : Int64)) hx hb hown q2 dX6_digest_226 ?_
          refine lv_lload_n hx hb dX6_digest_229 rfl (lv_at hl 1 rfl) ?_
          refine lv_lmul hx hb dX6_digest_230 ?_
          refine lv_aload_n hx hb dX6_digest_231 rfl (lv_at hl 0 rfl) ?_
          refine va_get (D := D) (ci := 4) (C := RX6) (T := TX6) (N := 27) hx hb hts iX6 hown hK hP 0 wMo_0 rfl 2 (by decide) q9 (fun _ h9 => h9) rfl dX6_digest_232 ?_
          refine lv_iload_n hx hb dX6_digest_235 rfl (lv_at hl 2 rfl) ?_
          obtain ⟨hin3, h⟩ := ck_some h
          refine va_iald hx hb hK hP 3 0 wMo_3 rfl hin3 dX6_digest_236 ?_
          refine lv_i2l (v := ((mtextSizes x3.toNatClampNeg).toInt64)) hx hb dX6_digest_237 rfl ?_
          refine lv_ladd hx hb dX6_digest_238 ?_
          refine lv_lstore_n (lv' := [(1, .long (((31 : Int64) * x1) + ((mtextSizes x3.toNatClampNeg).toInt64))), (0, .ref (am 0)), (3, .int x3)]) hx hb dX6_digest_239 rfl hl (by decide) rfl (fun ls hl => ?_)
          refine lv_iconst (v := (0 : Int32)) hx hb dX6_digest_240 (by decide) ?_
          refine lv_istore (lv' := [(4, .int (0 : Int32)), (1, .long (((31 : Int64) * x1) + ((mtextSizes x3.toNatClampNeg).toInt64))), (0, .ref (am 0)), (3, .int x3)]) hx hb dX6_digest_241 hl (by decide) rfl (fun ls hl => ?_)
          exact l243 x3 F (((31 : Int64) * x1) + ((mtextSizes x3.toNatClampNeg).toInt64)) (0 : Int32) h _ (lv_sub hl [2, 1, 3, 0] rfl)
    have l153 : ∀ nu : Nat, ∀ x1 : Int64, ∀ x3 : Int32, fX6_digest_l153 F mguests mclause mdeeds mrowSizes mrows mtextSizes mtexts mdoes mkinds msees mnow mkeeps mkept nu x1 x3 = some (r) → ∀ (ls : Array Slot), lv_has ls 5 [(0, .ref (am 0)), (1, .long x1), (3, .int x3)] → W p l e ({ frames := 3, cells := 0, slots := 0, locals := 67 } : Room) s m args below meth c s.heap [] 0 0 Q (F0 m 153 ls []) := by
      intro nu
      induction nu with
      | zero => intro x1 x3 h; exact none_some h
      | succ nu153 ih153 =>
        intro x1 x3 h ls hl
        have l176 : ∀ x3 : Int32, ∀ nu : Nat, ∀ x1 : Int64, ∀ x4 : Int32, fX6_digest_l176 F (fX6_digest_l153 F mguests mclause mdeeds mrowSizes mrows mtextSizes mtexts mdoes mkinds msees mnow mkeeps mkept nu153) mguests mclause mdeeds mrowSizes mrows mtextSizes mtexts mdoes mkinds msees mnow mkeeps mkept x3 nu x1 x4 = some (r) → ∀ (ls : Array Slot), lv_has ls 5 [(0, .ref (am 0)), (1, .long x1), (3, .int x3), (4, .int x4)] → W p l e ({ frames := 3, cells := 0, slots := 0, locals := 67 } : Room) s m args below meth c s.heap [] 0 0 Q (F0 m 176 ls []) := by
          intro x3
          intro nu
          induction nu with
          | zero => intro x1 x4 h; exact none_some h
          | succ nu176 ih176 =>
            intro x1 x4 h ls hl
            have h : fX6_digest_l176_b F (fX6_digest_l153 F mguests mclause mdeeds mrowSizes mrows mtextSizes mtexts mdoes mkinds msees mnow mkeeps mkept nu153) mguests mclause mdeeds mrowSizes mrows mtextSizes mtexts mdoes mkinds msees mnow mkeeps mkept x3 (fX6_digest_l176 F (fX6_digest_l153 F mguests mclause mdeeds mrowSizes mrows mtextSizes mtexts mdoes mkinds msees mnow mkeeps mkept nu153) mguests mclause mdeeds mrowSizes mrows mtextSizes mtexts mdoes mkinds msees mnow mkeeps mkept x3 nu176) x1 x4 = some (r) := h
            unfold fX6_digest_l176_b at h
            refine lv_iload hx hb dX6_digest_176 (lv_at hl 3 rfl) ?_
            refine lv_aload_n hx hb dX6_digest_178 rfl (lv_at hl 0 rfl) ?_
            refine va_get (D := D) (ci := 4) (C := RX6) (T := TX6) (N := 27) hx hb hts iX6 hown hK hP 0 wMo_0 rfl 0 (by decide) q7 (fun _ h9 => h9) rfl dX6_digest_179 ?_
            refine lv_iload_n hx hb dX6_digest_182 rfl (lv_at hl 2 rfl) ?_
            obtain ⟨hin4, h⟩ := ck_some h
            refine va_iald hx hb hK hP 1 0 wMo_1 rfl hin4 dX6_digest_183 ?_
            refine lv_icmp_ge (tgt := 213) hx hb dX6_digest_184 (by decide) (fun c184 => ?_) (fun c184 => ?_)
            · have h := br_1 h c184
              refine lv_iinc (v := (x3 + (1 : Int32))) (lv' := [(3, .int (x3 + (1 : Int32))), (0, .ref (am 0)), (1, .long x1), (4, .int x4)]) hx hb dX6_digest_213 hl (k := 2) rfl rfl (by decide) rfl (fun ls hl => ?_)
              refine lv_goto (tgt := 153) hx hb dX6_digest_216 (by decide) ?_
              exact ih153 x1 (x3 + (1 : Int32)) h _ (lv_sub hl [1, 2, 0] rfl)
            · have h := br_0 h c184
              refine lv_ldc2 (v := (31 : Int64)) hx hb hown q2 dX6_digest_187 ?_
              refine lv_lload_n hx hb dX6_digest_190 rfl (lv_at hl 1 rfl) ?_
              refine lv_lmul hx hb dX6_digest_191 ?_
              refine lv_aload_n hx hb dX6_digest_192 rfl (lv_at hl 0 rfl) ?_
              refine va_get (D := D) (ci := 4) (C := RX6) (T := TX6) (N := 27) hx hb hts iX6 hown hK hP 0 wMo_0 rfl 1 (by decide) q8 (fun _ h9 => h9) rfl dX6_digest_193 ?_
              refine lv_bipush (v := (40 : Int32)) hx hb dX6_digest_196 (by decide) ?_
              refine lv_iload_n hx hb dX6_digest_198 rfl (lv_at hl 2 rfl) ?_
              refine lv_imul hx hb dX6_digest_199 ?_
              refine lv_iload hx hb dX6_digest_200 (lv_at hl 3 rfl) ?_
              refine lv_iadd hx hb dX6_digest_202 ?_
              obtain ⟨hin5, h⟩ := ck_some h
              refine va_iald hx hb hK hP 2 0 wMo_2 rfl hin5 dX6_digest_203 ?_
              refine lv_i2l (v := ((mrows (((40 : Int32) * x3) + x4).toNatClampNeg).toInt64)) hx hb dX6_digest_204 rfl ?_
              refine lv_ladd hx hb dX6_digest_205 ?_
              refine lv_lstore_n (lv' := [(1, .long (((31 : Int64) * x1) + ((mrows (((40 : Int32) * x3) + x4).toNatClampNeg).toInt64))), (0, .ref (am 0)), (3, .int x3), (4, .int x4)]) hx hb dX6_digest_206 rfl hl (by decide) rfl (fun ls hl => ?_)
              refine lv_iinc (v := (x4 + (1 : Int32))) (lv' := [(4, .int (x4 + (1 : Int32))), (1, .long (((31 : Int64) * x1) + ((mrows (((40 : Int32) * x3) + x4).toNatClampNeg).toInt64))), (0, .ref (am 0)), (3, .int x3)]) hx hb dX6_digest_207 hl (k := 3) rfl rfl (by decide) rfl (fun ls hl => ?_)
              refine lv_goto (tgt := 176) hx hb dX6_digest_210 (by decide) ?_
              exact ih176 (((31 : Int64) * x1) + ((mrows (((40 : Int32) * x3) + x4).toNatClampNeg).toInt64)) (x4 + (1 : Int32)) h _ (lv_sub hl [2, 1, 3, 0] rfl)
        have h : fX6_digest_l153_b F mguests mclause mdeeds mrowSizes mrows mtextSizes mtexts mdoes mkinds msees mnow mkeeps mkept (fX6_digest_l153 F mguests mclause mdeeds mrowSizes mrows mtextSizes mtexts mdoes mkinds msees mnow mkeeps mkept nu153) x1 x3 = some (r) := h
        unfold fX6_digest_l153_b at h
        refine lv_iload_n hx hb dX6_digest_153 rfl (lv_at hl 2 rfl) ?_
        refine lv_bipush (v := (6 : Int32)) hx hb dX6_digest_154 (by decide) ?_
        refine lv_icmp_ge (tgt := 219) hx hb dX6_digest_156 (by decide) (fun c156 => ?_) (fun c156 => ?_)
        · have h := br_1 h c156
          refine lv_iconst (v := (0 : Int32)) hx hb dX6_digest_219 (by decide) ?_
          refine lv_istore_n (lv' := [(3, .int (0 : Int32)), (0, .ref (am 0)), (1, .long x1)]) hx hb dX6_digest_220 rfl hl (by decide) rfl (fun ls hl => ?_)
          exact l221 F x1 (0 : Int32) h _ (lv_sub hl [1, 2, 0] rfl)
        · have h := br_0 h c156
          refine lv_ldc2 (v := (31 : Int64)) hx hb hown q2 dX6_digest_159 ?_
          refine lv_lload_n hx hb dX6_digest_162 rfl (lv_at hl 1 rfl) ?_
          refine lv_lmul hx hb dX6_digest_163 ?_
          refine lv_aload_n hx hb dX6_digest_164 rfl (lv_at hl 0 rfl) ?_
          refine va_get (D := D) (ci := 4) (C := RX6) (T := TX6) (N := 27) hx hb hts iX6 hown hK hP 0 wMo_0 rfl 0 (by decide) q7 (fun _ h9 => h9) rfl dX6_digest_165 ?_
          refine lv_iload_n hx hb dX6_digest_168 rfl (lv_at hl 2 rfl) ?_
          obtain ⟨hin6, h⟩ := ck_some h
          refine va_iald hx hb hK hP 1 0 wMo_1 rfl hin6 dX6_digest_169 ?_
          refine lv_i2l (v := ((mrowSizes x3.toNatClampNeg).toInt64)) hx hb dX6_digest_170 rfl ?_
          refine lv_ladd hx hb dX6_digest_171 ?_
          refine lv_lstore_n (lv' := [(1, .long (((31 : Int64) * x1) + ((mrowSizes x3.toNatClampNeg).toInt64))), (0, .ref (am 0)), (3, .int x3)]) hx hb dX6_digest_172 rfl hl (by decide) rfl (fun ls hl => ?_)
          refine lv_iconst (v := (0 : Int32)) hx hb dX6_digest_173 (by decide) ?_
          refine lv_istore (lv' := [(4, .int (0 : Int32)), (1, .long (((31 : Int64) * x1) + ((mrowSizes x3.toNatClampNeg).toInt64))), (0, .ref (am 0)), (3, .int x3)]) hx hb dX6_digest_174 hl (by decide) rfl (fun ls hl => ?_)
          exact l176 x3 F (((31 : Int64) * x1) + ((mrowSizes x3.toNatClampNeg).toInt64)) (0 : Int32) h _ (lv_sub hl [2, 1, 3, 0] rfl)
    have l106 : ∀ nu : Nat, ∀ x1 : Int64, ∀ x3 : Int32, fX6_digest_l106 F mguests mclause mdeeds mrowSizes mrows mtextSizes mtexts mdoes mkinds msees mnow mkeeps mkept nu x1 x3 = some (r) → ∀ (ls : Array Slot), lv_has ls 5 [(0, .ref (am 0)), (1, .long x1), (3, .int x3)] → W p l e ({ frames := 3, cells := 0, slots := 0, locals := 67 } : Room) s m args below meth c s.heap [] 0 0 Q (F0 m 106 ls []) := by
      intro nu
      induction nu with
      | zero => intro x1 x3 h; exact none_some h
      | succ nu106 ih106 =>
        intro x1 x3 h ls hl
        have h : fX6_digest_l106_b F mguests mclause mdeeds mrowSizes mrows mtextSizes mtexts mdoes mkinds msees mnow mkeeps mkept (fX6_digest_l106 F mguests mclause mdeeds mrowSizes mrows mtextSizes mtexts mdoes mkinds msees mnow mkeeps mkept nu106) x1 x3 = some (r) := h
        unfold fX6_digest_l106_b at h
        refine lv_iload_n hx hb dX6_digest_106 rfl (lv_at hl 2 rfl) ?_
        refine lv_iconst (v := (3 : Int32)) hx hb dX6_digest_107 (by decide) ?_
        refine lv_icmp_ge (tgt := 151) hx hb dX6_digest_108 (by decide) (fun c108 => ?_) (fun c108 => ?_)
        · have h := br_1 h c108
          refine lv_iconst (v := (0 : Int32)) hx hb dX6_digest_151 (by decide) ?_
          refine lv_istore_n (lv' := [(3, .int (0 : Int32)), (0, .ref (am 0)), (1, .long x1)]) hx hb dX6_digest_152 rfl hl (by decide) rfl (fun ls hl => ?_)
          exact l153 F x1 (0 : Int32) h _ (lv_sub hl [1, 2, 0] rfl)
        · have h := br_0 h c108
          refine lv_ldc2 (v := (31 : Int64)) hx hb hown q2 dX6_digest_111 ?_
          refine lv_lload_n hx hb dX6_digest_114 rfl (lv_at hl 1 rfl) ?_
          refine lv_lmul hx hb dX6_digest_115 ?_
          refine lv_aload_n hx hb dX6_digest_116 rfl (lv_at hl 0 rfl) ?_
          refine va_get (D := D) (ci := 4) (C := RX6) (T := TX6) (N := 27) hx hb hts iX6 hown hK hP 0 wMo_0 rfl 13 (by decide) q5 (fun _ h9 => h9) rfl dX6_digest_117 ?_
          refine lv_iload_n hx hb dX6_digest_120 rfl (lv_at hl 2 rfl) ?_
          obtain ⟨hin7, h⟩ := ck_some h
          refine va_zald hx hb hK hP 11 3 wMo_11 rfl hin7 dX6_digest_121 ?_
          refine lv_if_eq (tgt := 141) hx hb dX6_digest_122 (by decide) (fun c122 => ?_) (fun c122 => ?_)
          · have h := br_1 h c122
            refine lv_iconst (v := (-1 : Int32)) hx hb dX6_digest_141 (by decide) ?_
            refine lv_i2l (v := ((-1 : Int32).toInt64)) hx hb dX6_digest_142 rfl ?_
            refine lv_ladd hx hb dX6_digest_143 ?_
            refine lv_lstore_n (lv' := [(1, .long (((31 : Int64) * x1) + ((-1 : Int32).toInt64))), (0, .ref (am 0)), (3, .int x3)]) hx hb dX6_digest_144 rfl hl (by decide) rfl (fun ls hl => ?_)
            refine lv_iinc (v := (x3 + (1 : Int32))) (lv' := [(3, .int (x3 + (1 : Int32))), (1, .long (((31 : Int64) * x1) + ((-1 : Int32).toInt64))), (0, .ref (am 0))]) hx hb dX6_digest_145 hl (k := 2) rfl rfl (by decide) rfl (fun ls hl => ?_)
            refine lv_goto (tgt := 106) hx hb dX6_digest_148 (by decide) ?_
            exact ih106 (((31 : Int64) * x1) + ((-1 : Int32).toInt64)) (x3 + (1 : Int32)) h _ (lv_sub hl [2, 1, 0] rfl)
          · have h := br_0 h c122
            refine lv_aload_n hx hb dX6_digest_125 rfl (lv_at hl 0 rfl) ?_
            refine va_get (D := D) (ci := 4) (C := RX6) (T := TX6) (N := 27) hx hb hts iX6 hown hK hP 0 wMo_0 rfl 12 (by decide) q6 (fun _ h9 => h9) rfl dX6_digest_126 ?_
            refine lv_sipush (v := (288 : Int32)) hx hb dX6_digest_129 (by decide) ?_
            refine lv_iload_n hx hb dX6_digest_132 rfl (lv_at hl 2 rfl) ?_
            refine lv_imul hx hb dX6_digest_133 ?_
            refine lv_bipush (v := (7 : Int32)) hx hb dX6_digest_134 (by decide) ?_
            refine lv_iadd hx hb dX6_digest_136 ?_
            obtain ⟨hin8, h⟩ := ck_some h
            refine va_iald hx hb hK hP 10 0 wMo_10 rfl hin8 dX6_digest_137 ?_
            refine lv_goto (tgt := 142) hx hb dX6_digest_138 (by decide) ?_
            refine lv_i2l (v := ((mkeeps (((288 : Int32) * x3) + (7 : Int32)).toNatClampNeg).toInt64)) hx hb dX6_digest_142 rfl ?_
            refine lv_ladd hx hb dX6_digest_143 ?_
            refine lv_lstore_n (lv' := [(1, .long (((31 : Int64) * x1) + ((mkeeps (((288 : Int32) * x3) + (7 : Int32)).toNatClampNeg).toInt64))), (0, .ref (am 0)), (3, .int x3)]) hx hb dX6_digest_144 rfl hl (by decide) rfl (fun ls hl => ?_)
            refine lv_iinc (v := (x3 + (1 : Int32))) (lv' := [(3, .int (x3 + (1 : Int32))), (1, .long (((31 : Int64) * x1) + ((mkeeps (((288 : Int32) * x3) + (7 : Int32)).toNatClampNeg).toInt64))), (0, .ref (am 0))]) hx hb dX6_digest_145 hl (k := 2) rfl rfl (by decide) rfl (fun ls hl => ?_)
            refine lv_goto (tgt := 106) hx hb dX6_digest_148 (by decide) ?_
            exact ih106 (((31 : Int64) * x1) + ((mkeeps (((288 : Int32) * x3) + (7 : Int32)).toNatClampNeg).toInt64)) (x3 + (1 : Int32)) h _ (lv_sub hl [2, 1, 0] rfl)
    have l60 : ∀ nu : Nat, ∀ x1 : Int64, ∀ x3 : Int32, fX6_digest_l60 F mguests mclause mdeeds mrowSizes mrows mtextSizes mtexts mdoes mkinds msees mnow mkeeps mkept nu x1 x3 = some (r) → ∀ (ls : Array Slot), lv_has ls 5 [(0, .ref (am 0)), (1, .long x1), (3, .int x3)] → W p l e ({ frames := 3, cells := 0, slots := 0, locals := 67 } : Room) s m args below meth c s.heap [] 0 0 Q (F0 m 60 ls []) := by
      intro nu
      induction nu with
      | zero => intro x1 x3 h; exact none_some h
      | succ nu60 ih60 =>
        intro x1 x3 h ls hl
        have l71 : ∀ x3 : Int32, ∀ nu : Nat, ∀ x1 : Int64, ∀ x4 : Int32, fX6_digest_l71 F (fX6_digest_l60 F mguests mclause mdeeds mrowSizes mrows mtextSizes mtexts mdoes mkinds msees mnow mkeeps mkept nu60) mguests mclause mdeeds mrowSizes mrows mtextSizes mtexts mdoes mkinds msees mnow mkeeps mkept x3 nu x1 x4 = some (r) → ∀ (ls : Array Slot), lv_has ls 5 [(0, .ref (am 0)), (1, .long x1), (3, .int x3), (4, .int x4)] → W p l e ({ frames := 3, cells := 0, slots := 0, locals := 67 } : Room) s m args below meth c s.heap [] 0 0 Q (F0 m 71 ls []) := by
          intro x3
          intro nu
          induction nu with
          | zero => intro x1 x4 h; exact none_some h
          | succ nu71 ih71 =>
            intro x1 x4 h ls hl
            have h : fX6_digest_l71_b F (fX6_digest_l60 F mguests mclause mdeeds mrowSizes mrows mtextSizes mtexts mdoes mkinds msees mnow mkeeps mkept nu60) mguests mclause mdeeds mrowSizes mrows mtextSizes mtexts mdoes mkinds msees mnow mkeeps mkept x3 (fX6_digest_l71 F (fX6_digest_l60 F mguests mclause mdeeds mrowSizes mrows mtextSizes mtexts mdoes mkinds msees mnow mkeeps mkept nu60) mguests mclause mdeeds mrowSizes mrows mtextSizes mtexts mdoes mkinds msees mnow mkeeps mkept x3 nu71) x1 x4 = some (r) := h
            unfold fX6_digest_l71_b at h
            refine lv_iload hx hb dX6_digest_71 (lv_at hl 3 rfl) ?_
            refine lv_iconst (v := (5 : Int32)) hx hb dX6_digest_73 (by decide) ?_
            refine lv_icmp_ge (tgt := 98) hx hb dX6_digest_74 (by decide) (fun c74 => ?_) (fun c74 => ?_)
            · have h := br_1 h c74
              refine lv_iinc (v := (x3 + (1 : Int32))) (lv' := [(3, .int (x3 + (1 : Int32))), (0, .ref (am 0)), (1, .long x1), (4, .int x4)]) hx hb dX6_digest_98 hl (k := 2) rfl rfl (by decide) rfl (fun ls hl => ?_)
              refine lv_goto (tgt := 60) hx hb dX6_digest_101 (by decide) ?_
              exact ih60 x1 (x3 + (1 : Int32)) h _ (lv_sub hl [1, 2, 0] rfl)
            · have h := br_0 h c74
              refine lv_ldc2 (v := (31 : Int64)) hx hb hown q2 dX6_digest_77 ?_
              refine lv_lload_n hx hb dX6_digest_80 rfl (lv_at hl 1 rfl) ?_
              refine lv_lmul hx hb dX6_digest_81 ?_
              refine lv_aload_n hx hb dX6_digest_82 rfl (lv_at hl 0 rfl) ?_
              refine lv_iload_n hx hb dX6_digest_83 rfl (lv_at hl 2 rfl) ?_
              refine lv_iload hx hb dX6_digest_84 (lv_at hl 3 rfl) ?_
              obtain ⟨r86, hc, h⟩ := bd1_some h
              refine my_roi (va_Run.run (va_runV (As := [.int x3, .int x4]) (rest := [.long ((31 : Int64) * x1)]) hFix (kX6_guestOf l D T F am mguests mclause mdeeds masked mupper mlower mfinding mreadGuests misSight mat mrowSizes mrows mtextSizes mtexts mdoes mkinds msees mnow mbefore mkeeps mkept mfindings mread maside msteps mtried mbest x3 x4 r86 hc) (cwV 2 hts gX6_digest_X6_guestOf rfl rfl rfl ⟨rfl, hd_X6_guestOf⟩ ⟨Nat.le_of_ble_eq_true rfl, Nat.le_of_ble_eq_true rfl⟩) (preV_ro hP hKK (va_recv hK hP (ci := 4) (q0 := 0) rfl wMo_0)) rfl rfl hl.1 rfl (lv_room (Nat.le_of_ble_eq_true rfl)) dX6_digest_86 ⟨Nat.zero_le _, Nat.zero_le _⟩)) ?_
              refine lv_i2l (v := (r86.toInt64)) hx hb dX6_digest_89 rfl ?_
              refine lv_ladd hx hb dX6_digest_90 ?_
              refine lv_lstore_n (lv' := [(1, .long (((31 : Int64) * x1) + (r86.toInt64))), (0, .ref (am 0)), (3, .int x3), (4, .int x4)]) hx hb dX6_digest_91 rfl hl (by decide) rfl (fun ls hl => ?_)
              refine lv_iinc (v := (x4 + (1 : Int32))) (lv' := [(4, .int (x4 + (1 : Int32))), (1, .long (((31 : Int64) * x1) + (r86.toInt64))), (0, .ref (am 0)), (3, .int x3)]) hx hb dX6_digest_92 hl (k := 3) rfl rfl (by decide) rfl (fun ls hl => ?_)
              refine lv_goto (tgt := 71) hx hb dX6_digest_95 (by decide) ?_
              exact ih71 (((31 : Int64) * x1) + (r86.toInt64)) (x4 + (1 : Int32)) h _ (lv_sub hl [2, 1, 3, 0] rfl)
        have h : fX6_digest_l60_b F mguests mclause mdeeds mrowSizes mrows mtextSizes mtexts mdoes mkinds msees mnow mkeeps mkept (fX6_digest_l60 F mguests mclause mdeeds mrowSizes mrows mtextSizes mtexts mdoes mkinds msees mnow mkeeps mkept nu60) x1 x3 = some (r) := h
        unfold fX6_digest_l60_b at h
        refine lv_iload_n hx hb dX6_digest_60 rfl (lv_at hl 2 rfl) ?_
        refine lv_aload_n hx hb dX6_digest_61 rfl (lv_at hl 0 rfl) ?_
        refine va_get (D := D) (ci := 4) (C := RX6) (T := TX6) (N := 27) hx hb hts iX6 hown hK hP 0 wMo_0 rfl 4 (by decide) q4 (fun _ h9 => h9) rfl dX6_digest_62 ?_
        refine lv_icmp_ge (tgt := 104) hx hb dX6_digest_65 (by decide) (fun c65 => ?_) (fun c65 => ?_)
        · have h := br_1 h c65
          refine lv_iconst (v := (0 : Int32)) hx hb dX6_digest_104 (by decide) ?_
          refine lv_istore_n (lv' := [(3, .int (0 : Int32)), (0, .ref (am 0)), (1, .long x1)]) hx hb dX6_digest_105 rfl hl (by decide) rfl (fun ls hl => ?_)
          exact l106 F x1 (0 : Int32) h _ (lv_sub hl [1, 2, 0] rfl)
        · have h := br_0 h c65
          refine lv_iconst (v := (0 : Int32)) hx hb dX6_digest_68 (by decide) ?_
          refine lv_istore (lv' := [(4, .int (0 : Int32)), (0, .ref (am 0)), (1, .long x1), (3, .int x3)]) hx hb dX6_digest_69 hl (by decide) rfl (fun ls hl => ?_)
          exact l71 x3 F x1 (0 : Int32) h _ (lv_sub hl [1, 2, 3, 0] rfl)
    have l33 : ∀ nu : Nat, ∀ x1 : Int64, ∀ x3 : Int32, fX6_digest_l33 F mguests mclause mdeeds mrowSizes mrows mtextSizes mtexts mdoes mkinds msees mnow mkeeps mkept nu x1 x3 = some (r) → ∀ (ls : Array Slot), lv_has ls 5 [(0, .ref (am 0)), (1, .long x1), (3, .int x3)] → W p l e ({ frames := 3, cells := 0, slots := 0, locals := 67 } : Room) s m args below meth c s.heap [] 0 0 Q (F0 m 33 ls []) := by
      intro nu
      induction nu with
      | zero => intro x1 x3 h; exact none_some h
      | succ nu33 ih33 =>
        intro x1 x3 h ls hl
        have h : fX6_digest_l33_b F mguests mclause mdeeds mrowSizes mrows mtextSizes mtexts mdoes mkinds msees mnow mkeeps mkept (fX6_digest_l33 F mguests mclause mdeeds mrowSizes mrows mtextSizes mtexts mdoes mkinds msees mnow mkeeps mkept nu33) x1 x3 = some (r) := h
        unfold fX6_digest_l33_b at h
        refine lv_iload_n hx hb dX6_digest_33 rfl (lv_at hl 2 rfl) ?_
        refine lv_iconst (v := (4 : Int32)) hx hb dX6_digest_34 (by decide) ?_
        refine lv_icmp_ge (tgt := 58) hx hb dX6_digest_35 (by decide) (fun c35 => ?_) (fun c35 => ?_)
        · have h := br_1 h c35
          refine lv_iconst (v := (0 : Int32)) hx hb dX6_digest_58 (by decide) ?_
          refine lv_istore_n (lv' := [(3, .int (0 : Int32)), (0, .ref (am 0)), (1, .long x1)]) hx hb dX6_digest_59 rfl hl (by decide) rfl (fun ls hl => ?_)
          exact l60 F x1 (0 : Int32) h _ (lv_sub hl [1, 2, 0] rfl)
        · have h := br_0 h c35
          refine lv_ldc2 (v := (31 : Int64)) hx hb hown q2 dX6_digest_38 ?_
          refine lv_lload_n hx hb dX6_digest_41 rfl (lv_at hl 1 rfl) ?_
          refine lv_lmul hx hb dX6_digest_42 ?_
          refine lv_aload_n hx hb dX6_digest_43 rfl (lv_at hl 0 rfl) ?_
          refine va_get (D := D) (ci := 4) (C := RX6) (T := TX6) (N := 27) hx hb hts iX6 hown hK hP 0 wMo_0 rfl 6 (by decide) q3 (fun _ h9 => h9) rfl dX6_digest_44 ?_
          refine lv_iload_n hx hb dX6_digest_47 rfl (lv_at hl 2 rfl) ?_
          obtain ⟨hin9, h⟩ := ck_some h
          refine va_iald hx hb hK hP 5 0 wMo_5 rfl hin9 dX6_digest_48 ?_
          refine lv_i2l (v := ((mdoes x3.toNatClampNeg).toInt64)) hx hb dX6_digest_49 rfl ?_
          refine lv_ladd hx hb dX6_digest_50 ?_
          refine lv_lstore_n (lv' := [(1, .long (((31 : Int64) * x1) + ((mdoes x3.toNatClampNeg).toInt64))), (0, .ref (am 0)), (3, .int x3)]) hx hb dX6_digest_51 rfl hl (by decide) rfl (fun ls hl => ?_)
          refine lv_iinc (v := (x3 + (1 : Int32))) (lv' := [(3, .int (x3 + (1 : Int32))), (1, .long (((31 : Int64) * x1) + ((mdoes x3.toNatClampNeg).toInt64))), (0, .ref (am 0))]) hx hb dX6_digest_52 hl (k := 2) rfl rfl (by decide) rfl (fun ls hl => ?_)
          refine lv_goto (tgt := 33) hx hb dX6_digest_55 (by decide) ?_
          exact ih33 (((31 : Int64) * x1) + ((mdoes x3.toNatClampNeg).toInt64)) (x3 + (1 : Int32)) h _ (lv_sub hl [2, 1, 0] rfl)
    have l6 : ∀ nu : Nat, ∀ x1 : Int64, ∀ x3 : Int32, fX6_digest_l6 F mguests mclause mdeeds mrowSizes mrows mtextSizes mtexts mdoes mkinds msees mnow mkeeps mkept nu x1 x3 = some (r) → ∀ (ls : Array Slot), lv_has ls 5 [(0, .ref (am 0)), (1, .long x1), (3, .int x3)] → W p l e ({ frames := 3, cells := 0, slots := 0, locals := 67 } : Room) s m args below meth c s.heap [] 0 0 Q (F0 m 6 ls []) := by
      intro nu
      induction nu with
      | zero => intro x1 x3 h; exact none_some h
      | succ nu6 ih6 =>
        intro x1 x3 h ls hl
        have h : fX6_digest_l6_b F mguests mclause mdeeds mrowSizes mrows mtextSizes mtexts mdoes mkinds msees mnow mkeeps mkept (fX6_digest_l6 F mguests mclause mdeeds mrowSizes mrows mtextSizes mtexts mdoes mkinds msees mnow mkeeps mkept nu6) x1 x3 = some (r) := h
        unfold fX6_digest_l6_b at h
        refine lv_iload_n hx hb dX6_digest_6 rfl (lv_at hl 2 rfl) ?_
        refine lv_bipush (v := (10 : Int32)) hx hb dX6_digest_7 (by decide) ?_
        refine lv_icmp_ge (tgt := 31) hx hb dX6_digest_9 (by decide) (fun c9 => ?_) (fun c9 => ?_)
        · have h := br_1 h c9
          refine lv_iconst (v := (0 : Int32)) hx hb dX6_digest_31 (by decide) ?_
          refine lv_istore_n (lv' := [(3, .int (0 : Int32)), (0, .ref (am 0)), (1, .long x1)]) hx hb dX6_digest_32 rfl hl (by decide) rfl (fun ls hl => ?_)
          exact l33 F x1 (0 : Int32) h _ (lv_sub hl [1, 2, 0] rfl)
        · have h := br_0 h c9
          refine lv_ldc2 (v := (31 : Int64)) hx hb hown q2 dX6_digest_12 ?_
          refine lv_lload_n hx hb dX6_digest_15 rfl (lv_at hl 1 rfl) ?_
          refine lv_lmul hx hb dX6_digest_16 ?_
          refine lv_aload_n hx hb dX6_digest_17 rfl (lv_at hl 0 rfl) ?_
          refine lv_iload_n hx hb dX6_digest_18 rfl (lv_at hl 2 rfl) ?_
          obtain ⟨r19, hc, h⟩ := bd1_some h
          refine my_roi (va_Run.run (va_runV (As := [.int x3]) (rest := [.long ((31 : Int64) * x1)]) hFix (kX6_counted l D T F am mguests mclause mdeeds masked mupper mlower mfinding mreadGuests misSight mat mrowSizes mrows mtextSizes mtexts mdoes mkinds msees mnow mbefore mkeeps mkept mfindings mread maside msteps mtried mbest x3 r19 hc) (cwV 1 hts gX6_digest_X6_counted rfl rfl rfl ⟨rfl, hd_X6_counted⟩ ⟨Nat.le_of_ble_eq_true rfl, Nat.le_of_ble_eq_true rfl⟩) (preV_ro hP hKK (va_recv hK hP (ci := 4) (q0 := 0) rfl wMo_0)) rfl rfl hl.1 rfl (lv_room (Nat.le_of_ble_eq_true rfl)) dX6_digest_19 ⟨Nat.zero_le _, Nat.zero_le _⟩)) ?_
          refine lv_i2l (v := (r19.toInt64)) hx hb dX6_digest_22 rfl ?_
          refine lv_ladd hx hb dX6_digest_23 ?_
          refine lv_lstore_n (lv' := [(1, .long (((31 : Int64) * x1) + (r19.toInt64))), (0, .ref (am 0)), (3, .int x3)]) hx hb dX6_digest_24 rfl hl (by decide) rfl (fun ls hl => ?_)
          refine lv_iinc (v := (x3 + (1 : Int32))) (lv' := [(3, .int (x3 + (1 : Int32))), (1, .long (((31 : Int64) * x1) + (r19.toInt64))), (0, .ref (am 0))]) hx hb dX6_digest_25 hl (k := 2) rfl rfl (by decide) rfl (fun ls hl => ?_)
          refine lv_goto (tgt := 6) hx hb dX6_digest_28 (by decide) ?_
          exact ih6 (((31 : Int64) * x1) + (r19.toInt64)) (x3 + (1 : Int32)) h _ (lv_sub hl [2, 1, 0] rfl)
    unfold fX6_digest at h
    refine lv_ldc2 (v := (17 : Int64)) hx hb hown q1 dX6_digest_0 ?_
    refine lv_lstore_n (lv' := [(1, .long (17 : Int64)), (0, .ref (am 0))]) hx hb dX6_digest_3 rfl hl (by decide) rfl (fun ls hl => ?_)
    refine lv_iconst (v := (0 : Int32)) hx hb dX6_digest_4 (by decide) ?_
    refine lv_istore_n (lv' := [(3, .int (0 : Int32)), (1, .long (17 : Int64)), (0, .ref (am 0))]) hx hb dX6_digest_5 rfl hl (by decide) rfl (fun ls hl => ?_)
    exact l6 F (17 : Int64) (0 : Int32) h _ (lv_sub hl [2, 1, 0] rfl)
  exact key _ (fun pc ls hd => W.lret hx hb hr (fun t ht hW => ⟨_, rfl, rfl, ht⟩) (fun q h => by cases h) hd)
