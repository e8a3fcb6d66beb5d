theorem p_64 : ∀ v, v < 1024 → (Int32.ofNat v).toInt64 = Int64.ofNat v := by decide +kernel
theorem q_sh5 : ∀ i, i < 6 → (((5 : Int32) * Int32.ofNat i).toInt64 &&& 63) = Int64.ofNat (5 * i) := by decide +kernel
theorem q_sh30 : ∀ i, i < 6 → (((30 : Int32) + Int32.ofNat i).toInt64 &&& 63) = Int64.ofNat (30 + i) := by decide +kernel
theorem setN_lt (p : Nat → Bool) : setN p < 64 := by
  have h0 := Bool.toNat_le (p 0); have h1 := Bool.toNat_le (p 1); have h2 := Bool.toNat_le (p 2); have h3 := Bool.toNat_le (p 3); have h4 := Bool.toNat_le (p 4); have h5 := Bool.toNat_le (p 5)
  unfold setN
  omega
def HB (s : Nat → Option Nat) : Prop := ∀ i, gv s i < 32
theorem HallOk.hb {n : Nat} {s : Nat → Option Nat} (h : HallOk n s) : HB s := by
  intro i
  unfold gv
  cases e : s i with
  | none => simp
  | some g =>
    have := h.2 i g e
    simp only [Option.getD_some]
    omega
theorem encN_lt {s : Nat → Option Nat} (h : HB s) : encN s < 2 ^ 36 := by
  have h0 := h 0; have h1 := h 1; have h2 := h 2; have h3 := h 3; have h4 := h 4; have h5 := h 5
  have h6 := setN_lt (fun i => (s i).isSome)
  unfold encN
  omega
def ups (s : Nat → Option Nat) (i v : Nat) : Nat → Option Nat := fun j => if j = i then some v else s j
def rem (s : Nat → Option Nat) (i : Nat) : Nat → Option Nat := fun j => if j = i then none else s j
theorem wgN (F : Nat) {i A B g v : Nat} (hi : i < 6) (hA : A < 2 ^ (5 * i)) (hg : g < 2 ^ 5) (hv : v < 2 ^ 5) : fX1_withGrief F (Int64.ofNat (2 ^ (5 * i) * (2 ^ 5 * B + g) + A)) (Int32.ofNat i) (Int32.ofNat v) = some (Int64.ofNat (2 ^ (5 * i) * (2 ^ 5 * B + v) + A)) := by
  unfold fX1_withGrief
  rw [q_sh5 i hi, p_64 v (by omega), show (31 : Int64) = Int64.ofNat (2 ^ 5 - 1) from rfl, q_shl (by omega), q_shl (by omega), q_field hA hg hv]
theorem stN (F : Nat) {i A B : Nat} (hi : i < 6) (hA : A < 2 ^ (30 + i)) : Int64.ofNat (2 ^ (30 + i) * (2 * B) + A) ||| ((1 : Int64) <<< (((30 : Int32) + Int32.ofNat i).toInt64 &&& 63)) = Int64.ofNat (2 ^ (30 + i) * (2 * B + 1) + A) := by
  rw [q_sh30 i hi, show (1 : Int64) = Int64.ofNat 1 from rfl, q_shl (by omega), Nat.one_mul, q_set hA]
theorem clN (F : Nat) {i A B g : Nat} (hi : i < 6) (hA : A < 2 ^ (30 + i)) (hg : g < 2 ^ 1) : Int64.ofNat (2 ^ (30 + i) * (2 ^ 1 * B + g) + A) &&& (((1 : Int64) <<< (((30 : Int32) + Int32.ofNat i).toInt64 &&& 63)) ^^^ (-1 : Int64)) = Int64.ofNat (2 ^ (30 + i) * (2 ^ 1 * B) + A) := by
  have e : (1 : Int64) <<< Int64.ofNat (30 + i) = Int64.ofNat ((2 ^ 1 - 1) * 2 ^ (30 + i)) := q_shl (v := 2 ^ 1 - 1) (by omega)
  rw [q_sh30 i hi, e, q_clear hA hg]
theorem c_griefOf (F : Nat) {s : Nat → Option Nat} {i : Nat} (h : HB s) (hi : i < 6) : fX1_griefOf F (enc s) (Int32.ofNat i) = some (Int32.ofNat (gv s i)) := by
  have hN := encN_lt h
  unfold fX1_griefOf enc
  rw [q_sh5 i hi, q_shr (by omega) (by omega), show (31 : Int64) = Int64.ofNat (2 ^ 5 - 1) from rfl, q_and (by omega) (by have := Nat.div_le_self (encN s) (2 ^ (5 * i)); omega), Int64.toInt32_ofNat']
  have e : encN s / 2 ^ (5 * i) % 2 ^ 5 = gv s i := by
    have h0 := h 0; have h1 := h 1; have h2 := h 2; have h3 := h 3; have h4 := h 4; have h5 := h 5
    have h6 := setN_lt (fun i => (s i).isSome)
    unfold encN
    rcases (show i = 0 ∨ i = 1 ∨ i = 2 ∨ i = 3 ∨ i = 4 ∨ i = 5 by omega) with rfl | rfl | rfl | rfl | rfl | rfl <;> simp only [Nat.reduceAdd, Nat.reduceMul, Nat.reducePow] <;> omega
  rw [e]
theorem enc_bit {s : Nat → Option Nat} {i : Nat} (h : HB s) (hi : i < 6) : encN s / 2 ^ (30 + i) % 2 ^ 1 = (s i).isSome.toNat := by
  have h0 := h 0; have h1 := h 1; have h2 := h 2; have h3 := h 3; have h4 := h 4; have h5 := h 5
  have h6 := setN_lt (fun i => (s i).isSome)
  have b0 := Bool.toNat_le (s 0).isSome; have b1 := Bool.toNat_le (s 1).isSome; have b2 := Bool.toNat_le (s 2).isSome; have b3 := Bool.toNat_le (s 3).isSome; have b4 := Bool.toNat_le (s 4).isSome; have b5 := Bool.toNat_le (s 5).isSome
  unfold encN setN
  dsimp only
  rcases (show i = 0 ∨ i = 1 ∨ i = 2 ∨ i = 3 ∨ i = 4 ∨ i = 5 by omega) with rfl | rfl | rfl | rfl | rfl | rfl <;> simp only [Nat.reduceAdd, Nat.reduceMul, Nat.reducePow] <;> omega
theorem c_isIn (F : Nat) {s : Nat → Option Nat} {i : Nat} (h : HB s) (hi : i < 6) : fX1_isIn F (enc s) (Int32.ofNat i) = some (if (s i).isSome = true then 1 else 0) := by
  have hN := encN_lt h
  unfold fX1_isIn enc
  rw [q_sh30 i hi, q_shr (by omega) (by omega), show (1 : Int64) = Int64.ofNat (2 ^ 1 - 1) from rfl, q_and (by omega) (by have := Nat.div_le_self (encN s) (2 ^ (30 + i)); omega), enc_bit h hi]
  cases (s i).isSome
  · rfl
  · rfl
theorem c_insiders (F : Nat) {s : Nat → Option Nat} (h : HB s) : fX1_insiders F (enc s) = some (st (fun i => (s i).isSome)) := by
  have hN := encN_lt h
  unfold fX1_insiders enc st
  rw [show (((30 : Int32).toInt64 &&& 63) : Int64) = Int64.ofNat 30 from rfl, q_shr (by omega) (by omega), Int64.toInt32_ofNat']
  have e : encN s / 2 ^ 30 = setN (fun i => (s i).isSome) := by
    have h0 := h 0; have h1 := h 1; have h2 := h 2; have h3 := h 3; have h4 := h 4; have h5 := h 5
    have h6 := setN_lt (fun i => (s i).isSome)
    unfold encN
    omega
  rw [e]
theorem c_withGrief (F : Nat) {s : Nat → Option Nat} {i v : Nat} (h : HB s) (hi : i < 6) (hs : (s i).isSome = true) (hv : v < 32) : fX1_withGrief F (enc s) (Int32.ofNat i) (Int32.ofNat v) = some (enc (ups s i v)) := by
  have h0 := h 0; have h1 := h 1; have h2 := h 2; have h3 := h 3; have h4 := h 4; have h5 := h 5
  have h6 := setN_lt (fun i => (s i).isSome)
  rcases (show i = 0 ∨ i = 1 ∨ i = 2 ∨ i = 3 ∨ i = 4 ∨ i = 5 by omega) with rfl | rfl | rfl | rfl | rfl | rfl
  · have e1 : encN s = 1 * (32 * (1 * gv s 1 + 32 * gv s 2 + 1024 * gv s 3 + 32768 * gv s 4 + 1048576 * gv s 5 + 33554432 * setN (fun i => (s i).isSome)) + gv s 0) + (0) := by unfold encN; omega
    have es : setN (fun i => (ups s 0 v i).isSome) = setN (fun i => (s i).isSome) := by simp [setN, ups, hs]
    have e2 : encN (ups s 0 v) = 1 * (32 * (1 * gv s 1 + 32 * gv s 2 + 1024 * gv s 3 + 32768 * gv s 4 + 1048576 * gv s 5 + 33554432 * setN (fun i => (s i).isSome)) + v) + (0) := by
      unfold encN
      rw [es, show gv (ups s 0 v) 0 = v from rfl, show gv (ups s 0 v) 1 = gv s 1 from rfl, show gv (ups s 0 v) 2 = gv s 2 from rfl, show gv (ups s 0 v) 3 = gv s 3 from rfl, show gv (ups s 0 v) 4 = gv s 4 from rfl, show gv (ups s 0 v) 5 = gv s 5 from rfl]
      omega
    unfold enc
    rw [e1, e2]
    exact wgN F (i := 0) (A := 0) (B := 1 * gv s 1 + 32 * gv s 2 + 1024 * gv s 3 + 32768 * gv s 4 + 1048576 * gv s 5 + 33554432 * setN (fun i => (s i).isSome)) (g := gv s 0) (by decide) (show 0 < 1 by omega) (h 0) hv
  · have e1 : encN s = 32 * (32 * (1 * gv s 2 + 32 * gv s 3 + 1024 * gv s 4 + 32768 * gv s 5 + 1048576 * setN (fun i => (s i).isSome)) + gv s 1) + (1 * gv s 0) := by unfold encN; omega
    have es : setN (fun i => (ups s 1 v i).isSome) = setN (fun i => (s i).isSome) := by simp [setN, ups, hs]
    have e2 : encN (ups s 1 v) = 32 * (32 * (1 * gv s 2 + 32 * gv s 3 + 1024 * gv s 4 + 32768 * gv s 5 + 1048576 * setN (fun i => (s i).isSome)) + v) + (1 * gv s 0) := by
      unfold encN
      rw [es, show gv (ups s 1 v) 0 = gv s 0 from rfl, show gv (ups s 1 v) 1 = v from rfl, show gv (ups s 1 v) 2 = gv s 2 from rfl, show gv (ups s 1 v) 3 = gv s 3 from rfl, show gv (ups s 1 v) 4 = gv s 4 from rfl, show gv (ups s 1 v) 5 = gv s 5 from rfl]
      omega
    unfold enc
    rw [e1, e2]
    exact wgN F (i := 1) (A := 1 * gv s 0) (B := 1 * gv s 2 + 32 * gv s 3 + 1024 * gv s 4 + 32768 * gv s 5 + 1048576 * setN (fun i => (s i).isSome)) (g := gv s 1) (by decide) (show 1 * gv s 0 < 32 by omega) (h 1) hv
  · have e1 : encN s = 1024 * (32 * (1 * gv s 3 + 32 * gv s 4 + 1024 * gv s 5 + 32768 * setN (fun i => (s i).isSome)) + gv s 2) + (1 * gv s 0 + 32 * gv s 1) := by unfold encN; omega
    have es : setN (fun i => (ups s 2 v i).isSome) = setN (fun i => (s i).isSome) := by simp [setN, ups, hs]
    have e2 : encN (ups s 2 v) = 1024 * (32 * (1 * gv s 3 + 32 * gv s 4 + 1024 * gv s 5 + 32768 * setN (fun i => (s i).isSome)) + v) + (1 * gv s 0 + 32 * gv s 1) := by
      unfold encN
      rw [es, show gv (ups s 2 v) 0 = gv s 0 from rfl, show gv (ups s 2 v) 1 = gv s 1 from rfl, show gv (ups s 2 v) 2 = v from rfl, show gv (ups s 2 v) 3 = gv s 3 from rfl, show gv (ups s 2 v) 4 = gv s 4 from rfl, show gv (ups s 2 v) 5 = gv s 5 from rfl]
      omega
    unfold enc
    rw [e1, e2]
    exact wgN F (i := 2) (A := 1 * gv s 0 + 32 * gv s 1) (B := 1 * gv s 3 + 32 * gv s 4 + 1024 * gv s 5 + 32768 * setN (fun i => (s i).isSome)) (g := gv s 2) (by decide) (show 1 * gv s 0 + 32 * gv s 1 < 1024 by omega) (h 2) hv
  · have e1 : encN s = 32768 * (32 * (1 * gv s 4 + 32 * gv s 5 + 1024 * setN (fun i => (s i).isSome)) + gv s 3) + (1 * gv s 0 + 32 * gv s 1 + 1024 * gv s 2) := by unfold encN; omega
    have es : setN (fun i => (ups s 3 v i).isSome) = setN (fun i => (s i).isSome) := by simp [setN, ups, hs]
    have e2 : encN (ups s 3 v) = 32768 * (32 * (1 * gv s 4 + 32 * gv s 5 + 1024 * setN (fun i => (s i).isSome)) + v) + (1 * gv s 0 + 32 * gv s 1 + 1024 * gv s 2) := by
      unfold encN
      rw [es, show gv (ups s 3 v) 0 = gv s 0 from rfl, show gv (ups s 3 v) 1 = gv s 1 from rfl, show gv (ups s 3 v) 2 = gv s 2 from rfl, show gv (ups s 3 v) 3 = v from rfl, show gv (ups s 3 v) 4 = gv s 4 from rfl, show gv (ups s 3 v) 5 = gv s 5 from rfl]
      omega
    unfold enc
    rw [e1, e2]
    exact wgN F (i := 3) (A := 1 * gv s 0 + 32 * gv s 1 + 1024 * gv s 2) (B := 1 * gv s 4 + 32 * gv s 5 + 1024 * setN (fun i => (s i).isSome)) (g := gv s 3) (by decide) (show 1 * gv s 0 + 32 * gv s 1 + 1024 * gv s 2 < 32768 by omega) (h 3) hv
  · have e1 : encN s = 1048576 * (32 * (1 * gv s 5 + 32 * setN (fun i => (s i).isSome)) + gv s 4) + (1 * gv s 0 + 32 * gv s 1 + 1024 * gv s 2 + 32768 * gv s 3) := by unfold encN; omega
    have es : setN (fun i => (ups s 4 v i).isSome) = setN (fun i => (s i).isSome) := by simp [setN, ups, hs]
    have e2 : encN (ups s 4 v) = 1048576 * (32 * (1 * gv s 5 + 32 * setN (fun i => (s i).isSome)) + v) + (1 * gv s 0 + 32 * gv s 1 + 1024 * gv s 2 + 32768 * gv s 3) := by
      unfold encN
      rw [es, show gv (ups s 4 v) 0 = gv s 0 from rfl, show gv (ups s 4 v) 1 = gv s 1 from rfl, show gv (ups s 4 v) 2 = gv s 2 from rfl, show gv (ups s 4 v) 3 = gv s 3 from rfl, show gv (ups s 4 v) 4 = v from rfl, show gv (ups s 4 v) 5 = gv s 5 from rfl]
      omega
    unfold enc
    rw [e1, e2]
    exact wgN F (i := 4) (A := 1 * gv s 0 + 32 * gv s 1 + 1024 * gv s 2 + 32768 * gv s 3) (B := 1 * gv s 5 + 32 * setN (fun i => (s i).isSome)) (g := gv s 4) (by decide) (show 1 * gv s 0 + 32 * gv s 1 + 1024 * gv s 2 + 32768 * gv s 3 < 1048576 by omega) (h 4) hv
  · have e1 : encN s = 33554432 * (32 * (1 * setN (fun i => (s i).isSome)) + gv s 5) + (1 * gv s 0 + 32 * gv s 1 + 1024 * gv s 2 + 32768 * gv s 3 + 1048576 * gv s 4) := by unfold encN; omega
    have es : setN (fun i => (ups s 5 v i).isSome) = setN (fun i => (s i).isSome) := by simp [setN, ups, hs]
    have e2 : encN (ups s 5 v) = 33554432 * (32 * (1 * setN (fun i => (s i).isSome)) + v) + (1 * gv s 0 + 32 * gv s 1 + 1024 * gv s 2 + 32768 * gv s 3 + 1048576 * gv s 4) := by
      unfold encN
      rw [es, show gv (ups s 5 v) 0 = gv s 0 from rfl, show gv (ups s 5 v) 1 = gv s 1 from rfl, show gv (ups s 5 v) 2 = gv s 2 from rfl, show gv (ups s 5 v) 3 = gv s 3 from rfl, show gv (ups s 5 v) 4 = gv s 4 from rfl, show gv (ups s 5 v) 5 = v from rfl]
      omega
    unfold enc
    rw [e1, e2]
    exact wgN F (i := 5) (A := 1 * gv s 0 + 32 * gv s 1 + 1024 * gv s 2 + 32768 * gv s 3 + 1048576 * gv s 4) (B := 1 * setN (fun i => (s i).isSome)) (g := gv s 5) (by decide) (show 1 * gv s 0 + 32 * gv s 1 + 1024 * gv s 2 + 32768 * gv s 3 + 1048576 * gv s 4 < 33554432 by omega) (h 5) hv
theorem c_withNew (F : Nat) {s : Nat → Option Nat} {i v : Nat} (h : HB s) (hi : i < 6) (hs : s i = none) (hv : v < 32) : fX1_withNew F (enc s) (Int32.ofNat i) (Int32.ofNat v) = some (enc (ups s i v)) := by
  have h0 := h 0; have h1 := h 1; have h2 := h 2; have h3 := h 3; have h4 := h 4; have h5 := h 5
  have h6 := setN_lt (fun i => (s i).isSome)
  have b0 := Bool.toNat_le (s 0).isSome; have b1 := Bool.toNat_le (s 1).isSome; have b2 := Bool.toNat_le (s 2).isSome; have b3 := Bool.toNat_le (s 3).isSome; have b4 := Bool.toNat_le (s 4).isSome; have b5 := Bool.toNat_le (s 5).isSome
  have hz : (s i).isSome.toNat = 0 := by rw [hs]; rfl
  have hg : gv s i = 0 := by unfold gv; rw [hs]; rfl
  rcases (show i = 0 ∨ i = 1 ∨ i = 2 ∨ i = 3 ∨ i = 4 ∨ i = 5 by omega) with rfl | rfl | rfl | rfl | rfl | rfl
  · have e1 : encN s = 1 * (32 * (1 * gv s 1 + 32 * gv s 2 + 1024 * gv s 3 + 32768 * gv s 4 + 1048576 * gv s 5 + 33554432 * setN (fun i => (s i).isSome)) + gv s 0) + (0) := by unfold encN; omega
    have e3 : 1 * (32 * (1 * gv s 1 + 32 * gv s 2 + 1024 * gv s 3 + 32768 * gv s 4 + 1048576 * gv s 5 + 33554432 * setN (fun i => (s i).isSome)) + v) + (0) = 1073741824 * (2 * (1 * (s 1).isSome.toNat + 2 * (s 2).isSome.toNat + 4 * (s 3).isSome.toNat + 8 * (s 4).isSome.toNat + 16 * (s 5).isSome.toNat)) + (1 * v + 32 * gv s 1 + 1024 * gv s 2 + 32768 * gv s 3 + 1048576 * gv s 4 + 33554432 * gv s 5) := by unfold setN; dsimp only; omega
    have e2 : encN (ups s 0 v) = 1073741824 * (2 * (1 * (s 1).isSome.toNat + 2 * (s 2).isSome.toNat + 4 * (s 3).isSome.toNat + 8 * (s 4).isSome.toNat + 16 * (s 5).isSome.toNat) + 1) + (1 * v + 32 * gv s 1 + 1024 * gv s 2 + 32768 * gv s 3 + 1048576 * gv s 4 + 33554432 * gv s 5) := by
      unfold encN setN
      dsimp only
      rw [show gv (ups s 0 v) 0 = v from rfl, show gv (ups s 0 v) 1 = gv s 1 from rfl, show gv (ups s 0 v) 2 = gv s 2 from rfl, show gv (ups s 0 v) 3 = gv s 3 from rfl, show gv (ups s 0 v) 4 = gv s 4 from rfl, show gv (ups s 0 v) 5 = gv s 5 from rfl, show (ups s 0 v 0).isSome = true from rfl, show (ups s 0 v 1).isSome = (s 1).isSome from rfl, show (ups s 0 v 2).isSome = (s 2).isSome from rfl, show (ups s 0 v 3).isSome = (s 3).isSome from rfl, show (ups s 0 v 4).isSome = (s 4).isSome from rfl, show (ups s 0 v 5).isSome = (s 5).isSome from rfl]
      simp only [Bool.toNat_true]
      omega
    unfold fX1_withNew enc
    rw [e1, e2]
    have w1 : fX1_withGrief F (Int64.ofNat (1 * (32 * (1 * gv s 1 + 32 * gv s 2 + 1024 * gv s 3 + 32768 * gv s 4 + 1048576 * gv s 5 + 33554432 * setN (fun i => (s i).isSome)) + gv s 0) + (0))) (Int32.ofNat 0) (Int32.ofNat v) = some (Int64.ofNat (1 * (32 * (1 * gv s 1 + 32 * gv s 2 + 1024 * gv s 3 + 32768 * gv s 4 + 1048576 * gv s 5 + 33554432 * setN (fun i => (s i).isSome)) + v) + (0))) := wgN F (i := 0) (A := 0) (B := 1 * gv s 1 + 32 * gv s 2 + 1024 * gv s 3 + 32768 * gv s 4 + 1048576 * gv s 5 + 33554432 * setN (fun i => (s i).isSome)) (g := gv s 0) (v := v) (by decide) (show 0 < 1 by omega) (h 0) hv
    rw [w1, bd1_mk, e3]
    exact congrArg some (stN F (i := 0) (A := 1 * v + 32 * gv s 1 + 1024 * gv s 2 + 32768 * gv s 3 + 1048576 * gv s 4 + 33554432 * gv s 5) (B := 1 * (s 1).isSome.toNat + 2 * (s 2).isSome.toNat + 4 * (s 3).isSome.toNat + 8 * (s 4).isSome.toNat + 16 * (s 5).isSome.toNat) (by decide) (show 1 * v + 32 * gv s 1 + 1024 * gv s 2 + 32768 * gv s 3 + 1048576 * gv s 4 + 33554432 * gv s 5 < 1073741824 by omega))
  · have e1 : encN s = 32 * (32 * (1 * gv s 2 + 32 * gv s 3 + 1024 * gv s 4 + 32768 * gv s 5 + 1048576 * setN (fun i => (s i).isSome)) + gv s 1) + (1 * gv s 0) := by unfold encN; omega
    have e3 : 32 * (32 * (1 * gv s 2 + 32 * gv s 3 + 1024 * gv s 4 + 32768 * gv s 5 + 1048576 * setN (fun i => (s i).isSome)) + v) + (1 * gv s 0) = 2147483648 * (2 * (1 * (s 2).isSome.toNat + 2 * (s 3).isSome.toNat + 4 * (s 4).isSome.toNat + 8 * (s 5).isSome.toNat)) + (1 * gv s 0 + 32 * v + 1024 * gv s 2 + 32768 * gv s 3 + 1048576 * gv s 4 + 33554432 * gv s 5 + 1073741824 * (s 0).isSome.toNat) := by unfold setN; dsimp only; omega
    have e2 : encN (ups s 1 v) = 2147483648 * (2 * (1 * (s 2).isSome.toNat + 2 * (s 3).isSome.toNat + 4 * (s 4).isSome.toNat + 8 * (s 5).isSome.toNat) + 1) + (1 * gv s 0 + 32 * v + 1024 * gv s 2 + 32768 * gv s 3 + 1048576 * gv s 4 + 33554432 * gv s 5 + 1073741824 * (s 0).isSome.toNat) := by
      unfold encN setN
      dsimp only
      rw [show gv (ups s 1 v) 0 = gv s 0 from rfl, show gv (ups s 1 v) 1 = v from rfl, show gv (ups s 1 v) 2 = gv s 2 from rfl, show gv (ups s 1 v) 3 = gv s 3 from rfl, show gv (ups s 1 v) 4 = gv s 4 from rfl, show gv (ups s 1 v) 5 = gv s 5 from rfl, show (ups s 1 v 0).isSome = (s 0).isSome from rfl, show (ups s 1 v 1).isSome = true from rfl, show (ups s 1 v 2).isSome = (s 2).isSome from rfl, show (ups s 1 v 3).isSome = (s 3).isSome from rfl, show (ups s 1 v 4).isSome = (s 4).isSome from rfl, show (ups s 1 v 5).isSome = (s 5).isSome from rfl]
      simp only [Bool.toNat_true]
      omega
    unfold fX1_withNew enc
    rw [e1, e2]
    have w1 : fX1_withGrief F (Int64.ofNat (32 * (32 * (1 * gv s 2 + 32 * gv s 3 + 1024 * gv s 4 + 32768 * gv s 5 + 1048576 * setN (fun i => (s i).isSome)) + gv s 1) + (1 * gv s 0))) (Int32.ofNat 1) (Int32.ofNat v) = some (Int64.ofNat (32 * (32 * (1 * gv s 2 + 32 * gv s 3 + 1024 * gv s 4 + 32768 * gv s 5 + 1048576 * setN (fun i => (s i).isSome)) + v) + (1 * gv s 0))) := wgN F (i := 1) (A := 1 * gv s 0) (B := 1 * gv s 2 + 32 * gv s 3 + 1024 * gv s 4 + 32768 * gv s 5 + 1048576 * setN (fun i => (s i).isSome)) (g := gv s 1) (v := v) (by decide) (show 1 * gv s 0 < 32 by omega) (h 1) hv
    rw [w1, bd1_mk, e3]
    exact congrArg some (stN F (i := 1) (A := 1 * gv s 0 + 32 * v + 1024 * gv s 2 + 32768 * gv s 3 + 1048576 * gv s 4 + 33554432 * gv s 5 + 1073741824 * (s 0).isSome.toNat) (B := 1 * (s 2).isSome.toNat + 2 * (s 3).isSome.toNat + 4 * (s 4).isSome.toNat + 8 * (s 5).isSome.toNat) (by decide) (show 1 * gv s 0 + 32 * v + 1024 * gv s 2 + 32768 * gv s 3 + 1048576 * gv s 4 + 33554432 * gv s 5 + 1073741824 * (s 0).isSome.toNat < 2147483648 by omega))
  · have e1 : encN s = 1024 * (32 * (1 * gv s 3 + 32 * gv s 4 + 1024 * gv s 5 + 32768 * setN (fun i => (s i).isSome)) + gv s 2) + (1 * gv s 0 + 32 * gv s 1) := by unfold encN; omega
    have e3 : 1024 * (32 * (1 * gv s 3 + 32 * gv s 4 + 1024 * gv s 5 + 32768 * setN (fun i => (s i).isSome)) + v) + (1 * gv s 0 + 32 * gv s 1) = 4294967296 * (2 * (1 * (s 3).isSome.toNat + 2 * (s 4).isSome.toNat + 4 * (s 5).isSome.toNat)) + (1 * gv s 0 + 32 * gv s 1 + 1024 * v + 32768 * gv s 3 + 1048576 * gv s 4 + 33554432 * gv s 5 + 1073741824 * (s 0).isSome.toNat + 2147483648 * (s 1).isSome.toNat) := by unfold setN; dsimp only; omega
    have e2 : encN (ups s 2 v) = 4294967296 * (2 * (1 * (s 3).isSome.toNat + 2 * (s 4).isSome.toNat + 4 * (s 5).isSome.toNat) + 1) + (1 * gv s 0 + 32 * gv s 1 + 1024 * v + 32768 * gv s 3 + 1048576 * gv s 4 + 33554432 * gv s 5 + 1073741824 * (s 0).isSome.toNat + 2147483648 * (s 1).isSome.toNat) := by
      unfold encN setN
      dsimp only
      rw [show gv (ups s 2 v) 0 = gv s 0 from rfl, show gv (ups s 2 v) 1 = gv s 1 from rfl, show gv (ups s 2 v) 2 = v from rfl, show gv (ups s 2 v) 3 = gv s 3 from rfl, show gv (ups s 2 v) 4 = gv s 4 from rfl, show gv (ups s 2 v) 5 = gv s 5 from rfl, show (ups s 2 v 0).isSome = (s 0).isSome from rfl, show (ups s 2 v 1).isSome = (s 1).isSome from rfl, show (ups s 2 v 2).isSome = true from rfl, show (ups s 2 v 3).isSome = (s 3).isSome from rfl, show (ups s 2 v 4).isSome = (s 4).isSome from rfl, show (ups s 2 v 5).isSome = (s 5).isSome from rfl]
      simp only [Bool.toNat_true]
      omega
    unfold fX1_withNew enc
    rw [e1, e2]
    have w1 : fX1_withGrief F (Int64.ofNat (1024 * (32 * (1 * gv s 3 + 32 * gv s 4 + 1024 * gv s 5 + 32768 * setN (fun i => (s i).isSome)) + gv s 2) + (1 * gv s 0 + 32 * gv s 1))) (Int32.ofNat 2) (Int32.ofNat v) = some (Int64.ofNat (1024 * (32 * (1 * gv s 3 + 32 * gv s 4 + 1024 * gv s 5 + 32768 * setN (fun i => (s i).isSome)) + v) + (1 * gv s 0 + 32 * gv s 1))) := wgN F (i := 2) (A := 1 * gv s 0 + 32 * gv s 1) (B := 1 * gv s 3 + 32 * gv s 4 + 1024 * gv s 5 + 32768 * setN (fun i => (s i).isSome)) (g := gv s 2) (v := v) (by decide) (show 1 * gv s 0 + 32 * gv s 1 < 1024 by omega) (h 2) hv
    rw [w1, bd1_mk, e3]
    exact congrArg some (stN F (i := 2) (A := 1 * gv s 0 + 32 * gv s 1 + 1024 * v + 32768 * gv s 3 + 1048576 * gv s 4 + 33554432 * gv s 5 + 1073741824 * (s 0).isSome.toNat + 2147483648 * (s 1).isSome.toNat) (B := 1 * (s 3).isSome.toNat + 2 * (s 4).isSome.toNat + 4 * (s 5).isSome.toNat) (by decide) (show 1 * gv s 0 + 32 * gv s 1 + 1024 * v + 32768 * gv s 3 + 1048576 * gv s 4 + 33554432 * gv s 5 + 1073741824 * (s 0).isSome.toNat + 2147483648 * (s 1).isSome.toNat < 4294967296 by omega))
  · have e1 : encN s = 32768 * (32 * (1 * gv s 4 + 32 * gv s 5 + 1024 * setN (fun i => (s i).isSome)) + gv s 3) + (1 * gv s 0 + 32 * gv s 1 + 1024 * gv s 2) := by unfold encN; omega
    have e3 : 32768 * (32 * (1 * gv s 4 + 32 * gv s 5 + 1024 * setN (fun i => (s i).isSome)) + v) + (1 * gv s 0 + 32 * gv s 1 + 1024 * gv s 2) = 8589934592 * (2 * (1 * (s 4).isSome.toNat + 2 * (s 5).isSome.toNat)) + (1 * gv s 0 + 32 * gv s 1 + 1024 * gv s 2 + 32768 * v + 1048576 * gv s 4 + 33554432 * gv s 5 + 1073741824 * (s 0).isSome.toNat + 2147483648 * (s 1).isSome.toNat + 4294967296 * (s 2).isSome.toNat) := by unfold setN; dsimp only; omega
    have e2 : encN (ups s 3 v) = 8589934592 * (2 * (1 * (s 4).isSome.toNat + 2 * (s 5).isSome.toNat) + 1) + (1 * gv s 0 + 32 * gv s 1 + 1024 * gv s 2 + 32768 * v + 1048576 * gv s 4 + 33554432 * gv s 5 + 1073741824 * (s 0).isSome.toNat + 2147483648 * (s 1).isSome.toNat + 4294967296 * (s 2).isSome.toNat) := by
      unfold encN setN
      dsimp only
      rw [show gv (ups s 3 v) 0 = gv s 0 from rfl, show gv (ups s 3 v) 1 = gv s 1 from rfl, show gv (ups s 3 v) 2 = gv s 2 from rfl, show gv (ups s 3 v) 3 = v from rfl, show gv (ups s 3 v) 4 = gv s 4 from rfl, show gv (ups s 3 v) 5 = gv s 5 from rfl, show (ups s 3 v 0).isSome = (s 0).isSome from rfl, show (ups s 3 v 1).isSome = (s 1).isSome from rfl, show (ups s 3 v 2).isSome = (s 2).isSome from rfl, show (ups s 3 v 3).isSome = true from rfl, show (ups s 3 v 4).isSome = (s 4).isSome from rfl, show (ups s 3 v 5).isSome = (s 5).isSome from rfl]
      simp only [Bool.toNat_true]
      omega
    unfold fX1_withNew enc
    rw [e1, e2]
    have w1 : fX1_withGrief F (Int64.ofNat (32768 * (32 * (1 * gv s 4 + 32 * gv s 5 + 1024 * setN (fun i => (s i).isSome)) + gv s 3) + (1 * gv s 0 + 32 * gv s 1 + 1024 * gv s 2))) (Int32.ofNat 3) (Int32.ofNat v) = some (Int64.ofNat (32768 * (32 * (1 * gv s 4 + 32 * gv s 5 + 1024 * setN (fun i => (s i).isSome)) + v) + (1 * gv s 0 + 32 * gv s 1 + 1024 * gv s 2))) := wgN F (i := 3) (A := 1 * gv s 0 + 32 * gv s 1 + 1024 * gv s 2) (B := 1 * gv s 4 + 32 * gv s 5 + 1024 * setN (fun i => (s i).isSome)) (g := gv s 3) (v := v) (by decide) (show 1 * gv s 0 + 32 * gv s 1 + 1024 * gv s 2 < 32768 by omega) (h 3) hv
    rw [w1, bd1_mk, e3]
    exact congrArg some (stN F (i := 3) (A := 1 * gv s 0 + 32 * gv s 1 + 1024 * gv s 2 + 32768 * v + 1048576 * gv s 4 + 33554432 * gv s 5 + 1073741824 * (s 0).isSome.toNat + 2147483648 * (s 1).isSome.toNat + 4294967296 * (s 2).isSome.toNat) (B := 1 * (s 4).isSome.toNat + 2 * (s 5).isSome.toNat) (by decide) (show 1 * gv s 0 + 32 * gv s 1 + 1024 * gv s 2 + 32768 * v + 1048576 * gv s 4 + 33554432 * gv s 5 + 1073741824 * (s 0).isSome.toNat + 2147483648 * (s 1).isSome.toNat + 4294967296 * (s 2).isSome.toNat < 8589934592 by omega))
  · have e1 : encN s = 1048576 * (32 * (1 * gv s 5 + 32 * setN (fun i => (s i).isSome)) + gv s 4) + (1 * gv s 0 + 32 * gv s 1 + 1024 * gv s 2 + 32768 * gv s 3) := by unfold encN; omega
    have e3 : 1048576 * (32 * (1 * gv s 5 + 32 * setN (fun i => (s i).isSome)) + v) + (1 * gv s 0 + 32 * gv s 1 + 1024 * gv s 2 + 32768 * gv s 3) = 17179869184 * (2 * (1 * (s 5).isSome.toNat)) + (1 * gv s 0 + 32 * gv s 1 + 1024 * gv s 2 + 32768 * gv s 3 + 1048576 * v + 33554432 * gv s 5 + 1073741824 * (s 0).isSome.toNat + 2147483648 * (s 1).isSome.toNat + 4294967296 * (s 2).isSome.toNat + 8589934592 * (s 3).isSome.toNat) := by unfold setN; dsimp only; omega
    have e2 : encN (ups s 4 v) = 17179869184 * (2 * (1 * (s 5).isSome.toNat) + 1) + (1 * gv s 0 + 32 * gv s 1 + 1024 * gv s 2 + 32768 * gv s 3 + 1048576 * v + 33554432 * gv s 5 + 1073741824 * (s 0).isSome.toNat + 2147483648 * (s 1).isSome.toNat + 4294967296 * (s 2).isSome.toNat + 8589934592 * (s 3).isSome.toNat) := by
      unfold encN setN
      dsimp only
      rw [show gv (ups s 4 v) 0 = gv s 0 from rfl, show gv (ups s 4 v) 1 = gv s 1 from rfl, show gv (ups s 4 v) 2 = gv s 2 from rfl, show gv (ups s 4 v) 3 = gv s 3 from rfl, show gv (ups s 4 v) 4 = v from rfl, show gv (ups s 4 v) 5 = gv s 5 from rfl, show (ups s 4 v 0).isSome = (s 0).isSome from rfl, show (ups s 4 v 1).isSome = (s 1).isSome from rfl, show (ups s 4 v 2).isSome = (s 2).isSome from rfl, show (ups s 4 v 3).isSome = (s 3).isSome from rfl, show (ups s 4 v 4).isSome = true from rfl, show (ups s 4 v 5).isSome = (s 5).isSome from rfl]
      simp only [Bool.toNat_true]
      omega
    unfold fX1_withNew enc
    rw [e1, e2]
    have w1 : fX1_withGrief F (Int64.ofNat (1048576 * (32 * (1 * gv s 5 + 32 * setN (fun i => (s i).isSome)) + gv s 4) + (1 * gv s 0 + 32 * gv s 1 + 1024 * gv s 2 + 32768 * gv s 3))) (Int32.ofNat 4) (Int32.ofNat v) = some (Int64.ofNat (1048576 * (32 * (1 * gv s 5 + 32 * setN (fun i => (s i).isSome)) + v) + (1 * gv s 0 + 32 * gv s 1 + 1024 * gv s 2 + 32768 * gv s 3))) := wgN F (i := 4) (A := 1 * gv s 0 + 32 * gv s 1 + 1024 * gv s 2 + 32768 * gv s 3) (B := 1 * gv s 5 + 32 * setN (fun i => (s i).isSome)) (g := gv s 4) (v := v) (by decide) (show 1 * gv s 0 + 32 * gv s 1 + 1024 * gv s 2 + 32768 * gv s 3 < 1048576 by omega) (h 4) hv
    rw [w1, bd1_mk, e3]
    exact congrArg some (stN F (i := 4) (A := 1 * gv s 0 + 32 * gv s 1 + 1024 * gv s 2 + 32768 * gv s 3 + 1048576 * v + 33554432 * gv s 5 + 1073741824 * (s 0).isSome.toNat + 2147483648 * (s 1).isSome.toNat + 4294967296 * (s 2).isSome.toNat + 8589934592 * (s 3).isSome.toNat) (B := 1 * (s 5).isSome.toNat) (by decide) (show 1 * gv s 0 + 32 * gv s 1 + 1024 * gv s 2 + 32768 * gv s 3 + 1048576 * v + 33554432 * gv s 5 + 1073741824 * (s 0).isSome.toNat + 2147483648 * (s 1).isSome.toNat + 4294967296 * (s 2).isSome.toNat + 8589934592 * (s 3).isSome.toNat < 17179869184 by omega))
  · have e1 : encN s = 33554432 * (32 * (1 * setN (fun i => (s i).isSome)) + gv s 5) + (1 * gv s 0 + 32 * gv s 1 + 1024 * gv s 2 + 32768 * gv s 3 + 1048576 * gv s 4) := by unfold encN; omega
    have e3 : 33554432 * (32 * (1 * setN (fun i => (s i).isSome)) + v) + (1 * gv s 0 + 32 * gv s 1 + 1024 * gv s 2 + 32768 * gv s 3 + 1048576 * gv s 4) = 34359738368 * (2 * (0)) + (1 * gv s 0 + 32 * gv s 1 + 1024 * gv s 2 + 32768 * gv s 3 + 1048576 * gv s 4 + 33554432 * v + 1073741824 * (s 0).isSome.toNat + 2147483648 * (s 1).isSome.toNat + 4294967296 * (s 2).isSome.toNat + 8589934592 * (s 3).isSome.toNat + 17179869184 * (s 4).isSome.toNat) := by unfold setN; dsimp only; omega
    have e2 : encN (ups s 5 v) = 34359738368 * (2 * (0) + 1) + (1 * gv s 0 + 32 * gv s 1 + 1024 * gv s 2 + 32768 * gv s 3 + 1048576 * gv s 4 + 33554432 * v + 1073741824 * (s 0).isSome.toNat + 2147483648 * (s 1).isSome.toNat + 4294967296 * (s 2).isSome.toNat + 8589934592 * (s 3).isSome.toNat + 17179869184 * (s 4).isSome.toNat) := by
      unfold encN setN
      dsimp only
      rw [show gv (ups s 5 v) 0 = gv s 0 from rfl, show gv (ups s 5 v) 1 = gv s 1 from rfl, show gv (ups s 5 v) 2 = gv s 2 from rfl, show gv (ups s 5 v) 3 = gv s 3 from rfl, show gv (ups s 5 v) 4 = gv s 4 from rfl, show gv (ups s 5 v) 5 = v from rfl, show (ups s 5 v 0).isSome = (s 0).isSome from rfl, show (ups s 5 v 1).isSome = (s 1).isSome from rfl, show (ups s 5 v 2).isSome = (s 2).isSome from rfl, show (ups s 5 v 3).isSome = (s 3).isSome from rfl, show (ups s 5 v 4).isSome = (s 4).isSome from rfl, show (ups s 5 v 5).isSome = true from rfl]
      simp only [Bool.toNat_true]
      omega
    unfold fX1_withNew enc
    rw [e1, e2]
    have w1 : fX1_withGrief F (Int64.ofNat (33554432 * (32 * (1 * setN (fun i => (s i).isSome)) + gv s 5) + (1 * gv s 0 + 32 * gv s 1 + 1024 * gv s 2 + 32768 * gv s 3 + 1048576 * gv s 4))) (Int32.ofNat 5) (Int32.ofNat v) = some (Int64.ofNat (33554432 * (32 * (1 * setN (fun i => (s i).isSome)) + v) + (1 * gv s 0 + 32 * gv s 1 + 1024 * gv s 2 + 32768 * gv s 3 + 1048576 * gv s 4))) := wgN F (i := 5) (A := 1 * gv s 0 + 32 * gv s 1 + 1024 * gv s 2 + 32768 * gv s 3 + 1048576 * gv s 4) (B := 1 * setN (fun i => (s i).isSome)) (g := gv s 5) (v := v) (by decide) (show 1 * gv s 0 + 32 * gv s 1 + 1024 * gv s 2 + 32768 * gv s 3 + 1048576 * gv s 4 < 33554432 by omega) (h 5) hv
    rw [w1, bd1_mk, e3]
    exact congrArg some (stN F (i := 5) (A := 1 * gv s 0 + 32 * gv s 1 + 1024 * gv s 2 + 32768 * gv s 3 + 1048576 * gv s 4 + 33554432 * v + 1073741824 * (s 0).isSome.toNat + 2147483648 * (s 1).isSome.toNat + 4294967296 * (s 2).isSome.toNat + 8589934592 * (s 3).isSome.toNat + 17179869184 * (s 4).isSome.toNat) (B := 0) (by decide) (show 1 * gv s 0 + 32 * gv s 1 + 1024 * gv s 2 + 32768 * gv s 3 + 1048576 * gv s 4 + 33554432 * v + 1073741824 * (s 0).isSome.toNat + 2147483648 * (s 1).isSome.toNat + 4294967296 * (s 2).isSome.toNat + 8589934592 * (s 3).isSome.toNat + 17179869184 * (s 4).isSome.toNat < 34359738368 by omega))
theorem c_without (F : Nat) {s : Nat → Option Nat} {i : Nat} (h : HB s) (hi : i < 6) (hs : (s i).isSome = true) : fX1_without F (enc s) (Int32.ofNat i) = some (enc (rem s i)) := by
  have h0 := h 0; have h1 := h 1; have h2 := h 2; have h3 := h 3; have h4 := h 4; have h5 := h 5
  have h6 := setN_lt (fun i => (s i).isSome)
  have b0 := Bool.toNat_le (s 0).isSome; have b1 := Bool.toNat_le (s 1).isSome; have b2 := Bool.toNat_le (s 2).isSome; have b3 := Bool.toNat_le (s 3).isSome; have b4 := Bool.toNat_le (s 4).isSome; have b5 := Bool.toNat_le (s 5).isSome
  have hz : (s i).isSome.toNat = 1 := by rw [hs]; rfl
  rcases (show i = 0 ∨ i = 1 ∨ i = 2 ∨ i = 3 ∨ i = 4 ∨ i = 5 by omega) with rfl | rfl | rfl | rfl | rfl | rfl
  · have e1 : encN s = 1 * (32 * (1 * gv s 1 + 32 * gv s 2 + 1024 * gv s 3 + 32768 * gv s 4 + 1048576 * gv s 5 + 33554432 * setN (fun i => (s i).isSome)) + gv s 0) + (0) := by unfold encN; omega
    have e3 : 1 * (32 * (1 * gv s 1 + 32 * gv s 2 + 1024 * gv s 3 + 32768 * gv s 4 + 1048576 * gv s 5 + 33554432 * setN (fun i => (s i).isSome)) + 0) + (0) = 1073741824 * (2 * (1 * (s 1).isSome.toNat + 2 * (s 2).isSome.toNat + 4 * (s 3).isSome.toNat + 8 * (s 4).isSome.toNat + 16 * (s 5).isSome.toNat) + 1) + (1 * 0 + 32 * gv s 1 + 1024 * gv s 2 + 32768 * gv s 3 + 1048576 * gv s 4 + 33554432 * gv s 5) := by unfold setN; dsimp only; omega
    have e2 : encN (rem s 0) = 1073741824 * (2 * (1 * (s 1).isSome.toNat + 2 * (s 2).isSome.toNat + 4 * (s 3).isSome.toNat + 8 * (s 4).isSome.toNat + 16 * (s 5).isSome.toNat)) + (1 * 0 + 32 * gv s 1 + 1024 * gv s 2 + 32768 * gv s 3 + 1048576 * gv s 4 + 33554432 * gv s 5) := by
      unfold encN setN
      dsimp only
      rw [show gv (rem s 0) 0 = 0 from rfl, show gv (rem s 0) 1 = gv s 1 from rfl, show gv (rem s 0) 2 = gv s 2 from rfl, show gv (rem s 0) 3 = gv s 3 from rfl, show gv (rem s 0) 4 = gv s 4 from rfl, show gv (rem s 0) 5 = gv s 5 from rfl, show (rem s 0 0).isSome = false from rfl, show (rem s 0 1).isSome = (s 1).isSome from rfl, show (rem s 0 2).isSome = (s 2).isSome from rfl, show (rem s 0 3).isSome = (s 3).isSome from rfl, show (rem s 0 4).isSome = (s 4).isSome from rfl, show (rem s 0 5).isSome = (s 5).isSome from rfl]
      simp only [Bool.toNat_false]
      omega
    unfold fX1_without enc
    rw [e1, e2]
    have w1 : fX1_withGrief F (Int64.ofNat (1 * (32 * (1 * gv s 1 + 32 * gv s 2 + 1024 * gv s 3 + 32768 * gv s 4 + 1048576 * gv s 5 + 33554432 * setN (fun i => (s i).isSome)) + gv s 0) + (0))) (Int32.ofNat 0) (0 : Int32) = some (Int64.ofNat (1 * (32 * (1 * gv s 1 + 32 * gv s 2 + 1024 * gv s 3 + 32768 * gv s 4 + 1048576 * gv s 5 + 33554432 * setN (fun i => (s i).isSome)) + 0) + (0))) := wgN F (i := 0) (A := 0) (B := 1 * gv s 1 + 32 * gv s 2 + 1024 * gv s 3 + 32768 * gv s 4 + 1048576 * gv s 5 + 33554432 * setN (fun i => (s i).isSome)) (g := gv s 0) (v := 0) (by decide) (show 0 < 1 by omega) (h 0) (by decide)
    rw [w1, bd1_mk, e3]
    exact congrArg some (clN F (i := 0) (A := 1 * 0 + 32 * gv s 1 + 1024 * gv s 2 + 32768 * gv s 3 + 1048576 * gv s 4 + 33554432 * gv s 5) (B := 1 * (s 1).isSome.toNat + 2 * (s 2).isSome.toNat + 4 * (s 3).isSome.toNat + 8 * (s 4).isSome.toNat + 16 * (s 5).isSome.toNat) (g := 1) (by decide) (show 1 * 0 + 32 * gv s 1 + 1024 * gv s 2 + 32768 * gv s 3 + 1048576 * gv s 4 + 33554432 * gv s 5 < 1073741824 by omega) (by decide))
  · have e1 : encN s = 32 * (32 * (1 * gv s 2 + 32 * gv s 3 + 1024 * gv s 4 + 32768 * gv s 5 + 1048576 * setN (fun i => (s i).isSome)) + gv s 1) + (1 * gv s 0) := by unfold encN; omega
    have e3 : 32 * (32 * (1 * gv s 2 + 32 * gv s 3 + 1024 * gv s 4 + 32768 * gv s 5 + 1048576 * setN (fun i => (s i).isSome)) + 0) + (1 * gv s 0) = 2147483648 * (2 * (1 * (s 2).isSome.toNat + 2 * (s 3).isSome.toNat + 4 * (s 4).isSome.toNat + 8 * (s 5).isSome.toNat) + 1) + (1 * gv s 0 + 32 * 0 + 1024 * gv s 2 + 32768 * gv s 3 + 1048576 * gv s 4 + 33554432 * gv s 5 + 1073741824 * (s 0).isSome.toNat) := by unfold setN; dsimp only; omega
    have e2 : encN (rem s 1) = 2147483648 * (2 * (1 * (s 2).isSome.toNat + 2 * (s 3).isSome.toNat + 4 * (s 4).isSome.toNat + 8 * (s 5).isSome.toNat)) + (1 * gv s 0 + 32 * 0 + 1024 * gv s 2 + 32768 * gv s 3 + 1048576 * gv s 4 + 33554432 * gv s 5 + 1073741824 * (s 0).isSome.toNat) := by
      unfold encN setN
      dsimp only
      rw [show gv (rem s 1) 0 = gv s 0 from rfl, show gv (rem s 1) 1 = 0 from rfl, show gv (rem s 1) 2 = gv s 2 from rfl, show gv (rem s 1) 3 = gv s 3 from rfl, show gv (rem s 1) 4 = gv s 4 from rfl, show gv (rem s 1) 5 = gv s 5 from rfl, show (rem s 1 0).isSome = (s 0).isSome from rfl, show (rem s 1 1).isSome = false from rfl, show (rem s 1 2).isSome = (s 2).isSome from rfl, show (rem s 1 3).isSome = (s 3).isSome from rfl, show (rem s 1 4).isSome = (s 4).isSome from rfl, show (rem s 1 5).isSome = (s 5).isSome from rfl]
      simp only [Bool.toNat_false]
      omega
    unfold fX1_without enc
    rw [e1, e2]
    have w1 : fX1_withGrief F (Int64.ofNat (32 * (32 * (1 * gv s 2 + 32 * gv s 3 + 1024 * gv s 4 + 32768 * gv s 5 + 1048576 * setN (fun i => (s i).isSome)) + gv s 1) + (1 * gv s 0))) (Int32.ofNat 1) (0 : Int32) = some (Int64.ofNat (32 * (32 * (1 * gv s 2 + 32 * gv s 3 + 1024 * gv s 4 + 32768 * gv s 5 + 1048576 * setN (fun i => (s i).isSome)) + 0) + (1 * gv s 0))) := wgN F (i := 1) (A := 1 * gv s 0) (B := 1 * gv s 2 + 32 * gv s 3 + 1024 * gv s 4 + 32768 * gv s 5 + 1048576 * setN (fun i => (s i).isSome)) (g := gv s 1) (v := 0) (by decide) (show 1 * gv s 0 < 32 by omega) (h 1) (by decide)
    rw [w1, bd1_mk, e3]
    exact congrArg some (clN F (i := 1) (A := 1 * gv s 0 + 32 * 0 + 1024 * gv s 2 + 32768 * gv s 3 + 1048576 * gv s 4 + 33554432 * gv s 5 + 1073741824 * (s 0).isSome.toNat) (B := 1 * (s 2).isSome.toNat + 2 * (s 3).isSome.toNat + 4 * (s 4).isSome.toNat + 8 * (s 5).isSome.toNat) (g := 1) (by decide) (show 1 * gv s 0 + 32 * 0 + 1024 * gv s 2 + 32768 * gv s 3 + 1048576 * gv s 4 + 33554432 * gv s 5 + 1073741824 * (s 0).isSome.toNat < 2147483648 by omega) (by decide))
  · have e1 : encN s = 1024 * (32 * (1 * gv s 3 + 32 * gv s 4 + 1024 * gv s 5 + 32768 * setN (fun i => (s i).isSome)) + gv s 2) + (1 * gv s 0 + 32 * gv s 1) := by unfold encN; omega
    have e3 : 1024 * (32 * (1 * gv s 3 + 32 * gv s 4 + 1024 * gv s 5 + 32768 * setN (fun i => (s i).isSome)) + 0) + (1 * gv s 0 + 32 * gv s 1) = 4294967296 * (2 * (1 * (s 3).isSome.toNat + 2 * (s 4).isSome.toNat + 4 * (s 5).isSome.toNat) + 1) + (1 * gv s 0 + 32 * gv s 1 + 1024 * 0 + 32768 * gv s 3 + 1048576 * gv s 4 + 33554432 * gv s 5 + 1073741824 * (s 0).isSome.toNat + 2147483648 * (s 1).isSome.toNat) := by unfold setN; dsimp only; omega
    have e2 : encN (rem s 2) = 4294967296 * (2 * (1 * (s 3).isSome.toNat + 2 * (s 4).isSome.toNat + 4 * (s 5).isSome.toNat)) + (1 * gv s 0 + 32 * gv s 1 + 1024 * 0 + 32768 * gv s 3 + 1048576 * gv s 4 + 33554432 * gv s 5 + 1073741824 * (s 0).isSome.toNat + 2147483648 * (s 1).isSome.toNat) := by
      unfold encN setN
      dsimp only
      rw [show gv (rem s 2) 0 = gv s 0 from rfl, show gv (rem s 2) 1 = gv s 1 from rfl, show gv (rem s 2) 2 = 0 from rfl, show gv (rem s 2) 3 = gv s 3 from rfl, show gv (rem s 2) 4 = gv s 4 from rfl, show gv (rem s 2) 5 = gv s 5 from rfl, show (rem s 2 0).isSome = (s 0).isSome from rfl, show (rem s 2 1).isSome = (s 1).isSome from rfl, show (rem s 2 2).isSome = false from rfl, show (rem s 2 3).isSome = (s 3).isSome from rfl, show (rem s 2 4).isSome = (s 4).isSome from rfl, show (rem s 2 5).isSome = (s 5).isSome from rfl]
      simp only [Bool.toNat_false]
      omega
    unfold fX1_without enc
    rw [e1, e2]
    have w1 : fX1_withGrief F (Int64.ofNat (1024 * (32 * (1 * gv s 3 + 32 * gv s 4 + 1024 * gv s 5 + 32768 * setN (fun i => (s i).isSome)) + gv s 2) + (1 * gv s 0 + 32 * gv s 1))) (Int32.ofNat 2) (0 : Int32) = some (Int64.ofNat (1024 * (32 * (1 * gv s 3 + 32 * gv s 4 + 1024 * gv s 5 + 32768 * setN (fun i => (s i).isSome)) + 0) + (1 * gv s 0 + 32 * gv s 1))) := wgN F (i := 2) (A := 1 * gv s 0 + 32 * gv s 1) (B := 1 * gv s 3 + 32 * gv s 4 + 1024 * gv s 5 + 32768 * setN (fun i => (s i).isSome)) (g := gv s 2) (v := 0) (by decide) (show 1 * gv s 0 + 32 * gv s 1 < 1024 by omega) (h 2) (by decide)
    rw [w1, bd1_mk, e3]
    exact congrArg some (clN F (i := 2) (A := 1 * gv s 0 + 32 * gv s 1 + 1024 * 0 + 32768 * gv s 3 + 1048576 * gv s 4 + 33554432 * gv s 5 + 1073741824 * (s 0).isSome.toNat + 2147483648 * (s 1).isSome.toNat) (B := 1 * (s 3).isSome.toNat + 2 * (s 4).isSome.toNat + 4 * (s 5).isSome.toNat) (g := 1) (by decide) (show 1 * gv s 0 + 32 * gv s 1 + 1024 * 0 + 32768 * gv s 3 + 1048576 * gv s 4 + 33554432 * gv s 5 + 1073741824 * (s 0).isSome.toNat + 2147483648 * (s 1).isSome.toNat < 4294967296 by omega) (by decide))
  · have e1 : encN s = 32768 * (32 * (1 * gv s 4 + 32 * gv s 5 + 1024 * setN (fun i => (s i).isSome)) + gv s 3) + (1 * gv s 0 + 32 * gv s 1 + 1024 * gv s 2) := by unfold encN; omega
    have e3 : 32768 * (32 * (1 * gv s 4 + 32 * gv s 5 + 1024 * setN (fun i => (s i).isSome)) + 0) + (1 * gv s 0 + 32 * gv s 1 + 1024 * gv s 2) = 8589934592 * (2 * (1 * (s 4).isSome.toNat + 2 * (s 5).isSome.toNat) + 1) + (1 * gv s 0 + 32 * gv s 1 + 1024 * gv s 2 + 32768 * 0 + 1048576 * gv s 4 + 33554432 * gv s 5 + 1073741824 * (s 0).isSome.toNat + 2147483648 * (s 1).isSome.toNat + 4294967296 * (s 2).isSome.toNat) := by unfold setN; dsimp only; omega
    have e2 : encN (rem s 3) = 8589934592 * (2 * (1 * (s 4).isSome.toNat + 2 * (s 5).isSome.toNat)) + (1 * gv s 0 + 32 * gv s 1 + 1024 * gv s 2 + 32768 * 0 + 1048576 * gv s 4 + 33554432 * gv s 5 + 1073741824 * (s 0).isSome.toNat + 2147483648 * (s 1).isSome.toNat + 4294967296 * (s 2).isSome.toNat) := by
      unfold encN setN
      dsimp only
      rw [show gv (rem s 3) 0 = gv s 0 from rfl, show gv (rem s 3) 1 = gv s 1 from rfl, show gv (rem s 3) 2 = gv s 2 from rfl, show gv (rem s 3) 3 = 0 from rfl, show gv (rem s 3) 4 = gv s 4 from rfl, show gv (rem s 3) 5 = gv s 5 from rfl, show (rem s 3 0).isSome = (s 0).isSome from rfl, show (rem s 3 1).isSome = (s 1).isSome from rfl, show (rem s 3 2).isSome = (s 2).isSome from rfl, show (rem s 3 3).isSome = false from rfl, show (rem s 3 4).isSome = (s 4).isSome from rfl, show (rem s 3 5).isSome = (s 5).isSome from rfl]
      simp only [Bool.toNat_false]
      omega
    unfold fX1_without enc
    rw [e1, e2]
    have w1 : fX1_withGrief F (Int64.ofNat (32768 * (32 * (1 * gv s 4 + 32 * gv s 5 + 1024 * setN (fun i => (s i).isSome)) + gv s 3) + (1 * gv s 0 + 32 * gv s 1 + 1024 * gv s 2))) (Int32.ofNat 3) (0 : Int32) = some (Int64.ofNat (32768 * (32 * (1 * gv s 4 + 32 * gv s 5 + 1024 * setN (fun i => (s i).isSome)) + 0) + (1 * gv s 0 + 32 * gv s 1 + 1024 * gv s 2))) := wgN F (i := 3) (A := 1 * gv s 0 + 32 * gv s 1 + 1024 * gv s 2) (B := 1 * gv s 4 + 32 * gv s 5 + 1024 * setN (fun i => (s i).isSome)) (g := gv s 3) (v := 0) (by decide) (show 1 * gv s 0 + 32 * gv s 1 + 1024 * gv s 2 < 32768 by omega) (h 3) (by decide)
    rw [w1, bd1_mk, e3]
    exact congrArg some (clN F (i := 3) (A := 1 * gv s 0 + 32 * gv s 1 + 1024 * gv s 2 + 32768 * 0 + 1048576 * gv s 4 + 33554432 * gv s 5 + 1073741824 * (s 0).isSome.toNat + 2147483648 * (s 1).isSome.toNat + 4294967296 * (s 2).isSome.toNat) (B := 1 * (s 4).isSome.toNat + 2 * (s 5).isSome.toNat) (g := 1) (by decide) (show 1 * gv s 0 + 32 * gv s 1 + 1024 * gv s 2 + 32768 * 0 + 1048576 * gv s 4 + 33554432 * gv s 5 + 1073741824 * (s 0).isSome.toNat + 2147483648 * (s 1).isSome.toNat + 4294967296 * (s 2).isSome.toNat < 8589934592 by omega) (by decide))
  · have e1 : encN s = 1048576 * (32 * (1 * gv s 5 + 32 * setN (fun i => (s i).isSome)) + gv s 4) + (1 * gv s 0 + 32 * gv s 1 + 1024 * gv s 2 + 32768 * gv s 3) := by unfold encN; omega
    have e3 : 1048576 * (32 * (1 * gv s 5 + 32 * setN (fun i => (s i).isSome)) + 0) + (1 * gv s 0 + 32 * gv s 1 + 1024 * gv s 2 + 32768 * gv s 3) = 17179869184 * (2 * (1 * (s 5).isSome.toNat) + 1) + (1 * gv s 0 + 32 * gv s 1 + 1024 * gv s 2 + 32768 * gv s 3 + 1048576 * 0 + 33554432 * gv s 5 + 1073741824 * (s 0).isSome.toNat + 2147483648 * (s 1).isSome.toNat + 4294967296 * (s 2).isSome.toNat + 8589934592 * (s 3).isSome.toNat) := by unfold setN; dsimp only; omega
    have e2 : encN (rem s 4) = 17179869184 * (2 * (1 * (s 5).isSome.toNat)) + (1 * gv s 0 + 32 * gv s 1 + 1024 * gv s 2 + 32768 * gv s 3 + 1048576 * 0 + 33554432 * gv s 5 + 1073741824 * (s 0).isSome.toNat + 2147483648 * (s 1).isSome.toNat + 4294967296 * (s 2).isSome.toNat + 8589934592 * (s 3).isSome.toNat) := by
      unfold encN setN
      dsimp only
      rw [show gv (rem s 4) 0 = gv s 0 from rfl, show gv (rem s 4) 1 = gv s 1 from rfl, show gv (rem s 4) 2 = gv s 2 from rfl, show gv (rem s 4) 3 = gv s 3 from rfl, show gv (rem s 4) 4 = 0 from rfl, show gv (rem s 4) 5 = gv s 5 from rfl, show (rem s 4 0).isSome = (s 0).isSome from rfl, show (rem s 4 1).isSome = (s 1).isSome from rfl, show (rem s 4 2).isSome = (s 2).isSome from rfl, show (rem s 4 3).isSome = (s 3).isSome from rfl, show (rem s 4 4).isSome = false from rfl, show (rem s 4 5).isSome = (s 5).isSome from rfl]
      simp only [Bool.toNat_false]
      omega
    unfold fX1_without enc
    rw [e1, e2]
    have w1 : fX1_withGrief F (Int64.ofNat (1048576 * (32 * (1 * gv s 5 + 32 * setN (fun i => (s i).isSome)) + gv s 4) + (1 * gv s 0 + 32 * gv s 1 + 1024 * gv s 2 + 32768 * gv s 3))) (Int32.ofNat 4) (0 : Int32) = some (Int64.ofNat (1048576 * (32 * (1 * gv s 5 + 32 * setN (fun i => (s i).isSome)) + 0) + (1 * gv s 0 + 32 * gv s 1 + 1024 * gv s 2 + 32768 * gv s 3))) := wgN F (i := 4) (A := 1 * gv s 0 + 32 * gv s 1 + 1024 * gv s 2 + 32768 * gv s 3) (B := 1 * gv s 5 + 32 * setN (fun i => (s i).isSome)) (g := gv s 4) (v := 0) (by decide) (show 1 * gv s 0 + 32 * gv s 1 + 1024 * gv s 2 + 32768 * gv s 3 < 1048576 by omega) (h 4) (by decide)
    rw [w1, bd1_mk, e3]
    exact congrArg some (clN F (i := 4) (A := 1 * gv s 0 + 32 * gv s 1 + 1024 * gv s 2 + 32768 * gv s 3 + 1048576 * 0 + 33554432 * gv s 5 + 1073741824 * (s 0).isSome.toNat + 2147483648 * (s 1).isSome.toNat + 4294967296 * (s 2).isSome.toNat + 8589934592 * (s 3).isSome.toNat) (B := 1 * (s 5).isSome.toNat) (g := 1) (by decide) (show 1 * gv s 0 + 32 * gv s 1 + 1024 * gv s 2 + 32768 * gv s 3 + 1048576 * 0 + 33554432 * gv s 5 + 1073741824 * (s 0).isSome.toNat + 2147483648 * (s 1).isSome.toNat + 4294967296 * (s 2).isSome.toNat + 8589934592 * (s 3).isSome.toNat < 17179869184 by omega) (by decide))
  · have e1 : encN s = 33554432 * (32 * (1 * setN (fun i => (s i).isSome)) + gv s 5) + (1 * gv s 0 + 32 * gv s 1 + 1024 * gv s 2 + 32768 * gv s 3 + 1048576 * gv s 4) := by unfold encN; omega
    have e3 : 33554432 * (32 * (1 * setN (fun i => (s i).isSome)) + 0) + (1 * gv s 0 + 32 * gv s 1 + 1024 * gv s 2 + 32768 * gv s 3 + 1048576 * gv s 4) = 34359738368 * (2 * (0) + 1) + (1 * gv s 0 + 32 * gv s 1 + 1024 * gv s 2 + 32768 * gv s 3 + 1048576 * gv s 4 + 33554432 * 0 + 1073741824 * (s 0).isSome.toNat + 2147483648 * (s 1).isSome.toNat + 4294967296 * (s 2).isSome.toNat + 8589934592 * (s 3).isSome.toNat + 17179869184 * (s 4).isSome.toNat) := by unfold setN; dsimp only; omega
    have e2 : encN (rem s 5) = 34359738368 * (2 * (0)) + (1 * gv s 0 + 32 * gv s 1 + 1024 * gv s 2 + 32768 * gv s 3 + 1048576 * gv s 4 + 33554432 * 0 + 1073741824 * (s 0).isSome.toNat + 2147483648 * (s 1).isSome.toNat + 4294967296 * (s 2).isSome.toNat + 8589934592 * (s 3).isSome.toNat + 17179869184 * (s 4).isSome.toNat) := by
      unfold encN setN
      dsimp only
      rw [show gv (rem s 5) 0 = gv s 0 from rfl, show gv (rem s 5) 1 = gv s 1 from rfl, show gv (rem s 5) 2 = gv s 2 from rfl, show gv (rem s 5) 3 = gv s 3 from rfl, show gv (rem s 5) 4 = gv s 4 from rfl, show gv (rem s 5) 5 = 0 from rfl, show (rem s 5 0).isSome = (s 0).isSome from rfl, show (rem s 5 1).isSome = (s 1).isSome from rfl, show (rem s 5 2).isSome = (s 2).isSome from rfl, show (rem s 5 3).isSome = (s 3).isSome from rfl, show (rem s 5 4).isSome = (s 4).isSome from rfl, show (rem s 5 5).isSome = false from rfl]
      simp only [Bool.toNat_false]
      omega
    unfold fX1_without enc
    rw [e1, e2]
    have w1 : fX1_withGrief F (Int64.ofNat (33554432 * (32 * (1 * setN (fun i => (s i).isSome)) + gv s 5) + (1 * gv s 0 + 32 * gv s 1 + 1024 * gv s 2 + 32768 * gv s 3 + 1048576 * gv s 4))) (Int32.ofNat 5) (0 : Int32) = some (Int64.ofNat (33554432 * (32 * (1 * setN (fun i => (s i).isSome)) + 0) + (1 * gv s 0 + 32 * gv s 1 + 1024 * gv s 2 + 32768 * gv s 3 + 1048576 * gv s 4))) := wgN F (i := 5) (A := 1 * gv s 0 + 32 * gv s 1 + 1024 * gv s 2 + 32768 * gv s 3 + 1048576 * gv s 4) (B := 1 * setN (fun i => (s i).isSome)) (g := gv s 5) (v := 0) (by decide) (show 1 * gv s 0 + 32 * gv s 1 + 1024 * gv s 2 + 32768 * gv s 3 + 1048576 * gv s 4 < 33554432 by omega) (h 5) (by decide)
    rw [w1, bd1_mk, e3]
    exact congrArg some (clN F (i := 5) (A := 1 * gv s 0 + 32 * gv s 1 + 1024 * gv s 2 + 32768 * gv s 3 + 1048576 * gv s 4 + 33554432 * 0 + 1073741824 * (s 0).isSome.toNat + 2147483648 * (s 1).isSome.toNat + 4294967296 * (s 2).isSome.toNat + 8589934592 * (s 3).isSome.toNat + 17179869184 * (s 4).isSome.toNat) (B := 0) (g := 1) (by decide) (show 1 * gv s 0 + 32 * gv s 1 + 1024 * gv s 2 + 32768 * gv s 3 + 1048576 * gv s 4 + 33554432 * 0 + 1073741824 * (s 0).isSome.toNat + 2147483648 * (s 1).isSome.toNat + 4294967296 * (s 2).isSome.toNat + 8589934592 * (s 3).isSome.toNat + 17179869184 * (s 4).isSome.toNat < 34359738368 by omega) (by decide))
