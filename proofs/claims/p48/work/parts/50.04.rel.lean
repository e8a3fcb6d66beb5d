def gv (s : Nat → Option Nat) (i : Nat) : Nat := (s i).getD 0
def setN (p : Nat → Bool) : Nat := (p 0).toNat + 2 * (p 1).toNat + 4 * (p 2).toNat + 8 * (p 3).toNat + 16 * (p 4).toNat + 32 * (p 5).toNat
def st (p : Nat → Bool) : Int32 := Int32.ofNat (setN p)
def encN (s : Nat → Option Nat) : Nat := gv s 0 + 32 * gv s 1 + 1024 * gv s 2 + 32768 * gv s 3 + 1048576 * gv s 4 + 33554432 * gv s 5 + 1073741824 * setN (fun i => (s i).isSome)
def enc (s : Nat → Option Nat) : Int64 := Int64.ofNat (encN s)
def HallOk (n : Nat) (s : Nat → Option Nat) : Prop := (∀ i, n ≤ i → s i = none) ∧ ∀ i g, s i = some g → g ≤ 20
def RM (t : Nat → Int32) (o : Nat) (s : Nat → Option Nat) (n : Nat) : Prop := (∀ i, i < 6 → t (o + i) = Int32.ofNat (gv s i)) ∧ t (o + 6) = st (fun i => decide (i < n) && (s i).isNone)
def RHs (n : Nat) (h : Int64) (t : Nat → Int32) (o : Nat) : Prop := ∃ s, HallOk n s ∧ h = enc s ∧ RM t o s n
def RPar (n c : Nat) (E : Nat → Int) (K : Nat → Nat) (S : Nat → Nat → Bool) (psize pclause : Int32) (peff pkin psig psee : Nat → Int32) (mguests mclause : Int32) (mdoes mkinds msees : Nat → Int32) : Prop :=
  n ≤ 6 ∧ psize = Int32.ofNat n ∧ mguests = Int32.ofNat n ∧ c ≤ 9 ∧ pclause = Int32.ofNat c ∧ mclause = Int32.ofNat c ∧ (∀ i, i < 4 → -4 ≤ E i ∧ E i ≤ 5 ∧ peff i = Int32.ofInt (E i) ∧ mdoes i = Int32.ofInt (E i)) ∧
  (∀ i, i < n → K i ≤ 5 ∧ pkin i = Int32.ofNat (K i) ∧ mkinds i = Int32.ofNat (K i)) ∧ (∀ i, i < n → psig i = st (S i) ∧ msees i = st (S i) ∧ psee i = st (fun j => S j i)) ∧ ∀ i j, S i j = true → i < n ∧ j < n
def RRow (k w : Nat) (rs : Nat → Int32) (rm : Nat → Nat → Int32) (mrs mr : Nat → Int32) : Prop := ∀ r, r < k → ∃ z : Int, -1 ≤ z ∧ z ≤ w ∧ rs r = Int32.ofInt z ∧ mrs r = Int32.ofInt z ∧ ∀ i : Nat, (i : Int) < z → rm r i = mr (w * r + i)
def RCou (n : Nat) (dee : Int32) (now : Int64) (ahe : Nat → Int64) (md : Int32) (mnow mbef : Nat → Int32) : Prop := ∃ d : Nat, d ≤ 40 ∧ dee = Int32.ofNat d ∧ md = Int32.ofNat d ∧ RHs n now mnow 0 ∧ ∀ k, k < d → RHs n (ahe k) mbef (7 * k)
def RKep (n : Nat) (kdee : Nat → Int32) (know : Nat → Int64) (kahe : Nat → Nat → Int64) (mkeeps mkept : Nat → Int32) : Prop := ∀ k, k < 3 → (kdee k = -1 ∧ mkept k = 0) ∨ (mkept k = 1 ∧ ∃ d : Nat, d ≤ 40 ∧ kdee k = Int32.ofNat d ∧ mkeeps (288 * k + 7) = Int32.ofNat d ∧ RHs n (know k) mkeeps (288 * k) ∧ ∀ j, j < d → RHs n (kahe k j) mkeeps (288 * k + 8 + 7 * j))
