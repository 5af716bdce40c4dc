/-! counts of bits, the class's own numbers -/
def bcA (x : Int32) : Int32 := x - ((x.toUInt32 >>> ((1 : Int32).toUInt32 &&& Int32.toUInt32 31)).toInt32 &&& 1431655765)
def bcB (x : Int32) : Int32 := (x &&& 858993459) + ((x.toUInt32 >>> ((2 : Int32).toUInt32 &&& Int32.toUInt32 31)).toInt32 &&& 858993459)
def bcC (x : Int32) : Int32 := (x + (x.toUInt32 >>> ((4 : Int32).toUInt32 &&& Int32.toUInt32 31)).toInt32) &&& 252645135
def bcD (x : Int32) : Int32 := x + (x.toUInt32 >>> ((8 : Int32).toUInt32 &&& Int32.toUInt32 31)).toInt32
def bcE (x : Int32) : Int32 := x + (x.toUInt32 >>> ((16 : Int32).toUInt32 &&& Int32.toUInt32 31)).toInt32
theorem bc_all : ∀ w, w < 256 → bcE (bcD (bcC (bcB (bcA (nI w))))) &&& 63 = nI (pcN w) := by decide +kernel
def f2S (n : Nat) (m : Nat → Int32) : Nat → Nat
  | 0 => 0
  | i + 1 => f2S n m i + pcN (fairN m i n)
theorem f2S_le {n : Nat} {m : Nat → Int32} (hn : n ≤ 8) : ∀ i, f2S n m i ≤ 8 * i
  | 0 => Nat.le_refl _
  | i + 1 => by
    have := f2S_le (m := m) hn i
    have h2 := pc_8 _ (fairN_256 (m := m) (o := i) hn)
    show f2S n m i + pcN (fairN m i n) ≤ _
    omega
def stB (n : Nat) (m : Nat → Int32) (w : Int32) : Int32 := if w = 0 then m 1 else if w = 1 then m 3 else if w = 2 then sumF m 4 n else if w = 3 then onF m n else if w = 4 then sumF m 3 n else if w = 5 then nI (f2S n m n / 2) else -1
theorem so_m {x : Int32} (h : x = -1) : ¬ 0 ≤ x := by subst h; decide
theorem so_p {x : Int32} (h1 : -1 ≤ x.toInt) (h : ¬ x = -1) : 0 ≤ x := by
  rw [Int32.le_iff_toInt_le]
  have : x.toInt ≠ -1 := fun q => h (Int32.toInt_inj.mp (by rw [q]; rfl))
  have e : (0 : Int32).toInt = 0 := rfl
  omega
theorem i64_32 (x : Int32) : x.toInt64.toInt32 = x := by simp
theorem in_out {x lo hi : Int32} (h : x.toInt < lo.toInt ∨ hi.toInt < x.toInt) : inB x lo hi = false := by
  apply decide_eq_false
  rw [Int32.lt_iff_toInt_lt, Int32.lt_iff_toInt_lt]
  omega
theorem in_m1 {x : Int32} (h : inB x (-1) 3 = true) (h1 : ¬ x = -1) : ¬ x < 0 := by
  have h := of_decide_eq_true h
  rw [Int32.lt_iff_toInt_lt, Int32.lt_iff_toInt_lt] at h
  rw [Int32.lt_iff_toInt_lt]
  have : x.toInt ≠ -1 := fun q => h1 (Int32.toInt_inj.mp (by rw [q]; rfl))
  have e : (0 : Int32).toInt = 0 := rfl
  have e1 : (-1 : Int32).toInt = -1 := by decide
  omega
theorem mi_w {n j : Nat} {k : Int32} (hj : j < n) (hn : n ≤ 8) : inB k 0 (nI n - nI j) = (inB k 0 8 && decide (j + k.toNatClampNeg ≤ n)) := by
  rw [pk_sub (by omega : j ≤ n)]
  have e0 : (0 : Int32).toInt = 0 := rfl
  have e8 : (8 : Int32).toInt = 8 := rfl
  have en : (nI (n - j)).toInt = ((n - j : Nat) : Int) := nI_toInt (by omega)
  have ec : k.toNatClampNeg = k.toInt.toNat := rfl
  unfold inB
  rw [← Bool.decide_and]
  apply decide_eq_decide.mpr
  rw [Int32.lt_iff_toInt_lt, Int32.lt_iff_toInt_lt, Int32.lt_iff_toInt_lt, en, e0, e8, ec]
  omega
def tkC (n : Nat) (m w u v : Nat → Int32) (g : Nat) (x : Int32) : Int32 :=
  if w g = 2 then (if x - 10 = v g then u g else -13) else if w g = 1 ∧ oneB n (u g) = true then (if inB x 0 5 = true ∧ undB (m (8 + 5 * (u g).toNatClampNeg)) x = true then u g else -13) else -11
theorem tk_as (x : Int32) : (inB x 0 5 || inB (x - 10) 0 3) = (inB x 0 13 && !(inB x 6 9)) := by
  have hb1 := x.toInt_lt
  have hb2 := x.le_toInt
  have e0 : (0 : Int32).toInt = 0 := rfl
  have e5 : (5 : Int32).toInt = 5 := rfl
  have e6 : (6 : Int32).toInt = 6 := rfl
  have e9 : (9 : Int32).toInt = 9 := rfl
  have e3 : (3 : Int32).toInt = 3 := rfl
  have e13 : (13 : Int32).toInt = 13 := rfl
  have hs : (x - 10).toInt = (x.toInt - 10).bmod (2 ^ 32) := by rw [Int32.toInt_sub]; rfl
  have hc : ((x - 10).toInt = x.toInt - 10 ∧ -2147483638 ≤ x.toInt) ∨ ((x - 10).toInt = x.toInt - 10 + 4294967296 ∧ x.toInt < -2147483638) := by
    rw [hs, Int.bmod_def]; omega
  have k1 : inB x 0 5 = decide (0 ≤ x.toInt ∧ x.toInt ≤ 5) := by unfold inB; apply decide_eq_decide.mpr; rw [Int32.lt_iff_toInt_lt, Int32.lt_iff_toInt_lt]; omega
  have k2 : inB (x - 10) 0 3 = decide (0 ≤ (x - 10).toInt ∧ (x - 10).toInt ≤ 3) := by unfold inB; apply decide_eq_decide.mpr; rw [Int32.lt_iff_toInt_lt, Int32.lt_iff_toInt_lt]; omega
  have k3 : inB x 0 13 = decide (0 ≤ x.toInt ∧ x.toInt ≤ 13) := by unfold inB; apply decide_eq_decide.mpr; rw [Int32.lt_iff_toInt_lt, Int32.lt_iff_toInt_lt]; omega
  have k4 : inB x 6 9 = decide (6 ≤ x.toInt ∧ x.toInt ≤ 9) := by unfold inB; apply decide_eq_decide.mpr; rw [Int32.lt_iff_toInt_lt, Int32.lt_iff_toInt_lt]; omega
  rw [k1, k2, k3, k4, ← decide_not, ← Bool.decide_and, ← Bool.decide_or]
  apply decide_eq_decide.mpr
  omega
