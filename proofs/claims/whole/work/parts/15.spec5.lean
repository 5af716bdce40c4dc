/-! acts: what a body's row of numbers becomes, how many ran, by the bodies in their order -/
def rnB (b : Nat → Int32) (r : Nat) (c : Int32) : Nat → Int32 := if r < 30 then upd b r c else b
def rnR (r : Nat) : Nat := if r < 30 then r + 1 else r
def trB (b : Nat → Int32) (r : Nat) : List Int32 → (Nat → Int32)
  | [] => b
  | c :: cs => trB (rnB b r c) (rnR r) cs
def trR (r : Nat) : List Int32 → Nat
  | [] => r
  | _ :: cs => trR (rnR r) cs
theorem rnR_le {r : Nat} (h : r ≤ 30) : rnR r ≤ 30 := by unfold rnR; split <;> omega
theorem trR_le {r : Nat} (h : r ≤ 30) : ∀ (cs : List Int32), trR r cs ≤ 30 := by
  intro cs
  induction cs generalizing r with
  | nil => exact h
  | cons c cs ih => exact ih (rnR_le h)
theorem trR_app (r : Nat) (a b : List Int32) : trR (trR r a) b = trR r (a ++ b) := by
  induction a generalizing r with
  | nil => rfl
  | cons c cs ih => exact ih (rnR r)
theorem trB_app (f : Nat → Int32) (r : Nat) (a b : List Int32) : trB (trB f r a) (trR r a) b = trB f r (a ++ b) := by
  induction a generalizing f r with
  | nil => rfl
  | cons c cs ih => exact ih (rnB f r c) (rnR r)
def sePV (q x : Int32) : Int32 := x + q * 4
def seV (k q a x : Int32) : Int32 := if k = 2 then sePV q x ^^^ 2 else if k = 3 then sePV q x + a else if k = 4 then 3 - (sePV q x ^^^ 2) else sePV q x
def seC (k : Int32) : List Int32 := if k = 2 then [30, 10] else if k = 3 then [51, 10] else if k = 4 then [40, 30, 10] else [10]
def paPV (k q a x : Int32) : Int32 := seV k q a x * 3 - a
def paPC (k : Int32) : List Int32 := 11 :: seC k
def paV (k q a x : Int32) : Int32 := if k = 1 then paPV k q a x - 6 else if k = 3 then paPV k q a x - 6 else if k = 4 then paPV k q a x ^^^ seV k q a a else paPV k q a x
def paC (k : Int32) : List Int32 := if k = 1 then 20 :: paPC k else if k = 3 then 20 :: paPC k else if k = 4 then 41 :: (paPC k ++ seC k) else paPC k
def ptPV (q a x : Int32) : Int32 := if q = a then 0 else x / (a - q)
def ptD (q a : Int32) : Int32 := if q = a then 1 else 0
def ptV (k q a x : Int32) : Int32 := if k = 3 then ptPV q a (x - 1) * 2 else if k = 5 then (if q = a then 0 else ptPV q a x - seV k q a q) else ptPV q a x
def ptC (k q a : Int32) : List Int32 := if k = 3 then [50, 12] else if k = 5 then (if q = a then [61, 12] else 61 :: 12 :: seC k) else [12]
def tuPV (k q a x : Int32) : Int32 := paV k q a x ^^^ 24
def tuPC (k : Int32) : List Int32 := 13 :: paC k
def tuV (k q a x : Int32) : Int32 := if k = 2 then tuPV k q a x + ptV k q a q else if k = 4 then tuPV k q a x + ptV k q a q else if k = 5 then tuPV k q a x * 5 else tuPV k q a x
def tuC (k q a : Int32) : List Int32 := if k = 2 then 31 :: (tuPC k ++ ptC k q a) else if k = 4 then 31 :: (tuPC k ++ ptC k q a) else if k = 5 then 60 :: tuPC k else tuPC k
def tuD (k q a : Int32) : Int32 := if k = 2 then ptD q a else if k = 4 then ptD q a else 0
theorem rnT {b : Nat → Int32} {r : Nat} {c : Int32} (h : r < 30) : upd b r c = rnB b r c := (if_pos h).symm
theorem rnF {b : Nat → Int32} {r : Nat} {c : Int32} (h : 30 ≤ r) : b = rnB b r c := (if_neg (by omega)).symm
theorem rrT {r : Nat} (h : r < 30) : r + 1 = rnR r := (if_pos h).symm
theorem rrF {r : Nat} (h : 30 ≤ r) : r = rnR r := (if_neg (by omega)).symm
theorem sub_ne {q a : Int32} (h : ¬ q = a) : ¬ a - q = 0 := fun e => h (by
  have := congrArg (· + q) e
  simp only [Int32.sub_add_cancel, Int32.zero_add] at this
  exact this.symm)
theorem ptD_0 {q a : Int32} (h : ptD q a = 0) : ¬ q = a := fun e => by
  rw [ptD, if_pos e] at h
  exact absurd h (by decide)
theorem ptD_1 {q a : Int32} (h : ¬ ptD q a = 0) : q = a := by
  by_cases e : q = a
  · exact e
  · exact absurd (if_neg e) h
def acV (t k q a x : Int32) : Int32 := if t = 0 then seV k q a x else if t = 1 then paV k q a x else if t = 2 then ptV k q a x else tuV k q a x
def acC (t k q a : Int32) : List Int32 := if t = 0 then seC k else if t = 1 then paC k else if t = 2 then ptC k q a else tuC k q a
def acD (t k q a : Int32) : Int32 := if t = 0 then 0 else if t = 1 then 0 else if t = 2 then ptD q a else tuD k q a
/-! rows, sheets, shelves -/
def prN (n : Nat) (m g : Nat → Int32) (o : Nat) : Nat → Nat → Int32
  | 0 => g
  | i + 1 => upd (upd (upd (prN n m g o i) (3 * i) (daysF n m (i + 1) (8 + 5 * o + 3))) (3 * i + 1) (daysF n m (i + 1) (8 + 5 * o + 4))) (3 * i + 2) (onF (daysF n m (i + 1)) n)
def jdF (P : Nat → Bool) : Nat → Nat → Int32
  | _, 0 => 0
  | i, d + 1 => if P i = true then jdF P (i + 1) d else nI (i + 1)
theorem jd_hit {P : Nat → Bool} {i b : Nat} (h : i < b) (hP : P i = false) : jdF P i (b - i) = nI (i + 1) := by
  obtain ⟨d, hd⟩ : ∃ d, b - i = d + 1 := ⟨b - i - 1, by omega⟩
  rw [hd]; exact if_neg (by rw [hP]; decide)
theorem jd_next {P : Nat → Bool} {i b : Nat} (h : i < b) (hP : P i = true) : jdF P i (b - i) = jdF P (i + 1) (b - (i + 1)) := by
  obtain ⟨d, hd⟩ : ∃ d, b - i = d + 1 := ⟨b - i - 1, by omega⟩
  rw [hd, show b - (i + 1) = d by omega]
  exact if_pos hP
theorem jd_end {P : Nat → Bool} {b : Nat} : jdF P b (b - b) = 0 := by rw [Nat.sub_self]; rfl
/-- a ROW is as it must be -/
def jdB (n : Nat) (m g : Nat → Int32) (o i : Nat) : Bool := decide (g (3 * i) = daysF n m (i + 1) (8 + 5 * o + 3) ∧ g (3 * i + 1) = daysF n m (i + 1) (8 + 5 * o + 4) ∧ g (3 * i + 2) = onF (daysF n m (i + 1)) n)
def tdP (n : Nat) (m g : Nat → Int32) (o t i : Nat) : Bool := decide (g (40 * t + i) = -1 ∨ g (40 * t + i) = daysF n m (i + 1) (8 + 5 * o + 4))
def tdB (P : Nat → Bool) : Nat → Nat → Bool
  | _, 0 => true
  | i, d + 1 => P i && tdB P (i + 1) d
theorem td_hit {P : Nat → Bool} {i b : Nat} (h : i < b) (hP : P i = false) : tdB P i (b - i) = false := by
  obtain ⟨d, hd⟩ : ∃ d, b - i = d + 1 := ⟨b - i - 1, by omega⟩
  rw [hd]; show (P i && _) = false; rw [hP]; rfl
theorem td_next {P : Nat → Bool} {i b : Nat} (h : i < b) (hP : P i = true) : tdB P i (b - i) = tdB P (i + 1) (b - (i + 1)) := by
  obtain ⟨d, hd⟩ : ∃ d, b - i = d + 1 := ⟨b - i - 1, by omega⟩
  rw [hd, show b - (i + 1) = d by omega]; show (P i && _) = _; rw [hP]; rfl
theorem td_end {P : Nat → Bool} {b : Nat} : tdB P b (b - b) = true := by rw [Nat.sub_self]; rfl
def zrN (g : Nat → Int32) (t : Nat) : Nat → Nat → Int32
  | 0 => g
  | i + 1 => upd (zrN g t i) (40 * t + i) 0
def lkF (s : Nat → Int32) (t : Nat) (x : Int32) : Int32 := if 0 ≤ s t then (if s t = x then 0 else -13) else -11
def hoF (n : Nat) (w u : Nat → Int32) (g : Nat) : Int32 := if w g = 1 then (if oneB n (u g) = true then w g else 0) else w g
theorem ho_1 {n g : Nat} {w u : Nat → Int32} (h : hoF n w u g = 1) : oneB n (u g) = true := by
  unfold hoF at h
  split at h
  · split at h
    · assumption
    · exact absurd h (by decide)
  · contradiction
def undB (w x : Int32) : Bool := decide (x = 0) || (decide (w = x) || ((decide (x = 1) && decide (w = 3)) || (decide (x = 2) && decide (w = 4))))
def coN (m : Nat → Int32) : Nat → Int32
  | 0 => 0
  | i + 1 => coN m i + (if m (8 + 5 * i + 4) ≤ 0 then 0 else 1)
def weN (m : Nat → Int32) : Nat → Int32
  | 0 => 0
  | i + 1 => weN m i + (if wearsF m i ≤ 0 then 0 else 1)
def maA (n r t u : Nat) (m : Nat → Int32) (w : Int32) : Int32 := if w = 0 then nI n else if w = 1 then nI (pcN (onN m n)) else if w = 2 then coN m n else if w = 3 then weN m n else if w = 4 then nI r else if w = 5 then nI t else if w = 6 then nI u else -1
def narF (s v : Int32) : Int32 := if s = 0 then v.toInt8.toInt32 else if s = 1 then v.toInt16.toInt32 else v
/-- fits: how many, the least, from 99 down -/
def ftM (P : Nat → Bool) : Nat → Int32
  | 0 => 0
  | i + 1 => ftM P i + (if P (99 - i) = true then 1 else 0)
def ftL (P : Nat → Bool) : Nat → Int32
  | 0 => -3
  | i + 1 => if P (99 - i) = true then nI (99 - i) else ftL P i
def fbS (m : Nat → Int32) (a : Nat) : Nat → Nat → Int32
  | 0 => m
  | i + 1 => upd m a (nI (99 - i))
def fbA (m g : Nat → Int32) (a : Nat) : Nat → Nat → Int32
  | 0 => g
  | i + 1 => upd m a (nI (99 - i))
theorem fbS_upd {m : Nat → Int32} {a : Nat} {v : Int32} : ∀ i, upd (fbS m a i) a v = upd m a v
  | 0 => rfl
  | _ + 1 => upd_upd
theorem dn_1 {i : Nat} (h : i < 100) : nI (100 - i) - 1 = nI (99 - i) := by
  rw [show 100 - i = (99 - i) + 1 by omega, nI_pred]
theorem dn_2 {i : Nat} (h : i < 100) : nI (99 - i) + -1 = nI (100 - (i + 1)) - 1 := by
  rw [show 100 - (i + 1) = 99 - i by omega]; rw [Int32.sub_eq_add_neg]
theorem dn_0 {i : Nat} (h : i ≤ 100) (hc : nI (100 - i) - 1 < 0) : i = 100 := by
  by_cases h1 : i < 100
  · rw [dn_1 h1] at hc; exact absurd hc (nI_pos (by omega))
  · omega
theorem dn_3 {i : Nat} (h : i ≤ 100) (hc : ¬ nI (100 - i) - 1 < 0) : i < 100 := by
  by_cases h1 : i < 100
  · exact h1
  · have e : i = 100 := by omega
    subst e
    exact absurd (by decide) hc
def mdN (m g : Nat → Int32) (o b : Nat) : Nat → Nat → Int32
  | 0 => m
  | i + 1 => upd (mdN m g o b i) (8 + 5 * (o + i) + 3) (heldI (g (b + i)))
theorem i64_add {a b : Nat} (h : a + b < 2 ^ 31) : (nI a).toInt64 + (nI b).toInt64 = (nI (a + b)).toInt64 := by
  rw [nI_l (by omega), nI_l (by omega), nI_l h, lN_add]
/-- the two numbers of which the common divisor is sought -/
def giN (a b : Nat) : Nat → Nat × Nat
  | 0 => (b, a)
  | i + 1 => ((giN a b i).2, (giN a b i).1 % (giN a b i).2)
theorem gi_s {a b i : Nat} (h : Nat.gcd (giN a b i).1 (giN a b i).2 = Nat.gcd b a ∧ (giN a b i).2 + i ≤ a ∧ (giN a b i).1 < 2 ^ 63 ∧ (giN a b i).2 < 2 ^ 63) (hz : (giN a b i).2 ≠ 0) : Nat.gcd (giN a b (i + 1)).1 (giN a b (i + 1)).2 = Nat.gcd b a ∧ (giN a b (i + 1)).2 + (i + 1) ≤ a ∧ (giN a b (i + 1)).1 < 2 ^ 63 ∧ (giN a b (i + 1)).2 < 2 ^ 63 := by
  obtain ⟨h1, h2, h3, h4⟩ := h
  have hm := Nat.mod_lt (giN a b i).1 (show (giN a b i).2 > 0 by omega)
  show Nat.gcd (giN a b i).2 ((giN a b i).1 % (giN a b i).2) = _ ∧ (giN a b i).1 % (giN a b i).2 + (i + 1) ≤ a ∧ (giN a b i).2 < _ ∧ (giN a b i).1 % (giN a b i).2 < _
  refine ⟨?_, by omega, h4, by omega⟩
  rw [← h1, Nat.gcd_comm (giN a b i).1, Nat.gcd_rec (giN a b i).2 (giN a b i).1, Nat.gcd_comm]
theorem lN_z {x : Nat} (h : x < 2 ^ 63) (hc : lN x = 0) : x = 0 := (pk_lEQ h (b := 0) (by decide)).mp hc
theorem lN_ne {x : Nat} (h0 : 0 < x) (h : x < 2 ^ 63) : ¬ lN x = 0 := fun hc => by have := lN_z h hc; omega
theorem lN_nz {x : Nat} (hc : ¬ lN x = 0) : x ≠ 0 := fun q => hc (by rw [q]; rfl)
def prtN (a b : Nat) (p : Int32) : Nat := if p = 0 then a / Nat.gcd b a else b / Nat.gcd b a
def fcN : Nat → Nat
  | 0 => 1
  | k + 1 => (k + 1) * fcN k
theorem fc_pos : ∀ k, 0 < fcN k
  | 0 => Nat.zero_lt_one
  | k + 1 => Nat.mul_pos (Nat.succ_pos k) (fc_pos k)
theorem fc_end {n i : Nat} (h : i ≤ n - 1) (hc : n < i + 2) : fcN (i + 1) = fcN n := by
  by_cases h0 : n = 0
  · subst h0
    obtain rfl : i = 0 := by omega
    rfl
  · obtain rfl : n = i + 1 := by omega
    rfl
theorem fc_8 : ∀ k, k ≤ 8 → fcN k ≤ 40320 := by
  intro k hk
  have : ∀ j, j < 9 → fcN j ≤ 40320 := by decide +kernel
  exact this k (by omega)
def odA (n k c : Nat) : Nat → Nat
  | 0 => fcN n / fcN k / fcN (n - k)
  | i + 1 => odA n k c i * (if k ≤ i then 100 - c else c)
theorem od_0 : ∀ n, n < 9 → ∀ k, k ≤ n → fcN n / fcN k / fcN (n - k) ≤ 70 := by decide +kernel
theorem odA_le {n k c : Nat} (hn : n ≤ 8) (hk : k ≤ n) (hc : c ≤ 99) : ∀ i, odA n k c i ≤ 70 * 100 ^ i
  | 0 => by rw [Nat.pow_zero]; exact od_0 n (by omega) k hk
  | i + 1 => by
    show odA n k c i * _ ≤ _
    rw [Nat.pow_succ, ← Nat.mul_assoc]
    exact Nat.mul_le_mul (odA_le hn hk hc i) (by split <;> omega)
theorem p100 {n : Nat} (h : n ≤ 8) : 100 ^ n ≤ 10000000000000000 := Nat.le_trans (Nat.pow_le_pow_right (by decide) h) (by decide)
def tkA (n : Nat) (m w u v : Nat → Int32) (g : Nat) (x : Int32) : Int32 :=
  if hoF n w u g = 0 then -11 else if 10 ≤ x then (if hoF n w u g = 2 then (if u g = x - 10 then v g else -13) else -13) else (if hoF n w u g = 1 then (if undB (m (8 + 5 * (u g).toNatClampNeg)) x = true then u g else -13) else -13)
def shlB (n : Nat) (g w k : Int32) : Bool := inB g 0 3 && (inB w 0 2 && (if w = 0 then oneB n k else if w = 1 then inB k 0 3 else true))
def shlR (s : Nat → Int32) (w k : Int32) : Bool := decide (w = 1) && !(decide (s k.toNatClampNeg < 0))
def sheB (g x k : Int32) : Bool := inB g 0 3 && (inB x (-1) 3 && (if x < 0 then true else decide (k ≤ 40)))
def sheC (g x k : Int32) : Bool := sheB g x k && (if x < 0 then true else decide (0 ≤ k))
