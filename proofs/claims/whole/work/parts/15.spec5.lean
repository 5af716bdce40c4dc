/-! acts: what a body's row of numbers becomes, how many ran, by the bodies in their order -/
def rnB (b : Nat → Int32) (r : Nat) (c : Int32) : Nat → Int32 := if r < 30 then upd b r c else b
def rnR (r : Nat) : Nat := if r < 30 then r + 1 else r
def trB (b : Nat → Int32) (r : Nat) : List Int32 → (Nat → Int32)
  | [] => b
  | c :: cs => trB (rnB b r c) (rnR r) cs
def trR (r : Nat) : List Int32 → Nat
  | [] => r
  | _ :: cs => trR (rnR r) cs
theorem rnR_le {r : Nat} (h : r ≤ 30) : rnR r ≤ 30 := by unfold rnR; split <;> omega
theorem trR_le {r : Nat} (h : r ≤ 30) : ∀ (cs : List Int32), trR r cs ≤ 30 := by
  intro cs
  induction cs generalizing r with
  | nil => exact h
  | cons c cs ih => exact ih (rnR_le h)
theorem trR_app (r : Nat) (a b : List Int32) : trR (trR r a) b = trR r (a ++ b) := by
  induction a generalizing r with
  | nil => rfl
  | cons c cs ih => exact ih (rnR r)
theorem trB_app (f : Nat → Int32) (r : Nat) (a b : List Int32) : trB (trB f r a) (trR r a) b = trB f r (a ++ b) := by
  induction a generalizing f r with
  | nil => rfl
  | cons c cs ih => exact ih (rnB f r c) (rnR r)
def sePV (q x : Int32) : Int32 := x + q * 4
def seV (k q a x : Int32) : Int32 := if k = 2 then sePV q x ^^^ 2 else if k = 3 then sePV q x + a else if k = 4 then 3 - (sePV q x ^^^ 2) else sePV q x
def seC (k : Int32) : List Int32 := if k = 2 then [30, 10] else if k = 3 then [51, 10] else if k = 4 then [40, 30, 10] else [10]
def paPV (k q a x : Int32) : Int32 := seV k q a x * 3 - a
def paPC (k : Int32) : List Int32 := 11 :: seC k
def paV (k q a x : Int32) : Int32 := if k = 1 then paPV k q a x - 6 else if k = 3 then paPV k q a x - 6 else if k = 4 then paPV k q a x ^^^ seV k q a a else paPV k q a x
def paC (k : Int32) : List Int32 := if k = 1 then 20 :: paPC k else if k = 3 then 20 :: paPC k else if k = 4 then 41 :: (paPC k ++ seC k) else paPC k
def ptPV (q a x : Int32) : Int32 := if q = a then 0 else x / (a - q)
def ptD (q a : Int32) : Int32 := if q = a then 1 else 0
def ptV (k q a x : Int32) : Int32 := if k = 3 then ptPV q a (x - 1) * 2 else if k = 5 then (if q = a then 0 else ptPV q a x - seV k q a q) else ptPV q a x
def ptC (k q a : Int32) : List Int32 := if k = 3 then [50, 12] else if k = 5 then (if q = a then [61, 12] else 61 :: 12 :: seC k) else [12]
def tuPV (k q a x : Int32) : Int32 := paV k q a x ^^^ 24
def tuPC (k : Int32) : List Int32 := 13 :: paC k
def tuV (k q a x : Int32) : Int32 := if k = 2 then tuPV k q a x + ptV k q a q else if k = 4 then tuPV k q a x + ptV k q a q else if k = 5 then tuPV k q a x * 5 else tuPV k q a x
def tuC (k q a : Int32) : List Int32 := if k = 2 then 31 :: (tuPC k ++ ptC k q a) else if k = 4 then 31 :: (tuPC k ++ ptC k q a) else if k = 5 then 60 :: tuPC k else tuPC k
def tuD (k q a : Int32) : Int32 := if k = 2 then ptD q a else if k = 4 then ptD q a else 0
theorem rnT {b : Nat → Int32} {r : Nat} {c : Int32} (h : r < 30) : upd b r c = rnB b r c := (if_pos h).symm
theorem rnF {b : Nat → Int32} {r : Nat} {c : Int32} (h : 30 ≤ r) : b = rnB b r c := (if_neg (by omega)).symm
theorem rrT {r : Nat} (h : r < 30) : r + 1 = rnR r := (if_pos h).symm
theorem rrF {r : Nat} (h : 30 ≤ r) : r = rnR r := (if_neg (by omega)).symm
theorem sub_ne {q a : Int32} (h : ¬ q = a) : ¬ a - q = 0 := fun e => h (by
  have := congrArg (· + q) e
  simp only [Int32.sub_add_cancel, Int32.zero_add] at this
  exact this.symm)
theorem ptD_0 {q a : Int32} (h : ptD q a = 0) : ¬ q = a := fun e => by
  rw [ptD, if_pos e] at h
  exact absurd h (by decide)
theorem ptD_1 {q a : Int32} (h : ¬ ptD q a = 0) : q = a := by
  by_cases e : q = a
  · exact e
  · exact absurd (if_neg e) h
def acV (t k q a x : Int32) : Int32 := if t = 0 then seV k q a x else if t = 1 then paV k q a x else if t = 2 then ptV k q a x else tuV k q a x
def acC (t k q a : Int32) : List Int32 := if t = 0 then seC k else if t = 1 then paC k else if t = 2 then ptC k q a else tuC k q a
def acD (t k q a : Int32) : Int32 := if t = 0 then 0 else if t = 1 then 0 else if t = 2 then ptD q a else tuD k q a
/-! rows, sheets, shelves -/
def prN (n : Nat) (m g : Nat → Int32) (o : Nat) : Nat → Nat → Int32
  | 0 => g
  | i + 1 => upd (upd (upd (prN n m g o i) (3 * i) (daysF n m (i + 1) (8 + 5 * o + 3))) (3 * i + 1) (daysF n m (i + 1) (8 + 5 * o + 4))) (3 * i + 2) (onF (daysF n m (i + 1)) n)
def jdF (P : Nat → Bool) : Nat → Nat → Int32
  | _, 0 => 0
  | i, d + 1 => if P i = true then jdF P (i + 1) d else nI (i + 1)
theorem jd_hit {P : Nat → Bool} {i b : Nat} (h : i < b) (hP : P i = false) : jdF P i (b - i) = nI (i + 1) := by
  obtain ⟨d, hd⟩ : ∃ d, b - i = d + 1 := ⟨b - i - 1, by omega⟩
  rw [hd]; exact if_neg (by rw [hP]; decide)
theorem jd_next {P : Nat → Bool} {i b : Nat} (h : i < b) (hP : P i = true) : jdF P i (b - i) = jdF P (i + 1) (b - (i + 1)) := by
  obtain ⟨d, hd⟩ : ∃ d, b - i = d + 1 := ⟨b - i - 1, by omega⟩
  rw [hd, show b - (i + 1) = d by omega]
  exact if_pos hP
theorem jd_end {P : Nat → Bool} {b : Nat} : jdF P b (b - b) = 0 := by rw [Nat.sub_self]; rfl
/-- a ROW is as it must be -/
def jdB (n : Nat) (m g : Nat → Int32) (o i : Nat) : Bool := decide (g (3 * i) = daysF n m (i + 1) (8 + 5 * o + 3) ∧ g (3 * i + 1) = daysF n m (i + 1) (8 + 5 * o + 4) ∧ g (3 * i + 2) = onF (daysF n m (i + 1)) n)
def tdP (n : Nat) (m g : Nat → Int32) (o t i : Nat) : Bool := decide (g (40 * t + i) = -1 ∨ g (40 * t + i) = daysF n m (i + 1) (8 + 5 * o + 4))
def tdB (P : Nat → Bool) : Nat → Nat → Bool
  | _, 0 => true
  | i, d + 1 => P i && tdB P (i + 1) d
theorem td_hit {P : Nat → Bool} {i b : Nat} (h : i < b) (hP : P i = false) : tdB P i (b - i) = false := by
  obtain ⟨d, hd⟩ : ∃ d, b - i = d + 1 := ⟨b - i - 1, by omega⟩
  rw [hd]; show (P i && _) = false; rw [hP]; rfl
theorem td_next {P : Nat → Bool} {i b : Nat} (h : i < b) (hP : P i = true) : tdB P i (b - i) = tdB P (i + 1) (b - (i + 1)) := by
  obtain ⟨d, hd⟩ : ∃ d, b - i = d + 1 := ⟨b - i - 1, by omega⟩
  rw [hd, show b - (i + 1) = d by omega]; show (P i && _) = _; rw [hP]; rfl
theorem td_end {P : Nat → Bool} {b : Nat} : tdB P b (b - b) = true := by rw [Nat.sub_self]; rfl
def zrN (g : Nat → Int32) (t : Nat) : Nat → Nat → Int32
  | 0 => g
  | i + 1 => upd (zrN g t i) (40 * t + i) 0
def lkF (s : Nat → Int32) (t : Nat) (x : Int32) : Int32 := if 0 ≤ s t then (if s t = x then 0 else -13) else -11
def hoF (n : Nat) (w u : Nat → Int32) (g : Nat) : Int32 := if w g = 1 then (if oneB n (u g) = true then w g else 0) else w g
theorem ho_1 {n g : Nat} {w u : Nat → Int32} (h : hoF n w u g = 1) : oneB n (u g) = true := by
  unfold hoF at h
  split at h
  · split at h
    · assumption
    · exact absurd h (by decide)
  · contradiction
def undB (w x : Int32) : Bool := decide (x = 0) || (decide (w = x) || ((decide (x = 1) && decide (w = 3)) || (decide (x = 2) && decide (w = 4))))
def coN (m : Nat → Int32) : Nat → Int32
  | 0 => 0
  | i + 1 => coN m i + (if m (8 + 5 * i + 4) ≤ 0 then 0 else 1)
def weN (m : Nat → Int32) : Nat → Int32
  | 0 => 0
  | i + 1 => weN m i + (if wearsF m i ≤ 0 then 0 else 1)
def maA (n r t u : Nat) (m : Nat → Int32) (w : Int32) : Int32 := if w = 0 then nI n else if w = 1 then nI (pcN (onN m n)) else if w = 2 then coN m n else if w = 3 then weN m n else if w = 4 then nI r else if w = 5 then nI t else if w = 6 then nI u else -1
def narF (s v : Int32) : Int32 := if s = 0 then v.toInt8.toInt32 else if s = 1 then v.toInt16.toInt32 else v
/-- fits: how many, the least, from 99 down -/
def ftM (P : Nat → Bool) : Nat → Int32
  | 0 => 0
  | i + 1 => ftM P i + (if P (99 - i) = true then 1 else 0)
def ftL (P : Nat → Bool) : Nat → Int32
  | 0 => -3
  | i + 1 => if P (99 - i) = true then nI (99 - i) else ftL P i
def fbS (m : Nat → Int32) (a : Nat) : Nat → Nat → Int32
  | 0 => m
  | i + 1 => upd m a (nI (99 - i))
def fbA (m g : Nat → Int32) (a : Nat) : Nat → Nat → Int32
  | 0 => g
  | i + 1 => upd m a (nI (99 - i))
theorem fbS_upd {m : Nat → Int32} {a : Nat} {v : Int32} : ∀ i, upd (fbS m a i) a v = upd m a v
  | 0 => rfl
  | _ + 1 => upd_upd
theorem dn_1 {i : Nat} (h : i < 100) : nI (100 - i) - 1 = nI (99 - i) := by
  rw [show 100 - i = (99 - i) + 1 by omega, nI_pred]
theorem dn_2 {i : Nat} (h : i < 100) : nI (99 - i) + -1 = nI (100 - (i + 1)) - 1 := by
  rw [show 100 - (i + 1) = 99 - i by omega]; rw [Int32.sub_eq_add_neg]
theorem dn_0 {i : Nat} (h : i ≤ 100) (hc : nI (100 - i) - 1 < 0) : i = 100 := by
  by_cases h1 : i < 100
  · rw [dn_1 h1] at hc; exact absurd hc (nI_pos (by omega))
  · omega
theorem dn_3 {i : Nat} (h : i ≤ 100) (hc : ¬ nI (100 - i) - 1 < 0) : i < 100 := by
  by_cases h1 : i < 100
  · exact h1
  · have e : i = 100 := by omega
    subst e
    exact absurd (by decide) hc
def mdN (m g : Nat → Int32) (o b : Nat) : Nat → Nat → Int32
  | 0 => m
  | i + 1 => upd (mdN m g o b i) (8 + 5 * (o + i) + 3) (heldI (g (b + i)))
/-- a part of a fraction, by the divisor of both -/
def gcL (a b : Int64) : Nat → Int64
  | 0 => a
  | i + 1 => gcL b (a - a / b * b) i
