def gateI (b : Bool) (x y : Int32) : Int32 := if b = true then x else y
def gateL (b : Bool) (x y : Int64) : Int64 := if b = true then x else y
def gateF (b : Bool) (f g : Nat → Int32) : Nat → Int32 := if b = true then f else g
def cpN (f g : Nat → Int32) (i : Nat) : Nat → Int32 := fun j => if j < i then f j else g j
theorem cpN_0 {f g : Nat → Int32} : g = cpN f g 0 := by funext j; simp [cpN]
theorem cpN_s {f g : Nat → Int32} {i : Nat} : upd (cpN f g i) i (f i) = cpN f g (i + 1) := by
  funext j
  by_cases h : j = i
  · subst h; rw [upd_self]; simp [cpN]
  · rw [upd_ne h]
    unfold cpN
    by_cases h2 : j < i
    · rw [if_pos h2, if_pos (by omega)]
    · rw [if_neg h2, if_neg (by omega)]
theorem cpN_lt {f g : Nat → Int32} {i j : Nat} (h : j < i) : cpN f g i j = f j := if_pos h
theorem ush16 (x : Int32) : (x.toUInt32 >>> ((16 : Int32).toUInt32 &&& Int32.toUInt32 31)).toInt32 = nI (x.toBitVec.toNat / 65536) := by
  apply Int32.toBitVec_inj.mp
  apply BitVec.eq_of_toNat_eq
  rw [pk_ushr x 16 16 (by decide), pk_tn (by have := x.toBitVec.isLt; omega)]
/-- the first place from i on, of d, where P is; -3: none -/
def fndP (P : Nat → Bool) : Nat → Nat → Int32
  | _, 0 => -3
  | i, d + 1 => if P i = true then nI i else fndP P (i + 1) d
theorem fnd_hit {P : Nat → Bool} {i b : Nat} (h : i < b) (hP : P i = true) : fndP P i (b - i) = nI i := by
  obtain ⟨d, hd⟩ : ∃ d, b - i = d + 1 := ⟨b - i - 1, by omega⟩
  rw [hd]; exact if_pos hP
theorem fnd_next {P : Nat → Bool} {i b : Nat} (h : i < b) (hP : P i = false) : fndP P i (b - i) = fndP P (i + 1) (b - (i + 1)) := by
  obtain ⟨d, hd⟩ : ∃ d, b - i = d + 1 := ⟨b - i - 1, by omega⟩
  rw [hd, show b - (i + 1) = d by omega]
  exact if_neg (by rw [hP]; decide)
def lkS (n : Nat) (m : Nat → Int32) : Nat → Nat → Int32
  | 0 => dayF n m
  | k + 1 => dayD n (upd m 2 (lkZ n m k))
/-- with which number of a trait a purse is most: what stands in the row, the most so far, the best so far -/
def rbS (m : Nat → Int32) (a : Nat) : Nat → Nat → Int32
  | 0 => m
  | i + 1 => upd m a (nI i)
def rbA (m g : Nat → Int32) (a : Nat) : Nat → Nat → Int32
  | 0 => g
  | i + 1 => upd m a (nI i)
theorem rbS_upd {m : Nat → Int32} {a : Nat} {v : Int32} : ∀ i, upd (rbS m a i) a v = upd m a v
  | 0 => rfl
  | _ + 1 => upd_upd
def rbM (n : Nat) (m : Nat → Int32) (a k o : Nat) : Nat → Int32
  | 0 => -1
  | i + 1 => mxI (rbM n m a k o i) (purF n (upd m a (nI i)) o k)
def rbB (n : Nat) (m : Nat → Int32) (a k o : Nat) : Nat → Int32
  | 0 => 0
  | i + 1 => if purF n (upd m a (nI i)) o k ≤ rbM n m a k o i then rbB n m a k o i else nI i
theorem rbS_0 {n a : Nat} {m : Nat → Int32} (ha : 0 ≠ a) (h : m 0 = nI n) : ∀ i, rbS m a i 0 = nI n
  | 0 => h
  | _ + 1 => upd_0 ha h
/-- changing places with each -/
def cfA (m : Nat → Int32) (o : Nat) : Nat → Nat → Int32
  | 0 => m
  | q + 1 => if q = o then cfA m o q else chgF m o q 5
def cfM (n : Nat) (m : Nat → Int32) (o k : Nat) : Nat → Int32
  | 0 => purF n m o k
  | q + 1 => if q = o then cfM n m o k q else mxI (cfM n m o k q) (purF n (chgF m o q 5) q k)
def cfB (n : Nat) (m : Nat → Int32) (o k : Nat) : Nat → Int32
  | 0 => -3
  | q + 1 => if q = o then cfB n m o k q else if purF n (chgF m o q 5) q k ≤ cfM n m o k q then cfB n m o k q else nI q
def pcN (w : Nat) : Nat := w % 2 + w / 2 % 2 + w / 4 % 2 + w / 8 % 2 + w / 16 % 2 + w / 32 % 2 + w / 64 % 2 + w / 128 % 2
