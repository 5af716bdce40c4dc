/-! for the class's own calls -/
def itT (F : Nat → Nat → Int32) (g : Nat → Int32) : Nat → Nat → Int32
  | 0 => g
  | i + 1 => F i
theorem rg_at {n o k : Nat} {m : Nat → Int32} {v : Int32} (hk : k < 3) (h : rgM n m) : rgM n (upd m (8 + 5 * o + k) v) := by
  refine ⟨by rw [upd_ne (by omega), upd_ne (by omega)]; exact h.1, fun p hp => ?_⟩
  rw [upd_ne (by omega), upd_ne (by omega)]; exact h.2 p hp
theorem rg_at0 {n o : Nat} {m : Nat → Int32} {v : Int32} (h : rgM n m) : rgM n (upd m (8 + 5 * o) v) := rg_at (k := 0) (by decide) h
theorem rg_webN {n o u : Nat} {m : Nat → Int32} (h : rgM n m) (hu : u ≤ 99) : rgM n (upd m (8 + 5 * o + 3) (nI u)) := rg_web h (by rw [nI_toInt (by omega)]; omega) (by rw [nI_toInt (by omega)]; omega)
theorem rg_chg {n o q : Nat} {m : Nat → Int32} (h : rgM n m) (ho : o < n) (hq : q < n) (hn : o ≠ q) : rgM n (chgF m o q 5) := by
  refine ⟨?_, fun p hp => ?_⟩
  · rw [chg_at m o q hn 5 (by omega), chg_at m o q hn 5 (by omega), if_neg (by omega), if_neg (by omega), if_neg (by omega), if_neg (by omega)]; exact h.1
  · rw [chg_at m o q hn 5 (by omega), chg_at m o q hn 5 (by omega)]
    by_cases h1 : p = q
    · subst h1
      rw [if_pos (by omega), if_pos (by omega), show 8 + 5 * o + (8 + 5 * p + 3 - (8 + 5 * p)) = 8 + 5 * o + 3 by omega, show 8 + 5 * o + (8 + 5 * p + 4 - (8 + 5 * p)) = 8 + 5 * o + 4 by omega]
      exact h.2 o ho
    · rw [if_neg (by omega), if_neg (show ¬ (8 + 5 * q ≤ 8 + 5 * p + 4 ∧ 8 + 5 * p + 4 < 8 + 5 * q + 5) by omega)]
      by_cases h2 : p = o
      · subst h2
        rw [if_pos (by omega), if_pos (by omega), show 8 + 5 * q + (8 + 5 * p + 3 - (8 + 5 * p)) = 8 + 5 * q + 3 by omega, show 8 + 5 * q + (8 + 5 * p + 4 - (8 + 5 * p)) = 8 + 5 * q + 4 by omega]
        exact h.2 q hq
      · rw [if_neg (by omega), if_neg (by omega)]; exact h.2 p hp
theorem mx_l {a b : Int32} (h : b ≤ a) : a = mxI a b := by
  unfold mxI; split
  · exact Int32.le_antisymm ‹_› h
  · rfl
theorem mx_r {a b : Int32} (h : ¬ b ≤ a) : b = mxI a b := (if_pos (Int32.le_of_lt (Int32.not_le.mp h))).symm
def cfT (n : Nat) (m : Nat → Int32) (o k : Nat) : Nat → Nat → Int32
  | 0 => daysF n m k
  | q + 1 => if q = o then cfT n m o k q else daysF n (chgF m o q 5) k
theorem perK {n : Nat} {m : Nat → Int32} {k t w x : Int32} : upd (upd (upd (perC n m k) (8 + 5 * n + 1) t) (8 + 5 * n + 2) w) (8 + 5 * n + 3) x = perF n m k t w x := by
  funext j
  unfold perC perF
  by_cases h3 : j = 8 + 5 * n + 3
  · subst h3; rw [upd_self, upd_ne (by omega), upd_ne (by omega), upd_self]
  rw [upd_ne h3]
  by_cases h2 : j = 8 + 5 * n + 2
  · subst h2; rw [upd_self, upd_ne (by omega), upd_ne (by omega), upd_ne (by omega), upd_self]
  rw [upd_ne h2]
  by_cases h1 : j = 8 + 5 * n + 1
  · subst h1; rw [upd_self, upd_ne (by omega), upd_ne (by omega), upd_ne (by omega), upd_ne (by omega), upd_self]
  rw [upd_ne h1]
  by_cases h0 : j = 0
  · subst h0; rw [upd_self, upd_self]
  rw [upd_ne h0, upd_ne h0]
  by_cases h4 : j = 8 + 5 * n + 4
  · subst h4; rw [upd_self, upd_self]
  rw [upd_ne h4, upd_ne h4, upd_ne h3, upd_ne h2, upd_ne h1, upd_ne h3, upd_ne h2, upd_ne h1]
theorem tb1 {t : Nat} (h : t ≤ 3) : tbl1.getD t 0 = (if nI t = 3 then 99 else 9) := by
  have hc : t = 0 ∨ t = 1 ∨ t = 2 ∨ t = 3 := by omega
  rcases hc with rfl | rfl | rfl | rfl <;> rfl
/-- how often until P is not, one more then -/
def tdI (P : Nat → Bool) : Nat → Nat → Nat
  | i, 0 => i
  | i, d + 1 => if P i = true then tdI P (i + 1) d else i + 1
theorem ti_hit {P : Nat → Bool} {i b : Nat} (h : i < b) (hP : P i = false) : tdI P i (b - i) = i + 1 := by
  obtain ⟨d, hd⟩ : ∃ d, b - i = d + 1 := ⟨b - i - 1, by omega⟩
  rw [hd]; exact if_neg (by rw [hP]; decide)
theorem ti_next {P : Nat → Bool} {i b : Nat} (h : i < b) (hP : P i = true) : tdI P i (b - i) = tdI P (i + 1) (b - (i + 1)) := by
  obtain ⟨d, hd⟩ : ∃ d, b - i = d + 1 := ⟨b - i - 1, by omega⟩
  rw [hd, show b - (i + 1) = d by omega]; exact if_pos hP
theorem ti_end {P : Nat → Bool} {b : Nat} : tdI P b (b - b) = b := by rw [Nat.sub_self]; rfl
/-- where P is first -/
def fnN (P : Nat → Bool) : Nat → Nat → Nat
  | i, 0 => i
  | i, d + 1 => if P i = true then i else fnN P (i + 1) d
theorem fn_hit {P : Nat → Bool} {i b : Nat} (h : i < b) (hP : P i = true) : fnN P i (b - i) = i := by
  obtain ⟨d, hd⟩ : ∃ d, b - i = d + 1 := ⟨b - i - 1, by omega⟩
  rw [hd]; exact if_pos hP
theorem fn_next {P : Nat → Bool} {i b : Nat} (h : i < b) (hP : P i = false) : fnN P i (b - i) = fnN P (i + 1) (b - (i + 1)) := by
  obtain ⟨d, hd⟩ : ∃ d, b - i = d + 1 := ⟨b - i - 1, by omega⟩
  rw [hd, show b - (i + 1) = d by omega]; exact if_neg (by rw [hP]; decide)
theorem fn_end {P : Nat → Bool} {b : Nat} : fnN P b (b - b) = b := by rw [Nat.sub_self]; rfl
