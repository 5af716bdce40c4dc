/-! the class says it so -/
theorem mmin_mn (a b : Int32) : (if b < a then b else a) = mnI a b := by
  unfold mnI; split
  · rw [if_pos (Int32.le_of_lt ‹_›)]
  · split
    · exact Int32.le_antisymm (Int32.not_lt.mp ‹_›) ‹_›
    · rfl
theorem mmax_mx (a b : Int32) : (if a < b then b else a) = mxI a b := by
  unfold mxI; split
  · rw [if_pos (Int32.le_of_lt ‹_›)]
  · split
    · exact Int32.le_antisymm ‹_› (Int32.not_lt.mp ‹_›)
    · rfl
theorem inB_one {n : Nat} {o : Int32} (hn : n < 2 ^ 31) : inB o 0 (nI n - 1) = oneB n o := by
  unfold inB oneB
  apply decide_eq_decide.mpr
  have hs : (nI n - 1).toInt = (n : Int) - 1 := by
    rcases Nat.eq_zero_or_pos n with rfl | hp
    · rfl
    · have : nI n - 1 = nI (n - 1) := pk_sub (b := 1) hp
      rw [this, nI_toInt (by omega)]; omega
  rw [Int32.lt_iff_toInt_lt, Int32.lt_iff_toInt_lt, Int32.le_iff_toInt_le, hs, nI_toInt hn]
  omega
/-- what the row keeps to -/
def rgM (n : Nat) (m : Nat → Int32) : Prop := (0 ≤ (m 4).toInt ∧ (m 4).toInt ≤ 9) ∧ ∀ o, o < n → (0 ≤ (m (8 + 5 * o + 3)).toInt ∧ (m (8 + 5 * o + 3)).toInt ≤ 99) ∧ 0 ≤ (m (8 + 5 * o + 4)).toInt
theorem nat_of {x : Int32} (h : 0 ≤ x.toInt) : ∃ a : Nat, x = nI a ∧ (a : Int) = x.toInt := by
  have hl := x.toInt_lt
  refine ⟨x.toInt.toNat, Int32.toInt_inj.mp ?_, by omega⟩
  rw [nI_toInt (by omega)]; omega
theorem mn99 {x y : Int32} (h1 : 0 ≤ x.toInt) (h2 : x.toInt ≤ 99) (h3 : 0 ≤ y.toInt) (h4 : y.toInt ≤ 9) : mnI 99 (x / 2 + y) = x / 2 + y := by
  obtain ⟨a, rfl, ha⟩ := nat_of h1
  obtain ⟨b, rfl, hb⟩ := nat_of h3
  have ha9 : a < 100 := by omega
  have hb9 : b < 10 := by omega
  have key : ∀ a, a < 100 → ∀ b, b < 10 → mnI 99 (nI a / 2 + nI b) = nI a / 2 + nI b := by decide +kernel
  exact key a ha9 b hb9
theorem held_mx (v : Int32) : mxI 0 (mnI 99 v) = heldI v := by
  unfold mxI mnI heldI
  by_cases h : v ≤ 99
  · rw [if_pos h]
  · rw [if_neg h, if_pos (by decide), if_pos]
    exact Int32.le_trans (by decide) (Int32.le_of_lt (Int32.not_le.mp h))
theorem rg_wear {n o : Nat} {m : Nat → Int32} (h : rgM n m) (ho : o < n) : mnI 99 (m (8 + 5 * o + 3) / 2 + m 4) = m (8 + 5 * o + 3) / 2 + m 4 :=
  mn99 (h.2 o ho).1.1 (h.2 o ho).1.2 h.1.1 h.1.2
