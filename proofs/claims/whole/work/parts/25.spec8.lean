/-! the class says it so -/
theorem mmin_mn (a b : Int32) : (if b < a then b else a) = mnI a b := by
  unfold mnI; split
  · rw [if_pos (Int32.le_of_lt ‹_›)]
  · split
    · exact Int32.le_antisymm (Int32.not_lt.mp ‹_›) ‹_›
    · rfl
theorem mmax_mx (a b : Int32) : (if a < b then b else a) = mxI a b := by
  unfold mxI; split
  · rw [if_pos (Int32.le_of_lt ‹_›)]
  · split
    · exact Int32.le_antisymm ‹_› (Int32.not_lt.mp ‹_›)
    · rfl
theorem inB_one {n : Nat} {o : Int32} (hn : n < 2 ^ 31) : inB o 0 (nI n - 1) = oneB n o := by
  unfold inB oneB
  apply decide_eq_decide.mpr
  have hs : (nI n - 1).toInt = (n : Int) - 1 := by
    rcases Nat.eq_zero_or_pos n with rfl | hp
    · rfl
    · have : nI n - 1 = nI (n - 1) := pk_sub (b := 1) hp
      rw [this, nI_toInt (by omega)]; omega
  rw [Int32.lt_iff_toInt_lt, Int32.lt_iff_toInt_lt, Int32.le_iff_toInt_le, hs, nI_toInt hn]
  omega
