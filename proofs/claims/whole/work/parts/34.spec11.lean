theorem sh_r {s : Nat → Int32} {w : Int32} {t : Nat} (hw : w = 1) (h : -1 ≤ (s t).toInt) (e : (nI t).toNatClampNeg = t) : (if s t = -1 then (0 : Int32) else 2) = (if shlR s w (nI t) = true then 2 else 0) := by
  subst hw
  unfold shlR
  rw [e]
  by_cases h1 : s t = -1
  · rw [if_pos h1, h1]; rfl
  · have h2 : ¬ s t < 0 := Int32.not_lt.mpr (so_p h h1)
    rw [if_neg h1, decide_eq_false h2]; rfl
