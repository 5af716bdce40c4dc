/-! the class says it so -/
theorem mmin_mn (a b : Int32) : (if b < a then b else a) = mnI a b := by
  unfold mnI; split
  · rw [if_pos (Int32.le_of_lt ‹_›)]
  · split
    · exact Int32.le_antisymm (Int32.not_lt.mp ‹_›) ‹_›
    · rfl
theorem mmax_mx (a b : Int32) : (if a < b then b else a) = mxI a b := by
  unfold mxI; split
  · rw [if_pos (Int32.le_of_lt ‹_›)]
  · split
    · exact Int32.le_antisymm ‹_› (Int32.not_lt.mp ‹_›)
    · rfl
theorem inB_one {n : Nat} {o : Int32} (hn : n < 2 ^ 31) : inB o 0 (nI n - 1) = oneB n o := by
  unfold inB oneB
  apply decide_eq_decide.mpr
  have hs : (nI n - 1).toInt = (n : Int) - 1 := by
    rcases Nat.eq_zero_or_pos n with rfl | hp
    · rfl
    · have : nI n - 1 = nI (n - 1) := pk_sub (b := 1) hp
      rw [this, nI_toInt (by omega)]; omega
  rw [Int32.lt_iff_toInt_lt, Int32.lt_iff_toInt_lt, Int32.le_iff_toInt_le, hs, nI_toInt hn]
  omega
/-- what the row keeps to -/
def rgM (n : Nat) (m : Nat → Int32) : Prop := (0 ≤ (m 4).toInt ∧ (m 4).toInt ≤ 9 ∧ 0 ≤ (m 6).toInt) ∧ ∀ o, o < n → (0 ≤ (m (8 + 5 * o + 3)).toInt ∧ (m (8 + 5 * o + 3)).toInt ≤ 99) ∧ 0 ≤ (m (8 + 5 * o + 4)).toInt ∧ (m (8 + 5 * o + 4)).toInt ≤ 9999
theorem nat_of {x : Int32} (h : 0 ≤ x.toInt) : ∃ a : Nat, x = nI a ∧ (a : Int) = x.toInt := by
  have hl := x.toInt_lt
  refine ⟨x.toInt.toNat, Int32.toInt_inj.mp ?_, by omega⟩
  rw [nI_toInt (by omega)]; omega
theorem mn99 {x y : Int32} (h1 : 0 ≤ x.toInt) (h2 : x.toInt ≤ 99) (h3 : 0 ≤ y.toInt) (h4 : y.toInt ≤ 9) : mnI 99 (x / 2 + y) = x / 2 + y := by
  obtain ⟨a, rfl, ha⟩ := nat_of h1
  obtain ⟨b, rfl, hb⟩ := nat_of h3
  have ha9 : a < 100 := by omega
  have hb9 : b < 10 := by omega
  have key : ∀ a, a < 100 → ∀ b, b < 10 → mnI 99 (nI a / 2 + nI b) = nI a / 2 + nI b := by decide +kernel
  exact key a ha9 b hb9
theorem held_mx (v : Int32) : mxI 0 (mnI 99 v) = heldI v := by
  unfold mxI mnI heldI
  by_cases h : v ≤ 99
  · rw [if_pos h]
  · rw [if_neg h, if_pos (by decide), if_pos]
    exact Int32.le_trans (by decide) (Int32.le_of_lt (Int32.not_le.mp h))
theorem rg_wear {n o : Nat} {m : Nat → Int32} (h : rgM n m) (ho : o < n) : mnI 99 (m (8 + 5 * o + 3) / 2 + m 4) = m (8 + 5 * o + 3) / 2 + m 4 :=
  mn99 (h.2 o ho).1.1 (h.2 o ho).1.2 h.1.1 h.1.2.1
theorem mnI_N {a b : Nat} (ha : a < 2 ^ 31) (hb : b < 2 ^ 31) : mnI (nI a) (nI b) = nI (if b ≤ a then b else a) := by
  unfold mnI
  by_cases h : b ≤ a
  · rw [if_pos ((nI_leI hb ha).mpr h), if_pos h]
  · rw [if_neg (fun q => h ((nI_leI hb ha).mp q)), if_neg h]
theorem mx0_N (v : Int32) : ∃ e : Nat, e < 2 ^ 31 ∧ mxI 0 v = nI e := by
  unfold mxI
  by_cases h : 0 ≤ v
  · obtain ⟨e, he, hi⟩ := nat_of (x := v) (by simpa using Int32.le_iff_toInt_le.mp h)
    have := v.toInt_lt
    exact ⟨e, by omega, by rw [if_pos h, he]⟩
  · exact ⟨0, by decide, by rw [if_neg h]; rfl⟩
theorem nx_last {n i : Nat} (h : i < n) (h2 : i = n - 1) : nxtO n i = 0 := by
  subst h2
  show (n - 1 + 1) % n = 0
  rw [show n - 1 + 1 = n by omega, Nat.mod_self]
theorem if_min (x y : Nat) : (if x ≤ y then x else y) ≤ y := by split <;> omega
/-- who pays has it; the toll is a part of it -/
theorem paid_N {n o q : Nat} {m : Nat → Int32} (h : rgM n m) (ho : o < n) : ∃ a b t : Nat, m (8 + 5 * o + 4) = nI a ∧ a ≤ 9999 ∧ paidF m o q = nI b ∧ b ≤ a ∧ tollF m o q = nI t ∧ t ≤ b := by
  obtain ⟨a, ha, hi⟩ := nat_of (h.2 o ho).2.1
  have ha9 := (h.2 o ho).2.2
  obtain ⟨e, he, hm⟩ := mx0_N (offersF m o q)
  obtain ⟨k, hk, hki⟩ := nat_of h.1.2.2
  have hkl := (m 6).toInt_lt
  have h1 : paidF m o q = nI (if a ≤ e then a else e) := by unfold paidF; rw [hm, ha, mnI_N he (by omega)]
  refine ⟨a, if a ≤ e then a else e, if k ≤ (if a ≤ e then a else e) then k else (if a ≤ e then a else e), ha, by omega, h1, by split <;> omega, ?_, if_min _ _⟩
  unfold tollF
  rw [h1, hk, mnI_N (by split <;> omega) (by omega)]
theorem paid_eq {c v : Int32} (h : 0 ≤ c.toInt) : mxI 0 (mnI c v) = mnI (mxI 0 v) c := by
  have hc : 0 ≤ c := by rw [Int32.le_iff_toInt_le]; exact h
  unfold mxI mnI
  by_cases h0 : 0 ≤ v
  · rw [if_pos h0]
    by_cases h1 : v ≤ c
    · rw [if_pos h1, if_pos h0]
      split
      · exact Int32.le_antisymm h1 ‹_›
      · rfl
    · rw [if_neg h1, if_pos hc, if_pos (Int32.le_of_lt (Int32.not_le.mp h1))]
  · rw [if_neg h0, if_pos (Int32.le_trans (Int32.le_of_lt (Int32.not_le.mp h0)) hc), if_neg h0]
    split
    · exact Int32.le_antisymm hc ‹_›
    · rfl
theorem rg_pay {n o : Nat} {m : Nat → Int32} (h : rgM n m) (ho : o < n) : rgM n (payF n m o) := by
  refine ⟨by rw [payF_lo n m o 4 (by decide) (by decide), payF_lo n m o 6 (by decide) (by decide)]; exact h.1, fun p hp => ?_⟩
  have e3 : payF n m o (8 + 5 * p + 3) = m (8 + 5 * p + 3) := by unfold payF pay2 pay1; rw [upd_ne (by omega), upd_ne (by omega), upd_ne (by omega)]
  rw [e3]
  refine ⟨(h.2 p hp).1, ?_⟩
  obtain ⟨a, b, t, ha, ha9, hb, hba, ht, htb⟩ := paid_N (q := nxtO n o) h ho
  by_cases h1 : p = nxtO n o
  · have e4 : payF n m o (8 + 5 * p + 4) = mnI 9999 (pay1 m o (nxtO n o) (8 + 5 * p + 4) + paidF m o (nxtO n o) - tollF m o (nxtO n o)) := by
      rw [h1]; unfold payF; rw [upd_self]; unfold pay2; rw [upd_ne (by omega)]
    obtain ⟨x, hx, hx9⟩ : ∃ x : Nat, pay1 m o (nxtO n o) (8 + 5 * p + 4) = nI x ∧ x ≤ 9999 := by
      unfold pay1
      by_cases h2 : p = o
      · rw [h2, upd_self, ha, hb]; exact ⟨a - b, pk_sub hba, by omega⟩
      · rw [upd_ne (by omega)]
        obtain ⟨x, hx, hxi⟩ := nat_of (h.2 p hp).2.1
        have := (h.2 p hp).2.2
        exact ⟨x, hx, by omega⟩
    rw [e4, hx, hb, ht, nI_add, pk_sub (by omega), show (9999 : Int32) = nI 9999 from rfl, mnI_N (by decide) (by omega), nI_toInt (by split <;> omega)]
    split <;> omega
  · have e4 : payF n m o (8 + 5 * p + 4) = pay1 m o (nxtO n o) (8 + 5 * p + 4) := by
      unfold payF; rw [upd_ne (by omega)]; unfold pay2; rw [upd_ne (by omega)]
    rw [e4]; unfold pay1
    by_cases h2 : p = o
    · rw [h2, upd_self, ha, hb, pk_sub hba, nI_toInt (by omega)]; omega
    · rw [upd_ne (by omega)]; exact (h.2 p hp).2
theorem rg_payN {n : Nat} {m : Nat → Int32} (h : rgM n m) : ∀ i, i ≤ n → rgM n (payN n m i)
  | 0, _ => h
  | i + 1, hi => rg_pay (rg_payN h i (by omega)) (by omega)
theorem heldI_rg (v : Int32) : 0 ≤ (heldI v).toInt ∧ (heldI v).toInt ≤ 99 := by
  unfold heldI
  split
  · split
    · exact ⟨by simpa using Int32.le_iff_toInt_le.mp ‹0 ≤ v›, by simpa using Int32.le_iff_toInt_le.mp ‹v ≤ 99›⟩
    · decide
  · decide
theorem rg_fray {n : Nat} {m : Nat → Int32} (h : rgM n m) : ∀ i, rgM n (frayN m i)
  | 0 => h
  | i + 1 => by
    have h1 := rg_fray h i
    refine ⟨by rw [frayN_lo m 4 (by decide), frayN_lo m 6 (by decide)]; exact h.1, fun p hp => ?_⟩
    show (0 ≤ (upd (frayN m i) (8 + 5 * i + 3) _ (8 + 5 * p + 3)).toInt ∧ (upd (frayN m i) (8 + 5 * i + 3) _ (8 + 5 * p + 3)).toInt ≤ 99) ∧ 0 ≤ (upd (frayN m i) (8 + 5 * i + 3) _ (8 + 5 * p + 4)).toInt ∧ (upd (frayN m i) (8 + 5 * i + 3) _ (8 + 5 * p + 4)).toInt ≤ 9999
    rw [upd_ne (show 8 + 5 * p + 4 ≠ 8 + 5 * i + 3 by omega)]
    refine ⟨?_, (h1.2 p hp).2⟩
    by_cases q : p = i
    · rw [q, upd_self]; exact heldI_rg _
    · rw [upd_ne (by omega)]; exact (h1.2 p hp).1
theorem rg_day {n : Nat} {m : Nat → Int32} (h : rgM n m) : rgM n (dayF n m) := by
  have h1 : rgM n (payA n m) := by
    unfold payA; split
    · exact rg_payN h n (Nat.le_refl _)
    · exact h
  have h2 := rg_fray h1 n
  unfold dayF
  refine ⟨by rw [upd_ne (by decide), upd_ne (by decide)]; exact h2.1, fun p hp => ?_⟩
  rw [upd_ne (by omega), upd_ne (by omega)]; exact h2.2 p hp
theorem rg_days {n : Nat} {m : Nat → Int32} (h : rgM n m) : ∀ k, rgM n (daysF n m k)
  | 0 => h
  | k + 1 => rg_day (rg_days h k)
/-- the class takes the toll after the coins -/
theorem payK {m : Nat → Int32} {n o : Nat} (x : Int32) (hx : x = mnI 9999 (pay1 m o (nxtO n o) (8 + 5 * nxtO n o + 4) + paidF m o (nxtO n o) - tollF m o (nxtO n o))) : upd (upd (pay1 m o (nxtO n o)) (8 + 5 * nxtO n o + 4) x) 3 (mnI 99999 (upd (pay1 m o (nxtO n o)) (8 + 5 * nxtO n o + 4) x 3 + tollF m o (nxtO n o))) = payF n m o := by
  subst hx
  unfold payF pay2
  rw [upd_ne (show 3 ≠ 8 + 5 * nxtO n o + 4 by omega), upd_ne (show 8 + 5 * nxtO n o + 4 ≠ 3 by omega)]
  exact upd_comm (by omega)
theorem rg_drw {n : Nat} {m : Nat → Int32} (h : rgM n m) : rgM n (drw m) := by
  refine ⟨by unfold drw; rw [upd_ne (by decide), upd_ne (by decide)]; exact h.1, fun p hp => ?_⟩
  unfold drw; rw [upd_ne (by omega), upd_ne (by omega)]; exact h.2 p hp
/-- a WEB or COINS set in its range keeps the ranges -/
theorem rg_web {n o : Nat} {m : Nat → Int32} {v : Int32} (h : rgM n m) (h0 : 0 ≤ v.toInt) (h9 : v.toInt ≤ 99) : rgM n (upd m (8 + 5 * o + 3) v) := by
  refine ⟨by rw [upd_ne (by omega), upd_ne (by omega)]; exact h.1, fun p hp => ?_⟩
  rw [upd_ne (show 8 + 5 * p + 4 ≠ 8 + 5 * o + 3 by omega)]
  refine ⟨?_, (h.2 p hp).2⟩
  by_cases q : p = o
  · subst q; rw [upd_self]; exact ⟨h0, h9⟩
  · rw [upd_ne (by omega)]; exact (h.2 p hp).1
theorem rg_dyS {n : Nat} {m : Nat → Int32} (h : rgM n m) : rgM n (dyS n m) := by
  unfold dyS slipF
  split
  · split
    · exact rg_drw (rg_drw h)
    · exact rg_web (rg_drw (rg_drw h)) (by decide) (by decide)
  · exact h
theorem rg_dayD {n : Nat} {m : Nat → Int32} (h : rgM n m) : rgM n (dayD n m) := rg_day (rg_dyS h)
theorem dyK_t {n : Nat} {m : Nat → Int32} (h : 0 < n) (hc : drw (drw m) 7 ≤ nI (drF (drw m) % 100)) : drw (drw m) = dyS n m := ((if_pos h).trans (if_pos hc)).symm
def perC (n : Nat) (m : Nat → Int32) (k : Int32) : Nat → Int32 := upd (upd (upd (upd (upd (upd m (8 + 5 * n) k) (8 + 5 * n + 1) 0) (8 + 5 * n + 2) 0) (8 + 5 * n + 3) 0) (8 + 5 * n + 4) 50) 0 (nI (n + 1))
