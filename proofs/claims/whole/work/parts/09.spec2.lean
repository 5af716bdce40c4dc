theorem payA_of {n : Nat} {m : Nat → Int32} (h : n = 0 ∨ 1 < n) : payN n m n = payA n m := by
  unfold payA; split
  · rfl
  · obtain rfl : n = 0 := by omega
    rfl
theorem payA_of1 {n : Nat} {m : Nat → Int32} (h : n ≤ 1) : m = payA n m := by
  unfold payA; rw [if_neg (by omega)]
theorem rng_pred {x : Int32} (r : Nat) (hr : r < 2 ^ 31) (h : inB x 0 (nI r - 1) = true) : ∃ j : Nat, j < r ∧ x = nI j := by
  have h := of_decide_eq_true h
  obtain ⟨h1, h2⟩ := h
  rw [Int32.lt_iff_toInt_lt] at h1 h2
  have e1 : (nI r - 1).toInt = (r : Int) - 1 := by
    cases r with
    | zero => decide
    | succ r => rw [nI_pred, nI_toInt (by omega)]; omega
  rw [e1] at h2
  have h1' : ¬ x.toInt < 0 := h1
  refine ⟨x.toInt.toNat, by omega, Int32.toInt_inj.mp ?_⟩
  rw [nI_toInt (by omega)]
  omega
def ofA (n : Nat) (m : Nat → Int32) (o w : Int32) : Int32 := if oneB n o = true ∧ inB w 0 5 = true then (if 5 ≤ w then (if m (8 + 5 * o.toNatClampNeg + 3) = 0 then 1 else 0) else m (8 + 5 * o.toNatClampNeg + w.toNatClampNeg)) else -1
def doesA (n : Nat) (m : Nat → Int32) (o w : Int32) : Int32 := if oneB n o = true ∧ inB w 0 1 = true then 1000 + (if w = 0 then wearsF m o.toNatClampNeg else fraysF m o.toNatClampNeg) else -1
def looksA (n : Nat) (m : Nat → Int32) (o q w : Int32) : Int32 := if twoB n o q = true ∧ inB w 0 1 = true then 1000 + (if w = 0 then seesF m o.toNatClampNeg q.toNatClampNeg else offersF m o.toNatClampNeg q.toNatClampNeg) else -1
/-- places changed, trait by trait -/
def chgF (m : Nat → Int32) (o q : Nat) : Nat → Nat → Int32
  | 0 => m
  | k + 1 => upd (upd (chgF m o q k) (8 + 5 * q + k) (chgF m o q k (8 + 5 * o + k))) (8 + 5 * o + k) (chgF m o q k (8 + 5 * q + k))
theorem chgF_0 {n : Nat} {m : Nat → Int32} {o q : Nat} (h : m 0 = nI n) : ∀ k, chgF m o q k 0 = nI n
  | 0 => h
  | k + 1 => upd_0 (by omega) (upd_0 (by omega) (chgF_0 h k))
