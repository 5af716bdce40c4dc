theorem gateI_t {b : Bool} {x y : Int32} (h : b = true) : gateI b x y = x := if_pos h
theorem gateF_t {b : Bool} {x y : Nat → Int32} (h : b = true) : gateF b x y = x := if_pos h
def wshV (r : Int32) : Int32 := if r = -3 then 99 else r
theorem wshV_n {i : Nat} (h : i < 2 ^ 31) : wshV (nI i) = nI i := if_neg (fun q => by
  have e := congrArg Int32.toInt q
  rw [nI_toInt h] at e
  have e2 : (-3 : Int32).toInt = -3 := by decide
  omega)
theorem rbS_id {m : Nat → Int32} {a : Nat} (z : Nat) : upd (rbS m a (z + 1)) a (m a) = m := upd_upd.trans upd_id
/-- places changed twice -/
theorem chg_at (m : Nat → Int32) (o q : Nat) (h : o ≠ q) : ∀ k, k ≤ 5 → ∀ j, chgF m o q k j = (if 8 + 5 * q ≤ j ∧ j < 8 + 5 * q + k then m (8 + 5 * o + (j - (8 + 5 * q))) else if 8 + 5 * o ≤ j ∧ j < 8 + 5 * o + k then m (8 + 5 * q + (j - (8 + 5 * o))) else m j)
  | 0, _, j => by rw [if_neg (by omega), if_neg (by omega)]; rfl
  | k + 1, hk, j => by
    show upd (upd (chgF m o q k) (8 + 5 * q + k) (chgF m o q k (8 + 5 * o + k))) (8 + 5 * o + k) (chgF m o q k (8 + 5 * q + k)) j = _
    by_cases h1 : j = 8 + 5 * o + k
    · subst h1
      rw [upd_self, chg_at m o q h k (by omega), if_neg (by omega), if_neg (by omega), if_neg (by omega), if_pos (by omega), show 8 + 5 * o + k - (8 + 5 * o) = k by omega]
    · rw [upd_ne h1]
      by_cases h2 : j = 8 + 5 * q + k
      · subst h2
        rw [upd_self, chg_at m o q h k (by omega), if_neg (by omega), if_neg (by omega), if_pos (by omega), show 8 + 5 * q + k - (8 + 5 * q) = k by omega]
      · rw [upd_ne h2, chg_at m o q h k (by omega)]
        by_cases h3 : 8 + 5 * q ≤ j ∧ j < 8 + 5 * q + k
        · rw [if_pos h3, if_pos (by omega)]
        · rw [if_neg h3]
          by_cases h4 : 8 + 5 * o ≤ j ∧ j < 8 + 5 * o + k
          · rw [if_pos h4, if_neg (by omega), if_pos (by omega)]
          · rw [if_neg h4, if_neg (by omega), if_neg (by omega)]
theorem chg_inv {m : Nat → Int32} {o q : Nat} (h : o ≠ q) : chgF (chgF m o q 5) o q 5 = m := by
  funext j
  rw [chg_at _ o q h 5 (by omega), chg_at m o q h 5 (by omega), chg_at m o q h 5 (by omega), chg_at m o q h 5 (by omega)]
  by_cases h1 : 8 + 5 * q ≤ j ∧ j < 8 + 5 * q + 5
  · rw [if_pos h1, if_neg (by omega), if_pos (by omega)]; congr 1; omega
  · rw [if_neg h1]
    by_cases h2 : 8 + 5 * o ≤ j ∧ j < 8 + 5 * o + 5
    · rw [if_pos h2, if_pos (by omega)]; congr 1; omega
    · rw [if_neg h2, if_neg h1, if_neg h2]
theorem nI_and (a b : Nat) : nI a &&& nI b = nI (a &&& b) := by
  apply Int32.toBitVec_inj.mp
  show BitVec.ofNat 32 a &&& BitVec.ofNat 32 b = BitVec.ofNat 32 (a &&& b)
  rw [BitVec.ofNat_and]
theorem nI_or (a b : Nat) : nI a ||| nI b = nI (a ||| b) := by
  apply Int32.toBitVec_inj.mp
  show BitVec.ofNat 32 a ||| BitVec.ofNat 32 b = BitVec.ofNat 32 (a ||| b)
  rw [BitVec.ofNat_or]
theorem sh_k : ∀ n, n < 32 → ((nI n &&& 31).toBitVec.smod 32).toNat = n := by decide +kernel
theorem bitI_N {i : Nat} (h : i < 32) : bitI i = nI (2 ^ i) := by
  have := pk_shlN (n := 1) (nI i &&& 31) i (sh_k i h) (by rw [Nat.one_mul]; exact Nat.pow_lt_pow_right (by decide) h)
  rw [Nat.one_mul] at this
  exact this
theorem or_pow {a i : Nat} (h : a < 2 ^ i) : a ||| 2 ^ i = a + 2 ^ i := by
  have := Nat.two_pow_add_eq_or_of_lt h 1
  rw [Nat.mul_one] at this
  rw [Nat.or_comm, ← this, Nat.add_comm]
def fairN (m : Nat → Int32) (o : Nat) : Nat → Nat
  | 0 => 0
  | q + 1 => fairN m o q + (if ¬ q = o ∧ offersF m o q = offersF m q o then 2 ^ q else 0)
def onN (m : Nat → Int32) : Nat → Nat
  | 0 => 0
  | i + 1 => onN m i + (if m (8 + 5 * i + 3) = 0 then 2 ^ i else 0)
theorem fairN_lt (m : Nat → Int32) (o : Nat) : ∀ q, fairN m o q < 2 ^ q
  | 0 => Nat.zero_lt_one
  | q + 1 => by
    have := fairN_lt m o q
    show fairN m o q + _ < _
    rw [Nat.pow_succ]; split <;> omega
theorem onN_lt (m : Nat → Int32) : ∀ q, onN m q < 2 ^ q
  | 0 => Nat.zero_lt_one
  | q + 1 => by
    have := onN_lt m q
    show onN m q + _ < _
    rw [Nat.pow_succ]; split <;> omega
theorem fairF_N (m : Nat → Int32) (o : Nat) : ∀ q, q ≤ 31 → fairF m o q = nI (fairN m o q)
  | 0, _ => rfl
  | q + 1, h => by
    show fairF m o q ||| _ = nI (fairN m o q + _)
    rw [fairF_N m o q (by omega)]
    by_cases hc : (¬ q = o ∧ offersF m o q = offersF m q o)
    · rw [if_pos hc, if_pos hc, bitI_N (by omega), nI_or, or_pow (fairN_lt m o q)]
    · rw [if_neg hc, if_neg hc, ← nI_0, nI_or, Nat.or_zero, Nat.add_zero]
theorem onF_N (m : Nat → Int32) : ∀ q, q ≤ 31 → onF m q = nI (onN m q)
  | 0, _ => rfl
  | q + 1, h => by
    show onF m q ||| _ = nI (onN m q + _)
    rw [onF_N m q (by omega)]
    by_cases hc : m (8 + 5 * q + 3) = 0
    · rw [if_pos hc, if_pos hc, bitI_N (by omega), nI_or, or_pow (onN_lt m q)]
    · rw [if_neg hc, if_neg hc, ← nI_0, nI_or, Nat.or_zero, Nat.add_zero]
theorem pow_256 {n : Nat} (h : n ≤ 8) : 2 ^ n ≤ 256 := Nat.pow_le_pow_right (n := 2) (by decide) h
theorem fairN_256 {m : Nat → Int32} {o n : Nat} (h : n ≤ 8) : fairN m o n < 256 := Nat.lt_of_lt_of_le (fairN_lt m o n) (pow_256 h)
theorem onN_256 {m : Nat → Int32} {n : Nat} (h : n ≤ 8) : onN m n < 256 := Nat.lt_of_lt_of_le (onN_lt m n) (pow_256 h)
theorem pc_step : ∀ x, x < 256 → 0 < x → (pcN (x &&& (x - 1)) + 1 = pcN x ∧ (x &&& (x - 1)) < 256) := by decide +kernel
theorem pc_8 : ∀ x, x < 256 → pcN x ≤ 8 := by decide +kernel
def szI (w : Nat) : Nat → Nat
  | 0 => w
  | i + 1 => szI w i &&& (szI w i - 1)
theorem szI_lt {w i : Nat} (h : pcN (szI w i) + i = pcN w ∧ szI w i < 256) (hz : szI w i ≠ 0) : i < pcN w := by
  have := (pc_step _ h.2 (by omega)).1
  omega
theorem szI_s {w i : Nat} (h : pcN (szI w i) + i = pcN w ∧ szI w i < 256) (hz : szI w i ≠ 0) : pcN (szI w (i + 1)) + (i + 1) = pcN w ∧ szI w (i + 1) < 256 := by
  have := pc_step _ h.2 (by omega)
  refine ⟨?_, this.2⟩
  show pcN (szI w i &&& (szI w i - 1)) + _ = _
  omega
def fpS (n : Nat) (m : Nat → Int32) : Nat → Int32
  | 0 => 0
  | i + 1 => fpS n m i + nI (pcN (fairN m i n / 2 ^ (i + 1)))
def stA (n : Nat) (m : Nat → Int32) (w : Int32) : Int32 := if w = 0 then m 1 else if w = 1 then m 3 else if w = 2 then sumF m 4 n else if w = 3 then onF m n else if w = 4 then sumF m 3 n else if w = 5 then fpS n m n else -1
def canB (w v : Int32) : Bool := if w = 1 then inB v 0 99 else if w = 3 then inB v 0 99 else if w = 4 then inB v 0 9999 else false
def perF (n : Nat) (m : Nat → Int32) (k t w x : Int32) : Nat → Int32 := upd (upd (upd (upd (upd (upd m (8 + 5 * n) k) (8 + 5 * n + 1) t) (8 + 5 * n + 2) w) (8 + 5 * n + 3) x) (8 + 5 * n + 4) 50) 0 (nI (n + 1))
def bytF (e : Int64) (i : Nat) : Int32 := ((e >>> ((nI (8 * i)).toInt64 &&& 63)) &&& 255).toInt32
def fdN (g : Nat → Int32) (e : Int64) (t : Nat) : Nat → Nat → Int32
  | 0 => g
  | i + 1 => upd (fdN g e t i) (t + i) (bytF e i)
