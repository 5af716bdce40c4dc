/-! pairs: the reference's way, by the lowest of a set -/
def woF (m : Nat → Int32) (a b : Nat) : Int32 := mxI 0 (offersF m a b) + mxI 0 (offersF m b a)
def lwN (w : Nat) : Nat := if w % 2 = 1 then 0 else if w / 2 % 2 = 1 then 1 else if w / 4 % 2 = 1 then 2 else if w / 8 % 2 = 1 then 3 else if w / 16 % 2 = 1 then 4 else if w / 32 % 2 = 1 then 5 else if w / 64 % 2 = 1 then 6 else 7
def LwI (w i : Nat) : Prop := ∀ k, k < i → w / 2 ^ k % 2 = 0
theorem lwI_0 {w : Nat} : LwI w 0 := fun k h => absurd h (Nat.not_lt_zero k)
theorem lwI_s {w i : Nat} (h : LwI w i) (h2 : w / 2 ^ i % 2 = 0) : LwI w (i + 1) := fun k hk => by
  by_cases q : k = i
  · rw [q]; exact h2
  · exact h k (by omega)
theorem lwI_8 {w i : Nat} (hw : 0 < w) (hw2 : w < 256) (h8 : i ≤ 8) (h : LwI w i) (h2 : w / 2 ^ i % 2 = 0) : i < 8 := by
  rcases Nat.lt_or_ge i 8 with q | q
  · exact q
  · have e : i = 8 := by omega
    subst e
    have h0 := h 0 (by decide); have h1 := h 1 (by decide); have h2 := h 2 (by decide); have h3 := h 3 (by decide)
    have h4 := h 4 (by decide); have h5 := h 5 (by decide); have h6 := h 6 (by decide); have h7 := h 7 (by decide)
    simp only [Nat.reducePow] at h0 h1 h2 h3 h4 h5 h6 h7
    omega
theorem lw_eq {w i : Nat} (hw2 : w < 256) (h8 : i ≤ 8) (h : LwI w i) (h2 : ¬ w / 2 ^ i % 2 = 0) : i = lwN w := by
  have hc : i = 0 ∨ i = 1 ∨ i = 2 ∨ i = 3 ∨ i = 4 ∨ i = 5 ∨ i = 6 ∨ i = 7 ∨ i = 8 := by omega
  rcases hc with rfl | rfl | rfl | rfl | rfl | rfl | rfl | rfl | rfl
  · simp only [Nat.reducePow] at h2
    unfold lwN; rw [if_pos (by omega)]
  · have f0 := h 0 (by decide); simp only [Nat.reducePow] at h2 f0
    unfold lwN; rw [if_neg (by omega), if_pos (by omega)]
  · have f0 := h 0 (by decide); have f1 := h 1 (by decide); simp only [Nat.reducePow] at h2 f0 f1
    unfold lwN; rw [if_neg (by omega), if_neg (by omega), if_pos (by omega)]
  · have f0 := h 0 (by decide); have f1 := h 1 (by decide); have f2 := h 2 (by decide); simp only [Nat.reducePow] at h2 f0 f1 f2
    unfold lwN; rw [if_neg (by omega), if_neg (by omega), if_neg (by omega), if_pos (by omega)]
  · have f0 := h 0 (by decide); have f1 := h 1 (by decide); have f2 := h 2 (by decide); have f3 := h 3 (by decide); simp only [Nat.reducePow] at h2 f0 f1 f2 f3
    unfold lwN; rw [if_neg (by omega), if_neg (by omega), if_neg (by omega), if_neg (by omega), if_pos (by omega)]
  · have f0 := h 0 (by decide); have f1 := h 1 (by decide); have f2 := h 2 (by decide); have f3 := h 3 (by decide); have f4 := h 4 (by decide); simp only [Nat.reducePow] at h2 f0 f1 f2 f3 f4
    unfold lwN; rw [if_neg (by omega), if_neg (by omega), if_neg (by omega), if_neg (by omega), if_neg (by omega), if_pos (by omega)]
  · have f0 := h 0 (by decide); have f1 := h 1 (by decide); have f2 := h 2 (by decide); have f3 := h 3 (by decide); have f4 := h 4 (by decide); have f5 := h 5 (by decide); simp only [Nat.reducePow] at h2 f0 f1 f2 f3 f4 f5
    unfold lwN; rw [if_neg (by omega), if_neg (by omega), if_neg (by omega), if_neg (by omega), if_neg (by omega), if_neg (by omega), if_pos (by omega)]
  · have f0 := h 0 (by decide); have f1 := h 1 (by decide); have f2 := h 2 (by decide); have f3 := h 3 (by decide); have f4 := h 4 (by decide); have f5 := h 5 (by decide); have f6 := h 6 (by decide); simp only [Nat.reducePow] at h2 f0 f1 f2 f3 f4 f5 f6
    unfold lwN; rw [if_neg (by omega), if_neg (by omega), if_neg (by omega), if_neg (by omega), if_neg (by omega), if_neg (by omega), if_neg (by omega)]
  · exact absurd (by simp only [Nat.reducePow]; omega) h2
theorem lw_lt {w n : Nat} (hw2 : w < 2 ^ n) {i : Nat} (h2 : ¬ w / 2 ^ i % 2 = 0) : i < n := by
  rcases Nat.lt_or_ge i n with q | q
  · exact q
  · have h3 : (2 : Nat) ^ n ≤ 2 ^ i := Nat.pow_le_pow_right (by decide) q
    rw [Nat.div_eq_of_lt (by omega)] at h2
    exact absurd rfl h2
theorem an1 (a : Nat) : nI a &&& 1 = nI (a % 2) := (nI_and a 1).trans (by rw [Nat.and_one_is_mod])
theorem an_no_all : ∀ r, r < 256 → ∀ q, q < 8 → r / 2 ^ q % 2 = 1 → nI r &&& (nI (2 ^ q) ^^^ (-1)) = nI (r - 2 ^ q) := by decide +kernel
theorem an_no {r q : Nat} (hr : r < 256) (hq : q < 8) (h : r / 2 ^ q % 2 = 1) : nI r &&& (nI (2 ^ q) ^^^ (-1)) = nI (r - 2 ^ q) := an_no_all r hr q hq h
theorem bt_le {r q : Nat} (h : r / 2 ^ q % 2 = 1) : 2 ^ q ≤ r := by
  rcases Nat.lt_or_ge r (2 ^ q) with k | k
  · rw [Nat.div_eq_of_lt k] at h; omega
  · exact k
def pvQ (m : Nat → Int32) (t : Nat → Int32) (b r : Nat) : Nat → Int32
  | 0 => t r
  | q + 1 => if b < q ∧ r / 2 ^ q % 2 = 1 then mxI (pvQ m t b r q) (t (r - 2 ^ q) + woF m b q) else pvQ m t b r q
theorem pv_start {m t : Nat → Int32} {b r : Nat} : ∀ q, q ≤ b + 1 → pvQ m t b r q = t r
  | 0, _ => rfl
  | q + 1, h => (if_neg (by omega)).trans (pv_start q (by omega))
theorem pv_n {m t : Nat → Int32} {b r q : Nat} (h : ¬ r / 2 ^ q % 2 = 1) : pvQ m t b r q = pvQ m t b r (q + 1) := (if_neg (fun k => h k.2)).symm
theorem pv_t {m t : Nat → Int32} {b r q : Nat} (hb : b < q) (h : r / 2 ^ q % 2 = 1) : mxI (pvQ m t b r q) (t (r - 2 ^ q) + (mxI 0 (offersF m b q) + mxI 0 (offersF m q b))) = pvQ m t b r (q + 1) := (if_pos ⟨hb, h⟩).symm
def dpF (m : Nat → Int32) (n : Nat) (t0 : Nat → Int32) : Nat → Nat → Int32
  | 0 => upd t0 0 0
  | w + 1 => if w = 0 then dpF m n t0 w else upd (dpF m n t0 w) w (pvQ m (dpF m n t0 w) (lwN w) (w &&& (w - 1)) n)
theorem dp_s {m t0 : Nat → Int32} {n w : Nat} (h : 0 < w) : upd (dpF m n t0 w) w (pvQ m (dpF m n t0 w) (lwN w) (w &&& (w - 1)) n) = dpF m n t0 (w + 1) := (if_neg (by omega)).symm
