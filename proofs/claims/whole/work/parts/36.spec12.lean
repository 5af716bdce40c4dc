/-! odds, pairs of the class -/
theorem ml_RX5_322' : Cond.methodLink RX5 322 Lib.MathLoose.max_long.x ∈ ALLW := at3 144 rfl rfl
theorem mxl_st : Cond.static Lib.MathLoose.max_long.x ∈ ALLW := at3 145 rfl rfl
theorem mxl_co : Cond.code Lib.MathLoose.max_long.x Lib.MathLoose.max_long.code 4 (some .long) ∈ ALLW := at3 146 rfl rfl
section VXL
variable {p : Program} {l : Launch} {e : Env} {R : Room} {s : State} {m : MethodId} {args : Array Value} {below : List Frame} {meth : Method} {c : Code} {Q : State → Prop} {ad : Nat → Nat} {D : va_G} {tys : List (ClassId × FieldType)} {A : Nat → Prop} {cc : ByteArray} {nL : Nat} {own : String} {pre blk blk' post : va_W} {pc : Nat} {lv : List (Nat × Value)} {rest : List Value}
theorem r_mmaxl (C : Cx p s m args c cc nL own ad D tys A) {index : Nat} {x y : Int64} (hl : Cond.methodLink own index Lib.MathLoose.max_long.x ∈ ALLW) (hf : 1 ≤ R.frames) (hlo : 23 ≤ R.locals) (hro : (rest.map fun v => v.category).sum ≤ 8) (hdg : decode cc pc = .ok (.invokestatic index, 3)) (k : VX p l e R s m args below meth c Q D A nL pre blk post (pc + 3) lv (.long (if y < x then x else y) :: rest)) : VX p l e R s m args below meth c Q D A nL pre blk post pc lv (.long y :: .long x :: rest) := fun H locs ls hP hD hS hl2 =>
  va_mmax_long C.1 C.2.1 (by rw [lv_size hl2]; exact C.2.2.1) C.2.2.2.1 (C.2.2.2.2.1 _ hl) (C.2.2.2.2.1 _ mxl_st) (C.2.2.2.2.1 _ ma_in) (C.2.2.2.2.1 _ mxl_co) hf (by omega) (Nat.zero_le _) (Nat.zero_le _) hdg (k H locs ls hP hD hS hl2)
end VXL
theorem mx1 {a : Nat} (h0 : 0 < a) (h : a < 2 ^ 63) : (if lN a < 1 then 1 else lN a) = lN a := by
  refine if_neg (fun q => ?_)
  have e : (1 : Int64) = lN 1 := rfl
  rw [e] at q
  have := (pk_lLT (a := a) (b := 1) h (by decide)).mp q
  omega
def wyN (n k : Nat) : Nat → Nat
  | 0 => 1
  | i + 1 => wyN n k i * (n - k + (i + 1)) / (i + 1)
theorem wy_le : ∀ n, n < 9 → ∀ k, k < 9 → ∀ i, i < 9 → wyN n k i ≤ 100000 := by decide +kernel
theorem wy_eq : ∀ n, n < 9 → ∀ k, k < 9 → k ≤ n → wyN n k k = fcN n / fcN k / fcN (n - k) := by decide +kernel
theorem od_lo {n k c : Nat} : ∀ i, i ≤ k → odA n k c i = odA n k c 0 * c ^ i
  | 0, _ => by rw [Nat.pow_zero, Nat.mul_one]
  | i + 1, h => by
    show odA n k c i * (if k ≤ i then 100 - c else c) = _
    rw [if_neg (by omega), od_lo i (by omega), Nat.pow_succ, Nat.mul_assoc]
theorem od_hi {n k c : Nat} : ∀ i, odA n k c (k + i) = odA n k c 0 * c ^ k * (100 - c) ^ i
  | 0 => by rw [Nat.add_zero, Nat.pow_zero, Nat.mul_one]; exact od_lo k (Nat.le_refl _)
  | i + 1 => by
    show odA n k c (k + i) * (if k ≤ k + i then 100 - c else c) = _
    rw [if_pos (by omega), od_hi i, Nat.pow_succ, Nat.mul_assoc (odA n k c 0 * c ^ k)]
theorem od_eq {n k c : Nat} (hn : n ≤ 8) (hk : k ≤ n) : wyN n k k * c ^ k * (100 - c) ^ (n - k) = odA n k c n := by
  have h := od_hi (n := n) (k := k) (c := c) (n - k)
  rw [show k + (n - k) = n by omega] at h
  rw [h, wy_eq n (by omega) k (by omega) hk]; rfl
/-- the smaller of the two falls: at most half behind two steps, or nothing is left -/
theorem gi_half {a b : Nat} : ∀ i, (∃ j, j ≤ 2 * i + 1 ∧ (giN a b j).2 = 0) ∨ (giN a b (2 * i)).2 * 2 ^ i ≤ a
  | 0 => by right; rw [Nat.pow_zero, Nat.mul_one]; exact Nat.le_refl _
  | i + 1 => by
    rcases gi_half (a := a) (b := b) i with ⟨j, hj, h⟩ | h
    · exact Or.inl ⟨j, by omega, h⟩
    · by_cases hz : (giN a b (2 * i)).2 = 0
      · exact Or.inl ⟨2 * i, by omega, hz⟩
      · by_cases hw : (giN a b (2 * i)).1 % (giN a b (2 * i)).2 = 0
        · exact Or.inl ⟨2 * i + 1, by omega, hw⟩
        · right
          rw [show 2 * (i + 1) = 2 * i + 1 + 1 by omega]
          show ((giN a b (2 * i)).2 % ((giN a b (2 * i)).1 % (giN a b (2 * i)).2)) * 2 ^ (i + 1) ≤ a
          revert h hz hw
          generalize (giN a b (2 * i)).1 = x
          generalize (giN a b (2 * i)).2 = y
          intro h hz hw
          have h3 := Nat.mod_lt y (show 0 < x % y by omega)
          have h4 := Nat.mod_lt x (show 0 < y by omega)
          have h5 := Nat.div_add_mod y (x % y)
          have h6 : 1 ≤ y / (x % y) := (Nat.one_le_div_iff (by omega)).mpr (Nat.le_of_lt h4)
          have h7 : (x % y) * 1 ≤ (x % y) * (y / (x % y)) := Nat.mul_le_mul_left _ h6
          have h2 : y % (x % y) * 2 ≤ y := by omega
          rw [Nat.pow_succ, Nat.mul_comm (2 ^ i) 2, ← Nat.mul_assoc]
          exact Nat.le_trans (Nat.mul_le_mul_right _ h2) h
/-- some pair before the 200th has nothing left -/
theorem gi_end {a b : Nat} (ha : a < 2 ^ 63) : ∃ j, j ≤ 200 ∧ (giN a b j).2 = 0 := by
  rcases gi_half (a := a) (b := b) 70 with ⟨j, hj, h⟩ | h
  · exact ⟨j, by omega, h⟩
  · refine ⟨140, by decide, ?_⟩
    rcases Nat.eq_zero_or_pos (giN a b (2 * 70)).2 with q | q
    · exact q
    · have h1 : 1 * 2 ^ 70 ≤ (giN a b (2 * 70)).2 * 2 ^ 70 := Nat.mul_le_mul_right _ q
      have h2 : (2 : Nat) ^ 63 < 1 * 2 ^ 70 := by decide
      omega
def GiX (a b i : Nat) : Prop := (Nat.gcd (giN a b i).1 (giN a b i).2 = Nat.gcd b a ∧ (giN a b i).2 + 0 ≤ a ∧ (giN a b i).1 < 2 ^ 63 ∧ (giN a b i).2 < 2 ^ 63) ∧ ∀ j, j < i → (giN a b j).2 ≠ 0
theorem gx_0 {a b : Nat} (ha : a < 2 ^ 63) (hb : b < 2 ^ 63) : GiX a b 0 := ⟨⟨rfl, Nat.le_refl _, hb, ha⟩, fun j h => absurd h (Nat.not_lt_zero j)⟩
theorem gx_s {a b i : Nat} (h : GiX a b i) (hz : (giN a b i).2 ≠ 0) : GiX a b (i + 1) := by
  obtain ⟨⟨h1, h2, h3, h4⟩, h5⟩ := h
  have hm := Nat.mod_lt (giN a b i).1 (show (giN a b i).2 > 0 by omega)
  refine ⟨⟨?_, ?_, h4, ?_⟩, fun j hj => ?_⟩
  · show Nat.gcd (giN a b i).2 ((giN a b i).1 % (giN a b i).2) = _
    rw [← h1, Nat.gcd_comm (giN a b i).1, Nat.gcd_rec (giN a b i).2 (giN a b i).1, Nat.gcd_comm]
  · show (giN a b i).1 % (giN a b i).2 + 0 ≤ a; omega
  · show (giN a b i).1 % (giN a b i).2 < _; omega
  · by_cases q : j = i
    · rw [q]; exact hz
    · exact h5 j (by omega)
theorem gx_200 {a b i : Nat} (ha : a < 2 ^ 63) (h : GiX a b i) : i ≤ 200 := by
  obtain ⟨j, hj, hz⟩ := gi_end (b := b) ha
  rcases Nat.lt_or_ge j i with q | q
  · exact absurd hz (h.2 j q)
  · omega
theorem gx_end {a b i : Nat} (hb : 0 < b) (h : GiX a b i) (hz : (giN a b i).2 = 0) : (giN a b i).1 = Nat.gcd b a ∧ 0 < (giN a b i).1 := by
  have h1 := h.1.1
  rw [hz, Nat.gcd_zero_right] at h1
  exact ⟨h1, by rw [h1]; exact Nat.gcd_pos_of_pos_left _ hb⟩
/-! pairs, by the highest of a set -/
def hwQ (m : Nat → Int32) (t : Nat → Int32) (b r : Nat) : Nat → Int32
  | 0 => t r
  | q + 1 => if r / 2 ^ q % 2 = 1 then mxI (hwQ m t b r q) (woF m b q + t (r - 2 ^ q)) else hwQ m t b r q
def hpO (m : Nat → Int32) (t : Nat → Int32) (b : Nat) : Nat → Nat → Int32
  | 0 => t
  | o + 1 => upd (hpO m t b o) (o + 2 ^ b) (hwQ m (hpO m t b o) b o b)
def hpL (m : Nat → Int32) (t0 : Nat → Int32) : Nat → Nat → Int32
  | 0 => upd t0 0 0
  | b + 1 => hpO m (hpL m t0 b) b (2 ^ b)
theorem xo_all : ∀ r, r < 256 → ∀ q, q < 8 → r / 2 ^ q % 2 = 1 → nI r ^^^ nI (2 ^ q) = nI (r - 2 ^ q) := by decide +kernel
theorem ab_all : ∀ r, r < 256 → ∀ q, q < 8 → (r &&& 2 ^ q = 0 ↔ ¬ r / 2 ^ q % 2 = 1) := by decide +kernel
theorem pw_8 {q : Nat} (h : q < 8) : 2 ^ q ≤ 128 := Nat.pow_le_pow_right (n := 2) (by decide) (show q ≤ 7 by omega)
