/-! bytes of the class, names, numbers, the class's reading -/
theorem b8_of {x : Int32} (h : 0 ≤ x.toInt ∧ x.toInt ≤ 255) : ∃ a : Nat, a < 256 ∧ x = nI a := by
  obtain ⟨a, ha, hi⟩ := nat_of h.1
  exact ⟨a, by omega, ha⟩
theorem b8_all : ∀ a, a < 256 → (∀ c, c < 128 → ((nI a).toInt8.toInt32 = nI c ↔ a = c)) ∧ alB ((nI a).toInt8.toInt32) = alB (nI a) ∧ dgB ((nI a).toInt8.toInt32) = dgB (nI a) ∧ (dgB (nI a) = true → (nI a).toInt8.toInt32 = nI a ∧ 48 ≤ a ∧ a ≤ 57) := by decide +kernel
theorem b8_eq {x : Int32} {c : Nat} (h : 0 ≤ x.toInt ∧ x.toInt ≤ 255) (hc : c < 128) : x.toInt8.toInt32 = nI c ↔ x = nI c := by
  obtain ⟨a, ha, rfl⟩ := b8_of h
  rw [(b8_all a ha).1 c hc, nI_eq (by omega) (by omega)]
theorem b8_al {x : Int32} (h : 0 ≤ x.toInt ∧ x.toInt ≤ 255) : alB (x.toInt8.toInt32) = alB x := by
  obtain ⟨a, ha, rfl⟩ := b8_of h
  exact (b8_all a ha).2.1
theorem b8_dg {x : Int32} (h : 0 ≤ x.toInt ∧ x.toInt ≤ 255) : dgB (x.toInt8.toInt32) = dgB x := by
  obtain ⟨a, ha, rfl⟩ := b8_of h
  exact (b8_all a ha).2.2.1
theorem b8_dv {x : Int32} (h : 0 ≤ x.toInt ∧ x.toInt ≤ 255) (hd : dgB x = true) : x.toInt8.toInt32 = x ∧ ∃ a, a < 10 ∧ x = nI (48 + a) := by
  obtain ⟨a, ha, rfl⟩ := b8_of h
  obtain ⟨h1, h2, h3⟩ := (b8_all a ha).2.2.2 hd
  exact ⟨h1, a - 48, by omega, by rw [show 48 + (a - 48) = a by omega]⟩
theorem tk_k1 {T : Nat → Int32} {t i : Nat} (h : tkK T t i = 1) : tkF T t i < tkT T t i ∧ tkF T t i < t := ⟨tkT_1 h, tkK_in (by omega)⟩
theorem en_all {P : Nat → Bool} : ∀ d p j, p ≤ j → j < endF P d p → P j = true
  | 0, p, j, h1, h2 => by
    have h2 : j < p := h2
    omega
  | d + 1, p, j, h1, h2 => by
    have h3 : j < (if P p = true then endF P d (p + 1) else p) := h2
    by_cases hp : P p = true
    · rw [if_pos hp] at h3
      by_cases q : j = p
      · rw [q]; exact hp
      · exact en_all d (p + 1) j (by omega) h3
    · rw [if_neg hp] at h3; omega
theorem dg_in {T : Nat → Int32} {t i j : Nat} (hK : tkK T t i = 2) (h1 : tkF T t i ≤ j) (h2 : j < tkT T t i) : dgB (T j) = true := by
  rw [tkT, if_neg (by omega), if_pos hK] at h2
  exact en_all (P := dgP T) _ _ j h1 h2
theorem vF_b {T : Nat → Int32} {f : Nat} : ∀ k, k ≤ 3 → (∀ j, j < k → (0 ≤ (T (f + j)).toInt ∧ (T (f + j)).toInt ≤ 255) ∧ dgB (T (f + j)) = true) → ∃ a, a < 10 ^ k ∧ vF T f k = nI a
  | 0, _, _ => ⟨0, by decide, rfl⟩
  | k + 1, hk, h => by
    obtain ⟨a, ha, e⟩ := vF_b k (by omega) (fun j hj => h j (by omega))
    obtain ⟨-, b, hb, e2⟩ := b8_dv (h k (by omega)).1 (h k (by omega)).2
    have h3 : 10 ^ k ≤ 100 := Nat.pow_le_pow_right (n := 10) (by decide) (show k ≤ 2 by omega)
    refine ⟨10 * a + b, by rw [Nat.pow_succ]; omega, ?_⟩
    show (if vF T f k ≤ 999 then 10 * vF T f k + T (f + k) - 48 else vF T f k) = _
    rw [e, e2, if_pos (show nI a ≤ (999 : Int32) from (nI_leI (a := a) (b := 999) (by omega) (by decide)).mpr (by omega)), show (10 : Int32) = nI 10 from rfl, pk_mul, nI_add, show (48 : Int32) = nI 48 from rfl, pk_sub (by omega)]
    congr 1; omega
theorem vF_s {T : Nat → Int32} {f k : Nat} (hk : k ≤ 2) (h : ∀ j, j < k → (0 ≤ (T (f + j)).toInt ∧ (T (f + j)).toInt ≤ 255) ∧ dgB (T (f + j)) = true) (h1 : (0 ≤ (T (f + k)).toInt ∧ (T (f + k)).toInt ≤ 255) ∧ dgB (T (f + k)) = true) : vF T f k * 10 + ((T (f + k)).toInt8.toInt32 - 48) = vF T f (k + 1) := by
  obtain ⟨a, ha, e⟩ := vF_b k (by omega) h
  have h3 : 10 ^ k ≤ 100 := Nat.pow_le_pow_right (n := 10) (by decide) hk
  show _ = (if vF T f k ≤ 999 then 10 * vF T f k + T (f + k) - 48 else vF T f k)
  rw [(b8_dv h1.1 h1.2).1, e, if_pos (show nI a ≤ (999 : Int32) from (nI_leI (a := a) (b := 999) (by omega) (by decide)).mpr (by omega)), Int32.mul_comm, Int32.sub_eq_add_neg, Int32.sub_eq_add_neg, Int32.add_assoc]
/-- the word is the text q -/
def nameB (T : Nat → Int32) (t i q : Nat) : Bool := decide (tkK T t i = 1) && (decide (tkT T t i - tkF T t i = jsL.getD q 0) && tdB (fun k => decide (T (tkF T t i + k) = nI (jsC q k))) 0 (jsL.getD q 0))
theorem na_1 {T : Nat → Int32} {t i q : Nat} (h : ¬ tkK T t i = 1) : nameB T t i q = false := by rw [nameB, decide_eq_false h]; rfl
theorem na_2 {T : Nat → Int32} {t i q : Nat} (h : ¬ tkT T t i - tkF T t i = jsL.getD q 0) : nameB T t i q = false := by rw [nameB, decide_eq_false h]; simp
theorem na_3 {T : Nat → Int32} {t i q : Nat} {b : Bool} (h1 : tkK T t i = 1) (h2 : tkT T t i - tkF T t i = jsL.getD q 0) (h3 : tdB (fun k => decide (T (tkF T t i + k) = nI (jsC q k))) 0 (jsL.getD q 0) = b) : nameB T t i q = b := by rw [nameB, decide_eq_true h1, decide_eq_true h2, h3]; simp
theorem td_cut (P : Nat → Bool) : ∀ d i, tdB P i (d + 1) = (P i && tdB P (i + 1) d) := fun _ _ => rfl
theorem td_zero (P : Nat → Bool) (i : Nat) : tdB P i 0 = true := rfl
theorem nm_0 {T : Nat → Int32} {t i : Nat} (hi : i ≤ t) : nameB T t i 0 = nmB T t i 4 119 101 102 116 := by
  by_cases hK : tkK T t i = 1
  · by_cases hL : tkT T t i - tkF T t i = 4
    · have hle := (tkT_le (T := T) hi).2
      have hlt := (tk_k1 hK).1
      have e : ∀ k, k < 4 → bA T t (tkF T t i + k) = T (tkF T t i + k) := fun k hk => bA_lt (by omega)
      have e0 : bA T t (tkF T t i) = T (tkF T t i) := bA_lt (by omega)
      have el : bA T t (tkT T t i - 1) = T (tkF T t i + 3) := by rw [show tkT T t i - 1 = tkF T t i + 3 by omega]; exact e 3 (by decide)
      have hJ : jsC 0 0 = 119 ∧ jsC 0 1 = 101 ∧ jsC 0 2 = 102 ∧ jsC 0 3 = 116 := by decide
      have hL2 : jsL.getD 0 0 = 4 := rfl
      rw [na_3 hK (hL.trans hL2.symm) rfl, hL2]
      unfold nmB
      rw [decide_eq_true hK, decide_eq_true hL, el, e0]
      try simp only [Nat.add_assoc, Nat.reduceAdd]
      rw [e 1 (by decide), e 2 (by decide)]
      simp only [td_cut, td_zero, Nat.zero_add, Nat.reduceAdd, hJ, Nat.add_zero, Bool.true_and, Bool.and_true, Bool.and_assoc]
      try rfl
      all_goals (first | rfl | (simp only [Bool.and_self]; rfl) | (simp only [Bool.and_comm, Bool.and_left_comm, Bool.and_assoc]; done) | (simp only [Bool.and_comm, Bool.and_left_comm, Bool.and_assoc]; rfl))
    · rw [na_2 (show ¬ tkT T t i - tkF T t i = jsL.getD 0 0 from hL)]
      unfold nmB
      rw [decide_eq_false hL]; simp
  · rw [na_1 hK]
    unfold nmB
    rw [decide_eq_false hK]; simp
theorem nm_1 {T : Nat → Int32} {t i : Nat} (hi : i ≤ t) : nameB T t i 1 = nmB T t i 4 102 114 97 121 := by
  by_cases hK : tkK T t i = 1
  · by_cases hL : tkT T t i - tkF T t i = 4
    · have hle := (tkT_le (T := T) hi).2
      have hlt := (tk_k1 hK).1
      have e : ∀ k, k < 4 → bA T t (tkF T t i + k) = T (tkF T t i + k) := fun k hk => bA_lt (by omega)
      have e0 : bA T t (tkF T t i) = T (tkF T t i) := bA_lt (by omega)
      have el : bA T t (tkT T t i - 1) = T (tkF T t i + 3) := by rw [show tkT T t i - 1 = tkF T t i + 3 by omega]; exact e 3 (by decide)
      have hJ : jsC 1 0 = 102 ∧ jsC 1 1 = 114 ∧ jsC 1 2 = 97 ∧ jsC 1 3 = 121 := by decide
      have hL2 : jsL.getD 1 0 = 4 := rfl
      rw [na_3 hK (hL.trans hL2.symm) rfl, hL2]
      unfold nmB
      rw [decide_eq_true hK, decide_eq_true hL, el, e0]
      try simp only [Nat.add_assoc, Nat.reduceAdd]
      rw [e 1 (by decide), e 2 (by decide)]
      simp only [td_cut, td_zero, Nat.zero_add, Nat.reduceAdd, hJ, Nat.add_zero, Bool.true_and, Bool.and_true, Bool.and_assoc]
      try rfl
      all_goals (first | rfl | (simp only [Bool.and_self]; rfl) | (simp only [Bool.and_comm, Bool.and_left_comm, Bool.and_assoc]; done) | (simp only [Bool.and_comm, Bool.and_left_comm, Bool.and_assoc]; rfl))
    · rw [na_2 (show ¬ tkT T t i - tkF T t i = jsL.getD 1 0 from hL)]
      unfold nmB
      rw [decide_eq_false hL]; simp
  · rw [na_1 hK]
    unfold nmB
    rw [decide_eq_false hK]; simp
theorem nm_2 {T : Nat → Int32} {t i : Nat} (hi : i ≤ t) : nameB T t i 2 = nmB T t i 4 116 111 108 108 := by
  by_cases hK : tkK T t i = 1
  · by_cases hL : tkT T t i - tkF T t i = 4
    · have hle := (tkT_le (T := T) hi).2
      have hlt := (tk_k1 hK).1
      have e : ∀ k, k < 4 → bA T t (tkF T t i + k) = T (tkF T t i + k) := fun k hk => bA_lt (by omega)
      have e0 : bA T t (tkF T t i) = T (tkF T t i) := bA_lt (by omega)
      have el : bA T t (tkT T t i - 1) = T (tkF T t i + 3) := by rw [show tkT T t i - 1 = tkF T t i + 3 by omega]; exact e 3 (by decide)
      have hJ : jsC 2 0 = 116 ∧ jsC 2 1 = 111 ∧ jsC 2 2 = 108 ∧ jsC 2 3 = 108 := by decide
      have hL2 : jsL.getD 2 0 = 4 := rfl
      rw [na_3 hK (hL.trans hL2.symm) rfl, hL2]
      unfold nmB
      rw [decide_eq_true hK, decide_eq_true hL, el, e0]
      try simp only [Nat.add_assoc, Nat.reduceAdd]
      rw [e 1 (by decide), e 2 (by decide)]
      simp only [td_cut, td_zero, Nat.zero_add, Nat.reduceAdd, hJ, Nat.add_zero, Bool.true_and, Bool.and_true, Bool.and_assoc]
      try rfl
      all_goals (first | rfl | (simp only [Bool.and_self]; rfl) | (simp only [Bool.and_comm, Bool.and_left_comm, Bool.and_assoc]; done) | (simp only [Bool.and_comm, Bool.and_left_comm, Bool.and_assoc]; rfl))
    · rw [na_2 (show ¬ tkT T t i - tkF T t i = jsL.getD 2 0 from hL)]
      unfold nmB
      rw [decide_eq_false hL]; simp
  · rw [na_1 hK]
    unfold nmB
    rw [decide_eq_false hK]; simp
theorem nm_3 {T : Nat → Int32} {t i : Nat} (hi : i ≤ t) : nameB T t i 3 = nmB T t i 4 115 108 105 112 := by
  by_cases hK : tkK T t i = 1
  · by_cases hL : tkT T t i - tkF T t i = 4
    · have hle := (tkT_le (T := T) hi).2
      have hlt := (tk_k1 hK).1
      have e : ∀ k, k < 4 → bA T t (tkF T t i + k) = T (tkF T t i + k) := fun k hk => bA_lt (by omega)
      have e0 : bA T t (tkF T t i) = T (tkF T t i) := bA_lt (by omega)
      have el : bA T t (tkT T t i - 1) = T (tkF T t i + 3) := by rw [show tkT T t i - 1 = tkF T t i + 3 by omega]; exact e 3 (by decide)
      have hJ : jsC 3 0 = 115 ∧ jsC 3 1 = 108 ∧ jsC 3 2 = 105 ∧ jsC 3 3 = 112 := by decide
      have hL2 : jsL.getD 3 0 = 4 := rfl
      rw [na_3 hK (hL.trans hL2.symm) rfl, hL2]
      unfold nmB
      rw [decide_eq_true hK, decide_eq_true hL, el, e0]
      try simp only [Nat.add_assoc, Nat.reduceAdd]
      rw [e 1 (by decide), e 2 (by decide)]
      simp only [td_cut, td_zero, Nat.zero_add, Nat.reduceAdd, hJ, Nat.add_zero, Bool.true_and, Bool.and_true, Bool.and_assoc]
      try rfl
      all_goals (first | rfl | (simp only [Bool.and_self]; rfl) | (simp only [Bool.and_comm, Bool.and_left_comm, Bool.and_assoc]; done) | (simp only [Bool.and_comm, Bool.and_left_comm, Bool.and_assoc]; rfl))
    · rw [na_2 (show ¬ tkT T t i - tkF T t i = jsL.getD 3 0 from hL)]
      unfold nmB
      rw [decide_eq_false hL]; simp
  · rw [na_1 hK]
    unfold nmB
    rw [decide_eq_false hK]; simp
theorem nm_4 {T : Nat → Int32} {t i : Nat} (hi : i ≤ t) : nameB T t i 4 = fiB T t i 98 117 121 101 114 := by
  by_cases hK : tkK T t i = 1
  · by_cases hL : tkT T t i - tkF T t i = 5
    · have hle := (tkT_le (T := T) hi).2
      have hlt := (tk_k1 hK).1
      have e : ∀ k, k < 5 → bA T t (tkF T t i + k) = T (tkF T t i + k) := fun k hk => bA_lt (by omega)
      have e0 : bA T t (tkF T t i) = T (tkF T t i) := bA_lt (by omega)
      have el : bA T t (tkT T t i - 1) = T (tkF T t i + 4) := by rw [show tkT T t i - 1 = tkF T t i + 4 by omega]; exact e 4 (by decide)
      have hJ : jsC 4 0 = 98 ∧ jsC 4 1 = 117 ∧ jsC 4 2 = 121 ∧ jsC 4 3 = 101 ∧ jsC 4 4 = 114 := by decide
      have hL2 : jsL.getD 4 0 = 5 := rfl
      rw [na_3 hK (hL.trans hL2.symm) rfl, hL2]
      unfold fiB nmB
      rw [decide_eq_true hK, decide_eq_true hL, el, e0]
      try simp only [Nat.add_assoc, Nat.reduceAdd]
      rw [e 1 (by decide), e 2 (by decide), e 3 (by decide)]
      simp only [td_cut, td_zero, Nat.zero_add, Nat.reduceAdd, hJ, Nat.add_zero, Bool.true_and, Bool.and_true, Bool.and_assoc]
      try rfl
      all_goals (first | rfl | (simp only [Bool.and_self]; rfl) | (simp only [Bool.and_comm, Bool.and_left_comm, Bool.and_assoc]; done) | (simp only [Bool.and_comm, Bool.and_left_comm, Bool.and_assoc]; rfl))
    · rw [na_2 (show ¬ tkT T t i - tkF T t i = jsL.getD 4 0 from hL)]
      unfold fiB nmB
      rw [decide_eq_false hL]; simp
  · rw [na_1 hK]
    unfold fiB nmB
    rw [decide_eq_false hK]; simp
theorem nm_5 {T : Nat → Int32} {t i : Nat} (hi : i ≤ t) : nameB T t i 5 = nmB T t i 4 119 105 102 101 := by
  by_cases hK : tkK T t i = 1
  · by_cases hL : tkT T t i - tkF T t i = 4
    · have hle := (tkT_le (T := T) hi).2
      have hlt := (tk_k1 hK).1
      have e : ∀ k, k < 4 → bA T t (tkF T t i + k) = T (tkF T t i + k) := fun k hk => bA_lt (by omega)
      have e0 : bA T t (tkF T t i) = T (tkF T t i) := bA_lt (by omega)
      have el : bA T t (tkT T t i - 1) = T (tkF T t i + 3) := by rw [show tkT T t i - 1 = tkF T t i + 3 by omega]; exact e 3 (by decide)
      have hJ : jsC 5 0 = 119 ∧ jsC 5 1 = 105 ∧ jsC 5 2 = 102 ∧ jsC 5 3 = 101 := by decide
      have hL2 : jsL.getD 5 0 = 4 := rfl
      rw [na_3 hK (hL.trans hL2.symm) rfl, hL2]
      unfold nmB
      rw [decide_eq_true hK, decide_eq_true hL, el, e0]
      try simp only [Nat.add_assoc, Nat.reduceAdd]
      rw [e 1 (by decide), e 2 (by decide)]
      simp only [td_cut, td_zero, Nat.zero_add, Nat.reduceAdd, hJ, Nat.add_zero, Bool.true_and, Bool.and_true, Bool.and_assoc]
      try rfl
      all_goals (first | rfl | (simp only [Bool.and_self]; rfl) | (simp only [Bool.and_comm, Bool.and_left_comm, Bool.and_assoc]; done) | (simp only [Bool.and_comm, Bool.and_left_comm, Bool.and_assoc]; rfl))
    · rw [na_2 (show ¬ tkT T t i - tkF T t i = jsL.getD 5 0 from hL)]
      unfold nmB
      rw [decide_eq_false hL]; simp
  · rw [na_1 hK]
    unfold nmB
    rw [decide_eq_false hK]; simp
theorem nm_6 {T : Nat → Int32} {t i : Nat} (hi : i ≤ t) : nameB T t i 6 = (nmB T t i 10 109 97 103 101 && (smB T t i 3 105 115 116 && smB T t i 6 114 97 116)) := by
  by_cases hK : tkK T t i = 1
  · by_cases hL : tkT T t i - tkF T t i = 10
    · have hle := (tkT_le (T := T) hi).2
      have hlt := (tk_k1 hK).1
      have e : ∀ k, k < 10 → bA T t (tkF T t i + k) = T (tkF T t i + k) := fun k hk => bA_lt (by omega)
      have e0 : bA T t (tkF T t i) = T (tkF T t i) := bA_lt (by omega)
      have el : bA T t (tkT T t i - 1) = T (tkF T t i + 9) := by rw [show tkT T t i - 1 = tkF T t i + 9 by omega]; exact e 9 (by decide)
      have hJ : jsC 6 0 = 109 ∧ jsC 6 1 = 97 ∧ jsC 6 2 = 103 ∧ jsC 6 3 = 105 ∧ jsC 6 4 = 115 ∧ jsC 6 5 = 116 ∧ jsC 6 6 = 114 ∧ jsC 6 7 = 97 ∧ jsC 6 8 = 116 ∧ jsC 6 9 = 101 := by decide
      have hL2 : jsL.getD 6 0 = 10 := rfl
      rw [na_3 hK (hL.trans hL2.symm) rfl, hL2]
      unfold nmB smB
      rw [decide_eq_true hK, decide_eq_true hL, el, e0]
      try simp only [Nat.add_assoc, Nat.reduceAdd]
      rw [e 1 (by decide), e 2 (by decide), e 3 (by decide), e 4 (by decide), e 5 (by decide), e 6 (by decide), e 7 (by decide), e 8 (by decide)]
      simp only [td_cut, td_zero, Nat.zero_add, Nat.reduceAdd, hJ, Nat.add_zero, Bool.true_and, Bool.and_true, Bool.and_assoc]
      try rfl
      all_goals (first | rfl | (simp only [Bool.and_self]; rfl) | (simp only [Bool.and_comm, Bool.and_left_comm, Bool.and_assoc]; done) | (simp only [Bool.and_comm, Bool.and_left_comm, Bool.and_assoc]; rfl))
    · rw [na_2 (show ¬ tkT T t i - tkF T t i = jsL.getD 6 0 from hL)]
      unfold nmB
      rw [decide_eq_false hL]; simp
  · rw [na_1 hK]
    unfold nmB
    rw [decide_eq_false hK]; simp
theorem nm_7 {T : Nat → Int32} {t i : Nat} (hi : i ≤ t) : nameB T t i 7 = (nmB T t i 7 107 110 105 114 && smB T t i 3 116 116 101) := by
  by_cases hK : tkK T t i = 1
  · by_cases hL : tkT T t i - tkF T t i = 7
    · have hle := (tkT_le (T := T) hi).2
      have hlt := (tk_k1 hK).1
      have e : ∀ k, k < 7 → bA T t (tkF T t i + k) = T (tkF T t i + k) := fun k hk => bA_lt (by omega)
      have e0 : bA T t (tkF T t i) = T (tkF T t i) := bA_lt (by omega)
      have el : bA T t (tkT T t i - 1) = T (tkF T t i + 6) := by rw [show tkT T t i - 1 = tkF T t i + 6 by omega]; exact e 6 (by decide)
      have hJ : jsC 7 0 = 107 ∧ jsC 7 1 = 110 ∧ jsC 7 2 = 105 ∧ jsC 7 3 = 116 ∧ jsC 7 4 = 116 ∧ jsC 7 5 = 101 ∧ jsC 7 6 = 114 := by decide
      have hL2 : jsL.getD 7 0 = 7 := rfl
      rw [na_3 hK (hL.trans hL2.symm) rfl, hL2]
      unfold nmB smB
      rw [decide_eq_true hK, decide_eq_true hL, el, e0]
      try simp only [Nat.add_assoc, Nat.reduceAdd]
      rw [e 1 (by decide), e 2 (by decide), e 3 (by decide), e 4 (by decide), e 5 (by decide)]
      simp only [td_cut, td_zero, Nat.zero_add, Nat.reduceAdd, hJ, Nat.add_zero, Bool.true_and, Bool.and_true, Bool.and_assoc]
      try rfl
      all_goals (first | rfl | (simp only [Bool.and_self]; rfl) | (simp only [Bool.and_comm, Bool.and_left_comm, Bool.and_assoc]; done) | (simp only [Bool.and_comm, Bool.and_left_comm, Bool.and_assoc]; rfl))
    · rw [na_2 (show ¬ tkT T t i - tkF T t i = jsL.getD 7 0 from hL)]
      unfold nmB
      rw [decide_eq_false hL]; simp
  · rw [na_1 hK]
    unfold nmB
    rw [decide_eq_false hK]; simp
theorem nm_8 {T : Nat → Int32} {t i : Nat} (hi : i ≤ t) : nameB T t i 8 = fiB T t i 99 108 101 114 107 := by
  by_cases hK : tkK T t i = 1
  · by_cases hL : tkT T t i - tkF T t i = 5
    · have hle := (tkT_le (T := T) hi).2
      have hlt := (tk_k1 hK).1
      have e : ∀ k, k < 5 → bA T t (tkF T t i + k) = T (tkF T t i + k) := fun k hk => bA_lt (by omega)
      have e0 : bA T t (tkF T t i) = T (tkF T t i) := bA_lt (by omega)
      have el : bA T t (tkT T t i - 1) = T (tkF T t i + 4) := by rw [show tkT T t i - 1 = tkF T t i + 4 by omega]; exact e 4 (by decide)
      have hJ : jsC 8 0 = 99 ∧ jsC 8 1 = 108 ∧ jsC 8 2 = 101 ∧ jsC 8 3 = 114 ∧ jsC 8 4 = 107 := by decide
      have hL2 : jsL.getD 8 0 = 5 := rfl
      rw [na_3 hK (hL.trans hL2.symm) rfl, hL2]
      unfold fiB nmB
      rw [decide_eq_true hK, decide_eq_true hL, el, e0]
      try simp only [Nat.add_assoc, Nat.reduceAdd]
      rw [e 1 (by decide), e 2 (by decide), e 3 (by decide)]
      simp only [td_cut, td_zero, Nat.zero_add, Nat.reduceAdd, hJ, Nat.add_zero, Bool.true_and, Bool.and_true, Bool.and_assoc]
      try rfl
      all_goals (first | rfl | (simp only [Bool.and_self]; rfl) | (simp only [Bool.and_comm, Bool.and_left_comm, Bool.and_assoc]; done) | (simp only [Bool.and_comm, Bool.and_left_comm, Bool.and_assoc]; rfl))
    · rw [na_2 (show ¬ tkT T t i - tkF T t i = jsL.getD 8 0 from hL)]
      unfold fiB nmB
      rw [decide_eq_false hL]; simp
  · rw [na_1 hK]
    unfold fiB nmB
    rw [decide_eq_false hK]; simp
theorem nm_9 {T : Nat → Int32} {t i : Nat} (hi : i ≤ t) : nameB T t i 9 = fiB T t i 117 110 99 108 101 := by
  by_cases hK : tkK T t i = 1
  · by_cases hL : tkT T t i - tkF T t i = 5
    · have hle := (tkT_le (T := T) hi).2
      have hlt := (tk_k1 hK).1
      have e : ∀ k, k < 5 → bA T t (tkF T t i + k) = T (tkF T t i + k) := fun k hk => bA_lt (by omega)
      have e0 : bA T t (tkF T t i) = T (tkF T t i) := bA_lt (by omega)
      have el : bA T t (tkT T t i - 1) = T (tkF T t i + 4) := by rw [show tkT T t i - 1 = tkF T t i + 4 by omega]; exact e 4 (by decide)
      have hJ : jsC 9 0 = 117 ∧ jsC 9 1 = 110 ∧ jsC 9 2 = 99 ∧ jsC 9 3 = 108 ∧ jsC 9 4 = 101 := by decide
      have hL2 : jsL.getD 9 0 = 5 := rfl
      rw [na_3 hK (hL.trans hL2.symm) rfl, hL2]
      unfold fiB nmB
      rw [decide_eq_true hK, decide_eq_true hL, el, e0]
      try simp only [Nat.add_assoc, Nat.reduceAdd]
      rw [e 1 (by decide), e 2 (by decide), e 3 (by decide)]
      simp only [td_cut, td_zero, Nat.zero_add, Nat.reduceAdd, hJ, Nat.add_zero, Bool.true_and, Bool.and_true, Bool.and_assoc]
      try rfl
      all_goals (first | rfl | (simp only [Bool.and_self]; rfl) | (simp only [Bool.and_comm, Bool.and_left_comm, Bool.and_assoc]; done) | (simp only [Bool.and_comm, Bool.and_left_comm, Bool.and_assoc]; rfl))
    · rw [na_2 (show ¬ tkT T t i - tkF T t i = jsL.getD 9 0 from hL)]
      unfold fiB nmB
      rw [decide_eq_false hL]; simp
  · rw [na_1 hK]
    unfold fiB nmB
    rw [decide_eq_false hK]; simp
theorem nm_10 {T : Nat → Int32} {t i : Nat} (hi : i ≤ t) : nameB T t i 10 = fiB T t i 116 114 117 116 104 := by
  by_cases hK : tkK T t i = 1
  · by_cases hL : tkT T t i - tkF T t i = 5
    · have hle := (tkT_le (T := T) hi).2
      have hlt := (tk_k1 hK).1
      have e : ∀ k, k < 5 → bA T t (tkF T t i + k) = T (tkF T t i + k) := fun k hk => bA_lt (by omega)
      have e0 : bA T t (tkF T t i) = T (tkF T t i) := bA_lt (by omega)
      have el : bA T t (tkT T t i - 1) = T (tkF T t i + 4) := by rw [show tkT T t i - 1 = tkF T t i + 4 by omega]; exact e 4 (by decide)
      have hJ : jsC 10 0 = 116 ∧ jsC 10 1 = 114 ∧ jsC 10 2 = 117 ∧ jsC 10 3 = 116 ∧ jsC 10 4 = 104 := by decide
      have hL2 : jsL.getD 10 0 = 5 := rfl
      rw [na_3 hK (hL.trans hL2.symm) rfl, hL2]
      unfold fiB nmB
      rw [decide_eq_true hK, decide_eq_true hL, el, e0]
      try simp only [Nat.add_assoc, Nat.reduceAdd]
      rw [e 1 (by decide), e 2 (by decide), e 3 (by decide)]
      simp only [td_cut, td_zero, Nat.zero_add, Nat.reduceAdd, hJ, Nat.add_zero, Bool.true_and, Bool.and_true, Bool.and_assoc]
      try rfl
      all_goals (first | rfl | (simp only [Bool.and_self]; rfl) | (simp only [Bool.and_comm, Bool.and_left_comm, Bool.and_assoc]; done) | (simp only [Bool.and_comm, Bool.and_left_comm, Bool.and_assoc]; rfl))
    · rw [na_2 (show ¬ tkT T t i - tkF T t i = jsL.getD 10 0 from hL)]
      unfold fiB nmB
      rw [decide_eq_false hL]; simp
  · rw [na_1 hK]
    unfold fiB nmB
    rw [decide_eq_false hK]; simp
theorem nm_11 {T : Nat → Int32} {t i : Nat} (hi : i ≤ t) : nameB T t i 11 = nmB T t i 4 119 105 115 104 := by
  by_cases hK : tkK T t i = 1
  · by_cases hL : tkT T t i - tkF T t i = 4
    · have hle := (tkT_le (T := T) hi).2
      have hlt := (tk_k1 hK).1
      have e : ∀ k, k < 4 → bA T t (tkF T t i + k) = T (tkF T t i + k) := fun k hk => bA_lt (by omega)
      have e0 : bA T t (tkF T t i) = T (tkF T t i) := bA_lt (by omega)
      have el : bA T t (tkT T t i - 1) = T (tkF T t i + 3) := by rw [show tkT T t i - 1 = tkF T t i + 3 by omega]; exact e 3 (by decide)
      have hJ : jsC 11 0 = 119 ∧ jsC 11 1 = 105 ∧ jsC 11 2 = 115 ∧ jsC 11 3 = 104 := by decide
      have hL2 : jsL.getD 11 0 = 4 := rfl
      rw [na_3 hK (hL.trans hL2.symm) rfl, hL2]
      unfold nmB
      rw [decide_eq_true hK, decide_eq_true hL, el, e0]
      try simp only [Nat.add_assoc, Nat.reduceAdd]
      rw [e 1 (by decide), e 2 (by decide)]
      simp only [td_cut, td_zero, Nat.zero_add, Nat.reduceAdd, hJ, Nat.add_zero, Bool.true_and, Bool.and_true, Bool.and_assoc]
      try rfl
      all_goals (first | rfl | (simp only [Bool.and_self]; rfl) | (simp only [Bool.and_comm, Bool.and_left_comm, Bool.and_assoc]; done) | (simp only [Bool.and_comm, Bool.and_left_comm, Bool.and_assoc]; rfl))
    · rw [na_2 (show ¬ tkT T t i - tkF T t i = jsL.getD 11 0 from hL)]
      unfold nmB
      rw [decide_eq_false hL]; simp
  · rw [na_1 hK]
    unfold nmB
    rw [decide_eq_false hK]; simp
theorem nm_12 {T : Nat → Int32} {t i : Nat} (hi : i ≤ t) : nameB T t i 12 = nmB T t i 3 119 101 98 98 := by
  by_cases hK : tkK T t i = 1
  · by_cases hL : tkT T t i - tkF T t i = 3
    · have hle := (tkT_le (T := T) hi).2
      have hlt := (tk_k1 hK).1
      have e : ∀ k, k < 3 → bA T t (tkF T t i + k) = T (tkF T t i + k) := fun k hk => bA_lt (by omega)
      have e0 : bA T t (tkF T t i) = T (tkF T t i) := bA_lt (by omega)
      have el : bA T t (tkT T t i - 1) = T (tkF T t i + 2) := by rw [show tkT T t i - 1 = tkF T t i + 2 by omega]; exact e 2 (by decide)
      have hJ : jsC 12 0 = 119 ∧ jsC 12 1 = 101 ∧ jsC 12 2 = 98 := by decide
      have hL2 : jsL.getD 12 0 = 3 := rfl
      rw [na_3 hK (hL.trans hL2.symm) rfl, hL2]
      unfold nmB
      rw [decide_eq_true hK, decide_eq_true hL, el, e0]
      try simp only [Nat.add_assoc, Nat.reduceAdd]
      rw [e 1 (by decide), e 2 (by decide)]
      simp only [td_cut, td_zero, Nat.zero_add, Nat.reduceAdd, hJ, Nat.add_zero, Bool.true_and, Bool.and_true, Bool.and_assoc]
      try rfl
      all_goals (first | rfl | (simp only [Bool.and_self]; rfl) | (simp only [Bool.and_comm, Bool.and_left_comm, Bool.and_assoc]; done) | (simp only [Bool.and_comm, Bool.and_left_comm, Bool.and_assoc]; rfl))
    · rw [na_2 (show ¬ tkT T t i - tkF T t i = jsL.getD 12 0 from hL)]
      unfold nmB
      rw [decide_eq_false hL]; simp
  · rw [na_1 hK]
    unfold nmB
    rw [decide_eq_false hK]; simp
theorem nm_13 {T : Nat → Int32} {t i : Nat} (hi : i ≤ t) : nameB T t i 13 = fiB T t i 99 111 105 110 115 := by
  by_cases hK : tkK T t i = 1
  · by_cases hL : tkT T t i - tkF T t i = 5
    · have hle := (tkT_le (T := T) hi).2
      have hlt := (tk_k1 hK).1
      have e : ∀ k, k < 5 → bA T t (tkF T t i + k) = T (tkF T t i + k) := fun k hk => bA_lt (by omega)
      have e0 : bA T t (tkF T t i) = T (tkF T t i) := bA_lt (by omega)
      have el : bA T t (tkT T t i - 1) = T (tkF T t i + 4) := by rw [show tkT T t i - 1 = tkF T t i + 4 by omega]; exact e 4 (by decide)
      have hJ : jsC 13 0 = 99 ∧ jsC 13 1 = 111 ∧ jsC 13 2 = 105 ∧ jsC 13 3 = 110 ∧ jsC 13 4 = 115 := by decide
      have hL2 : jsL.getD 13 0 = 5 := rfl
      rw [na_3 hK (hL.trans hL2.symm) rfl, hL2]
      unfold fiB nmB
      rw [decide_eq_true hK, decide_eq_true hL, el, e0]
      try simp only [Nat.add_assoc, Nat.reduceAdd]
      rw [e 1 (by decide), e 2 (by decide), e 3 (by decide)]
      simp only [td_cut, td_zero, Nat.zero_add, Nat.reduceAdd, hJ, Nat.add_zero, Bool.true_and, Bool.and_true, Bool.and_assoc]
      try rfl
      all_goals (first | rfl | (simp only [Bool.and_self]; rfl) | (simp only [Bool.and_comm, Bool.and_left_comm, Bool.and_assoc]; done) | (simp only [Bool.and_comm, Bool.and_left_comm, Bool.and_assoc]; rfl))
    · rw [na_2 (show ¬ tkT T t i - tkF T t i = jsL.getD 13 0 from hL)]
      unfold fiB nmB
      rw [decide_eq_false hL]; simp
  · rw [na_1 hK]
    unfold fiB nmB
    rw [decide_eq_false hK]; simp
