/-! the text: bytes, the words in it -/
def bA (T : Nat → Int32) (t i : Nat) : Int32 := if t ≤ i then -1 else T i
def alB (c : Int32) : Bool := decide (¬ c < 97 ∧ ¬ 122 < c)
def dgB (c : Int32) : Bool := decide (¬ c < 48 ∧ ¬ 57 < c)
/-- the end of a stretch where P is -/
def endF (P : Nat → Bool) : Nat → Nat → Nat
  | 0, i => i
  | d + 1, i => if P i = true then endF P d (i + 1) else i
theorem en_next {P : Nat → Bool} {t p : Nat} (h : p < t) (hP : P p = true) : endF P (t - p) p = endF P (t - (p + 1)) (p + 1) := by
  obtain ⟨d, hd⟩ : ∃ d, t - p = d + 1 := ⟨t - p - 1, by omega⟩
  rw [hd, show t - (p + 1) = d by omega]
  exact if_pos hP
theorem en_stop {P : Nat → Bool} {t p : Nat} (hP : p < t → P p = false) : endF P (t - p) p = p := by
  by_cases h : p < t
  · obtain ⟨d, hd⟩ : ∃ d, t - p = d + 1 := ⟨t - p - 1, by omega⟩
    rw [hd]; exact if_neg (by rw [hP h]; decide)
  · rw [show t - p = 0 by omega]; rfl
theorem en_le (P : Nat → Bool) : ∀ d p, p ≤ endF P d p ∧ endF P d p ≤ p + d
  | 0, p => ⟨Nat.le_refl _, Nat.le_refl _⟩
  | d + 1, p => by
    show p ≤ (if P p = true then endF P d (p + 1) else p) ∧ (if P p = true then endF P d (p + 1) else p) ≤ p + (d + 1)
    have := en_le P d (p + 1)
    split <;> omega
def spP (T : Nat → Int32) (j : Nat) : Bool := decide (T j = 32)
def alP (T : Nat → Int32) (j : Nat) : Bool := alB (T j)
def dgP (T : Nat → Int32) (j : Nat) : Bool := dgB (T j)
def vF (T : Nat → Int32) (f : Nat) : Nat → Int32
  | 0 => 0
  | k + 1 => if vF T f k ≤ 999 then 10 * vF T f k + T (f + k) - 48 else vF T f k
/-- the word that comes at i or behind: where it begins, its sort, its end, its number -/
def tkF (T : Nat → Int32) (t i : Nat) : Nat := endF (spP T) (t - i) i
def tkK (T : Nat → Int32) (t i : Nat) : Nat := if 0 ≤ bA T t (tkF T t i) then (if alB (bA T t (tkF T t i)) = true then 1 else if dgB (bA T t (tkF T t i)) = true then 2 else 3) else 0
def tkT (T : Nat → Int32) (t i : Nat) : Nat := if tkK T t i = 1 then endF (alP T) (t - tkF T t i) (tkF T t i) else if tkK T t i = 2 then endF (dgP T) (t - tkF T t i) (tkF T t i) else if tkK T t i = 3 then tkF T t i + 1 else tkF T t i
def tkV (T : Nat → Int32) (t i : Nat) : Int32 := if tkK T t i = 2 then vF T (tkF T t i) (tkT T t i - tkF T t i) else 0
theorem bA_lt {T : Nat → Int32} {t i : Nat} (h : i < t) : bA T t i = T i := if_neg (by omega)
theorem bA_ge {T : Nat → Int32} {t i : Nat} (h : t ≤ i) : bA T t i = -1 := if_pos h
theorem bA_in {T : Nat → Int32} {t i : Nat} (h : ¬ bA T t i = -1) : i < t := Nat.not_le.mp fun q => h (bA_ge q)
theorem tkF_le {T : Nat → Int32} {t i : Nat} (h : i ≤ t) : i ≤ tkF T t i ∧ tkF T t i ≤ t := by
  have := en_le (spP T) (t - i) i
  unfold tkF; omega
theorem tkK_le (T : Nat → Int32) (t i : Nat) : tkK T t i ≤ 3 := by
  unfold tkK; split
  · split
    · decide
    · split <;> decide
  · decide
theorem tkK_in {T : Nat → Int32} {t i : Nat} (h : tkK T t i ≠ 0) : tkF T t i < t := by
  refine bA_in (T := T) (fun q => h ?_)
  unfold tkK
  rw [q]; decide
theorem tkT_le {T : Nat → Int32} {t i : Nat} (h : i ≤ t) : tkF T t i ≤ tkT T t i ∧ tkT T t i ≤ t := by
  have hf := tkF_le (T := T) h
  have h1 := en_le (alP T) (t - tkF T t i) (tkF T t i)
  have h2 := en_le (dgP T) (t - tkF T t i) (tkF T t i)
  have h3 := @tkK_in T t i
  unfold tkT
  split
  · omega
  · split
    · omega
    · split
      · have := h3 (by omega); omega
      · omega
theorem en_first {P : Nat → Bool} {d p : Nat} (hd : 0 < d) (hP : P p = true) : p < endF P d p := by
  obtain ⟨e, rfl⟩ : ∃ e, d = e + 1 := ⟨d - 1, by omega⟩
  show p < (if P p = true then endF P e (p + 1) else p)
  rw [if_pos hP]
  have := en_le P e (p + 1)
  omega
theorem tkT_1 {T : Nat → Int32} {t i : Nat} (h : tkK T t i = 1) : tkF T t i < tkT T t i := by
  have hin := tkK_in (show tkK T t i ≠ 0 by omega)
  unfold tkT
  rw [if_pos h]
  refine en_first (by omega) ?_
  have hk := h
  unfold tkK at hk
  split at hk
  · split at hk
    · rename_i h1 h2
      rw [bA_lt hin] at h2
      exact h2
    · split at hk <;> omega
  · omega
theorem sp_32 {T : Nat → Int32} {t p : Nat} (h : bA T t p = 32) : p < t ∧ spP T p = true := by
  have hp : p < t := bA_in (fun q => by rw [q] at h; exact absurd h (by decide))
  rw [bA_lt hp] at h
  exact ⟨hp, decide_eq_true h⟩
theorem sp_no {T : Nat → Int32} {t p : Nat} (h : ¬ bA T t p = 32) : p < t → spP T p = false := fun hp => by
  rw [bA_lt hp] at h
  exact decide_eq_false h
theorem al_yes {T : Nat → Int32} {t p : Nat} (h : alB (bA T t p) = true) : p < t ∧ alP T p = true := by
  have hp : p < t := bA_in (fun q => by rw [q] at h; exact absurd h (by decide))
  rw [bA_lt hp] at h
  exact ⟨hp, h⟩
theorem al_no {T : Nat → Int32} {t p : Nat} (h : ¬ alB (bA T t p) = true) : p < t → alP T p = false := fun hp => by
  rw [bA_lt hp] at h
  exact Bool.not_eq_true _ ▸ h
theorem dg_yes {T : Nat → Int32} {t p : Nat} (h : dgB (bA T t p) = true) : p < t ∧ dgP T p = true := by
  have hp : p < t := bA_in (fun q => by rw [q] at h; exact absurd h (by decide))
  rw [bA_lt hp] at h
  exact ⟨hp, h⟩
theorem dg_no {T : Nat → Int32} {t p : Nat} (h : ¬ dgB (bA T t p) = true) : p < t → dgP T p = false := fun hp => by
  rw [bA_lt hp] at h
  exact Bool.not_eq_true _ ▸ h
/-! the parser's state: all is wrong, where the word is looked for, the row -/
abbrev PS : Type := Bool × Nat × (Nat → Int32)
def nmB (T : Nat → Int32) (t i q : Nat) (a b c d : Int32) : Bool := decide (tkK T t i = 1) && (decide (tkT T t i - tkF T t i = q) && (decide (bA T t (tkF T t i) = a) && (decide (bA T t (tkF T t i + 1) = b) && (decide (bA T t (tkF T t i + 2) = c) && decide (bA T t (tkT T t i - 1) = d)))))
def smB (T : Nat → Int32) (t i q : Nat) (a b c : Int32) : Bool := decide (bA T t (tkF T t i + q) = a) && (decide (bA T t (tkF T t i + q + 1) = b) && decide (bA T t (tkF T t i + q + 2) = c))
def fiB (T : Nat → Int32) (t i : Nat) (a b c d e : Int32) : Bool := nmB T t i 5 a b c e && decide (bA T t (tkF T t i + 3) = d)
def kiF (T : Nat → Int32) (t i : Nat) : Int32 := if fiB T t i 98 117 121 101 114 = true then 0 else if nmB T t i 4 119 105 102 101 = true then 1 else if (nmB T t i 10 109 97 103 101 && (smB T t i 3 105 115 116 && smB T t i 6 114 97 116)) = true then 2 else if (nmB T t i 7 107 110 105 114 && smB T t i 3 116 116 101) = true then 3 else if fiB T t i 99 108 101 114 107 = true then 4 else if fiB T t i 117 110 99 108 101 = true then 5 else -1
def laF (T : Nat → Int32) (t i : Nat) : Int32 := if nmB T t i 4 119 101 102 116 = true then 4 else if nmB T t i 4 102 114 97 121 = true then 5 else if nmB T t i 4 116 111 108 108 = true then 6 else if nmB T t i 4 115 108 105 112 = true then 7 else -1
def ndS (T : Nat → Int32) (t : Nat) (b : Bool) (s : PS) : PS := if (s.1 || !b) = true then (true, s.2) else (false, tkT T t s.2.1, s.2.2)
def nbB (T : Nat → Int32) (t i : Nat) (v : Int32) : Bool := decide (tkK T t i = 2) && (decide (tkT T t i - tkF T t i ≤ 3) && decide (tkV T t i ≤ v))
def ntS (T : Nat → Int32) (t a : Nat) (v : Int32) (s : PS) : PS := ndS T t (nbB T t s.2.1 v) (s.1, s.2.1, if nbB T t s.2.1 v = true then (if s.1 = true then s.2.2 else upd s.2.2 a (tkV T t s.2.1)) else s.2.2)
def nxS (T : Nat → Int32) (t : Nat) (s : PS) : PS := (s.1, tkT T t s.2.1, s.2.2)
def phS (T : Nat → Int32) (t : Nat) (b : Bool) (a : Nat) (v : Int32) (s : PS) : PS := if s.1 = true then s else if b = true then ntS T t a v (nxS T t s) else s
def peS (n : Nat) (k : Int32) (s : PS) : PS := if s.1 = true then s else (s.1, s.2.1, upd (upd (upd s.2.2 (8 + 5 * n) k) (8 + 5 * n + 4) 50) 0 (nI (n + 1)))
def pn0 (T : Nat → Int32) (t n : Nat) (k : Int32) (s : PS) : PS := peS n k (ndS T t (decide (n < 8)) s)
def pn1 (T : Nat → Int32) (t n : Nat) (k : Int32) (s : PS) : PS := phS T t (fiB T t (pn0 T t n k s).2.1 116 114 117 116 104) (8 + 5 * n + 1) 99 (pn0 T t n k s)
def pn2 (T : Nat → Int32) (t n : Nat) (k : Int32) (s : PS) : PS := phS T t (nmB T t (pn1 T t n k s).2.1 4 119 105 115 104) (8 + 5 * n + 2) 99 (pn1 T t n k s)
def pn3 (T : Nat → Int32) (t n : Nat) (k : Int32) (s : PS) : PS := phS T t (nmB T t (pn2 T t n k s).2.1 3 119 101 98 98) (8 + 5 * n + 3) 99 (pn2 T t n k s)
def pnS (T : Nat → Int32) (t n : Nat) (k : Int32) (s : PS) : PS := phS T t (fiB T t (pn3 T t n k s).2.1 99 111 105 110 115) (8 + 5 * n + 4) 999 (pn3 T t n k s)
def seB (T : Nat → Int32) (t i : Nat) : Bool := decide (tkK T t i = 3) && decide (bA T t (tkF T t i) = 59)
def it1 (T : Nat → Int32) (t n : Nat) (s : PS) : PS := if kiF T t s.2.1 < 0 then (if laF T t s.2.1 < 0 then ndS T t false s else ntS T t (laF T t s.2.1).toNatClampNeg (if laF T t s.2.1 = 7 then 99 else 9) (nxS T t s)) else pnS T t n (kiF T t s.2.1) s
def itS (T : Nat → Int32) (t n : Nat) (s : PS) : PS := ndS T t (seB T t (it1 T t n s).2.1) (it1 T t n s)
theorem ndS_m (T : Nat → Int32) (t : Nat) (b : Bool) (s : PS) : (ndS T t b s).2.2 = s.2.2 := by unfold ndS; split <;> rfl
theorem ndS_1 {T : Nat → Int32} {t : Nat} {b : Bool} {s : PS} (h : (ndS T t b s).1 = false) : b = true ∧ s.1 = false := by
  unfold ndS at h
  split at h
  · cases h
  · rename_i h1
    cases b <;> cases hs : s.1 <;> simp_all
theorem ndS_le {T : Nat → Int32} {t : Nat} {b : Bool} {s : PS} (h : s.2.1 ≤ t) : (ndS T t b s).2.1 ≤ t := by
  unfold ndS; split
  · exact h
  · exact (tkT_le h).2
theorem nxS_le {T : Nat → Int32} {t : Nat} {s : PS} (h : s.2.1 ≤ t) : (nxS T t s).2.1 ≤ t := (tkT_le h).2
theorem ntS_le {T : Nat → Int32} {t a : Nat} {v : Int32} {s : PS} (h : s.2.1 ≤ t) : (ntS T t a v s).2.1 ≤ t := ndS_le h
theorem ntS_1 {T : Nat → Int32} {t a : Nat} {v : Int32} {s : PS} (h : (ntS T t a v s).1 = false) : s.1 = false := (ndS_1 h).2
theorem phS_le {T : Nat → Int32} {t a : Nat} {b : Bool} {v : Int32} {s : PS} (h : s.2.1 ≤ t) : (phS T t b a v s).2.1 ≤ t := by
  unfold phS; split
  · exact h
  · split
    · exact ntS_le (nxS_le h)
    · exact h
theorem phS_1 {T : Nat → Int32} {t a : Nat} {b : Bool} {v : Int32} {s : PS} (h : (phS T t b a v s).1 = false) : s.1 = false := by
  unfold phS at h; split at h
  · exact h
  · rename_i h1; simpa using h1
theorem pn0_le {T : Nat → Int32} {t n : Nat} {k : Int32} {s : PS} (h : s.2.1 ≤ t) : (pn0 T t n k s).2.1 ≤ t := by
  unfold pn0 peS; split
  · exact ndS_le h
  · exact ndS_le h
theorem pn0_lt {T : Nat → Int32} {t n : Nat} {k : Int32} {s : PS} (h : (pn0 T t n k s).1 = false) : n < 8 := by
  have h1 : (ndS T t (decide (n < 8)) s).1 = false := by
    unfold pn0 peS at h; split at h
    · exact h
    · exact h
  exact of_decide_eq_true (ndS_1 h1).1
theorem pn1_le {T : Nat → Int32} {t n : Nat} {k : Int32} {s : PS} (h : s.2.1 ≤ t) : (pn1 T t n k s).2.1 ≤ t := phS_le (pn0_le h)
theorem pn2_le {T : Nat → Int32} {t n : Nat} {k : Int32} {s : PS} (h : s.2.1 ≤ t) : (pn2 T t n k s).2.1 ≤ t := phS_le (pn1_le h)
theorem pn3_le {T : Nat → Int32} {t n : Nat} {k : Int32} {s : PS} (h : s.2.1 ≤ t) : (pn3 T t n k s).2.1 ≤ t := phS_le (pn2_le h)
theorem pnS_le {T : Nat → Int32} {t n : Nat} {k : Int32} {s : PS} (h : s.2.1 ≤ t) : (pnS T t n k s).2.1 ≤ t := phS_le (pn3_le h)
theorem pn1_lt {T : Nat → Int32} {t n : Nat} {k : Int32} {s : PS} (h : (pn1 T t n k s).1 = false) : n < 8 := pn0_lt (phS_1 h)
theorem pn2_lt {T : Nat → Int32} {t n : Nat} {k : Int32} {s : PS} (h : (pn2 T t n k s).1 = false) : n < 8 := pn1_lt (phS_1 h)
theorem pn3_lt {T : Nat → Int32} {t n : Nat} {k : Int32} {s : PS} (h : (pn3 T t n k s).1 = false) : n < 8 := pn2_lt (phS_1 h)
theorem it1_le {T : Nat → Int32} {t n : Nat} {s : PS} (h : s.2.1 ≤ t) : (it1 T t n s).2.1 ≤ t := by
  unfold it1; split
  · split
    · exact ndS_le h
    · exact ntS_le (nxS_le h)
  · exact pnS_le h
theorem itS_le {T : Nat → Int32} {t n : Nat} {s : PS} (h : s.2.1 ≤ t) : (itS T t n s).2.1 ≤ t := ndS_le (it1_le h)
theorem la_nat {T : Nat → Int32} {t i : Nat} (h : ¬ laF T t i < 0) : ∃ j : Nat, 4 ≤ j ∧ j ≤ 7 ∧ laF T t i = nI j := by
  unfold laF at h ⊢
  split
  · exact ⟨4, by decide, by decide, rfl⟩
  · split
    · exact ⟨5, by decide, by decide, rfl⟩
    · split
      · exact ⟨6, by decide, by decide, rfl⟩
      · split
        · exact ⟨7, by decide, by decide, rfl⟩
        · rename_i h1 h2 h3 h4
          rw [if_neg h1, if_neg h2, if_neg h3, if_neg h4] at h
          exact absurd (by decide) h
def bgF (z : Int32) : Nat → Int32 := upd (upd (upd (upd (fun _ => 0) 2 z) 4 2) 5 1) 7 20
theorem nb_1 {T : Nat → Int32} {t i : Nat} {v : Int32} (h : ¬ tkK T t i = 2) : nbB T t i v = false := by simp [nbB, h]
theorem nb_2 {T : Nat → Int32} {t i : Nat} {v : Int32} (h : ¬ tkT T t i - tkF T t i ≤ 3) : nbB T t i v = false := by rw [nbB, decide_eq_false h]; simp
theorem nb_3 {T : Nat → Int32} {t i : Nat} {v : Int32} (h : ¬ tkV T t i ≤ v) : nbB T t i v = false := by rw [nbB, decide_eq_false h]; simp
theorem nb_0 {T : Nat → Int32} {t i : Nat} {v : Int32} (h1 : tkK T t i = 2) (h2 : tkT T t i - tkF T t i ≤ 3) (h3 : tkV T t i ≤ v) : nbB T t i v = true := by rw [nbB, decide_eq_true h1, decide_eq_true h2, decide_eq_true h3]; rfl
theorem nt_f {T : Nat → Int32} {t a : Nat} {v : Int32} {s : PS} (h : nbB T t s.2.1 v = false) : ntS T t a v s = ndS T t false s := by
  show ndS T t (nbB T t s.2.1 v) _ = _
  rw [h, if_neg Bool.false_ne_true]
theorem nt_w {T : Nat → Int32} {t a : Nat} {v : Int32} {s : PS} (h : nbB T t s.2.1 v = true) (hw : s.1 = true) : ntS T t a v s = ndS T t true s := by
  show ndS T t (nbB T t s.2.1 v) _ = _
  rw [h, if_pos rfl, if_pos hw]
theorem nt_t {T : Nat → Int32} {t a : Nat} {v : Int32} {s : PS} (h : nbB T t s.2.1 v = true) (hw : ¬ s.1 = true) : ntS T t a v s = ndS T t true (s.1, s.2.1, upd s.2.2 a (tkV T t s.2.1)) := by
  show ndS T t (nbB T t s.2.1 v) _ = _
  rw [h, if_pos rfl, if_neg hw]
theorem it_p {T : Nat → Int32} {t n : Nat} {s : PS} (h : ¬ kiF T t s.2.1 < 0) : it1 T t n s = pnS T t n (kiF T t s.2.1) s := if_neg h
theorem it_n {T : Nat → Int32} {t n : Nat} {s : PS} (h : kiF T t s.2.1 < 0) (h2 : laF T t s.2.1 < 0) : it1 T t n s = ndS T t false s := (if_pos h).trans (if_pos h2)
theorem it_7 {T : Nat → Int32} {t n : Nat} {s : PS} (h : kiF T t s.2.1 < 0) (h2 : ¬ laF T t s.2.1 < 0) (hj : laF T t s.2.1 = nI 7) : it1 T t n s = ntS T t 7 99 (nxS T t s) := by
  refine (if_pos h).trans ((if_neg h2).trans ?_)
  rw [hj]; rfl
theorem it_9 {T : Nat → Int32} {t n j : Nat} {s : PS} (h : kiF T t s.2.1 < 0) (h2 : ¬ laF T t s.2.1 < 0) (hj : laF T t s.2.1 = nI j) (h7 : j ≤ 7) (hn : j ≠ 7) : it1 T t n s = ntS T t j 9 (nxS T t s) := by
  refine (if_pos h).trans ((if_neg h2).trans ?_)
  rw [hj, if_neg (show ¬ nI j = 7 from fun q => hn (nIc_eq_t (b := 7) (by omega) (by omega) q)), nI_clamp (by omega)]
theorem se_1 {T : Nat → Int32} {t i : Nat} (h : ¬ tkK T t i = 3) : seB T t i = false := by rw [seB, decide_eq_false h]; rfl
theorem se_2 {T : Nat → Int32} {t i : Nat} (h : ¬ bA T t (tkF T t i) = 59) : seB T t i = false := by rw [seB, decide_eq_false h]; simp
theorem se_0 {T : Nat → Int32} {t i : Nat} (h1 : tkK T t i = 3) (h : bA T t (tkF T t i) = 59) : seB T t i = true := by rw [seB, decide_eq_true h1, decide_eq_true h]; rfl
theorem it_b {T : Nat → Int32} {t n : Nat} {s : PS} {b : Bool} (h : seB T t (it1 T t n s).2.1 = b) : itS T t n s = ndS T t b (it1 T t n s) := by rw [← h]; rfl
/-! how many there are -/
theorem nt_N {T : Nat → Int32} {t a n : Nat} {v : Int32} {s : PS} (ha : 0 ≠ a) (h : s.2.2 0 = nI n) : (ntS T t a v s).2.2 0 = nI n := by
  unfold ntS
  rw [ndS_m]
  show (if _ then (if _ then _ else _) else _ : Nat → Int32) 0 = _
  split
  · split
    · exact h
    · exact upd_0 ha h
  · exact h
theorem ph_N {T : Nat → Int32} {t a n : Nat} {b : Bool} {v : Int32} {s : PS} (ha : 0 ≠ a) (h : s.2.2 0 = nI n) : (phS T t b a v s).2.2 0 = nI n := by
  unfold phS
  split
  · exact h
  · split
    · exact nt_N ha h
    · exact h
theorem pn_N {T : Nat → Int32} {t n : Nat} {k : Int32} {s : PS} (hn : n ≤ 8) (h : s.2.2 0 = nI n) : ∃ q, q ≤ 8 ∧ (pnS T t n k s).2.2 0 = nI q := by
  have h0 : ∃ q, q ≤ 8 ∧ (pn0 T t n k s).2.2 0 = nI q := by
    by_cases hw : (ndS T t (decide (n < 8)) s).1 = true
    · exact ⟨n, hn, by rw [show pn0 T t n k s = ndS T t (decide (n < 8)) s from if_pos hw, ndS_m]; exact h⟩
    · have h1 := of_decide_eq_true (ndS_1 (T := T) (t := t) (b := decide (n < 8)) (s := s) (by simpa using hw)).1
      exact ⟨n + 1, by omega, by rw [show pn0 T t n k s = _ from if_neg hw]; exact upd_self (f := upd (upd (ndS T t (decide (n < 8)) s).2.2 (8 + 5 * n) k) (8 + 5 * n + 4) 50) (k := 0)⟩
  obtain ⟨q, hq, h0⟩ := h0
  exact ⟨q, hq, ph_N (by omega) (ph_N (by omega) (ph_N (by omega) (ph_N (by omega) h0)))⟩
theorem it_N {T : Nat → Int32} {t n : Nat} {s : PS} (hn : n ≤ 8) (h : s.2.2 0 = nI n) : ∃ q, q ≤ 8 ∧ (itS T t n s).2.2 0 = nI q := by
  have : ∃ q, q ≤ 8 ∧ (it1 T t n s).2.2 0 = nI q := by
    by_cases hk : kiF T t s.2.1 < 0
    · by_cases hl : laF T t s.2.1 < 0
      · exact ⟨n, hn, by rw [it_n hk hl, ndS_m]; exact h⟩
      · obtain ⟨j, h1, h2, hj⟩ := la_nat hl
        by_cases h7 : j = 7
        · subst h7; exact ⟨n, hn, by rw [it_7 hk hl hj]; exact nt_N (by decide) h⟩
        · exact ⟨n, hn, by rw [it_9 hk hl hj h2 h7]; exact nt_N (by omega) h⟩
    · rw [it_p hk]; exact pn_N hn h
  obtain ⟨q, hq, h1⟩ := this
  exact ⟨q, hq, by unfold itS; rw [ndS_m]; exact h1⟩
theorem ndS_ge {T : Nat → Int32} {t : Nat} {b : Bool} {s : PS} (h : s.2.1 ≤ t) : s.2.1 ≤ (ndS T t b s).2.1 := by
  have h1 := tkF_le (T := T) h
  have h2 := tkT_le (T := T) h
  unfold ndS; split
  · exact Nat.le_refl _
  · show s.2.1 ≤ tkT T t s.2.1
    omega
theorem nxS_ge {T : Nat → Int32} {t : Nat} {s : PS} (h : s.2.1 ≤ t) : s.2.1 ≤ (nxS T t s).2.1 := by
  have h1 := tkF_le (T := T) h
  have h2 := tkT_le (T := T) h
  show s.2.1 ≤ tkT T t s.2.1
  omega
theorem ntS_ge {T : Nat → Int32} {t a : Nat} {v : Int32} {s : PS} (h : s.2.1 ≤ t) : s.2.1 ≤ (ntS T t a v s).2.1 := by
  have h1 := ndS_ge (T := T) (b := nbB T t s.2.1 v) (s := (s.1, s.2.1, if nbB T t s.2.1 v = true then (if s.1 = true then s.2.2 else upd s.2.2 a (tkV T t s.2.1)) else s.2.2)) h
  exact h1
theorem phS_ge {T : Nat → Int32} {t a : Nat} {b : Bool} {v : Int32} {s : PS} (h : s.2.1 ≤ t) : s.2.1 ≤ (phS T t b a v s).2.1 := by
  unfold phS; split
  · exact Nat.le_refl _
  · split
    · exact Nat.le_trans (nxS_ge h) (ntS_ge (nxS_le h))
    · exact Nat.le_refl _
theorem pn0_ge {T : Nat → Int32} {t n : Nat} {k : Int32} {s : PS} (h : s.2.1 ≤ t) : s.2.1 ≤ (pn0 T t n k s).2.1 := by
  unfold pn0 peS; split
  · exact ndS_ge h
  · exact ndS_ge h
theorem pnS_ge {T : Nat → Int32} {t n : Nat} {k : Int32} {s : PS} (h : s.2.1 ≤ t) : s.2.1 ≤ (pnS T t n k s).2.1 :=
  Nat.le_trans (pn0_ge h) (Nat.le_trans (phS_ge (pn0_le h)) (Nat.le_trans (phS_ge (pn1_le h)) (Nat.le_trans (phS_ge (pn2_le h)) (phS_ge (pn3_le h)))))
theorem it1_ge {T : Nat → Int32} {t n : Nat} {s : PS} (h : s.2.1 ≤ t) : s.2.1 ≤ (it1 T t n s).2.1 := by
  unfold it1; split
  · split
    · exact ndS_ge h
    · exact Nat.le_trans (nxS_ge h) (ntS_ge (nxS_le h))
  · exact pnS_ge h
/-- an item that is right goes on by one byte at least -/
theorem itS_gt {T : Nat → Int32} {t n : Nat} {s : PS} (h : s.2.1 ≤ t) (hw : (itS T t n s).1 = false) : s.2.1 < (itS T t n s).2.1 := by
  have h1 := it1_ge (T := T) (n := n) h
  have h2 := it1_le (T := T) (n := n) h
  have h3 := ndS_1 (T := T) (t := t) (b := seB T t (it1 T t n s).2.1) (s := it1 T t n s) hw
  have h4 : (itS T t n s).2.1 = tkT T t (it1 T t n s).2.1 := by
    unfold itS ndS
    rw [h3.1, h3.2]; rfl
  have h5 : tkK T t (it1 T t n s).2.1 = 3 := by
    have := h3.1
    unfold seB at this
    exact of_decide_eq_true ((Bool.and_eq_true _ _).mp this).1
  have h6 : tkT T t (it1 T t n s).2.1 = tkF T t (it1 T t n s).2.1 + 1 := by
    rw [tkT, if_neg (by omega), if_neg (by omega), if_pos h5]
  have h7 := tkF_le (T := T) h2
  omega
/-- the state after d items -/
def itK (T : Nat → Int32) (t : Nat) (s : PS) : PS := itS T t (s.2.2 0).toNatClampNeg s
def itN (T : Nat → Int32) (t : Nat) (s : PS) : Nat → PS
  | 0 => s
  | d + 1 => itK T t (itN T t s d)
def mkF (T : Nat → Int32) (t : Nat) : Nat → PS → PS
  | 0, s => s
  | d + 1, s => if (!s.1 && !decide (tkK T t s.2.1 = 0)) = true then mkF T t d (itK T t s) else s
def mk0 (z : Int32) : PS := (false, 0, bgF z)
def mkS (T : Nat → Int32) (t : Nat) (z : Int32) : PS := mkF T t (t + 1) (mk0 z)
/-- what the loop keeps -/
def MkI (T : Nat → Int32) (t : Nat) (z : Int32) (d : Nat) : Prop :=
  mkS T t z = mkF T t (t + 1 - d) (itN T t (mk0 z) d) ∧ (itN T t (mk0 z) d).2.1 ≤ t ∧ ((itN T t (mk0 z) d).1 = false → d ≤ (itN T t (mk0 z) d).2.1) ∧ ∃ n, n ≤ 8 ∧ (itN T t (mk0 z) d).2.2 0 = nI n
theorem mk_0 {T : Nat → Int32} {t : Nat} {z : Int32} : MkI T t z 0 := ⟨rfl, Nat.zero_le _, fun _ => Nat.le_refl _, 0, by decide, rfl⟩
theorem mk_lt {T : Nat → Int32} {t d : Nat} {z : Int32} (h : MkI T t z d) (hw : (itN T t (mk0 z) d).1 = false) (hk : tkK T t (itN T t (mk0 z) d).2.1 ≠ 0) : d < t := by
  have h1 := tkK_in hk
  have h2 := tkF_le (T := T) h.2.1
  have h3 := h.2.2.1 hw
  omega
theorem mk_s {T : Nat → Int32} {t d : Nat} {z : Int32} (h : MkI T t z d) (hw : (itN T t (mk0 z) d).1 = false) (hk : tkK T t (itN T t (mk0 z) d).2.1 ≠ 0) : MkI T t z (d + 1) := by
  have hlt := mk_lt h hw hk
  obtain ⟨n, hn, hN⟩ := h.2.2.2
  have e_n : ((itN T t (mk0 z) d).2.2 0).toNatClampNeg = n := by rw [hN]; exact nI_clamp (by omega)
  refine ⟨?_, itS_le h.2.1, fun q => ?_, ?_⟩
  · rw [h.1, show t + 1 - d = (t + 1 - (d + 1)) + 1 by omega]
    exact if_pos (by rw [hw, decide_eq_false hk]; rfl)
  · have h1 := itS_gt h.2.1 q
    have h2 := h.2.2.1 hw
    exact Nat.lt_of_le_of_lt h2 h1
  · show ∃ q, q ≤ 8 ∧ (itS T t ((itN T t (mk0 z) d).2.2 0).toNatClampNeg (itN T t (mk0 z) d)).2.2 0 = nI q
    rw [e_n]
    exact it_N hn hN
theorem mkF_id {T : Nat → Int32} {t : Nat} {s : PS} (hg : (!s.1 && !decide (tkK T t s.2.1 = 0)) = false) : ∀ d, mkF T t d s = s
  | 0 => rfl
  | _ + 1 => if_neg (by rw [hg]; decide)
theorem mk_w {T : Nat → Int32} {t d : Nat} {z : Int32} (h : MkI T t z d) (hw : (itN T t (mk0 z) d).1 = true) : itN T t (mk0 z) d = mkS T t z :=
  (mkF_id (by rw [hw]; rfl) _).symm.trans h.1.symm
theorem mk_e {T : Nat → Int32} {t d : Nat} {z : Int32} (h : MkI T t z d) (hk : tkK T t (itN T t (mk0 z) d).2.1 = 0) : itN T t (mk0 z) d = mkS T t z :=
  (mkF_id (by rw [decide_eq_true hk]; simp) _).symm.trans h.1.symm
