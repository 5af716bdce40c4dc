/-! call by call -/
theorem and_t {a b : Bool} (h : (a && b) = true) : a = true ∧ b = true := (Bool.and_eq_true _ _).mp h
theorem gF_1 {c : Bool} {x y : Nat → Int32} {P : (Nat → Int32) → Prop} (h1 : c = true → P x) (h2 : P y) : P (gateF c x y) := by
  unfold gateF
  by_cases hc : c = true
  · rw [if_pos hc]; exact h1 hc
  · rw [if_neg hc]; exact h2
theorem tap_f {t : Nat} {k : Int32} {f g : Nat → Int32} (ht : t ≤ 200) (hf : f 0 = nI t) (hg : g 0 = nI t) : ∃ u : Nat, u ≤ 200 ∧ gateF (inB k 1 8 && decide (t + k.toNatClampNeg ≤ 200)) (fun _ => nI (t + k.toNatClampNeg)) f 0 = nI u ∧ gateF (inB k 1 8 && decide (t + k.toNatClampNeg ≤ 200)) (fun _ => nI (t + k.toNatClampNeg)) g 0 = nI u := by
  unfold gateF
  by_cases c : (inB k 1 8 && decide (t + k.toNatClampNeg ≤ 200)) = true
  · rw [if_pos c, if_pos c]
    exact ⟨_, of_decide_eq_true (and_t c).2, rfl, rfl⟩
  · rw [if_neg c, if_neg c]; exact ⟨t, ht, hf, hg⟩
section OPS
variable {n : Nat} {σ τ : Nat → Nat → Int32}
theorem set_R {a v : Int32} (rr : RowR n (σ 0) (τ 0)) (c : (inB a 0 3 && inB v 0 (if a = 3 then 99 else 9)) = true) : RowR n (upd (σ 0) (4 + a.toNatClampNeg) v) (upd (τ 0) (4 + a.toNatClampNeg) v) := by
  have h1 := in_cl 0 3 (by decide) (by decide) (and_t c).1
  have h2 := in_int (and_t c).2
  have h3 := h1.2.2
  refine rr.law h1.2.1 h2.1 ?_
  have hc : a.toNatClampNeg = 0 ∨ a.toNatClampNeg = 1 ∨ a.toNatClampNeg = 2 ∨ a.toNatClampNeg = 3 := by have := h1.2.1; omega
  have h2 := h2.2
  rcases hc with q | q | q | q
  · rw [q] at h3 ⊢; subst h3; exact h2
  · rw [q] at h3 ⊢; subst h3; exact h2
  · rw [q] at h3 ⊢; subst h3; exact h2
  · rw [q] at h3 ⊢; subst h3; exact h2
theorem per_P {k t w x : Int32} (rr : RowR n (σ 0) (τ 0)) : ∃ q, RowR q (gateF ((inB k 0 5 && (inB t 0 99 && (inB w 0 99 && inB x 0 99))) && !(decide (n = 8))) (perF n (σ 0) k t w x) (σ 0)) (gateF ((inB k 0 5 && (inB t 0 99 && (inB w 0 99 && inB x 0 99))) && !(decide (n = 8))) (perF n (τ 0) k t w x) (τ 0)) := by
  refine gF_cases (P := fun x y => ∃ q, RowR q x y) (fun c => ?_) ⟨n, rr⟩
  have c1 := and_t c
  have c2 := and_t (and_t c1.1).2
  have c3 := and_t c2.2
  have h8 : n ≠ 8 := fun q => by rw [decide_eq_true q] at c1; exact absurd c1.2 (by decide)
  have hn := rr.hn
  exact ⟨n + 1, rr.per (by omega) (in_int c2.1) (in_int c3.1) (in_int c3.2) (by decide) (fun j => perF_at j) (fun j _ => perF_at j)⟩
theorem can_cl {w v : Int32} (c : canB w v = true) : w.toNatClampNeg < 5 := by
  unfold canB at c
  split at c
  · rename_i q; subst q; decide
  split at c
  · rename_i q; subst q; decide
  split at c
  · rename_i q; subst q; decide
  · cases c
theorem can_R {o w v : Int32} (rr : RowR n (σ 0) (τ 0)) (c : canB w v = true) : RowR n (upd (σ 0) (8 + 5 * o.toNatClampNeg + w.toNatClampNeg) v) (upd (τ 0) (8 + 5 * o.toNatClampNeg + w.toNatClampNeg) v) := by
  unfold canB at c
  split at c
  · rename_i q; subst q; exact rr.tr (k := 1) (Or.inl rfl) (in_int c).1 (in_int c).2
  split at c
  · rename_i q; subst q; exact rr.web (in_int c).1 (in_int c).2
  split at c
  · rename_i q; subst q; exact rr.coins (in_int c).1 (in_int c).2
  · cases c
theorem one_ne {o q : Int32} (hn : n ≤ 8) (ho : oneB n o = true) (hq : oneB n q = true) (h : ¬ o = q) : o.toNatClampNeg ≠ q.toNatClampNeg := by
  obtain ⟨i, hi, rfl⟩ := one_nat (by omega) ho
  obtain ⟨j, hj, rfl⟩ := one_nat (by omega) hq
  rw [nI_clamp (by omega), nI_clamp (by omega)]
  intro e
  exact h (by rw [e])
theorem prv_R {o k : Int32} (h : Rel σ τ) (rr : RowR n (σ 0) (τ 0)) : gateF (oneB n o && inB k 1 10) (prN n (σ 0) (σ 13) o.toNatClampNeg k.toNatClampNeg) (σ 13) = gateF (oneB n o && inB k 1 10) (prN n (τ 0) (τ 13) o.toNatClampNeg k.toNatClampNeg) (τ 13) := by
  rw [h.rows]
  exact gF_cases (P := fun x y => x = y) (fun c => em_pr rr.em (one_cl rr.hn (and_t c).1) _) rfl
theorem prv_N {o k : Int32} (h : Rel σ τ) : ∃ y : Nat, y ≤ 10 ∧ gateF (oneB n o && inB k 1 10) (fun _ => k) (σ 14) 0 = nI y ∧ gateF (oneB n o && inB k 1 10) (fun _ => k) (τ 14) 0 = nI y := by
  unfold gateF
  by_cases c : (oneB n o && inB k 1 10) = true
  · rw [if_pos c, if_pos c]
    have h1 := in_cl 1 10 (by decide) (by decide) (and_t c).2
    exact ⟨_, h1.2.1, h1.2.2, h1.2.2⟩
  · rw [if_neg c, if_neg c]; exact h.rowN
theorem she_z {g x k : Int32} (h : Rel σ τ) : ∀ t : Nat, t < 4 → ∃ z : Nat, z ≤ 40 ∧ gateF (sheC g x k) (upd (σ 16) g.toNatClampNeg (if x < 0 then 0 else k)) (σ 16) t = nI z := by
  refine gF_1 (P := fun f => ∀ t : Nat, t < 4 → ∃ z : Nat, z ≤ 40 ∧ f t = nI z) (fun c t ht => ?_) h.siz
  by_cases q : t = g.toNatClampNeg
  · subst q
    rw [upd_self]
    by_cases hx : x < 0
    · rw [if_pos hx]; exact ⟨0, by decide, rfl⟩
    · rw [if_neg hx]
      have c1 := and_t c
      have c2 := c1.2
      rw [if_neg hx] at c2
      have c3 := (and_t (and_t c1.1).2).2
      rw [if_neg hx] at c3
      obtain ⟨z, h1, h2⟩ := nat_of (x := k) (by simpa using Int32.le_iff_toInt_le.mp (of_decide_eq_true c2))
      have h3 := Int32.le_iff_toInt_le.mp (of_decide_eq_true c3)
      have e40 : (40 : Int32).toInt = 40 := rfl
      exact ⟨z, by omega, h1⟩
  · rw [upd_ne q]; exact h.siz t ht
theorem she_s {g x k : Int32} (h : Rel σ τ) : ∀ t : Nat, t < 4 → -1 ≤ (gateF (sheC g x k) (upd (σ 15) g.toNatClampNeg x) (σ 15) t).toInt := by
  refine gF_1 (P := fun f => ∀ t : Nat, t < 4 → -1 ≤ (f t).toInt) (fun c t ht => ?_) h.sor
  by_cases q : t = g.toNatClampNeg
  · subst q
    rw [upd_self]
    exact (in_int (and_t (and_t (and_t c).1).2).1).1
  · rw [upd_ne q]; exact h.sor t ht
theorem shr_of {w k : Int32} (c : shlR (σ 15) w k = true) : w = 1 ∧ 0 ≤ (σ 15 k.toNatClampNeg).toInt := by
  have c1 := and_t c
  refine ⟨of_decide_eq_true c1.1, ?_⟩
  by_cases q : σ 15 k.toNatClampNeg < 0
  · have c2 := c1.2
    rw [decide_eq_true q] at c2
    cases c2
  · simpa using Int32.le_iff_toInt_le.mp (Int32.not_lt.mp q)
theorem shl_3 {g w k : Int32} (h : Rel σ τ) : ∀ j : Nat, gateF (shlB n g w k) (upd (σ 18) g.toNatClampNeg (if w = 0 then 1 else if shlR (σ 15) w k = true then 2 else 0)) (σ 18) j = 0 ∨ gateF (shlB n g w k) (upd (σ 18) g.toNatClampNeg (if w = 0 then 1 else if shlR (σ 15) w k = true then 2 else 0)) (σ 18) j = 1 ∨ gateF (shlB n g w k) (upd (σ 18) g.toNatClampNeg (if w = 0 then 1 else if shlR (σ 15) w k = true then 2 else 0)) (σ 18) j = 2 := by
  refine gF_1 (P := fun f => ∀ j : Nat, f j = 0 ∨ f j = 1 ∨ f j = 2) (fun c j => ?_) h.ho3
  by_cases q : j = g.toNatClampNeg
  · subst q
    rw [upd_self]
    split
    · exact Or.inr (Or.inl rfl)
    · split
      · exact Or.inr (Or.inr rfl)
      · exact Or.inl rfl
  · rw [upd_ne q]; exact h.ho3 j
theorem shl_1 {g w k : Int32} (h : Rel σ τ) : ∀ j : Nat, gateF (shlB n g w k) (upd (σ 18) g.toNatClampNeg (if w = 0 then 1 else if shlR (σ 15) w k = true then 2 else 0)) (σ 18) j = 1 → gateF (shlB n g w k) (if w = 0 then upd (σ 19) g.toNatClampNeg k else if w = 1 then upd (σ 19) g.toNatClampNeg (σ 16 k.toNatClampNeg) else σ 19) (σ 19) j = gateF (shlB n g w k) (upd (τ 19) g.toNatClampNeg (if w = 0 then k else if shlR (τ 15) w k = true then τ 15 k.toNatClampNeg else 0)) (τ 19) j := by
  intro j hj
  unfold gateF at hj ⊢
  by_cases c : shlB n g w k = true
  · rw [if_pos c] at hj
    rw [if_pos c, if_pos c]
    by_cases q : j = g.toNatClampNeg
    · subst q
      rw [upd_self] at hj
      by_cases w0 : w = 0
      · rw [if_pos w0, if_pos w0, upd_self, upd_self]
      · rw [if_neg w0] at hj
        split at hj <;> exact absurd hj (by decide)
    · rw [upd_ne q] at hj
      rw [upd_ne q, ← h.sh1 j hj]
      split
      · exact upd_ne q
      · split
        · exact upd_ne q
        · rfl
  · rw [if_neg c] at hj
    rw [if_neg c, if_neg c]; exact h.sh1 j hj
theorem shl_2 {g w k : Int32} (h : Rel σ τ) : ∀ j : Nat, gateF (shlB n g w k) (upd (σ 18) g.toNatClampNeg (if w = 0 then 1 else if shlR (σ 15) w k = true then 2 else 0)) (σ 18) j = 2 → gateF (shlB n g w k) (if w = 0 then upd (σ 19) g.toNatClampNeg k else if w = 1 then upd (σ 19) g.toNatClampNeg (σ 16 k.toNatClampNeg) else σ 19) (σ 19) j = gateF (shlB n g w k) (upd (τ 20) g.toNatClampNeg (if shlR (τ 15) w k = true then τ 16 k.toNatClampNeg else 0)) (τ 20) j ∧ gateF (shlB n g w k) (if w = 1 then upd (σ 20) g.toNatClampNeg (σ 15 k.toNatClampNeg) else σ 20) (σ 20) j = gateF (shlB n g w k) (upd (τ 19) g.toNatClampNeg (if w = 0 then k else if shlR (τ 15) w k = true then τ 15 k.toNatClampNeg else 0)) (τ 19) j ∧ 0 ≤ (gateF (shlB n g w k) (if w = 1 then upd (σ 20) g.toNatClampNeg (σ 15 k.toNatClampNeg) else σ 20) (σ 20) j).toInt := by
  intro j hj
  unfold gateF at hj ⊢
  by_cases c : shlB n g w k = true
  · rw [if_pos c] at hj
    rw [if_pos c, if_pos c, if_pos c, if_pos c]
    by_cases q : j = g.toNatClampNeg
    · subst q
      rw [upd_self] at hj
      by_cases w0 : w = 0
      · rw [if_pos w0] at hj; exact absurd hj (by decide)
      · rw [if_neg w0] at hj
        by_cases sr : shlR (σ 15) w k = true
        · have h2 := shr_of sr
          rw [← h.so, ← h.si, if_neg w0, if_pos h2.1, if_pos h2.1, if_pos sr, if_neg w0, if_pos sr, upd_self, upd_self, upd_self, upd_self]
          exact ⟨rfl, rfl, h2.2⟩
        · rw [if_neg sr] at hj; exact absurd hj (by decide)
    · rw [upd_ne q] at hj
      have h2 := h.sh2 j hj
      rw [upd_ne q, upd_ne q, ← h2.1, ← h2.2.1]
      refine ⟨?_, ?_, ?_⟩
      · split
        · exact upd_ne q
        · split
          · exact upd_ne q
          · rfl
      · split
        · exact upd_ne q
        · rfl
      · split
        · rw [upd_ne q]; exact h2.2.2
        · exact h2.2.2
  · rw [if_neg c] at hj
    rw [if_neg c, if_neg c, if_neg c, if_neg c]; exact h.sh2 j hj
theorem ho_eq {g : Nat} (h : Rel σ τ) : (hoF n (τ 18) (τ 19) g = 1 ↔ (σ 18 g = 1 ∧ oneB n (σ 19 g) = true)) := by
  unfold hoF
  rw [← h.hol]
  by_cases q : σ 18 g = 1
  · rw [if_pos q, ← h.sh1 g q]
    by_cases q2 : oneB n (σ 19 g) = true
    · rw [if_pos q2]; exact ⟨fun _ => ⟨q, q2⟩, fun _ => q⟩
    · rw [if_neg q2]; exact ⟨fun k => absurd k (by decide), fun k => absurd k.2 q2⟩
  · rw [if_neg q]; exact ⟨fun k => absurd k q, fun k => absurd k.1 q⟩
theorem tkC_0 {m w u v : Nat → Int32} {g : Nat} {x : Int32} (h : w g = 0) : tkC n m w u v g x = -11 := by
  unfold tkC; rw [h, if_neg (show ¬ (0 : Int32) = 2 by decide)]
  exact if_neg (fun k => absurd k.1 (by decide))
theorem tkC_1 {m w u v : Nat → Int32} {g : Nat} {x : Int32} (h : w g = 1) (ho : oneB n (u g) = true) : tkC n m w u v g x = if inB x 0 5 = true ∧ undB (m (8 + 5 * (u g).toNatClampNeg)) x = true then u g else -13 := by
  unfold tkC; rw [h, if_neg (show ¬ (1 : Int32) = 2 by decide)]
  exact if_pos ⟨rfl, ho⟩
theorem tkC_f {m w u v : Nat → Int32} {g : Nat} {x : Int32} (h : w g = 1) (ho : ¬ oneB n (u g) = true) : tkC n m w u v g x = -11 := by
  unfold tkC; rw [h, if_neg (show ¬ (1 : Int32) = 2 by decide)]
  exact if_neg (fun k => ho k.2)
theorem tkC_2 {m w u v : Nat → Int32} {g : Nat} {x : Int32} (h : w g = 2) : tkC n m w u v g x = if x - 10 = v g then u g else -13 := if_pos h
theorem tkA_0 {m w u v : Nat → Int32} {g : Nat} {x : Int32} (h : hoF n w u g = 0) : tkA n m w u v g x = -11 := if_pos h
theorem tkA_1 {m w u v : Nat → Int32} {g : Nat} {x : Int32} (h : hoF n w u g = 1) : tkA n m w u v g x = if 10 ≤ x then -13 else (if undB (m (8 + 5 * (u g).toNatClampNeg)) x = true then u g else -13) := by
  unfold tkA
  rw [h, if_neg (show ¬ (1 : Int32) = 0 by decide), if_neg (show ¬ (1 : Int32) = 2 by decide), if_pos (show (1 : Int32) = 1 from rfl)]
theorem tkA_2 {m w u v : Nat → Int32} {g : Nat} {x : Int32} (h : hoF n w u g = 2) : tkA n m w u v g x = if 10 ≤ x then (if u g = x - 10 then v g else -13) else -13 := by
  unfold tkA
  rw [h, if_neg (show ¬ (2 : Int32) = 0 by decide), if_pos (show (2 : Int32) = 2 from rfl), if_neg (show ¬ (2 : Int32) = 1 by decide)]
theorem tak_V {g : Nat} {x : Int32} (h : Rel σ τ) (rr : RowR n (σ 0) (τ 0)) (hx : (inB x 0 5 || inB (x - 10) 0 3) = true) : tkC n (σ 0) (σ 18) (σ 19) (σ 20) g x = tkA n (τ 0) (τ 18) (τ 19) (τ 20) g x := by
  have hx1 : (inB x 0 5 = true ∧ ¬ 10 ≤ x ∧ (x - 10).toInt < 0) ∨ (inB x 0 5 = false ∧ 10 ≤ x) := by
    cases hc : inB x 0 5 with
    | true =>
      have h1 := in_int hc
      have e0 : (0 : Int32).toInt = 0 := rfl
      have e5 : (5 : Int32).toInt = 5 := rfl
      have e10 : (10 : Int32).toInt = 10 := rfl
      refine Or.inl ⟨rfl, fun q => ?_, ?_⟩
      · have := Int32.le_iff_toInt_le.mp q
        omega
      · rw [sub_int (by omega) (by decide)]; omega
    | false =>
      refine Or.inr ⟨rfl, ?_⟩
      rw [tk_as] at hx
      have h1 := and_t hx
      have h2 := in_int h1.1
      have e0 : (0 : Int32).toInt = 0 := rfl
      have e13 : (13 : Int32).toInt = 13 := rfl
      have e6 : (6 : Int32).toInt = 6 := rfl
      have e9 : (9 : Int32).toInt = 9 := rfl
      have e5 : (5 : Int32).toInt = 5 := rfl
      have e10 : (10 : Int32).toInt = 10 := rfl
      have h3 : ¬ (6 ≤ x.toInt ∧ x.toInt ≤ 9) := fun q => by
        have : inB x 6 9 = true := decide_eq_true (by rw [Int32.lt_iff_toInt_lt, Int32.lt_iff_toInt_lt]; omega)
        rw [this] at h1
        exact absurd h1.2 (by decide)
      have h4 : ¬ (0 ≤ x.toInt ∧ x.toInt ≤ 5) := fun q => by
        have : inB x 0 5 = true := decide_eq_true (by rw [Int32.lt_iff_toInt_lt, Int32.lt_iff_toInt_lt]; omega)
        rw [this] at hc
        cases hc
      rw [Int32.le_iff_toInt_le]
      omega
  rcases h.ho3 g with w | w | w
  · rw [tkC_0 w, tkA_0 (by unfold hoF; rw [← h.hol, w]; rfl)]
  · have e9 := h.sh1 g w
    by_cases o1 : oneB n (σ 19 g) = true
    · rw [tkC_1 w o1, tkA_1 (by unfold hoF; rw [← h.hol, w, ← e9, if_pos rfl, if_pos o1]), ← e9, rr.em.at0 (one_cl rr.hn o1)]
      rcases hx1 with ⟨a1, a2, a3⟩ | ⟨a1, a2⟩
      · rw [if_neg a2]
        by_cases u : undB (τ 0 (8 + 5 * (σ 19 g).toNatClampNeg)) x = true
        · rw [if_pos ⟨a1, u⟩, if_pos u]
        · rw [if_neg (fun k => u k.2), if_neg u]
      · rw [if_pos a2]
        exact if_neg (fun k => by rw [a1] at k; exact absurd k.1 (by decide))
    · rw [tkC_f w o1, tkA_0 (by unfold hoF; rw [← h.hol, w, ← e9, if_pos rfl, if_neg o1])]
  · have h2 := h.sh2 g w
    rw [tkC_2 w, tkA_2 (by unfold hoF; rw [← h.hol, w]; rfl), ← h2.1, ← h2.2.1]
    rcases hx1 with ⟨a1, a2, a3⟩ | ⟨a1, a2⟩
    · rw [if_neg a2]
      refine if_neg (fun k => ?_)
      rw [k] at a3
      have := h2.2.2
      omega
    · rw [if_pos a2]
      by_cases k : x - 10 = σ 20 g
      · rw [if_pos k, if_pos k.symm]
      · rw [if_neg k, if_neg (fun q => k q.symm)]
theorem tak_R {g x : Int32} (h : Rel σ τ) (rr : RowR n (σ 0) (τ 0)) : gateI (inB g 0 3 && (inB x 0 5 || inB (x - 10) 0 3)) (tkC n (σ 0) (σ 18) (σ 19) (σ 20) g.toNatClampNeg x) (-1) = gateI (inB g 0 3 && (inB x 0 13 && !(inB x 6 9))) (tkA n (τ 0) (τ 18) (τ 19) (τ 20) g.toNatClampNeg x) (-1) := by
  rw [← tk_as]
  exact gI_congr (fun c => tak_V h rr (and_t c).2)
def acG (n : Nat) (σ : Nat → Nat → Int32) (g : Int32) : Bool := inB g 0 3 && decide (σ 18 g.toNatClampNeg = 1 ∧ oneB n (σ 19 g.toNatClampNeg) = true)
theorem ac_c {g t : Int32} (h : Rel σ τ) : (inB g 0 3 && (inB t 0 3 && decide (hoF n (τ 18) (τ 19) g.toNatClampNeg = 1))) = (inB t 0 3 && (inB g 0 3 && decide (σ 18 g.toNatClampNeg = 1 ∧ oneB n (σ 19 g.toNatClampNeg) = true))) := by
  rw [show decide (hoF n (τ 18) (τ 19) g.toNatClampNeg = 1) = decide (σ 18 g.toNatClampNeg = 1 ∧ oneB n (σ 19 g.toNatClampNeg) = true) from decide_eq_decide.mpr (ho_eq h)]
  cases inB g 0 3 <;> cases inB t 0 3 <;> rfl
theorem ac_k {g : Int32} (h : Rel σ τ) (rr : RowR n (σ 0) (τ 0)) (c : (inB g 0 3 && decide (σ 18 g.toNatClampNeg = 1 ∧ oneB n (σ 19 g.toNatClampNeg) = true)) = true) : τ 19 g.toNatClampNeg = σ 19 g.toNatClampNeg ∧ τ 0 (8 + 5 * (σ 19 g.toNatClampNeg).toNatClampNeg) = σ 0 (8 + 5 * (σ 19 g.toNatClampNeg).toNatClampNeg) ∧ τ 0 (8 + 5 * (σ 19 g.toNatClampNeg).toNatClampNeg + 1) = σ 0 (8 + 5 * (σ 19 g.toNatClampNeg).toNatClampNeg + 1) := by
  have h1 := of_decide_eq_true (and_t c).2
  have h2 := one_cl rr.hn h1.2
  exact ⟨(h.sh1 _ h1.1).symm, (rr.em.at0 h2).symm, (rr.em.at h2 1 (by decide)).symm⟩
end OPS

theorem act_A {n : Nat} {σ τ : Nat → Nat → Int32} {g t x : Int32} (h : Rel σ τ) (rr : RowR n (σ 0) (τ 0)) : (gateI (inB g 0 3 && decide (σ 18 g.toNatClampNeg = 1 ∧ oneB n (σ 19 g.toNatClampNeg) = true)) (if inB t 0 3 = true then (if acD t (σ 0 (8 + 5 * (σ 19 g.toNatClampNeg).toNatClampNeg)) (σ 19 g.toNatClampNeg) (σ 0 (8 + 5 * (σ 19 g.toNatClampNeg).toNatClampNeg + 1)) = 0 then acV t (σ 0 (8 + 5 * (σ 19 g.toNatClampNeg).toNatClampNeg)) (σ 19 g.toNatClampNeg) (σ 0 (8 + 5 * (σ 19 g.toNatClampNeg).toNatClampNeg + 1)) x else -15) else 0) 0) = (gateI (inB g 0 3 && (inB t 0 3 && decide (hoF n (τ 18) (τ 19) g.toNatClampNeg = 1))) (if acD t (τ 0 (8 + 5 * (τ 19 g.toNatClampNeg).toNatClampNeg)) (τ 19 g.toNatClampNeg) (τ 0 (8 + 5 * (τ 19 g.toNatClampNeg).toNatClampNeg + 1)) = 0 then acV t (τ 0 (8 + 5 * (τ 19 g.toNatClampNeg).toNatClampNeg)) (τ 19 g.toNatClampNeg) (τ 0 (8 + 5 * (τ 19 g.toNatClampNeg).toNatClampNeg + 1)) x else -15) 0) := by
  rw [ac_c h]
  by_cases c : (inB g 0 3 && decide (σ 18 g.toNatClampNeg = 1 ∧ oneB n (σ 19 g.toNatClampNeg) = true)) = true
  · obtain ⟨e1, e2, e3⟩ := ac_k h rr c
    rw [e1, e2, e3, c, Bool.and_true]
    cases inB t 0 3 <;> rfl
  · have c0 : (inB g 0 3 && decide (σ 18 g.toNatClampNeg = 1 ∧ oneB n (σ 19 g.toNatClampNeg) = true)) = false := Bool.not_eq_true _ ▸ c
    rw [c0, Bool.and_false]; rfl
theorem act_B {n : Nat} {σ τ : Nat → Nat → Int32} {g t x : Int32} (h : Rel σ τ) (rr : RowR n (σ 0) (τ 0)) : (gateF (inB g 0 3 && decide (σ 18 g.toNatClampNeg = 1 ∧ oneB n (σ 19 g.toNatClampNeg) = true)) (if inB t 0 3 = true then trB (σ 21) 0 (acC t (σ 0 (8 + 5 * (σ 19 g.toNatClampNeg).toNatClampNeg)) (σ 19 g.toNatClampNeg) (σ 0 (8 + 5 * (σ 19 g.toNatClampNeg).toNatClampNeg + 1))) else σ 21) (σ 21)) = (gateF (inB g 0 3 && (inB t 0 3 && decide (hoF n (τ 18) (τ 19) g.toNatClampNeg = 1))) (trB (τ 21) 0 (acC t (τ 0 (8 + 5 * (τ 19 g.toNatClampNeg).toNatClampNeg)) (τ 19 g.toNatClampNeg) (τ 0 (8 + 5 * (τ 19 g.toNatClampNeg).toNatClampNeg + 1)))) (τ 21)) := by
  rw [← h.bod]
  rw [ac_c h]
  by_cases c : (inB g 0 3 && decide (σ 18 g.toNatClampNeg = 1 ∧ oneB n (σ 19 g.toNatClampNeg) = true)) = true
  · obtain ⟨e1, e2, e3⟩ := ac_k h rr c
    rw [e1, e2, e3, c, Bool.and_true]
    cases inB t 0 3 <;> rfl
  · have c0 : (inB g 0 3 && decide (σ 18 g.toNatClampNeg = 1 ∧ oneB n (σ 19 g.toNatClampNeg) = true)) = false := Bool.not_eq_true _ ▸ c
    rw [c0, Bool.and_false]; rfl
theorem act_N {n : Nat} {σ τ : Nat → Nat → Int32} {g t x : Int32} (h : Rel σ τ) (rr : RowR n (σ 0) (τ 0)) : ∃ r : Nat, r ≤ 30 ∧ (gateF (inB g 0 3 && decide (σ 18 g.toNatClampNeg = 1 ∧ oneB n (σ 19 g.toNatClampNeg) = true)) (if inB t 0 3 = true then fun _ => nI (trR 0 (acC t (σ 0 (8 + 5 * (σ 19 g.toNatClampNeg).toNatClampNeg)) (σ 19 g.toNatClampNeg) (σ 0 (8 + 5 * (σ 19 g.toNatClampNeg).toNatClampNeg + 1)))) else fun _ => 0) (fun _ => 0)) 0 = nI r ∧ (gateF (inB g 0 3 && (inB t 0 3 && decide (hoF n (τ 18) (τ 19) g.toNatClampNeg = 1))) (fun _ => nI (trR 0 (acC t (τ 0 (8 + 5 * (τ 19 g.toNatClampNeg).toNatClampNeg)) (τ 19 g.toNatClampNeg) (τ 0 (8 + 5 * (τ 19 g.toNatClampNeg).toNatClampNeg + 1))))) (fun _ => 0)) 0 = nI r := by
  rw [ac_c h]
  by_cases c : (inB g 0 3 && decide (σ 18 g.toNatClampNeg = 1 ∧ oneB n (σ 19 g.toNatClampNeg) = true)) = true
  · obtain ⟨e1, e2, e3⟩ := ac_k h rr c
    rw [e1, e2, e3, c, Bool.and_true]
    cases inB t 0 3 <;> (first | exact ⟨_, trR_le (by decide) _, rfl, rfl⟩ | exact ⟨0, by decide, rfl, rfl⟩)
  · have c0 : (inB g 0 3 && decide (σ 18 g.toNatClampNeg = 1 ∧ oneB n (σ 19 g.toNatClampNeg) = true)) = false := Bool.not_eq_true _ ▸ c
    rw [c0, Bool.and_false]; exact ⟨0, by decide, rfl, rfl⟩
theorem agn_0 {σ τ : Nat → Nat → Int32} (h : Rel σ τ) (c : decide (¬ σ 4 0 = 0) = true) : σ 1 0 = τ 1 0 := by
  obtain ⟨q, r1⟩ := h.kept (of_decide_eq_true c)
  exact r1.em.lo 0 (by decide)
theorem o_feed {σ τ : Nat → Nat → Int32} (h : Rel σ τ) {n : Nat} (rr : RowR n (σ 0) (τ 0)) {t : Nat} (ht : t ≤ 200) (hT5 : σ 6 0 = nI t) (hT6 : τ 6 0 = nI t) (ev : Int64) (k : Int32) : (((gateI (inB k 1 8) (if t + k.toNatClampNeg ≤ 200 then nI (t + k.toNatClampNeg) else -2) (-1)) : Int32) = (gateI (inB k 1 8) (if t + k.toNatClampNeg ≤ 200 then nI (t + k.toNatClampNeg) else -2) (-1))) ∧ Rel (su (su σ 5 (gateF (inB k 1 8 && decide (t + k.toNatClampNeg ≤ 200)) (fdN (σ 5) ev t k.toNatClampNeg) (σ 5))) 6 (gateF (inB k 1 8 && decide (t + k.toNatClampNeg ≤ 200)) (fun _ => nI (t + k.toNatClampNeg)) (σ 6))) (su (su τ 5 (gateF (inB k 1 8 && decide (t + k.toNatClampNeg ≤ 200)) (fdN (τ 5) ev t k.toNatClampNeg) (τ 5))) 6 (gateF (inB k 1 8 && decide (t + k.toNatClampNeg ≤ 200)) (fun _ => nI (t + k.toNatClampNeg)) (τ 6))) := ⟨rfl, ⟨h.row, h.fl, h.kept, congrArg (fun f => gateF (inB k 1 8 && decide (t + k.toNatClampNeg ≤ 200)) (fdN f ev t k.toNatClampNeg) f) h.txt, gF_1 (P := fun x => ∀ j, 0 ≤ (x j).toInt ∧ (x j).toInt ≤ 255) (fun _ => fd_rg h.byt _) h.byt, tap_f ht hT5 hT6, h.rows, h.rowN, h.so, h.si, h.nu, h.siz, h.sor, h.hol, h.ho3, h.sh1, h.sh2, h.bod, h.ran⟩⟩
theorem o_market {σ τ : Nat → Nat → Int32} (h : Rel σ τ) {n : Nat} (rr : RowR n (σ 0) (τ 0)) {t : Nat} (ht : t ≤ 200) (hT5 : σ 6 0 = nI t) (hT6 : τ 6 0 = nI t)  : (((if (mCS (σ 5) t (bfF (σ 3))).1 = true then -100 - nI (tkF (σ 5) t (mCS (σ 5) t (bfF (σ 3))).2.1) else (mCS (σ 5) t (bfF (σ 3))).2.2 0) : Int32) = (if (mkS (τ 5) t (τ 0 2)).1 = true then -100 - nI (tkF (τ 5) t (mkS (τ 5) t (τ 0 2)).2.1) else (mkS (τ 5) t (τ 0 2)).2.2 0)) ∧ Rel (su (su (su (su (su (su (su σ 0 (if (mCS (σ 5) t (bfF (σ 3))).1 = true then σ 0 else upd (mCS (σ 5) t (bfF (σ 3))).2.2 2 (σ 0 2))) 3 ((mCS (σ 5) t (bfF (σ 3))).2.2)) 6 (fun _ => 0)) 7 (fun _ => nI (tkK (σ 5) t (mCS (σ 5) t (bfF (σ 3))).2.1))) 8 (fun _ => nI (tkF (σ 5) t (mCS (σ 5) t (bfF (σ 3))).2.1))) 9 (fun _ => nI (tkT (σ 5) t (mCS (σ 5) t (bfF (σ 3))).2.1))) 14 (if (mCS (σ 5) t (bfF (σ 3))).1 = true then σ 14 else fun _ => 0)) (su (su (su (su (su (su (su (su (su τ 0 (if (mkS (τ 5) t (τ 0 2)).1 = true then τ 0 else (mkS (τ 5) t (τ 0 2)).2.2)) 3 (τ 0)) 6 (fun _ => 0)) 7 (fun _ => nI (tkK (τ 5) t (mkS (τ 5) t (τ 0 2)).2.1))) 8 (fun _ => nI (tkF (τ 5) t (mkS (τ 5) t (τ 0 2)).2.1))) 9 (fun _ => nI (tkT (τ 5) t (mkS (τ 5) t (τ 0 2)).2.1))) 10 (fun _ => tkV (τ 5) t (mkS (τ 5) t (τ 0 2)).2.1)) 11 (fun _ => bI ((mkS (τ 5) t (τ 0 2)).1 = true))) 14 (if (mkS (τ 5) t (τ 0 2)).1 = true then τ 14 else fun _ => 0)) := by
  obtain ⟨q, p1, p2, p3⟩ := mS_R (T := σ 5) (m := σ 3) (t := t) (z := σ 0 2) h.byt
  have ez : τ 0 2 = σ 0 2 := (rr.em.lo 2 (by decide)).symm
  have et : τ 5 = σ 5 := h.txt.symm
  rw [ez, et, ← p1, ← p2]
  cases hw : (mCS (σ 5) t (bfF (σ 3))).1 with
  | true =>
    refine ⟨rfl, ⟨⟨n, rr⟩, h.fl, h.kept, h.txt, h.byt, ⟨0, by decide, rfl, rfl⟩, h.rows, h.rowN, h.so, h.si, h.nu, h.siz, h.sor, h.hol, h.ho3, h.sh1, h.sh2, h.bod, h.ran⟩⟩
  | false =>
    have hz := p3 hw
    refine ⟨hz.n0.2.1.trans hz.n0.2.2.symm, ⟨⟨q, hz.1⟩, h.fl, h.kept, h.txt, h.byt, ⟨0, by decide, rfl, rfl⟩, h.rows, ⟨0, by decide, rfl, rfl⟩, h.so, h.si, h.nu, h.siz, h.sor, h.hol, h.ho3, h.sh1, h.sh2, h.bod, h.ran⟩⟩
theorem o_set {σ τ : Nat → Nat → Int32} (h : Rel σ τ) {n : Nat} (rr : RowR n (σ 0) (τ 0))  (a v : Int32) : (((gateI (inB a 0 3 && inB v 0 (if a = 3 then 99 else 9)) (σ 0 (4 + a.toNatClampNeg)) (-1)) : Int32) = (gateI (inB a 0 3 && inB v 0 (if a = 3 then 99 else 9)) (τ 0 (4 + a.toNatClampNeg)) (-1))) ∧ Rel (su σ 0 (gateF (inB a 0 3 && inB v 0 (if a = 3 then 99 else 9)) (upd (σ 0) (4 + a.toNatClampNeg) v) (σ 0))) (su τ 0 (gateF (inB a 0 3 && inB v 0 (if a = 3 then 99 else 9)) (upd (τ 0) (4 + a.toNatClampNeg) v) (τ 0))) := ⟨gI_congr (fun c => rr.em _ (by have := (in_cl 0 3 (by decide) (by decide) (and_t c).1).2.1; omega)), ⟨(gF_cases (P := fun x y => ∃ n, RowR n x y) (fun c => ⟨n, set_R rr c⟩) ⟨n, rr⟩), h.fl, h.kept, h.txt, h.byt, h.tap, h.rows, h.rowN, h.so, h.si, h.nu, h.siz, h.sor, h.hol, h.ho3, h.sh1, h.sh2, h.bod, h.ran⟩⟩
theorem o_lawOf {σ τ : Nat → Nat → Int32} (h : Rel σ τ) {n : Nat} (rr : RowR n (σ 0) (τ 0))  (a : Int32) : (((gateI (inB a 0 3) (σ 0 (4 + a.toNatClampNeg)) (-1)) : Int32) = (gateI (inB a 0 3) (τ 0 (4 + a.toNatClampNeg)) (-1))) ∧ Rel σ τ := ⟨gI_congr (fun c => rr.em _ (by have := (in_cl 0 3 (by decide) (by decide) c).2.1; omega)), ⟨h.row, h.fl, h.kept, h.txt, h.byt, h.tap, h.rows, h.rowN, h.so, h.si, h.nu, h.siz, h.sor, h.hol, h.ho3, h.sh1, h.sh2, h.bod, h.ran⟩⟩
theorem o_person {σ τ : Nat → Nat → Int32} (h : Rel σ τ) {n : Nat} (rr : RowR n (σ 0) (τ 0))  (k t w x : Int32) : (((gateI (inB k 0 5 && (inB t 0 99 && (inB w 0 99 && inB x 0 99))) (if n = 8 then -2 else nI n) (-1)) : Int32) = (gateI (inB k 0 5 && (inB t 0 99 && (inB w 0 99 && inB x 0 99))) (if n = 8 then -2 else nI n) (-1))) ∧ Rel (su σ 0 (gateF ((inB k 0 5 && (inB t 0 99 && (inB w 0 99 && inB x 0 99))) && !(decide (n = 8))) (perF n (σ 0) k t w x) (σ 0))) (su τ 0 (gateF ((inB k 0 5 && (inB t 0 99 && (inB w 0 99 && inB x 0 99))) && !(decide (n = 8))) (perF n (τ 0) k t w x) (τ 0))) := ⟨rfl, ⟨(per_P rr), h.fl, h.kept, h.txt, h.byt, h.tap, h.rows, h.rowN, h.so, h.si, h.nu, h.siz, h.sor, h.hol, h.ho3, h.sh1, h.sh2, h.bod, h.ran⟩⟩
theorem o_of {σ τ : Nat → Nat → Int32} (h : Rel σ τ) {n : Nat} (rr : RowR n (σ 0) (τ 0))  (o w : Int32) : (((ofA n (σ 0) o w) : Int32) = (ofA n (τ 0) o w)) ∧ Rel σ τ := ⟨em_of rr.hn rr.em, ⟨h.row, h.fl, h.kept, h.txt, h.byt, h.tap, h.rows, h.rowN, h.so, h.si, h.nu, h.siz, h.sor, h.hol, h.ho3, h.sh1, h.sh2, h.bod, h.ran⟩⟩
theorem o_does {σ τ : Nat → Nat → Int32} (h : Rel σ τ) {n : Nat} (rr : RowR n (σ 0) (τ 0))  (o w : Int32) : (((doesA n (σ 0) o w) : Int32) = (doesA n (τ 0) o w)) ∧ Rel σ τ := ⟨em_does rr.hn rr.em, ⟨h.row, h.fl, h.kept, h.txt, h.byt, h.tap, h.rows, h.rowN, h.so, h.si, h.nu, h.siz, h.sor, h.hol, h.ho3, h.sh1, h.sh2, h.bod, h.ran⟩⟩
theorem o_looks {σ τ : Nat → Nat → Int32} (h : Rel σ τ) {n : Nat} (rr : RowR n (σ 0) (τ 0))  (o q w : Int32) : (((looksA n (σ 0) o q w) : Int32) = (looksA n (τ 0) o q w)) ∧ Rel σ τ := ⟨em_looks rr.hn rr.em, ⟨h.row, h.fl, h.kept, h.txt, h.byt, h.tap, h.rows, h.rowN, h.so, h.si, h.nu, h.siz, h.sor, h.hol, h.ho3, h.sh1, h.sh2, h.bod, h.ran⟩⟩
theorem o_mind {σ τ : Nat → Nat → Int32} (h : Rel σ τ) {n : Nat} (rr : RowR n (σ 0) (τ 0))  (o k w : Int32) : (((gateI (oneB n o && (inB k 0 5 && inB w 0 99)) (σ 0 (8 + 5 * o.toNatClampNeg)) (-1)) : Int32) = (gateI (oneB n o && (inB k 0 5 && inB w 0 99)) (τ 0 (8 + 5 * o.toNatClampNeg)) (-1))) ∧ Rel (su σ 0 (gateF (oneB n o && (inB k 0 5 && inB w 0 99)) (upd (upd (σ 0) (8 + 5 * o.toNatClampNeg + 2) w) (8 + 5 * o.toNatClampNeg) k) (σ 0))) (su τ 0 (gateF (oneB n o && (inB k 0 5 && inB w 0 99)) (upd (upd (τ 0) (8 + 5 * o.toNatClampNeg + 2) w) (8 + 5 * o.toNatClampNeg) k) (τ 0))) := ⟨gI_congr (fun c => rr.em.at0 (one_cl rr.hn (and_t c).1)), ⟨(gF_cases (P := fun x y => ∃ n, RowR n x y) (fun c => ⟨n, (rr.tr (Or.inr rfl) (in_int (and_t (and_t c).2).2).1 (in_int (and_t (and_t c).2).2).2).kind⟩) ⟨n, rr⟩), h.fl, h.kept, h.txt, h.byt, h.tap, h.rows, h.rowN, h.so, h.si, h.nu, h.siz, h.sor, h.hol, h.ho3, h.sh1, h.sh2, h.bod, h.ran⟩⟩
theorem o_change {σ τ : Nat → Nat → Int32} (h : Rel σ τ) {n : Nat} (rr : RowR n (σ 0) (τ 0))  (o w v : Int32) : (((gateI (oneB n o && canB w v) (σ 0 (8 + 5 * o.toNatClampNeg + w.toNatClampNeg)) (-1)) : Int32) = (gateI (oneB n o && canB w v) (τ 0 (8 + 5 * o.toNatClampNeg + w.toNatClampNeg)) (-1))) ∧ Rel (su σ 0 (gateF (oneB n o && canB w v) (upd (σ 0) (8 + 5 * o.toNatClampNeg + w.toNatClampNeg) v) (σ 0))) (su τ 0 (gateF (oneB n o && canB w v) (upd (τ 0) (8 + 5 * o.toNatClampNeg + w.toNatClampNeg) v) (τ 0))) := ⟨gI_congr (fun c => rr.em.at (one_cl rr.hn (and_t c).1) _ (can_cl (and_t c).2)), ⟨(gF_cases (P := fun x y => ∃ n, RowR n x y) (fun c => ⟨n, can_R rr (and_t c).2⟩) ⟨n, rr⟩), h.fl, h.kept, h.txt, h.byt, h.tap, h.rows, h.rowN, h.so, h.si, h.nu, h.siz, h.sor, h.hol, h.ho3, h.sh1, h.sh2, h.bod, h.ran⟩⟩
theorem o_trade {σ τ : Nat → Nat → Int32} (h : Rel σ τ) {n : Nat} (rr : RowR n (σ 0) (τ 0))  (o q : Int32) : (((gateI (twoB n o q) 1 (-1)) : Int32) = (gateI (twoB n o q) 1 (-1))) ∧ Rel (su σ 0 (gateF (twoB n o q) (chgF (σ 0) o.toNatClampNeg q.toNatClampNeg 5) (σ 0))) (su τ 0 (gateF (twoB n o q) (chgF (τ 0) o.toNatClampNeg q.toNatClampNeg 5) (τ 0))) := ⟨rfl, ⟨(gF_cases (P := fun x y => ∃ n, RowR n x y) (fun c => ⟨n, rr.chg (one_cl rr.hn (two_of c).1) (one_cl rr.hn (two_of c).2.1) (one_ne rr.hn (two_of c).1 (two_of c).2.1 (two_of c).2.2)⟩) ⟨n, rr⟩), h.fl, h.kept, h.txt, h.byt, h.tap, h.rows, h.rowN, h.so, h.si, h.nu, h.siz, h.sor, h.hol, h.ho3, h.sh1, h.sh2, h.bod, h.ran⟩⟩
theorem o_days {σ τ : Nat → Nat → Int32} (h : Rel σ τ) {n : Nat} (rr : RowR n (σ 0) (τ 0))  (k : Int32) : (((gateI (inB k 1 60) (sumF (daysF n (σ 0) k.toNatClampNeg) 4 n) (-1)) : Int32) = (gateI (inB k 1 60) (sumF (daysF n (τ 0) k.toNatClampNeg) 4 n) (-1))) ∧ Rel (su σ 0 (gateF (inB k 1 60) (daysF n (σ 0) k.toNatClampNeg) (σ 0))) (su τ 0 (gateF (inB k 1 60) (daysF n (τ 0) k.toNatClampNeg) (τ 0))) := ⟨gI_congr (fun _ => em_sum (em_days rr.em _) (by decide) n (Nat.le_refl _)), ⟨(gF_cases (P := fun x y => ∃ n, RowR n x y) (fun c => ⟨n, rr.days _⟩) ⟨n, rr⟩), h.fl, h.kept, h.txt, h.byt, h.tap, h.rows, h.rowN, h.so, h.si, h.nu, h.siz, h.sor, h.hol, h.ho3, h.sh1, h.sh2, h.bod, h.ran⟩⟩
theorem o_seed {σ τ : Nat → Nat → Int32} (h : Rel σ τ) {n : Nat} (rr : RowR n (σ 0) (τ 0))  (v : Int32) : (((σ 0 2) : Int32) = (τ 0 2)) ∧ Rel (su σ 0 (upd (σ 0) 2 v)) (su τ 0 (upd (τ 0) 2 v)) := ⟨rr.em.lo 2 (by decide), ⟨⟨n, rr.z⟩, h.fl, h.kept, h.txt, h.byt, h.tap, h.rows, h.rowN, h.so, h.si, h.nu, h.siz, h.sor, h.hol, h.ho3, h.sh1, h.sh2, h.bod, h.ran⟩⟩
theorem o_day {σ τ : Nat → Nat → Int32} (h : Rel σ τ) {n : Nat} (rr : RowR n (σ 0) (τ 0))   : (((sumF (dayD n (σ 0)) 4 n) : Int32) = (sumF (dayD n (τ 0)) 4 n)) ∧ Rel (su σ 0 (dayD n (σ 0))) (su τ 0 (dayD n (τ 0))) := ⟨em_sum (em_dayD rr.em) (by decide) n (Nat.le_refl _), ⟨⟨n, rr.dd⟩, h.fl, h.kept, h.txt, h.byt, h.tap, h.rows, h.rowN, h.so, h.si, h.nu, h.siz, h.sor, h.hol, h.ho3, h.sh1, h.sh2, h.bod, h.ran⟩⟩
theorem o_lucky {σ τ : Nat → Nat → Int32} (h : Rel σ τ) {n : Nat} (rr : RowR n (σ 0) (τ 0))  (o k : Int32) : (((gateI (oneB n o && inB k 1 30) (lkC n (σ 0) o.toNatClampNeg (dayF n (σ 0) (8 + 5 * o.toNatClampNeg + 4)) k.toNatClampNeg) (-1)) : Int32) = (gateI (oneB n o && inB k 1 30) (lkC n (τ 0) o.toNatClampNeg (dayF n (τ 0) (8 + 5 * o.toNatClampNeg + 4)) k.toNatClampNeg) (-1))) ∧ Rel (su σ 2 (gateF (oneB n o && inB k 1 30) (lkS n (σ 0) k.toNatClampNeg) (σ 2))) (su τ 2 (gateF (oneB n o && inB k 1 30) (τ 0) (τ 2))) := ⟨gI_congr (fun c => by rw [(em_day rr.em).at (one_cl rr.hn (and_t c).1) 4 (by decide)]; exact em_lkC rr.em (one_cl rr.hn (and_t c).1) _), ⟨h.row, h.fl, h.kept, h.txt, h.byt, h.tap, h.rows, h.rowN, h.so, h.si, h.nu, h.siz, h.sor, h.hol, h.ho3, h.sh1, h.sh2, h.bod, h.ran⟩⟩
theorem o_state {σ τ : Nat → Nat → Int32} (h : Rel σ τ) {n : Nat} (rr : RowR n (σ 0) (τ 0))  (w : Int32) : (((stB n (σ 0) w) : Int32) = (stA n (τ 0) w)) ∧ Rel σ τ := ⟨(em_stB rr.em).trans (st_eq rr.hn), ⟨h.row, h.fl, h.kept, h.txt, h.byt, h.tap, h.rows, h.rowN, h.so, h.si, h.nu, h.siz, h.sor, h.hol, h.ho3, h.sh1, h.sh2, h.bod, h.ran⟩⟩
theorem o_purse {σ τ : Nat → Nat → Int32} (h : Rel σ τ) {n : Nat} (rr : RowR n (σ 0) (τ 0))  (o k : Int32) : (((gateI (oneB n o && inB k 0 60) (purF n (σ 0) o.toNatClampNeg k.toNatClampNeg) (-1)) : Int32) = (gateI (oneB n o && inB k 0 60) (purF n (τ 0) o.toNatClampNeg k.toNatClampNeg) (-1))) ∧ Rel (su σ 2 (gateF (oneB n o && inB k 0 60) (daysF n (σ 0) k.toNatClampNeg) (σ 2))) (su τ 2 (gateF (oneB n o && inB k 0 60) (τ 0) (τ 2))) := ⟨gI_congr (fun c => em_pur rr.em (one_cl rr.hn (and_t c).1) _), ⟨h.row, h.fl, h.kept, h.txt, h.byt, h.tap, h.rows, h.rowN, h.so, h.si, h.nu, h.siz, h.sor, h.hol, h.ho3, h.sh1, h.sh2, h.bod, h.ran⟩⟩
theorem o_steps {σ τ : Nat → Nat → Int32} (h : Rel σ τ) {n : Nat} (rr : RowR n (σ 0) (τ 0))  (o : Int32) : (((gateI (oneB n o) (fndP (fun t_ => decide (daysF n (σ 0) t_ (8 + 5 * o.toNatClampNeg + 3) = 0)) 0 61) (-1)) : Int32) = (gateI (oneB n o) (fndP (fun t => decide (daysF n (τ 0) t (8 + 5 * o.toNatClampNeg + 3) ≤ 0)) 0 61) (-1))) ∧ Rel (su σ 2 (gateF (oneB n o) (daysF n (σ 0) (fnN (fun t_ => decide (daysF n (σ 0) t_ (8 + 5 * o.toNatClampNeg + 3) = 0)) 0 61)) (σ 2))) (su τ 2 (gateF (oneB n o) (τ 0) (τ 2))) := ⟨gI_congr (fun c => fnd_congr (fun i => by rw [← (em_days rr.em i).at (one_cl rr.hn c) 3 (by decide)]; exact le0 ((rg_days rr.rg i).2 _ (one_cl rr.hn c)).1.1)), ⟨h.row, h.fl, h.kept, h.txt, h.byt, h.tap, h.rows, h.rowN, h.so, h.si, h.nu, h.siz, h.sor, h.hol, h.ho3, h.sh1, h.sh2, h.bod, h.ran⟩⟩
theorem o_all {σ τ : Nat → Nat → Int32} (h : Rel σ τ) {n : Nat} (rr : RowR n (σ 0) (τ 0))   : (((fndP (fun t_ => decide (onN (daysF n (σ 0) t_) n = 2 ^ n - 1)) 0 61) : Int32) = (fndP (fun t => decide (sumF (daysF n (τ 0) t) 3 n ≤ 0)) 0 61)) ∧ Rel (su σ 2 (daysF n (σ 0) (fnN (fun t_ => decide (onN (daysF n (σ 0) t_) n = 2 ^ n - 1)) 0 61))) (su τ 2 (τ 0)) := ⟨fnd_congr (fun i => by rw [← em_sum (em_days rr.em i) (by decide) n (Nat.le_refl _)]; exact all_eq rr.hn (rg_days rr.rg i)), ⟨h.row, h.fl, h.kept, h.txt, h.byt, h.tap, h.rows, h.rowN, h.so, h.si, h.nu, h.siz, h.sor, h.hol, h.ho3, h.sh1, h.sh2, h.bod, h.ran⟩⟩
theorem o_poor {σ τ : Nat → Nat → Int32} (h : Rel σ τ) {n : Nat} (rr : RowR n (σ 0) (τ 0))  (o : Int32) : (((gateI (oneB n o) (fndP (fun t_ => decide (daysF n (σ 0) t_ (8 + 5 * o.toNatClampNeg + 4) = 0)) 0 61) (-1)) : Int32) = (gateI (oneB n o) (fndP (fun t => decide (daysF n (τ 0) t (8 + 5 * o.toNatClampNeg + 4) ≤ 0)) 0 61) (-1))) ∧ Rel (su σ 2 (gateF (oneB n o) (daysF n (σ 0) (fnN (fun t_ => decide (daysF n (σ 0) t_ (8 + 5 * o.toNatClampNeg + 4) = 0)) 0 61)) (σ 2))) (su τ 2 (gateF (oneB n o) (τ 0) (τ 2))) := ⟨gI_congr (fun c => fnd_congr (fun i => by rw [← (em_days rr.em i).at (one_cl rr.hn c) 4 (by decide)]; exact le0 ((rg_days rr.rg i).2 _ (one_cl rr.hn c)).2.1)), ⟨h.row, h.fl, h.kept, h.txt, h.byt, h.tap, h.rows, h.rowN, h.so, h.si, h.nu, h.siz, h.sor, h.hol, h.ho3, h.sh1, h.sh2, h.bod, h.ran⟩⟩
theorem o_webFor {σ τ : Nat → Nat → Int32} (h : Rel σ τ) {n : Nat} (rr : RowR n (σ 0) (τ 0))  (o k : Int32) : (((gateI (oneB n o && inB k 1 20) (rbB n (σ 0) (8 + 5 * o.toNatClampNeg + 3) k.toNatClampNeg o.toNatClampNeg (99 + 1)) (-1)) : Int32) = (gateI (oneB n o && inB k 1 20) (rbB n (τ 0) (8 + 5 * o.toNatClampNeg + 3) k.toNatClampNeg o.toNatClampNeg (99 + 1)) (-1))) ∧ Rel (su σ 2 (gateF (oneB n o && inB k 1 20) (itT (fun v_ => daysF n (upd (σ 0) (8 + 5 * o.toNatClampNeg + 3) (nI v_)) k.toNatClampNeg) (σ 2) (99 + 1)) (σ 2))) (su τ 2 (gateF (oneB n o && inB k 1 20) (rbA (τ 0) (τ 2) (8 + 5 * o.toNatClampNeg + 3) (99 + 1)) (τ 2))) := ⟨gI_congr (fun c => em_rbB rr.em (one_cl rr.hn (and_t c).1) _), ⟨h.row, h.fl, h.kept, h.txt, h.byt, h.tap, h.rows, h.rowN, h.so, h.si, h.nu, h.siz, h.sor, h.hol, h.ho3, h.sh1, h.sh2, h.bod, h.ran⟩⟩
theorem o_kindFor {σ τ : Nat → Nat → Int32} (h : Rel σ τ) {n : Nat} (rr : RowR n (σ 0) (τ 0))  (o k : Int32) : (((gateI (oneB n o && inB k 1 20) (rbB n (σ 0) (8 + 5 * o.toNatClampNeg) k.toNatClampNeg o.toNatClampNeg (5 + 1)) (-1)) : Int32) = (gateI (oneB n o && inB k 1 20) (rbB n (τ 0) (8 + 5 * o.toNatClampNeg) k.toNatClampNeg o.toNatClampNeg (5 + 1)) (-1))) ∧ Rel (su σ 2 (gateF (oneB n o && inB k 1 20) (itT (fun v_ => daysF n (upd (σ 0) (8 + 5 * o.toNatClampNeg) (nI v_)) k.toNatClampNeg) (σ 2) (5 + 1)) (σ 2))) (su τ 2 (gateF (oneB n o && inB k 1 20) (rbA (τ 0) (τ 2) (8 + 5 * o.toNatClampNeg) (5 + 1)) (τ 2))) := ⟨gI_congr (fun c => em_rbB rr.em (one_cl rr.hn (and_t c).1) _), ⟨h.row, h.fl, h.kept, h.txt, h.byt, h.tap, h.rows, h.rowN, h.so, h.si, h.nu, h.siz, h.sor, h.hol, h.ho3, h.sh1, h.sh2, h.bod, h.ran⟩⟩
theorem o_wishFor {σ τ : Nat → Nat → Int32} (h : Rel σ τ) {n : Nat} (rr : RowR n (σ 0) (τ 0))  (o k v : Int32) : (((gateI (oneB n o && (inB k 1 20 && inB v 0 9999)) (fndP (fun t_ => decide (v ≤ purF n (upd (σ 0) (8 + 5 * o.toNatClampNeg + 2) (nI t_)) o.toNatClampNeg k.toNatClampNeg)) 0 100) (-1)) : Int32) = (gateI (oneB n o && (inB k 1 20 && inB v 0 9999)) (fndP (fun t_ => decide (v ≤ purF n (upd (τ 0) (8 + 5 * o.toNatClampNeg + 2) (nI t_)) o.toNatClampNeg k.toNatClampNeg)) 0 100) (-1))) ∧ Rel (su σ 2 (gateF (oneB n o && (inB k 1 20 && inB v 0 9999)) (itT (fun v_ => daysF n (upd (σ 0) (8 + 5 * o.toNatClampNeg + 2) (nI v_)) k.toNatClampNeg) (σ 2) (min (fnN (fun t_ => decide (v ≤ purF n (upd (σ 0) (8 + 5 * o.toNatClampNeg + 2) (nI t_)) o.toNatClampNeg k.toNatClampNeg)) 0 100 + 1) 100)) (σ 2))) (su τ 2 (gateF (oneB n o && (inB k 1 20 && inB v 0 9999)) (upd (τ 0) (8 + 5 * o.toNatClampNeg + 2) (wshV (fndP (fun t_ => decide (v ≤ purF n (upd (τ 0) (8 + 5 * o.toNatClampNeg + 2) (nI t_)) o.toNatClampNeg k.toNatClampNeg)) 0 100))) (τ 2))) := ⟨gI_congr (fun c => fnd_congr (fun i => by rw [em_pur rr.em.upd (one_cl rr.hn (and_t c).1)])), ⟨h.row, h.fl, h.kept, h.txt, h.byt, h.tap, h.rows, h.rowN, h.so, h.si, h.nu, h.siz, h.sor, h.hol, h.ho3, h.sh1, h.sh2, h.bod, h.ran⟩⟩
theorem o_changeFor {σ τ : Nat → Nat → Int32} (h : Rel σ τ) {n : Nat} (rr : RowR n (σ 0) (τ 0))  (o k : Int32) : (((gateI (oneB n o && inB k 1 20) (cfB n (σ 0) o.toNatClampNeg k.toNatClampNeg n) (-1)) : Int32) = (gateI (oneB n o && inB k 1 20) (cfB n (τ 0) o.toNatClampNeg k.toNatClampNeg n) (-1))) ∧ Rel (su σ 2 (gateF (oneB n o && inB k 1 20) (cfT n (σ 0) o.toNatClampNeg k.toNatClampNeg n) (σ 2))) (su τ 2 (gateF (oneB n o && inB k 1 20) (cfA (τ 0) o.toNatClampNeg n) (τ 2))) := ⟨gI_congr (fun c => em_cfB rr.em (one_cl rr.hn (and_t c).1) n (Nat.le_refl _)), ⟨h.row, h.fl, h.kept, h.txt, h.byt, h.tap, h.rows, h.rowN, h.so, h.si, h.nu, h.siz, h.sor, h.hol, h.ho3, h.sh1, h.sh2, h.bod, h.ran⟩⟩
theorem o_fair {σ τ : Nat → Nat → Int32} (h : Rel σ τ) {n : Nat} (rr : RowR n (σ 0) (τ 0))  (o : Int32) : (((gateI (oneB n o) (fairF (σ 0) o.toNatClampNeg n) (-1)) : Int32) = (gateI (oneB n o) (fairF (τ 0) o.toNatClampNeg n) (-1))) ∧ Rel σ τ := ⟨gI_congr (fun c => em_fair rr.em (one_cl rr.hn c) n (Nat.le_refl _)), ⟨h.row, h.fl, h.kept, h.txt, h.byt, h.tap, h.rows, h.rowN, h.so, h.si, h.nu, h.siz, h.sor, h.hol, h.ho3, h.sh1, h.sh2, h.bod, h.ran⟩⟩
theorem o_paired {σ τ : Nat → Nat → Int32} (h : Rel σ τ) {n : Nat} (rr : RowR n (σ 0) (τ 0))   : (((hpL (σ 0) (σ 12) n (2 ^ n - 1)) : Int32) = (dpF (τ 0) n (τ 12) (2 ^ n) (2 ^ n - 1))) ∧ Rel (su σ 12 (hpL (σ 0) (σ 12) n)) (su τ 12 (dpF (τ 0) n (τ 12) (2 ^ n))) := ⟨paired_eq rr, ⟨h.row, h.fl, h.kept, h.txt, h.byt, h.tap, h.rows, h.rowN, h.so, h.si, h.nu, h.siz, h.sor, h.hol, h.ho3, h.sh1, h.sh2, h.bod, h.ran⟩⟩
theorem o_fits {σ τ : Nat → Nat → Int32} (h : Rel σ τ) {n : Nat} (rr : RowR n (σ 0) (τ 0))  (g o w : Int32) : (((gateI (inB g 0 3 && (oneB n o && inB w 0 1)) (if 0 ≤ σ 15 g.toNatClampNeg then (if w = 0 then ftM (fun v_ => tdB (tdP n (upd (σ 0) (8 + 5 * o.toNatClampNeg + 3) (nI v_)) (σ 17) o.toNatClampNeg g.toNatClampNeg) 0 (σ 16 g.toNatClampNeg).toNatClampNeg) 100 else ftL (fun v_ => tdB (tdP n (upd (σ 0) (8 + 5 * o.toNatClampNeg + 3) (nI v_)) (σ 17) o.toNatClampNeg g.toNatClampNeg) 0 (σ 16 g.toNatClampNeg).toNatClampNeg) 100) else -11) (-1)) : Int32) = (gateI (inB g 0 3 && (oneB n o && inB w 0 1)) (if 0 ≤ τ 15 g.toNatClampNeg then (if w = 0 then ftM (fun v_ => tdB (tdP n (upd (τ 0) (8 + 5 * o.toNatClampNeg + 3) (nI v_)) (τ 17) o.toNatClampNeg g.toNatClampNeg) 0 (τ 16 g.toNatClampNeg).toNatClampNeg) 100 else ftL (fun v_ => tdB (tdP n (upd (τ 0) (8 + 5 * o.toNatClampNeg + 3) (nI v_)) (τ 17) o.toNatClampNeg g.toNatClampNeg) 0 (τ 16 g.toNatClampNeg).toNatClampNeg) 100) else -11) (-1))) ∧ Rel (su σ 2 (gateF ((inB g 0 3 && (oneB n o && inB w 0 1)) && decide (0 ≤ σ 15 g.toNatClampNeg)) ((itT (fun k_ => daysF n (upd (σ 0) (8 + 5 * o.toNatClampNeg + 3) (nI (99 - k_))) (tdI (tdP n (upd (σ 0) (8 + 5 * o.toNatClampNeg + 3) (nI (99 - k_))) (σ 17) o.toNatClampNeg g.toNatClampNeg) 0 (σ 16 g.toNatClampNeg).toNatClampNeg)) (σ 2)) 100) (σ 2))) (su τ 2 (gateF ((inB g 0 3 && (oneB n o && inB w 0 1)) && decide (0 ≤ τ 15 g.toNatClampNeg)) (fbA (τ 0) (τ 2) (8 + 5 * o.toNatClampNeg + 3) 100) (τ 2))) := ⟨by
    rw [← h.so, ← h.si, ← h.nu]
    refine gI_congr (fun c => ?_)
    have ho := one_cl rr.hn (and_t (and_t c).2).1
    have e : ∀ v_ : Nat, tdP n (upd (σ 0) (8 + 5 * o.toNatClampNeg + 3) (nI v_)) (σ 17) o.toNatClampNeg g.toNatClampNeg = tdP n (upd (τ 0) (8 + 5 * o.toNatClampNeg + 3) (nI v_)) (σ 17) o.toNatClampNeg g.toNatClampNeg := fun v_ => em_td rr.em.upd ho
    simp only [e], ⟨h.row, h.fl, h.kept, h.txt, h.byt, h.tap, h.rows, h.rowN, h.so, h.si, h.nu, h.siz, h.sor, h.hol, h.ho3, h.sh1, h.sh2, h.bod, h.ran⟩⟩
theorem o_odds {σ τ : Nat → Nat → Int32} (h : Rel σ τ) {n : Nat} (rr : RowR n (σ 0) (τ 0)) {c0 : Nat} (hs : c0 ≤ 99) (hS5 : σ 0 7 = nI c0) (hS6 : τ 0 7 = nI c0) (a b q : Int32) : (((gateL (inB a 0 8 && (inB b 0 a && inB q 0 1)) (lN (prtN (odA a.toNatClampNeg b.toNatClampNeg c0 a.toNatClampNeg) (100 ^ a.toNatClampNeg) q)) (-1)) : Int64) = (gateL (inB a 0 8 && (inB b 0 a && inB q 0 1)) (lN (prtN (odA a.toNatClampNeg b.toNatClampNeg c0 a.toNatClampNeg) (100 ^ a.toNatClampNeg) q)) (-1))) ∧ Rel σ τ := ⟨rfl, ⟨h.row, h.fl, h.kept, h.txt, h.byt, h.tap, h.rows, h.rowN, h.so, h.si, h.nu, h.siz, h.sor, h.hol, h.ho3, h.sh1, h.sh2, h.bod, h.ran⟩⟩
theorem o_hope {σ τ : Nat → Nat → Int32} (h : Rel σ τ) {n : Nat} (rr : RowR n (σ 0) (τ 0)) {c0 : Nat} (hs : c0 ≤ 99) (hS5 : σ 0 7 = nI c0) (hS6 : τ 0 7 = nI c0) (a q : Int32) : (((gateL (inB a 0 99 && inB q 0 1) (lN (prtN (a.toNatClampNeg * c0) 100 q)) (-1)) : Int64) = (gateL (inB a 0 99 && inB q 0 1) (lN (prtN (a.toNatClampNeg * c0) 100 q)) (-1))) ∧ Rel σ τ := ⟨rfl, ⟨h.row, h.fl, h.kept, h.txt, h.byt, h.tap, h.rows, h.rowN, h.so, h.si, h.nu, h.siz, h.sor, h.hol, h.ho3, h.sh1, h.sh2, h.bod, h.ran⟩⟩
theorem o_prove {σ τ : Nat → Nat → Int32} (h : Rel σ τ) {n : Nat} (rr : RowR n (σ 0) (τ 0))  (o k : Int32) : (((gateI (oneB n o && inB k 1 10) k (-1)) : Int32) = (gateI (oneB n o && inB k 1 10) k (-1))) ∧ Rel (su (su (su σ 2 (gateF (oneB n o && inB k 1 10) (daysF n (σ 0) k.toNatClampNeg) (σ 2))) 13 (gateF (oneB n o && inB k 1 10) (prN n (σ 0) (σ 13) o.toNatClampNeg k.toNatClampNeg) (σ 13))) 14 (gateF (oneB n o && inB k 1 10) (fun _ => k) (σ 14))) (su (su (su τ 2 (gateF (oneB n o && inB k 1 10) (τ 0) (τ 2))) 13 (gateF (oneB n o && inB k 1 10) (prN n (τ 0) (τ 13) o.toNatClampNeg k.toNatClampNeg) (τ 13))) 14 (gateF (oneB n o && inB k 1 10) (fun _ => k) (τ 14))) := ⟨rfl, ⟨h.row, h.fl, h.kept, h.txt, h.byt, h.tap, by rw [show (su (su (su σ 2 (gateF (oneB n o && inB k 1 10) (daysF n (σ 0) k.toNatClampNeg) (σ 2))) 13 (gateF (oneB n o && inB k 1 10) (prN n (σ 0) (σ 13) o.toNatClampNeg k.toNatClampNeg) (σ 13))) 14 (gateF (oneB n o && inB k 1 10) (fun _ => k) (σ 14))) 13 = gateF (oneB n o && inB k 1 10) (prN n (σ 0) (σ 13) o.toNatClampNeg k.toNatClampNeg) (σ 13) from rfl]; exact prv_R h rr, prv_N h, h.so, h.si, h.nu, h.siz, h.sor, h.hol, h.ho3, h.sh1, h.sh2, h.bod, h.ran⟩⟩
theorem o_row {σ τ : Nat → Nat → Int32} (h : Rel σ τ) {n : Nat} (rr : RowR n (σ 0) (τ 0)) {y : Nat} (hy0 : y ≤ 10) (hY5 : σ 14 0 = nI y) (hY6 : τ 14 0 = nI y) (i w : Int32) : (((gateI (inB i 0 (nI y - 1) && inB w 0 2) (σ 13 (3 * i.toNatClampNeg + w.toNatClampNeg)) (-9)) : Int32) = (gateI (inB i 0 (nI y - 1) && inB w 0 2) (τ 13 (3 * i.toNatClampNeg + w.toNatClampNeg)) (-9))) ∧ Rel σ τ := ⟨congrArg (fun f => gateI (inB i 0 (nI y - 1) && inB w 0 2) (f (3 * i.toNatClampNeg + w.toNatClampNeg)) (-9)) h.rows, ⟨h.row, h.fl, h.kept, h.txt, h.byt, h.tap, h.rows, h.rowN, h.so, h.si, h.nu, h.siz, h.sor, h.hol, h.ho3, h.sh1, h.sh2, h.bod, h.ran⟩⟩
theorem o_alterRow {σ τ : Nat → Nat → Int32} (h : Rel σ τ) {n : Nat} (rr : RowR n (σ 0) (τ 0)) {y : Nat} (hy0 : y ≤ 10) (hY5 : σ 14 0 = nI y) (hY6 : τ 14 0 = nI y) (i w v : Int32) : (((gateI (inB i 0 (nI y - 1) && inB w 0 2) (σ 13 (3 * i.toNatClampNeg + w.toNatClampNeg)) (-9)) : Int32) = (gateI (inB i 0 (nI y - 1) && inB w 0 2) (τ 13 (3 * i.toNatClampNeg + w.toNatClampNeg)) (-9))) ∧ Rel (su σ 13 (gateF (inB i 0 (nI y - 1) && inB w 0 2) (upd (σ 13) (3 * i.toNatClampNeg + w.toNatClampNeg) v) (σ 13))) (su τ 13 (gateF (inB i 0 (nI y - 1) && inB w 0 2) (upd (τ 13) (3 * i.toNatClampNeg + w.toNatClampNeg) v) (τ 13))) := ⟨congrArg (fun f => gateI (inB i 0 (nI y - 1) && inB w 0 2) (f (3 * i.toNatClampNeg + w.toNatClampNeg)) (-9)) h.rows, ⟨h.row, h.fl, h.kept, h.txt, h.byt, h.tap, congrArg (fun f => gateF (inB i 0 (nI y - 1) && inB w 0 2) (upd f (3 * i.toNatClampNeg + w.toNatClampNeg) v) f) h.rows, h.rowN, h.so, h.si, h.nu, h.siz, h.sor, h.hol, h.ho3, h.sh1, h.sh2, h.bod, h.ran⟩⟩
theorem o_judge {σ τ : Nat → Nat → Int32} (h : Rel σ τ) {n : Nat} (rr : RowR n (σ 0) (τ 0)) {y : Nat} (hy0 : y ≤ 10) (hY5 : σ 14 0 = nI y) (hY6 : τ 14 0 = nI y) (o : Int32) : (((gateI (oneB n o) (jdF (jdB n (σ 0) (σ 13) o.toNatClampNeg) 0 y) (-1)) : Int32) = (gateI (oneB n o) (jdF (jdB n (τ 0) (τ 13) o.toNatClampNeg) 0 y) (-1))) ∧ Rel (su σ 2 (gateF (oneB n o) (daysF n (σ 0) (tdI (jdB n (σ 0) (σ 13) o.toNatClampNeg) 0 y)) (σ 2))) (su τ 2 (gateF (oneB n o) (τ 0) (τ 2))) := ⟨gI_congr (fun c => by rw [em_jd rr.em (one_cl rr.hn c), h.rows]), ⟨h.row, h.fl, h.kept, h.txt, h.byt, h.tap, h.rows, h.rowN, h.so, h.si, h.nu, h.siz, h.sor, h.hol, h.ho3, h.sh1, h.sh2, h.bod, h.ran⟩⟩
theorem o_minds {σ τ : Nat → Nat → Int32} (h : Rel σ τ) {n : Nat} (rr : RowR n (σ 0) (τ 0))  (g i o k : Int32) : (((gateI (inB g 0 3 && (oneB n o && (inB k 0 8 && decide (o.toNatClampNeg + k.toNatClampNeg ≤ n)))) (if lkF (σ 15) g.toNatClampNeg 0 = 0 then gateI (inB i 0 (σ 16 g.toNatClampNeg) && decide (i.toNatClampNeg + k.toNatClampNeg ≤ (σ 16 g.toNatClampNeg).toNatClampNeg)) k (-12) else lkF (σ 15) g.toNatClampNeg 0) (-1)) : Int32) = (gateI (inB g 0 3 && (oneB n o && (inB k 0 8 && decide (o.toNatClampNeg + k.toNatClampNeg ≤ n)))) (if lkF (τ 15) g.toNatClampNeg 0 = 0 then gateI (inB i 0 (τ 16 g.toNatClampNeg) && decide (i.toNatClampNeg + k.toNatClampNeg ≤ (τ 16 g.toNatClampNeg).toNatClampNeg)) k (-12) else lkF (τ 15) g.toNatClampNeg 0) (-1))) ∧ Rel (su σ 0 (gateF ((inB g 0 3 && (oneB n o && (inB k 0 8 && decide (o.toNatClampNeg + k.toNatClampNeg ≤ n)))) && (decide (lkF (σ 15) g.toNatClampNeg 0 = 0) && (inB i 0 (σ 16 g.toNatClampNeg) && decide (i.toNatClampNeg + k.toNatClampNeg ≤ (σ 16 g.toNatClampNeg).toNatClampNeg)))) (mdN (σ 0) (σ 17) o.toNatClampNeg (40 * g.toNatClampNeg + i.toNatClampNeg) k.toNatClampNeg) (σ 0))) (su τ 0 (gateF ((inB g 0 3 && (oneB n o && (inB k 0 8 && decide (o.toNatClampNeg + k.toNatClampNeg ≤ n)))) && (decide (lkF (τ 15) g.toNatClampNeg 0 = 0) && (inB i 0 (τ 16 g.toNatClampNeg) && decide (i.toNatClampNeg + k.toNatClampNeg ≤ (τ 16 g.toNatClampNeg).toNatClampNeg)))) (mdN (τ 0) (τ 17) o.toNatClampNeg (40 * g.toNatClampNeg + i.toNatClampNeg) k.toNatClampNeg) (τ 0))) := ⟨by rw [h.so, h.si], ⟨(by show ∃ n, RowR n (gateF _ _ _) (gateF _ _ _); rw [← h.so, ← h.si, ← h.nu]; exact gF_cases (P := fun x y => ∃ n, RowR n x y) (fun c => ⟨n, rr.md _⟩) ⟨n, rr⟩), h.fl, h.kept, h.txt, h.byt, h.tap, h.rows, h.rowN, h.so, h.si, h.nu, h.siz, h.sor, h.hol, h.ho3, h.sh1, h.sh2, h.bod, h.ran⟩⟩
theorem o_sheet {σ τ : Nat → Nat → Int32} (h : Rel σ τ) {n : Nat} (rr : RowR n (σ 0) (τ 0))  (g x k : Int32) : (((gateI (sheB g x k) (gateI (sheC g x k) 1 (-14)) (-1)) : Int32) = (gateI (sheB g x k) (gateI (sheC g x k) 1 (-14)) (-1))) ∧ Rel (su (su (su σ 15 (gateF (sheC g x k) (upd (σ 15) g.toNatClampNeg x) (σ 15))) 16 (gateF (sheC g x k) (upd (σ 16) g.toNatClampNeg (if x < 0 then 0 else k)) (σ 16))) 17 (gateF (sheC g x k) (zrN (σ 17) g.toNatClampNeg 40) (σ 17))) (su (su (su τ 15 (gateF (sheC g x k) (upd (τ 15) g.toNatClampNeg x) (τ 15))) 16 (gateF (sheC g x k) (upd (τ 16) g.toNatClampNeg (if x < 0 then 0 else k)) (τ 16))) 17 (gateF (sheC g x k) (zrN (τ 17) g.toNatClampNeg 40) (τ 17))) := ⟨rfl, ⟨h.row, h.fl, h.kept, h.txt, h.byt, h.tap, h.rows, h.rowN, congrArg (fun f => gateF (sheC g x k) (upd f g.toNatClampNeg x) f) h.so, congrArg (fun f => gateF (sheC g x k) (upd f g.toNatClampNeg (if x < 0 then 0 else k)) f) h.si, congrArg (fun f => gateF (sheC g x k) (zrN f g.toNatClampNeg 40) f) h.nu, she_z h, she_s h, h.hol, h.ho3, h.sh1, h.sh2, h.bod, h.ran⟩⟩
theorem o_put {σ τ : Nat → Nat → Int32} (h : Rel σ τ) {n : Nat} (rr : RowR n (σ 0) (τ 0))  (g i v : Int32) : (((gateI (inB g 0 3) (if 0 ≤ σ 15 g.toNatClampNeg then gateI (inB i 0 (σ 16 g.toNatClampNeg - 1)) 1 (-12) else -11) (-1)) : Int32) = (gateI (inB g 0 3) (if 0 ≤ τ 15 g.toNatClampNeg then gateI (inB i 0 (τ 16 g.toNatClampNeg - 1)) 1 (-12) else -11) (-1))) ∧ Rel (su σ 17 (gateF (inB g 0 3 && (decide (0 ≤ σ 15 g.toNatClampNeg) && inB i 0 (σ 16 g.toNatClampNeg - 1))) (upd (σ 17) (40 * g.toNatClampNeg + i.toNatClampNeg) (narF (σ 15 g.toNatClampNeg) v)) (σ 17))) (su τ 17 (gateF (inB g 0 3 && (decide (0 ≤ τ 15 g.toNatClampNeg) && inB i 0 (τ 16 g.toNatClampNeg - 1))) (upd (τ 17) (40 * g.toNatClampNeg + i.toNatClampNeg) (narF (τ 15 g.toNatClampNeg) v)) (τ 17))) := ⟨by rw [h.so, h.si], ⟨h.row, h.fl, h.kept, h.txt, h.byt, h.tap, h.rows, h.rowN, h.so, h.si, (by show gateF _ _ (σ 17) = gateF _ _ (τ 17); rw [h.so, h.si, h.nu]), h.siz, h.sor, h.hol, h.ho3, h.sh1, h.sh2, h.bod, h.ran⟩⟩
theorem o_item {σ τ : Nat → Nat → Int32} (h : Rel σ τ) {n : Nat} (rr : RowR n (σ 0) (τ 0))  (g x i : Int32) : (((gateI (inB g 0 3 && inB x 0 3) (if lkF (σ 15) g.toNatClampNeg x = 0 then gateI (inB i 0 (σ 16 g.toNatClampNeg - 1)) (σ 17 (40 * g.toNatClampNeg + i.toNatClampNeg)) (-12) else lkF (σ 15) g.toNatClampNeg x) (-1)) : Int32) = (gateI (inB g 0 3 && inB x 0 3) (if lkF (τ 15) g.toNatClampNeg x = 0 then gateI (inB i 0 (τ 16 g.toNatClampNeg - 1)) (τ 17 (40 * g.toNatClampNeg + i.toNatClampNeg)) (-12) else lkF (τ 15) g.toNatClampNeg x) (-1))) ∧ Rel σ τ := ⟨by rw [h.so, h.si, h.nu], ⟨h.row, h.fl, h.kept, h.txt, h.byt, h.tap, h.rows, h.rowN, h.so, h.si, h.nu, h.siz, h.sor, h.hol, h.ho3, h.sh1, h.sh2, h.bod, h.ran⟩⟩
theorem o_shelf {σ τ : Nat → Nat → Int32} (h : Rel σ τ) {n : Nat} (rr : RowR n (σ 0) (τ 0))  (g w k : Int32) : (((gateI (shlB n g w k) 1 (-1)) : Int32) = (gateI (shlB n g w k) 1 (-1))) ∧ Rel (su (su (su σ 18 (gateF (shlB n g w k) (upd (σ 18) g.toNatClampNeg (if w = 0 then 1 else if shlR (σ 15) w k = true then 2 else 0)) (σ 18))) 19 (gateF (shlB n g w k) (if w = 0 then upd (σ 19) g.toNatClampNeg k else if w = 1 then upd (σ 19) g.toNatClampNeg (σ 16 k.toNatClampNeg) else σ 19) (σ 19))) 20 (gateF (shlB n g w k) (if w = 1 then upd (σ 20) g.toNatClampNeg (σ 15 k.toNatClampNeg) else σ 20) (σ 20))) (su (su (su τ 18 (gateF (shlB n g w k) (upd (τ 18) g.toNatClampNeg (if w = 0 then 1 else if shlR (τ 15) w k = true then 2 else 0)) (τ 18))) 19 (gateF (shlB n g w k) (upd (τ 19) g.toNatClampNeg (if w = 0 then k else if shlR (τ 15) w k = true then τ 15 k.toNatClampNeg else 0)) (τ 19))) 20 (gateF (shlB n g w k) (upd (τ 20) g.toNatClampNeg (if shlR (τ 15) w k = true then τ 16 k.toNatClampNeg else 0)) (τ 20))) := ⟨rfl, ⟨h.row, h.fl, h.kept, h.txt, h.byt, h.tap, h.rows, h.rowN, h.so, h.si, h.nu, h.siz, h.sor, (by show gateF _ _ (σ 18) = gateF _ _ (τ 18); rw [h.so, h.hol]), shl_3 h, shl_1 h, shl_2 h, h.bod, h.ran⟩⟩
theorem o_taken {σ τ : Nat → Nat → Int32} (h : Rel σ τ) {n : Nat} (rr : RowR n (σ 0) (τ 0))  (g x : Int32) : (((gateI (inB g 0 3 && (inB x 0 5 || inB (x - 10) 0 3)) (tkC n (σ 0) (σ 18) (σ 19) (σ 20) g.toNatClampNeg x) (-1)) : Int32) = (gateI (inB g 0 3 && (inB x 0 13 && !(inB x 6 9))) (tkA n (τ 0) (τ 18) (τ 19) (τ 20) g.toNatClampNeg x) (-1))) ∧ Rel σ τ := ⟨tak_R h rr, ⟨h.row, h.fl, h.kept, h.txt, h.byt, h.tap, h.rows, h.rowN, h.so, h.si, h.nu, h.siz, h.sor, h.hol, h.ho3, h.sh1, h.sh2, h.bod, h.ran⟩⟩
theorem o_act {σ τ : Nat → Nat → Int32} (h : Rel σ τ) {n : Nat} (rr : RowR n (σ 0) (τ 0))  (g t x : Int32) : (((gateI (inB g 0 3 && decide (σ 18 g.toNatClampNeg = 1 ∧ oneB n (σ 19 g.toNatClampNeg) = true)) (if inB t 0 3 = true then (if acD t (σ 0 (8 + 5 * (σ 19 g.toNatClampNeg).toNatClampNeg)) (σ 19 g.toNatClampNeg) (σ 0 (8 + 5 * (σ 19 g.toNatClampNeg).toNatClampNeg + 1)) = 0 then acV t (σ 0 (8 + 5 * (σ 19 g.toNatClampNeg).toNatClampNeg)) (σ 19 g.toNatClampNeg) (σ 0 (8 + 5 * (σ 19 g.toNatClampNeg).toNatClampNeg + 1)) x else -15) else 0) 0) : Int32) = (gateI (inB g 0 3 && (inB t 0 3 && decide (hoF n (τ 18) (τ 19) g.toNatClampNeg = 1))) (if acD t (τ 0 (8 + 5 * (τ 19 g.toNatClampNeg).toNatClampNeg)) (τ 19 g.toNatClampNeg) (τ 0 (8 + 5 * (τ 19 g.toNatClampNeg).toNatClampNeg + 1)) = 0 then acV t (τ 0 (8 + 5 * (τ 19 g.toNatClampNeg).toNatClampNeg)) (τ 19 g.toNatClampNeg) (τ 0 (8 + 5 * (τ 19 g.toNatClampNeg).toNatClampNeg + 1)) x else -15) 0)) ∧ Rel (su (su (su (su (su (su σ 21 (gateF (inB g 0 3 && decide (σ 18 g.toNatClampNeg = 1 ∧ oneB n (σ 19 g.toNatClampNeg) = true)) (if inB t 0 3 = true then trB (σ 21) 0 (acC t (σ 0 (8 + 5 * (σ 19 g.toNatClampNeg).toNatClampNeg)) (σ 19 g.toNatClampNeg) (σ 0 (8 + 5 * (σ 19 g.toNatClampNeg).toNatClampNeg + 1))) else σ 21) (σ 21))) 22 (gateF (inB g 0 3 && decide (σ 18 g.toNatClampNeg = 1 ∧ oneB n (σ 19 g.toNatClampNeg) = true)) (if inB t 0 3 = true then fun _ => nI (trR 0 (acC t (σ 0 (8 + 5 * (σ 19 g.toNatClampNeg).toNatClampNeg)) (σ 19 g.toNatClampNeg) (σ 0 (8 + 5 * (σ 19 g.toNatClampNeg).toNatClampNeg + 1)))) else fun _ => 0) (fun _ => 0))) 23 (gateF (inB g 0 3 && decide (σ 18 g.toNatClampNeg = 1 ∧ oneB n (σ 19 g.toNatClampNeg) = true)) (fun _ => σ 0 (8 + 5 * (σ 19 g.toNatClampNeg).toNatClampNeg)) (σ 23))) 24 (gateF (inB g 0 3 && decide (σ 18 g.toNatClampNeg = 1 ∧ oneB n (σ 19 g.toNatClampNeg) = true)) (fun _ => σ 19 g.toNatClampNeg) (σ 24))) 25 (gateF (inB g 0 3 && decide (σ 18 g.toNatClampNeg = 1 ∧ oneB n (σ 19 g.toNatClampNeg) = true)) (fun _ => σ 0 (8 + 5 * (σ 19 g.toNatClampNeg).toNatClampNeg + 1)) (σ 25))) 26 (gateF (inB g 0 3 && decide (σ 18 g.toNatClampNeg = 1 ∧ oneB n (σ 19 g.toNatClampNeg) = true)) (if inB t 0 3 = true then fun _ => acD t (σ 0 (8 + 5 * (σ 19 g.toNatClampNeg).toNatClampNeg)) (σ 19 g.toNatClampNeg) (σ 0 (8 + 5 * (σ 19 g.toNatClampNeg).toNatClampNeg + 1)) else fun _ => 0) (fun _ => 0))) (su (su (su (su (su (su τ 21 (gateF (inB g 0 3 && (inB t 0 3 && decide (hoF n (τ 18) (τ 19) g.toNatClampNeg = 1))) (trB (τ 21) 0 (acC t (τ 0 (8 + 5 * (τ 19 g.toNatClampNeg).toNatClampNeg)) (τ 19 g.toNatClampNeg) (τ 0 (8 + 5 * (τ 19 g.toNatClampNeg).toNatClampNeg + 1)))) (τ 21))) 22 (gateF (inB g 0 3 && (inB t 0 3 && decide (hoF n (τ 18) (τ 19) g.toNatClampNeg = 1))) (fun _ => nI (trR 0 (acC t (τ 0 (8 + 5 * (τ 19 g.toNatClampNeg).toNatClampNeg)) (τ 19 g.toNatClampNeg) (τ 0 (8 + 5 * (τ 19 g.toNatClampNeg).toNatClampNeg + 1))))) (fun _ => 0))) 23 (gateF (inB g 0 3 && (inB t 0 3 && decide (hoF n (τ 18) (τ 19) g.toNatClampNeg = 1))) (fun _ => τ 0 (8 + 5 * (τ 19 g.toNatClampNeg).toNatClampNeg)) (τ 23))) 24 (gateF (inB g 0 3 && (inB t 0 3 && decide (hoF n (τ 18) (τ 19) g.toNatClampNeg = 1))) (fun _ => τ 19 g.toNatClampNeg) (τ 24))) 25 (gateF (inB g 0 3 && (inB t 0 3 && decide (hoF n (τ 18) (τ 19) g.toNatClampNeg = 1))) (fun _ => τ 0 (8 + 5 * (τ 19 g.toNatClampNeg).toNatClampNeg + 1)) (τ 25))) 26 (gateF (inB g 0 3 && (inB t 0 3 && decide (hoF n (τ 18) (τ 19) g.toNatClampNeg = 1))) (fun _ => acD t (τ 0 (8 + 5 * (τ 19 g.toNatClampNeg).toNatClampNeg)) (τ 19 g.toNatClampNeg) (τ 0 (8 + 5 * (τ 19 g.toNatClampNeg).toNatClampNeg + 1))) (τ 26))) := ⟨act_A h rr, ⟨h.row, h.fl, h.kept, h.txt, h.byt, h.tap, h.rows, h.rowN, h.so, h.si, h.nu, h.siz, h.sor, h.hol, h.ho3, h.sh1, h.sh2, act_B (x := x) h rr, act_N (x := x) h rr⟩⟩
theorem o_trace {σ τ : Nat → Nat → Int32} (h : Rel σ τ) {n : Nat} (rr : RowR n (σ 0) (τ 0)) {r : Nat} (hr0 : r ≤ 30) (hR5 : σ 22 0 = nI r) (hR6 : τ 22 0 = nI r) (i : Int32) : (((gateI (inB i 0 (nI r - 1)) (σ 21 i.toNatClampNeg) (-3)) : Int32) = (gateI (inB i 0 (nI r - 1)) (τ 21 i.toNatClampNeg) (-3))) ∧ Rel σ τ := ⟨congrArg (fun f => gateI (inB i 0 (nI r - 1)) (f i.toNatClampNeg) (-3)) h.bod, ⟨h.row, h.fl, h.kept, h.txt, h.byt, h.tap, h.rows, h.rowN, h.so, h.si, h.nu, h.siz, h.sor, h.hol, h.ho3, h.sh1, h.sh2, h.bod, h.ran⟩⟩
theorem o_many {σ τ : Nat → Nat → Int32} (h : Rel σ τ) {n : Nat} (rr : RowR n (σ 0) (τ 0)) {r : Nat} (hr0 : r ≤ 30) (hR5 : σ 22 0 = nI r) (hR6 : τ 22 0 = nI r) {y : Nat} (hy0 : y ≤ 10) (hY5 : σ 14 0 = nI y) (hY6 : τ 14 0 = nI y) {t : Nat} (ht : t ≤ 200) (hT5 : σ 6 0 = nI t) (hT6 : τ 6 0 = nI t) (w : Int32) : (((maA n y t r (σ 0) w) : Int32) = (maA n y t r (τ 0) w)) ∧ Rel σ τ := ⟨em_ma rr.em, ⟨h.row, h.fl, h.kept, h.txt, h.byt, h.tap, h.rows, h.rowN, h.so, h.si, h.nu, h.siz, h.sor, h.hol, h.ho3, h.sh1, h.sh2, h.bod, h.ran⟩⟩
theorem o_keep {σ τ : Nat → Nat → Int32} (h : Rel σ τ) {n : Nat} (rr : RowR n (σ 0) (τ 0))   : ((1 : Int32) = 1) ∧ Rel (su (su σ 1 (σ 0)) 4 (fun _ => 1)) (su (su τ 1 (τ 0)) 4 (fun _ => 1)) := ⟨rfl, ⟨h.row, rfl, fun _ => ⟨n, rr⟩, h.txt, h.byt, h.tap, h.rows, h.rowN, h.so, h.si, h.nu, h.siz, h.sor, h.hol, h.ho3, h.sh1, h.sh2, h.bod, h.ran⟩⟩
theorem o_again {σ τ : Nat → Nat → Int32} (h : Rel σ τ) {n : Nat} (rr : RowR n (σ 0) (τ 0))   : (((gateI (decide (¬ σ 4 0 = 0)) (σ 1 0) (-3)) : Int32) = (gateI (decide (¬ τ 4 0 = 0)) (τ 1 0) (-3))) ∧ Rel (su σ 0 (gateF (decide (¬ σ 4 0 = 0)) (σ 1) (σ 0))) (su τ 0 (gateF (decide (¬ τ 4 0 = 0)) (τ 1) (τ 0))) := ⟨(by rw [h.fl]; exact gI_congr (fun c => agn_0 h (by rw [h.fl]; exact c))), ⟨(by show ∃ n, RowR n (gateF (decide (¬ σ 4 0 = 0)) (σ 1) (σ 0)) (gateF (decide (¬ τ 4 0 = 0)) (τ 1) (τ 0)); rw [← h.fl]; exact gF_cases (P := fun x y => ∃ n, RowR n x y) (fun c => h.kept (of_decide_eq_true c)) ⟨n, rr⟩), h.fl, h.kept, h.txt, h.byt, h.tap, h.rows, h.rowN, h.so, h.si, h.nu, h.siz, h.sor, h.hol, h.ho3, h.sh1, h.sh2, h.bod, h.ran⟩⟩
