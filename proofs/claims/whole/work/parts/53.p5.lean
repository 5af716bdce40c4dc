theorem wears_N {n o : Nat} {m : Nat → Int32} (hg : rgM n m) (hx : rgX n m) (ho : o < n) : ∃ w : Nat, w ≤ 99 ∧ wearsF m o = nI w := by
  obtain ⟨a, ha, hai⟩ := nat_of (hg.2 o ho).1.1
  have ha9 := (hg.2 o ho).1.2
  obtain ⟨s, hs, hsi⟩ := nat_of (hx.2 o ho).2.1
  have hs9 := (hx.2 o ho).2.2
  obtain ⟨l, hl, hli⟩ := nat_of hg.1.1
  have hl9 := hg.1.2.1
  have e2 : nI a / 2 = nI (a / 2) := pk_div (d := 2) (by omega) (by decide) (by decide)
  have e4 : nI a / 4 = nI (a / 4) := pk_div (d := 4) (by omega) (by decide) (by decide)
  have e10 : nI s / 10 = nI (s / 10) := pk_div (d := 10) (by omega) (by decide) (by decide)
  have e99 : mnI 99 (nI (a / 2) + nI l) = nI (if a / 2 + l ≤ 99 then a / 2 + l else 99) := by rw [nI_add]; exact mnI_N (a := 99) (by decide) (by omega)
  unfold wearsF
  rw [ha, hs, hl, e2, e4, e10, e99]
  split
  · exact ⟨a / 2, by omega, rfl⟩
  split
  · exact ⟨a / 4, by omega, rfl⟩
  split
  · exact ⟨_, by split <;> omega, rfl⟩
  split
  · exact ⟨a / 4 + s / 10, by omega, nI_add _ _⟩
  split
  · exact ⟨0, by omega, rfl⟩
  · exact ⟨a, by omega, rfl⟩
theorem sees_N {n o q : Nat} {m : Nat → Int32} (hg : rgM n m) (hx : rgX n m) (ho : o < n) (hq : q < n) : ∃ w : Nat, w ≤ 99 ∧ seesF m o q = nI w := by
  obtain ⟨w, hw, hwe⟩ := wears_N hg hx ho
  obtain ⟨t, ht, hti⟩ := nat_of (hx.2 q hq).1.1
  have ht9 := (hx.2 q hq).1.2
  obtain ⟨s, hs, hsi⟩ := nat_of (hx.2 o ho).2.1
  have hs9 := (hx.2 o ho).2.2
  have e1 : (99 : Int32) - nI w = nI (99 - w) := pk_sub (a := 99) hw
  have h1 : t * (99 - w) ≤ 99 * (99 - w) := Nat.mul_le_mul_right _ (by omega)
  have h2 : s * w ≤ 99 * w := Nat.mul_le_mul_right _ (by omega)
  have e2 : nI (t * (99 - w) + s * w) / 99 = nI ((t * (99 - w) + s * w) / 99) := pk_div (d := 99) (by omega) (by decide) (by decide)
  refine ⟨(t * (99 - w) + s * w) / 99, by omega, ?_⟩
  unfold seesF
  rw [hwe, ht, hs, e1, pk_mul, pk_mul, nI_add, e2]
theorem mx0_le {v : Int32} {k : Nat} (h : v.toInt ≤ k) : ∃ e : Nat, e ≤ k ∧ mxI 0 v = nI e := by
  unfold mxI
  by_cases h0 : 0 ≤ v
  · obtain ⟨e, he, hi⟩ := nat_of (x := v) (by simpa using Int32.le_iff_toInt_le.mp h0)
    exact ⟨e, by omega, by rw [if_pos h0, he]⟩
  · exact ⟨0, by omega, by rw [if_neg h0]; rfl⟩
theorem offers_le {n o q : Nat} {m : Nat → Int32} (hg : rgM n m) (hx : rgX n m) (ho : o < n) (hq : q < n) : ∃ e : Nat, e ≤ 198 ∧ mxI 0 (offersF m o q) = nI e := by
  obtain ⟨s, hs, hse⟩ := sees_N hg hx ho hq
  obtain ⟨l, hl, hli⟩ := nat_of hg.1.1
  have hl9 := hg.1.2.1
  have es : (nI s).toInt = (s : Int) := nI_toInt (by omega)
  have el : (nI l).toInt = (l : Int) := nI_toInt (by omega)
  have e5 : nI s + 5 = nI (s + 5) := nI_add s 5
  have e52 : nI (s + 5) / 2 = nI ((s + 5) / 2) := pk_div (d := 2) (by omega) (by decide) (by decide)
  have d1 : (nI s - nI l).toInt = (s : Int) - l := by rw [sub_int (by omega) (by omega), es, el]
  apply mx0_le
  unfold offersF
  rw [hse, hl, e5, e52]
  split
  · omega
  split
  · rw [nI_toInt (by omega)]; omega
  split
  · rw [dbl_int (by omega), d1]; omega
  split
  · rw [nI_toInt (by omega)]; omega
  split
  · rw [sub_int (by omega) (by decide), es]
    have e10 : (10 : Int32).toInt = 10 := rfl
    omega
  · omega
theorem wo_rg {n p q : Nat} {m : Nat → Int32} (hg : rgM n m) (hx : rgX n m) (hp : p < n) (hq : q < n) : 0 ≤ (woF m p q).toInt ∧ (woF m p q).toInt ≤ 1000 := by
  obtain ⟨e, he, h1⟩ := offers_le hg hx hp hq
  obtain ⟨f, hf, h2⟩ := offers_le hg hx hq hp
  unfold woF
  rw [h1, h2, nI_add, nI_toInt (by omega)]; omega
theorem wo_sym (m : Nat → Int32) (p q : Nat) : woF m p q = woF m q p := by unfold woF; exact Int32.add_comm _ _
/-- a table filled by c's way is the best by c's way -/
theorem tab_best {T m : Nat → Int32} {n : Nat} {c : Nat → Nat} (hn : n ≤ 8) (hC : Choice c) (hg : rgM n m) (hx : rgX n m) (h0 : T 0 = 0)
    (hT : ∀ w, 0 < w → w < 2 ^ n → ∃ (X E : Nat → Int32) (C : Nat → Prop) (k : Nat), X 0 = T (w - 2 ^ c w) ∧ X k = T w ∧ (∀ q, C q → X (q + 1) = mxI (X q) (E q)) ∧ (∀ q, ¬ C q → X (q + 1) = X q) ∧ (∀ q, q < k → (C q ↔ q ≠ c w ∧ bt w q)) ∧ (∀ q, q ≠ c w → bt w q → q < k) ∧ ∀ q, E q = woF m (c w) q + T (w - 2 ^ c w - 2 ^ q)) :
    Best n (fun p q => (woF m p q).toInt) c (fun w => (T w).toInt) := by
  have h256 := pow_256 hn
  have key : ∀ k w, w ≤ k → w < 2 ^ n → (0 ≤ (T w).toInt ∧ (T w).toInt ≤ 1000 * w) := by
    intro k
    induction k with
    | zero =>
      intro w hk _
      have e : w = 0 := by omega
      rw [e, h0]; decide
    | succ k ih =>
      intro w hk hw
      by_cases hz : w = 0
      · rw [hz, h0]; decide
      · obtain ⟨X, E, C, kk, x0, xk, x1, x2, x3, x4, x5⟩ := hT w (by omega) hw
        have hb := hC.1 w (by omega) (by omega)
        have l1 := sub_lt hb
        obtain ⟨m1, m2, m3⟩ := mq_all x1 x2 kk
        rw [x0, xk] at m1
        rw [x0, xk] at m3
        have i1 := ih (w - 2 ^ c w) (by omega) (by omega)
        refine ⟨by omega, ?_⟩
        rcases m3 with m3 | ⟨q, q1, q2, q3⟩
        · omega
        · have hq := (x3 q q1).mp q2
          have hq2 := bt_sub' (by omega) hb hq.2 hq.1
          have l2 := sub_lt hq2
          have i2 := ih (w - 2 ^ c w - 2 ^ q) (by omega) (by omega)
          have w1 := wo_rg hg hx (lw_lt hw (show ¬ w / 2 ^ c w % 2 = 0 by unfold bt at hb; omega)) (lw_lt hw (show ¬ w / 2 ^ q % 2 = 0 by have := hq.2; unfold bt at this; omega))
          rw [x5 q, add_int (by omega) (by omega)] at q3
          omega
  have hE : ∀ w q, 0 < w → w < 2 ^ n → q ≠ c w → bt w q → (woF m (c w) q + T (w - 2 ^ c w - 2 ^ q)).toInt = (woF m (c w) q).toInt + (T (w - 2 ^ c w - 2 ^ q)).toInt := fun w q hz hw hq1 hq2 => by
    have hb := hC.1 w hz (by omega)
    have l1 := sub_lt hb
    have l2 := sub_lt (bt_sub' (by omega) hb hq2 hq1)
    have i2 := key w (w - 2 ^ c w - 2 ^ q) (by omega) (by omega)
    have w1 := wo_rg hg hx (lw_lt hw (show ¬ w / 2 ^ c w % 2 = 0 by unfold bt at hb; omega)) (lw_lt hw (show ¬ w / 2 ^ q % 2 = 0 by unfold bt at hq2; omega))
    exact add_int (by omega) (by omega)
  refine ⟨fun w hz hw => ?_, fun w q hz hw hq1 hq2 => ?_, fun w hz hw => ?_⟩
  · obtain ⟨X, E, C, kk, x0, xk, x1, x2, x3, x4, x5⟩ := hT w hz hw
    have h := (mq_all x1 x2 kk).1
    rw [x0, xk] at h
    exact h
  · obtain ⟨X, E, C, kk, x0, xk, x1, x2, x3, x4, x5⟩ := hT w hz hw
    have hk := x4 q hq1 hq2
    have h := (mq_all x1 x2 kk).2.1 q hk ((x3 q hk).mpr ⟨hq1, hq2⟩)
    rw [xk, x5 q, hE w q hz hw hq1 hq2] at h
    show (T (w - 2 ^ c w - 2 ^ q)).toInt + (woF m (c w) q).toInt ≤ (T w).toInt
    omega
  · obtain ⟨X, E, C, kk, x0, xk, x1, x2, x3, x4, x5⟩ := hT w hz hw
    have h := (mq_all x1 x2 kk).2.2
    rw [x0, xk] at h
    rcases h with h | ⟨q, q1, q2, q3⟩
    · exact Or.inl h
    · have hq := (x3 q q1).mp q2
      refine Or.inr ⟨q, hq.1, hq.2, ?_⟩
      rw [x5 q, hE w q hz hw hq.1 hq.2] at q3
      show (T w).toInt = (T (w - 2 ^ c w - 2 ^ q)).toInt + (woF m (c w) q).toInt
      omega
/-! the class's table -/
theorem hw_congr {m t t' : Nat → Int32} {b r : Nat} (h : ∀ j, j ≤ r → t j = t' j) : ∀ q, hwQ m t b r q = hwQ m t' b r q
  | 0 => h r (Nat.le_refl _)
  | q + 1 => by
    show (if r / 2 ^ q % 2 = 1 then mxI (hwQ m t b r q) (woF m b q + t (r - 2 ^ q)) else hwQ m t b r q) = (if r / 2 ^ q % 2 = 1 then mxI (hwQ m t' b r q) (woF m b q + t' (r - 2 ^ q)) else hwQ m t' b r q)
    rw [hw_congr h q, h (r - 2 ^ q) (Nat.sub_le _ _)]
theorem hpO_lo {m t : Nat → Int32} {b j : Nat} (hj : j < 2 ^ b) : ∀ o, hpO m t b o j = t j
  | 0 => rfl
  | o + 1 => by
    show upd (hpO m t b o) (o + 2 ^ b) _ j = t j
    rw [upd_ne (by omega), hpO_lo hj o]
theorem hpO_at {m t : Nat → Int32} {b p : Nat} (hp : p < 2 ^ b) : ∀ o, p < o → hpO m t b o (p + 2 ^ b) = hwQ m t b p b
  | 0, h => absurd h (Nat.not_lt_zero p)
  | o + 1, h => by
    show upd (hpO m t b o) (o + 2 ^ b) (hwQ m (hpO m t b o) b o b) (p + 2 ^ b) = _
    by_cases q : p = o
    · subst q
      rw [upd_self]
      exact hw_congr (fun j hj => hpO_lo (by omega) p) b
    · rw [upd_ne (by omega), hpO_at hp o (by omega)]
theorem hpL_st {m t0 : Nat → Int32} {b w : Nat} (hw : w < 2 ^ b) : ∀ k, hpL m t0 (b + k) w = hpL m t0 b w
  | 0 => rfl
  | k + 1 => by
    show hpO m (hpL m t0 (b + k)) (b + k) (2 ^ (b + k)) w = _
    rw [hpO_lo (Nat.lt_of_lt_of_le hw (Nat.pow_le_pow_right (by decide) (Nat.le_add_right _ _))), hpL_st hw k]
theorem hpL_at {m t0 : Nat → Int32} {n b p : Nat} (hb : b < n) (hp : p < 2 ^ b) : hpL m t0 n (p + 2 ^ b) = hwQ m (hpL m t0 n) b p b := by
  have h1 : p + 2 ^ b < 2 ^ (b + 1) := by rw [Nat.pow_succ]; omega
  have e1 := hpL_st (m := m) (t0 := t0) h1 (n - (b + 1))
  rw [show b + 1 + (n - (b + 1)) = n by omega] at e1
  rw [e1]
  show hpO m (hpL m t0 b) b (2 ^ b) (p + 2 ^ b) = _
  rw [hpO_at hp (2 ^ b) hp]
  refine hw_congr (fun j hj => ?_) b
  have e2 := hpL_st (m := m) (t0 := t0) (show j < 2 ^ b by omega) (n - b)
  rw [show b + (n - b) = n by omega] at e2
  exact e2.symm
theorem hpL_0 {m t0 : Nat → Int32} (n : Nat) : hpL m t0 n 0 = 0 := by
  have e := hpL_st (m := m) (t0 := t0) (b := 0) (w := 0) (by decide) n
  rw [Nat.zero_add] at e
  rw [e]; exact upd_self
theorem lt_of_pow {p q : Nat} (h : 2 ^ p < 2 ^ q) : p < q := by
  rcases Nat.lt_or_ge p q with k | k
  · exact k
  · have := Nat.pow_le_pow_right (n := 2) (by decide) k
    omega
theorem hp_best {m t0 : Nat → Int32} {n : Nat} (hn : n ≤ 8) (hg : rgM n m) (hx : rgX n m) : Best n (fun p q => (woF m p q).toInt) hbN (fun w => (hpL m t0 n w).toInt) := by
  have h256 := pow_256 hn
  refine tab_best hn hb_C hg hx (hpL_0 n) (fun w hz hw => ?_)
  have hw2 : w < 256 := by omega
  have hb := hb_C.1 w hz hw2
  have ht := hb_top w hw2 hz
  have hbn : hbN w < n := lw_lt hw (show ¬ w / 2 ^ hbN w % 2 = 0 by unfold bt at hb; omega)
  have hle := bt_pos hb
  refine ⟨hwQ m (hpL m t0 n) (hbN w) (w - 2 ^ hbN w), fun q => woF m (hbN w) q + hpL m t0 n (w - 2 ^ hbN w - 2 ^ q), fun q => (w - 2 ^ hbN w) / 2 ^ q % 2 = 1, hbN w, rfl, ?_, fun q hc => if_pos hc, fun q hc => if_neg hc, fun q hq => ?_, fun q h1 h2 => ?_, fun q => rfl⟩
  · have e := hpL_at (m := m) (t0 := t0) hbn ht
    rw [show w - 2 ^ hbN w + 2 ^ hbN w = w by omega] at e
    exact e.symm
  · constructor
    · intro h; exact bt_back hw2 hb h
    · intro h; exact bt_sub' hw2 hb h.2 h.1
  · have h3 := bt_pos (bt_sub' hw2 hb h2 h1)
    exact lt_of_pow (by omega)
/-! the reference's table -/
theorem pv_congr {m t t' : Nat → Int32} {b r : Nat} (h : ∀ j, j ≤ r → t j = t' j) : ∀ q, pvQ m t b r q = pvQ m t' b r q
  | 0 => h r (Nat.le_refl _)
  | q + 1 => by
    show (if b < q ∧ r / 2 ^ q % 2 = 1 then mxI (pvQ m t b r q) (t (r - 2 ^ q) + woF m b q) else pvQ m t b r q) = (if b < q ∧ r / 2 ^ q % 2 = 1 then mxI (pvQ m t' b r q) (t' (r - 2 ^ q) + woF m b q) else pvQ m t' b r q)
    rw [pv_congr h q, h (r - 2 ^ q) (Nat.sub_le _ _)]
theorem dp_st {m t0 : Nat → Int32} {n w j : Nat} (hj : j < w) : ∀ d, dpF m n t0 (w + d) j = dpF m n t0 w j
  | 0 => rfl
  | d + 1 => by
    show (if w + d = 0 then dpF m n t0 (w + d) else upd (dpF m n t0 (w + d)) (w + d) _) j = _
    rw [if_neg (by omega), upd_ne (by omega), dp_st hj d]
theorem dp_0 {m t0 : Nat → Int32} {n : Nat} : ∀ w, dpF m n t0 w 0 = 0
  | 0 => upd_self
  | w + 1 => by
    show (if w = 0 then dpF m n t0 w else upd (dpF m n t0 w) w _) 0 = 0
    by_cases h : w = 0
    · rw [if_pos h]; exact dp_0 w
    · rw [if_neg h, upd_ne (by omega)]; exact dp_0 w
theorem dp_best {m t0 : Nat → Int32} {n : Nat} (hn : n ≤ 8) (hg : rgM n m) (hx : rgX n m) : Best n (fun p q => (woF m p q).toInt) lwN (fun w => (dpF m n t0 (2 ^ n) w).toInt) := by
  have h256 := pow_256 hn
  refine tab_best hn lw_C hg hx (dp_0 _) (fun w hz hw => ?_)
  have hw2 : w < 256 := by omega
  have hb := lw_C.1 w hz hw2
  have hl := sub_lt hb
  have hag : ∀ j, j < w → dpF m n t0 w j = dpF m n t0 (2 ^ n) j := fun j hj => by
    have e := dp_st (m := m) (t0 := t0) (n := n) hj (2 ^ n - w)
    rw [show w + (2 ^ n - w) = 2 ^ n by omega] at e
    exact e.symm
  have hT : dpF m n t0 (2 ^ n) w = pvQ m (dpF m n t0 (2 ^ n)) (lwN w) (w - 2 ^ lwN w) n := by
    have e := dp_st (m := m) (t0 := t0) (n := n) (show w < w + 1 by omega) (2 ^ n - (w + 1))
    rw [show w + 1 + (2 ^ n - (w + 1)) = 2 ^ n by omega] at e
    rw [e]
    show (if w = 0 then dpF m n t0 w else upd (dpF m n t0 w) w (pvQ m (dpF m n t0 w) (lwN w) (w &&& (w - 1)) n)) w = _
    rw [if_neg (by omega), upd_self, lw_and w hw2 hz]
    exact pv_congr (fun j hj => hag j (by omega)) n
  refine ⟨pvQ m (dpF m n t0 (2 ^ n)) (lwN w) (w - 2 ^ lwN w), fun q => woF m (lwN w) q + dpF m n t0 (2 ^ n) (w - 2 ^ lwN w - 2 ^ q), fun q => lwN w < q ∧ (w - 2 ^ lwN w) / 2 ^ q % 2 = 1, n, rfl, hT.symm, fun q hc => ?_, fun q hc => if_neg hc, fun q hq => ?_, fun q h1 h2 => ?_, fun q => rfl⟩
  · show (if lwN w < q ∧ (w - 2 ^ lwN w) / 2 ^ q % 2 = 1 then mxI _ (dpF m n t0 (2 ^ n) (w - 2 ^ lwN w - 2 ^ q) + woF m (lwN w) q) else _) = _
    rw [if_pos hc, Int32.add_comm]
  · constructor
    · intro h; exact ⟨by omega, (bt_back hw2 hb h.2).2⟩
    · intro h; exact ⟨lw_abv w hw2 hz q (bt_8 hw2 h.2) h.2 h.1, bt_sub' hw2 hb h.2 h.1⟩
  · exact lw_lt hw (show ¬ w / 2 ^ q % 2 = 0 by unfold bt at h2; omega)
theorem em_pv {n : Nat} {a b t : Nat → Int32} {p r : Nat} (h : eqM n a b) (hp : p < n) : ∀ q, q ≤ n → pvQ a t p r q = pvQ b t p r q
  | 0, _ => rfl
  | q + 1, hq => by
    show (if p < q ∧ r / 2 ^ q % 2 = 1 then mxI (pvQ a t p r q) (t (r - 2 ^ q) + woF a p q) else pvQ a t p r q) = (if p < q ∧ r / 2 ^ q % 2 = 1 then mxI (pvQ b t p r q) (t (r - 2 ^ q) + woF b p q) else pvQ b t p r q)
    rw [em_pv h hp q (by omega), em_wo h hp (show q < n by omega)]
theorem em_dp {n : Nat} {a b t0 : Nat → Int32} (hn : n ≤ 8) (h : eqM n a b) : ∀ w, w ≤ 2 ^ n → dpF a n t0 w = dpF b n t0 w
  | 0, _ => rfl
  | w + 1, hw => by
    have h256 := pow_256 hn
    show (if w = 0 then dpF a n t0 w else upd (dpF a n t0 w) w (pvQ a (dpF a n t0 w) (lwN w) (w &&& (w - 1)) n)) = (if w = 0 then dpF b n t0 w else upd (dpF b n t0 w) w (pvQ b (dpF b n t0 w) (lwN w) (w &&& (w - 1)) n))
    rw [em_dp hn h w (by omega)]
    by_cases hz : w = 0
    · rw [if_pos hz, if_pos hz]
    · have hb := lw_ch1 w (by omega) (by omega)
      rw [if_neg hz, if_neg hz, em_pv h (lw_lt (n := n) (by omega) (show ¬ w / 2 ^ lwN w % 2 = 0 by omega)) n (Nat.le_refl _)]
theorem paired_eq {n : Nat} {a b t t' : Nat → Int32} (r : RowR n a b) : hpL a t n (2 ^ n - 1) = dpF b n t' (2 ^ n) (2 ^ n - 1) := by
  rw [← em_dp r.hn r.em (2 ^ n) (Nat.le_refl _)]
  apply Int32.toInt_inj.mp
  have hp := pow_pos2 n
  exact best_eq (V' := fun w => (hpL a t n w).toInt) (V := fun w => (dpF a n t' (2 ^ n) w).toInt) r.hn (fun p q => by rw [wo_sym]) lw_C (dp_best r.hn r.rg r.rx) hb_C (hp_best r.hn r.rg r.rx) (by rw [hpL_0, dp_0]) (by omega)
