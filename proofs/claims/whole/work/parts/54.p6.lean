/-! the two parsers say the same -/
theorem nb_rg {T : Nat → Int32} {t i : Nat} {v : Int32} (hb : ∀ j, 0 ≤ (T j).toInt ∧ (T j).toInt ≤ 255) (h : nbB T t i v = true) : 0 ≤ (tkV T t i).toInt ∧ (tkV T t i).toInt ≤ v.toInt := by
  have h1 := nb_of h
  have h3 : tkV T t i ≤ v := by
    unfold nbB at h
    simp only [Bool.and_eq_true, decide_eq_true_eq] at h
    exact h.2.2
  refine ⟨?_, Int32.le_iff_toInt_le.mp h3⟩
  have hd : ∀ j, j < tkT T t i - tkF T t i → dgB (T (tkF T t i + j)) = true := fun j hj => by
    have e : tkT T t i = endF (dgP T) (t - tkF T t i) (tkF T t i) := by unfold tkT; rw [if_neg (by omega), if_pos h1.1]
    exact en_all (P := dgP T) (t - tkF T t i) (tkF T t i) (tkF T t i + j) (by omega) (by rw [← e]; omega)
  obtain ⟨a, ha, hv⟩ := vF_b (T := T) (f := tkF T t i) (tkT T t i - tkF T t i) h1.2 (fun j hj => ⟨hb _, hd j hj⟩)
  have hp : 10 ^ (tkT T t i - tkF T t i) ≤ 10 ^ 3 := Nat.pow_le_pow_right (by decide) h1.2
  unfold tkV
  rw [if_pos h1.1, hv, nI_toInt (by omega)]; omega
theorem td_all {P : Nat → Bool} : ∀ d i, tdB P i d = true → ∀ j, j < d → P (i + j) = true
  | 0, i, _, j, hj => absurd hj (Nat.not_lt_zero j)
  | d + 1, i, h, j, hj => by
    rw [td_cut] at h
    have h := (Bool.and_eq_true _ _).mp h
    by_cases q : j = 0
    · rw [q]; exact h.1
    · have := td_all d (i + 1) h.2 (j - 1) (by omega)
      rw [show i + 1 + (j - 1) = i + j by omega] at this
      exact this
theorem name_ch {T : Nat → Int32} {t i q : Nat} (hq : 2 ≤ jsL.getD q 0) (h : nameB T t i q = true) : tkT T t i - tkF T t i = jsL.getD q 0 ∧ T (tkF T t i) = nI (jsC q 0) ∧ T (tkF T t i + 1) = nI (jsC q 1) := by
  unfold nameB at h
  have h := (Bool.and_eq_true _ _).mp h
  have h2 := (Bool.and_eq_true _ _).mp h.2
  have h3 := td_all _ _ h2.2
  have e0 := of_decide_eq_true (h3 0 (by omega))
  have e1 := of_decide_eq_true (h3 1 (by omega))
  exact ⟨of_decide_eq_true h2.1, e0, e1⟩
theorem js_dis : ∀ q, q < 4 → ∀ p, p < 10 → 4 ≤ p → (2 ≤ jsL.getD q 0 ∧ 2 ≤ jsL.getD p 0 ∧ ¬ (jsL.getD q 0 = jsL.getD p 0 ∧ nI (jsC q 0) = nI (jsC p 0) ∧ nI (jsC q 1) = nI (jsC p 1))) := by decide +kernel
theorem name_dis {T : Nat → Int32} {t i q p : Nat} (hq : q < 4) (hp : p < 10) (h4 : 4 ≤ p) (h : nameB T t i q = true) : nameB T t i p = false := by
  have hd := js_dis q hq p hp h4
  have h1 := name_ch hd.1 h
  cases hc : nameB T t i p with
  | false => rfl
  | true =>
    have h2 := name_ch hd.2.1 hc
    exact absurd ⟨h1.1.symm.trans h2.1, h1.2.1.symm.trans h2.2.1, h1.2.2.symm.trans h2.2.2⟩ hd.2.2
theorem ki_eq {T : Nat → Int32} {t i : Nat} (hi : i ≤ t) : kiF T t i = kiC T t i := by
  unfold kiF kiC
  rw [nm_4 hi, nm_5 hi, nm_6 hi, nm_7 hi, nm_8 hi, nm_9 hi]
theorem la_eq {T : Nat → Int32} {t i : Nat} (hi : i ≤ t) : (laC T t i = -1 ∧ laF T t i = -1) ∨ ∃ a, a < 4 ∧ laC T t i = nI a ∧ laF T t i = nI (4 + a) ∧ kiC T t i = -1 := by
  have hk : ∀ q, q < 4 → nameB T t i q = true → kiC T t i = -1 := fun q hq h => by
    unfold kiC
    rw [name_dis hq (p := 4) (by decide) (by decide) h, name_dis hq (p := 5) (by decide) (by decide) h, name_dis hq (p := 6) (by decide) (by decide) h, name_dis hq (p := 7) (by decide) (by decide) h, name_dis hq (p := 8) (by decide) (by decide) h, name_dis hq (p := 9) (by decide) (by decide) h]
    rfl
  unfold laC laF
  rw [← nm_0 hi, ← nm_1 hi, ← nm_2 hi, ← nm_3 hi]
  by_cases c0 : nameB T t i 0 = true
  · rw [if_pos c0, if_pos c0]; exact Or.inr ⟨0, by decide, rfl, rfl, hk 0 (by decide) c0⟩
  rw [if_neg c0, if_neg c0]
  by_cases c1 : nameB T t i 1 = true
  · rw [if_pos c1, if_pos c1]; exact Or.inr ⟨1, by decide, rfl, rfl, hk 1 (by decide) c1⟩
  rw [if_neg c1, if_neg c1]
  by_cases c2 : nameB T t i 2 = true
  · rw [if_pos c2, if_pos c2]; exact Or.inr ⟨2, by decide, rfl, rfl, hk 2 (by decide) c2⟩
  rw [if_neg c2, if_neg c2]
  by_cases c3 : nameB T t i 3 = true
  · rw [if_pos c3, if_pos c3]; exact Or.inr ⟨3, by decide, rfl, rfl, hk 3 (by decide) c3⟩
  rw [if_neg c3, if_neg c3]
  exact Or.inl ⟨rfl, rfl⟩
def RowZ (n : Nat) (z : Int32) (a b : Nat → Int32) : Prop := RowR n (upd a 2 z) b ∧ ∀ j, 8 + 5 * n ≤ j → b j = 0
def PR (n : Nat) (z : Int32) (c r : PS) : Prop := c.1 = r.1 ∧ c.2.1 = r.2.1 ∧ (c.1 = false → RowZ n z c.2.2 r.2.2)
theorem RowZ.n0 {n : Nat} {z : Int32} {a b : Nat → Int32} (h : RowZ n z a b) : n ≤ 8 ∧ a 0 = nI n ∧ b 0 = nI n := ⟨h.1.hn, by have := h.1.h0; rw [upd_ne (by decide)] at this; exact this, h.1.h0'⟩
theorem RowZ.up {n k : Nat} {z x : Int32} {a b : Nat → Int32} (hk : k ≠ 2) (h : RowZ n z a b) (hr : RowR n (upd (upd a 2 z) k x) (upd b k x)) (hlt : k < 8 + 5 * n) : RowZ n z (upd a k x) (upd b k x) := by
  refine ⟨by rw [upd_comm hk]; exact hr, fun j hj => ?_⟩
  rw [upd_ne (by omega)]; exact h.2 j hj
section PRS
variable {T : Nat → Int32} {t n : Nat} {z : Int32} {c r : PS}
theorem nd_R {b : Bool} (h : PR n z c r) : PR n z (ndS T t b c) (ndS T t b r) := by
  unfold ndS
  rw [← h.1]
  by_cases q : (c.1 || !b) = true
  · rw [if_pos q, if_pos q]
    exact ⟨rfl, h.2.1, fun e => by cases e⟩
  · rw [if_neg q, if_neg q]
    have hc : c.1 = false := by
      cases hs : c.1 with
      | false => rfl
      | true => rw [hs] at q; exact absurd rfl q
    exact ⟨rfl, by show tkT T t c.2.1 = tkT T t r.2.1; rw [h.2.1], fun _ => h.2.2 hc⟩
theorem nt_R {a : Nat} {v : Int32} (hb : ∀ j, 0 ≤ (T j).toInt ∧ (T j).toInt ≤ 255) (h : PR n z c r) (hu : ∀ x : Int32, 0 ≤ x.toInt → x.toInt ≤ v.toInt → RowZ n z c.2.2 r.2.2 → RowZ n z (upd c.2.2 a x) (upd r.2.2 a x)) : PR n z (ntS T t a v c) (ntS T t a v r) := by
  unfold ntS
  rw [← h.1, ← h.2.1]
  refine nd_R ⟨rfl, rfl, fun hc => ?_⟩
  show RowZ n z (if nbB T t c.2.1 v = true then (if c.1 = true then c.2.2 else upd c.2.2 a (tkV T t c.2.1)) else c.2.2) (if nbB T t c.2.1 v = true then (if c.1 = true then r.2.2 else upd r.2.2 a (tkV T t c.2.1)) else r.2.2)
  have hc : c.1 = false := hc
  by_cases q : nbB T t c.2.1 v = true
  · rw [if_pos q, if_pos q, if_neg (by rw [hc]; decide), if_neg (by rw [hc]; decide)]
    have h3 := nb_rg hb q
    exact hu _ h3.1 h3.2 (h.2.2 hc)
  · rw [if_neg q, if_neg q]; exact h.2.2 hc
theorem nx_R (h : PR n z c r) : PR n z (nxS T t c) (nxS T t r) := ⟨h.1, by show tkT T t c.2.1 = tkT T t r.2.1; rw [h.2.1], h.2.2⟩
theorem ph_R {a : Nat} {v : Int32} {b b' : Bool} (hbb : b = b') (hb : ∀ j, 0 ≤ (T j).toInt ∧ (T j).toInt ≤ 255) (h : PR n z c r) (hu : ∀ x : Int32, 0 ≤ x.toInt → x.toInt ≤ v.toInt → RowZ n z c.2.2 r.2.2 → RowZ n z (upd c.2.2 a x) (upd r.2.2 a x)) : PR n z (phS T t b a v c) (phS T t b' a v r) := by
  subst hbb
  unfold phS
  rw [← h.1]
  by_cases q : c.1 = true
  · rw [if_pos q, if_pos q]; exact h
  · rw [if_neg q, if_neg q]
    by_cases q2 : b = true
    · rw [if_pos q2, if_pos q2]; exact nt_R hb (nx_R h) hu
    · rw [if_neg q2, if_neg q2]; exact h
theorem per_R {k : Int32} (hk : ¬ k < 0) (h : PR n z c r) (hc : c.1 = false) : ∃ n', PR n' z (pC0 T t n k c) (pn0 T t n k r) ∧ ((pC0 T t n k c).1 = false → n' = n + 1) := by
  have hz := h.2.2 hc
  have hr : r.1 = false := h.1.symm.trans hc
  by_cases h8 : n < 8
  · refine ⟨n + 1, ?_, fun _ => rfl⟩
    rw [pc_ok hk h8]
    have e : pn0 T t n k r = (false, tkT T t r.2.1, upd (upd (upd r.2.2 (8 + 5 * n) k) (8 + 5 * n + 4) 50) 0 (nI (n + 1))) := by
      unfold pn0
      rw [decide_eq_true h8, nd_t hr]
      exact if_neg (by simp)
    rw [e]
    have hzz := hz.2
    refine ⟨rfl, by show tkT T t c.2.1 = tkT T t r.2.1; rw [h.2.1], fun _ => ⟨?_, fun j hj => ?_⟩⟩
    · refine hz.1.per h8 (k := k) (t := 0) (w := 0) (x := 0) (y := 50) (by decide) (by decide) (by decide) (by decide) (fun j => ?_) (fun j hj => ?_)
      · show upd (perC n c.2.2 k) 2 z j = _
        have ep : perC n c.2.2 k j = perF n c.2.2 k 0 0 0 j := by
          unfold perC perF
          rfl
        by_cases q2 : j = 2
        · subst q2
          rw [upd_self, if_neg (by omega), if_neg (by omega), if_neg (by omega), if_neg (by omega), if_neg (by omega), if_neg (by omega), upd_self]
        · rw [upd_ne q2, ep, perF_at, upd_ne q2]
      · show upd (upd (upd r.2.2 (8 + 5 * n) k) (8 + 5 * n + 4) 50) 0 (nI (n + 1)) j = _
        by_cases c0 : j = 0
        · subst c0; rw [upd_self, if_pos rfl]
        rw [upd_ne c0, if_neg c0]
        by_cases c4 : j = 8 + 5 * n + 4
        · subst c4; rw [upd_self, if_pos rfl]
        rw [upd_ne c4, if_neg c4]
        by_cases c3 : j = 8 + 5 * n + 3
        · rw [if_pos c3, upd_ne (by omega)]; exact hzz j (by omega)
        rw [if_neg c3]
        by_cases c2 : j = 8 + 5 * n + 2
        · rw [if_pos c2, upd_ne (by omega)]; exact hzz j (by omega)
        rw [if_neg c2]
        by_cases c1 : j = 8 + 5 * n + 1
        · rw [if_pos c1, upd_ne (by omega)]; exact hzz j (by omega)
        rw [if_neg c1]
        by_cases cc : j = 8 + 5 * n
        · rw [if_pos cc]; subst cc; exact upd_self
        rw [if_neg cc, upd_ne cc]
    · show upd (upd (upd r.2.2 (8 + 5 * n) k) (8 + 5 * n + 4) 50) 0 (nI (n + 1)) j = 0
      rw [upd_ne (by omega), upd_ne (by omega), upd_ne (by omega)]; exact hzz j (by omega)
  · refine ⟨n, ?_, fun q => ?_⟩
    · rw [pc_fu h8]
      have e : pn0 T t n k r = (true, r.2) := by
        unfold pn0
        rw [decide_eq_false h8, nd_f]
        exact if_pos rfl
      rw [e]
      exact ⟨rfl, h.2.1, fun q => by cases q⟩
    · rw [pc_fu h8] at q; cases q
theorem pn_R {k : Int32} (hb : ∀ j, 0 ≤ (T j).toInt ∧ (T j).toInt ≤ 255) (hk : ¬ k < 0) (h : PR n z c r) (hc : c.1 = false) (hp : c.2.1 ≤ t) : ∃ n', PR n' z (pC4 T t n k c) (pnS T t n k r) := by
  obtain ⟨n', h0, hn'⟩ := per_R (T := T) (t := t) hk h hc
  by_cases hw : (pC0 T t n k c).1 = false
  · obtain rfl := hn' hw
    have p0 : (pC0 T t n k c).2.1 ≤ t := pC0_le hp
    have h1 : PR (n + 1) z (pC1 T t n k c) (pn1 T t n k r) := ph_R (by rw [← h0.2.1]; exact nm_10 p0) hb h0 (fun x x0 x1 q => q.up (by omega) (q.1.tr (Or.inl rfl) x0 x1) (by omega))
    have p1 : (pC1 T t n k c).2.1 ≤ t := pC1_le hp
    have h2 : PR (n + 1) z (pC2 T t n k c) (pn2 T t n k r) := ph_R (by rw [← h1.2.1]; exact nm_11 p1) hb h1 (fun x x0 x1 q => q.up (by omega) (q.1.tr (Or.inr rfl) x0 x1) (by omega))
    have p2 : (pC2 T t n k c).2.1 ≤ t := pC2_le hp
    have h3 : PR (n + 1) z (pC3 T t n k c) (pn3 T t n k r) := ph_R (by rw [← h2.2.1]; exact nm_12 p2) hb h2 (fun x x0 x1 q => q.up (by omega) (q.1.web x0 x1) (by omega))
    have p3 : (pC3 T t n k c).2.1 ≤ t := pC3_le hp
    exact ⟨n + 1, ph_R (by rw [← h3.2.1]; exact nm_13 p3) hb h3 (fun x x0 x1 q => q.up (by omega) (q.1.coins x0 (Int.le_trans x1 (by decide))) (by omega))⟩
  · have e1 := pc_0 hw
    have hw2 : (pn0 T t n k r).1 = true := by
      rw [← h0.1]
      cases hs : (pC0 T t n k c).1 with
      | false => exact absurd hs hw
      | true => rfl
    have e2 : pnS T t n k r = pn0 T t n k r := by
      have f1 : pn1 T t n k r = pn0 T t n k r := if_pos hw2
      have f2 : pn2 T t n k r = pn0 T t n k r := by
        have : pn2 T t n k r = pn1 T t n k r := if_pos (by rw [f1]; exact hw2)
        rw [this, f1]
      have f3 : pn3 T t n k r = pn0 T t n k r := by
        have : pn3 T t n k r = pn2 T t n k r := if_pos (by rw [f2]; exact hw2)
        rw [this, f2]
      have : pnS T t n k r = pn3 T t n k r := if_pos (by rw [f3]; exact hw2)
      rw [this, f3]
    rw [e1, e2]
    exact ⟨n', h0⟩
theorem tb4 : ∀ a, a < 4 → tbl1.getD a 0 = (if nI (4 + a) = 7 then 99 else 9) ∧ (tbl1.getD a 0).toInt = (if a = 3 then 99 else 9) := by decide +kernel
theorem ent_R (hb : ∀ j, 0 ≤ (T j).toInt ∧ (T j).toInt ≤ 255) (h : PR n z c r) (hc : c.1 = false) (hp : c.2.1 ≤ t) : ∃ n', PR n' z (eC1 T t n c) (it1 T t n r) := by
  have hp2 : r.2.1 ≤ t := by rw [← h.2.1]; exact hp
  have hr : r.1 = false := h.1.symm.trans hc
  have ek : kiF T t r.2.1 = kiC T t c.2.1 := by rw [ki_eq hp2, h.2.1]
  have ela := la_eq (T := T) hp2
  rw [← h.2.1] at ela
  rcases ela with ⟨l1, l2⟩ | ⟨a, ha, l1, l2, l3⟩
  · rw [ec_p (by rw [l1]; decide)]
    by_cases hk : kiC T t c.2.1 < 0
    · rw [pc_w (pc_lt hk), it_n (by rw [ek]; exact hk) (by rw [← h.2.1, l2]; decide), nd_f]
      exact ⟨n, rfl, h.2.1, fun q => by cases q⟩
    · rw [it_p (by rw [ek]; exact hk), ek]
      exact pn_R hb hk h hc hp
  · have hl : ¬ laC T t c.2.1 < 0 := by rw [l1]; exact nI_pos (by omega)
    rw [ec_l hl ha l1]
    have e : it1 T t n r = ntS T t (4 + a) (tbl1.getD a 0) (nxS T t r) := by
      refine (if_pos (by rw [ek, l3]; decide)).trans ((if_neg (by rw [← h.2.1, l2]; exact nI_pos (by omega))).trans ?_)
      rw [← h.2.1, l2, nI_clamp (by omega), (tb4 a ha).1]
    rw [e]
    refine ⟨n, nt_R hb (nx_R h) (fun x x0 x1 q => q.up (by omega) (q.1.law (t := a) (by omega) x0 ?_) (by omega))⟩
    rw [(tb4 a ha).2] at x1
    exact x1
theorem it_R (hb : ∀ j, 0 ≤ (T j).toInt ∧ (T j).toInt ≤ 255) (h : PR n z c r) (hc : c.1 = false) (hp : c.2.1 ≤ t) : ∃ n', PR n' z (itC T t n c) (itS T t n r) := by
  obtain ⟨n', h1⟩ := ent_R (T := T) (t := t) hb h hc hp
  refine ⟨n', ?_⟩
  unfold itC itS
  rw [← h1.2.1]
  exact nd_R h1
end PRS
theorem mF_R {T : Nat → Int32} {t : Nat} {z : Int32} (hb : ∀ j, 0 ≤ (T j).toInt ∧ (T j).toInt ≤ 255) : ∀ d n (c r : PS), PR n z c r → c.2.1 ≤ t → ∃ n', PR n' z (mCF T t d c) (mkF T t d r)
  | 0, n, c, r, h, _ => ⟨n, h⟩
  | d + 1, n, c, r, h, hp => by
    show ∃ n', PR n' z (if (!c.1 && !decide (tkK T t c.2.1 = 0)) = true then mCF T t d (itC T t (c.2.2 0).toNatClampNeg c) else c) (if (!r.1 && !decide (tkK T t r.2.1 = 0)) = true then mkF T t d (itK T t r) else r)
    rw [← h.1, ← h.2.1]
    by_cases q : (!c.1 && !decide (tkK T t c.2.1 = 0)) = true
    · rw [if_pos q, if_pos q]
      have hc : c.1 = false := by
        cases hs : c.1 with
        | false => rfl
        | true => rw [hs] at q; cases q
      have hz := (h.2.2 hc).n0
      obtain ⟨n', h1⟩ := it_R (T := T) (t := t) hb h hc hp
      have e : itK T t r = itS T t n r := by unfold itK; rw [hz.2.2, nI_clamp (by omega)]
      rw [e, hz.2.1, nI_clamp (by omega)]
      exact mF_R hb d n' _ _ h1 (itC_le hp)
    · rw [if_neg q, if_neg q]; exact ⟨n, h⟩
theorem bg_R {m : Nat → Int32} {z : Int32} : PR 0 z (false, 0, bfF m) (mk0 z) := by
  refine ⟨rfl, rfl, fun _ => ⟨⟨by decide, rfl, fun j hj => ?_, ⟨?_, fun o ho => absurd ho (Nat.not_lt_zero o)⟩, ?_, fun o ho => absurd ho (Nat.not_lt_zero o)⟩, fun j hj => ?_⟩⟩
  · have hc : j = 0 ∨ j = 1 ∨ j = 2 ∨ j = 3 ∨ j = 4 ∨ j = 5 ∨ j = 6 ∨ j = 7 := by omega
    rcases hc with rfl | rfl | rfl | rfl | rfl | rfl | rfl | rfl <;> rfl
  · have e4 : upd (bfF m) 2 z 4 = 2 := rfl
    have e6 : upd (bfF m) 2 z 6 = 0 := rfl
    show 0 ≤ (upd (bfF m) 2 z 4).toInt ∧ (upd (bfF m) 2 z 4).toInt ≤ 9 ∧ 0 ≤ (upd (bfF m) 2 z 6).toInt
    rw [e4, e6]; decide
  · have e7 : upd (bfF m) 2 z 7 = 20 := rfl
    show 0 ≤ (upd (bfF m) 2 z 7).toInt ∧ (upd (bfF m) 2 z 7).toInt ≤ 99
    rw [e7]; decide
  · show bgF z j = 0
    unfold bgF
    rw [upd_ne (by omega), upd_ne (by omega), upd_ne (by omega), upd_ne (by omega)]
theorem mS_R {T m : Nat → Int32} {t : Nat} {z : Int32} (hb : ∀ j, 0 ≤ (T j).toInt ∧ (T j).toInt ≤ 255) : ∃ n', PR n' z (mCS T t (bfF m)) (mkS T t z) := mF_R hb (t + 1) 0 _ _ bg_R (Nat.zero_le _)
