/-! ranges of all that is told: SLIP, TRUTH, WISH too -/
def rgX (n : Nat) (m : Nat → Int32) : Prop := (0 ≤ (m 7).toInt ∧ (m 7).toInt ≤ 99) ∧ ∀ o, o < n → (0 ≤ (m (8 + 5 * o + 1)).toInt ∧ (m (8 + 5 * o + 1)).toInt ≤ 99) ∧ 0 ≤ (m (8 + 5 * o + 2)).toInt ∧ (m (8 + 5 * o + 2)).toInt ≤ 99
theorem rX_of {n : Nat} {a b : Nat → Int32} (h : rgX n a) (h7 : b 7 = a 7) (ht : ∀ o, o < n → b (8 + 5 * o + 1) = a (8 + 5 * o + 1) ∧ b (8 + 5 * o + 2) = a (8 + 5 * o + 2)) : rgX n b :=
  ⟨by rw [h7]; exact h.1, fun o ho => by rw [(ht o ho).1, (ht o ho).2]; exact h.2 o ho⟩
theorem rX_upd {n k : Nat} {m : Nat → Int32} {v : Int32} (h : rgX n m) (h7 : k ≠ 7) (ht : ∀ o, k ≠ 8 + 5 * o + 1 ∧ k ≠ 8 + 5 * o + 2) : rgX n (upd m k v) :=
  rX_of h (upd_ne (Ne.symm h7)) (fun o _ => ⟨upd_ne (Ne.symm (ht o).1), upd_ne (Ne.symm (ht o).2)⟩)
theorem pay_tr {n o p k : Nat} {m : Nat → Int32} (hk : k < 3) : payF n m o (8 + 5 * p + k) = m (8 + 5 * p + k) := by
  unfold payF pay2 pay1; rw [upd_ne (by omega), upd_ne (by omega), upd_ne (by omega)]
theorem payN_tr {n p k : Nat} {m : Nat → Int32} (hk : k < 3) : ∀ i, payN n m i (8 + 5 * p + k) = m (8 + 5 * p + k)
  | 0 => rfl
  | i + 1 => by show payF n (payN n m i) i _ = _; rw [pay_tr hk, payN_tr hk i]
theorem frayN_tr {p k : Nat} {m : Nat → Int32} (hk : k < 3) : ∀ i, frayN m i (8 + 5 * p + k) = m (8 + 5 * p + k)
  | 0 => rfl
  | i + 1 => by show upd (frayN m i) (8 + 5 * i + 3) _ _ = _; rw [upd_ne (by omega), frayN_tr hk i]
theorem day_tr {n p k : Nat} {m : Nat → Int32} (hk : k < 3) : dayF n m (8 + 5 * p + k) = m (8 + 5 * p + k) := by
  unfold dayF; rw [upd_ne (by omega), frayN_tr hk]
  unfold payA; split
  · exact payN_tr hk n
  · rfl
theorem rX_day {n : Nat} {m : Nat → Int32} (h : rgX n m) : rgX n (dayF n m) :=
  rX_of h (dayF_lo n m 7 (by decide) (by decide) (by decide)) (fun o _ => ⟨day_tr (by decide), day_tr (by decide)⟩)
theorem rX_days {n : Nat} {m : Nat → Int32} (h : rgX n m) : ∀ k, rgX n (daysF n m k)
  | 0 => h
  | k + 1 => rX_day (rX_days h k)
theorem rX_dyS {n : Nat} {m : Nat → Int32} (h : rgX n m) : rgX n (dyS n m) := by
  have h2 : rgX n (drw (drw m)) := rX_upd (rX_upd h (by decide) (fun o => by omega)) (by decide) (fun o => by omega)
  unfold dyS slipF
  split
  · split
    · exact h2
    · exact rX_upd h2 (by omega) (fun o => by omega)
  · exact h
theorem rX_dayD {n : Nat} {m : Nat → Int32} (h : rgX n m) : rgX n (dayD n m) := rX_day (rX_dyS h)
theorem rX_chg {n o q : Nat} {m : Nat → Int32} (h : rgX n m) (ho : o < n) (hq : q < n) (hn : o ≠ q) : rgX n (chgF m o q 5) := by
  refine ⟨by rw [chg_at m o q hn 5 (by omega), if_neg (by omega), if_neg (by omega)]; exact h.1, fun p hp => ?_⟩
  rw [chg_at m o q hn 5 (by omega), chg_at m o q hn 5 (by omega)]
  by_cases h1 : p = q
  · subst h1
    rw [if_pos (by omega), if_pos (by omega), show 8 + 5 * o + (8 + 5 * p + 1 - (8 + 5 * p)) = 8 + 5 * o + 1 by omega, show 8 + 5 * o + (8 + 5 * p + 2 - (8 + 5 * p)) = 8 + 5 * o + 2 by omega]
    exact h.2 o ho
  · rw [if_neg (by omega), if_neg (show ¬ (8 + 5 * q ≤ 8 + 5 * p + 2 ∧ 8 + 5 * p + 2 < 8 + 5 * q + 5) by omega)]
    by_cases h2 : p = o
    · subst h2
      rw [if_pos (by omega), if_pos (by omega), show 8 + 5 * q + (8 + 5 * p + 1 - (8 + 5 * p)) = 8 + 5 * q + 1 by omega, show 8 + 5 * q + (8 + 5 * p + 2 - (8 + 5 * p)) = 8 + 5 * q + 2 by omega]
      exact h.2 q hq
    · rw [if_neg (by omega), if_neg (by omega)]; exact h.2 p hp
theorem rX_md {n o b : Nat} {m g : Nat → Int32} (h : rgX n m) : ∀ i, rgX n (mdN m g o b i)
  | 0 => h
  | i + 1 => rX_upd (rX_md h i) (by omega) (fun p => by omega)
theorem rg_md {n o b : Nat} {m g : Nat → Int32} (h : rgM n m) : ∀ i, rgM n (mdN m g o b i)
  | 0 => h
  | i + 1 => rg_web (rg_md h i) (heldI_rg _).1 (heldI_rg _).2
theorem md_0 {n o b : Nat} {m g : Nat → Int32} (h : m 0 = nI n) : ∀ i, mdN m g o b i 0 = nI n
  | 0 => h
  | i + 1 => upd_0 (by omega) (md_0 h i)
theorem in_int {x lo hi : Int32} (h : inB x lo hi = true) : lo.toInt ≤ x.toInt ∧ x.toInt ≤ hi.toInt := by
  have h := of_decide_eq_true h
  rw [Int32.lt_iff_toInt_lt, Int32.lt_iff_toInt_lt] at h
  omega
/-- two rows that say the same market -/
abbrev RowR (n : Nat) (a b : Nat → Int32) : Prop := (n ≤ 8) ∧ (a 0 = nI n) ∧ (eqM n a b) ∧ (rgM n a) ∧ (rgX n a)
theorem RowR.hn {n : Nat} {a b : Nat → Int32} (h : RowR n a b) : n ≤ 8 := h.1
theorem RowR.h0 {n : Nat} {a b : Nat → Int32} (h : RowR n a b) : a 0 = nI n := h.2.1
theorem RowR.em {n : Nat} {a b : Nat → Int32} (h : RowR n a b) : eqM n a b := h.2.2.1
theorem RowR.rg {n : Nat} {a b : Nat → Int32} (h : RowR n a b) : rgM n a := h.2.2.2.1
theorem RowR.rx {n : Nat} {a b : Nat → Int32} (h : RowR n a b) : rgX n a := h.2.2.2.2
theorem RowR.h0' {n : Nat} {a b : Nat → Int32} (h : RowR n a b) : b 0 = nI n := (h.em.lo 0 (by decide)).symm.trans h.h0
theorem RowR.r7 {n : Nat} {a b : Nat → Int32} (h : RowR n a b) : ∃ c0 : Nat, c0 ≤ 99 ∧ a 7 = nI c0 ∧ b 7 = nI c0 := by
  obtain ⟨c0, h1, h2⟩ := nat_of h.rx.1.1
  have := h.rx.1.2
  exact ⟨c0, by omega, h1, (h.em.lo 7 (by decide)).symm.trans h1⟩
section RR
variable {n : Nat} {a b : Nat → Int32}
theorem RowR.days (h : RowR n a b) (k : Nat) : RowR n (daysF n a k) (daysF n b k) := ⟨h.hn, daysF_0 h.h0, em_days h.em k, rg_days h.rg k, rX_days h.rx k⟩
theorem RowR.dd (h : RowR n a b) : RowR n (dayD n a) (dayD n b) := ⟨h.hn, dayD_0 h.h0, em_dayD h.em, rg_dayD h.rg, rX_dayD h.rx⟩
theorem RowR.z (h : RowR n a b) {v : Int32} : RowR n (upd a 2 v) (upd b 2 v) := ⟨h.hn, upd_0 (by decide) h.h0, h.em.upd, rg_z h.rg, rX_upd h.rx (by decide) (fun o => by omega)⟩
theorem RowR.web (h : RowR n a b) {o : Nat} {v : Int32} (h1 : 0 ≤ v.toInt) (h2 : v.toInt ≤ 99) : RowR n (upd a (8 + 5 * o + 3) v) (upd b (8 + 5 * o + 3) v) := ⟨h.hn, upd_0 (by omega) h.h0, h.em.upd, rg_web h.rg h1 h2, rX_upd h.rx (by omega) (fun p => by omega)⟩
theorem RowR.kind (h : RowR n a b) {o : Nat} {v : Int32} : RowR n (upd a (8 + 5 * o) v) (upd b (8 + 5 * o) v) := ⟨h.hn, upd_0 (by omega) h.h0, h.em.upd, rg_at0 h.rg, rX_upd h.rx (by omega) (fun p => by omega)⟩
theorem RowR.tr (h : RowR n a b) {o k : Nat} {v : Int32} (hk : k = 1 ∨ k = 2) (h1 : 0 ≤ v.toInt) (h2 : v.toInt ≤ 99) : RowR n (upd a (8 + 5 * o + k) v) (upd b (8 + 5 * o + k) v) := by
  refine ⟨h.hn, upd_0 (by omega) h.h0, h.em.upd, rg_at (by omega) h.rg, ?_, fun p hp => ?_⟩
  · rw [upd_ne (by omega)]; exact h.rx.1
  · have h3 := h.rx.2 p hp
    rcases hk with rfl | rfl
    · rw [upd_ne (show 8 + 5 * p + 2 ≠ 8 + 5 * o + 1 by omega)]
      refine ⟨?_, h3.2⟩
      by_cases q : p = o
      · subst q; rw [upd_self]; exact ⟨h1, h2⟩
      · rw [upd_ne (by omega)]; exact h3.1
    · rw [upd_ne (show 8 + 5 * p + 1 ≠ 8 + 5 * o + 2 by omega)]
      refine ⟨h3.1, ?_⟩
      by_cases q : p = o
      · subst q; rw [upd_self]; exact ⟨h1, h2⟩
      · rw [upd_ne (by omega)]; exact h3.2
theorem RowR.coins (h : RowR n a b) {o : Nat} {v : Int32} (h1 : 0 ≤ v.toInt) (h2 : v.toInt ≤ 9999) : RowR n (upd a (8 + 5 * o + 4) v) (upd b (8 + 5 * o + 4) v) := by
  refine ⟨h.hn, upd_0 (by omega) h.h0, h.em.upd, ⟨by rw [upd_ne (by omega), upd_ne (by omega)]; exact h.rg.1, fun p hp => ?_⟩, rX_upd h.rx (by omega) (fun p => by omega)⟩
  rw [upd_ne (show 8 + 5 * p + 3 ≠ 8 + 5 * o + 4 by omega)]
  refine ⟨(h.rg.2 p hp).1, ?_⟩
  by_cases q : p = o
  · subst q; rw [upd_self]; exact ⟨h1, h2⟩
  · rw [upd_ne (by omega)]; exact (h.rg.2 p hp).2
theorem RowR.law (h : RowR n a b) {t : Nat} {v : Int32} (ht : t ≤ 3) (h1 : 0 ≤ v.toInt) (h2 : v.toInt ≤ (if t = 3 then 99 else 9)) : RowR n (upd a (4 + t) v) (upd b (4 + t) v) := by
  refine ⟨h.hn, upd_0 (by omega) h.h0, h.em.upd, ⟨?_, fun p hp => ?_⟩, ?_, fun p hp => ?_⟩
  · have hc : t = 0 ∨ t = 1 ∨ t = 2 ∨ t = 3 := by omega
    have h3 := h.rg.1
    rcases hc with rfl | rfl | rfl | rfl
    · rw [upd_self, upd_ne (by decide)]; exact ⟨h1, h2, h3.2.2⟩
    · rw [upd_ne (by decide), upd_ne (by decide)]; exact h3
    · rw [upd_self, upd_ne (by decide)]; exact ⟨h3.1, h3.2.1, h1⟩
    · rw [upd_ne (by decide), upd_ne (by decide)]; exact h3
  · rw [upd_ne (by omega), upd_ne (by omega)]; exact h.rg.2 p hp
  · by_cases q : t = 3
    · subst q; rw [upd_self]; exact ⟨h1, h2⟩
    · rw [upd_ne (by omega)]; exact h.rx.1
  · rw [upd_ne (by omega), upd_ne (by omega)]; exact h.rx.2 p hp
theorem RowR.chg (h : RowR n a b) {o q : Nat} (ho : o < n) (hq : q < n) (hd : o ≠ q) : RowR n (chgF a o q 5) (chgF b o q 5) := ⟨h.hn, chgF_0 h.h0 5, em_chg h.em ho hq 5 (Nat.le_refl _), rg_chg h.rg ho hq hd, rX_chg h.rx ho hq hd⟩
theorem RowR.md (h : RowR n a b) {g : Nat → Int32} {o p : Nat} (k : Nat) : RowR n (mdN a g o p k) (mdN b g o p k) := ⟨h.hn, md_0 h.h0 k, em_md h.em k, rg_md h.rg k, rX_md h.rx k⟩
/-- one more: all that is told of them is within its range -/
theorem RowR.per (h : RowR n a b) (h8 : n < 8) {k t w x y : Int32} (ht : 0 ≤ t.toInt ∧ t.toInt ≤ 99) (hw : 0 ≤ w.toInt ∧ w.toInt ≤ 99) (hx : 0 ≤ x.toInt ∧ x.toInt ≤ 99) (hy : 0 ≤ y.toInt ∧ y.toInt ≤ 9999) {a' b' : Nat → Int32}
    (ha : ∀ j, a' j = if j = 0 then nI (n + 1) else if j = 8 + 5 * n + 4 then y else if j = 8 + 5 * n + 3 then x else if j = 8 + 5 * n + 2 then w else if j = 8 + 5 * n + 1 then t else if j = 8 + 5 * n then k else a j)
    (hb : ∀ j, j < 8 + 5 * (n + 1) → b' j = if j = 0 then nI (n + 1) else if j = 8 + 5 * n + 4 then y else if j = 8 + 5 * n + 3 then x else if j = 8 + 5 * n + 2 then w else if j = 8 + 5 * n + 1 then t else if j = 8 + 5 * n then k else b j) : RowR (n + 1) a' b' := by
  have hlo : ∀ j, 0 < j → j < 8 + 5 * n → a' j = a j := fun j h1 h2 => by rw [ha, if_neg (by omega), if_neg (by omega), if_neg (by omega), if_neg (by omega), if_neg (by omega), if_neg (by omega)]
  have e1 : a' (8 + 5 * n + 1) = t := by rw [ha, if_neg (by omega), if_neg (by omega), if_neg (by omega), if_neg (by omega), if_pos rfl]
  have e2 : a' (8 + 5 * n + 2) = w := by rw [ha, if_neg (by omega), if_neg (by omega), if_neg (by omega), if_pos rfl]
  have e3 : a' (8 + 5 * n + 3) = x := by rw [ha, if_neg (by omega), if_neg (by omega), if_pos rfl]
  have e4 : a' (8 + 5 * n + 4) = y := by rw [ha, if_neg (by omega), if_pos rfl]
  refine ⟨h8, by rw [ha, if_pos rfl], fun j hj => ?_, ⟨?_, fun p hp => ?_⟩, ?_, fun p hp => ?_⟩
  · rw [ha, hb j hj]
    by_cases c0 : j = 0
    · rw [if_pos c0, if_pos c0]
    rw [if_neg c0, if_neg c0]
    by_cases c4 : j = 8 + 5 * n + 4
    · rw [if_pos c4, if_pos c4]
    rw [if_neg c4, if_neg c4]
    by_cases c3 : j = 8 + 5 * n + 3
    · rw [if_pos c3, if_pos c3]
    rw [if_neg c3, if_neg c3]
    by_cases c2 : j = 8 + 5 * n + 2
    · rw [if_pos c2, if_pos c2]
    rw [if_neg c2, if_neg c2]
    by_cases c1 : j = 8 + 5 * n + 1
    · rw [if_pos c1, if_pos c1]
    rw [if_neg c1, if_neg c1]
    by_cases c : j = 8 + 5 * n
    · rw [if_pos c, if_pos c]
    rw [if_neg c, if_neg c]
    exact h.em j (by omega)
  · rw [hlo 4 (by decide) (by omega), hlo 6 (by decide) (by omega)]; exact h.rg.1
  · by_cases q : p = n
    · subst q; rw [e3, e4]; exact ⟨hx, hy⟩
    · rw [hlo _ (by omega) (by omega), hlo _ (by omega) (by omega)]; exact h.rg.2 p (by omega)
  · rw [hlo 7 (by decide) (by omega)]; exact h.rx.1
  · by_cases q : p = n
    · subst q; rw [e1, e2]; exact ⟨ht, hw⟩
    · rw [hlo _ (by omega) (by omega), hlo _ (by omega) (by omega)]; exact h.rx.2 p (by omega)
theorem perF_at {m : Nat → Int32} {k t w x : Int32} (j : Nat) : perF n m k t w x j = if j = 0 then nI (n + 1) else if j = 8 + 5 * n + 4 then 50 else if j = 8 + 5 * n + 3 then x else if j = 8 + 5 * n + 2 then w else if j = 8 + 5 * n + 1 then t else if j = 8 + 5 * n then k else m j := by
  unfold perF
  by_cases c0 : j = 0
  · subst c0; rw [upd_self, if_pos rfl]
  rw [upd_ne c0, if_neg c0]
  by_cases c4 : j = 8 + 5 * n + 4
  · subst c4; rw [upd_self, if_pos rfl]
  rw [upd_ne c4, if_neg c4]
  by_cases c3 : j = 8 + 5 * n + 3
  · subst c3; rw [upd_self, if_pos rfl]
  rw [upd_ne c3, if_neg c3]
  by_cases c2 : j = 8 + 5 * n + 2
  · subst c2; rw [upd_self, if_pos rfl]
  rw [upd_ne c2, if_neg c2]
  by_cases c1 : j = 8 + 5 * n + 1
  · subst c1; rw [upd_self, if_pos rfl]
  rw [upd_ne c1, if_neg c1]
  by_cases c : j = 8 + 5 * n
  · subst c; rw [upd_self, if_pos rfl]
  rw [upd_ne c, if_neg c]
end RR
/-- all that the two hold, held against each other -/
abbrev Rel (σ τ : Nat → Nat → Int32) : Prop := (∃ n, RowR n (σ 0) (τ 0)) ∧ (σ 4 0 = τ 4 0) ∧ (¬ σ 4 0 = 0 → ∃ n, RowR n (σ 1) (τ 1)) ∧ (σ 5 = τ 5) ∧ (∀ j, 0 ≤ (σ 5 j).toInt ∧ (σ 5 j).toInt ≤ 255) ∧ (∃ t : Nat, t ≤ 200 ∧ σ 6 0 = nI t ∧ τ 6 0 = nI t) ∧ (σ 13 = τ 13) ∧ (∃ y : Nat, y ≤ 10 ∧ σ 14 0 = nI y ∧ τ 14 0 = nI y) ∧ (σ 15 = τ 15) ∧ (σ 16 = τ 16) ∧ (σ 17 = τ 17) ∧ (∀ t : Nat, t < 4 → ∃ z : Nat, z ≤ 40 ∧ σ 16 t = nI z) ∧ (∀ t : Nat, t < 4 → -1 ≤ (σ 15 t).toInt) ∧ (σ 18 = τ 18) ∧ (∀ g : Nat, σ 18 g = 0 ∨ σ 18 g = 1 ∨ σ 18 g = 2) ∧ (∀ g : Nat, σ 18 g = 1 → σ 19 g = τ 19 g) ∧ (∀ g : Nat, σ 18 g = 2 → σ 19 g = τ 20 g ∧ σ 20 g = τ 19 g ∧ 0 ≤ (σ 20 g).toInt) ∧ (σ 21 = τ 21) ∧ (∃ r : Nat, r ≤ 30 ∧ σ 22 0 = nI r ∧ τ 22 0 = nI r)
theorem Rel.row {σ τ : Nat → Nat → Int32} (h : Rel σ τ) : ∃ n, RowR n (σ 0) (τ 0) := h.1
theorem Rel.fl {σ τ : Nat → Nat → Int32} (h : Rel σ τ) : σ 4 0 = τ 4 0 := h.2.1
theorem Rel.kept {σ τ : Nat → Nat → Int32} (h : Rel σ τ) : ¬ σ 4 0 = 0 → ∃ n, RowR n (σ 1) (τ 1) := h.2.2.1
theorem Rel.txt {σ τ : Nat → Nat → Int32} (h : Rel σ τ) : σ 5 = τ 5 := h.2.2.2.1
theorem Rel.byt {σ τ : Nat → Nat → Int32} (h : Rel σ τ) : ∀ j, 0 ≤ (σ 5 j).toInt ∧ (σ 5 j).toInt ≤ 255 := h.2.2.2.2.1
theorem Rel.tap {σ τ : Nat → Nat → Int32} (h : Rel σ τ) : ∃ t : Nat, t ≤ 200 ∧ σ 6 0 = nI t ∧ τ 6 0 = nI t := h.2.2.2.2.2.1
theorem Rel.rows {σ τ : Nat → Nat → Int32} (h : Rel σ τ) : σ 13 = τ 13 := h.2.2.2.2.2.2.1
theorem Rel.rowN {σ τ : Nat → Nat → Int32} (h : Rel σ τ) : ∃ y : Nat, y ≤ 10 ∧ σ 14 0 = nI y ∧ τ 14 0 = nI y := h.2.2.2.2.2.2.2.1
theorem Rel.so {σ τ : Nat → Nat → Int32} (h : Rel σ τ) : σ 15 = τ 15 := h.2.2.2.2.2.2.2.2.1
theorem Rel.si {σ τ : Nat → Nat → Int32} (h : Rel σ τ) : σ 16 = τ 16 := h.2.2.2.2.2.2.2.2.2.1
theorem Rel.nu {σ τ : Nat → Nat → Int32} (h : Rel σ τ) : σ 17 = τ 17 := h.2.2.2.2.2.2.2.2.2.2.1
theorem Rel.siz {σ τ : Nat → Nat → Int32} (h : Rel σ τ) : ∀ t : Nat, t < 4 → ∃ z : Nat, z ≤ 40 ∧ σ 16 t = nI z := h.2.2.2.2.2.2.2.2.2.2.2.1
theorem Rel.sor {σ τ : Nat → Nat → Int32} (h : Rel σ τ) : ∀ t : Nat, t < 4 → -1 ≤ (σ 15 t).toInt := h.2.2.2.2.2.2.2.2.2.2.2.2.1
theorem Rel.hol {σ τ : Nat → Nat → Int32} (h : Rel σ τ) : σ 18 = τ 18 := h.2.2.2.2.2.2.2.2.2.2.2.2.2.1
theorem Rel.ho3 {σ τ : Nat → Nat → Int32} (h : Rel σ τ) : ∀ g : Nat, σ 18 g = 0 ∨ σ 18 g = 1 ∨ σ 18 g = 2 := h.2.2.2.2.2.2.2.2.2.2.2.2.2.2.1
theorem Rel.sh1 {σ τ : Nat → Nat → Int32} (h : Rel σ τ) : ∀ g : Nat, σ 18 g = 1 → σ 19 g = τ 19 g := h.2.2.2.2.2.2.2.2.2.2.2.2.2.2.2.1
theorem Rel.sh2 {σ τ : Nat → Nat → Int32} (h : Rel σ τ) : ∀ g : Nat, σ 18 g = 2 → σ 19 g = τ 20 g ∧ σ 20 g = τ 19 g ∧ 0 ≤ (σ 20 g).toInt := h.2.2.2.2.2.2.2.2.2.2.2.2.2.2.2.2.1
theorem Rel.bod {σ τ : Nat → Nat → Int32} (h : Rel σ τ) : σ 21 = τ 21 := h.2.2.2.2.2.2.2.2.2.2.2.2.2.2.2.2.2.1
theorem Rel.ran {σ τ : Nat → Nat → Int32} (h : Rel σ τ) : ∃ r : Nat, r ≤ 30 ∧ σ 22 0 = nI r ∧ τ 22 0 = nI r := h.2.2.2.2.2.2.2.2.2.2.2.2.2.2.2.2.2.2
