/-! rows that agree as far as there are people -/
def eqM (n : Nat) (a b : Nat → Int32) : Prop := ∀ j, j < 8 + 5 * n → a j = b j
section EM
variable {n : Nat} {a b : Nat → Int32}
theorem eqM.upd (h : eqM n a b) {k : Nat} {x : Int32} : eqM n (upd a k x) (upd b k x) := fun j hj => by
  by_cases q : j = k
  · subst q; rw [upd_self, upd_self]
  · rw [upd_ne q, upd_ne q]; exact h j hj
theorem eqM.lo (h : eqM n a b) (j : Nat) (hj : j < 8) : a j = b j := h j (by omega)
theorem eqM.at (h : eqM n a b) {o : Nat} (ho : o < n) (k : Nat) (hk : k < 5) : a (8 + 5 * o + k) = b (8 + 5 * o + k) := h _ (by omega)
theorem eqM.at0 (h : eqM n a b) {o : Nat} (ho : o < n) : a (8 + 5 * o) = b (8 + 5 * o) := h _ (by omega)
theorem eqM.symm (h : eqM n a b) : eqM n b a := fun j hj => (h j hj).symm
theorem em_wears (h : eqM n a b) {o : Nat} (ho : o < n) : wearsF a o = wearsF b o := by
  unfold wearsF; rw [h.at0 ho, h.at ho 3 (by decide), h.at ho 2 (by decide), h.lo 4 (by decide)]
theorem em_sees (h : eqM n a b) {o q : Nat} (ho : o < n) (hq : q < n) : seesF a o q = seesF b o q := by
  unfold seesF; rw [em_wears h ho, h.at hq 1 (by decide), h.at ho 2 (by decide)]
theorem em_offers (h : eqM n a b) {o q : Nat} (ho : o < n) (hq : q < n) : offersF a o q = offersF b o q := by
  unfold offersF; rw [em_sees h ho hq, h.at0 ho, h.lo 4 (by decide)]
theorem em_frays (h : eqM n a b) {o : Nat} (ho : o < n) : fraysF a o = fraysF b o := by
  unfold fraysF; rw [h.at0 ho, h.lo 5 (by decide), h.lo 4 (by decide), h.lo 1 (by decide)]
theorem em_paid (h : eqM n a b) {o q : Nat} (ho : o < n) (hq : q < n) : paidF a o q = paidF b o q := by
  unfold paidF; rw [em_offers h ho hq, h.at ho 4 (by decide)]
theorem em_toll (h : eqM n a b) {o q : Nat} (ho : o < n) (hq : q < n) : tollF a o q = tollF b o q := by
  unfold tollF; rw [em_paid h ho hq, h.lo 6 (by decide)]
theorem em_pay1 (h : eqM n a b) {o q : Nat} (ho : o < n) (hq : q < n) : eqM n (pay1 a o q) (pay1 b o q) := by
  unfold pay1; rw [em_paid h ho hq, h.at ho 4 (by decide)]; exact h.upd
theorem em_pay2 (h : eqM n a b) {o q : Nat} (ho : o < n) (hq : q < n) : eqM n (pay2 a o q) (pay2 b o q) := by
  unfold pay2; rw [(em_pay1 h ho hq).lo 3 (by decide), em_toll h ho hq]; exact (em_pay1 h ho hq).upd
theorem em_pay (h : eqM n a b) {o : Nat} (ho : o < n) : eqM n (payF n a o) (payF n b o) := by
  have hq : nxtO n o < n := nxtO_lt (by omega)
  unfold payF; rw [(em_pay2 h ho hq).at hq 4 (by decide), em_toll h ho hq, em_paid h ho hq]; exact (em_pay2 h ho hq).upd
theorem em_payN (h : eqM n a b) : ∀ i, i ≤ n → eqM n (payN n a i) (payN n b i)
  | 0, _ => h
  | i + 1, hi => em_pay (em_payN h i (by omega)) (by omega)
theorem em_frayN (h : eqM n a b) : ∀ i, i ≤ n → eqM n (frayN a i) (frayN b i)
  | 0, _ => h
  | i + 1, hi => by
    have h1 := em_frayN h i (by omega)
    have hi2 : i < n := by omega
    show eqM n (upd (frayN a i) (8 + 5 * i + 3) (heldI (frayN a i (8 + 5 * i + 3) - fraysF (frayN a i) i))) (upd (frayN b i) (8 + 5 * i + 3) (heldI (frayN b i (8 + 5 * i + 3) - fraysF (frayN b i) i)))
    rw [h1.at hi2 3 (by decide), em_frays h1 hi2]; exact h1.upd
theorem em_payA (h : eqM n a b) : eqM n (payA n a) (payA n b) := by
  unfold payA; split
  · exact em_payN h n (Nat.le_refl _)
  · exact h
theorem em_day (h : eqM n a b) : eqM n (dayF n a) (dayF n b) := by
  have h1 := em_frayN (em_payA h) n (Nat.le_refl _)
  unfold dayF; rw [h1.lo 1 (by decide)]; exact h1.upd
theorem em_days (h : eqM n a b) : ∀ k, eqM n (daysF n a k) (daysF n b k)
  | 0 => h
  | k + 1 => em_day (em_days h k)
theorem em_sum (h : eqM n a b) {k : Nat} (hk : k < 5) : ∀ i, i ≤ n → sumF a k i = sumF b k i
  | 0, _ => rfl
  | i + 1, hi => by
    show sumF a k i + a (8 + 5 * i + k) = sumF b k i + b (8 + 5 * i + k)
    rw [em_sum h hk i (by omega), h.at (show i < n by omega) k hk]
theorem em_zF (h : eqM n a b) : zF a = zF b := by unfold zF; rw [h.lo 2 (by decide)]
theorem em_drF (h : eqM n a b) : drF a = drF b := by unfold drF; rw [em_zF h]
theorem em_drw (h : eqM n a b) : eqM n (drw a) (drw b) := by unfold drw; rw [em_zF h]; exact h.upd
theorem em_dyS (h : eqM n a b) : eqM n (dyS n a) (dyS n b) := by
  have h1 := em_drw h
  have h2 := em_drw h1
  unfold dyS slipF
  rw [h2.lo 7 (by decide), em_drF h1, em_drF h]
  split
  · split
    · exact h2
    · exact h2.upd
  · exact h
theorem em_dayD (h : eqM n a b) : eqM n (dayD n a) (dayD n b) := em_day (em_dyS h)
theorem em_lkZ (h : eqM n a b) : ∀ k, lkZ n a k = lkZ n b k
  | 0 => h.lo 2 (by decide)
  | k + 1 => by
    show dayD n (upd a 2 (lkZ n a k)) 2 = dayD n (upd b 2 (lkZ n b k)) 2
    rw [em_lkZ h k]; exact (em_dayD h.upd).lo 2 (by decide)
theorem em_lkC (h : eqM n a b) {o : Nat} (ho : o < n) {d : Int32} : ∀ k, lkC n a o d k = lkC n b o d k
  | 0 => rfl
  | k + 1 => by
    show lkC n a o d k + (if d < dayD n (upd a 2 (lkZ n a k)) (8 + 5 * o + 4) then 1 else 0) = lkC n b o d k + (if d < dayD n (upd b 2 (lkZ n b k)) (8 + 5 * o + 4) then 1 else 0)
    rw [em_lkC h ho k, em_lkZ h k, (em_dayD h.upd).at ho 4 (by decide)]
theorem em_on (h : eqM n a b) : ∀ i, i ≤ n → onF a i = onF b i
  | 0, _ => rfl
  | i + 1, hi => by
    show onF a i ||| (if a (8 + 5 * i + 3) = 0 then bitI i else 0) = onF b i ||| (if b (8 + 5 * i + 3) = 0 then bitI i else 0)
    rw [em_on h i (by omega), h.at (show i < n by omega) 3 (by decide)]
theorem em_onN (h : eqM n a b) : ∀ i, i ≤ n → onN a i = onN b i
  | 0, _ => rfl
  | i + 1, hi => by
    show onN a i + (if a (8 + 5 * i + 3) = 0 then 2 ^ i else 0) = onN b i + (if b (8 + 5 * i + 3) = 0 then 2 ^ i else 0)
    rw [em_onN h i (by omega), h.at (show i < n by omega) 3 (by decide)]
theorem em_fair (h : eqM n a b) {o : Nat} (ho : o < n) : ∀ q, q ≤ n → fairF a o q = fairF b o q
  | 0, _ => rfl
  | q + 1, hi => by
    show fairF a o q ||| (if ¬ q = o ∧ offersF a o q = offersF a q o then bitI q else 0) = fairF b o q ||| (if ¬ q = o ∧ offersF b o q = offersF b q o then bitI q else 0)
    rw [em_fair h ho q (by omega), em_offers h ho (show q < n by omega), em_offers h (show q < n by omega) ho]
theorem em_fairN (h : eqM n a b) {o : Nat} (ho : o < n) : ∀ q, q ≤ n → fairN a o q = fairN b o q
  | 0, _ => rfl
  | q + 1, hi => by
    show fairN a o q + (if ¬ q = o ∧ offersF a o q = offersF a q o then 2 ^ q else 0) = fairN b o q + (if ¬ q = o ∧ offersF b o q = offersF b q o then 2 ^ q else 0)
    rw [em_fairN h ho q (by omega), em_offers h ho (show q < n by omega), em_offers h (show q < n by omega) ho]
theorem em_f2S (h : eqM n a b) : ∀ i, i ≤ n → f2S n a i = f2S n b i
  | 0, _ => rfl
  | i + 1, hi => by
    show f2S n a i + pcN (fairN a i n) = f2S n b i + pcN (fairN b i n)
    rw [em_f2S h i (by omega), em_fairN h (show i < n by omega) n (Nat.le_refl _)]
theorem em_pur (h : eqM n a b) {o : Nat} (ho : o < n) (k : Nat) : purF n a o k = purF n b o k := (em_days h k).at ho 4 (by decide)
theorem em_rbM (h : eqM n a b) {o p k : Nat} (ho : o < n) : ∀ i, rbM n a p k o i = rbM n b p k o i
  | 0 => rfl
  | i + 1 => by
    show mxI (rbM n a p k o i) (purF n (upd a p (nI i)) o k) = mxI (rbM n b p k o i) (purF n (upd b p (nI i)) o k)
    rw [em_rbM h ho i, em_pur h.upd ho]
theorem em_rbB (h : eqM n a b) {o p k : Nat} (ho : o < n) : ∀ i, rbB n a p k o i = rbB n b p k o i
  | 0 => rfl
  | i + 1 => by
    show (if purF n (upd a p (nI i)) o k ≤ rbM n a p k o i then rbB n a p k o i else nI i) = (if purF n (upd b p (nI i)) o k ≤ rbM n b p k o i then rbB n b p k o i else nI i)
    rw [em_rbB h ho i, em_rbM h ho i, em_pur h.upd ho]
theorem em_chg (h : eqM n a b) {o q : Nat} (ho : o < n) (hq : q < n) : ∀ k, k ≤ 5 → eqM n (chgF a o q k) (chgF b o q k)
  | 0, _ => h
  | k + 1, hk => by
    have h1 := em_chg h ho hq k (by omega)
    show eqM n (upd (upd (chgF a o q k) (8 + 5 * q + k) (chgF a o q k (8 + 5 * o + k))) (8 + 5 * o + k) (chgF a o q k (8 + 5 * q + k))) (upd (upd (chgF b o q k) (8 + 5 * q + k) (chgF b o q k (8 + 5 * o + k))) (8 + 5 * o + k) (chgF b o q k (8 + 5 * q + k)))
    rw [h1.at ho k (by omega), h1.at hq k (by omega)]; exact h1.upd.upd
theorem em_cfM (h : eqM n a b) {o k : Nat} (ho : o < n) : ∀ q, q ≤ n → cfM n a o k q = cfM n b o k q
  | 0, _ => em_pur h ho k
  | q + 1, hq => by
    show (if q = o then cfM n a o k q else mxI (cfM n a o k q) (purF n (chgF a o q 5) q k)) = (if q = o then cfM n b o k q else mxI (cfM n b o k q) (purF n (chgF b o q 5) q k))
    rw [em_cfM h ho q (by omega), em_pur (em_chg h ho (show q < n by omega) 5 (Nat.le_refl _)) (show q < n by omega)]
theorem em_cfB (h : eqM n a b) {o k : Nat} (ho : o < n) : ∀ q, q ≤ n → cfB n a o k q = cfB n b o k q
  | 0, _ => rfl
  | q + 1, hq => by
    show (if q = o then cfB n a o k q else if purF n (chgF a o q 5) q k ≤ cfM n a o k q then cfB n a o k q else nI q) = (if q = o then cfB n b o k q else if purF n (chgF b o q 5) q k ≤ cfM n b o k q then cfB n b o k q else nI q)
    rw [em_cfB h ho q (by omega), em_cfM h ho q (by omega), em_pur (em_chg h ho (show q < n by omega) 5 (Nat.le_refl _)) (show q < n by omega)]
theorem em_pr (h : eqM n a b) {g : Nat → Int32} {o : Nat} (ho : o < n) : ∀ i, prN n a g o i = prN n b g o i
  | 0 => rfl
  | i + 1 => by
    show upd (upd (upd (prN n a g o i) (3 * i) (daysF n a (i + 1) (8 + 5 * o + 3))) (3 * i + 1) (daysF n a (i + 1) (8 + 5 * o + 4))) (3 * i + 2) (onF (daysF n a (i + 1)) n) = upd (upd (upd (prN n b g o i) (3 * i) (daysF n b (i + 1) (8 + 5 * o + 3))) (3 * i + 1) (daysF n b (i + 1) (8 + 5 * o + 4))) (3 * i + 2) (onF (daysF n b (i + 1)) n)
    rw [em_pr h ho i, (em_days h (i + 1)).at ho 3 (by decide), (em_days h (i + 1)).at ho 4 (by decide), em_on (em_days h (i + 1)) n (Nat.le_refl _)]
theorem em_jd (h : eqM n a b) {g : Nat → Int32} {o : Nat} (ho : o < n) : jdB n a g o = jdB n b g o := by
  funext i
  unfold jdB
  rw [(em_days h (i + 1)).at ho 3 (by decide), (em_days h (i + 1)).at ho 4 (by decide), em_on (em_days h (i + 1)) n (Nat.le_refl _)]
theorem em_td (h : eqM n a b) {g : Nat → Int32} {o t : Nat} (ho : o < n) : tdP n a g o t = tdP n b g o t := by
  funext i
  unfold tdP
  rw [(em_days h (i + 1)).at ho 4 (by decide)]
theorem em_co (h : eqM n a b) : ∀ i, i ≤ n → coN a i = coN b i
  | 0, _ => rfl
  | i + 1, hi => by
    show coN a i + (if a (8 + 5 * i + 4) ≤ 0 then 0 else 1) = coN b i + (if b (8 + 5 * i + 4) ≤ 0 then 0 else 1)
    rw [em_co h i (by omega), h.at (show i < n by omega) 4 (by decide)]
theorem em_we (h : eqM n a b) : ∀ i, i ≤ n → weN a i = weN b i
  | 0, _ => rfl
  | i + 1, hi => by
    show weN a i + (if wearsF a i ≤ 0 then 0 else 1) = weN b i + (if wearsF b i ≤ 0 then 0 else 1)
    rw [em_we h i (by omega), em_wears h (show i < n by omega)]
theorem em_ma (h : eqM n a b) {r t u : Nat} {w : Int32} : maA n r t u a w = maA n r t u b w := by
  unfold maA; rw [em_onN h n (Nat.le_refl _), em_co h n (Nat.le_refl _), em_we h n (Nat.le_refl _)]
theorem em_stB (h : eqM n a b) {w : Int32} : stB n a w = stB n b w := by
  unfold stB; rw [h.lo 1 (by decide), h.lo 3 (by decide), em_sum h (by decide) n (Nat.le_refl _), em_on h n (Nat.le_refl _), em_sum h (k := 3) (by decide) n (Nat.le_refl _), em_f2S h n (Nat.le_refl _)]
theorem em_md (h : eqM n a b) {g : Nat → Int32} {o p : Nat} : ∀ i, eqM n (mdN a g o p i) (mdN b g o p i)
  | 0 => h
  | i + 1 => (em_md h i).upd
theorem one_cl {o : Int32} (hn : n ≤ 8) (h : oneB n o = true) : o.toNatClampNeg < n := by
  obtain ⟨j, hj, rfl⟩ := one_nat (by omega) h
  rw [nI_clamp (by omega)]; exact hj
theorem in_cl {x : Int32} (c d : Nat) (hd : d < 2 ^ 31) (hcd : c ≤ d) (h : inB x (nI c) (nI d) = true) : c ≤ x.toNatClampNeg ∧ x.toNatClampNeg ≤ d ∧ x = nI x.toNatClampNeg := by
  obtain ⟨j, h1, h2, rfl⟩ := rng_nat c d hd hcd h
  rw [nI_clamp (by omega)]; exact ⟨h1, h2, rfl⟩
theorem em_of (hn : n ≤ 8) (h : eqM n a b) {o w : Int32} : ofA n a o w = ofA n b o w := by
  unfold ofA
  by_cases hc : oneB n o = true ∧ inB w 0 5 = true
  · have h1 := one_cl hn hc.1
    have h2 := in_cl 0 5 (by decide) (by decide) hc.2
    rw [if_pos hc, if_pos hc, h.at h1 3 (by decide)]
    by_cases h5 : 5 ≤ w
    · rw [if_pos h5, if_pos h5]
    · rw [if_neg h5, if_neg h5]
      refine h.at h1 _ ?_
      rcases Nat.lt_or_ge w.toNatClampNeg 5 with q | q
      · exact q
      · exact absurd (by rw [h2.2.2, show w.toNatClampNeg = 5 by omega]; decide) h5
  · rw [if_neg hc, if_neg hc]
theorem em_does (hn : n ≤ 8) (h : eqM n a b) {o w : Int32} : doesA n a o w = doesA n b o w := by
  unfold doesA
  by_cases hc : oneB n o = true ∧ inB w 0 1 = true
  · rw [if_pos hc, if_pos hc, em_wears h (one_cl hn hc.1), em_frays h (one_cl hn hc.1)]
  · rw [if_neg hc, if_neg hc]
theorem em_looks (hn : n ≤ 8) (h : eqM n a b) {o q w : Int32} : looksA n a o q w = looksA n b o q w := by
  unfold looksA
  by_cases hc : twoB n o q = true ∧ inB w 0 1 = true
  · have h2 := two_of hc.1
    rw [if_pos hc, if_pos hc, em_sees h (one_cl hn h2.1) (one_cl hn h2.2.1), em_offers h (one_cl hn h2.1) (one_cl hn h2.2.1)]
  · rw [if_neg hc, if_neg hc]
theorem em_wo (h : eqM n a b) {p q : Nat} (hp : p < n) (hq : q < n) : woF a p q = woF b p q := by
  unfold woF; rw [em_offers h hp hq, em_offers h hq hp]
theorem gI_congr {c : Bool} {x x' y : Int32} (h : c = true → x = x') : gateI c x y = gateI c x' y := by
  unfold gateI
  by_cases hc : c = true
  · rw [if_pos hc, if_pos hc, h hc]
  · rw [if_neg hc, if_neg hc]
theorem gF_cases {c : Bool} {x x' y y' : Nat → Int32} {P : (Nat → Int32) → (Nat → Int32) → Prop} (h1 : c = true → P x x') (h2 : P y y') : P (gateF c x y) (gateF c x' y') := by
  unfold gateF
  by_cases hc : c = true
  · rw [if_pos hc, if_pos hc]; exact h1 hc
  · rw [if_neg hc, if_neg hc]; exact h2
end EM
