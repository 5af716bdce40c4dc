theorem lvc {i : Nat} {x y : Value} {t u : List (Nat × Value)} (h : x = y) (k : t = u) : ((i, x) :: t : List (Nat × Value)) = (i, y) :: u := by rw [h, k]
def mnI (a b : Int32) : Int32 := if b ≤ a then b else a
def mxI (a b : Int32) : Int32 := if a ≤ b then b else a
def heldI (v : Int32) : Int32 := if 0 ≤ v then (if v ≤ 99 then v else 99) else 0
def bitI (i : Nat) : Int32 := (1 : Int32) <<< (nI i &&& 31)
def oneB (n : Nat) (o : Int32) : Bool := decide (¬ o < 0 ∧ ¬ nI n ≤ o)
def inB (x lo hi : Int32) : Bool := decide (¬ x < lo ∧ ¬ hi < x)
def twoB (n : Nat) (o q : Int32) : Bool := oneB n o && (oneB n q && !(decide (o = q)))
theorem one_nat {n : Nat} {o : Int32} (hn : n < 2 ^ 31) (h : oneB n o = true) : ∃ j : Nat, j < n ∧ o = nI j := by
  have h := of_decide_eq_true h
  rcases pk_ix o hn with q | q | q
  · exact absurd q h.1
  · exact absurd q h.2
  · exact q
theorem one_of {n j : Nat} (hn : n < 2 ^ 31) (h : j < n) : oneB n (nI j) = true := decide_eq_true ⟨nI_pos (by omega), nI_ge h hn⟩
theorem two_of {n : Nat} {o q : Int32} (h : twoB n o q = true) : oneB n o = true ∧ oneB n q = true ∧ ¬ o = q := by simpa [twoB] using h
theorem rng_nat {x : Int32} (a b : Nat) (hb : b < 2 ^ 31) (hab : a ≤ b) (h : inB x (nI a) (nI b) = true) : ∃ j : Nat, a ≤ j ∧ j ≤ b ∧ x = nI j := by
  have h := of_decide_eq_true h
  obtain ⟨h1, h2⟩ := h
  have ea := nI_toInt (n := a) (by omega)
  have eb := nI_toInt hb
  rw [Int32.lt_iff_toInt_lt] at h1 h2
  refine ⟨x.toInt.toNat, by omega, by omega, Int32.toInt_inj.mp ?_⟩
  rw [nI_toInt (by omega)]
  omega
/-- what one wears -/
def wearsF (m : Nat → Int32) (o : Nat) : Int32 :=
  if m (8 + 5 * o) = 1 then m (8 + 5 * o + 3) / 2 else if m (8 + 5 * o) = 2 then m (8 + 5 * o + 3) / 4 else if m (8 + 5 * o) = 3 then mnI 99 (m (8 + 5 * o + 3) / 2 + m 4) else if m (8 + 5 * o) = 4 then m (8 + 5 * o + 3) / 4 + m (8 + 5 * o + 2) / 10 else if m (8 + 5 * o) = 5 then 0 else m (8 + 5 * o + 3)
def seesF (m : Nat → Int32) (o q : Nat) : Int32 := (m (8 + 5 * q + 1) * (99 - wearsF m o) + m (8 + 5 * o + 2) * wearsF m o) / 99
def offersF (m : Nat → Int32) (o q : Nat) : Int32 :=
  if m (8 + 5 * o) = 1 then seesF m o q - m 4 else if m (8 + 5 * o) = 2 then seesF m o q + 5 else if m (8 + 5 * o) = 3 then 2 * (seesF m o q - m 4) else if m (8 + 5 * o) = 4 then (seesF m o q + 5) / 2 else if m (8 + 5 * o) = 5 then seesF m o q - 10 else seesF m o q
def fraysF (m : Nat → Int32) (o : Nat) : Int32 :=
  if m (8 + 5 * o) = 1 then m 5 - 2 else if m (8 + 5 * o) = 2 then 2 * m 5 else if m (8 + 5 * o) = 3 then m 5 - 2 - m 4 else if m (8 + 5 * o) = 4 then (if m 1 - m 1 / 2 * 2 = 0 then 2 * m 5 else 0) else if m (8 + 5 * o) = 5 then m 5 + 9 else m 5
def paidF (m : Nat → Int32) (o q : Nat) : Int32 := mnI (mxI 0 (offersF m o q)) (m (8 + 5 * o + 4))
def tollF (m : Nat → Int32) (o q : Nat) : Int32 := mnI (paidF m o q) (m 6)
def nxtO (n o : Nat) : Nat := (o + 1) % n
def pay1 (m : Nat → Int32) (o q : Nat) : Nat → Int32 := upd m (8 + 5 * o + 4) (m (8 + 5 * o + 4) - paidF m o q)
def pay2 (m : Nat → Int32) (o q : Nat) : Nat → Int32 := upd (pay1 m o q) 3 (mnI 99999 (pay1 m o q 3 + tollF m o q))
def payF (n : Nat) (m : Nat → Int32) (o : Nat) : Nat → Int32 := upd (pay2 m o (nxtO n o)) (8 + 5 * nxtO n o + 4) (mnI 9999 (pay2 m o (nxtO n o) (8 + 5 * nxtO n o + 4) + paidF m o (nxtO n o) - tollF m o (nxtO n o)))
def payN (n : Nat) (m : Nat → Int32) : Nat → Nat → Int32
  | 0 => m
  | i + 1 => payF n (payN n m i) i
def frayN (m : Nat → Int32) : Nat → Nat → Int32
  | 0 => m
  | i + 1 => upd (frayN m i) (8 + 5 * i + 3) (heldI (frayN m i (8 + 5 * i + 3) - fraysF (frayN m i) i))
def payA (n : Nat) (m : Nat → Int32) : Nat → Int32 := if 1 < n then payN n m n else m
def dayF (n : Nat) (m : Nat → Int32) : Nat → Int32 := upd (frayN (payA n m) n) 1 (frayN (payA n m) n 1 + 1)
def daysF (n : Nat) (m : Nat → Int32) : Nat → Nat → Int32
  | 0 => m
  | k + 1 => dayF n (daysF n m k)
def sumF (m : Nat → Int32) (k : Nat) : Nat → Int32
  | 0 => 0
  | i + 1 => sumF m k i + m (8 + 5 * i + k)
/-- a draw: z behind it, what is drawn -/
def zF (m : Nat → Int32) : Int32 := m 2 * 1103515245 + 12345
def drF (m : Nat → Int32) : Nat := (zF m).toBitVec.toNat / 65536
def drw (m : Nat → Int32) : Nat → Int32 := upd m 2 (zF m)
def slipF (n : Nat) (m : Nat → Int32) : Nat → Int32 :=
  if drw (drw m) 7 ≤ nI (drF (drw m) % 100) then drw (drw m) else upd (drw (drw m)) (8 + 5 * (drF m % n) + 3) 0
def dyS (n : Nat) (m : Nat → Int32) : Nat → Int32 := if 0 < n then slipF n m else m
def dayD (n : Nat) (m : Nat → Int32) : Nat → Int32 := dayF n (dyS n m)
def lkZ (n : Nat) (m : Nat → Int32) : Nat → Int32
  | 0 => m 2
  | k + 1 => dayD n (upd m 2 (lkZ n m k)) 2
def lkC (n : Nat) (m : Nat → Int32) (o : Nat) (due : Int32) : Nat → Int32
  | 0 => 0
  | k + 1 => lkC n m o due k + (if due < dayD n (upd m 2 (lkZ n m k)) (8 + 5 * o + 4) then 1 else 0)
def onF (m : Nat → Int32) : Nat → Int32
  | 0 => 0
  | i + 1 => onF m i ||| (if m (8 + 5 * i + 3) = 0 then bitI i else 0)
def fairF (m : Nat → Int32) (o : Nat) : Nat → Int32
  | 0 => 0
  | q + 1 => fairF m o q ||| (if ¬ q = o ∧ offersF m o q = offersF m q o then bitI q else 0)
def purF (n : Nat) (m : Nat → Int32) (o k : Nat) : Int32 := daysF n m k (8 + 5 * o + 4)
theorem upd_ne {f : Nat → Int32} {k j : Nat} {x : Int32} (h : j ≠ k) : upd f k x j = f j := pk_un h
theorem upd_self {f : Nat → Int32} {k : Nat} {x : Int32} : upd f k x k = x := pk_us
theorem upd_id {f : Nat → Int32} {k : Nat} : upd f k (f k) = f := by
  funext j; by_cases h : j = k
  · subst h; exact pk_us
  · exact pk_un h
theorem upd_upd {f : Nat → Int32} {k : Nat} {x y : Int32} : upd (upd f k x) k y = upd f k y := by
  funext j; by_cases h : j = k
  · subst h; rw [pk_us, pk_us]
  · rw [pk_un h, pk_un h, pk_un h]
theorem upd_comm {f : Nat → Int32} {k k2 : Nat} {x y : Int32} (h : k ≠ k2) : upd (upd f k x) k2 y = upd (upd f k2 y) k x := by
  funext j; by_cases h1 : j = k
  · subst h1; rw [pk_un h, pk_us, pk_us]
  · by_cases h2 : j = k2
    · subst h2; rw [pk_us, pk_un h1, pk_us]
    · rw [pk_un h2, pk_un h1, pk_un h1, pk_un h2]
theorem pay1_0 (m : Nat → Int32) (o q : Nat) (j : Nat) (h : j < 8) : pay1 m o q j = m j := by unfold pay1; exact upd_ne (by omega)
theorem pay2_lo (m : Nat → Int32) (o q : Nat) (j : Nat) (h : j < 8) (h3 : j ≠ 3) : pay2 m o q j = m j := by unfold pay2; rw [upd_ne h3, pay1_0 _ _ _ _ h]
theorem payF_lo (n : Nat) (m : Nat → Int32) (o : Nat) (j : Nat) (h : j < 8) (h3 : j ≠ 3) : payF n m o j = m j := by unfold payF; rw [upd_ne (by omega), pay2_lo _ _ _ _ h h3]
theorem payN_lo (n : Nat) (m : Nat → Int32) (j : Nat) (h : j < 8) (h3 : j ≠ 3) : ∀ i, payN n m i j = m j
  | 0 => rfl
  | i + 1 => by show payF n (payN n m i) i j = m j; rw [payF_lo _ _ _ _ h h3, payN_lo n m j h h3 i]
theorem frayN_lo (m : Nat → Int32) (j : Nat) (h : j < 8) : ∀ i, frayN m i j = m j
  | 0 => rfl
  | i + 1 => by show upd (frayN m i) _ _ j = m j; rw [upd_ne (by omega), frayN_lo m j h i]
theorem payA_lo (n : Nat) (m : Nat → Int32) (j : Nat) (h : j < 8) (h3 : j ≠ 3) : payA n m j = m j := by
  unfold payA; split
  · exact payN_lo n m j h h3 n
  · rfl
theorem dayF_lo (n : Nat) (m : Nat → Int32) (j : Nat) (h : j < 8) (h3 : j ≠ 3) (h1 : j ≠ 1) : dayF n m j = m j := by unfold dayF; rw [upd_ne h1, frayN_lo _ _ h, payA_lo _ _ _ h h3]
theorem daysF_lo (n : Nat) (m : Nat → Int32) (j : Nat) (h : j < 8) (h3 : j ≠ 3) (h1 : j ≠ 1) : ∀ k, daysF n m k j = m j
  | 0 => rfl
  | k + 1 => by show dayF n (daysF n m k) j = m j; rw [dayF_lo _ _ _ h h3 h1, daysF_lo n m j h h3 h1 k]
theorem dayF_0 {n : Nat} {m : Nat → Int32} (h : m 0 = nI n) : dayF n m 0 = nI n := (dayF_lo n m 0 (by decide) (by decide) (by decide)).trans h
theorem daysF_0 {n : Nat} {m : Nat → Int32} {k : Nat} (h : m 0 = nI n) : daysF n m k 0 = nI n := (daysF_lo n m 0 (by decide) (by decide) (by decide) k).trans h
theorem payF_0 {n o : Nat} {m : Nat → Int32} (h : m 0 = nI n) : payF n m o 0 = nI n := (payF_lo n m o 0 (by decide) (by decide)).trans h
theorem payN_0 {n i : Nat} {m : Nat → Int32} (h : m 0 = nI n) : payN n m i 0 = nI n := (payN_lo n m 0 (by decide) (by decide) i).trans h
theorem frayN_0 {n i : Nat} {m : Nat → Int32} (h : m 0 = nI n) : frayN m i 0 = nI n := (frayN_lo m 0 (by decide) i).trans h
theorem payA_0 {n : Nat} {m : Nat → Int32} (h : m 0 = nI n) : payA n m 0 = nI n := (payA_lo n m 0 (by decide) (by decide)).trans h
theorem upd_0 {n k : Nat} {m : Nat → Int32} {x : Int32} (hk : 0 ≠ k) (h : m 0 = nI n) : upd m k x 0 = nI n := (upd_ne hk).trans h
theorem drw_0 {n : Nat} {m : Nat → Int32} (h : m 0 = nI n) : drw m 0 = nI n := upd_0 (by decide) h
theorem slipF_0 {n : Nat} {m : Nat → Int32} (h : m 0 = nI n) : slipF n m 0 = nI n := by
  unfold slipF; split
  · exact drw_0 (drw_0 h)
  · exact upd_0 (by omega) (drw_0 (drw_0 h))
theorem drF_lt (m : Nat → Int32) : drF m < 65536 := by
  have := (zF m).toBitVec.isLt
  unfold drF; omega
theorem dyS_0 {n : Nat} {m : Nat → Int32} (h : m 0 = nI n) : dyS n m 0 = nI n := by
  unfold dyS; split
  · exact slipF_0 h
  · exact h
theorem dyS_n {n : Nat} {m : Nat → Int32} (h : n ≤ 0) : m = dyS n m := (if_neg (by omega)).symm
theorem dyS_t {n a : Nat} {m : Nat → Int32} (h : 0 < n) (hc : drw (drw m) 7 ≤ nI (drF (drw m) % 100)) : upd (drw (drw m)) a (drw (drw m) a) = dyS n m := upd_id.trans ((if_pos h).trans (if_pos hc)).symm
theorem dyS_f {n : Nat} {m : Nat → Int32} (h : 0 < n) (hc : ¬ drw (drw m) 7 ≤ nI (drF (drw m) % 100)) : upd (drw (drw m)) (8 + 5 * (drF m % n) + 3) 0 = dyS n m := ((if_pos h).trans (if_neg hc)).symm
theorem dayD_0 {n : Nat} {m : Nat → Int32} (h : m 0 = nI n) : dayD n m 0 = nI n := dayF_0 (dyS_0 h)
theorem nxtO_lt {n o : Nat} (h : 0 < n) : nxtO n o < n := Nat.mod_lt _ h
