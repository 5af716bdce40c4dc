/-! the best of all pairings: whichever of a set is paired first -/
def bt (w q : Nat) : Prop := w / 2 ^ q % 2 = 1
theorem bt_sub1 : ∀ w, w < 256 → ∀ q, q < 8 → ∀ r, r < 8 → w / 2 ^ q % 2 = 0 ∨ r = q ∨ (w - 2 ^ q) / 2 ^ r % 2 = w / 2 ^ r % 2 := by decide +kernel
theorem bt_sub (w : Nat) (hw : w < 256) (q : Nat) (hq : q < 8) (r : Nat) (hr : r < 8) (h : w / 2 ^ q % 2 = 1) (hn : r ≠ q) : (w - 2 ^ q) / 2 ^ r % 2 = w / 2 ^ r % 2 := by
  rcases bt_sub1 w hw q hq r hr with h1 | h1 | h1
  · omega
  · exact absurd h1 hn
  · exact h1
theorem bt_out : ∀ w, w < 256 → ∀ q, q < 8 → w / 2 ^ q % 2 = 1 → (w - 2 ^ q) / 2 ^ q % 2 = 0 := by decide +kernel
theorem bt_8 {w q : Nat} (hw : w < 256) (h : bt w q) : q < 8 := lw_lt (n := 8) (by omega) (show ¬ w / 2 ^ q % 2 = 0 by unfold bt at h; omega)
theorem bt_pos {w q : Nat} (h : bt w q) : 2 ^ q ≤ w := bt_le h
/-- V is the best by c's way -/
def Best (n : Nat) (W : Nat → Nat → Int) (c : Nat → Nat) (V : Nat → Int) : Prop :=
  (∀ w, 0 < w → w < 2 ^ n → V (w - 2 ^ c w) ≤ V w) ∧ (∀ w q, 0 < w → w < 2 ^ n → q ≠ c w → bt w q → V (w - 2 ^ c w - 2 ^ q) + W (c w) q ≤ V w) ∧
  (∀ w, 0 < w → w < 2 ^ n → V w = V (w - 2 ^ c w) ∨ ∃ q, q ≠ c w ∧ bt w q ∧ V w = V (w - 2 ^ c w - 2 ^ q) + W (c w) q)
def Choice (c : Nat → Nat) : Prop := (∀ w, 0 < w → w < 256 → bt w (c w)) ∧ ∀ w, 0 < w → w < 256 → ∀ x, bt w x → x ≠ c w → c (w - 2 ^ x) = c w
section BEST
variable {n : Nat} {W : Nat → Nat → Int} {c : Nat → Nat} {V : Nat → Int}
theorem bt_sub' {w q r : Nat} (hw : w < 256) (hq : bt w q) (hr : bt w r) (h : r ≠ q) : bt (w - 2 ^ q) r := by
  have h1 := bt_sub w hw q (bt_8 hw hq) r (bt_8 hw hr) hq h
  unfold bt at *
  omega
theorem bt_back {w q r : Nat} (hw : w < 256) (hq : bt w q) (hr : bt (w - 2 ^ q) r) : r ≠ q ∧ bt w r := by
  have h8 := bt_8 (w := w - 2 ^ q) (Nat.lt_of_le_of_lt (Nat.sub_le _ _) hw) hr
  have hne : r ≠ q := fun e => by
    subst e
    have := bt_out w hw r (bt_8 hw hq) hq
    unfold bt at hr; omega
  refine ⟨hne, ?_⟩
  have h1 := bt_sub w hw q (bt_8 hw hq) r h8 hq hne
  unfold bt at *
  omega
theorem bt_0 {w q : Nat} (h : bt w q) : 0 < w := by
  have := bt_pos h
  have := pow_pos2 q
  omega
theorem sub_lt {w q : Nat} (h : bt w q) : w - 2 ^ q < w := by
  have := bt_pos h
  have := pow_pos2 q
  omega
theorem sub_c (w x y : Nat) : w - 2 ^ x - 2 ^ y = w - 2 ^ y - 2 ^ x := by omega
theorem best_1 (hn : n ≤ 8) (hc : Choice c) (hB : Best n W c V) : ∀ k w, w ≤ k → w < 2 ^ n → ∀ x, bt w x → V (w - 2 ^ x) ≤ V w
  | 0, w, hk, _, x, hx => absurd (bt_0 hx) (by omega)
  | k + 1, w, hk, hw, x, hx => by
    have h256 := pow_256 hn
    have hw2 : w < 256 := by omega
    have h0 := bt_0 hx
    have hb := hc.1 w h0 hw2
    by_cases q : x = c w
    · rw [q]; exact hB.1 w h0 hw
    · have hb' := bt_sub' hw2 hx hb (Ne.symm q)
      have hx' := bt_sub' hw2 hb hx q
      have e := hc.2 w h0 hw2 x hx q
      have l1 := sub_lt hb
      have l2 := sub_lt hx
      rcases hB.2.2 (w - 2 ^ x) (bt_0 hb') (by omega) with h | ⟨r, h1, h2, h⟩
      · rw [e] at h
        rw [h, sub_c]
        exact Int.le_trans (best_1 hn hc hB k (w - 2 ^ c w) (by omega) (by omega) x hx') (hB.1 w h0 hw)
      · rw [e] at h h1
        have h3 := bt_back hw2 hx h2
        have h4 := bt_sub' hw2 hb h3.2 h1
        have h5 := bt_sub' (by omega) h4 hx' (Ne.symm h3.1)
        have l3 := sub_lt h4
        have h6 := best_1 hn hc hB k (w - 2 ^ c w - 2 ^ r) (by omega) (by omega) x h5
        have h7 := hB.2.1 w r h0 hw h1 h3.2
        have e2 : w - 2 ^ x - 2 ^ c w - 2 ^ r = w - 2 ^ c w - 2 ^ r - 2 ^ x := by omega
        rw [h, e2]
        omega
theorem best_2 (hn : n ≤ 8) (hs : ∀ p q, W p q = W q p) (hc : Choice c) (hB : Best n W c V) : ∀ k w, w ≤ k → w < 2 ^ n → ∀ x y, x ≠ y → bt w x → bt w y → V (w - 2 ^ x - 2 ^ y) + W x y ≤ V w
  | 0, w, hk, _, x, y, _, hx, _ => absurd (bt_0 hx) (by omega)
  | k + 1, w, hk, hw, x, y, hxy, hx, hy => by
    have h256 := pow_256 hn
    have hw2 : w < 256 := by omega
    have h0 := bt_0 hx
    have hb := hc.1 w h0 hw2
    by_cases q : x = c w
    · subst q
      exact hB.2.1 w y h0 hw (Ne.symm hxy) hy
    · by_cases q2 : y = c w
      · subst q2
        rw [sub_c, hs]
        exact hB.2.1 w x h0 hw q hx
      · have hb' := bt_sub' hw2 hx hb (Ne.symm q)
        have hy1 := bt_sub' hw2 hx hy (Ne.symm hxy)
        have e1 := hc.2 w h0 hw2 x hx q
        have e2 := hc.2 (w - 2 ^ x) (bt_0 hb') (Nat.lt_of_le_of_lt (Nat.sub_le _ _) hw2) y hy1 (by rw [e1]; exact q2)
        rw [e1] at e2
        have hw3 : w - 2 ^ x < 256 := Nat.lt_of_le_of_lt (Nat.sub_le _ _) hw2
        have hb2 := bt_sub' hw3 hy1 hb' (Ne.symm q2)
        have hx' := bt_sub' hw2 hb hx q
        have hy' := bt_sub' hw2 hb hy q2
        have l1 := sub_lt hb
        have l2 := sub_lt hx
        rcases hB.2.2 (w - 2 ^ x - 2 ^ y) (bt_0 hb2) (Nat.lt_of_le_of_lt (Nat.le_trans (Nat.sub_le _ _) (Nat.sub_le _ _)) hw) with h | ⟨r, h1, h2, h⟩
        · rw [e2] at h
          have h6 := best_2 hn hs hc hB k (w - 2 ^ c w) (by omega) (by omega) x y hxy hx' hy'
          have h7 := hB.1 w h0 hw
          have e3 : w - 2 ^ x - 2 ^ y - 2 ^ c w = w - 2 ^ c w - 2 ^ x - 2 ^ y := by omega
          rw [h, e3]
          omega
        · rw [e2] at h h1
          have h3 := bt_back hw3 hy1 h2
          have h4 := bt_back hw2 hx h3.2
          have g4 := bt_sub' hw2 hb h4.2 h1
          have l3 := sub_lt g4
          have gx := bt_sub' (by omega) g4 hx' (Ne.symm h4.1)
          have gy := bt_sub' (by omega) g4 hy' (Ne.symm h3.1)
          have h6 := best_2 hn hs hc hB k (w - 2 ^ c w - 2 ^ r) (by omega) (by omega) x y hxy gx gy
          have h7 := hB.2.1 w r h0 hw h1 h4.2
          have e3 : w - 2 ^ x - 2 ^ y - 2 ^ c w - 2 ^ r = w - 2 ^ c w - 2 ^ r - 2 ^ x - 2 ^ y := by omega
          rw [h, e3]
          omega
theorem best_le {c' : Nat → Nat} {V' : Nat → Int} (hn : n ≤ 8) (hs : ∀ p q, W p q = W q p) (hc : Choice c) (hB : Best n W c V) (hc' : Choice c') (hB' : Best n W c' V') (h00 : V' 0 = V 0) : ∀ k w, w ≤ k → w < 2 ^ n → V' w ≤ V w
  | 0, w, hk, _ => by
    have e : w = 0 := by omega
    rw [e, h00]; exact Int.le_refl _
  | k + 1, w, hk, hw => by
    by_cases h0 : w = 0
    · rw [h0, h00]; exact Int.le_refl _
    · have h256 := pow_256 hn
      have hw2 : w < 256 := by omega
      have hb := hc'.1 w (by omega) hw2
      have l1 := sub_lt hb
      rcases hB'.2.2 w (by omega) hw with h | ⟨r, h1, h2, h⟩
      · rw [h]
        exact Int.le_trans (best_le hn hs hc hB hc' hB' h00 k (w - 2 ^ c' w) (by omega) (by omega)) (best_1 hn hc hB w w (Nat.le_refl _) hw _ hb)
      · have l2 := sub_lt (bt_sub' hw2 hb h2 h1)
        have h6 := best_le hn hs hc hB hc' hB' h00 k (w - 2 ^ c' w - 2 ^ r) (by omega) (by omega)
        have h7 := best_2 hn hs hc hB w w (Nat.le_refl _) hw (c' w) r (Ne.symm h1) hb h2
        rw [h]
        omega
theorem best_eq {c' : Nat → Nat} {V' : Nat → Int} (hn : n ≤ 8) (hs : ∀ p q, W p q = W q p) (hc : Choice c) (hB : Best n W c V) (hc' : Choice c') (hB' : Best n W c' V') (h00 : V' 0 = V 0) {w : Nat} (hw : w < 2 ^ n) : V' w = V w :=
  Int.le_antisymm (best_le hn hs hc hB hc' hB' h00 w w (Nat.le_refl _) hw) (best_le hn hs hc' hB' hc hB h00.symm w w (Nat.le_refl _) hw)
end BEST
theorem lw_ch1 : ∀ w, w < 256 → 0 < w → w / 2 ^ lwN w % 2 = 1 := by decide +kernel
theorem lw_ch2 : ∀ w, w < 256 → 0 < w → ∀ x, x < 8 → w / 2 ^ x % 2 = 1 → x ≠ lwN w → lwN (w - 2 ^ x) = lwN w := by decide +kernel
theorem lw_and : ∀ w, w < 256 → 0 < w → w &&& (w - 1) = w - 2 ^ lwN w := by decide +kernel
theorem lw_abv : ∀ w, w < 256 → 0 < w → ∀ x, x < 8 → w / 2 ^ x % 2 = 1 → x ≠ lwN w → lwN w < x := by decide +kernel
def hbN (w : Nat) : Nat := if w / 128 % 2 = 1 then 7 else if w / 64 % 2 = 1 then 6 else if w / 32 % 2 = 1 then 5 else if w / 16 % 2 = 1 then 4 else if w / 8 % 2 = 1 then 3 else if w / 4 % 2 = 1 then 2 else if w / 2 % 2 = 1 then 1 else 0
theorem hb_ch1 : ∀ w, w < 256 → 0 < w → w / 2 ^ hbN w % 2 = 1 := by decide +kernel
theorem hb_ch2 : ∀ w, w < 256 → 0 < w → ∀ x, x < 8 → w / 2 ^ x % 2 = 1 → x ≠ hbN w → hbN (w - 2 ^ x) = hbN w := by decide +kernel
theorem hb_top : ∀ w, w < 256 → 0 < w → w - 2 ^ hbN w < 2 ^ hbN w := by decide +kernel
theorem lw_C : Choice lwN := ⟨fun w h0 h => lw_ch1 w h h0, fun w h0 h x hx hn => lw_ch2 w h h0 x (bt_8 h hx) hx hn⟩
theorem hb_C : Choice hbN := ⟨fun w h0 h => hb_ch1 w h h0, fun w h0 h x hx hn => hb_ch2 w h h0 x (bt_8 h hx) hx hn⟩
theorem mx_int (a b : Int32) : (mxI a b).toInt = if a.toInt ≤ b.toInt then b.toInt else a.toInt := by
  unfold mxI
  by_cases h : a ≤ b
  · rw [if_pos h, if_pos (Int32.le_iff_toInt_le.mp h)]
  · rw [if_neg h, if_neg (fun q => h (Int32.le_iff_toInt_le.mpr q))]
/-- the greatest of a row of numbers -/
theorem mq_all {X E : Nat → Int32} {C : Nat → Prop} (h1 : ∀ q, C q → X (q + 1) = mxI (X q) (E q)) (h2 : ∀ q, ¬ C q → X (q + 1) = X q) : ∀ k, (X 0).toInt ≤ (X k).toInt ∧ (∀ q, q < k → C q → (E q).toInt ≤ (X k).toInt) ∧ ((X k).toInt = (X 0).toInt ∨ ∃ q, q < k ∧ C q ∧ (X k).toInt = (E q).toInt)
  | 0 => ⟨Int.le_refl _, fun q h => absurd h (Nat.not_lt_zero q), Or.inl rfl⟩
  | k + 1 => by
    obtain ⟨i1, i2, i3⟩ := mq_all h1 h2 k
    by_cases hc : C k
    · have e : (X (k + 1)).toInt = if (X k).toInt ≤ (E k).toInt then (E k).toInt else (X k).toInt := by rw [h1 k hc, mx_int]
      refine ⟨by rw [e]; split <;> omega, fun q hq hC => ?_, ?_⟩
      · by_cases hqk : q = k
        · subst hqk; rw [e]; split <;> omega
        · have := i2 q (by omega) hC
          rw [e]; split <;> omega
      · rw [e]
        split
        · exact Or.inr ⟨k, by omega, hc, rfl⟩
        · rcases i3 with i3 | ⟨q, a1, a2, a3⟩
          · exact Or.inl i3
          · exact Or.inr ⟨q, by omega, a2, a3⟩
    · rw [h2 k hc]
      refine ⟨i1, fun q hq hC => ?_, ?_⟩
      · have : q ≠ k := fun e => hc (e ▸ hC)
        exact i2 q (by omega) hC
      · rcases i3 with i3 | ⟨q, a1, a2, a3⟩
        · exact Or.inl i3
        · exact Or.inr ⟨q, by omega, a2, a3⟩
theorem add_int {a b : Int32} (h : -1000000 ≤ a.toInt ∧ a.toInt ≤ 1000000) (k : -1000000 ≤ b.toInt ∧ b.toInt ≤ 1000000) : (a + b).toInt = a.toInt + b.toInt := by
  rw [Int32.toInt_add, Int.bmod_def]; omega
theorem sub_int {a b : Int32} (h : -1000000 ≤ a.toInt ∧ a.toInt ≤ 1000000) (k : -1000000 ≤ b.toInt ∧ b.toInt ≤ 1000000) : (a - b).toInt = a.toInt - b.toInt := by
  rw [Int32.toInt_sub, Int.bmod_def]; omega
theorem dbl_int {a : Int32} (h : -1000000 ≤ a.toInt ∧ a.toInt ≤ 1000000) : (2 * a).toInt = 2 * a.toInt := by
  rw [Int32.toInt_mul, show (2 : Int32).toInt = 2 from rfl, Int.bmod_def]; omega
