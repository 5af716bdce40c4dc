/-! what the two say in other words -/
theorem le0 {x : Int32} (h : 0 ≤ x.toInt) : decide (x = 0) = decide (x ≤ 0) := by
  apply decide_eq_decide.mpr
  rw [Int32.le_iff_toInt_le]
  have e : (0 : Int32).toInt = 0 := rfl
  constructor
  · intro q; subst q; omega
  · intro q
    apply Int32.toInt_inj.mp
    omega
theorem pow_pos2 (i : Nat) : 0 < 2 ^ i := Nat.pow_pos (by decide)
theorem on_all (m : Nat → Int32) : ∀ i, (onN m i = 2 ^ i - 1 ↔ ∀ j, j < i → m (8 + 5 * j + 3) = 0)
  | 0 => ⟨fun _ j h => absurd h (Nat.not_lt_zero j), fun _ => rfl⟩
  | i + 1 => by
    have ih := on_all m i
    have hl := onN_lt m i
    have hp := pow_pos2 i
    have e : onN m (i + 1) = onN m i + (if m (8 + 5 * i + 3) = 0 then 2 ^ i else 0) := rfl
    rw [e, Nat.pow_succ]
    constructor
    · intro h j hj
      by_cases hc : m (8 + 5 * i + 3) = 0
      · rw [if_pos hc] at h
        by_cases q : j = i
        · rw [q]; exact hc
        · exact ih.mp (by omega) j (by omega)
      · rw [if_neg hc] at h; omega
    · intro h
      rw [if_pos (h i (by omega)), ih.mpr (fun j hj => h j (by omega))]; omega
theorem sum_z {n : Nat} {m : Nat → Int32} (hn : n ≤ 8) (hr : rgM n m) : ∀ i, i ≤ n → ∃ s : Nat, sumF m 3 i = nI s ∧ s ≤ 99 * i ∧ (s = 0 ↔ ∀ j, j < i → m (8 + 5 * j + 3) = 0)
  | 0, _ => ⟨0, rfl, by omega, fun _ j h => absurd h (Nat.not_lt_zero j), fun _ => rfl⟩
  | i + 1, hi => by
    obtain ⟨s, h1, h2, h3⟩ := sum_z hn hr i (by omega)
    obtain ⟨w, hw, hwi⟩ := nat_of (hr.2 i (by omega)).1.1
    have hw9 := (hr.2 i (by omega)).1.2
    refine ⟨s + w, ?_, by omega, ?_⟩
    · show sumF m 3 i + m (8 + 5 * i + 3) = _
      rw [h1, hw, nI_add]
    · constructor
      · intro h j hj
        by_cases q : j = i
        · rw [q, hw, show w = 0 by omega]; rfl
        · exact h3.mp (by omega) j (by omega)
      · intro h
        have h5 := h i (by omega)
        have h6 : w = 0 := by
          rw [h5] at hwi
          have e : (0 : Int32).toInt = 0 := rfl
          omega
        have h4 := h3.mpr (fun j hj => h j (by omega))
        omega
theorem all_eq {n : Nat} {m : Nat → Int32} (hn : n ≤ 8) (hr : rgM n m) : decide (onN m n = 2 ^ n - 1) = decide (sumF m 3 n ≤ 0) := by
  obtain ⟨s, h1, h2, h3⟩ := sum_z hn hr n (Nat.le_refl _)
  apply decide_eq_decide.mpr
  rw [on_all, ← h3, h1, show (0 : Int32) = nI 0 from rfl, nI_leI (by omega) (by decide)]
  omega
/-! pairs of fair exchanges, counted once or twice -/
def sm (f : Nat → Nat) : Nat → Nat
  | 0 => 0
  | i + 1 => sm f i + f i
theorem sm_congr {f g : Nat → Nat} : ∀ n, (∀ i, i < n → f i = g i) → sm f n = sm g n
  | 0, _ => rfl
  | n + 1, h => by
    show sm f n + f n = sm g n + g n
    rw [sm_congr n (fun i hi => h i (by omega)), h n (by omega)]
theorem sm_add {f g : Nat → Nat} : ∀ n, sm (fun i => f i + g i) n = sm f n + sm g n
  | 0 => rfl
  | n + 1 => by
    show sm (fun i => f i + g i) n + (f n + g n) = (sm f n + f n) + (sm g n + g n)
    rw [sm_add n]; omega
theorem sm_0 {f : Nat → Nat} : ∀ n, (∀ i, i < n → f i = 0) → sm f n = 0
  | 0, _ => rfl
  | n + 1, h => by
    show sm f n + f n = 0
    rw [sm_0 n (fun i hi => h i (by omega)), h n (by omega)]
theorem sm_le {f : Nat → Nat} {k : Nat} : ∀ n, (∀ i, i < n → f i ≤ k) → sm f n ≤ k * n
  | 0, _ => Nat.le_refl _
  | n + 1, h => by
    have h1 := sm_le (k := k) n (fun i hi => h i (by omega))
    have h2 := h n (by omega)
    show sm f n + f n ≤ k * (n + 1)
    rw [Nat.mul_succ]; omega
def ffN (m : Nat → Int32) (i q : Nat) : Nat := if ¬ q = i ∧ offersF m i q = offersF m q i then 1 else 0
theorem ff_sym (m : Nat → Int32) (i q : Nat) : ffN m i q = ffN m q i := by
  unfold ffN
  by_cases h : ¬ q = i ∧ offersF m i q = offersF m q i
  · rw [if_pos h, if_pos ⟨fun e => h.1 e.symm, h.2.symm⟩]
  · rw [if_neg h, if_neg (fun k => h ⟨fun e => k.1 e.symm, k.2.symm⟩)]
theorem ff_self (m : Nat → Int32) (i : Nat) : ffN m i i = 0 := if_neg (fun h => h.1 rfl)
theorem ff_le (m : Nat → Int32) (i q : Nat) : ffN m i q ≤ 1 := by unfold ffN; split <;> omega
def hiN (m : Nat → Int32) (i q : Nat) : Nat := if i < q then ffN m i q else 0
theorem hi_le (m : Nat → Int32) (i q : Nat) : hiN m i q ≤ 1 := by
  have := ff_le m i q
  unfold hiN; split <;> omega
theorem pc_add : ∀ q, q < 8 → ∀ x, x < 2 ^ q → pcN (x + 2 ^ q) = pcN x + 1 := by decide +kernel
theorem pc_dv : ∀ q, q < 8 → ∀ i, i < 8 → ∀ x, x < 2 ^ q → pcN ((x + 2 ^ q) / 2 ^ (i + 1)) = pcN (x / 2 ^ (i + 1)) + (if i < q then 1 else 0) := by decide +kernel
theorem pc_fair (m : Nat → Int32) (i : Nat) : ∀ q, q ≤ 8 → pcN (fairN m i q) = sm (ffN m i) q
  | 0, _ => by show pcN 0 = 0; decide
  | q + 1, h => by
    show pcN (fairN m i q + _) = sm (ffN m i) q + ffN m i q
    rw [← pc_fair m i q (by omega)]
    unfold ffN
    by_cases hc : ¬ q = i ∧ offersF m i q = offersF m q i
    · rw [if_pos hc, if_pos hc]; exact pc_add q (by omega) _ (fairN_lt m i q)
    · rw [if_neg hc, if_neg hc]; rfl
theorem pc_fairD (m : Nat → Int32) (i : Nat) (hi : i < 8) : ∀ q, q ≤ 8 → pcN (fairN m i q / 2 ^ (i + 1)) = sm (hiN m i) q
  | 0, _ => by show pcN (0 / 2 ^ (i + 1)) = 0; rw [Nat.zero_div]; rfl
  | q + 1, h => by
    show pcN ((fairN m i q + _) / 2 ^ (i + 1)) = sm (hiN m i) q + hiN m i q
    rw [← pc_fairD m i hi q (by omega)]
    unfold hiN ffN
    by_cases hc : ¬ q = i ∧ offersF m i q = offersF m q i
    · rw [if_pos hc, if_pos hc]; exact pc_dv q (by omega) i hi _ (fairN_lt m i q)
    · rw [if_neg hc, if_neg hc, Nat.add_zero]; split <;> rfl
theorem f2_sm {n : Nat} (m : Nat → Int32) (hn : n ≤ 8) : ∀ i, f2S n m i = sm (fun a => sm (ffN m a) n) i
  | 0 => rfl
  | i + 1 => by
    show f2S n m i + pcN (fairN m i n) = sm (fun a => sm (ffN m a) n) i + sm (ffN m i) n
    rw [f2_sm m hn i, pc_fair m i n hn]
theorem fp_sm {n : Nat} (m : Nat → Int32) (hn : n ≤ 8) : ∀ i, i ≤ 8 → fpS n m i = nI (sm (fun a => sm (hiN m a) n) i)
  | 0, _ => rfl
  | i + 1, h => by
    show fpS n m i + nI (pcN (fairN m i n / 2 ^ (i + 1))) = nI (sm (fun a => sm (hiN m a) n) i + sm (hiN m i) n)
    rw [fp_sm m hn i (by omega), pc_fairD m i (by omega) n hn, nI_add]
theorem sm_2 (m : Nat → Int32) : ∀ n, sm (fun a => sm (ffN m a) n) n = 2 * sm (fun a => sm (hiN m a) n) n
  | 0 => rfl
  | n + 1 => by
    have e1 : sm (fun a => sm (ffN m a) (n + 1)) (n + 1) = sm (fun a => sm (ffN m a) n + ffN m a n) n + (sm (ffN m n) n + ffN m n n) := rfl
    have e2 : sm (fun a => sm (hiN m a) (n + 1)) (n + 1) = sm (fun a => sm (hiN m a) n + hiN m a n) n + (sm (hiN m n) n + hiN m n n) := rfl
    have e3 : sm (hiN m n) n = 0 := sm_0 n (fun i hi => if_neg (by omega))
    have e4 : hiN m n n = 0 := if_neg (by omega)
    have e5 : sm (fun a => hiN m a n) n = sm (fun a => ffN m a n) n := sm_congr n (fun i hi => if_pos hi)
    have e6 : sm (ffN m n) n = sm (fun a => ffN m a n) n := sm_congr n (fun i _ => ff_sym m n i)
    rw [e1, e2, sm_add, sm_add, e3, e4, e5, e6, ff_self, sm_2 m n]; omega
theorem fp_eq {n : Nat} (m : Nat → Int32) (hn : n ≤ 8) : nI (f2S n m n / 2) = fpS n m n := by
  rw [fp_sm m hn n hn, f2_sm m hn n, sm_2 m n, Nat.mul_div_cancel_left _ (by decide)]
theorem st_eq {n : Nat} {m : Nat → Int32} (hn : n ≤ 8) {w : Int32} : stB n m w = stA n m w := by
  unfold stB stA; rw [fp_eq m hn]
/-! bytes -/
theorem byt_rg (e : Int64) (i : Nat) : 0 ≤ (bytF e i).toInt ∧ (bytF e i).toInt ≤ 255 := by
  have h : ((e >>> ((nI (8 * i)).toInt64 &&& 63)) &&& 255).toBitVec.toNat ≤ 255 := by
    rw [Int64.toBitVec_and, BitVec.toNat_and]
    exact Nat.and_le_right
  have h2 : (bytF e i).toBitVec = (((e >>> ((nI (8 * i)).toInt64 &&& 63)) &&& 255).toBitVec).signExtend 32 := rfl
  have h3 : (((e >>> ((nI (8 * i)).toInt64 &&& 63)) &&& 255).toBitVec).signExtend 32 = BitVec.ofNat 32 (((e >>> ((nI (8 * i)).toInt64 &&& 63)) &&& 255).toBitVec.toNat) := by
    rw [BitVec.signExtend_eq_setWidth_of_le _ (by decide)]
    apply BitVec.eq_of_toNat_eq
    rw [BitVec.toNat_setWidth, BitVec.toNat_ofNat]
  have h4 : bytF e i = nI (((e >>> ((nI (8 * i)).toInt64 &&& 63)) &&& 255).toBitVec.toNat) := by
    apply Int32.toBitVec_inj.mp
    rw [h2, h3]; rfl
  rw [h4, nI_toInt (by omega)]; omega
theorem fd_rg {g : Nat → Int32} {e : Int64} {t : Nat} (h : ∀ j, 0 ≤ (g j).toInt ∧ (g j).toInt ≤ 255) : ∀ i j, 0 ≤ (fdN g e t i j).toInt ∧ (fdN g e t i j).toInt ≤ 255
  | 0, j => h j
  | i + 1, j => by
    show 0 ≤ (upd (fdN g e t i) (t + i) (bytF e i) j).toInt ∧ (upd (fdN g e t i) (t + i) (bytF e i) j).toInt ≤ 255
    by_cases q : j = t + i
    · subst q; rw [upd_self]; exact byt_rg e i
    · rw [upd_ne q]; exact fd_rg h i j
theorem fnd_congr {P Q : Nat → Bool} (h : ∀ i, P i = Q i) {i d : Nat} : fndP P i d = fndP Q i d := by rw [show P = Q from funext h]
