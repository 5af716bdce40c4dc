/-! the class's parser -/
theorem nd_t {T : Nat → Int32} {t : Nat} {s : PS} (hw : s.1 = false) : ndS T t true s = (false, tkT T t s.2.1, s.2.2) := if_neg (by rw [hw]; decide)
theorem nd_f {T : Nat → Int32} {t : Nat} {s : PS} : ndS T t false s = (true, s.2) := if_pos (by simp)
theorem ph_0 {T : Nat → Int32} {t a : Nat} {b : Bool} {v : Int32} {s : PS} (hw : s.1 = false) (hb : b = false) : phS T t b a v s = s := (if_neg (by rw [hw]; decide)).trans (if_neg (by rw [hb]; decide))
theorem ph_w {T : Nat → Int32} {t a : Nat} {b : Bool} {v : Int32} {s : PS} (hw : ¬ s.1 = false) : phS T t b a v s = s := if_pos (by simpa using hw)
theorem nx_f {T : Nat → Int32} {t a : Nat} {v : Int32} {s : PS} (hn : nbB T t (nxS T t s).2.1 v = false) : ntS T t a v (nxS T t s) = (true, (nxS T t s).2) := (nt_f hn).trans nd_f
theorem nx_t {T : Nat → Int32} {t a : Nat} {v : Int32} {s : PS} (hw : s.1 = false) (hn : nbB T t (nxS T t s).2.1 v = true) : ntS T t a v (nxS T t s) = (false, tkT T t (nxS T t s).2.1, upd (nxS T t s).2.2 a (tkV T t (nxS T t s).2.1)) := (nt_t hn (by show ¬ s.1 = true; rw [hw]; decide)).trans (nd_t hw)
theorem ph_f {T : Nat → Int32} {t a : Nat} {b : Bool} {v : Int32} {s : PS} (hw : s.1 = false) (hb : b = true) (hn : nbB T t (nxS T t s).2.1 v = false) : phS T t b a v s = (true, (nxS T t s).2) := ((if_neg (by rw [hw]; decide)).trans (if_pos hb)).trans (nx_f hn)
theorem ph_t {T : Nat → Int32} {t a : Nat} {b : Bool} {v : Int32} {s : PS} (hw : s.1 = false) (hb : b = true) (hn : nbB T t (nxS T t s).2.1 v = true) : phS T t b a v s = (false, tkT T t (nxS T t s).2.1, upd (nxS T t s).2.2 a (tkV T t (nxS T t s).2.1)) := ((if_neg (by rw [hw]; decide)).trans (if_pos hb)).trans (nx_t hw hn)
theorem nb_of {T : Nat → Int32} {t i : Nat} {v : Int32} (h : nbB T t i v = true) : tkK T t i = 2 ∧ tkT T t i - tkF T t i ≤ 3 := by
  unfold nbB at h
  simp only [Bool.and_eq_true, decide_eq_true_eq] at h
  exact ⟨h.1, h.2.1⟩
def pC0 (T : Nat → Int32) (t n : Nat) (k : Int32) (s : PS) : PS := if k < 0 then (true, s.2) else if n < 8 then (false, tkT T t s.2.1, perC n s.2.2 k) else (true, s.2)
def pC1 (T : Nat → Int32) (t n : Nat) (k : Int32) (s : PS) : PS := phS T t (nameB T t (pC0 T t n k s).2.1 10) (8 + 5 * n + 1) 99 (pC0 T t n k s)
def pC2 (T : Nat → Int32) (t n : Nat) (k : Int32) (s : PS) : PS := phS T t (nameB T t (pC1 T t n k s).2.1 11) (8 + 5 * n + 2) 99 (pC1 T t n k s)
def pC3 (T : Nat → Int32) (t n : Nat) (k : Int32) (s : PS) : PS := phS T t (nameB T t (pC2 T t n k s).2.1 12) (8 + 5 * n + 3) 99 (pC2 T t n k s)
def pC4 (T : Nat → Int32) (t n : Nat) (k : Int32) (s : PS) : PS := phS T t (nameB T t (pC3 T t n k s).2.1 13) (8 + 5 * n + 4) 999 (pC3 T t n k s)
theorem pc_lt {T : Nat → Int32} {t n : Nat} {k : Int32} {s : PS} (h : k < 0) : pC0 T t n k s = (true, s.2) := if_pos h
theorem pc_fu {T : Nat → Int32} {t n : Nat} {k : Int32} {s : PS} (h : ¬ n < 8) : pC0 T t n k s = (true, s.2) := by
  unfold pC0
  rw [if_neg h]
  split <;> rfl
theorem pc_ok {T : Nat → Int32} {t n : Nat} {k : Int32} {s : PS} (h : ¬ k < 0) (hn : n < 8) : pC0 T t n k s = (false, tkT T t s.2.1, perC n s.2.2 k) := (if_neg h).trans (if_pos hn)
theorem pc_3 {T : Nat → Int32} {t n : Nat} {k : Int32} {s : PS} (h : ¬ (pC3 T t n k s).1 = false) : pC4 T t n k s = pC3 T t n k s := ph_w h
theorem pc_2 {T : Nat → Int32} {t n : Nat} {k : Int32} {s : PS} (h : ¬ (pC2 T t n k s).1 = false) : pC4 T t n k s = pC2 T t n k s := by
  have e : pC3 T t n k s = pC2 T t n k s := ph_w h
  rw [pc_3 (by rw [e]; exact h), e]
theorem pc_1 {T : Nat → Int32} {t n : Nat} {k : Int32} {s : PS} (h : ¬ (pC1 T t n k s).1 = false) : pC4 T t n k s = pC1 T t n k s := by
  have e : pC2 T t n k s = pC1 T t n k s := ph_w h
  rw [pc_2 (by rw [e]; exact h), e]
theorem pc_0 {T : Nat → Int32} {t n : Nat} {k : Int32} {s : PS} (h : ¬ (pC0 T t n k s).1 = false) : pC4 T t n k s = pC0 T t n k s := by
  have e : pC1 T t n k s = pC0 T t n k s := ph_w h
  rw [pc_1 (by rw [e]; exact h), e]
theorem pc_w {T : Nat → Int32} {t n : Nat} {k : Int32} {s : PS} (h : pC0 T t n k s = (true, s.2)) : pC4 T t n k s = (true, s.2) := (pc_0 (by rw [h]; simp)).trans h
/-- an entry without its sign -/
def eC1 (T : Nat → Int32) (t n : Nat) (s : PS) : PS := if laC T t s.2.1 < 0 then pC4 T t n (kiC T t s.2.1) s else ntS T t (4 + (laC T t s.2.1).toNatClampNeg) (tbl1.getD (laC T t s.2.1).toNatClampNeg 0) (nxS T t s)
def itC (T : Nat → Int32) (t n : Nat) (s : PS) : PS := ndS T t (seB T t (eC1 T t n s).2.1) (eC1 T t n s)
theorem lc_no {T : Nat → Int32} {t i : Nat} (h : ¬ tkK T t i = 1) : laC T t i = -1 ∧ kiC T t i = -1 := by
  have e : ∀ q, ¬ nameB T t i q = true := fun q => by rw [na_1 h]; decide
  exact ⟨by rw [laC, if_neg (e 0), if_neg (e 1), if_neg (e 2), if_neg (e 3)], by rw [kiC, if_neg (e 4), if_neg (e 5), if_neg (e 6), if_neg (e 7), if_neg (e 8), if_neg (e 9)]⟩
theorem lc_nat {T : Nat → Int32} {t i : Nat} (h : ¬ laC T t i < 0) : ∃ a, a < 4 ∧ laC T t i = nI a := by
  unfold laC at h ⊢
  split
  · exact ⟨0, by decide, rfl⟩
  · split
    · exact ⟨1, by decide, rfl⟩
    · split
      · exact ⟨2, by decide, rfl⟩
      · split
        · exact ⟨3, by decide, rfl⟩
        · rename_i h1 h2 h3 h4
          rw [if_neg h1, if_neg h2, if_neg h3, if_neg h4] at h
          exact absurd (by decide) h
theorem ec_p {T : Nat → Int32} {t n : Nat} {s : PS} (h : laC T t s.2.1 < 0) : eC1 T t n s = pC4 T t n (kiC T t s.2.1) s := if_pos h
theorem ec_l {T : Nat → Int32} {t n a : Nat} {s : PS} (h : ¬ laC T t s.2.1 < 0) (ha : a < 4) (e : laC T t s.2.1 = nI a) : eC1 T t n s = ntS T t (4 + a) (tbl1.getD a 0) (nxS T t s) := by
  refine (if_neg h).trans ?_
  rw [e, nI_clamp (by omega)]
theorem ic_no {T : Nat → Int32} {t n : Nat} {s : PS} (h : ¬ tkK T t s.2.1 = 1) : itC T t n s = (true, s.2) := by
  obtain ⟨h1, h2⟩ := lc_no h
  have e : eC1 T t n s = (true, s.2) := by
    rw [ec_p (by rw [h1]; decide)]
    exact pc_w (pc_lt (by rw [h2]; decide))
  unfold itC
  rw [e]; exact if_pos rfl
theorem ic_w {T : Nat → Int32} {t n : Nat} {s : PS} (h : ¬ (eC1 T t n s).1 = false) : itC T t n s = (true, (eC1 T t n s).2) := if_pos (by
  cases hs : (eC1 T t n s).1 with
  | false => exact absurd hs h
  | true => rfl)
theorem ic_f {T : Nat → Int32} {t n : Nat} {s : PS} (h : seB T t (eC1 T t n s).2.1 = false) : itC T t n s = (true, (eC1 T t n s).2) := by unfold itC; rw [h]; exact nd_f
theorem ic_t {T : Nat → Int32} {t n : Nat} {s : PS} (hw : (eC1 T t n s).1 = false) (h : seB T t (eC1 T t n s).2.1 = true) : itC T t n s = (false, tkT T t (eC1 T t n s).2.1, (eC1 T t n s).2.2) := by unfold itC; rw [h]; exact nd_t hw
theorem pC0_le {T : Nat → Int32} {t n : Nat} {k : Int32} {s : PS} (h : s.2.1 ≤ t) : (pC0 T t n k s).2.1 ≤ t := by
  unfold pC0; split
  · exact h
  · split
    · exact (tkT_le h).2
    · exact h
theorem pC1_le {T : Nat → Int32} {t n : Nat} {k : Int32} {s : PS} (h : s.2.1 ≤ t) : (pC1 T t n k s).2.1 ≤ t := phS_le (pC0_le h)
theorem pC2_le {T : Nat → Int32} {t n : Nat} {k : Int32} {s : PS} (h : s.2.1 ≤ t) : (pC2 T t n k s).2.1 ≤ t := phS_le (pC1_le h)
theorem pC3_le {T : Nat → Int32} {t n : Nat} {k : Int32} {s : PS} (h : s.2.1 ≤ t) : (pC3 T t n k s).2.1 ≤ t := phS_le (pC2_le h)
theorem pC4_le {T : Nat → Int32} {t n : Nat} {k : Int32} {s : PS} (h : s.2.1 ≤ t) : (pC4 T t n k s).2.1 ≤ t := phS_le (pC3_le h)
theorem eC1_le {T : Nat → Int32} {t n : Nat} {s : PS} (h : s.2.1 ≤ t) : (eC1 T t n s).2.1 ≤ t := by
  unfold eC1; split
  · exact pC4_le h
  · exact ntS_le (nxS_le h)
theorem itC_le {T : Nat → Int32} {t n : Nat} {s : PS} (h : s.2.1 ≤ t) : (itC T t n s).2.1 ≤ t := ndS_le (eC1_le h)
theorem pC0_ge {T : Nat → Int32} {t n : Nat} {k : Int32} {s : PS} (h : s.2.1 ≤ t) : s.2.1 ≤ (pC0 T t n k s).2.1 := by
  have h1 := tkF_le (T := T) h
  have h2 := tkT_le (T := T) h
  unfold pC0; split
  · exact Nat.le_refl _
  · split
    · show s.2.1 ≤ tkT T t s.2.1; omega
    · exact Nat.le_refl _
theorem eC1_ge {T : Nat → Int32} {t n : Nat} {s : PS} (h : s.2.1 ≤ t) : s.2.1 ≤ (eC1 T t n s).2.1 := by
  unfold eC1; split
  · exact Nat.le_trans (pC0_ge h) (Nat.le_trans (phS_ge (pC0_le h)) (Nat.le_trans (phS_ge (pC1_le h)) (Nat.le_trans (phS_ge (pC2_le h)) (phS_ge (pC3_le h)))))
  · exact Nat.le_trans (nxS_ge h) (ntS_ge (nxS_le h))
theorem itC_gt {T : Nat → Int32} {t n : Nat} {s : PS} (h : s.2.1 ≤ t) (hw : (itC T t n s).1 = false) : s.2.1 < (itC T t n s).2.1 := by
  have h1 := eC1_ge (T := T) (n := n) h
  have h2 := eC1_le (T := T) (n := n) h
  have h3 := ndS_1 (T := T) (t := t) (b := seB T t (eC1 T t n s).2.1) (s := eC1 T t n s) hw
  have h4 : (itC T t n s).2.1 = tkT T t (eC1 T t n s).2.1 := by
    unfold itC ndS
    rw [h3.1, h3.2]; rfl
  have h5 : tkK T t (eC1 T t n s).2.1 = 3 := by
    have := h3.1
    unfold seB at this
    exact of_decide_eq_true ((Bool.and_eq_true _ _).mp this).1
  have h6 : tkT T t (eC1 T t n s).2.1 = tkF T t (eC1 T t n s).2.1 + 1 := by
    rw [tkT, if_neg (by omega), if_neg (by omega), if_pos h5]
  have h7 := tkF_le (T := T) h2
  omega
theorem pC_N {T : Nat → Int32} {t n : Nat} {k : Int32} {s : PS} (hn : n ≤ 8) (h : s.2.2 0 = nI n) : ∃ q, q ≤ 8 ∧ (pC4 T t n k s).2.2 0 = nI q := by
  have h0 : ∃ q, q ≤ 8 ∧ (pC0 T t n k s).2.2 0 = nI q := by
    by_cases hk : k < 0
    · exact ⟨n, hn, by rw [pc_lt hk]; exact h⟩
    · by_cases h8 : n < 8
      · exact ⟨n + 1, by omega, by rw [pc_ok hk h8]; show perC n s.2.2 k 0 = _; unfold perC; exact upd_self⟩
      · exact ⟨n, hn, by rw [pc_fu h8]; exact h⟩
  obtain ⟨q, hq, h0⟩ := h0
  exact ⟨q, hq, ph_N (by omega) (ph_N (by omega) (ph_N (by omega) (ph_N (by omega) h0)))⟩
theorem iC_N {T : Nat → Int32} {t n : Nat} {s : PS} (hn : n ≤ 8) (h : s.2.2 0 = nI n) : ∃ q, q ≤ 8 ∧ (itC T t n s).2.2 0 = nI q := by
  have : ∃ q, q ≤ 8 ∧ (eC1 T t n s).2.2 0 = nI q := by
    by_cases hl : laC T t s.2.1 < 0
    · rw [ec_p hl]; exact pC_N hn h
    · obtain ⟨a, ha, e⟩ := lc_nat hl
      exact ⟨n, hn, by rw [ec_l hl ha e]; exact nt_N (by omega) h⟩
  obtain ⟨q, hq, h1⟩ := this
  exact ⟨q, hq, by unfold itC; rw [ndS_m]; exact h1⟩
/-- the state after d entries -/
def iCN (T : Nat → Int32) (t : Nat) (m : Nat → Int32) : Nat → PS
  | 0 => (false, 0, m)
  | d + 1 => itC T t ((iCN T t m d).2.2 0).toNatClampNeg (iCN T t m d)
def mCF (T : Nat → Int32) (t : Nat) : Nat → PS → PS
  | 0, s => s
  | d + 1, s => if (!s.1 && !decide (tkK T t s.2.1 = 0)) = true then mCF T t d (itC T t (s.2.2 0).toNatClampNeg s) else s
def mCS (T : Nat → Int32) (t : Nat) (m : Nat → Int32) : PS := mCF T t (t + 1) (false, 0, m)
def MCI (T : Nat → Int32) (t : Nat) (m : Nat → Int32) (d : Nat) : Prop :=
  mCS T t m = mCF T t (t + 1 - d) (iCN T t m d) ∧ (iCN T t m d).2.1 ≤ t ∧ (iCN T t m d).1 = false ∧ d ≤ (iCN T t m d).2.1 ∧ ∃ n, n ≤ 8 ∧ (iCN T t m d).2.2 0 = nI n
theorem mc_0 {T : Nat → Int32} {t : Nat} {m : Nat → Int32} (h : m 0 = 0) : MCI T t m 0 := ⟨rfl, Nat.zero_le _, rfl, Nat.zero_le _, 0, by decide, h⟩
theorem mc_le {T : Nat → Int32} {t d : Nat} {m : Nat → Int32} (h : MCI T t m d) : d ≤ t := Nat.le_trans h.2.2.2.1 h.2.1
theorem mc_k {T : Nat → Int32} {t d : Nat} {m : Nat → Int32} (h : MCI T t m d) (hk : tkK T t (iCN T t m d).2.1 ≠ 0) : mCS T t m = mCF T t (t - d) (iCN T t m (d + 1)) := by
  have hl := mc_le h
  rw [h.1, show t + 1 - d = (t - d) + 1 by omega]
  exact if_pos (by rw [h.2.2.1, decide_eq_false hk]; rfl)
theorem mc_s {T : Nat → Int32} {t d : Nat} {m : Nat → Int32} (h : MCI T t m d) (hk : tkK T t (iCN T t m d).2.1 ≠ 0) (hw : (iCN T t m (d + 1)).1 = false) : MCI T t m (d + 1) := by
  obtain ⟨n, hn, hN⟩ := h.2.2.2.2
  have e_n : ((iCN T t m d).2.2 0).toNatClampNeg = n := by rw [hN]; exact nI_clamp (by omega)
  have hw2 : (itC T t ((iCN T t m d).2.2 0).toNatClampNeg (iCN T t m d)).1 = false := hw
  refine ⟨by rw [mc_k h hk, show t + 1 - (d + 1) = t - d by omega], itC_le h.2.1, hw, Nat.lt_of_le_of_lt h.2.2.2.1 (itC_gt h.2.1 hw2), ?_⟩
  show ∃ q, q ≤ 8 ∧ (itC T t ((iCN T t m d).2.2 0).toNatClampNeg (iCN T t m d)).2.2 0 = nI q
  rw [e_n]
  exact iC_N hn hN
theorem mCF_id {T : Nat → Int32} {t : Nat} {s : PS} (hg : (!s.1 && !decide (tkK T t s.2.1 = 0)) = false) : ∀ d, mCF T t d s = s
  | 0 => rfl
  | _ + 1 => if_neg (by rw [hg]; decide)
theorem mc_w {T : Nat → Int32} {t d : Nat} {m : Nat → Int32} (h : MCI T t m d) (hk : tkK T t (iCN T t m d).2.1 ≠ 0) (hw : ¬ (iCN T t m (d + 1)).1 = false) : mCS T t m = iCN T t m (d + 1) :=
  (mc_k h hk).trans (mCF_id (by
    cases hs : (iCN T t m (d + 1)).1 with
    | false => exact absurd hs hw
    | true => rfl) _)
theorem mc_e {T : Nat → Int32} {t d : Nat} {m : Nat → Int32} (h : MCI T t m d) (hk : tkK T t (iCN T t m d).2.1 = 0) : mCS T t m = iCN T t m d := h.1.trans (mCF_id (by rw [decide_eq_true hk]; simp) _)
theorem bfF_0 (m : Nat → Int32) : bfF m 0 = 0 := by
  unfold bfF; rw [upd_ne (by decide), upd_ne (by decide), upd_self]
/-! bytes come -/
theorem bytR_u {f : Nat → Int32} {j : Nat} {x y : Int32} (h : x.toInt8 = y.toInt8) : bytR (upd f j x) = bytR (upd f j y) := by
  funext i
  unfold bytR
  by_cases q : i = j
  · subst q; rw [upd_self, upd_self, h]
  · rw [upd_ne q, upd_ne q]
theorem wX_txt {cs : Nat → ClassId} {h : Nat → Nat} {σ : Nat → Nat → Int32} {f g : Nat → Int32} (e : bytR f = bytR g) : wX cs h (su σ 5 f) = wX cs h (su σ 5 g) := by
  show wXp cs h (su σ 5 f) (bytR f) _ _ = wXp cs h (su σ 5 g) (bytR g) _ _
  rw [e]; rfl
theorem by_L : ∀ i, i < 8 → (((nI (8 * i)).toInt64.toUInt64 &&& Int64.toUInt64 63).toBitVec % 64).toNat = 8 * i := by decide +kernel
theorem by_A : ∀ i, i < 8 → (((nI (8 * i)).toInt64 &&& 63).toBitVec.smod 64).toNat = 8 * i := by decide +kernel
theorem by_M : ∀ k, k < 8 → (255#64).getLsbD k = true := by decide +kernel
theorem by_8 (e : Int64) (i : Nat) (hi : i < 8) : (e.toUInt64 >>> ((nI (8 * i)).toInt64.toUInt64 &&& Int64.toUInt64 63)).toInt64.toInt32.toInt8.toInt32.toInt8 = (bytF e i).toInt8 := by
  rw [show ∀ x : Int8, x.toInt32.toInt8 = x from fun x => by simp]
  apply Int8.toBitVec_inj.mp
  apply BitVec.eq_of_getLsbD_eq
  intro k hk
  show ((((e.toUInt64 >>> ((nI (8 * i)).toInt64.toUInt64 &&& Int64.toUInt64 63)).toBitVec).signExtend 32).signExtend 8).getLsbD k = (((((e >>> ((nI (8 * i)).toInt64 &&& 63)) &&& 255).toBitVec).signExtend 32).signExtend 8).getLsbD k
  rw [BitVec.getLsbD_signExtend, BitVec.getLsbD_signExtend, if_pos (by omega), if_pos (by omega), BitVec.getLsbD_signExtend, BitVec.getLsbD_signExtend, if_pos (by omega), if_pos (by omega)]
  rw [Int64.toBitVec_and, BitVec.getLsbD_and, show (255 : Int64).toBitVec = 255#64 from rfl, by_M k hk, Bool.and_true, UInt64.toBitVec_shiftRight, Int64.toBitVec_shiftRight]
  rw [BitVec.ushiftRight_eq', BitVec.getLsbD_ushiftRight, BitVec.sshiftRight_eq', BitVec.getLsbD_sshiftRight, by_L i hi, by_A i hi, if_pos (by omega)]
  rw [decide_eq_false (show ¬ 64 ≤ k by omega)]; rfl
theorem i8_i32 (x : Int8) : x.toInt32.toInt8 = x := by simp
