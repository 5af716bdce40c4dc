def FLT : List Cond := flatC (Jvm.Cond.and given_1 narrow_1)
theorem fl_at {w : Cond} (i : Nat) (h : FLT[i]? = some w) : w ∈ FLT := List.mem_of_getElem? h
theorem tb_1 {w : Cond} (i : Nat) (h : tables_1_1[i]? = some w) : w ∈ lw_tbl := List.mem_append_right _ (List.mem_append_left _ (List.mem_of_getElem? h))
theorem tb_2 {w : Cond} (i : Nat) (h : tables_1_2[i]? = some w) : w ∈ lw_tbl := List.mem_append_right _ (List.mem_append_right _ (List.mem_append_left _ (List.mem_of_getElem? h)))
theorem arr_of {s : State} {cA : ClassId} {k : Class} {comp : ClassId} {ty : FieldType} (hk : s.vm.classes[cA]? = some k) (hkind : k.kind = .array comp ty) : ArrOfT s cA ty := fun n z => ⟨(fun q h => by cases h), k, hk, comp, hkind⟩
theorem len_ex {args : Array Value} {s : State} {tm : Term} {N : Nat} (hN : N < 2 ^ 31) (hv : (Term.length tm).eval args s none [] s = some (.int (Int32.ofNat N))) {t : Nat} (ht : tm.eval args s none [] s = some (.ref t)) : ∃ cell : Cell, s.heap[t]? = some cell ∧ cell.slots.size = N := by
  obtain ⟨b, cell, hb, harr, he⟩ := Term.length_spec hv
  cases ht.symm.trans hb
  have hsz : cell.slots.size < 2 ^ 31 := by
    simp only [Term.eval, hb, harr, Option.bind_eq_bind, Option.bind_some] at hv
    by_cases hlt : cell.slots.size < 2147483648
    · exact hlt
    · simp [hlt] at hv
  obtain ⟨hcell, -, -, -⟩ := State.arrayAt?_spec harr
  have e : nI cell.slots.size = nI N := (Value.int.inj he).symm
  have e2 := congrArg Int32.toInt e
  rw [nI_toInt hsz, nI_toInt hN] at e2
  exact ⟨cell, hcell, by omega⟩
theorem vk_S_as {N : Nat} {len : List Nat} {byt : List (List Int32)} {f g f' g' : Nat → Nat} {A : Nat → Prop} {U : State} {H : Heap} (h : vk_S N len byt f g A U H) (e1 : ∀ i, i < N → f' i = f i) (e2 : ∀ i, i < N → g' i = g i) : vk_S N len byt f' g' A U H :=
  ⟨fun i hi => by rw [e1 i hi, e2 i hi]; exact h.1 i hi, fun i j hi hj e => h.2 i j hi hj (by rw [e1 i hi, e1 j hj] at e; exact e)⟩
section START
variable {b : Nat} {s : State}
theorem sl_LAW_AT_FIRST (hf : ∀ w ∈ FLT, w.before #[Value.ref b] s = true) : (Term.length (Term.static "WoolMarket" "LAW_AT_FIRST" "[I")).eval #[Value.ref b] s none [] s = some (.int (Int32.ofNat 4)) := va_eqt (hf _ (fl_at 6 (by decide +kernel)))
theorem sb_LAW_AT_FIRST (hf : ∀ w ∈ FLT, w.before #[Value.ref b] s = true) (ht : ∀ w ∈ lw_tbl, w.before #[Value.ref b] s = true) : ∃ t : Nat, (Term.static "WoolMarket" "LAW_AT_FIRST" "[I").eval #[Value.ref b] s none [] s = some (.ref t) ∧ va_Z "WoolMarket" "LAW_AT_FIRST" "[I" (.ref t) (fun q => s.heap.size ≤ q) s s.heap ∧ va_T .int t tbl0.length (fun j => .int (tbl0.getD j 0)) (fun q => s.heap.size ≤ q) s s.heap := by
  have hel : ∀ j : Nat, j < 4 → (Term.elem (Term.static "WoolMarket" "LAW_AT_FIRST" "[I") (.int (Int32.ofNat j))).eval #[Value.ref b] s none [] s = some (.int (tbl0.getD j 0)) := fun j hj => by
    have hc : j = 0 ∨ j = 1 ∨ j = 2 ∨ j = 3 := by omega
    rcases hc with rfl | rfl | rfl | rfl
    · exact va_eqt (hf _ (fl_at 7 (by decide +kernel)))
    · exact va_eqt (hf _ (fl_at 8 (by decide +kernel)))
    · exact va_eqt (hf _ (fl_at 9 (by decide +kernel)))
    · exact va_eqt (hf _ (fl_at 10 (by decide +kernel)))
  obtain ⟨t, h1, h2⟩ := va_Tof (tm := (Term.static "WoolMarket" "LAW_AT_FIRST" "[I")) (ty := .int) (N := 4) (f := fun j => .int (tbl0.getD j 0)) (A := (fun q => s.heap.size ≤ q)) (by decide) (hf _ (fl_at 5 (by decide +kernel))) (sl_LAW_AT_FIRST hf) hel (fun a h k => absurd h (Nat.not_lt.mpr k))
  exact ⟨t, h1, va_Zof (ht _ (tb_1 30 (by decide +kernel))) (ht _ (alw_tbl in_RX5)) h1 (fun a h k => absurd h (Nat.not_lt.mpr k)), h2⟩
theorem sl_LAW_MOST (hf : ∀ w ∈ FLT, w.before #[Value.ref b] s = true) : (Term.length (Term.static "WoolMarket" "LAW_MOST" "[I")).eval #[Value.ref b] s none [] s = some (.int (Int32.ofNat 4)) := va_eqt (hf _ (fl_at 18 (by decide +kernel)))
theorem sb_LAW_MOST (hf : ∀ w ∈ FLT, w.before #[Value.ref b] s = true) (ht : ∀ w ∈ lw_tbl, w.before #[Value.ref b] s = true) : ∃ t : Nat, (Term.static "WoolMarket" "LAW_MOST" "[I").eval #[Value.ref b] s none [] s = some (.ref t) ∧ va_Z "WoolMarket" "LAW_MOST" "[I" (.ref t) (fun q => s.heap.size ≤ q) s s.heap ∧ va_T .int t tbl1.length (fun j => .int (tbl1.getD j 0)) (fun q => s.heap.size ≤ q) s s.heap := by
  have hel : ∀ j : Nat, j < 4 → (Term.elem (Term.static "WoolMarket" "LAW_MOST" "[I") (.int (Int32.ofNat j))).eval #[Value.ref b] s none [] s = some (.int (tbl1.getD j 0)) := fun j hj => by
    have hc : j = 0 ∨ j = 1 ∨ j = 2 ∨ j = 3 := by omega
    rcases hc with rfl | rfl | rfl | rfl
    · exact va_eqt (hf _ (fl_at 19 (by decide +kernel)))
    · exact va_eqt (hf _ (fl_at 20 (by decide +kernel)))
    · exact va_eqt (hf _ (fl_at 21 (by decide +kernel)))
    · exact va_eqt (hf _ (fl_at 22 (by decide +kernel)))
  obtain ⟨t, h1, h2⟩ := va_Tof (tm := (Term.static "WoolMarket" "LAW_MOST" "[I")) (ty := .int) (N := 4) (f := fun j => .int (tbl1.getD j 0)) (A := (fun q => s.heap.size ≤ q)) (by decide) (hf _ (fl_at 17 (by decide +kernel))) (sl_LAW_MOST hf) hel (fun a h k => absurd h (Nat.not_lt.mpr k))
  exact ⟨t, h1, va_Zof (ht _ (tb_2 69 (by decide +kernel))) (ht _ (alw_tbl in_RX5)) h1 (fun a h k => absurd h (Nat.not_lt.mpr k)), h2⟩
theorem sl_TRAIT_MOST (hf : ∀ w ∈ FLT, w.before #[Value.ref b] s = true) : (Term.length (Term.static "WoolMarket" "TRAIT_MOST" "[I")).eval #[Value.ref b] s none [] s = some (.int (Int32.ofNat 5)) := va_eqt (hf _ (fl_at 25 (by decide +kernel)))
theorem sb_TRAIT_MOST (hf : ∀ w ∈ FLT, w.before #[Value.ref b] s = true) (ht : ∀ w ∈ lw_tbl, w.before #[Value.ref b] s = true) : ∃ t : Nat, (Term.static "WoolMarket" "TRAIT_MOST" "[I").eval #[Value.ref b] s none [] s = some (.ref t) ∧ va_Z "WoolMarket" "TRAIT_MOST" "[I" (.ref t) (fun q => s.heap.size ≤ q) s s.heap ∧ va_T .int t tbl2.length (fun j => .int (tbl2.getD j 0)) (fun q => s.heap.size ≤ q) s s.heap := by
  have hel : ∀ j : Nat, j < 5 → (Term.elem (Term.static "WoolMarket" "TRAIT_MOST" "[I") (.int (Int32.ofNat j))).eval #[Value.ref b] s none [] s = some (.int (tbl2.getD j 0)) := fun j hj => by
    have hc : j = 0 ∨ j = 1 ∨ j = 2 ∨ j = 3 ∨ j = 4 := by omega
    rcases hc with rfl | rfl | rfl | rfl | rfl
    · exact va_eqt (hf _ (fl_at 26 (by decide +kernel)))
    · exact va_eqt (hf _ (fl_at 27 (by decide +kernel)))
    · exact va_eqt (hf _ (fl_at 28 (by decide +kernel)))
    · exact va_eqt (hf _ (fl_at 29 (by decide +kernel)))
    · exact va_eqt (hf _ (fl_at 30 (by decide +kernel)))
  obtain ⟨t, h1, h2⟩ := va_Tof (tm := (Term.static "WoolMarket" "TRAIT_MOST" "[I")) (ty := .int) (N := 5) (f := fun j => .int (tbl2.getD j 0)) (A := (fun q => s.heap.size ≤ q)) (by decide) (hf _ (fl_at 24 (by decide +kernel))) (sl_TRAIT_MOST hf) hel (fun a h k => absurd h (Nat.not_lt.mpr k))
  exact ⟨t, h1, va_Zof (ht _ (tb_2 136 (by decide +kernel))) (ht _ (alw_tbl in_RX5)) h1 (fun a h k => absurd h (Nat.not_lt.mpr k)), h2⟩
def tmS (i : Nat) : Term := Term.string RX3 (jsK.getD i 0)
theorem ss_ne (hf : ∀ w ∈ FLT, w.before #[Value.ref b] s = true) : ∀ i j : Nat, i < 14 → j < 14 → i ≠ j → (Cond.not (Cond.eq (tmS i) (tmS j))).before #[Value.ref b] s = true ∨ (Cond.not (Cond.eq (tmS j) (tmS i))).before #[Value.ref b] s = true := by
  intro i j hi hj hn
  have hci : i = 0 ∨ i = 1 ∨ i = 2 ∨ i = 3 ∨ i = 4 ∨ i = 5 ∨ i = 6 ∨ i = 7 ∨ i = 8 ∨ i = 9 ∨ i = 10 ∨ i = 11 ∨ i = 12 ∨ i = 13 := by omega
  have hcj : j = 0 ∨ j = 1 ∨ j = 2 ∨ j = 3 ∨ j = 4 ∨ j = 5 ∨ j = 6 ∨ j = 7 ∨ j = 8 ∨ j = 9 ∨ j = 10 ∨ j = 11 ∨ j = 12 ∨ j = 13 := by omega
  rcases hci with rfl | rfl | rfl | rfl | rfl | rfl | rfl | rfl | rfl | rfl | rfl | rfl | rfl | rfl
  · rcases hcj with rfl | rfl | rfl | rfl | rfl | rfl | rfl | rfl | rfl | rfl | rfl | rfl | rfl | rfl
    · exact absurd rfl hn
    · exact Or.inl (hf _ (fl_at 61 (by decide +kernel)))
    · exact Or.inl (hf _ (fl_at 70 (by decide +kernel)))
    · exact Or.inl (hf _ (fl_at 80 (by decide +kernel)))
    · exact Or.inl (hf _ (fl_at 92 (by decide +kernel)))
    · exact Or.inl (hf _ (fl_at 104 (by decide +kernel)))
    · exact Or.inl (hf _ (fl_at 123 (by decide +kernel)))
    · exact Or.inl (hf _ (fl_at 140 (by decide +kernel)))
    · exact Or.inl (hf _ (fl_at 156 (by decide +kernel)))
    · exact Or.inl (hf _ (fl_at 173 (by decide +kernel)))
    · exact Or.inl (hf _ (fl_at 191 (by decide +kernel)))
    · exact Or.inl (hf _ (fl_at 209 (by decide +kernel)))
    · exact Or.inl (hf _ (fl_at 227 (by decide +kernel)))
    · exact Or.inl (hf _ (fl_at 248 (by decide +kernel)))
  · rcases hcj with rfl | rfl | rfl | rfl | rfl | rfl | rfl | rfl | rfl | rfl | rfl | rfl | rfl | rfl
    · exact Or.inr (hf _ (fl_at 61 (by decide +kernel)))
    · exact absurd rfl hn
    · exact Or.inl (hf _ (fl_at 71 (by decide +kernel)))
    · exact Or.inl (hf _ (fl_at 81 (by decide +kernel)))
    · exact Or.inl (hf _ (fl_at 93 (by decide +kernel)))
    · exact Or.inl (hf _ (fl_at 105 (by decide +kernel)))
    · exact Or.inl (hf _ (fl_at 124 (by decide +kernel)))
    · exact Or.inl (hf _ (fl_at 141 (by decide +kernel)))
    · exact Or.inl (hf _ (fl_at 157 (by decide +kernel)))
    · exact Or.inl (hf _ (fl_at 174 (by decide +kernel)))
    · exact Or.inl (hf _ (fl_at 192 (by decide +kernel)))
    · exact Or.inl (hf _ (fl_at 210 (by decide +kernel)))
    · exact Or.inl (hf _ (fl_at 228 (by decide +kernel)))
    · exact Or.inl (hf _ (fl_at 249 (by decide +kernel)))
  · rcases hcj with rfl | rfl | rfl | rfl | rfl | rfl | rfl | rfl | rfl | rfl | rfl | rfl | rfl | rfl
    · exact Or.inr (hf _ (fl_at 70 (by decide +kernel)))
    · exact Or.inr (hf _ (fl_at 71 (by decide +kernel)))
    · exact absurd rfl hn
    · exact Or.inl (hf _ (fl_at 82 (by decide +kernel)))
    · exact Or.inl (hf _ (fl_at 94 (by decide +kernel)))
    · exact Or.inl (hf _ (fl_at 106 (by decide +kernel)))
    · exact Or.inl (hf _ (fl_at 125 (by decide +kernel)))
    · exact Or.inl (hf _ (fl_at 142 (by decide +kernel)))
    · exact Or.inl (hf _ (fl_at 158 (by decide +kernel)))
    · exact Or.inl (hf _ (fl_at 175 (by decide +kernel)))
    · exact Or.inl (hf _ (fl_at 193 (by decide +kernel)))
    · exact Or.inl (hf _ (fl_at 211 (by decide +kernel)))
    · exact Or.inl (hf _ (fl_at 229 (by decide +kernel)))
    · exact Or.inl (hf _ (fl_at 250 (by decide +kernel)))
  · rcases hcj with rfl | rfl | rfl | rfl | rfl | rfl | rfl | rfl | rfl | rfl | rfl | rfl | rfl | rfl
    · exact Or.inr (hf _ (fl_at 80 (by decide +kernel)))
    · exact Or.inr (hf _ (fl_at 81 (by decide +kernel)))
    · exact Or.inr (hf _ (fl_at 82 (by decide +kernel)))
    · exact absurd rfl hn
    · exact Or.inl (hf _ (fl_at 95 (by decide +kernel)))
    · exact Or.inl (hf _ (fl_at 107 (by decide +kernel)))
    · exact Or.inl (hf _ (fl_at 126 (by decide +kernel)))
    · exact Or.inl (hf _ (fl_at 143 (by decide +kernel)))
    · exact Or.inl (hf _ (fl_at 159 (by decide +kernel)))
    · exact Or.inl (hf _ (fl_at 176 (by decide +kernel)))
    · exact Or.inl (hf _ (fl_at 194 (by decide +kernel)))
    · exact Or.inl (hf _ (fl_at 212 (by decide +kernel)))
    · exact Or.inl (hf _ (fl_at 230 (by decide +kernel)))
    · exact Or.inl (hf _ (fl_at 251 (by decide +kernel)))
  · rcases hcj with rfl | rfl | rfl | rfl | rfl | rfl | rfl | rfl | rfl | rfl | rfl | rfl | rfl | rfl
    · exact Or.inr (hf _ (fl_at 92 (by decide +kernel)))
    · exact Or.inr (hf _ (fl_at 93 (by decide +kernel)))
    · exact Or.inr (hf _ (fl_at 94 (by decide +kernel)))
    · exact Or.inr (hf _ (fl_at 95 (by decide +kernel)))
    · exact absurd rfl hn
    · exact Or.inl (hf _ (fl_at 108 (by decide +kernel)))
    · exact Or.inl (hf _ (fl_at 127 (by decide +kernel)))
    · exact Or.inl (hf _ (fl_at 144 (by decide +kernel)))
    · exact Or.inl (hf _ (fl_at 160 (by decide +kernel)))
    · exact Or.inl (hf _ (fl_at 177 (by decide +kernel)))
    · exact Or.inl (hf _ (fl_at 195 (by decide +kernel)))
    · exact Or.inl (hf _ (fl_at 213 (by decide +kernel)))
    · exact Or.inl (hf _ (fl_at 231 (by decide +kernel)))
    · exact Or.inl (hf _ (fl_at 252 (by decide +kernel)))
  · rcases hcj with rfl | rfl | rfl | rfl | rfl | rfl | rfl | rfl | rfl | rfl | rfl | rfl | rfl | rfl
    · exact Or.inr (hf _ (fl_at 104 (by decide +kernel)))
    · exact Or.inr (hf _ (fl_at 105 (by decide +kernel)))
    · exact Or.inr (hf _ (fl_at 106 (by decide +kernel)))
    · exact Or.inr (hf _ (fl_at 107 (by decide +kernel)))
    · exact Or.inr (hf _ (fl_at 108 (by decide +kernel)))
    · exact absurd rfl hn
    · exact Or.inl (hf _ (fl_at 128 (by decide +kernel)))
    · exact Or.inl (hf _ (fl_at 145 (by decide +kernel)))
    · exact Or.inl (hf _ (fl_at 161 (by decide +kernel)))
    · exact Or.inl (hf _ (fl_at 178 (by decide +kernel)))
    · exact Or.inl (hf _ (fl_at 196 (by decide +kernel)))
    · exact Or.inl (hf _ (fl_at 214 (by decide +kernel)))
    · exact Or.inl (hf _ (fl_at 232 (by decide +kernel)))
    · exact Or.inl (hf _ (fl_at 253 (by decide +kernel)))
  · rcases hcj with rfl | rfl | rfl | rfl | rfl | rfl | rfl | rfl | rfl | rfl | rfl | rfl | rfl | rfl
    · exact Or.inr (hf _ (fl_at 123 (by decide +kernel)))
    · exact Or.inr (hf _ (fl_at 124 (by decide +kernel)))
    · exact Or.inr (hf _ (fl_at 125 (by decide +kernel)))
    · exact Or.inr (hf _ (fl_at 126 (by decide +kernel)))
    · exact Or.inr (hf _ (fl_at 127 (by decide +kernel)))
    · exact Or.inr (hf _ (fl_at 128 (by decide +kernel)))
    · exact absurd rfl hn
    · exact Or.inl (hf _ (fl_at 146 (by decide +kernel)))
    · exact Or.inl (hf _ (fl_at 162 (by decide +kernel)))
    · exact Or.inl (hf _ (fl_at 179 (by decide +kernel)))
    · exact Or.inl (hf _ (fl_at 197 (by decide +kernel)))
    · exact Or.inl (hf _ (fl_at 215 (by decide +kernel)))
    · exact Or.inl (hf _ (fl_at 233 (by decide +kernel)))
    · exact Or.inl (hf _ (fl_at 254 (by decide +kernel)))
  · rcases hcj with rfl | rfl | rfl | rfl | rfl | rfl | rfl | rfl | rfl | rfl | rfl | rfl | rfl | rfl
    · exact Or.inr (hf _ (fl_at 140 (by decide +kernel)))
    · exact Or.inr (hf _ (fl_at 141 (by decide +kernel)))
    · exact Or.inr (hf _ (fl_at 142 (by decide +kernel)))
    · exact Or.inr (hf _ (fl_at 143 (by decide +kernel)))
    · exact Or.inr (hf _ (fl_at 144 (by decide +kernel)))
    · exact Or.inr (hf _ (fl_at 145 (by decide +kernel)))
    · exact Or.inr (hf _ (fl_at 146 (by decide +kernel)))
    · exact absurd rfl hn
    · exact Or.inl (hf _ (fl_at 163 (by decide +kernel)))
    · exact Or.inl (hf _ (fl_at 180 (by decide +kernel)))
    · exact Or.inl (hf _ (fl_at 198 (by decide +kernel)))
    · exact Or.inl (hf _ (fl_at 216 (by decide +kernel)))
    · exact Or.inl (hf _ (fl_at 234 (by decide +kernel)))
    · exact Or.inl (hf _ (fl_at 255 (by decide +kernel)))
  · rcases hcj with rfl | rfl | rfl | rfl | rfl | rfl | rfl | rfl | rfl | rfl | rfl | rfl | rfl | rfl
    · exact Or.inr (hf _ (fl_at 156 (by decide +kernel)))
    · exact Or.inr (hf _ (fl_at 157 (by decide +kernel)))
    · exact Or.inr (hf _ (fl_at 158 (by decide +kernel)))
    · exact Or.inr (hf _ (fl_at 159 (by decide +kernel)))
    · exact Or.inr (hf _ (fl_at 160 (by decide +kernel)))
    · exact Or.inr (hf _ (fl_at 161 (by decide +kernel)))
    · exact Or.inr (hf _ (fl_at 162 (by decide +kernel)))
    · exact Or.inr (hf _ (fl_at 163 (by decide +kernel)))
    · exact absurd rfl hn
    · exact Or.inl (hf _ (fl_at 181 (by decide +kernel)))
    · exact Or.inl (hf _ (fl_at 199 (by decide +kernel)))
    · exact Or.inl (hf _ (fl_at 217 (by decide +kernel)))
    · exact Or.inl (hf _ (fl_at 235 (by decide +kernel)))
    · exact Or.inl (hf _ (fl_at 256 (by decide +kernel)))
  · rcases hcj with rfl | rfl | rfl | rfl | rfl | rfl | rfl | rfl | rfl | rfl | rfl | rfl | rfl | rfl
    · exact Or.inr (hf _ (fl_at 173 (by decide +kernel)))
    · exact Or.inr (hf _ (fl_at 174 (by decide +kernel)))
    · exact Or.inr (hf _ (fl_at 175 (by decide +kernel)))
    · exact Or.inr (hf _ (fl_at 176 (by decide +kernel)))
    · exact Or.inr (hf _ (fl_at 177 (by decide +kernel)))
    · exact Or.inr (hf _ (fl_at 178 (by decide +kernel)))
    · exact Or.inr (hf _ (fl_at 179 (by decide +kernel)))
    · exact Or.inr (hf _ (fl_at 180 (by decide +kernel)))
    · exact Or.inr (hf _ (fl_at 181 (by decide +kernel)))
    · exact absurd rfl hn
    · exact Or.inl (hf _ (fl_at 200 (by decide +kernel)))
    · exact Or.inl (hf _ (fl_at 218 (by decide +kernel)))
    · exact Or.inl (hf _ (fl_at 236 (by decide +kernel)))
    · exact Or.inl (hf _ (fl_at 257 (by decide +kernel)))
  · rcases hcj with rfl | rfl | rfl | rfl | rfl | rfl | rfl | rfl | rfl | rfl | rfl | rfl | rfl | rfl
    · exact Or.inr (hf _ (fl_at 191 (by decide +kernel)))
    · exact Or.inr (hf _ (fl_at 192 (by decide +kernel)))
    · exact Or.inr (hf _ (fl_at 193 (by decide +kernel)))
    · exact Or.inr (hf _ (fl_at 194 (by decide +kernel)))
    · exact Or.inr (hf _ (fl_at 195 (by decide +kernel)))
    · exact Or.inr (hf _ (fl_at 196 (by decide +kernel)))
    · exact Or.inr (hf _ (fl_at 197 (by decide +kernel)))
    · exact Or.inr (hf _ (fl_at 198 (by decide +kernel)))
    · exact Or.inr (hf _ (fl_at 199 (by decide +kernel)))
    · exact Or.inr (hf _ (fl_at 200 (by decide +kernel)))
    · exact absurd rfl hn
    · exact Or.inl (hf _ (fl_at 219 (by decide +kernel)))
    · exact Or.inl (hf _ (fl_at 237 (by decide +kernel)))
    · exact Or.inl (hf _ (fl_at 258 (by decide +kernel)))
  · rcases hcj with rfl | rfl | rfl | rfl | rfl | rfl | rfl | rfl | rfl | rfl | rfl | rfl | rfl | rfl
    · exact Or.inr (hf _ (fl_at 209 (by decide +kernel)))
    · exact Or.inr (hf _ (fl_at 210 (by decide +kernel)))
    · exact Or.inr (hf _ (fl_at 211 (by decide +kernel)))
    · exact Or.inr (hf _ (fl_at 212 (by decide +kernel)))
    · exact Or.inr (hf _ (fl_at 213 (by decide +kernel)))
    · exact Or.inr (hf _ (fl_at 214 (by decide +kernel)))
    · exact Or.inr (hf _ (fl_at 215 (by decide +kernel)))
    · exact Or.inr (hf _ (fl_at 216 (by decide +kernel)))
    · exact Or.inr (hf _ (fl_at 217 (by decide +kernel)))
    · exact Or.inr (hf _ (fl_at 218 (by decide +kernel)))
    · exact Or.inr (hf _ (fl_at 219 (by decide +kernel)))
    · exact absurd rfl hn
    · exact Or.inl (hf _ (fl_at 238 (by decide +kernel)))
    · exact Or.inl (hf _ (fl_at 259 (by decide +kernel)))
  · rcases hcj with rfl | rfl | rfl | rfl | rfl | rfl | rfl | rfl | rfl | rfl | rfl | rfl | rfl | rfl
    · exact Or.inr (hf _ (fl_at 227 (by decide +kernel)))
    · exact Or.inr (hf _ (fl_at 228 (by decide +kernel)))
    · exact Or.inr (hf _ (fl_at 229 (by decide +kernel)))
    · exact Or.inr (hf _ (fl_at 230 (by decide +kernel)))
    · exact Or.inr (hf _ (fl_at 231 (by decide +kernel)))
    · exact Or.inr (hf _ (fl_at 232 (by decide +kernel)))
    · exact Or.inr (hf _ (fl_at 233 (by decide +kernel)))
    · exact Or.inr (hf _ (fl_at 234 (by decide +kernel)))
    · exact Or.inr (hf _ (fl_at 235 (by decide +kernel)))
    · exact Or.inr (hf _ (fl_at 236 (by decide +kernel)))
    · exact Or.inr (hf _ (fl_at 237 (by decide +kernel)))
    · exact Or.inr (hf _ (fl_at 238 (by decide +kernel)))
    · exact absurd rfl hn
    · exact Or.inl (hf _ (fl_at 260 (by decide +kernel)))
  · rcases hcj with rfl | rfl | rfl | rfl | rfl | rfl | rfl | rfl | rfl | rfl | rfl | rfl | rfl | rfl
    · exact Or.inr (hf _ (fl_at 248 (by decide +kernel)))
    · exact Or.inr (hf _ (fl_at 249 (by decide +kernel)))
    · exact Or.inr (hf _ (fl_at 250 (by decide +kernel)))
    · exact Or.inr (hf _ (fl_at 251 (by decide +kernel)))
    · exact Or.inr (hf _ (fl_at 252 (by decide +kernel)))
    · exact Or.inr (hf _ (fl_at 253 (by decide +kernel)))
    · exact Or.inr (hf _ (fl_at 254 (by decide +kernel)))
    · exact Or.inr (hf _ (fl_at 255 (by decide +kernel)))
    · exact Or.inr (hf _ (fl_at 256 (by decide +kernel)))
    · exact Or.inr (hf _ (fl_at 257 (by decide +kernel)))
    · exact Or.inr (hf _ (fl_at 258 (by decide +kernel)))
    · exact Or.inr (hf _ (fl_at 259 (by decide +kernel)))
    · exact Or.inr (hf _ (fl_at 260 (by decide +kernel)))
    · exact absurd rfl hn
theorem ss_ex (hf : ∀ w ∈ FLT, w.before #[Value.ref b] s = true) : ∀ i : Nat, i < 14 → (Cond.exactly (tmS i) "java/lang/String").before #[Value.ref b] s = true := by
  intro i hi
  have hc : i = 0 ∨ i = 1 ∨ i = 2 ∨ i = 3 ∨ i = 4 ∨ i = 5 ∨ i = 6 ∨ i = 7 ∨ i = 8 ∨ i = 9 ∨ i = 10 ∨ i = 11 ∨ i = 12 ∨ i = 13 := by omega
  rcases hc with rfl | rfl | rfl | rfl | rfl | rfl | rfl | rfl | rfl | rfl | rfl | rfl | rfl | rfl
  · exact hf _ (fl_at 45 (by decide +kernel))
  · exact hf _ (fl_at 53 (by decide +kernel))
  · exact hf _ (fl_at 62 (by decide +kernel))
  · exact hf _ (fl_at 72 (by decide +kernel))
  · exact hf _ (fl_at 83 (by decide +kernel))
  · exact hf _ (fl_at 96 (by decide +kernel))
  · exact hf _ (fl_at 109 (by decide +kernel))
  · exact hf _ (fl_at 129 (by decide +kernel))
  · exact hf _ (fl_at 147 (by decide +kernel))
  · exact hf _ (fl_at 164 (by decide +kernel))
  · exact hf _ (fl_at 182 (by decide +kernel))
  · exact hf _ (fl_at 201 (by decide +kernel))
  · exact hf _ (fl_at 220 (by decide +kernel))
  · exact hf _ (fl_at 239 (by decide +kernel))
theorem ss_co (hf : ∀ w ∈ FLT, w.before #[Value.ref b] s = true) : ∀ i : Nat, i < 14 → (Cond.eq (.field (tmS i) "java/lang/String" "coder" "B") (.int 0)).before #[Value.ref b] s = true := by
  intro i hi
  have hc : i = 0 ∨ i = 1 ∨ i = 2 ∨ i = 3 ∨ i = 4 ∨ i = 5 ∨ i = 6 ∨ i = 7 ∨ i = 8 ∨ i = 9 ∨ i = 10 ∨ i = 11 ∨ i = 12 ∨ i = 13 := by omega
  rcases hc with rfl | rfl | rfl | rfl | rfl | rfl | rfl | rfl | rfl | rfl | rfl | rfl | rfl | rfl
  · exact hf _ (fl_at 46 (by decide +kernel))
  · exact hf _ (fl_at 54 (by decide +kernel))
  · exact hf _ (fl_at 63 (by decide +kernel))
  · exact hf _ (fl_at 73 (by decide +kernel))
  · exact hf _ (fl_at 84 (by decide +kernel))
  · exact hf _ (fl_at 97 (by decide +kernel))
  · exact hf _ (fl_at 110 (by decide +kernel))
  · exact hf _ (fl_at 130 (by decide +kernel))
  · exact hf _ (fl_at 148 (by decide +kernel))
  · exact hf _ (fl_at 165 (by decide +kernel))
  · exact hf _ (fl_at 183 (by decide +kernel))
  · exact hf _ (fl_at 202 (by decide +kernel))
  · exact hf _ (fl_at 221 (by decide +kernel))
  · exact hf _ (fl_at 240 (by decide +kernel))
theorem ss_ar (hf : ∀ w ∈ FLT, w.before #[Value.ref b] s = true) : ∀ i : Nat, i < 14 → (Cond.arrayOf (.field (tmS i) "java/lang/String" "value" "[B") .byte).before #[Value.ref b] s = true := by
  intro i hi
  have hc : i = 0 ∨ i = 1 ∨ i = 2 ∨ i = 3 ∨ i = 4 ∨ i = 5 ∨ i = 6 ∨ i = 7 ∨ i = 8 ∨ i = 9 ∨ i = 10 ∨ i = 11 ∨ i = 12 ∨ i = 13 := by omega
  rcases hc with rfl | rfl | rfl | rfl | rfl | rfl | rfl | rfl | rfl | rfl | rfl | rfl | rfl | rfl
  · exact hf _ (fl_at 47 (by decide +kernel))
  · exact hf _ (fl_at 55 (by decide +kernel))
  · exact hf _ (fl_at 64 (by decide +kernel))
  · exact hf _ (fl_at 74 (by decide +kernel))
  · exact hf _ (fl_at 85 (by decide +kernel))
  · exact hf _ (fl_at 98 (by decide +kernel))
  · exact hf _ (fl_at 111 (by decide +kernel))
  · exact hf _ (fl_at 131 (by decide +kernel))
  · exact hf _ (fl_at 149 (by decide +kernel))
  · exact hf _ (fl_at 166 (by decide +kernel))
  · exact hf _ (fl_at 184 (by decide +kernel))
  · exact hf _ (fl_at 203 (by decide +kernel))
  · exact hf _ (fl_at 222 (by decide +kernel))
  · exact hf _ (fl_at 241 (by decide +kernel))
theorem ss_le (hf : ∀ w ∈ FLT, w.before #[Value.ref b] s = true) : ∀ i : Nat, i < 14 → (Cond.eq (.length (.field (tmS i) "java/lang/String" "value" "[B")) (.int (Int32.ofNat (jsL.getD i 0)))).before #[Value.ref b] s = true := by
  intro i hi
  have hc : i = 0 ∨ i = 1 ∨ i = 2 ∨ i = 3 ∨ i = 4 ∨ i = 5 ∨ i = 6 ∨ i = 7 ∨ i = 8 ∨ i = 9 ∨ i = 10 ∨ i = 11 ∨ i = 12 ∨ i = 13 := by omega
  rcases hc with rfl | rfl | rfl | rfl | rfl | rfl | rfl | rfl | rfl | rfl | rfl | rfl | rfl | rfl
  · exact hf _ (fl_at 48 (by decide +kernel))
  · exact hf _ (fl_at 56 (by decide +kernel))
  · exact hf _ (fl_at 65 (by decide +kernel))
  · exact hf _ (fl_at 75 (by decide +kernel))
  · exact hf _ (fl_at 86 (by decide +kernel))
  · exact hf _ (fl_at 99 (by decide +kernel))
  · exact hf _ (fl_at 112 (by decide +kernel))
  · exact hf _ (fl_at 132 (by decide +kernel))
  · exact hf _ (fl_at 150 (by decide +kernel))
  · exact hf _ (fl_at 167 (by decide +kernel))
  · exact hf _ (fl_at 185 (by decide +kernel))
  · exact hf _ (fl_at 204 (by decide +kernel))
  · exact hf _ (fl_at 223 (by decide +kernel))
  · exact hf _ (fl_at 242 (by decide +kernel))
theorem ss_el (hf : ∀ w ∈ FLT, w.before #[Value.ref b] s = true) : ∀ i : Nat, i < 14 → ∀ j : Nat, j < jsL.getD i 0 → (Cond.eq (.elem (.field (tmS i) "java/lang/String" "value" "[B") (.int (Int32.ofNat j))) (.int ((jsB.getD i []).getD j 0))).before #[Value.ref b] s = true := by
  intro i hi j hj
  have hc : i = 0 ∨ i = 1 ∨ i = 2 ∨ i = 3 ∨ i = 4 ∨ i = 5 ∨ i = 6 ∨ i = 7 ∨ i = 8 ∨ i = 9 ∨ i = 10 ∨ i = 11 ∨ i = 12 ∨ i = 13 := by omega
  rcases hc with rfl | rfl | rfl | rfl | rfl | rfl | rfl | rfl | rfl | rfl | rfl | rfl | rfl | rfl
  · have hj : j < 4 := hj
    have hd : j = 0 ∨ j = 1 ∨ j = 2 ∨ j = 3 := by omega
    rcases hd with rfl | rfl | rfl | rfl
    · exact hf _ (fl_at 49 (by decide +kernel))
    · exact hf _ (fl_at 50 (by decide +kernel))
    · exact hf _ (fl_at 51 (by decide +kernel))
    · exact hf _ (fl_at 52 (by decide +kernel))
  · have hj : j < 4 := hj
    have hd : j = 0 ∨ j = 1 ∨ j = 2 ∨ j = 3 := by omega
    rcases hd with rfl | rfl | rfl | rfl
    · exact hf _ (fl_at 57 (by decide +kernel))
    · exact hf _ (fl_at 58 (by decide +kernel))
    · exact hf _ (fl_at 59 (by decide +kernel))
    · exact hf _ (fl_at 60 (by decide +kernel))
  · have hj : j < 4 := hj
    have hd : j = 0 ∨ j = 1 ∨ j = 2 ∨ j = 3 := by omega
    rcases hd with rfl | rfl | rfl | rfl
    · exact hf _ (fl_at 66 (by decide +kernel))
    · exact hf _ (fl_at 67 (by decide +kernel))
    · exact hf _ (fl_at 68 (by decide +kernel))
    · exact hf _ (fl_at 69 (by decide +kernel))
  · have hj : j < 4 := hj
    have hd : j = 0 ∨ j = 1 ∨ j = 2 ∨ j = 3 := by omega
    rcases hd with rfl | rfl | rfl | rfl
    · exact hf _ (fl_at 76 (by decide +kernel))
    · exact hf _ (fl_at 77 (by decide +kernel))
    · exact hf _ (fl_at 78 (by decide +kernel))
    · exact hf _ (fl_at 79 (by decide +kernel))
  · have hj : j < 5 := hj
    have hd : j = 0 ∨ j = 1 ∨ j = 2 ∨ j = 3 ∨ j = 4 := by omega
    rcases hd with rfl | rfl | rfl | rfl | rfl
    · exact hf _ (fl_at 87 (by decide +kernel))
    · exact hf _ (fl_at 88 (by decide +kernel))
    · exact hf _ (fl_at 89 (by decide +kernel))
    · exact hf _ (fl_at 90 (by decide +kernel))
    · exact hf _ (fl_at 91 (by decide +kernel))
  · have hj : j < 4 := hj
    have hd : j = 0 ∨ j = 1 ∨ j = 2 ∨ j = 3 := by omega
    rcases hd with rfl | rfl | rfl | rfl
    · exact hf _ (fl_at 100 (by decide +kernel))
    · exact hf _ (fl_at 101 (by decide +kernel))
    · exact hf _ (fl_at 102 (by decide +kernel))
    · exact hf _ (fl_at 103 (by decide +kernel))
  · have hj : j < 10 := hj
    have hd : j = 0 ∨ j = 1 ∨ j = 2 ∨ j = 3 ∨ j = 4 ∨ j = 5 ∨ j = 6 ∨ j = 7 ∨ j = 8 ∨ j = 9 := by omega
    rcases hd with rfl | rfl | rfl | rfl | rfl | rfl | rfl | rfl | rfl | rfl
    · exact hf _ (fl_at 113 (by decide +kernel))
    · exact hf _ (fl_at 114 (by decide +kernel))
    · exact hf _ (fl_at 115 (by decide +kernel))
    · exact hf _ (fl_at 116 (by decide +kernel))
    · exact hf _ (fl_at 117 (by decide +kernel))
    · exact hf _ (fl_at 118 (by decide +kernel))
    · exact hf _ (fl_at 119 (by decide +kernel))
    · exact hf _ (fl_at 120 (by decide +kernel))
    · exact hf _ (fl_at 121 (by decide +kernel))
    · exact hf _ (fl_at 122 (by decide +kernel))
  · have hj : j < 7 := hj
    have hd : j = 0 ∨ j = 1 ∨ j = 2 ∨ j = 3 ∨ j = 4 ∨ j = 5 ∨ j = 6 := by omega
    rcases hd with rfl | rfl | rfl | rfl | rfl | rfl | rfl
    · exact hf _ (fl_at 133 (by decide +kernel))
    · exact hf _ (fl_at 134 (by decide +kernel))
    · exact hf _ (fl_at 135 (by decide +kernel))
    · exact hf _ (fl_at 136 (by decide +kernel))
    · exact hf _ (fl_at 137 (by decide +kernel))
    · exact hf _ (fl_at 138 (by decide +kernel))
    · exact hf _ (fl_at 139 (by decide +kernel))
  · have hj : j < 5 := hj
    have hd : j = 0 ∨ j = 1 ∨ j = 2 ∨ j = 3 ∨ j = 4 := by omega
    rcases hd with rfl | rfl | rfl | rfl | rfl
    · exact hf _ (fl_at 151 (by decide +kernel))
    · exact hf _ (fl_at 152 (by decide +kernel))
    · exact hf _ (fl_at 153 (by decide +kernel))
    · exact hf _ (fl_at 154 (by decide +kernel))
    · exact hf _ (fl_at 155 (by decide +kernel))
  · have hj : j < 5 := hj
    have hd : j = 0 ∨ j = 1 ∨ j = 2 ∨ j = 3 ∨ j = 4 := by omega
    rcases hd with rfl | rfl | rfl | rfl | rfl
    · exact hf _ (fl_at 168 (by decide +kernel))
    · exact hf _ (fl_at 169 (by decide +kernel))
    · exact hf _ (fl_at 170 (by decide +kernel))
    · exact hf _ (fl_at 171 (by decide +kernel))
    · exact hf _ (fl_at 172 (by decide +kernel))
  · have hj : j < 5 := hj
    have hd : j = 0 ∨ j = 1 ∨ j = 2 ∨ j = 3 ∨ j = 4 := by omega
    rcases hd with rfl | rfl | rfl | rfl | rfl
    · exact hf _ (fl_at 186 (by decide +kernel))
    · exact hf _ (fl_at 187 (by decide +kernel))
    · exact hf _ (fl_at 188 (by decide +kernel))
    · exact hf _ (fl_at 189 (by decide +kernel))
    · exact hf _ (fl_at 190 (by decide +kernel))
  · have hj : j < 4 := hj
    have hd : j = 0 ∨ j = 1 ∨ j = 2 ∨ j = 3 := by omega
    rcases hd with rfl | rfl | rfl | rfl
    · exact hf _ (fl_at 205 (by decide +kernel))
    · exact hf _ (fl_at 206 (by decide +kernel))
    · exact hf _ (fl_at 207 (by decide +kernel))
    · exact hf _ (fl_at 208 (by decide +kernel))
  · have hj : j < 3 := hj
    have hd : j = 0 ∨ j = 1 ∨ j = 2 := by omega
    rcases hd with rfl | rfl | rfl
    · exact hf _ (fl_at 224 (by decide +kernel))
    · exact hf _ (fl_at 225 (by decide +kernel))
    · exact hf _ (fl_at 226 (by decide +kernel))
  · have hj : j < 5 := hj
    have hd : j = 0 ∨ j = 1 ∨ j = 2 ∨ j = 3 ∨ j = 4 := by omega
    rcases hd with rfl | rfl | rfl | rfl | rfl
    · exact hf _ (fl_at 243 (by decide +kernel))
    · exact hf _ (fl_at 244 (by decide +kernel))
    · exact hf _ (fl_at 245 (by decide +kernel))
    · exact hf _ (fl_at 246 (by decide +kernel))
    · exact hf _ (fl_at 247 (by decide +kernel))
theorem ss_rf (ht : ∀ w ∈ lw_tbl, w.before #[Value.ref b] s = true) : ∀ i : Nat, i < 14 → (Cond.stringRef RX3 (jsK.getD i 0) (jsT.getD i "")).before #[Value.ref b] s = true := by
  intro i hi
  have hc : i = 0 ∨ i = 1 ∨ i = 2 ∨ i = 3 ∨ i = 4 ∨ i = 5 ∨ i = 6 ∨ i = 7 ∨ i = 8 ∨ i = 9 ∨ i = 10 ∨ i = 11 ∨ i = 12 ∨ i = 13 := by omega
  rcases hc with rfl | rfl | rfl | rfl | rfl | rfl | rfl | rfl | rfl | rfl | rfl | rfl | rfl | rfl
  · exact ht _ (tb_2 8 (by decide +kernel))
  · exact ht _ (tb_2 61 (by decide +kernel))
  · exact ht _ (tb_2 62 (by decide +kernel))
  · exact ht _ (tb_2 63 (by decide +kernel))
  · exact ht _ (tb_2 82 (by decide +kernel))
  · exact ht _ (tb_2 83 (by decide +kernel))
  · exact ht _ (tb_2 84 (by decide +kernel))
  · exact ht _ (tb_2 85 (by decide +kernel))
  · exact ht _ (tb_2 86 (by decide +kernel))
  · exact ht _ (tb_2 87 (by decide +kernel))
  · exact ht _ (tb_2 100 (by decide +kernel))
  · exact ht _ (tb_2 105 (by decide +kernel))
  · exact ht _ (tb_2 106 (by decide +kernel))
  · exact ht _ (tb_2 107 (by decide +kernel))
theorem st_nw (ht : ∀ w ∈ lw_tbl, w.before #[Value.ref b] s = true) : NW s := ⟨va_Nw.of rfl (ht _ (tb_1 25 (by decide +kernel))), va_Nw.of rfl (ht _ (tb_1 70 (by decide +kernel))), va_Nw.of rfl (ht _ (tb_1 75 (by decide +kernel))), va_Nw.of rfl (ht _ (tb_1 105 (by decide +kernel))), va_Nw.of rfl (ht _ (tb_1 132 (by decide +kernel))), va_Nw.of rfl (ht _ (tb_1 153 (by decide +kernel))), va_Nw.of rfl (ht _ (tb_2 147 (by decide +kernel))), va_Nw.of rfl (ht _ (tb_2 212 (by decide +kernel))), va_Nw.of rfl (ht _ (tb_1 29 (by decide +kernel))), va_Nw.of rfl (ht _ (tb_2 68 (by decide +kernel)))⟩
def adN (t0 t1 t2 : Nat) (f g : Nat → Nat) (k : Nat) : Nat := if k = 0 then t0 else if k = 1 then t1 else if k = 2 then t2 else if k < 30 then f (k - 10) else g (k - 30)
theorem st_all (hf : ∀ w ∈ FLT, w.before #[Value.ref b] s = true) (ht : ∀ w ∈ lw_tbl, w.before #[Value.ref b] s = true) : ∃ ad : Nat → Nat, SF ad (fun q => s.heap.size ≤ q) s s.heap ∧ AOs ad s s.heap := by
  obtain ⟨t0, a0, a1, a2⟩ := sb_LAW_AT_FIRST hf ht
  obtain ⟨t1, b0, b1, b2⟩ := sb_LAW_MOST hf ht
  obtain ⟨t2, c0, c1, c2⟩ := sb_TRAIT_MOST hf ht
  obtain ⟨f, g, d1, d2⟩ := vk_Sof (N := 14) (tm := tmS) (len := jsL) (byt := jsB) (A := (fun q => s.heap.size ≤ q)) (fun i hi => by have := (js_l i hi).2; omega) (ss_ex hf) (ss_co hf) (ss_ar hf) (ss_le hf) (ss_el hf) (ss_ne hf) (fun a h k => absurd h (Nat.not_lt.mpr k))
  have e1 : ∀ i, i < 14 → adN t0 t1 t2 f g (10 + i) = f i := fun i hi => by
    unfold adN; rw [if_neg (by omega), if_neg (by omega), if_neg (by omega), if_pos (by omega), Nat.add_sub_cancel_left]
  have e2 : ∀ i, i < 14 → adN t0 t1 t2 f g (30 + i) = g i := fun i hi => by
    unfold adN; rw [if_neg (by omega), if_neg (by omega), if_neg (by omega), if_neg (by omega), Nat.add_sub_cancel_left]
  refine ⟨adN t0 t1 t2 f g, ⟨⟨a1, a2⟩, ⟨b1, b2⟩, ⟨c1, c2⟩, va_Zof (ht _ (tb_2 22 (by decide +kernel))) (ht _ (alw_tbl in_RJ0)) (va_eqi (hf _ (fl_at 11 (by decide +kernel)))) (fun a h k => absurd h (Nat.not_lt.mpr k)), va_Zqof (ht _ (tb_2 38 (by decide +kernel))) (ht _ (alw_tbl in_RJ3)) (hf _ (fl_at 12 (by decide +kernel))) (fun a h k => absurd h (Nat.not_lt.mpr k)), vk_S_as d1 e1 e2, fun i hi => ?_, st_nw ht⟩, ?_⟩
  · rw [e1 i hi]; exact vk_R.of (ss_rf ht i hi) (d2 i hi)
  · obtain ⟨cell, q1, q2⟩ := len_ex (by decide) (sl_LAW_AT_FIRST hf) a0
    obtain ⟨a, c, cA, kA, r1, r2, r3, -, -, r6, -⟩ := Cond.exactly_spec (args := #[Value.ref b]) (first := s) (o := none) (s := s) (idx := []) (t := Term.static "WoolMarket" "LAW_AT_FIRST" "[I") (cls := "[I") (hf _ (fl_at 264 (by decide +kernel)))
    cases a0.symm.trans r1
    cases q1.symm.trans r3
    exact ⟨(show (Cond.arrayOver (.array .int)).before #[] s = true from ht (Cond.arrayOver (.array .int)) (tb_1 39 (by decide +kernel))), va_AO.of (ht _ (tb_1 100 (by decide +kernel))), va_AO.of (ht _ (tb_1 102 (by decide +kernel))), va_Nw.of rfl (ht _ (tb_1 36 (by decide +kernel))), cell, q1, q2, by rw [r6]; exact r2⟩
theorem st_K (hall : ∀ w ∈ ALLW, w.before #[Value.ref b] s = true) (ht : ∀ w ∈ lw_tbl, w.before #[Value.ref b] s = true) : ∃ (D : va_G) (cs : Nat → ClassId), va_K D vwCl (tysW cs) s := by
  obtain ⟨c0, i0, k0⟩ := u_known (ws := ALLW) (C := RX0) (T := TX0) (N := 6) hall iw_0 (hall _ ia_RX0)
  obtain ⟨c1, i1, k1⟩ := u_known (ws := ALLW) (C := RX1) (T := TX1) (N := 3) hall iw_1 (hall _ ia_RX1)
  obtain ⟨c2, i2, k2⟩ := u_known (ws := ALLW) (C := RX2) (T := TX2) (N := 3) hall iw_2 (hall _ ia_RX2)
  obtain ⟨c3, i3, k3⟩ := u_known (ws := ALLW) (C := RX3) (T := TX3) (N := 6) hall iw_3 (hall _ ia_RX3)
  obtain ⟨c4, i4, k4⟩ := u_known (ws := ALLW) (C := RX4) (T := TX4) (N := 6) hall iw_4 (hall _ ia_RX4)
  obtain ⟨c5, i5, k5⟩ := u_known (ws := ALLW) (C := RX5) (T := TX5) (N := 11) hall iw_5 (hall _ ia_RX5)
  obtain ⟨c6, i6, k6⟩ := u_known (ws := ALLW) (C := RX6) (T := TX6) (N := 27) hall iw_6 (hall _ ia_RX6)
  obtain ⟨a0, x0, y0, p0, q0, r0⟩ := Cond.arrayClass_spec (type := .int) (hall _ ac_int)
  obtain ⟨a1, x1, y1, p1, q1, r1⟩ := Cond.arrayClass_spec (type := .byte) (hall _ ac_byte)
  obtain ⟨a2, x2, y2, p2, q2, r2⟩ := Cond.arrayClass_spec (type := .long) (hall _ ac_long)
  obtain ⟨y3, a3, x3, p3, -, q3, r3, u3⟩ := arrayOverA_spec (t := .int) (ht (Cond.arrayOver (.array .int)) (tb_1 39 (by decide +kernel)))
  obtain ⟨y4, a4, x4, p4, -, q4, r4, u4⟩ := Cond.arrayOver_spec (n := "WoolMarket$Sheet") (ht _ (tb_1 100 (by decide +kernel)))
  obtain ⟨y5, a5, x5, p5, -, q5, r5, u5⟩ := Cond.arrayOver_spec (n := "WoolMarket$Shelf") (ht _ (tb_1 102 (by decide +kernel)))
  refine ⟨(fun c => if c = 0 then c0 else if c = 1 then c1 else if c = 2 then c2 else if c = 3 then c3 else if c = 4 then c4 else if c = 5 then c5 else c6, fun c => if c = 0 then i0 else if c = 1 then i1 else if c = 2 then i2 else if c = 3 then i3 else if c = 4 then i4 else if c = 5 then i5 else i6), fun k => if k = 0 then a0 else if k = 1 then a1 else if k = 2 then a2 else if k = 3 then a3 else if k = 4 then a4 else a5, fun c q hq => ?_, fun k q hk => ?_⟩
  · have hl : c < 7 := (List.getElem?_eq_some_iff.mp hq).1
    have hc : c = 0 ∨ c = 1 ∨ c = 2 ∨ c = 3 ∨ c = 4 ∨ c = 5 ∨ c = 6 := by omega
    rcases hc with rfl | rfl | rfl | rfl | rfl | rfl | rfl
    · cases hq; exact k0
    · cases hq; exact k1
    · cases hq; exact k2
    · cases hq; exact k3
    · cases hq; exact k4
    · cases hq; exact k5
    · cases hq; exact k6
  · have hl : k < 6 := (List.getElem?_eq_some_iff.mp hk).1
    have hc : k = 0 ∨ k = 1 ∨ k = 2 ∨ k = 3 ∨ k = 4 ∨ k = 5 := by omega
    rcases hc with rfl | rfl | rfl | rfl | rfl | rfl
    · cases hk; exact ⟨arr_of q0 r0, p0⟩
    · cases hk; exact ⟨arr_of q1 r1, p1⟩
    · cases hk; exact ⟨arr_of q2 r2, p2⟩
    · cases hk; exact ⟨arr_of q3 r3, u3⟩
    · cases hk; exact ⟨arr_of q4 r4, ⟨x4, y4, q4, r4, p4, u4⟩⟩
    · cases hk; exact ⟨arr_of q5 r5, ⟨x5, y5, q5, r5, p5, u5⟩⟩
end START
theorem rel0 : Rel sX0 sM0 := by
  refine ⟨⟨0, by decide, rfl, fun j _ => rfl, ⟨by decide +kernel, fun o ho => absurd ho (Nat.not_lt_zero o)⟩, by decide +kernel, fun o ho => absurd ho (Nat.not_lt_zero o)⟩, rfl, fun k => absurd rfl k, rfl, fun j => ?_, ⟨0, by decide, rfl, rfl⟩, rfl, ⟨0, by decide, rfl, rfl⟩, rfl, rfl, rfl, fun t _ => ⟨0, by decide, rfl⟩, fun t _ => ?_, rfl, fun g => Or.inl rfl, fun g q => ?_, fun g q => ?_, rfl, ⟨0, by decide, rfl, rfl⟩⟩
  · show 0 ≤ (0 : Int32).toInt ∧ (0 : Int32).toInt ≤ 255
    decide
  · show -1 ≤ (-1 : Int32).toInt
    decide
  · exact absurd (show (0 : Int32) = 1 from q) (by decide)
  · exact absurd (show (0 : Int32) = 2 from q) (by decide)
theorem dL_law_0 : decode cL_law 0 = .ok (.new 7, 3) := by decide +kernel
theorem dL_law_3 : decode cL_law 3 = .ok (.dup, 1) := by decide +kernel
theorem dL_law_4 : decode cL_law 4 = .ok (.invokespecial 9, 3) := by decide +kernel
theorem dL_law_7 : decode cL_law 7 = .ok (.astore_n 1, 1) := by decide +kernel
theorem dL_law_8 : decode cL_law 8 = .ok (.new 10, 3) := by decide +kernel
theorem dL_law_11 : decode cL_law 11 = .ok (.dup, 1) := by decide +kernel
theorem dL_law_12 : decode cL_law 12 = .ok (.invokespecial 12, 3) := by decide +kernel
theorem dL_law_15 : decode cL_law 15 = .ok (.astore_n 2, 1) := by decide +kernel
set_option maxHeartbeats 4000000 in
theorem lp_start {p : Program} {l : Launch} {e : Env} {s : State} {m : MethodId} {args : Array Value} {below : List Frame} {meth : Method} {c : Code} {Q : State → Prop} {ad : Nat → Nat} {D : va_G} {cs : Nat → ClassId} {A : Nat → Prop} {b L : Nat} {xs : Nat → Int32} (C : Cx p s m args c cL_law 4 RL ad D (tysW cs) A) (hO : AOs ad s s.heap) (X : Scr s A b L xs) (hL2 : L ≤ 2560) (kf : ∀ w lv, VN p l e room_1 s m args below meth c Q D A 4 78 1876 w 1655 lv [.int 1]) : VN p l e room_1 s m args below meth c Q D A 4 0 0 [] 0 [(0, .ref b)] [] := by
  refine n_new5 (pc := 0) C cl_RL_7 (by decide) (by decide) dL_law_0 (fun q5 => ?_)
  refine n_dup (pc := 3) C dL_law_3 rfl ?_
  refine n_initI (pc := 4) (w := []) C hO (c_X5_init l ad D cs) mi_5 rfl ml_RL_9 ⟨by decide, by decide⟩ ⟨rfl, rfl⟩ (Nat.le_of_ble_eq_true rfl) dL_law_4 ⟨by decide, by decide⟩ (fun hx h5 => ?_)
  subst h5
  refine n_astore_n (pc := 7) C [(1, .ref (hx 0)), (0, .ref b)] dL_law_7 rfl (by decide) rfl ?_
  refine n_new6 (pc := 8) C cl_RL_10 (by decide) (by decide) dL_law_8 (fun q6 => ?_)
  refine n_dup (pc := 11) C dL_law_11 rfl ?_
  refine n_initI (pc := 12) (w := wX cs hx sX0) C hO (c_X6_init l ad D cs) mi_6 rfl ml_RL_12 ⟨by decide, by decide⟩ ⟨rfl, rfl⟩ (Nat.le_of_ble_eq_true rfl) dL_law_12 ⟨by decide, by decide⟩ (fun hm h6 => ?_)
  subst h6
  refine n_astore_n (pc := 15) C [(2, .ref (hm 0)), (1, .ref (hx 0)), (0, .ref b)] dL_law_15 rfl (by decide) rfl ?_
  refine n_iconst (pc := 16) C (nI 0) dL_law_16 (by decide) ?_
  refine n_istore_n (pc := 17) C [(3, .int (nI 0)), (2, .ref (hm 0)), (1, .ref (hx 0)), (0, .ref b)] dL_law_17 rfl (by decide) rfl ?_
  exact lp_all C X (by omega) hL2 kf (L + 6) 0 sX0 sM0 (by omega) (by omega) rel0
